theorem inG0 : ∀ w ∈ u_ws RX0 TX0 4, w ∈ lw_good := fun w hw => by
  obtain ⟨k, hk, rfl⟩ := List.mem_map.mp hw
  exact match k, List.mem_range.mp hk with
    | 0, _ => wd_271
    | 1, _ => wd_273
    | 2, _ => wd_275
    | 3, _ => wd_277
theorem cl_0 : Cl 0 RX0 TX0 4 := ⟨rfl, by decide, inG0, tyX0_ok, nmX0⟩
theorem inG1 : ∀ w ∈ u_ws RX1 TX1 2, w ∈ lw_good := fun w hw => by
  obtain ⟨k, hk, rfl⟩ := List.mem_map.mp hw
  exact match k, List.mem_range.mp hk with
    | 0, _ => wd_256
    | 1, _ => wd_258
theorem cl_1 : Cl 1 RX1 TX1 2 := ⟨rfl, by decide, inG1, tyX1_ok, nmX1⟩
theorem inG2 : ∀ w ∈ u_ws RX2 TX2 4, w ∈ lw_good := fun w hw => by
  obtain ⟨k, hk, rfl⟩ := List.mem_map.mp hw
  exact match k, List.mem_range.mp hk with
    | 0, _ => wd_211
    | 1, _ => wd_213
    | 2, _ => wd_215
    | 3, _ => wd_217
theorem cl_2 : Cl 2 RX2 TX2 4 := ⟨rfl, by decide, inG2, tyX2_ok, nmX2⟩
theorem inG3 : ∀ w ∈ u_ws RX3 TX3 2, w ∈ lw_good := fun w hw => by
  obtain ⟨k, hk, rfl⟩ := List.mem_map.mp hw
  exact match k, List.mem_range.mp hk with
    | 0, _ => wd_181
    | 1, _ => wd_183
theorem cl_3 : Cl 3 RX3 TX3 2 := ⟨rfl, by decide, inG3, tyX3_ok, nmX3⟩
theorem inG4 : ∀ w ∈ u_ws RX4 TX4 3, w ∈ lw_good := fun w hw => by
  obtain ⟨k, hk, rfl⟩ := List.mem_map.mp hw
  exact match k, List.mem_range.mp hk with
    | 0, _ => wd_292
    | 1, _ => wd_294
    | 2, _ => wd_296
theorem cl_4 : Cl 4 RX4 TX4 3 := ⟨rfl, by decide, inG4, tyX4_ok, nmX4⟩
theorem inG5 : ∀ w ∈ u_ws RX5 TX5 3, w ∈ lw_good := fun w hw => by
  obtain ⟨k, hk, rfl⟩ := List.mem_map.mp hw
  exact match k, List.mem_range.mp hk with
    | 0, _ => wd_165
    | 1, _ => wd_167
    | 2, _ => wd_169
theorem cl_5 : Cl 5 RX5 TX5 3 := ⟨rfl, by decide, inG5, tyX5_ok, nmX5⟩
theorem inG6 : ∀ w ∈ u_ws RX6 TX6 5, w ∈ lw_good := fun w hw => by
  obtain ⟨k, hk, rfl⟩ := List.mem_map.mp hw
  exact match k, List.mem_range.mp hk with
    | 0, _ => wd_104
    | 1, _ => wd_106
    | 2, _ => wd_108
    | 3, _ => wd_110
    | 4, _ => wd_112
theorem cl_6 : Cl 6 RX6 TX6 5 := ⟨rfl, by decide, inG6, tyX6_ok, nmX6⟩
theorem inG7 : ∀ w ∈ u_ws RX7 TX7 3, w ∈ lw_good := fun w hw => by
  obtain ⟨k, hk, rfl⟩ := List.mem_map.mp hw
  exact match k, List.mem_range.mp hk with
    | 0, _ => wd_196
    | 1, _ => wd_198
    | 2, _ => wd_200
theorem cl_7 : Cl 7 RX7 TX7 3 := ⟨rfl, by decide, inG7, tyX7_ok, nmX7⟩
theorem inG8 : ∀ w ∈ u_ws RX8 TX8 8, w ∈ lw_good := fun w hw => by
  obtain ⟨k, hk, rfl⟩ := List.mem_map.mp hw
  exact match k, List.mem_range.mp hk with
    | 0, _ => wd_138
    | 1, _ => wd_140
    | 2, _ => wd_142
    | 3, _ => wd_144
    | 4, _ => wd_146
    | 5, _ => wd_148
    | 6, _ => wd_150
    | 7, _ => wd_152
theorem cl_8 : Cl 8 RX8 TX8 8 := ⟨rfl, by decide, inG8, tyX8_ok, nmX8⟩
theorem inG9 : ∀ w ∈ u_ws RX9 TX9 6, w ∈ lw_good := fun w hw => by
  obtain ⟨k, hk, rfl⟩ := List.mem_map.mp hw
  exact match k, List.mem_range.mp hk with
    | 0, _ => wd_232
    | 1, _ => wd_234
    | 2, _ => wd_236
    | 3, _ => wd_238
    | 4, _ => wd_240
    | 5, _ => wd_242
theorem cl_9 : Cl 9 RX9 TX9 6 := ⟨rfl, by decide, inG9, tyX9_ok, nmX9⟩
theorem inG10 : ∀ w ∈ u_ws RX10 TX10 9, w ∈ lw_good := fun w hw => by
  obtain ⟨k, hk, rfl⟩ := List.mem_map.mp hw
  exact match k, List.mem_range.mp hk with
    | 0, _ => wd_308
    | 1, _ => wd_310
    | 2, _ => wd_312
    | 3, _ => wd_314
    | 4, _ => wd_316
    | 5, _ => wd_318
    | 6, _ => wd_320
    | 7, _ => wd_322
    | 8, _ => wd_324
theorem cl_10 : Cl 10 RX10 TX10 9 := ⟨rfl, by decide, inG10, tyX10_ok, nmX10⟩
theorem inG11 : ∀ w ∈ u_ws RX11 TX11 24, w ∈ lw_good := fun w hw => by
  obtain ⟨k, hk, rfl⟩ := List.mem_map.mp hw
  exact match k, List.mem_range.mp hk with
    | 0, _ => wd_941
    | 1, _ => wd_943
    | 2, _ => wd_945
    | 3, _ => wd_947
    | 4, _ => wd_949
    | 5, _ => wd_951
    | 6, _ => wd_953
    | 7, _ => wd_955
    | 8, _ => wd_957
    | 9, _ => wd_959
    | 10, _ => wd_961
    | 11, _ => wd_963
    | 12, _ => wd_965
    | 13, _ => wd_967
    | 14, _ => wd_969
    | 15, _ => wd_971
    | 16, _ => wd_973
    | 17, _ => wd_975
    | 18, _ => wd_977
    | 19, _ => wd_979
    | 20, _ => wd_981
    | 21, _ => wd_983
    | 22, _ => wd_985
    | 23, _ => wd_987
    | n + 24, h => absurd h (by omega)
theorem cl_11 : Cl 11 RX11 TX11 24 := ⟨rfl, by decide, inG11, tyX11_ok, nmX11⟩
def D_X10_init : Md := (yX10_init, cX10_init, 2, none, { frames := 3, cells := 152, slots := 3944, locals := 81 }, RX10)
theorem cd_X10_init : Cd D_X10_init 0 := ⟨wd_80, wd_62, by decide +kernel⟩
def D_X10_feed : Md := (yX10_feed, cX10_feed, 2, (some .int), { frames := 2, cells := 0, slots := 0, locals := 41 }, RX10)
theorem cd_X10_feed : Cd D_X10_feed 1 := ⟨wd_330, wd_62, by decide +kernel⟩
def D_X10_pieces : Md := (yX10_pieces, cX10_pieces, 3, (some .int), { frames := 4, cells := 0, slots := 0, locals := 102 }, RX10)
theorem cd_X10_pieces : Cd D_X10_pieces 0 := ⟨wd_349, wd_62, by decide +kernel⟩
def D_X10_fault : Md := (yX10_fault, cX10_fault, 1, (some .int), { frames := 0, cells := 0, slots := 0, locals := 0 }, RX10)
theorem cd_X10_fault : Cd D_X10_fault 0 := ⟨wd_441, wd_62, by decide +kernel⟩
def D_X10_told : Md := (yX10_told, cX10_told, 2, (some .int), { frames := 6, cells := 0, slots := 0, locals := 140 }, RX10)
theorem cd_X10_told : Cd D_X10_told 1 := ⟨wd_445, wd_62, by decide +kernel⟩
def D_X10_at : Md := (yX10_at, cX10_at, 3, (some .int), { frames := 2, cells := 0, slots := 0, locals := 42 }, RX10)
theorem cd_X10_at : Cd D_X10_at 2 := ⟨wd_683, wd_62, by decide +kernel⟩
def D_X10_day : Md := (yX10_day, cX10_day, 3, (some .int), { frames := 6, cells := 0, slots := 0, locals := 140 }, RX10)
theorem cd_X10_day : Cd D_X10_day 2 := ⟨wd_691, wd_62, by decide +kernel⟩
def D_X10_word : Md := (yX10_word, cX10_word, 4, (some .int), { frames := 6, cells := 0, slots := 0, locals := 140 }, RX10)
theorem cd_X10_word : Cd D_X10_word 3 := ⟨wd_715, wd_62, by decide +kernel⟩
def D_X10_cost : Md := (yX10_cost, cX10_cost, 2, (some .int), { frames := 6, cells := 0, slots := 0, locals := 140 }, RX10)
theorem cd_X10_cost : Cd D_X10_cost 1 := ⟨wd_727, wd_62, by decide +kernel⟩
def D_X10_steady : Md := (yX10_steady, cX10_steady, 3, (some .int), { frames := 6, cells := 0, slots := 0, locals := 140 }, RX10)
theorem cd_X10_steady : Cd D_X10_steady 2 := ⟨wd_735, wd_62, by decide +kernel⟩
def D_X10_flare : Md := (yX10_flare, cX10_flare, 4, (some .int), { frames := 6, cells := 0, slots := 0, locals := 140 }, RX10)
theorem cd_X10_flare : Cd D_X10_flare 2 := ⟨wd_745, wd_62, by decide +kernel⟩
def D_X10_story : Md := (yX10_story, cX10_story, 4, (some .int), { frames := 6, cells := 0, slots := 0, locals := 140 }, RX10)
theorem cd_X10_story : Cd D_X10_story 2 := ⟨wd_752, wd_62, by decide +kernel⟩
def D_X10_together : Md := (yX10_together, cX10_together, 3, (some .int), { frames := 1, cells := 0, slots := 0, locals := 23 }, RX10)
theorem cd_X10_together : Cd D_X10_together 2 := ⟨wd_765, wd_62, by decide +kernel⟩
def D_X10_piece : Md := (yX10_piece, cX10_piece, 3, (some .int), { frames := 5, cells := 0, slots := 0, locals := 124 }, RX10)
theorem cd_X10_piece : Cd D_X10_piece 2 := ⟨wd_771, wd_62, by decide +kernel⟩
def D_X10_take : Md := (yX10_take, cX10_take, 2, (some .int), { frames := 4, cells := 0, slots := 0, locals := 102 }, RX10)
theorem cd_X10_take : Cd D_X10_take 1 := ⟨wd_780, wd_62, by decide +kernel⟩
def D_X10_move : Md := (yX10_move, cX10_move, 4, (some .int), { frames := 4, cells := 0, slots := 0, locals := 102 }, RX10)
theorem cd_X10_move : Cd D_X10_move 2 := ⟨wd_788, wd_62, by decide +kernel⟩
def D_X10_days : Md := (yX10_days, cX10_days, 3, (some .int), { frames := 4, cells := 0, slots := 0, locals := 102 }, RX10)
theorem cd_X10_days : Cd D_X10_days 1 := ⟨wd_796, wd_62, by decide +kernel⟩
def D_X10_term : Md := (yX10_term, cX10_term, 4, (some .int), { frames := 4, cells := 0, slots := 0, locals := 102 }, RX10)
theorem cd_X10_term : Cd D_X10_term 2 := ⟨wd_811, wd_62, by decide +kernel⟩
def D_X10_drift : Md := (yX10_drift, cX10_drift, 5, (some .int), { frames := 5, cells := 0, slots := 0, locals := 124 }, RX10)
theorem cd_X10_drift : Cd D_X10_drift 1 := ⟨wd_835, wd_62, by decide +kernel⟩
def D_X10_undo : Md := (yX10_undo, cX10_undo, 2, (some .int), { frames := 3, cells := 0, slots := 0, locals := 83 }, RX10)
theorem cd_X10_undo : Cd D_X10_undo 1 := ⟨wd_847, wd_62, by decide +kernel⟩
def D_X10_write : Md := (yX10_write, cX10_write, 4, (some .int), { frames := 2, cells := 0, slots := 0, locals := 43 }, RX10)
theorem cd_X10_write : Cd D_X10_write 3 := ⟨wd_855, wd_62, by decide +kernel⟩
def D_X10_tear : Md := (yX10_tear, cX10_tear, 2, (some .int), { frames := 1, cells := 0, slots := 0, locals := 20 }, RX10)
theorem cd_X10_tear : Cd D_X10_tear 0 := ⟨wd_868, wd_62, by decide +kernel⟩
def D_X10_seed : Md := (yX10_seed, cX10_seed, 3, (some .int), { frames := 0, cells := 0, slots := 0, locals := 0 }, RX10)
theorem cd_X10_seed : Cd D_X10_seed 1 := ⟨wd_876, wd_62, by decide +kernel⟩
def D_X10_keep : Md := (yX10_keep, cX10_keep, 3, (some .int), { frames := 3, cells := 0, slots := 0, locals := 83 }, RX10)
theorem cd_X10_keep : Cd D_X10_keep 1 := ⟨wd_880, wd_62, by decide +kernel⟩
def D_X10_goBack : Md := (yX10_goBack, cX10_goBack, 3, (some .int), { frames := 2, cells := 0, slots := 0, locals := 61 }, RX10)
theorem cd_X10_goBack : Cd D_X10_goBack 1 := ⟨wd_897, wd_62, by decide +kernel⟩
def D_X10_isWord : Md := (yX10_isWord, cX10_isWord, 1, (some .boolean), { frames := 0, cells := 0, slots := 0, locals := 0 }, RX10)
theorem cd_X10_isWord : Cd D_X10_isWord 1 := ⟨wd_387, wd_62, by decide +kernel⟩
def D_X10_setOfWord : Md := (yX10_setOfWord, cX10_setOfWord, 1, (some .int), { frames := 0, cells := 0, slots := 0, locals := 0 }, RX10)
theorem cd_X10_setOfWord : Cd D_X10_setOfWord 1 := ⟨wd_390, wd_62, by decide +kernel⟩
def D_X10_aheadOfDeed : Md := (yX10_aheadOfDeed, cX10_aheadOfDeed, 1, none, { frames := 3, cells := 0, slots := 0, locals := 82 }, RX10)
theorem cd_X10_aheadOfDeed : Cd D_X10_aheadOfDeed 0 := ⟨wd_402, wd_62, by decide +kernel⟩
def D_X10_comes : Md := (yX10_comes, cX10_comes, 3, none, { frames := 4, cells := 0, slots := 0, locals := 102 }, RX10)
theorem cd_X10_comes : Cd D_X10_comes 2 := ⟨wd_776, wd_62, by decide +kernel⟩
def D_X10_draw : Md := (yX10_draw, cX10_draw, 2, (some .int), { frames := 0, cells := 0, slots := 0, locals := 0 }, RX10)
theorem cd_X10_draw : Cd D_X10_draw 1 := ⟨wd_839, wd_62, by decide +kernel⟩
def D_X10_imageOf : Md := (yX10_imageOf, cX10_imageOf, 2, (some (.object "FlaringWords$Image")), { frames := 0, cells := 0, slots := 0, locals := 0 }, RX10)
theorem cd_X10_imageOf : Cd D_X10_imageOf 1 := ⟨wd_884, wd_62, by decide +kernel⟩
def D_X10_found : Md := (yX10_found, cX10_found, 1, (some (.object "FlaringWords$Findings")), { frames := 5, cells := 0, slots := 0, locals := 120 }, RX10)
theorem cd_X10_found : Cd D_X10_found 0 := ⟨wd_449, wd_62, by decide +kernel⟩
def D_X11_init : Md := (yX11_init, cX11_init, 1, none, { frames := 1, cells := 15, slots := 2700, locals := 40 }, RX11)
theorem cd_X11_init : Cd D_X11_init 0 := ⟨wd_915, wd_73, by decide +kernel⟩
def D_X11_in : Md := (yX11_in, cX11_in, 6, (some .boolean), { frames := 0, cells := 0, slots := 0, locals := 0 }, RX11)
theorem cd_X11_in : Cd D_X11_in 3 := ⟨wd_997, wd_73, by decide +kernel⟩
def D_X11_has : Md := (yX11_has, cX11_has, 2, (some .boolean), { frames := 0, cells := 0, slots := 0, locals := 0 }, RX11)
theorem cd_X11_has : Cd D_X11_has 2 := ⟨wd_1248, wd_73, by decide +kernel⟩
def D_X11_copyRow : Md := (yX11_copyRow, cX11_copyRow, 4, none, { frames := 0, cells := 0, slots := 0, locals := 0 }, RX11)
theorem cd_X11_copyRow : Cd D_X11_copyRow 2 := ⟨wd_1034, wd_73, by decide +kernel⟩
def D_X11_remember : Md := (yX11_remember, cX11_remember, 2, none, { frames := 1, cells := 0, slots := 0, locals := 23 }, RX11)
theorem cd_X11_remember : Cd D_X11_remember 0 := ⟨wd_1030, wd_73, by decide +kernel⟩
def D_X11_count : Md := (yX11_count, cX11_count, 5, (some .int), { frames := 0, cells := 0, slots := 0, locals := 0 }, RX11)
theorem cd_X11_count : Cd D_X11_count 2 := ⟨wd_1074, wd_73, by decide +kernel⟩
def D_X11_wanted : Md := (yX11_wanted, cX11_wanted, 5, (some .int), { frames := 1, cells := 0, slots := 0, locals := 24 }, RX11)
theorem cd_X11_wanted : Cd D_X11_wanted 3 := ⟨wd_1078, wd_73, by decide +kernel⟩
def D_X11_unlikely : Md := (yX11_unlikely, cX11_unlikely, 5, (some .int), { frames := 2, cells := 0, slots := 0, locals := 48 }, RX11)
theorem cd_X11_unlikely : Cd D_X11_unlikely 3 := ⟨wd_1070, wd_73, by decide +kernel⟩
def D_X11_through : Md := (yX11_through, cX11_through, 6, (some .int), { frames := 3, cells := 0, slots := 0, locals := 72 }, RX11)
theorem cd_X11_through : Cd D_X11_through 4 := ⟨wd_1066, wd_73, by decide +kernel⟩
def D_X11_bestLevel : Md := (yX11_bestLevel, cX11_bestLevel, 6, (some .int), { frames := 4, cells := 0, slots := 0, locals := 97 }, RX11)
theorem cd_X11_bestLevel : Cd D_X11_bestLevel 3 := ⟨wd_1062, wd_73, by decide +kernel⟩
def D_X11_layLevels : Md := (yX11_layLevels, cX11_layLevels, 4, none, { frames := 5, cells := 0, slots := 0, locals := 122 }, RX11)
theorem cd_X11_layLevels : Cd D_X11_layLevels 1 := ⟨wd_1058, wd_73, by decide +kernel⟩
def D_X11_levelOf : Md := (yX11_levelOf, cX11_levelOf, 3, (some .int), { frames := 6, cells := 0, slots := 0, locals := 145 }, RX11)
theorem cd_X11_levelOf : Cd D_X11_levelOf 2 := ⟨wd_1118, wd_73, by decide +kernel⟩
def D_X11_addFlares : Md := (yX11_addFlares, cX11_addFlares, 6, none, { frames := 0, cells := 0, slots := 0, locals := 0 }, RX11)
theorem cd_X11_addFlares : Cd D_X11_addFlares 2 := ⟨wd_1082, wd_73, by decide +kernel⟩
def D_X11_layFlares : Md := (yX11_layFlares, cX11_layFlares, 3, none, { frames := 6, cells := 0, slots := 0, locals := 145 }, RX11)
theorem cd_X11_layFlares : Cd D_X11_layFlares 0 := ⟨wd_1054, wd_73, by decide +kernel⟩
def D_X11_isIn : Md := (yX11_isIn, cX11_isIn, 3, (some .boolean), { frames := 1, cells := 0, slots := 0, locals := 25 }, RX11)
theorem cd_X11_isIn : Cd D_X11_isIn 2 := ⟨wd_1098, wd_73, by decide +kernel⟩
def D_X11_areTied : Md := (yX11_areTied, cX11_areTied, 6, (some .boolean), { frames := 2, cells := 0, slots := 0, locals := 47 }, RX11)
theorem cd_X11_areTied : Cd D_X11_areTied 2 := ⟨wd_1094, wd_73, by decide +kernel⟩
def D_X11_layHeaps : Md := (yX11_layHeaps, cX11_layHeaps, 4, none, { frames := 7, cells := 0, slots := 0, locals := 167 }, RX11)
theorem cd_X11_layHeaps : Cd D_X11_layHeaps 0 := ⟨wd_1090, wd_73, by decide +kernel⟩
def D_X11_begins : Md := (yX11_begins, cX11_begins, 2, (some .boolean), { frames := 0, cells := 0, slots := 0, locals := 0 }, RX11)
theorem cd_X11_begins : Cd D_X11_begins 1 := ⟨wd_1102, wd_73, by decide +kernel⟩
def D_X11_stories : Md := (yX11_stories, cX11_stories, 3, (some .int), { frames := 8, cells := 0, slots := 0, locals := 190 }, RX11)
theorem cd_X11_stories : Cd D_X11_stories 0 := ⟨wd_1086, wd_73, by decide +kernel⟩
def D_X11_storyOf : Md := (yX11_storyOf, cX11_storyOf, 4, (some .int), { frames := 1, cells := 0, slots := 0, locals := 21 }, RX11)
theorem cd_X11_storyOf : Cd D_X11_storyOf 1 := ⟨wd_1175, wd_73, by decide +kernel⟩
def D_X11_isFigure : Md := (yX11_isFigure, cX11_isFigure, 1, (some .boolean), { frames := 1, cells := 0, slots := 0, locals := 25 }, RX11)
theorem cd_X11_isFigure : Cd D_X11_isFigure 1 := ⟨wd_1014, wd_73, by decide +kernel⟩
def D_X11_dayAt : Md := (yX11_dayAt, cX11_dayAt, 4, (some .int), { frames := 0, cells := 0, slots := 0, locals := 0 }, RX11)
theorem cd_X11_dayAt : Cd D_X11_dayAt 1 := ⟨wd_1020, wd_73, by decide +kernel⟩
def D_X11_faultOf : Md := (yX11_faultOf, cX11_faultOf, 3, (some .int), { frames := 2, cells := 0, slots := 0, locals := 45 }, RX11)
theorem cd_X11_faultOf : Cd D_X11_faultOf 1 := ⟨wd_1011, wd_73, by decide +kernel⟩
def D_X11_goOn : Md := (yX11_goOn, cX11_goOn, 3, none, { frames := 1, cells := 0, slots := 0, locals := 23 }, RX11)
theorem cd_X11_goOn : Cd D_X11_goOn 1 := ⟨wd_1026, wd_73, by decide +kernel⟩
def D_X11_readText : Md := (yX11_readText, cX11_readText, 3, (some .int), { frames := 3, cells := 0, slots := 0, locals := 67 }, RX11)
theorem cd_X11_readText : Cd D_X11_readText 0 := ⟨wd_1007, wd_73, by decide +kernel⟩
def D_X11_feed : Md := (yX11_feed, cX11_feed, 2, (some .int), { frames := 1, cells := 0, slots := 0, locals := 25 }, RX11)
theorem cd_X11_feed : Cd D_X11_feed 1 := ⟨wd_993, wd_73, by decide +kernel⟩
def D_X11_add : Md := (yX11_add, cX11_add, 3, none, { frames := 0, cells := 0, slots := 0, locals := 0 }, RX11)
theorem cd_X11_add : Cd D_X11_add 2 := ⟨wd_1038, wd_73, by decide +kernel⟩
def D_X11_pieces : Md := (yX11_pieces, cX11_pieces, 3, (some .int), { frames := 4, cells := 0, slots := 0, locals := 89 }, RX11)
theorem cd_X11_pieces : Cd D_X11_pieces 0 := ⟨wd_1003, wd_73, by decide +kernel⟩
def D_X11_fault : Md := (yX11_fault, cX11_fault, 1, (some .int), { frames := 0, cells := 0, slots := 0, locals := 0 }, RX11)
theorem cd_X11_fault : Cd D_X11_fault 0 := ⟨wd_1042, wd_73, by decide +kernel⟩
def D_X11_isDay : Md := (yX11_isDay, cX11_isDay, 2, (some .boolean), { frames := 1, cells := 0, slots := 0, locals := 25 }, RX11)
theorem cd_X11_isDay : Cd D_X11_isDay 1 := ⟨wd_1114, wd_73, by decide +kernel⟩
def D_X11_isWord : Md := (yX11_isWord, cX11_isWord, 1, (some .boolean), { frames := 1, cells := 0, slots := 0, locals := 25 }, RX11)
theorem cd_X11_isWord : Cd D_X11_isWord 1 := ⟨wd_1146, wd_73, by decide +kernel⟩
def D_X11_wrong : Md := (yX11_wrong, cX11_wrong, 2, (some .int), { frames := 7, cells := 0, slots := 0, locals := 167 }, RX11)
theorem cd_X11_wrong : Cd D_X11_wrong 0 := ⟨wd_1110, wd_73, by decide +kernel⟩
def D_X11_flaresNow : Md := (yX11_flaresNow, cX11_flaresNow, 1, (some .int), { frames := 7, cells := 0, slots := 0, locals := 167 }, RX11)
theorem cd_X11_flaresNow : Cd D_X11_flaresNow 0 := ⟨wd_1050, wd_73, by decide +kernel⟩
def D_X11_toldMore : Md := (yX11_toldMore, cX11_toldMore, 2, (some .int), { frames := 8, cells := 0, slots := 0, locals := 188 }, RX11)
theorem cd_X11_toldMore : Cd D_X11_toldMore 1 := ⟨wd_1106, wd_73, by decide +kernel⟩
def D_X11_told : Md := (yX11_told, cX11_told, 2, (some .int), { frames := 9, cells := 0, slots := 0, locals := 212 }, RX11)
theorem cd_X11_told : Cd D_X11_told 1 := ⟨wd_1046, wd_73, by decide +kernel⟩
def D_X11_isPiece : Md := (yX11_isPiece, cX11_isPiece, 2, (some .boolean), { frames := 1, cells := 0, slots := 0, locals := 25 }, RX11)
theorem cd_X11_isPiece : Cd D_X11_isPiece 1 := ⟨wd_1126, wd_73, by decide +kernel⟩
def D_X11_at : Md := (yX11_at, cX11_at, 3, (some .int), { frames := 2, cells := 0, slots := 0, locals := 46 }, RX11)
theorem cd_X11_at : Cd D_X11_at 2 := ⟨wd_1122, wd_73, by decide +kernel⟩
def D_X11_hot : Md := (yX11_hot, cX11_hot, 4, (some .int), { frames := 7, cells := 0, slots := 0, locals := 167 }, RX11)
theorem cd_X11_hot : Cd D_X11_hot 1 := ⟨wd_1135, wd_73, by decide +kernel⟩
def D_X11_topOf : Md := (yX11_topOf, cX11_topOf, 7, (some .int), { frames := 7, cells := 0, slots := 0, locals := 167 }, RX11)
theorem cd_X11_topOf : Cd D_X11_topOf 1 := ⟨wd_1139, wd_73, by decide +kernel⟩
def D_X11_day : Md := (yX11_day, cX11_day, 3, (some .int), { frames := 8, cells := 0, slots := 0, locals := 193 }, RX11)
theorem cd_X11_day : Cd D_X11_day 2 := ⟨wd_1131, wd_73, by decide +kernel⟩
def D_X11_word : Md := (yX11_word, cX11_word, 4, (some .int), { frames := 7, cells := 0, slots := 0, locals := 167 }, RX11)
theorem cd_X11_word : Cd D_X11_word 3 := ⟨wd_1143, wd_73, by decide +kernel⟩
def D_X11_cost : Md := (yX11_cost, cX11_cost, 2, (some .int), { frames := 6, cells := 0, slots := 0, locals := 145 }, RX11)
theorem cd_X11_cost : Cd D_X11_cost 1 := ⟨wd_1151, wd_73, by decide +kernel⟩
def D_X11_steady : Md := (yX11_steady, cX11_steady, 5, (some .int), { frames := 3, cells := 0, slots := 0, locals := 72 }, RX11)
theorem cd_X11_steady : Cd D_X11_steady 2 := ⟨wd_1155, wd_73, by decide +kernel⟩
def D_X11_within : Md := (yX11_within, cX11_within, 5, (some .int), { frames := 2, cells := 0, slots := 0, locals := 47 }, RX11)
theorem cd_X11_within : Cd D_X11_within 1 := ⟨wd_1163, wd_73, by decide +kernel⟩
def D_X11_weight : Md := (yX11_weight, cX11_weight, 4, (some .int), { frames := 3, cells := 0, slots := 0, locals := 72 }, RX11)
theorem cd_X11_weight : Cd D_X11_weight 1 := ⟨wd_1167, wd_73, by decide +kernel⟩
def D_X11_peak : Md := (yX11_peak, cX11_peak, 4, (some .int), { frames := 1, cells := 0, slots := 0, locals := 24 }, RX11)
theorem cd_X11_peak : Cd D_X11_peak 1 := ⟨wd_1171, wd_73, by decide +kernel⟩
def D_X11_flare : Md := (yX11_flare, cX11_flare, 3, (some .int), { frames := 8, cells := 0, slots := 0, locals := 190 }, RX11)
theorem cd_X11_flare : Cd D_X11_flare 2 := ⟨wd_1159, wd_73, by decide +kernel⟩
def D_X11_story : Md := (yX11_story, cX11_story, 8, (some .int), { frames := 9, cells := 0, slots := 0, locals := 212 }, RX11)
theorem cd_X11_story : Cd D_X11_story 2 := ⟨wd_1179, wd_73, by decide +kernel⟩
def D_X11_together : Md := (yX11_together, cX11_together, 3, (some .int), { frames := 2, cells := 0, slots := 0, locals := 45 }, RX11)
theorem cd_X11_together : Cd D_X11_together 2 := ⟨wd_1183, wd_73, by decide +kernel⟩
def D_X11_piece : Md := (yX11_piece, cX11_piece, 3, (some .int), { frames := 2, cells := 0, slots := 0, locals := 46 }, RX11)
theorem cd_X11_piece : Cd D_X11_piece 2 := ⟨wd_1187, wd_73, by decide +kernel⟩
def D_X11_take : Md := (yX11_take, cX11_take, 3, (some .int), { frames := 2, cells := 0, slots := 0, locals := 46 }, RX11)
theorem cd_X11_take : Cd D_X11_take 1 := ⟨wd_1191, wd_73, by decide +kernel⟩
def D_X11_move : Md := (yX11_move, cX11_move, 4, (some .int), { frames := 2, cells := 0, slots := 0, locals := 46 }, RX11)
theorem cd_X11_move : Cd D_X11_move 2 := ⟨wd_1195, wd_73, by decide +kernel⟩
def D_X11_days : Md := (yX11_days, cX11_days, 3, (some .int), { frames := 2, cells := 0, slots := 0, locals := 44 }, RX11)
theorem cd_X11_days : Cd D_X11_days 1 := ⟨wd_1199, wd_73, by decide +kernel⟩
def D_X11_term : Md := (yX11_term, cX11_term, 4, (some .int), { frames := 2, cells := 0, slots := 0, locals := 44 }, RX11)
theorem cd_X11_term : Cd D_X11_term 2 := ⟨wd_1205, wd_73, by decide +kernel⟩
def D_X11_draw : Md := (yX11_draw, cX11_draw, 2, (some .int), { frames := 0, cells := 0, slots := 0, locals := 0 }, RX11)
theorem cd_X11_draw : Cd D_X11_draw 1 := ⟨wd_1216, wd_73, by decide +kernel⟩
def D_X11_drift : Md := (yX11_drift, cX11_drift, 4, (some .int), { frames := 2, cells := 0, slots := 0, locals := 44 }, RX11)
theorem cd_X11_drift : Cd D_X11_drift 1 := ⟨wd_1212, wd_73, by decide +kernel⟩
def D_X11_undo : Md := (yX11_undo, cX11_undo, 3, (some .int), { frames := 1, cells := 0, slots := 0, locals := 25 }, RX11)
theorem cd_X11_undo : Cd D_X11_undo 1 := ⟨wd_1224, wd_73, by decide +kernel⟩
def D_X11_write : Md := (yX11_write, cX11_write, 4, (some .int), { frames := 2, cells := 0, slots := 0, locals := 46 }, RX11)
theorem cd_X11_write : Cd D_X11_write 3 := ⟨wd_1229, wd_73, by decide +kernel⟩
def D_X11_tear : Md := (yX11_tear, cX11_tear, 2, (some .int), { frames := 0, cells := 0, slots := 0, locals := 0 }, RX11)
theorem cd_X11_tear : Cd D_X11_tear 0 := ⟨wd_1233, wd_73, by decide +kernel⟩
def D_X11_seed : Md := (yX11_seed, cX11_seed, 3, (some .int), { frames := 0, cells := 0, slots := 0, locals := 0 }, RX11)
theorem cd_X11_seed : Cd D_X11_seed 1 := ⟨wd_1237, wd_73, by decide +kernel⟩
def D_X11_keep : Md := (yX11_keep, cX11_keep, 2, (some .int), { frames := 1, cells := 0, slots := 0, locals := 25 }, RX11)
theorem cd_X11_keep : Cd D_X11_keep 1 := ⟨wd_1241, wd_73, by decide +kernel⟩
def D_X11_goBack : Md := (yX11_goBack, cX11_goBack, 2, (some .int), { frames := 1, cells := 0, slots := 0, locals := 25 }, RX11)
theorem cd_X11_goBack : Cd D_X11_goBack 1 := ⟨wd_1245, wd_73, by decide +kernel⟩
def D_X0_init : Md := (yX0_init, cX0_init, 1, none, { frames := 1, cells := 3, slots := 60, locals := 40 }, RX0)
theorem cd_X0_init : Cd D_X0_init 0 := ⟨wd_265, wd_71, by decide +kernel⟩
def D_X0_hasRoom : Md := (yX0_hasRoom, cX0_hasRoom, 1, (some .boolean), { frames := 0, cells := 0, slots := 0, locals := 0 }, RX0)
theorem cd_X0_hasRoom : Cd D_X0_hasRoom 0 := ⟨wd_859, wd_71, by decide +kernel⟩
def D_X0_entries : Md := (yX0_entries, cX0_entries, 1, (some .int), { frames := 0, cells := 0, slots := 0, locals := 0 }, RX0)
theorem cd_X0_entries : Cd D_X0_entries 0 := ⟨wd_666, wd_71, by decide +kernel⟩
def D_X0_add : Md := (yX0_add, cX0_add, 4, none, { frames := 1, cells := 0, slots := 0, locals := 20 }, RX0)
theorem cd_X0_add : Cd D_X0_add 3 := ⟨wd_863, wd_71, by decide +kernel⟩
def D_X0_clear : Md := (yX0_clear, cX0_clear, 1, none, { frames := 0, cells := 0, slots := 0, locals := 0 }, RX0)
theorem cd_X0_clear : Cd D_X0_clear 0 := ⟨wd_872, wd_71, by decide +kernel⟩
def D_X0_firstWrong : Md := (yX0_firstWrong, cX0_firstWrong, 4, (some .int), { frames := 2, cells := 0, slots := 0, locals := 42 }, RX0)
theorem cd_X0_firstWrong : Cd D_X0_firstWrong 2 := ⟨wd_670, wd_71, by decide +kernel⟩
def D_X1_init : Md := (yX1_init, cX1_init, 2, none, { frames := 2, cells := 65, slots := 1440, locals := 60 }, RX1)
theorem cd_X1_init : Cd D_X1_init 0 := ⟨wd_249, wd_70, by decide +kernel⟩
def D_X1_number : Md := (yX1_number, cX1_number, 1, (some .int), { frames := 0, cells := 0, slots := 0, locals := 0 }, RX1)
theorem cd_X1_number : Cd D_X1_number 0 := ⟨wd_679, wd_70, by decide +kernel⟩
def D_X1_forget : Md := (yX1_forget, cX1_forget, 1, none, { frames := 0, cells := 0, slots := 0, locals := 0 }, RX1)
theorem cd_X1_forget : Cd D_X1_forget 0 := ⟨wd_893, wd_70, by decide +kernel⟩
def D_X1_remember : Md := (yX1_remember, cX1_remember, 2, none, { frames := 2, cells := 0, slots := 0, locals := 61 }, RX1)
theorem cd_X1_remember : Cd D_X1_remember 1 := ⟨wd_406, wd_70, by decide +kernel⟩
def D_X1_takeBack : Md := (yX1_takeBack, cX1_takeBack, 3, none, { frames := 2, cells := 0, slots := 0, locals := 61 }, RX1)
theorem cd_X1_takeBack : Cd D_X1_takeBack 2 := ⟨wd_851, wd_70, by decide +kernel⟩
def D_X1_dropOldest : Md := (yX1_dropOldest, cX1_dropOldest, 3, none, { frames := 0, cells := 0, slots := 0, locals := 0 }, RX1)
theorem cd_X1_dropOldest : Cd D_X1_dropOldest 0 := ⟨wd_410, wd_70, by decide +kernel⟩
def D_X2_init : Md := (yX2_init, cX2_init, 1, none, { frames := 2, cells := 62, slots := 2053, locals := 60 }, RX2)
theorem cd_X2_init : Cd D_X2_init 0 := ⟨wd_120, wd_64, by decide +kernel⟩
def D_X2_hot : Md := (yX2_hot, cX2_hot, 4, (some .int), { frames := 2, cells := 0, slots := 0, locals := 42 }, RX2)
theorem cd_X2_hot : Cd D_X2_hot 1 := ⟨wd_700, wd_64, by decide +kernel⟩
def D_X2_top : Md := (yX2_top, cX2_top, 4, (some .int), { frames := 3, cells := 0, slots := 0, locals := 65 }, RX2)
theorem cd_X2_top : Cd D_X2_top 1 := ⟨wd_706, wd_64, by decide +kernel⟩
def D_X2_isAbove : Md := (yX2_isAbove, cX2_isAbove, 4, (some .boolean), { frames := 2, cells := 0, slots := 0, locals := 42 }, RX2)
theorem cd_X2_isAbove : Cd D_X2_isAbove 3 := ⟨wd_710, wd_64, by decide +kernel⟩
def D_X3_init : Md := (yX3_init, cX3_init, 1, none, { frames := 1, cells := 10, slots := 1305, locals := 40 }, RX3)
theorem cd_X3_init : Cd D_X3_init 0 := ⟨wd_176, wd_67, by decide +kernel⟩
def D_X3_number : Md := (yX3_number, cX3_number, 1, (some .int), { frames := 0, cells := 0, slots := 0, locals := 0 }, RX3)
theorem cd_X3_number : Cd D_X3_number 0 := ⟨wd_589, wd_67, by decide +kernel⟩
def D_X3_has : Md := (yX3_has, cX3_has, 2, (some .boolean), { frames := 0, cells := 0, slots := 0, locals := 0 }, RX3)
theorem cd_X3_has : Cd D_X3_has 1 := ⟨wd_567, wd_67, by decide +kernel⟩
def D_X3_hasDay : Md := (yX3_hasDay, cX3_hasDay, 3, (some .boolean), { frames := 1, cells := 0, slots := 0, locals := 21 }, RX3)
theorem cd_X3_hasDay : Cd D_X3_hasDay 2 := ⟨wd_563, wd_67, by decide +kernel⟩
def D_X3_isAtOne : Md := (yX3_isAtOne, cX3_isAtOne, 2, (some .boolean), { frames := 1, cells := 0, slots := 0, locals := 21 }, RX3)
theorem cd_X3_isAtOne : Cd D_X3_isAtOne 1 := ⟨wd_593, wd_67, by decide +kernel⟩
def D_X3_setOf : Md := (yX3_setOf, cX3_setOf, 2, (some .int), { frames := 1, cells := 0, slots := 0, locals := 21 }, RX3)
theorem cd_X3_setOf : Cd D_X3_setOf 1 := ⟨wd_615, wd_67, by decide +kernel⟩
def D_X3_isFact : Md := (yX3_isFact, cX3_isFact, 1, (some .boolean), { frames := 0, cells := 0, slots := 0, locals := 0 }, RX3)
theorem cd_X3_isFact : Cd D_X3_isFact 1 := ⟨wd_641, wd_67, by decide +kernel⟩
def D_X3_fact : Md := (yX3_fact, cX3_fact, 3, (some .int), { frames := 1, cells := 0, slots := 0, locals := 21 }, RX3)
theorem cd_X3_fact : Cd D_X3_fact 2 := ⟨wd_638, wd_67, by decide +kernel⟩
def D_X3_putStory : Md := (yX3_putStory, cX3_putStory, 3, none, { frames := 1, cells := 0, slots := 0, locals := 21 }, RX3)
theorem cd_X3_putStory : Cd D_X3_putStory 2 := ⟨wd_645, wd_67, by decide +kernel⟩
def D_X3_findAll : Md := (yX3_findAll, cX3_findAll, 5, none, { frames := 4, cells := 0, slots := 0, locals := 92 }, RX3)
theorem cd_X3_findAll : Cd D_X3_findAll 2 := ⟨wd_540, wd_67, by decide +kernel⟩
def D_X3_findAt : Md := (yX3_findAt, cX3_findAt, 8, none, { frames := 2, cells := 0, slots := 0, locals := 42 }, RX3)
theorem cd_X3_findAt : Cd D_X3_findAt 4 := ⟨wd_546, wd_67, by decide +kernel⟩
def D_X3_add : Md := (yX3_add, cX3_add, 5, none, { frames := 0, cells := 0, slots := 0, locals := 0 }, RX3)
theorem cd_X3_add : Cd D_X3_add 4 := ⟨wd_555, wd_67, by decide +kernel⟩
def D_X3_around : Md := (yX3_around, cX3_around, 3, (some .int), { frames := 2, cells := 0, slots := 0, locals := 43 }, RX3)
theorem cd_X3_around : Cd D_X3_around 1 := ⟨wd_559, wd_67, by decide +kernel⟩
def D_X3_weightOf : Md := (yX3_weightOf, cX3_weightOf, 7, (some .int), { frames := 3, cells := 0, slots := 0, locals := 66 }, RX3)
theorem cd_X3_weightOf : Cd D_X3_weightOf 2 := ⟨wd_571, wd_67, by decide +kernel⟩
def D_X3_peakOf : Md := (yX3_peakOf, cX3_peakOf, 6, (some .int), { frames := 2, cells := 0, slots := 0, locals := 42 }, RX3)
theorem cd_X3_peakOf : Cd D_X3_peakOf 2 := ⟨wd_576, wd_67, by decide +kernel⟩
def D_X3_fadeOf : Md := (yX3_fadeOf, cX3_fadeOf, 4, (some .int), { frames := 2, cells := 0, slots := 0, locals := 42 }, RX3)
theorem cd_X3_fadeOf : Cd D_X3_fadeOf 2 := ⟨wd_581, wd_67, by decide +kernel⟩
def D_X4_init : Md := (yX4_init, cX4_init, 1, none, { frames := 2, cells := 4, slots := 89, locals := 60 }, RX4)
theorem cd_X4_init : Cd D_X4_init 0 := ⟨wd_285, wd_72, by decide +kernel⟩
def D_X4_hold : Md := (yX4_hold, cX4_hold, 3, none, { frames := 2, cells := 0, slots := 0, locals := 61 }, RX4)
theorem cd_X4_hold : Cd D_X4_hold 2 := ⟨wd_888, wd_72, by decide +kernel⟩
def D_X4_isHeld : Md := (yX4_isHeld, cX4_isHeld, 1, (some .boolean), { frames := 0, cells := 0, slots := 0, locals := 0 }, RX4)
theorem cd_X4_isHeld : Cd D_X4_isHeld 0 := ⟨wd_901, wd_72, by decide +kernel⟩
def D_X4_heldNews : Md := (yX4_heldNews, cX4_heldNews, 1, (some (.object "FlaringWords$News")), { frames := 0, cells := 0, slots := 0, locals := 0 }, RX4)
theorem cd_X4_heldNews : Cd D_X4_heldNews 0 := ⟨wd_905, wd_72, by decide +kernel⟩
def D_X4_heldSeed : Md := (yX4_heldSeed, cX4_heldSeed, 1, (some .int), { frames := 0, cells := 0, slots := 0, locals := 0 }, RX4)
theorem cd_X4_heldSeed : Cd D_X4_heldSeed 0 := ⟨wd_910, wd_72, by decide +kernel⟩
def D_X5_init : Md := (yX5_init, cX5_init, 1, none, { frames := 1, cells := 23, slots := 172, locals := 40 }, RX5)
theorem cd_X5_init : Cd D_X5_init 0 := ⟨wd_159, wd_66, by decide +kernel⟩
def D_X5_findAll : Md := (yX5_findAll, cX5_findAll, 3, none, { frames := 4, cells := 0, slots := 0, locals := 98 }, RX5)
theorem cd_X5_findAll : Cd D_X5_findAll 1 := ⟨wd_488, wd_66, by decide +kernel⟩
def D_X5_of : Md := (yX5_of, cX5_of, 3, (some .int), { frames := 1, cells := 0, slots := 0, locals := 20 }, RX5)
theorem cd_X5_of : Cd D_X5_of 2 := ⟨wd_550, wd_66, by decide +kernel⟩
def D_X5_costOf : Md := (yX5_costOf, cX5_costOf, 2, (some .int), { frames := 1, cells := 0, slots := 0, locals := 20 }, RX5)
theorem cd_X5_costOf : Cd D_X5_costOf 1 := ⟨wd_731, wd_66, by decide +kernel⟩
def D_X5_costRests : Md := (yX5_costRests, cX5_costRests, 7, none, { frames := 3, cells := 0, slots := 0, locals := 72 }, RX5)
theorem cd_X5_costRests : Cd D_X5_costRests 2 := ⟨wd_492, wd_66, by decide +kernel⟩
def D_X5_walk : Md := (yX5_walk, cX5_walk, 5, none, { frames := 3, cells := 0, slots := 0, locals := 72 }, RX5)
theorem cd_X5_walk : Cd D_X5_walk 2 := ⟨wd_536, wd_66, by decide +kernel⟩
def D_X5_leastFrom : Md := (yX5_leastFrom, cX5_leastFrom, 6, (some .int), { frames := 2, cells := 0, slots := 0, locals := 47 }, RX5)
theorem cd_X5_leastFrom : Cd D_X5_leastFrom 3 := ⟨wd_504, wd_66, by decide +kernel⟩
def D_X5_costFrom : Md := (yX5_costFrom, cX5_costFrom, 6, (some .int), { frames := 1, cells := 0, slots := 0, locals := 22 }, RX5)
theorem cd_X5_costFrom : Cd D_X5_costFrom 4 := ⟨wd_508, wd_66, by decide +kernel⟩
def D_X6_init : Md := (yX6_init, cX6_init, 1, none, { frames := 1, cells := 3, slots := 84, locals := 40 }, RX6)
theorem cd_X6_init : Cd D_X6_init 0 := ⟨wd_88, wd_63, by decide +kernel⟩
def D_X6_isTerm : Md := (yX6_isTerm, cX6_isTerm, 1, (some .boolean), { frames := 0, cells := 0, slots := 0, locals := 0 }, RX6)
theorem cd_X6_isTerm : Cd D_X6_isTerm 1 := ⟨wd_814, wd_63, by decide +kernel⟩
def D_X6_isInBounds : Md := (yX6_isInBounds, cX6_isInBounds, 2, (some .boolean), { frames := 1, cells := 0, slots := 0, locals := 20 }, RX6)
theorem cd_X6_isInBounds : Cd D_X6_isInBounds 2 := ⟨wd_817, wd_63, by decide +kernel⟩
def D_X6_termOf : Md := (yX6_termOf, cX6_termOf, 2, (some .int), { frames := 1, cells := 0, slots := 0, locals := 20 }, RX6)
theorem cd_X6_termOf : Cd D_X6_termOf 1 := ⟨wd_826, wd_63, by decide +kernel⟩
def D_X6_setTerm : Md := (yX6_setTerm, cX6_setTerm, 3, none, { frames := 2, cells := 0, slots := 0, locals := 41 }, RX6)
theorem cd_X6_setTerm : Cd D_X6_setTerm 2 := ⟨wd_830, wd_63, by decide +kernel⟩
def D_X6_levels : Md := (yX6_levels, cX6_levels, 1, (some .int), { frames := 0, cells := 0, slots := 0, locals := 0 }, RX6)
theorem cd_X6_levels : Cd D_X6_levels 0 := ⟨wd_458, wd_63, by decide +kernel⟩
def D_X6_base : Md := (yX6_base, cX6_base, 1, (some .int), { frames := 0, cells := 0, slots := 0, locals := 0 }, RX6)
theorem cd_X6_base : Cd D_X6_base 0 := ⟨wd_462, wd_63, by decide +kernel⟩
def D_X6_step : Md := (yX6_step, cX6_step, 1, (some .int), { frames := 0, cells := 0, slots := 0, locals := 0 }, RX6)
theorem cd_X6_step : Cd D_X6_step 0 := ⟨wd_466, wd_63, by decide +kernel⟩
def D_X6_rise : Md := (yX6_rise, cX6_rise, 1, (some .int), { frames := 0, cells := 0, slots := 0, locals := 0 }, RX6)
theorem cd_X6_rise : Cd D_X6_rise 0 := ⟨wd_470, wd_63, by decide +kernel⟩
def D_X6_hasLevel : Md := (yX6_hasLevel, cX6_hasLevel, 2, (some .boolean), { frames := 0, cells := 0, slots := 0, locals := 0 }, RX6)
theorem cd_X6_hasLevel : Cd D_X6_hasLevel 1 := ⟨wd_722, wd_63, by decide +kernel⟩
def D_X6_dayCount : Md := (yX6_dayCount, cX6_dayCount, 1, (some .int), { frames := 0, cells := 0, slots := 0, locals := 0 }, RX6)
theorem cd_X6_dayCount : Cd D_X6_dayCount 0 := ⟨wd_353, wd_63, by decide +kernel⟩
def D_X6_hasDay : Md := (yX6_hasDay, cX6_hasDay, 2, (some .boolean), { frames := 0, cells := 0, slots := 0, locals := 0 }, RX6)
theorem cd_X6_hasDay : Cd D_X6_hasDay 1 := ⟨wd_674, wd_63, by decide +kernel⟩
def D_X6_setDayCount : Md := (yX6_setDayCount, cX6_setDayCount, 2, none, { frames := 1, cells := 0, slots := 0, locals := 40 }, RX6)
theorem cd_X6_setDayCount : Cd D_X6_setDayCount 1 := ⟨wd_805, wd_63, by decide +kernel⟩
def D_X6_count : Md := (yX6_count, cX6_count, 1, (some .int), { frames := 0, cells := 0, slots := 0, locals := 0 }, RX6)
theorem cd_X6_count : Cd D_X6_count 0 := ⟨wd_357, wd_63, by decide +kernel⟩
def D_X6_hasPiece : Md := (yX6_hasPiece, cX6_hasPiece, 2, (some .boolean), { frames := 0, cells := 0, slots := 0, locals := 0 }, RX6)
theorem cd_X6_hasPiece : Cd D_X6_hasPiece 1 := ⟨wd_602, wd_63, by decide +kernel⟩
def D_X6_hasRoom : Md := (yX6_hasRoom, cX6_hasRoom, 1, (some .boolean), { frames := 0, cells := 0, slots := 0, locals := 0 }, RX6)
theorem cd_X6_hasRoom : Cd D_X6_hasRoom 0 := ⟨wd_437, wd_63, by decide +kernel⟩
def D_X6_dayOf : Md := (yX6_dayOf, cX6_dayOf, 2, (some .int), { frames := 1, cells := 0, slots := 0, locals := 21 }, RX6)
theorem cd_X6_dayOf : Cd D_X6_dayOf 1 := ⟨wd_598, wd_63, by decide +kernel⟩
def D_X6_setOf : Md := (yX6_setOf, cX6_setOf, 2, (some .int), { frames := 1, cells := 0, slots := 0, locals := 21 }, RX6)
theorem cd_X6_setOf : Cd D_X6_setOf 1 := ⟨wd_606, wd_63, by decide +kernel⟩
def D_X6_add : Md := (yX6_add, cX6_add, 3, none, { frames := 1, cells := 0, slots := 0, locals := 20 }, RX6)
theorem cd_X6_add : Cd D_X6_add 2 := ⟨wd_433, wd_63, by decide +kernel⟩
def D_X6_remove : Md := (yX6_remove, cX6_remove, 3, none, { frames := 1, cells := 0, slots := 0, locals := 21 }, RX6)
theorem cd_X6_remove : Cd D_X6_remove 1 := ⟨wd_784, wd_63, by decide +kernel⟩
def D_X6_putOn : Md := (yX6_putOn, cX6_putOn, 3, none, { frames := 1, cells := 0, slots := 0, locals := 21 }, RX6)
theorem cd_X6_putOn : Cd D_X6_putOn 2 := ⟨wd_792, wd_63, by decide +kernel⟩
def D_X6_hasPieceFrom : Md := (yX6_hasPieceFrom, cX6_hasPieceFrom, 3, (some .boolean), { frames := 0, cells := 0, slots := 0, locals := 0 }, RX6)
theorem cd_X6_hasPieceFrom : Cd D_X6_hasPieceFrom 1 := ⟨wd_800, wd_63, by decide +kernel⟩
def D_X6_countWith : Md := (yX6_countWith, cX6_countWith, 4, (some .int), { frames := 0, cells := 0, slots := 0, locals := 0 }, RX6)
theorem cd_X6_countWith : Cd D_X6_countWith 1 := ⟨wd_484, wd_63, by decide +kernel⟩
def D_X6_countWithOn : Md := (yX6_countWithOn, cX6_countWithOn, 5, (some .int), { frames := 0, cells := 0, slots := 0, locals := 0 }, RX6)
theorem cd_X6_countWithOn : Cd D_X6_countWithOn 2 := ⟨wd_474, wd_63, by decide +kernel⟩
def D_X6_become : Md := (yX6_become, cX6_become, 2, none, { frames := 1, cells := 0, slots := 0, locals := 40 }, RX6)
theorem cd_X6_become : Cd D_X6_become 1 := ⟨wd_414, wd_63, by decide +kernel⟩
def D_X7_init : Md := (yX7_init, cX7_init, 1, none, { frames := 1, cells := 6, slots := 340, locals := 40 }, RX7)
theorem cd_X7_init : Cd D_X7_init 0 := ⟨wd_190, wd_68, by decide +kernel⟩
def D_X7_number : Md := (yX7_number, cX7_number, 1, (some .int), { frames := 0, cells := 0, slots := 0, locals := 0 }, RX7)
theorem cd_X7_number : Cd D_X7_number 0 := ⟨wd_658, wd_68, by decide +kernel⟩
def D_X7_has : Md := (yX7_has, cX7_has, 2, (some .boolean), { frames := 0, cells := 0, slots := 0, locals := 0 }, RX7)
theorem cd_X7_has : Cd D_X7_has 1 := ⟨wd_653, wd_68, by decide +kernel⟩
def D_X7_isFact : Md := (yX7_isFact, cX7_isFact, 1, (some .boolean), { frames := 0, cells := 0, slots := 0, locals := 0 }, RX7)
theorem cd_X7_isFact : Cd D_X7_isFact 1 := ⟨wd_756, wd_68, by decide +kernel⟩
def D_X7_fact : Md := (yX7_fact, cX7_fact, 3, (some .int), { frames := 1, cells := 0, slots := 0, locals := 21 }, RX7)
theorem cd_X7_fact : Cd D_X7_fact 2 := ⟨wd_760, wd_68, by decide +kernel⟩
def D_X7_findAll : Md := (yX7_findAll, cX7_findAll, 4, none, { frames := 4, cells := 0, slots := 0, locals := 92 }, RX7)
theorem cd_X7_findAll : Cd D_X7_findAll 2 := ⟨wd_585, wd_68, by decide +kernel⟩
def D_X7_tieBy : Md := (yX7_tieBy, cX7_tieBy, 7, none, { frames := 2, cells := 0, slots := 0, locals := 66 }, RX7)
theorem cd_X7_tieBy : Cd D_X7_tieBy 3 := ⟨wd_610, wd_68, by decide +kernel⟩
def D_X7_joined : Md := (yX7_joined, cX7_joined, 7, (some .int), { frames := 1, cells := 0, slots := 0, locals := 40 }, RX7)
theorem cd_X7_joined : Cd D_X7_joined 3 := ⟨wd_620, wd_68, by decide +kernel⟩
def D_X7_numberHeaps : Md := (yX7_numberHeaps, cX7_numberHeaps, 4, none, { frames := 3, cells := 0, slots := 0, locals := 66 }, RX7)
theorem cd_X7_numberHeaps : Cd D_X7_numberHeaps 1 := ⟨wd_630, wd_68, by decide +kernel⟩
def D_X7_begun : Md := (yX7_begun, cX7_begun, 3, (some .int), { frames := 2, cells := 0, slots := 0, locals := 43 }, RX7)
theorem cd_X7_begun : Cd D_X7_begun 2 := ⟨wd_634, wd_68, by decide +kernel⟩
def D_X7_grow : Md := (yX7_grow, cX7_grow, 4, none, { frames := 2, cells := 0, slots := 0, locals := 43 }, RX7)
theorem cd_X7_grow : Cd D_X7_grow 3 := ⟨wd_649, wd_68, by decide +kernel⟩
def D_X8_init : Md := (yX8_init, cX8_init, 1, none, { frames := 1, cells := 19, slots := 220, locals := 40 }, RX8)
theorem cd_X8_init : Cd D_X8_init 0 := ⟨wd_126, wd_65, by decide +kernel⟩
def D_X8_countAll : Md := (yX8_countAll, cX8_countAll, 3, none, { frames := 2, cells := 0, slots := 0, locals := 49 }, RX8)
theorem cd_X8_countAll : Cd D_X8_countAll 1 := ⟨wd_453, wd_65, by decide +kernel⟩
def D_X8_countWord : Md := (yX8_countWord, cX8_countWord, 6, none, { frames := 1, cells := 0, slots := 0, locals := 24 }, RX8)
theorem cd_X8_countWord : Cd D_X8_countWord 2 := ⟨wd_478, wd_65, by decide +kernel⟩
def D_X8_isDay : Md := (yX8_isDay, cX8_isDay, 1, (some .boolean), { frames := 0, cells := 0, slots := 0, locals := 0 }, RX8)
theorem cd_X8_isDay : Cd D_X8_isDay 1 := ⟨wd_511, wd_65, by decide +kernel⟩
def D_X8_dayCount : Md := (yX8_dayCount, cX8_dayCount, 1, (some .int), { frames := 0, cells := 0, slots := 0, locals := 0 }, RX8)
theorem cd_X8_dayCount : Cd D_X8_dayCount 0 := ⟨wd_496, wd_65, by decide +kernel⟩
def D_X8_highest : Md := (yX8_highest, cX8_highest, 1, (some .int), { frames := 0, cells := 0, slots := 0, locals := 0 }, RX8)
theorem cd_X8_highest : Cd D_X8_highest 0 := ⟨wd_500, wd_65, by decide +kernel⟩
def D_X8_all : Md := (yX8_all, cX8_all, 2, (some .int), { frames := 1, cells := 0, slots := 0, locals := 20 }, RX8)
theorem cd_X8_all : Cd D_X8_all 1 := ⟨wd_696, wd_65, by decide +kernel⟩
def D_X8_count : Md := (yX8_count, cX8_count, 3, (some .int), { frames := 1, cells := 0, slots := 0, locals := 20 }, RX8)
theorem cd_X8_count : Cd D_X8_count 2 := ⟨wd_523, wd_65, by decide +kernel⟩
def D_X8_wanted : Md := (yX8_wanted, cX8_wanted, 4, (some .int), { frames := 1, cells := 0, slots := 0, locals := 20 }, RX8)
theorem cd_X8_wanted : Cd D_X8_wanted 3 := ⟨wd_529, wd_65, by decide +kernel⟩
def D_X8_unlikely : Md := (yX8_unlikely, cX8_unlikely, 4, (some .int), { frames := 2, cells := 0, slots := 0, locals := 43 }, RX8)
theorem cd_X8_unlikely : Cd D_X8_unlikely 3 := ⟨wd_519, wd_65, by decide +kernel⟩
def D_X8_costOfRise : Md := (yX8_costOfRise, cX8_costOfRise, 3, (some .int), { frames := 0, cells := 0, slots := 0, locals := 0 }, RX8)
theorem cd_X8_costOfRise : Cd D_X8_costOfRise 2 := ⟨wd_515, wd_65, by decide +kernel⟩
def D_X8_costOfSteady : Md := (yX8_costOfSteady, cX8_costOfSteady, 5, (some .int), { frames := 3, cells := 0, slots := 0, locals := 66 }, RX8)
theorem cd_X8_costOfSteady : Cd D_X8_costOfSteady 2 := ⟨wd_739, wd_65, by decide +kernel⟩
def D_X9_init : Md := (yX9_init, cX9_init, 1, none, { frames := 1, cells := 3, slots := 100, locals := 40 }, RX9)
theorem cd_X9_init : Cd D_X9_init 0 := ⟨wd_224, wd_69, by decide +kernel⟩
def D_X9_hasRoom : Md := (yX9_hasRoom, cX9_hasRoom, 1, (some .boolean), { frames := 0, cells := 0, slots := 0, locals := 0 }, RX9)
theorem cd_X9_hasRoom : Cd D_X9_hasRoom 0 := ⟨wd_335, wd_69, by decide +kernel⟩
def D_X9_length : Md := (yX9_length, cX9_length, 1, (some .int), { frames := 0, cells := 0, slots := 0, locals := 0 }, RX9)
theorem cd_X9_length : Cd D_X9_length 0 := ⟨wd_345, wd_69, by decide +kernel⟩
def D_X9_add : Md := (yX9_add, cX9_add, 2, none, { frames := 1, cells := 0, slots := 0, locals := 20 }, RX9)
theorem cd_X9_add : Cd D_X9_add 1 := ⟨wd_340, wd_69, by decide +kernel⟩
def D_X9_clear : Md := (yX9_clear, cX9_clear, 1, none, { frames := 0, cells := 0, slots := 0, locals := 0 }, RX9)
theorem cd_X9_clear : Cd D_X9_clear 0 := ⟨wd_398, wd_69, by decide +kernel⟩
def D_X9_place : Md := (yX9_place, cX9_place, 1, (some .int), { frames := 0, cells := 0, slots := 0, locals := 0 }, RX9)
theorem cd_X9_place : Cd D_X9_place 0 := ⟨wd_394, wd_69, by decide +kernel⟩
def D_X9_readCount : Md := (yX9_readCount, cX9_readCount, 1, (some .int), { frames := 0, cells := 0, slots := 0, locals := 0 }, RX9)
theorem cd_X9_readCount : Cd D_X9_readCount 0 := ⟨wd_421, wd_69, by decide +kernel⟩
def D_X9_dayRead : Md := (yX9_dayRead, cX9_dayRead, 2, (some .int), { frames := 0, cells := 0, slots := 0, locals := 0 }, RX9)
theorem cd_X9_dayRead : Cd D_X9_dayRead 1 := ⟨wd_425, wd_69, by decide +kernel⟩
def D_X9_setRead : Md := (yX9_setRead, cX9_setRead, 2, (some .int), { frames := 0, cells := 0, slots := 0, locals := 0 }, RX9)
theorem cd_X9_setRead : Cd D_X9_setRead 1 := ⟨wd_429, wd_69, by decide +kernel⟩
def D_X9_read : Md := (yX9_read, cX9_read, 5, (some .int), { frames := 3, cells := 0, slots := 0, locals := 68 }, RX9)
theorem cd_X9_read : Cd D_X9_read 2 := ⟨wd_361, wd_69, by decide +kernel⟩
def D_X9_readPiece : Md := (yX9_readPiece, cX9_readPiece, 6, (some .int), { frames := 2, cells := 0, slots := 0, locals := 43 }, RX9)
theorem cd_X9_readPiece : Cd D_X9_readPiece 2 := ⟨wd_365, wd_69, by decide +kernel⟩
def D_X9_hasTwoFigures : Md := (yX9_hasTwoFigures, cX9_hasTwoFigures, 2, (some .boolean), { frames := 1, cells := 0, slots := 0, locals := 21 }, RX9)
theorem cd_X9_hasTwoFigures : Cd D_X9_hasTwoFigures 0 := ⟨wd_376, wd_69, by decide +kernel⟩
def D_X9_readWords : Md := (yX9_readWords, cX9_readWords, 2, (some .int), { frames := 1, cells := 0, slots := 0, locals := 21 }, RX9)
theorem cd_X9_readWords : Cd D_X9_readWords 0 := ⟨wd_384, wd_69, by decide +kernel⟩
def D_X9_passes : Md := (yX9_passes, cX9_passes, 3, (some .boolean), { frames := 1, cells := 0, slots := 0, locals := 21 }, RX9)
theorem cd_X9_passes : Cd D_X9_passes 1 := ⟨wd_380, wd_69, by decide +kernel⟩
def D_X9_letterAt : Md := (yX9_letterAt, cX9_letterAt, 2, (some .int), { frames := 0, cells := 0, slots := 0, locals := 0 }, RX9)
theorem cd_X9_letterAt : Cd D_X9_letterAt 1 := ⟨wd_369, wd_69, by decide +kernel⟩
def D_X9_isFigure : Md := (yX9_isFigure, cX9_isFigure, 1, (some .boolean), { frames := 0, cells := 0, slots := 0, locals := 0 }, RX9)
theorem cd_X9_isFigure : Cd D_X9_isFigure 1 := ⟨wd_372, wd_69, by decide +kernel⟩
theorem fl_X10_10 : Fl RX10 10 10 0 true := ⟨RX10, TX10, 9, cl_10, by decide, wd_299, rfl, rfl⟩
theorem fl_X10_19 : Fl RX10 19 10 1 true := ⟨RX10, TX10, 9, cl_10, by decide, wd_300, rfl, rfl⟩
theorem fl_X10_26 : Fl RX10 26 10 2 true := ⟨RX10, TX10, 9, cl_10, by decide, wd_301, rfl, rfl⟩
theorem fl_X10_33 : Fl RX10 33 10 3 true := ⟨RX10, TX10, 9, cl_10, by decide, wd_302, rfl, rfl⟩
theorem fl_X10_40 : Fl RX10 40 10 4 true := ⟨RX10, TX10, 9, cl_10, by decide, wd_303, rfl, rfl⟩
theorem fl_X10_46 : Fl RX10 46 10 5 true := ⟨RX10, TX10, 9, cl_10, by decide, wd_304, rfl, rfl⟩
theorem fl_X10_50 : Fl RX10 50 10 6 false := ⟨RX10, TX10, 9, cl_10, by decide, wd_305, rfl, rfl⟩
theorem fl_X10_54 : Fl RX10 54 10 7 false := ⟨RX10, TX10, 9, cl_10, by decide, wd_306, rfl, rfl⟩
theorem fl_X10_57 : Fl RX10 57 10 8 false := ⟨RX10, TX10, 9, cl_10, by decide, wd_307, rfl, rfl⟩
theorem fl_X10_112 : Fl RX10 112 2 2 true := ⟨RX2, TX2, 4, cl_2, by decide, wd_208, rfl, rfl⟩
theorem fl_X10_121 : Fl RX10 121 2 3 true := ⟨RX2, TX2, 4, cl_2, by decide, wd_210, rfl, rfl⟩
theorem fl_X10_143 : Fl RX10 143 2 1 true := ⟨RX2, TX2, 4, cl_2, by decide, wd_206, rfl, rfl⟩
theorem fl_X10_165 : Fl RX10 165 2 0 true := ⟨RX2, TX2, 4, cl_2, by decide, wd_204, rfl, rfl⟩
theorem fl_X0_11 : Fl RX0 11 0 0 true := ⟨RX0, TX0, 4, cl_0, by decide, wd_267, rfl, rfl⟩
theorem fl_X0_15 : Fl RX0 15 0 1 true := ⟨RX0, TX0, 4, cl_0, by decide, wd_268, rfl, rfl⟩
theorem fl_X0_18 : Fl RX0 18 0 2 true := ⟨RX0, TX0, 4, cl_0, by decide, wd_269, rfl, rfl⟩
theorem fl_X0_21 : Fl RX0 21 0 3 false := ⟨RX0, TX0, 4, cl_0, by decide, wd_270, rfl, rfl⟩
theorem fl_X1_11 : Fl RX1 11 1 0 true := ⟨RX1, TX1, 2, cl_1, by decide, wd_254, rfl, rfl⟩
theorem fl_X1_17 : Fl RX1 17 1 1 false := ⟨RX1, TX1, 2, cl_1, by decide, wd_255, rfl, rfl⟩
theorem fl_X2_12 : Fl RX2 12 2 0 true := ⟨RX2, TX2, 4, cl_2, by decide, wd_203, rfl, rfl⟩
theorem fl_X2_21 : Fl RX2 21 2 1 true := ⟨RX2, TX2, 4, cl_2, by decide, wd_205, rfl, rfl⟩
theorem fl_X2_28 : Fl RX2 28 2 2 true := ⟨RX2, TX2, 4, cl_2, by decide, wd_207, rfl, rfl⟩
theorem fl_X2_35 : Fl RX2 35 2 3 true := ⟨RX2, TX2, 4, cl_2, by decide, wd_209, rfl, rfl⟩
theorem fl_X3_13 : Fl RX3 13 3 0 true := ⟨RX3, TX3, 2, cl_3, by decide, wd_179, rfl, rfl⟩
theorem fl_X3_16 : Fl RX3 16 3 1 false := ⟨RX3, TX3, 2, cl_3, by decide, wd_180, rfl, rfl⟩
theorem fl_X4_10 : Fl RX4 10 4 0 true := ⟨RX4, TX4, 3, cl_4, by decide, wd_289, rfl, rfl⟩
theorem fl_X4_16 : Fl RX4 16 4 1 false := ⟨RX4, TX4, 3, cl_4, by decide, wd_290, rfl, rfl⟩
theorem fl_X4_20 : Fl RX4 20 4 2 false := ⟨RX4, TX4, 3, cl_4, by decide, wd_291, rfl, rfl⟩
theorem fl_X5_11 : Fl RX5 11 5 0 true := ⟨RX5, TX5, 3, cl_5, by decide, wd_162, rfl, rfl⟩
theorem fl_X5_16 : Fl RX5 16 5 1 true := ⟨RX5, TX5, 3, cl_5, by decide, wd_163, rfl, rfl⟩
theorem fl_X5_20 : Fl RX5 20 5 2 true := ⟨RX5, TX5, 3, cl_5, by decide, wd_164, rfl, rfl⟩
theorem fl_X6_20 : Fl RX6 20 6 0 true := ⟨RX6, TX6, 5, cl_6, by decide, wd_99, rfl, rfl⟩
theorem fl_X6_23 : Fl RX6 23 6 1 true := ⟨RX6, TX6, 5, cl_6, by decide, wd_100, rfl, rfl⟩
theorem fl_X6_26 : Fl RX6 26 6 2 true := ⟨RX6, TX6, 5, cl_6, by decide, wd_101, rfl, rfl⟩
theorem fl_X6_29 : Fl RX6 29 6 3 false := ⟨RX6, TX6, 5, cl_6, by decide, wd_102, rfl, rfl⟩
theorem fl_X6_33 : Fl RX6 33 6 4 false := ⟨RX6, TX6, 5, cl_6, by decide, wd_103, rfl, rfl⟩
theorem fl_X7_11 : Fl RX7 11 7 0 true := ⟨RX7, TX7, 3, cl_7, by decide, wd_193, rfl, rfl⟩
theorem fl_X7_19 : Fl RX7 19 7 1 true := ⟨RX7, TX7, 3, cl_7, by decide, wd_194, rfl, rfl⟩
theorem fl_X7_22 : Fl RX7 22 7 2 false := ⟨RX7, TX7, 3, cl_7, by decide, wd_195, rfl, rfl⟩
theorem fl_X8_9 : Fl RX8 9 8 0 true := ⟨RX8, TX8, 8, cl_8, by decide, wd_130, rfl, rfl⟩
theorem fl_X8_17 : Fl RX8 17 8 1 true := ⟨RX8, TX8, 8, cl_8, by decide, wd_131, rfl, rfl⟩
theorem fl_X8_20 : Fl RX8 20 8 2 true := ⟨RX8, TX8, 8, cl_8, by decide, wd_132, rfl, rfl⟩
theorem fl_X8_23 : Fl RX8 23 8 3 false := ⟨RX8, TX8, 8, cl_8, by decide, wd_133, rfl, rfl⟩
theorem fl_X8_27 : Fl RX8 27 8 4 false := ⟨RX8, TX8, 8, cl_8, by decide, wd_134, rfl, rfl⟩
theorem fl_X8_30 : Fl RX8 30 8 5 false := ⟨RX8, TX8, 8, cl_8, by decide, wd_135, rfl, rfl⟩
theorem fl_X8_33 : Fl RX8 33 8 6 false := ⟨RX8, TX8, 8, cl_8, by decide, wd_136, rfl, rfl⟩
theorem fl_X8_36 : Fl RX8 36 8 7 false := ⟨RX8, TX8, 8, cl_8, by decide, wd_137, rfl, rfl⟩
theorem fl_X9_11 : Fl RX9 11 9 0 true := ⟨RX9, TX9, 6, cl_9, by decide, wd_226, rfl, rfl⟩
theorem fl_X9_15 : Fl RX9 15 9 1 true := ⟨RX9, TX9, 6, cl_9, by decide, wd_227, rfl, rfl⟩
theorem fl_X9_18 : Fl RX9 18 9 2 true := ⟨RX9, TX9, 6, cl_9, by decide, wd_228, rfl, rfl⟩
theorem fl_X9_21 : Fl RX9 21 9 3 false := ⟨RX9, TX9, 6, cl_9, by decide, wd_229, rfl, rfl⟩
theorem fl_X9_25 : Fl RX9 25 9 4 false := ⟨RX9, TX9, 6, cl_9, by decide, wd_230, rfl, rfl⟩
theorem fl_X9_28 : Fl RX9 28 9 5 false := ⟨RX9, TX9, 6, cl_9, by decide, wd_231, rfl, rfl⟩
theorem fl_X11_7 : Fl RX11 7 11 0 true := ⟨RX11, TX11, 24, cl_11, by decide, wd_917, rfl, rfl⟩
theorem fl_X11_13 : Fl RX11 13 11 4 true := ⟨RX11, TX11, 24, cl_11, by decide, wd_921, rfl, rfl⟩
theorem fl_X11_16 : Fl RX11 16 11 5 true := ⟨RX11, TX11, 24, cl_11, by decide, wd_922, rfl, rfl⟩
theorem fl_X11_19 : Fl RX11 19 11 7 false := ⟨RX11, TX11, 24, cl_11, by decide, wd_924, rfl, rfl⟩
theorem fl_X11_23 : Fl RX11 23 11 8 true := ⟨RX11, TX11, 24, cl_11, by decide, wd_925, rfl, rfl⟩
theorem fl_X11_26 : Fl RX11 26 11 9 true := ⟨RX11, TX11, 24, cl_11, by decide, wd_926, rfl, rfl⟩
theorem fl_X11_29 : Fl RX11 29 11 10 true := ⟨RX11, TX11, 24, cl_11, by decide, wd_927, rfl, rfl⟩
theorem fl_X11_32 : Fl RX11 32 11 12 true := ⟨RX11, TX11, 24, cl_11, by decide, wd_929, rfl, rfl⟩
theorem fl_X11_35 : Fl RX11 35 11 13 true := ⟨RX11, TX11, 24, cl_11, by decide, wd_930, rfl, rfl⟩
theorem fl_X11_38 : Fl RX11 38 11 14 true := ⟨RX11, TX11, 24, cl_11, by decide, wd_931, rfl, rfl⟩
theorem fl_X11_41 : Fl RX11 41 11 15 true := ⟨RX11, TX11, 24, cl_11, by decide, wd_932, rfl, rfl⟩
theorem fl_X11_44 : Fl RX11 44 11 16 true := ⟨RX11, TX11, 24, cl_11, by decide, wd_933, rfl, rfl⟩
theorem fl_X11_47 : Fl RX11 47 11 17 true := ⟨RX11, TX11, 24, cl_11, by decide, wd_934, rfl, rfl⟩
theorem fl_X11_50 : Fl RX11 50 11 18 true := ⟨RX11, TX11, 24, cl_11, by decide, wd_935, rfl, rfl⟩
theorem fl_X11_53 : Fl RX11 53 11 21 true := ⟨RX11, TX11, 24, cl_11, by decide, wd_938, rfl, rfl⟩
theorem fl_X11_56 : Fl RX11 56 11 22 true := ⟨RX11, TX11, 24, cl_11, by decide, wd_939, rfl, rfl⟩
theorem fl_X11_63 : Fl RX11 63 11 1 false := ⟨RX11, TX11, 24, cl_11, by decide, wd_918, rfl, rfl⟩
theorem fl_X11_88 : Fl RX11 88 11 19 false := ⟨RX11, TX11, 24, cl_11, by decide, wd_936, rfl, rfl⟩
theorem fl_X11_119 : Fl RX11 119 11 6 false := ⟨RX11, TX11, 24, cl_11, by decide, wd_923, rfl, rfl⟩
theorem fl_X11_122 : Fl RX11 122 11 20 false := ⟨RX11, TX11, 24, cl_11, by decide, wd_937, rfl, rfl⟩
theorem fl_X11_132 : Fl RX11 132 11 23 false := ⟨RX11, TX11, 24, cl_11, by decide, wd_940, rfl, rfl⟩
theorem fl_X11_161 : Fl RX11 161 11 11 false := ⟨RX11, TX11, 24, cl_11, by decide, wd_928, rfl, rfl⟩
theorem fl_X11_173 : Fl RX11 173 11 3 false := ⟨RX11, TX11, 24, cl_11, by decide, wd_920, rfl, rfl⟩
theorem fl_X11_231 : Fl RX11 231 11 2 false := ⟨RX11, TX11, 24, cl_11, by decide, wd_919, rfl, rfl⟩
theorem cv_X10_9 : CIN RX10 D_X6_init 9 0 "FlaringWords" := ⟨cd_X6_init, List.mem_of_getElem? (i := 86) (by decide +kernel), wd_87, rfl, rfl⟩
theorem cv_X10_18 : CIN RX10 D_X2_init 18 0 "FlaringWords" := ⟨cd_X2_init, List.mem_of_getElem? (i := 118) (by decide +kernel), wd_119, rfl, rfl⟩
theorem cv_X10_25 : CIN RX10 D_X9_init 25 0 "FlaringWords" := ⟨cd_X9_init, List.mem_of_getElem? (i := 222) (by decide +kernel), wd_223, rfl, rfl⟩
theorem cv_X10_32 : CI RX10 D_X1_init 32 0 := ⟨cd_X1_init, wd_247, wd_248, rfl, rfl⟩
theorem cv_X10_39 : CIN RX10 D_X0_init 39 0 "FlaringWords" := ⟨cd_X0_init, List.mem_of_getElem? (i := 263) (by decide +kernel), wd_264, rfl, rfl⟩
theorem cv_X10_61 : CIN RX10 D_X4_init 61 0 "FlaringWords" := ⟨cd_X4_init, List.mem_of_getElem? (i := 283) (by decide +kernel), wd_284, rfl, rfl⟩
theorem cv_X10_180 : CS RX10 D_X10_isWord 180 1 := ⟨cd_X10_isWord, wd_716, wd_386⟩
theorem cv_X10_206 : CS RX10 D_X3_isFact 206 1 := ⟨cd_X3_isFact, wd_747, wd_640⟩
theorem cv_X10_213 : CS RX10 D_X7_isFact 213 1 := ⟨cd_X7_isFact, wd_754, wd_755⟩
theorem cv_X10_215 : CS RX10 D_X10_setOfWord 215 1 := ⟨cd_X10_setOfWord, wd_766, wd_389⟩
theorem cv_X10_238 : CS RX10 D_X6_isTerm 238 1 := ⟨cd_X6_isTerm, wd_812, wd_813⟩
theorem cv_X10_241 : CS RX10 D_X6_isInBounds 241 2 := ⟨cd_X6_isInBounds, wd_815, wd_816⟩
theorem cv_X10_63 : CV RX10 D_X9_hasRoom 63 9 0 := ⟨cd_X9_hasRoom, wd_332, wd_333, wd_334, RX9, TX9, 6, cl_9, rfl⟩
theorem cv_X10_68 : CV RX10 D_X9_add 68 9 1 := ⟨cd_X9_add, wd_337, wd_338, wd_339, RX9, TX9, 6, cl_9, rfl⟩
theorem cv_X10_72 : CV RX10 D_X9_length 72 9 0 := ⟨cd_X9_length, wd_342, wd_343, wd_344, RX9, TX9, 6, cl_9, rfl⟩
theorem cv_X10_76 : CV RX10 D_X6_dayCount 76 6 0 := ⟨cd_X6_dayCount, wd_350, wd_351, wd_352, RX6, TX6, 5, cl_6, rfl⟩
theorem cv_X10_79 : CV RX10 D_X6_count 79 6 0 := ⟨cd_X6_count, wd_354, wd_355, wd_356, RX6, TX6, 5, cl_6, rfl⟩
theorem cv_X10_82 : CV RX10 D_X9_read 82 9 2 := ⟨cd_X9_read, wd_358, wd_359, wd_360, RX9, TX9, 6, cl_9, rfl⟩
theorem cv_X10_86 : CV RX10 D_X9_place 86 9 0 := ⟨cd_X9_place, wd_391, wd_392, wd_393, RX9, TX9, 6, cl_9, rfl⟩
theorem cv_X10_89 : CV RX10 D_X9_clear 89 9 0 := ⟨cd_X9_clear, wd_395, wd_396, wd_397, RX9, TX9, 6, cl_9, rfl⟩
theorem cv_X10_92 : CV RX10 D_X10_aheadOfDeed 92 10 0 := ⟨cd_X10_aheadOfDeed, wd_399, wd_401, wd_5, RX10, TX10, 9, cl_10, rfl⟩
theorem cv_X10_95 : CV RX10 D_X9_readCount 95 9 0 := ⟨cd_X9_readCount, wd_418, wd_419, wd_420, RX9, TX9, 6, cl_9, rfl⟩
theorem cv_X10_98 : CV RX10 D_X9_dayRead 98 9 1 := ⟨cd_X9_dayRead, wd_422, wd_423, wd_424, RX9, TX9, 6, cl_9, rfl⟩
theorem cv_X10_102 : CV RX10 D_X9_setRead 102 9 1 := ⟨cd_X9_setRead, wd_426, wd_427, wd_428, RX9, TX9, 6, cl_9, rfl⟩
theorem cv_X10_105 : CV RX10 D_X6_add 105 6 2 := ⟨cd_X6_add, wd_430, wd_431, wd_432, RX6, TX6, 5, cl_6, rfl⟩
theorem cv_X10_108 : CV RX10 D_X10_found 108 10 0 := ⟨cd_X10_found, wd_446, wd_448, wd_7, RX10, TX10, 9, cl_10, rfl⟩
theorem cv_X10_116 : CV RX10 D_X3_number 116 3 0 := ⟨cd_X3_number, wd_654, wd_587, wd_588, RX3, TX3, 2, cl_3, rfl⟩
theorem cv_X10_125 : CV RX10 D_X7_number 125 7 0 := ⟨cd_X7_number, wd_655, wd_656, wd_657, RX7, TX7, 3, cl_7, rfl⟩
theorem cv_X10_128 : CV RX10 D_X6_levels 128 6 0 := ⟨cd_X6_levels, wd_659, wd_456, wd_457, RX6, TX6, 5, cl_6, rfl⟩
theorem cv_X10_131 : CV RX10 D_X6_base 131 6 0 := ⟨cd_X6_base, wd_660, wd_460, wd_461, RX6, TX6, 5, cl_6, rfl⟩
theorem cv_X10_134 : CV RX10 D_X6_step 134 6 0 := ⟨cd_X6_step, wd_661, wd_464, wd_465, RX6, TX6, 5, cl_6, rfl⟩
theorem cv_X10_137 : CV RX10 D_X6_rise 137 6 0 := ⟨cd_X6_rise, wd_662, wd_468, wd_469, RX6, TX6, 5, cl_6, rfl⟩
theorem cv_X10_140 : CV RX10 D_X0_entries 140 0 0 := ⟨cd_X0_entries, wd_663, wd_664, wd_665, RX0, TX0, 4, cl_0, rfl⟩
theorem cv_X10_146 : CV RX10 D_X0_firstWrong 146 0 2 := ⟨cd_X0_firstWrong, wd_667, wd_668, wd_669, RX0, TX0, 4, cl_0, rfl⟩
theorem cv_X10_150 : CV RX10 D_X1_number 150 1 0 := ⟨cd_X1_number, wd_676, wd_677, wd_678, RX1, TX1, 2, cl_1, rfl⟩
theorem cv_X10_151 : CV RX10 D_X6_hasPiece 151 6 1 := ⟨cd_X6_hasPiece, wd_684, wd_600, wd_601, RX6, TX6, 5, cl_6, rfl⟩
theorem cv_X10_156 : CV RX10 D_X6_dayOf 156 6 1 := ⟨cd_X6_dayOf, wd_686, wd_596, wd_597, RX6, TX6, 5, cl_6, rfl⟩
theorem cv_X10_159 : CV RX10 D_X6_setOf 159 6 1 := ⟨cd_X6_setOf, wd_687, wd_604, wd_605, RX6, TX6, 5, cl_6, rfl⟩
theorem cv_X10_162 : CV RX10 D_X6_hasDay 162 6 1 := ⟨cd_X6_hasDay, wd_692, wd_672, wd_673, RX6, TX6, 5, cl_6, rfl⟩
theorem cv_X10_169 : CV RX10 D_X8_all 169 8 1 := ⟨cd_X8_all, wd_693, wd_694, wd_695, RX8, TX8, 8, cl_8, rfl⟩
theorem cv_X10_174 : CV RX10 D_X2_hot 174 2 1 := ⟨cd_X2_hot, wd_697, wd_698, wd_699, RX2, TX2, 4, cl_2, rfl⟩
theorem cv_X10_177 : CV RX10 D_X2_top 177 2 1 := ⟨cd_X2_top, wd_703, wd_704, wd_705, RX2, TX2, 4, cl_2, rfl⟩
theorem cv_X10_183 : CV RX10 D_X8_count 183 8 2 := ⟨cd_X8_count, wd_717, wd_521, wd_522, RX8, TX8, 8, cl_8, rfl⟩
theorem cv_X10_185 : CV RX10 D_X5_of 185 5 2 := ⟨cd_X5_of, wd_718, wd_548, wd_549, RX5, TX5, 3, cl_5, rfl⟩
theorem cv_X10_190 : CV RX10 D_X6_hasLevel 190 6 1 := ⟨cd_X6_hasLevel, wd_719, wd_720, wd_721, RX6, TX6, 5, cl_6, rfl⟩
theorem cv_X10_193 : CV RX10 D_X8_wanted 193 8 3 := ⟨cd_X8_wanted, wd_723, wd_527, wd_528, RX8, TX8, 8, cl_8, rfl⟩
theorem cv_X10_197 : CV RX10 D_X5_costOf 197 5 1 := ⟨cd_X5_costOf, wd_728, wd_729, wd_730, RX5, TX5, 3, cl_5, rfl⟩
theorem cv_X10_200 : CV RX10 D_X8_costOfSteady 200 8 2 := ⟨cd_X8_costOfSteady, wd_736, wd_737, wd_738, RX8, TX8, 8, cl_8, rfl⟩
theorem cv_X10_203 : CV RX10 D_X3_has 203 3 1 := ⟨cd_X3_has, wd_746, wd_565, wd_566, RX3, TX3, 2, cl_3, rfl⟩
theorem cv_X10_209 : CV RX10 D_X3_fact 209 3 2 := ⟨cd_X3_fact, wd_748, wd_636, wd_637, RX3, TX3, 2, cl_3, rfl⟩
theorem cv_X10_212 : CV RX10 D_X7_has 212 7 1 := ⟨cd_X7_has, wd_753, wd_651, wd_652, RX7, TX7, 3, cl_7, rfl⟩
theorem cv_X10_214 : CV RX10 D_X7_fact 214 7 2 := ⟨cd_X7_fact, wd_757, wd_758, wd_759, RX7, TX7, 3, cl_7, rfl⟩
theorem cv_X10_218 : CV RX10 D_X6_countWith 218 6 1 := ⟨cd_X6_countWith, wd_767, wd_482, wd_483, RX6, TX6, 5, cl_6, rfl⟩
theorem cv_X10_221 : CV RX10 D_X6_hasRoom 221 6 0 := ⟨cd_X6_hasRoom, wd_772, wd_435, wd_436, RX6, TX6, 5, cl_6, rfl⟩
theorem cv_X10_222 : CV RX10 D_X10_comes 222 10 2 := ⟨cd_X10_comes, wd_773, wd_775, wd_25, RX10, TX10, 9, cl_10, rfl⟩
theorem cv_X10_225 : CV RX10 D_X6_remove 225 6 1 := ⟨cd_X6_remove, wd_781, wd_782, wd_783, RX6, TX6, 5, cl_6, rfl⟩
theorem cv_X10_228 : CV RX10 D_X6_putOn 228 6 2 := ⟨cd_X6_putOn, wd_789, wd_790, wd_791, RX6, TX6, 5, cl_6, rfl⟩
theorem cv_X10_231 : CV RX10 D_X6_hasPieceFrom 231 6 1 := ⟨cd_X6_hasPieceFrom, wd_797, wd_798, wd_799, RX6, TX6, 5, cl_6, rfl⟩
theorem cv_X10_235 : CV RX10 D_X6_setDayCount 235 6 1 := ⟨cd_X6_setDayCount, wd_802, wd_803, wd_804, RX6, TX6, 5, cl_6, rfl⟩
theorem cv_X10_245 : CV RX10 D_X6_termOf 245 6 1 := ⟨cd_X6_termOf, wd_823, wd_824, wd_825, RX6, TX6, 5, cl_6, rfl⟩
theorem cv_X10_248 : CV RX10 D_X6_setTerm 248 6 2 := ⟨cd_X6_setTerm, wd_827, wd_828, wd_829, RX6, TX6, 5, cl_6, rfl⟩
theorem cv_X10_251 : CV RX10 D_X10_draw 251 10 1 := ⟨cd_X10_draw, wd_836, wd_838, wd_26, RX10, TX10, 9, cl_10, rfl⟩
theorem cv_X10_254 : CV RX10 D_X1_takeBack 254 1 2 := ⟨cd_X1_takeBack, wd_848, wd_849, wd_850, RX1, TX1, 2, cl_1, rfl⟩
theorem cv_X10_258 : CV RX10 D_X0_hasRoom 258 0 0 := ⟨cd_X0_hasRoom, wd_856, wd_857, wd_858, RX0, TX0, 4, cl_0, rfl⟩
theorem cv_X10_259 : CV RX10 D_X0_add 259 0 3 := ⟨cd_X0_add, wd_860, wd_861, wd_862, RX0, TX0, 4, cl_0, rfl⟩
theorem cv_X10_262 : CV RX10 D_X0_clear 262 0 0 := ⟨cd_X0_clear, wd_869, wd_870, wd_871, RX0, TX0, 4, cl_0, rfl⟩
theorem cv_X10_263 : CV RX10 D_X10_imageOf 263 10 1 := ⟨cd_X10_imageOf, wd_881, wd_883, wd_27, RX10, TX10, 9, cl_10, rfl⟩
theorem cv_X10_267 : CV RX10 D_X4_hold 267 4 2 := ⟨cd_X4_hold, wd_885, wd_886, wd_887, RX4, TX4, 3, cl_4, rfl⟩
theorem cv_X10_271 : CV RX10 D_X1_forget 271 1 0 := ⟨cd_X1_forget, wd_890, wd_891, wd_892, RX1, TX1, 2, cl_1, rfl⟩
theorem cv_X10_274 : CV RX10 D_X4_isHeld 274 4 0 := ⟨cd_X4_isHeld, wd_898, wd_899, wd_900, RX4, TX4, 3, cl_4, rfl⟩
theorem cv_X10_277 : CV RX10 D_X4_heldNews 277 4 0 := ⟨cd_X4_heldNews, wd_902, wd_903, wd_904, RX4, TX4, 3, cl_4, rfl⟩
theorem cv_X10_281 : CV RX10 D_X6_become 281 6 1 := ⟨cd_X6_become, wd_906, wd_412, wd_413, RX6, TX6, 5, cl_6, rfl⟩
theorem cv_X10_285 : CV RX10 D_X4_heldSeed 285 4 0 := ⟨cd_X4_heldSeed, wd_907, wd_908, wd_909, RX4, TX4, 3, cl_4, rfl⟩
theorem cv_X10_288 : CV RX10 D_X1_remember 288 1 1 := ⟨cd_X1_remember, wd_403, wd_404, wd_405, RX1, TX1, 2, cl_1, rfl⟩
theorem cv_X10_298 : CV RX10 D_X8_countAll 298 8 1 := ⟨cd_X8_countAll, wd_450, wd_451, wd_452, RX8, TX8, 8, cl_8, rfl⟩
theorem cv_X10_301 : CV RX10 D_X5_findAll 301 5 1 := ⟨cd_X5_findAll, wd_485, wd_486, wd_487, RX5, TX5, 3, cl_5, rfl⟩
theorem cv_X10_305 : CV RX10 D_X3_findAll 305 3 2 := ⟨cd_X3_findAll, wd_537, wd_538, wd_539, RX3, TX3, 2, cl_3, rfl⟩
theorem cv_X10_308 : CV RX10 D_X7_findAll 308 7 2 := ⟨cd_X7_findAll, wd_582, wd_583, wd_584, RX7, TX7, 3, cl_7, rfl⟩
theorem cv_X0_25 : CV RX0 D_X0_hasRoom 25 0 0 := ⟨cd_X0_hasRoom, wd_864, wd_857, wd_858, RX0, TX0, 4, cl_0, rfl⟩
theorem cv_X0_29 : CV RX0 D_X6_hasDay 29 6 1 := ⟨cd_X6_hasDay, wd_671, wd_672, wd_673, RX6, TX6, 5, cl_6, rfl⟩
theorem cv_X0_35 : CV RX0 D_X5_of 35 5 2 := ⟨cd_X5_of, wd_675, wd_548, wd_549, RX5, TX5, 3, cl_5, rfl⟩
theorem cv_X1_21 : CIN RX1 D_X6_init 21 0 "FlaringWords" := ⟨cd_X6_init, List.mem_of_getElem? (i := 253) (by decide +kernel), wd_87, rfl, rfl⟩
theorem cv_X1_22 : CV RX1 D_X1_dropOldest 22 1 0 := ⟨cd_X1_dropOldest, wd_407, wd_409, wd_6, RX1, TX1, 2, cl_1, rfl⟩
theorem cv_X1_25 : CV RX1 D_X6_become 25 6 1 := ⟨cd_X6_become, wd_411, wd_412, wd_413, RX6, TX6, 5, cl_6, rfl⟩
theorem cv_X2_11 : CIN RX2 D_X8_init 11 0 "FlaringWords" := ⟨cd_X8_init, List.mem_of_getElem? (i := 124) (by decide +kernel), wd_125, rfl, rfl⟩
theorem cv_X2_20 : CIN RX2 D_X5_init 20 0 "FlaringWords" := ⟨cd_X5_init, List.mem_of_getElem? (i := 157) (by decide +kernel), wd_158, rfl, rfl⟩
theorem cv_X2_27 : CIN RX2 D_X3_init 27 0 "FlaringWords" := ⟨cd_X3_init, List.mem_of_getElem? (i := 174) (by decide +kernel), wd_175, rfl, rfl⟩
theorem cv_X2_34 : CIN RX2 D_X7_init 34 0 "FlaringWords" := ⟨cd_X7_init, List.mem_of_getElem? (i := 188) (by decide +kernel), wd_189, rfl, rfl⟩
theorem cv_X2_43 : CSN RX2 D_X10_setOfWord 43 1 "FlaringWords" := ⟨cd_X10_setOfWord, List.mem_of_getElem? (i := 702) (by decide +kernel), wd_389⟩
theorem cv_X2_39 : CV RX2 D_X5_of 39 5 2 := ⟨cd_X5_of, wd_701, wd_548, wd_549, RX5, TX5, 3, cl_5, rfl⟩
theorem cv_X2_47 : CV RX2 D_X2_isAbove 47 2 3 := ⟨cd_X2_isAbove, wd_707, wd_709, wd_24, RX2, TX2, 4, cl_2, rfl⟩
theorem cv_X2_51 : CV RX2 D_X8_count 51 8 2 := ⟨cd_X8_count, wd_711, wd_521, wd_522, RX8, TX8, 8, cl_8, rfl⟩
theorem cv_X3_24 : CSN RX3 D_X10_setOfWord 24 1 "FlaringWords" := ⟨cd_X10_setOfWord, List.mem_of_getElem? (i := 616) (by decide +kernel), wd_389⟩
theorem cv_X3_28 : CS RX3 D_X3_isFact 28 1 := ⟨cd_X3_isFact, wd_639, wd_640⟩
theorem cv_X3_20 : CV RX3 D_X3_has 20 3 1 := ⟨cd_X3_has, wd_564, wd_565, wd_566, RX3, TX3, 2, cl_3, rfl⟩
theorem cv_X3_31 : CV RX3 D_X8_highest 31 8 0 := ⟨cd_X8_highest, wd_541, wd_498, wd_499, RX8, TX8, 8, cl_8, rfl⟩
theorem cv_X3_37 : CV RX3 D_X8_dayCount 37 8 0 := ⟨cd_X8_dayCount, wd_542, wd_494, wd_495, RX8, TX8, 8, cl_8, rfl⟩
theorem cv_X3_40 : CV RX3 D_X3_findAt 40 3 4 := ⟨cd_X3_findAt, wd_543, wd_545, wd_13, RX3, TX3, 2, cl_3, rfl⟩
theorem cv_X3_44 : CV RX3 D_X3_around 44 3 1 := ⟨cd_X3_around, wd_556, wd_558, wd_15, RX3, TX3, 2, cl_3, rfl⟩
theorem cv_X3_47 : CV RX3 D_X3_weightOf 47 3 2 := ⟨cd_X3_weightOf, wd_568, wd_570, wd_16, RX3, TX3, 2, cl_3, rfl⟩
theorem cv_X3_51 : CV RX3 D_X3_peakOf 51 3 2 := ⟨cd_X3_peakOf, wd_573, wd_575, wd_17, RX3, TX3, 2, cl_3, rfl⟩
theorem cv_X3_54 : CV RX3 D_X3_fadeOf 54 3 2 := ⟨cd_X3_fadeOf, wd_578, wd_580, wd_18, RX3, TX3, 2, cl_3, rfl⟩
theorem cv_X3_57 : CV RX3 D_X5_of 57 5 2 := ⟨cd_X5_of, wd_547, wd_548, wd_549, RX5, TX5, 3, cl_5, rfl⟩
theorem cv_X3_63 : CV RX3 D_X3_add 63 3 4 := ⟨cd_X3_add, wd_552, wd_554, wd_14, RX3, TX3, 2, cl_3, rfl⟩
theorem cv_X3_67 : CV RX3 D_X3_hasDay 67 3 2 := ⟨cd_X3_hasDay, wd_560, wd_561, wd_562, RX3, TX3, 2, cl_3, rfl⟩
theorem cv_X3_71 : CV RX3 D_X8_unlikely 71 8 3 := ⟨cd_X8_unlikely, wd_572, wd_517, wd_518, RX8, TX8, 8, cl_8, rfl⟩
theorem cv_X3_75 : CV RX3 D_X8_count 75 8 2 := ⟨cd_X8_count, wd_577, wd_521, wd_522, RX8, TX8, 8, cl_8, rfl⟩
theorem cv_X4_9 : CIN RX4 D_X6_init 9 0 "FlaringWords" := ⟨cd_X6_init, List.mem_of_getElem? (i := 288) (by decide +kernel), wd_87, rfl, rfl⟩
theorem cv_X4_24 : CV RX4 D_X6_become 24 6 1 := ⟨cd_X6_become, wd_889, wd_412, wd_413, RX6, TX6, 5, cl_6, rfl⟩
theorem cv_X5_38 : CSN RX5 D_X10_isWord 38 1 "FlaringWords" := ⟨cd_X10_isWord, List.mem_of_getElem? (i := 551) (by decide +kernel), wd_386⟩
theorem cv_X5_42 : CS RX5 D_X8_isDay 42 1 := ⟨cd_X8_isDay, wd_509, wd_510⟩
theorem cv_X5_23 : CV RX5 D_X5_costRests 23 5 2 := ⟨cd_X5_costRests, wd_489, wd_491, wd_9, RX5, TX5, 3, cl_5, rfl⟩
theorem cv_X5_27 : CV RX5 D_X5_leastFrom 27 5 3 := ⟨cd_X5_leastFrom, wd_501, wd_503, wd_10, RX5, TX5, 3, cl_5, rfl⟩
theorem cv_X5_31 : CV RX5 D_X5_costFrom 31 5 4 := ⟨cd_X5_costFrom, wd_505, wd_507, wd_11, RX5, TX5, 3, cl_5, rfl⟩
theorem cv_X5_35 : CV RX5 D_X5_walk 35 5 2 := ⟨cd_X5_walk, wd_533, wd_535, wd_12, RX5, TX5, 3, cl_5, rfl⟩
theorem cv_X5_47 : CV RX5 D_X8_dayCount 47 8 0 := ⟨cd_X8_dayCount, wd_493, wd_494, wd_495, RX8, TX8, 8, cl_8, rfl⟩
theorem cv_X5_51 : CV RX5 D_X8_highest 51 8 0 := ⟨cd_X8_highest, wd_497, wd_498, wd_499, RX8, TX8, 8, cl_8, rfl⟩
theorem cv_X5_54 : CV RX5 D_X8_unlikely 54 8 3 := ⟨cd_X8_unlikely, wd_516, wd_517, wd_518, RX8, TX8, 8, cl_8, rfl⟩
theorem cv_X5_58 : CV RX5 D_X8_costOfRise 58 8 2 := ⟨cd_X8_costOfRise, wd_512, wd_513, wd_514, RX8, TX8, 8, cl_8, rfl⟩
theorem cv_X6_36 : CS RX6 D_X6_isTerm 36 1 := ⟨cd_X6_isTerm, wd_818, wd_813⟩
theorem cv_X6_46 : CS RX6 D_X6_isInBounds 46 2 := ⟨cd_X6_isInBounds, wd_831, wd_816⟩
theorem cv_X6_50 : Mt RX6 50 Lib.Math.min.name Lib.Math.min.code 2 := ⟨wd_806, wd_622, wd_75, wd_623⟩
theorem cv_X6_56 : Mt RX6 56 Lib.Math.max.name Lib.Math.max.code 2 := ⟨wd_807, wd_625, wd_75, wd_626⟩
theorem cv_X6_59 : CV RX6 D_X6_hasPiece 59 6 1 := ⟨cd_X6_hasPiece, wd_599, wd_600, wd_601, RX6, TX6, 5, cl_6, rfl⟩
theorem cv_X6_62 : CV RX6 D_X6_hasRoom 62 6 0 := ⟨cd_X6_hasRoom, wd_434, wd_435, wd_436, RX6, TX6, 5, cl_6, rfl⟩
theorem cv_X7_30 : CS RX7 D_X7_isFact 30 1 := ⟨cd_X7_isFact, wd_761, wd_755⟩
theorem cv_X7_68 : Mt RX7 68 Lib.Math.min.name Lib.Math.min.code 2 := ⟨wd_621, wd_622, wd_75, wd_623⟩
theorem cv_X7_74 : Mt RX7 74 Lib.Math.max.name Lib.Math.max.code 2 := ⟨wd_624, wd_625, wd_75, wd_626⟩
theorem cv_X7_26 : CV RX7 D_X7_has 26 7 1 := ⟨cd_X7_has, wd_650, wd_651, wd_652, RX7, TX7, 3, cl_7, rfl⟩
theorem cv_X7_33 : CV RX7 D_X3_number 33 3 0 := ⟨cd_X3_number, wd_586, wd_587, wd_588, RX3, TX3, 2, cl_3, rfl⟩
theorem cv_X7_36 : CV RX7 D_X3_isAtOne 36 3 1 := ⟨cd_X3_isAtOne, wd_590, wd_591, wd_592, RX3, TX3, 2, cl_3, rfl⟩
theorem cv_X7_39 : CV RX7 D_X6_count 39 6 0 := ⟨cd_X6_count, wd_594, wd_355, wd_356, RX6, TX6, 5, cl_6, rfl⟩
theorem cv_X7_44 : CV RX7 D_X6_dayOf 44 6 1 := ⟨cd_X6_dayOf, wd_595, wd_596, wd_597, RX6, TX6, 5, cl_6, rfl⟩
theorem cv_X7_48 : CV RX7 D_X6_setOf 48 6 1 := ⟨cd_X6_setOf, wd_603, wd_604, wd_605, RX6, TX6, 5, cl_6, rfl⟩
theorem cv_X7_51 : CV RX7 D_X7_tieBy 51 7 3 := ⟨cd_X7_tieBy, wd_607, wd_609, wd_19, RX7, TX7, 3, cl_7, rfl⟩
theorem cv_X7_55 : CV RX7 D_X7_numberHeaps 55 7 1 := ⟨cd_X7_numberHeaps, wd_627, wd_629, wd_21, RX7, TX7, 3, cl_7, rfl⟩
theorem cv_X7_59 : CV RX7 D_X3_hasDay 59 3 2 := ⟨cd_X3_hasDay, wd_611, wd_561, wd_562, RX3, TX3, 2, cl_3, rfl⟩
theorem cv_X7_63 : CV RX7 D_X3_setOf 63 3 1 := ⟨cd_X3_setOf, wd_612, wd_613, wd_614, RX3, TX3, 2, cl_3, rfl⟩
theorem cv_X7_64 : CV RX7 D_X7_joined 64 7 3 := ⟨cd_X7_joined, wd_617, wd_619, wd_20, RX7, TX7, 3, cl_7, rfl⟩
theorem cv_X7_77 : CV RX7 D_X7_begun 77 7 2 := ⟨cd_X7_begun, wd_631, wd_633, wd_22, RX7, TX7, 3, cl_7, rfl⟩
theorem cv_X7_81 : CV RX7 D_X3_fact 81 3 2 := ⟨cd_X3_fact, wd_635, wd_636, wd_637, RX3, TX3, 2, cl_3, rfl⟩
theorem cv_X7_84 : CV RX7 D_X3_putStory 84 3 2 := ⟨cd_X3_putStory, wd_642, wd_643, wd_644, RX3, TX3, 2, cl_3, rfl⟩
theorem cv_X7_88 : CV RX7 D_X7_grow 88 7 3 := ⟨cd_X7_grow, wd_646, wd_648, wd_23, RX7, TX7, 3, cl_7, rfl⟩
theorem cv_X8_64 : CSN RX8 D_X10_setOfWord 64 1 "FlaringWords" := ⟨cd_X10_setOfWord, List.mem_of_getElem? (i := 480) (by decide +kernel), wd_389⟩
theorem cv_X8_71 : CS RX8 D_X8_isDay 71 1 := ⟨cd_X8_isDay, wd_525, wd_510⟩
theorem cv_X8_75 : CSN RX8 D_X10_isWord 75 1 "FlaringWords" := ⟨cd_X10_isWord, List.mem_of_getElem? (i := 524) (by decide +kernel), wd_386⟩
theorem cv_X8_84 : Mt RX8 84 Lib.Math.abs.name Lib.Math.abs.code 1 := ⟨wd_530, wd_531, wd_75, wd_532⟩
theorem cv_X8_39 : CV RX8 D_X6_dayCount 39 6 0 := ⟨cd_X6_dayCount, wd_454, wd_351, wd_352, RX6, TX6, 5, cl_6, rfl⟩
theorem cv_X8_44 : CV RX8 D_X6_levels 44 6 0 := ⟨cd_X6_levels, wd_455, wd_456, wd_457, RX6, TX6, 5, cl_6, rfl⟩
theorem cv_X8_47 : CV RX8 D_X6_base 47 6 0 := ⟨cd_X6_base, wd_459, wd_460, wd_461, RX6, TX6, 5, cl_6, rfl⟩
theorem cv_X8_49 : CV RX8 D_X6_step 49 6 0 := ⟨cd_X6_step, wd_463, wd_464, wd_465, RX6, TX6, 5, cl_6, rfl⟩
theorem cv_X8_51 : CV RX8 D_X6_rise 51 6 0 := ⟨cd_X6_rise, wd_467, wd_468, wd_469, RX6, TX6, 5, cl_6, rfl⟩
theorem cv_X8_53 : CV RX8 D_X6_countWithOn 53 6 2 := ⟨cd_X6_countWithOn, wd_471, wd_472, wd_473, RX6, TX6, 5, cl_6, rfl⟩
theorem cv_X8_57 : CV RX8 D_X8_countWord 57 8 2 := ⟨cd_X8_countWord, wd_475, wd_477, wd_8, RX8, TX8, 8, cl_8, rfl⟩
theorem cv_X8_61 : CV RX8 D_X6_count 61 6 0 := ⟨cd_X6_count, wd_479, wd_355, wd_356, RX6, TX6, 5, cl_6, rfl⟩
theorem cv_X8_68 : CV RX8 D_X6_countWith 68 6 1 := ⟨cd_X6_countWith, wd_481, wd_482, wd_483, RX6, TX6, 5, cl_6, rfl⟩
theorem cv_X8_78 : CV RX8 D_X8_count 78 8 2 := ⟨cd_X8_count, wd_520, wd_521, wd_522, RX8, TX8, 8, cl_8, rfl⟩
theorem cv_X8_80 : CV RX8 D_X8_wanted 80 8 3 := ⟨cd_X8_wanted, wd_526, wd_527, wd_528, RX8, TX8, 8, cl_8, rfl⟩
theorem cv_X8_89 : CV RX8 D_X8_costOfRise 89 8 2 := ⟨cd_X8_costOfRise, wd_740, wd_513, wd_514, RX8, TX8, 8, cl_8, rfl⟩
theorem cv_X8_92 : CV RX8 D_X8_unlikely 92 8 3 := ⟨cd_X8_unlikely, wd_741, wd_517, wd_518, RX8, TX8, 8, cl_8, rfl⟩
theorem cv_X9_43 : CS RX9 D_X9_isFigure 43 1 := ⟨cd_X9_isFigure, wd_370, wd_371⟩
theorem cv_X9_58 : CSN RX9 D_X10_isWord 58 1 "FlaringWords" := ⟨cd_X10_isWord, List.mem_of_getElem? (i := 385) (by decide +kernel), wd_386⟩
theorem cv_X9_61 : CSN RX9 D_X10_setOfWord 61 1 "FlaringWords" := ⟨cd_X10_setOfWord, List.mem_of_getElem? (i := 388) (by decide +kernel), wd_389⟩
theorem cv_X9_31 : CV RX9 D_X9_hasRoom 31 9 0 := ⟨cd_X9_hasRoom, wd_341, wd_333, wd_334, RX9, TX9, 6, cl_9, rfl⟩
theorem cv_X9_35 : CV RX9 D_X9_readPiece 35 9 2 := ⟨cd_X9_readPiece, wd_362, wd_364, wd_0, RX9, TX9, 6, cl_9, rfl⟩
theorem cv_X9_39 : CV RX9 D_X9_letterAt 39 9 1 := ⟨cd_X9_letterAt, wd_366, wd_368, wd_1, RX9, TX9, 6, cl_9, rfl⟩
theorem cv_X9_47 : CV RX9 D_X9_hasTwoFigures 47 9 0 := ⟨cd_X9_hasTwoFigures, wd_373, wd_375, wd_2, RX9, TX9, 6, cl_9, rfl⟩
theorem cv_X9_50 : CV RX9 D_X9_passes 50 9 1 := ⟨cd_X9_passes, wd_377, wd_379, wd_3, RX9, TX9, 6, cl_9, rfl⟩
theorem cv_X9_54 : CV RX9 D_X9_readWords 54 9 0 := ⟨cd_X9_readWords, wd_381, wd_383, wd_4, RX9, TX9, 6, cl_9, rfl⟩
theorem cv_X11_94 : CS RX11 D_X11_in 94 3 := ⟨cd_X11_in, wd_995, wd_996⟩
theorem cv_X11_125 : CS RX11 D_X11_isFigure 125 1 := ⟨cd_X11_isFigure, wd_1012, wd_1013⟩
theorem cv_X11_195 : CS RX11 D_X11_isWord 195 1 := ⟨cd_X11_isWord, wd_1144, wd_1145⟩
theorem cv_X11_234 : CS RX11 D_X11_has 234 2 := ⟨cd_X11_has, wd_1246, wd_1247⟩
theorem cv_X11_59 : CV RX11 D_X11_copyRow 59 11 2 := ⟨cd_X11_copyRow, wd_1031, wd_1033, wd_33, RX11, TX11, 24, cl_11, rfl⟩
theorem cv_X11_66 : CV RX11 D_X11_count 66 11 2 := ⟨cd_X11_count, wd_1071, wd_1073, wd_41, RX11, TX11, 24, cl_11, rfl⟩
theorem cv_X11_70 : CV RX11 D_X11_wanted 70 11 3 := ⟨cd_X11_wanted, wd_1075, wd_1077, wd_42, RX11, TX11, 24, cl_11, rfl⟩
theorem cv_X11_74 : CV RX11 D_X11_unlikely 74 11 3 := ⟨cd_X11_unlikely, wd_1067, wd_1069, wd_40, RX11, TX11, 24, cl_11, rfl⟩
theorem cv_X11_77 : CV RX11 D_X11_through 77 11 4 := ⟨cd_X11_through, wd_1063, wd_1065, wd_39, RX11, TX11, 24, cl_11, rfl⟩
theorem cv_X11_81 : CV RX11 D_X11_bestLevel 81 11 3 := ⟨cd_X11_bestLevel, wd_1059, wd_1061, wd_38, RX11, TX11, 24, cl_11, rfl⟩
theorem cv_X11_84 : CV RX11 D_X11_layLevels 84 11 1 := ⟨cd_X11_layLevels, wd_1055, wd_1057, wd_37, RX11, TX11, 24, cl_11, rfl⟩
theorem cv_X11_91 : CV RX11 D_X11_addFlares 91 11 2 := ⟨cd_X11_addFlares, wd_1079, wd_1081, wd_43, RX11, TX11, 24, cl_11, rfl⟩
theorem cv_X11_98 : CV RX11 D_X11_isIn 98 11 2 := ⟨cd_X11_isIn, wd_1095, wd_1097, wd_47, RX11, TX11, 24, cl_11, rfl⟩
theorem cv_X11_102 : CV RX11 D_X11_layFlares 102 11 0 := ⟨cd_X11_layFlares, wd_1051, wd_1053, wd_36, RX11, TX11, 24, cl_11, rfl⟩
theorem cv_X11_105 : CV RX11 D_X11_areTied 105 11 2 := ⟨cd_X11_areTied, wd_1091, wd_1093, wd_46, RX11, TX11, 24, cl_11, rfl⟩
theorem cv_X11_108 : CV RX11 D_X11_layHeaps 108 11 0 := ⟨cd_X11_layHeaps, wd_1087, wd_1089, wd_45, RX11, TX11, 24, cl_11, rfl⟩
theorem cv_X11_111 : CV RX11 D_X11_begins 111 11 1 := ⟨cd_X11_begins, wd_1099, wd_1101, wd_48, RX11, TX11, 24, cl_11, rfl⟩
theorem cv_X11_128 : CV RX11 D_X11_dayAt 128 11 1 := ⟨cd_X11_dayAt, wd_1017, wd_1019, wd_30, RX11, TX11, 24, cl_11, rfl⟩
theorem cv_X11_139 : CV RX11 D_X11_faultOf 139 11 1 := ⟨cd_X11_faultOf, wd_1008, wd_1010, wd_29, RX11, TX11, 24, cl_11, rfl⟩
theorem cv_X11_142 : CV RX11 D_X11_goOn 142 11 1 := ⟨cd_X11_goOn, wd_1023, wd_1025, wd_31, RX11, TX11, 24, cl_11, rfl⟩
theorem cv_X11_149 : CV RX11 D_X11_readText 149 11 0 := ⟨cd_X11_readText, wd_1004, wd_1006, wd_28, RX11, TX11, 24, cl_11, rfl⟩
theorem cv_X11_153 : CV RX11 D_X11_remember 153 11 0 := ⟨cd_X11_remember, wd_1027, wd_1029, wd_32, RX11, TX11, 24, cl_11, rfl⟩
theorem cv_X11_156 : CV RX11 D_X11_add 156 11 2 := ⟨cd_X11_add, wd_1035, wd_1037, wd_34, RX11, TX11, 24, cl_11, rfl⟩
theorem cv_X11_164 : CV RX11 D_X11_isDay 164 11 1 := ⟨cd_X11_isDay, wd_1111, wd_1113, wd_51, RX11, TX11, 24, cl_11, rfl⟩
theorem cv_X11_167 : CV RX11 D_X11_levelOf 167 11 2 := ⟨cd_X11_levelOf, wd_1115, wd_1117, wd_52, RX11, TX11, 24, cl_11, rfl⟩
theorem cv_X11_170 : CV RX11 D_X11_wrong 170 11 0 := ⟨cd_X11_wrong, wd_1107, wd_1109, wd_50, RX11, TX11, 24, cl_11, rfl⟩
theorem cv_X11_176 : CV RX11 D_X11_flaresNow 176 11 0 := ⟨cd_X11_flaresNow, wd_1047, wd_1049, wd_35, RX11, TX11, 24, cl_11, rfl⟩
theorem cv_X11_179 : CV RX11 D_X11_stories 179 11 0 := ⟨cd_X11_stories, wd_1083, wd_1085, wd_44, RX11, TX11, 24, cl_11, rfl⟩
theorem cv_X11_182 : CV RX11 D_X11_toldMore 182 11 1 := ⟨cd_X11_toldMore, wd_1103, wd_1105, wd_49, RX11, TX11, 24, cl_11, rfl⟩
theorem cv_X11_185 : CV RX11 D_X11_isPiece 185 11 1 := ⟨cd_X11_isPiece, wd_1123, wd_1125, wd_53, RX11, TX11, 24, cl_11, rfl⟩
theorem cv_X11_189 : CV RX11 D_X11_hot 189 11 1 := ⟨cd_X11_hot, wd_1132, wd_1134, wd_54, RX11, TX11, 24, cl_11, rfl⟩
theorem cv_X11_192 : CV RX11 D_X11_topOf 192 11 1 := ⟨cd_X11_topOf, wd_1136, wd_1138, wd_55, RX11, TX11, 24, cl_11, rfl⟩
theorem cv_X11_198 : CV RX11 D_X11_within 198 11 1 := ⟨cd_X11_within, wd_1160, wd_1162, wd_56, RX11, TX11, 24, cl_11, rfl⟩
theorem cv_X11_201 : CV RX11 D_X11_weight 201 11 1 := ⟨cd_X11_weight, wd_1164, wd_1166, wd_57, RX11, TX11, 24, cl_11, rfl⟩
theorem cv_X11_204 : CV RX11 D_X11_peak 204 11 1 := ⟨cd_X11_peak, wd_1168, wd_1170, wd_58, RX11, TX11, 24, cl_11, rfl⟩
theorem cv_X11_207 : CV RX11 D_X11_storyOf 207 11 1 := ⟨cd_X11_storyOf, wd_1172, wd_1174, wd_59, RX11, TX11, 24, cl_11, rfl⟩
theorem cv_X11_226 : CV RX11 D_X11_draw 226 11 1 := ⟨cd_X11_draw, wd_1213, wd_1215, wd_60, RX11, TX11, 24, cl_11, rfl⟩
