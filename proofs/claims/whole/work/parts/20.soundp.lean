/-! SOUNDNESS of the small machine, 16: the tables (by program: wip/whole/gen/gen_sound20.py) -/
def mI_0 : mw_I := (yX0_init, cX0_init, 1, none, 3, 0)
def mI_1 : mw_I := (yX0_sketch, cX0_sketch, 5, none, 1, 3)
def mI_2 : mw_I := (yX0_drawHaul, cX0_drawHaul, 2, none, 1, 1)
def mI_3 : mw_I := (yX0_drawTold, cX0_drawTold, 3, none, 2, 2)
def mI_4 : mw_I := (yX0_smudge, cX0_smudge, 3, none, 2, 3)
def mI_5 : mw_I := (yX0_tabulate, cX0_tabulate, 3, none, 2, 3)
def mI_6 : mw_I := (yX0_tabulateAll, cX0_tabulateAll, 3, none, 1, 1)
def mI_7 : mw_I := (yX0_addWishes, cX0_addWishes, 7, none, 2, 3)
def mI_8 : mw_I := (yX0_pickHaul, cX0_pickHaul, 10, none, 1, 4)
def mI_9 : mw_I := (yX0_weighCells, cX0_weighCells, 6, some (.int), 1, 2)
def mI_10 : mw_I := (yX0_pickAhead, cX0_pickAhead, 10, none, 1, 2)
def mI_11 : mw_I := (yX0_worthThatComes, cX0_worthThatComes, 6, some (.int), 1, 1)
def mI_12 : mw_I := (yX0_worthByTable, cX0_worthByTable, 4, some (.int), 1, 1)
def mI_13 : mw_I := (yX1_init, cX1_init, 1, none, 3, 0)
def mI_14 : mw_I := (yX1_follow, cX1_follow, 3, none, 1, 1)
def mI_15 : mw_I := (yX1_digWholly, cX1_digWholly, 3, none, 1, 1)
def mI_16 : mw_I := (yX1_digByPairs, cX1_digByPairs, 6, none, 1, 2)
def mI_17 : mw_I := (yX1_digPair, cX1_digPair, 7, some (.boolean), 1, 4)
def mI_18 : mw_I := (yX1_weighExcess, cX1_weighExcess, 4, none, 1, 2)
def mI_19 : mw_I := (yX1_leastHours, cX1_leastHours, 6, some (.int), 1, 2)
def mI_20 : mw_I := (yX1_sortOut, cX1_sortOut, 5, some (.boolean), 1, 1)
def mI_21 : mw_I := (yX1_spreadAll, cX1_spreadAll, 4, none, 1, 1)
def mI_22 : mw_I := (yX1_spreadForth, cX1_spreadForth, 6, some (.boolean), 1, 1)
def mI_23 : mw_I := (yX1_spreadBack, cX1_spreadBack, 6, some (.boolean), 1, 1)
def mI_24 : mw_I := (yX1_nearestLow, cX1_nearestLow, 3, some (.int), 1, 0)
def mI_25 : mw_I := (yX1_send, cX1_send, 7, some (.int), 1, 1)
def mI_26 : mw_I := (yX2_init, cX2_init, 4, none, 3, 3)
def mI_27 : mw_I := (yX2_cost, cX2_cost, 4, some (.int), 1, 0)
def mI_28 : mw_I := (yX2_fail, cX2_fail, 1, none, 1, 0)
def mI_29 : mw_I := (yX3_init, cX3_init, 1, none, 3, 0)
def mI_30 : mw_I := (yX3_renew, cX3_renew, 6, none, 1, 2)
def mI_31 : mw_I := (yX3_layOut, cX3_layOut, 8, none, 1, 3)
def mI_32 : mw_I := (yX3_takeFrom, cX3_takeFrom, 3, none, 1, 1)
def mI_33 : mw_I := (yX3_isCell, cX3_isCell, 2, some (.boolean), 1, 1)
def mI_34 : mw_I := (yX3_drawerAt, cX3_drawerAt, 2, some (.object "LandByMap$Drawer"), 1, 1)
def mI_35 : mw_I := (yX3_addDrawer, cX3_addDrawer, 3, some (.boolean), 1, 2)
def mI_36 : mw_I := (yX3_addWish, cX3_addWish, 6, some (.boolean), 1, 4)
def mI_37 : mw_I := (yX3_told, cX3_told, 2, some (.int), 1, 1)
def mI_38 : mw_I := (yX3_wanted, cX3_wanted, 2, some (.int), 1, 1)
def mI_39 : mw_I := (yX3_firstUnlike, cX3_firstUnlike, 2, some (.int), 1, 0)
def mI_40 : mw_I := (yX3_offTheMap, cX3_offTheMap, 3, some (.int), 1, 0)
def mI_41 : mw_I := (yX3_offFrom, cX3_offFrom, 4, some (.int), 1, 1)
def mI_42 : mw_I := (yX3_saidCells, cX3_saidCells, 3, some (.int), 1, 0)
def mI_43 : mw_I := (yX3_houseCount, cX3_houseCount, 3, some (.int), 1, 0)
def mI_44 : mw_I := (yX3_allHeights, cX3_allHeights, 3, some (.int), 1, 0)
def mI_45 : mw_I := (yX3_allWishes, cX3_allWishes, 3, some (.int), 1, 0)
def mI_46 : mw_I := (yX3_followWater, cX3_followWater, 6, some (.int), 1, 0)
def mI_47 : mw_I := (yX3_standsAt, cX3_standsAt, 2, some (.int), 1, 1)
def mI_48 : mw_I := (yX3_isOnWay, cX3_isOnWay, 4, some (.boolean), 1, 1)
def mI_49 : mw_I := (yX3_isLost, cX3_isLost, 1, some (.boolean), 1, 0)
def mI_50 : mw_I := (yX3_isRim, cX3_isRim, 3, some (.boolean), 1, 1)
def mI_51 : mw_I := (yX3_near, cX3_near, 3, some (.int), 1, 2)
def mI_52 : mw_I := (yX3_canGive, cX3_canGive, 2, some (.boolean), 1, 1)
def mI_53 : mw_I := (yX3_canTake, cX3_canTake, 2, some (.boolean), 1, 1)
def mI_54 : mw_I := (yX3_canHaul, cX3_canHaul, 3, some (.boolean), 1, 2)
def mI_55 : mw_I := (yX3_haulHours, cX3_haulHours, 4, some (.int), 1, 2)
def mI_56 : mw_I := (yX3_shift, cX3_shift, 3, none, 1, 2)
def mI_57 : mw_I := (yX3_wishWorth, cX3_wishWorth, 4, some (.int), 1, 2)
def mI_58 : mw_I := (yX3_worthTo, cX3_worthTo, 6, some (.int), 1, 2)
def mI_59 : mw_I := (yX3_worthToAll, cX3_worthToAll, 4, some (.int), 1, 1)
def mI_60 : mw_I := (yX4_init, cX4_init, 1, none, 3, 0)
def mI_61 : mw_I := (yX4_holdNothing, cX4_holdNothing, 1, none, 1, 0)
def mI_62 : mw_I := (yX4_holdDrawer, cX4_holdDrawer, 2, none, 1, 1)
def mI_63 : mw_I := (yX4_holdRow, cX4_holdRow, 3, none, 1, 2)
def mI_64 : mw_I := (yX4_isEmpty, cX4_isEmpty, 1, some (.boolean), 1, 0)
def mI_65 : mw_I := (yX4_holdsRowOf, cX4_holdsRowOf, 2, some (.boolean), 1, 1)
def mI_66 : mw_I := (yX4_refusalAsRow, cX4_refusalAsRow, 1, some (.int), 1, 0)
def mI_67 : mw_I := (yX4_refusalAsBytes, cX4_refusalAsBytes, 1, some (.int), 1, 0)
def mI_68 : mw_I := (yX4_hasPlace, cX4_hasPlace, 2, some (.boolean), 1, 1)
def mI_69 : mw_I := (yX4_hasPlaces, cX4_hasPlaces, 3, some (.boolean), 1, 2)
def mI_70 : mw_I := (yX4_at, cX4_at, 2, some (.int), 1, 1)
def mI_71 : mw_I := (yX4_write, cX4_write, 3, none, 1, 2)
def mI_72 : mw_I := (yX4_leastNumber, cX4_leastNumber, 1, some (.int), 1, 0)
def mI_73 : mw_I := (yX4_isMapOf, cX4_isMapOf, 4, some (.boolean), 1, 1)
def mI_74 : mw_I := (yX4_heightAt, cX4_heightAt, 3, some (.int), 1, 1)
def mI_75 : mw_I := (yX5_init, cX5_init, 1, none, 3, 0)
def mI_76 : mw_I := (yX5_open, cX5_open, 3, none, 1, 2)
def mI_77 : mw_I := (yX5_faultOfForm, cX5_faultOfForm, 2, some (.int), 1, 0)
def mI_78 : mw_I := (yX5_writeTo, cX5_writeTo, 4, some (.int), 1, 1)
def mI_79 : mw_I := (yX5_formOf, cX5_formOf, 1, some (.object "java/lang/String"), 2, 1)
def mI_80 : mw_I := (yX5_readStatement, cX5_readStatement, 5, some (.boolean), 1, 0)
def mI_81 : mw_I := (yX5_readSign, cX5_readSign, 2, some (.boolean), 1, 1)
def mI_82 : mw_I := (yX5_readNumber, cX5_readNumber, 4, some (.boolean), 1, 1)
def mI_83 : mw_I := (yX5_isDigit, cX5_isDigit, 1, some (.boolean), 1, 0)
def mI_84 : mw_I := (yX5_act, cX5_act, 3, some (.boolean), 1, 2)
def mI_85 : mw_I := (yX5_startAnew, cX5_startAnew, 3, some (.boolean), 2, 3)
def mI_86 : mw_I := (yX5_isSide, cX5_isSide, 1, some (.boolean), 2, 1)
def mI_87 : mw_I := (yX5_raise, cX5_raise, 3, some (.boolean), 2, 3)
def mI_88 : mw_I := (yX5_build, cX5_build, 2, some (.boolean), 2, 2)
def mI_89 : mw_I := (yX5_spring, cX5_spring, 2, some (.boolean), 2, 2)
def mI_90 : mw_I := (yX5_rule, cX5_rule, 2, some (.boolean), 2, 2)
def mI_91 : mw_I := (yX6_init, cX6_init, 2, none, 3, 0)
def mI_92 : mw_I := (yX6_land, cX6_land, 6, some (.int), 1, 1)
def mI_93 : mw_I := (yX6_cell, cX6_cell, 3, some (.int), 1, 2)
def mI_94 : mw_I := (yX6_state, cX6_state, 2, some (.int), 1, 1)
def mI_95 : mw_I := (yX6_set, cX6_set, 4, some (.int), 1, 2)
def mI_96 : mw_I := (yX6_says, cX6_says, 4, some (.int), 1, 2)
def mI_97 : mw_I := (yX6_map, cX6_map, 5, some (.int), 1, 1)
def mI_98 : mw_I := (yX6_water, cX6_water, 3, some (.int), 1, 1)
def mI_99 : mw_I := (yX6_hours, cX6_hours, 4, some (.int), 1, 2)
def mI_100 : mw_I := (yX6_haul, cX6_haul, 5, some (.int), 1, 2)
def mI_101 : mw_I := (yX6_like, cX6_like, 2, some (.int), 1, 1)
def mI_102 : mw_I := (yX6_least, cX6_least, 1, some (.int), 1, 0)
def mI_103 : mw_I := (yX6_works, cX6_works, 9, some (.int), 1, 1)
def mI_104 : mw_I := (yX6_dig, cX6_dig, 2, some (.int), 1, 1)
def mI_105 : mw_I := (yX6_drawer, cX6_drawer, 4, some (.int), 1, 2)
def mI_106 : mw_I := (yX6_draws, cX6_draws, 3, some (.int), 1, 2)
def mI_107 : mw_I := (yX6_year, cX6_year, 2, some (.int), 1, 0)
def mI_108 : mw_I := (yX6_still, cX6_still, 5, some (.int), 1, 0)
def mI_109 : mw_I := (yX6_rings, cX6_rings, 3, some (.int), 1, 0)
def mI_110 : mw_I := (yX6_seeded, cX6_seeded, 9, some (.int), 1, 3)
def mI_111 : mw_I := (yX6_seam, cX6_seam, 10, some (.int), 1, 4)
def mI_112 : mw_I := (yX6_blot, cX6_blot, 7, some (.int), 1, 2)
def mI_113 : mw_I := (yX6_harm, cX6_harm, 6, some (.int), 1, 2)
def mI_114 : mw_I := (yX6_chosen, cX6_chosen, 5, some (.int), 1, 1)
def mI_115 : mw_I := (yX6_judge, cX6_judge, 7, some (.int), 1, 1)
def mI_116 : mw_I := (yX6_image, cX6_image, 1, some (.int), 1, 0)
def mI_117 : mw_I := (yX6_restore, cX6_restore, 1, some (.int), 1, 0)
def mI_118 : mw_I := (yX6_count, cX6_count, 2, some (.int), 1, 1)
def mI_119 : mw_I := (yX6_keep, cX6_keep, 6, some (.int), 1, 3)
def mI_120 : mw_I := (yX6_row, cX6_row, 5, some (.int), 1, 3)
def mI_121 : mw_I := (yX6_put, cX6_put, 6, some (.int), 1, 3)
def mI_122 : mw_I := (yX6_element, cX6_element, 4, some (.long), 1, 2)
def mI_123 : mw_I := (yX6_copy, cX6_copy, 8, some (.int), 1, 5)
def mI_124 : mw_I := (yX6_price, cX6_price, 3, some (.int), 1, 1)
def mI_125 : mw_I := (yX6_toss, cX6_toss, 5, some (.int), 1, 1)
def mI_126 : mw_I := (yX6_shelfAt, cX6_shelfAt, 2, some (.object "LandByMap$Shelf"), 1, 1)
def mI_127 : mw_I := (yX6_refusalOfHaul, cX6_refusalOfHaul, 3, some (.int), 1, 2)
def mI_128 : mw_I := (yX6_passYear, cX6_passYear, 3, some (.int), 1, 2)
def mI_129 : mw_I := (yX6_isSteep, cX6_isSteep, 2, some (.boolean), 2, 2)
def mI_130 : mw_I := (yX6_castVotes, cX6_castVotes, 7, none, 1, 1)
def mI_131 : mw_I := (yX6_bestForAll, cX6_bestForAll, 6, some (.int), 1, 1)
def mI_132 : mw_I := (yX7_init, cX7_init, 2, none, 3, 0)
def mI_133 : mw_I := (yX7_thrown, cX7_thrown, 1, some (.int), 1, 0)
def mI_134 : mw_I := (yX7_isIn, cX7_isIn, 6, some (.boolean), 2, 3)
def mI_135 : mw_I := (yX7_cells, cX7_cells, 1, some (.int), 1, 0)
def mI_136 : mw_I := (yX7_isCell, cX7_isCell, 2, some (.boolean), 1, 1)
def mI_137 : mw_I := (yX7_isDrawer, cX7_isDrawer, 2, some (.boolean), 1, 1)
def mI_138 : mw_I := (yX7_isShelf, cX7_isShelf, 1, some (.boolean), 2, 1)
def mI_139 : mw_I := (yX7_amount, cX7_amount, 1, some (.int), 2, 1)
def mI_140 : mw_I := (yX7_get, cX7_get, 3, some (.int), 1, 2)
def mI_141 : mw_I := (yX7_bits, cX7_bits, 3, some (.int), 2, 1)
def mI_142 : mw_I := (yX7_isHouse, cX7_isHouse, 2, some (.boolean), 1, 1)
def mI_143 : mw_I := (yX7_near, cX7_near, 3, some (.int), 1, 2)
def mI_144 : mw_I := (yX7_here, cX7_here, 1, some (.int), 1, 0)
def mI_145 : mw_I := (yX7_isDigit, cX7_isDigit, 1, some (.boolean), 1, 0)
def mI_146 : mw_I := (yX7_takes, cX7_takes, 2, some (.boolean), 1, 1)
def mI_147 : mw_I := (yX7_readsNumber, cX7_readsNumber, 4, some (.boolean), 1, 1)
def mI_148 : mw_I := (yX7_readsStatement, cX7_readsStatement, 3, some (.boolean), 1, 0)
def mI_149 : mw_I := (yX7_comesAnew, cX7_comesAnew, 4, some (.boolean), 1, 2)
def mI_150 : mw_I := (yX7_comes, cX7_comes, 7, some (.boolean), 1, 1)
def mI_151 : mw_I := (yX7_wrongRow, cX7_wrongRow, 3, some (.int), 1, 2)
def mI_152 : mw_I := (yX7_land, cX7_land, 7, some (.int), 1, 1)
def mI_153 : mw_I := (yX7_flows, cX7_flows, 6, none, 1, 0)
def mI_154 : mw_I := (yX7_isLost, cX7_isLost, 3, some (.boolean), 1, 0)
def mI_155 : mw_I := (yX7_water, cX7_water, 3, some (.int), 1, 1)
def mI_156 : mw_I := (yX7_cell, cX7_cell, 3, some (.int), 1, 2)
def mI_157 : mw_I := (yX7_state, cX7_state, 2, some (.int), 1, 1)
def mI_158 : mw_I := (yX7_set, cX7_set, 4, some (.int), 1, 2)
def mI_159 : mw_I := (yX7_says, cX7_says, 4, some (.int), 1, 2)
def mI_160 : mw_I := (yX7_wrongMap, cX7_wrongMap, 4, some (.int), 1, 1)
def mI_161 : mw_I := (yX7_saidOf, cX7_saidOf, 4, some (.int), 1, 2)
def mI_162 : mw_I := (yX7_said, cX7_said, 3, some (.int), 1, 0)
def mI_163 : mw_I := (yX7_map, cX7_map, 4, some (.int), 1, 1)
def mI_164 : mw_I := (yX7_mayHaul, cX7_mayHaul, 3, some (.boolean), 1, 2)
def mI_165 : mw_I := (yX7_hoursOf, cX7_hoursOf, 4, some (.int), 1, 2)
def mI_166 : mw_I := (yX7_moves, cX7_moves, 3, none, 1, 2)
def mI_167 : mw_I := (yX7_hours, cX7_hours, 3, some (.int), 1, 2)
def mI_168 : mw_I := (yX7_haul, cX7_haul, 4, some (.int), 1, 2)
def mI_169 : mw_I := (yX7_offFrom, cX7_offFrom, 4, some (.int), 1, 1)
def mI_170 : mw_I := (yX7_like, cX7_like, 3, some (.int), 1, 1)
def mI_171 : mw_I := (yX7_findsWay, cX7_findsWay, 6, some (.int), 1, 0)
def mI_172 : mw_I := (yX7_leastOf, cX7_leastOf, 7, some (.int), 1, 0)
def mI_173 : mw_I := (yX7_least, cX7_least, 1, some (.int), 1, 0)
def mI_174 : mw_I := (yX7_works, cX7_works, 9, some (.int), 1, 1)
def mI_175 : mw_I := (yX7_keeps, cX7_keeps, 2, none, 1, 0)
def mI_176 : mw_I := (yX7_putsBack, cX7_putsBack, 2, none, 1, 0)
def mI_177 : mw_I := (yX7_isOver, cX7_isOver, 2, some (.boolean), 1, 1)
def mI_178 : mw_I := (yX7_isUnder, cX7_isUnder, 2, some (.boolean), 1, 1)
def mI_179 : mw_I := (yX7_digs, cX7_digs, 6, none, 1, 0)
def mI_180 : mw_I := (yX7_dig, cX7_dig, 3, some (.int), 1, 1)
def mI_181 : mw_I := (yX7_worthTo, cX7_worthTo, 5, some (.int), 1, 1)
def mI_182 : mw_I := (yX7_worthToAll, cX7_worthToAll, 3, some (.int), 1, 0)
def mI_183 : mw_I := (yX7_drawer, cX7_drawer, 3, some (.int), 1, 2)
def mI_184 : mw_I := (yX7_aheadOf, cX7_aheadOf, 5, some (.int), 1, 1)
def mI_185 : mw_I := (yX7_goodOf, cX7_goodOf, 4, some (.int), 1, 3)
def mI_186 : mw_I := (yX7_findsDrawn, cX7_findsDrawn, 10, none, 1, 2)
def mI_187 : mw_I := (yX7_findsMap, cX7_findsMap, 4, none, 1, 1)
def mI_188 : mw_I := (yX7_draws, cX7_draws, 3, some (.int), 1, 2)
def mI_189 : mw_I := (yX7_goesYear, cX7_goesYear, 3, some (.boolean), 1, 1)
def mI_190 : mw_I := (yX7_offFirst, cX7_offFirst, 3, some (.int), 1, 0)
def mI_191 : mw_I := (yX7_keepsHeights, cX7_keepsHeights, 2, none, 1, 0)
def mI_192 : mw_I := (yX7_year, cX7_year, 1, some (.int), 1, 0)
def mI_193 : mw_I := (yX7_begins, cX7_begins, 2, none, 1, 0)
def mI_194 : mw_I := (yX7_ends, cX7_ends, 2, none, 1, 0)
def mI_195 : mw_I := (yX7_still, cX7_still, 4, some (.int), 1, 0)
def mI_196 : mw_I := (yX7_rings, cX7_rings, 3, some (.int), 1, 0)
def mI_197 : mw_I := (yX7_seeded, cX7_seeded, 7, some (.int), 1, 3)
def mI_198 : mw_I := (yX7_seam, cX7_seam, 11, some (.int), 1, 4)
def mI_199 : mw_I := (yX7_drawnAt, cX7_drawnAt, 2, some (.int), 1, 1)
def mI_200 : mw_I := (yX7_blot, cX7_blot, 7, some (.int), 1, 2)
def mI_201 : mw_I := (yX7_harm, cX7_harm, 5, some (.int), 1, 2)
def mI_202 : mw_I := (yX7_chosen, cX7_chosen, 13, some (.int), 1, 1)
def mI_203 : mw_I := (yX7_leastNumber, cX7_leastNumber, 2, some (.int), 1, 1)
def mI_204 : mw_I := (yX7_judge, cX7_judge, 6, some (.int), 1, 1)
def mI_205 : mw_I := (yX7_image, cX7_image, 2, some (.int), 1, 0)
def mI_206 : mw_I := (yX7_restore, cX7_restore, 2, some (.int), 1, 0)
def mI_207 : mw_I := (yX7_count, cX7_count, 4, some (.int), 1, 1)
def mI_208 : mw_I := (yX7_priceOf, cX7_priceOf, 2, some (.int), 2, 2)
def mI_209 : mw_I := (yX7_keep, cX7_keep, 6, some (.int), 1, 3)
def mI_210 : mw_I := (yX7_row, cX7_row, 5, some (.int), 1, 3)
def mI_211 : mw_I := (yX7_put, cX7_put, 5, some (.int), 1, 3)
def mI_212 : mw_I := (yX7_element, cX7_element, 3, some (.long), 1, 2)
def mI_213 : mw_I := (yX7_copy, cX7_copy, 8, some (.int), 1, 5)
def mI_214 : mw_I := (yX7_wrongKept, cX7_wrongKept, 2, some (.int), 1, 1)
def mI_215 : mw_I := (yX7_price, cX7_price, 3, some (.int), 1, 1)
def mI_216 : mw_I := (yX7_toss, cX7_toss, 3, some (.int), 1, 1)
def mI_217 : mw_I := (yJ7_fill_53178, cJ7_fill_53178, 4, none, 2, 2)
def mI_218 : mw_I := (yL_element, cL_element, 5, some (.int), 2, 4)
theorem mI_0_e : mw_info 0 = some mI_0 := rfl
theorem mI_1_e : mw_info 1 = some mI_1 := rfl
theorem mI_2_e : mw_info 2 = some mI_2 := rfl
theorem mI_3_e : mw_info 3 = some mI_3 := rfl
theorem mI_4_e : mw_info 4 = some mI_4 := rfl
theorem mI_5_e : mw_info 5 = some mI_5 := rfl
theorem mI_6_e : mw_info 6 = some mI_6 := rfl
theorem mI_7_e : mw_info 7 = some mI_7 := rfl
theorem mI_8_e : mw_info 8 = some mI_8 := rfl
theorem mI_9_e : mw_info 9 = some mI_9 := rfl
theorem mI_10_e : mw_info 10 = some mI_10 := rfl
theorem mI_11_e : mw_info 11 = some mI_11 := rfl
theorem mI_12_e : mw_info 12 = some mI_12 := rfl
theorem mI_13_e : mw_info 13 = some mI_13 := rfl
theorem mI_14_e : mw_info 14 = some mI_14 := rfl
theorem mI_15_e : mw_info 15 = some mI_15 := rfl
theorem mI_16_e : mw_info 16 = some mI_16 := rfl
theorem mI_17_e : mw_info 17 = some mI_17 := rfl
theorem mI_18_e : mw_info 18 = some mI_18 := rfl
theorem mI_19_e : mw_info 19 = some mI_19 := rfl
theorem mI_20_e : mw_info 20 = some mI_20 := rfl
theorem mI_21_e : mw_info 21 = some mI_21 := rfl
theorem mI_22_e : mw_info 22 = some mI_22 := rfl
theorem mI_23_e : mw_info 23 = some mI_23 := rfl
theorem mI_24_e : mw_info 24 = some mI_24 := rfl
theorem mI_25_e : mw_info 25 = some mI_25 := rfl
theorem mI_26_e : mw_info 26 = some mI_26 := rfl
theorem mI_27_e : mw_info 27 = some mI_27 := rfl
theorem mI_28_e : mw_info 28 = some mI_28 := rfl
theorem mI_29_e : mw_info 29 = some mI_29 := rfl
theorem mI_30_e : mw_info 30 = some mI_30 := rfl
theorem mI_31_e : mw_info 31 = some mI_31 := rfl
theorem mI_32_e : mw_info 32 = some mI_32 := rfl
theorem mI_33_e : mw_info 33 = some mI_33 := rfl
theorem mI_34_e : mw_info 34 = some mI_34 := rfl
theorem mI_35_e : mw_info 35 = some mI_35 := rfl
theorem mI_36_e : mw_info 36 = some mI_36 := rfl
theorem mI_37_e : mw_info 37 = some mI_37 := rfl
theorem mI_38_e : mw_info 38 = some mI_38 := rfl
theorem mI_39_e : mw_info 39 = some mI_39 := rfl
theorem mI_40_e : mw_info 40 = some mI_40 := rfl
theorem mI_41_e : mw_info 41 = some mI_41 := rfl
theorem mI_42_e : mw_info 42 = some mI_42 := rfl
theorem mI_43_e : mw_info 43 = some mI_43 := rfl
theorem mI_44_e : mw_info 44 = some mI_44 := rfl
theorem mI_45_e : mw_info 45 = some mI_45 := rfl
theorem mI_46_e : mw_info 46 = some mI_46 := rfl
theorem mI_47_e : mw_info 47 = some mI_47 := rfl
theorem mI_48_e : mw_info 48 = some mI_48 := rfl
theorem mI_49_e : mw_info 49 = some mI_49 := rfl
theorem mI_50_e : mw_info 50 = some mI_50 := rfl
theorem mI_51_e : mw_info 51 = some mI_51 := rfl
theorem mI_52_e : mw_info 52 = some mI_52 := rfl
theorem mI_53_e : mw_info 53 = some mI_53 := rfl
theorem mI_54_e : mw_info 54 = some mI_54 := rfl
theorem mI_55_e : mw_info 55 = some mI_55 := rfl
theorem mI_56_e : mw_info 56 = some mI_56 := rfl
theorem mI_57_e : mw_info 57 = some mI_57 := rfl
theorem mI_58_e : mw_info 58 = some mI_58 := rfl
theorem mI_59_e : mw_info 59 = some mI_59 := rfl
theorem mI_60_e : mw_info 60 = some mI_60 := rfl
theorem mI_61_e : mw_info 61 = some mI_61 := rfl
theorem mI_62_e : mw_info 62 = some mI_62 := rfl
theorem mI_63_e : mw_info 63 = some mI_63 := rfl
theorem mI_64_e : mw_info 64 = some mI_64 := rfl
theorem mI_65_e : mw_info 65 = some mI_65 := rfl
theorem mI_66_e : mw_info 66 = some mI_66 := rfl
theorem mI_67_e : mw_info 67 = some mI_67 := rfl
theorem mI_68_e : mw_info 68 = some mI_68 := rfl
theorem mI_69_e : mw_info 69 = some mI_69 := rfl
theorem mI_70_e : mw_info 70 = some mI_70 := rfl
theorem mI_71_e : mw_info 71 = some mI_71 := rfl
theorem mI_72_e : mw_info 72 = some mI_72 := rfl
theorem mI_73_e : mw_info 73 = some mI_73 := rfl
theorem mI_74_e : mw_info 74 = some mI_74 := rfl
theorem mI_75_e : mw_info 75 = some mI_75 := rfl
theorem mI_76_e : mw_info 76 = some mI_76 := rfl
theorem mI_77_e : mw_info 77 = some mI_77 := rfl
theorem mI_78_e : mw_info 78 = some mI_78 := rfl
theorem mI_79_e : mw_info 79 = some mI_79 := rfl
theorem mI_80_e : mw_info 80 = some mI_80 := rfl
theorem mI_81_e : mw_info 81 = some mI_81 := rfl
theorem mI_82_e : mw_info 82 = some mI_82 := rfl
theorem mI_83_e : mw_info 83 = some mI_83 := rfl
theorem mI_84_e : mw_info 84 = some mI_84 := rfl
theorem mI_85_e : mw_info 85 = some mI_85 := rfl
theorem mI_86_e : mw_info 86 = some mI_86 := rfl
theorem mI_87_e : mw_info 87 = some mI_87 := rfl
theorem mI_88_e : mw_info 88 = some mI_88 := rfl
theorem mI_89_e : mw_info 89 = some mI_89 := rfl
theorem mI_90_e : mw_info 90 = some mI_90 := rfl
theorem mI_91_e : mw_info 91 = some mI_91 := rfl
theorem mI_92_e : mw_info 92 = some mI_92 := rfl
theorem mI_93_e : mw_info 93 = some mI_93 := rfl
theorem mI_94_e : mw_info 94 = some mI_94 := rfl
theorem mI_95_e : mw_info 95 = some mI_95 := rfl
theorem mI_96_e : mw_info 96 = some mI_96 := rfl
theorem mI_97_e : mw_info 97 = some mI_97 := rfl
theorem mI_98_e : mw_info 98 = some mI_98 := rfl
theorem mI_99_e : mw_info 99 = some mI_99 := rfl
theorem mI_100_e : mw_info 100 = some mI_100 := rfl
theorem mI_101_e : mw_info 101 = some mI_101 := rfl
theorem mI_102_e : mw_info 102 = some mI_102 := rfl
theorem mI_103_e : mw_info 103 = some mI_103 := rfl
theorem mI_104_e : mw_info 104 = some mI_104 := rfl
theorem mI_105_e : mw_info 105 = some mI_105 := rfl
theorem mI_106_e : mw_info 106 = some mI_106 := rfl
theorem mI_107_e : mw_info 107 = some mI_107 := rfl
theorem mI_108_e : mw_info 108 = some mI_108 := rfl
theorem mI_109_e : mw_info 109 = some mI_109 := rfl
theorem mI_110_e : mw_info 110 = some mI_110 := rfl
theorem mI_111_e : mw_info 111 = some mI_111 := rfl
theorem mI_112_e : mw_info 112 = some mI_112 := rfl
theorem mI_113_e : mw_info 113 = some mI_113 := rfl
theorem mI_114_e : mw_info 114 = some mI_114 := rfl
theorem mI_115_e : mw_info 115 = some mI_115 := rfl
theorem mI_116_e : mw_info 116 = some mI_116 := rfl
theorem mI_117_e : mw_info 117 = some mI_117 := rfl
theorem mI_118_e : mw_info 118 = some mI_118 := rfl
theorem mI_119_e : mw_info 119 = some mI_119 := rfl
theorem mI_120_e : mw_info 120 = some mI_120 := rfl
theorem mI_121_e : mw_info 121 = some mI_121 := rfl
theorem mI_122_e : mw_info 122 = some mI_122 := rfl
theorem mI_123_e : mw_info 123 = some mI_123 := rfl
theorem mI_124_e : mw_info 124 = some mI_124 := rfl
theorem mI_125_e : mw_info 125 = some mI_125 := rfl
theorem mI_126_e : mw_info 126 = some mI_126 := rfl
theorem mI_127_e : mw_info 127 = some mI_127 := rfl
theorem mI_128_e : mw_info 128 = some mI_128 := rfl
theorem mI_129_e : mw_info 129 = some mI_129 := rfl
theorem mI_130_e : mw_info 130 = some mI_130 := rfl
theorem mI_131_e : mw_info 131 = some mI_131 := rfl
theorem mI_132_e : mw_info 132 = some mI_132 := rfl
theorem mI_133_e : mw_info 133 = some mI_133 := rfl
theorem mI_134_e : mw_info 134 = some mI_134 := rfl
theorem mI_135_e : mw_info 135 = some mI_135 := rfl
theorem mI_136_e : mw_info 136 = some mI_136 := rfl
theorem mI_137_e : mw_info 137 = some mI_137 := rfl
theorem mI_138_e : mw_info 138 = some mI_138 := rfl
theorem mI_139_e : mw_info 139 = some mI_139 := rfl
theorem mI_140_e : mw_info 140 = some mI_140 := rfl
theorem mI_141_e : mw_info 141 = some mI_141 := rfl
theorem mI_142_e : mw_info 142 = some mI_142 := rfl
theorem mI_143_e : mw_info 143 = some mI_143 := rfl
theorem mI_144_e : mw_info 144 = some mI_144 := rfl
theorem mI_145_e : mw_info 145 = some mI_145 := rfl
theorem mI_146_e : mw_info 146 = some mI_146 := rfl
theorem mI_147_e : mw_info 147 = some mI_147 := rfl
theorem mI_148_e : mw_info 148 = some mI_148 := rfl
theorem mI_149_e : mw_info 149 = some mI_149 := rfl
theorem mI_150_e : mw_info 150 = some mI_150 := rfl
theorem mI_151_e : mw_info 151 = some mI_151 := rfl
theorem mI_152_e : mw_info 152 = some mI_152 := rfl
theorem mI_153_e : mw_info 153 = some mI_153 := rfl
theorem mI_154_e : mw_info 154 = some mI_154 := rfl
theorem mI_155_e : mw_info 155 = some mI_155 := rfl
theorem mI_156_e : mw_info 156 = some mI_156 := rfl
theorem mI_157_e : mw_info 157 = some mI_157 := rfl
theorem mI_158_e : mw_info 158 = some mI_158 := rfl
theorem mI_159_e : mw_info 159 = some mI_159 := rfl
theorem mI_160_e : mw_info 160 = some mI_160 := rfl
theorem mI_161_e : mw_info 161 = some mI_161 := rfl
theorem mI_162_e : mw_info 162 = some mI_162 := rfl
theorem mI_163_e : mw_info 163 = some mI_163 := rfl
theorem mI_164_e : mw_info 164 = some mI_164 := rfl
theorem mI_165_e : mw_info 165 = some mI_165 := rfl
theorem mI_166_e : mw_info 166 = some mI_166 := rfl
theorem mI_167_e : mw_info 167 = some mI_167 := rfl
theorem mI_168_e : mw_info 168 = some mI_168 := rfl
theorem mI_169_e : mw_info 169 = some mI_169 := rfl
theorem mI_170_e : mw_info 170 = some mI_170 := rfl
theorem mI_171_e : mw_info 171 = some mI_171 := rfl
theorem mI_172_e : mw_info 172 = some mI_172 := rfl
theorem mI_173_e : mw_info 173 = some mI_173 := rfl
theorem mI_174_e : mw_info 174 = some mI_174 := rfl
theorem mI_175_e : mw_info 175 = some mI_175 := rfl
theorem mI_176_e : mw_info 176 = some mI_176 := rfl
theorem mI_177_e : mw_info 177 = some mI_177 := rfl
theorem mI_178_e : mw_info 178 = some mI_178 := rfl
theorem mI_179_e : mw_info 179 = some mI_179 := rfl
theorem mI_180_e : mw_info 180 = some mI_180 := rfl
theorem mI_181_e : mw_info 181 = some mI_181 := rfl
theorem mI_182_e : mw_info 182 = some mI_182 := rfl
theorem mI_183_e : mw_info 183 = some mI_183 := rfl
theorem mI_184_e : mw_info 184 = some mI_184 := rfl
theorem mI_185_e : mw_info 185 = some mI_185 := rfl
theorem mI_186_e : mw_info 186 = some mI_186 := rfl
theorem mI_187_e : mw_info 187 = some mI_187 := rfl
theorem mI_188_e : mw_info 188 = some mI_188 := rfl
theorem mI_189_e : mw_info 189 = some mI_189 := rfl
theorem mI_190_e : mw_info 190 = some mI_190 := rfl
theorem mI_191_e : mw_info 191 = some mI_191 := rfl
theorem mI_192_e : mw_info 192 = some mI_192 := rfl
theorem mI_193_e : mw_info 193 = some mI_193 := rfl
theorem mI_194_e : mw_info 194 = some mI_194 := rfl
theorem mI_195_e : mw_info 195 = some mI_195 := rfl
theorem mI_196_e : mw_info 196 = some mI_196 := rfl
theorem mI_197_e : mw_info 197 = some mI_197 := rfl
theorem mI_198_e : mw_info 198 = some mI_198 := rfl
theorem mI_199_e : mw_info 199 = some mI_199 := rfl
theorem mI_200_e : mw_info 200 = some mI_200 := rfl
theorem mI_201_e : mw_info 201 = some mI_201 := rfl
theorem mI_202_e : mw_info 202 = some mI_202 := rfl
theorem mI_203_e : mw_info 203 = some mI_203 := rfl
theorem mI_204_e : mw_info 204 = some mI_204 := rfl
theorem mI_205_e : mw_info 205 = some mI_205 := rfl
theorem mI_206_e : mw_info 206 = some mI_206 := rfl
theorem mI_207_e : mw_info 207 = some mI_207 := rfl
theorem mI_208_e : mw_info 208 = some mI_208 := rfl
theorem mI_209_e : mw_info 209 = some mI_209 := rfl
theorem mI_210_e : mw_info 210 = some mI_210 := rfl
theorem mI_211_e : mw_info 211 = some mI_211 := rfl
theorem mI_212_e : mw_info 212 = some mI_212 := rfl
theorem mI_213_e : mw_info 213 = some mI_213 := rfl
theorem mI_214_e : mw_info 214 = some mI_214 := rfl
theorem mI_215_e : mw_info 215 = some mI_215 := rfl
theorem mI_216_e : mw_info 216 = some mI_216 := rfl
theorem mI_217_e : mw_info 217 = some mI_217 := rfl
theorem mI_218_e : mw_info 218 = some mI_218 := rfl
theorem mI_0_k : mw_okM mI_0 := ⟨mw_in 248 (by decide +kernel) (by decide +kernel), mw_in 79 (by decide +kernel) (by decide +kernel), by decide +kernel, by decide +kernel, by decide +kernel, Or.inr (Or.inr ⟨rfl, mw_in 247 (by decide +kernel) (by decide +kernel), rfl, rfl⟩)⟩
theorem mI_1_k : mw_okM mI_1 := ⟨mw_in 785 (by decide +kernel) (by decide +kernel), mw_in 79 (by decide +kernel) (by decide +kernel), by decide +kernel, by decide +kernel, by decide +kernel, Or.inl ⟨rfl, mw_in 783 (by decide +kernel) (by decide +kernel), mw_in 784 (by decide +kernel) (by decide +kernel)⟩⟩
theorem mI_2_k : mw_okM mI_2 := ⟨mw_in 812 (by decide +kernel) (by decide +kernel), mw_in 79 (by decide +kernel) (by decide +kernel), by decide +kernel, by decide +kernel, by decide +kernel, Or.inl ⟨rfl, mw_in 811 (by decide +kernel) (by decide +kernel), mw_in 20 (by decide +kernel) (by decide +kernel)⟩⟩
theorem mI_3_k : mw_okM mI_3 := ⟨mw_in 834 (by decide +kernel) (by decide +kernel), mw_in 79 (by decide +kernel) (by decide +kernel), by decide +kernel, by decide +kernel, by decide +kernel, Or.inr (Or.inl ⟨rfl, mw_in 833 (by decide +kernel) (by decide +kernel)⟩)⟩
theorem mI_4_k : mw_okM mI_4 := ⟨mw_in 838 (by decide +kernel) (by decide +kernel), mw_in 79 (by decide +kernel) (by decide +kernel), by decide +kernel, by decide +kernel, by decide +kernel, Or.inr (Or.inl ⟨rfl, mw_in 837 (by decide +kernel) (by decide +kernel)⟩)⟩
theorem mI_5_k : mw_okM mI_5 := ⟨mw_in 790 (by decide +kernel) (by decide +kernel), mw_in 79 (by decide +kernel) (by decide +kernel), by decide +kernel, by decide +kernel, by decide +kernel, Or.inr (Or.inl ⟨rfl, mw_in 789 (by decide +kernel) (by decide +kernel)⟩)⟩
theorem mI_6_k : mw_okM mI_6 := ⟨mw_in 816 (by decide +kernel) (by decide +kernel), mw_in 79 (by decide +kernel) (by decide +kernel), by decide +kernel, by decide +kernel, by decide +kernel, Or.inl ⟨rfl, mw_in 815 (by decide +kernel) (by decide +kernel), mw_in 21 (by decide +kernel) (by decide +kernel)⟩⟩
theorem mI_7_k : mw_okM mI_7 := ⟨mw_in 794 (by decide +kernel) (by decide +kernel), mw_in 79 (by decide +kernel) (by decide +kernel), by decide +kernel, by decide +kernel, by decide +kernel, Or.inr (Or.inl ⟨rfl, mw_in 793 (by decide +kernel) (by decide +kernel)⟩)⟩
theorem mI_8_k : mw_okM mI_8 := ⟨mw_in 799 (by decide +kernel) (by decide +kernel), mw_in 79 (by decide +kernel) (by decide +kernel), by decide +kernel, by decide +kernel, by decide +kernel, Or.inl ⟨rfl, mw_in 798 (by decide +kernel) (by decide +kernel), mw_in 18 (by decide +kernel) (by decide +kernel)⟩⟩
theorem mI_9_k : mw_okM mI_9 := ⟨mw_in 803 (by decide +kernel) (by decide +kernel), mw_in 79 (by decide +kernel) (by decide +kernel), by decide +kernel, by decide +kernel, by decide +kernel, Or.inl ⟨rfl, mw_in 802 (by decide +kernel) (by decide +kernel), mw_in 19 (by decide +kernel) (by decide +kernel)⟩⟩
theorem mI_10_k : mw_okM mI_10 := ⟨mw_in 820 (by decide +kernel) (by decide +kernel), mw_in 79 (by decide +kernel) (by decide +kernel), by decide +kernel, by decide +kernel, by decide +kernel, Or.inl ⟨rfl, mw_in 819 (by decide +kernel) (by decide +kernel), mw_in 22 (by decide +kernel) (by decide +kernel)⟩⟩
theorem mI_11_k : mw_okM mI_11 := ⟨mw_in 824 (by decide +kernel) (by decide +kernel), mw_in 79 (by decide +kernel) (by decide +kernel), by decide +kernel, by decide +kernel, by decide +kernel, Or.inl ⟨rfl, mw_in 823 (by decide +kernel) (by decide +kernel), mw_in 23 (by decide +kernel) (by decide +kernel)⟩⟩
theorem mI_12_k : mw_okM mI_12 := ⟨mw_in 828 (by decide +kernel) (by decide +kernel), mw_in 79 (by decide +kernel) (by decide +kernel), by decide +kernel, by decide +kernel, by decide +kernel, Or.inl ⟨rfl, mw_in 827 (by decide +kernel) (by decide +kernel), mw_in 24 (by decide +kernel) (by decide +kernel)⟩⟩
theorem mI_13_k : mw_okM mI_13 := ⟨mw_in 273 (by decide +kernel) (by decide +kernel), mw_in 80 (by decide +kernel) (by decide +kernel), by decide +kernel, by decide +kernel, by decide +kernel, Or.inr (Or.inr ⟨rfl, mw_in 272 (by decide +kernel) (by decide +kernel), rfl, rfl⟩)⟩
theorem mI_14_k : mw_okM mI_14 := ⟨mw_in 745 (by decide +kernel) (by decide +kernel), mw_in 80 (by decide +kernel) (by decide +kernel), by decide +kernel, by decide +kernel, by decide +kernel, Or.inl ⟨rfl, mw_in 743 (by decide +kernel) (by decide +kernel), mw_in 744 (by decide +kernel) (by decide +kernel)⟩⟩
theorem mI_15_k : mw_okM mI_15 := ⟨mw_in 760 (by decide +kernel) (by decide +kernel), mw_in 80 (by decide +kernel) (by decide +kernel), by decide +kernel, by decide +kernel, by decide +kernel, Or.inl ⟨rfl, mw_in 759 (by decide +kernel) (by decide +kernel), mw_in 17 (by decide +kernel) (by decide +kernel)⟩⟩
theorem mI_16_k : mw_okM mI_16 := ⟨mw_in 750 (by decide +kernel) (by decide +kernel), mw_in 80 (by decide +kernel) (by decide +kernel), by decide +kernel, by decide +kernel, by decide +kernel, Or.inl ⟨rfl, mw_in 749 (by decide +kernel) (by decide +kernel), mw_in 15 (by decide +kernel) (by decide +kernel)⟩⟩
theorem mI_17_k : mw_okM mI_17 := ⟨mw_in 754 (by decide +kernel) (by decide +kernel), mw_in 80 (by decide +kernel) (by decide +kernel), by decide +kernel, by decide +kernel, by decide +kernel, Or.inl ⟨rfl, mw_in 753 (by decide +kernel) (by decide +kernel), mw_in 16 (by decide +kernel) (by decide +kernel)⟩⟩
theorem mI_18_k : mw_okM mI_18 := ⟨mw_in 698 (by decide +kernel) (by decide +kernel), mw_in 80 (by decide +kernel) (by decide +kernel), by decide +kernel, by decide +kernel, by decide +kernel, Or.inl ⟨rfl, mw_in 697 (by decide +kernel) (by decide +kernel), mw_in 8 (by decide +kernel) (by decide +kernel)⟩⟩
theorem mI_19_k : mw_okM mI_19 := ⟨mw_in 694 (by decide +kernel) (by decide +kernel), mw_in 80 (by decide +kernel) (by decide +kernel), by decide +kernel, by decide +kernel, by decide +kernel, Or.inl ⟨rfl, mw_in 692 (by decide +kernel) (by decide +kernel), mw_in 693 (by decide +kernel) (by decide +kernel)⟩⟩
theorem mI_20_k : mw_okM mI_20 := ⟨mw_in 702 (by decide +kernel) (by decide +kernel), mw_in 80 (by decide +kernel) (by decide +kernel), by decide +kernel, by decide +kernel, by decide +kernel, Or.inl ⟨rfl, mw_in 701 (by decide +kernel) (by decide +kernel), mw_in 9 (by decide +kernel) (by decide +kernel)⟩⟩
theorem mI_21_k : mw_okM mI_21 := ⟨mw_in 707 (by decide +kernel) (by decide +kernel), mw_in 80 (by decide +kernel) (by decide +kernel), by decide +kernel, by decide +kernel, by decide +kernel, Or.inl ⟨rfl, mw_in 706 (by decide +kernel) (by decide +kernel), mw_in 10 (by decide +kernel) (by decide +kernel)⟩⟩
theorem mI_22_k : mw_okM mI_22 := ⟨mw_in 712 (by decide +kernel) (by decide +kernel), mw_in 80 (by decide +kernel) (by decide +kernel), by decide +kernel, by decide +kernel, by decide +kernel, Or.inl ⟨rfl, mw_in 711 (by decide +kernel) (by decide +kernel), mw_in 11 (by decide +kernel) (by decide +kernel)⟩⟩
theorem mI_23_k : mw_okM mI_23 := ⟨mw_in 717 (by decide +kernel) (by decide +kernel), mw_in 80 (by decide +kernel) (by decide +kernel), by decide +kernel, by decide +kernel, by decide +kernel, Or.inl ⟨rfl, mw_in 716 (by decide +kernel) (by decide +kernel), mw_in 12 (by decide +kernel) (by decide +kernel)⟩⟩
theorem mI_24_k : mw_okM mI_24 := ⟨mw_in 721 (by decide +kernel) (by decide +kernel), mw_in 80 (by decide +kernel) (by decide +kernel), by decide +kernel, by decide +kernel, by decide +kernel, Or.inl ⟨rfl, mw_in 720 (by decide +kernel) (by decide +kernel), mw_in 13 (by decide +kernel) (by decide +kernel)⟩⟩
theorem mI_25_k : mw_okM mI_25 := ⟨mw_in 725 (by decide +kernel) (by decide +kernel), mw_in 80 (by decide +kernel) (by decide +kernel), by decide +kernel, by decide +kernel, by decide +kernel, Or.inl ⟨rfl, mw_in 724 (by decide +kernel) (by decide +kernel), mw_in 14 (by decide +kernel) (by decide +kernel)⟩⟩
theorem mI_26_k : mw_okM mI_26 := ⟨mw_in 542 (by decide +kernel) (by decide +kernel), mw_in 88 (by decide +kernel) (by decide +kernel), by decide +kernel, by decide +kernel, by decide +kernel, Or.inr (Or.inr ⟨rfl, mw_in 541 (by decide +kernel) (by decide +kernel), rfl, rfl⟩)⟩
theorem mI_27_k : mw_okM mI_27 := ⟨mw_in 992 (by decide +kernel) (by decide +kernel), mw_in 88 (by decide +kernel) (by decide +kernel), by decide +kernel, by decide +kernel, by decide +kernel, Or.inl ⟨rfl, mw_in 990 (by decide +kernel) (by decide +kernel), mw_in 991 (by decide +kernel) (by decide +kernel)⟩⟩
theorem mI_28_k : mw_okM mI_28 := ⟨mw_in 1003 (by decide +kernel) (by decide +kernel), mw_in 88 (by decide +kernel) (by decide +kernel), by decide +kernel, by decide +kernel, by decide +kernel, Or.inl ⟨rfl, mw_in 1001 (by decide +kernel) (by decide +kernel), mw_in 1002 (by decide +kernel) (by decide +kernel)⟩⟩
theorem mI_29_k : mw_okM mI_29 := ⟨mw_in 107 (by decide +kernel) (by decide +kernel), mw_in 75 (by decide +kernel) (by decide +kernel), by decide +kernel, by decide +kernel, by decide +kernel, Or.inr (Or.inr ⟨rfl, mw_in 106 (by decide +kernel) (by decide +kernel), rfl, rfl⟩)⟩
theorem mI_30_k : mw_okM mI_30 := ⟨mw_in 114 (by decide +kernel) (by decide +kernel), mw_in 75 (by decide +kernel) (by decide +kernel), by decide +kernel, by decide +kernel, by decide +kernel, Or.inl ⟨rfl, mw_in 112 (by decide +kernel) (by decide +kernel), mw_in 113 (by decide +kernel) (by decide +kernel)⟩⟩
theorem mI_31_k : mw_okM mI_31 := ⟨mw_in 121 (by decide +kernel) (by decide +kernel), mw_in 75 (by decide +kernel) (by decide +kernel), by decide +kernel, by decide +kernel, by decide +kernel, Or.inl ⟨rfl, mw_in 120 (by decide +kernel) (by decide +kernel), mw_in 0 (by decide +kernel) (by decide +kernel)⟩⟩
theorem mI_32_k : mw_okM mI_32 := ⟨mw_in 500 (by decide +kernel) (by decide +kernel), mw_in 75 (by decide +kernel) (by decide +kernel), by decide +kernel, by decide +kernel, by decide +kernel, Or.inl ⟨rfl, mw_in 498 (by decide +kernel) (by decide +kernel), mw_in 499 (by decide +kernel) (by decide +kernel)⟩⟩
theorem mI_33_k : mw_okM mI_33 := ⟨mw_in 525 (by decide +kernel) (by decide +kernel), mw_in 75 (by decide +kernel) (by decide +kernel), by decide +kernel, by decide +kernel, by decide +kernel, Or.inl ⟨rfl, mw_in 523 (by decide +kernel) (by decide +kernel), mw_in 524 (by decide +kernel) (by decide +kernel)⟩⟩
theorem mI_34_k : mw_okM mI_34 := ⟨mw_in 567 (by decide +kernel) (by decide +kernel), mw_in 75 (by decide +kernel) (by decide +kernel), by decide +kernel, by decide +kernel, by decide +kernel, Or.inl ⟨rfl, mw_in 565 (by decide +kernel) (by decide +kernel), mw_in 566 (by decide +kernel) (by decide +kernel)⟩⟩
theorem mI_35_k : mw_okM mI_35 := ⟨mw_in 538 (by decide +kernel) (by decide +kernel), mw_in 75 (by decide +kernel) (by decide +kernel), by decide +kernel, by decide +kernel, by decide +kernel, Or.inl ⟨rfl, mw_in 536 (by decide +kernel) (by decide +kernel), mw_in 537 (by decide +kernel) (by decide +kernel)⟩⟩
theorem mI_36_k : mw_okM mI_36 := ⟨mw_in 563 (by decide +kernel) (by decide +kernel), mw_in 75 (by decide +kernel) (by decide +kernel), by decide +kernel, by decide +kernel, by decide +kernel, Or.inl ⟨rfl, mw_in 561 (by decide +kernel) (by decide +kernel), mw_in 562 (by decide +kernel) (by decide +kernel)⟩⟩
theorem mI_37_k : mw_okM mI_37 := ⟨mw_in 577 (by decide +kernel) (by decide +kernel), mw_in 75 (by decide +kernel) (by decide +kernel), by decide +kernel, by decide +kernel, by decide +kernel, Or.inl ⟨rfl, mw_in 575 (by decide +kernel) (by decide +kernel), mw_in 576 (by decide +kernel) (by decide +kernel)⟩⟩
theorem mI_38_k : mw_okM mI_38 := ⟨mw_in 682 (by decide +kernel) (by decide +kernel), mw_in 75 (by decide +kernel) (by decide +kernel), by decide +kernel, by decide +kernel, by decide +kernel, Or.inl ⟨rfl, mw_in 680 (by decide +kernel) (by decide +kernel), mw_in 681 (by decide +kernel) (by decide +kernel)⟩⟩
theorem mI_39_k : mw_okM mI_39 := ⟨mw_in 678 (by decide +kernel) (by decide +kernel), mw_in 75 (by decide +kernel) (by decide +kernel), by decide +kernel, by decide +kernel, by decide +kernel, Or.inl ⟨rfl, mw_in 676 (by decide +kernel) (by decide +kernel), mw_in 677 (by decide +kernel) (by decide +kernel)⟩⟩
theorem mI_40_k : mw_okM mI_40 := ⟨mw_in 686 (by decide +kernel) (by decide +kernel), mw_in 75 (by decide +kernel) (by decide +kernel), by decide +kernel, by decide +kernel, by decide +kernel, Or.inl ⟨rfl, mw_in 684 (by decide +kernel) (by decide +kernel), mw_in 685 (by decide +kernel) (by decide +kernel)⟩⟩
theorem mI_41_k : mw_okM mI_41 := ⟨mw_in 852 (by decide +kernel) (by decide +kernel), mw_in 75 (by decide +kernel) (by decide +kernel), by decide +kernel, by decide +kernel, by decide +kernel, Or.inl ⟨rfl, mw_in 850 (by decide +kernel) (by decide +kernel), mw_in 851 (by decide +kernel) (by decide +kernel)⟩⟩
theorem mI_42_k : mw_okM mI_42 := ⟨mw_in 621 (by decide +kernel) (by decide +kernel), mw_in 75 (by decide +kernel) (by decide +kernel), by decide +kernel, by decide +kernel, by decide +kernel, Or.inl ⟨rfl, mw_in 619 (by decide +kernel) (by decide +kernel), mw_in 620 (by decide +kernel) (by decide +kernel)⟩⟩
theorem mI_43_k : mw_okM mI_43 := ⟨mw_in 937 (by decide +kernel) (by decide +kernel), mw_in 75 (by decide +kernel) (by decide +kernel), by decide +kernel, by decide +kernel, by decide +kernel, Or.inl ⟨rfl, mw_in 935 (by decide +kernel) (by decide +kernel), mw_in 936 (by decide +kernel) (by decide +kernel)⟩⟩
theorem mI_44_k : mw_okM mI_44 := ⟨mw_in 941 (by decide +kernel) (by decide +kernel), mw_in 75 (by decide +kernel) (by decide +kernel), by decide +kernel, by decide +kernel, by decide +kernel, Or.inl ⟨rfl, mw_in 939 (by decide +kernel) (by decide +kernel), mw_in 940 (by decide +kernel) (by decide +kernel)⟩⟩
theorem mI_45_k : mw_okM mI_45 := ⟨mw_in 945 (by decide +kernel) (by decide +kernel), mw_in 75 (by decide +kernel) (by decide +kernel), by decide +kernel, by decide +kernel, by decide +kernel, Or.inl ⟨rfl, mw_in 943 (by decide +kernel) (by decide +kernel), mw_in 944 (by decide +kernel) (by decide +kernel)⟩⟩
theorem mI_46_k : mw_okM mI_46 := ⟨mw_in 585 (by decide +kernel) (by decide +kernel), mw_in 75 (by decide +kernel) (by decide +kernel), by decide +kernel, by decide +kernel, by decide +kernel, Or.inl ⟨rfl, mw_in 583 (by decide +kernel) (by decide +kernel), mw_in 584 (by decide +kernel) (by decide +kernel)⟩⟩
theorem mI_47_k : mw_okM mI_47 := ⟨mw_in 630 (by decide +kernel) (by decide +kernel), mw_in 75 (by decide +kernel) (by decide +kernel), by decide +kernel, by decide +kernel, by decide +kernel, Or.inl ⟨rfl, mw_in 628 (by decide +kernel) (by decide +kernel), mw_in 629 (by decide +kernel) (by decide +kernel)⟩⟩
theorem mI_48_k : mw_okM mI_48 := ⟨mw_in 581 (by decide +kernel) (by decide +kernel), mw_in 75 (by decide +kernel) (by decide +kernel), by decide +kernel, by decide +kernel, by decide +kernel, Or.inl ⟨rfl, mw_in 579 (by decide +kernel) (by decide +kernel), mw_in 580 (by decide +kernel) (by decide +kernel)⟩⟩
theorem mI_49_k : mw_okM mI_49 := ⟨mw_in 734 (by decide +kernel) (by decide +kernel), mw_in 75 (by decide +kernel) (by decide +kernel), by decide +kernel, by decide +kernel, by decide +kernel, Or.inl ⟨rfl, mw_in 732 (by decide +kernel) (by decide +kernel), mw_in 733 (by decide +kernel) (by decide +kernel)⟩⟩
theorem mI_50_k : mw_okM mI_50 := ⟨mw_in 634 (by decide +kernel) (by decide +kernel), mw_in 75 (by decide +kernel) (by decide +kernel), by decide +kernel, by decide +kernel, by decide +kernel, Or.inl ⟨rfl, mw_in 632 (by decide +kernel) (by decide +kernel), mw_in 633 (by decide +kernel) (by decide +kernel)⟩⟩
theorem mI_51_k : mw_okM mI_51 := ⟨mw_in 662 (by decide +kernel) (by decide +kernel), mw_in 75 (by decide +kernel) (by decide +kernel), by decide +kernel, by decide +kernel, by decide +kernel, Or.inl ⟨rfl, mw_in 660 (by decide +kernel) (by decide +kernel), mw_in 661 (by decide +kernel) (by decide +kernel)⟩⟩
theorem mI_52_k : mw_okM mI_52 := ⟨mw_in 650 (by decide +kernel) (by decide +kernel), mw_in 75 (by decide +kernel) (by decide +kernel), by decide +kernel, by decide +kernel, by decide +kernel, Or.inl ⟨rfl, mw_in 648 (by decide +kernel) (by decide +kernel), mw_in 649 (by decide +kernel) (by decide +kernel)⟩⟩
theorem mI_53_k : mw_okM mI_53 := ⟨mw_in 654 (by decide +kernel) (by decide +kernel), mw_in 75 (by decide +kernel) (by decide +kernel), by decide +kernel, by decide +kernel, by decide +kernel, Or.inl ⟨rfl, mw_in 652 (by decide +kernel) (by decide +kernel), mw_in 653 (by decide +kernel) (by decide +kernel)⟩⟩
theorem mI_54_k : mw_okM mI_54 := ⟨mw_in 646 (by decide +kernel) (by decide +kernel), mw_in 75 (by decide +kernel) (by decide +kernel), by decide +kernel, by decide +kernel, by decide +kernel, Or.inl ⟨rfl, mw_in 644 (by decide +kernel) (by decide +kernel), mw_in 645 (by decide +kernel) (by decide +kernel)⟩⟩
theorem mI_55_k : mw_okM mI_55 := ⟨mw_in 658 (by decide +kernel) (by decide +kernel), mw_in 75 (by decide +kernel) (by decide +kernel), by decide +kernel, by decide +kernel, by decide +kernel, Or.inl ⟨rfl, mw_in 656 (by decide +kernel) (by decide +kernel), mw_in 657 (by decide +kernel) (by decide +kernel)⟩⟩
theorem mI_56_k : mw_okM mI_56 := ⟨mw_in 670 (by decide +kernel) (by decide +kernel), mw_in 75 (by decide +kernel) (by decide +kernel), by decide +kernel, by decide +kernel, by decide +kernel, Or.inl ⟨rfl, mw_in 668 (by decide +kernel) (by decide +kernel), mw_in 669 (by decide +kernel) (by decide +kernel)⟩⟩
theorem mI_57_k : mw_okM mI_57 := ⟨mw_in 776 (by decide +kernel) (by decide +kernel), mw_in 75 (by decide +kernel) (by decide +kernel), by decide +kernel, by decide +kernel, by decide +kernel, Or.inl ⟨rfl, mw_in 774 (by decide +kernel) (by decide +kernel), mw_in 775 (by decide +kernel) (by decide +kernel)⟩⟩
theorem mI_58_k : mw_okM mI_58 := ⟨mw_in 772 (by decide +kernel) (by decide +kernel), mw_in 75 (by decide +kernel) (by decide +kernel), by decide +kernel, by decide +kernel, by decide +kernel, Or.inl ⟨rfl, mw_in 770 (by decide +kernel) (by decide +kernel), mw_in 771 (by decide +kernel) (by decide +kernel)⟩⟩
theorem mI_59_k : mw_okM mI_59 := ⟨mw_in 893 (by decide +kernel) (by decide +kernel), mw_in 75 (by decide +kernel) (by decide +kernel), by decide +kernel, by decide +kernel, by decide +kernel, Or.inl ⟨rfl, mw_in 891 (by decide +kernel) (by decide +kernel), mw_in 892 (by decide +kernel) (by decide +kernel)⟩⟩
theorem mI_60_k : mw_okM mI_60 := ⟨mw_in 326 (by decide +kernel) (by decide +kernel), mw_in 81 (by decide +kernel) (by decide +kernel), by decide +kernel, by decide +kernel, by decide +kernel, Or.inr (Or.inr ⟨rfl, mw_in 325 (by decide +kernel) (by decide +kernel), rfl, rfl⟩)⟩
theorem mI_61_k : mw_okM mI_61 := ⟨mw_in 953 (by decide +kernel) (by decide +kernel), mw_in 81 (by decide +kernel) (by decide +kernel), by decide +kernel, by decide +kernel, by decide +kernel, Or.inl ⟨rfl, mw_in 951 (by decide +kernel) (by decide +kernel), mw_in 952 (by decide +kernel) (by decide +kernel)⟩⟩
theorem mI_62_k : mw_okM mI_62 := ⟨mw_in 957 (by decide +kernel) (by decide +kernel), mw_in 81 (by decide +kernel) (by decide +kernel), by decide +kernel, by decide +kernel, by decide +kernel, Or.inl ⟨rfl, mw_in 955 (by decide +kernel) (by decide +kernel), mw_in 956 (by decide +kernel) (by decide +kernel)⟩⟩
theorem mI_63_k : mw_okM mI_63 := ⟨mw_in 966 (by decide +kernel) (by decide +kernel), mw_in 81 (by decide +kernel) (by decide +kernel), by decide +kernel, by decide +kernel, by decide +kernel, Or.inl ⟨rfl, mw_in 964 (by decide +kernel) (by decide +kernel), mw_in 965 (by decide +kernel) (by decide +kernel)⟩⟩
theorem mI_64_k : mw_okM mI_64 := ⟨mw_in 404 (by decide +kernel) (by decide +kernel), mw_in 81 (by decide +kernel) (by decide +kernel), by decide +kernel, by decide +kernel, by decide +kernel, Or.inl ⟨rfl, mw_in 402 (by decide +kernel) (by decide +kernel), mw_in 403 (by decide +kernel) (by decide +kernel)⟩⟩
theorem mI_65_k : mw_okM mI_65 := ⟨mw_in 408 (by decide +kernel) (by decide +kernel), mw_in 81 (by decide +kernel) (by decide +kernel), by decide +kernel, by decide +kernel, by decide +kernel, Or.inl ⟨rfl, mw_in 406 (by decide +kernel) (by decide +kernel), mw_in 407 (by decide +kernel) (by decide +kernel)⟩⟩
theorem mI_66_k : mw_okM mI_66 := ⟨mw_in 915 (by decide +kernel) (by decide +kernel), mw_in 81 (by decide +kernel) (by decide +kernel), by decide +kernel, by decide +kernel, by decide +kernel, Or.inl ⟨rfl, mw_in 913 (by decide +kernel) (by decide +kernel), mw_in 914 (by decide +kernel) (by decide +kernel)⟩⟩
theorem mI_67_k : mw_okM mI_67 := ⟨mw_in 400 (by decide +kernel) (by decide +kernel), mw_in 81 (by decide +kernel) (by decide +kernel), by decide +kernel, by decide +kernel, by decide +kernel, Or.inl ⟨rfl, mw_in 398 (by decide +kernel) (by decide +kernel), mw_in 399 (by decide +kernel) (by decide +kernel)⟩⟩
theorem mI_68_k : mw_okM mI_68 := ⟨mw_in 613 (by decide +kernel) (by decide +kernel), mw_in 81 (by decide +kernel) (by decide +kernel), by decide +kernel, by decide +kernel, by decide +kernel, Or.inl ⟨rfl, mw_in 611 (by decide +kernel) (by decide +kernel), mw_in 612 (by decide +kernel) (by decide +kernel)⟩⟩
theorem mI_69_k : mw_okM mI_69 := ⟨mw_in 984 (by decide +kernel) (by decide +kernel), mw_in 81 (by decide +kernel) (by decide +kernel), by decide +kernel, by decide +kernel, by decide +kernel, Or.inl ⟨rfl, mw_in 982 (by decide +kernel) (by decide +kernel), mw_in 983 (by decide +kernel) (by decide +kernel)⟩⟩
theorem mI_70_k : mw_okM mI_70 := ⟨mw_in 609 (by decide +kernel) (by decide +kernel), mw_in 81 (by decide +kernel) (by decide +kernel), by decide +kernel, by decide +kernel, by decide +kernel, Or.inl ⟨rfl, mw_in 607 (by decide +kernel) (by decide +kernel), mw_in 608 (by decide +kernel) (by decide +kernel)⟩⟩
theorem mI_71_k : mw_okM mI_71 := ⟨mw_in 976 (by decide +kernel) (by decide +kernel), mw_in 81 (by decide +kernel) (by decide +kernel), by decide +kernel, by decide +kernel, by decide +kernel, Or.inl ⟨rfl, mw_in 974 (by decide +kernel) (by decide +kernel), mw_in 975 (by decide +kernel) (by decide +kernel)⟩⟩
theorem mI_72_k : mw_okM mI_72 := ⟨mw_in 919 (by decide +kernel) (by decide +kernel), mw_in 81 (by decide +kernel) (by decide +kernel), by decide +kernel, by decide +kernel, by decide +kernel, Or.inl ⟨rfl, mw_in 917 (by decide +kernel) (by decide +kernel), mw_in 918 (by decide +kernel) (by decide +kernel)⟩⟩
theorem mI_73_k : mw_okM mI_73 := ⟨mw_in 605 (by decide +kernel) (by decide +kernel), mw_in 81 (by decide +kernel) (by decide +kernel), by decide +kernel, by decide +kernel, by decide +kernel, Or.inl ⟨rfl, mw_in 603 (by decide +kernel) (by decide +kernel), mw_in 604 (by decide +kernel) (by decide +kernel)⟩⟩
theorem mI_74_k : mw_okM mI_74 := ⟨mw_in 617 (by decide +kernel) (by decide +kernel), mw_in 81 (by decide +kernel) (by decide +kernel), by decide +kernel, by decide +kernel, by decide +kernel, Or.inl ⟨rfl, mw_in 615 (by decide +kernel) (by decide +kernel), mw_in 616 (by decide +kernel) (by decide +kernel)⟩⟩
theorem mI_75_k : mw_okM mI_75 := ⟨mw_in 226 (by decide +kernel) (by decide +kernel), mw_in 78 (by decide +kernel) (by decide +kernel), by decide +kernel, by decide +kernel, by decide +kernel, Or.inr (Or.inr ⟨rfl, mw_in 225 (by decide +kernel) (by decide +kernel), rfl, rfl⟩)⟩
theorem mI_76_k : mw_okM mI_76 := ⟨mw_in 412 (by decide +kernel) (by decide +kernel), mw_in 78 (by decide +kernel) (by decide +kernel), by decide +kernel, by decide +kernel, by decide +kernel, Or.inl ⟨rfl, mw_in 410 (by decide +kernel) (by decide +kernel), mw_in 411 (by decide +kernel) (by decide +kernel)⟩⟩
theorem mI_77_k : mw_okM mI_77 := ⟨mw_in 419 (by decide +kernel) (by decide +kernel), mw_in 78 (by decide +kernel) (by decide +kernel), by decide +kernel, by decide +kernel, by decide +kernel, Or.inl ⟨rfl, mw_in 417 (by decide +kernel) (by decide +kernel), mw_in 418 (by decide +kernel) (by decide +kernel)⟩⟩
theorem mI_78_k : mw_okM mI_78 := ⟨mw_in 507 (by decide +kernel) (by decide +kernel), mw_in 78 (by decide +kernel) (by decide +kernel), by decide +kernel, by decide +kernel, by decide +kernel, Or.inl ⟨rfl, mw_in 505 (by decide +kernel) (by decide +kernel), mw_in 506 (by decide +kernel) (by decide +kernel)⟩⟩
theorem mI_79_k : mw_okM mI_79 := ⟨mw_in 426 (by decide +kernel) (by decide +kernel), mw_in 78 (by decide +kernel) (by decide +kernel), by decide +kernel, by decide +kernel, by decide +kernel, Or.inr (Or.inl ⟨rfl, mw_in 425 (by decide +kernel) (by decide +kernel)⟩)⟩
theorem mI_80_k : mw_okM mI_80 := ⟨mw_in 423 (by decide +kernel) (by decide +kernel), mw_in 78 (by decide +kernel) (by decide +kernel), by decide +kernel, by decide +kernel, by decide +kernel, Or.inl ⟨rfl, mw_in 422 (by decide +kernel) (by decide +kernel), mw_in 2 (by decide +kernel) (by decide +kernel)⟩⟩
theorem mI_81_k : mw_okM mI_81 := ⟨mw_in 496 (by decide +kernel) (by decide +kernel), mw_in 78 (by decide +kernel) (by decide +kernel), by decide +kernel, by decide +kernel, by decide +kernel, Or.inl ⟨rfl, mw_in 495 (by decide +kernel) (by decide +kernel), mw_in 5 (by decide +kernel) (by decide +kernel)⟩⟩
theorem mI_82_k : mw_okM mI_82 := ⟨mw_in 488 (by decide +kernel) (by decide +kernel), mw_in 78 (by decide +kernel) (by decide +kernel), by decide +kernel, by decide +kernel, by decide +kernel, Or.inl ⟨rfl, mw_in 487 (by decide +kernel) (by decide +kernel), mw_in 3 (by decide +kernel) (by decide +kernel)⟩⟩
theorem mI_83_k : mw_okM mI_83 := ⟨mw_in 492 (by decide +kernel) (by decide +kernel), mw_in 78 (by decide +kernel) (by decide +kernel), by decide +kernel, by decide +kernel, by decide +kernel, Or.inl ⟨rfl, mw_in 491 (by decide +kernel) (by decide +kernel), mw_in 4 (by decide +kernel) (by decide +kernel)⟩⟩
theorem mI_84_k : mw_okM mI_84 := ⟨mw_in 511 (by decide +kernel) (by decide +kernel), mw_in 78 (by decide +kernel) (by decide +kernel), by decide +kernel, by decide +kernel, by decide +kernel, Or.inl ⟨rfl, mw_in 510 (by decide +kernel) (by decide +kernel), mw_in 6 (by decide +kernel) (by decide +kernel)⟩⟩
theorem mI_85_k : mw_okM mI_85 := ⟨mw_in 514 (by decide +kernel) (by decide +kernel), mw_in 78 (by decide +kernel) (by decide +kernel), by decide +kernel, by decide +kernel, by decide +kernel, Or.inr (Or.inl ⟨rfl, mw_in 513 (by decide +kernel) (by decide +kernel)⟩)⟩
theorem mI_86_k : mw_okM mI_86 := ⟨mw_in 517 (by decide +kernel) (by decide +kernel), mw_in 78 (by decide +kernel) (by decide +kernel), by decide +kernel, by decide +kernel, by decide +kernel, Or.inr (Or.inl ⟨rfl, mw_in 516 (by decide +kernel) (by decide +kernel)⟩)⟩
theorem mI_87_k : mw_okM mI_87 := ⟨mw_in 521 (by decide +kernel) (by decide +kernel), mw_in 78 (by decide +kernel) (by decide +kernel), by decide +kernel, by decide +kernel, by decide +kernel, Or.inr (Or.inl ⟨rfl, mw_in 520 (by decide +kernel) (by decide +kernel)⟩)⟩
theorem mI_88_k : mw_okM mI_88 := ⟨mw_in 528 (by decide +kernel) (by decide +kernel), mw_in 78 (by decide +kernel) (by decide +kernel), by decide +kernel, by decide +kernel, by decide +kernel, Or.inr (Or.inl ⟨rfl, mw_in 527 (by decide +kernel) (by decide +kernel)⟩)⟩
theorem mI_89_k : mw_okM mI_89 := ⟨mw_in 531 (by decide +kernel) (by decide +kernel), mw_in 78 (by decide +kernel) (by decide +kernel), by decide +kernel, by decide +kernel, by decide +kernel, Or.inr (Or.inl ⟨rfl, mw_in 530 (by decide +kernel) (by decide +kernel)⟩)⟩
theorem mI_90_k : mw_okM mI_90 := ⟨mw_in 534 (by decide +kernel) (by decide +kernel), mw_in 78 (by decide +kernel) (by decide +kernel), by decide +kernel, by decide +kernel, by decide +kernel, Or.inr (Or.inl ⟨rfl, mw_in 533 (by decide +kernel) (by decide +kernel)⟩)⟩
theorem mI_91_k : mw_okM mI_91 := ⟨mw_in 99 (by decide +kernel) (by decide +kernel), mw_in 74 (by decide +kernel) (by decide +kernel), by decide +kernel, by decide +kernel, by decide +kernel, Or.inr (Or.inr ⟨rfl, mw_in 98 (by decide +kernel) (by decide +kernel), rfl, rfl⟩)⟩
theorem mI_92_k : mw_okM mI_92 := ⟨mw_in 392 (by decide +kernel) (by decide +kernel), mw_in 74 (by decide +kernel) (by decide +kernel), by decide +kernel, by decide +kernel, by decide +kernel, Or.inl ⟨rfl, mw_in 390 (by decide +kernel) (by decide +kernel), mw_in 391 (by decide +kernel) (by decide +kernel)⟩⟩
theorem mI_93_k : mw_okM mI_93 := ⟨mw_in 572 (by decide +kernel) (by decide +kernel), mw_in 74 (by decide +kernel) (by decide +kernel), by decide +kernel, by decide +kernel, by decide +kernel, Or.inl ⟨rfl, mw_in 570 (by decide +kernel) (by decide +kernel), mw_in 571 (by decide +kernel) (by decide +kernel)⟩⟩
theorem mI_94_k : mw_okM mI_94 := ⟨mw_in 589 (by decide +kernel) (by decide +kernel), mw_in 74 (by decide +kernel) (by decide +kernel), by decide +kernel, by decide +kernel, by decide +kernel, Or.inl ⟨rfl, mw_in 587 (by decide +kernel) (by decide +kernel), mw_in 588 (by decide +kernel) (by decide +kernel)⟩⟩
theorem mI_95_k : mw_okM mI_95 := ⟨mw_in 593 (by decide +kernel) (by decide +kernel), mw_in 74 (by decide +kernel) (by decide +kernel), by decide +kernel, by decide +kernel, by decide +kernel, Or.inl ⟨rfl, mw_in 591 (by decide +kernel) (by decide +kernel), mw_in 592 (by decide +kernel) (by decide +kernel)⟩⟩
theorem mI_96_k : mw_okM mI_96 := ⟨mw_in 597 (by decide +kernel) (by decide +kernel), mw_in 74 (by decide +kernel) (by decide +kernel), by decide +kernel, by decide +kernel, by decide +kernel, Or.inl ⟨rfl, mw_in 595 (by decide +kernel) (by decide +kernel), mw_in 596 (by decide +kernel) (by decide +kernel)⟩⟩
theorem mI_97_k : mw_okM mI_97 := ⟨mw_in 601 (by decide +kernel) (by decide +kernel), mw_in 74 (by decide +kernel) (by decide +kernel), by decide +kernel, by decide +kernel, by decide +kernel, Or.inl ⟨rfl, mw_in 599 (by decide +kernel) (by decide +kernel), mw_in 600 (by decide +kernel) (by decide +kernel)⟩⟩
theorem mI_98_k : mw_okM mI_98 := ⟨mw_in 625 (by decide +kernel) (by decide +kernel), mw_in 74 (by decide +kernel) (by decide +kernel), by decide +kernel, by decide +kernel, by decide +kernel, Or.inl ⟨rfl, mw_in 623 (by decide +kernel) (by decide +kernel), mw_in 624 (by decide +kernel) (by decide +kernel)⟩⟩
theorem mI_99_k : mw_okM mI_99 := ⟨mw_in 638 (by decide +kernel) (by decide +kernel), mw_in 74 (by decide +kernel) (by decide +kernel), by decide +kernel, by decide +kernel, by decide +kernel, Or.inl ⟨rfl, mw_in 636 (by decide +kernel) (by decide +kernel), mw_in 637 (by decide +kernel) (by decide +kernel)⟩⟩
theorem mI_100_k : mw_okM mI_100 := ⟨mw_in 666 (by decide +kernel) (by decide +kernel), mw_in 74 (by decide +kernel) (by decide +kernel), by decide +kernel, by decide +kernel, by decide +kernel, Or.inl ⟨rfl, mw_in 664 (by decide +kernel) (by decide +kernel), mw_in 665 (by decide +kernel) (by decide +kernel)⟩⟩
theorem mI_101_k : mw_okM mI_101 := ⟨mw_in 674 (by decide +kernel) (by decide +kernel), mw_in 74 (by decide +kernel) (by decide +kernel), by decide +kernel, by decide +kernel, by decide +kernel, Or.inl ⟨rfl, mw_in 672 (by decide +kernel) (by decide +kernel), mw_in 673 (by decide +kernel) (by decide +kernel)⟩⟩
theorem mI_102_k : mw_okM mI_102 := ⟨mw_in 690 (by decide +kernel) (by decide +kernel), mw_in 74 (by decide +kernel) (by decide +kernel), by decide +kernel, by decide +kernel, by decide +kernel, Or.inl ⟨rfl, mw_in 688 (by decide +kernel) (by decide +kernel), mw_in 689 (by decide +kernel) (by decide +kernel)⟩⟩
theorem mI_103_k : mw_okM mI_103 := ⟨mw_in 730 (by decide +kernel) (by decide +kernel), mw_in 74 (by decide +kernel) (by decide +kernel), by decide +kernel, by decide +kernel, by decide +kernel, Or.inl ⟨rfl, mw_in 728 (by decide +kernel) (by decide +kernel), mw_in 729 (by decide +kernel) (by decide +kernel)⟩⟩
theorem mI_104_k : mw_okM mI_104 := ⟨mw_in 741 (by decide +kernel) (by decide +kernel), mw_in 74 (by decide +kernel) (by decide +kernel), by decide +kernel, by decide +kernel, by decide +kernel, Or.inl ⟨rfl, mw_in 739 (by decide +kernel) (by decide +kernel), mw_in 740 (by decide +kernel) (by decide +kernel)⟩⟩
theorem mI_105_k : mw_okM mI_105 := ⟨mw_in 767 (by decide +kernel) (by decide +kernel), mw_in 74 (by decide +kernel) (by decide +kernel), by decide +kernel, by decide +kernel, by decide +kernel, Or.inl ⟨rfl, mw_in 765 (by decide +kernel) (by decide +kernel), mw_in 766 (by decide +kernel) (by decide +kernel)⟩⟩
theorem mI_106_k : mw_okM mI_106 := ⟨mw_in 781 (by decide +kernel) (by decide +kernel), mw_in 74 (by decide +kernel) (by decide +kernel), by decide +kernel, by decide +kernel, by decide +kernel, Or.inl ⟨rfl, mw_in 779 (by decide +kernel) (by decide +kernel), mw_in 780 (by decide +kernel) (by decide +kernel)⟩⟩
theorem mI_107_k : mw_okM mI_107 := ⟨mw_in 843 (by decide +kernel) (by decide +kernel), mw_in 74 (by decide +kernel) (by decide +kernel), by decide +kernel, by decide +kernel, by decide +kernel, Or.inl ⟨rfl, mw_in 841 (by decide +kernel) (by decide +kernel), mw_in 842 (by decide +kernel) (by decide +kernel)⟩⟩
theorem mI_108_k : mw_okM mI_108 := ⟨mw_in 856 (by decide +kernel) (by decide +kernel), mw_in 74 (by decide +kernel) (by decide +kernel), by decide +kernel, by decide +kernel, by decide +kernel, Or.inl ⟨rfl, mw_in 854 (by decide +kernel) (by decide +kernel), mw_in 855 (by decide +kernel) (by decide +kernel)⟩⟩
theorem mI_109_k : mw_okM mI_109 := ⟨mw_in 860 (by decide +kernel) (by decide +kernel), mw_in 74 (by decide +kernel) (by decide +kernel), by decide +kernel, by decide +kernel, by decide +kernel, Or.inl ⟨rfl, mw_in 858 (by decide +kernel) (by decide +kernel), mw_in 859 (by decide +kernel) (by decide +kernel)⟩⟩
theorem mI_110_k : mw_okM mI_110 := ⟨mw_in 864 (by decide +kernel) (by decide +kernel), mw_in 74 (by decide +kernel) (by decide +kernel), by decide +kernel, by decide +kernel, by decide +kernel, Or.inl ⟨rfl, mw_in 862 (by decide +kernel) (by decide +kernel), mw_in 863 (by decide +kernel) (by decide +kernel)⟩⟩
theorem mI_111_k : mw_okM mI_111 := ⟨mw_in 870 (by decide +kernel) (by decide +kernel), mw_in 74 (by decide +kernel) (by decide +kernel), by decide +kernel, by decide +kernel, by decide +kernel, Or.inl ⟨rfl, mw_in 868 (by decide +kernel) (by decide +kernel), mw_in 869 (by decide +kernel) (by decide +kernel)⟩⟩
theorem mI_112_k : mw_okM mI_112 := ⟨mw_in 880 (by decide +kernel) (by decide +kernel), mw_in 74 (by decide +kernel) (by decide +kernel), by decide +kernel, by decide +kernel, by decide +kernel, Or.inl ⟨rfl, mw_in 878 (by decide +kernel) (by decide +kernel), mw_in 879 (by decide +kernel) (by decide +kernel)⟩⟩
theorem mI_113_k : mw_okM mI_113 := ⟨mw_in 888 (by decide +kernel) (by decide +kernel), mw_in 74 (by decide +kernel) (by decide +kernel), by decide +kernel, by decide +kernel, by decide +kernel, Or.inl ⟨rfl, mw_in 886 (by decide +kernel) (by decide +kernel), mw_in 887 (by decide +kernel) (by decide +kernel)⟩⟩
theorem mI_114_k : mw_okM mI_114 := ⟨mw_in 898 (by decide +kernel) (by decide +kernel), mw_in 74 (by decide +kernel) (by decide +kernel), by decide +kernel, by decide +kernel, by decide +kernel, Or.inl ⟨rfl, mw_in 896 (by decide +kernel) (by decide +kernel), mw_in 897 (by decide +kernel) (by decide +kernel)⟩⟩
theorem mI_115_k : mw_okM mI_115 := ⟨mw_in 911 (by decide +kernel) (by decide +kernel), mw_in 74 (by decide +kernel) (by decide +kernel), by decide +kernel, by decide +kernel, by decide +kernel, Or.inl ⟨rfl, mw_in 909 (by decide +kernel) (by decide +kernel), mw_in 910 (by decide +kernel) (by decide +kernel)⟩⟩
theorem mI_116_k : mw_okM mI_116 := ⟨mw_in 925 (by decide +kernel) (by decide +kernel), mw_in 74 (by decide +kernel) (by decide +kernel), by decide +kernel, by decide +kernel, by decide +kernel, Or.inl ⟨rfl, mw_in 923 (by decide +kernel) (by decide +kernel), mw_in 924 (by decide +kernel) (by decide +kernel)⟩⟩
theorem mI_117_k : mw_okM mI_117 := ⟨mw_in 929 (by decide +kernel) (by decide +kernel), mw_in 74 (by decide +kernel) (by decide +kernel), by decide +kernel, by decide +kernel, by decide +kernel, Or.inl ⟨rfl, mw_in 927 (by decide +kernel) (by decide +kernel), mw_in 928 (by decide +kernel) (by decide +kernel)⟩⟩
theorem mI_118_k : mw_okM mI_118 := ⟨mw_in 933 (by decide +kernel) (by decide +kernel), mw_in 74 (by decide +kernel) (by decide +kernel), by decide +kernel, by decide +kernel, by decide +kernel, Or.inl ⟨rfl, mw_in 931 (by decide +kernel) (by decide +kernel), mw_in 932 (by decide +kernel) (by decide +kernel)⟩⟩
theorem mI_119_k : mw_okM mI_119 := ⟨mw_in 949 (by decide +kernel) (by decide +kernel), mw_in 74 (by decide +kernel) (by decide +kernel), by decide +kernel, by decide +kernel, by decide +kernel, Or.inl ⟨rfl, mw_in 947 (by decide +kernel) (by decide +kernel), mw_in 948 (by decide +kernel) (by decide +kernel)⟩⟩
theorem mI_120_k : mw_okM mI_120 := ⟨mw_in 962 (by decide +kernel) (by decide +kernel), mw_in 74 (by decide +kernel) (by decide +kernel), by decide +kernel, by decide +kernel, by decide +kernel, Or.inl ⟨rfl, mw_in 960 (by decide +kernel) (by decide +kernel), mw_in 961 (by decide +kernel) (by decide +kernel)⟩⟩
theorem mI_121_k : mw_okM mI_121 := ⟨mw_in 971 (by decide +kernel) (by decide +kernel), mw_in 74 (by decide +kernel) (by decide +kernel), by decide +kernel, by decide +kernel, by decide +kernel, Or.inl ⟨rfl, mw_in 969 (by decide +kernel) (by decide +kernel), mw_in 970 (by decide +kernel) (by decide +kernel)⟩⟩
theorem mI_122_k : mw_okM mI_122 := ⟨mw_in 1111 (by decide +kernel) (by decide +kernel), mw_in 74 (by decide +kernel) (by decide +kernel), by decide +kernel, by decide +kernel, by decide +kernel, Or.inl ⟨rfl, mw_in 1109 (by decide +kernel) (by decide +kernel), mw_in 1110 (by decide +kernel) (by decide +kernel)⟩⟩
theorem mI_123_k : mw_okM mI_123 := ⟨mw_in 980 (by decide +kernel) (by decide +kernel), mw_in 74 (by decide +kernel) (by decide +kernel), by decide +kernel, by decide +kernel, by decide +kernel, Or.inl ⟨rfl, mw_in 978 (by decide +kernel) (by decide +kernel), mw_in 979 (by decide +kernel) (by decide +kernel)⟩⟩
theorem mI_124_k : mw_okM mI_124 := ⟨mw_in 988 (by decide +kernel) (by decide +kernel), mw_in 74 (by decide +kernel) (by decide +kernel), by decide +kernel, by decide +kernel, by decide +kernel, Or.inl ⟨rfl, mw_in 986 (by decide +kernel) (by decide +kernel), mw_in 987 (by decide +kernel) (by decide +kernel)⟩⟩
theorem mI_125_k : mw_okMW mI_125 (mw_hh 125) := ⟨mw_in 996 (by decide +kernel) (by decide +kernel), mw_in 74 (by decide +kernel) (by decide +kernel), by decide +kernel, by decide +kernel, by decide +kernel⟩
theorem mI_126_k : mw_okM mI_126 := ⟨mw_in 396 (by decide +kernel) (by decide +kernel), mw_in 74 (by decide +kernel) (by decide +kernel), by decide +kernel, by decide +kernel, by decide +kernel, Or.inl ⟨rfl, mw_in 395 (by decide +kernel) (by decide +kernel), mw_in 1 (by decide +kernel) (by decide +kernel)⟩⟩
theorem mI_127_k : mw_okM mI_127 := ⟨mw_in 642 (by decide +kernel) (by decide +kernel), mw_in 74 (by decide +kernel) (by decide +kernel), by decide +kernel, by decide +kernel, by decide +kernel, Or.inl ⟨rfl, mw_in 641 (by decide +kernel) (by decide +kernel), mw_in 7 (by decide +kernel) (by decide +kernel)⟩⟩
theorem mI_128_k : mw_okM mI_128 := ⟨mw_in 847 (by decide +kernel) (by decide +kernel), mw_in 74 (by decide +kernel) (by decide +kernel), by decide +kernel, by decide +kernel, by decide +kernel, Or.inl ⟨rfl, mw_in 846 (by decide +kernel) (by decide +kernel), mw_in 25 (by decide +kernel) (by decide +kernel)⟩⟩
theorem mI_129_k : mw_okM mI_129 := ⟨mw_in 875 (by decide +kernel) (by decide +kernel), mw_in 74 (by decide +kernel) (by decide +kernel), by decide +kernel, by decide +kernel, by decide +kernel, Or.inr (Or.inl ⟨rfl, mw_in 874 (by decide +kernel) (by decide +kernel)⟩)⟩
theorem mI_130_k : mw_okM mI_130 := ⟨mw_in 906 (by decide +kernel) (by decide +kernel), mw_in 74 (by decide +kernel) (by decide +kernel), by decide +kernel, by decide +kernel, by decide +kernel, Or.inl ⟨rfl, mw_in 905 (by decide +kernel) (by decide +kernel), mw_in 27 (by decide +kernel) (by decide +kernel)⟩⟩
theorem mI_131_k : mw_okM mI_131 := ⟨mw_in 902 (by decide +kernel) (by decide +kernel), mw_in 74 (by decide +kernel) (by decide +kernel), by decide +kernel, by decide +kernel, by decide +kernel, Or.inl ⟨rfl, mw_in 901 (by decide +kernel) (by decide +kernel), mw_in 26 (by decide +kernel) (by decide +kernel)⟩⟩
theorem mI_132_k : mw_okM mI_132 := ⟨mw_in 1120 (by decide +kernel) (by decide +kernel), mw_in 82 (by decide +kernel) (by decide +kernel), by decide +kernel, by decide +kernel, by decide +kernel, Or.inr (Or.inr ⟨rfl, mw_in 1119 (by decide +kernel) (by decide +kernel), rfl, rfl⟩)⟩
theorem mI_133_k : mw_okM mI_133 := ⟨mw_in 1234 (by decide +kernel) (by decide +kernel), mw_in 82 (by decide +kernel) (by decide +kernel), by decide +kernel, by decide +kernel, by decide +kernel, Or.inl ⟨rfl, mw_in 1232 (by decide +kernel) (by decide +kernel), mw_in 1233 (by decide +kernel) (by decide +kernel)⟩⟩
theorem mI_134_k : mw_okM mI_134 := ⟨mw_in 1249 (by decide +kernel) (by decide +kernel), mw_in 82 (by decide +kernel) (by decide +kernel), by decide +kernel, by decide +kernel, by decide +kernel, Or.inr (Or.inl ⟨rfl, mw_in 1248 (by decide +kernel) (by decide +kernel)⟩)⟩
theorem mI_135_k : mw_okM mI_135 := ⟨mw_in 1309 (by decide +kernel) (by decide +kernel), mw_in 82 (by decide +kernel) (by decide +kernel), by decide +kernel, by decide +kernel, by decide +kernel, Or.inl ⟨rfl, mw_in 1308 (by decide +kernel) (by decide +kernel), mw_in 40 (by decide +kernel) (by decide +kernel)⟩⟩
theorem mI_136_k : mw_okM mI_136 := ⟨mw_in 1305 (by decide +kernel) (by decide +kernel), mw_in 82 (by decide +kernel) (by decide +kernel), by decide +kernel, by decide +kernel, by decide +kernel, Or.inl ⟨rfl, mw_in 1304 (by decide +kernel) (by decide +kernel), mw_in 39 (by decide +kernel) (by decide +kernel)⟩⟩
theorem mI_137_k : mw_okM mI_137 := ⟨mw_in 1430 (by decide +kernel) (by decide +kernel), mw_in 82 (by decide +kernel) (by decide +kernel), by decide +kernel, by decide +kernel, by decide +kernel, Or.inl ⟨rfl, mw_in 1429 (by decide +kernel) (by decide +kernel), mw_in 57 (by decide +kernel) (by decide +kernel)⟩⟩
theorem mI_138_k : mw_okM mI_138 := ⟨mw_in 1245 (by decide +kernel) (by decide +kernel), mw_in 82 (by decide +kernel) (by decide +kernel), by decide +kernel, by decide +kernel, by decide +kernel, Or.inr (Or.inl ⟨rfl, mw_in 1244 (by decide +kernel) (by decide +kernel)⟩)⟩
theorem mI_139_k : mw_okM mI_139 := ⟨mw_in 1364 (by decide +kernel) (by decide +kernel), mw_in 82 (by decide +kernel) (by decide +kernel), by decide +kernel, by decide +kernel, by decide +kernel, Or.inr (Or.inl ⟨rfl, mw_in 1363 (by decide +kernel) (by decide +kernel)⟩)⟩
theorem mI_140_k : mw_okM mI_140 := ⟨mw_in 1434 (by decide +kernel) (by decide +kernel), mw_in 82 (by decide +kernel) (by decide +kernel), by decide +kernel, by decide +kernel, by decide +kernel, Or.inl ⟨rfl, mw_in 1433 (by decide +kernel) (by decide +kernel), mw_in 58 (by decide +kernel) (by decide +kernel)⟩⟩
theorem mI_141_k : mw_okM mI_141 := ⟨mw_in 1297 (by decide +kernel) (by decide +kernel), mw_in 82 (by decide +kernel) (by decide +kernel), by decide +kernel, by decide +kernel, by decide +kernel, Or.inr (Or.inl ⟨rfl, mw_in 1296 (by decide +kernel) (by decide +kernel)⟩)⟩
theorem mI_142_k : mw_okM mI_142 := ⟨mw_in 1313 (by decide +kernel) (by decide +kernel), mw_in 82 (by decide +kernel) (by decide +kernel), by decide +kernel, by decide +kernel, by decide +kernel, Or.inl ⟨rfl, mw_in 1312 (by decide +kernel) (by decide +kernel), mw_in 41 (by decide +kernel) (by decide +kernel)⟩⟩
theorem mI_143_k : mw_okM mI_143 := ⟨mw_in 1361 (by decide +kernel) (by decide +kernel), mw_in 82 (by decide +kernel) (by decide +kernel), by decide +kernel, by decide +kernel, by decide +kernel, Or.inl ⟨rfl, mw_in 1360 (by decide +kernel) (by decide +kernel), mw_in 47 (by decide +kernel) (by decide +kernel)⟩⟩
theorem mI_144_k : mw_okM mI_144 := ⟨mw_in 1257 (by decide +kernel) (by decide +kernel), mw_in 82 (by decide +kernel) (by decide +kernel), by decide +kernel, by decide +kernel, by decide +kernel, Or.inl ⟨rfl, mw_in 1256 (by decide +kernel) (by decide +kernel), mw_in 31 (by decide +kernel) (by decide +kernel)⟩⟩
theorem mI_145_k : mw_okM mI_145 := ⟨mw_in 1265 (by decide +kernel) (by decide +kernel), mw_in 82 (by decide +kernel) (by decide +kernel), by decide +kernel, by decide +kernel, by decide +kernel, Or.inl ⟨rfl, mw_in 1264 (by decide +kernel) (by decide +kernel), mw_in 33 (by decide +kernel) (by decide +kernel)⟩⟩
theorem mI_146_k : mw_okM mI_146 := ⟨mw_in 1271 (by decide +kernel) (by decide +kernel), mw_in 82 (by decide +kernel) (by decide +kernel), by decide +kernel, by decide +kernel, by decide +kernel, Or.inl ⟨rfl, mw_in 1270 (by decide +kernel) (by decide +kernel), mw_in 34 (by decide +kernel) (by decide +kernel)⟩⟩
theorem mI_147_k : mw_okM mI_147 := ⟨mw_in 1261 (by decide +kernel) (by decide +kernel), mw_in 82 (by decide +kernel) (by decide +kernel), by decide +kernel, by decide +kernel, by decide +kernel, Or.inl ⟨rfl, mw_in 1260 (by decide +kernel) (by decide +kernel), mw_in 32 (by decide +kernel) (by decide +kernel)⟩⟩
theorem mI_148_k : mw_okM mI_148 := ⟨mw_in 1253 (by decide +kernel) (by decide +kernel), mw_in 82 (by decide +kernel) (by decide +kernel), by decide +kernel, by decide +kernel, by decide +kernel, Or.inl ⟨rfl, mw_in 1252 (by decide +kernel) (by decide +kernel), mw_in 30 (by decide +kernel) (by decide +kernel)⟩⟩
theorem mI_149_k : mw_okM mI_149 := ⟨mw_in 1279 (by decide +kernel) (by decide +kernel), mw_in 82 (by decide +kernel) (by decide +kernel), by decide +kernel, by decide +kernel, by decide +kernel, Or.inl ⟨rfl, mw_in 1278 (by decide +kernel) (by decide +kernel), mw_in 36 (by decide +kernel) (by decide +kernel)⟩⟩
theorem mI_150_k : mw_okM mI_150 := ⟨mw_in 1275 (by decide +kernel) (by decide +kernel), mw_in 82 (by decide +kernel) (by decide +kernel), by decide +kernel, by decide +kernel, by decide +kernel, Or.inl ⟨rfl, mw_in 1274 (by decide +kernel) (by decide +kernel), mw_in 35 (by decide +kernel) (by decide +kernel)⟩⟩
theorem mI_151_k : mw_okM mI_151 := ⟨mw_in 1242 (by decide +kernel) (by decide +kernel), mw_in 82 (by decide +kernel) (by decide +kernel), by decide +kernel, by decide +kernel, by decide +kernel, Or.inl ⟨rfl, mw_in 1241 (by decide +kernel) (by decide +kernel), mw_in 29 (by decide +kernel) (by decide +kernel)⟩⟩
theorem mI_152_k : mw_okM mI_152 := ⟨mw_in 1238 (by decide +kernel) (by decide +kernel), mw_in 82 (by decide +kernel) (by decide +kernel), by decide +kernel, by decide +kernel, by decide +kernel, Or.inl ⟨rfl, mw_in 1236 (by decide +kernel) (by decide +kernel), mw_in 1237 (by decide +kernel) (by decide +kernel)⟩⟩
theorem mI_153_k : mw_okM mI_153 := ⟨mw_in 1294 (by decide +kernel) (by decide +kernel), mw_in 82 (by decide +kernel) (by decide +kernel), by decide +kernel, by decide +kernel, by decide +kernel, Or.inl ⟨rfl, mw_in 1293 (by decide +kernel) (by decide +kernel), mw_in 38 (by decide +kernel) (by decide +kernel)⟩⟩
theorem mI_154_k : mw_okM mI_154 := ⟨mw_in 1290 (by decide +kernel) (by decide +kernel), mw_in 82 (by decide +kernel) (by decide +kernel), by decide +kernel, by decide +kernel, by decide +kernel, Or.inl ⟨rfl, mw_in 1289 (by decide +kernel) (by decide +kernel), mw_in 37 (by decide +kernel) (by decide +kernel)⟩⟩
theorem mI_155_k : mw_okM mI_155 := ⟨mw_in 1286 (by decide +kernel) (by decide +kernel), mw_in 82 (by decide +kernel) (by decide +kernel), by decide +kernel, by decide +kernel, by decide +kernel, Or.inl ⟨rfl, mw_in 1284 (by decide +kernel) (by decide +kernel), mw_in 1285 (by decide +kernel) (by decide +kernel)⟩⟩
theorem mI_156_k : mw_okM mI_156 := ⟨mw_in 1301 (by decide +kernel) (by decide +kernel), mw_in 82 (by decide +kernel) (by decide +kernel), by decide +kernel, by decide +kernel, by decide +kernel, Or.inl ⟨rfl, mw_in 1299 (by decide +kernel) (by decide +kernel), mw_in 1300 (by decide +kernel) (by decide +kernel)⟩⟩
theorem mI_157_k : mw_okM mI_157 := ⟨mw_in 1317 (by decide +kernel) (by decide +kernel), mw_in 82 (by decide +kernel) (by decide +kernel), by decide +kernel, by decide +kernel, by decide +kernel, Or.inl ⟨rfl, mw_in 1315 (by decide +kernel) (by decide +kernel), mw_in 1316 (by decide +kernel) (by decide +kernel)⟩⟩
theorem mI_158_k : mw_okM mI_158 := ⟨mw_in 1322 (by decide +kernel) (by decide +kernel), mw_in 82 (by decide +kernel) (by decide +kernel), by decide +kernel, by decide +kernel, by decide +kernel, Or.inl ⟨rfl, mw_in 1320 (by decide +kernel) (by decide +kernel), mw_in 1321 (by decide +kernel) (by decide +kernel)⟩⟩
theorem mI_159_k : mw_okM mI_159 := ⟨mw_in 1327 (by decide +kernel) (by decide +kernel), mw_in 82 (by decide +kernel) (by decide +kernel), by decide +kernel, by decide +kernel, by decide +kernel, Or.inl ⟨rfl, mw_in 1325 (by decide +kernel) (by decide +kernel), mw_in 1326 (by decide +kernel) (by decide +kernel)⟩⟩
theorem mI_160_k : mw_okM mI_160 := ⟨mw_in 1337 (by decide +kernel) (by decide +kernel), mw_in 82 (by decide +kernel) (by decide +kernel), by decide +kernel, by decide +kernel, by decide +kernel, Or.inl ⟨rfl, mw_in 1336 (by decide +kernel) (by decide +kernel), mw_in 42 (by decide +kernel) (by decide +kernel)⟩⟩
theorem mI_161_k : mw_okM mI_161 := ⟨mw_in 1341 (by decide +kernel) (by decide +kernel), mw_in 82 (by decide +kernel) (by decide +kernel), by decide +kernel, by decide +kernel, by decide +kernel, Or.inl ⟨rfl, mw_in 1340 (by decide +kernel) (by decide +kernel), mw_in 43 (by decide +kernel) (by decide +kernel)⟩⟩
theorem mI_162_k : mw_okM mI_162 := ⟨mw_in 1345 (by decide +kernel) (by decide +kernel), mw_in 82 (by decide +kernel) (by decide +kernel), by decide +kernel, by decide +kernel, by decide +kernel, Or.inl ⟨rfl, mw_in 1344 (by decide +kernel) (by decide +kernel), mw_in 44 (by decide +kernel) (by decide +kernel)⟩⟩
theorem mI_163_k : mw_okM mI_163 := ⟨mw_in 1333 (by decide +kernel) (by decide +kernel), mw_in 82 (by decide +kernel) (by decide +kernel), by decide +kernel, by decide +kernel, by decide +kernel, Or.inl ⟨rfl, mw_in 1331 (by decide +kernel) (by decide +kernel), mw_in 1332 (by decide +kernel) (by decide +kernel)⟩⟩
theorem mI_164_k : mw_okM mI_164 := ⟨mw_in 1353 (by decide +kernel) (by decide +kernel), mw_in 82 (by decide +kernel) (by decide +kernel), by decide +kernel, by decide +kernel, by decide +kernel, Or.inl ⟨rfl, mw_in 1352 (by decide +kernel) (by decide +kernel), mw_in 45 (by decide +kernel) (by decide +kernel)⟩⟩
theorem mI_165_k : mw_okM mI_165 := ⟨mw_in 1357 (by decide +kernel) (by decide +kernel), mw_in 82 (by decide +kernel) (by decide +kernel), by decide +kernel, by decide +kernel, by decide +kernel, Or.inl ⟨rfl, mw_in 1356 (by decide +kernel) (by decide +kernel), mw_in 46 (by decide +kernel) (by decide +kernel)⟩⟩
theorem mI_166_k : mw_okM mI_166 := ⟨mw_in 1373 (by decide +kernel) (by decide +kernel), mw_in 82 (by decide +kernel) (by decide +kernel), by decide +kernel, by decide +kernel, by decide +kernel, Or.inl ⟨rfl, mw_in 1372 (by decide +kernel) (by decide +kernel), mw_in 48 (by decide +kernel) (by decide +kernel)⟩⟩
theorem mI_167_k : mw_okM mI_167 := ⟨mw_in 1349 (by decide +kernel) (by decide +kernel), mw_in 82 (by decide +kernel) (by decide +kernel), by decide +kernel, by decide +kernel, by decide +kernel, Or.inl ⟨rfl, mw_in 1347 (by decide +kernel) (by decide +kernel), mw_in 1348 (by decide +kernel) (by decide +kernel)⟩⟩
theorem mI_168_k : mw_okM mI_168 := ⟨mw_in 1368 (by decide +kernel) (by decide +kernel), mw_in 82 (by decide +kernel) (by decide +kernel), by decide +kernel, by decide +kernel, by decide +kernel, Or.inl ⟨rfl, mw_in 1366 (by decide +kernel) (by decide +kernel), mw_in 1367 (by decide +kernel) (by decide +kernel)⟩⟩
theorem mI_169_k : mw_okM mI_169 := ⟨mw_in 1381 (by decide +kernel) (by decide +kernel), mw_in 82 (by decide +kernel) (by decide +kernel), by decide +kernel, by decide +kernel, by decide +kernel, Or.inl ⟨rfl, mw_in 1380 (by decide +kernel) (by decide +kernel), mw_in 49 (by decide +kernel) (by decide +kernel)⟩⟩
theorem mI_170_k : mw_okM mI_170 := ⟨mw_in 1377 (by decide +kernel) (by decide +kernel), mw_in 82 (by decide +kernel) (by decide +kernel), by decide +kernel, by decide +kernel, by decide +kernel, Or.inl ⟨rfl, mw_in 1375 (by decide +kernel) (by decide +kernel), mw_in 1376 (by decide +kernel) (by decide +kernel)⟩⟩
theorem mI_171_k : mw_okM mI_171 := ⟨mw_in 1393 (by decide +kernel) (by decide +kernel), mw_in 82 (by decide +kernel) (by decide +kernel), by decide +kernel, by decide +kernel, by decide +kernel, Or.inl ⟨rfl, mw_in 1392 (by decide +kernel) (by decide +kernel), mw_in 51 (by decide +kernel) (by decide +kernel)⟩⟩
theorem mI_172_k : mw_okM mI_172 := ⟨mw_in 1389 (by decide +kernel) (by decide +kernel), mw_in 82 (by decide +kernel) (by decide +kernel), by decide +kernel, by decide +kernel, by decide +kernel, Or.inl ⟨rfl, mw_in 1388 (by decide +kernel) (by decide +kernel), mw_in 50 (by decide +kernel) (by decide +kernel)⟩⟩
theorem mI_173_k : mw_okM mI_173 := ⟨mw_in 1385 (by decide +kernel) (by decide +kernel), mw_in 82 (by decide +kernel) (by decide +kernel), by decide +kernel, by decide +kernel, by decide +kernel, Or.inl ⟨rfl, mw_in 1383 (by decide +kernel) (by decide +kernel), mw_in 1384 (by decide +kernel) (by decide +kernel)⟩⟩
theorem mI_174_k : mw_okM mI_174 := ⟨mw_in 1398 (by decide +kernel) (by decide +kernel), mw_in 82 (by decide +kernel) (by decide +kernel), by decide +kernel, by decide +kernel, by decide +kernel, Or.inl ⟨rfl, mw_in 1396 (by decide +kernel) (by decide +kernel), mw_in 1397 (by decide +kernel) (by decide +kernel)⟩⟩
theorem mI_175_k : mw_okM mI_175 := ⟨mw_in 1402 (by decide +kernel) (by decide +kernel), mw_in 82 (by decide +kernel) (by decide +kernel), by decide +kernel, by decide +kernel, by decide +kernel, Or.inl ⟨rfl, mw_in 1401 (by decide +kernel) (by decide +kernel), mw_in 52 (by decide +kernel) (by decide +kernel)⟩⟩
theorem mI_176_k : mw_okM mI_176 := ⟨mw_in 1406 (by decide +kernel) (by decide +kernel), mw_in 82 (by decide +kernel) (by decide +kernel), by decide +kernel, by decide +kernel, by decide +kernel, Or.inl ⟨rfl, mw_in 1405 (by decide +kernel) (by decide +kernel), mw_in 53 (by decide +kernel) (by decide +kernel)⟩⟩
theorem mI_177_k : mw_okM mI_177 := ⟨mw_in 1418 (by decide +kernel) (by decide +kernel), mw_in 82 (by decide +kernel) (by decide +kernel), by decide +kernel, by decide +kernel, by decide +kernel, Or.inl ⟨rfl, mw_in 1417 (by decide +kernel) (by decide +kernel), mw_in 55 (by decide +kernel) (by decide +kernel)⟩⟩
theorem mI_178_k : mw_okM mI_178 := ⟨mw_in 1422 (by decide +kernel) (by decide +kernel), mw_in 82 (by decide +kernel) (by decide +kernel), by decide +kernel, by decide +kernel, by decide +kernel, Or.inl ⟨rfl, mw_in 1421 (by decide +kernel) (by decide +kernel), mw_in 56 (by decide +kernel) (by decide +kernel)⟩⟩
theorem mI_179_k : mw_okM mI_179 := ⟨mw_in 1414 (by decide +kernel) (by decide +kernel), mw_in 82 (by decide +kernel) (by decide +kernel), by decide +kernel, by decide +kernel, by decide +kernel, Or.inl ⟨rfl, mw_in 1413 (by decide +kernel) (by decide +kernel), mw_in 54 (by decide +kernel) (by decide +kernel)⟩⟩
theorem mI_180_k : mw_okM mI_180 := ⟨mw_in 1410 (by decide +kernel) (by decide +kernel), mw_in 82 (by decide +kernel) (by decide +kernel), by decide +kernel, by decide +kernel, by decide +kernel, Or.inl ⟨rfl, mw_in 1408 (by decide +kernel) (by decide +kernel), mw_in 1409 (by decide +kernel) (by decide +kernel)⟩⟩
theorem mI_181_k : mw_okM mI_181 := ⟨mw_in 1438 (by decide +kernel) (by decide +kernel), mw_in 82 (by decide +kernel) (by decide +kernel), by decide +kernel, by decide +kernel, by decide +kernel, Or.inl ⟨rfl, mw_in 1437 (by decide +kernel) (by decide +kernel), mw_in 59 (by decide +kernel) (by decide +kernel)⟩⟩
theorem mI_182_k : mw_okM mI_182 := ⟨mw_in 1458 (by decide +kernel) (by decide +kernel), mw_in 82 (by decide +kernel) (by decide +kernel), by decide +kernel, by decide +kernel, by decide +kernel, Or.inl ⟨rfl, mw_in 1457 (by decide +kernel) (by decide +kernel), mw_in 63 (by decide +kernel) (by decide +kernel)⟩⟩
theorem mI_183_k : mw_okM mI_183 := ⟨mw_in 1426 (by decide +kernel) (by decide +kernel), mw_in 82 (by decide +kernel) (by decide +kernel), by decide +kernel, by decide +kernel, by decide +kernel, Or.inl ⟨rfl, mw_in 1424 (by decide +kernel) (by decide +kernel), mw_in 1425 (by decide +kernel) (by decide +kernel)⟩⟩
theorem mI_184_k : mw_okM mI_184 := ⟨mw_in 1462 (by decide +kernel) (by decide +kernel), mw_in 82 (by decide +kernel) (by decide +kernel), by decide +kernel, by decide +kernel, by decide +kernel, Or.inl ⟨rfl, mw_in 1461 (by decide +kernel) (by decide +kernel), mw_in 64 (by decide +kernel) (by decide +kernel)⟩⟩
theorem mI_185_k : mw_okM mI_185 := ⟨mw_in 1454 (by decide +kernel) (by decide +kernel), mw_in 82 (by decide +kernel) (by decide +kernel), by decide +kernel, by decide +kernel, by decide +kernel, Or.inl ⟨rfl, mw_in 1453 (by decide +kernel) (by decide +kernel), mw_in 62 (by decide +kernel) (by decide +kernel)⟩⟩
theorem mI_186_k : mw_okM mI_186 := ⟨mw_in 1450 (by decide +kernel) (by decide +kernel), mw_in 82 (by decide +kernel) (by decide +kernel), by decide +kernel, by decide +kernel, by decide +kernel, Or.inl ⟨rfl, mw_in 1449 (by decide +kernel) (by decide +kernel), mw_in 61 (by decide +kernel) (by decide +kernel)⟩⟩
theorem mI_187_k : mw_okM mI_187 := ⟨mw_in 1446 (by decide +kernel) (by decide +kernel), mw_in 82 (by decide +kernel) (by decide +kernel), by decide +kernel, by decide +kernel, by decide +kernel, Or.inl ⟨rfl, mw_in 1445 (by decide +kernel) (by decide +kernel), mw_in 60 (by decide +kernel) (by decide +kernel)⟩⟩
theorem mI_188_k : mw_okM mI_188 := ⟨mw_in 1442 (by decide +kernel) (by decide +kernel), mw_in 82 (by decide +kernel) (by decide +kernel), by decide +kernel, by decide +kernel, by decide +kernel, Or.inl ⟨rfl, mw_in 1440 (by decide +kernel) (by decide +kernel), mw_in 1441 (by decide +kernel) (by decide +kernel)⟩⟩
theorem mI_189_k : mw_okM mI_189 := ⟨mw_in 1474 (by decide +kernel) (by decide +kernel), mw_in 82 (by decide +kernel) (by decide +kernel), by decide +kernel, by decide +kernel, by decide +kernel, Or.inl ⟨rfl, mw_in 1473 (by decide +kernel) (by decide +kernel), mw_in 66 (by decide +kernel) (by decide +kernel)⟩⟩
theorem mI_190_k : mw_okM mI_190 := ⟨mw_in 1478 (by decide +kernel) (by decide +kernel), mw_in 82 (by decide +kernel) (by decide +kernel), by decide +kernel, by decide +kernel, by decide +kernel, Or.inl ⟨rfl, mw_in 1477 (by decide +kernel) (by decide +kernel), mw_in 67 (by decide +kernel) (by decide +kernel)⟩⟩
theorem mI_191_k : mw_okM mI_191 := ⟨mw_in 1470 (by decide +kernel) (by decide +kernel), mw_in 82 (by decide +kernel) (by decide +kernel), by decide +kernel, by decide +kernel, by decide +kernel, Or.inl ⟨rfl, mw_in 1469 (by decide +kernel) (by decide +kernel), mw_in 65 (by decide +kernel) (by decide +kernel)⟩⟩
theorem mI_192_k : mw_okM mI_192 := ⟨mw_in 1466 (by decide +kernel) (by decide +kernel), mw_in 82 (by decide +kernel) (by decide +kernel), by decide +kernel, by decide +kernel, by decide +kernel, Or.inl ⟨rfl, mw_in 1464 (by decide +kernel) (by decide +kernel), mw_in 1465 (by decide +kernel) (by decide +kernel)⟩⟩
theorem mI_193_k : mw_okM mI_193 := ⟨mw_in 1486 (by decide +kernel) (by decide +kernel), mw_in 82 (by decide +kernel) (by decide +kernel), by decide +kernel, by decide +kernel, by decide +kernel, Or.inl ⟨rfl, mw_in 1485 (by decide +kernel) (by decide +kernel), mw_in 68 (by decide +kernel) (by decide +kernel)⟩⟩
theorem mI_194_k : mw_okM mI_194 := ⟨mw_in 1490 (by decide +kernel) (by decide +kernel), mw_in 82 (by decide +kernel) (by decide +kernel), by decide +kernel, by decide +kernel, by decide +kernel, Or.inl ⟨rfl, mw_in 1489 (by decide +kernel) (by decide +kernel), mw_in 69 (by decide +kernel) (by decide +kernel)⟩⟩
theorem mI_195_k : mw_okM mI_195 := ⟨mw_in 1482 (by decide +kernel) (by decide +kernel), mw_in 82 (by decide +kernel) (by decide +kernel), by decide +kernel, by decide +kernel, by decide +kernel, Or.inl ⟨rfl, mw_in 1480 (by decide +kernel) (by decide +kernel), mw_in 1481 (by decide +kernel) (by decide +kernel)⟩⟩
theorem mI_196_k : mw_okM mI_196 := ⟨mw_in 1494 (by decide +kernel) (by decide +kernel), mw_in 82 (by decide +kernel) (by decide +kernel), by decide +kernel, by decide +kernel, by decide +kernel, Or.inl ⟨rfl, mw_in 1492 (by decide +kernel) (by decide +kernel), mw_in 1493 (by decide +kernel) (by decide +kernel)⟩⟩
theorem mI_197_k : mw_okM mI_197 := ⟨mw_in 1498 (by decide +kernel) (by decide +kernel), mw_in 82 (by decide +kernel) (by decide +kernel), by decide +kernel, by decide +kernel, by decide +kernel, Or.inl ⟨rfl, mw_in 1496 (by decide +kernel) (by decide +kernel), mw_in 1497 (by decide +kernel) (by decide +kernel)⟩⟩
theorem mI_198_k : mw_okM mI_198 := ⟨mw_in 1506 (by decide +kernel) (by decide +kernel), mw_in 82 (by decide +kernel) (by decide +kernel), by decide +kernel, by decide +kernel, by decide +kernel, Or.inl ⟨rfl, mw_in 1504 (by decide +kernel) (by decide +kernel), mw_in 1505 (by decide +kernel) (by decide +kernel)⟩⟩
theorem mI_199_k : mw_okM mI_199 := ⟨mw_in 1515 (by decide +kernel) (by decide +kernel), mw_in 82 (by decide +kernel) (by decide +kernel), by decide +kernel, by decide +kernel, by decide +kernel, Or.inl ⟨rfl, mw_in 1514 (by decide +kernel) (by decide +kernel), mw_in 70 (by decide +kernel) (by decide +kernel)⟩⟩
theorem mI_200_k : mw_okM mI_200 := ⟨mw_in 1510 (by decide +kernel) (by decide +kernel), mw_in 82 (by decide +kernel) (by decide +kernel), by decide +kernel, by decide +kernel, by decide +kernel, Or.inl ⟨rfl, mw_in 1508 (by decide +kernel) (by decide +kernel), mw_in 1509 (by decide +kernel) (by decide +kernel)⟩⟩
theorem mI_201_k : mw_okM mI_201 := ⟨mw_in 1521 (by decide +kernel) (by decide +kernel), mw_in 82 (by decide +kernel) (by decide +kernel), by decide +kernel, by decide +kernel, by decide +kernel, Or.inl ⟨rfl, mw_in 1519 (by decide +kernel) (by decide +kernel), mw_in 1520 (by decide +kernel) (by decide +kernel)⟩⟩
theorem mI_202_k : mw_okM mI_202 := ⟨mw_in 1525 (by decide +kernel) (by decide +kernel), mw_in 82 (by decide +kernel) (by decide +kernel), by decide +kernel, by decide +kernel, by decide +kernel, Or.inl ⟨rfl, mw_in 1523 (by decide +kernel) (by decide +kernel), mw_in 1524 (by decide +kernel) (by decide +kernel)⟩⟩
theorem mI_203_k : mw_okM mI_203 := ⟨mw_in 1533 (by decide +kernel) (by decide +kernel), mw_in 82 (by decide +kernel) (by decide +kernel), by decide +kernel, by decide +kernel, by decide +kernel, Or.inl ⟨rfl, mw_in 1532 (by decide +kernel) (by decide +kernel), mw_in 71 (by decide +kernel) (by decide +kernel)⟩⟩
theorem mI_204_k : mw_okM mI_204 := ⟨mw_in 1529 (by decide +kernel) (by decide +kernel), mw_in 82 (by decide +kernel) (by decide +kernel), by decide +kernel, by decide +kernel, by decide +kernel, Or.inl ⟨rfl, mw_in 1527 (by decide +kernel) (by decide +kernel), mw_in 1528 (by decide +kernel) (by decide +kernel)⟩⟩
theorem mI_205_k : mw_okM mI_205 := ⟨mw_in 1538 (by decide +kernel) (by decide +kernel), mw_in 82 (by decide +kernel) (by decide +kernel), by decide +kernel, by decide +kernel, by decide +kernel, Or.inl ⟨rfl, mw_in 1536 (by decide +kernel) (by decide +kernel), mw_in 1537 (by decide +kernel) (by decide +kernel)⟩⟩
theorem mI_206_k : mw_okM mI_206 := ⟨mw_in 1542 (by decide +kernel) (by decide +kernel), mw_in 82 (by decide +kernel) (by decide +kernel), by decide +kernel, by decide +kernel, by decide +kernel, Or.inl ⟨rfl, mw_in 1540 (by decide +kernel) (by decide +kernel), mw_in 1541 (by decide +kernel) (by decide +kernel)⟩⟩
theorem mI_207_k : mw_okM mI_207 := ⟨mw_in 1546 (by decide +kernel) (by decide +kernel), mw_in 82 (by decide +kernel) (by decide +kernel), by decide +kernel, by decide +kernel, by decide +kernel, Or.inl ⟨rfl, mw_in 1544 (by decide +kernel) (by decide +kernel), mw_in 1545 (by decide +kernel) (by decide +kernel)⟩⟩
theorem mI_208_k : mw_okM mI_208 := ⟨mw_in 1553 (by decide +kernel) (by decide +kernel), mw_in 82 (by decide +kernel) (by decide +kernel), by decide +kernel, by decide +kernel, by decide +kernel, Or.inr (Or.inl ⟨rfl, mw_in 1552 (by decide +kernel) (by decide +kernel)⟩)⟩
theorem mI_209_k : mw_okM mI_209 := ⟨mw_in 1550 (by decide +kernel) (by decide +kernel), mw_in 82 (by decide +kernel) (by decide +kernel), by decide +kernel, by decide +kernel, by decide +kernel, Or.inl ⟨rfl, mw_in 1548 (by decide +kernel) (by decide +kernel), mw_in 1549 (by decide +kernel) (by decide +kernel)⟩⟩
theorem mI_210_k : mw_okM mI_210 := ⟨mw_in 1557 (by decide +kernel) (by decide +kernel), mw_in 82 (by decide +kernel) (by decide +kernel), by decide +kernel, by decide +kernel, by decide +kernel, Or.inl ⟨rfl, mw_in 1555 (by decide +kernel) (by decide +kernel), mw_in 1556 (by decide +kernel) (by decide +kernel)⟩⟩
theorem mI_211_k : mw_okM mI_211 := ⟨mw_in 1561 (by decide +kernel) (by decide +kernel), mw_in 82 (by decide +kernel) (by decide +kernel), by decide +kernel, by decide +kernel, by decide +kernel, Or.inl ⟨rfl, mw_in 1559 (by decide +kernel) (by decide +kernel), mw_in 1560 (by decide +kernel) (by decide +kernel)⟩⟩
theorem mI_212_k : mw_okM mI_212 := ⟨mw_in 1565 (by decide +kernel) (by decide +kernel), mw_in 82 (by decide +kernel) (by decide +kernel), by decide +kernel, by decide +kernel, by decide +kernel, Or.inl ⟨rfl, mw_in 1563 (by decide +kernel) (by decide +kernel), mw_in 1564 (by decide +kernel) (by decide +kernel)⟩⟩
theorem mI_213_k : mw_okM mI_213 := ⟨mw_in 1569 (by decide +kernel) (by decide +kernel), mw_in 82 (by decide +kernel) (by decide +kernel), by decide +kernel, by decide +kernel, by decide +kernel, Or.inl ⟨rfl, mw_in 1567 (by decide +kernel) (by decide +kernel), mw_in 1568 (by decide +kernel) (by decide +kernel)⟩⟩
theorem mI_214_k : mw_okM mI_214 := ⟨mw_in 1577 (by decide +kernel) (by decide +kernel), mw_in 82 (by decide +kernel) (by decide +kernel), by decide +kernel, by decide +kernel, by decide +kernel, Or.inl ⟨rfl, mw_in 1576 (by decide +kernel) (by decide +kernel), mw_in 72 (by decide +kernel) (by decide +kernel)⟩⟩
theorem mI_215_k : mw_okM mI_215 := ⟨mw_in 1573 (by decide +kernel) (by decide +kernel), mw_in 82 (by decide +kernel) (by decide +kernel), by decide +kernel, by decide +kernel, by decide +kernel, Or.inl ⟨rfl, mw_in 1571 (by decide +kernel) (by decide +kernel), mw_in 1572 (by decide +kernel) (by decide +kernel)⟩⟩
theorem mI_216_k : mw_okM mI_216 := ⟨mw_in 1581 (by decide +kernel) (by decide +kernel), mw_in 82 (by decide +kernel) (by decide +kernel), by decide +kernel, by decide +kernel, by decide +kernel, Or.inl ⟨rfl, mw_in 1579 (by decide +kernel) (by decide +kernel), mw_in 1580 (by decide +kernel) (by decide +kernel)⟩⟩
theorem mI_217_k : mw_okM mI_217 := ⟨mw_in 117 (by decide +kernel) (by decide +kernel), mw_in 76 (by decide +kernel) (by decide +kernel), by decide +kernel, by decide +kernel, by decide +kernel, Or.inr (Or.inl ⟨rfl, mw_in 116 (by decide +kernel) (by decide +kernel)⟩)⟩
theorem mI_218_k : mw_okMW mI_218 (mw_hh 218) := ⟨mw_in 1105 (by decide +kernel) (by decide +kernel), mw_in 73 (by decide +kernel) (by decide +kernel), by decide +kernel, by decide +kernel, by decide +kernel⟩
theorem lk_RX0_3 : mw_okL RX0 3 (9, 0, 0, 0, 0) ∧ mw_okX RX0 3 (9, 0, 0, 0, 0) := ⟨mw_in 249 (by decide +kernel) (by decide +kernel), trivial⟩
theorem lk_RX0_9 : mw_okL RX0 9 (0, 0, 0, 2, 0) ∧ mw_okX RX0 9 (0, 0, 0, 2, 0) := ⟨⟨_, rfl, by decide, rfl, mw_in 250 (by decide +kernel) (by decide +kernel), rfl⟩, trivial⟩
theorem lk_RX0_15 : mw_okL RX0 15 (0, 0, 1, 2, 0) ∧ mw_okX RX0 15 (0, 0, 1, 2, 0) := ⟨⟨_, rfl, by decide, rfl, mw_in 251 (by decide +kernel) (by decide +kernel), rfl⟩, trivial⟩
theorem lk_RX0_18 : mw_okL RX0 18 (0, 0, 2, 2, 0) ∧ mw_okX RX0 18 (0, 0, 2, 2, 0) := ⟨⟨_, rfl, by decide, rfl, mw_in 252 (by decide +kernel) (by decide +kernel), rfl⟩, trivial⟩
theorem lk_RX0_21 : mw_okL RX0 21 (0, 0, 3, 2, 0) ∧ mw_okX RX0 21 (0, 0, 3, 2, 0) := ⟨⟨_, rfl, by decide, rfl, mw_in 253 (by decide +kernel) (by decide +kernel), rfl⟩, trivial⟩
theorem lk_RX0_24 : mw_okL RX0 24 (0, 0, 4, 0, 0) ∧ mw_okX RX0 24 (0, 0, 4, 0, 0) := ⟨⟨_, rfl, by decide, rfl, mw_in 254 (by decide +kernel) (by decide +kernel), rfl⟩, trivial⟩
theorem lk_RX0_28 : mw_okL RX0 28 (0, 0, 5, 0, 0) ∧ mw_okX RX0 28 (0, 0, 5, 0, 0) := ⟨⟨_, rfl, by decide, rfl, mw_in 255 (by decide +kernel) (by decide +kernel), rfl⟩, trivial⟩
theorem lk_RX0_31 : mw_okL RX0 31 (0, 3, 11, 2, 0) ∧ mw_okX RX0 31 (0, 3, 11, 2, 0) := ⟨⟨_, rfl, by decide, rfl, mw_in 157 (by decide +kernel) (by decide +kernel), rfl⟩, trivial⟩
theorem lk_RX0_36 : mw_okL RX0 36 (8, 0, 0, 0, 0) ∧ mw_okX RX0 36 (8, 0, 0, 0, 0) := ⟨mw_in 786 (by decide +kernel) (by decide +kernel), trivial⟩
theorem lk_RX0_42 : mw_okL RX0 42 (1, 34, 1, 2, 3) ∧ mw_okX RX0 42 (1, 34, 1, 2, 3) := ⟨⟨_, mI_34_e, by decide, by decide, by decide, by decide, mI_34_k, rfl, mw_in 787 (by decide +kernel) (by decide +kernel), rfl, _, rfl, rfl⟩, trivial⟩
theorem lk_RX0_46 : mw_okL RX0 46 (0, 2, 1, 0, 0) ∧ mw_okX RX0 46 (0, 2, 1, 0, 0) := ⟨⟨_, rfl, by decide, rfl, mw_in 547 (by decide +kernel) (by decide +kernel), rfl⟩, trivial⟩
theorem lk_RX0_51 : mw_okL RX0 51 (2, 5, 3, 0, 0) ∧ mw_okX RX0 51 (2, 5, 3, 0, 0) := ⟨⟨_, mI_5_e, by decide, by decide, by decide, by decide, mI_5_k, rfl, mw_in 788 (by decide +kernel) (by decide +kernel), rfl⟩, trivial⟩
theorem lk_RX0_55 : mw_okL RX0 55 (1, 8, 4, 0, 0) ∧ mw_okX RX0 55 (1, 8, 4, 0, 0) := ⟨⟨_, mI_8_e, by decide, by decide, by decide, by decide, mI_8_k, rfl, mw_in 796 (by decide +kernel) (by decide +kernel), rfl, _, rfl, rfl⟩, trivial⟩
theorem lk_RX0_59 : mw_okL RX0 59 (1, 2, 1, 0, 0) ∧ mw_okX RX0 59 (1, 2, 1, 0, 0) := ⟨⟨_, mI_2_e, by decide, by decide, by decide, by decide, mI_2_k, rfl, mw_in 809 (by decide +kernel) (by decide +kernel), rfl, _, rfl, rfl⟩, trivial⟩
theorem lk_RX0_63 : mw_okL RX0 63 (1, 6, 1, 0, 0) ∧ mw_okX RX0 63 (1, 6, 1, 0, 0) := ⟨⟨_, mI_6_e, by decide, by decide, by decide, by decide, mI_6_k, rfl, mw_in 813 (by decide +kernel) (by decide +kernel), rfl, _, rfl, rfl⟩, trivial⟩
theorem lk_RX0_67 : mw_okL RX0 67 (0, 2, 2, 0, 0) ∧ mw_okX RX0 67 (0, 2, 2, 0, 0) := ⟨⟨_, rfl, by decide, rfl, mw_in 550 (by decide +kernel) (by decide +kernel), rfl⟩, trivial⟩
theorem lk_RX0_70 : mw_okL RX0 70 (1, 10, 2, 0, 0) ∧ mw_okX RX0 70 (1, 10, 2, 0, 0) := ⟨⟨_, mI_10_e, by decide, by decide, by decide, by decide, mI_10_k, rfl, mw_in 817 (by decide +kernel) (by decide +kernel), rfl, _, rfl, rfl⟩, trivial⟩
theorem lk_RX0_74 : mw_okL RX0 74 (2, 3, 2, 0, 0) ∧ mw_okX RX0 74 (2, 3, 2, 0, 0) := ⟨⟨_, mI_3_e, by decide, by decide, by decide, by decide, mI_3_k, rfl, mw_in 832 (by decide +kernel) (by decide +kernel), rfl⟩, trivial⟩
theorem lk_RX0_78 : mw_okL RX0 78 (2, 4, 3, 0, 0) ∧ mw_okX RX0 78 (2, 4, 3, 0, 0) := ⟨⟨_, mI_4_e, by decide, by decide, by decide, by decide, mI_4_k, rfl, mw_in 836 (by decide +kernel) (by decide +kernel), rfl⟩, trivial⟩
theorem lk_RX0_81 : mw_okL RX0 81 (0, 3, 2, 0, 0) ∧ mw_okX RX0 81 (0, 3, 2, 0, 0) := ⟨⟨_, rfl, by decide, rfl, mw_in 131 (by decide +kernel) (by decide +kernel), rfl⟩, trivial⟩
theorem lk_RX0_84 : mw_okL RX0 84 (1, 38, 1, 1, 3) ∧ mw_okX RX0 84 (1, 38, 1, 1, 3) := ⟨⟨_, mI_38_e, by decide, by decide, by decide, by decide, mI_38_k, rfl, mw_in 835 (by decide +kernel) (by decide +kernel), rfl, _, rfl, rfl⟩, trivial⟩
theorem lk_RX0_88 : mw_okL RX0 88 (1, 33, 1, 1, 3) ∧ mw_okX RX0 88 (1, 33, 1, 1, 3) := ⟨⟨_, mI_33_e, by decide, by decide, by decide, by decide, mI_33_k, rfl, mw_in 839 (by decide +kernel) (by decide +kernel), rfl, _, rfl, rfl⟩, trivial⟩
theorem lk_RX0_92 : mw_okL RX0 92 (2, 217, 2, 0, 0) ∧ mw_okX RX0 92 (2, 217, 2, 0, 0) := ⟨⟨_, mI_217_e, by decide, by decide, by decide, by decide, mI_217_k, rfl, mw_in 791 (by decide +kernel) (by decide +kernel), rfl⟩, trivial⟩
theorem lk_RX0_98 : mw_okL RX0 98 (2, 7, 3, 0, 0) ∧ mw_okX RX0 98 (2, 7, 3, 0, 0) := ⟨⟨_, mI_7_e, by decide, by decide, by decide, by decide, mI_7_k, rfl, mw_in 792 (by decide +kernel) (by decide +kernel), rfl⟩, trivial⟩
theorem lk_RX0_101 : mw_okL RX0 101 (0, 3, 7, 0, 0) ∧ mw_okX RX0 101 (0, 3, 7, 0, 0) := ⟨⟨_, rfl, by decide, rfl, mw_in 149 (by decide +kernel) (by decide +kernel), rfl⟩, trivial⟩
theorem lk_RX0_104 : mw_okL RX0 104 (0, 3, 15, 2, 0) ∧ mw_okX RX0 104 (0, 3, 15, 2, 0) := ⟨⟨_, rfl, by decide, rfl, mw_in 170 (by decide +kernel) (by decide +kernel), rfl⟩, trivial⟩
theorem lk_RX0_107 : mw_okL RX0 107 (0, 3, 16, 2, 0) ∧ mw_okX RX0 107 (0, 3, 16, 2, 0) := ⟨⟨_, rfl, by decide, rfl, mw_in 173 (by decide +kernel) (by decide +kernel), rfl⟩, trivial⟩
theorem lk_RX0_110 : mw_okL RX0 110 (1, 57, 2, 1, 3) ∧ mw_okX RX0 110 (1, 57, 2, 1, 3) := ⟨⟨_, mI_57_e, by decide, by decide, by decide, by decide, mI_57_k, rfl, mw_in 795 (by decide +kernel) (by decide +kernel), rfl, _, rfl, rfl⟩, trivial⟩
theorem lk_RX0_114 : mw_okL RX0 114 (1, 9, 2, 1, 0) ∧ mw_okX RX0 114 (1, 9, 2, 1, 0) := ⟨⟨_, mI_9_e, by decide, by decide, by decide, by decide, mI_9_k, rfl, mw_in 800 (by decide +kernel) (by decide +kernel), rfl, _, rfl, rfl⟩, trivial⟩
theorem lk_RX0_118 : mw_okL RX0 118 (20, 0, 0, 0, (-1000000)) ∧ mw_okX RX0 118 (20, 0, 0, 0, (-1000000)) := ⟨mw_in 804 (by decide +kernel) (by decide +kernel), trivial⟩
theorem lk_RX0_119 : mw_okL RX0 119 (1, 51, 2, 1, 3) ∧ mw_okX RX0 119 (1, 51, 2, 1, 3) := ⟨⟨_, mI_51_e, by decide, by decide, by decide, by decide, mI_51_k, rfl, mw_in 807 (by decide +kernel) (by decide +kernel), rfl, _, rfl, rfl⟩, trivial⟩
theorem lk_RX0_122 : mw_okL RX0 122 (1, 55, 2, 1, 3) ∧ mw_okX RX0 122 (1, 55, 2, 1, 3) := ⟨⟨_, mI_55_e, by decide, by decide, by decide, by decide, mI_55_k, rfl, mw_in 808 (by decide +kernel) (by decide +kernel), rfl, _, rfl, rfl⟩, trivial⟩
theorem lk_RX0_125 : mw_okL RX0 125 (1, 52, 1, 1, 3) ∧ mw_okX RX0 125 (1, 52, 1, 1, 3) := ⟨⟨_, mI_52_e, by decide, by decide, by decide, by decide, mI_52_k, rfl, mw_in 805 (by decide +kernel) (by decide +kernel), rfl, _, rfl, rfl⟩, trivial⟩
theorem lk_RX0_128 : mw_okL RX0 128 (1, 53, 1, 1, 3) ∧ mw_okX RX0 128 (1, 53, 1, 1, 3) := ⟨⟨_, mI_53_e, by decide, by decide, by decide, by decide, mI_53_k, rfl, mw_in 806 (by decide +kernel) (by decide +kernel), rfl, _, rfl, rfl⟩, trivial⟩
theorem lk_RX0_131 : mw_okL RX0 131 (1, 11, 1, 1, 0) ∧ mw_okX RX0 131 (1, 11, 1, 1, 0) := ⟨⟨_, mI_11_e, by decide, by decide, by decide, by decide, mI_11_k, rfl, mw_in 821 (by decide +kernel) (by decide +kernel), rfl, _, rfl, rfl⟩, trivial⟩
theorem lk_RX0_135 : mw_okL RX0 135 (1, 54, 2, 1, 3) ∧ mw_okX RX0 135 (1, 54, 2, 1, 3) := ⟨⟨_, mI_54_e, by decide, by decide, by decide, by decide, mI_54_k, rfl, mw_in 831 (by decide +kernel) (by decide +kernel), rfl, _, rfl, rfl⟩, trivial⟩
theorem lk_RX0_139 : mw_okL RX0 139 (1, 56, 2, 0, 3) ∧ mw_okX RX0 139 (1, 56, 2, 0, 3) := ⟨⟨_, mI_56_e, by decide, by decide, by decide, by decide, mI_56_k, rfl, mw_in 830 (by decide +kernel) (by decide +kernel), rfl, _, rfl, rfl⟩, trivial⟩
theorem lk_RX0_143 : mw_okL RX0 143 (1, 12, 1, 1, 0) ∧ mw_okX RX0 143 (1, 12, 1, 1, 0) := ⟨⟨_, mI_12_e, by decide, by decide, by decide, by decide, mI_12_k, rfl, mw_in 825 (by decide +kernel) (by decide +kernel), rfl, _, rfl, rfl⟩, trivial⟩
theorem lk_RX0_146 : mw_okL RX0 146 (0, 3, 5, 0, 0) ∧ mw_okX RX0 146 (0, 3, 5, 0, 0) := ⟨⟨_, rfl, by decide, rfl, mw_in 144 (by decide +kernel) (by decide +kernel), rfl⟩, trivial⟩
theorem lk_RX0_149 : mw_okL RX0 149 (1, 49, 0, 1, 3) ∧ mw_okX RX0 149 (1, 49, 0, 1, 3) := ⟨⟨_, mI_49_e, by decide, by decide, by decide, by decide, mI_49_k, rfl, mw_in 829 (by decide +kernel) (by decide +kernel), rfl, _, rfl, rfl⟩, trivial⟩
theorem lk_RX0_153 : mw_okL RX0 153 (0, 3, 4, 0, 0) ∧ mw_okX RX0 153 (0, 3, 4, 0, 0) := ⟨⟨_, rfl, by decide, rfl, mw_in 140 (by decide +kernel) (by decide +kernel), rfl⟩, trivial⟩
theorem lk_RX0_ok : ∀ q ∈ lk_RX0, mw_okL RX0 q.1 q.2 ∧ mw_okX RX0 q.1 q.2 := List.forall_mem_cons.mpr ⟨lk_RX0_3, List.forall_mem_cons.mpr ⟨lk_RX0_9, List.forall_mem_cons.mpr ⟨lk_RX0_15, List.forall_mem_cons.mpr ⟨lk_RX0_18, List.forall_mem_cons.mpr ⟨lk_RX0_21, List.forall_mem_cons.mpr ⟨lk_RX0_24, List.forall_mem_cons.mpr ⟨lk_RX0_28, List.forall_mem_cons.mpr ⟨lk_RX0_31, List.forall_mem_cons.mpr ⟨lk_RX0_36, List.forall_mem_cons.mpr ⟨lk_RX0_42, List.forall_mem_cons.mpr ⟨lk_RX0_46, List.forall_mem_cons.mpr ⟨lk_RX0_51, List.forall_mem_cons.mpr ⟨lk_RX0_55, List.forall_mem_cons.mpr ⟨lk_RX0_59, List.forall_mem_cons.mpr ⟨lk_RX0_63, List.forall_mem_cons.mpr ⟨lk_RX0_67, List.forall_mem_cons.mpr ⟨lk_RX0_70, List.forall_mem_cons.mpr ⟨lk_RX0_74, List.forall_mem_cons.mpr ⟨lk_RX0_78, List.forall_mem_cons.mpr ⟨lk_RX0_81, List.forall_mem_cons.mpr ⟨lk_RX0_84, List.forall_mem_cons.mpr ⟨lk_RX0_88, List.forall_mem_cons.mpr ⟨lk_RX0_92, List.forall_mem_cons.mpr ⟨lk_RX0_98, List.forall_mem_cons.mpr ⟨lk_RX0_101, List.forall_mem_cons.mpr ⟨lk_RX0_104, List.forall_mem_cons.mpr ⟨lk_RX0_107, List.forall_mem_cons.mpr ⟨lk_RX0_110, List.forall_mem_cons.mpr ⟨lk_RX0_114, List.forall_mem_cons.mpr ⟨lk_RX0_118, List.forall_mem_cons.mpr ⟨lk_RX0_119, List.forall_mem_cons.mpr ⟨lk_RX0_122, List.forall_mem_cons.mpr ⟨lk_RX0_125, List.forall_mem_cons.mpr ⟨lk_RX0_128, List.forall_mem_cons.mpr ⟨lk_RX0_131, List.forall_mem_cons.mpr ⟨lk_RX0_135, List.forall_mem_cons.mpr ⟨lk_RX0_139, List.forall_mem_cons.mpr ⟨lk_RX0_143, List.forall_mem_cons.mpr ⟨lk_RX0_146, List.forall_mem_cons.mpr ⟨lk_RX0_149, List.forall_mem_cons.mpr ⟨lk_RX0_153, List.forall_mem_nil _⟩⟩⟩⟩⟩⟩⟩⟩⟩⟩⟩⟩⟩⟩⟩⟩⟩⟩⟩⟩⟩⟩⟩⟩⟩⟩⟩⟩⟩⟩⟩⟩⟩⟩⟩⟩⟩⟩⟩⟩⟩
theorem lk_RX1_3 : mw_okL RX1 3 (9, 0, 0, 0, 0) ∧ mw_okX RX1 3 (9, 0, 0, 0, 0) := ⟨mw_in 274 (by decide +kernel) (by decide +kernel), trivial⟩
theorem lk_RX1_9 : mw_okL RX1 9 (0, 1, 0, 0, 0) ∧ mw_okX RX1 9 (0, 1, 0, 0, 0) := ⟨⟨_, rfl, by decide, rfl, mw_in 277 (by decide +kernel) (by decide +kernel), rfl⟩, trivial⟩
theorem lk_RX1_15 : mw_okL RX1 15 (0, 1, 1, 0, 0) ∧ mw_okX RX1 15 (0, 1, 1, 0, 0) := ⟨⟨_, rfl, by decide, rfl, mw_in 279 (by decide +kernel) (by decide +kernel), rfl⟩, trivial⟩
theorem lk_RX1_18 : mw_okL RX1 18 (0, 1, 2, 2, 0) ∧ mw_okX RX1 18 (0, 1, 2, 2, 0) := ⟨⟨_, rfl, by decide, rfl, mw_in 281 (by decide +kernel) (by decide +kernel), rfl⟩, trivial⟩
theorem lk_RX1_22 : mw_okL RX1 22 (0, 1, 3, 0, 0) ∧ mw_okX RX1 22 (0, 1, 3, 0, 0) := ⟨⟨_, rfl, by decide, rfl, mw_in 282 (by decide +kernel) (by decide +kernel), rfl⟩, trivial⟩
theorem lk_RX1_25 : mw_okL RX1 25 (0, 1, 4, 0, 0) ∧ mw_okX RX1 25 (0, 1, 4, 0, 0) := ⟨⟨_, rfl, by decide, rfl, mw_in 283 (by decide +kernel) (by decide +kernel), rfl⟩, trivial⟩
theorem lk_RX1_28 : mw_okL RX1 28 (0, 1, 5, 2, 0) ∧ mw_okX RX1 28 (0, 1, 5, 2, 0) := ⟨⟨_, rfl, by decide, rfl, mw_in 284 (by decide +kernel) (by decide +kernel), rfl⟩, trivial⟩
theorem lk_RX1_31 : mw_okL RX1 31 (0, 1, 6, 2, 0) ∧ mw_okX RX1 31 (0, 1, 6, 2, 0) := ⟨⟨_, rfl, by decide, rfl, mw_in 285 (by decide +kernel) (by decide +kernel), rfl⟩, trivial⟩
theorem lk_RX1_34 : mw_okL RX1 34 (0, 1, 7, 2, 0) ∧ mw_okX RX1 34 (0, 1, 7, 2, 0) := ⟨⟨_, rfl, by decide, rfl, mw_in 286 (by decide +kernel) (by decide +kernel), rfl⟩, trivial⟩
theorem lk_RX1_37 : mw_okL RX1 37 (0, 1, 8, 2, 0) ∧ mw_okX RX1 37 (0, 1, 8, 2, 0) := ⟨⟨_, rfl, by decide, rfl, mw_in 287 (by decide +kernel) (by decide +kernel), rfl⟩, trivial⟩
theorem lk_RX1_40 : mw_okL RX1 40 (31, 0, 0, 0, 0) ∧ mw_okX RX1 40 (31, 0, 0, 0, 0) := ⟨mw_in 275 (by decide +kernel) (by decide +kernel), trivial⟩
theorem lk_RX1_42 : mw_okL RX1 42 (0, 1, 9, 2, 0) ∧ mw_okX RX1 42 (0, 1, 9, 2, 0) := ⟨⟨_, rfl, by decide, rfl, mw_in 288 (by decide +kernel) (by decide +kernel), rfl⟩, trivial⟩
theorem lk_RX1_45 : mw_okL RX1 45 (0, 1, 10, 2, 0) ∧ mw_okX RX1 45 (0, 1, 10, 2, 0) := ⟨⟨_, rfl, by decide, rfl, mw_in 289 (by decide +kernel) (by decide +kernel), rfl⟩, trivial⟩
theorem lk_RX1_48 : mw_okL RX1 48 (0, 1, 11, 2, 0) ∧ mw_okX RX1 48 (0, 1, 11, 2, 0) := ⟨⟨_, rfl, by decide, rfl, mw_in 290 (by decide +kernel) (by decide +kernel), rfl⟩, trivial⟩
theorem lk_RX1_51 : mw_okL RX1 51 (0, 1, 12, 2, 0) ∧ mw_okX RX1 51 (0, 1, 12, 2, 0) := ⟨⟨_, rfl, by decide, rfl, mw_in 291 (by decide +kernel) (by decide +kernel), rfl⟩, trivial⟩
theorem lk_RX1_54 : mw_okL RX1 54 (0, 1, 13, 2, 0) ∧ mw_okX RX1 54 (0, 1, 13, 2, 0) := ⟨⟨_, rfl, by decide, rfl, mw_in 292 (by decide +kernel) (by decide +kernel), rfl⟩, trivial⟩
theorem lk_RX1_57 : mw_okL RX1 57 (0, 3, 4, 0, 0) ∧ mw_okX RX1 57 (0, 3, 4, 0, 0) := ⟨⟨_, rfl, by decide, rfl, mw_in 137 (by decide +kernel) (by decide +kernel), rfl⟩, trivial⟩
theorem lk_RX1_62 : mw_okL RX1 62 (0, 3, 5, 0, 0) ∧ mw_okX RX1 62 (0, 3, 5, 0, 0) := ⟨⟨_, rfl, by decide, rfl, mw_in 142 (by decide +kernel) (by decide +kernel), rfl⟩, trivial⟩
theorem lk_RX1_65 : mw_okL RX1 65 (1, 49, 0, 1, 3) ∧ mw_okX RX1 65 (1, 49, 0, 1, 3) := ⟨⟨_, mI_49_e, by decide, by decide, by decide, by decide, mI_49_k, rfl, mw_in 746 (by decide +kernel) (by decide +kernel), rfl, _, rfl, rfl⟩, trivial⟩
theorem lk_RX1_69 : mw_okL RX1 69 (1, 16, 2, 0, 1) ∧ mw_okX RX1 69 (1, 16, 2, 0, 1) := ⟨⟨_, mI_16_e, by decide, by decide, by decide, by decide, mI_16_k, rfl, mw_in 747 (by decide +kernel) (by decide +kernel), rfl, _, rfl, rfl⟩, trivial⟩
theorem lk_RX1_73 : mw_okL RX1 73 (0, 3, 12, 2, 0) ∧ mw_okX RX1 73 (0, 3, 12, 2, 0) := ⟨⟨_, rfl, by decide, rfl, mw_in 162 (by decide +kernel) (by decide +kernel), rfl⟩, trivial⟩
theorem lk_RX1_76 : mw_okL RX1 76 (1, 19, 2, 1, 1) ∧ mw_okX RX1 76 (1, 19, 2, 1, 1) := ⟨⟨_, mI_19_e, by decide, by decide, by decide, by decide, mI_19_k, rfl, mw_in 756 (by decide +kernel) (by decide +kernel), rfl, _, rfl, rfl⟩, trivial⟩
theorem lk_RX1_80 : mw_okL RX1 80 (1, 15, 1, 0, 1) ∧ mw_okX RX1 80 (1, 15, 1, 0, 1) := ⟨⟨_, mI_15_e, by decide, by decide, by decide, by decide, mI_15_k, rfl, mw_in 757 (by decide +kernel) (by decide +kernel), rfl, _, rfl, rfl⟩, trivial⟩
theorem lk_RX1_84 : mw_okL RX1 84 (0, 3, 2, 0, 0) ∧ mw_okX RX1 84 (0, 3, 2, 0, 0) := ⟨⟨_, rfl, by decide, rfl, mw_in 130 (by decide +kernel) (by decide +kernel), rfl⟩, trivial⟩
theorem lk_RX1_87 : mw_okL RX1 87 (6, 0, 0, 0, 0) ∧ mw_okX RX1 87 (6, 0, 0, 0, 0) := ⟨mw_in 761 (by decide +kernel) (by decide +kernel), trivial⟩
theorem lk_RX1_93 : mw_okL RX1 93 (0, 3, 11, 2, 0) ∧ mw_okX RX1 93 (0, 3, 11, 2, 0) := ⟨⟨_, rfl, by decide, rfl, mw_in 158 (by decide +kernel) (by decide +kernel), rfl⟩, trivial⟩
theorem lk_RX1_96 : mw_okL RX1 96 (1, 18, 2, 0, 1) ∧ mw_okX RX1 96 (1, 18, 2, 0, 1) := ⟨⟨_, mI_18_e, by decide, by decide, by decide, by decide, mI_18_k, rfl, mw_in 695 (by decide +kernel) (by decide +kernel), rfl, _, rfl, rfl⟩, trivial⟩
theorem lk_RX1_100 : mw_okL RX1 100 (1, 51, 2, 1, 3) ∧ mw_okX RX1 100 (1, 51, 2, 1, 3) := ⟨⟨_, mI_51_e, by decide, by decide, by decide, by decide, mI_51_k, rfl, mw_in 713 (by decide +kernel) (by decide +kernel), rfl, _, rfl, rfl⟩, trivial⟩
theorem lk_RX1_103 : mw_okL RX1 103 (1, 17, 4, 1, 1) ∧ mw_okX RX1 103 (1, 17, 4, 1, 1) := ⟨⟨_, mI_17_e, by decide, by decide, by decide, by decide, mI_17_k, rfl, mw_in 751 (by decide +kernel) (by decide +kernel), rfl, _, rfl, rfl⟩, trivial⟩
theorem lk_RX1_107 : mw_okL RX1 107 (0, 3, 13, 2, 0) ∧ mw_okX RX1 107 (0, 3, 13, 2, 0) := ⟨⟨_, rfl, by decide, rfl, mw_in 166 (by decide +kernel) (by decide +kernel), rfl⟩, trivial⟩
theorem lk_RX1_111 : mw_okL RX1 111 (1, 56, 2, 0, 3) ∧ mw_okX RX1 111 (1, 56, 2, 0, 3) := ⟨⟨_, mI_56_e, by decide, by decide, by decide, by decide, mI_56_k, rfl, mw_in 755 (by decide +kernel) (by decide +kernel), rfl, _, rfl, rfl⟩, trivial⟩
theorem lk_RX1_115 : mw_okL RX1 115 (1, 20, 1, 1, 1) ∧ mw_okX RX1 115 (1, 20, 1, 1, 1) := ⟨⟨_, mI_20_e, by decide, by decide, by decide, by decide, mI_20_k, rfl, mw_in 699 (by decide +kernel) (by decide +kernel), rfl, _, rfl, rfl⟩, trivial⟩
theorem lk_RX1_119 : mw_okL RX1 119 (1, 21, 1, 0, 1) ∧ mw_okX RX1 119 (1, 21, 1, 0, 1) := ⟨⟨_, mI_21_e, by decide, by decide, by decide, by decide, mI_21_k, rfl, mw_in 704 (by decide +kernel) (by decide +kernel), rfl, _, rfl, rfl⟩, trivial⟩
theorem lk_RX1_122 : mw_okL RX1 122 (1, 24, 0, 1, 1) ∧ mw_okX RX1 122 (1, 24, 0, 1, 1) := ⟨⟨_, mI_24_e, by decide, by decide, by decide, by decide, mI_24_k, rfl, mw_in 718 (by decide +kernel) (by decide +kernel), rfl, _, rfl, rfl⟩, trivial⟩
theorem lk_RX1_126 : mw_okL RX1 126 (1, 25, 1, 1, 1) ∧ mw_okX RX1 126 (1, 25, 1, 1, 1) := ⟨⟨_, mI_25_e, by decide, by decide, by decide, by decide, mI_25_k, rfl, mw_in 722 (by decide +kernel) (by decide +kernel), rfl, _, rfl, rfl⟩, trivial⟩
theorem lk_RX1_130 : mw_okL RX1 130 (2, 217, 2, 0, 0) ∧ mw_okX RX1 130 (2, 217, 2, 0, 0) := ⟨⟨_, mI_217_e, by decide, by decide, by decide, by decide, mI_217_k, rfl, mw_in 703 (by decide +kernel) (by decide +kernel), rfl⟩, trivial⟩
theorem lk_RX1_136 : mw_okL RX1 136 (20, 0, 0, 0, 1000000) ∧ mw_okX RX1 136 (20, 0, 0, 0, 1000000) := ⟨mw_in 708 (by decide +kernel) (by decide +kernel), trivial⟩
theorem lk_RX1_137 : mw_okL RX1 137 (1, 22, 1, 1, 1) ∧ mw_okX RX1 137 (1, 22, 1, 1, 1) := ⟨⟨_, mI_22_e, by decide, by decide, by decide, by decide, mI_22_k, rfl, mw_in 709 (by decide +kernel) (by decide +kernel), rfl, _, rfl, rfl⟩, trivial⟩
theorem lk_RX1_140 : mw_okL RX1 140 (1, 23, 1, 1, 1) ∧ mw_okX RX1 140 (1, 23, 1, 1, 1) := ⟨⟨_, mI_23_e, by decide, by decide, by decide, by decide, mI_23_k, rfl, mw_in 714 (by decide +kernel) (by decide +kernel), rfl, _, rfl, rfl⟩, trivial⟩
theorem lk_RX1_143 : mw_okL RX1 143 (7, 0, 0, 0, 0) ∧ mw_okX RX1 143 (7, 0, 0, 0, 0) := ⟨mw_in 726 (by decide +kernel) (by decide +kernel), trivial⟩
theorem lk_RX1_ok : ∀ q ∈ lk_RX1, mw_okL RX1 q.1 q.2 ∧ mw_okX RX1 q.1 q.2 := List.forall_mem_cons.mpr ⟨lk_RX1_3, List.forall_mem_cons.mpr ⟨lk_RX1_9, List.forall_mem_cons.mpr ⟨lk_RX1_15, List.forall_mem_cons.mpr ⟨lk_RX1_18, List.forall_mem_cons.mpr ⟨lk_RX1_22, List.forall_mem_cons.mpr ⟨lk_RX1_25, List.forall_mem_cons.mpr ⟨lk_RX1_28, List.forall_mem_cons.mpr ⟨lk_RX1_31, List.forall_mem_cons.mpr ⟨lk_RX1_34, List.forall_mem_cons.mpr ⟨lk_RX1_37, List.forall_mem_cons.mpr ⟨lk_RX1_40, List.forall_mem_cons.mpr ⟨lk_RX1_42, List.forall_mem_cons.mpr ⟨lk_RX1_45, List.forall_mem_cons.mpr ⟨lk_RX1_48, List.forall_mem_cons.mpr ⟨lk_RX1_51, List.forall_mem_cons.mpr ⟨lk_RX1_54, List.forall_mem_cons.mpr ⟨lk_RX1_57, List.forall_mem_cons.mpr ⟨lk_RX1_62, List.forall_mem_cons.mpr ⟨lk_RX1_65, List.forall_mem_cons.mpr ⟨lk_RX1_69, List.forall_mem_cons.mpr ⟨lk_RX1_73, List.forall_mem_cons.mpr ⟨lk_RX1_76, List.forall_mem_cons.mpr ⟨lk_RX1_80, List.forall_mem_cons.mpr ⟨lk_RX1_84, List.forall_mem_cons.mpr ⟨lk_RX1_87, List.forall_mem_cons.mpr ⟨lk_RX1_93, List.forall_mem_cons.mpr ⟨lk_RX1_96, List.forall_mem_cons.mpr ⟨lk_RX1_100, List.forall_mem_cons.mpr ⟨lk_RX1_103, List.forall_mem_cons.mpr ⟨lk_RX1_107, List.forall_mem_cons.mpr ⟨lk_RX1_111, List.forall_mem_cons.mpr ⟨lk_RX1_115, List.forall_mem_cons.mpr ⟨lk_RX1_119, List.forall_mem_cons.mpr ⟨lk_RX1_122, List.forall_mem_cons.mpr ⟨lk_RX1_126, List.forall_mem_cons.mpr ⟨lk_RX1_130, List.forall_mem_cons.mpr ⟨lk_RX1_136, List.forall_mem_cons.mpr ⟨lk_RX1_137, List.forall_mem_cons.mpr ⟨lk_RX1_140, List.forall_mem_cons.mpr ⟨lk_RX1_143, List.forall_mem_nil _⟩⟩⟩⟩⟩⟩⟩⟩⟩⟩⟩⟩⟩⟩⟩⟩⟩⟩⟩⟩⟩⟩⟩⟩⟩⟩⟩⟩⟩⟩⟩⟩⟩⟩⟩⟩⟩⟩⟩⟩
theorem lk_RX2_3 : mw_okL RX2 3 (9, 0, 0, 0, 0) ∧ mw_okX RX2 3 (9, 0, 0, 0, 0) := ⟨mw_in 543 (by decide +kernel) (by decide +kernel), trivial⟩
theorem lk_RX2_9 : mw_okL RX2 9 (0, 2, 0, 0, 0) ∧ mw_okX RX2 9 (0, 2, 0, 0, 0) := ⟨⟨_, rfl, by decide, rfl, mw_in 544 (by decide +kernel) (by decide +kernel), rfl⟩, trivial⟩
theorem lk_RX2_15 : mw_okL RX2 15 (0, 2, 1, 0, 0) ∧ mw_okX RX2 15 (0, 2, 1, 0, 0) := ⟨⟨_, rfl, by decide, rfl, mw_in 546 (by decide +kernel) (by decide +kernel), rfl⟩, trivial⟩
theorem lk_RX2_18 : mw_okL RX2 18 (0, 2, 2, 0, 0) ∧ mw_okX RX2 18 (0, 2, 2, 0, 0) := ⟨⟨_, rfl, by decide, rfl, mw_in 549 (by decide +kernel) (by decide +kernel), rfl⟩, trivial⟩
theorem lk_RX2_21 : mw_okL RX2 21 (33, 3, 6, 0, 0) ∧ mw_okX RX2 21 (33, 3, 6, 0, 0) := ⟨trivial, trivial⟩
theorem lk_RX2_28 : mw_okL RX2 28 (33, 2, 6, 0, 0) ∧ mw_okX RX2 28 (33, 2, 6, 0, 0) := ⟨trivial, trivial⟩
theorem lk_RX2_33 : mw_okL RX2 33 (33, 1, 6, 0, 0) ∧ mw_okX RX2 33 (33, 1, 6, 0, 0) := ⟨trivial, trivial⟩
theorem lk_RX2_ok : ∀ q ∈ lk_RX2, mw_okL RX2 q.1 q.2 ∧ mw_okX RX2 q.1 q.2 := List.forall_mem_cons.mpr ⟨lk_RX2_3, List.forall_mem_cons.mpr ⟨lk_RX2_9, List.forall_mem_cons.mpr ⟨lk_RX2_15, List.forall_mem_cons.mpr ⟨lk_RX2_18, List.forall_mem_cons.mpr ⟨lk_RX2_21, List.forall_mem_cons.mpr ⟨lk_RX2_28, List.forall_mem_cons.mpr ⟨lk_RX2_33, List.forall_mem_nil _⟩⟩⟩⟩⟩⟩⟩
theorem lk_RX3_3 : mw_okL RX3 3 (9, 0, 0, 0, 0) ∧ mw_okX RX3 3 (9, 0, 0, 0, 0) := ⟨mw_in 108 (by decide +kernel) (by decide +kernel), trivial⟩
theorem lk_RX3_9 : mw_okL RX3 9 (0, 3, 4, 0, 0) ∧ mw_okX RX3 9 (0, 3, 4, 0, 0) := ⟨⟨_, rfl, by decide, rfl, mw_in 136 (by decide +kernel) (by decide +kernel), rfl⟩, trivial⟩
theorem lk_RX3_15 : mw_okL RX3 15 (0, 3, 5, 0, 0) ∧ mw_okX RX3 15 (0, 3, 5, 0, 0) := ⟨⟨_, rfl, by decide, rfl, mw_in 141 (by decide +kernel) (by decide +kernel), rfl⟩, trivial⟩
theorem lk_RX3_18 : mw_okL RX3 18 (0, 3, 6, 0, 0) ∧ mw_okX RX3 18 (0, 3, 6, 0, 0) := ⟨⟨_, rfl, by decide, rfl, mw_in 146 (by decide +kernel) (by decide +kernel), rfl⟩, trivial⟩
theorem lk_RX3_21 : mw_okL RX3 21 (0, 3, 7, 0, 0) ∧ mw_okX RX3 21 (0, 3, 7, 0, 0) := ⟨⟨_, rfl, by decide, rfl, mw_in 148 (by decide +kernel) (by decide +kernel), rfl⟩, trivial⟩
theorem lk_RX3_24 : mw_okL RX3 24 (0, 3, 8, 2, 0) ∧ mw_okX RX3 24 (0, 3, 8, 2, 0) := ⟨⟨_, rfl, by decide, rfl, mw_in 152 (by decide +kernel) (by decide +kernel), rfl⟩, trivial⟩
theorem lk_RX3_28 : mw_okL RX3 28 (0, 3, 9, 2, 0) ∧ mw_okX RX3 28 (0, 3, 9, 2, 0) := ⟨⟨_, rfl, by decide, rfl, mw_in 154 (by decide +kernel) (by decide +kernel), rfl⟩, trivial⟩
theorem lk_RX3_31 : mw_okL RX3 31 (0, 3, 10, 2, 0) ∧ mw_okX RX3 31 (0, 3, 10, 2, 0) := ⟨⟨_, rfl, by decide, rfl, mw_in 155 (by decide +kernel) (by decide +kernel), rfl⟩, trivial⟩
theorem lk_RX3_34 : mw_okL RX3 34 (0, 3, 11, 2, 0) ∧ mw_okX RX3 34 (0, 3, 11, 2, 0) := ⟨⟨_, rfl, by decide, rfl, mw_in 156 (by decide +kernel) (by decide +kernel), rfl⟩, trivial⟩
theorem lk_RX3_37 : mw_okL RX3 37 (0, 3, 12, 2, 0) ∧ mw_okX RX3 37 (0, 3, 12, 2, 0) := ⟨⟨_, rfl, by decide, rfl, mw_in 161 (by decide +kernel) (by decide +kernel), rfl⟩, trivial⟩
theorem lk_RX3_40 : mw_okL RX3 40 (0, 3, 13, 2, 0) ∧ mw_okX RX3 40 (0, 3, 13, 2, 0) := ⟨⟨_, rfl, by decide, rfl, mw_in 164 (by decide +kernel) (by decide +kernel), rfl⟩, trivial⟩
theorem lk_RX3_44 : mw_okL RX3 44 (32, 2, 0, 0, 0) ∧ mw_okX RX3 44 (32, 2, 0, 0, 0) := ⟨⟨_, rfl, mw_in 109 (by decide +kernel) (by decide +kernel), mw_in 539 (by decide +kernel) (by decide +kernel), mw_in 88 (by decide +kernel) (by decide +kernel)⟩, trivial⟩
theorem lk_RX3_46 : mw_okL RX3 46 (0, 3, 14, 2, 0) ∧ mw_okX RX3 46 (0, 3, 14, 2, 0) := ⟨⟨_, rfl, by decide, rfl, mw_in 168 (by decide +kernel) (by decide +kernel), rfl⟩, trivial⟩
theorem lk_RX3_50 : mw_okL RX3 50 (0, 3, 15, 2, 0) ∧ mw_okX RX3 50 (0, 3, 15, 2, 0) := ⟨⟨_, rfl, by decide, rfl, mw_in 169 (by decide +kernel) (by decide +kernel), rfl⟩, trivial⟩
theorem lk_RX3_53 : mw_okL RX3 53 (0, 3, 16, 2, 0) ∧ mw_okX RX3 53 (0, 3, 16, 2, 0) := ⟨⟨_, rfl, by decide, rfl, mw_in 172 (by decide +kernel) (by decide +kernel), rfl⟩, trivial⟩
theorem lk_RX3_56 : mw_okL RX3 56 (0, 3, 17, 2, 0) ∧ mw_okX RX3 56 (0, 3, 17, 2, 0) := ⟨⟨_, rfl, by decide, rfl, mw_in 174 (by decide +kernel) (by decide +kernel), rfl⟩, trivial⟩
theorem lk_RX3_59 : mw_okL RX3 59 (0, 3, 18, 2, 0) ∧ mw_okX RX3 59 (0, 3, 18, 2, 0) := ⟨⟨_, rfl, by decide, rfl, mw_in 175 (by decide +kernel) (by decide +kernel), rfl⟩, trivial⟩
theorem lk_RX3_62 : mw_okL RX3 62 (0, 3, 19, 2, 0) ∧ mw_okX RX3 62 (0, 3, 19, 2, 0) := ⟨⟨_, rfl, by decide, rfl, mw_in 176 (by decide +kernel) (by decide +kernel), rfl⟩, trivial⟩
theorem lk_RX3_65 : mw_okL RX3 65 (1, 30, 2, 0, 3) ∧ mw_okX RX3 65 (1, 30, 2, 0, 3) := ⟨⟨_, mI_30_e, by decide, by decide, by decide, by decide, mI_30_k, rfl, mw_in 111 (by decide +kernel) (by decide +kernel), rfl, _, rfl, rfl⟩, trivial⟩
theorem lk_RX3_69 : mw_okL RX3 69 (0, 3, 0, 0, 0) ∧ mw_okX RX3 69 (0, 3, 0, 0, 0) := ⟨⟨_, rfl, by decide, rfl, mw_in 125 (by decide +kernel) (by decide +kernel), rfl⟩, trivial⟩
theorem lk_RX3_72 : mw_okL RX3 72 (0, 3, 1, 0, 0) ∧ mw_okX RX3 72 (0, 3, 1, 0, 0) := ⟨⟨_, rfl, by decide, rfl, mw_in 127 (by decide +kernel) (by decide +kernel), rfl⟩, trivial⟩
theorem lk_RX3_75 : mw_okL RX3 75 (0, 3, 2, 0, 0) ∧ mw_okX RX3 75 (0, 3, 2, 0, 0) := ⟨⟨_, rfl, by decide, rfl, mw_in 129 (by decide +kernel) (by decide +kernel), rfl⟩, trivial⟩
theorem lk_RX3_78 : mw_okL RX3 78 (0, 3, 3, 0, 0) ∧ mw_okX RX3 78 (0, 3, 3, 0, 0) := ⟨⟨_, rfl, by decide, rfl, mw_in 133 (by decide +kernel) (by decide +kernel), rfl⟩, trivial⟩
theorem lk_RX3_81 : mw_okL RX3 81 (2, 217, 2, 0, 0) ∧ mw_okX RX3 81 (2, 217, 2, 0, 0) := ⟨⟨_, mI_217_e, by decide, by decide, by decide, by decide, mI_217_k, rfl, mw_in 115 (by decide +kernel) (by decide +kernel), rfl⟩, trivial⟩
theorem lk_RX3_87 : mw_okL RX3 87 (1, 31, 3, 0, 3) ∧ mw_okX RX3 87 (1, 31, 3, 0, 3) := ⟨⟨_, mI_31_e, by decide, by decide, by decide, by decide, mI_31_k, rfl, mw_in 118 (by decide +kernel) (by decide +kernel), rfl, _, rfl, rfl⟩, trivial⟩
theorem lk_RX3_91 : mw_okL RX3 91 (5, 0, 0, 0, 0) ∧ mw_okX RX3 91 (5, 0, 0, 0, 0) := ⟨mw_in 122 (by decide +kernel) (by decide +kernel), trivial⟩
theorem lk_RX3_97 : mw_okL RX3 97 (8, 0, 0, 0, 0) ∧ mw_okX RX3 97 (8, 0, 0, 0, 0) := ⟨mw_in 501 (by decide +kernel) (by decide +kernel), trivial⟩
theorem lk_RX3_103 : mw_okL RX3 103 (3, 26, 3, 0, 0) ∧ mw_okX RX3 103 (3, 26, 3, 0, 0) := ⟨⟨_, mI_26_e, by decide, by decide, by decide, by decide, mI_26_k, rfl, mw_in 540 (by decide +kernel) (by decide +kernel), rfl⟩, trivial⟩
theorem lk_RX3_105 : mw_okL RX3 105 (1, 34, 1, 2, 3) ∧ mw_okX RX3 105 (1, 34, 1, 2, 3) := ⟨⟨_, mI_34_e, by decide, by decide, by decide, by decide, mI_34_k, rfl, mw_in 564 (by decide +kernel) (by decide +kernel), rfl, _, rfl, rfl⟩, trivial⟩
theorem lk_RX3_109 : mw_okL RX3 109 (1, 33, 1, 1, 3) ∧ mw_okX RX3 109 (1, 33, 1, 1, 3) := ⟨⟨_, mI_33_e, by decide, by decide, by decide, by decide, mI_33_k, rfl, mw_in 568 (by decide +kernel) (by decide +kernel), rfl, _, rfl, rfl⟩, trivial⟩
theorem lk_RX3_113 : mw_okL RX3 113 (1, 38, 1, 1, 3) ∧ mw_okX RX3 113 (1, 38, 1, 1, 3) := ⟨⟨_, mI_38_e, by decide, by decide, by decide, by decide, mI_38_k, rfl, mw_in 679 (by decide +kernel) (by decide +kernel), rfl, _, rfl, rfl⟩, trivial⟩
theorem lk_RX3_116 : mw_okL RX3 116 (1, 46, 0, 1, 3) ∧ mw_okX RX3 116 (1, 46, 0, 1, 3) := ⟨⟨_, mI_46_e, by decide, by decide, by decide, by decide, mI_46_k, rfl, mw_in 582 (by decide +kernel) (by decide +kernel), rfl, _, rfl, rfl⟩, trivial⟩
theorem lk_RX3_120 : mw_okL RX3 120 (1, 47, 1, 1, 3) ∧ mw_okX RX3 120 (1, 47, 1, 1, 3) := ⟨⟨_, mI_47_e, by decide, by decide, by decide, by decide, mI_47_k, rfl, mw_in 735 (by decide +kernel) (by decide +kernel), rfl, _, rfl, rfl⟩, trivial⟩
theorem lk_RX3_123 : mw_okL RX3 123 (1, 50, 1, 1, 3) ∧ mw_okX RX3 123 (1, 50, 1, 1, 3) := ⟨⟨_, mI_50_e, by decide, by decide, by decide, by decide, mI_50_k, rfl, mw_in 736 (by decide +kernel) (by decide +kernel), rfl, _, rfl, rfl⟩, trivial⟩
theorem lk_RX3_126 : mw_okL RX3 126 (1, 52, 1, 1, 3) ∧ mw_okX RX3 126 (1, 52, 1, 1, 3) := ⟨⟨_, mI_52_e, by decide, by decide, by decide, by decide, mI_52_k, rfl, mw_in 647 (by decide +kernel) (by decide +kernel), rfl, _, rfl, rfl⟩, trivial⟩
theorem lk_RX3_129 : mw_okL RX3 129 (1, 53, 1, 1, 3) ∧ mw_okX RX3 129 (1, 53, 1, 1, 3) := ⟨⟨_, mI_53_e, by decide, by decide, by decide, by decide, mI_53_k, rfl, mw_in 651 (by decide +kernel) (by decide +kernel), rfl, _, rfl, rfl⟩, trivial⟩
theorem lk_RX3_132 : mw_okL RX3 132 (1, 51, 2, 1, 3) ∧ mw_okX RX3 132 (1, 51, 2, 1, 3) := ⟨⟨_, mI_51_e, by decide, by decide, by decide, by decide, mI_51_k, rfl, mw_in 659 (by decide +kernel) (by decide +kernel), rfl, _, rfl, rfl⟩, trivial⟩
theorem lk_RX3_136 : mw_okL RX3 136 (6, 0, 0, 0, 0) ∧ mw_okX RX3 136 (6, 0, 0, 0, 0) := ⟨mw_in 777 (by decide +kernel) (by decide +kernel), trivial⟩
theorem lk_RX3_139 : mw_okL RX3 139 (1, 57, 2, 1, 3) ∧ mw_okX RX3 139 (1, 57, 2, 1, 3) := ⟨⟨_, mI_57_e, by decide, by decide, by decide, by decide, mI_57_k, rfl, mw_in 773 (by decide +kernel) (by decide +kernel), rfl, _, rfl, rfl⟩, trivial⟩
theorem lk_RX3_142 : mw_okL RX3 142 (1, 58, 2, 1, 3) ∧ mw_okX RX3 142 (1, 58, 2, 1, 3) := ⟨⟨_, mI_58_e, by decide, by decide, by decide, by decide, mI_58_k, rfl, mw_in 894 (by decide +kernel) (by decide +kernel), rfl, _, rfl, rfl⟩, trivial⟩
theorem lk_RX3_ok : ∀ q ∈ lk_RX3, mw_okL RX3 q.1 q.2 ∧ mw_okX RX3 q.1 q.2 := List.forall_mem_cons.mpr ⟨lk_RX3_3, List.forall_mem_cons.mpr ⟨lk_RX3_9, List.forall_mem_cons.mpr ⟨lk_RX3_15, List.forall_mem_cons.mpr ⟨lk_RX3_18, List.forall_mem_cons.mpr ⟨lk_RX3_21, List.forall_mem_cons.mpr ⟨lk_RX3_24, List.forall_mem_cons.mpr ⟨lk_RX3_28, List.forall_mem_cons.mpr ⟨lk_RX3_31, List.forall_mem_cons.mpr ⟨lk_RX3_34, List.forall_mem_cons.mpr ⟨lk_RX3_37, List.forall_mem_cons.mpr ⟨lk_RX3_40, List.forall_mem_cons.mpr ⟨lk_RX3_44, List.forall_mem_cons.mpr ⟨lk_RX3_46, List.forall_mem_cons.mpr ⟨lk_RX3_50, List.forall_mem_cons.mpr ⟨lk_RX3_53, List.forall_mem_cons.mpr ⟨lk_RX3_56, List.forall_mem_cons.mpr ⟨lk_RX3_59, List.forall_mem_cons.mpr ⟨lk_RX3_62, List.forall_mem_cons.mpr ⟨lk_RX3_65, List.forall_mem_cons.mpr ⟨lk_RX3_69, List.forall_mem_cons.mpr ⟨lk_RX3_72, List.forall_mem_cons.mpr ⟨lk_RX3_75, List.forall_mem_cons.mpr ⟨lk_RX3_78, List.forall_mem_cons.mpr ⟨lk_RX3_81, List.forall_mem_cons.mpr ⟨lk_RX3_87, List.forall_mem_cons.mpr ⟨lk_RX3_91, List.forall_mem_cons.mpr ⟨lk_RX3_97, List.forall_mem_cons.mpr ⟨lk_RX3_103, List.forall_mem_cons.mpr ⟨lk_RX3_105, List.forall_mem_cons.mpr ⟨lk_RX3_109, List.forall_mem_cons.mpr ⟨lk_RX3_113, List.forall_mem_cons.mpr ⟨lk_RX3_116, List.forall_mem_cons.mpr ⟨lk_RX3_120, List.forall_mem_cons.mpr ⟨lk_RX3_123, List.forall_mem_cons.mpr ⟨lk_RX3_126, List.forall_mem_cons.mpr ⟨lk_RX3_129, List.forall_mem_cons.mpr ⟨lk_RX3_132, List.forall_mem_cons.mpr ⟨lk_RX3_136, List.forall_mem_cons.mpr ⟨lk_RX3_139, List.forall_mem_cons.mpr ⟨lk_RX3_142, List.forall_mem_nil _⟩⟩⟩⟩⟩⟩⟩⟩⟩⟩⟩⟩⟩⟩⟩⟩⟩⟩⟩⟩⟩⟩⟩⟩⟩⟩⟩⟩⟩⟩⟩⟩⟩⟩⟩⟩⟩⟩⟩⟩
theorem lk_RX4_3 : mw_okL RX4 3 (9, 0, 0, 0, 0) ∧ mw_okX RX4 3 (9, 0, 0, 0, 0) := ⟨mw_in 327 (by decide +kernel) (by decide +kernel), trivial⟩
theorem lk_RX4_9 : mw_okL RX4 9 (0, 4, 0, 2, 0) ∧ mw_okX RX4 9 (0, 4, 0, 2, 0) := ⟨⟨_, rfl, by decide, rfl, mw_in 328 (by decide +kernel) (by decide +kernel), rfl⟩, trivial⟩
theorem lk_RX4_15 : mw_okL RX4 15 (0, 4, 1, 1, 0) ∧ mw_okX RX4 15 (0, 4, 1, 1, 0) := ⟨⟨_, rfl, by decide, rfl, mw_in 330 (by decide +kernel) (by decide +kernel), rfl⟩, trivial⟩
theorem lk_RX4_19 : mw_okL RX4 19 (0, 4, 2, 0, 0) ∧ mw_okX RX4 19 (0, 4, 2, 0, 0) := ⟨⟨_, rfl, by decide, rfl, mw_in 332 (by decide +kernel) (by decide +kernel), rfl⟩, trivial⟩
theorem lk_RX4_23 : mw_okL RX4 23 (0, 4, 3, 0, 0) ∧ mw_okX RX4 23 (0, 4, 3, 0, 0) := ⟨⟨_, rfl, by decide, rfl, mw_in 334 (by decide +kernel) (by decide +kernel), rfl⟩, trivial⟩
theorem lk_RX4_26 : mw_okL RX4 26 (0, 4, 4, 2, 0) ∧ mw_okX RX4 26 (0, 4, 4, 2, 0) := ⟨⟨_, rfl, by decide, rfl, mw_in 336 (by decide +kernel) (by decide +kernel), rfl⟩, trivial⟩
theorem lk_RX4_30 : mw_okL RX4 30 (1, 61, 0, 0, 4) ∧ mw_okX RX4 30 (1, 61, 0, 0, 4) := ⟨⟨_, mI_61_e, by decide, by decide, by decide, by decide, mI_61_k, rfl, mw_in 958 (by decide +kernel) (by decide +kernel), rfl, _, rfl, rfl⟩, trivial⟩
theorem lk_RX4_33 : mw_okL RX4 33 (2, 217, 2, 0, 0) ∧ mw_okX RX4 33 (2, 217, 2, 0, 0) := ⟨⟨_, mI_217_e, by decide, by decide, by decide, by decide, mI_217_k, rfl, mw_in 967 (by decide +kernel) (by decide +kernel), rfl⟩, trivial⟩
theorem lk_RX4_39 : mw_okL RX4 39 (1, 64, 0, 1, 4) ∧ mw_okX RX4 39 (1, 64, 0, 1, 4) := ⟨⟨_, mI_64_e, by decide, by decide, by decide, by decide, mI_64_k, rfl, mw_in 401 (by decide +kernel) (by decide +kernel), rfl, _, rfl, rfl⟩, trivial⟩
theorem lk_RX4_43 : mw_okL RX4 43 (1, 65, 1, 1, 4) ∧ mw_okX RX4 43 (1, 65, 1, 1, 4) := ⟨⟨_, mI_65_e, by decide, by decide, by decide, by decide, mI_65_k, rfl, mw_in 405 (by decide +kernel) (by decide +kernel), rfl, _, rfl, rfl⟩, trivial⟩
theorem lk_RX4_47 : mw_okL RX4 47 (1, 68, 1, 1, 4) ∧ mw_okX RX4 47 (1, 68, 1, 1, 4) := ⟨⟨_, mI_68_e, by decide, by decide, by decide, by decide, mI_68_k, rfl, mw_in 610 (by decide +kernel) (by decide +kernel), rfl, _, rfl, rfl⟩, trivial⟩
theorem lk_RX4_50 : mw_okL RX4 50 (20, 0, 0, 0, (-2147483648)) ∧ mw_okX RX4 50 (20, 0, 0, 0, (-2147483648)) := ⟨mw_in 920 (by decide +kernel) (by decide +kernel), trivial⟩
theorem lk_RX4_51 : mw_okL RX4 51 (1, 70, 1, 1, 4) ∧ mw_okX RX4 51 (1, 70, 1, 1, 4) := ⟨⟨_, mI_70_e, by decide, by decide, by decide, by decide, mI_70_k, rfl, mw_in 606 (by decide +kernel) (by decide +kernel), rfl, _, rfl, rfl⟩, trivial⟩
theorem lk_RX4_ok : ∀ q ∈ lk_RX4, mw_okL RX4 q.1 q.2 ∧ mw_okX RX4 q.1 q.2 := List.forall_mem_cons.mpr ⟨lk_RX4_3, List.forall_mem_cons.mpr ⟨lk_RX4_9, List.forall_mem_cons.mpr ⟨lk_RX4_15, List.forall_mem_cons.mpr ⟨lk_RX4_19, List.forall_mem_cons.mpr ⟨lk_RX4_23, List.forall_mem_cons.mpr ⟨lk_RX4_26, List.forall_mem_cons.mpr ⟨lk_RX4_30, List.forall_mem_cons.mpr ⟨lk_RX4_33, List.forall_mem_cons.mpr ⟨lk_RX4_39, List.forall_mem_cons.mpr ⟨lk_RX4_43, List.forall_mem_cons.mpr ⟨lk_RX4_47, List.forall_mem_cons.mpr ⟨lk_RX4_50, List.forall_mem_cons.mpr ⟨lk_RX4_51, List.forall_mem_nil _⟩⟩⟩⟩⟩⟩⟩⟩⟩⟩⟩⟩⟩
theorem lk_RX5_3 : mw_okL RX5 3 (9, 0, 0, 0, 0) ∧ mw_okX RX5 3 (9, 0, 0, 0, 0) := ⟨mw_in 227 (by decide +kernel) (by decide +kernel), trivial⟩
theorem lk_RX5_9 : mw_okL RX5 9 (0, 5, 0, 2, 0) ∧ mw_okX RX5 9 (0, 5, 0, 2, 0) := ⟨⟨_, rfl, by decide, rfl, mw_in 228 (by decide +kernel) (by decide +kernel), rfl⟩, trivial⟩
theorem lk_RX5_15 : mw_okL RX5 15 (0, 5, 1, 0, 0) ∧ mw_okX RX5 15 (0, 5, 1, 0, 0) := ⟨⟨_, rfl, by decide, rfl, mw_in 229 (by decide +kernel) (by decide +kernel), rfl⟩, trivial⟩
theorem lk_RX5_19 : mw_okL RX5 19 (0, 5, 2, 0, 0) ∧ mw_okX RX5 19 (0, 5, 2, 0, 0) := ⟨⟨_, rfl, by decide, rfl, mw_in 230 (by decide +kernel) (by decide +kernel), rfl⟩, trivial⟩
theorem lk_RX5_22 : mw_okL RX5 22 (0, 5, 3, 0, 0) ∧ mw_okX RX5 22 (0, 5, 3, 0, 0) := ⟨⟨_, rfl, by decide, rfl, mw_in 231 (by decide +kernel) (by decide +kernel), rfl⟩, trivial⟩
theorem lk_RX5_25 : mw_okL RX5 25 (0, 5, 4, 2, 0) ∧ mw_okX RX5 25 (0, 5, 4, 2, 0) := ⟨⟨_, rfl, by decide, rfl, mw_in 232 (by decide +kernel) (by decide +kernel), rfl⟩, trivial⟩
theorem lk_RX5_28 : mw_okL RX5 28 (7, 0, 0, 0, 0) ∧ mw_okX RX5 28 (7, 0, 0, 0, 0) := ⟨mw_in 413 (by decide +kernel) (by decide +kernel), trivial⟩
theorem lk_RX5_34 : mw_okL RX5 34 (1, 80, 0, 1, 5) ∧ mw_okX RX5 34 (1, 80, 0, 1, 5) := ⟨⟨_, mI_80_e, by decide, by decide, by decide, by decide, mI_80_k, rfl, mw_in 420 (by decide +kernel) (by decide +kernel), rfl, _, rfl, rfl⟩, trivial⟩
theorem lk_RX5_38 : mw_okL RX5 38 (1, 84, 2, 1, 5) ∧ mw_okX RX5 38 (1, 84, 2, 1, 5) := ⟨⟨_, mI_84_e, by decide, by decide, by decide, by decide, mI_84_k, rfl, mw_in 508 (by decide +kernel) (by decide +kernel), rfl, _, rfl, rfl⟩, trivial⟩
theorem lk_RX5_42 : mw_okL RX5 42 (22, 1, 0, 0, 0) ∧ mw_okX RX5 42 (22, 1, 0, 0, 0) := ⟨⟨rfl, by decide, by decide, rfl⟩, trivial⟩
theorem lk_RX5_44 : mw_okL RX5 44 (22, 2, 0, 0, 0) ∧ mw_okX RX5 44 (22, 2, 0, 0, 0) := ⟨⟨rfl, by decide, by decide, rfl⟩, trivial⟩
theorem lk_RX5_46 : mw_okL RX5 46 (22, 3, 0, 0, 0) ∧ mw_okX RX5 46 (22, 3, 0, 0, 0) := ⟨⟨rfl, by decide, by decide, rfl⟩, trivial⟩
theorem lk_RX5_48 : mw_okL RX5 48 (22, 4, 0, 0, 0) ∧ mw_okX RX5 48 (22, 4, 0, 0, 0) := ⟨⟨rfl, by decide, by decide, rfl⟩, trivial⟩
theorem lk_RX5_50 : mw_okL RX5 50 (22, 5, 0, 0, 0) ∧ mw_okX RX5 50 (22, 5, 0, 0, 0) := ⟨⟨rfl, by decide, by decide, rfl⟩, trivial⟩
theorem lk_RX5_52 : mw_okL RX5 52 (22, 6, 0, 0, 0) ∧ mw_okX RX5 52 (22, 6, 0, 0, 0) := ⟨⟨rfl, by decide, by decide, rfl⟩, trivial⟩
theorem lk_RX5_54 : mw_okL RX5 54 (2, 79, 1, 2, 0) ∧ mw_okX RX5 54 (2, 79, 1, 2, 0) := ⟨⟨_, mI_79_e, by decide, by decide, by decide, by decide, mI_79_k, rfl, mw_in 424 (by decide +kernel) (by decide +kernel), rfl⟩, trivial⟩
theorem lk_RX5_58 : mw_okL RX5 58 (10, 0, 0, 0, 0) ∧ mw_okX RX5 58 (10, 0, 0, 0, 0) := ⟨mw_in 433 (by decide +kernel) (by decide +kernel), trivial⟩
theorem lk_RX5_63 : mw_okL RX5 63 (11, 0, 0, 0, 0) ∧ mw_okX RX5 63 (11, 0, 0, 0, 0) := ⟨mw_in 437 (by decide +kernel) (by decide +kernel), trivial⟩
theorem lk_RX5_67 : mw_okL RX5 67 (12, 0, 0, 0, 0) ∧ mw_okX RX5 67 (12, 0, 0, 0, 0) := ⟨mw_in 447 (by decide +kernel) (by decide +kernel), trivial⟩
theorem lk_RX5_71 : mw_okL RX5 71 (1, 82, 1, 1, 5) ∧ mw_okX RX5 71 (1, 82, 1, 1, 5) := ⟨⟨_, mI_82_e, by decide, by decide, by decide, by decide, mI_82_k, rfl, mw_in 485 (by decide +kernel) (by decide +kernel), rfl, _, rfl, rfl⟩, trivial⟩
theorem lk_RX5_75 : mw_okL RX5 75 (1, 81, 1, 1, 5) ∧ mw_okX RX5 75 (1, 81, 1, 1, 5) := ⟨⟨_, mI_81_e, by decide, by decide, by decide, by decide, mI_81_k, rfl, mw_in 493 (by decide +kernel) (by decide +kernel), rfl, _, rfl, rfl⟩, trivial⟩
theorem lk_RX5_79 : mw_okL RX5 79 (1, 83, 0, 1, 5) ∧ mw_okX RX5 79 (1, 83, 0, 1, 5) := ⟨⟨_, mI_83_e, by decide, by decide, by decide, by decide, mI_83_k, rfl, mw_in 489 (by decide +kernel) (by decide +kernel), rfl, _, rfl, rfl⟩, trivial⟩
theorem lk_RX5_82 : mw_okL RX5 82 (2, 85, 3, 1, 0) ∧ mw_okX RX5 82 (2, 85, 3, 1, 0) := ⟨⟨_, mI_85_e, by decide, by decide, by decide, by decide, mI_85_k, rfl, mw_in 512 (by decide +kernel) (by decide +kernel), rfl⟩, trivial⟩
theorem lk_RX5_86 : mw_okL RX5 86 (2, 87, 3, 1, 0) ∧ mw_okX RX5 86 (2, 87, 3, 1, 0) := ⟨⟨_, mI_87_e, by decide, by decide, by decide, by decide, mI_87_k, rfl, mw_in 519 (by decide +kernel) (by decide +kernel), rfl⟩, trivial⟩
theorem lk_RX5_89 : mw_okL RX5 89 (2, 88, 2, 1, 0) ∧ mw_okX RX5 89 (2, 88, 2, 1, 0) := ⟨⟨_, mI_88_e, by decide, by decide, by decide, by decide, mI_88_k, rfl, mw_in 526 (by decide +kernel) (by decide +kernel), rfl⟩, trivial⟩
theorem lk_RX5_92 : mw_okL RX5 92 (2, 89, 2, 1, 0) ∧ mw_okX RX5 92 (2, 89, 2, 1, 0) := ⟨⟨_, mI_89_e, by decide, by decide, by decide, by decide, mI_89_k, rfl, mw_in 529 (by decide +kernel) (by decide +kernel), rfl⟩, trivial⟩
theorem lk_RX5_95 : mw_okL RX5 95 (0, 3, 4, 0, 0) ∧ mw_okX RX5 95 (0, 3, 4, 0, 0) := ⟨⟨_, rfl, by decide, rfl, mw_in 139 (by decide +kernel) (by decide +kernel), rfl⟩, trivial⟩
theorem lk_RX5_100 : mw_okL RX5 100 (2, 90, 2, 1, 0) ∧ mw_okX RX5 100 (2, 90, 2, 1, 0) := ⟨⟨_, mI_90_e, by decide, by decide, by decide, by decide, mI_90_k, rfl, mw_in 532 (by decide +kernel) (by decide +kernel), rfl⟩, trivial⟩
theorem lk_RX5_103 : mw_okL RX5 103 (1, 35, 2, 1, 3) ∧ mw_okX RX5 103 (1, 35, 2, 1, 3) := ⟨⟨_, mI_35_e, by decide, by decide, by decide, by decide, mI_35_k, rfl, mw_in 535 (by decide +kernel) (by decide +kernel), rfl, _, rfl, rfl⟩, trivial⟩
theorem lk_RX5_107 : mw_okL RX5 107 (1, 36, 4, 1, 3) ∧ mw_okX RX5 107 (1, 36, 4, 1, 3) := ⟨⟨_, mI_36_e, by decide, by decide, by decide, by decide, mI_36_k, rfl, mw_in 560 (by decide +kernel) (by decide +kernel), rfl, _, rfl, rfl⟩, trivial⟩
theorem lk_RX5_111 : mw_okL RX5 111 (0, 3, 7, 0, 0) ∧ mw_okX RX5 111 (0, 3, 7, 0, 0) := ⟨⟨_, rfl, by decide, rfl, mw_in 150 (by decide +kernel) (by decide +kernel), rfl⟩, trivial⟩
theorem lk_RX5_114 : mw_okL RX5 114 (2, 86, 1, 1, 0) ∧ mw_okX RX5 114 (2, 86, 1, 1, 0) := ⟨⟨_, mI_86_e, by decide, by decide, by decide, by decide, mI_86_k, rfl, mw_in 515 (by decide +kernel) (by decide +kernel), rfl⟩, trivial⟩
theorem lk_RX5_117 : mw_okL RX5 117 (1, 30, 2, 0, 3) ∧ mw_okX RX5 117 (1, 30, 2, 0, 3) := ⟨⟨_, mI_30_e, by decide, by decide, by decide, by decide, mI_30_k, rfl, mw_in 518 (by decide +kernel) (by decide +kernel), rfl, _, rfl, rfl⟩, trivial⟩
theorem lk_RX5_121 : mw_okL RX5 121 (1, 33, 1, 1, 3) ∧ mw_okX RX5 121 (1, 33, 1, 1, 3) := ⟨⟨_, mI_33_e, by decide, by decide, by decide, by decide, mI_33_k, rfl, mw_in 522 (by decide +kernel) (by decide +kernel), rfl, _, rfl, rfl⟩, trivial⟩
theorem lk_RX5_124 : mw_okL RX5 124 (0, 3, 11, 2, 0) ∧ mw_okX RX5 124 (0, 3, 11, 2, 0) := ⟨⟨_, rfl, by decide, rfl, mw_in 160 (by decide +kernel) (by decide +kernel), rfl⟩, trivial⟩
theorem lk_RX5_127 : mw_okL RX5 127 (0, 3, 13, 2, 0) ∧ mw_okX RX5 127 (0, 3, 13, 2, 0) := ⟨⟨_, rfl, by decide, rfl, mw_in 167 (by decide +kernel) (by decide +kernel), rfl⟩, trivial⟩
theorem lk_RX5_131 : mw_okL RX5 131 (0, 3, 3, 0, 0) ∧ mw_okX RX5 131 (0, 3, 3, 0, 0) := ⟨⟨_, rfl, by decide, rfl, mw_in 135 (by decide +kernel) (by decide +kernel), rfl⟩, trivial⟩
theorem lk_RX5_133 : mw_okL RX5 133 (0, 3, 5, 0, 0) ∧ mw_okX RX5 133 (0, 3, 5, 0, 0) := ⟨⟨_, rfl, by decide, rfl, mw_in 145 (by decide +kernel) (by decide +kernel), rfl⟩, trivial⟩
theorem lk_RX5_ok : ∀ q ∈ lk_RX5, mw_okL RX5 q.1 q.2 ∧ mw_okX RX5 q.1 q.2 := List.forall_mem_cons.mpr ⟨lk_RX5_3, List.forall_mem_cons.mpr ⟨lk_RX5_9, List.forall_mem_cons.mpr ⟨lk_RX5_15, List.forall_mem_cons.mpr ⟨lk_RX5_19, List.forall_mem_cons.mpr ⟨lk_RX5_22, List.forall_mem_cons.mpr ⟨lk_RX5_25, List.forall_mem_cons.mpr ⟨lk_RX5_28, List.forall_mem_cons.mpr ⟨lk_RX5_34, List.forall_mem_cons.mpr ⟨lk_RX5_38, List.forall_mem_cons.mpr ⟨lk_RX5_42, List.forall_mem_cons.mpr ⟨lk_RX5_44, List.forall_mem_cons.mpr ⟨lk_RX5_46, List.forall_mem_cons.mpr ⟨lk_RX5_48, List.forall_mem_cons.mpr ⟨lk_RX5_50, List.forall_mem_cons.mpr ⟨lk_RX5_52, List.forall_mem_cons.mpr ⟨lk_RX5_54, List.forall_mem_cons.mpr ⟨lk_RX5_58, List.forall_mem_cons.mpr ⟨lk_RX5_63, List.forall_mem_cons.mpr ⟨lk_RX5_67, List.forall_mem_cons.mpr ⟨lk_RX5_71, List.forall_mem_cons.mpr ⟨lk_RX5_75, List.forall_mem_cons.mpr ⟨lk_RX5_79, List.forall_mem_cons.mpr ⟨lk_RX5_82, List.forall_mem_cons.mpr ⟨lk_RX5_86, List.forall_mem_cons.mpr ⟨lk_RX5_89, List.forall_mem_cons.mpr ⟨lk_RX5_92, List.forall_mem_cons.mpr ⟨lk_RX5_95, List.forall_mem_cons.mpr ⟨lk_RX5_100, List.forall_mem_cons.mpr ⟨lk_RX5_103, List.forall_mem_cons.mpr ⟨lk_RX5_107, List.forall_mem_cons.mpr ⟨lk_RX5_111, List.forall_mem_cons.mpr ⟨lk_RX5_114, List.forall_mem_cons.mpr ⟨lk_RX5_117, List.forall_mem_cons.mpr ⟨lk_RX5_121, List.forall_mem_cons.mpr ⟨lk_RX5_124, List.forall_mem_cons.mpr ⟨lk_RX5_127, List.forall_mem_cons.mpr ⟨lk_RX5_131, List.forall_mem_cons.mpr ⟨lk_RX5_133, List.forall_mem_nil _⟩⟩⟩⟩⟩⟩⟩⟩⟩⟩⟩⟩⟩⟩⟩⟩⟩⟩⟩⟩⟩⟩⟩⟩⟩⟩⟩⟩⟩⟩⟩⟩⟩⟩⟩⟩⟩⟩
theorem lk_RX6_1 : mw_okL RX6 1 (9, 0, 0, 0, 0) ∧ mw_okX RX6 1 (9, 0, 0, 0, 0) := ⟨mw_in 100 (by decide +kernel) (by decide +kernel), trivial⟩
theorem lk_RX6_7 : mw_okL RX6 7 (32, 3, 0, 0, 0) ∧ mw_okX RX6 7 (32, 3, 0, 0, 0) := ⟨⟨_, rfl, mw_in 103 (by decide +kernel) (by decide +kernel), mw_in 104 (by decide +kernel) (by decide +kernel), mw_in 75 (by decide +kernel) (by decide +kernel)⟩, trivial⟩
theorem lk_RX6_9 : mw_okL RX6 9 (3, 29, 0, 0, 0) ∧ mw_okX RX6 9 (3, 29, 0, 0, 0) := ⟨⟨_, mI_29_e, by decide, by decide, by decide, by decide, mI_29_k, rfl, mw_in 105 (by decide +kernel) (by decide +kernel), rfl⟩, trivial⟩
theorem lk_RX6_10 : mw_okL RX6 10 (0, 6, 0, 2, 0) ∧ mw_okX RX6 10 (0, 6, 0, 2, 0) := ⟨⟨_, rfl, by decide, rfl, mw_in 349 (by decide +kernel) (by decide +kernel), rfl⟩, trivial⟩
theorem lk_RX6_16 : mw_okL RX6 16 (0, 6, 1, 2, 0) ∧ mw_okX RX6 16 (0, 6, 1, 2, 0) := ⟨⟨_, rfl, by decide, rfl, mw_in 350 (by decide +kernel) (by decide +kernel), rfl⟩, trivial⟩
theorem lk_RX6_19 : mw_okL RX6 19 (0, 6, 2, 2, 0) ∧ mw_okX RX6 19 (0, 6, 2, 2, 0) := ⟨⟨_, rfl, by decide, rfl, mw_in 351 (by decide +kernel) (by decide +kernel), rfl⟩, trivial⟩
theorem lk_RX6_22 : mw_okL RX6 22 (0, 6, 3, 2, 0) ∧ mw_okX RX6 22 (0, 6, 3, 2, 0) := ⟨⟨_, rfl, by decide, rfl, mw_in 352 (by decide +kernel) (by decide +kernel), rfl⟩, trivial⟩
theorem lk_RX6_25 : mw_okL RX6 25 (0, 6, 4, 1, 0) ∧ mw_okX RX6 25 (0, 6, 4, 1, 0) := ⟨⟨_, rfl, by decide, rfl, mw_in 353 (by decide +kernel) (by decide +kernel), rfl⟩, trivial⟩
theorem lk_RX6_29 : mw_okL RX6 29 (32, 4, 0, 0, 0) ∧ mw_okX RX6 29 (32, 4, 0, 0, 0) := ⟨⟨_, rfl, mw_in 220 (by decide +kernel) (by decide +kernel), mw_in 323 (by decide +kernel) (by decide +kernel), mw_in 81 (by decide +kernel) (by decide +kernel)⟩, trivial⟩
theorem lk_RX6_31 : mw_okL RX6 31 (0, 6, 5, 2, 0) ∧ mw_okX RX6 31 (0, 6, 5, 2, 0) := ⟨⟨_, rfl, by decide, rfl, mw_in 354 (by decide +kernel) (by decide +kernel), rfl⟩, trivial⟩
theorem lk_RX6_35 : mw_okL RX6 35 (32, 5, 0, 0, 0) ∧ mw_okX RX6 35 (32, 5, 0, 0, 0) := ⟨⟨_, rfl, mw_in 222 (by decide +kernel) (by decide +kernel), mw_in 223 (by decide +kernel) (by decide +kernel), mw_in 78 (by decide +kernel) (by decide +kernel)⟩, trivial⟩
theorem lk_RX6_37 : mw_okL RX6 37 (4, 75, 0, 0, 0) ∧ mw_okX RX6 37 (4, 75, 0, 0, 0) := ⟨⟨_, mI_75_e, by decide, by decide, by decide, by decide, mI_75_k, rfl, rfl, by decide +kernel, rfl⟩, trivial⟩
theorem lk_RX6_38 : mw_okL RX6 38 (0, 6, 6, 2, 0) ∧ mw_okX RX6 38 (0, 6, 6, 2, 0) := ⟨⟨_, rfl, by decide, rfl, mw_in 355 (by decide +kernel) (by decide +kernel), rfl⟩, trivial⟩
theorem lk_RX6_42 : mw_okL RX6 42 (32, 0, 0, 0, 0) ∧ mw_okX RX6 42 (32, 0, 0, 0, 0) := ⟨⟨_, rfl, mw_in 244 (by decide +kernel) (by decide +kernel), mw_in 245 (by decide +kernel) (by decide +kernel), mw_in 79 (by decide +kernel) (by decide +kernel)⟩, trivial⟩
theorem lk_RX6_44 : mw_okL RX6 44 (4, 0, 0, 0, 0) ∧ mw_okX RX6 44 (4, 0, 0, 0, 0) := ⟨⟨_, mI_0_e, by decide, by decide, by decide, by decide, mI_0_k, rfl, rfl, by decide +kernel, rfl⟩, trivial⟩
theorem lk_RX6_45 : mw_okL RX6 45 (0, 6, 7, 2, 0) ∧ mw_okX RX6 45 (0, 6, 7, 2, 0) := ⟨⟨_, rfl, by decide, rfl, mw_in 356 (by decide +kernel) (by decide +kernel), rfl⟩, trivial⟩
theorem lk_RX6_49 : mw_okL RX6 49 (32, 1, 0, 0, 0) ∧ mw_okX RX6 49 (32, 1, 0, 0, 0) := ⟨⟨_, rfl, mw_in 269 (by decide +kernel) (by decide +kernel), mw_in 270 (by decide +kernel) (by decide +kernel), mw_in 80 (by decide +kernel) (by decide +kernel)⟩, trivial⟩
theorem lk_RX6_51 : mw_okL RX6 51 (4, 13, 0, 0, 0) ∧ mw_okX RX6 51 (4, 13, 0, 0, 0) := ⟨⟨_, mI_13_e, by decide, by decide, by decide, by decide, mI_13_k, rfl, rfl, by decide +kernel, rfl⟩, trivial⟩
theorem lk_RX6_52 : mw_okL RX6 52 (0, 6, 8, 2, 0) ∧ mw_okX RX6 52 (0, 6, 8, 2, 0) := ⟨⟨_, rfl, by decide, rfl, mw_in 357 (by decide +kernel) (by decide +kernel), rfl⟩, trivial⟩
theorem lk_RX6_56 : mw_okL RX6 56 (0, 6, 9, 2, 0) ∧ mw_okX RX6 56 (0, 6, 9, 2, 0) := ⟨⟨_, rfl, by decide, rfl, mw_in 358 (by decide +kernel) (by decide +kernel), rfl⟩, trivial⟩
theorem lk_RX6_60 : mw_okL RX6 60 (0, 6, 10, 2, 0) ∧ mw_okX RX6 60 (0, 6, 10, 2, 0) := ⟨⟨_, rfl, by decide, rfl, mw_in 359 (by decide +kernel) (by decide +kernel), rfl⟩, trivial⟩
theorem lk_RX6_63 : mw_okL RX6 63 (31, 0, 0, 0, 0) ∧ mw_okX RX6 63 (31, 0, 0, 0, 0) := ⟨mw_in 322 (by decide +kernel) (by decide +kernel), trivial⟩
theorem lk_RX6_65 : mw_okL RX6 65 (0, 6, 11, 2, 0) ∧ mw_okX RX6 65 (0, 6, 11, 2, 0) := ⟨⟨_, rfl, by decide, rfl, mw_in 360 (by decide +kernel) (by decide +kernel), rfl⟩, trivial⟩
theorem lk_RX6_68 : mw_okL RX6 68 (0, 6, 12, 2, 0) ∧ mw_okX RX6 68 (0, 6, 12, 2, 0) := ⟨⟨_, rfl, by decide, rfl, mw_in 361 (by decide +kernel) (by decide +kernel), rfl⟩, trivial⟩
theorem lk_RX6_71 : mw_okL RX6 71 (4, 60, 0, 0, 0) ∧ mw_okX RX6 71 (4, 60, 0, 0, 0) := ⟨⟨_, mI_60_e, by decide, by decide, by decide, by decide, mI_60_k, rfl, rfl, by decide +kernel, rfl⟩, trivial⟩
theorem lk_RX6_72 : mw_okL RX6 72 (1, 126, 1, 2, 6) ∧ mw_okX RX6 72 (1, 126, 1, 2, 6) := ⟨⟨_, mI_126_e, by decide, by decide, by decide, by decide, mI_126_k, rfl, mw_in 393 (by decide +kernel) (by decide +kernel), rfl, _, rfl, rfl⟩, trivial⟩
theorem lk_RX6_76 : mw_okL RX6 76 (1, 67, 0, 1, 4) ∧ mw_okX RX6 76 (1, 67, 0, 1, 4) := ⟨⟨_, mI_67_e, by decide, by decide, by decide, by decide, mI_67_k, rfl, mw_in 397 (by decide +kernel) (by decide +kernel), rfl, _, rfl, rfl⟩, trivial⟩
theorem lk_RX6_80 : mw_okL RX6 80 (0, 4, 4, 2, 0) ∧ mw_okX RX6 80 (0, 4, 4, 2, 0) := ⟨⟨_, rfl, by decide, rfl, mw_in 337 (by decide +kernel) (by decide +kernel), rfl⟩, trivial⟩
theorem lk_RX6_83 : mw_okL RX6 83 (0, 4, 3, 0, 0) ∧ mw_okX RX6 83 (0, 4, 3, 0, 0) := ⟨⟨_, rfl, by decide, rfl, mw_in 335 (by decide +kernel) (by decide +kernel), rfl⟩, trivial⟩
theorem lk_RX6_87 : mw_okL RX6 87 (1, 76, 2, 0, 5) ∧ mw_okX RX6 87 (1, 76, 2, 0, 5) := ⟨⟨_, mI_76_e, by decide, by decide, by decide, by decide, mI_76_k, rfl, mw_in 409 (by decide +kernel) (by decide +kernel), rfl, _, rfl, rfl⟩, trivial⟩
theorem lk_RX6_91 : mw_okL RX6 91 (1, 77, 0, 1, 5) ∧ mw_okX RX6 91 (1, 77, 0, 1, 5) := ⟨⟨_, mI_77_e, by decide, by decide, by decide, by decide, mI_77_k, rfl, mw_in 416 (by decide +kernel) (by decide +kernel), rfl, _, rfl, rfl⟩, trivial⟩
theorem lk_RX6_94 : mw_okL RX6 94 (1, 32, 1, 0, 3) ∧ mw_okX RX6 94 (1, 32, 1, 0, 3) := ⟨⟨_, mI_32_e, by decide, by decide, by decide, by decide, mI_32_k, rfl, mw_in 497 (by decide +kernel) (by decide +kernel), rfl, _, rfl, rfl⟩, trivial⟩
theorem lk_RX6_98 : mw_okL RX6 98 (1, 78, 1, 1, 5) ∧ mw_okX RX6 98 (1, 78, 1, 1, 5) := ⟨⟨_, mI_78_e, by decide, by decide, by decide, by decide, mI_78_k, rfl, mw_in 504 (by decide +kernel) (by decide +kernel), rfl, _, rfl, rfl⟩, trivial⟩
theorem lk_RX6_102 : mw_okL RX6 102 (1, 33, 1, 1, 3) ∧ mw_okX RX6 102 (1, 33, 1, 1, 3) := ⟨⟨_, mI_33_e, by decide, by decide, by decide, by decide, mI_33_k, rfl, mw_in 573 (by decide +kernel) (by decide +kernel), rfl, _, rfl, rfl⟩, trivial⟩
theorem lk_RX6_106 : mw_okL RX6 106 (0, 3, 11, 2, 0) ∧ mw_okX RX6 106 (0, 3, 11, 2, 0) := ⟨⟨_, rfl, by decide, rfl, mw_in 159 (by decide +kernel) (by decide +kernel), rfl⟩, trivial⟩
theorem lk_RX6_109 : mw_okL RX6 109 (0, 3, 13, 2, 0) ∧ mw_okX RX6 109 (0, 3, 13, 2, 0) := ⟨⟨_, rfl, by decide, rfl, mw_in 165 (by decide +kernel) (by decide +kernel), rfl⟩, trivial⟩
theorem lk_RX6_113 : mw_okL RX6 113 (1, 37, 1, 1, 3) ∧ mw_okX RX6 113 (1, 37, 1, 1, 3) := ⟨⟨_, mI_37_e, by decide, by decide, by decide, by decide, mI_37_k, rfl, mw_in 574 (by decide +kernel) (by decide +kernel), rfl, _, rfl, rfl⟩, trivial⟩
theorem lk_RX6_117 : mw_okL RX6 117 (1, 48, 1, 1, 3) ∧ mw_okX RX6 117 (1, 48, 1, 1, 3) := ⟨⟨_, mI_48_e, by decide, by decide, by decide, by decide, mI_48_k, rfl, mw_in 578 (by decide +kernel) (by decide +kernel), rfl, _, rfl, rfl⟩, trivial⟩
theorem lk_RX6_120 : mw_okL RX6 120 (0, 3, 0, 0, 0) ∧ mw_okX RX6 120 (0, 3, 0, 0, 0) := ⟨⟨_, rfl, by decide, rfl, mw_in 126 (by decide +kernel) (by decide +kernel), rfl⟩, trivial⟩
theorem lk_RX6_123 : mw_okL RX6 123 (0, 3, 1, 0, 0) ∧ mw_okX RX6 123 (0, 3, 1, 0, 0) := ⟨⟨_, rfl, by decide, rfl, mw_in 128 (by decide +kernel) (by decide +kernel), rfl⟩, trivial⟩
theorem lk_RX6_126 : mw_okL RX6 126 (0, 3, 4, 0, 0) ∧ mw_okX RX6 126 (0, 3, 4, 0, 0) := ⟨⟨_, rfl, by decide, rfl, mw_in 138 (by decide +kernel) (by decide +kernel), rfl⟩, trivial⟩
theorem lk_RX6_129 : mw_okL RX6 129 (0, 3, 5, 0, 0) ∧ mw_okX RX6 129 (0, 3, 5, 0, 0) := ⟨⟨_, rfl, by decide, rfl, mw_in 143 (by decide +kernel) (by decide +kernel), rfl⟩, trivial⟩
theorem lk_RX6_132 : mw_okL RX6 132 (0, 3, 6, 0, 0) ∧ mw_okX RX6 132 (0, 3, 6, 0, 0) := ⟨⟨_, rfl, by decide, rfl, mw_in 147 (by decide +kernel) (by decide +kernel), rfl⟩, trivial⟩
theorem lk_RX6_135 : mw_okL RX6 135 (0, 3, 3, 0, 0) ∧ mw_okX RX6 135 (0, 3, 3, 0, 0) := ⟨⟨_, rfl, by decide, rfl, mw_in 134 (by decide +kernel) (by decide +kernel), rfl⟩, trivial⟩
theorem lk_RX6_138 : mw_okL RX6 138 (0, 3, 12, 2, 0) ∧ mw_okX RX6 138 (0, 3, 12, 2, 0) := ⟨⟨_, rfl, by decide, rfl, mw_in 163 (by decide +kernel) (by decide +kernel), rfl⟩, trivial⟩
theorem lk_RX6_141 : mw_okL RX6 141 (0, 3, 2, 0, 0) ∧ mw_okX RX6 141 (0, 3, 2, 0, 0) := ⟨⟨_, rfl, by decide, rfl, mw_in 132 (by decide +kernel) (by decide +kernel), rfl⟩, trivial⟩
theorem lk_RX6_144 : mw_okL RX6 144 (1, 73, 1, 1, 4) ∧ mw_okX RX6 144 (1, 73, 1, 1, 4) := ⟨⟨_, mI_73_e, by decide, by decide, by decide, by decide, mI_73_k, rfl, mw_in 602 (by decide +kernel) (by decide +kernel), rfl, _, rfl, rfl⟩, trivial⟩
theorem lk_RX6_147 : mw_okL RX6 147 (1, 74, 1, 1, 4) ∧ mw_okX RX6 147 (1, 74, 1, 1, 4) := ⟨⟨_, mI_74_e, by decide, by decide, by decide, by decide, mI_74_k, rfl, mw_in 614 (by decide +kernel) (by decide +kernel), rfl, _, rfl, rfl⟩, trivial⟩
theorem lk_RX6_150 : mw_okL RX6 150 (1, 42, 0, 1, 3) ∧ mw_okX RX6 150 (1, 42, 0, 1, 3) := ⟨⟨_, mI_42_e, by decide, by decide, by decide, by decide, mI_42_k, rfl, mw_in 618 (by decide +kernel) (by decide +kernel), rfl, _, rfl, rfl⟩, trivial⟩
theorem lk_RX6_153 : mw_okL RX6 153 (1, 46, 0, 1, 3) ∧ mw_okX RX6 153 (1, 46, 0, 1, 3) := ⟨⟨_, mI_46_e, by decide, by decide, by decide, by decide, mI_46_k, rfl, mw_in 626 (by decide +kernel) (by decide +kernel), rfl, _, rfl, rfl⟩, trivial⟩
theorem lk_RX6_156 : mw_okL RX6 156 (1, 47, 1, 1, 3) ∧ mw_okX RX6 156 (1, 47, 1, 1, 3) := ⟨⟨_, mI_47_e, by decide, by decide, by decide, by decide, mI_47_k, rfl, mw_in 627 (by decide +kernel) (by decide +kernel), rfl, _, rfl, rfl⟩, trivial⟩
theorem lk_RX6_159 : mw_okL RX6 159 (1, 50, 1, 1, 3) ∧ mw_okX RX6 159 (1, 50, 1, 1, 3) := ⟨⟨_, mI_50_e, by decide, by decide, by decide, by decide, mI_50_k, rfl, mw_in 631 (by decide +kernel) (by decide +kernel), rfl, _, rfl, rfl⟩, trivial⟩
theorem lk_RX6_162 : mw_okL RX6 162 (1, 127, 2, 1, 6) ∧ mw_okX RX6 162 (1, 127, 2, 1, 6) := ⟨⟨_, mI_127_e, by decide, by decide, by decide, by decide, mI_127_k, rfl, mw_in 639 (by decide +kernel) (by decide +kernel), rfl, _, rfl, rfl⟩, trivial⟩
theorem lk_RX6_166 : mw_okL RX6 166 (1, 55, 2, 1, 3) ∧ mw_okX RX6 166 (1, 55, 2, 1, 3) := ⟨⟨_, mI_55_e, by decide, by decide, by decide, by decide, mI_55_k, rfl, mw_in 655 (by decide +kernel) (by decide +kernel), rfl, _, rfl, rfl⟩, trivial⟩
theorem lk_RX6_169 : mw_okL RX6 169 (1, 56, 2, 0, 3) ∧ mw_okX RX6 169 (1, 56, 2, 0, 3) := ⟨⟨_, mI_56_e, by decide, by decide, by decide, by decide, mI_56_k, rfl, mw_in 667 (by decide +kernel) (by decide +kernel), rfl, _, rfl, rfl⟩, trivial⟩
theorem lk_RX6_173 : mw_okL RX6 173 (1, 39, 0, 1, 3) ∧ mw_okX RX6 173 (1, 39, 0, 1, 3) := ⟨⟨_, mI_39_e, by decide, by decide, by decide, by decide, mI_39_k, rfl, mw_in 675 (by decide +kernel) (by decide +kernel), rfl, _, rfl, rfl⟩, trivial⟩
theorem lk_RX6_176 : mw_okL RX6 176 (1, 40, 0, 1, 3) ∧ mw_okX RX6 176 (1, 40, 0, 1, 3) := ⟨⟨_, mI_40_e, by decide, by decide, by decide, by decide, mI_40_k, rfl, mw_in 683 (by decide +kernel) (by decide +kernel), rfl, _, rfl, rfl⟩, trivial⟩
theorem lk_RX6_179 : mw_okL RX6 179 (1, 19, 2, 1, 1) ∧ mw_okX RX6 179 (1, 19, 2, 1, 1) := ⟨⟨_, mI_19_e, by decide, by decide, by decide, by decide, mI_19_k, rfl, mw_in 691 (by decide +kernel) (by decide +kernel), rfl, _, rfl, rfl⟩, trivial⟩
theorem lk_RX6_183 : mw_okL RX6 183 (1, 49, 0, 1, 3) ∧ mw_okX RX6 183 (1, 49, 0, 1, 3) := ⟨⟨_, mI_49_e, by decide, by decide, by decide, by decide, mI_49_k, rfl, mw_in 731 (by decide +kernel) (by decide +kernel), rfl, _, rfl, rfl⟩, trivial⟩
theorem lk_RX6_187 : mw_okL RX6 187 (1, 70, 1, 1, 4) ∧ mw_okX RX6 187 (1, 70, 1, 1, 4) := ⟨⟨_, mI_70_e, by decide, by decide, by decide, by decide, mI_70_k, rfl, mw_in 737 (by decide +kernel) (by decide +kernel), rfl, _, rfl, rfl⟩, trivial⟩
theorem lk_RX6_190 : mw_okL RX6 190 (1, 54, 2, 1, 3) ∧ mw_okX RX6 190 (1, 54, 2, 1, 3) := ⟨⟨_, mI_54_e, by decide, by decide, by decide, by decide, mI_54_k, rfl, mw_in 643 (by decide +kernel) (by decide +kernel), rfl, _, rfl, rfl⟩, trivial⟩
theorem lk_RX6_194 : mw_okL RX6 194 (1, 14, 1, 0, 1) ∧ mw_okX RX6 194 (1, 14, 1, 0, 1) := ⟨⟨_, mI_14_e, by decide, by decide, by decide, by decide, mI_14_k, rfl, mw_in 742 (by decide +kernel) (by decide +kernel), rfl, _, rfl, rfl⟩, trivial⟩
theorem lk_RX6_197 : mw_okL RX6 197 (0, 1, 0, 0, 0) ∧ mw_okX RX6 197 (0, 1, 0, 0, 0) := ⟨⟨_, rfl, by decide, rfl, mw_in 278 (by decide +kernel) (by decide +kernel), rfl⟩, trivial⟩
theorem lk_RX6_200 : mw_okL RX6 200 (0, 1, 1, 0, 0) ∧ mw_okX RX6 200 (0, 1, 1, 0, 0) := ⟨⟨_, rfl, by decide, rfl, mw_in 280 (by decide +kernel) (by decide +kernel), rfl⟩, trivial⟩
theorem lk_RX6_203 : mw_okL RX6 203 (1, 34, 1, 2, 3) ∧ mw_okX RX6 203 (1, 34, 1, 2, 3) := ⟨⟨_, mI_34_e, by decide, by decide, by decide, by decide, mI_34_k, rfl, mw_in 768 (by decide +kernel) (by decide +kernel), rfl, _, rfl, rfl⟩, trivial⟩
theorem lk_RX6_207 : mw_okL RX6 207 (0, 2, 1, 0, 0) ∧ mw_okX RX6 207 (0, 2, 1, 0, 0) := ⟨⟨_, rfl, by decide, rfl, mw_in 548 (by decide +kernel) (by decide +kernel), rfl⟩, trivial⟩
theorem lk_RX6_212 : mw_okL RX6 212 (0, 2, 2, 0, 0) ∧ mw_okX RX6 212 (0, 2, 2, 0, 0) := ⟨⟨_, rfl, by decide, rfl, mw_in 551 (by decide +kernel) (by decide +kernel), rfl⟩, trivial⟩
theorem lk_RX6_215 : mw_okL RX6 215 (0, 3, 15, 2, 0) ∧ mw_okX RX6 215 (0, 3, 15, 2, 0) := ⟨⟨_, rfl, by decide, rfl, mw_in 171 (by decide +kernel) (by decide +kernel), rfl⟩, trivial⟩
theorem lk_RX6_218 : mw_okL RX6 218 (1, 58, 2, 1, 3) ∧ mw_okX RX6 218 (1, 58, 2, 1, 3) := ⟨⟨_, mI_58_e, by decide, by decide, by decide, by decide, mI_58_k, rfl, mw_in 769 (by decide +kernel) (by decide +kernel), rfl, _, rfl, rfl⟩, trivial⟩
theorem lk_RX6_222 : mw_okL RX6 222 (1, 1, 3, 0, 0) ∧ mw_okX RX6 222 (1, 1, 3, 0, 0) := ⟨⟨_, mI_1_e, by decide, by decide, by decide, by decide, mI_1_k, rfl, mw_in 782 (by decide +kernel) (by decide +kernel), rfl, _, rfl, rfl⟩, trivial⟩
theorem lk_RX6_226 : mw_okL RX6 226 (0, 3, 7, 0, 0) ∧ mw_okX RX6 226 (0, 3, 7, 0, 0) := ⟨⟨_, rfl, by decide, rfl, mw_in 151 (by decide +kernel) (by decide +kernel), rfl⟩, trivial⟩
theorem lk_RX6_229 : mw_okL RX6 229 (1, 128, 2, 1, 6) ∧ mw_okX RX6 229 (1, 128, 2, 1, 6) := ⟨⟨_, mI_128_e, by decide, by decide, by decide, by decide, mI_128_k, rfl, mw_in 844 (by decide +kernel) (by decide +kernel), rfl, _, rfl, rfl⟩, trivial⟩
theorem lk_RX6_233 : mw_okL RX6 233 (1, 41, 1, 1, 3) ∧ mw_okX RX6 233 (1, 41, 1, 1, 3) := ⟨⟨_, mI_41_e, by decide, by decide, by decide, by decide, mI_41_k, rfl, mw_in 849 (by decide +kernel) (by decide +kernel), rfl, _, rfl, rfl⟩, trivial⟩
theorem lk_RX6_237 : mw_okL RX6 237 (20, 0, 0, 0, 1103515245) ∧ mw_okX RX6 237 (20, 0, 0, 0, 1103515245) := ⟨mw_in 865 (by decide +kernel) (by decide +kernel), trivial⟩
theorem lk_RX6_238 : mw_okL RX6 238 (20, 0, 0, 0, 2147483647) ∧ mw_okX RX6 238 (20, 0, 0, 0, 2147483647) := ⟨mw_in 866 (by decide +kernel) (by decide +kernel), trivial⟩
theorem lk_RX6_239 : mw_okL RX6 239 (1, 64, 0, 1, 4) ∧ mw_okX RX6 239 (1, 64, 0, 1, 4) := ⟨⟨_, mI_64_e, by decide, by decide, by decide, by decide, mI_64_k, rfl, mw_in 871 (by decide +kernel) (by decide +kernel), rfl, _, rfl, rfl⟩, trivial⟩
theorem lk_RX6_242 : mw_okL RX6 242 (1, 65, 1, 1, 4) ∧ mw_okX RX6 242 (1, 65, 1, 1, 4) := ⟨⟨_, mI_65_e, by decide, by decide, by decide, by decide, mI_65_k, rfl, mw_in 872 (by decide +kernel) (by decide +kernel), rfl, _, rfl, rfl⟩, trivial⟩
theorem lk_RX6_245 : mw_okL RX6 245 (0, 3, 8, 2, 0) ∧ mw_okX RX6 245 (0, 3, 8, 2, 0) := ⟨⟨_, rfl, by decide, rfl, mw_in 153 (by decide +kernel) (by decide +kernel), rfl⟩, trivial⟩
theorem lk_RX6_248 : mw_okL RX6 248 (2, 129, 2, 1, 0) ∧ mw_okX RX6 248 (2, 129, 2, 1, 0) := ⟨⟨_, mI_129_e, by decide, by decide, by decide, by decide, mI_129_k, rfl, mw_in 873 (by decide +kernel) (by decide +kernel), rfl⟩, trivial⟩
theorem lk_RX6_251 : mw_okL RX6 251 (8, 0, 0, 0, 0) ∧ mw_okX RX6 251 (8, 0, 0, 0, 0) := ⟨mw_in 848 (by decide +kernel) (by decide +kernel), trivial⟩
theorem lk_RX6_257 : mw_okL RX6 257 (20, 0, 0, 0, (-1000000001)) ∧ mw_okX RX6 257 (20, 0, 0, 0, (-1000000001)) := ⟨mw_in 881 (by decide +kernel) (by decide +kernel), trivial⟩
theorem lk_RX6_258 : mw_okL RX6 258 (1, 38, 1, 1, 3) ∧ mw_okX RX6 258 (1, 38, 1, 1, 3) := ⟨⟨_, mI_38_e, by decide, by decide, by decide, by decide, mI_38_k, rfl, mw_in 882 (by decide +kernel) (by decide +kernel), rfl, _, rfl, rfl⟩, trivial⟩
theorem lk_RX6_261 : mw_okL RX6 261 (20, 0, 0, 0, (-1000000003)) ∧ mw_okX RX6 261 (20, 0, 0, 0, (-1000000003)) := ⟨mw_in 883 (by decide +kernel) (by decide +kernel), trivial⟩
theorem lk_RX6_262 : mw_okL RX6 262 (20, 0, 0, 0, (-1000000004)) ∧ mw_okX RX6 262 (20, 0, 0, 0, (-1000000004)) := ⟨mw_in 884 (by decide +kernel) (by decide +kernel), trivial⟩
theorem lk_RX6_263 : mw_okL RX6 263 (20, 0, 0, 0, (-1000000000)) ∧ mw_okX RX6 263 (20, 0, 0, 0, (-1000000000)) := ⟨mw_in 889 (by decide +kernel) (by decide +kernel), trivial⟩
theorem lk_RX6_264 : mw_okL RX6 264 (1, 59, 1, 1, 3) ∧ mw_okX RX6 264 (1, 59, 1, 1, 3) := ⟨⟨_, mI_59_e, by decide, by decide, by decide, by decide, mI_59_k, rfl, mw_in 890 (by decide +kernel) (by decide +kernel), rfl, _, rfl, rfl⟩, trivial⟩
theorem lk_RX6_267 : mw_okL RX6 267 (1, 131, 1, 1, 6) ∧ mw_okX RX6 267 (1, 131, 1, 1, 6) := ⟨⟨_, mI_131_e, by decide, by decide, by decide, by decide, mI_131_k, rfl, mw_in 899 (by decide +kernel) (by decide +kernel), rfl, _, rfl, rfl⟩, trivial⟩
theorem lk_RX6_270 : mw_okL RX6 270 (1, 130, 1, 0, 6) ∧ mw_okX RX6 270 (1, 130, 1, 0, 6) := ⟨⟨_, mI_130_e, by decide, by decide, by decide, by decide, mI_130_k, rfl, mw_in 903 (by decide +kernel) (by decide +kernel), rfl, _, rfl, rfl⟩, trivial⟩
theorem lk_RX6_274 : mw_okL RX6 274 (1, 66, 0, 1, 4) ∧ mw_okX RX6 274 (1, 66, 0, 1, 4) := ⟨⟨_, mI_66_e, by decide, by decide, by decide, by decide, mI_66_k, rfl, mw_in 912 (by decide +kernel) (by decide +kernel), rfl, _, rfl, rfl⟩, trivial⟩
theorem lk_RX6_277 : mw_okL RX6 277 (1, 72, 0, 1, 4) ∧ mw_okX RX6 277 (1, 72, 0, 1, 4) := ⟨⟨_, mI_72_e, by decide, by decide, by decide, by decide, mI_72_k, rfl, mw_in 916 (by decide +kernel) (by decide +kernel), rfl, _, rfl, rfl⟩, trivial⟩
theorem lk_RX6_280 : mw_okL RX6 280 (7, 0, 0, 0, 0) ∧ mw_okX RX6 280 (7, 0, 0, 0, 0) := ⟨mw_in 921 (by decide +kernel) (by decide +kernel), trivial⟩
theorem lk_RX6_285 : mw_okL RX6 285 (1, 43, 0, 1, 3) ∧ mw_okX RX6 285 (1, 43, 0, 1, 3) := ⟨⟨_, mI_43_e, by decide, by decide, by decide, by decide, mI_43_k, rfl, mw_in 934 (by decide +kernel) (by decide +kernel), rfl, _, rfl, rfl⟩, trivial⟩
theorem lk_RX6_288 : mw_okL RX6 288 (1, 44, 0, 1, 3) ∧ mw_okX RX6 288 (1, 44, 0, 1, 3) := ⟨⟨_, mI_44_e, by decide, by decide, by decide, by decide, mI_44_k, rfl, mw_in 938 (by decide +kernel) (by decide +kernel), rfl, _, rfl, rfl⟩, trivial⟩
theorem lk_RX6_291 : mw_okL RX6 291 (1, 45, 0, 1, 3) ∧ mw_okX RX6 291 (1, 45, 0, 1, 3) := ⟨⟨_, mI_45_e, by decide, by decide, by decide, by decide, mI_45_k, rfl, mw_in 942 (by decide +kernel) (by decide +kernel), rfl, _, rfl, rfl⟩, trivial⟩
theorem lk_RX6_294 : mw_okL RX6 294 (1, 61, 0, 0, 4) ∧ mw_okX RX6 294 (1, 61, 0, 0, 4) := ⟨⟨_, mI_61_e, by decide, by decide, by decide, by decide, mI_61_k, rfl, mw_in 950 (by decide +kernel) (by decide +kernel), rfl, _, rfl, rfl⟩, trivial⟩
theorem lk_RX6_297 : mw_okL RX6 297 (1, 62, 1, 0, 4) ∧ mw_okX RX6 297 (1, 62, 1, 0, 4) := ⟨⟨_, mI_62_e, by decide, by decide, by decide, by decide, mI_62_k, rfl, mw_in 954 (by decide +kernel) (by decide +kernel), rfl, _, rfl, rfl⟩, trivial⟩
theorem lk_RX6_301 : mw_okL RX6 301 (1, 63, 2, 0, 4) ∧ mw_okX RX6 301 (1, 63, 2, 0, 4) := ⟨⟨_, mI_63_e, by decide, by decide, by decide, by decide, mI_63_k, rfl, mw_in 963 (by decide +kernel) (by decide +kernel), rfl, _, rfl, rfl⟩, trivial⟩
theorem lk_RX6_304 : mw_okL RX6 304 (1, 68, 1, 1, 4) ∧ mw_okX RX6 304 (1, 68, 1, 1, 4) := ⟨⟨_, mI_68_e, by decide, by decide, by decide, by decide, mI_68_k, rfl, mw_in 972 (by decide +kernel) (by decide +kernel), rfl, _, rfl, rfl⟩, trivial⟩
theorem lk_RX6_307 : mw_okL RX6 307 (1, 71, 2, 0, 4) ∧ mw_okX RX6 307 (1, 71, 2, 0, 4) := ⟨⟨_, mI_71_e, by decide, by decide, by decide, by decide, mI_71_k, rfl, mw_in 973 (by decide +kernel) (by decide +kernel), rfl, _, rfl, rfl⟩, trivial⟩
theorem lk_RX6_310 : mw_okL RX6 310 (33, 3, 6, 0, 0) ∧ mw_okX RX6 310 (33, 3, 6, 0, 0) := ⟨trivial, trivial⟩
theorem lk_RX6_317 : mw_okL RX6 317 (0, 4, 1, 1, 0) ∧ mw_okX RX6 317 (0, 4, 1, 1, 0) := ⟨⟨_, rfl, by decide, rfl, mw_in 331 (by decide +kernel) (by decide +kernel), rfl⟩, trivial⟩
theorem lk_RX6_320 : mw_okL RX6 320 (33, 1, 6, 0, 0) ∧ mw_okX RX6 320 (33, 1, 6, 0, 0) := ⟨trivial, trivial⟩
theorem lk_RX6_325 : mw_okL RX6 325 (0, 4, 2, 0, 0) ∧ mw_okX RX6 325 (0, 4, 2, 0, 0) := ⟨⟨_, rfl, by decide, rfl, mw_in 333 (by decide +kernel) (by decide +kernel), rfl⟩, trivial⟩
theorem lk_RX6_328 : mw_okL RX6 328 (1, 69, 2, 1, 4) ∧ mw_okX RX6 328 (1, 69, 2, 1, 4) := ⟨⟨_, mI_69_e, by decide, by decide, by decide, by decide, mI_69_k, rfl, mw_in 981 (by decide +kernel) (by decide +kernel), rfl, _, rfl, rfl⟩, trivial⟩
theorem lk_RX6_331 : mw_okL RX6 331 (0, 4, 0, 2, 0) ∧ mw_okX RX6 331 (0, 4, 0, 2, 0) := ⟨⟨_, rfl, by decide, rfl, mw_in 329 (by decide +kernel) (by decide +kernel), rfl⟩, trivial⟩
theorem lk_RX6_335 : mw_okL RX6 335 (1, 27, 0, 1, 2) ∧ mw_okX RX6 335 (1, 27, 0, 1, 2) := ⟨⟨_, mI_27_e, by decide, by decide, by decide, by decide, mI_27_k, rfl, mw_in 989 (by decide +kernel) (by decide +kernel), rfl, _, rfl, rfl⟩, trivial⟩
theorem lk_RX6_338 : mw_okL RX6 338 (42, 28, 0, 0, 2) ∧ mw_okX RX6 338 (42, 28, 0, 0, 2) := ⟨trivial, Or.inl rfl, _, mI_28_e, mI_28_k, rfl, mw_in 1000 (by decide +kernel) (by decide +kernel), rfl, _, rfl, rfl⟩
theorem lk_RX6_341 : mw_okL RX6 341 (0, 2, 0, 0, 0) ∧ mw_okX RX6 341 (0, 2, 0, 0, 0) := ⟨⟨_, rfl, by decide, rfl, mw_in 545 (by decide +kernel) (by decide +kernel), rfl⟩, trivial⟩
theorem lk_RX6_344 : mw_okL RX6 344 (33, 2, 6, 0, 0) ∧ mw_okX RX6 344 (33, 2, 6, 0, 0) := ⟨trivial, trivial⟩
theorem lk_RX6_346 : mw_okL RX6 346 (5, 0, 0, 0, 0) ∧ mw_okX RX6 346 (5, 0, 0, 0, 0) := ⟨mw_in 876 (by decide +kernel) (by decide +kernel), trivial⟩
theorem lk_RX6_349 : mw_okL RX6 349 (2, 217, 2, 0, 0) ∧ mw_okX RX6 349 (2, 217, 2, 0, 0) := ⟨⟨_, mI_217_e, by decide, by decide, by decide, by decide, mI_217_k, rfl, mw_in 907 (by decide +kernel) (by decide +kernel), rfl⟩, trivial⟩
theorem lk_RX6_ok : ∀ q ∈ lk_RX6, mw_okL RX6 q.1 q.2 ∧ mw_okX RX6 q.1 q.2 := List.forall_mem_cons.mpr ⟨lk_RX6_1, List.forall_mem_cons.mpr ⟨lk_RX6_7, List.forall_mem_cons.mpr ⟨lk_RX6_9, List.forall_mem_cons.mpr ⟨lk_RX6_10, List.forall_mem_cons.mpr ⟨lk_RX6_16, List.forall_mem_cons.mpr ⟨lk_RX6_19, List.forall_mem_cons.mpr ⟨lk_RX6_22, List.forall_mem_cons.mpr ⟨lk_RX6_25, List.forall_mem_cons.mpr ⟨lk_RX6_29, List.forall_mem_cons.mpr ⟨lk_RX6_31, List.forall_mem_cons.mpr ⟨lk_RX6_35, List.forall_mem_cons.mpr ⟨lk_RX6_37, List.forall_mem_cons.mpr ⟨lk_RX6_38, List.forall_mem_cons.mpr ⟨lk_RX6_42, List.forall_mem_cons.mpr ⟨lk_RX6_44, List.forall_mem_cons.mpr ⟨lk_RX6_45, List.forall_mem_cons.mpr ⟨lk_RX6_49, List.forall_mem_cons.mpr ⟨lk_RX6_51, List.forall_mem_cons.mpr ⟨lk_RX6_52, List.forall_mem_cons.mpr ⟨lk_RX6_56, List.forall_mem_cons.mpr ⟨lk_RX6_60, List.forall_mem_cons.mpr ⟨lk_RX6_63, List.forall_mem_cons.mpr ⟨lk_RX6_65, List.forall_mem_cons.mpr ⟨lk_RX6_68, List.forall_mem_cons.mpr ⟨lk_RX6_71, List.forall_mem_cons.mpr ⟨lk_RX6_72, List.forall_mem_cons.mpr ⟨lk_RX6_76, List.forall_mem_cons.mpr ⟨lk_RX6_80, List.forall_mem_cons.mpr ⟨lk_RX6_83, List.forall_mem_cons.mpr ⟨lk_RX6_87, List.forall_mem_cons.mpr ⟨lk_RX6_91, List.forall_mem_cons.mpr ⟨lk_RX6_94, List.forall_mem_cons.mpr ⟨lk_RX6_98, List.forall_mem_cons.mpr ⟨lk_RX6_102, List.forall_mem_cons.mpr ⟨lk_RX6_106, List.forall_mem_cons.mpr ⟨lk_RX6_109, List.forall_mem_cons.mpr ⟨lk_RX6_113, List.forall_mem_cons.mpr ⟨lk_RX6_117, List.forall_mem_cons.mpr ⟨lk_RX6_120, List.forall_mem_cons.mpr ⟨lk_RX6_123, List.forall_mem_cons.mpr ⟨lk_RX6_126, List.forall_mem_cons.mpr ⟨lk_RX6_129, List.forall_mem_cons.mpr ⟨lk_RX6_132, List.forall_mem_cons.mpr ⟨lk_RX6_135, List.forall_mem_cons.mpr ⟨lk_RX6_138, List.forall_mem_cons.mpr ⟨lk_RX6_141, List.forall_mem_cons.mpr ⟨lk_RX6_144, List.forall_mem_cons.mpr ⟨lk_RX6_147, List.forall_mem_cons.mpr ⟨lk_RX6_150, List.forall_mem_cons.mpr ⟨lk_RX6_153, List.forall_mem_cons.mpr ⟨lk_RX6_156, List.forall_mem_cons.mpr ⟨lk_RX6_159, List.forall_mem_cons.mpr ⟨lk_RX6_162, List.forall_mem_cons.mpr ⟨lk_RX6_166, List.forall_mem_cons.mpr ⟨lk_RX6_169, List.forall_mem_cons.mpr ⟨lk_RX6_173, List.forall_mem_cons.mpr ⟨lk_RX6_176, List.forall_mem_cons.mpr ⟨lk_RX6_179, List.forall_mem_cons.mpr ⟨lk_RX6_183, List.forall_mem_cons.mpr ⟨lk_RX6_187, List.forall_mem_cons.mpr ⟨lk_RX6_190, List.forall_mem_cons.mpr ⟨lk_RX6_194, List.forall_mem_cons.mpr ⟨lk_RX6_197, List.forall_mem_cons.mpr ⟨lk_RX6_200, List.forall_mem_cons.mpr ⟨lk_RX6_203, List.forall_mem_cons.mpr ⟨lk_RX6_207, List.forall_mem_cons.mpr ⟨lk_RX6_212, List.forall_mem_cons.mpr ⟨lk_RX6_215, List.forall_mem_cons.mpr ⟨lk_RX6_218, List.forall_mem_cons.mpr ⟨lk_RX6_222, List.forall_mem_cons.mpr ⟨lk_RX6_226, List.forall_mem_cons.mpr ⟨lk_RX6_229, List.forall_mem_cons.mpr ⟨lk_RX6_233, List.forall_mem_cons.mpr ⟨lk_RX6_237, List.forall_mem_cons.mpr ⟨lk_RX6_238, List.forall_mem_cons.mpr ⟨lk_RX6_239, List.forall_mem_cons.mpr ⟨lk_RX6_242, List.forall_mem_cons.mpr ⟨lk_RX6_245, List.forall_mem_cons.mpr ⟨lk_RX6_248, List.forall_mem_cons.mpr ⟨lk_RX6_251, List.forall_mem_cons.mpr ⟨lk_RX6_257, List.forall_mem_cons.mpr ⟨lk_RX6_258, List.forall_mem_cons.mpr ⟨lk_RX6_261, List.forall_mem_cons.mpr ⟨lk_RX6_262, List.forall_mem_cons.mpr ⟨lk_RX6_263, List.forall_mem_cons.mpr ⟨lk_RX6_264, List.forall_mem_cons.mpr ⟨lk_RX6_267, List.forall_mem_cons.mpr ⟨lk_RX6_270, List.forall_mem_cons.mpr ⟨lk_RX6_274, List.forall_mem_cons.mpr ⟨lk_RX6_277, List.forall_mem_cons.mpr ⟨lk_RX6_280, List.forall_mem_cons.mpr ⟨lk_RX6_285, List.forall_mem_cons.mpr ⟨lk_RX6_288, List.forall_mem_cons.mpr ⟨lk_RX6_291, List.forall_mem_cons.mpr ⟨lk_RX6_294, List.forall_mem_cons.mpr ⟨lk_RX6_297, List.forall_mem_cons.mpr ⟨lk_RX6_301, List.forall_mem_cons.mpr ⟨lk_RX6_304, List.forall_mem_cons.mpr ⟨lk_RX6_307, List.forall_mem_cons.mpr ⟨lk_RX6_310, List.forall_mem_cons.mpr ⟨lk_RX6_317, List.forall_mem_cons.mpr ⟨lk_RX6_320, List.forall_mem_cons.mpr ⟨lk_RX6_325, List.forall_mem_cons.mpr ⟨lk_RX6_328, List.forall_mem_cons.mpr ⟨lk_RX6_331, List.forall_mem_cons.mpr ⟨lk_RX6_335, List.forall_mem_cons.mpr ⟨lk_RX6_338, List.forall_mem_cons.mpr ⟨lk_RX6_341, List.forall_mem_cons.mpr ⟨lk_RX6_344, List.forall_mem_cons.mpr ⟨lk_RX6_346, List.forall_mem_cons.mpr ⟨lk_RX6_349, List.forall_mem_nil _⟩⟩⟩⟩⟩⟩⟩⟩⟩⟩⟩⟩⟩⟩⟩⟩⟩⟩⟩⟩⟩⟩⟩⟩⟩⟩⟩⟩⟩⟩⟩⟩⟩⟩⟩⟩⟩⟩⟩⟩⟩⟩⟩⟩⟩⟩⟩⟩⟩⟩⟩⟩⟩⟩⟩⟩⟩⟩⟩⟩⟩⟩⟩⟩⟩⟩⟩⟩⟩⟩⟩⟩⟩⟩⟩⟩⟩⟩⟩⟩⟩⟩⟩⟩⟩⟩⟩⟩⟩⟩⟩⟩⟩⟩⟩⟩⟩⟩⟩⟩⟩⟩⟩⟩⟩⟩⟩⟩⟩⟩⟩
theorem lk_RX7_1 : mw_okL RX7 1 (9, 0, 0, 0, 0) ∧ mw_okX RX7 1 (9, 0, 0, 0, 0) := ⟨mw_in 1121 (by decide +kernel) (by decide +kernel), trivial⟩
theorem lk_RX7_9 : mw_okL RX7 9 (0, 7, 0, 2, 0) ∧ mw_okX RX7 9 (0, 7, 0, 2, 0) := ⟨⟨_, rfl, by decide, rfl, mw_in 1122 (by decide +kernel) (by decide +kernel), rfl⟩, trivial⟩
theorem lk_RX7_13 : mw_okL RX7 13 (0, 7, 1, 2, 0) ∧ mw_okX RX7 13 (0, 7, 1, 2, 0) := ⟨⟨_, rfl, by decide, rfl, mw_in 1123 (by decide +kernel) (by decide +kernel), rfl⟩, trivial⟩
theorem lk_RX7_16 : mw_okL RX7 16 (0, 7, 2, 2, 0) ∧ mw_okX RX7 16 (0, 7, 2, 2, 0) := ⟨⟨_, rfl, by decide, rfl, mw_in 1124 (by decide +kernel) (by decide +kernel), rfl⟩, trivial⟩
theorem lk_RX7_19 : mw_okL RX7 19 (0, 7, 3, 2, 0) ∧ mw_okX RX7 19 (0, 7, 3, 2, 0) := ⟨⟨_, rfl, by decide, rfl, mw_in 1125 (by decide +kernel) (by decide +kernel), rfl⟩, trivial⟩
theorem lk_RX7_22 : mw_okL RX7 22 (0, 7, 4, 2, 0) ∧ mw_okX RX7 22 (0, 7, 4, 2, 0) := ⟨⟨_, rfl, by decide, rfl, mw_in 1126 (by decide +kernel) (by decide +kernel), rfl⟩, trivial⟩
theorem lk_RX7_25 : mw_okL RX7 25 (0, 7, 5, 2, 0) ∧ mw_okX RX7 25 (0, 7, 5, 2, 0) := ⟨⟨_, rfl, by decide, rfl, mw_in 1127 (by decide +kernel) (by decide +kernel), rfl⟩, trivial⟩
theorem lk_RX7_28 : mw_okL RX7 28 (0, 7, 6, 2, 0) ∧ mw_okX RX7 28 (0, 7, 6, 2, 0) := ⟨⟨_, rfl, by decide, rfl, mw_in 1128 (by decide +kernel) (by decide +kernel), rfl⟩, trivial⟩
theorem lk_RX7_31 : mw_okL RX7 31 (0, 7, 7, 2, 0) ∧ mw_okX RX7 31 (0, 7, 7, 2, 0) := ⟨⟨_, rfl, by decide, rfl, mw_in 1129 (by decide +kernel) (by decide +kernel), rfl⟩, trivial⟩
theorem lk_RX7_34 : mw_okL RX7 34 (0, 7, 8, 2, 0) ∧ mw_okX RX7 34 (0, 7, 8, 2, 0) := ⟨⟨_, rfl, by decide, rfl, mw_in 1130 (by decide +kernel) (by decide +kernel), rfl⟩, trivial⟩
theorem lk_RX7_37 : mw_okL RX7 37 (0, 7, 15, 2, 0) ∧ mw_okX RX7 37 (0, 7, 15, 2, 0) := ⟨⟨_, rfl, by decide, rfl, mw_in 1137 (by decide +kernel) (by decide +kernel), rfl⟩, trivial⟩
theorem lk_RX7_40 : mw_okL RX7 40 (0, 7, 18, 2, 0) ∧ mw_okX RX7 40 (0, 7, 18, 2, 0) := ⟨⟨_, rfl, by decide, rfl, mw_in 1140 (by decide +kernel) (by decide +kernel), rfl⟩, trivial⟩
theorem lk_RX7_43 : mw_okL RX7 43 (0, 7, 19, 2, 0) ∧ mw_okX RX7 43 (0, 7, 19, 2, 0) := ⟨⟨_, rfl, by decide, rfl, mw_in 1141 (by decide +kernel) (by decide +kernel), rfl⟩, trivial⟩
theorem lk_RX7_46 : mw_okL RX7 46 (0, 7, 20, 2, 0) ∧ mw_okX RX7 46 (0, 7, 20, 2, 0) := ⟨⟨_, rfl, by decide, rfl, mw_in 1142 (by decide +kernel) (by decide +kernel), rfl⟩, trivial⟩
theorem lk_RX7_49 : mw_okL RX7 49 (0, 7, 21, 2, 0) ∧ mw_okX RX7 49 (0, 7, 21, 2, 0) := ⟨⟨_, rfl, by decide, rfl, mw_in 1143 (by decide +kernel) (by decide +kernel), rfl⟩, trivial⟩
theorem lk_RX7_52 : mw_okL RX7 52 (0, 7, 22, 2, 0) ∧ mw_okX RX7 52 (0, 7, 22, 2, 0) := ⟨⟨_, rfl, by decide, rfl, mw_in 1144 (by decide +kernel) (by decide +kernel), rfl⟩, trivial⟩
theorem lk_RX7_55 : mw_okL RX7 55 (0, 7, 24, 2, 0) ∧ mw_okX RX7 55 (0, 7, 24, 2, 0) := ⟨⟨_, rfl, by decide, rfl, mw_in 1146 (by decide +kernel) (by decide +kernel), rfl⟩, trivial⟩
theorem lk_RX7_58 : mw_okL RX7 58 (0, 7, 27, 2, 0) ∧ mw_okX RX7 58 (0, 7, 27, 2, 0) := ⟨⟨_, rfl, by decide, rfl, mw_in 1149 (by decide +kernel) (by decide +kernel), rfl⟩, trivial⟩
theorem lk_RX7_62 : mw_okL RX7 62 (0, 7, 28, 2, 0) ∧ mw_okX RX7 62 (0, 7, 28, 2, 0) := ⟨⟨_, rfl, by decide, rfl, mw_in 1150 (by decide +kernel) (by decide +kernel), rfl⟩, trivial⟩
theorem lk_RX7_65 : mw_okL RX7 65 (0, 7, 31, 2, 0) ∧ mw_okX RX7 65 (0, 7, 31, 2, 0) := ⟨⟨_, rfl, by decide, rfl, mw_in 1153 (by decide +kernel) (by decide +kernel), rfl⟩, trivial⟩
theorem lk_RX7_68 : mw_okL RX7 68 (0, 7, 32, 2, 0) ∧ mw_okX RX7 68 (0, 7, 32, 2, 0) := ⟨⟨_, rfl, by decide, rfl, mw_in 1154 (by decide +kernel) (by decide +kernel), rfl⟩, trivial⟩
theorem lk_RX7_71 : mw_okL RX7 71 (0, 7, 33, 2, 0) ∧ mw_okX RX7 71 (0, 7, 33, 2, 0) := ⟨⟨_, rfl, by decide, rfl, mw_in 1155 (by decide +kernel) (by decide +kernel), rfl⟩, trivial⟩
theorem lk_RX7_74 : mw_okL RX7 74 (0, 7, 34, 2, 0) ∧ mw_okX RX7 74 (0, 7, 34, 2, 0) := ⟨⟨_, rfl, by decide, rfl, mw_in 1156 (by decide +kernel) (by decide +kernel), rfl⟩, trivial⟩
theorem lk_RX7_77 : mw_okL RX7 77 (0, 7, 35, 2, 0) ∧ mw_okX RX7 77 (0, 7, 35, 2, 0) := ⟨⟨_, rfl, by decide, rfl, mw_in 1157 (by decide +kernel) (by decide +kernel), rfl⟩, trivial⟩
theorem lk_RX7_80 : mw_okL RX7 80 (0, 7, 10, 0, 0) ∧ mw_okX RX7 80 (0, 7, 10, 0, 0) := ⟨⟨_, rfl, by decide, rfl, mw_in 1132 (by decide +kernel) (by decide +kernel), rfl⟩, trivial⟩
theorem lk_RX7_84 : mw_okL RX7 84 (1, 135, 0, 1, 7) ∧ mw_okX RX7 84 (1, 135, 0, 1, 7) := ⟨⟨_, mI_135_e, by decide, by decide, by decide, by decide, mI_135_k, rfl, mw_in 1306 (by decide +kernel) (by decide +kernel), rfl, _, rfl, rfl⟩, trivial⟩
theorem lk_RX7_88 : mw_okL RX7 88 (2, 134, 3, 1, 0) ∧ mw_okX RX7 88 (2, 134, 3, 1, 0) := ⟨⟨_, mI_134_e, by decide, by decide, by decide, by decide, mI_134_k, rfl, mw_in 1247 (by decide +kernel) (by decide +kernel), rfl⟩, trivial⟩
theorem lk_RX7_92 : mw_okL RX7 92 (21, 0, 0, 0, 7) ∧ mw_okX RX7 92 (21, 0, 0, 0, 7) := ⟨mw_in 1246 (by decide +kernel) (by decide +kernel), trivial⟩
theorem lk_RX7_94 : mw_okL RX7 94 (2, 139, 1, 1, 0) ∧ mw_okX RX7 94 (2, 139, 1, 1, 0) := ⟨⟨_, mI_139_e, by decide, by decide, by decide, by decide, mI_139_k, rfl, mw_in 1362 (by decide +kernel) (by decide +kernel), rfl⟩, trivial⟩
theorem lk_RX7_98 : mw_okL RX7 98 (0, 7, 11, 0, 0) ∧ mw_okX RX7 98 (0, 7, 11, 0, 0) := ⟨⟨_, rfl, by decide, rfl, mw_in 1133 (by decide +kernel) (by decide +kernel), rfl⟩, trivial⟩
theorem lk_RX7_101 : mw_okL RX7 101 (0, 7, 13, 0, 0) ∧ mw_okX RX7 101 (0, 7, 13, 0, 0) := ⟨⟨_, rfl, by decide, rfl, mw_in 1135 (by decide +kernel) (by decide +kernel), rfl⟩, trivial⟩
theorem lk_RX7_104 : mw_okL RX7 104 (0, 7, 12, 0, 0) ∧ mw_okX RX7 104 (0, 7, 12, 0, 0) := ⟨⟨_, rfl, by decide, rfl, mw_in 1134 (by decide +kernel) (by decide +kernel), rfl⟩, trivial⟩
theorem lk_RX7_107 : mw_okL RX7 107 (1, 144, 0, 1, 7) ∧ mw_okX RX7 107 (1, 144, 0, 1, 7) := ⟨⟨_, mI_144_e, by decide, by decide, by decide, by decide, mI_144_k, rfl, mw_in 1254 (by decide +kernel) (by decide +kernel), rfl, _, rfl, rfl⟩, trivial⟩
theorem lk_RX7_110 : mw_okL RX7 110 (21, 0, 0, 0, 48) ∧ mw_okX RX7 110 (21, 0, 0, 0, 48) := ⟨mw_in 1266 (by decide +kernel) (by decide +kernel), trivial⟩
theorem lk_RX7_112 : mw_okL RX7 112 (21, 0, 0, 0, 57) ∧ mw_okX RX7 112 (21, 0, 0, 0, 57) := ⟨mw_in 1267 (by decide +kernel) (by decide +kernel), trivial⟩
theorem lk_RX7_114 : mw_okL RX7 114 (1, 145, 0, 1, 7) ∧ mw_okX RX7 114 (1, 145, 0, 1, 7) := ⟨⟨_, mI_145_e, by decide, by decide, by decide, by decide, mI_145_k, rfl, mw_in 1262 (by decide +kernel) (by decide +kernel), rfl, _, rfl, rfl⟩, trivial⟩
theorem lk_RX7_118 : mw_okL RX7 118 (0, 7, 14, 0, 0) ∧ mw_okX RX7 118 (0, 7, 14, 0, 0) := ⟨⟨_, rfl, by decide, rfl, mw_in 1136 (by decide +kernel) (by decide +kernel), rfl⟩, trivial⟩
theorem lk_RX7_121 : mw_okL RX7 121 (1, 147, 1, 1, 7) ∧ mw_okX RX7 121 (1, 147, 1, 1, 7) := ⟨⟨_, mI_147_e, by decide, by decide, by decide, by decide, mI_147_k, rfl, mw_in 1258 (by decide +kernel) (by decide +kernel), rfl, _, rfl, rfl⟩, trivial⟩
theorem lk_RX7_125 : mw_okL RX7 125 (1, 146, 1, 1, 7) ∧ mw_okX RX7 125 (1, 146, 1, 1, 7) := ⟨⟨_, mI_146_e, by decide, by decide, by decide, by decide, mI_146_k, rfl, mw_in 1268 (by decide +kernel) (by decide +kernel), rfl, _, rfl, rfl⟩, trivial⟩
theorem lk_RX7_128 : mw_okL RX7 128 (21, 0, 0, 0, 2) ∧ mw_okX RX7 128 (21, 0, 0, 0, 2) := ⟨mw_in 1280 (by decide +kernel) (by decide +kernel), trivial⟩
theorem lk_RX7_130 : mw_okL RX7 130 (21, 0, 0, 0, 4) ∧ mw_okX RX7 130 (21, 0, 0, 0, 4) := ⟨mw_in 1281 (by decide +kernel) (by decide +kernel), trivial⟩
theorem lk_RX7_132 : mw_okL RX7 132 (1, 149, 2, 1, 7) ∧ mw_okX RX7 132 (1, 149, 2, 1, 7) := ⟨⟨_, mI_149_e, by decide, by decide, by decide, by decide, mI_149_k, rfl, mw_in 1276 (by decide +kernel) (by decide +kernel), rfl, _, rfl, rfl⟩, trivial⟩
theorem lk_RX7_136 : mw_okL RX7 136 (21, 0, 0, 0, 99) ∧ mw_okX RX7 136 (21, 0, 0, 0, 99) := ⟨mw_in 1282 (by decide +kernel) (by decide +kernel), trivial⟩
theorem lk_RX7_138 : mw_okL RX7 138 (2, 138, 1, 1, 0) ∧ mw_okX RX7 138 (2, 138, 1, 1, 0) := ⟨⟨_, mI_138_e, by decide, by decide, by decide, by decide, mI_138_k, rfl, mw_in 1243 (by decide +kernel) (by decide +kernel), rfl⟩, trivial⟩
theorem lk_RX7_141 : mw_okL RX7 141 (1, 151, 2, 1, 7) ∧ mw_okX RX7 141 (1, 151, 2, 1, 7) := ⟨⟨_, mI_151_e, by decide, by decide, by decide, by decide, mI_151_k, rfl, mw_in 1239 (by decide +kernel) (by decide +kernel), rfl, _, rfl, rfl⟩, trivial⟩
theorem lk_RX7_145 : mw_okL RX7 145 (1, 148, 0, 1, 7) ∧ mw_okX RX7 145 (1, 148, 0, 1, 7) := ⟨⟨_, mI_148_e, by decide, by decide, by decide, by decide, mI_148_k, rfl, mw_in 1250 (by decide +kernel) (by decide +kernel), rfl, _, rfl, rfl⟩, trivial⟩
theorem lk_RX7_148 : mw_okL RX7 148 (1, 150, 1, 1, 7) ∧ mw_okX RX7 148 (1, 150, 1, 1, 7) := ⟨⟨_, mI_150_e, by decide, by decide, by decide, by decide, mI_150_k, rfl, mw_in 1272 (by decide +kernel) (by decide +kernel), rfl, _, rfl, rfl⟩, trivial⟩
theorem lk_RX7_151 : mw_okL RX7 151 (0, 7, 17, 0, 0) ∧ mw_okX RX7 151 (0, 7, 17, 0, 0) := ⟨⟨_, rfl, by decide, rfl, mw_in 1139 (by decide +kernel) (by decide +kernel), rfl⟩, trivial⟩
theorem lk_RX7_154 : mw_okL RX7 154 (0, 7, 16, 0, 0) ∧ mw_okX RX7 154 (0, 7, 16, 0, 0) := ⟨⟨_, rfl, by decide, rfl, mw_in 1138 (by decide +kernel) (by decide +kernel), rfl⟩, trivial⟩
theorem lk_RX7_157 : mw_okL RX7 157 (1, 153, 0, 0, 7) ∧ mw_okX RX7 157 (1, 153, 0, 0, 7) := ⟨⟨_, mI_153_e, by decide, by decide, by decide, by decide, mI_153_k, rfl, mw_in 1291 (by decide +kernel) (by decide +kernel), rfl, _, rfl, rfl⟩, trivial⟩
theorem lk_RX7_160 : mw_okL RX7 160 (1, 154, 0, 1, 7) ∧ mw_okX RX7 160 (1, 154, 0, 1, 7) := ⟨⟨_, mI_154_e, by decide, by decide, by decide, by decide, mI_154_k, rfl, mw_in 1287 (by decide +kernel) (by decide +kernel), rfl, _, rfl, rfl⟩, trivial⟩
theorem lk_RX7_163 : mw_okL RX7 163 (2, 141, 1, 1, 0) ∧ mw_okX RX7 163 (2, 141, 1, 1, 0) := ⟨⟨_, mI_141_e, by decide, by decide, by decide, by decide, mI_141_k, rfl, mw_in 1295 (by decide +kernel) (by decide +kernel), rfl⟩, trivial⟩
theorem lk_RX7_166 : mw_okL RX7 166 (1, 136, 1, 1, 7) ∧ mw_okX RX7 166 (1, 136, 1, 1, 7) := ⟨⟨_, mI_136_e, by decide, by decide, by decide, by decide, mI_136_k, rfl, mw_in 1302 (by decide +kernel) (by decide +kernel), rfl, _, rfl, rfl⟩, trivial⟩
theorem lk_RX7_169 : mw_okL RX7 169 (1, 142, 1, 1, 7) ∧ mw_okX RX7 169 (1, 142, 1, 1, 7) := ⟨⟨_, mI_142_e, by decide, by decide, by decide, by decide, mI_142_k, rfl, mw_in 1310 (by decide +kernel) (by decide +kernel), rfl, _, rfl, rfl⟩, trivial⟩
theorem lk_RX7_172 : mw_okL RX7 172 (21, 0, 0, 0, 5) ∧ mw_okX RX7 172 (21, 0, 0, 0, 5) := ⟨mw_in 1318 (by decide +kernel) (by decide +kernel), trivial⟩
theorem lk_RX7_174 : mw_okL RX7 174 (21, 0, 0, 0, 999) ∧ mw_okX RX7 174 (21, 0, 0, 0, 999) := ⟨mw_in 1323 (by decide +kernel) (by decide +kernel), trivial⟩
theorem lk_RX7_176 : mw_okL RX7 176 (21, 0, 0, 0, (-1)) ∧ mw_okX RX7 176 (21, 0, 0, 0, (-1)) := ⟨mw_in 1328 (by decide +kernel) (by decide +kernel), trivial⟩
theorem lk_RX7_178 : mw_okL RX7 178 (21, 0, 0, 0, 9) ∧ mw_okX RX7 178 (21, 0, 0, 0, 9) := ⟨mw_in 1329 (by decide +kernel) (by decide +kernel), trivial⟩
theorem lk_RX7_180 : mw_okL RX7 180 (1, 160, 1, 1, 7) ∧ mw_okX RX7 180 (1, 160, 1, 1, 7) := ⟨⟨_, mI_160_e, by decide, by decide, by decide, by decide, mI_160_k, rfl, mw_in 1334 (by decide +kernel) (by decide +kernel), rfl, _, rfl, rfl⟩, trivial⟩
theorem lk_RX7_183 : mw_okL RX7 183 (1, 161, 2, 1, 7) ∧ mw_okX RX7 183 (1, 161, 2, 1, 7) := ⟨⟨_, mI_161_e, by decide, by decide, by decide, by decide, mI_161_k, rfl, mw_in 1338 (by decide +kernel) (by decide +kernel), rfl, _, rfl, rfl⟩, trivial⟩
theorem lk_RX7_186 : mw_okL RX7 186 (1, 162, 0, 1, 7) ∧ mw_okX RX7 186 (1, 162, 0, 1, 7) := ⟨⟨_, mI_162_e, by decide, by decide, by decide, by decide, mI_162_k, rfl, mw_in 1342 (by decide +kernel) (by decide +kernel), rfl, _, rfl, rfl⟩, trivial⟩
theorem lk_RX7_189 : mw_okL RX7 189 (1, 143, 2, 1, 7) ∧ mw_okX RX7 189 (1, 143, 2, 1, 7) := ⟨⟨_, mI_143_e, by decide, by decide, by decide, by decide, mI_143_k, rfl, mw_in 1358 (by decide +kernel) (by decide +kernel), rfl, _, rfl, rfl⟩, trivial⟩
theorem lk_RX7_192 : mw_okL RX7 192 (1, 164, 2, 1, 7) ∧ mw_okX RX7 192 (1, 164, 2, 1, 7) := ⟨⟨_, mI_164_e, by decide, by decide, by decide, by decide, mI_164_k, rfl, mw_in 1350 (by decide +kernel) (by decide +kernel), rfl, _, rfl, rfl⟩, trivial⟩
theorem lk_RX7_195 : mw_okL RX7 195 (1, 165, 2, 1, 7) ∧ mw_okX RX7 195 (1, 165, 2, 1, 7) := ⟨⟨_, mI_165_e, by decide, by decide, by decide, by decide, mI_165_k, rfl, mw_in 1354 (by decide +kernel) (by decide +kernel), rfl, _, rfl, rfl⟩, trivial⟩
theorem lk_RX7_198 : mw_okL RX7 198 (1, 167, 2, 1, 7) ∧ mw_okX RX7 198 (1, 167, 2, 1, 7) := ⟨⟨_, mI_167_e, by decide, by decide, by decide, by decide, mI_167_k, rfl, mw_in 1369 (by decide +kernel) (by decide +kernel), rfl, _, rfl, rfl⟩, trivial⟩
theorem lk_RX7_201 : mw_okL RX7 201 (1, 166, 2, 0, 7) ∧ mw_okX RX7 201 (1, 166, 2, 0, 7) := ⟨⟨_, mI_166_e, by decide, by decide, by decide, by decide, mI_166_k, rfl, mw_in 1370 (by decide +kernel) (by decide +kernel), rfl, _, rfl, rfl⟩, trivial⟩
theorem lk_RX7_205 : mw_okL RX7 205 (1, 169, 1, 1, 7) ∧ mw_okX RX7 205 (1, 169, 1, 1, 7) := ⟨⟨_, mI_169_e, by decide, by decide, by decide, by decide, mI_169_k, rfl, mw_in 1378 (by decide +kernel) (by decide +kernel), rfl, _, rfl, rfl⟩, trivial⟩
theorem lk_RX7_208 : mw_okL RX7 208 (20, 0, 0, 0, 1000000) ∧ mw_okX RX7 208 (20, 0, 0, 0, 1000000) := ⟨mw_in 1394 (by decide +kernel) (by decide +kernel), trivial⟩
theorem lk_RX7_209 : mw_okL RX7 209 (0, 7, 23, 0, 0) ∧ mw_okX RX7 209 (0, 7, 23, 0, 0) := ⟨⟨_, rfl, by decide, rfl, mw_in 1145 (by decide +kernel) (by decide +kernel), rfl⟩, trivial⟩
theorem lk_RX7_212 : mw_okL RX7 212 (1, 171, 0, 1, 7) ∧ mw_okX RX7 212 (1, 171, 0, 1, 7) := ⟨⟨_, mI_171_e, by decide, by decide, by decide, by decide, mI_171_k, rfl, mw_in 1390 (by decide +kernel) (by decide +kernel), rfl, _, rfl, rfl⟩, trivial⟩
theorem lk_RX7_215 : mw_okL RX7 215 (1, 172, 0, 1, 7) ∧ mw_okX RX7 215 (1, 172, 0, 1, 7) := ⟨⟨_, mI_172_e, by decide, by decide, by decide, by decide, mI_172_k, rfl, mw_in 1386 (by decide +kernel) (by decide +kernel), rfl, _, rfl, rfl⟩, trivial⟩
theorem lk_RX7_218 : mw_okL RX7 218 (1, 175, 0, 0, 7) ∧ mw_okX RX7 218 (1, 175, 0, 0, 7) := ⟨⟨_, mI_175_e, by decide, by decide, by decide, by decide, mI_175_k, rfl, mw_in 1399 (by decide +kernel) (by decide +kernel), rfl, _, rfl, rfl⟩, trivial⟩
theorem lk_RX7_221 : mw_okL RX7 221 (1, 176, 0, 0, 7) ∧ mw_okX RX7 221 (1, 176, 0, 0, 7) := ⟨⟨_, mI_176_e, by decide, by decide, by decide, by decide, mI_176_k, rfl, mw_in 1403 (by decide +kernel) (by decide +kernel), rfl, _, rfl, rfl⟩, trivial⟩
theorem lk_RX7_224 : mw_okL RX7 224 (0, 7, 25, 0, 0) ∧ mw_okX RX7 224 (0, 7, 25, 0, 0) := ⟨⟨_, rfl, by decide, rfl, mw_in 1147 (by decide +kernel) (by decide +kernel), rfl⟩, trivial⟩
theorem lk_RX7_227 : mw_okL RX7 227 (0, 7, 26, 0, 0) ∧ mw_okX RX7 227 (0, 7, 26, 0, 0) := ⟨⟨_, rfl, by decide, rfl, mw_in 1148 (by decide +kernel) (by decide +kernel), rfl⟩, trivial⟩
theorem lk_RX7_230 : mw_okL RX7 230 (1, 177, 1, 1, 7) ∧ mw_okX RX7 230 (1, 177, 1, 1, 7) := ⟨⟨_, mI_177_e, by decide, by decide, by decide, by decide, mI_177_k, rfl, mw_in 1415 (by decide +kernel) (by decide +kernel), rfl, _, rfl, rfl⟩, trivial⟩
theorem lk_RX7_233 : mw_okL RX7 233 (1, 178, 1, 1, 7) ∧ mw_okX RX7 233 (1, 178, 1, 1, 7) := ⟨⟨_, mI_178_e, by decide, by decide, by decide, by decide, mI_178_k, rfl, mw_in 1419 (by decide +kernel) (by decide +kernel), rfl, _, rfl, rfl⟩, trivial⟩
theorem lk_RX7_236 : mw_okL RX7 236 (1, 179, 0, 0, 7) ∧ mw_okX RX7 236 (1, 179, 0, 0, 7) := ⟨⟨_, mI_179_e, by decide, by decide, by decide, by decide, mI_179_k, rfl, mw_in 1411 (by decide +kernel) (by decide +kernel), rfl, _, rfl, rfl⟩, trivial⟩
theorem lk_RX7_239 : mw_okL RX7 239 (1, 140, 2, 1, 7) ∧ mw_okX RX7 239 (1, 140, 2, 1, 7) := ⟨⟨_, mI_140_e, by decide, by decide, by decide, by decide, mI_140_k, rfl, mw_in 1431 (by decide +kernel) (by decide +kernel), rfl, _, rfl, rfl⟩, trivial⟩
theorem lk_RX7_242 : mw_okL RX7 242 (1, 181, 1, 1, 7) ∧ mw_okX RX7 242 (1, 181, 1, 1, 7) := ⟨⟨_, mI_181_e, by decide, by decide, by decide, by decide, mI_181_k, rfl, mw_in 1435 (by decide +kernel) (by decide +kernel), rfl, _, rfl, rfl⟩, trivial⟩
theorem lk_RX7_245 : mw_okL RX7 245 (1, 137, 1, 1, 7) ∧ mw_okX RX7 245 (1, 137, 1, 1, 7) := ⟨⟨_, mI_137_e, by decide, by decide, by decide, by decide, mI_137_k, rfl, mw_in 1427 (by decide +kernel) (by decide +kernel), rfl, _, rfl, rfl⟩, trivial⟩
theorem lk_RX7_248 : mw_okL RX7 248 (1, 186, 2, 0, 7) ∧ mw_okX RX7 248 (1, 186, 2, 0, 7) := ⟨⟨_, mI_186_e, by decide, by decide, by decide, by decide, mI_186_k, rfl, mw_in 1447 (by decide +kernel) (by decide +kernel), rfl, _, rfl, rfl⟩, trivial⟩
theorem lk_RX7_251 : mw_okL RX7 251 (0, 7, 29, 0, 0) ∧ mw_okX RX7 251 (0, 7, 29, 0, 0) := ⟨⟨_, rfl, by decide, rfl, mw_in 1151 (by decide +kernel) (by decide +kernel), rfl⟩, trivial⟩
theorem lk_RX7_254 : mw_okL RX7 254 (0, 7, 30, 0, 0) ∧ mw_okX RX7 254 (0, 7, 30, 0, 0) := ⟨⟨_, rfl, by decide, rfl, mw_in 1152 (by decide +kernel) (by decide +kernel), rfl⟩, trivial⟩
theorem lk_RX7_257 : mw_okL RX7 257 (1, 182, 0, 1, 7) ∧ mw_okX RX7 257 (1, 182, 0, 1, 7) := ⟨⟨_, mI_182_e, by decide, by decide, by decide, by decide, mI_182_k, rfl, mw_in 1455 (by decide +kernel) (by decide +kernel), rfl, _, rfl, rfl⟩, trivial⟩
theorem lk_RX7_260 : mw_okL RX7 260 (1, 184, 1, 1, 7) ∧ mw_okX RX7 260 (1, 184, 1, 1, 7) := ⟨⟨_, mI_184_e, by decide, by decide, by decide, by decide, mI_184_k, rfl, mw_in 1459 (by decide +kernel) (by decide +kernel), rfl, _, rfl, rfl⟩, trivial⟩
theorem lk_RX7_263 : mw_okL RX7 263 (1, 185, 3, 1, 7) ∧ mw_okX RX7 263 (1, 185, 3, 1, 7) := ⟨⟨_, mI_185_e, by decide, by decide, by decide, by decide, mI_185_k, rfl, mw_in 1451 (by decide +kernel) (by decide +kernel), rfl, _, rfl, rfl⟩, trivial⟩
theorem lk_RX7_267 : mw_okL RX7 267 (1, 187, 1, 0, 7) ∧ mw_okX RX7 267 (1, 187, 1, 0, 7) := ⟨⟨_, mI_187_e, by decide, by decide, by decide, by decide, mI_187_k, rfl, mw_in 1443 (by decide +kernel) (by decide +kernel), rfl, _, rfl, rfl⟩, trivial⟩
theorem lk_RX7_271 : mw_okL RX7 271 (1, 191, 0, 0, 7) ∧ mw_okX RX7 271 (1, 191, 0, 0, 7) := ⟨⟨_, mI_191_e, by decide, by decide, by decide, by decide, mI_191_k, rfl, mw_in 1467 (by decide +kernel) (by decide +kernel), rfl, _, rfl, rfl⟩, trivial⟩
theorem lk_RX7_274 : mw_okL RX7 274 (1, 189, 1, 1, 7) ∧ mw_okX RX7 274 (1, 189, 1, 1, 7) := ⟨⟨_, mI_189_e, by decide, by decide, by decide, by decide, mI_189_k, rfl, mw_in 1471 (by decide +kernel) (by decide +kernel), rfl, _, rfl, rfl⟩, trivial⟩
theorem lk_RX7_277 : mw_okL RX7 277 (1, 190, 0, 1, 7) ∧ mw_okX RX7 277 (1, 190, 0, 1, 7) := ⟨⟨_, mI_190_e, by decide, by decide, by decide, by decide, mI_190_k, rfl, mw_in 1475 (by decide +kernel) (by decide +kernel), rfl, _, rfl, rfl⟩, trivial⟩
theorem lk_RX7_280 : mw_okL RX7 280 (1, 193, 0, 0, 7) ∧ mw_okX RX7 280 (1, 193, 0, 0, 7) := ⟨⟨_, mI_193_e, by decide, by decide, by decide, by decide, mI_193_k, rfl, mw_in 1483 (by decide +kernel) (by decide +kernel), rfl, _, rfl, rfl⟩, trivial⟩
theorem lk_RX7_283 : mw_okL RX7 283 (1, 194, 0, 0, 7) ∧ mw_okX RX7 283 (1, 194, 0, 0, 7) := ⟨⟨_, mI_194_e, by decide, by decide, by decide, by decide, mI_194_k, rfl, mw_in 1487 (by decide +kernel) (by decide +kernel), rfl, _, rfl, rfl⟩, trivial⟩
theorem lk_RX7_286 : mw_okL RX7 286 (21, 0, 0, 0, 30) ∧ mw_okX RX7 286 (21, 0, 0, 0, 30) := ⟨mw_in 1499 (by decide +kernel) (by decide +kernel), trivial⟩
theorem lk_RX7_288 : mw_okL RX7 288 (20, 0, 0, 0, 1103515245) ∧ mw_okX RX7 288 (20, 0, 0, 0, 1103515245) := ⟨mw_in 1500 (by decide +kernel) (by decide +kernel), trivial⟩
theorem lk_RX7_289 : mw_okL RX7 289 (20, 0, 0, 0, 2147483647) ∧ mw_okX RX7 289 (20, 0, 0, 0, 2147483647) := ⟨mw_in 1501 (by decide +kernel) (by decide +kernel), trivial⟩
theorem lk_RX7_290 : mw_okL RX7 290 (20, 0, 0, 0, 65536) ∧ mw_okX RX7 290 (20, 0, 0, 0, 65536) := ⟨mw_in 1502 (by decide +kernel) (by decide +kernel), trivial⟩
theorem lk_RX7_291 : mw_okL RX7 291 (20, 0, 0, 0, (-1000000001)) ∧ mw_okX RX7 291 (20, 0, 0, 0, (-1000000001)) := ⟨mw_in 1511 (by decide +kernel) (by decide +kernel), trivial⟩
theorem lk_RX7_292 : mw_okL RX7 292 (1, 199, 1, 1, 7) ∧ mw_okX RX7 292 (1, 199, 1, 1, 7) := ⟨⟨_, mI_199_e, by decide, by decide, by decide, by decide, mI_199_k, rfl, mw_in 1512 (by decide +kernel) (by decide +kernel), rfl, _, rfl, rfl⟩, trivial⟩
theorem lk_RX7_295 : mw_okL RX7 295 (20, 0, 0, 0, (-1000000003)) ∧ mw_okX RX7 295 (20, 0, 0, 0, (-1000000003)) := ⟨mw_in 1516 (by decide +kernel) (by decide +kernel), trivial⟩
theorem lk_RX7_296 : mw_okL RX7 296 (20, 0, 0, 0, (-1000000004)) ∧ mw_okX RX7 296 (20, 0, 0, 0, (-1000000004)) := ⟨mw_in 1517 (by decide +kernel) (by decide +kernel), trivial⟩
theorem lk_RX7_297 : mw_okL RX7 297 (20, 0, 0, 0, (-2147483648)) ∧ mw_okX RX7 297 (20, 0, 0, 0, (-2147483648)) := ⟨mw_in 1534 (by decide +kernel) (by decide +kernel), trivial⟩
theorem lk_RX7_298 : mw_okL RX7 298 (1, 203, 1, 1, 7) ∧ mw_okX RX7 298 (1, 203, 1, 1, 7) := ⟨⟨_, mI_203_e, by decide, by decide, by decide, by decide, mI_203_k, rfl, mw_in 1530 (by decide +kernel) (by decide +kernel), rfl, _, rfl, rfl⟩, trivial⟩
theorem lk_RX7_301 : mw_okL RX7 301 (0, 7, 9, 1, 0) ∧ mw_okX RX7 301 (0, 7, 9, 1, 0) := ⟨⟨_, rfl, by decide, rfl, mw_in 1131 (by decide +kernel) (by decide +kernel), rfl⟩, trivial⟩
theorem lk_RX7_305 : mw_okL RX7 305 (2, 208, 2, 1, 0) ∧ mw_okX RX7 305 (2, 208, 2, 1, 0) := ⟨⟨_, mI_208_e, by decide, by decide, by decide, by decide, mI_208_k, rfl, mw_in 1551 (by decide +kernel) (by decide +kernel), rfl⟩, trivial⟩
theorem lk_RX7_308 : mw_okL RX7 308 (1, 214, 1, 1, 7) ∧ mw_okX RX7 308 (1, 214, 1, 1, 7) := ⟨⟨_, mI_214_e, by decide, by decide, by decide, by decide, mI_214_k, rfl, mw_in 1574 (by decide +kernel) (by decide +kernel), rfl, _, rfl, rfl⟩, trivial⟩
theorem lk_RX7_ok : ∀ q ∈ lk_RX7, mw_okL RX7 q.1 q.2 ∧ mw_okX RX7 q.1 q.2 := List.forall_mem_cons.mpr ⟨lk_RX7_1, List.forall_mem_cons.mpr ⟨lk_RX7_9, List.forall_mem_cons.mpr ⟨lk_RX7_13, List.forall_mem_cons.mpr ⟨lk_RX7_16, List.forall_mem_cons.mpr ⟨lk_RX7_19, List.forall_mem_cons.mpr ⟨lk_RX7_22, List.forall_mem_cons.mpr ⟨lk_RX7_25, List.forall_mem_cons.mpr ⟨lk_RX7_28, List.forall_mem_cons.mpr ⟨lk_RX7_31, List.forall_mem_cons.mpr ⟨lk_RX7_34, List.forall_mem_cons.mpr ⟨lk_RX7_37, List.forall_mem_cons.mpr ⟨lk_RX7_40, List.forall_mem_cons.mpr ⟨lk_RX7_43, List.forall_mem_cons.mpr ⟨lk_RX7_46, List.forall_mem_cons.mpr ⟨lk_RX7_49, List.forall_mem_cons.mpr ⟨lk_RX7_52, List.forall_mem_cons.mpr ⟨lk_RX7_55, List.forall_mem_cons.mpr ⟨lk_RX7_58, List.forall_mem_cons.mpr ⟨lk_RX7_62, List.forall_mem_cons.mpr ⟨lk_RX7_65, List.forall_mem_cons.mpr ⟨lk_RX7_68, List.forall_mem_cons.mpr ⟨lk_RX7_71, List.forall_mem_cons.mpr ⟨lk_RX7_74, List.forall_mem_cons.mpr ⟨lk_RX7_77, List.forall_mem_cons.mpr ⟨lk_RX7_80, List.forall_mem_cons.mpr ⟨lk_RX7_84, List.forall_mem_cons.mpr ⟨lk_RX7_88, List.forall_mem_cons.mpr ⟨lk_RX7_92, List.forall_mem_cons.mpr ⟨lk_RX7_94, List.forall_mem_cons.mpr ⟨lk_RX7_98, List.forall_mem_cons.mpr ⟨lk_RX7_101, List.forall_mem_cons.mpr ⟨lk_RX7_104, List.forall_mem_cons.mpr ⟨lk_RX7_107, List.forall_mem_cons.mpr ⟨lk_RX7_110, List.forall_mem_cons.mpr ⟨lk_RX7_112, List.forall_mem_cons.mpr ⟨lk_RX7_114, List.forall_mem_cons.mpr ⟨lk_RX7_118, List.forall_mem_cons.mpr ⟨lk_RX7_121, List.forall_mem_cons.mpr ⟨lk_RX7_125, List.forall_mem_cons.mpr ⟨lk_RX7_128, List.forall_mem_cons.mpr ⟨lk_RX7_130, List.forall_mem_cons.mpr ⟨lk_RX7_132, List.forall_mem_cons.mpr ⟨lk_RX7_136, List.forall_mem_cons.mpr ⟨lk_RX7_138, List.forall_mem_cons.mpr ⟨lk_RX7_141, List.forall_mem_cons.mpr ⟨lk_RX7_145, List.forall_mem_cons.mpr ⟨lk_RX7_148, List.forall_mem_cons.mpr ⟨lk_RX7_151, List.forall_mem_cons.mpr ⟨lk_RX7_154, List.forall_mem_cons.mpr ⟨lk_RX7_157, List.forall_mem_cons.mpr ⟨lk_RX7_160, List.forall_mem_cons.mpr ⟨lk_RX7_163, List.forall_mem_cons.mpr ⟨lk_RX7_166, List.forall_mem_cons.mpr ⟨lk_RX7_169, List.forall_mem_cons.mpr ⟨lk_RX7_172, List.forall_mem_cons.mpr ⟨lk_RX7_174, List.forall_mem_cons.mpr ⟨lk_RX7_176, List.forall_mem_cons.mpr ⟨lk_RX7_178, List.forall_mem_cons.mpr ⟨lk_RX7_180, List.forall_mem_cons.mpr ⟨lk_RX7_183, List.forall_mem_cons.mpr ⟨lk_RX7_186, List.forall_mem_cons.mpr ⟨lk_RX7_189, List.forall_mem_cons.mpr ⟨lk_RX7_192, List.forall_mem_cons.mpr ⟨lk_RX7_195, List.forall_mem_cons.mpr ⟨lk_RX7_198, List.forall_mem_cons.mpr ⟨lk_RX7_201, List.forall_mem_cons.mpr ⟨lk_RX7_205, List.forall_mem_cons.mpr ⟨lk_RX7_208, List.forall_mem_cons.mpr ⟨lk_RX7_209, List.forall_mem_cons.mpr ⟨lk_RX7_212, List.forall_mem_cons.mpr ⟨lk_RX7_215, List.forall_mem_cons.mpr ⟨lk_RX7_218, List.forall_mem_cons.mpr ⟨lk_RX7_221, List.forall_mem_cons.mpr ⟨lk_RX7_224, List.forall_mem_cons.mpr ⟨lk_RX7_227, List.forall_mem_cons.mpr ⟨lk_RX7_230, List.forall_mem_cons.mpr ⟨lk_RX7_233, List.forall_mem_cons.mpr ⟨lk_RX7_236, List.forall_mem_cons.mpr ⟨lk_RX7_239, List.forall_mem_cons.mpr ⟨lk_RX7_242, List.forall_mem_cons.mpr ⟨lk_RX7_245, List.forall_mem_cons.mpr ⟨lk_RX7_248, List.forall_mem_cons.mpr ⟨lk_RX7_251, List.forall_mem_cons.mpr ⟨lk_RX7_254, List.forall_mem_cons.mpr ⟨lk_RX7_257, List.forall_mem_cons.mpr ⟨lk_RX7_260, List.forall_mem_cons.mpr ⟨lk_RX7_263, List.forall_mem_cons.mpr ⟨lk_RX7_267, List.forall_mem_cons.mpr ⟨lk_RX7_271, List.forall_mem_cons.mpr ⟨lk_RX7_274, List.forall_mem_cons.mpr ⟨lk_RX7_277, List.forall_mem_cons.mpr ⟨lk_RX7_280, List.forall_mem_cons.mpr ⟨lk_RX7_283, List.forall_mem_cons.mpr ⟨lk_RX7_286, List.forall_mem_cons.mpr ⟨lk_RX7_288, List.forall_mem_cons.mpr ⟨lk_RX7_289, List.forall_mem_cons.mpr ⟨lk_RX7_290, List.forall_mem_cons.mpr ⟨lk_RX7_291, List.forall_mem_cons.mpr ⟨lk_RX7_292, List.forall_mem_cons.mpr ⟨lk_RX7_295, List.forall_mem_cons.mpr ⟨lk_RX7_296, List.forall_mem_cons.mpr ⟨lk_RX7_297, List.forall_mem_cons.mpr ⟨lk_RX7_298, List.forall_mem_cons.mpr ⟨lk_RX7_301, List.forall_mem_cons.mpr ⟨lk_RX7_305, List.forall_mem_cons.mpr ⟨lk_RX7_308, List.forall_mem_nil _⟩⟩⟩⟩⟩⟩⟩⟩⟩⟩⟩⟩⟩⟩⟩⟩⟩⟩⟩⟩⟩⟩⟩⟩⟩⟩⟩⟩⟩⟩⟩⟩⟩⟩⟩⟩⟩⟩⟩⟩⟩⟩⟩⟩⟩⟩⟩⟩⟩⟩⟩⟩⟩⟩⟩⟩⟩⟩⟩⟩⟩⟩⟩⟩⟩⟩⟩⟩⟩⟩⟩⟩⟩⟩⟩⟩⟩⟩⟩⟩⟩⟩⟩⟩⟩⟩⟩⟩⟩⟩⟩⟩⟩⟩⟩⟩⟩⟩⟩⟩⟩⟩⟩⟩⟩⟩
theorem lk_RL_7 : mw_okL RL 7 (42, 122, 2, 3, 6) ∧ mw_okX RL 7 (42, 122, 2, 3, 6) := ⟨trivial, Or.inr rfl, _, mI_122_e, mI_122_k, rfl, mw_in 1108 (by decide +kernel) (by decide +kernel), rfl, _, rfl, rfl⟩
theorem lk_RL_8 : mw_okL RL 8 (32, 6, 0, 0, 0) ∧ mw_okX RL 8 (32, 6, 0, 0, 0) := ⟨⟨_, rfl, mw_in 95 (by decide +kernel) (by decide +kernel), mw_in 96 (by decide +kernel) (by decide +kernel), mw_in 74 (by decide +kernel) (by decide +kernel)⟩, trivial⟩
theorem lk_RL_13 : mw_okL RL 13 (33, 3, 6, 0, 0) ∧ mw_okX RL 13 (33, 3, 6, 0, 0) := ⟨trivial, trivial⟩
theorem lk_RL_15 : mw_okL RL 15 (33, 1, 6, 0, 0) ∧ mw_okX RL 15 (33, 1, 6, 0, 0) := ⟨trivial, trivial⟩
theorem lk_RL_17 : mw_okL RL 17 (3, 91, 0, 0, 0) ∧ mw_okX RL 17 (3, 91, 0, 0, 0) := ⟨⟨_, mI_91_e, by decide, by decide, by decide, by decide, mI_91_k, rfl, mw_in 97 (by decide +kernel) (by decide +kernel), rfl⟩, trivial⟩
theorem lk_RL_18 : mw_okL RL 18 (32, 7, 0, 0, 0) ∧ mw_okX RL 18 (32, 7, 0, 0, 0) := ⟨⟨_, rfl, mw_in 1116 (by decide +kernel) (by decide +kernel), mw_in 1117 (by decide +kernel) (by decide +kernel), mw_in 82 (by decide +kernel) (by decide +kernel)⟩, trivial⟩
theorem lk_RL_20 : mw_okL RL 20 (3, 132, 0, 0, 0) ∧ mw_okX RL 20 (3, 132, 0, 0, 0) := ⟨⟨_, mI_132_e, by decide, by decide, by decide, by decide, mI_132_k, rfl, mw_in 1118 (by decide +kernel) (by decide +kernel), rfl⟩, trivial⟩
theorem lk_RL_21 : mw_okL RL 21 (1, 92, 1, 1, 6) ∧ mw_okX RL 21 (1, 92, 1, 1, 6) := ⟨⟨_, mI_92_e, by decide, by decide, by decide, by decide, mI_92_k, rfl, mw_in 389 (by decide +kernel) (by decide +kernel), rfl, _, rfl, rfl⟩, trivial⟩
theorem lk_RL_25 : mw_okL RL 25 (1, 152, 1, 1, 7) ∧ mw_okX RL 25 (1, 152, 1, 1, 7) := ⟨⟨_, mI_152_e, by decide, by decide, by decide, by decide, mI_152_k, rfl, mw_in 1235 (by decide +kernel) (by decide +kernel), rfl, _, rfl, rfl⟩, trivial⟩
theorem lk_RL_26 : mw_okL RL 26 (1, 93, 2, 1, 6) ∧ mw_okX RL 26 (1, 93, 2, 1, 6) := ⟨⟨_, mI_93_e, by decide, by decide, by decide, by decide, mI_93_k, rfl, mw_in 569 (by decide +kernel) (by decide +kernel), rfl, _, rfl, rfl⟩, trivial⟩
theorem lk_RL_30 : mw_okL RL 30 (1, 156, 2, 1, 7) ∧ mw_okX RL 30 (1, 156, 2, 1, 7) := ⟨⟨_, mI_156_e, by decide, by decide, by decide, by decide, mI_156_k, rfl, mw_in 1298 (by decide +kernel) (by decide +kernel), rfl, _, rfl, rfl⟩, trivial⟩
theorem lk_RL_31 : mw_okL RL 31 (1, 94, 1, 1, 6) ∧ mw_okX RL 31 (1, 94, 1, 1, 6) := ⟨⟨_, mI_94_e, by decide, by decide, by decide, by decide, mI_94_k, rfl, mw_in 586 (by decide +kernel) (by decide +kernel), rfl, _, rfl, rfl⟩, trivial⟩
theorem lk_RL_34 : mw_okL RL 34 (1, 157, 1, 1, 7) ∧ mw_okX RL 34 (1, 157, 1, 1, 7) := ⟨⟨_, mI_157_e, by decide, by decide, by decide, by decide, mI_157_k, rfl, mw_in 1314 (by decide +kernel) (by decide +kernel), rfl, _, rfl, rfl⟩, trivial⟩
theorem lk_RL_35 : mw_okL RL 35 (1, 95, 2, 1, 6) ∧ mw_okX RL 35 (1, 95, 2, 1, 6) := ⟨⟨_, mI_95_e, by decide, by decide, by decide, by decide, mI_95_k, rfl, mw_in 590 (by decide +kernel) (by decide +kernel), rfl, _, rfl, rfl⟩, trivial⟩
theorem lk_RL_38 : mw_okL RL 38 (1, 158, 2, 1, 7) ∧ mw_okX RL 38 (1, 158, 2, 1, 7) := ⟨⟨_, mI_158_e, by decide, by decide, by decide, by decide, mI_158_k, rfl, mw_in 1319 (by decide +kernel) (by decide +kernel), rfl, _, rfl, rfl⟩, trivial⟩
theorem lk_RL_39 : mw_okL RL 39 (1, 96, 2, 1, 6) ∧ mw_okX RL 39 (1, 96, 2, 1, 6) := ⟨⟨_, mI_96_e, by decide, by decide, by decide, by decide, mI_96_k, rfl, mw_in 594 (by decide +kernel) (by decide +kernel), rfl, _, rfl, rfl⟩, trivial⟩
theorem lk_RL_42 : mw_okL RL 42 (1, 159, 2, 1, 7) ∧ mw_okX RL 42 (1, 159, 2, 1, 7) := ⟨⟨_, mI_159_e, by decide, by decide, by decide, by decide, mI_159_k, rfl, mw_in 1324 (by decide +kernel) (by decide +kernel), rfl, _, rfl, rfl⟩, trivial⟩
theorem lk_RL_43 : mw_okL RL 43 (1, 97, 1, 1, 6) ∧ mw_okX RL 43 (1, 97, 1, 1, 6) := ⟨⟨_, mI_97_e, by decide, by decide, by decide, by decide, mI_97_k, rfl, mw_in 598 (by decide +kernel) (by decide +kernel), rfl, _, rfl, rfl⟩, trivial⟩
theorem lk_RL_46 : mw_okL RL 46 (1, 163, 1, 1, 7) ∧ mw_okX RL 46 (1, 163, 1, 1, 7) := ⟨⟨_, mI_163_e, by decide, by decide, by decide, by decide, mI_163_k, rfl, mw_in 1330 (by decide +kernel) (by decide +kernel), rfl, _, rfl, rfl⟩, trivial⟩
theorem lk_RL_47 : mw_okL RL 47 (1, 98, 1, 1, 6) ∧ mw_okX RL 47 (1, 98, 1, 1, 6) := ⟨⟨_, mI_98_e, by decide, by decide, by decide, by decide, mI_98_k, rfl, mw_in 622 (by decide +kernel) (by decide +kernel), rfl, _, rfl, rfl⟩, trivial⟩
theorem lk_RL_50 : mw_okL RL 50 (1, 155, 1, 1, 7) ∧ mw_okX RL 50 (1, 155, 1, 1, 7) := ⟨⟨_, mI_155_e, by decide, by decide, by decide, by decide, mI_155_k, rfl, mw_in 1283 (by decide +kernel) (by decide +kernel), rfl, _, rfl, rfl⟩, trivial⟩
theorem lk_RL_51 : mw_okL RL 51 (1, 99, 2, 1, 6) ∧ mw_okX RL 51 (1, 99, 2, 1, 6) := ⟨⟨_, mI_99_e, by decide, by decide, by decide, by decide, mI_99_k, rfl, mw_in 635 (by decide +kernel) (by decide +kernel), rfl, _, rfl, rfl⟩, trivial⟩
theorem lk_RL_54 : mw_okL RL 54 (1, 167, 2, 1, 7) ∧ mw_okX RL 54 (1, 167, 2, 1, 7) := ⟨⟨_, mI_167_e, by decide, by decide, by decide, by decide, mI_167_k, rfl, mw_in 1346 (by decide +kernel) (by decide +kernel), rfl, _, rfl, rfl⟩, trivial⟩
theorem lk_RL_55 : mw_okL RL 55 (1, 100, 2, 1, 6) ∧ mw_okX RL 55 (1, 100, 2, 1, 6) := ⟨⟨_, mI_100_e, by decide, by decide, by decide, by decide, mI_100_k, rfl, mw_in 663 (by decide +kernel) (by decide +kernel), rfl, _, rfl, rfl⟩, trivial⟩
theorem lk_RL_58 : mw_okL RL 58 (1, 168, 2, 1, 7) ∧ mw_okX RL 58 (1, 168, 2, 1, 7) := ⟨⟨_, mI_168_e, by decide, by decide, by decide, by decide, mI_168_k, rfl, mw_in 1365 (by decide +kernel) (by decide +kernel), rfl, _, rfl, rfl⟩, trivial⟩
theorem lk_RL_59 : mw_okL RL 59 (1, 101, 1, 1, 6) ∧ mw_okX RL 59 (1, 101, 1, 1, 6) := ⟨⟨_, mI_101_e, by decide, by decide, by decide, by decide, mI_101_k, rfl, mw_in 671 (by decide +kernel) (by decide +kernel), rfl, _, rfl, rfl⟩, trivial⟩
theorem lk_RL_62 : mw_okL RL 62 (1, 170, 1, 1, 7) ∧ mw_okX RL 62 (1, 170, 1, 1, 7) := ⟨⟨_, mI_170_e, by decide, by decide, by decide, by decide, mI_170_k, rfl, mw_in 1374 (by decide +kernel) (by decide +kernel), rfl, _, rfl, rfl⟩, trivial⟩
theorem lk_RL_63 : mw_okL RL 63 (1, 102, 0, 1, 6) ∧ mw_okX RL 63 (1, 102, 0, 1, 6) := ⟨⟨_, mI_102_e, by decide, by decide, by decide, by decide, mI_102_k, rfl, mw_in 687 (by decide +kernel) (by decide +kernel), rfl, _, rfl, rfl⟩, trivial⟩
theorem lk_RL_67 : mw_okL RL 67 (1, 173, 0, 1, 7) ∧ mw_okX RL 67 (1, 173, 0, 1, 7) := ⟨⟨_, mI_173_e, by decide, by decide, by decide, by decide, mI_173_k, rfl, mw_in 1382 (by decide +kernel) (by decide +kernel), rfl, _, rfl, rfl⟩, trivial⟩
theorem lk_RL_68 : mw_okL RL 68 (1, 103, 1, 1, 6) ∧ mw_okX RL 68 (1, 103, 1, 1, 6) := ⟨⟨_, mI_103_e, by decide, by decide, by decide, by decide, mI_103_k, rfl, mw_in 727 (by decide +kernel) (by decide +kernel), rfl, _, rfl, rfl⟩, trivial⟩
theorem lk_RL_71 : mw_okL RL 71 (1, 174, 1, 1, 7) ∧ mw_okX RL 71 (1, 174, 1, 1, 7) := ⟨⟨_, mI_174_e, by decide, by decide, by decide, by decide, mI_174_k, rfl, mw_in 1395 (by decide +kernel) (by decide +kernel), rfl, _, rfl, rfl⟩, trivial⟩
theorem lk_RL_72 : mw_okL RL 72 (1, 104, 1, 1, 6) ∧ mw_okX RL 72 (1, 104, 1, 1, 6) := ⟨⟨_, mI_104_e, by decide, by decide, by decide, by decide, mI_104_k, rfl, mw_in 738 (by decide +kernel) (by decide +kernel), rfl, _, rfl, rfl⟩, trivial⟩
theorem lk_RL_75 : mw_okL RL 75 (1, 180, 1, 1, 7) ∧ mw_okX RL 75 (1, 180, 1, 1, 7) := ⟨⟨_, mI_180_e, by decide, by decide, by decide, by decide, mI_180_k, rfl, mw_in 1407 (by decide +kernel) (by decide +kernel), rfl, _, rfl, rfl⟩, trivial⟩
theorem lk_RL_76 : mw_okL RL 76 (1, 105, 2, 1, 6) ∧ mw_okX RL 76 (1, 105, 2, 1, 6) := ⟨⟨_, mI_105_e, by decide, by decide, by decide, by decide, mI_105_k, rfl, mw_in 764 (by decide +kernel) (by decide +kernel), rfl, _, rfl, rfl⟩, trivial⟩
theorem lk_RL_79 : mw_okL RL 79 (1, 183, 2, 1, 7) ∧ mw_okX RL 79 (1, 183, 2, 1, 7) := ⟨⟨_, mI_183_e, by decide, by decide, by decide, by decide, mI_183_k, rfl, mw_in 1423 (by decide +kernel) (by decide +kernel), rfl, _, rfl, rfl⟩, trivial⟩
theorem lk_RL_80 : mw_okL RL 80 (1, 106, 2, 1, 6) ∧ mw_okX RL 80 (1, 106, 2, 1, 6) := ⟨⟨_, mI_106_e, by decide, by decide, by decide, by decide, mI_106_k, rfl, mw_in 778 (by decide +kernel) (by decide +kernel), rfl, _, rfl, rfl⟩, trivial⟩
theorem lk_RL_83 : mw_okL RL 83 (1, 188, 2, 1, 7) ∧ mw_okX RL 83 (1, 188, 2, 1, 7) := ⟨⟨_, mI_188_e, by decide, by decide, by decide, by decide, mI_188_k, rfl, mw_in 1439 (by decide +kernel) (by decide +kernel), rfl, _, rfl, rfl⟩, trivial⟩
theorem lk_RL_84 : mw_okL RL 84 (1, 107, 0, 1, 6) ∧ mw_okX RL 84 (1, 107, 0, 1, 6) := ⟨⟨_, mI_107_e, by decide, by decide, by decide, by decide, mI_107_k, rfl, mw_in 840 (by decide +kernel) (by decide +kernel), rfl, _, rfl, rfl⟩, trivial⟩
theorem lk_RL_87 : mw_okL RL 87 (1, 192, 0, 1, 7) ∧ mw_okX RL 87 (1, 192, 0, 1, 7) := ⟨⟨_, mI_192_e, by decide, by decide, by decide, by decide, mI_192_k, rfl, mw_in 1463 (by decide +kernel) (by decide +kernel), rfl, _, rfl, rfl⟩, trivial⟩
theorem lk_RL_88 : mw_okL RL 88 (1, 108, 0, 1, 6) ∧ mw_okX RL 88 (1, 108, 0, 1, 6) := ⟨⟨_, mI_108_e, by decide, by decide, by decide, by decide, mI_108_k, rfl, mw_in 853 (by decide +kernel) (by decide +kernel), rfl, _, rfl, rfl⟩, trivial⟩
theorem lk_RL_91 : mw_okL RL 91 (1, 195, 0, 1, 7) ∧ mw_okX RL 91 (1, 195, 0, 1, 7) := ⟨⟨_, mI_195_e, by decide, by decide, by decide, by decide, mI_195_k, rfl, mw_in 1479 (by decide +kernel) (by decide +kernel), rfl, _, rfl, rfl⟩, trivial⟩
theorem lk_RL_92 : mw_okL RL 92 (1, 109, 0, 1, 6) ∧ mw_okX RL 92 (1, 109, 0, 1, 6) := ⟨⟨_, mI_109_e, by decide, by decide, by decide, by decide, mI_109_k, rfl, mw_in 857 (by decide +kernel) (by decide +kernel), rfl, _, rfl, rfl⟩, trivial⟩
theorem lk_RL_95 : mw_okL RL 95 (1, 196, 0, 1, 7) ∧ mw_okX RL 95 (1, 196, 0, 1, 7) := ⟨⟨_, mI_196_e, by decide, by decide, by decide, by decide, mI_196_k, rfl, mw_in 1491 (by decide +kernel) (by decide +kernel), rfl, _, rfl, rfl⟩, trivial⟩
theorem lk_RL_96 : mw_okL RL 96 (1, 110, 3, 1, 6) ∧ mw_okX RL 96 (1, 110, 3, 1, 6) := ⟨⟨_, mI_110_e, by decide, by decide, by decide, by decide, mI_110_k, rfl, mw_in 861 (by decide +kernel) (by decide +kernel), rfl, _, rfl, rfl⟩, trivial⟩
theorem lk_RL_100 : mw_okL RL 100 (1, 197, 3, 1, 7) ∧ mw_okX RL 100 (1, 197, 3, 1, 7) := ⟨⟨_, mI_197_e, by decide, by decide, by decide, by decide, mI_197_k, rfl, mw_in 1495 (by decide +kernel) (by decide +kernel), rfl, _, rfl, rfl⟩, trivial⟩
theorem lk_RL_101 : mw_okL RL 101 (1, 111, 4, 1, 6) ∧ mw_okX RL 101 (1, 111, 4, 1, 6) := ⟨⟨_, mI_111_e, by decide, by decide, by decide, by decide, mI_111_k, rfl, mw_in 867 (by decide +kernel) (by decide +kernel), rfl, _, rfl, rfl⟩, trivial⟩
theorem lk_RL_105 : mw_okL RL 105 (1, 198, 4, 1, 7) ∧ mw_okX RL 105 (1, 198, 4, 1, 7) := ⟨⟨_, mI_198_e, by decide, by decide, by decide, by decide, mI_198_k, rfl, mw_in 1503 (by decide +kernel) (by decide +kernel), rfl, _, rfl, rfl⟩, trivial⟩
theorem lk_RL_106 : mw_okL RL 106 (1, 112, 2, 1, 6) ∧ mw_okX RL 106 (1, 112, 2, 1, 6) := ⟨⟨_, mI_112_e, by decide, by decide, by decide, by decide, mI_112_k, rfl, mw_in 877 (by decide +kernel) (by decide +kernel), rfl, _, rfl, rfl⟩, trivial⟩
theorem lk_RL_109 : mw_okL RL 109 (1, 200, 2, 1, 7) ∧ mw_okX RL 109 (1, 200, 2, 1, 7) := ⟨⟨_, mI_200_e, by decide, by decide, by decide, by decide, mI_200_k, rfl, mw_in 1507 (by decide +kernel) (by decide +kernel), rfl, _, rfl, rfl⟩, trivial⟩
theorem lk_RL_110 : mw_okL RL 110 (1, 113, 2, 1, 6) ∧ mw_okX RL 110 (1, 113, 2, 1, 6) := ⟨⟨_, mI_113_e, by decide, by decide, by decide, by decide, mI_113_k, rfl, mw_in 885 (by decide +kernel) (by decide +kernel), rfl, _, rfl, rfl⟩, trivial⟩
theorem lk_RL_113 : mw_okL RL 113 (1, 201, 2, 1, 7) ∧ mw_okX RL 113 (1, 201, 2, 1, 7) := ⟨⟨_, mI_201_e, by decide, by decide, by decide, by decide, mI_201_k, rfl, mw_in 1518 (by decide +kernel) (by decide +kernel), rfl, _, rfl, rfl⟩, trivial⟩
theorem lk_RL_114 : mw_okL RL 114 (1, 114, 1, 1, 6) ∧ mw_okX RL 114 (1, 114, 1, 1, 6) := ⟨⟨_, mI_114_e, by decide, by decide, by decide, by decide, mI_114_k, rfl, mw_in 895 (by decide +kernel) (by decide +kernel), rfl, _, rfl, rfl⟩, trivial⟩
theorem lk_RL_117 : mw_okL RL 117 (1, 202, 1, 1, 7) ∧ mw_okX RL 117 (1, 202, 1, 1, 7) := ⟨⟨_, mI_202_e, by decide, by decide, by decide, by decide, mI_202_k, rfl, mw_in 1522 (by decide +kernel) (by decide +kernel), rfl, _, rfl, rfl⟩, trivial⟩
theorem lk_RL_118 : mw_okL RL 118 (1, 115, 1, 1, 6) ∧ mw_okX RL 118 (1, 115, 1, 1, 6) := ⟨⟨_, mI_115_e, by decide, by decide, by decide, by decide, mI_115_k, rfl, mw_in 908 (by decide +kernel) (by decide +kernel), rfl, _, rfl, rfl⟩, trivial⟩
theorem lk_RL_121 : mw_okL RL 121 (1, 204, 1, 1, 7) ∧ mw_okX RL 121 (1, 204, 1, 1, 7) := ⟨⟨_, mI_204_e, by decide, by decide, by decide, by decide, mI_204_k, rfl, mw_in 1526 (by decide +kernel) (by decide +kernel), rfl, _, rfl, rfl⟩, trivial⟩
theorem lk_RL_122 : mw_okL RL 122 (1, 116, 0, 1, 6) ∧ mw_okX RL 122 (1, 116, 0, 1, 6) := ⟨⟨_, mI_116_e, by decide, by decide, by decide, by decide, mI_116_k, rfl, mw_in 922 (by decide +kernel) (by decide +kernel), rfl, _, rfl, rfl⟩, trivial⟩
theorem lk_RL_125 : mw_okL RL 125 (1, 205, 0, 1, 7) ∧ mw_okX RL 125 (1, 205, 0, 1, 7) := ⟨⟨_, mI_205_e, by decide, by decide, by decide, by decide, mI_205_k, rfl, mw_in 1535 (by decide +kernel) (by decide +kernel), rfl, _, rfl, rfl⟩, trivial⟩
theorem lk_RL_126 : mw_okL RL 126 (1, 117, 0, 1, 6) ∧ mw_okX RL 126 (1, 117, 0, 1, 6) := ⟨⟨_, mI_117_e, by decide, by decide, by decide, by decide, mI_117_k, rfl, mw_in 926 (by decide +kernel) (by decide +kernel), rfl, _, rfl, rfl⟩, trivial⟩
theorem lk_RL_129 : mw_okL RL 129 (1, 206, 0, 1, 7) ∧ mw_okX RL 129 (1, 206, 0, 1, 7) := ⟨⟨_, mI_206_e, by decide, by decide, by decide, by decide, mI_206_k, rfl, mw_in 1539 (by decide +kernel) (by decide +kernel), rfl, _, rfl, rfl⟩, trivial⟩
theorem lk_RL_130 : mw_okL RL 130 (1, 118, 1, 1, 6) ∧ mw_okX RL 130 (1, 118, 1, 1, 6) := ⟨⟨_, mI_118_e, by decide, by decide, by decide, by decide, mI_118_k, rfl, mw_in 930 (by decide +kernel) (by decide +kernel), rfl, _, rfl, rfl⟩, trivial⟩
theorem lk_RL_133 : mw_okL RL 133 (1, 207, 1, 1, 7) ∧ mw_okX RL 133 (1, 207, 1, 1, 7) := ⟨⟨_, mI_207_e, by decide, by decide, by decide, by decide, mI_207_k, rfl, mw_in 1543 (by decide +kernel) (by decide +kernel), rfl, _, rfl, rfl⟩, trivial⟩
theorem lk_RL_134 : mw_okL RL 134 (1, 119, 3, 1, 6) ∧ mw_okX RL 134 (1, 119, 3, 1, 6) := ⟨⟨_, mI_119_e, by decide, by decide, by decide, by decide, mI_119_k, rfl, mw_in 946 (by decide +kernel) (by decide +kernel), rfl, _, rfl, rfl⟩, trivial⟩
theorem lk_RL_137 : mw_okL RL 137 (1, 209, 3, 1, 7) ∧ mw_okX RL 137 (1, 209, 3, 1, 7) := ⟨⟨_, mI_209_e, by decide, by decide, by decide, by decide, mI_209_k, rfl, mw_in 1547 (by decide +kernel) (by decide +kernel), rfl, _, rfl, rfl⟩, trivial⟩
theorem lk_RL_138 : mw_okL RL 138 (1, 120, 3, 1, 6) ∧ mw_okX RL 138 (1, 120, 3, 1, 6) := ⟨⟨_, mI_120_e, by decide, by decide, by decide, by decide, mI_120_k, rfl, mw_in 959 (by decide +kernel) (by decide +kernel), rfl, _, rfl, rfl⟩, trivial⟩
theorem lk_RL_141 : mw_okL RL 141 (1, 210, 3, 1, 7) ∧ mw_okX RL 141 (1, 210, 3, 1, 7) := ⟨⟨_, mI_210_e, by decide, by decide, by decide, by decide, mI_210_k, rfl, mw_in 1554 (by decide +kernel) (by decide +kernel), rfl, _, rfl, rfl⟩, trivial⟩
theorem lk_RL_142 : mw_okL RL 142 (1, 121, 3, 1, 6) ∧ mw_okX RL 142 (1, 121, 3, 1, 6) := ⟨⟨_, mI_121_e, by decide, by decide, by decide, by decide, mI_121_k, rfl, mw_in 968 (by decide +kernel) (by decide +kernel), rfl, _, rfl, rfl⟩, trivial⟩
theorem lk_RL_145 : mw_okL RL 145 (1, 211, 3, 1, 7) ∧ mw_okX RL 145 (1, 211, 3, 1, 7) := ⟨⟨_, mI_211_e, by decide, by decide, by decide, by decide, mI_211_k, rfl, mw_in 1558 (by decide +kernel) (by decide +kernel), rfl, _, rfl, rfl⟩, trivial⟩
theorem lk_RL_146 : mw_okL RL 146 (41, 218, 4, 1, 0) ∧ mw_okX RL 146 (41, 218, 4, 1, 0) := ⟨trivial, rfl, _, mI_218_e, mI_218_k, mw_in 1104 (by decide +kernel) (by decide +kernel), mw_in 1103 (by decide +kernel) (by decide +kernel), rfl⟩
theorem lk_RL_151 : mw_okL RL 151 (1, 212, 2, 3, 7) ∧ mw_okX RL 151 (1, 212, 2, 3, 7) := ⟨⟨_, mI_212_e, by decide, by decide, by decide, by decide, mI_212_k, rfl, mw_in 1562 (by decide +kernel) (by decide +kernel), rfl, _, rfl, rfl⟩, trivial⟩
theorem lk_RL_152 : mw_okL RL 152 (1, 133, 0, 1, 7) ∧ mw_okX RL 152 (1, 133, 0, 1, 7) := ⟨⟨_, mI_133_e, by decide, by decide, by decide, by decide, mI_133_k, rfl, mw_in 1231 (by decide +kernel) (by decide +kernel), rfl, _, rfl, rfl⟩, trivial⟩
theorem lk_RL_155 : mw_okL RL 155 (1, 123, 5, 1, 6) ∧ mw_okX RL 155 (1, 123, 5, 1, 6) := ⟨⟨_, mI_123_e, by decide, by decide, by decide, by decide, mI_123_k, rfl, mw_in 977 (by decide +kernel) (by decide +kernel), rfl, _, rfl, rfl⟩, trivial⟩
theorem lk_RL_159 : mw_okL RL 159 (1, 213, 5, 1, 7) ∧ mw_okX RL 159 (1, 213, 5, 1, 7) := ⟨⟨_, mI_213_e, by decide, by decide, by decide, by decide, mI_213_k, rfl, mw_in 1566 (by decide +kernel) (by decide +kernel), rfl, _, rfl, rfl⟩, trivial⟩
theorem lk_RL_160 : mw_okL RL 160 (1, 124, 1, 1, 6) ∧ mw_okX RL 160 (1, 124, 1, 1, 6) := ⟨⟨_, mI_124_e, by decide, by decide, by decide, by decide, mI_124_k, rfl, mw_in 985 (by decide +kernel) (by decide +kernel), rfl, _, rfl, rfl⟩, trivial⟩
theorem lk_RL_163 : mw_okL RL 163 (1, 215, 1, 1, 7) ∧ mw_okX RL 163 (1, 215, 1, 1, 7) := ⟨⟨_, mI_215_e, by decide, by decide, by decide, by decide, mI_215_k, rfl, mw_in 1570 (by decide +kernel) (by decide +kernel), rfl, _, rfl, rfl⟩, trivial⟩
theorem lk_RL_164 : mw_okL RL 164 (40, 125, 1, 1, 6) ∧ mw_okX RL 164 (40, 125, 1, 1, 6) := ⟨trivial, rfl, _, mI_125_e, mI_125_k, mw_in 994 (by decide +kernel) (by decide +kernel), mw_in 995 (by decide +kernel) (by decide +kernel), mw_in 993 (by decide +kernel) (by decide +kernel), rfl, _, rfl, rfl⟩
theorem lk_RL_167 : mw_okL RL 167 (1, 216, 1, 1, 7) ∧ mw_okX RL 167 (1, 216, 1, 1, 7) := ⟨⟨_, mI_216_e, by decide, by decide, by decide, by decide, mI_216_k, rfl, mw_in 1578 (by decide +kernel) (by decide +kernel), rfl, _, rfl, rfl⟩, trivial⟩
theorem lk_RL_ok : ∀ q ∈ lk_RL, mw_okL RL q.1 q.2 ∧ mw_okX RL q.1 q.2 := List.forall_mem_cons.mpr ⟨lk_RL_7, List.forall_mem_cons.mpr ⟨lk_RL_8, List.forall_mem_cons.mpr ⟨lk_RL_13, List.forall_mem_cons.mpr ⟨lk_RL_15, List.forall_mem_cons.mpr ⟨lk_RL_17, List.forall_mem_cons.mpr ⟨lk_RL_18, List.forall_mem_cons.mpr ⟨lk_RL_20, List.forall_mem_cons.mpr ⟨lk_RL_21, List.forall_mem_cons.mpr ⟨lk_RL_25, List.forall_mem_cons.mpr ⟨lk_RL_26, List.forall_mem_cons.mpr ⟨lk_RL_30, List.forall_mem_cons.mpr ⟨lk_RL_31, List.forall_mem_cons.mpr ⟨lk_RL_34, List.forall_mem_cons.mpr ⟨lk_RL_35, List.forall_mem_cons.mpr ⟨lk_RL_38, List.forall_mem_cons.mpr ⟨lk_RL_39, List.forall_mem_cons.mpr ⟨lk_RL_42, List.forall_mem_cons.mpr ⟨lk_RL_43, List.forall_mem_cons.mpr ⟨lk_RL_46, List.forall_mem_cons.mpr ⟨lk_RL_47, List.forall_mem_cons.mpr ⟨lk_RL_50, List.forall_mem_cons.mpr ⟨lk_RL_51, List.forall_mem_cons.mpr ⟨lk_RL_54, List.forall_mem_cons.mpr ⟨lk_RL_55, List.forall_mem_cons.mpr ⟨lk_RL_58, List.forall_mem_cons.mpr ⟨lk_RL_59, List.forall_mem_cons.mpr ⟨lk_RL_62, List.forall_mem_cons.mpr ⟨lk_RL_63, List.forall_mem_cons.mpr ⟨lk_RL_67, List.forall_mem_cons.mpr ⟨lk_RL_68, List.forall_mem_cons.mpr ⟨lk_RL_71, List.forall_mem_cons.mpr ⟨lk_RL_72, List.forall_mem_cons.mpr ⟨lk_RL_75, List.forall_mem_cons.mpr ⟨lk_RL_76, List.forall_mem_cons.mpr ⟨lk_RL_79, List.forall_mem_cons.mpr ⟨lk_RL_80, List.forall_mem_cons.mpr ⟨lk_RL_83, List.forall_mem_cons.mpr ⟨lk_RL_84, List.forall_mem_cons.mpr ⟨lk_RL_87, List.forall_mem_cons.mpr ⟨lk_RL_88, List.forall_mem_cons.mpr ⟨lk_RL_91, List.forall_mem_cons.mpr ⟨lk_RL_92, List.forall_mem_cons.mpr ⟨lk_RL_95, List.forall_mem_cons.mpr ⟨lk_RL_96, List.forall_mem_cons.mpr ⟨lk_RL_100, List.forall_mem_cons.mpr ⟨lk_RL_101, List.forall_mem_cons.mpr ⟨lk_RL_105, List.forall_mem_cons.mpr ⟨lk_RL_106, List.forall_mem_cons.mpr ⟨lk_RL_109, List.forall_mem_cons.mpr ⟨lk_RL_110, List.forall_mem_cons.mpr ⟨lk_RL_113, List.forall_mem_cons.mpr ⟨lk_RL_114, List.forall_mem_cons.mpr ⟨lk_RL_117, List.forall_mem_cons.mpr ⟨lk_RL_118, List.forall_mem_cons.mpr ⟨lk_RL_121, List.forall_mem_cons.mpr ⟨lk_RL_122, List.forall_mem_cons.mpr ⟨lk_RL_125, List.forall_mem_cons.mpr ⟨lk_RL_126, List.forall_mem_cons.mpr ⟨lk_RL_129, List.forall_mem_cons.mpr ⟨lk_RL_130, List.forall_mem_cons.mpr ⟨lk_RL_133, List.forall_mem_cons.mpr ⟨lk_RL_134, List.forall_mem_cons.mpr ⟨lk_RL_137, List.forall_mem_cons.mpr ⟨lk_RL_138, List.forall_mem_cons.mpr ⟨lk_RL_141, List.forall_mem_cons.mpr ⟨lk_RL_142, List.forall_mem_cons.mpr ⟨lk_RL_145, List.forall_mem_cons.mpr ⟨lk_RL_146, List.forall_mem_cons.mpr ⟨lk_RL_151, List.forall_mem_cons.mpr ⟨lk_RL_152, List.forall_mem_cons.mpr ⟨lk_RL_155, List.forall_mem_cons.mpr ⟨lk_RL_159, List.forall_mem_cons.mpr ⟨lk_RL_160, List.forall_mem_cons.mpr ⟨lk_RL_163, List.forall_mem_cons.mpr ⟨lk_RL_164, List.forall_mem_cons.mpr ⟨lk_RL_167, List.forall_mem_nil _⟩⟩⟩⟩⟩⟩⟩⟩⟩⟩⟩⟩⟩⟩⟩⟩⟩⟩⟩⟩⟩⟩⟩⟩⟩⟩⟩⟩⟩⟩⟩⟩⟩⟩⟩⟩⟩⟩⟩⟩⟩⟩⟩⟩⟩⟩⟩⟩⟩⟩⟩⟩⟩⟩⟩⟩⟩⟩⟩⟩⟩⟩⟩⟩⟩⟩⟩⟩⟩⟩⟩⟩⟩⟩⟩⟩
theorem lk_RJ7_ok : ∀ q ∈ lk_RJ7, mw_okL "java/util/Arrays" q.1 q.2 ∧ mw_okX "java/util/Arrays" q.1 q.2 := List.forall_mem_nil _
