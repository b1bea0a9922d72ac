/-! SOUNDNESS of the small machine, 7: instructions that touch the memory (by program: wip/whole/gen/gen_sound7.py) -/
theorem mw_sz_na (σ : mv_S) (t n : Nat) : mw_sz (mv_na σ t n).1 = mw_sz σ.1 + n := by
  show mw_sz (σ.1 ++ [.inr (t, n)]) = _
  rw [mw_sz_app]
  simp [mw_sz, mw_szT]
theorem mw_len_na (σ : mv_S) (t n : Nat) : (mv_na σ t n).1.length = σ.1.length + 1 := by
  show (σ.1 ++ [(.inr (t, n) : mv_T)]).length = _
  simp
def mw_infol : List mw_I := [(yX0_init, cX0_init, 1, none, 3, 0),
  (yX0_sketch, cX0_sketch, 5, none, 1, 3),
  (yX0_drawHaul, cX0_drawHaul, 2, none, 1, 1),
  (yX0_drawTold, cX0_drawTold, 3, none, 2, 2),
  (yX0_smudge, cX0_smudge, 3, none, 2, 3),
  (yX0_tabulate, cX0_tabulate, 3, none, 2, 3),
  (yX0_tabulateAll, cX0_tabulateAll, 3, none, 1, 1),
  (yX0_addWishes, cX0_addWishes, 7, none, 2, 3),
  (yX0_pickHaul, cX0_pickHaul, 10, none, 1, 4),
  (yX0_weighCells, cX0_weighCells, 6, some (.int), 1, 2),
  (yX0_pickAhead, cX0_pickAhead, 10, none, 1, 2),
  (yX0_worthThatComes, cX0_worthThatComes, 6, some (.int), 1, 1),
  (yX0_worthByTable, cX0_worthByTable, 4, some (.int), 1, 1),
  (yX1_init, cX1_init, 1, none, 3, 0),
  (yX1_follow, cX1_follow, 3, none, 1, 1),
  (yX1_digWholly, cX1_digWholly, 3, none, 1, 1),
  (yX1_digByPairs, cX1_digByPairs, 6, none, 1, 2),
  (yX1_digPair, cX1_digPair, 7, some (.boolean), 1, 4),
  (yX1_weighExcess, cX1_weighExcess, 4, none, 1, 2),
  (yX1_leastHours, cX1_leastHours, 6, some (.int), 1, 2),
  (yX1_sortOut, cX1_sortOut, 5, some (.boolean), 1, 1),
  (yX1_spreadAll, cX1_spreadAll, 4, none, 1, 1),
  (yX1_spreadForth, cX1_spreadForth, 6, some (.boolean), 1, 1),
  (yX1_spreadBack, cX1_spreadBack, 6, some (.boolean), 1, 1),
  (yX1_nearestLow, cX1_nearestLow, 3, some (.int), 1, 0),
  (yX1_send, cX1_send, 7, some (.int), 1, 1),
  (yX2_init, cX2_init, 4, none, 3, 3),
  (yX2_cost, cX2_cost, 4, some (.int), 1, 0),
  (yX2_fail, cX2_fail, 1, none, 1, 0),
  (yX3_init, cX3_init, 1, none, 3, 0),
  (yX3_renew, cX3_renew, 6, none, 1, 2),
  (yX3_layOut, cX3_layOut, 8, none, 1, 3),
  (yX3_takeFrom, cX3_takeFrom, 3, none, 1, 1),
  (yX3_isCell, cX3_isCell, 2, some (.boolean), 1, 1),
  (yX3_drawerAt, cX3_drawerAt, 2, some (.object "LandByMap$Drawer"), 1, 1),
  (yX3_addDrawer, cX3_addDrawer, 3, some (.boolean), 1, 2),
  (yX3_addWish, cX3_addWish, 6, some (.boolean), 1, 4),
  (yX3_told, cX3_told, 2, some (.int), 1, 1),
  (yX3_wanted, cX3_wanted, 2, some (.int), 1, 1),
  (yX3_firstUnlike, cX3_firstUnlike, 2, some (.int), 1, 0),
  (yX3_offTheMap, cX3_offTheMap, 3, some (.int), 1, 0),
  (yX3_offFrom, cX3_offFrom, 4, some (.int), 1, 1),
  (yX3_saidCells, cX3_saidCells, 3, some (.int), 1, 0),
  (yX3_houseCount, cX3_houseCount, 3, some (.int), 1, 0),
  (yX3_allHeights, cX3_allHeights, 3, some (.int), 1, 0),
  (yX3_allWishes, cX3_allWishes, 3, some (.int), 1, 0),
  (yX3_followWater, cX3_followWater, 6, some (.int), 1, 0),
  (yX3_standsAt, cX3_standsAt, 2, some (.int), 1, 1),
  (yX3_isOnWay, cX3_isOnWay, 4, some (.boolean), 1, 1),
  (yX3_isLost, cX3_isLost, 1, some (.boolean), 1, 0),
  (yX3_isRim, cX3_isRim, 3, some (.boolean), 1, 1),
  (yX3_near, cX3_near, 3, some (.int), 1, 2),
  (yX3_canGive, cX3_canGive, 2, some (.boolean), 1, 1),
  (yX3_canTake, cX3_canTake, 2, some (.boolean), 1, 1),
  (yX3_canHaul, cX3_canHaul, 3, some (.boolean), 1, 2),
  (yX3_haulHours, cX3_haulHours, 4, some (.int), 1, 2),
  (yX3_shift, cX3_shift, 3, none, 1, 2),
  (yX3_wishWorth, cX3_wishWorth, 4, some (.int), 1, 2),
  (yX3_worthTo, cX3_worthTo, 6, some (.int), 1, 2),
  (yX3_worthToAll, cX3_worthToAll, 4, some (.int), 1, 1),
  (yX4_init, cX4_init, 1, none, 3, 0),
  (yX4_holdNothing, cX4_holdNothing, 1, none, 1, 0),
  (yX4_holdDrawer, cX4_holdDrawer, 2, none, 1, 1),
  (yX4_holdRow, cX4_holdRow, 3, none, 1, 2),
  (yX4_isEmpty, cX4_isEmpty, 1, some (.boolean), 1, 0),
  (yX4_holdsRowOf, cX4_holdsRowOf, 2, some (.boolean), 1, 1),
  (yX4_refusalAsRow, cX4_refusalAsRow, 1, some (.int), 1, 0),
  (yX4_refusalAsBytes, cX4_refusalAsBytes, 1, some (.int), 1, 0),
  (yX4_hasPlace, cX4_hasPlace, 2, some (.boolean), 1, 1),
  (yX4_hasPlaces, cX4_hasPlaces, 3, some (.boolean), 1, 2),
  (yX4_at, cX4_at, 2, some (.int), 1, 1),
  (yX4_write, cX4_write, 3, none, 1, 2),
  (yX4_leastNumber, cX4_leastNumber, 1, some (.int), 1, 0),
  (yX4_isMapOf, cX4_isMapOf, 4, some (.boolean), 1, 1),
  (yX4_heightAt, cX4_heightAt, 3, some (.int), 1, 1),
  (yX5_init, cX5_init, 1, none, 3, 0),
  (yX5_open, cX5_open, 3, none, 1, 2),
  (yX5_faultOfForm, cX5_faultOfForm, 2, some (.int), 1, 0),
  (yX5_writeTo, cX5_writeTo, 4, some (.int), 1, 1),
  (yX5_formOf, cX5_formOf, 1, some (.object "java/lang/String"), 2, 1),
  (yX5_readStatement, cX5_readStatement, 5, some (.boolean), 1, 0),
  (yX5_readSign, cX5_readSign, 2, some (.boolean), 1, 1),
  (yX5_readNumber, cX5_readNumber, 4, some (.boolean), 1, 1),
  (yX5_isDigit, cX5_isDigit, 1, some (.boolean), 1, 0),
  (yX5_act, cX5_act, 3, some (.boolean), 1, 2),
  (yX5_startAnew, cX5_startAnew, 3, some (.boolean), 2, 3),
  (yX5_isSide, cX5_isSide, 1, some (.boolean), 2, 1),
  (yX5_raise, cX5_raise, 3, some (.boolean), 2, 3),
  (yX5_build, cX5_build, 2, some (.boolean), 2, 2),
  (yX5_spring, cX5_spring, 2, some (.boolean), 2, 2),
  (yX5_rule, cX5_rule, 2, some (.boolean), 2, 2),
  (yX6_init, cX6_init, 2, none, 3, 0),
  (yX6_land, cX6_land, 6, some (.int), 1, 1),
  (yX6_cell, cX6_cell, 3, some (.int), 1, 2),
  (yX6_state, cX6_state, 2, some (.int), 1, 1),
  (yX6_set, cX6_set, 4, some (.int), 1, 2),
  (yX6_says, cX6_says, 4, some (.int), 1, 2),
  (yX6_map, cX6_map, 5, some (.int), 1, 1),
  (yX6_water, cX6_water, 3, some (.int), 1, 1),
  (yX6_hours, cX6_hours, 4, some (.int), 1, 2),
  (yX6_haul, cX6_haul, 5, some (.int), 1, 2),
  (yX6_like, cX6_like, 2, some (.int), 1, 1),
  (yX6_least, cX6_least, 1, some (.int), 1, 0),
  (yX6_works, cX6_works, 9, some (.int), 1, 1),
  (yX6_dig, cX6_dig, 2, some (.int), 1, 1),
  (yX6_drawer, cX6_drawer, 4, some (.int), 1, 2),
  (yX6_draws, cX6_draws, 3, some (.int), 1, 2),
  (yX6_year, cX6_year, 2, some (.int), 1, 0),
  (yX6_still, cX6_still, 5, some (.int), 1, 0),
  (yX6_rings, cX6_rings, 3, some (.int), 1, 0),
  (yX6_seeded, cX6_seeded, 9, some (.int), 1, 3),
  (yX6_seam, cX6_seam, 10, some (.int), 1, 4),
  (yX6_blot, cX6_blot, 7, some (.int), 1, 2),
  (yX6_harm, cX6_harm, 6, some (.int), 1, 2),
  (yX6_chosen, cX6_chosen, 5, some (.int), 1, 1),
  (yX6_judge, cX6_judge, 7, some (.int), 1, 1),
  (yX6_image, cX6_image, 1, some (.int), 1, 0),
  (yX6_restore, cX6_restore, 1, some (.int), 1, 0),
  (yX6_count, cX6_count, 2, some (.int), 1, 1),
  (yX6_keep, cX6_keep, 6, some (.int), 1, 3),
  (yX6_row, cX6_row, 5, some (.int), 1, 3),
  (yX6_put, cX6_put, 6, some (.int), 1, 3),
  (yX6_element, cX6_element, 4, some (.long), 1, 2),
  (yX6_copy, cX6_copy, 8, some (.int), 1, 5),
  (yX6_price, cX6_price, 3, some (.int), 1, 1),
  (yX6_toss, cX6_toss, 5, some (.int), 1, 1),
  (yX6_shelfAt, cX6_shelfAt, 2, some (.object "LandByMap$Shelf"), 1, 1),
  (yX6_refusalOfHaul, cX6_refusalOfHaul, 3, some (.int), 1, 2),
  (yX6_passYear, cX6_passYear, 3, some (.int), 1, 2),
  (yX6_isSteep, cX6_isSteep, 2, some (.boolean), 2, 2),
  (yX6_castVotes, cX6_castVotes, 7, none, 1, 1),
  (yX6_bestForAll, cX6_bestForAll, 6, some (.int), 1, 1),
  (yX7_init, cX7_init, 2, none, 3, 0),
  (yX7_thrown, cX7_thrown, 1, some (.int), 1, 0),
  (yX7_isIn, cX7_isIn, 6, some (.boolean), 2, 3),
  (yX7_cells, cX7_cells, 1, some (.int), 1, 0),
  (yX7_isCell, cX7_isCell, 2, some (.boolean), 1, 1),
  (yX7_isDrawer, cX7_isDrawer, 2, some (.boolean), 1, 1),
  (yX7_isShelf, cX7_isShelf, 1, some (.boolean), 2, 1),
  (yX7_amount, cX7_amount, 1, some (.int), 2, 1),
  (yX7_get, cX7_get, 3, some (.int), 1, 2),
  (yX7_bits, cX7_bits, 3, some (.int), 2, 1),
  (yX7_isHouse, cX7_isHouse, 2, some (.boolean), 1, 1),
  (yX7_near, cX7_near, 3, some (.int), 1, 2),
  (yX7_here, cX7_here, 1, some (.int), 1, 0),
  (yX7_isDigit, cX7_isDigit, 1, some (.boolean), 1, 0),
  (yX7_takes, cX7_takes, 2, some (.boolean), 1, 1),
  (yX7_readsNumber, cX7_readsNumber, 4, some (.boolean), 1, 1),
  (yX7_readsStatement, cX7_readsStatement, 3, some (.boolean), 1, 0),
  (yX7_comesAnew, cX7_comesAnew, 4, some (.boolean), 1, 2),
  (yX7_comes, cX7_comes, 7, some (.boolean), 1, 1),
  (yX7_wrongRow, cX7_wrongRow, 3, some (.int), 1, 2),
  (yX7_land, cX7_land, 7, some (.int), 1, 1),
  (yX7_flows, cX7_flows, 6, none, 1, 0),
  (yX7_isLost, cX7_isLost, 3, some (.boolean), 1, 0),
  (yX7_water, cX7_water, 3, some (.int), 1, 1),
  (yX7_cell, cX7_cell, 3, some (.int), 1, 2),
  (yX7_state, cX7_state, 2, some (.int), 1, 1),
  (yX7_set, cX7_set, 4, some (.int), 1, 2),
  (yX7_says, cX7_says, 4, some (.int), 1, 2),
  (yX7_wrongMap, cX7_wrongMap, 4, some (.int), 1, 1),
  (yX7_saidOf, cX7_saidOf, 4, some (.int), 1, 2),
  (yX7_said, cX7_said, 3, some (.int), 1, 0),
  (yX7_map, cX7_map, 4, some (.int), 1, 1),
  (yX7_mayHaul, cX7_mayHaul, 3, some (.boolean), 1, 2),
  (yX7_hoursOf, cX7_hoursOf, 4, some (.int), 1, 2),
  (yX7_moves, cX7_moves, 3, none, 1, 2),
  (yX7_hours, cX7_hours, 3, some (.int), 1, 2),
  (yX7_haul, cX7_haul, 4, some (.int), 1, 2),
  (yX7_offFrom, cX7_offFrom, 4, some (.int), 1, 1),
  (yX7_like, cX7_like, 3, some (.int), 1, 1),
  (yX7_findsWay, cX7_findsWay, 6, some (.int), 1, 0),
  (yX7_leastOf, cX7_leastOf, 7, some (.int), 1, 0),
  (yX7_least, cX7_least, 1, some (.int), 1, 0),
  (yX7_works, cX7_works, 9, some (.int), 1, 1),
  (yX7_keeps, cX7_keeps, 2, none, 1, 0),
  (yX7_putsBack, cX7_putsBack, 2, none, 1, 0),
  (yX7_isOver, cX7_isOver, 2, some (.boolean), 1, 1),
  (yX7_isUnder, cX7_isUnder, 2, some (.boolean), 1, 1),
  (yX7_digs, cX7_digs, 6, none, 1, 0),
  (yX7_dig, cX7_dig, 3, some (.int), 1, 1),
  (yX7_worthTo, cX7_worthTo, 5, some (.int), 1, 1),
  (yX7_worthToAll, cX7_worthToAll, 3, some (.int), 1, 0),
  (yX7_drawer, cX7_drawer, 3, some (.int), 1, 2),
  (yX7_aheadOf, cX7_aheadOf, 5, some (.int), 1, 1),
  (yX7_goodOf, cX7_goodOf, 4, some (.int), 1, 3),
  (yX7_findsDrawn, cX7_findsDrawn, 10, none, 1, 2),
  (yX7_findsMap, cX7_findsMap, 4, none, 1, 1),
  (yX7_draws, cX7_draws, 3, some (.int), 1, 2),
  (yX7_goesYear, cX7_goesYear, 3, some (.boolean), 1, 1),
  (yX7_offFirst, cX7_offFirst, 3, some (.int), 1, 0),
  (yX7_keepsHeights, cX7_keepsHeights, 2, none, 1, 0),
  (yX7_year, cX7_year, 1, some (.int), 1, 0),
  (yX7_begins, cX7_begins, 2, none, 1, 0),
  (yX7_ends, cX7_ends, 2, none, 1, 0),
  (yX7_still, cX7_still, 4, some (.int), 1, 0),
  (yX7_rings, cX7_rings, 3, some (.int), 1, 0),
  (yX7_seeded, cX7_seeded, 7, some (.int), 1, 3),
  (yX7_seam, cX7_seam, 11, some (.int), 1, 4),
  (yX7_drawnAt, cX7_drawnAt, 2, some (.int), 1, 1),
  (yX7_blot, cX7_blot, 7, some (.int), 1, 2),
  (yX7_harm, cX7_harm, 5, some (.int), 1, 2),
  (yX7_chosen, cX7_chosen, 13, some (.int), 1, 1),
  (yX7_leastNumber, cX7_leastNumber, 2, some (.int), 1, 1),
  (yX7_judge, cX7_judge, 6, some (.int), 1, 1),
  (yX7_image, cX7_image, 2, some (.int), 1, 0),
  (yX7_restore, cX7_restore, 2, some (.int), 1, 0),
  (yX7_count, cX7_count, 4, some (.int), 1, 1),
  (yX7_priceOf, cX7_priceOf, 2, some (.int), 2, 2),
  (yX7_keep, cX7_keep, 6, some (.int), 1, 3),
  (yX7_row, cX7_row, 5, some (.int), 1, 3),
  (yX7_put, cX7_put, 5, some (.int), 1, 3),
  (yX7_element, cX7_element, 3, some (.long), 1, 2),
  (yX7_copy, cX7_copy, 8, some (.int), 1, 5),
  (yX7_wrongKept, cX7_wrongKept, 2, some (.int), 1, 1),
  (yX7_price, cX7_price, 3, some (.int), 1, 1),
  (yX7_toss, cX7_toss, 3, some (.int), 1, 1),
  (yJ7_fill_53178, cJ7_fill_53178, 4, none, 2, 2),
  (yL_element, cL_element, 5, some (.int), 2, 4)]
/-- the methods' own numbers: name, code, locals, answer, kind (1 virtual, 2 static, 3 constructor), parameters -/
def mw_info (M : Nat) : Option mw_I := mw_infol[M]?
/-- what a link of class own at i says -/
def mw_okL (own : String) (i : Nat) (q : mv_K) : Prop := match q with
  | (0, ci, f, kd, _) => ∃ r : vw_C, vwCl[ci]? = some r ∧ f < r.2.2 ∧ kd = mw_fk ci f ∧ Cond.fieldLink own i r.1 (r.2.1 f).2.1 (r.2.1 f).2.2.1 ∈ lw_good ∧ (r.2.1 f).1 = r.1
  | (1, M, n, _, z) => ∃ I, mw_info M = some I ∧ M ≠ 28 ∧ M ≠ 122 ∧ M ≠ 125 ∧ M ≠ 218 ∧ mw_okM I ∧ I.2.2.2.2.1 = 1 ∧ Cond.methodLink own i I.1 ∈ lw_good ∧ n = I.2.2.2.2.2 ∧ ∃ rc : vw_C, vwCl[z.toNat]? = some rc ∧ rc.1 = I.1.cls
  | (2, M, n, _, _) => ∃ I, mw_info M = some I ∧ M ≠ 28 ∧ M ≠ 122 ∧ M ≠ 125 ∧ M ≠ 218 ∧ mw_okM I ∧ I.2.2.2.2.1 = 2 ∧ Cond.methodLink own i I.1 ∈ lw_good ∧ n = I.2.2.2.2.2
  | (3, M, n, _, _) => ∃ I, mw_info M = some I ∧ M ≠ 28 ∧ M ≠ 122 ∧ M ≠ 125 ∧ M ≠ 218 ∧ mw_okM I ∧ I.2.2.2.2.1 = 3 ∧ Cond.methodLink own i I.1 ∈ lw_good ∧ n = I.2.2.2.2.2
  | (4, M, n, _, _) => ∃ I, mw_info M = some I ∧ M ≠ 28 ∧ M ≠ 122 ∧ M ≠ 125 ∧ M ≠ 218 ∧ mw_okM I ∧ I.2.2.2.2.1 = 3 ∧ own = RX6 ∧ (i, I.1) ∈ mw_nest ∧ n = I.2.2.2.2.2
  | (5, _, _, _, _) => Cond.methodLink own i Lib.Math.abs.name ∈ lw_good
  | (6, _, _, _, _) => Cond.methodLink own i Lib.Math.max.name ∈ lw_good
  | (7, _, _, _, _) => Cond.methodLink own i Lib.Math.min.name ∈ lw_good
  | (8, _, _, _, _) => Cond.methodLink own i arraycopyName ∈ lw_good
  | (9, _, _, _, _) => Cond.methodLink own i Lib.objectInit ∈ lw_good
  | (10, _, _, _, _) => Cond.methodLink own i ⟨"java/lang/String", "isEmpty", "()Z"⟩ ∈ lw_good
  | (11, _, _, _, _) => Cond.methodLink own i ⟨"java/lang/String", "length", "()I"⟩ ∈ lw_good
  | (12, _, _, _, _) => Cond.methodLink own i ⟨"java/lang/String", "charAt", "(I)C"⟩ ∈ lw_good
  | (20, _, _, _, n) => Cond.constant own i (mv_c n) ∈ lw_good
  | (21, _, _, _, n) => Cond.constantLong own i (mv_cl n) ∈ lw_good
  | (22, a, _, _, _) => own = RX5 ∧ 1 ≤ a ∧ a ≤ 6 ∧ mw_idx.getD (a - 1) 0 = i
  | (31, _, _, _, _) => Cond.classLink own i "[[I" ∈ lw_good
  | (32, c, _, _, _) => ∃ r : vw_C, vwCl[c]? = some r ∧ Cond.classLink own i r.1 ∈ lw_good ∧ Cond.instantiable r.1 r.2.2 ∈ lw_good ∧ Cond.initialized r.1 ∈ lw_good
  | _ => True

section MS
variable {p : Program} {l : Launch} {e : Env} {R : Room} {s : State} {m : MethodId} {args : Array Value} {below : List Frame} {meth : Method} {c : Code} {own : String} {cc : ByteArray} {nL rt : Nat} {D : va_G} {ac sa : Nat → Nat} {b L : Nat} {xs : Nat → Int32} {base n0 s0 : Nat} {Q : State → Prop}
variable {cl : Nat → List mv_V → mv_S → mv_O} {lk : Nat → mv_K} {k : Nat → mv_L → List mv_V → mv_S → mv_O} {pc len : Nat} {lv : mv_L} {st : List mv_V} {σ σF : mv_S} {r0 : Option mv_V}

theorem ms_getfield {i : Nat} (X : mw_X p l R s m args meth c own cc nL rt D ac sa b L xs base) (hd : decode cc pc = .ok (.getfield i, 3)) (hL : mw_okL own i (lk i)) (hst : mv_step cl lk rt k (.getfield i) pc lv st σ = some (r0, σF)) (hk : ∀ pc' lv' st' σ', k pc' lv' st' σ' = some (r0, σF) → σ'.1 <+: σF.1 ∧ mw_G p l e R s m args below meth c nL D ac (mw_ad b sa base) base L xs n0 s0 Q pc' lv' st' σ') : σ.1 <+: σF.1 ∧ mw_G p l e R s m args below meth c nL D ac (mw_ad b sa base) base L xs n0 s0 Q pc lv st σ := by
  have hst : ((match (generalizing := false) st with
    | .inr (.inr o) :: r => (match (generalizing := false) lk i with
      | (0, c, f, 0, _) => mo_rf o fun a => mo_gI σ a c f fun x => k (pc + 3) lv (.inl x :: r) σ
      | (0, c, f, 1, _) => mo_rf o fun a => mo_gI σ a c f fun x => k (pc + 3) lv (.inl x :: r) σ
      | (0, c, f, 2, _) => mo_rf o fun a => mo_gR σ a c f fun x => k (pc + 3) lv (.inr (.inr x) :: r) σ
      | _ => none)
    | _ => none)) = some (r0, σF) := hst
  split at hst
  · rename_i o r hz
    split at hst
    · rename_i c0 f0 n1 hlk
      rw [hlk] at hL
      obtain ⟨rc, hrc, hf, hkd, hlink, hsame⟩ := hL
      obtain ⟨a, ho9, hs9⟩ := mo_rf_inv hst
      clear hst
      subst ho9
      have hst := hs9
      clear hs9
      obtain ⟨hty, hst⟩ := mo_gI_inv hst
      obtain ⟨h1, h2⟩ := hk _ _ _ _ hst
      refine ⟨h1, fun H locs ls cells slots hl hR hS hc hs => mw_gf X hrc hf hlink hsame hd hR hty ?_⟩
      rw [show mw_fv (mw_ad b sa base) σ c0 a f0 = .int (σ.2.1 a f0) by unfold mw_fv; rw [← hkd]; rfl]
      exact h2 H locs ls cells slots hl hR hS hc hs
    · rename_i c0 f0 n1 hlk
      rw [hlk] at hL
      obtain ⟨rc, hrc, hf, hkd, hlink, hsame⟩ := hL
      obtain ⟨a, ho9, hs9⟩ := mo_rf_inv hst
      clear hst
      subst ho9
      have hst := hs9
      clear hs9
      obtain ⟨hty, hst⟩ := mo_gI_inv hst
      obtain ⟨h1, h2⟩ := hk _ _ _ _ hst
      refine ⟨h1, fun H locs ls cells slots hl hR hS hc hs => mw_gf X hrc hf hlink hsame hd hR hty ?_⟩
      rw [show mw_fv (mw_ad b sa base) σ c0 a f0 = .int (σ.2.1 a f0) by unfold mw_fv; rw [← hkd]; rfl]
      exact h2 H locs ls cells slots hl hR hS hc hs
    · rename_i c0 f0 n1 hlk
      rw [hlk] at hL
      obtain ⟨rc, hrc, hf, hkd, hlink, hsame⟩ := hL
      obtain ⟨a, ho9, hs9⟩ := mo_rf_inv hst
      clear hst
      subst ho9
      have hst := hs9
      clear hs9
      obtain ⟨hty, hst⟩ := mo_gR_inv hst
      obtain ⟨h1, h2⟩ := hk _ _ _ _ hst
      refine ⟨h1, fun H locs ls cells slots hl hR hS hc hs => mw_gf X hrc hf hlink hsame hd hR hty ?_⟩
      rw [show mw_fv (mw_ad b sa base) σ c0 a f0 = va_rf ((σ.2.2.1 a f0).map (mw_ad b sa base)) by unfold mw_fv; rw [← hkd]; rfl]
      exact h2 H locs ls cells slots hl hR hS hc hs
    · cases hst
  · cases hst
theorem ms_putfield {i : Nat} (X : mw_X p l R s m args meth c own cc nL rt D ac sa b L xs base) (hd : decode cc pc = .ok (.putfield i, 3)) (hL : mw_okL own i (lk i)) (hfin : match lk i with | (0, ci, f, _, _) => ∀ r : vw_C, vwCl[ci]? = some r → ((r.2.1 f).2.2.2 = false ∨ (meth.name = "<init>" ∧ r.1 = own)) | _ => True) (hst : mv_step cl lk rt k (.putfield i) pc lv st σ = some (r0, σF)) (hk : ∀ pc' lv' st' σ', k pc' lv' st' σ' = some (r0, σF) → σ'.1 <+: σF.1 ∧ mw_G p l e R s m args below meth c nL D ac (mw_ad b sa base) base L xs n0 s0 Q pc' lv' st' σ') : σ.1 <+: σF.1 ∧ mw_G p l e R s m args below meth c nL D ac (mw_ad b sa base) base L xs n0 s0 Q pc lv st σ := by
  have hst : ((match (generalizing := false) lk i with
    | (0, c, f, 0, _) => (match (generalizing := false) st with
      | .inl x :: .inr (.inr o) :: r => mo_rf o fun a => mo_pI σ a c f x fun σ' => k (pc + 3) lv r σ'
      | _ => none)
    | (0, c, f, 1, _) => (match (generalizing := false) st with
      | .inl x :: .inr (.inr o) :: r => mo_rf o fun a => mo_z x (mo_pI σ a c f x fun σ' => k (pc + 3) lv r σ')
      | _ => none)
    | (0, c, f, 2, _) => (match (generalizing := false) st with
      | .inr (.inr x) :: .inr (.inr o) :: r => mo_rf o fun a => mo_pR σ a c f x fun σ' => k (pc + 3) lv r σ'
      | _ => none)
    | _ => none)) = some (r0, σF) := hst
  split at hst
  · rename_i c0 f0 n1 hlk
    split at hst
    · rename_i x o r hz
      rw [hlk] at hL hfin
      obtain ⟨rc, hrc, hf, hkd, hlink, hsame⟩ := hL
      obtain ⟨a, ho9, hs9⟩ := mo_rf_inv hst
      clear hst
      subst ho9
      have hst := hs9
      clear hs9
      obtain ⟨hty, hst⟩ := mo_pI_inv hst
      obtain ⟨h1, h2⟩ := hk _ _ _ _ hst
      refine ⟨h1, fun H locs ls cells slots hl hR hS hc hs => ?_⟩
      refine mw_pf (σ' := ms_i σ (mv_up σ.2.1 a f0 x)) X hrc hf hlink hsame (hfin rc hrc) hd (Or.inl ⟨hkd.symm, x, rfl⟩) hR hS hty rfl (fun q hq => mv_up_ne hq) (fun _ _ => rfl) rfl (fun j => ?_) (fun H1 locs1 hR1 hS1 => h2 H1 locs1 ls cells slots hl hR1 hS1 hc hs)
      by_cases e : j = f0
      · subst e
        simp [updV, mw_fv, mv_up, ← hkd, mw_v]
      · simp [updV, mw_fv, mv_up, e]
    · cases hst
  · rename_i c0 f0 n1 hlk
    split at hst
    · rename_i x o r hz
      rw [hlk] at hL hfin
      obtain ⟨rc, hrc, hf, hkd, hlink, hsame⟩ := hL
      obtain ⟨a, ho9, hs9⟩ := mo_rf_inv hst
      clear hst
      subst ho9
      have hst := hs9
      clear hs9
      obtain ⟨hx01, hst⟩ := mo_z_inv hst
      obtain ⟨hty, hst⟩ := mo_pI_inv hst
      obtain ⟨h1, h2⟩ := hk _ _ _ _ hst
      refine ⟨h1, fun H locs ls cells slots hl hR hS hc hs => ?_⟩
      refine mw_pf (σ' := ms_i σ (mv_up σ.2.1 a f0 x)) X hrc hf hlink hsame (hfin rc hrc) hd (Or.inr (Or.inl ⟨hkd.symm, by rcases hx01 with rfl | rfl; exact Or.inl rfl; exact Or.inr rfl⟩)) hR hS hty rfl (fun q hq => mv_up_ne hq) (fun _ _ => rfl) rfl (fun j => ?_) (fun H1 locs1 hR1 hS1 => h2 H1 locs1 ls cells slots hl hR1 hS1 hc hs)
      by_cases e : j = f0
      · subst e
        simp [updV, mw_fv, mv_up, ← hkd, mw_v]
      · simp [updV, mw_fv, mv_up, e]
    · cases hst
  · rename_i c0 f0 n1 hlk
    split at hst
    · rename_i x o r hz
      rw [hlk] at hL hfin
      obtain ⟨rc, hrc, hf, hkd, hlink, hsame⟩ := hL
      obtain ⟨a, ho9, hs9⟩ := mo_rf_inv hst
      clear hst
      subst ho9
      have hst := hs9
      clear hs9
      obtain ⟨hty, hst⟩ := mo_pR_inv hst
      obtain ⟨h1, h2⟩ := hk _ _ _ _ hst
      refine ⟨h1, fun H locs ls cells slots hl hR hS hc hs => ?_⟩
      refine mw_pf (σ' := ms_r σ (mv_up σ.2.2.1 a f0 x)) X hrc hf hlink hsame (hfin rc hrc) hd (Or.inr (Or.inr ⟨hkd.symm, x.map (mw_ad b sa base), rfl⟩)) hR hS hty rfl (fun _ _ => rfl) (fun q hq => mv_up_ne hq) rfl (fun j => ?_) (fun H1 locs1 hR1 hS1 => h2 H1 locs1 ls cells slots hl hR1 hS1 hc hs)
      by_cases e : j = f0
      · subst e
        simp [updV, mw_fv, mv_up, ← hkd, mw_v]
      · simp [updV, mw_fv, mv_up, e]
    · cases hst
  · cases hst
theorem ms_iaload (X : mw_X p l R s m args meth c own cc nL rt D ac sa b L xs base) (hd : decode cc pc = .ok (.iaload, 1))  (hst : mv_step cl lk rt k (.iaload) pc lv st σ = some (r0, σF)) (hk : ∀ pc' lv' st' σ', k pc' lv' st' σ' = some (r0, σF) → σ'.1 <+: σF.1 ∧ mw_G p l e R s m args below meth c nL D ac (mw_ad b sa base) base L xs n0 s0 Q pc' lv' st' σ') : σ.1 <+: σF.1 ∧ mw_G p l e R s m args below meth c nL D ac (mw_ad b sa base) base L xs n0 s0 Q pc lv st σ := by
  have hst : ((match (generalizing := false) st with
    | .inl i :: .inr (.inr o) :: r => mo_rf o fun a => mo_aI σ a i fun x => k (pc + 1) lv (.inl x :: r) σ
    | _ => none)) = some (r0, σF) := hst
  split at hst
  · rename_i i o r hz
    obtain ⟨a, ho9, hs9⟩ := mo_rf_inv hst
    clear hst
    subst ho9
    have hst := hs9
    clear hs9
    unfold mo_aI at hst
    obtain ⟨n, hq, hst⟩ := mo_ty_inv hst
    obtain ⟨hin, hst⟩ := mo_ix_inv hst
    obtain ⟨h1, h2⟩ := hk _ _ _ _ hst
    exact ⟨h1, fun H locs ls cells slots hl hR hS hc hs => mw_iald X hR hS hq hin hd (h2 H locs ls cells slots hl hR hS hc hs)⟩
  · cases hst
theorem ms_baload (X : mw_X p l R s m args meth c own cc nL rt D ac sa b L xs base) (hd : decode cc pc = .ok (.baload, 1))  (hst : mv_step cl lk rt k (.baload) pc lv st σ = some (r0, σF)) (hk : ∀ pc' lv' st' σ', k pc' lv' st' σ' = some (r0, σF) → σ'.1 <+: σF.1 ∧ mw_G p l e R s m args below meth c nL D ac (mw_ad b sa base) base L xs n0 s0 Q pc' lv' st' σ') : σ.1 <+: σF.1 ∧ mw_G p l e R s m args below meth c nL D ac (mw_ad b sa base) base L xs n0 s0 Q pc lv st σ := by
  have hst : ((match (generalizing := false) st with
    | .inl i :: .inr (.inr o) :: r => mo_rf o fun a => mo_aZ σ a i fun x => k (pc + 1) lv (.inl x :: r) σ
    | _ => none)) = some (r0, σF) := hst
  split at hst
  · rename_i i o r hz
    obtain ⟨a, ho9, hs9⟩ := mo_rf_inv hst
    clear hst
    subst ho9
    have hst := hs9
    clear hs9
    unfold mo_aZ at hst
    obtain ⟨n, hq, hst⟩ := mo_ty_inv hst
    obtain ⟨hin, hst⟩ := mo_ix_inv hst
    obtain ⟨h1, h2⟩ := hk _ _ _ _ hst
    exact ⟨h1, fun H locs ls cells slots hl hR hS hc hs => mw_zald X hR hS hq hin hd (h2 H locs ls cells slots hl hR hS hc hs)⟩
  · cases hst
theorem ms_laload (X : mw_X p l R s m args meth c own cc nL rt D ac sa b L xs base) (hd : decode cc pc = .ok (.laload, 1))  (hst : mv_step cl lk rt k (.laload) pc lv st σ = some (r0, σF)) (hk : ∀ pc' lv' st' σ', k pc' lv' st' σ' = some (r0, σF) → σ'.1 <+: σF.1 ∧ mw_G p l e R s m args below meth c nL D ac (mw_ad b sa base) base L xs n0 s0 Q pc' lv' st' σ') : σ.1 <+: σF.1 ∧ mw_G p l e R s m args below meth c nL D ac (mw_ad b sa base) base L xs n0 s0 Q pc lv st σ := by
  have hst : ((match (generalizing := false) st with
    | .inl i :: .inr (.inr o) :: r => mo_rf o fun a => mo_aL σ a i fun x => k (pc + 1) lv (.inr (.inl x) :: r) σ
    | _ => none)) = some (r0, σF) := hst
  split at hst
  · rename_i i o r hz
    obtain ⟨a, ho9, hs9⟩ := mo_rf_inv hst
    clear hst
    subst ho9
    have hst := hs9
    clear hs9
    unfold mo_aL at hst
    obtain ⟨n, hq, hst⟩ := mo_ty_inv hst
    obtain ⟨hin, hst⟩ := mo_ix_inv hst
    obtain ⟨h1, h2⟩ := hk _ _ _ _ hst
    exact ⟨h1, fun H locs ls cells slots hl hR hS hc hs => mw_lald X hR hS hq hin hd (h2 H locs ls cells slots hl hR hS hc hs)⟩
  · cases hst
theorem ms_aaload (X : mw_X p l R s m args meth c own cc nL rt D ac sa b L xs base) (hd : decode cc pc = .ok (.aaload, 1))  (hst : mv_step cl lk rt k (.aaload) pc lv st σ = some (r0, σF)) (hk : ∀ pc' lv' st' σ', k pc' lv' st' σ' = some (r0, σF) → σ'.1 <+: σF.1 ∧ mw_G p l e R s m args below meth c nL D ac (mw_ad b sa base) base L xs n0 s0 Q pc' lv' st' σ') : σ.1 <+: σF.1 ∧ mw_G p l e R s m args below meth c nL D ac (mw_ad b sa base) base L xs n0 s0 Q pc lv st σ := by
  have hst : ((match (generalizing := false) st with
    | .inl i :: .inr (.inr o) :: r => mo_rf o fun a => mo_aR σ a i fun x => k (pc + 1) lv (.inr (.inr x) :: r) σ
    | _ => none)) = some (r0, σF) := hst
  split at hst
  · rename_i i o r hz
    obtain ⟨a, ho9, hs9⟩ := mo_rf_inv hst
    clear hst
    subst ho9
    have hst := hs9
    clear hs9
    unfold mo_aR at hst
    obtain ⟨t, n, hq, h3, h5, hst⟩ := mo_tr_inv hst
    obtain ⟨hin, hst⟩ := mo_ix_inv hst
    obtain ⟨h1, h2⟩ := hk _ _ _ _ hst
    exact ⟨h1, fun H locs ls cells slots hl hR hS hc hs => mw_aald X hR hS hq h3 h5 hin hd (h2 H locs ls cells slots hl hR hS hc hs)⟩
  · cases hst
theorem ms_iastore (X : mw_X p l R s m args meth c own cc nL rt D ac sa b L xs base) (hd : decode cc pc = .ok (.iastore, 1))  (hst : mv_step cl lk rt k (.iastore) pc lv st σ = some (r0, σF)) (hk : ∀ pc' lv' st' σ', k pc' lv' st' σ' = some (r0, σF) → σ'.1 <+: σF.1 ∧ mw_G p l e R s m args below meth c nL D ac (mw_ad b sa base) base L xs n0 s0 Q pc' lv' st' σ') : σ.1 <+: σF.1 ∧ mw_G p l e R s m args below meth c nL D ac (mw_ad b sa base) base L xs n0 s0 Q pc lv st σ := by
  have hst : ((match (generalizing := false) st with
    | .inl x :: .inl i :: .inr (.inr o) :: r => mo_rf o fun a => mo_sI σ a i x fun σ' => k (pc + 1) lv r σ'
    | _ => none)) = some (r0, σF) := hst
  split at hst
  · rename_i x i o r hz
    obtain ⟨a, ho9, hs9⟩ := mo_rf_inv hst
    clear hst
    subst ho9
    have hst := hs9
    clear hs9
    unfold mo_sI at hst
    obtain ⟨h16, hst⟩ := mo_own_inv hst
    obtain ⟨n, hq, hst⟩ := mo_ty_inv hst
    obtain ⟨hin, hst⟩ := mo_ix_inv hst
    obtain ⟨h1, h2⟩ := hk _ _ _ _ hst
    exact ⟨h1, fun H locs ls cells slots hl hR hS hc hs => mw_iast X hR hS hq h16 hin hd (fun H1 locs1 hR1 hS1 => h2 H1 locs1 ls cells slots hl hR1 hS1 hc hs)⟩
  · cases hst
theorem ms_bastore (X : mw_X p l R s m args meth c own cc nL rt D ac sa b L xs base) (hd : decode cc pc = .ok (.bastore, 1))  (hst : mv_step cl lk rt k (.bastore) pc lv st σ = some (r0, σF)) (hk : ∀ pc' lv' st' σ', k pc' lv' st' σ' = some (r0, σF) → σ'.1 <+: σF.1 ∧ mw_G p l e R s m args below meth c nL D ac (mw_ad b sa base) base L xs n0 s0 Q pc' lv' st' σ') : σ.1 <+: σF.1 ∧ mw_G p l e R s m args below meth c nL D ac (mw_ad b sa base) base L xs n0 s0 Q pc lv st σ := by
  have hst : ((match (generalizing := false) st with
    | .inl x :: .inl i :: .inr (.inr o) :: r => mo_rf o fun a => mo_sZ σ a i x fun σ' => k (pc + 1) lv r σ'
    | _ => none)) = some (r0, σF) := hst
  split at hst
  · rename_i x i o r hz
    obtain ⟨a, ho9, hs9⟩ := mo_rf_inv hst
    clear hst
    subst ho9
    have hst := hs9
    clear hs9
    unfold mo_sZ at hst
    obtain ⟨h16, hst⟩ := mo_own_inv hst
    obtain ⟨n, hq, hst⟩ := mo_ty_inv hst
    obtain ⟨hin, hst⟩ := mo_ix_inv hst
    obtain ⟨h01, hst⟩ := mo_z_inv hst
    obtain ⟨h1, h2⟩ := hk _ _ _ _ hst
    exact ⟨h1, fun H locs ls cells slots hl hR hS hc hs => mw_zast X hR hS hq h16 h01 hin hd (fun H1 locs1 hR1 hS1 => h2 H1 locs1 ls cells slots hl hR1 hS1 hc hs)⟩
  · cases hst
theorem ms_lastore (X : mw_X p l R s m args meth c own cc nL rt D ac sa b L xs base) (hd : decode cc pc = .ok (.lastore, 1))  (hst : mv_step cl lk rt k (.lastore) pc lv st σ = some (r0, σF)) (hk : ∀ pc' lv' st' σ', k pc' lv' st' σ' = some (r0, σF) → σ'.1 <+: σF.1 ∧ mw_G p l e R s m args below meth c nL D ac (mw_ad b sa base) base L xs n0 s0 Q pc' lv' st' σ') : σ.1 <+: σF.1 ∧ mw_G p l e R s m args below meth c nL D ac (mw_ad b sa base) base L xs n0 s0 Q pc lv st σ := by
  have hst : ((match (generalizing := false) st with
    | .inr (.inl x) :: .inl i :: .inr (.inr o) :: r => mo_rf o fun a => mo_sL σ a i x fun σ' => k (pc + 1) lv r σ'
    | _ => none)) = some (r0, σF) := hst
  split at hst
  · rename_i x i o r hz
    obtain ⟨a, ho9, hs9⟩ := mo_rf_inv hst
    clear hst
    subst ho9
    have hst := hs9
    clear hs9
    unfold mo_sL at hst
    obtain ⟨h16, hst⟩ := mo_own_inv hst
    obtain ⟨n, hq, hst⟩ := mo_ty_inv hst
    obtain ⟨hin, hst⟩ := mo_ix_inv hst
    obtain ⟨h1, h2⟩ := hk _ _ _ _ hst
    exact ⟨h1, fun H locs ls cells slots hl hR hS hc hs => mw_last X hR hS hq h16 hin hd (fun H1 locs1 hR1 hS1 => h2 H1 locs1 ls cells slots hl hR1 hS1 hc hs)⟩
  · cases hst
theorem ms_aastore (X : mw_X p l R s m args meth c own cc nL rt D ac sa b L xs base) (hd : decode cc pc = .ok (.aastore, 1))  (hst : mv_step cl lk rt k (.aastore) pc lv st σ = some (r0, σF)) (hk : ∀ pc' lv' st' σ', k pc' lv' st' σ' = some (r0, σF) → σ'.1 <+: σF.1 ∧ mw_G p l e R s m args below meth c nL D ac (mw_ad b sa base) base L xs n0 s0 Q pc' lv' st' σ') : σ.1 <+: σF.1 ∧ mw_G p l e R s m args below meth c nL D ac (mw_ad b sa base) base L xs n0 s0 Q pc lv st σ := by
  have hst : ((match (generalizing := false) st with
    | .inr (.inr x) :: .inl i :: .inr (.inr o) :: r => mo_rf o fun a => mo_sR σ a i x fun σ' => k (pc + 1) lv r σ'
    | _ => none)) = some (r0, σF) := hst
  split at hst
  · rename_i x i o r hz
    obtain ⟨a, ho9, hs9⟩ := mo_rf_inv hst
    clear hst
    subst ho9
    have hst := hs9
    clear hs9
    unfold mo_sR at hst
    obtain ⟨h16, hst⟩ := mo_own_inv hst
    obtain ⟨t, n, hq, h3, h5, hst⟩ := mo_tr_inv hst
    split at hst
    · cases hst
    · rename_i hn5
      obtain ⟨hin, hst⟩ := mo_ix_inv hst
      cases x with
      | none =>
        obtain ⟨h1, h2⟩ := hk _ _ _ _ hst
        exact ⟨h1, fun H locs ls cells slots hl hR hS hc hs => mw_aastN X hR hS hq h3 h5 hn5 h16 hin hd (fun H1 locs1 hR1 hS1 => h2 H1 locs1 ls cells slots hl hR1 hS1 hc hs)⟩
      | some y =>
        dsimp only at hst
        split at hst
        · rename_i ho
          obtain ⟨h1, h2⟩ := hk _ _ _ _ hst
          exact ⟨h1, fun H locs ls cells slots hl hR hS hc hs => mw_aast X hR hS hq h3 h5 hn5 h16 ho hin hd (fun H1 locs1 hR1 hS1 => h2 H1 locs1 ls cells slots hl hR1 hS1 hc hs)⟩
        · cases hst
  · cases hst
theorem ms_arraylength (X : mw_X p l R s m args meth c own cc nL rt D ac sa b L xs base) (hd : decode cc pc = .ok (.arraylength, 1))  (hst : mv_step cl lk rt k (.arraylength) pc lv st σ = some (r0, σF)) (hk : ∀ pc' lv' st' σ', k pc' lv' st' σ' = some (r0, σF) → σ'.1 <+: σF.1 ∧ mw_G p l e R s m args below meth c nL D ac (mw_ad b sa base) base L xs n0 s0 Q pc' lv' st' σ') : σ.1 <+: σF.1 ∧ mw_G p l e R s m args below meth c nL D ac (mw_ad b sa base) base L xs n0 s0 Q pc lv st σ := by
  have hst : ((match (generalizing := false) st with
    | .inr (.inr o) :: r => mo_rf o fun a => mo_al σ a fun x => k (pc + 1) lv (.inl x :: r) σ
    | _ => none)) = some (r0, σF) := hst
  split at hst
  · rename_i o r hz
    obtain ⟨a, ho9, hs9⟩ := mo_rf_inv hst
    clear hst
    subst ho9
    have hst := hs9
    clear hs9
    unfold mo_al at hst
    split at hst
    · rename_i t n hq
      split at hst
      · rename_i h6
        obtain ⟨h1, h2⟩ := hk _ _ _ _ hst
        exact ⟨h1, fun H locs ls cells slots hl hR hS hc hs => mw_alen X hR hS hq h6 hd (h2 H locs ls cells slots hl hR hS hc hs)⟩
      · cases hst
    · cases hst
  · cases hst
theorem ms_newI (X : mw_X p l R s m args meth c own cc nL rt D ac sa b L xs base) (hd : decode cc pc = .ok (.newarray .int, 2)) (hB : σF.1.length ≤ R.cells + n0 ∧ mw_sz σF.1 ≤ R.slots + s0) (hA : Cond.arrayClass (mw_kty 0) ∈ lw_good) (hst : mv_step cl lk rt k (.newarray .int) pc lv st σ = some (r0, σF)) (hk : ∀ pc' lv' st' σ', k pc' lv' st' σ' = some (r0, σF) → σ'.1 <+: σF.1 ∧ mw_G p l e R s m args below meth c nL D ac (mw_ad b sa base) base L xs n0 s0 Q pc' lv' st' σ') : σ.1 <+: σF.1 ∧ mw_G p l e R s m args below meth c nL D ac (mw_ad b sa base) base L xs n0 s0 Q pc lv st σ := by
  have hst : ((match (generalizing := false) st with
    | .inl n :: r => mo_na σ 0 n fun o σ' => k (pc + 2) lv (.inr (.inr o) :: r) σ'
    | _ => none)) = some (r0, σF) := hst
  split at hst
  · rename_i n r hz
    unfold mo_na at hst
    obtain ⟨hin, hst⟩ := mo_ix_inv hst
    obtain ⟨h1, h2⟩ := hk _ _ _ _ hst
    have h3 := mw_sz_le h1
    rw [mw_sz_na, mw_len_na] at h3
    refine ⟨List.IsPrefix.trans (List.prefix_append _ _) h1, fun H locs ls cells slots hl hR hS hc hs => ?_⟩
    refine mw_newa X (t := 0) (by decide) rfl hA hR hS hin hd (by omega) (by omega) (fun H1 locs1 hR1 hS1 => h2 H1 locs1 ls _ _ hl hR1 hS1 ?_ ?_)
    · rw [mw_len_na]; omega
    · rw [mw_sz_na]; omega
  · cases hst
theorem ms_newZ (X : mw_X p l R s m args meth c own cc nL rt D ac sa b L xs base) (hd : decode cc pc = .ok (.newarray .boolean, 2)) (hB : σF.1.length ≤ R.cells + n0 ∧ mw_sz σF.1 ≤ R.slots + s0) (hA : Cond.arrayClass (mw_kty 1) ∈ lw_good) (hst : mv_step cl lk rt k (.newarray .boolean) pc lv st σ = some (r0, σF)) (hk : ∀ pc' lv' st' σ', k pc' lv' st' σ' = some (r0, σF) → σ'.1 <+: σF.1 ∧ mw_G p l e R s m args below meth c nL D ac (mw_ad b sa base) base L xs n0 s0 Q pc' lv' st' σ') : σ.1 <+: σF.1 ∧ mw_G p l e R s m args below meth c nL D ac (mw_ad b sa base) base L xs n0 s0 Q pc lv st σ := by
  have hst : ((match (generalizing := false) st with
    | .inl n :: r => mo_na σ 1 n fun o σ' => k (pc + 2) lv (.inr (.inr o) :: r) σ'
    | _ => none)) = some (r0, σF) := hst
  split at hst
  · rename_i n r hz
    unfold mo_na at hst
    obtain ⟨hin, hst⟩ := mo_ix_inv hst
    obtain ⟨h1, h2⟩ := hk _ _ _ _ hst
    have h3 := mw_sz_le h1
    rw [mw_sz_na, mw_len_na] at h3
    refine ⟨List.IsPrefix.trans (List.prefix_append _ _) h1, fun H locs ls cells slots hl hR hS hc hs => ?_⟩
    refine mw_newa X (t := 1) (by decide) rfl hA hR hS hin hd (by omega) (by omega) (fun H1 locs1 hR1 hS1 => h2 H1 locs1 ls _ _ hl hR1 hS1 ?_ ?_)
    · rw [mw_len_na]; omega
    · rw [mw_sz_na]; omega
  · cases hst
theorem ms_newL (X : mw_X p l R s m args meth c own cc nL rt D ac sa b L xs base) (hd : decode cc pc = .ok (.newarray .long, 2)) (hB : σF.1.length ≤ R.cells + n0 ∧ mw_sz σF.1 ≤ R.slots + s0) (hA : Cond.arrayClass (mw_kty 2) ∈ lw_good) (hst : mv_step cl lk rt k (.newarray .long) pc lv st σ = some (r0, σF)) (hk : ∀ pc' lv' st' σ', k pc' lv' st' σ' = some (r0, σF) → σ'.1 <+: σF.1 ∧ mw_G p l e R s m args below meth c nL D ac (mw_ad b sa base) base L xs n0 s0 Q pc' lv' st' σ') : σ.1 <+: σF.1 ∧ mw_G p l e R s m args below meth c nL D ac (mw_ad b sa base) base L xs n0 s0 Q pc lv st σ := by
  have hst : ((match (generalizing := false) st with
    | .inl n :: r => mo_na σ 2 n fun o σ' => k (pc + 2) lv (.inr (.inr o) :: r) σ'
    | _ => none)) = some (r0, σF) := hst
  split at hst
  · rename_i n r hz
    unfold mo_na at hst
    obtain ⟨hin, hst⟩ := mo_ix_inv hst
    obtain ⟨h1, h2⟩ := hk _ _ _ _ hst
    have h3 := mw_sz_le h1
    rw [mw_sz_na, mw_len_na] at h3
    refine ⟨List.IsPrefix.trans (List.prefix_append _ _) h1, fun H locs ls cells slots hl hR hS hc hs => ?_⟩
    refine mw_newa X (t := 2) (by decide) rfl hA hR hS hin hd (by omega) (by omega) (fun H1 locs1 hR1 hS1 => h2 H1 locs1 ls _ _ hl hR1 hS1 ?_ ?_)
    · rw [mw_len_na]; omega
    · rw [mw_sz_na]; omega
  · cases hst
theorem ms_anewarray {i : Nat} (X : mw_X p l R s m args meth c own cc nL rt D ac sa b L xs base) (hd : decode cc pc = .ok (.anewarray i, 3)) (hB : σF.1.length ≤ R.cells + n0 ∧ mw_sz σF.1 ≤ R.slots + s0) (hL : mw_okL own i (lk i)) (hcs : ∀ (rc : vw_C) {c0 x y : Nat} (z : Int), lk i = (32, c0, x, y, z) → vwCl[c0]? = some rc → (c0 = 2 ∧ rc.1 = "LandByMap$Drawer") ∨ (c0 = 4 ∧ rc.1 = "LandByMap$Shelf")) (hst : mv_step cl lk rt k (.anewarray i) pc lv st σ = some (r0, σF)) (hk : ∀ pc' lv' st' σ', k pc' lv' st' σ' = some (r0, σF) → σ'.1 <+: σF.1 ∧ mw_G p l e R s m args below meth c nL D ac (mw_ad b sa base) base L xs n0 s0 Q pc' lv' st' σ') : σ.1 <+: σF.1 ∧ mw_G p l e R s m args below meth c nL D ac (mw_ad b sa base) base L xs n0 s0 Q pc lv st σ := by
  have hst : ((match (generalizing := false) lk i with
    | (32, c, _, _, _) => (match (generalizing := false) st with
      | .inl n :: r => mo_na σ (if c = 2 then 3 else 4) n fun o σ' => k (pc + 3) lv (.inr (.inr o) :: r) σ'
      | _ => none)
    | _ => none)) = some (r0, σF) := hst
  split at hst
  · rename_i c0 _ _ _ hlk
    rw [hlk] at hL
    obtain ⟨rc, hrc, hl1, hl2, hl3⟩ := hL
    split at hst
    · rename_i n r hz
      unfold mo_na at hst
      obtain ⟨hin, hst⟩ := mo_ix_inv hst
      obtain ⟨h1, h2⟩ := hk _ _ _ _ hst
      have h3 := mw_sz_le h1
      rw [mw_sz_na, mw_len_na] at h3
      refine ⟨List.IsPrefix.trans (List.prefix_append _ _) h1, fun H locs ls cells slots hl hR hS hc hs => ?_⟩
      have hOv := X.2.2.2.2.2.2.2.2.2.2.2.2.1
      have hcc : (c0 = 2 ∧ rc.1 = "LandByMap$Drawer") ∨ (c0 = 4 ∧ rc.1 = "LandByMap$Shelf") := hcs rc _ hlk hrc
      rcases hcc with ⟨rfl, hC⟩ | ⟨rfl, hC⟩
      · rw [hC] at hl1
        refine mw_anew X (t := 3) (by decide) (by decide) rfl hl1 hOv.1 hR hS hin hd (by omega) (by omega) (fun H1 locs1 hR1 hS1 => h2 H1 locs1 ls _ _ hl hR1 hS1 ?_ ?_)
        · rw [mw_len_na]; omega
        · rw [mw_sz_na]; omega
      · rw [hC] at hl1
        refine mw_anew X (t := 4) (by decide) (by decide) rfl hl1 hOv.2 hR hS hin hd (by omega) (by omega) (fun H1 locs1 hR1 hS1 => h2 H1 locs1 ls _ _ hl hR1 hS1 ?_ ?_)
        · rw [mw_len_na]; omega
        · rw [mw_sz_na]; omega
    · cases hst
  · cases hst
end MS
