def yJ_max : MethodName := ⟨"java/lang/Math", "max", "(II)I"⟩
def yJ_bitCount : MethodName := ⟨"java/lang/Integer", "bitCount", "(I)I"⟩
abbrev mX6_init : MD := (yX6_init, cX6_init, 1, none, RX6)
abbrev mX2_init : MD := (yX2_init, cX2_init, 1, none, RX2)
abbrev mX3_init : MD := (yX3_init, cX3_init, 3, none, RX3)
abbrev mX5_init : MD := (yX5_init, cX5_init, 1, none, RX5)
abbrev mX1_init : MD := (yX1_init, cX1_init, 3, none, RX1)
abbrev mX4_init : MD := (yX4_init, cX4_init, 5, none, RX4)
abbrev mX0_init : MD := (yX0_init, cX0_init, 2, none, RX0)
abbrev mX6_scene : MD := (yX6_scene, cX6_scene, 6, (some .int), RX6)
abbrev mX6_within : MD := (yX6_within, cX6_within, 3, (some .boolean), RX6)
abbrev mX6_isPlace : MD := (yX6_isPlace, cX6_isPlace, 1, (some .boolean), RX6)
abbrev mX2_addScene : MD := (yX2_addScene, cX2_addScene, 7, (some .int), RX2)
abbrev mX6_player : MD := (yX6_player, cX6_player, 4, (some .int), RX6)
abbrev mX6_isPlayer : MD := (yX6_isPlayer, cX6_isPlayer, 1, (some .boolean), RX6)
abbrev mX6_rent : MD := (yX6_rent, cX6_rent, 4, (some .int), RX6)
abbrev mX6_spot : MD := (yX6_spot, cX6_spot, 4, (some .int), RX6)
abbrev mX3_measureRows : MD := (yX3_measureRows, cX3_measureRows, 2, none, RX3)
abbrev mX5_measure : MD := (yX5_measure, cX5_measure, 3, none, RX5)
abbrev mX5_forget : MD := (yX5_forget, cX5_forget, 1, none, RX5)
abbrev mX5_measureScene : MD := (yX5_measureScene, cX5_measureScene, 3, none, RX5)
abbrev mX2_way : MD := (yX2_way, cX2_way, 4, (some .int), RX2)
abbrev mX5_isInTurn : MD := (yX5_isInTurn, cX5_isInTurn, 4, (some .boolean), RX5)
abbrev mX3_keeps : MD := (yX3_keeps, cX3_keeps, 5, (some .boolean), RX3)
abbrev mX5_fitsInto : MD := (yX5_fitsInto, cX5_fitsInto, 3, (some .boolean), RX5)
abbrev mX5_hasDayLight : MD := (yX5_hasDayLight, cX5_hasDayLight, 1, (some .boolean), RX5)
abbrev mX6_ahead : MD := (yX6_ahead, cX6_ahead, 4, (some .int), RX6)
abbrev mX2_hasScene : MD := (yX2_hasScene, cX2_hasScene, 2, (some .boolean), RX2)
abbrev mX2_needsByOthersToo : MD := (yX2_needsByOthersToo, cX2_needsByOthersToo, 4, (some .int), RX2)
abbrev mX2_needsOfAll : MD := (yX2_needsOfAll, cX2_needsOfAll, 4, (some .int), RX2)
abbrev mX6_hasBit : MD := (yX6_hasBit, cX6_hasBit, 2, (some .boolean), RX6)
abbrev mX6_day : MD := (yX6_day, cX6_day, 3, (some .int), RX6)
abbrev mX6_isDayLength : MD := (yX6_isDayLength, cX6_isDayLength, 2, (some .boolean), RX6)
abbrev mX3_addDay : MD := (yX3_addDay, cX3_addDay, 4, (some .int), RX3)
abbrev mX6_about : MD := (yX6_about, cX6_about, 3, (some .int), RX6)
abbrev mX3_dayWith : MD := (yX3_dayWith, cX3_dayWith, 3, (some .int), RX3)
abbrev mX3_placeInRow : MD := (yX3_placeInRow, cX3_placeInRow, 5, (some .int), RX3)
abbrev mX6_row : MD := (yX6_row, cX6_row, 3, (some .int), RX6)
abbrev mX3_hasDay : MD := (yX3_hasDay, cX3_hasDay, 2, (some .boolean), RX3)
abbrev mX5_sceneAt : MD := (yX5_sceneAt, cX5_sceneAt, 2, (some .int), RX5)
abbrev mX6_of : MD := (yX6_of, cX6_of, 4, (some .int), RX6)
abbrev mX5_halfHoursOver : MD := (yX5_halfHoursOver, cX5_halfHoursOver, 2, (some .int), RX5)
abbrev mX6_held : MD := (yX6_held, cX6_held, 3, (some .int), RX6)
abbrev mX3_firstDayOf : MD := (yX3_firstDayOf, cX3_firstDayOf, 3, (some .int), RX3)
abbrev mX3_plays : MD := (yX3_plays, cX3_plays, 3, (some .boolean), RX3)
abbrev mX3_lastDayOf : MD := (yX3_lastDayOf, cX3_lastDayOf, 3, (some .int), RX3)
abbrev mX3_daysWith : MD := (yX3_daysWith, cX3_daysWith, 4, (some .int), RX3)
abbrev mX1_paidDays : MD := (yX1_paidDays, cX1_paidDays, 5, (some .int), RX1)
abbrev mX1_isLetGo : MD := (yX1_isLetGo, cX1_isLetGo, 3, (some .boolean), RX1)
abbrev mX6_cost : MD := (yX6_cost, cX6_cost, 2, (some .int), RX6)
abbrev mX1_total : MD := (yX1_total, cX1_total, 1, (some .int), RX1)
abbrev mX1_wages : MD := (yX1_wages, cX1_wages, 3, (some .int), RX1)
abbrev mX1_rents : MD := (yX1_rents, cX1_rents, 3, (some .int), RX1)
abbrev mX1_rentOf : MD := (yX1_rentOf, cX1_rentOf, 4, (some .int), RX1)
abbrev mX1_overtime : MD := (yX1_overtime, cX1_overtime, 3, (some .int), RX1)
abbrev mX6_below : MD := (yX6_below, cX6_below, 1, (some .int), RX6)
abbrev mX1_leastPossible : MD := (yX1_leastPossible, cX1_leastPossible, 5, (some .int), RX1)
abbrev mX3_greatestMost : MD := (yX3_greatestMost, cX3_greatestMost, 3, (some .int), RX3)
abbrev cJ_max : ByteArray := prog_11_method_65_code
abbrev mJ_max : MD := (yJ_max, cJ_max, 2, (some .int), "java/lang/Math")
abbrev mX1_minutesInRows : MD := (yX1_minutesInRows, cX1_minutesInRows, 5, (some .int), RX1)
abbrev mX3_scenesInRows : MD := (yX3_scenesInRows, cX3_scenesInRows, 3, (some .int), RX3)
abbrev mX1_placesInRows : MD := (yX1_placesInRows, cX1_placesInRows, 3, (some .int), RX1)
abbrev mX6_may : MD := (yX6_may, cX6_may, 4, (some .int), RX6)
abbrev mX6_refusalToJoin : MD := (yX6_refusalToJoin, cX6_refusalToJoin, 3, (some .int), RX6)
abbrev mX4_couldJoin : MD := (yX4_couldJoin, cX4_couldJoin, 4, (some .int), RX4)
abbrev mX4_join : MD := (yX4_join, cX4_join, 3, (some .int), RX4)
abbrev mX5_isFull : MD := (yX5_isFull, cX5_isFull, 1, (some .boolean), RX5)
abbrev mX0_arrange : MD := (yX0_arrange, cX0_arrange, 4, none, RX0)
abbrev mX0_fillPool : MD := (yX0_fillPool, cX0_fillPool, 3, none, RX0)
abbrev mX0_tryEach : MD := (yX0_tryEach, cX0_tryEach, 6, none, RX0)
abbrev mX0_tryNext : MD := (yX0_tryNext, cX0_tryNext, 6, none, RX0)
abbrev mX5_clear : MD := (yX5_clear, cX5_clear, 1, none, RX5)
abbrev mX5_append : MD := (yX5_append, cX5_append, 2, none, RX5)
abbrev mX3_exchange : MD := (yX3_exchange, cX3_exchange, 4, none, RX3)
abbrev mX6_put : MD := (yX6_put, cX6_put, 4, (some .int), RX6)
abbrev mX6_take : MD := (yX6_take, cX6_take, 3, (some .int), RX6)
abbrev mX4_leave : MD := (yX4_leave, cX4_leave, 6, none, RX4)
abbrev mX6_tidy : MD := (yX6_tidy, cX6_tidy, 2, (some .int), RX6)
abbrev mX4_arrangeDay : MD := (yX4_arrangeDay, cX4_arrangeDay, 2, none, RX4)
abbrev mX6_trade : MD := (yX6_trade, cX6_trade, 3, (some .int), RX6)
abbrev mX6_better : MD := (yX6_better, cX6_better, 2, (some .int), RX6)
abbrev mX4_makeFirstGoodMove : MD := (yX4_makeFirstGoodMove, cX4_makeFirstGoodMove, 5, (some .boolean), RX4)
abbrev mX4_moveIfGood : MD := (yX4_moveIfGood, cX4_moveIfGood, 5, (some .boolean), RX4)
abbrev mX4_makeFirstGoodTrade : MD := (yX4_makeFirstGoodTrade, cX4_makeFirstGoodTrade, 4, (some .boolean), RX4)
abbrev mX6_order : MD := (yX6_order, cX6_order, 1, (some .int), RX6)
abbrev mX4_takeBestOrder : MD := (yX4_takeBestOrder, cX4_takeBestOrder, 3, (some .int), RX4)
abbrev mX4_toNextTurns : MD := (yX4_toNextTurns, cX4_toNextTurns, 6, (some .boolean), RX4)
abbrev mX4_swapTurns : MD := (yX4_swapTurns, cX4_swapTurns, 4, none, RX4)
abbrev mX4_giveRows : MD := (yX4_giveRows, cX4_giveRows, 3, none, RX4)
abbrev mX6_rain : MD := (yX6_rain, cX6_rain, 3, (some .int), RX6)
abbrev mX4_clearOutScenes : MD := (yX4_clearOutScenes, cX4_clearOutScenes, 5, (some .int), RX4)
abbrev mX4_fillWithIndoorScenes : MD := (yX4_fillWithIndoorScenes, cX4_fillWithIndoorScenes, 5, (some .int), RX4)
abbrev mX6_change : MD := (yX6_change, cX6_change, 4, (some .int), RX6)
abbrev mX6_count : MD := (yX6_count, cX6_count, 2, (some .int), RX6)
abbrev cJ_bitCount : ByteArray := prog_10_method_49_code
abbrev mJ_bitCount : MD := (yJ_bitCount, cJ_bitCount, 1, (some .int), "java/lang/Integer")
abbrev mX2_scenesAheadOfSome : MD := (yX2_scenesAheadOfSome, cX2_scenesAheadOfSome, 3, (some .int), RX2)
abbrev mX7_init : MD := (yX7_init, cX7_init, 1, none, RX7)
abbrev mX7_scene : MD := (yX7_scene, cX7_scene, 6, (some .int), RX7)
abbrev mX7_in : MD := (yX7_in, cX7_in, 3, (some .boolean), RX7)
abbrev mX7_player : MD := (yX7_player, cX7_player, 4, (some .int), RX7)
abbrev mX7_rent : MD := (yX7_rent, cX7_rent, 4, (some .int), RX7)
abbrev mX7_spot : MD := (yX7_spot, cX7_spot, 4, (some .int), RX7)
abbrev mX7_keeps : MD := (yX7_keeps, cX7_keeps, 2, (some .boolean), RX7)
abbrev mX7_minutesOf : MD := (yX7_minutesOf, cX7_minutesOf, 5, (some .int), RX7)
abbrev mX7_distance : MD := (yX7_distance, cX7_distance, 2, (some .int), RX7)
abbrev mX7_lightOf : MD := (yX7_lightOf, cX7_lightOf, 4, (some .int), RX7)
abbrev mX7_has : MD := (yX7_has, cX7_has, 4, (some .boolean), RX7)
abbrev mX7_isOrdered : MD := (yX7_isOrdered, cX7_isOrdered, 3, (some .boolean), RX7)
abbrev mX7_placeIn : MD := (yX7_placeIn, cX7_placeIn, 4, (some .int), RX7)
abbrev mX7_ahead : MD := (yX7_ahead, cX7_ahead, 3, (some .int), RX7)
abbrev mX7_isScene : MD := (yX7_isScene, cX7_isScene, 2, (some .boolean), RX7)
abbrev mX7_mustBe : MD := (yX7_mustBe, cX7_mustBe, 6, (some .boolean), RX7)
abbrev mX7_day : MD := (yX7_day, cX7_day, 3, (some .int), RX7)
abbrev mX7_change : MD := (yX7_change, cX7_change, 6, (some .int), RX7)
abbrev mX7_isDay : MD := (yX7_isDay, cX7_isDay, 2, (some .boolean), RX7)
abbrev mX7_may : MD := (yX7_may, cX7_may, 4, (some .int), RX7)
abbrev mX7_keepAll : MD := (yX7_keepAll, cX7_keepAll, 2, none, RX7)
abbrev mX7_puts : MD := (yX7_puts, cX7_puts, 4, (some .boolean), RX7)
abbrev mX7_arranges : MD := (yX7_arranges, cX7_arranges, 4, (some .boolean), RX7)
abbrev mX7_tries : MD := (yX7_tries, cX7_tries, 6, none, RX7)
abbrev mX7_backAll : MD := (yX7_backAll, cX7_backAll, 2, none, RX7)
abbrev mX7_put : MD := (yX7_put, cX7_put, 5, (some .int), RX7)
abbrev mX7_take : MD := (yX7_take, cX7_take, 3, (some .int), RX7)
abbrev mX7_takes : MD := (yX7_takes, cX7_takes, 5, none, RX7)
abbrev mX7_tidy : MD := (yX7_tidy, cX7_tidy, 3, (some .int), RX7)
abbrev mX7_trade : MD := (yX7_trade, cX7_trade, 3, (some .int), RX7)
abbrev mX7_trades : MD := (yX7_trades, cX7_trades, 5, none, RX7)
abbrev mX7_costAll : MD := (yX7_costAll, cX7_costAll, 1, (some .int), RX7)
abbrev mX7_payAll : MD := (yX7_payAll, cX7_payAll, 3, (some .int), RX7)
abbrev mX7_paid : MD := (yX7_paid, cX7_paid, 6, (some .int), RX7)
abbrev mX7_edge : MD := (yX7_edge, cX7_edge, 5, (some .int), RX7)
abbrev mX7_plays : MD := (yX7_plays, cX7_plays, 4, (some .boolean), RX7)
abbrev mX7_rentAll : MD := (yX7_rentAll, cX7_rentAll, 4, (some .int), RX7)
abbrev mX7_uses : MD := (yX7_uses, cX7_uses, 4, (some .boolean), RX7)
abbrev mX7_overAll : MD := (yX7_overAll, cX7_overAll, 3, (some .int), RX7)
abbrev mX7_over : MD := (yX7_over, cX7_over, 2, (some .int), RX7)
abbrev mX7_cost : MD := (yX7_cost, cX7_cost, 2, (some .int), RX7)
abbrev mX7_below : MD := (yX7_below, cX7_below, 7, (some .int), RX7)
abbrev mX7_held : MD := (yX7_held, cX7_held, 3, (some .int), RX7)
abbrev mX7_daysOf : MD := (yX7_daysOf, cX7_daysOf, 4, (some .int), RX7)
abbrev mX7_better : MD := (yX7_better, cX7_better, 2, (some .int), RX7)
abbrev mX7_betters : MD := (yX7_betters, cX7_betters, 4, (some .boolean), RX7)
abbrev mX7_movesWell : MD := (yX7_movesWell, cX7_movesWell, 4, (some .boolean), RX7)
abbrev mX7_order : MD := (yX7_order, cX7_order, 2, (some .int), RX7)
abbrev mX7_gives : MD := (yX7_gives, cX7_gives, 4, none, RX7)
abbrev mX7_lays : MD := (yX7_lays, cX7_lays, 3, none, RX7)
abbrev mX7_rain : MD := (yX7_rain, cX7_rain, 5, (some .int), RX7)
abbrev mX7_about : MD := (yX7_about, cX7_about, 3, (some .int), RX7)
abbrev mX7_row : MD := (yX7_row, cX7_row, 3, (some .int), RX7)
abbrev mX7_of : MD := (yX7_of, cX7_of, 5, (some .int), RX7)
abbrev mX7_count : MD := (yX7_count, cX7_count, 5, (some .int), RX7)
set_option maxRecDepth 20000 in
theorem cl_0 : CLok 0 RX0 TX0 7 tyX0 := ⟨rfl, (List.forall_mem_cons.mpr ⟨in_lwg 250 rfl rfl, List.forall_mem_cons.mpr ⟨in_lwg 252 rfl rfl, List.forall_mem_cons.mpr ⟨in_lwg 254 rfl rfl, List.forall_mem_cons.mpr ⟨in_lwg 256 rfl rfl, List.forall_mem_cons.mpr ⟨in_lwg 258 rfl rfl, List.forall_mem_cons.mpr ⟨in_lwg 260 rfl rfl, List.forall_mem_cons.mpr ⟨in_lwg 262 rfl rfl, fun _ h => absurd h List.not_mem_nil⟩⟩⟩⟩⟩⟩⟩ : ∀ w ∈ [u_lay RX0 TX0 0, u_lay RX0 TX0 1, u_lay RX0 TX0 2, u_lay RX0 TX0 3, u_lay RX0 TX0 4, u_lay RX0 TX0 5, u_lay RX0 TX0 6], w ∈ lwg), tyX0_ok, nmX0⟩
set_option maxRecDepth 20000 in
theorem cl_1 : CLok 1 RX1 TX1 2 tyX1 := ⟨rfl, (List.forall_mem_cons.mpr ⟨in_lwg 225 rfl rfl, List.forall_mem_cons.mpr ⟨in_lwg 227 rfl rfl, fun _ h => absurd h List.not_mem_nil⟩⟩ : ∀ w ∈ [u_lay RX1 TX1 0, u_lay RX1 TX1 1], w ∈ lwg), tyX1_ok, nmX1⟩
set_option maxRecDepth 20000 in
theorem cl_2 : CLok 2 RX2 TX2 11 tyX2 := ⟨rfl, (List.forall_mem_cons.mpr ⟨in_lwg 109 rfl rfl, List.forall_mem_cons.mpr ⟨in_lwg 111 rfl rfl, List.forall_mem_cons.mpr ⟨in_lwg 113 rfl rfl, List.forall_mem_cons.mpr ⟨in_lwg 115 rfl rfl, List.forall_mem_cons.mpr ⟨in_lwg 117 rfl rfl, List.forall_mem_cons.mpr ⟨in_lwg 119 rfl rfl, List.forall_mem_cons.mpr ⟨in_lwg 121 rfl rfl, List.forall_mem_cons.mpr ⟨in_lwg 123 rfl rfl, List.forall_mem_cons.mpr ⟨in_lwg 125 rfl rfl, List.forall_mem_cons.mpr ⟨in_lwg 127 rfl rfl, List.forall_mem_cons.mpr ⟨in_lwg 129 rfl rfl, fun _ h => absurd h List.not_mem_nil⟩⟩⟩⟩⟩⟩⟩⟩⟩⟩⟩ : ∀ w ∈ [u_lay RX2 TX2 0, u_lay RX2 TX2 1, u_lay RX2 TX2 2, u_lay RX2 TX2 3, u_lay RX2 TX2 4, u_lay RX2 TX2 5, u_lay RX2 TX2 6, u_lay RX2 TX2 7, u_lay RX2 TX2 8, u_lay RX2 TX2 9, u_lay RX2 TX2 10], w ∈ lwg), tyX2_ok, nmX2⟩
set_option maxRecDepth 20000 in
theorem cl_3 : CLok 3 RX3 TX3 5 tyX3 := ⟨rfl, (List.forall_mem_cons.mpr ⟨in_lwg 206 rfl rfl, List.forall_mem_cons.mpr ⟨in_lwg 208 rfl rfl, List.forall_mem_cons.mpr ⟨in_lwg 210 rfl rfl, List.forall_mem_cons.mpr ⟨in_lwg 212 rfl rfl, List.forall_mem_cons.mpr ⟨in_lwg 214 rfl rfl, fun _ h => absurd h List.not_mem_nil⟩⟩⟩⟩⟩ : ∀ w ∈ [u_lay RX3 TX3 0, u_lay RX3 TX3 1, u_lay RX3 TX3 2, u_lay RX3 TX3 3, u_lay RX3 TX3 4], w ∈ lwg), tyX3_ok, nmX3⟩
set_option maxRecDepth 20000 in
theorem cl_4 : CLok 4 RX4 TX4 7 tyX4 := ⟨rfl, (List.forall_mem_cons.mpr ⟨in_lwg 272 rfl rfl, List.forall_mem_cons.mpr ⟨in_lwg 274 rfl rfl, List.forall_mem_cons.mpr ⟨in_lwg 276 rfl rfl, List.forall_mem_cons.mpr ⟨in_lwg 278 rfl rfl, List.forall_mem_cons.mpr ⟨in_lwg 280 rfl rfl, List.forall_mem_cons.mpr ⟨in_lwg 282 rfl rfl, List.forall_mem_cons.mpr ⟨in_lwg 284 rfl rfl, fun _ h => absurd h List.not_mem_nil⟩⟩⟩⟩⟩⟩⟩ : ∀ w ∈ [u_lay RX4 TX4 0, u_lay RX4 TX4 1, u_lay RX4 TX4 2, u_lay RX4 TX4 3, u_lay RX4 TX4 4, u_lay RX4 TX4 5, u_lay RX4 TX4 6], w ∈ lwg), tyX4_ok, nmX4⟩
set_option maxRecDepth 20000 in
theorem cl_5 : CLok 5 RX5 TX5 10 tyX5 := ⟨rfl, (List.forall_mem_cons.mpr ⟨in_lwg 172 rfl rfl, List.forall_mem_cons.mpr ⟨in_lwg 174 rfl rfl, List.forall_mem_cons.mpr ⟨in_lwg 176 rfl rfl, List.forall_mem_cons.mpr ⟨in_lwg 178 rfl rfl, List.forall_mem_cons.mpr ⟨in_lwg 180 rfl rfl, List.forall_mem_cons.mpr ⟨in_lwg 182 rfl rfl, List.forall_mem_cons.mpr ⟨in_lwg 184 rfl rfl, List.forall_mem_cons.mpr ⟨in_lwg 186 rfl rfl, List.forall_mem_cons.mpr ⟨in_lwg 188 rfl rfl, List.forall_mem_cons.mpr ⟨in_lwg 190 rfl rfl, fun _ h => absurd h List.not_mem_nil⟩⟩⟩⟩⟩⟩⟩⟩⟩⟩ : ∀ w ∈ [u_lay RX5 TX5 0, u_lay RX5 TX5 1, u_lay RX5 TX5 2, u_lay RX5 TX5 3, u_lay RX5 TX5 4, u_lay RX5 TX5 5, u_lay RX5 TX5 6, u_lay RX5 TX5 7, u_lay RX5 TX5 8, u_lay RX5 TX5 9], w ∈ lwg), tyX5_ok, nmX5⟩
set_option maxRecDepth 20000 in
theorem cl_6 : CLok 6 RX6 TX6 4 tyX6 := ⟨rfl, (List.forall_mem_cons.mpr ⟨in_lwg 291 rfl rfl, List.forall_mem_cons.mpr ⟨in_lwg 293 rfl rfl, List.forall_mem_cons.mpr ⟨in_lwg 295 rfl rfl, List.forall_mem_cons.mpr ⟨in_lwg 297 rfl rfl, fun _ h => absurd h List.not_mem_nil⟩⟩⟩⟩ : ∀ w ∈ [u_lay RX6 TX6 0, u_lay RX6 TX6 1, u_lay RX6 TX6 2, u_lay RX6 TX6 3], w ∈ lwg), tyX6_ok, nmX6⟩
set_option maxRecDepth 20000 in
theorem cl_7 : CLok 7 RX7 TX7 28 tyX7 := ⟨rfl, (List.forall_mem_cons.mpr ⟨in_lwg 707 rfl rfl, List.forall_mem_cons.mpr ⟨in_lwg 709 rfl rfl, List.forall_mem_cons.mpr ⟨in_lwg 711 rfl rfl, List.forall_mem_cons.mpr ⟨in_lwg 713 rfl rfl, List.forall_mem_cons.mpr ⟨in_lwg 715 rfl rfl, List.forall_mem_cons.mpr ⟨in_lwg 717 rfl rfl, List.forall_mem_cons.mpr ⟨in_lwg 719 rfl rfl, List.forall_mem_cons.mpr ⟨in_lwg 721 rfl rfl, List.forall_mem_cons.mpr ⟨in_lwg 723 rfl rfl, List.forall_mem_cons.mpr ⟨in_lwg 725 rfl rfl, List.forall_mem_cons.mpr ⟨in_lwg 727 rfl rfl, List.forall_mem_cons.mpr ⟨in_lwg 729 rfl rfl, List.forall_mem_cons.mpr ⟨in_lwg 731 rfl rfl, List.forall_mem_cons.mpr ⟨in_lwg 733 rfl rfl, List.forall_mem_cons.mpr ⟨in_lwg 735 rfl rfl, List.forall_mem_cons.mpr ⟨in_lwg 737 rfl rfl, List.forall_mem_cons.mpr ⟨in_lwg 739 rfl rfl, List.forall_mem_cons.mpr ⟨in_lwg 741 rfl rfl, List.forall_mem_cons.mpr ⟨in_lwg 743 rfl rfl, List.forall_mem_cons.mpr ⟨in_lwg 745 rfl rfl, List.forall_mem_cons.mpr ⟨in_lwg 747 rfl rfl, List.forall_mem_cons.mpr ⟨in_lwg 749 rfl rfl, List.forall_mem_cons.mpr ⟨in_lwg 751 rfl rfl, List.forall_mem_cons.mpr ⟨in_lwg 753 rfl rfl, List.forall_mem_cons.mpr ⟨in_lwg 755 rfl rfl, List.forall_mem_cons.mpr ⟨in_lwg 757 rfl rfl, List.forall_mem_cons.mpr ⟨in_lwg 759 rfl rfl, List.forall_mem_cons.mpr ⟨in_lwg 761 rfl rfl, fun _ h => absurd h List.not_mem_nil⟩⟩⟩⟩⟩⟩⟩⟩⟩⟩⟩⟩⟩⟩⟩⟩⟩⟩⟩⟩⟩⟩⟩⟩⟩⟩⟩⟩ : ∀ w ∈ [u_lay RX7 TX7 0, u_lay RX7 TX7 1, u_lay RX7 TX7 2, u_lay RX7 TX7 3, u_lay RX7 TX7 4, u_lay RX7 TX7 5, u_lay RX7 TX7 6, u_lay RX7 TX7 7, u_lay RX7 TX7 8, u_lay RX7 TX7 9, u_lay RX7 TX7 10, u_lay RX7 TX7 11, u_lay RX7 TX7 12, u_lay RX7 TX7 13, u_lay RX7 TX7 14, u_lay RX7 TX7 15, u_lay RX7 TX7 16, u_lay RX7 TX7 17, u_lay RX7 TX7 18, u_lay RX7 TX7 19, u_lay RX7 TX7 20, u_lay RX7 TX7 21, u_lay RX7 TX7 22, u_lay RX7 TX7 23, u_lay RX7 TX7 24, u_lay RX7 TX7 25, u_lay RX7 TX7 26, u_lay RX7 TX7 27], w ∈ lwg), tyX7_ok, nmX7⟩
set_option maxRecDepth 20000 in
theorem cw_X6_init : CWok mX6_init 0 := ⟨in_lwg 62 rfl rfl, in_lwg 47 rfl rfl, ⟨by decide, by decide, by decide +kernel⟩, by decide⟩
set_option maxRecDepth 20000 in
theorem cw_X2_init : CWok mX2_init 0 := ⟨in_lwg 70 rfl rfl, in_lwg 48 rfl rfl, ⟨by decide, by decide, by decide +kernel⟩, by decide⟩
set_option maxRecDepth 20000 in
theorem cw_X3_init : CWok mX3_init 1 := ⟨in_lwg 137 rfl rfl, in_lwg 49 rfl rfl, ⟨by decide, by decide, by decide +kernel⟩, by decide⟩
set_option maxRecDepth 20000 in
theorem cw_X5_init : CWok mX5_init 0 := ⟨in_lwg 144 rfl rfl, in_lwg 50 rfl rfl, ⟨by decide, by decide, by decide +kernel⟩, by decide⟩
set_option maxRecDepth 20000 in
theorem cw_X1_init : CWok mX1_init 2 := ⟨in_lwg 221 rfl rfl, in_lwg 51 rfl rfl, ⟨by decide, by decide, by decide +kernel⟩, by decide⟩
set_option maxRecDepth 20000 in
theorem cw_X4_init : CWok mX4_init 3 := ⟨in_lwg 234 rfl rfl, in_lwg 52 rfl rfl, ⟨by decide, by decide, by decide +kernel⟩, by decide⟩
set_option maxRecDepth 20000 in
theorem cw_X0_init : CWok mX0_init 1 := ⟨in_lwg 241 rfl rfl, in_lwg 53 rfl rfl, ⟨by decide, by decide, by decide +kernel⟩, by decide⟩
set_option maxRecDepth 20000 in
theorem cw_X6_scene : CWok mX6_scene 5 := ⟨in_lwg 303 rfl rfl, in_lwg 47 rfl rfl, ⟨by decide, by decide, by decide +kernel⟩, by decide⟩
set_option maxRecDepth 20000 in
theorem cw_X6_within : CWok mX6_within 3 := ⟨in_lwg 306 rfl rfl, in_lwg 47 rfl rfl, ⟨by decide, by decide, by decide +kernel⟩, by decide⟩
set_option maxRecDepth 20000 in
theorem cw_X6_isPlace : CWok mX6_isPlace 1 := ⟨in_lwg 309 rfl rfl, in_lwg 47 rfl rfl, ⟨by decide, by decide, by decide +kernel⟩, by decide⟩
set_option maxRecDepth 20000 in
theorem cw_X2_addScene : CWok mX2_addScene 5 := ⟨in_lwg 313 rfl rfl, in_lwg 48 rfl rfl, ⟨by decide, by decide, by decide +kernel⟩, by decide⟩
set_option maxRecDepth 20000 in
theorem cw_X6_player : CWok mX6_player 3 := ⟨in_lwg 317 rfl rfl, in_lwg 47 rfl rfl, ⟨by decide, by decide, by decide +kernel⟩, by decide⟩
set_option maxRecDepth 20000 in
theorem cw_X6_isPlayer : CWok mX6_isPlayer 1 := ⟨in_lwg 320 rfl rfl, in_lwg 47 rfl rfl, ⟨by decide, by decide, by decide +kernel⟩, by decide⟩
set_option maxRecDepth 20000 in
theorem cw_X6_rent : CWok mX6_rent 2 := ⟨in_lwg 324 rfl rfl, in_lwg 47 rfl rfl, ⟨by decide, by decide, by decide +kernel⟩, by decide⟩
set_option maxRecDepth 20000 in
theorem cw_X6_spot : CWok mX6_spot 2 := ⟨in_lwg 328 rfl rfl, in_lwg 47 rfl rfl, ⟨by decide, by decide, by decide +kernel⟩, by decide⟩
set_option maxRecDepth 20000 in
theorem cw_X3_measureRows : CWok mX3_measureRows 0 := ⟨in_lwg 332 rfl rfl, in_lwg 49 rfl rfl, ⟨by decide, by decide, by decide +kernel⟩, by decide⟩
set_option maxRecDepth 20000 in
theorem cw_X5_measure : CWok mX5_measure 1 := ⟨in_lwg 336 rfl rfl, in_lwg 50 rfl rfl, ⟨by decide, by decide, by decide +kernel⟩, by decide⟩
set_option maxRecDepth 20000 in
theorem cw_X5_forget : CWok mX5_forget 0 := ⟨in_lwg 340 rfl rfl, in_lwg 50 rfl rfl, ⟨by decide, by decide, by decide +kernel⟩, by decide⟩
set_option maxRecDepth 20000 in
theorem cw_X5_measureScene : CWok mX5_measureScene 2 := ⟨in_lwg 344 rfl rfl, in_lwg 50 rfl rfl, ⟨by decide, by decide, by decide +kernel⟩, by decide⟩
set_option maxRecDepth 20000 in
theorem cw_X2_way : CWok mX2_way 2 := ⟨in_lwg 348 rfl rfl, in_lwg 48 rfl rfl, ⟨by decide, by decide, by decide +kernel⟩, by decide⟩
set_option maxRecDepth 20000 in
theorem cw_X5_isInTurn : CWok mX5_isInTurn 1 := ⟨in_lwg 352 rfl rfl, in_lwg 50 rfl rfl, ⟨by decide, by decide, by decide +kernel⟩, by decide⟩
set_option maxRecDepth 20000 in
theorem cw_X3_keeps : CWok mX3_keeps 0 := ⟨in_lwg 356 rfl rfl, in_lwg 49 rfl rfl, ⟨by decide, by decide, by decide +kernel⟩, by decide⟩
set_option maxRecDepth 20000 in
theorem cw_X5_fitsInto : CWok mX5_fitsInto 2 := ⟨in_lwg 360 rfl rfl, in_lwg 50 rfl rfl, ⟨by decide, by decide, by decide +kernel⟩, by decide⟩
set_option maxRecDepth 20000 in
theorem cw_X5_hasDayLight : CWok mX5_hasDayLight 0 := ⟨in_lwg 364 rfl rfl, in_lwg 50 rfl rfl, ⟨by decide, by decide, by decide +kernel⟩, by decide⟩
set_option maxRecDepth 20000 in
theorem cw_X6_ahead : CWok mX6_ahead 2 := ⟨in_lwg 368 rfl rfl, in_lwg 47 rfl rfl, ⟨by decide, by decide, by decide +kernel⟩, by decide⟩
set_option maxRecDepth 20000 in
theorem cw_X2_hasScene : CWok mX2_hasScene 1 := ⟨in_lwg 372 rfl rfl, in_lwg 48 rfl rfl, ⟨by decide, by decide, by decide +kernel⟩, by decide⟩
set_option maxRecDepth 20000 in
theorem cw_X2_needsByOthersToo : CWok mX2_needsByOthersToo 1 := ⟨in_lwg 376 rfl rfl, in_lwg 48 rfl rfl, ⟨by decide, by decide, by decide +kernel⟩, by decide⟩
set_option maxRecDepth 20000 in
theorem cw_X2_needsOfAll : CWok mX2_needsOfAll 1 := ⟨in_lwg 380 rfl rfl, in_lwg 48 rfl rfl, ⟨by decide, by decide, by decide +kernel⟩, by decide⟩
set_option maxRecDepth 20000 in
theorem cw_X6_hasBit : CWok mX6_hasBit 2 := ⟨in_lwg 383 rfl rfl, in_lwg 47 rfl rfl, ⟨by decide, by decide, by decide +kernel⟩, by decide⟩
set_option maxRecDepth 20000 in
theorem cw_X6_day : CWok mX6_day 2 := ⟨in_lwg 388 rfl rfl, in_lwg 47 rfl rfl, ⟨by decide, by decide, by decide +kernel⟩, by decide⟩
set_option maxRecDepth 20000 in
theorem cw_X6_isDayLength : CWok mX6_isDayLength 2 := ⟨in_lwg 391 rfl rfl, in_lwg 47 rfl rfl, ⟨by decide, by decide, by decide +kernel⟩, by decide⟩
set_option maxRecDepth 20000 in
theorem cw_X3_addDay : CWok mX3_addDay 2 := ⟨in_lwg 395 rfl rfl, in_lwg 49 rfl rfl, ⟨by decide, by decide, by decide +kernel⟩, by decide⟩
set_option maxRecDepth 20000 in
theorem cw_X6_about : CWok mX6_about 2 := ⟨in_lwg 399 rfl rfl, in_lwg 47 rfl rfl, ⟨by decide, by decide, by decide +kernel⟩, by decide⟩
set_option maxRecDepth 20000 in
theorem cw_X3_dayWith : CWok mX3_dayWith 1 := ⟨in_lwg 403 rfl rfl, in_lwg 49 rfl rfl, ⟨by decide, by decide, by decide +kernel⟩, by decide⟩
set_option maxRecDepth 20000 in
theorem cw_X3_placeInRow : CWok mX3_placeInRow 1 := ⟨in_lwg 408 rfl rfl, in_lwg 49 rfl rfl, ⟨by decide, by decide, by decide +kernel⟩, by decide⟩
set_option maxRecDepth 20000 in
theorem cw_X6_row : CWok mX6_row 2 := ⟨in_lwg 413 rfl rfl, in_lwg 47 rfl rfl, ⟨by decide, by decide, by decide +kernel⟩, by decide⟩
set_option maxRecDepth 20000 in
theorem cw_X3_hasDay : CWok mX3_hasDay 1 := ⟨in_lwg 417 rfl rfl, in_lwg 49 rfl rfl, ⟨by decide, by decide, by decide +kernel⟩, by decide⟩
set_option maxRecDepth 20000 in
theorem cw_X5_sceneAt : CWok mX5_sceneAt 1 := ⟨in_lwg 421 rfl rfl, in_lwg 50 rfl rfl, ⟨by decide, by decide, by decide +kernel⟩, by decide⟩
set_option maxRecDepth 20000 in
theorem cw_X6_of : CWok mX6_of 2 := ⟨in_lwg 425 rfl rfl, in_lwg 47 rfl rfl, ⟨by decide, by decide, by decide +kernel⟩, by decide⟩
set_option maxRecDepth 20000 in
theorem cw_X5_halfHoursOver : CWok mX5_halfHoursOver 0 := ⟨in_lwg 429 rfl rfl, in_lwg 50 rfl rfl, ⟨by decide, by decide, by decide +kernel⟩, by decide⟩
set_option maxRecDepth 20000 in
theorem cw_X6_held : CWok mX6_held 2 := ⟨in_lwg 433 rfl rfl, in_lwg 47 rfl rfl, ⟨by decide, by decide, by decide +kernel⟩, by decide⟩
set_option maxRecDepth 20000 in
theorem cw_X3_firstDayOf : CWok mX3_firstDayOf 1 := ⟨in_lwg 437 rfl rfl, in_lwg 49 rfl rfl, ⟨by decide, by decide, by decide +kernel⟩, by decide⟩
set_option maxRecDepth 20000 in
theorem cw_X3_plays : CWok mX3_plays 2 := ⟨in_lwg 441 rfl rfl, in_lwg 49 rfl rfl, ⟨by decide, by decide, by decide +kernel⟩, by decide⟩
set_option maxRecDepth 20000 in
theorem cw_X3_lastDayOf : CWok mX3_lastDayOf 1 := ⟨in_lwg 445 rfl rfl, in_lwg 49 rfl rfl, ⟨by decide, by decide, by decide +kernel⟩, by decide⟩
set_option maxRecDepth 20000 in
theorem cw_X3_daysWith : CWok mX3_daysWith 1 := ⟨in_lwg 449 rfl rfl, in_lwg 49 rfl rfl, ⟨by decide, by decide, by decide +kernel⟩, by decide⟩
set_option maxRecDepth 20000 in
theorem cw_X1_paidDays : CWok mX1_paidDays 1 := ⟨in_lwg 453 rfl rfl, in_lwg 51 rfl rfl, ⟨by decide, by decide, by decide +kernel⟩, by decide⟩
set_option maxRecDepth 20000 in
theorem cw_X1_isLetGo : CWok mX1_isLetGo 2 := ⟨in_lwg 458 rfl rfl, in_lwg 51 rfl rfl, ⟨by decide, by decide, by decide +kernel⟩, by decide⟩
set_option maxRecDepth 20000 in
theorem cw_X6_cost : CWok mX6_cost 1 := ⟨in_lwg 462 rfl rfl, in_lwg 47 rfl rfl, ⟨by decide, by decide, by decide +kernel⟩, by decide⟩
set_option maxRecDepth 20000 in
theorem cw_X1_total : CWok mX1_total 0 := ⟨in_lwg 466 rfl rfl, in_lwg 51 rfl rfl, ⟨by decide, by decide, by decide +kernel⟩, by decide⟩
set_option maxRecDepth 20000 in
theorem cw_X1_wages : CWok mX1_wages 0 := ⟨in_lwg 470 rfl rfl, in_lwg 51 rfl rfl, ⟨by decide, by decide, by decide +kernel⟩, by decide⟩
set_option maxRecDepth 20000 in
theorem cw_X1_rents : CWok mX1_rents 0 := ⟨in_lwg 475 rfl rfl, in_lwg 51 rfl rfl, ⟨by decide, by decide, by decide +kernel⟩, by decide⟩
set_option maxRecDepth 20000 in
theorem cw_X1_rentOf : CWok mX1_rentOf 1 := ⟨in_lwg 479 rfl rfl, in_lwg 51 rfl rfl, ⟨by decide, by decide, by decide +kernel⟩, by decide⟩
set_option maxRecDepth 20000 in
theorem cw_X1_overtime : CWok mX1_overtime 0 := ⟨in_lwg 484 rfl rfl, in_lwg 51 rfl rfl, ⟨by decide, by decide, by decide +kernel⟩, by decide⟩
set_option maxRecDepth 20000 in
theorem cw_X6_below : CWok mX6_below 0 := ⟨in_lwg 492 rfl rfl, in_lwg 47 rfl rfl, ⟨by decide, by decide, by decide +kernel⟩, by decide⟩
set_option maxRecDepth 20000 in
theorem cw_X1_leastPossible : CWok mX1_leastPossible 0 := ⟨in_lwg 496 rfl rfl, in_lwg 51 rfl rfl, ⟨by decide, by decide, by decide +kernel⟩, by decide⟩
set_option maxRecDepth 20000 in
theorem cw_X3_greatestMost : CWok mX3_greatestMost 0 := ⟨in_lwg 500 rfl rfl, in_lwg 49 rfl rfl, ⟨by decide, by decide, by decide +kernel⟩, by decide⟩
set_option maxRecDepth 20000 in
theorem cw_J_max : CWok mJ_max 2 := ⟨in_lwg 503 rfl rfl, in_lwg 55 rfl rfl, ⟨by decide, by decide, by decide +kernel⟩, by decide⟩
set_option maxRecDepth 20000 in
theorem cw_X1_minutesInRows : CWok mX1_minutesInRows 1 := ⟨in_lwg 507 rfl rfl, in_lwg 51 rfl rfl, ⟨by decide, by decide, by decide +kernel⟩, by decide⟩
set_option maxRecDepth 20000 in
theorem cw_X3_scenesInRows : CWok mX3_scenesInRows 0 := ⟨in_lwg 511 rfl rfl, in_lwg 49 rfl rfl, ⟨by decide, by decide, by decide +kernel⟩, by decide⟩
set_option maxRecDepth 20000 in
theorem cw_X1_placesInRows : CWok mX1_placesInRows 0 := ⟨in_lwg 515 rfl rfl, in_lwg 51 rfl rfl, ⟨by decide, by decide, by decide +kernel⟩, by decide⟩
set_option maxRecDepth 20000 in
theorem cw_X6_may : CWok mX6_may 2 := ⟨in_lwg 519 rfl rfl, in_lwg 47 rfl rfl, ⟨by decide, by decide, by decide +kernel⟩, by decide⟩
set_option maxRecDepth 20000 in
theorem cw_X6_refusalToJoin : CWok mX6_refusalToJoin 2 := ⟨in_lwg 523 rfl rfl, in_lwg 47 rfl rfl, ⟨by decide, by decide, by decide +kernel⟩, by decide⟩
set_option maxRecDepth 20000 in
theorem cw_X4_couldJoin : CWok mX4_couldJoin 2 := ⟨in_lwg 527 rfl rfl, in_lwg 52 rfl rfl, ⟨by decide, by decide, by decide +kernel⟩, by decide⟩
set_option maxRecDepth 20000 in
theorem cw_X4_join : CWok mX4_join 2 := ⟨in_lwg 531 rfl rfl, in_lwg 52 rfl rfl, ⟨by decide, by decide, by decide +kernel⟩, by decide⟩
set_option maxRecDepth 20000 in
theorem cw_X5_isFull : CWok mX5_isFull 0 := ⟨in_lwg 535 rfl rfl, in_lwg 50 rfl rfl, ⟨by decide, by decide, by decide +kernel⟩, by decide⟩
set_option maxRecDepth 20000 in
theorem cw_X0_arrange : CWok mX0_arrange 2 := ⟨in_lwg 539 rfl rfl, in_lwg 53 rfl rfl, ⟨by decide, by decide, by decide +kernel⟩, by decide⟩
set_option maxRecDepth 20000 in
theorem cw_X0_fillPool : CWok mX0_fillPool 1 := ⟨in_lwg 543 rfl rfl, in_lwg 53 rfl rfl, ⟨by decide, by decide, by decide +kernel⟩, by decide⟩
set_option maxRecDepth 20000 in
theorem cw_X0_tryEach : CWok mX0_tryEach 3 := ⟨in_lwg 549 rfl rfl, in_lwg 53 rfl rfl, ⟨by decide, by decide, by decide +kernel⟩, by decide⟩
set_option maxRecDepth 20000 in
theorem cw_X0_tryNext : CWok mX0_tryNext 4 := ⟨in_lwg 556 rfl rfl, in_lwg 53 rfl rfl, ⟨by decide, by decide, by decide +kernel⟩, by decide⟩
set_option maxRecDepth 20000 in
theorem cw_X5_clear : CWok mX5_clear 0 := ⟨in_lwg 561 rfl rfl, in_lwg 50 rfl rfl, ⟨by decide, by decide, by decide +kernel⟩, by decide⟩
set_option maxRecDepth 20000 in
theorem cw_X5_append : CWok mX5_append 1 := ⟨in_lwg 565 rfl rfl, in_lwg 50 rfl rfl, ⟨by decide, by decide, by decide +kernel⟩, by decide⟩
set_option maxRecDepth 20000 in
theorem cw_X3_exchange : CWok mX3_exchange 2 := ⟨in_lwg 570 rfl rfl, in_lwg 49 rfl rfl, ⟨by decide, by decide, by decide +kernel⟩, by decide⟩
set_option maxRecDepth 20000 in
theorem cw_X6_put : CWok mX6_put 2 := ⟨in_lwg 575 rfl rfl, in_lwg 47 rfl rfl, ⟨by decide, by decide, by decide +kernel⟩, by decide⟩
set_option maxRecDepth 20000 in
theorem cw_X6_take : CWok mX6_take 1 := ⟨in_lwg 580 rfl rfl, in_lwg 47 rfl rfl, ⟨by decide, by decide, by decide +kernel⟩, by decide⟩
set_option maxRecDepth 20000 in
theorem cw_X4_leave : CWok mX4_leave 2 := ⟨in_lwg 584 rfl rfl, in_lwg 52 rfl rfl, ⟨by decide, by decide, by decide +kernel⟩, by decide⟩
set_option maxRecDepth 20000 in
theorem cw_X6_tidy : CWok mX6_tidy 1 := ⟨in_lwg 591 rfl rfl, in_lwg 47 rfl rfl, ⟨by decide, by decide, by decide +kernel⟩, by decide⟩
set_option maxRecDepth 20000 in
theorem cw_X4_arrangeDay : CWok mX4_arrangeDay 1 := ⟨in_lwg 595 rfl rfl, in_lwg 52 rfl rfl, ⟨by decide, by decide, by decide +kernel⟩, by decide⟩
set_option maxRecDepth 20000 in
theorem cw_X6_trade : CWok mX6_trade 2 := ⟨in_lwg 599 rfl rfl, in_lwg 47 rfl rfl, ⟨by decide, by decide, by decide +kernel⟩, by decide⟩
set_option maxRecDepth 20000 in
theorem cw_X6_better : CWok mX6_better 0 := ⟨in_lwg 604 rfl rfl, in_lwg 47 rfl rfl, ⟨by decide, by decide, by decide +kernel⟩, by decide⟩
set_option maxRecDepth 20000 in
theorem cw_X4_makeFirstGoodMove : CWok mX4_makeFirstGoodMove 0 := ⟨in_lwg 608 rfl rfl, in_lwg 52 rfl rfl, ⟨by decide, by decide, by decide +kernel⟩, by decide⟩
set_option maxRecDepth 20000 in
theorem cw_X4_moveIfGood : CWok mX4_moveIfGood 4 := ⟨in_lwg 614 rfl rfl, in_lwg 52 rfl rfl, ⟨by decide, by decide, by decide +kernel⟩, by decide⟩
set_option maxRecDepth 20000 in
theorem cw_X4_makeFirstGoodTrade : CWok mX4_makeFirstGoodTrade 0 := ⟨in_lwg 619 rfl rfl, in_lwg 52 rfl rfl, ⟨by decide, by decide, by decide +kernel⟩, by decide⟩
set_option maxRecDepth 20000 in
theorem cw_X6_order : CWok mX6_order 0 := ⟨in_lwg 623 rfl rfl, in_lwg 47 rfl rfl, ⟨by decide, by decide, by decide +kernel⟩, by decide⟩
set_option maxRecDepth 20000 in
theorem cw_X4_takeBestOrder : CWok mX4_takeBestOrder 0 := ⟨in_lwg 627 rfl rfl, in_lwg 52 rfl rfl, ⟨by decide, by decide, by decide +kernel⟩, by decide⟩
set_option maxRecDepth 20000 in
theorem cw_X4_toNextTurns : CWok mX4_toNextTurns 1 := ⟨in_lwg 631 rfl rfl, in_lwg 52 rfl rfl, ⟨by decide, by decide, by decide +kernel⟩, by decide⟩
set_option maxRecDepth 20000 in
theorem cw_X4_swapTurns : CWok mX4_swapTurns 2 := ⟨in_lwg 635 rfl rfl, in_lwg 52 rfl rfl, ⟨by decide, by decide, by decide +kernel⟩, by decide⟩
set_option maxRecDepth 20000 in
theorem cw_X4_giveRows : CWok mX4_giveRows 1 := ⟨in_lwg 639 rfl rfl, in_lwg 52 rfl rfl, ⟨by decide, by decide, by decide +kernel⟩, by decide⟩
set_option maxRecDepth 20000 in
theorem cw_X6_rain : CWok mX6_rain 1 := ⟨in_lwg 644 rfl rfl, in_lwg 47 rfl rfl, ⟨by decide, by decide, by decide +kernel⟩, by decide⟩
set_option maxRecDepth 20000 in
theorem cw_X4_clearOutScenes : CWok mX4_clearOutScenes 1 := ⟨in_lwg 648 rfl rfl, in_lwg 52 rfl rfl, ⟨by decide, by decide, by decide +kernel⟩, by decide⟩
set_option maxRecDepth 20000 in
theorem cw_X4_fillWithIndoorScenes : CWok mX4_fillWithIndoorScenes 1 := ⟨in_lwg 653 rfl rfl, in_lwg 52 rfl rfl, ⟨by decide, by decide, by decide +kernel⟩, by decide⟩
set_option maxRecDepth 20000 in
theorem cw_X6_change : CWok mX6_change 3 := ⟨in_lwg 657 rfl rfl, in_lwg 47 rfl rfl, ⟨by decide, by decide, by decide +kernel⟩, by decide⟩
set_option maxRecDepth 20000 in
theorem cw_X6_count : CWok mX6_count 1 := ⟨in_lwg 662 rfl rfl, in_lwg 47 rfl rfl, ⟨by decide, by decide, by decide +kernel⟩, by decide⟩
set_option maxRecDepth 20000 in
theorem cw_J_bitCount : CWok mJ_bitCount 1 := ⟨in_lwg 666 rfl rfl, in_lwg 57 rfl rfl, ⟨by decide, by decide, by decide +kernel⟩, by decide⟩
set_option maxRecDepth 20000 in
theorem cw_X2_scenesAheadOfSome : CWok mX2_scenesAheadOfSome 0 := ⟨in_lwg 673 rfl rfl, in_lwg 48 rfl rfl, ⟨by decide, by decide, by decide +kernel⟩, by decide⟩
set_option maxRecDepth 20000 in
theorem cw_X7_init : CWok mX7_init 0 := ⟨in_lwg 678 rfl rfl, in_lwg 54 rfl rfl, ⟨by decide, by decide, by decide +kernel⟩, by decide⟩
set_option maxRecDepth 20000 in
theorem cw_X7_scene : CWok mX7_scene 5 := ⟨in_lwg 768 rfl rfl, in_lwg 54 rfl rfl, ⟨by decide, by decide, by decide +kernel⟩, by decide⟩
set_option maxRecDepth 20000 in
theorem cw_X7_in : CWok mX7_in 3 := ⟨in_lwg 771 rfl rfl, in_lwg 54 rfl rfl, ⟨by decide, by decide, by decide +kernel⟩, by decide⟩
set_option maxRecDepth 20000 in
theorem cw_X7_player : CWok mX7_player 3 := ⟨in_lwg 775 rfl rfl, in_lwg 54 rfl rfl, ⟨by decide, by decide, by decide +kernel⟩, by decide⟩
set_option maxRecDepth 20000 in
theorem cw_X7_rent : CWok mX7_rent 2 := ⟨in_lwg 779 rfl rfl, in_lwg 54 rfl rfl, ⟨by decide, by decide, by decide +kernel⟩, by decide⟩
set_option maxRecDepth 20000 in
theorem cw_X7_spot : CWok mX7_spot 2 := ⟨in_lwg 783 rfl rfl, in_lwg 54 rfl rfl, ⟨by decide, by decide, by decide +kernel⟩, by decide⟩
set_option maxRecDepth 20000 in
theorem cw_X7_keeps : CWok mX7_keeps 0 := ⟨in_lwg 787 rfl rfl, in_lwg 54 rfl rfl, ⟨by decide, by decide, by decide +kernel⟩, by decide⟩
set_option maxRecDepth 20000 in
theorem cw_X7_minutesOf : CWok mX7_minutesOf 1 := ⟨in_lwg 791 rfl rfl, in_lwg 54 rfl rfl, ⟨by decide, by decide, by decide +kernel⟩, by decide⟩
set_option maxRecDepth 20000 in
theorem cw_X7_distance : CWok mX7_distance 2 := ⟨in_lwg 794 rfl rfl, in_lwg 54 rfl rfl, ⟨by decide, by decide, by decide +kernel⟩, by decide⟩
set_option maxRecDepth 20000 in
theorem cw_X7_lightOf : CWok mX7_lightOf 1 := ⟨in_lwg 798 rfl rfl, in_lwg 54 rfl rfl, ⟨by decide, by decide, by decide +kernel⟩, by decide⟩
set_option maxRecDepth 20000 in
theorem cw_X7_has : CWok mX7_has 2 := ⟨in_lwg 802 rfl rfl, in_lwg 54 rfl rfl, ⟨by decide, by decide, by decide +kernel⟩, by decide⟩
set_option maxRecDepth 20000 in
theorem cw_X7_isOrdered : CWok mX7_isOrdered 1 := ⟨in_lwg 806 rfl rfl, in_lwg 54 rfl rfl, ⟨by decide, by decide, by decide +kernel⟩, by decide⟩
set_option maxRecDepth 20000 in
theorem cw_X7_placeIn : CWok mX7_placeIn 1 := ⟨in_lwg 810 rfl rfl, in_lwg 54 rfl rfl, ⟨by decide, by decide, by decide +kernel⟩, by decide⟩
set_option maxRecDepth 20000 in
theorem cw_X7_ahead : CWok mX7_ahead 2 := ⟨in_lwg 814 rfl rfl, in_lwg 54 rfl rfl, ⟨by decide, by decide, by decide +kernel⟩, by decide⟩
set_option maxRecDepth 20000 in
theorem cw_X7_isScene : CWok mX7_isScene 1 := ⟨in_lwg 818 rfl rfl, in_lwg 54 rfl rfl, ⟨by decide, by decide, by decide +kernel⟩, by decide⟩
set_option maxRecDepth 20000 in
theorem cw_X7_mustBe : CWok mX7_mustBe 2 := ⟨in_lwg 822 rfl rfl, in_lwg 54 rfl rfl, ⟨by decide, by decide, by decide +kernel⟩, by decide⟩
set_option maxRecDepth 20000 in
theorem cw_X7_day : CWok mX7_day 2 := ⟨in_lwg 826 rfl rfl, in_lwg 54 rfl rfl, ⟨by decide, by decide, by decide +kernel⟩, by decide⟩
set_option maxRecDepth 20000 in
theorem cw_X7_change : CWok mX7_change 3 := ⟨in_lwg 830 rfl rfl, in_lwg 54 rfl rfl, ⟨by decide, by decide, by decide +kernel⟩, by decide⟩
set_option maxRecDepth 20000 in
theorem cw_X7_isDay : CWok mX7_isDay 1 := ⟨in_lwg 834 rfl rfl, in_lwg 54 rfl rfl, ⟨by decide, by decide, by decide +kernel⟩, by decide⟩
set_option maxRecDepth 20000 in
theorem cw_X7_may : CWok mX7_may 2 := ⟨in_lwg 838 rfl rfl, in_lwg 54 rfl rfl, ⟨by decide, by decide, by decide +kernel⟩, by decide⟩
set_option maxRecDepth 20000 in
theorem cw_X7_keepAll : CWok mX7_keepAll 0 := ⟨in_lwg 842 rfl rfl, in_lwg 54 rfl rfl, ⟨by decide, by decide, by decide +kernel⟩, by decide⟩
set_option maxRecDepth 20000 in
theorem cw_X7_puts : CWok mX7_puts 2 := ⟨in_lwg 846 rfl rfl, in_lwg 54 rfl rfl, ⟨by decide, by decide, by decide +kernel⟩, by decide⟩
set_option maxRecDepth 20000 in
theorem cw_X7_arranges : CWok mX7_arranges 1 := ⟨in_lwg 850 rfl rfl, in_lwg 54 rfl rfl, ⟨by decide, by decide, by decide +kernel⟩, by decide⟩
set_option maxRecDepth 20000 in
theorem cw_X7_tries : CWok mX7_tries 3 := ⟨in_lwg 855 rfl rfl, in_lwg 54 rfl rfl, ⟨by decide, by decide, by decide +kernel⟩, by decide⟩
set_option maxRecDepth 20000 in
theorem cw_X7_backAll : CWok mX7_backAll 0 := ⟨in_lwg 859 rfl rfl, in_lwg 54 rfl rfl, ⟨by decide, by decide, by decide +kernel⟩, by decide⟩
set_option maxRecDepth 20000 in
theorem cw_X7_put : CWok mX7_put 2 := ⟨in_lwg 863 rfl rfl, in_lwg 54 rfl rfl, ⟨by decide, by decide, by decide +kernel⟩, by decide⟩
set_option maxRecDepth 20000 in
theorem cw_X7_take : CWok mX7_take 1 := ⟨in_lwg 868 rfl rfl, in_lwg 54 rfl rfl, ⟨by decide, by decide, by decide +kernel⟩, by decide⟩
set_option maxRecDepth 20000 in
theorem cw_X7_takes : CWok mX7_takes 1 := ⟨in_lwg 872 rfl rfl, in_lwg 54 rfl rfl, ⟨by decide, by decide, by decide +kernel⟩, by decide⟩
set_option maxRecDepth 20000 in
theorem cw_X7_tidy : CWok mX7_tidy 1 := ⟨in_lwg 876 rfl rfl, in_lwg 54 rfl rfl, ⟨by decide, by decide, by decide +kernel⟩, by decide⟩
set_option maxRecDepth 20000 in
theorem cw_X7_trade : CWok mX7_trade 2 := ⟨in_lwg 880 rfl rfl, in_lwg 54 rfl rfl, ⟨by decide, by decide, by decide +kernel⟩, by decide⟩
set_option maxRecDepth 20000 in
theorem cw_X7_trades : CWok mX7_trades 2 := ⟨in_lwg 884 rfl rfl, in_lwg 54 rfl rfl, ⟨by decide, by decide, by decide +kernel⟩, by decide⟩
set_option maxRecDepth 20000 in
theorem cw_X7_costAll : CWok mX7_costAll 0 := ⟨in_lwg 888 rfl rfl, in_lwg 54 rfl rfl, ⟨by decide, by decide, by decide +kernel⟩, by decide⟩
set_option maxRecDepth 20000 in
theorem cw_X7_payAll : CWok mX7_payAll 0 := ⟨in_lwg 892 rfl rfl, in_lwg 54 rfl rfl, ⟨by decide, by decide, by decide +kernel⟩, by decide⟩
set_option maxRecDepth 20000 in
theorem cw_X7_paid : CWok mX7_paid 1 := ⟨in_lwg 896 rfl rfl, in_lwg 54 rfl rfl, ⟨by decide, by decide, by decide +kernel⟩, by decide⟩
set_option maxRecDepth 20000 in
theorem cw_X7_edge : CWok mX7_edge 2 := ⟨in_lwg 900 rfl rfl, in_lwg 54 rfl rfl, ⟨by decide, by decide, by decide +kernel⟩, by decide⟩
set_option maxRecDepth 20000 in
theorem cw_X7_plays : CWok mX7_plays 2 := ⟨in_lwg 904 rfl rfl, in_lwg 54 rfl rfl, ⟨by decide, by decide, by decide +kernel⟩, by decide⟩
set_option maxRecDepth 20000 in
theorem cw_X7_rentAll : CWok mX7_rentAll 0 := ⟨in_lwg 908 rfl rfl, in_lwg 54 rfl rfl, ⟨by decide, by decide, by decide +kernel⟩, by decide⟩
set_option maxRecDepth 20000 in
theorem cw_X7_uses : CWok mX7_uses 2 := ⟨in_lwg 912 rfl rfl, in_lwg 54 rfl rfl, ⟨by decide, by decide, by decide +kernel⟩, by decide⟩
set_option maxRecDepth 20000 in
theorem cw_X7_overAll : CWok mX7_overAll 0 := ⟨in_lwg 916 rfl rfl, in_lwg 54 rfl rfl, ⟨by decide, by decide, by decide +kernel⟩, by decide⟩
set_option maxRecDepth 20000 in
theorem cw_X7_over : CWok mX7_over 1 := ⟨in_lwg 920 rfl rfl, in_lwg 54 rfl rfl, ⟨by decide, by decide, by decide +kernel⟩, by decide⟩
set_option maxRecDepth 20000 in
theorem cw_X7_cost : CWok mX7_cost 1 := ⟨in_lwg 924 rfl rfl, in_lwg 54 rfl rfl, ⟨by decide, by decide, by decide +kernel⟩, by decide⟩
set_option maxRecDepth 20000 in
theorem cw_X7_below : CWok mX7_below 0 := ⟨in_lwg 928 rfl rfl, in_lwg 54 rfl rfl, ⟨by decide, by decide, by decide +kernel⟩, by decide⟩
set_option maxRecDepth 20000 in
theorem cw_X7_held : CWok mX7_held 2 := ⟨in_lwg 932 rfl rfl, in_lwg 54 rfl rfl, ⟨by decide, by decide, by decide +kernel⟩, by decide⟩
set_option maxRecDepth 20000 in
theorem cw_X7_daysOf : CWok mX7_daysOf 1 := ⟨in_lwg 936 rfl rfl, in_lwg 54 rfl rfl, ⟨by decide, by decide, by decide +kernel⟩, by decide⟩
set_option maxRecDepth 20000 in
theorem cw_X7_better : CWok mX7_better 0 := ⟨in_lwg 940 rfl rfl, in_lwg 54 rfl rfl, ⟨by decide, by decide, by decide +kernel⟩, by decide⟩
set_option maxRecDepth 20000 in
theorem cw_X7_betters : CWok mX7_betters 0 := ⟨in_lwg 944 rfl rfl, in_lwg 54 rfl rfl, ⟨by decide, by decide, by decide +kernel⟩, by decide⟩
set_option maxRecDepth 20000 in
theorem cw_X7_movesWell : CWok mX7_movesWell 3 := ⟨in_lwg 948 rfl rfl, in_lwg 54 rfl rfl, ⟨by decide, by decide, by decide +kernel⟩, by decide⟩
set_option maxRecDepth 20000 in
theorem cw_X7_order : CWok mX7_order 0 := ⟨in_lwg 952 rfl rfl, in_lwg 54 rfl rfl, ⟨by decide, by decide, by decide +kernel⟩, by decide⟩
set_option maxRecDepth 20000 in
theorem cw_X7_gives : CWok mX7_gives 2 := ⟨in_lwg 956 rfl rfl, in_lwg 54 rfl rfl, ⟨by decide, by decide, by decide +kernel⟩, by decide⟩
set_option maxRecDepth 20000 in
theorem cw_X7_lays : CWok mX7_lays 0 := ⟨in_lwg 960 rfl rfl, in_lwg 54 rfl rfl, ⟨by decide, by decide, by decide +kernel⟩, by decide⟩
set_option maxRecDepth 20000 in
theorem cw_X7_rain : CWok mX7_rain 1 := ⟨in_lwg 964 rfl rfl, in_lwg 54 rfl rfl, ⟨by decide, by decide, by decide +kernel⟩, by decide⟩
set_option maxRecDepth 20000 in
theorem cw_X7_about : CWok mX7_about 2 := ⟨in_lwg 968 rfl rfl, in_lwg 54 rfl rfl, ⟨by decide, by decide, by decide +kernel⟩, by decide⟩
set_option maxRecDepth 20000 in
theorem cw_X7_row : CWok mX7_row 2 := ⟨in_lwg 972 rfl rfl, in_lwg 54 rfl rfl, ⟨by decide, by decide, by decide +kernel⟩, by decide⟩
set_option maxRecDepth 20000 in
theorem cw_X7_of : CWok mX7_of 2 := ⟨in_lwg 976 rfl rfl, in_lwg 54 rfl rfl, ⟨by decide, by decide, by decide +kernel⟩, by decide⟩
set_option maxRecDepth 20000 in
theorem cw_X7_count : CWok mX7_count 1 := ⟨in_lwg 980 rfl rfl, in_lwg 54 rfl rfl, ⟨by decide, by decide, by decide +kernel⟩, by decide⟩
set_option maxRecDepth 20000 in
theorem k_L_9 : CIok RL 9 mX6_init 0 := ⟨cw_X6_init, rfl, rfl, in_lwg 61 rfl rfl, Or.inl (in_lwg 60 rfl rfl)⟩
set_option maxRecDepth 20000 in
theorem k_X6_9 : CIok RX6 9 mX2_init 0 := ⟨cw_X2_init, rfl, rfl, in_lwg 69 rfl rfl, Or.inr ⟨_, in_lwn 68 rfl rfl⟩⟩
set_option maxRecDepth 20000 in
theorem f_X2_9 : FL RX2 9 2 0 := ⟨_, _, _, _, cl_2, by decide, in_lwg 72 rfl rfl⟩
set_option maxRecDepth 20000 in
theorem f_X5_63 : FL RX5 63 2 0 := ⟨_, _, _, _, cl_2, by decide, in_lwg 73 rfl rfl⟩
set_option maxRecDepth 20000 in
theorem f_X6_99 : FL RX6 99 2 0 := ⟨_, _, _, _, cl_2, by decide, in_lwg 74 rfl rfl⟩
set_option maxRecDepth 20000 in
theorem f_X1_94 : FL RX1 94 2 0 := ⟨_, _, _, _, cl_2, by decide, in_lwg 75 rfl rfl⟩
set_option maxRecDepth 20000 in
theorem f_X2_15 : FL RX2 15 2 1 := ⟨_, _, _, _, cl_2, by decide, in_lwg 76 rfl rfl⟩
set_option maxRecDepth 20000 in
theorem f_X5_67 : FL RX5 67 2 1 := ⟨_, _, _, _, cl_2, by decide, in_lwg 77 rfl rfl⟩
set_option maxRecDepth 20000 in
theorem f_X6_102 : FL RX6 102 2 1 := ⟨_, _, _, _, cl_2, by decide, in_lwg 78 rfl rfl⟩
set_option maxRecDepth 20000 in
theorem f_X2_18 : FL RX2 18 2 2 := ⟨_, _, _, _, cl_2, by decide, in_lwg 79 rfl rfl⟩
set_option maxRecDepth 20000 in
theorem f_X5_70 : FL RX5 70 2 2 := ⟨_, _, _, _, cl_2, by decide, in_lwg 80 rfl rfl⟩
set_option maxRecDepth 20000 in
theorem f_X6_105 : FL RX6 105 2 2 := ⟨_, _, _, _, cl_2, by decide, in_lwg 81 rfl rfl⟩
set_option maxRecDepth 20000 in
theorem f_X2_21 : FL RX2 21 2 3 := ⟨_, _, _, _, cl_2, by decide, in_lwg 82 rfl rfl⟩
set_option maxRecDepth 20000 in
theorem f_X6_108 : FL RX6 108 2 3 := ⟨_, _, _, _, cl_2, by decide, in_lwg 83 rfl rfl⟩
set_option maxRecDepth 20000 in
theorem f_X4_134 : FL RX4 134 2 3 := ⟨_, _, _, _, cl_2, by decide, in_lwg 84 rfl rfl⟩
set_option maxRecDepth 20000 in
theorem f_X2_24 : FL RX2 24 2 4 := ⟨_, _, _, _, cl_2, by decide, in_lwg 85 rfl rfl⟩
set_option maxRecDepth 20000 in
theorem f_X5_65 : FL RX5 65 2 4 := ⟨_, _, _, _, cl_2, by decide, in_lwg 86 rfl rfl⟩
set_option maxRecDepth 20000 in
theorem f_X6_111 : FL RX6 111 2 4 := ⟨_, _, _, _, cl_2, by decide, in_lwg 87 rfl rfl⟩
set_option maxRecDepth 20000 in
theorem f_X1_91 : FL RX1 91 2 4 := ⟨_, _, _, _, cl_2, by decide, in_lwg 88 rfl rfl⟩
set_option maxRecDepth 20000 in
theorem f_X2_27 : FL RX2 27 2 5 := ⟨_, _, _, _, cl_2, by decide, in_lwg 89 rfl rfl⟩
set_option maxRecDepth 20000 in
theorem f_X0_73 : FL RX0 73 2 5 := ⟨_, _, _, _, cl_2, by decide, in_lwg 90 rfl rfl⟩
set_option maxRecDepth 20000 in
theorem f_X6_89 : FL RX6 89 2 5 := ⟨_, _, _, _, cl_2, by decide, in_lwg 91 rfl rfl⟩
set_option maxRecDepth 20000 in
theorem f_X5_61 : FL RX5 61 2 5 := ⟨_, _, _, _, cl_2, by decide, in_lwg 92 rfl rfl⟩
set_option maxRecDepth 20000 in
theorem f_X2_30 : FL RX2 30 2 6 := ⟨_, _, _, _, cl_2, by decide, in_lwg 93 rfl rfl⟩
set_option maxRecDepth 20000 in
theorem f_X1_29 : FL RX1 29 2 6 := ⟨_, _, _, _, cl_2, by decide, in_lwg 94 rfl rfl⟩
set_option maxRecDepth 20000 in
theorem f_X6_58 : FL RX6 58 2 6 := ⟨_, _, _, _, cl_2, by decide, in_lwg 95 rfl rfl⟩
set_option maxRecDepth 20000 in
theorem f_X2_33 : FL RX2 33 2 7 := ⟨_, _, _, _, cl_2, by decide, in_lwg 96 rfl rfl⟩
set_option maxRecDepth 20000 in
theorem f_X6_62 : FL RX6 62 2 7 := ⟨_, _, _, _, cl_2, by decide, in_lwg 97 rfl rfl⟩
set_option maxRecDepth 20000 in
theorem f_X1_52 : FL RX1 52 2 7 := ⟨_, _, _, _, cl_2, by decide, in_lwg 98 rfl rfl⟩
set_option maxRecDepth 20000 in
theorem f_X2_36 : FL RX2 36 2 8 := ⟨_, _, _, _, cl_2, by decide, in_lwg 99 rfl rfl⟩
set_option maxRecDepth 20000 in
theorem f_X6_65 : FL RX6 65 2 8 := ⟨_, _, _, _, cl_2, by decide, in_lwg 100 rfl rfl⟩
set_option maxRecDepth 20000 in
theorem f_X1_70 : FL RX1 70 2 8 := ⟨_, _, _, _, cl_2, by decide, in_lwg 101 rfl rfl⟩
set_option maxRecDepth 20000 in
theorem f_X2_39 : FL RX2 39 2 9 := ⟨_, _, _, _, cl_2, by decide, in_lwg 102 rfl rfl⟩
set_option maxRecDepth 20000 in
theorem f_X6_68 : FL RX6 68 2 9 := ⟨_, _, _, _, cl_2, by decide, in_lwg 103 rfl rfl⟩
set_option maxRecDepth 20000 in
theorem f_X2_42 : FL RX2 42 2 10 := ⟨_, _, _, _, cl_2, by decide, in_lwg 104 rfl rfl⟩
set_option maxRecDepth 20000 in
theorem f_X0_58 : FL RX0 58 2 10 := ⟨_, _, _, _, cl_2, by decide, in_lwg 105 rfl rfl⟩
set_option maxRecDepth 20000 in
theorem f_X4_95 : FL RX4 95 2 10 := ⟨_, _, _, _, cl_2, by decide, in_lwg 106 rfl rfl⟩
set_option maxRecDepth 20000 in
theorem f_X1_88 : FL RX1 88 2 10 := ⟨_, _, _, _, cl_2, by decide, in_lwg 107 rfl rfl⟩
set_option maxRecDepth 20000 in
theorem f_X6_225 : FL RX6 225 2 10 := ⟨_, _, _, _, cl_2, by decide, in_lwg 108 rfl rfl⟩
set_option maxRecDepth 20000 in
theorem k_X6_18 : CIok RX6 18 mX3_init 1 := ⟨cw_X3_init, rfl, rfl, in_lwg 136 rfl rfl, Or.inl (in_lwg 135 rfl rfl)⟩
set_option maxRecDepth 20000 in
theorem k_X3_28 : CIok RX3 28 mX5_init 0 := ⟨cw_X5_init, rfl, rfl, in_lwg 143 rfl rfl, Or.inr ⟨_, in_lwn 142 rfl rfl⟩⟩
set_option maxRecDepth 20000 in
theorem f_X5_9 : FL RX5 9 5 0 := ⟨_, _, _, _, cl_5, by decide, in_lwg 146 rfl rfl⟩
set_option maxRecDepth 20000 in
theorem f_X4_79 : FL RX4 79 5 0 := ⟨_, _, _, _, cl_5, by decide, in_lwg 147 rfl rfl⟩
set_option maxRecDepth 20000 in
theorem f_X3_68 : FL RX3 68 5 0 := ⟨_, _, _, _, cl_5, by decide, in_lwg 148 rfl rfl⟩
set_option maxRecDepth 20000 in
theorem f_X5_19 : FL RX5 19 5 1 := ⟨_, _, _, _, cl_5, by decide, in_lwg 149 rfl rfl⟩
set_option maxRecDepth 20000 in
theorem f_X4_76 : FL RX4 76 5 1 := ⟨_, _, _, _, cl_5, by decide, in_lwg 150 rfl rfl⟩
set_option maxRecDepth 20000 in
theorem f_X3_65 : FL RX3 65 5 1 := ⟨_, _, _, _, cl_5, by decide, in_lwg 151 rfl rfl⟩
set_option maxRecDepth 20000 in
theorem f_X6_132 : FL RX6 132 5 1 := ⟨_, _, _, _, cl_5, by decide, in_lwg 152 rfl rfl⟩
set_option maxRecDepth 20000 in
theorem f_X4_54 : FL RX4 54 5 2 := ⟨_, _, _, _, cl_5, by decide, in_lwg 153 rfl rfl⟩
set_option maxRecDepth 20000 in
theorem f_X3_51 : FL RX3 51 5 2 := ⟨_, _, _, _, cl_5, by decide, in_lwg 154 rfl rfl⟩
set_option maxRecDepth 20000 in
theorem f_X5_43 : FL RX5 43 5 2 := ⟨_, _, _, _, cl_5, by decide, in_lwg 155 rfl rfl⟩
set_option maxRecDepth 20000 in
theorem f_X3_48 : FL RX3 48 5 3 := ⟨_, _, _, _, cl_5, by decide, in_lwg 156 rfl rfl⟩
set_option maxRecDepth 20000 in
theorem f_X5_46 : FL RX5 46 5 3 := ⟨_, _, _, _, cl_5, by decide, in_lwg 157 rfl rfl⟩
set_option maxRecDepth 20000 in
theorem f_X5_30 : FL RX5 30 5 4 := ⟨_, _, _, _, cl_5, by decide, in_lwg 158 rfl rfl⟩
set_option maxRecDepth 20000 in
theorem f_X6_136 : FL RX6 136 5 4 := ⟨_, _, _, _, cl_5, by decide, in_lwg 159 rfl rfl⟩
set_option maxRecDepth 20000 in
theorem f_X5_49 : FL RX5 49 5 5 := ⟨_, _, _, _, cl_5, by decide, in_lwg 160 rfl rfl⟩
set_option maxRecDepth 20000 in
theorem f_X6_144 : FL RX6 144 5 5 := ⟨_, _, _, _, cl_5, by decide, in_lwg 161 rfl rfl⟩
set_option maxRecDepth 20000 in
theorem f_X5_52 : FL RX5 52 5 6 := ⟨_, _, _, _, cl_5, by decide, in_lwg 162 rfl rfl⟩
set_option maxRecDepth 20000 in
theorem f_X3_71 : FL RX3 71 5 6 := ⟨_, _, _, _, cl_5, by decide, in_lwg 163 rfl rfl⟩
set_option maxRecDepth 20000 in
theorem f_X6_142 : FL RX6 142 5 6 := ⟨_, _, _, _, cl_5, by decide, in_lwg 164 rfl rfl⟩
set_option maxRecDepth 20000 in
theorem f_X1_59 : FL RX1 59 5 7 := ⟨_, _, _, _, cl_5, by decide, in_lwg 165 rfl rfl⟩
set_option maxRecDepth 20000 in
theorem f_X5_55 : FL RX5 55 5 7 := ⟨_, _, _, _, cl_5, by decide, in_lwg 166 rfl rfl⟩
set_option maxRecDepth 20000 in
theorem f_X3_45 : FL RX3 45 5 8 := ⟨_, _, _, _, cl_5, by decide, in_lwg 167 rfl rfl⟩
set_option maxRecDepth 20000 in
theorem f_X5_58 : FL RX5 58 5 8 := ⟨_, _, _, _, cl_5, by decide, in_lwg 168 rfl rfl⟩
set_option maxRecDepth 20000 in
theorem f_X6_147 : FL RX6 147 5 8 := ⟨_, _, _, _, cl_5, by decide, in_lwg 169 rfl rfl⟩
set_option maxRecDepth 20000 in
theorem f_X5_15 : FL RX5 15 5 9 := ⟨_, _, _, _, cl_5, by decide, in_lwg 170 rfl rfl⟩
set_option maxRecDepth 20000 in
theorem f_X3_41 : FL RX3 41 5 9 := ⟨_, _, _, _, cl_5, by decide, in_lwg 171 rfl rfl⟩
set_option maxRecDepth 20000 in
theorem f_X3_24 : FL RX3 24 3 0 := ⟨_, _, _, _, cl_3, by decide, in_lwg 193 rfl rfl⟩
set_option maxRecDepth 20000 in
theorem f_X3_11 : FL RX3 11 3 1 := ⟨_, _, _, _, cl_3, by decide, in_lwg 194 rfl rfl⟩
set_option maxRecDepth 20000 in
theorem f_X4_45 : FL RX4 45 3 1 := ⟨_, _, _, _, cl_3, by decide, in_lwg 195 rfl rfl⟩
set_option maxRecDepth 20000 in
theorem f_X1_55 : FL RX1 55 3 1 := ⟨_, _, _, _, cl_3, by decide, in_lwg 196 rfl rfl⟩
set_option maxRecDepth 20000 in
theorem f_X6_123 : FL RX6 123 3 1 := ⟨_, _, _, _, cl_3, by decide, in_lwg 197 rfl rfl⟩
set_option maxRecDepth 20000 in
theorem f_X3_17 : FL RX3 17 3 2 := ⟨_, _, _, _, cl_3, by decide, in_lwg 198 rfl rfl⟩
set_option maxRecDepth 20000 in
theorem f_X6_219 : FL RX6 219 3 2 := ⟨_, _, _, _, cl_3, by decide, in_lwg 199 rfl rfl⟩
set_option maxRecDepth 20000 in
theorem f_X3_21 : FL RX3 21 3 3 := ⟨_, _, _, _, cl_3, by decide, in_lwg 200 rfl rfl⟩
set_option maxRecDepth 20000 in
theorem f_X6_222 : FL RX6 222 3 3 := ⟨_, _, _, _, cl_3, by decide, in_lwg 201 rfl rfl⟩
set_option maxRecDepth 20000 in
theorem f_X3_29 : FL RX3 29 3 4 := ⟨_, _, _, _, cl_3, by decide, in_lwg 202 rfl rfl⟩
set_option maxRecDepth 20000 in
theorem f_X1_39 : FL RX1 39 3 4 := ⟨_, _, _, _, cl_3, by decide, in_lwg 203 rfl rfl⟩
set_option maxRecDepth 20000 in
theorem f_X4_103 : FL RX4 103 3 4 := ⟨_, _, _, _, cl_3, by decide, in_lwg 204 rfl rfl⟩
set_option maxRecDepth 20000 in
theorem f_X6_204 : FL RX6 204 3 4 := ⟨_, _, _, _, cl_3, by decide, in_lwg 205 rfl rfl⟩
set_option maxRecDepth 20000 in
theorem k_X6_27 : CIok RX6 27 mX1_init 2 := ⟨cw_X1_init, rfl, rfl, in_lwg 220 rfl rfl, Or.inl (in_lwg 219 rfl rfl)⟩
set_option maxRecDepth 20000 in
theorem f_X1_9 : FL RX1 9 1 0 := ⟨_, _, _, _, cl_1, by decide, in_lwg 223 rfl rfl⟩
set_option maxRecDepth 20000 in
theorem f_X1_15 : FL RX1 15 1 1 := ⟨_, _, _, _, cl_1, by decide, in_lwg 224 rfl rfl⟩
set_option maxRecDepth 20000 in
theorem k_X6_36 : CIok RX6 36 mX4_init 3 := ⟨cw_X4_init, rfl, rfl, in_lwg 233 rfl rfl, Or.inl (in_lwg 232 rfl rfl)⟩
set_option maxRecDepth 20000 in
theorem k_X4_38 : CIok RX4 38 mX0_init 1 := ⟨cw_X0_init, rfl, rfl, in_lwg 240 rfl rfl, Or.inl (in_lwg 239 rfl rfl)⟩
set_option maxRecDepth 20000 in
theorem f_X0_21 : FL RX0 21 0 0 := ⟨_, _, _, _, cl_0, by decide, in_lwg 243 rfl rfl⟩
set_option maxRecDepth 20000 in
theorem f_X0_9 : FL RX0 9 0 1 := ⟨_, _, _, _, cl_0, by decide, in_lwg 244 rfl rfl⟩
set_option maxRecDepth 20000 in
theorem f_X0_15 : FL RX0 15 0 2 := ⟨_, _, _, _, cl_0, by decide, in_lwg 245 rfl rfl⟩
set_option maxRecDepth 20000 in
theorem f_X0_18 : FL RX0 18 0 3 := ⟨_, _, _, _, cl_0, by decide, in_lwg 246 rfl rfl⟩
set_option maxRecDepth 20000 in
theorem f_X0_45 : FL RX0 45 0 4 := ⟨_, _, _, _, cl_0, by decide, in_lwg 247 rfl rfl⟩
set_option maxRecDepth 20000 in
theorem f_X0_55 : FL RX0 55 0 5 := ⟨_, _, _, _, cl_0, by decide, in_lwg 248 rfl rfl⟩
set_option maxRecDepth 20000 in
theorem f_X0_32 : FL RX0 32 0 6 := ⟨_, _, _, _, cl_0, by decide, in_lwg 249 rfl rfl⟩
set_option maxRecDepth 20000 in
theorem f_X4_24 : FL RX4 24 4 0 := ⟨_, _, _, _, cl_4, by decide, in_lwg 265 rfl rfl⟩
set_option maxRecDepth 20000 in
theorem f_X4_28 : FL RX4 28 4 1 := ⟨_, _, _, _, cl_4, by decide, in_lwg 266 rfl rfl⟩
set_option maxRecDepth 20000 in
theorem f_X4_32 : FL RX4 32 4 2 := ⟨_, _, _, _, cl_4, by decide, in_lwg 267 rfl rfl⟩
set_option maxRecDepth 20000 in
theorem f_X4_41 : FL RX4 41 4 3 := ⟨_, _, _, _, cl_4, by decide, in_lwg 268 rfl rfl⟩
set_option maxRecDepth 20000 in
theorem f_X4_11 : FL RX4 11 4 4 := ⟨_, _, _, _, cl_4, by decide, in_lwg 269 rfl rfl⟩
set_option maxRecDepth 20000 in
theorem f_X4_17 : FL RX4 17 4 5 := ⟨_, _, _, _, cl_4, by decide, in_lwg 270 rfl rfl⟩
set_option maxRecDepth 20000 in
theorem f_X4_21 : FL RX4 21 4 6 := ⟨_, _, _, _, cl_4, by decide, in_lwg 271 rfl rfl⟩
set_option maxRecDepth 20000 in
theorem f_X6_10 : FL RX6 10 6 0 := ⟨_, _, _, _, cl_6, by decide, in_lwg 287 rfl rfl⟩
set_option maxRecDepth 20000 in
theorem f_X6_21 : FL RX6 21 6 1 := ⟨_, _, _, _, cl_6, by decide, in_lwg 288 rfl rfl⟩
set_option maxRecDepth 20000 in
theorem f_X6_30 : FL RX6 30 6 2 := ⟨_, _, _, _, cl_6, by decide, in_lwg 289 rfl rfl⟩
set_option maxRecDepth 20000 in
theorem f_X6_39 : FL RX6 39 6 3 := ⟨_, _, _, _, cl_6, by decide, in_lwg 290 rfl rfl⟩
set_option maxRecDepth 20000 in
theorem k_L_13 : CVok RL 13 mX6_scene 6 5 := ⟨cw_X6_scene, in_lwg 300 rfl rfl, in_lwg 301 rfl rfl, in_lwg 302 rfl rfl, _, _, rfl⟩
set_option maxRecDepth 20000 in
theorem k_X6_43 : CSok RX6 43 mX6_within 3 := ⟨cw_X6_within, in_lwg 305 rfl rfl, Or.inl (in_lwg 304 rfl rfl)⟩
set_option maxRecDepth 20000 in
theorem k_X6_47 : CSok RX6 47 mX6_isPlace 1 := ⟨cw_X6_isPlace, in_lwg 308 rfl rfl, Or.inl (in_lwg 307 rfl rfl)⟩
set_option maxRecDepth 20000 in
theorem k_X6_51 : CVok RX6 51 mX2_addScene 2 5 := ⟨cw_X2_addScene, in_lwg 310 rfl rfl, in_lwg 311 rfl rfl, in_lwg 312 rfl rfl, _, _, rfl⟩
set_option maxRecDepth 20000 in
theorem k_L_18 : CVok RL 18 mX6_player 6 3 := ⟨cw_X6_player, in_lwg 314 rfl rfl, in_lwg 315 rfl rfl, in_lwg 316 rfl rfl, _, _, rfl⟩
set_option maxRecDepth 20000 in
theorem k_X6_55 : CSok RX6 55 mX6_isPlayer 1 := ⟨cw_X6_isPlayer, in_lwg 319 rfl rfl, Or.inl (in_lwg 318 rfl rfl)⟩
set_option maxRecDepth 20000 in
theorem k_L_23 : CVok RL 23 mX6_rent 6 2 := ⟨cw_X6_rent, in_lwg 321 rfl rfl, in_lwg 322 rfl rfl, in_lwg 323 rfl rfl, _, _, rfl⟩
set_option maxRecDepth 20000 in
theorem k_L_28 : CVok RL 28 mX6_spot 6 2 := ⟨cw_X6_spot, in_lwg 325 rfl rfl, in_lwg 326 rfl rfl, in_lwg 327 rfl rfl, _, _, rfl⟩
set_option maxRecDepth 20000 in
theorem k_X6_71 : CVok RX6 71 mX3_measureRows 3 0 := ⟨cw_X3_measureRows, in_lwg 329 rfl rfl, in_lwg 330 rfl rfl, in_lwg 331 rfl rfl, _, _, rfl⟩
set_option maxRecDepth 20000 in
theorem k_X3_33 : CVok RX3 33 mX5_measure 5 1 := ⟨cw_X5_measure, in_lwg 333 rfl rfl, in_lwg 334 rfl rfl, in_lwg 335 rfl rfl, _, _, rfl⟩
set_option maxRecDepth 20000 in
theorem k_X5_23 : CVok RX5 23 mX5_forget 5 0 := ⟨cw_X5_forget, in_lwg 337 rfl rfl, in_lwg 339 rfl rfl, in_lwg 0 rfl rfl, _, _, rfl⟩
set_option maxRecDepth 20000 in
theorem k_X5_26 : CVok RX5 26 mX5_measureScene 5 2 := ⟨cw_X5_measureScene, in_lwg 341 rfl rfl, in_lwg 343 rfl rfl, in_lwg 1 rfl rfl, _, _, rfl⟩
set_option maxRecDepth 20000 in
theorem k_X5_33 : CVok RX5 33 mX2_way 2 2 := ⟨cw_X2_way, in_lwg 345 rfl rfl, in_lwg 346 rfl rfl, in_lwg 347 rfl rfl, _, _, rfl⟩
set_option maxRecDepth 20000 in
theorem k_X5_39 : CVok RX5 39 mX5_isInTurn 5 1 := ⟨cw_X5_isInTurn, in_lwg 349 rfl rfl, in_lwg 351 rfl rfl, in_lwg 2 rfl rfl, _, _, rfl⟩
set_option maxRecDepth 20000 in
theorem k_X6_74 : CVok RX6 74 mX3_keeps 3 0 := ⟨cw_X3_keeps, in_lwg 353 rfl rfl, in_lwg 354 rfl rfl, in_lwg 355 rfl rfl, _, _, rfl⟩
set_option maxRecDepth 20000 in
theorem k_X3_37 : CVok RX3 37 mX5_fitsInto 5 2 := ⟨cw_X5_fitsInto, in_lwg 357 rfl rfl, in_lwg 358 rfl rfl, in_lwg 359 rfl rfl, _, _, rfl⟩
set_option maxRecDepth 20000 in
theorem k_X3_54 : CVok RX3 54 mX5_hasDayLight 5 0 := ⟨cw_X5_hasDayLight, in_lwg 361 rfl rfl, in_lwg 362 rfl rfl, in_lwg 363 rfl rfl, _, _, rfl⟩
set_option maxRecDepth 20000 in
theorem k_L_32 : CVok RL 32 mX6_ahead 6 2 := ⟨cw_X6_ahead, in_lwg 365 rfl rfl, in_lwg 366 rfl rfl, in_lwg 367 rfl rfl, _, _, rfl⟩
set_option maxRecDepth 20000 in
theorem k_X6_78 : CVok RX6 78 mX2_hasScene 2 1 := ⟨cw_X2_hasScene, in_lwg 369 rfl rfl, in_lwg 370 rfl rfl, in_lwg 371 rfl rfl, _, _, rfl⟩
set_option maxRecDepth 20000 in
theorem k_X6_81 : CVok RX6 81 mX2_needsByOthersToo 2 1 := ⟨cw_X2_needsByOthersToo, in_lwg 373 rfl rfl, in_lwg 374 rfl rfl, in_lwg 375 rfl rfl, _, _, rfl⟩
set_option maxRecDepth 20000 in
theorem k_X2_46 : CVok RX2 46 mX2_needsOfAll 2 1 := ⟨cw_X2_needsOfAll, in_lwg 377 rfl rfl, in_lwg 379 rfl rfl, in_lwg 3 rfl rfl, _, _, rfl⟩
set_option maxRecDepth 20000 in
theorem k_X2_50 : CSok RX2 50 mX6_hasBit 2 := ⟨cw_X6_hasBit, in_lwg 382 rfl rfl, Or.inr ⟨_, in_lwn 381 rfl rfl⟩⟩
set_option maxRecDepth 20000 in
theorem k_X6_85 : CSok RX6 85 mX6_hasBit 2 := ⟨cw_X6_hasBit, in_lwg 382 rfl rfl, Or.inl (in_lwg 384 rfl rfl)⟩
set_option maxRecDepth 20000 in
theorem k_L_36 : CVok RL 36 mX6_day 6 2 := ⟨cw_X6_day, in_lwg 385 rfl rfl, in_lwg 386 rfl rfl, in_lwg 387 rfl rfl, _, _, rfl⟩
set_option maxRecDepth 20000 in
theorem k_X6_92 : CSok RX6 92 mX6_isDayLength 2 := ⟨cw_X6_isDayLength, in_lwg 390 rfl rfl, Or.inl (in_lwg 389 rfl rfl)⟩
set_option maxRecDepth 20000 in
theorem k_X6_95 : CVok RX6 95 mX3_addDay 3 2 := ⟨cw_X3_addDay, in_lwg 392 rfl rfl, in_lwg 393 rfl rfl, in_lwg 394 rfl rfl, _, _, rfl⟩
set_option maxRecDepth 20000 in
theorem k_L_40 : CVok RL 40 mX6_about 6 2 := ⟨cw_X6_about, in_lwg 396 rfl rfl, in_lwg 397 rfl rfl, in_lwg 398 rfl rfl, _, _, rfl⟩
set_option maxRecDepth 20000 in
theorem k_X6_114 : CVok RX6 114 mX3_dayWith 3 1 := ⟨cw_X3_dayWith, in_lwg 400 rfl rfl, in_lwg 401 rfl rfl, in_lwg 402 rfl rfl, _, _, rfl⟩
set_option maxRecDepth 20000 in
theorem k_X3_58 : CSok RX3 58 mX6_hasBit 2 := ⟨cw_X6_hasBit, in_lwg 382 rfl rfl, Or.inr ⟨_, in_lwn 404 rfl rfl⟩⟩
set_option maxRecDepth 20000 in
theorem k_X6_117 : CVok RX6 117 mX3_placeInRow 3 1 := ⟨cw_X3_placeInRow, in_lwg 405 rfl rfl, in_lwg 406 rfl rfl, in_lwg 407 rfl rfl, _, _, rfl⟩
set_option maxRecDepth 20000 in
theorem k_X3_61 : CVok RX3 61 mX3_dayWith 3 1 := ⟨cw_X3_dayWith, in_lwg 409 rfl rfl, in_lwg 401 rfl rfl, in_lwg 402 rfl rfl, _, _, rfl⟩
set_option maxRecDepth 20000 in
theorem k_L_44 : CVok RL 44 mX6_row 6 2 := ⟨cw_X6_row, in_lwg 410 rfl rfl, in_lwg 411 rfl rfl, in_lwg 412 rfl rfl, _, _, rfl⟩
set_option maxRecDepth 20000 in
theorem k_X6_120 : CVok RX6 120 mX3_hasDay 3 1 := ⟨cw_X3_hasDay, in_lwg 414 rfl rfl, in_lwg 415 rfl rfl, in_lwg 416 rfl rfl, _, _, rfl⟩
set_option maxRecDepth 20000 in
theorem k_X6_127 : CVok RX6 127 mX5_sceneAt 5 1 := ⟨cw_X5_sceneAt, in_lwg 418 rfl rfl, in_lwg 419 rfl rfl, in_lwg 420 rfl rfl, _, _, rfl⟩
set_option maxRecDepth 20000 in
theorem k_L_48 : CVok RL 48 mX6_of 6 2 := ⟨cw_X6_of, in_lwg 422 rfl rfl, in_lwg 423 rfl rfl, in_lwg 424 rfl rfl, _, _, rfl⟩
set_option maxRecDepth 20000 in
theorem k_X6_138 : CVok RX6 138 mX5_halfHoursOver 5 0 := ⟨cw_X5_halfHoursOver, in_lwg 426 rfl rfl, in_lwg 427 rfl rfl, in_lwg 428 rfl rfl, _, _, rfl⟩
set_option maxRecDepth 20000 in
theorem k_L_52 : CVok RL 52 mX6_held 6 2 := ⟨cw_X6_held, in_lwg 430 rfl rfl, in_lwg 431 rfl rfl, in_lwg 432 rfl rfl, _, _, rfl⟩
set_option maxRecDepth 20000 in
theorem k_X6_151 : CVok RX6 151 mX3_firstDayOf 3 1 := ⟨cw_X3_firstDayOf, in_lwg 434 rfl rfl, in_lwg 435 rfl rfl, in_lwg 436 rfl rfl, _, _, rfl⟩
set_option maxRecDepth 20000 in
theorem k_X3_74 : CVok RX3 74 mX3_plays 3 2 := ⟨cw_X3_plays, in_lwg 438 rfl rfl, in_lwg 439 rfl rfl, in_lwg 440 rfl rfl, _, _, rfl⟩
set_option maxRecDepth 20000 in
theorem k_X6_154 : CVok RX6 154 mX3_lastDayOf 3 1 := ⟨cw_X3_lastDayOf, in_lwg 442 rfl rfl, in_lwg 443 rfl rfl, in_lwg 444 rfl rfl, _, _, rfl⟩
set_option maxRecDepth 20000 in
theorem k_X6_157 : CVok RX6 157 mX3_daysWith 3 1 := ⟨cw_X3_daysWith, in_lwg 446 rfl rfl, in_lwg 447 rfl rfl, in_lwg 448 rfl rfl, _, _, rfl⟩
set_option maxRecDepth 20000 in
theorem k_X6_160 : CVok RX6 160 mX1_paidDays 1 1 := ⟨cw_X1_paidDays, in_lwg 450 rfl rfl, in_lwg 451 rfl rfl, in_lwg 452 rfl rfl, _, _, rfl⟩
set_option maxRecDepth 20000 in
theorem k_X1_45 : CVok RX1 45 mX3_plays 3 2 := ⟨cw_X3_plays, in_lwg 454 rfl rfl, in_lwg 439 rfl rfl, in_lwg 440 rfl rfl, _, _, rfl⟩
set_option maxRecDepth 20000 in
theorem k_X1_49 : CVok RX1 49 mX1_isLetGo 1 2 := ⟨cw_X1_isLetGo, in_lwg 455 rfl rfl, in_lwg 457 rfl rfl, in_lwg 4 rfl rfl, _, _, rfl⟩
set_option maxRecDepth 20000 in
theorem k_L_56 : CVok RL 56 mX6_cost 6 1 := ⟨cw_X6_cost, in_lwg 459 rfl rfl, in_lwg 460 rfl rfl, in_lwg 461 rfl rfl, _, _, rfl⟩
set_option maxRecDepth 20000 in
theorem k_X6_163 : CVok RX6 163 mX1_total 1 0 := ⟨cw_X1_total, in_lwg 463 rfl rfl, in_lwg 464 rfl rfl, in_lwg 465 rfl rfl, _, _, rfl⟩
set_option maxRecDepth 20000 in
theorem k_X1_19 : CVok RX1 19 mX1_wages 1 0 := ⟨cw_X1_wages, in_lwg 467 rfl rfl, in_lwg 468 rfl rfl, in_lwg 469 rfl rfl, _, _, rfl⟩
set_option maxRecDepth 20000 in
theorem k_X1_35 : CVok RX1 35 mX1_paidDays 1 1 := ⟨cw_X1_paidDays, in_lwg 471 rfl rfl, in_lwg 451 rfl rfl, in_lwg 452 rfl rfl, _, _, rfl⟩
set_option maxRecDepth 20000 in
theorem k_X1_23 : CVok RX1 23 mX1_rents 1 0 := ⟨cw_X1_rents, in_lwg 472 rfl rfl, in_lwg 473 rfl rfl, in_lwg 474 rfl rfl, _, _, rfl⟩
set_option maxRecDepth 20000 in
theorem k_X1_64 : CVok RX1 64 mX1_rentOf 1 1 := ⟨cw_X1_rentOf, in_lwg 476 rfl rfl, in_lwg 478 rfl rfl, in_lwg 5 rfl rfl, _, _, rfl⟩
set_option maxRecDepth 20000 in
theorem k_X1_67 : CSok RX1 67 mX6_hasBit 2 := ⟨cw_X6_hasBit, in_lwg 382 rfl rfl, Or.inr ⟨_, in_lwn 480 rfl rfl⟩⟩
set_option maxRecDepth 20000 in
theorem k_X1_26 : CVok RX1 26 mX1_overtime 1 0 := ⟨cw_X1_overtime, in_lwg 481 rfl rfl, in_lwg 482 rfl rfl, in_lwg 483 rfl rfl, _, _, rfl⟩
set_option maxRecDepth 20000 in
theorem k_X1_73 : CVok RX1 73 mX5_halfHoursOver 5 0 := ⟨cw_X5_halfHoursOver, in_lwg 485 rfl rfl, in_lwg 427 rfl rfl, in_lwg 428 rfl rfl, _, _, rfl⟩
set_option maxRecDepth 20000 in
theorem k_X6_166 : CVok RX6 166 mX1_wages 1 0 := ⟨cw_X1_wages, in_lwg 486 rfl rfl, in_lwg 468 rfl rfl, in_lwg 469 rfl rfl, _, _, rfl⟩
set_option maxRecDepth 20000 in
theorem k_X6_169 : CVok RX6 169 mX1_rents 1 0 := ⟨cw_X1_rents, in_lwg 487 rfl rfl, in_lwg 473 rfl rfl, in_lwg 474 rfl rfl, _, _, rfl⟩
set_option maxRecDepth 20000 in
theorem k_X6_172 : CVok RX6 172 mX1_overtime 1 0 := ⟨cw_X1_overtime, in_lwg 488 rfl rfl, in_lwg 482 rfl rfl, in_lwg 483 rfl rfl, _, _, rfl⟩
set_option maxRecDepth 20000 in
theorem k_L_61 : CVok RL 61 mX6_below 6 0 := ⟨cw_X6_below, in_lwg 489 rfl rfl, in_lwg 490 rfl rfl, in_lwg 491 rfl rfl, _, _, rfl⟩
set_option maxRecDepth 20000 in
theorem k_X6_175 : CVok RX6 175 mX1_leastPossible 1 0 := ⟨cw_X1_leastPossible, in_lwg 493 rfl rfl, in_lwg 494 rfl rfl, in_lwg 495 rfl rfl, _, _, rfl⟩
set_option maxRecDepth 20000 in
theorem k_X1_76 : CVok RX1 76 mX3_greatestMost 3 0 := ⟨cw_X3_greatestMost, in_lwg 497 rfl rfl, in_lwg 498 rfl rfl, in_lwg 499 rfl rfl, _, _, rfl⟩
set_option maxRecDepth 20000 in
theorem k_X3_77 : CSok RX3 77 mJ_max 2 := ⟨cw_J_max, in_lwg 502 rfl rfl, Or.inl (in_lwg 501 rfl rfl)⟩
set_option maxRecDepth 20000 in
theorem k_X1_79 : CVok RX1 79 mX1_minutesInRows 1 1 := ⟨cw_X1_minutesInRows, in_lwg 504 rfl rfl, in_lwg 506 rfl rfl, in_lwg 6 rfl rfl, _, _, rfl⟩
set_option maxRecDepth 20000 in
theorem k_X1_85 : CVok RX1 85 mX3_scenesInRows 3 0 := ⟨cw_X3_scenesInRows, in_lwg 508 rfl rfl, in_lwg 509 rfl rfl, in_lwg 510 rfl rfl, _, _, rfl⟩
set_option maxRecDepth 20000 in
theorem k_X1_82 : CVok RX1 82 mX1_placesInRows 1 0 := ⟨cw_X1_placesInRows, in_lwg 512 rfl rfl, in_lwg 514 rfl rfl, in_lwg 7 rfl rfl, _, _, rfl⟩
set_option maxRecDepth 20000 in
theorem k_L_66 : CVok RL 66 mX6_may 6 2 := ⟨cw_X6_may, in_lwg 516 rfl rfl, in_lwg 517 rfl rfl, in_lwg 518 rfl rfl, _, _, rfl⟩
set_option maxRecDepth 20000 in
theorem k_X6_178 : CVok RX6 178 mX6_refusalToJoin 6 2 := ⟨cw_X6_refusalToJoin, in_lwg 520 rfl rfl, in_lwg 522 rfl rfl, in_lwg 8 rfl rfl, _, _, rfl⟩
set_option maxRecDepth 20000 in
theorem k_X6_181 : CVok RX6 181 mX4_couldJoin 4 2 := ⟨cw_X4_couldJoin, in_lwg 524 rfl rfl, in_lwg 525 rfl rfl, in_lwg 526 rfl rfl, _, _, rfl⟩
set_option maxRecDepth 20000 in
theorem k_X4_69 : CVok RX4 69 mX4_join 4 2 := ⟨cw_X4_join, in_lwg 528 rfl rfl, in_lwg 529 rfl rfl, in_lwg 530 rfl rfl, _, _, rfl⟩
set_option maxRecDepth 20000 in
theorem k_X4_50 : CVok RX4 50 mX5_isFull 5 0 := ⟨cw_X5_isFull, in_lwg 532 rfl rfl, in_lwg 533 rfl rfl, in_lwg 534 rfl rfl, _, _, rfl⟩
set_option maxRecDepth 20000 in
theorem k_X4_58 : CVok RX4 58 mX0_arrange 0 2 := ⟨cw_X0_arrange, in_lwg 536 rfl rfl, in_lwg 537 rfl rfl, in_lwg 538 rfl rfl, _, _, rfl⟩
set_option maxRecDepth 20000 in
theorem k_X0_25 : CVok RX0 25 mX0_fillPool 0 1 := ⟨cw_X0_fillPool, in_lwg 540 rfl rfl, in_lwg 542 rfl rfl, in_lwg 9 rfl rfl, _, _, rfl⟩
set_option maxRecDepth 20000 in
theorem k_X0_63 : CSok RX0 63 mX6_hasBit 2 := ⟨cw_X6_hasBit, in_lwg 382 rfl rfl, Or.inr ⟨_, in_lwn 544 rfl rfl⟩⟩
set_option maxRecDepth 20000 in
theorem c_X0_31 : Cond.constant RX0 31 2147483647 ∈ lwg := in_lwg 545 rfl rfl
set_option maxRecDepth 20000 in
theorem k_X0_36 : CVok RX0 36 mX0_tryEach 0 3 := ⟨cw_X0_tryEach, in_lwg 546 rfl rfl, in_lwg 548 rfl rfl, in_lwg 10 rfl rfl, _, _, rfl⟩
set_option maxRecDepth 20000 in
theorem k_X0_76 : CVok RX0 76 mX0_tryNext 0 4 := ⟨cw_X0_tryNext, in_lwg 553 rfl rfl, in_lwg 555 rfl rfl, in_lwg 11 rfl rfl, _, _, rfl⟩
set_option maxRecDepth 20000 in
theorem k_X0_80 : CVok RX0 80 mX2_way 2 2 := ⟨cw_X2_way, in_lwg 557 rfl rfl, in_lwg 346 rfl rfl, in_lwg 347 rfl rfl, _, _, rfl⟩
set_option maxRecDepth 20000 in
theorem k_X0_40 : CVok RX0 40 mX5_clear 5 0 := ⟨cw_X5_clear, in_lwg 558 rfl rfl, in_lwg 559 rfl rfl, in_lwg 560 rfl rfl, _, _, rfl⟩
set_option maxRecDepth 20000 in
theorem k_X0_48 : CVok RX0 48 mX5_append 5 1 := ⟨cw_X5_append, in_lwg 562 rfl rfl, in_lwg 563 rfl rfl, in_lwg 564 rfl rfl, _, _, rfl⟩
set_option maxRecDepth 20000 in
theorem k_X0_51 : CVok RX0 51 mX5_measure 5 1 := ⟨cw_X5_measure, in_lwg 566 rfl rfl, in_lwg 334 rfl rfl, in_lwg 335 rfl rfl, _, _, rfl⟩
set_option maxRecDepth 20000 in
theorem k_X4_62 : CVok RX4 62 mX3_exchange 3 2 := ⟨cw_X3_exchange, in_lwg 567 rfl rfl, in_lwg 568 rfl rfl, in_lwg 569 rfl rfl, _, _, rfl⟩
set_option maxRecDepth 20000 in
theorem k_X4_66 : CVok RX4 66 mX3_keeps 3 0 := ⟨cw_X3_keeps, in_lwg 571 rfl rfl, in_lwg 354 rfl rfl, in_lwg 355 rfl rfl, _, _, rfl⟩
set_option maxRecDepth 20000 in
theorem k_L_70 : CVok RL 70 mX6_put 6 2 := ⟨cw_X6_put, in_lwg 572 rfl rfl, in_lwg 573 rfl rfl, in_lwg 574 rfl rfl, _, _, rfl⟩
set_option maxRecDepth 20000 in
theorem k_X6_184 : CVok RX6 184 mX4_join 4 2 := ⟨cw_X4_join, in_lwg 576 rfl rfl, in_lwg 529 rfl rfl, in_lwg 530 rfl rfl, _, _, rfl⟩
set_option maxRecDepth 20000 in
theorem k_L_74 : CVok RL 74 mX6_take 6 1 := ⟨cw_X6_take, in_lwg 577 rfl rfl, in_lwg 578 rfl rfl, in_lwg 579 rfl rfl, _, _, rfl⟩
set_option maxRecDepth 20000 in
theorem k_X6_187 : CVok RX6 187 mX4_leave 4 2 := ⟨cw_X4_leave, in_lwg 581 rfl rfl, in_lwg 582 rfl rfl, in_lwg 583 rfl rfl, _, _, rfl⟩
set_option maxRecDepth 20000 in
theorem k_X4_73 : CVok RX4 73 mX5_clear 5 0 := ⟨cw_X5_clear, in_lwg 585 rfl rfl, in_lwg 559 rfl rfl, in_lwg 560 rfl rfl, _, _, rfl⟩
set_option maxRecDepth 20000 in
theorem k_X4_82 : CVok RX4 82 mX5_append 5 1 := ⟨cw_X5_append, in_lwg 586 rfl rfl, in_lwg 563 rfl rfl, in_lwg 564 rfl rfl, _, _, rfl⟩
set_option maxRecDepth 20000 in
theorem k_X4_86 : CVok RX4 86 mX5_measure 5 1 := ⟨cw_X5_measure, in_lwg 587 rfl rfl, in_lwg 334 rfl rfl, in_lwg 335 rfl rfl, _, _, rfl⟩
set_option maxRecDepth 20000 in
theorem k_L_78 : CVok RL 78 mX6_tidy 6 1 := ⟨cw_X6_tidy, in_lwg 588 rfl rfl, in_lwg 589 rfl rfl, in_lwg 590 rfl rfl, _, _, rfl⟩
set_option maxRecDepth 20000 in
theorem k_X6_191 : CVok RX6 191 mX4_arrangeDay 4 1 := ⟨cw_X4_arrangeDay, in_lwg 592 rfl rfl, in_lwg 593 rfl rfl, in_lwg 594 rfl rfl, _, _, rfl⟩
set_option maxRecDepth 20000 in
theorem k_L_82 : CVok RL 82 mX6_trade 6 2 := ⟨cw_X6_trade, in_lwg 596 rfl rfl, in_lwg 597 rfl rfl, in_lwg 598 rfl rfl, _, _, rfl⟩
set_option maxRecDepth 20000 in
theorem k_X6_195 : CVok RX6 195 mX3_exchange 3 2 := ⟨cw_X3_exchange, in_lwg 600 rfl rfl, in_lwg 568 rfl rfl, in_lwg 569 rfl rfl, _, _, rfl⟩
set_option maxRecDepth 20000 in
theorem k_L_86 : CVok RL 86 mX6_better 6 0 := ⟨cw_X6_better, in_lwg 601 rfl rfl, in_lwg 602 rfl rfl, in_lwg 603 rfl rfl, _, _, rfl⟩
set_option maxRecDepth 20000 in
theorem k_X6_198 : CVok RX6 198 mX4_makeFirstGoodMove 4 0 := ⟨cw_X4_makeFirstGoodMove, in_lwg 605 rfl rfl, in_lwg 606 rfl rfl, in_lwg 607 rfl rfl, _, _, rfl⟩
set_option maxRecDepth 20000 in
theorem k_X4_89 : CVok RX4 89 mX1_total 1 0 := ⟨cw_X1_total, in_lwg 609 rfl rfl, in_lwg 464 rfl rfl, in_lwg 465 rfl rfl, _, _, rfl⟩
set_option maxRecDepth 20000 in
theorem k_X4_99 : CVok RX4 99 mX3_dayWith 3 1 := ⟨cw_X3_dayWith, in_lwg 610 rfl rfl, in_lwg 401 rfl rfl, in_lwg 402 rfl rfl, _, _, rfl⟩
set_option maxRecDepth 20000 in
theorem k_X4_106 : CVok RX4 106 mX4_moveIfGood 4 4 := ⟨cw_X4_moveIfGood, in_lwg 611 rfl rfl, in_lwg 613 rfl rfl, in_lwg 12 rfl rfl, _, _, rfl⟩
set_option maxRecDepth 20000 in
theorem k_X4_110 : CVok RX4 110 mX4_leave 4 2 := ⟨cw_X4_leave, in_lwg 615 rfl rfl, in_lwg 582 rfl rfl, in_lwg 583 rfl rfl, _, _, rfl⟩
set_option maxRecDepth 20000 in
theorem k_X6_201 : CVok RX6 201 mX4_makeFirstGoodTrade 4 0 := ⟨cw_X4_makeFirstGoodTrade, in_lwg 616 rfl rfl, in_lwg 617 rfl rfl, in_lwg 618 rfl rfl, _, _, rfl⟩
set_option maxRecDepth 20000 in
theorem k_L_90 : CVok RL 90 mX6_order 6 0 := ⟨cw_X6_order, in_lwg 620 rfl rfl, in_lwg 621 rfl rfl, in_lwg 622 rfl rfl, _, _, rfl⟩
set_option maxRecDepth 20000 in
theorem k_X6_207 : CVok RX6 207 mX4_takeBestOrder 4 0 := ⟨cw_X4_takeBestOrder, in_lwg 624 rfl rfl, in_lwg 625 rfl rfl, in_lwg 626 rfl rfl, _, _, rfl⟩
set_option maxRecDepth 20000 in
theorem k_X4_113 : CVok RX4 113 mX4_toNextTurns 4 1 := ⟨cw_X4_toNextTurns, in_lwg 628 rfl rfl, in_lwg 630 rfl rfl, in_lwg 13 rfl rfl, _, _, rfl⟩
set_option maxRecDepth 20000 in
theorem k_X4_127 : CVok RX4 127 mX4_swapTurns 4 2 := ⟨cw_X4_swapTurns, in_lwg 632 rfl rfl, in_lwg 634 rfl rfl, in_lwg 14 rfl rfl, _, _, rfl⟩
set_option maxRecDepth 20000 in
theorem k_X4_117 : CVok RX4 117 mX4_giveRows 4 1 := ⟨cw_X4_giveRows, in_lwg 636 rfl rfl, in_lwg 638 rfl rfl, in_lwg 15 rfl rfl, _, _, rfl⟩
set_option maxRecDepth 20000 in
theorem k_L_94 : CVok RL 94 mX6_rain 6 1 := ⟨cw_X6_rain, in_lwg 641 rfl rfl, in_lwg 642 rfl rfl, in_lwg 643 rfl rfl, _, _, rfl⟩
set_option maxRecDepth 20000 in
theorem k_X6_210 : CVok RX6 210 mX4_clearOutScenes 4 1 := ⟨cw_X4_clearOutScenes, in_lwg 645 rfl rfl, in_lwg 646 rfl rfl, in_lwg 647 rfl rfl, _, _, rfl⟩
set_option maxRecDepth 20000 in
theorem k_X4_130 : CSok RX4 130 mX6_hasBit 2 := ⟨cw_X6_hasBit, in_lwg 382 rfl rfl, Or.inr ⟨_, in_lwn 649 rfl rfl⟩⟩
set_option maxRecDepth 20000 in
theorem k_X6_213 : CVok RX6 213 mX4_fillWithIndoorScenes 4 1 := ⟨cw_X4_fillWithIndoorScenes, in_lwg 650 rfl rfl, in_lwg 651 rfl rfl, in_lwg 652 rfl rfl, _, _, rfl⟩
set_option maxRecDepth 20000 in
theorem k_L_98 : CVok RL 98 mX6_change 6 3 := ⟨cw_X6_change, in_lwg 654 rfl rfl, in_lwg 655 rfl rfl, in_lwg 656 rfl rfl, _, _, rfl⟩
set_option maxRecDepth 20000 in
theorem k_X6_216 : CVok RX6 216 mX5_fitsInto 5 2 := ⟨cw_X5_fitsInto, in_lwg 658 rfl rfl, in_lwg 358 rfl rfl, in_lwg 359 rfl rfl, _, _, rfl⟩
set_option maxRecDepth 20000 in
theorem k_L_102 : CVok RL 102 mX6_count 6 1 := ⟨cw_X6_count, in_lwg 659 rfl rfl, in_lwg 660 rfl rfl, in_lwg 661 rfl rfl, _, _, rfl⟩
set_option maxRecDepth 20000 in
theorem k_X6_228 : CVok RX6 228 mX3_scenesInRows 3 0 := ⟨cw_X3_scenesInRows, in_lwg 663 rfl rfl, in_lwg 509 rfl rfl, in_lwg 510 rfl rfl, _, _, rfl⟩
set_option maxRecDepth 20000 in
theorem k_X6_231 : CSok RX6 231 mJ_bitCount 1 := ⟨cw_J_bitCount, in_lwg 665 rfl rfl, Or.inl (in_lwg 664 rfl rfl)⟩
set_option maxRecDepth 20000 in
theorem c_J_265 : Cond.constant "java/lang/Integer" 265 1431655765 ∈ lwg := in_lwg 667 rfl rfl
set_option maxRecDepth 20000 in
theorem c_J_266 : Cond.constant "java/lang/Integer" 266 858993459 ∈ lwg := in_lwg 668 rfl rfl
set_option maxRecDepth 20000 in
theorem c_J_267 : Cond.constant "java/lang/Integer" 267 252645135 ∈ lwg := in_lwg 669 rfl rfl
set_option maxRecDepth 20000 in
theorem k_X6_236 : CVok RX6 236 mX2_scenesAheadOfSome 2 0 := ⟨cw_X2_scenesAheadOfSome, in_lwg 670 rfl rfl, in_lwg 671 rfl rfl, in_lwg 672 rfl rfl, _, _, rfl⟩
set_option maxRecDepth 20000 in
theorem k_L_12 : CIok RL 12 mX7_init 0 := ⟨cw_X7_init, rfl, rfl, in_lwg 677 rfl rfl, Or.inl (in_lwg 676 rfl rfl)⟩
set_option maxRecDepth 20000 in
theorem f_X7_84 : FL RX7 84 7 1 := ⟨_, _, _, _, cl_7, by decide, in_lwg 680 rfl rfl⟩
set_option maxRecDepth 20000 in
theorem f_X7_7 : FL RX7 7 7 2 := ⟨_, _, _, _, cl_7, by decide, in_lwg 681 rfl rfl⟩
set_option maxRecDepth 20000 in
theorem f_X7_13 : FL RX7 13 7 3 := ⟨_, _, _, _, cl_7, by decide, in_lwg 682 rfl rfl⟩
set_option maxRecDepth 20000 in
theorem f_X7_16 : FL RX7 16 7 4 := ⟨_, _, _, _, cl_7, by decide, in_lwg 683 rfl rfl⟩
set_option maxRecDepth 20000 in
theorem f_X7_19 : FL RX7 19 7 5 := ⟨_, _, _, _, cl_7, by decide, in_lwg 684 rfl rfl⟩
set_option maxRecDepth 20000 in
theorem f_X7_23 : FL RX7 23 7 6 := ⟨_, _, _, _, cl_7, by decide, in_lwg 685 rfl rfl⟩
set_option maxRecDepth 20000 in
theorem f_X7_26 : FL RX7 26 7 7 := ⟨_, _, _, _, cl_7, by decide, in_lwg 686 rfl rfl⟩
set_option maxRecDepth 20000 in
theorem f_X7_29 : FL RX7 29 7 8 := ⟨_, _, _, _, cl_7, by decide, in_lwg 687 rfl rfl⟩
set_option maxRecDepth 20000 in
theorem f_X7_32 : FL RX7 32 7 9 := ⟨_, _, _, _, cl_7, by decide, in_lwg 688 rfl rfl⟩
set_option maxRecDepth 20000 in
theorem f_X7_35 : FL RX7 35 7 10 := ⟨_, _, _, _, cl_7, by decide, in_lwg 689 rfl rfl⟩
set_option maxRecDepth 20000 in
theorem f_X7_38 : FL RX7 38 7 11 := ⟨_, _, _, _, cl_7, by decide, in_lwg 690 rfl rfl⟩
set_option maxRecDepth 20000 in
theorem f_X7_41 : FL RX7 41 7 12 := ⟨_, _, _, _, cl_7, by decide, in_lwg 691 rfl rfl⟩
set_option maxRecDepth 20000 in
theorem f_X7_91 : FL RX7 91 7 13 := ⟨_, _, _, _, cl_7, by decide, in_lwg 692 rfl rfl⟩
set_option maxRecDepth 20000 in
theorem f_X7_44 : FL RX7 44 7 14 := ⟨_, _, _, _, cl_7, by decide, in_lwg 693 rfl rfl⟩
set_option maxRecDepth 20000 in
theorem f_X7_47 : FL RX7 47 7 15 := ⟨_, _, _, _, cl_7, by decide, in_lwg 694 rfl rfl⟩
set_option maxRecDepth 20000 in
theorem f_X7_50 : FL RX7 50 7 16 := ⟨_, _, _, _, cl_7, by decide, in_lwg 695 rfl rfl⟩
set_option maxRecDepth 20000 in
theorem f_X7_53 : FL RX7 53 7 17 := ⟨_, _, _, _, cl_7, by decide, in_lwg 696 rfl rfl⟩
set_option maxRecDepth 20000 in
theorem f_X7_56 : FL RX7 56 7 18 := ⟨_, _, _, _, cl_7, by decide, in_lwg 697 rfl rfl⟩
set_option maxRecDepth 20000 in
theorem f_X7_59 : FL RX7 59 7 19 := ⟨_, _, _, _, cl_7, by decide, in_lwg 698 rfl rfl⟩
set_option maxRecDepth 20000 in
theorem f_X7_129 : FL RX7 129 7 20 := ⟨_, _, _, _, cl_7, by decide, in_lwg 699 rfl rfl⟩
set_option maxRecDepth 20000 in
theorem f_X7_62 : FL RX7 62 7 21 := ⟨_, _, _, _, cl_7, by decide, in_lwg 700 rfl rfl⟩
set_option maxRecDepth 20000 in
theorem f_X7_65 : FL RX7 65 7 22 := ⟨_, _, _, _, cl_7, by decide, in_lwg 701 rfl rfl⟩
set_option maxRecDepth 20000 in
theorem f_X7_68 : FL RX7 68 7 23 := ⟨_, _, _, _, cl_7, by decide, in_lwg 702 rfl rfl⟩
set_option maxRecDepth 20000 in
theorem f_X7_71 : FL RX7 71 7 24 := ⟨_, _, _, _, cl_7, by decide, in_lwg 703 rfl rfl⟩
set_option maxRecDepth 20000 in
theorem f_X7_74 : FL RX7 74 7 25 := ⟨_, _, _, _, cl_7, by decide, in_lwg 704 rfl rfl⟩
set_option maxRecDepth 20000 in
theorem f_X7_77 : FL RX7 77 7 26 := ⟨_, _, _, _, cl_7, by decide, in_lwg 705 rfl rfl⟩
set_option maxRecDepth 20000 in
theorem f_X7_201 : FL RX7 201 7 27 := ⟨_, _, _, _, cl_7, by decide, in_lwg 706 rfl rfl⟩
set_option maxRecDepth 20000 in
theorem k_L_17 : CVok RL 17 mX7_scene 7 5 := ⟨cw_X7_scene, in_lwg 765 rfl rfl, in_lwg 766 rfl rfl, in_lwg 767 rfl rfl, _, _, rfl⟩
set_option maxRecDepth 20000 in
theorem k_X7_87 : CSok RX7 87 mX7_in 3 := ⟨cw_X7_in, in_lwg 770 rfl rfl, Or.inl (in_lwg 769 rfl rfl)⟩
set_option maxRecDepth 20000 in
theorem k_L_22 : CVok RL 22 mX7_player 7 3 := ⟨cw_X7_player, in_lwg 772 rfl rfl, in_lwg 773 rfl rfl, in_lwg 774 rfl rfl, _, _, rfl⟩
set_option maxRecDepth 20000 in
theorem k_L_27 : CVok RL 27 mX7_rent 7 2 := ⟨cw_X7_rent, in_lwg 776 rfl rfl, in_lwg 777 rfl rfl, in_lwg 778 rfl rfl, _, _, rfl⟩
set_option maxRecDepth 20000 in
theorem k_L_31 : CVok RL 31 mX7_spot 7 2 := ⟨cw_X7_spot, in_lwg 780 rfl rfl, in_lwg 781 rfl rfl, in_lwg 782 rfl rfl, _, _, rfl⟩
set_option maxRecDepth 20000 in
theorem k_X7_94 : CVok RX7 94 mX7_keeps 7 0 := ⟨cw_X7_keeps, in_lwg 784 rfl rfl, in_lwg 786 rfl rfl, in_lwg 16 rfl rfl, _, _, rfl⟩
set_option maxRecDepth 20000 in
theorem k_X7_117 : CVok RX7 117 mX7_minutesOf 7 1 := ⟨cw_X7_minutesOf, in_lwg 788 rfl rfl, in_lwg 790 rfl rfl, in_lwg 17 rfl rfl, _, _, rfl⟩
set_option maxRecDepth 20000 in
theorem k_X7_109 : CSok RX7 109 mX7_distance 2 := ⟨cw_X7_distance, in_lwg 793 rfl rfl, Or.inl (in_lwg 792 rfl rfl)⟩
set_option maxRecDepth 20000 in
theorem k_X7_120 : CVok RX7 120 mX7_lightOf 7 1 := ⟨cw_X7_lightOf, in_lwg 795 rfl rfl, in_lwg 797 rfl rfl, in_lwg 18 rfl rfl, _, _, rfl⟩
set_option maxRecDepth 20000 in
theorem k_X7_123 : CVok RX7 123 mX7_has 7 2 := ⟨cw_X7_has, in_lwg 799 rfl rfl, in_lwg 801 rfl rfl, in_lwg 19 rfl rfl, _, _, rfl⟩
set_option maxRecDepth 20000 in
theorem k_X7_126 : CVok RX7 126 mX7_isOrdered 7 1 := ⟨cw_X7_isOrdered, in_lwg 803 rfl rfl, in_lwg 805 rfl rfl, in_lwg 20 rfl rfl, _, _, rfl⟩
set_option maxRecDepth 20000 in
theorem k_X7_113 : CVok RX7 113 mX7_placeIn 7 1 := ⟨cw_X7_placeIn, in_lwg 807 rfl rfl, in_lwg 809 rfl rfl, in_lwg 21 rfl rfl, _, _, rfl⟩
set_option maxRecDepth 20000 in
theorem k_L_35 : CVok RL 35 mX7_ahead 7 2 := ⟨cw_X7_ahead, in_lwg 811 rfl rfl, in_lwg 812 rfl rfl, in_lwg 813 rfl rfl, _, _, rfl⟩
set_option maxRecDepth 20000 in
theorem k_X7_98 : CVok RX7 98 mX7_isScene 7 1 := ⟨cw_X7_isScene, in_lwg 815 rfl rfl, in_lwg 817 rfl rfl, in_lwg 22 rfl rfl, _, _, rfl⟩
set_option maxRecDepth 20000 in
theorem k_X7_102 : CVok RX7 102 mX7_mustBe 7 2 := ⟨cw_X7_mustBe, in_lwg 819 rfl rfl, in_lwg 821 rfl rfl, in_lwg 23 rfl rfl, _, _, rfl⟩
set_option maxRecDepth 20000 in
theorem k_L_39 : CVok RL 39 mX7_day 7 2 := ⟨cw_X7_day, in_lwg 823 rfl rfl, in_lwg 824 rfl rfl, in_lwg 825 rfl rfl, _, _, rfl⟩
set_option maxRecDepth 20000 in
theorem k_L_101 : CVok RL 101 mX7_change 7 3 := ⟨cw_X7_change, in_lwg 827 rfl rfl, in_lwg 828 rfl rfl, in_lwg 829 rfl rfl, _, _, rfl⟩
set_option maxRecDepth 20000 in
theorem k_X7_106 : CVok RX7 106 mX7_isDay 7 1 := ⟨cw_X7_isDay, in_lwg 831 rfl rfl, in_lwg 833 rfl rfl, in_lwg 24 rfl rfl, _, _, rfl⟩
set_option maxRecDepth 20000 in
theorem k_L_69 : CVok RL 69 mX7_may 7 2 := ⟨cw_X7_may, in_lwg 835 rfl rfl, in_lwg 836 rfl rfl, in_lwg 837 rfl rfl, _, _, rfl⟩
set_option maxRecDepth 20000 in
theorem k_X7_140 : CVok RX7 140 mX7_keepAll 7 0 := ⟨cw_X7_keepAll, in_lwg 839 rfl rfl, in_lwg 841 rfl rfl, in_lwg 25 rfl rfl, _, _, rfl⟩
set_option maxRecDepth 20000 in
theorem k_X7_143 : CVok RX7 143 mX7_puts 7 2 := ⟨cw_X7_puts, in_lwg 843 rfl rfl, in_lwg 845 rfl rfl, in_lwg 26 rfl rfl, _, _, rfl⟩
set_option maxRecDepth 20000 in
theorem k_X7_137 : CVok RX7 137 mX7_arranges 7 1 := ⟨cw_X7_arranges, in_lwg 847 rfl rfl, in_lwg 849 rfl rfl, in_lwg 27 rfl rfl, _, _, rfl⟩
set_option maxRecDepth 20000 in
theorem c_X7_136 : Cond.constant RX7 136 100000 ∈ lwg := in_lwg 851 rfl rfl
set_option maxRecDepth 20000 in
theorem k_X7_132 : CVok RX7 132 mX7_tries 7 3 := ⟨cw_X7_tries, in_lwg 852 rfl rfl, in_lwg 854 rfl rfl, in_lwg 28 rfl rfl, _, _, rfl⟩
set_option maxRecDepth 20000 in
theorem k_X7_146 : CVok RX7 146 mX7_backAll 7 0 := ⟨cw_X7_backAll, in_lwg 856 rfl rfl, in_lwg 858 rfl rfl, in_lwg 29 rfl rfl, _, _, rfl⟩
set_option maxRecDepth 20000 in
theorem k_L_73 : CVok RL 73 mX7_put 7 2 := ⟨cw_X7_put, in_lwg 860 rfl rfl, in_lwg 861 rfl rfl, in_lwg 862 rfl rfl, _, _, rfl⟩
set_option maxRecDepth 20000 in
theorem k_X7_149 : CVok RX7 149 mX7_may 7 2 := ⟨cw_X7_may, in_lwg 864 rfl rfl, in_lwg 836 rfl rfl, in_lwg 837 rfl rfl, _, _, rfl⟩
set_option maxRecDepth 20000 in
theorem k_L_77 : CVok RL 77 mX7_take 7 1 := ⟨cw_X7_take, in_lwg 865 rfl rfl, in_lwg 866 rfl rfl, in_lwg 867 rfl rfl, _, _, rfl⟩
set_option maxRecDepth 20000 in
theorem k_X7_152 : CVok RX7 152 mX7_takes 7 1 := ⟨cw_X7_takes, in_lwg 869 rfl rfl, in_lwg 871 rfl rfl, in_lwg 30 rfl rfl, _, _, rfl⟩
set_option maxRecDepth 20000 in
theorem k_L_81 : CVok RL 81 mX7_tidy 7 1 := ⟨cw_X7_tidy, in_lwg 873 rfl rfl, in_lwg 874 rfl rfl, in_lwg 875 rfl rfl, _, _, rfl⟩
set_option maxRecDepth 20000 in
theorem k_L_85 : CVok RL 85 mX7_trade 7 2 := ⟨cw_X7_trade, in_lwg 877 rfl rfl, in_lwg 878 rfl rfl, in_lwg 879 rfl rfl, _, _, rfl⟩
set_option maxRecDepth 20000 in
theorem k_X7_156 : CVok RX7 156 mX7_trades 7 2 := ⟨cw_X7_trades, in_lwg 881 rfl rfl, in_lwg 883 rfl rfl, in_lwg 31 rfl rfl, _, _, rfl⟩
set_option maxRecDepth 20000 in
theorem k_X7_160 : CVok RX7 160 mX7_costAll 7 0 := ⟨cw_X7_costAll, in_lwg 885 rfl rfl, in_lwg 887 rfl rfl, in_lwg 32 rfl rfl, _, _, rfl⟩
set_option maxRecDepth 20000 in
theorem k_X7_180 : CVok RX7 180 mX7_payAll 7 0 := ⟨cw_X7_payAll, in_lwg 889 rfl rfl, in_lwg 891 rfl rfl, in_lwg 33 rfl rfl, _, _, rfl⟩
set_option maxRecDepth 20000 in
theorem k_X7_171 : CVok RX7 171 mX7_paid 7 1 := ⟨cw_X7_paid, in_lwg 893 rfl rfl, in_lwg 895 rfl rfl, in_lwg 34 rfl rfl, _, _, rfl⟩
set_option maxRecDepth 20000 in
theorem k_X7_167 : CVok RX7 167 mX7_edge 7 2 := ⟨cw_X7_edge, in_lwg 897 rfl rfl, in_lwg 899 rfl rfl, in_lwg 35 rfl rfl, _, _, rfl⟩
set_option maxRecDepth 20000 in
theorem k_X7_164 : CVok RX7 164 mX7_plays 7 2 := ⟨cw_X7_plays, in_lwg 901 rfl rfl, in_lwg 903 rfl rfl, in_lwg 36 rfl rfl, _, _, rfl⟩
set_option maxRecDepth 20000 in
theorem k_X7_183 : CVok RX7 183 mX7_rentAll 7 0 := ⟨cw_X7_rentAll, in_lwg 905 rfl rfl, in_lwg 907 rfl rfl, in_lwg 37 rfl rfl, _, _, rfl⟩
set_option maxRecDepth 20000 in
theorem k_X7_174 : CVok RX7 174 mX7_uses 7 2 := ⟨cw_X7_uses, in_lwg 909 rfl rfl, in_lwg 911 rfl rfl, in_lwg 38 rfl rfl, _, _, rfl⟩
set_option maxRecDepth 20000 in
theorem k_X7_186 : CVok RX7 186 mX7_overAll 7 0 := ⟨cw_X7_overAll, in_lwg 913 rfl rfl, in_lwg 915 rfl rfl, in_lwg 39 rfl rfl, _, _, rfl⟩
set_option maxRecDepth 20000 in
theorem k_X7_177 : CVok RX7 177 mX7_over 7 1 := ⟨cw_X7_over, in_lwg 917 rfl rfl, in_lwg 919 rfl rfl, in_lwg 40 rfl rfl, _, _, rfl⟩
set_option maxRecDepth 20000 in
theorem k_L_60 : CVok RL 60 mX7_cost 7 1 := ⟨cw_X7_cost, in_lwg 921 rfl rfl, in_lwg 922 rfl rfl, in_lwg 923 rfl rfl, _, _, rfl⟩
set_option maxRecDepth 20000 in
theorem k_L_65 : CVok RL 65 mX7_below 7 0 := ⟨cw_X7_below, in_lwg 925 rfl rfl, in_lwg 926 rfl rfl, in_lwg 927 rfl rfl, _, _, rfl⟩
set_option maxRecDepth 20000 in
theorem k_L_55 : CVok RL 55 mX7_held 7 2 := ⟨cw_X7_held, in_lwg 929 rfl rfl, in_lwg 930 rfl rfl, in_lwg 931 rfl rfl, _, _, rfl⟩
set_option maxRecDepth 20000 in
theorem k_X7_189 : CVok RX7 189 mX7_daysOf 7 1 := ⟨cw_X7_daysOf, in_lwg 933 rfl rfl, in_lwg 935 rfl rfl, in_lwg 41 rfl rfl, _, _, rfl⟩
set_option maxRecDepth 20000 in
theorem k_L_89 : CVok RL 89 mX7_better 7 0 := ⟨cw_X7_better, in_lwg 937 rfl rfl, in_lwg 938 rfl rfl, in_lwg 939 rfl rfl, _, _, rfl⟩
set_option maxRecDepth 20000 in
theorem k_X7_195 : CVok RX7 195 mX7_betters 7 0 := ⟨cw_X7_betters, in_lwg 941 rfl rfl, in_lwg 943 rfl rfl, in_lwg 42 rfl rfl, _, _, rfl⟩
set_option maxRecDepth 20000 in
theorem k_X7_192 : CVok RX7 192 mX7_movesWell 7 3 := ⟨cw_X7_movesWell, in_lwg 945 rfl rfl, in_lwg 947 rfl rfl, in_lwg 43 rfl rfl, _, _, rfl⟩
set_option maxRecDepth 20000 in
theorem k_L_93 : CVok RL 93 mX7_order 7 0 := ⟨cw_X7_order, in_lwg 949 rfl rfl, in_lwg 950 rfl rfl, in_lwg 951 rfl rfl, _, _, rfl⟩
set_option maxRecDepth 20000 in
theorem k_X7_204 : CVok RX7 204 mX7_gives 7 2 := ⟨cw_X7_gives, in_lwg 953 rfl rfl, in_lwg 955 rfl rfl, in_lwg 44 rfl rfl, _, _, rfl⟩
set_option maxRecDepth 20000 in
theorem k_X7_198 : CVok RX7 198 mX7_lays 7 0 := ⟨cw_X7_lays, in_lwg 957 rfl rfl, in_lwg 959 rfl rfl, in_lwg 45 rfl rfl, _, _, rfl⟩
set_option maxRecDepth 20000 in
theorem k_L_97 : CVok RL 97 mX7_rain 7 1 := ⟨cw_X7_rain, in_lwg 961 rfl rfl, in_lwg 962 rfl rfl, in_lwg 963 rfl rfl, _, _, rfl⟩
set_option maxRecDepth 20000 in
theorem k_L_43 : CVok RL 43 mX7_about 7 2 := ⟨cw_X7_about, in_lwg 965 rfl rfl, in_lwg 966 rfl rfl, in_lwg 967 rfl rfl, _, _, rfl⟩
set_option maxRecDepth 20000 in
theorem k_L_47 : CVok RL 47 mX7_row 7 2 := ⟨cw_X7_row, in_lwg 969 rfl rfl, in_lwg 970 rfl rfl, in_lwg 971 rfl rfl, _, _, rfl⟩
set_option maxRecDepth 20000 in
theorem k_L_51 : CVok RL 51 mX7_of 7 2 := ⟨cw_X7_of, in_lwg 973 rfl rfl, in_lwg 974 rfl rfl, in_lwg 975 rfl rfl, _, _, rfl⟩
set_option maxRecDepth 20000 in
theorem k_L_105 : CVok RL 105 mX7_count 7 1 := ⟨cw_X7_count, in_lwg 977 rfl rfl, in_lwg 978 rfl rfl, in_lwg 979 rfl rfl, _, _, rfl⟩
set_option maxRecDepth 20000 in
theorem l_L_7 : Cond.classLink RL 7 RX6 ∈ lwg := in_lwg 58 rfl rfl
set_option maxRecDepth 20000 in
theorem n_L_7 : NWok RL 7 6 4 [.null, .null, .null, .null] := ⟨_, _, _, cl_6, l_L_7, in_lwg 59 rfl rfl, in_lwg 47 rfl rfl, fun j hj => (match j, hj with | 0, _ => rfl | 1, _ => rfl | 2, _ => rfl | 3, _ => rfl | k + 4, h => absurd h (by omega)), fun _ => rfl⟩
set_option maxRecDepth 20000 in
theorem l_X6_7 : Cond.classLink RX6 7 RX2 ∈ lwg := in_lwg 66 rfl rfl
set_option maxRecDepth 20000 in
theorem n_X6_7 : NWok RX6 7 2 11 [.null, .null, .null, .null, .null, .null, .null, .null, .null, .null, .int 0] := ⟨_, _, _, cl_2, l_X6_7, in_lwg 67 rfl rfl, in_lwg 48 rfl rfl, fun j hj => (match j, hj with | 0, _ => rfl | 1, _ => rfl | 2, _ => rfl | 3, _ => rfl | 4, _ => rfl | 5, _ => rfl | 6, _ => rfl | 7, _ => rfl | 8, _ => rfl | 9, _ => rfl | 10, _ => rfl | k + 11, h => absurd h (by omega)), fun _ => rfl⟩
set_option maxRecDepth 20000 in
theorem l_X6_16 : Cond.classLink RX6 16 RX3 ∈ lwg := in_lwg 133 rfl rfl
set_option maxRecDepth 20000 in
theorem n_X6_16 : NWok RX6 16 3 5 [.null, .null, .null, .null, .int 0] := ⟨_, _, _, cl_3, l_X6_16, in_lwg 134 rfl rfl, in_lwg 49 rfl rfl, fun j hj => (match j, hj with | 0, _ => rfl | 1, _ => rfl | 2, _ => rfl | 3, _ => rfl | 4, _ => rfl | k + 5, h => absurd h (by omega)), fun _ => rfl⟩
set_option maxRecDepth 20000 in
theorem l_X3_9 : Cond.classLink RX3 9 RX5 ∈ lwg := in_lwg 139 rfl rfl
set_option maxRecDepth 20000 in
theorem n_X3_9 : NWok RX3 9 5 10 [.null, .int 0, .int 0, .int 0, .int 0, .int 0, .int 0, .int 0, .int 0, .int 0] := ⟨_, _, _, cl_5, l_X3_9, in_lwg 141 rfl rfl, in_lwg 50 rfl rfl, fun j hj => (match j, hj with | 0, _ => rfl | 1, _ => rfl | 2, _ => rfl | 3, _ => rfl | 4, _ => rfl | 5, _ => rfl | 6, _ => rfl | 7, _ => rfl | 8, _ => rfl | 9, _ => rfl | k + 10, h => absurd h (by omega)), fun _ => rfl⟩
set_option maxRecDepth 20000 in
theorem l_X6_25 : Cond.classLink RX6 25 RX1 ∈ lwg := in_lwg 217 rfl rfl
set_option maxRecDepth 20000 in
theorem n_X6_25 : NWok RX6 25 1 2 [.null, .null] := ⟨_, _, _, cl_1, l_X6_25, in_lwg 218 rfl rfl, in_lwg 51 rfl rfl, fun j hj => (match j, hj with | 0, _ => rfl | 1, _ => rfl | k + 2, h => absurd h (by omega)), fun _ => rfl⟩
set_option maxRecDepth 20000 in
theorem l_X6_34 : Cond.classLink RX6 34 RX4 ∈ lwg := in_lwg 230 rfl rfl
set_option maxRecDepth 20000 in
theorem n_X6_34 : NWok RX6 34 4 7 [.null, .null, .null, .null, .null, .null, .null] := ⟨_, _, _, cl_4, l_X6_34, in_lwg 231 rfl rfl, in_lwg 52 rfl rfl, fun j hj => (match j, hj with | 0, _ => rfl | 1, _ => rfl | 2, _ => rfl | 3, _ => rfl | 4, _ => rfl | 5, _ => rfl | 6, _ => rfl | k + 7, h => absurd h (by omega)), fun _ => rfl⟩
set_option maxRecDepth 20000 in
theorem l_X4_9 : Cond.classLink RX4 9 RX5 ∈ lwg := in_lwg 236 rfl rfl
set_option maxRecDepth 20000 in
theorem n_X4_9 : NWok RX4 9 5 10 [.null, .int 0, .int 0, .int 0, .int 0, .int 0, .int 0, .int 0, .int 0, .int 0] := ⟨_, _, _, cl_5, l_X4_9, in_lwg 141 rfl rfl, in_lwg 50 rfl rfl, fun j hj => (match j, hj with | 0, _ => rfl | 1, _ => rfl | 2, _ => rfl | 3, _ => rfl | 4, _ => rfl | 5, _ => rfl | 6, _ => rfl | 7, _ => rfl | 8, _ => rfl | 9, _ => rfl | k + 10, h => absurd h (by omega)), fun _ => rfl⟩
set_option maxRecDepth 20000 in
theorem l_X4_36 : Cond.classLink RX4 36 RX0 ∈ lwg := in_lwg 237 rfl rfl
set_option maxRecDepth 20000 in
theorem n_X4_36 : NWok RX4 36 0 7 [.null, .null, .null, .null, .int 0, .int 0, .int 0] := ⟨_, _, _, cl_0, l_X4_36, in_lwg 238 rfl rfl, in_lwg 53 rfl rfl, fun j hj => (match j, hj with | 0, _ => rfl | 1, _ => rfl | 2, _ => rfl | 3, _ => rfl | 4, _ => rfl | 5, _ => rfl | 6, _ => rfl | k + 7, h => absurd h (by omega)), fun _ => rfl⟩
set_option maxRecDepth 20000 in
theorem l_L_10 : Cond.classLink RL 10 RX7 ∈ lwg := in_lwg 674 rfl rfl
set_option maxRecDepth 20000 in
theorem n_L_10 : NWok RL 10 7 28 [.int 0, .int 0, .null, .null, .null, .null, .null, .null, .null, .null, .null, .null, .null, .int 0, .null, .null, .null, .null, .null, .null, .int 0, .null, .null, .null, .null, .null, .null, .int 0] := ⟨_, _, _, cl_7, l_L_10, in_lwg 675 rfl rfl, in_lwg 54 rfl rfl, fun j hj => (match j, hj with | 0, _ => rfl | 1, _ => rfl | 2, _ => rfl | 3, _ => rfl | 4, _ => rfl | 5, _ => rfl | 6, _ => rfl | 7, _ => rfl | 8, _ => rfl | 9, _ => rfl | 10, _ => rfl | 11, _ => rfl | 12, _ => rfl | 13, _ => rfl | 14, _ => rfl | 15, _ => rfl | 16, _ => rfl | 17, _ => rfl | 18, _ => rfl | 19, _ => rfl | 20, _ => rfl | 21, _ => rfl | 22, _ => rfl | 23, _ => rfl | 24, _ => rfl | 25, _ => rfl | 26, _ => rfl | 27, _ => rfl | k + 28, h => absurd h (by omega)), fun _ => rfl⟩
set_option maxRecDepth 20000 in
theorem w_ai : Cond.arrayClass .int ∈ lwg := in_lwg 132 rfl rfl
set_option maxRecDepth 20000 in
theorem w_az : Cond.arrayClass .boolean ∈ lwg := in_lwg 764 rfl rfl
set_option maxRecDepth 20000 in
theorem o_X6_1 : Cond.methodLink RX6 1 Lib.objectInit ∈ lwg := in_lwg 63 rfl rfl
set_option maxRecDepth 20000 in
theorem o_inst : Cond.instanceMethod Lib.objectInit ∈ lwg := in_lwg 64 rfl rfl
set_option maxRecDepth 20000 in
theorem o_code : Cond.code Lib.objectInit ⟨#[0xb1]⟩ 1 none ∈ lwg := in_lwg 65 rfl rfl
set_option maxRecDepth 20000 in
theorem o_X2_3 : Cond.methodLink RX2 3 Lib.objectInit ∈ lwg := in_lwg 71 rfl rfl
set_option maxRecDepth 20000 in
theorem o_X3_3 : Cond.methodLink RX3 3 Lib.objectInit ∈ lwg := in_lwg 138 rfl rfl
set_option maxRecDepth 20000 in
theorem o_X5_3 : Cond.methodLink RX5 3 Lib.objectInit ∈ lwg := in_lwg 145 rfl rfl
set_option maxRecDepth 20000 in
theorem o_X1_3 : Cond.methodLink RX1 3 Lib.objectInit ∈ lwg := in_lwg 222 rfl rfl
set_option maxRecDepth 20000 in
theorem o_X4_3 : Cond.methodLink RX4 3 Lib.objectInit ∈ lwg := in_lwg 235 rfl rfl
set_option maxRecDepth 20000 in
theorem o_X0_3 : Cond.methodLink RX0 3 Lib.objectInit ∈ lwg := in_lwg 242 rfl rfl
set_option maxRecDepth 20000 in
theorem a_X0_67 : Cond.methodLink RX0 67 arraycopyName ∈ lwg := in_lwg 550 rfl rfl
set_option maxRecDepth 20000 in
theorem a_static : Cond.static arraycopyName ∈ lwg := in_lwg 551 rfl rfl
set_option maxRecDepth 20000 in
theorem a_native : Cond.native arraycopyName ∈ lwg := in_lwg 552 rfl rfl
set_option maxRecDepth 20000 in
theorem a_X4_121 : Cond.methodLink RX4 121 arraycopyName ∈ lwg := in_lwg 640 rfl rfl
set_option maxRecDepth 20000 in
theorem o_X7_1 : Cond.methodLink RX7 1 Lib.objectInit ∈ lwg := in_lwg 679 rfl rfl
set_option maxRecDepth 20000 in
theorem a_init : Cond.initialized "java/lang/System" ∈ lwg := in_lwg 56 rfl rfl
