/-! tables: classes, methods, pool entries, by numbers; the words are those of lw_tbl -/
def lw_g : List Cond := lw_tbl.filter goodWord
theorem lw_gi {w : Cond} (h : w ∈ lw_tbl) (hg : goodWord w = true) : w ∈ lw_g := List.mem_filter.mpr ⟨h, hg⟩
theorem lw_gG : ∀ w ∈ lw_g, w ∈ lw_tbl ∧ goodWord w = true := fun _ h => List.mem_filter.mp h
theorem by_pos {α : Type} (l : List α) (ps : List Nat) (w : α → Cond) (big : List Cond) (h : l.map (fun q => some (w q)) = ps.map (fun i => big[i]?)) : ∀ q ∈ l, w q ∈ big := by
  intro q hq
  have h1 : some (w q) ∈ l.map (fun q => some (w q)) := List.mem_map.mpr ⟨q, hq, rfl⟩
  rw [h] at h1
  obtain ⟨i, -, hi⟩ := List.mem_map.mp h1
  exact List.mem_of_getElem? hi
def cN (i : Nat) : String := [RX0, RX1, RX2, RX3, RX4, RX5, RX6, RX7, RX8, RX9, RX10, RL, RJ6, RJ9, RJ10].getD i ""
def cT (i : Nat) : u_T := [TX0, TX1, TX2, TX3, TX4, TX5, TX6, TX7, TX8, TX9, TX10].getD i TX0
def cF (i : Nat) : Nat := [7, 3, 1, 1, 6, 12, 5, 11, 12, 11, 25].getD i 0
def cTy (i : Nat) : Nat → FieldType := [tyX0, tyX1, tyX2, tyX3, tyX4, tyX5, tyX6, tyX7, tyX8, tyX9, tyX10].getD i tyX0
/-- kinds of fields: 0 int, 1 long, 2 a reference, 3 boolean -/
def cK (i : Nat) : List Nat := [[2, 2, 2, 0, 0, 0, 0], [2, 0, 0], [1], [2], [0, 0, 0, 0, 0, 2], [2, 2, 2, 2, 2, 2, 2, 2, 1, 0, 0, 2], [2, 2, 0, 0, 2], [2, 0, 2, 0, 0, 0, 0, 0, 3, 3, 3], [0, 2, 2, 2, 0, 2, 2, 2, 2, 0, 0, 0], [2, 2, 2, 2, 2, 0, 2, 2, 2, 2, 2], [1, 2, 0, 2, 2, 2, 2, 0, 2, 2, 2, 0, 2, 0, 0, 0, 0, 0, 2, 0, 2, 2, 2, 2, 2]].getD i []
abbrev mRow : Type := MethodName × ByteArray × Nat × Option FieldType × Nat × Nat × Nat
/-- name, code, locals, answer, class, kind (0 virtual, 1 static, 2 <init>, 9 the law), arguments -/
def mTab0 : List mRow := [(yX0_init, cX0_init, 1, none, 0, 2, 0), (yX0_add, cX0_add, 3, (some .int), 0, 0, 2), (yX0_weigh, cX0_weigh, 3, none, 0, 0, 1), (yX0_nextToAsk, cX0_nextToAsk, 6, (some .int), 0, 0, 1), (yX0_agrees, cX0_agrees, 3, (some .boolean), 0, 0, 1), (yX0_countNamesOf, cX0_countNamesOf, 4, none, 0, 0, 2), (yX1_init, cX1_init, 2, none, 1, 2, 0), (yX1_remember, cX1_remember, 2, none, 1, 0, 1), (yX1_takeBack, cX1_takeBack, 2, none, 1, 0, 1), (yX1_forgetAll, cX1_forgetAll, 1, none, 1, 0, 0), (yX2_init, cX2_init, 1, none, 2, 2, 0), (yX2_worth, cX2_worth, 5, (some .int), 2, 0, 4), (yX2_askBody, cX2_askBody, 6, (some .int), 2, 0, 4), (yX3_init, cX3_init, 1, none, 3, 2, 0), (yX3_harm, cX3_harm, 8, (some .int), 3, 0, 3), (yX3_best, cX3_best, 7, (some .int), 3, 0, 2), (yX3_grazers, cX3_grazers, 6, (some .int), 3, 0, 2), (yX3_mostTired, cX3_mostTired, 7, (some .int), 3, 0, 3), (yX4_init, cX4_init, 1, none, 4, 2, 0), (yX4_begin, cX4_begin, 2, none, 4, 0, 1), (yX4_become, cX4_become, 2, none, 4, 0, 1), (yX4_grazes, cX4_grazes, 2, (some .boolean), 4, 0, 1), (yX4_isLost, cX4_isLost, 2, (some .boolean), 4, 0, 1), (yX4_isMet, cX4_isMet, 2, (some .boolean), 4, 0, 1), (yX4_bears, cX4_bears, 4, (some .boolean), 4, 0, 3), (yX4_rest, cX4_rest, 3, none, 4, 0, 2), (yX4_goBy, cX4_goBy, 5, (some .int), 4, 0, 2), (yX4_draw, cX4_draw, 5, (some .int), 4, 0, 2), (yX4_live, cX4_live, 8, (some .int), 4, 0, 4), (yX5_init, cX5_init, 1, none, 5, 2, 0), (yX5_make, cX5_make, 5, none, 5, 0, 3), (yX5_weigh, cX5_weigh, 10, (some .int), 5, 0, 4), (yX5_leastOfSmaller, cX5_leastOfSmaller, 4, (some .int), 5, 0, 1), (yX5_harmOf, cX5_harmOf, 8, (some .int), 5, 0, 5), (yX5_choose, cX5_choose, 6, none, 5, 0, 3), (yX5_wasReached, cX5_wasReached, 7, (some .boolean), 5, 0, 3), (yX5_inFourBits, cX5_inFourBits, 1, (some .int), 5, 1, 1), (yX6_init, cX6_init, 1, none, 6, 2, 0), (yX6_add, cX6_add, 2, (some .int), 6, 0, 1), (yX6_weigh, cX6_weigh, 4, none, 6, 0, 2)]
def mTab1 : List mRow := [(yX6_assign, cX6_assign, 6, none, 6, 0, 3), (yX6_noteWay, cX6_noteWay, 2, none, 6, 0, 0), (yX7_init, cX7_init, 1, none, 7, 2, 0), (yX7_add, cX7_add, 2, (some .int), 7, 0, 1), (yX7_read, cX7_read, 2, (some .int), 7, 0, 0), (yX7_readItem, cX7_readItem, 2, none, 7, 0, 0), (yX7_mayBegin, cX7_mayBegin, 2, (some .boolean), 7, 0, 1), (yX7_readName, cX7_readName, 2, none, 7, 0, 0), (yX7_readAct, cX7_readAct, 2, none, 7, 0, 0), (yX7_readSetting, cX7_readSetting, 2, none, 7, 0, 1), (yX7_readNumber, cX7_readNumber, 4, (some .int), 7, 0, 2), (yX7_nextToken, cX7_nextToken, 2, none, 7, 0, 0), (yX7_takeNumber, cX7_takeNumber, 3, none, 7, 0, 0), (yX7_isDigit, cX7_isDigit, 1, (some .boolean), 7, 1, 1), (yX7_isLetterOfItems, cX7_isLetterOfItems, 1, (some .boolean), 7, 1, 1), (yX8_init, cX8_init, 1, none, 8, 2, 0), (yX8_begin, cX8_begin, 1, none, 8, 0, 0), (yX9_init, cX9_init, 2, none, 9, 2, 0), (yX9_type, cX9_type, 2, (some .int), 9, 0, 1), (yX9_clear, cX9_clear, 2, (some .int), 9, 0, 0), (yX9_meadow, cX9_meadow, 3, (some .int), 9, 0, 0), (yX9_name, cX9_name, 3, (some .int), 9, 0, 2), (yX9_act, cX9_act, 3, (some .int), 9, 0, 2), (yX9_now, cX9_now, 2, (some .int), 9, 0, 1), (yX9_sends, cX9_sends, 2, (some .int), 9, 0, 1), (yX9_calls, cX9_calls, 2, (some .int), 9, 0, 1), (yX9_acts, cX9_acts, 3, (some .int), 9, 0, 1), (yX9_month, cX9_month, 2, (some .int), 9, 0, 1), (yX9_undo, cX9_undo, 1, (some .int), 9, 0, 0), (yX9_plan, cX9_plan, 3, (some .int), 9, 0, 2), (yX9_law, cX9_law, 2, (some .int), 9, 0, 1), (yX9_mean, cX9_mean, 4, (some .int), 9, 0, 1), (yX9_home, cX9_home, 10, (some .int), 9, 0, 4), (yX9_saw, cX9_saw, 2, (some .int), 9, 0, 1), (yX9_stray, cX9_stray, 2, (some .int), 9, 0, 1), (yX9_found, cX9_found, 3, (some .int), 9, 0, 2), (yX9_can, cX9_can, 2, (some .int), 9, 0, 1), (yX9_ask, cX9_ask, 1, (some .int), 9, 0, 0), (yX9_forget, cX9_forget, 2, (some .int), 9, 0, 0), (yX9_rate, cX9_rate, 3, (some .int), 9, 0, 2)]
def mTab2 : List mRow := [(yX9_keep, cX9_keep, 2, (some .int), 9, 0, 1), (yX9_back, cX9_back, 2, (some .int), 9, 0, 1), (yX9_count, cX9_count, 2, (some .int), 9, 0, 1), (yX9_trace, cX9_trace, 1, (some .long), 9, 0, 0), (yX9_isName, cX9_isName, 2, (some .boolean), 9, 0, 1), (yX9_isAct, cX9_isAct, 2, (some .boolean), 9, 0, 1), (yX9_partInLeastTerms, cX9_partInLeastTerms, 5, (some .int), 9, 1, 3), (yX9_commonDivisor, cX9_commonDivisor, 6, (some .int), 9, 1, 2), (yX9_power, cX9_power, 4, (some .int), 9, 1, 2), (yX10_init, cX10_init, 1, none, 10, 2, 0), (yX10_in, cX10_in, 3, (some .boolean), 10, 1, 3), (yX10_has, cX10_has, 2, (some .boolean), 10, 1, 2), (yX10_isName, cX10_isName, 2, (some .boolean), 10, 0, 1), (yX10_ones, cX10_ones, 3, (some .int), 10, 1, 1), (yX10_type, cX10_type, 2, (some .int), 10, 0, 1), (yX10_clear, cX10_clear, 2, (some .int), 10, 0, 0), (yX10_letterAt, cX10_letterAt, 2, (some .int), 10, 0, 1), (yX10_isDigit, cX10_isDigit, 1, (some .boolean), 10, 1, 1), (yX10_isWord, cX10_isWord, 1, (some .boolean), 10, 1, 1), (yX10_token, cX10_token, 2, none, 10, 0, 0), (yX10_number, cX10_number, 4, (some .boolean), 10, 0, 3), (yX10_once, cX10_once, 5, (some .boolean), 10, 0, 4), (yX10_readsItem, cX10_readsItem, 3, (some .boolean), 10, 0, 0), (yX10_reads, cX10_reads, 2, (some .boolean), 10, 0, 0), (yX10_begins, cX10_begins, 2, none, 10, 0, 0), (yX10_meadow, cX10_meadow, 1, (some .int), 10, 0, 0), (yX10_name, cX10_name, 3, (some .int), 10, 0, 2), (yX10_act, cX10_act, 3, (some .int), 10, 0, 2), (yX10_keeps, cX10_keeps, 2, none, 10, 0, 0), (yX10_sends, cX10_sends, 2, (some .int), 10, 0, 1), (yX10_calls, cX10_calls, 2, (some .int), 10, 0, 1), (yX10_acts, cX10_acts, 3, (some .int), 10, 0, 1), (yX10_rested, cX10_rested, 2, (some .int), 10, 0, 1), (yX10_month, cX10_month, 6, (some .int), 10, 0, 1), (yX10_undo, cX10_undo, 2, (some .int), 10, 0, 0), (yX10_tires, cX10_tires, 2, none, 10, 0, 0), (yX10_goes, cX10_goes, 6, none, 10, 0, 3), (yX10_reckons, cX10_reckons, 6, none, 10, 0, 1), (yX10_may, cX10_may, 8, (some .boolean), 10, 0, 3), (yX10_plans, cX10_plans, 6, (some .int), 10, 0, 1)]
def mTab3 : List mRow := [(yX10_plan, cX10_plan, 4, (some .int), 10, 0, 2), (yX10_lawOf, cX10_lawOf, 8, (some .int), 10, 0, 1), (yX10_law, cX10_law, 2, (some .int), 10, 0, 1), (yX10_bestLaw, cX10_bestLaw, 3, (some .int), 10, 0, 0), (yX10_now, cX10_now, 2, (some .int), 10, 0, 1), (yX10_lowest, cX10_lowest, 6, (some .int), 10, 1, 3), (yX10_mean, cX10_mean, 4, (some .int), 10, 0, 1), (yX10_home, cX10_home, 12, (some .int), 10, 0, 4), (yX10_saw, cX10_saw, 2, (some .int), 10, 0, 1), (yX10_isLike, cX10_isLike, 3, (some .boolean), 10, 0, 2), (yX10_waysBut, cX10_waysBut, 7, (some .int), 10, 0, 2), (yX10_stray, cX10_stray, 5, (some .int), 10, 0, 1), (yX10_found, cX10_found, 3, (some .int), 10, 0, 2), (yX10_isSo, cX10_isSo, 4, (some .boolean), 10, 0, 1), (yX10_manyWith, cX10_manyWith, 4, (some .int), 10, 0, 1), (yX10_can, cX10_can, 7, (some .int), 10, 0, 1), (yX10_ask, cX10_ask, 7, (some .int), 10, 0, 0), (yX10_forget, cX10_forget, 2, (some .int), 10, 0, 0), (yX10_rate, cX10_rate, 6, (some .int), 10, 0, 2), (yX10_keep, cX10_keep, 3, (some .int), 10, 0, 1), (yX10_back, cX10_back, 3, (some .int), 10, 0, 1), (yX10_count, cX10_count, 2, (some .int), 10, 0, 1), (yX10_trace, cX10_trace, 1, (some .long), 10, 0, 0), (yJ6_bitCount_0f7a4, cJ6_bitCount_0f7a4, 1, (some .int), 12, 1, 1), (yJ9_floorMod_f86c9, cJ9_floorMod_f86c9, 6, (some .long), 13, 1, 2), (yJ9_max_7cf53, cJ9_max_7cf53, 2, (some .int), 13, 1, 2), (yJ9_min_7cf53, cJ9_min_7cf53, 2, (some .int), 13, 1, 2), (yL_law, cL_law, 4, (some .boolean), 11, 9, 1)]
def mTab : List mRow := mTab0 ++ (mTab1 ++ (mTab2 ++ (mTab3)))
def mRw (i : Nat) : mRow := mTab.getD i (yX0_init, cX0_init, 1, none, 0, 99, 0)
def mY (i : Nat) : MethodName := (mRw i).1
def mC (i : Nat) : ByteArray := (mRw i).2.1
def mN (i : Nat) : Nat := (mRw i).2.2.1
def mR (i : Nat) : Option FieldType := (mRw i).2.2.2.1
def mO (i : Nat) : Nat := (mRw i).2.2.2.2.1
def mKd (i : Nat) : Nat := (mRw i).2.2.2.2.2.1
def mA (i : Nat) : Nat := (mRw i).2.2.2.2.2.2
def fE : List (Nat × Nat × Nat × Nat) := [(8, 36, 8, 0), (5, 46, 8, 0), (3, 30, 8, 0), (0, 28, 8, 0), (6, 40, 8, 0), (7, 71, 8, 0), (4, 69, 8, 0), (9, 224, 8, 0), (8, 9, 8, 1), (2, 24, 8, 1), (9, 109, 8, 1), (7, 77, 8, 1), (4, 45, 8, 1), (8, 15, 8, 2), (4, 31, 8, 2), (7, 85, 8, 2), (8, 18, 8, 3), (2, 37, 8, 3), (6, 45, 8, 3), (9, 116, 8, 3), (7, 88, 8, 3), (8, 40, 8, 4), (7, 74, 8, 4), (4, 57, 8, 4), (9, 198, 8, 4), (8, 21, 8, 5), (9, 128, 8, 5), (7, 91, 8, 5), (4, 60, 8, 5), (8, 24, 8, 6), (9, 131, 8, 6), (7, 94, 8, 6), (4, 99, 8, 6), (8, 27, 8, 7), (9, 134, 8, 7), (4, 42, 8, 7), (7, 97, 8, 7), (8, 30, 8, 8), (9, 137, 8, 8), (7, 100, 8, 8), (4, 67, 8, 8), (8, 43, 8, 9), (5, 71, 8, 9), (0, 45, 8, 9), (3, 46, 8, 9), (7, 103, 8, 9), (9, 165, 8, 9), (8, 46, 8, 10), (4, 48, 8, 10), (7, 106, 8, 10), (9, 252, 8, 10), (8, 49, 8, 11), (7, 109, 8, 11), (4, 81, 8, 11), (9, 201, 8, 11), (7, 9, 7, 0), (7, 22, 7, 1), (9, 80, 7, 1), (7, 18, 7, 2), (9, 88, 7, 2), (7, 29, 7, 3), (7, 48, 7, 4), (7, 58, 7, 5), (7, 112, 7, 6), (7, 32, 7, 7), (7, 35, 7, 8), (7, 39, 7, 9), (7, 42, 7, 10), (4, 15, 4, 0), (3, 22, 4, 0), (5, 100, 4, 0), (9, 143, 4, 0), (4, 19, 4, 1), (9, 119, 4, 1), (4, 22, 4, 2), (6, 28, 4, 2), (9, 122, 4, 2), (4, 25, 4, 3), (9, 140, 4, 3), (4, 28, 4, 4), (2, 46, 4, 4), (9, 146, 4, 4), (4, 9, 4, 5), (2, 32, 4, 5), (5, 97, 4, 5), (3, 57, 4, 5), (9, 113, 4, 5), (1, 11, 1, 0), (1, 18, 1, 1), (1, 26, 1, 2), (9, 152, 1, 2), (3, 12, 3, 0), (5, 12, 5, 0), (5, 18, 5, 1), (5, 24, 5, 2), (5, 27, 5, 3), (5, 30, 5, 4), (5, 33, 5, 5), (5, 36, 5, 6), (5, 39, 5, 7), (5, 67, 5, 8), (5, 52, 5, 9), (5, 64, 5, 10), (9, 190, 5, 10), (5, 43, 5, 11), (9, 193, 5, 11), (6, 9, 6, 0), (6, 15, 6, 1), (6, 21, 6, 2), (9, 101, 6, 2), (6, 25, 6, 3), (9, 218, 6, 3), (6, 18, 6, 4), (9, 221, 6, 4), (0, 9, 0, 0), (0, 15, 0, 1), (0, 18, 0, 2), (0, 21, 0, 3), (9, 104, 0, 3), (0, 25, 0, 4), (9, 231, 0, 4), (0, 33, 0, 5), (9, 234, 0, 5), (0, 36, 0, 6), (9, 237, 0, 6), (2, 20, 2, 0), (9, 255, 2, 0), (9, 10, 9, 0), (9, 19, 9, 1), (9, 26, 9, 2), (9, 33, 9, 3), (9, 37, 9, 4), (9, 98, 9, 5), (9, 44, 9, 6), (9, 51, 9, 7), (9, 58, 9, 8), (9, 65, 9, 9), (9, 72, 9, 10), (10, 189, 10, 0), (10, 7, 10, 1), (10, 67, 10, 2), (10, 13, 10, 3), (10, 16, 10, 4), (10, 19, 10, 5), (10, 22, 10, 6), (10, 107, 10, 7), (10, 25, 10, 8), (10, 28, 10, 9), (10, 32, 10, 10), (10, 110, 10, 11), (10, 35, 10, 12), (10, 113, 10, 13), (10, 71, 10, 14), (10, 88, 10, 15), (10, 78, 10, 16), (10, 91, 10, 17), (10, 38, 10, 18), (10, 144, 10, 19), (10, 41, 10, 20), (10, 44, 10, 21), (10, 47, 10, 22), (10, 50, 10, 23), (10, 53, 10, 24)]
set_option maxRecDepth 100000 in
theorem fE_t : ∀ q ∈ fE, (Cond.fieldLink (cN q.1) q.2.1 ((cT q.2.2.1) q.2.2.2).1 ((cT q.2.2.1) q.2.2.2).2.1 ((cT q.2.2.1) q.2.2.2).2.2.1) ∈ lw_tbl := by_pos fE [83, 84, 85, 86, 87, 88, 89, 90, 91, 92, 93, 94, 95, 96, 97, 98, 99, 100, 101, 102, 103, 104, 105, 106, 107, 108, 109, 110, 111, 112, 113, 114, 115, 116, 117, 118, 119, 120, 121, 122, 123, 124, 125, 126, 127, 128, 129, 130, 131, 132, 133, 134, 135, 136, 137, 165, 166, 167, 168, 169, 170, 171, 172, 173, 174, 175, 176, 177, 209, 210, 211, 212, 213, 214, 215, 216, 217, 218, 219, 220, 221, 222, 223, 224, 225, 226, 227, 250, 251, 252, 253, 269, 283, 284, 285, 286, 287, 288, 289, 290, 291, 292, 293, 294, 295, 296, 329, 330, 331, 332, 333, 334, 335, 336, 354, 355, 356, 357, 358, 359, 360, 361, 362, 363, 364, 386, 387, 391, 392, 393, 394, 395, 396, 397, 398, 399, 400, 401, 830, 831, 832, 833, 834, 835, 836, 837, 838, 839, 840, 841, 842, 843, 844, 845, 846, 847, 848, 849, 850, 851, 852, 853, 854] (fun q => Cond.fieldLink (cN q.1) q.2.1 ((cT q.2.2.1) q.2.2.2).1 ((cT q.2.2.1) q.2.2.2).2.1 ((cT q.2.2.1) q.2.2.2).2.2.1) lw_tbl (by decide +kernel)
theorem fE_g : ∀ q ∈ fE, (Cond.fieldLink (cN q.1) q.2.1 ((cT q.2.2.1) q.2.2.2).1 ((cT q.2.2.1) q.2.2.2).2.1 ((cT q.2.2.1) q.2.2.2).2.2.1) ∈ lw_g := fun q h => lw_gi (fE_t q h) rfl
def mE : List (Nat × Nat × Nat × Nat) := [(11, 9, 2, 57), (7, 17, 2, 55), (8, 33, 0, 56), (9, 18, 2, 55), (9, 32, 2, 6), (11, 13, 0, 58), (9, 76, 0, 43), (11, 18, 0, 59), (11, 23, 0, 60), (9, 84, 0, 44), (7, 26, 0, 56), (7, 45, 0, 51), (7, 115, 1, 53), (7, 119, 0, 52), (7, 125, 1, 146), (7, 122, 1, 54), (7, 51, 0, 45), (7, 54, 0, 46), (7, 61, 0, 47), (7, 81, 0, 50), (7, 64, 0, 48), (7, 67, 0, 49), (9, 91, 0, 19), (9, 95, 0, 9), (11, 27, 0, 61), (9, 105, 0, 84), (11, 32, 0, 62), (9, 125, 0, 85), (11, 36, 0, 63), (9, 148, 0, 15), (3, 42, 0, 14), (3, 18, 0, 20), (3, 26, 0, 16), (3, 49, 0, 17), (3, 53, 0, 22), (3, 35, 0, 28), (4, 96, 0, 22), (4, 63, 0, 23), (4, 102, 0, 24), (4, 75, 0, 25), (4, 51, 1, 145), (11, 40, 0, 64), (9, 153, 0, 21), (9, 156, 0, 22), (9, 159, 1, 143), (9, 168, 0, 7), (1, 22, 0, 20), (1, 29, 1, 146), (11, 44, 0, 65), (11, 48, 0, 66), (9, 172, 0, 23), (9, 175, 0, 24), (11, 52, 0, 67), (9, 179, 0, 26), (4, 72, 0, 21), (4, 78, 0, 27), (11, 56, 0, 68), (9, 183, 0, 8), (11, 60, 0, 69), (9, 186, 0, 30), (5, 53, 0, 20), (5, 57, 0, 31), (5, 79, 0, 22), (5, 83, 0, 32), (5, 91, 1, 146), (5, 87, 0, 33), (5, 103, 0, 28), (5, 75, 0, 34), (5, 113, 0, 35), (5, 123, 1, 144), (5, 117, 1, 36), (11, 64, 0, 70), (9, 195, 0, 14), (11, 68, 0, 71), (9, 204, 1, 86), (9, 259, 1, 87), (11, 72, 0, 72), (9, 208, 1, 88), (11, 77, 0, 73), (9, 212, 0, 38), (11, 81, 0, 74), (9, 214, 0, 39), (6, 33, 0, 40), (6, 37, 0, 41), (6, 48, 1, 143), (11, 85, 0, 75), (9, 227, 0, 1), (11, 89, 0, 76), (9, 229, 0, 2), (0, 39, 1, 143), (0, 48, 0, 4), (0, 52, 0, 5), (11, 93, 0, 77), (9, 240, 0, 3), (0, 57, 1, 145), (11, 97, 0, 78), (11, 101, 0, 79), (9, 245, 0, 11), (2, 16, 0, 12), (2, 40, 1, 143), (11, 105, 0, 80), (9, 249, 0, 20), (11, 109, 0, 81), (11, 113, 0, 82), (11, 117, 0, 83), (11, 12, 2, 89), (10, 56, 0, 103), (10, 94, 0, 99), (10, 74, 0, 96), (10, 81, 1, 98), (10, 85, 1, 97), (10, 63, 1, 90), (10, 104, 0, 102), (10, 97, 0, 100), (10, 100, 0, 101), (10, 60, 0, 104), (11, 17, 0, 94), (11, 22, 0, 95), (11, 26, 0, 105), (11, 31, 0, 106), (10, 116, 0, 92), (11, 35, 0, 107), (11, 43, 0, 109), (10, 119, 1, 91), (10, 123, 1, 93), (10, 126, 0, 108), (11, 47, 0, 110), (11, 51, 0, 111), (11, 55, 0, 113), (10, 135, 0, 112), (11, 59, 0, 114), (11, 63, 0, 120), (10, 161, 0, 119), (10, 154, 0, 117), (10, 147, 0, 115), (10, 150, 0, 116), (10, 158, 0, 118), (11, 67, 0, 122), (10, 164, 0, 121), (11, 39, 0, 124), (10, 167, 0, 123), (11, 71, 0, 126), (10, 171, 1, 125), (11, 76, 0, 127), (11, 80, 0, 128), (11, 84, 0, 131), (10, 178, 0, 130), (10, 175, 0, 129), (11, 88, 0, 132), (11, 92, 0, 135), (10, 185, 0, 134), (10, 182, 0, 133), (11, 96, 0, 136), (11, 100, 0, 137), (11, 104, 0, 138), (11, 108, 0, 139), (11, 112, 0, 140), (11, 116, 0, 141), (11, 121, 0, 142)]
set_option maxRecDepth 100000 in
theorem mE_t : ∀ q ∈ mE, (Cond.methodLink (cN q.1) q.2.1 (mY q.2.2.2)) ∈ lw_tbl := by_pos mE [61, 75, 79, 202, 243, 425, 429, 433, 437, 441, 445, 446, 450, 453, 457, 460, 463, 467, 471, 475, 479, 483, 487, 494, 498, 502, 506, 510, 514, 518, 523, 527, 531, 535, 539, 543, 547, 548, 552, 556, 560, 563, 567, 571, 572, 578, 582, 583, 584, 588, 592, 593, 594, 598, 602, 603, 613, 617, 621, 625, 629, 630, 634, 635, 640, 641, 645, 647, 652, 657, 661, 665, 669, 670, 674, 677, 680, 684, 687, 691, 695, 699, 703, 707, 711, 712, 716, 720, 724, 728, 729, 733, 737, 741, 746, 747, 751, 756, 763, 769, 770, 774, 775, 779, 783, 789, 793, 797, 801, 805, 808, 811, 814, 818, 822, 826, 907, 911, 915, 919, 923, 927, 931, 935, 938, 941, 945, 949, 953, 960, 967, 971, 975, 979, 983, 987, 991, 995, 999, 1003, 1007, 1011, 1015, 1018, 1022, 1026, 1030, 1034, 1038, 1042, 1046, 1050, 1054, 1058, 1062, 1072, 1076, 1080, 1084] (fun q => Cond.methodLink (cN q.1) q.2.1 (mY q.2.2.2)) lw_tbl (by decide +kernel)
theorem mE_g : ∀ q ∈ mE, (Cond.methodLink (cN q.1) q.2.1 (mY q.2.2.2)) ∈ lw_g := fun q h => lw_gi (mE_t q h) rfl
def nE : List (Nat × Nat × Nat × Nat) := [(9, 9, 3, 42), (9, 25, 3, 18), (1, 17, 3, 18), (9, 43, 3, 13), (3, 11, 3, 18), (9, 50, 3, 29), (5, 11, 3, 18), (9, 57, 3, 37), (9, 64, 3, 0), (9, 71, 3, 10)]
set_option maxRecDepth 100000 in
theorem nE_t : ∀ q ∈ nE, (Cond.methodLinkNest (cN q.1) q.2.1 (mY q.2.2.2) RX9) ∈ lw_tbl := by_pos nE [69, 205, 249, 263, 268, 275, 280, 325, 350, 382] (fun q => Cond.methodLinkNest (cN q.1) q.2.1 (mY q.2.2.2) RX9) lw_tbl (by decide +kernel)
def cE : List (Nat × Nat × Nat) := [(11, 7, 9), (9, 7, 7), (7, 15, 8), (9, 16, 8), (9, 23, 4), (9, 30, 1), (1, 9, 4), (9, 41, 3), (3, 9, 4), (9, 48, 5), (5, 9, 4), (9, 55, 6), (9, 62, 0), (9, 69, 2), (11, 10, 10)]
set_option maxRecDepth 100000 in
theorem cE_t : ∀ q ∈ cE, (Cond.classLink (cN q.1) q.2.1 (cN q.2.2)) ∈ lw_tbl := by_pos cE [59, 67, 73, 201, 203, 241, 247, 261, 267, 273, 279, 323, 348, 380, 787] (fun q => Cond.classLink (cN q.1) q.2.1 (cN q.2.2)) lw_tbl (by decide +kernel)
theorem cE_g : ∀ q ∈ cE, (Cond.classLink (cN q.1) q.2.1 (cN q.2.2)) ∈ lw_g := fun q h => lw_gi (cE_t q h) rfl
def kE : List (Nat × Nat × Int) := [(3, 41, 2147483647), (12, 265, 1431655765), (12, 266, 858993459), (12, 267, 252645135), (5, 63, 2147483647), (5, 74, 69905), (5, 120, 559240), (0, 56, 2147483647), (9, 244, -1000000), (2, 15, -1000000), (10, 188, -1000000)]
set_option maxRecDepth 100000 in
theorem kE_t : ∀ q ∈ kE, (Cond.constant (cN q.1) q.2.1 (Int32.ofInt q.2.2)) ∈ lw_tbl := by_pos kE [522, 575, 576, 577, 639, 646, 664, 745, 755, 762, 1066] (fun q => Cond.constant (cN q.1) q.2.1 (Int32.ofInt q.2.2)) lw_tbl (by decide +kernel)
theorem kE_g : ∀ q ∈ kE, (Cond.constant (cN q.1) q.2.1 (Int32.ofInt q.2.2)) ∈ lw_g := fun q h => lw_gi (kE_t q h) rfl
def lE : List (Nat × Nat × Int) := [(4, 84, 7919), (4, 86, 6151), (4, 88, 12289), (4, 90, 65521), (4, 92, 8), (4, 94, 10), (5, 121, 1021), (5, 127, 127), (10, 129, 7919), (10, 131, 6151), (10, 133, 12289), (10, 138, 65521), (10, 140, 8), (10, 142, 10), (10, 193, 11), (10, 195, 101), (10, 197, 1011), (10, 199, 10101), (10, 201, 100001)]
set_option maxRecDepth 100000 in
theorem lE_t : ∀ q ∈ lE, (Cond.constantLong (cN q.1) q.2.1 (Int64.ofInt q.2.2)) ∈ lw_tbl := by_pos lE [607, 608, 609, 610, 611, 612, 656, 660, 957, 958, 959, 964, 965, 966, 1067, 1068, 1069, 1070, 1071] (fun q => Cond.constantLong (cN q.1) q.2.1 (Int64.ofInt q.2.2)) lw_tbl (by decide +kernel)
theorem lE_g : ∀ q ∈ lE, (Cond.constantLong (cN q.1) q.2.1 (Int64.ofInt q.2.2)) ∈ lw_g := fun q h => lw_gi (lE_t q h) rfl
def oE : List (Nat × Nat) := [(9, 1), (7, 3), (8, 3), (4, 3), (1, 3), (3, 3), (5, 3), (6, 3), (0, 3), (2, 3), (10, 1)]
set_option maxRecDepth 100000 in
theorem oE_t : ∀ q ∈ oE, (Cond.methodLink (cN q.1) q.2 Lib.objectInit) ∈ lw_tbl := by_pos oE [64, 72, 78, 208, 246, 266, 278, 328, 353, 385, 792] (fun q => Cond.methodLink (cN q.1) q.2 Lib.objectInit) lw_tbl (by decide +kernel)
theorem oE_g : ∀ q ∈ oE, (Cond.methodLink (cN q.1) q.2 Lib.objectInit) ∈ lw_g := fun q h => lw_gi (oE_t q h) rfl
def yE : List (Nat × Nat) := [(4, 36), (5, 107)]
set_option maxRecDepth 100000 in
theorem yE_t : ∀ q ∈ yE, (Cond.methodLink (cN q.1) q.2 arraycopyName) ∈ lw_tbl := by_pos yE [491, 651] (fun q => Cond.methodLink (cN q.1) q.2 arraycopyName) lw_tbl (by decide +kernel)
theorem yE_g : ∀ q ∈ yE, (Cond.methodLink (cN q.1) q.2 arraycopyName) ∈ lw_g := fun q h => lw_gi (yE_t q h) rfl
def sN (k : Nat) : String := ["MARK", "ABOVE"].getD k ""
def sE : List (Nat × Nat × Nat) := [(2, 9, 0), (2, 29, 1)]
set_option maxRecDepth 100000 in
theorem sE_t : ∀ q ∈ sE, (Cond.fieldLink (cN q.1) q.2.1 RX2 (sN q.2.2) "[I") ∈ lw_tbl := by_pos sE [760, 767] (fun q => Cond.fieldLink (cN q.1) q.2.1 RX2 (sN q.2.2) "[I") lw_tbl (by decide +kernel)
theorem sE_g : ∀ q ∈ sE, (Cond.fieldLink (cN q.1) q.2.1 RX2 (sN q.2.2) "[I") ∈ lw_g := fun q h => lw_gi (sE_t q h) rfl
def aE : List (Nat × Nat) := [(5, 22)]
set_option maxRecDepth 100000 in
theorem aE_t : ∀ q ∈ aE, (Cond.classLink (cN q.1) q.2 "[[I") ∈ lw_tbl := by_pos aE [281] (fun q => Cond.classLink (cN q.1) q.2 "[[I") lw_tbl (by decide +kernel)
theorem aE_g : ∀ q ∈ aE, (Cond.classLink (cN q.1) q.2 "[[I") ∈ lw_g := fun q h => lw_gi (aE_t q h) rfl
def mcE : List Nat := [0, 1, 2, 3, 4, 5, 6, 7, 8, 9, 10, 11, 12, 13, 14, 15, 16, 17, 18, 19, 20, 21, 22, 23, 24, 25, 26, 27, 28, 29, 30, 31, 32, 33, 34, 35, 36, 37, 38, 39, 40, 41, 42, 43, 44, 45, 46, 47, 48, 49, 50, 51, 52, 53, 54, 55, 56, 57, 58, 59, 60, 61, 62, 63, 64, 65, 66, 67, 68, 69, 70, 71, 72, 73, 74, 75, 76, 77, 78, 79, 80, 81, 82, 83, 84, 85, 86, 87, 88, 89, 90, 91, 92, 93, 94, 95, 96, 97, 98, 99, 100, 101, 102, 103, 104, 105, 106, 107, 108, 109, 110, 111, 112, 113, 114, 115, 116, 117, 118, 119, 120, 121, 122, 123, 124, 125, 126, 127, 128, 129, 130, 131, 132, 133, 134, 135, 136, 137, 138, 139, 140, 141, 142, 143, 144, 145, 146]
set_option maxRecDepth 100000 in
theorem mcE0 : Cond.code (mY 0) (mC 0) (mN 0) (mR 0) ∈ lw_tbl := List.mem_of_getElem? (i := 352) rfl
set_option maxRecDepth 100000 in
theorem mcE1 : Cond.code (mY 1) (mC 1) (mN 1) (mR 1) ∈ lw_tbl := List.mem_of_getElem? (i := 719) rfl
set_option maxRecDepth 100000 in
theorem mcE2 : Cond.code (mY 2) (mC 2) (mN 2) (mR 2) ∈ lw_tbl := List.mem_of_getElem? (i := 727) rfl
set_option maxRecDepth 100000 in
theorem mcE3 : Cond.code (mY 3) (mC 3) (mN 3) (mR 3) ∈ lw_tbl := List.mem_of_getElem? (i := 744) rfl
set_option maxRecDepth 100000 in
theorem mcE4 : Cond.code (mY 4) (mC 4) (mN 4) (mR 4) ∈ lw_tbl := List.mem_of_getElem? (i := 732) rfl
set_option maxRecDepth 100000 in
theorem mcE5 : Cond.code (mY 5) (mC 5) (mN 5) (mR 5) ∈ lw_tbl := List.mem_of_getElem? (i := 736) rfl
set_option maxRecDepth 100000 in
theorem mcE6 : Cond.code (mY 6) (mC 6) (mN 6) (mR 6) ∈ lw_tbl := List.mem_of_getElem? (i := 245) rfl
set_option maxRecDepth 100000 in
theorem mcE7 : Cond.code (mY 7) (mC 7) (mN 7) (mR 7) ∈ lw_tbl := List.mem_of_getElem? (i := 581) rfl
set_option maxRecDepth 100000 in
theorem mcE8 : Cond.code (mY 8) (mC 8) (mN 8) (mR 8) ∈ lw_tbl := List.mem_of_getElem? (i := 620) rfl
set_option maxRecDepth 100000 in
theorem mcE9 : Cond.code (mY 9) (mC 9) (mN 9) (mR 9) ∈ lw_tbl := List.mem_of_getElem? (i := 497) rfl
set_option maxRecDepth 100000 in
theorem mcE10 : Cond.code (mY 10) (mC 10) (mN 10) (mR 10) ∈ lw_tbl := List.mem_of_getElem? (i := 384) rfl
set_option maxRecDepth 100000 in
theorem mcE11 : Cond.code (mY 11) (mC 11) (mN 11) (mR 11) ∈ lw_tbl := List.mem_of_getElem? (i := 759) rfl
set_option maxRecDepth 100000 in
theorem mcE12 : Cond.code (mY 12) (mC 12) (mN 12) (mR 12) ∈ lw_tbl := List.mem_of_getElem? (i := 766) rfl
set_option maxRecDepth 100000 in
theorem mcE13 : Cond.code (mY 13) (mC 13) (mN 13) (mR 13) ∈ lw_tbl := List.mem_of_getElem? (i := 265) rfl
set_option maxRecDepth 100000 in
theorem mcE14 : Cond.code (mY 14) (mC 14) (mN 14) (mR 14) ∈ lw_tbl := List.mem_of_getElem? (i := 526) rfl
set_option maxRecDepth 100000 in
theorem mcE15 : Cond.code (mY 15) (mC 15) (mN 15) (mR 15) ∈ lw_tbl := List.mem_of_getElem? (i := 521) rfl
set_option maxRecDepth 100000 in
theorem mcE16 : Cond.code (mY 16) (mC 16) (mN 16) (mR 16) ∈ lw_tbl := List.mem_of_getElem? (i := 534) rfl
set_option maxRecDepth 100000 in
theorem mcE17 : Cond.code (mY 17) (mC 17) (mN 17) (mR 17) ∈ lw_tbl := List.mem_of_getElem? (i := 538) rfl
set_option maxRecDepth 100000 in
theorem mcE18 : Cond.code (mY 18) (mC 18) (mN 18) (mR 18) ∈ lw_tbl := List.mem_of_getElem? (i := 207) rfl
set_option maxRecDepth 100000 in
theorem mcE19 : Cond.code (mY 19) (mC 19) (mN 19) (mR 19) ∈ lw_tbl := List.mem_of_getElem? (i := 490) rfl
set_option maxRecDepth 100000 in
theorem mcE20 : Cond.code (mY 20) (mC 20) (mN 20) (mR 20) ∈ lw_tbl := List.mem_of_getElem? (i := 530) rfl
set_option maxRecDepth 100000 in
theorem mcE21 : Cond.code (mY 21) (mC 21) (mN 21) (mR 21) ∈ lw_tbl := List.mem_of_getElem? (i := 570) rfl
set_option maxRecDepth 100000 in
theorem mcE22 : Cond.code (mY 22) (mC 22) (mN 22) (mR 22) ∈ lw_tbl := List.mem_of_getElem? (i := 542) rfl
set_option maxRecDepth 100000 in
theorem mcE23 : Cond.code (mY 23) (mC 23) (mN 23) (mR 23) ∈ lw_tbl := List.mem_of_getElem? (i := 551) rfl
set_option maxRecDepth 100000 in
theorem mcE24 : Cond.code (mY 24) (mC 24) (mN 24) (mR 24) ∈ lw_tbl := List.mem_of_getElem? (i := 555) rfl
set_option maxRecDepth 100000 in
theorem mcE25 : Cond.code (mY 25) (mC 25) (mN 25) (mR 25) ∈ lw_tbl := List.mem_of_getElem? (i := 559) rfl
set_option maxRecDepth 100000 in
theorem mcE26 : Cond.code (mY 26) (mC 26) (mN 26) (mR 26) ∈ lw_tbl := List.mem_of_getElem? (i := 601) rfl
set_option maxRecDepth 100000 in
theorem mcE27 : Cond.code (mY 27) (mC 27) (mN 27) (mR 27) ∈ lw_tbl := List.mem_of_getElem? (i := 606) rfl
set_option maxRecDepth 100000 in
theorem mcE28 : Cond.code (mY 28) (mC 28) (mN 28) (mR 28) ∈ lw_tbl := List.mem_of_getElem? (i := 546) rfl
set_option maxRecDepth 100000 in
theorem mcE29 : Cond.code (mY 29) (mC 29) (mN 29) (mR 29) ∈ lw_tbl := List.mem_of_getElem? (i := 277) rfl
set_option maxRecDepth 100000 in
theorem mcE30 : Cond.code (mY 30) (mC 30) (mN 30) (mR 30) ∈ lw_tbl := List.mem_of_getElem? (i := 628) rfl
set_option maxRecDepth 100000 in
theorem mcE31 : Cond.code (mY 31) (mC 31) (mN 31) (mR 31) ∈ lw_tbl := List.mem_of_getElem? (i := 633) rfl
set_option maxRecDepth 100000 in
theorem mcE32 : Cond.code (mY 32) (mC 32) (mN 32) (mR 32) ∈ lw_tbl := List.mem_of_getElem? (i := 638) rfl
set_option maxRecDepth 100000 in
theorem mcE33 : Cond.code (mY 33) (mC 33) (mN 33) (mR 33) ∈ lw_tbl := List.mem_of_getElem? (i := 644) rfl
set_option maxRecDepth 100000 in
theorem mcE34 : Cond.code (mY 34) (mC 34) (mN 34) (mR 34) ∈ lw_tbl := List.mem_of_getElem? (i := 650) rfl
set_option maxRecDepth 100000 in
theorem mcE35 : Cond.code (mY 35) (mC 35) (mN 35) (mR 35) ∈ lw_tbl := List.mem_of_getElem? (i := 655) rfl
set_option maxRecDepth 100000 in
theorem mcE36 : Cond.code (mY 36) (mC 36) (mN 36) (mR 36) ∈ lw_tbl := List.mem_of_getElem? (i := 663) rfl
set_option maxRecDepth 100000 in
theorem mcE37 : Cond.code (mY 37) (mC 37) (mN 37) (mR 37) ∈ lw_tbl := List.mem_of_getElem? (i := 327) rfl
set_option maxRecDepth 100000 in
theorem mcE38 : Cond.code (mY 38) (mC 38) (mN 38) (mR 38) ∈ lw_tbl := List.mem_of_getElem? (i := 694) rfl
set_option maxRecDepth 100000 in
theorem mcE39 : Cond.code (mY 39) (mC 39) (mN 39) (mR 39) ∈ lw_tbl := List.mem_of_getElem? (i := 702) rfl
set_option maxRecDepth 100000 in
theorem mcE40 : Cond.code (mY 40) (mC 40) (mN 40) (mR 40) ∈ lw_tbl := List.mem_of_getElem? (i := 706) rfl
set_option maxRecDepth 100000 in
theorem mcE41 : Cond.code (mY 41) (mC 41) (mN 41) (mR 41) ∈ lw_tbl := List.mem_of_getElem? (i := 710) rfl
set_option maxRecDepth 100000 in
theorem mcE42 : Cond.code (mY 42) (mC 42) (mN 42) (mR 42) ∈ lw_tbl := List.mem_of_getElem? (i := 71) rfl
set_option maxRecDepth 100000 in
theorem mcE43 : Cond.code (mY 43) (mC 43) (mN 43) (mR 43) ∈ lw_tbl := List.mem_of_getElem? (i := 432) rfl
set_option maxRecDepth 100000 in
theorem mcE44 : Cond.code (mY 44) (mC 44) (mN 44) (mR 44) ∈ lw_tbl := List.mem_of_getElem? (i := 444) rfl
set_option maxRecDepth 100000 in
theorem mcE45 : Cond.code (mY 45) (mC 45) (mN 45) (mR 45) ∈ lw_tbl := List.mem_of_getElem? (i := 466) rfl
set_option maxRecDepth 100000 in
theorem mcE46 : Cond.code (mY 46) (mC 46) (mN 46) (mR 46) ∈ lw_tbl := List.mem_of_getElem? (i := 470) rfl
set_option maxRecDepth 100000 in
theorem mcE47 : Cond.code (mY 47) (mC 47) (mN 47) (mR 47) ∈ lw_tbl := List.mem_of_getElem? (i := 474) rfl
set_option maxRecDepth 100000 in
theorem mcE48 : Cond.code (mY 48) (mC 48) (mN 48) (mR 48) ∈ lw_tbl := List.mem_of_getElem? (i := 482) rfl
set_option maxRecDepth 100000 in
theorem mcE49 : Cond.code (mY 49) (mC 49) (mN 49) (mR 49) ∈ lw_tbl := List.mem_of_getElem? (i := 486) rfl
set_option maxRecDepth 100000 in
theorem mcE50 : Cond.code (mY 50) (mC 50) (mN 50) (mR 50) ∈ lw_tbl := List.mem_of_getElem? (i := 478) rfl
set_option maxRecDepth 100000 in
theorem mcE51 : Cond.code (mY 51) (mC 51) (mN 51) (mR 51) ∈ lw_tbl := List.mem_of_getElem? (i := 449) rfl
set_option maxRecDepth 100000 in
theorem mcE52 : Cond.code (mY 52) (mC 52) (mN 52) (mR 52) ∈ lw_tbl := List.mem_of_getElem? (i := 456) rfl
set_option maxRecDepth 100000 in
theorem mcE53 : Cond.code (mY 53) (mC 53) (mN 53) (mR 53) ∈ lw_tbl := List.mem_of_getElem? (i := 452) rfl
set_option maxRecDepth 100000 in
theorem mcE54 : Cond.code (mY 54) (mC 54) (mN 54) (mR 54) ∈ lw_tbl := List.mem_of_getElem? (i := 462) rfl
set_option maxRecDepth 100000 in
theorem mcE55 : Cond.code (mY 55) (mC 55) (mN 55) (mR 55) ∈ lw_tbl := List.mem_of_getElem? (i := 77) rfl
set_option maxRecDepth 100000 in
theorem mcE56 : Cond.code (mY 56) (mC 56) (mN 56) (mR 56) ∈ lw_tbl := List.mem_of_getElem? (i := 82) rfl
set_option maxRecDepth 100000 in
theorem mcE57 : Cond.code (mY 57) (mC 57) (mN 57) (mR 57) ∈ lw_tbl := List.mem_of_getElem? (i := 63) rfl
set_option maxRecDepth 100000 in
theorem mcE58 : Cond.code (mY 58) (mC 58) (mN 58) (mR 58) ∈ lw_tbl := List.mem_of_getElem? (i := 428) rfl
set_option maxRecDepth 100000 in
theorem mcE59 : Cond.code (mY 59) (mC 59) (mN 59) (mR 59) ∈ lw_tbl := List.mem_of_getElem? (i := 436) rfl
set_option maxRecDepth 100000 in
theorem mcE60 : Cond.code (mY 60) (mC 60) (mN 60) (mR 60) ∈ lw_tbl := List.mem_of_getElem? (i := 440) rfl
set_option maxRecDepth 100000 in
theorem mcE61 : Cond.code (mY 61) (mC 61) (mN 61) (mR 61) ∈ lw_tbl := List.mem_of_getElem? (i := 501) rfl
set_option maxRecDepth 100000 in
theorem mcE62 : Cond.code (mY 62) (mC 62) (mN 62) (mR 62) ∈ lw_tbl := List.mem_of_getElem? (i := 509) rfl
set_option maxRecDepth 100000 in
theorem mcE63 : Cond.code (mY 63) (mC 63) (mN 63) (mR 63) ∈ lw_tbl := List.mem_of_getElem? (i := 517) rfl
set_option maxRecDepth 100000 in
theorem mcE64 : Cond.code (mY 64) (mC 64) (mN 64) (mR 64) ∈ lw_tbl := List.mem_of_getElem? (i := 566) rfl
set_option maxRecDepth 100000 in
theorem mcE65 : Cond.code (mY 65) (mC 65) (mN 65) (mR 65) ∈ lw_tbl := List.mem_of_getElem? (i := 587) rfl
set_option maxRecDepth 100000 in
theorem mcE66 : Cond.code (mY 66) (mC 66) (mN 66) (mR 66) ∈ lw_tbl := List.mem_of_getElem? (i := 591) rfl
set_option maxRecDepth 100000 in
theorem mcE67 : Cond.code (mY 67) (mC 67) (mN 67) (mR 67) ∈ lw_tbl := List.mem_of_getElem? (i := 597) rfl
set_option maxRecDepth 100000 in
theorem mcE68 : Cond.code (mY 68) (mC 68) (mN 68) (mR 68) ∈ lw_tbl := List.mem_of_getElem? (i := 616) rfl
set_option maxRecDepth 100000 in
theorem mcE69 : Cond.code (mY 69) (mC 69) (mN 69) (mR 69) ∈ lw_tbl := List.mem_of_getElem? (i := 624) rfl
set_option maxRecDepth 100000 in
theorem mcE70 : Cond.code (mY 70) (mC 70) (mN 70) (mR 70) ∈ lw_tbl := List.mem_of_getElem? (i := 668) rfl
set_option maxRecDepth 100000 in
theorem mcE71 : Cond.code (mY 71) (mC 71) (mN 71) (mR 71) ∈ lw_tbl := List.mem_of_getElem? (i := 673) rfl
set_option maxRecDepth 100000 in
theorem mcE72 : Cond.code (mY 72) (mC 72) (mN 72) (mR 72) ∈ lw_tbl := List.mem_of_getElem? (i := 683) rfl
set_option maxRecDepth 100000 in
theorem mcE73 : Cond.code (mY 73) (mC 73) (mN 73) (mR 73) ∈ lw_tbl := List.mem_of_getElem? (i := 690) rfl
set_option maxRecDepth 100000 in
theorem mcE74 : Cond.code (mY 74) (mC 74) (mN 74) (mR 74) ∈ lw_tbl := List.mem_of_getElem? (i := 698) rfl
set_option maxRecDepth 100000 in
theorem mcE75 : Cond.code (mY 75) (mC 75) (mN 75) (mR 75) ∈ lw_tbl := List.mem_of_getElem? (i := 715) rfl
set_option maxRecDepth 100000 in
theorem mcE76 : Cond.code (mY 76) (mC 76) (mN 76) (mR 76) ∈ lw_tbl := List.mem_of_getElem? (i := 723) rfl
set_option maxRecDepth 100000 in
theorem mcE77 : Cond.code (mY 77) (mC 77) (mN 77) (mR 77) ∈ lw_tbl := List.mem_of_getElem? (i := 740) rfl
set_option maxRecDepth 100000 in
theorem mcE78 : Cond.code (mY 78) (mC 78) (mN 78) (mR 78) ∈ lw_tbl := List.mem_of_getElem? (i := 750) rfl
set_option maxRecDepth 100000 in
theorem mcE79 : Cond.code (mY 79) (mC 79) (mN 79) (mR 79) ∈ lw_tbl := List.mem_of_getElem? (i := 754) rfl
set_option maxRecDepth 100000 in
theorem mcE80 : Cond.code (mY 80) (mC 80) (mN 80) (mR 80) ∈ lw_tbl := List.mem_of_getElem? (i := 773) rfl
set_option maxRecDepth 100000 in
theorem mcE81 : Cond.code (mY 81) (mC 81) (mN 81) (mR 81) ∈ lw_tbl := List.mem_of_getElem? (i := 778) rfl
set_option maxRecDepth 100000 in
theorem mcE82 : Cond.code (mY 82) (mC 82) (mN 82) (mR 82) ∈ lw_tbl := List.mem_of_getElem? (i := 782) rfl
set_option maxRecDepth 100000 in
theorem mcE83 : Cond.code (mY 83) (mC 83) (mN 83) (mR 83) ∈ lw_tbl := List.mem_of_getElem? (i := 786) rfl
set_option maxRecDepth 100000 in
theorem mcE84 : Cond.code (mY 84) (mC 84) (mN 84) (mR 84) ∈ lw_tbl := List.mem_of_getElem? (i := 505) rfl
set_option maxRecDepth 100000 in
theorem mcE85 : Cond.code (mY 85) (mC 85) (mN 85) (mR 85) ∈ lw_tbl := List.mem_of_getElem? (i := 513) rfl
set_option maxRecDepth 100000 in
theorem mcE86 : Cond.code (mY 86) (mC 86) (mN 86) (mR 86) ∈ lw_tbl := List.mem_of_getElem? (i := 676) rfl
set_option maxRecDepth 100000 in
theorem mcE87 : Cond.code (mY 87) (mC 87) (mN 87) (mR 87) ∈ lw_tbl := List.mem_of_getElem? (i := 679) rfl
set_option maxRecDepth 100000 in
theorem mcE88 : Cond.code (mY 88) (mC 88) (mN 88) (mR 88) ∈ lw_tbl := List.mem_of_getElem? (i := 686) rfl
set_option maxRecDepth 100000 in
theorem mcE89 : Cond.code (mY 89) (mC 89) (mN 89) (mR 89) ∈ lw_tbl := List.mem_of_getElem? (i := 791) rfl
set_option maxRecDepth 100000 in
theorem mcE90 : Cond.code (mY 90) (mC 90) (mN 90) (mR 90) ∈ lw_tbl := List.mem_of_getElem? (i := 813) rfl
set_option maxRecDepth 100000 in
theorem mcE91 : Cond.code (mY 91) (mC 91) (mN 91) (mR 91) ∈ lw_tbl := List.mem_of_getElem? (i := 937) rfl
set_option maxRecDepth 100000 in
theorem mcE92 : Cond.code (mY 92) (mC 92) (mN 92) (mR 92) ∈ lw_tbl := List.mem_of_getElem? (i := 926) rfl
set_option maxRecDepth 100000 in
theorem mcE93 : Cond.code (mY 93) (mC 93) (mN 93) (mR 93) ∈ lw_tbl := List.mem_of_getElem? (i := 940) rfl
set_option maxRecDepth 100000 in
theorem mcE94 : Cond.code (mY 94) (mC 94) (mN 94) (mR 94) ∈ lw_tbl := List.mem_of_getElem? (i := 910) rfl
set_option maxRecDepth 100000 in
theorem mcE95 : Cond.code (mY 95) (mC 95) (mN 95) (mR 95) ∈ lw_tbl := List.mem_of_getElem? (i := 914) rfl
set_option maxRecDepth 100000 in
theorem mcE96 : Cond.code (mY 96) (mC 96) (mN 96) (mR 96) ∈ lw_tbl := List.mem_of_getElem? (i := 804) rfl
set_option maxRecDepth 100000 in
theorem mcE97 : Cond.code (mY 97) (mC 97) (mN 97) (mR 97) ∈ lw_tbl := List.mem_of_getElem? (i := 810) rfl
set_option maxRecDepth 100000 in
theorem mcE98 : Cond.code (mY 98) (mC 98) (mN 98) (mR 98) ∈ lw_tbl := List.mem_of_getElem? (i := 807) rfl
set_option maxRecDepth 100000 in
theorem mcE99 : Cond.code (mY 99) (mC 99) (mN 99) (mR 99) ∈ lw_tbl := List.mem_of_getElem? (i := 800) rfl
set_option maxRecDepth 100000 in
theorem mcE100 : Cond.code (mY 100) (mC 100) (mN 100) (mR 100) ∈ lw_tbl := List.mem_of_getElem? (i := 821) rfl
set_option maxRecDepth 100000 in
theorem mcE101 : Cond.code (mY 101) (mC 101) (mN 101) (mR 101) ∈ lw_tbl := List.mem_of_getElem? (i := 825) rfl
set_option maxRecDepth 100000 in
theorem mcE102 : Cond.code (mY 102) (mC 102) (mN 102) (mR 102) ∈ lw_tbl := List.mem_of_getElem? (i := 817) rfl
set_option maxRecDepth 100000 in
theorem mcE103 : Cond.code (mY 103) (mC 103) (mN 103) (mR 103) ∈ lw_tbl := List.mem_of_getElem? (i := 796) rfl
set_option maxRecDepth 100000 in
theorem mcE104 : Cond.code (mY 104) (mC 104) (mN 104) (mR 104) ∈ lw_tbl := List.mem_of_getElem? (i := 829) rfl
set_option maxRecDepth 100000 in
theorem mcE105 : Cond.code (mY 105) (mC 105) (mN 105) (mR 105) ∈ lw_tbl := List.mem_of_getElem? (i := 918) rfl
set_option maxRecDepth 100000 in
theorem mcE106 : Cond.code (mY 106) (mC 106) (mN 106) (mR 106) ∈ lw_tbl := List.mem_of_getElem? (i := 922) rfl
set_option maxRecDepth 100000 in
theorem mcE107 : Cond.code (mY 107) (mC 107) (mN 107) (mR 107) ∈ lw_tbl := List.mem_of_getElem? (i := 930) rfl
set_option maxRecDepth 100000 in
theorem mcE108 : Cond.code (mY 108) (mC 108) (mN 108) (mR 108) ∈ lw_tbl := List.mem_of_getElem? (i := 944) rfl
set_option maxRecDepth 100000 in
theorem mcE109 : Cond.code (mY 109) (mC 109) (mN 109) (mR 109) ∈ lw_tbl := List.mem_of_getElem? (i := 934) rfl
set_option maxRecDepth 100000 in
theorem mcE110 : Cond.code (mY 110) (mC 110) (mN 110) (mR 110) ∈ lw_tbl := List.mem_of_getElem? (i := 948) rfl
set_option maxRecDepth 100000 in
theorem mcE111 : Cond.code (mY 111) (mC 111) (mN 111) (mR 111) ∈ lw_tbl := List.mem_of_getElem? (i := 952) rfl
set_option maxRecDepth 100000 in
theorem mcE112 : Cond.code (mY 112) (mC 112) (mN 112) (mR 112) ∈ lw_tbl := List.mem_of_getElem? (i := 963) rfl
set_option maxRecDepth 100000 in
theorem mcE113 : Cond.code (mY 113) (mC 113) (mN 113) (mR 113) ∈ lw_tbl := List.mem_of_getElem? (i := 956) rfl
set_option maxRecDepth 100000 in
theorem mcE114 : Cond.code (mY 114) (mC 114) (mN 114) (mR 114) ∈ lw_tbl := List.mem_of_getElem? (i := 970) rfl
set_option maxRecDepth 100000 in
theorem mcE115 : Cond.code (mY 115) (mC 115) (mN 115) (mR 115) ∈ lw_tbl := List.mem_of_getElem? (i := 986) rfl
set_option maxRecDepth 100000 in
theorem mcE116 : Cond.code (mY 116) (mC 116) (mN 116) (mR 116) ∈ lw_tbl := List.mem_of_getElem? (i := 990) rfl
set_option maxRecDepth 100000 in
theorem mcE117 : Cond.code (mY 117) (mC 117) (mN 117) (mR 117) ∈ lw_tbl := List.mem_of_getElem? (i := 982) rfl
set_option maxRecDepth 100000 in
theorem mcE118 : Cond.code (mY 118) (mC 118) (mN 118) (mR 118) ∈ lw_tbl := List.mem_of_getElem? (i := 994) rfl
set_option maxRecDepth 100000 in
theorem mcE119 : Cond.code (mY 119) (mC 119) (mN 119) (mR 119) ∈ lw_tbl := List.mem_of_getElem? (i := 978) rfl
set_option maxRecDepth 100000 in
theorem mcE120 : Cond.code (mY 120) (mC 120) (mN 120) (mR 120) ∈ lw_tbl := List.mem_of_getElem? (i := 974) rfl
set_option maxRecDepth 100000 in
theorem mcE121 : Cond.code (mY 121) (mC 121) (mN 121) (mR 121) ∈ lw_tbl := List.mem_of_getElem? (i := 1002) rfl
set_option maxRecDepth 100000 in
theorem mcE122 : Cond.code (mY 122) (mC 122) (mN 122) (mR 122) ∈ lw_tbl := List.mem_of_getElem? (i := 998) rfl
set_option maxRecDepth 100000 in
theorem mcE123 : Cond.code (mY 123) (mC 123) (mN 123) (mR 123) ∈ lw_tbl := List.mem_of_getElem? (i := 1010) rfl
set_option maxRecDepth 100000 in
theorem mcE124 : Cond.code (mY 124) (mC 124) (mN 124) (mR 124) ∈ lw_tbl := List.mem_of_getElem? (i := 1006) rfl
set_option maxRecDepth 100000 in
theorem mcE125 : Cond.code (mY 125) (mC 125) (mN 125) (mR 125) ∈ lw_tbl := List.mem_of_getElem? (i := 1017) rfl
set_option maxRecDepth 100000 in
theorem mcE126 : Cond.code (mY 126) (mC 126) (mN 126) (mR 126) ∈ lw_tbl := List.mem_of_getElem? (i := 1014) rfl
set_option maxRecDepth 100000 in
theorem mcE127 : Cond.code (mY 127) (mC 127) (mN 127) (mR 127) ∈ lw_tbl := List.mem_of_getElem? (i := 1021) rfl
set_option maxRecDepth 100000 in
theorem mcE128 : Cond.code (mY 128) (mC 128) (mN 128) (mR 128) ∈ lw_tbl := List.mem_of_getElem? (i := 1025) rfl
set_option maxRecDepth 100000 in
theorem mcE129 : Cond.code (mY 129) (mC 129) (mN 129) (mR 129) ∈ lw_tbl := List.mem_of_getElem? (i := 1037) rfl
set_option maxRecDepth 100000 in
theorem mcE130 : Cond.code (mY 130) (mC 130) (mN 130) (mR 130) ∈ lw_tbl := List.mem_of_getElem? (i := 1033) rfl
set_option maxRecDepth 100000 in
theorem mcE131 : Cond.code (mY 131) (mC 131) (mN 131) (mR 131) ∈ lw_tbl := List.mem_of_getElem? (i := 1029) rfl
set_option maxRecDepth 100000 in
theorem mcE132 : Cond.code (mY 132) (mC 132) (mN 132) (mR 132) ∈ lw_tbl := List.mem_of_getElem? (i := 1041) rfl
set_option maxRecDepth 100000 in
theorem mcE133 : Cond.code (mY 133) (mC 133) (mN 133) (mR 133) ∈ lw_tbl := List.mem_of_getElem? (i := 1053) rfl
set_option maxRecDepth 100000 in
theorem mcE134 : Cond.code (mY 134) (mC 134) (mN 134) (mR 134) ∈ lw_tbl := List.mem_of_getElem? (i := 1049) rfl
set_option maxRecDepth 100000 in
theorem mcE135 : Cond.code (mY 135) (mC 135) (mN 135) (mR 135) ∈ lw_tbl := List.mem_of_getElem? (i := 1045) rfl
set_option maxRecDepth 100000 in
theorem mcE136 : Cond.code (mY 136) (mC 136) (mN 136) (mR 136) ∈ lw_tbl := List.mem_of_getElem? (i := 1057) rfl
set_option maxRecDepth 100000 in
theorem mcE137 : Cond.code (mY 137) (mC 137) (mN 137) (mR 137) ∈ lw_tbl := List.mem_of_getElem? (i := 1061) rfl
set_option maxRecDepth 100000 in
theorem mcE138 : Cond.code (mY 138) (mC 138) (mN 138) (mR 138) ∈ lw_tbl := List.mem_of_getElem? (i := 1065) rfl
set_option maxRecDepth 100000 in
theorem mcE139 : Cond.code (mY 139) (mC 139) (mN 139) (mR 139) ∈ lw_tbl := List.mem_of_getElem? (i := 1075) rfl
set_option maxRecDepth 100000 in
theorem mcE140 : Cond.code (mY 140) (mC 140) (mN 140) (mR 140) ∈ lw_tbl := List.mem_of_getElem? (i := 1079) rfl
set_option maxRecDepth 100000 in
theorem mcE141 : Cond.code (mY 141) (mC 141) (mN 141) (mR 141) ∈ lw_tbl := List.mem_of_getElem? (i := 1083) rfl
set_option maxRecDepth 100000 in
theorem mcE142 : Cond.code (mY 142) (mC 142) (mN 142) (mR 142) ∈ lw_tbl := List.mem_of_getElem? (i := 1087) rfl
set_option maxRecDepth 100000 in
theorem mcE143 : Cond.code (mY 143) (mC 143) (mN 143) (mR 143) ∈ lw_tbl := List.mem_of_getElem? (i := 574) rfl
set_option maxRecDepth 100000 in
theorem mcE144 : Cond.code (mY 144) (mC 144) (mN 144) (mR 144) ∈ lw_tbl := List.mem_of_getElem? (i := 659) rfl
set_option maxRecDepth 100000 in
theorem mcE145 : Cond.code (mY 145) (mC 145) (mN 145) (mR 145) ∈ lw_tbl := List.mem_of_getElem? (i := 562) rfl
set_option maxRecDepth 100000 in
theorem mcE146 : Cond.code (mY 146) (mC 146) (mN 146) (mR 146) ∈ lw_tbl := List.mem_of_getElem? (i := 459) rfl
theorem mcE_g : ∀ q ∈ mcE, Cond.code (mY q) (mC q) (mN q) (mR q) ∈ lw_g := fun q h => lw_gi (by
  simp only [mcE, List.mem_cons, List.not_mem_nil, or_false] at h
  rcases h with rfl | rfl | rfl | rfl | rfl | rfl | rfl | rfl | rfl | rfl | rfl | rfl | rfl | rfl | rfl | rfl | rfl | rfl | rfl | rfl | rfl | rfl | rfl | rfl | rfl | rfl | rfl | rfl | rfl | rfl | rfl | rfl | rfl | rfl | rfl | rfl | rfl | rfl | rfl | rfl | rfl | rfl | rfl | rfl | rfl | rfl | rfl | rfl | rfl | rfl | rfl | rfl | rfl | rfl | rfl | rfl | rfl | rfl | rfl | rfl | rfl | rfl | rfl | rfl | rfl | rfl | rfl | rfl | rfl | rfl | rfl | rfl | rfl | rfl | rfl | rfl | rfl | rfl | rfl | rfl | rfl | rfl | rfl | rfl | rfl | rfl | rfl | rfl | rfl | rfl | rfl | rfl | rfl | rfl | rfl | rfl | rfl | rfl | rfl | rfl | rfl | rfl | rfl | rfl | rfl | rfl | rfl | rfl | rfl | rfl | rfl | rfl | rfl | rfl | rfl | rfl | rfl | rfl | rfl | rfl | rfl | rfl | rfl | rfl | rfl | rfl | rfl | rfl | rfl | rfl | rfl | rfl | rfl | rfl | rfl | rfl | rfl | rfl | rfl | rfl | rfl | rfl | rfl | rfl | rfl | rfl | rfl
  · exact mcE0
  · exact mcE1
  · exact mcE2
  · exact mcE3
  · exact mcE4
  · exact mcE5
  · exact mcE6
  · exact mcE7
  · exact mcE8
  · exact mcE9
  · exact mcE10
  · exact mcE11
  · exact mcE12
  · exact mcE13
  · exact mcE14
  · exact mcE15
  · exact mcE16
  · exact mcE17
  · exact mcE18
  · exact mcE19
  · exact mcE20
  · exact mcE21
  · exact mcE22
  · exact mcE23
  · exact mcE24
  · exact mcE25
  · exact mcE26
  · exact mcE27
  · exact mcE28
  · exact mcE29
  · exact mcE30
  · exact mcE31
  · exact mcE32
  · exact mcE33
  · exact mcE34
  · exact mcE35
  · exact mcE36
  · exact mcE37
  · exact mcE38
  · exact mcE39
  · exact mcE40
  · exact mcE41
  · exact mcE42
  · exact mcE43
  · exact mcE44
  · exact mcE45
  · exact mcE46
  · exact mcE47
  · exact mcE48
  · exact mcE49
  · exact mcE50
  · exact mcE51
  · exact mcE52
  · exact mcE53
  · exact mcE54
  · exact mcE55
  · exact mcE56
  · exact mcE57
  · exact mcE58
  · exact mcE59
  · exact mcE60
  · exact mcE61
  · exact mcE62
  · exact mcE63
  · exact mcE64
  · exact mcE65
  · exact mcE66
  · exact mcE67
  · exact mcE68
  · exact mcE69
  · exact mcE70
  · exact mcE71
  · exact mcE72
  · exact mcE73
  · exact mcE74
  · exact mcE75
  · exact mcE76
  · exact mcE77
  · exact mcE78
  · exact mcE79
  · exact mcE80
  · exact mcE81
  · exact mcE82
  · exact mcE83
  · exact mcE84
  · exact mcE85
  · exact mcE86
  · exact mcE87
  · exact mcE88
  · exact mcE89
  · exact mcE90
  · exact mcE91
  · exact mcE92
  · exact mcE93
  · exact mcE94
  · exact mcE95
  · exact mcE96
  · exact mcE97
  · exact mcE98
  · exact mcE99
  · exact mcE100
  · exact mcE101
  · exact mcE102
  · exact mcE103
  · exact mcE104
  · exact mcE105
  · exact mcE106
  · exact mcE107
  · exact mcE108
  · exact mcE109
  · exact mcE110
  · exact mcE111
  · exact mcE112
  · exact mcE113
  · exact mcE114
  · exact mcE115
  · exact mcE116
  · exact mcE117
  · exact mcE118
  · exact mcE119
  · exact mcE120
  · exact mcE121
  · exact mcE122
  · exact mcE123
  · exact mcE124
  · exact mcE125
  · exact mcE126
  · exact mcE127
  · exact mcE128
  · exact mcE129
  · exact mcE130
  · exact mcE131
  · exact mcE132
  · exact mcE133
  · exact mcE134
  · exact mcE135
  · exact mcE136
  · exact mcE137
  · exact mcE138
  · exact mcE139
  · exact mcE140
  · exact mcE141
  · exact mcE142
  · exact mcE143
  · exact mcE144
  · exact mcE145
  · exact mcE146
  ) rfl
def miE : List Nat := [0, 1, 2, 3, 4, 5, 6, 7, 8, 9, 10, 11, 12, 13, 14, 15, 16, 17, 18, 19, 20, 21, 22, 23, 24, 25, 26, 27, 28, 29, 30, 31, 32, 33, 34, 35, 37, 38, 39, 40, 41, 42, 43, 44, 45, 46, 47, 48, 49, 50, 51, 52, 55, 56, 57, 58, 59, 60, 61, 62, 63, 64, 65, 66, 67, 68, 69, 70, 71, 72, 73, 74, 75, 76, 77, 78, 79, 80, 81, 82, 83, 84, 85, 89, 92, 94, 95, 96, 99, 100, 101, 102, 103, 104, 105, 106, 107, 108, 109, 110, 111, 112, 113, 114, 115, 116, 117, 118, 119, 120, 121, 122, 123, 124, 126, 127, 128, 129, 130, 131, 132, 133, 134, 135, 136, 137, 138, 139, 140, 141, 142]
set_option maxRecDepth 100000 in
theorem miE_g : ∀ q ∈ miE, (Cond.instanceMethod (mY q)) ∈ lw_g := fun q h => lw_gi (by_pos miE [351, 717, 725, 742, 731, 735, 244, 579, 618, 495, 383, 757, 765, 264, 524, 519, 533, 537, 206, 488, 528, 568, 540, 549, 553, 557, 599, 605, 544, 276, 626, 632, 637, 643, 649, 654, 326, 692, 700, 705, 709, 70, 430, 442, 465, 469, 473, 481, 485, 477, 448, 455, 76, 80, 62, 426, 434, 438, 499, 507, 515, 564, 585, 589, 595, 614, 622, 666, 671, 681, 688, 696, 713, 721, 738, 748, 752, 771, 776, 780, 784, 504, 512, 790, 925, 908, 912, 803, 799, 820, 824, 816, 795, 828, 916, 920, 928, 943, 932, 946, 950, 962, 954, 968, 985, 989, 981, 993, 977, 972, 1001, 996, 1009, 1004, 1012, 1019, 1023, 1036, 1032, 1027, 1039, 1052, 1048, 1043, 1055, 1059, 1063, 1073, 1077, 1081, 1085] (fun q => Cond.instanceMethod (mY q)) lw_tbl (by decide +kernel) q h) rfl
def mvE : List Nat := [1, 2, 3, 4, 5, 7, 8, 9, 11, 12, 14, 15, 16, 17, 19, 20, 21, 22, 23, 24, 25, 26, 27, 28, 30, 31, 32, 33, 34, 35, 38, 39, 40, 41, 43, 44, 45, 46, 47, 48, 49, 50, 51, 52, 56, 58, 59, 60, 61, 62, 63, 64, 65, 66, 67, 68, 69, 70, 71, 72, 73, 74, 75, 76, 77, 78, 79, 80, 81, 82, 83, 84, 85, 92, 94, 95, 96, 99, 100, 101, 102, 103, 104, 105, 106, 107, 108, 109, 110, 111, 112, 113, 114, 115, 116, 117, 118, 119, 120, 121, 122, 123, 124, 126, 127, 128, 129, 130, 131, 132, 133, 134, 135, 136, 137, 138, 139, 140, 141, 142]
set_option maxRecDepth 100000 in
theorem mvE_g : ∀ q ∈ mvE, (Cond.selects (mY q).cls (mY q) (mY q)) ∈ lw_g := fun q h => lw_gi (by_pos mvE [718, 726, 743, 20, 21, 580, 619, 496, 758, 22, 525, 520, 10, 11, 489, 529, 569, 541, 550, 554, 558, 600, 12, 545, 627, 13, 14, 15, 16, 17, 693, 701, 18, 19, 431, 443, 2, 3, 4, 6, 7, 5, 0, 1, 81, 427, 435, 439, 500, 508, 516, 565, 586, 590, 596, 615, 623, 667, 672, 682, 689, 697, 714, 722, 739, 749, 753, 772, 777, 781, 785, 8, 9, 30, 909, 913, 25, 24, 27, 28, 26, 23, 29, 917, 921, 929, 31, 933, 947, 951, 32, 955, 969, 35, 36, 34, 37, 33, 973, 38, 997, 39, 1005, 1013, 1020, 1024, 41, 40, 1028, 1040, 43, 42, 1044, 1056, 1060, 1064, 1074, 1078, 1082, 1086] (fun q => Cond.selects (mY q).cls (mY q) (mY q)) lw_tbl (by decide +kernel) q h) rfl
def msE : List Nat := [36, 53, 54, 86, 87, 88, 90, 91, 93, 97, 98, 125, 143, 144, 145, 146]
set_option maxRecDepth 100000 in
theorem msE_g : ∀ q ∈ msE, (Cond.static (mY q)) ∈ lw_g := fun q h => lw_gi (by_pos msE [662, 451, 461, 675, 678, 685, 812, 936, 939, 809, 806, 1016, 573, 658, 561, 458] (fun q => Cond.static (mY q)) lw_tbl (by decide +kernel) q h) rfl
def zE : List Nat := [0, 1, 2, 3, 4, 5, 6, 7, 8, 9, 10, 11, 12, 13, 14]
set_option maxRecDepth 100000 in
theorem zE_g : ∀ q ∈ zE, (Cond.initialized (cN q)) ∈ lw_g := fun q h => lw_gi (by_pos zE [53, 49, 54, 50, 48, 51, 52, 46, 47, 45, 55, 44, 58, 56, 57] (fun q => Cond.initialized (cN q)) lw_tbl (by decide +kernel) q h) rfl
def zI : List Nat := [0, 1, 2, 3, 4, 5, 6, 7, 8, 9, 10]
set_option maxRecDepth 100000 in
theorem zI_g : ∀ q ∈ zI, (Cond.instantiable (cN q) (cF q)) ∈ lw_g := fun q h => lw_gi (by_pos zI [349, 242, 381, 262, 204, 274, 324, 68, 74, 60, 788] (fun q => Cond.instantiable (cN q) (cF q)) lw_tbl (by decide +kernel) q h) rfl
theorem oE_1 : Cond.instanceMethod Lib.objectInit ∈ lw_g := lw_gi (List.mem_of_getElem? (i := 65) (by decide +kernel)) rfl
theorem oE_2 : Cond.code Lib.objectInit ⟨#[0xb1]⟩ 1 none ∈ lw_g := lw_gi (List.mem_of_getElem? (i := 66) (by decide +kernel)) rfl
theorem yE_1 : Cond.native arraycopyName ∈ lw_g := lw_gi (List.mem_of_getElem? (i := 493) (by decide +kernel)) rfl
theorem yE_2 : Cond.static arraycopyName ∈ lw_g := lw_gi (List.mem_of_getElem? (i := 492) (by decide +kernel)) rfl
theorem rE_int : Cond.arrayClass .int ∈ lw_g := lw_gi (List.mem_of_getElem? (i := 164) (by decide +kernel)) rfl
theorem rE_long : Cond.arrayClass .long ∈ lw_g := lw_gi (List.mem_of_getElem? (i := 322) (by decide +kernel)) rfl
theorem rE_char : Cond.arrayClass .char ∈ lw_g := lw_gi (List.mem_of_getElem? (i := 163) (by decide +kernel)) rfl
theorem rE_boolean : Cond.arrayClass .boolean ∈ lw_g := lw_gi (List.mem_of_getElem? (i := 906) (by decide +kernel)) rfl
theorem rE_now : Cond.arrayOver (.object RX4) ∈ lw_tbl := List.mem_of_getElem? (i := 248) (by decide +kernel)
theorem rE_rows : Cond.arrayOver (.array .int) ∈ lw_tbl := List.mem_of_getElem? (i := 282) (by decide +kernel)
theorem sE_mark : Cond.laysStatic RX2 "MARK" "[I" ∈ lw_tbl := List.mem_of_getElem? (i := 761) (by decide +kernel)
theorem sE_above : Cond.laysStatic RX2 "ABOVE" "[I" ∈ lw_tbl := List.mem_of_getElem? (i := 768) (by decide +kernel)
/-- what a row needs of the class c -/
def cOk (c : Nat) : Prop := vwCl[c]? = some (cN c, cT c, cF c) ∧ (∀ w ∈ u_ws (cN c) (cT c) (cF c), w ∈ lw_g) ∧ (∀ k, k < cF c → parseFieldDescriptor ((cT c) k).2.2.1 = some (cTy c k)) ∧ (∀ a, a < cF c → ∀ b, b < cF c → a ≠ b → ((cT c) a).2.1 ≠ ((cT c) b).2.1) ∧ (cK c).length = cF c
theorem u_lay_good (C : String) (T : u_T) (k : Nat) : goodWord (u_lay C T k) = true := by unfold u_lay; split <;> rfl
theorem inG {C : String} {T : u_T} {n : Nat} (h : ∀ w ∈ u_ws C T n, w ∈ lw_tbl) : ∀ w ∈ u_ws C T n, w ∈ lw_g := fun w hw => lw_gi (h w hw) (by obtain ⟨k, -, rfl⟩ := List.mem_map.mp hw; exact u_lay_good C T k)
theorem cOk0 : cOk 0 := ⟨rfl, inG inX0, tyX0_ok, nmX0, rfl⟩
theorem cOk1 : cOk 1 := ⟨rfl, inG inX1, tyX1_ok, nmX1, rfl⟩
theorem cOk2 : cOk 2 := ⟨rfl, inG inX2, tyX2_ok, nmX2, rfl⟩
theorem cOk3 : cOk 3 := ⟨rfl, inG inX3, tyX3_ok, nmX3, rfl⟩
theorem cOk4 : cOk 4 := ⟨rfl, inG inX4, tyX4_ok, nmX4, rfl⟩
theorem cOk5 : cOk 5 := ⟨rfl, inG inX5, tyX5_ok, nmX5, rfl⟩
theorem cOk6 : cOk 6 := ⟨rfl, inG inX6, tyX6_ok, nmX6, rfl⟩
theorem cOk7 : cOk 7 := ⟨rfl, inG inX7, tyX7_ok, nmX7, rfl⟩
theorem cOk8 : cOk 8 := ⟨rfl, inG inX8, tyX8_ok, nmX8, rfl⟩
theorem cOk9 : cOk 9 := ⟨rfl, inG inX9, tyX9_ok, nmX9, rfl⟩
theorem cOk10 : cOk 10 := ⟨rfl, inG inX10, tyX10_ok, nmX10, rfl⟩
theorem cOk_all : ∀ c, c < 11 → cOk c := fun c h => match c, h with
  | 0, _ => cOk0
  | 1, _ => cOk1
  | 2, _ => cOk2
  | 3, _ => cOk3
  | 4, _ => cOk4
  | 5, _ => cOk5
  | 6, _ => cOk6
  | 7, _ => cOk7
  | 8, _ => cOk8
  | 9, _ => cOk9
  | 10, _ => cOk10
  | c + 11, h => absurd h (by omega)
