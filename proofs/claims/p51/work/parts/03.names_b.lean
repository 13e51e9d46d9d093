set_option maxRecDepth 20000 in
theorem ggX1_init_J7_fill_53178 : GoodIn wsX1_init wsJ7_fill_53178 := goodIn_r _ [17] (by decide +kernel) (by decide +kernel)
set_option maxRecDepth 20000 in
theorem gX1_init_J7_fill_53178 : GoodIn wsX1_init (va_wsS RX1 41 yJ7_fill_53178 wsJ7_fill_53178) := goodIn_app (goodIn_of _ (by decide +kernel)) ggX1_init_J7_fill_53178
set_option maxRecDepth 20000 in
theorem ggX1_replaceOpenings_X6_isLine : GoodIn wsX1_replaceOpenings wsX6_isLine := goodIn_r _ [4] (by decide +kernel) (by decide +kernel)
set_option maxRecDepth 20000 in
theorem gX1_replaceOpenings_X6_isLine_n53 : GoodIn wsX1_replaceOpenings (wsX6_isLine) := ggX1_replaceOpenings_X6_isLine
set_option maxRecDepth 20000 in
theorem ggX1_turnOpenings_X6_isLine : GoodIn wsX1_turnOpenings wsX6_isLine := goodIn_r _ [4] (by decide +kernel) (by decide +kernel)
set_option maxRecDepth 20000 in
theorem gX1_turnOpenings_X6_isLine_n53 : GoodIn wsX1_turnOpenings (wsX6_isLine) := ggX1_turnOpenings_X6_isLine
set_option maxRecDepth 20000 in
theorem ggX1_turnOpenings_X1_isFixed : GoodIn wsX1_turnOpenings wsX1_isFixed := goodIn_r _ [9, 10, 11, 12, 13, 14, 15, 16, 17, 18, 19] (by decide +kernel) (by decide +kernel)
set_option maxRecDepth 20000 in
theorem gX1_turnOpenings_X1_isFixed : GoodIn wsX1_turnOpenings (wsV RX1 57 RX1 yX1_isFixed wsX1_isFixed) := goodIn_app (goodIn_of _ (by decide +kernel)) ggX1_turnOpenings_X1_isFixed
set_option maxRecDepth 20000 in
theorem ggX1_fixTile_X6_isLine : GoodIn wsX1_fixTile wsX6_isLine := goodIn_r _ [4] (by decide +kernel) (by decide +kernel)
set_option maxRecDepth 20000 in
theorem gX1_fixTile_X6_isLine_n53 : GoodIn wsX1_fixTile (wsX6_isLine) := ggX1_fixTile_X6_isLine
set_option maxRecDepth 20000 in
theorem ggX1_fixTile_X1_isFixed : GoodIn wsX1_fixTile wsX1_isFixed := goodIn_r _ [9, 1, 17, 18, 19, 20, 21, 22, 23, 24, 25] (by decide +kernel) (by decide +kernel)
set_option maxRecDepth 20000 in
theorem gX1_fixTile_X1_isFixed : GoodIn wsX1_fixTile (wsV RX1 57 RX1 yX1_isFixed wsX1_isFixed) := goodIn_app (goodIn_of _ (by decide +kernel)) ggX1_fixTile_X1_isFixed
set_option maxRecDepth 20000 in
theorem ggX1_fixTile_J6_bitCount_0f7a4 : GoodIn wsX1_fixTile wsJ6_bitCount_0f7a4 := goodIn_r _ [13, 14, 15, 16] (by decide +kernel) (by decide +kernel)
set_option maxRecDepth 20000 in
theorem gX1_fixTile_J6_bitCount_0f7a4 : GoodIn wsX1_fixTile (va_wsS RX1 60 yJ6_bitCount_0f7a4 wsJ6_bitCount_0f7a4) := goodIn_app (goodIn_of _ (by decide +kernel)) ggX1_fixTile_J6_bitCount_0f7a4
set_option maxRecDepth 20000 in
theorem ggX1_freeTile_X6_isLine : GoodIn wsX1_freeTile wsX6_isLine := goodIn_r _ [4] (by decide +kernel) (by decide +kernel)
set_option maxRecDepth 20000 in
theorem gX1_freeTile_X6_isLine_n53 : GoodIn wsX1_freeTile (wsX6_isLine) := ggX1_freeTile_X6_isLine
set_option maxRecDepth 20000 in
theorem ggX1_freeTile_X1_isFixed : GoodIn wsX1_freeTile wsX1_isFixed := goodIn_r _ [9, 1, 17, 18, 19, 20, 21, 22, 23, 24, 25] (by decide +kernel) (by decide +kernel)
set_option maxRecDepth 20000 in
theorem gX1_freeTile_X1_isFixed : GoodIn wsX1_freeTile (wsV RX1 57 RX1 yX1_isFixed wsX1_isFixed) := goodIn_app (goodIn_of _ (by decide +kernel)) ggX1_freeTile_X1_isFixed
set_option maxRecDepth 20000 in
theorem ggX1_freeTile_J6_bitCount_0f7a4 : GoodIn wsX1_freeTile wsJ6_bitCount_0f7a4 := goodIn_r _ [13, 14, 15, 16] (by decide +kernel) (by decide +kernel)
set_option maxRecDepth 20000 in
theorem gX1_freeTile_J6_bitCount_0f7a4 : GoodIn wsX1_freeTile (va_wsS RX1 60 yJ6_bitCount_0f7a4 wsJ6_bitCount_0f7a4) := goodIn_app (goodIn_of _ (by decide +kernel)) ggX1_freeTile_J6_bitCount_0f7a4
set_option maxRecDepth 20000 in
theorem ggX1_moveRow_X6_isLine : GoodIn wsX1_moveRow wsX6_isLine := goodIn_r _ [3] (by decide +kernel) (by decide +kernel)
set_option maxRecDepth 20000 in
theorem gX1_moveRow_X6_isLine_n53 : GoodIn wsX1_moveRow (wsX6_isLine) := ggX1_moveRow_X6_isLine
set_option maxRecDepth 20000 in
theorem ggX1_moveRow_X1_moveIfAllowed : GoodIn wsX1_moveRow wsX1_moveIfAllowed := goodIn_r _ [8, 9, 10, 11, 12, 7, 13, 14, 15, 16, 17, 18, 19, 20, 21, 22, 23, 24, 25, 26, 27, 28, 29, 30, 31, 32, 33, 34, 35, 36, 37, 38, 39, 40, 41, 42, 43, 44, 45, 46, 47, 48, 49, 50, 51, 52] (by decide +kernel) (by decide +kernel)
set_option maxRecDepth 20000 in
theorem gX1_moveRow_X1_moveIfAllowed : GoodIn wsX1_moveRow (wsV RX1 66 RX1 yX1_moveIfAllowed wsX1_moveIfAllowed) := goodIn_app (goodIn_of _ (by decide +kernel)) ggX1_moveRow_X1_moveIfAllowed
set_option maxRecDepth 20000 in
theorem ggX1_moveColumn_X6_isLine : GoodIn wsX1_moveColumn wsX6_isLine := goodIn_r _ [3] (by decide +kernel) (by decide +kernel)
set_option maxRecDepth 20000 in
theorem gX1_moveColumn_X6_isLine_n53 : GoodIn wsX1_moveColumn (wsX6_isLine) := ggX1_moveColumn_X6_isLine
set_option maxRecDepth 20000 in
theorem ggX1_moveColumn_X1_moveIfAllowed : GoodIn wsX1_moveColumn wsX1_moveIfAllowed := goodIn_r _ [8, 9, 10, 11, 12, 7, 13, 14, 15, 16, 17, 18, 19, 20, 21, 22, 23, 24, 25, 26, 27, 28, 29, 30, 31, 32, 33, 34, 35, 36, 37, 38, 39, 40, 41, 42, 43, 44, 45, 46, 47, 48, 49, 50, 51, 52] (by decide +kernel) (by decide +kernel)
set_option maxRecDepth 20000 in
theorem gX1_moveColumn_X1_moveIfAllowed : GoodIn wsX1_moveColumn (wsV RX1 66 RX1 yX1_moveIfAllowed wsX1_moveIfAllowed) := goodIn_app (goodIn_of _ (by decide +kernel)) ggX1_moveColumn_X1_moveIfAllowed
set_option maxRecDepth 20000 in
theorem ggX1_layKey_X6_isKey : GoodIn wsX1_layKey wsX6_isKey := goodIn_r _ [4] (by decide +kernel) (by decide +kernel)
set_option maxRecDepth 20000 in
theorem gX1_layKey_X6_isKey_n70 : GoodIn wsX1_layKey (wsX6_isKey) := ggX1_layKey_X6_isKey
set_option maxRecDepth 20000 in
theorem ggX1_layKey_X6_isLine : GoodIn wsX1_layKey wsX6_isLine := goodIn_r _ [6] (by decide +kernel) (by decide +kernel)
set_option maxRecDepth 20000 in
theorem gX1_layKey_X6_isLine_n53 : GoodIn wsX1_layKey (wsX6_isLine) := ggX1_layKey_X6_isLine
set_option maxRecDepth 20000 in
theorem ggX1_layKey_X1_countKeys : GoodIn wsX1_layKey wsX1_countKeys := goodIn_r _ [11, 1, 12, 13, 14, 15, 16, 17, 18, 19, 20] (by decide +kernel) (by decide +kernel)
set_option maxRecDepth 20000 in
theorem gX1_layKey_X1_countKeys : GoodIn wsX1_layKey (wsV RX1 74 RX1 yX1_countKeys wsX1_countKeys) := goodIn_app (goodIn_of _ (by decide +kernel)) ggX1_layKey_X1_countKeys
set_option maxRecDepth 20000 in
theorem ggX1_hangLock_X6_isLine : GoodIn wsX1_hangLock wsX6_isLine := goodIn_r _ [4] (by decide +kernel) (by decide +kernel)
set_option maxRecDepth 20000 in
theorem gX1_hangLock_X6_isLine_n53 : GoodIn wsX1_hangLock (wsX6_isLine) := ggX1_hangLock_X6_isLine
set_option maxRecDepth 20000 in
theorem ggX1_hangLock_X6_isKey : GoodIn wsX1_hangLock wsX6_isKey := goodIn_r _ [6] (by decide +kernel) (by decide +kernel)
set_option maxRecDepth 20000 in
theorem gX1_hangLock_X6_isKey_n70 : GoodIn wsX1_hangLock (wsX6_isKey) := ggX1_hangLock_X6_isKey
set_option maxRecDepth 20000 in
theorem ggX1_hangLock_X1_countLocks : GoodIn wsX1_hangLock wsX1_countLocks := goodIn_r _ [11, 1, 12, 13, 14, 15, 16, 17, 18, 19, 20] (by decide +kernel) (by decide +kernel)
set_option maxRecDepth 20000 in
theorem gX1_hangLock_X1_countLocks : GoodIn wsX1_hangLock (wsV RX1 77 RX1 yX1_countLocks wsX1_countLocks) := goodIn_app (goodIn_of _ (by decide +kernel)) ggX1_hangLock_X1_countLocks
set_option maxRecDepth 20000 in
theorem ggX1_takeLock_X6_isLine : GoodIn wsX1_takeLock wsX6_isLine := goodIn_r _ [4] (by decide +kernel) (by decide +kernel)
set_option maxRecDepth 20000 in
theorem gX1_takeLock_X6_isLine_n53 : GoodIn wsX1_takeLock (wsX6_isLine) := ggX1_takeLock_X6_isLine
set_option maxRecDepth 20000 in
theorem ggX1_takeLock_X6_keyName : GoodIn wsX1_takeLock wsX6_keyName := goodIn_r _ [6] (by decide +kernel) (by decide +kernel)
set_option maxRecDepth 20000 in
theorem gX1_takeLock_X6_keyName_n81 : GoodIn wsX1_takeLock (wsX6_keyName) := ggX1_takeLock_X6_keyName
set_option maxRecDepth 20000 in
theorem ggX1_enterWalker_X6_isLine : GoodIn wsX1_enterWalker wsX6_isLine := goodIn_r _ [5] (by decide +kernel) (by decide +kernel)
set_option maxRecDepth 20000 in
theorem gX1_enterWalker_X6_isLine_n53 : GoodIn wsX1_enterWalker (wsX6_isLine) := ggX1_enterWalker_X6_isLine
set_option maxRecDepth 20000 in
theorem ggX1_enterWalker_X1_bring : GoodIn wsX1_enterWalker wsX1_bring := goodIn_r _ [10, 11, 12, 13, 14, 15, 16, 17, 18, 19, 20, 21] (by decide +kernel) (by decide +kernel)
set_option maxRecDepth 20000 in
theorem gX1_enterWalker_X1_bring : GoodIn wsX1_enterWalker (wsV RX1 85 RX1 yX1_bring wsX1_bring) := goodIn_app (goodIn_of _ (by decide +kernel)) ggX1_enterWalker_X1_bring
set_option maxRecDepth 20000 in
theorem ggX1_moveWalker_X1_isWalker : GoodIn wsX1_moveWalker wsX1_isWalker := goodIn_r _ [8, 9, 44, 45, 46, 47, 48, 49, 50, 51, 52] (by decide +kernel) (by decide +kernel)
set_option maxRecDepth 20000 in
theorem gX1_moveWalker_X1_isWalker : GoodIn wsX1_moveWalker (wsV RX1 89 RX1 yX1_isWalker wsX1_isWalker) := goodIn_app (goodIn_of _ (by decide +kernel)) ggX1_moveWalker_X1_isWalker
set_option maxRecDepth 20000 in
theorem ggX1_moveWalker_X6_isLine : GoodIn wsX1_moveWalker wsX6_isLine := goodIn_r _ [12] (by decide +kernel) (by decide +kernel)
set_option maxRecDepth 20000 in
theorem gX1_moveWalker_X6_isLine_n53 : GoodIn wsX1_moveWalker (wsX6_isLine) := ggX1_moveWalker_X6_isLine
set_option maxRecDepth 20000 in
theorem ggX1_moveWalker_X5_findPaths : GoodIn wsX1_moveWalker wsX5_findPaths := goodIn_r _ [17, 18, 19, 20, 21, 22, 23, 24, 25, 26, 27, 28, 7, 29, 30, 31, 32, 33, 34, 35, 36, 37, 38, 39, 44, 45, 46, 47, 48, 49, 50, 51, 52, 53, 54, 55, 56, 57] (by decide +kernel) (by decide +kernel)
set_option maxRecDepth 20000 in
theorem gX1_moveWalker_X5_findPaths : GoodIn wsX1_moveWalker (wsV RX1 92 RX5 yX5_findPaths wsX5_findPaths) := goodIn_app (goodIn_of _ (by decide +kernel)) ggX1_moveWalker_X5_findPaths
set_option maxRecDepth 20000 in
theorem ggX1_moveWalker_X1_bring : GoodIn wsX1_moveWalker wsX1_bring := goodIn_r _ [43, 1, 39, 44, 45, 46, 47, 48, 49, 50, 51, 52] (by decide +kernel) (by decide +kernel)
set_option maxRecDepth 20000 in
theorem gX1_moveWalker_X1_bring : GoodIn wsX1_moveWalker (wsV RX1 85 RX1 yX1_bring wsX1_bring) := goodIn_app (goodIn_of _ (by decide +kernel)) ggX1_moveWalker_X1_bring
set_option maxRecDepth 20000 in
theorem ggX1_moveLine_X1_rotate : GoodIn wsX1_moveLine wsX1_rotate := goodIn_r _ [10, 11, 12, 13, 14, 15, 19, 20, 21, 22, 23, 24, 25, 26, 27] (by decide +kernel) (by decide +kernel)
set_option maxRecDepth 20000 in
theorem gX1_moveLine_X1_rotate : GoodIn wsX1_moveLine (wsV RX1 101 RX1 yX1_rotate wsX1_rotate) := goodIn_app (goodIn_of _ (by decide +kernel)) ggX1_moveLine_X1_rotate
set_option maxRecDepth 20000 in
theorem ggX1_moveLine_X1_placeAfter : GoodIn wsX1_moveLine wsX1_placeAfter := goodIn_r _ [18, 12, 13, 14, 15] (by decide +kernel) (by decide +kernel)
set_option maxRecDepth 20000 in
theorem gX1_moveLine_X1_placeAfter : GoodIn wsX1_moveLine (va_wsS RX1 105 yX1_placeAfter wsX1_placeAfter) := goodIn_app (goodIn_of _ (by decide +kernel)) ggX1_moveLine_X1_placeAfter
set_option maxRecDepth 20000 in
theorem ggX1_isLineFree_X1_isFixed : GoodIn wsX1_isLineFree wsX1_isFixed := goodIn_r _ [5, 6, 7, 8, 9, 10, 11, 12, 13, 14, 15] (by decide +kernel) (by decide +kernel)
set_option maxRecDepth 20000 in
theorem gX1_isLineFree_X1_isFixed : GoodIn wsX1_isLineFree (wsV RX1 57 RX1 yX1_isFixed wsX1_isFixed) := goodIn_app (goodIn_of _ (by decide +kernel)) ggX1_isLineFree_X1_isFixed
set_option maxRecDepth 20000 in
theorem ggX1_connectedNeighbour_X1_neighbour : GoodIn wsX1_connectedNeighbour wsX1_neighbour := goodIn_r _ [5] (by decide +kernel) (by decide +kernel)
set_option maxRecDepth 20000 in
theorem gX1_connectedNeighbour_X1_neighbour : GoodIn wsX1_connectedNeighbour (va_wsS RX1 109 yX1_neighbour wsX1_neighbour) := goodIn_app (goodIn_of _ (by decide +kernel)) ggX1_connectedNeighbour_X1_neighbour
set_option maxRecDepth 20000 in
theorem ggX1_keyPlacesExist_X6_isCell : GoodIn wsX1_keyPlacesExist wsX6_isCell := goodIn_r _ [4] (by decide +kernel) (by decide +kernel)
set_option maxRecDepth 20000 in
theorem gX1_keyPlacesExist_X6_isCell_n113 : GoodIn wsX1_keyPlacesExist (wsX6_isCell) := ggX1_keyPlacesExist_X6_isCell
set_option maxRecDepth 20000 in
theorem ggX1_keyPlacesExist_X1_isWalker : GoodIn wsX1_keyPlacesExist wsX1_isWalker := goodIn_r _ [9, 10, 11, 12, 13, 14, 15, 16, 17, 18, 19] (by decide +kernel) (by decide +kernel)
set_option maxRecDepth 20000 in
theorem gX1_keyPlacesExist_X1_isWalker : GoodIn wsX1_keyPlacesExist (wsV RX1 89 RX1 yX1_isWalker wsX1_isWalker) := goodIn_app (goodIn_of _ (by decide +kernel)) ggX1_keyPlacesExist_X1_isWalker
set_option maxRecDepth 20000 in
theorem ggX1_moveIfAllowed_X1_isLineFree : GoodIn wsX1_moveIfAllowed wsX1_isLineFree := goodIn_r _ [6, 7, 8, 9, 5, 10, 11, 37, 38, 39, 40, 41, 42, 43, 44, 45] (by decide +kernel) (by decide +kernel)
set_option maxRecDepth 20000 in
theorem gX1_moveIfAllowed_X1_isLineFree : GoodIn wsX1_moveIfAllowed (wsV RX1 116 RX1 yX1_isLineFree wsX1_isLineFree) := goodIn_app (goodIn_of _ (by decide +kernel)) ggX1_moveIfAllowed_X1_isLineFree
set_option maxRecDepth 20000 in
theorem ggX1_moveIfAllowed_X1_moveLine : GoodIn wsX1_moveIfAllowed wsX1_moveLine := goodIn_r _ [15, 16, 17, 18, 19, 20, 21, 22, 23, 5, 24, 25, 26, 27, 28, 29, 30, 31, 32, 37, 38, 39, 40, 41, 42, 43, 44, 45] (by decide +kernel) (by decide +kernel)
set_option maxRecDepth 20000 in
theorem gX1_moveIfAllowed_X1_moveLine : GoodIn wsX1_moveIfAllowed (wsV RX1 120 RX1 yX1_moveLine wsX1_moveLine) := goodIn_app (goodIn_of _ (by decide +kernel)) ggX1_moveIfAllowed_X1_moveLine
set_option maxRecDepth 20000 in
theorem ggX1_moveIfAllowed_X1_countWalkers : GoodIn wsX1_moveIfAllowed wsX1_countWalkers := goodIn_r _ [36, 19, 20, 37, 38, 39, 40, 41, 42, 43, 44, 45] (by decide +kernel) (by decide +kernel)
set_option maxRecDepth 20000 in
theorem gX1_moveIfAllowed_X1_countWalkers : GoodIn wsX1_moveIfAllowed (wsV RX1 124 RX1 yX1_countWalkers wsX1_countWalkers) := goodIn_app (goodIn_of _ (by decide +kernel)) ggX1_moveIfAllowed_X1_countWalkers
set_option maxRecDepth 20000 in
theorem ggX1_rotate_J9_floorMod_7cf53 : GoodIn wsX1_rotate wsJ9_floorMod_7cf53 := goodIn_r _ [5] (by decide +kernel) (by decide +kernel)
set_option maxRecDepth 20000 in
theorem gX1_rotate_J9_floorMod_7cf53 : GoodIn wsX1_rotate (va_wsS RX1 127 yJ9_floorMod_7cf53 wsJ9_floorMod_7cf53) := goodIn_app (goodIn_of _ (by decide +kernel)) ggX1_rotate_J9_floorMod_7cf53
set_option maxRecDepth 20000 in
theorem ggX1_placeAfter_J9_floorMod_7cf53 : GoodIn wsX1_placeAfter wsJ9_floorMod_7cf53 := goodIn_r _ [4] (by decide +kernel) (by decide +kernel)
set_option maxRecDepth 20000 in
theorem gX1_placeAfter_J9_floorMod_7cf53 : GoodIn wsX1_placeAfter (va_wsS RX1 127 yJ9_floorMod_7cf53 wsJ9_floorMod_7cf53) := goodIn_app (goodIn_of _ (by decide +kernel)) ggX1_placeAfter_J9_floorMod_7cf53
set_option maxRecDepth 20000 in
theorem ggX3_init_X1_init : GoodIn wsX3_init wsX1_init := goodIn_r _ [12, 13, 2, 3, 14, 15, 16, 17, 18, 19, 20, 21, 22, 23, 24, 25, 26, 27, 31, 32, 33, 34, 35, 36, 37, 38, 39] (by decide +kernel) (by decide +kernel)
set_option maxRecDepth 20000 in
theorem gX3_init_X1_init : GoodIn wsX3_init (wsX1_init) := ggX3_init_X1_init
set_option maxRecDepth 20000 in
theorem ggX3_add_X1_copyFrom : GoodIn wsX3_add wsX1_copyFrom := goodIn_r _ [12, 13, 14, 15, 16, 17, 18, 19, 20, 21, 22, 23, 24, 28, 29, 30, 31, 32, 33, 34, 35, 36] (by decide +kernel) (by decide +kernel)
set_option maxRecDepth 20000 in
theorem gX3_add_X1_copyFrom : GoodIn wsX3_add (wsV RX3 25 RX1 yX1_copyFrom wsX1_copyFrom) := goodIn_app (goodIn_of _ (by decide +kernel)) ggX3_add_X1_copyFrom
set_option maxRecDepth 20000 in
theorem ggX4_findError_X4_readCommand : GoodIn wsX4_findError wsX4_readCommand := goodIn_r _ [8, 9, 10, 11, 12, 13, 14, 15, 16, 17, 7, 18, 2, 3, 19, 20, 21, 22, 23, 24, 25, 26, 27, 28, 29, 30, 31, 32, 33, 34, 35, 36, 37, 38, 39, 40, 41, 42, 43, 44, 45, 46, 47, 48, 49, 50, 51, 52, 53, 54, 55, 56, 57, 58, 59, 60, 61, 62, 63, 64, 65, 66, 67, 68, 69, 70, 71, 72, 73, 74, 75, 76, 77, 78, 79, 80, 81, 82, 83, 84, 85, 86, 87, 88, 89] (by decide +kernel) (by decide +kernel)
set_option maxRecDepth 20000 in
theorem gX4_findError_X4_readCommand : GoodIn wsX4_findError (wsV RX4 35 RX4 yX4_readCommand wsX4_readCommand) := goodIn_app (goodIn_of _ (by decide +kernel)) ggX4_findError_X4_readCommand
set_option maxRecDepth 20000 in
theorem ggX4_readCommand_X4_match : GoodIn wsX4_readCommand wsX4_match := goodIn_r _ [11, 12, 13, 14, 15, 16, 17, 18, 19, 20, 21, 22, 23, 24, 25, 26, 27, 28, 29, 30, 31, 32, 33, 34, 35, 36, 37, 38, 39, 40, 41, 42, 43, 44, 45, 46, 47, 48, 49, 50, 51, 52, 53, 54, 55, 56, 57, 58, 59, 60, 61, 62, 63, 64, 65, 10, 66, 67, 68, 69, 70, 71, 72, 73, 74, 75, 76, 77, 78, 79, 80, 81, 82, 83, 84] (by decide +kernel) (by decide +kernel)
set_option maxRecDepth 20000 in
theorem gX4_readCommand_X4_match : GoodIn wsX4_readCommand (wsV RX4 47 RX4 yX4_match wsX4_match) := goodIn_app (goodIn_of _ (by decide +kernel)) ggX4_readCommand_X4_match
set_option maxRecDepth 20000 in
theorem ggX4_match_J0_length_8abf5 : GoodIn wsX4_match wsJ0_length_8abf5 := goodIn_r _ [8, 9, 10, 11, 12, 7, 13, 14, 15, 71, 72, 73, 74] (by decide +kernel) (by decide +kernel)
set_option maxRecDepth 20000 in
theorem gX4_match_J0_length_8abf5 : GoodIn wsX4_match (wsV RX4 57 RJ0 yJ0_length_8abf5 wsJ0_length_8abf5) := goodIn_app (goodIn_of _ (by decide +kernel)) ggX4_match_J0_length_8abf5
set_option maxRecDepth 20000 in
theorem ggX4_match_J0_charAt_5068e : GoodIn wsX4_match wsJ0_charAt_5068e := goodIn_r _ [19, 9, 20, 21, 22, 7, 23, 14, 15, 24, 25, 26, 27, 28, 29, 30, 31, 32, 33, 34, 35, 36, 37, 38, 39, 40, 41, 42, 43, 44, 45, 46, 47, 48, 49, 50, 51, 52, 71, 72, 73, 74] (by decide +kernel) (by decide +kernel)
set_option maxRecDepth 20000 in
theorem gX4_match_J0_charAt_5068e : GoodIn wsX4_match (wsV RX4 62 RJ0 yJ0_charAt_5068e wsJ0_charAt_5068e) := goodIn_app (goodIn_of _ (by decide +kernel)) ggX4_match_J0_charAt_5068e
set_option maxRecDepth 20000 in
theorem ggX4_match_X4_fits : GoodIn wsX4_match wsX4_fits := goodIn_r _ [56, 57, 58, 59] (by decide +kernel) (by decide +kernel)
set_option maxRecDepth 20000 in
theorem gX4_match_X4_fits : GoodIn wsX4_match (va_wsS RX4 66 yX4_fits wsX4_fits) := goodIn_app (goodIn_of _ (by decide +kernel)) ggX4_match_X4_fits
set_option maxRecDepth 20000 in
theorem ggX4_match_X4_valueOf : GoodIn wsX4_match wsX4_valueOf := goodIn_r _ [62] (by decide +kernel) (by decide +kernel)
set_option maxRecDepth 20000 in
theorem gX4_match_X4_valueOf : GoodIn wsX4_match (va_wsS RX4 70 yX4_valueOf wsX4_valueOf) := goodIn_app (goodIn_of _ (by decide +kernel)) ggX4_match_X4_valueOf
set_option maxRecDepth 20000 in
theorem ggX4_match_X4_isPlaceholder : GoodIn wsX4_match wsX4_isPlaceholder := goodIn_r _ [65] (by decide +kernel) (by decide +kernel)
set_option maxRecDepth 20000 in
theorem gX4_match_X4_isPlaceholder : GoodIn wsX4_match (va_wsS RX4 74 yX4_isPlaceholder wsX4_isPlaceholder) := goodIn_app (goodIn_of _ (by decide +kernel)) ggX4_match_X4_isPlaceholder
set_option maxRecDepth 20000 in
theorem ggX4_fits_X6_isKey : GoodIn wsX4_fits wsX6_isKey := goodIn_r _ [3] (by decide +kernel) (by decide +kernel)
set_option maxRecDepth 20000 in
theorem gX4_fits_X6_isKey_n78 : GoodIn wsX4_fits (wsX6_isKey) := ggX4_fits_X6_isKey
set_option maxRecDepth 20000 in
theorem ggX5_findPaths_J7_fill_53178 : GoodIn wsX5_findPaths wsJ7_fill_53178 := goodIn_r _ [8] (by decide +kernel) (by decide +kernel)
set_option maxRecDepth 20000 in
theorem gX5_findPaths_J7_fill_53178 : GoodIn wsX5_findPaths (va_wsS RX5 32 yJ7_fill_53178 wsJ7_fill_53178) := goodIn_app (goodIn_of _ (by decide +kernel)) ggX5_findPaths_J7_fill_53178
set_option maxRecDepth 20000 in
theorem ggX5_findPaths_X1_connectedNeighbour : GoodIn wsX5_findPaths wsX1_connectedNeighbour := goodIn_r _ [13, 14, 15, 16, 12, 17, 24, 25, 26, 27, 28, 29, 30, 31, 32] (by decide +kernel) (by decide +kernel)
set_option maxRecDepth 20000 in
theorem gX5_findPaths_X1_connectedNeighbour : GoodIn wsX5_findPaths (wsV RX5 38 RX1 yX1_connectedNeighbour wsX1_connectedNeighbour) := goodIn_app (goodIn_of _ (by decide +kernel)) ggX5_findPaths_X1_connectedNeighbour
set_option maxRecDepth 20000 in
theorem ggX5_findPaths_X1_canEnter : GoodIn wsX5_findPaths wsX1_canEnter := goodIn_r _ [21, 22, 23, 24, 25, 26, 27, 28, 29, 30, 31, 32] (by decide +kernel) (by decide +kernel)
set_option maxRecDepth 20000 in
theorem gX5_findPaths_X1_canEnter : GoodIn wsX5_findPaths (wsV RX5 42 RX1 yX1_canEnter wsX1_canEnter) := goodIn_app (goodIn_of _ (by decide +kernel)) ggX5_findPaths_X1_canEnter
set_option maxRecDepth 20000 in
theorem ggX5_findLengthsByRounds_J7_fill_53178 : GoodIn wsX5_findLengthsByRounds wsJ7_fill_53178 := goodIn_r _ [6] (by decide +kernel) (by decide +kernel)
set_option maxRecDepth 20000 in
theorem gX5_findLengthsByRounds_J7_fill_53178 : GoodIn wsX5_findLengthsByRounds (va_wsS RX5 32 yJ7_fill_53178 wsJ7_fill_53178) := goodIn_app (goodIn_of _ (by decide +kernel)) ggX5_findLengthsByRounds_J7_fill_53178
set_option maxRecDepth 20000 in
theorem ggX5_findLengthsByRounds_X5_lowerNeighbours : GoodIn wsX5_findLengthsByRounds wsX5_lowerNeighbours := goodIn_r _ [11, 1, 12, 13, 14, 15, 16, 17, 18, 19, 20, 21, 22, 23, 24, 25, 26, 27, 28, 29, 30, 31, 32, 33, 34, 35, 36, 37, 38, 39, 40] (by decide +kernel) (by decide +kernel)
set_option maxRecDepth 20000 in
theorem gX5_findLengthsByRounds_X5_lowerNeighbours : GoodIn wsX5_findLengthsByRounds (wsV RX5 46 RX5 yX5_lowerNeighbours wsX5_lowerNeighbours) := goodIn_app (goodIn_of _ (by decide +kernel)) ggX5_findLengthsByRounds_X5_lowerNeighbours
set_option maxRecDepth 20000 in
theorem ggX5_lengthsAgree_X5_findPaths : GoodIn wsX5_lengthsAgree wsX5_findPaths := goodIn_r _ [7, 8, 1, 9, 10, 11, 12, 13, 14, 15, 16, 17, 18, 19, 20, 21, 22, 23, 24, 25, 26, 27, 28, 29, 43, 44, 45, 46, 47, 48, 49, 50, 51, 38, 39, 40, 41, 42] (by decide +kernel) (by decide +kernel)
set_option maxRecDepth 20000 in
theorem gX5_lengthsAgree_X5_findPaths : GoodIn wsX5_lengthsAgree (wsV RX5 50 RX5 yX5_findPaths wsX5_findPaths) := goodIn_app (goodIn_of _ (by decide +kernel)) ggX5_lengthsAgree_X5_findPaths
set_option maxRecDepth 20000 in
theorem ggX5_lengthsAgree_X5_findLengthsByRounds : GoodIn wsX5_lengthsAgree wsX5_findLengthsByRounds := goodIn_r _ [33, 2, 8, 11, 12, 13, 14, 34, 35, 36, 6, 37, 15, 16, 17, 18, 19, 20, 21, 22, 23, 24, 25, 26, 27, 28, 29, 38, 39, 40, 41, 42, 43, 44, 45, 46, 47, 48, 49, 50, 51] (by decide +kernel) (by decide +kernel)
set_option maxRecDepth 20000 in
theorem gX5_lengthsAgree_X5_findLengthsByRounds : GoodIn wsX5_lengthsAgree (wsV RX5 54 RX5 yX5_findLengthsByRounds wsX5_findLengthsByRounds) := goodIn_app (goodIn_of _ (by decide +kernel)) ggX5_lengthsAgree_X5_findLengthsByRounds
set_option maxRecDepth 20000 in
theorem ggX5_countGroups_J7_fill_53178 : GoodIn wsX5_countGroups wsJ7_fill_53178 := goodIn_r _ [5] (by decide +kernel) (by decide +kernel)
set_option maxRecDepth 20000 in
theorem gX5_countGroups_J7_fill_53178 : GoodIn wsX5_countGroups (va_wsS RX5 32 yJ7_fill_53178 wsJ7_fill_53178) := goodIn_app (goodIn_of _ (by decide +kernel)) ggX5_countGroups_J7_fill_53178
set_option maxRecDepth 20000 in
theorem ggX5_countGroups_X5_markGroup : GoodIn wsX5_countGroups wsX5_markGroup := goodIn_r _ [10, 1, 11, 12, 13, 14, 15, 16, 17, 18, 19, 20, 21, 22, 23, 24, 25, 26, 27, 28, 29, 30, 31, 32, 33, 34] (by decide +kernel) (by decide +kernel)
set_option maxRecDepth 20000 in
theorem gX5_countGroups_X5_markGroup : GoodIn wsX5_countGroups (wsV RX5 57 RX5 yX5_markGroup wsX5_markGroup) := goodIn_app (goodIn_of _ (by decide +kernel)) ggX5_countGroups_X5_markGroup
set_option maxRecDepth 20000 in
theorem ggX5_countGroupsByMerging_X1_connectedNeighbour : GoodIn wsX5_countGroupsByMerging wsX1_connectedNeighbour := goodIn_r _ [6, 7, 8, 9, 5, 10, 21, 22, 23, 24, 25, 26, 27, 28, 29] (by decide +kernel) (by decide +kernel)
set_option maxRecDepth 20000 in
theorem gX5_countGroupsByMerging_X1_connectedNeighbour : GoodIn wsX5_countGroupsByMerging (wsV RX5 38 RX1 yX1_connectedNeighbour wsX1_connectedNeighbour) := goodIn_app (goodIn_of _ (by decide +kernel)) ggX5_countGroupsByMerging_X1_connectedNeighbour
set_option maxRecDepth 20000 in
theorem ggX5_countGroupsByMerging_X5_mergeGroups : GoodIn wsX5_countGroupsByMerging wsX5_mergeGroups := goodIn_r _ [15, 1, 16, 17, 18, 19, 20] (by decide +kernel) (by decide +kernel)
set_option maxRecDepth 20000 in
theorem gX5_countGroupsByMerging_X5_mergeGroups : GoodIn wsX5_countGroupsByMerging (wsV RX5 61 RX5 yX5_mergeGroups wsX5_mergeGroups) := goodIn_app (goodIn_of _ (by decide +kernel)) ggX5_countGroupsByMerging_X5_mergeGroups
set_option maxRecDepth 20000 in
theorem ggX5_lowerNeighbours_X1_connectedNeighbour : GoodIn wsX5_lowerNeighbours wsX1_connectedNeighbour := goodIn_r _ [6, 7, 8, 9, 5, 10, 22, 23, 24, 25, 26, 27, 28, 29, 30] (by decide +kernel) (by decide +kernel)
set_option maxRecDepth 20000 in
theorem gX5_lowerNeighbours_X1_connectedNeighbour : GoodIn wsX5_lowerNeighbours (wsV RX5 38 RX1 yX1_connectedNeighbour wsX1_connectedNeighbour) := goodIn_app (goodIn_of _ (by decide +kernel)) ggX5_lowerNeighbours_X1_connectedNeighbour
set_option maxRecDepth 20000 in
theorem ggX5_lowerNeighbours_X1_canEnter : GoodIn wsX5_lowerNeighbours wsX1_canEnter := goodIn_r _ [14, 15, 16, 22, 23, 24, 25, 26, 27, 28, 29, 30] (by decide +kernel) (by decide +kernel)
set_option maxRecDepth 20000 in
theorem gX5_lowerNeighbours_X1_canEnter : GoodIn wsX5_lowerNeighbours (wsV RX5 42 RX1 yX1_canEnter wsX1_canEnter) := goodIn_app (goodIn_of _ (by decide +kernel)) ggX5_lowerNeighbours_X1_canEnter
set_option maxRecDepth 20000 in
theorem ggX5_markGroup_X1_connectedNeighbour : GoodIn wsX5_markGroup wsX1_connectedNeighbour := goodIn_r _ [7, 8, 9, 10, 6, 11, 17, 18, 19, 20, 21, 22, 23, 24, 25] (by decide +kernel) (by decide +kernel)
set_option maxRecDepth 20000 in
theorem gX5_markGroup_X1_connectedNeighbour : GoodIn wsX5_markGroup (wsV RX5 38 RX1 yX1_connectedNeighbour wsX1_connectedNeighbour) := goodIn_app (goodIn_of _ (by decide +kernel)) ggX5_markGroup_X1_connectedNeighbour
set_option maxRecDepth 20000 in
theorem ggX6_init_X1_init : GoodIn wsX6_init wsX1_init := goodIn_r _ [31, 32, 2, 3, 33, 34, 35, 36, 37, 38, 39, 40, 41, 42, 43, 44, 45, 46, 73, 74, 75, 76, 77, 78, 79, 80, 81] (by decide +kernel) (by decide +kernel)
set_option maxRecDepth 20000 in
theorem gX6_init_X1_init : GoodIn wsX6_init (wsX1_init) := ggX6_init_X1_init
set_option maxRecDepth 20000 in
theorem ggX6_init_X3_init : GoodIn wsX6_init wsX3_init := goodIn_r _ [49, 50, 2, 3, 51, 52, 53, 54, 5, 6, 55, 30, 31, 32, 33, 34, 35, 36, 37, 38, 39, 40, 41, 42, 43, 44, 45, 46, 94, 95, 96, 73, 74, 75, 76, 77, 78, 79, 80, 81] (by decide +kernel) (by decide +kernel)
set_option maxRecDepth 20000 in
theorem gX6_init_X3_init : GoodIn wsX6_init (wsX3_init) := ggX6_init_X3_init
set_option maxRecDepth 20000 in
theorem ggX6_init_X5_init : GoodIn wsX6_init wsX5_init := goodIn_r _ [57, 58, 2, 3, 33, 59, 60, 61, 62, 63, 97, 98, 99, 100, 101] (by decide +kernel) (by decide +kernel)
set_option maxRecDepth 20000 in
theorem gX6_init_X5_init_n38 : GoodIn wsX6_init (wsX5_init) := ggX6_init_X5_init
set_option maxRecDepth 20000 in
theorem ggX6_init_X4_init : GoodIn wsX6_init wsX4_init := goodIn_r _ [65, 66, 2, 3, 26, 67, 68, 69, 70, 71, 33, 72, 102, 103, 104, 105, 106] (by decide +kernel) (by decide +kernel)
set_option maxRecDepth 20000 in
theorem gX6_init_X4_init_n45 : GoodIn wsX6_init (wsX4_init) := ggX6_init_X4_init
set_option maxRecDepth 20000 in
theorem ggX6_setTile_X1_copyFrom : GoodIn wsX6_setTile wsX1_copyFrom := goodIn_r _ [7, 8, 9, 10, 11, 12, 13, 14, 15, 16, 17, 18, 19, 67, 68, 69, 70, 71, 72, 73, 74, 75] (by decide +kernel) (by decide +kernel)
set_option maxRecDepth 20000 in
theorem gX6_setTile_X1_copyFrom : GoodIn wsX6_setTile (wsV RX6 64 RX1 yX1_copyFrom wsX1_copyFrom) := goodIn_app (goodIn_of _ (by decide +kernel)) ggX6_setTile_X1_copyFrom
set_option maxRecDepth 20000 in
theorem ggX6_setTile_X1_replaceOpenings : GoodIn wsX6_setTile wsX1_replaceOpenings := goodIn_r _ [23, 8, 24, 25, 26, 67, 68, 69, 70, 71, 72, 73, 74, 75] (by decide +kernel) (by decide +kernel)
set_option maxRecDepth 20000 in
theorem gX6_setTile_X1_replaceOpenings : GoodIn wsX6_setTile (wsV RX6 68 RX1 yX1_replaceOpenings wsX1_replaceOpenings) := goodIn_app (goodIn_of _ (by decide +kernel)) ggX6_setTile_X1_replaceOpenings
set_option maxRecDepth 20000 in
theorem ggX6_setTile_X6_settle : GoodIn wsX6_setTile wsX6_settle := goodIn_ca (goodIn_ca (goodIn_ca (goodIn_ca (goodIn_ca (goodIn_r _ [30, 31, 32, 33, 34, 35, 36, 37, 38, 39, 40, 41, 1, 42, 43, 44, 45, 46, 47, 48, 49, 50, 51, 52, 53, 54, 4, 5, 6, 7, 8, 9, 10, 11, 12, 13, 14, 15, 16, 17, 18, 19, 55, 56, 57, 58, 59, 60, 61, 62, 63, 64, 65, 66, 76, 77, 78, 67, 68, 69, 70, 71, 72, 73, 74, 75] (by decide +kernel) (by decide +kernel)) (goodIn_sub (fun _ h => List.mem_cons_of_mem _ (List.mem_append_left _ (List.mem_append_left _ (List.mem_append_left _ (List.mem_append_left _ (List.mem_append_right _ h)))))) (by decide +kernel))) (goodIn_sub (fun _ h => List.mem_cons_of_mem _ (List.mem_append_left _ (List.mem_append_left _ (List.mem_append_left _ (List.mem_append_right _ h))))) (by decide +kernel))) (goodIn_sub (fun _ h => List.mem_cons_of_mem _ (List.mem_append_left _ (List.mem_append_left _ (List.mem_append_right _ h)))) (by decide +kernel))) (goodIn_sub (fun _ h => List.mem_cons_of_mem _ (List.mem_append_left _ (List.mem_append_right _ h))) (by decide +kernel))) (goodIn_sub (fun _ h => List.mem_cons_of_mem _ (List.mem_append_right _ h)) (by decide +kernel))
set_option maxRecDepth 20000 in
theorem gX6_setTile_X6_settle : GoodIn wsX6_setTile (wsV RX6 72 RX6 yX6_settle wsX6_settle) := goodIn_app (goodIn_of _ (by decide +kernel)) ggX6_setTile_X6_settle
set_option maxRecDepth 20000 in
theorem ggX6_turnTile_X1_copyFrom : GoodIn wsX6_turnTile wsX1_copyFrom := goodIn_r _ [7, 8, 9, 10, 11, 12, 13, 14, 15, 16, 17, 18, 19, 71, 72, 73, 74, 75, 76, 77, 78, 79] (by decide +kernel) (by decide +kernel)
set_option maxRecDepth 20000 in
theorem gX6_turnTile_X1_copyFrom : GoodIn wsX6_turnTile (wsV RX6 64 RX1 yX1_copyFrom wsX1_copyFrom) := goodIn_app (goodIn_of _ (by decide +kernel)) ggX6_turnTile_X1_copyFrom
set_option maxRecDepth 20000 in
theorem ggX6_turnTile_X1_turnOpenings : GoodIn wsX6_turnTile wsX1_turnOpenings := goodIn_r _ [23, 8, 24, 25, 26, 27, 28, 29, 6, 30, 16, 71, 72, 73, 74, 75, 76, 77, 78, 79] (by decide +kernel) (by decide +kernel)
set_option maxRecDepth 20000 in
theorem gX6_turnTile_X1_turnOpenings : GoodIn wsX6_turnTile (wsV RX6 76 RX1 yX1_turnOpenings wsX1_turnOpenings) := goodIn_app (goodIn_of _ (by decide +kernel)) ggX6_turnTile_X1_turnOpenings
set_option maxRecDepth 20000 in
theorem ggX6_turnTile_X6_settle : GoodIn wsX6_turnTile wsX6_settle := goodIn_ca (goodIn_ca (goodIn_ca (goodIn_ca (goodIn_ca (goodIn_r _ [34, 35, 36, 37, 38, 39, 40, 41, 42, 43, 44, 45, 1, 46, 47, 48, 49, 50, 51, 52, 53, 54, 55, 56, 57, 58, 4, 5, 6, 7, 8, 9, 10, 11, 12, 13, 14, 15, 16, 17, 18, 19, 59, 60, 61, 62, 63, 64, 65, 66, 67, 68, 69, 70, 80, 81, 82, 71, 72, 73, 74, 75, 76, 77, 78, 79] (by decide +kernel) (by decide +kernel)) (goodIn_sub (fun _ h => List.mem_cons_of_mem _ (List.mem_append_left _ (List.mem_append_left _ (List.mem_append_left _ (List.mem_append_left _ (List.mem_append_right _ h)))))) (by decide +kernel))) (goodIn_sub (fun _ h => List.mem_cons_of_mem _ (List.mem_append_left _ (List.mem_append_left _ (List.mem_append_left _ (List.mem_append_right _ h))))) (by decide +kernel))) (goodIn_sub (fun _ h => List.mem_cons_of_mem _ (List.mem_append_left _ (List.mem_append_left _ (List.mem_append_right _ h)))) (by decide +kernel))) (goodIn_sub (fun _ h => List.mem_cons_of_mem _ (List.mem_append_left _ (List.mem_append_right _ h))) (by decide +kernel))) (goodIn_sub (fun _ h => List.mem_cons_of_mem _ (List.mem_append_right _ h)) (by decide +kernel))
set_option maxRecDepth 20000 in
theorem gX6_turnTile_X6_settle : GoodIn wsX6_turnTile (wsV RX6 72 RX6 yX6_settle wsX6_settle) := goodIn_app (goodIn_of _ (by decide +kernel)) ggX6_turnTile_X6_settle
set_option maxRecDepth 20000 in
theorem ggX6_pin_X1_copyFrom : GoodIn wsX6_pin wsX1_copyFrom := goodIn_r _ [7, 8, 9, 10, 11, 12, 13, 14, 15, 16, 17, 18, 19, 78, 79, 80, 81, 82, 83, 84, 85, 86] (by decide +kernel) (by decide +kernel)
set_option maxRecDepth 20000 in
theorem gX6_pin_X1_copyFrom : GoodIn wsX6_pin (wsV RX6 64 RX1 yX1_copyFrom wsX1_copyFrom) := goodIn_app (goodIn_of _ (by decide +kernel)) ggX6_pin_X1_copyFrom
set_option maxRecDepth 20000 in
theorem ggX6_pin_X1_fixTile : GoodIn wsX6_pin wsX1_fixTile := goodIn_r _ [23, 16, 24, 25, 26, 27, 28, 29, 6, 30, 31, 32, 33, 34, 35, 36, 37, 78, 79, 80, 81, 82, 83, 84, 85, 86] (by decide +kernel) (by decide +kernel)
set_option maxRecDepth 20000 in
theorem gX6_pin_X1_fixTile : GoodIn wsX6_pin (wsV RX6 79 RX1 yX1_fixTile wsX1_fixTile) := goodIn_app (goodIn_of _ (by decide +kernel)) ggX6_pin_X1_fixTile
set_option maxRecDepth 20000 in
theorem ggX6_pin_X6_settle : GoodIn wsX6_pin wsX6_settle := goodIn_ca (goodIn_ca (goodIn_ca (goodIn_ca (goodIn_ca (goodIn_r _ [41, 42, 43, 44, 45, 46, 47, 48, 49, 50, 51, 52, 1, 53, 54, 55, 56, 57, 58, 59, 60, 61, 62, 63, 64, 65, 4, 5, 6, 7, 8, 9, 10, 11, 12, 13, 14, 15, 16, 17, 18, 19, 66, 67, 68, 69, 70, 71, 72, 73, 74, 75, 76, 77, 87, 88, 89, 78, 79, 80, 81, 82, 83, 84, 85, 86] (by decide +kernel) (by decide +kernel)) (goodIn_sub (fun _ h => List.mem_cons_of_mem _ (List.mem_append_left _ (List.mem_append_left _ (List.mem_append_left _ (List.mem_append_left _ (List.mem_append_right _ h)))))) (by decide +kernel))) (goodIn_sub (fun _ h => List.mem_cons_of_mem _ (List.mem_append_left _ (List.mem_append_left _ (List.mem_append_left _ (List.mem_append_right _ h))))) (by decide +kernel))) (goodIn_sub (fun _ h => List.mem_cons_of_mem _ (List.mem_append_left _ (List.mem_append_left _ (List.mem_append_right _ h)))) (by decide +kernel))) (goodIn_sub (fun _ h => List.mem_cons_of_mem _ (List.mem_append_left _ (List.mem_append_right _ h))) (by decide +kernel))) (goodIn_sub (fun _ h => List.mem_cons_of_mem _ (List.mem_append_right _ h)) (by decide +kernel))
set_option maxRecDepth 20000 in
theorem gX6_pin_X6_settle : GoodIn wsX6_pin (wsV RX6 72 RX6 yX6_settle wsX6_settle) := goodIn_app (goodIn_of _ (by decide +kernel)) ggX6_pin_X6_settle
set_option maxRecDepth 20000 in
theorem ggX6_unpin_X1_copyFrom : GoodIn wsX6_unpin wsX1_copyFrom := goodIn_r _ [7, 8, 9, 10, 11, 12, 13, 14, 15, 16, 17, 18, 19, 78, 79, 80, 81, 82, 83, 84, 85, 86] (by decide +kernel) (by decide +kernel)
set_option maxRecDepth 20000 in
theorem gX6_unpin_X1_copyFrom : GoodIn wsX6_unpin (wsV RX6 64 RX1 yX1_copyFrom wsX1_copyFrom) := goodIn_app (goodIn_of _ (by decide +kernel)) ggX6_unpin_X1_copyFrom
set_option maxRecDepth 20000 in
theorem ggX6_unpin_X1_freeTile : GoodIn wsX6_unpin wsX1_freeTile := goodIn_r _ [23, 16, 24, 25, 26, 27, 28, 29, 6, 30, 31, 32, 33, 34, 35, 36, 37, 78, 79, 80, 81, 82, 83, 84, 85, 86] (by decide +kernel) (by decide +kernel)
set_option maxRecDepth 20000 in
theorem gX6_unpin_X1_freeTile : GoodIn wsX6_unpin (wsV RX6 83 RX1 yX1_freeTile wsX1_freeTile) := goodIn_app (goodIn_of _ (by decide +kernel)) ggX6_unpin_X1_freeTile
set_option maxRecDepth 20000 in
theorem ggX6_unpin_X6_settle : GoodIn wsX6_unpin wsX6_settle := goodIn_ca (goodIn_ca (goodIn_ca (goodIn_ca (goodIn_ca (goodIn_r _ [41, 42, 43, 44, 45, 46, 47, 48, 49, 50, 51, 52, 1, 53, 54, 55, 56, 57, 58, 59, 60, 61, 62, 63, 64, 65, 4, 5, 6, 7, 8, 9, 10, 11, 12, 13, 14, 15, 16, 17, 18, 19, 66, 67, 68, 69, 70, 71, 72, 73, 74, 75, 76, 77, 87, 88, 89, 78, 79, 80, 81, 82, 83, 84, 85, 86] (by decide +kernel) (by decide +kernel)) (goodIn_sub (fun _ h => List.mem_cons_of_mem _ (List.mem_append_left _ (List.mem_append_left _ (List.mem_append_left _ (List.mem_append_left _ (List.mem_append_right _ h)))))) (by decide +kernel))) (goodIn_sub (fun _ h => List.mem_cons_of_mem _ (List.mem_append_left _ (List.mem_append_left _ (List.mem_append_left _ (List.mem_append_right _ h))))) (by decide +kernel))) (goodIn_sub (fun _ h => List.mem_cons_of_mem _ (List.mem_append_left _ (List.mem_append_left _ (List.mem_append_right _ h)))) (by decide +kernel))) (goodIn_sub (fun _ h => List.mem_cons_of_mem _ (List.mem_append_left _ (List.mem_append_right _ h))) (by decide +kernel))) (goodIn_sub (fun _ h => List.mem_cons_of_mem _ (List.mem_append_right _ h)) (by decide +kernel))
set_option maxRecDepth 20000 in
theorem gX6_unpin_X6_settle : GoodIn wsX6_unpin (wsV RX6 72 RX6 yX6_settle wsX6_settle) := goodIn_app (goodIn_of _ (by decide +kernel)) ggX6_unpin_X6_settle
set_option maxRecDepth 20000 in
theorem ggX6_shiftRow_X1_copyFrom : GoodIn wsX6_shiftRow wsX1_copyFrom := goodIn_r _ [7, 8, 9, 10, 11, 12, 13, 14, 15, 16, 17, 18, 19, 99, 100, 101, 102, 103, 104, 105, 106, 107] (by decide +kernel) (by decide +kernel)
set_option maxRecDepth 20000 in
theorem gX6_shiftRow_X1_copyFrom : GoodIn wsX6_shiftRow (wsV RX6 64 RX1 yX1_copyFrom wsX1_copyFrom) := goodIn_app (goodIn_of _ (by decide +kernel)) ggX6_shiftRow_X1_copyFrom
set_option maxRecDepth 20000 in
theorem ggX6_shiftRow_X1_moveRow : GoodIn wsX6_shiftRow wsX1_moveRow := goodIn_r _ [23, 24, 25, 26, 27, 28, 29, 6, 30, 18, 31, 32, 33, 34, 35, 36, 37, 38, 16, 39, 40, 41, 42, 8, 13, 14, 17, 15, 43, 44, 45, 46, 47, 48, 49, 50, 51, 52, 53, 54, 55, 56, 57, 58, 99, 100, 101, 102, 103, 104, 105, 106, 107] (by decide +kernel) (by decide +kernel)
set_option maxRecDepth 20000 in
theorem gX6_shiftRow_X1_moveRow : GoodIn wsX6_shiftRow (wsV RX6 86 RX1 yX1_moveRow wsX1_moveRow) := goodIn_app (goodIn_of _ (by decide +kernel)) ggX6_shiftRow_X1_moveRow
set_option maxRecDepth 20000 in
theorem ggX6_shiftRow_X6_settle : GoodIn wsX6_shiftRow wsX6_settle := goodIn_ca (goodIn_ca (goodIn_ca (goodIn_ca (goodIn_ca (goodIn_r _ [62, 63, 64, 65, 66, 67, 68, 69, 70, 71, 72, 73, 1, 74, 75, 76, 77, 78, 79, 80, 81, 82, 83, 84, 85, 86, 4, 5, 6, 7, 8, 9, 10, 11, 12, 13, 14, 15, 16, 17, 18, 19, 87, 88, 89, 90, 91, 92, 93, 94, 95, 96, 97, 98, 108, 109, 110, 99, 100, 101, 102, 103, 104, 105, 106, 107] (by decide +kernel) (by decide +kernel)) (goodIn_sub (fun _ h => List.mem_cons_of_mem _ (List.mem_append_left _ (List.mem_append_left _ (List.mem_append_left _ (List.mem_append_left _ (List.mem_append_right _ h)))))) (by decide +kernel))) (goodIn_sub (fun _ h => List.mem_cons_of_mem _ (List.mem_append_left _ (List.mem_append_left _ (List.mem_append_left _ (List.mem_append_right _ h))))) (by decide +kernel))) (goodIn_sub (fun _ h => List.mem_cons_of_mem _ (List.mem_append_left _ (List.mem_append_left _ (List.mem_append_right _ h)))) (by decide +kernel))) (goodIn_sub (fun _ h => List.mem_cons_of_mem _ (List.mem_append_left _ (List.mem_append_right _ h))) (by decide +kernel))) (goodIn_sub (fun _ h => List.mem_cons_of_mem _ (List.mem_append_right _ h)) (by decide +kernel))
set_option maxRecDepth 20000 in
theorem gX6_shiftRow_X6_settle : GoodIn wsX6_shiftRow (wsV RX6 72 RX6 yX6_settle wsX6_settle) := goodIn_app (goodIn_of _ (by decide +kernel)) ggX6_shiftRow_X6_settle
set_option maxRecDepth 20000 in
theorem ggX6_shiftColumn_X1_copyFrom : GoodIn wsX6_shiftColumn wsX1_copyFrom := goodIn_r _ [7, 8, 9, 10, 11, 12, 13, 14, 15, 16, 17, 18, 19, 99, 100, 101, 102, 103, 104, 105, 106, 107] (by decide +kernel) (by decide +kernel)
set_option maxRecDepth 20000 in
theorem gX6_shiftColumn_X1_copyFrom : GoodIn wsX6_shiftColumn (wsV RX6 64 RX1 yX1_copyFrom wsX1_copyFrom) := goodIn_app (goodIn_of _ (by decide +kernel)) ggX6_shiftColumn_X1_copyFrom
set_option maxRecDepth 20000 in
theorem ggX6_shiftColumn_X1_moveColumn : GoodIn wsX6_shiftColumn wsX1_moveColumn := goodIn_r _ [23, 24, 25, 26, 27, 28, 29, 6, 30, 18, 31, 32, 33, 34, 35, 36, 37, 38, 16, 39, 40, 41, 42, 8, 13, 14, 17, 15, 43, 44, 45, 46, 47, 48, 49, 50, 51, 52, 53, 54, 55, 56, 57, 58, 99, 100, 101, 102, 103, 104, 105, 106, 107] (by decide +kernel) (by decide +kernel)
set_option maxRecDepth 20000 in
theorem gX6_shiftColumn_X1_moveColumn : GoodIn wsX6_shiftColumn (wsV RX6 89 RX1 yX1_moveColumn wsX1_moveColumn) := goodIn_app (goodIn_of _ (by decide +kernel)) ggX6_shiftColumn_X1_moveColumn
set_option maxRecDepth 20000 in
theorem ggX6_shiftColumn_X6_settle : GoodIn wsX6_shiftColumn wsX6_settle := goodIn_ca (goodIn_ca (goodIn_ca (goodIn_ca (goodIn_ca (goodIn_r _ [62, 63, 64, 65, 66, 67, 68, 69, 70, 71, 72, 73, 1, 74, 75, 76, 77, 78, 79, 80, 81, 82, 83, 84, 85, 86, 4, 5, 6, 7, 8, 9, 10, 11, 12, 13, 14, 15, 16, 17, 18, 19, 87, 88, 89, 90, 91, 92, 93, 94, 95, 96, 97, 98, 108, 109, 110, 99, 100, 101, 102, 103, 104, 105, 106, 107] (by decide +kernel) (by decide +kernel)) (goodIn_sub (fun _ h => List.mem_cons_of_mem _ (List.mem_append_left _ (List.mem_append_left _ (List.mem_append_left _ (List.mem_append_left _ (List.mem_append_right _ h)))))) (by decide +kernel))) (goodIn_sub (fun _ h => List.mem_cons_of_mem _ (List.mem_append_left _ (List.mem_append_left _ (List.mem_append_left _ (List.mem_append_right _ h))))) (by decide +kernel))) (goodIn_sub (fun _ h => List.mem_cons_of_mem _ (List.mem_append_left _ (List.mem_append_left _ (List.mem_append_right _ h)))) (by decide +kernel))) (goodIn_sub (fun _ h => List.mem_cons_of_mem _ (List.mem_append_left _ (List.mem_append_right _ h))) (by decide +kernel))) (goodIn_sub (fun _ h => List.mem_cons_of_mem _ (List.mem_append_right _ h)) (by decide +kernel))
set_option maxRecDepth 20000 in
theorem gX6_shiftColumn_X6_settle : GoodIn wsX6_shiftColumn (wsV RX6 72 RX6 yX6_settle wsX6_settle) := goodIn_app (goodIn_of _ (by decide +kernel)) ggX6_shiftColumn_X6_settle
set_option maxRecDepth 20000 in
theorem ggX6_placeKey_X1_copyFrom : GoodIn wsX6_placeKey wsX1_copyFrom := goodIn_r _ [7, 8, 9, 10, 11, 12, 13, 14, 15, 16, 17, 18, 19, 73, 74, 75, 76, 77, 78, 79, 80, 81] (by decide +kernel) (by decide +kernel)
set_option maxRecDepth 20000 in
theorem gX6_placeKey_X1_copyFrom : GoodIn wsX6_placeKey (wsV RX6 64 RX1 yX1_copyFrom wsX1_copyFrom) := goodIn_app (goodIn_of _ (by decide +kernel)) ggX6_placeKey_X1_copyFrom
set_option maxRecDepth 20000 in
theorem ggX6_placeKey_X1_layKey : GoodIn wsX6_placeKey wsX1_layKey := goodIn_r _ [23, 14, 24, 25, 26, 27, 28, 29, 30, 31, 6, 32, 73, 74, 75, 76, 77, 78, 79, 80, 81] (by decide +kernel) (by decide +kernel)
set_option maxRecDepth 20000 in
theorem gX6_placeKey_X1_layKey : GoodIn wsX6_placeKey (wsV RX6 92 RX1 yX1_layKey wsX1_layKey) := goodIn_app (goodIn_of _ (by decide +kernel)) ggX6_placeKey_X1_layKey
set_option maxRecDepth 20000 in
theorem ggX6_placeKey_X6_settle : GoodIn wsX6_placeKey wsX6_settle := goodIn_ca (goodIn_ca (goodIn_ca (goodIn_ca (goodIn_ca (goodIn_r _ [36, 37, 38, 39, 40, 41, 42, 43, 44, 45, 46, 47, 1, 48, 49, 50, 51, 52, 53, 54, 55, 56, 57, 58, 59, 60, 4, 5, 6, 7, 8, 9, 10, 11, 12, 13, 14, 15, 16, 17, 18, 19, 61, 62, 63, 64, 65, 66, 67, 68, 69, 70, 71, 72, 82, 83, 84, 73, 74, 75, 76, 77, 78, 79, 80, 81] (by decide +kernel) (by decide +kernel)) (goodIn_sub (fun _ h => List.mem_cons_of_mem _ (List.mem_append_left _ (List.mem_append_left _ (List.mem_append_left _ (List.mem_append_left _ (List.mem_append_right _ h)))))) (by decide +kernel))) (goodIn_sub (fun _ h => List.mem_cons_of_mem _ (List.mem_append_left _ (List.mem_append_left _ (List.mem_append_left _ (List.mem_append_right _ h))))) (by decide +kernel))) (goodIn_sub (fun _ h => List.mem_cons_of_mem _ (List.mem_append_left _ (List.mem_append_left _ (List.mem_append_right _ h)))) (by decide +kernel))) (goodIn_sub (fun _ h => List.mem_cons_of_mem _ (List.mem_append_left _ (List.mem_append_right _ h))) (by decide +kernel))) (goodIn_sub (fun _ h => List.mem_cons_of_mem _ (List.mem_append_right _ h)) (by decide +kernel))
set_option maxRecDepth 20000 in
theorem gX6_placeKey_X6_settle : GoodIn wsX6_placeKey (wsV RX6 72 RX6 yX6_settle wsX6_settle) := goodIn_app (goodIn_of _ (by decide +kernel)) ggX6_placeKey_X6_settle
set_option maxRecDepth 20000 in
theorem ggX6_addLock_X1_copyFrom : GoodIn wsX6_addLock wsX1_copyFrom := goodIn_r _ [7, 8, 9, 10, 11, 12, 13, 14, 15, 16, 17, 18, 19, 73, 74, 75, 76, 77, 78, 79, 80, 81] (by decide +kernel) (by decide +kernel)
set_option maxRecDepth 20000 in
theorem gX6_addLock_X1_copyFrom : GoodIn wsX6_addLock (wsV RX6 64 RX1 yX1_copyFrom wsX1_copyFrom) := goodIn_app (goodIn_of _ (by decide +kernel)) ggX6_addLock_X1_copyFrom
set_option maxRecDepth 20000 in
theorem ggX6_addLock_X1_hangLock : GoodIn wsX6_addLock wsX1_hangLock := goodIn_r _ [23, 13, 24, 25, 26, 27, 28, 29, 30, 31, 6, 32, 73, 74, 75, 76, 77, 78, 79, 80, 81] (by decide +kernel) (by decide +kernel)
set_option maxRecDepth 20000 in
theorem gX6_addLock_X1_hangLock : GoodIn wsX6_addLock (wsV RX6 96 RX1 yX1_hangLock wsX1_hangLock) := goodIn_app (goodIn_of _ (by decide +kernel)) ggX6_addLock_X1_hangLock
set_option maxRecDepth 20000 in
theorem ggX6_addLock_X6_settle : GoodIn wsX6_addLock wsX6_settle := goodIn_ca (goodIn_ca (goodIn_ca (goodIn_ca (goodIn_ca (goodIn_r _ [36, 37, 38, 39, 40, 41, 42, 43, 44, 45, 46, 47, 1, 48, 49, 50, 51, 52, 53, 54, 55, 56, 57, 58, 59, 60, 4, 5, 6, 7, 8, 9, 10, 11, 12, 13, 14, 15, 16, 17, 18, 19, 61, 62, 63, 64, 65, 66, 67, 68, 69, 70, 71, 72, 82, 83, 84, 73, 74, 75, 76, 77, 78, 79, 80, 81] (by decide +kernel) (by decide +kernel)) (goodIn_sub (fun _ h => List.mem_cons_of_mem _ (List.mem_append_left _ (List.mem_append_left _ (List.mem_append_left _ (List.mem_append_left _ (List.mem_append_right _ h)))))) (by decide +kernel))) (goodIn_sub (fun _ h => List.mem_cons_of_mem _ (List.mem_append_left _ (List.mem_append_left _ (List.mem_append_left _ (List.mem_append_right _ h))))) (by decide +kernel))) (goodIn_sub (fun _ h => List.mem_cons_of_mem _ (List.mem_append_left _ (List.mem_append_left _ (List.mem_append_right _ h)))) (by decide +kernel))) (goodIn_sub (fun _ h => List.mem_cons_of_mem _ (List.mem_append_left _ (List.mem_append_right _ h))) (by decide +kernel))) (goodIn_sub (fun _ h => List.mem_cons_of_mem _ (List.mem_append_right _ h)) (by decide +kernel))
set_option maxRecDepth 20000 in
theorem gX6_addLock_X6_settle : GoodIn wsX6_addLock (wsV RX6 72 RX6 yX6_settle wsX6_settle) := goodIn_app (goodIn_of _ (by decide +kernel)) ggX6_addLock_X6_settle
set_option maxRecDepth 20000 in
theorem ggX6_removeLock_X1_copyFrom : GoodIn wsX6_removeLock wsX1_copyFrom := goodIn_r _ [7, 8, 9, 10, 11, 12, 13, 14, 15, 16, 17, 18, 19, 69, 70, 71, 72, 73, 74, 75, 76, 77] (by decide +kernel) (by decide +kernel)
set_option maxRecDepth 20000 in
theorem gX6_removeLock_X1_copyFrom : GoodIn wsX6_removeLock (wsV RX6 64 RX1 yX1_copyFrom wsX1_copyFrom) := goodIn_app (goodIn_of _ (by decide +kernel)) ggX6_removeLock_X1_copyFrom
set_option maxRecDepth 20000 in
theorem ggX6_removeLock_X1_takeLock : GoodIn wsX6_removeLock wsX1_takeLock := goodIn_r _ [23, 13, 24, 25, 26, 27, 28, 69, 70, 71, 72, 73, 74, 75, 76, 77] (by decide +kernel) (by decide +kernel)
set_option maxRecDepth 20000 in
theorem gX6_removeLock_X1_takeLock : GoodIn wsX6_removeLock (wsV RX6 100 RX1 yX1_takeLock wsX1_takeLock) := goodIn_app (goodIn_of _ (by decide +kernel)) ggX6_removeLock_X1_takeLock
set_option maxRecDepth 20000 in
theorem ggX6_removeLock_X6_settle : GoodIn wsX6_removeLock wsX6_settle := goodIn_ca (goodIn_ca (goodIn_ca (goodIn_ca (goodIn_ca (goodIn_r _ [32, 33, 34, 35, 36, 37, 38, 39, 40, 41, 42, 43, 1, 44, 45, 46, 47, 48, 49, 50, 51, 52, 53, 54, 55, 56, 4, 5, 6, 7, 8, 9, 10, 11, 12, 13, 14, 15, 16, 17, 18, 19, 57, 58, 59, 60, 61, 62, 63, 64, 65, 66, 67, 68, 78, 79, 80, 69, 70, 71, 72, 73, 74, 75, 76, 77] (by decide +kernel) (by decide +kernel)) (goodIn_sub (fun _ h => List.mem_cons_of_mem _ (List.mem_append_left _ (List.mem_append_left _ (List.mem_append_left _ (List.mem_append_left _ (List.mem_append_right _ h)))))) (by decide +kernel))) (goodIn_sub (fun _ h => List.mem_cons_of_mem _ (List.mem_append_left _ (List.mem_append_left _ (List.mem_append_left _ (List.mem_append_right _ h))))) (by decide +kernel))) (goodIn_sub (fun _ h => List.mem_cons_of_mem _ (List.mem_append_left _ (List.mem_append_left _ (List.mem_append_right _ h)))) (by decide +kernel))) (goodIn_sub (fun _ h => List.mem_cons_of_mem _ (List.mem_append_left _ (List.mem_append_right _ h))) (by decide +kernel))) (goodIn_sub (fun _ h => List.mem_cons_of_mem _ (List.mem_append_right _ h)) (by decide +kernel))
set_option maxRecDepth 20000 in
theorem gX6_removeLock_X6_settle : GoodIn wsX6_removeLock (wsV RX6 72 RX6 yX6_settle wsX6_settle) := goodIn_app (goodIn_of _ (by decide +kernel)) ggX6_removeLock_X6_settle
set_option maxRecDepth 20000 in
theorem ggX6_addWalker_X1_copyFrom : GoodIn wsX6_addWalker wsX1_copyFrom := goodIn_r _ [7, 8, 9, 10, 11, 12, 13, 14, 15, 16, 17, 18, 19, 71, 72, 73, 74, 75, 76, 77, 78, 79] (by decide +kernel) (by decide +kernel)
set_option maxRecDepth 20000 in
theorem gX6_addWalker_X1_copyFrom : GoodIn wsX6_addWalker (wsV RX6 64 RX1 yX1_copyFrom wsX1_copyFrom) := goodIn_app (goodIn_of _ (by decide +kernel)) ggX6_addWalker_X1_copyFrom
set_option maxRecDepth 20000 in
theorem ggX6_addWalker_X1_enterWalker : GoodIn wsX6_addWalker wsX1_enterWalker := goodIn_r _ [23, 17, 13, 24, 25, 26, 27, 28, 29, 6, 30, 15, 14, 71, 72, 73, 74, 75, 76, 77, 78, 79] (by decide +kernel) (by decide +kernel)
set_option maxRecDepth 20000 in
theorem gX6_addWalker_X1_enterWalker : GoodIn wsX6_addWalker (wsV RX6 103 RX1 yX1_enterWalker wsX1_enterWalker) := goodIn_app (goodIn_of _ (by decide +kernel)) ggX6_addWalker_X1_enterWalker
set_option maxRecDepth 20000 in
theorem ggX6_addWalker_X6_settle : GoodIn wsX6_addWalker wsX6_settle := goodIn_ca (goodIn_ca (goodIn_ca (goodIn_ca (goodIn_ca (goodIn_r _ [34, 35, 36, 37, 38, 39, 40, 41, 42, 43, 44, 45, 1, 46, 47, 48, 49, 50, 51, 52, 53, 54, 55, 56, 57, 58, 4, 5, 6, 7, 8, 9, 10, 11, 12, 13, 14, 15, 16, 17, 18, 19, 59, 60, 61, 62, 63, 64, 65, 66, 67, 68, 69, 70, 80, 81, 82, 71, 72, 73, 74, 75, 76, 77, 78, 79] (by decide +kernel) (by decide +kernel)) (goodIn_sub (fun _ h => List.mem_cons_of_mem _ (List.mem_append_left _ (List.mem_append_left _ (List.mem_append_left _ (List.mem_append_left _ (List.mem_append_right _ h)))))) (by decide +kernel))) (goodIn_sub (fun _ h => List.mem_cons_of_mem _ (List.mem_append_left _ (List.mem_append_left _ (List.mem_append_left _ (List.mem_append_right _ h))))) (by decide +kernel))) (goodIn_sub (fun _ h => List.mem_cons_of_mem _ (List.mem_append_left _ (List.mem_append_left _ (List.mem_append_right _ h)))) (by decide +kernel))) (goodIn_sub (fun _ h => List.mem_cons_of_mem _ (List.mem_append_left _ (List.mem_append_right _ h))) (by decide +kernel))) (goodIn_sub (fun _ h => List.mem_cons_of_mem _ (List.mem_append_right _ h)) (by decide +kernel))
set_option maxRecDepth 20000 in
theorem gX6_addWalker_X6_settle : GoodIn wsX6_addWalker (wsV RX6 72 RX6 yX6_settle wsX6_settle) := goodIn_app (goodIn_of _ (by decide +kernel)) ggX6_addWalker_X6_settle
set_option maxRecDepth 20000 in
theorem ggX6_walk_X1_copyFrom : GoodIn wsX6_walk wsX1_copyFrom := goodIn_r _ [8, 9, 10, 11, 12, 13, 14, 15, 16, 17, 18, 19, 20, 101, 102, 103, 104, 105, 106, 107, 108, 109] (by decide +kernel) (by decide +kernel)
set_option maxRecDepth 20000 in
theorem gX6_walk_X1_copyFrom : GoodIn wsX6_walk (wsV RX6 64 RX1 yX1_copyFrom wsX1_copyFrom) := goodIn_app (goodIn_of _ (by decide +kernel)) ggX6_walk_X1_copyFrom
set_option maxRecDepth 20000 in
theorem ggX6_walk_X1_moveWalker : GoodIn wsX6_walk wsX1_moveWalker := goodIn_r _ [24, 16, 25, 20, 26, 27, 28, 7, 29, 18, 30, 31, 32, 33, 34, 35, 36, 37, 38, 39, 40, 41, 42, 43, 44, 45, 46, 47, 48, 49, 9, 50, 51, 52, 53, 54, 55, 56, 14, 15, 57, 58, 59, 60, 101, 102, 103, 104, 105, 106, 107, 108, 109, 110, 111, 112, 113, 114] (by decide +kernel) (by decide +kernel)
set_option maxRecDepth 20000 in
theorem gX6_walk_X1_moveWalker : GoodIn wsX6_walk (wsV RX6 106 RX1 yX1_moveWalker wsX1_moveWalker) := goodIn_app (goodIn_of _ (by decide +kernel)) ggX6_walk_X1_moveWalker
set_option maxRecDepth 20000 in
theorem ggX6_walk_X6_settle : GoodIn wsX6_walk wsX6_settle := goodIn_ca (goodIn_ca (goodIn_ca (goodIn_ca (goodIn_ca (goodIn_r _ [64, 65, 66, 67, 68, 69, 70, 71, 72, 73, 74, 75, 1, 76, 77, 78, 79, 80, 81, 82, 83, 84, 85, 86, 87, 88, 5, 6, 7, 8, 9, 10, 11, 12, 13, 14, 15, 16, 17, 18, 19, 20, 89, 90, 91, 92, 93, 94, 95, 96, 97, 98, 99, 100, 115, 116, 117, 101, 102, 103, 104, 105, 106, 107, 108, 109] (by decide +kernel) (by decide +kernel)) (goodIn_sub (fun _ h => List.mem_cons_of_mem _ (List.mem_append_left _ (List.mem_append_left _ (List.mem_append_left _ (List.mem_append_left _ (List.mem_append_right _ h)))))) (by decide +kernel))) (goodIn_sub (fun _ h => List.mem_cons_of_mem _ (List.mem_append_left _ (List.mem_append_left _ (List.mem_append_left _ (List.mem_append_right _ h))))) (by decide +kernel))) (goodIn_sub (fun _ h => List.mem_cons_of_mem _ (List.mem_append_left _ (List.mem_append_left _ (List.mem_append_right _ h)))) (by decide +kernel))) (goodIn_sub (fun _ h => List.mem_cons_of_mem _ (List.mem_append_left _ (List.mem_append_right _ h))) (by decide +kernel))) (goodIn_sub (fun _ h => List.mem_cons_of_mem _ (List.mem_append_right _ h)) (by decide +kernel))
set_option maxRecDepth 20000 in
theorem gX6_walk_X6_settle : GoodIn wsX6_walk (wsV RX6 72 RX6 yX6_settle wsX6_settle) := goodIn_app (goodIn_of _ (by decide +kernel)) ggX6_walk_X6_settle
set_option maxRecDepth 20000 in
theorem ggX6_openings_X6_needCell : GoodIn wsX6_openings wsX6_needCell := goodIn_ca (goodIn_r _ [6, 7, 8, 9, 10, 5, 11] (by decide +kernel) (by decide +kernel)) (goodIn_sub (fun _ h => List.mem_cons_of_mem _ (List.mem_append_right _ h)) (by decide +kernel))
set_option maxRecDepth 20000 in
theorem gX6_openings_X6_needCell : GoodIn wsX6_openings (va_wsS RX6 114 yX6_needCell wsX6_needCell) := goodIn_app (goodIn_of _ (by decide +kernel)) ggX6_openings_X6_needCell
set_option maxRecDepth 20000 in
theorem ggX6_isPinned_X6_needCell : GoodIn wsX6_isPinned wsX6_needCell := goodIn_ca (goodIn_r _ [5, 6, 7, 8, 9, 4, 10] (by decide +kernel) (by decide +kernel)) (goodIn_sub (fun _ h => List.mem_cons_of_mem _ (List.mem_append_right _ h)) (by decide +kernel))
set_option maxRecDepth 20000 in
theorem gX6_isPinned_X6_needCell : GoodIn wsX6_isPinned (va_wsS RX6 114 yX6_needCell wsX6_needCell) := goodIn_app (goodIn_of _ (by decide +kernel)) ggX6_isPinned_X6_needCell
set_option maxRecDepth 20000 in
theorem ggX6_isPinned_X1_isFixed : GoodIn wsX6_isPinned wsX1_isFixed := goodIn_r _ [15, 16, 29, 30, 31, 32, 33, 34, 35, 36, 37] (by decide +kernel) (by decide +kernel)
set_option maxRecDepth 20000 in
theorem gX6_isPinned_X1_isFixed : GoodIn wsX6_isPinned (wsV RX6 117 RX1 yX1_isFixed wsX1_isFixed) := goodIn_app (goodIn_of _ (by decide +kernel)) ggX6_isPinned_X1_isFixed
set_option maxRecDepth 20000 in
theorem ggX6_canShiftRow_X6_needLine : GoodIn wsX6_canShiftRow wsX6_needLine := goodIn_ca (goodIn_r _ [5, 6, 7, 8, 9, 4, 10] (by decide +kernel) (by decide +kernel)) (goodIn_sub (fun _ h => List.mem_cons_of_mem _ (List.mem_append_right _ h)) (by decide +kernel))
set_option maxRecDepth 20000 in
theorem gX6_canShiftRow_X6_needLine : GoodIn wsX6_canShiftRow (va_wsS RX6 121 yX6_needLine wsX6_needLine) := goodIn_app (goodIn_of _ (by decide +kernel)) ggX6_canShiftRow_X6_needLine
set_option maxRecDepth 20000 in
theorem ggX6_canShiftRow_X1_isLineFree : GoodIn wsX6_canShiftRow wsX1_isLineFree := goodIn_r _ [15, 16, 17, 18, 14, 19, 20, 33, 34, 35, 36, 37, 38, 39, 40, 41] (by decide +kernel) (by decide +kernel)
set_option maxRecDepth 20000 in
theorem gX6_canShiftRow_X1_isLineFree : GoodIn wsX6_canShiftRow (wsV RX6 124 RX1 yX1_isLineFree wsX1_isLineFree) := goodIn_app (goodIn_of _ (by decide +kernel)) ggX6_canShiftRow_X1_isLineFree
set_option maxRecDepth 20000 in
theorem ggX6_canShiftColumn_X6_needLine : GoodIn wsX6_canShiftColumn wsX6_needLine := goodIn_ca (goodIn_r _ [5, 6, 7, 8, 9, 4, 10] (by decide +kernel) (by decide +kernel)) (goodIn_sub (fun _ h => List.mem_cons_of_mem _ (List.mem_append_right _ h)) (by decide +kernel))
set_option maxRecDepth 20000 in
theorem gX6_canShiftColumn_X6_needLine : GoodIn wsX6_canShiftColumn (va_wsS RX6 121 yX6_needLine wsX6_needLine) := goodIn_app (goodIn_of _ (by decide +kernel)) ggX6_canShiftColumn_X6_needLine
set_option maxRecDepth 20000 in
theorem ggX6_canShiftColumn_X1_isLineFree : GoodIn wsX6_canShiftColumn wsX1_isLineFree := goodIn_r _ [15, 16, 17, 18, 14, 19, 20, 33, 34, 35, 36, 37, 38, 39, 40, 41] (by decide +kernel) (by decide +kernel)
set_option maxRecDepth 20000 in
theorem gX6_canShiftColumn_X1_isLineFree : GoodIn wsX6_canShiftColumn (wsV RX6 124 RX1 yX1_isLineFree wsX1_isLineFree) := goodIn_app (goodIn_of _ (by decide +kernel)) ggX6_canShiftColumn_X1_isLineFree
set_option maxRecDepth 20000 in
theorem ggX6_hasLock_X6_needCell : GoodIn wsX6_hasLock wsX6_needCell := goodIn_ca (goodIn_r _ [6, 7, 8, 9, 10, 5, 11] (by decide +kernel) (by decide +kernel)) (goodIn_sub (fun _ h => List.mem_cons_of_mem _ (List.mem_append_right _ h)) (by decide +kernel))
set_option maxRecDepth 20000 in
theorem gX6_hasLock_X6_needCell : GoodIn wsX6_hasLock (va_wsS RX6 114 yX6_needCell wsX6_needCell) := goodIn_app (goodIn_of _ (by decide +kernel)) ggX6_hasLock_X6_needCell
set_option maxRecDepth 20000 in
theorem ggX6_lockAt_X6_needCell : GoodIn wsX6_lockAt wsX6_needCell := goodIn_ca (goodIn_r _ [8, 9, 10, 11, 12, 7, 13] (by decide +kernel) (by decide +kernel)) (goodIn_sub (fun _ h => List.mem_cons_of_mem _ (List.mem_append_right _ h)) (by decide +kernel))
set_option maxRecDepth 20000 in
theorem gX6_lockAt_X6_needCell : GoodIn wsX6_lockAt (va_wsS RX6 114 yX6_needCell wsX6_needCell) := goodIn_app (goodIn_of _ (by decide +kernel)) ggX6_lockAt_X6_needCell
set_option maxRecDepth 20000 in
theorem ggX6_lockAt_X6_keyName : GoodIn wsX6_lockAt wsX6_keyName := goodIn_r _ [16] (by decide +kernel) (by decide +kernel)
set_option maxRecDepth 20000 in
theorem gX6_lockAt_X6_keyName : GoodIn wsX6_lockAt (va_wsS RX6 138 yX6_keyName wsX6_keyName) := goodIn_app (goodIn_of _ (by decide +kernel)) ggX6_lockAt_X6_keyName
set_option maxRecDepth 20000 in
theorem ggX6_keysAt_X6_needCell : GoodIn wsX6_keysAt wsX6_needCell := goodIn_ca (goodIn_r _ [5, 6, 7, 8, 9, 4, 10] (by decide +kernel) (by decide +kernel)) (goodIn_sub (fun _ h => List.mem_cons_of_mem _ (List.mem_append_right _ h)) (by decide +kernel))
set_option maxRecDepth 20000 in
theorem gX6_keysAt_X6_needCell : GoodIn wsX6_keysAt (va_wsS RX6 114 yX6_needCell wsX6_needCell) := goodIn_app (goodIn_of _ (by decide +kernel)) ggX6_keysAt_X6_needCell
set_option maxRecDepth 20000 in
theorem ggX6_keysAt_X1_countKeys : GoodIn wsX6_keysAt wsX1_countKeys := goodIn_r _ [15, 16, 29, 30, 31, 32, 33, 34, 35, 36, 37] (by decide +kernel) (by decide +kernel)
set_option maxRecDepth 20000 in
theorem gX6_keysAt_X1_countKeys : GoodIn wsX6_keysAt (wsV RX6 142 RX1 yX1_countKeys wsX1_countKeys) := goodIn_app (goodIn_of _ (by decide +kernel)) ggX6_keysAt_X1_countKeys
set_option maxRecDepth 20000 in
theorem ggX6_isConnected_X6_needCell : GoodIn wsX6_isConnected wsX6_needCell := goodIn_ca (goodIn_r _ [7, 8, 9, 10, 11, 6, 12] (by decide +kernel) (by decide +kernel)) (goodIn_sub (fun _ h => List.mem_cons_of_mem _ (List.mem_append_right _ h)) (by decide +kernel))
set_option maxRecDepth 20000 in
theorem gX6_isConnected_X6_needCell : GoodIn wsX6_isConnected (va_wsS RX6 114 yX6_needCell wsX6_needCell) := goodIn_app (goodIn_of _ (by decide +kernel)) ggX6_isConnected_X6_needCell
set_option maxRecDepth 20000 in
theorem ggX6_isConnected_X1_connectedNeighbour : GoodIn wsX6_isConnected wsX1_connectedNeighbour := goodIn_r _ [17, 18, 19, 20, 16, 21, 34, 35, 36, 37, 38, 39, 40, 41, 42] (by decide +kernel) (by decide +kernel)
set_option maxRecDepth 20000 in
theorem gX6_isConnected_X1_connectedNeighbour : GoodIn wsX6_isConnected (wsV RX6 150 RX1 yX1_connectedNeighbour wsX1_connectedNeighbour) := goodIn_app (goodIn_of _ (by decide +kernel)) ggX6_isConnected_X1_connectedNeighbour
set_option maxRecDepth 20000 in
theorem ggX6_regionCount_X5_countGroups : GoodIn wsX6_regionCount wsX5_countGroups := goodIn_r _ [7, 8, 9, 10, 11, 12, 13, 14, 15, 6, 16, 17, 18, 19, 20, 21, 22, 23, 24, 25, 26, 39, 40, 41, 42, 43, 44, 45, 46, 47, 48, 49, 50, 51, 52] (by decide +kernel) (by decide +kernel)
set_option maxRecDepth 20000 in
theorem gX6_regionCount_X5_countGroups : GoodIn wsX6_regionCount (wsV RX6 153 RX5 yX5_countGroups wsX5_countGroups) := goodIn_app (goodIn_of _ (by decide +kernel)) ggX6_regionCount_X5_countGroups
set_option maxRecDepth 20000 in
theorem ggX6_regionCountByMerging_X5_countGroupsByMerging : GoodIn wsX6_regionCountByMerging wsX5_countGroupsByMerging := goodIn_r _ [7, 8, 9, 10, 11, 12, 13, 14, 15, 16, 17, 18, 19, 20, 6, 21, 34, 35, 36, 37, 38, 39, 40, 41, 42, 43, 44, 45, 46, 47] (by decide +kernel) (by decide +kernel)
set_option maxRecDepth 20000 in
theorem gX6_regionCountByMerging_X5_countGroupsByMerging : GoodIn wsX6_regionCountByMerging (wsV RX6 157 RX5 yX5_countGroupsByMerging wsX5_countGroupsByMerging) := goodIn_app (goodIn_of _ (by decide +kernel)) ggX6_regionCountByMerging_X5_countGroupsByMerging
set_option maxRecDepth 20000 in
theorem ggX6_keyRow_X6_needKeyCell : GoodIn wsX6_keyRow wsX6_needKeyCell := goodIn_ca (goodIn_ca (goodIn_r _ [5, 6, 7, 8, 9, 10, 11, 4, 12, 13, 14, 15, 16, 17, 18, 19, 20, 21, 22, 23, 24, 25, 26, 27, 28, 29, 30, 31, 32, 33, 34, 35, 36, 37, 38, 39, 40, 41] (by decide +kernel) (by decide +kernel)) (goodIn_sub (fun _ h => List.mem_cons_of_mem _ (List.mem_append_left _ (List.mem_append_right _ h))) (by decide +kernel))) (goodIn_sub (fun _ h => List.mem_cons_of_mem _ (List.mem_append_right _ h)) (by decide +kernel))
set_option maxRecDepth 20000 in
theorem gX6_keyRow_X6_needKeyCell : GoodIn wsX6_keyRow (wsV RX6 160 RX6 yX6_needKeyCell wsX6_needKeyCell) := goodIn_app (goodIn_of _ (by decide +kernel)) ggX6_keyRow_X6_needKeyCell
set_option maxRecDepth 20000 in
theorem ggX6_keyColumn_X6_needKeyCell : GoodIn wsX6_keyColumn wsX6_needKeyCell := goodIn_ca (goodIn_ca (goodIn_r _ [5, 6, 7, 8, 9, 10, 11, 4, 12, 13, 14, 15, 16, 17, 18, 19, 20, 21, 22, 23, 24, 25, 26, 27, 28, 29, 30, 31, 32, 33, 34, 35, 36, 37, 38, 39, 40, 41] (by decide +kernel) (by decide +kernel)) (goodIn_sub (fun _ h => List.mem_cons_of_mem _ (List.mem_append_left _ (List.mem_append_right _ h))) (by decide +kernel))) (goodIn_sub (fun _ h => List.mem_cons_of_mem _ (List.mem_append_right _ h)) (by decide +kernel))
set_option maxRecDepth 20000 in
theorem gX6_keyColumn_X6_needKeyCell : GoodIn wsX6_keyColumn (wsV RX6 160 RX6 yX6_needKeyCell wsX6_needKeyCell) := goodIn_app (goodIn_of _ (by decide +kernel)) ggX6_keyColumn_X6_needKeyCell
set_option maxRecDepth 20000 in
theorem ggX6_carrierOf_X6_needKey : GoodIn wsX6_carrierOf wsX6_needKey := goodIn_ca (goodIn_r _ [8, 9, 10, 11, 12, 7, 13] (by decide +kernel) (by decide +kernel)) (goodIn_sub (fun _ h => List.mem_cons_of_mem _ (List.mem_append_right _ h)) (by decide +kernel))
set_option maxRecDepth 20000 in
theorem gX6_carrierOf_X6_needKey : GoodIn wsX6_carrierOf (va_wsS RX6 167 yX6_needKey wsX6_needKey) := goodIn_app (goodIn_of _ (by decide +kernel)) ggX6_carrierOf_X6_needKey
set_option maxRecDepth 20000 in
theorem ggX6_walkerRow_X6_needWalker : GoodIn wsX6_walkerRow wsX6_needWalker := goodIn_ca (goodIn_r _ [7, 8, 9, 1, 10, 11, 12, 13, 14, 15, 16, 17, 18, 19, 20, 21, 22, 23, 24, 25, 26, 27, 28, 29, 30, 31, 32, 33, 34, 35, 36] (by decide +kernel) (by decide +kernel)) (goodIn_sub (fun _ h => List.mem_cons_of_mem _ (List.mem_append_right _ h)) (by decide +kernel))
set_option maxRecDepth 20000 in
theorem gX6_walkerRow_X6_needWalker : GoodIn wsX6_walkerRow (wsV RX6 178 RX6 yX6_needWalker wsX6_needWalker) := goodIn_app (goodIn_of _ (by decide +kernel)) ggX6_walkerRow_X6_needWalker
set_option maxRecDepth 20000 in
theorem ggX6_walkerColumn_X6_needWalker : GoodIn wsX6_walkerColumn wsX6_needWalker := goodIn_ca (goodIn_r _ [7, 8, 9, 1, 10, 11, 12, 13, 14, 15, 16, 17, 18, 19, 20, 21, 22, 23, 24, 25, 26, 27, 28, 29, 30, 31, 32, 33, 34, 35, 36] (by decide +kernel) (by decide +kernel)) (goodIn_sub (fun _ h => List.mem_cons_of_mem _ (List.mem_append_right _ h)) (by decide +kernel))
set_option maxRecDepth 20000 in
theorem gX6_walkerColumn_X6_needWalker : GoodIn wsX6_walkerColumn (wsV RX6 178 RX6 yX6_needWalker wsX6_needWalker) := goodIn_app (goodIn_of _ (by decide +kernel)) ggX6_walkerColumn_X6_needWalker
set_option maxRecDepth 20000 in
theorem ggX6_keysOf_X6_needWalker : GoodIn wsX6_keysOf wsX6_needWalker := goodIn_ca (goodIn_r _ [6, 7, 8, 1, 9, 10, 11, 12, 13, 14, 20, 21, 22, 23, 24, 25, 26, 27, 28, 29, 30, 31, 32, 33, 34, 35, 36, 37, 38, 39, 40] (by decide +kernel) (by decide +kernel)) (goodIn_sub (fun _ h => List.mem_cons_of_mem _ (List.mem_append_right _ h)) (by decide +kernel))
set_option maxRecDepth 20000 in
theorem gX6_keysOf_X6_needWalker : GoodIn wsX6_keysOf (wsV RX6 178 RX6 yX6_needWalker wsX6_needWalker) := goodIn_app (goodIn_of _ (by decide +kernel)) ggX6_keysOf_X6_needWalker
set_option maxRecDepth 20000 in
theorem ggX6_keysOf_X1_countKeys : GoodIn wsX6_keysOf wsX1_countKeys := goodIn_r _ [18, 19, 32, 33, 34, 35, 36, 37, 38, 39, 40] (by decide +kernel) (by decide +kernel)
set_option maxRecDepth 20000 in
theorem gX6_keysOf_X1_countKeys : GoodIn wsX6_keysOf (wsV RX6 142 RX1 yX1_countKeys wsX1_countKeys) := goodIn_app (goodIn_of _ (by decide +kernel)) ggX6_keysOf_X1_countKeys
set_option maxRecDepth 20000 in
theorem ggX6_pathLength_X6_needWalker : GoodIn wsX6_pathLength wsX6_needWalker := goodIn_ca (goodIn_r _ [8, 9, 10, 2, 11, 12, 13, 14, 15, 16, 55, 56, 57, 58, 59, 60, 61, 62, 63, 64, 65, 66, 72, 73, 74, 75, 76, 77, 78, 79, 80] (by decide +kernel) (by decide +kernel)) (goodIn_sub (fun _ h => List.mem_cons_of_mem _ (List.mem_append_left _ (List.mem_append_right _ h))) (by decide +kernel))
set_option maxRecDepth 20000 in
theorem gX6_pathLength_X6_needWalker : GoodIn wsX6_pathLength (wsV RX6 178 RX6 yX6_needWalker wsX6_needWalker) := goodIn_app (goodIn_of _ (by decide +kernel)) ggX6_pathLength_X6_needWalker
set_option maxRecDepth 20000 in
theorem ggX6_pathLength_X6_needCell : GoodIn wsX6_pathLength wsX6_needCell := goodIn_ca (goodIn_r _ [19, 9, 10, 20, 21, 7, 22] (by decide +kernel) (by decide +kernel)) (goodIn_sub (fun _ h => List.mem_cons_of_mem _ (List.mem_append_left _ (List.mem_append_right _ h))) (by decide +kernel))
set_option maxRecDepth 20000 in
theorem gX6_pathLength_X6_needCell : GoodIn wsX6_pathLength (va_wsS RX6 114 yX6_needCell wsX6_needCell) := goodIn_app (goodIn_of _ (by decide +kernel)) ggX6_pathLength_X6_needCell
set_option maxRecDepth 20000 in
theorem ggX6_pathLength_X5_findPaths : GoodIn wsX6_pathLength wsX5_findPaths := goodIn_r _ [27, 28, 29, 30, 31, 32, 33, 34, 35, 36, 37, 38, 14, 39, 40, 41, 42, 43, 44, 45, 46, 47, 48, 49, 72, 73, 74, 75, 76, 77, 78, 79, 80, 67, 68, 69, 70, 71] (by decide +kernel) (by decide +kernel)
set_option maxRecDepth 20000 in
theorem gX6_pathLength_X5_findPaths : GoodIn wsX6_pathLength (wsV RX6 181 RX5 yX5_findPaths wsX5_findPaths) := goodIn_app (goodIn_of _ (by decide +kernel)) ggX6_pathLength_X5_findPaths
set_option maxRecDepth 20000 in
theorem ggX6_pathLength_X6_needPath : GoodIn wsX6_pathLength wsX6_needPath := goodIn_ca (goodIn_r _ [52, 53, 54] (by decide +kernel) (by decide +kernel)) (goodIn_sub (fun _ h => List.mem_cons_of_mem _ (List.mem_append_right _ h)) (by decide +kernel))
set_option maxRecDepth 20000 in
theorem gX6_pathLength_X6_needPath : GoodIn wsX6_pathLength (va_wsS RX6 188 yX6_needPath wsX6_needPath) := goodIn_app (goodIn_of _ (by decide +kernel)) ggX6_pathLength_X6_needPath
set_option maxRecDepth 20000 in
theorem ggX6_pathLengthByRounds_X6_needWalker : GoodIn wsX6_pathLengthByRounds wsX6_needWalker := goodIn_ca (goodIn_r _ [8, 9, 10, 2, 11, 12, 13, 14, 15, 16, 57, 58, 59, 60, 61, 62, 63, 64, 65, 66, 67, 68, 74, 75, 76, 77, 78, 79, 80, 81, 82] (by decide +kernel) (by decide +kernel)) (goodIn_sub (fun _ h => List.mem_cons_of_mem _ (List.mem_append_left _ (List.mem_append_right _ h))) (by decide +kernel))
set_option maxRecDepth 20000 in
theorem gX6_pathLengthByRounds_X6_needWalker : GoodIn wsX6_pathLengthByRounds (wsV RX6 178 RX6 yX6_needWalker wsX6_needWalker) := goodIn_app (goodIn_of _ (by decide +kernel)) ggX6_pathLengthByRounds_X6_needWalker
set_option maxRecDepth 20000 in
theorem ggX6_pathLengthByRounds_X6_needCell : GoodIn wsX6_pathLengthByRounds wsX6_needCell := goodIn_ca (goodIn_r _ [19, 9, 10, 20, 21, 7, 22] (by decide +kernel) (by decide +kernel)) (goodIn_sub (fun _ h => List.mem_cons_of_mem _ (List.mem_append_left _ (List.mem_append_right _ h))) (by decide +kernel))
set_option maxRecDepth 20000 in
theorem gX6_pathLengthByRounds_X6_needCell : GoodIn wsX6_pathLengthByRounds (va_wsS RX6 114 yX6_needCell wsX6_needCell) := goodIn_app (goodIn_of _ (by decide +kernel)) ggX6_pathLengthByRounds_X6_needCell
set_option maxRecDepth 20000 in
theorem ggX6_pathLengthByRounds_X5_findLengthsByRounds : GoodIn wsX6_pathLengthByRounds wsX5_findLengthsByRounds := goodIn_r _ [27, 28, 29, 30, 31, 32, 33, 34, 35, 36, 26, 37, 38, 39, 40, 14, 41, 42, 43, 44, 45, 46, 47, 48, 49, 50, 51, 69, 70, 71, 72, 73, 74, 75, 76, 77, 78, 79, 80, 81, 82] (by decide +kernel) (by decide +kernel)
set_option maxRecDepth 20000 in
theorem gX6_pathLengthByRounds_X5_findLengthsByRounds : GoodIn wsX6_pathLengthByRounds (wsV RX6 191 RX5 yX5_findLengthsByRounds wsX5_findLengthsByRounds) := goodIn_app (goodIn_of _ (by decide +kernel)) ggX6_pathLengthByRounds_X5_findLengthsByRounds
set_option maxRecDepth 20000 in
theorem ggX6_pathLengthByRounds_X6_needPath : GoodIn wsX6_pathLengthByRounds wsX6_needPath := goodIn_ca (goodIn_r _ [54, 55, 56] (by decide +kernel) (by decide +kernel)) (goodIn_sub (fun _ h => List.mem_cons_of_mem _ (List.mem_append_right _ h)) (by decide +kernel))
set_option maxRecDepth 20000 in
theorem gX6_pathLengthByRounds_X6_needPath : GoodIn wsX6_pathLengthByRounds (va_wsS RX6 188 yX6_needPath wsX6_needPath) := goodIn_app (goodIn_of _ (by decide +kernel)) ggX6_pathLengthByRounds_X6_needPath
set_option maxRecDepth 20000 in
theorem ggX6_firstStep_X6_needWalker : GoodIn wsX6_firstStep wsX6_needWalker := goodIn_ca (goodIn_r _ [11, 12, 13, 4, 14, 15, 16, 17, 18, 19, 56, 57, 58, 59, 60, 61, 62, 63, 64, 65, 66, 67, 73, 74, 75, 76, 77, 78, 79, 80, 81] (by decide +kernel) (by decide +kernel)) (goodIn_sub (fun _ h => List.mem_cons_of_mem _ (List.mem_append_right _ h)) (by decide +kernel))
set_option maxRecDepth 20000 in
theorem gX6_firstStep_X6_needWalker : GoodIn wsX6_firstStep (wsV RX6 178 RX6 yX6_needWalker wsX6_needWalker) := goodIn_app (goodIn_of _ (by decide +kernel)) ggX6_firstStep_X6_needWalker
set_option maxRecDepth 20000 in
theorem ggX6_firstStep_X6_needCell : GoodIn wsX6_firstStep wsX6_needCell := goodIn_ca (goodIn_r _ [22, 12, 13, 23, 24, 10, 25] (by decide +kernel) (by decide +kernel)) (goodIn_sub (fun _ h => List.mem_cons_of_mem _ (List.mem_append_right _ h)) (by decide +kernel))
set_option maxRecDepth 20000 in
theorem gX6_firstStep_X6_needCell : GoodIn wsX6_firstStep (va_wsS RX6 114 yX6_needCell wsX6_needCell) := goodIn_app (goodIn_of _ (by decide +kernel)) ggX6_firstStep_X6_needCell
set_option maxRecDepth 20000 in
theorem ggX6_firstStep_X5_findPaths : GoodIn wsX6_firstStep wsX5_findPaths := goodIn_r _ [30, 31, 32, 33, 34, 35, 36, 37, 38, 39, 40, 41, 17, 42, 43, 44, 45, 46, 47, 48, 49, 50, 51, 52, 73, 74, 75, 76, 77, 78, 79, 80, 81, 68, 69, 70, 71, 72] (by decide +kernel) (by decide +kernel)
set_option maxRecDepth 20000 in
theorem gX6_firstStep_X5_findPaths : GoodIn wsX6_firstStep (wsV RX6 181 RX5 yX5_findPaths wsX5_findPaths) := goodIn_app (goodIn_of _ (by decide +kernel)) ggX6_firstStep_X5_findPaths
set_option maxRecDepth 20000 in
theorem ggX6_firstStep_X6_needPath : GoodIn wsX6_firstStep wsX6_needPath := goodIn_ca (goodIn_r _ [55, 1, 2] (by decide +kernel) (by decide +kernel)) (goodIn_sub (fun _ h => List.mem_cons_of_mem _ (List.mem_append_left _ (List.mem_append_right _ h))) (by decide +kernel))
set_option maxRecDepth 20000 in
theorem gX6_firstStep_X6_needPath : GoodIn wsX6_firstStep (va_wsS RX6 188 yX6_needPath wsX6_needPath) := goodIn_app (goodIn_of _ (by decide +kernel)) ggX6_firstStep_X6_needPath
set_option maxRecDepth 20000 in
theorem ggX6_reachableCells_X6_needWalker : GoodIn wsX6_reachableCells wsX6_needWalker := goodIn_ca (goodIn_r _ [7, 8, 9, 2, 10, 11, 12, 13, 14, 15, 47, 48, 49, 50, 51, 52, 53, 54, 55, 56, 57, 58, 59, 60, 61, 62, 63, 64, 65, 66, 67] (by decide +kernel) (by decide +kernel)) (goodIn_sub (fun _ h => List.mem_cons_of_mem _ (List.mem_append_right _ h)) (by decide +kernel))
set_option maxRecDepth 20000 in
theorem gX6_reachableCells_X6_needWalker : GoodIn wsX6_reachableCells (wsV RX6 178 RX6 yX6_needWalker wsX6_needWalker) := goodIn_app (goodIn_of _ (by decide +kernel)) ggX6_reachableCells_X6_needWalker
set_option maxRecDepth 20000 in
theorem ggX6_reachableCells_X5_findPaths : GoodIn wsX6_reachableCells wsX5_findPaths := goodIn_r _ [20, 21, 22, 23, 24, 25, 26, 27, 28, 29, 30, 31, 13, 32, 33, 34, 35, 36, 37, 38, 39, 40, 41, 42, 59, 60, 61, 62, 63, 64, 65, 66, 67, 68, 69, 70, 71, 72] (by decide +kernel) (by decide +kernel)
set_option maxRecDepth 20000 in
theorem gX6_reachableCells_X5_findPaths : GoodIn wsX6_reachableCells (wsV RX6 181 RX5 yX5_findPaths wsX5_findPaths) := goodIn_app (goodIn_of _ (by decide +kernel)) ggX6_reachableCells_X5_findPaths
set_option maxRecDepth 20000 in
theorem ggX6_reachableCells_X5_countReached : GoodIn wsX6_reachableCells wsX5_countReached := goodIn_r _ [46, 22, 68, 69, 70, 71, 72] (by decide +kernel) (by decide +kernel)
set_option maxRecDepth 20000 in
theorem gX6_reachableCells_X5_countReached : GoodIn wsX6_reachableCells (wsV RX6 202 RX5 yX5_countReached wsX5_countReached) := goodIn_app (goodIn_of _ (by decide +kernel)) ggX6_reachableCells_X5_countReached
set_option maxRecDepth 20000 in
theorem ggX6_nearestKey_X6_needWalker : GoodIn wsX6_nearestKey wsX6_needWalker := goodIn_ca (goodIn_r _ [11, 12, 13, 4, 14, 15, 16, 17, 18, 19, 53, 54, 55, 56, 57, 58, 59, 60, 61, 62, 63, 64, 65, 66, 67, 68, 69, 70, 71, 72, 73] (by decide +kernel) (by decide +kernel)) (goodIn_sub (fun _ h => List.mem_cons_of_mem _ (List.mem_append_right _ h)) (by decide +kernel))
set_option maxRecDepth 20000 in
theorem gX6_nearestKey_X6_needWalker : GoodIn wsX6_nearestKey (wsV RX6 178 RX6 yX6_needWalker wsX6_needWalker) := goodIn_app (goodIn_of _ (by decide +kernel)) ggX6_nearestKey_X6_needWalker
set_option maxRecDepth 20000 in
theorem ggX6_nearestKey_X5_findPaths : GoodIn wsX6_nearestKey wsX5_findPaths := goodIn_r _ [24, 25, 26, 27, 28, 29, 30, 31, 32, 33, 34, 35, 17, 36, 37, 38, 39, 40, 41, 42, 43, 44, 45, 46, 65, 66, 67, 68, 69, 70, 71, 72, 73, 74, 75, 76, 77, 78] (by decide +kernel) (by decide +kernel)
set_option maxRecDepth 20000 in
theorem gX6_nearestKey_X5_findPaths : GoodIn wsX6_nearestKey (wsV RX6 181 RX5 yX5_findPaths wsX5_findPaths) := goodIn_app (goodIn_of _ (by decide +kernel)) ggX6_nearestKey_X5_findPaths
set_option maxRecDepth 20000 in
theorem ggX6_nearestKey_X6_isCell : GoodIn wsX6_nearestKey wsX6_isCell := goodIn_r _ [49] (by decide +kernel) (by decide +kernel)
set_option maxRecDepth 20000 in
theorem gX6_nearestKey_X6_isCell : GoodIn wsX6_nearestKey (va_wsS RX6 206 yX6_isCell wsX6_isCell) := goodIn_app (goodIn_of _ (by decide +kernel)) ggX6_nearestKey_X6_isCell
set_option maxRecDepth 20000 in
theorem ggX6_nearestKey_X6_keyName : GoodIn wsX6_nearestKey wsX6_keyName := goodIn_r _ [52] (by decide +kernel) (by decide +kernel)
set_option maxRecDepth 20000 in
theorem gX6_nearestKey_X6_keyName : GoodIn wsX6_nearestKey (va_wsS RX6 138 yX6_keyName wsX6_keyName) := goodIn_app (goodIn_of _ (by decide +kernel)) ggX6_nearestKey_X6_keyName
set_option maxRecDepth 20000 in
theorem ggX6_helpfulShifts_X6_needWalker : GoodIn wsX6_helpfulShifts wsX6_needWalker := goodIn_ca (goodIn_r _ [5, 6, 7, 8, 9, 10, 11, 12, 13, 14, 91, 92, 93, 94, 95, 96, 97, 98, 99, 100, 101, 102, 103, 104, 105, 106, 107, 108, 109, 110, 111] (by decide +kernel) (by decide +kernel)) (goodIn_sub (fun _ h => List.mem_cons_of_mem _ (List.mem_append_right _ h)) (by decide +kernel))
set_option maxRecDepth 20000 in
theorem gX6_helpfulShifts_X6_needWalker : GoodIn wsX6_helpfulShifts (wsV RX6 178 RX6 yX6_needWalker wsX6_needWalker) := goodIn_app (goodIn_of _ (by decide +kernel)) ggX6_helpfulShifts_X6_needWalker
set_option maxRecDepth 20000 in
theorem ggX6_helpfulShifts_X6_needCell : GoodIn wsX6_helpfulShifts wsX6_needCell := goodIn_ca (goodIn_r _ [17, 6, 7, 18, 19, 4, 20] (by decide +kernel) (by decide +kernel)) (goodIn_sub (fun _ h => List.mem_cons_of_mem _ (List.mem_append_right _ h)) (by decide +kernel))
set_option maxRecDepth 20000 in
theorem gX6_helpfulShifts_X6_needCell : GoodIn wsX6_helpfulShifts (va_wsS RX6 114 yX6_needCell wsX6_needCell) := goodIn_app (goodIn_of _ (by decide +kernel)) ggX6_helpfulShifts_X6_needCell
set_option maxRecDepth 20000 in
theorem ggX6_helpfulShifts_X6_countHelpful : GoodIn wsX6_helpfulShifts wsX6_countHelpful := goodIn_r _ [24, 8, 25, 26, 27, 28, 29, 30, 12, 31, 32, 33, 34, 35, 36, 37, 38, 39, 40, 41, 42, 43, 44, 45, 46, 47, 48, 14, 49, 50, 51, 52, 53, 54, 55, 56, 57, 58, 59, 60, 61, 62, 63, 64, 65, 66, 67, 68, 69, 70, 71, 72, 73, 74, 75, 76, 77, 78, 79, 80, 81, 82, 83, 84, 85, 86, 87, 88, 89, 90, 91, 92, 93, 94, 95, 96, 97, 98, 99, 100, 101, 102, 112, 113, 114, 115, 116, 103, 104, 105, 106, 107, 108, 109, 110, 111] (by decide +kernel) (by decide +kernel)
set_option maxRecDepth 20000 in
theorem gX6_helpfulShifts_X6_countHelpful : GoodIn wsX6_helpfulShifts (wsV RX6 211 RX6 yX6_countHelpful wsX6_countHelpful) := goodIn_app (goodIn_of _ (by decide +kernel)) ggX6_helpfulShifts_X6_countHelpful
set_option maxRecDepth 20000 in
theorem ggX6_meanOpenings_J6_bitCount_0f7a4 : GoodIn wsX6_meanOpenings wsJ6_bitCount_0f7a4 := goodIn_r _ [7, 8, 9, 10] (by decide +kernel) (by decide +kernel)
set_option maxRecDepth 20000 in
theorem gX6_meanOpenings_J6_bitCount_0f7a4 : GoodIn wsX6_meanOpenings (va_wsS RX6 222 yJ6_bitCount_0f7a4 wsJ6_bitCount_0f7a4) := goodIn_app (goodIn_of _ (by decide +kernel)) ggX6_meanOpenings_J6_bitCount_0f7a4
set_option maxRecDepth 20000 in
theorem ggX6_reachableShare_X6_needWalker : GoodIn wsX6_reachableShare wsX6_needWalker := goodIn_ca (goodIn_r _ [8, 9, 10, 2, 11, 12, 13, 14, 15, 16, 48, 49, 50, 51, 52, 53, 54, 55, 56, 57, 58, 59, 60, 61, 62, 63, 64, 65, 66, 67, 68] (by decide +kernel) (by decide +kernel)) (goodIn_sub (fun _ h => List.mem_cons_of_mem _ (List.mem_append_right _ h)) (by decide +kernel))
set_option maxRecDepth 20000 in
theorem gX6_reachableShare_X6_needWalker : GoodIn wsX6_reachableShare (wsV RX6 178 RX6 yX6_needWalker wsX6_needWalker) := goodIn_app (goodIn_of _ (by decide +kernel)) ggX6_reachableShare_X6_needWalker
set_option maxRecDepth 20000 in
theorem ggX6_reachableShare_X5_findPaths : GoodIn wsX6_reachableShare wsX5_findPaths := goodIn_r _ [21, 22, 23, 24, 25, 26, 27, 28, 29, 30, 31, 32, 14, 33, 34, 35, 36, 37, 38, 39, 40, 41, 42, 43, 60, 61, 62, 63, 64, 65, 66, 67, 68, 69, 70, 71, 72, 73] (by decide +kernel) (by decide +kernel)
set_option maxRecDepth 20000 in
theorem gX6_reachableShare_X5_findPaths : GoodIn wsX6_reachableShare (wsV RX6 181 RX5 yX5_findPaths wsX5_findPaths) := goodIn_app (goodIn_of _ (by decide +kernel)) ggX6_reachableShare_X5_findPaths
set_option maxRecDepth 20000 in
theorem ggX6_reachableShare_X5_countReached : GoodIn wsX6_reachableShare wsX5_countReached := goodIn_r _ [47, 23, 69, 70, 71, 72, 73] (by decide +kernel) (by decide +kernel)
set_option maxRecDepth 20000 in
theorem gX6_reachableShare_X5_countReached : GoodIn wsX6_reachableShare (wsV RX6 202 RX5 yX5_countReached wsX5_countReached) := goodIn_app (goodIn_of _ (by decide +kernel)) ggX6_reachableShare_X5_countReached
set_option maxRecDepth 20000 in
theorem ggX6_isConsistent_X5_lengthsAgree : GoodIn wsX6_isConsistent wsX5_lengthsAgree := goodIn_r _ [8, 9, 10, 11, 12, 13, 7, 14, 15, 16, 17, 18, 19, 20, 21, 22, 23, 24, 25, 26, 27, 28, 29, 30, 31, 32, 33, 34, 35, 36, 37, 38, 39, 40, 41, 42, 43, 44, 95, 96, 97, 98, 99, 86, 87, 88, 89, 90, 91, 92, 93, 94] (by decide +kernel) (by decide +kernel)
set_option maxRecDepth 20000 in
theorem gX6_isConsistent_X5_lengthsAgree : GoodIn wsX6_isConsistent (wsV RX6 230 RX5 yX5_lengthsAgree wsX5_lengthsAgree) := goodIn_app (goodIn_of _ (by decide +kernel)) ggX6_isConsistent_X5_lengthsAgree
set_option maxRecDepth 20000 in
theorem ggX6_isConsistent_X1_keyPlacesExist : GoodIn wsX6_isConsistent wsX1_keyPlacesExist := goodIn_r _ [48, 36, 49, 50, 51, 52, 53, 54, 25, 55, 56, 86, 87, 88, 89, 90, 91, 92, 93, 94] (by decide +kernel) (by decide +kernel)
set_option maxRecDepth 20000 in
theorem gX6_isConsistent_X1_keyPlacesExist : GoodIn wsX6_isConsistent (wsV RX6 234 RX1 yX1_keyPlacesExist wsX1_keyPlacesExist) := goodIn_app (goodIn_of _ (by decide +kernel)) ggX6_isConsistent_X1_keyPlacesExist
set_option maxRecDepth 20000 in
theorem ggX6_isConsistent_X5_countGroups : GoodIn wsX6_isConsistent wsX5_countGroups := goodIn_r _ [60, 61, 18, 19, 20, 21, 62, 63, 64, 7, 65, 16, 22, 23, 24, 25, 26, 27, 28, 29, 30, 95, 96, 97, 98, 99, 86, 87, 88, 89, 90, 91, 92, 93, 94] (by decide +kernel) (by decide +kernel)
set_option maxRecDepth 20000 in
theorem gX6_isConsistent_X5_countGroups : GoodIn wsX6_isConsistent (wsV RX6 153 RX5 yX5_countGroups wsX5_countGroups) := goodIn_app (goodIn_of _ (by decide +kernel)) ggX6_isConsistent_X5_countGroups
set_option maxRecDepth 20000 in
theorem ggX6_isConsistent_X5_countGroupsByMerging : GoodIn wsX6_isConsistent wsX5_countGroupsByMerging := goodIn_r _ [69, 61, 22, 23, 24, 25, 26, 27, 28, 29, 30, 70, 71, 72, 7, 73, 95, 96, 97, 98, 99, 86, 87, 88, 89, 90, 91, 92, 93, 94] (by decide +kernel) (by decide +kernel)
set_option maxRecDepth 20000 in
theorem gX6_isConsistent_X5_countGroupsByMerging : GoodIn wsX6_isConsistent (wsV RX6 157 RX5 yX5_countGroupsByMerging wsX5_countGroupsByMerging) := goodIn_app (goodIn_of _ (by decide +kernel)) ggX6_isConsistent_X5_countGroupsByMerging
set_option maxRecDepth 20000 in
theorem ggX6_run_X4_findError : GoodIn wsX6_run wsX4_findError := goodIn_r _ [16, 17, 18, 19, 20, 21, 22, 15, 23, 24, 25, 26, 27, 28, 29, 30, 31, 32, 33, 34, 35, 36, 37, 38, 39, 40, 41, 42, 43, 44, 45, 46, 47, 48, 49, 50, 51, 52, 53, 54, 55, 56, 57, 58, 59, 60, 61, 62, 63, 64, 65, 66, 67, 68, 69, 70, 71, 72, 73, 74, 75, 76, 77, 78, 79, 80, 81, 82, 83, 84, 85, 86, 87, 88, 89, 90, 91, 92, 93, 94, 95, 289, 290, 291, 292, 293, 294, 295, 296, 297] (by decide +kernel) (by decide +kernel)
set_option maxRecDepth 20000 in
theorem gX6_run_X4_findError : GoodIn wsX6_run (wsV RX6 250 RX4 yX4_findError wsX4_findError) := goodIn_app (goodIn_of _ (by decide +kernel)) ggX6_run_X4_findError
set_option maxRecDepth 20000 in
theorem ggX6_run_X4_clear : GoodIn wsX6_run wsX4_clear := goodIn_r _ [99, 18, 289, 290, 291, 292, 293] (by decide +kernel) (by decide +kernel)
set_option maxRecDepth 20000 in
theorem gX6_run_X4_clear : GoodIn wsX6_run (wsV RX6 253 RX4 yX4_clear wsX4_clear) := goodIn_app (goodIn_of _ (by decide +kernel)) ggX6_run_X4_clear
set_option maxRecDepth 20000 in
theorem ggX6_run_X1_copyFrom : GoodIn wsX6_run wsX1_copyFrom := goodIn_r _ [104, 105, 106, 107, 108, 109, 110, 111, 112, 113, 114, 115, 116, 298, 299, 300, 301, 302, 303, 304, 305, 306] (by decide +kernel) (by decide +kernel)
set_option maxRecDepth 20000 in
theorem gX6_run_X1_copyFrom : GoodIn wsX6_run (wsV RX6 64 RX1 yX1_copyFrom wsX1_copyFrom) := goodIn_app (goodIn_of _ (by decide +kernel)) ggX6_run_X1_copyFrom
set_option maxRecDepth 20000 in
theorem ggX6_run_X6_findFailure : GoodIn wsX6_run wsX6_findFailure := goodIn_r _ [120, 5, 11, 121, 122, 123, 21, 22, 15, 23, 24, 25, 26, 27, 28, 29, 30, 31, 32, 33, 18, 19, 34, 35, 36, 37, 38, 39, 40, 41, 42, 43, 44, 45, 46, 47, 48, 49, 50, 51, 52, 53, 54, 55, 56, 57, 58, 59, 60, 61, 62, 63, 64, 65, 66, 67, 68, 69, 70, 71, 72, 73, 74, 75, 76, 77, 78, 79, 80, 81, 82, 83, 84, 85, 86, 87, 88, 89, 90, 91, 92, 93, 94, 95, 124, 125, 126, 127, 128, 8, 129, 130, 131, 132, 133, 134, 135, 136, 137, 138, 139, 103, 140, 105, 141, 142, 143, 144, 145, 146, 147, 148, 149, 150, 113, 151, 152, 153, 154, 155, 156, 157, 158, 159, 160, 161, 162, 163, 164, 165, 166, 167, 168, 169, 170, 171, 172, 173, 115, 174, 175, 176, 177, 178, 179, 180, 181, 110, 111, 114, 112, 182, 183, 184, 185, 186, 187, 188, 189, 190, 191, 192, 193, 194, 195, 196, 197, 198, 199, 200, 201, 202, 203, 204, 205, 206, 207, 208, 209, 210, 211, 212, 213, 214, 215, 216, 217, 218, 219, 220, 221, 222, 223, 224, 225, 226, 227, 228, 229, 230, 231, 232, 233, 234, 235, 236, 116, 237, 238, 239, 240, 241, 242, 243, 244, 245, 246, 247, 248, 249, 250, 251, 252, 253, 254, 255, 256, 257, 258, 259, 260, 261, 262, 263, 264, 277, 278, 279, 280, 281, 282, 283, 284, 285, 286, 287, 288, 289, 290, 291, 292, 293, 294, 295, 296, 297, 298, 299, 300, 301, 302, 303, 304, 305, 306, 307, 308, 309, 310, 311] (by decide +kernel) (by decide +kernel)
set_option maxRecDepth 20000 in
theorem gX6_run_X6_findFailure : GoodIn wsX6_run (wsV RX6 258 RX6 yX6_findFailure wsX6_findFailure) := goodIn_app (goodIn_of _ (by decide +kernel)) ggX6_run_X6_findFailure
set_option maxRecDepth 20000 in
theorem ggX6_run_X3_add : GoodIn wsX6_run wsX3_add := goodIn_r _ [269, 270, 271, 272, 273, 274, 28, 275, 276, 101, 102, 103, 104, 105, 106, 107, 108, 109, 110, 111, 112, 113, 114, 115, 116, 312, 313, 314, 298, 299, 300, 301, 302, 303, 304, 305, 306] (by decide +kernel) (by decide +kernel)
set_option maxRecDepth 20000 in
theorem gX6_run_X3_add : GoodIn wsX6_run (wsV RX6 266 RX3 yX3_add wsX3_add) := goodIn_app (goodIn_of _ (by decide +kernel)) ggX6_run_X3_add
set_option maxRecDepth 20000 in
theorem ggX6_writeRow_X6_needLine : GoodIn wsX6_writeRow wsX6_needLine := goodIn_ca (goodIn_r _ [5, 6, 7, 8, 9, 4, 10] (by decide +kernel) (by decide +kernel)) (goodIn_sub (fun _ h => List.mem_cons_of_mem _ (List.mem_append_right _ h)) (by decide +kernel))
set_option maxRecDepth 20000 in
theorem gX6_writeRow_X6_needLine : GoodIn wsX6_writeRow (va_wsS RX6 121 yX6_needLine wsX6_needLine) := goodIn_app (goodIn_of _ (by decide +kernel)) ggX6_writeRow_X6_needLine
set_option maxRecDepth 20000 in
theorem ggX6_writeRow_X6_write : GoodIn wsX6_writeRow wsX6_write := goodIn_r _ [14, 1, 15, 39, 40, 41, 42, 43, 44, 45, 46, 47, 48, 49, 50] (by decide +kernel) (by decide +kernel)
set_option maxRecDepth 20000 in
theorem gX6_writeRow_X6_write : GoodIn wsX6_writeRow (wsV RX6 275 RX6 yX6_write wsX6_write) := goodIn_app (goodIn_of _ (by decide +kernel)) ggX6_writeRow_X6_write
set_option maxRecDepth 20000 in
theorem ggX6_writeRow_X6_writeTile : GoodIn wsX6_writeRow wsX6_writeTile := goodIn_r _ [19, 20, 21, 22, 23, 11, 12, 13, 4, 14, 1, 15, 24, 25, 26, 27, 28, 29, 30, 31, 32, 33, 34, 35, 36, 37, 38, 39, 40, 41, 42, 43, 44, 45, 46, 47, 48, 49, 50, 51, 52, 53, 54, 55, 56, 57, 58, 59] (by decide +kernel) (by decide +kernel)
set_option maxRecDepth 20000 in
theorem gX6_writeRow_X6_writeTile : GoodIn wsX6_writeRow (wsV RX6 279 RX6 yX6_writeTile wsX6_writeTile) := goodIn_app (goodIn_of _ (by decide +kernel)) ggX6_writeRow_X6_writeTile
set_option maxRecDepth 20000 in
theorem ggX6_save_X1_copyFrom : GoodIn wsX6_save wsX1_copyFrom := goodIn_r _ [8, 9, 10, 11, 12, 13, 14, 15, 16, 17, 18, 19, 20, 33, 34, 35, 36, 37, 38, 39, 40, 41] (by decide +kernel) (by decide +kernel)
set_option maxRecDepth 20000 in
theorem gX6_save_X1_copyFrom : GoodIn wsX6_save (wsV RX6 64 RX1 yX1_copyFrom wsX1_copyFrom) := goodIn_app (goodIn_of _ (by decide +kernel)) ggX6_save_X1_copyFrom
set_option maxRecDepth 20000 in
theorem ggX6_restore_X1_copyFrom : GoodIn wsX6_restore wsX1_copyFrom := goodIn_r _ [11, 12, 13, 14, 15, 16, 17, 18, 19, 20, 21, 22, 23, 42, 43, 44, 45, 46, 47, 48, 49, 50] (by decide +kernel) (by decide +kernel)
set_option maxRecDepth 20000 in
theorem gX6_restore_X1_copyFrom : GoodIn wsX6_restore (wsV RX6 64 RX1 yX1_copyFrom wsX1_copyFrom) := goodIn_app (goodIn_of _ (by decide +kernel)) ggX6_restore_X1_copyFrom
set_option maxRecDepth 20000 in
theorem ggX6_restore_X3_clear : GoodIn wsX6_restore wsX3_clear := goodIn_r _ [28, 29, 51, 52, 53] (by decide +kernel) (by decide +kernel)
set_option maxRecDepth 20000 in
theorem gX6_restore_X3_clear : GoodIn wsX6_restore (wsV RX6 298 RX3 yX3_clear wsX3_clear) := goodIn_app (goodIn_of _ (by decide +kernel)) ggX6_restore_X3_clear
set_option maxRecDepth 20000 in
theorem ggX6_settle_X3_add : GoodIn wsX6_settle wsX3_add := goodIn_r _ [17, 18, 19, 20, 21, 22, 23, 24, 25, 26, 27, 28, 29, 30, 31, 32, 33, 34, 35, 36, 37, 38, 39, 40, 41, 54, 55, 56, 57, 58, 59, 60, 61, 62, 63, 64, 65] (by decide +kernel) (by decide +kernel)
set_option maxRecDepth 20000 in
theorem gX6_settle_X3_add : GoodIn wsX6_settle (wsV RX6 266 RX3 yX3_add wsX3_add) := goodIn_app (goodIn_of _ (by decide +kernel)) ggX6_settle_X3_add
set_option maxRecDepth 20000 in
theorem ggX6_needCell_X6_isLine : GoodIn wsX6_needCell wsX6_isLine := goodIn_r _ [6] (by decide +kernel) (by decide +kernel)
set_option maxRecDepth 20000 in
theorem gX6_needCell_X6_isLine : GoodIn wsX6_needCell (va_wsS RX6 307 yX6_isLine wsX6_isLine) := goodIn_app (goodIn_of _ (by decide +kernel)) ggX6_needCell_X6_isLine
set_option maxRecDepth 20000 in
theorem ggX6_needLine_X6_isLine : GoodIn wsX6_needLine wsX6_isLine := goodIn_r _ [6] (by decide +kernel) (by decide +kernel)
set_option maxRecDepth 20000 in
theorem gX6_needLine_X6_isLine : GoodIn wsX6_needLine (va_wsS RX6 307 yX6_isLine wsX6_isLine) := goodIn_app (goodIn_of _ (by decide +kernel)) ggX6_needLine_X6_isLine
set_option maxRecDepth 20000 in
theorem ggX6_needWalker_X1_isWalker : GoodIn wsX6_needWalker wsX1_isWalker := goodIn_r _ [8, 9, 22, 23, 24, 25, 26, 27, 28, 29, 30] (by decide +kernel) (by decide +kernel)
set_option maxRecDepth 20000 in
theorem gX6_needWalker_X1_isWalker : GoodIn wsX6_needWalker (wsV RX6 314 RX1 yX1_isWalker wsX1_isWalker) := goodIn_app (goodIn_of _ (by decide +kernel)) ggX6_needWalker_X1_isWalker
set_option maxRecDepth 20000 in
theorem ggX6_needKey_X6_isKey : GoodIn wsX6_needKey wsX6_isKey := goodIn_r _ [6] (by decide +kernel) (by decide +kernel)
set_option maxRecDepth 20000 in
theorem gX6_needKey_X6_isKey : GoodIn wsX6_needKey (va_wsS RX6 319 yX6_isKey wsX6_isKey) := goodIn_app (goodIn_of _ (by decide +kernel)) ggX6_needKey_X6_isKey
set_option maxRecDepth 20000 in
theorem ggX6_needKeyCell_X6_needKey : GoodIn wsX6_needKeyCell wsX6_needKey := goodIn_ca (goodIn_r _ [8, 9, 10, 11, 12, 7, 13] (by decide +kernel) (by decide +kernel)) (goodIn_sub (fun _ h => List.mem_cons_of_mem _ (List.mem_append_right _ h)) (by decide +kernel))
set_option maxRecDepth 20000 in
theorem gX6_needKeyCell_X6_needKey : GoodIn wsX6_needKeyCell (va_wsS RX6 167 yX6_needKey wsX6_needKey) := goodIn_app (goodIn_of _ (by decide +kernel)) ggX6_needKeyCell_X6_needKey
set_option maxRecDepth 20000 in
theorem ggX6_needKeyCell_X6_isCell : GoodIn wsX6_needKeyCell wsX6_isCell := goodIn_r _ [16] (by decide +kernel) (by decide +kernel)
set_option maxRecDepth 20000 in
theorem gX6_needKeyCell_X6_isCell : GoodIn wsX6_needKeyCell (va_wsS RX6 206 yX6_isCell wsX6_isCell) := goodIn_app (goodIn_of _ (by decide +kernel)) ggX6_needKeyCell_X6_isCell
set_option maxRecDepth 20000 in
theorem ggX6_countHelpful_X1_isLineFree : GoodIn wsX6_countHelpful wsX1_isLineFree := goodIn_r _ [9, 10, 11, 12, 8, 13, 14, 87, 88, 89, 90, 91, 92, 93, 94, 95] (by decide +kernel) (by decide +kernel)
set_option maxRecDepth 20000 in
theorem gX6_countHelpful_X1_isLineFree : GoodIn wsX6_countHelpful (wsV RX6 124 RX1 yX1_isLineFree wsX1_isLineFree) := goodIn_app (goodIn_of _ (by decide +kernel)) ggX6_countHelpful_X1_isLineFree
set_option maxRecDepth 20000 in
theorem ggX6_countHelpful_X1_copyFrom : GoodIn wsX6_countHelpful wsX1_copyFrom := goodIn_r _ [18, 19, 20, 21, 22, 23, 24, 25, 26, 14, 27, 28, 29, 87, 88, 89, 90, 91, 92, 93, 94, 95] (by decide +kernel) (by decide +kernel)
set_option maxRecDepth 20000 in
theorem gX6_countHelpful_X1_copyFrom : GoodIn wsX6_countHelpful (wsV RX6 64 RX1 yX1_copyFrom wsX1_copyFrom) := goodIn_app (goodIn_of _ (by decide +kernel)) ggX6_countHelpful_X1_copyFrom
set_option maxRecDepth 20000 in
theorem ggX6_countHelpful_X1_moveLine : GoodIn wsX6_countHelpful wsX1_moveLine := goodIn_r _ [33, 19, 24, 25, 27, 26, 34, 35, 36, 8, 37, 38, 39, 40, 41, 42, 43, 44, 45, 87, 88, 89, 90, 91, 92, 93, 94, 95] (by decide +kernel) (by decide +kernel)
set_option maxRecDepth 20000 in
theorem gX6_countHelpful_X1_moveLine : GoodIn wsX6_countHelpful (wsV RX6 328 RX1 yX1_moveLine wsX1_moveLine) := goodIn_app (goodIn_of _ (by decide +kernel)) ggX6_countHelpful_X1_moveLine
set_option maxRecDepth 20000 in
theorem ggX6_countHelpful_X5_findPaths : GoodIn wsX6_countHelpful wsX5_findPaths := goodIn_r _ [50, 51, 52, 53, 54, 55, 56, 57, 58, 59, 60, 61, 8, 62, 19, 63, 64, 65, 66, 67, 68, 69, 24, 25, 87, 88, 89, 90, 91, 92, 93, 94, 95, 82, 83, 84, 85, 86] (by decide +kernel) (by decide +kernel)
set_option maxRecDepth 20000 in
theorem gX6_countHelpful_X5_findPaths : GoodIn wsX6_countHelpful (wsV RX6 181 RX5 yX5_findPaths wsX5_findPaths) := goodIn_app (goodIn_of _ (by decide +kernel)) ggX6_countHelpful_X5_findPaths
set_option maxRecDepth 20000 in
theorem ggX6_findFailure_X4_readCommand : GoodIn wsX6_findFailure wsX4_readCommand := goodIn_r _ [9, 10, 11, 12, 13, 14, 15, 16, 17, 18, 8, 19, 20, 21, 22, 23, 24, 25, 26, 27, 28, 29, 30, 31, 32, 33, 34, 35, 36, 37, 38, 39, 40, 41, 42, 43, 44, 45, 46, 47, 48, 49, 50, 51, 52, 53, 54, 55, 56, 57, 58, 59, 60, 61, 62, 63, 64, 65, 66, 67, 68, 69, 70, 71, 72, 73, 74, 75, 76, 77, 78, 79, 80, 81, 82, 83, 247, 248, 249, 250, 251, 252, 253, 254, 255] (by decide +kernel) (by decide +kernel)
set_option maxRecDepth 20000 in
theorem gX6_findFailure_X4_readCommand : GoodIn wsX6_findFailure (wsV RX6 332 RX4 yX4_readCommand wsX4_readCommand) := goodIn_app (goodIn_of _ (by decide +kernel)) ggX6_findFailure_X4_readCommand
set_option maxRecDepth 20000 in
theorem ggX6_findFailure_X6_carryOut : GoodIn wsX6_findFailure wsX6_carryOut := goodIn_r _ [87, 88, 89, 90, 91, 92, 93, 94, 95, 96, 97, 98, 99, 100, 101, 102, 103, 104, 76, 105, 106, 107, 108, 109, 110, 111, 112, 113, 114, 115, 116, 117, 118, 119, 120, 121, 122, 123, 124, 125, 126, 127, 128, 129, 130, 131, 132, 133, 134, 135, 136, 137, 138, 139, 140, 141, 142, 143, 144, 145, 146, 147, 148, 149, 150, 151, 152, 153, 154, 155, 156, 157, 158, 159, 160, 161, 162, 163, 164, 165, 166, 167, 168, 169, 170, 171, 172, 173, 174, 75, 77, 175, 176, 177, 178, 179, 180, 181, 182, 183, 184, 185, 186, 187, 188, 189, 190, 191, 192, 193, 194, 195, 196, 197, 198, 199, 200, 201, 202, 203, 204, 205, 206, 207, 208, 209, 210, 211, 212, 213, 214, 215, 216, 217, 218, 219, 220, 221, 222, 223, 224, 225, 226, 227, 228, 229, 230, 231, 232, 233, 234, 235, 236, 237, 238, 239, 240, 241, 242, 243, 244, 245, 246, 256, 257, 258, 259, 260, 261, 262, 263, 264, 265, 266, 267, 268, 269] (by decide +kernel) (by decide +kernel)
set_option maxRecDepth 20000 in
theorem gX6_findFailure_X6_carryOut : GoodIn wsX6_findFailure (wsV RX6 342 RX6 yX6_carryOut wsX6_carryOut) := goodIn_app (goodIn_of _ (by decide +kernel)) ggX6_findFailure_X6_carryOut
set_option maxRecDepth 20000 in
theorem ggX6_carryOut_Jx29ce0_ordinal_8abf5 : GoodIn wsX6_carryOut wsJx29ce0_ordinal_8abf5 := goodIn_r _ [9, 10] (by decide +kernel) (by decide +kernel)
set_option maxRecDepth 20000 in
theorem gX6_carryOut_Jx29ce0_ordinal_8abf5_u351X2 : GoodIn wsX6_carryOut (va_wsU RX6 351 RX2 "java/lang/Enum" ⟨"BrambleShift$Command", "ordinal", "()I"⟩ yJx29ce0_ordinal_8abf5 wsJx29ce0_ordinal_8abf5) := goodIn_app (goodIn_of _ (by decide +kernel)) ggX6_carryOut_Jx29ce0_ordinal_8abf5
set_option maxRecDepth 20000 in
theorem ggX6_carryOut_X1_replaceOpenings : GoodIn wsX6_carryOut wsX1_replaceOpenings := goodIn_r _ [15, 16, 17, 18, 19, 163, 164, 165, 166, 167, 168, 169, 170, 171] (by decide +kernel) (by decide +kernel)
set_option maxRecDepth 20000 in
theorem gX6_carryOut_X1_replaceOpenings : GoodIn wsX6_carryOut (wsV RX6 68 RX1 yX1_replaceOpenings wsX1_replaceOpenings) := goodIn_app (goodIn_of _ (by decide +kernel)) ggX6_carryOut_X1_replaceOpenings
set_option maxRecDepth 20000 in
theorem ggX6_carryOut_X1_turnOpenings : GoodIn wsX6_carryOut wsX1_turnOpenings := goodIn_r _ [23, 16, 17, 18, 19, 24, 25, 26, 14, 27, 28, 163, 164, 165, 166, 167, 168, 169, 170, 171] (by decide +kernel) (by decide +kernel)
set_option maxRecDepth 20000 in
theorem gX6_carryOut_X1_turnOpenings : GoodIn wsX6_carryOut (wsV RX6 76 RX1 yX1_turnOpenings wsX1_turnOpenings) := goodIn_app (goodIn_of _ (by decide +kernel)) ggX6_carryOut_X1_turnOpenings
set_option maxRecDepth 20000 in
theorem ggX6_carryOut_X1_fixTile : GoodIn wsX6_carryOut wsX1_fixTile := goodIn_r _ [32, 28, 17, 18, 19, 24, 25, 26, 14, 27, 33, 34, 35, 36, 37, 38, 39, 163, 164, 165, 166, 167, 168, 169, 170, 171] (by decide +kernel) (by decide +kernel)
set_option maxRecDepth 20000 in
theorem gX6_carryOut_X1_fixTile : GoodIn wsX6_carryOut (wsV RX6 79 RX1 yX1_fixTile wsX1_fixTile) := goodIn_app (goodIn_of _ (by decide +kernel)) ggX6_carryOut_X1_fixTile
set_option maxRecDepth 20000 in
theorem ggX6_carryOut_X1_freeTile : GoodIn wsX6_carryOut wsX1_freeTile := goodIn_r _ [43, 28, 17, 18, 19, 24, 25, 26, 14, 27, 33, 34, 35, 36, 37, 38, 39, 163, 164, 165, 166, 167, 168, 169, 170, 171] (by decide +kernel) (by decide +kernel)
set_option maxRecDepth 20000 in
theorem gX6_carryOut_X1_freeTile : GoodIn wsX6_carryOut (wsV RX6 83 RX1 yX1_freeTile wsX1_freeTile) := goodIn_app (goodIn_of _ (by decide +kernel)) ggX6_carryOut_X1_freeTile
set_option maxRecDepth 20000 in
theorem ggX6_carryOut_X1_moveRow : GoodIn wsX6_carryOut wsX1_moveRow := goodIn_r _ [47, 17, 18, 19, 48, 49, 50, 14, 51, 52, 53, 54, 55, 56, 24, 25, 26, 27, 28, 57, 58, 59, 60, 16, 61, 62, 63, 64, 65, 66, 67, 68, 69, 70, 71, 72, 73, 74, 75, 76, 77, 78, 79, 80, 163, 164, 165, 166, 167, 168, 169, 170, 171] (by decide +kernel) (by decide +kernel)
set_option maxRecDepth 20000 in
theorem gX6_carryOut_X1_moveRow : GoodIn wsX6_carryOut (wsV RX6 86 RX1 yX1_moveRow wsX1_moveRow) := goodIn_app (goodIn_of _ (by decide +kernel)) ggX6_carryOut_X1_moveRow
set_option maxRecDepth 20000 in
theorem ggX6_carryOut_X1_moveColumn : GoodIn wsX6_carryOut wsX1_moveColumn := goodIn_r _ [84, 17, 18, 19, 48, 49, 50, 14, 51, 52, 53, 54, 55, 56, 24, 25, 26, 27, 28, 57, 58, 59, 60, 16, 61, 62, 63, 64, 65, 66, 67, 68, 69, 70, 71, 72, 73, 74, 75, 76, 77, 78, 79, 80, 163, 164, 165, 166, 167, 168, 169, 170, 171] (by decide +kernel) (by decide +kernel)
set_option maxRecDepth 20000 in
theorem gX6_carryOut_X1_moveColumn : GoodIn wsX6_carryOut (wsV RX6 89 RX1 yX1_moveColumn wsX1_moveColumn) := goodIn_app (goodIn_of _ (by decide +kernel)) ggX6_carryOut_X1_moveColumn
set_option maxRecDepth 20000 in
theorem ggX6_carryOut_X1_layKey : GoodIn wsX6_carryOut wsX1_layKey := goodIn_r _ [88, 62, 89, 18, 90, 17, 19, 91, 92, 93, 14, 94, 163, 164, 165, 166, 167, 168, 169, 170, 171] (by decide +kernel) (by decide +kernel)
set_option maxRecDepth 20000 in
theorem gX6_carryOut_X1_layKey : GoodIn wsX6_carryOut (wsV RX6 92 RX1 yX1_layKey wsX1_layKey) := goodIn_app (goodIn_of _ (by decide +kernel)) ggX6_carryOut_X1_layKey
set_option maxRecDepth 20000 in
theorem ggX6_carryOut_X1_hangLock : GoodIn wsX6_carryOut wsX1_hangLock := goodIn_r _ [98, 61, 17, 18, 19, 89, 90, 99, 100, 101, 14, 102, 163, 164, 165, 166, 167, 168, 169, 170, 171] (by decide +kernel) (by decide +kernel)
set_option maxRecDepth 20000 in
theorem gX6_carryOut_X1_hangLock : GoodIn wsX6_carryOut (wsV RX6 96 RX1 yX1_hangLock wsX1_hangLock) := goodIn_app (goodIn_of _ (by decide +kernel)) ggX6_carryOut_X1_hangLock
