/-! ===== what the law's methods call, all in one list ===== -/
theorem goodIn_c {big ws : List Cond} {c : Cond} (h : GoodIn big [c]) (h2 : GoodIn big ws) : GoodIn big (c :: ws) := fun w hw => (List.mem_cons.mp hw).elim (fun e => h w (List.mem_cons.mpr (Or.inl e))) (h2 w)
theorem goodIn_t {big ws : List Cond} {c : Cond} (h : GoodIn big ws) : GoodIn (c :: big) ws := fun w hw => ⟨List.mem_cons_of_mem _ (h w hw).1, (h w hw).2⟩
def wsXQ : List Cond := [Cond.classLink RL 65 "java/lang/IllegalArgumentException", Cond.classLink RL 67 "java/lang/IllegalStateException", Cond.classLink RL 69 "java/lang/UnsupportedOperationException", Cond.classLink RL 71 "java/util/NoSuchElementException"]
abbrev wsA : List Cond := wsXQ ++ wsL_law
theorem goodIn_x {ws : List Cond} (h : GoodIn wsL_law ws) : GoodIn wsA ws := fun w hw => ⟨List.mem_append_right _ (h w hw).1, (h w hw).2⟩
theorem gAA : GoodIn wsA wsA := goodIn_app (goodIn_sub (fun _ h => List.mem_append_left _ h) (by decide +kernel)) (goodIn_x (goodIn_sub (fun _ h => h) (by decide +kernel)))
theorem mX_0 : Cond.classLink RL 65 "java/lang/IllegalArgumentException" ∈ wsXQ := List.mem_of_getElem? (i := 0) rfl
theorem mX_1 : Cond.classLink RL 67 "java/lang/IllegalStateException" ∈ wsXQ := List.mem_of_getElem? (i := 1) rfl
theorem mX_2 : Cond.classLink RL 69 "java/lang/UnsupportedOperationException" ∈ wsXQ := List.mem_of_getElem? (i := 2) rfl
theorem mX_3 : Cond.classLink RL 71 "java/util/NoSuchElementException" ∈ wsXQ := List.mem_of_getElem? (i := 3) rfl
def wML_any : List Cond := Cond.code yL_any cL_any 7 (some .int) :: wsA
set_option maxRecDepth 20000 in
theorem gML_any : GoodIn wsA wML_any := goodIn_c (goodIn_x (goodIn_r _ [401] (by decide +kernel) (by decide +kernel))) gAA
def wML_areLinesRight : List Cond := Cond.code yL_areLinesRight cL_areLinesRight 7 (some .boolean) :: wsA
set_option maxRecDepth 20000 in
theorem gML_areLinesRight : GoodIn wsA wML_areLinesRight := goodIn_c (goodIn_x (goodIn_r _ [598] (by decide +kernel) (by decide +kernel))) gAA
def wML_areShiftsRight : List Cond := Cond.code yL_areShiftsRight cL_areShiftsRight 8 (some .boolean) :: wsA
set_option maxRecDepth 20000 in
theorem gML_areShiftsRight : GoodIn wsA wML_areShiftsRight := goodIn_c (goodIn_x (goodIn_r _ [845] (by decide +kernel) (by decide +kernel))) gAA
def wML_areTilesRight : List Cond := Cond.code yL_areTilesRight cL_areTilesRight 7 (some .boolean) :: wsA
set_option maxRecDepth 20000 in
theorem gML_areTilesRight : GoodIn wsA wML_areTilesRight := goodIn_c (goodIn_x (goodIn_r _ [410] (by decide +kernel) (by decide +kernel))) gAA
def wML_areWalkersRight : List Cond := Cond.code yL_areWalkersRight cL_areWalkersRight 14 (some .boolean) :: wsA
set_option maxRecDepth 20000 in
theorem gML_areWalkersRight : GoodIn wsA wML_areWalkersRight := goodIn_c (goodIn_x (goodIn_r _ [826] (by decide +kernel) (by decide +kernel))) gAA
def wML_ask : List Cond := Cond.codeWith yL_ask cL_ask 6 (some .int) [(0, 9, 10, 63), (0, 9, 16, 65), (0, 9, 22, 71)] :: wsA
set_option maxRecDepth 20000 in
theorem gML_ask : GoodIn wsA wML_ask := goodIn_c (goodIn_x (goodIn_r _ [415] (by decide +kernel) (by decide +kernel))) gAA
def wML_asked : List Cond := Cond.code yL_asked cL_asked 5 (some .int) :: wsA
set_option maxRecDepth 20000 in
theorem gML_asked : GoodIn wsA wML_asked := goodIn_c (goodIn_x (goodIn_r _ [418] (by decide +kernel) (by decide +kernel))) gAA
def wML_cell : List Cond := Cond.code yL_cell cL_cell 3 (some .int) :: wsA
set_option maxRecDepth 20000 in
theorem gML_cell : GoodIn wsA wML_cell := goodIn_c (goodIn_x (goodIn_r _ [90] (by decide +kernel) (by decide +kernel))) gAA
def wML_deed : List Cond := Cond.codeWith yL_deed cL_deed 6 (some .int) [(0, 9, 10, 63), (0, 9, 16, 65), (0, 9, 22, 67), (0, 9, 28, 69), (0, 9, 34, 71)] :: wsA
set_option maxRecDepth 20000 in
theorem gML_deed : GoodIn wsA wML_deed := goodIn_c (goodIn_x (goodIn_r _ [95] (by decide +kernel) (by decide +kernel))) gAA
def wML_joined : List Cond := Cond.code yL_joined cL_joined 7 (some .int) :: wsA
set_option maxRecDepth 20000 in
theorem gML_joined : GoodIn wsA wML_joined := goodIn_c (goodIn_x (goodIn_r _ [551] (by decide +kernel) (by decide +kernel))) gAA
def wML_lay : List Cond := Cond.code yL_lay cL_lay 4 none :: wsA
set_option maxRecDepth 20000 in
theorem gML_lay : GoodIn wsA wML_lay := goodIn_c (goodIn_x (goodIn_r _ [81] (by decide +kernel) (by decide +kernel))) gAA
def wML_lengths : List Cond := Cond.code yL_lengths cL_lengths 7 (some (.array .int)) :: wsA
set_option maxRecDepth 20000 in
theorem gML_lengths : GoodIn wsA wML_lengths := goodIn_c (goodIn_x (goodIn_r _ [830] (by decide +kernel) (by decide +kernel))) gAA
def wML_looks : List Cond := Cond.code yL_looks cL_looks 3 (some .int) :: wsA
set_option maxRecDepth 20000 in
theorem gML_looks : GoodIn wsA wML_looks := goodIn_c (goodIn_x (goodIn_r _ [848] (by decide +kernel) (by decide +kernel))) gAA
def wML_mayEnter : List Cond := Cond.code yL_mayEnter cL_mayEnter 4 (some .boolean) :: wsA
set_option maxRecDepth 20000 in
theorem gML_mayEnter : GoodIn wsA wML_mayEnter := goodIn_c (goodIn_x (goodIn_r _ [833] (by decide +kernel) (by decide +kernel))) gAA
def wML_pick : List Cond := Cond.code yL_pick cL_pick 3 (some .int) :: wsA
set_option maxRecDepth 20000 in
theorem gML_pick : GoodIn wsA wML_pick := goodIn_c (goodIn_x (goodIn_r _ [87] (by decide +kernel) (by decide +kernel))) gAA
def wML_plain : List Cond := Cond.code yL_plain cL_plain 5 (some .int) :: wsA
set_option maxRecDepth 20000 in
theorem gML_plain : GoodIn wsA wML_plain := goodIn_c (goodIn_x (goodIn_r _ [99] (by decide +kernel) (by decide +kernel))) gAA
def wML_standing : List Cond := Cond.code yL_standing cL_standing 4 (some (.object "java/lang/String")) :: wsA
set_option maxRecDepth 20000 in
theorem gML_standing : GoodIn wsA wML_standing := goodIn_c (goodIn_x (goodIn_r _ [796] (by decide +kernel) (by decide +kernel))) gAA
def wML_tile : List Cond := Cond.code yL_tile cL_tile 2 (some .int) :: wsA
set_option maxRecDepth 20000 in
theorem gML_tile : GoodIn wsA wML_tile := goodIn_c (goodIn_x (goodIn_r _ [84] (by decide +kernel) (by decide +kernel))) gAA
def wML_told : List Cond := Cond.code yL_told cL_told 1 (some .int) :: wsA
set_option maxRecDepth 20000 in
theorem gML_told : GoodIn wsA wML_told := goodIn_c (goodIn_x (goodIn_r _ [441] (by decide +kernel) (by decide +kernel))) gAA
