theorem dL_setTile_0 : decode cL_setTile 0 = .ok (.aload 4, 2) := by decide +kernel
theorem dL_setTile_2 : decode cL_setTile 2 = .ok (.iconst 0, 1) := by decide +kernel
theorem dL_setTile_3 : decode cL_setTile 3 = .ok (.aload_n 0, 1) := by decide +kernel
theorem dL_setTile_4 : decode cL_setTile 4 = .ok (.iload_n 1, 1) := by decide +kernel
theorem dL_setTile_5 : decode cL_setTile 5 = .ok (.iload_n 2, 1) := by decide +kernel
theorem dL_setTile_6 : decode cL_setTile 6 = .ok (.iload_n 3, 1) := by decide +kernel
theorem dL_setTile_7 : decode cL_setTile 7 = .ok (.invokevirtual 7, 3) := by decide +kernel
theorem dL_setTile_10 : decode cL_setTile 10 = .ok (.i2l, 1) := by decide +kernel
theorem dL_setTile_11 : decode cL_setTile 11 = .ok (.lastore, 1) := by decide +kernel
theorem dL_setTile_12 : decode cL_setTile 12 = .ok (.goto 11, 3) := by decide +kernel
theorem dL_setTile_15 : decode cL_setTile 15 = .ok (.astore 5, 2) := by decide +kernel
theorem dL_setTile_17 : decode cL_setTile 17 = .ok (.iconst 1, 1) := by decide +kernel
theorem dL_setTile_18 : decode cL_setTile 18 = .ok (.ireturn, 1) := by decide +kernel
theorem dL_setTile_19 : decode cL_setTile 19 = .ok (.astore 5, 2) := by decide +kernel
theorem dL_setTile_21 : decode cL_setTile 21 = .ok (.iconst 2, 1) := by decide +kernel
theorem dL_setTile_22 : decode cL_setTile 22 = .ok (.ireturn, 1) := by decide +kernel
theorem dL_setTile_23 : decode cL_setTile 23 = .ok (.iconst 0, 1) := by decide +kernel
theorem dL_setTile_24 : decode cL_setTile 24 = .ok (.ireturn, 1) := by decide +kernel
set_option maxRecDepth 20000 in
theorem ggL_turnTile_X6_turnTile : GoodIn wsL_turnTile wsX6_turnTile := goodIn_ca (goodIn_ca (goodIn_ca (goodIn_ca (goodIn_ca (goodIn_r _ [8, 9, 10, 11, 12, 13, 14, 15, 16, 17, 18, 19, 20, 21, 22, 23, 24, 25, 26, 27, 28, 29, 30, 31, 32, 7, 33, 34, 35, 36, 37, 38, 39, 40, 41, 42, 43, 44, 45, 46, 47, 48, 49, 50, 51, 52, 53, 54, 55, 56, 57, 58, 59, 60, 61, 62, 63, 64, 65, 66, 67, 68, 69, 70, 71, 72, 73, 74, 75, 76, 77, 78, 79, 80, 81, 82, 83, 84, 85, 86, 87, 88, 89] (by decide +kernel) (by decide +kernel)) (goodIn_sub (fun _ h => List.mem_cons_of_mem _ (List.mem_append_left _ (List.mem_append_left _ (List.mem_append_left _ (List.mem_append_left _ (List.mem_append_right _ h)))))) (by decide +kernel))) (goodIn_sub (fun _ h => List.mem_cons_of_mem _ (List.mem_append_left _ (List.mem_append_left _ (List.mem_append_left _ (List.mem_append_right _ h))))) (by decide +kernel))) (goodIn_sub (fun _ h => List.mem_cons_of_mem _ (List.mem_append_left _ (List.mem_append_left _ (List.mem_append_right _ h)))) (by decide +kernel))) (goodIn_sub (fun _ h => List.mem_cons_of_mem _ (List.mem_append_left _ (List.mem_append_right _ h))) (by decide +kernel))) (goodIn_sub (fun _ h => List.mem_cons_of_mem _ (List.mem_append_right _ h)) (by decide +kernel))
set_option maxRecDepth 20000 in
theorem gL_turnTile_X6_turnTile : GoodIn wsL_turnTile (wsV RL 17 RX6 yX6_turnTile wsX6_turnTile) := goodIn_app (goodIn_of _ (by decide +kernel)) ggL_turnTile_X6_turnTile
theorem dL_turnTile_0 : decode cL_turnTile 0 = .ok (.aload 4, 2) := by decide +kernel
theorem dL_turnTile_2 : decode cL_turnTile 2 = .ok (.iconst 0, 1) := by decide +kernel
theorem dL_turnTile_3 : decode cL_turnTile 3 = .ok (.aload_n 0, 1) := by decide +kernel
theorem dL_turnTile_4 : decode cL_turnTile 4 = .ok (.iload_n 1, 1) := by decide +kernel
theorem dL_turnTile_5 : decode cL_turnTile 5 = .ok (.iload_n 2, 1) := by decide +kernel
theorem dL_turnTile_6 : decode cL_turnTile 6 = .ok (.iload_n 3, 1) := by decide +kernel
theorem dL_turnTile_7 : decode cL_turnTile 7 = .ok (.invokevirtual 17, 3) := by decide +kernel
theorem dL_turnTile_10 : decode cL_turnTile 10 = .ok (.i2l, 1) := by decide +kernel
theorem dL_turnTile_11 : decode cL_turnTile 11 = .ok (.lastore, 1) := by decide +kernel
theorem dL_turnTile_12 : decode cL_turnTile 12 = .ok (.goto 15, 3) := by decide +kernel
theorem dL_turnTile_15 : decode cL_turnTile 15 = .ok (.astore 5, 2) := by decide +kernel
theorem dL_turnTile_17 : decode cL_turnTile 17 = .ok (.iconst 1, 1) := by decide +kernel
theorem dL_turnTile_18 : decode cL_turnTile 18 = .ok (.ireturn, 1) := by decide +kernel
theorem dL_turnTile_19 : decode cL_turnTile 19 = .ok (.astore 5, 2) := by decide +kernel
theorem dL_turnTile_21 : decode cL_turnTile 21 = .ok (.iconst 2, 1) := by decide +kernel
theorem dL_turnTile_22 : decode cL_turnTile 22 = .ok (.ireturn, 1) := by decide +kernel
theorem dL_turnTile_23 : decode cL_turnTile 23 = .ok (.astore 5, 2) := by decide +kernel
theorem dL_turnTile_25 : decode cL_turnTile 25 = .ok (.iconst 3, 1) := by decide +kernel
theorem dL_turnTile_26 : decode cL_turnTile 26 = .ok (.ireturn, 1) := by decide +kernel
theorem dL_turnTile_27 : decode cL_turnTile 27 = .ok (.iconst 0, 1) := by decide +kernel
theorem dL_turnTile_28 : decode cL_turnTile 28 = .ok (.ireturn, 1) := by decide +kernel
set_option maxRecDepth 20000 in
theorem ggL_pin_X6_pin : GoodIn wsL_pin wsX6_pin := goodIn_ca (goodIn_ca (goodIn_ca (goodIn_ca (goodIn_ca (goodIn_r _ [7, 8, 9, 10, 11, 12, 13, 14, 15, 16, 17, 18, 19, 20, 21, 22, 23, 24, 25, 26, 27, 28, 29, 30, 31, 6, 32, 33, 34, 35, 36, 37, 38, 39, 40, 41, 42, 43, 44, 45, 46, 47, 48, 49, 50, 51, 52, 53, 54, 55, 56, 57, 58, 59, 60, 61, 62, 63, 64, 65, 66, 67, 68, 69, 70, 71, 72, 73, 74, 75, 76, 77, 78, 79, 80, 81, 82, 83, 84, 85, 86, 87, 88, 89, 90, 91, 92, 93, 94, 95] (by decide +kernel) (by decide +kernel)) (goodIn_sub (fun _ h => List.mem_cons_of_mem _ (List.mem_append_left _ (List.mem_append_left _ (List.mem_append_left _ (List.mem_append_left _ (List.mem_append_right _ h)))))) (by decide +kernel))) (goodIn_sub (fun _ h => List.mem_cons_of_mem _ (List.mem_append_left _ (List.mem_append_left _ (List.mem_append_left _ (List.mem_append_right _ h))))) (by decide +kernel))) (goodIn_sub (fun _ h => List.mem_cons_of_mem _ (List.mem_append_left _ (List.mem_append_left _ (List.mem_append_right _ h)))) (by decide +kernel))) (goodIn_sub (fun _ h => List.mem_cons_of_mem _ (List.mem_append_left _ (List.mem_append_right _ h))) (by decide +kernel))) (goodIn_sub (fun _ h => List.mem_cons_of_mem _ (List.mem_append_right _ h)) (by decide +kernel))
set_option maxRecDepth 20000 in
theorem gL_pin_X6_pin : GoodIn wsL_pin (wsV RL 22 RX6 yX6_pin wsX6_pin) := goodIn_app (goodIn_of _ (by decide +kernel)) ggL_pin_X6_pin
theorem dL_pin_0 : decode cL_pin 0 = .ok (.aload_n 3, 1) := by decide +kernel
theorem dL_pin_1 : decode cL_pin 1 = .ok (.iconst 0, 1) := by decide +kernel
theorem dL_pin_2 : decode cL_pin 2 = .ok (.aload_n 0, 1) := by decide +kernel
theorem dL_pin_3 : decode cL_pin 3 = .ok (.iload_n 1, 1) := by decide +kernel
theorem dL_pin_4 : decode cL_pin 4 = .ok (.iload_n 2, 1) := by decide +kernel
theorem dL_pin_5 : decode cL_pin 5 = .ok (.invokevirtual 22, 3) := by decide +kernel
theorem dL_pin_8 : decode cL_pin 8 = .ok (.i2l, 1) := by decide +kernel
theorem dL_pin_9 : decode cL_pin 9 = .ok (.lastore, 1) := by decide +kernel
theorem dL_pin_10 : decode cL_pin 10 = .ok (.goto 11, 3) := by decide +kernel
theorem dL_pin_13 : decode cL_pin 13 = .ok (.astore 4, 2) := by decide +kernel
theorem dL_pin_15 : decode cL_pin 15 = .ok (.iconst 1, 1) := by decide +kernel
theorem dL_pin_16 : decode cL_pin 16 = .ok (.ireturn, 1) := by decide +kernel
theorem dL_pin_17 : decode cL_pin 17 = .ok (.astore 4, 2) := by decide +kernel
theorem dL_pin_19 : decode cL_pin 19 = .ok (.iconst 2, 1) := by decide +kernel
theorem dL_pin_20 : decode cL_pin 20 = .ok (.ireturn, 1) := by decide +kernel
theorem dL_pin_21 : decode cL_pin 21 = .ok (.iconst 0, 1) := by decide +kernel
theorem dL_pin_22 : decode cL_pin 22 = .ok (.ireturn, 1) := by decide +kernel
set_option maxRecDepth 20000 in
theorem ggL_unpin_X6_unpin : GoodIn wsL_unpin wsX6_unpin := goodIn_ca (goodIn_ca (goodIn_ca (goodIn_ca (goodIn_ca (goodIn_r _ [7, 8, 9, 10, 11, 12, 13, 14, 15, 16, 17, 18, 19, 20, 21, 22, 23, 24, 25, 26, 27, 28, 29, 30, 31, 6, 32, 33, 34, 35, 36, 37, 38, 39, 40, 41, 42, 43, 44, 45, 46, 47, 48, 49, 50, 51, 52, 53, 54, 55, 56, 57, 58, 59, 60, 61, 62, 63, 64, 65, 66, 67, 68, 69, 70, 71, 72, 73, 74, 75, 76, 77, 78, 79, 80, 81, 82, 83, 84, 85, 86, 87, 88, 89, 90, 91, 92, 93, 94, 95] (by decide +kernel) (by decide +kernel)) (goodIn_sub (fun _ h => List.mem_cons_of_mem _ (List.mem_append_left _ (List.mem_append_left _ (List.mem_append_left _ (List.mem_append_left _ (List.mem_append_right _ h)))))) (by decide +kernel))) (goodIn_sub (fun _ h => List.mem_cons_of_mem _ (List.mem_append_left _ (List.mem_append_left _ (List.mem_append_left _ (List.mem_append_right _ h))))) (by decide +kernel))) (goodIn_sub (fun _ h => List.mem_cons_of_mem _ (List.mem_append_left _ (List.mem_append_left _ (List.mem_append_right _ h)))) (by decide +kernel))) (goodIn_sub (fun _ h => List.mem_cons_of_mem _ (List.mem_append_left _ (List.mem_append_right _ h))) (by decide +kernel))) (goodIn_sub (fun _ h => List.mem_cons_of_mem _ (List.mem_append_right _ h)) (by decide +kernel))
set_option maxRecDepth 20000 in
theorem gL_unpin_X6_unpin : GoodIn wsL_unpin (wsV RL 26 RX6 yX6_unpin wsX6_unpin) := goodIn_app (goodIn_of _ (by decide +kernel)) ggL_unpin_X6_unpin
theorem dL_unpin_0 : decode cL_unpin 0 = .ok (.aload_n 3, 1) := by decide +kernel
theorem dL_unpin_1 : decode cL_unpin 1 = .ok (.iconst 0, 1) := by decide +kernel
theorem dL_unpin_2 : decode cL_unpin 2 = .ok (.aload_n 0, 1) := by decide +kernel
theorem dL_unpin_3 : decode cL_unpin 3 = .ok (.iload_n 1, 1) := by decide +kernel
theorem dL_unpin_4 : decode cL_unpin 4 = .ok (.iload_n 2, 1) := by decide +kernel
theorem dL_unpin_5 : decode cL_unpin 5 = .ok (.invokevirtual 26, 3) := by decide +kernel
theorem dL_unpin_8 : decode cL_unpin 8 = .ok (.i2l, 1) := by decide +kernel
theorem dL_unpin_9 : decode cL_unpin 9 = .ok (.lastore, 1) := by decide +kernel
theorem dL_unpin_10 : decode cL_unpin 10 = .ok (.goto 11, 3) := by decide +kernel
theorem dL_unpin_13 : decode cL_unpin 13 = .ok (.astore 4, 2) := by decide +kernel
theorem dL_unpin_15 : decode cL_unpin 15 = .ok (.iconst 1, 1) := by decide +kernel
theorem dL_unpin_16 : decode cL_unpin 16 = .ok (.ireturn, 1) := by decide +kernel
theorem dL_unpin_17 : decode cL_unpin 17 = .ok (.astore 4, 2) := by decide +kernel
theorem dL_unpin_19 : decode cL_unpin 19 = .ok (.iconst 2, 1) := by decide +kernel
theorem dL_unpin_20 : decode cL_unpin 20 = .ok (.ireturn, 1) := by decide +kernel
theorem dL_unpin_21 : decode cL_unpin 21 = .ok (.iconst 0, 1) := by decide +kernel
theorem dL_unpin_22 : decode cL_unpin 22 = .ok (.ireturn, 1) := by decide +kernel
set_option maxRecDepth 20000 in
theorem ggL_shiftRow_X6_shiftRow : GoodIn wsL_shiftRow wsX6_shiftRow := goodIn_ca (goodIn_ca (goodIn_ca (goodIn_ca (goodIn_ca (goodIn_r _ [8, 9, 10, 11, 12, 13, 14, 15, 16, 17, 18, 19, 20, 21, 22, 23, 24, 25, 26, 27, 28, 29, 30, 31, 32, 7, 33, 34, 35, 36, 37, 38, 39, 40, 41, 42, 43, 44, 45, 46, 47, 48, 49, 50, 51, 52, 53, 54, 55, 56, 57, 58, 59, 60, 61, 62, 63, 64, 65, 66, 67, 68, 69, 70, 71, 72, 73, 74, 75, 76, 77, 78, 79, 80, 81, 82, 83, 84, 85, 86, 87, 88, 89, 90, 91, 92, 93, 94, 95, 96, 97, 98, 99, 100, 101, 102, 103, 104, 105, 106, 107, 108, 109, 110, 111, 112, 113, 114, 115, 116, 117] (by decide +kernel) (by decide +kernel)) (goodIn_sub (fun _ h => List.mem_cons_of_mem _ (List.mem_append_left _ (List.mem_append_left _ (List.mem_append_left _ (List.mem_append_left _ (List.mem_append_right _ h)))))) (by decide +kernel))) (goodIn_sub (fun _ h => List.mem_cons_of_mem _ (List.mem_append_left _ (List.mem_append_left _ (List.mem_append_left _ (List.mem_append_right _ h))))) (by decide +kernel))) (goodIn_sub (fun _ h => List.mem_cons_of_mem _ (List.mem_append_left _ (List.mem_append_left _ (List.mem_append_right _ h)))) (by decide +kernel))) (goodIn_sub (fun _ h => List.mem_cons_of_mem _ (List.mem_append_left _ (List.mem_append_right _ h))) (by decide +kernel))) (goodIn_sub (fun _ h => List.mem_cons_of_mem _ (List.mem_append_right _ h)) (by decide +kernel))
set_option maxRecDepth 20000 in
theorem gL_shiftRow_X6_shiftRow : GoodIn wsL_shiftRow (wsV RL 29 RX6 yX6_shiftRow wsX6_shiftRow) := goodIn_app (goodIn_of _ (by decide +kernel)) ggL_shiftRow_X6_shiftRow
theorem dL_shiftRow_0 : decode cL_shiftRow 0 = .ok (.aload_n 3, 1) := by decide +kernel
theorem dL_shiftRow_1 : decode cL_shiftRow 1 = .ok (.iconst 0, 1) := by decide +kernel
theorem dL_shiftRow_2 : decode cL_shiftRow 2 = .ok (.aload_n 0, 1) := by decide +kernel
theorem dL_shiftRow_3 : decode cL_shiftRow 3 = .ok (.iload_n 1, 1) := by decide +kernel
theorem dL_shiftRow_4 : decode cL_shiftRow 4 = .ok (.iload_n 2, 1) := by decide +kernel
theorem dL_shiftRow_5 : decode cL_shiftRow 5 = .ok (.invokevirtual 29, 3) := by decide +kernel
theorem dL_shiftRow_8 : decode cL_shiftRow 8 = .ok (.i2l, 1) := by decide +kernel
theorem dL_shiftRow_9 : decode cL_shiftRow 9 = .ok (.lastore, 1) := by decide +kernel
theorem dL_shiftRow_10 : decode cL_shiftRow 10 = .ok (.goto 15, 3) := by decide +kernel
theorem dL_shiftRow_13 : decode cL_shiftRow 13 = .ok (.astore 4, 2) := by decide +kernel
theorem dL_shiftRow_15 : decode cL_shiftRow 15 = .ok (.iconst 1, 1) := by decide +kernel
theorem dL_shiftRow_16 : decode cL_shiftRow 16 = .ok (.ireturn, 1) := by decide +kernel
theorem dL_shiftRow_17 : decode cL_shiftRow 17 = .ok (.astore 4, 2) := by decide +kernel
theorem dL_shiftRow_19 : decode cL_shiftRow 19 = .ok (.iconst 2, 1) := by decide +kernel
theorem dL_shiftRow_20 : decode cL_shiftRow 20 = .ok (.ireturn, 1) := by decide +kernel
theorem dL_shiftRow_21 : decode cL_shiftRow 21 = .ok (.astore 4, 2) := by decide +kernel
theorem dL_shiftRow_23 : decode cL_shiftRow 23 = .ok (.iconst 3, 1) := by decide +kernel
theorem dL_shiftRow_24 : decode cL_shiftRow 24 = .ok (.ireturn, 1) := by decide +kernel
theorem dL_shiftRow_25 : decode cL_shiftRow 25 = .ok (.iconst 0, 1) := by decide +kernel
theorem dL_shiftRow_26 : decode cL_shiftRow 26 = .ok (.ireturn, 1) := by decide +kernel
set_option maxRecDepth 20000 in
theorem ggL_shiftColumn_X6_shiftColumn : GoodIn wsL_shiftColumn wsX6_shiftColumn := goodIn_ca (goodIn_ca (goodIn_ca (goodIn_ca (goodIn_ca (goodIn_r _ [8, 9, 10, 11, 12, 13, 14, 15, 16, 17, 18, 19, 20, 21, 22, 23, 24, 25, 26, 27, 28, 29, 30, 31, 32, 7, 33, 34, 35, 36, 37, 38, 39, 40, 41, 42, 43, 44, 45, 46, 47, 48, 49, 50, 51, 52, 53, 54, 55, 56, 57, 58, 59, 60, 61, 62, 63, 64, 65, 66, 67, 68, 69, 70, 71, 72, 73, 74, 75, 76, 77, 78, 79, 80, 81, 82, 83, 84, 85, 86, 87, 88, 89, 90, 91, 92, 93, 94, 95, 96, 97, 98, 99, 100, 101, 102, 103, 104, 105, 106, 107, 108, 109, 110, 111, 112, 113, 114, 115, 116, 117] (by decide +kernel) (by decide +kernel)) (goodIn_sub (fun _ h => List.mem_cons_of_mem _ (List.mem_append_left _ (List.mem_append_left _ (List.mem_append_left _ (List.mem_append_left _ (List.mem_append_right _ h)))))) (by decide +kernel))) (goodIn_sub (fun _ h => List.mem_cons_of_mem _ (List.mem_append_left _ (List.mem_append_left _ (List.mem_append_left _ (List.mem_append_right _ h))))) (by decide +kernel))) (goodIn_sub (fun _ h => List.mem_cons_of_mem _ (List.mem_append_left _ (List.mem_append_left _ (List.mem_append_right _ h)))) (by decide +kernel))) (goodIn_sub (fun _ h => List.mem_cons_of_mem _ (List.mem_append_left _ (List.mem_append_right _ h))) (by decide +kernel))) (goodIn_sub (fun _ h => List.mem_cons_of_mem _ (List.mem_append_right _ h)) (by decide +kernel))
set_option maxRecDepth 20000 in
theorem gL_shiftColumn_X6_shiftColumn : GoodIn wsL_shiftColumn (wsV RL 32 RX6 yX6_shiftColumn wsX6_shiftColumn) := goodIn_app (goodIn_of _ (by decide +kernel)) ggL_shiftColumn_X6_shiftColumn
theorem dL_shiftColumn_0 : decode cL_shiftColumn 0 = .ok (.aload_n 3, 1) := by decide +kernel
theorem dL_shiftColumn_1 : decode cL_shiftColumn 1 = .ok (.iconst 0, 1) := by decide +kernel
theorem dL_shiftColumn_2 : decode cL_shiftColumn 2 = .ok (.aload_n 0, 1) := by decide +kernel
theorem dL_shiftColumn_3 : decode cL_shiftColumn 3 = .ok (.iload_n 1, 1) := by decide +kernel
theorem dL_shiftColumn_4 : decode cL_shiftColumn 4 = .ok (.iload_n 2, 1) := by decide +kernel
theorem dL_shiftColumn_5 : decode cL_shiftColumn 5 = .ok (.invokevirtual 32, 3) := by decide +kernel
theorem dL_shiftColumn_8 : decode cL_shiftColumn 8 = .ok (.i2l, 1) := by decide +kernel
theorem dL_shiftColumn_9 : decode cL_shiftColumn 9 = .ok (.lastore, 1) := by decide +kernel
theorem dL_shiftColumn_10 : decode cL_shiftColumn 10 = .ok (.goto 15, 3) := by decide +kernel
theorem dL_shiftColumn_13 : decode cL_shiftColumn 13 = .ok (.astore 4, 2) := by decide +kernel
theorem dL_shiftColumn_15 : decode cL_shiftColumn 15 = .ok (.iconst 1, 1) := by decide +kernel
theorem dL_shiftColumn_16 : decode cL_shiftColumn 16 = .ok (.ireturn, 1) := by decide +kernel
theorem dL_shiftColumn_17 : decode cL_shiftColumn 17 = .ok (.astore 4, 2) := by decide +kernel
theorem dL_shiftColumn_19 : decode cL_shiftColumn 19 = .ok (.iconst 2, 1) := by decide +kernel
theorem dL_shiftColumn_20 : decode cL_shiftColumn 20 = .ok (.ireturn, 1) := by decide +kernel
theorem dL_shiftColumn_21 : decode cL_shiftColumn 21 = .ok (.astore 4, 2) := by decide +kernel
theorem dL_shiftColumn_23 : decode cL_shiftColumn 23 = .ok (.iconst 3, 1) := by decide +kernel
theorem dL_shiftColumn_24 : decode cL_shiftColumn 24 = .ok (.ireturn, 1) := by decide +kernel
theorem dL_shiftColumn_25 : decode cL_shiftColumn 25 = .ok (.iconst 0, 1) := by decide +kernel
theorem dL_shiftColumn_26 : decode cL_shiftColumn 26 = .ok (.ireturn, 1) := by decide +kernel
set_option maxRecDepth 20000 in
theorem ggL_placeKey_X6_placeKey : GoodIn wsL_placeKey wsX6_placeKey := goodIn_ca (goodIn_ca (goodIn_ca (goodIn_ca (goodIn_ca (goodIn_r _ [8, 9, 10, 11, 12, 13, 14, 15, 16, 17, 18, 19, 20, 21, 22, 23, 24, 25, 26, 27, 28, 29, 30, 31, 32, 7, 33, 34, 35, 36, 37, 38, 39, 40, 41, 42, 43, 44, 45, 46, 47, 48, 49, 50, 51, 52, 53, 54, 55, 56, 57, 58, 59, 60, 61, 62, 63, 64, 65, 66, 67, 68, 69, 70, 71, 72, 73, 74, 75, 76, 77, 78, 79, 80, 81, 82, 83, 84, 85, 86, 87, 88, 89, 90, 91] (by decide +kernel) (by decide +kernel)) (goodIn_sub (fun _ h => List.mem_cons_of_mem _ (List.mem_append_left _ (List.mem_append_left _ (List.mem_append_left _ (List.mem_append_left _ (List.mem_append_right _ h)))))) (by decide +kernel))) (goodIn_sub (fun _ h => List.mem_cons_of_mem _ (List.mem_append_left _ (List.mem_append_left _ (List.mem_append_left _ (List.mem_append_right _ h))))) (by decide +kernel))) (goodIn_sub (fun _ h => List.mem_cons_of_mem _ (List.mem_append_left _ (List.mem_append_left _ (List.mem_append_right _ h)))) (by decide +kernel))) (goodIn_sub (fun _ h => List.mem_cons_of_mem _ (List.mem_append_left _ (List.mem_append_right _ h))) (by decide +kernel))) (goodIn_sub (fun _ h => List.mem_cons_of_mem _ (List.mem_append_right _ h)) (by decide +kernel))
set_option maxRecDepth 20000 in
theorem gL_placeKey_X6_placeKey : GoodIn wsL_placeKey (wsV RL 35 RX6 yX6_placeKey wsX6_placeKey) := goodIn_app (goodIn_of _ (by decide +kernel)) ggL_placeKey_X6_placeKey
theorem dL_placeKey_0 : decode cL_placeKey 0 = .ok (.aload 4, 2) := by decide +kernel
theorem dL_placeKey_2 : decode cL_placeKey 2 = .ok (.iconst 0, 1) := by decide +kernel
theorem dL_placeKey_3 : decode cL_placeKey 3 = .ok (.aload_n 0, 1) := by decide +kernel
theorem dL_placeKey_4 : decode cL_placeKey 4 = .ok (.iload_n 1, 1) := by decide +kernel
theorem dL_placeKey_5 : decode cL_placeKey 5 = .ok (.iload_n 2, 1) := by decide +kernel
theorem dL_placeKey_6 : decode cL_placeKey 6 = .ok (.iload_n 3, 1) := by decide +kernel
theorem dL_placeKey_7 : decode cL_placeKey 7 = .ok (.invokevirtual 35, 3) := by decide +kernel
theorem dL_placeKey_10 : decode cL_placeKey 10 = .ok (.i2l, 1) := by decide +kernel
theorem dL_placeKey_11 : decode cL_placeKey 11 = .ok (.lastore, 1) := by decide +kernel
theorem dL_placeKey_12 : decode cL_placeKey 12 = .ok (.goto 15, 3) := by decide +kernel
theorem dL_placeKey_15 : decode cL_placeKey 15 = .ok (.astore 5, 2) := by decide +kernel
theorem dL_placeKey_17 : decode cL_placeKey 17 = .ok (.iconst 1, 1) := by decide +kernel
theorem dL_placeKey_18 : decode cL_placeKey 18 = .ok (.ireturn, 1) := by decide +kernel
theorem dL_placeKey_19 : decode cL_placeKey 19 = .ok (.astore 5, 2) := by decide +kernel
theorem dL_placeKey_21 : decode cL_placeKey 21 = .ok (.iconst 2, 1) := by decide +kernel
theorem dL_placeKey_22 : decode cL_placeKey 22 = .ok (.ireturn, 1) := by decide +kernel
theorem dL_placeKey_23 : decode cL_placeKey 23 = .ok (.astore 5, 2) := by decide +kernel
theorem dL_placeKey_25 : decode cL_placeKey 25 = .ok (.iconst 3, 1) := by decide +kernel
theorem dL_placeKey_26 : decode cL_placeKey 26 = .ok (.ireturn, 1) := by decide +kernel
theorem dL_placeKey_27 : decode cL_placeKey 27 = .ok (.iconst 0, 1) := by decide +kernel
theorem dL_placeKey_28 : decode cL_placeKey 28 = .ok (.ireturn, 1) := by decide +kernel
set_option maxRecDepth 20000 in
theorem ggL_addLock_X6_addLock : GoodIn wsL_addLock wsX6_addLock := goodIn_ca (goodIn_ca (goodIn_ca (goodIn_ca (goodIn_ca (goodIn_r _ [8, 9, 10, 11, 12, 13, 14, 15, 16, 17, 18, 19, 20, 21, 22, 23, 24, 25, 26, 27, 28, 29, 30, 31, 32, 7, 33, 34, 35, 36, 37, 38, 39, 40, 41, 42, 43, 44, 45, 46, 47, 48, 49, 50, 51, 52, 53, 54, 55, 56, 57, 58, 59, 60, 61, 62, 63, 64, 65, 66, 67, 68, 69, 70, 71, 72, 73, 74, 75, 76, 77, 78, 79, 80, 81, 82, 83, 84, 85, 86, 87, 88, 89, 90, 91] (by decide +kernel) (by decide +kernel)) (goodIn_sub (fun _ h => List.mem_cons_of_mem _ (List.mem_append_left _ (List.mem_append_left _ (List.mem_append_left _ (List.mem_append_left _ (List.mem_append_right _ h)))))) (by decide +kernel))) (goodIn_sub (fun _ h => List.mem_cons_of_mem _ (List.mem_append_left _ (List.mem_append_left _ (List.mem_append_left _ (List.mem_append_right _ h))))) (by decide +kernel))) (goodIn_sub (fun _ h => List.mem_cons_of_mem _ (List.mem_append_left _ (List.mem_append_left _ (List.mem_append_right _ h)))) (by decide +kernel))) (goodIn_sub (fun _ h => List.mem_cons_of_mem _ (List.mem_append_left _ (List.mem_append_right _ h))) (by decide +kernel))) (goodIn_sub (fun _ h => List.mem_cons_of_mem _ (List.mem_append_right _ h)) (by decide +kernel))
set_option maxRecDepth 20000 in
theorem gL_addLock_X6_addLock : GoodIn wsL_addLock (wsV RL 39 RX6 yX6_addLock wsX6_addLock) := goodIn_app (goodIn_of _ (by decide +kernel)) ggL_addLock_X6_addLock
theorem dL_addLock_0 : decode cL_addLock 0 = .ok (.aload 4, 2) := by decide +kernel
theorem dL_addLock_2 : decode cL_addLock 2 = .ok (.iconst 0, 1) := by decide +kernel
theorem dL_addLock_3 : decode cL_addLock 3 = .ok (.aload_n 0, 1) := by decide +kernel
theorem dL_addLock_4 : decode cL_addLock 4 = .ok (.iload_n 1, 1) := by decide +kernel
theorem dL_addLock_5 : decode cL_addLock 5 = .ok (.iload_n 2, 1) := by decide +kernel
theorem dL_addLock_6 : decode cL_addLock 6 = .ok (.iload_n 3, 1) := by decide +kernel
theorem dL_addLock_7 : decode cL_addLock 7 = .ok (.invokevirtual 39, 3) := by decide +kernel
theorem dL_addLock_10 : decode cL_addLock 10 = .ok (.i2l, 1) := by decide +kernel
theorem dL_addLock_11 : decode cL_addLock 11 = .ok (.lastore, 1) := by decide +kernel
theorem dL_addLock_12 : decode cL_addLock 12 = .ok (.goto 15, 3) := by decide +kernel
theorem dL_addLock_15 : decode cL_addLock 15 = .ok (.astore 5, 2) := by decide +kernel
theorem dL_addLock_17 : decode cL_addLock 17 = .ok (.iconst 1, 1) := by decide +kernel
theorem dL_addLock_18 : decode cL_addLock 18 = .ok (.ireturn, 1) := by decide +kernel
theorem dL_addLock_19 : decode cL_addLock 19 = .ok (.astore 5, 2) := by decide +kernel
theorem dL_addLock_21 : decode cL_addLock 21 = .ok (.iconst 2, 1) := by decide +kernel
theorem dL_addLock_22 : decode cL_addLock 22 = .ok (.ireturn, 1) := by decide +kernel
theorem dL_addLock_23 : decode cL_addLock 23 = .ok (.astore 5, 2) := by decide +kernel
theorem dL_addLock_25 : decode cL_addLock 25 = .ok (.iconst 3, 1) := by decide +kernel
theorem dL_addLock_26 : decode cL_addLock 26 = .ok (.ireturn, 1) := by decide +kernel
theorem dL_addLock_27 : decode cL_addLock 27 = .ok (.iconst 0, 1) := by decide +kernel
theorem dL_addLock_28 : decode cL_addLock 28 = .ok (.ireturn, 1) := by decide +kernel
set_option maxRecDepth 20000 in
theorem ggL_removeLock_X6_removeLock : GoodIn wsL_removeLock wsX6_removeLock := goodIn_ca (goodIn_ca (goodIn_ca (goodIn_ca (goodIn_ca (goodIn_r _ [7, 8, 9, 10, 11, 12, 13, 14, 15, 16, 17, 18, 19, 20, 21, 22, 23, 24, 25, 26, 27, 28, 29, 30, 31, 6, 32, 33, 34, 35, 36, 37, 38, 39, 40, 41, 42, 43, 44, 45, 46, 47, 48, 49, 50, 51, 52, 53, 54, 55, 56, 57, 58, 59, 60, 61, 62, 63, 64, 65, 66, 67, 68, 69, 70, 71, 72, 73, 74, 75, 76, 77, 78, 79, 80, 81, 82, 83, 84, 85, 86] (by decide +kernel) (by decide +kernel)) (goodIn_sub (fun _ h => List.mem_cons_of_mem _ (List.mem_append_left _ (List.mem_append_left _ (List.mem_append_left _ (List.mem_append_left _ (List.mem_append_right _ h)))))) (by decide +kernel))) (goodIn_sub (fun _ h => List.mem_cons_of_mem _ (List.mem_append_left _ (List.mem_append_left _ (List.mem_append_left _ (List.mem_append_right _ h))))) (by decide +kernel))) (goodIn_sub (fun _ h => List.mem_cons_of_mem _ (List.mem_append_left _ (List.mem_append_left _ (List.mem_append_right _ h)))) (by decide +kernel))) (goodIn_sub (fun _ h => List.mem_cons_of_mem _ (List.mem_append_left _ (List.mem_append_right _ h))) (by decide +kernel))) (goodIn_sub (fun _ h => List.mem_cons_of_mem _ (List.mem_append_right _ h)) (by decide +kernel))
set_option maxRecDepth 20000 in
theorem gL_removeLock_X6_removeLock : GoodIn wsL_removeLock (wsV RL 43 RX6 yX6_removeLock wsX6_removeLock) := goodIn_app (goodIn_of _ (by decide +kernel)) ggL_removeLock_X6_removeLock
theorem dL_removeLock_0 : decode cL_removeLock 0 = .ok (.aload_n 3, 1) := by decide +kernel
theorem dL_removeLock_1 : decode cL_removeLock 1 = .ok (.iconst 0, 1) := by decide +kernel
theorem dL_removeLock_2 : decode cL_removeLock 2 = .ok (.aload_n 0, 1) := by decide +kernel
theorem dL_removeLock_3 : decode cL_removeLock 3 = .ok (.iload_n 1, 1) := by decide +kernel
theorem dL_removeLock_4 : decode cL_removeLock 4 = .ok (.iload_n 2, 1) := by decide +kernel
theorem dL_removeLock_5 : decode cL_removeLock 5 = .ok (.invokevirtual 43, 3) := by decide +kernel
theorem dL_removeLock_8 : decode cL_removeLock 8 = .ok (.i2l, 1) := by decide +kernel
theorem dL_removeLock_9 : decode cL_removeLock 9 = .ok (.lastore, 1) := by decide +kernel
theorem dL_removeLock_10 : decode cL_removeLock 10 = .ok (.goto 11, 3) := by decide +kernel
theorem dL_removeLock_13 : decode cL_removeLock 13 = .ok (.astore 4, 2) := by decide +kernel
theorem dL_removeLock_15 : decode cL_removeLock 15 = .ok (.iconst 1, 1) := by decide +kernel
theorem dL_removeLock_16 : decode cL_removeLock 16 = .ok (.ireturn, 1) := by decide +kernel
theorem dL_removeLock_17 : decode cL_removeLock 17 = .ok (.astore 4, 2) := by decide +kernel
theorem dL_removeLock_19 : decode cL_removeLock 19 = .ok (.iconst 2, 1) := by decide +kernel
theorem dL_removeLock_20 : decode cL_removeLock 20 = .ok (.ireturn, 1) := by decide +kernel
theorem dL_removeLock_21 : decode cL_removeLock 21 = .ok (.iconst 0, 1) := by decide +kernel
theorem dL_removeLock_22 : decode cL_removeLock 22 = .ok (.ireturn, 1) := by decide +kernel
set_option maxRecDepth 20000 in
theorem ggL_addWalker_X6_addWalker : GoodIn wsL_addWalker wsX6_addWalker := goodIn_ca (goodIn_ca (goodIn_ca (goodIn_ca (goodIn_ca (goodIn_r _ [8, 9, 10, 11, 12, 13, 14, 15, 16, 17, 18, 19, 20, 21, 22, 23, 24, 25, 26, 27, 28, 29, 30, 31, 32, 7, 33, 34, 35, 36, 37, 38, 39, 40, 41, 42, 43, 44, 45, 46, 47, 48, 49, 50, 51, 52, 53, 54, 55, 56, 57, 58, 59, 60, 61, 62, 63, 64, 65, 66, 67, 68, 69, 70, 71, 72, 73, 74, 75, 76, 77, 78, 79, 80, 81, 82, 83, 84, 85, 86, 87, 88, 89] (by decide +kernel) (by decide +kernel)) (goodIn_sub (fun _ h => List.mem_cons_of_mem _ (List.mem_append_left _ (List.mem_append_left _ (List.mem_append_left _ (List.mem_append_left _ (List.mem_append_right _ h)))))) (by decide +kernel))) (goodIn_sub (fun _ h => List.mem_cons_of_mem _ (List.mem_append_left _ (List.mem_append_left _ (List.mem_append_left _ (List.mem_append_right _ h))))) (by decide +kernel))) (goodIn_sub (fun _ h => List.mem_cons_of_mem _ (List.mem_append_left _ (List.mem_append_left _ (List.mem_append_right _ h)))) (by decide +kernel))) (goodIn_sub (fun _ h => List.mem_cons_of_mem _ (List.mem_append_left _ (List.mem_append_right _ h))) (by decide +kernel))) (goodIn_sub (fun _ h => List.mem_cons_of_mem _ (List.mem_append_right _ h)) (by decide +kernel))
set_option maxRecDepth 20000 in
theorem gL_addWalker_X6_addWalker : GoodIn wsL_addWalker (wsV RL 49 RX6 yX6_addWalker wsX6_addWalker) := goodIn_app (goodIn_of _ (by decide +kernel)) ggL_addWalker_X6_addWalker
theorem dL_addWalker_0 : decode cL_addWalker 0 = .ok (.aload_n 3, 1) := by decide +kernel
theorem dL_addWalker_1 : decode cL_addWalker 1 = .ok (.iconst 0, 1) := by decide +kernel
theorem dL_addWalker_2 : decode cL_addWalker 2 = .ok (.aload_n 0, 1) := by decide +kernel
theorem dL_addWalker_3 : decode cL_addWalker 3 = .ok (.iload_n 1, 1) := by decide +kernel
theorem dL_addWalker_4 : decode cL_addWalker 4 = .ok (.iload_n 2, 1) := by decide +kernel
theorem dL_addWalker_5 : decode cL_addWalker 5 = .ok (.invokevirtual 49, 3) := by decide +kernel
theorem dL_addWalker_8 : decode cL_addWalker 8 = .ok (.i2l, 1) := by decide +kernel
theorem dL_addWalker_9 : decode cL_addWalker 9 = .ok (.lastore, 1) := by decide +kernel
theorem dL_addWalker_10 : decode cL_addWalker 10 = .ok (.goto 15, 3) := by decide +kernel
theorem dL_addWalker_13 : decode cL_addWalker 13 = .ok (.astore 4, 2) := by decide +kernel
theorem dL_addWalker_15 : decode cL_addWalker 15 = .ok (.iconst 1, 1) := by decide +kernel
theorem dL_addWalker_16 : decode cL_addWalker 16 = .ok (.ireturn, 1) := by decide +kernel
theorem dL_addWalker_17 : decode cL_addWalker 17 = .ok (.astore 4, 2) := by decide +kernel
theorem dL_addWalker_19 : decode cL_addWalker 19 = .ok (.iconst 2, 1) := by decide +kernel
theorem dL_addWalker_20 : decode cL_addWalker 20 = .ok (.ireturn, 1) := by decide +kernel
theorem dL_addWalker_21 : decode cL_addWalker 21 = .ok (.astore 4, 2) := by decide +kernel
theorem dL_addWalker_23 : decode cL_addWalker 23 = .ok (.iconst 3, 1) := by decide +kernel
theorem dL_addWalker_24 : decode cL_addWalker 24 = .ok (.ireturn, 1) := by decide +kernel
theorem dL_addWalker_25 : decode cL_addWalker 25 = .ok (.iconst 0, 1) := by decide +kernel
theorem dL_addWalker_26 : decode cL_addWalker 26 = .ok (.ireturn, 1) := by decide +kernel
set_option maxRecDepth 20000 in
theorem ggL_walk_X6_walk : GoodIn wsL_walk wsX6_walk := goodIn_ca (goodIn_ca (goodIn_ca (goodIn_ca (goodIn_ca (goodIn_r _ [8, 9, 10, 11, 12, 13, 14, 15, 16, 17, 18, 19, 20, 21, 22, 23, 24, 25, 26, 27, 28, 29, 30, 31, 32, 33, 34, 35, 36, 37, 38, 7, 39, 40, 41, 42, 43, 44, 45, 46, 47, 48, 49, 50, 51, 52, 53, 54, 55, 56, 57, 58, 59, 60, 61, 62, 63, 64, 65, 66, 67, 68, 69, 70, 71, 72, 73, 74, 75, 76, 77, 78, 79, 80, 81, 82, 83, 84, 85, 86, 87, 88, 89, 90, 91, 92, 93, 94, 95, 96, 97, 98, 99, 100, 101, 102, 103, 104, 105, 106, 107, 108, 109, 110, 111, 112, 113, 114, 115, 116, 117, 118, 119, 120, 121, 122, 123, 124] (by decide +kernel) (by decide +kernel)) (goodIn_sub (fun _ h => List.mem_cons_of_mem _ (List.mem_append_left _ (List.mem_append_left _ (List.mem_append_left _ (List.mem_append_left _ (List.mem_append_right _ h)))))) (by decide +kernel))) (goodIn_sub (fun _ h => List.mem_cons_of_mem _ (List.mem_append_left _ (List.mem_append_left _ (List.mem_append_left _ (List.mem_append_right _ h))))) (by decide +kernel))) (goodIn_sub (fun _ h => List.mem_cons_of_mem _ (List.mem_append_left _ (List.mem_append_left _ (List.mem_append_right _ h)))) (by decide +kernel))) (goodIn_sub (fun _ h => List.mem_cons_of_mem _ (List.mem_append_left _ (List.mem_append_right _ h))) (by decide +kernel))) (goodIn_sub (fun _ h => List.mem_cons_of_mem _ (List.mem_append_right _ h)) (by decide +kernel))
set_option maxRecDepth 20000 in
theorem gL_walk_X6_walk : GoodIn wsL_walk (wsV RL 54 RX6 yX6_walk wsX6_walk) := goodIn_app (goodIn_of _ (by decide +kernel)) ggL_walk_X6_walk
theorem dL_walk_0 : decode cL_walk 0 = .ok (.aload 4, 2) := by decide +kernel
theorem dL_walk_2 : decode cL_walk 2 = .ok (.iconst 0, 1) := by decide +kernel
theorem dL_walk_3 : decode cL_walk 3 = .ok (.aload_n 0, 1) := by decide +kernel
theorem dL_walk_4 : decode cL_walk 4 = .ok (.iload_n 1, 1) := by decide +kernel
theorem dL_walk_5 : decode cL_walk 5 = .ok (.iload_n 2, 1) := by decide +kernel
theorem dL_walk_6 : decode cL_walk 6 = .ok (.iload_n 3, 1) := by decide +kernel
theorem dL_walk_7 : decode cL_walk 7 = .ok (.invokevirtual 54, 3) := by decide +kernel
theorem dL_walk_10 : decode cL_walk 10 = .ok (.i2l, 1) := by decide +kernel
theorem dL_walk_11 : decode cL_walk 11 = .ok (.lastore, 1) := by decide +kernel
theorem dL_walk_12 : decode cL_walk 12 = .ok (.goto 15, 3) := by decide +kernel
theorem dL_walk_15 : decode cL_walk 15 = .ok (.astore 5, 2) := by decide +kernel
theorem dL_walk_17 : decode cL_walk 17 = .ok (.iconst 1, 1) := by decide +kernel
theorem dL_walk_18 : decode cL_walk 18 = .ok (.ireturn, 1) := by decide +kernel
theorem dL_walk_19 : decode cL_walk 19 = .ok (.astore 5, 2) := by decide +kernel
theorem dL_walk_21 : decode cL_walk 21 = .ok (.iconst 2, 1) := by decide +kernel
theorem dL_walk_22 : decode cL_walk 22 = .ok (.ireturn, 1) := by decide +kernel
theorem dL_walk_23 : decode cL_walk 23 = .ok (.astore 5, 2) := by decide +kernel
theorem dL_walk_25 : decode cL_walk 25 = .ok (.iconst 3, 1) := by decide +kernel
theorem dL_walk_26 : decode cL_walk 26 = .ok (.ireturn, 1) := by decide +kernel
theorem dL_walk_27 : decode cL_walk 27 = .ok (.iconst 0, 1) := by decide +kernel
theorem dL_walk_28 : decode cL_walk 28 = .ok (.ireturn, 1) := by decide +kernel
set_option maxRecDepth 20000 in
theorem ggL_openings_X6_openings : GoodIn wsL_openings wsX6_openings := goodIn_ca (goodIn_r _ [6, 7, 8, 9, 10, 5, 11, 12, 13, 14, 15, 16, 17, 18, 19, 20, 21, 22, 23, 24, 25, 26, 27, 28, 29, 30, 31, 32, 33, 34, 35, 36, 37] (by decide +kernel) (by decide +kernel)) (goodIn_sub (fun _ h => List.mem_cons_of_mem _ (List.mem_append_right _ h)) (by decide +kernel))
set_option maxRecDepth 20000 in
theorem gL_openings_X6_openings : GoodIn wsL_openings (wsV RL 57 RX6 yX6_openings wsX6_openings) := goodIn_app (goodIn_of _ (by decide +kernel)) ggL_openings_X6_openings
theorem dL_openings_0 : decode cL_openings 0 = .ok (.aload_n 3, 1) := by decide +kernel
theorem dL_openings_1 : decode cL_openings 1 = .ok (.iconst 0, 1) := by decide +kernel
theorem dL_openings_2 : decode cL_openings 2 = .ok (.aload_n 0, 1) := by decide +kernel
theorem dL_openings_3 : decode cL_openings 3 = .ok (.iload_n 1, 1) := by decide +kernel
theorem dL_openings_4 : decode cL_openings 4 = .ok (.iload_n 2, 1) := by decide +kernel
theorem dL_openings_5 : decode cL_openings 5 = .ok (.invokevirtual 57, 3) := by decide +kernel
theorem dL_openings_8 : decode cL_openings 8 = .ok (.i2l, 1) := by decide +kernel
theorem dL_openings_9 : decode cL_openings 9 = .ok (.lastore, 1) := by decide +kernel
theorem dL_openings_10 : decode cL_openings 10 = .ok (.goto 7, 3) := by decide +kernel
theorem dL_openings_13 : decode cL_openings 13 = .ok (.astore 4, 2) := by decide +kernel
theorem dL_openings_15 : decode cL_openings 15 = .ok (.iconst 1, 1) := by decide +kernel
theorem dL_openings_16 : decode cL_openings 16 = .ok (.ireturn, 1) := by decide +kernel
theorem dL_openings_17 : decode cL_openings 17 = .ok (.iconst 0, 1) := by decide +kernel
theorem dL_openings_18 : decode cL_openings 18 = .ok (.ireturn, 1) := by decide +kernel
set_option maxRecDepth 20000 in
theorem ggL_isPinned_X6_isPinned : GoodIn wsL_isPinned wsX6_isPinned := goodIn_ca (goodIn_r _ [6, 7, 8, 9, 5, 10, 11, 12, 13, 14, 15, 16, 17, 18, 19, 20, 21, 22, 23, 24, 25, 26, 27, 28, 29, 30, 31, 32, 33, 34, 35, 36, 37, 38, 39, 40, 41, 42] (by decide +kernel) (by decide +kernel)) (goodIn_sub (fun _ h => List.mem_cons_of_mem _ (List.mem_append_right _ h)) (by decide +kernel))
set_option maxRecDepth 20000 in
theorem gL_isPinned_X6_isPinned : GoodIn wsL_isPinned (wsV RL 60 RX6 yX6_isPinned wsX6_isPinned) := goodIn_app (goodIn_of _ (by decide +kernel)) ggL_isPinned_X6_isPinned
theorem dL_isPinned_0 : decode cL_isPinned 0 = .ok (.aload_n 3, 1) := by decide +kernel
theorem dL_isPinned_1 : decode cL_isPinned 1 = .ok (.iconst 0, 1) := by decide +kernel
theorem dL_isPinned_2 : decode cL_isPinned 2 = .ok (.aload_n 0, 1) := by decide +kernel
theorem dL_isPinned_3 : decode cL_isPinned 3 = .ok (.iload_n 1, 1) := by decide +kernel
theorem dL_isPinned_4 : decode cL_isPinned 4 = .ok (.iload_n 2, 1) := by decide +kernel
theorem dL_isPinned_5 : decode cL_isPinned 5 = .ok (.invokevirtual 60, 3) := by decide +kernel
theorem dL_isPinned_8 : decode cL_isPinned 8 = .ok (.ifCond .eq 7, 3) := by decide +kernel
theorem dL_isPinned_11 : decode cL_isPinned 11 = .ok (.lconst 1, 1) := by decide +kernel
theorem dL_isPinned_12 : decode cL_isPinned 12 = .ok (.goto 4, 3) := by decide +kernel
theorem dL_isPinned_15 : decode cL_isPinned 15 = .ok (.lconst 0, 1) := by decide +kernel
theorem dL_isPinned_16 : decode cL_isPinned 16 = .ok (.lastore, 1) := by decide +kernel
theorem dL_isPinned_17 : decode cL_isPinned 17 = .ok (.goto 7, 3) := by decide +kernel
theorem dL_isPinned_20 : decode cL_isPinned 20 = .ok (.astore 4, 2) := by decide +kernel
theorem dL_isPinned_22 : decode cL_isPinned 22 = .ok (.iconst 1, 1) := by decide +kernel
theorem dL_isPinned_23 : decode cL_isPinned 23 = .ok (.ireturn, 1) := by decide +kernel
theorem dL_isPinned_24 : decode cL_isPinned 24 = .ok (.iconst 0, 1) := by decide +kernel
theorem dL_isPinned_25 : decode cL_isPinned 25 = .ok (.ireturn, 1) := by decide +kernel
set_option maxRecDepth 20000 in
theorem ggL_canShiftRow_X6_canShiftRow : GoodIn wsL_canShiftRow wsX6_canShiftRow := goodIn_ca (goodIn_r _ [6, 7, 8, 9, 5, 10, 11, 12, 13, 14, 15, 16, 17, 18, 19, 20, 21, 22, 23, 24, 25, 26, 27, 28, 29, 30, 31, 32, 33, 34, 35, 36, 37, 38, 39, 40, 41, 42, 43, 44, 45, 46] (by decide +kernel) (by decide +kernel)) (goodIn_sub (fun _ h => List.mem_cons_of_mem _ (List.mem_append_right _ h)) (by decide +kernel))
set_option maxRecDepth 20000 in
theorem gL_canShiftRow_X6_canShiftRow : GoodIn wsL_canShiftRow (wsV RL 64 RX6 yX6_canShiftRow wsX6_canShiftRow) := goodIn_app (goodIn_of _ (by decide +kernel)) ggL_canShiftRow_X6_canShiftRow
theorem dL_canShiftRow_0 : decode cL_canShiftRow 0 = .ok (.aload_n 2, 1) := by decide +kernel
theorem dL_canShiftRow_1 : decode cL_canShiftRow 1 = .ok (.iconst 0, 1) := by decide +kernel
theorem dL_canShiftRow_2 : decode cL_canShiftRow 2 = .ok (.aload_n 0, 1) := by decide +kernel
theorem dL_canShiftRow_3 : decode cL_canShiftRow 3 = .ok (.iload_n 1, 1) := by decide +kernel
theorem dL_canShiftRow_4 : decode cL_canShiftRow 4 = .ok (.invokevirtual 64, 3) := by decide +kernel
theorem dL_canShiftRow_7 : decode cL_canShiftRow 7 = .ok (.ifCond .eq 7, 3) := by decide +kernel
theorem dL_canShiftRow_10 : decode cL_canShiftRow 10 = .ok (.lconst 1, 1) := by decide +kernel
theorem dL_canShiftRow_11 : decode cL_canShiftRow 11 = .ok (.goto 4, 3) := by decide +kernel
theorem dL_canShiftRow_14 : decode cL_canShiftRow 14 = .ok (.lconst 0, 1) := by decide +kernel
theorem dL_canShiftRow_15 : decode cL_canShiftRow 15 = .ok (.lastore, 1) := by decide +kernel
theorem dL_canShiftRow_16 : decode cL_canShiftRow 16 = .ok (.goto 6, 3) := by decide +kernel
theorem dL_canShiftRow_19 : decode cL_canShiftRow 19 = .ok (.astore_n 3, 1) := by decide +kernel
theorem dL_canShiftRow_20 : decode cL_canShiftRow 20 = .ok (.iconst 1, 1) := by decide +kernel
theorem dL_canShiftRow_21 : decode cL_canShiftRow 21 = .ok (.ireturn, 1) := by decide +kernel
theorem dL_canShiftRow_22 : decode cL_canShiftRow 22 = .ok (.iconst 0, 1) := by decide +kernel
theorem dL_canShiftRow_23 : decode cL_canShiftRow 23 = .ok (.ireturn, 1) := by decide +kernel
set_option maxRecDepth 20000 in
theorem ggL_canShiftColumn_X6_canShiftColumn : GoodIn wsL_canShiftColumn wsX6_canShiftColumn := goodIn_ca (goodIn_r _ [6, 7, 8, 9, 5, 10, 11, 12, 13, 14, 15, 16, 17, 18, 19, 20, 21, 22, 23, 24, 25, 26, 27, 28, 29, 30, 31, 32, 33, 34, 35, 36, 37, 38, 39, 40, 41, 42, 43, 44, 45, 46] (by decide +kernel) (by decide +kernel)) (goodIn_sub (fun _ h => List.mem_cons_of_mem _ (List.mem_append_right _ h)) (by decide +kernel))
set_option maxRecDepth 20000 in
theorem gL_canShiftColumn_X6_canShiftColumn : GoodIn wsL_canShiftColumn (wsV RL 68 RX6 yX6_canShiftColumn wsX6_canShiftColumn) := goodIn_app (goodIn_of _ (by decide +kernel)) ggL_canShiftColumn_X6_canShiftColumn
theorem dL_canShiftColumn_0 : decode cL_canShiftColumn 0 = .ok (.aload_n 2, 1) := by decide +kernel
theorem dL_canShiftColumn_1 : decode cL_canShiftColumn 1 = .ok (.iconst 0, 1) := by decide +kernel
theorem dL_canShiftColumn_2 : decode cL_canShiftColumn 2 = .ok (.aload_n 0, 1) := by decide +kernel
theorem dL_canShiftColumn_3 : decode cL_canShiftColumn 3 = .ok (.iload_n 1, 1) := by decide +kernel
theorem dL_canShiftColumn_4 : decode cL_canShiftColumn 4 = .ok (.invokevirtual 68, 3) := by decide +kernel
theorem dL_canShiftColumn_7 : decode cL_canShiftColumn 7 = .ok (.ifCond .eq 7, 3) := by decide +kernel
theorem dL_canShiftColumn_10 : decode cL_canShiftColumn 10 = .ok (.lconst 1, 1) := by decide +kernel
theorem dL_canShiftColumn_11 : decode cL_canShiftColumn 11 = .ok (.goto 4, 3) := by decide +kernel
theorem dL_canShiftColumn_14 : decode cL_canShiftColumn 14 = .ok (.lconst 0, 1) := by decide +kernel
theorem dL_canShiftColumn_15 : decode cL_canShiftColumn 15 = .ok (.lastore, 1) := by decide +kernel
theorem dL_canShiftColumn_16 : decode cL_canShiftColumn 16 = .ok (.goto 6, 3) := by decide +kernel
theorem dL_canShiftColumn_19 : decode cL_canShiftColumn 19 = .ok (.astore_n 3, 1) := by decide +kernel
theorem dL_canShiftColumn_20 : decode cL_canShiftColumn 20 = .ok (.iconst 1, 1) := by decide +kernel
theorem dL_canShiftColumn_21 : decode cL_canShiftColumn 21 = .ok (.ireturn, 1) := by decide +kernel
theorem dL_canShiftColumn_22 : decode cL_canShiftColumn 22 = .ok (.iconst 0, 1) := by decide +kernel
theorem dL_canShiftColumn_23 : decode cL_canShiftColumn 23 = .ok (.ireturn, 1) := by decide +kernel
set_option maxRecDepth 20000 in
theorem ggL_hasLock_X6_hasLock : GoodIn wsL_hasLock wsX6_hasLock := goodIn_ca (goodIn_r _ [6, 7, 8, 9, 10, 5, 11, 12, 13, 14, 15, 16, 17, 18, 19, 20, 21, 22, 23, 24, 25, 26, 27, 28, 29, 30, 31, 32, 33, 34, 35, 36, 37] (by decide +kernel) (by decide +kernel)) (goodIn_sub (fun _ h => List.mem_cons_of_mem _ (List.mem_append_right _ h)) (by decide +kernel))
set_option maxRecDepth 20000 in
theorem gL_hasLock_X6_hasLock : GoodIn wsL_hasLock (wsV RL 71 RX6 yX6_hasLock wsX6_hasLock) := goodIn_app (goodIn_of _ (by decide +kernel)) ggL_hasLock_X6_hasLock
theorem dL_hasLock_0 : decode cL_hasLock 0 = .ok (.aload_n 3, 1) := by decide +kernel
theorem dL_hasLock_1 : decode cL_hasLock 1 = .ok (.iconst 0, 1) := by decide +kernel
theorem dL_hasLock_2 : decode cL_hasLock 2 = .ok (.aload_n 0, 1) := by decide +kernel
theorem dL_hasLock_3 : decode cL_hasLock 3 = .ok (.iload_n 1, 1) := by decide +kernel
theorem dL_hasLock_4 : decode cL_hasLock 4 = .ok (.iload_n 2, 1) := by decide +kernel
theorem dL_hasLock_5 : decode cL_hasLock 5 = .ok (.invokevirtual 71, 3) := by decide +kernel
theorem dL_hasLock_8 : decode cL_hasLock 8 = .ok (.ifCond .eq 7, 3) := by decide +kernel
theorem dL_hasLock_11 : decode cL_hasLock 11 = .ok (.lconst 1, 1) := by decide +kernel
theorem dL_hasLock_12 : decode cL_hasLock 12 = .ok (.goto 4, 3) := by decide +kernel
theorem dL_hasLock_15 : decode cL_hasLock 15 = .ok (.lconst 0, 1) := by decide +kernel
theorem dL_hasLock_16 : decode cL_hasLock 16 = .ok (.lastore, 1) := by decide +kernel
theorem dL_hasLock_17 : decode cL_hasLock 17 = .ok (.goto 7, 3) := by decide +kernel
theorem dL_hasLock_20 : decode cL_hasLock 20 = .ok (.astore 4, 2) := by decide +kernel
theorem dL_hasLock_22 : decode cL_hasLock 22 = .ok (.iconst 1, 1) := by decide +kernel
theorem dL_hasLock_23 : decode cL_hasLock 23 = .ok (.ireturn, 1) := by decide +kernel
theorem dL_hasLock_24 : decode cL_hasLock 24 = .ok (.iconst 0, 1) := by decide +kernel
theorem dL_hasLock_25 : decode cL_hasLock 25 = .ok (.ireturn, 1) := by decide +kernel
set_option maxRecDepth 20000 in
theorem ggL_lockAt_X6_lockAt : GoodIn wsL_lockAt wsX6_lockAt := goodIn_ca (goodIn_ca (goodIn_r _ [7, 8, 9, 10, 11, 12, 13, 6, 14, 15, 16, 17, 18, 19, 20, 21, 22, 23, 24, 25, 26, 27, 28, 29, 30, 31, 32, 33, 34, 35, 36, 37, 38, 39, 40, 41, 42, 43] (by decide +kernel) (by decide +kernel)) (goodIn_sub (fun _ h => List.mem_cons_of_mem _ (List.mem_append_left _ (List.mem_append_right _ h))) (by decide +kernel))) (goodIn_sub (fun _ h => List.mem_cons_of_mem _ (List.mem_append_right _ h)) (by decide +kernel))
set_option maxRecDepth 20000 in
theorem gL_lockAt_X6_lockAt : GoodIn wsL_lockAt (wsV RL 74 RX6 yX6_lockAt wsX6_lockAt) := goodIn_app (goodIn_of _ (by decide +kernel)) ggL_lockAt_X6_lockAt
theorem dL_lockAt_0 : decode cL_lockAt 0 = .ok (.aload_n 3, 1) := by decide +kernel
theorem dL_lockAt_1 : decode cL_lockAt 1 = .ok (.iconst 0, 1) := by decide +kernel
theorem dL_lockAt_2 : decode cL_lockAt 2 = .ok (.aload_n 0, 1) := by decide +kernel
theorem dL_lockAt_3 : decode cL_lockAt 3 = .ok (.iload_n 1, 1) := by decide +kernel
theorem dL_lockAt_4 : decode cL_lockAt 4 = .ok (.iload_n 2, 1) := by decide +kernel
theorem dL_lockAt_5 : decode cL_lockAt 5 = .ok (.invokevirtual 74, 3) := by decide +kernel
theorem dL_lockAt_8 : decode cL_lockAt 8 = .ok (.i2l, 1) := by decide +kernel
theorem dL_lockAt_9 : decode cL_lockAt 9 = .ok (.lastore, 1) := by decide +kernel
theorem dL_lockAt_10 : decode cL_lockAt 10 = .ok (.goto 11, 3) := by decide +kernel
theorem dL_lockAt_13 : decode cL_lockAt 13 = .ok (.astore 4, 2) := by decide +kernel
theorem dL_lockAt_15 : decode cL_lockAt 15 = .ok (.iconst 1, 1) := by decide +kernel
theorem dL_lockAt_16 : decode cL_lockAt 16 = .ok (.ireturn, 1) := by decide +kernel
theorem dL_lockAt_17 : decode cL_lockAt 17 = .ok (.astore 4, 2) := by decide +kernel
theorem dL_lockAt_19 : decode cL_lockAt 19 = .ok (.iconst 2, 1) := by decide +kernel
theorem dL_lockAt_20 : decode cL_lockAt 20 = .ok (.ireturn, 1) := by decide +kernel
theorem dL_lockAt_21 : decode cL_lockAt 21 = .ok (.iconst 0, 1) := by decide +kernel
theorem dL_lockAt_22 : decode cL_lockAt 22 = .ok (.ireturn, 1) := by decide +kernel
set_option maxRecDepth 20000 in
theorem ggL_keysAt_X6_keysAt : GoodIn wsL_keysAt wsX6_keysAt := goodIn_ca (goodIn_r _ [6, 7, 8, 9, 5, 10, 11, 12, 13, 14, 15, 16, 17, 18, 19, 20, 21, 22, 23, 24, 25, 26, 27, 28, 29, 30, 31, 32, 33, 34, 35, 36, 37, 38, 39, 40, 41, 42] (by decide +kernel) (by decide +kernel)) (goodIn_sub (fun _ h => List.mem_cons_of_mem _ (List.mem_append_right _ h)) (by decide +kernel))
set_option maxRecDepth 20000 in
theorem gL_keysAt_X6_keysAt : GoodIn wsL_keysAt (wsV RL 77 RX6 yX6_keysAt wsX6_keysAt) := goodIn_app (goodIn_of _ (by decide +kernel)) ggL_keysAt_X6_keysAt
theorem dL_keysAt_0 : decode cL_keysAt 0 = .ok (.aload_n 3, 1) := by decide +kernel
theorem dL_keysAt_1 : decode cL_keysAt 1 = .ok (.iconst 0, 1) := by decide +kernel
theorem dL_keysAt_2 : decode cL_keysAt 2 = .ok (.aload_n 0, 1) := by decide +kernel
theorem dL_keysAt_3 : decode cL_keysAt 3 = .ok (.iload_n 1, 1) := by decide +kernel
theorem dL_keysAt_4 : decode cL_keysAt 4 = .ok (.iload_n 2, 1) := by decide +kernel
theorem dL_keysAt_5 : decode cL_keysAt 5 = .ok (.invokevirtual 77, 3) := by decide +kernel
theorem dL_keysAt_8 : decode cL_keysAt 8 = .ok (.i2l, 1) := by decide +kernel
theorem dL_keysAt_9 : decode cL_keysAt 9 = .ok (.lastore, 1) := by decide +kernel
theorem dL_keysAt_10 : decode cL_keysAt 10 = .ok (.goto 7, 3) := by decide +kernel
theorem dL_keysAt_13 : decode cL_keysAt 13 = .ok (.astore 4, 2) := by decide +kernel
theorem dL_keysAt_15 : decode cL_keysAt 15 = .ok (.iconst 1, 1) := by decide +kernel
theorem dL_keysAt_16 : decode cL_keysAt 16 = .ok (.ireturn, 1) := by decide +kernel
theorem dL_keysAt_17 : decode cL_keysAt 17 = .ok (.iconst 0, 1) := by decide +kernel
theorem dL_keysAt_18 : decode cL_keysAt 18 = .ok (.ireturn, 1) := by decide +kernel
set_option maxRecDepth 20000 in
theorem ggL_isConnected_X6_isConnected : GoodIn wsL_isConnected wsX6_isConnected := goodIn_ca (goodIn_ca (goodIn_r _ [7, 8, 9, 10, 11, 12, 6, 13, 14, 15, 16, 17, 18, 19, 20, 21, 22, 23, 24, 25, 26, 27, 28, 29, 30, 31, 32, 33, 34, 35, 36, 37, 38, 39, 40, 41, 42, 43, 44, 45, 46, 47, 48] (by decide +kernel) (by decide +kernel)) (goodIn_sub (fun _ h => List.mem_cons_of_mem _ (List.mem_append_left _ (List.mem_append_right _ h))) (by decide +kernel))) (goodIn_sub (fun _ h => List.mem_cons_of_mem _ (List.mem_append_right _ h)) (by decide +kernel))
set_option maxRecDepth 20000 in
theorem gL_isConnected_X6_isConnected : GoodIn wsL_isConnected (wsV RL 80 RX6 yX6_isConnected wsX6_isConnected) := goodIn_app (goodIn_of _ (by decide +kernel)) ggL_isConnected_X6_isConnected
theorem dL_isConnected_0 : decode cL_isConnected 0 = .ok (.aload 4, 2) := by decide +kernel
theorem dL_isConnected_2 : decode cL_isConnected 2 = .ok (.iconst 0, 1) := by decide +kernel
theorem dL_isConnected_3 : decode cL_isConnected 3 = .ok (.aload_n 0, 1) := by decide +kernel
theorem dL_isConnected_4 : decode cL_isConnected 4 = .ok (.iload_n 1, 1) := by decide +kernel
theorem dL_isConnected_5 : decode cL_isConnected 5 = .ok (.iload_n 2, 1) := by decide +kernel
theorem dL_isConnected_6 : decode cL_isConnected 6 = .ok (.iload_n 3, 1) := by decide +kernel
theorem dL_isConnected_7 : decode cL_isConnected 7 = .ok (.invokevirtual 80, 3) := by decide +kernel
theorem dL_isConnected_10 : decode cL_isConnected 10 = .ok (.ifCond .eq 7, 3) := by decide +kernel
theorem dL_isConnected_13 : decode cL_isConnected 13 = .ok (.lconst 1, 1) := by decide +kernel
theorem dL_isConnected_14 : decode cL_isConnected 14 = .ok (.goto 4, 3) := by decide +kernel
theorem dL_isConnected_17 : decode cL_isConnected 17 = .ok (.lconst 0, 1) := by decide +kernel
theorem dL_isConnected_18 : decode cL_isConnected 18 = .ok (.lastore, 1) := by decide +kernel
theorem dL_isConnected_19 : decode cL_isConnected 19 = .ok (.goto 11, 3) := by decide +kernel
theorem dL_isConnected_22 : decode cL_isConnected 22 = .ok (.astore 5, 2) := by decide +kernel
theorem dL_isConnected_24 : decode cL_isConnected 24 = .ok (.iconst 1, 1) := by decide +kernel
theorem dL_isConnected_25 : decode cL_isConnected 25 = .ok (.ireturn, 1) := by decide +kernel
theorem dL_isConnected_26 : decode cL_isConnected 26 = .ok (.astore 5, 2) := by decide +kernel
theorem dL_isConnected_28 : decode cL_isConnected 28 = .ok (.iconst 2, 1) := by decide +kernel
theorem dL_isConnected_29 : decode cL_isConnected 29 = .ok (.ireturn, 1) := by decide +kernel
theorem dL_isConnected_30 : decode cL_isConnected 30 = .ok (.iconst 0, 1) := by decide +kernel
theorem dL_isConnected_31 : decode cL_isConnected 31 = .ok (.ireturn, 1) := by decide +kernel
set_option maxRecDepth 20000 in
theorem ggL_keyRow_X6_keyRow : GoodIn wsL_keyRow wsX6_keyRow := goodIn_ca (goodIn_ca (goodIn_r _ [7, 8, 9, 10, 6, 11, 12, 13, 14, 15, 16, 17, 18, 19, 20, 21, 22, 23, 24, 25, 26, 27, 28, 29, 30, 31, 32, 33, 34, 35, 36, 37, 38, 39, 40, 41, 42, 43, 44, 45, 46, 47] (by decide +kernel) (by decide +kernel)) (goodIn_sub (fun _ h => List.mem_cons_of_mem _ (List.mem_append_left _ (List.mem_append_right _ h))) (by decide +kernel))) (goodIn_sub (fun _ h => List.mem_cons_of_mem _ (List.mem_append_right _ h)) (by decide +kernel))
set_option maxRecDepth 20000 in
theorem gL_keyRow_X6_keyRow : GoodIn wsL_keyRow (wsV RL 84 RX6 yX6_keyRow wsX6_keyRow) := goodIn_app (goodIn_of _ (by decide +kernel)) ggL_keyRow_X6_keyRow
theorem dL_keyRow_0 : decode cL_keyRow 0 = .ok (.aload_n 2, 1) := by decide +kernel
theorem dL_keyRow_1 : decode cL_keyRow 1 = .ok (.iconst 0, 1) := by decide +kernel
theorem dL_keyRow_2 : decode cL_keyRow 2 = .ok (.aload_n 0, 1) := by decide +kernel
theorem dL_keyRow_3 : decode cL_keyRow 3 = .ok (.iload_n 1, 1) := by decide +kernel
theorem dL_keyRow_4 : decode cL_keyRow 4 = .ok (.invokevirtual 84, 3) := by decide +kernel
theorem dL_keyRow_7 : decode cL_keyRow 7 = .ok (.i2l, 1) := by decide +kernel
theorem dL_keyRow_8 : decode cL_keyRow 8 = .ok (.lastore, 1) := by decide +kernel
theorem dL_keyRow_9 : decode cL_keyRow 9 = .ok (.goto 9, 3) := by decide +kernel
theorem dL_keyRow_12 : decode cL_keyRow 12 = .ok (.astore_n 3, 1) := by decide +kernel
theorem dL_keyRow_13 : decode cL_keyRow 13 = .ok (.iconst 1, 1) := by decide +kernel
theorem dL_keyRow_14 : decode cL_keyRow 14 = .ok (.ireturn, 1) := by decide +kernel
theorem dL_keyRow_15 : decode cL_keyRow 15 = .ok (.astore_n 3, 1) := by decide +kernel
theorem dL_keyRow_16 : decode cL_keyRow 16 = .ok (.iconst 2, 1) := by decide +kernel
theorem dL_keyRow_17 : decode cL_keyRow 17 = .ok (.ireturn, 1) := by decide +kernel
theorem dL_keyRow_18 : decode cL_keyRow 18 = .ok (.iconst 0, 1) := by decide +kernel
theorem dL_keyRow_19 : decode cL_keyRow 19 = .ok (.ireturn, 1) := by decide +kernel
set_option maxRecDepth 20000 in
theorem ggL_keyColumn_X6_keyColumn : GoodIn wsL_keyColumn wsX6_keyColumn := goodIn_ca (goodIn_ca (goodIn_r _ [7, 8, 9, 10, 6, 11, 12, 13, 14, 15, 16, 17, 18, 19, 20, 21, 22, 23, 24, 25, 26, 27, 28, 29, 30, 31, 32, 33, 34, 35, 36, 37, 38, 39, 40, 41, 42, 43, 44, 45, 46, 47] (by decide +kernel) (by decide +kernel)) (goodIn_sub (fun _ h => List.mem_cons_of_mem _ (List.mem_append_left _ (List.mem_append_right _ h))) (by decide +kernel))) (goodIn_sub (fun _ h => List.mem_cons_of_mem _ (List.mem_append_right _ h)) (by decide +kernel))
set_option maxRecDepth 20000 in
theorem gL_keyColumn_X6_keyColumn : GoodIn wsL_keyColumn (wsV RL 88 RX6 yX6_keyColumn wsX6_keyColumn) := goodIn_app (goodIn_of _ (by decide +kernel)) ggL_keyColumn_X6_keyColumn
theorem dL_keyColumn_0 : decode cL_keyColumn 0 = .ok (.aload_n 2, 1) := by decide +kernel
theorem dL_keyColumn_1 : decode cL_keyColumn 1 = .ok (.iconst 0, 1) := by decide +kernel
theorem dL_keyColumn_2 : decode cL_keyColumn 2 = .ok (.aload_n 0, 1) := by decide +kernel
theorem dL_keyColumn_3 : decode cL_keyColumn 3 = .ok (.iload_n 1, 1) := by decide +kernel
theorem dL_keyColumn_4 : decode cL_keyColumn 4 = .ok (.invokevirtual 88, 3) := by decide +kernel
theorem dL_keyColumn_7 : decode cL_keyColumn 7 = .ok (.i2l, 1) := by decide +kernel
theorem dL_keyColumn_8 : decode cL_keyColumn 8 = .ok (.lastore, 1) := by decide +kernel
theorem dL_keyColumn_9 : decode cL_keyColumn 9 = .ok (.goto 9, 3) := by decide +kernel
theorem dL_keyColumn_12 : decode cL_keyColumn 12 = .ok (.astore_n 3, 1) := by decide +kernel
theorem dL_keyColumn_13 : decode cL_keyColumn 13 = .ok (.iconst 1, 1) := by decide +kernel
theorem dL_keyColumn_14 : decode cL_keyColumn 14 = .ok (.ireturn, 1) := by decide +kernel
theorem dL_keyColumn_15 : decode cL_keyColumn 15 = .ok (.astore_n 3, 1) := by decide +kernel
theorem dL_keyColumn_16 : decode cL_keyColumn 16 = .ok (.iconst 2, 1) := by decide +kernel
theorem dL_keyColumn_17 : decode cL_keyColumn 17 = .ok (.ireturn, 1) := by decide +kernel
theorem dL_keyColumn_18 : decode cL_keyColumn 18 = .ok (.iconst 0, 1) := by decide +kernel
theorem dL_keyColumn_19 : decode cL_keyColumn 19 = .ok (.ireturn, 1) := by decide +kernel
set_option maxRecDepth 20000 in
theorem ggL_carrierOf_X6_carrierOf : GoodIn wsL_carrierOf wsX6_carrierOf := goodIn_ca (goodIn_ca (goodIn_r _ [7, 8, 9, 10, 11, 12, 13, 6, 14, 15, 16, 17, 18, 19, 20, 21, 22, 23, 24, 25, 26, 27, 28, 29, 30, 31, 32, 33, 34, 35, 36, 37, 38, 39, 40] (by decide +kernel) (by decide +kernel)) (goodIn_sub (fun _ h => List.mem_cons_of_mem _ (List.mem_append_left _ (List.mem_append_right _ h))) (by decide +kernel))) (goodIn_sub (fun _ h => List.mem_cons_of_mem _ (List.mem_append_right _ h)) (by decide +kernel))
set_option maxRecDepth 20000 in
theorem gL_carrierOf_X6_carrierOf : GoodIn wsL_carrierOf (wsV RL 91 RX6 yX6_carrierOf wsX6_carrierOf) := goodIn_app (goodIn_of _ (by decide +kernel)) ggL_carrierOf_X6_carrierOf
theorem dL_carrierOf_0 : decode cL_carrierOf 0 = .ok (.aload_n 2, 1) := by decide +kernel
theorem dL_carrierOf_1 : decode cL_carrierOf 1 = .ok (.iconst 0, 1) := by decide +kernel
theorem dL_carrierOf_2 : decode cL_carrierOf 2 = .ok (.aload_n 0, 1) := by decide +kernel
theorem dL_carrierOf_3 : decode cL_carrierOf 3 = .ok (.iload_n 1, 1) := by decide +kernel
theorem dL_carrierOf_4 : decode cL_carrierOf 4 = .ok (.invokevirtual 91, 3) := by decide +kernel
theorem dL_carrierOf_7 : decode cL_carrierOf 7 = .ok (.i2l, 1) := by decide +kernel
theorem dL_carrierOf_8 : decode cL_carrierOf 8 = .ok (.lastore, 1) := by decide +kernel
theorem dL_carrierOf_9 : decode cL_carrierOf 9 = .ok (.goto 9, 3) := by decide +kernel
theorem dL_carrierOf_12 : decode cL_carrierOf 12 = .ok (.astore_n 3, 1) := by decide +kernel
theorem dL_carrierOf_13 : decode cL_carrierOf 13 = .ok (.iconst 1, 1) := by decide +kernel
theorem dL_carrierOf_14 : decode cL_carrierOf 14 = .ok (.ireturn, 1) := by decide +kernel
theorem dL_carrierOf_15 : decode cL_carrierOf 15 = .ok (.astore_n 3, 1) := by decide +kernel
theorem dL_carrierOf_16 : decode cL_carrierOf 16 = .ok (.iconst 2, 1) := by decide +kernel
theorem dL_carrierOf_17 : decode cL_carrierOf 17 = .ok (.ireturn, 1) := by decide +kernel
theorem dL_carrierOf_18 : decode cL_carrierOf 18 = .ok (.iconst 0, 1) := by decide +kernel
theorem dL_carrierOf_19 : decode cL_carrierOf 19 = .ok (.ireturn, 1) := by decide +kernel
set_option maxRecDepth 20000 in
theorem ggL_walkerRow_X6_walkerRow : GoodIn wsL_walkerRow wsX6_walkerRow := goodIn_ca (goodIn_r _ [6, 7, 8, 9, 10, 11, 5, 12, 13, 14, 15, 16, 17, 18, 19, 20, 21, 22, 23, 24, 25, 26, 27, 28, 29, 30, 31, 32, 33, 34, 35, 36, 37, 38, 39, 40, 41] (by decide +kernel) (by decide +kernel)) (goodIn_sub (fun _ h => List.mem_cons_of_mem _ (List.mem_append_right _ h)) (by decide +kernel))
set_option maxRecDepth 20000 in
theorem gL_walkerRow_X6_walkerRow : GoodIn wsL_walkerRow (wsV RL 94 RX6 yX6_walkerRow wsX6_walkerRow) := goodIn_app (goodIn_of _ (by decide +kernel)) ggL_walkerRow_X6_walkerRow
theorem dL_walkerRow_0 : decode cL_walkerRow 0 = .ok (.aload_n 2, 1) := by decide +kernel
theorem dL_walkerRow_1 : decode cL_walkerRow 1 = .ok (.iconst 0, 1) := by decide +kernel
theorem dL_walkerRow_2 : decode cL_walkerRow 2 = .ok (.aload_n 0, 1) := by decide +kernel
theorem dL_walkerRow_3 : decode cL_walkerRow 3 = .ok (.iload_n 1, 1) := by decide +kernel
theorem dL_walkerRow_4 : decode cL_walkerRow 4 = .ok (.invokevirtual 94, 3) := by decide +kernel
theorem dL_walkerRow_7 : decode cL_walkerRow 7 = .ok (.i2l, 1) := by decide +kernel
theorem dL_walkerRow_8 : decode cL_walkerRow 8 = .ok (.lastore, 1) := by decide +kernel
theorem dL_walkerRow_9 : decode cL_walkerRow 9 = .ok (.goto 6, 3) := by decide +kernel
theorem dL_walkerRow_12 : decode cL_walkerRow 12 = .ok (.astore_n 3, 1) := by decide +kernel
theorem dL_walkerRow_13 : decode cL_walkerRow 13 = .ok (.iconst 1, 1) := by decide +kernel
theorem dL_walkerRow_14 : decode cL_walkerRow 14 = .ok (.ireturn, 1) := by decide +kernel
theorem dL_walkerRow_15 : decode cL_walkerRow 15 = .ok (.iconst 0, 1) := by decide +kernel
theorem dL_walkerRow_16 : decode cL_walkerRow 16 = .ok (.ireturn, 1) := by decide +kernel
set_option maxRecDepth 20000 in
theorem ggL_walkerColumn_X6_walkerColumn : GoodIn wsL_walkerColumn wsX6_walkerColumn := goodIn_ca (goodIn_r _ [6, 7, 8, 9, 10, 11, 5, 12, 13, 14, 15, 16, 17, 18, 19, 20, 21, 22, 23, 24, 25, 26, 27, 28, 29, 30, 31, 32, 33, 34, 35, 36, 37, 38, 39, 40, 41] (by decide +kernel) (by decide +kernel)) (goodIn_sub (fun _ h => List.mem_cons_of_mem _ (List.mem_append_right _ h)) (by decide +kernel))
set_option maxRecDepth 20000 in
theorem gL_walkerColumn_X6_walkerColumn : GoodIn wsL_walkerColumn (wsV RL 98 RX6 yX6_walkerColumn wsX6_walkerColumn) := goodIn_app (goodIn_of _ (by decide +kernel)) ggL_walkerColumn_X6_walkerColumn
theorem dL_walkerColumn_0 : decode cL_walkerColumn 0 = .ok (.aload_n 2, 1) := by decide +kernel
theorem dL_walkerColumn_1 : decode cL_walkerColumn 1 = .ok (.iconst 0, 1) := by decide +kernel
theorem dL_walkerColumn_2 : decode cL_walkerColumn 2 = .ok (.aload_n 0, 1) := by decide +kernel
theorem dL_walkerColumn_3 : decode cL_walkerColumn 3 = .ok (.iload_n 1, 1) := by decide +kernel
theorem dL_walkerColumn_4 : decode cL_walkerColumn 4 = .ok (.invokevirtual 98, 3) := by decide +kernel
theorem dL_walkerColumn_7 : decode cL_walkerColumn 7 = .ok (.i2l, 1) := by decide +kernel
theorem dL_walkerColumn_8 : decode cL_walkerColumn 8 = .ok (.lastore, 1) := by decide +kernel
theorem dL_walkerColumn_9 : decode cL_walkerColumn 9 = .ok (.goto 6, 3) := by decide +kernel
theorem dL_walkerColumn_12 : decode cL_walkerColumn 12 = .ok (.astore_n 3, 1) := by decide +kernel
theorem dL_walkerColumn_13 : decode cL_walkerColumn 13 = .ok (.iconst 1, 1) := by decide +kernel
theorem dL_walkerColumn_14 : decode cL_walkerColumn 14 = .ok (.ireturn, 1) := by decide +kernel
theorem dL_walkerColumn_15 : decode cL_walkerColumn 15 = .ok (.iconst 0, 1) := by decide +kernel
theorem dL_walkerColumn_16 : decode cL_walkerColumn 16 = .ok (.ireturn, 1) := by decide +kernel
set_option maxRecDepth 20000 in
theorem ggL_keysOf_X6_keysOf : GoodIn wsL_keysOf wsX6_keysOf := goodIn_ca (goodIn_r _ [6, 7, 8, 9, 10, 5, 11, 12, 13, 14, 15, 16, 17, 18, 19, 20, 21, 22, 23, 24, 25, 26, 27, 28, 29, 30, 31, 32, 33, 34, 35, 36, 37, 38, 39, 40, 41, 42, 43, 44, 45] (by decide +kernel) (by decide +kernel)) (goodIn_sub (fun _ h => List.mem_cons_of_mem _ (List.mem_append_right _ h)) (by decide +kernel))
set_option maxRecDepth 20000 in
theorem gL_keysOf_X6_keysOf : GoodIn wsL_keysOf (wsV RL 101 RX6 yX6_keysOf wsX6_keysOf) := goodIn_app (goodIn_of _ (by decide +kernel)) ggL_keysOf_X6_keysOf
theorem dL_keysOf_0 : decode cL_keysOf 0 = .ok (.aload_n 2, 1) := by decide +kernel
theorem dL_keysOf_1 : decode cL_keysOf 1 = .ok (.iconst 0, 1) := by decide +kernel
theorem dL_keysOf_2 : decode cL_keysOf 2 = .ok (.aload_n 0, 1) := by decide +kernel
theorem dL_keysOf_3 : decode cL_keysOf 3 = .ok (.iload_n 1, 1) := by decide +kernel
theorem dL_keysOf_4 : decode cL_keysOf 4 = .ok (.invokevirtual 101, 3) := by decide +kernel
theorem dL_keysOf_7 : decode cL_keysOf 7 = .ok (.i2l, 1) := by decide +kernel
theorem dL_keysOf_8 : decode cL_keysOf 8 = .ok (.lastore, 1) := by decide +kernel
theorem dL_keysOf_9 : decode cL_keysOf 9 = .ok (.goto 6, 3) := by decide +kernel
theorem dL_keysOf_12 : decode cL_keysOf 12 = .ok (.astore_n 3, 1) := by decide +kernel
theorem dL_keysOf_13 : decode cL_keysOf 13 = .ok (.iconst 1, 1) := by decide +kernel
theorem dL_keysOf_14 : decode cL_keysOf 14 = .ok (.ireturn, 1) := by decide +kernel
theorem dL_keysOf_15 : decode cL_keysOf 15 = .ok (.iconst 0, 1) := by decide +kernel
theorem dL_keysOf_16 : decode cL_keysOf 16 = .ok (.ireturn, 1) := by decide +kernel
set_option maxRecDepth 20000 in
theorem ggL_pathLength_X6_pathLength : GoodIn wsL_pathLength wsX6_pathLength := goodIn_ca (goodIn_ca (goodIn_r _ [7, 8, 9, 10, 11, 12, 13, 6, 14, 15, 16, 17, 18, 19, 20, 21, 22, 23, 24, 25, 26, 27, 28, 29, 30, 31, 32, 33, 34, 35, 36, 37, 38, 39, 40, 41, 42, 43, 44, 45, 46, 47, 48, 49, 50, 51, 52, 53, 54, 55, 56, 57, 58, 59, 60, 61, 62, 63, 64, 65, 66, 67, 68, 69, 70, 71, 72, 73, 74, 75, 76, 77, 78, 79, 80, 81, 82, 83, 84, 85, 86] (by decide +kernel) (by decide +kernel)) (goodIn_sub (fun _ h => List.mem_cons_of_mem _ (List.mem_append_left _ (List.mem_append_right _ h))) (by decide +kernel))) (goodIn_sub (fun _ h => List.mem_cons_of_mem _ (List.mem_append_right _ h)) (by decide +kernel))
set_option maxRecDepth 20000 in
theorem gL_pathLength_X6_pathLength : GoodIn wsL_pathLength (wsV RL 104 RX6 yX6_pathLength wsX6_pathLength) := goodIn_app (goodIn_of _ (by decide +kernel)) ggL_pathLength_X6_pathLength
theorem dL_pathLength_0 : decode cL_pathLength 0 = .ok (.aload 4, 2) := by decide +kernel
theorem dL_pathLength_2 : decode cL_pathLength 2 = .ok (.iconst 0, 1) := by decide +kernel
theorem dL_pathLength_3 : decode cL_pathLength 3 = .ok (.aload_n 0, 1) := by decide +kernel
theorem dL_pathLength_4 : decode cL_pathLength 4 = .ok (.iload_n 1, 1) := by decide +kernel
theorem dL_pathLength_5 : decode cL_pathLength 5 = .ok (.iload_n 2, 1) := by decide +kernel
theorem dL_pathLength_6 : decode cL_pathLength 6 = .ok (.iload_n 3, 1) := by decide +kernel
theorem dL_pathLength_7 : decode cL_pathLength 7 = .ok (.invokevirtual 104, 3) := by decide +kernel
theorem dL_pathLength_10 : decode cL_pathLength 10 = .ok (.i2l, 1) := by decide +kernel
theorem dL_pathLength_11 : decode cL_pathLength 11 = .ok (.lastore, 1) := by decide +kernel
theorem dL_pathLength_12 : decode cL_pathLength 12 = .ok (.goto 11, 3) := by decide +kernel
theorem dL_pathLength_15 : decode cL_pathLength 15 = .ok (.astore 5, 2) := by decide +kernel
theorem dL_pathLength_17 : decode cL_pathLength 17 = .ok (.iconst 1, 1) := by decide +kernel
theorem dL_pathLength_18 : decode cL_pathLength 18 = .ok (.ireturn, 1) := by decide +kernel
theorem dL_pathLength_19 : decode cL_pathLength 19 = .ok (.astore 5, 2) := by decide +kernel
theorem dL_pathLength_21 : decode cL_pathLength 21 = .ok (.iconst 2, 1) := by decide +kernel
theorem dL_pathLength_22 : decode cL_pathLength 22 = .ok (.ireturn, 1) := by decide +kernel
theorem dL_pathLength_23 : decode cL_pathLength 23 = .ok (.iconst 0, 1) := by decide +kernel
theorem dL_pathLength_24 : decode cL_pathLength 24 = .ok (.ireturn, 1) := by decide +kernel
set_option maxRecDepth 20000 in
theorem ggL_pathLengthByRounds_X6_pathLengthByRounds : GoodIn wsL_pathLengthByRounds wsX6_pathLengthByRounds := goodIn_ca (goodIn_ca (goodIn_r _ [7, 8, 9, 10, 11, 12, 13, 6, 14, 15, 16, 17, 18, 19, 20, 21, 22, 23, 24, 25, 26, 27, 28, 29, 30, 31, 32, 33, 34, 35, 36, 37, 38, 39, 40, 41, 42, 43, 44, 45, 46, 47, 48, 49, 50, 51, 52, 53, 54, 55, 56, 57, 58, 59, 60, 61, 62, 63, 64, 65, 66, 67, 68, 69, 70, 71, 72, 73, 74, 75, 76, 77, 78, 79, 80, 81, 82, 83, 84, 85, 86, 87, 88] (by decide +kernel) (by decide +kernel)) (goodIn_sub (fun _ h => List.mem_cons_of_mem _ (List.mem_append_left _ (List.mem_append_right _ h))) (by decide +kernel))) (goodIn_sub (fun _ h => List.mem_cons_of_mem _ (List.mem_append_right _ h)) (by decide +kernel))
set_option maxRecDepth 20000 in
theorem gL_pathLengthByRounds_X6_pathLengthByRounds : GoodIn wsL_pathLengthByRounds (wsV RL 107 RX6 yX6_pathLengthByRounds wsX6_pathLengthByRounds) := goodIn_app (goodIn_of _ (by decide +kernel)) ggL_pathLengthByRounds_X6_pathLengthByRounds
theorem dL_pathLengthByRounds_0 : decode cL_pathLengthByRounds 0 = .ok (.aload 4, 2) := by decide +kernel
theorem dL_pathLengthByRounds_2 : decode cL_pathLengthByRounds 2 = .ok (.iconst 0, 1) := by decide +kernel
theorem dL_pathLengthByRounds_3 : decode cL_pathLengthByRounds 3 = .ok (.aload_n 0, 1) := by decide +kernel
theorem dL_pathLengthByRounds_4 : decode cL_pathLengthByRounds 4 = .ok (.iload_n 1, 1) := by decide +kernel
theorem dL_pathLengthByRounds_5 : decode cL_pathLengthByRounds 5 = .ok (.iload_n 2, 1) := by decide +kernel
theorem dL_pathLengthByRounds_6 : decode cL_pathLengthByRounds 6 = .ok (.iload_n 3, 1) := by decide +kernel
theorem dL_pathLengthByRounds_7 : decode cL_pathLengthByRounds 7 = .ok (.invokevirtual 107, 3) := by decide +kernel
theorem dL_pathLengthByRounds_10 : decode cL_pathLengthByRounds 10 = .ok (.i2l, 1) := by decide +kernel
theorem dL_pathLengthByRounds_11 : decode cL_pathLengthByRounds 11 = .ok (.lastore, 1) := by decide +kernel
theorem dL_pathLengthByRounds_12 : decode cL_pathLengthByRounds 12 = .ok (.goto 11, 3) := by decide +kernel
theorem dL_pathLengthByRounds_15 : decode cL_pathLengthByRounds 15 = .ok (.astore 5, 2) := by decide +kernel
theorem dL_pathLengthByRounds_17 : decode cL_pathLengthByRounds 17 = .ok (.iconst 1, 1) := by decide +kernel
theorem dL_pathLengthByRounds_18 : decode cL_pathLengthByRounds 18 = .ok (.ireturn, 1) := by decide +kernel
theorem dL_pathLengthByRounds_19 : decode cL_pathLengthByRounds 19 = .ok (.astore 5, 2) := by decide +kernel
theorem dL_pathLengthByRounds_21 : decode cL_pathLengthByRounds 21 = .ok (.iconst 2, 1) := by decide +kernel
theorem dL_pathLengthByRounds_22 : decode cL_pathLengthByRounds 22 = .ok (.ireturn, 1) := by decide +kernel
theorem dL_pathLengthByRounds_23 : decode cL_pathLengthByRounds 23 = .ok (.iconst 0, 1) := by decide +kernel
theorem dL_pathLengthByRounds_24 : decode cL_pathLengthByRounds 24 = .ok (.ireturn, 1) := by decide +kernel
set_option maxRecDepth 20000 in
theorem ggL_firstStep_X6_firstStep : GoodIn wsL_firstStep wsX6_firstStep := goodIn_ca (goodIn_ca (goodIn_r _ [7, 8, 9, 10, 11, 12, 13, 14, 15, 16, 6, 17, 18, 19, 20, 21, 22, 23, 24, 25, 26, 27, 28, 29, 30, 31, 32, 33, 34, 35, 36, 37, 38, 39, 40, 41, 42, 43, 44, 45, 46, 47, 48, 49, 50, 51, 52, 53, 54, 55, 56, 57, 58, 59, 60, 61, 62, 63, 64, 65, 66, 67, 68, 69, 70, 71, 72, 73, 74, 75, 76, 77, 78, 79, 80, 81, 82, 83, 84, 85, 86, 87] (by decide +kernel) (by decide +kernel)) (goodIn_sub (fun _ h => List.mem_cons_of_mem _ (List.mem_append_left _ (List.mem_append_right _ h))) (by decide +kernel))) (goodIn_sub (fun _ h => List.mem_cons_of_mem _ (List.mem_append_right _ h)) (by decide +kernel))
set_option maxRecDepth 20000 in
theorem gL_firstStep_X6_firstStep : GoodIn wsL_firstStep (wsV RL 110 RX6 yX6_firstStep wsX6_firstStep) := goodIn_app (goodIn_of _ (by decide +kernel)) ggL_firstStep_X6_firstStep
theorem dL_firstStep_0 : decode cL_firstStep 0 = .ok (.aload 4, 2) := by decide +kernel
theorem dL_firstStep_2 : decode cL_firstStep 2 = .ok (.iconst 0, 1) := by decide +kernel
theorem dL_firstStep_3 : decode cL_firstStep 3 = .ok (.aload_n 0, 1) := by decide +kernel
theorem dL_firstStep_4 : decode cL_firstStep 4 = .ok (.iload_n 1, 1) := by decide +kernel
theorem dL_firstStep_5 : decode cL_firstStep 5 = .ok (.iload_n 2, 1) := by decide +kernel
theorem dL_firstStep_6 : decode cL_firstStep 6 = .ok (.iload_n 3, 1) := by decide +kernel
theorem dL_firstStep_7 : decode cL_firstStep 7 = .ok (.invokevirtual 110, 3) := by decide +kernel
theorem dL_firstStep_10 : decode cL_firstStep 10 = .ok (.i2l, 1) := by decide +kernel
theorem dL_firstStep_11 : decode cL_firstStep 11 = .ok (.lastore, 1) := by decide +kernel
theorem dL_firstStep_12 : decode cL_firstStep 12 = .ok (.goto 11, 3) := by decide +kernel
theorem dL_firstStep_15 : decode cL_firstStep 15 = .ok (.astore 5, 2) := by decide +kernel
theorem dL_firstStep_17 : decode cL_firstStep 17 = .ok (.iconst 1, 1) := by decide +kernel
theorem dL_firstStep_18 : decode cL_firstStep 18 = .ok (.ireturn, 1) := by decide +kernel
theorem dL_firstStep_19 : decode cL_firstStep 19 = .ok (.astore 5, 2) := by decide +kernel
theorem dL_firstStep_21 : decode cL_firstStep 21 = .ok (.iconst 2, 1) := by decide +kernel
theorem dL_firstStep_22 : decode cL_firstStep 22 = .ok (.ireturn, 1) := by decide +kernel
theorem dL_firstStep_23 : decode cL_firstStep 23 = .ok (.iconst 0, 1) := by decide +kernel
theorem dL_firstStep_24 : decode cL_firstStep 24 = .ok (.ireturn, 1) := by decide +kernel
set_option maxRecDepth 20000 in
theorem ggL_reachableCells_X6_reachableCells : GoodIn wsL_reachableCells wsX6_reachableCells := goodIn_ca (goodIn_r _ [6, 7, 8, 9, 10, 11, 5, 12, 13, 14, 15, 16, 17, 18, 19, 20, 21, 22, 23, 24, 25, 26, 27, 28, 29, 30, 31, 32, 33, 34, 35, 36, 37, 38, 39, 40, 41, 42, 43, 44, 45, 46, 47, 48, 49, 50, 51, 52, 53, 54, 55, 56, 57, 58, 59, 60, 61, 62, 63, 64, 65, 66, 67, 68, 69, 70, 71, 72, 73, 74, 75, 76, 77] (by decide +kernel) (by decide +kernel)) (goodIn_sub (fun _ h => List.mem_cons_of_mem _ (List.mem_append_right _ h)) (by decide +kernel))
set_option maxRecDepth 20000 in
theorem gL_reachableCells_X6_reachableCells : GoodIn wsL_reachableCells (wsV RL 113 RX6 yX6_reachableCells wsX6_reachableCells) := goodIn_app (goodIn_of _ (by decide +kernel)) ggL_reachableCells_X6_reachableCells
theorem dL_reachableCells_0 : decode cL_reachableCells 0 = .ok (.aload_n 2, 1) := by decide +kernel
theorem dL_reachableCells_1 : decode cL_reachableCells 1 = .ok (.iconst 0, 1) := by decide +kernel
theorem dL_reachableCells_2 : decode cL_reachableCells 2 = .ok (.aload_n 0, 1) := by decide +kernel
theorem dL_reachableCells_3 : decode cL_reachableCells 3 = .ok (.iload_n 1, 1) := by decide +kernel
theorem dL_reachableCells_4 : decode cL_reachableCells 4 = .ok (.invokevirtual 113, 3) := by decide +kernel
theorem dL_reachableCells_7 : decode cL_reachableCells 7 = .ok (.i2l, 1) := by decide +kernel
theorem dL_reachableCells_8 : decode cL_reachableCells 8 = .ok (.lastore, 1) := by decide +kernel
theorem dL_reachableCells_9 : decode cL_reachableCells 9 = .ok (.goto 6, 3) := by decide +kernel
theorem dL_reachableCells_12 : decode cL_reachableCells 12 = .ok (.astore_n 3, 1) := by decide +kernel
theorem dL_reachableCells_13 : decode cL_reachableCells 13 = .ok (.iconst 1, 1) := by decide +kernel
theorem dL_reachableCells_14 : decode cL_reachableCells 14 = .ok (.ireturn, 1) := by decide +kernel
theorem dL_reachableCells_15 : decode cL_reachableCells 15 = .ok (.iconst 0, 1) := by decide +kernel
theorem dL_reachableCells_16 : decode cL_reachableCells 16 = .ok (.ireturn, 1) := by decide +kernel
set_option maxRecDepth 20000 in
theorem ggL_nearestKey_X6_nearestKey : GoodIn wsL_nearestKey wsX6_nearestKey := goodIn_ca (goodIn_ca (goodIn_r _ [7, 8, 9, 10, 11, 12, 13, 14, 15, 16, 6, 17, 18, 19, 20, 21, 22, 23, 24, 25, 26, 27, 28, 29, 30, 31, 32, 33, 34, 35, 36, 37, 38, 39, 40, 41, 42, 43, 44, 45, 46, 47, 48, 49, 50, 51, 52, 53, 54, 55, 56, 57, 58, 59, 60, 61, 62, 63, 64, 65, 66, 67, 68, 69, 70, 71, 72, 73, 74, 75, 76, 77, 78, 79, 80, 81, 82, 83, 84] (by decide +kernel) (by decide +kernel)) (goodIn_sub (fun _ h => List.mem_cons_of_mem _ (List.mem_append_left _ (List.mem_append_right _ h))) (by decide +kernel))) (goodIn_sub (fun _ h => List.mem_cons_of_mem _ (List.mem_append_right _ h)) (by decide +kernel))
set_option maxRecDepth 20000 in
theorem gL_nearestKey_X6_nearestKey : GoodIn wsL_nearestKey (wsV RL 116 RX6 yX6_nearestKey wsX6_nearestKey) := goodIn_app (goodIn_of _ (by decide +kernel)) ggL_nearestKey_X6_nearestKey
theorem dL_nearestKey_0 : decode cL_nearestKey 0 = .ok (.aload_n 2, 1) := by decide +kernel
theorem dL_nearestKey_1 : decode cL_nearestKey 1 = .ok (.iconst 0, 1) := by decide +kernel
theorem dL_nearestKey_2 : decode cL_nearestKey 2 = .ok (.aload_n 0, 1) := by decide +kernel
theorem dL_nearestKey_3 : decode cL_nearestKey 3 = .ok (.iload_n 1, 1) := by decide +kernel
theorem dL_nearestKey_4 : decode cL_nearestKey 4 = .ok (.invokevirtual 116, 3) := by decide +kernel
theorem dL_nearestKey_7 : decode cL_nearestKey 7 = .ok (.i2l, 1) := by decide +kernel
theorem dL_nearestKey_8 : decode cL_nearestKey 8 = .ok (.lastore, 1) := by decide +kernel
theorem dL_nearestKey_9 : decode cL_nearestKey 9 = .ok (.goto 9, 3) := by decide +kernel
theorem dL_nearestKey_12 : decode cL_nearestKey 12 = .ok (.astore_n 3, 1) := by decide +kernel
theorem dL_nearestKey_13 : decode cL_nearestKey 13 = .ok (.iconst 1, 1) := by decide +kernel
theorem dL_nearestKey_14 : decode cL_nearestKey 14 = .ok (.ireturn, 1) := by decide +kernel
theorem dL_nearestKey_15 : decode cL_nearestKey 15 = .ok (.astore_n 3, 1) := by decide +kernel
theorem dL_nearestKey_16 : decode cL_nearestKey 16 = .ok (.iconst 2, 1) := by decide +kernel
theorem dL_nearestKey_17 : decode cL_nearestKey 17 = .ok (.ireturn, 1) := by decide +kernel
theorem dL_nearestKey_18 : decode cL_nearestKey 18 = .ok (.iconst 0, 1) := by decide +kernel
theorem dL_nearestKey_19 : decode cL_nearestKey 19 = .ok (.ireturn, 1) := by decide +kernel
set_option maxRecDepth 20000 in
theorem ggL_helpfulShifts_X6_helpfulShifts : GoodIn wsL_helpfulShifts wsX6_helpfulShifts := goodIn_ca (goodIn_r _ [6, 7, 8, 9, 5, 10, 11, 12, 13, 14, 15, 16, 17, 18, 19, 20, 21, 22, 23, 24, 25, 26, 27, 28, 29, 30, 31, 32, 33, 34, 35, 36, 37, 38, 39, 40, 41, 42, 43, 44, 45, 46, 47, 48, 49, 50, 51, 52, 53, 54, 55, 56, 57, 58, 59, 60, 61, 62, 63, 64, 65, 66, 67, 68, 69, 70, 71, 72, 73, 74, 75, 76, 77, 78, 79, 80, 81, 82, 83, 84, 85, 86, 87, 88, 89, 90, 91, 92, 93, 94, 95, 96, 97, 98, 99, 100, 101, 102, 103, 104, 105, 106, 107, 108, 109, 110, 111, 112, 113, 114, 115, 116, 117, 118, 119, 120, 121] (by decide +kernel) (by decide +kernel)) (goodIn_sub (fun _ h => List.mem_cons_of_mem _ (List.mem_append_right _ h)) (by decide +kernel))
set_option maxRecDepth 20000 in
theorem gL_helpfulShifts_X6_helpfulShifts : GoodIn wsL_helpfulShifts (wsV RL 120 RX6 yX6_helpfulShifts wsX6_helpfulShifts) := goodIn_app (goodIn_of _ (by decide +kernel)) ggL_helpfulShifts_X6_helpfulShifts
theorem dL_helpfulShifts_0 : decode cL_helpfulShifts 0 = .ok (.aload 4, 2) := by decide +kernel
theorem dL_helpfulShifts_2 : decode cL_helpfulShifts 2 = .ok (.iconst 0, 1) := by decide +kernel
theorem dL_helpfulShifts_3 : decode cL_helpfulShifts 3 = .ok (.aload_n 0, 1) := by decide +kernel
theorem dL_helpfulShifts_4 : decode cL_helpfulShifts 4 = .ok (.iload_n 1, 1) := by decide +kernel
theorem dL_helpfulShifts_5 : decode cL_helpfulShifts 5 = .ok (.iload_n 2, 1) := by decide +kernel
theorem dL_helpfulShifts_6 : decode cL_helpfulShifts 6 = .ok (.iload_n 3, 1) := by decide +kernel
theorem dL_helpfulShifts_7 : decode cL_helpfulShifts 7 = .ok (.invokevirtual 120, 3) := by decide +kernel
theorem dL_helpfulShifts_10 : decode cL_helpfulShifts 10 = .ok (.i2l, 1) := by decide +kernel
theorem dL_helpfulShifts_11 : decode cL_helpfulShifts 11 = .ok (.lastore, 1) := by decide +kernel
theorem dL_helpfulShifts_12 : decode cL_helpfulShifts 12 = .ok (.goto 7, 3) := by decide +kernel
theorem dL_helpfulShifts_15 : decode cL_helpfulShifts 15 = .ok (.astore 5, 2) := by decide +kernel
theorem dL_helpfulShifts_17 : decode cL_helpfulShifts 17 = .ok (.iconst 1, 1) := by decide +kernel
theorem dL_helpfulShifts_18 : decode cL_helpfulShifts 18 = .ok (.ireturn, 1) := by decide +kernel
theorem dL_helpfulShifts_19 : decode cL_helpfulShifts 19 = .ok (.iconst 0, 1) := by decide +kernel
theorem dL_helpfulShifts_20 : decode cL_helpfulShifts 20 = .ok (.ireturn, 1) := by decide +kernel
set_option maxRecDepth 20000 in
theorem ggL_reachableShare_X6_reachableShare : GoodIn wsL_reachableShare wsX6_reachableShare := goodIn_ca (goodIn_r _ [6, 7, 8, 9, 10, 11, 12, 5, 13, 14, 15, 16, 17, 18, 19, 20, 21, 22, 23, 24, 25, 26, 27, 28, 29, 30, 31, 32, 33, 34, 35, 36, 37, 38, 39, 40, 41, 42, 43, 44, 45, 46, 47, 48, 49, 50, 51, 52, 53, 54, 55, 56, 57, 58, 59, 60, 61, 62, 63, 64, 65, 66, 67, 68, 69, 70, 71, 72, 73, 74, 75, 76, 77, 78] (by decide +kernel) (by decide +kernel)) (goodIn_sub (fun _ h => List.mem_cons_of_mem _ (List.mem_append_right _ h)) (by decide +kernel))
set_option maxRecDepth 20000 in
theorem gL_reachableShare_X6_reachableShare : GoodIn wsL_reachableShare (wsV RL 123 RX6 yX6_reachableShare wsX6_reachableShare) := goodIn_app (goodIn_of _ (by decide +kernel)) ggL_reachableShare_X6_reachableShare
theorem dL_reachableShare_0 : decode cL_reachableShare 0 = .ok (.aload_n 2, 1) := by decide +kernel
theorem dL_reachableShare_1 : decode cL_reachableShare 1 = .ok (.iconst 0, 1) := by decide +kernel
theorem dL_reachableShare_2 : decode cL_reachableShare 2 = .ok (.aload_n 0, 1) := by decide +kernel
theorem dL_reachableShare_3 : decode cL_reachableShare 3 = .ok (.iload_n 1, 1) := by decide +kernel
theorem dL_reachableShare_4 : decode cL_reachableShare 4 = .ok (.invokevirtual 123, 3) := by decide +kernel
theorem dL_reachableShare_7 : decode cL_reachableShare 7 = .ok (.f2d, 1) := by decide +kernel
theorem dL_reachableShare_8 : decode cL_reachableShare 8 = .ok (.dastore, 1) := by decide +kernel
theorem dL_reachableShare_9 : decode cL_reachableShare 9 = .ok (.goto 6, 3) := by decide +kernel
theorem dL_reachableShare_12 : decode cL_reachableShare 12 = .ok (.astore_n 3, 1) := by decide +kernel
theorem dL_reachableShare_13 : decode cL_reachableShare 13 = .ok (.iconst 1, 1) := by decide +kernel
theorem dL_reachableShare_14 : decode cL_reachableShare 14 = .ok (.ireturn, 1) := by decide +kernel
theorem dL_reachableShare_15 : decode cL_reachableShare 15 = .ok (.iconst 0, 1) := by decide +kernel
theorem dL_reachableShare_16 : decode cL_reachableShare 16 = .ok (.ireturn, 1) := by decide +kernel
set_option maxRecDepth 20000 in
theorem ggL_append_X6_append : GoodIn wsL_append wsX6_append := goodIn_ca (goodIn_r _ [6, 7, 8, 9, 10, 11, 12, 13, 14, 15, 16, 17, 18, 19, 20, 21, 22, 23, 24, 25, 26, 27, 28, 29, 30, 31, 32, 33, 34] (by decide +kernel) (by decide +kernel)) (goodIn_sub (fun _ h => List.mem_cons_of_mem _ (List.mem_append_right _ h)) (by decide +kernel))
set_option maxRecDepth 20000 in
theorem gL_append_X6_append : GoodIn wsL_append (wsV RL 127 RX6 yX6_append wsX6_append) := goodIn_app (goodIn_of _ (by decide +kernel)) ggL_append_X6_append
theorem dL_append_0 : decode cL_append 0 = .ok (.aload_n 2, 1) := by decide +kernel
theorem dL_append_1 : decode cL_append 1 = .ok (.iconst 0, 1) := by decide +kernel
theorem dL_append_2 : decode cL_append 2 = .ok (.aload_n 0, 1) := by decide +kernel
theorem dL_append_3 : decode cL_append 3 = .ok (.iload_n 1, 1) := by decide +kernel
theorem dL_append_4 : decode cL_append 4 = .ok (.invokevirtual 127, 3) := by decide +kernel
theorem dL_append_7 : decode cL_append 7 = .ok (.i2l, 1) := by decide +kernel
theorem dL_append_8 : decode cL_append 8 = .ok (.lastore, 1) := by decide +kernel
theorem dL_append_9 : decode cL_append 9 = .ok (.goto 6, 3) := by decide +kernel
theorem dL_append_12 : decode cL_append 12 = .ok (.astore_n 3, 1) := by decide +kernel
theorem dL_append_13 : decode cL_append 13 = .ok (.iconst 1, 1) := by decide +kernel
theorem dL_append_14 : decode cL_append 14 = .ok (.ireturn, 1) := by decide +kernel
theorem dL_append_15 : decode cL_append 15 = .ok (.iconst 0, 1) := by decide +kernel
theorem dL_append_16 : decode cL_append 16 = .ok (.ireturn, 1) := by decide +kernel
set_option maxRecDepth 20000 in
theorem ggL_run_X6_run : GoodIn wsL_run wsX6_run := goodIn_ca (goodIn_ca (goodIn_r _ [7, 8, 9, 10, 11, 12, 13, 14, 15, 16, 17, 18, 19, 20, 21, 22, 23, 24, 25, 26, 27, 28, 29, 30, 31, 32, 33, 34, 35, 36, 37, 38, 39, 40, 41, 42, 43, 44, 45, 46, 47, 48, 49, 50, 51, 52, 53, 54, 55, 56, 57, 58, 59, 60, 61, 62, 63, 64, 65, 66, 67, 68, 69, 70, 71, 72, 73, 74, 75, 76, 77, 78, 79, 80, 81, 82, 83, 84, 85, 86, 87, 88, 89, 90, 91, 92, 93, 94, 6, 95, 96, 97, 98, 99, 100, 101, 102, 103, 104, 105, 106, 107, 108, 109, 110, 111, 112, 113, 114, 115, 116, 117, 118, 119, 120, 121, 122, 123, 124, 125, 126, 127, 128, 129, 130, 131, 132, 133, 134, 135, 136, 137, 138, 139, 140, 141, 142, 143, 144, 145, 146, 147, 148, 149, 150, 151, 152, 153, 154, 155, 156, 157, 158, 159, 160, 161, 162, 163, 164, 165, 166, 167, 168, 169, 170, 171, 172, 173, 174, 175, 176, 177, 178, 179, 180, 181, 182, 183, 184, 185, 186, 187, 188, 189, 190, 191, 192, 193, 194, 195, 196, 197, 198, 199, 200, 201, 202, 203, 204, 205, 206, 207, 208, 209, 210, 211, 212, 213, 214, 215, 216, 217, 218, 219, 220, 221, 222, 223, 224, 225, 226, 227, 228, 229, 230, 231, 232, 233, 234, 235, 236, 237, 238, 239, 240, 241, 242, 243, 244, 245, 246, 247, 248, 249, 250, 251, 252, 253, 254, 255, 256, 257, 258, 259, 260, 261, 262, 263, 264, 265, 266, 267, 268, 269, 270, 271, 272, 273, 274, 275, 276, 277, 278, 279, 280, 281, 282, 283, 284, 285, 286, 287, 288, 289, 290, 291, 292, 293, 294, 295, 296, 297, 298, 299, 300, 301, 302, 303, 304, 305, 306, 307, 308, 309, 310, 311, 312, 313, 314, 315, 316] (by decide +kernel) (by decide +kernel)) (goodIn_sub (fun _ h => List.mem_cons_of_mem _ (List.mem_append_left _ (List.mem_append_right _ h))) (by decide +kernel))) (goodIn_sub (fun _ h => List.mem_cons_of_mem _ (List.mem_append_right _ h)) (by decide +kernel))
set_option maxRecDepth 20000 in
theorem gL_run_X6_run : GoodIn wsL_run (wsV RL 130 RX6 yX6_run wsX6_run) := goodIn_app (goodIn_of _ (by decide +kernel)) ggL_run_X6_run
theorem dL_run_0 : decode cL_run 0 = .ok (.aload_n 1, 1) := by decide +kernel
theorem dL_run_1 : decode cL_run 1 = .ok (.iconst 0, 1) := by decide +kernel
theorem dL_run_2 : decode cL_run 2 = .ok (.aload_n 0, 1) := by decide +kernel
theorem dL_run_3 : decode cL_run 3 = .ok (.invokevirtual 130, 3) := by decide +kernel
theorem dL_run_6 : decode cL_run 6 = .ok (.i2l, 1) := by decide +kernel
theorem dL_run_7 : decode cL_run 7 = .ok (.lastore, 1) := by decide +kernel
theorem dL_run_8 : decode cL_run 8 = .ok (.goto 9, 3) := by decide +kernel
theorem dL_run_11 : decode cL_run 11 = .ok (.astore_n 2, 1) := by decide +kernel
theorem dL_run_12 : decode cL_run 12 = .ok (.iconst 1, 1) := by decide +kernel
theorem dL_run_13 : decode cL_run 13 = .ok (.ireturn, 1) := by decide +kernel
theorem dL_run_14 : decode cL_run 14 = .ok (.astore_n 2, 1) := by decide +kernel
theorem dL_run_15 : decode cL_run 15 = .ok (.iconst 2, 1) := by decide +kernel
theorem dL_run_16 : decode cL_run 16 = .ok (.ireturn, 1) := by decide +kernel
theorem dL_run_17 : decode cL_run 17 = .ok (.iconst 0, 1) := by decide +kernel
theorem dL_run_18 : decode cL_run 18 = .ok (.ireturn, 1) := by decide +kernel
set_option maxRecDepth 20000 in
theorem ggL_errorPosition_X6_errorPosition : GoodIn wsL_errorPosition wsX6_errorPosition := goodIn_ca (goodIn_r _ [6, 7, 8, 9, 10, 11, 12, 13, 14, 15, 16, 17, 18, 19, 20, 21] (by decide +kernel) (by decide +kernel)) (goodIn_sub (fun _ h => List.mem_cons_of_mem _ (List.mem_append_right _ h)) (by decide +kernel))
set_option maxRecDepth 20000 in
theorem gL_errorPosition_X6_errorPosition : GoodIn wsL_errorPosition (wsV RL 134 RX6 yX6_errorPosition wsX6_errorPosition) := goodIn_app (goodIn_of _ (by decide +kernel)) ggL_errorPosition_X6_errorPosition
theorem dL_errorPosition_0 : decode cL_errorPosition 0 = .ok (.aload_n 1, 1) := by decide +kernel
theorem dL_errorPosition_1 : decode cL_errorPosition 1 = .ok (.iconst 0, 1) := by decide +kernel
theorem dL_errorPosition_2 : decode cL_errorPosition 2 = .ok (.aload_n 0, 1) := by decide +kernel
theorem dL_errorPosition_3 : decode cL_errorPosition 3 = .ok (.invokevirtual 134, 3) := by decide +kernel
theorem dL_errorPosition_6 : decode cL_errorPosition 6 = .ok (.i2l, 1) := by decide +kernel
theorem dL_errorPosition_7 : decode cL_errorPosition 7 = .ok (.lastore, 1) := by decide +kernel
theorem dL_errorPosition_8 : decode cL_errorPosition 8 = .ok (.goto 6, 3) := by decide +kernel
theorem dL_errorPosition_11 : decode cL_errorPosition 11 = .ok (.astore_n 2, 1) := by decide +kernel
theorem dL_errorPosition_12 : decode cL_errorPosition 12 = .ok (.iconst 1, 1) := by decide +kernel
theorem dL_errorPosition_13 : decode cL_errorPosition 13 = .ok (.ireturn, 1) := by decide +kernel
theorem dL_errorPosition_14 : decode cL_errorPosition 14 = .ok (.iconst 0, 1) := by decide +kernel
theorem dL_errorPosition_15 : decode cL_errorPosition 15 = .ok (.ireturn, 1) := by decide +kernel
set_option maxRecDepth 20000 in
theorem ggL_failedCommand_X6_failedCommand : GoodIn wsL_failedCommand wsX6_failedCommand := goodIn_ca (goodIn_r _ [6, 7, 8, 9, 10, 11, 12, 13, 14, 15, 16, 17, 18, 19, 20, 21] (by decide +kernel) (by decide +kernel)) (goodIn_sub (fun _ h => List.mem_cons_of_mem _ (List.mem_append_right _ h)) (by decide +kernel))
set_option maxRecDepth 20000 in
theorem gL_failedCommand_X6_failedCommand : GoodIn wsL_failedCommand (wsV RL 137 RX6 yX6_failedCommand wsX6_failedCommand) := goodIn_app (goodIn_of _ (by decide +kernel)) ggL_failedCommand_X6_failedCommand
theorem dL_failedCommand_0 : decode cL_failedCommand 0 = .ok (.aload_n 1, 1) := by decide +kernel
theorem dL_failedCommand_1 : decode cL_failedCommand 1 = .ok (.iconst 0, 1) := by decide +kernel
theorem dL_failedCommand_2 : decode cL_failedCommand 2 = .ok (.aload_n 0, 1) := by decide +kernel
theorem dL_failedCommand_3 : decode cL_failedCommand 3 = .ok (.invokevirtual 137, 3) := by decide +kernel
theorem dL_failedCommand_6 : decode cL_failedCommand 6 = .ok (.i2l, 1) := by decide +kernel
theorem dL_failedCommand_7 : decode cL_failedCommand 7 = .ok (.lastore, 1) := by decide +kernel
theorem dL_failedCommand_8 : decode cL_failedCommand 8 = .ok (.goto 6, 3) := by decide +kernel
theorem dL_failedCommand_11 : decode cL_failedCommand 11 = .ok (.astore_n 2, 1) := by decide +kernel
theorem dL_failedCommand_12 : decode cL_failedCommand 12 = .ok (.iconst 1, 1) := by decide +kernel
theorem dL_failedCommand_13 : decode cL_failedCommand 13 = .ok (.ireturn, 1) := by decide +kernel
theorem dL_failedCommand_14 : decode cL_failedCommand 14 = .ok (.iconst 0, 1) := by decide +kernel
theorem dL_failedCommand_15 : decode cL_failedCommand 15 = .ok (.ireturn, 1) := by decide +kernel
set_option maxRecDepth 20000 in
theorem ggL_writeRow_X6_writeRow : GoodIn wsL_writeRow wsX6_writeRow := goodIn_ca (goodIn_r _ [6, 7, 8, 9, 5, 10, 11, 12, 13, 14, 15, 16, 17, 18, 19, 20, 21, 22, 23, 24, 25, 26, 27, 28, 29, 30, 31, 32, 33, 34, 35, 36, 37, 38, 39, 40, 41, 42, 43, 44, 45, 46, 47, 48, 49, 50, 51, 52, 53, 54, 55, 56, 57, 58, 59, 60, 61, 62, 63, 64] (by decide +kernel) (by decide +kernel)) (goodIn_sub (fun _ h => List.mem_cons_of_mem _ (List.mem_append_right _ h)) (by decide +kernel))
set_option maxRecDepth 20000 in
theorem gL_writeRow_X6_writeRow : GoodIn wsL_writeRow (wsV RL 140 RX6 yX6_writeRow wsX6_writeRow) := goodIn_app (goodIn_of _ (by decide +kernel)) ggL_writeRow_X6_writeRow
theorem dL_writeRow_0 : decode cL_writeRow 0 = .ok (.aload_n 2, 1) := by decide +kernel
theorem dL_writeRow_1 : decode cL_writeRow 1 = .ok (.iconst 0, 1) := by decide +kernel
theorem dL_writeRow_2 : decode cL_writeRow 2 = .ok (.aload_n 0, 1) := by decide +kernel
theorem dL_writeRow_3 : decode cL_writeRow 3 = .ok (.iload_n 1, 1) := by decide +kernel
theorem dL_writeRow_4 : decode cL_writeRow 4 = .ok (.invokevirtual 140, 3) := by decide +kernel
theorem dL_writeRow_7 : decode cL_writeRow 7 = .ok (.i2l, 1) := by decide +kernel
theorem dL_writeRow_8 : decode cL_writeRow 8 = .ok (.lastore, 1) := by decide +kernel
theorem dL_writeRow_9 : decode cL_writeRow 9 = .ok (.goto 6, 3) := by decide +kernel
theorem dL_writeRow_12 : decode cL_writeRow 12 = .ok (.astore_n 3, 1) := by decide +kernel
theorem dL_writeRow_13 : decode cL_writeRow 13 = .ok (.iconst 1, 1) := by decide +kernel
theorem dL_writeRow_14 : decode cL_writeRow 14 = .ok (.ireturn, 1) := by decide +kernel
theorem dL_writeRow_15 : decode cL_writeRow 15 = .ok (.iconst 0, 1) := by decide +kernel
theorem dL_writeRow_16 : decode cL_writeRow 16 = .ok (.ireturn, 1) := by decide +kernel
set_option maxRecDepth 20000 in
theorem ggL_outputAt_X6_outputAt : GoodIn wsL_outputAt wsX6_outputAt := goodIn_ca (goodIn_r _ [6, 7, 8, 9, 10, 11, 12, 13, 14, 15, 16, 17, 18, 19, 20, 21, 22] (by decide +kernel) (by decide +kernel)) (goodIn_sub (fun _ h => List.mem_cons_of_mem _ (List.mem_append_right _ h)) (by decide +kernel))
set_option maxRecDepth 20000 in
theorem gL_outputAt_X6_outputAt : GoodIn wsL_outputAt (wsV RL 143 RX6 yX6_outputAt wsX6_outputAt) := goodIn_app (goodIn_of _ (by decide +kernel)) ggL_outputAt_X6_outputAt
theorem dL_outputAt_0 : decode cL_outputAt 0 = .ok (.aload_n 2, 1) := by decide +kernel
theorem dL_outputAt_1 : decode cL_outputAt 1 = .ok (.iconst 0, 1) := by decide +kernel
theorem dL_outputAt_2 : decode cL_outputAt 2 = .ok (.aload_n 0, 1) := by decide +kernel
theorem dL_outputAt_3 : decode cL_outputAt 3 = .ok (.iload_n 1, 1) := by decide +kernel
theorem dL_outputAt_4 : decode cL_outputAt 4 = .ok (.invokevirtual 143, 3) := by decide +kernel
theorem dL_outputAt_7 : decode cL_outputAt 7 = .ok (.i2l, 1) := by decide +kernel
theorem dL_outputAt_8 : decode cL_outputAt 8 = .ok (.lastore, 1) := by decide +kernel
theorem dL_outputAt_9 : decode cL_outputAt 9 = .ok (.goto 6, 3) := by decide +kernel
theorem dL_outputAt_12 : decode cL_outputAt 12 = .ok (.astore_n 3, 1) := by decide +kernel
theorem dL_outputAt_13 : decode cL_outputAt 13 = .ok (.iconst 1, 1) := by decide +kernel
theorem dL_outputAt_14 : decode cL_outputAt 14 = .ok (.ireturn, 1) := by decide +kernel
theorem dL_outputAt_15 : decode cL_outputAt 15 = .ok (.iconst 0, 1) := by decide +kernel
theorem dL_outputAt_16 : decode cL_outputAt 16 = .ok (.ireturn, 1) := by decide +kernel
set_option maxRecDepth 20000 in
theorem ggL_undo_X6_undo : GoodIn wsL_undo wsX6_undo := goodIn_ca (goodIn_r _ [6, 7, 8, 9, 10, 11, 12, 13, 14, 15, 16, 17, 18, 19, 20, 21, 22, 23, 24, 25, 26, 27, 28, 29, 30, 31, 32, 33, 34, 35, 36, 37, 38, 39, 40, 41, 42, 43, 44, 45, 46, 47, 48, 49, 50, 51, 52, 53, 54, 55, 56, 57, 58, 59, 60] (by decide +kernel) (by decide +kernel)) (goodIn_sub (fun _ h => List.mem_cons_of_mem _ (List.mem_append_right _ h)) (by decide +kernel))
set_option maxRecDepth 20000 in
theorem gL_undo_X6_undo : GoodIn wsL_undo (wsV RL 146 RX6 yX6_undo wsX6_undo) := goodIn_app (goodIn_of _ (by decide +kernel)) ggL_undo_X6_undo
theorem dL_undo_0 : decode cL_undo 0 = .ok (.aload_n 1, 1) := by decide +kernel
theorem dL_undo_1 : decode cL_undo 1 = .ok (.iconst 0, 1) := by decide +kernel
theorem dL_undo_2 : decode cL_undo 2 = .ok (.aload_n 0, 1) := by decide +kernel
theorem dL_undo_3 : decode cL_undo 3 = .ok (.invokevirtual 146, 3) := by decide +kernel
theorem dL_undo_6 : decode cL_undo 6 = .ok (.i2l, 1) := by decide +kernel
theorem dL_undo_7 : decode cL_undo 7 = .ok (.lastore, 1) := by decide +kernel
theorem dL_undo_8 : decode cL_undo 8 = .ok (.goto 6, 3) := by decide +kernel
theorem dL_undo_11 : decode cL_undo 11 = .ok (.astore_n 2, 1) := by decide +kernel
theorem dL_undo_12 : decode cL_undo 12 = .ok (.iconst 1, 1) := by decide +kernel
theorem dL_undo_13 : decode cL_undo 13 = .ok (.ireturn, 1) := by decide +kernel
theorem dL_undo_14 : decode cL_undo 14 = .ok (.iconst 0, 1) := by decide +kernel
theorem dL_undo_15 : decode cL_undo 15 = .ok (.ireturn, 1) := by decide +kernel
set_option maxRecDepth 20000 in
theorem ggL_restore_X6_restore : GoodIn wsL_restore wsX6_restore := goodIn_ca (goodIn_r _ [6, 7, 8, 9, 10, 11, 12, 13, 14, 15, 16, 17, 18, 19, 20, 21, 22, 23, 24, 25, 26, 27, 28, 29, 30, 31, 32, 33, 34, 35, 36, 37, 38, 39, 40, 41, 42, 43, 44, 45, 46, 47, 48, 49, 50, 51, 52, 53, 54, 55, 56, 57, 58, 59] (by decide +kernel) (by decide +kernel)) (goodIn_sub (fun _ h => List.mem_cons_of_mem _ (List.mem_append_right _ h)) (by decide +kernel))
set_option maxRecDepth 20000 in
theorem gL_restore_X6_restore : GoodIn wsL_restore (wsV RL 149 RX6 yX6_restore wsX6_restore) := goodIn_app (goodIn_of _ (by decide +kernel)) ggL_restore_X6_restore
theorem dL_restore_0 : decode cL_restore 0 = .ok (.aload_n 0, 1) := by decide +kernel
theorem dL_restore_1 : decode cL_restore 1 = .ok (.invokevirtual 149, 3) := by decide +kernel
theorem dL_restore_4 : decode cL_restore 4 = .ok (.goto 6, 3) := by decide +kernel
theorem dL_restore_7 : decode cL_restore 7 = .ok (.astore_n 1, 1) := by decide +kernel
theorem dL_restore_8 : decode cL_restore 8 = .ok (.iconst 1, 1) := by decide +kernel
theorem dL_restore_9 : decode cL_restore 9 = .ok (.ireturn, 1) := by decide +kernel
theorem dL_restore_10 : decode cL_restore 10 = .ok (.iconst 0, 1) := by decide +kernel
theorem dL_restore_11 : decode cL_restore 11 = .ok (.ireturn, 1) := by decide +kernel
