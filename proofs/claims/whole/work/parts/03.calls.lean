set_option maxRecDepth 20000 in
theorem ggX5_goOnCopies_X6_copyNumbers : GoodIn wsX5_goOnCopies wsX6_copyNumbers := goodIn_ca (goodIn_r _ [5] (by decide +kernel) (by decide +kernel)) (goodIn_sub (fun _ h => List.mem_cons_of_mem _ (List.mem_append_left _ (List.mem_append_right _ h))) (by decide +kernel))
set_option maxRecDepth 20000 in
theorem gX5_goOnCopies_X6_copyNumbers_n31 : GoodIn wsX5_goOnCopies (wsX6_copyNumbers) := ggX5_goOnCopies_X6_copyNumbers
set_option maxRecDepth 20000 in
theorem ggX5_goOnCopies_X5_go : GoodIn wsX5_goOnCopies wsX5_go := goodIn_ca (goodIn_ca (goodIn_r _ [10, 11, 12, 13, 14, 15, 16, 17, 18, 19, 20, 21, 9, 22, 23, 4, 24, 25, 26, 27, 28, 29, 30, 31, 32, 33, 34, 35, 36, 37, 38, 39, 40, 41, 42, 43, 44, 45, 46, 47, 48, 49, 50, 51, 52, 53, 54, 55, 56, 57, 58, 59, 60, 61, 62, 63, 64, 65, 66, 67, 68, 69, 70, 71, 72, 73] (by decide +kernel) (by decide +kernel)) (goodIn_sub (fun _ h => List.mem_cons_of_mem _ (List.mem_append_left _ (List.mem_append_right _ h))) (by decide +kernel))) (goodIn_sub (fun _ h => List.mem_cons_of_mem _ (List.mem_append_right _ h)) (by decide +kernel))
set_option maxRecDepth 20000 in
theorem gX5_goOnCopies_X5_go : GoodIn wsX5_goOnCopies (wsV RX5 35 RX5 yX5_go wsX5_go) := goodIn_app (goodIn_of _ (by decide +kernel)) ggX5_goOnCopies_X5_go
set_option maxRecDepth 20000 in
theorem ggX5_go_X5_step : GoodIn wsX5_go wsX5_step := goodIn_ca (goodIn_ca (goodIn_r _ [13, 1, 5, 4, 14, 15, 16, 17, 18, 19, 12, 20, 21, 3, 2, 22, 23, 7, 6, 24, 25, 26, 27, 28, 29, 30, 31, 32, 33, 34, 35, 36, 37, 38, 39, 40, 41, 42, 43, 44, 45, 46, 47, 48, 49, 50, 51, 52, 53, 54, 55, 56, 57, 58, 59, 60, 61, 62, 63, 64, 65] (by decide +kernel) (by decide +kernel)) (goodIn_sub (fun _ h => List.mem_cons_of_mem _ (List.mem_append_left _ (List.mem_append_right _ h))) (by decide +kernel))) (goodIn_sub (fun _ h => List.mem_cons_of_mem _ (List.mem_append_right _ h)) (by decide +kernel))
set_option maxRecDepth 20000 in
theorem gX5_go_X5_step : GoodIn wsX5_go (wsV RX5 52 RX5 yX5_step wsX5_step) := goodIn_app (goodIn_of _ (by decide +kernel)) ggX5_go_X5_step
set_option maxRecDepth 20000 in
theorem ggX5_step_X6_octetAt : GoodIn wsX5_step wsX6_octetAt := goodIn_ca (goodIn_r _ [6] (by decide +kernel) (by decide +kernel)) (goodIn_sub (fun _ h => List.mem_cons_of_mem _ (List.mem_append_left _ (List.mem_append_right _ h))) (by decide +kernel))
set_option maxRecDepth 20000 in
theorem gX5_step_X6_octetAt_n59 : GoodIn wsX5_step (wsX6_octetAt) := ggX5_step_X6_octetAt
set_option maxRecDepth 20000 in
theorem ggX5_step_X5_doIt : GoodIn wsX5_step wsX5_doIt := goodIn_ca (goodIn_ca (goodIn_r _ [11, 12, 13, 14, 15, 3, 2, 16, 17, 18, 19, 20, 21, 22, 23, 24, 25, 26, 27, 28, 10, 29, 30, 5, 31, 32, 33, 34, 35, 36, 37, 38, 39, 40, 41, 1, 42, 43, 44, 45, 46, 47, 48, 49, 50, 51, 52, 53, 54, 55, 56, 57, 58, 59, 60] (by decide +kernel) (by decide +kernel)) (goodIn_sub (fun _ h => List.mem_cons_of_mem _ (List.mem_append_left _ (List.mem_append_right _ h))) (by decide +kernel))) (goodIn_sub (fun _ h => List.mem_cons_of_mem _ (List.mem_append_right _ h)) (by decide +kernel))
set_option maxRecDepth 20000 in
theorem gX5_step_X5_doIt : GoodIn wsX5_step (wsV RX5 82 RX5 yX5_doIt wsX5_doIt) := goodIn_app (goodIn_of _ (by decide +kernel)) ggX5_step_X5_doIt
set_option maxRecDepth 20000 in
theorem ggX5_doIt_Jx29ce0_ordinal_8abf5 : GoodIn wsX5_doIt wsJx29ce0_ordinal_8abf5 := goodIn_r _ [15, 16] (by decide +kernel) (by decide +kernel)
set_option maxRecDepth 20000 in
theorem gX5_doIt_Jx29ce0_ordinal_8abf5_u92X3 : GoodIn wsX5_doIt (va_wsU RX5 92 RX3 "java/lang/Enum" ⟨"RunClasses$Instruction", "ordinal", "()I"⟩ yJx29ce0_ordinal_8abf5 wsJx29ce0_ordinal_8abf5) := goodIn_app (goodIn_of _ (by decide +kernel)) ggX5_doIt_Jx29ce0_ordinal_8abf5
set_option maxRecDepth 20000 in
theorem ggX5_doIt_X5_lay : GoodIn wsX5_doIt wsX5_lay := goodIn_ca (goodIn_r _ [21, 5, 4, 44, 45, 46, 47, 48, 49, 50, 51, 52, 53, 54] (by decide +kernel) (by decide +kernel)) (goodIn_sub (fun _ h => List.mem_cons_of_mem _ (List.mem_append_left _ (List.mem_append_right _ h))) (by decide +kernel))
set_option maxRecDepth 20000 in
theorem gX5_doIt_X5_lay : GoodIn wsX5_doIt (wsV RX5 95 RX5 yX5_lay wsX5_lay) := goodIn_app (goodIn_of _ (by decide +kernel)) ggX5_doIt_X5_lay
set_option maxRecDepth 20000 in
theorem ggX5_doIt_X6_numberAt : GoodIn wsX5_doIt wsX6_numberAt := goodIn_ca (goodIn_r _ [24] (by decide +kernel) (by decide +kernel)) (goodIn_sub (fun _ h => List.mem_cons_of_mem _ (List.mem_append_left _ (List.mem_append_right _ h))) (by decide +kernel))
set_option maxRecDepth 20000 in
theorem gX5_doIt_X6_numberAt_n99 : GoodIn wsX5_doIt (wsX6_numberAt) := ggX5_doIt_X6_numberAt
set_option maxRecDepth 20000 in
theorem ggX5_doIt_X5_take : GoodIn wsX5_doIt wsX5_take := goodIn_ca (goodIn_r _ [28, 5, 4, 44, 45, 46, 47, 48, 49, 50, 51, 52, 53, 54] (by decide +kernel) (by decide +kernel)) (goodIn_sub (fun _ h => List.mem_cons_of_mem _ (List.mem_append_left _ (List.mem_append_right _ h))) (by decide +kernel))
set_option maxRecDepth 20000 in
theorem gX5_doIt_X5_take : GoodIn wsX5_doIt (wsV RX5 103 RX5 yX5_take wsX5_take) := goodIn_app (goodIn_of _ (by decide +kernel)) ggX5_doIt_X5_take
set_option maxRecDepth 20000 in
theorem ggX5_doIt_X6_putNumber : GoodIn wsX5_doIt wsX6_putNumber := goodIn_ca (goodIn_r _ [30] (by decide +kernel) (by decide +kernel)) (goodIn_sub (fun _ h => List.mem_cons_of_mem _ (List.mem_append_left _ (List.mem_append_right _ h))) (by decide +kernel))
set_option maxRecDepth 20000 in
theorem gX5_doIt_X6_putNumber_n107 : GoodIn wsX5_doIt (wsX6_putNumber) := ggX5_doIt_X6_putNumber
set_option maxRecDepth 20000 in
theorem ggX5_doIt_X5_goOnAt : GoodIn wsX5_doIt wsX5_goOnAt := goodIn_r _ [34, 35, 6, 44, 45, 46, 47, 48, 49, 50, 51, 52, 53, 54] (by decide +kernel) (by decide +kernel)
set_option maxRecDepth 20000 in
theorem gX5_doIt_X5_goOnAt : GoodIn wsX5_doIt (wsV RX5 111 RX5 yX5_goOnAt wsX5_goOnAt) := goodIn_app (goodIn_of _ (by decide +kernel)) ggX5_doIt_X5_goOnAt
set_option maxRecDepth 20000 in
theorem ggX5_doIt_X5_divides : GoodIn wsX5_doIt wsX5_divides := goodIn_r _ [38, 39, 40] (by decide +kernel) (by decide +kernel)
set_option maxRecDepth 20000 in
theorem gX5_doIt_X5_divides : GoodIn wsX5_doIt (va_wsS RX5 117 yX5_divides wsX5_divides) := goodIn_app (goodIn_of _ (by decide +kernel)) ggX5_doIt_X5_divides
set_option maxRecDepth 20000 in
theorem ggX5_doIt_X5_reckoned : GoodIn wsX5_doIt wsX5_reckoned := goodIn_ca (goodIn_ca (goodIn_r _ [43, 1, 10, 11, 12, 13, 14, 15, 16] (by decide +kernel) (by decide +kernel)) (goodIn_sub (fun _ h => List.mem_cons_of_mem _ (List.mem_append_left _ (List.mem_append_right _ h))) (by decide +kernel))) (goodIn_sub (fun _ h => List.mem_cons_of_mem _ (List.mem_append_right _ h)) (by decide +kernel))
set_option maxRecDepth 20000 in
theorem gX5_doIt_X5_reckoned : GoodIn wsX5_doIt (va_wsS RX5 121 yX5_reckoned wsX5_reckoned) := goodIn_app (goodIn_of _ (by decide +kernel)) ggX5_doIt_X5_reckoned
set_option maxRecDepth 20000 in
theorem ggX5_reckoned_Jx29ce0_ordinal_8abf5 : GoodIn wsX5_reckoned wsJx29ce0_ordinal_8abf5 := goodIn_r _ [7, 8] (by decide +kernel) (by decide +kernel)
set_option maxRecDepth 20000 in
theorem gX5_reckoned_Jx29ce0_ordinal_8abf5_u92X3 : GoodIn wsX5_reckoned (va_wsU RX5 92 RX3 "java/lang/Enum" ⟨"RunClasses$Instruction", "ordinal", "()I"⟩ yJx29ce0_ordinal_8abf5 wsJx29ce0_ordinal_8abf5) := goodIn_app (goodIn_of _ (by decide +kernel)) ggX5_reckoned_Jx29ce0_ordinal_8abf5
set_option maxRecDepth 20000 in
theorem ggX6_init_X1_init : GoodIn wsX6_init wsX1_init := goodIn_r _ [26, 27, 2, 3, 28, 29, 30, 31, 49, 50, 51, 52, 53, 54, 55, 56, 57] (by decide +kernel) (by decide +kernel)
set_option maxRecDepth 20000 in
theorem gX6_init_X1_init_n29 : GoodIn wsX6_init (wsX1_init) := ggX6_init_X1_init
set_option maxRecDepth 20000 in
theorem ggX6_init_X5_init : GoodIn wsX6_init wsX5_init := goodIn_r _ [33, 34, 2, 3, 28, 35, 36, 37, 23, 38, 39, 40, 58, 59, 60, 61, 62, 63, 64, 65, 66, 67, 68] (by decide +kernel) (by decide +kernel)
set_option maxRecDepth 20000 in
theorem gX6_init_X5_init_n38 : GoodIn wsX6_init (wsX5_init) := ggX6_init_X5_init
set_option maxRecDepth 20000 in
theorem ggX6_file_X6_refuse : GoodIn wsX6_file wsX6_refuse := goodIn_r _ [7, 8, 13, 14, 15, 16, 17, 18, 19, 20] (by decide +kernel) (by decide +kernel)
set_option maxRecDepth 20000 in
theorem gX6_file_X6_refuse : GoodIn wsX6_file (wsV RX6 47 RX6 yX6_refuse wsX6_refuse) := goodIn_app (goodIn_of _ (by decide +kernel)) ggX6_file_X6_refuse
set_option maxRecDepth 20000 in
theorem ggX6_file_X6_putOctet : GoodIn wsX6_file wsX6_putOctet := goodIn_ca (goodIn_r _ [12, 1, 2, 13, 14, 15, 16, 17, 18, 19, 20] (by decide +kernel) (by decide +kernel)) (goodIn_sub (fun _ h => List.mem_cons_of_mem _ (List.mem_append_right _ h)) (by decide +kernel))
set_option maxRecDepth 20000 in
theorem gX6_file_X6_putOctet : GoodIn wsX6_file (wsV RX6 54 RX6 yX6_putOctet wsX6_putOctet) := goodIn_app (goodIn_of _ (by decide +kernel)) ggX6_file_X6_putOctet
set_option maxRecDepth 20000 in
theorem ggX6_runnable_X6_newestOf : GoodIn wsX6_runnable wsX6_newestOf := goodIn_r _ [7, 8, 76, 77, 78, 79, 80, 81, 82, 83] (by decide +kernel) (by decide +kernel)
set_option maxRecDepth 20000 in
theorem gX6_runnable_X6_newestOf : GoodIn wsX6_runnable (wsV RX6 58 RX6 yX6_newestOf wsX6_newestOf) := goodIn_app (goodIn_of _ (by decide +kernel)) ggX6_runnable_X6_newestOf
set_option maxRecDepth 20000 in
theorem ggX6_runnable_X6_refuse : GoodIn wsX6_runnable wsX6_refuse := goodIn_r _ [12, 13, 76, 77, 78, 79, 80, 81, 82, 83] (by decide +kernel) (by decide +kernel)
set_option maxRecDepth 20000 in
theorem gX6_runnable_X6_refuse : GoodIn wsX6_runnable (wsV RX6 47 RX6 yX6_refuse wsX6_refuse) := goodIn_app (goodIn_of _ (by decide +kernel)) ggX6_runnable_X6_refuse
set_option maxRecDepth 20000 in
theorem ggX6_runnable_X6_isRight : GoodIn wsX6_runnable wsX6_isRight := goodIn_ca (goodIn_r _ [16, 17, 18, 6, 19] (by decide +kernel) (by decide +kernel)) (goodIn_sub (fun _ h => List.mem_cons_of_mem _ (List.mem_append_right _ h)) (by decide +kernel))
set_option maxRecDepth 20000 in
theorem gX6_runnable_X6_isRight : GoodIn wsX6_runnable (va_wsS RX6 62 yX6_isRight wsX6_isRight) := goodIn_app (goodIn_of _ (by decide +kernel)) ggX6_runnable_X6_isRight
set_option maxRecDepth 20000 in
theorem ggX6_runnable_X6_addRunnable : GoodIn wsX6_runnable wsX6_addRunnable := goodIn_ca (goodIn_r _ [23, 24, 9, 10, 11, 6, 12, 13, 25, 26, 27, 28, 1, 2, 8, 29, 30, 31, 32, 33, 34, 35, 36, 37, 38, 39, 40, 41, 42, 43, 44, 45, 46, 47, 48, 49, 50, 51, 52, 53, 54, 55, 56, 57, 58, 59, 60, 61, 62, 17, 18, 19, 63, 64, 65, 66, 67, 68, 69, 70, 71, 76, 77, 78, 79, 80, 81, 82, 83, 84, 85, 86, 87] (by decide +kernel) (by decide +kernel)) (goodIn_sub (fun _ h => List.mem_cons_of_mem _ (List.mem_append_right _ h)) (by decide +kernel))
set_option maxRecDepth 20000 in
theorem gX6_runnable_X6_addRunnable : GoodIn wsX6_runnable (wsV RX6 66 RX6 yX6_addRunnable wsX6_addRunnable) := goodIn_app (goodIn_of _ (by decide +kernel)) ggX6_runnable_X6_addRunnable
set_option maxRecDepth 20000 in
theorem ggX6_runnable_X6_addEdition : GoodIn wsX6_runnable wsX6_addEdition := goodIn_ca (goodIn_r _ [75, 9, 10, 11, 6, 12, 13, 25, 26, 27, 28, 1, 2, 8, 29, 30, 31, 32, 33, 34, 35, 36, 37, 38, 39, 40, 41, 42, 43, 44, 45, 46, 47, 48, 49, 50, 51, 52, 53, 54, 55, 56, 57, 58, 59, 60, 61, 62, 17, 18, 19, 63, 64, 65, 66, 67, 68, 69, 70, 71, 76, 77, 78, 79, 80, 81, 82, 83, 84, 85, 86, 87] (by decide +kernel) (by decide +kernel)) (goodIn_sub (fun _ h => List.mem_cons_of_mem _ (List.mem_append_right _ h)) (by decide +kernel))
set_option maxRecDepth 20000 in
theorem gX6_runnable_X6_addEdition : GoodIn wsX6_runnable (wsV RX6 73 RX6 yX6_addEdition wsX6_addEdition) := goodIn_app (goodIn_of _ (by decide +kernel)) ggX6_runnable_X6_addEdition
set_option maxRecDepth 20000 in
theorem ggX6_make_X6_controllerAt : GoodIn wsX6_make wsX6_controllerAt := goodIn_r _ [8, 9, 54, 55, 56, 57, 58, 59, 60, 61] (by decide +kernel) (by decide +kernel)
set_option maxRecDepth 20000 in
theorem gX6_make_X6_controllerAt : GoodIn wsX6_make (wsV RX6 76 RX6 yX6_controllerAt wsX6_controllerAt) := goodIn_app (goodIn_of _ (by decide +kernel)) ggX6_make_X6_controllerAt
set_option maxRecDepth 20000 in
theorem ggX6_make_X6_newestOf : GoodIn wsX6_make wsX6_newestOf := goodIn_r _ [13, 14, 54, 55, 56, 57, 58, 59, 60, 61] (by decide +kernel) (by decide +kernel)
set_option maxRecDepth 20000 in
theorem gX6_make_X6_newestOf : GoodIn wsX6_make (wsV RX6 58 RX6 yX6_newestOf wsX6_newestOf) := goodIn_app (goodIn_of _ (by decide +kernel)) ggX6_make_X6_newestOf
set_option maxRecDepth 20000 in
theorem ggX6_make_X6_refuse : GoodIn wsX6_make wsX6_refuse := goodIn_r _ [18, 19, 54, 55, 56, 57, 58, 59, 60, 61] (by decide +kernel) (by decide +kernel)
set_option maxRecDepth 20000 in
theorem gX6_make_X6_refuse : GoodIn wsX6_make (wsV RX6 47 RX6 yX6_refuse wsX6_refuse) := goodIn_app (goodIn_of _ (by decide +kernel)) ggX6_make_X6_refuse
set_option maxRecDepth 20000 in
theorem ggX6_make_X1_classOf : GoodIn wsX6_make wsX1_classOf := goodIn_r _ [23, 24, 37, 38, 39, 40, 41, 42, 43, 44, 45] (by decide +kernel) (by decide +kernel)
set_option maxRecDepth 20000 in
theorem gX6_make_X1_classOf_n84 : GoodIn wsX6_make (wsX1_classOf) := ggX6_make_X1_classOf
set_option maxRecDepth 20000 in
theorem ggX6_make_X4_init : GoodIn wsX6_make wsX4_init := goodIn_r _ [26, 27, 28, 29, 30, 31, 32, 33, 46, 47, 48, 49] (by decide +kernel) (by decide +kernel)
set_option maxRecDepth 20000 in
theorem gX6_make_X4_init_n90 : GoodIn wsX6_make (wsX4_init) := ggX6_make_X4_init
set_option maxRecDepth 20000 in
theorem ggX6_make_X1_load : GoodIn wsX6_make wsX1_load := goodIn_r _ [36, 24, 37, 38, 39, 40, 41, 42, 43, 44, 45] (by decide +kernel) (by decide +kernel)
set_option maxRecDepth 20000 in
theorem gX6_make_X1_load_n93 : GoodIn wsX6_make (wsX1_load) := ggX6_make_X1_load
set_option maxRecDepth 20000 in
theorem ggX6_power_X6_controllerAt : GoodIn wsX6_power wsX6_controllerAt := goodIn_r _ [6, 7, 98, 99, 100, 101, 102, 103, 104, 105] (by decide +kernel) (by decide +kernel)
set_option maxRecDepth 20000 in
theorem gX6_power_X6_controllerAt : GoodIn wsX6_power (wsV RX6 76 RX6 yX6_controllerAt wsX6_controllerAt) := goodIn_app (goodIn_of _ (by decide +kernel)) ggX6_power_X6_controllerAt
set_option maxRecDepth 20000 in
theorem ggX6_power_X6_refuse : GoodIn wsX6_power wsX6_refuse := goodIn_r _ [11, 12, 98, 99, 100, 101, 102, 103, 104, 105] (by decide +kernel) (by decide +kernel)
set_option maxRecDepth 20000 in
theorem gX6_power_X6_refuse : GoodIn wsX6_power (wsV RX6 47 RX6 yX6_refuse wsX6_refuse) := goodIn_app (goodIn_of _ (by decide +kernel)) ggX6_power_X6_refuse
set_option maxRecDepth 20000 in
theorem ggX6_power_X6_callStart : GoodIn wsX6_power wsX6_callStart := goodIn_ca (goodIn_ca (goodIn_r _ [16, 17, 18, 19, 20, 21, 22, 23, 24, 5, 25, 26, 27, 28, 29, 30, 31, 32, 33, 34, 35, 36, 37, 38, 39, 40, 41, 42, 43, 44, 45, 46, 47, 48, 49, 50, 51, 52, 53, 54, 55, 56, 57, 58, 59, 60, 61, 62, 63, 64, 65, 66, 67, 68, 69, 70, 71, 72, 73, 74, 75, 76, 77, 78, 79, 80, 81, 82, 83, 84, 85, 86, 87, 88, 106, 107, 108, 109, 110, 111, 112, 113, 89, 90, 91, 92, 93, 94, 95, 96, 97, 98, 99, 100, 101, 102, 103, 104, 105, 114, 115, 116, 117, 118, 119, 120, 121, 122, 123, 124] (by decide +kernel) (by decide +kernel)) (goodIn_sub (fun _ h => List.mem_cons_of_mem _ (List.mem_append_left _ (List.mem_append_right _ h))) (by decide +kernel))) (goodIn_sub (fun _ h => List.mem_cons_of_mem _ (List.mem_append_right _ h)) (by decide +kernel))
set_option maxRecDepth 20000 in
theorem gX6_power_X6_callStart : GoodIn wsX6_power (wsV RX6 100 RX6 yX6_callStart wsX6_callStart) := goodIn_app (goodIn_of _ (by decide +kernel)) ggX6_power_X6_callStart
set_option maxRecDepth 20000 in
theorem ggX6_run_X6_callRun : GoodIn wsX6_run wsX6_callRun := goodIn_ca (goodIn_ca (goodIn_r _ [5, 6, 7, 8, 9, 10, 4, 11, 12, 13, 14, 15, 16, 17, 18, 19, 20, 21, 22, 23, 24, 25, 26, 27, 28, 29, 30, 31, 32, 33, 34, 35, 36, 37, 38, 39, 40, 41, 42, 43, 44, 45, 46, 47, 48, 49, 50, 51, 52, 53, 54, 55, 56, 57, 58, 59, 60, 61, 62, 63, 64, 65, 66, 67, 68, 69, 70, 71, 72, 73, 74, 75, 76, 77, 78, 79, 80, 81, 82, 83, 84, 85, 86, 87, 88, 89, 90, 91, 92, 93, 94, 95, 96, 97, 98, 99, 100, 101, 102, 103, 104, 105, 106, 107, 108, 109, 110, 111, 112, 113, 114, 115, 116, 117, 118, 119, 120, 121, 122, 123, 124, 125, 126, 127, 128, 129, 130, 131, 132, 133, 134] (by decide +kernel) (by decide +kernel)) (goodIn_sub (fun _ h => List.mem_cons_of_mem _ (List.mem_append_left _ (List.mem_append_right _ h))) (by decide +kernel))) (goodIn_sub (fun _ h => List.mem_cons_of_mem _ (List.mem_append_right _ h)) (by decide +kernel))
set_option maxRecDepth 20000 in
theorem gX6_run_X6_callRun : GoodIn wsX6_run (wsV RX6 104 RX6 yX6_callRun wsX6_callRun) := goodIn_app (goodIn_of _ (by decide +kernel)) ggX6_run_X6_callRun
set_option maxRecDepth 20000 in
theorem ggX6_beside_X6_callRun : GoodIn wsX6_beside wsX6_callRun := goodIn_ca (goodIn_ca (goodIn_r _ [5, 6, 7, 8, 9, 10, 4, 11, 12, 13, 14, 15, 16, 17, 18, 19, 20, 21, 22, 23, 24, 25, 26, 27, 28, 29, 30, 31, 32, 33, 34, 35, 36, 37, 38, 39, 40, 41, 42, 43, 44, 45, 46, 47, 48, 49, 50, 51, 52, 53, 54, 55, 56, 57, 58, 59, 60, 61, 62, 63, 64, 65, 66, 67, 68, 69, 70, 71, 72, 73, 74, 75, 76, 77, 78, 79, 80, 81, 82, 83, 84, 85, 86, 87, 88, 89, 90, 91, 92, 93, 94, 95, 96, 97, 98, 99, 100, 101, 102, 103, 104, 105, 106, 107, 108, 109, 110, 111, 112, 113, 114, 115, 116, 117, 118, 119, 120, 121, 122, 123, 124, 125, 126, 127, 128, 129, 130, 131, 132, 133, 134] (by decide +kernel) (by decide +kernel)) (goodIn_sub (fun _ h => List.mem_cons_of_mem _ (List.mem_append_left _ (List.mem_append_right _ h))) (by decide +kernel))) (goodIn_sub (fun _ h => List.mem_cons_of_mem _ (List.mem_append_right _ h)) (by decide +kernel))
set_option maxRecDepth 20000 in
theorem gX6_beside_X6_callRun : GoodIn wsX6_beside (wsV RX6 104 RX6 yX6_callRun wsX6_callRun) := goodIn_app (goodIn_of _ (by decide +kernel)) ggX6_beside_X6_callRun
set_option maxRecDepth 20000 in
theorem ggX6_port_X6_controllerAt : GoodIn wsX6_port wsX6_controllerAt := goodIn_r _ [5, 6, 19, 20, 21, 22, 23, 24, 25, 26] (by decide +kernel) (by decide +kernel)
set_option maxRecDepth 20000 in
theorem gX6_port_X6_controllerAt : GoodIn wsX6_port (wsV RX6 76 RX6 yX6_controllerAt wsX6_controllerAt) := goodIn_app (goodIn_of _ (by decide +kernel)) ggX6_port_X6_controllerAt
set_option maxRecDepth 20000 in
theorem ggX6_port_X6_numberAt : GoodIn wsX6_port wsX6_numberAt := goodIn_ca (goodIn_r _ [9] (by decide +kernel) (by decide +kernel)) (goodIn_sub (fun _ h => List.mem_cons_of_mem _ (List.mem_append_right _ h)) (by decide +kernel))
set_option maxRecDepth 20000 in
theorem gX6_port_X6_numberAt : GoodIn wsX6_port (va_wsS RX6 112 yX6_numberAt wsX6_numberAt) := goodIn_app (goodIn_of _ (by decide +kernel)) ggX6_port_X6_numberAt
set_option maxRecDepth 20000 in
theorem ggX6_set_X6_controllerAt : GoodIn wsX6_set wsX6_controllerAt := goodIn_r _ [5, 6, 24, 25, 26, 27, 28, 29, 30, 31] (by decide +kernel) (by decide +kernel)
set_option maxRecDepth 20000 in
theorem gX6_set_X6_controllerAt : GoodIn wsX6_set (wsV RX6 76 RX6 yX6_controllerAt wsX6_controllerAt) := goodIn_app (goodIn_of _ (by decide +kernel)) ggX6_set_X6_controllerAt
set_option maxRecDepth 20000 in
theorem ggX6_set_X6_refuse : GoodIn wsX6_set wsX6_refuse := goodIn_r _ [10, 11, 24, 25, 26, 27, 28, 29, 30, 31] (by decide +kernel) (by decide +kernel)
set_option maxRecDepth 20000 in
theorem gX6_set_X6_refuse : GoodIn wsX6_set (wsV RX6 47 RX6 yX6_refuse wsX6_refuse) := goodIn_app (goodIn_of _ (by decide +kernel)) ggX6_set_X6_refuse
set_option maxRecDepth 20000 in
theorem ggX6_set_X6_putNumber : GoodIn wsX6_set wsX6_putNumber := goodIn_ca (goodIn_r _ [14] (by decide +kernel) (by decide +kernel)) (goodIn_sub (fun _ h => List.mem_cons_of_mem _ (List.mem_append_right _ h)) (by decide +kernel))
set_option maxRecDepth 20000 in
theorem gX6_set_X6_putNumber : GoodIn wsX6_set (va_wsS RX6 116 yX6_putNumber wsX6_putNumber) := goodIn_app (goodIn_of _ (by decide +kernel)) ggX6_set_X6_putNumber
set_option maxRecDepth 20000 in
theorem ggX6_cell_X6_classAt : GoodIn wsX6_cell wsX6_classAt := goodIn_r _ [5, 6, 7, 8, 4, 9, 10, 11, 12, 13, 14, 15, 23, 24, 25, 26, 27, 28, 29, 30, 31, 32, 33, 34, 35, 36, 37, 38, 39] (by decide +kernel) (by decide +kernel)
set_option maxRecDepth 20000 in
theorem gX6_cell_X6_classAt : GoodIn wsX6_cell (wsV RX6 120 RX6 yX6_classAt wsX6_classAt) := goodIn_app (goodIn_of _ (by decide +kernel)) ggX6_cell_X6_classAt
set_option maxRecDepth 20000 in
theorem ggX6_cell_X6_numberAt : GoodIn wsX6_cell wsX6_numberAt := goodIn_ca (goodIn_r _ [18] (by decide +kernel) (by decide +kernel)) (goodIn_sub (fun _ h => List.mem_cons_of_mem _ (List.mem_append_right _ h)) (by decide +kernel))
set_option maxRecDepth 20000 in
theorem gX6_cell_X6_numberAt : GoodIn wsX6_cell (va_wsS RX6 112 yX6_numberAt wsX6_numberAt) := goodIn_app (goodIn_of _ (by decide +kernel)) ggX6_cell_X6_numberAt
set_option maxRecDepth 20000 in
theorem ggX6_reaction_X6_controllerAt : GoodIn wsX6_reaction wsX6_controllerAt := goodIn_r _ [5, 6, 21, 22, 23, 24, 25, 26, 27, 28] (by decide +kernel) (by decide +kernel)
set_option maxRecDepth 20000 in
theorem gX6_reaction_X6_controllerAt : GoodIn wsX6_reaction (wsV RX6 76 RX6 yX6_controllerAt wsX6_controllerAt) := goodIn_app (goodIn_of _ (by decide +kernel)) ggX6_reaction_X6_controllerAt
set_option maxRecDepth 20000 in
theorem ggX6_reaction_X6_refuse : GoodIn wsX6_reaction wsX6_refuse := goodIn_r _ [10, 11, 21, 22, 23, 24, 25, 26, 27, 28] (by decide +kernel) (by decide +kernel)
set_option maxRecDepth 20000 in
theorem gX6_reaction_X6_refuse : GoodIn wsX6_reaction (wsV RX6 47 RX6 yX6_refuse wsX6_refuse) := goodIn_app (goodIn_of _ (by decide +kernel)) ggX6_reaction_X6_refuse
set_option maxRecDepth 20000 in
theorem ggX6_update_X6_controllerAt : GoodIn wsX6_update wsX6_controllerAt := goodIn_r _ [5, 6, 38, 39, 40, 41, 42, 43, 44, 45] (by decide +kernel) (by decide +kernel)
set_option maxRecDepth 20000 in
theorem gX6_update_X6_controllerAt : GoodIn wsX6_update (wsV RX6 76 RX6 yX6_controllerAt wsX6_controllerAt) := goodIn_app (goodIn_of _ (by decide +kernel)) ggX6_update_X6_controllerAt
set_option maxRecDepth 20000 in
theorem ggX6_update_X6_newestOf : GoodIn wsX6_update wsX6_newestOf := goodIn_r _ [10, 11, 38, 39, 40, 41, 42, 43, 44, 45] (by decide +kernel) (by decide +kernel)
set_option maxRecDepth 20000 in
theorem gX6_update_X6_newestOf : GoodIn wsX6_update (wsV RX6 58 RX6 yX6_newestOf wsX6_newestOf) := goodIn_app (goodIn_of _ (by decide +kernel)) ggX6_update_X6_newestOf
set_option maxRecDepth 20000 in
theorem ggX6_update_X6_refuse : GoodIn wsX6_update wsX6_refuse := goodIn_r _ [15, 16, 38, 39, 40, 41, 42, 43, 44, 45] (by decide +kernel) (by decide +kernel)
set_option maxRecDepth 20000 in
theorem gX6_update_X6_refuse : GoodIn wsX6_update (wsV RX6 47 RX6 yX6_refuse wsX6_refuse) := goodIn_app (goodIn_of _ (by decide +kernel)) ggX6_update_X6_refuse
set_option maxRecDepth 20000 in
theorem ggX6_update_X1_classOf : GoodIn wsX6_update wsX1_classOf := goodIn_r _ [20, 21, 46, 47, 48, 49, 50, 51, 52, 53, 54] (by decide +kernel) (by decide +kernel)
set_option maxRecDepth 20000 in
theorem gX6_update_X1_classOf_n84 : GoodIn wsX6_update (wsX1_classOf) := ggX6_update_X1_classOf
set_option maxRecDepth 20000 in
theorem ggX6_update_X4_becomeAnew : GoodIn wsX6_update wsX4_becomeAnew := goodIn_ca (goodIn_r _ [25, 26, 27, 28, 29, 30, 31, 32, 33] (by decide +kernel) (by decide +kernel)) (goodIn_sub (fun _ h => List.mem_cons_of_mem _ (List.mem_append_right _ h)) (by decide +kernel))
set_option maxRecDepth 20000 in
theorem gX6_update_X4_becomeAnew_n133 : GoodIn wsX6_update (wsX4_becomeAnew) := ggX6_update_X4_becomeAnew
set_option maxRecDepth 20000 in
theorem ggX6_reset_X6_controllerAt : GoodIn wsX6_reset wsX6_controllerAt := goodIn_r _ [6, 7, 44, 45, 46, 47, 48, 49, 50, 51] (by decide +kernel) (by decide +kernel)
set_option maxRecDepth 20000 in
theorem gX6_reset_X6_controllerAt : GoodIn wsX6_reset (wsV RX6 76 RX6 yX6_controllerAt wsX6_controllerAt) := goodIn_app (goodIn_of _ (by decide +kernel)) ggX6_reset_X6_controllerAt
set_option maxRecDepth 20000 in
theorem ggX6_reset_X6_refuse : GoodIn wsX6_reset wsX6_refuse := goodIn_r _ [11, 12, 44, 45, 46, 47, 48, 49, 50, 51] (by decide +kernel) (by decide +kernel)
set_option maxRecDepth 20000 in
theorem gX6_reset_X6_refuse : GoodIn wsX6_reset (wsV RX6 47 RX6 yX6_refuse wsX6_refuse) := goodIn_app (goodIn_of _ (by decide +kernel)) ggX6_reset_X6_refuse
set_option maxRecDepth 20000 in
theorem ggX6_reset_J7_fill_d0a16 : GoodIn wsX6_reset wsJ7_fill_d0a16 := goodIn_r _ [16] (by decide +kernel) (by decide +kernel)
set_option maxRecDepth 20000 in
theorem gX6_reset_J7_fill_d0a16 : GoodIn wsX6_reset (va_wsS RX6 137 yJ7_fill_d0a16 wsJ7_fill_d0a16) := goodIn_app (goodIn_of _ (by decide +kernel)) ggX6_reset_J7_fill_d0a16
set_option maxRecDepth 20000 in
theorem ggX6_reset_X1_classOf : GoodIn wsX6_reset wsX1_classOf := goodIn_r _ [20, 21, 35, 36, 37, 38, 39, 40, 41, 42, 43] (by decide +kernel) (by decide +kernel)
set_option maxRecDepth 20000 in
theorem gX6_reset_X1_classOf_n84 : GoodIn wsX6_reset (wsX1_classOf) := ggX6_reset_X1_classOf
set_option maxRecDepth 20000 in
theorem ggX6_reset_X6_newestOf : GoodIn wsX6_reset wsX6_newestOf := goodIn_r _ [25, 26, 44, 45, 46, 47, 48, 49, 50, 51] (by decide +kernel) (by decide +kernel)
set_option maxRecDepth 20000 in
theorem gX6_reset_X6_newestOf : GoodIn wsX6_reset (wsV RX6 58 RX6 yX6_newestOf wsX6_newestOf) := goodIn_app (goodIn_of _ (by decide +kernel)) ggX6_reset_X6_newestOf
set_option maxRecDepth 20000 in
theorem ggX6_reset_X4_becomeAnew : GoodIn wsX6_reset wsX4_becomeAnew := goodIn_ca (goodIn_r _ [30, 31, 32, 33, 34, 56, 57, 58, 59] (by decide +kernel) (by decide +kernel)) (goodIn_sub (fun _ h => List.mem_cons_of_mem _ (List.mem_append_right _ h)) (by decide +kernel))
set_option maxRecDepth 20000 in
theorem gX6_reset_X4_becomeAnew_n133 : GoodIn wsX6_reset (wsX4_becomeAnew) := ggX6_reset_X4_becomeAnew
set_option maxRecDepth 20000 in
theorem ggX6_fault_X6_controllerAt : GoodIn wsX6_fault wsX6_controllerAt := goodIn_r _ [5, 6, 21, 22, 23, 24, 25, 26, 27, 28] (by decide +kernel) (by decide +kernel)
set_option maxRecDepth 20000 in
theorem gX6_fault_X6_controllerAt : GoodIn wsX6_fault (wsV RX6 76 RX6 yX6_controllerAt wsX6_controllerAt) := goodIn_app (goodIn_of _ (by decide +kernel)) ggX6_fault_X6_controllerAt
set_option maxRecDepth 20000 in
theorem ggX6_fault_X6_refuse : GoodIn wsX6_fault wsX6_refuse := goodIn_r _ [10, 11, 21, 22, 23, 24, 25, 26, 27, 28] (by decide +kernel) (by decide +kernel)
set_option maxRecDepth 20000 in
theorem gX6_fault_X6_refuse : GoodIn wsX6_fault (wsV RX6 47 RX6 yX6_refuse wsX6_refuse) := goodIn_app (goodIn_of _ (by decide +kernel)) ggX6_fault_X6_refuse
set_option maxRecDepth 20000 in
theorem ggX6_same_X6_classAt : GoodIn wsX6_same wsX6_classAt := goodIn_r _ [5, 6, 7, 8, 4, 9, 10, 11, 12, 13, 14, 15, 23, 24, 25, 26, 27, 28, 29, 30, 31, 32, 33, 34, 35, 36, 37, 38, 39] (by decide +kernel) (by decide +kernel)
set_option maxRecDepth 20000 in
theorem gX6_same_X6_classAt : GoodIn wsX6_same (wsV RX6 120 RX6 yX6_classAt wsX6_classAt) := goodIn_app (goodIn_of _ (by decide +kernel)) ggX6_same_X6_classAt
set_option maxRecDepth 20000 in
theorem ggX6_same_X6_numberAt : GoodIn wsX6_same wsX6_numberAt := goodIn_ca (goodIn_r _ [18] (by decide +kernel) (by decide +kernel)) (goodIn_sub (fun _ h => List.mem_cons_of_mem _ (List.mem_append_right _ h)) (by decide +kernel))
set_option maxRecDepth 20000 in
theorem gX6_same_X6_numberAt : GoodIn wsX6_same (va_wsS RX6 112 yX6_numberAt wsX6_numberAt) := goodIn_app (goodIn_of _ (by decide +kernel)) ggX6_same_X6_numberAt
set_option maxRecDepth 20000 in
theorem ggX6_handle_X6_classAt : GoodIn wsX6_handle wsX6_classAt := goodIn_r _ [7, 8, 9, 10, 6, 11, 12, 13, 14, 15, 16, 17, 32, 33, 34, 35, 36, 37, 38, 39, 40, 41, 42, 43, 44, 45, 46, 47, 48] (by decide +kernel) (by decide +kernel)
set_option maxRecDepth 20000 in
theorem gX6_handle_X6_classAt : GoodIn wsX6_handle (wsV RX6 120 RX6 yX6_classAt wsX6_classAt) := goodIn_app (goodIn_of _ (by decide +kernel)) ggX6_handle_X6_classAt
set_option maxRecDepth 20000 in
theorem ggX6_handle_X6_controllerAt : GoodIn wsX6_handle wsX6_controllerAt := goodIn_r _ [11, 12, 32, 33, 34, 35, 36, 37, 38, 39] (by decide +kernel) (by decide +kernel)
set_option maxRecDepth 20000 in
theorem gX6_handle_X6_controllerAt : GoodIn wsX6_handle (wsV RX6 76 RX6 yX6_controllerAt wsX6_controllerAt) := goodIn_app (goodIn_of _ (by decide +kernel)) ggX6_handle_X6_controllerAt
set_option maxRecDepth 20000 in
theorem ggX6_handle_X6_newestOf : GoodIn wsX6_handle wsX6_newestOf := goodIn_r _ [21, 22, 32, 33, 34, 35, 36, 37, 38, 39] (by decide +kernel) (by decide +kernel)
set_option maxRecDepth 20000 in
theorem gX6_handle_X6_newestOf : GoodIn wsX6_handle (wsV RX6 58 RX6 yX6_newestOf wsX6_newestOf) := goodIn_app (goodIn_of _ (by decide +kernel)) ggX6_handle_X6_newestOf
set_option maxRecDepth 20000 in
theorem ggX6_handle_X6_refuse : GoodIn wsX6_handle wsX6_refuse := goodIn_r _ [26, 27, 32, 33, 34, 35, 36, 37, 38, 39] (by decide +kernel) (by decide +kernel)
set_option maxRecDepth 20000 in
theorem gX6_handle_X6_refuse : GoodIn wsX6_handle (wsV RX6 47 RX6 yX6_refuse wsX6_refuse) := goodIn_app (goodIn_of _ (by decide +kernel)) ggX6_handle_X6_refuse
set_option maxRecDepth 20000 in
theorem ggX6_octet_X6_newestOf : GoodIn wsX6_octet wsX6_newestOf := goodIn_r _ [8, 9, 20, 21, 22, 23, 24, 25, 26, 27] (by decide +kernel) (by decide +kernel)
set_option maxRecDepth 20000 in
theorem gX6_octet_X6_newestOf : GoodIn wsX6_octet (wsV RX6 58 RX6 yX6_newestOf wsX6_newestOf) := goodIn_app (goodIn_of _ (by decide +kernel)) ggX6_octet_X6_newestOf
set_option maxRecDepth 20000 in
theorem ggX6_classAt_X6_controllerAt : GoodIn wsX6_classAt wsX6_controllerAt := goodIn_r _ [5, 6, 12, 13, 14, 15, 16, 17, 18, 19] (by decide +kernel) (by decide +kernel)
set_option maxRecDepth 20000 in
theorem gX6_classAt_X6_controllerAt : GoodIn wsX6_classAt (wsV RX6 76 RX6 yX6_controllerAt wsX6_controllerAt) := goodIn_app (goodIn_of _ (by decide +kernel)) ggX6_classAt_X6_controllerAt
set_option maxRecDepth 20000 in
theorem ggX6_classAt_X1_classOf : GoodIn wsX6_classAt wsX1_classOf := goodIn_r _ [10, 11, 20, 21, 22, 23, 24, 25, 26, 27, 28] (by decide +kernel) (by decide +kernel)
set_option maxRecDepth 20000 in
theorem gX6_classAt_X1_classOf_n84 : GoodIn wsX6_classAt (wsX1_classOf) := ggX6_classAt_X1_classOf
set_option maxRecDepth 20000 in
theorem ggX6_addRunnable_X6_refuse : GoodIn wsX6_addRunnable wsX6_refuse := goodIn_r _ [6, 7, 61, 62, 63, 64, 65, 66, 67, 68] (by decide +kernel) (by decide +kernel)
set_option maxRecDepth 20000 in
theorem gX6_addRunnable_X6_refuse : GoodIn wsX6_addRunnable (wsV RX6 47 RX6 yX6_refuse wsX6_refuse) := goodIn_app (goodIn_of _ (by decide +kernel)) ggX6_addRunnable_X6_refuse
set_option maxRecDepth 20000 in
theorem ggX6_addRunnable_X6_keepEdition : GoodIn wsX6_addRunnable wsX6_keepEdition := goodIn_ca (goodIn_r _ [11, 12, 13, 14, 15, 16, 17, 18, 19, 5, 20, 21, 22, 23, 24, 25, 26, 27, 28, 29, 30, 31, 32, 33, 34, 35, 36, 37, 38, 39, 40, 41, 42, 43, 44, 45, 46, 47, 48, 49, 50, 51, 52, 53, 54, 55, 56, 57, 58, 59, 60, 61, 62, 63, 64, 65, 66, 67, 68, 69, 70, 71, 72] (by decide +kernel) (by decide +kernel)) (goodIn_sub (fun _ h => List.mem_cons_of_mem _ (List.mem_append_right _ h)) (by decide +kernel))
set_option maxRecDepth 20000 in
theorem gX6_addRunnable_X6_keepEdition : GoodIn wsX6_addRunnable (wsV RX6 184 RX6 yX6_keepEdition wsX6_keepEdition) := goodIn_app (goodIn_of _ (by decide +kernel)) ggX6_addRunnable_X6_keepEdition
set_option maxRecDepth 20000 in
theorem ggX6_addEdition_X6_refuse : GoodIn wsX6_addEdition wsX6_refuse := goodIn_r _ [5, 6, 60, 61, 62, 63, 64, 65, 66, 67] (by decide +kernel) (by decide +kernel)
set_option maxRecDepth 20000 in
theorem gX6_addEdition_X6_refuse : GoodIn wsX6_addEdition (wsV RX6 47 RX6 yX6_refuse wsX6_refuse) := goodIn_app (goodIn_of _ (by decide +kernel)) ggX6_addEdition_X6_refuse
set_option maxRecDepth 20000 in
theorem ggX6_addEdition_X6_keepEdition : GoodIn wsX6_addEdition wsX6_keepEdition := goodIn_ca (goodIn_r _ [10, 11, 12, 13, 14, 15, 16, 17, 18, 4, 19, 20, 21, 22, 23, 24, 25, 26, 27, 28, 29, 30, 31, 32, 33, 34, 35, 36, 37, 38, 39, 40, 41, 42, 43, 44, 45, 46, 47, 48, 49, 50, 51, 52, 53, 54, 55, 56, 57, 58, 59, 60, 61, 62, 63, 64, 65, 66, 67, 68, 69, 70, 71] (by decide +kernel) (by decide +kernel)) (goodIn_sub (fun _ h => List.mem_cons_of_mem _ (List.mem_append_right _ h)) (by decide +kernel))
set_option maxRecDepth 20000 in
theorem gX6_addEdition_X6_keepEdition : GoodIn wsX6_addEdition (wsV RX6 184 RX6 yX6_keepEdition wsX6_keepEdition) := goodIn_app (goodIn_of _ (by decide +kernel)) ggX6_addEdition_X6_keepEdition
set_option maxRecDepth 20000 in
theorem ggX6_keepEdition_X6_copyOf : GoodIn wsX6_keepEdition wsX6_copyOf := goodIn_r _ [10, 11, 12, 13, 14, 15, 16, 17, 18, 19, 20, 21, 22, 23, 24, 25, 26, 27, 28, 29, 30, 31, 32, 33, 34, 35] (by decide +kernel) (by decide +kernel)
set_option maxRecDepth 20000 in
theorem gX6_keepEdition_X6_copyOf : GoodIn wsX6_keepEdition (va_wsS RX6 187 yX6_copyOf wsX6_copyOf) := goodIn_app (goodIn_of _ (by decide +kernel)) ggX6_keepEdition_X6_copyOf
set_option maxRecDepth 20000 in
theorem ggX6_keepEdition_X6_codeOf : GoodIn wsX6_keepEdition wsX6_codeOf := goodIn_ca (goodIn_r _ [38, 39, 40, 9, 41, 7, 8, 10, 11, 12, 13, 14, 15, 16, 17, 18, 19, 20, 21, 22, 23, 24, 25, 26, 27, 28, 29, 30, 31, 32, 33, 34, 35] (by decide +kernel) (by decide +kernel)) (goodIn_sub (fun _ h => List.mem_cons_of_mem _ (List.mem_append_right _ h)) (by decide +kernel))
set_option maxRecDepth 20000 in
theorem gX6_keepEdition_X6_codeOf : GoodIn wsX6_keepEdition (va_wsS RX6 191 yX6_codeOf wsX6_codeOf) := goodIn_app (goodIn_of _ (by decide +kernel)) ggX6_keepEdition_X6_codeOf
set_option maxRecDepth 20000 in
theorem ggX6_keepEdition_X2_init : GoodIn wsX6_keepEdition wsX2_init := goodIn_r _ [43, 44, 45, 46, 47, 48, 49, 50, 59, 60, 61, 62] (by decide +kernel) (by decide +kernel)
set_option maxRecDepth 20000 in
theorem gX6_keepEdition_X2_init_n195 : GoodIn wsX6_keepEdition (wsX2_init) := ggX6_keepEdition_X2_init
set_option maxRecDepth 20000 in
theorem ggX6_callStart_X1_classOf : GoodIn wsX6_callStart wsX1_classOf := goodIn_r _ [4, 5, 82, 83, 84, 85, 86, 87, 88, 89, 90] (by decide +kernel) (by decide +kernel)
set_option maxRecDepth 20000 in
theorem gX6_callStart_X1_classOf_n84 : GoodIn wsX6_callStart (wsX1_classOf) := ggX6_callStart_X1_classOf
set_option maxRecDepth 20000 in
theorem ggX6_callStart_X6_newestOf : GoodIn wsX6_callStart wsX6_newestOf := goodIn_r _ [10, 11, 91, 92, 93, 94, 95, 96, 97, 98] (by decide +kernel) (by decide +kernel)
set_option maxRecDepth 20000 in
theorem gX6_callStart_X6_newestOf : GoodIn wsX6_callStart (wsV RX6 58 RX6 yX6_newestOf wsX6_newestOf) := goodIn_app (goodIn_of _ (by decide +kernel)) ggX6_callStart_X6_newestOf
set_option maxRecDepth 20000 in
theorem ggX6_callStart_X6_call : GoodIn wsX6_callStart wsX6_call := goodIn_ca (goodIn_ca (goodIn_r _ [15, 16, 17, 18, 19, 20, 21, 22, 23, 24, 25, 26, 27, 28, 29, 30, 31, 32, 33, 34, 9, 35, 36, 37, 38, 39, 40, 41, 42, 43, 44, 45, 46, 47, 48, 49, 50, 51, 52, 53, 54, 55, 56, 57, 58, 59, 60, 61, 62, 63, 64, 65, 66, 67, 68, 69, 70, 71, 72, 73, 91, 92, 93, 94, 95, 96, 97, 98, 82, 83, 84, 85, 86, 87, 88, 89, 90, 74, 75, 76, 77, 99, 100, 101, 102, 103, 104, 105, 106, 107, 108, 109] (by decide +kernel) (by decide +kernel)) (goodIn_sub (fun _ h => List.mem_cons_of_mem _ (List.mem_append_left _ (List.mem_append_right _ h))) (by decide +kernel))) (goodIn_sub (fun _ h => List.mem_cons_of_mem _ (List.mem_append_right _ h)) (by decide +kernel))
set_option maxRecDepth 20000 in
theorem gX6_callStart_X6_call : GoodIn wsX6_callStart (wsV RX6 201 RX6 yX6_call wsX6_call) := goodIn_app (goodIn_of _ (by decide +kernel)) ggX6_callStart_X6_call
set_option maxRecDepth 20000 in
theorem ggX6_callRun_X6_controllerAt : GoodIn wsX6_callRun wsX6_controllerAt := goodIn_r _ [7, 8, 112, 113, 114, 115, 116, 117, 118, 119] (by decide +kernel) (by decide +kernel)
set_option maxRecDepth 20000 in
theorem gX6_callRun_X6_controllerAt : GoodIn wsX6_callRun (wsV RX6 76 RX6 yX6_controllerAt wsX6_controllerAt) := goodIn_app (goodIn_of _ (by decide +kernel)) ggX6_callRun_X6_controllerAt
set_option maxRecDepth 20000 in
theorem ggX6_callRun_X6_newestOf : GoodIn wsX6_callRun wsX6_newestOf := goodIn_r _ [12, 13, 112, 113, 114, 115, 116, 117, 118, 119] (by decide +kernel) (by decide +kernel)
set_option maxRecDepth 20000 in
theorem gX6_callRun_X6_newestOf : GoodIn wsX6_callRun (wsV RX6 58 RX6 yX6_newestOf wsX6_newestOf) := goodIn_app (goodIn_of _ (by decide +kernel)) ggX6_callRun_X6_newestOf
set_option maxRecDepth 20000 in
theorem ggX6_callRun_X6_refuse : GoodIn wsX6_callRun wsX6_refuse := goodIn_r _ [17, 18, 112, 113, 114, 115, 116, 117, 118, 119] (by decide +kernel) (by decide +kernel)
set_option maxRecDepth 20000 in
theorem gX6_callRun_X6_refuse : GoodIn wsX6_callRun (wsV RX6 47 RX6 yX6_refuse wsX6_refuse) := goodIn_app (goodIn_of _ (by decide +kernel)) ggX6_callRun_X6_refuse
set_option maxRecDepth 20000 in
theorem ggX6_callRun_X1_classOf : GoodIn wsX6_callRun wsX1_classOf := goodIn_r _ [22, 23, 95, 96, 97, 98, 99, 100, 101, 102, 103] (by decide +kernel) (by decide +kernel)
set_option maxRecDepth 20000 in
theorem gX6_callRun_X1_classOf_n84 : GoodIn wsX6_callRun (wsX1_classOf) := ggX6_callRun_X1_classOf
set_option maxRecDepth 20000 in
theorem ggX6_callRun_X5_goOnCopies : GoodIn wsX6_callRun wsX5_goOnCopies := goodIn_ca (goodIn_ca (goodIn_r _ [27, 28, 29, 30, 6, 31, 32, 33, 34, 25, 35, 36, 37, 38, 39, 40, 41, 42, 43, 44, 45, 46, 47, 48, 49, 50, 51, 52, 53, 54, 55, 56, 57, 58, 59, 60, 61, 62, 63, 64, 65, 66, 67, 68, 69, 70, 71, 72, 73, 74, 75, 76, 77, 78, 79, 80, 81, 82, 83, 84, 85, 86, 87, 120, 121, 122, 123, 124, 125, 126, 127, 128, 129, 130] (by decide +kernel) (by decide +kernel)) (goodIn_sub (fun _ h => List.mem_cons_of_mem _ (List.mem_append_left _ (List.mem_append_right _ h))) (by decide +kernel))) (goodIn_sub (fun _ h => List.mem_cons_of_mem _ (List.mem_append_right _ h)) (by decide +kernel))
set_option maxRecDepth 20000 in
theorem gX6_callRun_X5_goOnCopies_n211 : GoodIn wsX6_callRun (wsX5_goOnCopies) := ggX6_callRun_X5_goOnCopies
set_option maxRecDepth 20000 in
theorem ggX6_callRun_X6_call : GoodIn wsX6_callRun wsX6_call := goodIn_ca (goodIn_ca (goodIn_r _ [91, 1, 2, 33, 25, 34, 35, 36, 37, 38, 39, 40, 41, 42, 43, 44, 45, 46, 47, 48, 6, 49, 50, 51, 52, 53, 54, 55, 56, 57, 58, 59, 60, 61, 62, 63, 64, 65, 66, 67, 68, 69, 70, 71, 72, 73, 74, 75, 76, 77, 78, 79, 80, 81, 82, 83, 84, 85, 86, 87, 112, 113, 114, 115, 116, 117, 118, 119, 95, 96, 97, 98, 99, 100, 101, 102, 103, 104, 105, 106, 107, 120, 121, 122, 123, 124, 125, 126, 127, 128, 129, 130] (by decide +kernel) (by decide +kernel)) (goodIn_sub (fun _ h => List.mem_cons_of_mem _ (List.mem_append_left _ (List.mem_append_right _ h))) (by decide +kernel))) (goodIn_sub (fun _ h => List.mem_cons_of_mem _ (List.mem_append_right _ h)) (by decide +kernel))
set_option maxRecDepth 20000 in
theorem gX6_callRun_X6_call : GoodIn wsX6_callRun (wsV RX6 201 RX6 yX6_call wsX6_call) := goodIn_app (goodIn_of _ (by decide +kernel)) ggX6_callRun_X6_call
set_option maxRecDepth 20000 in
theorem ggX6_callRun_X6_react : GoodIn wsX6_callRun wsX6_react := goodIn_r _ [94, 95, 96, 97, 98, 99, 100, 101, 102, 103, 104, 105, 106, 107] (by decide +kernel) (by decide +kernel)
set_option maxRecDepth 20000 in
theorem gX6_callRun_X6_react : GoodIn wsX6_callRun (va_wsS RX6 215 yX6_react wsX6_react) := goodIn_app (goodIn_of _ (by decide +kernel)) ggX6_callRun_X6_react
set_option maxRecDepth 20000 in
theorem ggX6_call_X5_go : GoodIn wsX6_call wsX5_go := goodIn_ca (goodIn_ca (goodIn_r _ [6, 7, 8, 9, 10, 11, 12, 13, 14, 15, 16, 17, 4, 18, 19, 20, 21, 22, 23, 24, 25, 26, 27, 28, 29, 30, 31, 32, 33, 34, 35, 36, 37, 38, 39, 40, 41, 42, 43, 44, 45, 46, 47, 48, 49, 50, 51, 52, 53, 54, 55, 56, 57, 58, 59, 81, 82, 83, 84, 85, 86, 87, 88, 89, 90, 91] (by decide +kernel) (by decide +kernel)) (goodIn_sub (fun _ h => List.mem_cons_of_mem _ (List.mem_append_left _ (List.mem_append_right _ h))) (by decide +kernel))) (goodIn_sub (fun _ h => List.mem_cons_of_mem _ (List.mem_append_right _ h)) (by decide +kernel))
set_option maxRecDepth 20000 in
theorem gX6_call_X5_go_n219 : GoodIn wsX6_call (wsX5_go) := ggX6_call_X5_go
set_option maxRecDepth 20000 in
theorem ggX6_isRight_X6_octetAt : GoodIn wsX6_isRight wsX6_octetAt := goodIn_ca (goodIn_r _ [4] (by decide +kernel) (by decide +kernel)) (goodIn_sub (fun _ h => List.mem_cons_of_mem _ (List.mem_append_right _ h)) (by decide +kernel))
set_option maxRecDepth 20000 in
theorem gX6_isRight_X6_octetAt : GoodIn wsX6_isRight (va_wsS RX6 229 yX6_octetAt wsX6_octetAt) := goodIn_app (goodIn_of _ (by decide +kernel)) ggX6_isRight_X6_octetAt
set_option maxRecDepth 20000 in
theorem ggX6_codeOf_X6_octetAt : GoodIn wsX6_codeOf wsX6_octetAt := goodIn_ca (goodIn_r _ [4] (by decide +kernel) (by decide +kernel)) (goodIn_sub (fun _ h => List.mem_cons_of_mem _ (List.mem_append_right _ h)) (by decide +kernel))
set_option maxRecDepth 20000 in
theorem gX6_codeOf_X6_octetAt : GoodIn wsX6_codeOf (va_wsS RX6 229 yX6_octetAt wsX6_octetAt) := goodIn_app (goodIn_of _ (by decide +kernel)) ggX6_codeOf_X6_octetAt
set_option maxRecDepth 20000 in
theorem ggX6_codeOf_X6_copyOf : GoodIn wsX6_codeOf wsX6_copyOf := goodIn_r _ [7, 8, 9, 10, 11, 12, 13, 14, 15, 16, 17, 18, 19, 20, 21, 22, 23, 24, 25, 26, 27, 28, 29, 30, 31, 32] (by decide +kernel) (by decide +kernel)
set_option maxRecDepth 20000 in
theorem gX6_codeOf_X6_copyOf : GoodIn wsX6_codeOf (va_wsS RX6 187 yX6_copyOf wsX6_copyOf) := goodIn_app (goodIn_of _ (by decide +kernel)) ggX6_codeOf_X6_copyOf
set_option maxRecDepth 20000 in
theorem ggX6_copyOf_J7_copyOfRange_39247 : GoodIn wsX6_copyOf wsJ7_copyOfRange_39247 := goodIn_r _ [5, 6, 7, 8, 9, 10, 11, 12, 13, 4, 14, 1, 15, 16, 17, 18, 19, 20, 21, 22, 23, 24, 25] (by decide +kernel) (by decide +kernel)
set_option maxRecDepth 20000 in
theorem gX6_copyOf_J7_copyOfRange_39247 : GoodIn wsX6_copyOf (va_wsS RX6 233 yJ7_copyOfRange_39247 wsJ7_copyOfRange_39247) := goodIn_app (goodIn_of _ (by decide +kernel)) ggX6_copyOf_J7_copyOfRange_39247
set_option maxRecDepth 20000 in
theorem ggX7_file_X7_in : GoodIn wsX7_file wsX7_in := goodIn_r _ [7] (by decide +kernel) (by decide +kernel)
set_option maxRecDepth 20000 in
theorem gX7_file_X7_in : GoodIn wsX7_file (va_wsS RX7 96 yX7_in wsX7_in) := goodIn_app (goodIn_of _ (by decide +kernel)) ggX7_file_X7_in
set_option maxRecDepth 20000 in
theorem ggX7_file_X7_refuse : GoodIn wsX7_file wsX7_refuse := goodIn_r _ [11, 12, 13, 14, 15, 16, 17, 18, 19, 20, 21, 22, 23, 24, 25, 26, 27, 28, 29, 30, 31, 32, 33, 34, 35, 36, 37, 38, 39, 40, 41, 42, 43, 44, 45] (by decide +kernel) (by decide +kernel)
set_option maxRecDepth 20000 in
theorem gX7_file_X7_refuse : GoodIn wsX7_file (wsV RX7 100 RX7 yX7_refuse wsX7_refuse) := goodIn_app (goodIn_of _ (by decide +kernel)) ggX7_file_X7_refuse
set_option maxRecDepth 20000 in
theorem ggX7_cutUp_X7_in : GoodIn wsX7_cutUp wsX7_in := goodIn_r _ [10] (by decide +kernel) (by decide +kernel)
set_option maxRecDepth 20000 in
theorem gX7_cutUp_X7_in : GoodIn wsX7_cutUp (va_wsS RX7 96 yX7_in wsX7_in) := goodIn_app (goodIn_of _ (by decide +kernel)) ggX7_cutUp_X7_in
set_option maxRecDepth 20000 in
theorem ggX7_runnable_X7_in : GoodIn wsX7_runnable wsX7_in := goodIn_r _ [11] (by decide +kernel) (by decide +kernel)
set_option maxRecDepth 20000 in
theorem gX7_runnable_X7_in : GoodIn wsX7_runnable (va_wsS RX7 96 yX7_in wsX7_in) := goodIn_app (goodIn_of _ (by decide +kernel)) ggX7_runnable_X7_in
set_option maxRecDepth 20000 in
theorem ggX7_runnable_X7_refuse : GoodIn wsX7_runnable wsX7_refuse := goodIn_r _ [15, 16, 36, 37, 38, 39, 40, 41, 42, 43, 44, 45, 46, 47, 48, 49, 50, 51, 52, 53, 54, 55, 56, 57, 58, 59, 60, 61, 62, 63, 64, 65, 66, 67, 68] (by decide +kernel) (by decide +kernel)
set_option maxRecDepth 20000 in
theorem gX7_runnable_X7_refuse : GoodIn wsX7_runnable (wsV RX7 100 RX7 yX7_refuse wsX7_refuse) := goodIn_app (goodIn_of _ (by decide +kernel)) ggX7_runnable_X7_refuse
set_option maxRecDepth 20000 in
theorem ggX7_runnable_X7_isRight : GoodIn wsX7_runnable wsX7_isRight := goodIn_ca (goodIn_r _ [20, 4, 6, 8, 9, 10, 11, 36, 37, 38, 39, 40, 41, 42, 43, 44, 45, 46, 47, 48, 49, 50, 51, 52, 53, 54, 55, 56, 57, 58, 59, 60, 61, 62, 63, 64, 65, 66, 67, 68] (by decide +kernel) (by decide +kernel)) (goodIn_sub (fun _ h => List.mem_cons_of_mem _ (List.mem_append_right _ h)) (by decide +kernel))
set_option maxRecDepth 20000 in
theorem gX7_runnable_X7_isRight : GoodIn wsX7_runnable (wsV RX7 110 RX7 yX7_isRight wsX7_isRight) := goodIn_app (goodIn_of _ (by decide +kernel)) ggX7_runnable_X7_isRight
set_option maxRecDepth 20000 in
theorem ggX7_runnable_X7_empties : GoodIn wsX7_runnable wsX7_empties := goodIn_r _ [24, 4, 12, 13, 14, 10, 15, 16, 36, 37, 38, 39, 40, 41, 42, 43, 44, 45, 46, 47, 48, 49, 50, 51, 52, 53, 54, 55, 56, 57, 58, 59, 60, 61, 62, 63, 64, 65, 66, 67, 68] (by decide +kernel) (by decide +kernel)
set_option maxRecDepth 20000 in
theorem gX7_runnable_X7_empties : GoodIn wsX7_runnable (wsV RX7 114 RX7 yX7_empties wsX7_empties) := goodIn_app (goodIn_of _ (by decide +kernel)) ggX7_runnable_X7_empties
set_option maxRecDepth 20000 in
theorem ggX7_runnable_X7_place : GoodIn wsX7_runnable wsX7_place := goodIn_r _ [27] (by decide +kernel) (by decide +kernel)
set_option maxRecDepth 20000 in
theorem gX7_runnable_X7_place : GoodIn wsX7_runnable (va_wsS RX7 118 yX7_place wsX7_place) := goodIn_app (goodIn_of _ (by decide +kernel)) ggX7_runnable_X7_place
set_option maxRecDepth 20000 in
theorem ggX7_runnable_X7_cutUp : GoodIn wsX7_runnable wsX7_cutUp := goodIn_ca (goodIn_r _ [31, 4, 6, 32, 33, 34, 35, 8, 9, 10, 11, 36, 37, 38, 39, 40, 41, 42, 43, 44, 45, 46, 47, 48, 49, 50, 51, 52, 53, 54, 55, 56, 57, 58, 59, 60, 61, 62, 63, 64, 65, 66, 67, 68] (by decide +kernel) (by decide +kernel)) (goodIn_sub (fun _ h => List.mem_cons_of_mem _ (List.mem_append_right _ h)) (by decide +kernel))
set_option maxRecDepth 20000 in
theorem gX7_runnable_X7_cutUp : GoodIn wsX7_runnable (wsV RX7 122 RX7 yX7_cutUp wsX7_cutUp) := goodIn_app (goodIn_of _ (by decide +kernel)) ggX7_runnable_X7_cutUp
set_option maxRecDepth 20000 in
theorem ggX7_empties_X7_refuse : GoodIn wsX7_empties wsX7_refuse := goodIn_r _ [6, 7, 8, 9, 10, 11, 12, 13, 14, 15, 16, 17, 18, 19, 20, 21, 22, 23, 24, 25, 26, 27, 28, 29, 30, 31, 32, 33, 34, 35, 36, 37, 38, 39, 40] (by decide +kernel) (by decide +kernel)
set_option maxRecDepth 20000 in
theorem gX7_empties_X7_refuse : GoodIn wsX7_empties (wsV RX7 100 RX7 yX7_refuse wsX7_refuse) := goodIn_app (goodIn_of _ (by decide +kernel)) ggX7_empties_X7_refuse
set_option maxRecDepth 20000 in
theorem ggX7_isRight_X7_in : GoodIn wsX7_isRight wsX7_in := goodIn_r _ [6] (by decide +kernel) (by decide +kernel)
set_option maxRecDepth 20000 in
theorem gX7_isRight_X7_in : GoodIn wsX7_isRight (va_wsS RX7 96 yX7_in wsX7_in) := goodIn_app (goodIn_of _ (by decide +kernel)) ggX7_isRight_X7_in
set_option maxRecDepth 20000 in
theorem ggX7_isController_X7_in : GoodIn wsX7_isController wsX7_in := goodIn_r _ [4] (by decide +kernel) (by decide +kernel)
set_option maxRecDepth 20000 in
theorem gX7_isController_X7_in : GoodIn wsX7_isController (va_wsS RX7 96 yX7_in wsX7_in) := goodIn_app (goodIn_of _ (by decide +kernel)) ggX7_isController_X7_in
set_option maxRecDepth 20000 in
theorem ggX7_isRunnable_X7_in : GoodIn wsX7_isRunnable wsX7_in := goodIn_r _ [5] (by decide +kernel) (by decide +kernel)
set_option maxRecDepth 20000 in
theorem gX7_isRunnable_X7_in : GoodIn wsX7_isRunnable (va_wsS RX7 96 yX7_in wsX7_in) := goodIn_app (goodIn_of _ (by decide +kernel)) ggX7_isRunnable_X7_in
set_option maxRecDepth 20000 in
theorem ggX7_hasClass_X7_isController : GoodIn wsX7_hasClass wsX7_isController := goodIn_r _ [6, 7, 8, 5, 9] (by decide +kernel) (by decide +kernel)
set_option maxRecDepth 20000 in
theorem gX7_hasClass_X7_isController : GoodIn wsX7_hasClass (wsV RX7 126 RX7 yX7_isController wsX7_isController) := goodIn_app (goodIn_of _ (by decide +kernel)) ggX7_hasClass_X7_isController
set_option maxRecDepth 20000 in
theorem ggX7_hasClass_X7_isRunnable : GoodIn wsX7_hasClass wsX7_isRunnable := goodIn_r _ [13, 14, 7, 8, 5, 9, 18, 19, 20, 21, 22, 23, 24, 25, 26, 27, 28, 29, 30, 31, 32, 33, 34, 35, 36, 37, 38, 39, 40, 41, 42, 43, 44, 45, 46, 47, 48, 49, 50] (by decide +kernel) (by decide +kernel)
set_option maxRecDepth 20000 in
theorem gX7_hasClass_X7_isRunnable : GoodIn wsX7_hasClass (wsV RX7 129 RX7 yX7_isRunnable wsX7_isRunnable) := goodIn_app (goodIn_of _ (by decide +kernel)) ggX7_hasClass_X7_isRunnable
set_option maxRecDepth 20000 in
theorem ggX7_hasClass_X7_at : GoodIn wsX7_hasClass wsX7_at := goodIn_r _ [17] (by decide +kernel) (by decide +kernel)
set_option maxRecDepth 20000 in
theorem gX7_hasClass_X7_at : GoodIn wsX7_hasClass (va_wsS RX7 132 yX7_at wsX7_at) := goodIn_app (goodIn_of _ (by decide +kernel)) ggX7_hasClass_X7_at
set_option maxRecDepth 20000 in
theorem ggX7_make_X7_isController : GoodIn wsX7_make wsX7_isController := goodIn_r _ [8, 9, 10, 7, 11] (by decide +kernel) (by decide +kernel)
set_option maxRecDepth 20000 in
theorem gX7_make_X7_isController : GoodIn wsX7_make (wsV RX7 126 RX7 yX7_isController wsX7_isController) := goodIn_app (goodIn_of _ (by decide +kernel)) ggX7_make_X7_isController
set_option maxRecDepth 20000 in
theorem ggX7_make_X7_isRunnable : GoodIn wsX7_make wsX7_isRunnable := goodIn_r _ [15, 16, 9, 10, 7, 11, 33, 34, 35, 36, 37, 38, 39, 40, 41, 42, 43, 44, 45, 46, 47, 48, 49, 50, 51, 52, 53, 54, 55, 56, 57, 58, 59, 60, 61, 62, 63, 64, 65] (by decide +kernel) (by decide +kernel)
set_option maxRecDepth 20000 in
theorem gX7_make_X7_isRunnable : GoodIn wsX7_make (wsV RX7 129 RX7 yX7_isRunnable wsX7_isRunnable) := goodIn_app (goodIn_of _ (by decide +kernel)) ggX7_make_X7_isRunnable
set_option maxRecDepth 20000 in
theorem ggX7_make_X7_refuse : GoodIn wsX7_make wsX7_refuse := goodIn_r _ [20, 21, 33, 34, 35, 36, 37, 38, 39, 40, 41, 42, 43, 44, 45, 46, 47, 48, 49, 50, 51, 52, 53, 54, 55, 56, 57, 58, 59, 60, 61, 62, 63, 64, 65] (by decide +kernel) (by decide +kernel)
set_option maxRecDepth 20000 in
theorem gX7_make_X7_refuse : GoodIn wsX7_make (wsV RX7 100 RX7 yX7_refuse wsX7_refuse) := goodIn_app (goodIn_of _ (by decide +kernel)) ggX7_make_X7_refuse
set_option maxRecDepth 20000 in
theorem ggX7_make_X7_at : GoodIn wsX7_make wsX7_at := goodIn_r _ [24] (by decide +kernel) (by decide +kernel)
set_option maxRecDepth 20000 in
theorem gX7_make_X7_at : GoodIn wsX7_make (va_wsS RX7 132 yX7_at wsX7_at) := goodIn_app (goodIn_of _ (by decide +kernel)) ggX7_make_X7_at
set_option maxRecDepth 20000 in
theorem ggX7_make_X7_renew : GoodIn wsX7_make wsX7_renew := goodIn_ca (goodIn_r _ [28, 3, 29, 30, 31, 32, 33, 34, 35, 36, 37, 38, 39, 40, 41, 42, 43, 44, 45, 46, 47, 48, 49, 50, 51, 52, 53, 54, 55, 56, 57, 58, 59, 60, 61, 62, 63, 64, 65] (by decide +kernel) (by decide +kernel)) (goodIn_sub (fun _ h => List.mem_cons_of_mem _ (List.mem_append_right _ h)) (by decide +kernel))
set_option maxRecDepth 20000 in
theorem gX7_make_X7_renew : GoodIn wsX7_make (wsV RX7 135 RX7 yX7_renew wsX7_renew) := goodIn_app (goodIn_of _ (by decide +kernel)) ggX7_make_X7_renew
set_option maxRecDepth 20000 in
theorem ggX7_call_X7_at : GoodIn wsX7_call wsX7_at := goodIn_r _ [11] (by decide +kernel) (by decide +kernel)
set_option maxRecDepth 20000 in
theorem gX7_call_X7_at : GoodIn wsX7_call (va_wsS RX7 132 yX7_at wsX7_at) := goodIn_app (goodIn_of _ (by decide +kernel)) ggX7_call_X7_at
set_option maxRecDepth 20000 in
theorem ggX7_call_X7_place : GoodIn wsX7_call wsX7_place := goodIn_r _ [14] (by decide +kernel) (by decide +kernel)
set_option maxRecDepth 20000 in
theorem gX7_call_X7_place : GoodIn wsX7_call (va_wsS RX7 118 yX7_place wsX7_place) := goodIn_app (goodIn_of _ (by decide +kernel)) ggX7_call_X7_place
set_option maxRecDepth 20000 in
theorem ggX7_call_X7_in : GoodIn wsX7_call wsX7_in := goodIn_r _ [17] (by decide +kernel) (by decide +kernel)
set_option maxRecDepth 20000 in
theorem gX7_call_X7_in : GoodIn wsX7_call (va_wsS RX7 96 yX7_in wsX7_in) := goodIn_app (goodIn_of _ (by decide +kernel)) ggX7_call_X7_in
set_option maxRecDepth 20000 in
theorem ggX7_call_X7_take : GoodIn wsX7_call wsX7_take := goodIn_ca (goodIn_r _ [21, 2, 22, 44, 45, 46, 47, 48, 49, 50, 51, 52, 53, 54, 55, 56, 57, 58, 59, 60, 61, 62, 63, 64, 65, 66, 67, 68, 69, 70, 71, 72, 73, 74, 75, 76] (by decide +kernel) (by decide +kernel)) (goodIn_sub (fun _ h => List.mem_cons_of_mem _ (List.mem_append_left _ (List.mem_append_right _ h))) (by decide +kernel))
set_option maxRecDepth 20000 in
theorem gX7_call_X7_take : GoodIn wsX7_call (wsV RX7 151 RX7 yX7_take wsX7_take) := goodIn_app (goodIn_of _ (by decide +kernel)) ggX7_call_X7_take
set_option maxRecDepth 20000 in
theorem ggX7_call_X7_move : GoodIn wsX7_call wsX7_move := goodIn_ca (goodIn_r _ [26, 27, 28, 29, 30, 31, 10, 32, 22, 2, 18, 19, 20, 21, 44, 45, 46, 47, 48, 49, 50, 51, 52, 53, 54, 55, 56, 57, 58, 59, 60, 61, 62, 63, 64, 65, 66, 67, 68, 69, 70, 71, 72, 73, 74, 75, 76] (by decide +kernel) (by decide +kernel)) (goodIn_sub (fun _ h => List.mem_cons_of_mem _ (List.mem_append_left _ (List.mem_append_right _ h))) (by decide +kernel))
set_option maxRecDepth 20000 in
theorem gX7_call_X7_move : GoodIn wsX7_call (wsV RX7 155 RX7 yX7_move wsX7_move) := goodIn_app (goodIn_of _ (by decide +kernel)) ggX7_call_X7_move
set_option maxRecDepth 20000 in
theorem ggX7_call_X7_reckon : GoodIn wsX7_call wsX7_reckon := goodIn_ca (goodIn_ca (goodIn_r _ [36, 18, 19, 20, 10, 21, 2, 22, 29, 30, 31, 32, 44, 45, 46, 47, 48, 49, 50, 51, 52, 53, 54, 55, 56, 57, 58, 59, 60, 61, 62, 63, 64, 65, 66, 67, 68, 69, 70, 71, 72, 73, 74, 75, 76] (by decide +kernel) (by decide +kernel)) (goodIn_sub (fun _ h => List.mem_cons_of_mem _ (List.mem_append_right _ h)) (by decide +kernel))) (goodIn_sub (fun _ h => List.mem_cons_of_mem _ (List.mem_append_left _ (List.mem_append_right _ h))) (by decide +kernel))
set_option maxRecDepth 20000 in
theorem gX7_call_X7_reckon : GoodIn wsX7_call (wsV RX7 159 RX7 yX7_reckon wsX7_reckon) := goodIn_app (goodIn_of _ (by decide +kernel)) ggX7_call_X7_reckon
set_option maxRecDepth 20000 in
theorem ggX7_call_X7_other : GoodIn wsX7_call wsX7_other := goodIn_ca (goodIn_r _ [40, 22, 2, 41, 27, 42, 43, 1, 28, 4, 29, 30, 31, 10, 32, 18, 19, 20, 21, 44, 45, 46, 47, 48, 49, 50, 51, 52, 53, 54, 55, 56, 57, 58, 59, 60, 61, 62, 63, 64, 65, 66, 67, 68, 69, 70, 71, 72, 73, 74, 75, 76] (by decide +kernel) (by decide +kernel)) (goodIn_sub (fun _ h => List.mem_cons_of_mem _ (List.mem_append_left _ (List.mem_append_right _ h))) (by decide +kernel))
set_option maxRecDepth 20000 in
theorem gX7_call_X7_other : GoodIn wsX7_call (wsV RX7 162 RX7 yX7_other wsX7_other) := goodIn_app (goodIn_of _ (by decide +kernel)) ggX7_call_X7_other
set_option maxRecDepth 20000 in
theorem ggX7_move_X7_lay : GoodIn wsX7_move wsX7_lay := goodIn_ca (goodIn_r _ [7, 8, 9, 14, 15, 16, 17, 18, 19, 20, 21, 22, 23, 24, 25, 26, 27, 28, 29, 30, 31, 32, 33, 34, 35, 36, 37, 38, 39, 40, 41, 42, 43, 44, 45, 46] (by decide +kernel) (by decide +kernel)) (goodIn_sub (fun _ h => List.mem_cons_of_mem _ (List.mem_append_right _ h)) (by decide +kernel))
set_option maxRecDepth 20000 in
theorem gX7_move_X7_lay : GoodIn wsX7_move (wsV RX7 166 RX7 yX7_lay wsX7_lay) := goodIn_app (goodIn_of _ (by decide +kernel)) ggX7_move_X7_lay
set_option maxRecDepth 20000 in
theorem ggX7_move_X7_take : GoodIn wsX7_move wsX7_take := goodIn_ca (goodIn_r _ [13, 9, 8, 14, 15, 16, 17, 18, 19, 20, 21, 22, 23, 24, 25, 26, 27, 28, 29, 30, 31, 32, 33, 34, 35, 36, 37, 38, 39, 40, 41, 42, 43, 44, 45, 46] (by decide +kernel) (by decide +kernel)) (goodIn_sub (fun _ h => List.mem_cons_of_mem _ (List.mem_append_right _ h)) (by decide +kernel))
set_option maxRecDepth 20000 in
theorem gX7_move_X7_take : GoodIn wsX7_move (wsV RX7 151 RX7 yX7_take wsX7_take) := goodIn_app (goodIn_of _ (by decide +kernel)) ggX7_move_X7_take
set_option maxRecDepth 20000 in
theorem ggX7_reckon_X7_take : GoodIn wsX7_reckon wsX7_take := goodIn_ca (goodIn_r _ [5, 6, 7, 12, 13, 14, 15, 16, 17, 18, 19, 20, 21, 22, 23, 24, 25, 26, 27, 28, 29, 30, 31, 32, 33, 34, 35, 36, 37, 38, 39, 40, 41, 42, 43, 44] (by decide +kernel) (by decide +kernel)) (goodIn_sub (fun _ h => List.mem_cons_of_mem _ (List.mem_append_right _ h)) (by decide +kernel))
set_option maxRecDepth 20000 in
theorem gX7_reckon_X7_take : GoodIn wsX7_reckon (wsV RX7 151 RX7 yX7_take wsX7_take) := goodIn_app (goodIn_of _ (by decide +kernel)) ggX7_reckon_X7_take
set_option maxRecDepth 20000 in
theorem ggX7_reckon_X7_lay : GoodIn wsX7_reckon wsX7_lay := goodIn_ca (goodIn_r _ [11, 7, 6, 12, 13, 14, 15, 16, 17, 18, 19, 20, 21, 22, 23, 24, 25, 26, 27, 28, 29, 30, 31, 32, 33, 34, 35, 36, 37, 38, 39, 40, 41, 42, 43, 44] (by decide +kernel) (by decide +kernel)) (goodIn_sub (fun _ h => List.mem_cons_of_mem _ (List.mem_append_right _ h)) (by decide +kernel))
set_option maxRecDepth 20000 in
theorem gX7_reckon_X7_lay : GoodIn wsX7_reckon (wsV RX7 166 RX7 yX7_lay wsX7_lay) := goodIn_app (goodIn_of _ (by decide +kernel)) ggX7_reckon_X7_lay
set_option maxRecDepth 20000 in
theorem ggX7_other_X7_lay : GoodIn wsX7_other wsX7_lay := goodIn_ca (goodIn_r _ [14, 1, 2, 19, 20, 21, 22, 23, 24, 25, 26, 27, 28, 29, 30, 31, 32, 33, 34, 35, 36, 37, 38, 39, 40, 41, 42, 43, 44, 45, 46, 47, 48, 49, 50, 51] (by decide +kernel) (by decide +kernel)) (goodIn_sub (fun _ h => List.mem_cons_of_mem _ (List.mem_append_right _ h)) (by decide +kernel))
set_option maxRecDepth 20000 in
theorem gX7_other_X7_lay : GoodIn wsX7_other (wsV RX7 166 RX7 yX7_lay wsX7_lay) := goodIn_app (goodIn_of _ (by decide +kernel)) ggX7_other_X7_lay
set_option maxRecDepth 20000 in
theorem ggX7_other_X7_take : GoodIn wsX7_other wsX7_take := goodIn_ca (goodIn_r _ [18, 2, 1, 19, 20, 21, 22, 23, 24, 25, 26, 27, 28, 29, 30, 31, 32, 33, 34, 35, 36, 37, 38, 39, 40, 41, 42, 43, 44, 45, 46, 47, 48, 49, 50, 51] (by decide +kernel) (by decide +kernel)) (goodIn_sub (fun _ h => List.mem_cons_of_mem _ (List.mem_append_right _ h)) (by decide +kernel))
set_option maxRecDepth 20000 in
theorem gX7_other_X7_take : GoodIn wsX7_other (wsV RX7 151 RX7 yX7_take wsX7_take) := goodIn_app (goodIn_of _ (by decide +kernel)) ggX7_other_X7_take
set_option maxRecDepth 20000 in
theorem ggX7_power_X7_isController : GoodIn wsX7_power wsX7_isController := goodIn_r _ [12, 13, 14, 11, 15] (by decide +kernel) (by decide +kernel)
set_option maxRecDepth 20000 in
theorem gX7_power_X7_isController : GoodIn wsX7_power (wsV RX7 126 RX7 yX7_isController wsX7_isController) := goodIn_app (goodIn_of _ (by decide +kernel)) ggX7_power_X7_isController
set_option maxRecDepth 20000 in
theorem ggX7_power_X7_refuse : GoodIn wsX7_power wsX7_refuse := goodIn_r _ [19, 20, 72, 73, 74, 75, 76, 77, 78, 79, 80, 81, 82, 83, 84, 85, 86, 87, 88, 89, 90, 91, 92, 93, 94, 95, 96, 97, 98, 99, 100, 101, 102, 103, 104] (by decide +kernel) (by decide +kernel)
set_option maxRecDepth 20000 in
theorem gX7_power_X7_refuse : GoodIn wsX7_power (wsV RX7 100 RX7 yX7_refuse wsX7_refuse) := goodIn_app (goodIn_of _ (by decide +kernel)) ggX7_power_X7_refuse
set_option maxRecDepth 20000 in
theorem ggX7_power_X7_at : GoodIn wsX7_power wsX7_at := goodIn_r _ [23] (by decide +kernel) (by decide +kernel)
set_option maxRecDepth 20000 in
theorem gX7_power_X7_at : GoodIn wsX7_power (va_wsS RX7 132 yX7_at wsX7_at) := goodIn_app (goodIn_of _ (by decide +kernel)) ggX7_power_X7_at
set_option maxRecDepth 20000 in
theorem ggX7_power_X7_place : GoodIn wsX7_power wsX7_place := goodIn_r _ [26] (by decide +kernel) (by decide +kernel)
set_option maxRecDepth 20000 in
theorem gX7_power_X7_place : GoodIn wsX7_power (va_wsS RX7 118 yX7_place wsX7_place) := goodIn_app (goodIn_of _ (by decide +kernel)) ggX7_power_X7_place
set_option maxRecDepth 20000 in
theorem ggX7_power_X7_call : GoodIn wsX7_power wsX7_call := goodIn_ca (goodIn_ca (goodIn_r _ [30, 31, 32, 33, 34, 4, 35, 36, 21, 22, 11, 23, 24, 25, 26, 13, 14, 15, 37, 38, 39, 40, 41, 42, 43, 44, 45, 46, 47, 48, 49, 50, 51, 52, 53, 54, 55, 56, 57, 58, 59, 60, 61, 62, 72, 73, 74, 75, 76, 77, 78, 79, 80, 81, 82, 83, 84, 85, 86, 87, 88, 89, 90, 91, 92, 93, 94, 95, 96, 97, 98, 99, 100, 101, 102, 103, 104] (by decide +kernel) (by decide +kernel)) (goodIn_sub (fun _ h => List.mem_cons_of_mem _ (List.mem_append_left _ (List.mem_append_right _ h))) (by decide +kernel))) (goodIn_sub (fun _ h => List.mem_cons_of_mem _ (List.mem_append_right _ h)) (by decide +kernel))
set_option maxRecDepth 20000 in
theorem gX7_power_X7_call : GoodIn wsX7_power (wsV RX7 172 RX7 yX7_call wsX7_call) := goodIn_app (goodIn_of _ (by decide +kernel)) ggX7_power_X7_call
set_option maxRecDepth 20000 in
theorem ggX7_power_X7_tell : GoodIn wsX7_power wsX7_tell := goodIn_ca (goodIn_r _ [66, 67, 68, 69, 33, 70, 34, 71, 72, 73, 74, 75, 76, 77, 78, 79, 80, 81, 82, 83, 84, 85, 86, 87, 88, 89, 90, 91, 92, 93, 94, 95, 96, 97, 98, 99, 100, 101, 102, 103, 104] (by decide +kernel) (by decide +kernel)) (goodIn_sub (fun _ h => List.mem_cons_of_mem _ (List.mem_append_left _ (List.mem_append_right _ h))) (by decide +kernel))
set_option maxRecDepth 20000 in
theorem gX7_power_X7_tell : GoodIn wsX7_power (wsV RX7 175 RX7 yX7_tell wsX7_tell) := goodIn_app (goodIn_of _ (by decide +kernel)) ggX7_power_X7_tell
set_option maxRecDepth 20000 in
theorem ggX7_barred_X7_isController : GoodIn wsX7_barred wsX7_isController := goodIn_r _ [9, 10, 11, 8, 12] (by decide +kernel) (by decide +kernel)
set_option maxRecDepth 20000 in
theorem gX7_barred_X7_isController : GoodIn wsX7_barred (wsV RX7 126 RX7 yX7_isController wsX7_isController) := goodIn_app (goodIn_of _ (by decide +kernel)) ggX7_barred_X7_isController
set_option maxRecDepth 20000 in
theorem ggX7_barred_X7_isRunnable : GoodIn wsX7_barred wsX7_isRunnable := goodIn_r _ [16, 17, 10, 11, 8, 12, 21, 22, 23, 24, 25, 26, 27, 28, 29, 30, 31, 32, 33, 34, 35, 36, 37, 38, 39, 40, 41, 42, 43, 44, 45, 46, 47, 48, 49, 50, 51, 52, 53] (by decide +kernel) (by decide +kernel)
set_option maxRecDepth 20000 in
theorem gX7_barred_X7_isRunnable : GoodIn wsX7_barred (wsV RX7 129 RX7 yX7_isRunnable wsX7_isRunnable) := goodIn_app (goodIn_of _ (by decide +kernel)) ggX7_barred_X7_isRunnable
set_option maxRecDepth 20000 in
theorem ggX7_barred_X7_at : GoodIn wsX7_barred wsX7_at := goodIn_r _ [20] (by decide +kernel) (by decide +kernel)
set_option maxRecDepth 20000 in
theorem gX7_barred_X7_at : GoodIn wsX7_barred (va_wsS RX7 132 yX7_at wsX7_at) := goodIn_app (goodIn_of _ (by decide +kernel)) ggX7_barred_X7_at
set_option maxRecDepth 20000 in
theorem ggX7_runMember_X7_at : GoodIn wsX7_runMember wsX7_at := goodIn_r _ [7] (by decide +kernel) (by decide +kernel)
set_option maxRecDepth 20000 in
theorem gX7_runMember_X7_at : GoodIn wsX7_runMember (va_wsS RX7 132 yX7_at wsX7_at) := goodIn_app (goodIn_of _ (by decide +kernel)) ggX7_runMember_X7_at
set_option maxRecDepth 20000 in
theorem ggX7_runMember_X7_place : GoodIn wsX7_runMember wsX7_place := goodIn_r _ [10] (by decide +kernel) (by decide +kernel)
set_option maxRecDepth 20000 in
theorem gX7_runMember_X7_place : GoodIn wsX7_runMember (va_wsS RX7 118 yX7_place wsX7_place) := goodIn_app (goodIn_of _ (by decide +kernel)) ggX7_runMember_X7_place
set_option maxRecDepth 20000 in
theorem ggX7_runMember_X7_call : GoodIn wsX7_runMember wsX7_call := goodIn_ca (goodIn_ca (goodIn_r _ [14, 15, 16, 17, 18, 1, 19, 20, 4, 5, 6, 7, 8, 9, 10, 21, 22, 23, 24, 25, 26, 27, 28, 29, 30, 31, 32, 33, 34, 35, 36, 37, 38, 39, 40, 41, 42, 43, 44, 45, 46, 47, 48, 49, 50, 51, 52, 53, 54, 55, 56, 57, 58, 59, 60, 61, 62, 63, 64, 65, 66, 67, 68, 69, 70, 71, 72, 73, 74, 75, 76, 77, 78, 79, 80, 81, 82] (by decide +kernel) (by decide +kernel)) (goodIn_sub (fun _ h => List.mem_cons_of_mem _ (List.mem_append_left _ (List.mem_append_right _ h))) (by decide +kernel))) (goodIn_sub (fun _ h => List.mem_cons_of_mem _ (List.mem_append_right _ h)) (by decide +kernel))
set_option maxRecDepth 20000 in
theorem gX7_runMember_X7_call : GoodIn wsX7_runMember (wsV RX7 172 RX7 yX7_call wsX7_call) := goodIn_app (goodIn_of _ (by decide +kernel)) ggX7_runMember_X7_call
set_option maxRecDepth 20000 in
theorem ggX7_run_X7_barred : GoodIn wsX7_run wsX7_barred := goodIn_ca (goodIn_r _ [9, 4, 10, 3, 11, 12, 13, 14, 8, 15, 16, 17, 18, 19, 20, 21, 22, 23, 24, 25, 26, 86, 87, 88, 89, 90, 91, 92, 93, 94, 95, 96, 97, 98, 99, 100, 101, 102, 103, 104, 105, 106, 107, 108, 109, 110, 111, 112, 113, 114, 115, 116, 117, 118] (by decide +kernel) (by decide +kernel)) (goodIn_sub (fun _ h => List.mem_cons_of_mem _ (List.mem_append_left _ (List.mem_append_right _ h))) (by decide +kernel))
set_option maxRecDepth 20000 in
theorem gX7_run_X7_barred : GoodIn wsX7_run (wsV RX7 178 RX7 yX7_barred wsX7_barred) := goodIn_app (goodIn_of _ (by decide +kernel)) ggX7_run_X7_barred
set_option maxRecDepth 20000 in
theorem ggX7_run_X7_refuse : GoodIn wsX7_run wsX7_refuse := goodIn_r _ [30, 31, 86, 87, 88, 89, 90, 91, 92, 93, 94, 95, 96, 97, 98, 99, 100, 101, 102, 103, 104, 105, 106, 107, 108, 109, 110, 111, 112, 113, 114, 115, 116, 117, 118] (by decide +kernel) (by decide +kernel)
set_option maxRecDepth 20000 in
theorem gX7_run_X7_refuse : GoodIn wsX7_run (wsV RX7 100 RX7 yX7_refuse wsX7_refuse) := goodIn_app (goodIn_of _ (by decide +kernel)) ggX7_run_X7_refuse
set_option maxRecDepth 20000 in
theorem ggX7_run_X7_runMember : GoodIn wsX7_run wsX7_runMember := goodIn_ca (goodIn_ca (goodIn_r _ [35, 10, 36, 37, 24, 25, 8, 26, 38, 39, 40, 41, 42, 43, 44, 45, 46, 47, 48, 49, 50, 16, 17, 18, 51, 52, 53, 54, 55, 56, 57, 58, 59, 60, 61, 62, 63, 64, 65, 66, 67, 68, 69, 70, 71, 72, 73, 74, 75, 76, 86, 87, 88, 89, 90, 91, 92, 93, 94, 95, 96, 97, 98, 99, 100, 101, 102, 103, 104, 105, 106, 107, 108, 109, 110, 111, 112, 113, 114, 115, 116, 117, 118] (by decide +kernel) (by decide +kernel)) (goodIn_sub (fun _ h => List.mem_cons_of_mem _ (List.mem_append_left _ (List.mem_append_right _ h))) (by decide +kernel))) (goodIn_sub (fun _ h => List.mem_cons_of_mem _ (List.mem_append_right _ h)) (by decide +kernel))
set_option maxRecDepth 20000 in
theorem gX7_run_X7_runMember : GoodIn wsX7_run (wsV RX7 181 RX7 yX7_runMember wsX7_runMember) := goodIn_app (goodIn_of _ (by decide +kernel)) ggX7_run_X7_runMember
set_option maxRecDepth 20000 in
theorem ggX7_run_X7_tell : GoodIn wsX7_run wsX7_tell := goodIn_ca (goodIn_r _ [80, 81, 82, 83, 47, 84, 48, 85, 86, 87, 88, 89, 90, 91, 92, 93, 94, 95, 96, 97, 98, 99, 100, 101, 102, 103, 104, 105, 106, 107, 108, 109, 110, 111, 112, 113, 114, 115, 116, 117, 118] (by decide +kernel) (by decide +kernel)) (goodIn_sub (fun _ h => List.mem_cons_of_mem _ (List.mem_append_left _ (List.mem_append_right _ h))) (by decide +kernel))
set_option maxRecDepth 20000 in
theorem gX7_run_X7_tell : GoodIn wsX7_run (wsV RX7 175 RX7 yX7_tell wsX7_tell) := goodIn_app (goodIn_of _ (by decide +kernel)) ggX7_run_X7_tell
set_option maxRecDepth 20000 in
theorem ggX7_run_X7_at : GoodIn wsX7_run wsX7_at := goodIn_r _ [26] (by decide +kernel) (by decide +kernel)
set_option maxRecDepth 20000 in
theorem gX7_run_X7_at : GoodIn wsX7_run (va_wsS RX7 132 yX7_at wsX7_at) := goodIn_app (goodIn_of _ (by decide +kernel)) ggX7_run_X7_at
set_option maxRecDepth 20000 in
theorem ggX7_beside_X7_barred : GoodIn wsX7_beside wsX7_barred := goodIn_ca (goodIn_r _ [12, 13, 14, 15, 16, 17, 18, 19, 11, 20, 21, 22, 23, 24, 25, 26, 27, 28, 29, 30, 31, 78, 79, 80, 81, 82, 83, 84, 85, 86, 87, 88, 89, 90, 91, 92, 93, 94, 95, 96, 97, 98, 99, 100, 101, 102, 103, 104, 105, 106, 107, 108, 109, 110] (by decide +kernel) (by decide +kernel)) (goodIn_sub (fun _ h => List.mem_cons_of_mem _ (List.mem_append_left _ (List.mem_append_right _ h))) (by decide +kernel))
set_option maxRecDepth 20000 in
theorem gX7_beside_X7_barred : GoodIn wsX7_beside (wsV RX7 178 RX7 yX7_barred wsX7_barred) := goodIn_app (goodIn_of _ (by decide +kernel)) ggX7_beside_X7_barred
set_option maxRecDepth 20000 in
theorem ggX7_beside_X7_refuse : GoodIn wsX7_beside wsX7_refuse := goodIn_r _ [35, 36, 78, 79, 80, 81, 82, 83, 84, 85, 86, 87, 88, 89, 90, 91, 92, 93, 94, 95, 96, 97, 98, 99, 100, 101, 102, 103, 104, 105, 106, 107, 108, 109, 110] (by decide +kernel) (by decide +kernel)
set_option maxRecDepth 20000 in
theorem gX7_beside_X7_refuse : GoodIn wsX7_beside (wsV RX7 100 RX7 yX7_refuse wsX7_refuse) := goodIn_app (goodIn_of _ (by decide +kernel)) ggX7_beside_X7_refuse
set_option maxRecDepth 20000 in
theorem ggX7_beside_X7_at : GoodIn wsX7_beside wsX7_at := goodIn_r _ [31] (by decide +kernel) (by decide +kernel)
set_option maxRecDepth 20000 in
theorem gX7_beside_X7_at : GoodIn wsX7_beside (va_wsS RX7 132 yX7_at wsX7_at) := goodIn_app (goodIn_of _ (by decide +kernel)) ggX7_beside_X7_at
set_option maxRecDepth 20000 in
theorem ggX7_beside_X7_runMember : GoodIn wsX7_beside wsX7_runMember := goodIn_ca (goodIn_ca (goodIn_r _ [40, 14, 41, 42, 29, 30, 11, 31, 43, 44, 45, 46, 47, 48, 49, 50, 51, 52, 53, 54, 55, 21, 22, 23, 56, 57, 58, 59, 60, 61, 62, 63, 64, 5, 3, 65, 66, 67, 68, 69, 70, 71, 72, 73, 74, 75, 76, 77, 6, 7, 78, 79, 80, 81, 82, 83, 84, 85, 86, 87, 88, 89, 90, 91, 92, 93, 94, 95, 96, 97, 98, 99, 100, 101, 102, 103, 104, 105, 106, 107, 108, 109, 110] (by decide +kernel) (by decide +kernel)) (goodIn_sub (fun _ h => List.mem_cons_of_mem _ (List.mem_append_left _ (List.mem_append_right _ h))) (by decide +kernel))) (goodIn_sub (fun _ h => List.mem_cons_of_mem _ (List.mem_append_right _ h)) (by decide +kernel))
set_option maxRecDepth 20000 in
theorem gX7_beside_X7_runMember : GoodIn wsX7_beside (wsV RX7 181 RX7 yX7_runMember wsX7_runMember) := goodIn_app (goodIn_of _ (by decide +kernel)) ggX7_beside_X7_runMember
set_option maxRecDepth 20000 in
theorem ggX7_port_X7_isController : GoodIn wsX7_port wsX7_isController := goodIn_r _ [7, 8, 9, 6, 10] (by decide +kernel) (by decide +kernel)
set_option maxRecDepth 20000 in
theorem gX7_port_X7_isController : GoodIn wsX7_port (wsV RX7 126 RX7 yX7_isController wsX7_isController) := goodIn_app (goodIn_of _ (by decide +kernel)) ggX7_port_X7_isController
set_option maxRecDepth 20000 in
theorem ggX7_port_X7_in : GoodIn wsX7_port wsX7_in := goodIn_r _ [10] (by decide +kernel) (by decide +kernel)
set_option maxRecDepth 20000 in
theorem gX7_port_X7_in : GoodIn wsX7_port (va_wsS RX7 96 yX7_in wsX7_in) := goodIn_app (goodIn_of _ (by decide +kernel)) ggX7_port_X7_in
set_option maxRecDepth 20000 in
theorem ggX7_set_X7_isController : GoodIn wsX7_set wsX7_isController := goodIn_r _ [7, 8, 9, 6, 10] (by decide +kernel) (by decide +kernel)
set_option maxRecDepth 20000 in
theorem gX7_set_X7_isController : GoodIn wsX7_set (wsV RX7 126 RX7 yX7_isController wsX7_isController) := goodIn_app (goodIn_of _ (by decide +kernel)) ggX7_set_X7_isController
set_option maxRecDepth 20000 in
theorem ggX7_set_X7_in : GoodIn wsX7_set wsX7_in := goodIn_r _ [10] (by decide +kernel) (by decide +kernel)
set_option maxRecDepth 20000 in
theorem gX7_set_X7_in : GoodIn wsX7_set (va_wsS RX7 96 yX7_in wsX7_in) := goodIn_app (goodIn_of _ (by decide +kernel)) ggX7_set_X7_in
set_option maxRecDepth 20000 in
theorem ggX7_set_X7_refuse : GoodIn wsX7_set wsX7_refuse := goodIn_r _ [14, 15, 16, 17, 18, 19, 20, 21, 22, 23, 24, 25, 26, 27, 28, 29, 30, 31, 32, 33, 34, 35, 36, 37, 38, 39, 40, 41, 42, 43, 44, 45, 46, 47, 48] (by decide +kernel) (by decide +kernel)
set_option maxRecDepth 20000 in
theorem gX7_set_X7_refuse : GoodIn wsX7_set (wsV RX7 100 RX7 yX7_refuse wsX7_refuse) := goodIn_app (goodIn_of _ (by decide +kernel)) ggX7_set_X7_refuse
set_option maxRecDepth 20000 in
theorem ggX7_cell_X7_hasClass : GoodIn wsX7_cell wsX7_hasClass := goodIn_ca (goodIn_r _ [7, 8, 9, 10, 11, 6, 12, 13, 14, 15, 16, 17, 18, 19, 20, 21, 22, 23, 24, 25, 26, 27, 28, 29, 30, 31, 32, 33, 34, 35, 36, 37, 38, 39, 40, 41, 42, 43, 44, 45, 46, 47, 48, 49, 50, 51, 52, 53, 54, 55, 56] (by decide +kernel) (by decide +kernel)) (goodIn_sub (fun _ h => List.mem_cons_of_mem _ (List.mem_append_right _ h)) (by decide +kernel))
set_option maxRecDepth 20000 in
theorem gX7_cell_X7_hasClass : GoodIn wsX7_cell (wsV RX7 184 RX7 yX7_hasClass wsX7_hasClass) := goodIn_app (goodIn_of _ (by decide +kernel)) ggX7_cell_X7_hasClass
set_option maxRecDepth 20000 in
theorem ggX7_cell_X7_in : GoodIn wsX7_cell wsX7_in := goodIn_r _ [15] (by decide +kernel) (by decide +kernel)
set_option maxRecDepth 20000 in
theorem gX7_cell_X7_in : GoodIn wsX7_cell (va_wsS RX7 96 yX7_in wsX7_in) := goodIn_app (goodIn_of _ (by decide +kernel)) ggX7_cell_X7_in
set_option maxRecDepth 20000 in
theorem ggX7_cell_X7_at : GoodIn wsX7_cell wsX7_at := goodIn_r _ [23] (by decide +kernel) (by decide +kernel)
set_option maxRecDepth 20000 in
theorem gX7_cell_X7_at : GoodIn wsX7_cell (va_wsS RX7 132 yX7_at wsX7_at) := goodIn_app (goodIn_of _ (by decide +kernel)) ggX7_cell_X7_at
set_option maxRecDepth 20000 in
theorem ggX7_reaction_X7_isController : GoodIn wsX7_reaction wsX7_isController := goodIn_r _ [7, 8, 9, 6, 10] (by decide +kernel) (by decide +kernel)
set_option maxRecDepth 20000 in
theorem gX7_reaction_X7_isController : GoodIn wsX7_reaction (wsV RX7 126 RX7 yX7_isController wsX7_isController) := goodIn_app (goodIn_of _ (by decide +kernel)) ggX7_reaction_X7_isController
set_option maxRecDepth 20000 in
theorem ggX7_reaction_X7_refuse : GoodIn wsX7_reaction wsX7_refuse := goodIn_r _ [14, 15, 16, 17, 18, 19, 20, 21, 22, 23, 24, 25, 26, 27, 28, 29, 30, 31, 32, 33, 34, 35, 36, 37, 38, 39, 40, 41, 42, 43, 44, 45, 46, 47, 48] (by decide +kernel) (by decide +kernel)
set_option maxRecDepth 20000 in
theorem gX7_reaction_X7_refuse : GoodIn wsX7_reaction (wsV RX7 100 RX7 yX7_refuse wsX7_refuse) := goodIn_app (goodIn_of _ (by decide +kernel)) ggX7_reaction_X7_refuse
set_option maxRecDepth 20000 in
theorem ggX7_reaction_X7_in : GoodIn wsX7_reaction wsX7_in := goodIn_r _ [10] (by decide +kernel) (by decide +kernel)
set_option maxRecDepth 20000 in
theorem gX7_reaction_X7_in : GoodIn wsX7_reaction (va_wsS RX7 96 yX7_in wsX7_in) := goodIn_app (goodIn_of _ (by decide +kernel)) ggX7_reaction_X7_in
set_option maxRecDepth 20000 in
theorem ggX7_update_X7_isController : GoodIn wsX7_update wsX7_isController := goodIn_r _ [8, 9, 10, 7, 11] (by decide +kernel) (by decide +kernel)
set_option maxRecDepth 20000 in
theorem gX7_update_X7_isController : GoodIn wsX7_update (wsV RX7 126 RX7 yX7_isController wsX7_isController) := goodIn_app (goodIn_of _ (by decide +kernel)) ggX7_update_X7_isController
set_option maxRecDepth 20000 in
theorem ggX7_update_X7_isRunnable : GoodIn wsX7_update wsX7_isRunnable := goodIn_r _ [15, 16, 9, 10, 7, 11, 32, 33, 34, 35, 36, 37, 38, 39, 40, 41, 42, 43, 44, 45, 46, 47, 48, 49, 50, 51, 52, 53, 54, 55, 56, 57, 58, 59, 60, 61, 62, 63, 64] (by decide +kernel) (by decide +kernel)
set_option maxRecDepth 20000 in
theorem gX7_update_X7_isRunnable : GoodIn wsX7_update (wsV RX7 129 RX7 yX7_isRunnable wsX7_isRunnable) := goodIn_app (goodIn_of _ (by decide +kernel)) ggX7_update_X7_isRunnable
set_option maxRecDepth 20000 in
theorem ggX7_update_X7_refuse : GoodIn wsX7_update wsX7_refuse := goodIn_r _ [20, 21, 32, 33, 34, 35, 36, 37, 38, 39, 40, 41, 42, 43, 44, 45, 46, 47, 48, 49, 50, 51, 52, 53, 54, 55, 56, 57, 58, 59, 60, 61, 62, 63, 64] (by decide +kernel) (by decide +kernel)
set_option maxRecDepth 20000 in
theorem gX7_update_X7_refuse : GoodIn wsX7_update (wsV RX7 100 RX7 yX7_refuse wsX7_refuse) := goodIn_app (goodIn_of _ (by decide +kernel)) ggX7_update_X7_refuse
set_option maxRecDepth 20000 in
theorem ggX7_update_X7_at : GoodIn wsX7_update wsX7_at := goodIn_r _ [24] (by decide +kernel) (by decide +kernel)
set_option maxRecDepth 20000 in
theorem gX7_update_X7_at : GoodIn wsX7_update (va_wsS RX7 132 yX7_at wsX7_at) := goodIn_app (goodIn_of _ (by decide +kernel)) ggX7_update_X7_at
set_option maxRecDepth 20000 in
theorem ggX7_update_X7_renew : GoodIn wsX7_update wsX7_renew := goodIn_ca (goodIn_r _ [28, 2, 3, 29, 30, 31, 32, 33, 34, 35, 36, 37, 38, 39, 40, 41, 42, 43, 44, 45, 46, 47, 48, 49, 50, 51, 52, 53, 54, 55, 56, 57, 58, 59, 60, 61, 62, 63, 64] (by decide +kernel) (by decide +kernel)) (goodIn_sub (fun _ h => List.mem_cons_of_mem _ (List.mem_append_right _ h)) (by decide +kernel))
set_option maxRecDepth 20000 in
theorem gX7_update_X7_renew : GoodIn wsX7_update (wsV RX7 135 RX7 yX7_renew wsX7_renew) := goodIn_app (goodIn_of _ (by decide +kernel)) ggX7_update_X7_renew
set_option maxRecDepth 20000 in
theorem ggX7_reset_X7_isController : GoodIn wsX7_reset wsX7_isController := goodIn_r _ [10, 11, 12, 9, 13] (by decide +kernel) (by decide +kernel)
set_option maxRecDepth 20000 in
theorem gX7_reset_X7_isController : GoodIn wsX7_reset (wsV RX7 126 RX7 yX7_isController wsX7_isController) := goodIn_app (goodIn_of _ (by decide +kernel)) ggX7_reset_X7_isController
set_option maxRecDepth 20000 in
theorem ggX7_reset_X7_refuse : GoodIn wsX7_reset wsX7_refuse := goodIn_r _ [17, 18, 30, 31, 32, 33, 34, 35, 36, 37, 38, 39, 40, 41, 42, 43, 44, 45, 46, 47, 48, 49, 50, 51, 52, 53, 54, 55, 56, 57, 58, 59, 60, 61, 62] (by decide +kernel) (by decide +kernel)
set_option maxRecDepth 20000 in
theorem gX7_reset_X7_refuse : GoodIn wsX7_reset (wsV RX7 100 RX7 yX7_refuse wsX7_refuse) := goodIn_app (goodIn_of _ (by decide +kernel)) ggX7_reset_X7_refuse
set_option maxRecDepth 20000 in
theorem ggX7_reset_X7_at : GoodIn wsX7_reset wsX7_at := goodIn_r _ [21] (by decide +kernel) (by decide +kernel)
set_option maxRecDepth 20000 in
theorem gX7_reset_X7_at : GoodIn wsX7_reset (va_wsS RX7 132 yX7_at wsX7_at) := goodIn_app (goodIn_of _ (by decide +kernel)) ggX7_reset_X7_at
set_option maxRecDepth 20000 in
theorem ggX7_reset_X7_renew : GoodIn wsX7_reset wsX7_renew := goodIn_ca (goodIn_r _ [25, 5, 26, 27, 28, 29, 30, 31, 32, 33, 34, 35, 36, 37, 38, 39, 40, 41, 42, 43, 44, 45, 46, 47, 48, 49, 50, 51, 52, 53, 54, 55, 56, 57, 58, 59, 60, 61, 62] (by decide +kernel) (by decide +kernel)) (goodIn_sub (fun _ h => List.mem_cons_of_mem _ (List.mem_append_right _ h)) (by decide +kernel))
set_option maxRecDepth 20000 in
theorem gX7_reset_X7_renew : GoodIn wsX7_reset (wsV RX7 135 RX7 yX7_renew wsX7_renew) := goodIn_app (goodIn_of _ (by decide +kernel)) ggX7_reset_X7_renew
set_option maxRecDepth 20000 in
theorem ggX7_fault_X7_isController : GoodIn wsX7_fault wsX7_isController := goodIn_r _ [12, 13, 14, 11, 15] (by decide +kernel) (by decide +kernel)
set_option maxRecDepth 20000 in
theorem gX7_fault_X7_isController : GoodIn wsX7_fault (wsV RX7 126 RX7 yX7_isController wsX7_isController) := goodIn_app (goodIn_of _ (by decide +kernel)) ggX7_fault_X7_isController
set_option maxRecDepth 20000 in
theorem ggX7_fault_X7_refuse : GoodIn wsX7_fault wsX7_refuse := goodIn_r _ [19, 20, 21, 22, 23, 24, 25, 26, 27, 28, 29, 30, 31, 32, 33, 34, 35, 36, 37, 38, 39, 40, 41, 42, 43, 44, 45, 46, 47, 48, 49, 50, 51, 52, 53] (by decide +kernel) (by decide +kernel)
set_option maxRecDepth 20000 in
theorem gX7_fault_X7_refuse : GoodIn wsX7_fault (wsV RX7 100 RX7 yX7_refuse wsX7_refuse) := goodIn_app (goodIn_of _ (by decide +kernel)) ggX7_fault_X7_refuse
set_option maxRecDepth 20000 in
theorem ggX7_same_X7_hasClass : GoodIn wsX7_same wsX7_hasClass := goodIn_ca (goodIn_r _ [8, 2, 9, 10, 11, 7, 12, 13, 14, 15, 16, 17, 18, 19, 20, 21, 22, 23, 24, 25, 26, 27, 28, 29, 30, 31, 32, 33, 34, 35, 36, 37, 38, 39, 40, 41, 42, 43, 44, 45, 46, 47, 48, 49, 50, 51, 52, 53, 54, 55, 56] (by decide +kernel) (by decide +kernel)) (goodIn_sub (fun _ h => List.mem_cons_of_mem _ (List.mem_append_right _ h)) (by decide +kernel))
set_option maxRecDepth 20000 in
theorem gX7_same_X7_hasClass : GoodIn wsX7_same (wsV RX7 184 RX7 yX7_hasClass wsX7_hasClass) := goodIn_app (goodIn_of _ (by decide +kernel)) ggX7_same_X7_hasClass
set_option maxRecDepth 20000 in
theorem ggX7_same_X7_at : GoodIn wsX7_same wsX7_at := goodIn_r _ [23] (by decide +kernel) (by decide +kernel)
set_option maxRecDepth 20000 in
theorem gX7_same_X7_at : GoodIn wsX7_same (va_wsS RX7 132 yX7_at wsX7_at) := goodIn_app (goodIn_of _ (by decide +kernel)) ggX7_same_X7_at
set_option maxRecDepth 20000 in
theorem ggX7_handle_X7_hasClass : GoodIn wsX7_handle wsX7_hasClass := goodIn_ca (goodIn_r _ [7, 8, 9, 10, 11, 6, 12, 13, 14, 15, 16, 17, 18, 19, 20, 21, 22, 23, 29, 30, 31, 32, 33, 34, 35, 36, 37, 38, 39, 40, 41, 42, 43, 44, 45, 46, 47, 48, 49, 50, 51, 52, 53, 54, 55, 56, 57, 58, 59, 60, 61] (by decide +kernel) (by decide +kernel)) (goodIn_sub (fun _ h => List.mem_cons_of_mem _ (List.mem_append_right _ h)) (by decide +kernel))
set_option maxRecDepth 20000 in
theorem gX7_handle_X7_hasClass : GoodIn wsX7_handle (wsV RX7 184 RX7 yX7_hasClass wsX7_hasClass) := goodIn_app (goodIn_of _ (by decide +kernel)) ggX7_handle_X7_hasClass
set_option maxRecDepth 20000 in
theorem ggX7_handle_X7_at : GoodIn wsX7_handle wsX7_at := goodIn_r _ [23] (by decide +kernel) (by decide +kernel)
set_option maxRecDepth 20000 in
theorem gX7_handle_X7_at : GoodIn wsX7_handle (va_wsS RX7 132 yX7_at wsX7_at) := goodIn_app (goodIn_of _ (by decide +kernel)) ggX7_handle_X7_at
set_option maxRecDepth 20000 in
theorem ggX7_handle_X7_isController : GoodIn wsX7_handle wsX7_isController := goodIn_r _ [12, 13, 14, 6, 15] (by decide +kernel) (by decide +kernel)
set_option maxRecDepth 20000 in
theorem gX7_handle_X7_isController : GoodIn wsX7_handle (wsV RX7 126 RX7 yX7_isController wsX7_isController) := goodIn_app (goodIn_of _ (by decide +kernel)) ggX7_handle_X7_isController
set_option maxRecDepth 20000 in
theorem ggX7_handle_X7_isRunnable : GoodIn wsX7_handle wsX7_isRunnable := goodIn_r _ [19, 20, 13, 14, 6, 15, 29, 30, 31, 32, 33, 34, 35, 36, 37, 38, 39, 40, 41, 42, 43, 44, 45, 46, 47, 48, 49, 50, 51, 52, 53, 54, 55, 56, 57, 58, 59, 60, 61] (by decide +kernel) (by decide +kernel)
set_option maxRecDepth 20000 in
theorem gX7_handle_X7_isRunnable : GoodIn wsX7_handle (wsV RX7 129 RX7 yX7_isRunnable wsX7_isRunnable) := goodIn_app (goodIn_of _ (by decide +kernel)) ggX7_handle_X7_isRunnable
set_option maxRecDepth 20000 in
theorem ggX7_handle_X7_refuse : GoodIn wsX7_handle wsX7_refuse := goodIn_r _ [27, 28, 29, 30, 31, 32, 33, 34, 35, 36, 37, 38, 39, 40, 41, 42, 43, 44, 45, 46, 47, 48, 49, 50, 51, 52, 53, 54, 55, 56, 57, 58, 59, 60, 61] (by decide +kernel) (by decide +kernel)
set_option maxRecDepth 20000 in
theorem gX7_handle_X7_refuse : GoodIn wsX7_handle (wsV RX7 100 RX7 yX7_refuse wsX7_refuse) := goodIn_app (goodIn_of _ (by decide +kernel)) ggX7_handle_X7_refuse
set_option maxRecDepth 20000 in
theorem ggX7_octet_X7_isRunnable : GoodIn wsX7_octet wsX7_isRunnable := goodIn_r _ [9, 10, 11, 12, 8, 13, 17, 18, 19, 20, 21, 22, 23, 24, 25, 26, 27, 28, 29, 30, 31, 32, 33, 34, 35, 36, 37, 38, 39, 40, 41, 42, 43, 44, 45, 46, 47, 48, 49] (by decide +kernel) (by decide +kernel)
set_option maxRecDepth 20000 in
theorem gX7_octet_X7_isRunnable : GoodIn wsX7_octet (wsV RX7 129 RX7 yX7_isRunnable wsX7_isRunnable) := goodIn_app (goodIn_of _ (by decide +kernel)) ggX7_octet_X7_isRunnable
set_option maxRecDepth 20000 in
theorem ggX7_octet_X7_place : GoodIn wsX7_octet wsX7_place := goodIn_r _ [16] (by decide +kernel) (by decide +kernel)
set_option maxRecDepth 20000 in
theorem gX7_octet_X7_place : GoodIn wsX7_octet (va_wsS RX7 118 yX7_place wsX7_place) := goodIn_app (goodIn_of _ (by decide +kernel)) ggX7_octet_X7_place
set_option maxRecDepth 20000 in
theorem ggJ7_copyOfRange_39247_J7_copyOfRangeByte_39247 : GoodIn wsJ7_copyOfRange_39247 wsJ7_copyOfRangeByte_39247 := goodIn_r _ [10, 11, 12, 13, 14, 15, 16, 17, 18, 19, 20, 21, 9, 22] (by decide +kernel) (by decide +kernel)
set_option maxRecDepth 20000 in
theorem gJ7_copyOfRange_39247_J7_copyOfRangeByte_39247 : GoodIn wsJ7_copyOfRange_39247 (va_wsS RJ7 339 yJ7_copyOfRangeByte_39247 wsJ7_copyOfRangeByte_39247) := goodIn_app (goodIn_of _ (by decide +kernel)) ggJ7_copyOfRange_39247_J7_copyOfRangeByte_39247
set_option maxRecDepth 20000 in
theorem ggJ7_copyOfRangeByte_39247_J7_checkLength_df160 : GoodIn wsJ7_copyOfRangeByte_39247 wsJ7_checkLength_df160 := goodIn_r _ [13] (by decide +kernel) (by decide +kernel)
set_option maxRecDepth 20000 in
theorem gJ7_copyOfRangeByte_39247_J7_checkLength_df160 : GoodIn wsJ7_copyOfRangeByte_39247 (va_wsS RJ7 343 yJ7_checkLength_df160 wsJ7_checkLength_df160) := goodIn_app (goodIn_of _ (by decide +kernel)) ggJ7_copyOfRangeByte_39247_J7_checkLength_df160
set_option maxRecDepth 20000 in
theorem ggL_handle_X6_handle : GoodIn wsL_handle wsX6_handle := goodIn_ca (goodIn_r _ [6, 7, 8, 9, 10, 11, 5, 12, 13, 14, 15, 16, 17, 18, 19, 20, 21, 22, 23, 24, 25, 26, 27, 28, 29, 30, 31, 32, 33, 34, 35, 36, 37, 38, 39, 40, 41, 42, 43, 44, 45, 46, 47, 48, 49, 50, 51, 52, 53] (by decide +kernel) (by decide +kernel)) (goodIn_sub (fun _ h => List.mem_cons_of_mem _ (List.mem_append_right _ h)) (by decide +kernel))
set_option maxRecDepth 20000 in
theorem gL_handle_X6_handle : GoodIn wsL_handle (wsV RL 7 RX6 yX6_handle wsX6_handle) := goodIn_app (goodIn_of _ (by decide +kernel)) ggL_handle_X6_handle
set_option maxRecDepth 20000 in
theorem ggL_octet_X6_octet : GoodIn wsL_octet wsX6_octet := goodIn_ca (goodIn_r _ [6, 7, 8, 9, 10, 11, 12, 5, 13, 14, 15, 16, 17, 18, 19, 20, 21, 22, 23, 24, 25, 26, 27, 28, 29, 30, 31, 32] (by decide +kernel) (by decide +kernel)) (goodIn_sub (fun _ h => List.mem_cons_of_mem _ (List.mem_append_right _ h)) (by decide +kernel))
set_option maxRecDepth 20000 in
theorem gL_octet_X6_octet : GoodIn wsL_octet (wsV RL 15 RX6 yX6_octet wsX6_octet) := goodIn_app (goodIn_of _ (by decide +kernel)) ggL_octet_X6_octet
set_option maxRecDepth 20000 in
theorem ggL_divide_X6_divide : GoodIn wsL_divide wsX6_divide := goodIn_ca (goodIn_ca (goodIn_r _ [6, 7, 8] (by decide +kernel) (by decide +kernel)) (goodIn_sub (fun _ h => List.mem_cons_of_mem _ (List.mem_append_left _ (List.mem_append_right _ h))) (by decide +kernel))) (goodIn_sub (fun _ h => List.mem_cons_of_mem _ (List.mem_append_right _ h)) (by decide +kernel))
set_option maxRecDepth 20000 in
theorem gL_divide_X6_divide : GoodIn wsL_divide (wsV RL 21 RX6 yX6_divide wsX6_divide) := goodIn_app (goodIn_of _ (by decide +kernel)) ggL_divide_X6_divide
set_option maxRecDepth 20000 in
theorem ggL_law_L_cell : GoodIn wsL_law wsL_cell := goodIn_ca (goodIn_r _ [11] (by decide +kernel) (by decide +kernel)) (goodIn_sub (fun _ h => List.mem_append_left _ (List.mem_append_left _ (List.mem_append_left _ (List.mem_append_right _ h)))) (by decide +kernel))
set_option maxRecDepth 20000 in
theorem gL_law_L_cell : GoodIn wsL_law (va_wsS RL 27 yL_cell wsL_cell) := goodIn_app (goodIn_of _ (by decide +kernel)) ggL_law_L_cell
set_option maxRecDepth 20000 in
theorem ggL_law_X6_init : GoodIn wsL_law wsX6_init := goodIn_r _ [14, 15, 16, 17, 18, 19, 20, 21, 22, 23, 24, 25, 26, 27, 28, 29, 30, 31, 32, 33, 34, 35, 36, 37, 38, 39, 40, 41, 6, 42, 43, 44, 45, 46, 47, 48, 49, 50, 51, 52, 53, 510, 511, 512, 513, 514, 515, 516, 517, 551, 552, 553, 554, 555, 556, 557, 558, 559, 560, 561, 562, 563, 564, 565, 566, 567, 568, 569, 570] (by decide +kernel) (by decide +kernel)
set_option maxRecDepth 20000 in
theorem gL_law_X6_init : GoodIn wsL_law (wsX6_init) := ggL_law_X6_init
set_option maxRecDepth 20000 in
theorem ggL_law_X7_init : GoodIn wsL_law wsX7_init := goodIn_ca (goodIn_r _ [56, 57, 16, 17, 37, 58, 59, 60, 61, 62, 63, 64, 65, 66, 6, 67, 68, 69, 70, 71, 72, 73, 74, 75, 76, 77, 78, 79, 80, 81, 82, 83, 84, 85, 518, 519, 520, 521, 522, 523, 524, 525, 526, 527, 528, 529, 530, 531, 532, 533, 534, 535, 536, 537, 538, 539, 540, 541, 542, 543, 544, 545, 546, 547, 548, 549, 550] (by decide +kernel) (by decide +kernel)) (goodIn_sub (fun _ h => List.mem_append_left _ (List.mem_append_left _ (List.mem_append_left _ (List.mem_append_right _ h)))) (by decide +kernel))
set_option maxRecDepth 20000 in
theorem gL_law_X7_init : GoodIn wsL_law (wsX7_init) := ggL_law_X7_init
set_option maxRecDepth 20000 in
theorem ggL_law_X6_file : GoodIn wsL_law wsX6_file := goodIn_ca (goodIn_r _ [89, 90, 38, 91, 92, 93, 2, 94, 95, 96, 97, 98, 99, 510, 511, 512, 513, 514, 515, 516, 517] (by decide +kernel) (by decide +kernel)) (goodIn_sub (fun _ h => List.mem_append_left _ (List.mem_append_left _ (List.mem_append_left _ (List.mem_append_right _ h)))) (by decide +kernel))
set_option maxRecDepth 20000 in
theorem gL_law_X6_file : GoodIn wsL_law (wsV RL 41 RX6 yX6_file wsX6_file) := goodIn_app (goodIn_of _ (by decide +kernel)) ggL_law_X6_file
set_option maxRecDepth 20000 in
theorem ggL_law_X7_file : GoodIn wsL_law wsX7_file := goodIn_ca (goodIn_r _ [103, 104, 105, 58, 106, 107, 5, 108, 109, 110, 111, 112, 113, 518, 519, 520, 521, 522, 523, 524, 525, 526, 527, 528, 529, 530, 531, 532, 533, 534, 535, 536, 537, 538, 539, 540, 541, 542, 543, 544, 545, 546, 547, 548, 549, 550] (by decide +kernel) (by decide +kernel)) (goodIn_sub (fun _ h => List.mem_append_left _ (List.mem_append_left _ (List.mem_append_left _ (List.mem_append_right _ h)))) (by decide +kernel))
set_option maxRecDepth 20000 in
theorem gL_law_X7_file : GoodIn wsL_law (wsV RL 45 RX7 yX7_file wsX7_file) := goodIn_app (goodIn_of _ (by decide +kernel)) ggL_law_X7_file
set_option maxRecDepth 20000 in
theorem ggL_law_X6_runnable : GoodIn wsL_law wsX6_runnable := goodIn_ca (goodIn_r _ [117, 38, 90, 118, 119, 120, 2, 121, 32, 91, 92, 93, 94, 95, 122, 123, 124, 125, 126, 127, 128, 129, 130, 131, 132, 133, 134, 135, 136, 31, 137, 138, 139, 140, 141, 37, 142, 143, 144, 145, 146, 147, 148, 149, 150, 151, 152, 153, 154, 155, 20, 21, 22, 156, 157, 158, 159, 160, 161, 162, 163, 164, 165, 166, 167, 168, 16, 17, 169, 170, 171, 172, 173, 174, 175, 176, 510, 511, 512, 513, 514, 515, 516, 517, 571, 572, 573, 574] (by decide +kernel) (by decide +kernel)) (goodIn_sub (fun _ h => List.mem_append_left _ (List.mem_append_left _ (List.mem_append_left _ (List.mem_append_right _ h)))) (by decide +kernel))
set_option maxRecDepth 20000 in
theorem gL_law_X6_runnable : GoodIn wsL_law (wsV RL 46 RX6 yX6_runnable wsX6_runnable) := goodIn_app (goodIn_of _ (by decide +kernel)) ggL_law_X6_runnable
set_option maxRecDepth 20000 in
theorem ggL_law_X7_runnable : GoodIn wsL_law wsX7_runnable := goodIn_ca (goodIn_r _ [180, 104, 181, 60, 105, 61, 58, 62, 106, 107, 5, 108, 109, 110, 111, 112, 113, 182, 183, 184, 185, 186, 187, 188, 189, 190, 191, 192, 193, 194, 195, 196, 63, 64, 65, 66, 518, 519, 520, 521, 522, 523, 524, 525, 526, 527, 528, 529, 530, 531, 532, 533, 534, 535, 536, 537, 538, 539, 540, 541, 542, 543, 544, 545, 546, 547, 548, 549, 550] (by decide +kernel) (by decide +kernel)) (goodIn_sub (fun _ h => List.mem_append_left _ (List.mem_append_left _ (List.mem_append_left _ (List.mem_append_right _ h)))) (by decide +kernel))
set_option maxRecDepth 20000 in
theorem gL_law_X7_runnable : GoodIn wsL_law (wsV RL 50 RX7 yX7_runnable wsX7_runnable) := goodIn_app (goodIn_of _ (by decide +kernel)) ggL_law_X7_runnable
set_option maxRecDepth 20000 in
theorem ggL_law_X6_make : GoodIn wsL_law wsX6_make := goodIn_r _ [200, 201, 202, 203, 204, 205, 206, 2, 207, 28, 118, 119, 120, 121, 32, 91, 92, 93, 94, 95, 208, 30, 209, 210, 44, 211, 212, 213, 16, 17, 6, 214, 215, 216, 217, 218, 219, 551, 552, 553, 554, 555, 556, 557, 558, 559, 575, 576, 577, 578, 571, 572, 573, 574, 510, 511, 512, 513, 514, 515, 516, 517] (by decide +kernel) (by decide +kernel)
set_option maxRecDepth 20000 in
theorem gL_law_X6_make : GoodIn wsL_law (wsV RL 51 RX6 yX6_make wsX6_make) := goodIn_app (goodIn_of _ (by decide +kernel)) ggL_law_X6_make
set_option maxRecDepth 20000 in
theorem ggL_law_X7_make : GoodIn wsL_law wsX7_make := goodIn_ca (goodIn_r _ [223, 104, 69, 76, 224, 225, 226, 5, 227, 106, 107, 108, 228, 229, 230, 231, 181, 109, 110, 111, 112, 113, 232, 233, 234, 235, 236, 237, 238, 60, 77, 78, 79, 518, 519, 520, 521, 522, 523, 524, 525, 526, 527, 528, 529, 530, 531, 532, 533, 534, 535, 536, 537, 538, 539, 540, 541, 542, 543, 544, 545, 546, 547, 548, 549, 550] (by decide +kernel) (by decide +kernel)) (goodIn_sub (fun _ h => List.mem_append_left _ (List.mem_append_left _ (List.mem_append_left _ (List.mem_append_right _ h)))) (by decide +kernel))
set_option maxRecDepth 20000 in
theorem gL_law_X7_make : GoodIn wsL_law (wsV RL 54 RX7 yX7_make wsX7_make) := goodIn_app (goodIn_of _ (by decide +kernel)) ggL_law_X7_make
set_option maxRecDepth 20000 in
theorem ggL_law_X6_power : GoodIn wsL_law wsX6_power := goodIn_ca (goodIn_ca (goodIn_r _ [242, 132, 204, 205, 206, 2, 207, 28, 91, 92, 93, 94, 95, 243, 244, 245, 246, 208, 30, 209, 210, 44, 118, 119, 120, 121, 32, 247, 248, 249, 250, 36, 26, 251, 35, 252, 253, 51, 52, 53, 254, 255, 256, 257, 258, 259, 260, 261, 262, 126, 127, 263, 264, 265, 266, 267, 48, 268, 269, 270, 271, 272, 273, 274, 275, 276, 277, 278, 279, 280, 281, 282, 283, 284, 285, 286, 287, 288, 289, 290, 291, 292, 293, 294, 295, 296, 297, 298, 299, 551, 552, 553, 554, 555, 556, 557, 558, 559, 510, 511, 512, 513, 514, 515, 516, 517, 575, 576, 577, 578, 571, 572, 573, 574, 560, 561, 562, 563, 564, 565, 566, 567, 568, 569, 570] (by decide +kernel) (by decide +kernel)) (goodIn_sub (fun _ h => List.mem_append_left _ (List.mem_append_left _ (List.mem_append_left _ (List.mem_append_right _ h)))) (by decide +kernel))) (goodIn_sub (fun _ h => List.mem_append_left _ (List.mem_append_left _ (List.mem_append_right _ h))) (by decide +kernel))
set_option maxRecDepth 20000 in
theorem gL_law_X6_power : GoodIn wsL_law (wsV RL 55 RX6 yX6_power wsX6_power) := goodIn_app (goodIn_of _ (by decide +kernel)) ggL_law_X6_power
set_option maxRecDepth 20000 in
theorem ggL_law_X7_power : GoodIn wsL_law wsX7_power := goodIn_ca (goodIn_ca (goodIn_r _ [303, 104, 69, 181, 76, 60, 63, 64, 224, 225, 226, 5, 227, 106, 107, 108, 109, 110, 111, 112, 113, 232, 233, 234, 190, 191, 192, 304, 305, 306, 307, 308, 309, 310, 311, 85, 61, 312, 313, 314, 315, 81, 316, 317, 318, 319, 77, 67, 320, 321, 322, 323, 324, 325, 326, 327, 328, 329, 330, 331, 332, 79, 80, 333, 334, 335, 336, 71, 72, 73, 74, 75, 518, 519, 520, 521, 522, 523, 524, 525, 526, 527, 528, 529, 530, 531, 532, 533, 534, 535, 536, 537, 538, 539, 540, 541, 542, 543, 544, 545, 546, 547, 548, 549, 550] (by decide +kernel) (by decide +kernel)) (goodIn_sub (fun _ h => List.mem_append_left _ (List.mem_append_left _ (List.mem_append_left _ (List.mem_append_right _ h)))) (by decide +kernel))) (goodIn_sub (fun _ h => List.mem_append_left _ (List.mem_append_left _ (List.mem_append_right _ h))) (by decide +kernel))
set_option maxRecDepth 20000 in
theorem gL_law_X7_power : GoodIn wsL_law (wsV RL 58 RX7 yX7_power wsX7_power) := goodIn_app (goodIn_of _ (by decide +kernel)) ggL_law_X7_power
set_option maxRecDepth 20000 in
theorem ggL_law_X6_run : GoodIn wsL_law wsX6_run := goodIn_ca (goodIn_ca (goodIn_r _ [340, 341, 342, 343, 2, 344, 36, 26, 204, 205, 206, 207, 28, 118, 119, 120, 121, 32, 91, 92, 93, 94, 95, 208, 30, 209, 210, 44, 345, 35, 346, 347, 49, 50, 348, 349, 350, 251, 252, 253, 51, 52, 53, 254, 255, 256, 257, 258, 259, 260, 261, 262, 126, 127, 263, 264, 265, 266, 267, 48, 268, 269, 270, 271, 272, 273, 274, 275, 276, 277, 278, 279, 280, 281, 282, 283, 284, 285, 286, 287, 288, 289, 290, 291, 292, 293, 294, 295, 296, 297, 298, 299, 247, 248, 249, 250, 351, 352, 353, 551, 552, 553, 554, 555, 556, 557, 558, 559, 575, 576, 577, 578, 571, 572, 573, 574, 510, 511, 512, 513, 514, 515, 516, 517, 560, 561, 562, 563, 564, 565, 566, 567, 568, 569, 570] (by decide +kernel) (by decide +kernel)) (goodIn_sub (fun _ h => List.mem_append_left _ (List.mem_append_left _ (List.mem_append_left _ (List.mem_append_right _ h)))) (by decide +kernel))) (goodIn_sub (fun _ h => List.mem_append_left _ (List.mem_append_left _ (List.mem_append_right _ h))) (by decide +kernel))
set_option maxRecDepth 20000 in
theorem gL_law_X6_run : GoodIn wsL_law (wsV RL 59 RX6 yX6_run wsX6_run) := goodIn_app (goodIn_of _ (by decide +kernel)) ggL_law_X6_run
set_option maxRecDepth 20000 in
theorem ggL_law_X7_run : GoodIn wsL_law wsX7_run := goodIn_ca (goodIn_ca (goodIn_r _ [357, 104, 70, 78, 69, 358, 359, 360, 5, 361, 76, 60, 224, 225, 226, 227, 106, 107, 108, 228, 229, 230, 231, 181, 232, 233, 234, 109, 110, 111, 112, 113, 362, 363, 364, 365, 65, 66, 190, 191, 192, 304, 305, 306, 307, 308, 309, 310, 311, 85, 61, 312, 313, 314, 315, 81, 316, 317, 318, 319, 77, 67, 320, 321, 322, 323, 324, 325, 326, 327, 328, 329, 330, 331, 332, 79, 80, 333, 334, 335, 336, 71, 72, 73, 74, 75, 518, 519, 520, 521, 522, 523, 524, 525, 526, 527, 528, 529, 530, 531, 532, 533, 534, 535, 536, 537, 538, 539, 540, 541, 542, 543, 544, 545, 546, 547, 548, 549, 550] (by decide +kernel) (by decide +kernel)) (goodIn_sub (fun _ h => List.mem_append_left _ (List.mem_append_left _ (List.mem_append_left _ (List.mem_append_right _ h)))) (by decide +kernel))) (goodIn_sub (fun _ h => List.mem_append_left _ (List.mem_append_left _ (List.mem_append_right _ h))) (by decide +kernel))
set_option maxRecDepth 20000 in
theorem gL_law_X7_run : GoodIn wsL_law (wsV RL 62 RX7 yX7_run wsX7_run) := goodIn_app (goodIn_of _ (by decide +kernel)) ggL_law_X7_run
set_option maxRecDepth 20000 in
theorem ggL_law_X6_beside : GoodIn wsL_law wsX6_beside := goodIn_ca (goodIn_ca (goodIn_r _ [369, 341, 342, 343, 2, 344, 36, 26, 204, 205, 206, 207, 28, 118, 119, 120, 121, 32, 91, 92, 93, 94, 95, 208, 30, 209, 210, 44, 345, 35, 346, 347, 49, 50, 348, 349, 350, 251, 252, 253, 51, 52, 53, 254, 255, 256, 257, 258, 259, 260, 261, 262, 126, 127, 263, 264, 265, 266, 267, 48, 268, 269, 270, 271, 272, 273, 274, 275, 276, 277, 278, 279, 280, 281, 282, 283, 284, 285, 286, 287, 288, 289, 290, 291, 292, 293, 294, 295, 296, 297, 298, 299, 247, 248, 249, 250, 351, 352, 353, 551, 552, 553, 554, 555, 556, 557, 558, 559, 575, 576, 577, 578, 571, 572, 573, 574, 510, 511, 512, 513, 514, 515, 516, 517, 560, 561, 562, 563, 564, 565, 566, 567, 568, 569, 570] (by decide +kernel) (by decide +kernel)) (goodIn_sub (fun _ h => List.mem_append_left _ (List.mem_append_left _ (List.mem_append_left _ (List.mem_append_right _ h)))) (by decide +kernel))) (goodIn_sub (fun _ h => List.mem_append_left _ (List.mem_append_left _ (List.mem_append_right _ h))) (by decide +kernel))
set_option maxRecDepth 20000 in
theorem gL_law_X6_beside : GoodIn wsL_law (wsV RL 63 RX6 yX6_beside wsX6_beside) := goodIn_app (goodIn_of _ (by decide +kernel)) ggL_law_X6_beside
set_option maxRecDepth 20000 in
theorem ggL_law_X7_beside : GoodIn wsL_law wsX7_beside := goodIn_ca (goodIn_ca (goodIn_r _ [373, 104, 82, 67, 83, 77, 79, 80, 358, 359, 360, 5, 361, 69, 76, 78, 60, 224, 225, 226, 227, 106, 107, 108, 228, 229, 230, 231, 181, 232, 233, 234, 109, 110, 111, 112, 113, 362, 363, 364, 365, 65, 66, 190, 191, 192, 304, 305, 306, 307, 308, 309, 310, 311, 85, 61, 312, 313, 314, 315, 81, 316, 317, 318, 319, 320, 321, 322, 323, 324, 325, 326, 327, 328, 329, 330, 331, 332, 518, 519, 520, 521, 522, 523, 524, 525, 526, 527, 528, 529, 530, 531, 532, 533, 534, 535, 536, 537, 538, 539, 540, 541, 542, 543, 544, 545, 546, 547, 548, 549, 550] (by decide +kernel) (by decide +kernel)) (goodIn_sub (fun _ h => List.mem_append_left _ (List.mem_append_left _ (List.mem_append_left _ (List.mem_append_right _ h)))) (by decide +kernel))) (goodIn_sub (fun _ h => List.mem_append_left _ (List.mem_append_left _ (List.mem_append_right _ h))) (by decide +kernel))
set_option maxRecDepth 20000 in
theorem gL_law_X7_beside : GoodIn wsL_law (wsV RL 66 RX7 yX7_beside wsX7_beside) := goodIn_app (goodIn_of _ (by decide +kernel)) ggL_law_X7_beside
set_option maxRecDepth 20000 in
theorem ggL_law_X6_port : GoodIn wsL_law wsX6_port := goodIn_ca (goodIn_r _ [377, 204, 205, 206, 2, 207, 28, 378, 280, 281, 551, 552, 553, 554, 555, 556, 557, 558, 559, 510, 511, 512, 513, 514, 515, 516, 517] (by decide +kernel) (by decide +kernel)) (goodIn_sub (fun _ h => List.mem_append_left _ (List.mem_append_left _ (List.mem_append_left _ (List.mem_append_right _ h)))) (by decide +kernel))
set_option maxRecDepth 20000 in
theorem gL_law_X6_port : GoodIn wsL_law (wsV RL 67 RX6 yX6_port wsX6_port) := goodIn_app (goodIn_of _ (by decide +kernel)) ggL_law_X6_port
set_option maxRecDepth 20000 in
theorem ggL_law_X7_port : GoodIn wsL_law wsX7_port := goodIn_ca (goodIn_r _ [382, 104, 67, 224, 225, 226, 5, 227, 106, 107, 108, 518, 519, 520, 521, 522, 523, 524, 525, 526, 527, 528, 529, 530, 531, 532, 533, 534, 535, 536, 537, 538, 539, 540, 541, 542, 543, 544, 545, 546, 547, 548, 549, 550] (by decide +kernel) (by decide +kernel)) (goodIn_sub (fun _ h => List.mem_append_left _ (List.mem_append_left _ (List.mem_append_left _ (List.mem_append_right _ h)))) (by decide +kernel))
set_option maxRecDepth 20000 in
theorem gL_law_X7_port : GoodIn wsL_law (wsV RL 71 RX7 yX7_port wsX7_port) := goodIn_app (goodIn_of _ (by decide +kernel)) ggL_law_X7_port
set_option maxRecDepth 20000 in
theorem ggL_law_X6_set : GoodIn wsL_law wsX6_set := goodIn_ca (goodIn_r _ [386, 204, 205, 206, 2, 207, 28, 91, 92, 93, 94, 95, 387, 286, 287, 551, 552, 553, 554, 555, 556, 557, 558, 559, 510, 511, 512, 513, 514, 515, 516, 517] (by decide +kernel) (by decide +kernel)) (goodIn_sub (fun _ h => List.mem_append_left _ (List.mem_append_left _ (List.mem_append_left _ (List.mem_append_right _ h)))) (by decide +kernel))
set_option maxRecDepth 20000 in
theorem gL_law_X6_set : GoodIn wsL_law (wsV RL 72 RX6 yX6_set wsX6_set) := goodIn_app (goodIn_of _ (by decide +kernel)) ggL_law_X6_set
set_option maxRecDepth 20000 in
theorem ggL_law_X7_set : GoodIn wsL_law wsX7_set := goodIn_ca (goodIn_r _ [391, 104, 67, 224, 225, 226, 5, 227, 106, 107, 108, 109, 110, 111, 112, 113, 518, 519, 520, 521, 522, 523, 524, 525, 526, 527, 528, 529, 530, 531, 532, 533, 534, 535, 536, 537, 538, 539, 540, 541, 542, 543, 544, 545, 546, 547, 548, 549, 550] (by decide +kernel) (by decide +kernel)) (goodIn_sub (fun _ h => List.mem_append_left _ (List.mem_append_left _ (List.mem_append_left _ (List.mem_append_right _ h)))) (by decide +kernel))
set_option maxRecDepth 20000 in
theorem gL_law_X7_set : GoodIn wsL_law (wsV RL 76 RX7 yX7_set wsX7_set) := goodIn_app (goodIn_of _ (by decide +kernel)) ggL_law_X7_set
set_option maxRecDepth 20000 in
theorem ggL_law_X6_cell : GoodIn wsL_law wsX6_cell := goodIn_ca (goodIn_r _ [395, 396, 397, 398, 2, 399, 204, 205, 206, 207, 28, 208, 30, 209, 210, 44, 378, 280, 281, 575, 576, 577, 578, 510, 511, 512, 513, 514, 515, 516, 517, 551, 552, 553, 554, 555, 556, 557, 558, 559] (by decide +kernel) (by decide +kernel)) (goodIn_sub (fun _ h => List.mem_append_left _ (List.mem_append_left _ (List.mem_append_left _ (List.mem_append_right _ h)))) (by decide +kernel))
set_option maxRecDepth 20000 in
theorem gL_law_X6_cell : GoodIn wsL_law (wsV RL 77 RX6 yX6_cell wsX6_cell) := goodIn_app (goodIn_of _ (by decide +kernel)) ggL_law_X6_cell
set_option maxRecDepth 20000 in
theorem ggL_law_X7_cell : GoodIn wsL_law wsX7_cell := goodIn_ca (goodIn_r _ [403, 104, 77, 404, 405, 406, 5, 407, 76, 224, 225, 226, 227, 106, 107, 108, 228, 229, 230, 231, 181, 232, 233, 234, 518, 519, 520, 521, 522, 523, 524, 525, 526, 527, 528, 529, 530, 531, 532, 533, 534, 535, 536, 537, 538, 539, 540, 541, 542, 543, 544, 545, 546, 547, 548, 549, 550] (by decide +kernel) (by decide +kernel)) (goodIn_sub (fun _ h => List.mem_append_left _ (List.mem_append_left _ (List.mem_append_left _ (List.mem_append_right _ h)))) (by decide +kernel))
set_option maxRecDepth 20000 in
theorem gL_law_X7_cell : GoodIn wsL_law (wsV RL 80 RX7 yX7_cell wsX7_cell) := goodIn_app (goodIn_of _ (by decide +kernel)) ggL_law_X7_cell
set_option maxRecDepth 20000 in
theorem ggL_law_X6_reaction : GoodIn wsL_law wsX6_reaction := goodIn_r _ [411, 204, 205, 206, 2, 207, 28, 91, 92, 93, 94, 95, 551, 552, 553, 554, 555, 556, 557, 558, 559, 510, 511, 512, 513, 514, 515, 516, 517] (by decide +kernel) (by decide +kernel)
set_option maxRecDepth 20000 in
theorem gL_law_X6_reaction : GoodIn wsL_law (wsV RL 81 RX6 yX6_reaction wsX6_reaction) := goodIn_app (goodIn_of _ (by decide +kernel)) ggL_law_X6_reaction
set_option maxRecDepth 20000 in
theorem ggL_law_X7_reaction : GoodIn wsL_law wsX7_reaction := goodIn_ca (goodIn_r _ [415, 104, 70, 224, 225, 226, 5, 227, 106, 107, 108, 109, 110, 111, 112, 113, 518, 519, 520, 521, 522, 523, 524, 525, 526, 527, 528, 529, 530, 531, 532, 533, 534, 535, 536, 537, 538, 539, 540, 541, 542, 543, 544, 545, 546, 547, 548, 549, 550] (by decide +kernel) (by decide +kernel)) (goodIn_sub (fun _ h => List.mem_append_left _ (List.mem_append_left _ (List.mem_append_left _ (List.mem_append_right _ h)))) (by decide +kernel))
set_option maxRecDepth 20000 in
theorem gL_law_X7_reaction : GoodIn wsL_law (wsV RL 84 RX7 yX7_reaction wsX7_reaction) := goodIn_app (goodIn_of _ (by decide +kernel)) ggL_law_X7_reaction
set_option maxRecDepth 20000 in
theorem ggL_law_X6_update : GoodIn wsL_law wsX6_update := goodIn_ca (goodIn_r _ [419, 204, 205, 206, 2, 207, 28, 118, 119, 120, 121, 32, 91, 92, 93, 94, 95, 208, 30, 209, 210, 44, 420, 203, 421, 422, 214, 216, 215, 423, 575, 576, 577, 578, 571, 572, 573, 574, 510, 511, 512, 513, 514, 515, 516, 517, 551, 552, 553, 554, 555, 556, 557, 558, 559] (by decide +kernel) (by decide +kernel)) (goodIn_sub (fun _ h => List.mem_append_left _ (List.mem_append_left _ (List.mem_append_left _ (List.mem_append_right _ h)))) (by decide +kernel))
set_option maxRecDepth 20000 in
theorem gL_law_X6_update : GoodIn wsL_law (wsV RL 85 RX6 yX6_update wsX6_update) := goodIn_app (goodIn_of _ (by decide +kernel)) ggL_law_X6_update
set_option maxRecDepth 20000 in
theorem ggL_law_X7_update : GoodIn wsL_law wsX7_update := goodIn_ca (goodIn_r _ [427, 104, 76, 60, 224, 225, 226, 5, 227, 106, 107, 108, 228, 229, 230, 231, 181, 109, 110, 111, 112, 113, 232, 233, 234, 235, 236, 237, 238, 77, 78, 79, 518, 519, 520, 521, 522, 523, 524, 525, 526, 527, 528, 529, 530, 531, 532, 533, 534, 535, 536, 537, 538, 539, 540, 541, 542, 543, 544, 545, 546, 547, 548, 549, 550] (by decide +kernel) (by decide +kernel)) (goodIn_sub (fun _ h => List.mem_append_left _ (List.mem_append_left _ (List.mem_append_left _ (List.mem_append_right _ h)))) (by decide +kernel))
set_option maxRecDepth 20000 in
theorem gL_law_X7_update : GoodIn wsL_law (wsV RL 88 RX7 yX7_update wsX7_update) := goodIn_app (goodIn_of _ (by decide +kernel)) ggL_law_X7_update
set_option maxRecDepth 20000 in
theorem ggL_law_X6_reset : GoodIn wsL_law wsX6_reset := goodIn_ca (goodIn_r _ [431, 132, 204, 205, 206, 2, 207, 28, 91, 92, 93, 94, 95, 432, 433, 144, 434, 208, 30, 209, 210, 44, 118, 119, 120, 121, 32, 420, 203, 421, 422, 214, 216, 215, 423, 551, 552, 553, 554, 555, 556, 557, 558, 559, 510, 511, 512, 513, 514, 515, 516, 517, 571, 572, 573, 574, 575, 576, 577, 578] (by decide +kernel) (by decide +kernel)) (goodIn_sub (fun _ h => List.mem_append_left _ (List.mem_append_left _ (List.mem_append_left _ (List.mem_append_right _ h)))) (by decide +kernel))
set_option maxRecDepth 20000 in
theorem gL_law_X6_reset : GoodIn wsL_law (wsV RL 89 RX6 yX6_reset wsX6_reset) := goodIn_app (goodIn_of _ (by decide +kernel)) ggL_law_X6_reset
set_option maxRecDepth 20000 in
theorem ggL_law_X7_reset : GoodIn wsL_law wsX7_reset := goodIn_ca (goodIn_r _ [438, 104, 69, 67, 181, 76, 224, 225, 226, 5, 227, 106, 107, 108, 109, 110, 111, 112, 113, 232, 233, 234, 235, 236, 237, 238, 60, 77, 78, 79, 518, 519, 520, 521, 522, 523, 524, 525, 526, 527, 528, 529, 530, 531, 532, 533, 534, 535, 536, 537, 538, 539, 540, 541, 542, 543, 544, 545, 546, 547, 548, 549, 550] (by decide +kernel) (by decide +kernel)) (goodIn_sub (fun _ h => List.mem_append_left _ (List.mem_append_left _ (List.mem_append_left _ (List.mem_append_right _ h)))) (by decide +kernel))
set_option maxRecDepth 20000 in
theorem gL_law_X7_reset : GoodIn wsL_law (wsV RL 92 RX7 yX7_reset wsX7_reset) := goodIn_app (goodIn_of _ (by decide +kernel)) ggL_law_X7_reset
set_option maxRecDepth 20000 in
theorem ggL_law_X6_fault : GoodIn wsL_law wsX6_fault := goodIn_r _ [442, 204, 205, 206, 2, 207, 28, 91, 92, 93, 94, 95, 551, 552, 553, 554, 555, 556, 557, 558, 559, 510, 511, 512, 513, 514, 515, 516, 517] (by decide +kernel) (by decide +kernel)
set_option maxRecDepth 20000 in
theorem gL_law_X6_fault : GoodIn wsL_law (wsV RL 93 RX6 yX6_fault wsX6_fault) := goodIn_app (goodIn_of _ (by decide +kernel)) ggL_law_X6_fault
set_option maxRecDepth 20000 in
theorem ggL_law_X7_fault : GoodIn wsL_law wsX7_fault := goodIn_ca (goodIn_r _ [446, 104, 71, 72, 73, 74, 75, 69, 224, 225, 226, 5, 227, 106, 107, 108, 109, 110, 111, 112, 113, 518, 519, 520, 521, 522, 523, 524, 525, 526, 527, 528, 529, 530, 531, 532, 533, 534, 535, 536, 537, 538, 539, 540, 541, 542, 543, 544, 545, 546, 547, 548, 549, 550] (by decide +kernel) (by decide +kernel)) (goodIn_sub (fun _ h => List.mem_append_left _ (List.mem_append_left _ (List.mem_append_left _ (List.mem_append_right _ h)))) (by decide +kernel))
set_option maxRecDepth 20000 in
theorem gL_law_X7_fault : GoodIn wsL_law (wsV RL 96 RX7 yX7_fault wsX7_fault) := goodIn_app (goodIn_of _ (by decide +kernel)) ggL_law_X7_fault
set_option maxRecDepth 20000 in
theorem ggL_law_X6_same : GoodIn wsL_law wsX6_same := goodIn_ca (goodIn_r _ [450, 396, 397, 398, 2, 399, 204, 205, 206, 207, 28, 208, 30, 209, 210, 44, 378, 280, 281, 575, 576, 577, 578, 510, 511, 512, 513, 514, 515, 516, 517, 551, 552, 553, 554, 555, 556, 557, 558, 559] (by decide +kernel) (by decide +kernel)) (goodIn_sub (fun _ h => List.mem_append_left _ (List.mem_append_left _ (List.mem_append_left _ (List.mem_append_right _ h)))) (by decide +kernel))
set_option maxRecDepth 20000 in
theorem gL_law_X6_same : GoodIn wsL_law (wsV RL 97 RX6 yX6_same wsX6_same) := goodIn_app (goodIn_of _ (by decide +kernel)) ggL_law_X6_same
set_option maxRecDepth 20000 in
theorem ggL_law_X7_same : GoodIn wsL_law wsX7_same := goodIn_ca (goodIn_r _ [454, 104, 76, 77, 404, 405, 406, 5, 407, 224, 225, 226, 227, 106, 107, 108, 228, 229, 230, 231, 181, 232, 233, 234, 518, 519, 520, 521, 522, 523, 524, 525, 526, 527, 528, 529, 530, 531, 532, 533, 534, 535, 536, 537, 538, 539, 540, 541, 542, 543, 544, 545, 546, 547, 548, 549, 550] (by decide +kernel) (by decide +kernel)) (goodIn_sub (fun _ h => List.mem_append_left _ (List.mem_append_left _ (List.mem_append_left _ (List.mem_append_right _ h)))) (by decide +kernel))
set_option maxRecDepth 20000 in
theorem gL_law_X7_same : GoodIn wsL_law (wsV RL 101 RX7 yX7_same wsX7_same) := goodIn_app (goodIn_of _ (by decide +kernel)) ggL_law_X7_same
set_option maxRecDepth 20000 in
theorem ggL_law_L_handle : GoodIn wsL_law wsL_handle := goodIn_ca (goodIn_ca (goodIn_r _ [457, 458, 459, 460, 461, 2, 462, 463, 464, 396, 397, 398, 399, 204, 205, 206, 207, 28, 208, 30, 209, 210, 44, 118, 119, 120, 121, 32, 91, 92, 93, 94, 95, 575, 576, 577, 578, 510, 511, 512, 513, 514, 515, 516, 517, 551, 552, 553, 554, 555, 556, 557, 558, 559] (by decide +kernel) (by decide +kernel)) (goodIn_sub (fun _ h => List.mem_append_left _ (List.mem_append_left _ (List.mem_append_left _ (List.mem_append_right _ h)))) (by decide +kernel))) (goodIn_sub (fun _ h => List.mem_append_left _ (List.mem_append_right _ h)) (by decide +kernel))
set_option maxRecDepth 20000 in
theorem gL_law_L_handle : GoodIn wsL_law (va_wsS RL 102 yL_handle wsL_handle) := goodIn_app (goodIn_of _ (by decide +kernel)) ggL_law_L_handle
set_option maxRecDepth 20000 in
theorem ggL_law_X7_handle : GoodIn wsL_law wsX7_handle := goodIn_ca (goodIn_r _ [468, 79, 104, 404, 405, 406, 5, 407, 76, 224, 225, 226, 227, 106, 107, 108, 228, 229, 230, 231, 181, 232, 233, 234, 109, 110, 111, 112, 113, 518, 519, 520, 521, 522, 523, 524, 525, 526, 527, 528, 529, 530, 531, 532, 533, 534, 535, 536, 537, 538, 539, 540, 541, 542, 543, 544, 545, 546, 547, 548, 549, 550] (by decide +kernel) (by decide +kernel)) (goodIn_sub (fun _ h => List.mem_append_left _ (List.mem_append_left _ (List.mem_append_left _ (List.mem_append_right _ h)))) (by decide +kernel))
set_option maxRecDepth 20000 in
theorem gL_law_X7_handle : GoodIn wsL_law (wsV RL 105 RX7 yX7_handle wsX7_handle) := goodIn_app (goodIn_of _ (by decide +kernel)) ggL_law_X7_handle
set_option maxRecDepth 20000 in
theorem ggL_law_X7_thrown : GoodIn wsL_law wsX7_thrown := goodIn_r _ [472, 104, 518, 519, 520, 521, 522, 523, 524, 525, 526, 527, 528, 529, 530, 531, 532, 533, 534, 535, 536, 537, 538, 539, 540, 541, 542, 543, 544, 545, 546, 547, 548, 549, 550] (by decide +kernel) (by decide +kernel)
set_option maxRecDepth 20000 in
theorem gL_law_X7_thrown : GoodIn wsL_law (wsV RL 106 RX7 yX7_thrown wsX7_thrown) := goodIn_app (goodIn_of _ (by decide +kernel)) ggL_law_X7_thrown
set_option maxRecDepth 20000 in
theorem ggL_law_L_octet : GoodIn wsL_law wsL_octet := goodIn_ca (goodIn_r _ [475, 476, 477, 478, 479, 2, 480, 481, 482, 483, 118, 119, 120, 121, 32, 571, 572, 573, 574, 579, 580, 581, 582, 583, 584, 510, 511, 512, 513, 514, 515, 516, 517] (by decide +kernel) (by decide +kernel)) (goodIn_sub (fun _ h => List.mem_append_left _ (List.mem_append_left _ (List.mem_append_left _ (List.mem_append_right _ h)))) (by decide +kernel))
set_option maxRecDepth 20000 in
theorem gL_law_L_octet : GoodIn wsL_law (va_wsS RL 110 yL_octet wsL_octet) := goodIn_app (goodIn_of _ (by decide +kernel)) ggL_law_L_octet
set_option maxRecDepth 20000 in
theorem ggL_law_X7_octet : GoodIn wsL_law wsX7_octet := goodIn_ca (goodIn_r _ [487, 62, 60, 104, 61, 228, 229, 230, 5, 231, 181, 106, 107, 108, 190, 191, 192, 518, 519, 520, 521, 522, 523, 524, 525, 526, 527, 528, 529, 530, 531, 532, 533, 534, 535, 536, 537, 538, 539, 540, 541, 542, 543, 544, 545, 546, 547, 548, 549, 550] (by decide +kernel) (by decide +kernel)) (goodIn_sub (fun _ h => List.mem_append_left _ (List.mem_append_left _ (List.mem_append_left _ (List.mem_append_right _ h)))) (by decide +kernel))
set_option maxRecDepth 20000 in
theorem gL_law_X7_octet : GoodIn wsL_law (wsV RL 112 RX7 yX7_octet wsX7_octet) := goodIn_app (goodIn_of _ (by decide +kernel)) ggL_law_X7_octet
set_option maxRecDepth 20000 in
theorem ggL_law_L_divide : GoodIn wsL_law wsL_divide := goodIn_ca (goodIn_ca (goodIn_ca (goodIn_r _ [490, 491, 492, 493, 494, 2, 495, 496, 497] (by decide +kernel) (by decide +kernel)) (goodIn_sub (fun _ h => List.mem_append_left _ (List.mem_append_left _ (List.mem_append_left _ (List.mem_append_right _ h)))) (by decide +kernel))) (goodIn_sub (fun _ h => List.mem_append_right _ h) (by decide +kernel))) (goodIn_sub (fun _ h => List.mem_append_left _ (List.mem_append_left _ (List.mem_append_right _ h))) (by decide +kernel))
set_option maxRecDepth 20000 in
theorem gL_law_L_divide : GoodIn wsL_law (va_wsS RL 113 yL_divide wsL_divide) := goodIn_app (goodIn_of _ (by decide +kernel)) ggL_law_L_divide
set_option maxRecDepth 20000 in
theorem ggL_law_X7_divide : GoodIn wsL_law wsX7_divide := goodIn_ca (goodIn_r _ [501, 104, 518, 519, 520, 521, 522, 523, 524, 525, 526, 527, 528, 529, 530, 531, 532, 533, 534, 535, 536, 537, 538, 539, 540, 541, 542, 543, 544, 545, 546, 547, 548, 549, 550] (by decide +kernel) (by decide +kernel)) (goodIn_sub (fun _ h => List.mem_append_left _ (List.mem_append_left _ (List.mem_append_right _ h))) (by decide +kernel))
set_option maxRecDepth 20000 in
theorem gL_law_X7_divide : GoodIn wsL_law (wsV RL 116 RX7 yX7_divide wsX7_divide) := goodIn_app (goodIn_of _ (by decide +kernel)) ggL_law_X7_divide
set_option maxRecDepth 20000 in
theorem ggL_law_X6_refused : GoodIn wsL_law wsX6_refused := goodIn_r _ [505, 95, 510, 511, 512, 513, 514, 515, 516, 517] (by decide +kernel) (by decide +kernel)
set_option maxRecDepth 20000 in
theorem gL_law_X6_refused : GoodIn wsL_law (wsV RL 117 RX6 yX6_refused wsX6_refused) := goodIn_app (goodIn_of _ (by decide +kernel)) ggL_law_X6_refused
set_option maxRecDepth 20000 in
theorem ggL_law_X7_refused : GoodIn wsL_law wsX7_refused := goodIn_r _ [509, 104, 113, 518, 519, 520, 521, 522, 523, 524, 525, 526, 527, 528, 529, 530, 531, 532, 533, 534, 535, 536, 537, 538, 539, 540, 541, 542, 543, 544, 545, 546, 547, 548, 549, 550] (by decide +kernel) (by decide +kernel)
set_option maxRecDepth 20000 in
theorem gL_law_X7_refused : GoodIn wsL_law (wsV RL 120 RX7 yX7_refused wsX7_refused) := goodIn_app (goodIn_of _ (by decide +kernel)) ggL_law_X7_refused
