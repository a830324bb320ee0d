set_option maxRecDepth 20000 in
theorem ggL_day_X1_day : GoodIn wsL_day wsX1_day := goodIn_ca (goodIn_r _ [6, 7, 8, 9, 10, 11, 12, 13, 14, 15, 16, 5, 17, 18, 19, 20, 21, 22, 23, 24, 25, 26, 27, 28, 29, 30, 31, 32, 33, 34, 35, 36, 37] (by decide +kernel) (by decide +kernel)) (goodIn_sub (fun _ h => List.mem_cons_of_mem _ (List.mem_append_right _ h)) (by decide +kernel))
set_option maxRecDepth 20000 in
theorem gL_day_X1_day : GoodIn wsL_day (wsV RL 7 RX1 yX1_day wsX1_day) := goodIn_app (goodIn_of _ (by decide +kernel)) ggL_day_X1_day
theorem dL_day_0 : decode cL_day 0 = .ok (.aload 5, 2) := by decide +kernel
theorem dL_day_2 : decode cL_day 2 = .ok (.iconst 0, 1) := by decide +kernel
theorem dL_day_3 : decode cL_day 3 = .ok (.aload_n 0, 1) := by decide +kernel
theorem dL_day_4 : decode cL_day 4 = .ok (.iload_n 1, 1) := by decide +kernel
theorem dL_day_5 : decode cL_day 5 = .ok (.iload_n 2, 1) := by decide +kernel
theorem dL_day_6 : decode cL_day 6 = .ok (.iload_n 3, 1) := by decide +kernel
theorem dL_day_7 : decode cL_day 7 = .ok (.iload 4, 2) := by decide +kernel
theorem dL_day_9 : decode cL_day 9 = .ok (.invokevirtual 7, 3) := by decide +kernel
theorem dL_day_12 : decode cL_day 12 = .ok (.lastore, 1) := by decide +kernel
theorem dL_day_13 : decode cL_day 13 = .ok (.goto 7, 3) := by decide +kernel
theorem dL_day_16 : decode cL_day 16 = .ok (.astore 6, 2) := by decide +kernel
theorem dL_day_18 : decode cL_day 18 = .ok (.iconst 1, 1) := by decide +kernel
theorem dL_day_19 : decode cL_day 19 = .ok (.ireturn, 1) := by decide +kernel
theorem dL_day_20 : decode cL_day 20 = .ok (.iconst 0, 1) := by decide +kernel
theorem dL_day_21 : decode cL_day 21 = .ok (.ireturn, 1) := by decide +kernel
set_option maxRecDepth 20000 in
theorem ggL_date_X1_date : GoodIn wsL_date wsX1_date := goodIn_ca (goodIn_r _ [6, 7, 8, 9, 10, 11, 12, 13, 14, 15, 16, 17, 5, 18, 19, 20, 21, 22, 23, 24, 25, 26, 27, 28, 29, 30, 31, 32, 33, 34, 35, 36, 37, 38, 39, 40, 41, 42, 43, 44, 45, 46, 47, 48, 49, 50] (by decide +kernel) (by decide +kernel)) (goodIn_sub (fun _ h => List.mem_cons_of_mem _ (List.mem_append_right _ h)) (by decide +kernel))
set_option maxRecDepth 20000 in
theorem gL_date_X1_date : GoodIn wsL_date (wsV RL 15 RX1 yX1_date wsX1_date) := goodIn_app (goodIn_of _ (by decide +kernel)) ggL_date_X1_date
theorem dL_date_0 : decode cL_date 0 = .ok (.aload 5, 2) := by decide +kernel
theorem dL_date_2 : decode cL_date 2 = .ok (.iconst 0, 1) := by decide +kernel
theorem dL_date_3 : decode cL_date 3 = .ok (.aload_n 0, 1) := by decide +kernel
theorem dL_date_4 : decode cL_date 4 = .ok (.iload_n 1, 1) := by decide +kernel
theorem dL_date_5 : decode cL_date 5 = .ok (.lload_n 2, 1) := by decide +kernel
theorem dL_date_6 : decode cL_date 6 = .ok (.iload 4, 2) := by decide +kernel
theorem dL_date_8 : decode cL_date 8 = .ok (.invokevirtual 15, 3) := by decide +kernel
theorem dL_date_11 : decode cL_date 11 = .ok (.i2l, 1) := by decide +kernel
theorem dL_date_12 : decode cL_date 12 = .ok (.lastore, 1) := by decide +kernel
theorem dL_date_13 : decode cL_date 13 = .ok (.goto 7, 3) := by decide +kernel
theorem dL_date_16 : decode cL_date 16 = .ok (.astore 6, 2) := by decide +kernel
theorem dL_date_18 : decode cL_date 18 = .ok (.iconst 1, 1) := by decide +kernel
theorem dL_date_19 : decode cL_date 19 = .ok (.ireturn, 1) := by decide +kernel
theorem dL_date_20 : decode cL_date 20 = .ok (.iconst 0, 1) := by decide +kernel
theorem dL_date_21 : decode cL_date 21 = .ok (.ireturn, 1) := by decide +kernel
set_option maxRecDepth 20000 in
theorem ggL_easter_X1_easter : GoodIn wsL_easter wsX1_easter := goodIn_ca (goodIn_r _ [6, 7, 8, 9, 10, 11, 12, 13, 5, 14, 15, 16, 17, 18, 19, 20, 21, 22, 23, 24, 25, 26, 27, 28, 29, 30, 31, 32, 33, 34, 35, 36, 37] (by decide +kernel) (by decide +kernel)) (goodIn_sub (fun _ h => List.mem_cons_of_mem _ (List.mem_append_right _ h)) (by decide +kernel))
set_option maxRecDepth 20000 in
theorem gL_easter_X1_easter : GoodIn wsL_easter (wsV RL 19 RX1 yX1_easter wsX1_easter) := goodIn_app (goodIn_of _ (by decide +kernel)) ggL_easter_X1_easter
theorem dL_easter_0 : decode cL_easter 0 = .ok (.aload_n 2, 1) := by decide +kernel
theorem dL_easter_1 : decode cL_easter 1 = .ok (.iconst 0, 1) := by decide +kernel
theorem dL_easter_2 : decode cL_easter 2 = .ok (.aload_n 0, 1) := by decide +kernel
theorem dL_easter_3 : decode cL_easter 3 = .ok (.iload_n 1, 1) := by decide +kernel
theorem dL_easter_4 : decode cL_easter 4 = .ok (.invokevirtual 19, 3) := by decide +kernel
theorem dL_easter_7 : decode cL_easter 7 = .ok (.lastore, 1) := by decide +kernel
theorem dL_easter_8 : decode cL_easter 8 = .ok (.goto 6, 3) := by decide +kernel
theorem dL_easter_11 : decode cL_easter 11 = .ok (.astore_n 3, 1) := by decide +kernel
theorem dL_easter_12 : decode cL_easter 12 = .ok (.iconst 1, 1) := by decide +kernel
theorem dL_easter_13 : decode cL_easter 13 = .ok (.ireturn, 1) := by decide +kernel
theorem dL_easter_14 : decode cL_easter 14 = .ok (.iconst 0, 1) := by decide +kernel
theorem dL_easter_15 : decode cL_easter 15 = .ok (.ireturn, 1) := by decide +kernel
set_option maxRecDepth 20000 in
theorem ggL_orbit_X1_orbit : GoodIn wsL_orbit wsX1_orbit := goodIn_ca (goodIn_ca (goodIn_r _ [7, 8, 9, 10, 11, 12, 13, 14, 15, 16, 17, 18, 19, 6, 20, 21, 22, 23, 24, 25, 26, 27, 28, 29, 30, 31, 32, 33, 34, 35, 36, 37] (by decide +kernel) (by decide +kernel)) (goodIn_sub (fun _ h => List.mem_cons_of_mem _ (List.mem_append_left _ (List.mem_append_right _ h))) (by decide +kernel))) (goodIn_sub (fun _ h => List.mem_cons_of_mem _ (List.mem_append_right _ h)) (by decide +kernel))
set_option maxRecDepth 20000 in
theorem gL_orbit_X1_orbit : GoodIn wsL_orbit (wsV RL 23 RX1 yX1_orbit wsX1_orbit) := goodIn_app (goodIn_of _ (by decide +kernel)) ggL_orbit_X1_orbit
theorem dL_orbit_0 : decode cL_orbit 0 = .ok (.aload 10, 2) := by decide +kernel
theorem dL_orbit_2 : decode cL_orbit 2 = .ok (.iconst 0, 1) := by decide +kernel
theorem dL_orbit_3 : decode cL_orbit 3 = .ok (.aload_n 0, 1) := by decide +kernel
theorem dL_orbit_4 : decode cL_orbit 4 = .ok (.iload_n 1, 1) := by decide +kernel
theorem dL_orbit_5 : decode cL_orbit 5 = .ok (.dload_n 2, 1) := by decide +kernel
theorem dL_orbit_6 : decode cL_orbit 6 = .ok (.dload 4, 2) := by decide +kernel
theorem dL_orbit_8 : decode cL_orbit 8 = .ok (.dload 6, 2) := by decide +kernel
theorem dL_orbit_10 : decode cL_orbit 10 = .ok (.dload 8, 2) := by decide +kernel
theorem dL_orbit_12 : decode cL_orbit 12 = .ok (.invokevirtual 23, 3) := by decide +kernel
theorem dL_orbit_15 : decode cL_orbit 15 = .ok (.ifCond .eq 7, 3) := by decide +kernel
theorem dL_orbit_18 : decode cL_orbit 18 = .ok (.lconst 1, 1) := by decide +kernel
theorem dL_orbit_19 : decode cL_orbit 19 = .ok (.goto 4, 3) := by decide +kernel
theorem dL_orbit_22 : decode cL_orbit 22 = .ok (.lconst 0, 1) := by decide +kernel
theorem dL_orbit_23 : decode cL_orbit 23 = .ok (.lastore, 1) := by decide +kernel
theorem dL_orbit_24 : decode cL_orbit 24 = .ok (.goto 11, 3) := by decide +kernel
theorem dL_orbit_27 : decode cL_orbit 27 = .ok (.astore 11, 2) := by decide +kernel
theorem dL_orbit_29 : decode cL_orbit 29 = .ok (.iconst 1, 1) := by decide +kernel
theorem dL_orbit_30 : decode cL_orbit 30 = .ok (.ireturn, 1) := by decide +kernel
theorem dL_orbit_31 : decode cL_orbit 31 = .ok (.astore 11, 2) := by decide +kernel
theorem dL_orbit_33 : decode cL_orbit 33 = .ok (.iconst 2, 1) := by decide +kernel
theorem dL_orbit_34 : decode cL_orbit 34 = .ok (.ireturn, 1) := by decide +kernel
theorem dL_orbit_35 : decode cL_orbit 35 = .ok (.iconst 0, 1) := by decide +kernel
theorem dL_orbit_36 : decode cL_orbit 36 = .ok (.ireturn, 1) := by decide +kernel
set_option maxRecDepth 20000 in
theorem ggL_term_X1_term : GoodIn wsL_term wsX1_term := goodIn_ca (goodIn_ca (goodIn_ca (goodIn_r _ [8, 9, 10, 11, 12, 13, 14, 15, 16, 17, 18, 19, 20, 21, 22, 7, 23, 24, 25, 26, 27, 28, 29, 30, 31, 32, 33, 34, 35, 36, 37, 38, 39, 40, 41, 42, 43, 44, 45, 46, 47, 48, 49] (by decide +kernel) (by decide +kernel)) (goodIn_sub (fun _ h => List.mem_cons_of_mem _ (List.mem_append_left _ (List.mem_append_left _ (List.mem_append_right _ h)))) (by decide +kernel))) (goodIn_sub (fun _ h => List.mem_cons_of_mem _ (List.mem_append_left _ (List.mem_append_right _ h))) (by decide +kernel))) (goodIn_sub (fun _ h => List.mem_cons_of_mem _ (List.mem_append_right _ h)) (by decide +kernel))
set_option maxRecDepth 20000 in
theorem gL_term_X1_term : GoodIn wsL_term (wsV RL 29 RX1 yX1_term wsX1_term) := goodIn_app (goodIn_of _ (by decide +kernel)) ggL_term_X1_term
theorem dL_term_0 : decode cL_term 0 = .ok (.aload 9, 2) := by decide +kernel
theorem dL_term_2 : decode cL_term 2 = .ok (.iconst 0, 1) := by decide +kernel
theorem dL_term_3 : decode cL_term 3 = .ok (.aload_n 0, 1) := by decide +kernel
theorem dL_term_4 : decode cL_term 4 = .ok (.iload_n 1, 1) := by decide +kernel
theorem dL_term_5 : decode cL_term 5 = .ok (.iload_n 2, 1) := by decide +kernel
theorem dL_term_6 : decode cL_term 6 = .ok (.dload_n 3, 1) := by decide +kernel
theorem dL_term_7 : decode cL_term 7 = .ok (.dload 5, 2) := by decide +kernel
theorem dL_term_9 : decode cL_term 9 = .ok (.dload 7, 2) := by decide +kernel
theorem dL_term_11 : decode cL_term 11 = .ok (.invokevirtual 29, 3) := by decide +kernel
theorem dL_term_14 : decode cL_term 14 = .ok (.i2l, 1) := by decide +kernel
theorem dL_term_15 : decode cL_term 15 = .ok (.lastore, 1) := by decide +kernel
theorem dL_term_16 : decode cL_term 16 = .ok (.goto 15, 3) := by decide +kernel
theorem dL_term_19 : decode cL_term 19 = .ok (.astore 10, 2) := by decide +kernel
theorem dL_term_21 : decode cL_term 21 = .ok (.iconst 1, 1) := by decide +kernel
theorem dL_term_22 : decode cL_term 22 = .ok (.ireturn, 1) := by decide +kernel
theorem dL_term_23 : decode cL_term 23 = .ok (.astore 10, 2) := by decide +kernel
theorem dL_term_25 : decode cL_term 25 = .ok (.iconst 2, 1) := by decide +kernel
theorem dL_term_26 : decode cL_term 26 = .ok (.ireturn, 1) := by decide +kernel
theorem dL_term_27 : decode cL_term 27 = .ok (.astore 10, 2) := by decide +kernel
theorem dL_term_29 : decode cL_term 29 = .ok (.iconst 3, 1) := by decide +kernel
theorem dL_term_30 : decode cL_term 30 = .ok (.ireturn, 1) := by decide +kernel
theorem dL_term_31 : decode cL_term 31 = .ok (.iconst 0, 1) := by decide +kernel
theorem dL_term_32 : decode cL_term 32 = .ok (.ireturn, 1) := by decide +kernel
set_option maxRecDepth 20000 in
theorem ggL_observer_X1_observer : GoodIn wsL_observer wsX1_observer := goodIn_ca (goodIn_r _ [6, 7, 8, 9, 10, 11, 12, 13, 14, 15, 16, 5, 17, 18, 19, 20, 21, 22, 23, 24] (by decide +kernel) (by decide +kernel)) (goodIn_sub (fun _ h => List.mem_cons_of_mem _ (List.mem_append_right _ h)) (by decide +kernel))
set_option maxRecDepth 20000 in
theorem gL_observer_X1_observer : GoodIn wsL_observer (wsV RL 37 RX1 yX1_observer wsX1_observer) := goodIn_app (goodIn_of _ (by decide +kernel)) ggL_observer_X1_observer
theorem dL_observer_0 : decode cL_observer 0 = .ok (.aload 5, 2) := by decide +kernel
theorem dL_observer_2 : decode cL_observer 2 = .ok (.iconst 0, 1) := by decide +kernel
theorem dL_observer_3 : decode cL_observer 3 = .ok (.aload_n 0, 1) := by decide +kernel
theorem dL_observer_4 : decode cL_observer 4 = .ok (.dload_n 1, 1) := by decide +kernel
theorem dL_observer_5 : decode cL_observer 5 = .ok (.dload_n 3, 1) := by decide +kernel
theorem dL_observer_6 : decode cL_observer 6 = .ok (.invokevirtual 37, 3) := by decide +kernel
theorem dL_observer_9 : decode cL_observer 9 = .ok (.ifCond .eq 7, 3) := by decide +kernel
theorem dL_observer_12 : decode cL_observer 12 = .ok (.lconst 1, 1) := by decide +kernel
theorem dL_observer_13 : decode cL_observer 13 = .ok (.goto 4, 3) := by decide +kernel
theorem dL_observer_16 : decode cL_observer 16 = .ok (.lconst 0, 1) := by decide +kernel
theorem dL_observer_17 : decode cL_observer 17 = .ok (.lastore, 1) := by decide +kernel
theorem dL_observer_18 : decode cL_observer 18 = .ok (.goto 7, 3) := by decide +kernel
theorem dL_observer_21 : decode cL_observer 21 = .ok (.astore 6, 2) := by decide +kernel
theorem dL_observer_23 : decode cL_observer 23 = .ok (.iconst 1, 1) := by decide +kernel
theorem dL_observer_24 : decode cL_observer 24 = .ok (.ireturn, 1) := by decide +kernel
theorem dL_observer_25 : decode cL_observer 25 = .ok (.iconst 0, 1) := by decide +kernel
theorem dL_observer_26 : decode cL_observer 26 = .ok (.ireturn, 1) := by decide +kernel
set_option maxRecDepth 20000 in
theorem ggL_longitude_X1_longitude : GoodIn wsL_longitude wsX1_longitude := goodIn_ca (goodIn_ca (goodIn_ca (goodIn_r _ [8, 9, 10, 11, 12, 13, 7, 14, 15, 16, 17, 18, 19, 20, 21, 22, 23, 24, 25, 26, 27, 28, 29, 30, 31, 32, 33, 34, 35, 36, 37, 38, 39, 40, 41, 42, 43, 44, 45, 46, 47, 48, 49, 50, 51, 52, 53, 54, 55, 56, 57, 58, 59, 60, 61, 62, 63, 64, 65, 66, 67, 68, 69, 70, 71, 72, 73, 74, 75, 76, 77, 78, 79, 80, 81, 82, 83, 84, 85, 86, 87, 88, 89, 90, 91, 92, 93, 94, 95, 96, 97] (by decide +kernel) (by decide +kernel)) (goodIn_sub (fun _ h => List.mem_cons_of_mem _ (List.mem_append_left _ (List.mem_append_left _ (List.mem_append_right _ h)))) (by decide +kernel))) (goodIn_sub (fun _ h => List.mem_cons_of_mem _ (List.mem_append_left _ (List.mem_append_right _ h))) (by decide +kernel))) (goodIn_sub (fun _ h => List.mem_cons_of_mem _ (List.mem_append_right _ h)) (by decide +kernel))
set_option maxRecDepth 20000 in
theorem gL_longitude_X1_longitude : GoodIn wsL_longitude (wsV RL 41 RX1 yX1_longitude wsX1_longitude) := goodIn_app (goodIn_of _ (by decide +kernel)) ggL_longitude_X1_longitude
theorem dL_longitude_0 : decode cL_longitude 0 = .ok (.aload 4, 2) := by decide +kernel
theorem dL_longitude_2 : decode cL_longitude 2 = .ok (.iconst 0, 1) := by decide +kernel
theorem dL_longitude_3 : decode cL_longitude 3 = .ok (.aload_n 0, 1) := by decide +kernel
theorem dL_longitude_4 : decode cL_longitude 4 = .ok (.iload_n 1, 1) := by decide +kernel
theorem dL_longitude_5 : decode cL_longitude 5 = .ok (.dload_n 2, 1) := by decide +kernel
theorem dL_longitude_6 : decode cL_longitude 6 = .ok (.invokevirtual 41, 3) := by decide +kernel
theorem dL_longitude_9 : decode cL_longitude 9 = .ok (.dastore, 1) := by decide +kernel
theorem dL_longitude_10 : decode cL_longitude 10 = .ok (.goto 15, 3) := by decide +kernel
theorem dL_longitude_13 : decode cL_longitude 13 = .ok (.astore 5, 2) := by decide +kernel
theorem dL_longitude_15 : decode cL_longitude 15 = .ok (.iconst 1, 1) := by decide +kernel
theorem dL_longitude_16 : decode cL_longitude 16 = .ok (.ireturn, 1) := by decide +kernel
theorem dL_longitude_17 : decode cL_longitude 17 = .ok (.astore 5, 2) := by decide +kernel
theorem dL_longitude_19 : decode cL_longitude 19 = .ok (.iconst 2, 1) := by decide +kernel
theorem dL_longitude_20 : decode cL_longitude 20 = .ok (.ireturn, 1) := by decide +kernel
theorem dL_longitude_21 : decode cL_longitude 21 = .ok (.astore 5, 2) := by decide +kernel
theorem dL_longitude_23 : decode cL_longitude 23 = .ok (.iconst 3, 1) := by decide +kernel
theorem dL_longitude_24 : decode cL_longitude 24 = .ok (.ireturn, 1) := by decide +kernel
theorem dL_longitude_25 : decode cL_longitude 25 = .ok (.iconst 0, 1) := by decide +kernel
theorem dL_longitude_26 : decode cL_longitude 26 = .ok (.ireturn, 1) := by decide +kernel
set_option maxRecDepth 20000 in
theorem ggL_height_X1_height : GoodIn wsL_height wsX1_height := goodIn_ca (goodIn_ca (goodIn_ca (goodIn_r _ [8, 9, 10, 11, 12, 13, 7, 14, 15, 16, 17, 18, 19, 20, 21, 22, 23, 24, 25, 26, 27, 28, 29, 30, 31, 32, 33, 34, 35, 36, 37, 38, 39, 40, 41, 42, 43, 44, 45, 46, 47, 48, 49, 50, 51, 52, 53, 54, 55, 56, 57, 58, 59, 60, 61, 62, 63, 64, 65, 66, 67, 68, 69, 70, 71, 72, 73, 74, 75, 76, 77, 78, 79, 80, 81, 82, 83, 84, 85, 86, 87, 88, 89, 90, 91, 92, 93, 94, 95, 96, 97, 98, 99, 100, 101, 102, 103, 104, 105, 106, 107, 108, 109, 110] (by decide +kernel) (by decide +kernel)) (goodIn_sub (fun _ h => List.mem_cons_of_mem _ (List.mem_append_left _ (List.mem_append_left _ (List.mem_append_right _ h)))) (by decide +kernel))) (goodIn_sub (fun _ h => List.mem_cons_of_mem _ (List.mem_append_left _ (List.mem_append_right _ h))) (by decide +kernel))) (goodIn_sub (fun _ h => List.mem_cons_of_mem _ (List.mem_append_right _ h)) (by decide +kernel))
set_option maxRecDepth 20000 in
theorem gL_height_X1_height : GoodIn wsL_height (wsV RL 45 RX1 yX1_height wsX1_height) := goodIn_app (goodIn_of _ (by decide +kernel)) ggL_height_X1_height
theorem dL_height_0 : decode cL_height 0 = .ok (.aload 4, 2) := by decide +kernel
theorem dL_height_2 : decode cL_height 2 = .ok (.iconst 0, 1) := by decide +kernel
theorem dL_height_3 : decode cL_height 3 = .ok (.aload_n 0, 1) := by decide +kernel
theorem dL_height_4 : decode cL_height 4 = .ok (.iload_n 1, 1) := by decide +kernel
theorem dL_height_5 : decode cL_height 5 = .ok (.dload_n 2, 1) := by decide +kernel
theorem dL_height_6 : decode cL_height 6 = .ok (.invokevirtual 45, 3) := by decide +kernel
theorem dL_height_9 : decode cL_height 9 = .ok (.dastore, 1) := by decide +kernel
theorem dL_height_10 : decode cL_height 10 = .ok (.goto 15, 3) := by decide +kernel
theorem dL_height_13 : decode cL_height 13 = .ok (.astore 5, 2) := by decide +kernel
theorem dL_height_15 : decode cL_height 15 = .ok (.iconst 1, 1) := by decide +kernel
theorem dL_height_16 : decode cL_height 16 = .ok (.ireturn, 1) := by decide +kernel
theorem dL_height_17 : decode cL_height 17 = .ok (.astore 5, 2) := by decide +kernel
theorem dL_height_19 : decode cL_height 19 = .ok (.iconst 2, 1) := by decide +kernel
theorem dL_height_20 : decode cL_height 20 = .ok (.ireturn, 1) := by decide +kernel
theorem dL_height_21 : decode cL_height 21 = .ok (.astore 5, 2) := by decide +kernel
theorem dL_height_23 : decode cL_height 23 = .ok (.iconst 3, 1) := by decide +kernel
theorem dL_height_24 : decode cL_height 24 = .ok (.ireturn, 1) := by decide +kernel
theorem dL_height_25 : decode cL_height 25 = .ok (.iconst 0, 1) := by decide +kernel
theorem dL_height_26 : decode cL_height 26 = .ok (.ireturn, 1) := by decide +kernel
set_option maxRecDepth 20000 in
theorem ggL_event_X1_event : GoodIn wsL_event wsX1_event := goodIn_ca (goodIn_ca (goodIn_ca (goodIn_r _ [8, 9, 10, 11, 12, 13, 14, 15, 16, 17, 7, 18, 19, 20, 21, 22, 23, 24, 25, 26, 27, 28, 29, 30, 31, 32, 33, 34, 35, 36, 37, 38, 39, 40, 41, 42, 43, 44, 45, 46, 47, 48, 49, 50, 51, 52, 53, 54, 55, 56, 57, 58, 59, 60, 61, 62, 63, 64, 65, 66, 67, 68, 69, 70, 71, 72, 73, 74, 75, 76, 77, 78, 79, 80, 81, 82, 83, 84, 85, 86, 87, 88, 89, 90, 91, 92, 93, 94, 95, 96, 97, 98, 99, 100, 101, 102, 103, 104, 105, 106, 107, 108, 109, 110, 111, 112, 113, 114, 115, 116, 117, 118, 119, 120, 121, 122, 123, 124, 125, 126, 127, 128, 129] (by decide +kernel) (by decide +kernel)) (goodIn_sub (fun _ h => List.mem_cons_of_mem _ (List.mem_append_left _ (List.mem_append_left _ (List.mem_append_right _ h)))) (by decide +kernel))) (goodIn_sub (fun _ h => List.mem_cons_of_mem _ (List.mem_append_left _ (List.mem_append_right _ h))) (by decide +kernel))) (goodIn_sub (fun _ h => List.mem_cons_of_mem _ (List.mem_append_right _ h)) (by decide +kernel))
set_option maxRecDepth 20000 in
theorem gL_event_X1_event : GoodIn wsL_event (wsV RL 48 RX1 yX1_event wsX1_event) := goodIn_app (goodIn_of _ (by decide +kernel)) ggL_event_X1_event
theorem dL_event_0 : decode cL_event 0 = .ok (.aload 4, 2) := by decide +kernel
theorem dL_event_2 : decode cL_event 2 = .ok (.iconst 0, 1) := by decide +kernel
theorem dL_event_3 : decode cL_event 3 = .ok (.aload_n 0, 1) := by decide +kernel
theorem dL_event_4 : decode cL_event 4 = .ok (.iload_n 1, 1) := by decide +kernel
theorem dL_event_5 : decode cL_event 5 = .ok (.iload_n 2, 1) := by decide +kernel
theorem dL_event_6 : decode cL_event 6 = .ok (.iload_n 3, 1) := by decide +kernel
theorem dL_event_7 : decode cL_event 7 = .ok (.invokevirtual 48, 3) := by decide +kernel
theorem dL_event_10 : decode cL_event 10 = .ok (.dastore, 1) := by decide +kernel
theorem dL_event_11 : decode cL_event 11 = .ok (.goto 15, 3) := by decide +kernel
theorem dL_event_14 : decode cL_event 14 = .ok (.astore 5, 2) := by decide +kernel
theorem dL_event_16 : decode cL_event 16 = .ok (.iconst 1, 1) := by decide +kernel
theorem dL_event_17 : decode cL_event 17 = .ok (.ireturn, 1) := by decide +kernel
theorem dL_event_18 : decode cL_event 18 = .ok (.astore 5, 2) := by decide +kernel
theorem dL_event_20 : decode cL_event 20 = .ok (.iconst 2, 1) := by decide +kernel
theorem dL_event_21 : decode cL_event 21 = .ok (.ireturn, 1) := by decide +kernel
theorem dL_event_22 : decode cL_event 22 = .ok (.astore 5, 2) := by decide +kernel
theorem dL_event_24 : decode cL_event 24 = .ok (.iconst 3, 1) := by decide +kernel
theorem dL_event_25 : decode cL_event 25 = .ok (.ireturn, 1) := by decide +kernel
theorem dL_event_26 : decode cL_event 26 = .ok (.iconst 0, 1) := by decide +kernel
theorem dL_event_27 : decode cL_event 27 = .ok (.ireturn, 1) := by decide +kernel
set_option maxRecDepth 20000 in
theorem ggL_sidereal_X1_sidereal : GoodIn wsL_sidereal wsX1_sidereal := goodIn_ca (goodIn_r _ [6, 7, 8, 9, 10, 5, 11, 12, 13, 14, 15, 16, 17, 18, 19, 20, 21, 22, 23, 24, 25, 26] (by decide +kernel) (by decide +kernel)) (goodIn_sub (fun _ h => List.mem_cons_of_mem _ (List.mem_append_right _ h)) (by decide +kernel))
set_option maxRecDepth 20000 in
theorem gL_sidereal_X1_sidereal : GoodIn wsL_sidereal (wsV RL 52 RX1 yX1_sidereal wsX1_sidereal) := goodIn_app (goodIn_of _ (by decide +kernel)) ggL_sidereal_X1_sidereal
theorem dL_sidereal_0 : decode cL_sidereal 0 = .ok (.aload_n 3, 1) := by decide +kernel
theorem dL_sidereal_1 : decode cL_sidereal 1 = .ok (.iconst 0, 1) := by decide +kernel
theorem dL_sidereal_2 : decode cL_sidereal 2 = .ok (.aload_n 0, 1) := by decide +kernel
theorem dL_sidereal_3 : decode cL_sidereal 3 = .ok (.dload_n 1, 1) := by decide +kernel
theorem dL_sidereal_4 : decode cL_sidereal 4 = .ok (.invokevirtual 52, 3) := by decide +kernel
theorem dL_sidereal_7 : decode cL_sidereal 7 = .ok (.dastore, 1) := by decide +kernel
theorem dL_sidereal_8 : decode cL_sidereal 8 = .ok (.goto 7, 3) := by decide +kernel
theorem dL_sidereal_11 : decode cL_sidereal 11 = .ok (.astore 4, 2) := by decide +kernel
theorem dL_sidereal_13 : decode cL_sidereal 13 = .ok (.iconst 1, 1) := by decide +kernel
theorem dL_sidereal_14 : decode cL_sidereal 14 = .ok (.ireturn, 1) := by decide +kernel
theorem dL_sidereal_15 : decode cL_sidereal 15 = .ok (.iconst 0, 1) := by decide +kernel
theorem dL_sidereal_16 : decode cL_sidereal 16 = .ok (.ireturn, 1) := by decide +kernel
set_option maxRecDepth 20000 in
theorem ggL_write_X1_write : GoodIn wsL_write wsX1_write := goodIn_ca (goodIn_r _ [6, 7, 8, 9, 10, 11, 12, 13, 14, 15, 16, 17, 18, 5, 19, 20, 21, 22, 23, 24, 25, 26, 27, 28, 29, 30, 31, 32, 33, 34, 35, 36, 37, 38, 39, 40, 41, 42, 43, 44, 45, 46, 47] (by decide +kernel) (by decide +kernel)) (goodIn_sub (fun _ h => List.mem_cons_of_mem _ (List.mem_append_right _ h)) (by decide +kernel))
set_option maxRecDepth 20000 in
theorem gL_write_X1_write : GoodIn wsL_write (wsV RL 56 RX1 yX1_write wsX1_write) := goodIn_app (goodIn_of _ (by decide +kernel)) ggL_write_X1_write
theorem dL_write_0 : decode cL_write 0 = .ok (.aload 4, 2) := by decide +kernel
theorem dL_write_2 : decode cL_write 2 = .ok (.iconst 0, 1) := by decide +kernel
theorem dL_write_3 : decode cL_write 3 = .ok (.aload_n 0, 1) := by decide +kernel
theorem dL_write_4 : decode cL_write 4 = .ok (.dload_n 1, 1) := by decide +kernel
theorem dL_write_5 : decode cL_write 5 = .ok (.iload_n 3, 1) := by decide +kernel
theorem dL_write_6 : decode cL_write 6 = .ok (.invokevirtual 56, 3) := by decide +kernel
theorem dL_write_9 : decode cL_write 9 = .ok (.i2l, 1) := by decide +kernel
theorem dL_write_10 : decode cL_write 10 = .ok (.lastore, 1) := by decide +kernel
theorem dL_write_11 : decode cL_write 11 = .ok (.goto 7, 3) := by decide +kernel
theorem dL_write_14 : decode cL_write 14 = .ok (.astore 5, 2) := by decide +kernel
theorem dL_write_16 : decode cL_write 16 = .ok (.iconst 1, 1) := by decide +kernel
theorem dL_write_17 : decode cL_write 17 = .ok (.ireturn, 1) := by decide +kernel
theorem dL_write_18 : decode cL_write 18 = .ok (.iconst 0, 1) := by decide +kernel
theorem dL_write_19 : decode cL_write 19 = .ok (.ireturn, 1) := by decide +kernel
set_option maxRecDepth 20000 in
theorem ggL_letter_X1_letter : GoodIn wsL_letter wsX1_letter := goodIn_ca (goodIn_r _ [6, 7, 8, 9, 10, 11, 12, 13, 14, 15, 16, 17] (by decide +kernel) (by decide +kernel)) (goodIn_sub (fun _ h => List.mem_cons_of_mem _ (List.mem_append_right _ h)) (by decide +kernel))
set_option maxRecDepth 20000 in
theorem gL_letter_X1_letter : GoodIn wsL_letter (wsV RL 60 RX1 yX1_letter wsX1_letter) := goodIn_app (goodIn_of _ (by decide +kernel)) ggL_letter_X1_letter
theorem dL_letter_0 : decode cL_letter 0 = .ok (.aload_n 2, 1) := by decide +kernel
theorem dL_letter_1 : decode cL_letter 1 = .ok (.iconst 0, 1) := by decide +kernel
theorem dL_letter_2 : decode cL_letter 2 = .ok (.aload_n 0, 1) := by decide +kernel
theorem dL_letter_3 : decode cL_letter 3 = .ok (.iload_n 1, 1) := by decide +kernel
theorem dL_letter_4 : decode cL_letter 4 = .ok (.invokevirtual 60, 3) := by decide +kernel
theorem dL_letter_7 : decode cL_letter 7 = .ok (.i2l, 1) := by decide +kernel
theorem dL_letter_8 : decode cL_letter 8 = .ok (.lastore, 1) := by decide +kernel
theorem dL_letter_9 : decode cL_letter 9 = .ok (.goto 6, 3) := by decide +kernel
theorem dL_letter_12 : decode cL_letter 12 = .ok (.astore_n 3, 1) := by decide +kernel
theorem dL_letter_13 : decode cL_letter 13 = .ok (.iconst 1, 1) := by decide +kernel
theorem dL_letter_14 : decode cL_letter 14 = .ok (.ireturn, 1) := by decide +kernel
theorem dL_letter_15 : decode cL_letter 15 = .ok (.iconst 0, 1) := by decide +kernel
theorem dL_letter_16 : decode cL_letter 16 = .ok (.ireturn, 1) := by decide +kernel
set_option maxRecDepth 20000 in
theorem ggL_angle_X1_angle : GoodIn wsL_angle wsX1_angle := goodIn_ca (goodIn_r _ [6, 7, 8, 9, 10, 11, 12, 13, 14, 5, 15] (by decide +kernel) (by decide +kernel)) (goodIn_sub (fun _ h => List.mem_cons_of_mem _ (List.mem_append_right _ h)) (by decide +kernel))
set_option maxRecDepth 20000 in
theorem gL_angle_X1_angle : GoodIn wsL_angle (wsV RL 64 RX1 yX1_angle wsX1_angle) := goodIn_app (goodIn_of _ (by decide +kernel)) ggL_angle_X1_angle
theorem dL_angle_0 : decode cL_angle 0 = .ok (.aload 6, 2) := by decide +kernel
theorem dL_angle_2 : decode cL_angle 2 = .ok (.iconst 0, 1) := by decide +kernel
theorem dL_angle_3 : decode cL_angle 3 = .ok (.aload_n 0, 1) := by decide +kernel
theorem dL_angle_4 : decode cL_angle 4 = .ok (.iload_n 1, 1) := by decide +kernel
theorem dL_angle_5 : decode cL_angle 5 = .ok (.iload_n 2, 1) := by decide +kernel
theorem dL_angle_6 : decode cL_angle 6 = .ok (.iload_n 3, 1) := by decide +kernel
theorem dL_angle_7 : decode cL_angle 7 = .ok (.dload 4, 2) := by decide +kernel
theorem dL_angle_9 : decode cL_angle 9 = .ok (.invokevirtual 64, 3) := by decide +kernel
theorem dL_angle_12 : decode cL_angle 12 = .ok (.dastore, 1) := by decide +kernel
theorem dL_angle_13 : decode cL_angle 13 = .ok (.goto 7, 3) := by decide +kernel
theorem dL_angle_16 : decode cL_angle 16 = .ok (.astore 7, 2) := by decide +kernel
theorem dL_angle_18 : decode cL_angle 18 = .ok (.iconst 1, 1) := by decide +kernel
theorem dL_angle_19 : decode cL_angle 19 = .ok (.ireturn, 1) := by decide +kernel
theorem dL_angle_20 : decode cL_angle 20 = .ok (.iconst 0, 1) := by decide +kernel
theorem dL_angle_21 : decode cL_angle 21 = .ok (.ireturn, 1) := by decide +kernel
set_option maxRecDepth 20000 in
theorem ggL_law_X1_init : GoodIn wsL_law wsX1_init := goodIn_r _ [12, 13, 14, 15, 16, 17, 18, 19, 20, 21, 22, 23, 24, 25, 26, 27, 28, 29, 30, 31, 7, 32, 33, 34, 552, 553, 554, 555, 556, 557, 558, 572, 573, 574, 575, 576, 577, 578, 579, 580, 581] (by decide +kernel) (by decide +kernel)
set_option maxRecDepth 20000 in
theorem gL_law_X1_init : GoodIn wsL_law (wsX1_init) := ggL_law_X1_init
set_option maxRecDepth 20000 in
theorem ggL_law_X2_init : GoodIn wsL_law wsX2_init := goodIn_r _ [37, 38, 14, 15, 39, 40, 7, 41, 30, 42, 43, 44, 45, 559, 560, 561, 562, 563, 564, 565, 566, 567, 568, 569, 570, 571] (by decide +kernel) (by decide +kernel)
set_option maxRecDepth 20000 in
theorem gL_law_X2_init : GoodIn wsL_law (wsX2_init) := ggL_law_X2_init
set_option maxRecDepth 20000 in
theorem ggL_law_L_day : GoodIn wsL_law wsL_day := goodIn_ca (goodIn_r _ [49, 50, 51, 52, 53, 2, 54, 55, 56, 57, 58, 59, 60, 61, 62, 63, 64, 65, 66, 67, 68, 69, 70, 71, 72, 73, 74, 75, 76, 77, 78, 79, 80, 81, 82, 83, 84, 85] (by decide +kernel) (by decide +kernel)) (goodIn_sub (fun _ h => List.mem_append_left _ (List.mem_append_left _ (List.mem_append_left _ (List.mem_append_right _ h)))) (by decide +kernel))
set_option maxRecDepth 20000 in
theorem gL_law_L_day : GoodIn wsL_law (va_wsS RL 72 yL_day wsL_day) := goodIn_app (goodIn_of _ (by decide +kernel)) ggL_law_L_day
set_option maxRecDepth 20000 in
theorem ggL_law_X2_day : GoodIn wsL_law wsX2_day := goodIn_r _ [89, 90, 91, 92, 93, 94, 95, 96, 97, 5, 98, 99, 100, 101, 102, 103, 104, 105, 106, 107, 108, 109, 110, 111, 112, 113, 114, 115, 116, 117, 118, 119, 120, 121, 122, 123, 124, 125, 126, 127, 128, 129, 130, 131, 559, 560, 561, 562, 563, 564, 565, 566, 567, 568, 569, 570, 571] (by decide +kernel) (by decide +kernel)
set_option maxRecDepth 20000 in
theorem gL_law_X2_day : GoodIn wsL_law (wsV RL 77 RX2 yX2_day wsX2_day) := goodIn_app (goodIn_of _ (by decide +kernel)) ggL_law_X2_day
set_option maxRecDepth 20000 in
theorem ggL_law_X2_thrown : GoodIn wsL_law wsX2_thrown := goodIn_r _ [135, 90, 559, 560, 561, 562, 563, 564, 565, 566, 567, 568, 569, 570, 571] (by decide +kernel) (by decide +kernel)
set_option maxRecDepth 20000 in
theorem gL_law_X2_thrown : GoodIn wsL_law (wsV RL 78 RX2 yX2_thrown wsX2_thrown) := goodIn_app (goodIn_of _ (by decide +kernel)) ggL_law_X2_thrown
set_option maxRecDepth 20000 in
theorem ggL_law_L_date : GoodIn wsL_law wsL_date := goodIn_ca (goodIn_r _ [138, 50, 139, 140, 141, 2, 142, 55, 56, 57, 143, 144, 145, 62, 58, 59, 63, 64, 65, 146, 147, 148, 149, 150, 151, 73, 74, 75, 76, 77, 78, 79, 80, 81, 82, 152, 153, 154, 155, 156, 157, 69, 83, 84, 85, 66, 67, 68, 70, 71, 72] (by decide +kernel) (by decide +kernel)) (goodIn_sub (fun _ h => List.mem_append_left _ (List.mem_append_left _ (List.mem_append_left _ (List.mem_append_right _ h)))) (by decide +kernel))
set_option maxRecDepth 20000 in
theorem gL_law_L_date : GoodIn wsL_law (va_wsS RL 84 yL_date wsL_date) := goodIn_app (goodIn_of _ (by decide +kernel)) ggL_law_L_date
set_option maxRecDepth 20000 in
theorem ggL_law_X2_date : GoodIn wsL_law wsX2_date := goodIn_r _ [161, 90, 162, 163, 164, 165, 166, 167, 95, 96, 97, 5, 98, 168, 169, 170, 115, 171, 172, 120, 121, 122, 126, 127, 128, 129, 130, 131, 111, 112, 113, 114, 116, 117, 92, 118, 119, 104, 105, 106, 107, 108, 109, 110, 559, 560, 561, 562, 563, 564, 565, 566, 567, 568, 569, 570, 571] (by decide +kernel) (by decide +kernel)
set_option maxRecDepth 20000 in
theorem gL_law_X2_date : GoodIn wsL_law (wsV RL 87 RX2 yX2_date wsX2_date) := goodIn_app (goodIn_of _ (by decide +kernel)) ggL_law_X2_date
set_option maxRecDepth 20000 in
theorem ggL_law_L_easter : GoodIn wsL_law wsL_easter := goodIn_ca (goodIn_r _ [175, 50, 176, 177, 178, 2, 179, 55, 56, 180, 181, 182, 63, 64, 65, 183, 184, 81, 185, 73, 74, 75, 76, 77, 78, 79, 80, 82, 83, 84, 85, 69, 66, 67, 68, 70, 71, 72] (by decide +kernel) (by decide +kernel)) (goodIn_sub (fun _ h => List.mem_append_left _ (List.mem_append_left _ (List.mem_append_left _ (List.mem_append_right _ h)))) (by decide +kernel))
set_option maxRecDepth 20000 in
theorem gL_law_L_easter : GoodIn wsL_law (va_wsS RL 88 yL_easter wsL_easter) := goodIn_app (goodIn_of _ (by decide +kernel)) ggL_law_L_easter
set_option maxRecDepth 20000 in
theorem ggL_law_X2_easter : GoodIn wsL_law wsX2_easter := goodIn_r _ [189, 90, 95, 96, 97, 5, 98, 123, 124, 125, 126, 127, 128, 129, 130, 131, 111, 112, 113, 114, 115, 116, 117, 92, 118, 119, 120, 121, 122, 104, 105, 106, 107, 108, 109, 110, 559, 560, 561, 562, 563, 564, 565, 566, 567, 568, 569, 570, 571] (by decide +kernel) (by decide +kernel)
set_option maxRecDepth 20000 in
theorem gL_law_X2_easter : GoodIn wsL_law (wsV RL 91 RX2 yX2_easter wsX2_easter) := goodIn_app (goodIn_of _ (by decide +kernel)) ggL_law_X2_easter
set_option maxRecDepth 20000 in
theorem ggL_law_L_orbit : GoodIn wsL_law wsL_orbit := goodIn_ca (goodIn_ca (goodIn_r _ [192, 193, 50, 194, 195, 196, 2, 197, 198, 199, 55, 56, 17, 200, 201, 202, 203, 204, 205, 206, 207, 552, 553, 554, 555, 556, 557, 558, 572, 573, 574, 575, 576, 577, 578, 579, 580, 581] (by decide +kernel) (by decide +kernel)) (goodIn_sub (fun _ h => List.mem_append_left _ (List.mem_append_left _ (List.mem_append_right _ h))) (by decide +kernel))) (goodIn_sub (fun _ h => List.mem_append_left _ (List.mem_append_left _ (List.mem_append_left _ (List.mem_append_right _ h)))) (by decide +kernel))
set_option maxRecDepth 20000 in
theorem gL_law_L_orbit : GoodIn wsL_law (va_wsS RL 94 yL_orbit wsL_orbit) := goodIn_app (goodIn_of _ (by decide +kernel)) ggL_law_L_orbit
set_option maxRecDepth 20000 in
theorem ggL_law_X2_orbit : GoodIn wsL_law wsX2_orbit := goodIn_r _ [211, 90, 212, 213, 214, 215, 216, 41, 40, 95, 96, 97, 5, 98, 217, 218, 219, 559, 560, 561, 562, 563, 564, 565, 566, 567, 568, 569, 570, 571] (by decide +kernel) (by decide +kernel)
set_option maxRecDepth 20000 in
theorem gL_law_X2_orbit : GoodIn wsL_law (wsV RL 97 RX2 yX2_orbit wsX2_orbit) := goodIn_app (goodIn_of _ (by decide +kernel)) ggL_law_X2_orbit
set_option maxRecDepth 20000 in
theorem ggL_law_L_term : GoodIn wsL_law wsL_term := goodIn_ca (goodIn_ca (goodIn_ca (goodIn_r _ [222, 223, 50, 224, 225, 226, 227, 2, 228, 55, 56, 229, 230, 57, 231, 232, 200, 201, 202, 203, 233, 234, 235, 236, 237, 238, 17, 63, 64, 65, 205, 206, 207, 572, 573, 574, 575, 576, 577, 578, 579, 580, 581, 552, 553, 554, 555, 556, 557, 558] (by decide +kernel) (by decide +kernel)) (goodIn_sub (fun _ h => List.mem_append_left _ (List.mem_append_left _ (List.mem_append_left _ (List.mem_append_right _ h)))) (by decide +kernel))) (goodIn_sub (fun _ h => List.mem_append_left _ (List.mem_append_right _ h)) (by decide +kernel))) (goodIn_sub (fun _ h => List.mem_append_right _ h) (by decide +kernel))
set_option maxRecDepth 20000 in
theorem gL_law_L_term : GoodIn wsL_law (va_wsS RL 98 yL_term wsL_term) := goodIn_app (goodIn_of _ (by decide +kernel)) ggL_law_L_term
set_option maxRecDepth 20000 in
theorem ggL_law_X2_term : GoodIn wsL_law wsX2_term := goodIn_r _ [242, 90, 243, 244, 212, 213, 214, 215, 42, 43, 44, 245, 246, 247, 5, 248, 40, 95, 96, 97, 98, 217, 218, 219, 559, 560, 561, 562, 563, 564, 565, 566, 567, 568, 569, 570, 571] (by decide +kernel) (by decide +kernel)
set_option maxRecDepth 20000 in
theorem gL_law_X2_term : GoodIn wsL_law (wsV RL 101 RX2 yX2_term wsX2_term) := goodIn_app (goodIn_of _ (by decide +kernel)) ggL_law_X2_term
set_option maxRecDepth 20000 in
theorem ggL_law_L_observer : GoodIn wsL_law wsL_observer := goodIn_ca (goodIn_r _ [251, 50, 252, 253, 254, 2, 255, 55, 56, 256, 257, 258, 259, 23, 24, 205, 206, 207, 552, 553, 554, 555, 556, 557, 558] (by decide +kernel) (by decide +kernel)) (goodIn_sub (fun _ h => List.mem_append_left _ (List.mem_append_left _ (List.mem_append_left _ (List.mem_append_right _ h)))) (by decide +kernel))
set_option maxRecDepth 20000 in
theorem gL_law_L_observer : GoodIn wsL_law (va_wsS RL 102 yL_observer wsL_observer) := goodIn_app (goodIn_of _ (by decide +kernel)) ggL_law_L_observer
set_option maxRecDepth 20000 in
theorem ggL_law_X2_observer : GoodIn wsL_law wsX2_observer := goodIn_r _ [263, 90, 264, 265, 266, 267, 268, 269, 217, 218, 5, 219, 95, 96, 97, 98, 559, 560, 561, 562, 563, 564, 565, 566, 567, 568, 569, 570, 571] (by decide +kernel) (by decide +kernel)
set_option maxRecDepth 20000 in
theorem gL_law_X2_observer : GoodIn wsL_law (wsV RL 105 RX2 yX2_observer wsX2_observer) := goodIn_app (goodIn_of _ (by decide +kernel)) ggL_law_X2_observer
set_option maxRecDepth 20000 in
theorem ggL_law_L_longitude : GoodIn wsL_law wsL_longitude := goodIn_ca (goodIn_ca (goodIn_ca (goodIn_r _ [272, 223, 50, 224, 273, 274, 275, 2, 276, 55, 56, 233, 234, 235, 236, 237, 238, 17, 277, 278, 279, 280, 281, 205, 206, 207, 282, 283, 284, 285, 25, 286, 287, 288, 289, 290, 291, 292, 201, 293, 294, 295, 296, 229, 230, 297, 298, 26, 299, 300, 301, 302, 303, 304, 305, 306, 307, 308, 257, 309, 310, 311, 312, 313, 314, 315, 316, 317, 318, 319, 320, 321, 322, 19, 323, 324, 325, 31, 32, 33, 34, 552, 553, 554, 555, 556, 557, 558, 572, 573, 574, 575, 576, 577, 578, 579, 580, 581] (by decide +kernel) (by decide +kernel)) (goodIn_sub (fun _ h => List.mem_append_left _ (List.mem_append_left _ (List.mem_append_left _ (List.mem_append_right _ h)))) (by decide +kernel))) (goodIn_sub (fun _ h => List.mem_append_right _ h) (by decide +kernel))) (goodIn_sub (fun _ h => List.mem_append_left _ (List.mem_append_right _ h)) (by decide +kernel))
set_option maxRecDepth 20000 in
theorem gL_law_L_longitude : GoodIn wsL_law (va_wsS RL 106 yL_longitude wsL_longitude) := goodIn_app (goodIn_of _ (by decide +kernel)) ggL_law_L_longitude
set_option maxRecDepth 20000 in
theorem ggL_law_X2_longitude : GoodIn wsL_law wsX2_longitude := goodIn_r _ [329, 90, 330, 331, 332, 333, 5, 334, 335, 336, 245, 246, 247, 248, 40, 217, 218, 219, 337, 338, 339, 340, 41, 341, 342, 343, 344, 345, 346, 347, 348, 349, 350, 351, 213, 352, 353, 354, 355, 356, 357, 265, 358, 359, 360, 361, 362, 363, 364, 365, 366, 367, 115, 368, 369, 370, 371, 372, 373, 374, 375, 42, 43, 44, 559, 560, 561, 562, 563, 564, 565, 566, 567, 568, 569, 570, 571] (by decide +kernel) (by decide +kernel)
set_option maxRecDepth 20000 in
theorem gL_law_X2_longitude : GoodIn wsL_law (wsV RL 109 RX2 yX2_longitude wsX2_longitude) := goodIn_app (goodIn_of _ (by decide +kernel)) ggL_law_X2_longitude
set_option maxRecDepth 20000 in
theorem ggL_law_L_height : GoodIn wsL_law wsL_height := goodIn_ca (goodIn_ca (goodIn_ca (goodIn_r _ [378, 223, 50, 224, 379, 380, 381, 2, 382, 55, 56, 233, 234, 235, 236, 237, 238, 17, 277, 278, 279, 280, 281, 205, 206, 207, 383, 384, 385, 386, 387, 388, 24, 23, 282, 283, 284, 285, 25, 286, 287, 288, 289, 290, 291, 292, 201, 293, 294, 295, 296, 229, 230, 297, 298, 26, 299, 300, 301, 302, 303, 304, 305, 306, 307, 308, 257, 309, 310, 311, 312, 313, 314, 315, 316, 317, 318, 319, 320, 321, 322, 19, 323, 324, 325, 31, 32, 33, 34, 389, 390, 391, 392, 393, 552, 553, 554, 555, 556, 557, 558, 572, 573, 574, 575, 576, 577, 578, 579, 580, 581] (by decide +kernel) (by decide +kernel)) (goodIn_sub (fun _ h => List.mem_append_left _ (List.mem_append_left _ (List.mem_append_left _ (List.mem_append_right _ h)))) (by decide +kernel))) (goodIn_sub (fun _ h => List.mem_append_right _ h) (by decide +kernel))) (goodIn_sub (fun _ h => List.mem_append_left _ (List.mem_append_right _ h)) (by decide +kernel))
set_option maxRecDepth 20000 in
theorem gL_law_L_height : GoodIn wsL_law (va_wsS RL 110 yL_height wsL_height) := goodIn_app (goodIn_of _ (by decide +kernel)) ggL_law_L_height
set_option maxRecDepth 20000 in
theorem ggL_law_X2_height : GoodIn wsL_law wsX2_height := goodIn_r _ [397, 90, 330, 331, 332, 333, 5, 334, 335, 336, 245, 246, 247, 248, 40, 217, 218, 219, 398, 399, 400, 401, 402, 403, 269, 268, 337, 338, 339, 340, 41, 341, 342, 343, 344, 345, 346, 347, 348, 349, 350, 351, 213, 352, 353, 354, 355, 356, 357, 265, 358, 359, 360, 361, 362, 363, 364, 365, 366, 367, 115, 368, 369, 370, 371, 372, 373, 374, 375, 42, 43, 44, 404, 405, 406, 407, 408, 559, 560, 561, 562, 563, 564, 565, 566, 567, 568, 569, 570, 571] (by decide +kernel) (by decide +kernel)
set_option maxRecDepth 20000 in
theorem gL_law_X2_height : GoodIn wsL_law (wsV RL 112 RX2 yX2_height wsX2_height) := goodIn_app (goodIn_of _ (by decide +kernel)) ggL_law_X2_height
set_option maxRecDepth 20000 in
theorem ggL_law_L_event : GoodIn wsL_law wsL_event := goodIn_ca (goodIn_ca (goodIn_ca (goodIn_r _ [411, 50, 223, 224, 412, 413, 414, 2, 415, 55, 56, 237, 238, 57, 416, 417, 63, 64, 65, 233, 234, 235, 236, 17, 418, 419, 420, 421, 422, 423, 424, 425, 383, 384, 385, 386, 387, 388, 24, 23, 282, 283, 284, 285, 25, 286, 287, 288, 289, 290, 291, 292, 201, 293, 294, 295, 296, 229, 230, 297, 298, 26, 299, 300, 301, 302, 303, 304, 305, 306, 307, 308, 257, 309, 310, 311, 312, 313, 314, 315, 316, 317, 318, 319, 320, 321, 322, 19, 323, 324, 325, 31, 32, 33, 34, 389, 390, 391, 392, 393, 426, 427, 428, 429, 430, 431, 432, 433, 434, 435, 436, 437, 438, 552, 553, 554, 555, 556, 557, 558, 572, 573, 574, 575, 576, 577, 578, 579, 580, 581] (by decide +kernel) (by decide +kernel)) (goodIn_sub (fun _ h => List.mem_append_left _ (List.mem_append_left _ (List.mem_append_left _ (List.mem_append_right _ h)))) (by decide +kernel))) (goodIn_sub (fun _ h => List.mem_append_right _ h) (by decide +kernel))) (goodIn_sub (fun _ h => List.mem_append_left _ (List.mem_append_right _ h)) (by decide +kernel))
set_option maxRecDepth 20000 in
theorem gL_law_L_event : GoodIn wsL_law (va_wsS RL 113 yL_event wsL_event) := goodIn_app (goodIn_of _ (by decide +kernel)) ggL_law_L_event
set_option maxRecDepth 20000 in
theorem ggL_law_X2_event : GoodIn wsL_law wsX2_event := goodIn_r _ [442, 90, 443, 444, 95, 96, 97, 5, 98, 245, 246, 247, 248, 40, 445, 446, 447, 448, 330, 449, 450, 347, 398, 399, 400, 401, 402, 403, 269, 268, 337, 338, 339, 340, 41, 341, 342, 343, 344, 345, 346, 348, 349, 350, 351, 213, 352, 353, 354, 355, 356, 357, 265, 358, 359, 360, 361, 362, 363, 364, 365, 366, 367, 115, 368, 369, 370, 371, 372, 373, 374, 375, 42, 43, 44, 404, 405, 406, 407, 408, 451, 452, 453, 454, 455, 456, 457, 458, 559, 560, 561, 562, 563, 564, 565, 566, 567, 568, 569, 570, 571] (by decide +kernel) (by decide +kernel)
set_option maxRecDepth 20000 in
theorem gL_law_X2_event : GoodIn wsL_law (wsV RL 116 RX2 yX2_event wsX2_event) := goodIn_app (goodIn_of _ (by decide +kernel)) ggL_law_X2_event
set_option maxRecDepth 20000 in
theorem ggL_law_L_sidereal : GoodIn wsL_law wsL_sidereal := goodIn_ca (goodIn_r _ [461, 50, 462, 463, 464, 2, 465, 55, 56, 277, 278, 279, 280, 281, 205, 206, 207, 389, 390, 391, 392, 393, 201, 289, 290, 291, 292] (by decide +kernel) (by decide +kernel)) (goodIn_sub (fun _ h => List.mem_append_left _ (List.mem_append_left _ (List.mem_append_left _ (List.mem_append_right _ h)))) (by decide +kernel))
set_option maxRecDepth 20000 in
theorem gL_law_L_sidereal : GoodIn wsL_law (va_wsS RL 117 yL_sidereal wsL_sidereal) := goodIn_app (goodIn_of _ (by decide +kernel)) ggL_law_L_sidereal
set_option maxRecDepth 20000 in
theorem ggL_law_X2_sidereal : GoodIn wsL_law wsX2_sidereal := goodIn_r _ [469, 90, 335, 336, 217, 218, 5, 219, 95, 96, 97, 98, 404, 405, 406, 407, 408, 213, 349, 350, 351, 559, 560, 561, 562, 563, 564, 565, 566, 567, 568, 569, 570, 571] (by decide +kernel) (by decide +kernel)
set_option maxRecDepth 20000 in
theorem gL_law_X2_sidereal : GoodIn wsL_law (wsV RL 120 RX2 yX2_sidereal wsX2_sidereal) := goodIn_app (goodIn_of _ (by decide +kernel)) ggL_law_X2_sidereal
set_option maxRecDepth 20000 in
theorem ggL_law_L_write : GoodIn wsL_law wsL_write := goodIn_ca (goodIn_r _ [472, 50, 473, 474, 475, 2, 476, 55, 56, 477, 478, 479, 480, 286, 22, 481, 482, 205, 206, 207, 63, 64, 65, 483, 484, 485, 486, 487, 488, 489, 490, 491, 492, 493, 21, 494, 495, 496, 497, 498, 499, 552, 553, 554, 555, 556, 557, 558] (by decide +kernel) (by decide +kernel)) (goodIn_sub (fun _ h => List.mem_append_left _ (List.mem_append_left _ (List.mem_append_left _ (List.mem_append_right _ h)))) (by decide +kernel))
set_option maxRecDepth 20000 in
theorem gL_law_L_write : GoodIn wsL_law (va_wsS RL 121 yL_write wsL_write) := goodIn_app (goodIn_of _ (by decide +kernel)) ggL_law_L_write
set_option maxRecDepth 20000 in
theorem ggL_law_X2_write : GoodIn wsL_law wsX2_write := goodIn_r _ [503, 90, 504, 505, 244, 506, 507, 346, 508, 509, 510, 217, 218, 5, 219, 95, 96, 97, 98, 511, 512, 513, 514, 45, 515, 516, 517, 518, 559, 560, 561, 562, 563, 564, 565, 566, 567, 568, 569, 570, 571] (by decide +kernel) (by decide +kernel)
set_option maxRecDepth 20000 in
theorem gL_law_X2_write : GoodIn wsL_law (wsV RL 124 RX2 yX2_write wsX2_write) := goodIn_app (goodIn_of _ (by decide +kernel)) ggL_law_X2_write
set_option maxRecDepth 20000 in
theorem ggL_law_L_letter : GoodIn wsL_law wsL_letter := goodIn_ca (goodIn_r _ [521, 193, 522, 523, 524, 2, 525, 198, 199, 22, 21, 552, 553, 554, 555, 556, 557, 558] (by decide +kernel) (by decide +kernel)) (goodIn_sub (fun _ h => List.mem_append_left _ (List.mem_append_left _ (List.mem_append_right _ h))) (by decide +kernel))
set_option maxRecDepth 20000 in
theorem gL_law_L_letter : GoodIn wsL_law (va_wsS RL 125 yL_letter wsL_letter) := goodIn_app (goodIn_of _ (by decide +kernel)) ggL_law_L_letter
set_option maxRecDepth 20000 in
theorem ggL_law_X2_letter : GoodIn wsL_law wsX2_letter := goodIn_r _ [529, 90, 508, 45, 95, 96, 97, 5, 98, 559, 560, 561, 562, 563, 564, 565, 566, 567, 568, 569, 570, 571] (by decide +kernel) (by decide +kernel)
set_option maxRecDepth 20000 in
theorem gL_law_X2_letter : GoodIn wsL_law (wsV RL 127 RX2 yX2_letter wsX2_letter) := goodIn_app (goodIn_of _ (by decide +kernel)) ggL_law_X2_letter
set_option maxRecDepth 20000 in
theorem ggL_law_L_angle : GoodIn wsL_law wsL_angle := goodIn_ca (goodIn_r _ [532, 50, 533, 534, 535, 2, 536, 55, 56, 292, 537, 538, 480, 63, 64, 65] (by decide +kernel) (by decide +kernel)) (goodIn_sub (fun _ h => List.mem_append_left _ (List.mem_append_left _ (List.mem_append_left _ (List.mem_append_right _ h)))) (by decide +kernel))
set_option maxRecDepth 20000 in
theorem gL_law_L_angle : GoodIn wsL_law (va_wsS RL 128 yL_angle wsL_angle) := goodIn_app (goodIn_of _ (by decide +kernel)) ggL_law_L_angle
set_option maxRecDepth 20000 in
theorem ggL_law_X2_angle : GoodIn wsL_law wsX2_angle := goodIn_r _ [542, 90, 543, 507, 95, 96, 97, 5, 98, 559, 560, 561, 562, 563, 564, 565, 566, 567, 568, 569, 570, 571] (by decide +kernel) (by decide +kernel)
set_option maxRecDepth 20000 in
theorem gL_law_X2_angle : GoodIn wsL_law (wsV RL 131 RX2 yX2_angle wsX2_angle) := goodIn_app (goodIn_of _ (by decide +kernel)) ggL_law_X2_angle
set_option maxRecDepth 20000 in
theorem ggL_law_X1_count : GoodIn wsL_law wsX1_count := goodIn_r _ [547, 26, 25, 552, 553, 554, 555, 556, 557, 558] (by decide +kernel) (by decide +kernel)
set_option maxRecDepth 20000 in
theorem gL_law_X1_count : GoodIn wsL_law (wsV RL 132 RX1 yX1_count wsX1_count) := goodIn_app (goodIn_of _ (by decide +kernel)) ggL_law_X1_count
set_option maxRecDepth 20000 in
theorem ggL_law_X2_count : GoodIn wsL_law wsX2_count := goodIn_r _ [551, 90, 345, 344, 559, 560, 561, 562, 563, 564, 565, 566, 567, 568, 569, 570, 571] (by decide +kernel) (by decide +kernel)
set_option maxRecDepth 20000 in
theorem gL_law_X2_count : GoodIn wsL_law (wsV RL 136 RX2 yX2_count wsX2_count) := goodIn_app (goodIn_of _ (by decide +kernel)) ggL_law_X2_count
theorem dL_law_0 : decode cL_law 0 = .ok (.new 8, 3) := by decide +kernel
theorem dL_law_3 : decode cL_law 3 = .ok (.dup, 1) := by decide +kernel
theorem dL_law_4 : decode cL_law 4 = .ok (.invokespecial 68, 3) := by decide +kernel
theorem dL_law_7 : decode cL_law 7 = .ok (.astore_n 1, 1) := by decide +kernel
theorem dL_law_8 : decode cL_law 8 = .ok (.new 69, 3) := by decide +kernel
theorem dL_law_11 : decode cL_law 11 = .ok (.dup, 1) := by decide +kernel
theorem dL_law_12 : decode cL_law 12 = .ok (.invokespecial 71, 3) := by decide +kernel
theorem dL_law_15 : decode cL_law 15 = .ok (.astore_n 2, 1) := by decide +kernel
theorem dL_law_16 : decode cL_law 16 = .ok (.iconst 1, 1) := by decide +kernel
theorem dL_law_17 : decode cL_law 17 = .ok (.newarray .long, 2) := by decide +kernel
theorem dL_law_19 : decode cL_law 19 = .ok (.astore_n 3, 1) := by decide +kernel
theorem dL_law_20 : decode cL_law 20 = .ok (.iconst 1, 1) := by decide +kernel
theorem dL_law_21 : decode cL_law 21 = .ok (.newarray .double, 2) := by decide +kernel
theorem dL_law_23 : decode cL_law 23 = .ok (.astore 4, 2) := by decide +kernel
theorem dL_law_25 : decode cL_law 25 = .ok (.iconst 0, 1) := by decide +kernel
theorem dL_law_26 : decode cL_law 26 = .ok (.istore 5, 2) := by decide +kernel
theorem dL_law_28 : decode cL_law 28 = .ok (.iload 5, 2) := by decide +kernel
theorem dL_law_30 : decode cL_law 30 = .ok (.aload_n 0, 1) := by decide +kernel
theorem dL_law_31 : decode cL_law 31 = .ok (.arraylength, 1) := by decide +kernel
theorem dL_law_32 : decode cL_law 32 = .ok (.bipush 6, 2) := by decide +kernel
theorem dL_law_34 : decode cL_law 34 = .ok (.isub, 1) := by decide +kernel
theorem dL_law_35 : decode cL_law 35 = .ok (.if_icmp .gt 1409, 3) := by decide +kernel
theorem dL_law_38 : decode cL_law 38 = .ok (.aload_n 0, 1) := by decide +kernel
theorem dL_law_39 : decode cL_law 39 = .ok (.iload 5, 2) := by decide +kernel
theorem dL_law_41 : decode cL_law 41 = .ok (.iaload, 1) := by decide +kernel
theorem dL_law_42 : decode cL_law 42 = .ok (.bipush 15, 2) := by decide +kernel
theorem dL_law_44 : decode cL_law 44 = .ok (.iand, 1) := by decide +kernel
theorem dL_law_45 : decode cL_law 45 = .ok (.tableswitch 1393 0 13 #[71, 162, 274, 329, 480, 614, 709, 808, 907, 1008, 1095, 1173, 1229, 1352], 71) := by decide +kernel
theorem dL_law_116 : decode cL_law 116 = .ok (.aload_n 1, 1) := by decide +kernel
theorem dL_law_117 : decode cL_law 117 = .ok (.aload_n 0, 1) := by decide +kernel
theorem dL_law_118 : decode cL_law 118 = .ok (.iload 5, 2) := by decide +kernel
theorem dL_law_120 : decode cL_law 120 = .ok (.iconst 1, 1) := by decide +kernel
theorem dL_law_121 : decode cL_law 121 = .ok (.iadd, 1) := by decide +kernel
theorem dL_law_122 : decode cL_law 122 = .ok (.iaload, 1) := by decide +kernel
theorem dL_law_123 : decode cL_law 123 = .ok (.aload_n 0, 1) := by decide +kernel
theorem dL_law_124 : decode cL_law 124 = .ok (.iload 5, 2) := by decide +kernel
theorem dL_law_126 : decode cL_law 126 = .ok (.iconst 2, 1) := by decide +kernel
theorem dL_law_127 : decode cL_law 127 = .ok (.iadd, 1) := by decide +kernel
theorem dL_law_128 : decode cL_law 128 = .ok (.iaload, 1) := by decide +kernel
theorem dL_law_129 : decode cL_law 129 = .ok (.aload_n 0, 1) := by decide +kernel
theorem dL_law_130 : decode cL_law 130 = .ok (.iload 5, 2) := by decide +kernel
theorem dL_law_132 : decode cL_law 132 = .ok (.iconst 3, 1) := by decide +kernel
theorem dL_law_133 : decode cL_law 133 = .ok (.iadd, 1) := by decide +kernel
theorem dL_law_134 : decode cL_law 134 = .ok (.iaload, 1) := by decide +kernel
theorem dL_law_135 : decode cL_law 135 = .ok (.aload_n 0, 1) := by decide +kernel
theorem dL_law_136 : decode cL_law 136 = .ok (.iload 5, 2) := by decide +kernel
theorem dL_law_138 : decode cL_law 138 = .ok (.iconst 4, 1) := by decide +kernel
theorem dL_law_139 : decode cL_law 139 = .ok (.iadd, 1) := by decide +kernel
theorem dL_law_140 : decode cL_law 140 = .ok (.iaload, 1) := by decide +kernel
theorem dL_law_141 : decode cL_law 141 = .ok (.aload_n 3, 1) := by decide +kernel
theorem dL_law_142 : decode cL_law 142 = .ok (.invokestatic 72, 3) := by decide +kernel
theorem dL_law_145 : decode cL_law 145 = .ok (.istore 6, 2) := by decide +kernel
theorem dL_law_147 : decode cL_law 147 = .ok (.aload_n 2, 1) := by decide +kernel
theorem dL_law_148 : decode cL_law 148 = .ok (.aload_n 0, 1) := by decide +kernel
theorem dL_law_149 : decode cL_law 149 = .ok (.iload 5, 2) := by decide +kernel
theorem dL_law_151 : decode cL_law 151 = .ok (.iconst 1, 1) := by decide +kernel
theorem dL_law_152 : decode cL_law 152 = .ok (.iadd, 1) := by decide +kernel
theorem dL_law_153 : decode cL_law 153 = .ok (.iaload, 1) := by decide +kernel
theorem dL_law_154 : decode cL_law 154 = .ok (.aload_n 0, 1) := by decide +kernel
theorem dL_law_155 : decode cL_law 155 = .ok (.iload 5, 2) := by decide +kernel
theorem dL_law_157 : decode cL_law 157 = .ok (.iconst 2, 1) := by decide +kernel
theorem dL_law_158 : decode cL_law 158 = .ok (.iadd, 1) := by decide +kernel
theorem dL_law_159 : decode cL_law 159 = .ok (.iaload, 1) := by decide +kernel
theorem dL_law_160 : decode cL_law 160 = .ok (.aload_n 0, 1) := by decide +kernel
theorem dL_law_161 : decode cL_law 161 = .ok (.iload 5, 2) := by decide +kernel
theorem dL_law_163 : decode cL_law 163 = .ok (.iconst 3, 1) := by decide +kernel
theorem dL_law_164 : decode cL_law 164 = .ok (.iadd, 1) := by decide +kernel
theorem dL_law_165 : decode cL_law 165 = .ok (.iaload, 1) := by decide +kernel
theorem dL_law_166 : decode cL_law 166 = .ok (.aload_n 0, 1) := by decide +kernel
theorem dL_law_167 : decode cL_law 167 = .ok (.iload 5, 2) := by decide +kernel
theorem dL_law_169 : decode cL_law 169 = .ok (.iconst 4, 1) := by decide +kernel
theorem dL_law_170 : decode cL_law 170 = .ok (.iadd, 1) := by decide +kernel
theorem dL_law_171 : decode cL_law 171 = .ok (.iaload, 1) := by decide +kernel
theorem dL_law_172 : decode cL_law 172 = .ok (.invokevirtual 77, 3) := by decide +kernel
theorem dL_law_175 : decode cL_law 175 = .ok (.lstore 7, 2) := by decide +kernel
theorem dL_law_177 : decode cL_law 177 = .ok (.aload_n 2, 1) := by decide +kernel
theorem dL_law_178 : decode cL_law 178 = .ok (.invokevirtual 78, 3) := by decide +kernel
theorem dL_law_181 : decode cL_law 181 = .ok (.iload 6, 2) := by decide +kernel
theorem dL_law_183 : decode cL_law 183 = .ok (.if_icmp .eq 5, 3) := by decide +kernel
theorem dL_law_186 : decode cL_law 186 = .ok (.iconst 0, 1) := by decide +kernel
theorem dL_law_187 : decode cL_law 187 = .ok (.ireturn, 1) := by decide +kernel
theorem dL_law_188 : decode cL_law 188 = .ok (.iload 6, 2) := by decide +kernel
theorem dL_law_190 : decode cL_law 190 = .ok (.ifCond .ne 14, 3) := by decide +kernel
theorem dL_law_193 : decode cL_law 193 = .ok (.aload_n 3, 1) := by decide +kernel
theorem dL_law_194 : decode cL_law 194 = .ok (.iconst 0, 1) := by decide +kernel
theorem dL_law_195 : decode cL_law 195 = .ok (.laload, 1) := by decide +kernel
theorem dL_law_196 : decode cL_law 196 = .ok (.lload 7, 2) := by decide +kernel
theorem dL_law_198 : decode cL_law 198 = .ok (.lcmp, 1) := by decide +kernel
theorem dL_law_199 : decode cL_law 199 = .ok (.ifCond .eq 5, 3) := by decide +kernel
theorem dL_law_202 : decode cL_law 202 = .ok (.iconst 0, 1) := by decide +kernel
theorem dL_law_203 : decode cL_law 203 = .ok (.ireturn, 1) := by decide +kernel
theorem dL_law_204 : decode cL_law 204 = .ok (.goto 1234, 3) := by decide +kernel
theorem dL_law_207 : decode cL_law 207 = .ok (.aload_n 1, 1) := by decide +kernel
theorem dL_law_208 : decode cL_law 208 = .ok (.aload_n 0, 1) := by decide +kernel
theorem dL_law_209 : decode cL_law 209 = .ok (.iload 5, 2) := by decide +kernel
theorem dL_law_211 : decode cL_law 211 = .ok (.iconst 1, 1) := by decide +kernel
theorem dL_law_212 : decode cL_law 212 = .ok (.iadd, 1) := by decide +kernel
theorem dL_law_213 : decode cL_law 213 = .ok (.iaload, 1) := by decide +kernel
theorem dL_law_214 : decode cL_law 214 = .ok (.aload_n 0, 1) := by decide +kernel
theorem dL_law_215 : decode cL_law 215 = .ok (.iload 5, 2) := by decide +kernel
theorem dL_law_217 : decode cL_law 217 = .ok (.iconst 2, 1) := by decide +kernel
theorem dL_law_218 : decode cL_law 218 = .ok (.iadd, 1) := by decide +kernel
theorem dL_law_219 : decode cL_law 219 = .ok (.iaload, 1) := by decide +kernel
theorem dL_law_220 : decode cL_law 220 = .ok (.i2l, 1) := by decide +kernel
theorem dL_law_221 : decode cL_law 221 = .ok (.bipush 32, 2) := by decide +kernel
theorem dL_law_223 : decode cL_law 223 = .ok (.lshl, 1) := by decide +kernel
theorem dL_law_224 : decode cL_law 224 = .ok (.aload_n 0, 1) := by decide +kernel
theorem dL_law_225 : decode cL_law 225 = .ok (.iload 5, 2) := by decide +kernel
theorem dL_law_227 : decode cL_law 227 = .ok (.iconst 3, 1) := by decide +kernel
theorem dL_law_228 : decode cL_law 228 = .ok (.iadd, 1) := by decide +kernel
theorem dL_law_229 : decode cL_law 229 = .ok (.iaload, 1) := by decide +kernel
theorem dL_law_230 : decode cL_law 230 = .ok (.i2l, 1) := by decide +kernel
theorem dL_law_231 : decode cL_law 231 = .ok (.ldc2_w 82, 3) := by decide +kernel
theorem dL_law_234 : decode cL_law 234 = .ok (.land, 1) := by decide +kernel
theorem dL_law_235 : decode cL_law 235 = .ok (.lor, 1) := by decide +kernel
theorem dL_law_236 : decode cL_law 236 = .ok (.aload_n 0, 1) := by decide +kernel
theorem dL_law_237 : decode cL_law 237 = .ok (.iload 5, 2) := by decide +kernel
theorem dL_law_239 : decode cL_law 239 = .ok (.iconst 4, 1) := by decide +kernel
theorem dL_law_240 : decode cL_law 240 = .ok (.iadd, 1) := by decide +kernel
theorem dL_law_241 : decode cL_law 241 = .ok (.iaload, 1) := by decide +kernel
theorem dL_law_242 : decode cL_law 242 = .ok (.aload_n 3, 1) := by decide +kernel
theorem dL_law_243 : decode cL_law 243 = .ok (.invokestatic 84, 3) := by decide +kernel
theorem dL_law_246 : decode cL_law 246 = .ok (.istore 6, 2) := by decide +kernel
theorem dL_law_248 : decode cL_law 248 = .ok (.aload_n 2, 1) := by decide +kernel
theorem dL_law_249 : decode cL_law 249 = .ok (.aload_n 0, 1) := by decide +kernel
theorem dL_law_250 : decode cL_law 250 = .ok (.iload 5, 2) := by decide +kernel
theorem dL_law_252 : decode cL_law 252 = .ok (.iconst 1, 1) := by decide +kernel
theorem dL_law_253 : decode cL_law 253 = .ok (.iadd, 1) := by decide +kernel
theorem dL_law_254 : decode cL_law 254 = .ok (.iaload, 1) := by decide +kernel
theorem dL_law_255 : decode cL_law 255 = .ok (.aload_n 0, 1) := by decide +kernel
theorem dL_law_256 : decode cL_law 256 = .ok (.iload 5, 2) := by decide +kernel
theorem dL_law_258 : decode cL_law 258 = .ok (.iconst 2, 1) := by decide +kernel
theorem dL_law_259 : decode cL_law 259 = .ok (.iadd, 1) := by decide +kernel
theorem dL_law_260 : decode cL_law 260 = .ok (.iaload, 1) := by decide +kernel
theorem dL_law_261 : decode cL_law 261 = .ok (.i2l, 1) := by decide +kernel
theorem dL_law_262 : decode cL_law 262 = .ok (.bipush 32, 2) := by decide +kernel
theorem dL_law_264 : decode cL_law 264 = .ok (.lshl, 1) := by decide +kernel
theorem dL_law_265 : decode cL_law 265 = .ok (.aload_n 0, 1) := by decide +kernel
theorem dL_law_266 : decode cL_law 266 = .ok (.iload 5, 2) := by decide +kernel
theorem dL_law_268 : decode cL_law 268 = .ok (.iconst 3, 1) := by decide +kernel
theorem dL_law_269 : decode cL_law 269 = .ok (.iadd, 1) := by decide +kernel
theorem dL_law_270 : decode cL_law 270 = .ok (.iaload, 1) := by decide +kernel
theorem dL_law_271 : decode cL_law 271 = .ok (.i2l, 1) := by decide +kernel
theorem dL_law_272 : decode cL_law 272 = .ok (.ldc2_w 82, 3) := by decide +kernel
theorem dL_law_275 : decode cL_law 275 = .ok (.land, 1) := by decide +kernel
theorem dL_law_276 : decode cL_law 276 = .ok (.lor, 1) := by decide +kernel
theorem dL_law_277 : decode cL_law 277 = .ok (.aload_n 0, 1) := by decide +kernel
theorem dL_law_278 : decode cL_law 278 = .ok (.iload 5, 2) := by decide +kernel
theorem dL_law_280 : decode cL_law 280 = .ok (.iconst 4, 1) := by decide +kernel
theorem dL_law_281 : decode cL_law 281 = .ok (.iadd, 1) := by decide +kernel
theorem dL_law_282 : decode cL_law 282 = .ok (.iaload, 1) := by decide +kernel
theorem dL_law_283 : decode cL_law 283 = .ok (.invokevirtual 87, 3) := by decide +kernel
theorem dL_law_286 : decode cL_law 286 = .ok (.istore 7, 2) := by decide +kernel
theorem dL_law_288 : decode cL_law 288 = .ok (.aload_n 2, 1) := by decide +kernel
theorem dL_law_289 : decode cL_law 289 = .ok (.invokevirtual 78, 3) := by decide +kernel
theorem dL_law_292 : decode cL_law 292 = .ok (.iload 6, 2) := by decide +kernel
theorem dL_law_294 : decode cL_law 294 = .ok (.if_icmp .eq 5, 3) := by decide +kernel
theorem dL_law_297 : decode cL_law 297 = .ok (.iconst 0, 1) := by decide +kernel
theorem dL_law_298 : decode cL_law 298 = .ok (.ireturn, 1) := by decide +kernel
theorem dL_law_299 : decode cL_law 299 = .ok (.iload 6, 2) := by decide +kernel
theorem dL_law_301 : decode cL_law 301 = .ok (.ifCond .ne 15, 3) := by decide +kernel
theorem dL_law_304 : decode cL_law 304 = .ok (.aload_n 3, 1) := by decide +kernel
theorem dL_law_305 : decode cL_law 305 = .ok (.iconst 0, 1) := by decide +kernel
theorem dL_law_306 : decode cL_law 306 = .ok (.laload, 1) := by decide +kernel
theorem dL_law_307 : decode cL_law 307 = .ok (.iload 7, 2) := by decide +kernel
theorem dL_law_309 : decode cL_law 309 = .ok (.i2l, 1) := by decide +kernel
theorem dL_law_310 : decode cL_law 310 = .ok (.lcmp, 1) := by decide +kernel
theorem dL_law_311 : decode cL_law 311 = .ok (.ifCond .eq 5, 3) := by decide +kernel
theorem dL_law_314 : decode cL_law 314 = .ok (.iconst 0, 1) := by decide +kernel
theorem dL_law_315 : decode cL_law 315 = .ok (.ireturn, 1) := by decide +kernel
theorem dL_law_316 : decode cL_law 316 = .ok (.goto 1122, 3) := by decide +kernel
theorem dL_law_319 : decode cL_law 319 = .ok (.aload_n 1, 1) := by decide +kernel
theorem dL_law_320 : decode cL_law 320 = .ok (.aload_n 0, 1) := by decide +kernel
theorem dL_law_321 : decode cL_law 321 = .ok (.iload 5, 2) := by decide +kernel
theorem dL_law_323 : decode cL_law 323 = .ok (.iconst 1, 1) := by decide +kernel
theorem dL_law_324 : decode cL_law 324 = .ok (.iadd, 1) := by decide +kernel
theorem dL_law_325 : decode cL_law 325 = .ok (.iaload, 1) := by decide +kernel
theorem dL_law_326 : decode cL_law 326 = .ok (.aload_n 3, 1) := by decide +kernel
theorem dL_law_327 : decode cL_law 327 = .ok (.invokestatic 88, 3) := by decide +kernel
theorem dL_law_330 : decode cL_law 330 = .ok (.istore 6, 2) := by decide +kernel
theorem dL_law_332 : decode cL_law 332 = .ok (.aload_n 2, 1) := by decide +kernel
theorem dL_law_333 : decode cL_law 333 = .ok (.aload_n 0, 1) := by decide +kernel
theorem dL_law_334 : decode cL_law 334 = .ok (.iload 5, 2) := by decide +kernel
theorem dL_law_336 : decode cL_law 336 = .ok (.iconst 1, 1) := by decide +kernel
theorem dL_law_337 : decode cL_law 337 = .ok (.iadd, 1) := by decide +kernel
theorem dL_law_338 : decode cL_law 338 = .ok (.iaload, 1) := by decide +kernel
theorem dL_law_339 : decode cL_law 339 = .ok (.invokevirtual 91, 3) := by decide +kernel
theorem dL_law_342 : decode cL_law 342 = .ok (.lstore 7, 2) := by decide +kernel
theorem dL_law_344 : decode cL_law 344 = .ok (.aload_n 2, 1) := by decide +kernel
theorem dL_law_345 : decode cL_law 345 = .ok (.invokevirtual 78, 3) := by decide +kernel
theorem dL_law_348 : decode cL_law 348 = .ok (.iload 6, 2) := by decide +kernel
theorem dL_law_350 : decode cL_law 350 = .ok (.if_icmp .eq 5, 3) := by decide +kernel
theorem dL_law_353 : decode cL_law 353 = .ok (.iconst 0, 1) := by decide +kernel
theorem dL_law_354 : decode cL_law 354 = .ok (.ireturn, 1) := by decide +kernel
theorem dL_law_355 : decode cL_law 355 = .ok (.iload 6, 2) := by decide +kernel
theorem dL_law_357 : decode cL_law 357 = .ok (.ifCond .ne 14, 3) := by decide +kernel
theorem dL_law_360 : decode cL_law 360 = .ok (.aload_n 3, 1) := by decide +kernel
theorem dL_law_361 : decode cL_law 361 = .ok (.iconst 0, 1) := by decide +kernel
theorem dL_law_362 : decode cL_law 362 = .ok (.laload, 1) := by decide +kernel
theorem dL_law_363 : decode cL_law 363 = .ok (.lload 7, 2) := by decide +kernel
theorem dL_law_365 : decode cL_law 365 = .ok (.lcmp, 1) := by decide +kernel
theorem dL_law_366 : decode cL_law 366 = .ok (.ifCond .eq 5, 3) := by decide +kernel
theorem dL_law_369 : decode cL_law 369 = .ok (.iconst 0, 1) := by decide +kernel
theorem dL_law_370 : decode cL_law 370 = .ok (.ireturn, 1) := by decide +kernel
theorem dL_law_371 : decode cL_law 371 = .ok (.goto 1067, 3) := by decide +kernel
theorem dL_law_374 : decode cL_law 374 = .ok (.aload_n 1, 1) := by decide +kernel
theorem dL_law_375 : decode cL_law 375 = .ok (.aload_n 0, 1) := by decide +kernel
theorem dL_law_376 : decode cL_law 376 = .ok (.iload 5, 2) := by decide +kernel
theorem dL_law_378 : decode cL_law 378 = .ok (.iconst 1, 1) := by decide +kernel
theorem dL_law_379 : decode cL_law 379 = .ok (.iadd, 1) := by decide +kernel
theorem dL_law_380 : decode cL_law 380 = .ok (.iaload, 1) := by decide +kernel
theorem dL_law_381 : decode cL_law 381 = .ok (.aload_n 0, 1) := by decide +kernel
theorem dL_law_382 : decode cL_law 382 = .ok (.iload 5, 2) := by decide +kernel
theorem dL_law_384 : decode cL_law 384 = .ok (.iconst 2, 1) := by decide +kernel
theorem dL_law_385 : decode cL_law 385 = .ok (.iadd, 1) := by decide +kernel
theorem dL_law_386 : decode cL_law 386 = .ok (.iaload, 1) := by decide +kernel
theorem dL_law_387 : decode cL_law 387 = .ok (.i2d, 1) := by decide +kernel
theorem dL_law_388 : decode cL_law 388 = .ok (.ldc2_w 92, 3) := by decide +kernel
theorem dL_law_391 : decode cL_law 391 = .ok (.dmul, 1) := by decide +kernel
theorem dL_law_392 : decode cL_law 392 = .ok (.aload_n 0, 1) := by decide +kernel
theorem dL_law_393 : decode cL_law 393 = .ok (.iload 5, 2) := by decide +kernel
theorem dL_law_395 : decode cL_law 395 = .ok (.iconst 3, 1) := by decide +kernel
theorem dL_law_396 : decode cL_law 396 = .ok (.iadd, 1) := by decide +kernel
theorem dL_law_397 : decode cL_law 397 = .ok (.iaload, 1) := by decide +kernel
theorem dL_law_398 : decode cL_law 398 = .ok (.i2d, 1) := by decide +kernel
theorem dL_law_399 : decode cL_law 399 = .ok (.ldc2_w 92, 3) := by decide +kernel
theorem dL_law_402 : decode cL_law 402 = .ok (.dmul, 1) := by decide +kernel
theorem dL_law_403 : decode cL_law 403 = .ok (.aload_n 0, 1) := by decide +kernel
theorem dL_law_404 : decode cL_law 404 = .ok (.iload 5, 2) := by decide +kernel
theorem dL_law_406 : decode cL_law 406 = .ok (.iconst 4, 1) := by decide +kernel
theorem dL_law_407 : decode cL_law 407 = .ok (.iadd, 1) := by decide +kernel
theorem dL_law_408 : decode cL_law 408 = .ok (.iaload, 1) := by decide +kernel
theorem dL_law_409 : decode cL_law 409 = .ok (.i2d, 1) := by decide +kernel
theorem dL_law_410 : decode cL_law 410 = .ok (.ldc2_w 92, 3) := by decide +kernel
theorem dL_law_413 : decode cL_law 413 = .ok (.dmul, 1) := by decide +kernel
theorem dL_law_414 : decode cL_law 414 = .ok (.aload_n 0, 1) := by decide +kernel
theorem dL_law_415 : decode cL_law 415 = .ok (.iload 5, 2) := by decide +kernel
theorem dL_law_417 : decode cL_law 417 = .ok (.iconst 5, 1) := by decide +kernel
theorem dL_law_418 : decode cL_law 418 = .ok (.iadd, 1) := by decide +kernel
theorem dL_law_419 : decode cL_law 419 = .ok (.iaload, 1) := by decide +kernel
theorem dL_law_420 : decode cL_law 420 = .ok (.i2d, 1) := by decide +kernel
theorem dL_law_421 : decode cL_law 421 = .ok (.ldc2_w 92, 3) := by decide +kernel
theorem dL_law_424 : decode cL_law 424 = .ok (.dmul, 1) := by decide +kernel
theorem dL_law_425 : decode cL_law 425 = .ok (.aload_n 3, 1) := by decide +kernel
theorem dL_law_426 : decode cL_law 426 = .ok (.invokestatic 94, 3) := by decide +kernel
theorem dL_law_429 : decode cL_law 429 = .ok (.istore 6, 2) := by decide +kernel
theorem dL_law_431 : decode cL_law 431 = .ok (.aload_n 2, 1) := by decide +kernel
theorem dL_law_432 : decode cL_law 432 = .ok (.aload_n 0, 1) := by decide +kernel
theorem dL_law_433 : decode cL_law 433 = .ok (.iload 5, 2) := by decide +kernel
theorem dL_law_435 : decode cL_law 435 = .ok (.iconst 1, 1) := by decide +kernel
theorem dL_law_436 : decode cL_law 436 = .ok (.iadd, 1) := by decide +kernel
theorem dL_law_437 : decode cL_law 437 = .ok (.iaload, 1) := by decide +kernel
theorem dL_law_438 : decode cL_law 438 = .ok (.aload_n 0, 1) := by decide +kernel
theorem dL_law_439 : decode cL_law 439 = .ok (.iload 5, 2) := by decide +kernel
theorem dL_law_441 : decode cL_law 441 = .ok (.iconst 2, 1) := by decide +kernel
theorem dL_law_442 : decode cL_law 442 = .ok (.iadd, 1) := by decide +kernel
theorem dL_law_443 : decode cL_law 443 = .ok (.iaload, 1) := by decide +kernel
theorem dL_law_444 : decode cL_law 444 = .ok (.i2d, 1) := by decide +kernel
theorem dL_law_445 : decode cL_law 445 = .ok (.ldc2_w 92, 3) := by decide +kernel
theorem dL_law_448 : decode cL_law 448 = .ok (.dmul, 1) := by decide +kernel
theorem dL_law_449 : decode cL_law 449 = .ok (.aload_n 0, 1) := by decide +kernel
theorem dL_law_450 : decode cL_law 450 = .ok (.iload 5, 2) := by decide +kernel
theorem dL_law_452 : decode cL_law 452 = .ok (.iconst 3, 1) := by decide +kernel
theorem dL_law_453 : decode cL_law 453 = .ok (.iadd, 1) := by decide +kernel
theorem dL_law_454 : decode cL_law 454 = .ok (.iaload, 1) := by decide +kernel
theorem dL_law_455 : decode cL_law 455 = .ok (.i2d, 1) := by decide +kernel
theorem dL_law_456 : decode cL_law 456 = .ok (.ldc2_w 92, 3) := by decide +kernel
theorem dL_law_459 : decode cL_law 459 = .ok (.dmul, 1) := by decide +kernel
theorem dL_law_460 : decode cL_law 460 = .ok (.aload_n 0, 1) := by decide +kernel
theorem dL_law_461 : decode cL_law 461 = .ok (.iload 5, 2) := by decide +kernel
theorem dL_law_463 : decode cL_law 463 = .ok (.iconst 4, 1) := by decide +kernel
theorem dL_law_464 : decode cL_law 464 = .ok (.iadd, 1) := by decide +kernel
theorem dL_law_465 : decode cL_law 465 = .ok (.iaload, 1) := by decide +kernel
theorem dL_law_466 : decode cL_law 466 = .ok (.i2d, 1) := by decide +kernel
theorem dL_law_467 : decode cL_law 467 = .ok (.ldc2_w 92, 3) := by decide +kernel
theorem dL_law_470 : decode cL_law 470 = .ok (.dmul, 1) := by decide +kernel
theorem dL_law_471 : decode cL_law 471 = .ok (.aload_n 0, 1) := by decide +kernel
theorem dL_law_472 : decode cL_law 472 = .ok (.iload 5, 2) := by decide +kernel
theorem dL_law_474 : decode cL_law 474 = .ok (.iconst 5, 1) := by decide +kernel
theorem dL_law_475 : decode cL_law 475 = .ok (.iadd, 1) := by decide +kernel
theorem dL_law_476 : decode cL_law 476 = .ok (.iaload, 1) := by decide +kernel
theorem dL_law_477 : decode cL_law 477 = .ok (.i2d, 1) := by decide +kernel
theorem dL_law_478 : decode cL_law 478 = .ok (.ldc2_w 92, 3) := by decide +kernel
theorem dL_law_481 : decode cL_law 481 = .ok (.dmul, 1) := by decide +kernel
theorem dL_law_482 : decode cL_law 482 = .ok (.invokevirtual 97, 3) := by decide +kernel
theorem dL_law_485 : decode cL_law 485 = .ok (.istore 7, 2) := by decide +kernel
theorem dL_law_487 : decode cL_law 487 = .ok (.aload_n 2, 1) := by decide +kernel
theorem dL_law_488 : decode cL_law 488 = .ok (.invokevirtual 78, 3) := by decide +kernel
theorem dL_law_491 : decode cL_law 491 = .ok (.iload 6, 2) := by decide +kernel
theorem dL_law_493 : decode cL_law 493 = .ok (.if_icmp .eq 5, 3) := by decide +kernel
theorem dL_law_496 : decode cL_law 496 = .ok (.iconst 0, 1) := by decide +kernel
theorem dL_law_497 : decode cL_law 497 = .ok (.ireturn, 1) := by decide +kernel
theorem dL_law_498 : decode cL_law 498 = .ok (.iload 6, 2) := by decide +kernel
theorem dL_law_500 : decode cL_law 500 = .ok (.ifCond .ne 22, 3) := by decide +kernel
theorem dL_law_503 : decode cL_law 503 = .ok (.aload_n 3, 1) := by decide +kernel
theorem dL_law_504 : decode cL_law 504 = .ok (.iconst 0, 1) := by decide +kernel
theorem dL_law_505 : decode cL_law 505 = .ok (.laload, 1) := by decide +kernel
theorem dL_law_506 : decode cL_law 506 = .ok (.iload 7, 2) := by decide +kernel
theorem dL_law_508 : decode cL_law 508 = .ok (.ifCond .eq 7, 3) := by decide +kernel
theorem dL_law_511 : decode cL_law 511 = .ok (.lconst 1, 1) := by decide +kernel
theorem dL_law_512 : decode cL_law 512 = .ok (.goto 4, 3) := by decide +kernel
theorem dL_law_515 : decode cL_law 515 = .ok (.lconst 0, 1) := by decide +kernel
theorem dL_law_516 : decode cL_law 516 = .ok (.lcmp, 1) := by decide +kernel
theorem dL_law_517 : decode cL_law 517 = .ok (.ifCond .eq 5, 3) := by decide +kernel
theorem dL_law_520 : decode cL_law 520 = .ok (.iconst 0, 1) := by decide +kernel
theorem dL_law_521 : decode cL_law 521 = .ok (.ireturn, 1) := by decide +kernel
theorem dL_law_522 : decode cL_law 522 = .ok (.goto 916, 3) := by decide +kernel
theorem dL_law_525 : decode cL_law 525 = .ok (.aload_n 1, 1) := by decide +kernel
theorem dL_law_526 : decode cL_law 526 = .ok (.aload_n 0, 1) := by decide +kernel
theorem dL_law_527 : decode cL_law 527 = .ok (.iload 5, 2) := by decide +kernel
theorem dL_law_529 : decode cL_law 529 = .ok (.iconst 1, 1) := by decide +kernel
theorem dL_law_530 : decode cL_law 530 = .ok (.iadd, 1) := by decide +kernel
theorem dL_law_531 : decode cL_law 531 = .ok (.iaload, 1) := by decide +kernel
theorem dL_law_532 : decode cL_law 532 = .ok (.aload_n 0, 1) := by decide +kernel
theorem dL_law_533 : decode cL_law 533 = .ok (.iload 5, 2) := by decide +kernel
theorem dL_law_535 : decode cL_law 535 = .ok (.iconst 2, 1) := by decide +kernel
theorem dL_law_536 : decode cL_law 536 = .ok (.iadd, 1) := by decide +kernel
theorem dL_law_537 : decode cL_law 537 = .ok (.iaload, 1) := by decide +kernel
theorem dL_law_538 : decode cL_law 538 = .ok (.aload_n 0, 1) := by decide +kernel
theorem dL_law_539 : decode cL_law 539 = .ok (.iload 5, 2) := by decide +kernel
theorem dL_law_541 : decode cL_law 541 = .ok (.iconst 3, 1) := by decide +kernel
theorem dL_law_542 : decode cL_law 542 = .ok (.iadd, 1) := by decide +kernel
theorem dL_law_543 : decode cL_law 543 = .ok (.iaload, 1) := by decide +kernel
theorem dL_law_544 : decode cL_law 544 = .ok (.i2d, 1) := by decide +kernel
theorem dL_law_545 : decode cL_law 545 = .ok (.ldc2_w 92, 3) := by decide +kernel
theorem dL_law_548 : decode cL_law 548 = .ok (.dmul, 1) := by decide +kernel
theorem dL_law_549 : decode cL_law 549 = .ok (.aload_n 0, 1) := by decide +kernel
theorem dL_law_550 : decode cL_law 550 = .ok (.iload 5, 2) := by decide +kernel
theorem dL_law_552 : decode cL_law 552 = .ok (.iconst 4, 1) := by decide +kernel
theorem dL_law_553 : decode cL_law 553 = .ok (.iadd, 1) := by decide +kernel
theorem dL_law_554 : decode cL_law 554 = .ok (.iaload, 1) := by decide +kernel
theorem dL_law_555 : decode cL_law 555 = .ok (.i2d, 1) := by decide +kernel
theorem dL_law_556 : decode cL_law 556 = .ok (.ldc2_w 92, 3) := by decide +kernel
theorem dL_law_559 : decode cL_law 559 = .ok (.dmul, 1) := by decide +kernel
theorem dL_law_560 : decode cL_law 560 = .ok (.aload_n 0, 1) := by decide +kernel
theorem dL_law_561 : decode cL_law 561 = .ok (.iload 5, 2) := by decide +kernel
theorem dL_law_563 : decode cL_law 563 = .ok (.iconst 5, 1) := by decide +kernel
theorem dL_law_564 : decode cL_law 564 = .ok (.iadd, 1) := by decide +kernel
theorem dL_law_565 : decode cL_law 565 = .ok (.iaload, 1) := by decide +kernel
theorem dL_law_566 : decode cL_law 566 = .ok (.i2d, 1) := by decide +kernel
theorem dL_law_567 : decode cL_law 567 = .ok (.ldc2_w 92, 3) := by decide +kernel
theorem dL_law_570 : decode cL_law 570 = .ok (.dmul, 1) := by decide +kernel
theorem dL_law_571 : decode cL_law 571 = .ok (.aload_n 3, 1) := by decide +kernel
theorem dL_law_572 : decode cL_law 572 = .ok (.invokestatic 98, 3) := by decide +kernel
theorem dL_law_575 : decode cL_law 575 = .ok (.istore 6, 2) := by decide +kernel
theorem dL_law_577 : decode cL_law 577 = .ok (.aload_n 2, 1) := by decide +kernel
theorem dL_law_578 : decode cL_law 578 = .ok (.aload_n 0, 1) := by decide +kernel
theorem dL_law_579 : decode cL_law 579 = .ok (.iload 5, 2) := by decide +kernel
theorem dL_law_581 : decode cL_law 581 = .ok (.iconst 1, 1) := by decide +kernel
theorem dL_law_582 : decode cL_law 582 = .ok (.iadd, 1) := by decide +kernel
theorem dL_law_583 : decode cL_law 583 = .ok (.iaload, 1) := by decide +kernel
theorem dL_law_584 : decode cL_law 584 = .ok (.aload_n 0, 1) := by decide +kernel
theorem dL_law_585 : decode cL_law 585 = .ok (.iload 5, 2) := by decide +kernel
theorem dL_law_587 : decode cL_law 587 = .ok (.iconst 2, 1) := by decide +kernel
theorem dL_law_588 : decode cL_law 588 = .ok (.iadd, 1) := by decide +kernel
theorem dL_law_589 : decode cL_law 589 = .ok (.iaload, 1) := by decide +kernel
theorem dL_law_590 : decode cL_law 590 = .ok (.aload_n 0, 1) := by decide +kernel
theorem dL_law_591 : decode cL_law 591 = .ok (.iload 5, 2) := by decide +kernel
theorem dL_law_593 : decode cL_law 593 = .ok (.iconst 3, 1) := by decide +kernel
theorem dL_law_594 : decode cL_law 594 = .ok (.iadd, 1) := by decide +kernel
theorem dL_law_595 : decode cL_law 595 = .ok (.iaload, 1) := by decide +kernel
theorem dL_law_596 : decode cL_law 596 = .ok (.i2d, 1) := by decide +kernel
theorem dL_law_597 : decode cL_law 597 = .ok (.ldc2_w 92, 3) := by decide +kernel
theorem dL_law_600 : decode cL_law 600 = .ok (.dmul, 1) := by decide +kernel
theorem dL_law_601 : decode cL_law 601 = .ok (.aload_n 0, 1) := by decide +kernel
theorem dL_law_602 : decode cL_law 602 = .ok (.iload 5, 2) := by decide +kernel
theorem dL_law_604 : decode cL_law 604 = .ok (.iconst 4, 1) := by decide +kernel
theorem dL_law_605 : decode cL_law 605 = .ok (.iadd, 1) := by decide +kernel
theorem dL_law_606 : decode cL_law 606 = .ok (.iaload, 1) := by decide +kernel
theorem dL_law_607 : decode cL_law 607 = .ok (.i2d, 1) := by decide +kernel
theorem dL_law_608 : decode cL_law 608 = .ok (.ldc2_w 92, 3) := by decide +kernel
theorem dL_law_611 : decode cL_law 611 = .ok (.dmul, 1) := by decide +kernel
theorem dL_law_612 : decode cL_law 612 = .ok (.aload_n 0, 1) := by decide +kernel
theorem dL_law_613 : decode cL_law 613 = .ok (.iload 5, 2) := by decide +kernel
theorem dL_law_615 : decode cL_law 615 = .ok (.iconst 5, 1) := by decide +kernel
theorem dL_law_616 : decode cL_law 616 = .ok (.iadd, 1) := by decide +kernel
theorem dL_law_617 : decode cL_law 617 = .ok (.iaload, 1) := by decide +kernel
theorem dL_law_618 : decode cL_law 618 = .ok (.i2d, 1) := by decide +kernel
theorem dL_law_619 : decode cL_law 619 = .ok (.ldc2_w 92, 3) := by decide +kernel
theorem dL_law_622 : decode cL_law 622 = .ok (.dmul, 1) := by decide +kernel
theorem dL_law_623 : decode cL_law 623 = .ok (.invokevirtual 101, 3) := by decide +kernel
theorem dL_law_626 : decode cL_law 626 = .ok (.istore 7, 2) := by decide +kernel
theorem dL_law_628 : decode cL_law 628 = .ok (.aload_n 2, 1) := by decide +kernel
theorem dL_law_629 : decode cL_law 629 = .ok (.invokevirtual 78, 3) := by decide +kernel
theorem dL_law_632 : decode cL_law 632 = .ok (.iload 6, 2) := by decide +kernel
theorem dL_law_634 : decode cL_law 634 = .ok (.if_icmp .eq 5, 3) := by decide +kernel
theorem dL_law_637 : decode cL_law 637 = .ok (.iconst 0, 1) := by decide +kernel
theorem dL_law_638 : decode cL_law 638 = .ok (.ireturn, 1) := by decide +kernel
theorem dL_law_639 : decode cL_law 639 = .ok (.iload 6, 2) := by decide +kernel
theorem dL_law_641 : decode cL_law 641 = .ok (.ifCond .ne 15, 3) := by decide +kernel
theorem dL_law_644 : decode cL_law 644 = .ok (.aload_n 3, 1) := by decide +kernel
theorem dL_law_645 : decode cL_law 645 = .ok (.iconst 0, 1) := by decide +kernel
theorem dL_law_646 : decode cL_law 646 = .ok (.laload, 1) := by decide +kernel
theorem dL_law_647 : decode cL_law 647 = .ok (.iload 7, 2) := by decide +kernel
theorem dL_law_649 : decode cL_law 649 = .ok (.i2l, 1) := by decide +kernel
theorem dL_law_650 : decode cL_law 650 = .ok (.lcmp, 1) := by decide +kernel
theorem dL_law_651 : decode cL_law 651 = .ok (.ifCond .eq 5, 3) := by decide +kernel
theorem dL_law_654 : decode cL_law 654 = .ok (.iconst 0, 1) := by decide +kernel
theorem dL_law_655 : decode cL_law 655 = .ok (.ireturn, 1) := by decide +kernel
theorem dL_law_656 : decode cL_law 656 = .ok (.goto 782, 3) := by decide +kernel
theorem dL_law_659 : decode cL_law 659 = .ok (.aload_n 1, 1) := by decide +kernel
theorem dL_law_660 : decode cL_law 660 = .ok (.aload_n 0, 1) := by decide +kernel
theorem dL_law_661 : decode cL_law 661 = .ok (.iload 5, 2) := by decide +kernel
theorem dL_law_663 : decode cL_law 663 = .ok (.iconst 1, 1) := by decide +kernel
theorem dL_law_664 : decode cL_law 664 = .ok (.iadd, 1) := by decide +kernel
theorem dL_law_665 : decode cL_law 665 = .ok (.iaload, 1) := by decide +kernel
theorem dL_law_666 : decode cL_law 666 = .ok (.i2d, 1) := by decide +kernel
theorem dL_law_667 : decode cL_law 667 = .ok (.ldc2_w 92, 3) := by decide +kernel
theorem dL_law_670 : decode cL_law 670 = .ok (.dmul, 1) := by decide +kernel
theorem dL_law_671 : decode cL_law 671 = .ok (.aload_n 0, 1) := by decide +kernel
theorem dL_law_672 : decode cL_law 672 = .ok (.iload 5, 2) := by decide +kernel
theorem dL_law_674 : decode cL_law 674 = .ok (.iconst 2, 1) := by decide +kernel
theorem dL_law_675 : decode cL_law 675 = .ok (.iadd, 1) := by decide +kernel
theorem dL_law_676 : decode cL_law 676 = .ok (.iaload, 1) := by decide +kernel
theorem dL_law_677 : decode cL_law 677 = .ok (.i2d, 1) := by decide +kernel
theorem dL_law_678 : decode cL_law 678 = .ok (.ldc2_w 92, 3) := by decide +kernel
theorem dL_law_681 : decode cL_law 681 = .ok (.dmul, 1) := by decide +kernel
theorem dL_law_682 : decode cL_law 682 = .ok (.aload_n 3, 1) := by decide +kernel
theorem dL_law_683 : decode cL_law 683 = .ok (.invokestatic 102, 3) := by decide +kernel
theorem dL_law_686 : decode cL_law 686 = .ok (.istore 6, 2) := by decide +kernel
theorem dL_law_688 : decode cL_law 688 = .ok (.aload_n 2, 1) := by decide +kernel
theorem dL_law_689 : decode cL_law 689 = .ok (.aload_n 0, 1) := by decide +kernel
theorem dL_law_690 : decode cL_law 690 = .ok (.iload 5, 2) := by decide +kernel
theorem dL_law_692 : decode cL_law 692 = .ok (.iconst 1, 1) := by decide +kernel
theorem dL_law_693 : decode cL_law 693 = .ok (.iadd, 1) := by decide +kernel
theorem dL_law_694 : decode cL_law 694 = .ok (.iaload, 1) := by decide +kernel
theorem dL_law_695 : decode cL_law 695 = .ok (.i2d, 1) := by decide +kernel
theorem dL_law_696 : decode cL_law 696 = .ok (.ldc2_w 92, 3) := by decide +kernel
theorem dL_law_699 : decode cL_law 699 = .ok (.dmul, 1) := by decide +kernel
theorem dL_law_700 : decode cL_law 700 = .ok (.aload_n 0, 1) := by decide +kernel
theorem dL_law_701 : decode cL_law 701 = .ok (.iload 5, 2) := by decide +kernel
theorem dL_law_703 : decode cL_law 703 = .ok (.iconst 2, 1) := by decide +kernel
theorem dL_law_704 : decode cL_law 704 = .ok (.iadd, 1) := by decide +kernel
theorem dL_law_705 : decode cL_law 705 = .ok (.iaload, 1) := by decide +kernel
theorem dL_law_706 : decode cL_law 706 = .ok (.i2d, 1) := by decide +kernel
theorem dL_law_707 : decode cL_law 707 = .ok (.ldc2_w 92, 3) := by decide +kernel
theorem dL_law_710 : decode cL_law 710 = .ok (.dmul, 1) := by decide +kernel
theorem dL_law_711 : decode cL_law 711 = .ok (.invokevirtual 105, 3) := by decide +kernel
theorem dL_law_714 : decode cL_law 714 = .ok (.istore 7, 2) := by decide +kernel
theorem dL_law_716 : decode cL_law 716 = .ok (.aload_n 2, 1) := by decide +kernel
theorem dL_law_717 : decode cL_law 717 = .ok (.invokevirtual 78, 3) := by decide +kernel
theorem dL_law_720 : decode cL_law 720 = .ok (.iload 6, 2) := by decide +kernel
theorem dL_law_722 : decode cL_law 722 = .ok (.if_icmp .eq 5, 3) := by decide +kernel
theorem dL_law_725 : decode cL_law 725 = .ok (.iconst 0, 1) := by decide +kernel
theorem dL_law_726 : decode cL_law 726 = .ok (.ireturn, 1) := by decide +kernel
theorem dL_law_727 : decode cL_law 727 = .ok (.iload 6, 2) := by decide +kernel
theorem dL_law_729 : decode cL_law 729 = .ok (.ifCond .ne 22, 3) := by decide +kernel
theorem dL_law_732 : decode cL_law 732 = .ok (.aload_n 3, 1) := by decide +kernel
theorem dL_law_733 : decode cL_law 733 = .ok (.iconst 0, 1) := by decide +kernel
theorem dL_law_734 : decode cL_law 734 = .ok (.laload, 1) := by decide +kernel
theorem dL_law_735 : decode cL_law 735 = .ok (.iload 7, 2) := by decide +kernel
theorem dL_law_737 : decode cL_law 737 = .ok (.ifCond .eq 7, 3) := by decide +kernel
theorem dL_law_740 : decode cL_law 740 = .ok (.lconst 1, 1) := by decide +kernel
theorem dL_law_741 : decode cL_law 741 = .ok (.goto 4, 3) := by decide +kernel
theorem dL_law_744 : decode cL_law 744 = .ok (.lconst 0, 1) := by decide +kernel
theorem dL_law_745 : decode cL_law 745 = .ok (.lcmp, 1) := by decide +kernel
theorem dL_law_746 : decode cL_law 746 = .ok (.ifCond .eq 5, 3) := by decide +kernel
theorem dL_law_749 : decode cL_law 749 = .ok (.iconst 0, 1) := by decide +kernel
theorem dL_law_750 : decode cL_law 750 = .ok (.ireturn, 1) := by decide +kernel
theorem dL_law_751 : decode cL_law 751 = .ok (.goto 687, 3) := by decide +kernel
theorem dL_law_754 : decode cL_law 754 = .ok (.aload_n 1, 1) := by decide +kernel
theorem dL_law_755 : decode cL_law 755 = .ok (.aload_n 0, 1) := by decide +kernel
theorem dL_law_756 : decode cL_law 756 = .ok (.iload 5, 2) := by decide +kernel
theorem dL_law_758 : decode cL_law 758 = .ok (.iconst 1, 1) := by decide +kernel
theorem dL_law_759 : decode cL_law 759 = .ok (.iadd, 1) := by decide +kernel
theorem dL_law_760 : decode cL_law 760 = .ok (.iaload, 1) := by decide +kernel
theorem dL_law_761 : decode cL_law 761 = .ok (.aload_n 0, 1) := by decide +kernel
theorem dL_law_762 : decode cL_law 762 = .ok (.iload 5, 2) := by decide +kernel
theorem dL_law_764 : decode cL_law 764 = .ok (.iconst 2, 1) := by decide +kernel
theorem dL_law_765 : decode cL_law 765 = .ok (.iadd, 1) := by decide +kernel
theorem dL_law_766 : decode cL_law 766 = .ok (.iaload, 1) := by decide +kernel
theorem dL_law_767 : decode cL_law 767 = .ok (.i2d, 1) := by decide +kernel
theorem dL_law_768 : decode cL_law 768 = .ok (.ldc2_w 92, 3) := by decide +kernel
theorem dL_law_771 : decode cL_law 771 = .ok (.dmul, 1) := by decide +kernel
theorem dL_law_772 : decode cL_law 772 = .ok (.aload 4, 2) := by decide +kernel
theorem dL_law_774 : decode cL_law 774 = .ok (.invokestatic 106, 3) := by decide +kernel
theorem dL_law_777 : decode cL_law 777 = .ok (.istore 6, 2) := by decide +kernel
theorem dL_law_779 : decode cL_law 779 = .ok (.aload_n 2, 1) := by decide +kernel
theorem dL_law_780 : decode cL_law 780 = .ok (.aload_n 0, 1) := by decide +kernel
theorem dL_law_781 : decode cL_law 781 = .ok (.iload 5, 2) := by decide +kernel
theorem dL_law_783 : decode cL_law 783 = .ok (.iconst 1, 1) := by decide +kernel
theorem dL_law_784 : decode cL_law 784 = .ok (.iadd, 1) := by decide +kernel
theorem dL_law_785 : decode cL_law 785 = .ok (.iaload, 1) := by decide +kernel
theorem dL_law_786 : decode cL_law 786 = .ok (.aload_n 0, 1) := by decide +kernel
theorem dL_law_787 : decode cL_law 787 = .ok (.iload 5, 2) := by decide +kernel
theorem dL_law_789 : decode cL_law 789 = .ok (.iconst 2, 1) := by decide +kernel
theorem dL_law_790 : decode cL_law 790 = .ok (.iadd, 1) := by decide +kernel
theorem dL_law_791 : decode cL_law 791 = .ok (.iaload, 1) := by decide +kernel
theorem dL_law_792 : decode cL_law 792 = .ok (.i2d, 1) := by decide +kernel
theorem dL_law_793 : decode cL_law 793 = .ok (.ldc2_w 92, 3) := by decide +kernel
theorem dL_law_796 : decode cL_law 796 = .ok (.dmul, 1) := by decide +kernel
theorem dL_law_797 : decode cL_law 797 = .ok (.invokevirtual 109, 3) := by decide +kernel
theorem dL_law_800 : decode cL_law 800 = .ok (.dstore 7, 2) := by decide +kernel
theorem dL_law_802 : decode cL_law 802 = .ok (.aload_n 2, 1) := by decide +kernel
theorem dL_law_803 : decode cL_law 803 = .ok (.invokevirtual 78, 3) := by decide +kernel
theorem dL_law_806 : decode cL_law 806 = .ok (.iload 6, 2) := by decide +kernel
theorem dL_law_808 : decode cL_law 808 = .ok (.if_icmp .eq 5, 3) := by decide +kernel
theorem dL_law_811 : decode cL_law 811 = .ok (.iconst 0, 1) := by decide +kernel
theorem dL_law_812 : decode cL_law 812 = .ok (.ireturn, 1) := by decide +kernel
theorem dL_law_813 : decode cL_law 813 = .ok (.iload 6, 2) := by decide +kernel
theorem dL_law_815 : decode cL_law 815 = .ok (.ifCond .ne 35, 3) := by decide +kernel
theorem dL_law_818 : decode cL_law 818 = .ok (.aload 4, 2) := by decide +kernel
theorem dL_law_820 : decode cL_law 820 = .ok (.iconst 0, 1) := by decide +kernel
theorem dL_law_821 : decode cL_law 821 = .ok (.daload, 1) := by decide +kernel
theorem dL_law_822 : decode cL_law 822 = .ok (.dload 7, 2) := by decide +kernel
theorem dL_law_824 : decode cL_law 824 = .ok (.dcmp .l, 1) := by decide +kernel
theorem dL_law_825 : decode cL_law 825 = .ok (.ifCond .eq 25, 3) := by decide +kernel
theorem dL_law_828 : decode cL_law 828 = .ok (.aload 4, 2) := by decide +kernel
theorem dL_law_830 : decode cL_law 830 = .ok (.iconst 0, 1) := by decide +kernel
theorem dL_law_831 : decode cL_law 831 = .ok (.daload, 1) := by decide +kernel
theorem dL_law_832 : decode cL_law 832 = .ok (.aload 4, 2) := by decide +kernel
theorem dL_law_834 : decode cL_law 834 = .ok (.iconst 0, 1) := by decide +kernel
theorem dL_law_835 : decode cL_law 835 = .ok (.daload, 1) := by decide +kernel
theorem dL_law_836 : decode cL_law 836 = .ok (.dcmp .l, 1) := by decide +kernel
theorem dL_law_837 : decode cL_law 837 = .ok (.ifCond .eq 11, 3) := by decide +kernel
theorem dL_law_840 : decode cL_law 840 = .ok (.dload 7, 2) := by decide +kernel
theorem dL_law_842 : decode cL_law 842 = .ok (.dload 7, 2) := by decide +kernel
theorem dL_law_844 : decode cL_law 844 = .ok (.dcmp .l, 1) := by decide +kernel
theorem dL_law_845 : decode cL_law 845 = .ok (.ifCond .ne 5, 3) := by decide +kernel
theorem dL_law_848 : decode cL_law 848 = .ok (.iconst 0, 1) := by decide +kernel
theorem dL_law_849 : decode cL_law 849 = .ok (.ireturn, 1) := by decide +kernel
theorem dL_law_850 : decode cL_law 850 = .ok (.goto 588, 3) := by decide +kernel
theorem dL_law_853 : decode cL_law 853 = .ok (.aload_n 1, 1) := by decide +kernel
theorem dL_law_854 : decode cL_law 854 = .ok (.aload_n 0, 1) := by decide +kernel
theorem dL_law_855 : decode cL_law 855 = .ok (.iload 5, 2) := by decide +kernel
theorem dL_law_857 : decode cL_law 857 = .ok (.iconst 1, 1) := by decide +kernel
theorem dL_law_858 : decode cL_law 858 = .ok (.iadd, 1) := by decide +kernel
theorem dL_law_859 : decode cL_law 859 = .ok (.iaload, 1) := by decide +kernel
theorem dL_law_860 : decode cL_law 860 = .ok (.aload_n 0, 1) := by decide +kernel
theorem dL_law_861 : decode cL_law 861 = .ok (.iload 5, 2) := by decide +kernel
theorem dL_law_863 : decode cL_law 863 = .ok (.iconst 2, 1) := by decide +kernel
theorem dL_law_864 : decode cL_law 864 = .ok (.iadd, 1) := by decide +kernel
theorem dL_law_865 : decode cL_law 865 = .ok (.iaload, 1) := by decide +kernel
theorem dL_law_866 : decode cL_law 866 = .ok (.i2d, 1) := by decide +kernel
theorem dL_law_867 : decode cL_law 867 = .ok (.ldc2_w 92, 3) := by decide +kernel
theorem dL_law_870 : decode cL_law 870 = .ok (.dmul, 1) := by decide +kernel
theorem dL_law_871 : decode cL_law 871 = .ok (.aload 4, 2) := by decide +kernel
theorem dL_law_873 : decode cL_law 873 = .ok (.invokestatic 110, 3) := by decide +kernel
theorem dL_law_876 : decode cL_law 876 = .ok (.istore 6, 2) := by decide +kernel
theorem dL_law_878 : decode cL_law 878 = .ok (.aload_n 2, 1) := by decide +kernel
theorem dL_law_879 : decode cL_law 879 = .ok (.aload_n 0, 1) := by decide +kernel
theorem dL_law_880 : decode cL_law 880 = .ok (.iload 5, 2) := by decide +kernel
theorem dL_law_882 : decode cL_law 882 = .ok (.iconst 1, 1) := by decide +kernel
theorem dL_law_883 : decode cL_law 883 = .ok (.iadd, 1) := by decide +kernel
theorem dL_law_884 : decode cL_law 884 = .ok (.iaload, 1) := by decide +kernel
theorem dL_law_885 : decode cL_law 885 = .ok (.aload_n 0, 1) := by decide +kernel
theorem dL_law_886 : decode cL_law 886 = .ok (.iload 5, 2) := by decide +kernel
theorem dL_law_888 : decode cL_law 888 = .ok (.iconst 2, 1) := by decide +kernel
theorem dL_law_889 : decode cL_law 889 = .ok (.iadd, 1) := by decide +kernel
theorem dL_law_890 : decode cL_law 890 = .ok (.iaload, 1) := by decide +kernel
theorem dL_law_891 : decode cL_law 891 = .ok (.i2d, 1) := by decide +kernel
theorem dL_law_892 : decode cL_law 892 = .ok (.ldc2_w 92, 3) := by decide +kernel
theorem dL_law_895 : decode cL_law 895 = .ok (.dmul, 1) := by decide +kernel
theorem dL_law_896 : decode cL_law 896 = .ok (.invokevirtual 112, 3) := by decide +kernel
theorem dL_law_899 : decode cL_law 899 = .ok (.dstore 7, 2) := by decide +kernel
theorem dL_law_901 : decode cL_law 901 = .ok (.aload_n 2, 1) := by decide +kernel
theorem dL_law_902 : decode cL_law 902 = .ok (.invokevirtual 78, 3) := by decide +kernel
theorem dL_law_905 : decode cL_law 905 = .ok (.iload 6, 2) := by decide +kernel
theorem dL_law_907 : decode cL_law 907 = .ok (.if_icmp .eq 5, 3) := by decide +kernel
theorem dL_law_910 : decode cL_law 910 = .ok (.iconst 0, 1) := by decide +kernel
theorem dL_law_911 : decode cL_law 911 = .ok (.ireturn, 1) := by decide +kernel
theorem dL_law_912 : decode cL_law 912 = .ok (.iload 6, 2) := by decide +kernel
theorem dL_law_914 : decode cL_law 914 = .ok (.ifCond .ne 35, 3) := by decide +kernel
theorem dL_law_917 : decode cL_law 917 = .ok (.aload 4, 2) := by decide +kernel
theorem dL_law_919 : decode cL_law 919 = .ok (.iconst 0, 1) := by decide +kernel
theorem dL_law_920 : decode cL_law 920 = .ok (.daload, 1) := by decide +kernel
theorem dL_law_921 : decode cL_law 921 = .ok (.dload 7, 2) := by decide +kernel
theorem dL_law_923 : decode cL_law 923 = .ok (.dcmp .l, 1) := by decide +kernel
theorem dL_law_924 : decode cL_law 924 = .ok (.ifCond .eq 25, 3) := by decide +kernel
theorem dL_law_927 : decode cL_law 927 = .ok (.aload 4, 2) := by decide +kernel
theorem dL_law_929 : decode cL_law 929 = .ok (.iconst 0, 1) := by decide +kernel
theorem dL_law_930 : decode cL_law 930 = .ok (.daload, 1) := by decide +kernel
theorem dL_law_931 : decode cL_law 931 = .ok (.aload 4, 2) := by decide +kernel
theorem dL_law_933 : decode cL_law 933 = .ok (.iconst 0, 1) := by decide +kernel
theorem dL_law_934 : decode cL_law 934 = .ok (.daload, 1) := by decide +kernel
theorem dL_law_935 : decode cL_law 935 = .ok (.dcmp .l, 1) := by decide +kernel
theorem dL_law_936 : decode cL_law 936 = .ok (.ifCond .eq 11, 3) := by decide +kernel
theorem dL_law_939 : decode cL_law 939 = .ok (.dload 7, 2) := by decide +kernel
theorem dL_law_941 : decode cL_law 941 = .ok (.dload 7, 2) := by decide +kernel
theorem dL_law_943 : decode cL_law 943 = .ok (.dcmp .l, 1) := by decide +kernel
theorem dL_law_944 : decode cL_law 944 = .ok (.ifCond .ne 5, 3) := by decide +kernel
theorem dL_law_947 : decode cL_law 947 = .ok (.iconst 0, 1) := by decide +kernel
theorem dL_law_948 : decode cL_law 948 = .ok (.ireturn, 1) := by decide +kernel
theorem dL_law_949 : decode cL_law 949 = .ok (.goto 489, 3) := by decide +kernel
theorem dL_law_952 : decode cL_law 952 = .ok (.aload_n 1, 1) := by decide +kernel
theorem dL_law_953 : decode cL_law 953 = .ok (.aload_n 0, 1) := by decide +kernel
theorem dL_law_954 : decode cL_law 954 = .ok (.iload 5, 2) := by decide +kernel
theorem dL_law_956 : decode cL_law 956 = .ok (.iconst 1, 1) := by decide +kernel
theorem dL_law_957 : decode cL_law 957 = .ok (.iadd, 1) := by decide +kernel
theorem dL_law_958 : decode cL_law 958 = .ok (.iaload, 1) := by decide +kernel
theorem dL_law_959 : decode cL_law 959 = .ok (.aload_n 0, 1) := by decide +kernel
theorem dL_law_960 : decode cL_law 960 = .ok (.iload 5, 2) := by decide +kernel
theorem dL_law_962 : decode cL_law 962 = .ok (.iconst 2, 1) := by decide +kernel
theorem dL_law_963 : decode cL_law 963 = .ok (.iadd, 1) := by decide +kernel
theorem dL_law_964 : decode cL_law 964 = .ok (.iaload, 1) := by decide +kernel
theorem dL_law_965 : decode cL_law 965 = .ok (.aload_n 0, 1) := by decide +kernel
theorem dL_law_966 : decode cL_law 966 = .ok (.iload 5, 2) := by decide +kernel
theorem dL_law_968 : decode cL_law 968 = .ok (.iconst 3, 1) := by decide +kernel
theorem dL_law_969 : decode cL_law 969 = .ok (.iadd, 1) := by decide +kernel
theorem dL_law_970 : decode cL_law 970 = .ok (.iaload, 1) := by decide +kernel
theorem dL_law_971 : decode cL_law 971 = .ok (.aload 4, 2) := by decide +kernel
theorem dL_law_973 : decode cL_law 973 = .ok (.invokestatic 113, 3) := by decide +kernel
theorem dL_law_976 : decode cL_law 976 = .ok (.istore 6, 2) := by decide +kernel
theorem dL_law_978 : decode cL_law 978 = .ok (.aload_n 2, 1) := by decide +kernel
theorem dL_law_979 : decode cL_law 979 = .ok (.aload_n 0, 1) := by decide +kernel
theorem dL_law_980 : decode cL_law 980 = .ok (.iload 5, 2) := by decide +kernel
theorem dL_law_982 : decode cL_law 982 = .ok (.iconst 1, 1) := by decide +kernel
theorem dL_law_983 : decode cL_law 983 = .ok (.iadd, 1) := by decide +kernel
theorem dL_law_984 : decode cL_law 984 = .ok (.iaload, 1) := by decide +kernel
theorem dL_law_985 : decode cL_law 985 = .ok (.aload_n 0, 1) := by decide +kernel
theorem dL_law_986 : decode cL_law 986 = .ok (.iload 5, 2) := by decide +kernel
theorem dL_law_988 : decode cL_law 988 = .ok (.iconst 2, 1) := by decide +kernel
theorem dL_law_989 : decode cL_law 989 = .ok (.iadd, 1) := by decide +kernel
theorem dL_law_990 : decode cL_law 990 = .ok (.iaload, 1) := by decide +kernel
theorem dL_law_991 : decode cL_law 991 = .ok (.aload_n 0, 1) := by decide +kernel
theorem dL_law_992 : decode cL_law 992 = .ok (.iload 5, 2) := by decide +kernel
theorem dL_law_994 : decode cL_law 994 = .ok (.iconst 3, 1) := by decide +kernel
theorem dL_law_995 : decode cL_law 995 = .ok (.iadd, 1) := by decide +kernel
theorem dL_law_996 : decode cL_law 996 = .ok (.iaload, 1) := by decide +kernel
theorem dL_law_997 : decode cL_law 997 = .ok (.invokevirtual 116, 3) := by decide +kernel
theorem dL_law_1000 : decode cL_law 1000 = .ok (.dstore 7, 2) := by decide +kernel
theorem dL_law_1002 : decode cL_law 1002 = .ok (.aload_n 2, 1) := by decide +kernel
theorem dL_law_1003 : decode cL_law 1003 = .ok (.invokevirtual 78, 3) := by decide +kernel
theorem dL_law_1006 : decode cL_law 1006 = .ok (.iload 6, 2) := by decide +kernel
theorem dL_law_1008 : decode cL_law 1008 = .ok (.if_icmp .eq 5, 3) := by decide +kernel
theorem dL_law_1011 : decode cL_law 1011 = .ok (.iconst 0, 1) := by decide +kernel
theorem dL_law_1012 : decode cL_law 1012 = .ok (.ireturn, 1) := by decide +kernel
theorem dL_law_1013 : decode cL_law 1013 = .ok (.iload 6, 2) := by decide +kernel
theorem dL_law_1015 : decode cL_law 1015 = .ok (.ifCond .ne 35, 3) := by decide +kernel
theorem dL_law_1018 : decode cL_law 1018 = .ok (.aload 4, 2) := by decide +kernel
theorem dL_law_1020 : decode cL_law 1020 = .ok (.iconst 0, 1) := by decide +kernel
theorem dL_law_1021 : decode cL_law 1021 = .ok (.daload, 1) := by decide +kernel
theorem dL_law_1022 : decode cL_law 1022 = .ok (.dload 7, 2) := by decide +kernel
theorem dL_law_1024 : decode cL_law 1024 = .ok (.dcmp .l, 1) := by decide +kernel
theorem dL_law_1025 : decode cL_law 1025 = .ok (.ifCond .eq 25, 3) := by decide +kernel
theorem dL_law_1028 : decode cL_law 1028 = .ok (.aload 4, 2) := by decide +kernel
theorem dL_law_1030 : decode cL_law 1030 = .ok (.iconst 0, 1) := by decide +kernel
theorem dL_law_1031 : decode cL_law 1031 = .ok (.daload, 1) := by decide +kernel
theorem dL_law_1032 : decode cL_law 1032 = .ok (.aload 4, 2) := by decide +kernel
theorem dL_law_1034 : decode cL_law 1034 = .ok (.iconst 0, 1) := by decide +kernel
theorem dL_law_1035 : decode cL_law 1035 = .ok (.daload, 1) := by decide +kernel
theorem dL_law_1036 : decode cL_law 1036 = .ok (.dcmp .l, 1) := by decide +kernel
theorem dL_law_1037 : decode cL_law 1037 = .ok (.ifCond .eq 11, 3) := by decide +kernel
theorem dL_law_1040 : decode cL_law 1040 = .ok (.dload 7, 2) := by decide +kernel
theorem dL_law_1042 : decode cL_law 1042 = .ok (.dload 7, 2) := by decide +kernel
theorem dL_law_1044 : decode cL_law 1044 = .ok (.dcmp .l, 1) := by decide +kernel
theorem dL_law_1045 : decode cL_law 1045 = .ok (.ifCond .ne 5, 3) := by decide +kernel
theorem dL_law_1048 : decode cL_law 1048 = .ok (.iconst 0, 1) := by decide +kernel
theorem dL_law_1049 : decode cL_law 1049 = .ok (.ireturn, 1) := by decide +kernel
theorem dL_law_1050 : decode cL_law 1050 = .ok (.goto 388, 3) := by decide +kernel
theorem dL_law_1053 : decode cL_law 1053 = .ok (.aload_n 1, 1) := by decide +kernel
theorem dL_law_1054 : decode cL_law 1054 = .ok (.aload_n 0, 1) := by decide +kernel
theorem dL_law_1055 : decode cL_law 1055 = .ok (.iload 5, 2) := by decide +kernel
theorem dL_law_1057 : decode cL_law 1057 = .ok (.iconst 1, 1) := by decide +kernel
theorem dL_law_1058 : decode cL_law 1058 = .ok (.iadd, 1) := by decide +kernel
theorem dL_law_1059 : decode cL_law 1059 = .ok (.iaload, 1) := by decide +kernel
theorem dL_law_1060 : decode cL_law 1060 = .ok (.i2d, 1) := by decide +kernel
theorem dL_law_1061 : decode cL_law 1061 = .ok (.ldc2_w 92, 3) := by decide +kernel
theorem dL_law_1064 : decode cL_law 1064 = .ok (.dmul, 1) := by decide +kernel
theorem dL_law_1065 : decode cL_law 1065 = .ok (.aload 4, 2) := by decide +kernel
theorem dL_law_1067 : decode cL_law 1067 = .ok (.invokestatic 117, 3) := by decide +kernel
theorem dL_law_1070 : decode cL_law 1070 = .ok (.istore 6, 2) := by decide +kernel
theorem dL_law_1072 : decode cL_law 1072 = .ok (.aload_n 2, 1) := by decide +kernel
theorem dL_law_1073 : decode cL_law 1073 = .ok (.aload_n 0, 1) := by decide +kernel
theorem dL_law_1074 : decode cL_law 1074 = .ok (.iload 5, 2) := by decide +kernel
theorem dL_law_1076 : decode cL_law 1076 = .ok (.iconst 1, 1) := by decide +kernel
theorem dL_law_1077 : decode cL_law 1077 = .ok (.iadd, 1) := by decide +kernel
theorem dL_law_1078 : decode cL_law 1078 = .ok (.iaload, 1) := by decide +kernel
theorem dL_law_1079 : decode cL_law 1079 = .ok (.i2d, 1) := by decide +kernel
theorem dL_law_1080 : decode cL_law 1080 = .ok (.ldc2_w 92, 3) := by decide +kernel
theorem dL_law_1083 : decode cL_law 1083 = .ok (.dmul, 1) := by decide +kernel
theorem dL_law_1084 : decode cL_law 1084 = .ok (.invokevirtual 120, 3) := by decide +kernel
theorem dL_law_1087 : decode cL_law 1087 = .ok (.dstore 7, 2) := by decide +kernel
theorem dL_law_1089 : decode cL_law 1089 = .ok (.aload_n 2, 1) := by decide +kernel
theorem dL_law_1090 : decode cL_law 1090 = .ok (.invokevirtual 78, 3) := by decide +kernel
theorem dL_law_1093 : decode cL_law 1093 = .ok (.iload 6, 2) := by decide +kernel
theorem dL_law_1095 : decode cL_law 1095 = .ok (.if_icmp .eq 5, 3) := by decide +kernel
theorem dL_law_1098 : decode cL_law 1098 = .ok (.iconst 0, 1) := by decide +kernel
theorem dL_law_1099 : decode cL_law 1099 = .ok (.ireturn, 1) := by decide +kernel
theorem dL_law_1100 : decode cL_law 1100 = .ok (.iload 6, 2) := by decide +kernel
theorem dL_law_1102 : decode cL_law 1102 = .ok (.ifCond .ne 35, 3) := by decide +kernel
theorem dL_law_1105 : decode cL_law 1105 = .ok (.aload 4, 2) := by decide +kernel
theorem dL_law_1107 : decode cL_law 1107 = .ok (.iconst 0, 1) := by decide +kernel
theorem dL_law_1108 : decode cL_law 1108 = .ok (.daload, 1) := by decide +kernel
theorem dL_law_1109 : decode cL_law 1109 = .ok (.dload 7, 2) := by decide +kernel
theorem dL_law_1111 : decode cL_law 1111 = .ok (.dcmp .l, 1) := by decide +kernel
theorem dL_law_1112 : decode cL_law 1112 = .ok (.ifCond .eq 25, 3) := by decide +kernel
theorem dL_law_1115 : decode cL_law 1115 = .ok (.aload 4, 2) := by decide +kernel
theorem dL_law_1117 : decode cL_law 1117 = .ok (.iconst 0, 1) := by decide +kernel
theorem dL_law_1118 : decode cL_law 1118 = .ok (.daload, 1) := by decide +kernel
theorem dL_law_1119 : decode cL_law 1119 = .ok (.aload 4, 2) := by decide +kernel
theorem dL_law_1121 : decode cL_law 1121 = .ok (.iconst 0, 1) := by decide +kernel
theorem dL_law_1122 : decode cL_law 1122 = .ok (.daload, 1) := by decide +kernel
theorem dL_law_1123 : decode cL_law 1123 = .ok (.dcmp .l, 1) := by decide +kernel
theorem dL_law_1124 : decode cL_law 1124 = .ok (.ifCond .eq 11, 3) := by decide +kernel
theorem dL_law_1127 : decode cL_law 1127 = .ok (.dload 7, 2) := by decide +kernel
theorem dL_law_1129 : decode cL_law 1129 = .ok (.dload 7, 2) := by decide +kernel
theorem dL_law_1131 : decode cL_law 1131 = .ok (.dcmp .l, 1) := by decide +kernel
theorem dL_law_1132 : decode cL_law 1132 = .ok (.ifCond .ne 5, 3) := by decide +kernel
theorem dL_law_1135 : decode cL_law 1135 = .ok (.iconst 0, 1) := by decide +kernel
theorem dL_law_1136 : decode cL_law 1136 = .ok (.ireturn, 1) := by decide +kernel
theorem dL_law_1137 : decode cL_law 1137 = .ok (.goto 301, 3) := by decide +kernel
theorem dL_law_1140 : decode cL_law 1140 = .ok (.aload_n 1, 1) := by decide +kernel
theorem dL_law_1141 : decode cL_law 1141 = .ok (.aload_n 0, 1) := by decide +kernel
theorem dL_law_1142 : decode cL_law 1142 = .ok (.iload 5, 2) := by decide +kernel
theorem dL_law_1144 : decode cL_law 1144 = .ok (.iconst 1, 1) := by decide +kernel
theorem dL_law_1145 : decode cL_law 1145 = .ok (.iadd, 1) := by decide +kernel
theorem dL_law_1146 : decode cL_law 1146 = .ok (.iaload, 1) := by decide +kernel
theorem dL_law_1147 : decode cL_law 1147 = .ok (.i2d, 1) := by decide +kernel
theorem dL_law_1148 : decode cL_law 1148 = .ok (.ldc2_w 92, 3) := by decide +kernel
theorem dL_law_1151 : decode cL_law 1151 = .ok (.dmul, 1) := by decide +kernel
theorem dL_law_1152 : decode cL_law 1152 = .ok (.aload_n 0, 1) := by decide +kernel
theorem dL_law_1153 : decode cL_law 1153 = .ok (.iload 5, 2) := by decide +kernel
theorem dL_law_1155 : decode cL_law 1155 = .ok (.iconst 2, 1) := by decide +kernel
theorem dL_law_1156 : decode cL_law 1156 = .ok (.iadd, 1) := by decide +kernel
theorem dL_law_1157 : decode cL_law 1157 = .ok (.iaload, 1) := by decide +kernel
theorem dL_law_1158 : decode cL_law 1158 = .ok (.aload_n 3, 1) := by decide +kernel
theorem dL_law_1159 : decode cL_law 1159 = .ok (.invokestatic 121, 3) := by decide +kernel
theorem dL_law_1162 : decode cL_law 1162 = .ok (.istore 6, 2) := by decide +kernel
theorem dL_law_1164 : decode cL_law 1164 = .ok (.aload_n 2, 1) := by decide +kernel
theorem dL_law_1165 : decode cL_law 1165 = .ok (.aload_n 0, 1) := by decide +kernel
theorem dL_law_1166 : decode cL_law 1166 = .ok (.iload 5, 2) := by decide +kernel
theorem dL_law_1168 : decode cL_law 1168 = .ok (.iconst 1, 1) := by decide +kernel
theorem dL_law_1169 : decode cL_law 1169 = .ok (.iadd, 1) := by decide +kernel
theorem dL_law_1170 : decode cL_law 1170 = .ok (.iaload, 1) := by decide +kernel
theorem dL_law_1171 : decode cL_law 1171 = .ok (.i2d, 1) := by decide +kernel
theorem dL_law_1172 : decode cL_law 1172 = .ok (.ldc2_w 92, 3) := by decide +kernel
theorem dL_law_1175 : decode cL_law 1175 = .ok (.dmul, 1) := by decide +kernel
theorem dL_law_1176 : decode cL_law 1176 = .ok (.aload_n 0, 1) := by decide +kernel
theorem dL_law_1177 : decode cL_law 1177 = .ok (.iload 5, 2) := by decide +kernel
theorem dL_law_1179 : decode cL_law 1179 = .ok (.iconst 2, 1) := by decide +kernel
theorem dL_law_1180 : decode cL_law 1180 = .ok (.iadd, 1) := by decide +kernel
theorem dL_law_1181 : decode cL_law 1181 = .ok (.iaload, 1) := by decide +kernel
theorem dL_law_1182 : decode cL_law 1182 = .ok (.invokevirtual 124, 3) := by decide +kernel
theorem dL_law_1185 : decode cL_law 1185 = .ok (.istore 7, 2) := by decide +kernel
theorem dL_law_1187 : decode cL_law 1187 = .ok (.aload_n 2, 1) := by decide +kernel
theorem dL_law_1188 : decode cL_law 1188 = .ok (.invokevirtual 78, 3) := by decide +kernel
theorem dL_law_1191 : decode cL_law 1191 = .ok (.iload 6, 2) := by decide +kernel
theorem dL_law_1193 : decode cL_law 1193 = .ok (.if_icmp .eq 5, 3) := by decide +kernel
theorem dL_law_1196 : decode cL_law 1196 = .ok (.iconst 0, 1) := by decide +kernel
theorem dL_law_1197 : decode cL_law 1197 = .ok (.ireturn, 1) := by decide +kernel
theorem dL_law_1198 : decode cL_law 1198 = .ok (.iload 6, 2) := by decide +kernel
theorem dL_law_1200 : decode cL_law 1200 = .ok (.ifCond .ne 15, 3) := by decide +kernel
theorem dL_law_1203 : decode cL_law 1203 = .ok (.aload_n 3, 1) := by decide +kernel
theorem dL_law_1204 : decode cL_law 1204 = .ok (.iconst 0, 1) := by decide +kernel
theorem dL_law_1205 : decode cL_law 1205 = .ok (.laload, 1) := by decide +kernel
theorem dL_law_1206 : decode cL_law 1206 = .ok (.iload 7, 2) := by decide +kernel
theorem dL_law_1208 : decode cL_law 1208 = .ok (.i2l, 1) := by decide +kernel
theorem dL_law_1209 : decode cL_law 1209 = .ok (.lcmp, 1) := by decide +kernel
theorem dL_law_1210 : decode cL_law 1210 = .ok (.ifCond .eq 5, 3) := by decide +kernel
theorem dL_law_1213 : decode cL_law 1213 = .ok (.iconst 0, 1) := by decide +kernel
theorem dL_law_1214 : decode cL_law 1214 = .ok (.ireturn, 1) := by decide +kernel
theorem dL_law_1215 : decode cL_law 1215 = .ok (.goto 223, 3) := by decide +kernel
theorem dL_law_1218 : decode cL_law 1218 = .ok (.aload_n 1, 1) := by decide +kernel
theorem dL_law_1219 : decode cL_law 1219 = .ok (.aload_n 0, 1) := by decide +kernel
theorem dL_law_1220 : decode cL_law 1220 = .ok (.iload 5, 2) := by decide +kernel
theorem dL_law_1222 : decode cL_law 1222 = .ok (.iconst 1, 1) := by decide +kernel
theorem dL_law_1223 : decode cL_law 1223 = .ok (.iadd, 1) := by decide +kernel
theorem dL_law_1224 : decode cL_law 1224 = .ok (.iaload, 1) := by decide +kernel
theorem dL_law_1225 : decode cL_law 1225 = .ok (.aload_n 3, 1) := by decide +kernel
theorem dL_law_1226 : decode cL_law 1226 = .ok (.invokestatic 125, 3) := by decide +kernel
theorem dL_law_1229 : decode cL_law 1229 = .ok (.istore 6, 2) := by decide +kernel
theorem dL_law_1231 : decode cL_law 1231 = .ok (.aload_n 2, 1) := by decide +kernel
theorem dL_law_1232 : decode cL_law 1232 = .ok (.aload_n 0, 1) := by decide +kernel
theorem dL_law_1233 : decode cL_law 1233 = .ok (.iload 5, 2) := by decide +kernel
theorem dL_law_1235 : decode cL_law 1235 = .ok (.iconst 1, 1) := by decide +kernel
theorem dL_law_1236 : decode cL_law 1236 = .ok (.iadd, 1) := by decide +kernel
theorem dL_law_1237 : decode cL_law 1237 = .ok (.iaload, 1) := by decide +kernel
theorem dL_law_1238 : decode cL_law 1238 = .ok (.invokevirtual 127, 3) := by decide +kernel
theorem dL_law_1241 : decode cL_law 1241 = .ok (.istore 7, 2) := by decide +kernel
theorem dL_law_1243 : decode cL_law 1243 = .ok (.aload_n 2, 1) := by decide +kernel
theorem dL_law_1244 : decode cL_law 1244 = .ok (.invokevirtual 78, 3) := by decide +kernel
theorem dL_law_1247 : decode cL_law 1247 = .ok (.iload 6, 2) := by decide +kernel
theorem dL_law_1249 : decode cL_law 1249 = .ok (.if_icmp .eq 5, 3) := by decide +kernel
theorem dL_law_1252 : decode cL_law 1252 = .ok (.iconst 0, 1) := by decide +kernel
theorem dL_law_1253 : decode cL_law 1253 = .ok (.ireturn, 1) := by decide +kernel
theorem dL_law_1254 : decode cL_law 1254 = .ok (.iload 6, 2) := by decide +kernel
theorem dL_law_1256 : decode cL_law 1256 = .ok (.ifCond .ne 15, 3) := by decide +kernel
theorem dL_law_1259 : decode cL_law 1259 = .ok (.aload_n 3, 1) := by decide +kernel
theorem dL_law_1260 : decode cL_law 1260 = .ok (.iconst 0, 1) := by decide +kernel
theorem dL_law_1261 : decode cL_law 1261 = .ok (.laload, 1) := by decide +kernel
theorem dL_law_1262 : decode cL_law 1262 = .ok (.iload 7, 2) := by decide +kernel
theorem dL_law_1264 : decode cL_law 1264 = .ok (.i2l, 1) := by decide +kernel
theorem dL_law_1265 : decode cL_law 1265 = .ok (.lcmp, 1) := by decide +kernel
theorem dL_law_1266 : decode cL_law 1266 = .ok (.ifCond .eq 5, 3) := by decide +kernel
theorem dL_law_1269 : decode cL_law 1269 = .ok (.iconst 0, 1) := by decide +kernel
theorem dL_law_1270 : decode cL_law 1270 = .ok (.ireturn, 1) := by decide +kernel
theorem dL_law_1271 : decode cL_law 1271 = .ok (.goto 167, 3) := by decide +kernel
theorem dL_law_1274 : decode cL_law 1274 = .ok (.aload_n 1, 1) := by decide +kernel
theorem dL_law_1275 : decode cL_law 1275 = .ok (.aload_n 0, 1) := by decide +kernel
theorem dL_law_1276 : decode cL_law 1276 = .ok (.iload 5, 2) := by decide +kernel
theorem dL_law_1278 : decode cL_law 1278 = .ok (.iconst 1, 1) := by decide +kernel
theorem dL_law_1279 : decode cL_law 1279 = .ok (.iadd, 1) := by decide +kernel
theorem dL_law_1280 : decode cL_law 1280 = .ok (.iaload, 1) := by decide +kernel
theorem dL_law_1281 : decode cL_law 1281 = .ok (.aload_n 0, 1) := by decide +kernel
theorem dL_law_1282 : decode cL_law 1282 = .ok (.iload 5, 2) := by decide +kernel
theorem dL_law_1284 : decode cL_law 1284 = .ok (.iconst 2, 1) := by decide +kernel
theorem dL_law_1285 : decode cL_law 1285 = .ok (.iadd, 1) := by decide +kernel
theorem dL_law_1286 : decode cL_law 1286 = .ok (.iaload, 1) := by decide +kernel
theorem dL_law_1287 : decode cL_law 1287 = .ok (.aload_n 0, 1) := by decide +kernel
theorem dL_law_1288 : decode cL_law 1288 = .ok (.iload 5, 2) := by decide +kernel
theorem dL_law_1290 : decode cL_law 1290 = .ok (.iconst 3, 1) := by decide +kernel
theorem dL_law_1291 : decode cL_law 1291 = .ok (.iadd, 1) := by decide +kernel
theorem dL_law_1292 : decode cL_law 1292 = .ok (.iaload, 1) := by decide +kernel
theorem dL_law_1293 : decode cL_law 1293 = .ok (.aload_n 0, 1) := by decide +kernel
theorem dL_law_1294 : decode cL_law 1294 = .ok (.iload 5, 2) := by decide +kernel
theorem dL_law_1296 : decode cL_law 1296 = .ok (.iconst 4, 1) := by decide +kernel
theorem dL_law_1297 : decode cL_law 1297 = .ok (.iadd, 1) := by decide +kernel
theorem dL_law_1298 : decode cL_law 1298 = .ok (.iaload, 1) := by decide +kernel
theorem dL_law_1299 : decode cL_law 1299 = .ok (.i2d, 1) := by decide +kernel
theorem dL_law_1300 : decode cL_law 1300 = .ok (.ldc2_w 92, 3) := by decide +kernel
theorem dL_law_1303 : decode cL_law 1303 = .ok (.dmul, 1) := by decide +kernel
theorem dL_law_1304 : decode cL_law 1304 = .ok (.aload 4, 2) := by decide +kernel
theorem dL_law_1306 : decode cL_law 1306 = .ok (.invokestatic 128, 3) := by decide +kernel
theorem dL_law_1309 : decode cL_law 1309 = .ok (.istore 6, 2) := by decide +kernel
theorem dL_law_1311 : decode cL_law 1311 = .ok (.aload_n 2, 1) := by decide +kernel
theorem dL_law_1312 : decode cL_law 1312 = .ok (.aload_n 0, 1) := by decide +kernel
theorem dL_law_1313 : decode cL_law 1313 = .ok (.iload 5, 2) := by decide +kernel
theorem dL_law_1315 : decode cL_law 1315 = .ok (.iconst 1, 1) := by decide +kernel
theorem dL_law_1316 : decode cL_law 1316 = .ok (.iadd, 1) := by decide +kernel
theorem dL_law_1317 : decode cL_law 1317 = .ok (.iaload, 1) := by decide +kernel
theorem dL_law_1318 : decode cL_law 1318 = .ok (.aload_n 0, 1) := by decide +kernel
theorem dL_law_1319 : decode cL_law 1319 = .ok (.iload 5, 2) := by decide +kernel
theorem dL_law_1321 : decode cL_law 1321 = .ok (.iconst 2, 1) := by decide +kernel
theorem dL_law_1322 : decode cL_law 1322 = .ok (.iadd, 1) := by decide +kernel
theorem dL_law_1323 : decode cL_law 1323 = .ok (.iaload, 1) := by decide +kernel
theorem dL_law_1324 : decode cL_law 1324 = .ok (.aload_n 0, 1) := by decide +kernel
theorem dL_law_1325 : decode cL_law 1325 = .ok (.iload 5, 2) := by decide +kernel
theorem dL_law_1327 : decode cL_law 1327 = .ok (.iconst 3, 1) := by decide +kernel
theorem dL_law_1328 : decode cL_law 1328 = .ok (.iadd, 1) := by decide +kernel
theorem dL_law_1329 : decode cL_law 1329 = .ok (.iaload, 1) := by decide +kernel
theorem dL_law_1330 : decode cL_law 1330 = .ok (.aload_n 0, 1) := by decide +kernel
theorem dL_law_1331 : decode cL_law 1331 = .ok (.iload 5, 2) := by decide +kernel
theorem dL_law_1333 : decode cL_law 1333 = .ok (.iconst 4, 1) := by decide +kernel
theorem dL_law_1334 : decode cL_law 1334 = .ok (.iadd, 1) := by decide +kernel
theorem dL_law_1335 : decode cL_law 1335 = .ok (.iaload, 1) := by decide +kernel
theorem dL_law_1336 : decode cL_law 1336 = .ok (.i2d, 1) := by decide +kernel
theorem dL_law_1337 : decode cL_law 1337 = .ok (.ldc2_w 92, 3) := by decide +kernel
theorem dL_law_1340 : decode cL_law 1340 = .ok (.dmul, 1) := by decide +kernel
theorem dL_law_1341 : decode cL_law 1341 = .ok (.invokevirtual 131, 3) := by decide +kernel
theorem dL_law_1344 : decode cL_law 1344 = .ok (.dstore 7, 2) := by decide +kernel
theorem dL_law_1346 : decode cL_law 1346 = .ok (.aload_n 2, 1) := by decide +kernel
theorem dL_law_1347 : decode cL_law 1347 = .ok (.invokevirtual 78, 3) := by decide +kernel
theorem dL_law_1350 : decode cL_law 1350 = .ok (.iload 6, 2) := by decide +kernel
theorem dL_law_1352 : decode cL_law 1352 = .ok (.if_icmp .eq 5, 3) := by decide +kernel
theorem dL_law_1355 : decode cL_law 1355 = .ok (.iconst 0, 1) := by decide +kernel
theorem dL_law_1356 : decode cL_law 1356 = .ok (.ireturn, 1) := by decide +kernel
theorem dL_law_1357 : decode cL_law 1357 = .ok (.iload 6, 2) := by decide +kernel
theorem dL_law_1359 : decode cL_law 1359 = .ok (.ifCond .ne 35, 3) := by decide +kernel
theorem dL_law_1362 : decode cL_law 1362 = .ok (.aload 4, 2) := by decide +kernel
theorem dL_law_1364 : decode cL_law 1364 = .ok (.iconst 0, 1) := by decide +kernel
theorem dL_law_1365 : decode cL_law 1365 = .ok (.daload, 1) := by decide +kernel
theorem dL_law_1366 : decode cL_law 1366 = .ok (.dload 7, 2) := by decide +kernel
theorem dL_law_1368 : decode cL_law 1368 = .ok (.dcmp .l, 1) := by decide +kernel
theorem dL_law_1369 : decode cL_law 1369 = .ok (.ifCond .eq 25, 3) := by decide +kernel
theorem dL_law_1372 : decode cL_law 1372 = .ok (.aload 4, 2) := by decide +kernel
theorem dL_law_1374 : decode cL_law 1374 = .ok (.iconst 0, 1) := by decide +kernel
theorem dL_law_1375 : decode cL_law 1375 = .ok (.daload, 1) := by decide +kernel
theorem dL_law_1376 : decode cL_law 1376 = .ok (.aload 4, 2) := by decide +kernel
theorem dL_law_1378 : decode cL_law 1378 = .ok (.iconst 0, 1) := by decide +kernel
theorem dL_law_1379 : decode cL_law 1379 = .ok (.daload, 1) := by decide +kernel
theorem dL_law_1380 : decode cL_law 1380 = .ok (.dcmp .l, 1) := by decide +kernel
theorem dL_law_1381 : decode cL_law 1381 = .ok (.ifCond .eq 11, 3) := by decide +kernel
theorem dL_law_1384 : decode cL_law 1384 = .ok (.dload 7, 2) := by decide +kernel
theorem dL_law_1386 : decode cL_law 1386 = .ok (.dload 7, 2) := by decide +kernel
theorem dL_law_1388 : decode cL_law 1388 = .ok (.dcmp .l, 1) := by decide +kernel
theorem dL_law_1389 : decode cL_law 1389 = .ok (.ifCond .ne 5, 3) := by decide +kernel
theorem dL_law_1392 : decode cL_law 1392 = .ok (.iconst 0, 1) := by decide +kernel
theorem dL_law_1393 : decode cL_law 1393 = .ok (.ireturn, 1) := by decide +kernel
theorem dL_law_1394 : decode cL_law 1394 = .ok (.goto 44, 3) := by decide +kernel
theorem dL_law_1397 : decode cL_law 1397 = .ok (.aload_n 1, 1) := by decide +kernel
theorem dL_law_1398 : decode cL_law 1398 = .ok (.aload_n 0, 1) := by decide +kernel
theorem dL_law_1399 : decode cL_law 1399 = .ok (.iload 5, 2) := by decide +kernel
theorem dL_law_1401 : decode cL_law 1401 = .ok (.iconst 1, 1) := by decide +kernel
theorem dL_law_1402 : decode cL_law 1402 = .ok (.iadd, 1) := by decide +kernel
theorem dL_law_1403 : decode cL_law 1403 = .ok (.iaload, 1) := by decide +kernel
theorem dL_law_1404 : decode cL_law 1404 = .ok (.ifCond .eq 7, 3) := by decide +kernel
theorem dL_law_1407 : decode cL_law 1407 = .ok (.iconst 1, 1) := by decide +kernel
theorem dL_law_1408 : decode cL_law 1408 = .ok (.goto 4, 3) := by decide +kernel
theorem dL_law_1411 : decode cL_law 1411 = .ok (.iconst 0, 1) := by decide +kernel
theorem dL_law_1412 : decode cL_law 1412 = .ok (.invokevirtual 132, 3) := by decide +kernel
theorem dL_law_1415 : decode cL_law 1415 = .ok (.aload_n 2, 1) := by decide +kernel
theorem dL_law_1416 : decode cL_law 1416 = .ok (.aload_n 0, 1) := by decide +kernel
theorem dL_law_1417 : decode cL_law 1417 = .ok (.iload 5, 2) := by decide +kernel
theorem dL_law_1419 : decode cL_law 1419 = .ok (.iconst 1, 1) := by decide +kernel
theorem dL_law_1420 : decode cL_law 1420 = .ok (.iadd, 1) := by decide +kernel
theorem dL_law_1421 : decode cL_law 1421 = .ok (.iaload, 1) := by decide +kernel
theorem dL_law_1422 : decode cL_law 1422 = .ok (.ifCond .eq 7, 3) := by decide +kernel
theorem dL_law_1425 : decode cL_law 1425 = .ok (.iconst 1, 1) := by decide +kernel
theorem dL_law_1426 : decode cL_law 1426 = .ok (.goto 4, 3) := by decide +kernel
theorem dL_law_1429 : decode cL_law 1429 = .ok (.iconst 0, 1) := by decide +kernel
theorem dL_law_1430 : decode cL_law 1430 = .ok (.invokevirtual 136, 3) := by decide +kernel
theorem dL_law_1433 : decode cL_law 1433 = .ok (.if_icmp .eq 5, 3) := by decide +kernel
theorem dL_law_1436 : decode cL_law 1436 = .ok (.iconst 0, 1) := by decide +kernel
theorem dL_law_1437 : decode cL_law 1437 = .ok (.ireturn, 1) := by decide +kernel
theorem dL_law_1438 : decode cL_law 1438 = .ok (.iinc 5 6, 3) := by decide +kernel
theorem dL_law_1441 : decode cL_law 1441 = .ok (.goto (-1413), 3) := by decide +kernel
theorem dL_law_1444 : decode cL_law 1444 = .ok (.iconst 1, 1) := by decide +kernel
theorem dL_law_1445 : decode cL_law 1445 = .ok (.ireturn, 1) := by decide +kernel
