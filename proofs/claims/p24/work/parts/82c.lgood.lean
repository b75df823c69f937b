/-! the words of what the law calls (printed rows) -/
set_option maxRecDepth 20000 in
theorem ggL_areAlike_X3_drafted : GoodIn wsL_areAlike wsX3_drafted := goodIn_r _ [5, 6, 124, 125, 126, 127, 128, 129, 130, 131, 132, 133, 134] (by decide +kernel) (by decide +kernel)
set_option maxRecDepth 20000 in
theorem gL_areAlike_X3_drafted : GoodIn wsL_areAlike (wsV RL 72 RX3 yX3_drafted wsX3_drafted) := goodIn_app (goodIn_of _ (by decide +kernel)) ggL_areAlike_X3_drafted
set_option maxRecDepth 20000 in
theorem ggL_areAlike_X3_fault : GoodIn wsL_areAlike wsX3_fault := goodIn_ca (goodIn_r _ [10, 6, 11, 12, 13, 14, 15, 16, 124, 125, 126, 127, 128, 129, 130, 131, 132, 133, 134] (by decide +kernel) (by decide +kernel)) (goodIn_sub (fun _ h => List.mem_cons_of_mem _ (List.mem_append_left _ (List.mem_append_left _ (List.mem_append_left _ (List.mem_append_right _ h))))) (by decide +kernel))
set_option maxRecDepth 20000 in
theorem gL_areAlike_X3_fault : GoodIn wsL_areAlike (wsV RL 69 RX3 yX3_fault wsX3_fault) := goodIn_app (goodIn_of _ (by decide +kernel)) ggL_areAlike_X3_fault
set_option maxRecDepth 20000 in
theorem ggL_areAlike_X3_layers : GoodIn wsL_areAlike wsX3_layers := goodIn_r _ [20, 21, 124, 125, 126, 127, 128, 129, 130, 131, 132] (by decide +kernel) (by decide +kernel)
set_option maxRecDepth 20000 in
theorem gL_areAlike_X3_layers : GoodIn wsL_areAlike (wsV RL 89 RX3 yX3_layers wsX3_layers) := goodIn_app (goodIn_of _ (by decide +kernel)) ggL_areAlike_X3_layers
set_option maxRecDepth 20000 in
theorem ggL_areAlike_X3_faulty : GoodIn wsL_areAlike wsX3_faulty := goodIn_ca (goodIn_r _ [25, 26, 27, 124, 125, 126, 127, 128, 129, 130, 131, 132] (by decide +kernel) (by decide +kernel)) (goodIn_sub (fun _ h => List.mem_cons_of_mem _ (List.mem_append_left _ (List.mem_append_left _ (List.mem_append_left _ (List.mem_append_right _ h))))) (by decide +kernel))
set_option maxRecDepth 20000 in
theorem gL_areAlike_X3_faulty : GoodIn wsL_areAlike (wsV RL 92 RX3 yX3_faulty wsX3_faulty) := goodIn_app (goodIn_of _ (by decide +kernel)) ggL_areAlike_X3_faulty
set_option maxRecDepth 20000 in
theorem ggL_areAlike_X3_foundAnew : GoodIn wsL_areAlike wsX3_foundAnew := goodIn_r _ [31, 32, 124, 125, 126, 127, 128, 129, 130, 131, 132] (by decide +kernel) (by decide +kernel)
set_option maxRecDepth 20000 in
theorem gL_areAlike_X3_foundAnew : GoodIn wsL_areAlike (wsV RL 95 RX3 yX3_foundAnew wsX3_foundAnew) := goodIn_app (goodIn_of _ (by decide +kernel)) ggL_areAlike_X3_foundAnew
set_option maxRecDepth 20000 in
theorem ggL_areAlike_L_value : GoodIn wsL_areAlike wsL_value := goodIn_ca (goodIn_ca (goodIn_ca (goodIn_ca (goodIn_r _ [36, 37, 38, 39, 40, 41, 4, 42, 43, 44, 45, 46, 47, 48, 49, 50, 51, 52, 53, 54, 55, 56, 57, 58, 59, 60, 61, 62, 63, 64, 65, 66, 67, 68, 69, 70, 71, 72, 73, 74, 75, 76, 77, 78, 79, 80, 81, 82, 83, 84, 85, 86, 87, 88, 89, 90, 91, 92, 93, 94, 95, 96, 97, 98, 99, 100, 101, 102, 103, 104, 105, 106, 107, 108, 109, 110, 111, 27, 112, 113, 114, 115, 26, 124, 125, 126, 127, 128, 129, 130, 131, 132, 135, 136, 137, 138, 139] (by decide +kernel) (by decide +kernel)) (goodIn_sub (fun _ h => List.mem_cons_of_mem _ (List.mem_append_left _ (List.mem_append_left _ (List.mem_append_left _ (List.mem_append_right _ h))))) (by decide +kernel))) (goodIn_sub (fun _ h => List.mem_cons_of_mem _ (List.mem_append_left _ (List.mem_append_left _ (List.mem_append_right _ h)))) (by decide +kernel))) (goodIn_sub (fun _ h => List.mem_cons_of_mem _ (List.mem_append_left _ (List.mem_append_right _ h))) (by decide +kernel))) (goodIn_sub (fun _ h => List.mem_cons_of_mem _ (List.mem_append_right _ h)) (by decide +kernel))
set_option maxRecDepth 20000 in
theorem gL_areAlike_L_value : GoodIn wsL_areAlike (va_wsS RL 98 yL_value wsL_value) := goodIn_app (goodIn_of _ (by decide +kernel)) ggL_areAlike_L_value
set_option maxRecDepth 20000 in
theorem ggL_areAlike_X3_signs : GoodIn wsL_areAlike wsX3_signs := goodIn_ca (goodIn_r _ [119, 60, 44, 45, 4, 46, 47, 48, 124, 125, 126, 127, 128, 129, 130, 131, 132, 135, 136] (by decide +kernel) (by decide +kernel)) (goodIn_sub (fun _ h => List.mem_cons_of_mem _ (List.mem_append_left _ (List.mem_append_left _ (List.mem_append_right _ h)))) (by decide +kernel))
set_option maxRecDepth 20000 in
theorem gL_areAlike_X3_signs : GoodIn wsL_areAlike (wsV RL 101 RX3 yX3_signs wsX3_signs) := goodIn_app (goodIn_of _ (by decide +kernel)) ggL_areAlike_X3_signs
set_option maxRecDepth 20000 in
theorem ggL_areAlike_X3_level : GoodIn wsL_areAlike wsX3_level := goodIn_ca (goodIn_r _ [123, 60, 44, 45, 4, 46, 47, 48, 56, 57, 58, 59, 61, 62, 63, 124, 125, 126, 127, 128, 129, 130, 131, 132, 135, 136] (by decide +kernel) (by decide +kernel)) (goodIn_sub (fun _ h => List.mem_cons_of_mem _ (List.mem_append_left _ (List.mem_append_left _ (List.mem_append_right _ h)))) (by decide +kernel))
set_option maxRecDepth 20000 in
theorem gL_areAlike_X3_level : GoodIn wsL_areAlike (wsV RL 104 RX3 yX3_level wsX3_level) := goodIn_app (goodIn_of _ (by decide +kernel)) ggL_areAlike_X3_level
set_option maxRecDepth 20000 in
theorem ggL_areCellsSo_L_value : GoodIn wsL_areCellsSo wsL_value := goodIn_ca (goodIn_ca (goodIn_ca (goodIn_ca (goodIn_r _ [7, 8, 1, 9, 10, 11, 12, 13, 14, 15, 16, 17, 18, 19, 20, 21, 22, 23, 24, 25, 26, 27, 28, 29, 30, 31, 32, 33, 34, 35, 36, 37, 38, 39, 40, 41, 42, 43, 44, 45, 46, 47, 48, 49, 50, 51, 52, 53, 54, 55, 56, 57, 58, 59, 60, 61, 62, 63, 64, 65, 66, 67, 68, 69, 70, 71, 72, 73, 74, 75, 76, 77, 78, 79, 80, 81, 82, 83, 84, 85, 86, 87, 88, 114, 115, 116, 117, 118, 119, 120, 121, 122, 123, 124, 125, 126, 127] (by decide +kernel) (by decide +kernel)) (goodIn_sub (fun _ h => List.mem_cons_of_mem _ (List.mem_append_left _ (List.mem_append_left _ (List.mem_append_left _ (List.mem_append_right _ h))))) (by decide +kernel))) (goodIn_sub (fun _ h => List.mem_cons_of_mem _ (List.mem_append_left _ (List.mem_append_left _ (List.mem_append_right _ h)))) (by decide +kernel))) (goodIn_sub (fun _ h => List.mem_cons_of_mem _ (List.mem_append_left _ (List.mem_append_right _ h))) (by decide +kernel))) (goodIn_sub (fun _ h => List.mem_cons_of_mem _ (List.mem_append_right _ h)) (by decide +kernel))
set_option maxRecDepth 20000 in
theorem gL_areCellsSo_L_value : GoodIn wsL_areCellsSo (va_wsS RL 98 yL_value wsL_value) := goodIn_app (goodIn_of _ (by decide +kernel)) ggL_areCellsSo_L_value
set_option maxRecDepth 20000 in
theorem ggL_areCellsSo_X3_signs : GoodIn wsL_areCellsSo wsX3_signs := goodIn_ca (goodIn_r _ [92, 31, 15, 16, 12, 17, 18, 19, 114, 115, 116, 117, 118, 119, 120, 121, 122, 123, 124] (by decide +kernel) (by decide +kernel)) (goodIn_sub (fun _ h => List.mem_cons_of_mem _ (List.mem_append_left _ (List.mem_append_left _ (List.mem_append_right _ h)))) (by decide +kernel))
set_option maxRecDepth 20000 in
theorem gL_areCellsSo_X3_signs : GoodIn wsL_areCellsSo (wsV RL 101 RX3 yX3_signs wsX3_signs) := goodIn_app (goodIn_of _ (by decide +kernel)) ggL_areCellsSo_X3_signs
set_option maxRecDepth 20000 in
theorem ggL_areCellsSo_X3_level : GoodIn wsL_areCellsSo wsX3_level := goodIn_ca (goodIn_r _ [96, 31, 15, 16, 12, 17, 18, 19, 27, 28, 29, 30, 32, 33, 34, 114, 115, 116, 117, 118, 119, 120, 121, 122, 123, 124] (by decide +kernel) (by decide +kernel)) (goodIn_sub (fun _ h => List.mem_cons_of_mem _ (List.mem_append_left _ (List.mem_append_left _ (List.mem_append_right _ h)))) (by decide +kernel))
set_option maxRecDepth 20000 in
theorem gL_areCellsSo_X3_level : GoodIn wsL_areCellsSo (wsV RL 104 RX3 yX3_level wsX3_level) := goodIn_app (goodIn_of _ (by decide +kernel)) ggL_areCellsSo_X3_level
set_option maxRecDepth 20000 in
theorem ggL_areCellsSo_X3_depends : GoodIn wsL_areCellsSo wsX3_depends := goodIn_ca (goodIn_r _ [100, 15, 16, 12, 17, 18, 19, 101, 102, 103, 104, 20, 21, 22, 23, 24, 25, 26, 27, 28, 29, 30, 31, 32, 33, 34, 114, 115, 116, 117, 118, 119, 120, 121, 122, 123, 124] (by decide +kernel) (by decide +kernel)) (goodIn_sub (fun _ h => List.mem_cons_of_mem _ (List.mem_append_left _ (List.mem_append_left _ (List.mem_append_right _ h)))) (by decide +kernel))
set_option maxRecDepth 20000 in
theorem gL_areCellsSo_X3_depends : GoodIn wsL_areCellsSo (wsV RL 111 RX3 yX3_depends wsX3_depends) := goodIn_app (goodIn_of _ (by decide +kernel)) ggL_areCellsSo_X3_depends
set_option maxRecDepth 20000 in
theorem ggL_areCellsSo_X3_faulty : GoodIn wsL_areCellsSo wsX3_faulty := goodIn_ca (goodIn_r _ [108, 88, 83, 114, 115, 116, 117, 118, 119, 120, 121, 122] (by decide +kernel) (by decide +kernel)) (goodIn_sub (fun _ h => List.mem_cons_of_mem _ (List.mem_append_left _ (List.mem_append_left _ (List.mem_append_left _ (List.mem_append_right _ h))))) (by decide +kernel))
set_option maxRecDepth 20000 in
theorem gL_areCellsSo_X3_faulty : GoodIn wsL_areCellsSo (wsV RL 92 RX3 yX3_faulty wsX3_faulty) := goodIn_app (goodIn_of _ (by decide +kernel)) ggL_areCellsSo_X3_faulty
set_option maxRecDepth 20000 in
theorem ggL_areCellsSo_X3_layers : GoodIn wsL_areCellsSo wsX3_layers := goodIn_r _ [112, 113, 114, 115, 116, 117, 118, 119, 120, 121, 122] (by decide +kernel) (by decide +kernel)
set_option maxRecDepth 20000 in
theorem gL_areCellsSo_X3_layers : GoodIn wsL_areCellsSo (wsV RL 89 RX3 yX3_layers wsX3_layers) := goodIn_app (goodIn_of _ (by decide +kernel)) ggL_areCellsSo_X3_layers
