section LawIn0
set_option maxRecDepth 20000 in
theorem ggL_at_X1_at : GoodIn wsL_at wsX1_at := goodIn_ca (goodIn_ca (goodIn_r _ [7, 8, 9, 10, 11, 12, 13, 14, 15, 16, 17, 18, 6, 19, 20, 21, 22, 23, 24, 25, 26, 27, 28, 29, 30, 31, 32, 33, 34, 35, 36, 37, 38, 39, 40, 41, 42, 43, 44, 45, 46, 47, 48, 49] (by decide +kernel) (by decide +kernel)) (goodIn_sub (fun _ h => List.mem_cons_of_mem _ (List.mem_append_left _ (List.mem_append_right _ h))) (by decide +kernel))) (goodIn_sub (fun _ h => List.mem_cons_of_mem _ (List.mem_append_right _ h)) (by decide +kernel))
set_option maxRecDepth 20000 in
theorem gL_at_X1_at : GoodIn wsL_at (wsV RL 7 RX1 yX1_at wsX1_at) := goodIn_app (goodIn_of _ (by decide +kernel)) ggL_at_X1_at
set_option maxRecDepth 20000 in
theorem ggL_law_X1_init : GoodIn wsL_law wsX1_init := goodIn_r _ [10, 11, 12, 13, 14, 15, 16, 17, 6, 18, 382, 383, 384, 385, 386, 387, 388, 389, 390, 391, 392, 393, 394, 395] (by decide +kernel) (by decide +kernel)
set_option maxRecDepth 20000 in
theorem gL_law_X1_init : GoodIn wsL_law (wsX1_init) := ggL_law_X1_init
set_option maxRecDepth 20000 in
theorem ggL_law_X2_init : GoodIn wsL_law wsX2_init := goodIn_r _ [21, 22, 12, 13, 16, 23, 24, 6, 25, 26, 27, 28, 29, 30, 31, 32, 33, 396, 397, 398, 399, 400, 401, 402, 403, 404, 405, 406, 407, 408, 409, 410, 411, 412, 413, 414, 415, 416, 417, 418, 419] (by decide +kernel) (by decide +kernel)
set_option maxRecDepth 20000 in
theorem gL_law_X2_init : GoodIn wsL_law (wsX2_init) := ggL_law_X2_init
set_option maxRecDepth 20000 in
theorem ggL_law_X1_thread : GoodIn wsL_law wsX1_thread := goodIn_r _ [37, 15, 14, 38, 39, 6, 40, 41, 42, 2, 43, 44, 45, 46, 47, 48, 49, 50, 51, 52, 53, 54, 12, 13, 55, 56, 57, 382, 383, 384, 385, 386, 387, 388, 389, 390, 391, 392, 393, 394, 395, 420, 421, 422] (by decide +kernel) (by decide +kernel)
set_option maxRecDepth 20000 in
theorem gL_law_X1_thread : GoodIn wsL_law (wsV RL 21 RX1 yX1_thread wsX1_thread) := goodIn_app (goodIn_of _ (by decide +kernel)) ggL_law_X1_thread
set_option maxRecDepth 20000 in
theorem ggL_law_X2_thread : GoodIn wsL_law wsX2_thread := goodIn_r _ [61, 62, 63, 64, 65, 5, 66, 67, 68, 69, 70, 71, 72, 73, 74, 75, 76, 77, 78, 79, 80, 23, 81, 24, 25, 82, 83, 84, 85, 86, 87, 88, 89, 26, 27, 396, 397, 398, 399, 400, 401, 402, 403, 404, 405, 406, 407, 408, 409, 410, 411, 412, 413, 414, 415, 416, 417, 418, 419] (by decide +kernel) (by decide +kernel)
set_option maxRecDepth 20000 in
theorem gL_law_X2_thread : GoodIn wsL_law (wsV RL 25 RX2 yX2_thread wsX2_thread) := goodIn_app (goodIn_of _ (by decide +kernel)) ggL_law_X2_thread
set_option maxRecDepth 20000 in
theorem ggL_law_X1_tag : GoodIn wsL_law wsX1_tag := goodIn_r _ [93, 15, 14, 38, 39, 6, 41, 42, 2, 43, 44, 45, 46, 47, 48, 49, 50, 51, 52, 53, 54, 12, 13, 55, 56, 57, 382, 383, 384, 385, 386, 387, 388, 389, 390, 391, 392, 393, 394, 395, 420, 421, 422] (by decide +kernel) (by decide +kernel)
set_option maxRecDepth 20000 in
theorem gL_law_X1_tag : GoodIn wsL_law (wsV RL 26 RX1 yX1_tag wsX1_tag) := goodIn_app (goodIn_of _ (by decide +kernel)) ggL_law_X1_tag
set_option maxRecDepth 20000 in
theorem ggL_law_X2_tag : GoodIn wsL_law wsX2_tag := goodIn_r _ [97, 62, 28, 98, 63, 64, 65, 5, 66, 67, 68, 69, 70, 71, 72, 73, 74, 75, 76, 86, 87, 88, 89, 26, 27, 396, 397, 398, 399, 400, 401, 402, 403, 404, 405, 406, 407, 408, 409, 410, 411, 412, 413, 414, 415, 416, 417, 418, 419] (by decide +kernel) (by decide +kernel)
set_option maxRecDepth 20000 in
theorem gL_law_X2_tag : GoodIn wsL_law (wsV RL 30 RX2 yX2_tag wsX2_tag) := goodIn_app (goodIn_of _ (by decide +kernel)) ggL_law_X2_tag
set_option maxRecDepth 20000 in
theorem ggL_law_X1_share : GoodIn wsL_law wsX1_share := goodIn_r _ [102, 15, 41, 42, 2, 43, 44, 45, 46, 47, 48, 49, 50, 382, 383, 384, 385, 386, 387, 388, 389, 390, 391, 392, 393, 394, 395] (by decide +kernel) (by decide +kernel)
set_option maxRecDepth 20000 in
theorem gL_law_X1_share : GoodIn wsL_law (wsV RL 31 RX1 yX1_share wsX1_share) := goodIn_app (goodIn_of _ (by decide +kernel)) ggL_law_X1_share
set_option maxRecDepth 20000 in
theorem ggL_law_X2_share : GoodIn wsL_law wsX2_share := goodIn_r _ [106, 62, 26, 27, 63, 64, 65, 5, 66, 67, 68, 69, 70, 71, 72, 73, 74, 75, 76, 86, 87, 88, 89, 396, 397, 398, 399, 400, 401, 402, 403, 404, 405, 406, 407, 408, 409, 410, 411, 412, 413, 414, 415, 416, 417, 418, 419] (by decide +kernel) (by decide +kernel)
set_option maxRecDepth 20000 in
theorem gL_law_X2_share : GoodIn wsL_law (wsV RL 34 RX2 yX2_share wsX2_share) := goodIn_app (goodIn_of _ (by decide +kernel)) ggL_law_X2_share
set_option maxRecDepth 20000 in
theorem ggL_law_X1_copy : GoodIn wsL_law wsX1_copy := goodIn_r _ [110, 15, 14, 38, 39, 111, 112, 113, 114, 115, 116, 117, 118, 119, 40, 41, 42, 2, 43, 120, 121, 122, 123, 44, 45, 46, 47, 48, 49, 50, 51, 52, 53, 54, 12, 13, 55, 56, 57, 382, 383, 384, 385, 386, 387, 388, 389, 390, 391, 392, 393, 394, 395, 420, 421, 422] (by decide +kernel) (by decide +kernel)
set_option maxRecDepth 20000 in
theorem gL_law_X1_copy : GoodIn wsL_law (wsV RL 35 RX1 yX1_copy wsX1_copy) := goodIn_app (goodIn_of _ (by decide +kernel)) ggL_law_X1_copy
set_option maxRecDepth 20000 in
theorem ggL_law_X2_copy : GoodIn wsL_law wsX2_copy := goodIn_r _ [127, 62, 27, 23, 24, 25, 63, 64, 65, 5, 66, 67, 68, 69, 70, 71, 128, 129, 130, 131, 26, 72, 73, 74, 75, 76, 77, 78, 79, 80, 81, 82, 83, 84, 85, 86, 87, 88, 89, 396, 397, 398, 399, 400, 401, 402, 403, 404, 405, 406, 407, 408, 409, 410, 411, 412, 413, 414, 415, 416, 417, 418, 419] (by decide +kernel) (by decide +kernel)
set_option maxRecDepth 20000 in
theorem gL_law_X2_copy : GoodIn wsL_law (wsV RL 38 RX2 yX2_copy wsX2_copy) := goodIn_app (goodIn_of _ (by decide +kernel)) ggL_law_X2_copy
set_option maxRecDepth 20000 in
theorem ggL_law_X1_clear : GoodIn wsL_law wsX1_clear := goodIn_r _ [135, 15, 41, 42, 2, 43, 44, 45, 46, 47, 48, 49, 50, 382, 383, 384, 385, 386, 387, 388, 389, 390, 391, 392, 393, 394, 395] (by decide +kernel) (by decide +kernel)
set_option maxRecDepth 20000 in
theorem gL_law_X1_clear : GoodIn wsL_law (wsV RL 39 RX1 yX1_clear wsX1_clear) := goodIn_app (goodIn_of _ (by decide +kernel)) ggL_law_X1_clear
set_option maxRecDepth 20000 in
theorem ggL_law_X2_clear : GoodIn wsL_law wsX2_clear := goodIn_r _ [139, 62, 63, 64, 65, 5, 66, 67, 68, 69, 70, 71, 72, 73, 74, 75, 76, 86, 87, 88, 89, 26, 27, 396, 397, 398, 399, 400, 401, 402, 403, 404, 405, 406, 407, 408, 409, 410, 411, 412, 413, 414, 415, 416, 417, 418, 419] (by decide +kernel) (by decide +kernel)
set_option maxRecDepth 20000 in
theorem gL_law_X2_clear : GoodIn wsL_law (wsV RL 43 RX2 yX2_clear wsX2_clear) := goodIn_app (goodIn_of _ (by decide +kernel)) ggL_law_X2_clear
set_option maxRecDepth 20000 in
theorem ggL_law_X1_put : GoodIn wsL_law wsX1_put := goodIn_r _ [143, 15, 113, 111, 144, 145, 146, 2, 147, 120, 121, 122, 123, 41, 42, 43, 148, 149, 150, 44, 45, 46, 47, 48, 49, 50, 151, 152, 153, 154, 155, 156, 157, 158, 159, 160, 382, 383, 384, 385, 386, 387, 388, 389, 390, 391, 392, 393, 394, 395, 420, 421, 422] (by decide +kernel) (by decide +kernel)
set_option maxRecDepth 20000 in
theorem gL_law_X1_put : GoodIn wsL_law (wsV RL 46 RX1 yX1_put wsX1_put) := goodIn_app (goodIn_of _ (by decide +kernel)) ggL_law_X1_put
set_option maxRecDepth 20000 in
theorem ggL_law_X2_put : GoodIn wsL_law wsX2_put := goodIn_r _ [164, 62, 27, 23, 24, 25, 165, 63, 64, 65, 5, 66, 67, 68, 128, 129, 130, 131, 26, 69, 70, 71, 72, 73, 74, 75, 76, 83, 84, 85, 166, 167, 168, 169, 396, 397, 398, 399, 400, 401, 402, 403, 404, 405, 406, 407, 408, 409, 410, 411, 412, 413, 414, 415, 416, 417, 418, 419] (by decide +kernel) (by decide +kernel)
set_option maxRecDepth 20000 in
theorem gL_law_X2_put : GoodIn wsL_law (wsV RL 50 RX2 yX2_put wsX2_put) := goodIn_app (goodIn_of _ (by decide +kernel)) ggL_law_X2_put
end LawIn0
