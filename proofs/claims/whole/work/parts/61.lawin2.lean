section LawIn2
set_option maxRecDepth 20000 in
theorem ggL_law_X2_takeBack : GoodIn wsL_law wsX2_takeBack := goodIn_r _ [310, 62, 165, 25, 242, 243, 32, 396, 397, 398, 399, 400, 401, 402, 403, 404, 405, 406, 407, 408, 409, 410, 411, 412, 413, 414, 415, 416, 417, 418, 419] (by decide +kernel) (by decide +kernel)
set_option maxRecDepth 20000 in
theorem gL_law_X2_takeBack : GoodIn wsL_law (wsV RL 85 RX2 yX2_takeBack wsX2_takeBack) := goodIn_app (goodIn_of _ (by decide +kernel)) ggL_law_X2_takeBack
set_option maxRecDepth 20000 in
theorem ggL_law_X1_refusal : GoodIn wsL_law wsX1_refusal := goodIn_r _ [314, 48, 49, 50, 382, 383, 384, 385, 386, 387, 388, 389, 390, 391, 392, 393, 394, 395] (by decide +kernel) (by decide +kernel)
set_option maxRecDepth 20000 in
theorem gL_law_X1_refusal : GoodIn wsL_law (wsV RL 86 RX1 yX1_refusal wsX1_refusal) := goodIn_app (goodIn_of _ (by decide +kernel)) ggL_law_X1_refusal
set_option maxRecDepth 20000 in
theorem ggL_law_X2_refusal : GoodIn wsL_law wsX2_refusal := goodIn_r _ [318, 62, 76, 67, 68, 396, 397, 398, 399, 400, 401, 402, 403, 404, 405, 406, 407, 408, 409, 410, 411, 412, 413, 414, 415, 416, 417, 418, 419] (by decide +kernel) (by decide +kernel)
set_option maxRecDepth 20000 in
theorem gL_law_X2_refusal : GoodIn wsL_law (wsV RL 89 RX2 yX2_refusal wsX2_refusal) := goodIn_app (goodIn_of _ (by decide +kernel)) ggL_law_X2_refusal
set_option maxRecDepth 20000 in
theorem ggL_law_X1_look : GoodIn wsL_law wsX1_look := goodIn_r _ [322, 111, 112, 323, 324, 325, 2, 326, 15, 41, 42, 43, 327, 328, 329, 330, 420, 421, 422, 382, 383, 384, 385, 386, 387, 388, 389, 390, 391, 392, 393, 394, 395] (by decide +kernel) (by decide +kernel)
set_option maxRecDepth 20000 in
theorem gL_law_X1_look : GoodIn wsL_law (wsV RL 90 RX1 yX1_look wsX1_look) := goodIn_app (goodIn_of _ (by decide +kernel)) ggL_law_X1_look
set_option maxRecDepth 20000 in
theorem ggL_law_X2_look : GoodIn wsL_law wsX2_look := goodIn_r _ [334, 62, 26, 23, 27, 28, 24, 69, 70, 5, 71, 396, 397, 398, 399, 400, 401, 402, 403, 404, 405, 406, 407, 408, 409, 410, 411, 412, 413, 414, 415, 416, 417, 418, 419] (by decide +kernel) (by decide +kernel)
set_option maxRecDepth 20000 in
theorem gL_law_X2_look : GoodIn wsL_law (wsV RL 93 RX2 yX2_look wsX2_look) := goodIn_app (goodIn_of _ (by decide +kernel)) ggL_law_X2_look
set_option maxRecDepth 20000 in
theorem ggL_law_L_at : GoodIn wsL_law wsL_at := goodIn_ca (goodIn_ca (goodIn_r _ [338, 339, 340, 341, 342, 343, 2, 344, 345, 346, 347, 348, 111, 113, 349, 350, 323, 324, 325, 326, 15, 41, 42, 43, 148, 149, 150, 351, 352, 353, 186, 187, 188, 420, 421, 422, 382, 383, 384, 385, 386, 387, 388, 389, 390, 391, 392, 393, 394, 395] (by decide +kernel) (by decide +kernel)) (goodIn_sub (fun _ h => List.mem_append_left _ (List.mem_append_right _ h)) (by decide +kernel))) (goodIn_sub (fun _ h => List.mem_append_right _ h) (by decide +kernel))
set_option maxRecDepth 20000 in
theorem gL_law_L_at : GoodIn wsL_law (va_wsS RL 94 yL_at wsL_at) := goodIn_app (goodIn_of _ (by decide +kernel)) ggL_law_L_at
set_option maxRecDepth 20000 in
theorem ggL_law_X2_at : GoodIn wsL_law wsX2_at := goodIn_r _ [357, 62, 27, 24, 25, 23, 82, 358, 29, 30, 128, 129, 130, 5, 131, 26, 69, 70, 71, 83, 84, 85, 396, 397, 398, 399, 400, 401, 402, 403, 404, 405, 406, 407, 408, 409, 410, 411, 412, 413, 414, 415, 416, 417, 418, 419] (by decide +kernel) (by decide +kernel)
set_option maxRecDepth 20000 in
theorem gL_law_X2_at : GoodIn wsL_law (wsV RL 99 RX2 yX2_at wsX2_at) := goodIn_app (goodIn_of _ (by decide +kernel)) ggL_law_X2_at
set_option maxRecDepth 20000 in
theorem ggL_law_X2_thrown : GoodIn wsL_law wsX2_thrown := goodIn_r _ [362, 62, 396, 397, 398, 399, 400, 401, 402, 403, 404, 405, 406, 407, 408, 409, 410, 411, 412, 413, 414, 415, 416, 417, 418, 419] (by decide +kernel) (by decide +kernel)
set_option maxRecDepth 20000 in
theorem gL_law_X2_thrown : GoodIn wsL_law (wsV RL 100 RX2 yX2_thrown wsX2_thrown) := goodIn_app (goodIn_of _ (by decide +kernel)) ggL_law_X2_thrown
set_option maxRecDepth 20000 in
theorem ggL_law_X1_alike : GoodIn wsL_law wsX1_alike := goodIn_r _ [366, 15, 111, 112, 113, 41, 42, 2, 43, 367, 368, 369, 382, 383, 384, 385, 386, 387, 388, 389, 390, 391, 392, 393, 394, 395, 420, 421, 422] (by decide +kernel) (by decide +kernel)
set_option maxRecDepth 20000 in
theorem gL_law_X1_alike : GoodIn wsL_law (wsV RL 103 RX1 yX1_alike wsX1_alike) := goodIn_app (goodIn_of _ (by decide +kernel)) ggL_law_X1_alike
set_option maxRecDepth 20000 in
theorem ggL_law_X2_alike : GoodIn wsL_law wsX2_alike := goodIn_r _ [373, 62, 26, 27, 28, 23, 24, 25, 69, 70, 5, 71, 396, 397, 398, 399, 400, 401, 402, 403, 404, 405, 406, 407, 408, 409, 410, 411, 412, 413, 414, 415, 416, 417, 418, 419] (by decide +kernel) (by decide +kernel)
set_option maxRecDepth 20000 in
theorem gL_law_X2_alike : GoodIn wsL_law (wsV RL 107 RX2 yX2_alike wsX2_alike) := goodIn_app (goodIn_of _ (by decide +kernel)) ggL_law_X2_alike
set_option maxRecDepth 20000 in
theorem ggL_law_X1_count : GoodIn wsL_law wsX1_count := goodIn_r _ [377, 40, 211, 210, 285, 160, 178, 382, 383, 384, 385, 386, 387, 388, 389, 390, 391, 392, 393, 394, 395] (by decide +kernel) (by decide +kernel)
set_option maxRecDepth 20000 in
theorem gL_law_X1_count : GoodIn wsL_law (wsV RL 108 RX1 yX1_count wsX1_count) := goodIn_app (goodIn_of _ (by decide +kernel)) ggL_law_X1_count
set_option maxRecDepth 20000 in
theorem ggL_law_X2_count : GoodIn wsL_law wsX2_count := goodIn_r _ [381, 62, 81, 234, 244, 290, 165, 193, 396, 397, 398, 399, 400, 401, 402, 403, 404, 405, 406, 407, 408, 409, 410, 411, 412, 413, 414, 415, 416, 417, 418, 419] (by decide +kernel) (by decide +kernel)
set_option maxRecDepth 20000 in
theorem gL_law_X2_count : GoodIn wsL_law (wsV RL 111 RX2 yX2_count wsX2_count) := goodIn_app (goodIn_of _ (by decide +kernel)) ggL_law_X2_count
end LawIn2
