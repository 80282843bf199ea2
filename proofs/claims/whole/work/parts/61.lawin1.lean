section LawIn1
set_option maxRecDepth 20000 in
theorem ggL_law_X1_shoot : GoodIn wsL_law wsX1_shoot := goodIn_r _ [173, 15, 111, 113, 44, 45, 46, 2, 47, 48, 49, 50, 144, 145, 146, 147, 120, 121, 122, 123, 41, 42, 43, 148, 149, 150, 174, 175, 176, 177, 178, 179, 180, 181, 182, 183, 184, 185, 186, 187, 188, 154, 155, 156, 157, 158, 159, 160, 382, 383, 384, 385, 386, 387, 388, 389, 390, 391, 392, 393, 394, 395, 420, 421, 422] (by decide +kernel) (by decide +kernel)
set_option maxRecDepth 20000 in
theorem gL_law_X1_shoot : GoodIn wsL_law (wsV RL 51 RX1 yX1_shoot wsX1_shoot) := goodIn_app (goodIn_of _ (by decide +kernel)) ggL_law_X1_shoot
set_option maxRecDepth 20000 in
theorem ggL_law_X2_shoot : GoodIn wsL_law wsX2_shoot := goodIn_r _ [192, 62, 27, 23, 82, 30, 193, 29, 24, 25, 165, 63, 64, 65, 5, 66, 67, 68, 128, 129, 130, 131, 26, 69, 70, 71, 72, 73, 74, 75, 76, 83, 84, 85, 194, 195, 196, 197, 396, 397, 398, 399, 400, 401, 402, 403, 404, 405, 406, 407, 408, 409, 410, 411, 412, 413, 414, 415, 416, 417, 418, 419] (by decide +kernel) (by decide +kernel)
set_option maxRecDepth 20000 in
theorem gL_law_X2_shoot : GoodIn wsL_law (wsV RL 55 RX2 yX2_shoot wsX2_shoot) := goodIn_app (goodIn_of _ (by decide +kernel)) ggL_law_X2_shoot
set_option maxRecDepth 20000 in
theorem ggL_law_X1_splice : GoodIn wsL_law wsX1_splice := goodIn_r _ [201, 202, 203, 204, 2, 205, 15, 113, 111, 206, 207, 208, 209, 210, 211, 212, 213, 214, 215, 120, 121, 122, 123, 41, 42, 43, 148, 149, 150, 44, 45, 46, 47, 48, 49, 50, 216, 217, 218, 219, 220, 221, 183, 184, 185, 186, 187, 188, 222, 223, 224, 225, 18, 158, 159, 160, 382, 383, 384, 385, 386, 387, 388, 389, 390, 391, 392, 393, 394, 395, 420, 421, 422] (by decide +kernel) (by decide +kernel)
set_option maxRecDepth 20000 in
theorem gL_law_X1_splice : GoodIn wsL_law (wsV RL 56 RX1 yX1_splice wsX1_splice) := goodIn_app (goodIn_of _ (by decide +kernel)) ggL_law_X1_splice
set_option maxRecDepth 20000 in
theorem ggL_law_X2_splice : GoodIn wsL_law wsX2_splice := goodIn_r _ [229, 62, 230, 231, 232, 5, 233, 26, 27, 23, 24, 67, 25, 33, 68, 234, 63, 64, 65, 66, 69, 70, 71, 83, 84, 85, 235, 236, 237, 194, 195, 196, 197, 30, 238, 239, 240, 241, 242, 243, 165, 32, 244, 72, 73, 74, 75, 76, 396, 397, 398, 399, 400, 401, 402, 403, 404, 405, 406, 407, 408, 409, 410, 411, 412, 413, 414, 415, 416, 417, 418, 419] (by decide +kernel) (by decide +kernel)
set_option maxRecDepth 20000 in
theorem gL_law_X2_splice : GoodIn wsL_law (wsV RL 60 RX2 yX2_splice wsX2_splice) := goodIn_app (goodIn_of _ (by decide +kernel)) ggL_law_X2_splice
set_option maxRecDepth 20000 in
theorem ggL_law_X1_open : GoodIn wsL_law wsX1_open := goodIn_r _ [248, 15, 113, 206, 207, 208, 209, 249, 250, 251, 2, 252, 120, 121, 122, 123, 111, 41, 42, 43, 44, 45, 46, 47, 48, 49, 50, 216, 217, 218, 253, 254, 255, 154, 155, 156, 157, 158, 159, 160, 382, 383, 384, 385, 386, 387, 388, 389, 390, 391, 392, 393, 394, 395, 420, 421, 422] (by decide +kernel) (by decide +kernel)
set_option maxRecDepth 20000 in
theorem gL_law_X1_open : GoodIn wsL_law (wsV RL 61 RX1 yX1_open wsX1_open) := goodIn_app (goodIn_of _ (by decide +kernel)) ggL_law_X1_open
set_option maxRecDepth 20000 in
theorem ggL_law_X2_open : GoodIn wsL_law wsX2_open := goodIn_r _ [259, 62, 27, 24, 25, 23, 82, 165, 260, 261, 262, 5, 263, 264, 67, 63, 64, 65, 66, 68, 128, 129, 130, 131, 26, 69, 70, 71, 235, 236, 237, 72, 73, 74, 75, 76, 83, 84, 85, 396, 397, 398, 399, 400, 401, 402, 403, 404, 405, 406, 407, 408, 409, 410, 411, 412, 413, 414, 415, 416, 417, 418, 419] (by decide +kernel) (by decide +kernel)
set_option maxRecDepth 20000 in
theorem gL_law_X2_open : GoodIn wsL_law (wsV RL 64 RX2 yX2_open wsX2_open) := goodIn_app (goodIn_of _ (by decide +kernel)) ggL_law_X2_open
set_option maxRecDepth 20000 in
theorem ggL_law_X1_close : GoodIn wsL_law wsX1_close := goodIn_r _ [268, 15, 113, 206, 207, 208, 209, 249, 250, 251, 2, 252, 120, 121, 122, 123, 111, 41, 42, 43, 44, 45, 46, 47, 48, 49, 50, 216, 217, 218, 253, 254, 255, 154, 155, 156, 157, 158, 159, 160, 382, 383, 384, 385, 386, 387, 388, 389, 390, 391, 392, 393, 394, 395, 420, 421, 422] (by decide +kernel) (by decide +kernel)
set_option maxRecDepth 20000 in
theorem gL_law_X1_close : GoodIn wsL_law (wsV RL 65 RX1 yX1_close wsX1_close) := goodIn_app (goodIn_of _ (by decide +kernel)) ggL_law_X1_close
set_option maxRecDepth 20000 in
theorem ggL_law_X2_close : GoodIn wsL_law wsX2_close := goodIn_r _ [272, 62, 27, 24, 25, 23, 82, 165, 260, 261, 262, 5, 263, 264, 67, 63, 64, 65, 66, 68, 128, 129, 130, 131, 26, 69, 70, 71, 235, 236, 237, 72, 73, 74, 75, 76, 83, 84, 85, 396, 397, 398, 399, 400, 401, 402, 403, 404, 405, 406, 407, 408, 409, 410, 411, 412, 413, 414, 415, 416, 417, 418, 419] (by decide +kernel) (by decide +kernel)
set_option maxRecDepth 20000 in
theorem gL_law_X2_close : GoodIn wsL_law (wsV RL 68 RX2 yX2_close wsX2_close) := goodIn_app (goodIn_of _ (by decide +kernel)) ggL_law_X2_close
set_option maxRecDepth 20000 in
theorem ggL_law_X1_loop : GoodIn wsL_law wsX1_loop := goodIn_r _ [276, 41, 42, 2, 43, 44, 45, 46, 47, 48, 49, 50, 202, 203, 204, 205, 15, 113, 111, 206, 207, 208, 209, 210, 211, 212, 213, 214, 215, 120, 121, 122, 123, 148, 149, 150, 216, 217, 218, 219, 220, 221, 183, 184, 185, 186, 187, 188, 222, 223, 224, 225, 18, 158, 159, 160, 382, 383, 384, 385, 386, 387, 388, 389, 390, 391, 392, 393, 394, 395, 420, 421, 422] (by decide +kernel) (by decide +kernel)
set_option maxRecDepth 20000 in
theorem gL_law_X1_loop : GoodIn wsL_law (wsV RL 69 RX1 yX1_loop wsX1_loop) := goodIn_app (goodIn_of _ (by decide +kernel)) ggL_law_X1_loop
set_option maxRecDepth 20000 in
theorem ggL_law_X2_loop : GoodIn wsL_law wsX2_loop := goodIn_r _ [280, 62, 63, 64, 65, 5, 66, 67, 68, 69, 70, 71, 72, 73, 74, 75, 76, 230, 231, 232, 233, 26, 27, 23, 24, 25, 33, 234, 83, 84, 85, 235, 236, 237, 194, 195, 196, 197, 30, 238, 239, 240, 241, 242, 243, 165, 32, 244, 396, 397, 398, 399, 400, 401, 402, 403, 404, 405, 406, 407, 408, 409, 410, 411, 412, 413, 414, 415, 416, 417, 418, 419] (by decide +kernel) (by decide +kernel)
set_option maxRecDepth 20000 in
theorem gL_law_X2_loop : GoodIn wsL_law (wsV RL 72 RX2 yX2_loop wsX2_loop) := goodIn_app (goodIn_of _ (by decide +kernel)) ggL_law_X2_loop
set_option maxRecDepth 20000 in
theorem ggL_law_X1_note : GoodIn wsL_law wsX1_note := goodIn_r _ [284, 285, 17, 382, 383, 384, 385, 386, 387, 388, 389, 390, 391, 392, 393, 394, 395] (by decide +kernel) (by decide +kernel)
set_option maxRecDepth 20000 in
theorem gL_law_X1_note : GoodIn wsL_law (wsV RL 73 RX1 yX1_note wsX1_note) := goodIn_app (goodIn_of _ (by decide +kernel)) ggL_law_X1_note
set_option maxRecDepth 20000 in
theorem ggL_law_X2_note : GoodIn wsL_law wsX2_note := goodIn_r _ [289, 62, 290, 31, 396, 397, 398, 399, 400, 401, 402, 403, 404, 405, 406, 407, 408, 409, 410, 411, 412, 413, 414, 415, 416, 417, 418, 419] (by decide +kernel) (by decide +kernel)
set_option maxRecDepth 20000 in
theorem gL_law_X2_note : GoodIn wsL_law (wsV RL 76 RX2 yX2_note wsX2_note) := goodIn_app (goodIn_of _ (by decide +kernel)) ggL_law_X2_note
set_option maxRecDepth 20000 in
theorem ggL_law_X1_play : GoodIn wsL_law wsX1_play := goodIn_r _ [294, 285, 17, 206, 207, 208, 209, 44, 45, 46, 2, 47, 48, 49, 50, 295, 296, 297, 298, 202, 203, 204, 205, 15, 113, 111, 210, 211, 212, 213, 214, 215, 120, 121, 122, 123, 41, 42, 43, 148, 149, 150, 216, 217, 218, 219, 220, 221, 183, 184, 185, 186, 187, 188, 222, 223, 224, 225, 18, 158, 159, 160, 382, 383, 384, 385, 386, 387, 388, 389, 390, 391, 392, 393, 394, 395, 420, 421, 422] (by decide +kernel) (by decide +kernel)
set_option maxRecDepth 20000 in
theorem gL_law_X1_play : GoodIn wsL_law (wsV RL 77 RX1 yX1_play wsX1_play) := goodIn_app (goodIn_of _ (by decide +kernel)) ggL_law_X1_play
set_option maxRecDepth 20000 in
theorem ggL_law_X2_play : GoodIn wsL_law wsX2_play := goodIn_r _ [302, 62, 290, 31, 63, 64, 65, 5, 66, 67, 68, 230, 231, 232, 233, 26, 27, 23, 24, 25, 33, 234, 69, 70, 71, 83, 84, 85, 235, 236, 237, 194, 195, 196, 197, 30, 238, 239, 240, 241, 242, 243, 165, 32, 244, 72, 73, 74, 75, 76, 396, 397, 398, 399, 400, 401, 402, 403, 404, 405, 406, 407, 408, 409, 410, 411, 412, 413, 414, 415, 416, 417, 418, 419] (by decide +kernel) (by decide +kernel)
set_option maxRecDepth 20000 in
theorem gL_law_X2_play : GoodIn wsL_law (wsV RL 81 RX2 yX2_play wsX2_play) := goodIn_app (goodIn_of _ (by decide +kernel)) ggL_law_X2_play
set_option maxRecDepth 20000 in
theorem ggL_law_X1_takeBack : GoodIn wsL_law wsX1_takeBack := goodIn_r _ [306, 160, 158, 18, 113, 159, 206, 207, 208, 209, 154, 155, 156, 2, 157, 382, 383, 384, 385, 386, 387, 388, 389, 390, 391, 392, 393, 394, 395, 420, 421, 422] (by decide +kernel) (by decide +kernel)
set_option maxRecDepth 20000 in
theorem gL_law_X1_takeBack : GoodIn wsL_law (wsV RL 82 RX1 yX1_takeBack wsX1_takeBack) := goodIn_app (goodIn_of _ (by decide +kernel)) ggL_law_X1_takeBack
end LawIn1
