/-! 27: the law's rows (laid by wip/gen/mk26.py) -/
set_option maxRecDepth 20000 in
theorem ggL_law_X3_init : GoodIn wsL_law wsX3_init := goodIn_r _ [8, 9, 10, 11, 12, 13, 14, 15, 16, 17, 18, 19, 20, 21, 22, 23, 24, 25, 26, 27, 28, 29, 2, 30, 31, 32, 33, 34, 35, 36, 37, 38, 39, 40, 41, 42, 43, 44, 45, 46, 47, 48, 49, 50, 51, 52, 53, 54, 55, 56, 57, 58, 59, 60, 61, 62, 63, 64, 65, 403, 404, 405, 406, 407, 408, 409, 423, 424, 425, 426, 427, 428, 429] rfl (by decide +kernel)
set_option maxRecDepth 20000 in
theorem gL_law_X3_init : GoodIn wsL_law (wsX3_init) := ggL_law_X3_init
set_option maxRecDepth 20000 in
theorem ggL_law_X4_init : GoodIn wsL_law wsX4_init := goodIn_r _ [68, 69, 10, 11, 70, 71, 72, 73, 74, 75, 76, 39, 77, 78, 79, 80, 81, 82, 83, 84, 410, 411, 412, 413, 414, 415, 416, 417, 418, 419, 420, 421, 422] rfl (by decide +kernel)
set_option maxRecDepth 20000 in
theorem gL_law_X4_init : GoodIn wsL_law (wsX4_init) := ggL_law_X4_init
set_option maxRecDepth 20000 in
theorem ggL_law_X3_branch : GoodIn wsL_law wsX3_branch := goodIn_r _ [88, 59, 19, 89, 90, 91, 2, 92, 15, 27, 28, 29, 30, 31, 12, 32, 33, 13, 34, 35, 36, 10, 11, 37, 17, 18, 38, 39, 40, 41, 42, 43, 22, 23, 24, 25, 26, 44, 45, 46, 47, 48, 49, 50, 51, 52, 53, 54, 55, 56, 57, 58, 14, 60, 61, 62, 63, 64, 65, 403, 404, 405, 406, 407, 408, 409, 429, 424, 425, 426, 427, 428, 423] rfl (by decide +kernel)
set_option maxRecDepth 20000 in
theorem gL_law_X3_branch : GoodIn wsL_law (wsV RL 13 RX3 yX3_branch wsX3_branch) := goodIn_app (goodIn_of _ (by decide +kernel)) ggL_law_X3_branch
set_option maxRecDepth 20000 in
theorem ggL_law_X4_branch : GoodIn wsL_law wsX4_branch := goodIn_r _ [96, 84, 83, 76, 97, 98, 99, 5, 100, 101, 102, 103, 104, 79, 105, 106, 107, 108, 72, 109, 110, 111, 112, 74, 75, 410, 411, 412, 413, 414, 415, 416, 417, 418, 419, 420, 421, 422] rfl (by decide +kernel)
set_option maxRecDepth 20000 in
theorem gL_law_X4_branch : GoodIn wsL_law (wsV RL 17 RX4 yX4_branch wsX4_branch) := goodIn_app (goodIn_of _ (by decide +kernel)) ggL_law_X4_branch
set_option maxRecDepth 20000 in
theorem ggL_law_X3_put : GoodIn wsL_law wsX3_put := goodIn_r _ [116, 21, 89, 90, 91, 2, 92, 59, 15, 117, 118, 119, 120, 18, 121, 122, 26, 44, 45, 46, 47, 48, 49, 50, 123, 124, 125, 126, 127, 128, 129, 130, 27, 28, 29, 30, 31, 12, 32, 33, 13, 34, 35, 36, 10, 11, 37, 17, 38, 39, 40, 41, 42, 43, 22, 23, 24, 25, 51, 52, 53, 54, 429, 424, 425, 426, 427, 428, 403, 404, 405, 406, 407, 408, 409, 423] rfl (by decide +kernel)
set_option maxRecDepth 20000 in
theorem gL_law_X3_put : GoodIn wsL_law (wsV RL 18 RX3 yX3_put wsX3_put) := goodIn_app (goodIn_of _ (by decide +kernel)) ggL_law_X3_put
set_option maxRecDepth 20000 in
theorem ggL_law_X4_put : GoodIn wsL_law wsX4_put := goodIn_r _ [134, 76, 83, 79, 97, 98, 99, 5, 100, 84, 135, 136, 137, 105, 106, 107, 108, 72, 101, 102, 103, 104, 138, 139, 140, 141, 109, 110, 111, 112, 74, 75, 410, 411, 412, 413, 414, 415, 416, 417, 418, 419, 420, 421, 422] rfl (by decide +kernel)
set_option maxRecDepth 20000 in
theorem gL_law_X4_put : GoodIn wsL_law (wsV RL 22 RX4 yX4_put wsX4_put) := goodIn_app (goodIn_of _ (by decide +kernel)) ggL_law_X4_put
set_option maxRecDepth 20000 in
theorem ggL_law_X3_blank : GoodIn wsL_law wsX3_blank := goodIn_r _ [145, 21, 89, 90, 91, 2, 92, 59, 15, 146, 147, 148, 149, 18, 150, 151, 152, 120, 121, 122, 26, 118, 119, 153, 154, 155, 156, 157, 158, 159, 160, 161, 162, 163, 164, 165, 166, 167, 168, 123, 124, 125, 126, 127, 128, 129, 130, 27, 28, 29, 30, 31, 12, 32, 33, 13, 34, 35, 36, 10, 11, 37, 17, 38, 39, 40, 41, 42, 43, 22, 23, 24, 25, 44, 45, 46, 47, 48, 49, 50, 51, 52, 53, 54, 429, 424, 425, 426, 427, 428, 403, 404, 405, 406, 407, 408, 409, 423] rfl (by decide +kernel)
set_option maxRecDepth 20000 in
theorem gL_law_X3_blank : GoodIn wsL_law (wsV RL 23 RX3 yX3_blank wsX3_blank) := goodIn_app (goodIn_of _ (by decide +kernel)) ggL_law_X3_blank
set_option maxRecDepth 20000 in
theorem ggL_law_X4_blank : GoodIn wsL_law wsX4_blank := goodIn_r _ [172, 76, 83, 79, 97, 98, 99, 5, 100, 84, 173, 174, 175, 176, 177, 178, 179, 105, 106, 107, 108, 72, 101, 102, 103, 104, 180, 181, 182, 138, 139, 140, 141, 109, 110, 111, 112, 74, 75, 410, 411, 412, 413, 414, 415, 416, 417, 418, 419, 420, 421, 422] rfl (by decide +kernel)
set_option maxRecDepth 20000 in
theorem gL_law_X4_blank : GoodIn wsL_law (wsV RL 27 RX4 yX4_blank wsX4_blank) := goodIn_app (goodIn_of _ (by decide +kernel)) ggL_law_X4_blank
set_option maxRecDepth 20000 in
theorem ggL_law_X3_head : GoodIn wsL_law wsX3_head := goodIn_r _ [186, 89, 90, 91, 2, 92, 59, 15, 429, 424, 425, 426, 427, 428, 403, 404, 405, 406, 407, 408, 409] rfl (by decide +kernel)
set_option maxRecDepth 20000 in
theorem gL_law_X3_head : GoodIn wsL_law (wsV RL 28 RX3 yX3_head wsX3_head) := goodIn_app (goodIn_of _ (by decide +kernel)) ggL_law_X3_head
set_option maxRecDepth 20000 in
theorem ggL_law_X4_head : GoodIn wsL_law wsX4_head := goodIn_r _ [190, 76, 97, 98, 99, 5, 100, 84, 410, 411, 412, 413, 414, 415, 416, 417, 418, 419, 420, 421, 422] rfl (by decide +kernel)
set_option maxRecDepth 20000 in
theorem gL_law_X4_head : GoodIn wsL_law (wsV RL 31 RX4 yX4_head wsX4_head) := goodIn_app (goodIn_of _ (by decide +kernel)) ggL_law_X4_head
set_option maxRecDepth 20000 in
theorem ggL_law_X3_base : GoodIn wsL_law wsX3_base := goodIn_r _ [194, 89, 90, 91, 2, 92, 59, 15, 195, 196, 197, 198, 199, 200, 201, 202, 203, 33, 204, 205, 40, 206, 207, 208, 209, 31, 13, 429, 424, 425, 426, 427, 428, 403, 404, 405, 406, 407, 408, 409] rfl (by decide +kernel)
set_option maxRecDepth 20000 in
theorem gL_law_X3_base : GoodIn wsL_law (wsV RL 32 RX3 yX3_base wsX3_base) := goodIn_app (goodIn_of _ (by decide +kernel)) ggL_law_X3_base
set_option maxRecDepth 20000 in
theorem ggL_law_X4_base : GoodIn wsL_law wsX4_base := goodIn_r _ [213, 76, 97, 98, 99, 5, 100, 84, 214, 215, 216, 217, 77, 78, 83, 218, 219, 220, 221, 74, 75, 410, 411, 412, 413, 414, 415, 416, 417, 418, 419, 420, 421, 422] rfl (by decide +kernel)
set_option maxRecDepth 20000 in
theorem gL_law_X4_base : GoodIn wsL_law (wsV RL 36 RX4 yX4_base wsX4_base) := goodIn_app (goodIn_of _ (by decide +kernel)) ggL_law_X4_base
set_option maxRecDepth 20000 in
theorem ggL_law_X3_merge : GoodIn wsL_law wsX3_merge := goodIn_r _ [225, 20, 19, 89, 90, 91, 2, 92, 59, 15, 203, 33, 204, 205, 40, 44, 18, 45, 46, 26, 47, 48, 49, 50, 226, 227, 228, 229, 230, 231, 232, 233, 31, 195, 196, 197, 198, 199, 200, 201, 202, 206, 207, 208, 209, 13, 234, 235, 236, 126, 237, 238, 239, 240, 241, 242, 243, 152, 120, 121, 122, 118, 119, 127, 128, 129, 130, 27, 28, 29, 30, 12, 32, 34, 35, 36, 10, 11, 37, 17, 38, 39, 41, 42, 43, 22, 23, 24, 25, 51, 52, 53, 54, 429, 424, 425, 426, 427, 428, 403, 404, 405, 406, 407, 408, 409, 423] rfl (by decide +kernel)
set_option maxRecDepth 20000 in
theorem gL_law_X3_merge : GoodIn wsL_law (wsV RL 37 RX3 yX3_merge wsX3_merge) := goodIn_app (goodIn_of _ (by decide +kernel)) ggL_law_X3_merge
set_option maxRecDepth 20000 in
theorem ggL_law_X4_merge : GoodIn wsL_law wsX4_merge := goodIn_r _ [247, 76, 248, 83, 79, 97, 98, 99, 5, 100, 84, 214, 215, 216, 217, 77, 78, 218, 219, 220, 221, 74, 75, 105, 106, 107, 108, 72, 249, 250, 251, 252, 80, 81, 82, 109, 110, 111, 112, 410, 411, 412, 413, 414, 415, 416, 417, 418, 419, 420, 421, 422] rfl (by decide +kernel)
set_option maxRecDepth 20000 in
theorem gL_law_X4_merge : GoodIn wsL_law (wsV RL 40 RX4 yX4_merge wsX4_merge) := goodIn_app (goodIn_of _ (by decide +kernel)) ggL_law_X4_merge
set_option maxRecDepth 20000 in
theorem ggL_law_X3_conflict : GoodIn wsL_law wsX3_conflict := goodIn_r _ [256, 20, 257, 18, 258, 259, 240, 241, 242, 243, 152, 120, 121, 122, 26, 118, 2, 119, 260, 261, 262, 263, 264, 265, 403, 404, 405, 406, 407, 408, 409, 423] rfl (by decide +kernel)
set_option maxRecDepth 20000 in
theorem gL_law_X3_conflict : GoodIn wsL_law (wsV RL 41 RX3 yX3_conflict wsX3_conflict) := goodIn_app (goodIn_of _ (by decide +kernel)) ggL_law_X3_conflict
set_option maxRecDepth 20000 in
theorem ggL_law_X4_conflict : GoodIn wsL_law wsX4_conflict := goodIn_r _ [269, 248, 80, 81, 82, 410, 411, 412, 413, 414, 415, 416, 417, 418, 419, 420, 421, 422] rfl (by decide +kernel)
set_option maxRecDepth 20000 in
theorem gL_law_X4_conflict : GoodIn wsL_law (wsV RL 44 RX4 yX4_conflict wsX4_conflict) := goodIn_app (goodIn_of _ (by decide +kernel)) ggL_law_X4_conflict
set_option maxRecDepth 20000 in
theorem ggL_law_X3_patch : GoodIn wsL_law wsX3_patch := goodIn_r _ [273, 21, 206, 207, 208, 2, 209, 31, 13, 274, 18, 275, 276, 26, 277, 278, 279, 280, 281, 282, 283, 284, 285, 286, 287, 288, 289, 290, 152, 120, 121, 122, 118, 119, 403, 404, 405, 406, 407, 408, 409, 424, 425, 426, 427, 428, 423] rfl (by decide +kernel)
set_option maxRecDepth 20000 in
theorem gL_law_X3_patch : GoodIn wsL_law (wsV RL 45 RX3 yX3_patch wsX3_patch) := goodIn_app (goodIn_of _ (by decide +kernel)) ggL_law_X3_patch
set_option maxRecDepth 20000 in
theorem ggL_law_X4_patch : GoodIn wsL_law wsX4_patch := goodIn_r _ [294, 295, 296, 297, 5, 298, 83, 105, 106, 107, 108, 72, 410, 411, 412, 413, 414, 415, 416, 417, 418, 419, 420, 421, 422] rfl (by decide +kernel)
set_option maxRecDepth 20000 in
theorem gL_law_X4_patch : GoodIn wsL_law (wsV RL 48 RX4 yX4_patch wsX4_patch) := goodIn_app (goodIn_of _ (by decide +kernel)) ggL_law_X4_patch
set_option maxRecDepth 20000 in
theorem ggL_law_X3_inverse : GoodIn wsL_law wsX3_inverse := goodIn_r _ [302, 303, 304, 305, 2, 306, 307, 308, 309, 206, 207, 208, 209, 31, 13, 403, 404, 405, 406, 407, 408, 409] rfl (by decide +kernel)
set_option maxRecDepth 20000 in
theorem gL_law_X3_inverse : GoodIn wsL_law (wsV RL 49 RX3 yX3_inverse wsX3_inverse) := goodIn_app (goodIn_of _ (by decide +kernel)) ggL_law_X3_inverse
set_option maxRecDepth 20000 in
theorem ggL_law_X4_inverse : GoodIn wsL_law wsX4_inverse := goodIn_r _ [313, 314, 315, 316, 5, 317, 295, 296, 297, 298, 83, 410, 411, 412, 413, 414, 415, 416, 417, 418, 419, 420, 421, 422] rfl (by decide +kernel)
set_option maxRecDepth 20000 in
theorem gL_law_X4_inverse : GoodIn wsL_law (wsV RL 52 RX4 yX4_inverse wsX4_inverse) := goodIn_app (goodIn_of _ (by decide +kernel)) ggL_law_X4_inverse
set_option maxRecDepth 20000 in
theorem ggL_law_X3_apply : GoodIn wsL_law wsX3_apply := goodIn_r _ [321, 89, 90, 91, 2, 92, 59, 15, 303, 304, 305, 306, 307, 308, 309, 206, 207, 208, 209, 31, 13, 322, 323, 324, 325, 19, 326, 327, 328, 329, 21, 330, 18, 331, 332, 26, 126, 230, 231, 232, 233, 333, 334, 335, 336, 337, 338, 127, 128, 129, 130, 27, 28, 29, 30, 12, 32, 33, 34, 35, 36, 10, 11, 37, 17, 38, 39, 40, 41, 42, 43, 22, 23, 24, 25, 44, 45, 46, 47, 48, 49, 50, 51, 52, 53, 54, 424, 425, 426, 427, 428, 403, 404, 405, 406, 407, 408, 409, 429, 423] rfl (by decide +kernel)
set_option maxRecDepth 20000 in
theorem gL_law_X3_apply : GoodIn wsL_law (wsV RL 53 RX3 yX3_apply wsX3_apply) := goodIn_app (goodIn_of _ (by decide +kernel)) ggL_law_X3_apply
set_option maxRecDepth 20000 in
theorem ggL_law_X4_apply : GoodIn wsL_law wsX4_apply := goodIn_r _ [342, 97, 98, 99, 5, 100, 84, 314, 315, 316, 317, 295, 296, 297, 298, 83, 343, 344, 345, 346, 76, 347, 348, 349, 350, 74, 79, 105, 106, 107, 108, 72, 138, 139, 140, 141, 109, 110, 111, 112, 75, 410, 411, 412, 413, 414, 415, 416, 417, 418, 419, 420, 421, 422] rfl (by decide +kernel)
set_option maxRecDepth 20000 in
theorem gL_law_X4_apply : GoodIn wsL_law (wsV RL 56 RX4 yX4_apply wsX4_apply) := goodIn_app (goodIn_of _ (by decide +kernel)) ggL_law_X4_apply
set_option maxRecDepth 20000 in
theorem ggL_law_X3_revert : GoodIn wsL_law wsX3_revert := goodIn_r _ [354, 89, 90, 91, 2, 92, 59, 15, 206, 207, 208, 209, 31, 13, 203, 33, 204, 205, 40, 322, 323, 324, 325, 19, 326, 327, 328, 329, 21, 330, 18, 331, 332, 26, 126, 230, 231, 232, 233, 333, 334, 335, 336, 337, 338, 127, 128, 129, 130, 27, 28, 29, 30, 12, 32, 34, 35, 36, 10, 11, 37, 17, 38, 39, 41, 42, 43, 22, 23, 24, 25, 44, 45, 46, 47, 48, 49, 50, 51, 52, 53, 54, 429, 424, 425, 426, 427, 428, 403, 404, 405, 406, 407, 408, 409, 423] rfl (by decide +kernel)
set_option maxRecDepth 20000 in
theorem gL_law_X3_revert : GoodIn wsL_law (wsV RL 57 RX3 yX3_revert wsX3_revert) := goodIn_app (goodIn_of _ (by decide +kernel)) ggL_law_X3_revert
set_option maxRecDepth 20000 in
theorem ggL_law_X4_revert : GoodIn wsL_law wsX4_revert := goodIn_r _ [358, 76, 77, 75, 97, 98, 99, 5, 100, 84, 295, 296, 297, 298, 83, 218, 219, 220, 221, 74, 343, 344, 345, 346, 347, 348, 349, 350, 79, 105, 106, 107, 108, 72, 138, 139, 140, 141, 109, 110, 111, 112, 410, 411, 412, 413, 414, 415, 416, 417, 418, 419, 420, 421, 422] rfl (by decide +kernel)
set_option maxRecDepth 20000 in
theorem gL_law_X4_revert : GoodIn wsL_law (wsV RL 60 RX4 yX4_revert wsX4_revert) := goodIn_app (goodIn_of _ (by decide +kernel)) ggL_law_X4_revert
set_option maxRecDepth 20000 in
theorem ggL_law_X3_history : GoodIn wsL_law wsX3_history := goodIn_r _ [362, 117, 118, 2, 119, 206, 207, 208, 209, 31, 13, 363, 364, 365, 366, 120, 18, 121, 122, 26, 322, 323, 324, 325, 19, 424, 425, 426, 427, 428, 403, 404, 405, 406, 407, 408, 409, 423] rfl (by decide +kernel)
set_option maxRecDepth 20000 in
theorem gL_law_X3_history : GoodIn wsL_law (wsV RL 61 RX3 yX3_history wsX3_history) := goodIn_app (goodIn_of _ (by decide +kernel)) ggL_law_X3_history
set_option maxRecDepth 20000 in
theorem ggL_law_X4_history : GoodIn wsL_law wsX4_history := goodIn_r _ [370, 83, 75, 74, 135, 136, 5, 137, 105, 106, 107, 108, 72, 410, 411, 412, 413, 414, 415, 416, 417, 418, 419, 420, 421, 422] rfl (by decide +kernel)
set_option maxRecDepth 20000 in
theorem gL_law_X4_history : GoodIn wsL_law (wsV RL 64 RX4 yX4_history wsX4_history) := goodIn_app (goodIn_of _ (by decide +kernel)) ggL_law_X4_history
set_option maxRecDepth 20000 in
theorem ggL_law_X3_report : GoodIn wsL_law wsX3_report := goodIn_r _ [374, 89, 90, 91, 2, 92, 59, 15, 237, 18, 238, 239, 240, 241, 242, 243, 152, 120, 121, 122, 26, 118, 119, 429, 424, 425, 426, 427, 428, 403, 404, 405, 406, 407, 408, 409, 423] rfl (by decide +kernel)
set_option maxRecDepth 20000 in
theorem gL_law_X3_report : GoodIn wsL_law (wsV RL 65 RX3 yX3_report wsX3_report) := goodIn_app (goodIn_of _ (by decide +kernel)) ggL_law_X3_report
set_option maxRecDepth 20000 in
theorem ggL_law_X4_report : GoodIn wsL_law wsX4_report := goodIn_r _ [378, 76, 97, 98, 99, 5, 100, 84, 105, 106, 107, 108, 72, 410, 411, 412, 413, 414, 415, 416, 417, 418, 419, 420, 421, 422] rfl (by decide +kernel)
set_option maxRecDepth 20000 in
theorem gL_law_X4_report : GoodIn wsL_law (wsV RL 68 RX4 yX4_report wsX4_report) := goodIn_app (goodIn_of _ (by decide +kernel)) ggL_law_X4_report
set_option maxRecDepth 20000 in
theorem ggL_law_X3_list : GoodIn wsL_law wsX3_list := goodIn_r _ [382, 89, 90, 91, 2, 92, 59, 15, 277, 18, 278, 279, 26, 280, 281, 282, 283, 284, 285, 286, 287, 288, 289, 290, 152, 120, 121, 122, 118, 119, 429, 424, 425, 426, 427, 428, 403, 404, 405, 406, 407, 408, 409, 423] rfl (by decide +kernel)
set_option maxRecDepth 20000 in
theorem gL_law_X3_list : GoodIn wsL_law (wsV RL 69 RX3 yX3_list wsX3_list) := goodIn_app (goodIn_of _ (by decide +kernel)) ggL_law_X3_list
set_option maxRecDepth 20000 in
theorem ggL_law_X4_list : GoodIn wsL_law wsX4_list := goodIn_r _ [386, 76, 97, 98, 99, 5, 100, 84, 105, 106, 107, 108, 72, 410, 411, 412, 413, 414, 415, 416, 417, 418, 419, 420, 421, 422] rfl (by decide +kernel)
set_option maxRecDepth 20000 in
theorem gL_law_X4_list : GoodIn wsL_law (wsV RL 72 RX4 yX4_list wsX4_list) := goodIn_app (goodIn_of _ (by decide +kernel)) ggL_law_X4_list
set_option maxRecDepth 20000 in
theorem ggL_law_X3_versions : GoodIn wsL_law wsX3_versions := goodIn_r _ [390, 31, 403, 404, 405, 406, 407, 408, 409] rfl (by decide +kernel)
set_option maxRecDepth 20000 in
theorem gL_law_X3_versions : GoodIn wsL_law (wsV RL 73 RX3 yX3_versions wsX3_versions) := goodIn_app (goodIn_of _ (by decide +kernel)) ggL_law_X3_versions
set_option maxRecDepth 20000 in
theorem ggL_law_X4_versions : GoodIn wsL_law wsX4_versions := goodIn_r _ [394, 83, 410, 411, 412, 413, 414, 415, 416, 417, 418, 419, 420, 421, 422] rfl (by decide +kernel)
set_option maxRecDepth 20000 in
theorem gL_law_X4_versions : GoodIn wsL_law (wsV RL 77 RX4 yX4_versions wsX4_versions) := goodIn_app (goodIn_of _ (by decide +kernel)) ggL_law_X4_versions
set_option maxRecDepth 20000 in
theorem ggL_law_X3_branches : GoodIn wsL_law wsX3_branches := goodIn_r _ [398, 59, 403, 404, 405, 406, 407, 408, 409] rfl (by decide +kernel)
set_option maxRecDepth 20000 in
theorem gL_law_X3_branches : GoodIn wsL_law (wsV RL 78 RX3 yX3_branches wsX3_branches) := goodIn_app (goodIn_of _ (by decide +kernel)) ggL_law_X3_branches
set_option maxRecDepth 20000 in
theorem ggL_law_X4_branches : GoodIn wsL_law wsX4_branches := goodIn_r _ [402, 84, 410, 411, 412, 413, 414, 415, 416, 417, 418, 419, 420, 421, 422] rfl (by decide +kernel)
set_option maxRecDepth 20000 in
theorem gL_law_X4_branches : GoodIn wsL_law (wsV RL 81 RX4 yX4_branches wsX4_branches) := goodIn_app (goodIn_of _ (by decide +kernel)) ggL_law_X4_branches
theorem dL_law_0 : decode cL_law 0 = .ok (.new 7, 3) := by decide +kernel
theorem dL_law_3 : decode cL_law 3 = .ok (.dup, 1) := by decide +kernel
theorem dL_law_4 : decode cL_law 4 = .ok (.invokespecial 9, 3) := by decide +kernel
theorem dL_law_7 : decode cL_law 7 = .ok (.astore_n 1, 1) := by decide +kernel
theorem dL_law_8 : decode cL_law 8 = .ok (.new 10, 3) := by decide +kernel
theorem dL_law_11 : decode cL_law 11 = .ok (.dup, 1) := by decide +kernel
theorem dL_law_12 : decode cL_law 12 = .ok (.invokespecial 12, 3) := by decide +kernel
theorem dL_law_15 : decode cL_law 15 = .ok (.astore_n 2, 1) := by decide +kernel
theorem dL_law_16 : decode cL_law 16 = .ok (.iconst 0, 1) := by decide +kernel
theorem dL_law_17 : decode cL_law 17 = .ok (.istore_n 3, 1) := by decide +kernel
theorem dL_law_18 : decode cL_law 18 = .ok (.iload_n 3, 1) := by decide +kernel
theorem dL_law_19 : decode cL_law 19 = .ok (.aload_n 0, 1) := by decide +kernel
theorem dL_law_20 : decode cL_law 20 = .ok (.arraylength, 1) := by decide +kernel
theorem dL_law_21 : decode cL_law 21 = .ok (.iconst 4, 1) := by decide +kernel
theorem dL_law_22 : decode cL_law 22 = .ok (.isub, 1) := by decide +kernel
theorem dL_law_23 : decode cL_law 23 = .ok (.if_icmp .gt 589, 3) := by decide +kernel
theorem dL_law_26 : decode cL_law 26 = .ok (.aload_n 0, 1) := by decide +kernel
theorem dL_law_27 : decode cL_law 27 = .ok (.iload_n 3, 1) := by decide +kernel
theorem dL_law_28 : decode cL_law 28 = .ok (.iaload, 1) := by decide +kernel
theorem dL_law_29 : decode cL_law 29 = .ok (.bipush 15, 2) := by decide +kernel
theorem dL_law_31 : decode cL_law 31 = .ok (.iand, 1) := by decide +kernel
theorem dL_law_32 : decode cL_law 32 = .ok (.tableswitch 574 0 15 #[80, 103, 162, 205, 228, 261, 294, 327, 370, 393, 426, 459, 492, 515, 548, 561], 80) := by decide +kernel
theorem dL_law_112 : decode cL_law 112 = .ok (.aload_n 1, 1) := by decide +kernel
theorem dL_law_113 : decode cL_law 113 = .ok (.aload_n 0, 1) := by decide +kernel
theorem dL_law_114 : decode cL_law 114 = .ok (.iload_n 3, 1) := by decide +kernel
theorem dL_law_115 : decode cL_law 115 = .ok (.iconst 1, 1) := by decide +kernel
theorem dL_law_116 : decode cL_law 116 = .ok (.iadd, 1) := by decide +kernel
theorem dL_law_117 : decode cL_law 117 = .ok (.iaload, 1) := by decide +kernel
theorem dL_law_118 : decode cL_law 118 = .ok (.invokevirtual 13, 3) := by decide +kernel
theorem dL_law_121 : decode cL_law 121 = .ok (.pop, 1) := by decide +kernel
theorem dL_law_122 : decode cL_law 122 = .ok (.aload_n 2, 1) := by decide +kernel
theorem dL_law_123 : decode cL_law 123 = .ok (.aload_n 0, 1) := by decide +kernel
theorem dL_law_124 : decode cL_law 124 = .ok (.iload_n 3, 1) := by decide +kernel
theorem dL_law_125 : decode cL_law 125 = .ok (.iconst 1, 1) := by decide +kernel
theorem dL_law_126 : decode cL_law 126 = .ok (.iadd, 1) := by decide +kernel
theorem dL_law_127 : decode cL_law 127 = .ok (.iaload, 1) := by decide +kernel
theorem dL_law_128 : decode cL_law 128 = .ok (.invokevirtual 17, 3) := by decide +kernel
theorem dL_law_131 : decode cL_law 131 = .ok (.pop, 1) := by decide +kernel
theorem dL_law_132 : decode cL_law 132 = .ok (.goto 474, 3) := by decide +kernel
theorem dL_law_135 : decode cL_law 135 = .ok (.aload_n 1, 1) := by decide +kernel
theorem dL_law_136 : decode cL_law 136 = .ok (.aload_n 0, 1) := by decide +kernel
theorem dL_law_137 : decode cL_law 137 = .ok (.iload_n 3, 1) := by decide +kernel
theorem dL_law_138 : decode cL_law 138 = .ok (.iconst 1, 1) := by decide +kernel
theorem dL_law_139 : decode cL_law 139 = .ok (.iadd, 1) := by decide +kernel
theorem dL_law_140 : decode cL_law 140 = .ok (.iaload, 1) := by decide +kernel
theorem dL_law_141 : decode cL_law 141 = .ok (.aload_n 0, 1) := by decide +kernel
theorem dL_law_142 : decode cL_law 142 = .ok (.iload_n 3, 1) := by decide +kernel
theorem dL_law_143 : decode cL_law 143 = .ok (.iconst 2, 1) := by decide +kernel
theorem dL_law_144 : decode cL_law 144 = .ok (.iadd, 1) := by decide +kernel
theorem dL_law_145 : decode cL_law 145 = .ok (.iaload, 1) := by decide +kernel
theorem dL_law_146 : decode cL_law 146 = .ok (.aload_n 0, 1) := by decide +kernel
theorem dL_law_147 : decode cL_law 147 = .ok (.iload_n 3, 1) := by decide +kernel
theorem dL_law_148 : decode cL_law 148 = .ok (.iconst 3, 1) := by decide +kernel
theorem dL_law_149 : decode cL_law 149 = .ok (.iadd, 1) := by decide +kernel
theorem dL_law_150 : decode cL_law 150 = .ok (.iaload, 1) := by decide +kernel
theorem dL_law_151 : decode cL_law 151 = .ok (.ifCond .eq 7, 3) := by decide +kernel
theorem dL_law_154 : decode cL_law 154 = .ok (.iconst 1, 1) := by decide +kernel
theorem dL_law_155 : decode cL_law 155 = .ok (.goto 4, 3) := by decide +kernel
theorem dL_law_158 : decode cL_law 158 = .ok (.iconst 0, 1) := by decide +kernel
theorem dL_law_159 : decode cL_law 159 = .ok (.invokevirtual 18, 3) := by decide +kernel
theorem dL_law_162 : decode cL_law 162 = .ok (.pop, 1) := by decide +kernel
theorem dL_law_163 : decode cL_law 163 = .ok (.aload_n 2, 1) := by decide +kernel
theorem dL_law_164 : decode cL_law 164 = .ok (.aload_n 0, 1) := by decide +kernel
theorem dL_law_165 : decode cL_law 165 = .ok (.iload_n 3, 1) := by decide +kernel
theorem dL_law_166 : decode cL_law 166 = .ok (.iconst 1, 1) := by decide +kernel
theorem dL_law_167 : decode cL_law 167 = .ok (.iadd, 1) := by decide +kernel
theorem dL_law_168 : decode cL_law 168 = .ok (.iaload, 1) := by decide +kernel
theorem dL_law_169 : decode cL_law 169 = .ok (.aload_n 0, 1) := by decide +kernel
theorem dL_law_170 : decode cL_law 170 = .ok (.iload_n 3, 1) := by decide +kernel
theorem dL_law_171 : decode cL_law 171 = .ok (.iconst 2, 1) := by decide +kernel
theorem dL_law_172 : decode cL_law 172 = .ok (.iadd, 1) := by decide +kernel
theorem dL_law_173 : decode cL_law 173 = .ok (.iaload, 1) := by decide +kernel
theorem dL_law_174 : decode cL_law 174 = .ok (.aload_n 0, 1) := by decide +kernel
theorem dL_law_175 : decode cL_law 175 = .ok (.iload_n 3, 1) := by decide +kernel
theorem dL_law_176 : decode cL_law 176 = .ok (.iconst 3, 1) := by decide +kernel
theorem dL_law_177 : decode cL_law 177 = .ok (.iadd, 1) := by decide +kernel
theorem dL_law_178 : decode cL_law 178 = .ok (.iaload, 1) := by decide +kernel
theorem dL_law_179 : decode cL_law 179 = .ok (.ifCond .eq 7, 3) := by decide +kernel
theorem dL_law_182 : decode cL_law 182 = .ok (.iconst 1, 1) := by decide +kernel
theorem dL_law_183 : decode cL_law 183 = .ok (.goto 4, 3) := by decide +kernel
theorem dL_law_186 : decode cL_law 186 = .ok (.iconst 0, 1) := by decide +kernel
theorem dL_law_187 : decode cL_law 187 = .ok (.invokevirtual 22, 3) := by decide +kernel
theorem dL_law_190 : decode cL_law 190 = .ok (.pop, 1) := by decide +kernel
theorem dL_law_191 : decode cL_law 191 = .ok (.goto 415, 3) := by decide +kernel
theorem dL_law_194 : decode cL_law 194 = .ok (.aload_n 1, 1) := by decide +kernel
theorem dL_law_195 : decode cL_law 195 = .ok (.aload_n 0, 1) := by decide +kernel
theorem dL_law_196 : decode cL_law 196 = .ok (.iload_n 3, 1) := by decide +kernel
theorem dL_law_197 : decode cL_law 197 = .ok (.iconst 1, 1) := by decide +kernel
theorem dL_law_198 : decode cL_law 198 = .ok (.iadd, 1) := by decide +kernel
theorem dL_law_199 : decode cL_law 199 = .ok (.iaload, 1) := by decide +kernel
theorem dL_law_200 : decode cL_law 200 = .ok (.aload_n 0, 1) := by decide +kernel
theorem dL_law_201 : decode cL_law 201 = .ok (.iload_n 3, 1) := by decide +kernel
theorem dL_law_202 : decode cL_law 202 = .ok (.iconst 2, 1) := by decide +kernel
theorem dL_law_203 : decode cL_law 203 = .ok (.iadd, 1) := by decide +kernel
theorem dL_law_204 : decode cL_law 204 = .ok (.iaload, 1) := by decide +kernel
theorem dL_law_205 : decode cL_law 205 = .ok (.aload_n 0, 1) := by decide +kernel
theorem dL_law_206 : decode cL_law 206 = .ok (.iload_n 3, 1) := by decide +kernel
theorem dL_law_207 : decode cL_law 207 = .ok (.iconst 3, 1) := by decide +kernel
theorem dL_law_208 : decode cL_law 208 = .ok (.iadd, 1) := by decide +kernel
theorem dL_law_209 : decode cL_law 209 = .ok (.iaload, 1) := by decide +kernel
theorem dL_law_210 : decode cL_law 210 = .ok (.invokevirtual 23, 3) := by decide +kernel
theorem dL_law_213 : decode cL_law 213 = .ok (.pop, 1) := by decide +kernel
theorem dL_law_214 : decode cL_law 214 = .ok (.aload_n 2, 1) := by decide +kernel
theorem dL_law_215 : decode cL_law 215 = .ok (.aload_n 0, 1) := by decide +kernel
theorem dL_law_216 : decode cL_law 216 = .ok (.iload_n 3, 1) := by decide +kernel
theorem dL_law_217 : decode cL_law 217 = .ok (.iconst 1, 1) := by decide +kernel
theorem dL_law_218 : decode cL_law 218 = .ok (.iadd, 1) := by decide +kernel
theorem dL_law_219 : decode cL_law 219 = .ok (.iaload, 1) := by decide +kernel
theorem dL_law_220 : decode cL_law 220 = .ok (.aload_n 0, 1) := by decide +kernel
theorem dL_law_221 : decode cL_law 221 = .ok (.iload_n 3, 1) := by decide +kernel
theorem dL_law_222 : decode cL_law 222 = .ok (.iconst 2, 1) := by decide +kernel
theorem dL_law_223 : decode cL_law 223 = .ok (.iadd, 1) := by decide +kernel
theorem dL_law_224 : decode cL_law 224 = .ok (.iaload, 1) := by decide +kernel
theorem dL_law_225 : decode cL_law 225 = .ok (.aload_n 0, 1) := by decide +kernel
theorem dL_law_226 : decode cL_law 226 = .ok (.iload_n 3, 1) := by decide +kernel
theorem dL_law_227 : decode cL_law 227 = .ok (.iconst 3, 1) := by decide +kernel
theorem dL_law_228 : decode cL_law 228 = .ok (.iadd, 1) := by decide +kernel
theorem dL_law_229 : decode cL_law 229 = .ok (.iaload, 1) := by decide +kernel
theorem dL_law_230 : decode cL_law 230 = .ok (.invokevirtual 27, 3) := by decide +kernel
theorem dL_law_233 : decode cL_law 233 = .ok (.pop, 1) := by decide +kernel
theorem dL_law_234 : decode cL_law 234 = .ok (.goto 372, 3) := by decide +kernel
theorem dL_law_237 : decode cL_law 237 = .ok (.aload_n 1, 1) := by decide +kernel
theorem dL_law_238 : decode cL_law 238 = .ok (.aload_n 0, 1) := by decide +kernel
theorem dL_law_239 : decode cL_law 239 = .ok (.iload_n 3, 1) := by decide +kernel
theorem dL_law_240 : decode cL_law 240 = .ok (.iconst 1, 1) := by decide +kernel
theorem dL_law_241 : decode cL_law 241 = .ok (.iadd, 1) := by decide +kernel
theorem dL_law_242 : decode cL_law 242 = .ok (.iaload, 1) := by decide +kernel
theorem dL_law_243 : decode cL_law 243 = .ok (.invokevirtual 28, 3) := by decide +kernel
theorem dL_law_246 : decode cL_law 246 = .ok (.pop, 1) := by decide +kernel
theorem dL_law_247 : decode cL_law 247 = .ok (.aload_n 2, 1) := by decide +kernel
theorem dL_law_248 : decode cL_law 248 = .ok (.aload_n 0, 1) := by decide +kernel
theorem dL_law_249 : decode cL_law 249 = .ok (.iload_n 3, 1) := by decide +kernel
theorem dL_law_250 : decode cL_law 250 = .ok (.iconst 1, 1) := by decide +kernel
theorem dL_law_251 : decode cL_law 251 = .ok (.iadd, 1) := by decide +kernel
theorem dL_law_252 : decode cL_law 252 = .ok (.iaload, 1) := by decide +kernel
theorem dL_law_253 : decode cL_law 253 = .ok (.invokevirtual 31, 3) := by decide +kernel
theorem dL_law_256 : decode cL_law 256 = .ok (.pop, 1) := by decide +kernel
theorem dL_law_257 : decode cL_law 257 = .ok (.goto 349, 3) := by decide +kernel
theorem dL_law_260 : decode cL_law 260 = .ok (.aload_n 1, 1) := by decide +kernel
theorem dL_law_261 : decode cL_law 261 = .ok (.aload_n 0, 1) := by decide +kernel
theorem dL_law_262 : decode cL_law 262 = .ok (.iload_n 3, 1) := by decide +kernel
theorem dL_law_263 : decode cL_law 263 = .ok (.iconst 1, 1) := by decide +kernel
theorem dL_law_264 : decode cL_law 264 = .ok (.iadd, 1) := by decide +kernel
theorem dL_law_265 : decode cL_law 265 = .ok (.iaload, 1) := by decide +kernel
theorem dL_law_266 : decode cL_law 266 = .ok (.aload_n 0, 1) := by decide +kernel
theorem dL_law_267 : decode cL_law 267 = .ok (.iload_n 3, 1) := by decide +kernel
theorem dL_law_268 : decode cL_law 268 = .ok (.iconst 2, 1) := by decide +kernel
theorem dL_law_269 : decode cL_law 269 = .ok (.iadd, 1) := by decide +kernel
theorem dL_law_270 : decode cL_law 270 = .ok (.iaload, 1) := by decide +kernel
theorem dL_law_271 : decode cL_law 271 = .ok (.invokevirtual 32, 3) := by decide +kernel
theorem dL_law_274 : decode cL_law 274 = .ok (.pop, 1) := by decide +kernel
theorem dL_law_275 : decode cL_law 275 = .ok (.aload_n 2, 1) := by decide +kernel
theorem dL_law_276 : decode cL_law 276 = .ok (.aload_n 0, 1) := by decide +kernel
theorem dL_law_277 : decode cL_law 277 = .ok (.iload_n 3, 1) := by decide +kernel
theorem dL_law_278 : decode cL_law 278 = .ok (.iconst 1, 1) := by decide +kernel
theorem dL_law_279 : decode cL_law 279 = .ok (.iadd, 1) := by decide +kernel
theorem dL_law_280 : decode cL_law 280 = .ok (.iaload, 1) := by decide +kernel
theorem dL_law_281 : decode cL_law 281 = .ok (.aload_n 0, 1) := by decide +kernel
theorem dL_law_282 : decode cL_law 282 = .ok (.iload_n 3, 1) := by decide +kernel
theorem dL_law_283 : decode cL_law 283 = .ok (.iconst 2, 1) := by decide +kernel
theorem dL_law_284 : decode cL_law 284 = .ok (.iadd, 1) := by decide +kernel
theorem dL_law_285 : decode cL_law 285 = .ok (.iaload, 1) := by decide +kernel
theorem dL_law_286 : decode cL_law 286 = .ok (.invokevirtual 36, 3) := by decide +kernel
theorem dL_law_289 : decode cL_law 289 = .ok (.pop, 1) := by decide +kernel
theorem dL_law_290 : decode cL_law 290 = .ok (.goto 316, 3) := by decide +kernel
theorem dL_law_293 : decode cL_law 293 = .ok (.aload_n 1, 1) := by decide +kernel
theorem dL_law_294 : decode cL_law 294 = .ok (.aload_n 0, 1) := by decide +kernel
theorem dL_law_295 : decode cL_law 295 = .ok (.iload_n 3, 1) := by decide +kernel
theorem dL_law_296 : decode cL_law 296 = .ok (.iconst 1, 1) := by decide +kernel
theorem dL_law_297 : decode cL_law 297 = .ok (.iadd, 1) := by decide +kernel
theorem dL_law_298 : decode cL_law 298 = .ok (.iaload, 1) := by decide +kernel
theorem dL_law_299 : decode cL_law 299 = .ok (.aload_n 0, 1) := by decide +kernel
theorem dL_law_300 : decode cL_law 300 = .ok (.iload_n 3, 1) := by decide +kernel
theorem dL_law_301 : decode cL_law 301 = .ok (.iconst 2, 1) := by decide +kernel
theorem dL_law_302 : decode cL_law 302 = .ok (.iadd, 1) := by decide +kernel
theorem dL_law_303 : decode cL_law 303 = .ok (.iaload, 1) := by decide +kernel
theorem dL_law_304 : decode cL_law 304 = .ok (.invokevirtual 37, 3) := by decide +kernel
theorem dL_law_307 : decode cL_law 307 = .ok (.pop, 1) := by decide +kernel
theorem dL_law_308 : decode cL_law 308 = .ok (.aload_n 2, 1) := by decide +kernel
theorem dL_law_309 : decode cL_law 309 = .ok (.aload_n 0, 1) := by decide +kernel
theorem dL_law_310 : decode cL_law 310 = .ok (.iload_n 3, 1) := by decide +kernel
theorem dL_law_311 : decode cL_law 311 = .ok (.iconst 1, 1) := by decide +kernel
theorem dL_law_312 : decode cL_law 312 = .ok (.iadd, 1) := by decide +kernel
theorem dL_law_313 : decode cL_law 313 = .ok (.iaload, 1) := by decide +kernel
theorem dL_law_314 : decode cL_law 314 = .ok (.aload_n 0, 1) := by decide +kernel
theorem dL_law_315 : decode cL_law 315 = .ok (.iload_n 3, 1) := by decide +kernel
theorem dL_law_316 : decode cL_law 316 = .ok (.iconst 2, 1) := by decide +kernel
theorem dL_law_317 : decode cL_law 317 = .ok (.iadd, 1) := by decide +kernel
theorem dL_law_318 : decode cL_law 318 = .ok (.iaload, 1) := by decide +kernel
theorem dL_law_319 : decode cL_law 319 = .ok (.invokevirtual 40, 3) := by decide +kernel
theorem dL_law_322 : decode cL_law 322 = .ok (.pop, 1) := by decide +kernel
theorem dL_law_323 : decode cL_law 323 = .ok (.goto 283, 3) := by decide +kernel
theorem dL_law_326 : decode cL_law 326 = .ok (.aload_n 1, 1) := by decide +kernel
theorem dL_law_327 : decode cL_law 327 = .ok (.aload_n 0, 1) := by decide +kernel
theorem dL_law_328 : decode cL_law 328 = .ok (.iload_n 3, 1) := by decide +kernel
theorem dL_law_329 : decode cL_law 329 = .ok (.iconst 1, 1) := by decide +kernel
theorem dL_law_330 : decode cL_law 330 = .ok (.iadd, 1) := by decide +kernel
theorem dL_law_331 : decode cL_law 331 = .ok (.iaload, 1) := by decide +kernel
theorem dL_law_332 : decode cL_law 332 = .ok (.aload_n 0, 1) := by decide +kernel
theorem dL_law_333 : decode cL_law 333 = .ok (.iload_n 3, 1) := by decide +kernel
theorem dL_law_334 : decode cL_law 334 = .ok (.iconst 2, 1) := by decide +kernel
theorem dL_law_335 : decode cL_law 335 = .ok (.iadd, 1) := by decide +kernel
theorem dL_law_336 : decode cL_law 336 = .ok (.iaload, 1) := by decide +kernel
theorem dL_law_337 : decode cL_law 337 = .ok (.invokevirtual 41, 3) := by decide +kernel
theorem dL_law_340 : decode cL_law 340 = .ok (.pop, 1) := by decide +kernel
theorem dL_law_341 : decode cL_law 341 = .ok (.aload_n 2, 1) := by decide +kernel
theorem dL_law_342 : decode cL_law 342 = .ok (.aload_n 0, 1) := by decide +kernel
theorem dL_law_343 : decode cL_law 343 = .ok (.iload_n 3, 1) := by decide +kernel
theorem dL_law_344 : decode cL_law 344 = .ok (.iconst 1, 1) := by decide +kernel
theorem dL_law_345 : decode cL_law 345 = .ok (.iadd, 1) := by decide +kernel
theorem dL_law_346 : decode cL_law 346 = .ok (.iaload, 1) := by decide +kernel
theorem dL_law_347 : decode cL_law 347 = .ok (.aload_n 0, 1) := by decide +kernel
theorem dL_law_348 : decode cL_law 348 = .ok (.iload_n 3, 1) := by decide +kernel
theorem dL_law_349 : decode cL_law 349 = .ok (.iconst 2, 1) := by decide +kernel
theorem dL_law_350 : decode cL_law 350 = .ok (.iadd, 1) := by decide +kernel
theorem dL_law_351 : decode cL_law 351 = .ok (.iaload, 1) := by decide +kernel
theorem dL_law_352 : decode cL_law 352 = .ok (.invokevirtual 44, 3) := by decide +kernel
theorem dL_law_355 : decode cL_law 355 = .ok (.pop, 1) := by decide +kernel
theorem dL_law_356 : decode cL_law 356 = .ok (.goto 250, 3) := by decide +kernel
theorem dL_law_359 : decode cL_law 359 = .ok (.aload_n 1, 1) := by decide +kernel
theorem dL_law_360 : decode cL_law 360 = .ok (.aload_n 0, 1) := by decide +kernel
theorem dL_law_361 : decode cL_law 361 = .ok (.iload_n 3, 1) := by decide +kernel
theorem dL_law_362 : decode cL_law 362 = .ok (.iconst 1, 1) := by decide +kernel
theorem dL_law_363 : decode cL_law 363 = .ok (.iadd, 1) := by decide +kernel
theorem dL_law_364 : decode cL_law 364 = .ok (.iaload, 1) := by decide +kernel
theorem dL_law_365 : decode cL_law 365 = .ok (.aload_n 0, 1) := by decide +kernel
theorem dL_law_366 : decode cL_law 366 = .ok (.iload_n 3, 1) := by decide +kernel
theorem dL_law_367 : decode cL_law 367 = .ok (.iconst 2, 1) := by decide +kernel
theorem dL_law_368 : decode cL_law 368 = .ok (.iadd, 1) := by decide +kernel
theorem dL_law_369 : decode cL_law 369 = .ok (.iaload, 1) := by decide +kernel
theorem dL_law_370 : decode cL_law 370 = .ok (.aload_n 0, 1) := by decide +kernel
theorem dL_law_371 : decode cL_law 371 = .ok (.iload_n 3, 1) := by decide +kernel
theorem dL_law_372 : decode cL_law 372 = .ok (.iconst 3, 1) := by decide +kernel
theorem dL_law_373 : decode cL_law 373 = .ok (.iadd, 1) := by decide +kernel
theorem dL_law_374 : decode cL_law 374 = .ok (.iaload, 1) := by decide +kernel
theorem dL_law_375 : decode cL_law 375 = .ok (.invokevirtual 45, 3) := by decide +kernel
theorem dL_law_378 : decode cL_law 378 = .ok (.pop, 1) := by decide +kernel
theorem dL_law_379 : decode cL_law 379 = .ok (.aload_n 2, 1) := by decide +kernel
theorem dL_law_380 : decode cL_law 380 = .ok (.aload_n 0, 1) := by decide +kernel
theorem dL_law_381 : decode cL_law 381 = .ok (.iload_n 3, 1) := by decide +kernel
theorem dL_law_382 : decode cL_law 382 = .ok (.iconst 1, 1) := by decide +kernel
theorem dL_law_383 : decode cL_law 383 = .ok (.iadd, 1) := by decide +kernel
theorem dL_law_384 : decode cL_law 384 = .ok (.iaload, 1) := by decide +kernel
theorem dL_law_385 : decode cL_law 385 = .ok (.aload_n 0, 1) := by decide +kernel
theorem dL_law_386 : decode cL_law 386 = .ok (.iload_n 3, 1) := by decide +kernel
theorem dL_law_387 : decode cL_law 387 = .ok (.iconst 2, 1) := by decide +kernel
theorem dL_law_388 : decode cL_law 388 = .ok (.iadd, 1) := by decide +kernel
theorem dL_law_389 : decode cL_law 389 = .ok (.iaload, 1) := by decide +kernel
theorem dL_law_390 : decode cL_law 390 = .ok (.aload_n 0, 1) := by decide +kernel
theorem dL_law_391 : decode cL_law 391 = .ok (.iload_n 3, 1) := by decide +kernel
theorem dL_law_392 : decode cL_law 392 = .ok (.iconst 3, 1) := by decide +kernel
theorem dL_law_393 : decode cL_law 393 = .ok (.iadd, 1) := by decide +kernel
theorem dL_law_394 : decode cL_law 394 = .ok (.iaload, 1) := by decide +kernel
theorem dL_law_395 : decode cL_law 395 = .ok (.invokevirtual 48, 3) := by decide +kernel
theorem dL_law_398 : decode cL_law 398 = .ok (.pop, 1) := by decide +kernel
theorem dL_law_399 : decode cL_law 399 = .ok (.goto 207, 3) := by decide +kernel
theorem dL_law_402 : decode cL_law 402 = .ok (.aload_n 1, 1) := by decide +kernel
theorem dL_law_403 : decode cL_law 403 = .ok (.aload_n 0, 1) := by decide +kernel
theorem dL_law_404 : decode cL_law 404 = .ok (.iload_n 3, 1) := by decide +kernel
theorem dL_law_405 : decode cL_law 405 = .ok (.iconst 1, 1) := by decide +kernel
theorem dL_law_406 : decode cL_law 406 = .ok (.iadd, 1) := by decide +kernel
theorem dL_law_407 : decode cL_law 407 = .ok (.iaload, 1) := by decide +kernel
theorem dL_law_408 : decode cL_law 408 = .ok (.invokevirtual 49, 3) := by decide +kernel
theorem dL_law_411 : decode cL_law 411 = .ok (.pop, 1) := by decide +kernel
theorem dL_law_412 : decode cL_law 412 = .ok (.aload_n 2, 1) := by decide +kernel
theorem dL_law_413 : decode cL_law 413 = .ok (.aload_n 0, 1) := by decide +kernel
theorem dL_law_414 : decode cL_law 414 = .ok (.iload_n 3, 1) := by decide +kernel
theorem dL_law_415 : decode cL_law 415 = .ok (.iconst 1, 1) := by decide +kernel
theorem dL_law_416 : decode cL_law 416 = .ok (.iadd, 1) := by decide +kernel
theorem dL_law_417 : decode cL_law 417 = .ok (.iaload, 1) := by decide +kernel
theorem dL_law_418 : decode cL_law 418 = .ok (.invokevirtual 52, 3) := by decide +kernel
theorem dL_law_421 : decode cL_law 421 = .ok (.pop, 1) := by decide +kernel
theorem dL_law_422 : decode cL_law 422 = .ok (.goto 184, 3) := by decide +kernel
theorem dL_law_425 : decode cL_law 425 = .ok (.aload_n 1, 1) := by decide +kernel
theorem dL_law_426 : decode cL_law 426 = .ok (.aload_n 0, 1) := by decide +kernel
theorem dL_law_427 : decode cL_law 427 = .ok (.iload_n 3, 1) := by decide +kernel
theorem dL_law_428 : decode cL_law 428 = .ok (.iconst 1, 1) := by decide +kernel
theorem dL_law_429 : decode cL_law 429 = .ok (.iadd, 1) := by decide +kernel
theorem dL_law_430 : decode cL_law 430 = .ok (.iaload, 1) := by decide +kernel
theorem dL_law_431 : decode cL_law 431 = .ok (.aload_n 0, 1) := by decide +kernel
theorem dL_law_432 : decode cL_law 432 = .ok (.iload_n 3, 1) := by decide +kernel
theorem dL_law_433 : decode cL_law 433 = .ok (.iconst 2, 1) := by decide +kernel
theorem dL_law_434 : decode cL_law 434 = .ok (.iadd, 1) := by decide +kernel
theorem dL_law_435 : decode cL_law 435 = .ok (.iaload, 1) := by decide +kernel
theorem dL_law_436 : decode cL_law 436 = .ok (.invokevirtual 53, 3) := by decide +kernel
theorem dL_law_439 : decode cL_law 439 = .ok (.pop, 1) := by decide +kernel
theorem dL_law_440 : decode cL_law 440 = .ok (.aload_n 2, 1) := by decide +kernel
theorem dL_law_441 : decode cL_law 441 = .ok (.aload_n 0, 1) := by decide +kernel
theorem dL_law_442 : decode cL_law 442 = .ok (.iload_n 3, 1) := by decide +kernel
theorem dL_law_443 : decode cL_law 443 = .ok (.iconst 1, 1) := by decide +kernel
theorem dL_law_444 : decode cL_law 444 = .ok (.iadd, 1) := by decide +kernel
theorem dL_law_445 : decode cL_law 445 = .ok (.iaload, 1) := by decide +kernel
theorem dL_law_446 : decode cL_law 446 = .ok (.aload_n 0, 1) := by decide +kernel
theorem dL_law_447 : decode cL_law 447 = .ok (.iload_n 3, 1) := by decide +kernel
theorem dL_law_448 : decode cL_law 448 = .ok (.iconst 2, 1) := by decide +kernel
theorem dL_law_449 : decode cL_law 449 = .ok (.iadd, 1) := by decide +kernel
theorem dL_law_450 : decode cL_law 450 = .ok (.iaload, 1) := by decide +kernel
theorem dL_law_451 : decode cL_law 451 = .ok (.invokevirtual 56, 3) := by decide +kernel
theorem dL_law_454 : decode cL_law 454 = .ok (.pop, 1) := by decide +kernel
theorem dL_law_455 : decode cL_law 455 = .ok (.goto 151, 3) := by decide +kernel
theorem dL_law_458 : decode cL_law 458 = .ok (.aload_n 1, 1) := by decide +kernel
theorem dL_law_459 : decode cL_law 459 = .ok (.aload_n 0, 1) := by decide +kernel
theorem dL_law_460 : decode cL_law 460 = .ok (.iload_n 3, 1) := by decide +kernel
theorem dL_law_461 : decode cL_law 461 = .ok (.iconst 1, 1) := by decide +kernel
theorem dL_law_462 : decode cL_law 462 = .ok (.iadd, 1) := by decide +kernel
theorem dL_law_463 : decode cL_law 463 = .ok (.iaload, 1) := by decide +kernel
theorem dL_law_464 : decode cL_law 464 = .ok (.aload_n 0, 1) := by decide +kernel
theorem dL_law_465 : decode cL_law 465 = .ok (.iload_n 3, 1) := by decide +kernel
theorem dL_law_466 : decode cL_law 466 = .ok (.iconst 2, 1) := by decide +kernel
theorem dL_law_467 : decode cL_law 467 = .ok (.iadd, 1) := by decide +kernel
theorem dL_law_468 : decode cL_law 468 = .ok (.iaload, 1) := by decide +kernel
theorem dL_law_469 : decode cL_law 469 = .ok (.invokevirtual 57, 3) := by decide +kernel
theorem dL_law_472 : decode cL_law 472 = .ok (.pop, 1) := by decide +kernel
theorem dL_law_473 : decode cL_law 473 = .ok (.aload_n 2, 1) := by decide +kernel
theorem dL_law_474 : decode cL_law 474 = .ok (.aload_n 0, 1) := by decide +kernel
theorem dL_law_475 : decode cL_law 475 = .ok (.iload_n 3, 1) := by decide +kernel
theorem dL_law_476 : decode cL_law 476 = .ok (.iconst 1, 1) := by decide +kernel
theorem dL_law_477 : decode cL_law 477 = .ok (.iadd, 1) := by decide +kernel
theorem dL_law_478 : decode cL_law 478 = .ok (.iaload, 1) := by decide +kernel
theorem dL_law_479 : decode cL_law 479 = .ok (.aload_n 0, 1) := by decide +kernel
theorem dL_law_480 : decode cL_law 480 = .ok (.iload_n 3, 1) := by decide +kernel
theorem dL_law_481 : decode cL_law 481 = .ok (.iconst 2, 1) := by decide +kernel
theorem dL_law_482 : decode cL_law 482 = .ok (.iadd, 1) := by decide +kernel
theorem dL_law_483 : decode cL_law 483 = .ok (.iaload, 1) := by decide +kernel
theorem dL_law_484 : decode cL_law 484 = .ok (.invokevirtual 60, 3) := by decide +kernel
theorem dL_law_487 : decode cL_law 487 = .ok (.pop, 1) := by decide +kernel
theorem dL_law_488 : decode cL_law 488 = .ok (.goto 118, 3) := by decide +kernel
theorem dL_law_491 : decode cL_law 491 = .ok (.aload_n 1, 1) := by decide +kernel
theorem dL_law_492 : decode cL_law 492 = .ok (.aload_n 0, 1) := by decide +kernel
theorem dL_law_493 : decode cL_law 493 = .ok (.iload_n 3, 1) := by decide +kernel
theorem dL_law_494 : decode cL_law 494 = .ok (.iconst 1, 1) := by decide +kernel
theorem dL_law_495 : decode cL_law 495 = .ok (.iadd, 1) := by decide +kernel
theorem dL_law_496 : decode cL_law 496 = .ok (.iaload, 1) := by decide +kernel
theorem dL_law_497 : decode cL_law 497 = .ok (.aload_n 0, 1) := by decide +kernel
theorem dL_law_498 : decode cL_law 498 = .ok (.iload_n 3, 1) := by decide +kernel
theorem dL_law_499 : decode cL_law 499 = .ok (.iconst 2, 1) := by decide +kernel
theorem dL_law_500 : decode cL_law 500 = .ok (.iadd, 1) := by decide +kernel
theorem dL_law_501 : decode cL_law 501 = .ok (.iaload, 1) := by decide +kernel
theorem dL_law_502 : decode cL_law 502 = .ok (.invokevirtual 61, 3) := by decide +kernel
theorem dL_law_505 : decode cL_law 505 = .ok (.pop, 1) := by decide +kernel
theorem dL_law_506 : decode cL_law 506 = .ok (.aload_n 2, 1) := by decide +kernel
theorem dL_law_507 : decode cL_law 507 = .ok (.aload_n 0, 1) := by decide +kernel
theorem dL_law_508 : decode cL_law 508 = .ok (.iload_n 3, 1) := by decide +kernel
theorem dL_law_509 : decode cL_law 509 = .ok (.iconst 1, 1) := by decide +kernel
theorem dL_law_510 : decode cL_law 510 = .ok (.iadd, 1) := by decide +kernel
theorem dL_law_511 : decode cL_law 511 = .ok (.iaload, 1) := by decide +kernel
theorem dL_law_512 : decode cL_law 512 = .ok (.aload_n 0, 1) := by decide +kernel
theorem dL_law_513 : decode cL_law 513 = .ok (.iload_n 3, 1) := by decide +kernel
theorem dL_law_514 : decode cL_law 514 = .ok (.iconst 2, 1) := by decide +kernel
theorem dL_law_515 : decode cL_law 515 = .ok (.iadd, 1) := by decide +kernel
theorem dL_law_516 : decode cL_law 516 = .ok (.iaload, 1) := by decide +kernel
theorem dL_law_517 : decode cL_law 517 = .ok (.invokevirtual 64, 3) := by decide +kernel
theorem dL_law_520 : decode cL_law 520 = .ok (.pop, 1) := by decide +kernel
theorem dL_law_521 : decode cL_law 521 = .ok (.goto 85, 3) := by decide +kernel
theorem dL_law_524 : decode cL_law 524 = .ok (.aload_n 1, 1) := by decide +kernel
theorem dL_law_525 : decode cL_law 525 = .ok (.aload_n 0, 1) := by decide +kernel
theorem dL_law_526 : decode cL_law 526 = .ok (.iload_n 3, 1) := by decide +kernel
theorem dL_law_527 : decode cL_law 527 = .ok (.iconst 1, 1) := by decide +kernel
theorem dL_law_528 : decode cL_law 528 = .ok (.iadd, 1) := by decide +kernel
theorem dL_law_529 : decode cL_law 529 = .ok (.iaload, 1) := by decide +kernel
theorem dL_law_530 : decode cL_law 530 = .ok (.invokevirtual 65, 3) := by decide +kernel
theorem dL_law_533 : decode cL_law 533 = .ok (.aload_n 2, 1) := by decide +kernel
theorem dL_law_534 : decode cL_law 534 = .ok (.aload_n 0, 1) := by decide +kernel
theorem dL_law_535 : decode cL_law 535 = .ok (.iload_n 3, 1) := by decide +kernel
theorem dL_law_536 : decode cL_law 536 = .ok (.iconst 1, 1) := by decide +kernel
theorem dL_law_537 : decode cL_law 537 = .ok (.iadd, 1) := by decide +kernel
theorem dL_law_538 : decode cL_law 538 = .ok (.iaload, 1) := by decide +kernel
theorem dL_law_539 : decode cL_law 539 = .ok (.invokevirtual 68, 3) := by decide +kernel
theorem dL_law_542 : decode cL_law 542 = .ok (.if_icmp .eq 64, 3) := by decide +kernel
theorem dL_law_545 : decode cL_law 545 = .ok (.iconst 0, 1) := by decide +kernel
theorem dL_law_546 : decode cL_law 546 = .ok (.ireturn, 1) := by decide +kernel
theorem dL_law_547 : decode cL_law 547 = .ok (.aload_n 1, 1) := by decide +kernel
theorem dL_law_548 : decode cL_law 548 = .ok (.aload_n 0, 1) := by decide +kernel
theorem dL_law_549 : decode cL_law 549 = .ok (.iload_n 3, 1) := by decide +kernel
theorem dL_law_550 : decode cL_law 550 = .ok (.iconst 1, 1) := by decide +kernel
theorem dL_law_551 : decode cL_law 551 = .ok (.iadd, 1) := by decide +kernel
theorem dL_law_552 : decode cL_law 552 = .ok (.iaload, 1) := by decide +kernel
theorem dL_law_553 : decode cL_law 553 = .ok (.aload_n 0, 1) := by decide +kernel
theorem dL_law_554 : decode cL_law 554 = .ok (.iload_n 3, 1) := by decide +kernel
theorem dL_law_555 : decode cL_law 555 = .ok (.iconst 2, 1) := by decide +kernel
theorem dL_law_556 : decode cL_law 556 = .ok (.iadd, 1) := by decide +kernel
theorem dL_law_557 : decode cL_law 557 = .ok (.iaload, 1) := by decide +kernel
theorem dL_law_558 : decode cL_law 558 = .ok (.invokevirtual 69, 3) := by decide +kernel
theorem dL_law_561 : decode cL_law 561 = .ok (.pop, 1) := by decide +kernel
theorem dL_law_562 : decode cL_law 562 = .ok (.aload_n 2, 1) := by decide +kernel
theorem dL_law_563 : decode cL_law 563 = .ok (.aload_n 0, 1) := by decide +kernel
theorem dL_law_564 : decode cL_law 564 = .ok (.iload_n 3, 1) := by decide +kernel
theorem dL_law_565 : decode cL_law 565 = .ok (.iconst 1, 1) := by decide +kernel
theorem dL_law_566 : decode cL_law 566 = .ok (.iadd, 1) := by decide +kernel
theorem dL_law_567 : decode cL_law 567 = .ok (.iaload, 1) := by decide +kernel
theorem dL_law_568 : decode cL_law 568 = .ok (.aload_n 0, 1) := by decide +kernel
theorem dL_law_569 : decode cL_law 569 = .ok (.iload_n 3, 1) := by decide +kernel
theorem dL_law_570 : decode cL_law 570 = .ok (.iconst 2, 1) := by decide +kernel
theorem dL_law_571 : decode cL_law 571 = .ok (.iadd, 1) := by decide +kernel
theorem dL_law_572 : decode cL_law 572 = .ok (.iaload, 1) := by decide +kernel
theorem dL_law_573 : decode cL_law 573 = .ok (.invokevirtual 72, 3) := by decide +kernel
theorem dL_law_576 : decode cL_law 576 = .ok (.pop, 1) := by decide +kernel
theorem dL_law_577 : decode cL_law 577 = .ok (.goto 29, 3) := by decide +kernel
theorem dL_law_580 : decode cL_law 580 = .ok (.aload_n 1, 1) := by decide +kernel
theorem dL_law_581 : decode cL_law 581 = .ok (.invokevirtual 73, 3) := by decide +kernel
theorem dL_law_584 : decode cL_law 584 = .ok (.pop, 1) := by decide +kernel
theorem dL_law_585 : decode cL_law 585 = .ok (.aload_n 2, 1) := by decide +kernel
theorem dL_law_586 : decode cL_law 586 = .ok (.invokevirtual 77, 3) := by decide +kernel
theorem dL_law_589 : decode cL_law 589 = .ok (.pop, 1) := by decide +kernel
theorem dL_law_590 : decode cL_law 590 = .ok (.goto 16, 3) := by decide +kernel
theorem dL_law_593 : decode cL_law 593 = .ok (.aload_n 1, 1) := by decide +kernel
theorem dL_law_594 : decode cL_law 594 = .ok (.invokevirtual 78, 3) := by decide +kernel
theorem dL_law_597 : decode cL_law 597 = .ok (.pop, 1) := by decide +kernel
theorem dL_law_598 : decode cL_law 598 = .ok (.aload_n 2, 1) := by decide +kernel
theorem dL_law_599 : decode cL_law 599 = .ok (.invokevirtual 81, 3) := by decide +kernel
theorem dL_law_602 : decode cL_law 602 = .ok (.pop, 1) := by decide +kernel
theorem dL_law_603 : decode cL_law 603 = .ok (.goto 3, 3) := by decide +kernel
theorem dL_law_606 : decode cL_law 606 = .ok (.iinc 3 4, 3) := by decide +kernel
theorem dL_law_609 : decode cL_law 609 = .ok (.goto (-591), 3) := by decide +kernel
theorem dL_law_612 : decode cL_law 612 = .ok (.iconst 1, 1) := by decide +kernel
theorem dL_law_613 : decode cL_law 613 = .ok (.ireturn, 1) := by decide +kernel
