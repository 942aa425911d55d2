/-! the words of what the law calls, among its own -/
theorem inlX0 : ∀ w ∈ wsX00, w ∈ wsL_law := fun _ h => List.mem_append_left _ (List.mem_append_left _ (List.mem_append_left _ (List.mem_append_right _ h)))
theorem inlX1 : ∀ w ∈ wsX10, w ∈ wsL_law := fun _ h => List.mem_append_left _ (List.mem_append_right _ h)
theorem inlX2 : ∀ w ∈ wsX20, w ∈ wsL_law := fun _ h => List.mem_append_left _ (List.mem_append_left _ (List.mem_append_right _ h))
theorem inlX3 : ∀ w ∈ wsX30, w ∈ wsL_law := fun _ h => List.mem_append_left _ (List.mem_append_left _ (List.mem_append_left _ (List.mem_append_left _ (List.mem_append_left _ (List.mem_append_right _ h)))))
theorem inlX4 : ∀ w ∈ wsX40, w ∈ wsL_law := fun _ h => List.mem_append_left _ (List.mem_append_left _ (List.mem_append_left _ (List.mem_append_left _ (List.mem_append_right _ h))))
set_option maxRecDepth 20000 in
theorem ggL_law_X3_init : GoodIn wsL_law wsX3_init := goodIn_r _ [8, 9, 10, 11, 12, 13, 14, 15, 16, 17, 18, 19, 20, 21, 22, 23, 24, 25, 26, 27, 28, 29, 30, 31, 32, 33, 34, 35, 36, 37, 38, 39, 40, 41, 42, 43, 44, 45, 46, 47, 48, 49, 50, 51, 52, 53, 580, 581, 582, 583, 584, 585, 586, 587, 588, 589, 590, 591, 592, 593, 555, 556, 557, 558, 559, 594, 595, 596, 597, 598, 599, 600, 601] (by decide +kernel) (by decide +kernel)
set_option maxRecDepth 20000 in
theorem gL_law_X3_init : GoodIn wsL_law (wsX3_init) := ggL_law_X3_init
set_option maxRecDepth 20000 in
theorem ggL_law_X4_init : GoodIn wsL_law wsX4_init := goodIn_r _ [56, 57, 10, 11, 27, 58, 59, 60, 61, 62, 63, 64, 65, 66, 67, 68, 69, 70, 71, 5, 72, 73, 74, 75, 76, 560, 561, 562, 563, 564, 565, 566, 567, 568, 569, 570, 571, 572, 573, 574, 575, 576, 577, 578, 579] (by decide +kernel) (by decide +kernel)
set_option maxRecDepth 20000 in
theorem gL_law_X4_init : GoodIn wsL_law (wsX4_init) := ggL_law_X4_init
set_option maxRecDepth 20000 in
theorem ggL_law_X3_put : GoodIn wsL_law wsX3_put := goodIn_r _ [80, 81, 82, 18, 83, 84, 23, 85, 86, 87, 88, 17, 89, 36, 34, 37, 42, 90, 91, 92, 93, 94, 95, 96, 97, 2, 98, 99, 100, 101, 102, 103, 104, 105, 106, 40, 107, 108, 109, 110, 111, 112, 113, 114, 115, 116, 117, 39, 118, 119, 120, 22, 121, 122, 123, 124, 125, 126, 127, 128, 129, 130, 131, 132, 133, 134, 135, 136, 137, 35, 138, 139, 140, 141, 38, 142, 143, 144, 145, 146, 147, 148, 149, 41, 150, 151, 152, 153, 154, 155, 156, 157, 158, 159, 14, 160, 161, 28, 29, 162, 163, 164, 165, 166, 167, 168, 169, 170, 171, 172, 173, 174, 175, 176, 177, 178, 179, 180, 181, 182, 183, 184, 185, 186, 187, 188, 189, 190, 191, 192, 193, 194, 195, 196, 197, 198, 199, 200, 201, 50, 51, 52, 202, 203, 204, 205, 206, 207, 53, 555, 556, 557, 558, 559, 583, 584, 585, 586, 587, 588, 589, 590, 591, 592, 593, 594, 595, 596, 597, 598, 599, 600, 601, 580, 581, 582] (by decide +kernel) (by decide +kernel)
set_option maxRecDepth 20000 in
theorem gL_law_X3_put : GoodIn wsL_law (wsV RL 13 RX3 yX3_put wsX3_put) := goodIn_app (goodIn_of _ (by decide +kernel)) ggL_law_X3_put
set_option maxRecDepth 20000 in
theorem ggL_law_X4_put : GoodIn wsL_law wsX4_put := goodIn_r _ [211, 212, 213, 73, 60, 214, 215, 216, 217, 218, 5, 219, 58, 61, 220, 221, 222, 223, 224, 75, 225, 226, 227, 228, 74, 229, 230, 231, 232, 233, 234, 235, 236, 63, 237, 238, 239, 240, 241, 242, 243, 244, 245, 246, 64, 65, 247, 248, 66, 249, 250, 251, 252, 253, 76, 59, 254, 255, 256, 257, 258, 259, 260, 261, 262, 263, 264, 265, 266, 267, 268, 269, 270, 271, 272, 273, 274, 275, 276, 277, 278, 67, 68, 279, 280, 281, 282, 283, 284, 285, 286, 287, 288, 289, 290, 560, 561, 562, 563, 564, 565, 566, 567, 568, 569, 570, 571, 572, 573, 574, 575, 576, 577, 578, 579] (by decide +kernel) (by decide +kernel)
set_option maxRecDepth 20000 in
theorem gL_law_X4_put : GoodIn wsL_law (wsV RL 17 RX4 yX4_put wsX4_put) := goodIn_app (goodIn_of _ (by decide +kernel)) ggL_law_X4_put
set_option maxRecDepth 20000 in
theorem ggL_law_X3_remove : GoodIn wsL_law wsX3_remove := goodIn_r _ [294, 18, 83, 23, 85, 86, 87, 88, 17, 89, 36, 34, 37, 42, 90, 91, 92, 93, 94, 95, 96, 97, 2, 98, 118, 119, 120, 22, 121, 122, 295, 296, 297, 298, 35, 123, 124, 125, 126, 127, 128, 129, 130, 131, 132, 133, 134, 135, 136, 137, 103, 104, 105, 106, 40, 107, 108, 109, 110, 111, 112, 113, 138, 139, 140, 141, 38, 39, 114, 115, 116, 117, 142, 143, 144, 145, 146, 147, 148, 149, 41, 150, 151, 152, 153, 154, 155, 156, 157, 158, 159, 14, 160, 161, 28, 29, 162, 163, 164, 165, 166, 167, 168, 169, 170, 171, 172, 173, 174, 175, 176, 177, 178, 179, 180, 181, 182, 183, 184, 185, 186, 187, 188, 189, 190, 191, 192, 193, 194, 195, 196, 197, 198, 199, 200, 201, 50, 51, 52, 202, 203, 204, 205, 206, 207, 53, 555, 556, 557, 558, 559, 583, 584, 585, 586, 587, 588, 589, 590, 591, 592, 593, 594, 595, 596, 597, 598, 599, 600, 601, 580, 581, 582] (by decide +kernel) (by decide +kernel)
set_option maxRecDepth 20000 in
theorem gL_law_X3_remove : GoodIn wsL_law (wsV RL 18 RX3 yX3_remove wsX3_remove) := goodIn_app (goodIn_of _ (by decide +kernel)) ggL_law_X3_remove
set_option maxRecDepth 20000 in
theorem ggL_law_X4_remove : GoodIn wsL_law wsX4_remove := goodIn_r _ [302, 73, 215, 59, 216, 217, 218, 5, 219, 60, 58, 61, 220, 221, 222, 223, 224, 75, 225, 226, 227, 228, 74, 237, 238, 239, 240, 241, 242, 243, 244, 245, 246, 64, 65, 247, 248, 66, 249, 250, 251, 252, 253, 76, 254, 255, 256, 257, 63, 229, 230, 231, 232, 258, 259, 260, 261, 262, 263, 264, 265, 266, 267, 268, 269, 270, 233, 234, 235, 236, 271, 272, 273, 274, 275, 276, 277, 278, 67, 68, 279, 280, 281, 282, 283, 284, 285, 286, 287, 288, 289, 290, 560, 561, 562, 563, 564, 565, 566, 567, 568, 569, 570, 571, 572, 573, 574, 575, 576, 577, 578, 579] (by decide +kernel) (by decide +kernel)
set_option maxRecDepth 20000 in
theorem gL_law_X4_remove : GoodIn wsL_law (wsV RL 22 RX4 yX4_remove wsX4_remove) := goodIn_app (goodIn_of _ (by decide +kernel)) ggL_law_X4_remove
set_option maxRecDepth 20000 in
theorem ggL_law_X3_get : GoodIn wsL_law wsX3_get := goodIn_r _ [306, 18, 307, 83, 86, 87, 88, 17, 89, 36, 34, 37, 42, 90, 91, 92, 93, 94, 95, 96, 97, 2, 98, 308, 309, 310, 311, 295, 296, 297, 298, 35, 555, 556, 557, 558, 559, 583, 584, 585, 586, 587, 588, 589, 590, 591, 592, 593] (by decide +kernel) (by decide +kernel)
set_option maxRecDepth 20000 in
theorem gL_law_X3_get : GoodIn wsL_law (wsV RL 23 RX3 yX3_get wsX3_get) := goodIn_app (goodIn_of _ (by decide +kernel)) ggL_law_X3_get
set_option maxRecDepth 20000 in
theorem ggL_law_X4_get : GoodIn wsL_law wsX4_get := goodIn_r _ [315, 73, 316, 60, 58, 59, 61, 220, 221, 222, 5, 223, 224, 75, 225, 226, 227, 228, 74, 560, 561, 562, 563, 564, 565, 566, 567, 568, 569, 570, 571, 572, 573, 574, 575, 576, 577, 578, 579] (by decide +kernel) (by decide +kernel)
set_option maxRecDepth 20000 in
theorem gL_law_X4_get : GoodIn wsL_law (wsV RL 26 RX4 yX4_get wsX4_get) := goodIn_app (goodIn_of _ (by decide +kernel)) ggL_law_X4_get
set_option maxRecDepth 20000 in
theorem ggL_law_X3_begin : GoodIn wsL_law wsX3_begin := goodIn_r _ [320, 23, 321, 322, 323, 324, 22, 325, 202, 326, 327, 328, 329, 122, 330, 555, 556, 557, 558, 559, 594, 595, 596, 597, 598, 599, 600, 601] (by decide +kernel) (by decide +kernel)
set_option maxRecDepth 20000 in
theorem gL_law_X3_begin : GoodIn wsL_law (wsV RL 27 RX3 yX3_begin wsX3_begin) := goodIn_app (goodIn_of _ (by decide +kernel)) ggL_law_X3_begin
set_option maxRecDepth 20000 in
theorem ggL_law_X4_begin : GoodIn wsL_law wsX4_begin := goodIn_r _ [334, 247, 335, 248, 560, 561, 562, 563, 564, 565, 566, 567, 568, 569, 570, 571, 572, 573, 574, 575, 576, 577, 578, 579] (by decide +kernel) (by decide +kernel)
set_option maxRecDepth 20000 in
theorem gL_law_X4_begin : GoodIn wsL_law (wsV RL 31 RX4 yX4_begin wsX4_begin) := goodIn_app (goodIn_of _ (by decide +kernel)) ggL_law_X4_begin
set_option maxRecDepth 20000 in
theorem ggL_law_X3_end : GoodIn wsL_law wsX3_end := goodIn_r _ [339, 23, 321, 322, 323, 324, 22, 325, 202, 340, 341, 342, 343, 122, 330, 344, 345, 346, 347, 348, 203, 204, 205, 206, 207, 53, 555, 556, 557, 558, 559, 594, 595, 596, 597, 598, 599, 600, 601] (by decide +kernel) (by decide +kernel)
set_option maxRecDepth 20000 in
theorem gL_law_X3_end : GoodIn wsL_law (wsV RL 32 RX3 yX3_end wsX3_end) := goodIn_app (goodIn_of _ (by decide +kernel)) ggL_law_X3_end
set_option maxRecDepth 20000 in
theorem ggL_law_X4_end : GoodIn wsL_law wsX4_end := goodIn_r _ [352, 247, 335, 248, 66, 249, 560, 561, 562, 563, 564, 565, 566, 567, 568, 569, 570, 571, 572, 573, 574, 575, 576, 577, 578, 579] (by decide +kernel) (by decide +kernel)
set_option maxRecDepth 20000 in
theorem gL_law_X4_end : GoodIn wsL_law (wsV RL 35 RX4 yX4_end wsX4_end) := goodIn_app (goodIn_of _ (by decide +kernel)) ggL_law_X4_end
set_option maxRecDepth 20000 in
theorem ggL_law_X3_undo : GoodIn wsL_law wsX3_undo := goodIn_r _ [356, 23, 321, 322, 323, 324, 22, 325, 202, 340, 341, 342, 343, 122, 330, 357, 358, 359, 360, 361, 362, 363, 364, 365, 366, 367, 2, 368, 127, 18, 19, 369, 370, 371, 17, 372, 34, 373, 374, 375, 376, 35, 36, 37, 38, 39, 40, 95, 96, 132, 377, 378, 379, 380, 50, 381, 382, 383, 384, 385, 386, 387, 388, 389, 51, 390, 391, 392, 393, 52, 128, 129, 130, 131, 42, 133, 87, 88, 89, 90, 91, 92, 93, 94, 97, 98, 134, 135, 136, 137, 103, 104, 105, 106, 107, 108, 109, 110, 111, 112, 113, 138, 139, 140, 141, 114, 115, 116, 117, 142, 143, 144, 145, 146, 147, 148, 149, 41, 150, 151, 152, 153, 154, 155, 156, 157, 158, 159, 14, 160, 161, 28, 29, 162, 163, 164, 165, 166, 167, 168, 169, 170, 171, 172, 173, 174, 175, 176, 177, 178, 179, 180, 181, 182, 183, 184, 185, 186, 187, 188, 189, 190, 191, 192, 193, 194, 195, 196, 197, 555, 556, 557, 558, 559, 594, 595, 596, 597, 598, 599, 600, 601, 583, 584, 585, 586, 587, 588, 589, 590, 591, 592, 593, 580, 581, 582] (by decide +kernel) (by decide +kernel)
set_option maxRecDepth 20000 in
theorem gL_law_X3_undo : GoodIn wsL_law (wsV RL 36 RX3 yX3_undo wsX3_undo) := goodIn_app (goodIn_of _ (by decide +kernel)) ggL_law_X3_undo
set_option maxRecDepth 20000 in
theorem ggL_law_X4_undo : GoodIn wsL_law wsX4_undo := goodIn_r _ [397, 247, 335, 248, 241, 398, 399, 400, 5, 401, 64, 65, 69, 70, 71, 72, 60, 61, 73, 63, 74, 75, 76, 250, 251, 252, 253, 59, 216, 217, 218, 219, 58, 220, 221, 222, 223, 224, 225, 226, 227, 228, 254, 255, 256, 257, 229, 230, 231, 232, 258, 259, 260, 261, 262, 263, 264, 265, 266, 267, 268, 269, 270, 233, 234, 235, 236, 271, 272, 273, 274, 275, 276, 277, 278, 67, 68, 279, 280, 281, 282, 283, 284, 285, 286, 287, 288, 289, 290, 560, 561, 562, 563, 564, 565, 566, 567, 568, 569, 570, 571, 572, 573, 574, 575, 576, 577, 578, 579] (by decide +kernel) (by decide +kernel)
set_option maxRecDepth 20000 in
theorem gL_law_X4_undo : GoodIn wsL_law (wsV RL 39 RX4 yX4_undo wsX4_undo) := goodIn_app (goodIn_of _ (by decide +kernel)) ggL_law_X4_undo
set_option maxRecDepth 20000 in
theorem ggL_law_X3_keep : GoodIn wsL_law wsX3_keep := goodIn_r _ [405, 23, 321, 322, 323, 324, 22, 325, 202, 361, 362, 363, 364, 122, 406, 407, 408, 2, 409, 19, 18, 369, 370, 371, 17, 372, 34, 373, 374, 375, 376, 35, 36, 37, 38, 39, 40, 95, 96, 132, 410, 411, 412, 413, 207, 555, 556, 557, 558, 559, 594, 595, 596, 597, 598, 599, 600, 601, 583, 584, 585, 586, 587, 588, 589, 590, 591, 592, 593] (by decide +kernel) (by decide +kernel)
set_option maxRecDepth 20000 in
theorem gL_law_X3_keep : GoodIn wsL_law (wsV RL 40 RX3 yX3_keep wsX3_keep) := goodIn_app (goodIn_of _ (by decide +kernel)) ggL_law_X3_keep
set_option maxRecDepth 20000 in
theorem ggL_law_X4_keep : GoodIn wsL_law wsX4_keep := goodIn_r _ [417, 247, 335, 241, 242, 249, 560, 561, 562, 563, 564, 565, 566, 567, 568, 569, 570, 571, 572, 573, 574, 575, 576, 577, 578, 579] (by decide +kernel) (by decide +kernel)
set_option maxRecDepth 20000 in
theorem gL_law_X4_keep : GoodIn wsL_law (wsV RL 43 RX4 yX4_keep wsX4_keep) := goodIn_app (goodIn_of _ (by decide +kernel)) ggL_law_X4_keep
set_option maxRecDepth 20000 in
theorem ggL_law_X3_stop : GoodIn wsL_law wsX3_stop := goodIn_r _ [421, 82, 23, 422, 423, 424, 22, 425, 207, 426, 427, 188, 428, 53, 361, 362, 363, 364, 122, 365, 366, 367, 2, 368, 127, 18, 19, 369, 370, 371, 17, 372, 34, 373, 374, 375, 376, 35, 36, 37, 38, 39, 40, 95, 96, 132, 377, 378, 379, 380, 50, 381, 382, 383, 384, 385, 386, 387, 388, 389, 51, 390, 391, 392, 393, 52, 128, 129, 130, 131, 42, 133, 87, 88, 89, 90, 91, 92, 93, 94, 97, 98, 134, 135, 136, 137, 103, 104, 105, 106, 107, 108, 109, 110, 111, 112, 113, 138, 139, 140, 141, 114, 115, 116, 117, 142, 143, 144, 145, 146, 147, 148, 149, 41, 150, 151, 152, 153, 154, 155, 156, 157, 158, 159, 14, 160, 161, 28, 29, 162, 163, 164, 165, 166, 167, 168, 169, 170, 171, 172, 173, 174, 175, 176, 177, 178, 179, 180, 181, 182, 183, 184, 185, 186, 187, 189, 190, 191, 192, 193, 194, 195, 196, 197, 406, 407, 408, 409, 410, 411, 412, 413, 202, 555, 556, 557, 558, 559, 594, 595, 596, 597, 598, 599, 600, 601, 583, 584, 585, 586, 587, 588, 589, 590, 591, 592, 593, 580, 581, 582] (by decide +kernel) (by decide +kernel)
set_option maxRecDepth 20000 in
theorem gL_law_X3_stop : GoodIn wsL_law (wsV RL 44 RX3 yX3_stop wsX3_stop) := goodIn_app (goodIn_of _ (by decide +kernel)) ggL_law_X3_stop
set_option maxRecDepth 20000 in
theorem ggL_law_X4_stop : GoodIn wsL_law wsX4_stop := goodIn_r _ [432, 213, 242, 249, 66, 241, 247, 398, 399, 400, 5, 401, 64, 65, 69, 70, 71, 72, 60, 61, 73, 63, 74, 75, 76, 250, 251, 252, 253, 59, 216, 217, 218, 219, 58, 220, 221, 222, 223, 224, 225, 226, 227, 228, 254, 255, 256, 257, 229, 230, 231, 232, 258, 259, 260, 261, 262, 263, 264, 265, 266, 267, 268, 269, 270, 233, 234, 235, 236, 271, 272, 273, 274, 275, 276, 277, 278, 67, 68, 279, 280, 281, 282, 283, 284, 285, 286, 287, 288, 289, 290, 560, 561, 562, 563, 564, 565, 566, 567, 568, 569, 570, 571, 572, 573, 574, 575, 576, 577, 578, 579] (by decide +kernel) (by decide +kernel)
set_option maxRecDepth 20000 in
theorem gL_law_X4_stop : GoodIn wsL_law (wsV RL 47 RX4 yX4_stop wsX4_stop) := goodIn_app (goodIn_of _ (by decide +kernel)) ggL_law_X4_stop
set_option maxRecDepth 20000 in
theorem ggL_law_X3_address : GoodIn wsL_law wsX3_address := goodIn_r _ [436, 18, 437, 91, 92, 17, 93, 94, 95, 96, 555, 556, 557, 558, 559, 583, 584, 585, 586, 587, 588, 589, 590, 591, 592, 593] (by decide +kernel) (by decide +kernel)
set_option maxRecDepth 20000 in
theorem gL_law_X3_address : GoodIn wsL_law (wsV RL 48 RX3 yX3_address wsX3_address) := goodIn_app (goodIn_of _ (by decide +kernel)) ggL_law_X3_address
set_option maxRecDepth 20000 in
theorem ggL_law_X4_address : GoodIn wsL_law wsX4_address := goodIn_r _ [441, 220, 221, 222, 5, 223, 224, 75, 225, 226, 227, 228, 74, 560, 561, 562, 563, 564, 565, 566, 567, 568, 569, 570, 571, 572, 573, 574, 575, 576, 577, 578, 579] (by decide +kernel) (by decide +kernel)
set_option maxRecDepth 20000 in
theorem gL_law_X4_address : GoodIn wsL_law (wsV RL 51 RX4 yX4_address wsX4_address) := goodIn_app (goodIn_of _ (by decide +kernel)) ggL_law_X4_address
set_option maxRecDepth 20000 in
theorem ggL_law_X3_bucket : GoodIn wsL_law wsX3_bucket := goodIn_r _ [445, 18, 82, 446, 143, 144, 17, 145, 95, 96, 447, 448, 449, 450, 190, 191, 192, 193, 37, 97, 2, 98, 103, 104, 105, 106, 40, 42, 107, 108, 109, 110, 111, 112, 113, 36, 451, 452, 555, 556, 557, 558, 559, 583, 584, 585, 586, 587, 588, 589, 590, 591, 592, 593] (by decide +kernel) (by decide +kernel)
set_option maxRecDepth 20000 in
theorem gL_law_X3_bucket : GoodIn wsL_law (wsV RL 52 RX3 yX3_bucket wsX3_bucket) := goodIn_app (goodIn_of _ (by decide +kernel)) ggL_law_X3_bucket
set_option maxRecDepth 20000 in
theorem ggL_law_X4_bucket : GoodIn wsL_law wsX4_bucket := goodIn_r _ [456, 213, 457, 458, 459, 5, 460, 258, 259, 260, 261, 75, 225, 226, 227, 228, 74, 267, 268, 269, 270, 73, 60, 61, 271, 272, 273, 274, 229, 230, 231, 232, 560, 561, 562, 563, 564, 565, 566, 567, 568, 569, 570, 571, 572, 573, 574, 575, 576, 577, 578, 579] (by decide +kernel) (by decide +kernel)
set_option maxRecDepth 20000 in
theorem gL_law_X4_bucket : GoodIn wsL_law (wsV RL 55 RX4 yX4_bucket wsX4_bucket) := goodIn_app (goodIn_of _ (by decide +kernel)) ggL_law_X4_bucket
set_option maxRecDepth 20000 in
theorem ggL_law_X3_page : GoodIn wsL_law wsX3_page := goodIn_r _ [464, 82, 18, 465, 97, 2, 98, 466, 111, 112, 17, 113, 36, 467, 468, 469, 470, 37, 42, 471, 472, 473, 474, 39, 142, 143, 144, 145, 95, 96, 555, 556, 557, 558, 559, 583, 584, 585, 586, 587, 588, 589, 590, 591, 592, 593] (by decide +kernel) (by decide +kernel)
set_option maxRecDepth 20000 in
theorem gL_law_X3_page : GoodIn wsL_law (wsV RL 56 RX3 yX3_page wsX3_page) := goodIn_app (goodIn_of _ (by decide +kernel)) ggL_law_X3_page
set_option maxRecDepth 20000 in
theorem ggL_law_X4_page : GoodIn wsL_law wsX4_page := goodIn_r _ [478, 213, 60, 61, 479, 480, 5, 481, 482, 483, 484, 485, 73, 258, 259, 260, 261, 75, 225, 226, 227, 228, 74, 560, 561, 562, 563, 564, 565, 566, 567, 568, 569, 570, 571, 572, 573, 574, 575, 576, 577, 578, 579] (by decide +kernel) (by decide +kernel)
set_option maxRecDepth 20000 in
theorem gL_law_X4_page : GoodIn wsL_law (wsV RL 59 RX4 yX4_page wsX4_page) := goodIn_app (goodIn_of _ (by decide +kernel)) ggL_law_X4_page
set_option maxRecDepth 20000 in
theorem ggL_law_X3_cell : GoodIn wsL_law wsX3_cell := goodIn_r _ [489, 82, 18, 321, 465, 97, 2, 98, 466, 111, 112, 17, 113, 36, 490, 491, 492, 493, 34, 42, 295, 296, 297, 298, 35, 555, 556, 557, 558, 559, 583, 584, 585, 586, 587, 588, 589, 590, 591, 592, 593] (by decide +kernel) (by decide +kernel)
set_option maxRecDepth 20000 in
theorem gL_law_X3_cell : GoodIn wsL_law (wsV RL 60 RX3 yX3_cell wsX3_cell) := goodIn_app (goodIn_of _ (by decide +kernel)) ggL_law_X3_cell
set_option maxRecDepth 20000 in
theorem ggL_law_X4_cell : GoodIn wsL_law wsX4_cell := goodIn_r _ [497, 213, 60, 335, 58, 59, 479, 480, 5, 481, 560, 561, 562, 563, 564, 565, 566, 567, 568, 569, 570, 571, 572, 573, 574, 575, 576, 577, 578, 579] (by decide +kernel) (by decide +kernel)
set_option maxRecDepth 20000 in
theorem gL_law_X4_cell : GoodIn wsL_law (wsV RL 64 RX4 yX4_cell wsX4_cell) := goodIn_app (goodIn_of _ (by decide +kernel)) ggL_law_X4_cell
set_option maxRecDepth 20000 in
theorem ggL_law_X3_entry : GoodIn wsL_law wsX3_entry := goodIn_r _ [501, 82, 18, 83, 502, 503, 504, 17, 505, 36, 37, 42, 142, 143, 144, 145, 95, 96, 97, 2, 98, 295, 296, 297, 298, 35, 555, 556, 557, 558, 559, 583, 584, 585, 586, 587, 588, 589, 590, 591, 592, 593] (by decide +kernel) (by decide +kernel)
set_option maxRecDepth 20000 in
theorem gL_law_X3_entry : GoodIn wsL_law (wsV RL 65 RX3 yX3_entry wsX3_entry) := goodIn_app (goodIn_of _ (by decide +kernel)) ggL_law_X3_entry
set_option maxRecDepth 20000 in
theorem ggL_law_X4_entry : GoodIn wsL_law wsX4_entry := goodIn_r _ [509, 213, 73, 60, 59, 61, 258, 259, 260, 5, 261, 75, 225, 226, 227, 228, 74, 560, 561, 562, 563, 564, 565, 566, 567, 568, 569, 570, 571, 572, 573, 574, 575, 576, 577, 578, 579] (by decide +kernel) (by decide +kernel)
set_option maxRecDepth 20000 in
theorem gL_law_X4_entry : GoodIn wsL_law (wsV RL 68 RX4 yX4_entry wsX4_entry) := goodIn_app (goodIn_of _ (by decide +kernel)) ggL_law_X4_entry
set_option maxRecDepth 20000 in
theorem ggL_law_X3_effort : GoodIn wsL_law wsX3_effort := goodIn_r _ [513, 18, 514, 515, 516, 17, 517, 36, 37, 142, 143, 144, 145, 95, 96, 97, 2, 98, 555, 556, 557, 558, 559, 583, 584, 585, 586, 587, 588, 589, 590, 591, 592, 593] (by decide +kernel) (by decide +kernel)
set_option maxRecDepth 20000 in
theorem gL_law_X3_effort : GoodIn wsL_law (wsV RL 69 RX3 yX3_effort wsX3_effort) := goodIn_app (goodIn_of _ (by decide +kernel)) ggL_law_X3_effort
set_option maxRecDepth 20000 in
theorem ggL_law_X4_effort : GoodIn wsL_law wsX4_effort := goodIn_r _ [521, 73, 60, 61, 258, 259, 260, 5, 261, 75, 225, 226, 227, 228, 74, 560, 561, 562, 563, 564, 565, 566, 567, 568, 569, 570, 571, 572, 573, 574, 575, 576, 577, 578, 579] (by decide +kernel) (by decide +kernel)
set_option maxRecDepth 20000 in
theorem gL_law_X4_effort : GoodIn wsL_law (wsV RL 72 RX4 yX4_effort wsX4_effort) := goodIn_app (goodIn_of _ (by decide +kernel)) ggL_law_X4_effort
set_option maxRecDepth 20000 in
theorem ggL_law_X3_count : GoodIn wsL_law wsX3_count := goodIn_r _ [525, 18, 23, 307, 127, 82, 526, 527, 528, 17, 529, 132, 446, 143, 144, 145, 95, 96, 530, 531, 532, 533, 534, 535, 536, 537, 538, 195, 196, 197, 39, 42, 361, 362, 363, 22, 364, 122, 539, 540, 541, 542, 207, 322, 323, 324, 325, 202, 543, 544, 545, 546, 186, 187, 188, 189, 142, 190, 191, 192, 193, 37, 97, 2, 98, 555, 556, 557, 558, 559, 583, 584, 585, 586, 587, 588, 589, 590, 591, 592, 593, 594, 595, 596, 597, 598, 599, 600, 601] (by decide +kernel) (by decide +kernel)
set_option maxRecDepth 20000 in
theorem gL_law_X3_count : GoodIn wsL_law (wsV RL 73 RX3 yX3_count wsX3_count) := goodIn_app (goodIn_of _ (by decide +kernel)) ggL_law_X3_count
set_option maxRecDepth 20000 in
theorem ggL_law_X4_count : GoodIn wsL_law wsX4_count := goodIn_r _ [550, 76, 74, 75, 241, 242, 249, 247, 316, 213, 258, 259, 260, 5, 261, 225, 226, 227, 228, 233, 234, 235, 236, 63, 551, 552, 553, 554, 271, 272, 273, 274, 73, 61, 560, 561, 562, 563, 564, 565, 566, 567, 568, 569, 570, 571, 572, 573, 574, 575, 576, 577, 578, 579] (by decide +kernel) (by decide +kernel)
set_option maxRecDepth 20000 in
theorem gL_law_X4_count : GoodIn wsL_law (wsV RL 76 RX4 yX4_count wsX4_count) := goodIn_app (goodIn_of _ (by decide +kernel)) ggL_law_X4_count
