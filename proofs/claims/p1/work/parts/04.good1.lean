set_option maxRecDepth 20000 in
theorem ggX11_piece_X6_allWork : GoodIn wsX11_piece wsX6_allWork := goodIn_r _ [31, 32, 33, 74, 75, 76, 77, 78, 79, 80, 81, 82, 83, 84] (by decide +kernel) (by decide +kernel)
set_option maxRecDepth 20000 in
theorem gX11_piece_X6_allWork : GoodIn wsX11_piece (wsV RX11 149 RX6 yX6_allWork wsX6_allWork) := goodIn_app (goodIn_of _ (by decide +kernel)) ggX11_piece_X6_allWork
set_option maxRecDepth 20000 in
theorem ggX11_piece_X3_openPiece : GoodIn wsX11_piece wsX3_openPiece := goodIn_r _ [38, 39, 40, 41, 42, 43, 54, 55, 56, 57, 58, 59, 60, 61, 62, 63, 64, 65] (by decide +kernel) (by decide +kernel)
set_option maxRecDepth 20000 in
theorem gX11_piece_X3_openPiece : GoodIn wsX11_piece (wsV RX11 153 RX3 yX3_openPiece wsX3_openPiece) := goodIn_app (goodIn_of _ (by decide +kernel)) ggX11_piece_X3_openPiece
set_option maxRecDepth 20000 in
theorem ggX11_rule_X11_within : GoodIn wsX11_rule wsX11_within := goodIn_r _ [8] (by decide +kernel) (by decide +kernel)
set_option maxRecDepth 20000 in
theorem gX11_rule_X11_within : GoodIn wsX11_rule (va_wsS RX11 68 yX11_within wsX11_within) := goodIn_app (goodIn_of _ (by decide +kernel)) ggX11_rule_X11_within
set_option maxRecDepth 20000 in
theorem ggX11_rule_X10_tell : GoodIn wsX11_rule wsX10_tell := goodIn_r _ [13, 14, 15, 16, 17, 18, 19, 20, 21, 12, 22, 23, 24, 25, 26, 27, 28, 29, 30, 31, 32, 33, 34, 35, 36, 37, 38, 39, 40, 41, 42, 43, 44, 45, 46, 47, 48, 49, 50, 51, 52, 53, 54, 55, 56, 57, 58, 59, 60, 61, 62, 63, 64, 65, 66, 67, 68, 69, 70, 71, 72, 73, 74, 75, 76, 77, 78, 79, 80, 81, 82, 83, 84, 85, 86, 87, 88, 89, 90, 91, 92, 93, 94, 95, 96, 97, 98, 99, 100, 101, 102, 103, 104, 105, 106, 107, 108, 109, 110, 111, 112, 113, 114, 115, 116, 117, 118, 119, 120, 121, 122, 123, 124, 125, 126, 127, 128, 129, 130, 131, 132, 133, 134, 135, 136, 137, 138, 139, 140, 141, 142, 143, 144, 145, 146, 147, 148, 149, 150, 151, 152, 153, 154, 155, 156, 157, 158, 159, 160, 161, 162, 163, 164, 165, 166, 167, 168, 169, 170, 171, 172, 173, 174, 175, 176, 177, 178, 179, 180, 181, 182, 183, 184, 185, 186, 187, 188, 199, 200, 201, 202, 203, 204, 205, 206, 207, 208, 209, 210, 211, 212, 213, 214, 215] (by decide +kernel) (by decide +kernel)
set_option maxRecDepth 20000 in
theorem gX11_rule_X10_tell : GoodIn wsX11_rule (wsV RX11 159 RX10 yX10_tell wsX10_tell) := goodIn_app (goodIn_of _ (by decide +kernel)) ggX11_rule_X10_tell
set_option maxRecDepth 20000 in
theorem ggX11_step_X11_canGoOn : GoodIn wsX11_step wsX11_canGoOn := goodIn_r _ [7, 1, 2, 8, 9, 6, 10, 169, 170, 171, 172, 173, 174, 175, 176, 177, 178, 179, 180, 181, 182, 183, 184, 185, 186, 187, 188, 189, 190] (by decide +kernel) (by decide +kernel)
set_option maxRecDepth 20000 in
theorem gX11_step_X11_canGoOn : GoodIn wsX11_step (wsV RX11 163 RX11 yX11_canGoOn wsX11_canGoOn) := goodIn_app (goodIn_of _ (by decide +kernel)) ggX11_step_X11_canGoOn
set_option maxRecDepth 20000 in
theorem ggX11_step_X3_runOn : GoodIn wsX11_step wsX3_runOn := goodIn_r _ [15, 16, 17, 18, 19, 20, 21, 22, 23, 24, 25, 26, 27, 28, 29, 30, 14, 31, 32, 33, 34, 35, 36, 37, 38, 39, 40, 41, 42, 43, 44, 45, 46, 47, 48, 49, 50, 51, 52, 53, 54, 55, 56, 57, 58, 59, 60, 61, 62, 63, 64, 65, 66, 67, 68, 69, 70, 71, 72, 73, 74, 75, 76, 77, 78, 79, 80, 81, 82, 83, 84, 85, 86, 87, 88, 89, 90, 91, 92, 93, 94, 95, 96, 97, 98, 99, 100, 101, 102, 103, 104, 105, 106, 107, 108, 109, 110, 111, 112, 113, 114, 115, 116, 117, 118, 119, 120, 121, 122, 123, 124, 125, 126, 127, 128, 129, 130, 131, 132, 133, 134, 135, 136, 137, 138, 139, 140, 141, 142, 143, 144, 145, 146, 147, 148, 149, 150, 151, 152, 153, 154, 155, 156, 157, 6, 158, 159, 160, 161, 162, 163, 164, 165, 166, 167, 168, 179, 180, 181, 182, 183, 184, 185, 186, 187, 188, 189, 190, 191, 192, 193, 194, 195, 196, 197, 198, 199, 200, 201, 202, 203, 204, 205, 206, 207, 208, 209, 210, 211, 212, 213, 214, 215, 216, 217, 218, 219, 220, 221, 222, 223, 224] (by decide +kernel) (by decide +kernel)
set_option maxRecDepth 20000 in
theorem gX11_step_X3_runOn : GoodIn wsX11_step (wsV RX11 167 RX3 yX3_runOn wsX3_runOn) := goodIn_app (goodIn_of _ (by decide +kernel)) ggX11_step_X3_runOn
set_option maxRecDepth 20000 in
theorem ggX11_of_X1_hasHand : GoodIn wsX11_of wsX1_hasHand := goodIn_r _ [14, 15, 66, 67, 68, 69, 70, 71, 72, 73] (by decide +kernel) (by decide +kernel)
set_option maxRecDepth 20000 in
theorem gX11_of_X1_hasHand : GoodIn wsX11_of (wsV RX11 95 RX1 yX1_hasHand wsX1_hasHand) := goodIn_app (goodIn_of _ (by decide +kernel)) ggX11_of_X1_hasHand
set_option maxRecDepth 20000 in
theorem ggX11_of_X3_linesDoneBy : GoodIn wsX11_of wsX3_linesDoneBy := goodIn_r _ [20, 21, 22, 23, 24, 25, 26, 27, 19, 28, 29, 30, 54, 55, 56, 57, 58, 59, 60, 61, 62, 63, 64, 65, 66, 67, 68, 69, 70, 71, 72, 73, 74, 75, 76, 77, 78, 79, 80, 81, 82, 83, 84] (by decide +kernel) (by decide +kernel)
set_option maxRecDepth 20000 in
theorem gX11_of_X3_linesDoneBy : GoodIn wsX11_of (wsV RX11 186 RX3 yX3_linesDoneBy wsX3_linesDoneBy) := goodIn_app (goodIn_of _ (by decide +kernel)) ggX11_of_X3_linesDoneBy
set_option maxRecDepth 20000 in
theorem ggX11_of_X3_piecesDoneBy : GoodIn wsX11_of wsX3_piecesDoneBy := goodIn_r _ [34, 21, 22, 25, 26, 27, 19, 28, 29, 30, 54, 55, 56, 57, 58, 59, 60, 61, 62, 63, 64, 65, 66, 67, 68, 69, 70, 71, 72, 73] (by decide +kernel) (by decide +kernel)
set_option maxRecDepth 20000 in
theorem gX11_of_X3_piecesDoneBy : GoodIn wsX11_of (wsV RX11 190 RX3 yX3_piecesDoneBy wsX3_piecesDoneBy) := goodIn_app (goodIn_of _ (by decide +kernel)) ggX11_of_X3_piecesDoneBy
set_option maxRecDepth 20000 in
theorem ggX11_of_X1_awayMask : GoodIn wsX11_of wsX1_awayMask := goodIn_r _ [38, 39, 40, 41, 42, 43, 66, 67, 68, 69, 70, 71, 72, 73, 85, 86, 87] (by decide +kernel) (by decide +kernel)
set_option maxRecDepth 20000 in
theorem gX11_of_X1_awayMask : GoodIn wsX11_of (wsV RX11 193 RX1 yX1_awayMask wsX1_awayMask) := goodIn_app (goodIn_of _ (by decide +kernel)) ggX11_of_X1_awayMask
set_option maxRecDepth 20000 in
theorem ggX11_at_X1_hasPiece : GoodIn wsX11_at wsX1_hasPiece := goodIn_r _ [11, 12, 60, 61, 62, 63, 64, 65, 66, 67] (by decide +kernel) (by decide +kernel)
set_option maxRecDepth 20000 in
theorem gX11_at_X1_hasPiece : GoodIn wsX11_at (wsV RX11 201 RX1 yX1_hasPiece wsX1_hasPiece) := goodIn_app (goodIn_of _ (by decide +kernel)) ggX11_at_X1_hasPiece
set_option maxRecDepth 20000 in
theorem ggX11_at_X3_stateOf : GoodIn wsX11_at wsX3_stateOf := goodIn_r _ [17, 18, 19, 20, 21, 22, 23, 48, 49, 50, 51, 52, 53, 54, 55, 56, 57, 58, 59, 60, 61, 62, 63, 64, 65, 66, 67, 68, 69, 70, 71, 72, 73, 74, 75, 76, 77, 78] (by decide +kernel) (by decide +kernel)
set_option maxRecDepth 20000 in
theorem gX11_at_X3_stateOf : GoodIn wsX11_at (wsV RX11 204 RX3 yX3_stateOf wsX3_stateOf) := goodIn_app (goodIn_of _ (by decide +kernel)) ggX11_at_X3_stateOf
set_option maxRecDepth 20000 in
theorem ggX11_at_X3_isLate : GoodIn wsX11_at wsX3_isLate := goodIn_r _ [27, 28, 29, 30, 16, 31, 18, 23, 20, 21, 32, 33, 34, 35, 36, 48, 49, 50, 51, 52, 53, 54, 55, 56, 57, 58, 59, 60, 61, 62, 63, 64, 65, 66, 67, 68, 69, 70, 71, 72, 73, 74, 75, 76, 77, 78] (by decide +kernel) (by decide +kernel)
set_option maxRecDepth 20000 in
theorem gX11_at_X3_isLate : GoodIn wsX11_at (wsV RX11 219 RX3 yX3_isLate wsX3_isLate) := goodIn_app (goodIn_of _ (by decide +kernel)) ggX11_at_X3_isLate
set_option maxRecDepth 20000 in
theorem ggX11_at_X3_minutesLate : GoodIn wsX11_at wsX3_minutesLate := goodIn_r _ [31, 18, 23, 20, 21, 32, 33, 34, 35, 36, 48, 49, 50, 51, 52, 53, 54, 55, 56, 57, 58, 59, 60, 61, 62, 63, 64, 65, 66, 67, 68, 69, 70, 71, 72, 73, 74, 75, 76, 77, 78] (by decide +kernel) (by decide +kernel)
set_option maxRecDepth 20000 in
theorem gX11_at_X3_minutesLate : GoodIn wsX11_at (wsV RX11 222 RX3 yX3_minutesLate wsX3_minutesLate) := goodIn_app (goodIn_of _ (by decide +kernel)) ggX11_at_X3_minutesLate
set_option maxRecDepth 20000 in
theorem ggX11_may_X1_hasHand : GoodIn wsX11_may wsX1_hasHand := goodIn_r _ [7, 8, 71, 72, 73, 74, 75, 76, 77, 78] (by decide +kernel) (by decide +kernel)
set_option maxRecDepth 20000 in
theorem gX11_may_X1_hasHand : GoodIn wsX11_may (wsV RX11 95 RX1 yX1_hasHand wsX1_hasHand) := goodIn_app (goodIn_of _ (by decide +kernel)) ggX11_may_X1_hasHand
set_option maxRecDepth 20000 in
theorem ggX11_may_X1_hasPiece : GoodIn wsX11_may wsX1_hasPiece := goodIn_r _ [12, 13, 71, 72, 73, 74, 75, 76, 77, 78] (by decide +kernel) (by decide +kernel)
set_option maxRecDepth 20000 in
theorem gX11_may_X1_hasPiece : GoodIn wsX11_may (wsV RX11 201 RX1 yX1_hasPiece wsX1_hasPiece) := goodIn_app (goodIn_of _ (by decide +kernel)) ggX11_may_X1_hasPiece
set_option maxRecDepth 20000 in
theorem ggX11_may_X3_mayDo : GoodIn wsX11_may wsX3_mayDo := goodIn_r _ [18, 19, 20, 21, 22, 23, 24, 25, 26, 27, 28, 29, 30, 31, 17, 32, 33, 34, 35, 36, 37, 38, 39, 40, 41, 42, 43, 44, 45, 46, 47, 48, 49, 50, 51, 52, 53, 54, 55, 56, 57, 58, 59, 60, 79, 80, 81, 82, 83, 84, 85, 86, 87, 88, 89, 90, 71, 72, 73, 74, 75, 76, 77, 78, 91, 92, 93, 94, 95, 96, 97, 98, 99, 100, 101, 102, 103, 104, 105, 106, 107, 108, 109, 110, 111, 112, 113] (by decide +kernel) (by decide +kernel)
set_option maxRecDepth 20000 in
theorem gX11_may_X3_mayDo : GoodIn wsX11_may (wsV RX11 225 RX3 yX3_mayDo wsX3_mayDo) := goodIn_app (goodIn_of _ (by decide +kernel)) ggX11_may_X3_mayDo
set_option maxRecDepth 20000 in
theorem ggX11_order_X1_hasHand : GoodIn wsX11_order wsX1_hasHand := goodIn_r _ [9, 10, 98, 99, 100, 101, 102, 103, 104, 105] (by decide +kernel) (by decide +kernel)
set_option maxRecDepth 20000 in
theorem gX11_order_X1_hasHand : GoodIn wsX11_order (wsV RX11 95 RX1 yX1_hasHand wsX1_hasHand) := goodIn_app (goodIn_of _ (by decide +kernel)) ggX11_order_X1_hasHand
set_option maxRecDepth 20000 in
theorem ggX11_order_X1_hasPiece : GoodIn wsX11_order wsX1_hasPiece := goodIn_r _ [14, 15, 98, 99, 100, 101, 102, 103, 104, 105] (by decide +kernel) (by decide +kernel)
set_option maxRecDepth 20000 in
theorem gX11_order_X1_hasPiece : GoodIn wsX11_order (wsV RX11 201 RX1 yX1_hasPiece wsX1_hasPiece) := goodIn_app (goodIn_of _ (by decide +kernel)) ggX11_order_X1_hasPiece
set_option maxRecDepth 20000 in
theorem ggX11_order_X3_haste : GoodIn wsX11_order wsX3_haste := goodIn_r _ [20, 21, 22, 23, 24, 25, 26, 27, 28, 29, 30, 31, 32, 33, 34, 35, 36, 37, 38, 39, 40, 41, 42, 43, 44, 45, 46, 47, 48, 19, 49, 50, 51, 52, 53, 54, 55, 56, 57, 58, 59, 60, 61, 62, 63, 64, 65, 66, 67, 68, 69, 70, 71, 72, 73, 74, 75, 76, 77, 78, 79, 80, 81, 82, 83, 84, 85, 86, 87, 106, 107, 108, 109, 110, 111, 112, 113, 114, 115, 116, 117, 98, 99, 100, 101, 102, 103, 104, 105, 118, 119, 120, 121, 122, 123, 124, 125, 126, 127, 128, 129, 130, 131, 132, 133, 134, 135, 136, 137] (by decide +kernel) (by decide +kernel)
set_option maxRecDepth 20000 in
theorem gX11_order_X3_haste : GoodIn wsX11_order (wsV RX11 231 RX3 yX3_haste wsX3_haste) := goodIn_app (goodIn_of _ (by decide +kernel)) ggX11_order_X3_haste
set_option maxRecDepth 20000 in
theorem ggX11_goes_X1_hasPiece : GoodIn wsX11_goes wsX1_hasPiece := goodIn_r _ [8, 9, 38, 39, 40, 41, 42, 43, 44, 45] (by decide +kernel) (by decide +kernel)
set_option maxRecDepth 20000 in
theorem gX11_goes_X1_hasPiece : GoodIn wsX11_goes (wsV RX11 201 RX1 yX1_hasPiece wsX1_hasPiece) := goodIn_app (goodIn_of _ (by decide +kernel)) ggX11_goes_X1_hasPiece
set_option maxRecDepth 20000 in
theorem ggX11_goes_X1_postFrom : GoodIn wsX11_goes wsX1_postFrom := goodIn_r _ [13, 14, 15, 38, 39, 40, 41, 42, 43, 44, 45] (by decide +kernel) (by decide +kernel)
set_option maxRecDepth 20000 in
theorem gX11_goes_X1_postFrom : GoodIn wsX11_goes (wsV RX11 235 RX1 yX1_postFrom wsX1_postFrom) := goodIn_app (goodIn_of _ (by decide +kernel)) ggX11_goes_X1_postFrom
set_option maxRecDepth 20000 in
theorem ggX11_count_X3_inState : GoodIn wsX11_count wsX3_inState := goodIn_r _ [19, 20, 21, 22, 23, 24, 18, 25, 26, 27, 28, 29, 30, 58, 59, 60, 61, 62, 63, 64, 65, 66, 67, 68, 69, 70, 71, 72, 73, 74, 75, 76, 77, 90, 91, 92, 93, 94, 95, 96, 97, 98, 99, 100] (by decide +kernel) (by decide +kernel)
set_option maxRecDepth 20000 in
theorem gX11_count_X3_inState : GoodIn wsX11_count (wsV RX11 239 RX3 yX3_inState wsX3_inState) := goodIn_app (goodIn_of _ (by decide +kernel)) ggX11_count_X3_inState
set_option maxRecDepth 20000 in
theorem ggX11_count_X3_lateOnes : GoodIn wsX11_count wsX3_lateOnes := goodIn_r _ [34, 20, 21, 35, 36, 37, 18, 38, 39, 40, 41, 42, 26, 30, 28, 43, 44, 45, 46, 47, 58, 59, 60, 61, 62, 63, 64, 65, 66, 67, 68, 69, 70, 71, 72, 73, 74, 75, 76, 77, 90, 91, 92, 93, 94, 95, 96, 97, 98, 99, 100] (by decide +kernel) (by decide +kernel)
set_option maxRecDepth 20000 in
theorem gX11_count_X3_lateOnes : GoodIn wsX11_count (wsV RX11 242 RX3 yX3_lateOnes wsX3_lateOnes) := goodIn_app (goodIn_of _ (by decide +kernel)) ggX11_count_X3_lateOnes
set_option maxRecDepth 20000 in
theorem ggX11_correct_X1_hasPiece : GoodIn wsX11_correct wsX1_hasPiece := goodIn_r _ [14, 15, 66, 67, 68, 69, 70, 71, 72, 73] (by decide +kernel) (by decide +kernel)
set_option maxRecDepth 20000 in
theorem gX11_correct_X1_hasPiece : GoodIn wsX11_correct (wsV RX11 201 RX1 yX1_hasPiece wsX1_hasPiece) := goodIn_app (goodIn_of _ (by decide +kernel)) ggX11_correct_X1_hasPiece
set_option maxRecDepth 20000 in
theorem ggX11_correct_X11_within : GoodIn wsX11_correct wsX11_within := goodIn_r _ [19] (by decide +kernel) (by decide +kernel)
set_option maxRecDepth 20000 in
theorem gX11_correct_X11_within : GoodIn wsX11_correct (va_wsS RX11 68 yX11_within wsX11_within) := goodIn_app (goodIn_of _ (by decide +kernel)) ggX11_correct_X11_within
set_option maxRecDepth 20000 in
theorem ggX11_correct_X2_init : GoodIn wsX11_correct wsX2_init := goodIn_r _ [22, 23, 24, 25, 26, 27, 28, 29, 30, 31, 60, 61, 62, 63, 64, 65] (by decide +kernel) (by decide +kernel)
set_option maxRecDepth 20000 in
theorem gX11_correct_X2_init : GoodIn wsX11_correct (wsX2_init) := ggX11_correct_X2_init
set_option maxRecDepth 20000 in
theorem ggX11_undo_X5_hasCorrection : GoodIn wsX11_undo wsX5_hasCorrection := goodIn_r _ [8, 9, 24, 25, 26, 27, 28, 29] (by decide +kernel) (by decide +kernel)
set_option maxRecDepth 20000 in
theorem gX11_undo_X5_hasCorrection : GoodIn wsX11_undo (wsV RX11 257 RX5 yX5_hasCorrection wsX5_hasCorrection) := goodIn_app (goodIn_of _ (by decide +kernel)) ggX11_undo_X5_hasCorrection
set_option maxRecDepth 20000 in
theorem ggX11_undo_X11_within : GoodIn wsX11_undo wsX11_within := goodIn_r _ [13] (by decide +kernel) (by decide +kernel)
set_option maxRecDepth 20000 in
theorem gX11_undo_X11_within : GoodIn wsX11_undo (va_wsS RX11 68 yX11_within wsX11_within) := goodIn_app (goodIn_of _ (by decide +kernel)) ggX11_undo_X11_within
set_option maxRecDepth 20000 in
theorem ggX11_as_X11_within : GoodIn wsX11_as wsX11_within := goodIn_r _ [6] (by decide +kernel) (by decide +kernel)
set_option maxRecDepth 20000 in
theorem gX11_as_X11_within : GoodIn wsX11_as (va_wsS RX11 68 yX11_within wsX11_within) := goodIn_app (goodIn_of _ (by decide +kernel)) ggX11_as_X11_within
set_option maxRecDepth 20000 in
theorem ggX11_fault_X5_hasCorrection : GoodIn wsX11_fault wsX5_hasCorrection := goodIn_r _ [6, 7, 65, 66, 67, 68, 69, 70] (by decide +kernel) (by decide +kernel)
set_option maxRecDepth 20000 in
theorem gX11_fault_X5_hasCorrection : GoodIn wsX11_fault (wsV RX11 257 RX5 yX5_hasCorrection wsX5_hasCorrection) := goodIn_app (goodIn_of _ (by decide +kernel)) ggX11_fault_X5_hasCorrection
set_option maxRecDepth 20000 in
theorem ggX11_fault_X5_isKnown : GoodIn wsX11_fault wsX5_isKnown := goodIn_r _ [11, 12, 13, 14, 15, 65, 66, 67, 68, 69, 70, 71, 72, 73, 74, 75, 76] (by decide +kernel) (by decide +kernel)
set_option maxRecDepth 20000 in
theorem gX11_fault_X5_isKnown : GoodIn wsX11_fault (wsV RX11 263 RX5 yX5_isKnown wsX5_isKnown) := goodIn_app (goodIn_of _ (by decide +kernel)) ggX11_fault_X5_isKnown
set_option maxRecDepth 20000 in
theorem ggX11_fault_X5_whose : GoodIn wsX11_fault wsX5_whose := goodIn_r _ [19, 12, 20, 21, 22, 23, 24, 25, 26, 27, 13, 28, 29, 30, 31, 32, 33, 34, 35, 36, 37, 38, 39, 40, 41, 42, 43, 44, 45, 46, 47, 48, 49, 50, 51, 52, 53, 54, 65, 66, 67, 68, 69, 70, 77, 78, 79, 80, 81, 82, 71, 72, 73, 74, 75, 76, 83, 84, 85, 86, 87, 88, 89, 90, 91, 92, 93, 94, 95, 96, 97] (by decide +kernel) (by decide +kernel)
set_option maxRecDepth 20000 in
theorem gX11_fault_X5_whose : GoodIn wsX11_fault (wsV RX11 266 RX5 yX5_whose wsX5_whose) := goodIn_app (goodIn_of _ (by decide +kernel)) ggX11_fault_X5_whose
set_option maxRecDepth 20000 in
theorem ggX11_faults_X1_hasHand : GoodIn wsX11_faults wsX1_hasHand := goodIn_r _ [7, 8, 89, 90, 91, 92, 93, 94, 95, 96] (by decide +kernel) (by decide +kernel)
set_option maxRecDepth 20000 in
theorem gX11_faults_X1_hasHand : GoodIn wsX11_faults (wsV RX11 95 RX1 yX1_hasHand wsX1_hasHand) := goodIn_app (goodIn_of _ (by decide +kernel)) ggX11_faults_X1_hasHand
set_option maxRecDepth 20000 in
theorem ggX11_faults_X11_within : GoodIn wsX11_faults wsX11_within := goodIn_r _ [12] (by decide +kernel) (by decide +kernel)
set_option maxRecDepth 20000 in
theorem gX11_faults_X11_within : GoodIn wsX11_faults (va_wsS RX11 68 yX11_within wsX11_within) := goodIn_app (goodIn_of _ (by decide +kernel)) ggX11_faults_X11_within
set_option maxRecDepth 20000 in
theorem ggX11_faults_X5_faultsWith : GoodIn wsX11_faults wsX5_faultsWith := goodIn_r _ [17, 18, 19, 20, 21, 22, 23, 24, 25, 26, 27, 28, 29, 30, 16, 31, 32, 33, 34, 35, 36, 37, 38, 39, 40, 41, 42, 43, 44, 45, 46, 47, 48, 49, 50, 51, 52, 53, 54, 55, 56, 57, 58, 59, 60, 61, 62, 63, 64, 65, 66, 67, 68, 69, 70, 71, 72, 73, 74, 75, 76, 77, 78, 97, 98, 99, 100, 101, 102, 89, 90, 91, 92, 93, 94, 95, 96, 103, 104, 105, 106, 107, 108, 109, 110, 111, 112, 113, 114, 115, 116, 117, 118, 119, 120, 121, 122, 123, 124, 125, 126, 127, 128, 129] (by decide +kernel) (by decide +kernel)
set_option maxRecDepth 20000 in
theorem gX11_faults_X5_faultsWith : GoodIn wsX11_faults (wsV RX11 269 RX5 yX5_faultsWith wsX5_faultsWith) := goodIn_app (goodIn_of _ (by decide +kernel)) ggX11_faults_X5_faultsWith
set_option maxRecDepth 20000 in
theorem ggX11_pay_X1_hasPiece : GoodIn wsX11_pay wsX1_hasPiece := goodIn_r _ [9, 10, 98, 99, 100, 101, 102, 103, 104, 105] (by decide +kernel) (by decide +kernel)
set_option maxRecDepth 20000 in
theorem gX11_pay_X1_hasPiece : GoodIn wsX11_pay (wsV RX11 201 RX1 yX1_hasPiece wsX1_hasPiece) := goodIn_app (goodIn_of _ (by decide +kernel)) ggX11_pay_X1_hasPiece
set_option maxRecDepth 20000 in
theorem ggX11_pay_X5_payFor : GoodIn wsX11_pay wsX5_payFor := goodIn_r _ [15, 16, 17, 18, 19, 20, 21, 22, 23, 24, 25, 26, 27, 14, 28, 29, 30, 31, 32, 33, 34, 35, 36, 37, 38, 39, 40, 41, 42, 43, 44, 45, 46, 47, 48, 49, 50, 51, 52, 53, 54, 55, 56, 57, 58, 59, 60, 61, 62, 63, 64, 65, 66, 67, 68, 69, 70, 71, 72, 73, 74, 75, 76, 77, 78, 79, 80, 81, 82, 83, 84, 85, 86, 87, 106, 107, 108, 109, 110, 111, 112, 113, 114, 115, 116, 117, 118, 119, 120, 121, 122, 123, 98, 99, 100, 101, 102, 103, 104, 105, 124, 125, 126, 127, 128, 129, 130, 131, 132, 133, 134, 135, 136, 137, 138, 139, 140, 141, 142, 143, 144, 145, 146, 147, 148, 149] (by decide +kernel) (by decide +kernel)
set_option maxRecDepth 20000 in
theorem gX11_pay_X5_payFor : GoodIn wsX11_pay (wsV RX11 275 RX5 yX5_payFor wsX5_payFor) := goodIn_app (goodIn_of _ (by decide +kernel)) ggX11_pay_X5_payFor
set_option maxRecDepth 20000 in
theorem ggX11_earns_X1_hasHand : GoodIn wsX11_earns wsX1_hasHand := goodIn_r _ [9, 10, 112, 113, 114, 115, 116, 117, 118, 119] (by decide +kernel) (by decide +kernel)
set_option maxRecDepth 20000 in
theorem gX11_earns_X1_hasHand : GoodIn wsX11_earns (wsV RX11 95 RX1 yX1_hasHand wsX1_hasHand) := goodIn_app (goodIn_of _ (by decide +kernel)) ggX11_earns_X1_hasHand
set_option maxRecDepth 20000 in
theorem ggX11_earns_X11_within : GoodIn wsX11_earns wsX11_within := goodIn_r _ [14] (by decide +kernel) (by decide +kernel)
set_option maxRecDepth 20000 in
theorem gX11_earns_X11_within : GoodIn wsX11_earns (va_wsS RX11 68 yX11_within wsX11_within) := goodIn_app (goodIn_of _ (by decide +kernel)) ggX11_earns_X11_within
set_option maxRecDepth 20000 in
theorem ggX11_earns_X5_payOf : GoodIn wsX11_earns wsX5_payOf := goodIn_r _ [19, 20, 21, 22, 23, 24, 25, 26, 27, 28, 29, 30, 31, 32, 33, 18, 34, 35, 36, 37, 38, 39, 40, 41, 42, 43, 44, 45, 46, 47, 48, 49, 50, 51, 52, 53, 54, 55, 56, 57, 58, 59, 60, 61, 62, 63, 64, 65, 66, 67, 68, 69, 70, 71, 72, 73, 74, 75, 76, 77, 78, 79, 80, 81, 82, 83, 84, 85, 86, 87, 88, 89, 90, 91, 92, 93, 94, 95, 96, 97, 98, 99, 100, 101, 120, 121, 122, 123, 124, 125, 112, 113, 114, 115, 116, 117, 118, 119, 126, 127, 128, 129, 130, 131, 132, 133, 134, 135, 136, 137, 138, 139, 140, 141, 142, 143, 144, 145, 146, 147, 148, 149, 150, 151, 152, 153, 154, 155, 156, 157, 158, 159, 160, 161, 162, 163] (by decide +kernel) (by decide +kernel)
set_option maxRecDepth 20000 in
theorem gX11_earns_X5_payOf : GoodIn wsX11_earns (wsV RX11 280 RX5 yX5_payOf wsX5_payOf) := goodIn_app (goodIn_of _ (by decide +kernel)) ggX11_earns_X5_payOf
set_option maxRecDepth 20000 in
theorem ggX11_slips_X1_hasPiece : GoodIn wsX11_slips wsX1_hasPiece := goodIn_r _ [10, 11, 26, 27, 28, 29, 30, 31, 32, 33] (by decide +kernel) (by decide +kernel)
set_option maxRecDepth 20000 in
theorem gX11_slips_X1_hasPiece : GoodIn wsX11_slips (wsV RX11 201 RX1 yX1_hasPiece wsX1_hasPiece) := goodIn_app (goodIn_of _ (by decide +kernel)) ggX11_slips_X1_hasPiece
set_option maxRecDepth 20000 in
theorem ggX11_slips_X11_within : GoodIn wsX11_slips wsX11_within := goodIn_r _ [15] (by decide +kernel) (by decide +kernel)
set_option maxRecDepth 20000 in
theorem gX11_slips_X11_within : GoodIn wsX11_slips (va_wsS RX11 68 yX11_within wsX11_within) := goodIn_app (goodIn_of _ (by decide +kernel)) ggX11_slips_X11_within
set_option maxRecDepth 20000 in
theorem ggX11_left_X1_hasPiece : GoodIn wsX11_left wsX1_hasPiece := goodIn_r _ [9, 10, 36, 37, 38, 39, 40, 41, 42, 43] (by decide +kernel) (by decide +kernel)
set_option maxRecDepth 20000 in
theorem gX11_left_X1_hasPiece : GoodIn wsX11_left (wsV RX11 201 RX1 yX1_hasPiece wsX1_hasPiece) := goodIn_app (goodIn_of _ (by decide +kernel)) ggX11_left_X1_hasPiece
set_option maxRecDepth 20000 in
theorem ggX11_left_X6_slipsLeft : GoodIn wsX11_left wsX6_slipsLeft := goodIn_r _ [15, 16, 17, 18, 19, 20, 21, 22, 23, 24, 44, 45, 46, 47, 48, 49, 50, 51, 52, 53, 54] (by decide +kernel) (by decide +kernel)
set_option maxRecDepth 20000 in
theorem gX11_left_X6_slipsLeft : GoodIn wsX11_left (wsV RX11 289 RX6 yX6_slipsLeft wsX6_slipsLeft) := goodIn_app (goodIn_of _ (by decide +kernel)) ggX11_left_X6_slipsLeft
set_option maxRecDepth 20000 in
theorem ggX11_left_J6_bitCount_0f7a4 : GoodIn wsX11_left wsJ6_bitCount_0f7a4 := goodIn_r _ [21, 22, 23, 24] (by decide +kernel) (by decide +kernel)
set_option maxRecDepth 20000 in
theorem gX11_left_J6_bitCount_0f7a4 : GoodIn wsX11_left (va_wsS RX11 292 yJ6_bitCount_0f7a4 wsJ6_bitCount_0f7a4) := goodIn_app (goodIn_of _ (by decide +kernel)) ggX11_left_J6_bitCount_0f7a4
set_option maxRecDepth 20000 in
theorem ggX11_quick_X1_hasHand : GoodIn wsX11_quick wsX1_hasHand := goodIn_r _ [8, 9, 61, 62, 63, 64, 65, 66, 67, 68] (by decide +kernel) (by decide +kernel)
set_option maxRecDepth 20000 in
theorem gX11_quick_X1_hasHand : GoodIn wsX11_quick (wsV RX11 95 RX1 yX1_hasHand wsX1_hasHand) := goodIn_app (goodIn_of _ (by decide +kernel)) ggX11_quick_X1_hasHand
set_option maxRecDepth 20000 in
theorem ggX11_quick_X3_linesDoneBy : GoodIn wsX11_quick wsX3_linesDoneBy := goodIn_r _ [14, 15, 16, 17, 18, 19, 20, 21, 13, 22, 23, 24, 49, 50, 51, 52, 53, 54, 55, 56, 57, 58, 59, 60, 61, 62, 63, 64, 65, 66, 67, 68, 69, 70, 71, 72, 73, 74, 75, 76, 77, 78, 79] (by decide +kernel) (by decide +kernel)
set_option maxRecDepth 20000 in
theorem gX11_quick_X3_linesDoneBy : GoodIn wsX11_quick (wsV RX11 186 RX3 yX3_linesDoneBy wsX3_linesDoneBy) := goodIn_app (goodIn_of _ (by decide +kernel)) ggX11_quick_X3_linesDoneBy
set_option maxRecDepth 20000 in
theorem ggX11_quick_X3_plainMinutesOf : GoodIn wsX11_quick wsX3_plainMinutesOf := goodIn_r _ [28, 15, 16, 17, 19, 20, 21, 13, 22, 23, 24, 29, 30, 31, 32, 33, 34, 35, 36, 37, 38, 49, 50, 51, 52, 53, 54, 55, 56, 57, 58, 59, 60, 61, 62, 63, 64, 65, 66, 67, 68, 69, 70, 71, 72, 73, 74, 75, 76, 77, 78, 79] (by decide +kernel) (by decide +kernel)
set_option maxRecDepth 20000 in
theorem gX11_quick_X3_plainMinutesOf : GoodIn wsX11_quick (wsV RX11 297 RX3 yX3_plainMinutesOf wsX3_plainMinutesOf) := goodIn_app (goodIn_of _ (by decide +kernel)) ggX11_quick_X3_plainMinutesOf
set_option maxRecDepth 20000 in
theorem ggX11_claims_X11_within : GoodIn wsX11_claims wsX11_within := goodIn_r _ [9] (by decide +kernel) (by decide +kernel)
set_option maxRecDepth 20000 in
theorem gX11_claims_X11_within : GoodIn wsX11_claims (va_wsS RX11 68 yX11_within wsX11_within) := goodIn_app (goodIn_of _ (by decide +kernel)) ggX11_claims_X11_within
set_option maxRecDepth 20000 in
theorem ggX11_claims_X3_waitedIn : GoodIn wsX11_claims wsX3_waitedIn := goodIn_r _ [14, 15, 16, 17, 18, 19, 20, 75, 76, 77, 78, 79, 80, 81, 82, 83, 84, 85, 86, 56, 57, 58, 59, 60, 61, 62, 63, 64, 65, 66, 67, 68, 69, 70, 71, 72, 73, 74] (by decide +kernel) (by decide +kernel)
set_option maxRecDepth 20000 in
theorem gX11_claims_X3_waitedIn : GoodIn wsX11_claims (wsV RX11 300 RX3 yX3_waitedIn wsX3_waitedIn) := goodIn_app (goodIn_of _ (by decide +kernel)) ggX11_claims_X3_waitedIn
set_option maxRecDepth 20000 in
theorem ggX11_claims_X3_countsFor : GoodIn wsX11_claims wsX3_countsFor := goodIn_r _ [24, 15, 17, 25, 26, 20, 27, 28, 29, 30, 13, 31, 32, 33, 34, 35, 36, 37, 38, 39, 40, 41, 42, 43, 44, 45, 75, 76, 77, 78, 79, 80, 81, 82, 83, 84, 85, 86, 56, 57, 58, 59, 60, 61, 62, 63, 64, 65, 66, 67, 68, 69, 70, 71, 72, 73, 74] (by decide +kernel) (by decide +kernel)
set_option maxRecDepth 20000 in
theorem gX11_claims_X3_countsFor : GoodIn wsX11_claims (wsV RX11 303 RX3 yX3_countsFor wsX3_countsFor) := goodIn_app (goodIn_of _ (by decide +kernel)) ggX11_claims_X3_countsFor
set_option maxRecDepth 20000 in
theorem ggX11_plan_X7_seek : GoodIn wsX11_plan wsX7_seek := goodIn_r _ [15, 16, 17, 18, 19, 20, 21, 22, 23, 14, 24, 25, 26, 27, 28, 29, 30, 31, 32, 33, 34, 35, 36, 37, 38, 39, 40, 41, 42, 43, 44, 45, 46, 47, 48, 49, 50, 51, 52, 53, 54, 55, 56, 57, 58, 59, 60, 61, 62, 63, 64, 65, 66, 67, 68, 69, 70, 71, 72, 73, 74, 75, 76, 77, 78, 79, 80, 81, 82, 83, 84, 85, 86, 87, 88, 89, 90, 91, 92, 93, 94, 95, 96, 97, 98, 99, 100, 101, 102, 103, 104, 105, 106, 107, 108, 109, 110, 111, 112, 113, 114, 115, 116, 117, 118, 119, 120, 121, 7, 8, 9, 122, 123, 124, 125, 126, 127, 128, 129, 130, 131, 132, 133, 134, 135, 136, 137, 138, 139, 140, 141, 142, 143, 144, 145, 146, 147, 148, 149, 150, 151, 152, 153, 154, 155, 156, 157, 158, 159, 160, 161, 162, 163, 164, 165, 166, 167, 168, 169, 170, 171, 182, 183, 184, 185, 186, 187, 188, 189, 190, 191, 192, 193, 194, 195, 196, 197, 198, 199, 200, 201, 202, 203, 204, 205, 206, 207, 208, 209, 210, 211, 212, 213, 214, 215, 216, 217, 218, 219, 220, 221, 222, 223, 224, 225, 226, 227, 228, 229, 230, 231, 232, 233, 234, 235, 236, 237, 238, 239, 240] (by decide +kernel) (by decide +kernel)
set_option maxRecDepth 20000 in
theorem gX11_plan_X7_seek : GoodIn wsX11_plan (wsV RX11 306 RX7 yX7_seek wsX7_seek) := goodIn_app (goodIn_of _ (by decide +kernel)) ggX11_plan_X7_seek
set_option maxRecDepth 20000 in
theorem ggX11_lateness_X7_seek : GoodIn wsX11_lateness wsX7_seek := goodIn_r _ [7, 8, 9, 10, 11, 12, 13, 14, 15, 6, 16, 17, 18, 19, 20, 21, 22, 23, 24, 25, 26, 27, 28, 29, 30, 31, 32, 33, 34, 35, 36, 37, 38, 39, 40, 41, 42, 43, 44, 45, 46, 47, 48, 49, 50, 51, 52, 53, 54, 55, 56, 57, 58, 59, 60, 61, 62, 63, 64, 65, 66, 67, 68, 69, 70, 71, 72, 73, 74, 75, 76, 77, 78, 79, 80, 81, 82, 83, 84, 85, 86, 87, 88, 89, 90, 91, 92, 93, 94, 95, 96, 97, 98, 99, 100, 101, 102, 103, 104, 105, 106, 107, 108, 109, 110, 111, 112, 113, 114, 115, 116, 117, 118, 119, 120, 121, 122, 123, 124, 125, 126, 127, 128, 129, 130, 131, 132, 133, 134, 135, 136, 137, 138, 139, 140, 141, 142, 143, 144, 145, 146, 147, 148, 149, 150, 151, 152, 153, 154, 155, 156, 157, 158, 159, 160, 161, 162, 163, 164, 165, 166, 177, 178, 179, 180, 181, 182, 183, 184, 185, 186, 187, 188, 189, 190, 191, 192, 193, 194, 195, 196, 197, 198, 199, 200, 201, 202, 203, 204, 205, 206, 207, 208, 209, 210, 211, 212, 213, 214, 215, 216, 217, 218, 219, 220, 221, 222, 223, 224, 225, 226, 227, 228, 229, 230, 231, 232, 233, 234, 235] (by decide +kernel) (by decide +kernel)
set_option maxRecDepth 20000 in
theorem gX11_lateness_X7_seek : GoodIn wsX11_lateness (wsV RX11 306 RX7 yX7_seek wsX7_seek) := goodIn_app (goodIn_of _ (by decide +kernel)) ggX11_lateness_X7_seek
set_option maxRecDepth 20000 in
theorem ggX11_tried_X10_isTriable : GoodIn wsX11_tried wsX10_isTriable := goodIn_r _ [11, 12, 13, 14, 212, 213, 214, 215, 216, 217, 218, 219, 220] (by decide +kernel) (by decide +kernel)
set_option maxRecDepth 20000 in
theorem gX11_tried_X10_isTriable : GoodIn wsX11_tried (wsV RX11 327 RX10 yX10_isTriable wsX10_isTriable) := goodIn_app (goodIn_of _ (by decide +kernel)) ggX11_tried_X10_isTriable
set_option maxRecDepth 20000 in
theorem ggX11_tried_X11_canGoOn : GoodIn wsX11_tried wsX11_canGoOn := goodIn_r _ [19, 3, 20, 21, 22, 18, 23, 202, 203, 204, 205, 206, 207, 208, 209, 210, 211, 221, 222, 223, 224, 225, 226, 227, 228, 229, 230, 231, 232] (by decide +kernel) (by decide +kernel)
set_option maxRecDepth 20000 in
theorem gX11_tried_X11_canGoOn : GoodIn wsX11_tried (wsV RX11 163 RX11 yX11_canGoOn wsX11_canGoOn) := goodIn_app (goodIn_of _ (by decide +kernel)) ggX11_tried_X11_canGoOn
set_option maxRecDepth 20000 in
theorem ggX11_tried_X3_takeOver : GoodIn wsX11_tried wsX3_takeOver := goodIn_r _ [28, 29, 30, 31, 32, 33, 34, 35, 36, 37, 38, 39, 40, 41, 42, 221, 222, 223, 224, 225, 226, 227, 228, 229, 230, 231, 232] (by decide +kernel) (by decide +kernel)
set_option maxRecDepth 20000 in
theorem gX11_tried_X3_takeOver : GoodIn wsX11_tried (wsV RX11 330 RX3 yX3_takeOver wsX3_takeOver) := goodIn_app (goodIn_of _ (by decide +kernel)) ggX11_tried_X3_takeOver
set_option maxRecDepth 20000 in
theorem ggX11_tried_X3_runOn : GoodIn wsX11_tried wsX3_runOn := goodIn_r _ [46, 29, 47, 48, 49, 50, 51, 52, 53, 54, 55, 56, 57, 58, 59, 60, 27, 61, 62, 30, 63, 64, 65, 66, 67, 68, 69, 70, 71, 40, 39, 72, 73, 74, 75, 76, 77, 78, 79, 80, 81, 82, 83, 84, 85, 86, 87, 88, 89, 90, 91, 92, 10, 93, 14, 94, 12, 13, 95, 96, 97, 98, 99, 100, 101, 102, 103, 104, 105, 106, 107, 108, 109, 110, 111, 112, 113, 114, 115, 116, 117, 118, 119, 36, 120, 121, 122, 123, 124, 125, 126, 127, 128, 129, 130, 131, 132, 133, 134, 135, 136, 137, 138, 139, 140, 35, 38, 42, 141, 142, 143, 144, 145, 146, 147, 148, 149, 150, 151, 152, 153, 154, 155, 156, 41, 157, 158, 159, 160, 161, 162, 163, 164, 165, 166, 167, 168, 169, 170, 171, 172, 173, 174, 175, 18, 176, 177, 178, 179, 180, 37, 181, 182, 183, 184, 185, 221, 222, 223, 224, 225, 226, 227, 228, 229, 230, 231, 232, 233, 234, 235, 236, 237, 238, 239, 240, 241, 242, 243, 244, 245, 246, 247, 248, 249, 250, 251, 252, 253, 254, 255, 256, 257, 212, 213, 214, 215, 216, 217, 218, 219, 220] (by decide +kernel) (by decide +kernel)
set_option maxRecDepth 20000 in
theorem gX11_tried_X3_runOn : GoodIn wsX11_tried (wsV RX11 167 RX3 yX3_runOn wsX3_runOn) := goodIn_app (goodIn_of _ (by decide +kernel)) ggX11_tried_X3_runOn
set_option maxRecDepth 20000 in
theorem ggX11_tried_X3_waitedIn : GoodIn wsX11_tried wsX3_waitedIn := goodIn_r _ [189, 47, 67, 72, 85, 39, 73, 221, 222, 223, 224, 225, 226, 227, 228, 229, 230, 231, 232, 233, 234, 235, 236, 237, 238, 239, 240, 244, 245, 246, 247, 248, 249, 250, 251, 252, 253, 254] (by decide +kernel) (by decide +kernel)
set_option maxRecDepth 20000 in
theorem gX11_tried_X3_waitedIn : GoodIn wsX11_tried (wsV RX11 300 RX3 yX3_waitedIn wsX3_waitedIn) := goodIn_app (goodIn_of _ (by decide +kernel)) ggX11_tried_X3_waitedIn
set_option maxRecDepth 20000 in
theorem ggX11_tried_X3_lateOnes : GoodIn wsX11_tried wsX3_lateOnes := goodIn_r _ [193, 47, 67, 194, 195, 196, 27, 197, 198, 199, 200, 201, 40, 29, 72, 119, 146, 147, 148, 149, 221, 222, 223, 224, 225, 226, 227, 228, 229, 230, 231, 232, 233, 234, 235, 236, 237, 238, 239, 240, 244, 245, 246, 247, 248, 249, 250, 251, 252, 253, 254] (by decide +kernel) (by decide +kernel)
set_option maxRecDepth 20000 in
theorem gX11_tried_X3_lateOnes : GoodIn wsX11_tried (wsV RX11 242 RX3 yX3_lateOnes wsX3_lateOnes) := goodIn_app (goodIn_of _ (by decide +kernel)) ggX11_tried_X3_lateOnes
set_option maxRecDepth 20000 in
theorem ggX11_ill_X1_hasHand : GoodIn wsX11_ill wsX1_hasHand := goodIn_r _ [10, 11, 208, 209, 210, 211, 212, 213, 214, 215] (by decide +kernel) (by decide +kernel)
set_option maxRecDepth 20000 in
theorem gX11_ill_X1_hasHand : GoodIn wsX11_ill (wsV RX11 95 RX1 yX1_hasHand wsX1_hasHand) := goodIn_app (goodIn_of _ (by decide +kernel)) ggX11_ill_X1_hasHand
set_option maxRecDepth 20000 in
theorem ggX11_ill_X11_canGoOn : GoodIn wsX11_ill wsX11_canGoOn := goodIn_r _ [16, 5, 17, 18, 19, 15, 20, 198, 199, 200, 201, 202, 203, 204, 205, 206, 207, 216, 217, 218, 219, 220, 221, 222, 223, 224, 225, 226, 227] (by decide +kernel) (by decide +kernel)
set_option maxRecDepth 20000 in
theorem gX11_ill_X11_canGoOn : GoodIn wsX11_ill (wsV RX11 163 RX11 yX11_canGoOn wsX11_canGoOn) := goodIn_app (goodIn_of _ (by decide +kernel)) ggX11_ill_X11_canGoOn
set_option maxRecDepth 20000 in
theorem ggX11_ill_X3_takeOver : GoodIn wsX11_ill wsX3_takeOver := goodIn_r _ [25, 26, 27, 28, 29, 30, 31, 32, 33, 34, 35, 36, 37, 38, 39, 216, 217, 218, 219, 220, 221, 222, 223, 224, 225, 226, 227] (by decide +kernel) (by decide +kernel)
set_option maxRecDepth 20000 in
theorem gX11_ill_X3_takeOver : GoodIn wsX11_ill (wsV RX11 330 RX3 yX3_takeOver wsX3_takeOver) := goodIn_app (goodIn_of _ (by decide +kernel)) ggX11_ill_X3_takeOver
set_option maxRecDepth 20000 in
theorem ggX11_ill_X3_runOn : GoodIn wsX11_ill wsX3_runOn := goodIn_r _ [43, 26, 44, 45, 46, 47, 9, 48, 49, 50, 51, 52, 53, 54, 55, 56, 24, 57, 58, 27, 59, 60, 61, 62, 63, 64, 65, 66, 67, 37, 36, 68, 69, 70, 71, 72, 73, 74, 75, 76, 77, 78, 79, 80, 81, 82, 83, 84, 85, 86, 87, 88, 89, 90, 91, 92, 93, 94, 95, 96, 97, 98, 99, 100, 101, 102, 103, 104, 105, 106, 107, 108, 109, 110, 111, 112, 113, 114, 115, 116, 117, 118, 119, 33, 120, 121, 122, 123, 124, 125, 126, 127, 128, 129, 130, 131, 132, 133, 134, 135, 136, 137, 138, 139, 140, 32, 35, 39, 141, 142, 143, 144, 145, 146, 147, 148, 149, 150, 151, 152, 153, 154, 155, 156, 38, 157, 158, 159, 160, 161, 162, 163, 164, 165, 166, 167, 168, 169, 170, 171, 172, 173, 174, 175, 15, 176, 177, 178, 179, 180, 34, 181, 182, 183, 184, 185, 216, 217, 218, 219, 220, 221, 222, 223, 224, 225, 226, 227, 208, 209, 210, 211, 212, 213, 214, 215, 228, 229, 230, 231, 232, 233, 234, 235, 236, 237, 238, 239, 240, 241, 242, 243, 244, 245, 246, 247, 248, 249, 250, 251, 252, 253] (by decide +kernel) (by decide +kernel)
set_option maxRecDepth 20000 in
theorem gX11_ill_X3_runOn : GoodIn wsX11_ill (wsV RX11 167 RX3 yX3_runOn wsX3_runOn) := goodIn_app (goodIn_of _ (by decide +kernel)) ggX11_ill_X3_runOn
set_option maxRecDepth 20000 in
theorem ggX11_ill_X3_lateOnes : GoodIn wsX11_ill wsX3_lateOnes := goodIn_r _ [189, 44, 63, 190, 191, 192, 24, 193, 194, 195, 196, 197, 37, 26, 68, 119, 146, 147, 148, 149, 216, 217, 218, 219, 220, 221, 222, 223, 224, 225, 226, 227, 208, 209, 210, 211, 212, 213, 214, 215, 231, 232, 233, 234, 235, 236, 237, 238, 239, 240, 241] (by decide +kernel) (by decide +kernel)
set_option maxRecDepth 20000 in
theorem gX11_ill_X3_lateOnes : GoodIn wsX11_ill (wsV RX11 242 RX3 yX3_lateOnes wsX3_lateOnes) := goodIn_app (goodIn_of _ (by decide +kernel)) ggX11_ill_X3_lateOnes
set_option maxRecDepth 20000 in
theorem ggX11_canGoOn_X11_within : GoodIn wsX11_canGoOn wsX11_within := goodIn_r _ [6] (by decide +kernel) (by decide +kernel)
set_option maxRecDepth 20000 in
theorem gX11_canGoOn_X11_within : GoodIn wsX11_canGoOn (va_wsS RX11 68 yX11_within wsX11_within) := goodIn_app (goodIn_of _ (by decide +kernel)) ggX11_canGoOn_X11_within
set_option maxRecDepth 20000 in
theorem ggX12_init_J0_length_8abf5 : GoodIn wsX12_init wsJ0_length_8abf5 := goodIn_r _ [49, 50, 51, 52, 53, 48, 54, 55, 56] (by decide +kernel) (by decide +kernel)
set_option maxRecDepth 20000 in
theorem gX12_init_J0_length_8abf5 : GoodIn wsX12_init (wsV RX12 73 RJ0 yJ0_length_8abf5 wsJ0_length_8abf5) := goodIn_app (goodIn_of _ (by decide +kernel)) ggX12_init_J0_length_8abf5
set_option maxRecDepth 20000 in
theorem ggX12_init_J0_charAt_5068e : GoodIn wsX12_init wsJ0_charAt_5068e := goodIn_r _ [60, 50, 61, 62, 63, 48, 64, 55, 56, 65, 66, 67, 68, 69, 70, 71, 72, 73, 74, 75, 76, 77, 78, 79, 80, 81, 82, 83, 84, 85, 86, 87, 88, 89, 90, 91, 92, 93] (by decide +kernel) (by decide +kernel)
set_option maxRecDepth 20000 in
theorem gX12_init_J0_charAt_5068e : GoodIn wsX12_init (wsV RX12 135 RJ0 yJ0_charAt_5068e wsJ0_charAt_5068e) := goodIn_app (goodIn_of _ (by decide +kernel)) ggX12_init_J0_charAt_5068e
set_option maxRecDepth 20000 in
theorem ggX12_isHand_X12_in : GoodIn wsX12_isHand wsX12_in := goodIn_r _ [5] (by decide +kernel) (by decide +kernel)
set_option maxRecDepth 20000 in
theorem gX12_isHand_X12_in : GoodIn wsX12_isHand (va_wsS RX12 145 yX12_in wsX12_in) := goodIn_app (goodIn_of _ (by decide +kernel)) ggX12_isHand_X12_in
set_option maxRecDepth 20000 in
theorem ggX12_isPiece_X12_in : GoodIn wsX12_isPiece wsX12_in := goodIn_r _ [5] (by decide +kernel) (by decide +kernel)
set_option maxRecDepth 20000 in
theorem gX12_isPiece_X12_in : GoodIn wsX12_isPiece (va_wsS RX12 145 yX12_in wsX12_in) := goodIn_app (goodIn_of _ (by decide +kernel)) ggX12_isPiece_X12_in
set_option maxRecDepth 20000 in
theorem ggX12_post_X12_in : GoodIn wsX12_post wsX12_in := goodIn_r _ [7] (by decide +kernel) (by decide +kernel)
set_option maxRecDepth 20000 in
theorem gX12_post_X12_in : GoodIn wsX12_post (va_wsS RX12 145 yX12_in wsX12_in) := goodIn_app (goodIn_of _ (by decide +kernel)) ggX12_post_X12_in
set_option maxRecDepth 20000 in
theorem ggX12_hand_X12_in : GoodIn wsX12_hand wsX12_in := goodIn_r _ [10] (by decide +kernel) (by decide +kernel)
set_option maxRecDepth 20000 in
theorem gX12_hand_X12_in : GoodIn wsX12_hand (va_wsS RX12 145 yX12_in wsX12_in) := goodIn_app (goodIn_of _ (by decide +kernel)) ggX12_hand_X12_in
set_option maxRecDepth 20000 in
theorem ggX12_hand_X12_put : GoodIn wsX12_hand wsX12_put := goodIn_r _ [14, 15, 16, 17, 18, 19, 20, 21, 22, 23, 24, 25, 26, 27, 28, 29, 30, 31, 32, 33, 34, 35, 36, 37, 38, 39, 40, 41, 42, 43, 44, 45, 46, 47, 48, 49, 50, 51, 52, 53, 54, 55, 56, 57, 58, 59, 60, 61, 62, 63, 64, 65, 66, 67, 68, 69, 70, 71, 72, 73] (by decide +kernel) (by decide +kernel)
set_option maxRecDepth 20000 in
theorem gX12_hand_X12_put : GoodIn wsX12_hand (wsV RX12 156 RX12 yX12_put wsX12_put) := goodIn_app (goodIn_of _ (by decide +kernel)) ggX12_hand_X12_put
set_option maxRecDepth 20000 in
theorem ggX12_away_X12_isHand : GoodIn wsX12_away wsX12_isHand := goodIn_r _ [10, 11, 12, 13, 9, 14, 20, 21, 22, 23, 24, 25, 26, 27, 28, 29, 30, 31, 32, 33, 34, 35, 36, 37, 38, 39, 40, 41, 42, 43, 44, 45, 46, 47, 48, 49, 50, 51, 52, 53, 54, 55, 56, 57, 58, 59, 60, 61, 62, 63, 64, 65, 66, 67, 68, 69, 70, 71, 72, 73, 74, 75, 76, 77] (by decide +kernel) (by decide +kernel)
set_option maxRecDepth 20000 in
theorem gX12_away_X12_isHand : GoodIn wsX12_away (wsV RX12 160 RX12 yX12_isHand wsX12_isHand) := goodIn_app (goodIn_of _ (by decide +kernel)) ggX12_away_X12_isHand
set_option maxRecDepth 20000 in
theorem ggX12_away_X12_now : GoodIn wsX12_away wsX12_now := goodIn_r _ [18, 19, 20, 21, 22, 23, 24, 25, 26, 27, 28, 29, 30, 31, 32, 33, 34, 35, 36, 37, 38, 39, 40, 41, 42, 43, 44, 45, 46, 47, 48, 49, 50, 51, 52, 53, 54, 55, 56, 57, 58, 59, 60, 61, 62, 63, 64, 65, 66, 67, 68, 69, 70, 71, 72, 73, 74, 75, 76, 77] (by decide +kernel) (by decide +kernel)
set_option maxRecDepth 20000 in
theorem gX12_away_X12_now : GoodIn wsX12_away (wsV RX12 164 RX12 yX12_now wsX12_now) := goodIn_app (goodIn_of _ (by decide +kernel)) ggX12_away_X12_now
set_option maxRecDepth 20000 in
theorem ggX12_isAway_X12_in : GoodIn wsX12_isAway wsX12_in := goodIn_r _ [8] (by decide +kernel) (by decide +kernel)
set_option maxRecDepth 20000 in
theorem gX12_isAway_X12_in : GoodIn wsX12_isAway (va_wsS RX12 145 yX12_in wsX12_in) := goodIn_app (goodIn_of _ (by decide +kernel)) ggX12_isAway_X12_in
set_option maxRecDepth 20000 in
theorem ggX12_piece___X12_in : GoodIn wsX12_piece__ wsX12_in := goodIn_r _ [16] (by decide +kernel) (by decide +kernel)
set_option maxRecDepth 20000 in
theorem gX12_piece___X12_in : GoodIn wsX12_piece__ (va_wsS RX12 145 yX12_in wsX12_in) := goodIn_app (goodIn_of _ (by decide +kernel)) ggX12_piece___X12_in
set_option maxRecDepth 20000 in
theorem ggX12_piece___X12_now : GoodIn wsX12_piece__ wsX12_now := goodIn_r _ [20, 21, 30, 31, 32, 33, 34, 35, 36, 37, 38, 39, 40, 41, 42, 43, 44, 45, 46, 47, 48, 49, 50, 51, 52, 53, 54, 55, 56, 57, 58, 59, 60, 61, 62, 63, 64, 65, 66, 67, 68, 69, 70, 71, 72, 73, 74, 75, 76, 77, 78, 79, 80, 81, 82, 83, 84, 85, 86, 87] (by decide +kernel) (by decide +kernel)
set_option maxRecDepth 20000 in
theorem gX12_piece___X12_now : GoodIn wsX12_piece__ (wsV RX12 164 RX12 yX12_now wsX12_now) := goodIn_app (goodIn_of _ (by decide +kernel)) ggX12_piece___X12_now
set_option maxRecDepth 20000 in
theorem ggX12_piece___X12_piece_ : GoodIn wsX12_piece__ wsX12_piece_ := goodIn_r _ [25, 21, 30, 31, 32, 33, 34, 35, 36, 37, 38, 39, 40, 41, 42, 43, 44, 45, 46, 47, 48, 49, 50, 51, 52, 53, 54, 55, 56, 57, 58, 59, 60, 61, 62, 63, 64, 65, 66, 67, 68, 69, 70, 71, 72, 73, 74, 75, 76, 77, 78, 79, 80, 81, 82, 83, 84, 85, 86, 87] (by decide +kernel) (by decide +kernel)
set_option maxRecDepth 20000 in
theorem gX12_piece___X12_piece_ : GoodIn wsX12_piece__ (wsV RX12 170 RX12 yX12_piece_ wsX12_piece_) := goodIn_app (goodIn_of _ (by decide +kernel)) ggX12_piece___X12_piece_
set_option maxRecDepth 20000 in
theorem ggX12_piece___X12_work : GoodIn wsX12_piece__ wsX12_work := goodIn_r _ [29, 6, 12, 30, 31, 32, 33, 34, 35, 36, 37, 38, 39, 40, 41, 42, 43, 44, 45, 46, 47, 48, 49, 50, 51, 52, 53, 54, 55, 56, 57, 58, 59, 60, 61, 62, 63, 64, 65, 66, 67, 68, 69, 70, 71, 72, 73, 74, 75, 76, 77, 78, 79, 80, 81, 82, 83, 84, 85, 86, 87] (by decide +kernel) (by decide +kernel)
set_option maxRecDepth 20000 in
theorem gX12_piece___X12_work : GoodIn wsX12_piece__ (wsV RX12 173 RX12 yX12_work wsX12_work) := goodIn_app (goodIn_of _ (by decide +kernel)) ggX12_piece___X12_work
set_option maxRecDepth 20000 in
theorem ggX12_end_X12_in : GoodIn wsX12_end wsX12_in := goodIn_r _ [6] (by decide +kernel) (by decide +kernel)
set_option maxRecDepth 20000 in
theorem gX12_end_X12_in : GoodIn wsX12_end (va_wsS RX12 145 yX12_in wsX12_in) := goodIn_app (goodIn_of _ (by decide +kernel)) ggX12_end_X12_in
set_option maxRecDepth 20000 in
theorem ggX12_open_X12_names : GoodIn wsX12_open wsX12_names := goodIn_r _ [10] (by decide +kernel) (by decide +kernel)
set_option maxRecDepth 20000 in
theorem gX12_open_X12_names : GoodIn wsX12_open (va_wsS RX12 203 yX12_names wsX12_names) := goodIn_app (goodIn_of _ (by decide +kernel)) ggX12_open_X12_names
set_option maxRecDepth 20000 in
theorem ggX12_comes_X12_here : GoodIn wsX12_comes wsX12_here := goodIn_r _ [6, 1, 7, 8, 9, 10, 11, 12, 13, 14, 15, 16, 17, 18, 19, 20, 21, 22, 23, 24, 25, 26, 27, 28, 29, 30, 31, 32, 33, 34, 35, 36, 37, 38, 39, 40, 41, 42, 43, 44, 45, 46, 47, 48, 49, 50, 51, 52, 53, 54, 55, 56, 57, 58, 59, 60, 61, 62, 63, 64, 65, 66, 67] (by decide +kernel) (by decide +kernel)
set_option maxRecDepth 20000 in
theorem gX12_comes_X12_here : GoodIn wsX12_comes (wsV RX12 211 RX12 yX12_here wsX12_here) := goodIn_app (goodIn_of _ (by decide +kernel)) ggX12_comes_X12_here
set_option maxRecDepth 20000 in
theorem ggX12_isDigit_X12_here : GoodIn wsX12_isDigit wsX12_here := goodIn_r _ [5, 6, 7, 8, 9, 10, 11, 12, 13, 14, 15, 16, 17, 18, 19, 20, 21, 22, 23, 24, 25, 26, 27, 28, 29, 30, 31, 32, 33, 34, 35, 36, 37, 38, 39, 40, 41, 42, 43, 44, 45, 46, 47, 48, 49, 50, 51, 52, 53, 54, 55, 56, 57, 58, 59, 60, 61, 62, 63, 64, 65, 66, 67] (by decide +kernel) (by decide +kernel)
set_option maxRecDepth 20000 in
theorem gX12_isDigit_X12_here : GoodIn wsX12_isDigit (wsV RX12 211 RX12 yX12_here wsX12_here) := goodIn_app (goodIn_of _ (by decide +kernel)) ggX12_isDigit_X12_here
set_option maxRecDepth 20000 in
theorem ggX12_any_X12_both : GoodIn wsX12_any wsX12_both := goodIn_r _ [22, 23, 24, 25, 4, 5, 6, 7, 8, 9, 10, 11, 12, 13, 14, 15, 16, 17, 18, 19, 20, 21, 0, 1, 2, 3, 26, 27, 28, 29, 30, 31, 32, 33, 34, 35, 36, 37, 38, 39, 40, 41, 42, 43, 44, 45, 46, 47, 48, 49, 50, 51, 52, 53, 54, 55, 56, 57, 58, 59, 60, 61, 62, 63, 64, 65, 66, 67, 68, 69, 70, 71, 72, 73, 74, 75, 76, 77, 78, 79, 80, 81, 82, 83, 84, 85, 86, 87, 88, 89, 90, 91, 92, 93, 94, 95, 96, 97, 98, 99, 100, 101, 102, 103, 104, 105, 106, 107, 108, 109, 110, 111, 112, 113, 114, 115, 116, 117, 118, 119, 120, 121, 122, 123, 124, 125, 126, 127, 128, 129, 130, 131, 132, 133, 134, 135, 136, 137, 138, 139, 140, 141, 142, 143, 144, 145, 146, 147, 148, 149, 150, 151, 152, 153, 154, 155, 156, 157, 158, 159, 160, 161, 162, 163, 164, 165, 166, 167, 168, 169, 170, 171, 172, 173, 174, 175, 176, 177, 178, 179, 180, 181, 182, 183, 184, 185, 186, 187, 188, 189, 190, 191, 192, 193, 194, 195, 196, 197, 198] (by decide +kernel) (by decide +kernel)
set_option maxRecDepth 20000 in
theorem gX12_any_X12_both : GoodIn wsX12_any (wsV RX12 214 RX12 yX12_both wsX12_both) := goodIn_app (goodIn_of _ (by decide +kernel)) ggX12_any_X12_both
set_option maxRecDepth 20000 in
theorem ggX12_any_X12_fine : GoodIn wsX12_any wsX12_fine := goodIn_r _ [8, 9, 141, 142, 143, 144, 145, 146, 147, 148, 149, 150, 151, 152, 153, 154, 155, 156, 157, 158, 159, 160, 161, 162, 163, 164, 165, 166, 167, 168, 169, 170, 171, 172, 173, 174, 175, 176, 177, 178, 179, 180, 181, 182, 183, 184, 185, 186, 187, 188, 189, 190, 191, 192, 193, 194, 195, 196, 197, 198] (by decide +kernel) (by decide +kernel)
set_option maxRecDepth 20000 in
theorem gX12_any_X12_fine : GoodIn wsX12_any (wsV RX12 217 RX12 yX12_fine wsX12_fine) := goodIn_app (goodIn_of _ (by decide +kernel)) ggX12_any_X12_fine
set_option maxRecDepth 20000 in
theorem ggX12_any_X12_comes : GoodIn wsX12_any wsX12_comes := goodIn_r _ [13, 14, 15, 16, 17, 4, 18, 19, 20, 21, 141, 142, 143, 144, 145, 146, 147, 148, 149, 150, 151, 152, 153, 154, 155, 156, 157, 158, 159, 160, 161, 162, 163, 164, 165, 166, 167, 168, 169, 170, 171, 172, 173, 174, 175, 176, 177, 178, 179, 180, 181, 182, 183, 184, 185, 186, 187, 188, 189, 190, 191, 192, 193, 194, 195, 196, 197, 198] (by decide +kernel) (by decide +kernel)
set_option maxRecDepth 20000 in
theorem gX12_any_X12_comes : GoodIn wsX12_any (wsV RX12 221 RX12 yX12_comes wsX12_comes) := goodIn_app (goodIn_of _ (by decide +kernel)) ggX12_any_X12_comes
set_option maxRecDepth 20000 in
theorem ggX12_both_X12_held : GoodIn wsX12_both wsX12_held := goodIn_r _ [26, 27, 28, 29, 4, 5, 6, 7, 8, 9, 10, 11, 12, 13, 14, 15, 16, 17, 18, 19, 20, 21, 22, 23, 24, 25, 0, 1, 2, 3, 30, 31, 32, 33, 34, 35, 36, 37, 38, 39, 40, 41, 42, 43, 44, 45, 46, 47, 48, 49, 50, 51, 52, 53, 54, 55, 56, 57, 58, 59, 60, 61, 62, 63, 64, 65, 66, 67, 68, 69, 70, 71, 72, 73, 74, 75, 76, 77, 78, 79, 80, 81, 82, 83, 84, 85, 86, 87, 88, 89, 90, 91, 92, 93, 94, 95, 96, 97, 98, 99, 100, 101, 102, 103, 104, 105, 106, 107, 108, 109, 110, 111, 112, 113, 114, 115, 116, 117, 118, 119, 120, 121, 122, 123, 124, 125, 126, 127, 128, 129, 130, 131, 132, 133, 134, 135, 136, 137, 138, 139, 140, 141, 142, 143, 144, 145, 146, 147, 148, 149, 150, 151, 152, 153, 154, 155, 156, 157, 158, 159, 160, 161, 162, 163, 164, 165, 166, 167, 168, 169, 170, 171, 172, 173, 174, 175, 176, 177, 178, 179, 180, 181, 182, 183, 184, 185, 186, 187, 188, 189, 190, 191, 192, 193, 194, 195, 196, 197, 198] (by decide +kernel) (by decide +kernel)
set_option maxRecDepth 20000 in
theorem gX12_both_X12_held : GoodIn wsX12_both (wsV RX12 224 RX12 yX12_held wsX12_held) := goodIn_app (goodIn_of _ (by decide +kernel)) ggX12_both_X12_held
set_option maxRecDepth 20000 in
theorem ggX12_both_X12_fine : GoodIn wsX12_both wsX12_fine := goodIn_r _ [8, 9, 141, 142, 143, 144, 145, 146, 147, 148, 149, 150, 151, 152, 153, 154, 155, 156, 157, 158, 159, 160, 161, 162, 163, 164, 165, 166, 167, 168, 169, 170, 171, 172, 173, 174, 175, 176, 177, 178, 179, 180, 181, 182, 183, 184, 185, 186, 187, 188, 189, 190, 191, 192, 193, 194, 195, 196, 197, 198] (by decide +kernel) (by decide +kernel)
set_option maxRecDepth 20000 in
theorem gX12_both_X12_fine : GoodIn wsX12_both (wsV RX12 217 RX12 yX12_fine wsX12_fine) := goodIn_app (goodIn_of _ (by decide +kernel)) ggX12_both_X12_fine
set_option maxRecDepth 20000 in
theorem ggX12_both_X12_comes : GoodIn wsX12_both wsX12_comes := goodIn_r _ [13, 14, 15, 16, 17, 4, 18, 19, 20, 21, 141, 142, 143, 144, 145, 146, 147, 148, 149, 150, 151, 152, 153, 154, 155, 156, 157, 158, 159, 160, 161, 162, 163, 164, 165, 166, 167, 168, 169, 170, 171, 172, 173, 174, 175, 176, 177, 178, 179, 180, 181, 182, 183, 184, 185, 186, 187, 188, 189, 190, 191, 192, 193, 194, 195, 196, 197, 198] (by decide +kernel) (by decide +kernel)
set_option maxRecDepth 20000 in
theorem gX12_both_X12_comes : GoodIn wsX12_both (wsV RX12 221 RX12 yX12_comes wsX12_comes) := goodIn_app (goodIn_of _ (by decide +kernel)) ggX12_both_X12_comes
set_option maxRecDepth 20000 in
theorem ggX12_held_X12_sum : GoodIn wsX12_held wsX12_sum := goodIn_r _ [34, 35, 36, 37, 4, 5, 6, 7, 8, 9, 10, 11, 12, 13, 14, 15, 16, 17, 18, 19, 20, 21, 22, 23, 24, 25, 26, 27, 28, 29, 0, 1, 2, 3, 30, 31, 32, 33, 38, 39, 40, 41, 42, 43, 44, 45, 46, 47, 48, 49, 50, 51, 52, 53, 54, 55, 56, 57, 58, 59, 60, 61, 62, 63, 64, 65, 66, 67, 68, 69, 70, 71, 72, 73, 74, 75, 76, 77, 78, 79, 80, 81, 82, 83, 84, 85, 86, 87, 88, 89, 90, 91, 92, 93, 94, 95, 96, 97, 98, 99, 100, 101, 102, 103, 104, 105, 106, 107, 108, 109, 110, 111, 112, 113, 114, 115, 116, 117, 118, 119, 120, 121, 122, 123, 124, 125, 126, 127, 128, 129, 130, 131, 132, 133, 134, 135, 136, 137, 138, 139, 140, 141, 142, 143, 144, 145, 146, 147, 148, 149, 150, 151, 152, 153, 154, 155, 156, 157, 158, 159, 160, 161, 162, 163, 164, 165, 166, 167, 168, 169, 170, 171, 172, 173, 174, 175, 176, 177, 178, 179, 180, 181, 182, 183, 184, 185, 186, 187, 188, 189, 190, 191, 192, 193, 194, 195, 196, 197, 198] (by decide +kernel) (by decide +kernel)
set_option maxRecDepth 20000 in
theorem gX12_held_X12_sum : GoodIn wsX12_held (wsV RX12 227 RX12 yX12_sum wsX12_sum) := goodIn_app (goodIn_of _ (by decide +kernel)) ggX12_held_X12_sum
set_option maxRecDepth 20000 in
theorem ggX12_held_X12_fine : GoodIn wsX12_held wsX12_fine := goodIn_r _ [8, 9, 141, 142, 143, 144, 145, 146, 147, 148, 149, 150, 151, 152, 153, 154, 155, 156, 157, 158, 159, 160, 161, 162, 163, 164, 165, 166, 167, 168, 169, 170, 171, 172, 173, 174, 175, 176, 177, 178, 179, 180, 181, 182, 183, 184, 185, 186, 187, 188, 189, 190, 191, 192, 193, 194, 195, 196, 197, 198] (by decide +kernel) (by decide +kernel)
set_option maxRecDepth 20000 in
theorem gX12_held_X12_fine : GoodIn wsX12_held (wsV RX12 217 RX12 yX12_fine wsX12_fine) := goodIn_app (goodIn_of _ (by decide +kernel)) ggX12_held_X12_fine
set_option maxRecDepth 20000 in
theorem ggX12_held_X12_comes : GoodIn wsX12_held wsX12_comes := goodIn_r _ [13, 14, 15, 16, 17, 4, 18, 19, 20, 21, 141, 142, 143, 144, 145, 146, 147, 148, 149, 150, 151, 152, 153, 154, 155, 156, 157, 158, 159, 160, 161, 162, 163, 164, 165, 166, 167, 168, 169, 170, 171, 172, 173, 174, 175, 176, 177, 178, 179, 180, 181, 182, 183, 184, 185, 186, 187, 188, 189, 190, 191, 192, 193, 194, 195, 196, 197, 198] (by decide +kernel) (by decide +kernel)
set_option maxRecDepth 20000 in
theorem gX12_held_X12_comes : GoodIn wsX12_held (wsV RX12 221 RX12 yX12_comes wsX12_comes) := goodIn_app (goodIn_of _ (by decide +kernel)) ggX12_held_X12_comes
set_option maxRecDepth 20000 in
theorem ggX12_sum_X12_product : GoodIn wsX12_sum wsX12_product := goodIn_r _ [34, 35, 36, 37, 4, 5, 6, 7, 8, 9, 10, 11, 12, 13, 14, 15, 16, 17, 18, 19, 20, 21, 22, 23, 24, 25, 26, 27, 28, 29, 30, 31, 32, 33, 0, 1, 2, 3, 38, 39, 40, 41, 42, 43, 44, 45, 46, 47, 48, 49, 50, 51, 52, 53, 54, 55, 56, 57, 58, 59, 60, 61, 62, 63, 64, 65, 66, 67, 68, 69, 70, 71, 72, 73, 74, 75, 76, 77, 78, 79, 80, 81, 82, 83, 84, 85, 86, 87, 88, 89, 90, 91, 92, 93, 94, 95, 96, 97, 98, 99, 100, 101, 102, 103, 104, 105, 106, 107, 108, 109, 110, 111, 112, 113, 114, 115, 116, 117, 118, 119, 120, 121, 122, 123, 124, 125, 126, 127, 128, 129, 130, 131, 132, 133, 134, 135, 136, 137, 138, 139, 140, 141, 142, 143, 144, 145, 146, 147, 148, 149, 150, 151, 152, 153, 154, 155, 156, 157, 158, 159, 160, 161, 162, 163, 164, 165, 166, 167, 168, 169, 170, 171, 172, 173, 174, 175, 176, 177, 178, 179, 180, 181, 182, 183, 184, 185, 186, 187, 188, 189, 190, 191, 192, 193, 194, 195, 196, 197, 198] (by decide +kernel) (by decide +kernel)
set_option maxRecDepth 20000 in
theorem gX12_sum_X12_product : GoodIn wsX12_sum (wsV RX12 230 RX12 yX12_product wsX12_product) := goodIn_app (goodIn_of _ (by decide +kernel)) ggX12_sum_X12_product
set_option maxRecDepth 20000 in
theorem ggX12_sum_X12_fine : GoodIn wsX12_sum wsX12_fine := goodIn_r _ [8, 9, 141, 142, 143, 144, 145, 146, 147, 148, 149, 150, 151, 152, 153, 154, 155, 156, 157, 158, 159, 160, 161, 162, 163, 164, 165, 166, 167, 168, 169, 170, 171, 172, 173, 174, 175, 176, 177, 178, 179, 180, 181, 182, 183, 184, 185, 186, 187, 188, 189, 190, 191, 192, 193, 194, 195, 196, 197, 198] (by decide +kernel) (by decide +kernel)
set_option maxRecDepth 20000 in
theorem gX12_sum_X12_fine : GoodIn wsX12_sum (wsV RX12 217 RX12 yX12_fine wsX12_fine) := goodIn_app (goodIn_of _ (by decide +kernel)) ggX12_sum_X12_fine
set_option maxRecDepth 20000 in
theorem ggX12_sum_X12_comes : GoodIn wsX12_sum wsX12_comes := goodIn_r _ [13, 14, 15, 16, 17, 4, 18, 19, 20, 21, 141, 142, 143, 144, 145, 146, 147, 148, 149, 150, 151, 152, 153, 154, 155, 156, 157, 158, 159, 160, 161, 162, 163, 164, 165, 166, 167, 168, 169, 170, 171, 172, 173, 174, 175, 176, 177, 178, 179, 180, 181, 182, 183, 184, 185, 186, 187, 188, 189, 190, 191, 192, 193, 194, 195, 196, 197, 198] (by decide +kernel) (by decide +kernel)
set_option maxRecDepth 20000 in
theorem gX12_sum_X12_comes : GoodIn wsX12_sum (wsV RX12 221 RX12 yX12_comes wsX12_comes) := goodIn_app (goodIn_of _ (by decide +kernel)) ggX12_sum_X12_comes
set_option maxRecDepth 20000 in
theorem ggX12_product_X12_thing : GoodIn wsX12_product wsX12_thing := goodIn_r _ [38, 14, 39, 40, 10, 11, 12, 4, 13, 15, 16, 17, 18, 19, 20, 21, 1, 2, 3, 41, 42, 43, 44, 9, 45, 46, 47, 5, 6, 7, 8, 48, 49, 50, 51, 52, 53, 54, 55, 56, 57, 58, 59, 60, 61, 62, 63, 64, 65, 66, 67, 68, 69, 70, 71, 72, 73, 74, 75, 76, 77, 78, 79, 80, 81, 82, 83, 84, 85, 86, 87, 88, 89, 90, 91, 92, 93, 94, 95, 96, 97, 98, 99, 100, 101, 102, 103, 104, 105, 106, 107, 108, 109, 110, 111, 112, 113, 114, 115, 116, 117, 118, 119, 120, 121, 122, 123, 124, 125, 126, 127, 128, 129, 130, 131, 132, 133, 134, 135, 136, 137, 138, 139, 140, 22, 23, 24, 25, 26, 27, 28, 29, 30, 31, 32, 33, 0, 34, 35, 36, 37, 141, 142, 143, 144, 145, 146, 147, 148, 149, 150, 151, 152, 153, 154, 155, 156, 157, 158, 159, 160, 161, 162, 163, 164, 165, 166, 167, 168, 169, 170, 171, 172, 173, 174, 175, 176, 177, 178, 179, 180, 181, 182, 183, 184, 185, 186, 187, 188, 189, 190, 191, 192, 193, 194, 195, 196, 197, 198] (by decide +kernel) (by decide +kernel)
set_option maxRecDepth 20000 in
theorem gX12_product_X12_thing : GoodIn wsX12_product (wsV RX12 233 RX12 yX12_thing wsX12_thing) := goodIn_app (goodIn_of _ (by decide +kernel)) ggX12_product_X12_thing
set_option maxRecDepth 20000 in
theorem ggX12_product_X12_fine : GoodIn wsX12_product wsX12_fine := goodIn_r _ [8, 9, 141, 142, 143, 144, 145, 146, 147, 148, 149, 150, 151, 152, 153, 154, 155, 156, 157, 158, 159, 160, 161, 162, 163, 164, 165, 166, 167, 168, 169, 170, 171, 172, 173, 174, 175, 176, 177, 178, 179, 180, 181, 182, 183, 184, 185, 186, 187, 188, 189, 190, 191, 192, 193, 194, 195, 196, 197, 198] (by decide +kernel) (by decide +kernel)
set_option maxRecDepth 20000 in
theorem gX12_product_X12_fine : GoodIn wsX12_product (wsV RX12 217 RX12 yX12_fine wsX12_fine) := goodIn_app (goodIn_of _ (by decide +kernel)) ggX12_product_X12_fine
set_option maxRecDepth 20000 in
theorem ggX12_product_X12_comes : GoodIn wsX12_product wsX12_comes := goodIn_r _ [13, 14, 15, 16, 17, 4, 18, 19, 20, 21, 141, 142, 143, 144, 145, 146, 147, 148, 149, 150, 151, 152, 153, 154, 155, 156, 157, 158, 159, 160, 161, 162, 163, 164, 165, 166, 167, 168, 169, 170, 171, 172, 173, 174, 175, 176, 177, 178, 179, 180, 181, 182, 183, 184, 185, 186, 187, 188, 189, 190, 191, 192, 193, 194, 195, 196, 197, 198] (by decide +kernel) (by decide +kernel)
set_option maxRecDepth 20000 in
theorem gX12_product_X12_comes : GoodIn wsX12_product (wsV RX12 221 RX12 yX12_comes wsX12_comes) := goodIn_app (goodIn_of _ (by decide +kernel)) ggX12_product_X12_comes
set_option maxRecDepth 20000 in
theorem ggX12_thing_X12_comes : GoodIn wsX12_thing wsX12_comes := goodIn_r _ [8, 1, 9, 10, 11, 7, 12, 13, 14, 15, 141, 142, 143, 144, 145, 146, 147, 148, 149, 150, 151, 152, 153, 154, 155, 156, 157, 158, 159, 160, 161, 162, 163, 164, 165, 166, 167, 168, 169, 170, 171, 172, 173, 174, 175, 176, 177, 178, 179, 180, 181, 182, 183, 184, 185, 186, 187, 188, 189, 190, 191, 192, 193, 194, 195, 196, 197, 198] (by decide +kernel) (by decide +kernel)
set_option maxRecDepth 20000 in
theorem gX12_thing_X12_comes : GoodIn wsX12_thing (wsV RX12 221 RX12 yX12_comes wsX12_comes) := goodIn_app (goodIn_of _ (by decide +kernel)) ggX12_thing_X12_comes
set_option maxRecDepth 20000 in
theorem ggX12_thing_X12_thing : GoodIn wsX12_thing wsX12_thing := goodIn_r _ [0, 1, 2, 3, 4, 5, 6, 7, 8, 9, 10, 11, 12, 13, 14, 15, 16, 17, 18, 19, 20, 21, 22, 23, 24, 25, 26, 27, 28, 29, 30, 31, 32, 33, 34, 35, 36, 37, 38, 39, 40, 41, 42, 43, 44, 45, 46, 47, 48, 49, 50, 51, 52, 53, 54, 55, 56, 57, 58, 59, 60, 61, 62, 63, 64, 65, 66, 67, 68, 69, 70, 71, 72, 73, 74, 75, 76, 77, 78, 79, 80, 81, 82, 83, 84, 85, 86, 87, 88, 89, 90, 91, 92, 93, 94, 95, 96, 97, 98, 99, 100, 101, 102, 103, 104, 105, 106, 107, 108, 109, 110, 111, 112, 113, 114, 115, 116, 117, 118, 119, 120, 121, 122, 123, 124, 125, 126, 127, 128, 129, 130, 131, 132, 133, 134, 135, 136, 137, 138, 139, 140, 141, 142, 143, 144, 145, 146, 147, 148, 149, 150, 151, 152, 153, 154, 155, 156, 157, 158, 159, 160, 161, 162, 163, 164, 165, 166, 167, 168, 169, 170, 171, 172, 173, 174, 175, 176, 177, 178, 179, 180, 181, 182, 183, 184, 185, 186, 187, 188, 189, 190, 191, 192, 193, 194, 195, 196, 197, 198] (by decide +kernel) (by decide +kernel)
set_option maxRecDepth 20000 in
theorem gX12_thing_X12_thing : GoodIn wsX12_thing (wsV RX12 233 RX12 yX12_thing wsX12_thing) := goodIn_app (goodIn_of _ (by decide +kernel)) ggX12_thing_X12_thing
set_option maxRecDepth 20000 in
theorem ggX12_thing_X12_here : GoodIn wsX12_thing wsX12_here := goodIn_r _ [12, 1, 13, 14, 15, 141, 142, 143, 144, 145, 146, 147, 148, 149, 150, 151, 152, 153, 154, 155, 156, 157, 158, 159, 160, 161, 162, 163, 164, 165, 166, 167, 168, 169, 170, 171, 172, 173, 174, 175, 176, 177, 178, 179, 180, 181, 182, 183, 184, 185, 186, 187, 188, 189, 190, 191, 192, 193, 194, 195, 196, 197, 198] (by decide +kernel) (by decide +kernel)
set_option maxRecDepth 20000 in
theorem gX12_thing_X12_here : GoodIn wsX12_thing (wsV RX12 211 RX12 yX12_here wsX12_here) := goodIn_app (goodIn_of _ (by decide +kernel)) ggX12_thing_X12_here
set_option maxRecDepth 20000 in
theorem ggX12_thing_X12_isWrong : GoodIn wsX12_thing wsX12_isWrong := goodIn_r _ [22, 23, 1, 141, 142, 143, 144, 145, 146, 147, 148, 149, 150, 151, 152, 153, 154, 155, 156, 157, 158, 159, 160, 161, 162, 163, 164, 165, 166, 167, 168, 169, 170, 171, 172, 173, 174, 175, 176, 177, 178, 179, 180, 181, 182, 183, 184, 185, 186, 187, 188, 189, 190, 191, 192, 193, 194, 195, 196, 197, 198] (by decide +kernel) (by decide +kernel)
set_option maxRecDepth 20000 in
theorem gX12_thing_X12_isWrong : GoodIn wsX12_thing (wsV RX12 236 RX12 yX12_isWrong wsX12_isWrong) := goodIn_app (goodIn_of _ (by decide +kernel)) ggX12_thing_X12_isWrong
set_option maxRecDepth 20000 in
theorem ggX12_thing_X12_any : GoodIn wsX12_thing wsX12_any := goodIn_r _ [124, 125, 126, 127, 7, 27, 28, 29, 30, 23, 4, 5, 6, 8, 1, 9, 10, 11, 12, 13, 14, 15, 128, 129, 130, 131, 132, 133, 134, 135, 136, 16, 17, 18, 137, 138, 139, 140, 0, 2, 3, 19, 20, 21, 22, 24, 25, 26, 31, 32, 33, 34, 35, 36, 37, 38, 39, 40, 41, 42, 43, 44, 45, 46, 47, 48, 49, 50, 51, 52, 53, 54, 55, 56, 57, 58, 59, 60, 61, 62, 63, 64, 65, 66, 67, 68, 69, 70, 71, 72, 73, 74, 75, 76, 77, 78, 79, 80, 81, 82, 83, 84, 85, 86, 87, 88, 89, 90, 91, 92, 93, 94, 95, 96, 97, 98, 99, 100, 101, 102, 103, 104, 105, 106, 107, 108, 109, 110, 111, 112, 113, 114, 115, 116, 117, 118, 119, 120, 121, 122, 123, 141, 142, 143, 144, 145, 146, 147, 148, 149, 150, 151, 152, 153, 154, 155, 156, 157, 158, 159, 160, 161, 162, 163, 164, 165, 166, 167, 168, 169, 170, 171, 172, 173, 174, 175, 176, 177, 178, 179, 180, 181, 182, 183, 184, 185, 186, 187, 188, 189, 190, 191, 192, 193, 194, 195, 196, 197, 198] (by decide +kernel) (by decide +kernel)
set_option maxRecDepth 20000 in
theorem gX12_thing_X12_any : GoodIn wsX12_thing (wsV RX12 239 RX12 yX12_any wsX12_any) := goodIn_app (goodIn_of _ (by decide +kernel)) ggX12_thing_X12_any
set_option maxRecDepth 20000 in
theorem ggX12_thing_X12_fine : GoodIn wsX12_thing wsX12_fine := goodIn_r _ [30, 23, 141, 142, 143, 144, 145, 146, 147, 148, 149, 150, 151, 152, 153, 154, 155, 156, 157, 158, 159, 160, 161, 162, 163, 164, 165, 166, 167, 168, 169, 170, 171, 172, 173, 174, 175, 176, 177, 178, 179, 180, 181, 182, 183, 184, 185, 186, 187, 188, 189, 190, 191, 192, 193, 194, 195, 196, 197, 198] (by decide +kernel) (by decide +kernel)
set_option maxRecDepth 20000 in
theorem gX12_thing_X12_fine : GoodIn wsX12_thing (wsV RX12 217 RX12 yX12_fine wsX12_fine) := goodIn_app (goodIn_of _ (by decide +kernel)) ggX12_thing_X12_fine
set_option maxRecDepth 20000 in
theorem ggX12_thing_X12_isDigit : GoodIn wsX12_thing wsX12_isDigit := goodIn_r _ [34, 9, 10, 11, 7, 12, 1, 13, 14, 15, 141, 142, 143, 144, 145, 146, 147, 148, 149, 150, 151, 152, 153, 154, 155, 156, 157, 158, 159, 160, 161, 162, 163, 164, 165, 166, 167, 168, 169, 170, 171, 172, 173, 174, 175, 176, 177, 178, 179, 180, 181, 182, 183, 184, 185, 186, 187, 188, 189, 190, 191, 192, 193, 194, 195, 196, 197, 198] (by decide +kernel) (by decide +kernel)
set_option maxRecDepth 20000 in
theorem gX12_thing_X12_isDigit : GoodIn wsX12_thing (wsV RX12 242 RX12 yX12_isDigit wsX12_isDigit) := goodIn_app (goodIn_of _ (by decide +kernel)) ggX12_thing_X12_isDigit
set_option maxRecDepth 20000 in
theorem ggX12_thing_J0_indexOf_0f7a4 : GoodIn wsX12_thing wsJ0_indexOf_0f7a4 := goodIn_r _ [39, 40, 41, 42, 38, 43, 44, 45, 46, 47, 48, 49, 50, 51, 52, 53, 54, 55, 56, 57, 58, 59, 60, 61, 62, 63, 64, 65, 66, 67, 68, 69, 70, 71, 72, 73, 74, 75, 76, 77, 78, 79, 80, 81, 82, 83, 84, 85, 86, 87, 88, 89, 90, 91, 92, 93, 94, 95, 96, 97, 98, 99, 100, 101, 102, 103, 104, 105, 106, 107, 108, 109, 110, 111, 112, 113, 114, 115, 116, 117, 118, 119, 120, 121, 122, 123] (by decide +kernel) (by decide +kernel)
set_option maxRecDepth 20000 in
theorem gX12_thing_J0_indexOf_0f7a4 : GoodIn wsX12_thing (wsV RX12 245 RJ0 yJ0_indexOf_0f7a4 wsJ0_indexOf_0f7a4) := goodIn_app (goodIn_of _ (by decide +kernel)) ggX12_thing_J0_indexOf_0f7a4
set_option maxRecDepth 20000 in
theorem ggX12_rule_X12_in : GoodIn wsX12_rule wsX12_in := goodIn_r _ [14] (by decide +kernel) (by decide +kernel)
set_option maxRecDepth 20000 in
theorem gX12_rule_X12_in : GoodIn wsX12_rule (va_wsS RX12 145 yX12_in wsX12_in) := goodIn_app (goodIn_of _ (by decide +kernel)) ggX12_rule_X12_in
set_option maxRecDepth 20000 in
theorem ggX12_rule_X12_open : GoodIn wsX12_rule wsX12_open := goodIn_r _ [18, 19, 20, 21, 5, 6, 22, 23, 24, 13, 25, 160, 161, 162, 163, 164, 165, 166, 167, 168, 169, 170, 171, 172, 173, 174, 175, 176, 177, 178, 179, 180, 181, 182, 183, 184, 185, 186, 187, 188, 189, 190, 191, 192, 193, 194, 195, 196, 197, 198, 199, 200, 201, 202, 203, 204, 205, 206, 207, 208, 209, 210, 211, 212, 213, 214, 215, 216, 217] (by decide +kernel) (by decide +kernel)
set_option maxRecDepth 20000 in
theorem gX12_rule_X12_open : GoodIn wsX12_rule (wsV RX12 251 RX12 yX12_open wsX12_open) := goodIn_app (goodIn_of _ (by decide +kernel)) ggX12_rule_X12_open
set_option maxRecDepth 20000 in
theorem ggX12_rule_X12_any : GoodIn wsX12_rule wsX12_any := goodIn_r _ [29, 30, 31, 32, 13, 33, 34, 35, 36, 6, 37, 38, 39, 40, 5, 41, 42, 43, 44, 21, 19, 20, 45, 46, 47, 48, 49, 50, 51, 52, 53, 54, 55, 56, 57, 58, 59, 60, 61, 22, 62, 63, 64, 65, 66, 26, 27, 28, 67, 68, 69, 70, 71, 72, 73, 74, 75, 76, 77, 78, 79, 80, 81, 82, 83, 84, 85, 86, 87, 88, 89, 90, 91, 92, 93, 94, 95, 96, 97, 98, 99, 100, 101, 102, 103, 104, 105, 106, 107, 108, 109, 110, 111, 112, 113, 114, 115, 116, 117, 118, 119, 120, 121, 122, 123, 124, 125, 126, 127, 128, 129, 130, 131, 132, 133, 134, 135, 136, 137, 138, 139, 140, 141, 142, 143, 144, 145, 146, 147, 148, 149, 150, 151, 152, 153, 154, 155, 156, 157, 158, 159, 160, 161, 162, 163, 164, 165, 166, 167, 168, 169, 170, 171, 172, 173, 174, 175, 176, 177, 178, 179, 180, 181, 182, 183, 184, 185, 186, 187, 188, 189, 190, 191, 192, 193, 194, 195, 196, 197, 198, 199, 200, 201, 202, 203, 204, 205, 206, 207, 208, 209, 210, 211, 212, 213, 214, 215, 216, 217] (by decide +kernel) (by decide +kernel)
set_option maxRecDepth 20000 in
theorem gX12_rule_X12_any : GoodIn wsX12_rule (wsV RX12 239 RX12 yX12_any wsX12_any) := goodIn_app (goodIn_of _ (by decide +kernel)) ggX12_rule_X12_any
set_option maxRecDepth 20000 in
theorem ggX12_rule_X12_fine : GoodIn wsX12_rule wsX12_fine := goodIn_r _ [36, 6, 160, 161, 162, 163, 164, 165, 166, 167, 168, 169, 170, 171, 172, 173, 174, 175, 176, 177, 178, 179, 180, 181, 182, 183, 184, 185, 186, 187, 188, 189, 190, 191, 192, 193, 194, 195, 196, 197, 198, 199, 200, 201, 202, 203, 204, 205, 206, 207, 208, 209, 210, 211, 212, 213, 214, 215, 216, 217] (by decide +kernel) (by decide +kernel)
set_option maxRecDepth 20000 in
theorem gX12_rule_X12_fine : GoodIn wsX12_rule (wsV RX12 217 RX12 yX12_fine wsX12_fine) := goodIn_app (goodIn_of _ (by decide +kernel)) ggX12_rule_X12_fine
set_option maxRecDepth 20000 in
theorem ggX12_rule_X12_isWrong : GoodIn wsX12_rule wsX12_isWrong := goodIn_r _ [66, 6, 5, 160, 161, 162, 163, 164, 165, 166, 167, 168, 169, 170, 171, 172, 173, 174, 175, 176, 177, 178, 179, 180, 181, 182, 183, 184, 185, 186, 187, 188, 189, 190, 191, 192, 193, 194, 195, 196, 197, 198, 199, 200, 201, 202, 203, 204, 205, 206, 207, 208, 209, 210, 211, 212, 213, 214, 215, 216, 217] (by decide +kernel) (by decide +kernel)
set_option maxRecDepth 20000 in
theorem gX12_rule_X12_isWrong : GoodIn wsX12_rule (wsV RX12 236 RX12 yX12_isWrong wsX12_isWrong) := goodIn_app (goodIn_of _ (by decide +kernel)) ggX12_rule_X12_isWrong
set_option maxRecDepth 20000 in
theorem ggX12_asks_X12_open : GoodIn wsX12_asks wsX12_open := goodIn_r _ [14, 15, 16, 17, 18, 19, 20, 21, 22, 13, 23, 158, 159, 160, 161, 162, 163, 164, 165, 166, 167, 168, 169, 170, 171, 172, 173, 174, 175, 176, 177, 178, 179, 180, 181, 182, 183, 184, 185, 186, 187, 188, 189, 190, 191, 192, 193, 194, 195, 196, 197, 198, 199, 200, 201, 202, 203, 204, 205, 206, 207, 208, 209, 210, 211, 212, 213, 214, 215] (by decide +kernel) (by decide +kernel)
set_option maxRecDepth 20000 in
theorem gX12_asks_X12_open : GoodIn wsX12_asks (wsV RX12 251 RX12 yX12_open wsX12_open) := goodIn_app (goodIn_of _ (by decide +kernel)) ggX12_asks_X12_open
set_option maxRecDepth 20000 in
theorem ggX12_asks_X12_any : GoodIn wsX12_asks wsX12_any := goodIn_r _ [27, 28, 29, 30, 13, 31, 32, 33, 34, 19, 35, 36, 37, 38, 18, 39, 40, 41, 42, 17, 15, 16, 43, 44, 45, 46, 47, 48, 49, 50, 51, 52, 53, 54, 55, 56, 57, 58, 59, 20, 60, 61, 62, 63, 64, 24, 25, 26, 65, 66, 67, 68, 69, 70, 71, 72, 73, 74, 75, 76, 77, 78, 79, 80, 81, 82, 83, 84, 85, 86, 87, 88, 89, 90, 91, 92, 93, 94, 95, 96, 97, 98, 99, 100, 101, 102, 103, 104, 105, 106, 107, 108, 109, 110, 111, 112, 113, 114, 115, 116, 117, 118, 119, 120, 121, 122, 123, 124, 125, 126, 127, 128, 129, 130, 131, 132, 133, 134, 135, 136, 137, 138, 139, 140, 141, 142, 143, 144, 145, 146, 147, 148, 149, 150, 151, 152, 153, 154, 155, 156, 157, 158, 159, 160, 161, 162, 163, 164, 165, 166, 167, 168, 169, 170, 171, 172, 173, 174, 175, 176, 177, 178, 179, 180, 181, 182, 183, 184, 185, 186, 187, 188, 189, 190, 191, 192, 193, 194, 195, 196, 197, 198, 199, 200, 201, 202, 203, 204, 205, 206, 207, 208, 209, 210, 211, 212, 213, 214, 215] (by decide +kernel) (by decide +kernel)
set_option maxRecDepth 20000 in
theorem gX12_asks_X12_any : GoodIn wsX12_asks (wsV RX12 239 RX12 yX12_any wsX12_any) := goodIn_app (goodIn_of _ (by decide +kernel)) ggX12_asks_X12_any
set_option maxRecDepth 20000 in
theorem ggX12_waits_X12_now : GoodIn wsX12_waits wsX12_now := goodIn_r _ [6, 7, 12, 13, 14, 15, 16, 17, 18, 19, 20, 21, 22, 23, 24, 25, 26, 27, 28, 29, 30, 31, 32, 33, 34, 35, 36, 37, 38, 39, 40, 41, 42, 43, 44, 45, 46, 47, 48, 49, 50, 51, 52, 53, 54, 55, 56, 57, 58, 59, 60, 61, 62, 63, 64, 65, 66, 67, 68, 69] (by decide +kernel) (by decide +kernel)
set_option maxRecDepth 20000 in
theorem gX12_waits_X12_now : GoodIn wsX12_waits (wsV RX12 164 RX12 yX12_now wsX12_now) := goodIn_app (goodIn_of _ (by decide +kernel)) ggX12_waits_X12_now
set_option maxRecDepth 20000 in
theorem ggX12_waits_X12_piece : GoodIn wsX12_waits wsX12_piece := goodIn_r _ [11, 7, 12, 13, 14, 15, 16, 17, 18, 19, 20, 21, 22, 23, 24, 25, 26, 27, 28, 29, 30, 31, 32, 33, 34, 35, 36, 37, 38, 39, 40, 41, 42, 43, 44, 45, 46, 47, 48, 49, 50, 51, 52, 53, 54, 55, 56, 57, 58, 59, 60, 61, 62, 63, 64, 65, 66, 67, 68, 69] (by decide +kernel) (by decide +kernel)
set_option maxRecDepth 20000 in
theorem gX12_waits_X12_piece : GoodIn wsX12_waits (wsV RX12 261 RX12 yX12_piece wsX12_piece) := goodIn_app (goodIn_of _ (by decide +kernel)) ggX12_waits_X12_piece
set_option maxRecDepth 20000 in
theorem ggX12_bits_J6_bitCount_0f7a4 : GoodIn wsX12_bits wsJ6_bitCount_0f7a4 := goodIn_r _ [4, 5, 6, 7] (by decide +kernel) (by decide +kernel)
set_option maxRecDepth 20000 in
theorem gX12_bits_J6_bitCount_0f7a4 : GoodIn wsX12_bits (va_wsS RX12 264 yJ6_bitCount_0f7a4 wsJ6_bitCount_0f7a4) := goodIn_app (goodIn_of _ (by decide +kernel)) ggX12_bits_J6_bitCount_0f7a4
set_option maxRecDepth 20000 in
theorem ggX12_orderOf_X12_waits : GoodIn wsX12_orderOf wsX12_waits := goodIn_r _ [14, 5, 15, 16, 17, 13, 18, 19, 20, 21, 22, 23, 197, 198, 199, 200, 201, 202, 203, 204, 205, 206, 207, 208, 209, 210, 211, 212, 213, 214, 215, 216, 217, 218, 219, 220, 221, 222, 223, 224, 225, 226, 227, 228, 229, 230, 231, 232, 233, 234, 235, 236, 237, 238, 239, 240, 241, 242, 243, 244, 245, 246, 247, 248, 249, 250, 251, 252, 253, 254] (by decide +kernel) (by decide +kernel)
set_option maxRecDepth 20000 in
theorem gX12_orderOf_X12_waits : GoodIn wsX12_orderOf (wsV RX12 269 RX12 yX12_waits wsX12_waits) := goodIn_app (goodIn_of _ (by decide +kernel)) ggX12_orderOf_X12_waits
set_option maxRecDepth 20000 in
theorem ggX12_orderOf_X12_now : GoodIn wsX12_orderOf wsX12_now := goodIn_r _ [18, 19, 197, 198, 199, 200, 201, 202, 203, 204, 205, 206, 207, 208, 209, 210, 211, 212, 213, 214, 215, 216, 217, 218, 219, 220, 221, 222, 223, 224, 225, 226, 227, 228, 229, 230, 231, 232, 233, 234, 235, 236, 237, 238, 239, 240, 241, 242, 243, 244, 245, 246, 247, 248, 249, 250, 251, 252, 253, 254] (by decide +kernel) (by decide +kernel)
set_option maxRecDepth 20000 in
theorem gX12_orderOf_X12_now : GoodIn wsX12_orderOf (wsV RX12 164 RX12 yX12_now wsX12_now) := goodIn_app (goodIn_of _ (by decide +kernel)) ggX12_orderOf_X12_now
set_option maxRecDepth 20000 in
theorem ggX12_orderOf_X12_get : GoodIn wsX12_orderOf wsX12_get := goodIn_r _ [27, 19, 197, 198, 199, 200, 201, 202, 203, 204, 205, 206, 207, 208, 209, 210, 211, 212, 213, 214, 215, 216, 217, 218, 219, 220, 221, 222, 223, 224, 225, 226, 227, 228, 229, 230, 231, 232, 233, 234, 235, 236, 237, 238, 239, 240, 241, 242, 243, 244, 245, 246, 247, 248, 249, 250, 251, 252, 253, 254] (by decide +kernel) (by decide +kernel)
set_option maxRecDepth 20000 in
theorem gX12_orderOf_X12_get : GoodIn wsX12_orderOf (wsV RX12 272 RX12 yX12_get wsX12_get) := goodIn_app (goodIn_of _ (by decide +kernel)) ggX12_orderOf_X12_get
