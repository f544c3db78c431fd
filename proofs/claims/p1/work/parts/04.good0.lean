set_option maxRecDepth 20000 in
theorem ggX1_changeBehind_X1_earlierBehind : GoodIn wsX1_changeBehind wsX1_earlierBehind := goodIn_r _ [11] (by decide +kernel) (by decide +kernel)
set_option maxRecDepth 20000 in
theorem gX1_changeBehind_X1_earlierBehind : GoodIn wsX1_changeBehind (va_wsS RX1 58 yX1_earlierBehind wsX1_earlierBehind) := goodIn_app (goodIn_of _ (by decide +kernel)) ggX1_changeBehind_X1_earlierBehind
set_option maxRecDepth 20000 in
theorem ggX3_runOn_X1_awayMask : GoodIn wsX3_runOn wsX1_awayMask := goodIn_r _ [7, 8, 9, 10, 11, 12, 168, 169, 170, 171, 172, 173, 174, 175, 176, 177, 178] (by decide +kernel) (by decide +kernel)
set_option maxRecDepth 20000 in
theorem gX3_runOn_X1_awayMask : GoodIn wsX3_runOn (wsV RX3 57 RX1 yX1_awayMask wsX1_awayMask) := goodIn_app (goodIn_of _ (by decide +kernel)) ggX3_runOn_X1_awayMask
set_option maxRecDepth 20000 in
theorem ggX3_runOn_X3_takeAll : GoodIn wsX3_runOn wsX3_takeAll := goodIn_r _ [17, 2, 18, 19, 20, 21, 22, 16, 23, 24, 25, 26, 27, 28, 29, 30, 31, 32, 1, 33, 34, 35, 36, 37, 38, 39, 40, 41, 42, 43, 44, 45, 46, 47, 48, 49, 50, 51, 52, 53, 54, 55, 56, 57, 58, 59, 60, 61, 62, 63, 64, 65, 66, 67, 68, 69, 70, 71, 72, 73, 74, 75, 76, 77, 78, 79, 80, 81, 82, 83, 84, 85, 86, 87, 88, 89, 90, 91, 92, 93, 94, 95, 96, 97, 98, 99, 100, 101, 102, 103, 104, 105, 106, 107, 108, 109, 110, 111, 112, 113, 114, 115, 116, 156, 157, 158, 159, 160, 161, 162, 163, 164, 165, 166, 167, 168, 169, 170, 171, 172, 173, 174, 175, 179, 180, 181, 182, 183, 184, 185, 186, 187, 188, 189, 190, 191, 192, 193, 194, 195, 196, 197, 198, 199, 200, 201] (by decide +kernel) (by decide +kernel)
set_option maxRecDepth 20000 in
theorem gX3_runOn_X3_takeAll : GoodIn wsX3_runOn (wsV RX3 63 RX3 yX3_takeAll wsX3_takeAll) := goodIn_app (goodIn_of _ (by decide +kernel)) ggX3_runOn_X3_takeAll
set_option maxRecDepth 20000 in
theorem ggX3_runOn_X3_changeFrom : GoodIn wsX3_runOn wsX3_changeFrom := goodIn_r _ [120, 1, 2, 121, 122, 115, 123, 18, 124, 19, 105, 125, 126, 127, 6, 128, 129, 130, 131, 8, 9, 10, 11, 132, 133, 134, 135, 136, 137, 16, 138, 139, 140, 141, 142, 143, 144, 145, 156, 157, 158, 159, 160, 161, 162, 163, 164, 165, 166, 167, 168, 169, 170, 171, 172, 173, 174, 175, 179, 180, 181, 182, 183, 184, 185, 186, 187, 188, 189, 176, 177, 178] (by decide +kernel) (by decide +kernel)
set_option maxRecDepth 20000 in
theorem gX3_runOn_X3_changeFrom : GoodIn wsX3_runOn (wsV RX3 67 RX3 yX3_changeFrom wsX3_changeFrom) := goodIn_app (goodIn_of _ (by decide +kernel)) ggX3_runOn_X3_changeFrom
set_option maxRecDepth 20000 in
theorem ggX3_runOn_X3_workAll : GoodIn wsX3_runOn wsX3_workAll := goodIn_r _ [149, 2, 18, 19, 150, 124, 105, 1, 135, 136, 137, 16, 138, 139, 140, 141, 6, 142, 129, 151, 152, 153, 154, 29, 83, 31, 155, 156, 157, 158, 159, 160, 161, 162, 163, 164, 165, 166, 167, 168, 169, 170, 171, 172, 173, 174, 175, 179, 180, 181, 182, 183, 184, 185, 186, 187, 188, 189] (by decide +kernel) (by decide +kernel)
set_option maxRecDepth 20000 in
theorem gX3_runOn_X3_workAll : GoodIn wsX3_runOn (wsV RX3 71 RX3 yX3_workAll wsX3_workAll) := goodIn_app (goodIn_of _ (by decide +kernel)) ggX3_runOn_X3_workAll
set_option maxRecDepth 20000 in
theorem ggX3_takeAll_X3_firstFor : GoodIn wsX3_takeAll wsX3_firstFor := goodIn_r _ [8, 1, 9, 10, 11, 12, 7, 13, 14, 15, 16, 17, 18, 19, 20, 21, 22, 23, 24, 25, 26, 27, 28, 29, 30, 31, 32, 33, 34, 35, 36, 37, 38, 39, 40, 41, 42, 43, 44, 45, 46, 47, 48, 49, 50, 51, 52, 53, 54, 55, 56, 57, 58, 59, 60, 61, 62, 63, 64, 65, 66, 67, 68, 69, 70, 71, 72, 73, 74, 75, 76, 77, 78, 79, 80, 81, 82, 83, 84, 85, 86, 103, 104, 105, 106, 107, 108, 109, 110, 111, 112, 113, 114, 115, 116, 117, 118, 119, 120, 121, 122, 123, 124, 125, 126, 127, 128, 129, 130, 131, 132, 133, 134, 135, 136, 137, 138, 139, 140, 141, 142, 143, 144, 145] (by decide +kernel) (by decide +kernel)
set_option maxRecDepth 20000 in
theorem gX3_takeAll_X3_firstFor : GoodIn wsX3_takeAll (wsV RX3 78 RX3 yX3_firstFor wsX3_firstFor) := goodIn_app (goodIn_of _ (by decide +kernel)) ggX3_takeAll_X3_firstFor
set_option maxRecDepth 20000 in
theorem ggX3_takeAll_X3_take : GoodIn wsX3_takeAll wsX3_take := goodIn_r _ [90, 3, 91, 69, 92, 15, 18, 93, 1, 16, 94, 95, 96, 7, 97, 23, 98, 99, 100, 101, 102, 70, 71, 72, 73, 74, 75, 76, 77, 78, 79, 80, 81, 82, 103, 104, 105, 106, 107, 108, 109, 110, 111, 112, 113, 114, 115, 116, 117, 118, 119, 120, 121, 122, 134, 135, 136, 123, 124, 125, 126, 127, 128, 129, 130, 131, 132, 133] (by decide +kernel) (by decide +kernel)
set_option maxRecDepth 20000 in
theorem gX3_takeAll_X3_take : GoodIn wsX3_takeAll (wsV RX3 82 RX3 yX3_take wsX3_take) := goodIn_app (goodIn_of _ (by decide +kernel)) ggX3_takeAll_X3_take
set_option maxRecDepth 20000 in
theorem ggX3_firstFor_X3_stateOf : GoodIn wsX3_firstFor wsX3_stateOf := goodIn_r _ [7, 8, 9, 1, 10, 11, 12, 81, 82, 83, 84, 85, 86, 87, 88, 89, 90, 91, 92, 93, 94, 95, 96, 97, 98, 99, 100, 101, 102, 103, 104, 105, 106, 107, 108, 109, 110, 111] (by decide +kernel) (by decide +kernel)
set_option maxRecDepth 20000 in
theorem gX3_firstFor_X3_stateOf : GoodIn wsX3_firstFor (wsV RX3 88 RX3 yX3_stateOf wsX3_stateOf) := goodIn_app (goodIn_of _ (by decide +kernel)) ggX3_firstFor_X3_stateOf
set_option maxRecDepth 20000 in
theorem ggX3_firstFor_X3_mayDo : GoodIn wsX3_firstFor wsX3_mayDo := goodIn_r _ [16, 1, 17, 10, 18, 19, 20, 21, 22, 23, 24, 25, 26, 27, 6, 28, 12, 29, 30, 31, 32, 33, 34, 35, 36, 37, 38, 39, 40, 41, 42, 43, 44, 45, 46, 47, 48, 49, 50, 51, 52, 53, 54, 55, 81, 82, 83, 84, 85, 86, 87, 88, 89, 90, 91, 92, 93, 94, 95, 96, 97, 98, 99, 100, 112, 113, 114, 101, 102, 103, 104, 105, 106, 107, 108, 109, 110, 111, 115, 116, 117, 118, 119, 120, 121, 122, 123] (by decide +kernel) (by decide +kernel)
set_option maxRecDepth 20000 in
theorem gX3_firstFor_X3_mayDo : GoodIn wsX3_firstFor (wsV RX3 91 RX3 yX3_mayDo wsX3_mayDo) := goodIn_app (goodIn_of _ (by decide +kernel)) ggX3_firstFor_X3_mayDo
set_option maxRecDepth 20000 in
theorem ggX3_firstFor_X3_haste : GoodIn wsX3_firstFor wsX3_haste := goodIn_r _ [59, 1, 10, 20, 21, 60, 12, 11, 61, 62, 22, 24, 63, 64, 65, 66, 67, 68, 69, 70, 71, 72, 73, 74, 75, 76, 77, 78, 79, 6, 80, 2, 3, 4, 5, 7, 8, 9, 25, 26, 27, 28, 29, 30, 31, 32, 33, 34, 35, 36, 37, 38, 39, 40, 41, 42, 43, 44, 45, 46, 47, 48, 49, 50, 51, 52, 53, 54, 55, 81, 82, 83, 84, 85, 86, 87, 88, 89, 90, 91, 92, 93, 94, 95, 96, 97, 98, 99, 100, 115, 116, 117, 118, 119, 120, 101, 102, 103, 104, 105, 106, 107, 108, 109, 110, 111, 121, 122, 123] (by decide +kernel) (by decide +kernel)
set_option maxRecDepth 20000 in
theorem gX3_firstFor_X3_haste : GoodIn wsX3_firstFor (wsV RX3 95 RX3 yX3_haste wsX3_haste) := goodIn_app (goodIn_of _ (by decide +kernel)) ggX3_firstFor_X3_haste
set_option maxRecDepth 20000 in
theorem ggX3_take_X3_rateFor : GoodIn wsX3_take wsX3_rateFor := goodIn_r _ [14, 8, 15, 16, 9, 17, 18, 19, 20, 21, 22, 23, 24, 25, 26, 27, 28, 29, 30, 31, 32, 33, 34, 35, 36, 37, 38, 39, 40, 41, 42, 43, 44, 45, 46, 47, 48, 49, 50, 51, 52, 53, 54, 55, 56, 57, 58, 59, 60, 61, 62, 63, 64, 65, 66, 67] (by decide +kernel) (by decide +kernel)
set_option maxRecDepth 20000 in
theorem gX3_take_X3_rateFor : GoodIn wsX3_take (wsV RX3 99 RX3 yX3_rateFor wsX3_rateFor) := goodIn_app (goodIn_of _ (by decide +kernel)) ggX3_take_X3_rateFor
set_option maxRecDepth 20000 in
theorem ggX3_take_X6_unknownTo : GoodIn wsX3_take wsX6_unknownTo := goodIn_r _ [25, 26, 27, 28, 29, 30, 31, 32, 33, 57, 58, 59, 60, 61, 62, 63, 64, 65, 66, 67] (by decide +kernel) (by decide +kernel)
set_option maxRecDepth 20000 in
theorem gX3_take_X6_unknownTo : GoodIn wsX3_take (wsV RX3 107 RX6 yX6_unknownTo wsX6_unknownTo) := goodIn_app (goodIn_of _ (by decide +kernel)) ggX3_take_X6_unknownTo
set_option maxRecDepth 20000 in
theorem ggX3_rateFor_X6_unknownTo : GoodIn wsX3_rateFor wsX6_unknownTo := goodIn_r _ [13, 14, 15, 16, 17, 18, 19, 20, 21, 45, 46, 47, 48, 49, 50, 51, 52, 53, 54, 55] (by decide +kernel) (by decide +kernel)
set_option maxRecDepth 20000 in
theorem gX3_rateFor_X6_unknownTo : GoodIn wsX3_rateFor (wsV RX3 107 RX6 yX6_unknownTo wsX6_unknownTo) := goodIn_app (goodIn_of _ (by decide +kernel)) ggX3_rateFor_X6_unknownTo
set_option maxRecDepth 20000 in
theorem ggX3_changeFrom_X1_changeBehind : GoodIn wsX3_changeFrom wsX1_changeBehind := goodIn_r _ [15, 16, 17, 18, 19, 20, 21, 22, 23, 24, 14, 25, 50, 51, 52, 53, 54, 55, 56, 57, 58, 59, 60, 61, 62, 63, 64, 65, 66, 67, 68, 69, 70, 71] (by decide +kernel) (by decide +kernel)
set_option maxRecDepth 20000 in
theorem gX3_changeFrom_X1_changeBehind : GoodIn wsX3_changeFrom (wsV RX3 129 RX1 yX1_changeBehind wsX1_changeBehind) := goodIn_app (goodIn_of _ (by decide +kernel)) ggX3_changeFrom_X1_changeBehind
set_option maxRecDepth 20000 in
theorem ggX3_changeFrom_X3_isBusy : GoodIn wsX3_changeFrom wsX3_isBusy := goodIn_r _ [30, 2, 9, 31, 32, 33, 14, 34, 16, 38, 39, 40, 41, 42, 43, 44, 45, 46, 47, 48, 49, 50, 51, 52, 53, 54, 55, 56, 57] (by decide +kernel) (by decide +kernel)
set_option maxRecDepth 20000 in
theorem gX3_changeFrom_X3_isBusy : GoodIn wsX3_changeFrom (wsV RX3 132 RX3 yX3_isBusy wsX3_isBusy) := goodIn_app (goodIn_of _ (by decide +kernel)) ggX3_changeFrom_X3_isBusy
set_option maxRecDepth 20000 in
theorem ggX3_changeFrom_X11_minutesFor : GoodIn wsX3_changeFrom wsX11_minutesFor := goodIn_r _ [37] (by decide +kernel) (by decide +kernel)
set_option maxRecDepth 20000 in
theorem gX3_changeFrom_X11_minutesFor_n136 : GoodIn wsX3_changeFrom (wsX11_minutesFor) := ggX3_changeFrom_X11_minutesFor
set_option maxRecDepth 20000 in
theorem ggX3_isBusy_X1_hasPiece : GoodIn wsX3_isBusy wsX1_hasPiece := goodIn_r _ [7, 8, 21, 22, 23, 24, 25, 26, 27, 28] (by decide +kernel) (by decide +kernel)
set_option maxRecDepth 20000 in
theorem gX3_isBusy_X1_hasPiece : GoodIn wsX3_isBusy (wsV RX3 139 RX1 yX1_hasPiece wsX1_hasPiece) := goodIn_app (goodIn_of _ (by decide +kernel)) ggX3_isBusy_X1_hasPiece
set_option maxRecDepth 20000 in
theorem ggX3_workAll_X3_isBusy : GoodIn wsX3_workAll wsX3_isBusy := goodIn_r _ [12, 1, 3, 13, 14, 15, 16, 17, 18, 27, 28, 29, 30, 31, 32, 33, 34, 35, 36, 37, 38, 39, 40, 41, 42, 43, 44, 45, 46] (by decide +kernel) (by decide +kernel)
set_option maxRecDepth 20000 in
theorem gX3_workAll_X3_isBusy : GoodIn wsX3_workAll (wsV RX3 132 RX3 yX3_isBusy wsX3_isBusy) := goodIn_app (goodIn_of _ (by decide +kernel)) ggX3_workAll_X3_isBusy
set_option maxRecDepth 20000 in
theorem ggX3_workAll_X3_finish : GoodIn wsX3_workAll wsX3_finish := goodIn_r _ [22, 5, 23, 24, 1, 25, 26, 3, 6, 27, 28, 29, 30, 31, 32, 33, 34, 35, 36, 37, 38, 39, 40, 41, 42, 43, 44, 45, 46, 47, 48, 49, 50, 51, 52, 53, 54, 55, 56, 57] (by decide +kernel) (by decide +kernel)
set_option maxRecDepth 20000 in
theorem gX3_workAll_X3_finish : GoodIn wsX3_workAll (wsV RX3 143 RX3 yX3_finish wsX3_finish) := goodIn_app (goodIn_of _ (by decide +kernel)) ggX3_workAll_X3_finish
set_option maxRecDepth 20000 in
theorem ggX3_mayDo_X3_today : GoodIn wsX3_mayDo wsX3_today := goodIn_r _ [15, 16, 44, 45, 46, 47, 48, 49, 50, 51, 52, 53, 54, 55] (by decide +kernel) (by decide +kernel)
set_option maxRecDepth 20000 in
theorem gX3_mayDo_X3_today : GoodIn wsX3_mayDo (wsV RX3 169 RX3 yX3_today wsX3_today) := goodIn_app (goodIn_of _ (by decide +kernel)) ggX3_mayDo_X3_today
set_option maxRecDepth 20000 in
theorem ggX3_mayDo_X10_holding : GoodIn wsX3_mayDo wsX10_holding := goodIn_r _ [21, 22, 23, 24, 25, 26, 84, 85, 86, 78, 79, 80, 81, 82, 83] (by decide +kernel) (by decide +kernel)
set_option maxRecDepth 20000 in
theorem gX3_mayDo_X10_holding : GoodIn wsX3_mayDo (wsV RX3 173 RX10 yX10_holding wsX10_holding) := goodIn_app (goodIn_of _ (by decide +kernel)) ggX3_mayDo_X10_holding
set_option maxRecDepth 20000 in
theorem ggX3_mayDo_X10_give : GoodIn wsX3_mayDo wsX10_give := goodIn_r _ [30, 31, 32, 33, 34, 35, 20, 36, 37, 38, 39, 40, 41, 42, 43, 84, 85, 86, 78, 79, 80, 81, 82, 83] (by decide +kernel) (by decide +kernel)
set_option maxRecDepth 20000 in
theorem gX3_mayDo_X10_give : GoodIn wsX3_mayDo (wsV RX3 177 RX10 yX10_give wsX10_give) := goodIn_app (goodIn_of _ (by decide +kernel)) ggX3_mayDo_X10_give
set_option maxRecDepth 20000 in
theorem ggX3_haste_X6_unknownTo : GoodIn wsX3_haste wsX6_unknownTo := goodIn_r _ [17, 18, 19, 20, 21, 22, 23, 24, 25, 95, 96, 97, 98, 99, 100, 101, 102, 103, 104, 105] (by decide +kernel) (by decide +kernel)
set_option maxRecDepth 20000 in
theorem gX3_haste_X6_unknownTo : GoodIn wsX3_haste (wsV RX3 107 RX6 yX6_unknownTo wsX6_unknownTo) := goodIn_app (goodIn_of _ (by decide +kernel)) ggX3_haste_X6_unknownTo
set_option maxRecDepth 20000 in
theorem ggX3_haste_X3_waitingIn : GoodIn wsX3_haste wsX3_waitingIn := goodIn_r _ [30, 1, 31, 2, 11, 32, 33, 34, 29, 35, 36, 37, 7, 6, 69, 70, 71, 72, 73, 74, 75, 76, 77, 78, 79, 80, 81, 82, 83, 84, 85, 86, 87, 88, 95, 96, 97, 98, 99, 100, 101, 102, 103, 104, 105] (by decide +kernel) (by decide +kernel)
set_option maxRecDepth 20000 in
theorem gX3_haste_X3_waitingIn : GoodIn wsX3_haste (wsV RX3 193 RX3 yX3_waitingIn wsX3_waitingIn) := goodIn_app (goodIn_of _ (by decide +kernel)) ggX3_haste_X3_waitingIn
set_option maxRecDepth 20000 in
theorem ggX3_haste_X3_today : GoodIn wsX3_haste wsX3_today := goodIn_r _ [41, 6, 69, 70, 71, 72, 73, 74, 75, 76, 77, 78, 79, 80] (by decide +kernel) (by decide +kernel)
set_option maxRecDepth 20000 in
theorem gX3_haste_X3_today : GoodIn wsX3_haste (wsV RX3 169 RX3 yX3_today wsX3_today) := goodIn_app (goodIn_of _ (by decide +kernel)) ggX3_haste_X3_today
set_option maxRecDepth 20000 in
theorem ggX3_haste_X10_holding : GoodIn wsX3_haste wsX10_holding := goodIn_r _ [46, 47, 48, 49, 50, 51, 106, 107, 108, 89, 90, 91, 92, 93, 94] (by decide +kernel) (by decide +kernel)
set_option maxRecDepth 20000 in
theorem gX3_haste_X10_holding : GoodIn wsX3_haste (wsV RX3 173 RX10 yX10_holding wsX10_holding) := goodIn_app (goodIn_of _ (by decide +kernel)) ggX3_haste_X10_holding
set_option maxRecDepth 20000 in
theorem ggX3_haste_X10_give : GoodIn wsX3_haste wsX10_give := goodIn_r _ [55, 56, 57, 58, 59, 60, 45, 61, 62, 63, 64, 65, 66, 67, 68, 106, 107, 108, 89, 90, 91, 92, 93, 94] (by decide +kernel) (by decide +kernel)
set_option maxRecDepth 20000 in
theorem gX3_haste_X10_give : GoodIn wsX3_haste (wsV RX3 177 RX10 yX10_give wsX10_give) := goodIn_app (goodIn_of _ (by decide +kernel)) ggX3_haste_X10_give
set_option maxRecDepth 20000 in
theorem ggX3_waitingIn_X3_stateOf : GoodIn wsX3_waitingIn wsX3_stateOf := goodIn_r _ [9, 10, 11, 1, 3, 12, 13, 14, 15, 16, 17, 18, 19, 20, 21, 22, 23, 24, 25, 26, 27, 28, 29, 30, 31, 32, 33, 34, 35, 36, 37, 38, 39, 40, 41, 42, 43, 44] (by decide +kernel) (by decide +kernel)
set_option maxRecDepth 20000 in
theorem gX3_waitingIn_X3_stateOf : GoodIn wsX3_waitingIn (wsV RX3 88 RX3 yX3_stateOf wsX3_stateOf) := goodIn_app (goodIn_of _ (by decide +kernel)) ggX3_waitingIn_X3_stateOf
set_option maxRecDepth 20000 in
theorem ggX3_inState_X3_stateOf : GoodIn wsX3_inState wsX3_stateOf := goodIn_r _ [7, 8, 9, 1, 10, 11, 12, 13, 14, 15, 16, 17, 18, 19, 20, 21, 22, 23, 24, 25, 26, 27, 28, 29, 30, 31, 32, 33, 34, 35, 36, 37, 38, 39, 40, 41, 42, 43] (by decide +kernel) (by decide +kernel)
set_option maxRecDepth 20000 in
theorem gX3_inState_X3_stateOf : GoodIn wsX3_inState (wsV RX3 88 RX3 yX3_stateOf wsX3_stateOf) := goodIn_app (goodIn_of _ (by decide +kernel)) ggX3_inState_X3_stateOf
set_option maxRecDepth 20000 in
theorem ggX3_isLate_X3_minutesLate : GoodIn wsX3_isLate wsX3_minutesLate := goodIn_r _ [5, 6, 7, 8, 9, 10, 11, 12, 13, 14, 15, 16, 17, 18, 19, 20, 21, 22, 23, 24, 25, 26, 27, 28, 29, 30, 31, 32, 33, 34, 35, 36, 37, 38, 39, 40, 41, 42, 43, 44, 45] (by decide +kernel) (by decide +kernel)
set_option maxRecDepth 20000 in
theorem gX3_isLate_X3_minutesLate : GoodIn wsX3_isLate (wsV RX3 196 RX3 yX3_minutesLate wsX3_minutesLate) := goodIn_app (goodIn_of _ (by decide +kernel)) ggX3_isLate_X3_minutesLate
set_option maxRecDepth 20000 in
theorem ggX3_lateOnes_X3_isLate : GoodIn wsX3_lateOnes wsX3_isLate := goodIn_r _ [7, 8, 9, 10, 6, 11, 12, 13, 1, 14, 15, 16, 17, 18, 19, 20, 21, 22, 23, 24, 25, 26, 27, 28, 29, 30, 31, 32, 33, 34, 35, 36, 37, 38, 39, 40, 41, 42, 43, 44, 45, 46, 47, 48, 49, 50] (by decide +kernel) (by decide +kernel)
set_option maxRecDepth 20000 in
theorem gX3_lateOnes_X3_isLate : GoodIn wsX3_lateOnes (wsV RX3 199 RX3 yX3_isLate wsX3_isLate) := goodIn_app (goodIn_of _ (by decide +kernel)) ggX3_lateOnes_X3_isLate
set_option maxRecDepth 20000 in
theorem ggX3_linesDoneBy_X3_isDoneBy : GoodIn wsX3_linesDoneBy wsX3_isDoneBy := goodIn_r _ [9, 10, 11, 12, 13, 14, 15, 16, 17, 18, 19, 20, 21, 22, 23] (by decide +kernel) (by decide +kernel)
set_option maxRecDepth 20000 in
theorem gX3_linesDoneBy_X3_isDoneBy : GoodIn wsX3_linesDoneBy (wsV RX3 202 RX3 yX3_isDoneBy wsX3_isDoneBy) := goodIn_app (goodIn_of _ (by decide +kernel)) ggX3_linesDoneBy_X3_isDoneBy
set_option maxRecDepth 20000 in
theorem ggX3_piecesDoneBy_X3_isDoneBy : GoodIn wsX3_piecesDoneBy wsX3_isDoneBy := goodIn_r _ [7, 8, 9, 10, 11, 12, 13, 14, 15, 16, 17, 18, 19, 20, 21] (by decide +kernel) (by decide +kernel)
set_option maxRecDepth 20000 in
theorem gX3_piecesDoneBy_X3_isDoneBy : GoodIn wsX3_piecesDoneBy (wsV RX3 202 RX3 yX3_isDoneBy wsX3_isDoneBy) := goodIn_app (goodIn_of _ (by decide +kernel)) ggX3_piecesDoneBy_X3_isDoneBy
set_option maxRecDepth 20000 in
theorem ggX3_plainMinutesOf_X3_isDoneBy : GoodIn wsX3_plainMinutesOf wsX3_isDoneBy := goodIn_r _ [8, 9, 10, 21, 22, 23, 24, 25, 26, 27, 28, 29, 30, 31, 32] (by decide +kernel) (by decide +kernel)
set_option maxRecDepth 20000 in
theorem gX3_plainMinutesOf_X3_isDoneBy : GoodIn wsX3_plainMinutesOf (wsV RX3 202 RX3 yX3_isDoneBy wsX3_isDoneBy) := goodIn_app (goodIn_of _ (by decide +kernel)) ggX3_plainMinutesOf_X3_isDoneBy
set_option maxRecDepth 20000 in
theorem ggX3_plainMinutesOf_X6_allWork : GoodIn wsX3_plainMinutesOf wsX6_allWork := goodIn_r _ [15, 16, 17, 41, 42, 43, 44, 45, 46, 47, 48, 49, 50, 51] (by decide +kernel) (by decide +kernel)
set_option maxRecDepth 20000 in
theorem gX3_plainMinutesOf_X6_allWork : GoodIn wsX3_plainMinutesOf (wsV RX3 205 RX6 yX6_allWork wsX6_allWork) := goodIn_app (goodIn_of _ (by decide +kernel)) ggX3_plainMinutesOf_X6_allWork
set_option maxRecDepth 20000 in
theorem ggX3_plainMinutesOf_X11_minutesFor : GoodIn wsX3_plainMinutesOf wsX11_minutesFor := goodIn_r _ [20] (by decide +kernel) (by decide +kernel)
set_option maxRecDepth 20000 in
theorem gX3_plainMinutesOf_X11_minutesFor_n136 : GoodIn wsX3_plainMinutesOf (wsX11_minutesFor) := ggX3_plainMinutesOf_X11_minutesFor
set_option maxRecDepth 20000 in
theorem ggX3_countsFor_X3_isLate : GoodIn wsX3_countsFor wsX3_isLate := goodIn_r _ [11, 12, 13, 14, 10, 15, 16, 17, 1, 2, 4, 18, 19, 20, 21, 26, 27, 28, 29, 30, 31, 32, 33, 34, 35, 36, 37, 38, 39, 40, 41, 42, 43, 44, 45, 46, 47, 48, 49, 50, 51, 52, 53, 54, 55, 56] (by decide +kernel) (by decide +kernel)
set_option maxRecDepth 20000 in
theorem gX3_countsFor_X3_isLate : GoodIn wsX3_countsFor (wsV RX3 199 RX3 yX3_isLate wsX3_isLate) := goodIn_app (goodIn_of _ (by decide +kernel)) ggX3_countsFor_X3_isLate
set_option maxRecDepth 20000 in
theorem ggX3_countsFor_X3_today : GoodIn wsX3_countsFor wsX3_today := goodIn_r _ [25, 17, 26, 27, 28, 29, 30, 31, 32, 33, 34, 35, 36, 37] (by decide +kernel) (by decide +kernel)
set_option maxRecDepth 20000 in
theorem gX3_countsFor_X3_today : GoodIn wsX3_countsFor (wsV RX3 169 RX3 yX3_today wsX3_today) := goodIn_app (goodIn_of _ (by decide +kernel)) ggX3_countsFor_X3_today
set_option maxRecDepth 20000 in
theorem ggX5_whose_X10_holding : GoodIn wsX5_whose wsX10_holding := goodIn_r _ [15, 16, 17, 18, 19, 20, 68, 69, 70, 44, 45, 46, 47, 48, 49] (by decide +kernel) (by decide +kernel)
set_option maxRecDepth 20000 in
theorem gX5_whose_X10_holding : GoodIn wsX5_whose (wsV RX5 65 RX10 yX10_holding wsX10_holding) := goodIn_app (goodIn_of _ (by decide +kernel)) ggX5_whose_X10_holding
set_option maxRecDepth 20000 in
theorem ggX5_whose_X10_give : GoodIn wsX5_whose wsX10_give := goodIn_r _ [24, 25, 26, 27, 28, 29, 14, 30, 31, 32, 33, 34, 35, 36, 37, 68, 69, 70, 44, 45, 46, 47, 48, 49] (by decide +kernel) (by decide +kernel)
set_option maxRecDepth 20000 in
theorem gX5_whose_X10_give : GoodIn wsX5_whose (wsV RX5 69 RX10 yX10_give wsX10_give) := goodIn_app (goodIn_of _ (by decide +kernel)) ggX5_whose_X10_give
set_option maxRecDepth 20000 in
theorem ggX5_faultsWith_X3_isDoneBy : GoodIn wsX5_faultsWith wsX3_isDoneBy := goodIn_r _ [8, 9, 10, 77, 78, 79, 80, 81, 82, 83, 84, 85, 86, 87, 88] (by decide +kernel) (by decide +kernel)
set_option maxRecDepth 20000 in
theorem gX5_faultsWith_X3_isDoneBy : GoodIn wsX5_faultsWith (wsV RX5 78 RX3 yX3_isDoneBy wsX3_isDoneBy) := goodIn_app (goodIn_of _ (by decide +kernel)) ggX5_faultsWith_X3_isDoneBy
set_option maxRecDepth 20000 in
theorem ggX5_faultsWith_X5_faultsOn : GoodIn wsX5_faultsWith wsX5_faultsOn := goodIn_r _ [15, 16, 17, 18, 19, 20, 21, 14, 22, 23, 24, 25, 26, 27, 28, 29, 30, 31, 32, 33, 34, 3, 35, 36, 37, 38, 39, 40, 41, 42, 43, 44, 45, 46, 47, 48, 49, 50, 51, 52, 53, 54, 55, 56, 57, 58, 59, 60, 61, 62, 63, 64, 65, 66, 67, 68, 89, 90, 91, 92, 93, 94, 95, 96, 97, 98, 99, 100, 77, 78, 79, 80, 81, 82, 83, 84, 85, 86, 87, 88, 101, 102, 103] (by decide +kernel) (by decide +kernel)
set_option maxRecDepth 20000 in
theorem gX5_faultsWith_X5_faultsOn : GoodIn wsX5_faultsWith (wsV RX5 82 RX5 yX5_faultsOn wsX5_faultsOn) := goodIn_app (goodIn_of _ (by decide +kernel)) ggX5_faultsWith_X5_faultsOn
set_option maxRecDepth 20000 in
theorem ggX5_faultsOn_X5_isKnown : GoodIn wsX5_faultsOn wsX5_isKnown := goodIn_r _ [8, 2, 9, 10, 11, 50, 51, 52, 53, 54, 55, 56, 57, 58, 59, 60, 61] (by decide +kernel) (by decide +kernel)
set_option maxRecDepth 20000 in
theorem gX5_faultsOn_X5_isKnown : GoodIn wsX5_faultsOn (wsV RX5 86 RX5 yX5_isKnown wsX5_isKnown) := goodIn_app (goodIn_of _ (by decide +kernel)) ggX5_faultsOn_X5_isKnown
set_option maxRecDepth 20000 in
theorem ggX5_faultsOn_X5_whose : GoodIn wsX5_faultsOn wsX5_whose := goodIn_r _ [15, 2, 16, 17, 18, 19, 20, 21, 22, 3, 9, 23, 24, 25, 26, 27, 28, 29, 30, 31, 32, 33, 34, 35, 36, 37, 38, 39, 40, 41, 42, 43, 44, 45, 46, 47, 48, 49, 50, 51, 52, 53, 54, 55, 62, 63, 64, 65, 66, 67, 56, 57, 58, 59, 60, 61, 68, 69, 70, 71, 72, 73, 74, 75, 76, 77, 78, 79, 80, 81, 82] (by decide +kernel) (by decide +kernel)
set_option maxRecDepth 20000 in
theorem gX5_faultsOn_X5_whose : GoodIn wsX5_faultsOn (wsV RX5 90 RX5 yX5_whose wsX5_whose) := goodIn_app (goodIn_of _ (by decide +kernel)) ggX5_faultsOn_X5_whose
set_option maxRecDepth 20000 in
theorem ggX5_payFor_X5_faultsOn : GoodIn wsX5_payFor wsX5_faultsOn := goodIn_r _ [14, 15, 16, 17, 18, 19, 20, 13, 21, 22, 23, 24, 25, 26, 27, 28, 5, 6, 29, 30, 31, 1, 32, 33, 34, 35, 36, 37, 38, 39, 40, 41, 42, 43, 44, 45, 46, 47, 48, 49, 50, 51, 52, 53, 54, 55, 56, 57, 58, 59, 74, 75, 76, 77, 78, 79, 117, 118, 119, 120, 121, 122, 100, 101, 102, 103, 104, 105, 80, 81, 82, 83, 84, 85, 86, 87, 88, 89, 90, 91, 123, 124, 125] (by decide +kernel) (by decide +kernel)
set_option maxRecDepth 20000 in
theorem gX5_payFor_X5_faultsOn : GoodIn wsX5_payFor (wsV RX5 82 RX5 yX5_faultsOn wsX5_faultsOn) := goodIn_app (goodIn_of _ (by decide +kernel)) ggX5_payFor_X5_faultsOn
set_option maxRecDepth 20000 in
theorem ggX5_payFor_X3_minutesLate : GoodIn wsX5_payFor wsX3_minutesLate := goodIn_r _ [64, 65, 66, 67, 68, 69, 70, 71, 72, 73, 80, 81, 82, 83, 84, 85, 86, 87, 88, 89, 90, 91, 92, 93, 94, 95, 96, 97, 98, 99, 106, 107, 108, 109, 110, 111, 112, 113, 114, 115, 116] (by decide +kernel) (by decide +kernel)
set_option maxRecDepth 20000 in
theorem gX5_payFor_X3_minutesLate : GoodIn wsX5_payFor (wsV RX5 112 RX3 yX3_minutesLate wsX3_minutesLate) := goodIn_app (goodIn_of _ (by decide +kernel)) ggX5_payFor_X3_minutesLate
set_option maxRecDepth 20000 in
theorem ggX5_payFor_X10_holding : GoodIn wsX5_payFor wsX10_holding := goodIn_r _ [37, 38, 39, 40, 41, 42, 123, 124, 125, 100, 101, 102, 103, 104, 105] (by decide +kernel) (by decide +kernel)
set_option maxRecDepth 20000 in
theorem gX5_payFor_X10_holding : GoodIn wsX5_payFor (wsV RX5 65 RX10 yX10_holding wsX10_holding) := goodIn_app (goodIn_of _ (by decide +kernel)) ggX5_payFor_X10_holding
set_option maxRecDepth 20000 in
theorem ggX5_payFor_X10_give : GoodIn wsX5_payFor wsX10_give := goodIn_r _ [46, 47, 48, 49, 50, 51, 36, 52, 53, 54, 55, 56, 57, 58, 59, 123, 124, 125, 100, 101, 102, 103, 104, 105] (by decide +kernel) (by decide +kernel)
set_option maxRecDepth 20000 in
theorem gX5_payFor_X10_give : GoodIn wsX5_payFor (wsV RX5 69 RX10 yX10_give wsX10_give) := goodIn_app (goodIn_of _ (by decide +kernel)) ggX5_payFor_X10_give
set_option maxRecDepth 20000 in
theorem ggX5_payOf_X3_isDoneBy : GoodIn wsX5_payOf wsX3_isDoneBy := goodIn_r _ [9, 10, 11, 98, 99, 100, 101, 102, 103, 104, 105, 106, 107, 108, 109] (by decide +kernel) (by decide +kernel)
set_option maxRecDepth 20000 in
theorem gX5_payOf_X3_isDoneBy : GoodIn wsX5_payOf (wsV RX5 78 RX3 yX3_isDoneBy wsX3_isDoneBy) := goodIn_app (goodIn_of _ (by decide +kernel)) ggX5_payOf_X3_isDoneBy
set_option maxRecDepth 20000 in
theorem ggX5_payOf_X5_payFor : GoodIn wsX5_payOf wsX5_payFor := goodIn_r _ [16, 3, 4, 1, 17, 18, 19, 20, 21, 22, 23, 24, 25, 15, 26, 27, 28, 29, 30, 31, 32, 33, 34, 35, 36, 37, 38, 39, 40, 41, 42, 43, 44, 45, 46, 47, 48, 49, 50, 51, 52, 53, 54, 55, 56, 57, 58, 59, 60, 61, 62, 63, 64, 65, 66, 67, 68, 69, 70, 71, 72, 73, 74, 8, 75, 10, 76, 77, 78, 79, 80, 81, 82, 83, 84, 85, 86, 87, 88, 89, 98, 99, 100, 101, 102, 103, 104, 105, 106, 107, 108, 109, 90, 91, 92, 93, 94, 95, 96, 97, 110, 111, 112, 113, 114, 115, 116, 117, 118, 119, 120, 121, 122, 123, 124, 125, 126, 127, 128, 129, 130, 131, 132, 133, 134, 135] (by decide +kernel) (by decide +kernel)
set_option maxRecDepth 20000 in
theorem gX5_payOf_X5_payFor : GoodIn wsX5_payOf (wsV RX5 115 RX5 yX5_payFor wsX5_payFor) := goodIn_app (goodIn_of _ (by decide +kernel)) ggX5_payOf_X5_payFor
set_option maxRecDepth 20000 in
theorem ggX6_unknownTo_J6_bitCount_0f7a4 : GoodIn wsX6_unknownTo wsJ6_bitCount_0f7a4 := goodIn_r _ [5, 6, 7, 8] (by decide +kernel) (by decide +kernel)
set_option maxRecDepth 20000 in
theorem gX6_unknownTo_J6_bitCount_0f7a4 : GoodIn wsX6_unknownTo (va_wsS RX6 21 yJ6_bitCount_0f7a4 wsJ6_bitCount_0f7a4) := goodIn_app (goodIn_of _ (by decide +kernel)) ggX6_unknownTo_J6_bitCount_0f7a4
set_option maxRecDepth 20000 in
theorem ggX6_slipsLeft_J6_bitCount_0f7a4 : GoodIn wsX6_slipsLeft wsJ6_bitCount_0f7a4 := goodIn_r _ [6, 7, 8, 9] (by decide +kernel) (by decide +kernel)
set_option maxRecDepth 20000 in
theorem gX6_slipsLeft_J6_bitCount_0f7a4 : GoodIn wsX6_slipsLeft (va_wsS RX6 21 yJ6_bitCount_0f7a4 wsJ6_bitCount_0f7a4) := goodIn_app (goodIn_of _ (by decide +kernel)) ggX6_slipsLeft_J6_bitCount_0f7a4
set_option maxRecDepth 20000 in
theorem ggX7_seek_X7_listPieces : GoodIn wsX7_seek wsX7_listPieces := goodIn_r _ [10, 1, 11, 12, 13, 14, 15, 16, 17, 18, 19, 20, 21, 22, 23, 24, 25, 26, 27, 28, 29, 30, 161, 162, 163, 164, 165, 166, 167, 168, 169, 170, 171, 172, 173, 174, 175, 176, 177, 178, 179, 180, 181, 182, 183, 184, 185, 186, 187, 188, 189, 190, 191, 192, 193, 194, 195, 196, 197, 198, 199, 200, 201, 202, 203, 204] (by decide +kernel) (by decide +kernel)
set_option maxRecDepth 20000 in
theorem gX7_seek_X7_listPieces : GoodIn wsX7_seek (wsV RX7 35 RX7 yX7_listPieces wsX7_listPieces) := goodIn_app (goodIn_of _ (by decide +kernel)) ggX7_seek_X7_listPieces
set_option maxRecDepth 20000 in
theorem ggX7_seek_X7_listHands : GoodIn wsX7_seek wsX7_listHands := goodIn_r _ [34, 35, 11, 36, 37, 38, 39, 17, 40, 41, 161, 162, 163, 164, 165, 166, 167, 168, 169, 170, 171, 172, 173, 174, 175, 176, 177, 178, 179, 180, 181] (by decide +kernel) (by decide +kernel)
set_option maxRecDepth 20000 in
theorem gX7_seek_X7_listHands : GoodIn wsX7_seek (wsV RX7 39 RX7 yX7_listHands wsX7_listHands) := goodIn_app (goodIn_of _ (by decide +kernel)) ggX7_seek_X7_listHands
set_option maxRecDepth 20000 in
theorem ggX7_seek_X7_allowAll : GoodIn wsX7_seek wsX7_allowAll := goodIn_r _ [45, 35, 46, 1, 12, 36, 13, 47, 48, 49, 23, 50, 27, 51, 28, 52, 53, 54, 55, 56, 57, 58, 59, 60, 61, 62, 30, 63, 64, 65, 66, 67, 68, 69, 70, 71, 72, 73, 74, 75, 76, 77, 78, 79, 80, 81, 82, 83, 84, 85, 86, 87, 88, 89, 161, 162, 163, 164, 165, 166, 167, 168, 169, 170, 171, 172, 173, 182, 183, 184, 185, 186, 187, 188, 189, 190, 191, 192, 193, 174, 175, 176, 177, 178, 179, 180, 181, 205, 206, 207, 194, 195, 196, 197, 198, 199, 200, 201, 202, 203, 204, 208, 209, 210, 211, 212, 213, 214, 215, 216] (by decide +kernel) (by decide +kernel)
set_option maxRecDepth 20000 in
theorem gX7_seek_X7_allowAll : GoodIn wsX7_seek (wsV RX7 46 RX7 yX7_allowAll wsX7_allowAll) := goodIn_app (goodIn_of _ (by decide +kernel)) ggX7_seek_X7_allowAll
set_option maxRecDepth 20000 in
theorem ggX7_seek_X7_beginHand : GoodIn wsX7_seek wsX7_beginHand := goodIn_r _ [93, 35, 36, 12, 94, 95, 96, 11, 97, 98, 99, 100, 101, 102, 103, 9, 104, 2, 4, 5, 3, 105, 106, 107, 108, 109, 110, 111, 112, 113, 114, 14, 15, 16, 17, 18, 19, 115, 116, 117, 118, 119, 120, 121, 122, 123, 124, 125, 126, 127, 128, 129, 130, 1, 46, 13, 131, 132, 133, 134, 135, 90, 91, 92, 136, 137, 138, 139, 140, 141, 142, 143, 144, 145, 23, 146, 27, 51, 147, 28, 148, 149, 150, 151, 152, 153, 154, 155, 156, 157, 158, 159, 160, 161, 162, 163, 164, 165, 166, 167, 168, 169, 170, 171, 172, 173, 182, 183, 184, 185, 186, 187, 188, 189, 190, 191, 192, 193, 174, 175, 176, 177, 178, 179, 180, 181, 194, 195, 196, 197, 198, 199, 200, 201, 202, 203, 204, 217, 218, 219, 205, 206, 207] (by decide +kernel) (by decide +kernel)
set_option maxRecDepth 20000 in
theorem gX7_seek_X7_beginHand : GoodIn wsX7_seek (wsV RX7 63 RX7 yX7_beginHand wsX7_beginHand) := goodIn_app (goodIn_of _ (by decide +kernel)) ggX7_seek_X7_beginHand
set_option maxRecDepth 20000 in
theorem ggX7_listPieces_X1_hasPiece : GoodIn wsX7_listPieces wsX1_hasPiece := goodIn_r _ [9, 10, 35, 36, 37, 38, 39, 40, 41, 42] (by decide +kernel) (by decide +kernel)
set_option maxRecDepth 20000 in
theorem gX7_listPieces_X1_hasPiece : GoodIn wsX7_listPieces (wsV RX7 67 RX1 yX1_hasPiece wsX1_hasPiece) := goodIn_app (goodIn_of _ (by decide +kernel)) ggX7_listPieces_X1_hasPiece
set_option maxRecDepth 20000 in
theorem ggX7_listPieces_X3_stateOf : GoodIn wsX7_listPieces wsX3_stateOf := goodIn_r _ [15, 16, 17, 18, 19, 20, 21, 43, 44, 45, 46, 47, 48, 49, 50, 51, 52, 53, 54, 35, 36, 37, 38, 39, 40, 41, 42, 55, 56, 57, 58, 59, 60, 61, 62, 63, 64, 65] (by decide +kernel) (by decide +kernel)
set_option maxRecDepth 20000 in
theorem gX7_listPieces_X3_stateOf : GoodIn wsX7_listPieces (wsV RX7 72 RX3 yX3_stateOf wsX3_stateOf) := goodIn_app (goodIn_of _ (by decide +kernel)) ggX7_listPieces_X3_stateOf
set_option maxRecDepth 20000 in
theorem ggX7_listHands_X1_hasHand : GoodIn wsX7_listHands wsX1_hasHand := goodIn_r _ [8, 9, 23, 24, 25, 26, 27, 28, 29, 30] (by decide +kernel) (by decide +kernel)
set_option maxRecDepth 20000 in
theorem gX7_listHands_X1_hasHand : GoodIn wsX7_listHands (wsV RX7 81 RX1 yX1_hasHand wsX1_hasHand) := goodIn_app (goodIn_of _ (by decide +kernel)) ggX7_listHands_X1_hasHand
set_option maxRecDepth 20000 in
theorem ggX7_allowAll_X3_mayDo : GoodIn wsX7_allowAll wsX3_mayDo := goodIn_r _ [11, 12, 13, 14, 15, 16, 17, 18, 19, 20, 21, 22, 23, 24, 10, 25, 26, 27, 28, 29, 30, 31, 32, 33, 34, 35, 36, 37, 38, 39, 40, 41, 42, 43, 44, 45, 46, 47, 48, 49, 50, 51, 52, 53, 67, 68, 69, 70, 71, 72, 73, 74, 75, 76, 77, 78, 79, 80, 81, 82, 83, 84, 85, 86, 87, 88, 89, 90, 91, 92, 93, 94, 95, 96, 97, 98, 99, 100, 101, 102, 103, 104, 105, 106, 107, 108, 109] (by decide +kernel) (by decide +kernel)
set_option maxRecDepth 20000 in
theorem gX7_allowAll_X3_mayDo : GoodIn wsX7_allowAll (wsV RX7 84 RX3 yX3_mayDo wsX3_mayDo) := goodIn_app (goodIn_of _ (by decide +kernel)) ggX7_allowAll_X3_mayDo
set_option maxRecDepth 20000 in
theorem ggX7_beginHand_X7_keep : GoodIn wsX7_beginHand wsX7_keep := goodIn_r _ [16, 17, 18, 19, 20, 21, 22, 23, 24, 25, 26, 27, 28, 29, 15, 30, 93, 94, 95, 96, 97, 98, 99, 100, 101, 102, 103, 104, 105] (by decide +kernel) (by decide +kernel)
set_option maxRecDepth 20000 in
theorem gX7_beginHand_X7_keep : GoodIn wsX7_beginHand (wsV RX7 88 RX7 yX7_keep wsX7_keep) := goodIn_app (goodIn_of _ (by decide +kernel)) ggX7_beginHand_X7_keep
set_option maxRecDepth 20000 in
theorem ggX7_beginHand_X1_hasPiece : GoodIn wsX7_beginHand wsX1_hasPiece := goodIn_r _ [35, 36, 118, 119, 120, 121, 122, 123, 124, 125] (by decide +kernel) (by decide +kernel)
set_option maxRecDepth 20000 in
theorem gX7_beginHand_X1_hasPiece : GoodIn wsX7_beginHand (wsV RX7 67 RX1 yX1_hasPiece wsX1_hasPiece) := goodIn_app (goodIn_of _ (by decide +kernel)) ggX7_beginHand_X1_hasPiece
set_option maxRecDepth 20000 in
theorem ggX7_beginHand_X11_minutesFor : GoodIn wsX7_beginHand wsX11_minutesFor := goodIn_r _ [39] (by decide +kernel) (by decide +kernel)
set_option maxRecDepth 20000 in
theorem gX7_beginHand_X11_minutesFor_n107 : GoodIn wsX7_beginHand (wsX11_minutesFor) := ggX7_beginHand_X11_minutesFor
set_option maxRecDepth 20000 in
theorem ggX7_beginHand_X1_minuteAfterWork : GoodIn wsX7_beginHand wsX1_minuteAfterWork := goodIn_r _ [43, 44, 45, 46, 47, 48, 118, 119, 120, 121, 122, 123, 124, 125, 137, 138, 139] (by decide +kernel) (by decide +kernel)
set_option maxRecDepth 20000 in
theorem gX7_beginHand_X1_minuteAfterWork : GoodIn wsX7_beginHand (wsV RX7 111 RX1 yX1_minuteAfterWork wsX1_minuteAfterWork) := goodIn_app (goodIn_of _ (by decide +kernel)) ggX7_beginHand_X1_minuteAfterWork
set_option maxRecDepth 20000 in
theorem ggX7_beginHand_X7_goOn : GoodIn wsX7_beginHand wsX7_goOn := goodIn_r _ [52, 1, 21, 2, 53, 54, 55, 7, 10, 3, 56, 57, 58, 59, 60, 11, 27, 28, 29, 15, 30, 17, 18, 19, 61, 62, 63, 64, 65, 66, 67, 68, 69, 70, 71, 72, 73, 74, 75, 76, 77, 78, 79, 80, 81, 82, 83, 84, 85, 86, 87, 88, 89, 90, 91, 92, 37, 38, 39, 40, 41, 42, 34, 43, 44, 45, 46, 47, 48, 49, 50, 51, 0, 4, 5, 6, 8, 9, 12, 13, 14, 16, 20, 22, 23, 24, 25, 26, 31, 32, 33, 35, 36, 93, 94, 95, 96, 97, 98, 99, 100, 101, 102, 103, 104, 105, 106, 107, 108, 109, 110, 111, 112, 113, 114, 115, 116, 117, 118, 119, 120, 121, 122, 123, 124, 125, 126, 127, 128, 129, 130, 131, 132, 133, 134, 135, 136, 137, 138, 139, 140, 141, 142] (by decide +kernel) (by decide +kernel)
set_option maxRecDepth 20000 in
theorem gX7_beginHand_X7_goOn : GoodIn wsX7_beginHand (wsV RX7 122 RX7 yX7_goOn wsX7_goOn) := goodIn_app (goodIn_of _ (by decide +kernel)) ggX7_beginHand_X7_goOn
set_option maxRecDepth 20000 in
theorem ggX7_goOn_X7_isBetter : GoodIn wsX7_goOn wsX7_isBetter := goodIn_r _ [20, 21, 22, 23, 93, 94, 95, 96, 97, 98, 99, 100, 101, 102, 103, 104, 105] (by decide +kernel) (by decide +kernel)
set_option maxRecDepth 20000 in
theorem gX7_goOn_X7_isBetter : GoodIn wsX7_goOn (wsV RX7 126 RX7 yX7_isBetter wsX7_isBetter) := goodIn_app (goodIn_of _ (by decide +kernel)) ggX7_goOn_X7_isBetter
set_option maxRecDepth 20000 in
theorem ggX7_goOn_X7_beginHand : GoodIn wsX7_goOn wsX7_beginHand := goodIn_r _ [72, 1, 3, 9, 73, 74, 75, 7, 76, 77, 8, 15, 78, 79, 80, 19, 81, 21, 22, 23, 82, 2, 83, 84, 85, 86, 87, 16, 17, 18, 20, 88, 89, 90, 62, 91, 92, 56, 57, 58, 59, 60, 61, 63, 64, 65, 66, 67, 68, 69, 70, 71, 0, 4, 5, 6, 10, 11, 12, 13, 14, 24, 25, 26, 27, 28, 29, 30, 31, 32, 33, 34, 35, 36, 37, 38, 39, 40, 41, 42, 43, 44, 45, 46, 47, 48, 49, 50, 51, 52, 53, 54, 55, 93, 94, 95, 96, 97, 98, 99, 100, 101, 102, 103, 104, 105, 106, 107, 108, 109, 110, 111, 112, 113, 114, 115, 116, 117, 118, 119, 120, 121, 122, 123, 124, 125, 126, 127, 128, 129, 130, 131, 132, 133, 134, 135, 136, 137, 138, 139, 140, 141, 142] (by decide +kernel) (by decide +kernel)
set_option maxRecDepth 20000 in
theorem gX7_goOn_X7_beginHand : GoodIn wsX7_goOn (wsV RX7 63 RX7 yX7_beginHand wsX7_beginHand) := goodIn_app (goodIn_of _ (by decide +kernel)) ggX7_goOn_X7_beginHand
set_option maxRecDepth 20000 in
theorem ggX7_goOn_X6_allWork : GoodIn wsX7_goOn wsX6_allWork := goodIn_r _ [31, 32, 33, 126, 127, 128, 129, 130, 131, 132, 133, 134, 135, 136] (by decide +kernel) (by decide +kernel)
set_option maxRecDepth 20000 in
theorem gX7_goOn_X6_allWork : GoodIn wsX7_goOn (wsV RX7 130 RX6 yX6_allWork wsX6_allWork) := goodIn_app (goodIn_of _ (by decide +kernel)) ggX7_goOn_X6_allWork
set_option maxRecDepth 20000 in
theorem ggX7_goOn_X3_rateFor : GoodIn wsX7_goOn wsX3_rateFor := goodIn_r _ [38, 39, 40, 41, 42, 43, 12, 13, 14, 44, 45, 46, 30, 47, 48, 49, 50, 51, 52, 53, 54, 55, 106, 107, 108, 109, 110, 111, 112, 113, 114, 115, 116, 117, 118, 119, 120, 121, 122, 123, 124, 125, 140, 141, 142, 126, 127, 128, 129, 130, 131, 132, 133, 134, 135, 136] (by decide +kernel) (by decide +kernel)
set_option maxRecDepth 20000 in
theorem gX7_goOn_X3_rateFor : GoodIn wsX7_goOn (wsV RX7 133 RX3 yX3_rateFor wsX3_rateFor) := goodIn_app (goodIn_of _ (by decide +kernel)) ggX7_goOn_X3_rateFor
set_option maxRecDepth 20000 in
theorem ggX7_goOn_X11_minutesFor : GoodIn wsX7_goOn wsX11_minutesFor := goodIn_r _ [58] (by decide +kernel) (by decide +kernel)
set_option maxRecDepth 20000 in
theorem gX7_goOn_X11_minutesFor_n107 : GoodIn wsX7_goOn (wsX11_minutesFor) := ggX7_goOn_X11_minutesFor
set_option maxRecDepth 20000 in
theorem ggX7_goOn_X1_minuteAfterWork : GoodIn wsX7_goOn wsX1_minuteAfterWork := goodIn_r _ [63, 64, 65, 66, 67, 68, 118, 119, 120, 121, 122, 123, 124, 125, 137, 138, 139] (by decide +kernel) (by decide +kernel)
set_option maxRecDepth 20000 in
theorem gX7_goOn_X1_minuteAfterWork : GoodIn wsX7_goOn (wsV RX7 111 RX1 yX1_minuteAfterWork wsX1_minuteAfterWork) := goodIn_app (goodIn_of _ (by decide +kernel)) ggX7_goOn_X1_minuteAfterWork
set_option maxRecDepth 20000 in
theorem ggX7_goOn_X7_goOn : GoodIn wsX7_goOn wsX7_goOn := goodIn_r _ [0, 1, 2, 3, 4, 5, 6, 7, 8, 9, 10, 11, 12, 13, 14, 15, 16, 17, 18, 19, 20, 21, 22, 23, 24, 25, 26, 27, 28, 29, 30, 31, 32, 33, 34, 35, 36, 37, 38, 39, 40, 41, 42, 43, 44, 45, 46, 47, 48, 49, 50, 51, 52, 53, 54, 55, 56, 57, 58, 59, 60, 61, 62, 63, 64, 65, 66, 67, 68, 69, 70, 71, 72, 73, 74, 75, 76, 77, 78, 79, 80, 81, 82, 83, 84, 85, 86, 87, 88, 89, 90, 91, 92, 93, 94, 95, 96, 97, 98, 99, 100, 101, 102, 103, 104, 105, 106, 107, 108, 109, 110, 111, 112, 113, 114, 115, 116, 117, 118, 119, 120, 121, 122, 123, 124, 125, 126, 127, 128, 129, 130, 131, 132, 133, 134, 135, 136, 137, 138, 139, 140, 141, 142] (by decide +kernel) (by decide +kernel)
set_option maxRecDepth 20000 in
theorem gX7_goOn_X7_goOn : GoodIn wsX7_goOn (wsV RX7 122 RX7 yX7_goOn wsX7_goOn) := goodIn_app (goodIn_of _ (by decide +kernel)) ggX7_goOn_X7_goOn
set_option maxRecDepth 20000 in
theorem ggX7_keep_X7_isBetter : GoodIn wsX7_keep wsX7_isBetter := goodIn_r _ [15, 1, 2, 3, 16, 17, 18, 19, 20, 21, 22, 23, 24, 25, 26, 27, 28] (by decide +kernel) (by decide +kernel)
set_option maxRecDepth 20000 in
theorem gX7_keep_X7_isBetter : GoodIn wsX7_keep (wsV RX7 126 RX7 yX7_isBetter wsX7_isBetter) := goodIn_app (goodIn_of _ (by decide +kernel)) ggX7_keep_X7_isBetter
set_option maxRecDepth 20000 in
theorem ggX8_read_X8_beginsThing : GoodIn wsX8_read wsX8_beginsThing := goodIn_r _ [15, 5, 6, 3, 4, 16, 17, 18, 19, 20, 21, 22, 23, 24, 25, 26, 27, 28, 29, 30, 31, 32, 33, 34, 35, 36, 37, 38, 39, 40, 41, 42, 43, 44, 45, 9, 46, 47, 8, 10, 48, 49, 50, 51, 52, 53, 54, 55, 56, 57, 58, 59, 60, 61, 62, 63, 64, 65, 66, 67, 68, 69, 70, 71, 72, 73, 74, 75, 76, 77, 78, 79, 80, 81, 82, 83, 84, 85, 86, 87, 88, 89, 90, 91, 92, 93, 94, 95, 96, 97, 98, 99, 100, 101, 102, 103, 14, 104, 105, 106, 107, 108, 1, 109, 110, 111, 112, 113, 2, 114, 134, 135, 136, 137, 138, 139, 140, 141] (by decide +kernel) (by decide +kernel)
set_option maxRecDepth 20000 in
theorem gX8_read_X8_beginsThing : GoodIn wsX8_read (wsV RX8 45 RX8 yX8_beginsThing wsX8_beginsThing) := goodIn_app (goodIn_of _ (by decide +kernel)) ggX8_read_X8_beginsThing
set_option maxRecDepth 20000 in
theorem ggX8_read_X8_followsThing : GoodIn wsX8_read wsX8_followsThing := goodIn_r _ [118, 5, 4, 3, 6, 102, 103, 14, 104, 119, 120, 121, 122, 1, 109, 123, 124, 125, 126, 2, 127, 128, 129, 130, 114, 131, 132, 133, 105, 106, 107, 108, 110, 111, 112, 113, 134, 135, 136, 137, 138, 139, 140, 141] (by decide +kernel) (by decide +kernel)
set_option maxRecDepth 20000 in
theorem gX8_read_X8_followsThing : GoodIn wsX8_read (wsV RX8 49 RX8 yX8_followsThing wsX8_followsThing) := goodIn_app (goodIn_of _ (by decide +kernel)) ggX8_read_X8_followsThing
set_option maxRecDepth 20000 in
theorem ggX8_read_X8_close : GoodIn wsX8_read wsX8_close := goodIn_r _ [130, 2, 114, 131, 132, 14, 133, 105, 106, 107, 108, 1, 109, 134, 135, 136, 137, 138, 139, 140, 141] (by decide +kernel) (by decide +kernel)
set_option maxRecDepth 20000 in
theorem gX8_read_X8_close : GoodIn wsX8_read (wsV RX8 53 RX8 yX8_close wsX8_close) := goodIn_app (goodIn_of _ (by decide +kernel)) ggX8_read_X8_close
set_option maxRecDepth 20000 in
theorem ggX8_codeRead_J7_copyOf_59c91 : GoodIn wsX8_codeRead wsJ7_copyOf_59c91 := goodIn_r _ [6, 7, 8, 9, 10, 11, 12, 13, 14, 15, 16, 17, 18, 19, 20, 21] (by decide +kernel) (by decide +kernel)
set_option maxRecDepth 20000 in
theorem gX8_codeRead_J7_copyOf_59c91 : GoodIn wsX8_codeRead (va_wsS RX8 57 yJ7_copyOf_59c91 wsJ7_copyOf_59c91) := goodIn_app (goodIn_of _ (by decide +kernel)) ggX8_codeRead_J7_copyOf_59c91
set_option maxRecDepth 20000 in
theorem ggX8_beginsThing_J0_indexOf_0f7a4 : GoodIn wsX8_beginsThing wsJ0_indexOf_0f7a4 := goodIn_r _ [9, 10, 11, 12, 8, 13, 14, 15, 16, 17, 18, 19, 20, 21, 22, 23, 24, 25, 26, 27, 28, 29, 30, 31, 32, 33, 34, 35, 36, 37, 38, 39, 40, 41, 42, 43, 44, 45, 46, 47, 48, 49, 50, 51, 52, 53, 54, 55, 56, 57, 58, 59, 60, 61, 62, 63, 64, 65, 66, 67, 68, 69, 70, 71, 72, 73, 74, 75, 76, 77, 78, 79, 80, 81, 82, 83, 84, 85, 86, 87, 88, 89, 90, 91, 92, 93] (by decide +kernel) (by decide +kernel)
set_option maxRecDepth 20000 in
theorem gX8_beginsThing_J0_indexOf_0f7a4 : GoodIn wsX8_beginsThing (wsV RX8 63 RJ0 yJ0_indexOf_0f7a4 wsJ0_indexOf_0f7a4) := goodIn_app (goodIn_of _ (by decide +kernel)) ggX8_beginsThing_J0_indexOf_0f7a4
set_option maxRecDepth 20000 in
theorem ggX8_beginsThing_X8_isDigit : GoodIn wsX8_beginsThing wsX8_isDigit := goodIn_r _ [97] (by decide +kernel) (by decide +kernel)
set_option maxRecDepth 20000 in
theorem gX8_beginsThing_X8_isDigit : GoodIn wsX8_beginsThing (va_wsS RX8 69 yX8_isDigit wsX8_isDigit) := goodIn_app (goodIn_of _ (by decide +kernel)) ggX8_beginsThing_X8_isDigit
set_option maxRecDepth 20000 in
theorem ggX8_beginsThing_X8_write : GoodIn wsX8_beginsThing wsX8_write := goodIn_r _ [101, 102, 103, 110, 111, 112, 113, 114, 115, 116, 117] (by decide +kernel) (by decide +kernel)
set_option maxRecDepth 20000 in
theorem gX8_beginsThing_X8_write : GoodIn wsX8_beginsThing (wsV RX8 72 RX8 yX8_write wsX8_write) := goodIn_app (goodIn_of _ (by decide +kernel)) ggX8_beginsThing_X8_write
set_option maxRecDepth 20000 in
theorem ggX8_beginsThing_X8_keepOpen : GoodIn wsX8_beginsThing wsX8_keepOpen := goodIn_r _ [107, 108, 109, 110, 111, 112, 113, 114, 115, 116, 117] (by decide +kernel) (by decide +kernel)
set_option maxRecDepth 20000 in
theorem gX8_beginsThing_X8_keepOpen : GoodIn wsX8_beginsThing (wsV RX8 75 RX8 yX8_keepOpen wsX8_keepOpen) := goodIn_app (goodIn_of _ (by decide +kernel)) ggX8_beginsThing_X8_keepOpen
set_option maxRecDepth 20000 in
theorem ggX8_followsThing_X8_isDigit : GoodIn wsX8_followsThing wsX8_isDigit := goodIn_r _ [8] (by decide +kernel) (by decide +kernel)
set_option maxRecDepth 20000 in
theorem gX8_followsThing_X8_isDigit : GoodIn wsX8_followsThing (va_wsS RX8 69 yX8_isDigit wsX8_isDigit) := goodIn_app (goodIn_of _ (by decide +kernel)) ggX8_followsThing_X8_isDigit
set_option maxRecDepth 20000 in
theorem ggX8_followsThing_X8_goesOnNumber : GoodIn wsX8_followsThing wsX8_goesOnNumber := goodIn_r _ [12, 1, 13, 14, 36, 37, 38, 39, 40, 41, 42, 43] (by decide +kernel) (by decide +kernel)
set_option maxRecDepth 20000 in
theorem gX8_followsThing_X8_goesOnNumber : GoodIn wsX8_followsThing (wsV RX8 79 RX8 yX8_goesOnNumber wsX8_goesOnNumber) := goodIn_app (goodIn_of _ (by decide +kernel)) ggX8_followsThing_X8_goesOnNumber
set_option maxRecDepth 20000 in
theorem ggX8_followsThing_X8_closesBracket : GoodIn wsX8_followsThing wsX8_closesBracket := goodIn_r _ [18, 3, 19, 20, 21, 22, 7, 23, 24, 25, 26, 27, 28, 29, 30, 31, 13, 14, 36, 37, 38, 39, 40, 41, 42, 43] (by decide +kernel) (by decide +kernel)
set_option maxRecDepth 20000 in
theorem gX8_followsThing_X8_closesBracket : GoodIn wsX8_followsThing (wsV RX8 82 RX8 yX8_closesBracket wsX8_closesBracket) := goodIn_app (goodIn_of _ (by decide +kernel)) ggX8_followsThing_X8_closesBracket
set_option maxRecDepth 20000 in
theorem ggX8_followsThing_X8_binding : GoodIn wsX8_followsThing wsX8_binding := goodIn_r _ [27] (by decide +kernel) (by decide +kernel)
set_option maxRecDepth 20000 in
theorem gX8_followsThing_X8_binding : GoodIn wsX8_followsThing (va_wsS RX8 86 yX8_binding wsX8_binding) := goodIn_app (goodIn_of _ (by decide +kernel)) ggX8_followsThing_X8_binding
set_option maxRecDepth 20000 in
theorem ggX8_followsThing_X8_close : GoodIn wsX8_followsThing wsX8_close := goodIn_r _ [23, 19, 24, 25, 26, 7, 27, 28, 29, 30, 31, 13, 14, 36, 37, 38, 39, 40, 41, 42, 43] (by decide +kernel) (by decide +kernel)
set_option maxRecDepth 20000 in
theorem gX8_followsThing_X8_close : GoodIn wsX8_followsThing (wsV RX8 53 RX8 yX8_close wsX8_close) := goodIn_app (goodIn_of _ (by decide +kernel)) ggX8_followsThing_X8_close
set_option maxRecDepth 20000 in
theorem ggX8_followsThing_X8_keepOpen : GoodIn wsX8_followsThing wsX8_keepOpen := goodIn_r _ [35, 19, 24, 36, 37, 38, 39, 40, 41, 42, 43] (by decide +kernel) (by decide +kernel)
set_option maxRecDepth 20000 in
theorem gX8_followsThing_X8_keepOpen : GoodIn wsX8_followsThing (wsV RX8 75 RX8 yX8_keepOpen wsX8_keepOpen) := goodIn_app (goodIn_of _ (by decide +kernel)) ggX8_followsThing_X8_keepOpen
set_option maxRecDepth 20000 in
theorem ggX8_closesBracket_X8_close : GoodIn wsX8_closesBracket wsX8_close := goodIn_r _ [7, 2, 8, 9, 10, 6, 11, 12, 13, 14, 15, 16, 17, 18, 19, 20, 21, 22, 23, 24, 25] (by decide +kernel) (by decide +kernel)
set_option maxRecDepth 20000 in
theorem gX8_closesBracket_X8_close : GoodIn wsX8_closesBracket (wsV RX8 53 RX8 yX8_close wsX8_close) := goodIn_app (goodIn_of _ (by decide +kernel)) ggX8_closesBracket_X8_close
set_option maxRecDepth 20000 in
theorem ggX8_close_X8_binding : GoodIn wsX8_close wsX8_binding := goodIn_r _ [6] (by decide +kernel) (by decide +kernel)
set_option maxRecDepth 20000 in
theorem gX8_close_X8_binding : GoodIn wsX8_close (va_wsS RX8 86 yX8_binding wsX8_binding) := goodIn_app (goodIn_of _ (by decide +kernel)) ggX8_close_X8_binding
set_option maxRecDepth 20000 in
theorem ggX8_close_X8_write : GoodIn wsX8_close wsX8_write := goodIn_r _ [10, 11, 12, 13, 14, 15, 16, 17, 18, 19, 20] (by decide +kernel) (by decide +kernel)
set_option maxRecDepth 20000 in
theorem gX8_close_X8_write : GoodIn wsX8_close (wsV RX8 72 RX8 yX8_write wsX8_write) := goodIn_app (goodIn_of _ (by decide +kernel)) ggX8_close_X8_write
set_option maxRecDepth 20000 in
theorem ggX10_init_X8_init : GoodIn wsX10_init wsX8_init := goodIn_r _ [18, 19, 2, 3, 7, 20, 21, 22, 221, 222, 223, 224, 225, 226, 227, 228] (by decide +kernel) (by decide +kernel)
set_option maxRecDepth 20000 in
theorem gX10_init_X8_init_n30 : GoodIn wsX10_init (wsX8_init) := ggX10_init_X8_init
set_option maxRecDepth 20000 in
theorem ggX10_init_X10_textAtFirst : GoodIn wsX10_init wsX10_textAtFirst := goodIn_r _ [26] (by decide +kernel) (by decide +kernel)
set_option maxRecDepth 20000 in
theorem gX10_init_X10_textAtFirst : GoodIn wsX10_init (va_wsS RX10 38 yX10_textAtFirst wsX10_textAtFirst) := goodIn_app (goodIn_of _ (by decide +kernel)) ggX10_init_X10_textAtFirst
set_option maxRecDepth 20000 in
theorem ggX10_init_J0_toCharArray_70df3 : GoodIn wsX10_init wsJ0_toCharArray_70df3 := goodIn_r _ [31, 32, 33, 34, 35, 30, 36, 37, 38, 39, 40, 41, 42, 21, 43, 44, 45, 46, 47, 48, 49, 50, 51, 52, 53, 54, 55, 56, 57, 58, 59, 60, 61, 62, 63, 64, 65, 66, 67, 68, 69, 70, 71, 72] (by decide +kernel) (by decide +kernel)
set_option maxRecDepth 20000 in
theorem gX10_init_J0_toCharArray_70df3 : GoodIn wsX10_init (wsV RX10 42 RJ0 yJ0_toCharArray_70df3 wsJ0_toCharArray_70df3) := goodIn_app (goodIn_of _ (by decide +kernel)) ggX10_init_J0_toCharArray_70df3
set_option maxRecDepth 20000 in
theorem ggX10_init_X10_lettersOf : GoodIn wsX10_init wsX10_lettersOf := goodIn_r _ [75] (by decide +kernel) (by decide +kernel)
set_option maxRecDepth 20000 in
theorem gX10_init_X10_lettersOf : GoodIn wsX10_init (va_wsS RX10 48 yX10_lettersOf wsX10_lettersOf) := goodIn_app (goodIn_of _ (by decide +kernel)) ggX10_init_X10_lettersOf
set_option maxRecDepth 20000 in
theorem ggX10_init_X8_read : GoodIn wsX10_init wsX8_read := goodIn_r _ [79, 80, 81, 82, 83, 84, 85, 86, 87, 88, 89, 90, 91, 92, 12, 93, 94, 95, 96, 30, 97, 98, 99, 100, 101, 32, 33, 34, 35, 36, 37, 38, 102, 103, 104, 105, 106, 107, 108, 109, 110, 111, 41, 112, 113, 114, 115, 116, 117, 118, 119, 120, 121, 122, 123, 124, 48, 125, 126, 127, 128, 129, 130, 131, 132, 133, 134, 56, 57, 58, 135, 136, 137, 62, 138, 139, 65, 140, 141, 142, 143, 67, 68, 69, 70, 71, 72, 144, 145, 146, 147, 148, 149, 150, 151, 152, 153, 154, 155, 156, 157, 158, 159, 160, 161, 162, 163, 164, 165, 20, 166, 167, 168, 169, 22, 170, 171, 172, 173, 174, 175, 176, 177, 178, 179, 180, 181, 182, 183, 184, 185, 186, 187, 188, 221, 222, 223, 224, 225, 226, 227, 228] (by decide +kernel) (by decide +kernel)
set_option maxRecDepth 20000 in
theorem gX10_init_X8_read : GoodIn wsX10_init (wsV RX10 51 RX8 yX8_read wsX8_read) := goodIn_app (goodIn_of _ (by decide +kernel)) ggX10_init_X8_read
set_option maxRecDepth 20000 in
theorem ggX10_init_X8_codeRead : GoodIn wsX10_init wsX8_codeRead := goodIn_r _ [192, 20, 80, 193, 194, 195, 196, 197, 198, 199, 200, 201, 202, 7, 203, 87, 88, 89, 204, 205, 206, 207, 221, 222, 223, 224, 225, 226, 227, 228] (by decide +kernel) (by decide +kernel)
set_option maxRecDepth 20000 in
theorem gX10_init_X8_codeRead : GoodIn wsX10_init (wsV RX10 55 RX8 yX8_codeRead wsX8_codeRead) := goodIn_app (goodIn_of _ (by decide +kernel)) ggX10_init_X8_codeRead
set_option maxRecDepth 20000 in
theorem ggX10_init_X9_init : GoodIn wsX10_init wsX9_init := goodIn_r _ [210, 211, 2, 3, 212, 213, 214, 229, 230, 231] (by decide +kernel) (by decide +kernel)
set_option maxRecDepth 20000 in
theorem gX10_init_X9_init : GoodIn wsX10_init (wsX9_init) := ggX10_init_X9_init
set_option maxRecDepth 20000 in
theorem ggX10_tell_X10_lettersOf : GoodIn wsX10_tell wsX10_lettersOf := goodIn_r _ [10] (by decide +kernel) (by decide +kernel)
set_option maxRecDepth 20000 in
theorem gX10_tell_X10_lettersOf : GoodIn wsX10_tell (va_wsS RX10 48 yX10_lettersOf wsX10_lettersOf) := goodIn_app (goodIn_of _ (by decide +kernel)) ggX10_tell_X10_lettersOf
set_option maxRecDepth 20000 in
theorem ggX10_tell_X8_read : GoodIn wsX10_tell wsX8_read := goodIn_r _ [15, 16, 17, 18, 19, 20, 21, 22, 23, 24, 25, 26, 27, 28, 14, 29, 30, 31, 32, 33, 34, 35, 36, 37, 38, 39, 40, 41, 42, 43, 44, 45, 46, 47, 48, 49, 50, 51, 52, 53, 54, 55, 56, 57, 58, 59, 60, 61, 62, 63, 64, 65, 66, 67, 68, 69, 70, 71, 72, 73, 74, 75, 76, 77, 78, 79, 80, 81, 82, 83, 84, 85, 86, 87, 88, 89, 90, 91, 92, 93, 94, 95, 96, 97, 98, 99, 100, 101, 102, 103, 104, 105, 106, 107, 108, 109, 110, 111, 112, 113, 114, 115, 116, 117, 118, 119, 120, 121, 122, 123, 124, 125, 126, 127, 128, 129, 130, 131, 132, 133, 134, 135, 136, 137, 138, 139, 140, 141, 142, 143, 144, 145, 146, 147, 186, 187, 188, 189, 190, 191, 192, 193] (by decide +kernel) (by decide +kernel)
set_option maxRecDepth 20000 in
theorem gX10_tell_X8_read : GoodIn wsX10_tell (wsV RX10 51 RX8 yX8_read wsX8_read) := goodIn_app (goodIn_of _ (by decide +kernel)) ggX10_tell_X8_read
set_option maxRecDepth 20000 in
theorem ggX10_tell_X8_codeRead : GoodIn wsX10_tell wsX8_codeRead := goodIn_r _ [151, 123, 16, 152, 153, 154, 155, 156, 157, 158, 159, 160, 161, 162, 163, 23, 24, 25, 164, 165, 166, 167, 186, 187, 188, 189, 190, 191, 192, 193] (by decide +kernel) (by decide +kernel)
set_option maxRecDepth 20000 in
theorem gX10_tell_X8_codeRead : GoodIn wsX10_tell (wsV RX10 55 RX8 yX8_codeRead wsX8_codeRead) := goodIn_app (goodIn_of _ (by decide +kernel)) ggX10_tell_X8_codeRead
set_option maxRecDepth 20000 in
theorem ggX10_tell_X9_init : GoodIn wsX10_tell wsX9_init := goodIn_r _ [170, 171, 172, 173, 174, 175, 176, 183, 184, 185] (by decide +kernel) (by decide +kernel)
set_option maxRecDepth 20000 in
theorem gX10_tell_X9_init : GoodIn wsX10_tell (wsX9_init) := ggX10_tell_X9_init
set_option maxRecDepth 20000 in
theorem ggX10_give_X10_thing : GoodIn wsX10_give wsX10_thing := goodIn_r _ [7, 8, 18, 19, 20, 21, 22, 23] (by decide +kernel) (by decide +kernel)
set_option maxRecDepth 20000 in
theorem gX10_give_X10_thing : GoodIn wsX10_give (wsV RX10 87 RX10 yX10_thing wsX10_thing) := goodIn_app (goodIn_of _ (by decide +kernel)) ggX10_give_X10_thing
set_option maxRecDepth 20000 in
theorem ggX10_give_X10_truth : GoodIn wsX10_give wsX10_truth := goodIn_r _ [11] (by decide +kernel) (by decide +kernel)
set_option maxRecDepth 20000 in
theorem gX10_give_X10_truth : GoodIn wsX10_give (va_wsS RX10 91 yX10_truth wsX10_truth) := goodIn_app (goodIn_of _ (by decide +kernel)) ggX10_give_X10_truth
set_option maxRecDepth 20000 in
theorem ggX10_give_X10_joined : GoodIn wsX10_give wsX10_joined := goodIn_r _ [14, 9, 10, 6, 11] (by decide +kernel) (by decide +kernel)
set_option maxRecDepth 20000 in
theorem gX10_give_X10_joined : GoodIn wsX10_give (va_wsS RX10 95 yX10_joined wsX10_joined) := goodIn_app (goodIn_of _ (by decide +kernel)) ggX10_give_X10_joined
set_option maxRecDepth 20000 in
theorem ggX10_joined_X10_truth : GoodIn wsX10_joined wsX10_truth := goodIn_r _ [4] (by decide +kernel) (by decide +kernel)
set_option maxRecDepth 20000 in
theorem gX10_joined_X10_truth : GoodIn wsX10_joined (va_wsS RX10 91 yX10_truth wsX10_truth) := goodIn_app (goodIn_of _ (by decide +kernel)) ggX10_joined_X10_truth
set_option maxRecDepth 20000 in
theorem ggX11_init_X1_init : GoodIn wsX11_init wsX1_init := goodIn_r _ [32, 33, 2, 3, 28, 34, 35, 36, 37, 38, 39, 40, 41, 42, 43, 44, 295, 296, 297, 298, 299, 300, 301, 302] (by decide +kernel) (by decide +kernel)
set_option maxRecDepth 20000 in
theorem gX11_init_X1_init_n9 : GoodIn wsX11_init (wsX1_init) := ggX11_init_X1_init
set_option maxRecDepth 20000 in
theorem ggX11_init_X10_init : GoodIn wsX11_init wsX10_init := goodIn_r _ [47, 48, 2, 3, 49, 50, 51, 28, 52, 53, 54, 55, 56, 57, 58, 59, 60, 61, 62, 63, 64, 25, 65, 66, 67, 10, 68, 69, 70, 71, 72, 73, 74, 75, 76, 77, 78, 79, 80, 81, 82, 83, 84, 85, 86, 87, 88, 89, 90, 91, 92, 93, 94, 95, 96, 97, 98, 99, 100, 101, 102, 103, 104, 105, 106, 107, 108, 109, 110, 111, 112, 113, 114, 115, 116, 117, 118, 119, 120, 121, 122, 123, 124, 125, 126, 127, 128, 129, 130, 131, 132, 133, 134, 135, 136, 137, 138, 139, 140, 141, 142, 143, 144, 145, 146, 147, 148, 149, 150, 151, 152, 153, 154, 155, 156, 157, 158, 159, 160, 161, 162, 163, 164, 165, 166, 167, 168, 169, 170, 171, 172, 173, 174, 175, 176, 177, 178, 179, 180, 181, 182, 183, 184, 185, 186, 187, 188, 189, 190, 191, 192, 193, 194, 195, 196, 197, 198, 199, 200, 201, 202, 203, 204, 205, 206, 207, 208, 209, 210, 211, 212, 213, 214, 215, 216, 217, 218, 219, 220, 221, 222, 223, 224, 225, 226, 227, 228, 229, 230, 231, 232, 233, 234, 235, 236, 237, 238, 239, 240, 241, 242, 243, 244, 245, 246, 247, 248, 249, 250, 251, 252, 253, 254, 255, 256, 313, 314, 315, 316, 317, 318, 350, 351, 352, 353, 354, 355, 356, 357, 358, 359, 360] (by decide +kernel) (by decide +kernel)
set_option maxRecDepth 20000 in
theorem gX11_init_X10_init : GoodIn wsX11_init (wsX10_init) := ggX11_init_X10_init
set_option maxRecDepth 20000 in
theorem ggX11_init_X3_init : GoodIn wsX11_init wsX3_init := goodIn_r _ [259, 260, 2, 3, 261, 28, 262, 263, 264, 265, 266, 267, 268, 269, 270, 271, 272, 319, 320, 321, 322, 323, 324, 325, 326, 327, 328, 329, 330] (by decide +kernel) (by decide +kernel)
set_option maxRecDepth 20000 in
theorem gX11_init_X3_init : GoodIn wsX11_init (wsX3_init) := ggX11_init_X3_init
set_option maxRecDepth 20000 in
theorem ggX11_init_X5_init : GoodIn wsX11_init wsX5_init := goodIn_r _ [275, 276, 2, 3, 277, 278, 279, 280, 281, 282, 283, 331, 332, 333, 334, 335, 336] (by decide +kernel) (by decide +kernel)
set_option maxRecDepth 20000 in
theorem gX11_init_X5_init : GoodIn wsX11_init (wsX5_init) := ggX11_init_X5_init
set_option maxRecDepth 20000 in
theorem ggX11_init_X7_init : GoodIn wsX11_init wsX7_init := goodIn_r _ [286, 287, 2, 3, 28, 288, 289, 290, 291, 292, 293, 294, 337, 338, 339, 340, 341, 342, 343, 344, 345, 346, 347, 348, 349] (by decide +kernel) (by decide +kernel)
set_option maxRecDepth 20000 in
theorem gX11_init_X7_init : GoodIn wsX11_init (wsX7_init) := ggX11_init_X7_init
set_option maxRecDepth 20000 in
theorem ggX11_post_X11_within : GoodIn wsX11_post wsX11_within := goodIn_r _ [7] (by decide +kernel) (by decide +kernel)
set_option maxRecDepth 20000 in
theorem gX11_post_X11_within : GoodIn wsX11_post (va_wsS RX11 68 yX11_within wsX11_within) := goodIn_app (goodIn_of _ (by decide +kernel)) ggX11_post_X11_within
set_option maxRecDepth 20000 in
theorem ggX11_hand_X11_within : GoodIn wsX11_hand wsX11_within := goodIn_r _ [12] (by decide +kernel) (by decide +kernel)
set_option maxRecDepth 20000 in
theorem gX11_hand_X11_within : GoodIn wsX11_hand (va_wsS RX11 68 yX11_within wsX11_within) := goodIn_app (goodIn_of _ (by decide +kernel)) ggX11_hand_X11_within
set_option maxRecDepth 20000 in
theorem ggX11_hand_X4_init : GoodIn wsX11_hand wsX4_init := goodIn_r _ [15, 16, 17, 18, 19, 20, 21, 49, 50, 51] (by decide +kernel) (by decide +kernel)
set_option maxRecDepth 20000 in
theorem gX11_hand_X4_init : GoodIn wsX11_hand (wsX4_init) := ggX11_hand_X4_init
set_option maxRecDepth 20000 in
theorem ggX11_hand_X3_openHand : GoodIn wsX11_hand wsX3_openHand := goodIn_r _ [26, 27, 28, 29, 30, 52, 53, 54, 55, 56, 57, 58, 59, 60, 61, 62, 63] (by decide +kernel) (by decide +kernel)
set_option maxRecDepth 20000 in
theorem gX11_hand_X3_openHand : GoodIn wsX11_hand (wsV RX11 91 RX3 yX3_openHand wsX3_openHand) := goodIn_app (goodIn_of _ (by decide +kernel)) ggX11_hand_X3_openHand
set_option maxRecDepth 20000 in
theorem ggX11_away_X1_hasHand : GoodIn wsX11_away wsX1_hasHand := goodIn_r _ [12, 13, 56, 57, 58, 59, 60, 61, 62, 63] (by decide +kernel) (by decide +kernel)
set_option maxRecDepth 20000 in
theorem gX11_away_X1_hasHand : GoodIn wsX11_away (wsV RX11 95 RX1 yX1_hasHand wsX1_hasHand) := goodIn_app (goodIn_of _ (by decide +kernel)) ggX11_away_X1_hasHand
set_option maxRecDepth 20000 in
theorem ggX11_away_X11_within : GoodIn wsX11_away wsX11_within := goodIn_r _ [17] (by decide +kernel) (by decide +kernel)
set_option maxRecDepth 20000 in
theorem gX11_away_X11_within : GoodIn wsX11_away (va_wsS RX11 68 yX11_within wsX11_within) := goodIn_app (goodIn_of _ (by decide +kernel)) ggX11_away_X11_within
set_option maxRecDepth 20000 in
theorem ggX11_away_X0_init : GoodIn wsX11_away wsX0_init := goodIn_r _ [20, 21, 22, 23, 24, 25, 26, 64, 65, 66] (by decide +kernel) (by decide +kernel)
set_option maxRecDepth 20000 in
theorem gX11_away_X0_init : GoodIn wsX11_away (wsX0_init) := ggX11_away_X0_init
set_option maxRecDepth 20000 in
theorem ggX11_away_X1_addAway : GoodIn wsX11_away wsX1_addAway := goodIn_r _ [30, 31, 32, 33, 56, 57, 58, 59, 60, 61, 62, 63, 64, 65, 66] (by decide +kernel) (by decide +kernel)
set_option maxRecDepth 20000 in
theorem gX11_away_X1_addAway : GoodIn wsX11_away (wsV RX11 108 RX1 yX1_addAway wsX1_addAway) := goodIn_app (goodIn_of _ (by decide +kernel)) ggX11_away_X1_addAway
set_option maxRecDepth 20000 in
theorem ggX11_piece_X11_within : GoodIn wsX11_piece wsX11_within := goodIn_r _ [22] (by decide +kernel) (by decide +kernel)
set_option maxRecDepth 20000 in
theorem gX11_piece_X11_within : GoodIn wsX11_piece (va_wsS RX11 68 yX11_within wsX11_within) := goodIn_app (goodIn_of _ (by decide +kernel)) ggX11_piece_X11_within
set_option maxRecDepth 20000 in
theorem ggX11_piece_X6_init : GoodIn wsX11_piece wsX6_init := goodIn_r _ [24, 25, 26, 27] (by decide +kernel) (by decide +kernel)
set_option maxRecDepth 20000 in
theorem gX11_piece_X6_init_n117 : GoodIn wsX11_piece (wsX6_init) := ggX11_piece_X6_init
