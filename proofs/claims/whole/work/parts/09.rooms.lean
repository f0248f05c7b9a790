def rmX0_init : Room := { frames := 1, cells := 0, slots := 0, locals := 24 }
theorem zy_X0_init : yX0_init.cls = RX0 ∧ zYn yX0_init 0 := ⟨rfl, by unfold zYn; decide +kernel⟩
def rmX0_read : Room := { frames := 0, cells := 0, slots := 0, locals := 0 }
theorem zy_X0_read : yX0_read.cls = RX0 ∧ zYn yX0_read 1 := ⟨rfl, by unfold zYn; decide +kernel⟩
def rmX0_write : Room := { frames := 0, cells := 0, slots := 0, locals := 0 }
theorem zy_X0_write : yX0_write.cls = RX0 ∧ zYn yX0_write 2 := ⟨rfl, by unfold zYn; decide +kernel⟩
def rmX0_isWhole : Room := { frames := 0, cells := 0, slots := 0, locals := 0 }
theorem zy_X0_isWhole : yX0_isWhole.cls = RX0 ∧ zYn yX0_isWhole 0 := ⟨rfl, by unfold zYn; decide +kernel⟩
def rmX0_mean : Room := { frames := 2, cells := 0, slots := 0, locals := 44 }
theorem zy_X0_mean : yX0_mean.cls = RX0 ∧ zYn yX0_mean 0 := ⟨rfl, by unfold zYn; decide +kernel⟩
def rmX0_stopAbove : Room := { frames := 1, cells := 0, slots := 0, locals := 21 }
theorem zy_X0_stopAbove : yX0_stopAbove.cls = RX0 ∧ zYn yX0_stopAbove 1 := ⟨rfl, by unfold zYn; decide +kernel⟩
def rmX0_spread : Room := { frames := 3, cells := 0, slots := 0, locals := 64 }
theorem zy_X0_spread : yX0_spread.cls = RX0 ∧ zYn yX0_spread 0 := ⟨rfl, by unfold zYn; decide +kernel⟩
def rmX1_init : Room := { frames := 1, cells := 0, slots := 0, locals := 24 }
theorem zy_X1_init : yX1_init.cls = RX1 ∧ zYn yX1_init 0 := ⟨rfl, by unfold zYn; decide +kernel⟩
def rmX1_loadOne : Room := { frames := 2, cells := 0, slots := 0, locals := 47 }
theorem zy_X1_loadOne : yX1_loadOne.cls = RX1 ∧ zYn yX1_loadOne 2 := ⟨rfl, by unfold zYn; decide +kernel⟩
def rmX1_loadBoth : Room := { frames := 2, cells := 0, slots := 0, locals := 47 }
theorem zy_X1_loadBoth : yX1_loadBoth.cls = RX1 ∧ zYn yX1_loadBoth 2 := ⟨rfl, by unfold zYn; decide +kernel⟩
def rmX1_empty : Room := { frames := 1, cells := 0, slots := 0, locals := 24 }
theorem zy_X1_empty : yX1_empty.cls = RX1 ∧ zYn yX1_empty 2 := ⟨rfl, by unfold zYn; decide +kernel⟩
def rmX1_add : Room := { frames := 1, cells := 0, slots := 0, locals := 21 }
theorem zy_X1_add : yX1_add.cls = RX1 ∧ zYn yX1_add 2 := ⟨rfl, by unfold zYn; decide +kernel⟩
def rmX1_weight : Room := { frames := 0, cells := 0, slots := 0, locals := 0 }
theorem zy_X1_weight : yX1_weight.cls = RX1 ∧ zYn yX1_weight 1 := ⟨rfl, by unfold zYn; decide +kernel⟩
def rmX2_init : Room := { frames := 2, cells := 0, slots := 0, locals := 46 }
theorem zy_X2_init : yX2_init.cls = RX2 ∧ zYn yX2_init 0 := ⟨rfl, by unfold zYn; decide +kernel⟩
def rmX2_work : Room := { frames := 4, cells := 0, slots := 0, locals := 98 }
theorem zy_X2_work : yX2_work.cls = RX2 ∧ zYn yX2_work 2 := ⟨rfl, by unfold zYn; decide +kernel⟩
def rmX2_sumUp : Room := { frames := 3, cells := 0, slots := 0, locals := 75 }
theorem zy_X2_sumUp : yX2_sumUp.cls = RX2 ∧ zYn yX2_sumUp 2 := ⟨rfl, by unfold zYn; decide +kernel⟩
def rmX2_nextFigure : Room := { frames := 3, cells := 0, slots := 0, locals := 75 }
theorem zy_X2_nextFigure : yX2_nextFigure.cls = RX2 ∧ zYn yX2_nextFigure 0 := ⟨rfl, by unfold zYn; decide +kernel⟩
def rmX3_init : Room := { frames := 2, cells := 0, slots := 0, locals := 46 }
theorem zy_X3_init : yX3_init.cls = RX3 ∧ zYn yX3_init 0 := ⟨rfl, by unfold zYn; decide +kernel⟩
def rmX3_work : Room := { frames := 5, cells := 0, slots := 0, locals := 120 }
theorem zy_X3_work : yX3_work.cls = RX3 ∧ zYn yX3_work 3 := ⟨rfl, by unfold zYn; decide +kernel⟩
def rmX3_goBack : Room := { frames := 4, cells := 0, slots := 0, locals := 96 }
theorem zy_X3_goBack : yX3_goBack.cls = RX3 ∧ zYn yX3_goBack 2 := ⟨rfl, by unfold zYn; decide +kernel⟩
def rmX3_payOne : Room := { frames := 3, cells := 0, slots := 0, locals := 75 }
theorem zy_X3_payOne : yX3_payOne.cls = RX3 ∧ zYn yX3_payOne 1 := ⟨rfl, by unfold zYn; decide +kernel⟩
def rmX4_init : Room := { frames := 1, cells := 0, slots := 0, locals := 24 }
theorem zy_X4_init : yX4_init.cls = RX4 ∧ zYn yX4_init 2 := ⟨rfl, by unfold zYn; decide +kernel⟩
def rmX4_has : Room := { frames := 0, cells := 0, slots := 0, locals := 0 }
theorem zy_X4_has : yX4_has.cls = RX4 ∧ zYn yX4_has 1 := ⟨rfl, by unfold zYn; decide +kernel⟩
def rmX4_open : Room := { frames := 1, cells := 0, slots := 0, locals := 21 }
theorem zy_X4_open : yX4_open.cls = RX4 ∧ zYn yX4_open 1 := ⟨rfl, by unfold zYn; decide +kernel⟩
def rmX4_wipe : Room := { frames := 1, cells := 0, slots := 0, locals := 24 }
theorem zy_X4_wipe : yX4_wipe.cls = RX4 ∧ zYn yX4_wipe 0 := ⟨rfl, by unfold zYn; decide +kernel⟩
def rmX4_put : Room := { frames := 2, cells := 0, slots := 0, locals := 45 }
theorem zy_X4_put : yX4_put.cls = RX4 ∧ zYn yX4_put 2 := ⟨rfl, by unfold zYn; decide +kernel⟩
def rmX4_copy : Room := { frames := 2, cells := 0, slots := 0, locals := 45 }
theorem zy_X4_copy : yX4_copy.cls = RX4 ∧ zYn yX4_copy 3 := ⟨rfl, by unfold zYn; decide +kernel⟩
def rmX4_times : Room := { frames := 2, cells := 0, slots := 0, locals := 45 }
theorem zy_X4_times : yX4_times.cls = RX4 ∧ zYn yX4_times 3 := ⟨rfl, by unfold zYn; decide +kernel⟩
def rmX4_combine : Room := { frames := 2, cells := 0, slots := 0, locals := 45 }
theorem zy_X4_combine : yX4_combine.cls = RX4 ∧ zYn yX4_combine 5 := ⟨rfl, by unfold zYn; decide +kernel⟩
def rmX4_mix : Room := { frames := 1, cells := 0, slots := 0, locals := 29 }
theorem zy_X4_mix : yX4_mix.cls = RX4 ∧ zYn yX4_mix 6 := ⟨rfl, by unfold zYn; decide +kernel⟩
def rmX4_gather : Room := { frames := 0, cells := 0, slots := 0, locals := 0 }
theorem zy_X4_gather : yX4_gather.cls = RX4 ∧ zYn yX4_gather 5 := ⟨rfl, by unfold zYn; decide +kernel⟩
def rmX4_order : Room := { frames := 2, cells := 0, slots := 0, locals := 43 }
theorem zy_X4_order : yX4_order.cls = RX4 ∧ zYn yX4_order 3 := ⟨rfl, by unfold zYn; decide +kernel⟩
def rmX4_figure : Room := { frames := 2, cells := 0, slots := 0, locals := 43 }
theorem zy_X4_figure : yX4_figure.cls = RX4 ∧ zYn yX4_figure 2 := ⟨rfl, by unfold zYn; decide +kernel⟩
def rmX4_read : Room := { frames := 1, cells := 0, slots := 0, locals := 21 }
theorem zy_X4_read : yX4_read.cls = RX4 ∧ zYn yX4_read 2 := ⟨rfl, by unfold zYn; decide +kernel⟩
def rmX4_write : Room := { frames := 1, cells := 0, slots := 0, locals := 21 }
theorem zy_X4_write : yX4_write.cls = RX4 ∧ zYn yX4_write 3 := ⟨rfl, by unfold zYn; decide +kernel⟩
def rmX5_init : Room := { frames := 2, cells := 0, slots := 0, locals := 46 }
theorem zy_X5_init : yX5_init.cls = RX5 ∧ zYn yX5_init 0 := ⟨rfl, by unfold zYn; decide +kernel⟩
def rmX5_begin : Room := { frames := 3, cells := 0, slots := 0, locals := 69 }
theorem zy_X5_begin : yX5_begin.cls = RX5 ∧ zYn yX5_begin 5 := ⟨rfl, by unfold zYn; decide +kernel⟩
def rmX5_fall : Room := { frames := 2, cells := 0, slots := 0, locals := 59 }
theorem zy_X5_fall : yX5_fall.cls = RX5 ∧ zYn yX5_fall 1 := ⟨rfl, by unfold zYn; decide +kernel⟩
def rmX5_tick : Room := { frames := 2, cells := 0, slots := 0, locals := 59 }
theorem zy_X5_tick : yX5_tick.cls = RX5 ∧ zYn yX5_tick 0 := ⟨rfl, by unfold zYn; decide +kernel⟩
def rmX5_sumUp : Room := { frames := 3, cells := 0, slots := 0, locals := 81 }
theorem zy_X5_sumUp : yX5_sumUp.cls = RX5 ∧ zYn yX5_sumUp 0 := ⟨rfl, by unfold zYn; decide +kernel⟩
def rmX5_liveRows : Room := { frames := 1, cells := 0, slots := 0, locals := 21 }
theorem zy_X5_liveRows : yX5_liveRows.cls = RX5 ∧ zYn yX5_liveRows 0 := ⟨rfl, by unfold zYn; decide +kernel⟩
def rmX5_nextLimbs : Room := { frames := 0, cells := 0, slots := 0, locals := 0 }
theorem zy_X5_nextLimbs : yX5_nextLimbs.cls = RX5 ∧ zYn yX5_nextLimbs 0 := ⟨rfl, by unfold zYn; decide +kernel⟩
def rmX6_init : Room := { frames := 3, cells := 0, slots := 0, locals := 66 }
theorem zy_X6_init : yX6_init.cls = RX6 ∧ zYn yX6_init 0 := ⟨rfl, by unfold zYn; decide +kernel⟩
def rmX6_set : Room := { frames := 1, cells := 0, slots := 0, locals := 22 }
theorem zy_X6_set : yX6_set.cls = RX6 ∧ zYn yX6_set 3 := ⟨rfl, by unfold zYn; decide +kernel⟩
def rmX6_parts : Room := { frames := 1, cells := 0, slots := 0, locals := 22 }
theorem zy_X6_parts : yX6_parts.cls = RX6 ∧ zYn yX6_parts 2 := ⟨rfl, by unfold zYn; decide +kernel⟩
def rmX6_right : Room := { frames := 2, cells := 0, slots := 0, locals := 44 }
theorem zy_X6_right : yX6_right.cls = RX6 ∧ zYn yX6_right 1 := ⟨rfl, by unfold zYn; decide +kernel⟩
def rmX6_told : Room := { frames := 4, cells := 0, slots := 0, locals := 86 }
theorem zy_X6_told : yX6_told.cls = RX6 ∧ zYn yX6_told 3 := ⟨rfl, by unfold zYn; decide +kernel⟩
def rmX6_layer : Room := { frames := 2, cells := 0, slots := 0, locals := 44 }
theorem zy_X6_layer : yX6_layer.cls = RX6 ∧ zYn yX6_layer 5 := ⟨rfl, by unfold zYn; decide +kernel⟩
def rmX6_part : Room := { frames := 2, cells := 0, slots := 0, locals := 44 }
theorem zy_X6_part : yX6_part.cls = RX6 ∧ zYn yX6_part 4 := ⟨rfl, by unfold zYn; decide +kernel⟩
def rmX6_ruin : Room := { frames := 4, cells := 0, slots := 0, locals := 102 }
theorem zy_X6_ruin : yX6_ruin.cls = RX6 ∧ zYn yX6_ruin 4 := ⟨rfl, by unfold zYn; decide +kernel⟩
def rmX6_at : Room := { frames := 3, cells := 0, slots := 0, locals := 68 }
theorem zy_X6_at : yX6_at.cls = RX6 ∧ zYn yX6_at 2 := ⟨rfl, by unfold zYn; decide +kernel⟩
def rmX6_deep : Room := { frames := 3, cells := 0, slots := 0, locals := 68 }
theorem zy_X6_deep : yX6_deep.cls = RX6 ∧ zYn yX6_deep 2 := ⟨rfl, by unfold zYn; decide +kernel⟩
def rmX6_ever : Room := { frames := 5, cells := 0, slots := 0, locals := 121 }
theorem zy_X6_ever : yX6_ever.cls = RX6 ∧ zYn yX6_ever 2 := ⟨rfl, by unfold zYn; decide +kernel⟩
def rmX6_worth : Room := { frames := 6, cells := 0, slots := 0, locals := 145 }
theorem zy_X6_worth : yX6_worth.cls = RX6 ∧ zYn yX6_worth 5 := ⟨rfl, by unfold zYn; decide +kernel⟩
def rmX6_two : Room := { frames := 5, cells := 0, slots := 0, locals := 128 }
theorem zy_X6_two : yX6_two.cls = RX6 ∧ zYn yX6_two 5 := ⟨rfl, by unfold zYn; decide +kernel⟩
def rmX6_digit : Room := { frames := 3, cells := 0, slots := 0, locals := 68 }
theorem zy_X6_digit : yX6_digit.cls = RX6 ∧ zYn yX6_digit 1 := ⟨rfl, by unfold zYn; decide +kernel⟩
def rmX6_decimals : Room := { frames := 0, cells := 0, slots := 0, locals := 0 }
theorem zy_X6_decimals : yX6_decimals.cls = RX6 ∧ zYn yX6_decimals 0 := ⟨rfl, by unfold zYn; decide +kernel⟩
def rmX6_just : Room := { frames := 6, cells := 0, slots := 0, locals := 156 }
theorem zy_X6_just : yX6_just.cls = RX6 ∧ zYn yX6_just 4 := ⟨rfl, by unfold zYn; decide +kernel⟩
def rmX6_lighter : Room := { frames := 2, cells := 0, slots := 0, locals := 44 }
theorem zy_X6_lighter : yX6_lighter.cls = RX6 ∧ zYn yX6_lighter 2 := ⟨rfl, by unfold zYn; decide +kernel⟩
def rmX6_isWithin : Room := { frames := 0, cells := 0, slots := 0, locals := 0 }
theorem zy_X6_isWithin : yX6_isWithin.cls = RX6 ∧ zYn yX6_isWithin 3 := ⟨rfl, by unfold zYn; decide +kernel⟩
def rmX6_findBook : Room := { frames := 0, cells := 0, slots := 0, locals := 0 }
theorem zy_X6_findBook : yX6_findBook.cls = RX6 ∧ zYn yX6_findBook 1 := ⟨rfl, by unfold zYn; decide +kernel⟩
def rmX6_findRight : Room := { frames := 1, cells := 0, slots := 0, locals := 22 }
theorem zy_X6_findRight : yX6_findRight.cls = RX6 ∧ zYn yX6_findRight 1 := ⟨rfl, by unfold zYn; decide +kernel⟩
def rmX6_move : Room := { frames := 0, cells := 0, slots := 0, locals := 0 }
theorem zy_X6_move : yX6_move.cls = RX6 ∧ zYn yX6_move 2 := ⟨rfl, by unfold zYn; decide +kernel⟩
def rmX6_writeMoved : Room := { frames := 1, cells := 0, slots := 0, locals := 22 }
theorem zy_X6_writeMoved : yX6_writeMoved.cls = RX6 ∧ zYn yX6_writeMoved 1 := ⟨rfl, by unfold zYn; decide +kernel⟩
def rmX6_startNumber : Room := { frames := 3, cells := 0, slots := 0, locals := 69 }
theorem zy_X6_startNumber : yX6_startNumber.cls = RX6 ∧ zYn yX6_startNumber 1 := ⟨rfl, by unfold zYn; decide +kernel⟩
def rmX6_noteTick : Room := { frames := 3, cells := 0, slots := 0, locals := 80 }
theorem zy_X6_noteTick : yX6_noteTick.cls = RX6 ∧ zYn yX6_noteTick 1 := ⟨rfl, by unfold zYn; decide +kernel⟩
def rmX6_stand : Room := { frames := 4, cells := 0, slots := 0, locals := 104 }
theorem zy_X6_stand : yX6_stand.cls = RX6 ∧ zYn yX6_stand 3 := ⟨rfl, by unfold zYn; decide +kernel⟩
def rmX6_findPremium : Room := { frames := 5, cells := 0, slots := 0, locals := 129 }
theorem zy_X6_findPremium : yX6_findPremium.cls = RX6 ∧ zYn yX6_findPremium 3 := ⟨rfl, by unfold zYn; decide +kernel⟩
def rmX6_isEnough : Room := { frames := 4, cells := 0, slots := 0, locals := 104 }
theorem zy_X6_isEnough : yX6_isEnough.cls = RX6 ∧ zYn yX6_isEnough 4 := ⟨rfl, by unfold zYn; decide +kernel⟩
def rmX7_init : Room := { frames := 1, cells := 0, slots := 0, locals := 24 }
theorem zy_X7_init : yX7_init.cls = RX7 ∧ zYn yX7_init 0 := ⟨rfl, by unfold zYn; decide +kernel⟩
def rmX7_in : Room := { frames := 0, cells := 0, slots := 0, locals := 0 }
theorem zy_X7_in : yX7_in.cls = RX7 ∧ zYn yX7_in 3 := ⟨rfl, by unfold zYn; decide +kernel⟩
def rmX7_isBook : Room := { frames := 1, cells := 0, slots := 0, locals := 22 }
theorem zy_X7_isBook : yX7_isBook.cls = RX7 ∧ zYn yX7_isBook 1 := ⟨rfl, by unfold zYn; decide +kernel⟩
def rmX7_isRight : Room := { frames := 2, cells := 0, slots := 0, locals := 42 }
theorem zy_X7_isRight : yX7_isRight.cls = RX7 ∧ zYn yX7_isRight 1 := ⟨rfl, by unfold zYn; decide +kernel⟩
def rmX7_set : Room := { frames := 2, cells := 0, slots := 0, locals := 42 }
theorem zy_X7_set : yX7_set.cls = RX7 ∧ zYn yX7_set 3 := ⟨rfl, by unfold zYn; decide +kernel⟩
def rmX7_parts : Room := { frames := 2, cells := 0, slots := 0, locals := 42 }
theorem zy_X7_parts : yX7_parts.cls = RX7 ∧ zYn yX7_parts 2 := ⟨rfl, by unfold zYn; decide +kernel⟩
def rmX7_right : Room := { frames := 3, cells := 0, slots := 0, locals := 65 }
theorem zy_X7_right : yX7_right.cls = RX7 ∧ zYn yX7_right 1 := ⟨rfl, by unfold zYn; decide +kernel⟩
def rmX7_mean : Room := { frames := 0, cells := 0, slots := 0, locals := 0 }
theorem zy_X7_mean : yX7_mean.cls = RX7 ∧ zYn yX7_mean 1 := ⟨rfl, by unfold zYn; decide +kernel⟩
def rmX7_stop : Room := { frames := 0, cells := 0, slots := 0, locals := 0 }
theorem zy_X7_stop : yX7_stop.cls = RX7 ∧ zYn yX7_stop 2 := ⟨rfl, by unfold zYn; decide +kernel⟩
def rmX7_told : Room := { frames := 3, cells := 0, slots := 0, locals := 65 }
theorem zy_X7_told : yX7_told.cls = RX7 ∧ zYn yX7_told 3 := ⟨rfl, by unfold zYn; decide +kernel⟩
def rmX7_becomes : Room := { frames := 0, cells := 0, slots := 0, locals := 0 }
theorem zy_X7_becomes : yX7_becomes.cls = RX7 ∧ zYn yX7_becomes 1 := ⟨rfl, by unfold zYn; decide +kernel⟩
def rmX7_layer : Room := { frames := 3, cells := 0, slots := 0, locals := 65 }
theorem zy_X7_layer : yX7_layer.cls = RX7 ∧ zYn yX7_layer 5 := ⟨rfl, by unfold zYn; decide +kernel⟩
def rmX7_part : Room := { frames := 3, cells := 0, slots := 0, locals := 65 }
theorem zy_X7_part : yX7_part.cls = RX7 ∧ zYn yX7_part 4 := ⟨rfl, by unfold zYn; decide +kernel⟩
def rmX7_lighter : Room := { frames := 3, cells := 0, slots := 0, locals := 65 }
theorem zy_X7_lighter : yX7_lighter.cls = RX7 ∧ zYn yX7_lighter 2 := ⟨rfl, by unfold zYn; decide +kernel⟩
def rmX7_zero : Room := { frames := 0, cells := 0, slots := 0, locals := 0 }
theorem zy_X7_zero : yX7_zero.cls = RX7 ∧ zYn yX7_zero 1 := ⟨rfl, by unfold zYn; decide +kernel⟩
def rmX7_copy : Room := { frames := 0, cells := 0, slots := 0, locals := 0 }
theorem zy_X7_copy : yX7_copy.cls = RX7 ∧ zYn yX7_copy 2 := ⟨rfl, by unfold zYn; decide +kernel⟩
def rmX7_add : Room := { frames := 0, cells := 0, slots := 0, locals := 0 }
theorem zy_X7_add : yX7_add.cls = RX7 ∧ zYn yX7_add 4 := ⟨rfl, by unfold zYn; decide +kernel⟩
def rmX7_take : Room := { frames := 0, cells := 0, slots := 0, locals := 0 }
theorem zy_X7_take : yX7_take.cls = RX7 ∧ zYn yX7_take 2 := ⟨rfl, by unfold zYn; decide +kernel⟩
def rmX7_compare : Room := { frames := 0, cells := 0, slots := 0, locals := 0 }
theorem zy_X7_compare : yX7_compare.cls = RX7 ∧ zYn yX7_compare 2 := ⟨rfl, by unfold zYn; decide +kernel⟩
def rmX7_set_ : Room := { frames := 1, cells := 0, slots := 0, locals := 21 }
theorem zy_X7_set_ : yX7_set_.cls = RX7 ∧ zYn yX7_set_ 3 := ⟨rfl, by unfold zYn; decide +kernel⟩
def rmX7_decimal : Room := { frames := 0, cells := 0, slots := 0, locals := 0 }
theorem zy_X7_decimal : yX7_decimal.cls = RX7 ∧ zYn yX7_decimal 3 := ⟨rfl, by unfold zYn; decide +kernel⟩
def rmX7_canRuin : Room := { frames := 3, cells := 0, slots := 0, locals := 65 }
theorem zy_X7_canRuin : yX7_canRuin.cls = RX7 ∧ zYn yX7_canRuin 5 := ⟨rfl, by unfold zYn; decide +kernel⟩
def rmX7_runs : Room := { frames := 1, cells := 0, slots := 0, locals := 29 }
theorem zy_X7_runs : yX7_runs.cls = RX7 ∧ zYn yX7_runs 4 := ⟨rfl, by unfold zYn; decide +kernel⟩
def rmX7_all : Room := { frames := 1, cells := 0, slots := 0, locals := 29 }
theorem zy_X7_all : yX7_all.cls = RX7 ∧ zYn yX7_all 2 := ⟨rfl, by unfold zYn; decide +kernel⟩
def rmX7_ruin : Room := { frames := 4, cells := 0, slots := 0, locals := 90 }
theorem zy_X7_ruin : yX7_ruin.cls = RX7 ∧ zYn yX7_ruin 4 := ⟨rfl, by unfold zYn; decide +kernel⟩
def rmX7_at : Room := { frames := 1, cells := 0, slots := 0, locals := 25 }
theorem zy_X7_at : yX7_at.cls = RX7 ∧ zYn yX7_at 2 := ⟨rfl, by unfold zYn; decide +kernel⟩
def rmX7_deep : Room := { frames := 1, cells := 0, slots := 0, locals := 25 }
theorem zy_X7_deep : yX7_deep.cls = RX7 ∧ zYn yX7_deep 2 := ⟨rfl, by unfold zYn; decide +kernel⟩
def rmX7_just : Room := { frames := 4, cells := 0, slots := 0, locals := 90 }
theorem zy_X7_just : yX7_just.cls = RX7 ∧ zYn yX7_just 4 := ⟨rfl, by unfold zYn; decide +kernel⟩
def rmX7_multiply : Room := { frames := 1, cells := 0, slots := 0, locals := 29 }
theorem zy_X7_multiply : yX7_multiply.cls = RX7 ∧ zYn yX7_multiply 3 := ⟨rfl, by unfold zYn; decide +kernel⟩
def rmX7_ever : Room := { frames := 3, cells := 0, slots := 0, locals := 65 }
theorem zy_X7_ever : yX7_ever.cls = RX7 ∧ zYn yX7_ever 2 := ⟨rfl, by unfold zYn; decide +kernel⟩
def rmX7_pays : Room := { frames := 2, cells := 0, slots := 0, locals := 45 }
theorem zy_X7_pays : yX7_pays.cls = RX7 ∧ zYn yX7_pays 2 := ⟨rfl, by unfold zYn; decide +kernel⟩
def rmX7_worth : Room := { frames := 3, cells := 0, slots := 0, locals := 69 }
theorem zy_X7_worth : yX7_worth.cls = RX7 ∧ zYn yX7_worth 5 := ⟨rfl, by unfold zYn; decide +kernel⟩
def rmX7_pair : Room := { frames := 0, cells := 0, slots := 0, locals := 0 }
theorem zy_X7_pair : yX7_pair.cls = RX7 ∧ zYn yX7_pair 3 := ⟨rfl, by unfold zYn; decide +kernel⟩
def rmX7_two : Room := { frames := 3, cells := 0, slots := 0, locals := 65 }
theorem zy_X7_two : yX7_two.cls = RX7 ∧ zYn yX7_two 5 := ⟨rfl, by unfold zYn; decide +kernel⟩
def rmX7_isNought : Room := { frames := 0, cells := 0, slots := 0, locals := 0 }
theorem zy_X7_isNought : yX7_isNought.cls = RX7 ∧ zYn yX7_isNought 1 := ⟨rfl, by unfold zYn; decide +kernel⟩
def rmX7_steps : Room := { frames := 1, cells := 0, slots := 0, locals := 29 }
theorem zy_X7_steps : yX7_steps.cls = RX7 ∧ zYn yX7_steps 7 := ⟨rfl, by unfold zYn; decide +kernel⟩
def rmX7_digit : Room := { frames := 1, cells := 0, slots := 0, locals := 25 }
theorem zy_X7_digit : yX7_digit.cls = RX7 ∧ zYn yX7_digit 1 := ⟨rfl, by unfold zYn; decide +kernel⟩
def rmX7_decimals : Room := { frames := 0, cells := 0, slots := 0, locals := 0 }
theorem zy_X7_decimals : yX7_decimals.cls = RX7 ∧ zYn yX7_decimals 0 := ⟨rfl, by unfold zYn; decide +kernel⟩
def rmJ13_compare_74951 : Room := { frames := 0, cells := 0, slots := 0, locals := 0 }
theorem zy_J13_compare_74951 : yJ13_compare_74951.cls = RJ13 ∧ zYn yJ13_compare_74951 2 := ⟨rfl, by unfold zYn; decide +kernel⟩
def rmJ9_floorDiv_f86c9 : Room := { frames := 0, cells := 0, slots := 0, locals := 0 }
theorem zy_J9_floorDiv_f86c9 : yJ9_floorDiv_f86c9.cls = RJ9 ∧ zYn yJ9_floorDiv_f86c9 2 := ⟨rfl, by unfold zYn; decide +kernel⟩
def rmJ9_floorMod_f86c9 : Room := { frames := 0, cells := 0, slots := 0, locals := 0 }
theorem zy_J9_floorMod_f86c9 : yJ9_floorMod_f86c9.cls = RJ9 ∧ zYn yJ9_floorMod_f86c9 2 := ⟨rfl, by unfold zYn; decide +kernel⟩
def rmJ9_max_7cf53 : Room := { frames := 0, cells := 0, slots := 0, locals := 0 }
theorem zy_J9_max_7cf53 : yJ9_max_7cf53.cls = RJ9 ∧ zYn yJ9_max_7cf53 2 := ⟨rfl, by unfold zYn; decide +kernel⟩
def rmJ9_min_7cf53 : Room := { frames := 0, cells := 0, slots := 0, locals := 0 }
theorem zy_J9_min_7cf53 : yJ9_min_7cf53.cls = RJ9 ∧ zYn yJ9_min_7cf53 2 := ⟨rfl, by unfold zYn; decide +kernel⟩
def rmJ7_fill_d0a16 : Room := { frames := 0, cells := 0, slots := 0, locals := 0 }
theorem zy_J7_fill_d0a16 : yJ7_fill_d0a16.cls = RJ7 ∧ zYn yJ7_fill_d0a16 2 := ⟨rfl, by unfold zYn; decide +kernel⟩
def rmJ7_fill_53178 : Room := { frames := 0, cells := 0, slots := 0, locals := 0 }
theorem zy_J7_fill_53178 : yJ7_fill_53178.cls = RJ7 ∧ zYn yJ7_fill_53178 2 := ⟨rfl, by unfold zYn; decide +kernel⟩
section ZNL
variable {Γ : zG} {l0 : Launch} {X : zX} {R : Room} {nL : Nat} {cc : ByteArray} {own : String} {ω : zWd} {cells slots pc : Nat} {lv : List (Option Value)} {st : List Value}
theorem z_ifnull (C : Zc Γ l0 X R nL cc own) {x : Nat} {off : Int} (hd : decode cc pc = .ok (.ifnull off, 3)) (k : Zw Γ ω cells slots (pc + 3) lv st) : Zw Γ ω cells slots pc lv (.ref x :: st) := by
  obtain ⟨p, l, e, R, s, m, args, below, meth, c, Q, X, A, nL⟩ := Γ
  obtain ⟨hx, hb, hml, hown, hts, hK, hA, rfl, rfl, rfl, rfl⟩ := C
  intro H locs ls hP hG hS hl
  exact lv_ifnull hx hb hd (k H locs ls hP hG hS hl)
theorem z_ifnullN (C : Zc Γ l0 X R nL cc own) {off : Int} {tgt : Nat} (hd : decode cc pc = .ok (.ifnull off, 3)) (ht : (pc : Int) + off = (tgt : Int)) (k : Zw Γ ω cells slots tgt lv st) : Zw Γ ω cells slots pc lv (.null :: st) := by
  obtain ⟨p, l, e, R, s, m, args, below, meth, c, Q, X, A, nL⟩ := Γ
  obtain ⟨hx, hb, hml, hown, hts, hK, hA, rfl, rfl, rfl, rfl⟩ := C
  intro H locs ls hP hG hS hl
  exact lv_ifnullN hx hb hd ht (k H locs ls hP hG hS hl)
theorem z_ifnonnull (C : Zc Γ l0 X R nL cc own) {x : Nat} {off : Int} {tgt : Nat} (hd : decode cc pc = .ok (.ifnonnull off, 3)) (ht : (pc : Int) + off = (tgt : Int)) (k : Zw Γ ω cells slots tgt lv st) : Zw Γ ω cells slots pc lv (.ref x :: st) := by
  obtain ⟨p, l, e, R, s, m, args, below, meth, c, Q, X, A, nL⟩ := Γ
  obtain ⟨hx, hb, hml, hown, hts, hK, hA, rfl, rfl, rfl, rfl⟩ := C
  intro H locs ls hP hG hS hl
  exact lv_ifnonnull hx hb hd ht (k H locs ls hP hG hS hl)
theorem z_ifnonnullN (C : Zc Γ l0 X R nL cc own) {off : Int} (hd : decode cc pc = .ok (.ifnonnull off, 3)) (k : Zw Γ ω cells slots (pc + 3) lv st) : Zw Γ ω cells slots pc lv (.null :: st) := by
  obtain ⟨p, l, e, R, s, m, args, below, meth, c, Q, X, A, nL⟩ := Γ
  obtain ⟨hx, hb, hml, hown, hts, hK, hA, rfl, rfl, rfl, rfl⟩ := C
  intro H locs ls hP hG hS hl
  exact lv_ifnonnullN hx hb hd (k H locs ls hP hG hS hl)
end ZNL
