set_option maxRecDepth 20000 in
theorem gL_law_X8_init : GoodIn wsL_law (wsX8_init) := ggL_law_X8_init
set_option maxRecDepth 20000 in
theorem gL_law_X9_init : GoodIn wsL_law (wsX9_init) := ggL_law_X9_init
set_option maxRecDepth 20000 in
theorem gL_law_X8_pass : GoodIn wsL_law (wsV RL 13 RX8 yX8_pass wsX8_pass) := goodIn_app (goodIn_of _ (by decide +kernel)) ggL_law_X8_pass
set_option maxRecDepth 20000 in
theorem gL_law_X9_pass : GoodIn wsL_law (wsV RL 17 RX9 yX9_pass wsX9_pass) := goodIn_app (goodIn_of _ (by decide +kernel)) ggL_law_X9_pass
set_option maxRecDepth 20000 in
theorem gL_law_X8_adjust : GoodIn wsL_law (wsV RL 18 RX8 yX8_adjust wsX8_adjust) := goodIn_app (goodIn_of _ (by decide +kernel)) ggL_law_X8_adjust
set_option maxRecDepth 20000 in
theorem gL_law_X9_adjust : GoodIn wsL_law (wsV RL 21 RX9 yX9_adjust wsX9_adjust) := goodIn_app (goodIn_of _ (by decide +kernel)) ggL_law_X9_adjust
set_option maxRecDepth 20000 in
theorem gL_law_X8_turn : GoodIn wsL_law (wsV RL 22 RX8 yX8_turn wsX8_turn) := goodIn_app (goodIn_of _ (by decide +kernel)) ggL_law_X8_turn
set_option maxRecDepth 20000 in
theorem gL_law_X9_turn : GoodIn wsL_law (wsV RL 26 RX9 yX9_turn wsX9_turn) := goodIn_app (goodIn_of _ (by decide +kernel)) ggL_law_X9_turn
set_option maxRecDepth 20000 in
theorem gL_law_X8_press : GoodIn wsL_law (wsV RL 27 RX8 yX8_press wsX8_press) := goodIn_app (goodIn_of _ (by decide +kernel)) ggL_law_X8_press
set_option maxRecDepth 20000 in
theorem gL_law_X9_press : GoodIn wsL_law (wsV RL 30 RX9 yX9_press wsX9_press) := goodIn_app (goodIn_of _ (by decide +kernel)) ggL_law_X9_press
set_option maxRecDepth 20000 in
theorem gL_law_X8_fill : GoodIn wsL_law (wsV RL 31 RX8 yX8_fill wsX8_fill) := goodIn_app (goodIn_of _ (by decide +kernel)) ggL_law_X8_fill
set_option maxRecDepth 20000 in
theorem gL_law_X9_fill : GoodIn wsL_law (wsV RL 34 RX9 yX9_fill wsX9_fill) := goodIn_app (goodIn_of _ (by decide +kernel)) ggL_law_X9_fill
set_option maxRecDepth 20000 in
theorem gL_law_X8_exchange : GoodIn wsL_law (wsV RL 35 RX8 yX8_exchange wsX8_exchange) := goodIn_app (goodIn_of _ (by decide +kernel)) ggL_law_X8_exchange
set_option maxRecDepth 20000 in
theorem gL_law_X9_exchange : GoodIn wsL_law (wsV RL 38 RX9 yX9_exchange wsX9_exchange) := goodIn_app (goodIn_of _ (by decide +kernel)) ggL_law_X9_exchange
set_option maxRecDepth 20000 in
theorem gL_law_X8_tighten : GoodIn wsL_law (wsV RL 39 RX8 yX8_tighten wsX8_tighten) := goodIn_app (goodIn_of _ (by decide +kernel)) ggL_law_X8_tighten
set_option maxRecDepth 20000 in
theorem gL_law_X9_tighten : GoodIn wsL_law (wsV RL 42 RX9 yX9_tighten wsX9_tighten) := goodIn_app (goodIn_of _ (by decide +kernel)) ggL_law_X9_tighten
set_option maxRecDepth 20000 in
theorem gL_law_X8_replace : GoodIn wsL_law (wsV RL 43 RX8 yX8_replace wsX8_replace) := goodIn_app (goodIn_of _ (by decide +kernel)) ggL_law_X8_replace
set_option maxRecDepth 20000 in
theorem gL_law_X9_replace : GoodIn wsL_law (wsV RL 46 RX9 yX9_replace wsX9_replace) := goodIn_app (goodIn_of _ (by decide +kernel)) ggL_law_X9_replace
set_option maxRecDepth 20000 in
theorem gL_law_X8_set : GoodIn wsL_law (wsV RL 47 RX8 yX8_set wsX8_set) := goodIn_app (goodIn_of _ (by decide +kernel)) ggL_law_X8_set
set_option maxRecDepth 20000 in
theorem gL_law_X9_set : GoodIn wsL_law (wsV RL 50 RX9 yX9_set wsX9_set) := goodIn_app (goodIn_of _ (by decide +kernel)) ggL_law_X9_set
set_option maxRecDepth 20000 in
theorem gL_law_X8_type : GoodIn wsL_law (wsV RL 51 RX8 yX8_type wsX8_type) := goodIn_app (goodIn_of _ (by decide +kernel)) ggL_law_X8_type
set_option maxRecDepth 20000 in
theorem gL_law_X9_type : GoodIn wsL_law (wsV RL 55 RX9 yX9_type wsX9_type) := goodIn_app (goodIn_of _ (by decide +kernel)) ggL_law_X9_type
set_option maxRecDepth 20000 in
theorem gL_law_X8_clearText : GoodIn wsL_law (wsV RL 56 RX8 yX8_clearText wsX8_clearText) := goodIn_app (goodIn_of _ (by decide +kernel)) ggL_law_X8_clearText
set_option maxRecDepth 20000 in
theorem gL_law_X9_clearText : GoodIn wsL_law (wsV RL 60 RX9 yX9_clearText wsX9_clearText) := goodIn_app (goodIn_of _ (by decide +kernel)) ggL_law_X9_clearText
set_option maxRecDepth 20000 in
theorem gL_law_X8_fault : GoodIn wsL_law (wsV RL 61 RX8 yX8_fault wsX8_fault) := goodIn_app (goodIn_of _ (by decide +kernel)) ggL_law_X8_fault
set_option maxRecDepth 20000 in
theorem gL_law_X9_fault : GoodIn wsL_law (wsV RL 64 RX9 yX9_fault wsX9_fault) := goodIn_app (goodIn_of _ (by decide +kernel)) ggL_law_X9_fault
set_option maxRecDepth 20000 in
theorem gL_law_X8_doAll : GoodIn wsL_law (wsV RL 65 RX8 yX8_doAll wsX8_doAll) := goodIn_app (goodIn_of _ (by decide +kernel)) ggL_law_X8_doAll
set_option maxRecDepth 20000 in
theorem gL_law_X9_doAll : GoodIn wsL_law (wsV RL 68 RX9 yX9_doAll wsX9_doAll) := goodIn_app (goodIn_of _ (by decide +kernel)) ggL_law_X9_doAll
set_option maxRecDepth 20000 in
theorem gL_law_X8_undo : GoodIn wsL_law (wsV RL 69 RX8 yX8_undo wsX8_undo) := goodIn_app (goodIn_of _ (by decide +kernel)) ggL_law_X8_undo
set_option maxRecDepth 20000 in
theorem gL_law_X9_undo : GoodIn wsL_law (wsV RL 72 RX9 yX9_undo wsX9_undo) := goodIn_app (goodIn_of _ (by decide +kernel)) ggL_law_X9_undo
set_option maxRecDepth 20000 in
theorem gL_law_X8_keep : GoodIn wsL_law (wsV RL 73 RX8 yX8_keep wsX8_keep) := goodIn_app (goodIn_of _ (by decide +kernel)) ggL_law_X8_keep
set_option maxRecDepth 20000 in
theorem gL_law_X9_keep : GoodIn wsL_law (wsV RL 76 RX9 yX9_keep wsX9_keep) := goodIn_app (goodIn_of _ (by decide +kernel)) ggL_law_X9_keep
set_option maxRecDepth 20000 in
theorem gL_law_X8_restore : GoodIn wsL_law (wsV RL 77 RX8 yX8_restore wsX8_restore) := goodIn_app (goodIn_of _ (by decide +kernel)) ggL_law_X8_restore
set_option maxRecDepth 20000 in
theorem gL_law_X9_restore : GoodIn wsL_law (wsV RL 80 RX9 yX9_restore wsX9_restore) := goodIn_app (goodIn_of _ (by decide +kernel)) ggL_law_X9_restore
set_option maxRecDepth 20000 in
theorem gL_law_X8_date : GoodIn wsL_law (wsV RL 81 RX8 yX8_date wsX8_date) := goodIn_app (goodIn_of _ (by decide +kernel)) ggL_law_X8_date
set_option maxRecDepth 20000 in
theorem gL_law_X9_date_ : GoodIn wsL_law (wsV RL 84 RX9 yX9_date_ wsX9_date_) := goodIn_app (goodIn_of _ (by decide +kernel)) ggL_law_X9_date_
set_option maxRecDepth 20000 in
theorem gL_law_X8_day : GoodIn wsL_law (wsV RL 85 RX8 yX8_day wsX8_day) := goodIn_app (goodIn_of _ (by decide +kernel)) ggL_law_X8_day
set_option maxRecDepth 20000 in
theorem gL_law_X9_day : GoodIn wsL_law (wsV RL 88 RX9 yX9_day wsX9_day) := goodIn_app (goodIn_of _ (by decide +kernel)) ggL_law_X9_day
set_option maxRecDepth 20000 in
theorem gL_law_X8_band : GoodIn wsL_law (wsV RL 89 RX8 yX8_band wsX8_band) := goodIn_app (goodIn_of _ (by decide +kernel)) ggL_law_X8_band
set_option maxRecDepth 20000 in
theorem gL_law_X9_band : GoodIn wsL_law (wsV RL 92 RX9 yX9_band wsX9_band) := goodIn_app (goodIn_of _ (by decide +kernel)) ggL_law_X9_band
set_option maxRecDepth 20000 in
theorem gL_law_X8_wear : GoodIn wsL_law (wsV RL 93 RX8 yX8_wear wsX8_wear) := goodIn_app (goodIn_of _ (by decide +kernel)) ggL_law_X8_wear
set_option maxRecDepth 20000 in
theorem gL_law_X9_wear : GoodIn wsL_law (wsV RL 96 RX9 yX9_wear wsX9_wear) := goodIn_app (goodIn_of _ (by decide +kernel)) ggL_law_X9_wear
set_option maxRecDepth 20000 in
theorem gL_law_X8_print : GoodIn wsL_law (wsV RL 97 RX8 yX8_print wsX8_print) := goodIn_app (goodIn_of _ (by decide +kernel)) ggL_law_X8_print
set_option maxRecDepth 20000 in
theorem gL_law_X9_print : GoodIn wsL_law (wsV RL 100 RX9 yX9_print wsX9_print) := goodIn_app (goodIn_of _ (by decide +kernel)) ggL_law_X9_print
set_option maxRecDepth 20000 in
theorem gL_law_X8_rightOf : GoodIn wsL_law (wsV RL 101 RX8 yX8_rightOf wsX8_rightOf) := goodIn_app (goodIn_of _ (by decide +kernel)) ggL_law_X8_rightOf
set_option maxRecDepth 20000 in
theorem gL_law_X9_rightOf : GoodIn wsL_law (wsV RL 104 RX9 yX9_rightOf wsX9_rightOf) := goodIn_app (goodIn_of _ (by decide +kernel)) ggL_law_X9_rightOf
set_option maxRecDepth 20000 in
theorem gL_law_X8_count : GoodIn wsL_law (wsV RL 105 RX8 yX8_count wsX8_count) := goodIn_app (goodIn_of _ (by decide +kernel)) ggL_law_X8_count
set_option maxRecDepth 20000 in
theorem gL_law_X9_count : GoodIn wsL_law (wsV RL 108 RX9 yX9_count wsX9_count) := goodIn_app (goodIn_of _ (by decide +kernel)) ggL_law_X9_count
set_option maxRecDepth 20000 in
theorem gL_law_X8_even : GoodIn wsL_law (wsV RL 109 RX8 yX8_even wsX8_even) := goodIn_app (goodIn_of _ (by decide +kernel)) ggL_law_X8_even
set_option maxRecDepth 20000 in
theorem gL_law_X9_even : GoodIn wsL_law (wsV RL 113 RX9 yX9_even wsX9_even) := goodIn_app (goodIn_of _ (by decide +kernel)) ggL_law_X9_even
set_option maxRecDepth 20000 in
theorem gL_law_X8_stepsTo : GoodIn wsL_law (wsV RL 114 RX8 yX8_stepsTo wsX8_stepsTo) := goodIn_app (goodIn_of _ (by decide +kernel)) ggL_law_X8_stepsTo
set_option maxRecDepth 20000 in
theorem gL_law_X9_stepsTo : GoodIn wsL_law (wsV RL 117 RX9 yX9_stepsTo wsX9_stepsTo) := goodIn_app (goodIn_of _ (by decide +kernel)) ggL_law_X9_stepsTo
set_option maxRecDepth 20000 in
theorem gL_law_X8_leastPress : GoodIn wsL_law (wsV RL 118 RX8 yX8_leastPress wsX8_leastPress) := goodIn_app (goodIn_of _ (by decide +kernel)) ggL_law_X8_leastPress
set_option maxRecDepth 20000 in
theorem gL_law_X9_leastPress : GoodIn wsL_law (wsV RL 121 RX9 yX9_leastPress wsX9_leastPress) := goodIn_app (goodIn_of _ (by decide +kernel)) ggL_law_X9_leastPress
set_option maxRecDepth 20000 in
theorem gL_law_X8_lasts : GoodIn wsL_law (wsV RL 122 RX8 yX8_lasts wsX8_lasts) := goodIn_app (goodIn_of _ (by decide +kernel)) ggL_law_X8_lasts
set_option maxRecDepth 20000 in
theorem gL_law_X9_lasts : GoodIn wsL_law (wsV RL 125 RX9 yX9_lasts wsX9_lasts) := goodIn_app (goodIn_of _ (by decide +kernel)) ggL_law_X9_lasts
set_option maxRecDepth 20000 in
theorem gL_law_X8_bestExchange : GoodIn wsL_law (wsV RL 126 RX8 yX8_bestExchange wsX8_bestExchange) := goodIn_app (goodIn_of _ (by decide +kernel)) ggL_law_X8_bestExchange
set_option maxRecDepth 20000 in
theorem gL_law_X9_bestExchange : GoodIn wsL_law (wsV RL 129 RX9 yX9_bestExchange wsX9_bestExchange) := goodIn_app (goodIn_of _ (by decide +kernel)) ggL_law_X9_bestExchange
