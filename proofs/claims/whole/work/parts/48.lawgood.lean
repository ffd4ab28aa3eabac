set_option maxRecDepth 100000 in
theorem gL_X1_init : GoodIn lw_tbl (wsX1_init) := goodIn_p _ [19, 22, 27] (by decide +kernel) (by decide +kernel)
set_option maxRecDepth 100000 in
theorem gL_M_init : GoodIn lw_tbl (wsM_init) := goodIn_p _ [180, 22] (by decide +kernel) (by decide +kernel)
set_option maxRecDepth 100000 in
theorem gL_X1_poke : GoodIn lw_tbl (wsV RL 13 RX1 yX1_poke wsX1_poke) := goodIn_p _ [64, 67, 71, 75, 79] (by decide +kernel) (by decide +kernel)
set_option maxRecDepth 100000 in
theorem gL_M_poke : GoodIn lw_tbl (wsV RL 17 RX2 yM_poke wsM_poke) := goodIn_p _ [217, 220, 224] (by decide +kernel) (by decide +kernel)
set_option maxRecDepth 100000 in
theorem gL_X1_set : GoodIn lw_tbl (wsV RL 18 RX1 yX1_set wsX1_set) := goodIn_p _ [83, 86] (by decide +kernel) (by decide +kernel)
set_option maxRecDepth 100000 in
theorem gL_M_set : GoodIn lw_tbl (wsV RL 21 RX2 yM_set wsM_set) := goodIn_p _ [228] (by decide +kernel) (by decide +kernel)
set_option maxRecDepth 100000 in
theorem gL_X1_code : GoodIn lw_tbl (wsV RL 22 RX1 yX1_code wsX1_code) := goodIn_p _ [90, 94, 98, 71, 102, 105, 109, 112, 115, 118, 122, 126, 79] (by decide +kernel) (by decide +kernel)
set_option maxRecDepth 100000 in
theorem gL_M_code : GoodIn lw_tbl (wsV RL 26 RX2 yM_code wsM_code) := goodIn_p _ [232, 236, 240, 245, 255] (by decide +kernel) (by decide +kernel)
set_option maxRecDepth 100000 in
theorem gL_X1_load : GoodIn lw_tbl (wsV RL 27 RX1 yX1_load wsX1_load) := goodIn_p _ [130, 94, 98, 71, 102, 105, 109, 112, 115, 118, 122, 126, 79, 134, 138] (by decide +kernel) (by decide +kernel)
set_option maxRecDepth 100000 in
theorem gL_M_load : GoodIn lw_tbl (wsV RL 31 RX2 yM_load wsM_load) := goodIn_p _ [259, 236, 240, 245, 255] (by decide +kernel) (by decide +kernel)
set_option maxRecDepth 100000 in
theorem gL_X1_store : GoodIn lw_tbl (wsV RL 32 RX1 yX1_store wsX1_store) := goodIn_p _ [142, 94, 98, 71, 102, 105, 109, 112, 115, 118, 122, 75, 79, 146, 138, 126] (by decide +kernel) (by decide +kernel)
set_option maxRecDepth 100000 in
theorem gL_M_store : GoodIn lw_tbl (wsV RL 36 RX2 yM_store wsM_store) := goodIn_p _ [263, 236, 240, 245, 224] (by decide +kernel) (by decide +kernel)
set_option maxRecDepth 100000 in
theorem gL_X1_find : GoodIn lw_tbl (wsV RL 37 RX1 yX1_find wsX1_find) := goodIn_p _ [151, 98, 71, 102, 105, 109, 112, 115, 118, 122] (by decide +kernel) (by decide +kernel)
set_option maxRecDepth 100000 in
theorem gL_M_find : GoodIn lw_tbl (wsV RL 40 RX2 yM_find wsM_find) := goodIn_p _ [267, 240, 245] (by decide +kernel) (by decide +kernel)
set_option maxRecDepth 100000 in
theorem gL_X1_map : GoodIn lw_tbl (wsV RL 41 RX1 yX1_map wsX1_map) := goodIn_p _ [155, 112, 109] (by decide +kernel) (by decide +kernel)
set_option maxRecDepth 100000 in
theorem gL_M_map : GoodIn lw_tbl (wsV RL 45 RX2 yM_map wsM_map) := goodIn_p _ [271] (by decide +kernel) (by decide +kernel)
set_option maxRecDepth 100000 in
theorem gL_X1_forget : GoodIn lw_tbl (wsV RL 46 RX1 yX1_forget wsX1_forget) := goodIn_p _ [159, 163, 109, 118] (by decide +kernel) (by decide +kernel)
set_option maxRecDepth 100000 in
theorem gL_M_forget : GoodIn lw_tbl (wsV RL 50 RX2 yM_forget wsM_forget) := goodIn_p _ [275, 279] (by decide +kernel) (by decide +kernel)
set_option maxRecDepth 100000 in
theorem gL_X1_special : GoodIn lw_tbl (wsV RL 51 RX1 yX1_special wsX1_special) := goodIn_p _ [167, 86] (by decide +kernel) (by decide +kernel)
set_option maxRecDepth 100000 in
theorem gL_M_special : GoodIn lw_tbl (wsV RL 54 RX2 yM_special wsM_special) := goodIn_p _ [283] (by decide +kernel) (by decide +kernel)
set_option maxRecDepth 100000 in
theorem gL_X1_word : GoodIn lw_tbl (wsV RL 55 RX1 yX1_word wsX1_word) := goodIn_p _ [171, 67, 71, 126, 79] (by decide +kernel) (by decide +kernel)
set_option maxRecDepth 100000 in
theorem gL_M_word : GoodIn lw_tbl (wsV RL 58 RX2 yM_word wsM_word) := goodIn_p _ [287, 220, 255] (by decide +kernel) (by decide +kernel)
set_option maxRecDepth 100000 in
theorem gL_X1_look : GoodIn lw_tbl (wsV RL 59 RX1 yX1_look wsX1_look) := goodIn_p _ [175, 163, 109, 118] (by decide +kernel) (by decide +kernel)
set_option maxRecDepth 100000 in
theorem gL_M_look : GoodIn lw_tbl (wsV RL 62 RX2 yM_look wsM_look) := goodIn_p _ [291, 279] (by decide +kernel) (by decide +kernel)
