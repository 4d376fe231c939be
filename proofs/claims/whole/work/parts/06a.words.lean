/-! WORDS OF THE CONSTRUCTORS -/
theorem wk_aI : Cond.arrayClass .int ∈ lw_good := gw 159 (by decide +kernel) (by decide +kernel)
theorem wk_aJ : Cond.arrayClass .long ∈ lw_good := gw 160 (by decide +kernel) (by decide +kernel)
theorem wk_aZ : Cond.arrayClass .boolean ∈ lw_good := gw 161 (by decide +kernel) (by decide +kernel)
theorem wk_oi : Cond.instanceMethod objectInit ∈ lw_good := gw 59 (by decide +kernel) (by decide +kernel)
set_option maxRecDepth 20000 in
theorem wk_oc : Cond.code objectInit ⟨#[0xb1]⟩ 1 none ∈ lw_good := gw 60 rfl rfl
theorem wk_in_X1 : Cond.instantiable RX1 5 ∈ lw_good := gw 62 (by decide +kernel) (by decide +kernel)
theorem wk_it_X1 : Cond.initialized RX1 ∈ lw_good := gw 39 (by decide +kernel) (by decide +kernel)
theorem wk_im_X1 : Cond.instanceMethod yX1_init ∈ lw_good := gw 64 (by decide +kernel) (by decide +kernel)
set_option maxRecDepth 20000 in
theorem wk_co_X1 : Cond.code yX1_init cX1_init 2 none ∈ lw_good := gw 65 rfl rfl
theorem wk_ob_X1 : Cond.methodLink RX1 3 objectInit ∈ lw_good := gw 66 (by decide +kernel) (by decide +kernel)
theorem wk_in_X3 : Cond.instantiable RX3 5 ∈ lw_good := gw 239 (by decide +kernel) (by decide +kernel)
theorem wk_it_X3 : Cond.initialized RX3 ∈ lw_good := gw 43 (by decide +kernel) (by decide +kernel)
theorem wk_im_X3 : Cond.instanceMethod yX3_init ∈ lw_good := gw 241 (by decide +kernel) (by decide +kernel)
set_option maxRecDepth 20000 in
theorem wk_co_X3 : Cond.code yX3_init cX3_init 1 none ∈ lw_good := gw 242 rfl rfl
theorem wk_ob_X3 : Cond.methodLink RX3 3 objectInit ∈ lw_good := gw 243 (by decide +kernel) (by decide +kernel)
theorem wk_in_X4 : Cond.instantiable RX4 19 ∈ lw_good := gw 69 (by decide +kernel) (by decide +kernel)
theorem wk_it_X4 : Cond.initialized RX4 ∈ lw_good := gw 40 (by decide +kernel) (by decide +kernel)
theorem wk_im_X4 : Cond.instanceMethod yX4_init ∈ lw_good := gw 71 (by decide +kernel) (by decide +kernel)
set_option maxRecDepth 20000 in
theorem wk_co_X4 : Cond.code yX4_init cX4_init 1 none ∈ lw_good := gw 72 rfl rfl
theorem wk_ob_X4 : Cond.methodLink RX4 3 objectInit ∈ lw_good := gw 73 (by decide +kernel) (by decide +kernel)
theorem wk_in_X5 : Cond.instantiable RX5 5 ∈ lw_good := gw 186 (by decide +kernel) (by decide +kernel)
theorem wk_it_X5 : Cond.initialized RX5 ∈ lw_good := gw 41 (by decide +kernel) (by decide +kernel)
theorem wk_im_X5 : Cond.instanceMethod yX5_init ∈ lw_good := gw 188 (by decide +kernel) (by decide +kernel)
set_option maxRecDepth 20000 in
theorem wk_co_X5 : Cond.code yX5_init cX5_init 1 none ∈ lw_good := gw 189 rfl rfl
theorem wk_ob_X5 : Cond.methodLink RX5 3 objectInit ∈ lw_good := gw 190 (by decide +kernel) (by decide +kernel)
theorem wk_in_X6 : Cond.instantiable RX6 5 ∈ lw_good := gw 211 (by decide +kernel) (by decide +kernel)
theorem wk_it_X6 : Cond.initialized RX6 ∈ lw_good := gw 42 (by decide +kernel) (by decide +kernel)
theorem wk_im_X6 : Cond.instanceMethod yX6_init ∈ lw_good := gw 213 (by decide +kernel) (by decide +kernel)
set_option maxRecDepth 20000 in
theorem wk_co_X6 : Cond.code yX6_init cX6_init 1 none ∈ lw_good := gw 214 rfl rfl
theorem wk_ob_X6 : Cond.methodLink RX6 3 objectInit ∈ lw_good := gw 215 (by decide +kernel) (by decide +kernel)
theorem wk_in_X7 : Cond.instantiable RX7 8 ∈ lw_good := gw 54 (by decide +kernel) (by decide +kernel)
theorem wk_it_X7 : Cond.initialized RX7 ∈ lw_good := gw 38 (by decide +kernel) (by decide +kernel)
theorem wk_im_X7 : Cond.instanceMethod yX7_init ∈ lw_good := gw 56 (by decide +kernel) (by decide +kernel)
set_option maxRecDepth 20000 in
theorem wk_co_X7 : Cond.code yX7_init cX7_init 2 none ∈ lw_good := gw 57 rfl rfl
theorem wk_ob_X7 : Cond.methodLink RX7 1 objectInit ∈ lw_good := gw 58 (by decide +kernel) (by decide +kernel)
theorem wk_in_X8 : Cond.instantiable RX8 22 ∈ lw_good := gw 736 (by decide +kernel) (by decide +kernel)
theorem wk_it_X8 : Cond.initialized RX8 ∈ lw_good := gw 44 (by decide +kernel) (by decide +kernel)
theorem wk_im_X8 : Cond.instanceMethod yX8_init ∈ lw_good := gw 738 (by decide +kernel) (by decide +kernel)
set_option maxRecDepth 20000 in
theorem wk_co_X8 : Cond.code yX8_init cX8_init 1 none ∈ lw_good := gw 739 rfl rfl
theorem wk_ob_X8 : Cond.methodLink RX8 3 objectInit ∈ lw_good := gw 740 (by decide +kernel) (by decide +kernel)
theorem wk_cl_RL_7 : Cond.classLink RL 7 RX7 ∈ lw_good := gw 53 (by decide +kernel) (by decide +kernel)
theorem wk_cl_RL_10 : Cond.classLink RL 10 RX8 ∈ lw_good := gw 735 (by decide +kernel) (by decide +kernel)
theorem wk_cl_RX7_7 : Cond.classLink RX7 7 RX1 ∈ lw_good := gw 61 (by decide +kernel) (by decide +kernel)
theorem wk_cl_RX7_26 : Cond.classLink RX7 26 RX4 ∈ lw_good := gw 183 (by decide +kernel) (by decide +kernel)
theorem wk_cl_RX7_33 : Cond.classLink RX7 33 RX5 ∈ lw_good := gw 185 (by decide +kernel) (by decide +kernel)
theorem wk_cl_RX7_40 : Cond.classLink RX7 40 RX6 ∈ lw_good := gw 210 (by decide +kernel) (by decide +kernel)
theorem wk_cl_RX7_47 : Cond.classLink RX7 47 RX3 ∈ lw_good := gw 237 (by decide +kernel) (by decide +kernel)
theorem wk_cl_RX1_24 : Cond.classLink RX1 24 RX4 ∈ lw_good := gw 67 (by decide +kernel) (by decide +kernel)
theorem wk_cl_RX8_56 : Cond.classLink RX8 56 "[[J" ∈ lw_good := gw 741 (by decide +kernel) (by decide +kernel)
theorem wk_ml_RX7_9 : Cond.methodLink RX7 9 yX1_init ∈ lw_good := gw 63 (by decide +kernel) (by decide +kernel)
theorem wk_ml_RL_9 : Cond.methodLink RL 9 yX7_init ∈ lw_good := gw 55 (by decide +kernel) (by decide +kernel)
theorem wk_ml_RL_12 : Cond.methodLink RL 12 yX8_init ∈ lw_good := gw 737 (by decide +kernel) (by decide +kernel)
theorem wk_k64 : Cond.constantLong RX8 64 10 ∈ lw_good := gw 743 (by decide +kernel) (by decide +kernel)
theorem wk_k66 : Cond.constantLong RX8 66 500 ∈ lw_good := gw 744 (by decide +kernel) (by decide +kernel)
theorem wk_f_RX3_11 : Cond.fieldLink RX3 11 (TX3 0).1 (TX3 0).2.1 (TX3 0).2.2.1 ∈ lw_good := gw 244 (by decide +kernel) (by decide +kernel)
theorem wk_f_RX3_15 : Cond.fieldLink RX3 15 (TX3 1).1 (TX3 1).2.1 (TX3 1).2.2.1 ∈ lw_good := gw 246 (by decide +kernel) (by decide +kernel)
theorem wk_f_RX3_18 : Cond.fieldLink RX3 18 (TX3 2).1 (TX3 2).2.1 (TX3 2).2.2.1 ∈ lw_good := gw 248 (by decide +kernel) (by decide +kernel)
theorem wk_f_RX3_21 : Cond.fieldLink RX3 21 (TX3 3).1 (TX3 3).2.1 (TX3 3).2.2.1 ∈ lw_good := gw 250 (by decide +kernel) (by decide +kernel)
theorem wk_f_RX3_25 : Cond.fieldLink RX3 25 (TX3 4).1 (TX3 4).2.1 (TX3 4).2.2.1 ∈ lw_good := gw 252 (by decide +kernel) (by decide +kernel)
theorem wk_f_RX4_9 : Cond.fieldLink RX4 9 (TX4 13).1 (TX4 13).2.1 (TX4 13).2.2.1 ∈ lw_good := gw 110 (by decide +kernel) (by decide +kernel)
theorem wk_f_RX4_15 : Cond.fieldLink RX4 15 (TX4 14).1 (TX4 14).2.1 (TX4 14).2.2.1 ∈ lw_good := gw 112 (by decide +kernel) (by decide +kernel)
theorem wk_f_RX4_19 : Cond.fieldLink RX4 19 (TX4 15).1 (TX4 15).2.1 (TX4 15).2.2.1 ∈ lw_good := gw 113 (by decide +kernel) (by decide +kernel)
theorem wk_f_RX4_22 : Cond.fieldLink RX4 22 (TX4 16).1 (TX4 16).2.1 (TX4 16).2.2.1 ∈ lw_good := gw 115 (by decide +kernel) (by decide +kernel)
theorem wk_f_RX4_25 : Cond.fieldLink RX4 25 (TX4 17).1 (TX4 17).2.1 (TX4 17).2.2.1 ∈ lw_good := gw 117 (by decide +kernel) (by decide +kernel)
theorem wk_f_RX4_28 : Cond.fieldLink RX4 28 (TX4 18).1 (TX4 18).2.1 (TX4 18).2.2.1 ∈ lw_good := gw 119 (by decide +kernel) (by decide +kernel)
theorem wk_f_RX5_9 : Cond.fieldLink RX5 9 (TX5 0).1 (TX5 0).2.1 (TX5 0).2.2.1 ∈ lw_good := gw 191 (by decide +kernel) (by decide +kernel)
theorem wk_f_RX5_15 : Cond.fieldLink RX5 15 (TX5 1).1 (TX5 1).2.1 (TX5 1).2.2.1 ∈ lw_good := gw 192 (by decide +kernel) (by decide +kernel)
theorem wk_f_RX5_18 : Cond.fieldLink RX5 18 (TX5 2).1 (TX5 2).2.1 (TX5 2).2.2.1 ∈ lw_good := gw 193 (by decide +kernel) (by decide +kernel)
theorem wk_f_RX5_22 : Cond.fieldLink RX5 22 (TX5 3).1 (TX5 3).2.1 (TX5 3).2.2.1 ∈ lw_good := gw 195 (by decide +kernel) (by decide +kernel)
theorem wk_f_RX5_25 : Cond.fieldLink RX5 25 (TX5 4).1 (TX5 4).2.1 (TX5 4).2.2.1 ∈ lw_good := gw 197 (by decide +kernel) (by decide +kernel)
theorem wk_f_RX6_9 : Cond.fieldLink RX6 9 (TX6 0).1 (TX6 0).2.1 (TX6 0).2.2.1 ∈ lw_good := gw 216 (by decide +kernel) (by decide +kernel)
theorem wk_f_RX6_15 : Cond.fieldLink RX6 15 (TX6 1).1 (TX6 1).2.1 (TX6 1).2.2.1 ∈ lw_good := gw 218 (by decide +kernel) (by decide +kernel)
theorem wk_f_RX6_18 : Cond.fieldLink RX6 18 (TX6 2).1 (TX6 2).2.1 (TX6 2).2.2.1 ∈ lw_good := gw 220 (by decide +kernel) (by decide +kernel)
theorem wk_f_RX6_21 : Cond.fieldLink RX6 21 (TX6 3).1 (TX6 3).2.1 (TX6 3).2.2.1 ∈ lw_good := gw 222 (by decide +kernel) (by decide +kernel)
theorem wk_f_RX6_25 : Cond.fieldLink RX6 25 (TX6 4).1 (TX6 4).2.1 (TX6 4).2.2.1 ∈ lw_good := gw 224 (by decide +kernel) (by decide +kernel)
theorem wk_f_RX1_9 : Cond.fieldLink RX1 9 (TX1 0).1 (TX1 0).2.1 (TX1 0).2.2.1 ∈ lw_good := gw 162 (by decide +kernel) (by decide +kernel)
theorem wk_f_RX1_15 : Cond.fieldLink RX1 15 (TX1 1).1 (TX1 1).2.1 (TX1 1).2.2.1 ∈ lw_good := gw 164 (by decide +kernel) (by decide +kernel)
theorem wk_f_RX1_18 : Cond.fieldLink RX1 18 (TX1 2).1 (TX1 2).2.1 (TX1 2).2.2.1 ∈ lw_good := gw 166 (by decide +kernel) (by decide +kernel)
theorem wk_f_RX1_21 : Cond.fieldLink RX1 21 (TX1 3).1 (TX1 3).2.1 (TX1 3).2.2.1 ∈ lw_good := gw 168 (by decide +kernel) (by decide +kernel)
theorem wk_f_RX1_26 : Cond.fieldLink RX1 26 (TX1 4).1 (TX1 4).2.1 (TX1 4).2.2.1 ∈ lw_good := gw 170 (by decide +kernel) (by decide +kernel)
