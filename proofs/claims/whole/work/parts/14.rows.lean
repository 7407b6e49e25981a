theorem f_2_9 : mm_fld 2 9 = some (2, 0) := by decide +kernel
theorem f_2_15 : mm_fld 2 15 = some (2, 1) := by decide +kernel
theorem f_2_23 : mm_fld 2 23 = some (2, 2) := by decide +kernel
theorem f_2_19 : mm_fld 2 19 = some (2, 3) := by decide +kernel
theorem f_3_121 : mm_fld 3 121 = some (2, 3) := by decide +kernel
theorem f_1_9 : mm_fld 1 9 = some (1, 0) := by decide +kernel
theorem f_1_19 : mm_fld 1 19 = some (1, 1) := by decide +kernel
theorem f_1_15 : mm_fld 1 15 = some (1, 2) := by decide +kernel
theorem f_3_53 : mm_fld 3 53 = some (1, 2) := by decide +kernel
theorem f_0_7 : mm_fld 0 7 = some (0, 0) := by decide +kernel
theorem f_3_160 : mm_fld 3 160 = some (0, 0) := by decide +kernel
theorem f_0_13 : mm_fld 0 13 = some (0, 1) := by decide +kernel
theorem f_3_163 : mm_fld 3 163 = some (0, 1) := by decide +kernel
theorem f_0_16 : mm_fld 0 16 = some (0, 2) := by decide +kernel
theorem f_3_166 : mm_fld 3 166 = some (0, 2) := by decide +kernel
theorem f_0_19 : mm_fld 0 19 = some (0, 3) := by decide +kernel
theorem f_3_192 : mm_fld 3 192 = some (0, 3) := by decide +kernel
theorem f_0_23 : mm_fld 0 23 = some (0, 4) := by decide +kernel
theorem f_3_169 : mm_fld 3 169 = some (0, 4) := by decide +kernel
theorem f_0_27 : mm_fld 0 27 = some (0, 5) := by decide +kernel
theorem f_3_179 : mm_fld 3 179 = some (0, 5) := by decide +kernel
theorem f_3_127 : mm_fld 3 127 = some (0, 6) := by decide +kernel
theorem f_3_9 : mm_fld 3 9 = some (3, 0) := by decide +kernel
theorem f_3_15 : mm_fld 3 15 = some (3, 1) := by decide +kernel
theorem f_3_22 : mm_fld 3 22 = some (3, 2) := by decide +kernel
theorem f_3_28 : mm_fld 3 28 = some (3, 3) := by decide +kernel
theorem f_3_32 : mm_fld 3 32 = some (3, 4) := by decide +kernel
theorem f_3_61 : mm_fld 3 61 = some (3, 5) := by decide +kernel
theorem f_3_37 : mm_fld 3 37 = some (3, 6) := by decide +kernel
theorem f_3_146 : mm_fld 3 146 = some (3, 7) := by decide +kernel
theorem f_3_77 : mm_fld 3 77 = some (3, 8) := by decide +kernel
theorem f_3_103 : mm_fld 3 103 = some (3, 9) := by decide +kernel
theorem f_3_106 : mm_fld 3 106 = some (3, 10) := by decide +kernel
theorem f_3_109 : mm_fld 3 109 = some (3, 11) := by decide +kernel
theorem f_3_112 : mm_fld 3 112 = some (3, 12) := by decide +kernel
theorem f_3_115 : mm_fld 3 115 = some (3, 13) := by decide +kernel
theorem f_3_118 : mm_fld 3 118 = some (3, 14) := by decide +kernel
theorem f_3_124 : mm_fld 3 124 = some (3, 15) := by decide +kernel
theorem f_3_74 : mm_fld 3 74 = some (3, 16) := by decide +kernel
theorem f_4_7 : mm_fld 4 7 = some (4, 0) := by decide +kernel
theorem f_4_13 : mm_fld 4 13 = some (4, 1) := by decide +kernel
theorem f_4_17 : mm_fld 4 17 = some (4, 2) := by decide +kernel
theorem f_4_20 : mm_fld 4 20 = some (4, 3) := by decide +kernel
theorem f_4_81 : mm_fld 4 81 = some (4, 4) := by decide +kernel
theorem f_4_23 : mm_fld 4 23 = some (4, 5) := by decide +kernel
theorem f_4_26 : mm_fld 4 26 = some (4, 6) := by decide +kernel
theorem f_4_29 : mm_fld 4 29 = some (4, 7) := by decide +kernel
theorem f_4_32 : mm_fld 4 32 = some (4, 8) := by decide +kernel
theorem f_4_35 : mm_fld 4 35 = some (4, 9) := by decide +kernel
theorem f_4_38 : mm_fld 4 38 = some (4, 10) := by decide +kernel
theorem f_4_41 : mm_fld 4 41 = some (4, 11) := by decide +kernel
theorem f_4_44 : mm_fld 4 44 = some (4, 12) := by decide +kernel
theorem f_4_47 : mm_fld 4 47 = some (4, 13) := by decide +kernel
theorem f_4_50 : mm_fld 4 50 = some (4, 14) := by decide +kernel
theorem f_4_53 : mm_fld 4 53 = some (4, 15) := by decide +kernel
theorem f_4_147 : mm_fld 4 147 = some (4, 16) := by decide +kernel
theorem f_4_120 : mm_fld 4 120 = some (4, 17) := by decide +kernel
theorem f_4_56 : mm_fld 4 56 = some (4, 18) := by decide +kernel
theorem f_4_59 : mm_fld 4 59 = some (4, 19) := by decide +kernel
theorem f_4_62 : mm_fld 4 62 = some (4, 20) := by decide +kernel
theorem f_4_65 : mm_fld 4 65 = some (4, 21) := by decide +kernel
theorem f_4_68 : mm_fld 4 68 = some (4, 22) := by decide +kernel
theorem f_4_71 : mm_fld 4 71 = some (4, 23) := by decide +kernel
theorem f_4_123 : mm_fld 4 123 = some (4, 24) := by decide +kernel
theorem f_4_140 : mm_fld 4 140 = some (4, 25) := by decide +kernel
theorem f_4_126 : mm_fld 4 126 = some (4, 26) := by decide +kernel
theorem f_4_150 : mm_fld 4 150 = some (4, 27) := by decide +kernel
theorem f_4_133 : mm_fld 4 133 = some (4, 28) := by decide +kernel
theorem f_4_136 : mm_fld 4 136 = some (4, 29) := by decide +kernel
theorem f_4_74 : mm_fld 4 74 = some (4, 30) := by decide +kernel
set_option maxRecDepth 100000 in
theorem t_5_9 : mm_mth 5 9 = some (2, mX3_init) := rfl
theorem o_5_9 : mm_objL.contains (5, 9) = false := by decide +kernel
set_option maxRecDepth 100000 in
theorem t_3_41 : mm_mth 3 41 = some (1, mX3_makeHearer) := rfl
set_option maxRecDepth 100000 in
theorem t_3_132 : mm_mth 3 132 = some (2, mX0_init) := rfl
theorem o_3_132 : mm_objL.contains (3, 132) = false := by decide +kernel
set_option maxRecDepth 100000 in
theorem t_5_15 : mm_mth 5 15 = some (1, mX3_tally) := rfl
set_option maxRecDepth 100000 in
theorem t_3_45 : mm_mth 3 45 = some (0, mX3_isTally) := rfl
theorem x_3_45 : mm_max 3 45 = none := by decide +kernel
set_option maxRecDepth 100000 in
theorem t_5_20 : mm_mth 5 20 = some (1, mX3_way) := rfl
set_option maxRecDepth 100000 in
theorem t_3_49 : mm_mth 3 49 = some (0, mX3_isBell) := rfl
theorem x_3_49 : mm_max 3 49 = none := by decide +kernel
set_option maxRecDepth 100000 in
theorem t_5_25 : mm_mth 5 25 = some (1, mX3_hearer) := rfl
set_option maxRecDepth 100000 in
theorem t_3_57 : mm_mth 3 57 = some (1, mX3_canBeMade) := rfl
set_option maxRecDepth 100000 in
theorem t_3_64 : mm_mth 3 64 = some (1, mX3_isHearer) := rfl
set_option maxRecDepth 100000 in
theorem t_5_30 : mm_mth 5 30 = some (1, mX3_bind) := rfl
set_option maxRecDepth 100000 in
theorem t_3_67 : mm_mth 3 67 = some (1, mX1_append) := rfl
set_option maxRecDepth 100000 in
theorem t_1_22 : mm_mth 1 22 = some (1, mX1_placeOf) := rfl
set_option maxRecDepth 100000 in
theorem t_5_34 : mm_mth 5 34 = some (1, mX3_leave) := rfl
set_option maxRecDepth 100000 in
theorem t_3_71 : mm_mth 3 71 = some (1, mX1_remove) := rfl
set_option maxRecDepth 100000 in
theorem t_5_38 : mm_mth 5 38 = some (1, mX3_take) := rfl
set_option maxRecDepth 100000 in
theorem t_5_43 : mm_mth 5 43 = some (1, mX3_lend) := rfl
set_option maxRecDepth 100000 in
theorem t_5_47 : mm_mth 5 47 = some (1, mX3_ring) := rfl
set_option maxRecDepth 100000 in
theorem t_3_80 : mm_mth 3 80 = some (1, mX3_ringBell) := rfl
set_option maxRecDepth 100000 in
theorem t_3_149 : mm_mth 3 149 = some (1, mX1_copyLine) := rfl
set_option maxRecDepth 100000 in
theorem t_3_153 : mm_mth 3 153 = some (1, mX1_placeOf) := rfl
set_option maxRecDepth 100000 in
theorem t_3_90 : mm_mth 3 90 = some (1, mX3_perform) := rfl
set_option maxRecDepth 100000 in
theorem t_3_182 : mm_mth 3 182 = some (1, mX3_metByTry) := rfl
set_option maxRecDepth 100000 in
theorem t_3_210 : mm_mth 3 210 = some (0, mX3_canBeMet) := rfl
theorem x_3_210 : mm_max 3 210 = none := by decide +kernel
set_option maxRecDepth 100000 in
theorem t_3_186 : mm_mth 3 186 = some (1, mX3_performAlone) := rfl
set_option maxRecDepth 100000 in
theorem t_3_196 : mm_mth 3 196 = some (1, mX3_shareTally) := rfl
set_option maxRecDepth 100000 in
theorem t_3_199 : mm_mth 3 199 = some (1, mX3_addAtPlace) := rfl
set_option maxRecDepth 100000 in
theorem t_3_203 : mm_mth 3 203 = some (1, mX2_append) := rfl
set_option maxRecDepth 100000 in
theorem t_3_206 : mm_mth 3 206 = some (1, mX3_removeFromAllLines) := rfl
set_option maxRecDepth 100000 in
theorem t_3_156 : mm_mth 3 156 = some (1, mX3_metByBell) := rfl
set_option maxRecDepth 100000 in
theorem t_3_94 : mm_mth 3 94 = some (0, mX3_wellIfStopped) := rfl
theorem x_3_94 : mm_max 3 94 = none := by decide +kernel
set_option maxRecDepth 100000 in
theorem t_3_84 : mm_mth 3 84 = some (1, mX3_ringQueueAfter) := rfl
set_option maxRecDepth 100000 in
theorem t_3_135 : mm_mth 3 135 = some (1, mX2_firstBell) := rfl
set_option maxRecDepth 100000 in
theorem t_3_139 : mm_mth 3 139 = some (1, mX2_firstValue) := rfl
set_option maxRecDepth 100000 in
theorem t_3_143 : mm_mth 3 143 = some (1, mX2_dropFirst) := rfl
set_option maxRecDepth 100000 in
theorem t_3_87 : mm_mth 3 87 = some (1, mX3_answerOfCall) := rfl
set_option maxRecDepth 100000 in
theorem t_5_51 : mm_mth 5 51 = some (1, mX3_drain) := rfl
set_option maxRecDepth 100000 in
theorem t_5_56 : mm_mth 5 56 = some (1, mX3_act) := rfl
set_option maxRecDepth 100000 in
theorem t_5_60 : mm_mth 5 60 = some (1, mX3_get) := rfl
set_option maxRecDepth 100000 in
theorem t_5_65 : mm_mth 5 65 = some (1, mX3_line) := rfl
set_option maxRecDepth 100000 in
theorem t_3_97 : mm_mth 3 97 = some (1, mX1_hearerAt) := rfl
set_option maxRecDepth 100000 in
theorem t_5_69 : mm_mth 5 69 = some (1, mX3_queued) := rfl
set_option maxRecDepth 100000 in
theorem t_3_100 : mm_mth 3 100 = some (1, mX2_bellAt) := rfl
set_option maxRecDepth 100000 in
theorem t_5_73 : mm_mth 5 73 = some (1, mX3_count) := rfl
set_option maxRecDepth 100000 in
theorem t_5_77 : mm_mth 5 77 = some (1, mX3_done) := rfl
set_option maxRecDepth 100000 in
theorem t_5_12 : mm_mth 5 12 = some (2, mX4_init) := rfl
theorem o_5_12 : mm_objL.contains (5, 12) = false := by decide +kernel
set_option maxRecDepth 100000 in
theorem t_4_77 : mm_mth 4 77 = some (1, mX4_make) := rfl
set_option maxRecDepth 100000 in
theorem t_4_85 : mm_mth 4 85 = some (0, mX4_in) := rfl
theorem x_4_85 : mm_max 4 85 = none := by decide +kernel
set_option maxRecDepth 100000 in
theorem t_5_19 : mm_mth 5 19 = some (1, mX4_tally) := rfl
set_option maxRecDepth 100000 in
theorem t_4_93 : mm_mth 4 93 = some (0, mX4_isTally) := rfl
theorem x_4_93 : mm_max 4 93 = none := by decide +kernel
set_option maxRecDepth 100000 in
theorem t_5_24 : mm_mth 5 24 = some (1, mX4_way) := rfl
set_option maxRecDepth 100000 in
theorem t_4_97 : mm_mth 4 97 = some (0, mX4_isBell) := rfl
theorem x_4_97 : mm_max 4 97 = none := by decide +kernel
set_option maxRecDepth 100000 in
theorem t_5_29 : mm_mth 5 29 = some (1, mX4_hearer) := rfl
set_option maxRecDepth 100000 in
theorem t_4_106 : mm_mth 4 106 = some (1, mX4_isHearer) := rfl
set_option maxRecDepth 100000 in
theorem t_5_33 : mm_mth 5 33 = some (1, mX4_bind) := rfl
set_option maxRecDepth 100000 in
theorem t_4_109 : mm_mth 4 109 = some (1, mX4_placeOf) := rfl
set_option maxRecDepth 100000 in
theorem t_4_113 : mm_mth 4 113 = some (1, mX4_put) := rfl
set_option maxRecDepth 100000 in
theorem t_5_37 : mm_mth 5 37 = some (1, mX4_leave) := rfl
set_option maxRecDepth 100000 in
theorem t_4_117 : mm_mth 4 117 = some (1, mX4_out) := rfl
set_option maxRecDepth 100000 in
theorem t_5_42 : mm_mth 5 42 = some (1, mX4_take) := rfl
set_option maxRecDepth 100000 in
theorem t_5_46 : mm_mth 5 46 = some (1, mX4_lend) := rfl
set_option maxRecDepth 100000 in
theorem t_5_50 : mm_mth 5 50 = some (1, mX4_ring) := rfl
set_option maxRecDepth 100000 in
theorem t_4_175 : mm_mth 4 175 = some (1, mX4_ready) := rfl
set_option maxRecDepth 100000 in
theorem t_4_143 : mm_mth 4 143 = some (1, mX4_rings) := rfl
set_option maxRecDepth 100000 in
theorem t_4_129 : mm_mth 4 129 = some (1, mX4_heap) := rfl
set_option maxRecDepth 100000 in
theorem t_4_178 : mm_mth 4 178 = some (1, mX4_all) := rfl
set_option maxRecDepth 100000 in
theorem t_4_172 : mm_mth 4 172 = some (1, mX4_works) := rfl
set_option maxRecDepth 100000 in
theorem t_4_160 : mm_mth 4 160 = some (1, mX4_fails) := rfl
set_option maxRecDepth 100000 in
theorem t_4_163 : mm_mth 4 163 = some (1, mX4_stop) := rfl
set_option maxRecDepth 100000 in
theorem t_4_166 : mm_mth 4 166 = some (1, mX4_does) := rfl
set_option maxRecDepth 100000 in
theorem t_4_154 : mm_mth 4 154 = some (1, mX4_doesOthers) := rfl
set_option maxRecDepth 100000 in
theorem t_4_157 : mm_mth 4 157 = some (1, mX4_begins) := rfl
set_option maxRecDepth 100000 in
theorem t_4_169 : mm_mth 4 169 = some (1, mX4_goesOn) := rfl
set_option maxRecDepth 100000 in
theorem t_5_55 : mm_mth 5 55 = some (1, mX4_drain) := rfl
set_option maxRecDepth 100000 in
theorem t_5_59 : mm_mth 5 59 = some (1, mX4_act) := rfl
set_option maxRecDepth 100000 in
theorem t_5_64 : mm_mth 5 64 = some (1, mX4_get) := rfl
set_option maxRecDepth 100000 in
theorem t_5_68 : mm_mth 5 68 = some (1, mX4_line) := rfl
set_option maxRecDepth 100000 in
theorem t_5_72 : mm_mth 5 72 = some (1, mX4_queued) := rfl
set_option maxRecDepth 100000 in
theorem t_5_76 : mm_mth 5 76 = some (1, mX4_count) := rfl
set_option maxRecDepth 100000 in
theorem t_5_80 : mm_mth 5 80 = some (1, mX4_done) := rfl
set_option maxRecDepth 100000 in
theorem t_3_21 : mm_mth 3 21 = some (3, mX2_init) := rfl
theorem o_3_21 : mm_objL.contains (3, 21) = false := by decide +kernel
set_option maxRecDepth 100000 in
theorem t_3_40 : mm_mth 3 40 = some (3, mX1_init) := rfl
theorem o_3_40 : mm_objL.contains (3, 40) = false := by decide +kernel
theorem x_3_173 : mm_max 3 173 = some 0 := by decide +kernel
theorem x_3_189 : mm_max 3 189 = some 1 := by decide +kernel
theorem k_5_7 : mm_cls 5 7 = some 3 := by decide +kernel
theorem k_3_13 : mm_cls 3 13 = some 1 := by decide +kernel
theorem k_3_19 : mm_cls 3 19 = some 2 := by decide +kernel
theorem k_3_26 : mm_cls 3 26 = some 0 := by decide +kernel
theorem k_3_35 : mm_cls 3 35 = some 9 := by decide +kernel
theorem k_5_10 : mm_cls 5 10 = some 4 := by decide +kernel
theorem o_3_1 : mm_objL.contains (3, 1) = true := by decide +kernel
theorem o_2_3 : mm_objL.contains (2, 3) = true := by decide +kernel
theorem o_1_3 : mm_objL.contains (1, 3) = true := by decide +kernel
theorem o_0_1 : mm_objL.contains (0, 1) = true := by decide +kernel
theorem o_4_1 : mm_objL.contains (4, 1) = true := by decide +kernel
theorem l_3_130 : mm_ldc 3 130 = some 8 := by decide +kernel
theorem l_4_100 : mm_ldc 4 100 = some 8 := by decide +kernel
theorem l_4_102 : mm_ldc 4 102 = some 12 := by decide +kernel
theorem l_4_91 : mm_ldc 4 91 = some 7 := by decide +kernel
theorem l_4_89 : mm_ldc 4 89 = some 5 := by decide +kernel
theorem l_4_104 : mm_ldc 4 104 = some 14 := by decide +kernel
theorem l_4_182 : mm_ldc 4 182 = some 9 := by decide +kernel
theorem l_5_13 : mm_ldc 5 13 = some 4294967295 := by decide +kernel
