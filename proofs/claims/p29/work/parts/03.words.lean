def xtbl : List Cond := lw_tbl.filter goodWord
theorem xt_of {w : Cond} (i : Nat) (h : lw_tbl[i]? = some w) (g : goodWord w = true) : w ∈ xtbl := List.mem_filter.mpr ⟨List.mem_of_getElem? h, g⟩
theorem xt_good : GoodIn xtbl xtbl := fun w h => ⟨h, good_of_word (List.mem_filter.mp h).2⟩
theorem xw_sel_X7_isUser : Cond.selects RX7 yX7_isUser yX7_isUser ∈ xtbl := xt_of 0 (by decide +kernel) (by decide +kernel)
theorem xw_sel_X7_usersWithAlarm : Cond.selects RX7 yX7_usersWithAlarm yX7_usersWithAlarm ∈ xtbl := xt_of 1 (by decide +kernel) (by decide +kernel)
theorem xw_sel_X7_usersWithProof : Cond.selects RX7 yX7_usersWithProof yX7_usersWithProof ∈ xtbl := xt_of 2 (by decide +kernel) (by decide +kernel)
theorem xw_sel_X7_operationsOfAll : Cond.selects RX7 yX7_operationsOfAll yX7_operationsOfAll ∈ xtbl := xt_of 3 (by decide +kernel) (by decide +kernel)
theorem xw_sel_X7_lettersInBoxes : Cond.selects RX7 yX7_lettersInBoxes yX7_lettersInBoxes ∈ xtbl := xt_of 4 (by decide +kernel) (by decide +kernel)
theorem xw_sel_X7_isUnaware : Cond.selects RX7 yX7_isUnaware yX7_isUnaware ∈ xtbl := xt_of 5 (by decide +kernel) (by decide +kernel)
theorem xw_sel_X7_alarmAhead : Cond.selects RX7 yX7_alarmAhead yX7_alarmAhead ∈ xtbl := xt_of 6 (by decide +kernel) (by decide +kernel)
theorem xw_sel_X7_entriesShownTo : Cond.selects RX7 yX7_entriesShownTo yX7_entriesShownTo ∈ xtbl := xt_of 7 (by decide +kernel) (by decide +kernel)
theorem xw_sel_X7_knowForkedVectors : Cond.selects RX7 yX7_knowForkedVectors yX7_knowForkedVectors ∈ xtbl := xt_of 8 (by decide +kernel) (by decide +kernel)
theorem xw_sel_X7_isView : Cond.selects RX7 yX7_isView yX7_isView ∈ xtbl := xt_of 9 (by decide +kernel) (by decide +kernel)
theorem xw_sel_X7_usersAttachedTo : Cond.selects RX7 yX7_usersAttachedTo yX7_usersAttachedTo ∈ xtbl := xt_of 10 (by decide +kernel) (by decide +kernel)
theorem xw_sel_X7_operate : Cond.selects RX7 yX7_operate yX7_operate ∈ xtbl := xt_of 11 (by decide +kernel) (by decide +kernel)
theorem xw_sel_X7_carryOut : Cond.selects RX7 yX7_carryOut yX7_carryOut ∈ xtbl := xt_of 12 (by decide +kernel) (by decide +kernel)
theorem xw_sel_X7_readLetters : Cond.selects RX7 yX7_readLetters yX7_readLetters ∈ xtbl := xt_of 13 (by decide +kernel) (by decide +kernel)
theorem xw_ini_L : Cond.initialized RL ∈ xtbl := xt_of 14 (by decide +kernel) (by decide +kernel)
theorem xw_ini_X7 : Cond.initialized RX7 ∈ xtbl := xt_of 15 (by decide +kernel) (by decide +kernel)
theorem xw_ini_X4 : Cond.initialized RX4 ∈ xtbl := xt_of 16 (by decide +kernel) (by decide +kernel)
theorem xw_ini_X2 : Cond.initialized RX2 ∈ xtbl := xt_of 17 (by decide +kernel) (by decide +kernel)
theorem xw_ini_X5 : Cond.initialized RX5 ∈ xtbl := xt_of 18 (by decide +kernel) (by decide +kernel)
theorem xw_ini_X3 : Cond.initialized RX3 ∈ xtbl := xt_of 19 (by decide +kernel) (by decide +kernel)
theorem xw_ini_X0 : Cond.initialized RX0 ∈ xtbl := xt_of 20 (by decide +kernel) (by decide +kernel)
theorem xw_ini_X6 : Cond.initialized RX6 ∈ xtbl := xt_of 21 (by decide +kernel) (by decide +kernel)
theorem xw_ini_X1 : Cond.initialized RX1 ∈ xtbl := xt_of 22 (by decide +kernel) (by decide +kernel)
theorem xw_k_L_10 : Cond.classLink RL 10 RX7 ∈ xtbl := xt_of 23 (by decide +kernel) (by decide +kernel)
theorem xw_new_X7 : Cond.instantiable RX7 5 ∈ xtbl := xt_of 24 (by decide +kernel) (by decide +kernel)
theorem xw_m_L_111 : Cond.methodLink RL 111 yX7_init ∈ xtbl := xt_of 25 (by decide +kernel) (by decide +kernel)
theorem xw_ins_X7_init : Cond.instanceMethod yX7_init ∈ xtbl := xt_of 26 (by decide +kernel) (by decide +kernel)
theorem xw_c_X7_init : Cond.code yX7_init cX7_init 2 none ∈ xtbl := xt_of 27 (by decide +kernel) (by decide +kernel)
theorem xw_m_X7_1 : Cond.methodLink RX7 1 objectInit ∈ xtbl := xt_of 28 (by decide +kernel) (by decide +kernel)
theorem xw_ins_obj : Cond.instanceMethod objectInit ∈ xtbl := xt_of 29 (by decide +kernel) (by decide +kernel)
theorem xw_c_obj : Cond.code objectInit ⟨#[0xb1]⟩ 1 none ∈ xtbl := xt_of 30 (by decide +kernel) (by decide +kernel)
theorem xw_k_X7_9 : Cond.classLink RX7 9 RX2 ∈ xtbl := xt_of 31 (by decide +kernel) (by decide +kernel)
theorem xw_ao_X2 : Cond.arrayOver (.object RX2) ∈ lw_tbl := List.mem_of_getElem? (i := 32) (by decide +kernel)
theorem xw_k_X7_15 : Cond.classLink RX7 15 RX6 ∈ xtbl := xt_of 33 (by decide +kernel) (by decide +kernel)
theorem xw_ao_X6 : Cond.arrayOver (.object RX6) ∈ lw_tbl := List.mem_of_getElem? (i := 34) (by decide +kernel)
theorem xw_k_X7_21 : Cond.classLink RX7 21 RX4 ∈ xtbl := xt_of 35 (by decide +kernel) (by decide +kernel)
theorem xw_new_X4 : Cond.instantiable RX4 2 ∈ xtbl := xt_of 36 (by decide +kernel) (by decide +kernel)
theorem xn_X7_23 : Cond.methodLinkNest RX7 23 yX4_init RX7 ∈ lw_tbl := List.mem_of_getElem? (i := 37) (by decide +kernel)
theorem xw_ins_X4_init : Cond.instanceMethod yX4_init ∈ xtbl := xt_of 38 (by decide +kernel) (by decide +kernel)
theorem xw_c_X4_init : Cond.code yX4_init cX4_init 1 none ∈ xtbl := xt_of 39 (by decide +kernel) (by decide +kernel)
theorem xw_m_X4_3 : Cond.methodLink RX4 3 objectInit ∈ xtbl := xt_of 40 (by decide +kernel) (by decide +kernel)
theorem xw_f_X4_9 : Cond.fieldLink RX4 9 "ForkedStore$Script" "signs" "[I" ∈ xtbl := xt_of 41 (by decide +kernel) (by decide +kernel)
theorem xw_f_X7_230 : Cond.fieldLink RX7 230 "ForkedStore$Script" "signs" "[I" ∈ xtbl := xt_of 42 (by decide +kernel) (by decide +kernel)
theorem xw_f_X4_15 : Cond.fieldLink RX4 15 "ForkedStore$Script" "length" "I" ∈ xtbl := xt_of 43 (by decide +kernel) (by decide +kernel)
theorem xw_f_X7_220 : Cond.fieldLink RX7 220 "ForkedStore$Script" "length" "I" ∈ xtbl := xt_of 44 (by decide +kernel) (by decide +kernel)
theorem xw_ac_int : Cond.arrayClass .int ∈ xtbl := xt_of 50 (by decide +kernel) (by decide +kernel)
theorem xw_new_X2 : Cond.instantiable RX2 11 ∈ xtbl := xt_of 51 (by decide +kernel) (by decide +kernel)
theorem xn_X7_35 : Cond.methodLinkNest RX7 35 yX2_init RX7 ∈ lw_tbl := List.mem_of_getElem? (i := 52) (by decide +kernel)
theorem xw_ins_X2_init : Cond.instanceMethod yX2_init ∈ xtbl := xt_of 53 (by decide +kernel) (by decide +kernel)
theorem xw_c_X2_init : Cond.code yX2_init cX2_init 1 none ∈ xtbl := xt_of 54 (by decide +kernel) (by decide +kernel)
theorem xw_m_X2_3 : Cond.methodLink RX2 3 objectInit ∈ xtbl := xt_of 55 (by decide +kernel) (by decide +kernel)
theorem xw_k_X2_9 : Cond.classLink RX2 9 RX5 ∈ xtbl := xt_of 56 (by decide +kernel) (by decide +kernel)
theorem xw_new_X5 : Cond.instantiable RX5 1 ∈ xtbl := xt_of 57 (by decide +kernel) (by decide +kernel)
theorem xn_X2_11 : Cond.methodLinkNest RX2 11 yX5_init RX7 ∈ lw_tbl := List.mem_of_getElem? (i := 58) (by decide +kernel)
theorem xw_ins_X5_init : Cond.instanceMethod yX5_init ∈ xtbl := xt_of 59 (by decide +kernel) (by decide +kernel)
theorem xw_c_X5_init : Cond.code yX5_init cX5_init 1 none ∈ xtbl := xt_of 60 (by decide +kernel) (by decide +kernel)
theorem xw_m_X5_3 : Cond.methodLink RX5 3 objectInit ∈ xtbl := xt_of 61 (by decide +kernel) (by decide +kernel)
theorem xw_f_X5_9 : Cond.fieldLink RX5 9 "ForkedStore$VersionVector" "numbers" "[I" ∈ xtbl := xt_of 62 (by decide +kernel) (by decide +kernel)
theorem xw_f_X1_29 : Cond.fieldLink RX1 29 "ForkedStore$VersionVector" "numbers" "[I" ∈ xtbl := xt_of 63 (by decide +kernel) (by decide +kernel)
theorem xw_f_X2_75 : Cond.fieldLink RX2 75 "ForkedStore$VersionVector" "numbers" "[I" ∈ xtbl := xt_of 64 (by decide +kernel) (by decide +kernel)
theorem xw_f_X7_192 : Cond.fieldLink RX7 192 "ForkedStore$VersionVector" "numbers" "[I" ∈ xtbl := xt_of 65 (by decide +kernel) (by decide +kernel)
theorem xw_k_X2_21 : Cond.classLink RX2 21 RX3 ∈ xtbl := xt_of 69 (by decide +kernel) (by decide +kernel)
theorem xw_new_X3 : Cond.instantiable RX3 4 ∈ xtbl := xt_of 70 (by decide +kernel) (by decide +kernel)
theorem xn_X2_23 : Cond.methodLinkNest RX2 23 yX3_init RX7 ∈ lw_tbl := List.mem_of_getElem? (i := 71) (by decide +kernel)
theorem xw_ins_X3_init : Cond.instanceMethod yX3_init ∈ xtbl := xt_of 72 (by decide +kernel) (by decide +kernel)
theorem xw_c_X3_init : Cond.code yX3_init cX3_init 1 none ∈ xtbl := xt_of 73 (by decide +kernel) (by decide +kernel)
theorem xw_m_X3_1 : Cond.methodLink RX3 1 objectInit ∈ xtbl := xt_of 74 (by decide +kernel) (by decide +kernel)
theorem xw_k_X3_7 : Cond.classLink RX3 7 RX5 ∈ xtbl := xt_of 75 (by decide +kernel) (by decide +kernel)
theorem xn_X3_9 : Cond.methodLinkNest RX3 9 yX5_init RX7 ∈ lw_tbl := List.mem_of_getElem? (i := 76) (by decide +kernel)
theorem xw_f_X3_10 : Cond.fieldLink RX3 10 "ForkedStore$Proof" "first" "LForkedStore$VersionVector;" ∈ xtbl := xt_of 77 (by decide +kernel) (by decide +kernel)
theorem xw_f_X7_150 : Cond.fieldLink RX7 150 "ForkedStore$Proof" "first" "LForkedStore$VersionVector;" ∈ xtbl := xt_of 78 (by decide +kernel) (by decide +kernel)
theorem xw_f_X3_16 : Cond.fieldLink RX3 16 "ForkedStore$Proof" "second" "LForkedStore$VersionVector;" ∈ xtbl := xt_of 79 (by decide +kernel) (by decide +kernel)
theorem xw_f_X7_153 : Cond.fieldLink RX7 153 "ForkedStore$Proof" "second" "LForkedStore$VersionVector;" ∈ xtbl := xt_of 80 (by decide +kernel) (by decide +kernel)
theorem xw_f_X3_19 : Cond.fieldLink RX3 19 "ForkedStore$Proof" "isHeld" "Z" ∈ xtbl := xt_of 81 (by decide +kernel) (by decide +kernel)
theorem xw_f_X7_145 : Cond.fieldLink RX7 145 "ForkedStore$Proof" "isHeld" "Z" ∈ xtbl := xt_of 82 (by decide +kernel) (by decide +kernel)
theorem xw_f_X3_27 : Cond.fieldLink RX3 27 "ForkedStore$Proof" "depth" "I" ∈ xtbl := xt_of 83 (by decide +kernel) (by decide +kernel)
theorem xw_f_X7_156 : Cond.fieldLink RX7 156 "ForkedStore$Proof" "depth" "I" ∈ xtbl := xt_of 84 (by decide +kernel) (by decide +kernel)
theorem xw_k_X2_28 : Cond.classLink RX2 28 RX0 ∈ xtbl := xt_of 94 (by decide +kernel) (by decide +kernel)
theorem xw_new_X0 : Cond.instantiable RX0 2 ∈ xtbl := xt_of 95 (by decide +kernel) (by decide +kernel)
theorem xw_m_X2_30 : Cond.methodLink RX2 30 yX0_init ∈ xtbl := xt_of 96 (by decide +kernel) (by decide +kernel)
theorem xw_ins_X0_init : Cond.instanceMethod yX0_init ∈ xtbl := xt_of 97 (by decide +kernel) (by decide +kernel)
theorem xw_c_X0_init : Cond.code yX0_init cX0_init 2 none ∈ xtbl := xt_of 98 (by decide +kernel) (by decide +kernel)
theorem xw_m_X0_3 : Cond.methodLink RX0 3 objectInit ∈ xtbl := xt_of 99 (by decide +kernel) (by decide +kernel)
theorem xw_k_X0_9 : Cond.classLink RX0 9 RX5 ∈ xtbl := xt_of 100 (by decide +kernel) (by decide +kernel)
theorem xw_ao_X5 : Cond.arrayOver (.object RX5) ∈ lw_tbl := List.mem_of_getElem? (i := 101) (by decide +kernel)
theorem xn_X0_17 : Cond.methodLinkNest RX0 17 yX5_init RX7 ∈ lw_tbl := List.mem_of_getElem? (i := 102) (by decide +kernel)
theorem xw_f_X0_11 : Cond.fieldLink RX0 11 "ForkedStore$Box" "letters" "[LForkedStore$VersionVector;" ∈ xtbl := xt_of 103 (by decide +kernel) (by decide +kernel)
theorem xw_f_X7_130 : Cond.fieldLink RX7 130 "ForkedStore$Box" "letters" "[LForkedStore$VersionVector;" ∈ xtbl := xt_of 104 (by decide +kernel) (by decide +kernel)
theorem xw_f_X0_18 : Cond.fieldLink RX0 18 "ForkedStore$Box" "size" "I" ∈ xtbl := xt_of 105 (by decide +kernel) (by decide +kernel)
theorem xw_f_X2_39 : Cond.fieldLink RX2 39 "ForkedStore$Box" "size" "I" ∈ xtbl := xt_of 106 (by decide +kernel) (by decide +kernel)
theorem xw_f_X7_114 : Cond.fieldLink RX7 114 "ForkedStore$Box" "size" "I" ∈ xtbl := xt_of 107 (by decide +kernel) (by decide +kernel)
theorem xw_f_X2_12 : Cond.fieldLink RX2 12 "ForkedStore$Member" "signed" "LForkedStore$VersionVector;" ∈ xtbl := xt_of 113 (by decide +kernel) (by decide +kernel)
theorem xw_f_X7_189 : Cond.fieldLink RX7 189 "ForkedStore$Member" "signed" "LForkedStore$VersionVector;" ∈ xtbl := xt_of 114 (by decide +kernel) (by decide +kernel)
theorem xw_f_X2_18 : Cond.fieldLink RX2 18 "ForkedStore$Member" "known" "LForkedStore$VersionVector;" ∈ xtbl := xt_of 115 (by decide +kernel) (by decide +kernel)
theorem xw_f_X7_119 : Cond.fieldLink RX7 119 "ForkedStore$Member" "known" "LForkedStore$VersionVector;" ∈ xtbl := xt_of 116 (by decide +kernel) (by decide +kernel)
theorem xw_f_X2_24 : Cond.fieldLink RX2 24 "ForkedStore$Member" "proof" "LForkedStore$Proof;" ∈ xtbl := xt_of 117 (by decide +kernel) (by decide +kernel)
theorem xw_f_X7_141 : Cond.fieldLink RX7 141 "ForkedStore$Member" "proof" "LForkedStore$Proof;" ∈ xtbl := xt_of 118 (by decide +kernel) (by decide +kernel)
theorem xw_f_X2_31 : Cond.fieldLink RX2 31 "ForkedStore$Member" "box" "LForkedStore$Box;" ∈ xtbl := xt_of 119 (by decide +kernel) (by decide +kernel)
theorem xw_f_X7_110 : Cond.fieldLink RX7 110 "ForkedStore$Member" "box" "LForkedStore$Box;" ∈ xtbl := xt_of 120 (by decide +kernel) (by decide +kernel)
theorem xw_f_X2_43 : Cond.fieldLink RX2 43 "ForkedStore$Member" "view" "I" ∈ xtbl := xt_of 121 (by decide +kernel) (by decide +kernel)
theorem xw_f_X7_90 : Cond.fieldLink RX7 90 "ForkedStore$Member" "view" "I" ∈ xtbl := xt_of 122 (by decide +kernel) (by decide +kernel)
theorem xw_f_X2_46 : Cond.fieldLink RX2 46 "ForkedStore$Member" "alarm" "I" ∈ xtbl := xt_of 123 (by decide +kernel) (by decide +kernel)
theorem xw_f_X7_45 : Cond.fieldLink RX7 45 "ForkedStore$Member" "alarm" "I" ∈ xtbl := xt_of 124 (by decide +kernel) (by decide +kernel)
theorem xw_f_X2_49 : Cond.fieldLink RX2 49 "ForkedStore$Member" "hasHeard" "Z" ∈ xtbl := xt_of 125 (by decide +kernel) (by decide +kernel)
theorem xw_f_X7_66 : Cond.fieldLink RX7 66 "ForkedStore$Member" "hasHeard" "Z" ∈ xtbl := xt_of 126 (by decide +kernel) (by decide +kernel)
theorem xw_f_X2_62 : Cond.fieldLink RX2 62 "ForkedStore$Member" "heard" "I" ∈ xtbl := xt_of 127 (by decide +kernel) (by decide +kernel)
theorem xw_f_X7_70 : Cond.fieldLink RX7 70 "ForkedStore$Member" "heard" "I" ∈ xtbl := xt_of 128 (by decide +kernel) (by decide +kernel)
theorem xw_f_X2_53 : Cond.fieldLink RX2 53 "ForkedStore$Member" "operations" "I" ∈ xtbl := xt_of 129 (by decide +kernel) (by decide +kernel)
theorem xw_f_X7_183 : Cond.fieldLink RX7 183 "ForkedStore$Member" "operations" "I" ∈ xtbl := xt_of 130 (by decide +kernel) (by decide +kernel)
theorem xw_f_X2_56 : Cond.fieldLink RX2 56 "ForkedStore$Member" "shown" "I" ∈ xtbl := xt_of 131 (by decide +kernel) (by decide +kernel)
theorem xw_f_X7_186 : Cond.fieldLink RX7 186 "ForkedStore$Member" "shown" "I" ∈ xtbl := xt_of 132 (by decide +kernel) (by decide +kernel)
theorem xw_f_X2_59 : Cond.fieldLink RX2 59 "ForkedStore$Member" "sent" "I" ∈ xtbl := xt_of 133 (by decide +kernel) (by decide +kernel)
theorem xw_f_X7_127 : Cond.fieldLink RX7 127 "ForkedStore$Member" "sent" "I" ∈ xtbl := xt_of 134 (by decide +kernel) (by decide +kernel)
theorem xw_new_X6 : Cond.instantiable RX6 4 ∈ xtbl := xt_of 158 (by decide +kernel) (by decide +kernel)
theorem xw_m_X7_36 : Cond.methodLink RX7 36 yX6_init ∈ xtbl := xt_of 159 (by decide +kernel) (by decide +kernel)
theorem xw_ins_X6_init : Cond.instanceMethod yX6_init ∈ xtbl := xt_of 160 (by decide +kernel) (by decide +kernel)
theorem xw_c_X6_init : Cond.code yX6_init cX6_init 2 none ∈ xtbl := xt_of 161 (by decide +kernel) (by decide +kernel)
theorem xw_m_X6_3 : Cond.methodLink RX6 3 objectInit ∈ xtbl := xt_of 162 (by decide +kernel) (by decide +kernel)
theorem xw_k_X6_9 : Cond.classLink RX6 9 RX1 ∈ xtbl := xt_of 163 (by decide +kernel) (by decide +kernel)
theorem xw_new_X1 : Cond.instantiable RX1 2 ∈ xtbl := xt_of 164 (by decide +kernel) (by decide +kernel)
theorem xw_m_X6_11 : Cond.methodLink RX6 11 yX1_init ∈ xtbl := xt_of 165 (by decide +kernel) (by decide +kernel)
theorem xw_ins_X1_init : Cond.instanceMethod yX1_init ∈ xtbl := xt_of 166 (by decide +kernel) (by decide +kernel)
theorem xw_c_X1_init : Cond.code yX1_init cX1_init 2 none ∈ xtbl := xt_of 167 (by decide +kernel) (by decide +kernel)
theorem xw_m_X1_3 : Cond.methodLink RX1 3 objectInit ∈ xtbl := xt_of 168 (by decide +kernel) (by decide +kernel)
theorem xw_k_X1_9 : Cond.classLink RX1 9 RX5 ∈ xtbl := xt_of 169 (by decide +kernel) (by decide +kernel)
theorem xn_X1_21 : Cond.methodLinkNest RX1 21 yX5_init RX7 ∈ lw_tbl := List.mem_of_getElem? (i := 170) (by decide +kernel)
theorem xw_f_X1_11 : Cond.fieldLink RX1 11 "ForkedStore$Entries" "vectors" "[LForkedStore$VersionVector;" ∈ xtbl := xt_of 171 (by decide +kernel) (by decide +kernel)
theorem xw_f_X2_79 : Cond.fieldLink RX2 79 "ForkedStore$Entries" "vectors" "[LForkedStore$VersionVector;" ∈ xtbl := xt_of 172 (by decide +kernel) (by decide +kernel)
theorem xw_f_X7_197 : Cond.fieldLink RX7 197 "ForkedStore$Entries" "vectors" "[LForkedStore$VersionVector;" ∈ xtbl := xt_of 173 (by decide +kernel) (by decide +kernel)
theorem xw_f_X1_17 : Cond.fieldLink RX1 17 "ForkedStore$Entries" "contents" "[I" ∈ xtbl := xt_of 174 (by decide +kernel) (by decide +kernel)
theorem xw_f_X7_56 : Cond.fieldLink RX7 56 "ForkedStore$Entries" "contents" "[I" ∈ xtbl := xt_of 175 (by decide +kernel) (by decide +kernel)
theorem xw_ao_X1 : Cond.arrayOver (.object RX1) ∈ lw_tbl := List.mem_of_getElem? (i := 181) (by decide +kernel)
theorem xw_f_X6_12 : Cond.fieldLink RX6 12 "ForkedStore$View" "entries" "LForkedStore$Entries;" ∈ xtbl := xt_of 182 (by decide +kernel) (by decide +kernel)
theorem xw_f_X7_102 : Cond.fieldLink RX7 102 "ForkedStore$View" "entries" "LForkedStore$Entries;" ∈ xtbl := xt_of 183 (by decide +kernel) (by decide +kernel)
theorem xw_f_X6_18 : Cond.fieldLink RX6 18 "ForkedStore$View" "before" "[LForkedStore$Entries;" ∈ xtbl := xt_of 184 (by decide +kernel) (by decide +kernel)
theorem xw_f_X6_28 : Cond.fieldLink RX6 28 "ForkedStore$View" "remembered" "I" ∈ xtbl := xt_of 185 (by decide +kernel) (by decide +kernel)
theorem xw_f_X7_93 : Cond.fieldLink RX7 93 "ForkedStore$View" "remembered" "I" ∈ xtbl := xt_of 186 (by decide +kernel) (by decide +kernel)
theorem xw_f_X6_32 : Cond.fieldLink RX6 32 "ForkedStore$View" "next" "I" ∈ xtbl := xt_of 187 (by decide +kernel) (by decide +kernel)
theorem xw_f_X7_11 : Cond.fieldLink RX7 11 "ForkedStore" "members" "[LForkedStore$Member;" ∈ xtbl := xt_of 197 (by decide +kernel) (by decide +kernel)
theorem xw_f_X7_17 : Cond.fieldLink RX7 17 "ForkedStore" "views" "[LForkedStore$View;" ∈ xtbl := xt_of 198 (by decide +kernel) (by decide +kernel)
theorem xw_f_X7_24 : Cond.fieldLink RX7 24 "ForkedStore" "script" "LForkedStore$Script;" ∈ xtbl := xt_of 199 (by decide +kernel) (by decide +kernel)
theorem xw_f_X7_28 : Cond.fieldLink RX7 28 "ForkedStore" "users" "I" ∈ xtbl := xt_of 200 (by decide +kernel) (by decide +kernel)
theorem xw_f_X7_32 : Cond.fieldLink RX7 32 "ForkedStore" "viewCount" "I" ∈ xtbl := xt_of 201 (by decide +kernel) (by decide +kernel)
theorem xw_m_L_95 : Cond.methodLink RL 95 yX7_reset ∈ xtbl := xt_of 213 (by decide +kernel) (by decide +kernel)
theorem xw_ins_X7_reset : Cond.instanceMethod yX7_reset ∈ xtbl := xt_of 214 (by decide +kernel) (by decide +kernel)
theorem xw_sel_X7_reset : Cond.selects RX7 yX7_reset yX7_reset ∈ xtbl := xt_of 215 (by decide +kernel) (by decide +kernel)
theorem xw_c_X7_reset : Cond.code yX7_reset cX7_reset 4 (some .int) ∈ xtbl := xt_of 216 (by decide +kernel) (by decide +kernel)
theorem xw_m_X7_37 : Cond.methodLink RX7 37 yX2_clear ∈ xtbl := xt_of 217 (by decide +kernel) (by decide +kernel)
theorem xw_ins_X2_clear : Cond.instanceMethod yX2_clear ∈ xtbl := xt_of 218 (by decide +kernel) (by decide +kernel)
theorem xw_sel_X2_clear : Cond.selects RX2 yX2_clear yX2_clear ∈ xtbl := xt_of 219 (by decide +kernel) (by decide +kernel)
theorem xw_c_X2_clear : Cond.code yX2_clear cX2_clear 1 none ∈ xtbl := xt_of 220 (by decide +kernel) (by decide +kernel)
theorem xw_m_X2_35 : Cond.methodLink RX2 35 yX5_clear ∈ xtbl := xt_of 221 (by decide +kernel) (by decide +kernel)
theorem xw_ins_X5_clear : Cond.instanceMethod yX5_clear ∈ xtbl := xt_of 222 (by decide +kernel) (by decide +kernel)
theorem xw_sel_X5_clear : Cond.selects RX5 yX5_clear yX5_clear ∈ xtbl := xt_of 223 (by decide +kernel) (by decide +kernel)
theorem xw_c_X5_clear : Cond.code yX5_clear cX5_clear 2 none ∈ xtbl := xt_of 224 (by decide +kernel) (by decide +kernel)
theorem xw_m_X2_38 : Cond.methodLink RX2 38 yX3_clear ∈ xtbl := xt_of 225 (by decide +kernel) (by decide +kernel)
theorem xw_ins_X3_clear : Cond.instanceMethod yX3_clear ∈ xtbl := xt_of 226 (by decide +kernel) (by decide +kernel)
theorem xw_sel_X3_clear : Cond.selects RX3 yX3_clear yX3_clear ∈ xtbl := xt_of 227 (by decide +kernel) (by decide +kernel)
theorem xw_c_X3_clear : Cond.code yX3_clear cX3_clear 1 none ∈ xtbl := xt_of 228 (by decide +kernel) (by decide +kernel)
theorem xw_m_X7_40 : Cond.methodLink RX7 40 yX6_clear ∈ xtbl := xt_of 229 (by decide +kernel) (by decide +kernel)
theorem xw_ins_X6_clear : Cond.instanceMethod yX6_clear ∈ xtbl := xt_of 230 (by decide +kernel) (by decide +kernel)
theorem xw_sel_X6_clear : Cond.selects RX6 yX6_clear yX6_clear ∈ xtbl := xt_of 231 (by decide +kernel) (by decide +kernel)
theorem xw_c_X6_clear : Cond.code yX6_clear cX6_clear 1 none ∈ xtbl := xt_of 232 (by decide +kernel) (by decide +kernel)
theorem xw_m_X6_22 : Cond.methodLink RX6 22 yX1_clear ∈ xtbl := xt_of 233 (by decide +kernel) (by decide +kernel)
theorem xw_ins_X1_clear : Cond.instanceMethod yX1_clear ∈ xtbl := xt_of 234 (by decide +kernel) (by decide +kernel)
theorem xw_sel_X1_clear : Cond.selects RX1 yX1_clear yX1_clear ∈ xtbl := xt_of 235 (by decide +kernel) (by decide +kernel)
theorem xw_c_X1_clear : Cond.code yX1_clear cX1_clear 2 none ∈ xtbl := xt_of 236 (by decide +kernel) (by decide +kernel)
theorem xw_m_X1_22 : Cond.methodLink RX1 22 yX5_clear ∈ xtbl := xt_of 237 (by decide +kernel) (by decide +kernel)
theorem xw_m_X6_25 : Cond.methodLink RX6 25 yX6_forget ∈ xtbl := xt_of 238 (by decide +kernel) (by decide +kernel)
theorem xw_ins_X6_forget : Cond.instanceMethod yX6_forget ∈ xtbl := xt_of 239 (by decide +kernel) (by decide +kernel)
theorem xw_sel_X6_forget : Cond.selects RX6 yX6_forget yX6_forget ∈ xtbl := xt_of 240 (by decide +kernel) (by decide +kernel)
theorem xw_c_X6_forget : Cond.code yX6_forget cX6_forget 1 none ∈ xtbl := xt_of 241 (by decide +kernel) (by decide +kernel)
theorem xw_m_L_98 : Cond.methodLink RL 98 yX7_passProof ∈ xtbl := xt_of 242 (by decide +kernel) (by decide +kernel)
theorem xw_ins_X7_passProof : Cond.instanceMethod yX7_passProof ∈ xtbl := xt_of 243 (by decide +kernel) (by decide +kernel)
theorem xw_sel_X7_passProof : Cond.selects RX7 yX7_passProof yX7_passProof ∈ xtbl := xt_of 244 (by decide +kernel) (by decide +kernel)
theorem xw_c_X7_passProof : Cond.code yX7_passProof cX7_passProof 6 (some .int) ∈ xtbl := xt_of 245 (by decide +kernel) (by decide +kernel)
theorem xw_m_X7_41 : Cond.methodLink RX7 41 yX7_isUser ∈ xtbl := xt_of 246 (by decide +kernel) (by decide +kernel)
theorem xw_ins_X7_isUser : Cond.instanceMethod yX7_isUser ∈ xtbl := xt_of 248 (by decide +kernel) (by decide +kernel)
theorem xw_c_X7_isUser : Cond.code yX7_isUser cX7_isUser 2 (some .boolean) ∈ xtbl := xt_of 249 (by decide +kernel) (by decide +kernel)
theorem xw_m_X7_159 : Cond.methodLink RX7 159 yX3_keepFirst ∈ xtbl := xt_of 250 (by decide +kernel) (by decide +kernel)
theorem xw_ins_X3_keepFirst : Cond.instanceMethod yX3_keepFirst ∈ xtbl := xt_of 251 (by decide +kernel) (by decide +kernel)
theorem xw_sel_X3_keepFirst : Cond.selects RX3 yX3_keepFirst yX3_keepFirst ∈ xtbl := xt_of 252 (by decide +kernel) (by decide +kernel)
theorem xw_c_X3_keepFirst : Cond.code yX3_keepFirst cX3_keepFirst 4 none ∈ xtbl := xt_of 253 (by decide +kernel) (by decide +kernel)
theorem xw_m_X3_23 : Cond.methodLink RX3 23 yX5_copyFrom ∈ xtbl := xt_of 254 (by decide +kernel) (by decide +kernel)
theorem xw_ins_X5_copyFrom : Cond.instanceMethod yX5_copyFrom ∈ xtbl := xt_of 255 (by decide +kernel) (by decide +kernel)
theorem xw_sel_X5_copyFrom : Cond.selects RX5 yX5_copyFrom yX5_copyFrom ∈ xtbl := xt_of 256 (by decide +kernel) (by decide +kernel)
theorem xw_c_X5_copyFrom : Cond.code yX5_copyFrom cX5_copyFrom 3 none ∈ xtbl := xt_of 257 (by decide +kernel) (by decide +kernel)
theorem xw_m_X7_163 : Cond.methodLink RX7 163 yX2_raise ∈ xtbl := xt_of 258 (by decide +kernel) (by decide +kernel)
theorem xw_ins_X2_raise : Cond.instanceMethod yX2_raise ∈ xtbl := xt_of 259 (by decide +kernel) (by decide +kernel)
theorem xw_sel_X2_raise : Cond.selects RX2 yX2_raise yX2_raise ∈ xtbl := xt_of 260 (by decide +kernel) (by decide +kernel)
theorem xw_c_X2_raise : Cond.code yX2_raise cX2_raise 2 none ∈ xtbl := xt_of 261 (by decide +kernel) (by decide +kernel)
theorem xw_m_X7_166 : Cond.methodLink RX7 166 yX7_oneIf ∈ xtbl := xt_of 262 (by decide +kernel) (by decide +kernel)
theorem xw_sta_X7_oneIf : Cond.static yX7_oneIf ∈ xtbl := xt_of 263 (by decide +kernel) (by decide +kernel)
theorem xw_c_X7_oneIf : Cond.code yX7_oneIf cX7_oneIf 1 (some .int) ∈ xtbl := xt_of 264 (by decide +kernel) (by decide +kernel)
theorem xw_m_L_40 : Cond.methodLink RL 40 yX7_count ∈ xtbl := xt_of 265 (by decide +kernel) (by decide +kernel)
theorem xw_ins_X7_count : Cond.instanceMethod yX7_count ∈ xtbl := xt_of 266 (by decide +kernel) (by decide +kernel)
theorem xw_sel_X7_count : Cond.selects RX7 yX7_count yX7_count ∈ xtbl := xt_of 267 (by decide +kernel) (by decide +kernel)
theorem xw_c_X7_count : Cond.code yX7_count cX7_count 2 (some .int) ∈ xtbl := xt_of 268 (by decide +kernel) (by decide +kernel)
theorem xw_m_X7_170 : Cond.methodLink RX7 170 yX7_usersWithAlarm ∈ xtbl := xt_of 269 (by decide +kernel) (by decide +kernel)
theorem xw_ins_X7_usersWithAlarm : Cond.instanceMethod yX7_usersWithAlarm ∈ xtbl := xt_of 271 (by decide +kernel) (by decide +kernel)
theorem xw_c_X7_usersWithAlarm : Cond.code yX7_usersWithAlarm cX7_usersWithAlarm 3 (some .int) ∈ xtbl := xt_of 272 (by decide +kernel) (by decide +kernel)
theorem xw_m_X7_174 : Cond.methodLink RX7 174 yX7_usersWithProof ∈ xtbl := xt_of 273 (by decide +kernel) (by decide +kernel)
theorem xw_ins_X7_usersWithProof : Cond.instanceMethod yX7_usersWithProof ∈ xtbl := xt_of 275 (by decide +kernel) (by decide +kernel)
theorem xw_c_X7_usersWithProof : Cond.code yX7_usersWithProof cX7_usersWithProof 3 (some .int) ∈ xtbl := xt_of 276 (by decide +kernel) (by decide +kernel)
theorem xw_m_X7_177 : Cond.methodLink RX7 177 yX7_operationsOfAll ∈ xtbl := xt_of 277 (by decide +kernel) (by decide +kernel)
theorem xw_ins_X7_operationsOfAll : Cond.instanceMethod yX7_operationsOfAll ∈ xtbl := xt_of 279 (by decide +kernel) (by decide +kernel)
theorem xw_c_X7_operationsOfAll : Cond.code yX7_operationsOfAll cX7_operationsOfAll 3 (some .int) ∈ xtbl := xt_of 280 (by decide +kernel) (by decide +kernel)
theorem xw_m_X7_180 : Cond.methodLink RX7 180 yX7_lettersInBoxes ∈ xtbl := xt_of 281 (by decide +kernel) (by decide +kernel)
theorem xw_ins_X7_lettersInBoxes : Cond.instanceMethod yX7_lettersInBoxes ∈ xtbl := xt_of 283 (by decide +kernel) (by decide +kernel)
theorem xw_c_X7_lettersInBoxes : Cond.code yX7_lettersInBoxes cX7_lettersInBoxes 3 (some .int) ∈ xtbl := xt_of 284 (by decide +kernel) (by decide +kernel)
theorem xw_m_L_18 : Cond.methodLink RL 18 yX7_user ∈ xtbl := xt_of 285 (by decide +kernel) (by decide +kernel)
theorem xw_ins_X7_user : Cond.instanceMethod yX7_user ∈ xtbl := xt_of 286 (by decide +kernel) (by decide +kernel)
theorem xw_sel_X7_user : Cond.selects RX7 yX7_user yX7_user ∈ xtbl := xt_of 287 (by decide +kernel) (by decide +kernel)
theorem xw_c_X7_user : Cond.code yX7_user cX7_user 4 (some .int) ∈ xtbl := xt_of 288 (by decide +kernel) (by decide +kernel)
theorem xw_m_L_92 : Cond.methodLink RL 92 yX7_unaware ∈ xtbl := xt_of 289 (by decide +kernel) (by decide +kernel)
theorem xw_ins_X7_unaware : Cond.instanceMethod yX7_unaware ∈ xtbl := xt_of 290 (by decide +kernel) (by decide +kernel)
theorem xw_sel_X7_unaware : Cond.selects RX7 yX7_unaware yX7_unaware ∈ xtbl := xt_of 291 (by decide +kernel) (by decide +kernel)
theorem xw_c_X7_unaware : Cond.code yX7_unaware cX7_unaware 3 (some .int) ∈ xtbl := xt_of 292 (by decide +kernel) (by decide +kernel)
theorem xw_m_X7_217 : Cond.methodLink RX7 217 yX7_isUnaware ∈ xtbl := xt_of 293 (by decide +kernel) (by decide +kernel)
theorem xw_ins_X7_isUnaware : Cond.instanceMethod yX7_isUnaware ∈ xtbl := xt_of 295 (by decide +kernel) (by decide +kernel)
theorem xw_c_X7_isUnaware : Cond.code yX7_isUnaware cX7_isUnaware 3 (some .boolean) ∈ xtbl := xt_of 296 (by decide +kernel) (by decide +kernel)
theorem xw_m_X7_73 : Cond.methodLink RX7 73 yX7_alarmAhead ∈ xtbl := xt_of 297 (by decide +kernel) (by decide +kernel)
theorem xw_ins_X7_alarmAhead : Cond.instanceMethod yX7_alarmAhead ∈ xtbl := xt_of 299 (by decide +kernel) (by decide +kernel)
theorem xw_c_X7_alarmAhead : Cond.code yX7_alarmAhead cX7_alarmAhead 4 (some .int) ∈ xtbl := xt_of 300 (by decide +kernel) (by decide +kernel)
theorem xw_m_X7_52 : Cond.methodLink RX7 52 yX7_entriesShownTo ∈ xtbl := xt_of 301 (by decide +kernel) (by decide +kernel)
theorem xw_ins_X7_entriesShownTo : Cond.instanceMethod yX7_entriesShownTo ∈ xtbl := xt_of 303 (by decide +kernel) (by decide +kernel)
theorem xw_c_X7_entriesShownTo : Cond.code yX7_entriesShownTo cX7_entriesShownTo 2 (some (.object "ForkedStore$Entries")) ∈ xtbl := xt_of 304 (by decide +kernel) (by decide +kernel)
theorem xw_m_X7_211 : Cond.methodLink RX7 211 yX5_relationTo ∈ xtbl := xt_of 305 (by decide +kernel) (by decide +kernel)
theorem xw_ins_X5_relationTo : Cond.instanceMethod yX5_relationTo ∈ xtbl := xt_of 306 (by decide +kernel) (by decide +kernel)
theorem xw_sel_X5_relationTo : Cond.selects RX5 yX5_relationTo yX5_relationTo ∈ xtbl := xt_of 307 (by decide +kernel) (by decide +kernel)
theorem xw_c_X5_relationTo : Cond.code yX5_relationTo cX5_relationTo 5 (some .int) ∈ xtbl := xt_of 308 (by decide +kernel) (by decide +kernel)
theorem xw_m_X7_200 : Cond.methodLink RX7 200 yX1_areForked ∈ xtbl := xt_of 309 (by decide +kernel) (by decide +kernel)
theorem xw_ins_X1_areForked : Cond.instanceMethod yX1_areForked ∈ xtbl := xt_of 310 (by decide +kernel) (by decide +kernel)
theorem xw_sel_X1_areForked : Cond.selects RX1 yX1_areForked yX1_areForked ∈ xtbl := xt_of 311 (by decide +kernel) (by decide +kernel)
theorem xw_c_X1_areForked : Cond.code yX1_areForked cX1_areForked 3 (some .boolean) ∈ xtbl := xt_of 312 (by decide +kernel) (by decide +kernel)
theorem xw_m_X1_32 : Cond.methodLink RX1 32 yX5_relationTo ∈ xtbl := xt_of 313 (by decide +kernel) (by decide +kernel)
theorem xw_m_X7_204 : Cond.methodLink RX7 204 yX1_greatest ∈ xtbl := xt_of 314 (by decide +kernel) (by decide +kernel)
theorem xw_ins_X1_greatest : Cond.instanceMethod yX1_greatest ∈ xtbl := xt_of 315 (by decide +kernel) (by decide +kernel)
theorem xw_sel_X1_greatest : Cond.selects RX1 yX1_greatest yX1_greatest ∈ xtbl := xt_of 316 (by decide +kernel) (by decide +kernel)
theorem xw_c_X1_greatest : Cond.code yX1_greatest cX1_greatest 3 (some (.object "ForkedStore$VersionVector")) ∈ xtbl := xt_of 317 (by decide +kernel) (by decide +kernel)
theorem xw_m_X1_36 : Cond.methodLink RX1 36 yX5_isAtMost ∈ xtbl := xt_of 318 (by decide +kernel) (by decide +kernel)
theorem xw_ins_X5_isAtMost : Cond.instanceMethod yX5_isAtMost ∈ xtbl := xt_of 319 (by decide +kernel) (by decide +kernel)
theorem xw_sel_X5_isAtMost : Cond.selects RX5 yX5_isAtMost yX5_isAtMost ∈ xtbl := xt_of 320 (by decide +kernel) (by decide +kernel)
theorem xw_c_X5_isAtMost : Cond.code yX5_isAtMost cX5_isAtMost 3 (some .boolean) ∈ xtbl := xt_of 321 (by decide +kernel) (by decide +kernel)
theorem xw_m_X7_240 : Cond.methodLink RX7 240 yX5_isAtMost ∈ xtbl := xt_of 322 (by decide +kernel) (by decide +kernel)
theorem xw_m_X7_214 : Cond.methodLink RX7 214 yX7_knowForkedVectors ∈ xtbl := xt_of 323 (by decide +kernel) (by decide +kernel)
theorem xw_ins_X7_knowForkedVectors : Cond.instanceMethod yX7_knowForkedVectors ∈ xtbl := xt_of 325 (by decide +kernel) (by decide +kernel)
theorem xw_c_X7_knowForkedVectors : Cond.code yX7_knowForkedVectors cX7_knowForkedVectors 3 (some .boolean) ∈ xtbl := xt_of 326 (by decide +kernel) (by decide +kernel)
theorem xw_m_L_112 : Cond.methodLink RL 112 yL_cell ∈ xtbl := xt_of 327 (by decide +kernel) (by decide +kernel)
theorem xw_sta_L_cell : Cond.static yL_cell ∈ xtbl := xt_of 328 (by decide +kernel) (by decide +kernel)
set_option maxRecDepth 100000 in
theorem xw_c_L_cell : Cond.code yL_cell cL_cell 2 (some .int) ∈ xtbl := xt_of 329 (rfl) (by decide +kernel)
theorem xw_m_L_46 : Cond.methodLink RL 46 yL_low ∈ xtbl := xt_of 331 (by decide +kernel) (by decide +kernel)
theorem xw_sta_L_low : Cond.static yL_low ∈ xtbl := xt_of 332 (by decide +kernel) (by decide +kernel)
set_option maxRecDepth 100000 in
theorem xw_c_L_low : Cond.code yL_low cL_low 2 (some .int) ∈ xtbl := xt_of 333 (rfl) (by decide +kernel)
theorem xw_m_L_116 : Cond.methodLink RL 116 yL_operates ∈ xtbl := xt_of 335 (by decide +kernel) (by decide +kernel)
theorem xw_sta_L_operates : Cond.static yL_operates ∈ xtbl := xt_of 336 (by decide +kernel) (by decide +kernel)
set_option maxRecDepth 100000 in
theorem xw_c_L_operates : Cond.code yL_operates cL_operates 22 (some .boolean) ∈ xtbl := xt_of 337 (rfl) (by decide +kernel)
theorem xw_m_L_32 : Cond.methodLink RL 32 yL_alarm ∈ xtbl := xt_of 338 (by decide +kernel) (by decide +kernel)
theorem xw_sta_L_alarm : Cond.static yL_alarm ∈ xtbl := xt_of 339 (by decide +kernel) (by decide +kernel)
set_option maxRecDepth 100000 in
theorem xw_c_L_alarm : Cond.code yL_alarm cL_alarm 9 (some .int) ∈ xtbl := xt_of 340 (rfl) (by decide +kernel)
theorem xw_m_L_22 : Cond.methodLink RL 22 yL_read ∈ xtbl := xt_of 341 (by decide +kernel) (by decide +kernel)
theorem xw_sta_L_read : Cond.static yL_read ∈ xtbl := xt_of 342 (by decide +kernel) (by decide +kernel)
set_option maxRecDepth 100000 in
theorem xw_c_L_read : Cond.code yL_read cL_read 6 none ∈ xtbl := xt_of 343 (rfl) (by decide +kernel)
theorem xw_m_L_9 : Cond.methodLink RL 9 yX7_vector ∈ xtbl := xt_of 344 (by decide +kernel) (by decide +kernel)
theorem xw_ins_X7_vector : Cond.instanceMethod yX7_vector ∈ xtbl := xt_of 345 (by decide +kernel) (by decide +kernel)
theorem xw_sel_X7_vector : Cond.selects RX7 yX7_vector yX7_vector ∈ xtbl := xt_of 346 (by decide +kernel) (by decide +kernel)
theorem xw_c_X7_vector : Cond.code yX7_vector cX7_vector 5 (some .int) ∈ xtbl := xt_of 347 (by decide +kernel) (by decide +kernel)
theorem xw_m_L_15 : Cond.methodLink RL 15 yX7_entry ∈ xtbl := xt_of 348 (by decide +kernel) (by decide +kernel)
theorem xw_ins_X7_entry : Cond.instanceMethod yX7_entry ∈ xtbl := xt_of 349 (by decide +kernel) (by decide +kernel)
theorem xw_sel_X7_entry : Cond.selects RX7 yX7_entry yX7_entry ∈ xtbl := xt_of 350 (by decide +kernel) (by decide +kernel)
theorem xw_c_X7_entry : Cond.code yX7_entry cX7_entry 4 (some .int) ∈ xtbl := xt_of 351 (by decide +kernel) (by decide +kernel)
theorem xw_m_X7_76 : Cond.methodLink RX7 76 yX7_isView ∈ xtbl := xt_of 352 (by decide +kernel) (by decide +kernel)
theorem xw_ins_X7_isView : Cond.instanceMethod yX7_isView ∈ xtbl := xt_of 354 (by decide +kernel) (by decide +kernel)
theorem xw_c_X7_isView : Cond.code yX7_isView cX7_isView 2 (some .boolean) ∈ xtbl := xt_of 355 (by decide +kernel) (by decide +kernel)
theorem xw_m_L_28 : Cond.methodLink RL 28 yL_most ∈ xtbl := xt_of 356 (by decide +kernel) (by decide +kernel)
theorem xw_sta_L_most : Cond.static yL_most ∈ xtbl := xt_of 357 (by decide +kernel) (by decide +kernel)
set_option maxRecDepth 100000 in
theorem xw_c_L_most : Cond.code yL_most cL_most 4 (some .boolean) ∈ xtbl := xt_of 358 (rfl) (by decide +kernel)
theorem xw_m_L_36 : Cond.methodLink RL 36 yX7_check ∈ xtbl := xt_of 359 (by decide +kernel) (by decide +kernel)
theorem xw_ins_X7_check : Cond.instanceMethod yX7_check ∈ xtbl := xt_of 360 (by decide +kernel) (by decide +kernel)
theorem xw_sel_X7_check : Cond.selects RX7 yX7_check yX7_check ∈ xtbl := xt_of 361 (by decide +kernel) (by decide +kernel)
theorem xw_c_X7_check : Cond.code yX7_check cX7_check 2 (some .int) ∈ xtbl := xt_of 362 (by decide +kernel) (by decide +kernel)
theorem xw_m_L_43 : Cond.methodLink RL 43 yX7_view ∈ xtbl := xt_of 363 (by decide +kernel) (by decide +kernel)
theorem xw_ins_X7_view : Cond.instanceMethod yX7_view ∈ xtbl := xt_of 364 (by decide +kernel) (by decide +kernel)
theorem xw_sel_X7_view : Cond.selects RX7 yX7_view yX7_view ∈ xtbl := xt_of 365 (by decide +kernel) (by decide +kernel)
theorem xw_c_X7_view : Cond.code yX7_view cX7_view 4 (some .int) ∈ xtbl := xt_of 366 (by decide +kernel) (by decide +kernel)
theorem xw_m_X7_79 : Cond.methodLink RX7 79 yX7_usersAttachedTo ∈ xtbl := xt_of 367 (by decide +kernel) (by decide +kernel)
theorem xw_ins_X7_usersAttachedTo : Cond.instanceMethod yX7_usersAttachedTo ∈ xtbl := xt_of 369 (by decide +kernel) (by decide +kernel)
theorem xw_c_X7_usersAttachedTo : Cond.code yX7_usersAttachedTo cX7_usersAttachedTo 4 (some .int) ∈ xtbl := xt_of 370 (by decide +kernel) (by decide +kernel)
theorem xw_m_X7_208 : Cond.methodLink RX7 208 yX5_sum ∈ xtbl := xt_of 371 (by decide +kernel) (by decide +kernel)
theorem xw_ins_X5_sum : Cond.instanceMethod yX5_sum ∈ xtbl := xt_of 372 (by decide +kernel) (by decide +kernel)
theorem xw_sel_X5_sum : Cond.selects RX5 yX5_sum yX5_sum ∈ xtbl := xt_of 373 (by decide +kernel) (by decide +kernel)
theorem xw_c_X5_sum : Cond.code yX5_sum cX5_sum 3 (some .int) ∈ xtbl := xt_of 374 (by decide +kernel) (by decide +kernel)
theorem xw_m_L_49 : Cond.methodLink RL 49 yX7_content ∈ xtbl := xt_of 375 (by decide +kernel) (by decide +kernel)
theorem xw_ins_X7_content : Cond.instanceMethod yX7_content ∈ xtbl := xt_of 376 (by decide +kernel) (by decide +kernel)
theorem xw_sel_X7_content : Cond.selects RX7 yX7_content yX7_content ∈ xtbl := xt_of 377 (by decide +kernel) (by decide +kernel)
theorem xw_c_X7_content : Cond.code yX7_content cX7_content 3 (some .int) ∈ xtbl := xt_of 378 (by decide +kernel) (by decide +kernel)
theorem xw_m_L_52 : Cond.methodLink RL 52 yX7_lastRead ∈ xtbl := xt_of 379 (by decide +kernel) (by decide +kernel)
theorem xw_ins_X7_lastRead : Cond.instanceMethod yX7_lastRead ∈ xtbl := xt_of 380 (by decide +kernel) (by decide +kernel)
theorem xw_sel_X7_lastRead : Cond.selects RX7 yX7_lastRead yX7_lastRead ∈ xtbl := xt_of 381 (by decide +kernel) (by decide +kernel)
theorem xw_c_X7_lastRead : Cond.code yX7_lastRead cX7_lastRead 2 (some .int) ∈ xtbl := xt_of 382 (by decide +kernel) (by decide +kernel)
theorem xw_m_L_55 : Cond.methodLink RL 55 yX7_write ∈ xtbl := xt_of 383 (by decide +kernel) (by decide +kernel)
theorem xw_ins_X7_write : Cond.instanceMethod yX7_write ∈ xtbl := xt_of 384 (by decide +kernel) (by decide +kernel)
theorem xw_sel_X7_write : Cond.selects RX7 yX7_write yX7_write ∈ xtbl := xt_of 385 (by decide +kernel) (by decide +kernel)
theorem xw_c_X7_write : Cond.code yX7_write cX7_write 4 (some .int) ∈ xtbl := xt_of 386 (by decide +kernel) (by decide +kernel)
theorem xw_m_X7_48 : Cond.methodLink RX7 48 yX7_operate ∈ xtbl := xt_of 387 (by decide +kernel) (by decide +kernel)
theorem xw_ins_X7_operate : Cond.instanceMethod yX7_operate ∈ xtbl := xt_of 389 (by decide +kernel) (by decide +kernel)
theorem xw_c_X7_operate : Cond.code yX7_operate cX7_operate 5 (some .int) ∈ xtbl := xt_of 390 (by decide +kernel) (by decide +kernel)
theorem xw_m_X7_244 : Cond.methodLink RX7 244 yX6_remember ∈ xtbl := xt_of 391 (by decide +kernel) (by decide +kernel)
theorem xw_ins_X6_remember : Cond.instanceMethod yX6_remember ∈ xtbl := xt_of 392 (by decide +kernel) (by decide +kernel)
theorem xw_sel_X6_remember : Cond.selects RX6 yX6_remember yX6_remember ∈ xtbl := xt_of 393 (by decide +kernel) (by decide +kernel)
theorem xw_c_X6_remember : Cond.code yX6_remember cX6_remember 1 none ∈ xtbl := xt_of 394 (by decide +kernel) (by decide +kernel)
theorem xw_m_X6_35 : Cond.methodLink RX6 35 yX1_copyFrom ∈ xtbl := xt_of 395 (by decide +kernel) (by decide +kernel)
theorem xw_ins_X1_copyFrom : Cond.instanceMethod yX1_copyFrom ∈ xtbl := xt_of 396 (by decide +kernel) (by decide +kernel)
theorem xw_sel_X1_copyFrom : Cond.selects RX1 yX1_copyFrom yX1_copyFrom ∈ xtbl := xt_of 397 (by decide +kernel) (by decide +kernel)
theorem xw_c_X1_copyFrom : Cond.code yX1_copyFrom cX1_copyFrom 3 none ∈ xtbl := xt_of 398 (by decide +kernel) (by decide +kernel)
theorem xw_m_X1_25 : Cond.methodLink RX1 25 yX5_copyFrom ∈ xtbl := xt_of 399 (by decide +kernel) (by decide +kernel)
theorem xw_m_X7_247 : Cond.methodLink RX7 247 yX2_sign ∈ xtbl := xt_of 400 (by decide +kernel) (by decide +kernel)
theorem xw_ins_X2_sign : Cond.instanceMethod yX2_sign ∈ xtbl := xt_of 401 (by decide +kernel) (by decide +kernel)
theorem xw_sel_X2_sign : Cond.selects RX2 yX2_sign yX2_sign ∈ xtbl := xt_of 402 (by decide +kernel) (by decide +kernel)
theorem xw_c_X2_sign : Cond.code yX2_sign cX2_sign 3 none ∈ xtbl := xt_of 403 (by decide +kernel) (by decide +kernel)
theorem xw_m_X2_65 : Cond.methodLink RX2 65 yX1_greatest ∈ xtbl := xt_of 404 (by decide +kernel) (by decide +kernel)
theorem xw_m_X2_71 : Cond.methodLink RX2 71 yX5_copyFrom ∈ xtbl := xt_of 405 (by decide +kernel) (by decide +kernel)
theorem xw_m_X7_251 : Cond.methodLink RX7 251 yX1_prove ∈ xtbl := xt_of 406 (by decide +kernel) (by decide +kernel)
theorem xw_ins_X1_prove : Cond.instanceMethod yX1_prove ∈ xtbl := xt_of 407 (by decide +kernel) (by decide +kernel)
theorem xw_sel_X1_prove : Cond.selects RX1 yX1_prove yX1_prove ∈ xtbl := xt_of 408 (by decide +kernel) (by decide +kernel)
theorem xw_c_X1_prove : Cond.code yX1_prove cX1_prove 4 none ∈ xtbl := xt_of 409 (by decide +kernel) (by decide +kernel)
theorem xw_m_X1_40 : Cond.methodLink RX1 40 yX3_keepFirst ∈ xtbl := xt_of 410 (by decide +kernel) (by decide +kernel)
theorem xw_m_X7_255 : Cond.methodLink RX7 255 yX2_proveLack ∈ xtbl := xt_of 411 (by decide +kernel) (by decide +kernel)
theorem xw_ins_X2_proveLack : Cond.instanceMethod yX2_proveLack ∈ xtbl := xt_of 412 (by decide +kernel) (by decide +kernel)
theorem xw_sel_X2_proveLack : Cond.selects RX2 yX2_proveLack yX2_proveLack ∈ xtbl := xt_of 413 (by decide +kernel) (by decide +kernel)
theorem xw_c_X2_proveLack : Cond.code yX2_proveLack cX2_proveLack 2 none ∈ xtbl := xt_of 414 (by decide +kernel) (by decide +kernel)
theorem xw_m_X2_83 : Cond.methodLink RX2 83 yX5_relationTo ∈ xtbl := xt_of 415 (by decide +kernel) (by decide +kernel)
theorem xw_m_X2_87 : Cond.methodLink RX2 87 yX3_keepFirst ∈ xtbl := xt_of 416 (by decide +kernel) (by decide +kernel)
theorem xw_m_L_58 : Cond.methodLink RL 58 yX7_read ∈ xtbl := xt_of 417 (by decide +kernel) (by decide +kernel)
theorem xw_ins_X7_read : Cond.instanceMethod yX7_read ∈ xtbl := xt_of 418 (by decide +kernel) (by decide +kernel)
theorem xw_sel_X7_read : Cond.selects RX7 yX7_read yX7_read ∈ xtbl := xt_of 419 (by decide +kernel) (by decide +kernel)
theorem xw_c_X7_read : Cond.code yX7_read cX7_read 4 (some .int) ∈ xtbl := xt_of 420 (by decide +kernel) (by decide +kernel)
theorem xw_m_X7_62 : Cond.methodLink RX7 62 yX2_hear ∈ xtbl := xt_of 421 (by decide +kernel) (by decide +kernel)
theorem xw_ins_X2_hear : Cond.instanceMethod yX2_hear ∈ xtbl := xt_of 422 (by decide +kernel) (by decide +kernel)
theorem xw_sel_X2_hear : Cond.selects RX2 yX2_hear yX2_hear ∈ xtbl := xt_of 423 (by decide +kernel) (by decide +kernel)
theorem xw_c_X2_hear : Cond.code yX2_hear cX2_hear 2 none ∈ xtbl := xt_of 424 (by decide +kernel) (by decide +kernel)
theorem xw_m_L_120 : Cond.methodLink RL 120 yL_letters ∈ xtbl := xt_of 425 (by decide +kernel) (by decide +kernel)
theorem xw_sta_L_letters : Cond.static yL_letters ∈ xtbl := xt_of 426 (by decide +kernel) (by decide +kernel)
set_option maxRecDepth 100000 in
theorem xw_c_L_letters : Cond.code yL_letters cL_letters 14 (some .boolean) ∈ xtbl := xt_of 427 (rfl) (by decide +kernel)
theorem xw_m_L_60 : Cond.methodLink RL 60 yX7_sendLetter ∈ xtbl := xt_of 428 (by decide +kernel) (by decide +kernel)
theorem xw_ins_X7_sendLetter : Cond.instanceMethod yX7_sendLetter ∈ xtbl := xt_of 429 (by decide +kernel) (by decide +kernel)
theorem xw_sel_X7_sendLetter : Cond.selects RX7 yX7_sendLetter yX7_sendLetter ∈ xtbl := xt_of 430 (by decide +kernel) (by decide +kernel)
theorem xw_c_X7_sendLetter : Cond.code yX7_sendLetter cX7_sendLetter 4 (some .int) ∈ xtbl := xt_of 431 (by decide +kernel) (by decide +kernel)
theorem xw_m_X7_123 : Cond.methodLink RX7 123 yX0_put ∈ xtbl := xt_of 432 (by decide +kernel) (by decide +kernel)
theorem xw_ins_X0_put : Cond.instanceMethod yX0_put ∈ xtbl := xt_of 433 (by decide +kernel) (by decide +kernel)
theorem xw_sel_X0_put : Cond.selects RX0 yX0_put yX0_put ∈ xtbl := xt_of 434 (by decide +kernel) (by decide +kernel)
theorem xw_c_X0_put : Cond.code yX0_put cX0_put 2 none ∈ xtbl := xt_of 435 (by decide +kernel) (by decide +kernel)
theorem xw_m_X0_22 : Cond.methodLink RX0 22 yX5_copyFrom ∈ xtbl := xt_of 436 (by decide +kernel) (by decide +kernel)
theorem xw_m_L_63 : Cond.methodLink RL 63 yX7_loseLetter ∈ xtbl := xt_of 437 (by decide +kernel) (by decide +kernel)
theorem xw_ins_X7_loseLetter : Cond.instanceMethod yX7_loseLetter ∈ xtbl := xt_of 438 (by decide +kernel) (by decide +kernel)
theorem xw_sel_X7_loseLetter : Cond.selects RX7 yX7_loseLetter yX7_loseLetter ∈ xtbl := xt_of 439 (by decide +kernel) (by decide +kernel)
theorem xw_c_X7_loseLetter : Cond.code yX7_loseLetter cX7_loseLetter 3 (some .int) ∈ xtbl := xt_of 440 (by decide +kernel) (by decide +kernel)
theorem xw_m_X7_138 : Cond.methodLink RX7 138 yX0_dropFirst ∈ xtbl := xt_of 441 (by decide +kernel) (by decide +kernel)
theorem xw_ins_X0_dropFirst : Cond.instanceMethod yX0_dropFirst ∈ xtbl := xt_of 442 (by decide +kernel) (by decide +kernel)
theorem xw_sel_X0_dropFirst : Cond.selects RX0 yX0_dropFirst yX0_dropFirst ∈ xtbl := xt_of 443 (by decide +kernel) (by decide +kernel)
theorem xw_c_X0_dropFirst : Cond.code yX0_dropFirst cX0_dropFirst 2 none ∈ xtbl := xt_of 444 (by decide +kernel) (by decide +kernel)
theorem xw_m_L_66 : Cond.methodLink RL 66 yX7_readLetter ∈ xtbl := xt_of 445 (by decide +kernel) (by decide +kernel)
theorem xw_ins_X7_readLetter : Cond.instanceMethod yX7_readLetter ∈ xtbl := xt_of 446 (by decide +kernel) (by decide +kernel)
theorem xw_sel_X7_readLetter : Cond.selects RX7 yX7_readLetter yX7_readLetter ∈ xtbl := xt_of 447 (by decide +kernel) (by decide +kernel)
theorem xw_c_X7_readLetter : Cond.code yX7_readLetter cX7_readLetter 4 (some .int) ∈ xtbl := xt_of 448 (by decide +kernel) (by decide +kernel)
theorem xw_m_X7_134 : Cond.methodLink RX7 134 yX2_learn ∈ xtbl := xt_of 449 (by decide +kernel) (by decide +kernel)
theorem xw_ins_X2_learn : Cond.instanceMethod yX2_learn ∈ xtbl := xt_of 450 (by decide +kernel) (by decide +kernel)
theorem xw_sel_X2_learn : Cond.selects RX2 yX2_learn yX2_learn ∈ xtbl := xt_of 451 (by decide +kernel) (by decide +kernel)
theorem xw_c_X2_learn : Cond.code yX2_learn cX2_learn 2 (some .int) ∈ xtbl := xt_of 452 (by decide +kernel) (by decide +kernel)
theorem xw_m_X2_91 : Cond.methodLink RX2 91 yX5_isAtMost ∈ xtbl := xt_of 453 (by decide +kernel) (by decide +kernel)
theorem xw_m_X2_95 : Cond.methodLink RX2 95 yX2_raise ∈ xtbl := xt_of 454 (by decide +kernel) (by decide +kernel)
theorem xw_m_L_124 : Cond.methodLink RL 124 yL_stores ∈ xtbl := xt_of 455 (by decide +kernel) (by decide +kernel)
theorem xw_sta_L_stores : Cond.static yL_stores ∈ xtbl := xt_of 456 (by decide +kernel) (by decide +kernel)
set_option maxRecDepth 100000 in
theorem xw_c_L_stores : Cond.code yL_stores cL_stores 13 (some .boolean) ∈ xtbl := xt_of 457 (rfl) (by decide +kernel)
theorem xw_m_L_69 : Cond.methodLink RL 69 yX7_fork ∈ xtbl := xt_of 458 (by decide +kernel) (by decide +kernel)
theorem xw_ins_X7_fork : Cond.instanceMethod yX7_fork ∈ xtbl := xt_of 459 (by decide +kernel) (by decide +kernel)
theorem xw_sel_X7_fork : Cond.selects RX7 yX7_fork yX7_fork ∈ xtbl := xt_of 460 (by decide +kernel) (by decide +kernel)
theorem xw_c_X7_fork : Cond.code yX7_fork cX7_fork 5 (some .int) ∈ xtbl := xt_of 461 (by decide +kernel) (by decide +kernel)
theorem xw_m_X7_82 : Cond.methodLink RX7 82 yX6_copyFrom ∈ xtbl := xt_of 462 (by decide +kernel) (by decide +kernel)
theorem xw_ins_X6_copyFrom : Cond.instanceMethod yX6_copyFrom ∈ xtbl := xt_of 463 (by decide +kernel) (by decide +kernel)
theorem xw_sel_X6_copyFrom : Cond.selects RX6 yX6_copyFrom yX6_copyFrom ∈ xtbl := xt_of 464 (by decide +kernel) (by decide +kernel)
theorem xw_c_X6_copyFrom : Cond.code yX6_copyFrom cX6_copyFrom 3 none ∈ xtbl := xt_of 465 (by decide +kernel) (by decide +kernel)
theorem xw_m_X7_86 : Cond.methodLink RX7 86 yX7_contains ∈ xtbl := xt_of 466 (by decide +kernel) (by decide +kernel)
theorem xw_sta_X7_contains : Cond.static yX7_contains ∈ xtbl := xt_of 467 (by decide +kernel) (by decide +kernel)
theorem xw_c_X7_contains : Cond.code yX7_contains cX7_contains 2 (some .boolean) ∈ xtbl := xt_of 468 (by decide +kernel) (by decide +kernel)
theorem xw_m_L_72 : Cond.methodLink RL 72 yX7_attach ∈ xtbl := xt_of 469 (by decide +kernel) (by decide +kernel)
theorem xw_ins_X7_attach : Cond.instanceMethod yX7_attach ∈ xtbl := xt_of 470 (by decide +kernel) (by decide +kernel)
theorem xw_sel_X7_attach : Cond.selects RX7 yX7_attach yX7_attach ∈ xtbl := xt_of 471 (by decide +kernel) (by decide +kernel)
theorem xw_c_X7_attach : Cond.code yX7_attach cX7_attach 4 (some .int) ∈ xtbl := xt_of 472 (by decide +kernel) (by decide +kernel)
theorem xw_m_L_75 : Cond.methodLink RL 75 yX7_rollBack ∈ xtbl := xt_of 473 (by decide +kernel) (by decide +kernel)
theorem xw_ins_X7_rollBack : Cond.instanceMethod yX7_rollBack ∈ xtbl := xt_of 474 (by decide +kernel) (by decide +kernel)
theorem xw_sel_X7_rollBack : Cond.selects RX7 yX7_rollBack yX7_rollBack ∈ xtbl := xt_of 475 (by decide +kernel) (by decide +kernel)
theorem xw_c_X7_rollBack : Cond.code yX7_rollBack cX7_rollBack 3 (some .int) ∈ xtbl := xt_of 476 (by decide +kernel) (by decide +kernel)
theorem xw_m_X7_96 : Cond.methodLink RX7 96 yX6_takeBack ∈ xtbl := xt_of 477 (by decide +kernel) (by decide +kernel)
theorem xw_ins_X6_takeBack : Cond.instanceMethod yX6_takeBack ∈ xtbl := xt_of 478 (by decide +kernel) (by decide +kernel)
theorem xw_sel_X6_takeBack : Cond.selects RX6 yX6_takeBack yX6_takeBack ∈ xtbl := xt_of 479 (by decide +kernel) (by decide +kernel)
theorem xw_c_X6_takeBack : Cond.code yX6_takeBack cX6_takeBack 2 none ∈ xtbl := xt_of 480 (by decide +kernel) (by decide +kernel)
theorem xw_m_L_78 : Cond.methodLink RL 78 yX7_mix ∈ xtbl := xt_of 481 (by decide +kernel) (by decide +kernel)
theorem xw_ins_X7_mix : Cond.instanceMethod yX7_mix ∈ xtbl := xt_of 482 (by decide +kernel) (by decide +kernel)
theorem xw_sel_X7_mix : Cond.selects RX7 yX7_mix yX7_mix ∈ xtbl := xt_of 483 (by decide +kernel) (by decide +kernel)
theorem xw_c_X7_mix : Cond.code yX7_mix cX7_mix 4 (some .int) ∈ xtbl := xt_of 484 (by decide +kernel) (by decide +kernel)
theorem xw_m_X7_99 : Cond.methodLink RX7 99 yX6_forget ∈ xtbl := xt_of 485 (by decide +kernel) (by decide +kernel)
theorem xw_m_X7_106 : Cond.methodLink RX7 106 yX1_replaceByLater ∈ xtbl := xt_of 486 (by decide +kernel) (by decide +kernel)
theorem xw_ins_X1_replaceByLater : Cond.instanceMethod yX1_replaceByLater ∈ xtbl := xt_of 487 (by decide +kernel) (by decide +kernel)
theorem xw_sel_X1_replaceByLater : Cond.selects RX1 yX1_replaceByLater yX1_replaceByLater ∈ xtbl := xt_of 488 (by decide +kernel) (by decide +kernel)
theorem xw_c_X1_replaceByLater : Cond.code yX1_replaceByLater cX1_replaceByLater 4 (some .int) ∈ xtbl := xt_of 489 (by decide +kernel) (by decide +kernel)
theorem xw_m_L_127 : Cond.methodLink RL 127 yL_same ∈ xtbl := xt_of 490 (by decide +kernel) (by decide +kernel)
theorem xw_sta_L_same : Cond.static yL_same ∈ xtbl := xt_of 491 (by decide +kernel) (by decide +kernel)
set_option maxRecDepth 100000 in
theorem xw_c_L_same : Cond.code yL_same cL_same 16 (some .boolean) ∈ xtbl := xt_of 492 (rfl) (by decide +kernel)
theorem xw_m_L_81 : Cond.methodLink RL 81 yX7_compare ∈ xtbl := xt_of 493 (by decide +kernel) (by decide +kernel)
theorem xw_ins_X7_compare : Cond.instanceMethod yX7_compare ∈ xtbl := xt_of 494 (by decide +kernel) (by decide +kernel)
theorem xw_sel_X7_compare : Cond.selects RX7 yX7_compare yX7_compare ∈ xtbl := xt_of 495 (by decide +kernel) (by decide +kernel)
theorem xw_c_X7_compare : Cond.code yX7_compare cX7_compare 4 (some .int) ∈ xtbl := xt_of 496 (by decide +kernel) (by decide +kernel)
theorem xw_m_L_85 : Cond.methodLink RL 85 yX7_forkedPairs ∈ xtbl := xt_of 497 (by decide +kernel) (by decide +kernel)
theorem xw_ins_X7_forkedPairs : Cond.instanceMethod yX7_forkedPairs ∈ xtbl := xt_of 498 (by decide +kernel) (by decide +kernel)
theorem xw_sel_X7_forkedPairs : Cond.selects RX7 yX7_forkedPairs yX7_forkedPairs ∈ xtbl := xt_of 499 (by decide +kernel) (by decide +kernel)
theorem xw_c_X7_forkedPairs : Cond.code yX7_forkedPairs cX7_forkedPairs 4 (some .int) ∈ xtbl := xt_of 500 (by decide +kernel) (by decide +kernel)
theorem xw_m_L_89 : Cond.methodLink RL 89 yX7_tellingLetter ∈ xtbl := xt_of 501 (by decide +kernel) (by decide +kernel)
theorem xw_ins_X7_tellingLetter : Cond.instanceMethod yX7_tellingLetter ∈ xtbl := xt_of 502 (by decide +kernel) (by decide +kernel)
theorem xw_sel_X7_tellingLetter : Cond.selects RX7 yX7_tellingLetter yX7_tellingLetter ∈ xtbl := xt_of 503 (by decide +kernel) (by decide +kernel)
theorem xw_c_X7_tellingLetter : Cond.code yX7_tellingLetter cX7_tellingLetter 3 (some .int) ∈ xtbl := xt_of 504 (by decide +kernel) (by decide +kernel)
theorem xw_m_L_134 : Cond.methodLink RL 134 yL_errors ∈ xtbl := xt_of 505 (by decide +kernel) (by decide +kernel)
theorem xw_sta_L_errors : Cond.static yL_errors ∈ xtbl := xt_of 506 (by decide +kernel) (by decide +kernel)
set_option maxRecDepth 100000 in
theorem xw_c_L_errors : Cond.code yL_errors cL_errors 4 (some .boolean) ∈ xtbl := xt_of 507 (rfl) (by decide +kernel)
theorem xw_m_L_131 : Cond.methodLink RL 131 yL_scripts ∈ xtbl := xt_of 508 (by decide +kernel) (by decide +kernel)
theorem xw_sta_L_scripts : Cond.static yL_scripts ∈ xtbl := xt_of 509 (by decide +kernel) (by decide +kernel)
set_option maxRecDepth 100000 in
theorem xw_c_L_scripts : Cond.code yL_scripts cL_scripts 6 (some .boolean) ∈ xtbl := xt_of 510 (rfl) (by decide +kernel)
theorem xw_m_L_101 : Cond.methodLink RL 101 yX7_clearText ∈ xtbl := xt_of 511 (by decide +kernel) (by decide +kernel)
theorem xw_ins_X7_clearText : Cond.instanceMethod yX7_clearText ∈ xtbl := xt_of 512 (by decide +kernel) (by decide +kernel)
theorem xw_sel_X7_clearText : Cond.selects RX7 yX7_clearText yX7_clearText ∈ xtbl := xt_of 513 (by decide +kernel) (by decide +kernel)
theorem xw_c_X7_clearText : Cond.code yX7_clearText cX7_clearText 2 (some .int) ∈ xtbl := xt_of 514 (by decide +kernel) (by decide +kernel)
theorem xw_m_L_104 : Cond.methodLink RL 104 yX7_run ∈ xtbl := xt_of 515 (by decide +kernel) (by decide +kernel)
theorem xw_ins_X7_run : Cond.instanceMethod yX7_run ∈ xtbl := xt_of 516 (by decide +kernel) (by decide +kernel)
theorem xw_sel_X7_run : Cond.selects RX7 yX7_run yX7_run ∈ xtbl := xt_of 517 (by decide +kernel) (by decide +kernel)
theorem xw_c_X7_run : Cond.code yX7_run cX7_run 4 (some .int) ∈ xtbl := xt_of 518 (by decide +kernel) (by decide +kernel)
theorem xw_m_X7_227 : Cond.methodLink RX7 227 yX4_fault ∈ xtbl := xt_of 519 (by decide +kernel) (by decide +kernel)
theorem xw_ins_X4_fault : Cond.instanceMethod yX4_fault ∈ xtbl := xt_of 520 (by decide +kernel) (by decide +kernel)
theorem xw_sel_X4_fault : Cond.selects RX4 yX4_fault yX4_fault ∈ xtbl := xt_of 521 (by decide +kernel) (by decide +kernel)
theorem xw_c_X4_fault : Cond.code yX4_fault cX4_fault 3 (some .int) ∈ xtbl := xt_of 522 (by decide +kernel) (by decide +kernel)
theorem xw_m_X4_19 : Cond.methodLink RX4 19 yX4_isLetter ∈ xtbl := xt_of 523 (by decide +kernel) (by decide +kernel)
theorem xw_sta_X4_isLetter : Cond.static yX4_isLetter ∈ xtbl := xt_of 524 (by decide +kernel) (by decide +kernel)
theorem xw_c_X4_isLetter : Cond.code yX4_isLetter cX4_isLetter 1 (some .boolean) ∈ xtbl := xt_of 525 (by decide +kernel) (by decide +kernel)
theorem xw_m_X4_23 : Cond.methodLink RX4 23 yX4_isDigit ∈ xtbl := xt_of 526 (by decide +kernel) (by decide +kernel)
theorem xw_sta_X4_isDigit : Cond.static yX4_isDigit ∈ xtbl := xt_of 527 (by decide +kernel) (by decide +kernel)
theorem xw_c_X4_isDigit : Cond.code yX4_isDigit cX4_isDigit 1 (some .boolean) ∈ xtbl := xt_of 528 (by decide +kernel) (by decide +kernel)
theorem xw_m_X7_233 : Cond.methodLink RX7 233 yX4_digit ∈ xtbl := xt_of 529 (by decide +kernel) (by decide +kernel)
theorem xw_ins_X4_digit : Cond.instanceMethod yX4_digit ∈ xtbl := xt_of 530 (by decide +kernel) (by decide +kernel)
theorem xw_sel_X4_digit : Cond.selects RX4 yX4_digit yX4_digit ∈ xtbl := xt_of 531 (by decide +kernel) (by decide +kernel)
theorem xw_c_X4_digit : Cond.code yX4_digit cX4_digit 2 (some .int) ∈ xtbl := xt_of 532 (by decide +kernel) (by decide +kernel)
theorem xw_m_X7_236 : Cond.methodLink RX7 236 yX7_carryOut ∈ xtbl := xt_of 533 (by decide +kernel) (by decide +kernel)
theorem xw_ins_X7_carryOut : Cond.instanceMethod yX7_carryOut ∈ xtbl := xt_of 535 (by decide +kernel) (by decide +kernel)
theorem xw_c_X7_carryOut : Cond.code yX7_carryOut cX7_carryOut 4 (some .boolean) ∈ xtbl := xt_of 536 (by decide +kernel) (by decide +kernel)
theorem xw_m_X7_258 : Cond.methodLink RX7 258 yX7_write ∈ xtbl := xt_of 537 (by decide +kernel) (by decide +kernel)
theorem xw_m_X7_262 : Cond.methodLink RX7 262 yX7_read ∈ xtbl := xt_of 538 (by decide +kernel) (by decide +kernel)
theorem xw_m_X7_265 : Cond.methodLink RX7 265 yX7_sendLetter ∈ xtbl := xt_of 539 (by decide +kernel) (by decide +kernel)
theorem xw_m_X7_268 : Cond.methodLink RX7 268 yX7_readLetters ∈ xtbl := xt_of 540 (by decide +kernel) (by decide +kernel)
theorem xw_ins_X7_readLetters : Cond.instanceMethod yX7_readLetters ∈ xtbl := xt_of 542 (by decide +kernel) (by decide +kernel)
theorem xw_c_X7_readLetters : Cond.code yX7_readLetters cX7_readLetters 4 (some .boolean) ∈ xtbl := xt_of 543 (by decide +kernel) (by decide +kernel)
theorem xw_m_X7_274 : Cond.methodLink RX7 274 yX7_readLetter ∈ xtbl := xt_of 544 (by decide +kernel) (by decide +kernel)
theorem xw_m_X7_271 : Cond.methodLink RX7 271 yX7_attach ∈ xtbl := xt_of 545 (by decide +kernel) (by decide +kernel)
theorem xw_m_L_107 : Cond.methodLink RL 107 yX7_type ∈ xtbl := xt_of 546 (by decide +kernel) (by decide +kernel)
theorem xw_ins_X7_type : Cond.instanceMethod yX7_type ∈ xtbl := xt_of 547 (by decide +kernel) (by decide +kernel)
theorem xw_sel_X7_type : Cond.selects RX7 yX7_type yX7_type ∈ xtbl := xt_of 548 (by decide +kernel) (by decide +kernel)
theorem xw_c_X7_type : Cond.code yX7_type cX7_type 2 (some .int) ∈ xtbl := xt_of 549 (by decide +kernel) (by decide +kernel)
theorem xw_m_X7_223 : Cond.methodLink RX7 223 yX4_append ∈ xtbl := xt_of 550 (by decide +kernel) (by decide +kernel)
theorem xw_ins_X4_append : Cond.instanceMethod yX4_append ∈ xtbl := xt_of 551 (by decide +kernel) (by decide +kernel)
theorem xw_sel_X4_append : Cond.selects RX4 yX4_append yX4_append ∈ xtbl := xt_of 552 (by decide +kernel) (by decide +kernel)
theorem xw_c_X4_append : Cond.code yX4_append cX4_append 2 none ∈ xtbl := xt_of 553 (by decide +kernel) (by decide +kernel)
theorem xd_X0_init : yX0_init.cls ≠ "java/lang/invoke/MethodHandle" ∧ yX0_init.cls ≠ "java/lang/invoke/VarHandle" ∧ (parseMethodDescriptor yX0_init.desc).map (fun d => d.parameters.length) = some 0 := ⟨by decide +kernel, by decide +kernel, by decide +kernel⟩
theorem xd_X0_put : yX0_put.cls ≠ "java/lang/invoke/MethodHandle" ∧ yX0_put.cls ≠ "java/lang/invoke/VarHandle" ∧ (parseMethodDescriptor yX0_put.desc).map (fun d => d.parameters.length) = some 1 := ⟨by decide +kernel, by decide +kernel, by decide +kernel⟩
theorem xd_X0_dropFirst : yX0_dropFirst.cls ≠ "java/lang/invoke/MethodHandle" ∧ yX0_dropFirst.cls ≠ "java/lang/invoke/VarHandle" ∧ (parseMethodDescriptor yX0_dropFirst.desc).map (fun d => d.parameters.length) = some 0 := ⟨by decide +kernel, by decide +kernel, by decide +kernel⟩
theorem xd_X1_init : yX1_init.cls ≠ "java/lang/invoke/MethodHandle" ∧ yX1_init.cls ≠ "java/lang/invoke/VarHandle" ∧ (parseMethodDescriptor yX1_init.desc).map (fun d => d.parameters.length) = some 0 := ⟨by decide +kernel, by decide +kernel, by decide +kernel⟩
theorem xd_X1_clear : yX1_clear.cls ≠ "java/lang/invoke/MethodHandle" ∧ yX1_clear.cls ≠ "java/lang/invoke/VarHandle" ∧ (parseMethodDescriptor yX1_clear.desc).map (fun d => d.parameters.length) = some 0 := ⟨by decide +kernel, by decide +kernel, by decide +kernel⟩
theorem xd_X1_copyFrom : yX1_copyFrom.cls ≠ "java/lang/invoke/MethodHandle" ∧ yX1_copyFrom.cls ≠ "java/lang/invoke/VarHandle" ∧ (parseMethodDescriptor yX1_copyFrom.desc).map (fun d => d.parameters.length) = some 1 := ⟨by decide +kernel, by decide +kernel, by decide +kernel⟩
theorem xd_X1_replaceByLater : yX1_replaceByLater.cls ≠ "java/lang/invoke/MethodHandle" ∧ yX1_replaceByLater.cls ≠ "java/lang/invoke/VarHandle" ∧ (parseMethodDescriptor yX1_replaceByLater.desc).map (fun d => d.parameters.length) = some 1 := ⟨by decide +kernel, by decide +kernel, by decide +kernel⟩
theorem xd_X1_areForked : yX1_areForked.cls ≠ "java/lang/invoke/MethodHandle" ∧ yX1_areForked.cls ≠ "java/lang/invoke/VarHandle" ∧ (parseMethodDescriptor yX1_areForked.desc).map (fun d => d.parameters.length) = some 0 := ⟨by decide +kernel, by decide +kernel, by decide +kernel⟩
theorem xd_X1_greatest : yX1_greatest.cls ≠ "java/lang/invoke/MethodHandle" ∧ yX1_greatest.cls ≠ "java/lang/invoke/VarHandle" ∧ (parseMethodDescriptor yX1_greatest.desc).map (fun d => d.parameters.length) = some 0 := ⟨by decide +kernel, by decide +kernel, by decide +kernel⟩
theorem xd_X1_prove : yX1_prove.cls ≠ "java/lang/invoke/MethodHandle" ∧ yX1_prove.cls ≠ "java/lang/invoke/VarHandle" ∧ (parseMethodDescriptor yX1_prove.desc).map (fun d => d.parameters.length) = some 1 := ⟨by decide +kernel, by decide +kernel, by decide +kernel⟩
theorem xd_X2_init : yX2_init.cls ≠ "java/lang/invoke/MethodHandle" ∧ yX2_init.cls ≠ "java/lang/invoke/VarHandle" ∧ (parseMethodDescriptor yX2_init.desc).map (fun d => d.parameters.length) = some 0 := ⟨by decide +kernel, by decide +kernel, by decide +kernel⟩
theorem xd_X2_clear : yX2_clear.cls ≠ "java/lang/invoke/MethodHandle" ∧ yX2_clear.cls ≠ "java/lang/invoke/VarHandle" ∧ (parseMethodDescriptor yX2_clear.desc).map (fun d => d.parameters.length) = some 0 := ⟨by decide +kernel, by decide +kernel, by decide +kernel⟩
theorem xd_X2_hear : yX2_hear.cls ≠ "java/lang/invoke/MethodHandle" ∧ yX2_hear.cls ≠ "java/lang/invoke/VarHandle" ∧ (parseMethodDescriptor yX2_hear.desc).map (fun d => d.parameters.length) = some 1 := ⟨by decide +kernel, by decide +kernel, by decide +kernel⟩
theorem xd_X2_raise : yX2_raise.cls ≠ "java/lang/invoke/MethodHandle" ∧ yX2_raise.cls ≠ "java/lang/invoke/VarHandle" ∧ (parseMethodDescriptor yX2_raise.desc).map (fun d => d.parameters.length) = some 1 := ⟨by decide +kernel, by decide +kernel, by decide +kernel⟩
theorem xd_X2_sign : yX2_sign.cls ≠ "java/lang/invoke/MethodHandle" ∧ yX2_sign.cls ≠ "java/lang/invoke/VarHandle" ∧ (parseMethodDescriptor yX2_sign.desc).map (fun d => d.parameters.length) = some 2 := ⟨by decide +kernel, by decide +kernel, by decide +kernel⟩
theorem xd_X2_proveLack : yX2_proveLack.cls ≠ "java/lang/invoke/MethodHandle" ∧ yX2_proveLack.cls ≠ "java/lang/invoke/VarHandle" ∧ (parseMethodDescriptor yX2_proveLack.desc).map (fun d => d.parameters.length) = some 1 := ⟨by decide +kernel, by decide +kernel, by decide +kernel⟩
theorem xd_X2_learn : yX2_learn.cls ≠ "java/lang/invoke/MethodHandle" ∧ yX2_learn.cls ≠ "java/lang/invoke/VarHandle" ∧ (parseMethodDescriptor yX2_learn.desc).map (fun d => d.parameters.length) = some 1 := ⟨by decide +kernel, by decide +kernel, by decide +kernel⟩
theorem xd_X3_init : yX3_init.cls ≠ "java/lang/invoke/MethodHandle" ∧ yX3_init.cls ≠ "java/lang/invoke/VarHandle" ∧ (parseMethodDescriptor yX3_init.desc).map (fun d => d.parameters.length) = some 0 := ⟨by decide +kernel, by decide +kernel, by decide +kernel⟩
theorem xd_X3_clear : yX3_clear.cls ≠ "java/lang/invoke/MethodHandle" ∧ yX3_clear.cls ≠ "java/lang/invoke/VarHandle" ∧ (parseMethodDescriptor yX3_clear.desc).map (fun d => d.parameters.length) = some 0 := ⟨by decide +kernel, by decide +kernel, by decide +kernel⟩
theorem xd_X3_keepFirst : yX3_keepFirst.cls ≠ "java/lang/invoke/MethodHandle" ∧ yX3_keepFirst.cls ≠ "java/lang/invoke/VarHandle" ∧ (parseMethodDescriptor yX3_keepFirst.desc).map (fun d => d.parameters.length) = some 3 := ⟨by decide +kernel, by decide +kernel, by decide +kernel⟩
theorem xd_X4_init : yX4_init.cls ≠ "java/lang/invoke/MethodHandle" ∧ yX4_init.cls ≠ "java/lang/invoke/VarHandle" ∧ (parseMethodDescriptor yX4_init.desc).map (fun d => d.parameters.length) = some 0 := ⟨by decide +kernel, by decide +kernel, by decide +kernel⟩
theorem xd_X4_append : yX4_append.cls ≠ "java/lang/invoke/MethodHandle" ∧ yX4_append.cls ≠ "java/lang/invoke/VarHandle" ∧ (parseMethodDescriptor yX4_append.desc).map (fun d => d.parameters.length) = some 1 := ⟨by decide +kernel, by decide +kernel, by decide +kernel⟩
theorem xd_X4_digit : yX4_digit.cls ≠ "java/lang/invoke/MethodHandle" ∧ yX4_digit.cls ≠ "java/lang/invoke/VarHandle" ∧ (parseMethodDescriptor yX4_digit.desc).map (fun d => d.parameters.length) = some 1 := ⟨by decide +kernel, by decide +kernel, by decide +kernel⟩
theorem xd_X4_fault : yX4_fault.cls ≠ "java/lang/invoke/MethodHandle" ∧ yX4_fault.cls ≠ "java/lang/invoke/VarHandle" ∧ (parseMethodDescriptor yX4_fault.desc).map (fun d => d.parameters.length) = some 0 := ⟨by decide +kernel, by decide +kernel, by decide +kernel⟩
theorem xd_X4_isLetter : yX4_isLetter.cls ≠ "java/lang/invoke/MethodHandle" ∧ yX4_isLetter.cls ≠ "java/lang/invoke/VarHandle" ∧ (parseMethodDescriptor yX4_isLetter.desc).map (fun d => d.parameters.length) = some 1 := ⟨by decide +kernel, by decide +kernel, by decide +kernel⟩
theorem xd_X4_isDigit : yX4_isDigit.cls ≠ "java/lang/invoke/MethodHandle" ∧ yX4_isDigit.cls ≠ "java/lang/invoke/VarHandle" ∧ (parseMethodDescriptor yX4_isDigit.desc).map (fun d => d.parameters.length) = some 1 := ⟨by decide +kernel, by decide +kernel, by decide +kernel⟩
theorem xd_X5_init : yX5_init.cls ≠ "java/lang/invoke/MethodHandle" ∧ yX5_init.cls ≠ "java/lang/invoke/VarHandle" ∧ (parseMethodDescriptor yX5_init.desc).map (fun d => d.parameters.length) = some 0 := ⟨by decide +kernel, by decide +kernel, by decide +kernel⟩
theorem xd_X5_clear : yX5_clear.cls ≠ "java/lang/invoke/MethodHandle" ∧ yX5_clear.cls ≠ "java/lang/invoke/VarHandle" ∧ (parseMethodDescriptor yX5_clear.desc).map (fun d => d.parameters.length) = some 0 := ⟨by decide +kernel, by decide +kernel, by decide +kernel⟩
theorem xd_X5_copyFrom : yX5_copyFrom.cls ≠ "java/lang/invoke/MethodHandle" ∧ yX5_copyFrom.cls ≠ "java/lang/invoke/VarHandle" ∧ (parseMethodDescriptor yX5_copyFrom.desc).map (fun d => d.parameters.length) = some 1 := ⟨by decide +kernel, by decide +kernel, by decide +kernel⟩
theorem xd_X5_isAtMost : yX5_isAtMost.cls ≠ "java/lang/invoke/MethodHandle" ∧ yX5_isAtMost.cls ≠ "java/lang/invoke/VarHandle" ∧ (parseMethodDescriptor yX5_isAtMost.desc).map (fun d => d.parameters.length) = some 1 := ⟨by decide +kernel, by decide +kernel, by decide +kernel⟩
theorem xd_X5_relationTo : yX5_relationTo.cls ≠ "java/lang/invoke/MethodHandle" ∧ yX5_relationTo.cls ≠ "java/lang/invoke/VarHandle" ∧ (parseMethodDescriptor yX5_relationTo.desc).map (fun d => d.parameters.length) = some 1 := ⟨by decide +kernel, by decide +kernel, by decide +kernel⟩
theorem xd_X5_sum : yX5_sum.cls ≠ "java/lang/invoke/MethodHandle" ∧ yX5_sum.cls ≠ "java/lang/invoke/VarHandle" ∧ (parseMethodDescriptor yX5_sum.desc).map (fun d => d.parameters.length) = some 0 := ⟨by decide +kernel, by decide +kernel, by decide +kernel⟩
theorem xd_X6_init : yX6_init.cls ≠ "java/lang/invoke/MethodHandle" ∧ yX6_init.cls ≠ "java/lang/invoke/VarHandle" ∧ (parseMethodDescriptor yX6_init.desc).map (fun d => d.parameters.length) = some 0 := ⟨by decide +kernel, by decide +kernel, by decide +kernel⟩
theorem xd_X6_clear : yX6_clear.cls ≠ "java/lang/invoke/MethodHandle" ∧ yX6_clear.cls ≠ "java/lang/invoke/VarHandle" ∧ (parseMethodDescriptor yX6_clear.desc).map (fun d => d.parameters.length) = some 0 := ⟨by decide +kernel, by decide +kernel, by decide +kernel⟩
theorem xd_X6_forget : yX6_forget.cls ≠ "java/lang/invoke/MethodHandle" ∧ yX6_forget.cls ≠ "java/lang/invoke/VarHandle" ∧ (parseMethodDescriptor yX6_forget.desc).map (fun d => d.parameters.length) = some 0 := ⟨by decide +kernel, by decide +kernel, by decide +kernel⟩
theorem xd_X6_copyFrom : yX6_copyFrom.cls ≠ "java/lang/invoke/MethodHandle" ∧ yX6_copyFrom.cls ≠ "java/lang/invoke/VarHandle" ∧ (parseMethodDescriptor yX6_copyFrom.desc).map (fun d => d.parameters.length) = some 1 := ⟨by decide +kernel, by decide +kernel, by decide +kernel⟩
theorem xd_X6_remember : yX6_remember.cls ≠ "java/lang/invoke/MethodHandle" ∧ yX6_remember.cls ≠ "java/lang/invoke/VarHandle" ∧ (parseMethodDescriptor yX6_remember.desc).map (fun d => d.parameters.length) = some 0 := ⟨by decide +kernel, by decide +kernel, by decide +kernel⟩
theorem xd_X6_takeBack : yX6_takeBack.cls ≠ "java/lang/invoke/MethodHandle" ∧ yX6_takeBack.cls ≠ "java/lang/invoke/VarHandle" ∧ (parseMethodDescriptor yX6_takeBack.desc).map (fun d => d.parameters.length) = some 1 := ⟨by decide +kernel, by decide +kernel, by decide +kernel⟩
theorem xd_X7_init : yX7_init.cls ≠ "java/lang/invoke/MethodHandle" ∧ yX7_init.cls ≠ "java/lang/invoke/VarHandle" ∧ (parseMethodDescriptor yX7_init.desc).map (fun d => d.parameters.length) = some 0 := ⟨by decide +kernel, by decide +kernel, by decide +kernel⟩
theorem xd_X7_reset : yX7_reset.cls ≠ "java/lang/invoke/MethodHandle" ∧ yX7_reset.cls ≠ "java/lang/invoke/VarHandle" ∧ (parseMethodDescriptor yX7_reset.desc).map (fun d => d.parameters.length) = some 1 := ⟨by decide +kernel, by decide +kernel, by decide +kernel⟩
theorem xd_X7_write : yX7_write.cls ≠ "java/lang/invoke/MethodHandle" ∧ yX7_write.cls ≠ "java/lang/invoke/VarHandle" ∧ (parseMethodDescriptor yX7_write.desc).map (fun d => d.parameters.length) = some 2 := ⟨by decide +kernel, by decide +kernel, by decide +kernel⟩
theorem xd_X7_read : yX7_read.cls ≠ "java/lang/invoke/MethodHandle" ∧ yX7_read.cls ≠ "java/lang/invoke/VarHandle" ∧ (parseMethodDescriptor yX7_read.desc).map (fun d => d.parameters.length) = some 2 := ⟨by decide +kernel, by decide +kernel, by decide +kernel⟩
theorem xd_X7_lastRead : yX7_lastRead.cls ≠ "java/lang/invoke/MethodHandle" ∧ yX7_lastRead.cls ≠ "java/lang/invoke/VarHandle" ∧ (parseMethodDescriptor yX7_lastRead.desc).map (fun d => d.parameters.length) = some 1 := ⟨by decide +kernel, by decide +kernel, by decide +kernel⟩
theorem xd_X7_check : yX7_check.cls ≠ "java/lang/invoke/MethodHandle" ∧ yX7_check.cls ≠ "java/lang/invoke/VarHandle" ∧ (parseMethodDescriptor yX7_check.desc).map (fun d => d.parameters.length) = some 1 := ⟨by decide +kernel, by decide +kernel, by decide +kernel⟩
theorem xd_X7_fork : yX7_fork.cls ≠ "java/lang/invoke/MethodHandle" ∧ yX7_fork.cls ≠ "java/lang/invoke/VarHandle" ∧ (parseMethodDescriptor yX7_fork.desc).map (fun d => d.parameters.length) = some 2 := ⟨by decide +kernel, by decide +kernel, by decide +kernel⟩
theorem xd_X7_attach : yX7_attach.cls ≠ "java/lang/invoke/MethodHandle" ∧ yX7_attach.cls ≠ "java/lang/invoke/VarHandle" ∧ (parseMethodDescriptor yX7_attach.desc).map (fun d => d.parameters.length) = some 2 := ⟨by decide +kernel, by decide +kernel, by decide +kernel⟩
theorem xd_X7_rollBack : yX7_rollBack.cls ≠ "java/lang/invoke/MethodHandle" ∧ yX7_rollBack.cls ≠ "java/lang/invoke/VarHandle" ∧ (parseMethodDescriptor yX7_rollBack.desc).map (fun d => d.parameters.length) = some 2 := ⟨by decide +kernel, by decide +kernel, by decide +kernel⟩
theorem xd_X7_mix : yX7_mix.cls ≠ "java/lang/invoke/MethodHandle" ∧ yX7_mix.cls ≠ "java/lang/invoke/VarHandle" ∧ (parseMethodDescriptor yX7_mix.desc).map (fun d => d.parameters.length) = some 2 := ⟨by decide +kernel, by decide +kernel, by decide +kernel⟩
theorem xd_X7_sendLetter : yX7_sendLetter.cls ≠ "java/lang/invoke/MethodHandle" ∧ yX7_sendLetter.cls ≠ "java/lang/invoke/VarHandle" ∧ (parseMethodDescriptor yX7_sendLetter.desc).map (fun d => d.parameters.length) = some 2 := ⟨by decide +kernel, by decide +kernel, by decide +kernel⟩
theorem xd_X7_readLetter : yX7_readLetter.cls ≠ "java/lang/invoke/MethodHandle" ∧ yX7_readLetter.cls ≠ "java/lang/invoke/VarHandle" ∧ (parseMethodDescriptor yX7_readLetter.desc).map (fun d => d.parameters.length) = some 1 := ⟨by decide +kernel, by decide +kernel, by decide +kernel⟩
theorem xd_X7_loseLetter : yX7_loseLetter.cls ≠ "java/lang/invoke/MethodHandle" ∧ yX7_loseLetter.cls ≠ "java/lang/invoke/VarHandle" ∧ (parseMethodDescriptor yX7_loseLetter.desc).map (fun d => d.parameters.length) = some 1 := ⟨by decide +kernel, by decide +kernel, by decide +kernel⟩
theorem xd_X7_passProof : yX7_passProof.cls ≠ "java/lang/invoke/MethodHandle" ∧ yX7_passProof.cls ≠ "java/lang/invoke/VarHandle" ∧ (parseMethodDescriptor yX7_passProof.desc).map (fun d => d.parameters.length) = some 2 := ⟨by decide +kernel, by decide +kernel, by decide +kernel⟩
theorem xd_X7_count : yX7_count.cls ≠ "java/lang/invoke/MethodHandle" ∧ yX7_count.cls ≠ "java/lang/invoke/VarHandle" ∧ (parseMethodDescriptor yX7_count.desc).map (fun d => d.parameters.length) = some 1 := ⟨by decide +kernel, by decide +kernel, by decide +kernel⟩
theorem xd_X7_user : yX7_user.cls ≠ "java/lang/invoke/MethodHandle" ∧ yX7_user.cls ≠ "java/lang/invoke/VarHandle" ∧ (parseMethodDescriptor yX7_user.desc).map (fun d => d.parameters.length) = some 2 := ⟨by decide +kernel, by decide +kernel, by decide +kernel⟩
theorem xd_X7_vector : yX7_vector.cls ≠ "java/lang/invoke/MethodHandle" ∧ yX7_vector.cls ≠ "java/lang/invoke/VarHandle" ∧ (parseMethodDescriptor yX7_vector.desc).map (fun d => d.parameters.length) = some 3 := ⟨by decide +kernel, by decide +kernel, by decide +kernel⟩
theorem xd_X7_entry : yX7_entry.cls ≠ "java/lang/invoke/MethodHandle" ∧ yX7_entry.cls ≠ "java/lang/invoke/VarHandle" ∧ (parseMethodDescriptor yX7_entry.desc).map (fun d => d.parameters.length) = some 3 := ⟨by decide +kernel, by decide +kernel, by decide +kernel⟩
theorem xd_X7_content : yX7_content.cls ≠ "java/lang/invoke/MethodHandle" ∧ yX7_content.cls ≠ "java/lang/invoke/VarHandle" ∧ (parseMethodDescriptor yX7_content.desc).map (fun d => d.parameters.length) = some 2 := ⟨by decide +kernel, by decide +kernel, by decide +kernel⟩
theorem xd_X7_view : yX7_view.cls ≠ "java/lang/invoke/MethodHandle" ∧ yX7_view.cls ≠ "java/lang/invoke/VarHandle" ∧ (parseMethodDescriptor yX7_view.desc).map (fun d => d.parameters.length) = some 2 := ⟨by decide +kernel, by decide +kernel, by decide +kernel⟩
theorem xd_X7_compare : yX7_compare.cls ≠ "java/lang/invoke/MethodHandle" ∧ yX7_compare.cls ≠ "java/lang/invoke/VarHandle" ∧ (parseMethodDescriptor yX7_compare.desc).map (fun d => d.parameters.length) = some 3 := ⟨by decide +kernel, by decide +kernel, by decide +kernel⟩
theorem xd_X7_forkedPairs : yX7_forkedPairs.cls ≠ "java/lang/invoke/MethodHandle" ∧ yX7_forkedPairs.cls ≠ "java/lang/invoke/VarHandle" ∧ (parseMethodDescriptor yX7_forkedPairs.desc).map (fun d => d.parameters.length) = some 0 := ⟨by decide +kernel, by decide +kernel, by decide +kernel⟩
theorem xd_X7_tellingLetter : yX7_tellingLetter.cls ≠ "java/lang/invoke/MethodHandle" ∧ yX7_tellingLetter.cls ≠ "java/lang/invoke/VarHandle" ∧ (parseMethodDescriptor yX7_tellingLetter.desc).map (fun d => d.parameters.length) = some 0 := ⟨by decide +kernel, by decide +kernel, by decide +kernel⟩
theorem xd_X7_unaware : yX7_unaware.cls ≠ "java/lang/invoke/MethodHandle" ∧ yX7_unaware.cls ≠ "java/lang/invoke/VarHandle" ∧ (parseMethodDescriptor yX7_unaware.desc).map (fun d => d.parameters.length) = some 0 := ⟨by decide +kernel, by decide +kernel, by decide +kernel⟩
theorem xd_X7_type : yX7_type.cls ≠ "java/lang/invoke/MethodHandle" ∧ yX7_type.cls ≠ "java/lang/invoke/VarHandle" ∧ (parseMethodDescriptor yX7_type.desc).map (fun d => d.parameters.length) = some 1 := ⟨by decide +kernel, by decide +kernel, by decide +kernel⟩
theorem xd_X7_clearText : yX7_clearText.cls ≠ "java/lang/invoke/MethodHandle" ∧ yX7_clearText.cls ≠ "java/lang/invoke/VarHandle" ∧ (parseMethodDescriptor yX7_clearText.desc).map (fun d => d.parameters.length) = some 0 := ⟨by decide +kernel, by decide +kernel, by decide +kernel⟩
theorem xd_X7_run : yX7_run.cls ≠ "java/lang/invoke/MethodHandle" ∧ yX7_run.cls ≠ "java/lang/invoke/VarHandle" ∧ (parseMethodDescriptor yX7_run.desc).map (fun d => d.parameters.length) = some 0 := ⟨by decide +kernel, by decide +kernel, by decide +kernel⟩
theorem xd_X7_isUser : yX7_isUser.cls ≠ "java/lang/invoke/MethodHandle" ∧ yX7_isUser.cls ≠ "java/lang/invoke/VarHandle" ∧ (parseMethodDescriptor yX7_isUser.desc).map (fun d => d.parameters.length) = some 1 := ⟨by decide +kernel, by decide +kernel, by decide +kernel⟩
theorem xd_X7_isView : yX7_isView.cls ≠ "java/lang/invoke/MethodHandle" ∧ yX7_isView.cls ≠ "java/lang/invoke/VarHandle" ∧ (parseMethodDescriptor yX7_isView.desc).map (fun d => d.parameters.length) = some 1 := ⟨by decide +kernel, by decide +kernel, by decide +kernel⟩
theorem xd_X7_contains : yX7_contains.cls ≠ "java/lang/invoke/MethodHandle" ∧ yX7_contains.cls ≠ "java/lang/invoke/VarHandle" ∧ (parseMethodDescriptor yX7_contains.desc).map (fun d => d.parameters.length) = some 2 := ⟨by decide +kernel, by decide +kernel, by decide +kernel⟩
theorem xd_X7_oneIf : yX7_oneIf.cls ≠ "java/lang/invoke/MethodHandle" ∧ yX7_oneIf.cls ≠ "java/lang/invoke/VarHandle" ∧ (parseMethodDescriptor yX7_oneIf.desc).map (fun d => d.parameters.length) = some 1 := ⟨by decide +kernel, by decide +kernel, by decide +kernel⟩
theorem xd_X7_entriesShownTo : yX7_entriesShownTo.cls ≠ "java/lang/invoke/MethodHandle" ∧ yX7_entriesShownTo.cls ≠ "java/lang/invoke/VarHandle" ∧ (parseMethodDescriptor yX7_entriesShownTo.desc).map (fun d => d.parameters.length) = some 1 := ⟨by decide +kernel, by decide +kernel, by decide +kernel⟩
theorem xd_X7_usersAttachedTo : yX7_usersAttachedTo.cls ≠ "java/lang/invoke/MethodHandle" ∧ yX7_usersAttachedTo.cls ≠ "java/lang/invoke/VarHandle" ∧ (parseMethodDescriptor yX7_usersAttachedTo.desc).map (fun d => d.parameters.length) = some 1 := ⟨by decide +kernel, by decide +kernel, by decide +kernel⟩
theorem xd_X7_alarmAhead : yX7_alarmAhead.cls ≠ "java/lang/invoke/MethodHandle" ∧ yX7_alarmAhead.cls ≠ "java/lang/invoke/VarHandle" ∧ (parseMethodDescriptor yX7_alarmAhead.desc).map (fun d => d.parameters.length) = some 1 := ⟨by decide +kernel, by decide +kernel, by decide +kernel⟩
theorem xd_X7_operate : yX7_operate.cls ≠ "java/lang/invoke/MethodHandle" ∧ yX7_operate.cls ≠ "java/lang/invoke/VarHandle" ∧ (parseMethodDescriptor yX7_operate.desc).map (fun d => d.parameters.length) = some 1 := ⟨by decide +kernel, by decide +kernel, by decide +kernel⟩
theorem xd_X7_usersWithAlarm : yX7_usersWithAlarm.cls ≠ "java/lang/invoke/MethodHandle" ∧ yX7_usersWithAlarm.cls ≠ "java/lang/invoke/VarHandle" ∧ (parseMethodDescriptor yX7_usersWithAlarm.desc).map (fun d => d.parameters.length) = some 0 := ⟨by decide +kernel, by decide +kernel, by decide +kernel⟩
theorem xd_X7_usersWithProof : yX7_usersWithProof.cls ≠ "java/lang/invoke/MethodHandle" ∧ yX7_usersWithProof.cls ≠ "java/lang/invoke/VarHandle" ∧ (parseMethodDescriptor yX7_usersWithProof.desc).map (fun d => d.parameters.length) = some 0 := ⟨by decide +kernel, by decide +kernel, by decide +kernel⟩
theorem xd_X7_operationsOfAll : yX7_operationsOfAll.cls ≠ "java/lang/invoke/MethodHandle" ∧ yX7_operationsOfAll.cls ≠ "java/lang/invoke/VarHandle" ∧ (parseMethodDescriptor yX7_operationsOfAll.desc).map (fun d => d.parameters.length) = some 0 := ⟨by decide +kernel, by decide +kernel, by decide +kernel⟩
theorem xd_X7_lettersInBoxes : yX7_lettersInBoxes.cls ≠ "java/lang/invoke/MethodHandle" ∧ yX7_lettersInBoxes.cls ≠ "java/lang/invoke/VarHandle" ∧ (parseMethodDescriptor yX7_lettersInBoxes.desc).map (fun d => d.parameters.length) = some 0 := ⟨by decide +kernel, by decide +kernel, by decide +kernel⟩
theorem xd_X7_knowForkedVectors : yX7_knowForkedVectors.cls ≠ "java/lang/invoke/MethodHandle" ∧ yX7_knowForkedVectors.cls ≠ "java/lang/invoke/VarHandle" ∧ (parseMethodDescriptor yX7_knowForkedVectors.desc).map (fun d => d.parameters.length) = some 2 := ⟨by decide +kernel, by decide +kernel, by decide +kernel⟩
theorem xd_X7_isUnaware : yX7_isUnaware.cls ≠ "java/lang/invoke/MethodHandle" ∧ yX7_isUnaware.cls ≠ "java/lang/invoke/VarHandle" ∧ (parseMethodDescriptor yX7_isUnaware.desc).map (fun d => d.parameters.length) = some 1 := ⟨by decide +kernel, by decide +kernel, by decide +kernel⟩
theorem xd_X7_carryOut : yX7_carryOut.cls ≠ "java/lang/invoke/MethodHandle" ∧ yX7_carryOut.cls ≠ "java/lang/invoke/VarHandle" ∧ (parseMethodDescriptor yX7_carryOut.desc).map (fun d => d.parameters.length) = some 3 := ⟨by decide +kernel, by decide +kernel, by decide +kernel⟩
theorem xd_X7_readLetters : yX7_readLetters.cls ≠ "java/lang/invoke/MethodHandle" ∧ yX7_readLetters.cls ≠ "java/lang/invoke/VarHandle" ∧ (parseMethodDescriptor yX7_readLetters.desc).map (fun d => d.parameters.length) = some 2 := ⟨by decide +kernel, by decide +kernel, by decide +kernel⟩
theorem xd_L_cell : yL_cell.cls ≠ "java/lang/invoke/MethodHandle" ∧ yL_cell.cls ≠ "java/lang/invoke/VarHandle" ∧ (parseMethodDescriptor yL_cell.desc).map (fun d => d.parameters.length) = some 2 := ⟨by decide +kernel, by decide +kernel, by decide +kernel⟩
theorem xd_L_low : yL_low.cls ≠ "java/lang/invoke/MethodHandle" ∧ yL_low.cls ≠ "java/lang/invoke/VarHandle" ∧ (parseMethodDescriptor yL_low.desc).map (fun d => d.parameters.length) = some 2 := ⟨by decide +kernel, by decide +kernel, by decide +kernel⟩
theorem xd_L_read : yL_read.cls ≠ "java/lang/invoke/MethodHandle" ∧ yL_read.cls ≠ "java/lang/invoke/VarHandle" ∧ (parseMethodDescriptor yL_read.desc).map (fun d => d.parameters.length) = some 5 := ⟨by decide +kernel, by decide +kernel, by decide +kernel⟩
theorem xd_L_most : yL_most.cls ≠ "java/lang/invoke/MethodHandle" ∧ yL_most.cls ≠ "java/lang/invoke/VarHandle" ∧ (parseMethodDescriptor yL_most.desc).map (fun d => d.parameters.length) = some 3 := ⟨by decide +kernel, by decide +kernel, by decide +kernel⟩
theorem xd_L_alarm : yL_alarm.cls ≠ "java/lang/invoke/MethodHandle" ∧ yL_alarm.cls ≠ "java/lang/invoke/VarHandle" ∧ (parseMethodDescriptor yL_alarm.desc).map (fun d => d.parameters.length) = some 4 := ⟨by decide +kernel, by decide +kernel, by decide +kernel⟩
theorem xd_L_operates : yL_operates.cls ≠ "java/lang/invoke/MethodHandle" ∧ yL_operates.cls ≠ "java/lang/invoke/VarHandle" ∧ (parseMethodDescriptor yL_operates.desc).map (fun d => d.parameters.length) = some 4 := ⟨by decide +kernel, by decide +kernel, by decide +kernel⟩
theorem xd_L_letters : yL_letters.cls ≠ "java/lang/invoke/MethodHandle" ∧ yL_letters.cls ≠ "java/lang/invoke/VarHandle" ∧ (parseMethodDescriptor yL_letters.desc).map (fun d => d.parameters.length) = some 5 := ⟨by decide +kernel, by decide +kernel, by decide +kernel⟩
theorem xd_L_stores : yL_stores.cls ≠ "java/lang/invoke/MethodHandle" ∧ yL_stores.cls ≠ "java/lang/invoke/VarHandle" ∧ (parseMethodDescriptor yL_stores.desc).map (fun d => d.parameters.length) = some 4 := ⟨by decide +kernel, by decide +kernel, by decide +kernel⟩
theorem xd_L_same : yL_same.cls ≠ "java/lang/invoke/MethodHandle" ∧ yL_same.cls ≠ "java/lang/invoke/VarHandle" ∧ (parseMethodDescriptor yL_same.desc).map (fun d => d.parameters.length) = some 2 := ⟨by decide +kernel, by decide +kernel, by decide +kernel⟩
theorem xd_L_errors : yL_errors.cls ≠ "java/lang/invoke/MethodHandle" ∧ yL_errors.cls ≠ "java/lang/invoke/VarHandle" ∧ (parseMethodDescriptor yL_errors.desc).map (fun d => d.parameters.length) = some 2 := ⟨by decide +kernel, by decide +kernel, by decide +kernel⟩
theorem xd_L_scripts : yL_scripts.cls ≠ "java/lang/invoke/MethodHandle" ∧ yL_scripts.cls ≠ "java/lang/invoke/VarHandle" ∧ (parseMethodDescriptor yL_scripts.desc).map (fun d => d.parameters.length) = some 2 := ⟨by decide +kernel, by decide +kernel, by decide +kernel⟩
theorem xd_L_law : yL_law.cls ≠ "java/lang/invoke/MethodHandle" ∧ yL_law.cls ≠ "java/lang/invoke/VarHandle" ∧ (parseMethodDescriptor yL_law.desc).map (fun d => d.parameters.length) = some 1 := ⟨by decide +kernel, by decide +kernel, by decide +kernel⟩
theorem xw_lay_X0 : ∀ w ∈ u_ws RX0 TX0 2, w ∈ xtbl := fun w h => by
  have hp : u_ws RX0 TX0 2 = ([108, 110] : List Nat).filterMap (fun i => lw_tbl[i]?) := by decide +kernel
  have hg : (u_ws RX0 TX0 2).all goodWord = true := by decide +kernel
  have h1 := List.all_eq_true.mp hg w h
  rw [hp] at h
  obtain ⟨i, -, hi⟩ := List.mem_filterMap.mp h
  exact xt_of i hi h1
theorem xw_lay_X1 : ∀ w ∈ u_ws RX1 TX1 2, w ∈ xtbl := fun w h => by
  have hp : u_ws RX1 TX1 2 = ([176, 178] : List Nat).filterMap (fun i => lw_tbl[i]?) := by decide +kernel
  have hg : (u_ws RX1 TX1 2).all goodWord = true := by decide +kernel
  have h1 := List.all_eq_true.mp hg w h
  rw [hp] at h
  obtain ⟨i, -, hi⟩ := List.mem_filterMap.mp h
  exact xt_of i hi h1
theorem xw_lay_X2 : ∀ w ∈ u_ws RX2 TX2 11, w ∈ xtbl := fun w h => by
  have hp : u_ws RX2 TX2 11 = ([135, 137, 139, 141, 143, 145, 147, 149, 151, 153, 155] : List Nat).filterMap (fun i => lw_tbl[i]?) := by decide +kernel
  have hg : (u_ws RX2 TX2 11).all goodWord = true := by decide +kernel
  have h1 := List.all_eq_true.mp hg w h
  rw [hp] at h
  obtain ⟨i, -, hi⟩ := List.mem_filterMap.mp h
  exact xt_of i hi h1
theorem xw_lay_X3 : ∀ w ∈ u_ws RX3 TX3 4, w ∈ xtbl := fun w h => by
  have hp : u_ws RX3 TX3 4 = ([85, 87, 89, 91] : List Nat).filterMap (fun i => lw_tbl[i]?) := by decide +kernel
  have hg : (u_ws RX3 TX3 4).all goodWord = true := by decide +kernel
  have h1 := List.all_eq_true.mp hg w h
  rw [hp] at h
  obtain ⟨i, -, hi⟩ := List.mem_filterMap.mp h
  exact xt_of i hi h1
theorem xw_lay_X4 : ∀ w ∈ u_ws RX4 TX4 2, w ∈ xtbl := fun w h => by
  have hp : u_ws RX4 TX4 2 = ([45, 47] : List Nat).filterMap (fun i => lw_tbl[i]?) := by decide +kernel
  have hg : (u_ws RX4 TX4 2).all goodWord = true := by decide +kernel
  have h1 := List.all_eq_true.mp hg w h
  rw [hp] at h
  obtain ⟨i, -, hi⟩ := List.mem_filterMap.mp h
  exact xt_of i hi h1
theorem xw_lay_X5 : ∀ w ∈ u_ws RX5 TX5 1, w ∈ xtbl := fun w h => by
  have hp : u_ws RX5 TX5 1 = ([66] : List Nat).filterMap (fun i => lw_tbl[i]?) := by decide +kernel
  have hg : (u_ws RX5 TX5 1).all goodWord = true := by decide +kernel
  have h1 := List.all_eq_true.mp hg w h
  rw [hp] at h
  obtain ⟨i, -, hi⟩ := List.mem_filterMap.mp h
  exact xt_of i hi h1
theorem xw_lay_X6 : ∀ w ∈ u_ws RX6 TX6 4, w ∈ xtbl := fun w h => by
  have hp : u_ws RX6 TX6 4 = ([188, 190, 192, 194] : List Nat).filterMap (fun i => lw_tbl[i]?) := by decide +kernel
  have hg : (u_ws RX6 TX6 4).all goodWord = true := by decide +kernel
  have h1 := List.all_eq_true.mp hg w h
  rw [hp] at h
  obtain ⟨i, -, hi⟩ := List.mem_filterMap.mp h
  exact xt_of i hi h1
theorem xw_lay_X7 : ∀ w ∈ u_ws RX7 TX7 5, w ∈ xtbl := fun w h => by
  have hp : u_ws RX7 TX7 5 = ([202, 204, 206, 208, 210] : List Nat).filterMap (fun i => lw_tbl[i]?) := by decide +kernel
  have hg : (u_ws RX7 TX7 5).all goodWord = true := by decide +kernel
  have h1 := List.all_eq_true.mp hg w h
  rw [hp] at h
  obtain ⟨i, -, hi⟩ := List.mem_filterMap.mp h
  exact xt_of i hi h1
/-- what a state says of the nest mates and of the arrays of references -/
def xNest (U : State) : Prop := va_Nw (.methodLinkNest RX7 23 yX4_init RX7) U ∧ va_Nw (.methodLinkNest RX7 35 yX2_init RX7) U ∧ va_Nw (.methodLinkNest RX2 11 yX5_init RX7) U ∧ va_Nw (.methodLinkNest RX2 23 yX3_init RX7) U ∧ va_Nw (.methodLinkNest RX3 9 yX5_init RX7) U ∧ va_Nw (.methodLinkNest RX0 17 yX5_init RX7) U ∧ va_Nw (.methodLinkNest RX1 21 yX5_init RX7) U ∧ va_AO RX2 U ∧ va_AO RX6 U ∧ va_AO RX5 U ∧ va_AO RX1 U
theorem xNest.warm {s U : State} (hW : s.WarmedH U.vm) (h : xNest s) : xNest U := by
  obtain ⟨h0, h1, h2, h3, h4, h5, h6, h7, h8, h9, h10⟩ := h
  exact ⟨va_Nw.warmM hW h0, va_Nw.warmM hW h1, va_Nw.warmM hW h2, va_Nw.warmM hW h3, va_Nw.warmM hW h4, va_Nw.warmM hW h5, va_Nw.warmM hW h6, h7.moved hW.alike, h8.moved hW.alike, h9.moved hW.alike, h10.moved hW.alike⟩
theorem xNest.same {s U : State} (hW : s.vm = U.vm) (h : xNest s) : xNest U := by
  have ha : s.vm.Alike U.vm := by rw [hW]; exact Vm.Alike.refl _
  obtain ⟨h0, h1, h2, h3, h4, h5, h6, h7, h8, h9, h10⟩ := h
  exact ⟨h0.same rfl hW, h1.same rfl hW, h2.same rfl hW, h3.same rfl hW, h4.same rfl hW, h5.same rfl hW, h6.same rfl hW, h7.moved ha, h8.moved ha, h9.moved ha, h10.moved ha⟩
theorem xNest.start {s : State} {A : Array Value} (h : ∀ w ∈ lw_tbl, w.before A s = true) : xNest s := ⟨.of rfl (h _ xn_X7_23), .of rfl (h _ xn_X7_35), .of rfl (h _ xn_X2_11), .of rfl (h _ xn_X2_23), .of rfl (h _ xn_X3_9), .of rfl (h _ xn_X0_17), .of rfl (h _ xn_X1_21), .of (h _ xw_ao_X2), .of (h _ xw_ao_X6), .of (h _ xw_ao_X5), .of (h _ xw_ao_X1)⟩
theorem xNest.X7_23 {s : State} (h : xNest s) : va_Nw (.methodLinkNest RX7 23 yX4_init RX7) s := h.1
theorem xNest.X7_35 {s : State} (h : xNest s) : va_Nw (.methodLinkNest RX7 35 yX2_init RX7) s := h.2.1
theorem xNest.X2_11 {s : State} (h : xNest s) : va_Nw (.methodLinkNest RX2 11 yX5_init RX7) s := h.2.2.1
theorem xNest.X2_23 {s : State} (h : xNest s) : va_Nw (.methodLinkNest RX2 23 yX3_init RX7) s := h.2.2.2.1
theorem xNest.X3_9 {s : State} (h : xNest s) : va_Nw (.methodLinkNest RX3 9 yX5_init RX7) s := h.2.2.2.2.1
theorem xNest.X0_17 {s : State} (h : xNest s) : va_Nw (.methodLinkNest RX0 17 yX5_init RX7) s := h.2.2.2.2.2.1
theorem xNest.X1_21 {s : State} (h : xNest s) : va_Nw (.methodLinkNest RX1 21 yX5_init RX7) s := h.2.2.2.2.2.2.1
theorem xNest.ao_X2 {s : State} (h : xNest s) : va_AO RX2 s := h.2.2.2.2.2.2.2.1
theorem xNest.ao_X6 {s : State} (h : xNest s) : va_AO RX6 s := h.2.2.2.2.2.2.2.2.1
theorem xNest.ao_X5 {s : State} (h : xNest s) : va_AO RX5 s := h.2.2.2.2.2.2.2.2.2.1
theorem xNest.ao_X1 {s : State} (h : xNest s) : va_AO RX1 s := h.2.2.2.2.2.2.2.2.2.2
