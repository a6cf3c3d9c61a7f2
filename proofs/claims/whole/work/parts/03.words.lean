def xtbl : List Cond := lw_tbl.filter goodWord
theorem xt_of {w : Cond} (i : Nat) (h : lw_tbl[i]? = some w) (g : goodWord w = true) : w ∈ xtbl := List.mem_filter.mpr ⟨List.mem_of_getElem? h, g⟩
theorem xt_good : GoodIn xtbl xtbl := fun w h => ⟨h, good_of_word (List.mem_filter.mp h).2⟩
theorem xw_sel_X7_isUser : Cond.selects RX7 yX7_isUser yX7_isUser ∈ xtbl := xt_of 0 (by decide +kernel) (by decide +kernel)
theorem xw_sel_X7_operate : Cond.selects RX7 yX7_operate yX7_operate ∈ xtbl := xt_of 1 (by decide +kernel) (by decide +kernel)
theorem xw_sel_X7_alarmAhead : Cond.selects RX7 yX7_alarmAhead yX7_alarmAhead ∈ xtbl := xt_of 2 (by decide +kernel) (by decide +kernel)
theorem xw_sel_X7_entriesShownTo : Cond.selects RX7 yX7_entriesShownTo yX7_entriesShownTo ∈ xtbl := xt_of 3 (by decide +kernel) (by decide +kernel)
theorem xw_sel_X7_isView : Cond.selects RX7 yX7_isView yX7_isView ∈ xtbl := xt_of 4 (by decide +kernel) (by decide +kernel)
theorem xw_sel_X7_usersAttachedTo : Cond.selects RX7 yX7_usersAttachedTo yX7_usersAttachedTo ∈ xtbl := xt_of 5 (by decide +kernel) (by decide +kernel)
theorem xw_sel_X7_usersWithAlarm : Cond.selects RX7 yX7_usersWithAlarm yX7_usersWithAlarm ∈ xtbl := xt_of 6 (by decide +kernel) (by decide +kernel)
theorem xw_sel_X7_usersWithProof : Cond.selects RX7 yX7_usersWithProof yX7_usersWithProof ∈ xtbl := xt_of 7 (by decide +kernel) (by decide +kernel)
theorem xw_sel_X7_operationsOfAll : Cond.selects RX7 yX7_operationsOfAll yX7_operationsOfAll ∈ xtbl := xt_of 8 (by decide +kernel) (by decide +kernel)
theorem xw_sel_X7_lettersInBoxes : Cond.selects RX7 yX7_lettersInBoxes yX7_lettersInBoxes ∈ xtbl := xt_of 9 (by decide +kernel) (by decide +kernel)
theorem xw_sel_X7_knowForkedVectors : Cond.selects RX7 yX7_knowForkedVectors yX7_knowForkedVectors ∈ xtbl := xt_of 10 (by decide +kernel) (by decide +kernel)
theorem xw_sel_X7_isUnaware : Cond.selects RX7 yX7_isUnaware yX7_isUnaware ∈ xtbl := xt_of 11 (by decide +kernel) (by decide +kernel)
theorem xw_sel_X7_carryOut : Cond.selects RX7 yX7_carryOut yX7_carryOut ∈ xtbl := xt_of 12 (by decide +kernel) (by decide +kernel)
theorem xw_sel_X7_readLetters : Cond.selects RX7 yX7_readLetters yX7_readLetters ∈ xtbl := xt_of 13 (by decide +kernel) (by decide +kernel)
theorem xw_sel_X8_begin : Cond.selects RX8 yX8_begin yX8_begin ∈ xtbl := xt_of 14 (by decide +kernel) (by decide +kernel)
theorem xw_sel_X8_noUser : Cond.selects RX8 yX8_noUser yX8_noUser ∈ xtbl := xt_of 15 (by decide +kernel) (by decide +kernel)
theorem xw_sel_X8_operate : Cond.selects RX8 yX8_operate yX8_operate ∈ xtbl := xt_of 16 (by decide +kernel) (by decide +kernel)
theorem xw_sel_X8_alarmFor : Cond.selects RX8 yX8_alarmFor yX8_alarmFor ∈ xtbl := xt_of 17 (by decide +kernel) (by decide +kernel)
theorem xw_sel_X8_atMost : Cond.selects RX8 yX8_atMost yX8_atMost ∈ xtbl := xt_of 18 (by decide +kernel) (by decide +kernel)
theorem xw_sel_X8_greatest : Cond.selects RX8 yX8_greatest yX8_greatest ∈ xtbl := xt_of 19 (by decide +kernel) (by decide +kernel)
theorem xw_sel_X8_areApart : Cond.selects RX8 yX8_areApart yX8_areApart ∈ xtbl := xt_of 20 (by decide +kernel) (by decide +kernel)
theorem xw_sel_X8_raises : Cond.selects RX8 yX8_raises yX8_raises ∈ xtbl := xt_of 21 (by decide +kernel) (by decide +kernel)
theorem xw_sel_X8_proves : Cond.selects RX8 yX8_proves yX8_proves ∈ xtbl := xt_of 22 (by decide +kernel) (by decide +kernel)
theorem xw_sel_X8_copy : Cond.selects RX8 yX8_copy yX8_copy ∈ xtbl := xt_of 23 (by decide +kernel) (by decide +kernel)
theorem xw_sel_X8_remember : Cond.selects RX8 yX8_remember yX8_remember ∈ xtbl := xt_of 24 (by decide +kernel) (by decide +kernel)
theorem xw_sel_X8_noView : Cond.selects RX8 yX8_noView yX8_noView ∈ xtbl := xt_of 25 (by decide +kernel) (by decide +kernel)
theorem xw_sel_X8_attached : Cond.selects RX8 yX8_attached yX8_attached ∈ xtbl := xt_of 26 (by decide +kernel) (by decide +kernel)
theorem xw_sel_X8_takesLetter : Cond.selects RX8 yX8_takesLetter yX8_takesLetter ∈ xtbl := xt_of 27 (by decide +kernel) (by decide +kernel)
theorem xw_sel_X8_compared : Cond.selects RX8 yX8_compared yX8_compared ∈ xtbl := xt_of 28 (by decide +kernel) (by decide +kernel)
theorem xw_sel_X8_fault : Cond.selects RX8 yX8_fault yX8_fault ∈ xtbl := xt_of 29 (by decide +kernel) (by decide +kernel)
theorem xw_sel_X8_carries : Cond.selects RX8 yX8_carries yX8_carries ∈ xtbl := xt_of 30 (by decide +kernel) (by decide +kernel)
theorem xw_ini_L : Cond.initialized RL ∈ xtbl := xt_of 31 (by decide +kernel) (by decide +kernel)
theorem xw_ini_X7 : Cond.initialized RX7 ∈ xtbl := xt_of 32 (by decide +kernel) (by decide +kernel)
theorem xw_ini_X4 : Cond.initialized RX4 ∈ xtbl := xt_of 33 (by decide +kernel) (by decide +kernel)
theorem xw_ini_X2 : Cond.initialized RX2 ∈ xtbl := xt_of 34 (by decide +kernel) (by decide +kernel)
theorem xw_ini_X5 : Cond.initialized RX5 ∈ xtbl := xt_of 35 (by decide +kernel) (by decide +kernel)
theorem xw_ini_X3 : Cond.initialized RX3 ∈ xtbl := xt_of 36 (by decide +kernel) (by decide +kernel)
theorem xw_ini_X0 : Cond.initialized RX0 ∈ xtbl := xt_of 37 (by decide +kernel) (by decide +kernel)
theorem xw_ini_X6 : Cond.initialized RX6 ∈ xtbl := xt_of 38 (by decide +kernel) (by decide +kernel)
theorem xw_ini_X1 : Cond.initialized RX1 ∈ xtbl := xt_of 39 (by decide +kernel) (by decide +kernel)
theorem xw_ini_X8 : Cond.initialized RX8 ∈ xtbl := xt_of 40 (by decide +kernel) (by decide +kernel)
theorem xw_k_L_7 : Cond.classLink RL 7 RX7 ∈ xtbl := xt_of 41 (by decide +kernel) (by decide +kernel)
theorem xw_new_X7 : Cond.instantiable RX7 5 ∈ xtbl := xt_of 42 (by decide +kernel) (by decide +kernel)
theorem xw_m_L_9 : Cond.methodLink RL 9 yX7_init ∈ xtbl := xt_of 43 (by decide +kernel) (by decide +kernel)
theorem xw_ins_X7_init : Cond.instanceMethod yX7_init ∈ xtbl := xt_of 44 (by decide +kernel) (by decide +kernel)
theorem xw_c_X7_init : Cond.code yX7_init cX7_init 2 none ∈ xtbl := xt_of 45 (by decide +kernel) (by decide +kernel)
theorem xw_m_X7_1 : Cond.methodLink RX7 1 objectInit ∈ xtbl := xt_of 46 (by decide +kernel) (by decide +kernel)
theorem xw_ins_obj : Cond.instanceMethod objectInit ∈ xtbl := xt_of 47 (by decide +kernel) (by decide +kernel)
theorem xw_c_obj : Cond.code objectInit ⟨#[0xb1]⟩ 1 none ∈ xtbl := xt_of 48 (by decide +kernel) (by decide +kernel)
theorem xw_k_X7_9 : Cond.classLink RX7 9 RX2 ∈ xtbl := xt_of 49 (by decide +kernel) (by decide +kernel)
theorem xw_ao_X2 : Cond.arrayOver (.object RX2) ∈ lw_tbl := List.mem_of_getElem? (i := 50) (by decide +kernel)
theorem xw_k_X7_15 : Cond.classLink RX7 15 RX6 ∈ xtbl := xt_of 51 (by decide +kernel) (by decide +kernel)
theorem xw_ao_X6 : Cond.arrayOver (.object RX6) ∈ lw_tbl := List.mem_of_getElem? (i := 52) (by decide +kernel)
theorem xw_k_X7_21 : Cond.classLink RX7 21 RX4 ∈ xtbl := xt_of 53 (by decide +kernel) (by decide +kernel)
theorem xw_new_X4 : Cond.instantiable RX4 2 ∈ xtbl := xt_of 54 (by decide +kernel) (by decide +kernel)
theorem xn_X7_23 : Cond.methodLinkNest RX7 23 yX4_init RX7 ∈ lw_tbl := List.mem_of_getElem? (i := 55) (by decide +kernel)
theorem xw_ins_X4_init : Cond.instanceMethod yX4_init ∈ xtbl := xt_of 56 (by decide +kernel) (by decide +kernel)
theorem xw_c_X4_init : Cond.code yX4_init cX4_init 1 none ∈ xtbl := xt_of 57 (by decide +kernel) (by decide +kernel)
theorem xw_m_X4_3 : Cond.methodLink RX4 3 objectInit ∈ xtbl := xt_of 58 (by decide +kernel) (by decide +kernel)
theorem xw_f_X4_9 : Cond.fieldLink RX4 9 "ForkedStore$Script" "signs" "[I" ∈ xtbl := xt_of 59 (by decide +kernel) (by decide +kernel)
theorem xw_f_X7_230 : Cond.fieldLink RX7 230 "ForkedStore$Script" "signs" "[I" ∈ xtbl := xt_of 60 (by decide +kernel) (by decide +kernel)
theorem xw_f_X4_15 : Cond.fieldLink RX4 15 "ForkedStore$Script" "length" "I" ∈ xtbl := xt_of 61 (by decide +kernel) (by decide +kernel)
theorem xw_f_X7_220 : Cond.fieldLink RX7 220 "ForkedStore$Script" "length" "I" ∈ xtbl := xt_of 62 (by decide +kernel) (by decide +kernel)
theorem xw_ac_int : Cond.arrayClass .int ∈ xtbl := xt_of 68 (by decide +kernel) (by decide +kernel)
theorem xw_new_X2 : Cond.instantiable RX2 11 ∈ xtbl := xt_of 69 (by decide +kernel) (by decide +kernel)
theorem xn_X7_35 : Cond.methodLinkNest RX7 35 yX2_init RX7 ∈ lw_tbl := List.mem_of_getElem? (i := 70) (by decide +kernel)
theorem xw_ins_X2_init : Cond.instanceMethod yX2_init ∈ xtbl := xt_of 71 (by decide +kernel) (by decide +kernel)
theorem xw_c_X2_init : Cond.code yX2_init cX2_init 1 none ∈ xtbl := xt_of 72 (by decide +kernel) (by decide +kernel)
theorem xw_m_X2_3 : Cond.methodLink RX2 3 objectInit ∈ xtbl := xt_of 73 (by decide +kernel) (by decide +kernel)
theorem xw_k_X2_9 : Cond.classLink RX2 9 RX5 ∈ xtbl := xt_of 74 (by decide +kernel) (by decide +kernel)
theorem xw_new_X5 : Cond.instantiable RX5 1 ∈ xtbl := xt_of 75 (by decide +kernel) (by decide +kernel)
theorem xn_X2_11 : Cond.methodLinkNest RX2 11 yX5_init RX7 ∈ lw_tbl := List.mem_of_getElem? (i := 76) (by decide +kernel)
theorem xw_ins_X5_init : Cond.instanceMethod yX5_init ∈ xtbl := xt_of 77 (by decide +kernel) (by decide +kernel)
theorem xw_c_X5_init : Cond.code yX5_init cX5_init 1 none ∈ xtbl := xt_of 78 (by decide +kernel) (by decide +kernel)
theorem xw_m_X5_3 : Cond.methodLink RX5 3 objectInit ∈ xtbl := xt_of 79 (by decide +kernel) (by decide +kernel)
theorem xw_f_X5_9 : Cond.fieldLink RX5 9 "ForkedStore$VersionVector" "numbers" "[I" ∈ xtbl := xt_of 80 (by decide +kernel) (by decide +kernel)
theorem xw_f_X1_29 : Cond.fieldLink RX1 29 "ForkedStore$VersionVector" "numbers" "[I" ∈ xtbl := xt_of 81 (by decide +kernel) (by decide +kernel)
theorem xw_f_X2_75 : Cond.fieldLink RX2 75 "ForkedStore$VersionVector" "numbers" "[I" ∈ xtbl := xt_of 82 (by decide +kernel) (by decide +kernel)
theorem xw_f_X7_192 : Cond.fieldLink RX7 192 "ForkedStore$VersionVector" "numbers" "[I" ∈ xtbl := xt_of 83 (by decide +kernel) (by decide +kernel)
theorem xw_k_X2_21 : Cond.classLink RX2 21 RX3 ∈ xtbl := xt_of 87 (by decide +kernel) (by decide +kernel)
theorem xw_new_X3 : Cond.instantiable RX3 4 ∈ xtbl := xt_of 88 (by decide +kernel) (by decide +kernel)
theorem xn_X2_23 : Cond.methodLinkNest RX2 23 yX3_init RX7 ∈ lw_tbl := List.mem_of_getElem? (i := 89) (by decide +kernel)
theorem xw_ins_X3_init : Cond.instanceMethod yX3_init ∈ xtbl := xt_of 90 (by decide +kernel) (by decide +kernel)
theorem xw_c_X3_init : Cond.code yX3_init cX3_init 1 none ∈ xtbl := xt_of 91 (by decide +kernel) (by decide +kernel)
theorem xw_m_X3_1 : Cond.methodLink RX3 1 objectInit ∈ xtbl := xt_of 92 (by decide +kernel) (by decide +kernel)
theorem xw_k_X3_7 : Cond.classLink RX3 7 RX5 ∈ xtbl := xt_of 93 (by decide +kernel) (by decide +kernel)
theorem xn_X3_9 : Cond.methodLinkNest RX3 9 yX5_init RX7 ∈ lw_tbl := List.mem_of_getElem? (i := 94) (by decide +kernel)
theorem xw_f_X3_10 : Cond.fieldLink RX3 10 "ForkedStore$Proof" "first" "LForkedStore$VersionVector;" ∈ xtbl := xt_of 95 (by decide +kernel) (by decide +kernel)
theorem xw_f_X7_150 : Cond.fieldLink RX7 150 "ForkedStore$Proof" "first" "LForkedStore$VersionVector;" ∈ xtbl := xt_of 96 (by decide +kernel) (by decide +kernel)
theorem xw_f_X3_16 : Cond.fieldLink RX3 16 "ForkedStore$Proof" "second" "LForkedStore$VersionVector;" ∈ xtbl := xt_of 97 (by decide +kernel) (by decide +kernel)
theorem xw_f_X7_153 : Cond.fieldLink RX7 153 "ForkedStore$Proof" "second" "LForkedStore$VersionVector;" ∈ xtbl := xt_of 98 (by decide +kernel) (by decide +kernel)
theorem xw_f_X3_19 : Cond.fieldLink RX3 19 "ForkedStore$Proof" "isHeld" "Z" ∈ xtbl := xt_of 99 (by decide +kernel) (by decide +kernel)
theorem xw_f_X7_145 : Cond.fieldLink RX7 145 "ForkedStore$Proof" "isHeld" "Z" ∈ xtbl := xt_of 100 (by decide +kernel) (by decide +kernel)
theorem xw_f_X3_27 : Cond.fieldLink RX3 27 "ForkedStore$Proof" "depth" "I" ∈ xtbl := xt_of 101 (by decide +kernel) (by decide +kernel)
theorem xw_f_X7_156 : Cond.fieldLink RX7 156 "ForkedStore$Proof" "depth" "I" ∈ xtbl := xt_of 102 (by decide +kernel) (by decide +kernel)
theorem xw_k_X2_28 : Cond.classLink RX2 28 RX0 ∈ xtbl := xt_of 112 (by decide +kernel) (by decide +kernel)
theorem xw_new_X0 : Cond.instantiable RX0 2 ∈ xtbl := xt_of 113 (by decide +kernel) (by decide +kernel)
theorem xw_m_X2_30 : Cond.methodLink RX2 30 yX0_init ∈ xtbl := xt_of 114 (by decide +kernel) (by decide +kernel)
theorem xw_ins_X0_init : Cond.instanceMethod yX0_init ∈ xtbl := xt_of 115 (by decide +kernel) (by decide +kernel)
theorem xw_c_X0_init : Cond.code yX0_init cX0_init 2 none ∈ xtbl := xt_of 116 (by decide +kernel) (by decide +kernel)
theorem xw_m_X0_3 : Cond.methodLink RX0 3 objectInit ∈ xtbl := xt_of 117 (by decide +kernel) (by decide +kernel)
theorem xw_k_X0_9 : Cond.classLink RX0 9 RX5 ∈ xtbl := xt_of 118 (by decide +kernel) (by decide +kernel)
theorem xw_ao_X5 : Cond.arrayOver (.object RX5) ∈ lw_tbl := List.mem_of_getElem? (i := 119) (by decide +kernel)
theorem xn_X0_17 : Cond.methodLinkNest RX0 17 yX5_init RX7 ∈ lw_tbl := List.mem_of_getElem? (i := 120) (by decide +kernel)
theorem xw_f_X0_11 : Cond.fieldLink RX0 11 "ForkedStore$Box" "letters" "[LForkedStore$VersionVector;" ∈ xtbl := xt_of 121 (by decide +kernel) (by decide +kernel)
theorem xw_f_X7_130 : Cond.fieldLink RX7 130 "ForkedStore$Box" "letters" "[LForkedStore$VersionVector;" ∈ xtbl := xt_of 122 (by decide +kernel) (by decide +kernel)
theorem xw_f_X0_18 : Cond.fieldLink RX0 18 "ForkedStore$Box" "size" "I" ∈ xtbl := xt_of 123 (by decide +kernel) (by decide +kernel)
theorem xw_f_X2_39 : Cond.fieldLink RX2 39 "ForkedStore$Box" "size" "I" ∈ xtbl := xt_of 124 (by decide +kernel) (by decide +kernel)
theorem xw_f_X7_114 : Cond.fieldLink RX7 114 "ForkedStore$Box" "size" "I" ∈ xtbl := xt_of 125 (by decide +kernel) (by decide +kernel)
theorem xw_f_X2_12 : Cond.fieldLink RX2 12 "ForkedStore$Member" "signed" "LForkedStore$VersionVector;" ∈ xtbl := xt_of 131 (by decide +kernel) (by decide +kernel)
theorem xw_f_X7_189 : Cond.fieldLink RX7 189 "ForkedStore$Member" "signed" "LForkedStore$VersionVector;" ∈ xtbl := xt_of 132 (by decide +kernel) (by decide +kernel)
theorem xw_f_X2_18 : Cond.fieldLink RX2 18 "ForkedStore$Member" "known" "LForkedStore$VersionVector;" ∈ xtbl := xt_of 133 (by decide +kernel) (by decide +kernel)
theorem xw_f_X7_119 : Cond.fieldLink RX7 119 "ForkedStore$Member" "known" "LForkedStore$VersionVector;" ∈ xtbl := xt_of 134 (by decide +kernel) (by decide +kernel)
theorem xw_f_X2_24 : Cond.fieldLink RX2 24 "ForkedStore$Member" "proof" "LForkedStore$Proof;" ∈ xtbl := xt_of 135 (by decide +kernel) (by decide +kernel)
theorem xw_f_X7_141 : Cond.fieldLink RX7 141 "ForkedStore$Member" "proof" "LForkedStore$Proof;" ∈ xtbl := xt_of 136 (by decide +kernel) (by decide +kernel)
theorem xw_f_X2_31 : Cond.fieldLink RX2 31 "ForkedStore$Member" "box" "LForkedStore$Box;" ∈ xtbl := xt_of 137 (by decide +kernel) (by decide +kernel)
theorem xw_f_X7_110 : Cond.fieldLink RX7 110 "ForkedStore$Member" "box" "LForkedStore$Box;" ∈ xtbl := xt_of 138 (by decide +kernel) (by decide +kernel)
theorem xw_f_X2_43 : Cond.fieldLink RX2 43 "ForkedStore$Member" "view" "I" ∈ xtbl := xt_of 139 (by decide +kernel) (by decide +kernel)
theorem xw_f_X7_90 : Cond.fieldLink RX7 90 "ForkedStore$Member" "view" "I" ∈ xtbl := xt_of 140 (by decide +kernel) (by decide +kernel)
theorem xw_f_X2_46 : Cond.fieldLink RX2 46 "ForkedStore$Member" "alarm" "I" ∈ xtbl := xt_of 141 (by decide +kernel) (by decide +kernel)
theorem xw_f_X7_45 : Cond.fieldLink RX7 45 "ForkedStore$Member" "alarm" "I" ∈ xtbl := xt_of 142 (by decide +kernel) (by decide +kernel)
theorem xw_f_X2_49 : Cond.fieldLink RX2 49 "ForkedStore$Member" "hasHeard" "Z" ∈ xtbl := xt_of 143 (by decide +kernel) (by decide +kernel)
theorem xw_f_X7_66 : Cond.fieldLink RX7 66 "ForkedStore$Member" "hasHeard" "Z" ∈ xtbl := xt_of 144 (by decide +kernel) (by decide +kernel)
theorem xw_f_X2_62 : Cond.fieldLink RX2 62 "ForkedStore$Member" "heard" "I" ∈ xtbl := xt_of 145 (by decide +kernel) (by decide +kernel)
theorem xw_f_X7_70 : Cond.fieldLink RX7 70 "ForkedStore$Member" "heard" "I" ∈ xtbl := xt_of 146 (by decide +kernel) (by decide +kernel)
theorem xw_f_X2_53 : Cond.fieldLink RX2 53 "ForkedStore$Member" "operations" "I" ∈ xtbl := xt_of 147 (by decide +kernel) (by decide +kernel)
theorem xw_f_X7_183 : Cond.fieldLink RX7 183 "ForkedStore$Member" "operations" "I" ∈ xtbl := xt_of 148 (by decide +kernel) (by decide +kernel)
theorem xw_f_X2_56 : Cond.fieldLink RX2 56 "ForkedStore$Member" "shown" "I" ∈ xtbl := xt_of 149 (by decide +kernel) (by decide +kernel)
theorem xw_f_X7_186 : Cond.fieldLink RX7 186 "ForkedStore$Member" "shown" "I" ∈ xtbl := xt_of 150 (by decide +kernel) (by decide +kernel)
theorem xw_f_X2_59 : Cond.fieldLink RX2 59 "ForkedStore$Member" "sent" "I" ∈ xtbl := xt_of 151 (by decide +kernel) (by decide +kernel)
theorem xw_f_X7_127 : Cond.fieldLink RX7 127 "ForkedStore$Member" "sent" "I" ∈ xtbl := xt_of 152 (by decide +kernel) (by decide +kernel)
theorem xw_new_X6 : Cond.instantiable RX6 4 ∈ xtbl := xt_of 176 (by decide +kernel) (by decide +kernel)
theorem xw_m_X7_36 : Cond.methodLink RX7 36 yX6_init ∈ xtbl := xt_of 177 (by decide +kernel) (by decide +kernel)
theorem xw_ins_X6_init : Cond.instanceMethod yX6_init ∈ xtbl := xt_of 178 (by decide +kernel) (by decide +kernel)
theorem xw_c_X6_init : Cond.code yX6_init cX6_init 2 none ∈ xtbl := xt_of 179 (by decide +kernel) (by decide +kernel)
theorem xw_m_X6_3 : Cond.methodLink RX6 3 objectInit ∈ xtbl := xt_of 180 (by decide +kernel) (by decide +kernel)
theorem xw_k_X6_9 : Cond.classLink RX6 9 RX1 ∈ xtbl := xt_of 181 (by decide +kernel) (by decide +kernel)
theorem xw_new_X1 : Cond.instantiable RX1 2 ∈ xtbl := xt_of 182 (by decide +kernel) (by decide +kernel)
theorem xw_m_X6_11 : Cond.methodLink RX6 11 yX1_init ∈ xtbl := xt_of 183 (by decide +kernel) (by decide +kernel)
theorem xw_ins_X1_init : Cond.instanceMethod yX1_init ∈ xtbl := xt_of 184 (by decide +kernel) (by decide +kernel)
theorem xw_c_X1_init : Cond.code yX1_init cX1_init 2 none ∈ xtbl := xt_of 185 (by decide +kernel) (by decide +kernel)
theorem xw_m_X1_3 : Cond.methodLink RX1 3 objectInit ∈ xtbl := xt_of 186 (by decide +kernel) (by decide +kernel)
theorem xw_k_X1_9 : Cond.classLink RX1 9 RX5 ∈ xtbl := xt_of 187 (by decide +kernel) (by decide +kernel)
theorem xn_X1_21 : Cond.methodLinkNest RX1 21 yX5_init RX7 ∈ lw_tbl := List.mem_of_getElem? (i := 188) (by decide +kernel)
theorem xw_f_X1_11 : Cond.fieldLink RX1 11 "ForkedStore$Entries" "vectors" "[LForkedStore$VersionVector;" ∈ xtbl := xt_of 189 (by decide +kernel) (by decide +kernel)
theorem xw_f_X2_79 : Cond.fieldLink RX2 79 "ForkedStore$Entries" "vectors" "[LForkedStore$VersionVector;" ∈ xtbl := xt_of 190 (by decide +kernel) (by decide +kernel)
theorem xw_f_X7_197 : Cond.fieldLink RX7 197 "ForkedStore$Entries" "vectors" "[LForkedStore$VersionVector;" ∈ xtbl := xt_of 191 (by decide +kernel) (by decide +kernel)
theorem xw_f_X1_17 : Cond.fieldLink RX1 17 "ForkedStore$Entries" "contents" "[I" ∈ xtbl := xt_of 192 (by decide +kernel) (by decide +kernel)
theorem xw_f_X7_56 : Cond.fieldLink RX7 56 "ForkedStore$Entries" "contents" "[I" ∈ xtbl := xt_of 193 (by decide +kernel) (by decide +kernel)
theorem xw_ao_X1 : Cond.arrayOver (.object RX1) ∈ lw_tbl := List.mem_of_getElem? (i := 199) (by decide +kernel)
theorem xw_f_X6_12 : Cond.fieldLink RX6 12 "ForkedStore$View" "entries" "LForkedStore$Entries;" ∈ xtbl := xt_of 200 (by decide +kernel) (by decide +kernel)
theorem xw_f_X7_102 : Cond.fieldLink RX7 102 "ForkedStore$View" "entries" "LForkedStore$Entries;" ∈ xtbl := xt_of 201 (by decide +kernel) (by decide +kernel)
theorem xw_f_X6_18 : Cond.fieldLink RX6 18 "ForkedStore$View" "before" "[LForkedStore$Entries;" ∈ xtbl := xt_of 202 (by decide +kernel) (by decide +kernel)
theorem xw_f_X6_28 : Cond.fieldLink RX6 28 "ForkedStore$View" "remembered" "I" ∈ xtbl := xt_of 203 (by decide +kernel) (by decide +kernel)
theorem xw_f_X7_93 : Cond.fieldLink RX7 93 "ForkedStore$View" "remembered" "I" ∈ xtbl := xt_of 204 (by decide +kernel) (by decide +kernel)
theorem xw_f_X6_32 : Cond.fieldLink RX6 32 "ForkedStore$View" "next" "I" ∈ xtbl := xt_of 205 (by decide +kernel) (by decide +kernel)
theorem xw_f_X7_11 : Cond.fieldLink RX7 11 "ForkedStore" "members" "[LForkedStore$Member;" ∈ xtbl := xt_of 215 (by decide +kernel) (by decide +kernel)
theorem xw_f_X7_17 : Cond.fieldLink RX7 17 "ForkedStore" "views" "[LForkedStore$View;" ∈ xtbl := xt_of 216 (by decide +kernel) (by decide +kernel)
theorem xw_f_X7_24 : Cond.fieldLink RX7 24 "ForkedStore" "script" "LForkedStore$Script;" ∈ xtbl := xt_of 217 (by decide +kernel) (by decide +kernel)
theorem xw_f_X7_28 : Cond.fieldLink RX7 28 "ForkedStore" "users" "I" ∈ xtbl := xt_of 218 (by decide +kernel) (by decide +kernel)
theorem xw_f_X7_32 : Cond.fieldLink RX7 32 "ForkedStore" "viewCount" "I" ∈ xtbl := xt_of 219 (by decide +kernel) (by decide +kernel)
theorem xw_m_L_13 : Cond.methodLink RL 13 yX7_reset ∈ xtbl := xt_of 231 (by decide +kernel) (by decide +kernel)
theorem xw_ins_X7_reset : Cond.instanceMethod yX7_reset ∈ xtbl := xt_of 232 (by decide +kernel) (by decide +kernel)
theorem xw_sel_X7_reset : Cond.selects RX7 yX7_reset yX7_reset ∈ xtbl := xt_of 233 (by decide +kernel) (by decide +kernel)
theorem xw_c_X7_reset : Cond.code yX7_reset cX7_reset 4 (some .int) ∈ xtbl := xt_of 234 (by decide +kernel) (by decide +kernel)
theorem xw_m_X7_37 : Cond.methodLink RX7 37 yX2_clear ∈ xtbl := xt_of 235 (by decide +kernel) (by decide +kernel)
theorem xw_ins_X2_clear : Cond.instanceMethod yX2_clear ∈ xtbl := xt_of 236 (by decide +kernel) (by decide +kernel)
theorem xw_sel_X2_clear : Cond.selects RX2 yX2_clear yX2_clear ∈ xtbl := xt_of 237 (by decide +kernel) (by decide +kernel)
theorem xw_c_X2_clear : Cond.code yX2_clear cX2_clear 1 none ∈ xtbl := xt_of 238 (by decide +kernel) (by decide +kernel)
theorem xw_m_X2_35 : Cond.methodLink RX2 35 yX5_clear ∈ xtbl := xt_of 239 (by decide +kernel) (by decide +kernel)
theorem xw_ins_X5_clear : Cond.instanceMethod yX5_clear ∈ xtbl := xt_of 240 (by decide +kernel) (by decide +kernel)
theorem xw_sel_X5_clear : Cond.selects RX5 yX5_clear yX5_clear ∈ xtbl := xt_of 241 (by decide +kernel) (by decide +kernel)
theorem xw_c_X5_clear : Cond.code yX5_clear cX5_clear 2 none ∈ xtbl := xt_of 242 (by decide +kernel) (by decide +kernel)
theorem xw_m_X2_38 : Cond.methodLink RX2 38 yX3_clear ∈ xtbl := xt_of 243 (by decide +kernel) (by decide +kernel)
theorem xw_ins_X3_clear : Cond.instanceMethod yX3_clear ∈ xtbl := xt_of 244 (by decide +kernel) (by decide +kernel)
theorem xw_sel_X3_clear : Cond.selects RX3 yX3_clear yX3_clear ∈ xtbl := xt_of 245 (by decide +kernel) (by decide +kernel)
theorem xw_c_X3_clear : Cond.code yX3_clear cX3_clear 1 none ∈ xtbl := xt_of 246 (by decide +kernel) (by decide +kernel)
theorem xw_m_X7_40 : Cond.methodLink RX7 40 yX6_clear ∈ xtbl := xt_of 247 (by decide +kernel) (by decide +kernel)
theorem xw_ins_X6_clear : Cond.instanceMethod yX6_clear ∈ xtbl := xt_of 248 (by decide +kernel) (by decide +kernel)
theorem xw_sel_X6_clear : Cond.selects RX6 yX6_clear yX6_clear ∈ xtbl := xt_of 249 (by decide +kernel) (by decide +kernel)
theorem xw_c_X6_clear : Cond.code yX6_clear cX6_clear 1 none ∈ xtbl := xt_of 250 (by decide +kernel) (by decide +kernel)
theorem xw_m_X6_22 : Cond.methodLink RX6 22 yX1_clear ∈ xtbl := xt_of 251 (by decide +kernel) (by decide +kernel)
theorem xw_ins_X1_clear : Cond.instanceMethod yX1_clear ∈ xtbl := xt_of 252 (by decide +kernel) (by decide +kernel)
theorem xw_sel_X1_clear : Cond.selects RX1 yX1_clear yX1_clear ∈ xtbl := xt_of 253 (by decide +kernel) (by decide +kernel)
theorem xw_c_X1_clear : Cond.code yX1_clear cX1_clear 2 none ∈ xtbl := xt_of 254 (by decide +kernel) (by decide +kernel)
theorem xw_m_X1_22 : Cond.methodLink RX1 22 yX5_clear ∈ xtbl := xt_of 255 (by decide +kernel) (by decide +kernel)
theorem xw_m_X6_25 : Cond.methodLink RX6 25 yX6_forget ∈ xtbl := xt_of 256 (by decide +kernel) (by decide +kernel)
theorem xw_ins_X6_forget : Cond.instanceMethod yX6_forget ∈ xtbl := xt_of 257 (by decide +kernel) (by decide +kernel)
theorem xw_sel_X6_forget : Cond.selects RX6 yX6_forget yX6_forget ∈ xtbl := xt_of 258 (by decide +kernel) (by decide +kernel)
theorem xw_c_X6_forget : Cond.code yX6_forget cX6_forget 1 none ∈ xtbl := xt_of 259 (by decide +kernel) (by decide +kernel)
theorem xw_m_L_18 : Cond.methodLink RL 18 yX7_write ∈ xtbl := xt_of 260 (by decide +kernel) (by decide +kernel)
theorem xw_ins_X7_write : Cond.instanceMethod yX7_write ∈ xtbl := xt_of 261 (by decide +kernel) (by decide +kernel)
theorem xw_sel_X7_write : Cond.selects RX7 yX7_write yX7_write ∈ xtbl := xt_of 262 (by decide +kernel) (by decide +kernel)
theorem xw_c_X7_write : Cond.code yX7_write cX7_write 4 (some .int) ∈ xtbl := xt_of 263 (by decide +kernel) (by decide +kernel)
theorem xw_m_X7_41 : Cond.methodLink RX7 41 yX7_isUser ∈ xtbl := xt_of 264 (by decide +kernel) (by decide +kernel)
theorem xw_ins_X7_isUser : Cond.instanceMethod yX7_isUser ∈ xtbl := xt_of 266 (by decide +kernel) (by decide +kernel)
theorem xw_c_X7_isUser : Cond.code yX7_isUser cX7_isUser 2 (some .boolean) ∈ xtbl := xt_of 267 (by decide +kernel) (by decide +kernel)
theorem xw_m_X7_48 : Cond.methodLink RX7 48 yX7_operate ∈ xtbl := xt_of 268 (by decide +kernel) (by decide +kernel)
theorem xw_ins_X7_operate : Cond.instanceMethod yX7_operate ∈ xtbl := xt_of 270 (by decide +kernel) (by decide +kernel)
theorem xw_c_X7_operate : Cond.code yX7_operate cX7_operate 5 (some .int) ∈ xtbl := xt_of 271 (by decide +kernel) (by decide +kernel)
theorem xw_m_X7_73 : Cond.methodLink RX7 73 yX7_alarmAhead ∈ xtbl := xt_of 272 (by decide +kernel) (by decide +kernel)
theorem xw_ins_X7_alarmAhead : Cond.instanceMethod yX7_alarmAhead ∈ xtbl := xt_of 274 (by decide +kernel) (by decide +kernel)
theorem xw_c_X7_alarmAhead : Cond.code yX7_alarmAhead cX7_alarmAhead 4 (some .int) ∈ xtbl := xt_of 275 (by decide +kernel) (by decide +kernel)
theorem xw_m_X7_52 : Cond.methodLink RX7 52 yX7_entriesShownTo ∈ xtbl := xt_of 276 (by decide +kernel) (by decide +kernel)
theorem xw_ins_X7_entriesShownTo : Cond.instanceMethod yX7_entriesShownTo ∈ xtbl := xt_of 278 (by decide +kernel) (by decide +kernel)
theorem xw_c_X7_entriesShownTo : Cond.code yX7_entriesShownTo cX7_entriesShownTo 2 (some (.object "ForkedStore$Entries")) ∈ xtbl := xt_of 279 (by decide +kernel) (by decide +kernel)
theorem xw_m_X7_211 : Cond.methodLink RX7 211 yX5_relationTo ∈ xtbl := xt_of 280 (by decide +kernel) (by decide +kernel)
theorem xw_ins_X5_relationTo : Cond.instanceMethod yX5_relationTo ∈ xtbl := xt_of 281 (by decide +kernel) (by decide +kernel)
theorem xw_sel_X5_relationTo : Cond.selects RX5 yX5_relationTo yX5_relationTo ∈ xtbl := xt_of 282 (by decide +kernel) (by decide +kernel)
theorem xw_c_X5_relationTo : Cond.code yX5_relationTo cX5_relationTo 5 (some .int) ∈ xtbl := xt_of 283 (by decide +kernel) (by decide +kernel)
theorem xw_m_X7_200 : Cond.methodLink RX7 200 yX1_areForked ∈ xtbl := xt_of 284 (by decide +kernel) (by decide +kernel)
theorem xw_ins_X1_areForked : Cond.instanceMethod yX1_areForked ∈ xtbl := xt_of 285 (by decide +kernel) (by decide +kernel)
theorem xw_sel_X1_areForked : Cond.selects RX1 yX1_areForked yX1_areForked ∈ xtbl := xt_of 286 (by decide +kernel) (by decide +kernel)
theorem xw_c_X1_areForked : Cond.code yX1_areForked cX1_areForked 3 (some .boolean) ∈ xtbl := xt_of 287 (by decide +kernel) (by decide +kernel)
theorem xw_m_X1_32 : Cond.methodLink RX1 32 yX5_relationTo ∈ xtbl := xt_of 288 (by decide +kernel) (by decide +kernel)
theorem xw_m_X7_204 : Cond.methodLink RX7 204 yX1_greatest ∈ xtbl := xt_of 289 (by decide +kernel) (by decide +kernel)
theorem xw_ins_X1_greatest : Cond.instanceMethod yX1_greatest ∈ xtbl := xt_of 290 (by decide +kernel) (by decide +kernel)
theorem xw_sel_X1_greatest : Cond.selects RX1 yX1_greatest yX1_greatest ∈ xtbl := xt_of 291 (by decide +kernel) (by decide +kernel)
theorem xw_c_X1_greatest : Cond.code yX1_greatest cX1_greatest 3 (some (.object "ForkedStore$VersionVector")) ∈ xtbl := xt_of 292 (by decide +kernel) (by decide +kernel)
theorem xw_m_X1_36 : Cond.methodLink RX1 36 yX5_isAtMost ∈ xtbl := xt_of 293 (by decide +kernel) (by decide +kernel)
theorem xw_ins_X5_isAtMost : Cond.instanceMethod yX5_isAtMost ∈ xtbl := xt_of 294 (by decide +kernel) (by decide +kernel)
theorem xw_sel_X5_isAtMost : Cond.selects RX5 yX5_isAtMost yX5_isAtMost ∈ xtbl := xt_of 295 (by decide +kernel) (by decide +kernel)
theorem xw_c_X5_isAtMost : Cond.code yX5_isAtMost cX5_isAtMost 3 (some .boolean) ∈ xtbl := xt_of 296 (by decide +kernel) (by decide +kernel)
theorem xw_m_X7_240 : Cond.methodLink RX7 240 yX5_isAtMost ∈ xtbl := xt_of 297 (by decide +kernel) (by decide +kernel)
theorem xw_m_X7_244 : Cond.methodLink RX7 244 yX6_remember ∈ xtbl := xt_of 298 (by decide +kernel) (by decide +kernel)
theorem xw_ins_X6_remember : Cond.instanceMethod yX6_remember ∈ xtbl := xt_of 299 (by decide +kernel) (by decide +kernel)
theorem xw_sel_X6_remember : Cond.selects RX6 yX6_remember yX6_remember ∈ xtbl := xt_of 300 (by decide +kernel) (by decide +kernel)
theorem xw_c_X6_remember : Cond.code yX6_remember cX6_remember 1 none ∈ xtbl := xt_of 301 (by decide +kernel) (by decide +kernel)
theorem xw_m_X6_35 : Cond.methodLink RX6 35 yX1_copyFrom ∈ xtbl := xt_of 302 (by decide +kernel) (by decide +kernel)
theorem xw_ins_X1_copyFrom : Cond.instanceMethod yX1_copyFrom ∈ xtbl := xt_of 303 (by decide +kernel) (by decide +kernel)
theorem xw_sel_X1_copyFrom : Cond.selects RX1 yX1_copyFrom yX1_copyFrom ∈ xtbl := xt_of 304 (by decide +kernel) (by decide +kernel)
theorem xw_c_X1_copyFrom : Cond.code yX1_copyFrom cX1_copyFrom 3 none ∈ xtbl := xt_of 305 (by decide +kernel) (by decide +kernel)
theorem xw_m_X1_25 : Cond.methodLink RX1 25 yX5_copyFrom ∈ xtbl := xt_of 306 (by decide +kernel) (by decide +kernel)
theorem xw_ins_X5_copyFrom : Cond.instanceMethod yX5_copyFrom ∈ xtbl := xt_of 307 (by decide +kernel) (by decide +kernel)
theorem xw_sel_X5_copyFrom : Cond.selects RX5 yX5_copyFrom yX5_copyFrom ∈ xtbl := xt_of 308 (by decide +kernel) (by decide +kernel)
theorem xw_c_X5_copyFrom : Cond.code yX5_copyFrom cX5_copyFrom 3 none ∈ xtbl := xt_of 309 (by decide +kernel) (by decide +kernel)
theorem xw_m_X7_247 : Cond.methodLink RX7 247 yX2_sign ∈ xtbl := xt_of 310 (by decide +kernel) (by decide +kernel)
theorem xw_ins_X2_sign : Cond.instanceMethod yX2_sign ∈ xtbl := xt_of 311 (by decide +kernel) (by decide +kernel)
theorem xw_sel_X2_sign : Cond.selects RX2 yX2_sign yX2_sign ∈ xtbl := xt_of 312 (by decide +kernel) (by decide +kernel)
theorem xw_c_X2_sign : Cond.code yX2_sign cX2_sign 3 none ∈ xtbl := xt_of 313 (by decide +kernel) (by decide +kernel)
theorem xw_m_X2_65 : Cond.methodLink RX2 65 yX1_greatest ∈ xtbl := xt_of 314 (by decide +kernel) (by decide +kernel)
theorem xw_m_X2_71 : Cond.methodLink RX2 71 yX5_copyFrom ∈ xtbl := xt_of 315 (by decide +kernel) (by decide +kernel)
theorem xw_m_X7_163 : Cond.methodLink RX7 163 yX2_raise ∈ xtbl := xt_of 316 (by decide +kernel) (by decide +kernel)
theorem xw_ins_X2_raise : Cond.instanceMethod yX2_raise ∈ xtbl := xt_of 317 (by decide +kernel) (by decide +kernel)
theorem xw_sel_X2_raise : Cond.selects RX2 yX2_raise yX2_raise ∈ xtbl := xt_of 318 (by decide +kernel) (by decide +kernel)
theorem xw_c_X2_raise : Cond.code yX2_raise cX2_raise 2 none ∈ xtbl := xt_of 319 (by decide +kernel) (by decide +kernel)
theorem xw_m_X7_251 : Cond.methodLink RX7 251 yX1_prove ∈ xtbl := xt_of 320 (by decide +kernel) (by decide +kernel)
theorem xw_ins_X1_prove : Cond.instanceMethod yX1_prove ∈ xtbl := xt_of 321 (by decide +kernel) (by decide +kernel)
theorem xw_sel_X1_prove : Cond.selects RX1 yX1_prove yX1_prove ∈ xtbl := xt_of 322 (by decide +kernel) (by decide +kernel)
theorem xw_c_X1_prove : Cond.code yX1_prove cX1_prove 4 none ∈ xtbl := xt_of 323 (by decide +kernel) (by decide +kernel)
theorem xw_m_X1_40 : Cond.methodLink RX1 40 yX3_keepFirst ∈ xtbl := xt_of 324 (by decide +kernel) (by decide +kernel)
theorem xw_ins_X3_keepFirst : Cond.instanceMethod yX3_keepFirst ∈ xtbl := xt_of 325 (by decide +kernel) (by decide +kernel)
theorem xw_sel_X3_keepFirst : Cond.selects RX3 yX3_keepFirst yX3_keepFirst ∈ xtbl := xt_of 326 (by decide +kernel) (by decide +kernel)
theorem xw_c_X3_keepFirst : Cond.code yX3_keepFirst cX3_keepFirst 4 none ∈ xtbl := xt_of 327 (by decide +kernel) (by decide +kernel)
theorem xw_m_X3_23 : Cond.methodLink RX3 23 yX5_copyFrom ∈ xtbl := xt_of 328 (by decide +kernel) (by decide +kernel)
theorem xw_m_X7_255 : Cond.methodLink RX7 255 yX2_proveLack ∈ xtbl := xt_of 329 (by decide +kernel) (by decide +kernel)
theorem xw_ins_X2_proveLack : Cond.instanceMethod yX2_proveLack ∈ xtbl := xt_of 330 (by decide +kernel) (by decide +kernel)
theorem xw_sel_X2_proveLack : Cond.selects RX2 yX2_proveLack yX2_proveLack ∈ xtbl := xt_of 331 (by decide +kernel) (by decide +kernel)
theorem xw_c_X2_proveLack : Cond.code yX2_proveLack cX2_proveLack 2 none ∈ xtbl := xt_of 332 (by decide +kernel) (by decide +kernel)
theorem xw_m_X2_83 : Cond.methodLink RX2 83 yX5_relationTo ∈ xtbl := xt_of 333 (by decide +kernel) (by decide +kernel)
theorem xw_m_X2_87 : Cond.methodLink RX2 87 yX3_keepFirst ∈ xtbl := xt_of 334 (by decide +kernel) (by decide +kernel)
theorem xw_m_L_23 : Cond.methodLink RL 23 yX7_read ∈ xtbl := xt_of 335 (by decide +kernel) (by decide +kernel)
theorem xw_ins_X7_read : Cond.instanceMethod yX7_read ∈ xtbl := xt_of 336 (by decide +kernel) (by decide +kernel)
theorem xw_sel_X7_read : Cond.selects RX7 yX7_read yX7_read ∈ xtbl := xt_of 337 (by decide +kernel) (by decide +kernel)
theorem xw_c_X7_read : Cond.code yX7_read cX7_read 4 (some .int) ∈ xtbl := xt_of 338 (by decide +kernel) (by decide +kernel)
theorem xw_m_X7_62 : Cond.methodLink RX7 62 yX2_hear ∈ xtbl := xt_of 339 (by decide +kernel) (by decide +kernel)
theorem xw_ins_X2_hear : Cond.instanceMethod yX2_hear ∈ xtbl := xt_of 340 (by decide +kernel) (by decide +kernel)
theorem xw_sel_X2_hear : Cond.selects RX2 yX2_hear yX2_hear ∈ xtbl := xt_of 341 (by decide +kernel) (by decide +kernel)
theorem xw_c_X2_hear : Cond.code yX2_hear cX2_hear 2 none ∈ xtbl := xt_of 342 (by decide +kernel) (by decide +kernel)
theorem xw_m_L_27 : Cond.methodLink RL 27 yX7_lastRead ∈ xtbl := xt_of 343 (by decide +kernel) (by decide +kernel)
theorem xw_ins_X7_lastRead : Cond.instanceMethod yX7_lastRead ∈ xtbl := xt_of 344 (by decide +kernel) (by decide +kernel)
theorem xw_sel_X7_lastRead : Cond.selects RX7 yX7_lastRead yX7_lastRead ∈ xtbl := xt_of 345 (by decide +kernel) (by decide +kernel)
theorem xw_c_X7_lastRead : Cond.code yX7_lastRead cX7_lastRead 2 (some .int) ∈ xtbl := xt_of 346 (by decide +kernel) (by decide +kernel)
theorem xw_m_L_31 : Cond.methodLink RL 31 yX7_check ∈ xtbl := xt_of 347 (by decide +kernel) (by decide +kernel)
theorem xw_ins_X7_check : Cond.instanceMethod yX7_check ∈ xtbl := xt_of 348 (by decide +kernel) (by decide +kernel)
theorem xw_sel_X7_check : Cond.selects RX7 yX7_check yX7_check ∈ xtbl := xt_of 349 (by decide +kernel) (by decide +kernel)
theorem xw_c_X7_check : Cond.code yX7_check cX7_check 2 (some .int) ∈ xtbl := xt_of 350 (by decide +kernel) (by decide +kernel)
theorem xw_m_L_35 : Cond.methodLink RL 35 yX7_fork ∈ xtbl := xt_of 351 (by decide +kernel) (by decide +kernel)
theorem xw_ins_X7_fork : Cond.instanceMethod yX7_fork ∈ xtbl := xt_of 352 (by decide +kernel) (by decide +kernel)
theorem xw_sel_X7_fork : Cond.selects RX7 yX7_fork yX7_fork ∈ xtbl := xt_of 353 (by decide +kernel) (by decide +kernel)
theorem xw_c_X7_fork : Cond.code yX7_fork cX7_fork 5 (some .int) ∈ xtbl := xt_of 354 (by decide +kernel) (by decide +kernel)
theorem xw_m_X7_76 : Cond.methodLink RX7 76 yX7_isView ∈ xtbl := xt_of 355 (by decide +kernel) (by decide +kernel)
theorem xw_ins_X7_isView : Cond.instanceMethod yX7_isView ∈ xtbl := xt_of 357 (by decide +kernel) (by decide +kernel)
theorem xw_c_X7_isView : Cond.code yX7_isView cX7_isView 2 (some .boolean) ∈ xtbl := xt_of 358 (by decide +kernel) (by decide +kernel)
theorem xw_m_X7_79 : Cond.methodLink RX7 79 yX7_usersAttachedTo ∈ xtbl := xt_of 359 (by decide +kernel) (by decide +kernel)
theorem xw_ins_X7_usersAttachedTo : Cond.instanceMethod yX7_usersAttachedTo ∈ xtbl := xt_of 361 (by decide +kernel) (by decide +kernel)
theorem xw_c_X7_usersAttachedTo : Cond.code yX7_usersAttachedTo cX7_usersAttachedTo 4 (some .int) ∈ xtbl := xt_of 362 (by decide +kernel) (by decide +kernel)
theorem xw_m_X7_82 : Cond.methodLink RX7 82 yX6_copyFrom ∈ xtbl := xt_of 363 (by decide +kernel) (by decide +kernel)
theorem xw_ins_X6_copyFrom : Cond.instanceMethod yX6_copyFrom ∈ xtbl := xt_of 364 (by decide +kernel) (by decide +kernel)
theorem xw_sel_X6_copyFrom : Cond.selects RX6 yX6_copyFrom yX6_copyFrom ∈ xtbl := xt_of 365 (by decide +kernel) (by decide +kernel)
theorem xw_c_X6_copyFrom : Cond.code yX6_copyFrom cX6_copyFrom 3 none ∈ xtbl := xt_of 366 (by decide +kernel) (by decide +kernel)
theorem xw_m_X7_86 : Cond.methodLink RX7 86 yX7_contains ∈ xtbl := xt_of 367 (by decide +kernel) (by decide +kernel)
theorem xw_sta_X7_contains : Cond.static yX7_contains ∈ xtbl := xt_of 368 (by decide +kernel) (by decide +kernel)
theorem xw_c_X7_contains : Cond.code yX7_contains cX7_contains 2 (some .boolean) ∈ xtbl := xt_of 369 (by decide +kernel) (by decide +kernel)
theorem xw_m_L_39 : Cond.methodLink RL 39 yX7_attach ∈ xtbl := xt_of 370 (by decide +kernel) (by decide +kernel)
theorem xw_ins_X7_attach : Cond.instanceMethod yX7_attach ∈ xtbl := xt_of 371 (by decide +kernel) (by decide +kernel)
theorem xw_sel_X7_attach : Cond.selects RX7 yX7_attach yX7_attach ∈ xtbl := xt_of 372 (by decide +kernel) (by decide +kernel)
theorem xw_c_X7_attach : Cond.code yX7_attach cX7_attach 4 (some .int) ∈ xtbl := xt_of 373 (by decide +kernel) (by decide +kernel)
theorem xw_m_L_43 : Cond.methodLink RL 43 yX7_rollBack ∈ xtbl := xt_of 374 (by decide +kernel) (by decide +kernel)
theorem xw_ins_X7_rollBack : Cond.instanceMethod yX7_rollBack ∈ xtbl := xt_of 375 (by decide +kernel) (by decide +kernel)
theorem xw_sel_X7_rollBack : Cond.selects RX7 yX7_rollBack yX7_rollBack ∈ xtbl := xt_of 376 (by decide +kernel) (by decide +kernel)
theorem xw_c_X7_rollBack : Cond.code yX7_rollBack cX7_rollBack 3 (some .int) ∈ xtbl := xt_of 377 (by decide +kernel) (by decide +kernel)
theorem xw_m_X7_96 : Cond.methodLink RX7 96 yX6_takeBack ∈ xtbl := xt_of 378 (by decide +kernel) (by decide +kernel)
theorem xw_ins_X6_takeBack : Cond.instanceMethod yX6_takeBack ∈ xtbl := xt_of 379 (by decide +kernel) (by decide +kernel)
theorem xw_sel_X6_takeBack : Cond.selects RX6 yX6_takeBack yX6_takeBack ∈ xtbl := xt_of 380 (by decide +kernel) (by decide +kernel)
theorem xw_c_X6_takeBack : Cond.code yX6_takeBack cX6_takeBack 2 none ∈ xtbl := xt_of 381 (by decide +kernel) (by decide +kernel)
theorem xw_m_L_47 : Cond.methodLink RL 47 yX7_mix ∈ xtbl := xt_of 382 (by decide +kernel) (by decide +kernel)
theorem xw_ins_X7_mix : Cond.instanceMethod yX7_mix ∈ xtbl := xt_of 383 (by decide +kernel) (by decide +kernel)
theorem xw_sel_X7_mix : Cond.selects RX7 yX7_mix yX7_mix ∈ xtbl := xt_of 384 (by decide +kernel) (by decide +kernel)
theorem xw_c_X7_mix : Cond.code yX7_mix cX7_mix 4 (some .int) ∈ xtbl := xt_of 385 (by decide +kernel) (by decide +kernel)
theorem xw_m_X7_99 : Cond.methodLink RX7 99 yX6_forget ∈ xtbl := xt_of 386 (by decide +kernel) (by decide +kernel)
theorem xw_m_X7_106 : Cond.methodLink RX7 106 yX1_replaceByLater ∈ xtbl := xt_of 387 (by decide +kernel) (by decide +kernel)
theorem xw_ins_X1_replaceByLater : Cond.instanceMethod yX1_replaceByLater ∈ xtbl := xt_of 388 (by decide +kernel) (by decide +kernel)
theorem xw_sel_X1_replaceByLater : Cond.selects RX1 yX1_replaceByLater yX1_replaceByLater ∈ xtbl := xt_of 389 (by decide +kernel) (by decide +kernel)
theorem xw_c_X1_replaceByLater : Cond.code yX1_replaceByLater cX1_replaceByLater 4 (some .int) ∈ xtbl := xt_of 390 (by decide +kernel) (by decide +kernel)
theorem xw_m_L_51 : Cond.methodLink RL 51 yX7_sendLetter ∈ xtbl := xt_of 391 (by decide +kernel) (by decide +kernel)
theorem xw_ins_X7_sendLetter : Cond.instanceMethod yX7_sendLetter ∈ xtbl := xt_of 392 (by decide +kernel) (by decide +kernel)
theorem xw_sel_X7_sendLetter : Cond.selects RX7 yX7_sendLetter yX7_sendLetter ∈ xtbl := xt_of 393 (by decide +kernel) (by decide +kernel)
theorem xw_c_X7_sendLetter : Cond.code yX7_sendLetter cX7_sendLetter 4 (some .int) ∈ xtbl := xt_of 394 (by decide +kernel) (by decide +kernel)
theorem xw_m_X7_123 : Cond.methodLink RX7 123 yX0_put ∈ xtbl := xt_of 395 (by decide +kernel) (by decide +kernel)
theorem xw_ins_X0_put : Cond.instanceMethod yX0_put ∈ xtbl := xt_of 396 (by decide +kernel) (by decide +kernel)
theorem xw_sel_X0_put : Cond.selects RX0 yX0_put yX0_put ∈ xtbl := xt_of 397 (by decide +kernel) (by decide +kernel)
theorem xw_c_X0_put : Cond.code yX0_put cX0_put 2 none ∈ xtbl := xt_of 398 (by decide +kernel) (by decide +kernel)
theorem xw_m_X0_22 : Cond.methodLink RX0 22 yX5_copyFrom ∈ xtbl := xt_of 399 (by decide +kernel) (by decide +kernel)
theorem xw_m_L_55 : Cond.methodLink RL 55 yX7_readLetter ∈ xtbl := xt_of 400 (by decide +kernel) (by decide +kernel)
theorem xw_ins_X7_readLetter : Cond.instanceMethod yX7_readLetter ∈ xtbl := xt_of 401 (by decide +kernel) (by decide +kernel)
theorem xw_sel_X7_readLetter : Cond.selects RX7 yX7_readLetter yX7_readLetter ∈ xtbl := xt_of 402 (by decide +kernel) (by decide +kernel)
theorem xw_c_X7_readLetter : Cond.code yX7_readLetter cX7_readLetter 4 (some .int) ∈ xtbl := xt_of 403 (by decide +kernel) (by decide +kernel)
theorem xw_m_X7_134 : Cond.methodLink RX7 134 yX2_learn ∈ xtbl := xt_of 404 (by decide +kernel) (by decide +kernel)
theorem xw_ins_X2_learn : Cond.instanceMethod yX2_learn ∈ xtbl := xt_of 405 (by decide +kernel) (by decide +kernel)
theorem xw_sel_X2_learn : Cond.selects RX2 yX2_learn yX2_learn ∈ xtbl := xt_of 406 (by decide +kernel) (by decide +kernel)
theorem xw_c_X2_learn : Cond.code yX2_learn cX2_learn 2 (some .int) ∈ xtbl := xt_of 407 (by decide +kernel) (by decide +kernel)
theorem xw_m_X2_91 : Cond.methodLink RX2 91 yX5_isAtMost ∈ xtbl := xt_of 408 (by decide +kernel) (by decide +kernel)
theorem xw_m_X2_95 : Cond.methodLink RX2 95 yX2_raise ∈ xtbl := xt_of 409 (by decide +kernel) (by decide +kernel)
theorem xw_m_X7_138 : Cond.methodLink RX7 138 yX0_dropFirst ∈ xtbl := xt_of 410 (by decide +kernel) (by decide +kernel)
theorem xw_ins_X0_dropFirst : Cond.instanceMethod yX0_dropFirst ∈ xtbl := xt_of 411 (by decide +kernel) (by decide +kernel)
theorem xw_sel_X0_dropFirst : Cond.selects RX0 yX0_dropFirst yX0_dropFirst ∈ xtbl := xt_of 412 (by decide +kernel) (by decide +kernel)
theorem xw_c_X0_dropFirst : Cond.code yX0_dropFirst cX0_dropFirst 2 none ∈ xtbl := xt_of 413 (by decide +kernel) (by decide +kernel)
theorem xw_m_L_59 : Cond.methodLink RL 59 yX7_loseLetter ∈ xtbl := xt_of 414 (by decide +kernel) (by decide +kernel)
theorem xw_ins_X7_loseLetter : Cond.instanceMethod yX7_loseLetter ∈ xtbl := xt_of 415 (by decide +kernel) (by decide +kernel)
theorem xw_sel_X7_loseLetter : Cond.selects RX7 yX7_loseLetter yX7_loseLetter ∈ xtbl := xt_of 416 (by decide +kernel) (by decide +kernel)
theorem xw_c_X7_loseLetter : Cond.code yX7_loseLetter cX7_loseLetter 3 (some .int) ∈ xtbl := xt_of 417 (by decide +kernel) (by decide +kernel)
theorem xw_m_L_63 : Cond.methodLink RL 63 yX7_passProof ∈ xtbl := xt_of 418 (by decide +kernel) (by decide +kernel)
theorem xw_ins_X7_passProof : Cond.instanceMethod yX7_passProof ∈ xtbl := xt_of 419 (by decide +kernel) (by decide +kernel)
theorem xw_sel_X7_passProof : Cond.selects RX7 yX7_passProof yX7_passProof ∈ xtbl := xt_of 420 (by decide +kernel) (by decide +kernel)
theorem xw_c_X7_passProof : Cond.code yX7_passProof cX7_passProof 6 (some .int) ∈ xtbl := xt_of 421 (by decide +kernel) (by decide +kernel)
theorem xw_m_X7_159 : Cond.methodLink RX7 159 yX3_keepFirst ∈ xtbl := xt_of 422 (by decide +kernel) (by decide +kernel)
theorem xw_m_X7_166 : Cond.methodLink RX7 166 yX7_oneIf ∈ xtbl := xt_of 423 (by decide +kernel) (by decide +kernel)
theorem xw_sta_X7_oneIf : Cond.static yX7_oneIf ∈ xtbl := xt_of 424 (by decide +kernel) (by decide +kernel)
theorem xw_c_X7_oneIf : Cond.code yX7_oneIf cX7_oneIf 1 (some .int) ∈ xtbl := xt_of 425 (by decide +kernel) (by decide +kernel)
theorem xw_m_L_67 : Cond.methodLink RL 67 yX7_count ∈ xtbl := xt_of 426 (by decide +kernel) (by decide +kernel)
theorem xw_ins_X7_count : Cond.instanceMethod yX7_count ∈ xtbl := xt_of 427 (by decide +kernel) (by decide +kernel)
theorem xw_sel_X7_count : Cond.selects RX7 yX7_count yX7_count ∈ xtbl := xt_of 428 (by decide +kernel) (by decide +kernel)
theorem xw_c_X7_count : Cond.code yX7_count cX7_count 2 (some .int) ∈ xtbl := xt_of 429 (by decide +kernel) (by decide +kernel)
theorem xw_m_X7_170 : Cond.methodLink RX7 170 yX7_usersWithAlarm ∈ xtbl := xt_of 430 (by decide +kernel) (by decide +kernel)
theorem xw_ins_X7_usersWithAlarm : Cond.instanceMethod yX7_usersWithAlarm ∈ xtbl := xt_of 432 (by decide +kernel) (by decide +kernel)
theorem xw_c_X7_usersWithAlarm : Cond.code yX7_usersWithAlarm cX7_usersWithAlarm 3 (some .int) ∈ xtbl := xt_of 433 (by decide +kernel) (by decide +kernel)
theorem xw_m_X7_174 : Cond.methodLink RX7 174 yX7_usersWithProof ∈ xtbl := xt_of 434 (by decide +kernel) (by decide +kernel)
theorem xw_ins_X7_usersWithProof : Cond.instanceMethod yX7_usersWithProof ∈ xtbl := xt_of 436 (by decide +kernel) (by decide +kernel)
theorem xw_c_X7_usersWithProof : Cond.code yX7_usersWithProof cX7_usersWithProof 3 (some .int) ∈ xtbl := xt_of 437 (by decide +kernel) (by decide +kernel)
theorem xw_m_X7_177 : Cond.methodLink RX7 177 yX7_operationsOfAll ∈ xtbl := xt_of 438 (by decide +kernel) (by decide +kernel)
theorem xw_ins_X7_operationsOfAll : Cond.instanceMethod yX7_operationsOfAll ∈ xtbl := xt_of 440 (by decide +kernel) (by decide +kernel)
theorem xw_c_X7_operationsOfAll : Cond.code yX7_operationsOfAll cX7_operationsOfAll 3 (some .int) ∈ xtbl := xt_of 441 (by decide +kernel) (by decide +kernel)
theorem xw_m_X7_180 : Cond.methodLink RX7 180 yX7_lettersInBoxes ∈ xtbl := xt_of 442 (by decide +kernel) (by decide +kernel)
theorem xw_ins_X7_lettersInBoxes : Cond.instanceMethod yX7_lettersInBoxes ∈ xtbl := xt_of 444 (by decide +kernel) (by decide +kernel)
theorem xw_c_X7_lettersInBoxes : Cond.code yX7_lettersInBoxes cX7_lettersInBoxes 3 (some .int) ∈ xtbl := xt_of 445 (by decide +kernel) (by decide +kernel)
theorem xw_m_L_71 : Cond.methodLink RL 71 yX7_user ∈ xtbl := xt_of 446 (by decide +kernel) (by decide +kernel)
theorem xw_ins_X7_user : Cond.instanceMethod yX7_user ∈ xtbl := xt_of 447 (by decide +kernel) (by decide +kernel)
theorem xw_sel_X7_user : Cond.selects RX7 yX7_user yX7_user ∈ xtbl := xt_of 448 (by decide +kernel) (by decide +kernel)
theorem xw_c_X7_user : Cond.code yX7_user cX7_user 4 (some .int) ∈ xtbl := xt_of 449 (by decide +kernel) (by decide +kernel)
theorem xw_m_L_75 : Cond.methodLink RL 75 yX7_vector ∈ xtbl := xt_of 450 (by decide +kernel) (by decide +kernel)
theorem xw_ins_X7_vector : Cond.instanceMethod yX7_vector ∈ xtbl := xt_of 451 (by decide +kernel) (by decide +kernel)
theorem xw_sel_X7_vector : Cond.selects RX7 yX7_vector yX7_vector ∈ xtbl := xt_of 452 (by decide +kernel) (by decide +kernel)
theorem xw_c_X7_vector : Cond.code yX7_vector cX7_vector 5 (some .int) ∈ xtbl := xt_of 453 (by decide +kernel) (by decide +kernel)
theorem xw_m_L_80 : Cond.methodLink RL 80 yX7_entry ∈ xtbl := xt_of 454 (by decide +kernel) (by decide +kernel)
theorem xw_ins_X7_entry : Cond.instanceMethod yX7_entry ∈ xtbl := xt_of 455 (by decide +kernel) (by decide +kernel)
theorem xw_sel_X7_entry : Cond.selects RX7 yX7_entry yX7_entry ∈ xtbl := xt_of 456 (by decide +kernel) (by decide +kernel)
theorem xw_c_X7_entry : Cond.code yX7_entry cX7_entry 4 (some .int) ∈ xtbl := xt_of 457 (by decide +kernel) (by decide +kernel)
theorem xw_m_L_84 : Cond.methodLink RL 84 yX7_content ∈ xtbl := xt_of 458 (by decide +kernel) (by decide +kernel)
theorem xw_ins_X7_content : Cond.instanceMethod yX7_content ∈ xtbl := xt_of 459 (by decide +kernel) (by decide +kernel)
theorem xw_sel_X7_content : Cond.selects RX7 yX7_content yX7_content ∈ xtbl := xt_of 460 (by decide +kernel) (by decide +kernel)
theorem xw_c_X7_content : Cond.code yX7_content cX7_content 3 (some .int) ∈ xtbl := xt_of 461 (by decide +kernel) (by decide +kernel)
theorem xw_m_L_88 : Cond.methodLink RL 88 yX7_view ∈ xtbl := xt_of 462 (by decide +kernel) (by decide +kernel)
theorem xw_ins_X7_view : Cond.instanceMethod yX7_view ∈ xtbl := xt_of 463 (by decide +kernel) (by decide +kernel)
theorem xw_sel_X7_view : Cond.selects RX7 yX7_view yX7_view ∈ xtbl := xt_of 464 (by decide +kernel) (by decide +kernel)
theorem xw_c_X7_view : Cond.code yX7_view cX7_view 4 (some .int) ∈ xtbl := xt_of 465 (by decide +kernel) (by decide +kernel)
theorem xw_m_X7_208 : Cond.methodLink RX7 208 yX5_sum ∈ xtbl := xt_of 466 (by decide +kernel) (by decide +kernel)
theorem xw_ins_X5_sum : Cond.instanceMethod yX5_sum ∈ xtbl := xt_of 467 (by decide +kernel) (by decide +kernel)
theorem xw_sel_X5_sum : Cond.selects RX5 yX5_sum yX5_sum ∈ xtbl := xt_of 468 (by decide +kernel) (by decide +kernel)
theorem xw_c_X5_sum : Cond.code yX5_sum cX5_sum 3 (some .int) ∈ xtbl := xt_of 469 (by decide +kernel) (by decide +kernel)
theorem xw_m_L_92 : Cond.methodLink RL 92 yX7_compare ∈ xtbl := xt_of 470 (by decide +kernel) (by decide +kernel)
theorem xw_ins_X7_compare : Cond.instanceMethod yX7_compare ∈ xtbl := xt_of 471 (by decide +kernel) (by decide +kernel)
theorem xw_sel_X7_compare : Cond.selects RX7 yX7_compare yX7_compare ∈ xtbl := xt_of 472 (by decide +kernel) (by decide +kernel)
theorem xw_c_X7_compare : Cond.code yX7_compare cX7_compare 4 (some .int) ∈ xtbl := xt_of 473 (by decide +kernel) (by decide +kernel)
theorem xw_m_L_97 : Cond.methodLink RL 97 yX7_forkedPairs ∈ xtbl := xt_of 474 (by decide +kernel) (by decide +kernel)
theorem xw_ins_X7_forkedPairs : Cond.instanceMethod yX7_forkedPairs ∈ xtbl := xt_of 475 (by decide +kernel) (by decide +kernel)
theorem xw_sel_X7_forkedPairs : Cond.selects RX7 yX7_forkedPairs yX7_forkedPairs ∈ xtbl := xt_of 476 (by decide +kernel) (by decide +kernel)
theorem xw_c_X7_forkedPairs : Cond.code yX7_forkedPairs cX7_forkedPairs 4 (some .int) ∈ xtbl := xt_of 477 (by decide +kernel) (by decide +kernel)
theorem xw_m_X7_214 : Cond.methodLink RX7 214 yX7_knowForkedVectors ∈ xtbl := xt_of 478 (by decide +kernel) (by decide +kernel)
theorem xw_ins_X7_knowForkedVectors : Cond.instanceMethod yX7_knowForkedVectors ∈ xtbl := xt_of 480 (by decide +kernel) (by decide +kernel)
theorem xw_c_X7_knowForkedVectors : Cond.code yX7_knowForkedVectors cX7_knowForkedVectors 3 (some .boolean) ∈ xtbl := xt_of 481 (by decide +kernel) (by decide +kernel)
theorem xw_m_L_102 : Cond.methodLink RL 102 yX7_tellingLetter ∈ xtbl := xt_of 482 (by decide +kernel) (by decide +kernel)
theorem xw_ins_X7_tellingLetter : Cond.instanceMethod yX7_tellingLetter ∈ xtbl := xt_of 483 (by decide +kernel) (by decide +kernel)
theorem xw_sel_X7_tellingLetter : Cond.selects RX7 yX7_tellingLetter yX7_tellingLetter ∈ xtbl := xt_of 484 (by decide +kernel) (by decide +kernel)
theorem xw_c_X7_tellingLetter : Cond.code yX7_tellingLetter cX7_tellingLetter 3 (some .int) ∈ xtbl := xt_of 485 (by decide +kernel) (by decide +kernel)
theorem xw_m_L_106 : Cond.methodLink RL 106 yX7_unaware ∈ xtbl := xt_of 486 (by decide +kernel) (by decide +kernel)
theorem xw_ins_X7_unaware : Cond.instanceMethod yX7_unaware ∈ xtbl := xt_of 487 (by decide +kernel) (by decide +kernel)
theorem xw_sel_X7_unaware : Cond.selects RX7 yX7_unaware yX7_unaware ∈ xtbl := xt_of 488 (by decide +kernel) (by decide +kernel)
theorem xw_c_X7_unaware : Cond.code yX7_unaware cX7_unaware 3 (some .int) ∈ xtbl := xt_of 489 (by decide +kernel) (by decide +kernel)
theorem xw_m_X7_217 : Cond.methodLink RX7 217 yX7_isUnaware ∈ xtbl := xt_of 490 (by decide +kernel) (by decide +kernel)
theorem xw_ins_X7_isUnaware : Cond.instanceMethod yX7_isUnaware ∈ xtbl := xt_of 492 (by decide +kernel) (by decide +kernel)
theorem xw_c_X7_isUnaware : Cond.code yX7_isUnaware cX7_isUnaware 3 (some .boolean) ∈ xtbl := xt_of 493 (by decide +kernel) (by decide +kernel)
theorem xw_m_L_110 : Cond.methodLink RL 110 yX7_type ∈ xtbl := xt_of 494 (by decide +kernel) (by decide +kernel)
theorem xw_ins_X7_type : Cond.instanceMethod yX7_type ∈ xtbl := xt_of 495 (by decide +kernel) (by decide +kernel)
theorem xw_sel_X7_type : Cond.selects RX7 yX7_type yX7_type ∈ xtbl := xt_of 496 (by decide +kernel) (by decide +kernel)
theorem xw_c_X7_type : Cond.code yX7_type cX7_type 2 (some .int) ∈ xtbl := xt_of 497 (by decide +kernel) (by decide +kernel)
theorem xw_m_X7_223 : Cond.methodLink RX7 223 yX4_append ∈ xtbl := xt_of 498 (by decide +kernel) (by decide +kernel)
theorem xw_ins_X4_append : Cond.instanceMethod yX4_append ∈ xtbl := xt_of 499 (by decide +kernel) (by decide +kernel)
theorem xw_sel_X4_append : Cond.selects RX4 yX4_append yX4_append ∈ xtbl := xt_of 500 (by decide +kernel) (by decide +kernel)
theorem xw_c_X4_append : Cond.code yX4_append cX4_append 2 none ∈ xtbl := xt_of 501 (by decide +kernel) (by decide +kernel)
theorem xw_m_L_115 : Cond.methodLink RL 115 yX7_clearText ∈ xtbl := xt_of 502 (by decide +kernel) (by decide +kernel)
theorem xw_ins_X7_clearText : Cond.instanceMethod yX7_clearText ∈ xtbl := xt_of 503 (by decide +kernel) (by decide +kernel)
theorem xw_sel_X7_clearText : Cond.selects RX7 yX7_clearText yX7_clearText ∈ xtbl := xt_of 504 (by decide +kernel) (by decide +kernel)
theorem xw_c_X7_clearText : Cond.code yX7_clearText cX7_clearText 2 (some .int) ∈ xtbl := xt_of 505 (by decide +kernel) (by decide +kernel)
theorem xw_m_L_119 : Cond.methodLink RL 119 yX7_run ∈ xtbl := xt_of 506 (by decide +kernel) (by decide +kernel)
theorem xw_ins_X7_run : Cond.instanceMethod yX7_run ∈ xtbl := xt_of 507 (by decide +kernel) (by decide +kernel)
theorem xw_sel_X7_run : Cond.selects RX7 yX7_run yX7_run ∈ xtbl := xt_of 508 (by decide +kernel) (by decide +kernel)
theorem xw_c_X7_run : Cond.code yX7_run cX7_run 4 (some .int) ∈ xtbl := xt_of 509 (by decide +kernel) (by decide +kernel)
theorem xw_m_X7_227 : Cond.methodLink RX7 227 yX4_fault ∈ xtbl := xt_of 510 (by decide +kernel) (by decide +kernel)
theorem xw_ins_X4_fault : Cond.instanceMethod yX4_fault ∈ xtbl := xt_of 511 (by decide +kernel) (by decide +kernel)
theorem xw_sel_X4_fault : Cond.selects RX4 yX4_fault yX4_fault ∈ xtbl := xt_of 512 (by decide +kernel) (by decide +kernel)
theorem xw_c_X4_fault : Cond.code yX4_fault cX4_fault 3 (some .int) ∈ xtbl := xt_of 513 (by decide +kernel) (by decide +kernel)
theorem xw_m_X4_19 : Cond.methodLink RX4 19 yX4_isLetter ∈ xtbl := xt_of 514 (by decide +kernel) (by decide +kernel)
theorem xw_sta_X4_isLetter : Cond.static yX4_isLetter ∈ xtbl := xt_of 515 (by decide +kernel) (by decide +kernel)
theorem xw_c_X4_isLetter : Cond.code yX4_isLetter cX4_isLetter 1 (some .boolean) ∈ xtbl := xt_of 516 (by decide +kernel) (by decide +kernel)
theorem xw_m_X4_23 : Cond.methodLink RX4 23 yX4_isDigit ∈ xtbl := xt_of 517 (by decide +kernel) (by decide +kernel)
theorem xw_sta_X4_isDigit : Cond.static yX4_isDigit ∈ xtbl := xt_of 518 (by decide +kernel) (by decide +kernel)
theorem xw_c_X4_isDigit : Cond.code yX4_isDigit cX4_isDigit 1 (some .boolean) ∈ xtbl := xt_of 519 (by decide +kernel) (by decide +kernel)
theorem xw_m_X7_233 : Cond.methodLink RX7 233 yX4_digit ∈ xtbl := xt_of 520 (by decide +kernel) (by decide +kernel)
theorem xw_ins_X4_digit : Cond.instanceMethod yX4_digit ∈ xtbl := xt_of 521 (by decide +kernel) (by decide +kernel)
theorem xw_sel_X4_digit : Cond.selects RX4 yX4_digit yX4_digit ∈ xtbl := xt_of 522 (by decide +kernel) (by decide +kernel)
theorem xw_c_X4_digit : Cond.code yX4_digit cX4_digit 2 (some .int) ∈ xtbl := xt_of 523 (by decide +kernel) (by decide +kernel)
theorem xw_m_X7_236 : Cond.methodLink RX7 236 yX7_carryOut ∈ xtbl := xt_of 524 (by decide +kernel) (by decide +kernel)
theorem xw_ins_X7_carryOut : Cond.instanceMethod yX7_carryOut ∈ xtbl := xt_of 526 (by decide +kernel) (by decide +kernel)
theorem xw_c_X7_carryOut : Cond.code yX7_carryOut cX7_carryOut 4 (some .boolean) ∈ xtbl := xt_of 527 (by decide +kernel) (by decide +kernel)
theorem xw_m_X7_258 : Cond.methodLink RX7 258 yX7_write ∈ xtbl := xt_of 528 (by decide +kernel) (by decide +kernel)
theorem xw_m_X7_262 : Cond.methodLink RX7 262 yX7_read ∈ xtbl := xt_of 529 (by decide +kernel) (by decide +kernel)
theorem xw_m_X7_265 : Cond.methodLink RX7 265 yX7_sendLetter ∈ xtbl := xt_of 530 (by decide +kernel) (by decide +kernel)
theorem xw_m_X7_268 : Cond.methodLink RX7 268 yX7_readLetters ∈ xtbl := xt_of 531 (by decide +kernel) (by decide +kernel)
theorem xw_ins_X7_readLetters : Cond.instanceMethod yX7_readLetters ∈ xtbl := xt_of 533 (by decide +kernel) (by decide +kernel)
theorem xw_c_X7_readLetters : Cond.code yX7_readLetters cX7_readLetters 4 (some .boolean) ∈ xtbl := xt_of 534 (by decide +kernel) (by decide +kernel)
theorem xw_m_X7_274 : Cond.methodLink RX7 274 yX7_readLetter ∈ xtbl := xt_of 535 (by decide +kernel) (by decide +kernel)
theorem xw_m_X7_271 : Cond.methodLink RX7 271 yX7_attach ∈ xtbl := xt_of 536 (by decide +kernel) (by decide +kernel)
theorem xw_k_L_10 : Cond.classLink RL 10 RX8 ∈ xtbl := xt_of 537 (by decide +kernel) (by decide +kernel)
theorem xw_new_X8 : Cond.instantiable RX8 25 ∈ xtbl := xt_of 538 (by decide +kernel) (by decide +kernel)
theorem xw_m_L_12 : Cond.methodLink RL 12 yX8_init ∈ xtbl := xt_of 539 (by decide +kernel) (by decide +kernel)
theorem xw_ins_X8_init : Cond.instanceMethod yX8_init ∈ xtbl := xt_of 540 (by decide +kernel) (by decide +kernel)
theorem xw_c_X8_init : Cond.code yX8_init cX8_init 1 none ∈ xtbl := xt_of 541 (by decide +kernel) (by decide +kernel)
theorem xw_m_X8_1 : Cond.methodLink RX8 1 objectInit ∈ xtbl := xt_of 542 (by decide +kernel) (by decide +kernel)
theorem xw_m_X8_69 : Cond.methodLink RX8 69 yX8_begin ∈ xtbl := xt_of 543 (by decide +kernel) (by decide +kernel)
theorem xw_ins_X8_begin : Cond.instanceMethod yX8_begin ∈ xtbl := xt_of 545 (by decide +kernel) (by decide +kernel)
theorem xw_c_X8_begin : Cond.code yX8_begin cX8_begin 3 none ∈ xtbl := xt_of 546 (by decide +kernel) (by decide +kernel)
theorem xw_f_X8_73 : Cond.fieldLink RX8 73 "ForkedStoreModel" "users" "I" ∈ xtbl := xt_of 547 (by decide +kernel) (by decide +kernel)
theorem xw_f_X8_77 : Cond.fieldLink RX8 77 "ForkedStoreModel" "views" "I" ∈ xtbl := xt_of 548 (by decide +kernel) (by decide +kernel)
theorem xw_f_X8_80 : Cond.fieldLink RX8 80 "ForkedStoreModel" "operations" "I" ∈ xtbl := xt_of 549 (by decide +kernel) (by decide +kernel)
theorem xw_f_X8_7 : Cond.fieldLink RX8 7 "ForkedStoreModel" "row" "[I" ∈ xtbl := xt_of 550 (by decide +kernel) (by decide +kernel)
theorem xw_f_X8_13 : Cond.fieldLink RX8 13 "ForkedStoreModel" "keptOf" "[I" ∈ xtbl := xt_of 551 (by decide +kernel) (by decide +kernel)
theorem xw_f_X8_16 : Cond.fieldLink RX8 16 "ForkedStoreModel" "keptRow" "[I" ∈ xtbl := xt_of 552 (by decide +kernel) (by decide +kernel)
theorem xw_f_X8_19 : Cond.fieldLink RX8 19 "ForkedStoreModel" "viewOf" "[I" ∈ xtbl := xt_of 553 (by decide +kernel) (by decide +kernel)
theorem xw_f_X8_22 : Cond.fieldLink RX8 22 "ForkedStoreModel" "alarmOf" "[I" ∈ xtbl := xt_of 554 (by decide +kernel) (by decide +kernel)
theorem xw_f_X8_25 : Cond.fieldLink RX8 25 "ForkedStoreModel" "hasProof" "[Z" ∈ xtbl := xt_of 555 (by decide +kernel) (by decide +kernel)
theorem xw_f_X8_29 : Cond.fieldLink RX8 29 "ForkedStoreModel" "depthOf" "[I" ∈ xtbl := xt_of 556 (by decide +kernel) (by decide +kernel)
theorem xw_f_X8_32 : Cond.fieldLink RX8 32 "ForkedStoreModel" "proofOf" "[I" ∈ xtbl := xt_of 557 (by decide +kernel) (by decide +kernel)
theorem xw_f_X8_35 : Cond.fieldLink RX8 35 "ForkedStoreModel" "signedOf" "[I" ∈ xtbl := xt_of 558 (by decide +kernel) (by decide +kernel)
theorem xw_f_X8_38 : Cond.fieldLink RX8 38 "ForkedStoreModel" "knownOf" "[I" ∈ xtbl := xt_of 559 (by decide +kernel) (by decide +kernel)
theorem xw_f_X8_41 : Cond.fieldLink RX8 41 "ForkedStoreModel" "doneOf" "[I" ∈ xtbl := xt_of 560 (by decide +kernel) (by decide +kernel)
theorem xw_f_X8_44 : Cond.fieldLink RX8 44 "ForkedStoreModel" "shownTo" "[I" ∈ xtbl := xt_of 561 (by decide +kernel) (by decide +kernel)
theorem xw_f_X8_47 : Cond.fieldLink RX8 47 "ForkedStoreModel" "sentBy" "[I" ∈ xtbl := xt_of 562 (by decide +kernel) (by decide +kernel)
theorem xw_f_X8_50 : Cond.fieldLink RX8 50 "ForkedStoreModel" "hasRead" "[Z" ∈ xtbl := xt_of 563 (by decide +kernel) (by decide +kernel)
theorem xw_f_X8_53 : Cond.fieldLink RX8 53 "ForkedStoreModel" "readOf" "[I" ∈ xtbl := xt_of 564 (by decide +kernel) (by decide +kernel)
theorem xw_f_X8_56 : Cond.fieldLink RX8 56 "ForkedStoreModel" "lettersOf" "[I" ∈ xtbl := xt_of 565 (by decide +kernel) (by decide +kernel)
theorem xw_f_X8_59 : Cond.fieldLink RX8 59 "ForkedStoreModel" "letter" "[I" ∈ xtbl := xt_of 566 (by decide +kernel) (by decide +kernel)
theorem xw_f_X8_91 : Cond.fieldLink RX8 91 "ForkedStoreModel" "pairOne" "I" ∈ xtbl := xt_of 567 (by decide +kernel) (by decide +kernel)
theorem xw_f_X8_101 : Cond.fieldLink RX8 101 "ForkedStoreModel" "pairTwo" "I" ∈ xtbl := xt_of 568 (by decide +kernel) (by decide +kernel)
theorem xw_f_X8_62 : Cond.fieldLink RX8 62 "ForkedStoreModel" "hand" "[I" ∈ xtbl := xt_of 569 (by decide +kernel) (by decide +kernel)
theorem xw_f_X8_146 : Cond.fieldLink RX8 146 "ForkedStoreModel" "typed" "I" ∈ xtbl := xt_of 570 (by decide +kernel) (by decide +kernel)
theorem xw_f_X8_65 : Cond.fieldLink RX8 65 "ForkedStoreModel" "text" "[C" ∈ xtbl := xt_of 571 (by decide +kernel) (by decide +kernel)
theorem xw_ac_boolean : Cond.arrayClass .boolean ∈ xtbl := xt_of 623 (by decide +kernel) (by decide +kernel)
theorem xw_ac_char : Cond.arrayClass .char ∈ xtbl := xt_of 624 (by decide +kernel) (by decide +kernel)
theorem xw_m_L_17 : Cond.methodLink RL 17 yX8_reset ∈ xtbl := xt_of 625 (by decide +kernel) (by decide +kernel)
theorem xw_ins_X8_reset : Cond.instanceMethod yX8_reset ∈ xtbl := xt_of 626 (by decide +kernel) (by decide +kernel)
theorem xw_sel_X8_reset : Cond.selects RX8 yX8_reset yX8_reset ∈ xtbl := xt_of 627 (by decide +kernel) (by decide +kernel)
theorem xw_c_X8_reset : Cond.code yX8_reset cX8_reset 3 (some .int) ∈ xtbl := xt_of 628 (by decide +kernel) (by decide +kernel)
theorem xw_m_X8_83 : Cond.methodLink RX8 83 yX8_in ∈ xtbl := xt_of 629 (by decide +kernel) (by decide +kernel)
theorem xw_sta_X8_in : Cond.static yX8_in ∈ xtbl := xt_of 630 (by decide +kernel) (by decide +kernel)
theorem xw_c_X8_in : Cond.code yX8_in cX8_in 3 (some .boolean) ∈ xtbl := xt_of 631 (by decide +kernel) (by decide +kernel)
theorem xw_m_L_22 : Cond.methodLink RL 22 yX8_write ∈ xtbl := xt_of 632 (by decide +kernel) (by decide +kernel)
theorem xw_ins_X8_write : Cond.instanceMethod yX8_write ∈ xtbl := xt_of 633 (by decide +kernel) (by decide +kernel)
theorem xw_sel_X8_write : Cond.selects RX8 yX8_write yX8_write ∈ xtbl := xt_of 634 (by decide +kernel) (by decide +kernel)
theorem xw_c_X8_write : Cond.code yX8_write cX8_write 4 (some .int) ∈ xtbl := xt_of 635 (by decide +kernel) (by decide +kernel)
theorem xw_m_X8_126 : Cond.methodLink RX8 126 yX8_noUser ∈ xtbl := xt_of 636 (by decide +kernel) (by decide +kernel)
theorem xw_ins_X8_noUser : Cond.instanceMethod yX8_noUser ∈ xtbl := xt_of 638 (by decide +kernel) (by decide +kernel)
theorem xw_c_X8_noUser : Cond.code yX8_noUser cX8_noUser 2 (some .boolean) ∈ xtbl := xt_of 639 (by decide +kernel) (by decide +kernel)
theorem xw_m_X8_130 : Cond.methodLink RX8 130 yX8_operate ∈ xtbl := xt_of 640 (by decide +kernel) (by decide +kernel)
theorem xw_ins_X8_operate : Cond.instanceMethod yX8_operate ∈ xtbl := xt_of 642 (by decide +kernel) (by decide +kernel)
theorem xw_c_X8_operate : Cond.code yX8_operate cX8_operate 5 (some .int) ∈ xtbl := xt_of 643 (by decide +kernel) (by decide +kernel)
theorem xw_m_X8_116 : Cond.methodLink RX8 116 yX8_alarmFor ∈ xtbl := xt_of 644 (by decide +kernel) (by decide +kernel)
theorem xw_ins_X8_alarmFor : Cond.instanceMethod yX8_alarmFor ∈ xtbl := xt_of 646 (by decide +kernel) (by decide +kernel)
theorem xw_c_X8_alarmFor : Cond.code yX8_alarmFor cX8_alarmFor 5 (some .int) ∈ xtbl := xt_of 647 (by decide +kernel) (by decide +kernel)
theorem xw_m_X8_94 : Cond.methodLink RX8 94 yX8_entryAt ∈ xtbl := xt_of 648 (by decide +kernel) (by decide +kernel)
theorem xw_sta_X8_entryAt : Cond.static yX8_entryAt ∈ xtbl := xt_of 649 (by decide +kernel) (by decide +kernel)
theorem xw_c_X8_entryAt : Cond.code yX8_entryAt cX8_entryAt 2 (some .int) ∈ xtbl := xt_of 650 (by decide +kernel) (by decide +kernel)
theorem xw_m_X8_87 : Cond.methodLink RX8 87 yX8_atMost ∈ xtbl := xt_of 651 (by decide +kernel) (by decide +kernel)
theorem xw_ins_X8_atMost : Cond.instanceMethod yX8_atMost ∈ xtbl := xt_of 653 (by decide +kernel) (by decide +kernel)
theorem xw_c_X8_atMost : Cond.code yX8_atMost cX8_atMost 7 (some .boolean) ∈ xtbl := xt_of 654 (by decide +kernel) (by decide +kernel)
theorem xw_m_X8_104 : Cond.methodLink RX8 104 yX8_greatest ∈ xtbl := xt_of 655 (by decide +kernel) (by decide +kernel)
theorem xw_ins_X8_greatest : Cond.instanceMethod yX8_greatest ∈ xtbl := xt_of 657 (by decide +kernel) (by decide +kernel)
theorem xw_c_X8_greatest : Cond.code yX8_greatest cX8_greatest 4 (some .int) ∈ xtbl := xt_of 658 (by decide +kernel) (by decide +kernel)
theorem xw_m_X8_98 : Cond.methodLink RX8 98 yX8_areApart ∈ xtbl := xt_of 659 (by decide +kernel) (by decide +kernel)
theorem xw_ins_X8_areApart : Cond.instanceMethod yX8_areApart ∈ xtbl := xt_of 661 (by decide +kernel) (by decide +kernel)
theorem xw_c_X8_areApart : Cond.code yX8_areApart cX8_areApart 5 (some .boolean) ∈ xtbl := xt_of 662 (by decide +kernel) (by decide +kernel)
theorem xw_m_X8_119 : Cond.methodLink RX8 119 yX8_raises ∈ xtbl := xt_of 663 (by decide +kernel) (by decide +kernel)
theorem xw_ins_X8_raises : Cond.instanceMethod yX8_raises ∈ xtbl := xt_of 665 (by decide +kernel) (by decide +kernel)
theorem xw_c_X8_raises : Cond.code yX8_raises cX8_raises 5 none ∈ xtbl := xt_of 666 (by decide +kernel) (by decide +kernel)
theorem xw_m_X8_112 : Cond.methodLink RX8 112 yX8_proves ∈ xtbl := xt_of 667 (by decide +kernel) (by decide +kernel)
theorem xw_ins_X8_proves : Cond.instanceMethod yX8_proves ∈ xtbl := xt_of 669 (by decide +kernel) (by decide +kernel)
theorem xw_c_X8_proves : Cond.code yX8_proves cX8_proves 7 none ∈ xtbl := xt_of 670 (by decide +kernel) (by decide +kernel)
theorem xw_m_X8_108 : Cond.methodLink RX8 108 yX8_copy ∈ xtbl := xt_of 671 (by decide +kernel) (by decide +kernel)
theorem xw_ins_X8_copy : Cond.instanceMethod yX8_copy ∈ xtbl := xt_of 673 (by decide +kernel) (by decide +kernel)
theorem xw_c_X8_copy : Cond.code yX8_copy cX8_copy 6 none ∈ xtbl := xt_of 674 (by decide +kernel) (by decide +kernel)
theorem xw_m_X8_123 : Cond.methodLink RX8 123 yX8_remember ∈ xtbl := xt_of 675 (by decide +kernel) (by decide +kernel)
theorem xw_ins_X8_remember : Cond.instanceMethod yX8_remember ∈ xtbl := xt_of 677 (by decide +kernel) (by decide +kernel)
theorem xw_c_X8_remember : Cond.code yX8_remember cX8_remember 3 none ∈ xtbl := xt_of 678 (by decide +kernel) (by decide +kernel)
theorem xw_m_L_26 : Cond.methodLink RL 26 yX8_read ∈ xtbl := xt_of 679 (by decide +kernel) (by decide +kernel)
theorem xw_ins_X8_read : Cond.instanceMethod yX8_read ∈ xtbl := xt_of 680 (by decide +kernel) (by decide +kernel)
theorem xw_sel_X8_read : Cond.selects RX8 yX8_read yX8_read ∈ xtbl := xt_of 681 (by decide +kernel) (by decide +kernel)
theorem xw_c_X8_read : Cond.code yX8_read cX8_read 4 (some .int) ∈ xtbl := xt_of 682 (by decide +kernel) (by decide +kernel)
theorem xw_m_L_30 : Cond.methodLink RL 30 yX8_lastRead ∈ xtbl := xt_of 683 (by decide +kernel) (by decide +kernel)
theorem xw_ins_X8_lastRead : Cond.instanceMethod yX8_lastRead ∈ xtbl := xt_of 684 (by decide +kernel) (by decide +kernel)
theorem xw_sel_X8_lastRead : Cond.selects RX8 yX8_lastRead yX8_lastRead ∈ xtbl := xt_of 685 (by decide +kernel) (by decide +kernel)
theorem xw_c_X8_lastRead : Cond.code yX8_lastRead cX8_lastRead 2 (some .int) ∈ xtbl := xt_of 686 (by decide +kernel) (by decide +kernel)
theorem xw_m_L_34 : Cond.methodLink RL 34 yX8_check ∈ xtbl := xt_of 687 (by decide +kernel) (by decide +kernel)
theorem xw_ins_X8_check : Cond.instanceMethod yX8_check ∈ xtbl := xt_of 688 (by decide +kernel) (by decide +kernel)
theorem xw_sel_X8_check : Cond.selects RX8 yX8_check yX8_check ∈ xtbl := xt_of 689 (by decide +kernel) (by decide +kernel)
theorem xw_c_X8_check : Cond.code yX8_check cX8_check 2 (some .int) ∈ xtbl := xt_of 690 (by decide +kernel) (by decide +kernel)
theorem xw_m_L_38 : Cond.methodLink RL 38 yX8_fork ∈ xtbl := xt_of 691 (by decide +kernel) (by decide +kernel)
theorem xw_ins_X8_fork : Cond.instanceMethod yX8_fork ∈ xtbl := xt_of 692 (by decide +kernel) (by decide +kernel)
theorem xw_sel_X8_fork : Cond.selects RX8 yX8_fork yX8_fork ∈ xtbl := xt_of 693 (by decide +kernel) (by decide +kernel)
theorem xw_c_X8_fork : Cond.code yX8_fork cX8_fork 4 (some .int) ∈ xtbl := xt_of 694 (by decide +kernel) (by decide +kernel)
theorem xw_m_X8_133 : Cond.methodLink RX8 133 yX8_noView ∈ xtbl := xt_of 695 (by decide +kernel) (by decide +kernel)
theorem xw_ins_X8_noView : Cond.instanceMethod yX8_noView ∈ xtbl := xt_of 697 (by decide +kernel) (by decide +kernel)
theorem xw_c_X8_noView : Cond.code yX8_noView cX8_noView 2 (some .boolean) ∈ xtbl := xt_of 698 (by decide +kernel) (by decide +kernel)
theorem xw_m_X8_136 : Cond.methodLink RX8 136 yX8_attached ∈ xtbl := xt_of 699 (by decide +kernel) (by decide +kernel)
theorem xw_ins_X8_attached : Cond.instanceMethod yX8_attached ∈ xtbl := xt_of 701 (by decide +kernel) (by decide +kernel)
theorem xw_c_X8_attached : Cond.code yX8_attached cX8_attached 4 (some .int) ∈ xtbl := xt_of 702 (by decide +kernel) (by decide +kernel)
theorem xw_m_L_42 : Cond.methodLink RL 42 yX8_attach ∈ xtbl := xt_of 703 (by decide +kernel) (by decide +kernel)
theorem xw_ins_X8_attach : Cond.instanceMethod yX8_attach ∈ xtbl := xt_of 704 (by decide +kernel) (by decide +kernel)
theorem xw_sel_X8_attach : Cond.selects RX8 yX8_attach yX8_attach ∈ xtbl := xt_of 705 (by decide +kernel) (by decide +kernel)
theorem xw_c_X8_attach : Cond.code yX8_attach cX8_attach 4 (some .int) ∈ xtbl := xt_of 706 (by decide +kernel) (by decide +kernel)
theorem xw_m_L_46 : Cond.methodLink RL 46 yX8_rollBack ∈ xtbl := xt_of 707 (by decide +kernel) (by decide +kernel)
theorem xw_ins_X8_rollBack : Cond.instanceMethod yX8_rollBack ∈ xtbl := xt_of 708 (by decide +kernel) (by decide +kernel)
theorem xw_sel_X8_rollBack : Cond.selects RX8 yX8_rollBack yX8_rollBack ∈ xtbl := xt_of 709 (by decide +kernel) (by decide +kernel)
theorem xw_c_X8_rollBack : Cond.code yX8_rollBack cX8_rollBack 4 (some .int) ∈ xtbl := xt_of 710 (by decide +kernel) (by decide +kernel)
theorem xw_m_L_50 : Cond.methodLink RL 50 yX8_mix ∈ xtbl := xt_of 711 (by decide +kernel) (by decide +kernel)
theorem xw_ins_X8_mix : Cond.instanceMethod yX8_mix ∈ xtbl := xt_of 712 (by decide +kernel) (by decide +kernel)
theorem xw_sel_X8_mix : Cond.selects RX8 yX8_mix yX8_mix ∈ xtbl := xt_of 713 (by decide +kernel) (by decide +kernel)
theorem xw_c_X8_mix : Cond.code yX8_mix cX8_mix 5 (some .int) ∈ xtbl := xt_of 714 (by decide +kernel) (by decide +kernel)
theorem xw_m_L_54 : Cond.methodLink RL 54 yX8_sendLetter ∈ xtbl := xt_of 715 (by decide +kernel) (by decide +kernel)
theorem xw_ins_X8_sendLetter : Cond.instanceMethod yX8_sendLetter ∈ xtbl := xt_of 716 (by decide +kernel) (by decide +kernel)
theorem xw_sel_X8_sendLetter : Cond.selects RX8 yX8_sendLetter yX8_sendLetter ∈ xtbl := xt_of 717 (by decide +kernel) (by decide +kernel)
theorem xw_c_X8_sendLetter : Cond.code yX8_sendLetter cX8_sendLetter 3 (some .int) ∈ xtbl := xt_of 718 (by decide +kernel) (by decide +kernel)
theorem xw_m_L_58 : Cond.methodLink RL 58 yX8_readLetter ∈ xtbl := xt_of 719 (by decide +kernel) (by decide +kernel)
theorem xw_ins_X8_readLetter : Cond.instanceMethod yX8_readLetter ∈ xtbl := xt_of 720 (by decide +kernel) (by decide +kernel)
theorem xw_sel_X8_readLetter : Cond.selects RX8 yX8_readLetter yX8_readLetter ∈ xtbl := xt_of 721 (by decide +kernel) (by decide +kernel)
theorem xw_c_X8_readLetter : Cond.code yX8_readLetter cX8_readLetter 2 (some .int) ∈ xtbl := xt_of 722 (by decide +kernel) (by decide +kernel)
theorem xw_m_X8_139 : Cond.methodLink RX8 139 yX8_takesLetter ∈ xtbl := xt_of 723 (by decide +kernel) (by decide +kernel)
theorem xw_ins_X8_takesLetter : Cond.instanceMethod yX8_takesLetter ∈ xtbl := xt_of 725 (by decide +kernel) (by decide +kernel)
theorem xw_c_X8_takesLetter : Cond.code yX8_takesLetter cX8_takesLetter 3 none ∈ xtbl := xt_of 726 (by decide +kernel) (by decide +kernel)
theorem xw_m_L_62 : Cond.methodLink RL 62 yX8_loseLetter ∈ xtbl := xt_of 727 (by decide +kernel) (by decide +kernel)
theorem xw_ins_X8_loseLetter : Cond.instanceMethod yX8_loseLetter ∈ xtbl := xt_of 728 (by decide +kernel) (by decide +kernel)
theorem xw_sel_X8_loseLetter : Cond.selects RX8 yX8_loseLetter yX8_loseLetter ∈ xtbl := xt_of 729 (by decide +kernel) (by decide +kernel)
theorem xw_c_X8_loseLetter : Cond.code yX8_loseLetter cX8_loseLetter 2 (some .int) ∈ xtbl := xt_of 730 (by decide +kernel) (by decide +kernel)
theorem xw_m_L_66 : Cond.methodLink RL 66 yX8_passProof ∈ xtbl := xt_of 731 (by decide +kernel) (by decide +kernel)
theorem xw_ins_X8_passProof : Cond.instanceMethod yX8_passProof ∈ xtbl := xt_of 732 (by decide +kernel) (by decide +kernel)
theorem xw_sel_X8_passProof : Cond.selects RX8 yX8_passProof yX8_passProof ∈ xtbl := xt_of 733 (by decide +kernel) (by decide +kernel)
theorem xw_c_X8_passProof : Cond.code yX8_passProof cX8_passProof 3 (some .int) ∈ xtbl := xt_of 734 (by decide +kernel) (by decide +kernel)
theorem xw_m_L_70 : Cond.methodLink RL 70 yX8_count ∈ xtbl := xt_of 735 (by decide +kernel) (by decide +kernel)
theorem xw_ins_X8_count : Cond.instanceMethod yX8_count ∈ xtbl := xt_of 736 (by decide +kernel) (by decide +kernel)
theorem xw_sel_X8_count : Cond.selects RX8 yX8_count yX8_count ∈ xtbl := xt_of 737 (by decide +kernel) (by decide +kernel)
theorem xw_c_X8_count : Cond.code yX8_count cX8_count 6 (some .int) ∈ xtbl := xt_of 738 (by decide +kernel) (by decide +kernel)
theorem xw_m_L_74 : Cond.methodLink RL 74 yX8_user ∈ xtbl := xt_of 739 (by decide +kernel) (by decide +kernel)
theorem xw_ins_X8_user : Cond.instanceMethod yX8_user ∈ xtbl := xt_of 740 (by decide +kernel) (by decide +kernel)
theorem xw_sel_X8_user : Cond.selects RX8 yX8_user yX8_user ∈ xtbl := xt_of 741 (by decide +kernel) (by decide +kernel)
theorem xw_c_X8_user : Cond.code yX8_user cX8_user 3 (some .int) ∈ xtbl := xt_of 742 (by decide +kernel) (by decide +kernel)
theorem xw_m_L_79 : Cond.methodLink RL 79 yX8_vector ∈ xtbl := xt_of 743 (by decide +kernel) (by decide +kernel)
theorem xw_ins_X8_vector : Cond.instanceMethod yX8_vector ∈ xtbl := xt_of 744 (by decide +kernel) (by decide +kernel)
theorem xw_sel_X8_vector : Cond.selects RX8 yX8_vector yX8_vector ∈ xtbl := xt_of 745 (by decide +kernel) (by decide +kernel)
theorem xw_c_X8_vector : Cond.code yX8_vector cX8_vector 4 (some .int) ∈ xtbl := xt_of 746 (by decide +kernel) (by decide +kernel)
theorem xw_m_L_83 : Cond.methodLink RL 83 yX8_entry ∈ xtbl := xt_of 747 (by decide +kernel) (by decide +kernel)
theorem xw_ins_X8_entry : Cond.instanceMethod yX8_entry ∈ xtbl := xt_of 748 (by decide +kernel) (by decide +kernel)
theorem xw_sel_X8_entry : Cond.selects RX8 yX8_entry yX8_entry ∈ xtbl := xt_of 749 (by decide +kernel) (by decide +kernel)
theorem xw_c_X8_entry : Cond.code yX8_entry cX8_entry 4 (some .int) ∈ xtbl := xt_of 750 (by decide +kernel) (by decide +kernel)
theorem xw_m_L_87 : Cond.methodLink RL 87 yX8_content ∈ xtbl := xt_of 751 (by decide +kernel) (by decide +kernel)
theorem xw_ins_X8_content : Cond.instanceMethod yX8_content ∈ xtbl := xt_of 752 (by decide +kernel) (by decide +kernel)
theorem xw_sel_X8_content : Cond.selects RX8 yX8_content yX8_content ∈ xtbl := xt_of 753 (by decide +kernel) (by decide +kernel)
theorem xw_c_X8_content : Cond.code yX8_content cX8_content 3 (some .int) ∈ xtbl := xt_of 754 (by decide +kernel) (by decide +kernel)
theorem xw_m_L_91 : Cond.methodLink RL 91 yX8_view ∈ xtbl := xt_of 755 (by decide +kernel) (by decide +kernel)
theorem xw_ins_X8_view : Cond.instanceMethod yX8_view ∈ xtbl := xt_of 756 (by decide +kernel) (by decide +kernel)
theorem xw_sel_X8_view : Cond.selects RX8 yX8_view yX8_view ∈ xtbl := xt_of 757 (by decide +kernel) (by decide +kernel)
theorem xw_c_X8_view : Cond.code yX8_view cX8_view 6 (some .int) ∈ xtbl := xt_of 758 (by decide +kernel) (by decide +kernel)
theorem xw_m_L_96 : Cond.methodLink RL 96 yX8_compare ∈ xtbl := xt_of 759 (by decide +kernel) (by decide +kernel)
theorem xw_ins_X8_compare : Cond.instanceMethod yX8_compare ∈ xtbl := xt_of 760 (by decide +kernel) (by decide +kernel)
theorem xw_sel_X8_compare : Cond.selects RX8 yX8_compare yX8_compare ∈ xtbl := xt_of 761 (by decide +kernel) (by decide +kernel)
theorem xw_c_X8_compare : Cond.code yX8_compare cX8_compare 4 (some .int) ∈ xtbl := xt_of 762 (by decide +kernel) (by decide +kernel)
theorem xw_m_X8_142 : Cond.methodLink RX8 142 yX8_compared ∈ xtbl := xt_of 763 (by decide +kernel) (by decide +kernel)
theorem xw_ins_X8_compared : Cond.instanceMethod yX8_compared ∈ xtbl := xt_of 765 (by decide +kernel) (by decide +kernel)
theorem xw_c_X8_compared : Cond.code yX8_compared cX8_compared 6 (some .int) ∈ xtbl := xt_of 766 (by decide +kernel) (by decide +kernel)
theorem xw_m_L_101 : Cond.methodLink RL 101 yX8_forkedPairs ∈ xtbl := xt_of 767 (by decide +kernel) (by decide +kernel)
theorem xw_ins_X8_forkedPairs : Cond.instanceMethod yX8_forkedPairs ∈ xtbl := xt_of 768 (by decide +kernel) (by decide +kernel)
theorem xw_sel_X8_forkedPairs : Cond.selects RX8 yX8_forkedPairs yX8_forkedPairs ∈ xtbl := xt_of 769 (by decide +kernel) (by decide +kernel)
theorem xw_c_X8_forkedPairs : Cond.code yX8_forkedPairs cX8_forkedPairs 4 (some .int) ∈ xtbl := xt_of 770 (by decide +kernel) (by decide +kernel)
theorem xw_m_L_105 : Cond.methodLink RL 105 yX8_tellingLetter ∈ xtbl := xt_of 771 (by decide +kernel) (by decide +kernel)
theorem xw_ins_X8_tellingLetter : Cond.instanceMethod yX8_tellingLetter ∈ xtbl := xt_of 772 (by decide +kernel) (by decide +kernel)
theorem xw_sel_X8_tellingLetter : Cond.selects RX8 yX8_tellingLetter yX8_tellingLetter ∈ xtbl := xt_of 773 (by decide +kernel) (by decide +kernel)
theorem xw_c_X8_tellingLetter : Cond.code yX8_tellingLetter cX8_tellingLetter 3 (some .int) ∈ xtbl := xt_of 774 (by decide +kernel) (by decide +kernel)
theorem xw_m_L_109 : Cond.methodLink RL 109 yX8_unaware ∈ xtbl := xt_of 775 (by decide +kernel) (by decide +kernel)
theorem xw_ins_X8_unaware : Cond.instanceMethod yX8_unaware ∈ xtbl := xt_of 776 (by decide +kernel) (by decide +kernel)
theorem xw_sel_X8_unaware : Cond.selects RX8 yX8_unaware yX8_unaware ∈ xtbl := xt_of 777 (by decide +kernel) (by decide +kernel)
theorem xw_c_X8_unaware : Cond.code yX8_unaware cX8_unaware 5 (some .int) ∈ xtbl := xt_of 778 (by decide +kernel) (by decide +kernel)
theorem xw_m_L_114 : Cond.methodLink RL 114 yX8_type ∈ xtbl := xt_of 779 (by decide +kernel) (by decide +kernel)
theorem xw_ins_X8_type : Cond.instanceMethod yX8_type ∈ xtbl := xt_of 780 (by decide +kernel) (by decide +kernel)
theorem xw_sel_X8_type : Cond.selects RX8 yX8_type yX8_type ∈ xtbl := xt_of 781 (by decide +kernel) (by decide +kernel)
theorem xw_c_X8_type : Cond.code yX8_type cX8_type 2 (some .int) ∈ xtbl := xt_of 782 (by decide +kernel) (by decide +kernel)
theorem xw_m_L_118 : Cond.methodLink RL 118 yX8_clearText ∈ xtbl := xt_of 783 (by decide +kernel) (by decide +kernel)
theorem xw_ins_X8_clearText : Cond.instanceMethod yX8_clearText ∈ xtbl := xt_of 784 (by decide +kernel) (by decide +kernel)
theorem xw_sel_X8_clearText : Cond.selects RX8 yX8_clearText yX8_clearText ∈ xtbl := xt_of 785 (by decide +kernel) (by decide +kernel)
theorem xw_c_X8_clearText : Cond.code yX8_clearText cX8_clearText 2 (some .int) ∈ xtbl := xt_of 786 (by decide +kernel) (by decide +kernel)
theorem xw_m_L_122 : Cond.methodLink RL 122 yX8_run ∈ xtbl := xt_of 787 (by decide +kernel) (by decide +kernel)
theorem xw_ins_X8_run : Cond.instanceMethod yX8_run ∈ xtbl := xt_of 788 (by decide +kernel) (by decide +kernel)
theorem xw_sel_X8_run : Cond.selects RX8 yX8_run yX8_run ∈ xtbl := xt_of 789 (by decide +kernel) (by decide +kernel)
theorem xw_c_X8_run : Cond.code yX8_run cX8_run 2 (some .int) ∈ xtbl := xt_of 790 (by decide +kernel) (by decide +kernel)
theorem xw_m_X8_168 : Cond.methodLink RX8 168 yX8_fault ∈ xtbl := xt_of 791 (by decide +kernel) (by decide +kernel)
theorem xw_ins_X8_fault : Cond.instanceMethod yX8_fault ∈ xtbl := xt_of 793 (by decide +kernel) (by decide +kernel)
theorem xw_c_X8_fault : Cond.code yX8_fault cX8_fault 3 (some .int) ∈ xtbl := xt_of 794 (by decide +kernel) (by decide +kernel)
theorem xw_m_X8_149 : Cond.methodLink RX8 149 yX8_isCommand ∈ xtbl := xt_of 795 (by decide +kernel) (by decide +kernel)
theorem xw_sta_X8_isCommand : Cond.static yX8_isCommand ∈ xtbl := xt_of 796 (by decide +kernel) (by decide +kernel)
theorem xw_c_X8_isCommand : Cond.code yX8_isCommand cX8_isCommand 1 (some .boolean) ∈ xtbl := xt_of 797 (by decide +kernel) (by decide +kernel)
theorem xw_m_X8_172 : Cond.methodLink RX8 172 yX8_carries ∈ xtbl := xt_of 798 (by decide +kernel) (by decide +kernel)
theorem xw_ins_X8_carries : Cond.instanceMethod yX8_carries ∈ xtbl := xt_of 800 (by decide +kernel) (by decide +kernel)
theorem xw_c_X8_carries : Cond.code yX8_carries cX8_carries 6 (some .boolean) ∈ xtbl := xt_of 801 (by decide +kernel) (by decide +kernel)
theorem xw_m_X8_153 : Cond.methodLink RX8 153 yX8_write ∈ xtbl := xt_of 802 (by decide +kernel) (by decide +kernel)
theorem xw_m_X8_156 : Cond.methodLink RX8 156 yX8_read ∈ xtbl := xt_of 803 (by decide +kernel) (by decide +kernel)
theorem xw_m_X8_159 : Cond.methodLink RX8 159 yX8_sendLetter ∈ xtbl := xt_of 804 (by decide +kernel) (by decide +kernel)
theorem xw_m_X8_162 : Cond.methodLink RX8 162 yX8_attach ∈ xtbl := xt_of 805 (by decide +kernel) (by decide +kernel)
theorem xw_m_X8_165 : Cond.methodLink RX8 165 yX8_readLetter ∈ xtbl := xt_of 806 (by decide +kernel) (by decide +kernel)
theorem xd_X0_init : yX0_init.cls ≠ "java/lang/invoke/MethodHandle" ∧ yX0_init.cls ≠ "java/lang/invoke/VarHandle" ∧ (parseMethodDescriptor yX0_init.desc).map (fun d => d.parameters.length) = some 0 := ⟨by decide +kernel, by decide +kernel, by decide +kernel⟩
theorem xd_X0_put : yX0_put.cls ≠ "java/lang/invoke/MethodHandle" ∧ yX0_put.cls ≠ "java/lang/invoke/VarHandle" ∧ (parseMethodDescriptor yX0_put.desc).map (fun d => d.parameters.length) = some 1 := ⟨by decide +kernel, by decide +kernel, by decide +kernel⟩
theorem xd_X0_dropFirst : yX0_dropFirst.cls ≠ "java/lang/invoke/MethodHandle" ∧ yX0_dropFirst.cls ≠ "java/lang/invoke/VarHandle" ∧ (parseMethodDescriptor yX0_dropFirst.desc).map (fun d => d.parameters.length) = some 0 := ⟨by decide +kernel, by decide +kernel, by decide +kernel⟩
theorem xd_X1_init : yX1_init.cls ≠ "java/lang/invoke/MethodHandle" ∧ yX1_init.cls ≠ "java/lang/invoke/VarHandle" ∧ (parseMethodDescriptor yX1_init.desc).map (fun d => d.parameters.length) = some 0 := ⟨by decide +kernel, by decide +kernel, by decide +kernel⟩
theorem xd_X1_clear : yX1_clear.cls ≠ "java/lang/invoke/MethodHandle" ∧ yX1_clear.cls ≠ "java/lang/invoke/VarHandle" ∧ (parseMethodDescriptor yX1_clear.desc).map (fun d => d.parameters.length) = some 0 := ⟨by decide +kernel, by decide +kernel, by decide +kernel⟩
theorem xd_X1_copyFrom : yX1_copyFrom.cls ≠ "java/lang/invoke/MethodHandle" ∧ yX1_copyFrom.cls ≠ "java/lang/invoke/VarHandle" ∧ (parseMethodDescriptor yX1_copyFrom.desc).map (fun d => d.parameters.length) = some 1 := ⟨by decide +kernel, by decide +kernel, by decide +kernel⟩
theorem xd_X1_replaceByLater : yX1_replaceByLater.cls ≠ "java/lang/invoke/MethodHandle" ∧ yX1_replaceByLater.cls ≠ "java/lang/invoke/VarHandle" ∧ (parseMethodDescriptor yX1_replaceByLater.desc).map (fun d => d.parameters.length) = some 1 := ⟨by decide +kernel, by decide +kernel, by decide +kernel⟩
theorem xd_X1_areForked : yX1_areForked.cls ≠ "java/lang/invoke/MethodHandle" ∧ yX1_areForked.cls ≠ "java/lang/invoke/VarHandle" ∧ (parseMethodDescriptor yX1_areForked.desc).map (fun d => d.parameters.length) = some 0 := ⟨by decide +kernel, by decide +kernel, by decide +kernel⟩
theorem xd_X1_greatest : yX1_greatest.cls ≠ "java/lang/invoke/MethodHandle" ∧ yX1_greatest.cls ≠ "java/lang/invoke/VarHandle" ∧ (parseMethodDescriptor yX1_greatest.desc).map (fun d => d.parameters.length) = some 0 := ⟨by decide +kernel, by decide +kernel, by decide +kernel⟩
theorem xd_X1_prove : yX1_prove.cls ≠ "java/lang/invoke/MethodHandle" ∧ yX1_prove.cls ≠ "java/lang/invoke/VarHandle" ∧ (parseMethodDescriptor yX1_prove.desc).map (fun d => d.parameters.length) = some 1 := ⟨by decide +kernel, by decide +kernel, by decide +kernel⟩
theorem xd_X2_init : yX2_init.cls ≠ "java/lang/invoke/MethodHandle" ∧ yX2_init.cls ≠ "java/lang/invoke/VarHandle" ∧ (parseMethodDescriptor yX2_init.desc).map (fun d => d.parameters.length) = some 0 := ⟨by decide +kernel, by decide +kernel, by decide +kernel⟩
theorem xd_X2_clear : yX2_clear.cls ≠ "java/lang/invoke/MethodHandle" ∧ yX2_clear.cls ≠ "java/lang/invoke/VarHandle" ∧ (parseMethodDescriptor yX2_clear.desc).map (fun d => d.parameters.length) = some 0 := ⟨by decide +kernel, by decide +kernel, by decide +kernel⟩
theorem xd_X2_hear : yX2_hear.cls ≠ "java/lang/invoke/MethodHandle" ∧ yX2_hear.cls ≠ "java/lang/invoke/VarHandle" ∧ (parseMethodDescriptor yX2_hear.desc).map (fun d => d.parameters.length) = some 1 := ⟨by decide +kernel, by decide +kernel, by decide +kernel⟩
theorem xd_X2_raise : yX2_raise.cls ≠ "java/lang/invoke/MethodHandle" ∧ yX2_raise.cls ≠ "java/lang/invoke/VarHandle" ∧ (parseMethodDescriptor yX2_raise.desc).map (fun d => d.parameters.length) = some 1 := ⟨by decide +kernel, by decide +kernel, by decide +kernel⟩
theorem xd_X2_sign : yX2_sign.cls ≠ "java/lang/invoke/MethodHandle" ∧ yX2_sign.cls ≠ "java/lang/invoke/VarHandle" ∧ (parseMethodDescriptor yX2_sign.desc).map (fun d => d.parameters.length) = some 2 := ⟨by decide +kernel, by decide +kernel, by decide +kernel⟩
theorem xd_X2_proveLack : yX2_proveLack.cls ≠ "java/lang/invoke/MethodHandle" ∧ yX2_proveLack.cls ≠ "java/lang/invoke/VarHandle" ∧ (parseMethodDescriptor yX2_proveLack.desc).map (fun d => d.parameters.length) = some 1 := ⟨by decide +kernel, by decide +kernel, by decide +kernel⟩
theorem xd_X2_learn : yX2_learn.cls ≠ "java/lang/invoke/MethodHandle" ∧ yX2_learn.cls ≠ "java/lang/invoke/VarHandle" ∧ (parseMethodDescriptor yX2_learn.desc).map (fun d => d.parameters.length) = some 1 := ⟨by decide +kernel, by decide +kernel, by decide +kernel⟩
theorem xd_X3_init : yX3_init.cls ≠ "java/lang/invoke/MethodHandle" ∧ yX3_init.cls ≠ "java/lang/invoke/VarHandle" ∧ (parseMethodDescriptor yX3_init.desc).map (fun d => d.parameters.length) = some 0 := ⟨by decide +kernel, by decide +kernel, by decide +kernel⟩
theorem xd_X3_clear : yX3_clear.cls ≠ "java/lang/invoke/MethodHandle" ∧ yX3_clear.cls ≠ "java/lang/invoke/VarHandle" ∧ (parseMethodDescriptor yX3_clear.desc).map (fun d => d.parameters.length) = some 0 := ⟨by decide +kernel, by decide +kernel, by decide +kernel⟩
theorem xd_X3_keepFirst : yX3_keepFirst.cls ≠ "java/lang/invoke/MethodHandle" ∧ yX3_keepFirst.cls ≠ "java/lang/invoke/VarHandle" ∧ (parseMethodDescriptor yX3_keepFirst.desc).map (fun d => d.parameters.length) = some 3 := ⟨by decide +kernel, by decide +kernel, by decide +kernel⟩
theorem xd_X4_init : yX4_init.cls ≠ "java/lang/invoke/MethodHandle" ∧ yX4_init.cls ≠ "java/lang/invoke/VarHandle" ∧ (parseMethodDescriptor yX4_init.desc).map (fun d => d.parameters.length) = some 0 := ⟨by decide +kernel, by decide +kernel, by decide +kernel⟩
theorem xd_X4_append : yX4_append.cls ≠ "java/lang/invoke/MethodHandle" ∧ yX4_append.cls ≠ "java/lang/invoke/VarHandle" ∧ (parseMethodDescriptor yX4_append.desc).map (fun d => d.parameters.length) = some 1 := ⟨by decide +kernel, by decide +kernel, by decide +kernel⟩
theorem xd_X4_digit : yX4_digit.cls ≠ "java/lang/invoke/MethodHandle" ∧ yX4_digit.cls ≠ "java/lang/invoke/VarHandle" ∧ (parseMethodDescriptor yX4_digit.desc).map (fun d => d.parameters.length) = some 1 := ⟨by decide +kernel, by decide +kernel, by decide +kernel⟩
theorem xd_X4_fault : yX4_fault.cls ≠ "java/lang/invoke/MethodHandle" ∧ yX4_fault.cls ≠ "java/lang/invoke/VarHandle" ∧ (parseMethodDescriptor yX4_fault.desc).map (fun d => d.parameters.length) = some 0 := ⟨by decide +kernel, by decide +kernel, by decide +kernel⟩
theorem xd_X4_isLetter : yX4_isLetter.cls ≠ "java/lang/invoke/MethodHandle" ∧ yX4_isLetter.cls ≠ "java/lang/invoke/VarHandle" ∧ (parseMethodDescriptor yX4_isLetter.desc).map (fun d => d.parameters.length) = some 1 := ⟨by decide +kernel, by decide +kernel, by decide +kernel⟩
theorem xd_X4_isDigit : yX4_isDigit.cls ≠ "java/lang/invoke/MethodHandle" ∧ yX4_isDigit.cls ≠ "java/lang/invoke/VarHandle" ∧ (parseMethodDescriptor yX4_isDigit.desc).map (fun d => d.parameters.length) = some 1 := ⟨by decide +kernel, by decide +kernel, by decide +kernel⟩
theorem xd_X5_init : yX5_init.cls ≠ "java/lang/invoke/MethodHandle" ∧ yX5_init.cls ≠ "java/lang/invoke/VarHandle" ∧ (parseMethodDescriptor yX5_init.desc).map (fun d => d.parameters.length) = some 0 := ⟨by decide +kernel, by decide +kernel, by decide +kernel⟩
theorem xd_X5_clear : yX5_clear.cls ≠ "java/lang/invoke/MethodHandle" ∧ yX5_clear.cls ≠ "java/lang/invoke/VarHandle" ∧ (parseMethodDescriptor yX5_clear.desc).map (fun d => d.parameters.length) = some 0 := ⟨by decide +kernel, by decide +kernel, by decide +kernel⟩
theorem xd_X5_copyFrom : yX5_copyFrom.cls ≠ "java/lang/invoke/MethodHandle" ∧ yX5_copyFrom.cls ≠ "java/lang/invoke/VarHandle" ∧ (parseMethodDescriptor yX5_copyFrom.desc).map (fun d => d.parameters.length) = some 1 := ⟨by decide +kernel, by decide +kernel, by decide +kernel⟩
theorem xd_X5_isAtMost : yX5_isAtMost.cls ≠ "java/lang/invoke/MethodHandle" ∧ yX5_isAtMost.cls ≠ "java/lang/invoke/VarHandle" ∧ (parseMethodDescriptor yX5_isAtMost.desc).map (fun d => d.parameters.length) = some 1 := ⟨by decide +kernel, by decide +kernel, by decide +kernel⟩
theorem xd_X5_relationTo : yX5_relationTo.cls ≠ "java/lang/invoke/MethodHandle" ∧ yX5_relationTo.cls ≠ "java/lang/invoke/VarHandle" ∧ (parseMethodDescriptor yX5_relationTo.desc).map (fun d => d.parameters.length) = some 1 := ⟨by decide +kernel, by decide +kernel, by decide +kernel⟩
theorem xd_X5_sum : yX5_sum.cls ≠ "java/lang/invoke/MethodHandle" ∧ yX5_sum.cls ≠ "java/lang/invoke/VarHandle" ∧ (parseMethodDescriptor yX5_sum.desc).map (fun d => d.parameters.length) = some 0 := ⟨by decide +kernel, by decide +kernel, by decide +kernel⟩
theorem xd_X6_init : yX6_init.cls ≠ "java/lang/invoke/MethodHandle" ∧ yX6_init.cls ≠ "java/lang/invoke/VarHandle" ∧ (parseMethodDescriptor yX6_init.desc).map (fun d => d.parameters.length) = some 0 := ⟨by decide +kernel, by decide +kernel, by decide +kernel⟩
theorem xd_X6_clear : yX6_clear.cls ≠ "java/lang/invoke/MethodHandle" ∧ yX6_clear.cls ≠ "java/lang/invoke/VarHandle" ∧ (parseMethodDescriptor yX6_clear.desc).map (fun d => d.parameters.length) = some 0 := ⟨by decide +kernel, by decide +kernel, by decide +kernel⟩
theorem xd_X6_forget : yX6_forget.cls ≠ "java/lang/invoke/MethodHandle" ∧ yX6_forget.cls ≠ "java/lang/invoke/VarHandle" ∧ (parseMethodDescriptor yX6_forget.desc).map (fun d => d.parameters.length) = some 0 := ⟨by decide +kernel, by decide +kernel, by decide +kernel⟩
theorem xd_X6_copyFrom : yX6_copyFrom.cls ≠ "java/lang/invoke/MethodHandle" ∧ yX6_copyFrom.cls ≠ "java/lang/invoke/VarHandle" ∧ (parseMethodDescriptor yX6_copyFrom.desc).map (fun d => d.parameters.length) = some 1 := ⟨by decide +kernel, by decide +kernel, by decide +kernel⟩
theorem xd_X6_remember : yX6_remember.cls ≠ "java/lang/invoke/MethodHandle" ∧ yX6_remember.cls ≠ "java/lang/invoke/VarHandle" ∧ (parseMethodDescriptor yX6_remember.desc).map (fun d => d.parameters.length) = some 0 := ⟨by decide +kernel, by decide +kernel, by decide +kernel⟩
theorem xd_X6_takeBack : yX6_takeBack.cls ≠ "java/lang/invoke/MethodHandle" ∧ yX6_takeBack.cls ≠ "java/lang/invoke/VarHandle" ∧ (parseMethodDescriptor yX6_takeBack.desc).map (fun d => d.parameters.length) = some 1 := ⟨by decide +kernel, by decide +kernel, by decide +kernel⟩
theorem xd_X7_init : yX7_init.cls ≠ "java/lang/invoke/MethodHandle" ∧ yX7_init.cls ≠ "java/lang/invoke/VarHandle" ∧ (parseMethodDescriptor yX7_init.desc).map (fun d => d.parameters.length) = some 0 := ⟨by decide +kernel, by decide +kernel, by decide +kernel⟩
theorem xd_X7_reset : yX7_reset.cls ≠ "java/lang/invoke/MethodHandle" ∧ yX7_reset.cls ≠ "java/lang/invoke/VarHandle" ∧ (parseMethodDescriptor yX7_reset.desc).map (fun d => d.parameters.length) = some 1 := ⟨by decide +kernel, by decide +kernel, by decide +kernel⟩
theorem xd_X7_write : yX7_write.cls ≠ "java/lang/invoke/MethodHandle" ∧ yX7_write.cls ≠ "java/lang/invoke/VarHandle" ∧ (parseMethodDescriptor yX7_write.desc).map (fun d => d.parameters.length) = some 2 := ⟨by decide +kernel, by decide +kernel, by decide +kernel⟩
theorem xd_X7_read : yX7_read.cls ≠ "java/lang/invoke/MethodHandle" ∧ yX7_read.cls ≠ "java/lang/invoke/VarHandle" ∧ (parseMethodDescriptor yX7_read.desc).map (fun d => d.parameters.length) = some 2 := ⟨by decide +kernel, by decide +kernel, by decide +kernel⟩
theorem xd_X7_lastRead : yX7_lastRead.cls ≠ "java/lang/invoke/MethodHandle" ∧ yX7_lastRead.cls ≠ "java/lang/invoke/VarHandle" ∧ (parseMethodDescriptor yX7_lastRead.desc).map (fun d => d.parameters.length) = some 1 := ⟨by decide +kernel, by decide +kernel, by decide +kernel⟩
theorem xd_X7_check : yX7_check.cls ≠ "java/lang/invoke/MethodHandle" ∧ yX7_check.cls ≠ "java/lang/invoke/VarHandle" ∧ (parseMethodDescriptor yX7_check.desc).map (fun d => d.parameters.length) = some 1 := ⟨by decide +kernel, by decide +kernel, by decide +kernel⟩
theorem xd_X7_fork : yX7_fork.cls ≠ "java/lang/invoke/MethodHandle" ∧ yX7_fork.cls ≠ "java/lang/invoke/VarHandle" ∧ (parseMethodDescriptor yX7_fork.desc).map (fun d => d.parameters.length) = some 2 := ⟨by decide +kernel, by decide +kernel, by decide +kernel⟩
theorem xd_X7_attach : yX7_attach.cls ≠ "java/lang/invoke/MethodHandle" ∧ yX7_attach.cls ≠ "java/lang/invoke/VarHandle" ∧ (parseMethodDescriptor yX7_attach.desc).map (fun d => d.parameters.length) = some 2 := ⟨by decide +kernel, by decide +kernel, by decide +kernel⟩
theorem xd_X7_rollBack : yX7_rollBack.cls ≠ "java/lang/invoke/MethodHandle" ∧ yX7_rollBack.cls ≠ "java/lang/invoke/VarHandle" ∧ (parseMethodDescriptor yX7_rollBack.desc).map (fun d => d.parameters.length) = some 2 := ⟨by decide +kernel, by decide +kernel, by decide +kernel⟩
theorem xd_X7_mix : yX7_mix.cls ≠ "java/lang/invoke/MethodHandle" ∧ yX7_mix.cls ≠ "java/lang/invoke/VarHandle" ∧ (parseMethodDescriptor yX7_mix.desc).map (fun d => d.parameters.length) = some 2 := ⟨by decide +kernel, by decide +kernel, by decide +kernel⟩
theorem xd_X7_sendLetter : yX7_sendLetter.cls ≠ "java/lang/invoke/MethodHandle" ∧ yX7_sendLetter.cls ≠ "java/lang/invoke/VarHandle" ∧ (parseMethodDescriptor yX7_sendLetter.desc).map (fun d => d.parameters.length) = some 2 := ⟨by decide +kernel, by decide +kernel, by decide +kernel⟩
theorem xd_X7_readLetter : yX7_readLetter.cls ≠ "java/lang/invoke/MethodHandle" ∧ yX7_readLetter.cls ≠ "java/lang/invoke/VarHandle" ∧ (parseMethodDescriptor yX7_readLetter.desc).map (fun d => d.parameters.length) = some 1 := ⟨by decide +kernel, by decide +kernel, by decide +kernel⟩
theorem xd_X7_loseLetter : yX7_loseLetter.cls ≠ "java/lang/invoke/MethodHandle" ∧ yX7_loseLetter.cls ≠ "java/lang/invoke/VarHandle" ∧ (parseMethodDescriptor yX7_loseLetter.desc).map (fun d => d.parameters.length) = some 1 := ⟨by decide +kernel, by decide +kernel, by decide +kernel⟩
theorem xd_X7_passProof : yX7_passProof.cls ≠ "java/lang/invoke/MethodHandle" ∧ yX7_passProof.cls ≠ "java/lang/invoke/VarHandle" ∧ (parseMethodDescriptor yX7_passProof.desc).map (fun d => d.parameters.length) = some 2 := ⟨by decide +kernel, by decide +kernel, by decide +kernel⟩
theorem xd_X7_count : yX7_count.cls ≠ "java/lang/invoke/MethodHandle" ∧ yX7_count.cls ≠ "java/lang/invoke/VarHandle" ∧ (parseMethodDescriptor yX7_count.desc).map (fun d => d.parameters.length) = some 1 := ⟨by decide +kernel, by decide +kernel, by decide +kernel⟩
theorem xd_X7_user : yX7_user.cls ≠ "java/lang/invoke/MethodHandle" ∧ yX7_user.cls ≠ "java/lang/invoke/VarHandle" ∧ (parseMethodDescriptor yX7_user.desc).map (fun d => d.parameters.length) = some 2 := ⟨by decide +kernel, by decide +kernel, by decide +kernel⟩
theorem xd_X7_vector : yX7_vector.cls ≠ "java/lang/invoke/MethodHandle" ∧ yX7_vector.cls ≠ "java/lang/invoke/VarHandle" ∧ (parseMethodDescriptor yX7_vector.desc).map (fun d => d.parameters.length) = some 3 := ⟨by decide +kernel, by decide +kernel, by decide +kernel⟩
theorem xd_X7_entry : yX7_entry.cls ≠ "java/lang/invoke/MethodHandle" ∧ yX7_entry.cls ≠ "java/lang/invoke/VarHandle" ∧ (parseMethodDescriptor yX7_entry.desc).map (fun d => d.parameters.length) = some 3 := ⟨by decide +kernel, by decide +kernel, by decide +kernel⟩
theorem xd_X7_content : yX7_content.cls ≠ "java/lang/invoke/MethodHandle" ∧ yX7_content.cls ≠ "java/lang/invoke/VarHandle" ∧ (parseMethodDescriptor yX7_content.desc).map (fun d => d.parameters.length) = some 2 := ⟨by decide +kernel, by decide +kernel, by decide +kernel⟩
theorem xd_X7_view : yX7_view.cls ≠ "java/lang/invoke/MethodHandle" ∧ yX7_view.cls ≠ "java/lang/invoke/VarHandle" ∧ (parseMethodDescriptor yX7_view.desc).map (fun d => d.parameters.length) = some 2 := ⟨by decide +kernel, by decide +kernel, by decide +kernel⟩
theorem xd_X7_compare : yX7_compare.cls ≠ "java/lang/invoke/MethodHandle" ∧ yX7_compare.cls ≠ "java/lang/invoke/VarHandle" ∧ (parseMethodDescriptor yX7_compare.desc).map (fun d => d.parameters.length) = some 3 := ⟨by decide +kernel, by decide +kernel, by decide +kernel⟩
theorem xd_X7_forkedPairs : yX7_forkedPairs.cls ≠ "java/lang/invoke/MethodHandle" ∧ yX7_forkedPairs.cls ≠ "java/lang/invoke/VarHandle" ∧ (parseMethodDescriptor yX7_forkedPairs.desc).map (fun d => d.parameters.length) = some 0 := ⟨by decide +kernel, by decide +kernel, by decide +kernel⟩
theorem xd_X7_tellingLetter : yX7_tellingLetter.cls ≠ "java/lang/invoke/MethodHandle" ∧ yX7_tellingLetter.cls ≠ "java/lang/invoke/VarHandle" ∧ (parseMethodDescriptor yX7_tellingLetter.desc).map (fun d => d.parameters.length) = some 0 := ⟨by decide +kernel, by decide +kernel, by decide +kernel⟩
theorem xd_X7_unaware : yX7_unaware.cls ≠ "java/lang/invoke/MethodHandle" ∧ yX7_unaware.cls ≠ "java/lang/invoke/VarHandle" ∧ (parseMethodDescriptor yX7_unaware.desc).map (fun d => d.parameters.length) = some 0 := ⟨by decide +kernel, by decide +kernel, by decide +kernel⟩
theorem xd_X7_type : yX7_type.cls ≠ "java/lang/invoke/MethodHandle" ∧ yX7_type.cls ≠ "java/lang/invoke/VarHandle" ∧ (parseMethodDescriptor yX7_type.desc).map (fun d => d.parameters.length) = some 1 := ⟨by decide +kernel, by decide +kernel, by decide +kernel⟩
theorem xd_X7_clearText : yX7_clearText.cls ≠ "java/lang/invoke/MethodHandle" ∧ yX7_clearText.cls ≠ "java/lang/invoke/VarHandle" ∧ (parseMethodDescriptor yX7_clearText.desc).map (fun d => d.parameters.length) = some 0 := ⟨by decide +kernel, by decide +kernel, by decide +kernel⟩
theorem xd_X7_run : yX7_run.cls ≠ "java/lang/invoke/MethodHandle" ∧ yX7_run.cls ≠ "java/lang/invoke/VarHandle" ∧ (parseMethodDescriptor yX7_run.desc).map (fun d => d.parameters.length) = some 0 := ⟨by decide +kernel, by decide +kernel, by decide +kernel⟩
theorem xd_X7_isUser : yX7_isUser.cls ≠ "java/lang/invoke/MethodHandle" ∧ yX7_isUser.cls ≠ "java/lang/invoke/VarHandle" ∧ (parseMethodDescriptor yX7_isUser.desc).map (fun d => d.parameters.length) = some 1 := ⟨by decide +kernel, by decide +kernel, by decide +kernel⟩
theorem xd_X7_isView : yX7_isView.cls ≠ "java/lang/invoke/MethodHandle" ∧ yX7_isView.cls ≠ "java/lang/invoke/VarHandle" ∧ (parseMethodDescriptor yX7_isView.desc).map (fun d => d.parameters.length) = some 1 := ⟨by decide +kernel, by decide +kernel, by decide +kernel⟩
theorem xd_X7_contains : yX7_contains.cls ≠ "java/lang/invoke/MethodHandle" ∧ yX7_contains.cls ≠ "java/lang/invoke/VarHandle" ∧ (parseMethodDescriptor yX7_contains.desc).map (fun d => d.parameters.length) = some 2 := ⟨by decide +kernel, by decide +kernel, by decide +kernel⟩
theorem xd_X7_oneIf : yX7_oneIf.cls ≠ "java/lang/invoke/MethodHandle" ∧ yX7_oneIf.cls ≠ "java/lang/invoke/VarHandle" ∧ (parseMethodDescriptor yX7_oneIf.desc).map (fun d => d.parameters.length) = some 1 := ⟨by decide +kernel, by decide +kernel, by decide +kernel⟩
theorem xd_X7_entriesShownTo : yX7_entriesShownTo.cls ≠ "java/lang/invoke/MethodHandle" ∧ yX7_entriesShownTo.cls ≠ "java/lang/invoke/VarHandle" ∧ (parseMethodDescriptor yX7_entriesShownTo.desc).map (fun d => d.parameters.length) = some 1 := ⟨by decide +kernel, by decide +kernel, by decide +kernel⟩
theorem xd_X7_usersAttachedTo : yX7_usersAttachedTo.cls ≠ "java/lang/invoke/MethodHandle" ∧ yX7_usersAttachedTo.cls ≠ "java/lang/invoke/VarHandle" ∧ (parseMethodDescriptor yX7_usersAttachedTo.desc).map (fun d => d.parameters.length) = some 1 := ⟨by decide +kernel, by decide +kernel, by decide +kernel⟩
theorem xd_X7_alarmAhead : yX7_alarmAhead.cls ≠ "java/lang/invoke/MethodHandle" ∧ yX7_alarmAhead.cls ≠ "java/lang/invoke/VarHandle" ∧ (parseMethodDescriptor yX7_alarmAhead.desc).map (fun d => d.parameters.length) = some 1 := ⟨by decide +kernel, by decide +kernel, by decide +kernel⟩
theorem xd_X7_operate : yX7_operate.cls ≠ "java/lang/invoke/MethodHandle" ∧ yX7_operate.cls ≠ "java/lang/invoke/VarHandle" ∧ (parseMethodDescriptor yX7_operate.desc).map (fun d => d.parameters.length) = some 1 := ⟨by decide +kernel, by decide +kernel, by decide +kernel⟩
theorem xd_X7_usersWithAlarm : yX7_usersWithAlarm.cls ≠ "java/lang/invoke/MethodHandle" ∧ yX7_usersWithAlarm.cls ≠ "java/lang/invoke/VarHandle" ∧ (parseMethodDescriptor yX7_usersWithAlarm.desc).map (fun d => d.parameters.length) = some 0 := ⟨by decide +kernel, by decide +kernel, by decide +kernel⟩
theorem xd_X7_usersWithProof : yX7_usersWithProof.cls ≠ "java/lang/invoke/MethodHandle" ∧ yX7_usersWithProof.cls ≠ "java/lang/invoke/VarHandle" ∧ (parseMethodDescriptor yX7_usersWithProof.desc).map (fun d => d.parameters.length) = some 0 := ⟨by decide +kernel, by decide +kernel, by decide +kernel⟩
theorem xd_X7_operationsOfAll : yX7_operationsOfAll.cls ≠ "java/lang/invoke/MethodHandle" ∧ yX7_operationsOfAll.cls ≠ "java/lang/invoke/VarHandle" ∧ (parseMethodDescriptor yX7_operationsOfAll.desc).map (fun d => d.parameters.length) = some 0 := ⟨by decide +kernel, by decide +kernel, by decide +kernel⟩
theorem xd_X7_lettersInBoxes : yX7_lettersInBoxes.cls ≠ "java/lang/invoke/MethodHandle" ∧ yX7_lettersInBoxes.cls ≠ "java/lang/invoke/VarHandle" ∧ (parseMethodDescriptor yX7_lettersInBoxes.desc).map (fun d => d.parameters.length) = some 0 := ⟨by decide +kernel, by decide +kernel, by decide +kernel⟩
theorem xd_X7_knowForkedVectors : yX7_knowForkedVectors.cls ≠ "java/lang/invoke/MethodHandle" ∧ yX7_knowForkedVectors.cls ≠ "java/lang/invoke/VarHandle" ∧ (parseMethodDescriptor yX7_knowForkedVectors.desc).map (fun d => d.parameters.length) = some 2 := ⟨by decide +kernel, by decide +kernel, by decide +kernel⟩
theorem xd_X7_isUnaware : yX7_isUnaware.cls ≠ "java/lang/invoke/MethodHandle" ∧ yX7_isUnaware.cls ≠ "java/lang/invoke/VarHandle" ∧ (parseMethodDescriptor yX7_isUnaware.desc).map (fun d => d.parameters.length) = some 1 := ⟨by decide +kernel, by decide +kernel, by decide +kernel⟩
theorem xd_X7_carryOut : yX7_carryOut.cls ≠ "java/lang/invoke/MethodHandle" ∧ yX7_carryOut.cls ≠ "java/lang/invoke/VarHandle" ∧ (parseMethodDescriptor yX7_carryOut.desc).map (fun d => d.parameters.length) = some 3 := ⟨by decide +kernel, by decide +kernel, by decide +kernel⟩
theorem xd_X7_readLetters : yX7_readLetters.cls ≠ "java/lang/invoke/MethodHandle" ∧ yX7_readLetters.cls ≠ "java/lang/invoke/VarHandle" ∧ (parseMethodDescriptor yX7_readLetters.desc).map (fun d => d.parameters.length) = some 2 := ⟨by decide +kernel, by decide +kernel, by decide +kernel⟩
theorem xd_X8_init : yX8_init.cls ≠ "java/lang/invoke/MethodHandle" ∧ yX8_init.cls ≠ "java/lang/invoke/VarHandle" ∧ (parseMethodDescriptor yX8_init.desc).map (fun d => d.parameters.length) = some 0 := ⟨by decide +kernel, by decide +kernel, by decide +kernel⟩
theorem xd_X8_in : yX8_in.cls ≠ "java/lang/invoke/MethodHandle" ∧ yX8_in.cls ≠ "java/lang/invoke/VarHandle" ∧ (parseMethodDescriptor yX8_in.desc).map (fun d => d.parameters.length) = some 3 := ⟨by decide +kernel, by decide +kernel, by decide +kernel⟩
theorem xd_X8_begin : yX8_begin.cls ≠ "java/lang/invoke/MethodHandle" ∧ yX8_begin.cls ≠ "java/lang/invoke/VarHandle" ∧ (parseMethodDescriptor yX8_begin.desc).map (fun d => d.parameters.length) = some 1 := ⟨by decide +kernel, by decide +kernel, by decide +kernel⟩
theorem xd_X8_reset : yX8_reset.cls ≠ "java/lang/invoke/MethodHandle" ∧ yX8_reset.cls ≠ "java/lang/invoke/VarHandle" ∧ (parseMethodDescriptor yX8_reset.desc).map (fun d => d.parameters.length) = some 1 := ⟨by decide +kernel, by decide +kernel, by decide +kernel⟩
theorem xd_X8_noUser : yX8_noUser.cls ≠ "java/lang/invoke/MethodHandle" ∧ yX8_noUser.cls ≠ "java/lang/invoke/VarHandle" ∧ (parseMethodDescriptor yX8_noUser.desc).map (fun d => d.parameters.length) = some 1 := ⟨by decide +kernel, by decide +kernel, by decide +kernel⟩
theorem xd_X8_noView : yX8_noView.cls ≠ "java/lang/invoke/MethodHandle" ∧ yX8_noView.cls ≠ "java/lang/invoke/VarHandle" ∧ (parseMethodDescriptor yX8_noView.desc).map (fun d => d.parameters.length) = some 1 := ⟨by decide +kernel, by decide +kernel, by decide +kernel⟩
theorem xd_X8_atMost : yX8_atMost.cls ≠ "java/lang/invoke/MethodHandle" ∧ yX8_atMost.cls ≠ "java/lang/invoke/VarHandle" ∧ (parseMethodDescriptor yX8_atMost.desc).map (fun d => d.parameters.length) = some 4 := ⟨by decide +kernel, by decide +kernel, by decide +kernel⟩
theorem xd_X8_areApart : yX8_areApart.cls ≠ "java/lang/invoke/MethodHandle" ∧ yX8_areApart.cls ≠ "java/lang/invoke/VarHandle" ∧ (parseMethodDescriptor yX8_areApart.desc).map (fun d => d.parameters.length) = some 4 := ⟨by decide +kernel, by decide +kernel, by decide +kernel⟩
theorem xd_X8_copy : yX8_copy.cls ≠ "java/lang/invoke/MethodHandle" ∧ yX8_copy.cls ≠ "java/lang/invoke/VarHandle" ∧ (parseMethodDescriptor yX8_copy.desc).map (fun d => d.parameters.length) = some 4 := ⟨by decide +kernel, by decide +kernel, by decide +kernel⟩
theorem xd_X8_entryAt : yX8_entryAt.cls ≠ "java/lang/invoke/MethodHandle" ∧ yX8_entryAt.cls ≠ "java/lang/invoke/VarHandle" ∧ (parseMethodDescriptor yX8_entryAt.desc).map (fun d => d.parameters.length) = some 2 := ⟨by decide +kernel, by decide +kernel, by decide +kernel⟩
theorem xd_X8_greatest : yX8_greatest.cls ≠ "java/lang/invoke/MethodHandle" ∧ yX8_greatest.cls ≠ "java/lang/invoke/VarHandle" ∧ (parseMethodDescriptor yX8_greatest.desc).map (fun d => d.parameters.length) = some 1 := ⟨by decide +kernel, by decide +kernel, by decide +kernel⟩
theorem xd_X8_alarmFor : yX8_alarmFor.cls ≠ "java/lang/invoke/MethodHandle" ∧ yX8_alarmFor.cls ≠ "java/lang/invoke/VarHandle" ∧ (parseMethodDescriptor yX8_alarmFor.desc).map (fun d => d.parameters.length) = some 1 := ⟨by decide +kernel, by decide +kernel, by decide +kernel⟩
theorem xd_X8_proves : yX8_proves.cls ≠ "java/lang/invoke/MethodHandle" ∧ yX8_proves.cls ≠ "java/lang/invoke/VarHandle" ∧ (parseMethodDescriptor yX8_proves.desc).map (fun d => d.parameters.length) = some 6 := ⟨by decide +kernel, by decide +kernel, by decide +kernel⟩
theorem xd_X8_raises : yX8_raises.cls ≠ "java/lang/invoke/MethodHandle" ∧ yX8_raises.cls ≠ "java/lang/invoke/VarHandle" ∧ (parseMethodDescriptor yX8_raises.desc).map (fun d => d.parameters.length) = some 2 := ⟨by decide +kernel, by decide +kernel, by decide +kernel⟩
theorem xd_X8_remember : yX8_remember.cls ≠ "java/lang/invoke/MethodHandle" ∧ yX8_remember.cls ≠ "java/lang/invoke/VarHandle" ∧ (parseMethodDescriptor yX8_remember.desc).map (fun d => d.parameters.length) = some 1 := ⟨by decide +kernel, by decide +kernel, by decide +kernel⟩
theorem xd_X8_operate : yX8_operate.cls ≠ "java/lang/invoke/MethodHandle" ∧ yX8_operate.cls ≠ "java/lang/invoke/VarHandle" ∧ (parseMethodDescriptor yX8_operate.desc).map (fun d => d.parameters.length) = some 1 := ⟨by decide +kernel, by decide +kernel, by decide +kernel⟩
theorem xd_X8_write : yX8_write.cls ≠ "java/lang/invoke/MethodHandle" ∧ yX8_write.cls ≠ "java/lang/invoke/VarHandle" ∧ (parseMethodDescriptor yX8_write.desc).map (fun d => d.parameters.length) = some 2 := ⟨by decide +kernel, by decide +kernel, by decide +kernel⟩
theorem xd_X8_read : yX8_read.cls ≠ "java/lang/invoke/MethodHandle" ∧ yX8_read.cls ≠ "java/lang/invoke/VarHandle" ∧ (parseMethodDescriptor yX8_read.desc).map (fun d => d.parameters.length) = some 2 := ⟨by decide +kernel, by decide +kernel, by decide +kernel⟩
theorem xd_X8_lastRead : yX8_lastRead.cls ≠ "java/lang/invoke/MethodHandle" ∧ yX8_lastRead.cls ≠ "java/lang/invoke/VarHandle" ∧ (parseMethodDescriptor yX8_lastRead.desc).map (fun d => d.parameters.length) = some 1 := ⟨by decide +kernel, by decide +kernel, by decide +kernel⟩
theorem xd_X8_check : yX8_check.cls ≠ "java/lang/invoke/MethodHandle" ∧ yX8_check.cls ≠ "java/lang/invoke/VarHandle" ∧ (parseMethodDescriptor yX8_check.desc).map (fun d => d.parameters.length) = some 1 := ⟨by decide +kernel, by decide +kernel, by decide +kernel⟩
theorem xd_X8_fork : yX8_fork.cls ≠ "java/lang/invoke/MethodHandle" ∧ yX8_fork.cls ≠ "java/lang/invoke/VarHandle" ∧ (parseMethodDescriptor yX8_fork.desc).map (fun d => d.parameters.length) = some 2 := ⟨by decide +kernel, by decide +kernel, by decide +kernel⟩
theorem xd_X8_attached : yX8_attached.cls ≠ "java/lang/invoke/MethodHandle" ∧ yX8_attached.cls ≠ "java/lang/invoke/VarHandle" ∧ (parseMethodDescriptor yX8_attached.desc).map (fun d => d.parameters.length) = some 1 := ⟨by decide +kernel, by decide +kernel, by decide +kernel⟩
theorem xd_X8_attach : yX8_attach.cls ≠ "java/lang/invoke/MethodHandle" ∧ yX8_attach.cls ≠ "java/lang/invoke/VarHandle" ∧ (parseMethodDescriptor yX8_attach.desc).map (fun d => d.parameters.length) = some 2 := ⟨by decide +kernel, by decide +kernel, by decide +kernel⟩
theorem xd_X8_rollBack : yX8_rollBack.cls ≠ "java/lang/invoke/MethodHandle" ∧ yX8_rollBack.cls ≠ "java/lang/invoke/VarHandle" ∧ (parseMethodDescriptor yX8_rollBack.desc).map (fun d => d.parameters.length) = some 2 := ⟨by decide +kernel, by decide +kernel, by decide +kernel⟩
theorem xd_X8_mix : yX8_mix.cls ≠ "java/lang/invoke/MethodHandle" ∧ yX8_mix.cls ≠ "java/lang/invoke/VarHandle" ∧ (parseMethodDescriptor yX8_mix.desc).map (fun d => d.parameters.length) = some 2 := ⟨by decide +kernel, by decide +kernel, by decide +kernel⟩
theorem xd_X8_sendLetter : yX8_sendLetter.cls ≠ "java/lang/invoke/MethodHandle" ∧ yX8_sendLetter.cls ≠ "java/lang/invoke/VarHandle" ∧ (parseMethodDescriptor yX8_sendLetter.desc).map (fun d => d.parameters.length) = some 2 := ⟨by decide +kernel, by decide +kernel, by decide +kernel⟩
theorem xd_X8_takesLetter : yX8_takesLetter.cls ≠ "java/lang/invoke/MethodHandle" ∧ yX8_takesLetter.cls ≠ "java/lang/invoke/VarHandle" ∧ (parseMethodDescriptor yX8_takesLetter.desc).map (fun d => d.parameters.length) = some 1 := ⟨by decide +kernel, by decide +kernel, by decide +kernel⟩
theorem xd_X8_readLetter : yX8_readLetter.cls ≠ "java/lang/invoke/MethodHandle" ∧ yX8_readLetter.cls ≠ "java/lang/invoke/VarHandle" ∧ (parseMethodDescriptor yX8_readLetter.desc).map (fun d => d.parameters.length) = some 1 := ⟨by decide +kernel, by decide +kernel, by decide +kernel⟩
theorem xd_X8_loseLetter : yX8_loseLetter.cls ≠ "java/lang/invoke/MethodHandle" ∧ yX8_loseLetter.cls ≠ "java/lang/invoke/VarHandle" ∧ (parseMethodDescriptor yX8_loseLetter.desc).map (fun d => d.parameters.length) = some 1 := ⟨by decide +kernel, by decide +kernel, by decide +kernel⟩
theorem xd_X8_passProof : yX8_passProof.cls ≠ "java/lang/invoke/MethodHandle" ∧ yX8_passProof.cls ≠ "java/lang/invoke/VarHandle" ∧ (parseMethodDescriptor yX8_passProof.desc).map (fun d => d.parameters.length) = some 2 := ⟨by decide +kernel, by decide +kernel, by decide +kernel⟩
theorem xd_X8_count : yX8_count.cls ≠ "java/lang/invoke/MethodHandle" ∧ yX8_count.cls ≠ "java/lang/invoke/VarHandle" ∧ (parseMethodDescriptor yX8_count.desc).map (fun d => d.parameters.length) = some 1 := ⟨by decide +kernel, by decide +kernel, by decide +kernel⟩
theorem xd_X8_user : yX8_user.cls ≠ "java/lang/invoke/MethodHandle" ∧ yX8_user.cls ≠ "java/lang/invoke/VarHandle" ∧ (parseMethodDescriptor yX8_user.desc).map (fun d => d.parameters.length) = some 2 := ⟨by decide +kernel, by decide +kernel, by decide +kernel⟩
theorem xd_X8_vector : yX8_vector.cls ≠ "java/lang/invoke/MethodHandle" ∧ yX8_vector.cls ≠ "java/lang/invoke/VarHandle" ∧ (parseMethodDescriptor yX8_vector.desc).map (fun d => d.parameters.length) = some 3 := ⟨by decide +kernel, by decide +kernel, by decide +kernel⟩
theorem xd_X8_entry : yX8_entry.cls ≠ "java/lang/invoke/MethodHandle" ∧ yX8_entry.cls ≠ "java/lang/invoke/VarHandle" ∧ (parseMethodDescriptor yX8_entry.desc).map (fun d => d.parameters.length) = some 3 := ⟨by decide +kernel, by decide +kernel, by decide +kernel⟩
theorem xd_X8_content : yX8_content.cls ≠ "java/lang/invoke/MethodHandle" ∧ yX8_content.cls ≠ "java/lang/invoke/VarHandle" ∧ (parseMethodDescriptor yX8_content.desc).map (fun d => d.parameters.length) = some 2 := ⟨by decide +kernel, by decide +kernel, by decide +kernel⟩
theorem xd_X8_view : yX8_view.cls ≠ "java/lang/invoke/MethodHandle" ∧ yX8_view.cls ≠ "java/lang/invoke/VarHandle" ∧ (parseMethodDescriptor yX8_view.desc).map (fun d => d.parameters.length) = some 2 := ⟨by decide +kernel, by decide +kernel, by decide +kernel⟩
theorem xd_X8_compared : yX8_compared.cls ≠ "java/lang/invoke/MethodHandle" ∧ yX8_compared.cls ≠ "java/lang/invoke/VarHandle" ∧ (parseMethodDescriptor yX8_compared.desc).map (fun d => d.parameters.length) = some 3 := ⟨by decide +kernel, by decide +kernel, by decide +kernel⟩
theorem xd_X8_compare : yX8_compare.cls ≠ "java/lang/invoke/MethodHandle" ∧ yX8_compare.cls ≠ "java/lang/invoke/VarHandle" ∧ (parseMethodDescriptor yX8_compare.desc).map (fun d => d.parameters.length) = some 3 := ⟨by decide +kernel, by decide +kernel, by decide +kernel⟩
theorem xd_X8_forkedPairs : yX8_forkedPairs.cls ≠ "java/lang/invoke/MethodHandle" ∧ yX8_forkedPairs.cls ≠ "java/lang/invoke/VarHandle" ∧ (parseMethodDescriptor yX8_forkedPairs.desc).map (fun d => d.parameters.length) = some 0 := ⟨by decide +kernel, by decide +kernel, by decide +kernel⟩
theorem xd_X8_tellingLetter : yX8_tellingLetter.cls ≠ "java/lang/invoke/MethodHandle" ∧ yX8_tellingLetter.cls ≠ "java/lang/invoke/VarHandle" ∧ (parseMethodDescriptor yX8_tellingLetter.desc).map (fun d => d.parameters.length) = some 0 := ⟨by decide +kernel, by decide +kernel, by decide +kernel⟩
theorem xd_X8_unaware : yX8_unaware.cls ≠ "java/lang/invoke/MethodHandle" ∧ yX8_unaware.cls ≠ "java/lang/invoke/VarHandle" ∧ (parseMethodDescriptor yX8_unaware.desc).map (fun d => d.parameters.length) = some 0 := ⟨by decide +kernel, by decide +kernel, by decide +kernel⟩
theorem xd_X8_type : yX8_type.cls ≠ "java/lang/invoke/MethodHandle" ∧ yX8_type.cls ≠ "java/lang/invoke/VarHandle" ∧ (parseMethodDescriptor yX8_type.desc).map (fun d => d.parameters.length) = some 1 := ⟨by decide +kernel, by decide +kernel, by decide +kernel⟩
theorem xd_X8_clearText : yX8_clearText.cls ≠ "java/lang/invoke/MethodHandle" ∧ yX8_clearText.cls ≠ "java/lang/invoke/VarHandle" ∧ (parseMethodDescriptor yX8_clearText.desc).map (fun d => d.parameters.length) = some 0 := ⟨by decide +kernel, by decide +kernel, by decide +kernel⟩
theorem xd_X8_isCommand : yX8_isCommand.cls ≠ "java/lang/invoke/MethodHandle" ∧ yX8_isCommand.cls ≠ "java/lang/invoke/VarHandle" ∧ (parseMethodDescriptor yX8_isCommand.desc).map (fun d => d.parameters.length) = some 1 := ⟨by decide +kernel, by decide +kernel, by decide +kernel⟩
theorem xd_X8_fault : yX8_fault.cls ≠ "java/lang/invoke/MethodHandle" ∧ yX8_fault.cls ≠ "java/lang/invoke/VarHandle" ∧ (parseMethodDescriptor yX8_fault.desc).map (fun d => d.parameters.length) = some 0 := ⟨by decide +kernel, by decide +kernel, by decide +kernel⟩
theorem xd_X8_carries : yX8_carries.cls ≠ "java/lang/invoke/MethodHandle" ∧ yX8_carries.cls ≠ "java/lang/invoke/VarHandle" ∧ (parseMethodDescriptor yX8_carries.desc).map (fun d => d.parameters.length) = some 3 := ⟨by decide +kernel, by decide +kernel, by decide +kernel⟩
theorem xd_X8_run : yX8_run.cls ≠ "java/lang/invoke/MethodHandle" ∧ yX8_run.cls ≠ "java/lang/invoke/VarHandle" ∧ (parseMethodDescriptor yX8_run.desc).map (fun d => d.parameters.length) = some 0 := ⟨by decide +kernel, by decide +kernel, by decide +kernel⟩
theorem xd_L_law : yL_law.cls ≠ "java/lang/invoke/MethodHandle" ∧ yL_law.cls ≠ "java/lang/invoke/VarHandle" ∧ (parseMethodDescriptor yL_law.desc).map (fun d => d.parameters.length) = some 1 := ⟨by decide +kernel, by decide +kernel, by decide +kernel⟩
theorem xw_lay_X0 : ∀ w ∈ u_ws RX0 TX0 2, w ∈ xtbl := fun w h => by
  have hp : u_ws RX0 TX0 2 = ([126, 128] : List Nat).filterMap (fun i => lw_tbl[i]?) := by decide +kernel
  have hg : (u_ws RX0 TX0 2).all goodWord = true := by decide +kernel
  have h1 := List.all_eq_true.mp hg w h
  rw [hp] at h
  obtain ⟨i, -, hi⟩ := List.mem_filterMap.mp h
  exact xt_of i hi h1
theorem xw_lay_X1 : ∀ w ∈ u_ws RX1 TX1 2, w ∈ xtbl := fun w h => by
  have hp : u_ws RX1 TX1 2 = ([194, 196] : List Nat).filterMap (fun i => lw_tbl[i]?) := by decide +kernel
  have hg : (u_ws RX1 TX1 2).all goodWord = true := by decide +kernel
  have h1 := List.all_eq_true.mp hg w h
  rw [hp] at h
  obtain ⟨i, -, hi⟩ := List.mem_filterMap.mp h
  exact xt_of i hi h1
theorem xw_lay_X2 : ∀ w ∈ u_ws RX2 TX2 11, w ∈ xtbl := fun w h => by
  have hp : u_ws RX2 TX2 11 = ([153, 155, 157, 159, 161, 163, 165, 167, 169, 171, 173] : List Nat).filterMap (fun i => lw_tbl[i]?) := by decide +kernel
  have hg : (u_ws RX2 TX2 11).all goodWord = true := by decide +kernel
  have h1 := List.all_eq_true.mp hg w h
  rw [hp] at h
  obtain ⟨i, -, hi⟩ := List.mem_filterMap.mp h
  exact xt_of i hi h1
theorem xw_lay_X3 : ∀ w ∈ u_ws RX3 TX3 4, w ∈ xtbl := fun w h => by
  have hp : u_ws RX3 TX3 4 = ([103, 105, 107, 109] : List Nat).filterMap (fun i => lw_tbl[i]?) := by decide +kernel
  have hg : (u_ws RX3 TX3 4).all goodWord = true := by decide +kernel
  have h1 := List.all_eq_true.mp hg w h
  rw [hp] at h
  obtain ⟨i, -, hi⟩ := List.mem_filterMap.mp h
  exact xt_of i hi h1
theorem xw_lay_X4 : ∀ w ∈ u_ws RX4 TX4 2, w ∈ xtbl := fun w h => by
  have hp : u_ws RX4 TX4 2 = ([63, 65] : List Nat).filterMap (fun i => lw_tbl[i]?) := by decide +kernel
  have hg : (u_ws RX4 TX4 2).all goodWord = true := by decide +kernel
  have h1 := List.all_eq_true.mp hg w h
  rw [hp] at h
  obtain ⟨i, -, hi⟩ := List.mem_filterMap.mp h
  exact xt_of i hi h1
theorem xw_lay_X5 : ∀ w ∈ u_ws RX5 TX5 1, w ∈ xtbl := fun w h => by
  have hp : u_ws RX5 TX5 1 = ([84] : List Nat).filterMap (fun i => lw_tbl[i]?) := by decide +kernel
  have hg : (u_ws RX5 TX5 1).all goodWord = true := by decide +kernel
  have h1 := List.all_eq_true.mp hg w h
  rw [hp] at h
  obtain ⟨i, -, hi⟩ := List.mem_filterMap.mp h
  exact xt_of i hi h1
theorem xw_lay_X6 : ∀ w ∈ u_ws RX6 TX6 4, w ∈ xtbl := fun w h => by
  have hp : u_ws RX6 TX6 4 = ([206, 208, 210, 212] : List Nat).filterMap (fun i => lw_tbl[i]?) := by decide +kernel
  have hg : (u_ws RX6 TX6 4).all goodWord = true := by decide +kernel
  have h1 := List.all_eq_true.mp hg w h
  rw [hp] at h
  obtain ⟨i, -, hi⟩ := List.mem_filterMap.mp h
  exact xt_of i hi h1
theorem xw_lay_X7 : ∀ w ∈ u_ws RX7 TX7 5, w ∈ xtbl := fun w h => by
  have hp : u_ws RX7 TX7 5 = ([220, 222, 224, 226, 228] : List Nat).filterMap (fun i => lw_tbl[i]?) := by decide +kernel
  have hg : (u_ws RX7 TX7 5).all goodWord = true := by decide +kernel
  have h1 := List.all_eq_true.mp hg w h
  rw [hp] at h
  obtain ⟨i, -, hi⟩ := List.mem_filterMap.mp h
  exact xt_of i hi h1
theorem xw_lay_X8 : ∀ w ∈ u_ws RX8 TX8 25, w ∈ xtbl := fun w h => by
  have hp : u_ws RX8 TX8 25 = ([572, 574, 576, 578, 580, 582, 584, 586, 588, 590, 592, 594, 596, 598, 600, 602, 604, 606, 608, 610, 612, 614, 616, 618, 620] : List Nat).filterMap (fun i => lw_tbl[i]?) := by decide +kernel
  have hg : (u_ws RX8 TX8 25).all goodWord = true := by decide +kernel
  have h1 := List.all_eq_true.mp hg w h
  rw [hp] at h
  obtain ⟨i, -, hi⟩ := List.mem_filterMap.mp h
  exact xt_of i hi h1
/-- what a state says of the nest mates and of the arrays of references -/
def xNest (U : State) : Prop := va_Nw (.methodLinkNest RX7 23 yX4_init RX7) U ∧ va_Nw (.methodLinkNest RX7 35 yX2_init RX7) U ∧ va_Nw (.methodLinkNest RX2 11 yX5_init RX7) U ∧ va_Nw (.methodLinkNest RX2 23 yX3_init RX7) U ∧ va_Nw (.methodLinkNest RX3 9 yX5_init RX7) U ∧ va_Nw (.methodLinkNest RX0 17 yX5_init RX7) U ∧ va_Nw (.methodLinkNest RX1 21 yX5_init RX7) U ∧ va_AO RX2 U ∧ va_AO RX6 U ∧ va_AO RX5 U ∧ va_AO RX1 U
theorem xNest.warm {s U : State} (hW : s.WarmedH U.vm) (h : xNest s) : xNest U := by
  obtain ⟨h0, h1, h2, h3, h4, h5, h6, h7, h8, h9, h10⟩ := h
  exact ⟨va_Nw.warmM hW h0, va_Nw.warmM hW h1, va_Nw.warmM hW h2, va_Nw.warmM hW h3, va_Nw.warmM hW h4, va_Nw.warmM hW h5, va_Nw.warmM hW h6, h7.moved hW.alike, h8.moved hW.alike, h9.moved hW.alike, h10.moved hW.alike⟩
theorem xNest.same {s U : State} (hW : s.vm = U.vm) (h : xNest s) : xNest U := by
  have ha : s.vm.Alike U.vm := by rw [hW]; exact Vm.Alike.refl _
  obtain ⟨h0, h1, h2, h3, h4, h5, h6, h7, h8, h9, h10⟩ := h
  exact ⟨h0.same rfl hW, h1.same rfl hW, h2.same rfl hW, h3.same rfl hW, h4.same rfl hW, h5.same rfl hW, h6.same rfl hW, h7.moved ha, h8.moved ha, h9.moved ha, h10.moved ha⟩
theorem xNest.start {s : State} {A : Array Value} (h : ∀ w ∈ lw_tbl, w.before A s = true) : xNest s := ⟨.of rfl (h _ xn_X7_23), .of rfl (h _ xn_X7_35), .of rfl (h _ xn_X2_11), .of rfl (h _ xn_X2_23), .of rfl (h _ xn_X3_9), .of rfl (h _ xn_X0_17), .of rfl (h _ xn_X1_21), .of (h _ xw_ao_X2), .of (h _ xw_ao_X6), .of (h _ xw_ao_X5), .of (h _ xw_ao_X1)⟩
theorem xNest.X7_23 {s : State} (h : xNest s) : va_Nw (.methodLinkNest RX7 23 yX4_init RX7) s := h.1
theorem xNest.X7_35 {s : State} (h : xNest s) : va_Nw (.methodLinkNest RX7 35 yX2_init RX7) s := h.2.1
theorem xNest.X2_11 {s : State} (h : xNest s) : va_Nw (.methodLinkNest RX2 11 yX5_init RX7) s := h.2.2.1
theorem xNest.X2_23 {s : State} (h : xNest s) : va_Nw (.methodLinkNest RX2 23 yX3_init RX7) s := h.2.2.2.1
theorem xNest.X3_9 {s : State} (h : xNest s) : va_Nw (.methodLinkNest RX3 9 yX5_init RX7) s := h.2.2.2.2.1
theorem xNest.X0_17 {s : State} (h : xNest s) : va_Nw (.methodLinkNest RX0 17 yX5_init RX7) s := h.2.2.2.2.2.1
theorem xNest.X1_21 {s : State} (h : xNest s) : va_Nw (.methodLinkNest RX1 21 yX5_init RX7) s := h.2.2.2.2.2.2.1
theorem xNest.ao_X2 {s : State} (h : xNest s) : va_AO RX2 s := h.2.2.2.2.2.2.2.1
theorem xNest.ao_X6 {s : State} (h : xNest s) : va_AO RX6 s := h.2.2.2.2.2.2.2.2.1
theorem xNest.ao_X5 {s : State} (h : xNest s) : va_AO RX5 s := h.2.2.2.2.2.2.2.2.2.1
theorem xNest.ao_X1 {s : State} (h : xNest s) : va_AO RX1 s := h.2.2.2.2.2.2.2.2.2.2
