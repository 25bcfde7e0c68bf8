noncomputable section
set_option maxRecDepth 100000 in
theorem o_X9_want : ri_okq (m_X9_want, 3, 1, t_X9_want) := ri_okq_of 1023 93 1022 53 (by decide +kernel) (by decide +kernel)
set_option maxRecDepth 100000 in
theorem o_X9_takeFigure : ri_okq (m_X9_takeFigure, 2, 1, t_X9_takeFigure) := ri_okq_of 1017 93 1016 52 (by decide +kernel) (by decide +kernel)
set_option maxRecDepth 100000 in
theorem o_X9_readTwist : ri_okq (m_X9_readTwist, 1, 1, t_X9_readTwist) := ri_okq_of 1013 93 1012 51 (by decide +kernel) (by decide +kernel)
set_option maxRecDepth 100000 in
theorem o_X9_closeBracket : ri_okq (m_X9_closeBracket, 0, 1, t_X9_closeBracket) := ri_okq_of 1027 93 1026 54 (by decide +kernel) (by decide +kernel)
set_option maxRecDepth 100000 in
theorem o_X9_readItem : ri_okq (m_X9_readItem, 1, 1, t_X9_readItem) := ri_okq_of 1009 93 1008 50 (by decide +kernel) (by decide +kernel)
set_option maxRecDepth 100000 in
theorem o_X9_read : ri_okq (m_X9_read, 1, 1, t_X9_read) := ri_okq_of 996 93 994 995 (by decide +kernel) (by decide +kernel)
set_option maxRecDepth 100000 in
theorem o_X9_fault : ri_okq (m_X9_fault, 0, 1, t_X9_fault) := ri_okq_of 1031 93 1029 1030 (by decide +kernel) (by decide +kernel)
set_option maxRecDepth 100000 in
theorem o_X9_twist : ri_okq (m_X9_twist, 2, 1, t_X9_twist) := ri_okq_of 1035 93 1033 1034 (by decide +kernel) (by decide +kernel)
set_option maxRecDepth 100000 in
theorem o_X9_chain : ri_okq (m_X9_chain, 3, 1, t_X9_chain) := ri_okq_of 1039 93 1037 1038 (by decide +kernel) (by decide +kernel)
set_option maxRecDepth 100000 in
theorem o_X9_turn : ri_okq (m_X9_turn, 2, 1, t_X9_turn) := ri_okq_of 1043 93 1041 1042 (by decide +kernel) (by decide +kernel)
set_option maxRecDepth 100000 in
theorem o_X9_image : ri_okq (m_X9_image, 3, 1, t_X9_image) := ri_okq_of 1047 93 1045 1046 (by decide +kernel) (by decide +kernel)
set_option maxRecDepth 100000 in
theorem o_X9_carried : ri_okq (m_X9_carried, 3, 1, t_X9_carried) := ri_okq_of 1075 93 1073 1074 (by decide +kernel) (by decide +kernel)
set_option maxRecDepth 100000 in
theorem o_X9_meetsThen : ri_okq (m_X9_meetsThen, 3, 1, t_X9_meetsThen) := ri_okq_of 1087 93 1085 1086 (by decide +kernel) (by decide +kernel)
set_option maxRecDepth 100000 in
theorem o_X9_startImages : ri_okq (m_X9_startImages, 0, 1, t_X9_startImages) := ri_okq_of 1099 93 1098 64 (by decide +kernel) (by decide +kernel)
set_option maxRecDepth 100000 in
theorem o_X9_goOn : ri_okq (m_X9_goOn, 1, 1, t_X9_goOn) := ri_okq_of 1103 93 1102 65 (by decide +kernel) (by decide +kernel)
set_option maxRecDepth 100000 in
theorem o_X9_findImages : ri_okq (m_X9_findImages, 1, 1, t_X9_findImages) := ri_okq_of 1095 93 1094 63 (by decide +kernel) (by decide +kernel)
set_option maxRecDepth 100000 in
theorem o_X9_isImage : ri_okq (m_X9_isImage, 1, 1, t_X9_isImage) := ri_okq_of 1107 93 1106 66 (by decide +kernel) (by decide +kernel)
set_option maxRecDepth 100000 in
theorem o_X9_same : ri_okq (m_X9_same, 2, 1, t_X9_same) := ri_okq_of 1091 93 1089 1090 (by decide +kernel) (by decide +kernel)
set_option maxRecDepth 100000 in
theorem o_X9_putRim : ri_okq (m_X9_putRim, 1, 1, t_X9_putRim) := ri_okq_of 1123 93 1122 69 (by decide +kernel) (by decide +kernel)
set_option maxRecDepth 100000 in
theorem o_X9_isTurns : ri_okq (m_X9_isTurns, 1, 1, t_X9_isTurns) := ri_okq_of 1119 93 1118 68 (by decide +kernel) (by decide +kernel)
set_option maxRecDepth 100000 in
theorem o_X9_findTurns : ri_okq (m_X9_findTurns, 0, 1, t_X9_findTurns) := ri_okq_of 1115 93 1114 67 (by decide +kernel) (by decide +kernel)
set_option maxRecDepth 100000 in
theorem o_X9_turns : ri_okq (m_X9_turns, 1, 1, t_X9_turns) := ri_okq_of 1111 93 1109 1110 (by decide +kernel) (by decide +kernel)
set_option maxRecDepth 100000 in
theorem o_X9_findOrder : ri_okq (m_X9_findOrder, 2, 1, t_X9_findOrder) := ri_okq_of 1132 93 1131 70 (by decide +kernel) (by decide +kernel)
set_option maxRecDepth 100000 in
theorem o_X9_order : ri_okq (m_X9_order, 2, 1, t_X9_order) := ri_okq_of 1127 93 1125 1126 (by decide +kernel) (by decide +kernel)
set_option maxRecDepth 100000 in
theorem o_X9_tableOf : ri_okq (m_X9_tableOf, 2, 1, t_X9_tableOf) := ri_okq_of 1140 93 1139 71 (by decide +kernel) (by decide +kernel)
set_option maxRecDepth 100000 in
theorem o_X9_table : ri_okq (m_X9_table, 3, 1, t_X9_table) := ri_okq_of 1136 93 1134 1135 (by decide +kernel) (by decide +kernel)
set_option maxRecDepth 100000 in
theorem o_X9_determinant : ri_okq (m_X9_determinant, 1, 1, t_X9_determinant) := ri_okq_of 1154 93 1153 72 (by decide +kernel) (by decide +kernel)
end
