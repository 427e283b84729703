set_option maxRecDepth 100000 in
theorem kX5_90 : WVt RX5 90 yX5_preparePlan cX5_preparePlan 3 none 0 := ⟨⟨w133, w1, ⟨by decide, by decide⟩, by decide +kernel, w130⟩, w132, (ws_sel (List.mem_of_getElem? (i := 0) rfl) rfl)⟩
set_option maxRecDepth 100000 in
theorem kX5_199 : WVt RX5 199 yX5_lineUpPots cX5_lineUpPots 2 none 0 := ⟨⟨w137, w1, ⟨by decide, by decide⟩, by decide +kernel, w134⟩, w136, (ws_sel (List.mem_of_getElem? (i := 1) rfl) rfl)⟩
set_option maxRecDepth 100000 in
theorem kX5_219 : WVt RX5 219 yX5_lineUp cX5_lineUp 3 none 1 := ⟨⟨w164, w1, ⟨by decide, by decide⟩, by decide +kernel, w161⟩, w163, (ws_sel (List.mem_of_getElem? (i := 2) rfl) rfl)⟩
set_option maxRecDepth 100000 in
theorem kJx4a65c_135 : WVt RJx4a65c 135 yJx4a65c_rangeCheckForAdd_d00df cJx4a65c_rangeCheckForAdd_d00df 2 none 1 := ⟨⟨w181, w4, ⟨by decide, by decide⟩, by decide +kernel, w178⟩, w180, (ws_sel (List.mem_of_getElem? (i := 3) rfl) rfl)⟩
set_option maxRecDepth 100000 in
theorem kJx4a65c_198 : WVt RJx4a65c 198 yJx4a65c_outOfBoundsMsg_b52d3 cJx4a65c_outOfBoundsMsg_b52d3 2 (some (.object "java/lang/String")) 1 := ⟨⟨w226, w4, ⟨by decide, by decide⟩, by decide +kernel, w223⟩, w225, (ws_sel (List.mem_of_getElem? (i := 5) rfl) rfl)⟩
set_option maxRecDepth 100000 in
theorem kJx4a65c_129 : WVt RJx4a65c 129 yJx4a65c_grow_d5877 cJx4a65c_grow_d5877 1 (some (.array (.object "java/lang/Object"))) 0 := ⟨⟨w515, w4, ⟨by decide, by decide⟩, by decide +kernel, w512⟩, w514, (ws_sel (List.mem_of_getElem? (i := 6) rfl) rfl)⟩
set_option maxRecDepth 100000 in
theorem kJx4a65c_69 : WVt RJx4a65c 69 yJx4a65c_grow_92f84 cJx4a65c_grow_92f84 4 (some (.array (.object "java/lang/Object"))) 1 := ⟨⟨w519, w4, ⟨by decide, by decide⟩, by decide +kernel, w516⟩, w518, (ws_sel (List.mem_of_getElem? (i := 7) rfl) rfl)⟩
set_option maxRecDepth 100000 in
theorem kX3_57 : WVt RX3 57 yX3_isCost cX3_isCost 2 (some .boolean) 1 := ⟨⟨w563, w5, ⟨by decide, by decide⟩, by decide +kernel, w560⟩, w562, (ws_sel (List.mem_of_getElem? (i := 8) rfl) rfl)⟩
set_option maxRecDepth 100000 in
theorem kX5_209 : WVt RX5 209 yX5_costsThatMayBePaidBy cX5_costsThatMayBePaidBy 4 (some .int) 1 := ⟨⟨w567, w1, ⟨by decide, by decide⟩, by decide +kernel, w564⟩, w566, (ws_sel (List.mem_of_getElem? (i := 9) rfl) rfl)⟩
set_option maxRecDepth 100000 in
theorem kX3_61 : WVt RX3 61 yX3_isPot cX3_isPot 2 (some .boolean) 1 := ⟨⟨w596, w5, ⟨by decide, by decide⟩, by decide +kernel, w593⟩, w595, (ws_sel (List.mem_of_getElem? (i := 10) rfl) rfl)⟩
set_option maxRecDepth 100000 in
theorem kX3_65 : WVt RX3 65 yX3_payMoreOf cX3_payMoreOf 5 (some .boolean) 1 := ⟨⟨w605, w5, ⟨by decide, by decide⟩, by decide +kernel, w602⟩, w604, (ws_sel (List.mem_of_getElem? (i := 11) rfl) rfl)⟩
set_option maxRecDepth 100000 in
theorem kX3_82 : WVt RX3 82 yX3_potsWithMoney cX3_potsWithMoney 3 (some .int) 0 := ⟨⟨w613, w5, ⟨by decide, by decide⟩, by decide +kernel, w610⟩, w612, (ws_sel (List.mem_of_getElem? (i := 12) rfl) rfl)⟩
set_option maxRecDepth 100000 in
theorem kX3_86 : WVt RX3 86 yX3_potsWith cX3_potsWith 5 (some .int) 2 := ⟨⟨w617, w5, ⟨by decide, by decide⟩, by decide +kernel, w614⟩, w616, (ws_sel (List.mem_of_getElem? (i := 13) rfl) rfl)⟩
set_option maxRecDepth 100000 in
theorem kX3_90 : WVt RX3 90 yX3_findChain cX3_findChain 10 (some .int) 3 := ⟨⟨w622, w5, ⟨by decide, by decide⟩, by decide +kernel, w619⟩, w621, (ws_sel (List.mem_of_getElem? (i := 14) rfl) rfl)⟩
set_option maxRecDepth 100000 in
theorem kX3_123 : WVt RX3 123 yX3_costBetween cX3_costBetween 6 (some .int) 3 := ⟨⟨w626, w5, ⟨by decide, by decide⟩, by decide +kernel, w623⟩, w625, (ws_sel (List.mem_of_getElem? (i := 15) rfl) rfl)⟩
set_option maxRecDepth 100000 in
theorem kX3_94 : WVt RX3 94 yX3_firstOfChain cX3_firstOfChain 4 (some .int) 1 := ⟨⟨w630, w5, ⟨by decide, by decide⟩, by decide +kernel, w627⟩, w629, (ws_sel (List.mem_of_getElem? (i := 16) rfl) rfl)⟩
set_option maxRecDepth 100000 in
theorem kX3_126 : WVt RX3 126 yX3_hasAhead cX3_hasAhead 2 (some .boolean) 1 := ⟨⟨w634, w5, ⟨by decide, by decide⟩, by decide +kernel, w631⟩, w633, (ws_sel (List.mem_of_getElem? (i := 17) rfl) rfl)⟩
set_option maxRecDepth 100000 in
theorem kX3_100 : WVt RX3 100 yX3_narrowest cX3_narrowest 6 (some .int) 2 := ⟨⟨w642, w5, ⟨by decide, by decide⟩, by decide +kernel, w639⟩, w641, (ws_sel (List.mem_of_getElem? (i := 18) rfl) rfl)⟩
set_option maxRecDepth 100000 in
theorem kX3_103 : WVt RX3 103 yX3_shiftAlongChain cX3_shiftAlongChain 5 none 2 := ⟨⟨w650, w5, ⟨by decide, by decide⟩, by decide +kernel, w647⟩, w649, (ws_sel (List.mem_of_getElem? (i := 19) rfl) rfl)⟩
set_option maxRecDepth 100000 in
theorem kX3_107 : WVt RX3 107 yX3_addShare cX3_addShare 5 none 3 := ⟨⟨w654, w5, ⟨by decide, by decide⟩, by decide +kernel, w651⟩, w653, (ws_sel (List.mem_of_getElem? (i := 20) rfl) rfl)⟩
set_option maxRecDepth 100000 in
theorem kX3_111 : WVt RX3 111 yX3_addToPot cX3_addToPot 3 none 2 := ⟨⟨w658, w5, ⟨by decide, by decide⟩, by decide +kernel, w655⟩, w657, (ws_sel (List.mem_of_getElem? (i := 21) rfl) rfl)⟩
set_option maxRecDepth 100000 in
theorem kX3_114 : WVt RX3 114 yX3_planCost cX3_planCost 3 none 2 := ⟨⟨w662, w5, ⟨by decide, by decide⟩, by decide +kernel, w659⟩, w661, (ws_sel (List.mem_of_getElem? (i := 22) rfl) rfl)⟩
set_option maxRecDepth 100000 in
theorem kX3_68 : WVt RX3 68 yX3_drawMoreOn cX3_drawMoreOn 4 (some .boolean) 1 := ⟨⟨w670, w5, ⟨by decide, by decide⟩, by decide +kernel, w667⟩, w669, (ws_sel (List.mem_of_getElem? (i := 23) rfl) rfl)⟩
set_option maxRecDepth 100000 in
theorem kX3_117 : WVt RX3 117 yX3_potsAfter cX3_potsAfter 2 (some .int) 1 := ⟨⟨w674, w5, ⟨by decide, by decide⟩, by decide +kernel, w671⟩, w673, (ws_sel (List.mem_of_getElem? (i := 24) rfl) rfl)⟩
set_option maxRecDepth 100000 in
theorem kX3_75 : WVt RX3 75 yX3_payMoreFrom cX3_payMoreFrom 6 (some .boolean) 2 := ⟨⟨w682, w5, ⟨by decide, by decide⟩, by decide +kernel, w679⟩, w681, (ws_sel (List.mem_of_getElem? (i := 25) rfl) rfl)⟩
set_option maxRecDepth 100000 in
theorem kX5_105 : WVt RX5 105 yX5_bookPlan cX5_bookPlan 3 none 0 := ⟨⟨w690, w1, ⟨by decide, by decide⟩, by decide +kernel, w687⟩, w689, (ws_sel (List.mem_of_getElem? (i := 26) rfl) rfl)⟩
set_option maxRecDepth 100000 in
theorem kX5_108 : WVt RX5 108 yX5_endEmptyCommitments cX5_endEmptyCommitments 2 none 0 := ⟨⟨w711, w1, ⟨by decide, by decide⟩, by decide +kernel, w708⟩, w710, (ws_sel (List.mem_of_getElem? (i := 27) rfl) rfl)⟩
set_option maxRecDepth 100000 in
theorem kX5_79 : WVt RX5 79 yX5_endCommitment cX5_endCommitment 3 none 1 := ⟨⟨w716, w1, ⟨by decide, by decide⟩, by decide +kernel, w713⟩, w715, (ws_sel (List.mem_of_getElem? (i := 28) rfl) rfl)⟩
set_option maxRecDepth 100000 in
theorem kJx4a65c_144 : WVt RJx4a65c 144 yJx4a65c_fastRemove_b59b0 cJx4a65c_fastRemove_b59b0 4 none 2 := ⟨⟨w725, w4, ⟨by decide, by decide⟩, by decide +kernel, w722⟩, w724, (ws_sel (List.mem_of_getElem? (i := 29) rfl) rfl)⟩
set_option maxRecDepth 100000 in
theorem kJx4a65c_131 : WVt RJx4a65c 131 yJx4a65c_add_72be8 cJx4a65c_add_72be8 4 none 3 := ⟨⟨w829, w4, ⟨by decide, by decide⟩, by decide +kernel, w826⟩, w828, (ws_sel (List.mem_of_getElem? (i := 30) rfl) rfl)⟩
set_option maxRecDepth 100000 in
theorem kX5_58 : WVt RX5 58 yX5_fundAt cX5_fundAt 2 (some (.object "RestrictedFunds$Fund")) 1 := ⟨⟨w841, w1, ⟨by decide, by decide⟩, by decide +kernel, w838⟩, w840, (ws_sel (List.mem_of_getElem? (i := 31) rfl) rfl)⟩
set_option maxRecDepth 100000 in
theorem kX5_74 : WVt RX5 74 yX5_commitmentAt cX5_commitmentAt 2 (some (.object "RestrictedFunds$Commitment")) 1 := ⟨⟨w879, w1, ⟨by decide, by decide⟩, by decide +kernel, w876⟩, w878, (ws_sel (List.mem_of_getElem? (i := 32) rfl) rfl)⟩
set_option maxRecDepth 100000 in
theorem kX5_83 : WVt RX5 83 yX5_lapseCommitments cX5_lapseCommitments 3 (some .int) 0 := ⟨⟨w891, w1, ⟨by decide, by decide⟩, by decide +kernel, w888⟩, w890, (ws_sel (List.mem_of_getElem? (i := 33) rfl) rfl)⟩
set_option maxRecDepth 100000 in
theorem kX5_111 : WVt RX5 111 yX5_shareByDirectCosts cX5_shareByDirectCosts 11 (some .int) 1 := ⟨⟨w933, w1, ⟨by decide, by decide⟩, by decide +kernel, w930⟩, w932, (ws_sel (List.mem_of_getElem? (i := 34) rfl) rfl)⟩
set_option maxRecDepth 100000 in
theorem kX5_242 : WVt RX5 242 yX5_directCostsWithRoom cX5_directCostsWithRoom 5 (some .long) 0 := ⟨⟨w937, w1, ⟨by decide, by decide⟩, by decide +kernel, w934⟩, w936, (ws_sel (List.mem_of_getElem? (i := 35) rfl) rfl)⟩
set_option maxRecDepth 100000 in
theorem kX5_115 : WVt RX5 115 yX5_shareOnes cX5_shareOnes 5 (some .int) 1 := ⟨⟨w954, w1, ⟨by decide, by decide⟩, by decide +kernel, w951⟩, w953, (ws_sel (List.mem_of_getElem? (i := 36) rfl) rfl)⟩
set_option maxRecDepth 100000 in
theorem kX5_141 : WVt RX5 141 yX5_costAt cX5_costAt 2 (some (.object "RestrictedFunds$Cost")) 1 := ⟨⟨w1021, w1, ⟨by decide, by decide⟩, by decide +kernel, w1018⟩, w1020, (ws_sel (List.mem_of_getElem? (i := 37) rfl) rfl)⟩
set_option maxRecDepth 100000 in
theorem kX5_162 : WVt RX5 162 yX5_isAllowedBySomeFund cX5_isAllowedBySomeFund 3 (some .boolean) 1 := ⟨⟨w1060, w1, ⟨by decide, by decide⟩, by decide +kernel, w1057⟩, w1059, (ws_sel (List.mem_of_getElem? (i := 38) rfl) rfl)⟩
set_option maxRecDepth 100000 in
theorem kX5_166 : WVt RX5 166 yX5_isSuitedBySomeFund cX5_isSuitedBySomeFund 3 (some .boolean) 1 := ⟨⟨w1064, w1, ⟨by decide, by decide⟩, by decide +kernel, w1061⟩, w1063, (ws_sel (List.mem_of_getElem? (i := 39) rfl) rfl)⟩
set_option maxRecDepth 100000 in
theorem kX5_169 : WVt RX5 169 yX5_isPayableFromSomePot cX5_isPayableFromSomePot 4 (some .boolean) 1 := ⟨⟨w1069, w1, ⟨by decide, by decide⟩, by decide +kernel, w1066⟩, w1068, (ws_sel (List.mem_of_getElem? (i := 40) rfl) rfl)⟩
set_option maxRecDepth 100000 in
theorem kX5_172 : WVt RX5 172 yX5_isHeldInCommitment cX5_isHeldInCommitment 4 (some .boolean) 1 := ⟨⟨w1073, w1, ⟨by decide, by decide⟩, by decide +kernel, w1070⟩, w1072, (ws_sel (List.mem_of_getElem? (i := 41) rfl) rfl)⟩
set_option maxRecDepth 100000 in
theorem kX6_111 : WVt RX6 111 yX6_fails cX6_fails 2 (some .int) 1 := ⟨⟨w1189, w6, ⟨by decide, by decide⟩, by decide +kernel, w1186⟩, w1188, (ws_sel (List.mem_of_getElem? (i := 42) rfl) rfl)⟩
set_option maxRecDepth 100000 in
theorem kX6_115 : WVt RX6 115 yX6_isFund cX6_isFund 2 (some .boolean) 1 := ⟨⟨w1197, w6, ⟨by decide, by decide⟩, by decide +kernel, w1194⟩, w1196, (ws_sel (List.mem_of_getElem? (i := 43) rfl) rfl)⟩
set_option maxRecDepth 100000 in
theorem kX6_99 : WVt RX6 99 yX6_allows cX6_allows 3 (some .boolean) 2 := ⟨⟨w1206, w6, ⟨by decide, by decide⟩, by decide +kernel, w1203⟩, w1205, (ws_sel (List.mem_of_getElem? (i := 44) rfl) rfl)⟩
set_option maxRecDepth 100000 in
theorem kX6_124 : WVt RX6 124 yX6_isCommitment cX6_isCommitment 2 (some .boolean) 1 := ⟨⟨w1214, w6, ⟨by decide, by decide⟩, by decide +kernel, w1211⟩, w1213, (ws_sel (List.mem_of_getElem? (i := 45) rfl) rfl)⟩
set_option maxRecDepth 100000 in
theorem kX6_127 : WVt RX6 127 yX6_ends cX6_ends 3 none 1 := ⟨⟨w1218, w6, ⟨by decide, by decide⟩, by decide +kernel, w1215⟩, w1217, (ws_sel (List.mem_of_getElem? (i := 46) rfl) rfl)⟩
set_option maxRecDepth 100000 in
theorem kX6_161 : WVt RX6 161 yX6_plans cX6_plans 4 none 0 := ⟨⟨w1234, w6, ⟨by decide, by decide⟩, by decide +kernel, w1231⟩, w1233, (ws_sel (List.mem_of_getElem? (i := 47) rfl) rfl)⟩
set_option maxRecDepth 100000 in
theorem kX6_150 : WVt RX6 150 yX6_laysPots cX6_laysPots 4 none 0 := ⟨⟨w1238, w6, ⟨by decide, by decide⟩, by decide +kernel, w1235⟩, w1237, (ws_sel (List.mem_of_getElem? (i := 48) rfl) rfl)⟩
set_option maxRecDepth 100000 in
theorem kX6_138 : WVt RX6 138 yX6_addPot cX6_addPot 4 none 2 := ⟨⟨w1242, w6, ⟨by decide, by decide⟩, by decide +kernel, w1239⟩, w1241, (ws_sel (List.mem_of_getElem? (i := 49) rfl) rfl)⟩
set_option maxRecDepth 100000 in
theorem kX6_134 : WVt RX6 134 yX6_rank cX6_rank 3 (some .int) 2 := ⟨⟨w1246, w6, ⟨by decide, by decide⟩, by decide +kernel, w1243⟩, w1245, (ws_sel (List.mem_of_getElem? (i := 50) rfl) rfl)⟩
set_option maxRecDepth 100000 in
theorem kX6_142 : WVt RX6 142 yX6_suits cX6_suits 3 (some .boolean) 2 := ⟨⟨w1250, w6, ⟨by decide, by decide⟩, by decide +kernel, w1247⟩, w1249, (ws_sel (List.mem_of_getElem? (i := 51) rfl) rfl)⟩
set_option maxRecDepth 100000 in
theorem kX6_153 : WVt RX6 153 yX6_laysSets cX6_laysSets 4 none 1 := ⟨⟨w1254, w6, ⟨by decide, by decide⟩, by decide +kernel, w1251⟩, w1253, (ws_sel (List.mem_of_getElem? (i := 52) rfl) rfl)⟩
set_option maxRecDepth 100000 in
theorem kX6_157 : WVt RX6 157 yX6_most cX6_most 8 (some .int) 3 := ⟨⟨w1258, w6, ⟨by decide, by decide⟩, by decide +kernel, w1255⟩, w1257, (ws_sel (List.mem_of_getElem? (i := 53) rfl) rfl)⟩
set_option maxRecDepth 100000 in
theorem kX6_164 : WVt RX6 164 yX6_parts cX6_parts 6 none 0 := ⟨⟨w1266, w6, ⟨by decide, by decide⟩, by decide +kernel, w1263⟩, w1265, (ws_sel (List.mem_of_getElem? (i := 54) rfl) rfl)⟩
set_option maxRecDepth 100000 in
theorem kX6_173 : WVt RX6 173 yX6_round cX6_round 9 (some .int) 1 := ⟨⟨w1274, w6, ⟨by decide, by decide⟩, by decide +kernel, w1271⟩, w1273, (ws_sel (List.mem_of_getElem? (i := 55) rfl) rfl)⟩
set_option maxRecDepth 100000 in
theorem kX6_167 : WVt RX6 167 yX6_room cX6_room 3 (some .int) 1 := ⟨⟨w1278, w6, ⟨by decide, by decide⟩, by decide +kernel, w1275⟩, w1277, (ws_sel (List.mem_of_getElem? (i := 56) rfl) rfl)⟩
set_option maxRecDepth 100000 in
theorem kX6_170 : WVt RX6 170 yX6_gets cX6_gets 3 none 2 := ⟨⟨w1282, w6, ⟨by decide, by decide⟩, by decide +kernel, w1279⟩, w1281, (ws_sel (List.mem_of_getElem? (i := 57) rfl) rfl)⟩
set_option maxRecDepth 100000 in
theorem kX6_176 : WVt RX6 176 yX6_ones cX6_ones 4 (some .int) 1 := ⟨⟨w1286, w6, ⟨by decide, by decide⟩, by decide +kernel, w1283⟩, w1285, (ws_sel (List.mem_of_getElem? (i := 58) rfl) rfl)⟩
set_option maxRecDepth 100000 in
theorem kX6_179 : WVt RX6 179 yX6_committed cX6_committed 4 (some .int) 1 := ⟨⟨w1306, w6, ⟨by decide, by decide⟩, by decide +kernel, w1303⟩, w1305, (ws_sel (List.mem_of_getElem? (i := 59) rfl) rfl)⟩
set_option maxRecDepth 100000 in
theorem kX6_182 : WVt RX6 182 yX6_isCost cX6_isCost 2 (some .boolean) 1 := ⟨⟨w1346, w6, ⟨by decide, by decide⟩, by decide +kernel, w1343⟩, w1345, (ws_sel (List.mem_of_getElem? (i := 60) rfl) rfl)⟩
