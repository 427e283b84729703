set_option maxRecDepth 100000 in
theorem kJx4a65c_131 : WVt RJx4a65c 131 yJx4a65c_add_72be8 cJx4a65c_add_72be8 4 none 3 := ⟨⟨w265, w4, ⟨by decide, by decide⟩, by decide +kernel, w262⟩, w264, (ws_sel (List.mem_of_getElem? (i := 1) rfl) rfl)⟩
set_option maxRecDepth 100000 in
theorem kJx4a65c_129 : WVt RJx4a65c 129 yJx4a65c_grow_d5877 cJx4a65c_grow_d5877 1 (some (.array (.object "java/lang/Object"))) 0 := ⟨⟨w269, w4, ⟨by decide, by decide⟩, by decide +kernel, w266⟩, w268, (ws_sel (List.mem_of_getElem? (i := 2) rfl) rfl)⟩
set_option maxRecDepth 100000 in
theorem kJx4a65c_69 : WVt RJx4a65c 69 yJx4a65c_grow_92f84 cJx4a65c_grow_92f84 4 (some (.array (.object "java/lang/Object"))) 1 := ⟨⟨w273, w4, ⟨by decide, by decide⟩, by decide +kernel, w270⟩, w272, (ws_sel (List.mem_of_getElem? (i := 3) rfl) rfl)⟩
set_option maxRecDepth 100000 in
theorem kX5_58 : WVt RX5 58 yX5_fundAt cX5_fundAt 2 (some (.object "RestrictedFunds$Fund")) 1 := ⟨⟨w321, w1, ⟨by decide, by decide⟩, by decide +kernel, w318⟩, w320, (ws_sel (List.mem_of_getElem? (i := 4) rfl) rfl)⟩
set_option maxRecDepth 100000 in
theorem kX5_74 : WVt RX5 74 yX5_commitmentAt cX5_commitmentAt 2 (some (.object "RestrictedFunds$Commitment")) 1 := ⟨⟨w359, w1, ⟨by decide, by decide⟩, by decide +kernel, w356⟩, w358, (ws_sel (List.mem_of_getElem? (i := 5) rfl) rfl)⟩
set_option maxRecDepth 100000 in
theorem kX5_79 : WVt RX5 79 yX5_endCommitment cX5_endCommitment 3 none 1 := ⟨⟨w365, w1, ⟨by decide, by decide⟩, by decide +kernel, w362⟩, w364, (ws_sel (List.mem_of_getElem? (i := 6) rfl) rfl)⟩
set_option maxRecDepth 100000 in
theorem kJx4a65c_144 : WVt RJx4a65c 144 yJx4a65c_fastRemove_b59b0 cJx4a65c_fastRemove_b59b0 4 none 2 := ⟨⟨w377, w4, ⟨by decide, by decide⟩, by decide +kernel, w374⟩, w376, (ws_sel (List.mem_of_getElem? (i := 7) rfl) rfl)⟩
set_option maxRecDepth 100000 in
theorem kX5_83 : WVt RX5 83 yX5_lapseCommitments cX5_lapseCommitments 3 (some .int) 0 := ⟨⟨w386, w1, ⟨by decide, by decide⟩, by decide +kernel, w383⟩, w385, (ws_sel (List.mem_of_getElem? (i := 8) rfl) rfl)⟩
set_option maxRecDepth 100000 in
theorem kX5_90 : WVt RX5 90 yX5_preparePlan cX5_preparePlan 3 none 0 := ⟨⟨w426, w1, ⟨by decide, by decide⟩, by decide +kernel, w423⟩, w425, (ws_sel (List.mem_of_getElem? (i := 9) rfl) rfl)⟩
set_option maxRecDepth 100000 in
theorem kX5_199 : WVt RX5 199 yX5_lineUpPots cX5_lineUpPots 2 none 0 := ⟨⟨w430, w1, ⟨by decide, by decide⟩, by decide +kernel, w427⟩, w429, (ws_sel (List.mem_of_getElem? (i := 10) rfl) rfl)⟩
set_option maxRecDepth 100000 in
theorem kX5_219 : WVt RX5 219 yX5_lineUp cX5_lineUp 3 none 1 := ⟨⟨w439, w1, ⟨by decide, by decide⟩, by decide +kernel, w436⟩, w438, (ws_sel (List.mem_of_getElem? (i := 11) rfl) rfl)⟩
set_option maxRecDepth 100000 in
theorem kJx4a65c_135 : WVt RJx4a65c 135 yJx4a65c_rangeCheckForAdd_d00df cJx4a65c_rangeCheckForAdd_d00df 2 none 1 := ⟨⟨w454, w4, ⟨by decide, by decide⟩, by decide +kernel, w451⟩, w453, (ws_sel (List.mem_of_getElem? (i := 12) rfl) rfl)⟩
set_option maxRecDepth 100000 in
theorem kX3_57 : WVt RX3 57 yX3_isCost cX3_isCost 2 (some .boolean) 1 := ⟨⟨w468, w5, ⟨by decide, by decide⟩, by decide +kernel, w465⟩, w467, (ws_sel (List.mem_of_getElem? (i := 13) rfl) rfl)⟩
set_option maxRecDepth 100000 in
theorem kX5_209 : WVt RX5 209 yX5_costsThatMayBePaidBy cX5_costsThatMayBePaidBy 4 (some .int) 1 := ⟨⟨w472, w1, ⟨by decide, by decide⟩, by decide +kernel, w469⟩, w471, (ws_sel (List.mem_of_getElem? (i := 14) rfl) rfl)⟩
set_option maxRecDepth 100000 in
theorem kX3_61 : WVt RX3 61 yX3_isPot cX3_isPot 2 (some .boolean) 1 := ⟨⟨w501, w5, ⟨by decide, by decide⟩, by decide +kernel, w498⟩, w500, (ws_sel (List.mem_of_getElem? (i := 15) rfl) rfl)⟩
set_option maxRecDepth 100000 in
theorem kX3_65 : WVt RX3 65 yX3_payMoreOf cX3_payMoreOf 5 (some .boolean) 1 := ⟨⟨w510, w5, ⟨by decide, by decide⟩, by decide +kernel, w507⟩, w509, (ws_sel (List.mem_of_getElem? (i := 16) rfl) rfl)⟩
set_option maxRecDepth 100000 in
theorem kX3_82 : WVt RX3 82 yX3_potsWithMoney cX3_potsWithMoney 3 (some .int) 0 := ⟨⟨w518, w5, ⟨by decide, by decide⟩, by decide +kernel, w515⟩, w517, (ws_sel (List.mem_of_getElem? (i := 17) rfl) rfl)⟩
set_option maxRecDepth 100000 in
theorem kX3_86 : WVt RX3 86 yX3_potsWith cX3_potsWith 5 (some .int) 2 := ⟨⟨w522, w5, ⟨by decide, by decide⟩, by decide +kernel, w519⟩, w521, (ws_sel (List.mem_of_getElem? (i := 18) rfl) rfl)⟩
set_option maxRecDepth 100000 in
theorem kX3_90 : WVt RX3 90 yX3_findChain cX3_findChain 10 (some .int) 3 := ⟨⟨w527, w5, ⟨by decide, by decide⟩, by decide +kernel, w524⟩, w526, (ws_sel (List.mem_of_getElem? (i := 19) rfl) rfl)⟩
set_option maxRecDepth 100000 in
theorem kX3_123 : WVt RX3 123 yX3_costBetween cX3_costBetween 6 (some .int) 3 := ⟨⟨w531, w5, ⟨by decide, by decide⟩, by decide +kernel, w528⟩, w530, (ws_sel (List.mem_of_getElem? (i := 20) rfl) rfl)⟩
set_option maxRecDepth 100000 in
theorem kX3_94 : WVt RX3 94 yX3_firstOfChain cX3_firstOfChain 4 (some .int) 1 := ⟨⟨w535, w5, ⟨by decide, by decide⟩, by decide +kernel, w532⟩, w534, (ws_sel (List.mem_of_getElem? (i := 21) rfl) rfl)⟩
set_option maxRecDepth 100000 in
theorem kX3_126 : WVt RX3 126 yX3_hasAhead cX3_hasAhead 2 (some .boolean) 1 := ⟨⟨w539, w5, ⟨by decide, by decide⟩, by decide +kernel, w536⟩, w538, (ws_sel (List.mem_of_getElem? (i := 22) rfl) rfl)⟩
set_option maxRecDepth 100000 in
theorem kX3_100 : WVt RX3 100 yX3_narrowest cX3_narrowest 6 (some .int) 2 := ⟨⟨w547, w5, ⟨by decide, by decide⟩, by decide +kernel, w544⟩, w546, (ws_sel (List.mem_of_getElem? (i := 23) rfl) rfl)⟩
set_option maxRecDepth 100000 in
theorem kX3_103 : WVt RX3 103 yX3_shiftAlongChain cX3_shiftAlongChain 5 none 2 := ⟨⟨w555, w5, ⟨by decide, by decide⟩, by decide +kernel, w552⟩, w554, (ws_sel (List.mem_of_getElem? (i := 24) rfl) rfl)⟩
set_option maxRecDepth 100000 in
theorem kX3_107 : WVt RX3 107 yX3_addShare cX3_addShare 5 none 3 := ⟨⟨w559, w5, ⟨by decide, by decide⟩, by decide +kernel, w556⟩, w558, (ws_sel (List.mem_of_getElem? (i := 25) rfl) rfl)⟩
set_option maxRecDepth 100000 in
theorem kX3_111 : WVt RX3 111 yX3_addToPot cX3_addToPot 3 none 2 := ⟨⟨w563, w5, ⟨by decide, by decide⟩, by decide +kernel, w560⟩, w562, (ws_sel (List.mem_of_getElem? (i := 26) rfl) rfl)⟩
set_option maxRecDepth 100000 in
theorem kX3_114 : WVt RX3 114 yX3_planCost cX3_planCost 3 none 2 := ⟨⟨w567, w5, ⟨by decide, by decide⟩, by decide +kernel, w564⟩, w566, (ws_sel (List.mem_of_getElem? (i := 27) rfl) rfl)⟩
set_option maxRecDepth 100000 in
theorem kX3_68 : WVt RX3 68 yX3_drawMoreOn cX3_drawMoreOn 4 (some .boolean) 1 := ⟨⟨w575, w5, ⟨by decide, by decide⟩, by decide +kernel, w572⟩, w574, (ws_sel (List.mem_of_getElem? (i := 28) rfl) rfl)⟩
set_option maxRecDepth 100000 in
theorem kX3_117 : WVt RX3 117 yX3_potsAfter cX3_potsAfter 2 (some .int) 1 := ⟨⟨w579, w5, ⟨by decide, by decide⟩, by decide +kernel, w576⟩, w578, (ws_sel (List.mem_of_getElem? (i := 29) rfl) rfl)⟩
set_option maxRecDepth 100000 in
theorem kX3_75 : WVt RX3 75 yX3_payMoreFrom cX3_payMoreFrom 6 (some .boolean) 2 := ⟨⟨w587, w5, ⟨by decide, by decide⟩, by decide +kernel, w584⟩, w586, (ws_sel (List.mem_of_getElem? (i := 30) rfl) rfl)⟩
set_option maxRecDepth 100000 in
theorem kX5_105 : WVt RX5 105 yX5_bookPlan cX5_bookPlan 3 none 0 := ⟨⟨w595, w1, ⟨by decide, by decide⟩, by decide +kernel, w592⟩, w594, (ws_sel (List.mem_of_getElem? (i := 31) rfl) rfl)⟩
set_option maxRecDepth 100000 in
theorem kX5_108 : WVt RX5 108 yX5_endEmptyCommitments cX5_endEmptyCommitments 2 none 0 := ⟨⟨w614, w1, ⟨by decide, by decide⟩, by decide +kernel, w611⟩, w613, (ws_sel (List.mem_of_getElem? (i := 32) rfl) rfl)⟩
set_option maxRecDepth 100000 in
theorem kX5_111 : WVt RX5 111 yX5_shareByDirectCosts cX5_shareByDirectCosts 11 (some .int) 1 := ⟨⟨w622, w1, ⟨by decide, by decide⟩, by decide +kernel, w619⟩, w621, (ws_sel (List.mem_of_getElem? (i := 33) rfl) rfl)⟩
set_option maxRecDepth 100000 in
theorem kX5_242 : WVt RX5 242 yX5_directCostsWithRoom cX5_directCostsWithRoom 5 (some .long) 0 := ⟨⟨w626, w1, ⟨by decide, by decide⟩, by decide +kernel, w623⟩, w625, (ws_sel (List.mem_of_getElem? (i := 34) rfl) rfl)⟩
set_option maxRecDepth 100000 in
theorem kX5_115 : WVt RX5 115 yX5_shareOnes cX5_shareOnes 5 (some .int) 1 := ⟨⟨w643, w1, ⟨by decide, by decide⟩, by decide +kernel, w640⟩, w642, (ws_sel (List.mem_of_getElem? (i := 35) rfl) rfl)⟩
set_option maxRecDepth 100000 in
theorem kX5_141 : WVt RX5 141 yX5_costAt cX5_costAt 2 (some (.object "RestrictedFunds$Cost")) 1 := ⟨⟨w735, w1, ⟨by decide, by decide⟩, by decide +kernel, w732⟩, w734, (ws_sel (List.mem_of_getElem? (i := 36) rfl) rfl)⟩
set_option maxRecDepth 100000 in
theorem kX5_162 : WVt RX5 162 yX5_isAllowedBySomeFund cX5_isAllowedBySomeFund 3 (some .boolean) 1 := ⟨⟨w757, w1, ⟨by decide, by decide⟩, by decide +kernel, w754⟩, w756, (ws_sel (List.mem_of_getElem? (i := 37) rfl) rfl)⟩
set_option maxRecDepth 100000 in
theorem kX5_166 : WVt RX5 166 yX5_isSuitedBySomeFund cX5_isSuitedBySomeFund 3 (some .boolean) 1 := ⟨⟨w761, w1, ⟨by decide, by decide⟩, by decide +kernel, w758⟩, w760, (ws_sel (List.mem_of_getElem? (i := 38) rfl) rfl)⟩
set_option maxRecDepth 100000 in
theorem kX5_169 : WVt RX5 169 yX5_isPayableFromSomePot cX5_isPayableFromSomePot 4 (some .boolean) 1 := ⟨⟨w766, w1, ⟨by decide, by decide⟩, by decide +kernel, w763⟩, w765, (ws_sel (List.mem_of_getElem? (i := 39) rfl) rfl)⟩
set_option maxRecDepth 100000 in
theorem kX5_172 : WVt RX5 172 yX5_isHeldInCommitment cX5_isHeldInCommitment 4 (some .boolean) 1 := ⟨⟨w770, w1, ⟨by decide, by decide⟩, by decide +kernel, w767⟩, w769, (ws_sel (List.mem_of_getElem? (i := 40) rfl) rfl)⟩
