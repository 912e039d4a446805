theorem kb_J13_bitCount_95d88 : KS M_J13_bitCount_95d88 1 := ⟨kn_J13_bitCount_95d88, ks_J13_bitCount_95d88, by unfold nPar; decide +kernel, rfl, rfl⟩
theorem kb_J6_bitCount_0f7a4 : KS M_J6_bitCount_0f7a4 1 := ⟨kn_J6_bitCount_0f7a4, ks_J6_bitCount_0f7a4, by unfold nPar; decide +kernel, rfl, rfl⟩
theorem kb_J7_fill_53178 : KS M_J7_fill_53178 2 := ⟨kn_J7_fill_53178, ks_J7_fill_53178, by unfold nPar; decide +kernel, rfl, rfl⟩
theorem kb_J7_fill_fda19 : KS M_J7_fill_fda19 4 := ⟨kn_J7_fill_fda19, ks_J7_fill_fda19, by unfold nPar; decide +kernel, rfl, rfl⟩
theorem kb_J7_rangeCheck_23922 : KS M_J7_rangeCheck_23922 3 := ⟨kn_J7_rangeCheck_23922, ks_J7_rangeCheck_23922, by unfold nPar; decide +kernel, rfl, rfl⟩
theorem kb_X0_cheapestCut : KV M_X0_cheapestCut 0 2 := ⟨kn_X0_cheapestCut, ki_X0_cheapestCut, kv_X0_cheapestCut, by unfold nPar; decide +kernel, rfl, rfl, rfl⟩
theorem kb_X0_findWeak : KV M_X0_findWeak 0 2 := ⟨kn_X0_findWeak, ki_X0_findWeak, kv_X0_findWeak, by unfold nPar; decide +kernel, rfl, rfl, rfl⟩
theorem kb_X0_forget : KV M_X0_forget 0 0 := ⟨kn_X0_forget, ki_X0_forget, kv_X0_forget, by unfold nPar; decide +kernel, rfl, rfl, rfl⟩
theorem kb_X0_isMet : KV M_X0_isMet 0 2 := ⟨kn_X0_isMet, ki_X0_isMet, kv_X0_isMet, by unfold nPar; decide +kernel, rfl, rfl, rfl⟩
theorem kb_X10_back : KV M_X10_back 10 0 := ⟨kn_X10_back, ki_X10_back, kv_X10_back, by unfold nPar; decide +kernel, rfl, rfl, rfl⟩
theorem kb_X10_both : KV M_X10_both 10 2 := ⟨kn_X10_both, ki_X10_both, kv_X10_both, by unfold nPar; decide +kernel, rfl, rfl, rfl⟩
theorem kb_X10_cold : KV M_X10_cold 10 3 := ⟨kn_X10_cold, ki_X10_cold, kv_X10_cold, by unfold nPar; decide +kernel, rfl, rfl, rfl⟩
theorem kb_X10_count : KV M_X10_count 10 1 := ⟨kn_X10_count, ki_X10_count, kv_X10_count, by unfold nPar; decide +kernel, rfl, rfl, rfl⟩
theorem kb_X10_cuts : KV M_X10_cuts 10 2 := ⟨kn_X10_cuts, ki_X10_cuts, kv_X10_cuts, by unfold nPar; decide +kernel, rfl, rfl, rfl⟩
theorem kb_X10_engaged : KV M_X10_engaged 10 2 := ⟨kn_X10_engaged, ki_X10_engaged, kv_X10_engaged, by unfold nPar; decide +kernel, rfl, rfl, rfl⟩
theorem kb_X10_fault : KV M_X10_fault 10 0 := ⟨kn_X10_fault, ki_X10_fault, kv_X10_fault, by unfold nPar; decide +kernel, rfl, rfl, rfl⟩
theorem kb_X10_fewest : KV M_X10_fewest 10 0 := ⟨kn_X10_fewest, ki_X10_fewest, kv_X10_fewest, by unfold nPar; decide +kernel, rfl, rfl, rfl⟩
theorem kb_X10_has : KS M_X10_has 2 := ⟨kn_X10_has, ks_X10_has, by unfold nPar; decide +kernel, rfl, rfl⟩
theorem kb_X10_keep : KV M_X10_keep 10 0 := ⟨kn_X10_keep, ki_X10_keep, kv_X10_keep, by unfold nPar; decide +kernel, rfl, rfl, rfl⟩
theorem kb_X10_lay : KV M_X10_lay 10 0 := ⟨kn_X10_lay, ki_X10_lay, kv_X10_lay, by unfold nPar; decide +kernel, rfl, rfl, rfl⟩
theorem kb_X10_least : KV M_X10_least 10 3 := ⟨kn_X10_least, ki_X10_least, kv_X10_least, by unfold nPar; decide +kernel, rfl, rfl, rfl⟩
theorem kb_X10_lines : KV M_X10_lines 10 2 := ⟨kn_X10_lines, ki_X10_lines, kv_X10_lines, by unfold nPar; decide +kernel, rfl, rfl, rfl⟩
theorem kb_X10_night : KV M_X10_night 10 1 := ⟨kn_X10_night, ki_X10_night, kv_X10_night, by unfold nPar; decide +kernel, rfl, rfl, rfl⟩
theorem kb_X10_owed : KV M_X10_owed 10 1 := ⟨kn_X10_owed, ki_X10_owed, kv_X10_owed, by unfold nPar; decide +kernel, rfl, rfl, rfl⟩
theorem kb_X10_part : KV M_X10_part 10 2 := ⟨kn_X10_part, ki_X10_part, kv_X10_part, by unfold nPar; decide +kernel, rfl, rfl, rfl⟩
theorem kb_X10_player : KV M_X10_player 10 2 := ⟨kn_X10_player, ki_X10_player, kv_X10_player, by unfold nPar; decide +kernel, rfl, rfl, rfl⟩
theorem kb_X10_rehearsals : KV M_X10_rehearsals 10 2 := ⟨kn_X10_rehearsals, ki_X10_rehearsals, kv_X10_rehearsals, by unfold nPar; decide +kernel, rfl, rfl, rfl⟩
theorem kb_X10_rehearse : KV M_X10_rehearse 10 2 := ⟨kn_X10_rehearse, ki_X10_rehearse, kv_X10_rehearse, by unfold nPar; decide +kernel, rfl, rfl, rfl⟩
theorem kb_X10_rest : KV M_X10_rest 10 1 := ⟨kn_X10_rest, ki_X10_rest, kv_X10_rest, by unfold nPar; decide +kernel, rfl, rfl, rfl⟩
theorem kb_X10_run : KV M_X10_run 10 3 := ⟨kn_X10_run, ki_X10_run, kv_X10_run, by unfold nPar; decide +kernel, rfl, rfl, rfl⟩
theorem kb_X10_startAnew : KV M_X10_startAnew 10 0 := ⟨kn_X10_startAnew, ki_X10_startAnew, kv_X10_startAnew, by unfold nPar; decide +kernel, rfl, rfl, rfl⟩
theorem kb_X10_told : KV M_X10_told 10 2 := ⟨kn_X10_told, ki_X10_told, kv_X10_told, by unfold nPar; decide +kernel, rfl, rfl, rfl⟩
theorem kb_X10_ways : KV M_X10_ways 10 2 := ⟨kn_X10_ways, ki_X10_ways, kv_X10_ways, by unfold nPar; decide +kernel, rfl, rfl, rfl⟩
theorem kb_X10_weak : KV M_X10_weak 10 2 := ⟨kn_X10_weak, ki_X10_weak, kv_X10_weak, by unfold nPar; decide +kernel, rfl, rfl, rfl⟩
theorem kb_X10_wipe : KV M_X10_wipe 10 0 := ⟨kn_X10_wipe, ki_X10_wipe, kv_X10_wipe, by unfold nPar; decide +kernel, rfl, rfl, rfl⟩
theorem kb_X10_write : KV M_X10_write 10 2 := ⟨kn_X10_write, ki_X10_write, kv_X10_write, by unfold nPar; decide +kernel, rfl, rfl, rfl⟩
theorem kb_X10_wrong : KV M_X10_wrong 10 0 := ⟨kn_X10_wrong, ki_X10_wrong, kv_X10_wrong, by unfold nPar; decide +kernel, rfl, rfl, rfl⟩
theorem kb_X11_areBoth : KV M_X11_areBoth 11 2 := ⟨kn_X11_areBoth, ki_X11_areBoth, kv_X11_areBoth, by unfold nPar; decide +kernel, rfl, rfl, rfl⟩
theorem kb_X11_back : KV M_X11_back 11 0 := ⟨kn_X11_back, ki_X11_back, kv_X11_back, by unfold nPar; decide +kernel, rfl, rfl, rfl⟩
theorem kb_X11_bits : KS M_X11_bits 1 := ⟨kn_X11_bits, ks_X11_bits, by unfold nPar; decide +kernel, rfl, rfl⟩
theorem kb_X11_both : KV M_X11_both 11 2 := ⟨kn_X11_both, ki_X11_both, kv_X11_both, by unfold nPar; decide +kernel, rfl, rfl, rfl⟩
theorem kb_X11_byteAt : KV M_X11_byteAt 11 1 := ⟨kn_X11_byteAt, ki_X11_byteAt, kv_X11_byteAt, by unfold nPar; decide +kernel, rfl, rfl, rfl⟩
theorem kb_X11_cast : KV M_X11_cast 11 3 := ⟨kn_X11_cast, ki_X11_cast, kv_X11_cast, by unfold nPar; decide +kernel, rfl, rfl, rfl⟩
theorem kb_X11_cold : KV M_X11_cold 11 3 := ⟨kn_X11_cold, ki_X11_cold, kv_X11_cold, by unfold nPar; decide +kernel, rfl, rfl, rfl⟩
theorem kb_X11_coldItem : KV M_X11_coldItem 11 0 := ⟨kn_X11_coldItem, ki_X11_coldItem, kv_X11_coldItem, by unfold nPar; decide +kernel, rfl, rfl, rfl⟩
theorem kb_X11_copy : KV M_X11_copy 11 2 := ⟨kn_X11_copy, ki_X11_copy, kv_X11_copy, by unfold nPar; decide +kernel, rfl, rfl, rfl⟩
theorem kb_X11_count : KV M_X11_count 11 1 := ⟨kn_X11_count, ki_X11_count, kv_X11_count, by unfold nPar; decide +kernel, rfl, rfl, rfl⟩
theorem kb_X11_cuts : KV M_X11_cuts 11 2 := ⟨kn_X11_cuts, ki_X11_cuts, kv_X11_cuts, by unfold nPar; decide +kernel, rfl, rfl, rfl⟩
theorem kb_X11_engaged : KV M_X11_engaged 11 2 := ⟨kn_X11_engaged, ki_X11_engaged, kv_X11_engaged, by unfold nPar; decide +kernel, rfl, rfl, rfl⟩
theorem kb_X11_fault : KV M_X11_fault 11 0 := ⟨kn_X11_fault, ki_X11_fault, kv_X11_fault, by unfold nPar; decide +kernel, rfl, rfl, rfl⟩
theorem kb_X11_fewest : KV M_X11_fewest 11 0 := ⟨kn_X11_fewest, ki_X11_fewest, kv_X11_fewest, by unfold nPar; decide +kernel, rfl, rfl, rfl⟩
theorem kb_X11_figures : KV M_X11_figures 11 1 := ⟨kn_X11_figures, ki_X11_figures, kv_X11_figures, by unfold nPar; decide +kernel, rfl, rfl, rfl⟩
theorem kb_X11_gainOf : KV M_X11_gainOf 11 1 := ⟨kn_X11_gainOf, ki_X11_gainOf, kv_X11_gainOf, by unfold nPar; decide +kernel, rfl, rfl, rfl⟩
theorem kb_X11_has : KS M_X11_has 2 := ⟨kn_X11_has, ks_X11_has, by unfold nPar; decide +kernel, rfl, rfl⟩
theorem kb_X11_hoursOf : KV M_X11_hoursOf 11 1 := ⟨kn_X11_hoursOf, ki_X11_hoursOf, kv_X11_hoursOf, by unfold nPar; decide +kernel, rfl, rfl, rfl⟩
theorem kb_X11_in : KS M_X11_in 3 := ⟨kn_X11_in, ks_X11_in, by unfold nPar; decide +kernel, rfl, rfl⟩
theorem kb_X11_isCover : KV M_X11_isCover 11 2 := ⟨kn_X11_isCover, ki_X11_isCover, kv_X11_isCover, by unfold nPar; decide +kernel, rfl, rfl, rfl⟩
theorem kb_X11_isCut : KV M_X11_isCut 11 1 := ⟨kn_X11_isCut, ki_X11_isCut, kv_X11_isCut, by unfold nPar; decide +kernel, rfl, rfl, rfl⟩
theorem kb_X11_isOff : KV M_X11_isOff 11 1 := ⟨kn_X11_isOff, ki_X11_isOff, kv_X11_isOff, by unfold nPar; decide +kernel, rfl, rfl, rfl⟩
theorem kb_X11_isPair : KV M_X11_isPair 11 0 := ⟨kn_X11_isPair, ki_X11_isPair, kv_X11_isPair, by unfold nPar; decide +kernel, rfl, rfl, rfl⟩
theorem kb_X11_isPart : KV M_X11_isPart 11 1 := ⟨kn_X11_isPart, ki_X11_isPart, kv_X11_isPart, by unfold nPar; decide +kernel, rfl, rfl, rfl⟩
theorem kb_X11_isPlayer : KV M_X11_isPlayer 11 1 := ⟨kn_X11_isPlayer, ki_X11_isPlayer, kv_X11_isPlayer, by unfold nPar; decide +kernel, rfl, rfl, rfl⟩
theorem kb_X11_isTaken : KV M_X11_isTaken 11 2 := ⟨kn_X11_isTaken, ki_X11_isTaken, kv_X11_isTaken, by unfold nPar; decide +kernel, rfl, rfl, rfl⟩
theorem kb_X11_item : KV M_X11_item 11 0 := ⟨kn_X11_item, ki_X11_item, kv_X11_item, by unfold nPar; decide +kernel, rfl, rfl, rfl⟩
theorem kb_X11_keep : KV M_X11_keep 11 0 := ⟨kn_X11_keep, ki_X11_keep, kv_X11_keep, by unfold nPar; decide +kernel, rfl, rfl, rfl⟩
theorem kb_X11_kept : KV M_X11_kept 11 2 := ⟨kn_X11_kept, ki_X11_kept, kv_X11_kept, by unfold nPar; decide +kernel, rfl, rfl, rfl⟩
theorem kb_X11_lay : KV M_X11_lay 11 0 := ⟨kn_X11_lay, ki_X11_lay, kv_X11_lay, by unfold nPar; decide +kernel, rfl, rfl, rfl⟩
theorem kb_X11_layCold : KV M_X11_layCold 11 2 := ⟨kn_X11_layCold, ki_X11_layCold, kv_X11_layCold, by unfold nPar; decide +kernel, rfl, rfl, rfl⟩
theorem kb_X11_layMays : KV M_X11_layMays 11 1 := ⟨kn_X11_layMays, ki_X11_layMays, kv_X11_layMays, by unfold nPar; decide +kernel, rfl, rfl, rfl⟩
theorem kb_X11_layPairs : KV M_X11_layPairs 11 0 := ⟨kn_X11_layPairs, ki_X11_layPairs, kv_X11_layPairs, by unfold nPar; decide +kernel, rfl, rfl, rfl⟩
theorem kb_X11_layRehearsals : KV M_X11_layRehearsals 11 0 := ⟨kn_X11_layRehearsals, ki_X11_layRehearsals, kv_X11_layRehearsals, by unfold nPar; decide +kernel, rfl, rfl, rfl⟩
theorem kb_X11_layRules : KV M_X11_layRules 11 0 := ⟨kn_X11_layRules, ki_X11_layRules, kv_X11_layRules, by unfold nPar; decide +kernel, rfl, rfl, rfl⟩
theorem kb_X11_least : KV M_X11_least 11 3 := ⟨kn_X11_least, ki_X11_least, kv_X11_least, by unfold nPar; decide +kernel, rfl, rfl, rfl⟩
theorem kb_X11_lines : KV M_X11_lines 11 2 := ⟨kn_X11_lines, ki_X11_lines, kv_X11_lines, by unfold nPar; decide +kernel, rfl, rfl, rfl⟩
theorem kb_X11_linesIn : KV M_X11_linesIn 11 1 := ⟨kn_X11_linesIn, ki_X11_linesIn, kv_X11_linesIn, by unfold nPar; decide +kernel, rfl, rfl, rfl⟩
theorem kb_X11_mayPlay : KV M_X11_mayPlay 11 2 := ⟨kn_X11_mayPlay, ki_X11_mayPlay, kv_X11_mayPlay, by unfold nPar; decide +kernel, rfl, rfl, rfl⟩
theorem kb_X11_nextFor : KV M_X11_nextFor 11 3 := ⟨kn_X11_nextFor, ki_X11_nextFor, kv_X11_nextFor, by unfold nPar; decide +kernel, rfl, rfl, rfl⟩
theorem kb_X11_night : KV M_X11_night 11 1 := ⟨kn_X11_night, ki_X11_night, kv_X11_night, by unfold nPar; decide +kernel, rfl, rfl, rfl⟩
theorem kb_X11_noCompany : KV M_X11_noCompany 11 1 := ⟨kn_X11_noCompany, ki_X11_noCompany, kv_X11_noCompany, by unfold nPar; decide +kernel, rfl, rfl, rfl⟩
theorem kb_X11_noneWeak : KV M_X11_noneWeak 11 0 := ⟨kn_X11_noneWeak, ki_X11_noneWeak, kv_X11_noneWeak, by unfold nPar; decide +kernel, rfl, rfl, rfl⟩
theorem kb_X11_numberItem : KV M_X11_numberItem 11 2 := ⟨kn_X11_numberItem, ki_X11_numberItem, kv_X11_numberItem, by unfold nPar; decide +kernel, rfl, rfl, rfl⟩
theorem kb_X11_owed : KV M_X11_owed 11 1 := ⟨kn_X11_owed, ki_X11_owed, kv_X11_owed, by unfold nPar; decide +kernel, rfl, rfl, rfl⟩
theorem kb_X11_part : KV M_X11_part 11 2 := ⟨kn_X11_part, ki_X11_part, kv_X11_part, by unfold nPar; decide +kernel, rfl, rfl, rfl⟩
theorem kb_X11_partItem : KV M_X11_partItem 11 0 := ⟨kn_X11_partItem, ki_X11_partItem, kv_X11_partItem, by unfold nPar; decide +kernel, rfl, rfl, rfl⟩
theorem kb_X11_partState : KV M_X11_partState 11 2 := ⟨kn_X11_partState, ki_X11_partState, kv_X11_partState, by unfold nPar; decide +kernel, rfl, rfl, rfl⟩
theorem kb_X11_pileTrouble : KV M_X11_pileTrouble 11 1 := ⟨kn_X11_pileTrouble, ki_X11_pileTrouble, kv_X11_pileTrouble, by unfold nPar; decide +kernel, rfl, rfl, rfl⟩
theorem kb_X11_play : KV M_X11_play 11 1 := ⟨kn_X11_play, ki_X11_play, kv_X11_play, by unfold nPar; decide +kernel, rfl, rfl, rfl⟩
theorem kb_X11_player : KV M_X11_player 11 2 := ⟨kn_X11_player, ki_X11_player, kv_X11_player, by unfold nPar; decide +kernel, rfl, rfl, rfl⟩
theorem kb_X11_playerItem : KV M_X11_playerItem 11 0 := ⟨kn_X11_playerItem, ki_X11_playerItem, kv_X11_playerItem, by unfold nPar; decide +kernel, rfl, rfl, rfl⟩
theorem kb_X11_readAll : KV M_X11_readAll 11 0 := ⟨kn_X11_readAll, ki_X11_readAll, kv_X11_readAll, by unfold nPar; decide +kernel, rfl, rfl, rfl⟩
theorem kb_X11_rehearsals : KV M_X11_rehearsals 11 2 := ⟨kn_X11_rehearsals, ki_X11_rehearsals, kv_X11_rehearsals, by unfold nPar; decide +kernel, rfl, rfl, rfl⟩
theorem kb_X11_rehearse : KV M_X11_rehearse 11 2 := ⟨kn_X11_rehearse, ki_X11_rehearse, kv_X11_rehearse, by unfold nPar; decide +kernel, rfl, rfl, rfl⟩
theorem kb_X11_rest : KV M_X11_rest 11 1 := ⟨kn_X11_rest, ki_X11_rest, kv_X11_rest, by unfold nPar; decide +kernel, rfl, rfl, rfl⟩
theorem kb_X11_run : KV M_X11_run 11 3 := ⟨kn_X11_run, ki_X11_run, kv_X11_run, by unfold nPar; decide +kernel, rfl, rfl, rfl⟩
theorem kb_X11_sceneItem : KV M_X11_sceneItem 11 0 := ⟨kn_X11_sceneItem, ki_X11_sceneItem, kv_X11_sceneItem, by unfold nPar; decide +kernel, rfl, rfl, rfl⟩
theorem kb_X11_setCover : KV M_X11_setCover 11 3 := ⟨kn_X11_setCover, ki_X11_setCover, kv_X11_setCover, by unfold nPar; decide +kernel, rfl, rfl, rfl⟩
theorem kb_X11_stepBack : KS M_X11_stepBack 2 := ⟨kn_X11_stepBack, ks_X11_stepBack, by unfold nPar; decide +kernel, rfl, rfl⟩
theorem kb_X11_told : KV M_X11_told 11 2 := ⟨kn_X11_told, ki_X11_told, kv_X11_told, by unfold nPar; decide +kernel, rfl, rfl, rfl⟩
theorem kb_X11_trouble : KV M_X11_trouble 11 2 := ⟨kn_X11_trouble, ki_X11_trouble, kv_X11_trouble, by unfold nPar; decide +kernel, rfl, rfl, rfl⟩
theorem kb_X11_ways : KV M_X11_ways 11 2 := ⟨kn_X11_ways, ki_X11_ways, kv_X11_ways, by unfold nPar; decide +kernel, rfl, rfl, rfl⟩
theorem kb_X11_weak : KV M_X11_weak 11 2 := ⟨kn_X11_weak, ki_X11_weak, kv_X11_weak, by unfold nPar; decide +kernel, rfl, rfl, rfl⟩
theorem kb_X11_weakOf : KV M_X11_weakOf 11 1 := ⟨kn_X11_weakOf, ki_X11_weakOf, kv_X11_weakOf, by unfold nPar; decide +kernel, rfl, rfl, rfl⟩
theorem kb_X11_wellOf : KV M_X11_wellOf 11 2 := ⟨kn_X11_wellOf, ki_X11_wellOf, kv_X11_wellOf, by unfold nPar; decide +kernel, rfl, rfl, rfl⟩
theorem kb_X11_wipe : KV M_X11_wipe 11 0 := ⟨kn_X11_wipe, ki_X11_wipe, kv_X11_wipe, by unfold nPar; decide +kernel, rfl, rfl, rfl⟩
theorem kb_X11_write : KV M_X11_write 11 2 := ⟨kn_X11_write, ki_X11_write, kv_X11_write, by unfold nPar; decide +kernel, rfl, rfl, rfl⟩
theorem kb_X11_wrong : KV M_X11_wrong 11 0 := ⟨kn_X11_wrong, ki_X11_wrong, kv_X11_wrong, by unfold nPar; decide +kernel, rfl, rfl, rfl⟩
theorem kb_X1_begin : KV M_X1_begin 1 3 := ⟨kn_X1_begin, ki_X1_begin, kv_X1_begin, by unfold nPar; decide +kernel, rfl, rfl, rfl⟩
theorem kb_X1_canFill : KS M_X1_canFill 3 := ⟨kn_X1_canFill, ks_X1_canFill, by unfold nPar; decide +kernel, rfl, rfl⟩
theorem kb_X1_give : KV M_X1_give 1 2 := ⟨kn_X1_give, ki_X1_give, kv_X1_give, by unfold nPar; decide +kernel, rfl, rfl, rfl⟩
theorem kb_X1_scarcest : KV M_X1_scarcest 1 2 := ⟨kn_X1_scarcest, ki_X1_scarcest, kv_X1_scarcest, by unfold nPar; decide +kernel, rfl, rfl, rfl⟩
theorem kb_X1_strike : KV M_X1_strike 1 4 := ⟨kn_X1_strike, ki_X1_strike, kv_X1_strike, by unfold nPar; decide +kernel, rfl, rfl, rfl⟩
theorem kb_X1_succeeds : KV M_X1_succeeds 1 0 := ⟨kn_X1_succeeds, ki_X1_succeeds, kv_X1_succeeds, by unfold nPar; decide +kernel, rfl, rfl, rfl⟩
theorem kb_X2_begin : KV M_X2_begin 2 3 := ⟨kn_X2_begin, ki_X2_begin, kv_X2_begin, by unfold nPar; decide +kernel, rfl, rfl, rfl⟩
theorem kb_X2_countCastings : KV M_X2_countCastings 2 3 := ⟨kn_X2_countCastings, ki_X2_countCastings, kv_X2_countCastings, by unfold nPar; decide +kernel, rfl, rfl, rfl⟩
theorem kb_X2_countFrom : KS M_X2_countFrom 2 := ⟨kn_X2_countFrom, ks_X2_countFrom, by unfold nPar; decide +kernel, rfl, rfl⟩
theorem kb_X2_findLeast : KV M_X2_findLeast 2 4 := ⟨kn_X2_findLeast, ki_X2_findLeast, kv_X2_findLeast, by unfold nPar; decide +kernel, rfl, rfl, rfl⟩
theorem kb_X2_forgottenLines : KV M_X2_forgottenLines 2 1 := ⟨kn_X2_forgottenLines, ki_X2_forgottenLines, kv_X2_forgottenLines, by unfold nPar; decide +kernel, rfl, rfl, rfl⟩
theorem kb_X2_improveFrom : KS M_X2_improveFrom 3 := ⟨kn_X2_improveFrom, ks_X2_improveFrom, by unfold nPar; decide +kernel, rfl, rfl⟩
theorem kb_X2_isFree : KV M_X2_isFree 2 2 := ⟨kn_X2_isFree, ki_X2_isFree, kv_X2_isFree, by unfold nPar; decide +kernel, rfl, rfl, rfl⟩
theorem kb_X2_partsNotByOwners : KV M_X2_partsNotByOwners 2 0 := ⟨kn_X2_partsNotByOwners, ki_X2_partsNotByOwners, kv_X2_partsNotByOwners, by unfold nPar; decide +kernel, rfl, rfl, rfl⟩
theorem kb_X2_partsPlayedBy : KV M_X2_partsPlayedBy 2 1 := ⟨kn_X2_partsPlayedBy, ki_X2_partsPlayedBy, kv_X2_partsPlayedBy, by unfold nPar; decide +kernel, rfl, rfl, rfl⟩
theorem kb_X2_weigh : KV M_X2_weigh 2 2 := ⟨kn_X2_weigh, ki_X2_weigh, kv_X2_weigh, by unfold nPar; decide +kernel, rfl, rfl, rfl⟩
theorem kb_X3_addCover : KV M_X3_addCover 3 2 := ⟨kn_X3_addCover, ki_X3_addCover, kv_X3_addCover, by unfold nPar; decide +kernel, rfl, rfl, rfl⟩
theorem kb_X3_addPart : KV M_X3_addPart 3 4 := ⟨kn_X3_addPart, ki_X3_addPart, kv_X3_addPart, by unfold nPar; decide +kernel, rfl, rfl, rfl⟩
theorem kb_X3_addPlayer : KV M_X3_addPlayer 3 2 := ⟨kn_X3_addPlayer, ki_X3_addPlayer, kv_X3_addPlayer, by unfold nPar; decide +kernel, rfl, rfl, rfl⟩
theorem kb_X3_clear : KV M_X3_clear 3 0 := ⟨kn_X3_clear, ki_X3_clear, kv_X3_clear, by unfold nPar; decide +kernel, rfl, rfl, rfl⟩
theorem kb_X3_giveOwn : KV M_X3_giveOwn 3 2 := ⟨kn_X3_giveOwn, ki_X3_giveOwn, kv_X3_giveOwn, by unfold nPar; decide +kernel, rfl, rfl, rfl⟩
theorem kb_X3_hasPart : KV M_X3_hasPart 3 1 := ⟨kn_X3_hasPart, ki_X3_hasPart, kv_X3_hasPart, by unfold nPar; decide +kernel, rfl, rfl, rfl⟩
theorem kb_X3_hasParts : KV M_X3_hasParts 3 1 := ⟨kn_X3_hasParts, ki_X3_hasParts, kv_X3_hasParts, by unfold nPar; decide +kernel, rfl, rfl, rfl⟩
theorem kb_X3_hasPlayer : KV M_X3_hasPlayer 3 1 := ⟨kn_X3_hasPlayer, ki_X3_hasPlayer, kv_X3_hasPlayer, by unfold nPar; decide +kernel, rfl, rfl, rfl⟩
theorem kb_X3_hasPlayers : KV M_X3_hasPlayers 3 1 := ⟨kn_X3_hasPlayers, ki_X3_hasPlayers, kv_X3_hasPlayers, by unfold nPar; decide +kernel, rfl, rfl, rfl⟩
theorem kb_X3_hours : KV M_X3_hours 3 1 := ⟨kn_X3_hours, ki_X3_hours, kv_X3_hours, by unfold nPar; decide +kernel, rfl, rfl, rfl⟩
theorem kb_X3_isSkilled : KV M_X3_isSkilled 3 2 := ⟨kn_X3_isSkilled, ki_X3_isSkilled, kv_X3_isSkilled, by unfold nPar; decide +kernel, rfl, rfl, rfl⟩
theorem kb_X3_linesTogether : KV M_X3_linesTogether 3 1 := ⟨kn_X3_linesTogether, ki_X3_linesTogether, kv_X3_linesTogether, by unfold nPar; decide +kernel, rfl, rfl, rfl⟩
theorem kb_X3_mayPlay : KV M_X3_mayPlay 3 2 := ⟨kn_X3_mayPlay, ki_X3_mayPlay, kv_X3_mayPlay, by unfold nPar; decide +kernel, rfl, rfl, rfl⟩
theorem kb_X3_ownParts : KV M_X3_ownParts 3 1 := ⟨kn_X3_ownParts, ki_X3_ownParts, kv_X3_ownParts, by unfold nPar; decide +kernel, rfl, rfl, rfl⟩
theorem kb_X3_playable : KV M_X3_playable 3 1 := ⟨kn_X3_playable, ki_X3_playable, kv_X3_playable, by unfold nPar; decide +kernel, rfl, rfl, rfl⟩
theorem kb_X3_setChange : KV M_X3_setChange 3 1 := ⟨kn_X3_setChange, ki_X3_setChange, kv_X3_setChange, by unfold nPar; decide +kernel, rfl, rfl, rfl⟩
theorem kb_X3_setContagion : KV M_X3_setContagion 3 3 := ⟨kn_X3_setContagion, ki_X3_setContagion, kv_X3_setContagion, by unfold nPar; decide +kernel, rfl, rfl, rfl⟩
theorem kb_X3_setForgetting : KV M_X3_setForgetting 3 1 := ⟨kn_X3_setForgetting, ki_X3_setForgetting, kv_X3_setForgetting, by unfold nPar; decide +kernel, rfl, rfl, rfl⟩
theorem kb_X3_setPay : KV M_X3_setPay 3 2 := ⟨kn_X3_setPay, ki_X3_setPay, kv_X3_setPay, by unfold nPar; decide +kernel, rfl, rfl, rfl⟩
theorem kb_X3_setTailor : KV M_X3_setTailor 3 1 := ⟨kn_X3_setTailor, ki_X3_setTailor, kv_X3_setTailor, by unfold nPar; decide +kernel, rfl, rfl, rfl⟩
theorem kb_X3_settle : KV M_X3_settle 3 0 := ⟨kn_X3_settle, ki_X3_settle, kv_X3_settle, by unfold nPar; decide +kernel, rfl, rfl, rfl⟩
theorem kb_X3_take : KV M_X3_take 3 3 := ⟨kn_X3_take, ki_X3_take, kv_X3_take, by unfold nPar; decide +kernel, rfl, rfl, rfl⟩
theorem kb_X3_tellScene : KV M_X3_tellScene 3 2 := ⟨kn_X3_tellScene, ki_X3_tellScene, kv_X3_tellScene, by unfold nPar; decide +kernel, rfl, rfl, rfl⟩
theorem kb_X4_clear : KV M_X4_clear 4 0 := ⟨kn_X4_clear, ki_X4_clear, kv_X4_clear, by unfold nPar; decide +kernel, rfl, rfl, rfl⟩
theorem kb_X4_copy : KV M_X4_copy 4 1 := ⟨kn_X4_copy, ki_X4_copy, kv_X4_copy, by unfold nPar; decide +kernel, rfl, rfl, rfl⟩
theorem kb_X4_keptLines : KV M_X4_keptLines 4 3 := ⟨kn_X4_keptLines, ki_X4_keptLines, kv_X4_keptLines, by unfold nPar; decide +kernel, rfl, rfl, rfl⟩
theorem kb_X4_lostLines : KV M_X4_lostLines 4 3 := ⟨kn_X4_lostLines, ki_X4_lostLines, kv_X4_lostLines, by unfold nPar; decide +kernel, rfl, rfl, rfl⟩
theorem kb_X4_playNight : KV M_X4_playNight 4 3 := ⟨kn_X4_playNight, ki_X4_playNight, kv_X4_playNight, by unfold nPar; decide +kernel, rfl, rfl, rfl⟩
theorem kb_X4_sayToday : KV M_X4_sayToday 4 2 := ⟨kn_X4_sayToday, ki_X4_sayToday, kv_X4_sayToday, by unfold nPar; decide +kernel, rfl, rfl, rfl⟩
theorem kb_X5_addScene : KV M_X5_addScene 5 2 := ⟨kn_X5_addScene, ki_X5_addScene, kv_X5_addScene, by unfold nPar; decide +kernel, rfl, rfl, rfl⟩
theorem kb_X5_clashes : KV M_X5_clashes 5 2 := ⟨kn_X5_clashes, ki_X5_clashes, kv_X5_clashes, by unfold nPar; decide +kernel, rfl, rfl, rfl⟩
theorem kb_X5_clear : KV M_X5_clear 5 0 := ⟨kn_X5_clear, ki_X5_clear, kv_X5_clear, by unfold nPar; decide +kernel, rfl, rfl, rfl⟩
theorem kb_X5_scenesOf : KV M_X5_scenesOf 5 1 := ⟨kn_X5_scenesOf, ki_X5_scenesOf, kv_X5_scenesOf, by unfold nPar; decide +kernel, rfl, rfl, rfl⟩
theorem kb_X6_endOfFigures : KS M_X6_endOfFigures 3 := ⟨kn_X6_endOfFigures, ks_X6_endOfFigures, by unfold nPar; decide +kernel, rfl, rfl⟩
theorem kb_X6_endOfItem : KV M_X6_endOfItem 6 3 := ⟨kn_X6_endOfItem, ki_X6_endOfItem, kv_X6_endOfItem, by unfold nPar; decide +kernel, rfl, rfl, rfl⟩
theorem kb_X6_firstFault : KV M_X6_firstFault 6 3 := ⟨kn_X6_firstFault, ki_X6_firstFault, kv_X6_firstFault, by unfold nPar; decide +kernel, rfl, rfl, rfl⟩
theorem kb_X6_numberOf : KS M_X6_numberOf 3 := ⟨kn_X6_numberOf, ks_X6_numberOf, by unfold nPar; decide +kernel, rfl, rfl⟩
theorem kb_X7_divide : KV M_X7_divide 7 2 := ⟨kn_X7_divide, ki_X7_divide, kv_X7_divide, by unfold nPar; decide +kernel, rfl, rfl, rfl⟩
theorem kb_X7_forget : KV M_X7_forget 7 0 := ⟨kn_X7_forget, ki_X7_forget, kv_X7_forget, by unfold nPar; decide +kernel, rfl, rfl, rfl⟩
theorem kb_X7_goOn : KV M_X7_goOn 7 3 := ⟨kn_X7_goOn, ki_X7_goOn, kv_X7_goOn, by unfold nPar; decide +kernel, rfl, rfl, rfl⟩
theorem kb_X7_likeliest : KV M_X7_likeliest 7 1 := ⟨kn_X7_likeliest, ki_X7_likeliest, kv_X7_likeliest, by unfold nPar; decide +kernel, rfl, rfl, rfl⟩
theorem kb_X7_passDay : KV M_X7_passDay 7 1 := ⟨kn_X7_passDay, ki_X7_passDay, kv_X7_passDay, by unfold nPar; decide +kernel, rfl, rfl, rfl⟩
theorem kb_X7_spread : KV M_X7_spread 7 2 := ⟨kn_X7_spread, ki_X7_spread, kv_X7_spread, by unfold nPar; decide +kernel, rfl, rfl, rfl⟩
theorem kb_X7_staysWell : KV M_X7_staysWell 7 3 := ⟨kn_X7_staysWell, ki_X7_staysWell, kv_X7_staysWell, by unfold nPar; decide +kernel, rfl, rfl, rfl⟩
theorem kb_X7_timesIll : KV M_X7_timesIll 7 2 := ⟨kn_X7_timesIll, ki_X7_timesIll, kv_X7_timesIll, by unfold nPar; decide +kernel, rfl, rfl, rfl⟩
theorem kb_X7_timesMet : KV M_X7_timesMet 7 2 := ⟨kn_X7_timesMet, ki_X7_timesMet, kv_X7_timesMet, by unfold nPar; decide +kernel, rfl, rfl, rfl⟩
theorem kb_X8_choosePairs : KV M_X8_choosePairs 8 1 := ⟨kn_X8_choosePairs, ki_X8_choosePairs, kv_X8_choosePairs, by unfold nPar; decide +kernel, rfl, rfl, rfl⟩
theorem kb_X8_listPairs : KV M_X8_listPairs 8 2 := ⟨kn_X8_listPairs, ki_X8_listPairs, kv_X8_listPairs, by unfold nPar; decide +kernel, rfl, rfl, rfl⟩
theorem kb_X8_plan : KV M_X8_plan 8 3 := ⟨kn_X8_plan, ki_X8_plan, kv_X8_plan, by unfold nPar; decide +kernel, rfl, rfl, rfl⟩
theorem kb_X8_weighPairs : KV M_X8_weighPairs 8 1 := ⟨kn_X8_weighPairs, ki_X8_weighPairs, kv_X8_weighPairs, by unfold nPar; decide +kernel, rfl, rfl, rfl⟩
theorem kb_X8_worthWith : KV M_X8_worthWith 8 2 := ⟨kn_X8_worthWith, ki_X8_worthWith, kv_X8_worthWith, by unfold nPar; decide +kernel, rfl, rfl, rfl⟩
theorem kb_X9_areEnough : KV M_X9_areEnough 9 4 := ⟨kn_X9_areEnough, ki_X9_areEnough, kv_X9_areEnough, by unfold nPar; decide +kernel, rfl, rfl, rfl⟩
theorem kb_X9_fewestForPairs : KV M_X9_fewestForPairs 9 2 := ⟨kn_X9_fewestForPairs, ki_X9_fewestForPairs, kv_X9_fewestForPairs, by unfold nPar; decide +kernel, rfl, rfl, rfl⟩
theorem kb_X9_findBest : KV M_X9_findBest 9 2 := ⟨kn_X9_findBest, ki_X9_findBest, kv_X9_findBest, by unfold nPar; decide +kernel, rfl, rfl, rfl⟩
theorem kb_X9_forget : KV M_X9_forget 9 0 := ⟨kn_X9_forget, ki_X9_forget, kv_X9_forget, by unfold nPar; decide +kernel, rfl, rfl, rfl⟩
theorem kb_X9_helpTogether : KV M_X9_helpTogether 9 4 := ⟨kn_X9_helpTogether, ki_X9_helpTogether, kv_X9_helpTogether, by unfold nPar; decide +kernel, rfl, rfl, rfl⟩
theorem kb_X9_helps : KV M_X9_helps 9 3 := ⟨kn_X9_helps, ki_X9_helps, kv_X9_helps, by unfold nPar; decide +kernel, rfl, rfl, rfl⟩
theorem kb_X9_listCovers : KV M_X9_listCovers 9 1 := ⟨kn_X9_listCovers, ki_X9_listCovers, kv_X9_listCovers, by unfold nPar; decide +kernel, rfl, rfl, rfl⟩
theorem kb_X9_survey : KV M_X9_survey 9 3 := ⟨kn_X9_survey, ki_X9_survey, kv_X9_survey, by unfold nPar; decide +kernel, rfl, rfl, rfl⟩
section
variable {co dr : Nat} {cc a1 a2 : Option Nat} {c : Nat}
theorem f_co (hc : c = 4 ∨ c = 18) : at_ NC c (.inr 3) ∧ RR co dr cc a1 a2 c 3 = some (c + 1) ∧ at_ NC (c + 1) (.inl (0, 10)) ∧ RR co dr cc a1 a2 c 4 = some (c + 2) ∧ at_ NC (c + 2) (.inl (0, 10)) ∧ RR co dr cc a1 a2 c 5 = some (c + 3) ∧ at_ NC (c + 3) (.inl (0, 10)) ∧ RR co dr cc a1 a2 c 6 = some (c + 4) ∧ at_ NC (c + 4) (.inl (0, 8)) ∧ RR co dr cc a1 a2 c 7 = some (c + 5) ∧ at_ NC (c + 5) (.inl (0, 8)) ∧ RR co dr cc a1 a2 c 8 = some (c + 6) ∧ at_ NC (c + 6) (.inl (0, 8)) ∧ RR co dr cc a1 a2 c 9 = some (c + 7) ∧ at_ NC (c + 7) (.inl (0, 8)) ∧ RR co dr cc a1 a2 c 11 = some (c + 8) ∧ at_ NC (c + 8) (.inr 5) ∧ RR co dr cc a1 a2 c 12 = some (c + 11) ∧ at_ NC (c + 11) (.inl (0, 100)) ∧ RR co dr cc a1 a2 c 17 = some (c + 12) ∧ at_ NC (c + 12) (.inl (0, 8)) ∧ RR co dr cc a1 a2 c 18 = some (c + 13) ∧ at_ NC (c + 13) (.inl (0, 8)) := by rcases hc with rfl | rfl <;> exact ⟨⟨Nat.le_of_ble_eq_true rfl, rfl⟩, rfl, ⟨Nat.le_of_ble_eq_true rfl, rfl⟩, rfl, ⟨Nat.le_of_ble_eq_true rfl, rfl⟩, rfl, ⟨Nat.le_of_ble_eq_true rfl, rfl⟩, rfl, ⟨Nat.le_of_ble_eq_true rfl, rfl⟩, rfl, ⟨Nat.le_of_ble_eq_true rfl, rfl⟩, rfl, ⟨Nat.le_of_ble_eq_true rfl, rfl⟩, rfl, ⟨Nat.le_of_ble_eq_true rfl, rfl⟩, rfl, ⟨Nat.le_of_ble_eq_true rfl, rfl⟩, rfl, ⟨Nat.le_of_ble_eq_true rfl, rfl⟩, rfl, ⟨Nat.le_of_ble_eq_true rfl, rfl⟩, rfl, ⟨Nat.le_of_ble_eq_true rfl, rfl⟩⟩
theorem f_di (hc : c = 32 ∨ c = 35 ∨ c = 38) : at_ NC c (.inr 4) ∧ RR co dr cc a1 a2 c 1 = some (c + 1) ∧ at_ NC (c + 1) (.inl (0, 10)) ∧ RR co dr cc a1 a2 c 2 = some (c + 2) ∧ at_ NC (c + 2) (.inl (0, 80)) := by rcases hc with rfl | rfl | rfl <;> exact ⟨⟨Nat.le_of_ble_eq_true rfl, rfl⟩, rfl, ⟨Nat.le_of_ble_eq_true rfl, rfl⟩, rfl, ⟨Nat.le_of_ble_eq_true rfl, rfl⟩⟩
theorem f_at (hc : c = 50 ∨ c = 54) : at_ NC c (.inr 1) ∧ RR co dr cc a1 a2 c 2 = some (c + 1) ∧ at_ NC (c + 1) (.inl (0, 72)) := by rcases hc with rfl | rfl <;> exact ⟨⟨Nat.le_of_ble_eq_true rfl, rfl⟩, rfl, ⟨Nat.le_of_ble_eq_true rfl, rfl⟩⟩
theorem f_pl (hc : c = 12 ∨ c = 26) : at_ NC c (.inr 5) ∧ RR co dr cc a1 a2 c 2 = some (c + 1) ∧ at_ NC (c + 1) (.inl (0, 10)) ∧ RR co dr cc a1 a2 c 3 = some (c + 2) ∧ at_ NC (c + 2) (.inl (0, 10)) := by rcases hc with rfl | rfl <;> exact ⟨⟨Nat.le_of_ble_eq_true rfl, rfl⟩, rfl, ⟨Nat.le_of_ble_eq_true rfl, rfl⟩, rfl, ⟨Nat.le_of_ble_eq_true rfl, rfl⟩⟩
theorem co_pl (hc : c = 4 ∨ c = 18) : c + 8 = 12 ∨ c + 8 = 26 := by omega
theorem RR_cc {q : Option Nat} : up2 (RR co dr cc a1 a2) 42 0 q = RR co dr q a1 a2 := by
  funext k s
  unfold up2 RR
  by_cases h1 : k = 42
  · subst h1
    by_cases h2 : s = 0
    · subst h2; simp
    · simp [h2]
  · simp [h1]
theorem RR_a1 {q : Option Nat} : up2 (RR co dr cc a1 a2) 50 0 q = RR co dr cc q a2 := by
  funext k s
  unfold up2 RR
  by_cases h1 : k = 50
  · subst h1
    by_cases h2 : s = 0
    · subst h2; simp
    · simp [h2]
  · simp [h1]
theorem RR_a2 {q : Option Nat} : up2 (RR co dr cc a1 a2) 54 0 q = RR co dr cc a1 q := by
  funext k s
  unfold up2 RR
  by_cases h1 : k = 54
  · subst h1
    by_cases h2 : s = 0
    · subst h2; simp
    · simp [h2]
  · simp [h1]
theorem RR_co {q : Nat} : up2 (RR co dr cc a1 a2) 0 3 (some q) = RR q dr cc a1 a2 := by
  funext k s
  unfold up2 RR
  by_cases h1 : k = 0
  · subst h1
    by_cases h2 : s = 3
    · subst h2; simp
    · simp [h2]
  · simp [h1]
theorem RR_dr {q : Nat} : up2 (RR co dr cc a1 a2) 0 4 (some q) = RR co q cc a1 a2 := by
  funext k s
  unfold up2 RR
  by_cases h1 : k = 0
  · subst h1
    by_cases h2 : s = 4
    · subst h2; simp
    · simp [h2]
  · simp [h1]
end
