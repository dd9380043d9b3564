theorem pX0_init : (parseMethodDescriptor yX0_init.desc).map (fun d => d.parameters.length) = some 0 := by decide +kernel
theorem pX0_weigh : (parseMethodDescriptor yX0_weigh.desc).map (fun d => d.parameters.length) = some 3 := by decide +kernel
theorem pX0_lastAfter : (parseMethodDescriptor yX0_lastAfter.desc).map (fun d => d.parameters.length) = some 3 := by decide +kernel
theorem pX0_reduce : (parseMethodDescriptor yX0_reduce.desc).map (fun d => d.parameters.length) = some 0 := by decide +kernel
theorem pX1_init : (parseMethodDescriptor yX1_init.desc).map (fun d => d.parameters.length) = some 0 := by decide +kernel
theorem pX1_learn : (parseMethodDescriptor yX1_learn.desc).map (fun d => d.parameters.length) = some 1 := by decide +kernel
theorem pX1_worth : (parseMethodDescriptor yX1_worth.desc).map (fun d => d.parameters.length) = some 1 := by decide +kernel
theorem pX1_cost : (parseMethodDescriptor yX1_cost.desc).map (fun d => d.parameters.length) = some 1 := by decide +kernel
theorem pX1_lastAmong : (parseMethodDescriptor yX1_lastAmong.desc).map (fun d => d.parameters.length) = some 1 := by decide +kernel
theorem pX1_pricesAmong : (parseMethodDescriptor yX1_pricesAmong.desc).map (fun d => d.parameters.length) = some 2 := by decide +kernel
theorem pX2_init : (parseMethodDescriptor yX2_init.desc).map (fun d => d.parameters.length) = some 0 := by decide +kernel
theorem pX2_copyFrom : (parseMethodDescriptor yX2_copyFrom.desc).map (fun d => d.parameters.length) = some 1 := by decide +kernel
theorem pX2_readFrom : (parseMethodDescriptor yX2_readFrom.desc).map (fun d => d.parameters.length) = some 1 := by decide +kernel
theorem pX2_has : (parseMethodDescriptor yX2_has.desc).map (fun d => d.parameters.length) = some 1 := by decide +kernel
theorem pX2_figure : (parseMethodDescriptor yX2_figure.desc).map (fun d => d.parameters.length) = some 2 := by decide +kernel
theorem pX2_all : (parseMethodDescriptor yX2_all.desc).map (fun d => d.parameters.length) = some 0 := by decide +kernel
theorem pX2_there : (parseMethodDescriptor yX2_there.desc).map (fun d => d.parameters.length) = some 0 := by decide +kernel
theorem pX2_shown : (parseMethodDescriptor yX2_shown.desc).map (fun d => d.parameters.length) = some 0 := by decide +kernel
theorem pX2_unseen : (parseMethodDescriptor yX2_unseen.desc).map (fun d => d.parameters.length) = some 0 := by decide +kernel
theorem pX2_breakable : (parseMethodDescriptor yX2_breakable.desc).map (fun d => d.parameters.length) = some 0 := by decide +kernel
theorem pX2_alikeTo : (parseMethodDescriptor yX2_alikeTo.desc).map (fun d => d.parameters.length) = some 3 := by decide +kernel
theorem pX2_sameMarks : (parseMethodDescriptor yX2_sameMarks.desc).map (fun d => d.parameters.length) = some 2 := by decide +kernel
theorem pX2_lastOnes : (parseMethodDescriptor yX2_lastOnes.desc).map (fun d => d.parameters.length) = some 0 := by decide +kernel
theorem pX2_lastOnesBy : (parseMethodDescriptor yX2_lastOnesBy.desc).map (fun d => d.parameters.length) = some 2 := by decide +kernel
theorem pX2_priceOf : (parseMethodDescriptor yX2_priceOf.desc).map (fun d => d.parameters.length) = some 1 := by decide +kernel
theorem pX2_shareOf : (parseMethodDescriptor yX2_shareOf.desc).map (fun d => d.parameters.length) = some 2 := by decide +kernel
theorem pX2_canBe : (parseMethodDescriptor yX2_canBe.desc).map (fun d => d.parameters.length) = some 2 := by decide +kernel
theorem pX2_perform : (parseMethodDescriptor yX2_perform.desc).map (fun d => d.parameters.length) = some 2 := by decide +kernel
theorem pX2_addForged : (parseMethodDescriptor yX2_addForged.desc).map (fun d => d.parameters.length) = some 2 := by decide +kernel
theorem pX2_changeWord : (parseMethodDescriptor yX2_changeWord.desc).map (fun d => d.parameters.length) = some 1 := by decide +kernel
theorem pX3_init : (parseMethodDescriptor yX3_init.desc).map (fun d => d.parameters.length) = some 0 := by decide +kernel
theorem pX3_play : (parseMethodDescriptor yX3_play.desc).map (fun d => d.parameters.length) = some 2 := by decide +kernel
theorem pX3_lead : (parseMethodDescriptor yX3_lead.desc).map (fun d => d.parameters.length) = some 6 := by decide +kernel
theorem pX3_leadByLastTurn : (parseMethodDescriptor yX3_leadByLastTurn.desc).map (fun d => d.parameters.length) = some 1 := by decide +kernel
theorem pX3_gainOf : (parseMethodDescriptor yX3_gainOf.desc).map (fun d => d.parameters.length) = some 1 := by decide +kernel
theorem pX4_init : (parseMethodDescriptor yX4_init.desc).map (fun d => d.parameters.length) = some 0 := by decide +kernel
theorem pX4_weigh : (parseMethodDescriptor yX4_weigh.desc).map (fun d => d.parameters.length) = some 1 := by decide +kernel
theorem pX4_firstChoice : (parseMethodDescriptor yX4_firstChoice.desc).map (fun d => d.parameters.length) = some 1 := by decide +kernel
theorem pX4_learn : (parseMethodDescriptor yX4_learn.desc).map (fun d => d.parameters.length) = some 2 := by decide +kernel
theorem pX4_goThrough : (parseMethodDescriptor yX4_goThrough.desc).map (fun d => d.parameters.length) = some 1 := by decide +kernel
theorem pX4_mayChoose : (parseMethodDescriptor yX4_mayChoose.desc).map (fun d => d.parameters.length) = some 3 := by decide +kernel
theorem pX4_tell : (parseMethodDescriptor yX4_tell.desc).map (fun d => d.parameters.length) = some 1 := by decide +kernel
theorem pX4_raiseBest : (parseMethodDescriptor yX4_raiseBest.desc).map (fun d => d.parameters.length) = some 3 := by decide +kernel
theorem pX4_raise : (parseMethodDescriptor yX4_raise.desc).map (fun d => d.parameters.length) = some 3 := by decide +kernel
theorem pX4_isRest : (parseMethodDescriptor yX4_isRest.desc).map (fun d => d.parameters.length) = some 3 := by decide +kernel
theorem pX4_has : (parseMethodDescriptor yX4_has.desc).map (fun d => d.parameters.length) = some 3 := by decide +kernel
theorem pX5_init : (parseMethodDescriptor yX5_init.desc).map (fun d => d.parameters.length) = some 0 := by decide +kernel
theorem pX5_seekCampaign : (parseMethodDescriptor yX5_seekCampaign.desc).map (fun d => d.parameters.length) = some 2 := by decide +kernel
theorem pX5_leastCopy : (parseMethodDescriptor yX5_leastCopy.desc).map (fun d => d.parameters.length) = some 2 := by decide +kernel
theorem pX5_wordOfMostLast : (parseMethodDescriptor yX5_wordOfMostLast.desc).map (fun d => d.parameters.length) = some 1 := by decide +kernel
theorem pX5_lastBy : (parseMethodDescriptor yX5_lastBy.desc).map (fun d => d.parameters.length) = some 2 := by decide +kernel
theorem pX5_costToBreak : (parseMethodDescriptor yX5_costToBreak.desc).map (fun d => d.parameters.length) = some 2 := by decide +kernel
theorem pX5_frees : (parseMethodDescriptor yX5_frees.desc).map (fun d => d.parameters.length) = some 3 := by decide +kernel
theorem pX6_init : (parseMethodDescriptor yX6_init.desc).map (fun d => d.parameters.length) = some 0 := by decide +kernel
theorem pX6_clear : (parseMethodDescriptor yX6_clear.desc).map (fun d => d.parameters.length) = some 0 := by decide +kernel
theorem pX6_remember : (parseMethodDescriptor yX6_remember.desc).map (fun d => d.parameters.length) = some 1 := by decide +kernel
theorem pX6_takeBack : (parseMethodDescriptor yX6_takeBack.desc).map (fun d => d.parameters.length) = some 1 := by decide +kernel
theorem pX6_placeAt : (parseMethodDescriptor yX6_placeAt.desc).map (fun d => d.parameters.length) = some 1 := by decide +kernel
theorem pX7_init : (parseMethodDescriptor yX7_init.desc).map (fun d => d.parameters.length) = some 0 := by decide +kernel
theorem pX7_append : (parseMethodDescriptor yX7_append.desc).map (fun d => d.parameters.length) = some 3 := by decide +kernel
theorem pX7_survey : (parseMethodDescriptor yX7_survey.desc).map (fun d => d.parameters.length) = some 1 := by decide +kernel
theorem pX7_mostTelling : (parseMethodDescriptor yX7_mostTelling.desc).map (fun d => d.parameters.length) = some 1 := by decide +kernel
theorem pX7_learn : (parseMethodDescriptor yX7_learn.desc).map (fun d => d.parameters.length) = some 1 := by decide +kernel
theorem pX7_isSo : (parseMethodDescriptor yX7_isSo.desc).map (fun d => d.parameters.length) = some 2 := by decide +kernel
theorem pX7_tally : (parseMethodDescriptor yX7_tally.desc).map (fun d => d.parameters.length) = some 1 := by decide +kernel
theorem pX8_init : (parseMethodDescriptor yX8_init.desc).map (fun d => d.parameters.length) = some 0 := by decide +kernel
theorem pX8_append : (parseMethodDescriptor yX8_append.desc).map (fun d => d.parameters.length) = some 1 := by decide +kernel
theorem pX8_firstFault : (parseMethodDescriptor yX8_firstFault.desc).map (fun d => d.parameters.length) = some 0 := by decide +kernel
theorem pX8_things : (parseMethodDescriptor yX8_things.desc).map (fun d => d.parameters.length) = some 0 := by decide +kernel
theorem pX8_wordTold : (parseMethodDescriptor yX8_wordTold.desc).map (fun d => d.parameters.length) = some 0 := by decide +kernel
theorem pX8_figureTold : (parseMethodDescriptor yX8_figureTold.desc).map (fun d => d.parameters.length) = some 2 := by decide +kernel
theorem pX8_fits : (parseMethodDescriptor yX8_fits.desc).map (fun d => d.parameters.length) = some 1 := by decide +kernel
theorem pX8_isWithin : (parseMethodDescriptor yX8_isWithin.desc).map (fun d => d.parameters.length) = some 3 := by decide +kernel
theorem pX9_init : (parseMethodDescriptor yX9_init.desc).map (fun d => d.parameters.length) = some 0 := by decide +kernel
theorem pX9_write : (parseMethodDescriptor yX9_write.desc).map (fun d => d.parameters.length) = some 1 := by decide +kernel
theorem pX9_wipe : (parseMethodDescriptor yX9_wipe.desc).map (fun d => d.parameters.length) = some 0 := by decide +kernel
theorem pX9_fault : (parseMethodDescriptor yX9_fault.desc).map (fun d => d.parameters.length) = some 0 := by decide +kernel
theorem pX9_house : (parseMethodDescriptor yX9_house.desc).map (fun d => d.parameters.length) = some 0 := by decide +kernel
theorem pX9_thing : (parseMethodDescriptor yX9_thing.desc).map (fun d => d.parameters.length) = some 2 := by decide +kernel
theorem pX9_alike : (parseMethodDescriptor yX9_alike.desc).map (fun d => d.parameters.length) = some 1 := by decide +kernel
theorem pX9_price : (parseMethodDescriptor yX9_price.desc).map (fun d => d.parameters.length) = some 1 := by decide +kernel
theorem pX9_broken : (parseMethodDescriptor yX9_broken.desc).map (fun d => d.parameters.length) = some 1 := by decide +kernel
theorem pX9_forge : (parseMethodDescriptor yX9_forge.desc).map (fun d => d.parameters.length) = some 2 := by decide +kernel
theorem pX9_hide : (parseMethodDescriptor yX9_hide.desc).map (fun d => d.parameters.length) = some 1 := by decide +kernel
theorem pX9_claim : (parseMethodDescriptor yX9_claim.desc).map (fun d => d.parameters.length) = some 1 := by decide +kernel
theorem pX9_guard : (parseMethodDescriptor yX9_guard.desc).map (fun d => d.parameters.length) = some 1 := by decide +kernel
theorem pX9_word : (parseMethodDescriptor yX9_word.desc).map (fun d => d.parameters.length) = some 1 := by decide +kernel
theorem pX9_year : (parseMethodDescriptor yX9_year.desc).map (fun d => d.parameters.length) = some 0 := by decide +kernel
theorem pX9_undo : (parseMethodDescriptor yX9_undo.desc).map (fun d => d.parameters.length) = some 0 := by decide +kernel
theorem pX9_judge : (parseMethodDescriptor yX9_judge.desc).map (fun d => d.parameters.length) = some 2 := by decide +kernel
theorem pX9_tryAct : (parseMethodDescriptor yX9_tryAct.desc).map (fun d => d.parameters.length) = some 2 := by decide +kernel
theorem pX9_campaign : (parseMethodDescriptor yX9_campaign.desc).map (fun d => d.parameters.length) = some 1 := by decide +kernel
theorem pX9_campaignBy : (parseMethodDescriptor yX9_campaignBy.desc).map (fun d => d.parameters.length) = some 2 := by decide +kernel
theorem pX9_copy : (parseMethodDescriptor yX9_copy.desc).map (fun d => d.parameters.length) = some 1 := by decide +kernel
theorem pX9_bestWord : (parseMethodDescriptor yX9_bestWord.desc).map (fun d => d.parameters.length) = some 1 := by decide +kernel
theorem pX9_rests : (parseMethodDescriptor yX9_rests.desc).map (fun d => d.parameters.length) = some 1 := by decide +kernel
theorem pX9_sight : (parseMethodDescriptor yX9_sight.desc).map (fun d => d.parameters.length) = some 3 := by decide +kernel
theorem pX9_unsight : (parseMethodDescriptor yX9_unsight.desc).map (fun d => d.parameters.length) = some 0 := by decide +kernel
theorem pX9_worlds : (parseMethodDescriptor yX9_worlds.desc).map (fun d => d.parameters.length) = some 1 := by decide +kernel
theorem pX9_toSeek : (parseMethodDescriptor yX9_toSeek.desc).map (fun d => d.parameters.length) = some 0 := by decide +kernel
theorem pX9_byTurns : (parseMethodDescriptor yX9_byTurns.desc).map (fun d => d.parameters.length) = some 2 := by decide +kernel
theorem pX9_chance : (parseMethodDescriptor yX9_chance.desc).map (fun d => d.parameters.length) = some 3 := by decide +kernel
theorem pX9_seed : (parseMethodDescriptor yX9_seed.desc).map (fun d => d.parameters.length) = some 1 := by decide +kernel
theorem pX9_years : (parseMethodDescriptor yX9_years.desc).map (fun d => d.parameters.length) = some 2 := by decide +kernel
theorem pX9_keep : (parseMethodDescriptor yX9_keep.desc).map (fun d => d.parameters.length) = some 1 := by decide +kernel
theorem pX9_again : (parseMethodDescriptor yX9_again.desc).map (fun d => d.parameters.length) = some 1 := by decide +kernel
theorem pX9_count : (parseMethodDescriptor yX9_count.desc).map (fun d => d.parameters.length) = some 1 := by decide +kernel
theorem pX9_slotAt : (parseMethodDescriptor yX9_slotAt.desc).map (fun d => d.parameters.length) = some 1 := by decide +kernel
theorem pX9_holds : (parseMethodDescriptor yX9_holds.desc).map (fun d => d.parameters.length) = some 2 := by decide +kernel
theorem pX9_withoutLast : (parseMethodDescriptor yX9_withoutLast.desc).map (fun d => d.parameters.length) = some 2 := by decide +kernel
theorem pX9_at : (parseMethodDescriptor yX9_at.desc).map (fun d => d.parameters.length) = some 2 := by decide +kernel
theorem pX9_put : (parseMethodDescriptor yX9_put.desc).map (fun d => d.parameters.length) = some 3 := by decide +kernel
theorem pX9_rowAt : (parseMethodDescriptor yX9_rowAt.desc).map (fun d => d.parameters.length) = some 2 := by decide +kernel
theorem pX10_init : (parseMethodDescriptor yX10_init.desc).map (fun d => d.parameters.length) = some 0 := by decide +kernel
theorem pX10_in : (parseMethodDescriptor yX10_in.desc).map (fun d => d.parameters.length) = some 3 := by decide +kernel
theorem pX10_has : (parseMethodDescriptor yX10_has.desc).map (fun d => d.parameters.length) = some 2 := by decide +kernel
theorem pX10_ones : (parseMethodDescriptor yX10_ones.desc).map (fun d => d.parameters.length) = some 1 := by decide +kernel
theorem pX10_write : (parseMethodDescriptor yX10_write.desc).map (fun d => d.parameters.length) = some 1 := by decide +kernel
theorem pX10_wipe : (parseMethodDescriptor yX10_wipe.desc).map (fun d => d.parameters.length) = some 0 := by decide +kernel
theorem pX10_fits : (parseMethodDescriptor yX10_fits.desc).map (fun d => d.parameters.length) = some 1 := by decide +kernel
theorem pX10_fault : (parseMethodDescriptor yX10_fault.desc).map (fun d => d.parameters.length) = some 0 := by decide +kernel
theorem pX10_figure : (parseMethodDescriptor yX10_figure.desc).map (fun d => d.parameters.length) = some 1 := by decide +kernel
theorem pX10_code : (parseMethodDescriptor yX10_code.desc).map (fun d => d.parameters.length) = some 5 := by decide +kernel
theorem pX10_house : (parseMethodDescriptor yX10_house.desc).map (fun d => d.parameters.length) = some 0 := by decide +kernel
theorem pX10_many : (parseMethodDescriptor yX10_many.desc).map (fun d => d.parameters.length) = some 0 := by decide +kernel
theorem pX10_isThing : (parseMethodDescriptor yX10_isThing.desc).map (fun d => d.parameters.length) = some 1 := by decide +kernel
theorem pX10_guardOf : (parseMethodDescriptor yX10_guardOf.desc).map (fun d => d.parameters.length) = some 1 := by decide +kernel
theorem pX10_costOf : (parseMethodDescriptor yX10_costOf.desc).map (fun d => d.parameters.length) = some 1 := by decide +kernel
theorem pX10_worthOf : (parseMethodDescriptor yX10_worthOf.desc).map (fun d => d.parameters.length) = some 1 := by decide +kernel
theorem pX10_ownerOf : (parseMethodDescriptor yX10_ownerOf.desc).map (fun d => d.parameters.length) = some 1 := by decide +kernel
theorem pX10_marksOf : (parseMethodDescriptor yX10_marksOf.desc).map (fun d => d.parameters.length) = some 1 := by decide +kernel
theorem pX10_tenTo : (parseMethodDescriptor yX10_tenTo.desc).map (fun d => d.parameters.length) = some 1 := by decide +kernel
theorem pX10_markOf : (parseMethodDescriptor yX10_markOf.desc).map (fun d => d.parameters.length) = some 2 := by decide +kernel
theorem pX10_same : (parseMethodDescriptor yX10_same.desc).map (fun d => d.parameters.length) = some 2 := by decide +kernel
theorem pX10_alikeOf : (parseMethodDescriptor yX10_alikeOf.desc).map (fun d => d.parameters.length) = some 3 := by decide +kernel
theorem pX10_shown : (parseMethodDescriptor yX10_shown.desc).map (fun d => d.parameters.length) = some 1 := by decide +kernel
theorem pX10_lastOf : (parseMethodDescriptor yX10_lastOf.desc).map (fun d => d.parameters.length) = some 2 := by decide +kernel
theorem pX10_last : (parseMethodDescriptor yX10_last.desc).map (fun d => d.parameters.length) = some 0 := by decide +kernel
theorem pX10_thing : (parseMethodDescriptor yX10_thing.desc).map (fun d => d.parameters.length) = some 2 := by decide +kernel
theorem pX10_alike : (parseMethodDescriptor yX10_alike.desc).map (fun d => d.parameters.length) = some 1 := by decide +kernel
theorem pX10_priceBy : (parseMethodDescriptor yX10_priceBy.desc).map (fun d => d.parameters.length) = some 2 := by decide +kernel
theorem pX10_price : (parseMethodDescriptor yX10_price.desc).map (fun d => d.parameters.length) = some 1 := by decide +kernel
theorem pX10_keepAct : (parseMethodDescriptor yX10_keepAct.desc).map (fun d => d.parameters.length) = some 0 := by decide +kernel
theorem pX10_guardAt : (parseMethodDescriptor yX10_guardAt.desc).map (fun d => d.parameters.length) = some 2 := by decide +kernel
theorem pX10_canBreak : (parseMethodDescriptor yX10_canBreak.desc).map (fun d => d.parameters.length) = some 2 := by decide +kernel
theorem pX10_canClaim : (parseMethodDescriptor yX10_canClaim.desc).map (fun d => d.parameters.length) = some 2 := by decide +kernel
theorem pX10_canHide : (parseMethodDescriptor yX10_canHide.desc).map (fun d => d.parameters.length) = some 2 := by decide +kernel
theorem pX10_free : (parseMethodDescriptor yX10_free.desc).map (fun d => d.parameters.length) = some 2 := by decide +kernel
theorem pX10_doHide : (parseMethodDescriptor yX10_doHide.desc).map (fun d => d.parameters.length) = some 2 := by decide +kernel
theorem pX10_doGuard : (parseMethodDescriptor yX10_doGuard.desc).map (fun d => d.parameters.length) = some 2 := by decide +kernel
theorem pX10_broken : (parseMethodDescriptor yX10_broken.desc).map (fun d => d.parameters.length) = some 1 := by decide +kernel
theorem pX10_forge : (parseMethodDescriptor yX10_forge.desc).map (fun d => d.parameters.length) = some 2 := by decide +kernel
theorem pX10_hide : (parseMethodDescriptor yX10_hide.desc).map (fun d => d.parameters.length) = some 1 := by decide +kernel
theorem pX10_claim : (parseMethodDescriptor yX10_claim.desc).map (fun d => d.parameters.length) = some 1 := by decide +kernel
theorem pX10_guard : (parseMethodDescriptor yX10_guard.desc).map (fun d => d.parameters.length) = some 1 := by decide +kernel
theorem pX10_word : (parseMethodDescriptor yX10_word.desc).map (fun d => d.parameters.length) = some 1 := by decide +kernel
theorem pX10_year : (parseMethodDescriptor yX10_year.desc).map (fun d => d.parameters.length) = some 0 := by decide +kernel
theorem pX10_undo : (parseMethodDescriptor yX10_undo.desc).map (fun d => d.parameters.length) = some 0 := by decide +kernel
theorem pX10_can : (parseMethodDescriptor yX10_can.desc).map (fun d => d.parameters.length) = some 2 := by decide +kernel
theorem pX10_make : (parseMethodDescriptor yX10_make.desc).map (fun d => d.parameters.length) = some 2 := by decide +kernel
theorem pX10_judge : (parseMethodDescriptor yX10_judge.desc).map (fun d => d.parameters.length) = some 2 := by decide +kernel
theorem pX10_apart : (parseMethodDescriptor yX10_apart.desc).map (fun d => d.parameters.length) = some 2 := by decide +kernel
theorem pX10_costBy : (parseMethodDescriptor yX10_costBy.desc).map (fun d => d.parameters.length) = some 2 := by decide +kernel
theorem pX10_campaignWord : (parseMethodDescriptor yX10_campaignWord.desc).map (fun d => d.parameters.length) = some 1 := by decide +kernel
theorem pX10_campaign : (parseMethodDescriptor yX10_campaign.desc).map (fun d => d.parameters.length) = some 1 := by decide +kernel
theorem pX10_campaignBy : (parseMethodDescriptor yX10_campaignBy.desc).map (fun d => d.parameters.length) = some 2 := by decide +kernel
theorem pX10_copy : (parseMethodDescriptor yX10_copy.desc).map (fun d => d.parameters.length) = some 1 := by decide +kernel
theorem pX10_bestWord : (parseMethodDescriptor yX10_bestWord.desc).map (fun d => d.parameters.length) = some 1 := by decide +kernel
theorem pX10_may : (parseMethodDescriptor yX10_may.desc).map (fun d => d.parameters.length) = some 2 := by decide +kernel
theorem pX10_has3 : (parseMethodDescriptor yX10_has3.desc).map (fun d => d.parameters.length) = some 4 := by decide +kernel
theorem pX10_rest : (parseMethodDescriptor yX10_rest.desc).map (fun d => d.parameters.length) = some 3 := by decide +kernel
theorem pX10_rests : (parseMethodDescriptor yX10_rests.desc).map (fun d => d.parameters.length) = some 1 := by decide +kernel
theorem pX10_sight : (parseMethodDescriptor yX10_sight.desc).map (fun d => d.parameters.length) = some 3 := by decide +kernel
theorem pX10_unsight : (parseMethodDescriptor yX10_unsight.desc).map (fun d => d.parameters.length) = some 0 := by decide +kernel
theorem pX10_hiddenThere : (parseMethodDescriptor yX10_hiddenThere.desc).map (fun d => d.parameters.length) = some 0 := by decide +kernel
theorem pX10_isSighted : (parseMethodDescriptor yX10_isSighted.desc).map (fun d => d.parameters.length) = some 1 := by decide +kernel
theorem pX10_layWorlds : (parseMethodDescriptor yX10_layWorlds.desc).map (fun d => d.parameters.length) = some 0 := by decide +kernel
theorem pX10_worlds : (parseMethodDescriptor yX10_worlds.desc).map (fun d => d.parameters.length) = some 1 := by decide +kernel
theorem pX10_toSeek : (parseMethodDescriptor yX10_toSeek.desc).map (fun d => d.parameters.length) = some 0 := by decide +kernel
theorem pX10_canMove : (parseMethodDescriptor yX10_canMove.desc).map (fun d => d.parameters.length) = some 2 := by decide +kernel
theorem pX10_begin : (parseMethodDescriptor yX10_begin.desc).map (fun d => d.parameters.length) = some 3 := by decide +kernel
theorem pX10_go : (parseMethodDescriptor yX10_go.desc).map (fun d => d.parameters.length) = some 2 := by decide +kernel
theorem pX10_byTurns : (parseMethodDescriptor yX10_byTurns.desc).map (fun d => d.parameters.length) = some 2 := by decide +kernel
theorem pX10_common : (parseMethodDescriptor yX10_common.desc).map (fun d => d.parameters.length) = some 2 := by decide +kernel
theorem pX10_frail : (parseMethodDescriptor yX10_frail.desc).map (fun d => d.parameters.length) = some 1 := by decide +kernel
theorem pX10_chance : (parseMethodDescriptor yX10_chance.desc).map (fun d => d.parameters.length) = some 3 := by decide +kernel
theorem pX10_seed : (parseMethodDescriptor yX10_seed.desc).map (fun d => d.parameters.length) = some 1 := by decide +kernel
theorem pX10_years : (parseMethodDescriptor yX10_years.desc).map (fun d => d.parameters.length) = some 2 := by decide +kernel
theorem pX10_keep : (parseMethodDescriptor yX10_keep.desc).map (fun d => d.parameters.length) = some 1 := by decide +kernel
theorem pX10_again : (parseMethodDescriptor yX10_again.desc).map (fun d => d.parameters.length) = some 1 := by decide +kernel
theorem pX10_count : (parseMethodDescriptor yX10_count.desc).map (fun d => d.parameters.length) = some 1 := by decide +kernel
theorem pJ6_bitCount : (parseMethodDescriptor yJ6_bitCount_0f7a4.desc).map (fun d => d.parameters.length) = some 1 := by decide +kernel
theorem ne_add {x y : Int32} {a b : Nat} (h : x = nI a) (h2 : y = nI b) : x + y = nI (a + b) := by rw [h, h2, nI_add]
theorem ne_mul {x y : Int32} {a b : Nat} (h : x = nI a) (h2 : y = nI b) : x * y = nI (a * b) := by rw [h, h2, pk_mul]
theorem nI_inc (k : Nat) : nI k + Int32.ofInt 1 = nI (k + 1) := nI_1 k
theorem fb_rng9 (x : Int32) : -2147483648 ≤ x.toInt ∧ x.toInt < 2147483648 := by
  have h1 := Int32.le_toInt x
  have h2 := Int32.toInt_lt x
  exact ⟨by simpa using h1, by simpa using h2⟩
theorem tcn_lt (x : Int32) : x.toNatClampNeg < 2 ^ 31 := by
  have h := fb_rng9 x
  show x.toInt.toNat < 2 ^ 31
  omega
theorem dn_dec (x : Int32) (c : 0 ≤ x) : (x + (-1)).toInt = x.toInt - 1 := by
  rw [Int32.le_iff_toInt_le] at c
  have h := fb_rng9 x
  have h0 : (0 : Int32).toInt = 0 := rfl
  have h1 : (-1 : Int32).toInt = -1 := rfl
  rw [Int32.toInt_add, h1]
  rw [h0] at c
  apply Int.bmod_eq_of_le <;> omega
theorem nltd {k : Nat} {x : Int32} (c : nI k < x) (hk : k ≤ x.toNatClampNeg) : k < x.toNatClampNeg := by
  have h1 := tcn_lt x
  rw [Int32.lt_iff_toInt_lt, nI_toInt (by omega)] at c
  show k < x.toInt.toNat
  omega
theorem nlt {k N : Nat} {x : Int32} (c : nI k < x) (hx : x.toInt = (N : Int)) (hk : k < 2 ^ 31) : k < N := by
  rw [Int32.lt_iff_toInt_lt, nI_toInt hk, hx] at c
  omega
theorem nle {k N : Nat} {x : Int32} (c : nI k ≤ x) (hx : x.toInt = (N : Int)) (hk : k < 2 ^ 31) : k < N + 1 := by
  rw [Int32.le_iff_toInt_le, nI_toInt hk, hx] at c
  omega
theorem vin_c {x : Int32} {N : Nat} (h : 0 ≤ x) (h2 : x < nI N) (hN : N < 2 ^ 31) : vp_in x N := by
  rw [vp_in_iff]
  rw [Int32.le_iff_toInt_le] at h
  rw [Int32.lt_iff_toInt_lt, nI_toInt hN] at h2
  exact ⟨h, h2⟩
theorem vin_d {x : Int32} {N : Nat} (h : 0 ≤ x) (h2 : ¬ nI N ≤ x) (hN : N < 2 ^ 31) : vp_in x N := vin_c h (Int32.not_le.mp h2) hN
theorem vin_k {x y : Int32} {N : Nat} (h : 0 ≤ x) (h2 : x < y) (hy : y.toInt = (N : Int)) : vp_in x N := by
  rw [vp_in_iff]
  rw [Int32.le_iff_toInt_le] at h
  rw [Int32.lt_iff_toInt_lt, hy] at h2
  exact ⟨h, h2⟩
theorem vin0 {x : Int32} {N : Nat} (h : vp_in x N) : 0 ≤ x := by
  rw [vp_in_iff] at h
  rw [Int32.le_iff_toInt_le]
  exact h.1
theorem vinN {x : Int32} {N : Nat} (h : vp_in x N) (hN : N < 2 ^ 31) : x < nI N := by
  rw [vp_in_iff] at h
  rw [Int32.lt_iff_toInt_lt, nI_toInt hN]
  exact h.2
theorem ne_pos {x : Int32} (h : 0 < x) : ¬ x = 0 := fun e => by
  rw [e] at h
  exact absurd h (by decide)
theorem vin_rm {x : Int32} (h : vp_in x 16) : vp_in (rm (x + 16 - 1) 16) 16 := by
  obtain ⟨j, hj, rfl⟩ := vp_in_of h (by decide)
  have h9 : ∀ j : Nat, j < 16 → ¬ (rm (nI j + 16 - 1) 16 < 0 ∨ 16 ≤ (rm (nI j + 16 - 1) 16).toNatClampNeg) := by decide +kernel
  exact h9 j hj
theorem vin_mono {x : Int32} {N M : Nat} (h : vp_in x N) (hNM : N ≤ M) : vp_in x M := by
  rw [vp_in_iff] at h ⊢
  omega
theorem nar_bi (b : Bool) : vp_nar .boolean (bi b) = bi b := by cases b <;> decide
theorem nI_cl {n : Nat} (h : n < 2147483648) : (nI n).toNatClampNeg = n := nI_clamp h

theorem j_iald_n {X : Cx} {l : Launch} {nL : Nat} {D : Dm} {cc : ByteArray} {own : String} {dep : Nat} {ret : Option FieldType} {σ : Mm} {pc : Nat} {ls : List (Nat × Value)} {st : List Value} {Q : State → Prop} (F : Fx X l nL D cc own dep ret) {k N : Nat} {i : Int32} (d : decode cc pc = .ok (.iaload, 1)) (n : Nat) (hn : pc + 1 = n) (ha : iaP k N) (a : Nat) (hi : i = nI a) (hin : a < N) (kk : JJ X nL D σ n ls (.int (σ.1 k a) :: st) Q) : JJ X nL D σ pc ls (.int i :: .ref (D.2.1 k) :: st) Q := by
  subst hi
  have h9 := ha.2.1
  have e := nI_clamp (n := a) (by omega)
  exact j_iald F d n hn ha (vp_in_nI hin (by omega)) (by rw [e]; exact kk)
theorem j_iast_n {X : Cx} {l : Launch} {nL : Nat} {D : Dm} {cc : ByteArray} {own : String} {dep : Nat} {ret : Option FieldType} {σ : Mm} {pc : Nat} {ls : List (Nat × Value)} {st : List Value} {Q : State → Prop} (F : Fx X l nL D cc own dep ret) {k N : Nat} {i v : Int32} (d : decode cc pc = .ok (.iastore, 1)) (n : Nat) (hn : pc + 1 = n) (ha : iaP k N) (a : Nat) (hi : i = nI a) (hin : a < N) (kk : JJ X nL D (up σ k a v) n ls st Q) : JJ X nL D σ pc ls (.int v :: .int i :: .ref (D.2.1 k) :: st) Q := by
  subst hi
  have h9 := ha.2.1
  have e := nI_clamp (n := a) (by omega)
  exact j_iast F d n hn ha (vp_in_nI hin (by omega)) (by rw [e]; exact kk)
theorem j_zald_n {X : Cx} {l : Launch} {nL : Nat} {D : Dm} {cc : ByteArray} {own : String} {dep : Nat} {ret : Option FieldType} {σ : Mm} {pc : Nat} {ls : List (Nat × Value)} {st : List Value} {Q : State → Prop} (F : Fx X l nL D cc own dep ret) {k N : Nat} {i : Int32} (d : decode cc pc = .ok (.baload, 1)) (n : Nat) (hn : pc + 1 = n) (hk : k < 89) (hN : N < 1000) (ha : ∀ f g, shp D.2.1 D.2.2 k f g = .inl (D.2.2 1, (N, .inl f))) (a : Nat) (hi : i = nI a) (hin : a < N) (kk : JJ X nL D σ n ls (.int (σ.1 k a) :: st) Q) : JJ X nL D σ pc ls (.int i :: .ref (D.2.1 k) :: st) Q := by
  subst hi
  have e := nI_clamp (n := a) (by omega)
  exact j_zald F d n hn hk ha (vp_in_nI hin (by omega)) (by rw [e]; exact kk)
theorem j_zast_n {X : Cx} {l : Launch} {nL : Nat} {D : Dm} {cc : ByteArray} {own : String} {dep : Nat} {ret : Option FieldType} {σ : Mm} {pc : Nat} {ls : List (Nat × Value)} {st : List Value} {Q : State → Prop} (F : Fx X l nL D cc own dep ret) {k N : Nat} {i v v' : Int32} (d : decode cc pc = .ok (.bastore, 1)) (n : Nat) (hn : pc + 1 = n) (hk : k < 89) (hN : N < 1000) (ha : ∀ f g, shp D.2.1 D.2.2 k f g = .inl (D.2.2 1, (N, .inl f))) (a : Nat) (hi : i = nI a) (hin : a < N) (hv : vp_nar .boolean v = v') (kk : JJ X nL D (up σ k a v') n ls st Q) : JJ X nL D σ pc ls (.int v :: .int i :: .ref (D.2.1 k) :: st) Q := by
  subst hi
  have e := nI_clamp (n := a) (by omega)
  exact j_zast F d n hn hk ha (vp_in_nI hin (by omega)) hv (by rw [e]; exact kk)
theorem j_by {X : Cx} {nL : Nat} {D : Dm} {σ : Mm} {pc : Nat} {ls : List (Nat × Value)} {st : List Value} {Q : State → Prop} (c : Prop) [Decidable c] (kt : c → JJ X nL D σ pc ls st Q) (kf : ¬ c → JJ X nL D σ pc ls st Q) : JJ X nL D σ pc ls st Q := if h : c then kt h else kf h
theorem j_alenq {X : Cx} {l : Launch} {nL : Nat} {D : Dm} {cc : ByteArray} {own : String} {dep : Nat} {ret : Option FieldType} {σ : Mm} {pc : Nat} {ls : List (Nat × Value)} {st : List Value} {Q : State → Prop} (F : Fx X l nL D cc own dep ret) {k N : Nat} {f : Nat → Option Nat} (d : decode cc pc = .ok (.arraylength, 1)) (n : Nat) (hn : pc + 1 = n) (hk : k < 89) (ha : shp D.2.1 D.2.2 k (σ.1 k) (σ.2 k) = .inl (D.2.2 2, (N, qs f))) (kk : JJ X nL D σ n ls (.int (nI N) :: st) Q) : JJ X nL D σ pc ls (.ref (D.2.1 k) :: st) Q := by
  subst hn
  obtain ⟨p, l9, e, R, s, m, args, below, meth, c, cells, slots, A⟩ := X
  obtain ⟨rfl, hx, hb, hml, hown, hts, hK, hi, hNs, hA, hlk, hret, hfr, hlo, hce, hsl⟩ := F
  intro H locs lsA hP hS hl
  exact va_alen (x := (N, qs f)) hx hb hK hP k 2 ((cw_get hk).trans (by rw [ha])) rfl rfl d (kk H locs lsA hP hS hl)
theorem j_alen3 {X : Cx} {l : Launch} {nL : Nat} {D : Dm} {cc : ByteArray} {own : String} {dep : Nat} {ret : Option FieldType} {σ : Mm} {pc : Nat} {ls : List (Nat × Value)} {st : List Value} {Q : State → Prop} (F : Fx X l nL D cc own dep ret) {k N : Nat} {f : Nat → Option Nat} (d : decode cc pc = .ok (.arraylength, 1)) (n : Nat) (hn : pc + 1 = n) (hk : k < 89) (ha : shp D.2.1 D.2.2 k (σ.1 k) (σ.2 k) = .inl (D.2.2 3, (N, qs f))) (kk : JJ X nL D σ n ls (.int (nI N) :: st) Q) : JJ X nL D σ pc ls (.ref (D.2.1 k) :: st) Q := by
  subst hn
  obtain ⟨p, l9, e, R, s, m, args, below, meth, c, cells, slots, A⟩ := X
  obtain ⟨rfl, hx, hb, hml, hown, hts, hK, hi, hNs, hA, hlk, hret, hfr, hlo, hce, hsl⟩ := F
  intro H locs lsA hP hS hl
  exact va_alen (x := (N, qs f)) hx hb hK hP k 3 ((cw_get hk).trans (by rw [ha])) rfl rfl d (kk H locs lsA hP hS hl)
theorem j_tin {X : Cx} {l : Launch} {nL : Nat} {D : Dm} {cc : ByteArray} {own : String} {dep : Nat} {ret : Option FieldType} {σ : Mm} {pc : Nat} {ls : List (Nat × Value)} {st : List Value} {Q : State → Prop} (F : Fx X l nL D cc own dep ret) {x v : Int32} {z : Int} {dflt lo hi : Int} {offs : Array Int} {len : Nat} {off : Int} (d : decode cc pc = .ok (.tableswitch dflt lo hi offs, len)) (hx9 : x = v) (hv : v.toInt = z) (h1 : ¬ z < lo) (h2 : ¬ hi < z) (ho : offs[(z - lo).toNat]? = some off) (tgt : Nat) (ht : (pc : Int) + off = (tgt : Int)) (kk : JJ X nL D σ tgt ls st Q) : JJ X nL D σ pc ls (.int x :: st) Q := by
  subst hx9
  subst hv
  obtain ⟨p, l9, e, R, s, m, args, below, meth, c, cells, slots, A⟩ := X
  obtain ⟨rfl, hx, hb, hml, hown, hts, hK, hi, hNs, hA, hlk, hret, hfr, hlo, hce, hsl⟩ := F
  intro H locs lsA hP hS hl
  exact lv_tableIn hx hb d h1 h2 ho ht (kk H locs lsA hP hS hl)
theorem j_tout {X : Cx} {l : Launch} {nL : Nat} {D : Dm} {cc : ByteArray} {own : String} {dep : Nat} {ret : Option FieldType} {σ : Mm} {pc : Nat} {ls : List (Nat × Value)} {st : List Value} {Q : State → Prop} (F : Fx X l nL D cc own dep ret) {x : Int32} {dflt lo hi : Int} {offs : Array Int} {len : Nat} (d : decode cc pc = .ok (.tableswitch dflt lo hi offs, len)) (h : x.toInt < lo ∨ hi < x.toInt) (tgt : Nat) (ht : (pc : Int) + dflt = (tgt : Int)) (kk : JJ X nL D σ tgt ls st Q) : JJ X nL D σ pc ls (.int x :: st) Q := by
  obtain ⟨p, l9, e, R, s, m, args, below, meth, c, cells, slots, A⟩ := X
  obtain ⟨rfl, hx, hb, hml, hown, hts, hK, hi, hNs, hA, hlk, hret, hfr, hlo, hce, hsl⟩ := F
  intro H locs lsA hP hS hl
  exact lv_tableOut hx hb d h ht (kk H locs lsA hP hS hl)
theorem j_lsw {X : Cx} {l : Launch} {nL : Nat} {D : Dm} {cc : ByteArray} {own : String} {dep : Nat} {ret : Option FieldType} {σ : Mm} {pc : Nat} {ls : List (Nat × Value)} {st : List Value} {Q : State → Prop} (F : Fx X l nL D cc own dep ret) {x : Int32} {dflt : Int} {ps : Array (Int × Int)} {len : Nat} {off : Int} (d : decode cc pc = .ok (.lookupswitch dflt ps, len)) (hp : (ps.toList.zip (ps.toList.drop 1)).all (fun (a, next) => a.1 < next.1) = true) (ho : Op.lookupswitch.offset ps.toList dflt x.toInt = off) (tgt : Nat) (ht : (pc : Int) + off = (tgt : Int)) (kk : JJ X nL D σ tgt ls st Q) : JJ X nL D σ pc ls (.int x :: st) Q := by
  obtain ⟨p, l9, e, R, s, m, args, below, meth, c, cells, slots, A⟩ := X
  obtain ⟨rfl, hx, hb, hml, hown, hts, hK, hi, hNs, hA, hlk, hret, hfr, hlo, hce, hsl⟩ := F
  intro H locs lsA hP hS hl
  exact lv_lookup hx hb d hp ho ht (kk H locs lsA hP hS hl)
theorem hsS {i : Int32} (h : vp_in i 2) : hsP (53 + 2 * i.toNatClampNeg) := by
  have h1 := Nat.not_le.mp fun q => h (Or.inr q)
  exact ⟨by omega, by omega, by omega⟩
theorem hsR {i : Int32} (h : vp_in i 16) : hsP (57 + 2 * i.toNatClampNeg) := by
  have h1 := Nat.not_le.mp fun q => h (Or.inr q)
  exact ⟨by omega, by omega, by omega⟩
theorem hs49 : hsP 49 := ⟨by decide, by decide, by decide⟩
theorem hs51 : hsP 51 := ⟨by decide, by decide, by decide⟩
theorem gd17 : gdP 17 := Or.inl rfl
theorem gd22 : gdP 22 := Or.inr rfl
theorem iaQn (p n : Nat) (hp : p = 10 ∧ n = 256 ∨ p = 14 ∧ n = 81) {a : Nat} (h : a < 3) : iaP (p + a) n := by
  rcases hp with ⟨rfl, rfl⟩ | ⟨rfl, rfl⟩ <;> (rcases (show a = 0 ∨ a = 1 ∨ a = 2 by omega) with rfl | rfl | rfl <;> exact ⟨by decide, by decide, fun _ _ _ _ => rfl⟩)
theorem iaQ {p n : Nat} (hp : p = 10 ∧ n = 256 ∨ p = 14 ∧ n = 81) {i : Int32} (h : vp_in i 3) : iaP (p + i.toNatClampNeg) n := iaQn p n hp (Nat.not_le.mp fun q => h (Or.inr q))
theorem j_qald2_n {X : Cx} {l : Launch} {nL : Nat} {D : Dm} {cc : ByteArray} {own : String} {dep : Nat} {ret : Option FieldType} {σ : Mm} {pc : Nat} {ls : List (Nat × Value)} {st : List Value} {Q : State → Prop} (F : Fx X l nL D cc own dep ret) {k N : Nat} {i : Int32} {f : Nat → Option Nat} {b : Nat} (d : decode cc pc = .ok (.aaload, 1)) (n : Nat) (hn : pc + 1 = n) (hk : k < 89) (hN : N < 1000) (ha : shp D.2.1 D.2.2 k (σ.1 k) (σ.2 k) = .inl (D.2.2 3, (N, qs f))) (a : Nat) (hi : i = nI a) (hin : a < N) (hf : f a = some b) (kk : JJ X nL D σ n ls (.ref b :: st) Q) : JJ X nL D σ pc ls (.int i :: .ref (D.2.1 k) :: st) Q := by
  subst hi
  have e := nI_clamp (n := a) (by omega)
  exact j_qald2 F d n hn hk ha (vp_in_nI hin (by omega)) (by rw [e]; exact hf) kk
theorem j_callVr {X : Cx} {l : Launch} {nL : Nat} {D : Dm} {cc : ByteArray} {own : String} {dep : Nat} {ret : Option FieldType} {σ : Mm} {pc : Nat} {ls : List (Nat × Value)} {st : List Value} {Q : State → Prop} (F : Fx X l nL D cc own dep ret) {y : MethodName} {c9 : ByteArray} {mx index n9 d9 : Nat} {r9 : Option FieldType} {as : List Value} {st9 : List Value} {k ci : Nat} {q9 : vw_C} {fs : List Value} {r : Value} {σ9 : Mm} (cv : jCV y c9 mx r9) (d : decode cc pc = .ok (.invokevirtual index, 3)) (n : Nat) (hn : pc + 3 = n) (hp9 : (parseMethodDescriptor y.desc).map (fun d => d.parameters.length) = some n9) (hlen : as.length = n9) (hdep : d9 < dep) (hmx : mx ≤ 45) (hst : catS st ≤ 8) (hst9 : as.reverse ++ .ref (D.2.1 k) :: st = st9) (hl9 : Cond.methodLink own index y ∈ lw_ok) (hc9 : vwCl[ci]? = some q9) (hq9 : q9.1 = y.cls) (hk : k < 89) (hs : shp D.2.1 D.2.2 k (σ.1 k) (σ.2 k) = .inr (ci, fs)) (hM : Ct l y c9 mx r9 d9 D (.ref (D.2.1 k) :: as) σ (some r, σ9)) (kk : JJ X nL D σ9 n ls (r :: st) Q) : JJ X nL D σ pc ls st9 Q := j_callV F cv d n hn hp9 hlen hdep hmx hst hst9 hl9 hc9 hq9 hk hs hM kk
theorem j_callVv {X : Cx} {l : Launch} {nL : Nat} {D : Dm} {cc : ByteArray} {own : String} {dep : Nat} {ret : Option FieldType} {σ : Mm} {pc : Nat} {ls : List (Nat × Value)} {st : List Value} {Q : State → Prop} (F : Fx X l nL D cc own dep ret) {y : MethodName} {c9 : ByteArray} {mx index n9 d9 : Nat} {r9 : Option FieldType} {as : List Value} {st9 : List Value} {k ci : Nat} {q9 : vw_C} {fs : List Value} {σ9 : Mm} (cv : jCV y c9 mx r9) (d : decode cc pc = .ok (.invokevirtual index, 3)) (n : Nat) (hn : pc + 3 = n) (hp9 : (parseMethodDescriptor y.desc).map (fun d => d.parameters.length) = some n9) (hlen : as.length = n9) (hdep : d9 < dep) (hmx : mx ≤ 45) (hst : catS st ≤ 8) (hst9 : as.reverse ++ .ref (D.2.1 k) :: st = st9) (hl9 : Cond.methodLink own index y ∈ lw_ok) (hc9 : vwCl[ci]? = some q9) (hq9 : q9.1 = y.cls) (hk : k < 89) (hs : shp D.2.1 D.2.2 k (σ.1 k) (σ.2 k) = .inr (ci, fs)) (hM : Ct l y c9 mx r9 d9 D (.ref (D.2.1 k) :: as) σ (none, σ9)) (kk : JJ X nL D σ9 n ls (st) Q) : JJ X nL D σ pc ls st9 Q := j_callV F cv d n hn hp9 hlen hdep hmx hst hst9 hl9 hc9 hq9 hk hs hM kk
theorem j_callSr {X : Cx} {l : Launch} {nL : Nat} {D : Dm} {cc : ByteArray} {own : String} {dep : Nat} {ret : Option FieldType} {σ : Mm} {pc : Nat} {ls : List (Nat × Value)} {st : List Value} {Q : State → Prop} (F : Fx X l nL D cc own dep ret) {y : MethodName} {c9 : ByteArray} {mx index n9 d9 : Nat} {r9 : Option FieldType} {as : List Value} {st9 : List Value}  {r : Value} {σ9 : Mm} (cv : jCS y c9 mx r9) (d : decode cc pc = .ok (.invokestatic index, 3)) (n : Nat) (hn : pc + 3 = n) (hp9 : (parseMethodDescriptor y.desc).map (fun d => d.parameters.length) = some n9) (hlen : as.length = n9) (hdep : d9 < dep) (hmx : mx ≤ 45) (hst : catS st ≤ 8) (hst9 : as.reverse ++ st = st9) (hl9 : Cond.methodLink own index y ∈ lw_ok) (hM : Ct l y c9 mx r9 d9 D as σ (some r, σ9)) (kk : JJ X nL D σ9 n ls (r :: st) Q) : JJ X nL D σ pc ls st9 Q := j_callS F cv d n hn hp9 hlen hdep hmx hst hst9 hl9 hM kk
theorem j_callSv {X : Cx} {l : Launch} {nL : Nat} {D : Dm} {cc : ByteArray} {own : String} {dep : Nat} {ret : Option FieldType} {σ : Mm} {pc : Nat} {ls : List (Nat × Value)} {st : List Value} {Q : State → Prop} (F : Fx X l nL D cc own dep ret) {y : MethodName} {c9 : ByteArray} {mx index n9 d9 : Nat} {r9 : Option FieldType} {as : List Value} {st9 : List Value}  {σ9 : Mm} (cv : jCS y c9 mx r9) (d : decode cc pc = .ok (.invokestatic index, 3)) (n : Nat) (hn : pc + 3 = n) (hp9 : (parseMethodDescriptor y.desc).map (fun d => d.parameters.length) = some n9) (hlen : as.length = n9) (hdep : d9 < dep) (hmx : mx ≤ 45) (hst : catS st ≤ 8) (hst9 : as.reverse ++ st = st9) (hl9 : Cond.methodLink own index y ∈ lw_ok) (hM : Ct l y c9 mx r9 d9 D as σ (none, σ9)) (kk : JJ X nL D σ9 n ls (st) Q) : JJ X nL D σ pc ls st9 Q := j_callS F cv d n hn hp9 hlen hdep hmx hst hst9 hl9 hM kk
theorem j_callSNr {X : Cx} {l : Launch} {nL : Nat} {D : Dm} {cc : ByteArray} {own : String} {dep : Nat} {ret : Option FieldType} {σ : Mm} {pc : Nat} {ls : List (Nat × Value)} {st : List Value} {Q : State → Prop} (F : Fx X l nL D cc own dep ret) {y : MethodName} {c9 : ByteArray} {mx index n9 d9 : Nat} {r9 : Option FieldType} {as : List Value} {st9 : List Value} {host : String} {r : Value} {σ9 : Mm} (cv : jCS y c9 mx r9) (d : decode cc pc = .ok (.invokestatic index, 3)) (n : Nat) (hn : pc + 3 = n) (hp9 : (parseMethodDescriptor y.desc).map (fun d => d.parameters.length) = some n9) (hlen : as.length = n9) (hdep : d9 < dep) (hmx : mx ≤ 45) (hst : catS st ≤ 8) (hst9 : as.reverse ++ st = st9) (hl9 : (own, index, y, host) ∈ nestL) (hM : Ct l y c9 mx r9 d9 D as σ (some r, σ9)) (kk : JJ X nL D σ9 n ls (r :: st) Q) : JJ X nL D σ pc ls st9 Q := j_callSN F cv d n hn hp9 hlen hdep hmx hst hst9 hl9 hM kk
theorem j_callSNv {X : Cx} {l : Launch} {nL : Nat} {D : Dm} {cc : ByteArray} {own : String} {dep : Nat} {ret : Option FieldType} {σ : Mm} {pc : Nat} {ls : List (Nat × Value)} {st : List Value} {Q : State → Prop} (F : Fx X l nL D cc own dep ret) {y : MethodName} {c9 : ByteArray} {mx index n9 d9 : Nat} {r9 : Option FieldType} {as : List Value} {st9 : List Value} {host : String} {σ9 : Mm} (cv : jCS y c9 mx r9) (d : decode cc pc = .ok (.invokestatic index, 3)) (n : Nat) (hn : pc + 3 = n) (hp9 : (parseMethodDescriptor y.desc).map (fun d => d.parameters.length) = some n9) (hlen : as.length = n9) (hdep : d9 < dep) (hmx : mx ≤ 45) (hst : catS st ≤ 8) (hst9 : as.reverse ++ st = st9) (hl9 : (own, index, y, host) ∈ nestL) (hM : Ct l y c9 mx r9 d9 D as σ (none, σ9)) (kk : JJ X nL D σ9 n ls (st) Q) : JJ X nL D σ pc ls st9 Q := j_callSN F cv d n hn hp9 hlen hdep hmx hst hst9 hl9 hM kk
