theorem eT_in {w : Cond} (i : Nat) (h : tables_1[i]? = some w) (g : goodWord w = true) : w ∈ eW := List.mem_filter.mpr ⟨List.mem_append_right _ (List.mem_of_getElem? h), g⟩
theorem eX_in {w : Cond} (i : Nat) (h : tables_1[i]? = some w) (g : eWarm w = true) : w ∈ eX := List.mem_filter.mpr ⟨List.mem_append_right _ (List.mem_of_getElem? h), g⟩
theorem eS_in {w : Cond} (i : Nat) (h : (k2_sels lw_privs)[i]? = some w) (g : goodWord w = true) : w ∈ eW := List.mem_filter.mpr ⟨List.mem_append_left _ (List.mem_of_getElem? h), g⟩
theorem wyX10_init : Cond.code yX10_init cX10_init 1 none ∈ eW := eT_in 24 (by decide +kernel) rfl
theorem wcO : Cond.code Lib.objectInit ⟨#[0xb1]⟩ 1 none ∈ eW := eT_in 27 (by decide +kernel) rfl
theorem wyX9_init : Cond.code yX9_init cX9_init 1 none ∈ eW := eT_in 32 (by decide +kernel) rfl
theorem wyX5_init : Cond.code yX5_init cX5_init 2 none ∈ eW := eT_in 62 (by decide +kernel) rfl
theorem wyX4_init : Cond.code yX4_init cX4_init 1 none ∈ eW := eT_in 68 (by decide +kernel) rfl
theorem wyX2_init : Cond.code yX2_init cX2_init 1 none ∈ eW := eT_in 105 (by decide +kernel) rfl
theorem wyX3_init : Cond.code yX3_init cX3_init 2 none ∈ eW := eT_in 192 (by decide +kernel) rfl
theorem wyX8_init : Cond.code yX8_init cX8_init 2 none ∈ eW := eT_in 212 (by decide +kernel) rfl
theorem wyX1_init : Cond.code yX1_init cX1_init 1 none ∈ eW := eT_in 229 (by decide +kernel) rfl
theorem wyL_draw : Cond.code yL_draw cL_draw 2 (some .int) ∈ eW := eT_in 256 (by decide +kernel) rfl
theorem wyX10_load : Cond.code yX10_load cX10_load 3 (some .int) ∈ eW := eT_in 266 (by decide +kernel) rfl
theorem wyX9_firstError : Cond.code yX9_firstError cX9_firstError 2 (some .int) ∈ eW := eT_in 270 (by decide +kernel) rfl
theorem wyX9_readHead : Cond.code yX9_readHead cX9_readHead 1 (some .boolean) ∈ eW := eT_in 274 (by decide +kernel) rfl
theorem wyX9_reads : Cond.code yX9_reads cX9_reads 2 (some .boolean) ∈ eW := eT_in 278 (by decide +kernel) rfl
theorem wyX9_here : Cond.code yX9_here cX9_here 1 (some .int) ∈ eW := eT_in 282 (by decide +kernel) rfl
theorem wyX9_readCommand : Cond.code yX9_readCommand cX9_readCommand 1 (some .boolean) ∈ eW := eT_in 286 (by decide +kernel) rfl
theorem wyX9_readsPair : Cond.code yX9_readsPair cX9_readsPair 4 (some .boolean) ∈ eW := eT_in 290 (by decide +kernel) rfl
theorem wyX9_takeDigit : Cond.code yX9_takeDigit cX9_takeDigit 4 (some .int) ∈ eW := eT_in 294 (by decide +kernel) rfl
theorem wyX9_tells : Cond.code yX9_tells cX9_tells 2 (some .boolean) ∈ eW := eT_in 298 (by decide +kernel) rfl
theorem wyX9_readsDigit : Cond.code yX9_readsDigit cX9_readsDigit 4 (some .boolean) ∈ eW := eT_in 302 (by decide +kernel) rfl
theorem wyX9_readsLetters : Cond.code yX9_readsLetters cX9_readsLetters 4 (some .boolean) ∈ eW := eT_in 306 (by decide +kernel) rfl
theorem wyX5_empty : Cond.code yX5_empty cX5_empty 2 none ∈ eW := eT_in 378 (by decide +kernel) rfl
theorem wyX3_forgetAll : Cond.code yX3_forgetAll cX3_forgetAll 1 none ∈ eW := eT_in 382 (by decide +kernel) rfl
theorem wyX8_forgetAll : Cond.code yX8_forgetAll cX8_forgetAll 2 none ∈ eW := eT_in 386 (by decide +kernel) rfl
theorem wyX5_obeys : Cond.code yX5_obeys cX5_obeys 3 (some .boolean) ∈ eW := eT_in 392 (by decide +kernel) rfl
theorem wyX5_triesPerson : Cond.code yX5_triesPerson cX5_triesPerson 4 (some .boolean) ∈ eW := eT_in 396 (by decide +kernel) rfl
theorem wyX10_isFamily : Cond.code yX10_isFamily cX10_isFamily 1 (some .boolean) ∈ eW := eT_in 399 (by decide +kernel) rfl
theorem wyX10_isBench : Cond.code yX10_isBench cX10_isBench 1 (some .boolean) ∈ eW := eT_in 402 (by decide +kernel) rfl
theorem wyX10_isAgeToCome : Cond.code yX10_isAgeToCome cX10_isAgeToCome 1 (some .boolean) ∈ eW := eT_in 405 (by decide +kernel) rfl
theorem wyX4_isFull : Cond.code yX4_isFull cX4_isFull 1 (some .boolean) ∈ eW := eT_in 409 (by decide +kernel) rfl
theorem wyX4_add : Cond.code yX4_add cX4_add 4 none ∈ eW := eT_in 413 (by decide +kernel) rfl
theorem wyX5_triesGiving : Cond.code yX5_triesGiving cX5_triesGiving 5 (some .boolean) ∈ eW := eT_in 418 (by decide +kernel) rfl
theorem wyX4_has : Cond.code yX4_has cX4_has 2 (some .boolean) ∈ eW := eT_in 422 (by decide +kernel) rfl
theorem wyX0_isCode : Cond.code yX0_isCode cX0_isCode 2 (some .boolean) ∈ eW := eT_in 425 (by decide +kernel) rfl
theorem wyX0_codes : Cond.code yX0_codes cX0_codes 3 (some .int) ∈ eW := eT_in 428 (by decide +kernel) rfl
theorem wyX5_reasonAgainst : Cond.code yX5_reasonAgainst cX5_reasonAgainst 6 (some .int) ∈ eW := eT_in 432 (by decide +kernel) rfl
theorem wyX5_reasonAgainstAnyName : Cond.code yX5_reasonAgainstAnyName cX5_reasonAgainstAnyName 3 (some .int) ∈ eW := eT_in 436 (by decide +kernel) rfl
theorem wyX4_areBrothers : Cond.code yX4_areBrothers cX4_areBrothers 3 (some .boolean) ∈ eW := eT_in 440 (by decide +kernel) rfl
theorem wyX2_aliveOf : Cond.code yX2_aliveOf cX2_aliveOf 4 (some .int) ∈ eW := eT_in 444 (by decide +kernel) rfl
theorem wyX5_isTaken : Cond.code yX5_isTaken cX5_isTaken 7 (some .boolean) ∈ eW := eT_in 448 (by decide +kernel) rfl
theorem wyX2_isAliveAs : Cond.code yX2_isAliveAs cX2_isAliveAs 4 (some .boolean) ∈ eW := eT_in 452 (by decide +kernel) rfl
theorem wyX2_isFull : Cond.code yX2_isFull cX2_isFull 1 (some .boolean) ∈ eW := eT_in 456 (by decide +kernel) rfl
theorem wyX2_add : Cond.code yX2_add cX2_add 6 none ∈ eW := eT_in 460 (by decide +kernel) rfl
theorem wyX5_callFor : Cond.code yX5_callFor cX5_callFor 6 (some .int) ∈ eW := eT_in 465 (by decide +kernel) rfl
theorem wyX5_meantByPeople : Cond.code yX5_meantByPeople cX5_meantByPeople 5 (some .int) ∈ eW := eT_in 469 (by decide +kernel) rfl
theorem wyX2_aliveNameOf : Cond.code yX2_aliveNameOf cX2_aliveNameOf 5 (some .int) ∈ eW := eT_in 473 (by decide +kernel) rfl
theorem wyX5_firstBrotherNamed : Cond.code yX5_firstBrotherNamed cX5_firstBrotherNamed 5 (some .int) ∈ eW := eT_in 478 (by decide +kernel) rfl
theorem wyX2_use : Cond.code yX2_use cX2_use 4 none ∈ eW := eT_in 482 (by decide +kernel) rfl
theorem wyX5_mixUp : Cond.code yX5_mixUp cX5_mixUp 3 none ∈ eW := eT_in 486 (by decide +kernel) rfl
theorem wyX5_passYears : Cond.code yX5_passYears cX5_passYears 4 (some .int) ∈ eW := eT_in 490 (by decide +kernel) rfl
theorem wyX10_isYearsAtOnce : Cond.code yX10_isYearsAtOnce cX10_isYearsAtOnce 1 (some .boolean) ∈ eW := eT_in 493 (by decide +kernel) rfl
theorem wyX4_growOlder : Cond.code yX4_growOlder cX4_growOlder 2 none ∈ eW := eT_in 497 (by decide +kernel) rfl
theorem wyX5_endNames : Cond.code yX5_endNames cX5_endNames 4 (some .int) ∈ eW := eT_in 501 (by decide +kernel) rfl
theorem wyX2_isAlive : Cond.code yX2_isAlive cX2_isAlive 2 (some .boolean) ∈ eW := eT_in 505 (by decide +kernel) rfl
theorem wyX5_oldestFor : Cond.code yX5_oldestFor cX5_oldestFor 2 (some .int) ∈ eW := eT_in 509 (by decide +kernel) rfl
theorem wyX5_outgrow : Cond.code yX5_outgrow cX5_outgrow 4 none ∈ eW := eT_in 513 (by decide +kernel) rfl
theorem wyX5_heirOf : Cond.code yX5_heirOf cX5_heirOf 5 (some .int) ∈ eW := eT_in 517 (by decide +kernel) rfl
theorem wyX4_isYoungerBeside : Cond.code yX4_isYoungerBeside cX4_isYoungerBeside 3 (some .boolean) ∈ eW := eT_in 521 (by decide +kernel) rfl
theorem wyX5_triesSitting : Cond.code yX5_triesSitting cX5_triesSitting 3 (some .boolean) ∈ eW := eT_in 525 (by decide +kernel) rfl
theorem wyX5_isKeptFrom : Cond.code yX5_isKeptFrom cX5_isKeptFrom 4 (some .boolean) ∈ eW := eT_in 529 (by decide +kernel) rfl
theorem wyX5_triesSetting : Cond.code yX5_triesSetting cX5_triesSetting 3 (some .boolean) ∈ eW := eT_in 533 (by decide +kernel) rfl
theorem wyX10_isSettingWith : Cond.code yX10_isSettingWith cX10_isSettingWith 3 (some .boolean) ∈ eW := eT_in 536 (by decide +kernel) rfl
theorem wyX10_save : Cond.code yX10_save cX10_save 2 (some .int) ∈ eW := eT_in 545 (by decide +kernel) rfl
theorem wyX10_requireSlot : Cond.code yX10_requireSlot cX10_requireSlot 1 none ∈ eW := eT_in 548 (by decide +kernel) rfl
theorem wyX5_copyFrom : Cond.code yX5_copyFrom cX5_copyFrom 2 none ∈ eW := eT_in 568 (by decide +kernel) rfl
theorem wyX4_copyFrom : Cond.code yX4_copyFrom cX4_copyFrom 2 none ∈ eW := eT_in 572 (by decide +kernel) rfl
theorem wyX2_copyFrom : Cond.code yX2_copyFrom cX2_copyFrom 2 none ∈ eW := eT_in 579 (by decide +kernel) rfl
theorem wyX10_restore : Cond.code yX10_restore cX10_restore 2 (some .int) ∈ eW := eT_in 589 (by decide +kernel) rfl
theorem wyL_errors : Cond.code yL_errors cL_errors 6 (some .boolean) ∈ eW := eT_in 593 (by decide +kernel) rfl
theorem wyL_now : Cond.code yL_now cL_now 5 (some .long) ∈ eW := eT_in 596 (by decide +kernel) rfl
theorem wyX10_about : Cond.code yX10_about cX10_about 2 (some .int) ∈ eW := eT_in 606 (by decide +kernel) rfl
theorem wyX2_inState : Cond.code yX2_inState cX2_inState 4 (some .int) ∈ eW := eT_in 610 (by decide +kernel) rfl
theorem wyX2_usesTogether : Cond.code yX2_usesTogether cX2_usesTogether 3 (some .int) ∈ eW := eT_in 614 (by decide +kernel) rfl
theorem wyX10_personOf : Cond.code yX10_personOf cX10_personOf 3 (some .int) ∈ eW := eT_in 638 (by decide +kernel) rfl
theorem wyX10_requirePerson : Cond.code yX10_requirePerson cX10_requirePerson 2 none ∈ eW := eT_in 642 (by decide +kernel) rfl
theorem wyX4_brothersOf : Cond.code yX4_brothersOf cX4_brothersOf 4 (some .int) ∈ eW := eT_in 649 (by decide +kernel) rfl
theorem wyX2_givenBy : Cond.code yX2_givenBy cX2_givenBy 4 (some .int) ∈ eW := eT_in 654 (by decide +kernel) rfl
theorem wyX2_stuckGivenBy : Cond.code yX2_stuckGivenBy cX2_stuckGivenBy 4 (some .int) ∈ eW := eT_in 658 (by decide +kernel) rfl
theorem wyX10_nameOf : Cond.code yX10_nameOf cX10_nameOf 3 (some .int) ∈ eW := eT_in 666 (by decide +kernel) rfl
theorem wyX10_requireName : Cond.code yX10_requireName cX10_requireName 2 none ∈ eW := eT_in 670 (by decide +kernel) rfl
theorem wyX2_has : Cond.code yX2_has cX2_has 2 (some .boolean) ∈ eW := eT_in 674 (by decide +kernel) rfl
theorem wyX10_letter : Cond.code yX10_letter cX10_letter 3 (some .int) ∈ eW := eT_in 683 (by decide +kernel) rfl
theorem wyX0_at : Cond.code yX0_at cX0_at 5 (some .int) ∈ eW := eT_in 687 (by decide +kernel) rfl
theorem wyX10_roll : Cond.code yX10_roll cX10_roll 2 (some .int) ∈ eW := eT_in 694 (by decide +kernel) rfl
theorem wyX2_ranked : Cond.code yX2_ranked cX2_ranked 3 (some .int) ∈ eW := eT_in 699 (by decide +kernel) rfl
theorem wyX2_aliveAheadOf : Cond.code yX2_aliveAheadOf cX2_aliveAheadOf 6 (some .int) ∈ eW := eT_in 704 (by decide +kernel) rfl
theorem wyX0_dictionaryKey : Cond.code yX0_dictionaryKey cX0_dictionaryKey 4 (some .int) ∈ eW := eT_in 707 (by decide +kernel) rfl
theorem wyX10_meant : Cond.code yX10_meant cX10_meant 5 (some .int) ∈ eW := eT_in 715 (by decide +kernel) rfl
theorem wyX10_requireBench : Cond.code yX10_requireBench cX10_requireBench 1 none ∈ eW := eT_in 718 (by decide +kernel) rfl
theorem wyX10_requireCode : Cond.code yX10_requireCode cX10_requireCode 2 none ∈ eW := eT_in 723 (by decide +kernel) rfl
theorem wyX5_meantByNames : Cond.code yX5_meantByNames cX5_meantByNames 8 (some .int) ∈ eW := eT_in 730 (by decide +kernel) rfl
theorem wyX4_firstBrotherOn : Cond.code yX4_firstBrotherOn cX4_firstBrotherOn 4 (some .int) ∈ eW := eT_in 734 (by decide +kernel) rfl
theorem wyX10_person : Cond.code yX10_person cX10_person 4 (some .int) ∈ eW := eT_in 742 (by decide +kernel) rfl
theorem wyX3_remember : Cond.code yX3_remember cX3_remember 2 none ∈ eW := eT_in 752 (by decide +kernel) rfl
theorem wyX10_sit : Cond.code yX10_sit cX10_sit 4 (some .int) ∈ eW := eT_in 761 (by decide +kernel) rfl
theorem wyX10_give : Cond.code yX10_give cX10_give 6 (some .int) ∈ eW := eT_in 770 (by decide +kernel) rfl
theorem wyX10_call : Cond.code yX10_call cX10_call 5 (some .int) ∈ eW := eT_in 779 (by decide +kernel) rfl
theorem wyX10_years : Cond.code yX10_years cX10_years 2 (some .int) ∈ eW := eT_in 787 (by decide +kernel) rfl
theorem wyX10_set : Cond.code yX10_set cX10_set 4 (some .int) ∈ eW := eT_in 798 (by decide +kernel) rfl
theorem wyX10_why : Cond.code yX10_why cX10_why 5 (some .int) ∈ eW := eT_in 807 (by decide +kernel) rfl
theorem wyX10_endsIn : Cond.code yX10_endsIn cX10_endsIn 2 (some .int) ∈ eW := eT_in 814 (by decide +kernel) rfl
theorem wyX5_yearsLeft : Cond.code yX5_yearsLeft cX5_yearsLeft 4 (some .int) ∈ eW := eT_in 818 (by decide +kernel) rfl
theorem wyJ9_min_7cf53 : Cond.code yJ9_min_7cf53 cJ9_min_7cf53 2 (some .int) ∈ eW := eT_in 821 (by decide +kernel) rfl
theorem wyJ9_max_7cf53 : Cond.code yJ9_max_7cf53 cJ9_max_7cf53 2 (some .int) ∈ eW := eT_in 824 (by decide +kernel) rfl
theorem wyX10_bestName : Cond.code yX10_bestName cX10_bestName 4 (some .int) ∈ eW := eT_in 831 (by decide +kernel) rfl
theorem wyX1_bestCode : Cond.code yX1_bestCode cX1_bestCode 10 (some .int) ∈ eW := eT_in 836 (by decide +kernel) rfl
theorem wyX1_countNames : Cond.code yX1_countNames cX1_countNames 3 none ∈ eW := eT_in 842 (by decide +kernel) rfl
theorem wyX1_countLetters : Cond.code yX1_countLetters cX1_countLetters 4 none ∈ eW := eT_in 847 (by decide +kernel) rfl
theorem wyX0_isRepeated : Cond.code yX0_isRepeated cX0_isRepeated 4 (some .boolean) ∈ eW := eT_in 850 (by decide +kernel) rfl
theorem wyX1_namesWithLettersOf : Cond.code yX1_namesWithLettersOf cX1_namesWithLettersOf 5 (some .int) ∈ eW := eT_in 856 (by decide +kernel) rfl
theorem wyX10_runScript : Cond.code yX10_runScript cX10_runScript 5 (some .int) ∈ eW := eT_in 864 (by decide +kernel) rfl
theorem wyX6_beyond : Cond.code yX6_beyond cX6_beyond 4 (some .long) ∈ eW := eT_in 868 (by decide +kernel) rfl
theorem wyX6_group : Cond.code yX6_group cX6_group 7 (some .int) ∈ eW := eT_in 873 (by decide +kernel) rfl
theorem wyX6_succeeds : Cond.code yX6_succeeds cX6_succeeds 7 (some .boolean) ∈ eW := eT_in 876 (by decide +kernel) rfl
theorem wyX6_hasNames : Cond.code yX6_hasNames cX6_hasNames 3 (some .boolean) ∈ eW := eT_in 885 (by decide +kernel) rfl
theorem wyX6_means : Cond.code yX6_means cX6_means 4 (some .boolean) ∈ eW := eT_in 890 (by decide +kernel) rfl
theorem wyX6_isInState : Cond.code yX6_isInState cX6_isInState 3 (some .boolean) ∈ eW := eT_in 897 (by decide +kernel) rfl
theorem wyX10_simulate : Cond.code yX10_simulate cX10_simulate 7 (some .int) ∈ eW := eT_in 906 (by decide +kernel) rfl
theorem wyX7_takeTurn : Cond.code yX7_takeTurn cX7_takeTurn 3 none ∈ eW := eT_in 912 (by decide +kernel) rfl
theorem wyX2_alive : Cond.code yX2_alive cX2_alive 1 (some .int) ∈ eW := eT_in 922 (by decide +kernel) rfl
theorem wyX10_append : Cond.code yX10_append cX10_append 2 (some .int) ∈ eW := eT_in 930 (by decide +kernel) rfl
theorem wyX9_put : Cond.code yX9_put cX9_put 2 none ∈ eW := eT_in 936 (by decide +kernel) rfl
set_option maxRecDepth 100000 in
set_option maxHeartbeats 4000000 in
theorem wyL_kept : Cond.code yL_kept cL_kept 24 (some .boolean) ∈ eW := eT_in 939 (by rfl) rfl
theorem wyL_in : Cond.code yL_in cL_in 6 (some .boolean) ∈ eW := eT_in 946 (by decide +kernel) rfl
theorem wyX10_bestGiver : Cond.code yX10_bestGiver cX10_bestGiver 3 (some .int) ∈ eW := eT_in 951 (by decide +kernel) rfl
theorem wyX2_sticksBetter : Cond.code yX2_sticksBetter cX2_sticksBetter 5 (some .boolean) ∈ eW := eT_in 955 (by decide +kernel) rfl
theorem wyX10_mixed : Cond.code yX10_mixed cX10_mixed 3 (some .int) ∈ eW := eT_in 961 (by decide +kernel) rfl
theorem wyL_follows : Cond.code yL_follows cL_follows 17 (some .boolean) ∈ eW := eT_in 964 (by decide +kernel) rfl
theorem wyX10_undo : Cond.code yX10_undo cX10_undo 1 (some .int) ∈ eW := eT_in 972 (by decide +kernel) rfl
theorem wyX3_takeBack : Cond.code yX3_takeBack cX3_takeBack 2 none ∈ eW := eT_in 977 (by decide +kernel) rfl
theorem wyL_alike : Cond.code yL_alike cL_alike 3 (some .boolean) ∈ eW := eT_in 980 (by decide +kernel) rfl
theorem wyX10_errorPosition : Cond.code yX10_errorPosition cX10_errorPosition 1 (some .int) ∈ eW := eT_in 984 (by decide +kernel) rfl
theorem wyL_told : Cond.code yL_told cL_told 5 (some .boolean) ∈ eW := eT_in 989 (by decide +kernel) rfl
theorem wyX10_clearText : Cond.code yX10_clearText cX10_clearText 2 (some .int) ∈ eW := eT_in 993 (by decide +kernel) rfl
theorem wyL_says : Cond.code yL_says cL_says 5 (some .boolean) ∈ eW := eT_in 996 (by decide +kernel) rfl
theorem wyL_act : Cond.code yL_act cL_act 4 (some .long) ∈ eW := eT_in 999 (by decide +kernel) rfl
theorem wyL_load : Cond.codeWith yL_load cL_load 2 (some .long) [(0, 5, 6, 19)] ∈ eW := eT_in 261 (by decide +kernel) rfl
theorem wyL_save : Cond.codeWith yL_save cL_save 3 (some .long) [(0, 6, 7, 34)] ∈ eW := eT_in 540 (by decide +kernel) rfl
theorem wyL_restore : Cond.codeWith yL_restore cL_restore 3 (some .long) [(0, 6, 7, 34), (0, 6, 12, 19)] ∈ eW := eT_in 585 (by decide +kernel) rfl
theorem wyL_about : Cond.codeWith yL_about cL_about 3 (some .long) [(0, 6, 7, 15)] ∈ eW := eT_in 601 (by decide +kernel) rfl
theorem wyL_personOf : Cond.codeWith yL_personOf cL_personOf 4 (some .long) [(0, 7, 8, 34), (0, 7, 13, 15)] ∈ eW := eT_in 634 (by decide +kernel) rfl
theorem wyL_nameOf : Cond.codeWith yL_nameOf cL_nameOf 4 (some .long) [(0, 7, 8, 34), (0, 7, 13, 15)] ∈ eW := eT_in 662 (by decide +kernel) rfl
theorem wyL_letter : Cond.codeWith yL_letter cL_letter 4 (some .long) [(0, 7, 8, 34)] ∈ eW := eT_in 679 (by decide +kernel) rfl
theorem wyL_roll : Cond.codeWith yL_roll cL_roll 3 (some .long) [(0, 6, 7, 15)] ∈ eW := eT_in 690 (by decide +kernel) rfl
theorem wyL_meant : Cond.codeWith yL_meant cL_meant 6 (some .long) [(0, 10, 11, 34), (0, 10, 17, 15)] ∈ eW := eT_in 711 (by decide +kernel) rfl
theorem wyL_person : Cond.codeWith yL_person cL_person 5 (some .long) [(0, 8, 9, 34), (0, 8, 15, 15), (0, 8, 21, 19)] ∈ eW := eT_in 738 (by decide +kernel) rfl
theorem wyL_sit : Cond.codeWith yL_sit cL_sit 4 (some .long) [(0, 7, 8, 34), (0, 7, 13, 19)] ∈ eW := eT_in 757 (by decide +kernel) rfl
theorem wyL_give : Cond.codeWith yL_give cL_give 6 (some .long) [(0, 10, 11, 34), (0, 10, 17, 15)] ∈ eW := eT_in 766 (by decide +kernel) rfl
theorem wyL_call : Cond.codeWith yL_call cL_call 5 (some .long) [(0, 8, 9, 34), (0, 8, 15, 15)] ∈ eW := eT_in 775 (by decide +kernel) rfl
theorem wyL_years : Cond.codeWith yL_years cL_years 3 (some .long) [(0, 6, 7, 15), (0, 6, 12, 19)] ∈ eW := eT_in 783 (by decide +kernel) rfl
theorem wyL_set : Cond.codeWith yL_set cL_set 4 (some .long) [(0, 7, 8, 15)] ∈ eW := eT_in 794 (by decide +kernel) rfl
theorem wyL_why : Cond.codeWith yL_why cL_why 6 (some .long) [(0, 10, 11, 34), (0, 10, 17, 15)] ∈ eW := eT_in 803 (by decide +kernel) rfl
theorem wyL_endsIn : Cond.codeWith yL_endsIn cL_endsIn 3 (some .long) [(0, 6, 7, 34)] ∈ eW := eT_in 810 (by decide +kernel) rfl
theorem wyL_bestName : Cond.codeWith yL_bestName cL_bestName 5 (some .long) [(0, 8, 9, 34), (0, 8, 15, 15)] ∈ eW := eT_in 827 (by decide +kernel) rfl
theorem wyL_script : Cond.codeWith yL_script cL_script 5 (some .long) [(0, 7, 8, 15)] ∈ eW := eT_in 860 (by decide +kernel) rfl
theorem wyL_simulate : Cond.codeWith yL_simulate cL_simulate 5 (some .long) [(0, 7, 8, 15)] ∈ eW := eT_in 902 (by decide +kernel) rfl
theorem wyL_append : Cond.codeWith yL_append cL_append 3 (some .long) [(0, 6, 7, 15), (0, 6, 12, 19)] ∈ eW := eT_in 926 (by decide +kernel) rfl
theorem wyL_undo : Cond.codeWith yL_undo cL_undo 2 (some .long) [(0, 5, 6, 19)] ∈ eW := eT_in 968 (by decide +kernel) rfl
theorem wi_L : Cond.initialized RL ∈ eW := eT_in 0 (by decide +kernel) rfl
theorem wi_X10 : Cond.initialized RX10 ∈ eW := eT_in 1 (by decide +kernel) rfl
theorem wi_X9 : Cond.initialized RX9 ∈ eW := eT_in 2 (by decide +kernel) rfl
theorem wi_X5 : Cond.initialized RX5 ∈ eW := eT_in 3 (by decide +kernel) rfl
theorem wi_X4 : Cond.initialized RX4 ∈ eW := eT_in 4 (by decide +kernel) rfl
theorem wi_X2 : Cond.initialized RX2 ∈ eW := eT_in 5 (by decide +kernel) rfl
theorem wi_X3 : Cond.initialized RX3 ∈ eW := eT_in 6 (by decide +kernel) rfl
theorem wi_X8 : Cond.initialized RX8 ∈ eW := eT_in 7 (by decide +kernel) rfl
theorem wi_X1 : Cond.initialized RX1 ∈ eW := eT_in 8 (by decide +kernel) rfl
theorem wi_java_lang_Throwable : Cond.initialized "java/lang/Throwable" ∈ eW := eT_in 9 (by decide +kernel) rfl
theorem wi_java_lang_Exception : Cond.initialized "java/lang/Exception" ∈ eW := eT_in 10 (by decide +kernel) rfl
theorem wi_java_lang_RuntimeException : Cond.initialized "java/lang/RuntimeException" ∈ eW := eT_in 11 (by decide +kernel) rfl
theorem wi_java_lang_IllegalArgumentException : Cond.initialized "java/lang/IllegalArgumentException" ∈ eW := eT_in 12 (by decide +kernel) rfl
theorem wi_java_lang_IndexOutOfBoundsException : Cond.initialized "java/lang/IndexOutOfBoundsException" ∈ eW := eT_in 13 (by decide +kernel) rfl
theorem wi_X0 : Cond.initialized RX0 ∈ eW := eT_in 14 (by decide +kernel) rfl
theorem wi_J10 : Cond.initialized RJ10 ∈ eW := eT_in 15 (by decide +kernel) rfl
theorem wi_X7 : Cond.initialized RX7 ∈ eW := eT_in 16 (by decide +kernel) rfl
theorem wi_X6 : Cond.initialized RX6 ∈ eW := eT_in 17 (by decide +kernel) rfl
theorem wi_java_lang_IllegalStateException : Cond.initialized "java/lang/IllegalStateException" ∈ eW := eT_in 18 (by decide +kernel) rfl
theorem wi_J9 : Cond.initialized RJ9 ∈ eW := eT_in 19 (by decide +kernel) rfl
theorem wm_yX10_init : Cond.instanceMethod yX10_init ∈ eW := eT_in 23 (by decide +kernel) rfl
theorem wm_objectInit : Cond.instanceMethod Lib.objectInit ∈ eW := eT_in 26 (by decide +kernel) rfl
theorem wm_yX9_init : Cond.instanceMethod yX9_init ∈ eW := eT_in 31 (by decide +kernel) rfl
theorem wm_yX5_init : Cond.instanceMethod yX5_init ∈ eW := eT_in 61 (by decide +kernel) rfl
theorem wm_yX4_init : Cond.instanceMethod yX4_init ∈ eW := eT_in 67 (by decide +kernel) rfl
theorem wm_yX2_init : Cond.instanceMethod yX2_init ∈ eW := eT_in 104 (by decide +kernel) rfl
theorem wm_yX3_init : Cond.instanceMethod yX3_init ∈ eW := eT_in 191 (by decide +kernel) rfl
theorem wm_yX8_init : Cond.instanceMethod yX8_init ∈ eW := eT_in 211 (by decide +kernel) rfl
theorem wm_yX1_init : Cond.instanceMethod yX1_init ∈ eW := eT_in 228 (by decide +kernel) rfl
theorem wm_yX10_load : Cond.instanceMethod yX10_load ∈ eW := eT_in 264 (by decide +kernel) rfl
theorem wm_yX9_firstError : Cond.instanceMethod yX9_firstError ∈ eW := eT_in 268 (by decide +kernel) rfl
theorem wm_yX9_readHead : Cond.instanceMethod yX9_readHead ∈ eW := eT_in 272 (by decide +kernel) rfl
theorem wm_yX9_reads : Cond.instanceMethod yX9_reads ∈ eW := eT_in 276 (by decide +kernel) rfl
theorem wm_yX9_here : Cond.instanceMethod yX9_here ∈ eW := eT_in 280 (by decide +kernel) rfl
theorem wm_yX9_readCommand : Cond.instanceMethod yX9_readCommand ∈ eW := eT_in 284 (by decide +kernel) rfl
theorem wm_yX9_readsPair : Cond.instanceMethod yX9_readsPair ∈ eW := eT_in 288 (by decide +kernel) rfl
theorem wm_yX9_takeDigit : Cond.instanceMethod yX9_takeDigit ∈ eW := eT_in 292 (by decide +kernel) rfl
theorem wm_yX9_tells : Cond.instanceMethod yX9_tells ∈ eW := eT_in 296 (by decide +kernel) rfl
theorem wm_yX9_readsDigit : Cond.instanceMethod yX9_readsDigit ∈ eW := eT_in 300 (by decide +kernel) rfl
theorem wm_yX9_readsLetters : Cond.instanceMethod yX9_readsLetters ∈ eW := eT_in 304 (by decide +kernel) rfl
theorem wm_yX5_empty : Cond.instanceMethod yX5_empty ∈ eW := eT_in 376 (by decide +kernel) rfl
theorem wm_yX3_forgetAll : Cond.instanceMethod yX3_forgetAll ∈ eW := eT_in 380 (by decide +kernel) rfl
theorem wm_yX8_forgetAll : Cond.instanceMethod yX8_forgetAll ∈ eW := eT_in 384 (by decide +kernel) rfl
theorem wm_yX5_obeys : Cond.instanceMethod yX5_obeys ∈ eW := eT_in 390 (by decide +kernel) rfl
theorem wm_yX5_triesPerson : Cond.instanceMethod yX5_triesPerson ∈ eW := eT_in 394 (by decide +kernel) rfl
theorem wm_yX4_isFull : Cond.instanceMethod yX4_isFull ∈ eW := eT_in 407 (by decide +kernel) rfl
theorem wm_yX4_add : Cond.instanceMethod yX4_add ∈ eW := eT_in 411 (by decide +kernel) rfl
theorem wm_yX5_triesGiving : Cond.instanceMethod yX5_triesGiving ∈ eW := eT_in 416 (by decide +kernel) rfl
theorem wm_yX4_has : Cond.instanceMethod yX4_has ∈ eW := eT_in 420 (by decide +kernel) rfl
theorem wm_yX5_reasonAgainst : Cond.instanceMethod yX5_reasonAgainst ∈ eW := eT_in 430 (by decide +kernel) rfl
theorem wm_yX5_reasonAgainstAnyName : Cond.instanceMethod yX5_reasonAgainstAnyName ∈ eW := eT_in 434 (by decide +kernel) rfl
theorem wm_yX4_areBrothers : Cond.instanceMethod yX4_areBrothers ∈ eW := eT_in 438 (by decide +kernel) rfl
theorem wm_yX2_aliveOf : Cond.instanceMethod yX2_aliveOf ∈ eW := eT_in 442 (by decide +kernel) rfl
theorem wm_yX5_isTaken : Cond.instanceMethod yX5_isTaken ∈ eW := eT_in 446 (by decide +kernel) rfl
theorem wm_yX2_isAliveAs : Cond.instanceMethod yX2_isAliveAs ∈ eW := eT_in 450 (by decide +kernel) rfl
theorem wm_yX2_isFull : Cond.instanceMethod yX2_isFull ∈ eW := eT_in 454 (by decide +kernel) rfl
theorem wm_yX2_add : Cond.instanceMethod yX2_add ∈ eW := eT_in 458 (by decide +kernel) rfl
theorem wm_yX5_callFor : Cond.instanceMethod yX5_callFor ∈ eW := eT_in 463 (by decide +kernel) rfl
theorem wm_yX5_meantByPeople : Cond.instanceMethod yX5_meantByPeople ∈ eW := eT_in 467 (by decide +kernel) rfl
theorem wm_yX2_aliveNameOf : Cond.instanceMethod yX2_aliveNameOf ∈ eW := eT_in 471 (by decide +kernel) rfl
theorem wm_yX5_firstBrotherNamed : Cond.instanceMethod yX5_firstBrotherNamed ∈ eW := eT_in 476 (by decide +kernel) rfl
theorem wm_yX2_use : Cond.instanceMethod yX2_use ∈ eW := eT_in 480 (by decide +kernel) rfl
theorem wm_yX5_mixUp : Cond.instanceMethod yX5_mixUp ∈ eW := eT_in 484 (by decide +kernel) rfl
theorem wm_yX5_passYears : Cond.instanceMethod yX5_passYears ∈ eW := eT_in 488 (by decide +kernel) rfl
theorem wm_yX4_growOlder : Cond.instanceMethod yX4_growOlder ∈ eW := eT_in 495 (by decide +kernel) rfl
theorem wm_yX5_endNames : Cond.instanceMethod yX5_endNames ∈ eW := eT_in 499 (by decide +kernel) rfl
theorem wm_yX2_isAlive : Cond.instanceMethod yX2_isAlive ∈ eW := eT_in 503 (by decide +kernel) rfl
theorem wm_yX5_oldestFor : Cond.instanceMethod yX5_oldestFor ∈ eW := eT_in 507 (by decide +kernel) rfl
theorem wm_yX5_outgrow : Cond.instanceMethod yX5_outgrow ∈ eW := eT_in 511 (by decide +kernel) rfl
theorem wm_yX5_heirOf : Cond.instanceMethod yX5_heirOf ∈ eW := eT_in 515 (by decide +kernel) rfl
theorem wm_yX4_isYoungerBeside : Cond.instanceMethod yX4_isYoungerBeside ∈ eW := eT_in 519 (by decide +kernel) rfl
theorem wm_yX5_triesSitting : Cond.instanceMethod yX5_triesSitting ∈ eW := eT_in 523 (by decide +kernel) rfl
theorem wm_yX5_isKeptFrom : Cond.instanceMethod yX5_isKeptFrom ∈ eW := eT_in 527 (by decide +kernel) rfl
theorem wm_yX5_triesSetting : Cond.instanceMethod yX5_triesSetting ∈ eW := eT_in 531 (by decide +kernel) rfl
theorem wm_yX10_save : Cond.instanceMethod yX10_save ∈ eW := eT_in 543 (by decide +kernel) rfl
theorem wm_yX5_copyFrom : Cond.instanceMethod yX5_copyFrom ∈ eW := eT_in 566 (by decide +kernel) rfl
theorem wm_yX4_copyFrom : Cond.instanceMethod yX4_copyFrom ∈ eW := eT_in 570 (by decide +kernel) rfl
theorem wm_yX2_copyFrom : Cond.instanceMethod yX2_copyFrom ∈ eW := eT_in 577 (by decide +kernel) rfl
theorem wm_yX10_restore : Cond.instanceMethod yX10_restore ∈ eW := eT_in 587 (by decide +kernel) rfl
theorem wm_yX10_about : Cond.instanceMethod yX10_about ∈ eW := eT_in 604 (by decide +kernel) rfl
theorem wm_yX2_inState : Cond.instanceMethod yX2_inState ∈ eW := eT_in 608 (by decide +kernel) rfl
theorem wm_yX2_usesTogether : Cond.instanceMethod yX2_usesTogether ∈ eW := eT_in 612 (by decide +kernel) rfl
theorem wm_yX10_personOf : Cond.instanceMethod yX10_personOf ∈ eW := eT_in 636 (by decide +kernel) rfl
theorem wm_yX10_requirePerson : Cond.instanceMethod yX10_requirePerson ∈ eW := eT_in 641 (by decide +kernel) rfl
theorem wm_yX4_brothersOf : Cond.instanceMethod yX4_brothersOf ∈ eW := eT_in 647 (by decide +kernel) rfl
theorem wm_yX2_givenBy : Cond.instanceMethod yX2_givenBy ∈ eW := eT_in 652 (by decide +kernel) rfl
theorem wm_yX2_stuckGivenBy : Cond.instanceMethod yX2_stuckGivenBy ∈ eW := eT_in 656 (by decide +kernel) rfl
theorem wm_yX10_nameOf : Cond.instanceMethod yX10_nameOf ∈ eW := eT_in 664 (by decide +kernel) rfl
theorem wm_yX10_requireName : Cond.instanceMethod yX10_requireName ∈ eW := eT_in 669 (by decide +kernel) rfl
theorem wm_yX2_has : Cond.instanceMethod yX2_has ∈ eW := eT_in 672 (by decide +kernel) rfl
theorem wm_yX10_letter : Cond.instanceMethod yX10_letter ∈ eW := eT_in 681 (by decide +kernel) rfl
theorem wm_yX10_roll : Cond.instanceMethod yX10_roll ∈ eW := eT_in 692 (by decide +kernel) rfl
theorem wm_yX2_ranked : Cond.instanceMethod yX2_ranked ∈ eW := eT_in 697 (by decide +kernel) rfl
theorem wm_yX2_aliveAheadOf : Cond.instanceMethod yX2_aliveAheadOf ∈ eW := eT_in 702 (by decide +kernel) rfl
theorem wm_yX10_meant : Cond.instanceMethod yX10_meant ∈ eW := eT_in 713 (by decide +kernel) rfl
theorem wm_yX5_meantByNames : Cond.instanceMethod yX5_meantByNames ∈ eW := eT_in 728 (by decide +kernel) rfl
theorem wm_yX4_firstBrotherOn : Cond.instanceMethod yX4_firstBrotherOn ∈ eW := eT_in 732 (by decide +kernel) rfl
theorem wm_yX10_person : Cond.instanceMethod yX10_person ∈ eW := eT_in 740 (by decide +kernel) rfl
theorem wm_yX3_remember : Cond.instanceMethod yX3_remember ∈ eW := eT_in 750 (by decide +kernel) rfl
theorem wm_yX10_sit : Cond.instanceMethod yX10_sit ∈ eW := eT_in 759 (by decide +kernel) rfl
theorem wm_yX10_give : Cond.instanceMethod yX10_give ∈ eW := eT_in 768 (by decide +kernel) rfl
theorem wm_yX10_call : Cond.instanceMethod yX10_call ∈ eW := eT_in 777 (by decide +kernel) rfl
theorem wm_yX10_years : Cond.instanceMethod yX10_years ∈ eW := eT_in 785 (by decide +kernel) rfl
theorem wm_yX10_set : Cond.instanceMethod yX10_set ∈ eW := eT_in 796 (by decide +kernel) rfl
theorem wm_yX10_why : Cond.instanceMethod yX10_why ∈ eW := eT_in 805 (by decide +kernel) rfl
theorem wm_yX10_endsIn : Cond.instanceMethod yX10_endsIn ∈ eW := eT_in 812 (by decide +kernel) rfl
theorem wm_yX5_yearsLeft : Cond.instanceMethod yX5_yearsLeft ∈ eW := eT_in 816 (by decide +kernel) rfl
theorem wm_yX10_bestName : Cond.instanceMethod yX10_bestName ∈ eW := eT_in 829 (by decide +kernel) rfl
theorem wm_yX1_bestCode : Cond.instanceMethod yX1_bestCode ∈ eW := eT_in 834 (by decide +kernel) rfl
theorem wm_yX1_countNames : Cond.instanceMethod yX1_countNames ∈ eW := eT_in 840 (by decide +kernel) rfl
theorem wm_yX1_countLetters : Cond.instanceMethod yX1_countLetters ∈ eW := eT_in 845 (by decide +kernel) rfl
theorem wm_yX1_namesWithLettersOf : Cond.instanceMethod yX1_namesWithLettersOf ∈ eW := eT_in 854 (by decide +kernel) rfl
theorem wm_yX10_runScript : Cond.instanceMethod yX10_runScript ∈ eW := eT_in 862 (by decide +kernel) rfl
theorem wm_yX10_simulate : Cond.instanceMethod yX10_simulate ∈ eW := eT_in 904 (by decide +kernel) rfl
theorem wm_yX2_alive : Cond.instanceMethod yX2_alive ∈ eW := eT_in 920 (by decide +kernel) rfl
theorem wm_yX10_append : Cond.instanceMethod yX10_append ∈ eW := eT_in 928 (by decide +kernel) rfl
theorem wm_yX9_put : Cond.instanceMethod yX9_put ∈ eW := eT_in 934 (by decide +kernel) rfl
theorem wm_yX10_bestGiver : Cond.instanceMethod yX10_bestGiver ∈ eW := eT_in 949 (by decide +kernel) rfl
theorem wm_yX2_sticksBetter : Cond.instanceMethod yX2_sticksBetter ∈ eW := eT_in 953 (by decide +kernel) rfl
theorem wm_yX10_mixed : Cond.instanceMethod yX10_mixed ∈ eW := eT_in 959 (by decide +kernel) rfl
theorem wm_yX10_undo : Cond.instanceMethod yX10_undo ∈ eW := eT_in 970 (by decide +kernel) rfl
theorem wm_yX3_takeBack : Cond.instanceMethod yX3_takeBack ∈ eW := eT_in 975 (by decide +kernel) rfl
theorem wm_yX10_errorPosition : Cond.instanceMethod yX10_errorPosition ∈ eW := eT_in 982 (by decide +kernel) rfl
theorem wm_yX10_clearText : Cond.instanceMethod yX10_clearText ∈ eW := eT_in 991 (by decide +kernel) rfl
theorem ws_yL_draw : Cond.static yL_draw ∈ eW := eT_in 255 (by decide +kernel) rfl
theorem ws_yL_load : Cond.static yL_load ∈ eW := eT_in 260 (by decide +kernel) rfl
theorem ws_yX10_isFamily : Cond.static yX10_isFamily ∈ eW := eT_in 398 (by decide +kernel) rfl
theorem ws_yX10_isBench : Cond.static yX10_isBench ∈ eW := eT_in 401 (by decide +kernel) rfl
theorem ws_yX10_isAgeToCome : Cond.static yX10_isAgeToCome ∈ eW := eT_in 404 (by decide +kernel) rfl
theorem ws_yX0_isCode : Cond.static yX0_isCode ∈ eW := eT_in 424 (by decide +kernel) rfl
theorem ws_yX0_codes : Cond.static yX0_codes ∈ eW := eT_in 427 (by decide +kernel) rfl
theorem ws_yX10_isYearsAtOnce : Cond.static yX10_isYearsAtOnce ∈ eW := eT_in 492 (by decide +kernel) rfl
theorem ws_yX10_isSettingWith : Cond.static yX10_isSettingWith ∈ eW := eT_in 535 (by decide +kernel) rfl
theorem ws_yL_save : Cond.static yL_save ∈ eW := eT_in 539 (by decide +kernel) rfl
theorem ws_yX10_requireSlot : Cond.static yX10_requireSlot ∈ eW := eT_in 547 (by decide +kernel) rfl
theorem ws_arraycopyName : Cond.static arraycopyName ∈ eW := eT_in 574 (by decide +kernel) rfl
theorem ws_yL_restore : Cond.static yL_restore ∈ eW := eT_in 584 (by decide +kernel) rfl
theorem ws_yL_errors : Cond.static yL_errors ∈ eW := eT_in 592 (by decide +kernel) rfl
theorem ws_yL_now : Cond.static yL_now ∈ eW := eT_in 595 (by decide +kernel) rfl
theorem ws_yL_about : Cond.static yL_about ∈ eW := eT_in 600 (by decide +kernel) rfl
theorem ws_yL_personOf : Cond.static yL_personOf ∈ eW := eT_in 633 (by decide +kernel) rfl
theorem ws_yL_nameOf : Cond.static yL_nameOf ∈ eW := eT_in 661 (by decide +kernel) rfl
theorem ws_yL_letter : Cond.static yL_letter ∈ eW := eT_in 678 (by decide +kernel) rfl
theorem ws_yX0_at : Cond.static yX0_at ∈ eW := eT_in 686 (by decide +kernel) rfl
theorem ws_yL_roll : Cond.static yL_roll ∈ eW := eT_in 689 (by decide +kernel) rfl
theorem ws_yX0_dictionaryKey : Cond.static yX0_dictionaryKey ∈ eW := eT_in 706 (by decide +kernel) rfl
theorem ws_yL_meant : Cond.static yL_meant ∈ eW := eT_in 710 (by decide +kernel) rfl
theorem ws_yX10_requireBench : Cond.static yX10_requireBench ∈ eW := eT_in 717 (by decide +kernel) rfl
theorem ws_yX10_requireCode : Cond.static yX10_requireCode ∈ eW := eT_in 722 (by decide +kernel) rfl
theorem ws_yL_person : Cond.static yL_person ∈ eW := eT_in 737 (by decide +kernel) rfl
theorem ws_yL_sit : Cond.static yL_sit ∈ eW := eT_in 756 (by decide +kernel) rfl
theorem ws_yL_give : Cond.static yL_give ∈ eW := eT_in 765 (by decide +kernel) rfl
theorem ws_yL_call : Cond.static yL_call ∈ eW := eT_in 774 (by decide +kernel) rfl
theorem ws_yL_years : Cond.static yL_years ∈ eW := eT_in 782 (by decide +kernel) rfl
theorem ws_yL_set : Cond.static yL_set ∈ eW := eT_in 793 (by decide +kernel) rfl
theorem ws_yL_why : Cond.static yL_why ∈ eW := eT_in 802 (by decide +kernel) rfl
theorem ws_yL_endsIn : Cond.static yL_endsIn ∈ eW := eT_in 809 (by decide +kernel) rfl
theorem ws_yJ9_min_7cf53 : Cond.static yJ9_min_7cf53 ∈ eW := eT_in 820 (by decide +kernel) rfl
theorem ws_yJ9_max_7cf53 : Cond.static yJ9_max_7cf53 ∈ eW := eT_in 823 (by decide +kernel) rfl
theorem ws_yL_bestName : Cond.static yL_bestName ∈ eW := eT_in 826 (by decide +kernel) rfl
theorem ws_yX0_isRepeated : Cond.static yX0_isRepeated ∈ eW := eT_in 849 (by decide +kernel) rfl
theorem ws_yL_script : Cond.static yL_script ∈ eW := eT_in 859 (by decide +kernel) rfl
theorem ws_yX6_beyond : Cond.static yX6_beyond ∈ eW := eT_in 867 (by decide +kernel) rfl
theorem ws_yX6_group : Cond.static yX6_group ∈ eW := eT_in 872 (by decide +kernel) rfl
theorem ws_yX6_succeeds : Cond.static yX6_succeeds ∈ eW := eT_in 875 (by decide +kernel) rfl
theorem ws_yX6_hasNames : Cond.static yX6_hasNames ∈ eW := eT_in 884 (by decide +kernel) rfl
theorem ws_yX6_means : Cond.static yX6_means ∈ eW := eT_in 889 (by decide +kernel) rfl
theorem ws_yX6_isInState : Cond.static yX6_isInState ∈ eW := eT_in 896 (by decide +kernel) rfl
theorem ws_yL_simulate : Cond.static yL_simulate ∈ eW := eT_in 901 (by decide +kernel) rfl
theorem ws_yX7_takeTurn : Cond.static yX7_takeTurn ∈ eW := eT_in 911 (by decide +kernel) rfl
theorem ws_yL_append : Cond.static yL_append ∈ eW := eT_in 925 (by decide +kernel) rfl
theorem ws_yL_kept : Cond.static yL_kept ∈ eW := eT_in 938 (by decide +kernel) rfl
theorem ws_yL_in : Cond.static yL_in ∈ eW := eT_in 945 (by decide +kernel) rfl
theorem ws_yL_follows : Cond.static yL_follows ∈ eW := eT_in 963 (by decide +kernel) rfl
theorem ws_yL_undo : Cond.static yL_undo ∈ eW := eT_in 967 (by decide +kernel) rfl
theorem ws_yL_alike : Cond.static yL_alike ∈ eW := eT_in 979 (by decide +kernel) rfl
theorem ws_yL_told : Cond.static yL_told ∈ eW := eT_in 988 (by decide +kernel) rfl
theorem ws_yL_says : Cond.static yL_says ∈ eW := eT_in 995 (by decide +kernel) rfl
theorem ws_yL_act : Cond.static yL_act ∈ eW := eT_in 998 (by decide +kernel) rfl
theorem wn_arraycopyName : Cond.native arraycopyName ∈ eW := eT_in 575 (by decide +kernel) rfl
theorem wl_yX10_load : Cond.selects RX10 yX10_load yX10_load ∈ eW := eT_in 265 (by decide +kernel) rfl
theorem wl_yX9_firstError : Cond.selects RX9 yX9_firstError yX9_firstError ∈ eW := eT_in 269 (by decide +kernel) rfl
theorem wl_yX9_readHead : Cond.selects RX9 yX9_readHead yX9_readHead ∈ eW := eT_in 273 (by decide +kernel) rfl
theorem wl_yX9_reads : Cond.selects RX9 yX9_reads yX9_reads ∈ eW := eT_in 277 (by decide +kernel) rfl
theorem wl_yX9_here : Cond.selects RX9 yX9_here yX9_here ∈ eW := eT_in 281 (by decide +kernel) rfl
theorem wl_yX9_readCommand : Cond.selects RX9 yX9_readCommand yX9_readCommand ∈ eW := eT_in 285 (by decide +kernel) rfl
theorem wl_yX9_readsPair : Cond.selects RX9 yX9_readsPair yX9_readsPair ∈ eW := eT_in 289 (by decide +kernel) rfl
theorem wl_yX9_takeDigit : Cond.selects RX9 yX9_takeDigit yX9_takeDigit ∈ eW := eT_in 293 (by decide +kernel) rfl
theorem wl_yX9_tells : Cond.selects RX9 yX9_tells yX9_tells ∈ eW := eT_in 297 (by decide +kernel) rfl
theorem wl_yX9_readsDigit : Cond.selects RX9 yX9_readsDigit yX9_readsDigit ∈ eW := eT_in 301 (by decide +kernel) rfl
theorem wl_yX9_readsLetters : Cond.selects RX9 yX9_readsLetters yX9_readsLetters ∈ eW := eT_in 305 (by decide +kernel) rfl
theorem wl_yX5_empty : Cond.selects RX5 yX5_empty yX5_empty ∈ eW := eT_in 377 (by decide +kernel) rfl
theorem wl_yX3_forgetAll : Cond.selects RX3 yX3_forgetAll yX3_forgetAll ∈ eW := eT_in 381 (by decide +kernel) rfl
theorem wl_yX8_forgetAll : Cond.selects RX8 yX8_forgetAll yX8_forgetAll ∈ eW := eT_in 385 (by decide +kernel) rfl
theorem wl_yX5_obeys : Cond.selects RX5 yX5_obeys yX5_obeys ∈ eW := eT_in 391 (by decide +kernel) rfl
theorem wl_yX5_triesPerson : Cond.selects RX5 yX5_triesPerson yX5_triesPerson ∈ eW := eT_in 395 (by decide +kernel) rfl
theorem wl_yX4_isFull : Cond.selects RX4 yX4_isFull yX4_isFull ∈ eW := eT_in 408 (by decide +kernel) rfl
theorem wl_yX4_add : Cond.selects RX4 yX4_add yX4_add ∈ eW := eT_in 412 (by decide +kernel) rfl
theorem wl_yX5_triesGiving : Cond.selects RX5 yX5_triesGiving yX5_triesGiving ∈ eW := eT_in 417 (by decide +kernel) rfl
theorem wl_yX4_has : Cond.selects RX4 yX4_has yX4_has ∈ eW := eT_in 421 (by decide +kernel) rfl
theorem wl_yX5_reasonAgainst : Cond.selects RX5 yX5_reasonAgainst yX5_reasonAgainst ∈ eW := eT_in 431 (by decide +kernel) rfl
theorem wl_yX5_reasonAgainstAnyName : Cond.selects RX5 yX5_reasonAgainstAnyName yX5_reasonAgainstAnyName ∈ eW := eT_in 435 (by decide +kernel) rfl
theorem wl_yX4_areBrothers : Cond.selects RX4 yX4_areBrothers yX4_areBrothers ∈ eW := eT_in 439 (by decide +kernel) rfl
theorem wl_yX2_aliveOf : Cond.selects RX2 yX2_aliveOf yX2_aliveOf ∈ eW := eT_in 443 (by decide +kernel) rfl
theorem wl_yX5_isTaken : Cond.selects RX5 yX5_isTaken yX5_isTaken ∈ eW := eT_in 447 (by decide +kernel) rfl
theorem wl_yX2_isAliveAs : Cond.selects RX2 yX2_isAliveAs yX2_isAliveAs ∈ eW := eT_in 451 (by decide +kernel) rfl
theorem wl_yX2_isFull : Cond.selects RX2 yX2_isFull yX2_isFull ∈ eW := eT_in 455 (by decide +kernel) rfl
theorem wl_yX2_add : Cond.selects RX2 yX2_add yX2_add ∈ eW := eT_in 459 (by decide +kernel) rfl
theorem wl_yX5_callFor : Cond.selects RX5 yX5_callFor yX5_callFor ∈ eW := eT_in 464 (by decide +kernel) rfl
theorem wl_yX5_meantByPeople : Cond.selects RX5 yX5_meantByPeople yX5_meantByPeople ∈ eW := eT_in 468 (by decide +kernel) rfl
theorem wl_yX2_aliveNameOf : Cond.selects RX2 yX2_aliveNameOf yX2_aliveNameOf ∈ eW := eT_in 472 (by decide +kernel) rfl
theorem wl_yX5_firstBrotherNamed : Cond.selects RX5 yX5_firstBrotherNamed yX5_firstBrotherNamed ∈ eW := eT_in 477 (by decide +kernel) rfl
theorem wl_yX2_use : Cond.selects RX2 yX2_use yX2_use ∈ eW := eT_in 481 (by decide +kernel) rfl
theorem wl_yX5_mixUp : Cond.selects RX5 yX5_mixUp yX5_mixUp ∈ eW := eT_in 485 (by decide +kernel) rfl
theorem wl_yX5_passYears : Cond.selects RX5 yX5_passYears yX5_passYears ∈ eW := eT_in 489 (by decide +kernel) rfl
theorem wl_yX4_growOlder : Cond.selects RX4 yX4_growOlder yX4_growOlder ∈ eW := eT_in 496 (by decide +kernel) rfl
theorem wl_yX5_endNames : Cond.selects RX5 yX5_endNames yX5_endNames ∈ eW := eT_in 500 (by decide +kernel) rfl
theorem wl_yX2_isAlive : Cond.selects RX2 yX2_isAlive yX2_isAlive ∈ eW := eT_in 504 (by decide +kernel) rfl
theorem wl_yX5_oldestFor : Cond.selects RX5 yX5_oldestFor yX5_oldestFor ∈ eW := eT_in 508 (by decide +kernel) rfl
theorem wl_yX5_outgrow : Cond.selects RX5 yX5_outgrow yX5_outgrow ∈ eW := eT_in 512 (by decide +kernel) rfl
theorem wl_yX5_heirOf : Cond.selects RX5 yX5_heirOf yX5_heirOf ∈ eW := eT_in 516 (by decide +kernel) rfl
theorem wl_yX4_isYoungerBeside : Cond.selects RX4 yX4_isYoungerBeside yX4_isYoungerBeside ∈ eW := eT_in 520 (by decide +kernel) rfl
theorem wl_yX5_triesSitting : Cond.selects RX5 yX5_triesSitting yX5_triesSitting ∈ eW := eT_in 524 (by decide +kernel) rfl
theorem wl_yX5_isKeptFrom : Cond.selects RX5 yX5_isKeptFrom yX5_isKeptFrom ∈ eW := eT_in 528 (by decide +kernel) rfl
theorem wl_yX5_triesSetting : Cond.selects RX5 yX5_triesSetting yX5_triesSetting ∈ eW := eT_in 532 (by decide +kernel) rfl
theorem wl_yX10_save : Cond.selects RX10 yX10_save yX10_save ∈ eW := eT_in 544 (by decide +kernel) rfl
theorem wl_yX5_copyFrom : Cond.selects RX5 yX5_copyFrom yX5_copyFrom ∈ eW := eT_in 567 (by decide +kernel) rfl
theorem wl_yX4_copyFrom : Cond.selects RX4 yX4_copyFrom yX4_copyFrom ∈ eW := eT_in 571 (by decide +kernel) rfl
theorem wl_yX2_copyFrom : Cond.selects RX2 yX2_copyFrom yX2_copyFrom ∈ eW := eT_in 578 (by decide +kernel) rfl
theorem wl_yX10_restore : Cond.selects RX10 yX10_restore yX10_restore ∈ eW := eT_in 588 (by decide +kernel) rfl
theorem wl_yX10_about : Cond.selects RX10 yX10_about yX10_about ∈ eW := eT_in 605 (by decide +kernel) rfl
theorem wl_yX2_inState : Cond.selects RX2 yX2_inState yX2_inState ∈ eW := eT_in 609 (by decide +kernel) rfl
theorem wl_yX2_usesTogether : Cond.selects RX2 yX2_usesTogether yX2_usesTogether ∈ eW := eT_in 613 (by decide +kernel) rfl
theorem wl_yX10_personOf : Cond.selects RX10 yX10_personOf yX10_personOf ∈ eW := eT_in 637 (by decide +kernel) rfl
theorem wl_yX4_brothersOf : Cond.selects RX4 yX4_brothersOf yX4_brothersOf ∈ eW := eT_in 648 (by decide +kernel) rfl
theorem wl_yX2_givenBy : Cond.selects RX2 yX2_givenBy yX2_givenBy ∈ eW := eT_in 653 (by decide +kernel) rfl
theorem wl_yX2_stuckGivenBy : Cond.selects RX2 yX2_stuckGivenBy yX2_stuckGivenBy ∈ eW := eT_in 657 (by decide +kernel) rfl
theorem wl_yX10_nameOf : Cond.selects RX10 yX10_nameOf yX10_nameOf ∈ eW := eT_in 665 (by decide +kernel) rfl
theorem wl_yX2_has : Cond.selects RX2 yX2_has yX2_has ∈ eW := eT_in 673 (by decide +kernel) rfl
theorem wl_yX10_letter : Cond.selects RX10 yX10_letter yX10_letter ∈ eW := eT_in 682 (by decide +kernel) rfl
theorem wl_yX10_roll : Cond.selects RX10 yX10_roll yX10_roll ∈ eW := eT_in 693 (by decide +kernel) rfl
theorem wl_yX2_ranked : Cond.selects RX2 yX2_ranked yX2_ranked ∈ eW := eT_in 698 (by decide +kernel) rfl
theorem wl_yX2_aliveAheadOf : Cond.selects RX2 yX2_aliveAheadOf yX2_aliveAheadOf ∈ eW := eT_in 703 (by decide +kernel) rfl
theorem wl_yX10_meant : Cond.selects RX10 yX10_meant yX10_meant ∈ eW := eT_in 714 (by decide +kernel) rfl
theorem wl_yX5_meantByNames : Cond.selects RX5 yX5_meantByNames yX5_meantByNames ∈ eW := eT_in 729 (by decide +kernel) rfl
theorem wl_yX4_firstBrotherOn : Cond.selects RX4 yX4_firstBrotherOn yX4_firstBrotherOn ∈ eW := eT_in 733 (by decide +kernel) rfl
theorem wl_yX10_person : Cond.selects RX10 yX10_person yX10_person ∈ eW := eT_in 741 (by decide +kernel) rfl
theorem wl_yX3_remember : Cond.selects RX3 yX3_remember yX3_remember ∈ eW := eT_in 751 (by decide +kernel) rfl
theorem wl_yX10_sit : Cond.selects RX10 yX10_sit yX10_sit ∈ eW := eT_in 760 (by decide +kernel) rfl
theorem wl_yX10_give : Cond.selects RX10 yX10_give yX10_give ∈ eW := eT_in 769 (by decide +kernel) rfl
theorem wl_yX10_call : Cond.selects RX10 yX10_call yX10_call ∈ eW := eT_in 778 (by decide +kernel) rfl
theorem wl_yX10_years : Cond.selects RX10 yX10_years yX10_years ∈ eW := eT_in 786 (by decide +kernel) rfl
theorem wl_yX10_set : Cond.selects RX10 yX10_set yX10_set ∈ eW := eT_in 797 (by decide +kernel) rfl
theorem wl_yX10_why : Cond.selects RX10 yX10_why yX10_why ∈ eW := eT_in 806 (by decide +kernel) rfl
theorem wl_yX10_endsIn : Cond.selects RX10 yX10_endsIn yX10_endsIn ∈ eW := eT_in 813 (by decide +kernel) rfl
theorem wl_yX5_yearsLeft : Cond.selects RX5 yX5_yearsLeft yX5_yearsLeft ∈ eW := eT_in 817 (by decide +kernel) rfl
theorem wl_yX10_bestName : Cond.selects RX10 yX10_bestName yX10_bestName ∈ eW := eT_in 830 (by decide +kernel) rfl
theorem wl_yX1_bestCode : Cond.selects RX1 yX1_bestCode yX1_bestCode ∈ eW := eT_in 835 (by decide +kernel) rfl
theorem wl_yX1_countNames : Cond.selects RX1 yX1_countNames yX1_countNames ∈ eW := eT_in 841 (by decide +kernel) rfl
theorem wl_yX1_countLetters : Cond.selects RX1 yX1_countLetters yX1_countLetters ∈ eW := eT_in 846 (by decide +kernel) rfl
theorem wl_yX1_namesWithLettersOf : Cond.selects RX1 yX1_namesWithLettersOf yX1_namesWithLettersOf ∈ eW := eT_in 855 (by decide +kernel) rfl
theorem wl_yX10_runScript : Cond.selects RX10 yX10_runScript yX10_runScript ∈ eW := eT_in 863 (by decide +kernel) rfl
theorem wl_yX10_simulate : Cond.selects RX10 yX10_simulate yX10_simulate ∈ eW := eT_in 905 (by decide +kernel) rfl
theorem wl_yX2_alive : Cond.selects RX2 yX2_alive yX2_alive ∈ eW := eT_in 921 (by decide +kernel) rfl
theorem wl_yX10_append : Cond.selects RX10 yX10_append yX10_append ∈ eW := eT_in 929 (by decide +kernel) rfl
theorem wl_yX9_put : Cond.selects RX9 yX9_put yX9_put ∈ eW := eT_in 935 (by decide +kernel) rfl
theorem wl_yX10_bestGiver : Cond.selects RX10 yX10_bestGiver yX10_bestGiver ∈ eW := eT_in 950 (by decide +kernel) rfl
theorem wl_yX2_sticksBetter : Cond.selects RX2 yX2_sticksBetter yX2_sticksBetter ∈ eW := eT_in 954 (by decide +kernel) rfl
theorem wl_yX10_mixed : Cond.selects RX10 yX10_mixed yX10_mixed ∈ eW := eT_in 960 (by decide +kernel) rfl
theorem wl_yX10_undo : Cond.selects RX10 yX10_undo yX10_undo ∈ eW := eT_in 971 (by decide +kernel) rfl
theorem wl_yX3_takeBack : Cond.selects RX3 yX3_takeBack yX3_takeBack ∈ eW := eT_in 976 (by decide +kernel) rfl
theorem wl_yX10_errorPosition : Cond.selects RX10 yX10_errorPosition yX10_errorPosition ∈ eW := eT_in 983 (by decide +kernel) rfl
theorem wl_yX10_clearText : Cond.selects RX10 yX10_clearText yX10_clearText ∈ eW := eT_in 992 (by decide +kernel) rfl
theorem wl_yX10_requirePerson : Cond.selects RX10 yX10_requirePerson yX10_requirePerson ∈ eW := eS_in 1 (by decide +kernel) rfl
theorem wl_yX10_requireName : Cond.selects RX10 yX10_requireName yX10_requireName ∈ eW := eS_in 2 (by decide +kernel) rfl
theorem wk_L_10 : Cond.classLink RL 10 RX10 ∈ eW := eT_in 20 (by decide +kernel) rfl
theorem wk_X10_9 : Cond.classLink RX10 9 RX9 ∈ eW := eT_in 28 (by decide +kernel) rfl
theorem wk_X10_16 : Cond.classLink RX10 16 RX5 ∈ eW := eT_in 58 (by decide +kernel) rfl
theorem wk_X5_9 : Cond.classLink RX5 9 RX4 ∈ eW := eT_in 64 (by decide +kernel) rfl
theorem wk_X5_18 : Cond.classLink RX5 18 RX2 ∈ eW := eT_in 101 (by decide +kernel) rfl
theorem wk_X10_26 : Cond.classLink RX10 26 RX3 ∈ eW := eT_in 188 (by decide +kernel) rfl
theorem wk_X3_9 : Cond.classLink RX3 9 RX5 ∈ eW := eT_in 194 (by decide +kernel) rfl
theorem wk_X10_33 : Cond.classLink RX10 33 RX8 ∈ eW := eT_in 208 (by decide +kernel) rfl
theorem wk_X8_9 : Cond.classLink RX8 9 RX5 ∈ eW := eT_in 214 (by decide +kernel) rfl
theorem wk_X10_40 : Cond.classLink RX10 40 RX1 ∈ eW := eT_in 225 (by decide +kernel) rfl
theorem wk_L_19 : Cond.classLink RL 19 "java/lang/IllegalStateException" ∈ eW := eT_in 262 (by decide +kernel) rfl
theorem wk_X10_58 : Cond.classLink RX10 58 "java/lang/IllegalStateException" ∈ eW := eT_in 307 (by decide +kernel) rfl
theorem wk_L_34 : Cond.classLink RL 34 "java/lang/IndexOutOfBoundsException" ∈ eW := eT_in 541 (by decide +kernel) rfl
theorem wk_X10_195 : Cond.classLink RX10 195 "java/lang/IndexOutOfBoundsException" ∈ eW := eT_in 549 (by decide +kernel) rfl
theorem wk_L_15 : Cond.classLink RL 15 "java/lang/IllegalArgumentException" ∈ eW := eT_in 602 (by decide +kernel) rfl
theorem wk_X10_47 : Cond.classLink RX10 47 "java/lang/IllegalArgumentException" ∈ eW := eT_in 615 (by decide +kernel) rfl
theorem wt_X10 : Cond.instantiable RX10 6 ∈ eW := eT_in 21 (by decide +kernel) rfl
theorem wt_X9 : Cond.instantiable RX9 6 ∈ eW := eT_in 29 (by decide +kernel) rfl
theorem wt_X5 : Cond.instantiable RX5 7 ∈ eW := eT_in 59 (by decide +kernel) rfl
theorem wt_X4 : Cond.instantiable RX4 6 ∈ eW := eT_in 65 (by decide +kernel) rfl
theorem wt_X2 : Cond.instantiable RX2 9 ∈ eW := eT_in 102 (by decide +kernel) rfl
theorem wt_X3 : Cond.instantiable RX3 3 ∈ eW := eT_in 189 (by decide +kernel) rfl
theorem wt_X8 : Cond.instantiable RX8 2 ∈ eW := eT_in 209 (by decide +kernel) rfl
theorem wt_X1 : Cond.instantiable RX1 1 ∈ eW := eT_in 226 (by decide +kernel) rfl
theorem wt_java_lang_IllegalStateException : Cond.instantiable "java/lang/IllegalStateException" 6 ∈ eW := eT_in 308 (by decide +kernel) rfl
theorem wt_java_lang_Throwable : Cond.instantiable "java/lang/Throwable" 6 ∈ eW := eT_in 346 (by decide +kernel) rfl
theorem wt_java_lang_IndexOutOfBoundsException : Cond.instantiable "java/lang/IndexOutOfBoundsException" 6 ∈ eW := eT_in 550 (by decide +kernel) rfl
theorem wt_java_lang_IllegalArgumentException : Cond.instantiable "java/lang/IllegalArgumentException" 6 ∈ eW := eT_in 616 (by decide +kernel) rfl
theorem wq_L_7 : Cond.constant RL 7 15594259 ∈ eW := eT_in 257 (by decide +kernel) rfl
theorem wq_L_8 : Cond.constant RL 8 2147483647 ∈ eW := eT_in 258 (by decide +kernel) rfl
theorem wq_X6_13 : Cond.constant RX6 13 100000 ∈ eW := eT_in 877 (by decide +kernel) rfl
theorem wq_L_21 : Cond.constantLong RL 21 (-9000000000000000003) ∈ eW := eT_in 537 (by decide +kernel) rfl
theorem wq_L_36 : Cond.constantLong RL 36 (-9000000000000000001) ∈ eW := eT_in 582 (by decide +kernel) rfl
theorem wq_L_96 : Cond.constantLong RL 96 (151) ∈ eW := eT_in 597 (by decide +kernel) rfl
theorem wq_L_98 : Cond.constantLong RL 98 (31) ∈ eW := eT_in 598 (by decide +kernel) rfl
theorem wq_L_17 : Cond.constantLong RL 17 (-9000000000000000002) ∈ eW := eT_in 631 (by decide +kernel) rfl
theorem wq_X6_11 : Cond.constantLong RX6 11 (1000000) ∈ eW := eT_in 869 (by decide +kernel) rfl
theorem wq_L_144 : Cond.constantLong RL 144 (1000000000000000000) ∈ eW := eT_in 899 (by decide +kernel) rfl
theorem wq_X10_322 : Cond.constantLong RX10 322 (6364136223846793005) ∈ eW := eT_in 908 (by decide +kernel) rfl
theorem wq_X10_324 : Cond.constantLong RX10 324 (1442695040888963407) ∈ eW := eT_in 909 (by decide +kernel) rfl
theorem wq_L_155 : Cond.constantLong RL 155 (2) ∈ eW := eT_in 940 (by decide +kernel) rfl
theorem wq_L_157 : Cond.constantLong RL 157 (4) ∈ eW := eT_in 941 (by decide +kernel) rfl
theorem wq_L_159 : Cond.constantLong RL 159 (-1) ∈ eW := eT_in 942 (by decide +kernel) rfl
theorem wq_L_161 : Cond.constantLong RL 161 (25) ∈ eW := eT_in 943 (by decide +kernel) rfl
theorem wq_L_167 : Cond.constantLong RL 167 (3) ∈ eW := eT_in 947 (by decide +kernel) rfl
theorem wq_L_175 : Cond.constantLong RL 175 (900) ∈ eW := eT_in 965 (by decide +kernel) rfl
theorem wq_L_182 : Cond.constantLong RL 182 (300001600000) ∈ eW := eT_in 985 (by decide +kernel) rfl
theorem wq_L_184 : Cond.constantLong RL 184 (10000) ∈ eW := eT_in 986 (by decide +kernel) rfl
theorem wa_char : Cond.arrayClass .char ∈ eW := eT_in 56 (by decide +kernel) rfl
theorem wa_int : Cond.arrayClass .int ∈ eW := eT_in 57 (by decide +kernel) rfl
theorem wa_boolean : Cond.arrayClass .boolean ∈ eW := eT_in 154 (by decide +kernel) rfl
theorem wp_IllegalStateException : Cond.castable "java/lang/IllegalStateException" "java/lang/IllegalStateException" ∈ eX := eX_in 309 (by decide +kernel) rfl
theorem wp_IndexOutOfBoundsException : Cond.castable "java/lang/IndexOutOfBoundsException" "java/lang/IndexOutOfBoundsException" ∈ eX := eX_in 551 (by decide +kernel) rfl
theorem wp_IllegalArgumentException : Cond.castable "java/lang/IllegalArgumentException" "java/lang/IllegalArgumentException" ∈ eX := eX_in 617 (by decide +kernel) rfl
theorem wu_X1 : ∀ w ∈ u_ws RX1 TX1 1, w ∈ eW := by
  intro w hw
  have h := List.all_eq_true.mp (show (u_ws RX1 TX1 1).all (fun w => decide (w ∈ tables_1) && goodWord w) = true by decide +kernel) w hw
  rw [Bool.and_eq_true, decide_eq_true_eq] at h
  exact List.mem_filter.mpr ⟨List.mem_append_right _ h.1, h.2⟩
theorem wu_X2 : ∀ w ∈ u_ws RX2 TX2 9, w ∈ eW := by
  intro w hw
  have h := List.all_eq_true.mp (show (u_ws RX2 TX2 9).all (fun w => decide (w ∈ tables_1) && goodWord w) = true by decide +kernel) w hw
  rw [Bool.and_eq_true, decide_eq_true_eq] at h
  exact List.mem_filter.mpr ⟨List.mem_append_right _ h.1, h.2⟩
theorem wu_X3 : ∀ w ∈ u_ws RX3 TX3 3, w ∈ eW := by
  intro w hw
  have h := List.all_eq_true.mp (show (u_ws RX3 TX3 3).all (fun w => decide (w ∈ tables_1) && goodWord w) = true by decide +kernel) w hw
  rw [Bool.and_eq_true, decide_eq_true_eq] at h
  exact List.mem_filter.mpr ⟨List.mem_append_right _ h.1, h.2⟩
theorem wu_X4 : ∀ w ∈ u_ws RX4 TX4 6, w ∈ eW := by
  intro w hw
  have h := List.all_eq_true.mp (show (u_ws RX4 TX4 6).all (fun w => decide (w ∈ tables_1) && goodWord w) = true by decide +kernel) w hw
  rw [Bool.and_eq_true, decide_eq_true_eq] at h
  exact List.mem_filter.mpr ⟨List.mem_append_right _ h.1, h.2⟩
theorem wu_X5 : ∀ w ∈ u_ws RX5 TX5 7, w ∈ eW := by
  intro w hw
  have h := List.all_eq_true.mp (show (u_ws RX5 TX5 7).all (fun w => decide (w ∈ tables_1) && goodWord w) = true by decide +kernel) w hw
  rw [Bool.and_eq_true, decide_eq_true_eq] at h
  exact List.mem_filter.mpr ⟨List.mem_append_right _ h.1, h.2⟩
theorem wu_X8 : ∀ w ∈ u_ws RX8 TX8 2, w ∈ eW := by
  intro w hw
  have h := List.all_eq_true.mp (show (u_ws RX8 TX8 2).all (fun w => decide (w ∈ tables_1) && goodWord w) = true by decide +kernel) w hw
  rw [Bool.and_eq_true, decide_eq_true_eq] at h
  exact List.mem_filter.mpr ⟨List.mem_append_right _ h.1, h.2⟩
theorem wu_X9 : ∀ w ∈ u_ws RX9 TX9 6, w ∈ eW := by
  intro w hw
  have h := List.all_eq_true.mp (show (u_ws RX9 TX9 6).all (fun w => decide (w ∈ tables_1) && goodWord w) = true by decide +kernel) w hw
  rw [Bool.and_eq_true, decide_eq_true_eq] at h
  exact List.mem_filter.mpr ⟨List.mem_append_right _ h.1, h.2⟩
theorem wu_X10 : ∀ w ∈ u_ws RX10 TX10 6, w ∈ eW := by
  intro w hw
  have h := List.all_eq_true.mp (show (u_ws RX10 TX10 6).all (fun w => decide (w ∈ tables_1) && goodWord w) = true by decide +kernel) w hw
  rw [Bool.and_eq_true, decide_eq_true_eq] at h
  exact List.mem_filter.mpr ⟨List.mem_append_right _ h.1, h.2⟩
theorem fl_X9_9 : eFL RX9 9 6 0 := ⟨_, rfl, by decide, eT_in 34 (by decide +kernel) rfl, wu_X9⟩
theorem pl_X9_9 : ePL RX9 9 6 0 (.array .char) true := ⟨_, tyX9, rfl, by decide, eT_in 34 (by decide +kernel) rfl, wu_X9, tyX9_ok, nmX9, rfl, by decide +kernel, fun _ => rfl⟩
theorem fl_X9_15 : eFL RX9 15 6 1 := ⟨_, rfl, by decide, eT_in 35 (by decide +kernel) rfl, wu_X9⟩
theorem pl_X9_15 : ePL RX9 15 6 1 .int false := ⟨_, tyX9, rfl, by decide, eT_in 35 (by decide +kernel) rfl, wu_X9, tyX9_ok, nmX9, rfl, by decide +kernel, fun _ => rfl⟩
theorem fl_X10_54 : eFL RX10 54 6 1 := ⟨_, rfl, by decide, eT_in 36 (by decide +kernel) rfl, wu_X9⟩
theorem pl_X10_54 : ePL RX10 54 6 1 .int false := ⟨_, tyX9, rfl, by decide, eT_in 36 (by decide +kernel) rfl, wu_X9, tyX9_ok, nmX9, rfl, by decide +kernel, fun h => by revert h; decide +kernel⟩
theorem fl_X9_19 : eFL RX9 19 6 2 := ⟨_, rfl, by decide, eT_in 37 (by decide +kernel) rfl, wu_X9⟩
theorem pl_X9_19 : ePL RX9 19 6 2 .int false := ⟨_, tyX9, rfl, by decide, eT_in 37 (by decide +kernel) rfl, wu_X9, tyX9_ok, nmX9, rfl, by decide +kernel, fun _ => rfl⟩
theorem fl_X9_22 : eFL RX9 22 6 3 := ⟨_, rfl, by decide, eT_in 38 (by decide +kernel) rfl, wu_X9⟩
theorem pl_X9_22 : ePL RX9 22 6 3 .int false := ⟨_, tyX9, rfl, by decide, eT_in 38 (by decide +kernel) rfl, wu_X9, tyX9_ok, nmX9, rfl, by decide +kernel, fun _ => rfl⟩
theorem fl_X5_205 : eFL RX5 205 6 3 := ⟨_, rfl, by decide, eT_in 39 (by decide +kernel) rfl, wu_X9⟩
theorem pl_X5_205 : ePL RX5 205 6 3 .int false := ⟨_, tyX9, rfl, by decide, eT_in 39 (by decide +kernel) rfl, wu_X9, tyX9_ok, nmX9, rfl, by decide +kernel, fun h => by revert h; decide +kernel⟩
theorem fl_X9_25 : eFL RX9 25 6 4 := ⟨_, rfl, by decide, eT_in 40 (by decide +kernel) rfl, wu_X9⟩
theorem pl_X9_25 : ePL RX9 25 6 4 (.array .int) true := ⟨_, tyX9, rfl, by decide, eT_in 40 (by decide +kernel) rfl, wu_X9, tyX9_ok, nmX9, rfl, by decide +kernel, fun _ => rfl⟩
theorem fl_X5_200 : eFL RX5 200 6 4 := ⟨_, rfl, by decide, eT_in 41 (by decide +kernel) rfl, wu_X9⟩
-- X5 200 final of another
theorem fl_X9_29 : eFL RX9 29 6 5 := ⟨_, rfl, by decide, eT_in 42 (by decide +kernel) rfl, wu_X9⟩
theorem pl_X9_29 : ePL RX9 29 6 5 .int false := ⟨_, tyX9, rfl, by decide, eT_in 42 (by decide +kernel) rfl, wu_X9, tyX9_ok, nmX9, rfl, by decide +kernel, fun _ => rfl⟩
theorem fl_X4_9 : eFL RX4 9 3 0 := ⟨_, rfl, by decide, eT_in 70 (by decide +kernel) rfl, wu_X4⟩
theorem pl_X4_9 : ePL RX4 9 3 0 .int false := ⟨_, tyX4, rfl, by decide, eT_in 70 (by decide +kernel) rfl, wu_X4, tyX4_ok, nmX4, rfl, by decide +kernel, fun _ => rfl⟩
theorem fl_X5_42 : eFL RX5 42 3 0 := ⟨_, rfl, by decide, eT_in 71 (by decide +kernel) rfl, wu_X4⟩
theorem pl_X5_42 : ePL RX5 42 3 0 .int false := ⟨_, tyX4, rfl, by decide, eT_in 71 (by decide +kernel) rfl, wu_X4, tyX4_ok, nmX4, rfl, by decide +kernel, fun h => by revert h; decide +kernel⟩
theorem fl_X10_95 : eFL RX10 95 3 0 := ⟨_, rfl, by decide, eT_in 72 (by decide +kernel) rfl, wu_X4⟩
theorem pl_X10_95 : ePL RX10 95 3 0 .int false := ⟨_, tyX4, rfl, by decide, eT_in 72 (by decide +kernel) rfl, wu_X4, tyX4_ok, nmX4, rfl, by decide +kernel, fun h => by revert h; decide +kernel⟩
theorem fl_X4_15 : eFL RX4 15 3 1 := ⟨_, rfl, by decide, eT_in 73 (by decide +kernel) rfl, wu_X4⟩
theorem pl_X4_15 : ePL RX4 15 3 1 (.array .int) true := ⟨_, tyX4, rfl, by decide, eT_in 73 (by decide +kernel) rfl, wu_X4, tyX4_ok, nmX4, rfl, by decide +kernel, fun _ => rfl⟩
theorem fl_X10_136 : eFL RX10 136 3 1 := ⟨_, rfl, by decide, eT_in 74 (by decide +kernel) rfl, wu_X4⟩
-- X10 136 final of another
theorem fl_X5_153 : eFL RX5 153 3 1 := ⟨_, rfl, by decide, eT_in 75 (by decide +kernel) rfl, wu_X4⟩
-- X5 153 final of another
theorem fl_X4_19 : eFL RX4 19 3 2 := ⟨_, rfl, by decide, eT_in 76 (by decide +kernel) rfl, wu_X4⟩
theorem pl_X4_19 : ePL RX4 19 3 2 (.array .int) true := ⟨_, tyX4, rfl, by decide, eT_in 76 (by decide +kernel) rfl, wu_X4, tyX4_ok, nmX4, rfl, by decide +kernel, fun _ => rfl⟩
theorem fl_X10_139 : eFL RX10 139 3 2 := ⟨_, rfl, by decide, eT_in 77 (by decide +kernel) rfl, wu_X4⟩
-- X10 139 final of another
theorem fl_X4_22 : eFL RX4 22 3 3 := ⟨_, rfl, by decide, eT_in 78 (by decide +kernel) rfl, wu_X4⟩
theorem pl_X4_22 : ePL RX4 22 3 3 (.array .int) true := ⟨_, tyX4, rfl, by decide, eT_in 78 (by decide +kernel) rfl, wu_X4, tyX4_ok, nmX4, rfl, by decide +kernel, fun _ => rfl⟩
theorem fl_X1_35 : eFL RX1 35 3 3 := ⟨_, rfl, by decide, eT_in 79 (by decide +kernel) rfl, wu_X4⟩
-- X1 35 final of another
theorem fl_X5_63 : eFL RX5 63 3 3 := ⟨_, rfl, by decide, eT_in 80 (by decide +kernel) rfl, wu_X4⟩
-- X5 63 final of another
theorem fl_X10_142 : eFL RX10 142 3 3 := ⟨_, rfl, by decide, eT_in 81 (by decide +kernel) rfl, wu_X4⟩
-- X10 142 final of another
theorem fl_X4_25 : eFL RX4 25 3 4 := ⟨_, rfl, by decide, eT_in 82 (by decide +kernel) rfl, wu_X4⟩
theorem pl_X4_25 : ePL RX4 25 3 4 (.array .int) true := ⟨_, tyX4, rfl, by decide, eT_in 82 (by decide +kernel) rfl, wu_X4, tyX4_ok, nmX4, rfl, by decide +kernel, fun _ => rfl⟩
theorem fl_X10_157 : eFL RX10 157 3 4 := ⟨_, rfl, by decide, eT_in 83 (by decide +kernel) rfl, wu_X4⟩
-- X10 157 final of another
theorem fl_X5_131 : eFL RX5 131 3 4 := ⟨_, rfl, by decide, eT_in 84 (by decide +kernel) rfl, wu_X4⟩
-- X5 131 final of another
theorem fl_X4_28 : eFL RX4 28 3 5 := ⟨_, rfl, by decide, eT_in 85 (by decide +kernel) rfl, wu_X4⟩
theorem pl_X4_28 : ePL RX4 28 3 5 (.array .int) true := ⟨_, tyX4, rfl, by decide, eT_in 85 (by decide +kernel) rfl, wu_X4, tyX4_ok, nmX4, rfl, by decide +kernel, fun _ => rfl⟩
theorem fl_X10_160 : eFL RX10 160 3 5 := ⟨_, rfl, by decide, eT_in 86 (by decide +kernel) rfl, wu_X4⟩
-- X10 160 final of another
theorem fl_X5_134 : eFL RX5 134 3 5 := ⟨_, rfl, by decide, eT_in 87 (by decide +kernel) rfl, wu_X4⟩
-- X5 134 final of another
theorem fl_X2_9 : eFL RX2 9 1 0 := ⟨_, rfl, by decide, eT_in 107 (by decide +kernel) rfl, wu_X2⟩
theorem pl_X2_9 : ePL RX2 9 1 0 .int false := ⟨_, tyX2, rfl, by decide, eT_in 107 (by decide +kernel) rfl, wu_X2, tyX2_ok, nmX2, rfl, by decide +kernel, fun _ => rfl⟩
theorem fl_X5_45 : eFL RX5 45 1 0 := ⟨_, rfl, by decide, eT_in 108 (by decide +kernel) rfl, wu_X2⟩
theorem pl_X5_45 : ePL RX5 45 1 0 .int false := ⟨_, tyX2, rfl, by decide, eT_in 108 (by decide +kernel) rfl, wu_X2, tyX2_ok, nmX2, rfl, by decide +kernel, fun h => by revert h; decide +kernel⟩
theorem fl_X1_57 : eFL RX1 57 1 0 := ⟨_, rfl, by decide, eT_in 109 (by decide +kernel) rfl, wu_X2⟩
theorem pl_X1_57 : ePL RX1 57 1 0 .int false := ⟨_, tyX2, rfl, by decide, eT_in 109 (by decide +kernel) rfl, wu_X2, tyX2_ok, nmX2, rfl, by decide +kernel, fun h => by revert h; decide +kernel⟩
theorem fl_X10_104 : eFL RX10 104 1 0 := ⟨_, rfl, by decide, eT_in 110 (by decide +kernel) rfl, wu_X2⟩
theorem pl_X10_104 : ePL RX10 104 1 0 .int false := ⟨_, tyX2, rfl, by decide, eT_in 110 (by decide +kernel) rfl, wu_X2, tyX2_ok, nmX2, rfl, by decide +kernel, fun h => by revert h; decide +kernel⟩
theorem fl_X2_15 : eFL RX2 15 1 1 := ⟨_, rfl, by decide, eT_in 111 (by decide +kernel) rfl, wu_X2⟩
theorem pl_X2_15 : ePL RX2 15 1 1 (.array .int) true := ⟨_, tyX2, rfl, by decide, eT_in 111 (by decide +kernel) rfl, wu_X2, tyX2_ok, nmX2, rfl, by decide +kernel, fun _ => rfl⟩
theorem fl_X1_65 : eFL RX1 65 1 1 := ⟨_, rfl, by decide, eT_in 112 (by decide +kernel) rfl, wu_X2⟩
-- X1 65 final of another
theorem fl_X5_93 : eFL RX5 93 1 1 := ⟨_, rfl, by decide, eT_in 113 (by decide +kernel) rfl, wu_X2⟩
-- X5 93 final of another
theorem fl_X10_168 : eFL RX10 168 1 1 := ⟨_, rfl, by decide, eT_in 114 (by decide +kernel) rfl, wu_X2⟩
-- X10 168 final of another
theorem fl_X2_19 : eFL RX2 19 1 2 := ⟨_, rfl, by decide, eT_in 115 (by decide +kernel) rfl, wu_X2⟩
theorem pl_X2_19 : ePL RX2 19 1 2 (.array .int) true := ⟨_, tyX2, rfl, by decide, eT_in 115 (by decide +kernel) rfl, wu_X2, tyX2_ok, nmX2, rfl, by decide +kernel, fun _ => rfl⟩
theorem fl_X1_68 : eFL RX1 68 1 2 := ⟨_, rfl, by decide, eT_in 116 (by decide +kernel) rfl, wu_X2⟩
-- X1 68 final of another
theorem fl_X5_96 : eFL RX5 96 1 2 := ⟨_, rfl, by decide, eT_in 117 (by decide +kernel) rfl, wu_X2⟩
-- X5 96 final of another
theorem fl_X10_171 : eFL RX10 171 1 2 := ⟨_, rfl, by decide, eT_in 118 (by decide +kernel) rfl, wu_X2⟩
-- X10 171 final of another
theorem fl_X2_22 : eFL RX2 22 1 3 := ⟨_, rfl, by decide, eT_in 119 (by decide +kernel) rfl, wu_X2⟩
theorem pl_X2_22 : ePL RX2 22 1 3 (.array .int) true := ⟨_, tyX2, rfl, by decide, eT_in 119 (by decide +kernel) rfl, wu_X2, tyX2_ok, nmX2, rfl, by decide +kernel, fun _ => rfl⟩
theorem fl_X10_174 : eFL RX10 174 1 3 := ⟨_, rfl, by decide, eT_in 120 (by decide +kernel) rfl, wu_X2⟩
-- X10 174 final of another
theorem fl_X2_25 : eFL RX2 25 1 4 := ⟨_, rfl, by decide, eT_in 121 (by decide +kernel) rfl, wu_X2⟩
theorem pl_X2_25 : ePL RX2 25 1 4 (.array .int) true := ⟨_, tyX2, rfl, by decide, eT_in 121 (by decide +kernel) rfl, wu_X2, tyX2_ok, nmX2, rfl, by decide +kernel, fun _ => rfl⟩
theorem fl_X5_82 : eFL RX5 82 1 4 := ⟨_, rfl, by decide, eT_in 122 (by decide +kernel) rfl, wu_X2⟩
-- X5 82 final of another
theorem fl_X10_177 : eFL RX10 177 1 4 := ⟨_, rfl, by decide, eT_in 123 (by decide +kernel) rfl, wu_X2⟩
-- X10 177 final of another
theorem fl_X2_28 : eFL RX2 28 1 5 := ⟨_, rfl, by decide, eT_in 124 (by decide +kernel) rfl, wu_X2⟩
theorem pl_X2_28 : ePL RX2 28 1 5 (.array .int) true := ⟨_, tyX2, rfl, by decide, eT_in 124 (by decide +kernel) rfl, wu_X2, tyX2_ok, nmX2, rfl, by decide +kernel, fun _ => rfl⟩
theorem fl_X10_180 : eFL RX10 180 1 5 := ⟨_, rfl, by decide, eT_in 125 (by decide +kernel) rfl, wu_X2⟩
-- X10 180 final of another
theorem fl_X2_31 : eFL RX2 31 1 6 := ⟨_, rfl, by decide, eT_in 126 (by decide +kernel) rfl, wu_X2⟩
theorem pl_X2_31 : ePL RX2 31 1 6 (.array .int) true := ⟨_, tyX2, rfl, by decide, eT_in 126 (by decide +kernel) rfl, wu_X2, tyX2_ok, nmX2, rfl, by decide +kernel, fun _ => rfl⟩
theorem fl_X10_183 : eFL RX10 183 1 6 := ⟨_, rfl, by decide, eT_in 127 (by decide +kernel) rfl, wu_X2⟩
-- X10 183 final of another
theorem fl_X5_147 : eFL RX5 147 1 6 := ⟨_, rfl, by decide, eT_in 128 (by decide +kernel) rfl, wu_X2⟩
-- X5 147 final of another
theorem fl_X2_34 : eFL RX2 34 1 7 := ⟨_, rfl, by decide, eT_in 129 (by decide +kernel) rfl, wu_X2⟩
theorem pl_X2_34 : ePL RX2 34 1 7 (.array .int) true := ⟨_, tyX2, rfl, by decide, eT_in 129 (by decide +kernel) rfl, wu_X2, tyX2_ok, nmX2, rfl, by decide +kernel, fun _ => rfl⟩
theorem fl_X6_80 : eFL RX6 80 1 7 := ⟨_, rfl, by decide, eT_in 130 (by decide +kernel) rfl, wu_X2⟩
-- X6 80 final of another
theorem fl_X10_186 : eFL RX10 186 1 7 := ⟨_, rfl, by decide, eT_in 131 (by decide +kernel) rfl, wu_X2⟩
-- X10 186 final of another
theorem fl_X5_150 : eFL RX5 150 1 7 := ⟨_, rfl, by decide, eT_in 132 (by decide +kernel) rfl, wu_X2⟩
-- X5 150 final of another
theorem fl_X2_37 : eFL RX2 37 1 8 := ⟨_, rfl, by decide, eT_in 133 (by decide +kernel) rfl, wu_X2⟩
theorem pl_X2_37 : ePL RX2 37 1 8 (.array .boolean) true := ⟨_, tyX2, rfl, by decide, eT_in 133 (by decide +kernel) rfl, wu_X2, tyX2_ok, nmX2, rfl, by decide +kernel, fun _ => rfl⟩
theorem fl_X10_189 : eFL RX10 189 1 8 := ⟨_, rfl, by decide, eT_in 134 (by decide +kernel) rfl, wu_X2⟩
-- X10 189 final of another
theorem fl_X5_12 : eFL RX5 12 4 0 := ⟨_, rfl, by decide, eT_in 155 (by decide +kernel) rfl, wu_X5⟩
theorem pl_X5_12 : ePL RX5 12 4 0 (.object "NameBenches$People") true := ⟨_, tyX5, rfl, by decide, eT_in 155 (by decide +kernel) rfl, wu_X5, tyX5_ok, nmX5, rfl, by decide +kernel, fun _ => rfl⟩
theorem fl_X1_31 : eFL RX1 31 4 0 := ⟨_, rfl, by decide, eT_in 156 (by decide +kernel) rfl, wu_X5⟩
-- X1 31 final of another
theorem fl_X6_55 : eFL RX6 55 4 0 := ⟨_, rfl, by decide, eT_in 157 (by decide +kernel) rfl, wu_X5⟩
-- X6 55 final of another
theorem fl_X10_91 : eFL RX10 91 4 0 := ⟨_, rfl, by decide, eT_in 158 (by decide +kernel) rfl, wu_X5⟩
-- X10 91 final of another
theorem fl_X5_21 : eFL RX5 21 4 1 := ⟨_, rfl, by decide, eT_in 159 (by decide +kernel) rfl, wu_X5⟩
theorem pl_X5_21 : ePL RX5 21 4 1 (.object "NameBenches$Names") true := ⟨_, tyX5, rfl, by decide, eT_in 159 (by decide +kernel) rfl, wu_X5, tyX5_ok, nmX5, rfl, by decide +kernel, fun _ => rfl⟩
theorem fl_X1_21 : eFL RX1 21 4 1 := ⟨_, rfl, by decide, eT_in 160 (by decide +kernel) rfl, wu_X5⟩
-- X1 21 final of another
theorem fl_X6_43 : eFL RX6 43 4 1 := ⟨_, rfl, by decide, eT_in 161 (by decide +kernel) rfl, wu_X5⟩
-- X6 43 final of another
theorem fl_X10_100 : eFL RX10 100 4 1 := ⟨_, rfl, by decide, eT_in 162 (by decide +kernel) rfl, wu_X5⟩
-- X10 100 final of another
theorem fl_X5_25 : eFL RX5 25 4 2 := ⟨_, rfl, by decide, eT_in 163 (by decide +kernel) rfl, wu_X5⟩
theorem pl_X5_25 : ePL RX5 25 4 2 (.array .int) true := ⟨_, tyX5, rfl, by decide, eT_in 163 (by decide +kernel) rfl, wu_X5, tyX5_ok, nmX5, rfl, by decide +kernel, fun _ => rfl⟩
theorem fl_X10_126 : eFL RX10 126 4 2 := ⟨_, rfl, by decide, eT_in 164 (by decide +kernel) rfl, wu_X5⟩
-- X10 126 final of another
theorem fl_X5_29 : eFL RX5 29 4 3 := ⟨_, rfl, by decide, eT_in 165 (by decide +kernel) rfl, wu_X5⟩
theorem pl_X5_29 : ePL RX5 29 4 3 .int false := ⟨_, tyX5, rfl, by decide, eT_in 165 (by decide +kernel) rfl, wu_X5, tyX5_ok, nmX5, rfl, by decide +kernel, fun _ => rfl⟩
theorem fl_X10_111 : eFL RX10 111 4 3 := ⟨_, rfl, by decide, eT_in 166 (by decide +kernel) rfl, wu_X5⟩
theorem pl_X10_111 : ePL RX10 111 4 3 .int false := ⟨_, tyX5, rfl, by decide, eT_in 166 (by decide +kernel) rfl, wu_X5, tyX5_ok, nmX5, rfl, by decide +kernel, fun h => by revert h; decide +kernel⟩
theorem fl_X5_33 : eFL RX5 33 4 4 := ⟨_, rfl, by decide, eT_in 167 (by decide +kernel) rfl, wu_X5⟩
theorem pl_X5_33 : ePL RX5 33 4 4 .int false := ⟨_, tyX5, rfl, by decide, eT_in 167 (by decide +kernel) rfl, wu_X5, tyX5_ok, nmX5, rfl, by decide +kernel, fun _ => rfl⟩
theorem fl_X10_117 : eFL RX10 117 4 4 := ⟨_, rfl, by decide, eT_in 168 (by decide +kernel) rfl, wu_X5⟩
theorem pl_X10_117 : ePL RX10 117 4 4 .int false := ⟨_, tyX5, rfl, by decide, eT_in 168 (by decide +kernel) rfl, wu_X5, tyX5_ok, nmX5, rfl, by decide +kernel, fun h => by revert h; decide +kernel⟩
theorem fl_X5_36 : eFL RX5 36 4 5 := ⟨_, rfl, by decide, eT_in 169 (by decide +kernel) rfl, wu_X5⟩
theorem pl_X5_36 : ePL RX5 36 4 5 .int false := ⟨_, tyX5, rfl, by decide, eT_in 169 (by decide +kernel) rfl, wu_X5, tyX5_ok, nmX5, rfl, by decide +kernel, fun _ => rfl⟩
theorem fl_X10_120 : eFL RX10 120 4 5 := ⟨_, rfl, by decide, eT_in 170 (by decide +kernel) rfl, wu_X5⟩
theorem pl_X10_120 : ePL RX10 120 4 5 .int false := ⟨_, tyX5, rfl, by decide, eT_in 170 (by decide +kernel) rfl, wu_X5, tyX5_ok, nmX5, rfl, by decide +kernel, fun h => by revert h; decide +kernel⟩
theorem fl_X5_39 : eFL RX5 39 4 6 := ⟨_, rfl, by decide, eT_in 171 (by decide +kernel) rfl, wu_X5⟩
theorem pl_X5_39 : ePL RX5 39 4 6 .int false := ⟨_, tyX5, rfl, by decide, eT_in 171 (by decide +kernel) rfl, wu_X5, tyX5_ok, nmX5, rfl, by decide +kernel, fun _ => rfl⟩
theorem fl_X10_123 : eFL RX10 123 4 6 := ⟨_, rfl, by decide, eT_in 172 (by decide +kernel) rfl, wu_X5⟩
theorem pl_X10_123 : ePL RX10 123 4 6 .int false := ⟨_, tyX5, rfl, by decide, eT_in 172 (by decide +kernel) rfl, wu_X5, tyX5_ok, nmX5, rfl, by decide +kernel, fun h => by revert h; decide +kernel⟩
theorem fl_X3_11 : eFL RX3 11 2 0 := ⟨_, rfl, by decide, eT_in 197 (by decide +kernel) rfl, wu_X3⟩
theorem pl_X3_11 : ePL RX3 11 2 0 (.array (.object "NameBenches$Registry")) true := ⟨_, tyX3, rfl, by decide, eT_in 197 (by decide +kernel) rfl, wu_X3, tyX3_ok, nmX3, rfl, by decide +kernel, fun _ => rfl⟩
theorem fl_X3_17 : eFL RX3 17 2 1 := ⟨_, rfl, by decide, eT_in 198 (by decide +kernel) rfl, wu_X3⟩
theorem pl_X3_17 : ePL RX3 17 2 1 .int false := ⟨_, tyX3, rfl, by decide, eT_in 198 (by decide +kernel) rfl, wu_X3, tyX3_ok, nmX3, rfl, by decide +kernel, fun _ => rfl⟩
theorem fl_X3_21 : eFL RX3 21 2 2 := ⟨_, rfl, by decide, eT_in 199 (by decide +kernel) rfl, wu_X3⟩
theorem pl_X3_21 : ePL RX3 21 2 2 .int false := ⟨_, tyX3, rfl, by decide, eT_in 199 (by decide +kernel) rfl, wu_X3, tyX3_ok, nmX3, rfl, by decide +kernel, fun _ => rfl⟩
theorem fl_X10_281 : eFL RX10 281 2 2 := ⟨_, rfl, by decide, eT_in 200 (by decide +kernel) rfl, wu_X3⟩
theorem pl_X10_281 : ePL RX10 281 2 2 .int false := ⟨_, tyX3, rfl, by decide, eT_in 200 (by decide +kernel) rfl, wu_X3, tyX3_ok, nmX3, rfl, by decide +kernel, fun h => by revert h; decide +kernel⟩
theorem fl_X8_11 : eFL RX8 11 5 0 := ⟨_, rfl, by decide, eT_in 216 (by decide +kernel) rfl, wu_X8⟩
theorem pl_X8_11 : ePL RX8 11 5 0 (.array (.object "NameBenches$Registry")) true := ⟨_, tyX8, rfl, by decide, eT_in 216 (by decide +kernel) rfl, wu_X8, tyX8_ok, nmX8, rfl, by decide +kernel, fun _ => rfl⟩
theorem fl_X10_338 : eFL RX10 338 5 0 := ⟨_, rfl, by decide, eT_in 217 (by decide +kernel) rfl, wu_X8⟩
-- X10 338 final of another
theorem fl_X8_17 : eFL RX8 17 5 1 := ⟨_, rfl, by decide, eT_in 218 (by decide +kernel) rfl, wu_X8⟩
theorem pl_X8_17 : ePL RX8 17 5 1 (.array .boolean) true := ⟨_, tyX8, rfl, by decide, eT_in 218 (by decide +kernel) rfl, wu_X8, tyX8_ok, nmX8, rfl, by decide +kernel, fun _ => rfl⟩
theorem fl_X10_342 : eFL RX10 342 5 1 := ⟨_, rfl, by decide, eT_in 219 (by decide +kernel) rfl, wu_X8⟩
-- X10 342 final of another
theorem fl_X1_9 : eFL RX1 9 0 0 := ⟨_, rfl, by decide, eT_in 231 (by decide +kernel) rfl, wu_X1⟩
theorem pl_X1_9 : ePL RX1 9 0 0 (.array .int) true := ⟨_, tyX1, rfl, by decide, eT_in 231 (by decide +kernel) rfl, wu_X1, tyX1_ok, nmX1, rfl, by decide +kernel, fun _ => rfl⟩
theorem fl_X10_12 : eFL RX10 12 7 0 := ⟨_, rfl, by decide, eT_in 235 (by decide +kernel) rfl, wu_X10⟩
theorem pl_X10_12 : ePL RX10 12 7 0 (.object "NameBenches$Text") true := ⟨_, tyX10, rfl, by decide, eT_in 235 (by decide +kernel) rfl, wu_X10, tyX10_ok, nmX10, rfl, by decide +kernel, fun _ => rfl⟩
theorem fl_X10_19 : eFL RX10 19 7 1 := ⟨_, rfl, by decide, eT_in 236 (by decide +kernel) rfl, wu_X10⟩
theorem pl_X10_19 : ePL RX10 19 7 1 (.object "NameBenches$Registry") true := ⟨_, tyX10, rfl, by decide, eT_in 236 (by decide +kernel) rfl, wu_X10, tyX10_ok, nmX10, rfl, by decide +kernel, fun _ => rfl⟩
theorem fl_X10_23 : eFL RX10 23 7 2 := ⟨_, rfl, by decide, eT_in 237 (by decide +kernel) rfl, wu_X10⟩
theorem pl_X10_23 : ePL RX10 23 7 2 (.object "NameBenches$Registry") true := ⟨_, tyX10, rfl, by decide, eT_in 237 (by decide +kernel) rfl, wu_X10, tyX10_ok, nmX10, rfl, by decide +kernel, fun _ => rfl⟩
theorem fl_X10_29 : eFL RX10 29 7 3 := ⟨_, rfl, by decide, eT_in 238 (by decide +kernel) rfl, wu_X10⟩
theorem pl_X10_29 : ePL RX10 29 7 3 (.object "NameBenches$Past") true := ⟨_, tyX10, rfl, by decide, eT_in 238 (by decide +kernel) rfl, wu_X10, tyX10_ok, nmX10, rfl, by decide +kernel, fun _ => rfl⟩
theorem fl_X10_36 : eFL RX10 36 7 4 := ⟨_, rfl, by decide, eT_in 239 (by decide +kernel) rfl, wu_X10⟩
theorem pl_X10_36 : ePL RX10 36 7 4 (.object "NameBenches$Slots") true := ⟨_, tyX10, rfl, by decide, eT_in 239 (by decide +kernel) rfl, wu_X10, tyX10_ok, nmX10, rfl, by decide +kernel, fun _ => rfl⟩
theorem fl_X10_43 : eFL RX10 43 7 5 := ⟨_, rfl, by decide, eT_in 240 (by decide +kernel) rfl, wu_X10⟩
theorem pl_X10_43 : ePL RX10 43 7 5 (.object "NameBenches$NameSearch") true := ⟨_, tyX10, rfl, by decide, eT_in 240 (by decide +kernel) rfl, wu_X10, tyX10_ok, nmX10, rfl, by decide +kernel, fun _ => rfl⟩
theorem wv_L_193 : Cond.methodLink RL 193 yX10_init ∈ eW := eT_in 22 (by decide +kernel) rfl
theorem lk_L_193 : Cond.methodLink RL 193 yX10_init ∈ eW ∧ Cond.instanceMethod yX10_init ∈ eW ∧ Cond.initialized (yX10_init).cls ∈ eW ∧ Cond.code yX10_init cX10_init 1 none ∈ eW ∧ (yX10_init).name = "<init>" ∧ (yX10_init).cls ≠ "java/lang/invoke/MethodHandle" ∧ (yX10_init).cls ≠ "java/lang/invoke/VarHandle" ∧ (parseMethodDescriptor (yX10_init).desc).map (fun d => d.parameters.length) = some 0 := ⟨wv_L_193, wm_yX10_init, wi_X10, wyX10_init, rfl, by decide +kernel, by decide +kernel, by decide +kernel⟩
theorem wv_X10_3 : Cond.methodLink RX10 3 Lib.objectInit ∈ eW := eT_in 25 (by decide +kernel) rfl
theorem wv_X9_3 : Cond.methodLink RX9 3 Lib.objectInit ∈ eW := eT_in 33 (by decide +kernel) rfl
theorem wv_X10_18 : Cond.methodLink RX10 18 yX5_init ∈ eW := eT_in 60 (by decide +kernel) rfl
theorem lk_X10_18 : Cond.methodLink RX10 18 yX5_init ∈ eW ∧ Cond.instanceMethod yX5_init ∈ eW ∧ Cond.initialized (yX5_init).cls ∈ eW ∧ Cond.code yX5_init cX5_init 2 none ∈ eW ∧ (yX5_init).name = "<init>" ∧ (yX5_init).cls ≠ "java/lang/invoke/MethodHandle" ∧ (yX5_init).cls ≠ "java/lang/invoke/VarHandle" ∧ (parseMethodDescriptor (yX5_init).desc).map (fun d => d.parameters.length) = some 0 := ⟨wv_X10_18, wm_yX5_init, wi_X5, wyX5_init, rfl, by decide +kernel, by decide +kernel, by decide +kernel⟩
theorem wv_X5_3 : Cond.methodLink RX5 3 Lib.objectInit ∈ eW := eT_in 63 (by decide +kernel) rfl
theorem wv_X4_3 : Cond.methodLink RX4 3 Lib.objectInit ∈ eW := eT_in 69 (by decide +kernel) rfl
theorem wv_X2_3 : Cond.methodLink RX2 3 Lib.objectInit ∈ eW := eT_in 106 (by decide +kernel) rfl
theorem wv_X10_28 : Cond.methodLink RX10 28 yX3_init ∈ eW := eT_in 190 (by decide +kernel) rfl
theorem lk_X10_28 : Cond.methodLink RX10 28 yX3_init ∈ eW ∧ Cond.instanceMethod yX3_init ∈ eW ∧ Cond.initialized (yX3_init).cls ∈ eW ∧ Cond.code yX3_init cX3_init 2 none ∈ eW ∧ (yX3_init).name = "<init>" ∧ (yX3_init).cls ≠ "java/lang/invoke/MethodHandle" ∧ (yX3_init).cls ≠ "java/lang/invoke/VarHandle" ∧ (parseMethodDescriptor (yX3_init).desc).map (fun d => d.parameters.length) = some 0 := ⟨wv_X10_28, wm_yX3_init, wi_X3, wyX3_init, rfl, by decide +kernel, by decide +kernel, by decide +kernel⟩
theorem wv_X3_3 : Cond.methodLink RX3 3 Lib.objectInit ∈ eW := eT_in 193 (by decide +kernel) rfl
theorem wv_X3_24 : Cond.methodLink RX3 24 yX5_init ∈ eW := eT_in 196 (by decide +kernel) rfl
theorem lk_X3_24 : Cond.methodLink RX3 24 yX5_init ∈ eW ∧ Cond.instanceMethod yX5_init ∈ eW ∧ Cond.initialized (yX5_init).cls ∈ eW ∧ Cond.code yX5_init cX5_init 2 none ∈ eW ∧ (yX5_init).name = "<init>" ∧ (yX5_init).cls ≠ "java/lang/invoke/MethodHandle" ∧ (yX5_init).cls ≠ "java/lang/invoke/VarHandle" ∧ (parseMethodDescriptor (yX5_init).desc).map (fun d => d.parameters.length) = some 0 := ⟨wv_X3_24, wm_yX5_init, wi_X5, wyX5_init, rfl, by decide +kernel, by decide +kernel, by decide +kernel⟩
theorem wv_X10_35 : Cond.methodLink RX10 35 yX8_init ∈ eW := eT_in 210 (by decide +kernel) rfl
theorem lk_X10_35 : Cond.methodLink RX10 35 yX8_init ∈ eW ∧ Cond.instanceMethod yX8_init ∈ eW ∧ Cond.initialized (yX8_init).cls ∈ eW ∧ Cond.code yX8_init cX8_init 2 none ∈ eW ∧ (yX8_init).name = "<init>" ∧ (yX8_init).cls ≠ "java/lang/invoke/MethodHandle" ∧ (yX8_init).cls ≠ "java/lang/invoke/VarHandle" ∧ (parseMethodDescriptor (yX8_init).desc).map (fun d => d.parameters.length) = some 0 := ⟨wv_X10_35, wm_yX8_init, wi_X8, wyX8_init, rfl, by decide +kernel, by decide +kernel, by decide +kernel⟩
theorem wv_X8_3 : Cond.methodLink RX8 3 Lib.objectInit ∈ eW := eT_in 213 (by decide +kernel) rfl
theorem wv_X8_21 : Cond.methodLink RX8 21 yX5_init ∈ eW := eT_in 215 (by decide +kernel) rfl
theorem lk_X8_21 : Cond.methodLink RX8 21 yX5_init ∈ eW ∧ Cond.instanceMethod yX5_init ∈ eW ∧ Cond.initialized (yX5_init).cls ∈ eW ∧ Cond.code yX5_init cX5_init 2 none ∈ eW ∧ (yX5_init).name = "<init>" ∧ (yX5_init).cls ≠ "java/lang/invoke/MethodHandle" ∧ (yX5_init).cls ≠ "java/lang/invoke/VarHandle" ∧ (parseMethodDescriptor (yX5_init).desc).map (fun d => d.parameters.length) = some 0 := ⟨wv_X8_21, wm_yX5_init, wi_X5, wyX5_init, rfl, by decide +kernel, by decide +kernel, by decide +kernel⟩
theorem wv_X1_3 : Cond.methodLink RX1 3 Lib.objectInit ∈ eW := eT_in 230 (by decide +kernel) rfl
theorem wv_L_194 : Cond.methodLink RL 194 yL_draw ∈ eW := eT_in 254 (by decide +kernel) rfl
theorem lk_L_194 : eLS RL 194 yL_draw (.code yL_draw cL_draw 2 (some .int)) 2 := ⟨wv_L_194, ws_yL_draw, wi_L, wyL_draw, by decide +kernel, by decide +kernel, by decide +kernel⟩
theorem wv_L_213 : Cond.methodLink RL 213 yL_load ∈ eW := eT_in 259 (by decide +kernel) rfl
theorem lk_L_213 : eLS RL 213 yL_load (.codeWith yL_load cL_load 2 (some .long) [(0, 5, 6, 19)]) 1 := ⟨wv_L_213, ws_yL_load, wi_L, wyL_load, by decide +kernel, by decide +kernel, by decide +kernel⟩
theorem wv_L_23 : Cond.methodLink RL 23 yX10_load ∈ eW := eT_in 263 (by decide +kernel) rfl
theorem lk_L_23 : eLV RL 23 RX10 yX10_load (.code yX10_load cX10_load 3 (some .int)) 0 := ⟨wv_L_23, wm_yX10_load, wl_yX10_load, wi_X10, wyX10_load, rfl, by decide +kernel, by decide +kernel, by decide +kernel⟩
theorem wv_X10_67 : Cond.methodLink RX10 67 yX9_firstError ∈ eW := eT_in 267 (by decide +kernel) rfl
theorem lk_X10_67 : eLV RX10 67 RX9 yX9_firstError (.code yX9_firstError cX9_firstError 2 (some .int)) 0 := ⟨wv_X10_67, wm_yX9_firstError, wl_yX9_firstError, wi_X9, wyX9_firstError, rfl, by decide +kernel, by decide +kernel, by decide +kernel⟩
theorem wv_X9_32 : Cond.methodLink RX9 32 yX9_readHead ∈ eW := eT_in 271 (by decide +kernel) rfl
theorem lk_X9_32 : eLV RX9 32 RX9 yX9_readHead (.code yX9_readHead cX9_readHead 1 (some .boolean)) 0 := ⟨wv_X9_32, wm_yX9_readHead, wl_yX9_readHead, wi_X9, wyX9_readHead, rfl, by decide +kernel, by decide +kernel, by decide +kernel⟩
theorem wv_X9_39 : Cond.methodLink RX9 39 yX9_reads ∈ eW := eT_in 275 (by decide +kernel) rfl
theorem lk_X9_39 : eLV RX9 39 RX9 yX9_reads (.code yX9_reads cX9_reads 2 (some .boolean)) 1 := ⟨wv_X9_39, wm_yX9_reads, wl_yX9_reads, wi_X9, wyX9_reads, rfl, by decide +kernel, by decide +kernel, by decide +kernel⟩
theorem wv_X9_43 : Cond.methodLink RX9 43 yX9_here ∈ eW := eT_in 279 (by decide +kernel) rfl
theorem lk_X9_43 : eLV RX9 43 RX9 yX9_here (.code yX9_here cX9_here 1 (some .int)) 0 := ⟨wv_X9_43, wm_yX9_here, wl_yX9_here, wi_X9, wyX9_here, rfl, by decide +kernel, by decide +kernel, by decide +kernel⟩
theorem wv_X9_36 : Cond.methodLink RX9 36 yX9_readCommand ∈ eW := eT_in 283 (by decide +kernel) rfl
theorem lk_X9_36 : eLV RX9 36 RX9 yX9_readCommand (.code yX9_readCommand cX9_readCommand 1 (some .boolean)) 0 := ⟨wv_X9_36, wm_yX9_readCommand, wl_yX9_readCommand, wi_X9, wyX9_readCommand, rfl, by decide +kernel, by decide +kernel, by decide +kernel⟩
theorem wv_X9_47 : Cond.methodLink RX9 47 yX9_readsPair ∈ eW := eT_in 287 (by decide +kernel) rfl
theorem lk_X9_47 : eLV RX9 47 RX9 yX9_readsPair (.code yX9_readsPair cX9_readsPair 4 (some .boolean)) 1 := ⟨wv_X9_47, wm_yX9_readsPair, wl_yX9_readsPair, wi_X9, wyX9_readsPair, rfl, by decide +kernel, by decide +kernel, by decide +kernel⟩
theorem wv_X9_57 : Cond.methodLink RX9 57 yX9_takeDigit ∈ eW := eT_in 291 (by decide +kernel) rfl
theorem lk_X9_57 : eLV RX9 57 RX9 yX9_takeDigit (.code yX9_takeDigit cX9_takeDigit 4 (some .int)) 2 := ⟨wv_X9_57, wm_yX9_takeDigit, wl_yX9_takeDigit, wi_X9, wyX9_takeDigit, rfl, by decide +kernel, by decide +kernel, by decide +kernel⟩
theorem wv_X9_61 : Cond.methodLink RX9 61 yX9_tells ∈ eW := eT_in 295 (by decide +kernel) rfl
theorem lk_X9_61 : eLV RX9 61 RX9 yX9_tells (.code yX9_tells cX9_tells 2 (some .boolean)) 1 := ⟨wv_X9_61, wm_yX9_tells, wl_yX9_tells, wi_X9, wyX9_tells, rfl, by decide +kernel, by decide +kernel, by decide +kernel⟩
theorem wv_X9_50 : Cond.methodLink RX9 50 yX9_readsDigit ∈ eW := eT_in 299 (by decide +kernel) rfl
theorem lk_X9_50 : eLV RX9 50 RX9 yX9_readsDigit (.code yX9_readsDigit cX9_readsDigit 4 (some .boolean)) 2 := ⟨wv_X9_50, wm_yX9_readsDigit, wl_yX9_readsDigit, wi_X9, wyX9_readsDigit, rfl, by decide +kernel, by decide +kernel, by decide +kernel⟩
theorem wv_X9_54 : Cond.methodLink RX9 54 yX9_readsLetters ∈ eW := eT_in 303 (by decide +kernel) rfl
theorem lk_X9_54 : eLV RX9 54 RX9 yX9_readsLetters (.code yX9_readsLetters cX9_readsLetters 4 (some .boolean)) 0 := ⟨wv_X9_54, wm_yX9_readsLetters, wl_yX9_readsLetters, wi_X9, wyX9_readsLetters, rfl, by decide +kernel, by decide +kernel, by decide +kernel⟩
theorem wv_X10_73 : Cond.methodLink RX10 73 yX5_empty ∈ eW := eT_in 375 (by decide +kernel) rfl
theorem lk_X10_73 : eLV RX10 73 RX5 yX5_empty (.code yX5_empty cX5_empty 2 none) 0 := ⟨wv_X10_73, wm_yX5_empty, wl_yX5_empty, wi_X5, wyX5_empty, rfl, by decide +kernel, by decide +kernel, by decide +kernel⟩
theorem wv_X10_76 : Cond.methodLink RX10 76 yX3_forgetAll ∈ eW := eT_in 379 (by decide +kernel) rfl
theorem lk_X10_76 : eLV RX10 76 RX3 yX3_forgetAll (.code yX3_forgetAll cX3_forgetAll 1 none) 0 := ⟨wv_X10_76, wm_yX3_forgetAll, wl_yX3_forgetAll, wi_X3, wyX3_forgetAll, rfl, by decide +kernel, by decide +kernel, by decide +kernel⟩
theorem wv_X10_79 : Cond.methodLink RX10 79 yX8_forgetAll ∈ eW := eT_in 383 (by decide +kernel) rfl
theorem lk_X10_79 : eLV RX10 79 RX8 yX8_forgetAll (.code yX8_forgetAll cX8_forgetAll 2 none) 0 := ⟨wv_X10_79, wm_yX8_forgetAll, wl_yX8_forgetAll, wi_X8, wyX8_forgetAll, rfl, by decide +kernel, by decide +kernel, by decide +kernel⟩
theorem wv_X10_80 : Cond.methodLink RX10 80 yX9_readHead ∈ eW := eT_in 387 (by decide +kernel) rfl
theorem lk_X10_80 : eLV RX10 80 RX9 yX9_readHead (.code yX9_readHead cX9_readHead 1 (some .boolean)) 0 := ⟨wv_X10_80, wm_yX9_readHead, wl_yX9_readHead, wi_X9, wyX9_readHead, rfl, by decide +kernel, by decide +kernel, by decide +kernel⟩
theorem wv_X10_84 : Cond.methodLink RX10 84 yX9_readCommand ∈ eW := eT_in 388 (by decide +kernel) rfl
theorem lk_X10_84 : eLV RX10 84 RX9 yX9_readCommand (.code yX9_readCommand cX9_readCommand 1 (some .boolean)) 0 := ⟨wv_X10_84, wm_yX9_readCommand, wl_yX9_readCommand, wi_X9, wyX9_readCommand, rfl, by decide +kernel, by decide +kernel, by decide +kernel⟩
theorem wv_X10_87 : Cond.methodLink RX10 87 yX5_obeys ∈ eW := eT_in 389 (by decide +kernel) rfl
theorem lk_X10_87 : eLV RX10 87 RX5 yX5_obeys (.code yX5_obeys cX5_obeys 3 (some .boolean)) 1 := ⟨wv_X10_87, wm_yX5_obeys, wl_yX5_obeys, wi_X5, wyX5_obeys, rfl, by decide +kernel, by decide +kernel, by decide +kernel⟩
theorem wv_X5_208 : Cond.methodLink RX5 208 yX5_triesPerson ∈ eW := eT_in 393 (by decide +kernel) rfl
theorem lk_X5_208 : eLV RX5 208 RX5 yX5_triesPerson (.code yX5_triesPerson cX5_triesPerson 4 (some .boolean)) 3 := ⟨wv_X5_208, wm_yX5_triesPerson, wl_yX5_triesPerson, wi_X5, wyX5_triesPerson, rfl, by decide +kernel, by decide +kernel, by decide +kernel⟩
theorem wv_X5_187 : Cond.methodLink RX5 187 yX4_isFull ∈ eW := eT_in 406 (by decide +kernel) rfl
theorem lk_X5_187 : eLV RX5 187 RX4 yX4_isFull (.code yX4_isFull cX4_isFull 1 (some .boolean)) 0 := ⟨wv_X5_187, wm_yX4_isFull, wl_yX4_isFull, wi_X4, wyX4_isFull, rfl, by decide +kernel, by decide +kernel, by decide +kernel⟩
theorem wv_X5_188 : Cond.methodLink RX5 188 yX4_add ∈ eW := eT_in 410 (by decide +kernel) rfl
theorem lk_X5_188 : eLV RX5 188 RX4 yX4_add (.code yX4_add cX4_add 4 none) 3 := ⟨wv_X5_188, wm_yX4_add, wl_yX4_add, wi_X4, wyX4_add, rfl, by decide +kernel, by decide +kernel, by decide +kernel⟩
theorem wv_X4_37 : Cond.methodLink RX4 37 yX4_isFull ∈ eW := eT_in 414 (by decide +kernel) rfl
theorem lk_X4_37 : eLV RX4 37 RX4 yX4_isFull (.code yX4_isFull cX4_isFull 1 (some .boolean)) 0 := ⟨wv_X4_37, wm_yX4_isFull, wl_yX4_isFull, wi_X4, wyX4_isFull, rfl, by decide +kernel, by decide +kernel, by decide +kernel⟩
theorem wv_X5_211 : Cond.methodLink RX5 211 yX5_triesGiving ∈ eW := eT_in 415 (by decide +kernel) rfl
theorem lk_X5_211 : eLV RX5 211 RX5 yX5_triesGiving (.code yX5_triesGiving cX5_triesGiving 5 (some .boolean)) 4 := ⟨wv_X5_211, wm_yX5_triesGiving, wl_yX5_triesGiving, wi_X5, wyX5_triesGiving, rfl, by decide +kernel, by decide +kernel, by decide +kernel⟩
theorem wv_X5_128 : Cond.methodLink RX5 128 yX4_has ∈ eW := eT_in 419 (by decide +kernel) rfl
theorem lk_X5_128 : eLV RX5 128 RX4 yX4_has (.code yX4_has cX4_has 2 (some .boolean)) 1 := ⟨wv_X5_128, wm_yX4_has, wl_yX4_has, wi_X4, wyX4_has, rfl, by decide +kernel, by decide +kernel, by decide +kernel⟩
theorem wv_X5_112 : Cond.methodLink RX5 112 yX0_isCode ∈ eW := eT_in 423 (by decide +kernel) rfl
theorem lk_X5_112 : eLS RX5 112 yX0_isCode (.code yX0_isCode cX0_isCode 2 (some .boolean)) 2 := ⟨wv_X5_112, ws_yX0_isCode, wi_X0, wyX0_isCode, by decide +kernel, by decide +kernel, by decide +kernel⟩
theorem wv_X0_9 : Cond.methodLink RX0 9 yX0_codes ∈ eW := eT_in 426 (by decide +kernel) rfl
theorem lk_X0_9 : eLS RX0 9 yX0_codes (.code yX0_codes cX0_codes 3 (some .int)) 1 := ⟨wv_X0_9, ws_yX0_codes, wi_X0, wyX0_codes, by decide +kernel, by decide +kernel, by decide +kernel⟩
theorem wv_X5_193 : Cond.methodLink RX5 193 yX5_reasonAgainst ∈ eW := eT_in 429 (by decide +kernel) rfl
theorem lk_X5_193 : eLV RX5 193 RX5 yX5_reasonAgainst (.code yX5_reasonAgainst cX5_reasonAgainst 6 (some .int)) 4 := ⟨wv_X5_193, wm_yX5_reasonAgainst, wl_yX5_reasonAgainst, wi_X5, wyX5_reasonAgainst, rfl, by decide +kernel, by decide +kernel, by decide +kernel⟩
theorem wv_X5_59 : Cond.methodLink RX5 59 yX5_reasonAgainstAnyName ∈ eW := eT_in 433 (by decide +kernel) rfl
theorem lk_X5_59 : eLV RX5 59 RX5 yX5_reasonAgainstAnyName (.code yX5_reasonAgainstAnyName cX5_reasonAgainstAnyName 3 (some .int)) 2 := ⟨wv_X5_59, wm_yX5_reasonAgainstAnyName, wl_yX5_reasonAgainstAnyName, wi_X5, wyX5_reasonAgainstAnyName, rfl, by decide +kernel, by decide +kernel, by decide +kernel⟩
theorem wv_X5_74 : Cond.methodLink RX5 74 yX4_areBrothers ∈ eW := eT_in 437 (by decide +kernel) rfl
theorem lk_X5_74 : eLV RX5 74 RX4 yX4_areBrothers (.code yX4_areBrothers cX4_areBrothers 3 (some .boolean)) 2 := ⟨wv_X5_74, wm_yX4_areBrothers, wl_yX4_areBrothers, wi_X4, wyX4_areBrothers, rfl, by decide +kernel, by decide +kernel, by decide +kernel⟩
theorem wv_X5_78 : Cond.methodLink RX5 78 yX2_aliveOf ∈ eW := eT_in 441 (by decide +kernel) rfl
theorem lk_X5_78 : eLV RX5 78 RX2 yX2_aliveOf (.code yX2_aliveOf cX2_aliveOf 4 (some .int)) 1 := ⟨wv_X5_78, wm_yX2_aliveOf, wl_yX2_aliveOf, wi_X2, wyX2_aliveOf, rfl, by decide +kernel, by decide +kernel, by decide +kernel⟩
theorem wv_X5_66 : Cond.methodLink RX5 66 yX5_isTaken ∈ eW := eT_in 445 (by decide +kernel) rfl
theorem lk_X5_66 : eLV RX5 66 RX5 yX5_isTaken (.code yX5_isTaken cX5_isTaken 7 (some .boolean)) 4 := ⟨wv_X5_66, wm_yX5_isTaken, wl_yX5_isTaken, wi_X5, wyX5_isTaken, rfl, by decide +kernel, by decide +kernel, by decide +kernel⟩
theorem wv_X5_85 : Cond.methodLink RX5 85 yX2_isAliveAs ∈ eW := eT_in 449 (by decide +kernel) rfl
theorem lk_X5_85 : eLV RX5 85 RX2 yX2_isAliveAs (.code yX2_isAliveAs cX2_isAliveAs 4 (some .boolean)) 3 := ⟨wv_X5_85, wm_yX2_isAliveAs, wl_yX2_isAliveAs, wi_X2, wyX2_isAliveAs, rfl, by decide +kernel, by decide +kernel, by decide +kernel⟩
theorem wv_X5_70 : Cond.methodLink RX5 70 yX2_isFull ∈ eW := eT_in 453 (by decide +kernel) rfl
theorem lk_X5_70 : eLV RX5 70 RX2 yX2_isFull (.code yX2_isFull cX2_isFull 1 (some .boolean)) 0 := ⟨wv_X5_70, wm_yX2_isFull, wl_yX2_isFull, wi_X2, wyX2_isFull, rfl, by decide +kernel, by decide +kernel, by decide +kernel⟩
theorem wv_X5_166 : Cond.methodLink RX5 166 yX2_add ∈ eW := eT_in 457 (by decide +kernel) rfl
theorem lk_X5_166 : eLV RX5 166 RX2 yX2_add (.code yX2_add cX2_add 6 none) 5 := ⟨wv_X5_166, wm_yX2_add, wl_yX2_add, wi_X2, wyX2_add, rfl, by decide +kernel, by decide +kernel, by decide +kernel⟩
theorem wv_X2_47 : Cond.methodLink RX2 47 yX2_isFull ∈ eW := eT_in 461 (by decide +kernel) rfl
theorem lk_X2_47 : eLV RX2 47 RX2 yX2_isFull (.code yX2_isFull cX2_isFull 1 (some .boolean)) 0 := ⟨wv_X2_47, wm_yX2_isFull, wl_yX2_isFull, wi_X2, wyX2_isFull, rfl, by decide +kernel, by decide +kernel, by decide +kernel⟩
theorem wv_X5_214 : Cond.methodLink RX5 214 yX5_callFor ∈ eW := eT_in 462 (by decide +kernel) rfl
theorem lk_X5_214 : eLV RX5 214 RX5 yX5_callFor (.code yX5_callFor cX5_callFor 6 (some .int)) 3 := ⟨wv_X5_214, wm_yX5_callFor, wl_yX5_callFor, wi_X5, wyX5_callFor, rfl, by decide +kernel, by decide +kernel, by decide +kernel⟩
theorem wv_X5_117 : Cond.methodLink RX5 117 yX5_meantByPeople ∈ eW := eT_in 466 (by decide +kernel) rfl
theorem lk_X5_117 : eLV RX5 117 RX5 yX5_meantByPeople (.code yX5_meantByPeople cX5_meantByPeople 5 (some .int)) 3 := ⟨wv_X5_117, wm_yX5_meantByPeople, wl_yX5_meantByPeople, wi_X5, wyX5_meantByPeople, rfl, by decide +kernel, by decide +kernel, by decide +kernel⟩
theorem wv_X5_99 : Cond.methodLink RX5 99 yX2_aliveNameOf ∈ eW := eT_in 470 (by decide +kernel) rfl
theorem lk_X5_99 : eLV RX5 99 RX2 yX2_aliveNameOf (.code yX2_aliveNameOf cX2_aliveNameOf 5 (some .int)) 3 := ⟨wv_X5_99, wm_yX2_aliveNameOf, wl_yX2_aliveNameOf, wi_X2, wyX2_aliveNameOf, rfl, by decide +kernel, by decide +kernel, by decide +kernel⟩
theorem wv_X2_51 : Cond.methodLink RX2 51 yX2_isAliveAs ∈ eW := eT_in 474 (by decide +kernel) rfl
theorem lk_X2_51 : eLV RX2 51 RX2 yX2_isAliveAs (.code yX2_isAliveAs cX2_isAliveAs 4 (some .boolean)) 3 := ⟨wv_X2_51, wm_yX2_isAliveAs, wl_yX2_isAliveAs, wi_X2, wyX2_isAliveAs, rfl, by decide +kernel, by decide +kernel, by decide +kernel⟩
theorem wv_X5_103 : Cond.methodLink RX5 103 yX5_firstBrotherNamed ∈ eW := eT_in 475 (by decide +kernel) rfl
theorem lk_X5_103 : eLV RX5 103 RX5 yX5_firstBrotherNamed (.code yX5_firstBrotherNamed cX5_firstBrotherNamed 5 (some .int)) 3 := ⟨wv_X5_103, wm_yX5_firstBrotherNamed, wl_yX5_firstBrotherNamed, wi_X5, wyX5_firstBrotherNamed, rfl, by decide +kernel, by decide +kernel, by decide +kernel⟩
theorem wv_X5_120 : Cond.methodLink RX5 120 yX2_use ∈ eW := eT_in 479 (by decide +kernel) rfl
theorem lk_X5_120 : eLV RX5 120 RX2 yX2_use (.code yX2_use cX2_use 4 none) 3 := ⟨wv_X5_120, wm_yX2_use, wl_yX2_use, wi_X2, wyX2_use, rfl, by decide +kernel, by decide +kernel, by decide +kernel⟩
theorem wv_X5_124 : Cond.methodLink RX5 124 yX5_mixUp ∈ eW := eT_in 483 (by decide +kernel) rfl
theorem lk_X5_124 : eLV RX5 124 RX5 yX5_mixUp (.code yX5_mixUp cX5_mixUp 3 none) 2 := ⟨wv_X5_124, wm_yX5_mixUp, wl_yX5_mixUp, wi_X5, wyX5_mixUp, rfl, by decide +kernel, by decide +kernel, by decide +kernel⟩
theorem wv_X5_217 : Cond.methodLink RX5 217 yX5_passYears ∈ eW := eT_in 487 (by decide +kernel) rfl
theorem lk_X5_217 : eLV RX5 217 RX5 yX5_passYears (.code yX5_passYears cX5_passYears 4 (some .int)) 1 := ⟨wv_X5_217, wm_yX5_passYears, wl_yX5_passYears, wi_X5, wyX5_passYears, rfl, by decide +kernel, by decide +kernel, by decide +kernel⟩
theorem wv_X5_140 : Cond.methodLink RX5 140 yX4_growOlder ∈ eW := eT_in 494 (by decide +kernel) rfl
theorem lk_X5_140 : eLV RX5 140 RX4 yX4_growOlder (.code yX4_growOlder cX4_growOlder 2 none) 0 := ⟨wv_X5_140, wm_yX4_growOlder, wl_yX4_growOlder, wi_X4, wyX4_growOlder, rfl, by decide +kernel, by decide +kernel, by decide +kernel⟩
theorem wv_X5_143 : Cond.methodLink RX5 143 yX5_endNames ∈ eW := eT_in 498 (by decide +kernel) rfl
theorem lk_X5_143 : eLV RX5 143 RX5 yX5_endNames (.code yX5_endNames cX5_endNames 4 (some .int)) 0 := ⟨wv_X5_143, wm_yX5_endNames, wl_yX5_endNames, wi_X5, wyX5_endNames, rfl, by decide +kernel, by decide +kernel, by decide +kernel⟩
theorem wv_X5_89 : Cond.methodLink RX5 89 yX2_isAlive ∈ eW := eT_in 502 (by decide +kernel) rfl
theorem lk_X5_89 : eLV RX5 89 RX2 yX2_isAlive (.code yX2_isAlive cX2_isAlive 2 (some .boolean)) 1 := ⟨wv_X5_89, wm_yX2_isAlive, wl_yX2_isAlive, wi_X2, wyX2_isAlive, rfl, by decide +kernel, by decide +kernel, by decide +kernel⟩
theorem wv_X5_156 : Cond.methodLink RX5 156 yX5_oldestFor ∈ eW := eT_in 506 (by decide +kernel) rfl
theorem lk_X5_156 : eLV RX5 156 RX5 yX5_oldestFor (.code yX5_oldestFor cX5_oldestFor 2 (some .int)) 1 := ⟨wv_X5_156, wm_yX5_oldestFor, wl_yX5_oldestFor, wi_X5, wyX5_oldestFor, rfl, by decide +kernel, by decide +kernel, by decide +kernel⟩
theorem wv_X5_159 : Cond.methodLink RX5 159 yX5_outgrow ∈ eW := eT_in 510 (by decide +kernel) rfl
theorem lk_X5_159 : eLV RX5 159 RX5 yX5_outgrow (.code yX5_outgrow cX5_outgrow 4 none) 1 := ⟨wv_X5_159, wm_yX5_outgrow, wl_yX5_outgrow, wi_X5, wyX5_outgrow, rfl, by decide +kernel, by decide +kernel, by decide +kernel⟩
theorem wv_X5_163 : Cond.methodLink RX5 163 yX5_heirOf ∈ eW := eT_in 514 (by decide +kernel) rfl
theorem lk_X5_163 : eLV RX5 163 RX5 yX5_heirOf (.code yX5_heirOf cX5_heirOf 5 (some .int)) 1 := ⟨wv_X5_163, wm_yX5_heirOf, wl_yX5_heirOf, wi_X5, wyX5_heirOf, rfl, by decide +kernel, by decide +kernel, by decide +kernel⟩
theorem wv_X5_170 : Cond.methodLink RX5 170 yX4_isYoungerBeside ∈ eW := eT_in 518 (by decide +kernel) rfl
theorem lk_X5_170 : eLV RX5 170 RX4 yX4_isYoungerBeside (.code yX4_isYoungerBeside cX4_isYoungerBeside 3 (some .boolean)) 2 := ⟨wv_X5_170, wm_yX4_isYoungerBeside, wl_yX4_isYoungerBeside, wi_X4, wyX4_isYoungerBeside, rfl, by decide +kernel, by decide +kernel, by decide +kernel⟩
theorem wv_X5_220 : Cond.methodLink RX5 220 yX5_triesSitting ∈ eW := eT_in 522 (by decide +kernel) rfl
theorem lk_X5_220 : eLV RX5 220 RX5 yX5_triesSitting (.code yX5_triesSitting cX5_triesSitting 3 (some .boolean)) 2 := ⟨wv_X5_220, wm_yX5_triesSitting, wl_yX5_triesSitting, wi_X5, wyX5_triesSitting, rfl, by decide +kernel, by decide +kernel, by decide +kernel⟩
theorem wv_X5_190 : Cond.methodLink RX5 190 yX5_isKeptFrom ∈ eW := eT_in 526 (by decide +kernel) rfl
theorem lk_X5_190 : eLV RX5 190 RX5 yX5_isKeptFrom (.code yX5_isKeptFrom cX5_isKeptFrom 4 (some .boolean)) 2 := ⟨wv_X5_190, wm_yX5_isKeptFrom, wl_yX5_isKeptFrom, wi_X5, wyX5_isKeptFrom, rfl, by decide +kernel, by decide +kernel, by decide +kernel⟩
theorem wv_X5_223 : Cond.methodLink RX5 223 yX5_triesSetting ∈ eW := eT_in 530 (by decide +kernel) rfl
theorem lk_X5_223 : eLV RX5 223 RX5 yX5_triesSetting (.code yX5_triesSetting cX5_triesSetting 3 (some .boolean)) 2 := ⟨wv_X5_223, wm_yX5_triesSetting, wl_yX5_triesSetting, wi_X5, wyX5_triesSetting, rfl, by decide +kernel, by decide +kernel, by decide +kernel⟩
theorem wv_L_149 : Cond.methodLink RL 149 yL_save ∈ eW := eT_in 538 (by decide +kernel) rfl
theorem lk_L_149 : eLS RL 149 yL_save (.codeWith yL_save cL_save 3 (some .long) [(0, 6, 7, 34)]) 2 := ⟨wv_L_149, ws_yL_save, wi_L, wyL_save, by decide +kernel, by decide +kernel, by decide +kernel⟩
theorem wv_L_90 : Cond.methodLink RL 90 yX10_save ∈ eW := eT_in 542 (by decide +kernel) rfl
theorem lk_L_90 : eLV RL 90 RX10 yX10_save (.code yX10_save cX10_save 2 (some .int)) 1 := ⟨wv_L_90, wm_yX10_save, wl_yX10_save, wi_X10, wyX10_save, rfl, by decide +kernel, by decide +kernel, by decide +kernel⟩
theorem wv_X10_335 : Cond.methodLink RX10 335 yX10_requireSlot ∈ eW := eT_in 546 (by decide +kernel) rfl
theorem lk_X10_335 : eLS RX10 335 yX10_requireSlot (.code yX10_requireSlot cX10_requireSlot 1 none) 1 := ⟨wv_X10_335, ws_yX10_requireSlot, wi_X10, wyX10_requireSlot, by decide +kernel, by decide +kernel, by decide +kernel⟩
theorem wv_X10_309 : Cond.methodLink RX10 309 yX5_copyFrom ∈ eW := eT_in 565 (by decide +kernel) rfl
theorem lk_X10_309 : eLV RX10 309 RX5 yX5_copyFrom (.code yX5_copyFrom cX5_copyFrom 2 none) 1 := ⟨wv_X10_309, wm_yX5_copyFrom, wl_yX5_copyFrom, wi_X5, wyX5_copyFrom, rfl, by decide +kernel, by decide +kernel, by decide +kernel⟩
theorem wv_X5_46 : Cond.methodLink RX5 46 yX4_copyFrom ∈ eW := eT_in 569 (by decide +kernel) rfl
theorem lk_X5_46 : eLV RX5 46 RX4 yX4_copyFrom (.code yX4_copyFrom cX4_copyFrom 2 none) 1 := ⟨wv_X5_46, wm_yX4_copyFrom, wl_yX4_copyFrom, wi_X4, wyX4_copyFrom, rfl, by decide +kernel, by decide +kernel, by decide +kernel⟩
theorem wv_X4_31 : Cond.methodLink RX4 31 arraycopyName ∈ eW := eT_in 573 (by decide +kernel) rfl
theorem wv_X5_50 : Cond.methodLink RX5 50 yX2_copyFrom ∈ eW := eT_in 576 (by decide +kernel) rfl
theorem lk_X5_50 : eLV RX5 50 RX2 yX2_copyFrom (.code yX2_copyFrom cX2_copyFrom 2 none) 1 := ⟨wv_X5_50, wm_yX2_copyFrom, wl_yX2_copyFrom, wi_X2, wyX2_copyFrom, rfl, by decide +kernel, by decide +kernel, by decide +kernel⟩
theorem wv_X2_41 : Cond.methodLink RX2 41 arraycopyName ∈ eW := eT_in 580 (by decide +kernel) rfl
theorem wv_X5_53 : Cond.methodLink RX5 53 arraycopyName ∈ eW := eT_in 581 (by decide +kernel) rfl
theorem wv_L_151 : Cond.methodLink RL 151 yL_restore ∈ eW := eT_in 583 (by decide +kernel) rfl
theorem lk_L_151 : eLS RL 151 yL_restore (.codeWith yL_restore cL_restore 3 (some .long) [(0, 6, 7, 34), (0, 6, 12, 19)]) 2 := ⟨wv_L_151, ws_yL_restore, wi_L, wyL_restore, by decide +kernel, by decide +kernel, by decide +kernel⟩
theorem wv_L_93 : Cond.methodLink RL 93 yX10_restore ∈ eW := eT_in 586 (by decide +kernel) rfl
theorem lk_L_93 : eLV RL 93 RX10 yX10_restore (.code yX10_restore cX10_restore 2 (some .int)) 1 := ⟨wv_L_93, wm_yX10_restore, wl_yX10_restore, wi_X10, wyX10_restore, rfl, by decide +kernel, by decide +kernel, by decide +kernel⟩
theorem wv_L_202 : Cond.methodLink RL 202 yL_errors ∈ eW := eT_in 591 (by decide +kernel) rfl
theorem lk_L_202 : eLS RL 202 yL_errors (.code yL_errors cL_errors 6 (some .boolean)) 1 := ⟨wv_L_202, ws_yL_errors, wi_L, wyL_errors, by decide +kernel, by decide +kernel, by decide +kernel⟩
theorem wv_L_110 : Cond.methodLink RL 110 yL_now ∈ eW := eT_in 594 (by decide +kernel) rfl
theorem lk_L_110 : eLS RL 110 yL_now (.code yL_now cL_now 5 (some .long)) 1 := ⟨wv_L_110, ws_yL_now, wi_L, wyL_now, by decide +kernel, by decide +kernel, by decide +kernel⟩
theorem wv_L_100 : Cond.methodLink RL 100 yL_about ∈ eW := eT_in 599 (by decide +kernel) rfl
theorem lk_L_100 : eLS RL 100 yL_about (.codeWith yL_about cL_about 3 (some .long) [(0, 6, 7, 15)]) 2 := ⟨wv_L_100, ws_yL_about, wi_L, wyL_about, by decide +kernel, by decide +kernel, by decide +kernel⟩
theorem wv_L_27 : Cond.methodLink RL 27 yX10_about ∈ eW := eT_in 603 (by decide +kernel) rfl
theorem lk_L_27 : eLV RL 27 RX10 yX10_about (.code yX10_about cX10_about 2 (some .int)) 1 := ⟨wv_L_27, wm_yX10_about, wl_yX10_about, wi_X10, wyX10_about, rfl, by decide +kernel, by decide +kernel, by decide +kernel⟩
theorem wv_X10_107 : Cond.methodLink RX10 107 yX2_inState ∈ eW := eT_in 607 (by decide +kernel) rfl
theorem lk_X10_107 : eLV RX10 107 RX2 yX2_inState (.code yX2_inState cX2_inState 4 (some .int)) 1 := ⟨wv_X10_107, wm_yX2_inState, wl_yX2_inState, wi_X2, wyX2_inState, rfl, by decide +kernel, by decide +kernel, by decide +kernel⟩
theorem wv_X10_114 : Cond.methodLink RX10 114 yX2_usesTogether ∈ eW := eT_in 611 (by decide +kernel) rfl
theorem lk_X10_114 : eLV RX10 114 RX2 yX2_usesTogether (.code yX2_usesTogether cX2_usesTogether 3 (some .int)) 0 := ⟨wv_X10_114, wm_yX2_usesTogether, wl_yX2_usesTogether, wi_X2, wyX2_usesTogether, rfl, by decide +kernel, by decide +kernel, by decide +kernel⟩
theorem wv_L_105 : Cond.methodLink RL 105 yL_personOf ∈ eW := eT_in 632 (by decide +kernel) rfl
theorem lk_L_105 : eLS RL 105 yL_personOf (.codeWith yL_personOf cL_personOf 4 (some .long) [(0, 7, 8, 34), (0, 7, 13, 15)]) 3 := ⟨wv_L_105, ws_yL_personOf, wi_L, wyL_personOf, by decide +kernel, by decide +kernel, by decide +kernel⟩
theorem wv_L_30 : Cond.methodLink RL 30 yX10_personOf ∈ eW := eT_in 635 (by decide +kernel) rfl
theorem lk_L_30 : eLV RL 30 RX10 yX10_personOf (.code yX10_personOf cX10_personOf 3 (some .int)) 2 := ⟨wv_L_30, wm_yX10_personOf, wl_yX10_personOf, wi_X10, wyX10_personOf, rfl, by decide +kernel, by decide +kernel, by decide +kernel⟩
theorem wv_X10_132 : Cond.methodLink RX10 132 yX10_requirePerson ∈ eW := eT_in 639 (by decide +kernel) rfl
theorem lk_X10_132 : eLV RX10 132 RX10 yX10_requirePerson (.code yX10_requirePerson cX10_requirePerson 2 none) 1 := ⟨wv_X10_132, wm_yX10_requirePerson, wl_yX10_requirePerson, wi_X10, wyX10_requirePerson, rfl, by decide +kernel, by decide +kernel, by decide +kernel⟩
theorem wv_X10_347 : Cond.methodLink RX10 347 yX4_has ∈ eW := eT_in 643 (by decide +kernel) rfl
theorem lk_X10_347 : eLV RX10 347 RX4 yX4_has (.code yX4_has cX4_has 2 (some .boolean)) 1 := ⟨wv_X10_347, wm_yX4_has, wl_yX4_has, wi_X4, wyX4_has, rfl, by decide +kernel, by decide +kernel, by decide +kernel⟩
theorem wv_X10_145 : Cond.methodLink RX10 145 yX2_aliveOf ∈ eW := eT_in 645 (by decide +kernel) rfl
theorem lk_X10_145 : eLV RX10 145 RX2 yX2_aliveOf (.code yX2_aliveOf cX2_aliveOf 4 (some .int)) 1 := ⟨wv_X10_145, wm_yX2_aliveOf, wl_yX2_aliveOf, wi_X2, wyX2_aliveOf, rfl, by decide +kernel, by decide +kernel, by decide +kernel⟩
theorem wv_X10_148 : Cond.methodLink RX10 148 yX4_brothersOf ∈ eW := eT_in 646 (by decide +kernel) rfl
theorem lk_X10_148 : eLV RX10 148 RX4 yX4_brothersOf (.code yX4_brothersOf cX4_brothersOf 4 (some .int)) 1 := ⟨wv_X10_148, wm_yX4_brothersOf, wl_yX4_brothersOf, wi_X4, wyX4_brothersOf, rfl, by decide +kernel, by decide +kernel, by decide +kernel⟩
theorem wv_X4_41 : Cond.methodLink RX4 41 yX4_areBrothers ∈ eW := eT_in 650 (by decide +kernel) rfl
theorem lk_X4_41 : eLV RX4 41 RX4 yX4_areBrothers (.code yX4_areBrothers cX4_areBrothers 3 (some .boolean)) 2 := ⟨wv_X4_41, wm_yX4_areBrothers, wl_yX4_areBrothers, wi_X4, wyX4_areBrothers, rfl, by decide +kernel, by decide +kernel, by decide +kernel⟩
theorem wv_X10_151 : Cond.methodLink RX10 151 yX2_givenBy ∈ eW := eT_in 651 (by decide +kernel) rfl
theorem lk_X10_151 : eLV RX10 151 RX2 yX2_givenBy (.code yX2_givenBy cX2_givenBy 4 (some .int)) 1 := ⟨wv_X10_151, wm_yX2_givenBy, wl_yX2_givenBy, wi_X2, wyX2_givenBy, rfl, by decide +kernel, by decide +kernel, by decide +kernel⟩
theorem wv_X10_154 : Cond.methodLink RX10 154 yX2_stuckGivenBy ∈ eW := eT_in 655 (by decide +kernel) rfl
theorem lk_X10_154 : eLV RX10 154 RX2 yX2_stuckGivenBy (.code yX2_stuckGivenBy cX2_stuckGivenBy 4 (some .int)) 1 := ⟨wv_X10_154, wm_yX2_stuckGivenBy, wl_yX2_stuckGivenBy, wi_X2, wyX2_stuckGivenBy, rfl, by decide +kernel, by decide +kernel, by decide +kernel⟩
theorem wv_L_108 : Cond.methodLink RL 108 yL_nameOf ∈ eW := eT_in 660 (by decide +kernel) rfl
theorem lk_L_108 : eLS RL 108 yL_nameOf (.codeWith yL_nameOf cL_nameOf 4 (some .long) [(0, 7, 8, 34), (0, 7, 13, 15)]) 3 := ⟨wv_L_108, ws_yL_nameOf, wi_L, wyL_nameOf, by decide +kernel, by decide +kernel, by decide +kernel⟩
theorem wv_L_38 : Cond.methodLink RL 38 yX10_nameOf ∈ eW := eT_in 663 (by decide +kernel) rfl
theorem lk_L_38 : eLV RL 38 RX10 yX10_nameOf (.code yX10_nameOf cX10_nameOf 3 (some .int)) 2 := ⟨wv_L_38, wm_yX10_nameOf, wl_yX10_nameOf, wi_X10, wyX10_nameOf, rfl, by decide +kernel, by decide +kernel, by decide +kernel⟩
theorem wv_X10_165 : Cond.methodLink RX10 165 yX10_requireName ∈ eW := eT_in 667 (by decide +kernel) rfl
theorem lk_X10_165 : eLV RX10 165 RX10 yX10_requireName (.code yX10_requireName cX10_requireName 2 none) 1 := ⟨wv_X10_165, wm_yX10_requireName, wl_yX10_requireName, wi_X10, wyX10_requireName, rfl, by decide +kernel, by decide +kernel, by decide +kernel⟩
theorem wv_X10_352 : Cond.methodLink RX10 352 yX2_has ∈ eW := eT_in 671 (by decide +kernel) rfl
theorem lk_X10_352 : eLV RX10 352 RX2 yX2_has (.code yX2_has cX2_has 2 (some .boolean)) 1 := ⟨wv_X10_352, wm_yX2_has, wl_yX2_has, wi_X2, wyX2_has, rfl, by decide +kernel, by decide +kernel, by decide +kernel⟩
theorem wv_L_114 : Cond.methodLink RL 114 yL_letter ∈ eW := eT_in 677 (by decide +kernel) rfl
theorem lk_L_114 : eLS RL 114 yL_letter (.codeWith yL_letter cL_letter 4 (some .long) [(0, 7, 8, 34)]) 3 := ⟨wv_L_114, ws_yL_letter, wi_L, wyL_letter, by decide +kernel, by decide +kernel, by decide +kernel⟩
theorem wv_L_41 : Cond.methodLink RL 41 yX10_letter ∈ eW := eT_in 680 (by decide +kernel) rfl
theorem lk_L_41 : eLV RL 41 RX10 yX10_letter (.code yX10_letter cX10_letter 3 (some .int)) 2 := ⟨wv_L_41, wm_yX10_letter, wl_yX10_letter, wi_X10, wyX10_letter, rfl, by decide +kernel, by decide +kernel, by decide +kernel⟩
theorem wv_X10_200 : Cond.methodLink RX10 200 yX0_at ∈ eW := eT_in 685 (by decide +kernel) rfl
theorem lk_X10_200 : eLS RX10 200 yX0_at (.code yX0_at cX0_at 5 (some .int)) 3 := ⟨wv_X10_200, ws_yX0_at, wi_X0, wyX0_at, by decide +kernel, by decide +kernel, by decide +kernel⟩
theorem wv_L_116 : Cond.methodLink RL 116 yL_roll ∈ eW := eT_in 688 (by decide +kernel) rfl
theorem lk_L_116 : eLS RL 116 yL_roll (.codeWith yL_roll cL_roll 3 (some .long) [(0, 6, 7, 15)]) 2 := ⟨wv_L_116, ws_yL_roll, wi_L, wyL_roll, by decide +kernel, by decide +kernel, by decide +kernel⟩
theorem wv_L_44 : Cond.methodLink RL 44 yX10_roll ∈ eW := eT_in 691 (by decide +kernel) rfl
theorem lk_L_44 : eLV RL 44 RX10 yX10_roll (.code yX10_roll cX10_roll 2 (some .int)) 1 := ⟨wv_L_44, wm_yX10_roll, wl_yX10_roll, wi_X10, wyX10_roll, rfl, by decide +kernel, by decide +kernel, by decide +kernel⟩
theorem wv_X10_208 : Cond.methodLink RX10 208 yX2_ranked ∈ eW := eT_in 696 (by decide +kernel) rfl
theorem lk_X10_208 : eLV RX10 208 RX2 yX2_ranked (.code yX2_ranked cX2_ranked 3 (some .int)) 1 := ⟨wv_X10_208, wm_yX2_ranked, wl_yX2_ranked, wi_X2, wyX2_ranked, rfl, by decide +kernel, by decide +kernel, by decide +kernel⟩
theorem wv_X2_65 : Cond.methodLink RX2 65 yX2_isAlive ∈ eW := eT_in 700 (by decide +kernel) rfl
theorem lk_X2_65 : eLV RX2 65 RX2 yX2_isAlive (.code yX2_isAlive cX2_isAlive 2 (some .boolean)) 1 := ⟨wv_X2_65, wm_yX2_isAlive, wl_yX2_isAlive, wi_X2, wyX2_isAlive, rfl, by decide +kernel, by decide +kernel, by decide +kernel⟩
theorem wv_X2_69 : Cond.methodLink RX2 69 yX2_aliveAheadOf ∈ eW := eT_in 701 (by decide +kernel) rfl
theorem lk_X2_69 : eLV RX2 69 RX2 yX2_aliveAheadOf (.code yX2_aliveAheadOf cX2_aliveAheadOf 6 (some .int)) 1 := ⟨wv_X2_69, wm_yX2_aliveAheadOf, wl_yX2_aliveAheadOf, wi_X2, wyX2_aliveAheadOf, rfl, by decide +kernel, by decide +kernel, by decide +kernel⟩
theorem wv_X2_72 : Cond.methodLink RX2 72 yX0_dictionaryKey ∈ eW := eT_in 705 (by decide +kernel) rfl
theorem lk_X2_72 : eLS RX2 72 yX0_dictionaryKey (.code yX0_dictionaryKey cX0_dictionaryKey 4 (some .int)) 2 := ⟨wv_X2_72, ws_yX0_dictionaryKey, wi_X0, wyX0_dictionaryKey, by decide +kernel, by decide +kernel, by decide +kernel⟩
theorem wv_X0_15 : Cond.methodLink RX0 15 yX0_at ∈ eW := eT_in 708 (by decide +kernel) rfl
theorem lk_X0_15 : eLS RX0 15 yX0_at (.code yX0_at cX0_at 5 (some .int)) 3 := ⟨wv_X0_15, ws_yX0_at, wi_X0, wyX0_at, by decide +kernel, by decide +kernel, by decide +kernel⟩
theorem wv_L_118 : Cond.methodLink RL 118 yL_meant ∈ eW := eT_in 709 (by decide +kernel) rfl
theorem lk_L_118 : eLS RL 118 yL_meant (.codeWith yL_meant cL_meant 6 (some .long) [(0, 10, 11, 34), (0, 10, 17, 15)]) 5 := ⟨wv_L_118, ws_yL_meant, wi_L, wyL_meant, by decide +kernel, by decide +kernel, by decide +kernel⟩
theorem wv_L_47 : Cond.methodLink RL 47 yX10_meant ∈ eW := eT_in 712 (by decide +kernel) rfl
theorem lk_L_47 : eLV RL 47 RX10 yX10_meant (.code yX10_meant cX10_meant 5 (some .int)) 4 := ⟨wv_L_47, wm_yX10_meant, wl_yX10_meant, wi_X10, wyX10_meant, rfl, by decide +kernel, by decide +kernel, by decide +kernel⟩
theorem wv_X10_211 : Cond.methodLink RX10 211 yX10_requireBench ∈ eW := eT_in 716 (by decide +kernel) rfl
theorem lk_X10_211 : eLS RX10 211 yX10_requireBench (.code yX10_requireBench cX10_requireBench 1 none) 1 := ⟨wv_X10_211, ws_yX10_requireBench, wi_X10, wyX10_requireBench, by decide +kernel, by decide +kernel, by decide +kernel⟩
theorem wv_X10_355 : Cond.methodLink RX10 355 yX10_isBench ∈ eW := eT_in 719 (by decide +kernel) rfl
theorem lk_X10_355 : eLS RX10 355 yX10_isBench (.code yX10_isBench cX10_isBench 1 (some .boolean)) 1 := ⟨wv_X10_355, ws_yX10_isBench, wi_X10, wyX10_isBench, by decide +kernel, by decide +kernel, by decide +kernel⟩
theorem wv_X10_214 : Cond.methodLink RX10 214 yX10_requireCode ∈ eW := eT_in 721 (by decide +kernel) rfl
theorem lk_X10_214 : eLS RX10 214 yX10_requireCode (.code yX10_requireCode cX10_requireCode 2 none) 2 := ⟨wv_X10_214, ws_yX10_requireCode, wi_X10, wyX10_requireCode, by decide +kernel, by decide +kernel, by decide +kernel⟩
theorem wv_X10_360 : Cond.methodLink RX10 360 yX0_isCode ∈ eW := eT_in 724 (by decide +kernel) rfl
theorem lk_X10_360 : eLS RX10 360 yX0_isCode (.code yX0_isCode cX0_isCode 2 (some .boolean)) 2 := ⟨wv_X10_360, ws_yX0_isCode, wi_X0, wyX0_isCode, by decide +kernel, by decide +kernel, by decide +kernel⟩
theorem wv_X10_218 : Cond.methodLink RX10 218 yX5_meantByPeople ∈ eW := eT_in 726 (by decide +kernel) rfl
theorem lk_X10_218 : eLV RX10 218 RX5 yX5_meantByPeople (.code yX5_meantByPeople cX5_meantByPeople 5 (some .int)) 3 := ⟨wv_X10_218, wm_yX5_meantByPeople, wl_yX5_meantByPeople, wi_X5, wyX5_meantByPeople, rfl, by decide +kernel, by decide +kernel, by decide +kernel⟩
theorem wv_X10_221 : Cond.methodLink RX10 221 yX5_meantByNames ∈ eW := eT_in 727 (by decide +kernel) rfl
theorem lk_X10_221 : eLV RX10 221 RX5 yX5_meantByNames (.code yX5_meantByNames cX5_meantByNames 8 (some .int)) 3 := ⟨wv_X10_221, wm_yX5_meantByNames, wl_yX5_meantByNames, wi_X5, wyX5_meantByNames, rfl, by decide +kernel, by decide +kernel, by decide +kernel⟩
theorem wv_X5_106 : Cond.methodLink RX5 106 yX4_firstBrotherOn ∈ eW := eT_in 731 (by decide +kernel) rfl
theorem lk_X5_106 : eLV RX5 106 RX4 yX4_firstBrotherOn (.code yX4_firstBrotherOn cX4_firstBrotherOn 4 (some .int)) 2 := ⟨wv_X5_106, wm_yX4_firstBrotherOn, wl_yX4_firstBrotherOn, wi_X4, wyX4_firstBrotherOn, rfl, by decide +kernel, by decide +kernel, by decide +kernel⟩
theorem wv_L_121 : Cond.methodLink RL 121 yL_person ∈ eW := eT_in 736 (by decide +kernel) rfl
theorem lk_L_121 : eLS RL 121 yL_person (.codeWith yL_person cL_person 5 (some .long) [(0, 8, 9, 34), (0, 8, 15, 15), (0, 8, 21, 19)]) 4 := ⟨wv_L_121, ws_yL_person, wi_L, wyL_person, by decide +kernel, by decide +kernel, by decide +kernel⟩
theorem wv_L_51 : Cond.methodLink RL 51 yX10_person ∈ eW := eT_in 739 (by decide +kernel) rfl
theorem lk_L_51 : eLV RL 51 RX10 yX10_person (.code yX10_person cX10_person 4 (some .int)) 3 := ⟨wv_L_51, wm_yX10_person, wl_yX10_person, wi_X10, wyX10_person, rfl, by decide +kernel, by decide +kernel, by decide +kernel⟩
theorem wv_X10_226 : Cond.methodLink RX10 226 yX10_isFamily ∈ eW := eT_in 743 (by decide +kernel) rfl
theorem lk_X10_226 : eLS RX10 226 yX10_isFamily (.code yX10_isFamily cX10_isFamily 1 (some .boolean)) 1 := ⟨wv_X10_226, ws_yX10_isFamily, wi_X10, wyX10_isFamily, by decide +kernel, by decide +kernel, by decide +kernel⟩
theorem wv_X10_232 : Cond.methodLink RX10 232 yX10_isAgeToCome ∈ eW := eT_in 745 (by decide +kernel) rfl
theorem lk_X10_232 : eLS RX10 232 yX10_isAgeToCome (.code yX10_isAgeToCome cX10_isAgeToCome 1 (some .boolean)) 1 := ⟨wv_X10_232, ws_yX10_isAgeToCome, wi_X10, wyX10_isAgeToCome, by decide +kernel, by decide +kernel, by decide +kernel⟩
theorem wv_X10_237 : Cond.methodLink RX10 237 yX4_isFull ∈ eW := eT_in 747 (by decide +kernel) rfl
theorem lk_X10_237 : eLV RX10 237 RX4 yX4_isFull (.code yX4_isFull cX4_isFull 1 (some .boolean)) 0 := ⟨wv_X10_237, wm_yX4_isFull, wl_yX4_isFull, wi_X4, wyX4_isFull, rfl, by decide +kernel, by decide +kernel, by decide +kernel⟩
theorem wv_X10_242 : Cond.methodLink RX10 242 yX3_remember ∈ eW := eT_in 749 (by decide +kernel) rfl
theorem lk_X10_242 : eLV RX10 242 RX3 yX3_remember (.code yX3_remember cX3_remember 2 none) 1 := ⟨wv_X10_242, wm_yX3_remember, wl_yX3_remember, wi_X3, wyX3_remember, rfl, by decide +kernel, by decide +kernel, by decide +kernel⟩
theorem wv_X3_25 : Cond.methodLink RX3 25 yX5_copyFrom ∈ eW := eT_in 753 (by decide +kernel) rfl
theorem lk_X3_25 : eLV RX3 25 RX5 yX5_copyFrom (.code yX5_copyFrom cX5_copyFrom 2 none) 1 := ⟨wv_X3_25, wm_yX5_copyFrom, wl_yX5_copyFrom, wi_X5, wyX5_copyFrom, rfl, by decide +kernel, by decide +kernel, by decide +kernel⟩
theorem wv_X10_246 : Cond.methodLink RX10 246 yX4_add ∈ eW := eT_in 754 (by decide +kernel) rfl
theorem lk_X10_246 : eLV RX10 246 RX4 yX4_add (.code yX4_add cX4_add 4 none) 3 := ⟨wv_X10_246, wm_yX4_add, wl_yX4_add, wi_X4, wyX4_add, rfl, by decide +kernel, by decide +kernel, by decide +kernel⟩
theorem wv_L_124 : Cond.methodLink RL 124 yL_sit ∈ eW := eT_in 755 (by decide +kernel) rfl
theorem lk_L_124 : eLS RL 124 yL_sit (.codeWith yL_sit cL_sit 4 (some .long) [(0, 7, 8, 34), (0, 7, 13, 19)]) 3 := ⟨wv_L_124, ws_yL_sit, wi_L, wyL_sit, by decide +kernel, by decide +kernel, by decide +kernel⟩
theorem wv_L_55 : Cond.methodLink RL 55 yX10_sit ∈ eW := eT_in 758 (by decide +kernel) rfl
theorem lk_L_55 : eLV RL 55 RX10 yX10_sit (.code yX10_sit cX10_sit 4 (some .int)) 2 := ⟨wv_L_55, wm_yX10_sit, wl_yX10_sit, wi_X10, wyX10_sit, rfl, by decide +kernel, by decide +kernel, by decide +kernel⟩
theorem wv_X10_250 : Cond.methodLink RX10 250 yX5_isKeptFrom ∈ eW := eT_in 762 (by decide +kernel) rfl
theorem lk_X10_250 : eLV RX10 250 RX5 yX5_isKeptFrom (.code yX5_isKeptFrom cX5_isKeptFrom 4 (some .boolean)) 2 := ⟨wv_X10_250, wm_yX5_isKeptFrom, wl_yX5_isKeptFrom, wi_X5, wyX5_isKeptFrom, rfl, by decide +kernel, by decide +kernel, by decide +kernel⟩
theorem wv_L_126 : Cond.methodLink RL 126 yL_give ∈ eW := eT_in 764 (by decide +kernel) rfl
theorem lk_L_126 : eLS RL 126 yL_give (.codeWith yL_give cL_give 6 (some .long) [(0, 10, 11, 34), (0, 10, 17, 15)]) 5 := ⟨wv_L_126, ws_yL_give, wi_L, wyL_give, by decide +kernel, by decide +kernel, by decide +kernel⟩
theorem wv_L_58 : Cond.methodLink RL 58 yX10_give ∈ eW := eT_in 767 (by decide +kernel) rfl
theorem lk_L_58 : eLV RL 58 RX10 yX10_give (.code yX10_give cX10_give 6 (some .int)) 4 := ⟨wv_L_58, wm_yX10_give, wl_yX10_give, wi_X10, wyX10_give, rfl, by decide +kernel, by decide +kernel, by decide +kernel⟩
theorem wv_X10_256 : Cond.methodLink RX10 256 yX5_reasonAgainst ∈ eW := eT_in 771 (by decide +kernel) rfl
theorem lk_X10_256 : eLV RX10 256 RX5 yX5_reasonAgainst (.code yX5_reasonAgainst cX5_reasonAgainst 6 (some .int)) 4 := ⟨wv_X10_256, wm_yX5_reasonAgainst, wl_yX5_reasonAgainst, wi_X5, wyX5_reasonAgainst, rfl, by decide +kernel, by decide +kernel, by decide +kernel⟩
theorem wv_X10_260 : Cond.methodLink RX10 260 yX2_add ∈ eW := eT_in 772 (by decide +kernel) rfl
theorem lk_X10_260 : eLV RX10 260 RX2 yX2_add (.code yX2_add cX2_add 6 none) 5 := ⟨wv_X10_260, wm_yX2_add, wl_yX2_add, wi_X2, wyX2_add, rfl, by decide +kernel, by decide +kernel, by decide +kernel⟩
theorem wv_L_128 : Cond.methodLink RL 128 yL_call ∈ eW := eT_in 773 (by decide +kernel) rfl
theorem lk_L_128 : eLS RL 128 yL_call (.codeWith yL_call cL_call 5 (some .long) [(0, 8, 9, 34), (0, 8, 15, 15)]) 4 := ⟨wv_L_128, ws_yL_call, wi_L, wyL_call, by decide +kernel, by decide +kernel, by decide +kernel⟩
theorem wv_L_61 : Cond.methodLink RL 61 yX10_call ∈ eW := eT_in 776 (by decide +kernel) rfl
theorem lk_L_61 : eLV RL 61 RX10 yX10_call (.code yX10_call cX10_call 5 (some .int)) 3 := ⟨wv_L_61, wm_yX10_call, wl_yX10_call, wi_X10, wyX10_call, rfl, by decide +kernel, by decide +kernel, by decide +kernel⟩
theorem wv_X10_263 : Cond.methodLink RX10 263 yX5_callFor ∈ eW := eT_in 780 (by decide +kernel) rfl
theorem lk_X10_263 : eLV RX10 263 RX5 yX5_callFor (.code yX5_callFor cX5_callFor 6 (some .int)) 3 := ⟨wv_X10_263, wm_yX5_callFor, wl_yX5_callFor, wi_X5, wyX5_callFor, rfl, by decide +kernel, by decide +kernel, by decide +kernel⟩
theorem wv_L_130 : Cond.methodLink RL 130 yL_years ∈ eW := eT_in 781 (by decide +kernel) rfl
theorem lk_L_130 : eLS RL 130 yL_years (.codeWith yL_years cL_years 3 (some .long) [(0, 6, 7, 15), (0, 6, 12, 19)]) 2 := ⟨wv_L_130, ws_yL_years, wi_L, wyL_years, by decide +kernel, by decide +kernel, by decide +kernel⟩
theorem wv_L_64 : Cond.methodLink RL 64 yX10_years ∈ eW := eT_in 784 (by decide +kernel) rfl
theorem lk_L_64 : eLV RL 64 RX10 yX10_years (.code yX10_years cX10_years 2 (some .int)) 1 := ⟨wv_L_64, wm_yX10_years, wl_yX10_years, wi_X10, wyX10_years, rfl, by decide +kernel, by decide +kernel, by decide +kernel⟩
theorem wv_X10_266 : Cond.methodLink RX10 266 yX10_isYearsAtOnce ∈ eW := eT_in 788 (by decide +kernel) rfl
theorem lk_X10_266 : eLS RX10 266 yX10_isYearsAtOnce (.code yX10_isYearsAtOnce cX10_isYearsAtOnce 1 (some .boolean)) 1 := ⟨wv_X10_266, ws_yX10_isYearsAtOnce, wi_X10, wyX10_isYearsAtOnce, by decide +kernel, by decide +kernel, by decide +kernel⟩
theorem wv_X10_273 : Cond.methodLink RX10 273 yX5_passYears ∈ eW := eT_in 791 (by decide +kernel) rfl
theorem lk_X10_273 : eLV RX10 273 RX5 yX5_passYears (.code yX5_passYears cX5_passYears 4 (some .int)) 1 := ⟨wv_X10_273, wm_yX5_passYears, wl_yX5_passYears, wi_X5, wyX5_passYears, rfl, by decide +kernel, by decide +kernel, by decide +kernel⟩
theorem wv_L_132 : Cond.methodLink RL 132 yL_set ∈ eW := eT_in 792 (by decide +kernel) rfl
theorem lk_L_132 : eLS RL 132 yL_set (.codeWith yL_set cL_set 4 (some .long) [(0, 7, 8, 15)]) 3 := ⟨wv_L_132, ws_yL_set, wi_L, wyL_set, by decide +kernel, by decide +kernel, by decide +kernel⟩
theorem wv_L_67 : Cond.methodLink RL 67 yX10_set ∈ eW := eT_in 795 (by decide +kernel) rfl
theorem lk_L_67 : eLV RL 67 RX10 yX10_set (.code yX10_set cX10_set 4 (some .int)) 2 := ⟨wv_L_67, wm_yX10_set, wl_yX10_set, wi_X10, wyX10_set, rfl, by decide +kernel, by decide +kernel, by decide +kernel⟩
theorem wv_X10_276 : Cond.methodLink RX10 276 yX10_isSettingWith ∈ eW := eT_in 799 (by decide +kernel) rfl
theorem lk_X10_276 : eLS RX10 276 yX10_isSettingWith (.code yX10_isSettingWith cX10_isSettingWith 3 (some .boolean)) 2 := ⟨wv_X10_276, ws_yX10_isSettingWith, wi_X10, wyX10_isSettingWith, by decide +kernel, by decide +kernel, by decide +kernel⟩
theorem wv_L_134 : Cond.methodLink RL 134 yL_why ∈ eW := eT_in 801 (by decide +kernel) rfl
theorem lk_L_134 : eLS RL 134 yL_why (.codeWith yL_why cL_why 6 (some .long) [(0, 10, 11, 34), (0, 10, 17, 15)]) 5 := ⟨wv_L_134, ws_yL_why, wi_L, wyL_why, by decide +kernel, by decide +kernel, by decide +kernel⟩
theorem wv_L_73 : Cond.methodLink RL 73 yX10_why ∈ eW := eT_in 804 (by decide +kernel) rfl
theorem lk_L_73 : eLV RL 73 RX10 yX10_why (.code yX10_why cX10_why 5 (some .int)) 4 := ⟨wv_L_73, wm_yX10_why, wl_yX10_why, wi_X10, wyX10_why, rfl, by decide +kernel, by decide +kernel, by decide +kernel⟩
theorem wv_L_136 : Cond.methodLink RL 136 yL_endsIn ∈ eW := eT_in 808 (by decide +kernel) rfl
theorem lk_L_136 : eLS RL 136 yL_endsIn (.codeWith yL_endsIn cL_endsIn 3 (some .long) [(0, 6, 7, 34)]) 2 := ⟨wv_L_136, ws_yL_endsIn, wi_L, wyL_endsIn, by decide +kernel, by decide +kernel, by decide +kernel⟩
theorem wv_L_76 : Cond.methodLink RL 76 yX10_endsIn ∈ eW := eT_in 811 (by decide +kernel) rfl
theorem lk_L_76 : eLV RL 76 RX10 yX10_endsIn (.code yX10_endsIn cX10_endsIn 2 (some .int)) 1 := ⟨wv_L_76, wm_yX10_endsIn, wl_yX10_endsIn, wi_X10, wyX10_endsIn, rfl, by decide +kernel, by decide +kernel, by decide +kernel⟩
theorem wv_X10_287 : Cond.methodLink RX10 287 yX5_yearsLeft ∈ eW := eT_in 815 (by decide +kernel) rfl
theorem lk_X10_287 : eLV RX10 287 RX5 yX5_yearsLeft (.code yX5_yearsLeft cX5_yearsLeft 4 (some .int)) 1 := ⟨wv_X10_287, wm_yX5_yearsLeft, wl_yX5_yearsLeft, wi_X5, wyX5_yearsLeft, rfl, by decide +kernel, by decide +kernel, by decide +kernel⟩
theorem wv_X5_173 : Cond.methodLink RX5 173 yJ9_min_7cf53 ∈ eW := eT_in 819 (by decide +kernel) rfl
theorem lk_X5_173 : eLS RX5 173 yJ9_min_7cf53 (.code yJ9_min_7cf53 cJ9_min_7cf53 2 (some .int)) 2 := ⟨wv_X5_173, ws_yJ9_min_7cf53, wi_J9, wyJ9_min_7cf53, by decide +kernel, by decide +kernel, by decide +kernel⟩
theorem wv_X5_178 : Cond.methodLink RX5 178 yJ9_max_7cf53 ∈ eW := eT_in 822 (by decide +kernel) rfl
theorem lk_X5_178 : eLS RX5 178 yJ9_max_7cf53 (.code yJ9_max_7cf53 cJ9_max_7cf53 2 (some .int)) 2 := ⟨wv_X5_178, ws_yJ9_max_7cf53, wi_J9, wyJ9_max_7cf53, by decide +kernel, by decide +kernel, by decide +kernel⟩
theorem wv_L_138 : Cond.methodLink RL 138 yL_bestName ∈ eW := eT_in 825 (by decide +kernel) rfl
theorem lk_L_138 : eLS RL 138 yL_bestName (.codeWith yL_bestName cL_bestName 5 (some .long) [(0, 8, 9, 34), (0, 8, 15, 15)]) 4 := ⟨wv_L_138, ws_yL_bestName, wi_L, wyL_bestName, by decide +kernel, by decide +kernel, by decide +kernel⟩
theorem wv_L_79 : Cond.methodLink RL 79 yX10_bestName ∈ eW := eT_in 828 (by decide +kernel) rfl
theorem lk_L_79 : eLV RL 79 RX10 yX10_bestName (.code yX10_bestName cX10_bestName 4 (some .int)) 3 := ⟨wv_L_79, wm_yX10_bestName, wl_yX10_bestName, wi_X10, wyX10_bestName, rfl, by decide +kernel, by decide +kernel, by decide +kernel⟩
theorem wv_X10_292 : Cond.methodLink RX10 292 yX1_bestCode ∈ eW := eT_in 833 (by decide +kernel) rfl
theorem lk_X10_292 : eLV RX10 292 RX1 yX1_bestCode (.code yX1_bestCode cX1_bestCode 10 (some .int)) 4 := ⟨wv_X10_292, wm_yX1_bestCode, wl_yX1_bestCode, wi_X1, wyX1_bestCode, rfl, by decide +kernel, by decide +kernel, by decide +kernel⟩
theorem wv_X1_15 : Cond.methodLink RX1 15 yX5_reasonAgainstAnyName ∈ eW := eT_in 837 (by decide +kernel) rfl
theorem lk_X1_15 : eLV RX1 15 RX5 yX5_reasonAgainstAnyName (.code yX5_reasonAgainstAnyName cX5_reasonAgainstAnyName 3 (some .int)) 2 := ⟨wv_X1_15, wm_yX5_reasonAgainstAnyName, wl_yX5_reasonAgainstAnyName, wi_X5, wyX5_reasonAgainstAnyName, rfl, by decide +kernel, by decide +kernel, by decide +kernel⟩
theorem wv_X1_25 : Cond.methodLink RX1 25 yX2_isFull ∈ eW := eT_in 838 (by decide +kernel) rfl
theorem lk_X1_25 : eLV RX1 25 RX2 yX2_isFull (.code yX2_isFull cX2_isFull 1 (some .boolean)) 0 := ⟨wv_X1_25, wm_yX2_isFull, wl_yX2_isFull, wi_X2, wyX2_isFull, rfl, by decide +kernel, by decide +kernel, by decide +kernel⟩
theorem wv_X1_40 : Cond.methodLink RX1 40 yX1_countNames ∈ eW := eT_in 839 (by decide +kernel) rfl
theorem lk_X1_40 : eLV RX1 40 RX1 yX1_countNames (.code yX1_countNames cX1_countNames 3 none) 1 := ⟨wv_X1_40, wm_yX1_countNames, wl_yX1_countNames, wi_X1, wyX1_countNames, rfl, by decide +kernel, by decide +kernel, by decide +kernel⟩
theorem wv_X1_61 : Cond.methodLink RX1 61 yX2_isAlive ∈ eW := eT_in 843 (by decide +kernel) rfl
theorem lk_X1_61 : eLV RX1 61 RX2 yX2_isAlive (.code yX2_isAlive cX2_isAlive 2 (some .boolean)) 1 := ⟨wv_X1_61, wm_yX2_isAlive, wl_yX2_isAlive, wi_X2, wyX2_isAlive, rfl, by decide +kernel, by decide +kernel, by decide +kernel⟩
theorem wv_X1_71 : Cond.methodLink RX1 71 yX1_countLetters ∈ eW := eT_in 844 (by decide +kernel) rfl
theorem lk_X1_71 : eLV RX1 71 RX1 yX1_countLetters (.code yX1_countLetters cX1_countLetters 4 none) 2 := ⟨wv_X1_71, wm_yX1_countLetters, wl_yX1_countLetters, wi_X1, wyX1_countLetters, rfl, by decide +kernel, by decide +kernel, by decide +kernel⟩
theorem wv_X1_75 : Cond.methodLink RX1 75 yX0_isRepeated ∈ eW := eT_in 848 (by decide +kernel) rfl
theorem lk_X1_75 : eLS RX1 75 yX0_isRepeated (.code yX0_isRepeated cX0_isRepeated 4 (some .boolean)) 3 := ⟨wv_X1_75, ws_yX0_isRepeated, wi_X0, wyX0_isRepeated, by decide +kernel, by decide +kernel, by decide +kernel⟩
theorem wv_X1_79 : Cond.methodLink RX1 79 yX0_at ∈ eW := eT_in 851 (by decide +kernel) rfl
theorem lk_X1_79 : eLS RX1 79 yX0_at (.code yX0_at cX0_at 5 (some .int)) 3 := ⟨wv_X1_79, ws_yX0_at, wi_X0, wyX0_at, by decide +kernel, by decide +kernel, by decide +kernel⟩
theorem wv_X1_44 : Cond.methodLink RX1 44 yX0_codes ∈ eW := eT_in 852 (by decide +kernel) rfl
theorem lk_X1_44 : eLS RX1 44 yX0_codes (.code yX0_codes cX0_codes 3 (some .int)) 1 := ⟨wv_X1_44, ws_yX0_codes, wi_X0, wyX0_codes, by decide +kernel, by decide +kernel, by decide +kernel⟩
theorem wv_X1_50 : Cond.methodLink RX1 50 yX1_namesWithLettersOf ∈ eW := eT_in 853 (by decide +kernel) rfl
theorem lk_X1_50 : eLV RX1 50 RX1 yX1_namesWithLettersOf (.code yX1_namesWithLettersOf cX1_namesWithLettersOf 5 (some .int)) 2 := ⟨wv_X1_50, wm_yX1_namesWithLettersOf, wl_yX1_namesWithLettersOf, wi_X1, wyX1_namesWithLettersOf, rfl, by decide +kernel, by decide +kernel, by decide +kernel⟩
theorem wv_X1_53 : Cond.methodLink RX1 53 yX5_isTaken ∈ eW := eT_in 857 (by decide +kernel) rfl
theorem lk_X1_53 : eLV RX1 53 RX5 yX5_isTaken (.code yX5_isTaken cX5_isTaken 7 (some .boolean)) 4 := ⟨wv_X1_53, wm_yX5_isTaken, wl_yX5_isTaken, wi_X5, wyX5_isTaken, rfl, by decide +kernel, by decide +kernel, by decide +kernel⟩
theorem wv_L_140 : Cond.methodLink RL 140 yL_script ∈ eW := eT_in 858 (by decide +kernel) rfl
theorem lk_L_140 : eLS RL 140 yL_script (.codeWith yL_script cL_script 5 (some .long) [(0, 7, 8, 15)]) 3 := ⟨wv_L_140, ws_yL_script, wi_L, wyL_script, by decide +kernel, by decide +kernel, by decide +kernel⟩
theorem wv_L_82 : Cond.methodLink RL 82 yX10_runScript ∈ eW := eT_in 861 (by decide +kernel) rfl
theorem lk_L_82 : eLV RL 82 RX10 yX10_runScript (.code yX10_runScript cX10_runScript 5 (some .int)) 2 := ⟨wv_L_82, wm_yX10_runScript, wl_yX10_runScript, wi_X10, wyX10_runScript, rfl, by decide +kernel, by decide +kernel, by decide +kernel⟩
theorem wv_X10_301 : Cond.methodLink RX10 301 yX6_beyond ∈ eW := eT_in 866 (by decide +kernel) rfl
theorem lk_X10_301 : eLS RX10 301 yX6_beyond (.code yX6_beyond cX6_beyond 4 (some .long)) 1 := ⟨wv_X10_301, ws_yX6_beyond, wi_X6, wyX6_beyond, by decide +kernel, by decide +kernel, by decide +kernel⟩
theorem wv_X10_312 : Cond.methodLink RX10 312 yX6_group ∈ eW := eT_in 871 (by decide +kernel) rfl
theorem lk_X10_312 : eLS RX10 312 yX6_group (.code yX6_group cX6_group 7 (some .int)) 3 := ⟨wv_X10_312, ws_yX6_group, wi_X6, wyX6_group, by decide +kernel, by decide +kernel, by decide +kernel⟩
theorem wv_X10_316 : Cond.methodLink RX10 316 yX6_succeeds ∈ eW := eT_in 874 (by decide +kernel) rfl
theorem lk_X10_316 : eLS RX10 316 yX6_succeeds (.code yX6_succeeds cX6_succeeds 7 (some .boolean)) 2 := ⟨wv_X10_316, ws_yX6_succeeds, wi_X6, wyX6_succeeds, by decide +kernel, by decide +kernel, by decide +kernel⟩
theorem wv_X6_14 : Cond.methodLink RX6 14 yX5_triesGiving ∈ eW := eT_in 878 (by decide +kernel) rfl
theorem lk_X6_14 : eLV RX6 14 RX5 yX5_triesGiving (.code yX5_triesGiving cX5_triesGiving 5 (some .boolean)) 4 := ⟨wv_X6_14, wm_yX5_triesGiving, wl_yX5_triesGiving, wi_X5, wyX5_triesGiving, rfl, by decide +kernel, by decide +kernel, by decide +kernel⟩
theorem wv_X6_20 : Cond.methodLink RX6 20 yX5_callFor ∈ eW := eT_in 879 (by decide +kernel) rfl
theorem lk_X6_20 : eLV RX6 20 RX5 yX5_callFor (.code yX5_callFor cX5_callFor 6 (some .int)) 3 := ⟨wv_X6_20, wm_yX5_callFor, wl_yX5_callFor, wi_X5, wyX5_callFor, rfl, by decide +kernel, by decide +kernel, by decide +kernel⟩
theorem wv_X6_24 : Cond.methodLink RX6 24 yX5_passYears ∈ eW := eT_in 880 (by decide +kernel) rfl
theorem lk_X6_24 : eLV RX6 24 RX5 yX5_passYears (.code yX5_passYears cX5_passYears 4 (some .int)) 1 := ⟨wv_X6_24, wm_yX5_passYears, wl_yX5_passYears, wi_X5, wyX5_passYears, rfl, by decide +kernel, by decide +kernel, by decide +kernel⟩
theorem wv_X6_28 : Cond.methodLink RX6 28 yX5_triesSitting ∈ eW := eT_in 881 (by decide +kernel) rfl
theorem lk_X6_28 : eLV RX6 28 RX5 yX5_triesSitting (.code yX5_triesSitting cX5_triesSitting 3 (some .boolean)) 2 := ⟨wv_X6_28, wm_yX5_triesSitting, wl_yX5_triesSitting, wi_X5, wyX5_triesSitting, rfl, by decide +kernel, by decide +kernel, by decide +kernel⟩
theorem wv_X6_32 : Cond.methodLink RX6 32 yX5_triesSetting ∈ eW := eT_in 882 (by decide +kernel) rfl
theorem lk_X6_32 : eLV RX6 32 RX5 yX5_triesSetting (.code yX5_triesSetting cX5_triesSetting 3 (some .boolean)) 2 := ⟨wv_X6_32, wm_yX5_triesSetting, wl_yX5_triesSetting, wi_X5, wyX5_triesSetting, rfl, by decide +kernel, by decide +kernel, by decide +kernel⟩
theorem wv_X6_35 : Cond.methodLink RX6 35 yX6_hasNames ∈ eW := eT_in 883 (by decide +kernel) rfl
theorem lk_X6_35 : eLS RX6 35 yX6_hasNames (.code yX6_hasNames cX6_hasNames 3 (some .boolean)) 3 := ⟨wv_X6_35, ws_yX6_hasNames, wi_X6, wyX6_hasNames, by decide +kernel, by decide +kernel, by decide +kernel⟩
theorem wv_X6_59 : Cond.methodLink RX6 59 yX4_has ∈ eW := eT_in 886 (by decide +kernel) rfl
theorem lk_X6_59 : eLV RX6 59 RX4 yX4_has (.code yX4_has cX4_has 2 (some .boolean)) 1 := ⟨wv_X6_59, wm_yX4_has, wl_yX4_has, wi_X4, wyX4_has, rfl, by decide +kernel, by decide +kernel, by decide +kernel⟩
theorem wv_X6_65 : Cond.methodLink RX6 65 yX2_aliveOf ∈ eW := eT_in 887 (by decide +kernel) rfl
theorem lk_X6_65 : eLV RX6 65 RX2 yX2_aliveOf (.code yX2_aliveOf cX2_aliveOf 4 (some .int)) 1 := ⟨wv_X6_65, wm_yX2_aliveOf, wl_yX2_aliveOf, wi_X2, wyX2_aliveOf, rfl, by decide +kernel, by decide +kernel, by decide +kernel⟩
theorem wv_X6_39 : Cond.methodLink RX6 39 yX6_means ∈ eW := eT_in 888 (by decide +kernel) rfl
theorem lk_X6_39 : eLS RX6 39 yX6_means (.code yX6_means cX6_means 4 (some .boolean)) 4 := ⟨wv_X6_39, ws_yX6_means, wi_X6, wyX6_means, by decide +kernel, by decide +kernel, by decide +kernel⟩
theorem wv_X6_71 : Cond.methodLink RX6 71 yX0_isCode ∈ eW := eT_in 892 (by decide +kernel) rfl
theorem lk_X6_71 : eLS RX6 71 yX0_isCode (.code yX0_isCode cX0_isCode 2 (some .boolean)) 2 := ⟨wv_X6_71, ws_yX0_isCode, wi_X0, wyX0_isCode, by decide +kernel, by decide +kernel, by decide +kernel⟩
theorem wv_X6_76 : Cond.methodLink RX6 76 yX5_meantByPeople ∈ eW := eT_in 893 (by decide +kernel) rfl
theorem lk_X6_76 : eLV RX6 76 RX5 yX5_meantByPeople (.code yX5_meantByPeople cX5_meantByPeople 5 (some .int)) 3 := ⟨wv_X6_76, wm_yX5_meantByPeople, wl_yX5_meantByPeople, wi_X5, wyX5_meantByPeople, rfl, by decide +kernel, by decide +kernel, by decide +kernel⟩
theorem wv_X6_47 : Cond.methodLink RX6 47 yX2_inState ∈ eW := eT_in 894 (by decide +kernel) rfl
theorem lk_X6_47 : eLV RX6 47 RX2 yX2_inState (.code yX2_inState cX2_inState 4 (some .int)) 1 := ⟨wv_X6_47, wm_yX2_inState, wl_yX2_inState, wi_X2, wyX2_inState, rfl, by decide +kernel, by decide +kernel, by decide +kernel⟩
theorem wv_X6_52 : Cond.methodLink RX6 52 yX6_isInState ∈ eW := eT_in 895 (by decide +kernel) rfl
theorem lk_X6_52 : eLS RX6 52 yX6_isInState (.code yX6_isInState cX6_isInState 3 (some .boolean)) 3 := ⟨wv_X6_52, ws_yX6_isInState, wi_X6, wyX6_isInState, by decide +kernel, by decide +kernel, by decide +kernel⟩
theorem wv_X6_79 : Cond.methodLink RX6 79 yX2_has ∈ eW := eT_in 898 (by decide +kernel) rfl
theorem lk_X6_79 : eLV RX6 79 RX2 yX2_has (.code yX2_has cX2_has 2 (some .boolean)) 1 := ⟨wv_X6_79, wm_yX2_has, wl_yX2_has, wi_X2, wyX2_has, rfl, by decide +kernel, by decide +kernel, by decide +kernel⟩
theorem wv_L_146 : Cond.methodLink RL 146 yL_simulate ∈ eW := eT_in 900 (by decide +kernel) rfl
theorem lk_L_146 : eLS RL 146 yL_simulate (.codeWith yL_simulate cL_simulate 5 (some .long) [(0, 7, 8, 15)]) 3 := ⟨wv_L_146, ws_yL_simulate, wi_L, wyL_simulate, by decide +kernel, by decide +kernel, by decide +kernel⟩
theorem wv_L_86 : Cond.methodLink RL 86 yX10_simulate ∈ eW := eT_in 903 (by decide +kernel) rfl
theorem lk_L_86 : eLV RL 86 RX10 yX10_simulate (.code yX10_simulate cX10_simulate 7 (some .int)) 2 := ⟨wv_L_86, wm_yX10_simulate, wl_yX10_simulate, wi_X10, wyX10_simulate, rfl, by decide +kernel, by decide +kernel, by decide +kernel⟩
theorem wv_X10_326 : Cond.methodLink RX10 326 yX7_takeTurn ∈ eW := eT_in 910 (by decide +kernel) rfl
theorem lk_X10_326 : eLS RX10 326 yX7_takeTurn (.code yX7_takeTurn cX7_takeTurn 3 none) 2 := ⟨wv_X10_326, ws_yX7_takeTurn, wi_X7, wyX7_takeTurn, by decide +kernel, by decide +kernel, by decide +kernel⟩
theorem wv_X7_7 : Cond.methodLink RX7 7 yX5_triesPerson ∈ eW := eT_in 913 (by decide +kernel) rfl
theorem lk_X7_7 : eLV RX7 7 RX5 yX5_triesPerson (.code yX5_triesPerson cX5_triesPerson 4 (some .boolean)) 3 := ⟨wv_X7_7, wm_yX5_triesPerson, wl_yX5_triesPerson, wi_X5, wyX5_triesPerson, rfl, by decide +kernel, by decide +kernel, by decide +kernel⟩
theorem wv_X7_13 : Cond.methodLink RX7 13 yX5_triesGiving ∈ eW := eT_in 914 (by decide +kernel) rfl
theorem lk_X7_13 : eLV RX7 13 RX5 yX5_triesGiving (.code yX5_triesGiving cX5_triesGiving 5 (some .boolean)) 4 := ⟨wv_X7_13, wm_yX5_triesGiving, wl_yX5_triesGiving, wi_X5, wyX5_triesGiving, rfl, by decide +kernel, by decide +kernel, by decide +kernel⟩
theorem wv_X7_17 : Cond.methodLink RX7 17 yX5_callFor ∈ eW := eT_in 915 (by decide +kernel) rfl
theorem lk_X7_17 : eLV RX7 17 RX5 yX5_callFor (.code yX5_callFor cX5_callFor 6 (some .int)) 3 := ⟨wv_X7_17, wm_yX5_callFor, wl_yX5_callFor, wi_X5, wyX5_callFor, rfl, by decide +kernel, by decide +kernel, by decide +kernel⟩
theorem wv_X7_21 : Cond.methodLink RX7 21 yX5_triesSitting ∈ eW := eT_in 916 (by decide +kernel) rfl
theorem lk_X7_21 : eLV RX7 21 RX5 yX5_triesSitting (.code yX5_triesSitting cX5_triesSitting 3 (some .boolean)) 2 := ⟨wv_X7_21, wm_yX5_triesSitting, wl_yX5_triesSitting, wi_X5, wyX5_triesSitting, rfl, by decide +kernel, by decide +kernel, by decide +kernel⟩
theorem wv_X7_25 : Cond.methodLink RX7 25 yX5_triesSetting ∈ eW := eT_in 917 (by decide +kernel) rfl
theorem lk_X7_25 : eLV RX7 25 RX5 yX5_triesSetting (.code yX5_triesSetting cX5_triesSetting 3 (some .boolean)) 2 := ⟨wv_X7_25, wm_yX5_triesSetting, wl_yX5_triesSetting, wi_X5, wyX5_triesSetting, rfl, by decide +kernel, by decide +kernel, by decide +kernel⟩
theorem wv_X7_28 : Cond.methodLink RX7 28 yX5_passYears ∈ eW := eT_in 918 (by decide +kernel) rfl
theorem lk_X7_28 : eLV RX7 28 RX5 yX5_passYears (.code yX5_passYears cX5_passYears 4 (some .int)) 1 := ⟨wv_X7_28, wm_yX5_passYears, wl_yX5_passYears, wi_X5, wyX5_passYears, rfl, by decide +kernel, by decide +kernel, by decide +kernel⟩
theorem wv_X10_332 : Cond.methodLink RX10 332 yX2_alive ∈ eW := eT_in 919 (by decide +kernel) rfl
theorem lk_X10_332 : eLV RX10 332 RX2 yX2_alive (.code yX2_alive cX2_alive 1 (some .int)) 0 := ⟨wv_X10_332, wm_yX2_alive, wl_yX2_alive, wi_X2, wyX2_alive, rfl, by decide +kernel, by decide +kernel, by decide +kernel⟩
theorem wv_X2_55 : Cond.methodLink RX2 55 yX2_inState ∈ eW := eT_in 923 (by decide +kernel) rfl
theorem lk_X2_55 : eLV RX2 55 RX2 yX2_inState (.code yX2_inState cX2_inState 4 (some .int)) 1 := ⟨wv_X2_55, wm_yX2_inState, wl_yX2_inState, wi_X2, wyX2_inState, rfl, by decide +kernel, by decide +kernel, by decide +kernel⟩
theorem wv_L_153 : Cond.methodLink RL 153 yL_append ∈ eW := eT_in 924 (by decide +kernel) rfl
theorem lk_L_153 : eLS RL 153 yL_append (.codeWith yL_append cL_append 3 (some .long) [(0, 6, 7, 15), (0, 6, 12, 19)]) 2 := ⟨wv_L_153, ws_yL_append, wi_L, wyL_append, by decide +kernel, by decide +kernel, by decide +kernel⟩
theorem wv_L_9 : Cond.methodLink RL 9 yX10_append ∈ eW := eT_in 927 (by decide +kernel) rfl
theorem lk_L_9 : eLV RL 9 RX10 yX10_append (.code yX10_append cX10_append 2 (some .int)) 1 := ⟨wv_L_9, wm_yX10_append, wl_yX10_append, wi_X10, wyX10_append, rfl, by decide +kernel, by decide +kernel, by decide +kernel⟩
theorem wv_X10_63 : Cond.methodLink RX10 63 yX9_put ∈ eW := eT_in 933 (by decide +kernel) rfl
theorem lk_X10_63 : eLV RX10 63 RX9 yX9_put (.code yX9_put cX9_put 2 none) 1 := ⟨wv_X10_63, wm_yX9_put, wl_yX9_put, wi_X9, wyX9_put, rfl, by decide +kernel, by decide +kernel, by decide +kernel⟩
theorem wv_L_206 : Cond.methodLink RL 206 yL_kept ∈ eW := eT_in 937 (by decide +kernel) rfl
theorem lk_L_206 : eLS RL 206 yL_kept (.code yL_kept cL_kept 24 (some .boolean)) 1 := ⟨wv_L_206, ws_yL_kept, wi_L, wyL_kept, by decide +kernel, by decide +kernel, by decide +kernel⟩
theorem wv_L_163 : Cond.methodLink RL 163 yL_in ∈ eW := eT_in 944 (by decide +kernel) rfl
theorem lk_L_163 : eLS RL 163 yL_in (.code yL_in cL_in 6 (some .boolean)) 3 := ⟨wv_L_163, ws_yL_in, wi_L, wyL_in, by decide +kernel, by decide +kernel, by decide +kernel⟩
theorem wv_L_169 : Cond.methodLink RL 169 yX10_bestGiver ∈ eW := eT_in 948 (by decide +kernel) rfl
theorem lk_L_169 : eLV RL 169 RX10 yX10_bestGiver (.code yX10_bestGiver cX10_bestGiver 3 (some .int)) 0 := ⟨wv_L_169, wm_yX10_bestGiver, wl_yX10_bestGiver, wi_X10, wyX10_bestGiver, rfl, by decide +kernel, by decide +kernel, by decide +kernel⟩
theorem wv_X10_296 : Cond.methodLink RX10 296 yX2_sticksBetter ∈ eW := eT_in 952 (by decide +kernel) rfl
theorem lk_X10_296 : eLV RX10 296 RX2 yX2_sticksBetter (.code yX2_sticksBetter cX2_sticksBetter 5 (some .boolean)) 2 := ⟨wv_X10_296, wm_yX2_sticksBetter, wl_yX2_sticksBetter, wi_X2, wyX2_sticksBetter, rfl, by decide +kernel, by decide +kernel, by decide +kernel⟩
theorem wv_X2_59 : Cond.methodLink RX2 59 yX2_stuckGivenBy ∈ eW := eT_in 956 (by decide +kernel) rfl
theorem lk_X2_59 : eLV RX2 59 RX2 yX2_stuckGivenBy (.code yX2_stuckGivenBy cX2_stuckGivenBy 4 (some .int)) 1 := ⟨wv_X2_59, wm_yX2_stuckGivenBy, wl_yX2_stuckGivenBy, wi_X2, wyX2_stuckGivenBy, rfl, by decide +kernel, by decide +kernel, by decide +kernel⟩
theorem wv_X2_62 : Cond.methodLink RX2 62 yX2_givenBy ∈ eW := eT_in 957 (by decide +kernel) rfl
theorem lk_X2_62 : eLV RX2 62 RX2 yX2_givenBy (.code yX2_givenBy cX2_givenBy 4 (some .int)) 1 := ⟨wv_X2_62, wm_yX2_givenBy, wl_yX2_givenBy, wi_X2, wyX2_givenBy, rfl, by decide +kernel, by decide +kernel, by decide +kernel⟩
theorem wv_L_172 : Cond.methodLink RL 172 yX10_mixed ∈ eW := eT_in 958 (by decide +kernel) rfl
theorem lk_L_172 : eLV RL 172 RX10 yX10_mixed (.code yX10_mixed cX10_mixed 3 (some .int)) 0 := ⟨wv_L_172, wm_yX10_mixed, wl_yX10_mixed, wi_X10, wyX10_mixed, rfl, by decide +kernel, by decide +kernel, by decide +kernel⟩
theorem wv_L_218 : Cond.methodLink RL 218 yL_follows ∈ eW := eT_in 962 (by decide +kernel) rfl
theorem lk_L_218 : eLS RL 218 yL_follows (.code yL_follows cL_follows 17 (some .boolean)) 2 := ⟨wv_L_218, ws_yL_follows, wi_L, wyL_follows, by decide +kernel, by decide +kernel, by decide +kernel⟩
theorem wv_L_177 : Cond.methodLink RL 177 yL_undo ∈ eW := eT_in 966 (by decide +kernel) rfl
theorem lk_L_177 : eLS RL 177 yL_undo (.codeWith yL_undo cL_undo 2 (some .long) [(0, 5, 6, 19)]) 1 := ⟨wv_L_177, ws_yL_undo, wi_L, wyL_undo, by decide +kernel, by decide +kernel, by decide +kernel⟩
theorem wv_L_70 : Cond.methodLink RL 70 yX10_undo ∈ eW := eT_in 969 (by decide +kernel) rfl
theorem lk_L_70 : eLV RL 70 RX10 yX10_undo (.code yX10_undo cX10_undo 1 (some .int)) 0 := ⟨wv_L_70, wm_yX10_undo, wl_yX10_undo, wi_X10, wyX10_undo, rfl, by decide +kernel, by decide +kernel, by decide +kernel⟩
theorem wv_X10_284 : Cond.methodLink RX10 284 yX3_takeBack ∈ eW := eT_in 974 (by decide +kernel) rfl
theorem lk_X10_284 : eLV RX10 284 RX3 yX3_takeBack (.code yX3_takeBack cX3_takeBack 2 none) 1 := ⟨wv_X10_284, wm_yX3_takeBack, wl_yX3_takeBack, wi_X3, wyX3_takeBack, rfl, by decide +kernel, by decide +kernel, by decide +kernel⟩
theorem wv_L_198 : Cond.methodLink RL 198 yL_alike ∈ eW := eT_in 978 (by decide +kernel) rfl
theorem lk_L_198 : eLS RL 198 yL_alike (.code yL_alike cL_alike 3 (some .boolean)) 3 := ⟨wv_L_198, ws_yL_alike, wi_L, wyL_alike, by decide +kernel, by decide +kernel, by decide +kernel⟩
theorem wv_L_179 : Cond.methodLink RL 179 yX10_errorPosition ∈ eW := eT_in 981 (by decide +kernel) rfl
theorem lk_L_179 : eLV RL 179 RX10 yX10_errorPosition (.code yX10_errorPosition cX10_errorPosition 1 (some .int)) 0 := ⟨wv_L_179, wm_yX10_errorPosition, wl_yX10_errorPosition, wi_X10, wyX10_errorPosition, rfl, by decide +kernel, by decide +kernel, by decide +kernel⟩
theorem wv_L_209 : Cond.methodLink RL 209 yL_told ∈ eW := eT_in 987 (by decide +kernel) rfl
theorem lk_L_209 : eLS RL 209 yL_told (.code yL_told cL_told 5 (some .boolean)) 2 := ⟨wv_L_209, ws_yL_told, wi_L, wyL_told, by decide +kernel, by decide +kernel, by decide +kernel⟩
theorem wv_L_186 : Cond.methodLink RL 186 yX10_clearText ∈ eW := eT_in 990 (by decide +kernel) rfl
theorem lk_L_186 : eLV RL 186 RX10 yX10_clearText (.code yX10_clearText cX10_clearText 2 (some .int)) 0 := ⟨wv_L_186, wm_yX10_clearText, wl_yX10_clearText, wi_X10, wyX10_clearText, rfl, by decide +kernel, by decide +kernel, by decide +kernel⟩
theorem wv_L_189 : Cond.methodLink RL 189 yL_says ∈ eW := eT_in 994 (by decide +kernel) rfl
theorem lk_L_189 : eLS RL 189 yL_says (.code yL_says cL_says 5 (some .boolean)) 5 := ⟨wv_L_189, ws_yL_says, wi_L, wyL_says, by decide +kernel, by decide +kernel, by decide +kernel⟩
theorem wv_L_215 : Cond.methodLink RL 215 yL_act ∈ eW := eT_in 997 (by decide +kernel) rfl
theorem lk_L_215 : eLS RL 215 yL_act (.code yL_act cL_act 4 (some .long)) 3 := ⟨wv_L_215, ws_yL_act, wi_L, wyL_act, by decide +kernel, by decide +kernel, by decide +kernel⟩
theorem wv_X10_11 : Cond.methodLinkNest RX10 11 yX9_init "NameBenches" ∈ eX := eX_in 30 (by decide +kernel) rfl
theorem lk_X10_11 : eLN RX10 11 yX9_init (.code yX9_init cX9_init 1 none) 0 "NameBenches" := ⟨wv_X10_11, wi_X9, wyX9_init, by decide +kernel, by decide +kernel, by decide +kernel⟩
theorem wv_X5_11 : Cond.methodLinkNest RX5 11 yX4_init "NameBenches" ∈ eX := eX_in 66 (by decide +kernel) rfl
theorem lk_X5_11 : eLN RX5 11 yX4_init (.code yX4_init cX4_init 1 none) 0 "NameBenches" := ⟨wv_X5_11, wi_X4, wyX4_init, by decide +kernel, by decide +kernel, by decide +kernel⟩
theorem wv_X5_20 : Cond.methodLinkNest RX5 20 yX2_init "NameBenches" ∈ eX := eX_in 103 (by decide +kernel) rfl
theorem lk_X5_20 : eLN RX5 20 yX2_init (.code yX2_init cX2_init 1 none) 0 "NameBenches" := ⟨wv_X5_20, wi_X2, wyX2_init, by decide +kernel, by decide +kernel, by decide +kernel⟩
theorem wv_X10_42 : Cond.methodLinkNest RX10 42 yX1_init "NameBenches" ∈ eX := eX_in 227 (by decide +kernel) rfl
theorem lk_X10_42 : eLN RX10 42 yX1_init (.code yX1_init cX1_init 1 none) 0 "NameBenches" := ⟨wv_X10_42, wi_X1, wyX1_init, by decide +kernel, by decide +kernel, by decide +kernel⟩
theorem wv_X5_181 : Cond.methodLinkNest RX5 181 yX10_isFamily "NameBenches" ∈ eX := eX_in 397 (by decide +kernel) rfl
theorem lk_X5_181 : eLN RX5 181 yX10_isFamily (.code yX10_isFamily cX10_isFamily 1 (some .boolean)) 1 "NameBenches" := ⟨wv_X5_181, wi_X10, wyX10_isFamily, by decide +kernel, by decide +kernel, by decide +kernel⟩
theorem wv_X5_109 : Cond.methodLinkNest RX5 109 yX10_isBench "NameBenches" ∈ eX := eX_in 400 (by decide +kernel) rfl
theorem lk_X5_109 : eLN RX5 109 yX10_isBench (.code yX10_isBench cX10_isBench 1 (some .boolean)) 1 "NameBenches" := ⟨wv_X5_109, wi_X10, wyX10_isBench, by decide +kernel, by decide +kernel, by decide +kernel⟩
theorem wv_X5_184 : Cond.methodLinkNest RX5 184 yX10_isAgeToCome "NameBenches" ∈ eX := eX_in 403 (by decide +kernel) rfl
theorem lk_X5_184 : eLN RX5 184 yX10_isAgeToCome (.code yX10_isAgeToCome cX10_isAgeToCome 1 (some .boolean)) 1 "NameBenches" := ⟨wv_X5_184, wi_X10, wyX10_isAgeToCome, by decide +kernel, by decide +kernel, by decide +kernel⟩
theorem wv_X5_137 : Cond.methodLinkNest RX5 137 yX10_isYearsAtOnce "NameBenches" ∈ eX := eX_in 491 (by decide +kernel) rfl
theorem lk_X5_137 : eLN RX5 137 yX10_isYearsAtOnce (.code yX10_isYearsAtOnce cX10_isYearsAtOnce 1 (some .boolean)) 1 "NameBenches" := ⟨wv_X5_137, wi_X10, wyX10_isYearsAtOnce, by decide +kernel, by decide +kernel, by decide +kernel⟩
theorem wv_X5_197 : Cond.methodLinkNest RX5 197 yX10_isSettingWith "NameBenches" ∈ eX := eX_in 534 (by decide +kernel) rfl
theorem lk_X5_197 : eLN RX5 197 yX10_isSettingWith (.code yX10_isSettingWith cX10_isSettingWith 3 (some .boolean)) 2 "NameBenches" := ⟨wv_X5_197, wi_X10, wyX10_isSettingWith, by decide +kernel, by decide +kernel, by decide +kernel⟩
theorem wv_X6_68 : Cond.methodLinkNest RX6 68 yX10_isBench "NameBenches" ∈ eX := eX_in 891 (by decide +kernel) rfl
theorem lk_X6_68 : eLN RX6 68 yX10_isBench (.code yX10_isBench cX10_isBench 1 (some .boolean)) 1 "NameBenches" := ⟨wv_X6_68, wi_X10, wyX10_isBench, by decide +kernel, by decide +kernel, by decide +kernel⟩
abbrev mX0_codes : eMI := (cX0_codes, 3, (some .int), RX0, "codes", 0, 0, [], none)
abbrev kX0_codes (args : List Value) (h : eH) (n : Nat) (r : eRes) (mc ms : Nat) : Prop := eM yX0_codes (.code yX0_codes cX0_codes 3 (some .int)) 0 0 args h n r mc ms
abbrev mX0_isCode : eMI := (cX0_isCode, 2, (some .boolean), RX0, "isCode", 1, 22, [], none)
abbrev kX0_isCode (args : List Value) (h : eH) (n : Nat) (r : eRes) (mc ms : Nat) : Prop := eM yX0_isCode (.code yX0_isCode cX0_isCode 2 (some .boolean)) 1 22 args h n r mc ms
abbrev mX0_at : eMI := (cX0_at, 5, (some .int), RX0, "at", 0, 0, [], none)
abbrev kX0_at (args : List Value) (h : eH) (n : Nat) (r : eRes) (mc ms : Nat) : Prop := eM yX0_at (.code yX0_at cX0_at 5 (some .int)) 0 0 args h n r mc ms
abbrev mX0_dictionaryKey : eMI := (cX0_dictionaryKey, 4, (some .int), RX0, "dictionaryKey", 1, 24, [], none)
abbrev kX0_dictionaryKey (args : List Value) (h : eH) (n : Nat) (r : eRes) (mc ms : Nat) : Prop := eM yX0_dictionaryKey (.code yX0_dictionaryKey cX0_dictionaryKey 4 (some .int)) 1 24 args h n r mc ms
abbrev mX0_isRepeated : eMI := (cX0_isRepeated, 4, (some .boolean), RX0, "isRepeated", 1, 24, [], none)
abbrev kX0_isRepeated (args : List Value) (h : eH) (n : Nat) (r : eRes) (mc ms : Nat) : Prop := eM yX0_isRepeated (.code yX0_isRepeated cX0_isRepeated 4 (some .boolean)) 1 24 args h n r mc ms
abbrev mX1_init : eMI := (cX1_init, 1, none, RX1, "<init>", 1, 24, [], none)
abbrev kX1_init (args : List Value) (h : eH) (n : Nat) (r : eRes) (mc ms : Nat) : Prop := eM yX1_init (.code yX1_init cX1_init 1 none) 1 24 args h n r mc ms
abbrev mX1_bestCode : eMI := (cX1_bestCode, 10, (some .int), RX1, "bestCode", 4, 92, [], none)
abbrev kX1_bestCode (args : List Value) (h : eH) (n : Nat) (r : eRes) (mc ms : Nat) : Prop := eM yX1_bestCode (.code yX1_bestCode cX1_bestCode 10 (some .int)) 4 92 args h n r mc ms
abbrev mX1_countNames : eMI := (cX1_countNames, 3, none, RX1, "countNames", 3, 70, [], none)
abbrev kX1_countNames (args : List Value) (h : eH) (n : Nat) (r : eRes) (mc ms : Nat) : Prop := eM yX1_countNames (.code yX1_countNames cX1_countNames 3 none) 3 70 args h n r mc ms
abbrev mX1_countLetters : eMI := (cX1_countLetters, 4, none, RX1, "countLetters", 2, 47, [], none)
abbrev kX1_countLetters (args : List Value) (h : eH) (n : Nat) (r : eRes) (mc ms : Nat) : Prop := eM yX1_countLetters (.code yX1_countLetters cX1_countLetters 4 none) 2 47 args h n r mc ms
abbrev mX1_namesWithLettersOf : eMI := (cX1_namesWithLettersOf, 5, (some .int), RX1, "namesWithLettersOf", 1, 24, [], none)
abbrev kX1_namesWithLettersOf (args : List Value) (h : eH) (n : Nat) (r : eRes) (mc ms : Nat) : Prop := eM yX1_namesWithLettersOf (.code yX1_namesWithLettersOf cX1_namesWithLettersOf 5 (some .int)) 1 24 args h n r mc ms
abbrev mX2_init : eMI := (cX2_init, 1, none, RX2, "<init>", 1, 24, [], none)
abbrev kX2_init (args : List Value) (h : eH) (n : Nat) (r : eRes) (mc ms : Nat) : Prop := eM yX2_init (.code yX2_init cX2_init 1 none) 1 24 args h n r mc ms
abbrev mX2_copyFrom : eMI := (cX2_copyFrom, 2, none, RX2, "copyFrom", 1, 60, [], none)
abbrev kX2_copyFrom (args : List Value) (h : eH) (n : Nat) (r : eRes) (mc ms : Nat) : Prop := eM yX2_copyFrom (.code yX2_copyFrom cX2_copyFrom 2 none) 1 60 args h n r mc ms
abbrev mX2_has : eMI := (cX2_has, 2, (some .boolean), RX2, "has", 0, 0, [], none)
abbrev kX2_has (args : List Value) (h : eH) (n : Nat) (r : eRes) (mc ms : Nat) : Prop := eM yX2_has (.code yX2_has cX2_has 2 (some .boolean)) 0 0 args h n r mc ms
abbrev mX2_isFull : eMI := (cX2_isFull, 1, (some .boolean), RX2, "isFull", 0, 0, [], none)
abbrev kX2_isFull (args : List Value) (h : eH) (n : Nat) (r : eRes) (mc ms : Nat) : Prop := eM yX2_isFull (.code yX2_isFull cX2_isFull 1 (some .boolean)) 0 0 args h n r mc ms
abbrev mX2_add : eMI := (cX2_add, 6, none, RX2, "add", 1, 20, [], none)
abbrev kX2_add (args : List Value) (h : eH) (n : Nat) (r : eRes) (mc ms : Nat) : Prop := eM yX2_add (.code yX2_add cX2_add 6 none) 1 20 args h n r mc ms
abbrev mX2_use : eMI := (cX2_use, 4, none, RX2, "use", 0, 0, [], none)
abbrev kX2_use (args : List Value) (h : eH) (n : Nat) (r : eRes) (mc ms : Nat) : Prop := eM yX2_use (.code yX2_use cX2_use 4 none) 0 0 args h n r mc ms
abbrev mX2_isAlive : eMI := (cX2_isAlive, 2, (some .boolean), RX2, "isAlive", 0, 0, [], none)
abbrev kX2_isAlive (args : List Value) (h : eH) (n : Nat) (r : eRes) (mc ms : Nat) : Prop := eM yX2_isAlive (.code yX2_isAlive cX2_isAlive 2 (some .boolean)) 0 0 args h n r mc ms
abbrev mX2_isAliveAs : eMI := (cX2_isAliveAs, 4, (some .boolean), RX2, "isAliveAs", 0, 0, [], none)
abbrev kX2_isAliveAs (args : List Value) (h : eH) (n : Nat) (r : eRes) (mc ms : Nat) : Prop := eM yX2_isAliveAs (.code yX2_isAliveAs cX2_isAliveAs 4 (some .boolean)) 0 0 args h n r mc ms
abbrev mX2_aliveNameOf : eMI := (cX2_aliveNameOf, 5, (some .int), RX2, "aliveNameOf", 1, 23, [], none)
abbrev kX2_aliveNameOf (args : List Value) (h : eH) (n : Nat) (r : eRes) (mc ms : Nat) : Prop := eM yX2_aliveNameOf (.code yX2_aliveNameOf cX2_aliveNameOf 5 (some .int)) 1 23 args h n r mc ms
abbrev mX2_alive : eMI := (cX2_alive, 1, (some .int), RX2, "alive", 1, 23, [], none)
abbrev kX2_alive (args : List Value) (h : eH) (n : Nat) (r : eRes) (mc ms : Nat) : Prop := eM yX2_alive (.code yX2_alive cX2_alive 1 (some .int)) 1 23 args h n r mc ms
abbrev mX2_inState : eMI := (cX2_inState, 4, (some .int), RX2, "inState", 0, 0, [], none)
abbrev kX2_inState (args : List Value) (h : eH) (n : Nat) (r : eRes) (mc ms : Nat) : Prop := eM yX2_inState (.code yX2_inState cX2_inState 4 (some .int)) 0 0 args h n r mc ms
abbrev mX2_aliveOf : eMI := (cX2_aliveOf, 4, (some .int), RX2, "aliveOf", 0, 0, [], none)
abbrev kX2_aliveOf (args : List Value) (h : eH) (n : Nat) (r : eRes) (mc ms : Nat) : Prop := eM yX2_aliveOf (.code yX2_aliveOf cX2_aliveOf 4 (some .int)) 0 0 args h n r mc ms
abbrev mX2_usesTogether : eMI := (cX2_usesTogether, 3, (some .int), RX2, "usesTogether", 0, 0, [], none)
abbrev kX2_usesTogether (args : List Value) (h : eH) (n : Nat) (r : eRes) (mc ms : Nat) : Prop := eM yX2_usesTogether (.code yX2_usesTogether cX2_usesTogether 3 (some .int)) 0 0 args h n r mc ms
abbrev mX2_givenBy : eMI := (cX2_givenBy, 4, (some .int), RX2, "givenBy", 0, 0, [], none)
abbrev kX2_givenBy (args : List Value) (h : eH) (n : Nat) (r : eRes) (mc ms : Nat) : Prop := eM yX2_givenBy (.code yX2_givenBy cX2_givenBy 4 (some .int)) 0 0 args h n r mc ms
abbrev mX2_stuckGivenBy : eMI := (cX2_stuckGivenBy, 4, (some .int), RX2, "stuckGivenBy", 0, 0, [], none)
abbrev kX2_stuckGivenBy (args : List Value) (h : eH) (n : Nat) (r : eRes) (mc ms : Nat) : Prop := eM yX2_stuckGivenBy (.code yX2_stuckGivenBy cX2_stuckGivenBy 4 (some .int)) 0 0 args h n r mc ms
abbrev mX2_sticksBetter : eMI := (cX2_sticksBetter, 5, (some .boolean), RX2, "sticksBetter", 1, 23, [], none)
abbrev kX2_sticksBetter (args : List Value) (h : eH) (n : Nat) (r : eRes) (mc ms : Nat) : Prop := eM yX2_sticksBetter (.code yX2_sticksBetter cX2_sticksBetter 5 (some .boolean)) 1 23 args h n r mc ms
abbrev mX2_ranked : eMI := (cX2_ranked, 3, (some .int), RX2, "ranked", 3, 72, [], none)
abbrev kX2_ranked (args : List Value) (h : eH) (n : Nat) (r : eRes) (mc ms : Nat) : Prop := eM yX2_ranked (.code yX2_ranked cX2_ranked 3 (some .int)) 3 72 args h n r mc ms
abbrev mX2_aliveAheadOf : eMI := (cX2_aliveAheadOf, 6, (some .int), RX2, "aliveAheadOf", 2, 47, [], none)
abbrev kX2_aliveAheadOf (args : List Value) (h : eH) (n : Nat) (r : eRes) (mc ms : Nat) : Prop := eM yX2_aliveAheadOf (.code yX2_aliveAheadOf cX2_aliveAheadOf 6 (some .int)) 2 47 args h n r mc ms
abbrev mX3_init : eMI := (cX3_init, 2, none, RX3, "<init>", 3, 65, [], none)
abbrev kX3_init (args : List Value) (h : eH) (n : Nat) (r : eRes) (mc ms : Nat) : Prop := eM yX3_init (.code yX3_init cX3_init 2 none) 3 65 args h n r mc ms
abbrev mX3_forgetAll : eMI := (cX3_forgetAll, 1, none, RX3, "forgetAll", 0, 0, [], none)
abbrev kX3_forgetAll (args : List Value) (h : eH) (n : Nat) (r : eRes) (mc ms : Nat) : Prop := eM yX3_forgetAll (.code yX3_forgetAll cX3_forgetAll 1 none) 0 0 args h n r mc ms
abbrev mX3_remember : eMI := (cX3_remember, 2, none, RX3, "remember", 3, 102, [], none)
abbrev kX3_remember (args : List Value) (h : eH) (n : Nat) (r : eRes) (mc ms : Nat) : Prop := eM yX3_remember (.code yX3_remember cX3_remember 2 none) 3 102 args h n r mc ms
abbrev mX3_takeBack : eMI := (cX3_takeBack, 2, none, RX3, "takeBack", 3, 102, [], none)
abbrev kX3_takeBack (args : List Value) (h : eH) (n : Nat) (r : eRes) (mc ms : Nat) : Prop := eM yX3_takeBack (.code yX3_takeBack cX3_takeBack 2 none) 3 102 args h n r mc ms
abbrev mX4_init : eMI := (cX4_init, 1, none, RX4, "<init>", 1, 24, [], none)
abbrev kX4_init (args : List Value) (h : eH) (n : Nat) (r : eRes) (mc ms : Nat) : Prop := eM yX4_init (.code yX4_init cX4_init 1 none) 1 24 args h n r mc ms
abbrev mX4_copyFrom : eMI := (cX4_copyFrom, 2, none, RX4, "copyFrom", 1, 60, [], none)
abbrev kX4_copyFrom (args : List Value) (h : eH) (n : Nat) (r : eRes) (mc ms : Nat) : Prop := eM yX4_copyFrom (.code yX4_copyFrom cX4_copyFrom 2 none) 1 60 args h n r mc ms
abbrev mX4_has : eMI := (cX4_has, 2, (some .boolean), RX4, "has", 0, 0, [], none)
abbrev kX4_has (args : List Value) (h : eH) (n : Nat) (r : eRes) (mc ms : Nat) : Prop := eM yX4_has (.code yX4_has cX4_has 2 (some .boolean)) 0 0 args h n r mc ms
abbrev mX4_isFull : eMI := (cX4_isFull, 1, (some .boolean), RX4, "isFull", 0, 0, [], none)
abbrev kX4_isFull (args : List Value) (h : eH) (n : Nat) (r : eRes) (mc ms : Nat) : Prop := eM yX4_isFull (.code yX4_isFull cX4_isFull 1 (some .boolean)) 0 0 args h n r mc ms
abbrev mX4_add : eMI := (cX4_add, 4, none, RX4, "add", 1, 20, [], none)
abbrev kX4_add (args : List Value) (h : eH) (n : Nat) (r : eRes) (mc ms : Nat) : Prop := eM yX4_add (.code yX4_add cX4_add 4 none) 1 20 args h n r mc ms
abbrev mX4_growOlder : eMI := (cX4_growOlder, 2, none, RX4, "growOlder", 0, 0, [], none)
abbrev kX4_growOlder (args : List Value) (h : eH) (n : Nat) (r : eRes) (mc ms : Nat) : Prop := eM yX4_growOlder (.code yX4_growOlder cX4_growOlder 2 none) 0 0 args h n r mc ms
abbrev mX4_areBrothers : eMI := (cX4_areBrothers, 3, (some .boolean), RX4, "areBrothers", 0, 0, [], none)
abbrev kX4_areBrothers (args : List Value) (h : eH) (n : Nat) (r : eRes) (mc ms : Nat) : Prop := eM yX4_areBrothers (.code yX4_areBrothers cX4_areBrothers 3 (some .boolean)) 0 0 args h n r mc ms
abbrev mX4_isYoungerBeside : eMI := (cX4_isYoungerBeside, 3, (some .boolean), RX4, "isYoungerBeside", 0, 0, [], none)
abbrev kX4_isYoungerBeside (args : List Value) (h : eH) (n : Nat) (r : eRes) (mc ms : Nat) : Prop := eM yX4_isYoungerBeside (.code yX4_isYoungerBeside cX4_isYoungerBeside 3 (some .boolean)) 0 0 args h n r mc ms
abbrev mX4_brothersOf : eMI := (cX4_brothersOf, 4, (some .int), RX4, "brothersOf", 1, 22, [], none)
abbrev kX4_brothersOf (args : List Value) (h : eH) (n : Nat) (r : eRes) (mc ms : Nat) : Prop := eM yX4_brothersOf (.code yX4_brothersOf cX4_brothersOf 4 (some .int)) 1 22 args h n r mc ms
abbrev mX4_firstBrotherOn : eMI := (cX4_firstBrotherOn, 4, (some .int), RX4, "firstBrotherOn", 1, 22, [], none)
abbrev kX4_firstBrotherOn (args : List Value) (h : eH) (n : Nat) (r : eRes) (mc ms : Nat) : Prop := eM yX4_firstBrotherOn (.code yX4_firstBrotherOn cX4_firstBrotherOn 4 (some .int)) 1 22 args h n r mc ms
abbrev mX5_init : eMI := (cX5_init, 2, none, RX5, "<init>", 2, 44, [], none)
abbrev kX5_init (args : List Value) (h : eH) (n : Nat) (r : eRes) (mc ms : Nat) : Prop := eM yX5_init (.code yX5_init cX5_init 2 none) 2 44 args h n r mc ms
abbrev mX5_empty : eMI := (cX5_empty, 2, none, RX5, "empty", 0, 0, [], none)
abbrev kX5_empty (args : List Value) (h : eH) (n : Nat) (r : eRes) (mc ms : Nat) : Prop := eM yX5_empty (.code yX5_empty cX5_empty 2 none) 0 0 args h n r mc ms
abbrev mX5_copyFrom : eMI := (cX5_copyFrom, 2, none, RX5, "copyFrom", 2, 81, [], none)
abbrev kX5_copyFrom (args : List Value) (h : eH) (n : Nat) (r : eRes) (mc ms : Nat) : Prop := eM yX5_copyFrom (.code yX5_copyFrom cX5_copyFrom 2 none) 2 81 args h n r mc ms
abbrev mX5_reasonAgainst : eMI := (cX5_reasonAgainst, 6, (some .int), RX5, "reasonAgainst", 2, 49, [], none)
abbrev kX5_reasonAgainst (args : List Value) (h : eH) (n : Nat) (r : eRes) (mc ms : Nat) : Prop := eM yX5_reasonAgainst (.code yX5_reasonAgainst cX5_reasonAgainst 6 (some .int)) 2 49 args h n r mc ms
abbrev mX5_reasonAgainstAnyName : eMI := (cX5_reasonAgainstAnyName, 3, (some .int), RX5, "reasonAgainstAnyName", 1, 23, [], none)
abbrev kX5_reasonAgainstAnyName (args : List Value) (h : eH) (n : Nat) (r : eRes) (mc ms : Nat) : Prop := eM yX5_reasonAgainstAnyName (.code yX5_reasonAgainstAnyName cX5_reasonAgainstAnyName 3 (some .int)) 1 23 args h n r mc ms
abbrev mX5_isTaken : eMI := (cX5_isTaken, 7, (some .boolean), RX5, "isTaken", 1, 23, [], none)
abbrev kX5_isTaken (args : List Value) (h : eH) (n : Nat) (r : eRes) (mc ms : Nat) : Prop := eM yX5_isTaken (.code yX5_isTaken cX5_isTaken 7 (some .boolean)) 1 23 args h n r mc ms
abbrev mX5_isKeptFrom : eMI := (cX5_isKeptFrom, 4, (some .boolean), RX5, "isKeptFrom", 2, 49, [], none)
abbrev kX5_isKeptFrom (args : List Value) (h : eH) (n : Nat) (r : eRes) (mc ms : Nat) : Prop := eM yX5_isKeptFrom (.code yX5_isKeptFrom cX5_isKeptFrom 4 (some .boolean)) 2 49 args h n r mc ms
abbrev mX5_meantByPeople : eMI := (cX5_meantByPeople, 5, (some .int), RX5, "meantByPeople", 3, 71, [], none)
abbrev kX5_meantByPeople (args : List Value) (h : eH) (n : Nat) (r : eRes) (mc ms : Nat) : Prop := eM yX5_meantByPeople (.code yX5_meantByPeople cX5_meantByPeople 5 (some .int)) 3 71 args h n r mc ms
abbrev mX5_firstBrotherNamed : eMI := (cX5_firstBrotherNamed, 5, (some .int), RX5, "firstBrotherNamed", 2, 47, [], none)
abbrev kX5_firstBrotherNamed (args : List Value) (h : eH) (n : Nat) (r : eRes) (mc ms : Nat) : Prop := eM yX5_firstBrotherNamed (.code yX5_firstBrotherNamed cX5_firstBrotherNamed 5 (some .int)) 2 47 args h n r mc ms
abbrev mX5_meantByNames : eMI := (cX5_meantByNames, 8, (some .int), RX5, "meantByNames", 2, 45, [], none)
abbrev kX5_meantByNames (args : List Value) (h : eH) (n : Nat) (r : eRes) (mc ms : Nat) : Prop := eM yX5_meantByNames (.code yX5_meantByNames cX5_meantByNames 8 (some .int)) 2 45 args h n r mc ms
abbrev mX5_callFor : eMI := (cX5_callFor, 6, (some .int), RX5, "callFor", 4, 95, [], none)
abbrev kX5_callFor (args : List Value) (h : eH) (n : Nat) (r : eRes) (mc ms : Nat) : Prop := eM yX5_callFor (.code yX5_callFor cX5_callFor 6 (some .int)) 4 95 args h n r mc ms
abbrev mX5_mixUp : eMI := (cX5_mixUp, 3, none, RX5, "mixUp", 1, 21, [], none)
abbrev kX5_mixUp (args : List Value) (h : eH) (n : Nat) (r : eRes) (mc ms : Nat) : Prop := eM yX5_mixUp (.code yX5_mixUp cX5_mixUp 3 none) 1 21 args h n r mc ms
abbrev mX5_passYears : eMI := (cX5_passYears, 4, (some .int), RX5, "passYears", 4, 93, [], none)
abbrev kX5_passYears (args : List Value) (h : eH) (n : Nat) (r : eRes) (mc ms : Nat) : Prop := eM yX5_passYears (.code yX5_passYears cX5_passYears 4 (some .int)) 4 93 args h n r mc ms
abbrev mX5_endNames : eMI := (cX5_endNames, 4, (some .int), RX5, "endNames", 3, 70, [], none)
abbrev kX5_endNames (args : List Value) (h : eH) (n : Nat) (r : eRes) (mc ms : Nat) : Prop := eM yX5_endNames (.code yX5_endNames cX5_endNames 4 (some .int)) 3 70 args h n r mc ms
abbrev mX5_oldestFor : eMI := (cX5_oldestFor, 2, (some .int), RX5, "oldestFor", 0, 0, [], none)
abbrev kX5_oldestFor (args : List Value) (h : eH) (n : Nat) (r : eRes) (mc ms : Nat) : Prop := eM yX5_oldestFor (.code yX5_oldestFor cX5_oldestFor 2 (some .int)) 0 0 args h n r mc ms
abbrev mX5_outgrow : eMI := (cX5_outgrow, 4, none, RX5, "outgrow", 2, 47, [], none)
abbrev kX5_outgrow (args : List Value) (h : eH) (n : Nat) (r : eRes) (mc ms : Nat) : Prop := eM yX5_outgrow (.code yX5_outgrow cX5_outgrow 4 none) 2 47 args h n r mc ms
abbrev mX5_heirOf : eMI := (cX5_heirOf, 5, (some .int), RX5, "heirOf", 1, 23, [], none)
abbrev kX5_heirOf (args : List Value) (h : eH) (n : Nat) (r : eRes) (mc ms : Nat) : Prop := eM yX5_heirOf (.code yX5_heirOf cX5_heirOf 5 (some .int)) 1 23 args h n r mc ms
abbrev mX5_yearsLeft : eMI := (cX5_yearsLeft, 4, (some .int), RX5, "yearsLeft", 1, 21, [], none)
abbrev kX5_yearsLeft (args : List Value) (h : eH) (n : Nat) (r : eRes) (mc ms : Nat) : Prop := eM yX5_yearsLeft (.code yX5_yearsLeft cX5_yearsLeft 4 (some .int)) 1 21 args h n r mc ms
abbrev mX5_triesPerson : eMI := (cX5_triesPerson, 4, (some .boolean), RX5, "triesPerson", 2, 43, [], none)
abbrev kX5_triesPerson (args : List Value) (h : eH) (n : Nat) (r : eRes) (mc ms : Nat) : Prop := eM yX5_triesPerson (.code yX5_triesPerson cX5_triesPerson 4 (some .boolean)) 2 43 args h n r mc ms
abbrev mX5_triesSitting : eMI := (cX5_triesSitting, 3, (some .boolean), RX5, "triesSitting", 3, 72, [], none)
abbrev kX5_triesSitting (args : List Value) (h : eH) (n : Nat) (r : eRes) (mc ms : Nat) : Prop := eM yX5_triesSitting (.code yX5_triesSitting cX5_triesSitting 3 (some .boolean)) 3 72 args h n r mc ms
abbrev mX5_triesGiving : eMI := (cX5_triesGiving, 5, (some .boolean), RX5, "triesGiving", 3, 74, [], none)
abbrev kX5_triesGiving (args : List Value) (h : eH) (n : Nat) (r : eRes) (mc ms : Nat) : Prop := eM yX5_triesGiving (.code yX5_triesGiving cX5_triesGiving 5 (some .boolean)) 3 74 args h n r mc ms
abbrev mX5_triesSetting : eMI := (cX5_triesSetting, 3, (some .boolean), RX5, "triesSetting", 1, 22, [], none)
abbrev kX5_triesSetting (args : List Value) (h : eH) (n : Nat) (r : eRes) (mc ms : Nat) : Prop := eM yX5_triesSetting (.code yX5_triesSetting cX5_triesSetting 3 (some .boolean)) 1 22 args h n r mc ms
abbrev mX5_obeys : eMI := (cX5_obeys, 3, (some .boolean), RX5, "obeys", 5, 120, [], none)
abbrev kX5_obeys (args : List Value) (h : eH) (n : Nat) (r : eRes) (mc ms : Nat) : Prop := eM yX5_obeys (.code yX5_obeys cX5_obeys 3 (some .boolean)) 5 120 args h n r mc ms
abbrev mX6_beyond : eMI := (cX6_beyond, 4, (some .long), RX6, "beyond", 0, 0, [], none)
abbrev kX6_beyond (args : List Value) (h : eH) (n : Nat) (r : eRes) (mc ms : Nat) : Prop := eM yX6_beyond (.code yX6_beyond cX6_beyond 4 (some .long)) 0 0 args h n r mc ms
abbrev mX6_group : eMI := (cX6_group, 7, (some .int), RX6, "group", 0, 0, [], none)
abbrev kX6_group (args : List Value) (h : eH) (n : Nat) (r : eRes) (mc ms : Nat) : Prop := eM yX6_group (.code yX6_group cX6_group 7 (some .int)) 0 0 args h n r mc ms
abbrev mX6_succeeds : eMI := (cX6_succeeds, 7, (some .boolean), RX6, "succeeds", 5, 120, [], none)
abbrev kX6_succeeds (args : List Value) (h : eH) (n : Nat) (r : eRes) (mc ms : Nat) : Prop := eM yX6_succeeds (.code yX6_succeeds cX6_succeeds 7 (some .boolean)) 5 120 args h n r mc ms
abbrev mX6_hasNames : eMI := (cX6_hasNames, 3, (some .boolean), RX6, "hasNames", 1, 23, [], none)
abbrev kX6_hasNames (args : List Value) (h : eH) (n : Nat) (r : eRes) (mc ms : Nat) : Prop := eM yX6_hasNames (.code yX6_hasNames cX6_hasNames 3 (some .boolean)) 1 23 args h n r mc ms
abbrev mX6_means : eMI := (cX6_means, 4, (some .boolean), RX6, "means", 4, 95, [], none)
abbrev kX6_means (args : List Value) (h : eH) (n : Nat) (r : eRes) (mc ms : Nat) : Prop := eM yX6_means (.code yX6_means cX6_means 4 (some .boolean)) 4 95 args h n r mc ms
abbrev mX6_isInState : eMI := (cX6_isInState, 3, (some .boolean), RX6, "isInState", 1, 21, [], none)
abbrev kX6_isInState (args : List Value) (h : eH) (n : Nat) (r : eRes) (mc ms : Nat) : Prop := eM yX6_isInState (.code yX6_isInState cX6_isInState 3 (some .boolean)) 1 21 args h n r mc ms
abbrev mX7_takeTurn : eMI := (cX7_takeTurn, 3, none, RX7, "takeTurn", 5, 120, [], none)
abbrev kX7_takeTurn (args : List Value) (h : eH) (n : Nat) (r : eRes) (mc ms : Nat) : Prop := eM yX7_takeTurn (.code yX7_takeTurn cX7_takeTurn 3 none) 5 120 args h n r mc ms
abbrev mX8_init : eMI := (cX8_init, 2, none, RX8, "<init>", 3, 65, [], none)
abbrev kX8_init (args : List Value) (h : eH) (n : Nat) (r : eRes) (mc ms : Nat) : Prop := eM yX8_init (.code yX8_init cX8_init 2 none) 3 65 args h n r mc ms
abbrev mX8_forgetAll : eMI := (cX8_forgetAll, 2, none, RX8, "forgetAll", 0, 0, [], none)
abbrev kX8_forgetAll (args : List Value) (h : eH) (n : Nat) (r : eRes) (mc ms : Nat) : Prop := eM yX8_forgetAll (.code yX8_forgetAll cX8_forgetAll 2 none) 0 0 args h n r mc ms
abbrev mX9_init : eMI := (cX9_init, 1, none, RX9, "<init>", 1, 24, [], none)
abbrev kX9_init (args : List Value) (h : eH) (n : Nat) (r : eRes) (mc ms : Nat) : Prop := eM yX9_init (.code yX9_init cX9_init 1 none) 1 24 args h n r mc ms
abbrev mX9_put : eMI := (cX9_put, 2, none, RX9, "put", 0, 0, [], none)
abbrev kX9_put (args : List Value) (h : eH) (n : Nat) (r : eRes) (mc ms : Nat) : Prop := eM yX9_put (.code yX9_put cX9_put 2 none) 0 0 args h n r mc ms
abbrev mX9_firstError : eMI := (cX9_firstError, 2, (some .int), RX9, "firstError", 4, 86, [], none)
abbrev kX9_firstError (args : List Value) (h : eH) (n : Nat) (r : eRes) (mc ms : Nat) : Prop := eM yX9_firstError (.code yX9_firstError cX9_firstError 2 (some .int)) 4 86 args h n r mc ms
abbrev mX9_readHead : eMI := (cX9_readHead, 1, (some .boolean), RX9, "readHead", 2, 41, [], none)
abbrev kX9_readHead (args : List Value) (h : eH) (n : Nat) (r : eRes) (mc ms : Nat) : Prop := eM yX9_readHead (.code yX9_readHead cX9_readHead 1 (some .boolean)) 2 41 args h n r mc ms
abbrev mX9_readCommand : eMI := (cX9_readCommand, 1, (some .boolean), RX9, "readCommand", 3, 66, [], none)
abbrev kX9_readCommand (args : List Value) (h : eH) (n : Nat) (r : eRes) (mc ms : Nat) : Prop := eM yX9_readCommand (.code yX9_readCommand cX9_readCommand 1 (some .boolean)) 3 66 args h n r mc ms
abbrev mX9_here : eMI := (cX9_here, 1, (some .int), RX9, "here", 0, 0, [], none)
abbrev kX9_here (args : List Value) (h : eH) (n : Nat) (r : eRes) (mc ms : Nat) : Prop := eM yX9_here (.code yX9_here cX9_here 1 (some .int)) 0 0 args h n r mc ms
abbrev mX9_reads : eMI := (cX9_reads, 2, (some .boolean), RX9, "reads", 1, 20, [], none)
abbrev kX9_reads (args : List Value) (h : eH) (n : Nat) (r : eRes) (mc ms : Nat) : Prop := eM yX9_reads (.code yX9_reads cX9_reads 2 (some .boolean)) 1 20 args h n r mc ms
abbrev mX9_readsDigit : eMI := (cX9_readsDigit, 4, (some .boolean), RX9, "readsDigit", 2, 43, [], none)
abbrev kX9_readsDigit (args : List Value) (h : eH) (n : Nat) (r : eRes) (mc ms : Nat) : Prop := eM yX9_readsDigit (.code yX9_readsDigit cX9_readsDigit 4 (some .boolean)) 2 43 args h n r mc ms
abbrev mX9_readsPair : eMI := (cX9_readsPair, 4, (some .boolean), RX9, "readsPair", 2, 43, [], none)
abbrev kX9_readsPair (args : List Value) (h : eH) (n : Nat) (r : eRes) (mc ms : Nat) : Prop := eM yX9_readsPair (.code yX9_readsPair cX9_readsPair 4 (some .boolean)) 2 43 args h n r mc ms
abbrev mX9_takeDigit : eMI := (cX9_takeDigit, 4, (some .int), RX9, "takeDigit", 1, 20, [], none)
abbrev kX9_takeDigit (args : List Value) (h : eH) (n : Nat) (r : eRes) (mc ms : Nat) : Prop := eM yX9_takeDigit (.code yX9_takeDigit cX9_takeDigit 4 (some .int)) 1 20 args h n r mc ms
abbrev mX9_readsLetters : eMI := (cX9_readsLetters, 4, (some .boolean), RX9, "readsLetters", 2, 41, [], none)
abbrev kX9_readsLetters (args : List Value) (h : eH) (n : Nat) (r : eRes) (mc ms : Nat) : Prop := eM yX9_readsLetters (.code yX9_readsLetters cX9_readsLetters 4 (some .boolean)) 2 41 args h n r mc ms
abbrev mX9_tells : eMI := (cX9_tells, 2, (some .boolean), RX9, "tells", 0, 0, [], none)
abbrev kX9_tells (args : List Value) (h : eH) (n : Nat) (r : eRes) (mc ms : Nat) : Prop := eM yX9_tells (.code yX9_tells cX9_tells 2 (some .boolean)) 0 0 args h n r mc ms
abbrev mJ9_max_7cf53 : eMI := (cJ9_max_7cf53, 2, (some .int), RJ9, "max", 0, 0, [], none)
abbrev kJ9_max_7cf53 (args : List Value) (h : eH) (n : Nat) (r : eRes) (mc ms : Nat) : Prop := eM yJ9_max_7cf53 (.code yJ9_max_7cf53 cJ9_max_7cf53 2 (some .int)) 0 0 args h n r mc ms
abbrev mJ9_min_7cf53 : eMI := (cJ9_min_7cf53, 2, (some .int), RJ9, "min", 0, 0, [], none)
abbrev kJ9_min_7cf53 (args : List Value) (h : eH) (n : Nat) (r : eRes) (mc ms : Nat) : Prop := eM yJ9_min_7cf53 (.code yJ9_min_7cf53 cJ9_min_7cf53 2 (some .int)) 0 0 args h n r mc ms
abbrev mX10_init : eMI := (cX10_init, 1, none, RX10, "<init>", 4, 86, [], none)
abbrev kX10_init (args : List Value) (h : eH) (n : Nat) (r : eRes) (mc ms : Nat) : Prop := eM yX10_init (.code yX10_init cX10_init 1 none) 4 86 args h n r mc ms
abbrev mX10_append : eMI := (cX10_append, 2, (some .int), RX10, "append", 6, 90, [], none)
abbrev kX10_append (args : List Value) (h : eH) (n : Nat) (r : eRes) (mc ms : Nat) : Prop := eM yX10_append (.code yX10_append cX10_append 2 (some .int)) 6 90 args h n r mc ms
abbrev mX10_clearText : eMI := (cX10_clearText, 2, (some .int), RX10, "clearText", 0, 0, [], none)
abbrev kX10_clearText (args : List Value) (h : eH) (n : Nat) (r : eRes) (mc ms : Nat) : Prop := eM yX10_clearText (.code yX10_clearText cX10_clearText 2 (some .int)) 0 0 args h n r mc ms
abbrev mX10_errorPosition : eMI := (cX10_errorPosition, 1, (some .int), RX10, "errorPosition", 5, 107, [], none)
abbrev kX10_errorPosition (args : List Value) (h : eH) (n : Nat) (r : eRes) (mc ms : Nat) : Prop := eM yX10_errorPosition (.code yX10_errorPosition cX10_errorPosition 1 (some .int)) 5 107 args h n r mc ms
abbrev mX10_load : eMI := (cX10_load, 3, (some .int), RX10, "load", 6, 142, [], none)
abbrev kX10_load (args : List Value) (h : eH) (n : Nat) (r : eRes) (mc ms : Nat) : Prop := eM yX10_load (.code yX10_load cX10_load 3 (some .int)) 6 142 args h n r mc ms
abbrev mX10_about : eMI := (cX10_about, 2, (some .int), RX10, "about", 6, 90, [], none)
abbrev kX10_about (args : List Value) (h : eH) (n : Nat) (r : eRes) (mc ms : Nat) : Prop := eM yX10_about (.code yX10_about cX10_about 2 (some .int)) 6 90 args h n r mc ms
abbrev mX10_personOf : eMI := (cX10_personOf, 3, (some .int), RX10, "personOf", 7, 111, [], none)
abbrev kX10_personOf (args : List Value) (h : eH) (n : Nat) (r : eRes) (mc ms : Nat) : Prop := eM yX10_personOf (.code yX10_personOf cX10_personOf 3 (some .int)) 7 111 args h n r mc ms
abbrev mX10_nameOf : eMI := (cX10_nameOf, 3, (some .int), RX10, "nameOf", 7, 111, [], none)
abbrev kX10_nameOf (args : List Value) (h : eH) (n : Nat) (r : eRes) (mc ms : Nat) : Prop := eM yX10_nameOf (.code yX10_nameOf cX10_nameOf 3 (some .int)) 7 111 args h n r mc ms
abbrev mX10_letter : eMI := (cX10_letter, 3, (some .int), RX10, "letter", 7, 111, [], none)
abbrev kX10_letter (args : List Value) (h : eH) (n : Nat) (r : eRes) (mc ms : Nat) : Prop := eM yX10_letter (.code yX10_letter cX10_letter 3 (some .int)) 7 111 args h n r mc ms
abbrev mX10_roll : eMI := (cX10_roll, 2, (some .int), RX10, "roll", 6, 94, [], none)
abbrev kX10_roll (args : List Value) (h : eH) (n : Nat) (r : eRes) (mc ms : Nat) : Prop := eM yX10_roll (.code yX10_roll cX10_roll 2 (some .int)) 6 94 args h n r mc ms
abbrev mX10_meant : eMI := (cX10_meant, 5, (some .int), RX10, "meant", 7, 111, [], none)
abbrev kX10_meant (args : List Value) (h : eH) (n : Nat) (r : eRes) (mc ms : Nat) : Prop := eM yX10_meant (.code yX10_meant cX10_meant 5 (some .int)) 7 111 args h n r mc ms
abbrev mX10_person : eMI := (cX10_person, 4, (some .int), RX10, "person", 7, 123, [], none)
abbrev kX10_person (args : List Value) (h : eH) (n : Nat) (r : eRes) (mc ms : Nat) : Prop := eM yX10_person (.code yX10_person cX10_person 4 (some .int)) 7 123 args h n r mc ms
abbrev mX10_sit : eMI := (cX10_sit, 4, (some .int), RX10, "sit", 7, 123, [], none)
abbrev kX10_sit (args : List Value) (h : eH) (n : Nat) (r : eRes) (mc ms : Nat) : Prop := eM yX10_sit (.code yX10_sit cX10_sit 4 (some .int)) 7 123 args h n r mc ms
abbrev mX10_give : eMI := (cX10_give, 6, (some .int), RX10, "give", 7, 123, [], none)
abbrev kX10_give (args : List Value) (h : eH) (n : Nat) (r : eRes) (mc ms : Nat) : Prop := eM yX10_give (.code yX10_give cX10_give 6 (some .int)) 7 123 args h n r mc ms
abbrev mX10_call : eMI := (cX10_call, 5, (some .int), RX10, "call", 7, 123, [], none)
abbrev kX10_call (args : List Value) (h : eH) (n : Nat) (r : eRes) (mc ms : Nat) : Prop := eM yX10_call (.code yX10_call cX10_call 5 (some .int)) 7 123 args h n r mc ms
abbrev mX10_years : eMI := (cX10_years, 2, (some .int), RX10, "years", 6, 123, [], none)
abbrev kX10_years (args : List Value) (h : eH) (n : Nat) (r : eRes) (mc ms : Nat) : Prop := eM yX10_years (.code yX10_years cX10_years 2 (some .int)) 6 123 args h n r mc ms
abbrev mX10_set : eMI := (cX10_set, 4, (some .int), RX10, "set", 6, 123, [], none)
abbrev kX10_set (args : List Value) (h : eH) (n : Nat) (r : eRes) (mc ms : Nat) : Prop := eM yX10_set (.code yX10_set cX10_set 4 (some .int)) 6 123 args h n r mc ms
abbrev mX10_undo : eMI := (cX10_undo, 1, (some .int), RX10, "undo", 6, 123, [], none)
abbrev kX10_undo (args : List Value) (h : eH) (n : Nat) (r : eRes) (mc ms : Nat) : Prop := eM yX10_undo (.code yX10_undo cX10_undo 1 (some .int)) 6 123 args h n r mc ms
abbrev mX10_why : eMI := (cX10_why, 5, (some .int), RX10, "why", 7, 111, [], none)
abbrev kX10_why (args : List Value) (h : eH) (n : Nat) (r : eRes) (mc ms : Nat) : Prop := eM yX10_why (.code yX10_why cX10_why 5 (some .int)) 7 111 args h n r mc ms
abbrev mX10_endsIn : eMI := (cX10_endsIn, 2, (some .int), RX10, "endsIn", 7, 111, [], none)
abbrev kX10_endsIn (args : List Value) (h : eH) (n : Nat) (r : eRes) (mc ms : Nat) : Prop := eM yX10_endsIn (.code yX10_endsIn cX10_endsIn 2 (some .int)) 7 111 args h n r mc ms
abbrev mX10_bestName : eMI := (cX10_bestName, 4, (some .int), RX10, "bestName", 7, 121, [], none)
abbrev kX10_bestName (args : List Value) (h : eH) (n : Nat) (r : eRes) (mc ms : Nat) : Prop := eM yX10_bestName (.code yX10_bestName cX10_bestName 4 (some .int)) 7 121 args h n r mc ms
abbrev mX10_bestGiver : eMI := (cX10_bestGiver, 3, (some .int), RX10, "bestGiver", 2, 47, [], none)
abbrev kX10_bestGiver (args : List Value) (h : eH) (n : Nat) (r : eRes) (mc ms : Nat) : Prop := eM yX10_bestGiver (.code yX10_bestGiver cX10_bestGiver 3 (some .int)) 2 47 args h n r mc ms
abbrev mX10_mixed : eMI := (cX10_mixed, 3, (some .int), RX10, "mixed", 0, 0, [], none)
abbrev kX10_mixed (args : List Value) (h : eH) (n : Nat) (r : eRes) (mc ms : Nat) : Prop := eM yX10_mixed (.code yX10_mixed cX10_mixed 3 (some .int)) 0 0 args h n r mc ms
abbrev mX10_runScript : eMI := (cX10_runScript, 5, (some .int), RX10, "runScript", 6, 146, [], none)
abbrev kX10_runScript (args : List Value) (h : eH) (n : Nat) (r : eRes) (mc ms : Nat) : Prop := eM yX10_runScript (.code yX10_runScript cX10_runScript 5 (some .int)) 6 146 args h n r mc ms
abbrev mX10_simulate : eMI := (cX10_simulate, 7, (some .int), RX10, "simulate", 6, 142, [], none)
abbrev kX10_simulate (args : List Value) (h : eH) (n : Nat) (r : eRes) (mc ms : Nat) : Prop := eM yX10_simulate (.code yX10_simulate cX10_simulate 7 (some .int)) 6 142 args h n r mc ms
abbrev mX10_save : eMI := (cX10_save, 2, (some .int), RX10, "save", 7, 110, [], none)
abbrev kX10_save (args : List Value) (h : eH) (n : Nat) (r : eRes) (mc ms : Nat) : Prop := eM yX10_save (.code yX10_save cX10_save 2 (some .int)) 7 110 args h n r mc ms
abbrev mX10_restore : eMI := (cX10_restore, 2, (some .int), RX10, "restore", 7, 110, [], none)
abbrev kX10_restore (args : List Value) (h : eH) (n : Nat) (r : eRes) (mc ms : Nat) : Prop := eM yX10_restore (.code yX10_restore cX10_restore 2 (some .int)) 7 110 args h n r mc ms
abbrev mX10_requirePerson : eMI := (cX10_requirePerson, 2, none, RX10, "requirePerson", 6, 90, [], none)
abbrev kX10_requirePerson (args : List Value) (h : eH) (n : Nat) (r : eRes) (mc ms : Nat) : Prop := eM yX10_requirePerson (.code yX10_requirePerson cX10_requirePerson 2 none) 6 90 args h n r mc ms
abbrev mX10_requireName : eMI := (cX10_requireName, 2, none, RX10, "requireName", 6, 90, [], none)
abbrev kX10_requireName (args : List Value) (h : eH) (n : Nat) (r : eRes) (mc ms : Nat) : Prop := eM yX10_requireName (.code yX10_requireName cX10_requireName 2 none) 6 90 args h n r mc ms
abbrev mX10_requireBench : eMI := (cX10_requireBench, 1, none, RX10, "requireBench", 6, 90, [], none)
abbrev kX10_requireBench (args : List Value) (h : eH) (n : Nat) (r : eRes) (mc ms : Nat) : Prop := eM yX10_requireBench (.code yX10_requireBench cX10_requireBench 1 none) 6 90 args h n r mc ms
abbrev mX10_requireCode : eMI := (cX10_requireCode, 2, none, RX10, "requireCode", 6, 90, [], none)
abbrev kX10_requireCode (args : List Value) (h : eH) (n : Nat) (r : eRes) (mc ms : Nat) : Prop := eM yX10_requireCode (.code yX10_requireCode cX10_requireCode 2 none) 6 90 args h n r mc ms
abbrev mX10_requireSlot : eMI := (cX10_requireSlot, 1, none, RX10, "requireSlot", 6, 90, [], none)
abbrev kX10_requireSlot (args : List Value) (h : eH) (n : Nat) (r : eRes) (mc ms : Nat) : Prop := eM yX10_requireSlot (.code yX10_requireSlot cX10_requireSlot 1 none) 6 90 args h n r mc ms
abbrev mX10_isBench : eMI := (cX10_isBench, 1, (some .boolean), RX10, "isBench", 0, 0, [], none)
abbrev kX10_isBench (args : List Value) (h : eH) (n : Nat) (r : eRes) (mc ms : Nat) : Prop := eM yX10_isBench (.code yX10_isBench cX10_isBench 1 (some .boolean)) 0 0 args h n r mc ms
abbrev mX10_isFamily : eMI := (cX10_isFamily, 1, (some .boolean), RX10, "isFamily", 0, 0, [], none)
abbrev kX10_isFamily (args : List Value) (h : eH) (n : Nat) (r : eRes) (mc ms : Nat) : Prop := eM yX10_isFamily (.code yX10_isFamily cX10_isFamily 1 (some .boolean)) 0 0 args h n r mc ms
abbrev mX10_isAgeToCome : eMI := (cX10_isAgeToCome, 1, (some .boolean), RX10, "isAgeToCome", 0, 0, [], none)
abbrev kX10_isAgeToCome (args : List Value) (h : eH) (n : Nat) (r : eRes) (mc ms : Nat) : Prop := eM yX10_isAgeToCome (.code yX10_isAgeToCome cX10_isAgeToCome 1 (some .boolean)) 0 0 args h n r mc ms
abbrev mX10_isYearsAtOnce : eMI := (cX10_isYearsAtOnce, 1, (some .boolean), RX10, "isYearsAtOnce", 0, 0, [], none)
abbrev kX10_isYearsAtOnce (args : List Value) (h : eH) (n : Nat) (r : eRes) (mc ms : Nat) : Prop := eM yX10_isYearsAtOnce (.code yX10_isYearsAtOnce cX10_isYearsAtOnce 1 (some .boolean)) 0 0 args h n r mc ms
abbrev mX10_isSettingWith : eMI := (cX10_isSettingWith, 3, (some .boolean), RX10, "isSettingWith", 0, 0, [], none)
abbrev kX10_isSettingWith (args : List Value) (h : eH) (n : Nat) (r : eRes) (mc ms : Nat) : Prop := eM yX10_isSettingWith (.code yX10_isSettingWith cX10_isSettingWith 3 (some .boolean)) 0 0 args h n r mc ms
abbrev mL_draw : eMI := (cL_draw, 2, (some .int), RL, "draw", 0, 0, [], none)
abbrev kL_draw (args : List Value) (h : eH) (n : Nat) (r : eRes) (mc ms : Nat) : Prop := eM yL_draw (.code yL_draw cL_draw 2 (some .int)) 0 0 args h n r mc ms
abbrev mL_in : eMI := (cL_in, 6, (some .boolean), RL, "in", 0, 0, [], none)
abbrev kL_in (args : List Value) (h : eH) (n : Nat) (r : eRes) (mc ms : Nat) : Prop := eM yL_in (.code yL_in cL_in 6 (some .boolean)) 0 0 args h n r mc ms
abbrev mL_append : eMI := (cL_append, 3, (some .long), RL, "append", 7, 111, tableOf [(0, 6, 7, 15), (0, 6, 12, 19)], none)
abbrev kL_append (args : List Value) (h : eH) (n : Nat) (r : eRes) (mc ms : Nat) : Prop := eM yL_append (.codeWith yL_append cL_append 3 (some .long) [(0, 6, 7, 15), (0, 6, 12, 19)]) 7 111 args h n r mc ms
abbrev mL_load : eMI := (cL_load, 2, (some .long), RL, "load", 7, 164, tableOf [(0, 5, 6, 19)], none)
abbrev kL_load (args : List Value) (h : eH) (n : Nat) (r : eRes) (mc ms : Nat) : Prop := eM yL_load (.codeWith yL_load cL_load 2 (some .long) [(0, 5, 6, 19)]) 7 164 args h n r mc ms
abbrev mL_about : eMI := (cL_about, 3, (some .long), RL, "about", 7, 111, tableOf [(0, 6, 7, 15)], none)
abbrev kL_about (args : List Value) (h : eH) (n : Nat) (r : eRes) (mc ms : Nat) : Prop := eM yL_about (.codeWith yL_about cL_about 3 (some .long) [(0, 6, 7, 15)]) 7 111 args h n r mc ms
abbrev mL_personOf : eMI := (cL_personOf, 4, (some .long), RL, "personOf", 8, 133, tableOf [(0, 7, 8, 34), (0, 7, 13, 15)], none)
abbrev kL_personOf (args : List Value) (h : eH) (n : Nat) (r : eRes) (mc ms : Nat) : Prop := eM yL_personOf (.codeWith yL_personOf cL_personOf 4 (some .long) [(0, 7, 8, 34), (0, 7, 13, 15)]) 8 133 args h n r mc ms
abbrev mL_nameOf : eMI := (cL_nameOf, 4, (some .long), RL, "nameOf", 8, 133, tableOf [(0, 7, 8, 34), (0, 7, 13, 15)], none)
abbrev kL_nameOf (args : List Value) (h : eH) (n : Nat) (r : eRes) (mc ms : Nat) : Prop := eM yL_nameOf (.codeWith yL_nameOf cL_nameOf 4 (some .long) [(0, 7, 8, 34), (0, 7, 13, 15)]) 8 133 args h n r mc ms
abbrev mL_letter : eMI := (cL_letter, 4, (some .long), RL, "letter", 8, 133, tableOf [(0, 7, 8, 34)], none)
abbrev kL_letter (args : List Value) (h : eH) (n : Nat) (r : eRes) (mc ms : Nat) : Prop := eM yL_letter (.codeWith yL_letter cL_letter 4 (some .long) [(0, 7, 8, 34)]) 8 133 args h n r mc ms
abbrev mL_roll : eMI := (cL_roll, 3, (some .long), RL, "roll", 7, 115, tableOf [(0, 6, 7, 15)], none)
abbrev kL_roll (args : List Value) (h : eH) (n : Nat) (r : eRes) (mc ms : Nat) : Prop := eM yL_roll (.codeWith yL_roll cL_roll 3 (some .long) [(0, 6, 7, 15)]) 7 115 args h n r mc ms
abbrev mL_meant : eMI := (cL_meant, 6, (some .long), RL, "meant", 8, 135, tableOf [(0, 10, 11, 34), (0, 10, 17, 15)], none)
abbrev kL_meant (args : List Value) (h : eH) (n : Nat) (r : eRes) (mc ms : Nat) : Prop := eM yL_meant (.codeWith yL_meant cL_meant 6 (some .long) [(0, 10, 11, 34), (0, 10, 17, 15)]) 8 135 args h n r mc ms
abbrev mL_person : eMI := (cL_person, 5, (some .long), RL, "person", 8, 146, tableOf [(0, 8, 9, 34), (0, 8, 15, 15), (0, 8, 21, 19)], none)
abbrev kL_person (args : List Value) (h : eH) (n : Nat) (r : eRes) (mc ms : Nat) : Prop := eM yL_person (.codeWith yL_person cL_person 5 (some .long) [(0, 8, 9, 34), (0, 8, 15, 15), (0, 8, 21, 19)]) 8 146 args h n r mc ms
abbrev mL_sit : eMI := (cL_sit, 4, (some .long), RL, "sit", 8, 146, tableOf [(0, 7, 8, 34), (0, 7, 13, 19)], none)
abbrev kL_sit (args : List Value) (h : eH) (n : Nat) (r : eRes) (mc ms : Nat) : Prop := eM yL_sit (.codeWith yL_sit cL_sit 4 (some .long) [(0, 7, 8, 34), (0, 7, 13, 19)]) 8 146 args h n r mc ms
abbrev mL_give : eMI := (cL_give, 6, (some .long), RL, "give", 8, 148, tableOf [(0, 10, 11, 34), (0, 10, 17, 15)], none)
abbrev kL_give (args : List Value) (h : eH) (n : Nat) (r : eRes) (mc ms : Nat) : Prop := eM yL_give (.codeWith yL_give cL_give 6 (some .long) [(0, 10, 11, 34), (0, 10, 17, 15)]) 8 148 args h n r mc ms
abbrev mL_call : eMI := (cL_call, 5, (some .long), RL, "call", 8, 147, tableOf [(0, 8, 9, 34), (0, 8, 15, 15)], none)
abbrev kL_call (args : List Value) (h : eH) (n : Nat) (r : eRes) (mc ms : Nat) : Prop := eM yL_call (.codeWith yL_call cL_call 5 (some .long) [(0, 8, 9, 34), (0, 8, 15, 15)]) 8 147 args h n r mc ms
abbrev mL_years : eMI := (cL_years, 3, (some .long), RL, "years", 7, 144, tableOf [(0, 6, 7, 15), (0, 6, 12, 19)], none)
abbrev kL_years (args : List Value) (h : eH) (n : Nat) (r : eRes) (mc ms : Nat) : Prop := eM yL_years (.codeWith yL_years cL_years 3 (some .long) [(0, 6, 7, 15), (0, 6, 12, 19)]) 7 144 args h n r mc ms
abbrev mL_set : eMI := (cL_set, 4, (some .long), RL, "set", 7, 146, tableOf [(0, 7, 8, 15)], none)
abbrev kL_set (args : List Value) (h : eH) (n : Nat) (r : eRes) (mc ms : Nat) : Prop := eM yL_set (.codeWith yL_set cL_set 4 (some .long) [(0, 7, 8, 15)]) 7 146 args h n r mc ms
abbrev mL_undo : eMI := (cL_undo, 2, (some .long), RL, "undo", 7, 143, tableOf [(0, 5, 6, 19)], none)
abbrev kL_undo (args : List Value) (h : eH) (n : Nat) (r : eRes) (mc ms : Nat) : Prop := eM yL_undo (.codeWith yL_undo cL_undo 2 (some .long) [(0, 5, 6, 19)]) 7 143 args h n r mc ms
abbrev mL_why : eMI := (cL_why, 6, (some .long), RL, "why", 8, 135, tableOf [(0, 10, 11, 34), (0, 10, 17, 15)], none)
abbrev kL_why (args : List Value) (h : eH) (n : Nat) (r : eRes) (mc ms : Nat) : Prop := eM yL_why (.codeWith yL_why cL_why 6 (some .long) [(0, 10, 11, 34), (0, 10, 17, 15)]) 8 135 args h n r mc ms
abbrev mL_endsIn : eMI := (cL_endsIn, 3, (some .long), RL, "endsIn", 8, 132, tableOf [(0, 6, 7, 34)], none)
abbrev kL_endsIn (args : List Value) (h : eH) (n : Nat) (r : eRes) (mc ms : Nat) : Prop := eM yL_endsIn (.codeWith yL_endsIn cL_endsIn 3 (some .long) [(0, 6, 7, 34)]) 8 132 args h n r mc ms
abbrev mL_bestName : eMI := (cL_bestName, 5, (some .long), RL, "bestName", 8, 144, tableOf [(0, 8, 9, 34), (0, 8, 15, 15)], none)
abbrev kL_bestName (args : List Value) (h : eH) (n : Nat) (r : eRes) (mc ms : Nat) : Prop := eM yL_bestName (.codeWith yL_bestName cL_bestName 5 (some .long) [(0, 8, 9, 34), (0, 8, 15, 15)]) 8 144 args h n r mc ms
abbrev mL_script : eMI := (cL_script, 5, (some .long), RL, "script", 7, 170, tableOf [(0, 7, 8, 15)], none)
abbrev kL_script (args : List Value) (h : eH) (n : Nat) (r : eRes) (mc ms : Nat) : Prop := eM yL_script (.codeWith yL_script cL_script 5 (some .long) [(0, 7, 8, 15)]) 7 170 args h n r mc ms
abbrev mL_simulate : eMI := (cL_simulate, 5, (some .long), RL, "simulate", 7, 168, tableOf [(0, 7, 8, 15)], none)
abbrev kL_simulate (args : List Value) (h : eH) (n : Nat) (r : eRes) (mc ms : Nat) : Prop := eM yL_simulate (.codeWith yL_simulate cL_simulate 5 (some .long) [(0, 7, 8, 15)]) 7 168 args h n r mc ms
abbrev mL_save : eMI := (cL_save, 3, (some .long), RL, "save", 8, 131, tableOf [(0, 6, 7, 34)], none)
abbrev kL_save (args : List Value) (h : eH) (n : Nat) (r : eRes) (mc ms : Nat) : Prop := eM yL_save (.codeWith yL_save cL_save 3 (some .long) [(0, 6, 7, 34)]) 8 131 args h n r mc ms
abbrev mL_restore : eMI := (cL_restore, 3, (some .long), RL, "restore", 8, 131, tableOf [(0, 6, 7, 34), (0, 6, 12, 19)], none)
abbrev kL_restore (args : List Value) (h : eH) (n : Nat) (r : eRes) (mc ms : Nat) : Prop := eM yL_restore (.codeWith yL_restore cL_restore 3 (some .long) [(0, 6, 7, 34), (0, 6, 12, 19)]) 8 131 args h n r mc ms
abbrev mL_now : eMI := (cL_now, 5, (some .long), RL, "now", 9, 156, [], none)
abbrev kL_now (args : List Value) (h : eH) (n : Nat) (r : eRes) (mc ms : Nat) : Prop := eM yL_now (.code yL_now cL_now 5 (some .long)) 9 156 args h n r mc ms
abbrev mL_errors : eMI := (cL_errors, 6, (some .boolean), RL, "errors", 10, 194, [], none)
abbrev kL_errors (args : List Value) (h : eH) (n : Nat) (r : eRes) (mc ms : Nat) : Prop := eM yL_errors (.code yL_errors cL_errors 6 (some .boolean)) 10 194 args h n r mc ms
abbrev mL_kept : eMI := (cL_kept, 24, (some .boolean), RL, "kept", 9, 160, [], none)
abbrev kL_kept (args : List Value) (h : eH) (n : Nat) (r : eRes) (mc ms : Nat) : Prop := eM yL_kept (.code yL_kept cL_kept 24 (some .boolean)) 9 160 args h n r mc ms
abbrev mL_follows : eMI := (cL_follows, 17, (some .boolean), RL, "follows", 10, 192, [], none)
abbrev kL_follows (args : List Value) (h : eH) (n : Nat) (r : eRes) (mc ms : Nat) : Prop := eM yL_follows (.code yL_follows cL_follows 17 (some .boolean)) 10 192 args h n r mc ms
abbrev mL_alike : eMI := (cL_alike, 3, (some .boolean), RL, "alike", 10, 194, [], none)
abbrev kL_alike (args : List Value) (h : eH) (n : Nat) (r : eRes) (mc ms : Nat) : Prop := eM yL_alike (.code yL_alike cL_alike 3 (some .boolean)) 10 194 args h n r mc ms
abbrev mL_says : eMI := (cL_says, 5, (some .boolean), RL, "says", 8, 133, [], none)
abbrev kL_says (args : List Value) (h : eH) (n : Nat) (r : eRes) (mc ms : Nat) : Prop := eM yL_says (.code yL_says cL_says 5 (some .boolean)) 8 133 args h n r mc ms
abbrev mL_told : eMI := (cL_told, 5, (some .boolean), RL, "told", 9, 157, [], none)
abbrev kL_told (args : List Value) (h : eH) (n : Nat) (r : eRes) (mc ms : Nat) : Prop := eM yL_told (.code yL_told cL_told 5 (some .boolean)) 9 157 args h n r mc ms
abbrev mL_act : eMI := (cL_act, 4, (some .long), RL, "act", 9, 173, [], none)
abbrev kL_act (args : List Value) (h : eH) (n : Nat) (r : eRes) (mc ms : Nat) : Prop := eM yL_act (.code yL_act cL_act 4 (some .long)) 9 173 args h n r mc ms
theorem pn_X0 : plainName RX0 = true := by decide +kernel
theorem pn_X1 : plainName RX1 = true := by decide +kernel
theorem pn_X2 : plainName RX2 = true := by decide +kernel
theorem pn_X3 : plainName RX3 = true := by decide +kernel
theorem pn_X4 : plainName RX4 = true := by decide +kernel
theorem pn_X5 : plainName RX5 = true := by decide +kernel
theorem pn_X6 : plainName RX6 = true := by decide +kernel
theorem pn_X7 : plainName RX7 = true := by decide +kernel
theorem pn_X8 : plainName RX8 = true := by decide +kernel
theorem pn_X9 : plainName RX9 = true := by decide +kernel
theorem pn_X10 : plainName RX10 = true := by decide +kernel
theorem pn_X11 : plainName RX11 = true := by decide +kernel
theorem pn_L : plainName RL = true := by decide +kernel
set_option maxRecDepth 20000 in
theorem th_X10_51 : ∀ w ∈ vx_atS RX10 51 "java/lang/IllegalArgumentException" ["java/lang/RuntimeException", "java/lang/Exception"], w ∈ eW ∨ w ∈ eX := by
  intro w hw
  have h := List.all_eq_true.mp (show (vx_atS RX10 51 "java/lang/IllegalArgumentException" ["java/lang/RuntimeException", "java/lang/Exception"]).all (fun w => (decide (w ∈ tables_1) || decide (w ∈ k2_sels lw_privs)) && (goodWord w || eWarm w)) = true by decide +kernel) w hw
  rw [Bool.and_eq_true, Bool.or_eq_true, Bool.or_eq_true, decide_eq_true_eq, decide_eq_true_eq] at h
  have hm : w ∈ lw_tbl := h.1.elim (fun g => List.mem_append_right _ g) (fun g => List.mem_append_left _ g)
  exact h.2.imp (fun g => List.mem_filter.mpr ⟨hm, g⟩) (fun g => List.mem_filter.mpr ⟨hm, g⟩)
theorem tg_X10_47_51 : ∀ w ∈ Cond.classLink RX10 47 "java/lang/IllegalArgumentException" :: Cond.initialized "java/lang/IllegalArgumentException" :: vx_atS RX10 51 "java/lang/IllegalArgumentException" ["java/lang/RuntimeException", "java/lang/Exception"], vx_ot w = true := List.all_eq_true.mp (by decide +kernel)
set_option maxRecDepth 20000 in
theorem th_X10_62 : ∀ w ∈ vx_atS RX10 62 "java/lang/IllegalStateException" ["java/lang/RuntimeException", "java/lang/Exception"], w ∈ eW ∨ w ∈ eX := by
  intro w hw
  have h := List.all_eq_true.mp (show (vx_atS RX10 62 "java/lang/IllegalStateException" ["java/lang/RuntimeException", "java/lang/Exception"]).all (fun w => (decide (w ∈ tables_1) || decide (w ∈ k2_sels lw_privs)) && (goodWord w || eWarm w)) = true by decide +kernel) w hw
  rw [Bool.and_eq_true, Bool.or_eq_true, Bool.or_eq_true, decide_eq_true_eq, decide_eq_true_eq] at h
  have hm : w ∈ lw_tbl := h.1.elim (fun g => List.mem_append_right _ g) (fun g => List.mem_append_left _ g)
  exact h.2.imp (fun g => List.mem_filter.mpr ⟨hm, g⟩) (fun g => List.mem_filter.mpr ⟨hm, g⟩)
theorem tg_X10_58_62 : ∀ w ∈ Cond.classLink RX10 58 "java/lang/IllegalStateException" :: Cond.initialized "java/lang/IllegalStateException" :: vx_atS RX10 62 "java/lang/IllegalStateException" ["java/lang/RuntimeException", "java/lang/Exception"], vx_ot w = true := List.all_eq_true.mp (by decide +kernel)
set_option maxRecDepth 20000 in
theorem th_X10_199 : ∀ w ∈ vx_atS RX10 199 "java/lang/IndexOutOfBoundsException" ["java/lang/RuntimeException", "java/lang/Exception"], w ∈ eW ∨ w ∈ eX := by
  intro w hw
  have h := List.all_eq_true.mp (show (vx_atS RX10 199 "java/lang/IndexOutOfBoundsException" ["java/lang/RuntimeException", "java/lang/Exception"]).all (fun w => (decide (w ∈ tables_1) || decide (w ∈ k2_sels lw_privs)) && (goodWord w || eWarm w)) = true by decide +kernel) w hw
  rw [Bool.and_eq_true, Bool.or_eq_true, Bool.or_eq_true, decide_eq_true_eq, decide_eq_true_eq] at h
  have hm : w ∈ lw_tbl := h.1.elim (fun g => List.mem_append_right _ g) (fun g => List.mem_append_left _ g)
  exact h.2.imp (fun g => List.mem_filter.mpr ⟨hm, g⟩) (fun g => List.mem_filter.mpr ⟨hm, g⟩)
theorem tg_X10_195_199 : ∀ w ∈ Cond.classLink RX10 195 "java/lang/IndexOutOfBoundsException" :: Cond.initialized "java/lang/IndexOutOfBoundsException" :: vx_atS RX10 199 "java/lang/IndexOutOfBoundsException" ["java/lang/RuntimeException", "java/lang/Exception"], vx_ot w = true := List.all_eq_true.mp (by decide +kernel)
