def lw_ok : List Cond := lw_tbl.filter goodWord
theorem mok {w : Cond} {i : Nat} (h : lw_tbl[i]? = some w) (g : goodWord w = true) : w ∈ lw_ok := List.mem_filter.mpr ⟨List.mem_of_getElem? h, g⟩
/-- a method that can be called on an object of its class: its rows of the tables -/
def jCV (y : MethodName) (cc : ByteArray) (maxL : Nat) (ret : Option FieldType) : Prop := Cond.code y cc maxL ret ∈ lw_ok ∧ Cond.instanceMethod y ∈ lw_ok ∧ Cond.selects y.cls y y ∈ lw_ok ∧ Cond.initialized y.cls ∈ lw_ok ∧ (y.cls ≠ "java/lang/invoke/MethodHandle" ∧ y.cls ≠ "java/lang/invoke/VarHandle")
/-- a static method -/
def jCS (y : MethodName) (cc : ByteArray) (maxL : Nat) (ret : Option FieldType) : Prop := Cond.code y cc maxL ret ∈ lw_ok ∧ Cond.static y ∈ lw_ok ∧ Cond.initialized y.cls ∈ lw_ok ∧ (y.cls ≠ "java/lang/invoke/MethodHandle" ∧ y.cls ≠ "java/lang/invoke/VarHandle")
theorem zX0_weigh : jCV yX0_weigh cX0_weigh 8 none := ⟨mok (i := 777) (by decide +kernel) rfl, mok (i := 775) (by decide +kernel) rfl, mok (i := 776) (by decide +kernel) rfl, mok (i := 67) (by decide +kernel) rfl, by decide +kernel⟩
theorem zX0_lastAfter : jCV yX0_lastAfter cX0_lastAfter 8 (some FieldType.int) := ⟨mok (i := 798) (by decide +kernel) rfl, mok (i := 796) (by decide +kernel) rfl, mok (i := 797) (by decide +kernel) rfl, mok (i := 67) (by decide +kernel) rfl, by decide +kernel⟩
theorem zX0_reduce : jCV yX0_reduce cX0_reduce 5 none := ⟨mok (i := 786) (by decide +kernel) rfl, mok (i := 785) (by decide +kernel) rfl, mok (i := 17) (by decide +kernel) rfl, mok (i := 67) (by decide +kernel) rfl, by decide +kernel⟩
theorem zX1_learn : jCV yX1_learn cX1_learn 4 none := ⟨mok (i := 627) (by decide +kernel) rfl, mok (i := 625) (by decide +kernel) rfl, mok (i := 626) (by decide +kernel) rfl, mok (i := 64) (by decide +kernel) rfl, by decide +kernel⟩
theorem zX1_worth : jCV yX1_worth cX1_worth 2 (some FieldType.int) := ⟨mok (i := 763) (by decide +kernel) rfl, mok (i := 761) (by decide +kernel) rfl, mok (i := 762) (by decide +kernel) rfl, mok (i := 64) (by decide +kernel) rfl, by decide +kernel⟩
theorem zX1_cost : jCV yX1_cost cX1_cost 2 (some FieldType.int) := ⟨mok (i := 669) (by decide +kernel) rfl, mok (i := 667) (by decide +kernel) rfl, mok (i := 668) (by decide +kernel) rfl, mok (i := 64) (by decide +kernel) rfl, by decide +kernel⟩
theorem zX1_lastAmong : jCV yX1_lastAmong cX1_lastAmong 4 (some FieldType.int) := ⟨mok (i := 755) (by decide +kernel) rfl, mok (i := 753) (by decide +kernel) rfl, mok (i := 754) (by decide +kernel) rfl, mok (i := 64) (by decide +kernel) rfl, by decide +kernel⟩
theorem zX1_pricesAmong : jCV yX1_pricesAmong cX1_pricesAmong 5 (some FieldType.int) := ⟨mok (i := 647) (by decide +kernel) rfl, mok (i := 645) (by decide +kernel) rfl, mok (i := 646) (by decide +kernel) rfl, mok (i := 64) (by decide +kernel) rfl, by decide +kernel⟩
theorem zX2_copyFrom : jCV yX2_copyFrom cX2_copyFrom 3 none := ⟨mok (i := 505) (by decide +kernel) rfl, mok (i := 503) (by decide +kernel) rfl, mok (i := 504) (by decide +kernel) rfl, mok (i := 60) (by decide +kernel) rfl, by decide +kernel⟩
theorem zX2_readFrom : jCV yX2_readFrom cX2_readFrom 4 none := ⟨mok (i := 386) (by decide +kernel) rfl, mok (i := 384) (by decide +kernel) rfl, mok (i := 385) (by decide +kernel) rfl, mok (i := 60) (by decide +kernel) rfl, by decide +kernel⟩
theorem zX2_has : jCV yX2_has cX2_has 2 (some FieldType.boolean) := ⟨mok (i := 416) (by decide +kernel) rfl, mok (i := 414) (by decide +kernel) rfl, mok (i := 415) (by decide +kernel) rfl, mok (i := 60) (by decide +kernel) rfl, by decide +kernel⟩
theorem zX2_figure : jCV yX2_figure cX2_figure 3 (some FieldType.int) := ⟨mok (i := 420) (by decide +kernel) rfl, mok (i := 418) (by decide +kernel) rfl, mok (i := 419) (by decide +kernel) rfl, mok (i := 60) (by decide +kernel) rfl, by decide +kernel⟩
theorem zX2_all : jCV yX2_all cX2_all 1 (some FieldType.int) := ⟨mok (i := 437) (by decide +kernel) rfl, mok (i := 435) (by decide +kernel) rfl, mok (i := 436) (by decide +kernel) rfl, mok (i := 60) (by decide +kernel) rfl, by decide +kernel⟩
theorem zX2_there : jCV yX2_there cX2_there 1 (some FieldType.int) := ⟨mok (i := 433) (by decide +kernel) rfl, mok (i := 431) (by decide +kernel) rfl, mok (i := 432) (by decide +kernel) rfl, mok (i := 60) (by decide +kernel) rfl, by decide +kernel⟩
theorem zX2_shown : jCV yX2_shown cX2_shown 1 (some FieldType.int) := ⟨mok (i := 429) (by decide +kernel) rfl, mok (i := 427) (by decide +kernel) rfl, mok (i := 428) (by decide +kernel) rfl, mok (i := 60) (by decide +kernel) rfl, by decide +kernel⟩
theorem zX2_unseen : jCV yX2_unseen cX2_unseen 1 (some FieldType.int) := ⟨mok (i := 711) (by decide +kernel) rfl, mok (i := 709) (by decide +kernel) rfl, mok (i := 710) (by decide +kernel) rfl, mok (i := 60) (by decide +kernel) rfl, by decide +kernel⟩
theorem zX2_breakable : jCV yX2_breakable cX2_breakable 1 (some FieldType.int) := ⟨mok (i := 493) (by decide +kernel) rfl, mok (i := 491) (by decide +kernel) rfl, mok (i := 492) (by decide +kernel) rfl, mok (i := 60) (by decide +kernel) rfl, by decide +kernel⟩
theorem zX2_alikeTo : jCV yX2_alikeTo cX2_alikeTo 6 (some FieldType.int) := ⟨mok (i := 448) (by decide +kernel) rfl, mok (i := 446) (by decide +kernel) rfl, mok (i := 447) (by decide +kernel) rfl, mok (i := 60) (by decide +kernel) rfl, by decide +kernel⟩
theorem zX2_sameMarks : jCV yX2_sameMarks cX2_sameMarks 6 (some FieldType.int) := ⟨mok (i := 452) (by decide +kernel) rfl, mok (i := 450) (by decide +kernel) rfl, mok (i := 451) (by decide +kernel) rfl, mok (i := 60) (by decide +kernel) rfl, by decide +kernel⟩
theorem zX2_lastOnes : jCV yX2_lastOnes cX2_lastOnes 1 (some FieldType.int) := ⟨mok (i := 425) (by decide +kernel) rfl, mok (i := 423) (by decide +kernel) rfl, mok (i := 424) (by decide +kernel) rfl, mok (i := 60) (by decide +kernel) rfl, by decide +kernel⟩
theorem zX2_lastOnesBy : jCV yX2_lastOnesBy cX2_lastOnesBy 5 (some FieldType.int) := ⟨mok (i := 441) (by decide +kernel) rfl, mok (i := 439) (by decide +kernel) rfl, mok (i := 440) (by decide +kernel) rfl, mok (i := 60) (by decide +kernel) rfl, by decide +kernel⟩
theorem zX2_priceOf : jCV yX2_priceOf cX2_priceOf 3 (some FieldType.int) := ⟨mok (i := 472) (by decide +kernel) rfl, mok (i := 470) (by decide +kernel) rfl, mok (i := 471) (by decide +kernel) rfl, mok (i := 60) (by decide +kernel) rfl, by decide +kernel⟩
theorem zX2_shareOf : jCS yX2_shareOf cX2_shareOf 3 (some FieldType.int) := ⟨mok (i := 476) (by decide +kernel) rfl, mok (i := 475) (by decide +kernel) rfl, mok (i := 60) (by decide +kernel) rfl, by decide +kernel⟩
theorem zX2_canBe : jCV yX2_canBe cX2_canBe 3 (some FieldType.boolean) := ⟨mok (i := 488) (by decide +kernel) rfl, mok (i := 486) (by decide +kernel) rfl, mok (i := 487) (by decide +kernel) rfl, mok (i := 60) (by decide +kernel) rfl, by decide +kernel⟩
theorem zX2_perform : jCV yX2_perform cX2_perform 4 none := ⟨mok (i := 510) (by decide +kernel) rfl, mok (i := 508) (by decide +kernel) rfl, mok (i := 509) (by decide +kernel) rfl, mok (i := 60) (by decide +kernel) rfl, by decide +kernel⟩
theorem zX2_addForged : jCV yX2_addForged cX2_addForged 7 (some FieldType.int) := ⟨mok (i := 518) (by decide +kernel) rfl, mok (i := 516) (by decide +kernel) rfl, mok (i := 517) (by decide +kernel) rfl, mok (i := 60) (by decide +kernel) rfl, by decide +kernel⟩
theorem zX2_changeWord : jCV yX2_changeWord cX2_changeWord 3 (some FieldType.int) := ⟨mok (i := 544) (by decide +kernel) rfl, mok (i := 542) (by decide +kernel) rfl, mok (i := 543) (by decide +kernel) rfl, mok (i := 60) (by decide +kernel) rfl, by decide +kernel⟩
theorem zX3_play : jCV yX3_play cX3_play 3 none := ⟨mok (i := 746) (by decide +kernel) rfl, mok (i := 744) (by decide +kernel) rfl, mok (i := 745) (by decide +kernel) rfl, mok (i := 66) (by decide +kernel) rfl, by decide +kernel⟩
theorem zX3_lead : jCS yX3_lead cX3_lead 16 (some FieldType.int) := ⟨mok (i := 751) (by decide +kernel) rfl, mok (i := 750) (by decide +kernel) rfl, mok (i := 66) (by decide +kernel) rfl, by decide +kernel⟩
theorem zX3_leadByLastTurn : jCV yX3_leadByLastTurn cX3_leadByLastTurn 4 (some FieldType.int) := ⟨mok (i := 759) (by decide +kernel) rfl, mok (i := 758) (by decide +kernel) rfl, mok (i := 15) (by decide +kernel) rfl, mok (i := 66) (by decide +kernel) rfl, by decide +kernel⟩
theorem zX3_gainOf : jCV yX3_gainOf cX3_gainOf 2 (some FieldType.int) := ⟨mok (i := 767) (by decide +kernel) rfl, mok (i := 766) (by decide +kernel) rfl, mok (i := 16) (by decide +kernel) rfl, mok (i := 66) (by decide +kernel) rfl, by decide +kernel⟩
theorem zX4_weigh : jCV yX4_weigh cX4_weigh 3 none := ⟨mok (i := 623) (by decide +kernel) rfl, mok (i := 621) (by decide +kernel) rfl, mok (i := 622) (by decide +kernel) rfl, mok (i := 63) (by decide +kernel) rfl, by decide +kernel⟩
theorem zX4_firstChoice : jCV yX4_firstChoice cX4_firstChoice 3 (some FieldType.int) := ⟨mok (i := 687) (by decide +kernel) rfl, mok (i := 685) (by decide +kernel) rfl, mok (i := 686) (by decide +kernel) rfl, mok (i := 63) (by decide +kernel) rfl, by decide +kernel⟩
theorem zX4_learn : jCV yX4_learn cX4_learn 9 none := ⟨mok (i := 635) (by decide +kernel) rfl, mok (i := 634) (by decide +kernel) rfl, mok (i := 4) (by decide +kernel) rfl, mok (i := 63) (by decide +kernel) rfl, by decide +kernel⟩
theorem zX4_goThrough : jCV yX4_goThrough cX4_goThrough 5 none := ⟨mok (i := 652) (by decide +kernel) rfl, mok (i := 651) (by decide +kernel) rfl, mok (i := 5) (by decide +kernel) rfl, mok (i := 63) (by decide +kernel) rfl, by decide +kernel⟩
theorem zX4_mayChoose : jCV yX4_mayChoose cX4_mayChoose 4 (some FieldType.boolean) := ⟨mok (i := 656) (by decide +kernel) rfl, mok (i := 655) (by decide +kernel) rfl, mok (i := 6) (by decide +kernel) rfl, mok (i := 63) (by decide +kernel) rfl, by decide +kernel⟩
theorem zX4_tell : jCV yX4_tell cX4_tell 2 none := ⟨mok (i := 683) (by decide +kernel) rfl, mok (i := 682) (by decide +kernel) rfl, mok (i := 11) (by decide +kernel) rfl, mok (i := 63) (by decide +kernel) rfl, by decide +kernel⟩
theorem zX4_raiseBest : jCV yX4_raiseBest cX4_raiseBest 5 none := ⟨mok (i := 661) (by decide +kernel) rfl, mok (i := 660) (by decide +kernel) rfl, mok (i := 7) (by decide +kernel) rfl, mok (i := 63) (by decide +kernel) rfl, by decide +kernel⟩
theorem zX4_raise : jCV yX4_raise cX4_raise 5 none := ⟨mok (i := 674) (by decide +kernel) rfl, mok (i := 673) (by decide +kernel) rfl, mok (i := 9) (by decide +kernel) rfl, mok (i := 63) (by decide +kernel) rfl, by decide +kernel⟩
theorem zX4_isRest : jCV yX4_isRest cX4_isRest 5 (some FieldType.boolean) := ⟨mok (i := 679) (by decide +kernel) rfl, mok (i := 678) (by decide +kernel) rfl, mok (i := 10) (by decide +kernel) rfl, mok (i := 63) (by decide +kernel) rfl, by decide +kernel⟩
theorem zX4_has : jCV yX4_has cX4_has 4 (some FieldType.int) := ⟨mok (i := 665) (by decide +kernel) rfl, mok (i := 664) (by decide +kernel) rfl, mok (i := 8) (by decide +kernel) rfl, mok (i := 63) (by decide +kernel) rfl, by decide +kernel⟩
theorem zX5_seekCampaign : jCV yX5_seekCampaign cX5_seekCampaign 6 none := ⟨mok (i := 574) (by decide +kernel) rfl, mok (i := 572) (by decide +kernel) rfl, mok (i := 573) (by decide +kernel) rfl, mok (i := 62) (by decide +kernel) rfl, by decide +kernel⟩
theorem zX5_leastCopy : jCV yX5_leastCopy cX5_leastCopy 6 (some FieldType.int) := ⟨mok (i := 596) (by decide +kernel) rfl, mok (i := 594) (by decide +kernel) rfl, mok (i := 595) (by decide +kernel) rfl, mok (i := 62) (by decide +kernel) rfl, by decide +kernel⟩
theorem zX5_wordOfMostLast : jCV yX5_wordOfMostLast cX5_wordOfMostLast 6 (some FieldType.int) := ⟨mok (i := 609) (by decide +kernel) rfl, mok (i := 607) (by decide +kernel) rfl, mok (i := 608) (by decide +kernel) rfl, mok (i := 62) (by decide +kernel) rfl, by decide +kernel⟩
theorem zX5_lastBy : jCV yX5_lastBy cX5_lastBy 3 (some FieldType.int) := ⟨mok (i := 613) (by decide +kernel) rfl, mok (i := 611) (by decide +kernel) rfl, mok (i := 612) (by decide +kernel) rfl, mok (i := 62) (by decide +kernel) rfl, by decide +kernel⟩
theorem zX5_costToBreak : jCS yX5_costToBreak cX5_costToBreak 4 (some FieldType.int) := ⟨mok (i := 582) (by decide +kernel) rfl, mok (i := 581) (by decide +kernel) rfl, mok (i := 62) (by decide +kernel) rfl, by decide +kernel⟩
theorem zX5_frees : jCS yX5_frees cX5_frees 5 (some FieldType.boolean) := ⟨mok (i := 600) (by decide +kernel) rfl, mok (i := 599) (by decide +kernel) rfl, mok (i := 62) (by decide +kernel) rfl, by decide +kernel⟩
theorem zX6_clear : jCV yX6_clear cX6_clear 1 none := ⟨mok (i := 408) (by decide +kernel) rfl, mok (i := 406) (by decide +kernel) rfl, mok (i := 407) (by decide +kernel) rfl, mok (i := 61) (by decide +kernel) rfl, by decide +kernel⟩
theorem zX6_remember : jCV yX6_remember cX6_remember 3 none := ⟨mok (i := 497) (by decide +kernel) rfl, mok (i := 495) (by decide +kernel) rfl, mok (i := 496) (by decide +kernel) rfl, mok (i := 61) (by decide +kernel) rfl, by decide +kernel⟩
theorem zX6_takeBack : jCV yX6_takeBack cX6_takeBack 4 (some FieldType.boolean) := ⟨mok (i := 557) (by decide +kernel) rfl, mok (i := 555) (by decide +kernel) rfl, mok (i := 556) (by decide +kernel) rfl, mok (i := 61) (by decide +kernel) rfl, by decide +kernel⟩
theorem zX6_placeAt : jCV yX6_placeAt cX6_placeAt 2 (some (FieldType.object "LastOfKind$House")) := ⟨mok (i := 501) (by decide +kernel) rfl, mok (i := 500) (by decide +kernel) rfl, mok (i := 3) (by decide +kernel) rfl, mok (i := 61) (by decide +kernel) rfl, by decide +kernel⟩
theorem zX7_append : jCV yX7_append cX7_append 4 (some FieldType.boolean) := ⟨mok (i := 695) (by decide +kernel) rfl, mok (i := 693) (by decide +kernel) rfl, mok (i := 694) (by decide +kernel) rfl, mok (i := 65) (by decide +kernel) rfl, by decide +kernel⟩
theorem zX7_survey : jCV yX7_survey cX7_survey 4 none := ⟨mok (i := 707) (by decide +kernel) rfl, mok (i := 705) (by decide +kernel) rfl, mok (i := 706) (by decide +kernel) rfl, mok (i := 65) (by decide +kernel) rfl, by decide +kernel⟩
theorem zX7_mostTelling : jCV yX7_mostTelling cX7_mostTelling 7 (some FieldType.int) := ⟨mok (i := 736) (by decide +kernel) rfl, mok (i := 734) (by decide +kernel) rfl, mok (i := 735) (by decide +kernel) rfl, mok (i := 65) (by decide +kernel) rfl, by decide +kernel⟩
theorem zX7_learn : jCV yX7_learn cX7_learn 4 none := ⟨mok (i := 715) (by decide +kernel) rfl, mok (i := 714) (by decide +kernel) rfl, mok (i := 12) (by decide +kernel) rfl, mok (i := 65) (by decide +kernel) rfl, by decide +kernel⟩
theorem zX7_isSo : jCV yX7_isSo cX7_isSo 5 (some FieldType.boolean) := ⟨mok (i := 723) (by decide +kernel) rfl, mok (i := 722) (by decide +kernel) rfl, mok (i := 13) (by decide +kernel) rfl, mok (i := 65) (by decide +kernel) rfl, by decide +kernel⟩
theorem zX7_tally : jCV yX7_tally cX7_tally 3 none := ⟨mok (i := 728) (by decide +kernel) rfl, mok (i := 727) (by decide +kernel) rfl, mok (i := 14) (by decide +kernel) rfl, mok (i := 65) (by decide +kernel) rfl, by decide +kernel⟩
theorem zX8_append : jCV yX8_append cX8_append 2 (some FieldType.boolean) := ⟨mok (i := 355) (by decide +kernel) rfl, mok (i := 353) (by decide +kernel) rfl, mok (i := 354) (by decide +kernel) rfl, mok (i := 59) (by decide +kernel) rfl, by decide +kernel⟩
theorem zX8_firstFault : jCV yX8_firstFault cX8_firstFault 2 (some FieldType.int) := ⟨mok (i := 367) (by decide +kernel) rfl, mok (i := 365) (by decide +kernel) rfl, mok (i := 366) (by decide +kernel) rfl, mok (i := 59) (by decide +kernel) rfl, by decide +kernel⟩
theorem zX8_things : jCV yX8_things cX8_things 1 (some FieldType.int) := ⟨mok (i := 390) (by decide +kernel) rfl, mok (i := 388) (by decide +kernel) rfl, mok (i := 389) (by decide +kernel) rfl, mok (i := 59) (by decide +kernel) rfl, by decide +kernel⟩
theorem zX8_wordTold : jCV yX8_wordTold cX8_wordTold 1 (some FieldType.int) := ⟨mok (i := 400) (by decide +kernel) rfl, mok (i := 398) (by decide +kernel) rfl, mok (i := 399) (by decide +kernel) rfl, mok (i := 59) (by decide +kernel) rfl, by decide +kernel⟩
theorem zX8_figureTold : jCV yX8_figureTold cX8_figureTold 3 (some FieldType.int) := ⟨mok (i := 404) (by decide +kernel) rfl, mok (i := 402) (by decide +kernel) rfl, mok (i := 403) (by decide +kernel) rfl, mok (i := 59) (by decide +kernel) rfl, by decide +kernel⟩
theorem zX8_fits : jCV yX8_fits cX8_fits 3 (some FieldType.boolean) := ⟨mok (i := 371) (by decide +kernel) rfl, mok (i := 370) (by decide +kernel) rfl, mok (i := 0) (by decide +kernel) rfl, mok (i := 59) (by decide +kernel) rfl, by decide +kernel⟩
theorem zX8_isWithin : jCV yX8_isWithin cX8_isWithin 5 (some FieldType.boolean) := ⟨mok (i := 378) (by decide +kernel) rfl, mok (i := 377) (by decide +kernel) rfl, mok (i := 1) (by decide +kernel) rfl, mok (i := 59) (by decide +kernel) rfl, by decide +kernel⟩
theorem zX9_write : jCV yX9_write cX9_write 2 (some FieldType.int) := ⟨mok (i := 351) (by decide +kernel) rfl, mok (i := 349) (by decide +kernel) rfl, mok (i := 350) (by decide +kernel) rfl, mok (i := 58) (by decide +kernel) rfl, by decide +kernel⟩
theorem zX9_wipe : jCV yX9_wipe cX9_wipe 2 (some FieldType.int) := ⟨mok (i := 359) (by decide +kernel) rfl, mok (i := 357) (by decide +kernel) rfl, mok (i := 358) (by decide +kernel) rfl, mok (i := 58) (by decide +kernel) rfl, by decide +kernel⟩
theorem zX9_fault : jCV yX9_fault cX9_fault 1 (some FieldType.int) := ⟨mok (i := 363) (by decide +kernel) rfl, mok (i := 361) (by decide +kernel) rfl, mok (i := 362) (by decide +kernel) rfl, mok (i := 58) (by decide +kernel) rfl, by decide +kernel⟩
theorem zX9_house : jCV yX9_house cX9_house 1 (some FieldType.int) := ⟨mok (i := 382) (by decide +kernel) rfl, mok (i := 380) (by decide +kernel) rfl, mok (i := 381) (by decide +kernel) rfl, mok (i := 58) (by decide +kernel) rfl, by decide +kernel⟩
theorem zX9_thing : jCV yX9_thing cX9_thing 3 (some FieldType.int) := ⟨mok (i := 412) (by decide +kernel) rfl, mok (i := 410) (by decide +kernel) rfl, mok (i := 411) (by decide +kernel) rfl, mok (i := 58) (by decide +kernel) rfl, by decide +kernel⟩
theorem zX9_alike : jCV yX9_alike cX9_alike 2 (some FieldType.int) := ⟨mok (i := 462) (by decide +kernel) rfl, mok (i := 460) (by decide +kernel) rfl, mok (i := 461) (by decide +kernel) rfl, mok (i := 58) (by decide +kernel) rfl, by decide +kernel⟩
theorem zX9_price : jCV yX9_price cX9_price 2 (some FieldType.int) := ⟨mok (i := 468) (by decide +kernel) rfl, mok (i := 466) (by decide +kernel) rfl, mok (i := 467) (by decide +kernel) rfl, mok (i := 58) (by decide +kernel) rfl, by decide +kernel⟩
theorem zX9_broken : jCV yX9_broken cX9_broken 3 (some FieldType.int) := ⟨mok (i := 480) (by decide +kernel) rfl, mok (i := 478) (by decide +kernel) rfl, mok (i := 479) (by decide +kernel) rfl, mok (i := 58) (by decide +kernel) rfl, by decide +kernel⟩
theorem zX9_forge : jCV yX9_forge cX9_forge 3 (some FieldType.int) := ⟨mok (i := 514) (by decide +kernel) rfl, mok (i := 512) (by decide +kernel) rfl, mok (i := 513) (by decide +kernel) rfl, mok (i := 58) (by decide +kernel) rfl, by decide +kernel⟩
theorem zX9_hide : jCV yX9_hide cX9_hide 3 (some FieldType.int) := ⟨mok (i := 527) (by decide +kernel) rfl, mok (i := 525) (by decide +kernel) rfl, mok (i := 526) (by decide +kernel) rfl, mok (i := 58) (by decide +kernel) rfl, by decide +kernel⟩
theorem zX9_claim : jCV yX9_claim cX9_claim 3 (some FieldType.int) := ⟨mok (i := 531) (by decide +kernel) rfl, mok (i := 529) (by decide +kernel) rfl, mok (i := 530) (by decide +kernel) rfl, mok (i := 58) (by decide +kernel) rfl, by decide +kernel⟩
theorem zX9_guard : jCV yX9_guard cX9_guard 3 (some FieldType.int) := ⟨mok (i := 536) (by decide +kernel) rfl, mok (i := 534) (by decide +kernel) rfl, mok (i := 535) (by decide +kernel) rfl, mok (i := 58) (by decide +kernel) rfl, by decide +kernel⟩
theorem zX9_word : jCV yX9_word cX9_word 2 (some FieldType.int) := ⟨mok (i := 540) (by decide +kernel) rfl, mok (i := 538) (by decide +kernel) rfl, mok (i := 539) (by decide +kernel) rfl, mok (i := 58) (by decide +kernel) rfl, by decide +kernel⟩
theorem zX9_year : jCV yX9_year cX9_year 1 (some FieldType.int) := ⟨mok (i := 549) (by decide +kernel) rfl, mok (i := 547) (by decide +kernel) rfl, mok (i := 548) (by decide +kernel) rfl, mok (i := 58) (by decide +kernel) rfl, by decide +kernel⟩
theorem zX9_undo : jCV yX9_undo cX9_undo 1 (some FieldType.int) := ⟨mok (i := 553) (by decide +kernel) rfl, mok (i := 551) (by decide +kernel) rfl, mok (i := 552) (by decide +kernel) rfl, mok (i := 58) (by decide +kernel) rfl, by decide +kernel⟩
theorem zX9_judge : jCV yX9_judge cX9_judge 7 (some FieldType.int) := ⟨mok (i := 561) (by decide +kernel) rfl, mok (i := 559) (by decide +kernel) rfl, mok (i := 560) (by decide +kernel) rfl, mok (i := 58) (by decide +kernel) rfl, by decide +kernel⟩
theorem zX9_tryAct : jCV yX9_tryAct cX9_tryAct 3 (some FieldType.int) := ⟨mok (i := 484) (by decide +kernel) rfl, mok (i := 483) (by decide +kernel) rfl, mok (i := 2) (by decide +kernel) rfl, mok (i := 58) (by decide +kernel) rfl, by decide +kernel⟩
theorem zX9_campaign : jCV yX9_campaign cX9_campaign 2 (some FieldType.int) := ⟨mok (i := 569) (by decide +kernel) rfl, mok (i := 567) (by decide +kernel) rfl, mok (i := 568) (by decide +kernel) rfl, mok (i := 58) (by decide +kernel) rfl, by decide +kernel⟩
theorem zX9_campaignBy : jCV yX9_campaignBy cX9_campaignBy 3 (some FieldType.int) := ⟨mok (i := 588) (by decide +kernel) rfl, mok (i := 586) (by decide +kernel) rfl, mok (i := 587) (by decide +kernel) rfl, mok (i := 58) (by decide +kernel) rfl, by decide +kernel⟩
theorem zX9_copy : jCV yX9_copy cX9_copy 2 (some FieldType.int) := ⟨mok (i := 592) (by decide +kernel) rfl, mok (i := 590) (by decide +kernel) rfl, mok (i := 591) (by decide +kernel) rfl, mok (i := 58) (by decide +kernel) rfl, by decide +kernel⟩
theorem zX9_bestWord : jCV yX9_bestWord cX9_bestWord 3 (some FieldType.int) := ⟨mok (i := 605) (by decide +kernel) rfl, mok (i := 603) (by decide +kernel) rfl, mok (i := 604) (by decide +kernel) rfl, mok (i := 58) (by decide +kernel) rfl, by decide +kernel⟩
theorem zX9_rests : jCV yX9_rests cX9_rests 2 (some FieldType.int) := ⟨mok (i := 619) (by decide +kernel) rfl, mok (i := 617) (by decide +kernel) rfl, mok (i := 618) (by decide +kernel) rfl, mok (i := 58) (by decide +kernel) rfl, by decide +kernel⟩
theorem zX9_sight : jCV yX9_sight cX9_sight 4 (some FieldType.int) := ⟨mok (i := 691) (by decide +kernel) rfl, mok (i := 689) (by decide +kernel) rfl, mok (i := 690) (by decide +kernel) rfl, mok (i := 58) (by decide +kernel) rfl, by decide +kernel⟩
theorem zX9_unsight : jCV yX9_unsight cX9_unsight 2 (some FieldType.int) := ⟨mok (i := 699) (by decide +kernel) rfl, mok (i := 697) (by decide +kernel) rfl, mok (i := 698) (by decide +kernel) rfl, mok (i := 58) (by decide +kernel) rfl, by decide +kernel⟩
theorem zX9_worlds : jCV yX9_worlds cX9_worlds 2 (some FieldType.int) := ⟨mok (i := 703) (by decide +kernel) rfl, mok (i := 701) (by decide +kernel) rfl, mok (i := 702) (by decide +kernel) rfl, mok (i := 58) (by decide +kernel) rfl, by decide +kernel⟩
theorem zX9_toSeek : jCV yX9_toSeek cX9_toSeek 1 (some FieldType.int) := ⟨mok (i := 732) (by decide +kernel) rfl, mok (i := 730) (by decide +kernel) rfl, mok (i := 731) (by decide +kernel) rfl, mok (i := 58) (by decide +kernel) rfl, by decide +kernel⟩
theorem zX9_byTurns : jCV yX9_byTurns cX9_byTurns 3 (some FieldType.int) := ⟨mok (i := 742) (by decide +kernel) rfl, mok (i := 740) (by decide +kernel) rfl, mok (i := 741) (by decide +kernel) rfl, mok (i := 58) (by decide +kernel) rfl, by decide +kernel⟩
theorem zX9_chance : jCV yX9_chance cX9_chance 4 (some FieldType.int) := ⟨mok (i := 773) (by decide +kernel) rfl, mok (i := 771) (by decide +kernel) rfl, mok (i := 772) (by decide +kernel) rfl, mok (i := 58) (by decide +kernel) rfl, by decide +kernel⟩
theorem zX9_seed : jCV yX9_seed cX9_seed 5 (some FieldType.long) := ⟨mok (i := 790) (by decide +kernel) rfl, mok (i := 788) (by decide +kernel) rfl, mok (i := 789) (by decide +kernel) rfl, mok (i := 58) (by decide +kernel) rfl, by decide +kernel⟩
theorem zX9_years : jCV yX9_years cX9_years 3 (some FieldType.int) := ⟨mok (i := 794) (by decide +kernel) rfl, mok (i := 792) (by decide +kernel) rfl, mok (i := 793) (by decide +kernel) rfl, mok (i := 58) (by decide +kernel) rfl, by decide +kernel⟩
theorem zX9_keep : jCV yX9_keep cX9_keep 3 (some FieldType.int) := ⟨mok (i := 806) (by decide +kernel) rfl, mok (i := 804) (by decide +kernel) rfl, mok (i := 805) (by decide +kernel) rfl, mok (i := 58) (by decide +kernel) rfl, by decide +kernel⟩
theorem zX9_again : jCV yX9_again cX9_again 3 (some FieldType.int) := ⟨mok (i := 814) (by decide +kernel) rfl, mok (i := 812) (by decide +kernel) rfl, mok (i := 813) (by decide +kernel) rfl, mok (i := 58) (by decide +kernel) rfl, by decide +kernel⟩
theorem zX9_count : jCV yX9_count cX9_count 2 (some FieldType.int) := ⟨mok (i := 818) (by decide +kernel) rfl, mok (i := 816) (by decide +kernel) rfl, mok (i := 817) (by decide +kernel) rfl, mok (i := 58) (by decide +kernel) rfl, by decide +kernel⟩
theorem zX9_slotAt : jCV yX9_slotAt cX9_slotAt 2 (some (FieldType.object "LastOfKind$House")) := ⟨mok (i := 810) (by decide +kernel) rfl, mok (i := 809) (by decide +kernel) rfl, mok (i := 18) (by decide +kernel) rfl, mok (i := 58) (by decide +kernel) rfl, by decide +kernel⟩
theorem zX9_holds : jCS yX9_holds cX9_holds 2 (some FieldType.boolean) := ⟨mok (i := 444) (by decide +kernel) rfl, mok (i := 443) (by decide +kernel) rfl, mok (i := 58) (by decide +kernel) rfl, by decide +kernel⟩
theorem zX9_withoutLast : jCS yX9_withoutLast cX9_withoutLast 4 (some FieldType.int) := ⟨mok (i := 564) (by decide +kernel) rfl, mok (i := 563) (by decide +kernel) rfl, mok (i := 58) (by decide +kernel) rfl, by decide +kernel⟩
theorem zX9_at : jCS yX9_at cX9_at 2 (some FieldType.int) := ⟨mok (i := 374) (by decide +kernel) rfl, mok (i := 373) (by decide +kernel) rfl, mok (i := 58) (by decide +kernel) rfl, by decide +kernel⟩
theorem zX9_put : jCS yX9_put cX9_put 3 none := ⟨mok (i := 523) (by decide +kernel) rfl, mok (i := 522) (by decide +kernel) rfl, mok (i := 58) (by decide +kernel) rfl, by decide +kernel⟩
theorem zX9_rowAt : jCS yX9_rowAt cX9_rowAt 2 (some (FieldType.array FieldType.int)) := ⟨mok (i := 642) (by decide +kernel) rfl, mok (i := 641) (by decide +kernel) rfl, mok (i := 58) (by decide +kernel) rfl, by decide +kernel⟩
theorem zX10_in : jCS yX10_in cX10_in 6 (some FieldType.boolean) := ⟨mok (i := 903) (by decide +kernel) rfl, mok (i := 902) (by decide +kernel) rfl, mok (i := 68) (by decide +kernel) rfl, by decide +kernel⟩
theorem zX10_has : jCS yX10_has cX10_has 2 (some FieldType.boolean) := ⟨mok (i := 986) (by decide +kernel) rfl, mok (i := 985) (by decide +kernel) rfl, mok (i := 68) (by decide +kernel) rfl, by decide +kernel⟩
theorem zX10_ones : jCS yX10_ones cX10_ones 3 (some FieldType.int) := ⟨mok (i := 997) (by decide +kernel) rfl, mok (i := 996) (by decide +kernel) rfl, mok (i := 68) (by decide +kernel) rfl, by decide +kernel⟩
theorem zX10_write : jCV yX10_write cX10_write 2 (some FieldType.int) := ⟨mok (i := 899) (by decide +kernel) rfl, mok (i := 897) (by decide +kernel) rfl, mok (i := 898) (by decide +kernel) rfl, mok (i := 68) (by decide +kernel) rfl, by decide +kernel⟩
theorem zX10_wipe : jCV yX10_wipe cX10_wipe 2 (some FieldType.int) := ⟨mok (i := 907) (by decide +kernel) rfl, mok (i := 905) (by decide +kernel) rfl, mok (i := 906) (by decide +kernel) rfl, mok (i := 68) (by decide +kernel) rfl, by decide +kernel⟩
theorem zX10_fits : jCV yX10_fits cX10_fits 3 (some FieldType.boolean) := ⟨mok (i := 915) (by decide +kernel) rfl, mok (i := 914) (by decide +kernel) rfl, mok (i := 19) (by decide +kernel) rfl, mok (i := 68) (by decide +kernel) rfl, by decide +kernel⟩
theorem zX10_fault : jCV yX10_fault cX10_fault 2 (some FieldType.int) := ⟨mok (i := 911) (by decide +kernel) rfl, mok (i := 909) (by decide +kernel) rfl, mok (i := 910) (by decide +kernel) rfl, mok (i := 68) (by decide +kernel) rfl, by decide +kernel⟩
theorem zX10_figure : jCV yX10_figure cX10_figure 2 (some FieldType.int) := ⟨mok (i := 929) (by decide +kernel) rfl, mok (i := 928) (by decide +kernel) rfl, mok (i := 20) (by decide +kernel) rfl, mok (i := 68) (by decide +kernel) rfl, by decide +kernel⟩
theorem zX10_code : jCS yX10_code cX10_code 5 (some FieldType.int) := ⟨mok (i := 932) (by decide +kernel) rfl, mok (i := 931) (by decide +kernel) rfl, mok (i := 68) (by decide +kernel) rfl, by decide +kernel⟩
theorem zX10_house : jCV yX10_house cX10_house 5 (some FieldType.int) := ⟨mok (i := 924) (by decide +kernel) rfl, mok (i := 922) (by decide +kernel) rfl, mok (i := 923) (by decide +kernel) rfl, mok (i := 68) (by decide +kernel) rfl, by decide +kernel⟩
theorem zX10_many : jCV yX10_many cX10_many 1 (some FieldType.int) := ⟨mok (i := 983) (by decide +kernel) rfl, mok (i := 982) (by decide +kernel) rfl, mok (i := 31) (by decide +kernel) rfl, mok (i := 68) (by decide +kernel) rfl, by decide +kernel⟩
theorem zX10_isThing : jCV yX10_isThing cX10_isThing 2 (some FieldType.boolean) := ⟨mok (i := 940) (by decide +kernel) rfl, mok (i := 939) (by decide +kernel) rfl, mok (i := 21) (by decide +kernel) rfl, mok (i := 68) (by decide +kernel) rfl, by decide +kernel⟩
theorem zX10_guardOf : jCV yX10_guardOf cX10_guardOf 2 (some FieldType.int) := ⟨mok (i := 967) (by decide +kernel) rfl, mok (i := 966) (by decide +kernel) rfl, mok (i := 27) (by decide +kernel) rfl, mok (i := 68) (by decide +kernel) rfl, by decide +kernel⟩
theorem zX10_costOf : jCV yX10_costOf cX10_costOf 2 (some FieldType.int) := ⟨mok (i := 963) (by decide +kernel) rfl, mok (i := 962) (by decide +kernel) rfl, mok (i := 26) (by decide +kernel) rfl, mok (i := 68) (by decide +kernel) rfl, by decide +kernel⟩
theorem zX10_worthOf : jCV yX10_worthOf cX10_worthOf 2 (some FieldType.int) := ⟨mok (i := 959) (by decide +kernel) rfl, mok (i := 958) (by decide +kernel) rfl, mok (i := 25) (by decide +kernel) rfl, mok (i := 68) (by decide +kernel) rfl, by decide +kernel⟩
theorem zX10_ownerOf : jCV yX10_ownerOf cX10_ownerOf 2 (some FieldType.int) := ⟨mok (i := 955) (by decide +kernel) rfl, mok (i := 954) (by decide +kernel) rfl, mok (i := 24) (by decide +kernel) rfl, mok (i := 68) (by decide +kernel) rfl, by decide +kernel⟩
theorem zX10_marksOf : jCV yX10_marksOf cX10_marksOf 2 (some FieldType.int) := ⟨mok (i := 948) (by decide +kernel) rfl, mok (i := 947) (by decide +kernel) rfl, mok (i := 23) (by decide +kernel) rfl, mok (i := 68) (by decide +kernel) rfl, by decide +kernel⟩
theorem zX10_tenTo : jCS yX10_tenTo cX10_tenTo 3 (some FieldType.int) := ⟨mok (i := 951) (by decide +kernel) rfl, mok (i := 950) (by decide +kernel) rfl, mok (i := 68) (by decide +kernel) rfl, by decide +kernel⟩
theorem zX10_markOf : jCV yX10_markOf cX10_markOf 3 (some FieldType.int) := ⟨mok (i := 944) (by decide +kernel) rfl, mok (i := 943) (by decide +kernel) rfl, mok (i := 22) (by decide +kernel) rfl, mok (i := 68) (by decide +kernel) rfl, by decide +kernel⟩
theorem zX10_same : jCV yX10_same cX10_same 5 (some FieldType.int) := ⟨mok (i := 994) (by decide +kernel) rfl, mok (i := 993) (by decide +kernel) rfl, mok (i := 33) (by decide +kernel) rfl, mok (i := 68) (by decide +kernel) rfl, by decide +kernel⟩
theorem zX10_alikeOf : jCV yX10_alikeOf cX10_alikeOf 6 (some FieldType.int) := ⟨mok (i := 990) (by decide +kernel) rfl, mok (i := 989) (by decide +kernel) rfl, mok (i := 32) (by decide +kernel) rfl, mok (i := 68) (by decide +kernel) rfl, by decide +kernel⟩
theorem zX10_shown : jCV yX10_shown cX10_shown 3 (some FieldType.int) := ⟨mok (i := 975) (by decide +kernel) rfl, mok (i := 974) (by decide +kernel) rfl, mok (i := 29) (by decide +kernel) rfl, mok (i := 68) (by decide +kernel) rfl, by decide +kernel⟩
theorem zX10_lastOf : jCV yX10_lastOf cX10_lastOf 5 (some FieldType.int) := ⟨mok (i := 979) (by decide +kernel) rfl, mok (i := 978) (by decide +kernel) rfl, mok (i := 30) (by decide +kernel) rfl, mok (i := 68) (by decide +kernel) rfl, by decide +kernel⟩
theorem zX10_last : jCV yX10_last cX10_last 1 (some FieldType.int) := ⟨mok (i := 971) (by decide +kernel) rfl, mok (i := 970) (by decide +kernel) rfl, mok (i := 28) (by decide +kernel) rfl, mok (i := 68) (by decide +kernel) rfl, by decide +kernel⟩
theorem zX10_thing : jCV yX10_thing cX10_thing 3 (some FieldType.int) := ⟨mok (i := 936) (by decide +kernel) rfl, mok (i := 934) (by decide +kernel) rfl, mok (i := 935) (by decide +kernel) rfl, mok (i := 68) (by decide +kernel) rfl, by decide +kernel⟩
theorem zX10_alike : jCV yX10_alike cX10_alike 2 (some FieldType.int) := ⟨mok (i := 1001) (by decide +kernel) rfl, mok (i := 999) (by decide +kernel) rfl, mok (i := 1000) (by decide +kernel) rfl, mok (i := 68) (by decide +kernel) rfl, by decide +kernel⟩
theorem zX10_priceBy : jCV yX10_priceBy cX10_priceBy 3 (some FieldType.int) := ⟨mok (i := 1009) (by decide +kernel) rfl, mok (i := 1008) (by decide +kernel) rfl, mok (i := 34) (by decide +kernel) rfl, mok (i := 68) (by decide +kernel) rfl, by decide +kernel⟩
theorem zX10_price : jCV yX10_price cX10_price 2 (some FieldType.int) := ⟨mok (i := 1005) (by decide +kernel) rfl, mok (i := 1003) (by decide +kernel) rfl, mok (i := 1004) (by decide +kernel) rfl, mok (i := 68) (by decide +kernel) rfl, by decide +kernel⟩
theorem zX10_keepAct : jCV yX10_keepAct cX10_keepAct 2 none := ⟨mok (i := 1025) (by decide +kernel) rfl, mok (i := 1024) (by decide +kernel) rfl, mok (i := 37) (by decide +kernel) rfl, mok (i := 68) (by decide +kernel) rfl, by decide +kernel⟩
theorem zX10_guardAt : jCV yX10_guardAt cX10_guardAt 3 (some FieldType.int) := ⟨mok (i := 1021) (by decide +kernel) rfl, mok (i := 1020) (by decide +kernel) rfl, mok (i := 36) (by decide +kernel) rfl, mok (i := 68) (by decide +kernel) rfl, by decide +kernel⟩
theorem zX10_canBreak : jCV yX10_canBreak cX10_canBreak 4 (some FieldType.boolean) := ⟨mok (i := 1017) (by decide +kernel) rfl, mok (i := 1016) (by decide +kernel) rfl, mok (i := 35) (by decide +kernel) rfl, mok (i := 68) (by decide +kernel) rfl, by decide +kernel⟩
theorem zX10_canClaim : jCV yX10_canClaim cX10_canClaim 4 (some FieldType.boolean) := ⟨mok (i := 1055) (by decide +kernel) rfl, mok (i := 1054) (by decide +kernel) rfl, mok (i := 41) (by decide +kernel) rfl, mok (i := 68) (by decide +kernel) rfl, by decide +kernel⟩
theorem zX10_canHide : jCV yX10_canHide cX10_canHide 4 (some FieldType.boolean) := ⟨mok (i := 1043) (by decide +kernel) rfl, mok (i := 1042) (by decide +kernel) rfl, mok (i := 39) (by decide +kernel) rfl, mok (i := 68) (by decide +kernel) rfl, by decide +kernel⟩
theorem zX10_free : jCV yX10_free cX10_free 4 none := ⟨mok (i := 1035) (by decide +kernel) rfl, mok (i := 1034) (by decide +kernel) rfl, mok (i := 38) (by decide +kernel) rfl, mok (i := 68) (by decide +kernel) rfl, by decide +kernel⟩
theorem zX10_doHide : jCV yX10_doHide cX10_doHide 3 none := ⟨mok (i := 1047) (by decide +kernel) rfl, mok (i := 1046) (by decide +kernel) rfl, mok (i := 40) (by decide +kernel) rfl, mok (i := 68) (by decide +kernel) rfl, by decide +kernel⟩
theorem zX10_doGuard : jCV yX10_doGuard cX10_doGuard 3 none := ⟨mok (i := 1063) (by decide +kernel) rfl, mok (i := 1062) (by decide +kernel) rfl, mok (i := 42) (by decide +kernel) rfl, mok (i := 68) (by decide +kernel) rfl, by decide +kernel⟩
theorem zX10_broken : jCV yX10_broken cX10_broken 2 (some FieldType.int) := ⟨mok (i := 1013) (by decide +kernel) rfl, mok (i := 1011) (by decide +kernel) rfl, mok (i := 1012) (by decide +kernel) rfl, mok (i := 68) (by decide +kernel) rfl, by decide +kernel⟩
theorem zX10_forge : jCV yX10_forge cX10_forge 4 (some FieldType.int) := ⟨mok (i := 1029) (by decide +kernel) rfl, mok (i := 1027) (by decide +kernel) rfl, mok (i := 1028) (by decide +kernel) rfl, mok (i := 68) (by decide +kernel) rfl, by decide +kernel⟩
theorem zX10_hide : jCV yX10_hide cX10_hide 2 (some FieldType.int) := ⟨mok (i := 1039) (by decide +kernel) rfl, mok (i := 1037) (by decide +kernel) rfl, mok (i := 1038) (by decide +kernel) rfl, mok (i := 68) (by decide +kernel) rfl, by decide +kernel⟩
theorem zX10_claim : jCV yX10_claim cX10_claim 2 (some FieldType.int) := ⟨mok (i := 1051) (by decide +kernel) rfl, mok (i := 1049) (by decide +kernel) rfl, mok (i := 1050) (by decide +kernel) rfl, mok (i := 68) (by decide +kernel) rfl, by decide +kernel⟩
theorem zX10_guard : jCV yX10_guard cX10_guard 2 (some FieldType.int) := ⟨mok (i := 1059) (by decide +kernel) rfl, mok (i := 1057) (by decide +kernel) rfl, mok (i := 1058) (by decide +kernel) rfl, mok (i := 68) (by decide +kernel) rfl, by decide +kernel⟩
theorem zX10_word : jCV yX10_word cX10_word 3 (some FieldType.int) := ⟨mok (i := 1067) (by decide +kernel) rfl, mok (i := 1065) (by decide +kernel) rfl, mok (i := 1066) (by decide +kernel) rfl, mok (i := 68) (by decide +kernel) rfl, by decide +kernel⟩
theorem zX10_year : jCV yX10_year cX10_year 1 (some FieldType.int) := ⟨mok (i := 1072) (by decide +kernel) rfl, mok (i := 1070) (by decide +kernel) rfl, mok (i := 1071) (by decide +kernel) rfl, mok (i := 68) (by decide +kernel) rfl, by decide +kernel⟩
theorem zX10_undo : jCV yX10_undo cX10_undo 2 (some FieldType.int) := ⟨mok (i := 1076) (by decide +kernel) rfl, mok (i := 1074) (by decide +kernel) rfl, mok (i := 1075) (by decide +kernel) rfl, mok (i := 68) (by decide +kernel) rfl, by decide +kernel⟩
theorem zX10_can : jCV yX10_can cX10_can 3 (some FieldType.boolean) := ⟨mok (i := 1084) (by decide +kernel) rfl, mok (i := 1083) (by decide +kernel) rfl, mok (i := 43) (by decide +kernel) rfl, mok (i := 68) (by decide +kernel) rfl, by decide +kernel⟩
theorem zX10_make : jCV yX10_make cX10_make 3 none := ⟨mok (i := 1088) (by decide +kernel) rfl, mok (i := 1087) (by decide +kernel) rfl, mok (i := 44) (by decide +kernel) rfl, mok (i := 68) (by decide +kernel) rfl, by decide +kernel⟩
theorem zX10_judge : jCV yX10_judge cX10_judge 6 (some FieldType.int) := ⟨mok (i := 1080) (by decide +kernel) rfl, mok (i := 1078) (by decide +kernel) rfl, mok (i := 1079) (by decide +kernel) rfl, mok (i := 68) (by decide +kernel) rfl, by decide +kernel⟩
theorem zX10_apart : jCS yX10_apart cX10_apart 2 (some FieldType.int) := ⟨mok (i := 1103) (by decide +kernel) rfl, mok (i := 1102) (by decide +kernel) rfl, mok (i := 68) (by decide +kernel) rfl, by decide +kernel⟩
theorem zX10_costBy : jCV yX10_costBy cX10_costBy 6 (some FieldType.int) := ⟨mok (i := 1100) (by decide +kernel) rfl, mok (i := 1099) (by decide +kernel) rfl, mok (i := 46) (by decide +kernel) rfl, mok (i := 68) (by decide +kernel) rfl, by decide +kernel⟩
theorem zX10_campaignWord : jCV yX10_campaignWord cX10_campaignWord 5 (some FieldType.int) := ⟨mok (i := 1096) (by decide +kernel) rfl, mok (i := 1095) (by decide +kernel) rfl, mok (i := 45) (by decide +kernel) rfl, mok (i := 68) (by decide +kernel) rfl, by decide +kernel⟩
theorem zX10_campaign : jCV yX10_campaign cX10_campaign 3 (some FieldType.int) := ⟨mok (i := 1092) (by decide +kernel) rfl, mok (i := 1090) (by decide +kernel) rfl, mok (i := 1091) (by decide +kernel) rfl, mok (i := 68) (by decide +kernel) rfl, by decide +kernel⟩
theorem zX10_campaignBy : jCV yX10_campaignBy cX10_campaignBy 4 (some FieldType.int) := ⟨mok (i := 1107) (by decide +kernel) rfl, mok (i := 1105) (by decide +kernel) rfl, mok (i := 1106) (by decide +kernel) rfl, mok (i := 68) (by decide +kernel) rfl, by decide +kernel⟩
theorem zX10_copy : jCV yX10_copy cX10_copy 6 (some FieldType.int) := ⟨mok (i := 1111) (by decide +kernel) rfl, mok (i := 1109) (by decide +kernel) rfl, mok (i := 1110) (by decide +kernel) rfl, mok (i := 68) (by decide +kernel) rfl, by decide +kernel⟩
theorem zX10_bestWord : jCV yX10_bestWord cX10_bestWord 5 (some FieldType.int) := ⟨mok (i := 1115) (by decide +kernel) rfl, mok (i := 1113) (by decide +kernel) rfl, mok (i := 1114) (by decide +kernel) rfl, mok (i := 68) (by decide +kernel) rfl, by decide +kernel⟩
theorem zX10_may : jCV yX10_may cX10_may 4 (some FieldType.boolean) := ⟨mok (i := 1127) (by decide +kernel) rfl, mok (i := 1126) (by decide +kernel) rfl, mok (i := 48) (by decide +kernel) rfl, mok (i := 68) (by decide +kernel) rfl, by decide +kernel⟩
theorem zX10_has3 : jCV yX10_has3 cX10_has3 9 (some FieldType.int) := ⟨mok (i := 1131) (by decide +kernel) rfl, mok (i := 1130) (by decide +kernel) rfl, mok (i := 49) (by decide +kernel) rfl, mok (i := 68) (by decide +kernel) rfl, by decide +kernel⟩
theorem zX10_rest : jCV yX10_rest cX10_rest 6 (some FieldType.boolean) := ⟨mok (i := 1123) (by decide +kernel) rfl, mok (i := 1122) (by decide +kernel) rfl, mok (i := 47) (by decide +kernel) rfl, mok (i := 68) (by decide +kernel) rfl, by decide +kernel⟩
theorem zX10_rests : jCV yX10_rests cX10_rests 6 (some FieldType.int) := ⟨mok (i := 1119) (by decide +kernel) rfl, mok (i := 1117) (by decide +kernel) rfl, mok (i := 1118) (by decide +kernel) rfl, mok (i := 68) (by decide +kernel) rfl, by decide +kernel⟩
theorem zX10_sight : jCV yX10_sight cX10_sight 4 (some FieldType.int) := ⟨mok (i := 1135) (by decide +kernel) rfl, mok (i := 1133) (by decide +kernel) rfl, mok (i := 1134) (by decide +kernel) rfl, mok (i := 68) (by decide +kernel) rfl, by decide +kernel⟩
theorem zX10_unsight : jCV yX10_unsight cX10_unsight 2 (some FieldType.int) := ⟨mok (i := 1140) (by decide +kernel) rfl, mok (i := 1138) (by decide +kernel) rfl, mok (i := 1139) (by decide +kernel) rfl, mok (i := 68) (by decide +kernel) rfl, by decide +kernel⟩
theorem zX10_hiddenThere : jCV yX10_hiddenThere cX10_hiddenThere 1 (some FieldType.int) := ⟨mok (i := 1152) (by decide +kernel) rfl, mok (i := 1151) (by decide +kernel) rfl, mok (i := 51) (by decide +kernel) rfl, mok (i := 68) (by decide +kernel) rfl, by decide +kernel⟩
theorem zX10_isSighted : jCV yX10_isSighted cX10_isSighted 6 (some FieldType.boolean) := ⟨mok (i := 1156) (by decide +kernel) rfl, mok (i := 1155) (by decide +kernel) rfl, mok (i := 52) (by decide +kernel) rfl, mok (i := 68) (by decide +kernel) rfl, by decide +kernel⟩
theorem zX10_layWorlds : jCV yX10_layWorlds cX10_layWorlds 4 none := ⟨mok (i := 1148) (by decide +kernel) rfl, mok (i := 1147) (by decide +kernel) rfl, mok (i := 50) (by decide +kernel) rfl, mok (i := 68) (by decide +kernel) rfl, by decide +kernel⟩
theorem zX10_worlds : jCV yX10_worlds cX10_worlds 2 (some FieldType.int) := ⟨mok (i := 1144) (by decide +kernel) rfl, mok (i := 1142) (by decide +kernel) rfl, mok (i := 1143) (by decide +kernel) rfl, mok (i := 68) (by decide +kernel) rfl, by decide +kernel⟩
theorem zX10_toSeek : jCV yX10_toSeek cX10_toSeek 6 (some FieldType.int) := ⟨mok (i := 1160) (by decide +kernel) rfl, mok (i := 1158) (by decide +kernel) rfl, mok (i := 1159) (by decide +kernel) rfl, mok (i := 68) (by decide +kernel) rfl, by decide +kernel⟩
theorem zX10_canMove : jCV yX10_canMove cX10_canMove 5 (some FieldType.boolean) := ⟨mok (i := 1173) (by decide +kernel) rfl, mok (i := 1172) (by decide +kernel) rfl, mok (i := 54) (by decide +kernel) rfl, mok (i := 68) (by decide +kernel) rfl, by decide +kernel⟩
theorem zX10_begin : jCV yX10_begin cX10_begin 4 none := ⟨mok (i := 1168) (by decide +kernel) rfl, mok (i := 1167) (by decide +kernel) rfl, mok (i := 53) (by decide +kernel) rfl, mok (i := 68) (by decide +kernel) rfl, by decide +kernel⟩
theorem zX10_go : jCV yX10_go cX10_go 6 none := ⟨mok (i := 1177) (by decide +kernel) rfl, mok (i := 1176) (by decide +kernel) rfl, mok (i := 55) (by decide +kernel) rfl, mok (i := 68) (by decide +kernel) rfl, by decide +kernel⟩
theorem zX10_byTurns : jCV yX10_byTurns cX10_byTurns 7 (some FieldType.int) := ⟨mok (i := 1164) (by decide +kernel) rfl, mok (i := 1162) (by decide +kernel) rfl, mok (i := 1163) (by decide +kernel) rfl, mok (i := 68) (by decide +kernel) rfl, by decide +kernel⟩
theorem zX10_common : jCS yX10_common cX10_common 5 (some FieldType.int) := ⟨mok (i := 1189) (by decide +kernel) rfl, mok (i := 1188) (by decide +kernel) rfl, mok (i := 68) (by decide +kernel) rfl, by decide +kernel⟩
theorem zX10_frail : jCV yX10_frail cX10_frail 4 (some FieldType.int) := ⟨mok (i := 1186) (by decide +kernel) rfl, mok (i := 1185) (by decide +kernel) rfl, mok (i := 56) (by decide +kernel) rfl, mok (i := 68) (by decide +kernel) rfl, by decide +kernel⟩
theorem zX10_chance : jCV yX10_chance cX10_chance 10 (some FieldType.int) := ⟨mok (i := 1181) (by decide +kernel) rfl, mok (i := 1179) (by decide +kernel) rfl, mok (i := 1180) (by decide +kernel) rfl, mok (i := 68) (by decide +kernel) rfl, by decide +kernel⟩
theorem zX10_seed : jCV yX10_seed cX10_seed 5 (some FieldType.long) := ⟨mok (i := 1193) (by decide +kernel) rfl, mok (i := 1191) (by decide +kernel) rfl, mok (i := 1192) (by decide +kernel) rfl, mok (i := 68) (by decide +kernel) rfl, by decide +kernel⟩
theorem zX10_years : jCV yX10_years cX10_years 6 (some FieldType.int) := ⟨mok (i := 1197) (by decide +kernel) rfl, mok (i := 1195) (by decide +kernel) rfl, mok (i := 1196) (by decide +kernel) rfl, mok (i := 68) (by decide +kernel) rfl, by decide +kernel⟩
theorem zX10_keep : jCV yX10_keep cX10_keep 3 (some FieldType.int) := ⟨mok (i := 1204) (by decide +kernel) rfl, mok (i := 1202) (by decide +kernel) rfl, mok (i := 1203) (by decide +kernel) rfl, mok (i := 68) (by decide +kernel) rfl, by decide +kernel⟩
theorem zX10_again : jCV yX10_again cX10_again 3 (some FieldType.int) := ⟨mok (i := 1208) (by decide +kernel) rfl, mok (i := 1206) (by decide +kernel) rfl, mok (i := 1207) (by decide +kernel) rfl, mok (i := 68) (by decide +kernel) rfl, by decide +kernel⟩
theorem zX10_count : jCV yX10_count cX10_count 2 (some FieldType.int) := ⟨mok (i := 1212) (by decide +kernel) rfl, mok (i := 1210) (by decide +kernel) rfl, mok (i := 1211) (by decide +kernel) rfl, mok (i := 68) (by decide +kernel) rfl, by decide +kernel⟩
theorem qX9_9 : Cond.methodLink RX9 9 yX8_init ∈ lw_ok := mok (i := 81) (by decide +kernel) rfl
theorem qX8_9 : Cond.fieldLink RX8 9 "LastOfKind$Text" "letters" "[I" ∈ lw_ok := mok (i := 85) (by decide +kernel) rfl
theorem qX8_15 : Cond.fieldLink RX8 15 "LastOfKind$Text" "length" "I" ∈ lw_ok := mok (i := 86) (by decide +kernel) rfl
theorem qX9_76 : Cond.fieldLink RX9 76 "LastOfKind$Text" "length" "I" ∈ lw_ok := mok (i := 87) (by decide +kernel) rfl
theorem qX9_18 : Cond.methodLink RX9 18 yX2_init ∈ lw_ok := mok (i := 96) (by decide +kernel) rfl
theorem qX2_9 : Cond.fieldLink RX2 9 "LastOfKind$House" "tags" "[I" ∈ lw_ok := mok (i := 100) (by decide +kernel) rfl
theorem qX2_23 : Cond.fieldLink RX2 23 "LastOfKind$House" "size" "I" ∈ lw_ok := mok (i := 101) (by decide +kernel) rfl
theorem qX7_54 : Cond.fieldLink RX7 54 "LastOfKind$House" "size" "I" ∈ lw_ok := mok (i := 102) (by decide +kernel) rfl
theorem qX4_57 : Cond.fieldLink RX4 57 "LastOfKind$House" "size" "I" ∈ lw_ok := mok (i := 103) (by decide +kernel) rfl
theorem qX9_94 : Cond.fieldLink RX9 94 "LastOfKind$House" "size" "I" ∈ lw_ok := mok (i := 104) (by decide +kernel) rfl
theorem qX2_15 : Cond.fieldLink RX2 15 "LastOfKind$House" "word" "I" ∈ lw_ok := mok (i := 105) (by decide +kernel) rfl
theorem qX0_18 : Cond.fieldLink RX0 18 "LastOfKind$House" "word" "I" ∈ lw_ok := mok (i := 106) (by decide +kernel) rfl
theorem qX1_27 : Cond.fieldLink RX1 27 "LastOfKind$House" "word" "I" ∈ lw_ok := mok (i := 107) (by decide +kernel) rfl
theorem qX5_34 : Cond.fieldLink RX5 34 "LastOfKind$House" "word" "I" ∈ lw_ok := mok (i := 108) (by decide +kernel) rfl
theorem qX7_78 : Cond.fieldLink RX7 78 "LastOfKind$House" "word" "I" ∈ lw_ok := mok (i := 109) (by decide +kernel) rfl
theorem qX9_119 : Cond.fieldLink RX9 119 "LastOfKind$House" "word" "I" ∈ lw_ok := mok (i := 110) (by decide +kernel) rfl
theorem qX2_26 : Cond.fieldLink RX2 26 "LastOfKind$House" "year" "I" ∈ lw_ok := mok (i := 111) (by decide +kernel) rfl
theorem qX9_151 : Cond.fieldLink RX9 151 "LastOfKind$House" "year" "I" ∈ lw_ok := mok (i := 112) (by decide +kernel) rfl
theorem qX3_36 : Cond.fieldLink RX3 36 "LastOfKind$House" "guarded" "I" ∈ lw_ok := mok (i := 113) (by decide +kernel) rfl
theorem qX2_29 : Cond.fieldLink RX2 29 "LastOfKind$House" "guarded" "I" ∈ lw_ok := mok (i := 114) (by decide +kernel) rfl
theorem qX5_70 : Cond.fieldLink RX5 70 "LastOfKind$House" "guarded" "I" ∈ lw_ok := mok (i := 115) (by decide +kernel) rfl
theorem qX9_104 : Cond.fieldLink RX9 104 "LastOfKind$House" "guarded" "I" ∈ lw_ok := mok (i := 116) (by decide +kernel) rfl
theorem qX3_40 : Cond.fieldLink RX3 40 "LastOfKind$House" "broken" "I" ∈ lw_ok := mok (i := 117) (by decide +kernel) rfl
theorem qX2_32 : Cond.fieldLink RX2 32 "LastOfKind$House" "broken" "I" ∈ lw_ok := mok (i := 118) (by decide +kernel) rfl
theorem qX9_107 : Cond.fieldLink RX9 107 "LastOfKind$House" "broken" "I" ∈ lw_ok := mok (i := 119) (by decide +kernel) rfl
theorem qX3_32 : Cond.fieldLink RX3 32 "LastOfKind$House" "hidden" "I" ∈ lw_ok := mok (i := 120) (by decide +kernel) rfl
theorem qX2_35 : Cond.fieldLink RX2 35 "LastOfKind$House" "hidden" "I" ∈ lw_ok := mok (i := 121) (by decide +kernel) rfl
theorem qX9_110 : Cond.fieldLink RX9 110 "LastOfKind$House" "hidden" "I" ∈ lw_ok := mok (i := 122) (by decide +kernel) rfl
theorem qX5_31 : Cond.fieldLink RX5 31 "LastOfKind$House" "claimed" "I" ∈ lw_ok := mok (i := 123) (by decide +kernel) rfl
theorem qX3_43 : Cond.fieldLink RX3 43 "LastOfKind$House" "claimed" "I" ∈ lw_ok := mok (i := 124) (by decide +kernel) rfl
theorem qX2_38 : Cond.fieldLink RX2 38 "LastOfKind$House" "claimed" "I" ∈ lw_ok := mok (i := 125) (by decide +kernel) rfl
theorem qX9_113 : Cond.fieldLink RX9 113 "LastOfKind$House" "claimed" "I" ∈ lw_ok := mok (i := 126) (by decide +kernel) rfl
theorem qX9_28 : Cond.methodLink RX9 28 yX6_init ∈ lw_ok := mok (i := 146) (by decide +kernel) rfl
theorem qX6_17 : Cond.methodLink RX6 17 yX2_init ∈ lw_ok := mok (i := 152) (by decide +kernel) rfl
theorem qX6_11 : Cond.fieldLink RX6 11 "LastOfKind$Row" "before" "[LLastOfKind$House;" ∈ lw_ok := mok (i := 153) (by decide +kernel) rfl
theorem qX6_22 : Cond.fieldLink RX6 22 "LastOfKind$Row" "next" "I" ∈ lw_ok := mok (i := 154) (by decide +kernel) rfl
theorem qX6_18 : Cond.fieldLink RX6 18 "LastOfKind$Row" "length" "I" ∈ lw_ok := mok (i := 155) (by decide +kernel) rfl
theorem qX9_158 : Cond.fieldLink RX9 158 "LastOfKind$Row" "length" "I" ∈ lw_ok := mok (i := 156) (by decide +kernel) rfl
theorem qX9_39 : Cond.methodLink RX9 39 yX5_init ∈ lw_ok := mok (i := 166) (by decide +kernel) rfl
theorem qX5_9 : Cond.fieldLink RX5 9 "LastOfKind$Plans" "cost" "I" ∈ lw_ok := mok (i := 170) (by decide +kernel) rfl
theorem qX9_180 : Cond.fieldLink RX9 180 "LastOfKind$Plans" "cost" "I" ∈ lw_ok := mok (i := 171) (by decide +kernel) rfl
theorem qX5_15 : Cond.fieldLink RX5 15 "LastOfKind$Plans" "wordThen" "I" ∈ lw_ok := mok (i := 172) (by decide +kernel) rfl
theorem qX9_183 : Cond.fieldLink RX9 183 "LastOfKind$Plans" "wordThen" "I" ∈ lw_ok := mok (i := 173) (by decide +kernel) rfl
theorem qX5_18 : Cond.fieldLink RX5 18 "LastOfKind$Plans" "toBreak" "I" ∈ lw_ok := mok (i := 174) (by decide +kernel) rfl
theorem qX9_186 : Cond.fieldLink RX9 186 "LastOfKind$Plans" "toBreak" "I" ∈ lw_ok := mok (i := 175) (by decide +kernel) rfl
theorem qX9_46 : Cond.methodLink RX9 46 yX4_init ∈ lw_ok := mok (i := 185) (by decide +kernel) rfl
theorem qX4_11 : Cond.methodLink RX4 11 yX1_init ∈ lw_ok := mok (i := 191) (by decide +kernel) rfl
theorem qX1_9 : Cond.fieldLink RX1 9 "LastOfKind$Goods" "near" "[I" ∈ lw_ok := mok (i := 195) (by decide +kernel) rfl
theorem qX1_15 : Cond.fieldLink RX1 15 "LastOfKind$Goods" "worths" "[I" ∈ lw_ok := mok (i := 196) (by decide +kernel) rfl
theorem qX1_18 : Cond.fieldLink RX1 18 "LastOfKind$Goods" "costs" "[I" ∈ lw_ok := mok (i := 197) (by decide +kernel) rfl
theorem qX4_12 : Cond.fieldLink RX4 12 "LastOfKind$Owners" "goods" "LLastOfKind$Goods;" ∈ lw_ok := mok (i := 207) (by decide +kernel) rfl
theorem qX4_18 : Cond.fieldLink RX4 18 "LastOfKind$Owners" "choosable" "[I" ∈ lw_ok := mok (i := 208) (by decide +kernel) rfl
theorem qX4_24 : Cond.fieldLink RX4 24 "LastOfKind$Owners" "prices" "[[I" ∈ lw_ok := mok (i := 209) (by decide +kernel) rfl
theorem qX4_27 : Cond.fieldLink RX4 27 "LastOfKind$Owners" "best" "[[I" ∈ lw_ok := mok (i := 210) (by decide +kernel) rfl
theorem qX4_41 : Cond.fieldLink RX4 41 "LastOfKind$Owners" "firstResting" "I" ∈ lw_ok := mok (i := 211) (by decide +kernel) rfl
theorem qX4_37 : Cond.fieldLink RX4 37 "LastOfKind$Owners" "resting" "I" ∈ lw_ok := mok (i := 212) (by decide +kernel) rfl
theorem qX9_203 : Cond.fieldLink RX9 203 "LastOfKind$Owners" "resting" "I" ∈ lw_ok := mok (i := 213) (by decide +kernel) rfl
theorem qX9_53 : Cond.methodLink RX9 53 yX7_init ∈ lw_ok := mok (i := 229) (by decide +kernel) rfl
theorem qX7_9 : Cond.fieldLink RX7 9 "LastOfKind$Sightings" "things" "[I" ∈ lw_ok := mok (i := 233) (by decide +kernel) rfl
theorem qX7_15 : Cond.fieldLink RX7 15 "LastOfKind$Sightings" "bounds" "[I" ∈ lw_ok := mok (i := 234) (by decide +kernel) rfl
theorem qX7_18 : Cond.fieldLink RX7 18 "LastOfKind$Sightings" "lower" "[Z" ∈ lw_ok := mok (i := 235) (by decide +kernel) rfl
theorem qX7_22 : Cond.fieldLink RX7 22 "LastOfKind$Sightings" "looked" "[I" ∈ lw_ok := mok (i := 236) (by decide +kernel) rfl
theorem qX7_25 : Cond.fieldLink RX7 25 "LastOfKind$Sightings" "worldsWith" "[I" ∈ lw_ok := mok (i := 237) (by decide +kernel) rfl
theorem qX7_28 : Cond.fieldLink RX7 28 "LastOfKind$Sightings" "length" "I" ∈ lw_ok := mok (i := 238) (by decide +kernel) rfl
theorem qX9_212 : Cond.fieldLink RX9 212 "LastOfKind$Sightings" "length" "I" ∈ lw_ok := mok (i := 239) (by decide +kernel) rfl
theorem qX7_42 : Cond.fieldLink RX7 42 "LastOfKind$Sightings" "total" "I" ∈ lw_ok := mok (i := 240) (by decide +kernel) rfl
theorem qX9_216 : Cond.fieldLink RX9 216 "LastOfKind$Sightings" "total" "I" ∈ lw_ok := mok (i := 241) (by decide +kernel) rfl
theorem qX7_45 : Cond.fieldLink RX7 45 "LastOfKind$Sightings" "inAll" "I" ∈ lw_ok := mok (i := 242) (by decide +kernel) rfl
theorem qX9_219 : Cond.fieldLink RX9 219 "LastOfKind$Sightings" "inAll" "I" ∈ lw_ok := mok (i := 243) (by decide +kernel) rfl
theorem qX7_48 : Cond.fieldLink RX7 48 "LastOfKind$Sightings" "inNone" "I" ∈ lw_ok := mok (i := 244) (by decide +kernel) rfl
theorem qX9_222 : Cond.fieldLink RX9 222 "LastOfKind$Sightings" "inNone" "I" ∈ lw_ok := mok (i := 245) (by decide +kernel) rfl
theorem qX9_60 : Cond.methodLink RX9 60 yX3_init ∈ lw_ok := mok (i := 268) (by decide +kernel) rfl
theorem qX3_13 : Cond.methodLink RX3 13 yX1_init ∈ lw_ok := mok (i := 273) (by decide +kernel) rfl
theorem qX3_14 : Cond.fieldLink RX3 14 "LastOfKind$Museums" "goods" "LLastOfKind$Goods;" ∈ lw_ok := mok (i := 274) (by decide +kernel) rfl
theorem qX3_28 : Cond.fieldLink RX3 28 "LastOfKind$Museums" "things" "I" ∈ lw_ok := mok (i := 275) (by decide +kernel) rfl
theorem qX3_35 : Cond.fieldLink RX3 35 "LastOfKind$Museums" "hidden" "I" ∈ lw_ok := mok (i := 276) (by decide +kernel) rfl
theorem qX3_39 : Cond.fieldLink RX3 39 "LastOfKind$Museums" "guarded" "I" ∈ lw_ok := mok (i := 277) (by decide +kernel) rfl
theorem qX3_50 : Cond.fieldLink RX3 50 "LastOfKind$Museums" "ahead" "I" ∈ lw_ok := mok (i := 278) (by decide +kernel) rfl
theorem qX9_231 : Cond.fieldLink RX9 231 "LastOfKind$Museums" "ahead" "I" ∈ lw_ok := mok (i := 279) (by decide +kernel) rfl
theorem qX3_53 : Cond.fieldLink RX3 53 "LastOfKind$Museums" "firstMove" "I" ∈ lw_ok := mok (i := 280) (by decide +kernel) rfl
theorem qX9_234 : Cond.fieldLink RX9 234 "LastOfKind$Museums" "firstMove" "I" ∈ lw_ok := mok (i := 281) (by decide +kernel) rfl
theorem qX9_67 : Cond.methodLink RX9 67 yX0_init ∈ lw_ok := mok (i := 297) (by decide +kernel) rfl
theorem qX0_47 : Cond.fieldLink RX0 47 "LastOfKind$Chances" "seed" "J" ∈ lw_ok := mok (i := 301) (by decide +kernel) rfl
theorem qX9_246 : Cond.fieldLink RX9 246 "LastOfKind$Chances" "seed" "J" ∈ lw_ok := mok (i := 302) (by decide +kernel) rfl
theorem qX0_26 : Cond.fieldLink RX0 26 "LastOfKind$Chances" "upper" "I" ∈ lw_ok := mok (i := 303) (by decide +kernel) rfl
theorem qX9_240 : Cond.fieldLink RX9 240 "LastOfKind$Chances" "upper" "I" ∈ lw_ok := mok (i := 304) (by decide +kernel) rfl
theorem qX0_31 : Cond.fieldLink RX0 31 "LastOfKind$Chances" "lower" "I" ∈ lw_ok := mok (i := 305) (by decide +kernel) rfl
theorem qX9_243 : Cond.fieldLink RX9 243 "LastOfKind$Chances" "lower" "I" ∈ lw_ok := mok (i := 306) (by decide +kernel) rfl
theorem qX9_10 : Cond.fieldLink RX9 10 "LastOfKind" "text" "LLastOfKind$Text;" ∈ lw_ok := mok (i := 314) (by decide +kernel) rfl
theorem qX9_19 : Cond.fieldLink RX9 19 "LastOfKind" "now" "LLastOfKind$House;" ∈ lw_ok := mok (i := 315) (by decide +kernel) rfl
theorem qX9_23 : Cond.fieldLink RX9 23 "LastOfKind" "trial" "LLastOfKind$House;" ∈ lw_ok := mok (i := 316) (by decide +kernel) rfl
theorem qX9_29 : Cond.fieldLink RX9 29 "LastOfKind" "row" "LLastOfKind$Row;" ∈ lw_ok := mok (i := 317) (by decide +kernel) rfl
theorem qX9_33 : Cond.fieldLink RX9 33 "LastOfKind" "slots" "[LLastOfKind$House;" ∈ lw_ok := mok (i := 318) (by decide +kernel) rfl
theorem qX9_91 : Cond.fieldLink RX9 91 "LastOfKind" "filledSlots" "I" ∈ lw_ok := mok (i := 319) (by decide +kernel) rfl
theorem qX9_40 : Cond.fieldLink RX9 40 "LastOfKind" "plans" "LLastOfKind$Plans;" ∈ lw_ok := mok (i := 320) (by decide +kernel) rfl
theorem qX9_47 : Cond.fieldLink RX9 47 "LastOfKind" "owners" "LLastOfKind$Owners;" ∈ lw_ok := mok (i := 321) (by decide +kernel) rfl
theorem qX9_54 : Cond.fieldLink RX9 54 "LastOfKind" "sightings" "LLastOfKind$Sightings;" ∈ lw_ok := mok (i := 322) (by decide +kernel) rfl
theorem qX9_61 : Cond.fieldLink RX9 61 "LastOfKind" "museums" "LLastOfKind$Museums;" ∈ lw_ok := mok (i := 323) (by decide +kernel) rfl
theorem qX9_68 : Cond.fieldLink RX9 68 "LastOfKind" "chances" "LLastOfKind$Chances;" ∈ lw_ok := mok (i := 324) (by decide +kernel) rfl
theorem qX9_72 : Cond.methodLink RX9 72 yX8_append ∈ lw_ok := mok (i := 352) (by decide +kernel) rfl
theorem qX9_80 : Cond.methodLink RX9 80 yX8_firstFault ∈ lw_ok := mok (i := 364) (by decide +kernel) rfl
theorem qX8_19 : Cond.methodLink RX8 19 yX8_fits ∈ lw_ok := mok (i := 368) (by decide +kernel) rfl
theorem qX8_33 : Cond.methodLink RX8 33 yX8_isWithin ∈ lw_ok := mok (i := 375) (by decide +kernel) rfl
theorem qX9_84 : Cond.methodLink RX9 84 yX2_readFrom ∈ lw_ok := mok (i := 383) (by decide +kernel) rfl
theorem qX2_41 : Cond.methodLink RX2 41 yX8_things ∈ lw_ok := mok (i := 387) (by decide +kernel) rfl
theorem qX2_53 : Cond.methodLink RX2 53 yX8_wordTold ∈ lw_ok := mok (i := 397) (by decide +kernel) rfl
theorem qX2_56 : Cond.methodLink RX2 56 yX8_figureTold ∈ lw_ok := mok (i := 401) (by decide +kernel) rfl
theorem qX9_88 : Cond.methodLink RX9 88 yX6_clear ∈ lw_ok := mok (i := 405) (by decide +kernel) rfl
theorem qX9_97 : Cond.methodLink RX9 97 yX2_has ∈ lw_ok := mok (i := 413) (by decide +kernel) rfl
theorem qX9_100 : Cond.methodLink RX9 100 yX2_figure ∈ lw_ok := mok (i := 417) (by decide +kernel) rfl
theorem qX9_116 : Cond.methodLink RX9 116 yX2_lastOnes ∈ lw_ok := mok (i := 422) (by decide +kernel) rfl
theorem qX2_78 : Cond.methodLink RX2 78 yX2_shown ∈ lw_ok := mok (i := 426) (by decide +kernel) rfl
theorem qX2_62 : Cond.methodLink RX2 62 yX2_there ∈ lw_ok := mok (i := 430) (by decide +kernel) rfl
theorem qX2_59 : Cond.methodLink RX2 59 yX2_all ∈ lw_ok := mok (i := 434) (by decide +kernel) rfl
theorem qX2_81 : Cond.methodLink RX2 81 yX2_lastOnesBy ∈ lw_ok := mok (i := 438) (by decide +kernel) rfl
theorem qX2_84 : Cond.methodLink RX2 84 yX2_alikeTo ∈ lw_ok := mok (i := 445) (by decide +kernel) rfl
theorem qX2_69 : Cond.methodLink RX2 69 yX2_sameMarks ∈ lw_ok := mok (i := 449) (by decide +kernel) rfl
theorem qX9_122 : Cond.methodLink RX9 122 yX2_shown ∈ lw_ok := mok (i := 463) (by decide +kernel) rfl
theorem qX9_125 : Cond.methodLink RX9 125 yX2_alikeTo ∈ lw_ok := mok (i := 464) (by decide +kernel) rfl
theorem qX9_129 : Cond.methodLink RX9 129 yX2_priceOf ∈ lw_ok := mok (i := 469) (by decide +kernel) rfl
theorem qX2_88 : Cond.methodLink RX2 88 yX2_figure ∈ lw_ok := mok (i := 473) (by decide +kernel) rfl
theorem qX2_91 : Cond.methodLink RX2 91 yX2_shareOf ∈ lw_ok := mok (i := 474) (by decide +kernel) rfl
theorem qX9_133 : Cond.methodLink RX9 133 yX9_tryAct ∈ lw_ok := mok (i := 481) (by decide +kernel) rfl
theorem qX9_165 : Cond.methodLink RX9 165 yX2_canBe ∈ lw_ok := mok (i := 485) (by decide +kernel) rfl
theorem qX2_94 : Cond.methodLink RX2 94 yX2_has ∈ lw_ok := mok (i := 489) (by decide +kernel) rfl
theorem qX2_98 : Cond.methodLink RX2 98 yX2_breakable ∈ lw_ok := mok (i := 490) (by decide +kernel) rfl
theorem qX9_136 : Cond.methodLink RX9 136 yX6_remember ∈ lw_ok := mok (i := 494) (by decide +kernel) rfl
theorem qX6_25 : Cond.methodLink RX6 25 yX6_placeAt ∈ lw_ok := mok (i := 498) (by decide +kernel) rfl
theorem qX6_29 : Cond.methodLink RX6 29 yX2_copyFrom ∈ lw_ok := mok (i := 502) (by decide +kernel) rfl
theorem qX9_169 : Cond.methodLink RX9 169 yX2_perform ∈ lw_ok := mok (i := 507) (by decide +kernel) rfl
theorem qX9_140 : Cond.methodLink RX9 140 yX2_addForged ∈ lw_ok := mok (i := 515) (by decide +kernel) rfl
theorem qX2_101 : Cond.constant RX2 101 (1048576 : Int32) ∈ lw_ok := mok (i := 519) (by decide +kernel) rfl
theorem qX2_102 : Cond.constant RX2 102 (16777216 : Int32) ∈ lw_ok := mok (i := 520) (by decide +kernel) rfl
theorem qX9_148 : Cond.methodLink RX9 148 yX2_changeWord ∈ lw_ok := mok (i := 541) (by decide +kernel) rfl
theorem qX2_107 : Cond.methodLink RX2 107 yX2_lastOnes ∈ lw_ok := mok (i := 545) (by decide +kernel) rfl
theorem qX9_154 : Cond.methodLink RX9 154 yX6_takeBack ∈ lw_ok := mok (i := 554) (by decide +kernel) rfl
theorem qX9_159 : Cond.methodLink RX9 159 yX9_withoutLast ∈ lw_ok := mok (i := 562) (by decide +kernel) rfl
theorem qX9_162 : Cond.methodLink RX9 162 yX2_copyFrom ∈ lw_ok := mok (i := 565) (by decide +kernel) rfl
theorem qX9_173 : Cond.methodLink RX9 173 yX9_holds ∈ lw_ok := mok (i := 570) (by decide +kernel) rfl
theorem qX9_176 : Cond.methodLink RX9 176 yX5_seekCampaign ∈ lw_ok := mok (i := 571) (by decide +kernel) rfl
theorem qX5_21 : Cond.methodLink RX5 21 yX2_shown ∈ lw_ok := mok (i := 575) (by decide +kernel) rfl
theorem qX5_27 : Cond.methodLink RX5 27 yX2_alikeTo ∈ lw_ok := mok (i := 576) (by decide +kernel) rfl
theorem qX5_43 : Cond.methodLink RX5 43 yX5_costToBreak ∈ lw_ok := mok (i := 580) (by decide +kernel) rfl
theorem qX5_67 : Cond.methodLink RX5 67 yX2_figure ∈ lw_ok := mok (i := 584) (by decide +kernel) rfl
theorem qX9_189 : Cond.methodLink RX9 189 yX5_leastCopy ∈ lw_ok := mok (i := 593) (by decide +kernel) rfl
theorem qX5_52 : Cond.methodLink RX5 52 yX5_frees ∈ lw_ok := mok (i := 598) (by decide +kernel) rfl
theorem qX5_73 : Cond.methodLink RX5 73 yX2_sameMarks ∈ lw_ok := mok (i := 601) (by decide +kernel) rfl
theorem qX9_193 : Cond.methodLink RX9 193 yX5_wordOfMostLast ∈ lw_ok := mok (i := 606) (by decide +kernel) rfl
theorem qX5_56 : Cond.methodLink RX5 56 yX5_lastBy ∈ lw_ok := mok (i := 610) (by decide +kernel) rfl
theorem qX5_59 : Cond.methodLink RX5 59 yX2_lastOnesBy ∈ lw_ok := mok (i := 614) (by decide +kernel) rfl
theorem qX9_197 : Cond.methodLink RX9 197 yX5_lastBy ∈ lw_ok := mok (i := 615) (by decide +kernel) rfl
theorem qX9_200 : Cond.methodLink RX9 200 yX4_weigh ∈ lw_ok := mok (i := 620) (by decide +kernel) rfl
theorem qX4_30 : Cond.methodLink RX4 30 yX1_learn ∈ lw_ok := mok (i := 624) (by decide +kernel) rfl
theorem qX1_21 : Cond.methodLink RX1 21 yX2_has ∈ lw_ok := mok (i := 628) (by decide +kernel) rfl
theorem qX1_31 : Cond.methodLink RX1 31 yX2_all ∈ lw_ok := mok (i := 629) (by decide +kernel) rfl
theorem qX1_35 : Cond.methodLink RX1 35 yX2_alikeTo ∈ lw_ok := mok (i := 630) (by decide +kernel) rfl
theorem qX1_39 : Cond.methodLink RX1 39 yX2_figure ∈ lw_ok := mok (i := 631) (by decide +kernel) rfl
theorem qX4_34 : Cond.methodLink RX4 34 yX4_learn ∈ lw_ok := mok (i := 632) (by decide +kernel) rfl
theorem qX4_48 : Cond.methodLink RX4 48 yX2_shown ∈ lw_ok := mok (i := 636) (by decide +kernel) rfl
theorem qX4_54 : Cond.methodLink RX4 54 yX2_breakable ∈ lw_ok := mok (i := 637) (by decide +kernel) rfl
theorem qX4_60 : Cond.methodLink RX4 60 yX2_figure ∈ lw_ok := mok (i := 638) (by decide +kernel) rfl
theorem qX4_78 : Cond.methodLink RX4 78 yX1_pricesAmong ∈ lw_ok := mok (i := 644) (by decide +kernel) rfl
theorem qX1_47 : Cond.methodLink RX1 47 yX2_shareOf ∈ lw_ok := mok (i := 648) (by decide +kernel) rfl
theorem qX4_44 : Cond.methodLink RX4 44 yX4_goThrough ∈ lw_ok := mok (i := 649) (by decide +kernel) rfl
theorem qX4_81 : Cond.methodLink RX4 81 yX4_mayChoose ∈ lw_ok := mok (i := 653) (by decide +kernel) rfl
theorem qX4_85 : Cond.methodLink RX4 85 yX4_raiseBest ∈ lw_ok := mok (i := 658) (by decide +kernel) rfl
theorem qX4_100 : Cond.methodLink RX4 100 yX4_has ∈ lw_ok := mok (i := 662) (by decide +kernel) rfl
theorem qX4_112 : Cond.methodLink RX4 112 yX1_cost ∈ lw_ok := mok (i := 666) (by decide +kernel) rfl
theorem qX4_104 : Cond.methodLink RX4 104 yX4_raise ∈ lw_ok := mok (i := 671) (by decide +kernel) rfl
theorem qX4_89 : Cond.methodLink RX4 89 yX4_isRest ∈ lw_ok := mok (i := 676) (by decide +kernel) rfl
theorem qX4_92 : Cond.methodLink RX4 92 yX4_tell ∈ lw_ok := mok (i := 680) (by decide +kernel) rfl
theorem qX9_206 : Cond.methodLink RX9 206 yX4_firstChoice ∈ lw_ok := mok (i := 684) (by decide +kernel) rfl
theorem qX9_209 : Cond.methodLink RX9 209 yX7_append ∈ lw_ok := mok (i := 692) (by decide +kernel) rfl
theorem qX9_213 : Cond.methodLink RX9 213 yX7_survey ∈ lw_ok := mok (i := 704) (by decide +kernel) rfl
theorem qX7_32 : Cond.methodLink RX7 32 yX2_unseen ∈ lw_ok := mok (i := 708) (by decide +kernel) rfl
theorem qX7_38 : Cond.methodLink RX7 38 yX7_learn ∈ lw_ok := mok (i := 712) (by decide +kernel) rfl
theorem qX7_74 : Cond.methodLink RX7 74 yX2_has ∈ lw_ok := mok (i := 716) (by decide +kernel) rfl
theorem qX7_81 : Cond.methodLink RX7 81 yX2_all ∈ lw_ok := mok (i := 717) (by decide +kernel) rfl
theorem qX7_84 : Cond.methodLink RX7 84 yX2_alikeTo ∈ lw_ok := mok (i := 718) (by decide +kernel) rfl
theorem qX7_51 : Cond.methodLink RX7 51 yX2_shown ∈ lw_ok := mok (i := 719) (by decide +kernel) rfl
theorem qX7_57 : Cond.methodLink RX7 57 yX7_isSo ∈ lw_ok := mok (i := 720) (by decide +kernel) rfl
theorem qX7_61 : Cond.methodLink RX7 61 yX7_tally ∈ lw_ok := mok (i := 725) (by decide +kernel) rfl
theorem qX9_225 : Cond.methodLink RX9 225 yX7_mostTelling ∈ lw_ok := mok (i := 733) (by decide +kernel) rfl
theorem qX9_228 : Cond.methodLink RX9 228 yX3_play ∈ lw_ok := mok (i := 743) (by decide +kernel) rfl
theorem qX3_18 : Cond.methodLink RX3 18 yX1_learn ∈ lw_ok := mok (i := 747) (by decide +kernel) rfl
theorem qX3_22 : Cond.methodLink RX3 22 yX2_all ∈ lw_ok := mok (i := 748) (by decide +kernel) rfl
theorem qX3_46 : Cond.methodLink RX3 46 yX3_lead ∈ lw_ok := mok (i := 749) (by decide +kernel) rfl
theorem qX3_56 : Cond.methodLink RX3 56 yX1_lastAmong ∈ lw_ok := mok (i := 752) (by decide +kernel) rfl
theorem qX3_60 : Cond.methodLink RX3 60 yX3_leadByLastTurn ∈ lw_ok := mok (i := 756) (by decide +kernel) rfl
theorem qX3_72 : Cond.methodLink RX3 72 yX1_worth ∈ lw_ok := mok (i := 760) (by decide +kernel) rfl
theorem qX3_63 : Cond.methodLink RX3 63 yX3_gainOf ∈ lw_ok := mok (i := 764) (by decide +kernel) rfl
theorem qX3_75 : Cond.methodLink RX3 75 yX1_cost ∈ lw_ok := mok (i := 768) (by decide +kernel) rfl
theorem qX9_237 : Cond.methodLink RX9 237 yX0_weigh ∈ lw_ok := mok (i := 774) (by decide +kernel) rfl
theorem qX0_9 : Cond.methodLink RX0 9 yX2_shown ∈ lw_ok := mok (i := 778) (by decide +kernel) rfl
theorem qX0_15 : Cond.methodLink RX0 15 yX2_breakable ∈ lw_ok := mok (i := 779) (by decide +kernel) rfl
theorem qX0_22 : Cond.methodLink RX0 22 yX2_alikeTo ∈ lw_ok := mok (i := 780) (by decide +kernel) rfl
theorem qX0_44 : Cond.methodLink RX0 44 yX0_reduce ∈ lw_ok := mok (i := 783) (by decide +kernel) rfl
theorem qX9_250 : Cond.methodLink RX9 250 yX0_lastAfter ∈ lw_ok := mok (i := 795) (by decide +kernel) rfl
theorem qX0_51 : Cond.constantLong RX0 51 (6364136223846793005 : Int64) ∈ lw_ok := mok (i := 799) (by decide +kernel) rfl
theorem qX0_53 : Cond.constantLong RX0 53 (1442695040888963407 : Int64) ∈ lw_ok := mok (i := 800) (by decide +kernel) rfl
theorem qX0_55 : Cond.constantLong RX0 55 (10 : Int64) ∈ lw_ok := mok (i := 801) (by decide +kernel) rfl
theorem qX0_57 : Cond.methodLink RX0 57 yX2_lastOnesBy ∈ lw_ok := mok (i := 802) (by decide +kernel) rfl
theorem qX9_254 : Cond.methodLink RX9 254 yX9_slotAt ∈ lw_ok := mok (i := 807) (by decide +kernel) rfl
theorem qX9_258 : Cond.methodLink RX9 258 yX2_unseen ∈ lw_ok := mok (i := 819) (by decide +kernel) rfl
theorem qX10_7 : Cond.fieldLink RX10 7 "LastOfKindModel" "now" "[I" ∈ lw_ok := mok (i := 826) (by decide +kernel) rfl
theorem qX10_13 : Cond.fieldLink RX10 13 "LastOfKindModel" "text" "[I" ∈ lw_ok := mok (i := 827) (by decide +kernel) rfl
theorem qX10_62 : Cond.fieldLink RX10 62 "LastOfKindModel" "length" "I" ∈ lw_ok := mok (i := 828) (by decide +kernel) rfl
theorem qX10_92 : Cond.fieldLink RX10 92 "LastOfKindModel" "acts" "I" ∈ lw_ok := mok (i := 829) (by decide +kernel) rfl
theorem qX10_149 : Cond.fieldLink RX10 149 "LastOfKindModel" "next" "I" ∈ lw_ok := mok (i := 830) (by decide +kernel) rfl
theorem qX10_16 : Cond.fieldLink RX10 16 "LastOfKindModel" "row" "[I" ∈ lw_ok := mok (i := 831) (by decide +kernel) rfl
theorem qX10_211 : Cond.fieldLink RX10 211 "LastOfKindModel" "sights" "I" ∈ lw_ok := mok (i := 832) (by decide +kernel) rfl
theorem qX10_19 : Cond.fieldLink RX10 19 "LastOfKindModel" "sightOf" "[I" ∈ lw_ok := mok (i := 833) (by decide +kernel) rfl
theorem qX10_22 : Cond.fieldLink RX10 22 "LastOfKindModel" "sightMany" "[I" ∈ lw_ok := mok (i := 834) (by decide +kernel) rfl
theorem qX10_25 : Cond.fieldLink RX10 25 "LastOfKindModel" "sightLeast" "[Z" ∈ lw_ok := mok (i := 835) (by decide +kernel) rfl
theorem qX10_217 : Cond.fieldLink RX10 217 "LastOfKindModel" "worldMany" "I" ∈ lw_ok := mok (i := 836) (by decide +kernel) rfl
theorem qX10_220 : Cond.fieldLink RX10 220 "LastOfKindModel" "worldAll" "I" ∈ lw_ok := mok (i := 837) (by decide +kernel) rfl
theorem qX10_223 : Cond.fieldLink RX10 223 "LastOfKindModel" "worldSome" "I" ∈ lw_ok := mok (i := 838) (by decide +kernel) rfl
theorem qX10_29 : Cond.fieldLink RX10 29 "LastOfKindModel" "worldWith" "[I" ∈ lw_ok := mok (i := 839) (by decide +kernel) rfl
theorem qX10_32 : Cond.fieldLink RX10 32 "LastOfKindModel" "gBroken" "[I" ∈ lw_ok := mok (i := 840) (by decide +kernel) rfl
theorem qX10_35 : Cond.fieldLink RX10 35 "LastOfKindModel" "gClaimed" "[I" ∈ lw_ok := mok (i := 841) (by decide +kernel) rfl
theorem qX10_38 : Cond.fieldLink RX10 38 "LastOfKindModel" "gTry" "[I" ∈ lw_ok := mok (i := 842) (by decide +kernel) rfl
theorem qX10_41 : Cond.fieldLink RX10 41 "LastOfKindModel" "gBest" "[I" ∈ lw_ok := mok (i := 843) (by decide +kernel) rfl
theorem qX10_44 : Cond.fieldLink RX10 44 "LastOfKindModel" "gMove" "[I" ∈ lw_ok := mok (i := 844) (by decide +kernel) rfl
theorem qX10_47 : Cond.fieldLink RX10 47 "LastOfKindModel" "gHas" "[I" ∈ lw_ok := mok (i := 845) (by decide +kernel) rfl
theorem qX10_251 : Cond.fieldLink RX10 251 "LastOfKindModel" "seed" "J" ∈ lw_ok := mok (i := 846) (by decide +kernel) rfl
theorem qX10_50 : Cond.fieldLink RX10 50 "LastOfKindModel" "isKept" "[Z" ∈ lw_ok := mok (i := 847) (by decide +kernel) rfl
theorem qX10_53 : Cond.fieldLink RX10 53 "LastOfKindModel" "kept" "[I" ∈ lw_ok := mok (i := 848) (by decide +kernel) rfl
theorem qX10_56 : Cond.constantLong RX10 56 (255 : Int64) ∈ lw_ok := mok (i := 900) (by decide +kernel) rfl
theorem qX10_58 : Cond.methodLink RX10 58 yX10_in ∈ lw_ok := mok (i := 901) (by decide +kernel) rfl
theorem qX10_76 : Cond.methodLink RX10 76 yX10_fits ∈ lw_ok := mok (i := 912) (by decide +kernel) rfl
theorem qX10_66 : Cond.constantLong RX10 66 (49 : Int64) ∈ lw_ok := mok (i := 916) (by decide +kernel) rfl
theorem qX10_68 : Cond.constantLong RX10 68 (52 : Int64) ∈ lw_ok := mok (i := 917) (by decide +kernel) rfl
theorem qX10_70 : Cond.constantLong RX10 70 (48 : Int64) ∈ lw_ok := mok (i := 918) (by decide +kernel) rfl
theorem qX10_72 : Cond.constantLong RX10 72 (50 : Int64) ∈ lw_ok := mok (i := 919) (by decide +kernel) rfl
theorem qX10_74 : Cond.constantLong RX10 74 (57 : Int64) ∈ lw_ok := mok (i := 920) (by decide +kernel) rfl
theorem qX10_80 : Cond.methodLink RX10 80 yX10_fault ∈ lw_ok := mok (i := 925) (by decide +kernel) rfl
theorem qX10_84 : Cond.methodLink RX10 84 yX10_figure ∈ lw_ok := mok (i := 926) (by decide +kernel) rfl
theorem qX10_88 : Cond.methodLink RX10 88 yX10_code ∈ lw_ok := mok (i := 930) (by decide +kernel) rfl
theorem qX10_128 : Cond.methodLink RX10 128 yX10_isThing ∈ lw_ok := mok (i := 937) (by decide +kernel) rfl
theorem qX10_101 : Cond.methodLink RX10 101 yX10_markOf ∈ lw_ok := mok (i := 941) (by decide +kernel) rfl
theorem qX10_95 : Cond.methodLink RX10 95 yX10_marksOf ∈ lw_ok := mok (i := 945) (by decide +kernel) rfl
theorem qX10_98 : Cond.methodLink RX10 98 yX10_tenTo ∈ lw_ok := mok (i := 949) (by decide +kernel) rfl
theorem qX10_131 : Cond.methodLink RX10 131 yX10_ownerOf ∈ lw_ok := mok (i := 952) (by decide +kernel) rfl
theorem qX10_134 : Cond.methodLink RX10 134 yX10_worthOf ∈ lw_ok := mok (i := 956) (by decide +kernel) rfl
theorem qX10_137 : Cond.methodLink RX10 137 yX10_costOf ∈ lw_ok := mok (i := 960) (by decide +kernel) rfl
theorem qX10_140 : Cond.methodLink RX10 140 yX10_guardOf ∈ lw_ok := mok (i := 964) (by decide +kernel) rfl
theorem qX10_143 : Cond.methodLink RX10 143 yX10_last ∈ lw_ok := mok (i := 968) (by decide +kernel) rfl
theorem qX10_122 : Cond.methodLink RX10 122 yX10_shown ∈ lw_ok := mok (i := 972) (by decide +kernel) rfl
theorem qX10_125 : Cond.methodLink RX10 125 yX10_lastOf ∈ lw_ok := mok (i := 976) (by decide +kernel) rfl
theorem qX10_105 : Cond.methodLink RX10 105 yX10_many ∈ lw_ok := mok (i := 980) (by decide +kernel) rfl
theorem qX10_108 : Cond.methodLink RX10 108 yX10_has ∈ lw_ok := mok (i := 984) (by decide +kernel) rfl
theorem qX10_118 : Cond.methodLink RX10 118 yX10_alikeOf ∈ lw_ok := mok (i := 987) (by decide +kernel) rfl
theorem qX10_112 : Cond.methodLink RX10 112 yX10_same ∈ lw_ok := mok (i := 991) (by decide +kernel) rfl
theorem qX10_115 : Cond.methodLink RX10 115 yX10_ones ∈ lw_ok := mok (i := 995) (by decide +kernel) rfl
theorem qX10_146 : Cond.methodLink RX10 146 yX10_priceBy ∈ lw_ok := mok (i := 1006) (by decide +kernel) rfl
theorem qX10_159 : Cond.methodLink RX10 159 yX10_canBreak ∈ lw_ok := mok (i := 1014) (by decide +kernel) rfl
theorem qX10_152 : Cond.methodLink RX10 152 yX10_guardAt ∈ lw_ok := mok (i := 1018) (by decide +kernel) rfl
theorem qX10_162 : Cond.methodLink RX10 162 yX10_keepAct ∈ lw_ok := mok (i := 1022) (by decide +kernel) rfl
theorem qX10_165 : Cond.constantLong RX10 165 (9999 : Int64) ∈ lw_ok := mok (i := 1030) (by decide +kernel) rfl
theorem qX10_167 : Cond.constantLong RX10 167 (2 : Int64) ∈ lw_ok := mok (i := 1031) (by decide +kernel) rfl
theorem qX10_155 : Cond.methodLink RX10 155 yX10_free ∈ lw_ok := mok (i := 1032) (by decide +kernel) rfl
theorem qX10_169 : Cond.methodLink RX10 169 yX10_canHide ∈ lw_ok := mok (i := 1040) (by decide +kernel) rfl
theorem qX10_172 : Cond.methodLink RX10 172 yX10_doHide ∈ lw_ok := mok (i := 1044) (by decide +kernel) rfl
theorem qX10_175 : Cond.methodLink RX10 175 yX10_canClaim ∈ lw_ok := mok (i := 1052) (by decide +kernel) rfl
theorem qX10_178 : Cond.methodLink RX10 178 yX10_doGuard ∈ lw_ok := mok (i := 1060) (by decide +kernel) rfl
theorem qX10_181 : Cond.constantLong RX10 181 (4 : Int64) ∈ lw_ok := mok (i := 1068) (by decide +kernel) rfl
theorem qX10_183 : Cond.methodLink RX10 183 yX10_can ∈ lw_ok := mok (i := 1081) (by decide +kernel) rfl
theorem qX10_186 : Cond.methodLink RX10 186 yX10_make ∈ lw_ok := mok (i := 1085) (by decide +kernel) rfl
theorem qX10_195 : Cond.methodLink RX10 195 yX10_campaignWord ∈ lw_ok := mok (i := 1093) (by decide +kernel) rfl
theorem qX10_192 : Cond.methodLink RX10 192 yX10_costBy ∈ lw_ok := mok (i := 1097) (by decide +kernel) rfl
theorem qX10_189 : Cond.methodLink RX10 189 yX10_apart ∈ lw_ok := mok (i := 1101) (by decide +kernel) rfl
theorem qX10_205 : Cond.methodLink RX10 205 yX10_rest ∈ lw_ok := mok (i := 1120) (by decide +kernel) rfl
theorem qX10_198 : Cond.methodLink RX10 198 yX10_may ∈ lw_ok := mok (i := 1124) (by decide +kernel) rfl
theorem qX10_201 : Cond.methodLink RX10 201 yX10_has3 ∈ lw_ok := mok (i := 1128) (by decide +kernel) rfl
theorem qX10_209 : Cond.constantLong RX10 209 (8 : Int64) ∈ lw_ok := mok (i := 1136) (by decide +kernel) rfl
theorem qX10_229 : Cond.methodLink RX10 229 yX10_layWorlds ∈ lw_ok := mok (i := 1145) (by decide +kernel) rfl
theorem qX10_214 : Cond.methodLink RX10 214 yX10_hiddenThere ∈ lw_ok := mok (i := 1149) (by decide +kernel) rfl
theorem qX10_226 : Cond.methodLink RX10 226 yX10_isSighted ∈ lw_ok := mok (i := 1153) (by decide +kernel) rfl
theorem qX10_233 : Cond.methodLink RX10 233 yX10_begin ∈ lw_ok := mok (i := 1165) (by decide +kernel) rfl
theorem qX10_232 : Cond.constant RX10 232 (-100000 : Int32) ∈ lw_ok := mok (i := 1169) (by decide +kernel) rfl
theorem qX10_237 : Cond.methodLink RX10 237 yX10_canMove ∈ lw_ok := mok (i := 1170) (by decide +kernel) rfl
theorem qX10_240 : Cond.methodLink RX10 240 yX10_go ∈ lw_ok := mok (i := 1174) (by decide +kernel) rfl
theorem qX10_243 : Cond.constantLong RX10 243 (10 : Int64) ∈ lw_ok := mok (i := 1182) (by decide +kernel) rfl
theorem qX10_245 : Cond.methodLink RX10 245 yX10_frail ∈ lw_ok := mok (i := 1183) (by decide +kernel) rfl
theorem qX10_248 : Cond.methodLink RX10 248 yX10_common ∈ lw_ok := mok (i := 1187) (by decide +kernel) rfl
theorem qX10_255 : Cond.constantLong RX10 255 (30 : Int64) ∈ lw_ok := mok (i := 1198) (by decide +kernel) rfl
theorem qX10_257 : Cond.constantLong RX10 257 (6364136223846793005 : Int64) ∈ lw_ok := mok (i := 1199) (by decide +kernel) rfl
theorem qX10_259 : Cond.constantLong RX10 259 (1442695040888963407 : Int64) ∈ lw_ok := mok (i := 1200) (by decide +kernel) rfl
theorem inX0 : ∀ w ∈ u_ws RX0 TX0 3, w ∈ lw_ok := by decide +kernel
theorem inX1 : ∀ w ∈ u_ws RX1 TX1 3, w ∈ lw_ok := by decide +kernel
theorem inX2 : ∀ w ∈ u_ws RX2 TX2 8, w ∈ lw_ok := by decide +kernel
theorem inX3 : ∀ w ∈ u_ws RX3 TX3 6, w ∈ lw_ok := by decide +kernel
theorem inX4 : ∀ w ∈ u_ws RX4 TX4 6, w ∈ lw_ok := by decide +kernel
theorem inX5 : ∀ w ∈ u_ws RX5 TX5 3, w ∈ lw_ok := by decide +kernel
theorem inX6 : ∀ w ∈ u_ws RX6 TX6 3, w ∈ lw_ok := by decide +kernel
theorem inX7 : ∀ w ∈ u_ws RX7 TX7 9, w ∈ lw_ok := by decide +kernel
theorem inX8 : ∀ w ∈ u_ws RX8 TX8 2, w ∈ lw_ok := by decide +kernel
theorem inX9 : ∀ w ∈ u_ws RX9 TX9 11, w ∈ lw_ok := by decide +kernel
theorem inX10 : ∀ w ∈ u_ws RX10 TX10 23, w ∈ lw_ok := by decide +kernel
def nestL : List (String × Nat × MethodName × String) := [(RX8, 29, yX9_at, "LastOfKind"), (RX2, 19, yX9_at, "LastOfKind"), (RX2, 65, yX9_holds, "LastOfKind"), (RX2, 103, yX9_put, "LastOfKind"), (RX5, 63, yX9_holds, "LastOfKind"), (RX4, 64, yX9_put, "LastOfKind"), (RX4, 68, yX9_rowAt, "LastOfKind"), (RX4, 96, yX9_at, "LastOfKind"), (RX1, 43, yX9_at, "LastOfKind"), (RX7, 71, yX9_holds, "LastOfKind"), (RX0, 34, yX9_holds, "LastOfKind")]
theorem qX8_29 : (RX8, 29, yX9_at, "LastOfKind") ∈ nestL := List.mem_of_getElem? (i := 0) rfl
theorem qX2_19 : (RX2, 19, yX9_at, "LastOfKind") ∈ nestL := List.mem_of_getElem? (i := 1) rfl
theorem qX2_65 : (RX2, 65, yX9_holds, "LastOfKind") ∈ nestL := List.mem_of_getElem? (i := 2) rfl
theorem qX2_103 : (RX2, 103, yX9_put, "LastOfKind") ∈ nestL := List.mem_of_getElem? (i := 3) rfl
theorem qX5_63 : (RX5, 63, yX9_holds, "LastOfKind") ∈ nestL := List.mem_of_getElem? (i := 4) rfl
theorem qX4_64 : (RX4, 64, yX9_put, "LastOfKind") ∈ nestL := List.mem_of_getElem? (i := 5) rfl
theorem qX4_68 : (RX4, 68, yX9_rowAt, "LastOfKind") ∈ nestL := List.mem_of_getElem? (i := 6) rfl
theorem qX4_96 : (RX4, 96, yX9_at, "LastOfKind") ∈ nestL := List.mem_of_getElem? (i := 7) rfl
theorem qX1_43 : (RX1, 43, yX9_at, "LastOfKind") ∈ nestL := List.mem_of_getElem? (i := 8) rfl
theorem qX7_71 : (RX7, 71, yX9_holds, "LastOfKind") ∈ nestL := List.mem_of_getElem? (i := 9) rfl
theorem qX0_34 : (RX0, 34, yX9_holds, "LastOfKind") ∈ nestL := List.mem_of_getElem? (i := 10) rfl
theorem nestL_in : ∀ q ∈ nestL, Cond.methodLinkNest q.1 q.2.1 q.2.2.1 q.2.2.2 ∈ lw_tbl := by decide +kernel
theorem mth_max : Cond.static Lib.Math.max.name ∈ lw_ok ∧ Cond.initialized "java/lang/Math" ∈ lw_ok ∧ Cond.code Lib.Math.max.name Lib.Math.max.code 2 (some .int) ∈ lw_ok := by decide +kernel
theorem mth_min : Cond.static Lib.Math.min.name ∈ lw_ok ∧ Cond.initialized "java/lang/Math" ∈ lw_ok ∧ Cond.code Lib.Math.min.name Lib.Math.min.code 2 (some .int) ∈ lw_ok := by decide +kernel
theorem mth_abs : Cond.static Lib.Math.abs.name ∈ lw_ok ∧ Cond.initialized "java/lang/Math" ∈ lw_ok ∧ Cond.code Lib.Math.abs.name Lib.Math.abs.code 1 (some .int) ∈ lw_ok := by decide +kernel
theorem qX8_23 : Cond.methodLink RX8 23 Lib.Math.max.name ∈ lw_ok := mok (i := 391) (by decide +kernel) rfl
theorem qX2_47 : Cond.methodLink RX2 47 Lib.Math.min.name ∈ lw_ok := mok (i := 394) (by decide +kernel) rfl
theorem qX2_72 : Cond.methodLink RX2 72 yJ6_bitCount_0f7a4 ∈ lw_ok := mok (i := 453) (by decide +kernel) rfl
theorem qJ6_265 : Cond.constant RJ6 265 (1431655765 : Int32) ∈ lw_ok := mok (i := 456) (by decide +kernel) rfl
theorem qJ6_266 : Cond.constant RJ6 266 (858993459 : Int32) ∈ lw_ok := mok (i := 457) (by decide +kernel) rfl
theorem qJ6_267 : Cond.constant RJ6 267 (252645135 : Int32) ∈ lw_ok := mok (i := 458) (by decide +kernel) rfl
theorem qX6_33 : Cond.methodLink RX6 33 Lib.Math.min.name ∈ lw_ok := mok (i := 506) (by decide +kernel) rfl
theorem qX9_143 : Cond.methodLink RX9 143 yJ6_bitCount_0f7a4 ∈ lw_ok := mok (i := 532) (by decide +kernel) rfl
theorem qX5_37 : Cond.methodLink RX5 37 Lib.Math.abs.name ∈ lw_ok := mok (i := 577) (by decide +kernel) rfl
theorem qX5_47 : Cond.methodLink RX5 47 yJ6_bitCount_0f7a4 ∈ lw_ok := mok (i := 597) (by decide +kernel) rfl
theorem qX4_72 : Cond.methodLink RX4 72 yJ6_bitCount_0f7a4 ∈ lw_ok := mok (i := 643) (by decide +kernel) rfl
theorem qX4_107 : Cond.methodLink RX4 107 Lib.Math.max.name ∈ lw_ok := mok (i := 675) (by decide +kernel) rfl
theorem qX7_88 : Cond.methodLink RX7 88 yJ6_bitCount_0f7a4 ∈ lw_ok := mok (i := 724) (by decide +kernel) rfl
theorem qX7_65 : Cond.methodLink RX7 65 Lib.Math.min.name ∈ lw_ok := mok (i := 737) (by decide +kernel) rfl
theorem qX3_66 : Cond.methodLink RX3 66 Lib.Math.max.name ∈ lw_ok := mok (i := 769) (by decide +kernel) rfl
theorem qX0_38 : Cond.methodLink RX0 38 yJ6_bitCount_0f7a4 ∈ lw_ok := mok (i := 782) (by decide +kernel) rfl
theorem zJ6_bitCount : jCS yJ6_bitCount_0f7a4 cJ6_bitCount_0f7a4 1 (some .int) := ⟨mok (i := 455) (by decide +kernel) rfl, mok (i := 454) (by decide +kernel) rfl, mok (i := 70) (by decide +kernel) rfl, by decide +kernel⟩
