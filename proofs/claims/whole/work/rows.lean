section
-- ===== PART A: goes FIRST, ahead of the names: the tables' words, and 'selects' of the private methods out of them =====
/-- a private method of a class that the tables say can be made, by its rows of tables_1 -/
def lw_okq (q : MethodName × Nat) : Prop := (q.1.cls ≠ "java/lang/invoke/MethodHandle" ∧ q.1.cls ≠ "java/lang/invoke/VarHandle") ∧ Cond.instantiable q.1.cls q.2 ∈ tables_1 ∧ Cond.privateMethod q.1 ∈ tables_1 ∧ Cond.instanceMethod q.1 ∈ tables_1
theorem lw_p0 : lw_okq (⟨"LastOfKind$Text", "fits", "(I)Z"⟩, 2) := ⟨⟨by decide +kernel, by decide +kernel⟩, List.mem_of_getElem? (i := 23) (by decide +kernel), List.mem_of_getElem? (i := 312) (by decide +kernel), List.mem_of_getElem? (i := 313) (by decide +kernel)⟩
theorem lw_p1 : lw_okq (⟨"LastOfKind$Text", "isWithin", "(III)Z"⟩, 2) := ⟨⟨by decide +kernel, by decide +kernel⟩, List.mem_of_getElem? (i := 23) (by decide +kernel), List.mem_of_getElem? (i := 319) (by decide +kernel), List.mem_of_getElem? (i := 320) (by decide +kernel)⟩
theorem lw_p2 : lw_okq (⟨"LastOfKind", "tryAct", "(II)I"⟩, 11) := ⟨⟨by decide +kernel, by decide +kernel⟩, List.mem_of_getElem? (i := 15) (by decide +kernel), List.mem_of_getElem? (i := 425) (by decide +kernel), List.mem_of_getElem? (i := 426) (by decide +kernel)⟩
theorem lw_p3 : lw_okq (⟨"LastOfKind$Row", "placeAt", "(I)LLastOfKind$House;"⟩, 3) := ⟨⟨by decide +kernel, by decide +kernel⟩, List.mem_of_getElem? (i := 88) (by decide +kernel), List.mem_of_getElem? (i := 442) (by decide +kernel), List.mem_of_getElem? (i := 443) (by decide +kernel)⟩
theorem lw_p4 : lw_okq (⟨"LastOfKind$Owners", "learn", "(LLastOfKind$House;I)V"⟩, 6) := ⟨⟨by decide +kernel, by decide +kernel⟩, List.mem_of_getElem? (i := 127) (by decide +kernel), List.mem_of_getElem? (i := 576) (by decide +kernel), List.mem_of_getElem? (i := 577) (by decide +kernel)⟩
theorem lw_p5 : lw_okq (⟨"LastOfKind$Owners", "goThrough", "(Z)V"⟩, 6) := ⟨⟨by decide +kernel, by decide +kernel⟩, List.mem_of_getElem? (i := 127) (by decide +kernel), List.mem_of_getElem? (i := 589) (by decide +kernel), List.mem_of_getElem? (i := 590) (by decide +kernel)⟩
theorem lw_p6 : lw_okq (⟨"LastOfKind$Owners", "raiseBest", "(III)V"⟩, 6) := ⟨⟨by decide +kernel, by decide +kernel⟩, List.mem_of_getElem? (i := 127) (by decide +kernel), List.mem_of_getElem? (i := 593) (by decide +kernel), List.mem_of_getElem? (i := 594) (by decide +kernel)⟩
theorem lw_p7 : lw_okq (⟨"LastOfKind$Owners", "has", "(III)I"⟩, 6) := ⟨⟨by decide +kernel, by decide +kernel⟩, List.mem_of_getElem? (i := 127) (by decide +kernel), List.mem_of_getElem? (i := 597) (by decide +kernel), List.mem_of_getElem? (i := 598) (by decide +kernel)⟩
theorem lw_p8 : lw_okq (⟨"LastOfKind$Owners", "raise", "(III)V"⟩, 6) := ⟨⟨by decide +kernel, by decide +kernel⟩, List.mem_of_getElem? (i := 127) (by decide +kernel), List.mem_of_getElem? (i := 607) (by decide +kernel), List.mem_of_getElem? (i := 608) (by decide +kernel)⟩
theorem lw_p9 : lw_okq (⟨"LastOfKind$Owners", "isRest", "(III)Z"⟩, 6) := ⟨⟨by decide +kernel, by decide +kernel⟩, List.mem_of_getElem? (i := 127) (by decide +kernel), List.mem_of_getElem? (i := 613) (by decide +kernel), List.mem_of_getElem? (i := 614) (by decide +kernel)⟩
theorem lw_p10 : lw_okq (⟨"LastOfKind$Owners", "tell", "(I)V"⟩, 6) := ⟨⟨by decide +kernel, by decide +kernel⟩, List.mem_of_getElem? (i := 127) (by decide +kernel), List.mem_of_getElem? (i := 617) (by decide +kernel), List.mem_of_getElem? (i := 618) (by decide +kernel)⟩
theorem lw_p11 : lw_okq (⟨"LastOfKind$Sightings", "learn", "(LLastOfKind$House;)V"⟩, 9) := ⟨⟨by decide +kernel, by decide +kernel⟩, List.mem_of_getElem? (i := 171) (by decide +kernel), List.mem_of_getElem? (i := 649) (by decide +kernel), List.mem_of_getElem? (i := 650) (by decide +kernel)⟩
theorem lw_p12 : lw_okq (⟨"LastOfKind$Sightings", "isSo", "(II)Z"⟩, 9) := ⟨⟨by decide +kernel, by decide +kernel⟩, List.mem_of_getElem? (i := 171) (by decide +kernel), List.mem_of_getElem? (i := 657) (by decide +kernel), List.mem_of_getElem? (i := 658) (by decide +kernel)⟩
theorem lw_p13 : lw_okq (⟨"LastOfKind$Sightings", "tally", "(I)V"⟩, 9) := ⟨⟨by decide +kernel, by decide +kernel⟩, List.mem_of_getElem? (i := 171) (by decide +kernel), List.mem_of_getElem? (i := 662) (by decide +kernel), List.mem_of_getElem? (i := 663) (by decide +kernel)⟩
theorem lw_p14 : lw_okq (⟨"LastOfKind$Museums", "leadByLastTurn", "(I)I"⟩, 6) := ⟨⟨by decide +kernel, by decide +kernel⟩, List.mem_of_getElem? (i := 210) (by decide +kernel), List.mem_of_getElem? (i := 693) (by decide +kernel), List.mem_of_getElem? (i := 694) (by decide +kernel)⟩
theorem lw_p15 : lw_okq (⟨"LastOfKind$Museums", "gainOf", "(I)I"⟩, 6) := ⟨⟨by decide +kernel, by decide +kernel⟩, List.mem_of_getElem? (i := 210) (by decide +kernel), List.mem_of_getElem? (i := 701) (by decide +kernel), List.mem_of_getElem? (i := 702) (by decide +kernel)⟩
def lw_privs_1 : List (MethodName × Nat) := [(⟨"LastOfKind$Text", "fits", "(I)Z"⟩, 2), (⟨"LastOfKind$Text", "isWithin", "(III)Z"⟩, 2), (⟨"LastOfKind", "tryAct", "(II)I"⟩, 11), (⟨"LastOfKind$Row", "placeAt", "(I)LLastOfKind$House;"⟩, 3), (⟨"LastOfKind$Owners", "learn", "(LLastOfKind$House;I)V"⟩, 6), (⟨"LastOfKind$Owners", "goThrough", "(Z)V"⟩, 6), (⟨"LastOfKind$Owners", "raiseBest", "(III)V"⟩, 6), (⟨"LastOfKind$Owners", "has", "(III)I"⟩, 6), (⟨"LastOfKind$Owners", "raise", "(III)V"⟩, 6), (⟨"LastOfKind$Owners", "isRest", "(III)Z"⟩, 6), (⟨"LastOfKind$Owners", "tell", "(I)V"⟩, 6), (⟨"LastOfKind$Sightings", "learn", "(LLastOfKind$House;)V"⟩, 9), (⟨"LastOfKind$Sightings", "isSo", "(II)Z"⟩, 9), (⟨"LastOfKind$Sightings", "tally", "(I)V"⟩, 9), (⟨"LastOfKind$Museums", "leadByLastTurn", "(I)I"⟩, 6), (⟨"LastOfKind$Museums", "gainOf", "(I)I"⟩, 6)]
theorem lw_r1 : ∀ q ∈ lw_privs_1, lw_okq q := List.forall_mem_cons.mpr ⟨lw_p0, List.forall_mem_cons.mpr ⟨lw_p1, List.forall_mem_cons.mpr ⟨lw_p2, List.forall_mem_cons.mpr ⟨lw_p3, List.forall_mem_cons.mpr ⟨lw_p4, List.forall_mem_cons.mpr ⟨lw_p5, List.forall_mem_cons.mpr ⟨lw_p6, List.forall_mem_cons.mpr ⟨lw_p7, List.forall_mem_cons.mpr ⟨lw_p8, List.forall_mem_cons.mpr ⟨lw_p9, List.forall_mem_cons.mpr ⟨lw_p10, List.forall_mem_cons.mpr ⟨lw_p11, List.forall_mem_cons.mpr ⟨lw_p12, List.forall_mem_cons.mpr ⟨lw_p13, List.forall_mem_cons.mpr ⟨lw_p14, List.forall_mem_cons.mpr ⟨lw_p15, fun _ h => absurd h List.not_mem_nil⟩⟩⟩⟩⟩⟩⟩⟩⟩⟩⟩⟩⟩⟩⟩⟩
theorem lw_p16 : lw_okq (⟨"LastOfKind$Chances", "reduce", "()V"⟩, 3) := ⟨⟨by decide +kernel, by decide +kernel⟩, List.mem_of_getElem? (i := 239) (by decide +kernel), List.mem_of_getElem? (i := 720) (by decide +kernel), List.mem_of_getElem? (i := 721) (by decide +kernel)⟩
theorem lw_p17 : lw_okq (⟨"LastOfKind", "slotAt", "(I)LLastOfKind$House;"⟩, 11) := ⟨⟨by decide +kernel, by decide +kernel⟩, List.mem_of_getElem? (i := 15) (by decide +kernel), List.mem_of_getElem? (i := 744) (by decide +kernel), List.mem_of_getElem? (i := 745) (by decide +kernel)⟩
theorem lw_p18 : lw_okq (⟨"LastOfKindModel", "fits", "(I)Z"⟩, 23) := ⟨⟨by decide +kernel, by decide +kernel⟩, List.mem_of_getElem? (i := 757) (by decide +kernel), List.mem_of_getElem? (i := 849) (by decide +kernel), List.mem_of_getElem? (i := 850) (by decide +kernel)⟩
theorem lw_p19 : lw_okq (⟨"LastOfKindModel", "figure", "(I)I"⟩, 23) := ⟨⟨by decide +kernel, by decide +kernel⟩, List.mem_of_getElem? (i := 757) (by decide +kernel), List.mem_of_getElem? (i := 863) (by decide +kernel), List.mem_of_getElem? (i := 864) (by decide +kernel)⟩
theorem lw_p20 : lw_okq (⟨"LastOfKindModel", "isThing", "(I)Z"⟩, 23) := ⟨⟨by decide +kernel, by decide +kernel⟩, List.mem_of_getElem? (i := 757) (by decide +kernel), List.mem_of_getElem? (i := 874) (by decide +kernel), List.mem_of_getElem? (i := 875) (by decide +kernel)⟩
theorem lw_p21 : lw_okq (⟨"LastOfKindModel", "markOf", "(II)I"⟩, 23) := ⟨⟨by decide +kernel, by decide +kernel⟩, List.mem_of_getElem? (i := 757) (by decide +kernel), List.mem_of_getElem? (i := 878) (by decide +kernel), List.mem_of_getElem? (i := 879) (by decide +kernel)⟩
theorem lw_p22 : lw_okq (⟨"LastOfKindModel", "marksOf", "(I)I"⟩, 23) := ⟨⟨by decide +kernel, by decide +kernel⟩, List.mem_of_getElem? (i := 757) (by decide +kernel), List.mem_of_getElem? (i := 882) (by decide +kernel), List.mem_of_getElem? (i := 883) (by decide +kernel)⟩
theorem lw_p23 : lw_okq (⟨"LastOfKindModel", "ownerOf", "(I)I"⟩, 23) := ⟨⟨by decide +kernel, by decide +kernel⟩, List.mem_of_getElem? (i := 757) (by decide +kernel), List.mem_of_getElem? (i := 889) (by decide +kernel), List.mem_of_getElem? (i := 890) (by decide +kernel)⟩
theorem lw_p24 : lw_okq (⟨"LastOfKindModel", "worthOf", "(I)I"⟩, 23) := ⟨⟨by decide +kernel, by decide +kernel⟩, List.mem_of_getElem? (i := 757) (by decide +kernel), List.mem_of_getElem? (i := 893) (by decide +kernel), List.mem_of_getElem? (i := 894) (by decide +kernel)⟩
theorem lw_p25 : lw_okq (⟨"LastOfKindModel", "costOf", "(I)I"⟩, 23) := ⟨⟨by decide +kernel, by decide +kernel⟩, List.mem_of_getElem? (i := 757) (by decide +kernel), List.mem_of_getElem? (i := 897) (by decide +kernel), List.mem_of_getElem? (i := 898) (by decide +kernel)⟩
theorem lw_p26 : lw_okq (⟨"LastOfKindModel", "guardOf", "(I)I"⟩, 23) := ⟨⟨by decide +kernel, by decide +kernel⟩, List.mem_of_getElem? (i := 757) (by decide +kernel), List.mem_of_getElem? (i := 901) (by decide +kernel), List.mem_of_getElem? (i := 902) (by decide +kernel)⟩
theorem lw_p27 : lw_okq (⟨"LastOfKindModel", "last", "()I"⟩, 23) := ⟨⟨by decide +kernel, by decide +kernel⟩, List.mem_of_getElem? (i := 757) (by decide +kernel), List.mem_of_getElem? (i := 905) (by decide +kernel), List.mem_of_getElem? (i := 906) (by decide +kernel)⟩
theorem lw_p28 : lw_okq (⟨"LastOfKindModel", "shown", "(I)I"⟩, 23) := ⟨⟨by decide +kernel, by decide +kernel⟩, List.mem_of_getElem? (i := 757) (by decide +kernel), List.mem_of_getElem? (i := 909) (by decide +kernel), List.mem_of_getElem? (i := 910) (by decide +kernel)⟩
theorem lw_p29 : lw_okq (⟨"LastOfKindModel", "lastOf", "(II)I"⟩, 23) := ⟨⟨by decide +kernel, by decide +kernel⟩, List.mem_of_getElem? (i := 757) (by decide +kernel), List.mem_of_getElem? (i := 913) (by decide +kernel), List.mem_of_getElem? (i := 914) (by decide +kernel)⟩
theorem lw_p30 : lw_okq (⟨"LastOfKindModel", "many", "()I"⟩, 23) := ⟨⟨by decide +kernel, by decide +kernel⟩, List.mem_of_getElem? (i := 757) (by decide +kernel), List.mem_of_getElem? (i := 917) (by decide +kernel), List.mem_of_getElem? (i := 918) (by decide +kernel)⟩
theorem lw_p31 : lw_okq (⟨"LastOfKindModel", "alikeOf", "(III)I"⟩, 23) := ⟨⟨by decide +kernel, by decide +kernel⟩, List.mem_of_getElem? (i := 757) (by decide +kernel), List.mem_of_getElem? (i := 924) (by decide +kernel), List.mem_of_getElem? (i := 925) (by decide +kernel)⟩
def lw_privs_2 : List (MethodName × Nat) := [(⟨"LastOfKind$Chances", "reduce", "()V"⟩, 3), (⟨"LastOfKind", "slotAt", "(I)LLastOfKind$House;"⟩, 11), (⟨"LastOfKindModel", "fits", "(I)Z"⟩, 23), (⟨"LastOfKindModel", "figure", "(I)I"⟩, 23), (⟨"LastOfKindModel", "isThing", "(I)Z"⟩, 23), (⟨"LastOfKindModel", "markOf", "(II)I"⟩, 23), (⟨"LastOfKindModel", "marksOf", "(I)I"⟩, 23), (⟨"LastOfKindModel", "ownerOf", "(I)I"⟩, 23), (⟨"LastOfKindModel", "worthOf", "(I)I"⟩, 23), (⟨"LastOfKindModel", "costOf", "(I)I"⟩, 23), (⟨"LastOfKindModel", "guardOf", "(I)I"⟩, 23), (⟨"LastOfKindModel", "last", "()I"⟩, 23), (⟨"LastOfKindModel", "shown", "(I)I"⟩, 23), (⟨"LastOfKindModel", "lastOf", "(II)I"⟩, 23), (⟨"LastOfKindModel", "many", "()I"⟩, 23), (⟨"LastOfKindModel", "alikeOf", "(III)I"⟩, 23)]
theorem lw_r2 : ∀ q ∈ lw_privs_2, lw_okq q := List.forall_mem_cons.mpr ⟨lw_p16, List.forall_mem_cons.mpr ⟨lw_p17, List.forall_mem_cons.mpr ⟨lw_p18, List.forall_mem_cons.mpr ⟨lw_p19, List.forall_mem_cons.mpr ⟨lw_p20, List.forall_mem_cons.mpr ⟨lw_p21, List.forall_mem_cons.mpr ⟨lw_p22, List.forall_mem_cons.mpr ⟨lw_p23, List.forall_mem_cons.mpr ⟨lw_p24, List.forall_mem_cons.mpr ⟨lw_p25, List.forall_mem_cons.mpr ⟨lw_p26, List.forall_mem_cons.mpr ⟨lw_p27, List.forall_mem_cons.mpr ⟨lw_p28, List.forall_mem_cons.mpr ⟨lw_p29, List.forall_mem_cons.mpr ⟨lw_p30, List.forall_mem_cons.mpr ⟨lw_p31, fun _ h => absurd h List.not_mem_nil⟩⟩⟩⟩⟩⟩⟩⟩⟩⟩⟩⟩⟩⟩⟩⟩
theorem lw_p32 : lw_okq (⟨"LastOfKindModel", "same", "(II)I"⟩, 23) := ⟨⟨by decide +kernel, by decide +kernel⟩, List.mem_of_getElem? (i := 757) (by decide +kernel), List.mem_of_getElem? (i := 928) (by decide +kernel), List.mem_of_getElem? (i := 929) (by decide +kernel)⟩
theorem lw_p33 : lw_okq (⟨"LastOfKindModel", "priceBy", "(II)I"⟩, 23) := ⟨⟨by decide +kernel, by decide +kernel⟩, List.mem_of_getElem? (i := 757) (by decide +kernel), List.mem_of_getElem? (i := 943) (by decide +kernel), List.mem_of_getElem? (i := 944) (by decide +kernel)⟩
theorem lw_p34 : lw_okq (⟨"LastOfKindModel", "canBreak", "(II)Z"⟩, 23) := ⟨⟨by decide +kernel, by decide +kernel⟩, List.mem_of_getElem? (i := 757) (by decide +kernel), List.mem_of_getElem? (i := 951) (by decide +kernel), List.mem_of_getElem? (i := 952) (by decide +kernel)⟩
theorem lw_p35 : lw_okq (⟨"LastOfKindModel", "guardAt", "(II)I"⟩, 23) := ⟨⟨by decide +kernel, by decide +kernel⟩, List.mem_of_getElem? (i := 757) (by decide +kernel), List.mem_of_getElem? (i := 955) (by decide +kernel), List.mem_of_getElem? (i := 956) (by decide +kernel)⟩
theorem lw_p36 : lw_okq (⟨"LastOfKindModel", "keepAct", "()V"⟩, 23) := ⟨⟨by decide +kernel, by decide +kernel⟩, List.mem_of_getElem? (i := 757) (by decide +kernel), List.mem_of_getElem? (i := 959) (by decide +kernel), List.mem_of_getElem? (i := 960) (by decide +kernel)⟩
theorem lw_p37 : lw_okq (⟨"LastOfKindModel", "free", "(II)V"⟩, 23) := ⟨⟨by decide +kernel, by decide +kernel⟩, List.mem_of_getElem? (i := 757) (by decide +kernel), List.mem_of_getElem? (i := 969) (by decide +kernel), List.mem_of_getElem? (i := 970) (by decide +kernel)⟩
theorem lw_p38 : lw_okq (⟨"LastOfKindModel", "canHide", "(II)Z"⟩, 23) := ⟨⟨by decide +kernel, by decide +kernel⟩, List.mem_of_getElem? (i := 757) (by decide +kernel), List.mem_of_getElem? (i := 977) (by decide +kernel), List.mem_of_getElem? (i := 978) (by decide +kernel)⟩
theorem lw_p39 : lw_okq (⟨"LastOfKindModel", "doHide", "(II)V"⟩, 23) := ⟨⟨by decide +kernel, by decide +kernel⟩, List.mem_of_getElem? (i := 757) (by decide +kernel), List.mem_of_getElem? (i := 981) (by decide +kernel), List.mem_of_getElem? (i := 982) (by decide +kernel)⟩
theorem lw_p40 : lw_okq (⟨"LastOfKindModel", "canClaim", "(II)Z"⟩, 23) := ⟨⟨by decide +kernel, by decide +kernel⟩, List.mem_of_getElem? (i := 757) (by decide +kernel), List.mem_of_getElem? (i := 989) (by decide +kernel), List.mem_of_getElem? (i := 990) (by decide +kernel)⟩
theorem lw_p41 : lw_okq (⟨"LastOfKindModel", "doGuard", "(II)V"⟩, 23) := ⟨⟨by decide +kernel, by decide +kernel⟩, List.mem_of_getElem? (i := 757) (by decide +kernel), List.mem_of_getElem? (i := 997) (by decide +kernel), List.mem_of_getElem? (i := 998) (by decide +kernel)⟩
theorem lw_p42 : lw_okq (⟨"LastOfKindModel", "can", "(II)Z"⟩, 23) := ⟨⟨by decide +kernel, by decide +kernel⟩, List.mem_of_getElem? (i := 757) (by decide +kernel), List.mem_of_getElem? (i := 1018) (by decide +kernel), List.mem_of_getElem? (i := 1019) (by decide +kernel)⟩
theorem lw_p43 : lw_okq (⟨"LastOfKindModel", "make", "(II)V"⟩, 23) := ⟨⟨by decide +kernel, by decide +kernel⟩, List.mem_of_getElem? (i := 757) (by decide +kernel), List.mem_of_getElem? (i := 1022) (by decide +kernel), List.mem_of_getElem? (i := 1023) (by decide +kernel)⟩
theorem lw_p44 : lw_okq (⟨"LastOfKindModel", "campaignWord", "(I)I"⟩, 23) := ⟨⟨by decide +kernel, by decide +kernel⟩, List.mem_of_getElem? (i := 757) (by decide +kernel), List.mem_of_getElem? (i := 1030) (by decide +kernel), List.mem_of_getElem? (i := 1031) (by decide +kernel)⟩
theorem lw_p45 : lw_okq (⟨"LastOfKindModel", "costBy", "(II)I"⟩, 23) := ⟨⟨by decide +kernel, by decide +kernel⟩, List.mem_of_getElem? (i := 757) (by decide +kernel), List.mem_of_getElem? (i := 1034) (by decide +kernel), List.mem_of_getElem? (i := 1035) (by decide +kernel)⟩
theorem lw_p46 : lw_okq (⟨"LastOfKindModel", "rest", "(III)Z"⟩, 23) := ⟨⟨by decide +kernel, by decide +kernel⟩, List.mem_of_getElem? (i := 757) (by decide +kernel), List.mem_of_getElem? (i := 1057) (by decide +kernel), List.mem_of_getElem? (i := 1058) (by decide +kernel)⟩
theorem lw_p47 : lw_okq (⟨"LastOfKindModel", "may", "(II)Z"⟩, 23) := ⟨⟨by decide +kernel, by decide +kernel⟩, List.mem_of_getElem? (i := 757) (by decide +kernel), List.mem_of_getElem? (i := 1061) (by decide +kernel), List.mem_of_getElem? (i := 1062) (by decide +kernel)⟩
def lw_privs_3 : List (MethodName × Nat) := [(⟨"LastOfKindModel", "same", "(II)I"⟩, 23), (⟨"LastOfKindModel", "priceBy", "(II)I"⟩, 23), (⟨"LastOfKindModel", "canBreak", "(II)Z"⟩, 23), (⟨"LastOfKindModel", "guardAt", "(II)I"⟩, 23), (⟨"LastOfKindModel", "keepAct", "()V"⟩, 23), (⟨"LastOfKindModel", "free", "(II)V"⟩, 23), (⟨"LastOfKindModel", "canHide", "(II)Z"⟩, 23), (⟨"LastOfKindModel", "doHide", "(II)V"⟩, 23), (⟨"LastOfKindModel", "canClaim", "(II)Z"⟩, 23), (⟨"LastOfKindModel", "doGuard", "(II)V"⟩, 23), (⟨"LastOfKindModel", "can", "(II)Z"⟩, 23), (⟨"LastOfKindModel", "make", "(II)V"⟩, 23), (⟨"LastOfKindModel", "campaignWord", "(I)I"⟩, 23), (⟨"LastOfKindModel", "costBy", "(II)I"⟩, 23), (⟨"LastOfKindModel", "rest", "(III)Z"⟩, 23), (⟨"LastOfKindModel", "may", "(II)Z"⟩, 23)]
theorem lw_r3 : ∀ q ∈ lw_privs_3, lw_okq q := List.forall_mem_cons.mpr ⟨lw_p32, List.forall_mem_cons.mpr ⟨lw_p33, List.forall_mem_cons.mpr ⟨lw_p34, List.forall_mem_cons.mpr ⟨lw_p35, List.forall_mem_cons.mpr ⟨lw_p36, List.forall_mem_cons.mpr ⟨lw_p37, List.forall_mem_cons.mpr ⟨lw_p38, List.forall_mem_cons.mpr ⟨lw_p39, List.forall_mem_cons.mpr ⟨lw_p40, List.forall_mem_cons.mpr ⟨lw_p41, List.forall_mem_cons.mpr ⟨lw_p42, List.forall_mem_cons.mpr ⟨lw_p43, List.forall_mem_cons.mpr ⟨lw_p44, List.forall_mem_cons.mpr ⟨lw_p45, List.forall_mem_cons.mpr ⟨lw_p46, List.forall_mem_cons.mpr ⟨lw_p47, fun _ h => absurd h List.not_mem_nil⟩⟩⟩⟩⟩⟩⟩⟩⟩⟩⟩⟩⟩⟩⟩⟩
theorem lw_p48 : lw_okq (⟨"LastOfKindModel", "has3", "(IIII)I"⟩, 23) := ⟨⟨by decide +kernel, by decide +kernel⟩, List.mem_of_getElem? (i := 757) (by decide +kernel), List.mem_of_getElem? (i := 1065) (by decide +kernel), List.mem_of_getElem? (i := 1066) (by decide +kernel)⟩
theorem lw_p49 : lw_okq (⟨"LastOfKindModel", "layWorlds", "()V"⟩, 23) := ⟨⟨by decide +kernel, by decide +kernel⟩, List.mem_of_getElem? (i := 757) (by decide +kernel), List.mem_of_getElem? (i := 1082) (by decide +kernel), List.mem_of_getElem? (i := 1083) (by decide +kernel)⟩
theorem lw_p50 : lw_okq (⟨"LastOfKindModel", "hiddenThere", "()I"⟩, 23) := ⟨⟨by decide +kernel, by decide +kernel⟩, List.mem_of_getElem? (i := 757) (by decide +kernel), List.mem_of_getElem? (i := 1086) (by decide +kernel), List.mem_of_getElem? (i := 1087) (by decide +kernel)⟩
theorem lw_p51 : lw_okq (⟨"LastOfKindModel", "isSighted", "(I)Z"⟩, 23) := ⟨⟨by decide +kernel, by decide +kernel⟩, List.mem_of_getElem? (i := 757) (by decide +kernel), List.mem_of_getElem? (i := 1090) (by decide +kernel), List.mem_of_getElem? (i := 1091) (by decide +kernel)⟩
theorem lw_p52 : lw_okq (⟨"LastOfKindModel", "begin", "(III)V"⟩, 23) := ⟨⟨by decide +kernel, by decide +kernel⟩, List.mem_of_getElem? (i := 757) (by decide +kernel), List.mem_of_getElem? (i := 1102) (by decide +kernel), List.mem_of_getElem? (i := 1103) (by decide +kernel)⟩
theorem lw_p53 : lw_okq (⟨"LastOfKindModel", "canMove", "(II)Z"⟩, 23) := ⟨⟨by decide +kernel, by decide +kernel⟩, List.mem_of_getElem? (i := 757) (by decide +kernel), List.mem_of_getElem? (i := 1107) (by decide +kernel), List.mem_of_getElem? (i := 1108) (by decide +kernel)⟩
theorem lw_p54 : lw_okq (⟨"LastOfKindModel", "go", "(II)V"⟩, 23) := ⟨⟨by decide +kernel, by decide +kernel⟩, List.mem_of_getElem? (i := 757) (by decide +kernel), List.mem_of_getElem? (i := 1111) (by decide +kernel), List.mem_of_getElem? (i := 1112) (by decide +kernel)⟩
theorem lw_p55 : lw_okq (⟨"LastOfKindModel", "frail", "(I)I"⟩, 23) := ⟨⟨by decide +kernel, by decide +kernel⟩, List.mem_of_getElem? (i := 757) (by decide +kernel), List.mem_of_getElem? (i := 1120) (by decide +kernel), List.mem_of_getElem? (i := 1121) (by decide +kernel)⟩
def lw_privs_4 : List (MethodName × Nat) := [(⟨"LastOfKindModel", "has3", "(IIII)I"⟩, 23), (⟨"LastOfKindModel", "layWorlds", "()V"⟩, 23), (⟨"LastOfKindModel", "hiddenThere", "()I"⟩, 23), (⟨"LastOfKindModel", "isSighted", "(I)Z"⟩, 23), (⟨"LastOfKindModel", "begin", "(III)V"⟩, 23), (⟨"LastOfKindModel", "canMove", "(II)Z"⟩, 23), (⟨"LastOfKindModel", "go", "(II)V"⟩, 23), (⟨"LastOfKindModel", "frail", "(I)I"⟩, 23)]
theorem lw_r4 : ∀ q ∈ lw_privs_4, lw_okq q := List.forall_mem_cons.mpr ⟨lw_p48, List.forall_mem_cons.mpr ⟨lw_p49, List.forall_mem_cons.mpr ⟨lw_p50, List.forall_mem_cons.mpr ⟨lw_p51, List.forall_mem_cons.mpr ⟨lw_p52, List.forall_mem_cons.mpr ⟨lw_p53, List.forall_mem_cons.mpr ⟨lw_p54, List.forall_mem_cons.mpr ⟨lw_p55, fun _ h => absurd h List.not_mem_nil⟩⟩⟩⟩⟩⟩⟩⟩
def lw_privs : List (MethodName × Nat) := lw_privs_1 ++ (lw_privs_2 ++ (lw_privs_3 ++ (lw_privs_4)))
def lw_tbl : List Cond := k2_sels lw_privs ++ tables_1
theorem lw_privs_ok : ∀ q ∈ lw_privs, lw_okq q := by
  show ∀ q ∈ lw_privs_1 ++ (lw_privs_2 ++ (lw_privs_3 ++ (lw_privs_4))), lw_okq q
  exact List.forall_mem_append.mpr ⟨lw_r1, List.forall_mem_append.mpr ⟨lw_r2, List.forall_mem_append.mpr ⟨lw_r3, lw_r4⟩⟩⟩
end
section
def RX0 : String := "LastOfKind$Chances"
def TX0 : u_T := fun k => match k with
  | 0 => ("LastOfKind$Chances", "seed", "J", false)
  | 1 => ("LastOfKind$Chances", "upper", "I", false)
  | _ => ("LastOfKind$Chances", "lower", "I", false)
def tyX0 : Nat → FieldType := fun k => match k with
  | 0 => .long
  | 1 => .int
  | _ => .int
theorem nmX0 : ∀ a, a < 3 → ∀ b, b < 3 → a ≠ b → (TX0 a).2.1 ≠ (TX0 b).2.1 := by decide +kernel
theorem tyX0_ok : ∀ k, k < 3 → parseFieldDescriptor (TX0 k).2.2.1 = some (tyX0 k) := by decide +kernel
abbrev cX0_init : ByteArray := prog_2_method_1_code
def yX0_init : MethodName := ⟨RX0, "<init>", "()V"⟩
abbrev cX0_weigh : ByteArray := prog_2_method_2_code
def yX0_weigh : MethodName := ⟨RX0, "weigh", "(LLastOfKind$House;II)V"⟩
abbrev cX0_lastAfter : ByteArray := prog_2_method_3_code
def yX0_lastAfter : MethodName := ⟨RX0, "lastAfter", "(LLastOfKind$House;II)I"⟩
abbrev cX0_reduce : ByteArray := prog_2_method_4_code
def yX0_reduce : MethodName := ⟨RX0, "reduce", "()V"⟩
def RX1 : String := "LastOfKind$Goods"
def TX1 : u_T := fun k => match k with
  | 0 => ("LastOfKind$Goods", "near", "[I", true)
  | 1 => ("LastOfKind$Goods", "worths", "[I", true)
  | _ => ("LastOfKind$Goods", "costs", "[I", true)
def tyX1 : Nat → FieldType := fun k => match k with
  | 0 => .array .int
  | 1 => .array .int
  | _ => .array .int
theorem nmX1 : ∀ a, a < 3 → ∀ b, b < 3 → a ≠ b → (TX1 a).2.1 ≠ (TX1 b).2.1 := by decide +kernel
theorem tyX1_ok : ∀ k, k < 3 → parseFieldDescriptor (TX1 k).2.2.1 = some (tyX1 k) := by decide +kernel
abbrev cX1_init : ByteArray := prog_3_method_1_code
def yX1_init : MethodName := ⟨RX1, "<init>", "()V"⟩
abbrev cX1_learn : ByteArray := prog_3_method_2_code
def yX1_learn : MethodName := ⟨RX1, "learn", "(LLastOfKind$House;)V"⟩
abbrev cX1_worth : ByteArray := prog_3_method_3_code
def yX1_worth : MethodName := ⟨RX1, "worth", "(I)I"⟩
abbrev cX1_cost : ByteArray := prog_3_method_4_code
def yX1_cost : MethodName := ⟨RX1, "cost", "(I)I"⟩
abbrev cX1_lastAmong : ByteArray := prog_3_method_5_code
def yX1_lastAmong : MethodName := ⟨RX1, "lastAmong", "(I)I"⟩
abbrev cX1_pricesAmong : ByteArray := prog_3_method_6_code
def yX1_pricesAmong : MethodName := ⟨RX1, "pricesAmong", "(II)I"⟩
def RX2 : String := "LastOfKind$House"
def TX2 : u_T := fun k => match k with
  | 0 => ("LastOfKind$House", "tags", "[I", true)
  | 1 => ("LastOfKind$House", "size", "I", false)
  | 2 => ("LastOfKind$House", "word", "I", false)
  | 3 => ("LastOfKind$House", "year", "I", false)
  | 4 => ("LastOfKind$House", "guarded", "I", false)
  | 5 => ("LastOfKind$House", "broken", "I", false)
  | 6 => ("LastOfKind$House", "hidden", "I", false)
  | _ => ("LastOfKind$House", "claimed", "I", false)
def tyX2 : Nat → FieldType := fun k => match k with
  | 0 => .array .int
  | 1 => .int
  | 2 => .int
  | 3 => .int
  | 4 => .int
  | 5 => .int
  | 6 => .int
  | _ => .int
theorem nmX2 : ∀ a, a < 8 → ∀ b, b < 8 → a ≠ b → (TX2 a).2.1 ≠ (TX2 b).2.1 := by decide +kernel
theorem tyX2_ok : ∀ k, k < 8 → parseFieldDescriptor (TX2 k).2.2.1 = some (tyX2 k) := by decide +kernel
abbrev cX2_init : ByteArray := prog_4_method_1_code
def yX2_init : MethodName := ⟨RX2, "<init>", "()V"⟩
abbrev cX2_copyFrom : ByteArray := prog_4_method_2_code
def yX2_copyFrom : MethodName := ⟨RX2, "copyFrom", "(LLastOfKind$House;)V"⟩
abbrev cX2_readFrom : ByteArray := prog_4_method_3_code
def yX2_readFrom : MethodName := ⟨RX2, "readFrom", "(LLastOfKind$Text;)V"⟩
abbrev cX2_has : ByteArray := prog_4_method_4_code
def yX2_has : MethodName := ⟨RX2, "has", "(I)Z"⟩
abbrev cX2_figure : ByteArray := prog_4_method_5_code
def yX2_figure : MethodName := ⟨RX2, "figure", "(II)I"⟩
abbrev cX2_all : ByteArray := prog_4_method_6_code
def yX2_all : MethodName := ⟨RX2, "all", "()I"⟩
abbrev cX2_there : ByteArray := prog_4_method_7_code
def yX2_there : MethodName := ⟨RX2, "there", "()I"⟩
abbrev cX2_shown : ByteArray := prog_4_method_8_code
def yX2_shown : MethodName := ⟨RX2, "shown", "()I"⟩
abbrev cX2_unseen : ByteArray := prog_4_method_9_code
def yX2_unseen : MethodName := ⟨RX2, "unseen", "()I"⟩
abbrev cX2_breakable : ByteArray := prog_4_method_10_code
def yX2_breakable : MethodName := ⟨RX2, "breakable", "()I"⟩
abbrev cX2_alikeTo : ByteArray := prog_4_method_11_code
def yX2_alikeTo : MethodName := ⟨RX2, "alikeTo", "(III)I"⟩
abbrev cX2_sameMarks : ByteArray := prog_4_method_12_code
def yX2_sameMarks : MethodName := ⟨RX2, "sameMarks", "(II)I"⟩
abbrev cX2_lastOnes : ByteArray := prog_4_method_13_code
def yX2_lastOnes : MethodName := ⟨RX2, "lastOnes", "()I"⟩
abbrev cX2_lastOnesBy : ByteArray := prog_4_method_14_code
def yX2_lastOnesBy : MethodName := ⟨RX2, "lastOnesBy", "(II)I"⟩
abbrev cX2_priceOf : ByteArray := prog_4_method_15_code
def yX2_priceOf : MethodName := ⟨RX2, "priceOf", "(I)I"⟩
abbrev cX2_shareOf : ByteArray := prog_4_method_16_code
def yX2_shareOf : MethodName := ⟨RX2, "shareOf", "(II)I"⟩
abbrev cX2_canBe : ByteArray := prog_4_method_17_code
def yX2_canBe : MethodName := ⟨RX2, "canBe", "(II)Z"⟩
abbrev cX2_perform : ByteArray := prog_4_method_18_code
def yX2_perform : MethodName := ⟨RX2, "perform", "(II)V"⟩
abbrev cX2_addForged : ByteArray := prog_4_method_19_code
def yX2_addForged : MethodName := ⟨RX2, "addForged", "(II)I"⟩
abbrev cX2_changeWord : ByteArray := prog_4_method_20_code
def yX2_changeWord : MethodName := ⟨RX2, "changeWord", "(I)I"⟩
def RX3 : String := "LastOfKind$Museums"
def TX3 : u_T := fun k => match k with
  | 0 => ("LastOfKind$Museums", "goods", "LLastOfKind$Goods;", true)
  | 1 => ("LastOfKind$Museums", "things", "I", false)
  | 2 => ("LastOfKind$Museums", "hidden", "I", false)
  | 3 => ("LastOfKind$Museums", "guarded", "I", false)
  | 4 => ("LastOfKind$Museums", "ahead", "I", false)
  | _ => ("LastOfKind$Museums", "firstMove", "I", false)
def tyX3 : Nat → FieldType := fun k => match k with
  | 0 => .object "LastOfKind$Goods"
  | 1 => .int
  | 2 => .int
  | 3 => .int
  | 4 => .int
  | _ => .int
theorem nmX3 : ∀ a, a < 6 → ∀ b, b < 6 → a ≠ b → (TX3 a).2.1 ≠ (TX3 b).2.1 := by decide +kernel
theorem tyX3_ok : ∀ k, k < 6 → parseFieldDescriptor (TX3 k).2.2.1 = some (tyX3 k) := by decide +kernel
abbrev cX3_init : ByteArray := prog_5_method_1_code
def yX3_init : MethodName := ⟨RX3, "<init>", "()V"⟩
abbrev cX3_play : ByteArray := prog_5_method_2_code
def yX3_play : MethodName := ⟨RX3, "play", "(LLastOfKind$House;I)V"⟩
abbrev cX3_lead : ByteArray := prog_5_method_3_code
def yX3_lead : MethodName := ⟨RX3, "lead", "(LLastOfKind$Museums;IIIII)I"⟩
abbrev cX3_leadByLastTurn : ByteArray := prog_5_method_4_code
def yX3_leadByLastTurn : MethodName := ⟨RX3, "leadByLastTurn", "(I)I"⟩
abbrev cX3_gainOf : ByteArray := prog_5_method_5_code
def yX3_gainOf : MethodName := ⟨RX3, "gainOf", "(I)I"⟩
def RX4 : String := "LastOfKind$Owners"
def TX4 : u_T := fun k => match k with
  | 0 => ("LastOfKind$Owners", "goods", "LLastOfKind$Goods;", true)
  | 1 => ("LastOfKind$Owners", "choosable", "[I", true)
  | 2 => ("LastOfKind$Owners", "prices", "[[I", true)
  | 3 => ("LastOfKind$Owners", "best", "[[I", true)
  | 4 => ("LastOfKind$Owners", "firstResting", "I", false)
  | _ => ("LastOfKind$Owners", "resting", "I", false)
def tyX4 : Nat → FieldType := fun k => match k with
  | 0 => .object "LastOfKind$Goods"
  | 1 => .array .int
  | 2 => .array (.array .int)
  | 3 => .array (.array .int)
  | 4 => .int
  | _ => .int
theorem nmX4 : ∀ a, a < 6 → ∀ b, b < 6 → a ≠ b → (TX4 a).2.1 ≠ (TX4 b).2.1 := by decide +kernel
theorem tyX4_ok : ∀ k, k < 6 → parseFieldDescriptor (TX4 k).2.2.1 = some (tyX4 k) := by decide +kernel
abbrev cX4_init : ByteArray := prog_6_method_1_code
def yX4_init : MethodName := ⟨RX4, "<init>", "()V"⟩
abbrev cX4_weigh : ByteArray := prog_6_method_2_code
def yX4_weigh : MethodName := ⟨RX4, "weigh", "(LLastOfKind$House;)V"⟩
abbrev cX4_firstChoice : ByteArray := prog_6_method_3_code
def yX4_firstChoice : MethodName := ⟨RX4, "firstChoice", "(I)I"⟩
abbrev cX4_learn : ByteArray := prog_6_method_4_code
def yX4_learn : MethodName := ⟨RX4, "learn", "(LLastOfKind$House;I)V"⟩
abbrev cX4_goThrough : ByteArray := prog_6_method_5_code
def yX4_goThrough : MethodName := ⟨RX4, "goThrough", "(Z)V"⟩
abbrev cX4_tell : ByteArray := prog_6_method_6_code
def yX4_tell : MethodName := ⟨RX4, "tell", "(I)V"⟩
abbrev cX4_raiseBest : ByteArray := prog_6_method_7_code
def yX4_raiseBest : MethodName := ⟨RX4, "raiseBest", "(III)V"⟩
abbrev cX4_raise : ByteArray := prog_6_method_8_code
def yX4_raise : MethodName := ⟨RX4, "raise", "(III)V"⟩
abbrev cX4_isRest : ByteArray := prog_6_method_9_code
def yX4_isRest : MethodName := ⟨RX4, "isRest", "(III)Z"⟩
abbrev cX4_has : ByteArray := prog_6_method_10_code
def yX4_has : MethodName := ⟨RX4, "has", "(III)I"⟩
def RX5 : String := "LastOfKind$Plans"
def TX5 : u_T := fun k => match k with
  | 0 => ("LastOfKind$Plans", "cost", "I", false)
  | 1 => ("LastOfKind$Plans", "wordThen", "I", false)
  | _ => ("LastOfKind$Plans", "toBreak", "I", false)
def tyX5 : Nat → FieldType := fun k => match k with
  | 0 => .int
  | 1 => .int
  | _ => .int
theorem nmX5 : ∀ a, a < 3 → ∀ b, b < 3 → a ≠ b → (TX5 a).2.1 ≠ (TX5 b).2.1 := by decide +kernel
theorem tyX5_ok : ∀ k, k < 3 → parseFieldDescriptor (TX5 k).2.2.1 = some (tyX5 k) := by decide +kernel
abbrev cX5_init : ByteArray := prog_7_method_1_code
def yX5_init : MethodName := ⟨RX5, "<init>", "()V"⟩
abbrev cX5_seekCampaign : ByteArray := prog_7_method_2_code
def yX5_seekCampaign : MethodName := ⟨RX5, "seekCampaign", "(LLastOfKind$House;I)V"⟩
abbrev cX5_leastCopy : ByteArray := prog_7_method_3_code
def yX5_leastCopy : MethodName := ⟨RX5, "leastCopy", "(LLastOfKind$House;I)I"⟩
abbrev cX5_wordOfMostLast : ByteArray := prog_7_method_4_code
def yX5_wordOfMostLast : MethodName := ⟨RX5, "wordOfMostLast", "(LLastOfKind$House;)I"⟩
abbrev cX5_lastBy : ByteArray := prog_7_method_5_code
def yX5_lastBy : MethodName := ⟨RX5, "lastBy", "(LLastOfKind$House;I)I"⟩
abbrev cX5_costToBreak : ByteArray := prog_7_method_6_code
def yX5_costToBreak : MethodName := ⟨RX5, "costToBreak", "(LLastOfKind$House;I)I"⟩
abbrev cX5_frees : ByteArray := prog_7_method_7_code
def yX5_frees : MethodName := ⟨RX5, "frees", "(LLastOfKind$House;II)Z"⟩
def RX6 : String := "LastOfKind$Row"
def TX6 : u_T := fun k => match k with
  | 0 => ("LastOfKind$Row", "before", "[LLastOfKind$House;", true)
  | 1 => ("LastOfKind$Row", "next", "I", false)
  | _ => ("LastOfKind$Row", "length", "I", false)
def tyX6 : Nat → FieldType := fun k => match k with
  | 0 => .array (.object "LastOfKind$House")
  | 1 => .int
  | _ => .int
theorem nmX6 : ∀ a, a < 3 → ∀ b, b < 3 → a ≠ b → (TX6 a).2.1 ≠ (TX6 b).2.1 := by decide +kernel
theorem tyX6_ok : ∀ k, k < 3 → parseFieldDescriptor (TX6 k).2.2.1 = some (tyX6 k) := by decide +kernel
abbrev cX6_init : ByteArray := prog_8_method_1_code
def yX6_init : MethodName := ⟨RX6, "<init>", "()V"⟩
abbrev cX6_clear : ByteArray := prog_8_method_2_code
def yX6_clear : MethodName := ⟨RX6, "clear", "()V"⟩
abbrev cX6_remember : ByteArray := prog_8_method_3_code
def yX6_remember : MethodName := ⟨RX6, "remember", "(LLastOfKind$House;)V"⟩
abbrev cX6_takeBack : ByteArray := prog_8_method_4_code
def yX6_takeBack : MethodName := ⟨RX6, "takeBack", "(LLastOfKind$House;)Z"⟩
abbrev cX6_placeAt : ByteArray := prog_8_method_5_code
def yX6_placeAt : MethodName := ⟨RX6, "placeAt", "(I)LLastOfKind$House;"⟩
def RX7 : String := "LastOfKind$Sightings"
def TX7 : u_T := fun k => match k with
  | 0 => ("LastOfKind$Sightings", "things", "[I", true)
  | 1 => ("LastOfKind$Sightings", "bounds", "[I", true)
  | 2 => ("LastOfKind$Sightings", "lower", "[Z", true)
  | 3 => ("LastOfKind$Sightings", "looked", "[I", true)
  | 4 => ("LastOfKind$Sightings", "worldsWith", "[I", true)
  | 5 => ("LastOfKind$Sightings", "length", "I", false)
  | 6 => ("LastOfKind$Sightings", "total", "I", false)
  | 7 => ("LastOfKind$Sightings", "inAll", "I", false)
  | _ => ("LastOfKind$Sightings", "inNone", "I", false)
def tyX7 : Nat → FieldType := fun k => match k with
  | 0 => .array .int
  | 1 => .array .int
  | 2 => .array .boolean
  | 3 => .array .int
  | 4 => .array .int
  | 5 => .int
  | 6 => .int
  | 7 => .int
  | _ => .int
theorem nmX7 : ∀ a, a < 9 → ∀ b, b < 9 → a ≠ b → (TX7 a).2.1 ≠ (TX7 b).2.1 := by decide +kernel
theorem tyX7_ok : ∀ k, k < 9 → parseFieldDescriptor (TX7 k).2.2.1 = some (tyX7 k) := by decide +kernel
abbrev cX7_init : ByteArray := prog_9_method_1_code
def yX7_init : MethodName := ⟨RX7, "<init>", "()V"⟩
abbrev cX7_append : ByteArray := prog_9_method_2_code
def yX7_append : MethodName := ⟨RX7, "append", "(IIZ)Z"⟩
abbrev cX7_survey : ByteArray := prog_9_method_3_code
def yX7_survey : MethodName := ⟨RX7, "survey", "(LLastOfKind$House;)V"⟩
abbrev cX7_mostTelling : ByteArray := prog_9_method_4_code
def yX7_mostTelling : MethodName := ⟨RX7, "mostTelling", "(LLastOfKind$House;)I"⟩
abbrev cX7_learn : ByteArray := prog_9_method_5_code
def yX7_learn : MethodName := ⟨RX7, "learn", "(LLastOfKind$House;)V"⟩
abbrev cX7_isSo : ByteArray := prog_9_method_6_code
def yX7_isSo : MethodName := ⟨RX7, "isSo", "(II)Z"⟩
abbrev cX7_tally : ByteArray := prog_9_method_7_code
def yX7_tally : MethodName := ⟨RX7, "tally", "(I)V"⟩
def RX8 : String := "LastOfKind$Text"
def TX8 : u_T := fun k => match k with
  | 0 => ("LastOfKind$Text", "letters", "[I", true)
  | _ => ("LastOfKind$Text", "length", "I", false)
def tyX8 : Nat → FieldType := fun k => match k with
  | 0 => .array .int
  | _ => .int
theorem nmX8 : ∀ a, a < 2 → ∀ b, b < 2 → a ≠ b → (TX8 a).2.1 ≠ (TX8 b).2.1 := by decide +kernel
theorem tyX8_ok : ∀ k, k < 2 → parseFieldDescriptor (TX8 k).2.2.1 = some (tyX8 k) := by decide +kernel
abbrev cX8_init : ByteArray := prog_10_method_1_code
def yX8_init : MethodName := ⟨RX8, "<init>", "()V"⟩
abbrev cX8_append : ByteArray := prog_10_method_2_code
def yX8_append : MethodName := ⟨RX8, "append", "(I)Z"⟩
abbrev cX8_firstFault : ByteArray := prog_10_method_3_code
def yX8_firstFault : MethodName := ⟨RX8, "firstFault", "()I"⟩
abbrev cX8_things : ByteArray := prog_10_method_4_code
def yX8_things : MethodName := ⟨RX8, "things", "()I"⟩
abbrev cX8_wordTold : ByteArray := prog_10_method_5_code
def yX8_wordTold : MethodName := ⟨RX8, "wordTold", "()I"⟩
abbrev cX8_figureTold : ByteArray := prog_10_method_6_code
def yX8_figureTold : MethodName := ⟨RX8, "figureTold", "(II)I"⟩
abbrev cX8_fits : ByteArray := prog_10_method_7_code
def yX8_fits : MethodName := ⟨RX8, "fits", "(I)Z"⟩
abbrev cX8_isWithin : ByteArray := prog_10_method_8_code
def yX8_isWithin : MethodName := ⟨RX8, "isWithin", "(III)Z"⟩
def RX9 : String := "LastOfKind"
def TX9 : u_T := fun k => match k with
  | 0 => ("LastOfKind", "text", "LLastOfKind$Text;", true)
  | 1 => ("LastOfKind", "now", "LLastOfKind$House;", true)
  | 2 => ("LastOfKind", "trial", "LLastOfKind$House;", true)
  | 3 => ("LastOfKind", "row", "LLastOfKind$Row;", true)
  | 4 => ("LastOfKind", "slots", "[LLastOfKind$House;", true)
  | 5 => ("LastOfKind", "filledSlots", "I", false)
  | 6 => ("LastOfKind", "plans", "LLastOfKind$Plans;", true)
  | 7 => ("LastOfKind", "owners", "LLastOfKind$Owners;", true)
  | 8 => ("LastOfKind", "sightings", "LLastOfKind$Sightings;", true)
  | 9 => ("LastOfKind", "museums", "LLastOfKind$Museums;", true)
  | _ => ("LastOfKind", "chances", "LLastOfKind$Chances;", true)
def tyX9 : Nat → FieldType := fun k => match k with
  | 0 => .object "LastOfKind$Text"
  | 1 => .object "LastOfKind$House"
  | 2 => .object "LastOfKind$House"
  | 3 => .object "LastOfKind$Row"
  | 4 => .array (.object "LastOfKind$House")
  | 5 => .int
  | 6 => .object "LastOfKind$Plans"
  | 7 => .object "LastOfKind$Owners"
  | 8 => .object "LastOfKind$Sightings"
  | 9 => .object "LastOfKind$Museums"
  | _ => .object "LastOfKind$Chances"
theorem nmX9 : ∀ a, a < 11 → ∀ b, b < 11 → a ≠ b → (TX9 a).2.1 ≠ (TX9 b).2.1 := by decide +kernel
theorem tyX9_ok : ∀ k, k < 11 → parseFieldDescriptor (TX9 k).2.2.1 = some (tyX9 k) := by decide +kernel
abbrev cX9_init : ByteArray := prog_1_method_1_code
def yX9_init : MethodName := ⟨RX9, "<init>", "()V"⟩
abbrev cX9_write : ByteArray := prog_1_method_2_code
def yX9_write : MethodName := ⟨RX9, "write", "(I)I"⟩
abbrev cX9_wipe : ByteArray := prog_1_method_3_code
def yX9_wipe : MethodName := ⟨RX9, "wipe", "()I"⟩
abbrev cX9_fault : ByteArray := prog_1_method_4_code
def yX9_fault : MethodName := ⟨RX9, "fault", "()I"⟩
abbrev cX9_house : ByteArray := prog_1_method_5_code
def yX9_house : MethodName := ⟨RX9, "house", "()I"⟩
abbrev cX9_thing : ByteArray := prog_1_method_6_code
def yX9_thing : MethodName := ⟨RX9, "thing", "(II)I"⟩
abbrev cX9_alike : ByteArray := prog_1_method_7_code
def yX9_alike : MethodName := ⟨RX9, "alike", "(I)I"⟩
abbrev cX9_price : ByteArray := prog_1_method_8_code
def yX9_price : MethodName := ⟨RX9, "price", "(I)I"⟩
abbrev cX9_broken : ByteArray := prog_1_method_9_code
def yX9_broken : MethodName := ⟨RX9, "broken", "(I)I"⟩
abbrev cX9_forge : ByteArray := prog_1_method_10_code
def yX9_forge : MethodName := ⟨RX9, "forge", "(II)I"⟩
abbrev cX9_hide : ByteArray := prog_1_method_11_code
def yX9_hide : MethodName := ⟨RX9, "hide", "(I)I"⟩
abbrev cX9_claim : ByteArray := prog_1_method_12_code
def yX9_claim : MethodName := ⟨RX9, "claim", "(I)I"⟩
abbrev cX9_guard : ByteArray := prog_1_method_13_code
def yX9_guard : MethodName := ⟨RX9, "guard", "(I)I"⟩
abbrev cX9_word : ByteArray := prog_1_method_14_code
def yX9_word : MethodName := ⟨RX9, "word", "(I)I"⟩
abbrev cX9_year : ByteArray := prog_1_method_15_code
def yX9_year : MethodName := ⟨RX9, "year", "()I"⟩
abbrev cX9_undo : ByteArray := prog_1_method_16_code
def yX9_undo : MethodName := ⟨RX9, "undo", "()I"⟩
abbrev cX9_judge : ByteArray := prog_1_method_17_code
def yX9_judge : MethodName := ⟨RX9, "judge", "(II)I"⟩
abbrev cX9_tryAct : ByteArray := prog_1_method_18_code
def yX9_tryAct : MethodName := ⟨RX9, "tryAct", "(II)I"⟩
abbrev cX9_campaign : ByteArray := prog_1_method_19_code
def yX9_campaign : MethodName := ⟨RX9, "campaign", "(I)I"⟩
abbrev cX9_campaignBy : ByteArray := prog_1_method_20_code
def yX9_campaignBy : MethodName := ⟨RX9, "campaignBy", "(II)I"⟩
abbrev cX9_copy : ByteArray := prog_1_method_21_code
def yX9_copy : MethodName := ⟨RX9, "copy", "(I)I"⟩
abbrev cX9_bestWord : ByteArray := prog_1_method_22_code
def yX9_bestWord : MethodName := ⟨RX9, "bestWord", "(I)I"⟩
abbrev cX9_rests : ByteArray := prog_1_method_23_code
def yX9_rests : MethodName := ⟨RX9, "rests", "(I)I"⟩
abbrev cX9_sight : ByteArray := prog_1_method_24_code
def yX9_sight : MethodName := ⟨RX9, "sight", "(IIZ)I"⟩
abbrev cX9_unsight : ByteArray := prog_1_method_25_code
def yX9_unsight : MethodName := ⟨RX9, "unsight", "()I"⟩
abbrev cX9_worlds : ByteArray := prog_1_method_26_code
def yX9_worlds : MethodName := ⟨RX9, "worlds", "(I)I"⟩
abbrev cX9_toSeek : ByteArray := prog_1_method_27_code
def yX9_toSeek : MethodName := ⟨RX9, "toSeek", "()I"⟩
abbrev cX9_byTurns : ByteArray := prog_1_method_28_code
def yX9_byTurns : MethodName := ⟨RX9, "byTurns", "(II)I"⟩
abbrev cX9_chance : ByteArray := prog_1_method_29_code
def yX9_chance : MethodName := ⟨RX9, "chance", "(IIZ)I"⟩
abbrev cX9_seed : ByteArray := prog_1_method_30_code
def yX9_seed : MethodName := ⟨RX9, "seed", "(J)J"⟩
abbrev cX9_years : ByteArray := prog_1_method_31_code
def yX9_years : MethodName := ⟨RX9, "years", "(II)I"⟩
abbrev cX9_keep : ByteArray := prog_1_method_32_code
def yX9_keep : MethodName := ⟨RX9, "keep", "(I)I"⟩
abbrev cX9_again : ByteArray := prog_1_method_33_code
def yX9_again : MethodName := ⟨RX9, "again", "(I)I"⟩
abbrev cX9_count : ByteArray := prog_1_method_34_code
def yX9_count : MethodName := ⟨RX9, "count", "(I)I"⟩
abbrev cX9_slotAt : ByteArray := prog_1_method_35_code
def yX9_slotAt : MethodName := ⟨RX9, "slotAt", "(I)LLastOfKind$House;"⟩
abbrev cX9_holds : ByteArray := prog_1_method_36_code
def yX9_holds : MethodName := ⟨RX9, "holds", "(II)Z"⟩
abbrev cX9_withoutLast : ByteArray := prog_1_method_37_code
def yX9_withoutLast : MethodName := ⟨RX9, "withoutLast", "(II)I"⟩
abbrev cX9_at : ByteArray := prog_1_method_38_code
def yX9_at : MethodName := ⟨RX9, "at", "([II)I"⟩
abbrev cX9_put : ByteArray := prog_1_method_39_code
def yX9_put : MethodName := ⟨RX9, "put", "([III)V"⟩
def RX10 : String := "LastOfKindModel"
def TX10 : u_T := fun k => match k with
  | 0 => ("LastOfKindModel", "now", "[I", true)
  | 1 => ("LastOfKindModel", "text", "[I", true)
  | 2 => ("LastOfKindModel", "length", "I", false)
  | 3 => ("LastOfKindModel", "acts", "I", false)
  | 4 => ("LastOfKindModel", "next", "I", false)
  | 5 => ("LastOfKindModel", "row", "[I", true)
  | 6 => ("LastOfKindModel", "sights", "I", false)
  | 7 => ("LastOfKindModel", "sightOf", "[I", true)
  | 8 => ("LastOfKindModel", "sightMany", "[I", true)
  | 9 => ("LastOfKindModel", "sightLeast", "[Z", true)
  | 10 => ("LastOfKindModel", "worldMany", "I", false)
  | 11 => ("LastOfKindModel", "worldAll", "I", false)
  | 12 => ("LastOfKindModel", "worldSome", "I", false)
  | 13 => ("LastOfKindModel", "worldWith", "[I", true)
  | 14 => ("LastOfKindModel", "gBroken", "[I", true)
  | 15 => ("LastOfKindModel", "gClaimed", "[I", true)
  | 16 => ("LastOfKindModel", "gTry", "[I", true)
  | 17 => ("LastOfKindModel", "gBest", "[I", true)
  | 18 => ("LastOfKindModel", "gMove", "[I", true)
  | 19 => ("LastOfKindModel", "gHas", "[I", true)
  | 20 => ("LastOfKindModel", "seed", "J", false)
  | 21 => ("LastOfKindModel", "isKept", "[Z", true)
  | _ => ("LastOfKindModel", "kept", "[I", true)
def tyX10 : Nat → FieldType := fun k => match k with
  | 0 => .array .int
  | 1 => .array .int
  | 2 => .int
  | 3 => .int
  | 4 => .int
  | 5 => .array .int
  | 6 => .int
  | 7 => .array .int
  | 8 => .array .int
  | 9 => .array .boolean
  | 10 => .int
  | 11 => .int
  | 12 => .int
  | 13 => .array .int
  | 14 => .array .int
  | 15 => .array .int
  | 16 => .array .int
  | 17 => .array .int
  | 18 => .array .int
  | 19 => .array .int
  | 20 => .long
  | 21 => .array .boolean
  | _ => .array .int
theorem nmX10 : ∀ a, a < 23 → ∀ b, b < 23 → a ≠ b → (TX10 a).2.1 ≠ (TX10 b).2.1 := by decide +kernel
theorem tyX10_ok : ∀ k, k < 23 → parseFieldDescriptor (TX10 k).2.2.1 = some (tyX10 k) := by decide +kernel
abbrev cX10_init : ByteArray := prog_12_method_1_code
def yX10_init : MethodName := ⟨RX10, "<init>", "()V"⟩
abbrev cX10_in : ByteArray := prog_12_method_3_code
def yX10_in : MethodName := ⟨RX10, "in", "(JJJ)Z"⟩
abbrev cX10_has : ByteArray := prog_12_method_4_code
def yX10_has : MethodName := ⟨RX10, "has", "(II)Z"⟩
abbrev cX10_ones : ByteArray := prog_12_method_5_code
def yX10_ones : MethodName := ⟨RX10, "ones", "(I)I"⟩
abbrev cX10_write : ByteArray := prog_12_method_6_code
def yX10_write : MethodName := ⟨RX10, "write", "(I)I"⟩
abbrev cX10_wipe : ByteArray := prog_12_method_7_code
def yX10_wipe : MethodName := ⟨RX10, "wipe", "()I"⟩
abbrev cX10_fits : ByteArray := prog_12_method_8_code
def yX10_fits : MethodName := ⟨RX10, "fits", "(I)Z"⟩
abbrev cX10_fault : ByteArray := prog_12_method_9_code
def yX10_fault : MethodName := ⟨RX10, "fault", "()I"⟩
abbrev cX10_figure : ByteArray := prog_12_method_10_code
def yX10_figure : MethodName := ⟨RX10, "figure", "(I)I"⟩
abbrev cX10_code : ByteArray := prog_12_method_11_code
def yX10_code : MethodName := ⟨RX10, "code", "(IIIII)I"⟩
abbrev cX10_house : ByteArray := prog_12_method_12_code
def yX10_house : MethodName := ⟨RX10, "house", "()I"⟩
abbrev cX10_many : ByteArray := prog_12_method_13_code
def yX10_many : MethodName := ⟨RX10, "many", "()I"⟩
abbrev cX10_isThing : ByteArray := prog_12_method_14_code
def yX10_isThing : MethodName := ⟨RX10, "isThing", "(I)Z"⟩
abbrev cX10_guardOf : ByteArray := prog_12_method_15_code
def yX10_guardOf : MethodName := ⟨RX10, "guardOf", "(I)I"⟩
abbrev cX10_costOf : ByteArray := prog_12_method_16_code
def yX10_costOf : MethodName := ⟨RX10, "costOf", "(I)I"⟩
abbrev cX10_worthOf : ByteArray := prog_12_method_17_code
def yX10_worthOf : MethodName := ⟨RX10, "worthOf", "(I)I"⟩
abbrev cX10_ownerOf : ByteArray := prog_12_method_18_code
def yX10_ownerOf : MethodName := ⟨RX10, "ownerOf", "(I)I"⟩
abbrev cX10_marksOf : ByteArray := prog_12_method_19_code
def yX10_marksOf : MethodName := ⟨RX10, "marksOf", "(I)I"⟩
abbrev cX10_tenTo : ByteArray := prog_12_method_20_code
def yX10_tenTo : MethodName := ⟨RX10, "tenTo", "(I)I"⟩
abbrev cX10_markOf : ByteArray := prog_12_method_21_code
def yX10_markOf : MethodName := ⟨RX10, "markOf", "(II)I"⟩
abbrev cX10_same : ByteArray := prog_12_method_22_code
def yX10_same : MethodName := ⟨RX10, "same", "(II)I"⟩
abbrev cX10_alikeOf : ByteArray := prog_12_method_23_code
def yX10_alikeOf : MethodName := ⟨RX10, "alikeOf", "(III)I"⟩
abbrev cX10_shown : ByteArray := prog_12_method_24_code
def yX10_shown : MethodName := ⟨RX10, "shown", "(I)I"⟩
abbrev cX10_lastOf : ByteArray := prog_12_method_25_code
def yX10_lastOf : MethodName := ⟨RX10, "lastOf", "(II)I"⟩
abbrev cX10_last : ByteArray := prog_12_method_26_code
def yX10_last : MethodName := ⟨RX10, "last", "()I"⟩
abbrev cX10_thing : ByteArray := prog_12_method_27_code
def yX10_thing : MethodName := ⟨RX10, "thing", "(II)I"⟩
abbrev cX10_alike : ByteArray := prog_12_method_28_code
def yX10_alike : MethodName := ⟨RX10, "alike", "(I)I"⟩
abbrev cX10_priceBy : ByteArray := prog_12_method_29_code
def yX10_priceBy : MethodName := ⟨RX10, "priceBy", "(II)I"⟩
abbrev cX10_price : ByteArray := prog_12_method_30_code
def yX10_price : MethodName := ⟨RX10, "price", "(I)I"⟩
abbrev cX10_keepAct : ByteArray := prog_12_method_31_code
def yX10_keepAct : MethodName := ⟨RX10, "keepAct", "()V"⟩
abbrev cX10_guardAt : ByteArray := prog_12_method_32_code
def yX10_guardAt : MethodName := ⟨RX10, "guardAt", "(II)I"⟩
abbrev cX10_canBreak : ByteArray := prog_12_method_33_code
def yX10_canBreak : MethodName := ⟨RX10, "canBreak", "(II)Z"⟩
abbrev cX10_canClaim : ByteArray := prog_12_method_34_code
def yX10_canClaim : MethodName := ⟨RX10, "canClaim", "(II)Z"⟩
abbrev cX10_canHide : ByteArray := prog_12_method_35_code
def yX10_canHide : MethodName := ⟨RX10, "canHide", "(II)Z"⟩
abbrev cX10_free : ByteArray := prog_12_method_36_code
def yX10_free : MethodName := ⟨RX10, "free", "(II)V"⟩
abbrev cX10_doHide : ByteArray := prog_12_method_37_code
def yX10_doHide : MethodName := ⟨RX10, "doHide", "(II)V"⟩
abbrev cX10_doGuard : ByteArray := prog_12_method_38_code
def yX10_doGuard : MethodName := ⟨RX10, "doGuard", "(II)V"⟩
abbrev cX10_broken : ByteArray := prog_12_method_39_code
def yX10_broken : MethodName := ⟨RX10, "broken", "(I)I"⟩
abbrev cX10_forge : ByteArray := prog_12_method_40_code
def yX10_forge : MethodName := ⟨RX10, "forge", "(II)I"⟩
abbrev cX10_hide : ByteArray := prog_12_method_41_code
def yX10_hide : MethodName := ⟨RX10, "hide", "(I)I"⟩
abbrev cX10_claim : ByteArray := prog_12_method_42_code
def yX10_claim : MethodName := ⟨RX10, "claim", "(I)I"⟩
abbrev cX10_guard : ByteArray := prog_12_method_43_code
def yX10_guard : MethodName := ⟨RX10, "guard", "(I)I"⟩
abbrev cX10_word : ByteArray := prog_12_method_44_code
def yX10_word : MethodName := ⟨RX10, "word", "(I)I"⟩
abbrev cX10_year : ByteArray := prog_12_method_45_code
def yX10_year : MethodName := ⟨RX10, "year", "()I"⟩
abbrev cX10_undo : ByteArray := prog_12_method_46_code
def yX10_undo : MethodName := ⟨RX10, "undo", "()I"⟩
abbrev cX10_can : ByteArray := prog_12_method_47_code
def yX10_can : MethodName := ⟨RX10, "can", "(II)Z"⟩
abbrev cX10_make : ByteArray := prog_12_method_48_code
def yX10_make : MethodName := ⟨RX10, "make", "(II)V"⟩
abbrev cX10_judge : ByteArray := prog_12_method_49_code
def yX10_judge : MethodName := ⟨RX10, "judge", "(II)I"⟩
abbrev cX10_apart : ByteArray := prog_12_method_50_code
def yX10_apart : MethodName := ⟨RX10, "apart", "(II)I"⟩
abbrev cX10_costBy : ByteArray := prog_12_method_51_code
def yX10_costBy : MethodName := ⟨RX10, "costBy", "(II)I"⟩
abbrev cX10_campaignWord : ByteArray := prog_12_method_52_code
def yX10_campaignWord : MethodName := ⟨RX10, "campaignWord", "(I)I"⟩
abbrev cX10_campaign : ByteArray := prog_12_method_53_code
def yX10_campaign : MethodName := ⟨RX10, "campaign", "(I)I"⟩
abbrev cX10_campaignBy : ByteArray := prog_12_method_54_code
def yX10_campaignBy : MethodName := ⟨RX10, "campaignBy", "(II)I"⟩
abbrev cX10_copy : ByteArray := prog_12_method_55_code
def yX10_copy : MethodName := ⟨RX10, "copy", "(I)I"⟩
abbrev cX10_bestWord : ByteArray := prog_12_method_56_code
def yX10_bestWord : MethodName := ⟨RX10, "bestWord", "(I)I"⟩
abbrev cX10_may : ByteArray := prog_12_method_57_code
def yX10_may : MethodName := ⟨RX10, "may", "(II)Z"⟩
abbrev cX10_has3 : ByteArray := prog_12_method_58_code
def yX10_has3 : MethodName := ⟨RX10, "has3", "(IIII)I"⟩
abbrev cX10_rest : ByteArray := prog_12_method_59_code
def yX10_rest : MethodName := ⟨RX10, "rest", "(III)Z"⟩
abbrev cX10_rests : ByteArray := prog_12_method_60_code
def yX10_rests : MethodName := ⟨RX10, "rests", "(I)I"⟩
abbrev cX10_sight : ByteArray := prog_12_method_61_code
def yX10_sight : MethodName := ⟨RX10, "sight", "(IIZ)I"⟩
abbrev cX10_unsight : ByteArray := prog_12_method_62_code
def yX10_unsight : MethodName := ⟨RX10, "unsight", "()I"⟩
abbrev cX10_hiddenThere : ByteArray := prog_12_method_63_code
def yX10_hiddenThere : MethodName := ⟨RX10, "hiddenThere", "()I"⟩
abbrev cX10_isSighted : ByteArray := prog_12_method_64_code
def yX10_isSighted : MethodName := ⟨RX10, "isSighted", "(I)Z"⟩
abbrev cX10_layWorlds : ByteArray := prog_12_method_65_code
def yX10_layWorlds : MethodName := ⟨RX10, "layWorlds", "()V"⟩
abbrev cX10_worlds : ByteArray := prog_12_method_66_code
def yX10_worlds : MethodName := ⟨RX10, "worlds", "(I)I"⟩
abbrev cX10_toSeek : ByteArray := prog_12_method_67_code
def yX10_toSeek : MethodName := ⟨RX10, "toSeek", "()I"⟩
abbrev cX10_canMove : ByteArray := prog_12_method_68_code
def yX10_canMove : MethodName := ⟨RX10, "canMove", "(II)Z"⟩
abbrev cX10_begin : ByteArray := prog_12_method_69_code
def yX10_begin : MethodName := ⟨RX10, "begin", "(III)V"⟩
abbrev cX10_go : ByteArray := prog_12_method_70_code
def yX10_go : MethodName := ⟨RX10, "go", "(II)V"⟩
abbrev cX10_byTurns : ByteArray := prog_12_method_71_code
def yX10_byTurns : MethodName := ⟨RX10, "byTurns", "(II)I"⟩
abbrev cX10_common : ByteArray := prog_12_method_72_code
def yX10_common : MethodName := ⟨RX10, "common", "(II)I"⟩
abbrev cX10_frail : ByteArray := prog_12_method_73_code
def yX10_frail : MethodName := ⟨RX10, "frail", "(I)I"⟩
abbrev cX10_chance : ByteArray := prog_12_method_74_code
def yX10_chance : MethodName := ⟨RX10, "chance", "(IIZ)I"⟩
abbrev cX10_seed : ByteArray := prog_12_method_75_code
def yX10_seed : MethodName := ⟨RX10, "seed", "(J)J"⟩
abbrev cX10_years : ByteArray := prog_12_method_76_code
def yX10_years : MethodName := ⟨RX10, "years", "(II)I"⟩
abbrev cX10_keep : ByteArray := prog_12_method_77_code
def yX10_keep : MethodName := ⟨RX10, "keep", "(I)I"⟩
abbrev cX10_again : ByteArray := prog_12_method_78_code
def yX10_again : MethodName := ⟨RX10, "again", "(I)I"⟩
abbrev cX10_count : ByteArray := prog_12_method_79_code
def yX10_count : MethodName := ⟨RX10, "count", "(I)I"⟩
def RJ6 : String := "java/lang/Integer"
def TJ6 : u_T := fun k => match k with
  | _ => ("", "", "", false)
def tyJ6 : Nat → FieldType := fun k => match k with
  | _ => .int
theorem nmJ6 : ∀ a, a < 0 → ∀ b, b < 0 → a ≠ b → (TJ6 a).2.1 ≠ (TJ6 b).2.1 := by decide +kernel
theorem tyJ6_ok : ∀ k, k < 0 → parseFieldDescriptor (TJ6 k).2.2.1 = some (tyJ6 k) := by decide +kernel
abbrev cJ6_bitCount_0f7a4 : ByteArray := prog_13_method_49_code
def yJ6_bitCount_0f7a4 : MethodName := ⟨RJ6, "bitCount", "(I)I"⟩
def RJ9 : String := "java/lang/Math"
def TJ9 : u_T := fun k => match k with
  | _ => ("", "", "", false)
def tyJ9 : Nat → FieldType := fun k => match k with
  | _ => .int
theorem nmJ9 : ∀ a, a < 0 → ∀ b, b < 0 → a ≠ b → (TJ9 a).2.1 ≠ (TJ9 b).2.1 := by decide +kernel
theorem tyJ9_ok : ∀ k, k < 0 → parseFieldDescriptor (TJ9 k).2.2.1 = some (tyJ9 k) := by decide +kernel
abbrev cJ9_abs_0f7a4 : ByteArray := prog_14_method_59_code
def yJ9_abs_0f7a4 : MethodName := ⟨RJ9, "abs", "(I)I"⟩
abbrev cJ9_max_7cf53 : ByteArray := prog_14_method_65_code
def yJ9_max_7cf53 : MethodName := ⟨RJ9, "max", "(II)I"⟩
abbrev cJ9_min_7cf53 : ByteArray := prog_14_method_69_code
def yJ9_min_7cf53 : MethodName := ⟨RJ9, "min", "(II)I"⟩
def RL : String := "LastOfKindLaw"
abbrev cL_law : ByteArray := code
abbrev vwCl : List vw_C := [(RX0, TX0, 3), (RX1, TX1, 3), (RX2, TX2, 8), (RX3, TX3, 6), (RX4, TX4, 6), (RX5, TX5, 3), (RX6, TX6, 3), (RX7, TX7, 9), (RX8, TX8, 2), (RX9, TX9, 11), (RX10, TX10, 23)]
end
section
def lw_ok : List Cond := lw_tbl.filter goodWord
theorem mok {w : Cond} {i : Nat} (h : lw_tbl[i]? = some w) (g : goodWord w = true) : w ∈ lw_ok := List.mem_filter.mpr ⟨List.mem_of_getElem? h, g⟩
/-- a method that can be called on an object of its class: its rows of the tables -/
def jCV (y : MethodName) (cc : ByteArray) (maxL : Nat) (ret : Option FieldType) : Prop := Cond.code y cc maxL ret ∈ lw_ok ∧ Cond.instanceMethod y ∈ lw_ok ∧ Cond.selects y.cls y y ∈ lw_ok ∧ Cond.initialized y.cls ∈ lw_ok ∧ (y.cls ≠ "java/lang/invoke/MethodHandle" ∧ y.cls ≠ "java/lang/invoke/VarHandle")
/-- a static method -/
def jCS (y : MethodName) (cc : ByteArray) (maxL : Nat) (ret : Option FieldType) : Prop := Cond.code y cc maxL ret ∈ lw_ok ∧ Cond.static y ∈ lw_ok ∧ Cond.initialized y.cls ∈ lw_ok ∧ (y.cls ≠ "java/lang/invoke/MethodHandle" ∧ y.cls ≠ "java/lang/invoke/VarHandle")
theorem zX0_weigh : jCV yX0_weigh cX0_weigh 8 none := ⟨mok (i := 769) (by decide +kernel) rfl, mok (i := 767) (by decide +kernel) rfl, mok (i := 768) (by decide +kernel) rfl, mok (i := 66) (by decide +kernel) rfl, by decide +kernel⟩
theorem zX0_lastAfter : jCV yX0_lastAfter cX0_lastAfter 8 (some FieldType.int) := ⟨mok (i := 790) (by decide +kernel) rfl, mok (i := 788) (by decide +kernel) rfl, mok (i := 789) (by decide +kernel) rfl, mok (i := 66) (by decide +kernel) rfl, by decide +kernel⟩
theorem zX0_reduce : jCV yX0_reduce cX0_reduce 5 none := ⟨mok (i := 778) (by decide +kernel) rfl, mok (i := 777) (by decide +kernel) rfl, mok (i := 16) (by decide +kernel) rfl, mok (i := 66) (by decide +kernel) rfl, by decide +kernel⟩
theorem zX1_learn : jCV yX1_learn cX1_learn 4 none := ⟨mok (i := 626) (by decide +kernel) rfl, mok (i := 624) (by decide +kernel) rfl, mok (i := 625) (by decide +kernel) rfl, mok (i := 63) (by decide +kernel) rfl, by decide +kernel⟩
theorem zX1_worth : jCV yX1_worth cX1_worth 2 (some FieldType.int) := ⟨mok (i := 755) (by decide +kernel) rfl, mok (i := 753) (by decide +kernel) rfl, mok (i := 754) (by decide +kernel) rfl, mok (i := 63) (by decide +kernel) rfl, by decide +kernel⟩
theorem zX1_cost : jCV yX1_cost cX1_cost 2 (some FieldType.int) := ⟨mok (i := 660) (by decide +kernel) rfl, mok (i := 658) (by decide +kernel) rfl, mok (i := 659) (by decide +kernel) rfl, mok (i := 63) (by decide +kernel) rfl, by decide +kernel⟩
theorem zX1_lastAmong : jCV yX1_lastAmong cX1_lastAmong 4 (some FieldType.int) := ⟨mok (i := 747) (by decide +kernel) rfl, mok (i := 745) (by decide +kernel) rfl, mok (i := 746) (by decide +kernel) rfl, mok (i := 63) (by decide +kernel) rfl, by decide +kernel⟩
theorem zX1_pricesAmong : jCV yX1_pricesAmong cX1_pricesAmong 5 (some FieldType.int) := ⟨mok (i := 642) (by decide +kernel) rfl, mok (i := 640) (by decide +kernel) rfl, mok (i := 641) (by decide +kernel) rfl, mok (i := 63) (by decide +kernel) rfl, by decide +kernel⟩
theorem zX2_copyFrom : jCV yX2_copyFrom cX2_copyFrom 3 none := ⟨mok (i := 504) (by decide +kernel) rfl, mok (i := 502) (by decide +kernel) rfl, mok (i := 503) (by decide +kernel) rfl, mok (i := 59) (by decide +kernel) rfl, by decide +kernel⟩
theorem zX2_readFrom : jCV yX2_readFrom cX2_readFrom 4 none := ⟨mok (i := 385) (by decide +kernel) rfl, mok (i := 383) (by decide +kernel) rfl, mok (i := 384) (by decide +kernel) rfl, mok (i := 59) (by decide +kernel) rfl, by decide +kernel⟩
theorem zX2_has : jCV yX2_has cX2_has 2 (some FieldType.boolean) := ⟨mok (i := 415) (by decide +kernel) rfl, mok (i := 413) (by decide +kernel) rfl, mok (i := 414) (by decide +kernel) rfl, mok (i := 59) (by decide +kernel) rfl, by decide +kernel⟩
theorem zX2_figure : jCV yX2_figure cX2_figure 3 (some FieldType.int) := ⟨mok (i := 419) (by decide +kernel) rfl, mok (i := 417) (by decide +kernel) rfl, mok (i := 418) (by decide +kernel) rfl, mok (i := 59) (by decide +kernel) rfl, by decide +kernel⟩
theorem zX2_all : jCV yX2_all cX2_all 1 (some FieldType.int) := ⟨mok (i := 436) (by decide +kernel) rfl, mok (i := 434) (by decide +kernel) rfl, mok (i := 435) (by decide +kernel) rfl, mok (i := 59) (by decide +kernel) rfl, by decide +kernel⟩
theorem zX2_there : jCV yX2_there cX2_there 1 (some FieldType.int) := ⟨mok (i := 432) (by decide +kernel) rfl, mok (i := 430) (by decide +kernel) rfl, mok (i := 431) (by decide +kernel) rfl, mok (i := 59) (by decide +kernel) rfl, by decide +kernel⟩
theorem zX2_shown : jCV yX2_shown cX2_shown 1 (some FieldType.int) := ⟨mok (i := 428) (by decide +kernel) rfl, mok (i := 426) (by decide +kernel) rfl, mok (i := 427) (by decide +kernel) rfl, mok (i := 59) (by decide +kernel) rfl, by decide +kernel⟩
theorem zX2_unseen : jCV yX2_unseen cX2_unseen 1 (some FieldType.int) := ⟨mok (i := 703) (by decide +kernel) rfl, mok (i := 701) (by decide +kernel) rfl, mok (i := 702) (by decide +kernel) rfl, mok (i := 59) (by decide +kernel) rfl, by decide +kernel⟩
theorem zX2_breakable : jCV yX2_breakable cX2_breakable 1 (some FieldType.int) := ⟨mok (i := 492) (by decide +kernel) rfl, mok (i := 490) (by decide +kernel) rfl, mok (i := 491) (by decide +kernel) rfl, mok (i := 59) (by decide +kernel) rfl, by decide +kernel⟩
theorem zX2_alikeTo : jCV yX2_alikeTo cX2_alikeTo 6 (some FieldType.int) := ⟨mok (i := 447) (by decide +kernel) rfl, mok (i := 445) (by decide +kernel) rfl, mok (i := 446) (by decide +kernel) rfl, mok (i := 59) (by decide +kernel) rfl, by decide +kernel⟩
theorem zX2_sameMarks : jCV yX2_sameMarks cX2_sameMarks 6 (some FieldType.int) := ⟨mok (i := 451) (by decide +kernel) rfl, mok (i := 449) (by decide +kernel) rfl, mok (i := 450) (by decide +kernel) rfl, mok (i := 59) (by decide +kernel) rfl, by decide +kernel⟩
theorem zX2_lastOnes : jCV yX2_lastOnes cX2_lastOnes 1 (some FieldType.int) := ⟨mok (i := 424) (by decide +kernel) rfl, mok (i := 422) (by decide +kernel) rfl, mok (i := 423) (by decide +kernel) rfl, mok (i := 59) (by decide +kernel) rfl, by decide +kernel⟩
theorem zX2_lastOnesBy : jCV yX2_lastOnesBy cX2_lastOnesBy 5 (some FieldType.int) := ⟨mok (i := 440) (by decide +kernel) rfl, mok (i := 438) (by decide +kernel) rfl, mok (i := 439) (by decide +kernel) rfl, mok (i := 59) (by decide +kernel) rfl, by decide +kernel⟩
theorem zX2_priceOf : jCV yX2_priceOf cX2_priceOf 3 (some FieldType.int) := ⟨mok (i := 471) (by decide +kernel) rfl, mok (i := 469) (by decide +kernel) rfl, mok (i := 470) (by decide +kernel) rfl, mok (i := 59) (by decide +kernel) rfl, by decide +kernel⟩
theorem zX2_shareOf : jCS yX2_shareOf cX2_shareOf 3 (some FieldType.int) := ⟨mok (i := 475) (by decide +kernel) rfl, mok (i := 474) (by decide +kernel) rfl, mok (i := 59) (by decide +kernel) rfl, by decide +kernel⟩
theorem zX2_canBe : jCV yX2_canBe cX2_canBe 3 (some FieldType.boolean) := ⟨mok (i := 487) (by decide +kernel) rfl, mok (i := 485) (by decide +kernel) rfl, mok (i := 486) (by decide +kernel) rfl, mok (i := 59) (by decide +kernel) rfl, by decide +kernel⟩
theorem zX2_perform : jCV yX2_perform cX2_perform 4 none := ⟨mok (i := 509) (by decide +kernel) rfl, mok (i := 507) (by decide +kernel) rfl, mok (i := 508) (by decide +kernel) rfl, mok (i := 59) (by decide +kernel) rfl, by decide +kernel⟩
theorem zX2_addForged : jCV yX2_addForged cX2_addForged 7 (some FieldType.int) := ⟨mok (i := 517) (by decide +kernel) rfl, mok (i := 515) (by decide +kernel) rfl, mok (i := 516) (by decide +kernel) rfl, mok (i := 59) (by decide +kernel) rfl, by decide +kernel⟩
theorem zX2_changeWord : jCV yX2_changeWord cX2_changeWord 3 (some FieldType.int) := ⟨mok (i := 543) (by decide +kernel) rfl, mok (i := 541) (by decide +kernel) rfl, mok (i := 542) (by decide +kernel) rfl, mok (i := 59) (by decide +kernel) rfl, by decide +kernel⟩
theorem zX3_play : jCV yX3_play cX3_play 3 none := ⟨mok (i := 738) (by decide +kernel) rfl, mok (i := 736) (by decide +kernel) rfl, mok (i := 737) (by decide +kernel) rfl, mok (i := 65) (by decide +kernel) rfl, by decide +kernel⟩
theorem zX3_lead : jCS yX3_lead cX3_lead 16 (some FieldType.int) := ⟨mok (i := 743) (by decide +kernel) rfl, mok (i := 742) (by decide +kernel) rfl, mok (i := 65) (by decide +kernel) rfl, by decide +kernel⟩
theorem zX3_leadByLastTurn : jCV yX3_leadByLastTurn cX3_leadByLastTurn 4 (some FieldType.int) := ⟨mok (i := 751) (by decide +kernel) rfl, mok (i := 750) (by decide +kernel) rfl, mok (i := 14) (by decide +kernel) rfl, mok (i := 65) (by decide +kernel) rfl, by decide +kernel⟩
theorem zX3_gainOf : jCV yX3_gainOf cX3_gainOf 2 (some FieldType.int) := ⟨mok (i := 759) (by decide +kernel) rfl, mok (i := 758) (by decide +kernel) rfl, mok (i := 15) (by decide +kernel) rfl, mok (i := 65) (by decide +kernel) rfl, by decide +kernel⟩
theorem zX4_weigh : jCV yX4_weigh cX4_weigh 3 none := ⟨mok (i := 622) (by decide +kernel) rfl, mok (i := 620) (by decide +kernel) rfl, mok (i := 621) (by decide +kernel) rfl, mok (i := 62) (by decide +kernel) rfl, by decide +kernel⟩
theorem zX4_firstChoice : jCV yX4_firstChoice cX4_firstChoice 3 (some FieldType.int) := ⟨mok (i := 679) (by decide +kernel) rfl, mok (i := 677) (by decide +kernel) rfl, mok (i := 678) (by decide +kernel) rfl, mok (i := 62) (by decide +kernel) rfl, by decide +kernel⟩
theorem zX4_learn : jCV yX4_learn cX4_learn 7 none := ⟨mok (i := 634) (by decide +kernel) rfl, mok (i := 633) (by decide +kernel) rfl, mok (i := 4) (by decide +kernel) rfl, mok (i := 62) (by decide +kernel) rfl, by decide +kernel⟩
theorem zX4_goThrough : jCV yX4_goThrough cX4_goThrough 5 none := ⟨mok (i := 647) (by decide +kernel) rfl, mok (i := 646) (by decide +kernel) rfl, mok (i := 5) (by decide +kernel) rfl, mok (i := 62) (by decide +kernel) rfl, by decide +kernel⟩
theorem zX4_tell : jCV yX4_tell cX4_tell 2 none := ⟨mok (i := 675) (by decide +kernel) rfl, mok (i := 674) (by decide +kernel) rfl, mok (i := 10) (by decide +kernel) rfl, mok (i := 62) (by decide +kernel) rfl, by decide +kernel⟩
theorem zX4_raiseBest : jCV yX4_raiseBest cX4_raiseBest 5 none := ⟨mok (i := 651) (by decide +kernel) rfl, mok (i := 650) (by decide +kernel) rfl, mok (i := 6) (by decide +kernel) rfl, mok (i := 62) (by decide +kernel) rfl, by decide +kernel⟩
theorem zX4_raise : jCV yX4_raise cX4_raise 4 none := ⟨mok (i := 665) (by decide +kernel) rfl, mok (i := 664) (by decide +kernel) rfl, mok (i := 8) (by decide +kernel) rfl, mok (i := 62) (by decide +kernel) rfl, by decide +kernel⟩
theorem zX4_isRest : jCV yX4_isRest cX4_isRest 5 (some FieldType.boolean) := ⟨mok (i := 671) (by decide +kernel) rfl, mok (i := 670) (by decide +kernel) rfl, mok (i := 9) (by decide +kernel) rfl, mok (i := 62) (by decide +kernel) rfl, by decide +kernel⟩
theorem zX4_has : jCV yX4_has cX4_has 4 (some FieldType.int) := ⟨mok (i := 655) (by decide +kernel) rfl, mok (i := 654) (by decide +kernel) rfl, mok (i := 7) (by decide +kernel) rfl, mok (i := 62) (by decide +kernel) rfl, by decide +kernel⟩
theorem zX5_seekCampaign : jCV yX5_seekCampaign cX5_seekCampaign 6 none := ⟨mok (i := 573) (by decide +kernel) rfl, mok (i := 571) (by decide +kernel) rfl, mok (i := 572) (by decide +kernel) rfl, mok (i := 61) (by decide +kernel) rfl, by decide +kernel⟩
theorem zX5_leastCopy : jCV yX5_leastCopy cX5_leastCopy 6 (some FieldType.int) := ⟨mok (i := 595) (by decide +kernel) rfl, mok (i := 593) (by decide +kernel) rfl, mok (i := 594) (by decide +kernel) rfl, mok (i := 61) (by decide +kernel) rfl, by decide +kernel⟩
theorem zX5_wordOfMostLast : jCV yX5_wordOfMostLast cX5_wordOfMostLast 6 (some FieldType.int) := ⟨mok (i := 608) (by decide +kernel) rfl, mok (i := 606) (by decide +kernel) rfl, mok (i := 607) (by decide +kernel) rfl, mok (i := 61) (by decide +kernel) rfl, by decide +kernel⟩
theorem zX5_lastBy : jCV yX5_lastBy cX5_lastBy 3 (some FieldType.int) := ⟨mok (i := 612) (by decide +kernel) rfl, mok (i := 610) (by decide +kernel) rfl, mok (i := 611) (by decide +kernel) rfl, mok (i := 61) (by decide +kernel) rfl, by decide +kernel⟩
theorem zX5_costToBreak : jCS yX5_costToBreak cX5_costToBreak 4 (some FieldType.int) := ⟨mok (i := 581) (by decide +kernel) rfl, mok (i := 580) (by decide +kernel) rfl, mok (i := 61) (by decide +kernel) rfl, by decide +kernel⟩
theorem zX5_frees : jCS yX5_frees cX5_frees 5 (some FieldType.boolean) := ⟨mok (i := 599) (by decide +kernel) rfl, mok (i := 598) (by decide +kernel) rfl, mok (i := 61) (by decide +kernel) rfl, by decide +kernel⟩
theorem zX6_clear : jCV yX6_clear cX6_clear 1 none := ⟨mok (i := 407) (by decide +kernel) rfl, mok (i := 405) (by decide +kernel) rfl, mok (i := 406) (by decide +kernel) rfl, mok (i := 60) (by decide +kernel) rfl, by decide +kernel⟩
theorem zX6_remember : jCV yX6_remember cX6_remember 3 none := ⟨mok (i := 496) (by decide +kernel) rfl, mok (i := 494) (by decide +kernel) rfl, mok (i := 495) (by decide +kernel) rfl, mok (i := 60) (by decide +kernel) rfl, by decide +kernel⟩
theorem zX6_takeBack : jCV yX6_takeBack cX6_takeBack 4 (some FieldType.boolean) := ⟨mok (i := 556) (by decide +kernel) rfl, mok (i := 554) (by decide +kernel) rfl, mok (i := 555) (by decide +kernel) rfl, mok (i := 60) (by decide +kernel) rfl, by decide +kernel⟩
theorem zX6_placeAt : jCV yX6_placeAt cX6_placeAt 2 (some (FieldType.object "LastOfKind$House")) := ⟨mok (i := 500) (by decide +kernel) rfl, mok (i := 499) (by decide +kernel) rfl, mok (i := 3) (by decide +kernel) rfl, mok (i := 60) (by decide +kernel) rfl, by decide +kernel⟩
theorem zX7_append : jCV yX7_append cX7_append 4 (some FieldType.boolean) := ⟨mok (i := 687) (by decide +kernel) rfl, mok (i := 685) (by decide +kernel) rfl, mok (i := 686) (by decide +kernel) rfl, mok (i := 64) (by decide +kernel) rfl, by decide +kernel⟩
theorem zX7_survey : jCV yX7_survey cX7_survey 4 none := ⟨mok (i := 699) (by decide +kernel) rfl, mok (i := 697) (by decide +kernel) rfl, mok (i := 698) (by decide +kernel) rfl, mok (i := 64) (by decide +kernel) rfl, by decide +kernel⟩
theorem zX7_mostTelling : jCV yX7_mostTelling cX7_mostTelling 7 (some FieldType.int) := ⟨mok (i := 728) (by decide +kernel) rfl, mok (i := 726) (by decide +kernel) rfl, mok (i := 727) (by decide +kernel) rfl, mok (i := 64) (by decide +kernel) rfl, by decide +kernel⟩
theorem zX7_learn : jCV yX7_learn cX7_learn 4 none := ⟨mok (i := 707) (by decide +kernel) rfl, mok (i := 706) (by decide +kernel) rfl, mok (i := 11) (by decide +kernel) rfl, mok (i := 64) (by decide +kernel) rfl, by decide +kernel⟩
theorem zX7_isSo : jCV yX7_isSo cX7_isSo 5 (some FieldType.boolean) := ⟨mok (i := 715) (by decide +kernel) rfl, mok (i := 714) (by decide +kernel) rfl, mok (i := 12) (by decide +kernel) rfl, mok (i := 64) (by decide +kernel) rfl, by decide +kernel⟩
theorem zX7_tally : jCV yX7_tally cX7_tally 3 none := ⟨mok (i := 720) (by decide +kernel) rfl, mok (i := 719) (by decide +kernel) rfl, mok (i := 13) (by decide +kernel) rfl, mok (i := 64) (by decide +kernel) rfl, by decide +kernel⟩
theorem zX8_append : jCV yX8_append cX8_append 2 (some FieldType.boolean) := ⟨mok (i := 354) (by decide +kernel) rfl, mok (i := 352) (by decide +kernel) rfl, mok (i := 353) (by decide +kernel) rfl, mok (i := 58) (by decide +kernel) rfl, by decide +kernel⟩
theorem zX8_firstFault : jCV yX8_firstFault cX8_firstFault 2 (some FieldType.int) := ⟨mok (i := 366) (by decide +kernel) rfl, mok (i := 364) (by decide +kernel) rfl, mok (i := 365) (by decide +kernel) rfl, mok (i := 58) (by decide +kernel) rfl, by decide +kernel⟩
theorem zX8_things : jCV yX8_things cX8_things 1 (some FieldType.int) := ⟨mok (i := 389) (by decide +kernel) rfl, mok (i := 387) (by decide +kernel) rfl, mok (i := 388) (by decide +kernel) rfl, mok (i := 58) (by decide +kernel) rfl, by decide +kernel⟩
theorem zX8_wordTold : jCV yX8_wordTold cX8_wordTold 1 (some FieldType.int) := ⟨mok (i := 399) (by decide +kernel) rfl, mok (i := 397) (by decide +kernel) rfl, mok (i := 398) (by decide +kernel) rfl, mok (i := 58) (by decide +kernel) rfl, by decide +kernel⟩
theorem zX8_figureTold : jCV yX8_figureTold cX8_figureTold 3 (some FieldType.int) := ⟨mok (i := 403) (by decide +kernel) rfl, mok (i := 401) (by decide +kernel) rfl, mok (i := 402) (by decide +kernel) rfl, mok (i := 58) (by decide +kernel) rfl, by decide +kernel⟩
theorem zX8_fits : jCV yX8_fits cX8_fits 3 (some FieldType.boolean) := ⟨mok (i := 370) (by decide +kernel) rfl, mok (i := 369) (by decide +kernel) rfl, mok (i := 0) (by decide +kernel) rfl, mok (i := 58) (by decide +kernel) rfl, by decide +kernel⟩
theorem zX8_isWithin : jCV yX8_isWithin cX8_isWithin 5 (some FieldType.boolean) := ⟨mok (i := 377) (by decide +kernel) rfl, mok (i := 376) (by decide +kernel) rfl, mok (i := 1) (by decide +kernel) rfl, mok (i := 58) (by decide +kernel) rfl, by decide +kernel⟩
theorem zX9_write : jCV yX9_write cX9_write 2 (some FieldType.int) := ⟨mok (i := 350) (by decide +kernel) rfl, mok (i := 348) (by decide +kernel) rfl, mok (i := 349) (by decide +kernel) rfl, mok (i := 57) (by decide +kernel) rfl, by decide +kernel⟩
theorem zX9_wipe : jCV yX9_wipe cX9_wipe 2 (some FieldType.int) := ⟨mok (i := 358) (by decide +kernel) rfl, mok (i := 356) (by decide +kernel) rfl, mok (i := 357) (by decide +kernel) rfl, mok (i := 57) (by decide +kernel) rfl, by decide +kernel⟩
theorem zX9_fault : jCV yX9_fault cX9_fault 1 (some FieldType.int) := ⟨mok (i := 362) (by decide +kernel) rfl, mok (i := 360) (by decide +kernel) rfl, mok (i := 361) (by decide +kernel) rfl, mok (i := 57) (by decide +kernel) rfl, by decide +kernel⟩
theorem zX9_house : jCV yX9_house cX9_house 1 (some FieldType.int) := ⟨mok (i := 381) (by decide +kernel) rfl, mok (i := 379) (by decide +kernel) rfl, mok (i := 380) (by decide +kernel) rfl, mok (i := 57) (by decide +kernel) rfl, by decide +kernel⟩
theorem zX9_thing : jCV yX9_thing cX9_thing 3 (some FieldType.int) := ⟨mok (i := 411) (by decide +kernel) rfl, mok (i := 409) (by decide +kernel) rfl, mok (i := 410) (by decide +kernel) rfl, mok (i := 57) (by decide +kernel) rfl, by decide +kernel⟩
theorem zX9_alike : jCV yX9_alike cX9_alike 2 (some FieldType.int) := ⟨mok (i := 461) (by decide +kernel) rfl, mok (i := 459) (by decide +kernel) rfl, mok (i := 460) (by decide +kernel) rfl, mok (i := 57) (by decide +kernel) rfl, by decide +kernel⟩
theorem zX9_price : jCV yX9_price cX9_price 2 (some FieldType.int) := ⟨mok (i := 467) (by decide +kernel) rfl, mok (i := 465) (by decide +kernel) rfl, mok (i := 466) (by decide +kernel) rfl, mok (i := 57) (by decide +kernel) rfl, by decide +kernel⟩
theorem zX9_broken : jCV yX9_broken cX9_broken 3 (some FieldType.int) := ⟨mok (i := 479) (by decide +kernel) rfl, mok (i := 477) (by decide +kernel) rfl, mok (i := 478) (by decide +kernel) rfl, mok (i := 57) (by decide +kernel) rfl, by decide +kernel⟩
theorem zX9_forge : jCV yX9_forge cX9_forge 3 (some FieldType.int) := ⟨mok (i := 513) (by decide +kernel) rfl, mok (i := 511) (by decide +kernel) rfl, mok (i := 512) (by decide +kernel) rfl, mok (i := 57) (by decide +kernel) rfl, by decide +kernel⟩
theorem zX9_hide : jCV yX9_hide cX9_hide 3 (some FieldType.int) := ⟨mok (i := 526) (by decide +kernel) rfl, mok (i := 524) (by decide +kernel) rfl, mok (i := 525) (by decide +kernel) rfl, mok (i := 57) (by decide +kernel) rfl, by decide +kernel⟩
theorem zX9_claim : jCV yX9_claim cX9_claim 3 (some FieldType.int) := ⟨mok (i := 530) (by decide +kernel) rfl, mok (i := 528) (by decide +kernel) rfl, mok (i := 529) (by decide +kernel) rfl, mok (i := 57) (by decide +kernel) rfl, by decide +kernel⟩
theorem zX9_guard : jCV yX9_guard cX9_guard 3 (some FieldType.int) := ⟨mok (i := 535) (by decide +kernel) rfl, mok (i := 533) (by decide +kernel) rfl, mok (i := 534) (by decide +kernel) rfl, mok (i := 57) (by decide +kernel) rfl, by decide +kernel⟩
theorem zX9_word : jCV yX9_word cX9_word 2 (some FieldType.int) := ⟨mok (i := 539) (by decide +kernel) rfl, mok (i := 537) (by decide +kernel) rfl, mok (i := 538) (by decide +kernel) rfl, mok (i := 57) (by decide +kernel) rfl, by decide +kernel⟩
theorem zX9_year : jCV yX9_year cX9_year 1 (some FieldType.int) := ⟨mok (i := 548) (by decide +kernel) rfl, mok (i := 546) (by decide +kernel) rfl, mok (i := 547) (by decide +kernel) rfl, mok (i := 57) (by decide +kernel) rfl, by decide +kernel⟩
theorem zX9_undo : jCV yX9_undo cX9_undo 1 (some FieldType.int) := ⟨mok (i := 552) (by decide +kernel) rfl, mok (i := 550) (by decide +kernel) rfl, mok (i := 551) (by decide +kernel) rfl, mok (i := 57) (by decide +kernel) rfl, by decide +kernel⟩
theorem zX9_judge : jCV yX9_judge cX9_judge 7 (some FieldType.int) := ⟨mok (i := 560) (by decide +kernel) rfl, mok (i := 558) (by decide +kernel) rfl, mok (i := 559) (by decide +kernel) rfl, mok (i := 57) (by decide +kernel) rfl, by decide +kernel⟩
theorem zX9_tryAct : jCV yX9_tryAct cX9_tryAct 3 (some FieldType.int) := ⟨mok (i := 483) (by decide +kernel) rfl, mok (i := 482) (by decide +kernel) rfl, mok (i := 2) (by decide +kernel) rfl, mok (i := 57) (by decide +kernel) rfl, by decide +kernel⟩
theorem zX9_campaign : jCV yX9_campaign cX9_campaign 2 (some FieldType.int) := ⟨mok (i := 568) (by decide +kernel) rfl, mok (i := 566) (by decide +kernel) rfl, mok (i := 567) (by decide +kernel) rfl, mok (i := 57) (by decide +kernel) rfl, by decide +kernel⟩
theorem zX9_campaignBy : jCV yX9_campaignBy cX9_campaignBy 3 (some FieldType.int) := ⟨mok (i := 587) (by decide +kernel) rfl, mok (i := 585) (by decide +kernel) rfl, mok (i := 586) (by decide +kernel) rfl, mok (i := 57) (by decide +kernel) rfl, by decide +kernel⟩
theorem zX9_copy : jCV yX9_copy cX9_copy 2 (some FieldType.int) := ⟨mok (i := 591) (by decide +kernel) rfl, mok (i := 589) (by decide +kernel) rfl, mok (i := 590) (by decide +kernel) rfl, mok (i := 57) (by decide +kernel) rfl, by decide +kernel⟩
theorem zX9_bestWord : jCV yX9_bestWord cX9_bestWord 3 (some FieldType.int) := ⟨mok (i := 604) (by decide +kernel) rfl, mok (i := 602) (by decide +kernel) rfl, mok (i := 603) (by decide +kernel) rfl, mok (i := 57) (by decide +kernel) rfl, by decide +kernel⟩
theorem zX9_rests : jCV yX9_rests cX9_rests 2 (some FieldType.int) := ⟨mok (i := 618) (by decide +kernel) rfl, mok (i := 616) (by decide +kernel) rfl, mok (i := 617) (by decide +kernel) rfl, mok (i := 57) (by decide +kernel) rfl, by decide +kernel⟩
theorem zX9_sight : jCV yX9_sight cX9_sight 4 (some FieldType.int) := ⟨mok (i := 683) (by decide +kernel) rfl, mok (i := 681) (by decide +kernel) rfl, mok (i := 682) (by decide +kernel) rfl, mok (i := 57) (by decide +kernel) rfl, by decide +kernel⟩
theorem zX9_unsight : jCV yX9_unsight cX9_unsight 2 (some FieldType.int) := ⟨mok (i := 691) (by decide +kernel) rfl, mok (i := 689) (by decide +kernel) rfl, mok (i := 690) (by decide +kernel) rfl, mok (i := 57) (by decide +kernel) rfl, by decide +kernel⟩
theorem zX9_worlds : jCV yX9_worlds cX9_worlds 2 (some FieldType.int) := ⟨mok (i := 695) (by decide +kernel) rfl, mok (i := 693) (by decide +kernel) rfl, mok (i := 694) (by decide +kernel) rfl, mok (i := 57) (by decide +kernel) rfl, by decide +kernel⟩
theorem zX9_toSeek : jCV yX9_toSeek cX9_toSeek 1 (some FieldType.int) := ⟨mok (i := 724) (by decide +kernel) rfl, mok (i := 722) (by decide +kernel) rfl, mok (i := 723) (by decide +kernel) rfl, mok (i := 57) (by decide +kernel) rfl, by decide +kernel⟩
theorem zX9_byTurns : jCV yX9_byTurns cX9_byTurns 3 (some FieldType.int) := ⟨mok (i := 734) (by decide +kernel) rfl, mok (i := 732) (by decide +kernel) rfl, mok (i := 733) (by decide +kernel) rfl, mok (i := 57) (by decide +kernel) rfl, by decide +kernel⟩
theorem zX9_chance : jCV yX9_chance cX9_chance 4 (some FieldType.int) := ⟨mok (i := 765) (by decide +kernel) rfl, mok (i := 763) (by decide +kernel) rfl, mok (i := 764) (by decide +kernel) rfl, mok (i := 57) (by decide +kernel) rfl, by decide +kernel⟩
theorem zX9_seed : jCV yX9_seed cX9_seed 5 (some FieldType.long) := ⟨mok (i := 782) (by decide +kernel) rfl, mok (i := 780) (by decide +kernel) rfl, mok (i := 781) (by decide +kernel) rfl, mok (i := 57) (by decide +kernel) rfl, by decide +kernel⟩
theorem zX9_years : jCV yX9_years cX9_years 3 (some FieldType.int) := ⟨mok (i := 786) (by decide +kernel) rfl, mok (i := 784) (by decide +kernel) rfl, mok (i := 785) (by decide +kernel) rfl, mok (i := 57) (by decide +kernel) rfl, by decide +kernel⟩
theorem zX9_keep : jCV yX9_keep cX9_keep 3 (some FieldType.int) := ⟨mok (i := 798) (by decide +kernel) rfl, mok (i := 796) (by decide +kernel) rfl, mok (i := 797) (by decide +kernel) rfl, mok (i := 57) (by decide +kernel) rfl, by decide +kernel⟩
theorem zX9_again : jCV yX9_again cX9_again 3 (some FieldType.int) := ⟨mok (i := 806) (by decide +kernel) rfl, mok (i := 804) (by decide +kernel) rfl, mok (i := 805) (by decide +kernel) rfl, mok (i := 57) (by decide +kernel) rfl, by decide +kernel⟩
theorem zX9_count : jCV yX9_count cX9_count 2 (some FieldType.int) := ⟨mok (i := 810) (by decide +kernel) rfl, mok (i := 808) (by decide +kernel) rfl, mok (i := 809) (by decide +kernel) rfl, mok (i := 57) (by decide +kernel) rfl, by decide +kernel⟩
theorem zX9_slotAt : jCV yX9_slotAt cX9_slotAt 2 (some (FieldType.object "LastOfKind$House")) := ⟨mok (i := 802) (by decide +kernel) rfl, mok (i := 801) (by decide +kernel) rfl, mok (i := 17) (by decide +kernel) rfl, mok (i := 57) (by decide +kernel) rfl, by decide +kernel⟩
theorem zX9_holds : jCS yX9_holds cX9_holds 2 (some FieldType.boolean) := ⟨mok (i := 443) (by decide +kernel) rfl, mok (i := 442) (by decide +kernel) rfl, mok (i := 57) (by decide +kernel) rfl, by decide +kernel⟩
theorem zX9_withoutLast : jCS yX9_withoutLast cX9_withoutLast 4 (some FieldType.int) := ⟨mok (i := 563) (by decide +kernel) rfl, mok (i := 562) (by decide +kernel) rfl, mok (i := 57) (by decide +kernel) rfl, by decide +kernel⟩
theorem zX9_at : jCS yX9_at cX9_at 2 (some FieldType.int) := ⟨mok (i := 373) (by decide +kernel) rfl, mok (i := 372) (by decide +kernel) rfl, mok (i := 57) (by decide +kernel) rfl, by decide +kernel⟩
theorem zX9_put : jCS yX9_put cX9_put 3 none := ⟨mok (i := 522) (by decide +kernel) rfl, mok (i := 521) (by decide +kernel) rfl, mok (i := 57) (by decide +kernel) rfl, by decide +kernel⟩
theorem zX10_in : jCS yX10_in cX10_in 6 (some FieldType.boolean) := ⟨mok (i := 895) (by decide +kernel) rfl, mok (i := 894) (by decide +kernel) rfl, mok (i := 67) (by decide +kernel) rfl, by decide +kernel⟩
theorem zX10_has : jCS yX10_has cX10_has 2 (some FieldType.boolean) := ⟨mok (i := 978) (by decide +kernel) rfl, mok (i := 977) (by decide +kernel) rfl, mok (i := 67) (by decide +kernel) rfl, by decide +kernel⟩
theorem zX10_ones : jCS yX10_ones cX10_ones 3 (some FieldType.int) := ⟨mok (i := 989) (by decide +kernel) rfl, mok (i := 988) (by decide +kernel) rfl, mok (i := 67) (by decide +kernel) rfl, by decide +kernel⟩
theorem zX10_write : jCV yX10_write cX10_write 2 (some FieldType.int) := ⟨mok (i := 891) (by decide +kernel) rfl, mok (i := 889) (by decide +kernel) rfl, mok (i := 890) (by decide +kernel) rfl, mok (i := 67) (by decide +kernel) rfl, by decide +kernel⟩
theorem zX10_wipe : jCV yX10_wipe cX10_wipe 2 (some FieldType.int) := ⟨mok (i := 899) (by decide +kernel) rfl, mok (i := 897) (by decide +kernel) rfl, mok (i := 898) (by decide +kernel) rfl, mok (i := 67) (by decide +kernel) rfl, by decide +kernel⟩
theorem zX10_fits : jCV yX10_fits cX10_fits 3 (some FieldType.boolean) := ⟨mok (i := 907) (by decide +kernel) rfl, mok (i := 906) (by decide +kernel) rfl, mok (i := 18) (by decide +kernel) rfl, mok (i := 67) (by decide +kernel) rfl, by decide +kernel⟩
theorem zX10_fault : jCV yX10_fault cX10_fault 2 (some FieldType.int) := ⟨mok (i := 903) (by decide +kernel) rfl, mok (i := 901) (by decide +kernel) rfl, mok (i := 902) (by decide +kernel) rfl, mok (i := 67) (by decide +kernel) rfl, by decide +kernel⟩
theorem zX10_figure : jCV yX10_figure cX10_figure 2 (some FieldType.int) := ⟨mok (i := 921) (by decide +kernel) rfl, mok (i := 920) (by decide +kernel) rfl, mok (i := 19) (by decide +kernel) rfl, mok (i := 67) (by decide +kernel) rfl, by decide +kernel⟩
theorem zX10_code : jCS yX10_code cX10_code 5 (some FieldType.int) := ⟨mok (i := 924) (by decide +kernel) rfl, mok (i := 923) (by decide +kernel) rfl, mok (i := 67) (by decide +kernel) rfl, by decide +kernel⟩
theorem zX10_house : jCV yX10_house cX10_house 5 (some FieldType.int) := ⟨mok (i := 916) (by decide +kernel) rfl, mok (i := 914) (by decide +kernel) rfl, mok (i := 915) (by decide +kernel) rfl, mok (i := 67) (by decide +kernel) rfl, by decide +kernel⟩
theorem zX10_many : jCV yX10_many cX10_many 1 (some FieldType.int) := ⟨mok (i := 975) (by decide +kernel) rfl, mok (i := 974) (by decide +kernel) rfl, mok (i := 30) (by decide +kernel) rfl, mok (i := 67) (by decide +kernel) rfl, by decide +kernel⟩
theorem zX10_isThing : jCV yX10_isThing cX10_isThing 2 (some FieldType.boolean) := ⟨mok (i := 932) (by decide +kernel) rfl, mok (i := 931) (by decide +kernel) rfl, mok (i := 20) (by decide +kernel) rfl, mok (i := 67) (by decide +kernel) rfl, by decide +kernel⟩
theorem zX10_guardOf : jCV yX10_guardOf cX10_guardOf 2 (some FieldType.int) := ⟨mok (i := 959) (by decide +kernel) rfl, mok (i := 958) (by decide +kernel) rfl, mok (i := 26) (by decide +kernel) rfl, mok (i := 67) (by decide +kernel) rfl, by decide +kernel⟩
theorem zX10_costOf : jCV yX10_costOf cX10_costOf 2 (some FieldType.int) := ⟨mok (i := 955) (by decide +kernel) rfl, mok (i := 954) (by decide +kernel) rfl, mok (i := 25) (by decide +kernel) rfl, mok (i := 67) (by decide +kernel) rfl, by decide +kernel⟩
theorem zX10_worthOf : jCV yX10_worthOf cX10_worthOf 2 (some FieldType.int) := ⟨mok (i := 951) (by decide +kernel) rfl, mok (i := 950) (by decide +kernel) rfl, mok (i := 24) (by decide +kernel) rfl, mok (i := 67) (by decide +kernel) rfl, by decide +kernel⟩
theorem zX10_ownerOf : jCV yX10_ownerOf cX10_ownerOf 2 (some FieldType.int) := ⟨mok (i := 947) (by decide +kernel) rfl, mok (i := 946) (by decide +kernel) rfl, mok (i := 23) (by decide +kernel) rfl, mok (i := 67) (by decide +kernel) rfl, by decide +kernel⟩
theorem zX10_marksOf : jCV yX10_marksOf cX10_marksOf 2 (some FieldType.int) := ⟨mok (i := 940) (by decide +kernel) rfl, mok (i := 939) (by decide +kernel) rfl, mok (i := 22) (by decide +kernel) rfl, mok (i := 67) (by decide +kernel) rfl, by decide +kernel⟩
theorem zX10_tenTo : jCS yX10_tenTo cX10_tenTo 3 (some FieldType.int) := ⟨mok (i := 943) (by decide +kernel) rfl, mok (i := 942) (by decide +kernel) rfl, mok (i := 67) (by decide +kernel) rfl, by decide +kernel⟩
theorem zX10_markOf : jCV yX10_markOf cX10_markOf 3 (some FieldType.int) := ⟨mok (i := 936) (by decide +kernel) rfl, mok (i := 935) (by decide +kernel) rfl, mok (i := 21) (by decide +kernel) rfl, mok (i := 67) (by decide +kernel) rfl, by decide +kernel⟩
theorem zX10_same : jCV yX10_same cX10_same 5 (some FieldType.int) := ⟨mok (i := 986) (by decide +kernel) rfl, mok (i := 985) (by decide +kernel) rfl, mok (i := 32) (by decide +kernel) rfl, mok (i := 67) (by decide +kernel) rfl, by decide +kernel⟩
theorem zX10_alikeOf : jCV yX10_alikeOf cX10_alikeOf 6 (some FieldType.int) := ⟨mok (i := 982) (by decide +kernel) rfl, mok (i := 981) (by decide +kernel) rfl, mok (i := 31) (by decide +kernel) rfl, mok (i := 67) (by decide +kernel) rfl, by decide +kernel⟩
theorem zX10_shown : jCV yX10_shown cX10_shown 3 (some FieldType.int) := ⟨mok (i := 967) (by decide +kernel) rfl, mok (i := 966) (by decide +kernel) rfl, mok (i := 28) (by decide +kernel) rfl, mok (i := 67) (by decide +kernel) rfl, by decide +kernel⟩
theorem zX10_lastOf : jCV yX10_lastOf cX10_lastOf 5 (some FieldType.int) := ⟨mok (i := 971) (by decide +kernel) rfl, mok (i := 970) (by decide +kernel) rfl, mok (i := 29) (by decide +kernel) rfl, mok (i := 67) (by decide +kernel) rfl, by decide +kernel⟩
theorem zX10_last : jCV yX10_last cX10_last 1 (some FieldType.int) := ⟨mok (i := 963) (by decide +kernel) rfl, mok (i := 962) (by decide +kernel) rfl, mok (i := 27) (by decide +kernel) rfl, mok (i := 67) (by decide +kernel) rfl, by decide +kernel⟩
theorem zX10_thing : jCV yX10_thing cX10_thing 3 (some FieldType.int) := ⟨mok (i := 928) (by decide +kernel) rfl, mok (i := 926) (by decide +kernel) rfl, mok (i := 927) (by decide +kernel) rfl, mok (i := 67) (by decide +kernel) rfl, by decide +kernel⟩
theorem zX10_alike : jCV yX10_alike cX10_alike 2 (some FieldType.int) := ⟨mok (i := 993) (by decide +kernel) rfl, mok (i := 991) (by decide +kernel) rfl, mok (i := 992) (by decide +kernel) rfl, mok (i := 67) (by decide +kernel) rfl, by decide +kernel⟩
theorem zX10_priceBy : jCV yX10_priceBy cX10_priceBy 3 (some FieldType.int) := ⟨mok (i := 1001) (by decide +kernel) rfl, mok (i := 1000) (by decide +kernel) rfl, mok (i := 33) (by decide +kernel) rfl, mok (i := 67) (by decide +kernel) rfl, by decide +kernel⟩
theorem zX10_price : jCV yX10_price cX10_price 2 (some FieldType.int) := ⟨mok (i := 997) (by decide +kernel) rfl, mok (i := 995) (by decide +kernel) rfl, mok (i := 996) (by decide +kernel) rfl, mok (i := 67) (by decide +kernel) rfl, by decide +kernel⟩
theorem zX10_keepAct : jCV yX10_keepAct cX10_keepAct 2 none := ⟨mok (i := 1017) (by decide +kernel) rfl, mok (i := 1016) (by decide +kernel) rfl, mok (i := 36) (by decide +kernel) rfl, mok (i := 67) (by decide +kernel) rfl, by decide +kernel⟩
theorem zX10_guardAt : jCV yX10_guardAt cX10_guardAt 3 (some FieldType.int) := ⟨mok (i := 1013) (by decide +kernel) rfl, mok (i := 1012) (by decide +kernel) rfl, mok (i := 35) (by decide +kernel) rfl, mok (i := 67) (by decide +kernel) rfl, by decide +kernel⟩
theorem zX10_canBreak : jCV yX10_canBreak cX10_canBreak 4 (some FieldType.boolean) := ⟨mok (i := 1009) (by decide +kernel) rfl, mok (i := 1008) (by decide +kernel) rfl, mok (i := 34) (by decide +kernel) rfl, mok (i := 67) (by decide +kernel) rfl, by decide +kernel⟩
theorem zX10_canClaim : jCV yX10_canClaim cX10_canClaim 4 (some FieldType.boolean) := ⟨mok (i := 1047) (by decide +kernel) rfl, mok (i := 1046) (by decide +kernel) rfl, mok (i := 40) (by decide +kernel) rfl, mok (i := 67) (by decide +kernel) rfl, by decide +kernel⟩
theorem zX10_canHide : jCV yX10_canHide cX10_canHide 4 (some FieldType.boolean) := ⟨mok (i := 1035) (by decide +kernel) rfl, mok (i := 1034) (by decide +kernel) rfl, mok (i := 38) (by decide +kernel) rfl, mok (i := 67) (by decide +kernel) rfl, by decide +kernel⟩
theorem zX10_free : jCV yX10_free cX10_free 4 none := ⟨mok (i := 1027) (by decide +kernel) rfl, mok (i := 1026) (by decide +kernel) rfl, mok (i := 37) (by decide +kernel) rfl, mok (i := 67) (by decide +kernel) rfl, by decide +kernel⟩
theorem zX10_doHide : jCV yX10_doHide cX10_doHide 3 none := ⟨mok (i := 1039) (by decide +kernel) rfl, mok (i := 1038) (by decide +kernel) rfl, mok (i := 39) (by decide +kernel) rfl, mok (i := 67) (by decide +kernel) rfl, by decide +kernel⟩
theorem zX10_doGuard : jCV yX10_doGuard cX10_doGuard 3 none := ⟨mok (i := 1055) (by decide +kernel) rfl, mok (i := 1054) (by decide +kernel) rfl, mok (i := 41) (by decide +kernel) rfl, mok (i := 67) (by decide +kernel) rfl, by decide +kernel⟩
theorem zX10_broken : jCV yX10_broken cX10_broken 2 (some FieldType.int) := ⟨mok (i := 1005) (by decide +kernel) rfl, mok (i := 1003) (by decide +kernel) rfl, mok (i := 1004) (by decide +kernel) rfl, mok (i := 67) (by decide +kernel) rfl, by decide +kernel⟩
theorem zX10_forge : jCV yX10_forge cX10_forge 4 (some FieldType.int) := ⟨mok (i := 1021) (by decide +kernel) rfl, mok (i := 1019) (by decide +kernel) rfl, mok (i := 1020) (by decide +kernel) rfl, mok (i := 67) (by decide +kernel) rfl, by decide +kernel⟩
theorem zX10_hide : jCV yX10_hide cX10_hide 2 (some FieldType.int) := ⟨mok (i := 1031) (by decide +kernel) rfl, mok (i := 1029) (by decide +kernel) rfl, mok (i := 1030) (by decide +kernel) rfl, mok (i := 67) (by decide +kernel) rfl, by decide +kernel⟩
theorem zX10_claim : jCV yX10_claim cX10_claim 2 (some FieldType.int) := ⟨mok (i := 1043) (by decide +kernel) rfl, mok (i := 1041) (by decide +kernel) rfl, mok (i := 1042) (by decide +kernel) rfl, mok (i := 67) (by decide +kernel) rfl, by decide +kernel⟩
theorem zX10_guard : jCV yX10_guard cX10_guard 2 (some FieldType.int) := ⟨mok (i := 1051) (by decide +kernel) rfl, mok (i := 1049) (by decide +kernel) rfl, mok (i := 1050) (by decide +kernel) rfl, mok (i := 67) (by decide +kernel) rfl, by decide +kernel⟩
theorem zX10_word : jCV yX10_word cX10_word 3 (some FieldType.int) := ⟨mok (i := 1059) (by decide +kernel) rfl, mok (i := 1057) (by decide +kernel) rfl, mok (i := 1058) (by decide +kernel) rfl, mok (i := 67) (by decide +kernel) rfl, by decide +kernel⟩
theorem zX10_year : jCV yX10_year cX10_year 1 (some FieldType.int) := ⟨mok (i := 1064) (by decide +kernel) rfl, mok (i := 1062) (by decide +kernel) rfl, mok (i := 1063) (by decide +kernel) rfl, mok (i := 67) (by decide +kernel) rfl, by decide +kernel⟩
theorem zX10_undo : jCV yX10_undo cX10_undo 2 (some FieldType.int) := ⟨mok (i := 1068) (by decide +kernel) rfl, mok (i := 1066) (by decide +kernel) rfl, mok (i := 1067) (by decide +kernel) rfl, mok (i := 67) (by decide +kernel) rfl, by decide +kernel⟩
theorem zX10_can : jCV yX10_can cX10_can 3 (some FieldType.boolean) := ⟨mok (i := 1076) (by decide +kernel) rfl, mok (i := 1075) (by decide +kernel) rfl, mok (i := 42) (by decide +kernel) rfl, mok (i := 67) (by decide +kernel) rfl, by decide +kernel⟩
theorem zX10_make : jCV yX10_make cX10_make 3 none := ⟨mok (i := 1080) (by decide +kernel) rfl, mok (i := 1079) (by decide +kernel) rfl, mok (i := 43) (by decide +kernel) rfl, mok (i := 67) (by decide +kernel) rfl, by decide +kernel⟩
theorem zX10_judge : jCV yX10_judge cX10_judge 6 (some FieldType.int) := ⟨mok (i := 1072) (by decide +kernel) rfl, mok (i := 1070) (by decide +kernel) rfl, mok (i := 1071) (by decide +kernel) rfl, mok (i := 67) (by decide +kernel) rfl, by decide +kernel⟩
theorem zX10_apart : jCS yX10_apart cX10_apart 2 (some FieldType.int) := ⟨mok (i := 1095) (by decide +kernel) rfl, mok (i := 1094) (by decide +kernel) rfl, mok (i := 67) (by decide +kernel) rfl, by decide +kernel⟩
theorem zX10_costBy : jCV yX10_costBy cX10_costBy 6 (some FieldType.int) := ⟨mok (i := 1092) (by decide +kernel) rfl, mok (i := 1091) (by decide +kernel) rfl, mok (i := 45) (by decide +kernel) rfl, mok (i := 67) (by decide +kernel) rfl, by decide +kernel⟩
theorem zX10_campaignWord : jCV yX10_campaignWord cX10_campaignWord 5 (some FieldType.int) := ⟨mok (i := 1088) (by decide +kernel) rfl, mok (i := 1087) (by decide +kernel) rfl, mok (i := 44) (by decide +kernel) rfl, mok (i := 67) (by decide +kernel) rfl, by decide +kernel⟩
theorem zX10_campaign : jCV yX10_campaign cX10_campaign 3 (some FieldType.int) := ⟨mok (i := 1084) (by decide +kernel) rfl, mok (i := 1082) (by decide +kernel) rfl, mok (i := 1083) (by decide +kernel) rfl, mok (i := 67) (by decide +kernel) rfl, by decide +kernel⟩
theorem zX10_campaignBy : jCV yX10_campaignBy cX10_campaignBy 4 (some FieldType.int) := ⟨mok (i := 1099) (by decide +kernel) rfl, mok (i := 1097) (by decide +kernel) rfl, mok (i := 1098) (by decide +kernel) rfl, mok (i := 67) (by decide +kernel) rfl, by decide +kernel⟩
theorem zX10_copy : jCV yX10_copy cX10_copy 6 (some FieldType.int) := ⟨mok (i := 1103) (by decide +kernel) rfl, mok (i := 1101) (by decide +kernel) rfl, mok (i := 1102) (by decide +kernel) rfl, mok (i := 67) (by decide +kernel) rfl, by decide +kernel⟩
theorem zX10_bestWord : jCV yX10_bestWord cX10_bestWord 5 (some FieldType.int) := ⟨mok (i := 1107) (by decide +kernel) rfl, mok (i := 1105) (by decide +kernel) rfl, mok (i := 1106) (by decide +kernel) rfl, mok (i := 67) (by decide +kernel) rfl, by decide +kernel⟩
theorem zX10_may : jCV yX10_may cX10_may 4 (some FieldType.boolean) := ⟨mok (i := 1119) (by decide +kernel) rfl, mok (i := 1118) (by decide +kernel) rfl, mok (i := 47) (by decide +kernel) rfl, mok (i := 67) (by decide +kernel) rfl, by decide +kernel⟩
theorem zX10_has3 : jCV yX10_has3 cX10_has3 9 (some FieldType.int) := ⟨mok (i := 1123) (by decide +kernel) rfl, mok (i := 1122) (by decide +kernel) rfl, mok (i := 48) (by decide +kernel) rfl, mok (i := 67) (by decide +kernel) rfl, by decide +kernel⟩
theorem zX10_rest : jCV yX10_rest cX10_rest 6 (some FieldType.boolean) := ⟨mok (i := 1115) (by decide +kernel) rfl, mok (i := 1114) (by decide +kernel) rfl, mok (i := 46) (by decide +kernel) rfl, mok (i := 67) (by decide +kernel) rfl, by decide +kernel⟩
theorem zX10_rests : jCV yX10_rests cX10_rests 6 (some FieldType.int) := ⟨mok (i := 1111) (by decide +kernel) rfl, mok (i := 1109) (by decide +kernel) rfl, mok (i := 1110) (by decide +kernel) rfl, mok (i := 67) (by decide +kernel) rfl, by decide +kernel⟩
theorem zX10_sight : jCV yX10_sight cX10_sight 4 (some FieldType.int) := ⟨mok (i := 1127) (by decide +kernel) rfl, mok (i := 1125) (by decide +kernel) rfl, mok (i := 1126) (by decide +kernel) rfl, mok (i := 67) (by decide +kernel) rfl, by decide +kernel⟩
theorem zX10_unsight : jCV yX10_unsight cX10_unsight 2 (some FieldType.int) := ⟨mok (i := 1132) (by decide +kernel) rfl, mok (i := 1130) (by decide +kernel) rfl, mok (i := 1131) (by decide +kernel) rfl, mok (i := 67) (by decide +kernel) rfl, by decide +kernel⟩
theorem zX10_hiddenThere : jCV yX10_hiddenThere cX10_hiddenThere 1 (some FieldType.int) := ⟨mok (i := 1144) (by decide +kernel) rfl, mok (i := 1143) (by decide +kernel) rfl, mok (i := 50) (by decide +kernel) rfl, mok (i := 67) (by decide +kernel) rfl, by decide +kernel⟩
theorem zX10_isSighted : jCV yX10_isSighted cX10_isSighted 6 (some FieldType.boolean) := ⟨mok (i := 1148) (by decide +kernel) rfl, mok (i := 1147) (by decide +kernel) rfl, mok (i := 51) (by decide +kernel) rfl, mok (i := 67) (by decide +kernel) rfl, by decide +kernel⟩
theorem zX10_layWorlds : jCV yX10_layWorlds cX10_layWorlds 4 none := ⟨mok (i := 1140) (by decide +kernel) rfl, mok (i := 1139) (by decide +kernel) rfl, mok (i := 49) (by decide +kernel) rfl, mok (i := 67) (by decide +kernel) rfl, by decide +kernel⟩
theorem zX10_worlds : jCV yX10_worlds cX10_worlds 2 (some FieldType.int) := ⟨mok (i := 1136) (by decide +kernel) rfl, mok (i := 1134) (by decide +kernel) rfl, mok (i := 1135) (by decide +kernel) rfl, mok (i := 67) (by decide +kernel) rfl, by decide +kernel⟩
theorem zX10_toSeek : jCV yX10_toSeek cX10_toSeek 6 (some FieldType.int) := ⟨mok (i := 1152) (by decide +kernel) rfl, mok (i := 1150) (by decide +kernel) rfl, mok (i := 1151) (by decide +kernel) rfl, mok (i := 67) (by decide +kernel) rfl, by decide +kernel⟩
theorem zX10_canMove : jCV yX10_canMove cX10_canMove 5 (some FieldType.boolean) := ⟨mok (i := 1165) (by decide +kernel) rfl, mok (i := 1164) (by decide +kernel) rfl, mok (i := 53) (by decide +kernel) rfl, mok (i := 67) (by decide +kernel) rfl, by decide +kernel⟩
theorem zX10_begin : jCV yX10_begin cX10_begin 4 none := ⟨mok (i := 1160) (by decide +kernel) rfl, mok (i := 1159) (by decide +kernel) rfl, mok (i := 52) (by decide +kernel) rfl, mok (i := 67) (by decide +kernel) rfl, by decide +kernel⟩
theorem zX10_go : jCV yX10_go cX10_go 6 none := ⟨mok (i := 1169) (by decide +kernel) rfl, mok (i := 1168) (by decide +kernel) rfl, mok (i := 54) (by decide +kernel) rfl, mok (i := 67) (by decide +kernel) rfl, by decide +kernel⟩
theorem zX10_byTurns : jCV yX10_byTurns cX10_byTurns 7 (some FieldType.int) := ⟨mok (i := 1156) (by decide +kernel) rfl, mok (i := 1154) (by decide +kernel) rfl, mok (i := 1155) (by decide +kernel) rfl, mok (i := 67) (by decide +kernel) rfl, by decide +kernel⟩
theorem zX10_common : jCS yX10_common cX10_common 5 (some FieldType.int) := ⟨mok (i := 1181) (by decide +kernel) rfl, mok (i := 1180) (by decide +kernel) rfl, mok (i := 67) (by decide +kernel) rfl, by decide +kernel⟩
theorem zX10_frail : jCV yX10_frail cX10_frail 4 (some FieldType.int) := ⟨mok (i := 1178) (by decide +kernel) rfl, mok (i := 1177) (by decide +kernel) rfl, mok (i := 55) (by decide +kernel) rfl, mok (i := 67) (by decide +kernel) rfl, by decide +kernel⟩
theorem zX10_chance : jCV yX10_chance cX10_chance 10 (some FieldType.int) := ⟨mok (i := 1173) (by decide +kernel) rfl, mok (i := 1171) (by decide +kernel) rfl, mok (i := 1172) (by decide +kernel) rfl, mok (i := 67) (by decide +kernel) rfl, by decide +kernel⟩
theorem zX10_seed : jCV yX10_seed cX10_seed 5 (some FieldType.long) := ⟨mok (i := 1185) (by decide +kernel) rfl, mok (i := 1183) (by decide +kernel) rfl, mok (i := 1184) (by decide +kernel) rfl, mok (i := 67) (by decide +kernel) rfl, by decide +kernel⟩
theorem zX10_years : jCV yX10_years cX10_years 6 (some FieldType.int) := ⟨mok (i := 1189) (by decide +kernel) rfl, mok (i := 1187) (by decide +kernel) rfl, mok (i := 1188) (by decide +kernel) rfl, mok (i := 67) (by decide +kernel) rfl, by decide +kernel⟩
theorem zX10_keep : jCV yX10_keep cX10_keep 3 (some FieldType.int) := ⟨mok (i := 1196) (by decide +kernel) rfl, mok (i := 1194) (by decide +kernel) rfl, mok (i := 1195) (by decide +kernel) rfl, mok (i := 67) (by decide +kernel) rfl, by decide +kernel⟩
theorem zX10_again : jCV yX10_again cX10_again 3 (some FieldType.int) := ⟨mok (i := 1200) (by decide +kernel) rfl, mok (i := 1198) (by decide +kernel) rfl, mok (i := 1199) (by decide +kernel) rfl, mok (i := 67) (by decide +kernel) rfl, by decide +kernel⟩
theorem zX10_count : jCV yX10_count cX10_count 2 (some FieldType.int) := ⟨mok (i := 1204) (by decide +kernel) rfl, mok (i := 1202) (by decide +kernel) rfl, mok (i := 1203) (by decide +kernel) rfl, mok (i := 67) (by decide +kernel) rfl, by decide +kernel⟩
theorem qX9_9 : Cond.methodLink RX9 9 yX8_init ∈ lw_ok := mok (i := 80) (by decide +kernel) rfl
theorem qX8_9 : Cond.fieldLink RX8 9 "LastOfKind$Text" "letters" "[I" ∈ lw_ok := mok (i := 84) (by decide +kernel) rfl
theorem qX8_15 : Cond.fieldLink RX8 15 "LastOfKind$Text" "length" "I" ∈ lw_ok := mok (i := 85) (by decide +kernel) rfl
theorem qX9_76 : Cond.fieldLink RX9 76 "LastOfKind$Text" "length" "I" ∈ lw_ok := mok (i := 86) (by decide +kernel) rfl
theorem qX9_18 : Cond.methodLink RX9 18 yX2_init ∈ lw_ok := mok (i := 95) (by decide +kernel) rfl
theorem qX2_9 : Cond.fieldLink RX2 9 "LastOfKind$House" "tags" "[I" ∈ lw_ok := mok (i := 99) (by decide +kernel) rfl
theorem qX2_23 : Cond.fieldLink RX2 23 "LastOfKind$House" "size" "I" ∈ lw_ok := mok (i := 100) (by decide +kernel) rfl
theorem qX7_54 : Cond.fieldLink RX7 54 "LastOfKind$House" "size" "I" ∈ lw_ok := mok (i := 101) (by decide +kernel) rfl
theorem qX4_57 : Cond.fieldLink RX4 57 "LastOfKind$House" "size" "I" ∈ lw_ok := mok (i := 102) (by decide +kernel) rfl
theorem qX9_94 : Cond.fieldLink RX9 94 "LastOfKind$House" "size" "I" ∈ lw_ok := mok (i := 103) (by decide +kernel) rfl
theorem qX2_15 : Cond.fieldLink RX2 15 "LastOfKind$House" "word" "I" ∈ lw_ok := mok (i := 104) (by decide +kernel) rfl
theorem qX0_18 : Cond.fieldLink RX0 18 "LastOfKind$House" "word" "I" ∈ lw_ok := mok (i := 105) (by decide +kernel) rfl
theorem qX1_27 : Cond.fieldLink RX1 27 "LastOfKind$House" "word" "I" ∈ lw_ok := mok (i := 106) (by decide +kernel) rfl
theorem qX5_34 : Cond.fieldLink RX5 34 "LastOfKind$House" "word" "I" ∈ lw_ok := mok (i := 107) (by decide +kernel) rfl
theorem qX7_78 : Cond.fieldLink RX7 78 "LastOfKind$House" "word" "I" ∈ lw_ok := mok (i := 108) (by decide +kernel) rfl
theorem qX9_119 : Cond.fieldLink RX9 119 "LastOfKind$House" "word" "I" ∈ lw_ok := mok (i := 109) (by decide +kernel) rfl
theorem qX2_26 : Cond.fieldLink RX2 26 "LastOfKind$House" "year" "I" ∈ lw_ok := mok (i := 110) (by decide +kernel) rfl
theorem qX9_151 : Cond.fieldLink RX9 151 "LastOfKind$House" "year" "I" ∈ lw_ok := mok (i := 111) (by decide +kernel) rfl
theorem qX3_36 : Cond.fieldLink RX3 36 "LastOfKind$House" "guarded" "I" ∈ lw_ok := mok (i := 112) (by decide +kernel) rfl
theorem qX2_29 : Cond.fieldLink RX2 29 "LastOfKind$House" "guarded" "I" ∈ lw_ok := mok (i := 113) (by decide +kernel) rfl
theorem qX5_70 : Cond.fieldLink RX5 70 "LastOfKind$House" "guarded" "I" ∈ lw_ok := mok (i := 114) (by decide +kernel) rfl
theorem qX9_104 : Cond.fieldLink RX9 104 "LastOfKind$House" "guarded" "I" ∈ lw_ok := mok (i := 115) (by decide +kernel) rfl
theorem qX3_40 : Cond.fieldLink RX3 40 "LastOfKind$House" "broken" "I" ∈ lw_ok := mok (i := 116) (by decide +kernel) rfl
theorem qX2_32 : Cond.fieldLink RX2 32 "LastOfKind$House" "broken" "I" ∈ lw_ok := mok (i := 117) (by decide +kernel) rfl
theorem qX9_107 : Cond.fieldLink RX9 107 "LastOfKind$House" "broken" "I" ∈ lw_ok := mok (i := 118) (by decide +kernel) rfl
theorem qX3_32 : Cond.fieldLink RX3 32 "LastOfKind$House" "hidden" "I" ∈ lw_ok := mok (i := 119) (by decide +kernel) rfl
theorem qX2_35 : Cond.fieldLink RX2 35 "LastOfKind$House" "hidden" "I" ∈ lw_ok := mok (i := 120) (by decide +kernel) rfl
theorem qX9_110 : Cond.fieldLink RX9 110 "LastOfKind$House" "hidden" "I" ∈ lw_ok := mok (i := 121) (by decide +kernel) rfl
theorem qX5_31 : Cond.fieldLink RX5 31 "LastOfKind$House" "claimed" "I" ∈ lw_ok := mok (i := 122) (by decide +kernel) rfl
theorem qX3_43 : Cond.fieldLink RX3 43 "LastOfKind$House" "claimed" "I" ∈ lw_ok := mok (i := 123) (by decide +kernel) rfl
theorem qX2_38 : Cond.fieldLink RX2 38 "LastOfKind$House" "claimed" "I" ∈ lw_ok := mok (i := 124) (by decide +kernel) rfl
theorem qX9_113 : Cond.fieldLink RX9 113 "LastOfKind$House" "claimed" "I" ∈ lw_ok := mok (i := 125) (by decide +kernel) rfl
theorem qX9_28 : Cond.methodLink RX9 28 yX6_init ∈ lw_ok := mok (i := 145) (by decide +kernel) rfl
theorem qX6_17 : Cond.methodLink RX6 17 yX2_init ∈ lw_ok := mok (i := 151) (by decide +kernel) rfl
theorem qX6_11 : Cond.fieldLink RX6 11 "LastOfKind$Row" "before" "[LLastOfKind$House;" ∈ lw_ok := mok (i := 152) (by decide +kernel) rfl
theorem qX6_22 : Cond.fieldLink RX6 22 "LastOfKind$Row" "next" "I" ∈ lw_ok := mok (i := 153) (by decide +kernel) rfl
theorem qX6_18 : Cond.fieldLink RX6 18 "LastOfKind$Row" "length" "I" ∈ lw_ok := mok (i := 154) (by decide +kernel) rfl
theorem qX9_158 : Cond.fieldLink RX9 158 "LastOfKind$Row" "length" "I" ∈ lw_ok := mok (i := 155) (by decide +kernel) rfl
theorem qX9_39 : Cond.methodLink RX9 39 yX5_init ∈ lw_ok := mok (i := 165) (by decide +kernel) rfl
theorem qX5_9 : Cond.fieldLink RX5 9 "LastOfKind$Plans" "cost" "I" ∈ lw_ok := mok (i := 169) (by decide +kernel) rfl
theorem qX9_180 : Cond.fieldLink RX9 180 "LastOfKind$Plans" "cost" "I" ∈ lw_ok := mok (i := 170) (by decide +kernel) rfl
theorem qX5_15 : Cond.fieldLink RX5 15 "LastOfKind$Plans" "wordThen" "I" ∈ lw_ok := mok (i := 171) (by decide +kernel) rfl
theorem qX9_183 : Cond.fieldLink RX9 183 "LastOfKind$Plans" "wordThen" "I" ∈ lw_ok := mok (i := 172) (by decide +kernel) rfl
theorem qX5_18 : Cond.fieldLink RX5 18 "LastOfKind$Plans" "toBreak" "I" ∈ lw_ok := mok (i := 173) (by decide +kernel) rfl
theorem qX9_186 : Cond.fieldLink RX9 186 "LastOfKind$Plans" "toBreak" "I" ∈ lw_ok := mok (i := 174) (by decide +kernel) rfl
theorem qX9_46 : Cond.methodLink RX9 46 yX4_init ∈ lw_ok := mok (i := 184) (by decide +kernel) rfl
theorem qX4_11 : Cond.methodLink RX4 11 yX1_init ∈ lw_ok := mok (i := 190) (by decide +kernel) rfl
theorem qX1_9 : Cond.fieldLink RX1 9 "LastOfKind$Goods" "near" "[I" ∈ lw_ok := mok (i := 194) (by decide +kernel) rfl
theorem qX1_15 : Cond.fieldLink RX1 15 "LastOfKind$Goods" "worths" "[I" ∈ lw_ok := mok (i := 195) (by decide +kernel) rfl
theorem qX1_18 : Cond.fieldLink RX1 18 "LastOfKind$Goods" "costs" "[I" ∈ lw_ok := mok (i := 196) (by decide +kernel) rfl
theorem qX4_12 : Cond.fieldLink RX4 12 "LastOfKind$Owners" "goods" "LLastOfKind$Goods;" ∈ lw_ok := mok (i := 206) (by decide +kernel) rfl
theorem qX4_18 : Cond.fieldLink RX4 18 "LastOfKind$Owners" "choosable" "[I" ∈ lw_ok := mok (i := 207) (by decide +kernel) rfl
theorem qX4_24 : Cond.fieldLink RX4 24 "LastOfKind$Owners" "prices" "[[I" ∈ lw_ok := mok (i := 208) (by decide +kernel) rfl
theorem qX4_27 : Cond.fieldLink RX4 27 "LastOfKind$Owners" "best" "[[I" ∈ lw_ok := mok (i := 209) (by decide +kernel) rfl
theorem qX4_41 : Cond.fieldLink RX4 41 "LastOfKind$Owners" "firstResting" "I" ∈ lw_ok := mok (i := 210) (by decide +kernel) rfl
theorem qX4_37 : Cond.fieldLink RX4 37 "LastOfKind$Owners" "resting" "I" ∈ lw_ok := mok (i := 211) (by decide +kernel) rfl
theorem qX9_203 : Cond.fieldLink RX9 203 "LastOfKind$Owners" "resting" "I" ∈ lw_ok := mok (i := 212) (by decide +kernel) rfl
theorem qX9_53 : Cond.methodLink RX9 53 yX7_init ∈ lw_ok := mok (i := 228) (by decide +kernel) rfl
theorem qX7_9 : Cond.fieldLink RX7 9 "LastOfKind$Sightings" "things" "[I" ∈ lw_ok := mok (i := 232) (by decide +kernel) rfl
theorem qX7_15 : Cond.fieldLink RX7 15 "LastOfKind$Sightings" "bounds" "[I" ∈ lw_ok := mok (i := 233) (by decide +kernel) rfl
theorem qX7_18 : Cond.fieldLink RX7 18 "LastOfKind$Sightings" "lower" "[Z" ∈ lw_ok := mok (i := 234) (by decide +kernel) rfl
theorem qX7_22 : Cond.fieldLink RX7 22 "LastOfKind$Sightings" "looked" "[I" ∈ lw_ok := mok (i := 235) (by decide +kernel) rfl
theorem qX7_25 : Cond.fieldLink RX7 25 "LastOfKind$Sightings" "worldsWith" "[I" ∈ lw_ok := mok (i := 236) (by decide +kernel) rfl
theorem qX7_28 : Cond.fieldLink RX7 28 "LastOfKind$Sightings" "length" "I" ∈ lw_ok := mok (i := 237) (by decide +kernel) rfl
theorem qX9_212 : Cond.fieldLink RX9 212 "LastOfKind$Sightings" "length" "I" ∈ lw_ok := mok (i := 238) (by decide +kernel) rfl
theorem qX7_42 : Cond.fieldLink RX7 42 "LastOfKind$Sightings" "total" "I" ∈ lw_ok := mok (i := 239) (by decide +kernel) rfl
theorem qX9_216 : Cond.fieldLink RX9 216 "LastOfKind$Sightings" "total" "I" ∈ lw_ok := mok (i := 240) (by decide +kernel) rfl
theorem qX7_45 : Cond.fieldLink RX7 45 "LastOfKind$Sightings" "inAll" "I" ∈ lw_ok := mok (i := 241) (by decide +kernel) rfl
theorem qX9_219 : Cond.fieldLink RX9 219 "LastOfKind$Sightings" "inAll" "I" ∈ lw_ok := mok (i := 242) (by decide +kernel) rfl
theorem qX7_48 : Cond.fieldLink RX7 48 "LastOfKind$Sightings" "inNone" "I" ∈ lw_ok := mok (i := 243) (by decide +kernel) rfl
theorem qX9_222 : Cond.fieldLink RX9 222 "LastOfKind$Sightings" "inNone" "I" ∈ lw_ok := mok (i := 244) (by decide +kernel) rfl
theorem qX9_60 : Cond.methodLink RX9 60 yX3_init ∈ lw_ok := mok (i := 267) (by decide +kernel) rfl
theorem qX3_13 : Cond.methodLink RX3 13 yX1_init ∈ lw_ok := mok (i := 272) (by decide +kernel) rfl
theorem qX3_14 : Cond.fieldLink RX3 14 "LastOfKind$Museums" "goods" "LLastOfKind$Goods;" ∈ lw_ok := mok (i := 273) (by decide +kernel) rfl
theorem qX3_28 : Cond.fieldLink RX3 28 "LastOfKind$Museums" "things" "I" ∈ lw_ok := mok (i := 274) (by decide +kernel) rfl
theorem qX3_35 : Cond.fieldLink RX3 35 "LastOfKind$Museums" "hidden" "I" ∈ lw_ok := mok (i := 275) (by decide +kernel) rfl
theorem qX3_39 : Cond.fieldLink RX3 39 "LastOfKind$Museums" "guarded" "I" ∈ lw_ok := mok (i := 276) (by decide +kernel) rfl
theorem qX3_50 : Cond.fieldLink RX3 50 "LastOfKind$Museums" "ahead" "I" ∈ lw_ok := mok (i := 277) (by decide +kernel) rfl
theorem qX9_231 : Cond.fieldLink RX9 231 "LastOfKind$Museums" "ahead" "I" ∈ lw_ok := mok (i := 278) (by decide +kernel) rfl
theorem qX3_53 : Cond.fieldLink RX3 53 "LastOfKind$Museums" "firstMove" "I" ∈ lw_ok := mok (i := 279) (by decide +kernel) rfl
theorem qX9_234 : Cond.fieldLink RX9 234 "LastOfKind$Museums" "firstMove" "I" ∈ lw_ok := mok (i := 280) (by decide +kernel) rfl
theorem qX9_67 : Cond.methodLink RX9 67 yX0_init ∈ lw_ok := mok (i := 296) (by decide +kernel) rfl
theorem qX0_47 : Cond.fieldLink RX0 47 "LastOfKind$Chances" "seed" "J" ∈ lw_ok := mok (i := 300) (by decide +kernel) rfl
theorem qX9_246 : Cond.fieldLink RX9 246 "LastOfKind$Chances" "seed" "J" ∈ lw_ok := mok (i := 301) (by decide +kernel) rfl
theorem qX0_26 : Cond.fieldLink RX0 26 "LastOfKind$Chances" "upper" "I" ∈ lw_ok := mok (i := 302) (by decide +kernel) rfl
theorem qX9_240 : Cond.fieldLink RX9 240 "LastOfKind$Chances" "upper" "I" ∈ lw_ok := mok (i := 303) (by decide +kernel) rfl
theorem qX0_31 : Cond.fieldLink RX0 31 "LastOfKind$Chances" "lower" "I" ∈ lw_ok := mok (i := 304) (by decide +kernel) rfl
theorem qX9_243 : Cond.fieldLink RX9 243 "LastOfKind$Chances" "lower" "I" ∈ lw_ok := mok (i := 305) (by decide +kernel) rfl
theorem qX9_10 : Cond.fieldLink RX9 10 "LastOfKind" "text" "LLastOfKind$Text;" ∈ lw_ok := mok (i := 313) (by decide +kernel) rfl
theorem qX9_19 : Cond.fieldLink RX9 19 "LastOfKind" "now" "LLastOfKind$House;" ∈ lw_ok := mok (i := 314) (by decide +kernel) rfl
theorem qX9_23 : Cond.fieldLink RX9 23 "LastOfKind" "trial" "LLastOfKind$House;" ∈ lw_ok := mok (i := 315) (by decide +kernel) rfl
theorem qX9_29 : Cond.fieldLink RX9 29 "LastOfKind" "row" "LLastOfKind$Row;" ∈ lw_ok := mok (i := 316) (by decide +kernel) rfl
theorem qX9_33 : Cond.fieldLink RX9 33 "LastOfKind" "slots" "[LLastOfKind$House;" ∈ lw_ok := mok (i := 317) (by decide +kernel) rfl
theorem qX9_91 : Cond.fieldLink RX9 91 "LastOfKind" "filledSlots" "I" ∈ lw_ok := mok (i := 318) (by decide +kernel) rfl
theorem qX9_40 : Cond.fieldLink RX9 40 "LastOfKind" "plans" "LLastOfKind$Plans;" ∈ lw_ok := mok (i := 319) (by decide +kernel) rfl
theorem qX9_47 : Cond.fieldLink RX9 47 "LastOfKind" "owners" "LLastOfKind$Owners;" ∈ lw_ok := mok (i := 320) (by decide +kernel) rfl
theorem qX9_54 : Cond.fieldLink RX9 54 "LastOfKind" "sightings" "LLastOfKind$Sightings;" ∈ lw_ok := mok (i := 321) (by decide +kernel) rfl
theorem qX9_61 : Cond.fieldLink RX9 61 "LastOfKind" "museums" "LLastOfKind$Museums;" ∈ lw_ok := mok (i := 322) (by decide +kernel) rfl
theorem qX9_68 : Cond.fieldLink RX9 68 "LastOfKind" "chances" "LLastOfKind$Chances;" ∈ lw_ok := mok (i := 323) (by decide +kernel) rfl
theorem qX9_72 : Cond.methodLink RX9 72 yX8_append ∈ lw_ok := mok (i := 351) (by decide +kernel) rfl
theorem qX9_80 : Cond.methodLink RX9 80 yX8_firstFault ∈ lw_ok := mok (i := 363) (by decide +kernel) rfl
theorem qX8_19 : Cond.methodLink RX8 19 yX8_fits ∈ lw_ok := mok (i := 367) (by decide +kernel) rfl
theorem qX8_33 : Cond.methodLink RX8 33 yX8_isWithin ∈ lw_ok := mok (i := 374) (by decide +kernel) rfl
theorem qX9_84 : Cond.methodLink RX9 84 yX2_readFrom ∈ lw_ok := mok (i := 382) (by decide +kernel) rfl
theorem qX2_41 : Cond.methodLink RX2 41 yX8_things ∈ lw_ok := mok (i := 386) (by decide +kernel) rfl
theorem qX2_53 : Cond.methodLink RX2 53 yX8_wordTold ∈ lw_ok := mok (i := 396) (by decide +kernel) rfl
theorem qX2_56 : Cond.methodLink RX2 56 yX8_figureTold ∈ lw_ok := mok (i := 400) (by decide +kernel) rfl
theorem qX9_88 : Cond.methodLink RX9 88 yX6_clear ∈ lw_ok := mok (i := 404) (by decide +kernel) rfl
theorem qX9_97 : Cond.methodLink RX9 97 yX2_has ∈ lw_ok := mok (i := 412) (by decide +kernel) rfl
theorem qX9_100 : Cond.methodLink RX9 100 yX2_figure ∈ lw_ok := mok (i := 416) (by decide +kernel) rfl
theorem qX9_116 : Cond.methodLink RX9 116 yX2_lastOnes ∈ lw_ok := mok (i := 421) (by decide +kernel) rfl
theorem qX2_78 : Cond.methodLink RX2 78 yX2_shown ∈ lw_ok := mok (i := 425) (by decide +kernel) rfl
theorem qX2_62 : Cond.methodLink RX2 62 yX2_there ∈ lw_ok := mok (i := 429) (by decide +kernel) rfl
theorem qX2_59 : Cond.methodLink RX2 59 yX2_all ∈ lw_ok := mok (i := 433) (by decide +kernel) rfl
theorem qX2_81 : Cond.methodLink RX2 81 yX2_lastOnesBy ∈ lw_ok := mok (i := 437) (by decide +kernel) rfl
theorem qX2_84 : Cond.methodLink RX2 84 yX2_alikeTo ∈ lw_ok := mok (i := 444) (by decide +kernel) rfl
theorem qX2_69 : Cond.methodLink RX2 69 yX2_sameMarks ∈ lw_ok := mok (i := 448) (by decide +kernel) rfl
theorem qX9_122 : Cond.methodLink RX9 122 yX2_shown ∈ lw_ok := mok (i := 462) (by decide +kernel) rfl
theorem qX9_125 : Cond.methodLink RX9 125 yX2_alikeTo ∈ lw_ok := mok (i := 463) (by decide +kernel) rfl
theorem qX9_129 : Cond.methodLink RX9 129 yX2_priceOf ∈ lw_ok := mok (i := 468) (by decide +kernel) rfl
theorem qX2_88 : Cond.methodLink RX2 88 yX2_figure ∈ lw_ok := mok (i := 472) (by decide +kernel) rfl
theorem qX2_91 : Cond.methodLink RX2 91 yX2_shareOf ∈ lw_ok := mok (i := 473) (by decide +kernel) rfl
theorem qX9_133 : Cond.methodLink RX9 133 yX9_tryAct ∈ lw_ok := mok (i := 480) (by decide +kernel) rfl
theorem qX9_165 : Cond.methodLink RX9 165 yX2_canBe ∈ lw_ok := mok (i := 484) (by decide +kernel) rfl
theorem qX2_94 : Cond.methodLink RX2 94 yX2_has ∈ lw_ok := mok (i := 488) (by decide +kernel) rfl
theorem qX2_98 : Cond.methodLink RX2 98 yX2_breakable ∈ lw_ok := mok (i := 489) (by decide +kernel) rfl
theorem qX9_136 : Cond.methodLink RX9 136 yX6_remember ∈ lw_ok := mok (i := 493) (by decide +kernel) rfl
theorem qX6_25 : Cond.methodLink RX6 25 yX6_placeAt ∈ lw_ok := mok (i := 497) (by decide +kernel) rfl
theorem qX6_29 : Cond.methodLink RX6 29 yX2_copyFrom ∈ lw_ok := mok (i := 501) (by decide +kernel) rfl
theorem qX9_169 : Cond.methodLink RX9 169 yX2_perform ∈ lw_ok := mok (i := 506) (by decide +kernel) rfl
theorem qX9_140 : Cond.methodLink RX9 140 yX2_addForged ∈ lw_ok := mok (i := 514) (by decide +kernel) rfl
theorem qX2_101 : Cond.constant RX2 101 (1048576 : Int32) ∈ lw_ok := mok (i := 518) (by decide +kernel) rfl
theorem qX2_102 : Cond.constant RX2 102 (16777216 : Int32) ∈ lw_ok := mok (i := 519) (by decide +kernel) rfl
theorem qX9_148 : Cond.methodLink RX9 148 yX2_changeWord ∈ lw_ok := mok (i := 540) (by decide +kernel) rfl
theorem qX2_107 : Cond.methodLink RX2 107 yX2_lastOnes ∈ lw_ok := mok (i := 544) (by decide +kernel) rfl
theorem qX9_154 : Cond.methodLink RX9 154 yX6_takeBack ∈ lw_ok := mok (i := 553) (by decide +kernel) rfl
theorem qX9_159 : Cond.methodLink RX9 159 yX9_withoutLast ∈ lw_ok := mok (i := 561) (by decide +kernel) rfl
theorem qX9_162 : Cond.methodLink RX9 162 yX2_copyFrom ∈ lw_ok := mok (i := 564) (by decide +kernel) rfl
theorem qX9_173 : Cond.methodLink RX9 173 yX9_holds ∈ lw_ok := mok (i := 569) (by decide +kernel) rfl
theorem qX9_176 : Cond.methodLink RX9 176 yX5_seekCampaign ∈ lw_ok := mok (i := 570) (by decide +kernel) rfl
theorem qX5_21 : Cond.methodLink RX5 21 yX2_shown ∈ lw_ok := mok (i := 574) (by decide +kernel) rfl
theorem qX5_27 : Cond.methodLink RX5 27 yX2_alikeTo ∈ lw_ok := mok (i := 575) (by decide +kernel) rfl
theorem qX5_43 : Cond.methodLink RX5 43 yX5_costToBreak ∈ lw_ok := mok (i := 579) (by decide +kernel) rfl
theorem qX5_67 : Cond.methodLink RX5 67 yX2_figure ∈ lw_ok := mok (i := 583) (by decide +kernel) rfl
theorem qX9_189 : Cond.methodLink RX9 189 yX5_leastCopy ∈ lw_ok := mok (i := 592) (by decide +kernel) rfl
theorem qX5_52 : Cond.methodLink RX5 52 yX5_frees ∈ lw_ok := mok (i := 597) (by decide +kernel) rfl
theorem qX5_73 : Cond.methodLink RX5 73 yX2_sameMarks ∈ lw_ok := mok (i := 600) (by decide +kernel) rfl
theorem qX9_193 : Cond.methodLink RX9 193 yX5_wordOfMostLast ∈ lw_ok := mok (i := 605) (by decide +kernel) rfl
theorem qX5_56 : Cond.methodLink RX5 56 yX5_lastBy ∈ lw_ok := mok (i := 609) (by decide +kernel) rfl
theorem qX5_59 : Cond.methodLink RX5 59 yX2_lastOnesBy ∈ lw_ok := mok (i := 613) (by decide +kernel) rfl
theorem qX9_197 : Cond.methodLink RX9 197 yX5_lastBy ∈ lw_ok := mok (i := 614) (by decide +kernel) rfl
theorem qX9_200 : Cond.methodLink RX9 200 yX4_weigh ∈ lw_ok := mok (i := 619) (by decide +kernel) rfl
theorem qX4_30 : Cond.methodLink RX4 30 yX1_learn ∈ lw_ok := mok (i := 623) (by decide +kernel) rfl
theorem qX1_21 : Cond.methodLink RX1 21 yX2_has ∈ lw_ok := mok (i := 627) (by decide +kernel) rfl
theorem qX1_31 : Cond.methodLink RX1 31 yX2_all ∈ lw_ok := mok (i := 628) (by decide +kernel) rfl
theorem qX1_35 : Cond.methodLink RX1 35 yX2_alikeTo ∈ lw_ok := mok (i := 629) (by decide +kernel) rfl
theorem qX1_39 : Cond.methodLink RX1 39 yX2_figure ∈ lw_ok := mok (i := 630) (by decide +kernel) rfl
theorem qX4_34 : Cond.methodLink RX4 34 yX4_learn ∈ lw_ok := mok (i := 631) (by decide +kernel) rfl
theorem qX4_48 : Cond.methodLink RX4 48 yX2_shown ∈ lw_ok := mok (i := 635) (by decide +kernel) rfl
theorem qX4_54 : Cond.methodLink RX4 54 yX2_breakable ∈ lw_ok := mok (i := 636) (by decide +kernel) rfl
theorem qX4_60 : Cond.methodLink RX4 60 yX2_figure ∈ lw_ok := mok (i := 637) (by decide +kernel) rfl
theorem qX4_70 : Cond.methodLink RX4 70 yX1_pricesAmong ∈ lw_ok := mok (i := 639) (by decide +kernel) rfl
theorem qX1_47 : Cond.methodLink RX1 47 yX2_shareOf ∈ lw_ok := mok (i := 643) (by decide +kernel) rfl
theorem qX4_44 : Cond.methodLink RX4 44 yX4_goThrough ∈ lw_ok := mok (i := 644) (by decide +kernel) rfl
theorem qX4_73 : Cond.methodLink RX4 73 yX4_raiseBest ∈ lw_ok := mok (i := 648) (by decide +kernel) rfl
theorem qX4_85 : Cond.methodLink RX4 85 yX4_has ∈ lw_ok := mok (i := 652) (by decide +kernel) rfl
theorem qX4_105 : Cond.methodLink RX4 105 yX1_cost ∈ lw_ok := mok (i := 657) (by decide +kernel) rfl
theorem qX4_89 : Cond.methodLink RX4 89 yX4_raise ∈ lw_ok := mok (i := 662) (by decide +kernel) rfl
theorem qX4_77 : Cond.methodLink RX4 77 yX4_isRest ∈ lw_ok := mok (i := 668) (by decide +kernel) rfl
theorem qX4_81 : Cond.methodLink RX4 81 yX4_tell ∈ lw_ok := mok (i := 672) (by decide +kernel) rfl
theorem qX9_206 : Cond.methodLink RX9 206 yX4_firstChoice ∈ lw_ok := mok (i := 676) (by decide +kernel) rfl
theorem qX9_209 : Cond.methodLink RX9 209 yX7_append ∈ lw_ok := mok (i := 684) (by decide +kernel) rfl
theorem qX9_213 : Cond.methodLink RX9 213 yX7_survey ∈ lw_ok := mok (i := 696) (by decide +kernel) rfl
theorem qX7_32 : Cond.methodLink RX7 32 yX2_unseen ∈ lw_ok := mok (i := 700) (by decide +kernel) rfl
theorem qX7_38 : Cond.methodLink RX7 38 yX7_learn ∈ lw_ok := mok (i := 704) (by decide +kernel) rfl
theorem qX7_74 : Cond.methodLink RX7 74 yX2_has ∈ lw_ok := mok (i := 708) (by decide +kernel) rfl
theorem qX7_81 : Cond.methodLink RX7 81 yX2_all ∈ lw_ok := mok (i := 709) (by decide +kernel) rfl
theorem qX7_84 : Cond.methodLink RX7 84 yX2_alikeTo ∈ lw_ok := mok (i := 710) (by decide +kernel) rfl
theorem qX7_51 : Cond.methodLink RX7 51 yX2_shown ∈ lw_ok := mok (i := 711) (by decide +kernel) rfl
theorem qX7_57 : Cond.methodLink RX7 57 yX7_isSo ∈ lw_ok := mok (i := 712) (by decide +kernel) rfl
theorem qX7_61 : Cond.methodLink RX7 61 yX7_tally ∈ lw_ok := mok (i := 717) (by decide +kernel) rfl
theorem qX9_225 : Cond.methodLink RX9 225 yX7_mostTelling ∈ lw_ok := mok (i := 725) (by decide +kernel) rfl
theorem qX9_228 : Cond.methodLink RX9 228 yX3_play ∈ lw_ok := mok (i := 735) (by decide +kernel) rfl
theorem qX3_18 : Cond.methodLink RX3 18 yX1_learn ∈ lw_ok := mok (i := 739) (by decide +kernel) rfl
theorem qX3_22 : Cond.methodLink RX3 22 yX2_all ∈ lw_ok := mok (i := 740) (by decide +kernel) rfl
theorem qX3_46 : Cond.methodLink RX3 46 yX3_lead ∈ lw_ok := mok (i := 741) (by decide +kernel) rfl
theorem qX3_56 : Cond.methodLink RX3 56 yX1_lastAmong ∈ lw_ok := mok (i := 744) (by decide +kernel) rfl
theorem qX3_60 : Cond.methodLink RX3 60 yX3_leadByLastTurn ∈ lw_ok := mok (i := 748) (by decide +kernel) rfl
theorem qX3_72 : Cond.methodLink RX3 72 yX1_worth ∈ lw_ok := mok (i := 752) (by decide +kernel) rfl
theorem qX3_63 : Cond.methodLink RX3 63 yX3_gainOf ∈ lw_ok := mok (i := 756) (by decide +kernel) rfl
theorem qX3_75 : Cond.methodLink RX3 75 yX1_cost ∈ lw_ok := mok (i := 760) (by decide +kernel) rfl
theorem qX9_237 : Cond.methodLink RX9 237 yX0_weigh ∈ lw_ok := mok (i := 766) (by decide +kernel) rfl
theorem qX0_9 : Cond.methodLink RX0 9 yX2_shown ∈ lw_ok := mok (i := 770) (by decide +kernel) rfl
theorem qX0_15 : Cond.methodLink RX0 15 yX2_breakable ∈ lw_ok := mok (i := 771) (by decide +kernel) rfl
theorem qX0_22 : Cond.methodLink RX0 22 yX2_alikeTo ∈ lw_ok := mok (i := 772) (by decide +kernel) rfl
theorem qX0_44 : Cond.methodLink RX0 44 yX0_reduce ∈ lw_ok := mok (i := 775) (by decide +kernel) rfl
theorem qX9_250 : Cond.methodLink RX9 250 yX0_lastAfter ∈ lw_ok := mok (i := 787) (by decide +kernel) rfl
theorem qX0_51 : Cond.constantLong RX0 51 (6364136223846793005 : Int64) ∈ lw_ok := mok (i := 791) (by decide +kernel) rfl
theorem qX0_53 : Cond.constantLong RX0 53 (1442695040888963407 : Int64) ∈ lw_ok := mok (i := 792) (by decide +kernel) rfl
theorem qX0_55 : Cond.constantLong RX0 55 (10 : Int64) ∈ lw_ok := mok (i := 793) (by decide +kernel) rfl
theorem qX0_57 : Cond.methodLink RX0 57 yX2_lastOnesBy ∈ lw_ok := mok (i := 794) (by decide +kernel) rfl
theorem qX9_254 : Cond.methodLink RX9 254 yX9_slotAt ∈ lw_ok := mok (i := 799) (by decide +kernel) rfl
theorem qX9_258 : Cond.methodLink RX9 258 yX2_unseen ∈ lw_ok := mok (i := 811) (by decide +kernel) rfl
theorem qX10_7 : Cond.fieldLink RX10 7 "LastOfKindModel" "now" "[I" ∈ lw_ok := mok (i := 818) (by decide +kernel) rfl
theorem qX10_13 : Cond.fieldLink RX10 13 "LastOfKindModel" "text" "[I" ∈ lw_ok := mok (i := 819) (by decide +kernel) rfl
theorem qX10_62 : Cond.fieldLink RX10 62 "LastOfKindModel" "length" "I" ∈ lw_ok := mok (i := 820) (by decide +kernel) rfl
theorem qX10_92 : Cond.fieldLink RX10 92 "LastOfKindModel" "acts" "I" ∈ lw_ok := mok (i := 821) (by decide +kernel) rfl
theorem qX10_149 : Cond.fieldLink RX10 149 "LastOfKindModel" "next" "I" ∈ lw_ok := mok (i := 822) (by decide +kernel) rfl
theorem qX10_16 : Cond.fieldLink RX10 16 "LastOfKindModel" "row" "[I" ∈ lw_ok := mok (i := 823) (by decide +kernel) rfl
theorem qX10_211 : Cond.fieldLink RX10 211 "LastOfKindModel" "sights" "I" ∈ lw_ok := mok (i := 824) (by decide +kernel) rfl
theorem qX10_19 : Cond.fieldLink RX10 19 "LastOfKindModel" "sightOf" "[I" ∈ lw_ok := mok (i := 825) (by decide +kernel) rfl
theorem qX10_22 : Cond.fieldLink RX10 22 "LastOfKindModel" "sightMany" "[I" ∈ lw_ok := mok (i := 826) (by decide +kernel) rfl
theorem qX10_25 : Cond.fieldLink RX10 25 "LastOfKindModel" "sightLeast" "[Z" ∈ lw_ok := mok (i := 827) (by decide +kernel) rfl
theorem qX10_217 : Cond.fieldLink RX10 217 "LastOfKindModel" "worldMany" "I" ∈ lw_ok := mok (i := 828) (by decide +kernel) rfl
theorem qX10_220 : Cond.fieldLink RX10 220 "LastOfKindModel" "worldAll" "I" ∈ lw_ok := mok (i := 829) (by decide +kernel) rfl
theorem qX10_223 : Cond.fieldLink RX10 223 "LastOfKindModel" "worldSome" "I" ∈ lw_ok := mok (i := 830) (by decide +kernel) rfl
theorem qX10_29 : Cond.fieldLink RX10 29 "LastOfKindModel" "worldWith" "[I" ∈ lw_ok := mok (i := 831) (by decide +kernel) rfl
theorem qX10_32 : Cond.fieldLink RX10 32 "LastOfKindModel" "gBroken" "[I" ∈ lw_ok := mok (i := 832) (by decide +kernel) rfl
theorem qX10_35 : Cond.fieldLink RX10 35 "LastOfKindModel" "gClaimed" "[I" ∈ lw_ok := mok (i := 833) (by decide +kernel) rfl
theorem qX10_38 : Cond.fieldLink RX10 38 "LastOfKindModel" "gTry" "[I" ∈ lw_ok := mok (i := 834) (by decide +kernel) rfl
theorem qX10_41 : Cond.fieldLink RX10 41 "LastOfKindModel" "gBest" "[I" ∈ lw_ok := mok (i := 835) (by decide +kernel) rfl
theorem qX10_44 : Cond.fieldLink RX10 44 "LastOfKindModel" "gMove" "[I" ∈ lw_ok := mok (i := 836) (by decide +kernel) rfl
theorem qX10_47 : Cond.fieldLink RX10 47 "LastOfKindModel" "gHas" "[I" ∈ lw_ok := mok (i := 837) (by decide +kernel) rfl
theorem qX10_251 : Cond.fieldLink RX10 251 "LastOfKindModel" "seed" "J" ∈ lw_ok := mok (i := 838) (by decide +kernel) rfl
theorem qX10_50 : Cond.fieldLink RX10 50 "LastOfKindModel" "isKept" "[Z" ∈ lw_ok := mok (i := 839) (by decide +kernel) rfl
theorem qX10_53 : Cond.fieldLink RX10 53 "LastOfKindModel" "kept" "[I" ∈ lw_ok := mok (i := 840) (by decide +kernel) rfl
theorem qX10_56 : Cond.constantLong RX10 56 (255 : Int64) ∈ lw_ok := mok (i := 892) (by decide +kernel) rfl
theorem qX10_58 : Cond.methodLink RX10 58 yX10_in ∈ lw_ok := mok (i := 893) (by decide +kernel) rfl
theorem qX10_76 : Cond.methodLink RX10 76 yX10_fits ∈ lw_ok := mok (i := 904) (by decide +kernel) rfl
theorem qX10_66 : Cond.constantLong RX10 66 (49 : Int64) ∈ lw_ok := mok (i := 908) (by decide +kernel) rfl
theorem qX10_68 : Cond.constantLong RX10 68 (52 : Int64) ∈ lw_ok := mok (i := 909) (by decide +kernel) rfl
theorem qX10_70 : Cond.constantLong RX10 70 (48 : Int64) ∈ lw_ok := mok (i := 910) (by decide +kernel) rfl
theorem qX10_72 : Cond.constantLong RX10 72 (50 : Int64) ∈ lw_ok := mok (i := 911) (by decide +kernel) rfl
theorem qX10_74 : Cond.constantLong RX10 74 (57 : Int64) ∈ lw_ok := mok (i := 912) (by decide +kernel) rfl
theorem qX10_80 : Cond.methodLink RX10 80 yX10_fault ∈ lw_ok := mok (i := 917) (by decide +kernel) rfl
theorem qX10_84 : Cond.methodLink RX10 84 yX10_figure ∈ lw_ok := mok (i := 918) (by decide +kernel) rfl
theorem qX10_88 : Cond.methodLink RX10 88 yX10_code ∈ lw_ok := mok (i := 922) (by decide +kernel) rfl
theorem qX10_128 : Cond.methodLink RX10 128 yX10_isThing ∈ lw_ok := mok (i := 929) (by decide +kernel) rfl
theorem qX10_101 : Cond.methodLink RX10 101 yX10_markOf ∈ lw_ok := mok (i := 933) (by decide +kernel) rfl
theorem qX10_95 : Cond.methodLink RX10 95 yX10_marksOf ∈ lw_ok := mok (i := 937) (by decide +kernel) rfl
theorem qX10_98 : Cond.methodLink RX10 98 yX10_tenTo ∈ lw_ok := mok (i := 941) (by decide +kernel) rfl
theorem qX10_131 : Cond.methodLink RX10 131 yX10_ownerOf ∈ lw_ok := mok (i := 944) (by decide +kernel) rfl
theorem qX10_134 : Cond.methodLink RX10 134 yX10_worthOf ∈ lw_ok := mok (i := 948) (by decide +kernel) rfl
theorem qX10_137 : Cond.methodLink RX10 137 yX10_costOf ∈ lw_ok := mok (i := 952) (by decide +kernel) rfl
theorem qX10_140 : Cond.methodLink RX10 140 yX10_guardOf ∈ lw_ok := mok (i := 956) (by decide +kernel) rfl
theorem qX10_143 : Cond.methodLink RX10 143 yX10_last ∈ lw_ok := mok (i := 960) (by decide +kernel) rfl
theorem qX10_122 : Cond.methodLink RX10 122 yX10_shown ∈ lw_ok := mok (i := 964) (by decide +kernel) rfl
theorem qX10_125 : Cond.methodLink RX10 125 yX10_lastOf ∈ lw_ok := mok (i := 968) (by decide +kernel) rfl
theorem qX10_105 : Cond.methodLink RX10 105 yX10_many ∈ lw_ok := mok (i := 972) (by decide +kernel) rfl
theorem qX10_108 : Cond.methodLink RX10 108 yX10_has ∈ lw_ok := mok (i := 976) (by decide +kernel) rfl
theorem qX10_118 : Cond.methodLink RX10 118 yX10_alikeOf ∈ lw_ok := mok (i := 979) (by decide +kernel) rfl
theorem qX10_112 : Cond.methodLink RX10 112 yX10_same ∈ lw_ok := mok (i := 983) (by decide +kernel) rfl
theorem qX10_115 : Cond.methodLink RX10 115 yX10_ones ∈ lw_ok := mok (i := 987) (by decide +kernel) rfl
theorem qX10_146 : Cond.methodLink RX10 146 yX10_priceBy ∈ lw_ok := mok (i := 998) (by decide +kernel) rfl
theorem qX10_159 : Cond.methodLink RX10 159 yX10_canBreak ∈ lw_ok := mok (i := 1006) (by decide +kernel) rfl
theorem qX10_152 : Cond.methodLink RX10 152 yX10_guardAt ∈ lw_ok := mok (i := 1010) (by decide +kernel) rfl
theorem qX10_162 : Cond.methodLink RX10 162 yX10_keepAct ∈ lw_ok := mok (i := 1014) (by decide +kernel) rfl
theorem qX10_165 : Cond.constantLong RX10 165 (9999 : Int64) ∈ lw_ok := mok (i := 1022) (by decide +kernel) rfl
theorem qX10_167 : Cond.constantLong RX10 167 (2 : Int64) ∈ lw_ok := mok (i := 1023) (by decide +kernel) rfl
theorem qX10_155 : Cond.methodLink RX10 155 yX10_free ∈ lw_ok := mok (i := 1024) (by decide +kernel) rfl
theorem qX10_169 : Cond.methodLink RX10 169 yX10_canHide ∈ lw_ok := mok (i := 1032) (by decide +kernel) rfl
theorem qX10_172 : Cond.methodLink RX10 172 yX10_doHide ∈ lw_ok := mok (i := 1036) (by decide +kernel) rfl
theorem qX10_175 : Cond.methodLink RX10 175 yX10_canClaim ∈ lw_ok := mok (i := 1044) (by decide +kernel) rfl
theorem qX10_178 : Cond.methodLink RX10 178 yX10_doGuard ∈ lw_ok := mok (i := 1052) (by decide +kernel) rfl
theorem qX10_181 : Cond.constantLong RX10 181 (4 : Int64) ∈ lw_ok := mok (i := 1060) (by decide +kernel) rfl
theorem qX10_183 : Cond.methodLink RX10 183 yX10_can ∈ lw_ok := mok (i := 1073) (by decide +kernel) rfl
theorem qX10_186 : Cond.methodLink RX10 186 yX10_make ∈ lw_ok := mok (i := 1077) (by decide +kernel) rfl
theorem qX10_195 : Cond.methodLink RX10 195 yX10_campaignWord ∈ lw_ok := mok (i := 1085) (by decide +kernel) rfl
theorem qX10_192 : Cond.methodLink RX10 192 yX10_costBy ∈ lw_ok := mok (i := 1089) (by decide +kernel) rfl
theorem qX10_189 : Cond.methodLink RX10 189 yX10_apart ∈ lw_ok := mok (i := 1093) (by decide +kernel) rfl
theorem qX10_205 : Cond.methodLink RX10 205 yX10_rest ∈ lw_ok := mok (i := 1112) (by decide +kernel) rfl
theorem qX10_198 : Cond.methodLink RX10 198 yX10_may ∈ lw_ok := mok (i := 1116) (by decide +kernel) rfl
theorem qX10_201 : Cond.methodLink RX10 201 yX10_has3 ∈ lw_ok := mok (i := 1120) (by decide +kernel) rfl
theorem qX10_209 : Cond.constantLong RX10 209 (8 : Int64) ∈ lw_ok := mok (i := 1128) (by decide +kernel) rfl
theorem qX10_229 : Cond.methodLink RX10 229 yX10_layWorlds ∈ lw_ok := mok (i := 1137) (by decide +kernel) rfl
theorem qX10_214 : Cond.methodLink RX10 214 yX10_hiddenThere ∈ lw_ok := mok (i := 1141) (by decide +kernel) rfl
theorem qX10_226 : Cond.methodLink RX10 226 yX10_isSighted ∈ lw_ok := mok (i := 1145) (by decide +kernel) rfl
theorem qX10_233 : Cond.methodLink RX10 233 yX10_begin ∈ lw_ok := mok (i := 1157) (by decide +kernel) rfl
theorem qX10_232 : Cond.constant RX10 232 (-100000 : Int32) ∈ lw_ok := mok (i := 1161) (by decide +kernel) rfl
theorem qX10_237 : Cond.methodLink RX10 237 yX10_canMove ∈ lw_ok := mok (i := 1162) (by decide +kernel) rfl
theorem qX10_240 : Cond.methodLink RX10 240 yX10_go ∈ lw_ok := mok (i := 1166) (by decide +kernel) rfl
theorem qX10_243 : Cond.constantLong RX10 243 (10 : Int64) ∈ lw_ok := mok (i := 1174) (by decide +kernel) rfl
theorem qX10_245 : Cond.methodLink RX10 245 yX10_frail ∈ lw_ok := mok (i := 1175) (by decide +kernel) rfl
theorem qX10_248 : Cond.methodLink RX10 248 yX10_common ∈ lw_ok := mok (i := 1179) (by decide +kernel) rfl
theorem qX10_255 : Cond.constantLong RX10 255 (30 : Int64) ∈ lw_ok := mok (i := 1190) (by decide +kernel) rfl
theorem qX10_257 : Cond.constantLong RX10 257 (6364136223846793005 : Int64) ∈ lw_ok := mok (i := 1191) (by decide +kernel) rfl
theorem qX10_259 : Cond.constantLong RX10 259 (1442695040888963407 : Int64) ∈ lw_ok := mok (i := 1192) (by decide +kernel) rfl
theorem inX0 : ∀ w ∈ u_ws RX0 TX0 3, w ∈ lw_ok := by decide +kernel
theorem inX1 : ∀ w ∈ u_ws RX1 TX1 3, w ∈ lw_ok := by decide +kernel
theorem inX2 : ∀ w ∈ u_ws RX2 TX2 8, w ∈ lw_ok := by decide +kernel
theorem inX3 : ∀ w ∈ u_ws RX3 TX3 6, w ∈ lw_ok := by decide +kernel
theorem inX4 : ∀ w ∈ u_ws RX4 TX4 6, w ∈ lw_ok := by decide +kernel
theorem inX5 : ∀ w ∈ u_ws RX5 TX5 3, w ∈ lw_ok := by decide +kernel
theorem inX6 : ∀ w ∈ u_ws RX6 TX6 3, w ∈ lw_ok := by decide +kernel
theorem inX7 : ∀ w ∈ u_ws RX7 TX7 9, w ∈ lw_ok := by decide +kernel
theorem inX8 : ∀ w ∈ u_ws RX8 TX8 2, w ∈ lw_ok := by decide +kernel
theorem inX9 : ∀ w ∈ u_ws RX9 TX9 11, w ∈ lw_ok := by decide +kernel
theorem inX10 : ∀ w ∈ u_ws RX10 TX10 23, w ∈ lw_ok := by decide +kernel
def nestL : List (String × Nat × MethodName × String) := [(RX8, 29, yX9_at, "LastOfKind"), (RX2, 19, yX9_at, "LastOfKind"), (RX2, 65, yX9_holds, "LastOfKind"), (RX2, 103, yX9_put, "LastOfKind"), (RX5, 63, yX9_holds, "LastOfKind"), (RX4, 92, yX9_at, "LastOfKind"), (RX1, 43, yX9_at, "LastOfKind"), (RX4, 101, yX9_put, "LastOfKind"), (RX7, 71, yX9_holds, "LastOfKind"), (RX0, 34, yX9_holds, "LastOfKind")]
theorem qX8_29 : (RX8, 29, yX9_at, "LastOfKind") ∈ nestL := List.mem_of_getElem? (i := 0) rfl
theorem qX2_19 : (RX2, 19, yX9_at, "LastOfKind") ∈ nestL := List.mem_of_getElem? (i := 1) rfl
theorem qX2_65 : (RX2, 65, yX9_holds, "LastOfKind") ∈ nestL := List.mem_of_getElem? (i := 2) rfl
theorem qX2_103 : (RX2, 103, yX9_put, "LastOfKind") ∈ nestL := List.mem_of_getElem? (i := 3) rfl
theorem qX5_63 : (RX5, 63, yX9_holds, "LastOfKind") ∈ nestL := List.mem_of_getElem? (i := 4) rfl
theorem qX4_92 : (RX4, 92, yX9_at, "LastOfKind") ∈ nestL := List.mem_of_getElem? (i := 5) rfl
theorem qX1_43 : (RX1, 43, yX9_at, "LastOfKind") ∈ nestL := List.mem_of_getElem? (i := 6) rfl
theorem qX4_101 : (RX4, 101, yX9_put, "LastOfKind") ∈ nestL := List.mem_of_getElem? (i := 7) rfl
theorem qX7_71 : (RX7, 71, yX9_holds, "LastOfKind") ∈ nestL := List.mem_of_getElem? (i := 8) rfl
theorem qX0_34 : (RX0, 34, yX9_holds, "LastOfKind") ∈ nestL := List.mem_of_getElem? (i := 9) rfl
theorem nestL_in : ∀ q ∈ nestL, Cond.methodLinkNest q.1 q.2.1 q.2.2.1 q.2.2.2 ∈ lw_tbl := by decide +kernel
theorem mth_max : Cond.static Lib.Math.max.name ∈ lw_ok ∧ Cond.initialized "java/lang/Math" ∈ lw_ok ∧ Cond.code Lib.Math.max.name Lib.Math.max.code 2 (some .int) ∈ lw_ok := by decide +kernel
theorem mth_min : Cond.static Lib.Math.min.name ∈ lw_ok ∧ Cond.initialized "java/lang/Math" ∈ lw_ok ∧ Cond.code Lib.Math.min.name Lib.Math.min.code 2 (some .int) ∈ lw_ok := by decide +kernel
theorem mth_abs : Cond.static Lib.Math.abs.name ∈ lw_ok ∧ Cond.initialized "java/lang/Math" ∈ lw_ok ∧ Cond.code Lib.Math.abs.name Lib.Math.abs.code 1 (some .int) ∈ lw_ok := by decide +kernel
theorem qX8_23 : Cond.methodLink RX8 23 Lib.Math.max.name ∈ lw_ok := mok (i := 390) (by decide +kernel) rfl
theorem qX2_47 : Cond.methodLink RX2 47 Lib.Math.min.name ∈ lw_ok := mok (i := 393) (by decide +kernel) rfl
theorem qX2_72 : Cond.methodLink RX2 72 yJ6_bitCount_0f7a4 ∈ lw_ok := mok (i := 452) (by decide +kernel) rfl
theorem qJ6_265 : Cond.constant RJ6 265 (1431655765 : Int32) ∈ lw_ok := mok (i := 455) (by decide +kernel) rfl
theorem qJ6_266 : Cond.constant RJ6 266 (858993459 : Int32) ∈ lw_ok := mok (i := 456) (by decide +kernel) rfl
theorem qJ6_267 : Cond.constant RJ6 267 (252645135 : Int32) ∈ lw_ok := mok (i := 457) (by decide +kernel) rfl
theorem qX6_33 : Cond.methodLink RX6 33 Lib.Math.min.name ∈ lw_ok := mok (i := 505) (by decide +kernel) rfl
theorem qX9_143 : Cond.methodLink RX9 143 yJ6_bitCount_0f7a4 ∈ lw_ok := mok (i := 531) (by decide +kernel) rfl
theorem qX5_37 : Cond.methodLink RX5 37 Lib.Math.abs.name ∈ lw_ok := mok (i := 576) (by decide +kernel) rfl
theorem qX5_47 : Cond.methodLink RX5 47 yJ6_bitCount_0f7a4 ∈ lw_ok := mok (i := 596) (by decide +kernel) rfl
theorem qX4_64 : Cond.methodLink RX4 64 yJ6_bitCount_0f7a4 ∈ lw_ok := mok (i := 638) (by decide +kernel) rfl
theorem qX4_96 : Cond.methodLink RX4 96 Lib.Math.max.name ∈ lw_ok := mok (i := 666) (by decide +kernel) rfl
theorem qX7_88 : Cond.methodLink RX7 88 yJ6_bitCount_0f7a4 ∈ lw_ok := mok (i := 716) (by decide +kernel) rfl
theorem qX7_65 : Cond.methodLink RX7 65 Lib.Math.min.name ∈ lw_ok := mok (i := 729) (by decide +kernel) rfl
theorem qX3_66 : Cond.methodLink RX3 66 Lib.Math.max.name ∈ lw_ok := mok (i := 761) (by decide +kernel) rfl
theorem qX0_38 : Cond.methodLink RX0 38 yJ6_bitCount_0f7a4 ∈ lw_ok := mok (i := 774) (by decide +kernel) rfl
theorem zJ6_bitCount : jCS yJ6_bitCount_0f7a4 cJ6_bitCount_0f7a4 1 (some .int) := ⟨mok (i := 454) (by decide +kernel) rfl, mok (i := 453) (by decide +kernel) rfl, mok (i := 69) (by decide +kernel) rfl, by decide +kernel⟩
end
section
/-! the memory: 89 places; int contents by place and index, longs by place -/
abbrev Mm : Type := (Nat → Nat → Int32) × (Nat → Int64)
abbrev Dm : Type := va_G × (Nat → Nat) × (Nat → ClassId)
def up (σ : Mm) (k j : Nat) (v : Int32) : Mm := (fun a b => if a = k ∧ b = j then v else σ.1 a b, σ.2)
def upL (σ : Mm) (k : Nat) (v : Int64) : Mm := (σ.1, fun a => if a = k then v else σ.2 a)
def bi (b : Bool) : Int32 := if b then 1 else 0
def rm (x y : Int32) : Int32 := x - x / y * y
def rmL (x y : Int64) : Int64 := x - x / y * y
theorem up_at {σ : Mm} {k j a b : Nat} {v : Int32} : (up σ k j v).1 a b = if a = k ∧ b = j then v else σ.1 a b := rfl
theorem up_ne {σ : Mm} {k j a : Nat} {v : Int32} (h : a ≠ k) : (up σ k j v).1 a = σ.1 a := by
  funext b
  simp [up, h]
theorem up_2 {σ : Mm} {k j : Nat} {v : Int32} : (up σ k j v).2 = σ.2 := rfl
theorem up_upd {σ : Mm} {k j : Nat} {v : Int32} : (up σ k j v).1 k = upd (σ.1 k) j v := by
  funext b
  simp [up, upd]
theorem upL_1 {σ : Mm} {k : Nat} {v : Int64} : (upL σ k v).1 = σ.1 := rfl
theorem upL_eq {σ : Mm} {k : Nat} {v : Int64} : (upL σ k v).2 k = v := by simp [upL]
theorem upL_ne {σ : Mm} {k a : Nat} {v : Int64} (h : a ≠ k) : (upL σ k v).2 a = σ.2 a := by simp [upL, h]
abbrev qs (f : Nat → Option Nat) : (Nat → Int32) ⊕ (Nat → Int64) ⊕ (Nat → UInt32) ⊕ (Nat → UInt64) ⊕ (Nat → Option Nat) := .inr (.inr (.inr (.inr f)))
/-- what lies at a place -/
def shp (ad : Nat → Nat) (cA : Nat → ClassId) (k : Nat) (f : Nat → Int32) (g : Int64) : va_E :=
  if k < 49 then (match k with
  | 0 => .inr (9, [.ref (ad 2), .ref (ad 49), .ref (ad 51), .ref (ad 4), .ref (ad 1), .int (f 5), .ref (ad 6), .ref (ad 7), .ref (ad 26), .ref (ad 21), .ref (ad 32)])
  | 1 => .inl (cA 2, (2, qs (fun j => some (ad (53 + 2 * j)))))
  | 2 => .inr (8, [.ref (ad 3), .int (f 1)])
  | 3 => .inl (cA 0, (56, .inl f))
  | 4 => .inr (6, [.ref (ad 5), .int (f 1), .int (f 2)])
  | 5 => .inl (cA 2, (16, qs (fun j => some (ad (57 + 2 * j)))))
  | 6 => .inr (5, [.int (f 0), .int (f 1), .int (f 2)])
  | 7 => .inr (4, [.ref (ad 17), .ref (ad 8), .ref (ad 9), .ref (ad 13), .int (f 4), .int (f 5)])
  | 8 => .inl (cA 0, (3, .inl f))
  | 9 => .inl (cA 3, (3, qs (fun j => some (ad (10 + j)))))
  | 10 => .inl (cA 0, (256, .inl f))
  | 11 => .inl (cA 0, (256, .inl f))
  | 12 => .inl (cA 0, (256, .inl f))
  | 13 => .inl (cA 3, (3, qs (fun j => some (ad (14 + j)))))
  | 14 => .inl (cA 0, (81, .inl f))
  | 15 => .inl (cA 0, (81, .inl f))
  | 16 => .inl (cA 0, (81, .inl f))
  | 17 => .inr (1, [.ref (ad 18), .ref (ad 19), .ref (ad 20)])
  | 18 => .inl (cA 0, (8, .inl f))
  | 19 => .inl (cA 0, (8, .inl f))
  | 20 => .inl (cA 0, (8, .inl f))
  | 21 => .inr (3, [.ref (ad 22), .int (f 1), .int (f 2), .int (f 3), .int (f 4), .int (f 5)])
  | 22 => .inr (1, [.ref (ad 23), .ref (ad 24), .ref (ad 25)])
  | 23 => .inl (cA 0, (8, .inl f))
  | 24 => .inl (cA 0, (8, .inl f))
  | 25 => .inl (cA 0, (8, .inl f))
  | 26 => .inr (7, [.ref (ad 27), .ref (ad 28), .ref (ad 29), .ref (ad 30), .ref (ad 31), .int (f 5), .int (f 6), .int (f 7), .int (f 8)])
  | 27 => .inl (cA 0, (6, .inl f))
  | 28 => .inl (cA 0, (6, .inl f))
  | 29 => .inl (cA 1, (6, .inl f))
  | 30 => .inl (cA 0, (6, .inl f))
  | 31 => .inl (cA 0, (8, .inl f))
  | 32 => .inr (0, [.long g, .int (f 1), .int (f 2)])
  | 33 => .inr (10, [.ref (ad 34), .ref (ad 35), .int (f 2), .int (f 3), .int (f 4), .ref (ad 36), .int (f 6), .ref (ad 37), .ref (ad 38), .ref (ad 39), .int (f 10), .int (f 11), .int (f 12), .ref (ad 40), .ref (ad 41), .ref (ad 42), .ref (ad 43), .ref (ad 44), .ref (ad 45), .ref (ad 46), .long g, .ref (ad 47), .ref (ad 48)])
  | 34 => .inl (cA 0, (28, .inl f))
  | 35 => .inl (cA 0, (56, .inl f))
  | 36 => .inl (cA 0, (224, .inl f))
  | 37 => .inl (cA 0, (6, .inl f))
  | 38 => .inl (cA 0, (6, .inl f))
  | 39 => .inl (cA 1, (6, .inl f))
  | 40 => .inl (cA 0, (8, .inl f))
  | 41 => .inl (cA 0, (6, .inl f))
  | 42 => .inl (cA 0, (6, .inl f))
  | 43 => .inl (cA 0, (6, .inl f))
  | 44 => .inl (cA 0, (6, .inl f))
  | 45 => .inl (cA 0, (6, .inl f))
  | 46 => .inl (cA 0, (6, .inl f))
  | 47 => .inl (cA 1, (2, .inl f))
  | _ => .inl (cA 0, (28, .inl f))
  ) else if k % 2 = 1 then .inr (2, [.ref (ad (k + 1)), .int (f 1), .int (f 2), .int (f 3), .int (f 4), .int (f 5), .int (f 6), .int (f 7)]) else .inl (cA 0, (8, .inl f))
theorem sh0 {ad : Nat → Nat} {cA : Nat → ClassId} {f : Nat → Int32} {g : Int64} : shp ad cA 0 f g = .inr (9, [.ref (ad 2), .ref (ad 49), .ref (ad 51), .ref (ad 4), .ref (ad 1), .int (f 5), .ref (ad 6), .ref (ad 7), .ref (ad 26), .ref (ad 21), .ref (ad 32)]) := rfl
theorem sh1 {ad : Nat → Nat} {cA : Nat → ClassId} {f : Nat → Int32} {g : Int64} : shp ad cA 1 f g = .inl (cA 2, (2, qs (fun j => some (ad (53 + 2 * j))))) := rfl
theorem sh2 {ad : Nat → Nat} {cA : Nat → ClassId} {f : Nat → Int32} {g : Int64} : shp ad cA 2 f g = .inr (8, [.ref (ad 3), .int (f 1)]) := rfl
theorem sh3 {ad : Nat → Nat} {cA : Nat → ClassId} {f : Nat → Int32} {g : Int64} : shp ad cA 3 f g = .inl (cA 0, (56, .inl f)) := rfl
theorem sh4 {ad : Nat → Nat} {cA : Nat → ClassId} {f : Nat → Int32} {g : Int64} : shp ad cA 4 f g = .inr (6, [.ref (ad 5), .int (f 1), .int (f 2)]) := rfl
theorem sh5 {ad : Nat → Nat} {cA : Nat → ClassId} {f : Nat → Int32} {g : Int64} : shp ad cA 5 f g = .inl (cA 2, (16, qs (fun j => some (ad (57 + 2 * j))))) := rfl
theorem sh6 {ad : Nat → Nat} {cA : Nat → ClassId} {f : Nat → Int32} {g : Int64} : shp ad cA 6 f g = .inr (5, [.int (f 0), .int (f 1), .int (f 2)]) := rfl
theorem sh7 {ad : Nat → Nat} {cA : Nat → ClassId} {f : Nat → Int32} {g : Int64} : shp ad cA 7 f g = .inr (4, [.ref (ad 17), .ref (ad 8), .ref (ad 9), .ref (ad 13), .int (f 4), .int (f 5)]) := rfl
theorem sh8 {ad : Nat → Nat} {cA : Nat → ClassId} {f : Nat → Int32} {g : Int64} : shp ad cA 8 f g = .inl (cA 0, (3, .inl f)) := rfl
theorem sh9 {ad : Nat → Nat} {cA : Nat → ClassId} {f : Nat → Int32} {g : Int64} : shp ad cA 9 f g = .inl (cA 3, (3, qs (fun j => some (ad (10 + j))))) := rfl
theorem sh10 {ad : Nat → Nat} {cA : Nat → ClassId} {f : Nat → Int32} {g : Int64} : shp ad cA 10 f g = .inl (cA 0, (256, .inl f)) := rfl
theorem sh11 {ad : Nat → Nat} {cA : Nat → ClassId} {f : Nat → Int32} {g : Int64} : shp ad cA 11 f g = .inl (cA 0, (256, .inl f)) := rfl
theorem sh12 {ad : Nat → Nat} {cA : Nat → ClassId} {f : Nat → Int32} {g : Int64} : shp ad cA 12 f g = .inl (cA 0, (256, .inl f)) := rfl
theorem sh13 {ad : Nat → Nat} {cA : Nat → ClassId} {f : Nat → Int32} {g : Int64} : shp ad cA 13 f g = .inl (cA 3, (3, qs (fun j => some (ad (14 + j))))) := rfl
theorem sh14 {ad : Nat → Nat} {cA : Nat → ClassId} {f : Nat → Int32} {g : Int64} : shp ad cA 14 f g = .inl (cA 0, (81, .inl f)) := rfl
theorem sh15 {ad : Nat → Nat} {cA : Nat → ClassId} {f : Nat → Int32} {g : Int64} : shp ad cA 15 f g = .inl (cA 0, (81, .inl f)) := rfl
theorem sh16 {ad : Nat → Nat} {cA : Nat → ClassId} {f : Nat → Int32} {g : Int64} : shp ad cA 16 f g = .inl (cA 0, (81, .inl f)) := rfl
theorem sh17 {ad : Nat → Nat} {cA : Nat → ClassId} {f : Nat → Int32} {g : Int64} : shp ad cA 17 f g = .inr (1, [.ref (ad 18), .ref (ad 19), .ref (ad 20)]) := rfl
theorem sh18 {ad : Nat → Nat} {cA : Nat → ClassId} {f : Nat → Int32} {g : Int64} : shp ad cA 18 f g = .inl (cA 0, (8, .inl f)) := rfl
theorem sh19 {ad : Nat → Nat} {cA : Nat → ClassId} {f : Nat → Int32} {g : Int64} : shp ad cA 19 f g = .inl (cA 0, (8, .inl f)) := rfl
theorem sh20 {ad : Nat → Nat} {cA : Nat → ClassId} {f : Nat → Int32} {g : Int64} : shp ad cA 20 f g = .inl (cA 0, (8, .inl f)) := rfl
theorem sh21 {ad : Nat → Nat} {cA : Nat → ClassId} {f : Nat → Int32} {g : Int64} : shp ad cA 21 f g = .inr (3, [.ref (ad 22), .int (f 1), .int (f 2), .int (f 3), .int (f 4), .int (f 5)]) := rfl
theorem sh22 {ad : Nat → Nat} {cA : Nat → ClassId} {f : Nat → Int32} {g : Int64} : shp ad cA 22 f g = .inr (1, [.ref (ad 23), .ref (ad 24), .ref (ad 25)]) := rfl
theorem sh23 {ad : Nat → Nat} {cA : Nat → ClassId} {f : Nat → Int32} {g : Int64} : shp ad cA 23 f g = .inl (cA 0, (8, .inl f)) := rfl
theorem sh24 {ad : Nat → Nat} {cA : Nat → ClassId} {f : Nat → Int32} {g : Int64} : shp ad cA 24 f g = .inl (cA 0, (8, .inl f)) := rfl
theorem sh25 {ad : Nat → Nat} {cA : Nat → ClassId} {f : Nat → Int32} {g : Int64} : shp ad cA 25 f g = .inl (cA 0, (8, .inl f)) := rfl
theorem sh26 {ad : Nat → Nat} {cA : Nat → ClassId} {f : Nat → Int32} {g : Int64} : shp ad cA 26 f g = .inr (7, [.ref (ad 27), .ref (ad 28), .ref (ad 29), .ref (ad 30), .ref (ad 31), .int (f 5), .int (f 6), .int (f 7), .int (f 8)]) := rfl
theorem sh27 {ad : Nat → Nat} {cA : Nat → ClassId} {f : Nat → Int32} {g : Int64} : shp ad cA 27 f g = .inl (cA 0, (6, .inl f)) := rfl
theorem sh28 {ad : Nat → Nat} {cA : Nat → ClassId} {f : Nat → Int32} {g : Int64} : shp ad cA 28 f g = .inl (cA 0, (6, .inl f)) := rfl
theorem sh29 {ad : Nat → Nat} {cA : Nat → ClassId} {f : Nat → Int32} {g : Int64} : shp ad cA 29 f g = .inl (cA 1, (6, .inl f)) := rfl
theorem sh30 {ad : Nat → Nat} {cA : Nat → ClassId} {f : Nat → Int32} {g : Int64} : shp ad cA 30 f g = .inl (cA 0, (6, .inl f)) := rfl
theorem sh31 {ad : Nat → Nat} {cA : Nat → ClassId} {f : Nat → Int32} {g : Int64} : shp ad cA 31 f g = .inl (cA 0, (8, .inl f)) := rfl
theorem sh32 {ad : Nat → Nat} {cA : Nat → ClassId} {f : Nat → Int32} {g : Int64} : shp ad cA 32 f g = .inr (0, [.long g, .int (f 1), .int (f 2)]) := rfl
theorem sh33 {ad : Nat → Nat} {cA : Nat → ClassId} {f : Nat → Int32} {g : Int64} : shp ad cA 33 f g = .inr (10, [.ref (ad 34), .ref (ad 35), .int (f 2), .int (f 3), .int (f 4), .ref (ad 36), .int (f 6), .ref (ad 37), .ref (ad 38), .ref (ad 39), .int (f 10), .int (f 11), .int (f 12), .ref (ad 40), .ref (ad 41), .ref (ad 42), .ref (ad 43), .ref (ad 44), .ref (ad 45), .ref (ad 46), .long g, .ref (ad 47), .ref (ad 48)]) := rfl
theorem sh34 {ad : Nat → Nat} {cA : Nat → ClassId} {f : Nat → Int32} {g : Int64} : shp ad cA 34 f g = .inl (cA 0, (28, .inl f)) := rfl
theorem sh35 {ad : Nat → Nat} {cA : Nat → ClassId} {f : Nat → Int32} {g : Int64} : shp ad cA 35 f g = .inl (cA 0, (56, .inl f)) := rfl
theorem sh36 {ad : Nat → Nat} {cA : Nat → ClassId} {f : Nat → Int32} {g : Int64} : shp ad cA 36 f g = .inl (cA 0, (224, .inl f)) := rfl
theorem sh37 {ad : Nat → Nat} {cA : Nat → ClassId} {f : Nat → Int32} {g : Int64} : shp ad cA 37 f g = .inl (cA 0, (6, .inl f)) := rfl
theorem sh38 {ad : Nat → Nat} {cA : Nat → ClassId} {f : Nat → Int32} {g : Int64} : shp ad cA 38 f g = .inl (cA 0, (6, .inl f)) := rfl
theorem sh39 {ad : Nat → Nat} {cA : Nat → ClassId} {f : Nat → Int32} {g : Int64} : shp ad cA 39 f g = .inl (cA 1, (6, .inl f)) := rfl
theorem sh40 {ad : Nat → Nat} {cA : Nat → ClassId} {f : Nat → Int32} {g : Int64} : shp ad cA 40 f g = .inl (cA 0, (8, .inl f)) := rfl
theorem sh41 {ad : Nat → Nat} {cA : Nat → ClassId} {f : Nat → Int32} {g : Int64} : shp ad cA 41 f g = .inl (cA 0, (6, .inl f)) := rfl
theorem sh42 {ad : Nat → Nat} {cA : Nat → ClassId} {f : Nat → Int32} {g : Int64} : shp ad cA 42 f g = .inl (cA 0, (6, .inl f)) := rfl
theorem sh43 {ad : Nat → Nat} {cA : Nat → ClassId} {f : Nat → Int32} {g : Int64} : shp ad cA 43 f g = .inl (cA 0, (6, .inl f)) := rfl
theorem sh44 {ad : Nat → Nat} {cA : Nat → ClassId} {f : Nat → Int32} {g : Int64} : shp ad cA 44 f g = .inl (cA 0, (6, .inl f)) := rfl
theorem sh45 {ad : Nat → Nat} {cA : Nat → ClassId} {f : Nat → Int32} {g : Int64} : shp ad cA 45 f g = .inl (cA 0, (6, .inl f)) := rfl
theorem sh46 {ad : Nat → Nat} {cA : Nat → ClassId} {f : Nat → Int32} {g : Int64} : shp ad cA 46 f g = .inl (cA 0, (6, .inl f)) := rfl
theorem sh47 {ad : Nat → Nat} {cA : Nat → ClassId} {f : Nat → Int32} {g : Int64} : shp ad cA 47 f g = .inl (cA 1, (2, .inl f)) := rfl
theorem sh48 {ad : Nat → Nat} {cA : Nat → ClassId} {f : Nat → Int32} {g : Int64} : shp ad cA 48 f g = .inl (cA 0, (28, .inl f)) := rfl
/-- a house: its place -/
def hsP (h : Nat) : Prop := 49 ≤ h ∧ h < 88 ∧ h % 2 = 1
theorem shH {ad : Nat → Nat} {cA : Nat → ClassId} {f : Nat → Int32} {g : Int64} {k : Nat} (hk : hsP k) : shp ad cA k f g = .inr (2, [.ref (ad (k + 1)), .int (f 1), .int (f 2), .int (f 3), .int (f 4), .int (f 5), .int (f 6), .int (f 7)]) := by
  unfold shp
  rw [if_neg (by have := hk.1; omega), if_pos hk.2.2]
theorem shT {ad : Nat → Nat} {cA : Nat → ClassId} {f : Nat → Int32} {g : Int64} {k : Nat} (hk : hsP k) : shp ad cA (k + 1) f g = .inl (cA 0, (8, .inl f)) := by
  unfold shp
  rw [if_neg (by have := hk.1; omega), if_neg (by have := hk.2.2; omega)]
def gdP (g : Nat) : Prop := g = 17 ∨ g = 22
theorem shG {ad : Nat → Nat} {cA : Nat → ClassId} {f : Nat → Int32} {g : Int64} {k : Nat} (hk : gdP k) : shp ad cA k f g = .inr (1, [.ref (ad (k + 1)), .ref (ad (k + 2)), .ref (ad (k + 3))]) := by
  rcases hk with rfl | rfl <;> rfl
/-- an int array of n places -/
def iaP (k n : Nat) : Prop := k < 89 ∧ n < 1000 ∧ ∀ (ad : Nat → Nat) (cA : Nat → ClassId) (f : Nat → Int32) (g : Int64), shp ad cA k f g = .inl (cA 0, (n, .inl f))
theorem iaT {h : Nat} (hh : hsP h) : iaP (h + 1) 8 := ⟨by have := hh.2.1; omega, by decide, fun _ _ _ _ => shT hh⟩
theorem ia3 : iaP 3 56 := ⟨by decide, by decide, fun _ _ _ _ => rfl⟩
theorem ia8 : iaP 8 3 := ⟨by decide, by decide, fun _ _ _ _ => rfl⟩
theorem ia10 : iaP 10 256 := ⟨by decide, by decide, fun _ _ _ _ => rfl⟩
theorem ia11 : iaP 11 256 := ⟨by decide, by decide, fun _ _ _ _ => rfl⟩
theorem ia12 : iaP 12 256 := ⟨by decide, by decide, fun _ _ _ _ => rfl⟩
theorem ia14 : iaP 14 81 := ⟨by decide, by decide, fun _ _ _ _ => rfl⟩
theorem ia15 : iaP 15 81 := ⟨by decide, by decide, fun _ _ _ _ => rfl⟩
theorem ia16 : iaP 16 81 := ⟨by decide, by decide, fun _ _ _ _ => rfl⟩
theorem ia18 : iaP 18 8 := ⟨by decide, by decide, fun _ _ _ _ => rfl⟩
theorem ia19 : iaP 19 8 := ⟨by decide, by decide, fun _ _ _ _ => rfl⟩
theorem ia20 : iaP 20 8 := ⟨by decide, by decide, fun _ _ _ _ => rfl⟩
theorem ia23 : iaP 23 8 := ⟨by decide, by decide, fun _ _ _ _ => rfl⟩
theorem ia24 : iaP 24 8 := ⟨by decide, by decide, fun _ _ _ _ => rfl⟩
theorem ia25 : iaP 25 8 := ⟨by decide, by decide, fun _ _ _ _ => rfl⟩
theorem ia27 : iaP 27 6 := ⟨by decide, by decide, fun _ _ _ _ => rfl⟩
theorem ia28 : iaP 28 6 := ⟨by decide, by decide, fun _ _ _ _ => rfl⟩
theorem ia30 : iaP 30 6 := ⟨by decide, by decide, fun _ _ _ _ => rfl⟩
theorem ia31 : iaP 31 8 := ⟨by decide, by decide, fun _ _ _ _ => rfl⟩
theorem ia34 : iaP 34 28 := ⟨by decide, by decide, fun _ _ _ _ => rfl⟩
theorem ia35 : iaP 35 56 := ⟨by decide, by decide, fun _ _ _ _ => rfl⟩
theorem ia36 : iaP 36 224 := ⟨by decide, by decide, fun _ _ _ _ => rfl⟩
theorem ia37 : iaP 37 6 := ⟨by decide, by decide, fun _ _ _ _ => rfl⟩
theorem ia38 : iaP 38 6 := ⟨by decide, by decide, fun _ _ _ _ => rfl⟩
theorem ia40 : iaP 40 8 := ⟨by decide, by decide, fun _ _ _ _ => rfl⟩
theorem ia41 : iaP 41 6 := ⟨by decide, by decide, fun _ _ _ _ => rfl⟩
theorem ia42 : iaP 42 6 := ⟨by decide, by decide, fun _ _ _ _ => rfl⟩
theorem ia43 : iaP 43 6 := ⟨by decide, by decide, fun _ _ _ _ => rfl⟩
theorem ia44 : iaP 44 6 := ⟨by decide, by decide, fun _ _ _ _ => rfl⟩
theorem ia45 : iaP 45 6 := ⟨by decide, by decide, fun _ _ _ _ => rfl⟩
theorem ia46 : iaP 46 6 := ⟨by decide, by decide, fun _ _ _ _ => rfl⟩
theorem ia48 : iaP 48 28 := ⟨by decide, by decide, fun _ _ _ _ => rfl⟩
theorem iaG1 {g : Nat} (hg : gdP g) : iaP (g + 1) 8 := by rcases hg with rfl | rfl <;> exact ⟨by decide, by decide, fun _ _ _ _ => rfl⟩
theorem iaG2 {g : Nat} (hg : gdP g) : iaP (g + 2) 8 := by rcases hg with rfl | rfl <;> exact ⟨by decide, by decide, fun _ _ _ _ => rfl⟩
theorem iaG3 {g : Nat} (hg : gdP g) : iaP (g + 3) 8 := by rcases hg with rfl | rfl <;> exact ⟨by decide, by decide, fun _ _ _ _ => rfl⟩
theorem hsP.lt {h : Nat} (hh : hsP h) : h < 89 := by have := hh.2.1; omega
theorem gdP.lt {h : Nat} (hh : gdP h) : h < 89 := by rcases hh with rfl | rfl <;> decide
def cw (D : Dm) (σ : Mm) : va_W := (List.range 89).map fun k => (D.2.1 k, shp D.2.1 D.2.2 k (σ.1 k) (σ.2 k))
theorem cw_get {D : Dm} {σ : Mm} {k : Nat} (h : k < 89) : (cw D σ)[k]? = some (D.2.1 k, shp D.2.1 D.2.2 k (σ.1 k) (σ.2 k)) := by
  unfold cw
  rw [List.getElem?_map, List.getElem?_range h]
  rfl
theorem cw_none {D : Dm} {σ : Mm} {k : Nat} (h : ¬ k < 89) : (cw D σ)[k]? = none := by
  unfold cw
  rw [List.getElem?_eq_none]
  simp
  omega
theorem cw_inv {D : Dm} {σ : Mm} {k : Nat} {q : Nat × va_E} (h : (cw D σ)[k]? = some q) : k < 89 ∧ q = (D.2.1 k, shp D.2.1 D.2.2 k (σ.1 k) (σ.2 k)) := by
  by_cases hk : k < 89
  · rw [cw_get hk] at h
    exact ⟨hk, (Option.some.inj h).symm⟩
  · rw [cw_none hk] at h
    cases h
theorem cw_set {D : Dm} {σ σ' : Mm} {k : Nat} (h : k < 89) (h1 : ∀ j, j ≠ k → σ'.1 j = σ.1 j) (h2 : ∀ j, j ≠ k → σ'.2 j = σ.2 j) : (cw D σ).set k (D.2.1 k, shp D.2.1 D.2.2 k (σ'.1 k) (σ'.2 k)) = cw D σ' := by
  apply List.ext_getElem?
  intro j
  by_cases hj : k = j
  · subst hj
    rw [List.getElem?_set_self (by simp [cw]; exact h), cw_get h]
  · rw [List.getElem?_set_ne hj]
    by_cases hl : j < 89
    · rw [cw_get hl, cw_get hl, h1 j (Ne.symm hj), h2 j (Ne.symm hj)]
    · rw [cw_none hl, cw_none hl]
def inj (D : Dm) : Prop := ∀ i j, i < 89 → j < 89 → D.2.1 i = D.2.1 j → i = j
def AA (D : Dm) : Nat → Prop := fun q => ∃ k, k < 89 ∧ q = D.2.1 k
theorem cw_D {D : Dm} {σ : Mm} {A : Nat → Prop} (hi : inj D) (hA : ∀ k, k < 89 → A (D.2.1 k)) : va_D A (cw D σ) := by
  refine ⟨fun i j p q h1 h2 h => ?_, fun k q h => ?_⟩
  · obtain ⟨a1, rfl⟩ := cw_inv h1
    obtain ⟨a2, rfl⟩ := cw_inv h2
    exact hi i j a1 a2 h
  · obtain ⟨a1, rfl⟩ := cw_inv h
    exact hA k a1
def tyw (D : Dm) : List (ClassId × FieldType) := [(D.2.2 0, .int), (D.2.2 1, .boolean), (D.2.2 2, .object "LastOfKind$House"), (D.2.2 3, .array .int)]
/-- a method's world -/
def Nst (U : State) : Prop := ∀ q ∈ nestL, va_Nw (.methodLinkNest q.1 q.2.1 q.2.2.1 q.2.2.2) U
theorem Nst.warm {s U : State} (hW : s.WarmedH U.vm) (h : Nst s) : Nst U := fun q hq => va_Nw.warmM hW (h q hq)
def Wd (D : Dm) (σ : Mm) (U : State) : Prop := va_P D.1 vwCl (cw D σ) U.heap ∧ va_K D.1 vwCl (tyw D) U ∧ inj D ∧ Nst U
def Qm (D : Dm) (A : Nat → Prop) (t : Option Value × Mm) : Array Value → State → Outcome → State → Prop := fun _ st oc u => (oc = .returned t.1 ∧ va_P D.1 vwCl (cw D t.2) u.heap ∧ va_K D.1 vwCl (tyw D) u) ∧ va_F A st u
def rmd (d : Nat) : Room := { frames := d, cells := 0, slots := 0, locals := 64 * d }
abbrev wz (y : MethodName) (cc : ByteArray) (maxL : Nat) (ret : Option FieldType) : List Cond := Cond.code y cc maxL ret :: lw_ok
/-- a contract: with these arguments, over the memory σ, at depth d, y answers t.1 and leaves t.2 -/
def Ct (l : Launch) (y : MethodName) (cc : ByteArray) (maxL : Nat) (ret : Option FieldType) (d : Nat) (D : Dm) (as : List Value) (σ : Mm) (t : Option Value × Mm) : Prop :=
  Met l y (wz y cc maxL ret) (rmd d) (va_Pc as (Wd D σ)) (Qm D (AA D) t) 0 0 (AA D)
/-- a method's fixed things -/
abbrev Cx : Type := Program × Launch × Env × Room × State × MethodId × Array Value × List Frame × Method × Code × Nat × Nat × (Nat → Prop)
def Fx (X : Cx) (l : Launch) (nL : Nat) (D : Dm) (cc : ByteArray) (own : String) (dep : Nat) (ret : Option FieldType) : Prop := match X with
  | (p, l', e, R, s, m, args, below, meth, c, cells, slots, A) => l' = l ∧ p.tables.exec = Jvm.exec ∧ c.code = cc ∧ c.maxLocals = nL ∧ s.vm.findClass own = some m.cls ∧ (∀ w ∈ lw_ok, w.before args s = true) ∧ va_K D.1 vwCl (tyw D) s ∧ inj D ∧ Nst s ∧ (∀ k, k < 89 → A (D.2.1 k)) ∧ meth.locks = false ∧ meth.sig.returnType = ret ∧ dep ≤ R.frames ∧ 64 * dep ≤ R.locals ∧ cells ≤ R.cells ∧ slots ≤ R.slots
def JJ (X : Cx) (nL : Nat) (D : Dm) (σ : Mm) (pc : Nat) (ls : List (Nat × Value)) (st : List Value) (Q : State → Prop) : Prop := match X with
  | (p, l, e, R, s, m, args, below, meth, c, cells, slots, A) => ∀ (H : Heap) (locs : List Loc) (lsA : Array Slot), va_P D.1 vwCl (cw D σ) H → va_S A s.heap H locs → lv_has lsA nL ls → W p l e R s m args below meth c H locs cells slots Q (F0 m pc lsA st)
/-- how a method ends: with the answer t.1 and the memory t.2 -/
def QQ (X : Cx) (D : Dm) (t : Option Value × Mm) : State → Prop := match X with
  | (p, l, e, R, s, m, args, below, meth, c, cells, slots, A) => MQ below (Qm D A t) args s cells slots A

theorem j_iconst {X : Cx} {l : Launch} {nL : Nat} {D : Dm} {cc : ByteArray} {own : String} {dep : Nat} {ret : Option FieldType} {σ : Mm} {pc : Nat} {ls : List (Nat × Value)} {st : List Value} {Q : State → Prop} (F : Fx X l nL D cc own dep ret) {k : Int} {v : Int32} (d : decode cc pc = .ok (.iconst k, 1)) (n : Nat) (hn : pc + 1 = n) (hv : Int32.ofInt k = v) (kk : JJ X nL D σ n ls (.int v :: st) Q) : JJ X nL D σ pc ls st Q := by
  subst hn
  obtain ⟨p, l9, e, R, s, m, args, below, meth, c, cells, slots, A⟩ := X
  obtain ⟨rfl, hx, hb, hml, hown, hts, hK, hi, hNs, hA, hlk, hret, hfr, hlo, hce, hsl⟩ := F
  intro H locs lsA hP hS hl
  exact lv_iconst hx hb d hv (kk H locs lsA hP hS hl)
theorem j_bipush {X : Cx} {l : Launch} {nL : Nat} {D : Dm} {cc : ByteArray} {own : String} {dep : Nat} {ret : Option FieldType} {σ : Mm} {pc : Nat} {ls : List (Nat × Value)} {st : List Value} {Q : State → Prop} (F : Fx X l nL D cc own dep ret) {k : Int} {v : Int32} (d : decode cc pc = .ok (.bipush k, 2)) (n : Nat) (hn : pc + 2 = n) (hv : (Int8.ofInt k).toInt32 = v) (kk : JJ X nL D σ n ls (.int v :: st) Q) : JJ X nL D σ pc ls st Q := by
  subst hn
  obtain ⟨p, l9, e, R, s, m, args, below, meth, c, cells, slots, A⟩ := X
  obtain ⟨rfl, hx, hb, hml, hown, hts, hK, hi, hNs, hA, hlk, hret, hfr, hlo, hce, hsl⟩ := F
  intro H locs lsA hP hS hl
  exact lv_bipush hx hb d hv (kk H locs lsA hP hS hl)
theorem j_sipush {X : Cx} {l : Launch} {nL : Nat} {D : Dm} {cc : ByteArray} {own : String} {dep : Nat} {ret : Option FieldType} {σ : Mm} {pc : Nat} {ls : List (Nat × Value)} {st : List Value} {Q : State → Prop} (F : Fx X l nL D cc own dep ret) {k : Int} {v : Int32} (d : decode cc pc = .ok (.sipush k, 3)) (n : Nat) (hn : pc + 3 = n) (hv : (Int16.ofInt k).toInt32 = v) (kk : JJ X nL D σ n ls (.int v :: st) Q) : JJ X nL D σ pc ls st Q := by
  subst hn
  obtain ⟨p, l9, e, R, s, m, args, below, meth, c, cells, slots, A⟩ := X
  obtain ⟨rfl, hx, hb, hml, hown, hts, hK, hi, hNs, hA, hlk, hret, hfr, hlo, hce, hsl⟩ := F
  intro H locs lsA hP hS hl
  exact lv_sipush hx hb d hv (kk H locs lsA hP hS hl)
theorem j_lconst {X : Cx} {l : Launch} {nL : Nat} {D : Dm} {cc : ByteArray} {own : String} {dep : Nat} {ret : Option FieldType} {σ : Mm} {pc : Nat} {ls : List (Nat × Value)} {st : List Value} {Q : State → Prop} (F : Fx X l nL D cc own dep ret) {k : Fin 2} {v : Int64} (d : decode cc pc = .ok (.lconst k, 1)) (n : Nat) (hn : pc + 1 = n) (hv : Int64.ofNat (k : Nat) = v) (kk : JJ X nL D σ n ls (.long v :: st) Q) : JJ X nL D σ pc ls st Q := by
  subst hn
  obtain ⟨p, l9, e, R, s, m, args, below, meth, c, cells, slots, A⟩ := X
  obtain ⟨rfl, hx, hb, hml, hown, hts, hK, hi, hNs, hA, hlk, hret, hfr, hlo, hce, hsl⟩ := F
  intro H locs lsA hP hS hl
  exact lv_lconst hx hb d hv (kk H locs lsA hP hS hl)
theorem j_ldc2 {X : Cx} {l : Launch} {nL : Nat} {D : Dm} {cc : ByteArray} {own : String} {dep : Nat} {ret : Option FieldType} {σ : Mm} {pc : Nat} {ls : List (Nat × Value)} {st : List Value} {Q : State → Prop} (F : Fx X l nL D cc own dep ret) {k : Nat} {v : Int64} (d : decode cc pc = .ok (.ldc2_w k, 3)) (n : Nat) (hn : pc + 3 = n) (hq : Cond.constantLong own k v ∈ lw_ok) (kk : JJ X nL D σ n ls (.long v :: st) Q) : JJ X nL D σ pc ls st Q := by
  subst hn
  obtain ⟨p, l9, e, R, s, m, args, below, meth, c, cells, slots, A⟩ := X
  obtain ⟨rfl, hx, hb, hml, hown, hts, hK, hi, hNs, hA, hlk, hret, hfr, hlo, hce, hsl⟩ := F
  intro H locs lsA hP hS hl
  exact lv_ldc2 hx hb hown (hts _ hq) d (kk H locs lsA hP hS hl)
theorem j_ldc {X : Cx} {l : Launch} {nL : Nat} {D : Dm} {cc : ByteArray} {own : String} {dep : Nat} {ret : Option FieldType} {σ : Mm} {pc : Nat} {ls : List (Nat × Value)} {st : List Value} {Q : State → Prop} (F : Fx X l nL D cc own dep ret) {k : Nat} {v : Int32} (d : decode cc pc = .ok (.ldc k, 2)) (n : Nat) (hn : pc + 2 = n) (hq : Cond.constant own k v ∈ lw_ok) (kk : JJ X nL D σ n ls (.int v :: st) Q) : JJ X nL D σ pc ls st Q := by
  subst hn
  obtain ⟨p, l9, e, R, s, m, args, below, meth, c, cells, slots, A⟩ := X
  obtain ⟨rfl, hx, hb, hml, hown, hts, hK, hi, hNs, hA, hlk, hret, hfr, hlo, hce, hsl⟩ := F
  intro H locs lsA hP hS hl
  exact lv_ldc hx hb hown (hts _ hq) d (kk H locs lsA hP hS hl)
theorem j_iload_n {X : Cx} {l : Launch} {nL : Nat} {D : Dm} {cc : ByteArray} {own : String} {dep : Nat} {ret : Option FieldType} {σ : Mm} {pc : Nat} {ls : List (Nat × Value)} {st : List Value} {Q : State → Prop} (F : Fx X l nL D cc own dep ret) {k : Fin 4} {x : Int32} (d : decode cc pc = .ok (.iload_n k, 1)) (n : Nat) (hn : pc + 1 = n) (q : Nat) (h : ls[q]? = some ((k : Nat), .int x)) (kk : JJ X nL D σ n ls (.int x :: st) Q) : JJ X nL D σ pc ls st Q := by
  subst hn
  obtain ⟨p, l9, e, R, s, m, args, below, meth, c, cells, slots, A⟩ := X
  obtain ⟨rfl, hx, hb, hml, hown, hts, hK, hi, hNs, hA, hlk, hret, hfr, hlo, hce, hsl⟩ := F
  intro H locs lsA hP hS hl
  exact lv_iload_n hx hb d rfl (lv_at hl q h) (kk H locs lsA hP hS hl)
theorem j_iload {X : Cx} {l : Launch} {nL : Nat} {D : Dm} {cc : ByteArray} {own : String} {dep : Nat} {ret : Option FieldType} {σ : Mm} {pc : Nat} {ls : List (Nat × Value)} {st : List Value} {Q : State → Prop} (F : Fx X l nL D cc own dep ret) {k : Nat} {x : Int32} (d : decode cc pc = .ok (.iload k, 2)) (n : Nat) (hn : pc + 2 = n) (q : Nat) (h : ls[q]? = some (k, .int x)) (kk : JJ X nL D σ n ls (.int x :: st) Q) : JJ X nL D σ pc ls st Q := by
  subst hn
  obtain ⟨p, l9, e, R, s, m, args, below, meth, c, cells, slots, A⟩ := X
  obtain ⟨rfl, hx, hb, hml, hown, hts, hK, hi, hNs, hA, hlk, hret, hfr, hlo, hce, hsl⟩ := F
  intro H locs lsA hP hS hl
  exact lv_iload hx hb d (lv_at hl q h) (kk H locs lsA hP hS hl)
theorem j_lload_n {X : Cx} {l : Launch} {nL : Nat} {D : Dm} {cc : ByteArray} {own : String} {dep : Nat} {ret : Option FieldType} {σ : Mm} {pc : Nat} {ls : List (Nat × Value)} {st : List Value} {Q : State → Prop} (F : Fx X l nL D cc own dep ret) {k : Fin 4} {x : Int64} (d : decode cc pc = .ok (.lload_n k, 1)) (n : Nat) (hn : pc + 1 = n) (q : Nat) (h : ls[q]? = some ((k : Nat), .long x)) (kk : JJ X nL D σ n ls (.long x :: st) Q) : JJ X nL D σ pc ls st Q := by
  subst hn
  obtain ⟨p, l9, e, R, s, m, args, below, meth, c, cells, slots, A⟩ := X
  obtain ⟨rfl, hx, hb, hml, hown, hts, hK, hi, hNs, hA, hlk, hret, hfr, hlo, hce, hsl⟩ := F
  intro H locs lsA hP hS hl
  exact lv_lload_n hx hb d rfl (lv_at hl q h) (kk H locs lsA hP hS hl)
theorem j_lload {X : Cx} {l : Launch} {nL : Nat} {D : Dm} {cc : ByteArray} {own : String} {dep : Nat} {ret : Option FieldType} {σ : Mm} {pc : Nat} {ls : List (Nat × Value)} {st : List Value} {Q : State → Prop} (F : Fx X l nL D cc own dep ret) {k : Nat} {x : Int64} (d : decode cc pc = .ok (.lload k, 2)) (n : Nat) (hn : pc + 2 = n) (q : Nat) (h : ls[q]? = some (k, .long x)) (kk : JJ X nL D σ n ls (.long x :: st) Q) : JJ X nL D σ pc ls st Q := by
  subst hn
  obtain ⟨p, l9, e, R, s, m, args, below, meth, c, cells, slots, A⟩ := X
  obtain ⟨rfl, hx, hb, hml, hown, hts, hK, hi, hNs, hA, hlk, hret, hfr, hlo, hce, hsl⟩ := F
  intro H locs lsA hP hS hl
  exact lv_lload hx hb d (lv_at hl q h) (kk H locs lsA hP hS hl)
theorem j_aload_n {X : Cx} {l : Launch} {nL : Nat} {D : Dm} {cc : ByteArray} {own : String} {dep : Nat} {ret : Option FieldType} {σ : Mm} {pc : Nat} {ls : List (Nat × Value)} {st : List Value} {Q : State → Prop} (F : Fx X l nL D cc own dep ret) {k : Fin 4} {x : Nat} (d : decode cc pc = .ok (.aload_n k, 1)) (n : Nat) (hn : pc + 1 = n) (q : Nat) (h : ls[q]? = some ((k : Nat), .ref x)) (kk : JJ X nL D σ n ls (.ref x :: st) Q) : JJ X nL D σ pc ls st Q := by
  subst hn
  obtain ⟨p, l9, e, R, s, m, args, below, meth, c, cells, slots, A⟩ := X
  obtain ⟨rfl, hx, hb, hml, hown, hts, hK, hi, hNs, hA, hlk, hret, hfr, hlo, hce, hsl⟩ := F
  intro H locs lsA hP hS hl
  exact lv_aload_n hx hb d rfl (lv_at hl q h) (kk H locs lsA hP hS hl)
theorem j_aload {X : Cx} {l : Launch} {nL : Nat} {D : Dm} {cc : ByteArray} {own : String} {dep : Nat} {ret : Option FieldType} {σ : Mm} {pc : Nat} {ls : List (Nat × Value)} {st : List Value} {Q : State → Prop} (F : Fx X l nL D cc own dep ret) {k : Nat} {x : Nat} (d : decode cc pc = .ok (.aload k, 2)) (n : Nat) (hn : pc + 2 = n) (q : Nat) (h : ls[q]? = some (k, .ref x)) (kk : JJ X nL D σ n ls (.ref x :: st) Q) : JJ X nL D σ pc ls st Q := by
  subst hn
  obtain ⟨p, l9, e, R, s, m, args, below, meth, c, cells, slots, A⟩ := X
  obtain ⟨rfl, hx, hb, hml, hown, hts, hK, hi, hNs, hA, hlk, hret, hfr, hlo, hce, hsl⟩ := F
  intro H locs lsA hP hS hl
  exact lv_aload hx hb d (lv_at hl q h) (kk H locs lsA hP hS hl)
theorem j_istore_n {X : Cx} {l : Launch} {nL : Nat} {D : Dm} {cc : ByteArray} {own : String} {dep : Nat} {ret : Option FieldType} {σ : Mm} {pc : Nat} {ls : List (Nat × Value)} {st : List Value} {Q : State → Prop} (F : Fx X l nL D cc own dep ret) {k : Fin 4} {x : Int32} (d : decode cc pc = .ok (.istore_n k, 1)) (n : Nat) (hn : pc + 1 = n) (i : Nat) (hki : (k : Nat) = i) (hn2 : i < nL) (ls' : List (Nat × Value)) (hls : (i, Value.int x) :: ls.filter (fun q => !(q.1 == i) && !(q.1 + 1 == i && q.2.category == 2)) = ls') (kk : JJ X nL D σ n ls' st Q) : JJ X nL D σ pc ls (.int x :: st) Q := by
  subst hn
  obtain ⟨p, l9, e, R, s, m, args, below, meth, c, cells, slots, A⟩ := X
  obtain ⟨rfl, hx, hb, hml, hown, hts, hK, hi, hNs, hA, hlk, hret, hfr, hlo, hce, hsl⟩ := F
  intro H locs lsA hP hS hl
  exact lv_istore_n hx hb d hki hl hn2 hls (fun lsA hl => kk H locs lsA hP hS hl)
theorem j_istore {X : Cx} {l : Launch} {nL : Nat} {D : Dm} {cc : ByteArray} {own : String} {dep : Nat} {ret : Option FieldType} {σ : Mm} {pc : Nat} {ls : List (Nat × Value)} {st : List Value} {Q : State → Prop} (F : Fx X l nL D cc own dep ret) {i : Nat} {x : Int32} (d : decode cc pc = .ok (.istore i, 2)) (n : Nat) (hn : pc + 2 = n) (hn2 : i < nL) (ls' : List (Nat × Value)) (hls : (i, Value.int x) :: ls.filter (fun q => !(q.1 == i) && !(q.1 + 1 == i && q.2.category == 2)) = ls') (kk : JJ X nL D σ n ls' st Q) : JJ X nL D σ pc ls (.int x :: st) Q := by
  subst hn
  obtain ⟨p, l9, e, R, s, m, args, below, meth, c, cells, slots, A⟩ := X
  obtain ⟨rfl, hx, hb, hml, hown, hts, hK, hi, hNs, hA, hlk, hret, hfr, hlo, hce, hsl⟩ := F
  intro H locs lsA hP hS hl
  exact lv_istore hx hb d hl hn2 hls (fun lsA hl => kk H locs lsA hP hS hl)
theorem j_astore_n {X : Cx} {l : Launch} {nL : Nat} {D : Dm} {cc : ByteArray} {own : String} {dep : Nat} {ret : Option FieldType} {σ : Mm} {pc : Nat} {ls : List (Nat × Value)} {st : List Value} {Q : State → Prop} (F : Fx X l nL D cc own dep ret) {k : Fin 4} {x : Nat} (d : decode cc pc = .ok (.astore_n k, 1)) (n : Nat) (hn : pc + 1 = n) (i : Nat) (hki : (k : Nat) = i) (hn2 : i < nL) (ls' : List (Nat × Value)) (hls : (i, Value.ref x) :: ls.filter (fun q => !(q.1 == i) && !(q.1 + 1 == i && q.2.category == 2)) = ls') (kk : JJ X nL D σ n ls' st Q) : JJ X nL D σ pc ls (.ref x :: st) Q := by
  subst hn
  obtain ⟨p, l9, e, R, s, m, args, below, meth, c, cells, slots, A⟩ := X
  obtain ⟨rfl, hx, hb, hml, hown, hts, hK, hi, hNs, hA, hlk, hret, hfr, hlo, hce, hsl⟩ := F
  intro H locs lsA hP hS hl
  exact lv_astore_n hx hb d hki hl hn2 hls (fun lsA hl => kk H locs lsA hP hS hl)
theorem j_astore {X : Cx} {l : Launch} {nL : Nat} {D : Dm} {cc : ByteArray} {own : String} {dep : Nat} {ret : Option FieldType} {σ : Mm} {pc : Nat} {ls : List (Nat × Value)} {st : List Value} {Q : State → Prop} (F : Fx X l nL D cc own dep ret) {i : Nat} {x : Nat} (d : decode cc pc = .ok (.astore i, 2)) (n : Nat) (hn : pc + 2 = n) (hn2 : i < nL) (ls' : List (Nat × Value)) (hls : (i, Value.ref x) :: ls.filter (fun q => !(q.1 == i) && !(q.1 + 1 == i && q.2.category == 2)) = ls') (kk : JJ X nL D σ n ls' st Q) : JJ X nL D σ pc ls (.ref x :: st) Q := by
  subst hn
  obtain ⟨p, l9, e, R, s, m, args, below, meth, c, cells, slots, A⟩ := X
  obtain ⟨rfl, hx, hb, hml, hown, hts, hK, hi, hNs, hA, hlk, hret, hfr, hlo, hce, hsl⟩ := F
  intro H locs lsA hP hS hl
  exact lv_astore hx hb d hl hn2 hls (fun lsA hl => kk H locs lsA hP hS hl)
theorem j_lstore_n {X : Cx} {l : Launch} {nL : Nat} {D : Dm} {cc : ByteArray} {own : String} {dep : Nat} {ret : Option FieldType} {σ : Mm} {pc : Nat} {ls : List (Nat × Value)} {st : List Value} {Q : State → Prop} (F : Fx X l nL D cc own dep ret) {k : Fin 4} {x : Int64} (d : decode cc pc = .ok (.lstore_n k, 1)) (n : Nat) (hn : pc + 1 = n) (i : Nat) (hki : (k : Nat) = i) (hn2 : i + 1 < nL) (ls' : List (Nat × Value)) (hls : (i, Value.long x) :: ls.filter (fun q => !(q.1 == i) && (!(q.1 == i + 1) && !(q.1 + 1 == i && q.2.category == 2))) = ls') (kk : JJ X nL D σ n ls' st Q) : JJ X nL D σ pc ls (.long x :: st) Q := by
  subst hn
  obtain ⟨p, l9, e, R, s, m, args, below, meth, c, cells, slots, A⟩ := X
  obtain ⟨rfl, hx, hb, hml, hown, hts, hK, hi, hNs, hA, hlk, hret, hfr, hlo, hce, hsl⟩ := F
  intro H locs lsA hP hS hl
  exact lv_lstore_n hx hb d hki hl hn2 hls (fun lsA hl => kk H locs lsA hP hS hl)
theorem j_iinc {X : Cx} {l : Launch} {nL : Nat} {D : Dm} {cc : ByteArray} {own : String} {dep : Nat} {ret : Option FieldType} {σ : Mm} {pc : Nat} {ls : List (Nat × Value)} {st : List Value} {Q : State → Prop} (F : Fx X l nL D cc own dep ret) {i : Nat} {k : Int} {x : Int32} (d : decode cc pc = .ok (.iinc i k, 3)) (n : Nat) (hn : pc + 3 = n) (q : Nat) (hq : ls[q]? = some (i, .int x)) (v : Int32) (hv : x + Int32.ofInt k = v) (hn2 : i < nL) (ls' : List (Nat × Value)) (hls : (i, Value.int v) :: ls.filter (fun q => !(q.1 == i) && !(q.1 + 1 == i && q.2.category == 2)) = ls') (kk : JJ X nL D σ n ls' st Q) : JJ X nL D σ pc ls st Q := by
  subst hn
  obtain ⟨p, l9, e, R, s, m, args, below, meth, c, cells, slots, A⟩ := X
  obtain ⟨rfl, hx, hb, hml, hown, hts, hK, hi, hNs, hA, hlk, hret, hfr, hlo, hce, hsl⟩ := F
  intro H locs lsA hP hS hl
  exact lv_iinc (k := q) hx hb d hl hq hv hn2 hls (fun lsA hl => kk H locs lsA hP hS hl)
theorem j_pick {X : Cx} {nL : Nat} {D : Dm} {σ : Mm} {pc : Nat} {ls : List (Nat × Value)} {st : List Value} {Q : State → Prop} (ks : List Nat) (ls' : List (Nat × Value)) (h : lv_pick ls ks = ls') (kk : JJ X nL D σ pc ls' st Q) : JJ X nL D σ pc ls st Q := by
  obtain ⟨p, l9, e, R, s, m, args, below, meth, c, cells, slots, A⟩ := X
  intro H locs lsA hP hS hl
  exact kk H locs lsA hP hS (lv_sub hl ks h)
theorem j_iadd {X : Cx} {l : Launch} {nL : Nat} {D : Dm} {cc : ByteArray} {own : String} {dep : Nat} {ret : Option FieldType} {σ : Mm} {pc : Nat} {ls : List (Nat × Value)} {st : List Value} {Q : State → Prop} (F : Fx X l nL D cc own dep ret) {x y : Int32} (d : decode cc pc = .ok (.iadd, 1)) (n : Nat) (hn : pc + 1 = n) (kk : JJ X nL D σ n ls (.int (x + y) :: st) Q) : JJ X nL D σ pc ls (.int y :: .int x :: st) Q := by
  subst hn
  obtain ⟨p, l9, e, R, s, m, args, below, meth, c, cells, slots, A⟩ := X
  obtain ⟨rfl, hx, hb, hml, hown, hts, hK, hi, hNs, hA, hlk, hret, hfr, hlo, hce, hsl⟩ := F
  intro H locs lsA hP hS hl
  exact lv_iadd hx hb d (kk H locs lsA hP hS hl)
theorem j_isub {X : Cx} {l : Launch} {nL : Nat} {D : Dm} {cc : ByteArray} {own : String} {dep : Nat} {ret : Option FieldType} {σ : Mm} {pc : Nat} {ls : List (Nat × Value)} {st : List Value} {Q : State → Prop} (F : Fx X l nL D cc own dep ret) {x y : Int32} (d : decode cc pc = .ok (.isub, 1)) (n : Nat) (hn : pc + 1 = n) (kk : JJ X nL D σ n ls (.int (x - y) :: st) Q) : JJ X nL D σ pc ls (.int y :: .int x :: st) Q := by
  subst hn
  obtain ⟨p, l9, e, R, s, m, args, below, meth, c, cells, slots, A⟩ := X
  obtain ⟨rfl, hx, hb, hml, hown, hts, hK, hi, hNs, hA, hlk, hret, hfr, hlo, hce, hsl⟩ := F
  intro H locs lsA hP hS hl
  exact lv_isub hx hb d (kk H locs lsA hP hS hl)
theorem j_imul {X : Cx} {l : Launch} {nL : Nat} {D : Dm} {cc : ByteArray} {own : String} {dep : Nat} {ret : Option FieldType} {σ : Mm} {pc : Nat} {ls : List (Nat × Value)} {st : List Value} {Q : State → Prop} (F : Fx X l nL D cc own dep ret) {x y : Int32} (d : decode cc pc = .ok (.imul, 1)) (n : Nat) (hn : pc + 1 = n) (kk : JJ X nL D σ n ls (.int (x * y) :: st) Q) : JJ X nL D σ pc ls (.int y :: .int x :: st) Q := by
  subst hn
  obtain ⟨p, l9, e, R, s, m, args, below, meth, c, cells, slots, A⟩ := X
  obtain ⟨rfl, hx, hb, hml, hown, hts, hK, hi, hNs, hA, hlk, hret, hfr, hlo, hce, hsl⟩ := F
  intro H locs lsA hP hS hl
  exact lv_imul hx hb d (kk H locs lsA hP hS hl)
theorem j_iand {X : Cx} {l : Launch} {nL : Nat} {D : Dm} {cc : ByteArray} {own : String} {dep : Nat} {ret : Option FieldType} {σ : Mm} {pc : Nat} {ls : List (Nat × Value)} {st : List Value} {Q : State → Prop} (F : Fx X l nL D cc own dep ret) {x y : Int32} (d : decode cc pc = .ok (.iand, 1)) (n : Nat) (hn : pc + 1 = n) (kk : JJ X nL D σ n ls (.int (x &&& y) :: st) Q) : JJ X nL D σ pc ls (.int y :: .int x :: st) Q := by
  subst hn
  obtain ⟨p, l9, e, R, s, m, args, below, meth, c, cells, slots, A⟩ := X
  obtain ⟨rfl, hx, hb, hml, hown, hts, hK, hi, hNs, hA, hlk, hret, hfr, hlo, hce, hsl⟩ := F
  intro H locs lsA hP hS hl
  exact lv_iand hx hb d (kk H locs lsA hP hS hl)
theorem j_ior {X : Cx} {l : Launch} {nL : Nat} {D : Dm} {cc : ByteArray} {own : String} {dep : Nat} {ret : Option FieldType} {σ : Mm} {pc : Nat} {ls : List (Nat × Value)} {st : List Value} {Q : State → Prop} (F : Fx X l nL D cc own dep ret) {x y : Int32} (d : decode cc pc = .ok (.ior, 1)) (n : Nat) (hn : pc + 1 = n) (kk : JJ X nL D σ n ls (.int (x ||| y) :: st) Q) : JJ X nL D σ pc ls (.int y :: .int x :: st) Q := by
  subst hn
  obtain ⟨p, l9, e, R, s, m, args, below, meth, c, cells, slots, A⟩ := X
  obtain ⟨rfl, hx, hb, hml, hown, hts, hK, hi, hNs, hA, hlk, hret, hfr, hlo, hce, hsl⟩ := F
  intro H locs lsA hP hS hl
  exact lv_ior hx hb d (kk H locs lsA hP hS hl)
theorem j_ixor {X : Cx} {l : Launch} {nL : Nat} {D : Dm} {cc : ByteArray} {own : String} {dep : Nat} {ret : Option FieldType} {σ : Mm} {pc : Nat} {ls : List (Nat × Value)} {st : List Value} {Q : State → Prop} (F : Fx X l nL D cc own dep ret) {x y : Int32} (d : decode cc pc = .ok (.ixor, 1)) (n : Nat) (hn : pc + 1 = n) (kk : JJ X nL D σ n ls (.int (x ^^^ y) :: st) Q) : JJ X nL D σ pc ls (.int y :: .int x :: st) Q := by
  subst hn
  obtain ⟨p, l9, e, R, s, m, args, below, meth, c, cells, slots, A⟩ := X
  obtain ⟨rfl, hx, hb, hml, hown, hts, hK, hi, hNs, hA, hlk, hret, hfr, hlo, hce, hsl⟩ := F
  intro H locs lsA hP hS hl
  exact lv_ixor hx hb d (kk H locs lsA hP hS hl)
theorem j_ishl {X : Cx} {l : Launch} {nL : Nat} {D : Dm} {cc : ByteArray} {own : String} {dep : Nat} {ret : Option FieldType} {σ : Mm} {pc : Nat} {ls : List (Nat × Value)} {st : List Value} {Q : State → Prop} (F : Fx X l nL D cc own dep ret) {x y : Int32} (d : decode cc pc = .ok (.ishl, 1)) (n : Nat) (hn : pc + 1 = n) (kk : JJ X nL D σ n ls (.int (x <<< (y &&& 31)) :: st) Q) : JJ X nL D σ pc ls (.int y :: .int x :: st) Q := by
  subst hn
  obtain ⟨p, l9, e, R, s, m, args, below, meth, c, cells, slots, A⟩ := X
  obtain ⟨rfl, hx, hb, hml, hown, hts, hK, hi, hNs, hA, hlk, hret, hfr, hlo, hce, hsl⟩ := F
  intro H locs lsA hP hS hl
  exact lv_ishl hx hb d (kk H locs lsA hP hS hl)
theorem j_ishr {X : Cx} {l : Launch} {nL : Nat} {D : Dm} {cc : ByteArray} {own : String} {dep : Nat} {ret : Option FieldType} {σ : Mm} {pc : Nat} {ls : List (Nat × Value)} {st : List Value} {Q : State → Prop} (F : Fx X l nL D cc own dep ret) {x y : Int32} (d : decode cc pc = .ok (.ishr, 1)) (n : Nat) (hn : pc + 1 = n) (kk : JJ X nL D σ n ls (.int (x >>> (y &&& 31)) :: st) Q) : JJ X nL D σ pc ls (.int y :: .int x :: st) Q := by
  subst hn
  obtain ⟨p, l9, e, R, s, m, args, below, meth, c, cells, slots, A⟩ := X
  obtain ⟨rfl, hx, hb, hml, hown, hts, hK, hi, hNs, hA, hlk, hret, hfr, hlo, hce, hsl⟩ := F
  intro H locs lsA hP hS hl
  exact lv_ishr hx hb d (kk H locs lsA hP hS hl)
theorem j_iushr {X : Cx} {l : Launch} {nL : Nat} {D : Dm} {cc : ByteArray} {own : String} {dep : Nat} {ret : Option FieldType} {σ : Mm} {pc : Nat} {ls : List (Nat × Value)} {st : List Value} {Q : State → Prop} (F : Fx X l nL D cc own dep ret) {x y : Int32} (d : decode cc pc = .ok (.iushr, 1)) (n : Nat) (hn : pc + 1 = n) (kk : JJ X nL D σ n ls (.int ((x.toUInt32 >>> (y.toUInt32 &&& Int32.toUInt32 31)).toInt32) :: st) Q) : JJ X nL D σ pc ls (.int y :: .int x :: st) Q := by
  subst hn
  obtain ⟨p, l9, e, R, s, m, args, below, meth, c, cells, slots, A⟩ := X
  obtain ⟨rfl, hx, hb, hml, hown, hts, hK, hi, hNs, hA, hlk, hret, hfr, hlo, hce, hsl⟩ := F
  intro H locs lsA hP hS hl
  exact lv_iushr hx hb d rfl (kk H locs lsA hP hS hl)
theorem j_ineg {X : Cx} {l : Launch} {nL : Nat} {D : Dm} {cc : ByteArray} {own : String} {dep : Nat} {ret : Option FieldType} {σ : Mm} {pc : Nat} {ls : List (Nat × Value)} {st : List Value} {Q : State → Prop} (F : Fx X l nL D cc own dep ret) {x : Int32} (d : decode cc pc = .ok (.ineg, 1)) (n : Nat) (hn : pc + 1 = n) (kk : JJ X nL D σ n ls (.int (-x) :: st) Q) : JJ X nL D σ pc ls (.int x :: st) Q := by
  subst hn
  obtain ⟨p, l9, e, R, s, m, args, below, meth, c, cells, slots, A⟩ := X
  obtain ⟨rfl, hx, hb, hml, hown, hts, hK, hi, hNs, hA, hlk, hret, hfr, hlo, hce, hsl⟩ := F
  intro H locs lsA hP hS hl
  exact lv_ineg hx hb d (kk H locs lsA hP hS hl)
theorem j_idiv {X : Cx} {l : Launch} {nL : Nat} {D : Dm} {cc : ByteArray} {own : String} {dep : Nat} {ret : Option FieldType} {σ : Mm} {pc : Nat} {ls : List (Nat × Value)} {st : List Value} {Q : State → Prop} (F : Fx X l nL D cc own dep ret) {x y : Int32} (d : decode cc pc = .ok (.idiv, 1)) (n : Nat) (hn : pc + 1 = n) (hne : ¬ y = 0) (kk : JJ X nL D σ n ls (.int (x / y) :: st) Q) : JJ X nL D σ pc ls (.int y :: .int x :: st) Q := by
  subst hn
  obtain ⟨p, l9, e, R, s, m, args, below, meth, c, cells, slots, A⟩ := X
  obtain ⟨rfl, hx, hb, hml, hown, hts, hK, hi, hNs, hA, hlk, hret, hfr, hlo, hce, hsl⟩ := F
  intro H locs lsA hP hS hl
  exact lv_idiv hx hb d hne (kk H locs lsA hP hS hl)
theorem j_irem {X : Cx} {l : Launch} {nL : Nat} {D : Dm} {cc : ByteArray} {own : String} {dep : Nat} {ret : Option FieldType} {σ : Mm} {pc : Nat} {ls : List (Nat × Value)} {st : List Value} {Q : State → Prop} (F : Fx X l nL D cc own dep ret) {x y : Int32} (d : decode cc pc = .ok (.irem, 1)) (n : Nat) (hn : pc + 1 = n) (hne : ¬ y = 0) (kk : JJ X nL D σ n ls (.int (rm x y) :: st) Q) : JJ X nL D σ pc ls (.int y :: .int x :: st) Q := by
  subst hn
  obtain ⟨p, l9, e, R, s, m, args, below, meth, c, cells, slots, A⟩ := X
  obtain ⟨rfl, hx, hb, hml, hown, hts, hK, hi, hNs, hA, hlk, hret, hfr, hlo, hce, hsl⟩ := F
  intro H locs lsA hP hS hl
  exact lv_irem hx hb d hne (kk H locs lsA hP hS hl)
theorem j_ladd {X : Cx} {l : Launch} {nL : Nat} {D : Dm} {cc : ByteArray} {own : String} {dep : Nat} {ret : Option FieldType} {σ : Mm} {pc : Nat} {ls : List (Nat × Value)} {st : List Value} {Q : State → Prop} (F : Fx X l nL D cc own dep ret) {x y : Int64} (d : decode cc pc = .ok (.ladd, 1)) (n : Nat) (hn : pc + 1 = n) (kk : JJ X nL D σ n ls (.long (x + y) :: st) Q) : JJ X nL D σ pc ls (.long y :: .long x :: st) Q := by
  subst hn
  obtain ⟨p, l9, e, R, s, m, args, below, meth, c, cells, slots, A⟩ := X
  obtain ⟨rfl, hx, hb, hml, hown, hts, hK, hi, hNs, hA, hlk, hret, hfr, hlo, hce, hsl⟩ := F
  intro H locs lsA hP hS hl
  exact lv_ladd hx hb d (kk H locs lsA hP hS hl)
theorem j_lsub {X : Cx} {l : Launch} {nL : Nat} {D : Dm} {cc : ByteArray} {own : String} {dep : Nat} {ret : Option FieldType} {σ : Mm} {pc : Nat} {ls : List (Nat × Value)} {st : List Value} {Q : State → Prop} (F : Fx X l nL D cc own dep ret) {x y : Int64} (d : decode cc pc = .ok (.lsub, 1)) (n : Nat) (hn : pc + 1 = n) (kk : JJ X nL D σ n ls (.long (x - y) :: st) Q) : JJ X nL D σ pc ls (.long y :: .long x :: st) Q := by
  subst hn
  obtain ⟨p, l9, e, R, s, m, args, below, meth, c, cells, slots, A⟩ := X
  obtain ⟨rfl, hx, hb, hml, hown, hts, hK, hi, hNs, hA, hlk, hret, hfr, hlo, hce, hsl⟩ := F
  intro H locs lsA hP hS hl
  exact lv_lsub hx hb d (kk H locs lsA hP hS hl)
theorem j_lmul {X : Cx} {l : Launch} {nL : Nat} {D : Dm} {cc : ByteArray} {own : String} {dep : Nat} {ret : Option FieldType} {σ : Mm} {pc : Nat} {ls : List (Nat × Value)} {st : List Value} {Q : State → Prop} (F : Fx X l nL D cc own dep ret) {x y : Int64} (d : decode cc pc = .ok (.lmul, 1)) (n : Nat) (hn : pc + 1 = n) (kk : JJ X nL D σ n ls (.long (x * y) :: st) Q) : JJ X nL D σ pc ls (.long y :: .long x :: st) Q := by
  subst hn
  obtain ⟨p, l9, e, R, s, m, args, below, meth, c, cells, slots, A⟩ := X
  obtain ⟨rfl, hx, hb, hml, hown, hts, hK, hi, hNs, hA, hlk, hret, hfr, hlo, hce, hsl⟩ := F
  intro H locs lsA hP hS hl
  exact lv_lmul hx hb d (kk H locs lsA hP hS hl)
theorem j_land {X : Cx} {l : Launch} {nL : Nat} {D : Dm} {cc : ByteArray} {own : String} {dep : Nat} {ret : Option FieldType} {σ : Mm} {pc : Nat} {ls : List (Nat × Value)} {st : List Value} {Q : State → Prop} (F : Fx X l nL D cc own dep ret) {x y : Int64} (d : decode cc pc = .ok (.land, 1)) (n : Nat) (hn : pc + 1 = n) (kk : JJ X nL D σ n ls (.long (x &&& y) :: st) Q) : JJ X nL D σ pc ls (.long y :: .long x :: st) Q := by
  subst hn
  obtain ⟨p, l9, e, R, s, m, args, below, meth, c, cells, slots, A⟩ := X
  obtain ⟨rfl, hx, hb, hml, hown, hts, hK, hi, hNs, hA, hlk, hret, hfr, hlo, hce, hsl⟩ := F
  intro H locs lsA hP hS hl
  exact lv_land hx hb d (kk H locs lsA hP hS hl)
theorem j_lor {X : Cx} {l : Launch} {nL : Nat} {D : Dm} {cc : ByteArray} {own : String} {dep : Nat} {ret : Option FieldType} {σ : Mm} {pc : Nat} {ls : List (Nat × Value)} {st : List Value} {Q : State → Prop} (F : Fx X l nL D cc own dep ret) {x y : Int64} (d : decode cc pc = .ok (.lor, 1)) (n : Nat) (hn : pc + 1 = n) (kk : JJ X nL D σ n ls (.long (x ||| y) :: st) Q) : JJ X nL D σ pc ls (.long y :: .long x :: st) Q := by
  subst hn
  obtain ⟨p, l9, e, R, s, m, args, below, meth, c, cells, slots, A⟩ := X
  obtain ⟨rfl, hx, hb, hml, hown, hts, hK, hi, hNs, hA, hlk, hret, hfr, hlo, hce, hsl⟩ := F
  intro H locs lsA hP hS hl
  exact lv_lor hx hb d (kk H locs lsA hP hS hl)
theorem j_lrem {X : Cx} {l : Launch} {nL : Nat} {D : Dm} {cc : ByteArray} {own : String} {dep : Nat} {ret : Option FieldType} {σ : Mm} {pc : Nat} {ls : List (Nat × Value)} {st : List Value} {Q : State → Prop} (F : Fx X l nL D cc own dep ret) {x y : Int64} (d : decode cc pc = .ok (.lrem, 1)) (n : Nat) (hn : pc + 1 = n) (hne : ¬ y = 0) (kk : JJ X nL D σ n ls (.long (rmL x y) :: st) Q) : JJ X nL D σ pc ls (.long y :: .long x :: st) Q := by
  subst hn
  obtain ⟨p, l9, e, R, s, m, args, below, meth, c, cells, slots, A⟩ := X
  obtain ⟨rfl, hx, hb, hml, hown, hts, hK, hi, hNs, hA, hlk, hret, hfr, hlo, hce, hsl⟩ := F
  intro H locs lsA hP hS hl
  exact lv_lrem hx hb d hne (kk H locs lsA hP hS hl)
theorem j_lushr {X : Cx} {l : Launch} {nL : Nat} {D : Dm} {cc : ByteArray} {own : String} {dep : Nat} {ret : Option FieldType} {σ : Mm} {pc : Nat} {ls : List (Nat × Value)} {st : List Value} {Q : State → Prop} (F : Fx X l nL D cc own dep ret) {x : Int64} {y : Int32} (d : decode cc pc = .ok (.lushr, 1)) (n : Nat) (hn : pc + 1 = n) (kk : JJ X nL D σ n ls (.long ((x.toUInt64 >>> (y.toInt64.toUInt64 &&& Int64.toUInt64 63)).toInt64) :: st) Q) : JJ X nL D σ pc ls (.int y :: .long x :: st) Q := by
  subst hn
  obtain ⟨p, l9, e, R, s, m, args, below, meth, c, cells, slots, A⟩ := X
  obtain ⟨rfl, hx, hb, hml, hown, hts, hK, hi, hNs, hA, hlk, hret, hfr, hlo, hce, hsl⟩ := F
  intro H locs lsA hP hS hl
  exact lv_lushr hx hb d rfl (kk H locs lsA hP hS hl)
theorem j_lshl {X : Cx} {l : Launch} {nL : Nat} {D : Dm} {cc : ByteArray} {own : String} {dep : Nat} {ret : Option FieldType} {σ : Mm} {pc : Nat} {ls : List (Nat × Value)} {st : List Value} {Q : State → Prop} (F : Fx X l nL D cc own dep ret) {x : Int64} {y : Int32} (d : decode cc pc = .ok (.lshl, 1)) (n : Nat) (hn : pc + 1 = n) (kk : JJ X nL D σ n ls (.long (x <<< (y.toInt64 &&& 63)) :: st) Q) : JJ X nL D σ pc ls (.int y :: .long x :: st) Q := by
  subst hn
  obtain ⟨p, l9, e, R, s, m, args, below, meth, c, cells, slots, A⟩ := X
  obtain ⟨rfl, hx, hb, hml, hown, hts, hK, hi, hNs, hA, hlk, hret, hfr, hlo, hce, hsl⟩ := F
  intro H locs lsA hP hS hl
  exact lv_lshl hx hb d rfl (kk H locs lsA hP hS hl)
theorem j_lcmp {X : Cx} {l : Launch} {nL : Nat} {D : Dm} {cc : ByteArray} {own : String} {dep : Nat} {ret : Option FieldType} {σ : Mm} {pc : Nat} {ls : List (Nat × Value)} {st : List Value} {Q : State → Prop} (F : Fx X l nL D cc own dep ret) {x y : Int64} (d : decode cc pc = .ok (.lcmp, 1)) (n : Nat) (hn : pc + 1 = n) (kk : JJ X nL D σ n ls (.int (lg_cmp x y) :: st) Q) : JJ X nL D σ pc ls (.long y :: .long x :: st) Q := by
  subst hn
  obtain ⟨p, l9, e, R, s, m, args, below, meth, c, cells, slots, A⟩ := X
  obtain ⟨rfl, hx, hb, hml, hown, hts, hK, hi, hNs, hA, hlk, hret, hfr, hlo, hce, hsl⟩ := F
  intro H locs lsA hP hS hl
  exact W.lcmp hx hb d (kk H locs lsA hP hS hl)
theorem j_i2l {X : Cx} {l : Launch} {nL : Nat} {D : Dm} {cc : ByteArray} {own : String} {dep : Nat} {ret : Option FieldType} {σ : Mm} {pc : Nat} {ls : List (Nat × Value)} {st : List Value} {Q : State → Prop} (F : Fx X l nL D cc own dep ret) {x : Int32} (d : decode cc pc = .ok (.i2l, 1)) (n : Nat) (hn : pc + 1 = n) (kk : JJ X nL D σ n ls (.long x.toInt64 :: st) Q) : JJ X nL D σ pc ls (.int x :: st) Q := by
  subst hn
  obtain ⟨p, l9, e, R, s, m, args, below, meth, c, cells, slots, A⟩ := X
  obtain ⟨rfl, hx, hb, hml, hown, hts, hK, hi, hNs, hA, hlk, hret, hfr, hlo, hce, hsl⟩ := F
  intro H locs lsA hP hS hl
  exact lv_i2l hx hb d rfl (kk H locs lsA hP hS hl)
theorem j_dup {X : Cx} {l : Launch} {nL : Nat} {D : Dm} {cc : ByteArray} {own : String} {dep : Nat} {ret : Option FieldType} {σ : Mm} {pc : Nat} {ls : List (Nat × Value)} {st : List Value} {Q : State → Prop} (F : Fx X l nL D cc own dep ret) {v : Value} (d : decode cc pc = .ok (.dup, 1)) (n : Nat) (hn : pc + 1 = n) (hc : v.category = 1) (kk : JJ X nL D σ n ls (v :: v :: st) Q) : JJ X nL D σ pc ls (v :: st) Q := by
  subst hn
  obtain ⟨p, l9, e, R, s, m, args, below, meth, c, cells, slots, A⟩ := X
  obtain ⟨rfl, hx, hb, hml, hown, hts, hK, hi, hNs, hA, hlk, hret, hfr, hlo, hce, hsl⟩ := F
  intro H locs lsA hP hS hl
  exact lv_dup hx hb d hc (kk H locs lsA hP hS hl)
theorem j_dup2 {X : Cx} {l : Launch} {nL : Nat} {D : Dm} {cc : ByteArray} {own : String} {dep : Nat} {ret : Option FieldType} {σ : Mm} {pc : Nat} {ls : List (Nat × Value)} {st : List Value} {Q : State → Prop} (F : Fx X l nL D cc own dep ret) {v u : Value} (d : decode cc pc = .ok (.dup2, 1)) (n : Nat) (hn : pc + 1 = n) (hc : v.category = 1) (hc2 : u.category = 1) (kk : JJ X nL D σ n ls (v :: u :: v :: u :: st) Q) : JJ X nL D σ pc ls (v :: u :: st) Q := by
  subst hn
  obtain ⟨p, l9, e, R, s, m, args, below, meth, c, cells, slots, A⟩ := X
  obtain ⟨rfl, hx, hb, hml, hown, hts, hK, hi, hNs, hA, hlk, hret, hfr, hlo, hce, hsl⟩ := F
  intro H locs lsA hP hS hl
  exact lv_dup2_11 hx hb d hc hc2 (kk H locs lsA hP hS hl)
theorem j_pop {X : Cx} {l : Launch} {nL : Nat} {D : Dm} {cc : ByteArray} {own : String} {dep : Nat} {ret : Option FieldType} {σ : Mm} {pc : Nat} {ls : List (Nat × Value)} {st : List Value} {Q : State → Prop} (F : Fx X l nL D cc own dep ret) {v : Value} (d : decode cc pc = .ok (.pop, 1)) (n : Nat) (hn : pc + 1 = n) (hc : v.category = 1) (kk : JJ X nL D σ n ls st Q) : JJ X nL D σ pc ls (v :: st) Q := by
  subst hn
  obtain ⟨p, l9, e, R, s, m, args, below, meth, c, cells, slots, A⟩ := X
  obtain ⟨rfl, hx, hb, hml, hown, hts, hK, hi, hNs, hA, hlk, hret, hfr, hlo, hce, hsl⟩ := F
  intro H locs lsA hP hS hl
  exact lv_pop hx hb d hc (kk H locs lsA hP hS hl)
theorem j_goto {X : Cx} {l : Launch} {nL : Nat} {D : Dm} {cc : ByteArray} {own : String} {dep : Nat} {ret : Option FieldType} {σ : Mm} {pc : Nat} {ls : List (Nat × Value)} {st : List Value} {Q : State → Prop} (F : Fx X l nL D cc own dep ret) {off : Int} (d : decode cc pc = .ok (.goto off, 3)) (tgt : Nat) (ht : (pc : Int) + off = (tgt : Int)) (kk : JJ X nL D σ tgt ls st Q) : JJ X nL D σ pc ls st Q := by
  obtain ⟨p, l9, e, R, s, m, args, below, meth, c, cells, slots, A⟩ := X
  obtain ⟨rfl, hx, hb, hml, hown, hts, hK, hi, hNs, hA, hlk, hret, hfr, hlo, hce, hsl⟩ := F
  intro H locs lsA hP hS hl
  exact lv_goto hx hb d ht (kk H locs lsA hP hS hl)
theorem j_icmp_ge {X : Cx} {l : Launch} {nL : Nat} {D : Dm} {cc : ByteArray} {own : String} {dep : Nat} {ret : Option FieldType} {σ : Mm} {pc : Nat} {ls : List (Nat × Value)} {st : List Value} {Q : State → Prop} (F : Fx X l nL D cc own dep ret) {x y : Int32} {off : Int} (d : decode cc pc = .ok (.if_icmp .ge off, 3)) (tgt : Nat) (ht : (pc : Int) + off = (tgt : Int)) (n : Nat) (hn : pc + 3 = n) (kf : x < y → JJ X nL D σ n ls st Q) (kt : ¬ x < y → JJ X nL D σ tgt ls st Q) : JJ X nL D σ pc ls (.int y :: .int x :: st) Q := by
  subst hn
  obtain ⟨p, l9, e, R, s, m, args, below, meth, c, cells, slots, A⟩ := X
  obtain ⟨rfl, hx, hb, hml, hown, hts, hK, hi, hNs, hA, hlk, hret, hfr, hlo, hce, hsl⟩ := F
  intro H locs lsA hP hS hl
  exact lv_icmp_ge hx hb d ht (fun h => kt (Int32.not_lt.mpr h) H locs lsA hP hS hl) (fun h => kf (Int32.not_le.mp h) H locs lsA hP hS hl)
theorem j_icmp_lt {X : Cx} {l : Launch} {nL : Nat} {D : Dm} {cc : ByteArray} {own : String} {dep : Nat} {ret : Option FieldType} {σ : Mm} {pc : Nat} {ls : List (Nat × Value)} {st : List Value} {Q : State → Prop} (F : Fx X l nL D cc own dep ret) {x y : Int32} {off : Int} (d : decode cc pc = .ok (.if_icmp .lt off, 3)) (tgt : Nat) (ht : (pc : Int) + off = (tgt : Int)) (n : Nat) (hn : pc + 3 = n) (kf : y ≤ x → JJ X nL D σ n ls st Q) (kt : ¬ y ≤ x → JJ X nL D σ tgt ls st Q) : JJ X nL D σ pc ls (.int y :: .int x :: st) Q := by
  subst hn
  obtain ⟨p, l9, e, R, s, m, args, below, meth, c, cells, slots, A⟩ := X
  obtain ⟨rfl, hx, hb, hml, hown, hts, hK, hi, hNs, hA, hlk, hret, hfr, hlo, hce, hsl⟩ := F
  intro H locs lsA hP hS hl
  exact lv_icmp_lt hx hb d ht (fun h => kt (Int32.not_le.mpr h) H locs lsA hP hS hl) (fun h => kf (Int32.not_lt.mp h) H locs lsA hP hS hl)
theorem j_icmp_gt {X : Cx} {l : Launch} {nL : Nat} {D : Dm} {cc : ByteArray} {own : String} {dep : Nat} {ret : Option FieldType} {σ : Mm} {pc : Nat} {ls : List (Nat × Value)} {st : List Value} {Q : State → Prop} (F : Fx X l nL D cc own dep ret) {x y : Int32} {off : Int} (d : decode cc pc = .ok (.if_icmp .gt off, 3)) (tgt : Nat) (ht : (pc : Int) + off = (tgt : Int)) (n : Nat) (hn : pc + 3 = n) (kf : x ≤ y → JJ X nL D σ n ls st Q) (kt : ¬ x ≤ y → JJ X nL D σ tgt ls st Q) : JJ X nL D σ pc ls (.int y :: .int x :: st) Q := by
  subst hn
  obtain ⟨p, l9, e, R, s, m, args, below, meth, c, cells, slots, A⟩ := X
  obtain ⟨rfl, hx, hb, hml, hown, hts, hK, hi, hNs, hA, hlk, hret, hfr, hlo, hce, hsl⟩ := F
  intro H locs lsA hP hS hl
  exact lv_icmp_gt hx hb d ht (fun h => kt (Int32.not_le.mpr h) H locs lsA hP hS hl) (fun h => kf (Int32.not_lt.mp h) H locs lsA hP hS hl)
theorem j_icmp_le {X : Cx} {l : Launch} {nL : Nat} {D : Dm} {cc : ByteArray} {own : String} {dep : Nat} {ret : Option FieldType} {σ : Mm} {pc : Nat} {ls : List (Nat × Value)} {st : List Value} {Q : State → Prop} (F : Fx X l nL D cc own dep ret) {x y : Int32} {off : Int} (d : decode cc pc = .ok (.if_icmp .le off, 3)) (tgt : Nat) (ht : (pc : Int) + off = (tgt : Int)) (n : Nat) (hn : pc + 3 = n) (kf : y < x → JJ X nL D σ n ls st Q) (kt : ¬ y < x → JJ X nL D σ tgt ls st Q) : JJ X nL D σ pc ls (.int y :: .int x :: st) Q := by
  subst hn
  obtain ⟨p, l9, e, R, s, m, args, below, meth, c, cells, slots, A⟩ := X
  obtain ⟨rfl, hx, hb, hml, hown, hts, hK, hi, hNs, hA, hlk, hret, hfr, hlo, hce, hsl⟩ := F
  intro H locs lsA hP hS hl
  exact lv_icmp_le hx hb d ht (fun h => kt (Int32.not_lt.mpr h) H locs lsA hP hS hl) (fun h => kf (Int32.not_le.mp h) H locs lsA hP hS hl)
theorem j_icmp_eq {X : Cx} {l : Launch} {nL : Nat} {D : Dm} {cc : ByteArray} {own : String} {dep : Nat} {ret : Option FieldType} {σ : Mm} {pc : Nat} {ls : List (Nat × Value)} {st : List Value} {Q : State → Prop} (F : Fx X l nL D cc own dep ret) {x y : Int32} {off : Int} (d : decode cc pc = .ok (.if_icmp .eq off, 3)) (tgt : Nat) (ht : (pc : Int) + off = (tgt : Int)) (n : Nat) (hn : pc + 3 = n) (kf : ¬ x = y → JJ X nL D σ n ls st Q) (kt : x = y → JJ X nL D σ tgt ls st Q) : JJ X nL D σ pc ls (.int y :: .int x :: st) Q := by
  subst hn
  obtain ⟨p, l9, e, R, s, m, args, below, meth, c, cells, slots, A⟩ := X
  obtain ⟨rfl, hx, hb, hml, hown, hts, hK, hi, hNs, hA, hlk, hret, hfr, hlo, hce, hsl⟩ := F
  intro H locs lsA hP hS hl
  exact lv_icmp_eq hx hb d ht (fun h => kt h H locs lsA hP hS hl) (fun h => kf h H locs lsA hP hS hl)
theorem j_icmp_ne {X : Cx} {l : Launch} {nL : Nat} {D : Dm} {cc : ByteArray} {own : String} {dep : Nat} {ret : Option FieldType} {σ : Mm} {pc : Nat} {ls : List (Nat × Value)} {st : List Value} {Q : State → Prop} (F : Fx X l nL D cc own dep ret) {x y : Int32} {off : Int} (d : decode cc pc = .ok (.if_icmp .ne off, 3)) (tgt : Nat) (ht : (pc : Int) + off = (tgt : Int)) (n : Nat) (hn : pc + 3 = n) (kf : x = y → JJ X nL D σ n ls st Q) (kt : ¬ x = y → JJ X nL D σ tgt ls st Q) : JJ X nL D σ pc ls (.int y :: .int x :: st) Q := by
  subst hn
  obtain ⟨p, l9, e, R, s, m, args, below, meth, c, cells, slots, A⟩ := X
  obtain ⟨rfl, hx, hb, hml, hown, hts, hK, hi, hNs, hA, hlk, hret, hfr, hlo, hce, hsl⟩ := F
  intro H locs lsA hP hS hl
  exact lv_icmp_ne hx hb d ht (fun h => kt h H locs lsA hP hS hl) (fun h => kf h H locs lsA hP hS hl)
theorem j_if_eq {X : Cx} {l : Launch} {nL : Nat} {D : Dm} {cc : ByteArray} {own : String} {dep : Nat} {ret : Option FieldType} {σ : Mm} {pc : Nat} {ls : List (Nat × Value)} {st : List Value} {Q : State → Prop} (F : Fx X l nL D cc own dep ret) {x : Int32} {off : Int} (d : decode cc pc = .ok (.ifCond .eq off, 3)) (tgt : Nat) (ht : (pc : Int) + off = (tgt : Int)) (n : Nat) (hn : pc + 3 = n) (kf : ¬ x = 0 → JJ X nL D σ n ls st Q) (kt : x = 0 → JJ X nL D σ tgt ls st Q) : JJ X nL D σ pc ls (.int x :: st) Q := by
  subst hn
  obtain ⟨p, l9, e, R, s, m, args, below, meth, c, cells, slots, A⟩ := X
  obtain ⟨rfl, hx, hb, hml, hown, hts, hK, hi, hNs, hA, hlk, hret, hfr, hlo, hce, hsl⟩ := F
  intro H locs lsA hP hS hl
  exact lv_if_eq hx hb d ht (fun h => kt h H locs lsA hP hS hl) (fun h => kf h H locs lsA hP hS hl)
theorem j_if_ne {X : Cx} {l : Launch} {nL : Nat} {D : Dm} {cc : ByteArray} {own : String} {dep : Nat} {ret : Option FieldType} {σ : Mm} {pc : Nat} {ls : List (Nat × Value)} {st : List Value} {Q : State → Prop} (F : Fx X l nL D cc own dep ret) {x : Int32} {off : Int} (d : decode cc pc = .ok (.ifCond .ne off, 3)) (tgt : Nat) (ht : (pc : Int) + off = (tgt : Int)) (n : Nat) (hn : pc + 3 = n) (kf : x = 0 → JJ X nL D σ n ls st Q) (kt : ¬ x = 0 → JJ X nL D σ tgt ls st Q) : JJ X nL D σ pc ls (.int x :: st) Q := by
  subst hn
  obtain ⟨p, l9, e, R, s, m, args, below, meth, c, cells, slots, A⟩ := X
  obtain ⟨rfl, hx, hb, hml, hown, hts, hK, hi, hNs, hA, hlk, hret, hfr, hlo, hce, hsl⟩ := F
  intro H locs lsA hP hS hl
  exact lv_if_ne hx hb d ht (fun h => kt h H locs lsA hP hS hl) (fun h => kf h H locs lsA hP hS hl)
theorem j_if_lt {X : Cx} {l : Launch} {nL : Nat} {D : Dm} {cc : ByteArray} {own : String} {dep : Nat} {ret : Option FieldType} {σ : Mm} {pc : Nat} {ls : List (Nat × Value)} {st : List Value} {Q : State → Prop} (F : Fx X l nL D cc own dep ret) {x : Int32} {off : Int} (d : decode cc pc = .ok (.ifCond .lt off, 3)) (tgt : Nat) (ht : (pc : Int) + off = (tgt : Int)) (n : Nat) (hn : pc + 3 = n) (kf : 0 ≤ x → JJ X nL D σ n ls st Q) (kt : ¬ 0 ≤ x → JJ X nL D σ tgt ls st Q) : JJ X nL D σ pc ls (.int x :: st) Q := by
  subst hn
  obtain ⟨p, l9, e, R, s, m, args, below, meth, c, cells, slots, A⟩ := X
  obtain ⟨rfl, hx, hb, hml, hown, hts, hK, hi, hNs, hA, hlk, hret, hfr, hlo, hce, hsl⟩ := F
  intro H locs lsA hP hS hl
  exact lv_if_lt hx hb d ht (fun h => kt (Int32.not_le.mpr h) H locs lsA hP hS hl) (fun h => kf (Int32.not_lt.mp h) H locs lsA hP hS hl)
theorem j_if_ge {X : Cx} {l : Launch} {nL : Nat} {D : Dm} {cc : ByteArray} {own : String} {dep : Nat} {ret : Option FieldType} {σ : Mm} {pc : Nat} {ls : List (Nat × Value)} {st : List Value} {Q : State → Prop} (F : Fx X l nL D cc own dep ret) {x : Int32} {off : Int} (d : decode cc pc = .ok (.ifCond .ge off, 3)) (tgt : Nat) (ht : (pc : Int) + off = (tgt : Int)) (n : Nat) (hn : pc + 3 = n) (kf : x < 0 → JJ X nL D σ n ls st Q) (kt : ¬ x < 0 → JJ X nL D σ tgt ls st Q) : JJ X nL D σ pc ls (.int x :: st) Q := by
  subst hn
  obtain ⟨p, l9, e, R, s, m, args, below, meth, c, cells, slots, A⟩ := X
  obtain ⟨rfl, hx, hb, hml, hown, hts, hK, hi, hNs, hA, hlk, hret, hfr, hlo, hce, hsl⟩ := F
  intro H locs lsA hP hS hl
  exact lv_if_ge hx hb d ht (fun h => kt (Int32.not_lt.mpr h) H locs lsA hP hS hl) (fun h => kf (Int32.not_le.mp h) H locs lsA hP hS hl)
theorem j_if_gt {X : Cx} {l : Launch} {nL : Nat} {D : Dm} {cc : ByteArray} {own : String} {dep : Nat} {ret : Option FieldType} {σ : Mm} {pc : Nat} {ls : List (Nat × Value)} {st : List Value} {Q : State → Prop} (F : Fx X l nL D cc own dep ret) {x : Int32} {off : Int} (d : decode cc pc = .ok (.ifCond .gt off, 3)) (tgt : Nat) (ht : (pc : Int) + off = (tgt : Int)) (n : Nat) (hn : pc + 3 = n) (kf : x ≤ 0 → JJ X nL D σ n ls st Q) (kt : ¬ x ≤ 0 → JJ X nL D σ tgt ls st Q) : JJ X nL D σ pc ls (.int x :: st) Q := by
  subst hn
  obtain ⟨p, l9, e, R, s, m, args, below, meth, c, cells, slots, A⟩ := X
  obtain ⟨rfl, hx, hb, hml, hown, hts, hK, hi, hNs, hA, hlk, hret, hfr, hlo, hce, hsl⟩ := F
  intro H locs lsA hP hS hl
  exact lv_if_gt hx hb d ht (fun h => kt (Int32.not_le.mpr h) H locs lsA hP hS hl) (fun h => kf (Int32.not_lt.mp h) H locs lsA hP hS hl)
theorem j_if_le {X : Cx} {l : Launch} {nL : Nat} {D : Dm} {cc : ByteArray} {own : String} {dep : Nat} {ret : Option FieldType} {σ : Mm} {pc : Nat} {ls : List (Nat × Value)} {st : List Value} {Q : State → Prop} (F : Fx X l nL D cc own dep ret) {x : Int32} {off : Int} (d : decode cc pc = .ok (.ifCond .le off, 3)) (tgt : Nat) (ht : (pc : Int) + off = (tgt : Int)) (n : Nat) (hn : pc + 3 = n) (kf : 0 < x → JJ X nL D σ n ls st Q) (kt : ¬ 0 < x → JJ X nL D σ tgt ls st Q) : JJ X nL D σ pc ls (.int x :: st) Q := by
  subst hn
  obtain ⟨p, l9, e, R, s, m, args, below, meth, c, cells, slots, A⟩ := X
  obtain ⟨rfl, hx, hb, hml, hown, hts, hK, hi, hNs, hA, hlk, hret, hfr, hlo, hce, hsl⟩ := F
  intro H locs lsA hP hS hl
  exact lv_if_le hx hb d ht (fun h => kt (Int32.not_lt.mpr h) H locs lsA hP hS hl) (fun h => kf (Int32.not_le.mp h) H locs lsA hP hS hl)
theorem bi_0 {b : Bool} : bi b = 0 ↔ ¬ b = true := by cases b <;> decide
theorem bi_1 {b : Bool} : ¬ bi b = 0 ↔ b = true := by cases b <;> decide
theorem bi_t : bi true = 1 := rfl
theorem bi_f : bi false = 0 := rfl
theorem j_ifb_eq {X : Cx} {l : Launch} {nL : Nat} {D : Dm} {cc : ByteArray} {own : String} {dep : Nat} {ret : Option FieldType} {σ : Mm} {pc : Nat} {ls : List (Nat × Value)} {st : List Value} {Q : State → Prop} (F : Fx X l nL D cc own dep ret) {b : Bool} {off : Int} (d : decode cc pc = .ok (.ifCond .eq off, 3)) (tgt : Nat) (ht : (pc : Int) + off = (tgt : Int)) (n : Nat) (hn : pc + 3 = n) (kf : b = true → JJ X nL D σ n ls st Q) (kt : ¬ b = true → JJ X nL D σ tgt ls st Q) : JJ X nL D σ pc ls (.int (bi b) :: st) Q := by
  subst hn
  obtain ⟨p, l9, e, R, s, m, args, below, meth, c, cells, slots, A⟩ := X
  obtain ⟨rfl, hx, hb, hml, hown, hts, hK, hi, hNs, hA, hlk, hret, hfr, hlo, hce, hsl⟩ := F
  intro H locs lsA hP hS hl
  exact lv_if_eq hx hb d ht (fun h => kt (bi_0.mp h) H locs lsA hP hS hl) (fun h => kf (bi_1.mp h) H locs lsA hP hS hl)
theorem j_ifb_ne {X : Cx} {l : Launch} {nL : Nat} {D : Dm} {cc : ByteArray} {own : String} {dep : Nat} {ret : Option FieldType} {σ : Mm} {pc : Nat} {ls : List (Nat × Value)} {st : List Value} {Q : State → Prop} (F : Fx X l nL D cc own dep ret) {b : Bool} {off : Int} (d : decode cc pc = .ok (.ifCond .ne off, 3)) (tgt : Nat) (ht : (pc : Int) + off = (tgt : Int)) (n : Nat) (hn : pc + 3 = n) (kf : ¬ b = true → JJ X nL D σ n ls st Q) (kt : b = true → JJ X nL D σ tgt ls st Q) : JJ X nL D σ pc ls (.int (bi b) :: st) Q := by
  subst hn
  obtain ⟨p, l9, e, R, s, m, args, below, meth, c, cells, slots, A⟩ := X
  obtain ⟨rfl, hx, hb, hml, hown, hts, hK, hi, hNs, hA, hlk, hret, hfr, hlo, hce, hsl⟩ := F
  intro H locs lsA hP hS hl
  exact lv_if_ne hx hb d ht (fun h => kt (bi_1.mp h) H locs lsA hP hS hl) (fun h => kf (bi_0.mp h) H locs lsA hP hS hl)
theorem lc_lt {x y : Int64} : lg_cmp x y < 0 ↔ x < y := by
  unfold lg_cmp
  by_cases h : x > y
  · rw [if_pos h]
    constructor
    · intro h2; exact absurd h2 (by decide)
    · intro h2; exact absurd h2 (Int64.not_lt.mpr (Int64.le_of_lt h))
  · rw [if_neg h]
    by_cases h3 : x = y
    · rw [if_pos h3]
      constructor
      · intro h2; exact absurd h2 (by decide)
      · intro h2; rw [h3] at h2; exact absurd h2 (Int64.lt_irrefl)
    · rw [if_neg h3]
      constructor
      · intro _; exact Int64.lt_of_le_of_ne (Int64.not_lt.mp h) h3
      · intro _; decide
theorem lc_gt {x y : Int64} : 0 < lg_cmp x y ↔ y < x := by
  unfold lg_cmp
  by_cases h : x > y
  · rw [if_pos h]
    exact ⟨fun _ => h, fun _ => by decide⟩
  · rw [if_neg h]
    constructor
    · intro h2
      by_cases h3 : x = y
      · rw [if_pos h3] at h2; exact absurd h2 (by decide)
      · rw [if_neg h3] at h2; exact absurd h2 (by decide)
    · intro h2; exact absurd h2 h
theorem j_ifl_lt {X : Cx} {l : Launch} {nL : Nat} {D : Dm} {cc : ByteArray} {own : String} {dep : Nat} {ret : Option FieldType} {σ : Mm} {pc : Nat} {ls : List (Nat × Value)} {st : List Value} {Q : State → Prop} (F : Fx X l nL D cc own dep ret) {x y : Int64} {off : Int} (d : decode cc pc = .ok (.ifCond .lt off, 3)) (tgt : Nat) (ht : (pc : Int) + off = (tgt : Int)) (n : Nat) (hn : pc + 3 = n) (kf : y ≤ x → JJ X nL D σ n ls st Q) (kt : ¬ y ≤ x → JJ X nL D σ tgt ls st Q) : JJ X nL D σ pc ls (.int (lg_cmp x y) :: st) Q := by
  subst hn
  obtain ⟨p, l9, e, R, s, m, args, below, meth, c, cells, slots, A⟩ := X
  obtain ⟨rfl, hx, hb, hml, hown, hts, hK, hi, hNs, hA, hlk, hret, hfr, hlo, hce, hsl⟩ := F
  intro H locs lsA hP hS hl
  exact lv_if_lt hx hb d ht (fun h => kt (Int64.not_le.mpr (lc_lt.mp h)) H locs lsA hP hS hl) (fun h => kf (Int64.not_lt.mp (fun q => h (lc_lt.mpr q))) H locs lsA hP hS hl)
theorem j_ifl_gt {X : Cx} {l : Launch} {nL : Nat} {D : Dm} {cc : ByteArray} {own : String} {dep : Nat} {ret : Option FieldType} {σ : Mm} {pc : Nat} {ls : List (Nat × Value)} {st : List Value} {Q : State → Prop} (F : Fx X l nL D cc own dep ret) {x y : Int64} {off : Int} (d : decode cc pc = .ok (.ifCond .gt off, 3)) (tgt : Nat) (ht : (pc : Int) + off = (tgt : Int)) (n : Nat) (hn : pc + 3 = n) (kf : x ≤ y → JJ X nL D σ n ls st Q) (kt : ¬ x ≤ y → JJ X nL D σ tgt ls st Q) : JJ X nL D σ pc ls (.int (lg_cmp x y) :: st) Q := by
  subst hn
  obtain ⟨p, l9, e, R, s, m, args, below, meth, c, cells, slots, A⟩ := X
  obtain ⟨rfl, hx, hb, hml, hown, hts, hK, hi, hNs, hA, hlk, hret, hfr, hlo, hce, hsl⟩ := F
  intro H locs lsA hP hS hl
  exact lv_if_gt hx hb d ht (fun h => kt (Int64.not_le.mpr (lc_gt.mp h)) H locs lsA hP hS hl) (fun h => kf (Int64.not_lt.mp (fun q => h (lc_gt.mpr q))) H locs lsA hP hS hl)
theorem j_ifl_ge {X : Cx} {l : Launch} {nL : Nat} {D : Dm} {cc : ByteArray} {own : String} {dep : Nat} {ret : Option FieldType} {σ : Mm} {pc : Nat} {ls : List (Nat × Value)} {st : List Value} {Q : State → Prop} (F : Fx X l nL D cc own dep ret) {x y : Int64} {off : Int} (d : decode cc pc = .ok (.ifCond .ge off, 3)) (tgt : Nat) (ht : (pc : Int) + off = (tgt : Int)) (n : Nat) (hn : pc + 3 = n) (kf : x < y → JJ X nL D σ n ls st Q) (kt : ¬ x < y → JJ X nL D σ tgt ls st Q) : JJ X nL D σ pc ls (.int (lg_cmp x y) :: st) Q := by
  subst hn
  obtain ⟨p, l9, e, R, s, m, args, below, meth, c, cells, slots, A⟩ := X
  obtain ⟨rfl, hx, hb, hml, hown, hts, hK, hi, hNs, hA, hlk, hret, hfr, hlo, hce, hsl⟩ := F
  intro H locs lsA hP hS hl
  exact lv_if_ge hx hb d ht (fun h => kt (fun q => Int32.not_lt.mpr h (lc_lt.mpr q)) H locs lsA hP hS hl) (fun h => kf (lc_lt.mp (Int32.not_le.mp h)) H locs lsA hP hS hl)
theorem j_nonnull {X : Cx} {l : Launch} {nL : Nat} {D : Dm} {cc : ByteArray} {own : String} {dep : Nat} {ret : Option FieldType} {σ : Mm} {pc : Nat} {ls : List (Nat × Value)} {st : List Value} {Q : State → Prop} (F : Fx X l nL D cc own dep ret) {x : Nat} {off : Int} (d : decode cc pc = .ok (.ifnonnull off, 3)) (tgt : Nat) (ht : (pc : Int) + off = (tgt : Int)) (kk : JJ X nL D σ tgt ls st Q) : JJ X nL D σ pc ls (.ref x :: st) Q := by
  obtain ⟨p, l9, e, R, s, m, args, below, meth, c, cells, slots, A⟩ := X
  obtain ⟨rfl, hx, hb, hml, hown, hts, hK, hi, hNs, hA, hlk, hret, hfr, hlo, hce, hsl⟩ := F
  intro H locs lsA hP hS hl
  exact lv_ifnonnull hx hb d ht (kk H locs lsA hP hS hl)
theorem j_null {X : Cx} {l : Launch} {nL : Nat} {D : Dm} {cc : ByteArray} {own : String} {dep : Nat} {ret : Option FieldType} {σ : Mm} {pc : Nat} {ls : List (Nat × Value)} {st : List Value} {Q : State → Prop} (F : Fx X l nL D cc own dep ret)  (d : decode cc pc = .ok (.aconst_null, 1)) (n : Nat) (hn : pc + 1 = n) (kk : JJ X nL D σ n ls (.null :: st) Q) : JJ X nL D σ pc ls st Q := by
  subst hn
  obtain ⟨p, l9, e, R, s, m, args, below, meth, c, cells, slots, A⟩ := X
  obtain ⟨rfl, hx, hb, hml, hown, hts, hK, hi, hNs, hA, hlk, hret, hfr, hlo, hce, hsl⟩ := F
  intro H locs lsA hP hS hl
  exact lv_null hx hb d (kk H locs lsA hP hS hl)
theorem j_get {X : Cx} {l : Launch} {nL : Nat} {D : Dm} {cc : ByteArray} {own : String} {dep : Nat} {ret : Option FieldType} {σ : Mm} {pc : Nat} {ls : List (Nat × Value)} {st : List Value} {Q : State → Prop} (F : Fx X l nL D cc own dep ret) {C : String} {T : u_T} {N ci index j k : Nat} {fs : List Value} {v : Value} (d : decode cc pc = .ok (.getfield index, 3)) (n : Nat) (hn : pc + 3 = n) (hin : ∀ w ∈ u_ws C T N, w ∈ lw_ok) (hc : vwCl[ci]? = some (C, T, N)) (hk : k < 89) (hs : shp D.2.1 D.2.2 k (σ.1 k) (σ.2 k) = .inr (ci, fs)) (hj : j < N) (hl9 : Cond.fieldLink own index (T j).1 (T j).2.1 (T j).2.2.1 ∈ lw_ok) (hv : fs[j]? = some v) (kk : JJ X nL D σ n ls (v :: st) Q) : JJ X nL D σ pc ls (.ref (D.2.1 k) :: st) Q := by
  subst hn
  obtain ⟨p, l9, e, R, s, m, args, below, meth, c, cells, slots, A⟩ := X
  obtain ⟨rfl, hx, hb, hml, hown, hts, hK, hi, hNs, hA, hlk, hret, hfr, hlo, hce, hsl⟩ := F
  intro H locs lsA hP hS hl
  exact va_get hx hb hts hin hown hK hP k ((cw_get hk).trans (by rw [hs])) hc j hj (hts _ hl9) (fun _ h => h) hv d (kk H locs lsA hP hS hl)
theorem j_put {X : Cx} {l : Launch} {nL : Nat} {D : Dm} {cc : ByteArray} {own : String} {dep : Nat} {ret : Option FieldType} {σ : Mm} {pc : Nat} {ls : List (Nat × Value)} {st : List Value} {Q : State → Prop} (F : Fx X l nL D cc own dep ret) {C : String} {T : u_T} {N ci index j k : Nat} {fs : List Value} {v : Int32} (d : decode cc pc = .ok (.putfield index, 3)) (n : Nat) (hn : pc + 3 = n) (hin : ∀ w ∈ u_ws C T N, w ∈ lw_ok) (ty0 : Nat → FieldType) (hty : ∀ k, k < N → parseFieldDescriptor (T k).2.2.1 = some (ty0 k)) (hnm : ∀ a, a < N → ∀ b, b < N → a ≠ b → (T a).2.1 ≠ (T b).2.1) (hc : vwCl[ci]? = some (C, T, N)) (hk : k < 89) (hs : shp D.2.1 D.2.2 k (σ.1 k) (σ.2 k) = .inr (ci, fs)) (hs2 : shp D.2.1 D.2.2 k ((up σ k j v).1 k) ((up σ k j v).2 k) = .inr (ci, fs.set j (.int v))) (hj : j < N) (hl9 : Cond.fieldLink own index (T j).1 (T j).2.1 (T j).2.2.1 ∈ lw_ok) (hfin : (T j).2.2.2 = false) (hd : parseFieldDescriptor (T j).2.2.1 = some .int) (hlen : j < fs.length) (kk : JJ X nL D (up σ k j v) n ls st Q) : JJ X nL D σ pc ls (.int v :: .ref (D.2.1 k) :: st) Q := by
  subst hn
  obtain ⟨p, l9, e, R, s, m, args, below, meth, c, cells, slots, A⟩ := X
  obtain ⟨rfl, hx, hb, hml, hown, hts, hK, hi, hNs, hA, hlk, hret, hfr, hlo, hce, hsl⟩ := F
  intro H locs lsA hP hS hl
  refine va_put hx hb hts hin ty0 hty hnm hown hK hP (cw_D hi hA) hS k ((cw_get hk).trans (by rw [hs])) hc j hj (hts _ hl9) (fun _ h => h) hfin hd (vp_nar_int v) rfl hlen d (fun H1 locs1 hP1 _ hS1 => ?_)
  rw [← hs2, cw_set hk (fun j9 h9 => up_ne h9) (fun _ _ => rfl)] at hP1
  exact kk H1 locs1 lsA hP1 hS1 hl
theorem j_putL {X : Cx} {l : Launch} {nL : Nat} {D : Dm} {cc : ByteArray} {own : String} {dep : Nat} {ret : Option FieldType} {σ : Mm} {pc : Nat} {ls : List (Nat × Value)} {st : List Value} {Q : State → Prop} (F : Fx X l nL D cc own dep ret) {C : String} {T : u_T} {N ci index j k : Nat} {fs : List Value} {v : Int64} (d : decode cc pc = .ok (.putfield index, 3)) (n : Nat) (hn : pc + 3 = n) (hin : ∀ w ∈ u_ws C T N, w ∈ lw_ok) (ty0 : Nat → FieldType) (hty : ∀ k, k < N → parseFieldDescriptor (T k).2.2.1 = some (ty0 k)) (hnm : ∀ a, a < N → ∀ b, b < N → a ≠ b → (T a).2.1 ≠ (T b).2.1) (hc : vwCl[ci]? = some (C, T, N)) (hk : k < 89) (hs : shp D.2.1 D.2.2 k (σ.1 k) (σ.2 k) = .inr (ci, fs)) (hs2 : shp D.2.1 D.2.2 k ((upL σ k v).1 k) ((upL σ k v).2 k) = .inr (ci, fs.set j (.long v))) (hj : j < N) (hl9 : Cond.fieldLink own index (T j).1 (T j).2.1 (T j).2.2.1 ∈ lw_ok) (hfin : (T j).2.2.2 = false) (hd : parseFieldDescriptor (T j).2.2.1 = some .long) (hlen : j < fs.length) (kk : JJ X nL D (upL σ k v) n ls st Q) : JJ X nL D σ pc ls (.long v :: .ref (D.2.1 k) :: st) Q := by
  subst hn
  obtain ⟨p, l9, e, R, s, m, args, below, meth, c, cells, slots, A⟩ := X
  obtain ⟨rfl, hx, hb, hml, hown, hts, hK, hi, hNs, hA, hlk, hret, hfr, hlo, hce, hsl⟩ := F
  intro H locs lsA hP hS hl
  refine va_put hx hb hts hin ty0 hty hnm hown hK hP (cw_D hi hA) hS k ((cw_get hk).trans (by rw [hs])) hc j hj (hts _ hl9) (fun _ h => h) hfin hd rfl rfl hlen d (fun H1 locs1 hP1 _ hS1 => ?_)
  rw [← hs2, cw_set (σ' := upL σ k v) hk (fun j9 h9 => rfl) (fun j9 h9 => upL_ne h9)] at hP1
  exact kk H1 locs1 lsA hP1 hS1 hl
theorem j_iald {X : Cx} {l : Launch} {nL : Nat} {D : Dm} {cc : ByteArray} {own : String} {dep : Nat} {ret : Option FieldType} {σ : Mm} {pc : Nat} {ls : List (Nat × Value)} {st : List Value} {Q : State → Prop} (F : Fx X l nL D cc own dep ret) {k N : Nat} {i : Int32} (d : decode cc pc = .ok (.iaload, 1)) (n : Nat) (hn : pc + 1 = n) (ha : iaP k N) (hin : vp_in i N) (kk : JJ X nL D σ n ls (.int (σ.1 k i.toNatClampNeg) :: st) Q) : JJ X nL D σ pc ls (.int i :: .ref (D.2.1 k) :: st) Q := by
  subst hn
  obtain ⟨p, l9, e, R, s, m, args, below, meth, c, cells, slots, A⟩ := X
  obtain ⟨rfl, hx, hb, hml, hown, hts, hK, hi, hNs, hA, hlk, hret, hfr, hlo, hce, hsl⟩ := F
  intro H locs lsA hP hS hl
  exact va_iald hx hb hK hP k 0 ((cw_get ha.1).trans (by rw [ha.2.2])) rfl hin d (kk H locs lsA hP hS hl)
theorem j_iast {X : Cx} {l : Launch} {nL : Nat} {D : Dm} {cc : ByteArray} {own : String} {dep : Nat} {ret : Option FieldType} {σ : Mm} {pc : Nat} {ls : List (Nat × Value)} {st : List Value} {Q : State → Prop} (F : Fx X l nL D cc own dep ret) {k N : Nat} {i v : Int32} (d : decode cc pc = .ok (.iastore, 1)) (n : Nat) (hn : pc + 1 = n) (ha : iaP k N) (hin : vp_in i N) (kk : JJ X nL D (up σ k i.toNatClampNeg v) n ls st Q) : JJ X nL D σ pc ls (.int v :: .int i :: .ref (D.2.1 k) :: st) Q := by
  subst hn
  obtain ⟨p, l9, e, R, s, m, args, below, meth, c, cells, slots, A⟩ := X
  obtain ⟨rfl, hx, hb, hml, hown, hts, hK, hi, hNs, hA, hlk, hret, hfr, hlo, hce, hsl⟩ := F
  intro H locs lsA hP hS hl
  refine va_iast hx hb hK hP (cw_D hi hA) hS k 0 ((cw_get ha.1).trans (by rw [ha.2.2])) rfl hin d (fun H1 locs1 hP1 _ hS1 => ?_)
  have e : ((D.2.1 k, (Sum.inl (D.2.2 0, N, Sum.inl (upd (σ.1 k) i.toNatClampNeg v)) : va_E))) = (D.2.1 k, shp D.2.1 D.2.2 k ((up σ k i.toNatClampNeg v).1 k) ((up σ k i.toNatClampNeg v).2 k)) := by rw [ha.2.2, up_upd]
  rw [e, cw_set ha.1 (fun j9 h9 => up_ne h9) (fun _ _ => rfl)] at hP1
  exact kk H1 locs1 lsA hP1 hS1 hl
theorem j_alen {X : Cx} {l : Launch} {nL : Nat} {D : Dm} {cc : ByteArray} {own : String} {dep : Nat} {ret : Option FieldType} {σ : Mm} {pc : Nat} {ls : List (Nat × Value)} {st : List Value} {Q : State → Prop} (F : Fx X l nL D cc own dep ret) {k N : Nat} (d : decode cc pc = .ok (.arraylength, 1)) (n : Nat) (hn : pc + 1 = n) (ha : iaP k N) (kk : JJ X nL D σ n ls (.int (nI N) :: st) Q) : JJ X nL D σ pc ls (.ref (D.2.1 k) :: st) Q := by
  subst hn
  obtain ⟨p, l9, e, R, s, m, args, below, meth, c, cells, slots, A⟩ := X
  obtain ⟨rfl, hx, hb, hml, hown, hts, hK, hi, hNs, hA, hlk, hret, hfr, hlo, hce, hsl⟩ := F
  intro H locs lsA hP hS hl
  exact va_alen (x := (N, .inl (σ.1 k))) hx hb hK hP k 0 ((cw_get ha.1).trans (by rw [ha.2.2])) rfl rfl d (kk H locs lsA hP hS hl)
theorem j_zald {X : Cx} {l : Launch} {nL : Nat} {D : Dm} {cc : ByteArray} {own : String} {dep : Nat} {ret : Option FieldType} {σ : Mm} {pc : Nat} {ls : List (Nat × Value)} {st : List Value} {Q : State → Prop} (F : Fx X l nL D cc own dep ret) {k N : Nat} {i : Int32} (d : decode cc pc = .ok (.baload, 1)) (n : Nat) (hn : pc + 1 = n) (hk : k < 89) (ha : ∀ f g, shp D.2.1 D.2.2 k f g = .inl (D.2.2 1, (N, .inl f))) (hin : vp_in i N) (kk : JJ X nL D σ n ls (.int (σ.1 k i.toNatClampNeg) :: st) Q) : JJ X nL D σ pc ls (.int i :: .ref (D.2.1 k) :: st) Q := by
  subst hn
  obtain ⟨p, l9, e, R, s, m, args, below, meth, c, cells, slots, A⟩ := X
  obtain ⟨rfl, hx, hb, hml, hown, hts, hK, hi, hNs, hA, hlk, hret, hfr, hlo, hce, hsl⟩ := F
  intro H locs lsA hP hS hl
  exact va_zald hx hb hK hP k 1 ((cw_get hk).trans (by rw [ha])) rfl hin d (kk H locs lsA hP hS hl)
theorem j_zast {X : Cx} {l : Launch} {nL : Nat} {D : Dm} {cc : ByteArray} {own : String} {dep : Nat} {ret : Option FieldType} {σ : Mm} {pc : Nat} {ls : List (Nat × Value)} {st : List Value} {Q : State → Prop} (F : Fx X l nL D cc own dep ret) {k N : Nat} {i v v' : Int32} (d : decode cc pc = .ok (.bastore, 1)) (n : Nat) (hn : pc + 1 = n) (hk : k < 89) (ha : ∀ f g, shp D.2.1 D.2.2 k f g = .inl (D.2.2 1, (N, .inl f))) (hin : vp_in i N) (hv : vp_nar .boolean v = v') (kk : JJ X nL D (up σ k i.toNatClampNeg v') n ls st Q) : JJ X nL D σ pc ls (.int v :: .int i :: .ref (D.2.1 k) :: st) Q := by
  subst hn
  subst hv
  obtain ⟨p, l9, e, R, s, m, args, below, meth, c, cells, slots, A⟩ := X
  obtain ⟨rfl, hx, hb, hml, hown, hts, hK, hi, hNs, hA, hlk, hret, hfr, hlo, hce, hsl⟩ := F
  intro H locs lsA hP hS hl
  refine va_zast hx hb hK hP (cw_D hi hA) hS k 1 ((cw_get hk).trans (by rw [ha])) rfl hin d (fun H1 locs1 hP1 _ hS1 => ?_)
  have e : ((D.2.1 k, (Sum.inl (D.2.2 1, N, Sum.inl (upd (σ.1 k) i.toNatClampNeg (vp_nar .boolean v))) : va_E))) = (D.2.1 k, shp D.2.1 D.2.2 k ((up σ k i.toNatClampNeg (vp_nar .boolean v)).1 k) ((up σ k i.toNatClampNeg (vp_nar .boolean v)).2 k)) := by rw [ha, up_upd]
  rw [e, cw_set hk (fun j9 h9 => up_ne h9) (fun _ _ => rfl)] at hP1
  exact kk H1 locs1 lsA hP1 hS1 hl
theorem j_qald {X : Cx} {l : Launch} {nL : Nat} {D : Dm} {cc : ByteArray} {own : String} {dep : Nat} {ret : Option FieldType} {σ : Mm} {pc : Nat} {ls : List (Nat × Value)} {st : List Value} {Q : State → Prop} (F : Fx X l nL D cc own dep ret) {k N : Nat} {i : Int32} {f : Nat → Option Nat} {a : Nat} (d : decode cc pc = .ok (.aaload, 1)) (n : Nat) (hn : pc + 1 = n) (hk : k < 89) (ha : shp D.2.1 D.2.2 k (σ.1 k) (σ.2 k) = .inl (D.2.2 2, (N, qs f))) (hin : vp_in i N) (hf : f i.toNatClampNeg = some a) (kk : JJ X nL D σ n ls (.ref a :: st) Q) : JJ X nL D σ pc ls (.int i :: .ref (D.2.1 k) :: st) Q := by
  subst hn
  obtain ⟨p, l9, e, R, s, m, args, below, meth, c, cells, slots, A⟩ := X
  obtain ⟨rfl, hx, hb, hml, hown, hts, hK, hi, hNs, hA, hlk, hret, hfr, hlo, hce, hsl⟩ := F
  intro H locs lsA hP hS hl
  refine va_aldq hx hb hK hP k 2 ((cw_get hk).trans (by rw [ha])) rfl hin d ?_
  rw [hf]
  exact kk H locs lsA hP hS hl
theorem j_qald2 {X : Cx} {l : Launch} {nL : Nat} {D : Dm} {cc : ByteArray} {own : String} {dep : Nat} {ret : Option FieldType} {σ : Mm} {pc : Nat} {ls : List (Nat × Value)} {st : List Value} {Q : State → Prop} (F : Fx X l nL D cc own dep ret) {k N : Nat} {i : Int32} {f : Nat → Option Nat} {a : Nat} (d : decode cc pc = .ok (.aaload, 1)) (n : Nat) (hn : pc + 1 = n) (hk : k < 89) (ha : shp D.2.1 D.2.2 k (σ.1 k) (σ.2 k) = .inl (D.2.2 3, (N, qs f))) (hin : vp_in i N) (hf : f i.toNatClampNeg = some a) (kk : JJ X nL D σ n ls (.ref a :: st) Q) : JJ X nL D σ pc ls (.int i :: .ref (D.2.1 k) :: st) Q := by
  subst hn
  obtain ⟨p, l9, e, R, s, m, args, below, meth, c, cells, slots, A⟩ := X
  obtain ⟨rfl, hx, hb, hml, hown, hts, hK, hi, hNs, hA, hlk, hret, hfr, hlo, hce, hsl⟩ := F
  intro H locs lsA hP hS hl
  have hlt : i.toNatClampNeg < N := Nat.not_le.mp fun q => hin (Or.inr q)
  have h9 := hP k _ ((cw_get hk).trans (by rw [ha]))
  refine W.aald (v := va_rf (f i.toNatClampNeg)) (ty := .array .int) hx hb h9 ((hK.2 3 _ rfl).1 N (fun j => va_rf (f j))) rfl (fun q => by cases q) (by show ¬ (i < 0 ∨ (arrV _ _ _).slots.size ≤ _); rw [arrV_size]; exact hin) (by show (arrV _ _ _).slots[_]? = _; rw [arrV_read _ _ hlt]) rfl rfl d ?_
  rw [hf]
  exact kk H locs lsA hP hS hl
theorem j_ret_i {X : Cx} {l : Launch} {nL : Nat} {D : Dm} {cc : ByteArray} {own : String} {dep : Nat} {ret : Option FieldType} {σ : Mm} {pc : Nat} {ls : List (Nat × Value)} {st : List Value} (F : Fx X l nL D cc own dep ret) {x : Int32} {t : Option Value × Mm} (d : decode cc pc = .ok (.ireturn, 1)) (hr : ret = some .int) (h1 : t.1 = some (.int x)) (h2 : t.2 = σ) : JJ X nL D σ pc ls ([.int x]) (QQ X D t) := by
  obtain ⟨p, l9, e, R, s, m, args, below, meth, c, cells, slots, A⟩ := X
  obtain ⟨rfl, hx, hb, hml, hown, hts, hK, hi, hNs, hA, hlk, hret, hfr, hlo, hce, hsl⟩ := F
  intro H locs lsA hP hS hl
  subst hret
  exact W.iret hx hb hr (fun u hu hW => ⟨⟨by rw [h1], by rw [h2, hu]; exact hP, va_K.moved hW.alike hK⟩, hS.F hu⟩) hS.2.2 d hlk
theorem bi_nar (b : Bool) : narrow .boolean (.int (bi b)) = .int (bi b) := by cases b <;> rfl
theorem j_ret_b {X : Cx} {l : Launch} {nL : Nat} {D : Dm} {cc : ByteArray} {own : String} {dep : Nat} {ret : Option FieldType} {σ : Mm} {pc : Nat} {ls : List (Nat × Value)} {st : List Value} (F : Fx X l nL D cc own dep ret) {b : Bool} {t : Option Value × Mm} (d : decode cc pc = .ok (.ireturn, 1)) (hr : ret = some .boolean) (h1 : t.1 = some (.int (bi b))) (h2 : t.2 = σ) : JJ X nL D σ pc ls ([.int (bi b)]) (QQ X D t) := by
  obtain ⟨p, l9, e, R, s, m, args, below, meth, c, cells, slots, A⟩ := X
  obtain ⟨rfl, hx, hb, hml, hown, hts, hK, hi, hNs, hA, hlk, hret, hfr, hlo, hce, hsl⟩ := F
  intro H locs lsA hP hS hl
  subst hret
  exact W.zret hx hb hr (bi_nar b) (fun u hu hW => ⟨⟨by rw [h1], by rw [h2, hu]; exact hP, va_K.moved hW.alike hK⟩, hS.F hu⟩) hS.2.2 d hlk
theorem j_ret_l {X : Cx} {l : Launch} {nL : Nat} {D : Dm} {cc : ByteArray} {own : String} {dep : Nat} {ret : Option FieldType} {σ : Mm} {pc : Nat} {ls : List (Nat × Value)} {st : List Value} (F : Fx X l nL D cc own dep ret) {x : Int64} {t : Option Value × Mm} (d : decode cc pc = .ok (.lreturn, 1)) (hr : ret = some .long) (h1 : t.1 = some (.long x)) (h2 : t.2 = σ) : JJ X nL D σ pc ls ([.long x]) (QQ X D t) := by
  obtain ⟨p, l9, e, R, s, m, args, below, meth, c, cells, slots, A⟩ := X
  obtain ⟨rfl, hx, hb, hml, hown, hts, hK, hi, hNs, hA, hlk, hret, hfr, hlo, hce, hsl⟩ := F
  intro H locs lsA hP hS hl
  subst hret
  exact W.lret hx hb hr (fun u hu hW => ⟨⟨by rw [h1], by rw [h2, hu]; exact hP, va_K.moved hW.alike hK⟩, hS.F hu⟩) hS.2.2 d hlk
theorem j_ret_v {X : Cx} {l : Launch} {nL : Nat} {D : Dm} {cc : ByteArray} {own : String} {dep : Nat} {ret : Option FieldType} {σ : Mm} {pc : Nat} {ls : List (Nat × Value)} {st : List Value} (F : Fx X l nL D cc own dep ret) {t : Option Value × Mm} (d : decode cc pc = .ok (.return_, 1)) (hr : ret = none) (h1 : t.1 = none) (h2 : t.2 = σ) : JJ X nL D σ pc ls [] (QQ X D t) := by
  obtain ⟨p, l9, e, R, s, m, args, below, meth, c, cells, slots, A⟩ := X
  obtain ⟨rfl, hx, hb, hml, hown, hts, hK, hi, hNs, hA, hlk, hret, hfr, hlo, hce, hsl⟩ := F
  intro H locs lsA hP hS hl
  subst hret
  exact W.vret hx hb hr (fun u hu hW => ⟨⟨by rw [h1], by rw [h2, hu]; exact hP, va_K.moved hW.alike hK⟩, hS.F hu⟩) hS.2.2 d hlk
theorem j_ret_a {X : Cx} {l : Launch} {nL : Nat} {D : Dm} {cc : ByteArray} {own : String} {dep : Nat} {ret : Option FieldType} {σ : Mm} {pc : Nat} {ls : List (Nat × Value)} {st : List Value} (F : Fx X l nL D cc own dep ret) {x : Nat} {C : String} {t : Option Value × Mm} (d : decode cc pc = .ok (.areturn, 1)) (hr : ret = some (.object C)) (h1 : t.1 = some (.ref x)) (h2 : t.2 = σ) : JJ X nL D σ pc ls ([.ref x]) (QQ X D t) := by
  obtain ⟨p, l9, e, R, s, m, args, below, meth, c, cells, slots, A⟩ := X
  obtain ⟨rfl, hx, hb, hml, hown, hts, hK, hi, hNs, hA, hlk, hret, hfr, hlo, hce, hsl⟩ := F
  intro H locs lsA hP hS hl
  subst hret
  exact W.aret hx hb hr (Or.inl ⟨_, rfl⟩) (Or.inr ⟨_, rfl⟩) (fun u hu hW => ⟨⟨by rw [h1], by rw [h2, hu]; exact hP, va_K.moved hW.alike hK⟩, hS.F hu⟩) hS.2.2 d hlk
theorem wz_good {y : MethodName} {cc : ByteArray} {maxL : Nat} {ret : Option FieldType} (h : Cond.code y cc maxL ret ∈ lw_ok) : GoodIn lw_ok (wz y cc maxL ret) := by
  intro w hw
  rcases List.mem_cons.mp hw with rfl | hw
  · exact ⟨h, good_of_word (List.mem_filter.mp h).2⟩
  · exact ⟨hw, good_of_word (List.mem_filter.mp hw).2⟩
theorem Wd_blind {D : Dm} {σ : Mm} {as : List Value} : FrameBlind (va_Pc as (Wd D σ)) := fun a U g mk q => ⟨q.1, q.2.1, va_K.moved (u := U) (U := U.calling g mk a) (Vm.Alike.refl U.vm) q.2.2.1, q.2.2.2.1, fun x hx => va_Nw.same (by rfl) (by rfl) (q.2.2.2.2 x hx)⟩
theorem AA_in {D : Dm} {A : Nat → Prop} (hA : ∀ k, k < 89 → A (D.2.1 k)) : ∀ q, AA D q → A q := fun q ⟨k, h, e⟩ => by rw [e]; exact hA k h
section JRUN
variable {p : Program} {l : Launch} {e : Env} {R : Room} {s : State} {m : MethodId} {args : Array Value} {below : List Frame} {meth : Method} {c : Code} {H : Heap} {locs : List Loc} {cells slots : Nat} {Q : State → Prop}
theorem j_run {D : Dm} {A : Nat → Prop} {t : Option Value × Mm} {a : Array Value} {pc : Nat} {lsA : Array Slot} {rest st0 : List Value} (hr : va_Run p l e R s m args below meth c H locs cells slots 0 0 (F0 m pc lsA st0) rest (Qm D (AA D) t a) (AA D)) (hS : va_S A s.heap H locs) (hA : ∀ k, k < 89 → A (D.2.1 k))
    (kk : ∀ (H1 : Heap) (locs1 : List Loc), va_P D.1 vwCl (cw D t.2) H1 → va_S A s.heap H1 locs1 → W p l e R s m args below meth c H1 locs1 cells slots Q (F0 m (pc + 3) lsA (t.1.toList ++ rest))) : W p l e R s m args below meth c H locs cells slots Q (F0 m pc lsA st0) := by
  intro T hT X
  obtain ⟨v, st₀, u, T', L, h0, X', hL, e1, e2, ⟨⟨hv, hp, -⟩, hz, hk⟩, st⟩ := hr T hT X
  have ev : v = t.1 := by
    injection hv
  subst ev
  rw [h0] at hz hk
  have hAA := AA_in hA
  obtain ⟨t2, a1, b1⟩ := kk T'.heap (locs ++ L) (by rw [e1]; exact hp)
    ⟨Nat.le_trans hS.1 (by rw [e1]; exact hz), fun q h1 h2 => by rw [e1, hk q (Nat.lt_of_lt_of_le h1 hS.1) (fun z => h2 (hAA q z))]; exact hS.2.1 q h1 h2, fun q hq => by
      rcases List.mem_append.mp hq with h | h
      · exact hS.2.2 q h
      · exact hAA _ (hL q h)⟩ T' rfl X'
  exact ⟨t2, st t2 a1, b1⟩
end JRUN
/-- the sum of what stands below a call -/
abbrev catS (st : List Value) : Nat := (st.map fun v => v.category).sum
theorem jcb_of {R : Room} {s : State} {args : Array Value} {own : String} {index mx n9 d9 dep : Nat} {y : MethodName} {c9 : ByteArray} {r9 : Option FieldType} (hts : ∀ w ∈ lw_ok, w.before args s = true) (hc : Cond.code y c9 mx r9 ∈ lw_ok) (hini : Cond.initialized y.cls ∈ lw_ok) (hne : y.cls ≠ "java/lang/invoke/MethodHandle" ∧ y.cls ≠ "java/lang/invoke/VarHandle") (hl : Cond.methodLink own index y ∈ lw_ok) (hp9 : (parseMethodDescriptor y.desc).map (fun d => d.parameters.length) = some n9) (hdep : d9 < dep) (hmx : mx ≤ 45) (hfr : dep ≤ R.frames) (hlo : 64 * dep ≤ R.locals) : CallB R s args own index y c9 mx r9 (wz y c9 mx r9) (rmd d9) 0 0 n9 :=
  callB_of n9 hts (wz_good hc) rfl rfl rfl (hts _ hini) (hts _ hl) ⟨hne.1, hne.2, hp9⟩ ⟨Nat.le_trans hdep hfr, by show 8 + (mx + 11) + 64 * d9 ≤ R.locals; omega⟩
theorem jcn_of {R : Room} {s : State} {args : Array Value} {own host : String} {index mx n9 d9 dep : Nat} {y : MethodName} {c9 : ByteArray} {r9 : Option FieldType} (hts : ∀ w ∈ lw_ok, w.before args s = true) (hc : Cond.code y c9 mx r9 ∈ lw_ok) (hini : Cond.initialized y.cls ∈ lw_ok) (hne : y.cls ≠ "java/lang/invoke/MethodHandle" ∧ y.cls ≠ "java/lang/invoke/VarHandle") (hl : va_Nw (.methodLinkNest own index y host) s) (hp9 : (parseMethodDescriptor y.desc).map (fun d => d.parameters.length) = some n9) (hdep : d9 < dep) (hmx : mx ≤ 45) (hfr : dep ≤ R.frames) (hlo : 64 * dep ≤ R.locals) : va_CN R s args own index y host c9 mx r9 (wz y c9 mx r9) (rmd d9) 0 0 n9 :=
  va_cnB n9 hts (wz_good hc) rfl rfl rfl hl (hts _ hini) ⟨hne.1, hne.2, hp9⟩ ⟨Nat.le_trans hdep hfr, by show 8 + (mx + 11) + 64 * d9 ≤ R.locals; omega⟩
theorem j_callV {X : Cx} {l : Launch} {nL : Nat} {D : Dm} {cc : ByteArray} {own : String} {dep : Nat} {ret : Option FieldType} {σ : Mm} {pc : Nat} {ls : List (Nat × Value)} {st : List Value} {Q : State → Prop} (F : Fx X l nL D cc own dep ret) {y : MethodName} {c9 : ByteArray} {mx index n9 d9 : Nat} {r9 : Option FieldType} {as : List Value} {t : Option Value × Mm} {st9 : List Value} {k ci : Nat} {q9 : vw_C} {fs : List Value} (cv : jCV y c9 mx r9) (d : decode cc pc = .ok (.invokevirtual index, 3)) (n : Nat) (hn : pc + 3 = n) (hp9 : (parseMethodDescriptor y.desc).map (fun d => d.parameters.length) = some n9) (hlen : as.length = n9) (hdep : d9 < dep) (hmx : mx ≤ 45) (hst : catS st ≤ 8) (hst9 : as.reverse ++ .ref (D.2.1 k) :: st = st9) (hl9 : Cond.methodLink own index y ∈ lw_ok) (hc9 : vwCl[ci]? = some q9) (hq9 : q9.1 = y.cls) (hk : k < 89) (hs : shp D.2.1 D.2.2 k (σ.1 k) (σ.2 k) = .inr (ci, fs)) (hM : Ct l y c9 mx r9 d9 D (.ref (D.2.1 k) :: as) σ t) (kk : JJ X nL D t.2 n ls (t.1.toList ++ st) Q) : JJ X nL D σ pc ls st9 Q := by
  subst hn
  subst hst9
  obtain ⟨p, l9, e, R, s, m, args, below, meth, c, cells, slots, A⟩ := X
  obtain ⟨rfl, hx, hb, hml, hown, hts, hK, hi, hNs, hA, hlk, hret, hfr, hlo, hce, hsl⟩ := F
  intro H locs lsA hP hS hl
  obtain ⟨c1, c2, c3, c4, c5⟩ := cv
  have hrec := va_recv hK hP hc9 ((cw_get hk).trans (by rw [hs]))
  rw [hq9] at hrec
  exact j_run (va_runV (As := as) (rest := st) ⟨hx, hb, hml, hown, hts⟩ hM ⟨jcb_of hts c1 c4 c5 hl9 hp9 hdep hmx hfr hlo, hts _ c2, hts _ c3⟩ ⟨Wd_blind, hrec, fun U hU hW => ⟨rfl, by rw [hU]; exact hP, va_K.moved hW.alike hK, hi, hNs.warm hW⟩⟩ rfl hlen hl.1 rfl (lv_room hst) d ⟨hce, hsl⟩) hS hA (fun H1 locs1 hP1 hS1 => kk H1 locs1 lsA hP1 hS1 hl)
theorem j_callS {X : Cx} {l : Launch} {nL : Nat} {D : Dm} {cc : ByteArray} {own : String} {dep : Nat} {ret : Option FieldType} {σ : Mm} {pc : Nat} {ls : List (Nat × Value)} {st : List Value} {Q : State → Prop} (F : Fx X l nL D cc own dep ret) {y : MethodName} {c9 : ByteArray} {mx index n9 d9 : Nat} {r9 : Option FieldType} {as : List Value} {t : Option Value × Mm} {st9 : List Value} (cv : jCS y c9 mx r9) (d : decode cc pc = .ok (.invokestatic index, 3)) (n : Nat) (hn : pc + 3 = n) (hp9 : (parseMethodDescriptor y.desc).map (fun d => d.parameters.length) = some n9) (hlen : as.length = n9) (hdep : d9 < dep) (hmx : mx ≤ 45) (hst : catS st ≤ 8) (hst9 : as.reverse ++ st = st9) (hl9 : Cond.methodLink own index y ∈ lw_ok) (hM : Ct l y c9 mx r9 d9 D as σ t) (kk : JJ X nL D t.2 n ls (t.1.toList ++ st) Q) : JJ X nL D σ pc ls st9 Q := by
  subst hn
  subst hst9
  obtain ⟨p, l9, e, R, s, m, args, below, meth, c, cells, slots, A⟩ := X
  obtain ⟨rfl, hx, hb, hml, hown, hts, hK, hi, hNs, hA, hlk, hret, hfr, hlo, hce, hsl⟩ := F
  intro H locs lsA hP hS hl
  obtain ⟨c1, c2, c4, c5⟩ := cv
  exact j_run (va_runS (As := as) (rest := st) ⟨hx, hb, hml, hown, hts⟩ hM ⟨jcb_of hts c1 c4 c5 hl9 hp9 hdep hmx hfr hlo, hts _ c2⟩ ⟨Wd_blind, fun U hU hW => ⟨rfl, by rw [hU]; exact hP, va_K.moved hW.alike hK, hi, hNs.warm hW⟩⟩ rfl hlen hl.1 rfl (lv_room hst) d ⟨hce, hsl⟩) hS hA (fun H1 locs1 hP1 hS1 => kk H1 locs1 lsA hP1 hS1 hl)
theorem j_callSN {X : Cx} {l : Launch} {nL : Nat} {D : Dm} {cc : ByteArray} {own : String} {dep : Nat} {ret : Option FieldType} {σ : Mm} {pc : Nat} {ls : List (Nat × Value)} {st : List Value} {Q : State → Prop} (F : Fx X l nL D cc own dep ret) {y : MethodName} {c9 : ByteArray} {mx index n9 d9 : Nat} {r9 : Option FieldType} {as : List Value} {t : Option Value × Mm} {st9 : List Value} {host : String} (cv : jCS y c9 mx r9) (d : decode cc pc = .ok (.invokestatic index, 3)) (n : Nat) (hn : pc + 3 = n) (hp9 : (parseMethodDescriptor y.desc).map (fun d => d.parameters.length) = some n9) (hlen : as.length = n9) (hdep : d9 < dep) (hmx : mx ≤ 45) (hst : catS st ≤ 8) (hst9 : as.reverse ++ st = st9) (hl9 : (own, index, y, host) ∈ nestL) (hM : Ct l y c9 mx r9 d9 D as σ t) (kk : JJ X nL D t.2 n ls (t.1.toList ++ st) Q) : JJ X nL D σ pc ls st9 Q := by
  subst hn
  subst hst9
  obtain ⟨p, l9, e, R, s, m, args, below, meth, c, cells, slots, A⟩ := X
  obtain ⟨rfl, hx, hb, hml, hown, hts, hK, hi, hNs, hA, hlk, hret, hfr, hlo, hce, hsl⟩ := F
  intro H locs lsA hP hS hl
  obtain ⟨c1, c2, c4, c5⟩ := cv
  exact j_run (va_runSN (As := as) (rest := st) ⟨hx, hb, hml, hown, hts⟩ hM ⟨jcn_of hts c1 c4 c5 (hNs _ hl9) hp9 hdep hmx hfr hlo, hts _ c2, trivial⟩ ⟨Wd_blind, fun U hU hW => ⟨rfl, by rw [hU]; exact hP, va_K.moved hW.alike hK, hi, hNs.warm hW⟩⟩ rfl hlen hl.1 rfl (lv_room hst) d ⟨hce, hsl⟩) hS hA (fun H1 locs1 hP1 hS1 => kk H1 locs1 lsA hP1 hS1 hl)
theorem j_mmax {X : Cx} {l : Launch} {nL : Nat} {D : Dm} {cc : ByteArray} {own : String} {dep : Nat} {ret : Option FieldType} {σ : Mm} {pc : Nat} {ls : List (Nat × Value)} {st : List Value} {Q : State → Prop} (F : Fx X l nL D cc own dep ret) {x y : Int32} {index : Nat} (d : decode cc pc = .ok (.invokestatic index, 3)) (n : Nat) (hn : pc + 3 = n) (hdep : 0 < dep) (hst : catS st ≤ 8) (hl9 : Cond.methodLink own index Lib.Math.max.name ∈ lw_ok) (h1 : Cond.static Lib.Math.max.name ∈ lw_ok) (h2 : Cond.initialized "java/lang/Math" ∈ lw_ok) (h3 : Cond.code Lib.Math.max.name Lib.Math.max.code 2 (some .int) ∈ lw_ok) (kk : JJ X nL D σ n ls (.int (if x < y then y else x) :: st) Q) : JJ X nL D σ pc ls (.int y :: .int x :: st) Q := by
  subst hn
  obtain ⟨p, l9, e, R, s, m, args, below, meth, c, cells, slots, A⟩ := X
  obtain ⟨rfl, hx, hb, hml, hown, hts, hK, hi, hNs, hA, hlk, hret, hfr, hlo, hce, hsl⟩ := F
  intro H locs lsA hP hS hl
  exact va_mmax hx hb (hml.trans hl.1.symm) hown (hts _ hl9) (hts _ h1) (hts _ h2) (hts _ h3) (by omega) (by have h7 : (st.map fun v => v.category).sum ≤ 8 := hst; omega) hce hsl d (kk H locs lsA hP hS hl)
theorem j_mmin {X : Cx} {l : Launch} {nL : Nat} {D : Dm} {cc : ByteArray} {own : String} {dep : Nat} {ret : Option FieldType} {σ : Mm} {pc : Nat} {ls : List (Nat × Value)} {st : List Value} {Q : State → Prop} (F : Fx X l nL D cc own dep ret) {x y : Int32} {index : Nat} (d : decode cc pc = .ok (.invokestatic index, 3)) (n : Nat) (hn : pc + 3 = n) (hdep : 0 < dep) (hst : catS st ≤ 8) (hl9 : Cond.methodLink own index Lib.Math.min.name ∈ lw_ok) (h1 : Cond.static Lib.Math.min.name ∈ lw_ok) (h2 : Cond.initialized "java/lang/Math" ∈ lw_ok) (h3 : Cond.code Lib.Math.min.name Lib.Math.min.code 2 (some .int) ∈ lw_ok) (kk : JJ X nL D σ n ls (.int (if y < x then y else x) :: st) Q) : JJ X nL D σ pc ls (.int y :: .int x :: st) Q := by
  subst hn
  obtain ⟨p, l9, e, R, s, m, args, below, meth, c, cells, slots, A⟩ := X
  obtain ⟨rfl, hx, hb, hml, hown, hts, hK, hi, hNs, hA, hlk, hret, hfr, hlo, hce, hsl⟩ := F
  intro H locs lsA hP hS hl
  exact va_mmin hx hb (hml.trans hl.1.symm) hown (hts _ hl9) (hts _ h1) (hts _ h2) (hts _ h3) (by omega) (by have h7 : (st.map fun v => v.category).sum ≤ 8 := hst; omega) hce hsl d (kk H locs lsA hP hS hl)
theorem j_mabs {X : Cx} {l : Launch} {nL : Nat} {D : Dm} {cc : ByteArray} {own : String} {dep : Nat} {ret : Option FieldType} {σ : Mm} {pc : Nat} {ls : List (Nat × Value)} {st : List Value} {Q : State → Prop} (F : Fx X l nL D cc own dep ret) {x : Int32} {index : Nat} (d : decode cc pc = .ok (.invokestatic index, 3)) (n : Nat) (hn : pc + 3 = n) (hdep : 0 < dep) (hst : catS st ≤ 8) (hl9 : Cond.methodLink own index Lib.Math.abs.name ∈ lw_ok) (h1 : Cond.static Lib.Math.abs.name ∈ lw_ok) (h2 : Cond.initialized "java/lang/Math" ∈ lw_ok) (h3 : Cond.code Lib.Math.abs.name Lib.Math.abs.code 1 (some .int) ∈ lw_ok) (kk : JJ X nL D σ n ls (.int (if 0 ≤ x then x else 0 - x) :: st) Q) : JJ X nL D σ pc ls (.int x :: st) Q := by
  subst hn
  obtain ⟨p, l9, e, R, s, m, args, below, meth, c, cells, slots, A⟩ := X
  obtain ⟨rfl, hx, hb, hml, hown, hts, hK, hi, hNs, hA, hlk, hret, hfr, hlo, hce, hsl⟩ := F
  intro H locs lsA hP hS hl
  exact va_mabs hx hb (hml.trans hl.1.symm) hown (hts _ hl9) (hts _ h1) (hts _ h2) (hts _ h3) (by omega) (by have h7 : (st.map fun v => v.category).sum ≤ 8 := hst; omega) hce hsl d (kk H locs lsA hP hS hl)
theorem ct_of {l : Launch} {y : MethodName} {cc : ByteArray} {nL : Nat} {ret : Option FieldType} {d : Nat} {D : Dm} {as : List Value} {σ : Mm} {t : Option Value × Mm} (hy : plainName y.cls = true) (hn : (lg_sl as).length ≤ nL)
    (body : ∀ X : Cx, Fx X l nL D cc y.cls d ret → JJ X nL D σ 0 (lv_args 0 as) [] (QQ X D t)) : Ct l y cc nL ret d D as σ t := by
  refine Met.ofW (cc := cc) (maxL := nL) (ret := ret) hy rfl ?_
  intro p e s m args below meth c s₁ B hml hv
  obtain ⟨rfl, hP, hK, hi, hNs⟩ := hv
  have hts := atoms_spec (ws := wz y cc nL ret) B.pre
  have hl := lv_entry as hn
  rw [lg_entry_eq]
  generalize (lg_sl as ++ List.replicate (nL - (lg_sl as).length) Slot.unset).toArray = lsA at hl ⊢
  exact body (p, l, e, (headSpec (wz y cc nL ret) (rmd d)).room, s, m, as.toArray, below, meth, c, 0, 0, AA D) ⟨rfl, B.exec, B.bytes, hml, findClass_of_methodNamed B.named, fun w hw => hts w (List.mem_cons_of_mem _ hw), hK, hi, hNs, fun k hk => ⟨k, hk, rfl⟩, B.notSynchronized, B.returns, Nat.le_refl _, Nat.le_refl _, Nat.zero_le _, Nat.zero_le _⟩ s.heap [] lsA hP va_S.rf hl
end
section
theorem zz_look : True := trivial
end
