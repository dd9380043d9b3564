section
-- ===== PART A: goes FIRST, ahead of the names: the tables' words, and 'selects' of the private methods out of them =====
/-- a private method of a class that the tables say can be made, by its rows of tables_1 -/
def lw_okq (q : MethodName × Nat) : Prop := (q.1.cls ≠ "java/lang/invoke/MethodHandle" ∧ q.1.cls ≠ "java/lang/invoke/VarHandle") ∧ Cond.instantiable q.1.cls q.2 ∈ tables_1 ∧ Cond.privateMethod q.1 ∈ tables_1 ∧ Cond.instanceMethod q.1 ∈ tables_1
theorem lw_p0 : lw_okq (⟨"LastOfKind$Text", "fits", "(I)Z"⟩, 2) := ⟨⟨by decide +kernel, by decide +kernel⟩, List.mem_of_getElem? (i := 23) (by decide +kernel), List.mem_of_getElem? (i := 312) (by decide +kernel), List.mem_of_getElem? (i := 313) (by decide +kernel)⟩
theorem lw_p1 : lw_okq (⟨"LastOfKind$Text", "isWithin", "(III)Z"⟩, 2) := ⟨⟨by decide +kernel, by decide +kernel⟩, List.mem_of_getElem? (i := 23) (by decide +kernel), List.mem_of_getElem? (i := 319) (by decide +kernel), List.mem_of_getElem? (i := 320) (by decide +kernel)⟩
theorem lw_p2 : lw_okq (⟨"LastOfKind", "tryAct", "(II)I"⟩, 11) := ⟨⟨by decide +kernel, by decide +kernel⟩, List.mem_of_getElem? (i := 15) (by decide +kernel), List.mem_of_getElem? (i := 425) (by decide +kernel), List.mem_of_getElem? (i := 426) (by decide +kernel)⟩
theorem lw_p3 : lw_okq (⟨"LastOfKind$Row", "placeAt", "(I)LLastOfKind$House;"⟩, 3) := ⟨⟨by decide +kernel, by decide +kernel⟩, List.mem_of_getElem? (i := 88) (by decide +kernel), List.mem_of_getElem? (i := 442) (by decide +kernel), List.mem_of_getElem? (i := 443) (by decide +kernel)⟩
theorem lw_p4 : lw_okq (⟨"LastOfKind$Owners", "learn", "(LLastOfKind$House;I)V"⟩, 6) := ⟨⟨by decide +kernel, by decide +kernel⟩, List.mem_of_getElem? (i := 127) (by decide +kernel), List.mem_of_getElem? (i := 576) (by decide +kernel), List.mem_of_getElem? (i := 577) (by decide +kernel)⟩
theorem lw_p5 : lw_okq (⟨"LastOfKind$Owners", "goThrough", "(Z)V"⟩, 6) := ⟨⟨by decide +kernel, by decide +kernel⟩, List.mem_of_getElem? (i := 127) (by decide +kernel), List.mem_of_getElem? (i := 589) (by decide +kernel), List.mem_of_getElem? (i := 590) (by decide +kernel)⟩
theorem lw_p6 : lw_okq (⟨"LastOfKind$Owners", "raiseBest", "(III)V"⟩, 6) := ⟨⟨by decide +kernel, by decide +kernel⟩, List.mem_of_getElem? (i := 127) (by decide +kernel), List.mem_of_getElem? (i := 593) (by decide +kernel), List.mem_of_getElem? (i := 594) (by decide +kernel)⟩
theorem lw_p7 : lw_okq (⟨"LastOfKind$Owners", "has", "(III)I"⟩, 6) := ⟨⟨by decide +kernel, by decide +kernel⟩, List.mem_of_getElem? (i := 127) (by decide +kernel), List.mem_of_getElem? (i := 597) (by decide +kernel), List.mem_of_getElem? (i := 598) (by decide +kernel)⟩
theorem lw_p8 : lw_okq (⟨"LastOfKind$Owners", "raise", "(III)V"⟩, 6) := ⟨⟨by decide +kernel, by decide +kernel⟩, List.mem_of_getElem? (i := 127) (by decide +kernel), List.mem_of_getElem? (i := 607) (by decide +kernel), List.mem_of_getElem? (i := 608) (by decide +kernel)⟩
theorem lw_p9 : lw_okq (⟨"LastOfKind$Owners", "isRest", "(III)Z"⟩, 6) := ⟨⟨by decide +kernel, by decide +kernel⟩, List.mem_of_getElem? (i := 127) (by decide +kernel), List.mem_of_getElem? (i := 613) (by decide +kernel), List.mem_of_getElem? (i := 614) (by decide +kernel)⟩
theorem lw_p10 : lw_okq (⟨"LastOfKind$Owners", "tell", "(I)V"⟩, 6) := ⟨⟨by decide +kernel, by decide +kernel⟩, List.mem_of_getElem? (i := 127) (by decide +kernel), List.mem_of_getElem? (i := 617) (by decide +kernel), List.mem_of_getElem? (i := 618) (by decide +kernel)⟩
theorem lw_p11 : lw_okq (⟨"LastOfKind$Sightings", "learn", "(LLastOfKind$House;)V"⟩, 9) := ⟨⟨by decide +kernel, by decide +kernel⟩, List.mem_of_getElem? (i := 171) (by decide +kernel), List.mem_of_getElem? (i := 649) (by decide +kernel), List.mem_of_getElem? (i := 650) (by decide +kernel)⟩
theorem lw_p12 : lw_okq (⟨"LastOfKind$Sightings", "isSo", "(II)Z"⟩, 9) := ⟨⟨by decide +kernel, by decide +kernel⟩, List.mem_of_getElem? (i := 171) (by decide +kernel), List.mem_of_getElem? (i := 657) (by decide +kernel), List.mem_of_getElem? (i := 658) (by decide +kernel)⟩
theorem lw_p13 : lw_okq (⟨"LastOfKind$Sightings", "tally", "(I)V"⟩, 9) := ⟨⟨by decide +kernel, by decide +kernel⟩, List.mem_of_getElem? (i := 171) (by decide +kernel), List.mem_of_getElem? (i := 662) (by decide +kernel), List.mem_of_getElem? (i := 663) (by decide +kernel)⟩
theorem lw_p14 : lw_okq (⟨"LastOfKind$Museums", "leadByLastTurn", "(I)I"⟩, 6) := ⟨⟨by decide +kernel, by decide +kernel⟩, List.mem_of_getElem? (i := 210) (by decide +kernel), List.mem_of_getElem? (i := 693) (by decide +kernel), List.mem_of_getElem? (i := 694) (by decide +kernel)⟩
theorem lw_p15 : lw_okq (⟨"LastOfKind$Museums", "gainOf", "(I)I"⟩, 6) := ⟨⟨by decide +kernel, by decide +kernel⟩, List.mem_of_getElem? (i := 210) (by decide +kernel), List.mem_of_getElem? (i := 701) (by decide +kernel), List.mem_of_getElem? (i := 702) (by decide +kernel)⟩
def lw_privs_1 : List (MethodName × Nat) := [(⟨"LastOfKind$Text", "fits", "(I)Z"⟩, 2), (⟨"LastOfKind$Text", "isWithin", "(III)Z"⟩, 2), (⟨"LastOfKind", "tryAct", "(II)I"⟩, 11), (⟨"LastOfKind$Row", "placeAt", "(I)LLastOfKind$House;"⟩, 3), (⟨"LastOfKind$Owners", "learn", "(LLastOfKind$House;I)V"⟩, 6), (⟨"LastOfKind$Owners", "goThrough", "(Z)V"⟩, 6), (⟨"LastOfKind$Owners", "raiseBest", "(III)V"⟩, 6), (⟨"LastOfKind$Owners", "has", "(III)I"⟩, 6), (⟨"LastOfKind$Owners", "raise", "(III)V"⟩, 6), (⟨"LastOfKind$Owners", "isRest", "(III)Z"⟩, 6), (⟨"LastOfKind$Owners", "tell", "(I)V"⟩, 6), (⟨"LastOfKind$Sightings", "learn", "(LLastOfKind$House;)V"⟩, 9), (⟨"LastOfKind$Sightings", "isSo", "(II)Z"⟩, 9), (⟨"LastOfKind$Sightings", "tally", "(I)V"⟩, 9), (⟨"LastOfKind$Museums", "leadByLastTurn", "(I)I"⟩, 6), (⟨"LastOfKind$Museums", "gainOf", "(I)I"⟩, 6)]
theorem lw_r1 : ∀ q ∈ lw_privs_1, lw_okq q := List.forall_mem_cons.mpr ⟨lw_p0, List.forall_mem_cons.mpr ⟨lw_p1, List.forall_mem_cons.mpr ⟨lw_p2, List.forall_mem_cons.mpr ⟨lw_p3, List.forall_mem_cons.mpr ⟨lw_p4, List.forall_mem_cons.mpr ⟨lw_p5, List.forall_mem_cons.mpr ⟨lw_p6, List.forall_mem_cons.mpr ⟨lw_p7, List.forall_mem_cons.mpr ⟨lw_p8, List.forall_mem_cons.mpr ⟨lw_p9, List.forall_mem_cons.mpr ⟨lw_p10, List.forall_mem_cons.mpr ⟨lw_p11, List.forall_mem_cons.mpr ⟨lw_p12, List.forall_mem_cons.mpr ⟨lw_p13, List.forall_mem_cons.mpr ⟨lw_p14, List.forall_mem_cons.mpr ⟨lw_p15, fun _ h => absurd h List.not_mem_nil⟩⟩⟩⟩⟩⟩⟩⟩⟩⟩⟩⟩⟩⟩⟩⟩
theorem lw_p16 : lw_okq (⟨"LastOfKind$Chances", "reduce", "()V"⟩, 3) := ⟨⟨by decide +kernel, by decide +kernel⟩, List.mem_of_getElem? (i := 239) (by decide +kernel), List.mem_of_getElem? (i := 720) (by decide +kernel), List.mem_of_getElem? (i := 721) (by decide +kernel)⟩
theorem lw_p17 : lw_okq (⟨"LastOfKind", "slotAt", "(I)LLastOfKind$House;"⟩, 11) := ⟨⟨by decide +kernel, by decide +kernel⟩, List.mem_of_getElem? (i := 15) (by decide +kernel), List.mem_of_getElem? (i := 744) (by decide +kernel), List.mem_of_getElem? (i := 745) (by decide +kernel)⟩
theorem lw_p18 : lw_okq (⟨"LastOfKindModel", "fits", "(I)Z"⟩, 23) := ⟨⟨by decide +kernel, by decide +kernel⟩, List.mem_of_getElem? (i := 757) (by decide +kernel), List.mem_of_getElem? (i := 849) (by decide +kernel), List.mem_of_getElem? (i := 850) (by decide +kernel)⟩
theorem lw_p19 : lw_okq (⟨"LastOfKindModel", "figure", "(I)I"⟩, 23) := ⟨⟨by decide +kernel, by decide +kernel⟩, List.mem_of_getElem? (i := 757) (by decide +kernel), List.mem_of_getElem? (i := 863) (by decide +kernel), List.mem_of_getElem? (i := 864) (by decide +kernel)⟩
theorem lw_p20 : lw_okq (⟨"LastOfKindModel", "isThing", "(I)Z"⟩, 23) := ⟨⟨by decide +kernel, by decide +kernel⟩, List.mem_of_getElem? (i := 757) (by decide +kernel), List.mem_of_getElem? (i := 874) (by decide +kernel), List.mem_of_getElem? (i := 875) (by decide +kernel)⟩
theorem lw_p21 : lw_okq (⟨"LastOfKindModel", "markOf", "(II)I"⟩, 23) := ⟨⟨by decide +kernel, by decide +kernel⟩, List.mem_of_getElem? (i := 757) (by decide +kernel), List.mem_of_getElem? (i := 878) (by decide +kernel), List.mem_of_getElem? (i := 879) (by decide +kernel)⟩
theorem lw_p22 : lw_okq (⟨"LastOfKindModel", "marksOf", "(I)I"⟩, 23) := ⟨⟨by decide +kernel, by decide +kernel⟩, List.mem_of_getElem? (i := 757) (by decide +kernel), List.mem_of_getElem? (i := 882) (by decide +kernel), List.mem_of_getElem? (i := 883) (by decide +kernel)⟩
theorem lw_p23 : lw_okq (⟨"LastOfKindModel", "ownerOf", "(I)I"⟩, 23) := ⟨⟨by decide +kernel, by decide +kernel⟩, List.mem_of_getElem? (i := 757) (by decide +kernel), List.mem_of_getElem? (i := 889) (by decide +kernel), List.mem_of_getElem? (i := 890) (by decide +kernel)⟩
theorem lw_p24 : lw_okq (⟨"LastOfKindModel", "worthOf", "(I)I"⟩, 23) := ⟨⟨by decide +kernel, by decide +kernel⟩, List.mem_of_getElem? (i := 757) (by decide +kernel), List.mem_of_getElem? (i := 893) (by decide +kernel), List.mem_of_getElem? (i := 894) (by decide +kernel)⟩
theorem lw_p25 : lw_okq (⟨"LastOfKindModel", "costOf", "(I)I"⟩, 23) := ⟨⟨by decide +kernel, by decide +kernel⟩, List.mem_of_getElem? (i := 757) (by decide +kernel), List.mem_of_getElem? (i := 897) (by decide +kernel), List.mem_of_getElem? (i := 898) (by decide +kernel)⟩
theorem lw_p26 : lw_okq (⟨"LastOfKindModel", "guardOf", "(I)I"⟩, 23) := ⟨⟨by decide +kernel, by decide +kernel⟩, List.mem_of_getElem? (i := 757) (by decide +kernel), List.mem_of_getElem? (i := 901) (by decide +kernel), List.mem_of_getElem? (i := 902) (by decide +kernel)⟩
theorem lw_p27 : lw_okq (⟨"LastOfKindModel", "last", "()I"⟩, 23) := ⟨⟨by decide +kernel, by decide +kernel⟩, List.mem_of_getElem? (i := 757) (by decide +kernel), List.mem_of_getElem? (i := 905) (by decide +kernel), List.mem_of_getElem? (i := 906) (by decide +kernel)⟩
theorem lw_p28 : lw_okq (⟨"LastOfKindModel", "shown", "(I)I"⟩, 23) := ⟨⟨by decide +kernel, by decide +kernel⟩, List.mem_of_getElem? (i := 757) (by decide +kernel), List.mem_of_getElem? (i := 909) (by decide +kernel), List.mem_of_getElem? (i := 910) (by decide +kernel)⟩
theorem lw_p29 : lw_okq (⟨"LastOfKindModel", "lastOf", "(II)I"⟩, 23) := ⟨⟨by decide +kernel, by decide +kernel⟩, List.mem_of_getElem? (i := 757) (by decide +kernel), List.mem_of_getElem? (i := 913) (by decide +kernel), List.mem_of_getElem? (i := 914) (by decide +kernel)⟩
theorem lw_p30 : lw_okq (⟨"LastOfKindModel", "many", "()I"⟩, 23) := ⟨⟨by decide +kernel, by decide +kernel⟩, List.mem_of_getElem? (i := 757) (by decide +kernel), List.mem_of_getElem? (i := 917) (by decide +kernel), List.mem_of_getElem? (i := 918) (by decide +kernel)⟩
theorem lw_p31 : lw_okq (⟨"LastOfKindModel", "alikeOf", "(III)I"⟩, 23) := ⟨⟨by decide +kernel, by decide +kernel⟩, List.mem_of_getElem? (i := 757) (by decide +kernel), List.mem_of_getElem? (i := 924) (by decide +kernel), List.mem_of_getElem? (i := 925) (by decide +kernel)⟩
def lw_privs_2 : List (MethodName × Nat) := [(⟨"LastOfKind$Chances", "reduce", "()V"⟩, 3), (⟨"LastOfKind", "slotAt", "(I)LLastOfKind$House;"⟩, 11), (⟨"LastOfKindModel", "fits", "(I)Z"⟩, 23), (⟨"LastOfKindModel", "figure", "(I)I"⟩, 23), (⟨"LastOfKindModel", "isThing", "(I)Z"⟩, 23), (⟨"LastOfKindModel", "markOf", "(II)I"⟩, 23), (⟨"LastOfKindModel", "marksOf", "(I)I"⟩, 23), (⟨"LastOfKindModel", "ownerOf", "(I)I"⟩, 23), (⟨"LastOfKindModel", "worthOf", "(I)I"⟩, 23), (⟨"LastOfKindModel", "costOf", "(I)I"⟩, 23), (⟨"LastOfKindModel", "guardOf", "(I)I"⟩, 23), (⟨"LastOfKindModel", "last", "()I"⟩, 23), (⟨"LastOfKindModel", "shown", "(I)I"⟩, 23), (⟨"LastOfKindModel", "lastOf", "(II)I"⟩, 23), (⟨"LastOfKindModel", "many", "()I"⟩, 23), (⟨"LastOfKindModel", "alikeOf", "(III)I"⟩, 23)]
theorem lw_r2 : ∀ q ∈ lw_privs_2, lw_okq q := List.forall_mem_cons.mpr ⟨lw_p16, List.forall_mem_cons.mpr ⟨lw_p17, List.forall_mem_cons.mpr ⟨lw_p18, List.forall_mem_cons.mpr ⟨lw_p19, List.forall_mem_cons.mpr ⟨lw_p20, List.forall_mem_cons.mpr ⟨lw_p21, List.forall_mem_cons.mpr ⟨lw_p22, List.forall_mem_cons.mpr ⟨lw_p23, List.forall_mem_cons.mpr ⟨lw_p24, List.forall_mem_cons.mpr ⟨lw_p25, List.forall_mem_cons.mpr ⟨lw_p26, List.forall_mem_cons.mpr ⟨lw_p27, List.forall_mem_cons.mpr ⟨lw_p28, List.forall_mem_cons.mpr ⟨lw_p29, List.forall_mem_cons.mpr ⟨lw_p30, List.forall_mem_cons.mpr ⟨lw_p31, fun _ h => absurd h List.not_mem_nil⟩⟩⟩⟩⟩⟩⟩⟩⟩⟩⟩⟩⟩⟩⟩⟩
theorem lw_p32 : lw_okq (⟨"LastOfKindModel", "same", "(II)I"⟩, 23) := ⟨⟨by decide +kernel, by decide +kernel⟩, List.mem_of_getElem? (i := 757) (by decide +kernel), List.mem_of_getElem? (i := 928) (by decide +kernel), List.mem_of_getElem? (i := 929) (by decide +kernel)⟩
theorem lw_p33 : lw_okq (⟨"LastOfKindModel", "priceBy", "(II)I"⟩, 23) := ⟨⟨by decide +kernel, by decide +kernel⟩, List.mem_of_getElem? (i := 757) (by decide +kernel), List.mem_of_getElem? (i := 943) (by decide +kernel), List.mem_of_getElem? (i := 944) (by decide +kernel)⟩
theorem lw_p34 : lw_okq (⟨"LastOfKindModel", "canBreak", "(II)Z"⟩, 23) := ⟨⟨by decide +kernel, by decide +kernel⟩, List.mem_of_getElem? (i := 757) (by decide +kernel), List.mem_of_getElem? (i := 951) (by decide +kernel), List.mem_of_getElem? (i := 952) (by decide +kernel)⟩
theorem lw_p35 : lw_okq (⟨"LastOfKindModel", "guardAt", "(II)I"⟩, 23) := ⟨⟨by decide +kernel, by decide +kernel⟩, List.mem_of_getElem? (i := 757) (by decide +kernel), List.mem_of_getElem? (i := 955) (by decide +kernel), List.mem_of_getElem? (i := 956) (by decide +kernel)⟩
theorem lw_p36 : lw_okq (⟨"LastOfKindModel", "keepAct", "()V"⟩, 23) := ⟨⟨by decide +kernel, by decide +kernel⟩, List.mem_of_getElem? (i := 757) (by decide +kernel), List.mem_of_getElem? (i := 959) (by decide +kernel), List.mem_of_getElem? (i := 960) (by decide +kernel)⟩
theorem lw_p37 : lw_okq (⟨"LastOfKindModel", "free", "(II)V"⟩, 23) := ⟨⟨by decide +kernel, by decide +kernel⟩, List.mem_of_getElem? (i := 757) (by decide +kernel), List.mem_of_getElem? (i := 969) (by decide +kernel), List.mem_of_getElem? (i := 970) (by decide +kernel)⟩
theorem lw_p38 : lw_okq (⟨"LastOfKindModel", "canHide", "(II)Z"⟩, 23) := ⟨⟨by decide +kernel, by decide +kernel⟩, List.mem_of_getElem? (i := 757) (by decide +kernel), List.mem_of_getElem? (i := 977) (by decide +kernel), List.mem_of_getElem? (i := 978) (by decide +kernel)⟩
theorem lw_p39 : lw_okq (⟨"LastOfKindModel", "doHide", "(II)V"⟩, 23) := ⟨⟨by decide +kernel, by decide +kernel⟩, List.mem_of_getElem? (i := 757) (by decide +kernel), List.mem_of_getElem? (i := 981) (by decide +kernel), List.mem_of_getElem? (i := 982) (by decide +kernel)⟩
theorem lw_p40 : lw_okq (⟨"LastOfKindModel", "canClaim", "(II)Z"⟩, 23) := ⟨⟨by decide +kernel, by decide +kernel⟩, List.mem_of_getElem? (i := 757) (by decide +kernel), List.mem_of_getElem? (i := 989) (by decide +kernel), List.mem_of_getElem? (i := 990) (by decide +kernel)⟩
theorem lw_p41 : lw_okq (⟨"LastOfKindModel", "doGuard", "(II)V"⟩, 23) := ⟨⟨by decide +kernel, by decide +kernel⟩, List.mem_of_getElem? (i := 757) (by decide +kernel), List.mem_of_getElem? (i := 997) (by decide +kernel), List.mem_of_getElem? (i := 998) (by decide +kernel)⟩
theorem lw_p42 : lw_okq (⟨"LastOfKindModel", "can", "(II)Z"⟩, 23) := ⟨⟨by decide +kernel, by decide +kernel⟩, List.mem_of_getElem? (i := 757) (by decide +kernel), List.mem_of_getElem? (i := 1018) (by decide +kernel), List.mem_of_getElem? (i := 1019) (by decide +kernel)⟩
theorem lw_p43 : lw_okq (⟨"LastOfKindModel", "make", "(II)V"⟩, 23) := ⟨⟨by decide +kernel, by decide +kernel⟩, List.mem_of_getElem? (i := 757) (by decide +kernel), List.mem_of_getElem? (i := 1022) (by decide +kernel), List.mem_of_getElem? (i := 1023) (by decide +kernel)⟩
theorem lw_p44 : lw_okq (⟨"LastOfKindModel", "campaignWord", "(I)I"⟩, 23) := ⟨⟨by decide +kernel, by decide +kernel⟩, List.mem_of_getElem? (i := 757) (by decide +kernel), List.mem_of_getElem? (i := 1030) (by decide +kernel), List.mem_of_getElem? (i := 1031) (by decide +kernel)⟩
theorem lw_p45 : lw_okq (⟨"LastOfKindModel", "costBy", "(II)I"⟩, 23) := ⟨⟨by decide +kernel, by decide +kernel⟩, List.mem_of_getElem? (i := 757) (by decide +kernel), List.mem_of_getElem? (i := 1034) (by decide +kernel), List.mem_of_getElem? (i := 1035) (by decide +kernel)⟩
theorem lw_p46 : lw_okq (⟨"LastOfKindModel", "rest", "(III)Z"⟩, 23) := ⟨⟨by decide +kernel, by decide +kernel⟩, List.mem_of_getElem? (i := 757) (by decide +kernel), List.mem_of_getElem? (i := 1057) (by decide +kernel), List.mem_of_getElem? (i := 1058) (by decide +kernel)⟩
theorem lw_p47 : lw_okq (⟨"LastOfKindModel", "may", "(II)Z"⟩, 23) := ⟨⟨by decide +kernel, by decide +kernel⟩, List.mem_of_getElem? (i := 757) (by decide +kernel), List.mem_of_getElem? (i := 1061) (by decide +kernel), List.mem_of_getElem? (i := 1062) (by decide +kernel)⟩
def lw_privs_3 : List (MethodName × Nat) := [(⟨"LastOfKindModel", "same", "(II)I"⟩, 23), (⟨"LastOfKindModel", "priceBy", "(II)I"⟩, 23), (⟨"LastOfKindModel", "canBreak", "(II)Z"⟩, 23), (⟨"LastOfKindModel", "guardAt", "(II)I"⟩, 23), (⟨"LastOfKindModel", "keepAct", "()V"⟩, 23), (⟨"LastOfKindModel", "free", "(II)V"⟩, 23), (⟨"LastOfKindModel", "canHide", "(II)Z"⟩, 23), (⟨"LastOfKindModel", "doHide", "(II)V"⟩, 23), (⟨"LastOfKindModel", "canClaim", "(II)Z"⟩, 23), (⟨"LastOfKindModel", "doGuard", "(II)V"⟩, 23), (⟨"LastOfKindModel", "can", "(II)Z"⟩, 23), (⟨"LastOfKindModel", "make", "(II)V"⟩, 23), (⟨"LastOfKindModel", "campaignWord", "(I)I"⟩, 23), (⟨"LastOfKindModel", "costBy", "(II)I"⟩, 23), (⟨"LastOfKindModel", "rest", "(III)Z"⟩, 23), (⟨"LastOfKindModel", "may", "(II)Z"⟩, 23)]
theorem lw_r3 : ∀ q ∈ lw_privs_3, lw_okq q := List.forall_mem_cons.mpr ⟨lw_p32, List.forall_mem_cons.mpr ⟨lw_p33, List.forall_mem_cons.mpr ⟨lw_p34, List.forall_mem_cons.mpr ⟨lw_p35, List.forall_mem_cons.mpr ⟨lw_p36, List.forall_mem_cons.mpr ⟨lw_p37, List.forall_mem_cons.mpr ⟨lw_p38, List.forall_mem_cons.mpr ⟨lw_p39, List.forall_mem_cons.mpr ⟨lw_p40, List.forall_mem_cons.mpr ⟨lw_p41, List.forall_mem_cons.mpr ⟨lw_p42, List.forall_mem_cons.mpr ⟨lw_p43, List.forall_mem_cons.mpr ⟨lw_p44, List.forall_mem_cons.mpr ⟨lw_p45, List.forall_mem_cons.mpr ⟨lw_p46, List.forall_mem_cons.mpr ⟨lw_p47, fun _ h => absurd h List.not_mem_nil⟩⟩⟩⟩⟩⟩⟩⟩⟩⟩⟩⟩⟩⟩⟩⟩
theorem lw_p48 : lw_okq (⟨"LastOfKindModel", "has3", "(IIII)I"⟩, 23) := ⟨⟨by decide +kernel, by decide +kernel⟩, List.mem_of_getElem? (i := 757) (by decide +kernel), List.mem_of_getElem? (i := 1065) (by decide +kernel), List.mem_of_getElem? (i := 1066) (by decide +kernel)⟩
theorem lw_p49 : lw_okq (⟨"LastOfKindModel", "layWorlds", "()V"⟩, 23) := ⟨⟨by decide +kernel, by decide +kernel⟩, List.mem_of_getElem? (i := 757) (by decide +kernel), List.mem_of_getElem? (i := 1082) (by decide +kernel), List.mem_of_getElem? (i := 1083) (by decide +kernel)⟩
theorem lw_p50 : lw_okq (⟨"LastOfKindModel", "hiddenThere", "()I"⟩, 23) := ⟨⟨by decide +kernel, by decide +kernel⟩, List.mem_of_getElem? (i := 757) (by decide +kernel), List.mem_of_getElem? (i := 1086) (by decide +kernel), List.mem_of_getElem? (i := 1087) (by decide +kernel)⟩
theorem lw_p51 : lw_okq (⟨"LastOfKindModel", "isSighted", "(I)Z"⟩, 23) := ⟨⟨by decide +kernel, by decide +kernel⟩, List.mem_of_getElem? (i := 757) (by decide +kernel), List.mem_of_getElem? (i := 1090) (by decide +kernel), List.mem_of_getElem? (i := 1091) (by decide +kernel)⟩
theorem lw_p52 : lw_okq (⟨"LastOfKindModel", "begin", "(III)V"⟩, 23) := ⟨⟨by decide +kernel, by decide +kernel⟩, List.mem_of_getElem? (i := 757) (by decide +kernel), List.mem_of_getElem? (i := 1102) (by decide +kernel), List.mem_of_getElem? (i := 1103) (by decide +kernel)⟩
theorem lw_p53 : lw_okq (⟨"LastOfKindModel", "canMove", "(II)Z"⟩, 23) := ⟨⟨by decide +kernel, by decide +kernel⟩, List.mem_of_getElem? (i := 757) (by decide +kernel), List.mem_of_getElem? (i := 1107) (by decide +kernel), List.mem_of_getElem? (i := 1108) (by decide +kernel)⟩
theorem lw_p54 : lw_okq (⟨"LastOfKindModel", "go", "(II)V"⟩, 23) := ⟨⟨by decide +kernel, by decide +kernel⟩, List.mem_of_getElem? (i := 757) (by decide +kernel), List.mem_of_getElem? (i := 1111) (by decide +kernel), List.mem_of_getElem? (i := 1112) (by decide +kernel)⟩
theorem lw_p55 : lw_okq (⟨"LastOfKindModel", "frail", "(I)I"⟩, 23) := ⟨⟨by decide +kernel, by decide +kernel⟩, List.mem_of_getElem? (i := 757) (by decide +kernel), List.mem_of_getElem? (i := 1120) (by decide +kernel), List.mem_of_getElem? (i := 1121) (by decide +kernel)⟩
def lw_privs_4 : List (MethodName × Nat) := [(⟨"LastOfKindModel", "has3", "(IIII)I"⟩, 23), (⟨"LastOfKindModel", "layWorlds", "()V"⟩, 23), (⟨"LastOfKindModel", "hiddenThere", "()I"⟩, 23), (⟨"LastOfKindModel", "isSighted", "(I)Z"⟩, 23), (⟨"LastOfKindModel", "begin", "(III)V"⟩, 23), (⟨"LastOfKindModel", "canMove", "(II)Z"⟩, 23), (⟨"LastOfKindModel", "go", "(II)V"⟩, 23), (⟨"LastOfKindModel", "frail", "(I)I"⟩, 23)]
theorem lw_r4 : ∀ q ∈ lw_privs_4, lw_okq q := List.forall_mem_cons.mpr ⟨lw_p48, List.forall_mem_cons.mpr ⟨lw_p49, List.forall_mem_cons.mpr ⟨lw_p50, List.forall_mem_cons.mpr ⟨lw_p51, List.forall_mem_cons.mpr ⟨lw_p52, List.forall_mem_cons.mpr ⟨lw_p53, List.forall_mem_cons.mpr ⟨lw_p54, List.forall_mem_cons.mpr ⟨lw_p55, fun _ h => absurd h List.not_mem_nil⟩⟩⟩⟩⟩⟩⟩⟩
def lw_privs : List (MethodName × Nat) := lw_privs_1 ++ (lw_privs_2 ++ (lw_privs_3 ++ (lw_privs_4)))
def lw_tbl : List Cond := k2_sels lw_privs ++ tables_1
theorem lw_privs_ok : ∀ q ∈ lw_privs, lw_okq q := by
  show ∀ q ∈ lw_privs_1 ++ (lw_privs_2 ++ (lw_privs_3 ++ (lw_privs_4))), lw_okq q
  exact List.forall_mem_append.mpr ⟨lw_r1, List.forall_mem_append.mpr ⟨lw_r2, List.forall_mem_append.mpr ⟨lw_r3, lw_r4⟩⟩⟩
end
section
def RX0 : String := "LastOfKind$Chances"
def TX0 : u_T := fun k => match k with
  | 0 => ("LastOfKind$Chances", "seed", "J", false)
  | 1 => ("LastOfKind$Chances", "upper", "I", false)
  | _ => ("LastOfKind$Chances", "lower", "I", false)
def tyX0 : Nat → FieldType := fun k => match k with
  | 0 => .long
  | 1 => .int
  | _ => .int
theorem nmX0 : ∀ a, a < 3 → ∀ b, b < 3 → a ≠ b → (TX0 a).2.1 ≠ (TX0 b).2.1 := by decide +kernel
theorem tyX0_ok : ∀ k, k < 3 → parseFieldDescriptor (TX0 k).2.2.1 = some (tyX0 k) := by decide +kernel
abbrev cX0_init : ByteArray := prog_2_method_1_code
def yX0_init : MethodName := ⟨RX0, "<init>", "()V"⟩
abbrev cX0_weigh : ByteArray := prog_2_method_2_code
def yX0_weigh : MethodName := ⟨RX0, "weigh", "(LLastOfKind$House;II)V"⟩
abbrev cX0_lastAfter : ByteArray := prog_2_method_3_code
def yX0_lastAfter : MethodName := ⟨RX0, "lastAfter", "(LLastOfKind$House;II)I"⟩
abbrev cX0_reduce : ByteArray := prog_2_method_4_code
def yX0_reduce : MethodName := ⟨RX0, "reduce", "()V"⟩
def RX1 : String := "LastOfKind$Goods"
def TX1 : u_T := fun k => match k with
  | 0 => ("LastOfKind$Goods", "near", "[I", true)
  | 1 => ("LastOfKind$Goods", "worths", "[I", true)
  | _ => ("LastOfKind$Goods", "costs", "[I", true)
def tyX1 : Nat → FieldType := fun k => match k with
  | 0 => .array .int
  | 1 => .array .int
  | _ => .array .int
theorem nmX1 : ∀ a, a < 3 → ∀ b, b < 3 → a ≠ b → (TX1 a).2.1 ≠ (TX1 b).2.1 := by decide +kernel
theorem tyX1_ok : ∀ k, k < 3 → parseFieldDescriptor (TX1 k).2.2.1 = some (tyX1 k) := by decide +kernel
abbrev cX1_init : ByteArray := prog_3_method_1_code
def yX1_init : MethodName := ⟨RX1, "<init>", "()V"⟩
abbrev cX1_learn : ByteArray := prog_3_method_2_code
def yX1_learn : MethodName := ⟨RX1, "learn", "(LLastOfKind$House;)V"⟩
abbrev cX1_worth : ByteArray := prog_3_method_3_code
def yX1_worth : MethodName := ⟨RX1, "worth", "(I)I"⟩
abbrev cX1_cost : ByteArray := prog_3_method_4_code
def yX1_cost : MethodName := ⟨RX1, "cost", "(I)I"⟩
abbrev cX1_lastAmong : ByteArray := prog_3_method_5_code
def yX1_lastAmong : MethodName := ⟨RX1, "lastAmong", "(I)I"⟩
abbrev cX1_pricesAmong : ByteArray := prog_3_method_6_code
def yX1_pricesAmong : MethodName := ⟨RX1, "pricesAmong", "(II)I"⟩
def RX2 : String := "LastOfKind$House"
def TX2 : u_T := fun k => match k with
  | 0 => ("LastOfKind$House", "tags", "[I", true)
  | 1 => ("LastOfKind$House", "size", "I", false)
  | 2 => ("LastOfKind$House", "word", "I", false)
  | 3 => ("LastOfKind$House", "year", "I", false)
  | 4 => ("LastOfKind$House", "guarded", "I", false)
  | 5 => ("LastOfKind$House", "broken", "I", false)
  | 6 => ("LastOfKind$House", "hidden", "I", false)
  | _ => ("LastOfKind$House", "claimed", "I", false)
def tyX2 : Nat → FieldType := fun k => match k with
  | 0 => .array .int
  | 1 => .int
  | 2 => .int
  | 3 => .int
  | 4 => .int
  | 5 => .int
  | 6 => .int
  | _ => .int
theorem nmX2 : ∀ a, a < 8 → ∀ b, b < 8 → a ≠ b → (TX2 a).2.1 ≠ (TX2 b).2.1 := by decide +kernel
theorem tyX2_ok : ∀ k, k < 8 → parseFieldDescriptor (TX2 k).2.2.1 = some (tyX2 k) := by decide +kernel
abbrev cX2_init : ByteArray := prog_4_method_1_code
def yX2_init : MethodName := ⟨RX2, "<init>", "()V"⟩
abbrev cX2_copyFrom : ByteArray := prog_4_method_2_code
def yX2_copyFrom : MethodName := ⟨RX2, "copyFrom", "(LLastOfKind$House;)V"⟩
abbrev cX2_readFrom : ByteArray := prog_4_method_3_code
def yX2_readFrom : MethodName := ⟨RX2, "readFrom", "(LLastOfKind$Text;)V"⟩
abbrev cX2_has : ByteArray := prog_4_method_4_code
def yX2_has : MethodName := ⟨RX2, "has", "(I)Z"⟩
abbrev cX2_figure : ByteArray := prog_4_method_5_code
def yX2_figure : MethodName := ⟨RX2, "figure", "(II)I"⟩
abbrev cX2_all : ByteArray := prog_4_method_6_code
def yX2_all : MethodName := ⟨RX2, "all", "()I"⟩
abbrev cX2_there : ByteArray := prog_4_method_7_code
def yX2_there : MethodName := ⟨RX2, "there", "()I"⟩
abbrev cX2_shown : ByteArray := prog_4_method_8_code
def yX2_shown : MethodName := ⟨RX2, "shown", "()I"⟩
abbrev cX2_unseen : ByteArray := prog_4_method_9_code
def yX2_unseen : MethodName := ⟨RX2, "unseen", "()I"⟩
abbrev cX2_breakable : ByteArray := prog_4_method_10_code
def yX2_breakable : MethodName := ⟨RX2, "breakable", "()I"⟩
abbrev cX2_alikeTo : ByteArray := prog_4_method_11_code
def yX2_alikeTo : MethodName := ⟨RX2, "alikeTo", "(III)I"⟩
abbrev cX2_sameMarks : ByteArray := prog_4_method_12_code
def yX2_sameMarks : MethodName := ⟨RX2, "sameMarks", "(II)I"⟩
abbrev cX2_lastOnes : ByteArray := prog_4_method_13_code
def yX2_lastOnes : MethodName := ⟨RX2, "lastOnes", "()I"⟩
abbrev cX2_lastOnesBy : ByteArray := prog_4_method_14_code
def yX2_lastOnesBy : MethodName := ⟨RX2, "lastOnesBy", "(II)I"⟩
abbrev cX2_priceOf : ByteArray := prog_4_method_15_code
def yX2_priceOf : MethodName := ⟨RX2, "priceOf", "(I)I"⟩
abbrev cX2_shareOf : ByteArray := prog_4_method_16_code
def yX2_shareOf : MethodName := ⟨RX2, "shareOf", "(II)I"⟩
abbrev cX2_canBe : ByteArray := prog_4_method_17_code
def yX2_canBe : MethodName := ⟨RX2, "canBe", "(II)Z"⟩
abbrev cX2_perform : ByteArray := prog_4_method_18_code
def yX2_perform : MethodName := ⟨RX2, "perform", "(II)V"⟩
abbrev cX2_addForged : ByteArray := prog_4_method_19_code
def yX2_addForged : MethodName := ⟨RX2, "addForged", "(II)I"⟩
abbrev cX2_changeWord : ByteArray := prog_4_method_20_code
def yX2_changeWord : MethodName := ⟨RX2, "changeWord", "(I)I"⟩
def RX3 : String := "LastOfKind$Museums"
def TX3 : u_T := fun k => match k with
  | 0 => ("LastOfKind$Museums", "goods", "LLastOfKind$Goods;", true)
  | 1 => ("LastOfKind$Museums", "things", "I", false)
  | 2 => ("LastOfKind$Museums", "hidden", "I", false)
  | 3 => ("LastOfKind$Museums", "guarded", "I", false)
  | 4 => ("LastOfKind$Museums", "ahead", "I", false)
  | _ => ("LastOfKind$Museums", "firstMove", "I", false)
def tyX3 : Nat → FieldType := fun k => match k with
  | 0 => .object "LastOfKind$Goods"
  | 1 => .int
  | 2 => .int
  | 3 => .int
  | 4 => .int
  | _ => .int
theorem nmX3 : ∀ a, a < 6 → ∀ b, b < 6 → a ≠ b → (TX3 a).2.1 ≠ (TX3 b).2.1 := by decide +kernel
theorem tyX3_ok : ∀ k, k < 6 → parseFieldDescriptor (TX3 k).2.2.1 = some (tyX3 k) := by decide +kernel
abbrev cX3_init : ByteArray := prog_5_method_1_code
def yX3_init : MethodName := ⟨RX3, "<init>", "()V"⟩
abbrev cX3_play : ByteArray := prog_5_method_2_code
def yX3_play : MethodName := ⟨RX3, "play", "(LLastOfKind$House;I)V"⟩
abbrev cX3_lead : ByteArray := prog_5_method_3_code
def yX3_lead : MethodName := ⟨RX3, "lead", "(LLastOfKind$Museums;IIIII)I"⟩
abbrev cX3_leadByLastTurn : ByteArray := prog_5_method_4_code
def yX3_leadByLastTurn : MethodName := ⟨RX3, "leadByLastTurn", "(I)I"⟩
abbrev cX3_gainOf : ByteArray := prog_5_method_5_code
def yX3_gainOf : MethodName := ⟨RX3, "gainOf", "(I)I"⟩
def RX4 : String := "LastOfKind$Owners"
def TX4 : u_T := fun k => match k with
  | 0 => ("LastOfKind$Owners", "goods", "LLastOfKind$Goods;", true)
  | 1 => ("LastOfKind$Owners", "choosable", "[I", true)
  | 2 => ("LastOfKind$Owners", "prices", "[[I", true)
  | 3 => ("LastOfKind$Owners", "best", "[[I", true)
  | 4 => ("LastOfKind$Owners", "firstResting", "I", false)
  | _ => ("LastOfKind$Owners", "resting", "I", false)
def tyX4 : Nat → FieldType := fun k => match k with
  | 0 => .object "LastOfKind$Goods"
  | 1 => .array .int
  | 2 => .array (.array .int)
  | 3 => .array (.array .int)
  | 4 => .int
  | _ => .int
theorem nmX4 : ∀ a, a < 6 → ∀ b, b < 6 → a ≠ b → (TX4 a).2.1 ≠ (TX4 b).2.1 := by decide +kernel
theorem tyX4_ok : ∀ k, k < 6 → parseFieldDescriptor (TX4 k).2.2.1 = some (tyX4 k) := by decide +kernel
abbrev cX4_init : ByteArray := prog_6_method_1_code
def yX4_init : MethodName := ⟨RX4, "<init>", "()V"⟩
abbrev cX4_weigh : ByteArray := prog_6_method_2_code
def yX4_weigh : MethodName := ⟨RX4, "weigh", "(LLastOfKind$House;)V"⟩
abbrev cX4_firstChoice : ByteArray := prog_6_method_3_code
def yX4_firstChoice : MethodName := ⟨RX4, "firstChoice", "(I)I"⟩
abbrev cX4_learn : ByteArray := prog_6_method_4_code
def yX4_learn : MethodName := ⟨RX4, "learn", "(LLastOfKind$House;I)V"⟩
abbrev cX4_goThrough : ByteArray := prog_6_method_5_code
def yX4_goThrough : MethodName := ⟨RX4, "goThrough", "(Z)V"⟩
abbrev cX4_tell : ByteArray := prog_6_method_6_code
def yX4_tell : MethodName := ⟨RX4, "tell", "(I)V"⟩
abbrev cX4_raiseBest : ByteArray := prog_6_method_7_code
def yX4_raiseBest : MethodName := ⟨RX4, "raiseBest", "(III)V"⟩
abbrev cX4_raise : ByteArray := prog_6_method_8_code
def yX4_raise : MethodName := ⟨RX4, "raise", "(III)V"⟩
abbrev cX4_isRest : ByteArray := prog_6_method_9_code
def yX4_isRest : MethodName := ⟨RX4, "isRest", "(III)Z"⟩
abbrev cX4_has : ByteArray := prog_6_method_10_code
def yX4_has : MethodName := ⟨RX4, "has", "(III)I"⟩
def RX5 : String := "LastOfKind$Plans"
def TX5 : u_T := fun k => match k with
  | 0 => ("LastOfKind$Plans", "cost", "I", false)
  | 1 => ("LastOfKind$Plans", "wordThen", "I", false)
  | _ => ("LastOfKind$Plans", "toBreak", "I", false)
def tyX5 : Nat → FieldType := fun k => match k with
  | 0 => .int
  | 1 => .int
  | _ => .int
theorem nmX5 : ∀ a, a < 3 → ∀ b, b < 3 → a ≠ b → (TX5 a).2.1 ≠ (TX5 b).2.1 := by decide +kernel
theorem tyX5_ok : ∀ k, k < 3 → parseFieldDescriptor (TX5 k).2.2.1 = some (tyX5 k) := by decide +kernel
abbrev cX5_init : ByteArray := prog_7_method_1_code
def yX5_init : MethodName := ⟨RX5, "<init>", "()V"⟩
abbrev cX5_seekCampaign : ByteArray := prog_7_method_2_code
def yX5_seekCampaign : MethodName := ⟨RX5, "seekCampaign", "(LLastOfKind$House;I)V"⟩
abbrev cX5_leastCopy : ByteArray := prog_7_method_3_code
def yX5_leastCopy : MethodName := ⟨RX5, "leastCopy", "(LLastOfKind$House;I)I"⟩
abbrev cX5_wordOfMostLast : ByteArray := prog_7_method_4_code
def yX5_wordOfMostLast : MethodName := ⟨RX5, "wordOfMostLast", "(LLastOfKind$House;)I"⟩
abbrev cX5_lastBy : ByteArray := prog_7_method_5_code
def yX5_lastBy : MethodName := ⟨RX5, "lastBy", "(LLastOfKind$House;I)I"⟩
abbrev cX5_costToBreak : ByteArray := prog_7_method_6_code
def yX5_costToBreak : MethodName := ⟨RX5, "costToBreak", "(LLastOfKind$House;I)I"⟩
abbrev cX5_frees : ByteArray := prog_7_method_7_code
def yX5_frees : MethodName := ⟨RX5, "frees", "(LLastOfKind$House;II)Z"⟩
def RX6 : String := "LastOfKind$Row"
def TX6 : u_T := fun k => match k with
  | 0 => ("LastOfKind$Row", "before", "[LLastOfKind$House;", true)
  | 1 => ("LastOfKind$Row", "next", "I", false)
  | _ => ("LastOfKind$Row", "length", "I", false)
def tyX6 : Nat → FieldType := fun k => match k with
  | 0 => .array (.object "LastOfKind$House")
  | 1 => .int
  | _ => .int
theorem nmX6 : ∀ a, a < 3 → ∀ b, b < 3 → a ≠ b → (TX6 a).2.1 ≠ (TX6 b).2.1 := by decide +kernel
theorem tyX6_ok : ∀ k, k < 3 → parseFieldDescriptor (TX6 k).2.2.1 = some (tyX6 k) := by decide +kernel
abbrev cX6_init : ByteArray := prog_8_method_1_code
def yX6_init : MethodName := ⟨RX6, "<init>", "()V"⟩
abbrev cX6_clear : ByteArray := prog_8_method_2_code
def yX6_clear : MethodName := ⟨RX6, "clear", "()V"⟩
abbrev cX6_remember : ByteArray := prog_8_method_3_code
def yX6_remember : MethodName := ⟨RX6, "remember", "(LLastOfKind$House;)V"⟩
abbrev cX6_takeBack : ByteArray := prog_8_method_4_code
def yX6_takeBack : MethodName := ⟨RX6, "takeBack", "(LLastOfKind$House;)Z"⟩
abbrev cX6_placeAt : ByteArray := prog_8_method_5_code
def yX6_placeAt : MethodName := ⟨RX6, "placeAt", "(I)LLastOfKind$House;"⟩
def RX7 : String := "LastOfKind$Sightings"
def TX7 : u_T := fun k => match k with
  | 0 => ("LastOfKind$Sightings", "things", "[I", true)
  | 1 => ("LastOfKind$Sightings", "bounds", "[I", true)
  | 2 => ("LastOfKind$Sightings", "lower", "[Z", true)
  | 3 => ("LastOfKind$Sightings", "looked", "[I", true)
  | 4 => ("LastOfKind$Sightings", "worldsWith", "[I", true)
  | 5 => ("LastOfKind$Sightings", "length", "I", false)
  | 6 => ("LastOfKind$Sightings", "total", "I", false)
  | 7 => ("LastOfKind$Sightings", "inAll", "I", false)
  | _ => ("LastOfKind$Sightings", "inNone", "I", false)
def tyX7 : Nat → FieldType := fun k => match k with
  | 0 => .array .int
  | 1 => .array .int
  | 2 => .array .boolean
  | 3 => .array .int
  | 4 => .array .int
  | 5 => .int
  | 6 => .int
  | 7 => .int
  | _ => .int
theorem nmX7 : ∀ a, a < 9 → ∀ b, b < 9 → a ≠ b → (TX7 a).2.1 ≠ (TX7 b).2.1 := by decide +kernel
theorem tyX7_ok : ∀ k, k < 9 → parseFieldDescriptor (TX7 k).2.2.1 = some (tyX7 k) := by decide +kernel
abbrev cX7_init : ByteArray := prog_9_method_1_code
def yX7_init : MethodName := ⟨RX7, "<init>", "()V"⟩
abbrev cX7_append : ByteArray := prog_9_method_2_code
def yX7_append : MethodName := ⟨RX7, "append", "(IIZ)Z"⟩
abbrev cX7_survey : ByteArray := prog_9_method_3_code
def yX7_survey : MethodName := ⟨RX7, "survey", "(LLastOfKind$House;)V"⟩
abbrev cX7_mostTelling : ByteArray := prog_9_method_4_code
def yX7_mostTelling : MethodName := ⟨RX7, "mostTelling", "(LLastOfKind$House;)I"⟩
abbrev cX7_learn : ByteArray := prog_9_method_5_code
def yX7_learn : MethodName := ⟨RX7, "learn", "(LLastOfKind$House;)V"⟩
abbrev cX7_isSo : ByteArray := prog_9_method_6_code
def yX7_isSo : MethodName := ⟨RX7, "isSo", "(II)Z"⟩
abbrev cX7_tally : ByteArray := prog_9_method_7_code
def yX7_tally : MethodName := ⟨RX7, "tally", "(I)V"⟩
def RX8 : String := "LastOfKind$Text"
def TX8 : u_T := fun k => match k with
  | 0 => ("LastOfKind$Text", "letters", "[I", true)
  | _ => ("LastOfKind$Text", "length", "I", false)
def tyX8 : Nat → FieldType := fun k => match k with
  | 0 => .array .int
  | _ => .int
theorem nmX8 : ∀ a, a < 2 → ∀ b, b < 2 → a ≠ b → (TX8 a).2.1 ≠ (TX8 b).2.1 := by decide +kernel
theorem tyX8_ok : ∀ k, k < 2 → parseFieldDescriptor (TX8 k).2.2.1 = some (tyX8 k) := by decide +kernel
abbrev cX8_init : ByteArray := prog_10_method_1_code
def yX8_init : MethodName := ⟨RX8, "<init>", "()V"⟩
abbrev cX8_append : ByteArray := prog_10_method_2_code
def yX8_append : MethodName := ⟨RX8, "append", "(I)Z"⟩
abbrev cX8_firstFault : ByteArray := prog_10_method_3_code
def yX8_firstFault : MethodName := ⟨RX8, "firstFault", "()I"⟩
abbrev cX8_things : ByteArray := prog_10_method_4_code
def yX8_things : MethodName := ⟨RX8, "things", "()I"⟩
abbrev cX8_wordTold : ByteArray := prog_10_method_5_code
def yX8_wordTold : MethodName := ⟨RX8, "wordTold", "()I"⟩
abbrev cX8_figureTold : ByteArray := prog_10_method_6_code
def yX8_figureTold : MethodName := ⟨RX8, "figureTold", "(II)I"⟩
abbrev cX8_fits : ByteArray := prog_10_method_7_code
def yX8_fits : MethodName := ⟨RX8, "fits", "(I)Z"⟩
abbrev cX8_isWithin : ByteArray := prog_10_method_8_code
def yX8_isWithin : MethodName := ⟨RX8, "isWithin", "(III)Z"⟩
def RX9 : String := "LastOfKind"
def TX9 : u_T := fun k => match k with
  | 0 => ("LastOfKind", "text", "LLastOfKind$Text;", true)
  | 1 => ("LastOfKind", "now", "LLastOfKind$House;", true)
  | 2 => ("LastOfKind", "trial", "LLastOfKind$House;", true)
  | 3 => ("LastOfKind", "row", "LLastOfKind$Row;", true)
  | 4 => ("LastOfKind", "slots", "[LLastOfKind$House;", true)
  | 5 => ("LastOfKind", "filledSlots", "I", false)
  | 6 => ("LastOfKind", "plans", "LLastOfKind$Plans;", true)
  | 7 => ("LastOfKind", "owners", "LLastOfKind$Owners;", true)
  | 8 => ("LastOfKind", "sightings", "LLastOfKind$Sightings;", true)
  | 9 => ("LastOfKind", "museums", "LLastOfKind$Museums;", true)
  | _ => ("LastOfKind", "chances", "LLastOfKind$Chances;", true)
def tyX9 : Nat → FieldType := fun k => match k with
  | 0 => .object "LastOfKind$Text"
  | 1 => .object "LastOfKind$House"
  | 2 => .object "LastOfKind$House"
  | 3 => .object "LastOfKind$Row"
  | 4 => .array (.object "LastOfKind$House")
  | 5 => .int
  | 6 => .object "LastOfKind$Plans"
  | 7 => .object "LastOfKind$Owners"
  | 8 => .object "LastOfKind$Sightings"
  | 9 => .object "LastOfKind$Museums"
  | _ => .object "LastOfKind$Chances"
theorem nmX9 : ∀ a, a < 11 → ∀ b, b < 11 → a ≠ b → (TX9 a).2.1 ≠ (TX9 b).2.1 := by decide +kernel
theorem tyX9_ok : ∀ k, k < 11 → parseFieldDescriptor (TX9 k).2.2.1 = some (tyX9 k) := by decide +kernel
abbrev cX9_init : ByteArray := prog_1_method_1_code
def yX9_init : MethodName := ⟨RX9, "<init>", "()V"⟩
abbrev cX9_write : ByteArray := prog_1_method_2_code
def yX9_write : MethodName := ⟨RX9, "write", "(I)I"⟩
abbrev cX9_wipe : ByteArray := prog_1_method_3_code
def yX9_wipe : MethodName := ⟨RX9, "wipe", "()I"⟩
abbrev cX9_fault : ByteArray := prog_1_method_4_code
def yX9_fault : MethodName := ⟨RX9, "fault", "()I"⟩
abbrev cX9_house : ByteArray := prog_1_method_5_code
def yX9_house : MethodName := ⟨RX9, "house", "()I"⟩
abbrev cX9_thing : ByteArray := prog_1_method_6_code
def yX9_thing : MethodName := ⟨RX9, "thing", "(II)I"⟩
abbrev cX9_alike : ByteArray := prog_1_method_7_code
def yX9_alike : MethodName := ⟨RX9, "alike", "(I)I"⟩
abbrev cX9_price : ByteArray := prog_1_method_8_code
def yX9_price : MethodName := ⟨RX9, "price", "(I)I"⟩
abbrev cX9_broken : ByteArray := prog_1_method_9_code
def yX9_broken : MethodName := ⟨RX9, "broken", "(I)I"⟩
abbrev cX9_forge : ByteArray := prog_1_method_10_code
def yX9_forge : MethodName := ⟨RX9, "forge", "(II)I"⟩
abbrev cX9_hide : ByteArray := prog_1_method_11_code
def yX9_hide : MethodName := ⟨RX9, "hide", "(I)I"⟩
abbrev cX9_claim : ByteArray := prog_1_method_12_code
def yX9_claim : MethodName := ⟨RX9, "claim", "(I)I"⟩
abbrev cX9_guard : ByteArray := prog_1_method_13_code
def yX9_guard : MethodName := ⟨RX9, "guard", "(I)I"⟩
abbrev cX9_word : ByteArray := prog_1_method_14_code
def yX9_word : MethodName := ⟨RX9, "word", "(I)I"⟩
abbrev cX9_year : ByteArray := prog_1_method_15_code
def yX9_year : MethodName := ⟨RX9, "year", "()I"⟩
abbrev cX9_undo : ByteArray := prog_1_method_16_code
def yX9_undo : MethodName := ⟨RX9, "undo", "()I"⟩
abbrev cX9_judge : ByteArray := prog_1_method_17_code
def yX9_judge : MethodName := ⟨RX9, "judge", "(II)I"⟩
abbrev cX9_tryAct : ByteArray := prog_1_method_18_code
def yX9_tryAct : MethodName := ⟨RX9, "tryAct", "(II)I"⟩
abbrev cX9_campaign : ByteArray := prog_1_method_19_code
def yX9_campaign : MethodName := ⟨RX9, "campaign", "(I)I"⟩
abbrev cX9_campaignBy : ByteArray := prog_1_method_20_code
def yX9_campaignBy : MethodName := ⟨RX9, "campaignBy", "(II)I"⟩
abbrev cX9_copy : ByteArray := prog_1_method_21_code
def yX9_copy : MethodName := ⟨RX9, "copy", "(I)I"⟩
abbrev cX9_bestWord : ByteArray := prog_1_method_22_code
def yX9_bestWord : MethodName := ⟨RX9, "bestWord", "(I)I"⟩
abbrev cX9_rests : ByteArray := prog_1_method_23_code
def yX9_rests : MethodName := ⟨RX9, "rests", "(I)I"⟩
abbrev cX9_sight : ByteArray := prog_1_method_24_code
def yX9_sight : MethodName := ⟨RX9, "sight", "(IIZ)I"⟩
abbrev cX9_unsight : ByteArray := prog_1_method_25_code
def yX9_unsight : MethodName := ⟨RX9, "unsight", "()I"⟩
abbrev cX9_worlds : ByteArray := prog_1_method_26_code
def yX9_worlds : MethodName := ⟨RX9, "worlds", "(I)I"⟩
abbrev cX9_toSeek : ByteArray := prog_1_method_27_code
def yX9_toSeek : MethodName := ⟨RX9, "toSeek", "()I"⟩
abbrev cX9_byTurns : ByteArray := prog_1_method_28_code
def yX9_byTurns : MethodName := ⟨RX9, "byTurns", "(II)I"⟩
abbrev cX9_chance : ByteArray := prog_1_method_29_code
def yX9_chance : MethodName := ⟨RX9, "chance", "(IIZ)I"⟩
abbrev cX9_seed : ByteArray := prog_1_method_30_code
def yX9_seed : MethodName := ⟨RX9, "seed", "(J)J"⟩
abbrev cX9_years : ByteArray := prog_1_method_31_code
def yX9_years : MethodName := ⟨RX9, "years", "(II)I"⟩
abbrev cX9_keep : ByteArray := prog_1_method_32_code
def yX9_keep : MethodName := ⟨RX9, "keep", "(I)I"⟩
abbrev cX9_again : ByteArray := prog_1_method_33_code
def yX9_again : MethodName := ⟨RX9, "again", "(I)I"⟩
abbrev cX9_count : ByteArray := prog_1_method_34_code
def yX9_count : MethodName := ⟨RX9, "count", "(I)I"⟩
abbrev cX9_slotAt : ByteArray := prog_1_method_35_code
def yX9_slotAt : MethodName := ⟨RX9, "slotAt", "(I)LLastOfKind$House;"⟩
abbrev cX9_holds : ByteArray := prog_1_method_36_code
def yX9_holds : MethodName := ⟨RX9, "holds", "(II)Z"⟩
abbrev cX9_withoutLast : ByteArray := prog_1_method_37_code
def yX9_withoutLast : MethodName := ⟨RX9, "withoutLast", "(II)I"⟩
abbrev cX9_at : ByteArray := prog_1_method_38_code
def yX9_at : MethodName := ⟨RX9, "at", "([II)I"⟩
abbrev cX9_put : ByteArray := prog_1_method_39_code
def yX9_put : MethodName := ⟨RX9, "put", "([III)V"⟩
def RX10 : String := "LastOfKindModel"
def TX10 : u_T := fun k => match k with
  | 0 => ("LastOfKindModel", "now", "[I", true)
  | 1 => ("LastOfKindModel", "text", "[I", true)
  | 2 => ("LastOfKindModel", "length", "I", false)
  | 3 => ("LastOfKindModel", "acts", "I", false)
  | 4 => ("LastOfKindModel", "next", "I", false)
  | 5 => ("LastOfKindModel", "row", "[I", true)
  | 6 => ("LastOfKindModel", "sights", "I", false)
  | 7 => ("LastOfKindModel", "sightOf", "[I", true)
  | 8 => ("LastOfKindModel", "sightMany", "[I", true)
  | 9 => ("LastOfKindModel", "sightLeast", "[Z", true)
  | 10 => ("LastOfKindModel", "worldMany", "I", false)
  | 11 => ("LastOfKindModel", "worldAll", "I", false)
  | 12 => ("LastOfKindModel", "worldSome", "I", false)
  | 13 => ("LastOfKindModel", "worldWith", "[I", true)
  | 14 => ("LastOfKindModel", "gBroken", "[I", true)
  | 15 => ("LastOfKindModel", "gClaimed", "[I", true)
  | 16 => ("LastOfKindModel", "gTry", "[I", true)
  | 17 => ("LastOfKindModel", "gBest", "[I", true)
  | 18 => ("LastOfKindModel", "gMove", "[I", true)
  | 19 => ("LastOfKindModel", "gHas", "[I", true)
  | 20 => ("LastOfKindModel", "seed", "J", false)
  | 21 => ("LastOfKindModel", "isKept", "[Z", true)
  | _ => ("LastOfKindModel", "kept", "[I", true)
def tyX10 : Nat → FieldType := fun k => match k with
  | 0 => .array .int
  | 1 => .array .int
  | 2 => .int
  | 3 => .int
  | 4 => .int
  | 5 => .array .int
  | 6 => .int
  | 7 => .array .int
  | 8 => .array .int
  | 9 => .array .boolean
  | 10 => .int
  | 11 => .int
  | 12 => .int
  | 13 => .array .int
  | 14 => .array .int
  | 15 => .array .int
  | 16 => .array .int
  | 17 => .array .int
  | 18 => .array .int
  | 19 => .array .int
  | 20 => .long
  | 21 => .array .boolean
  | _ => .array .int
theorem nmX10 : ∀ a, a < 23 → ∀ b, b < 23 → a ≠ b → (TX10 a).2.1 ≠ (TX10 b).2.1 := by decide +kernel
theorem tyX10_ok : ∀ k, k < 23 → parseFieldDescriptor (TX10 k).2.2.1 = some (tyX10 k) := by decide +kernel
abbrev cX10_init : ByteArray := prog_12_method_1_code
def yX10_init : MethodName := ⟨RX10, "<init>", "()V"⟩
abbrev cX10_in : ByteArray := prog_12_method_3_code
def yX10_in : MethodName := ⟨RX10, "in", "(JJJ)Z"⟩
abbrev cX10_has : ByteArray := prog_12_method_4_code
def yX10_has : MethodName := ⟨RX10, "has", "(II)Z"⟩
abbrev cX10_ones : ByteArray := prog_12_method_5_code
def yX10_ones : MethodName := ⟨RX10, "ones", "(I)I"⟩
abbrev cX10_write : ByteArray := prog_12_method_6_code
def yX10_write : MethodName := ⟨RX10, "write", "(I)I"⟩
abbrev cX10_wipe : ByteArray := prog_12_method_7_code
def yX10_wipe : MethodName := ⟨RX10, "wipe", "()I"⟩
abbrev cX10_fits : ByteArray := prog_12_method_8_code
def yX10_fits : MethodName := ⟨RX10, "fits", "(I)Z"⟩
abbrev cX10_fault : ByteArray := prog_12_method_9_code
def yX10_fault : MethodName := ⟨RX10, "fault", "()I"⟩
abbrev cX10_figure : ByteArray := prog_12_method_10_code
def yX10_figure : MethodName := ⟨RX10, "figure", "(I)I"⟩
abbrev cX10_code : ByteArray := prog_12_method_11_code
def yX10_code : MethodName := ⟨RX10, "code", "(IIIII)I"⟩
abbrev cX10_house : ByteArray := prog_12_method_12_code
def yX10_house : MethodName := ⟨RX10, "house", "()I"⟩
abbrev cX10_many : ByteArray := prog_12_method_13_code
def yX10_many : MethodName := ⟨RX10, "many", "()I"⟩
abbrev cX10_isThing : ByteArray := prog_12_method_14_code
def yX10_isThing : MethodName := ⟨RX10, "isThing", "(I)Z"⟩
abbrev cX10_guardOf : ByteArray := prog_12_method_15_code
def yX10_guardOf : MethodName := ⟨RX10, "guardOf", "(I)I"⟩
abbrev cX10_costOf : ByteArray := prog_12_method_16_code
def yX10_costOf : MethodName := ⟨RX10, "costOf", "(I)I"⟩
abbrev cX10_worthOf : ByteArray := prog_12_method_17_code
def yX10_worthOf : MethodName := ⟨RX10, "worthOf", "(I)I"⟩
abbrev cX10_ownerOf : ByteArray := prog_12_method_18_code
def yX10_ownerOf : MethodName := ⟨RX10, "ownerOf", "(I)I"⟩
abbrev cX10_marksOf : ByteArray := prog_12_method_19_code
def yX10_marksOf : MethodName := ⟨RX10, "marksOf", "(I)I"⟩
abbrev cX10_tenTo : ByteArray := prog_12_method_20_code
def yX10_tenTo : MethodName := ⟨RX10, "tenTo", "(I)I"⟩
abbrev cX10_markOf : ByteArray := prog_12_method_21_code
def yX10_markOf : MethodName := ⟨RX10, "markOf", "(II)I"⟩
abbrev cX10_same : ByteArray := prog_12_method_22_code
def yX10_same : MethodName := ⟨RX10, "same", "(II)I"⟩
abbrev cX10_alikeOf : ByteArray := prog_12_method_23_code
def yX10_alikeOf : MethodName := ⟨RX10, "alikeOf", "(III)I"⟩
abbrev cX10_shown : ByteArray := prog_12_method_24_code
def yX10_shown : MethodName := ⟨RX10, "shown", "(I)I"⟩
abbrev cX10_lastOf : ByteArray := prog_12_method_25_code
def yX10_lastOf : MethodName := ⟨RX10, "lastOf", "(II)I"⟩
abbrev cX10_last : ByteArray := prog_12_method_26_code
def yX10_last : MethodName := ⟨RX10, "last", "()I"⟩
abbrev cX10_thing : ByteArray := prog_12_method_27_code
def yX10_thing : MethodName := ⟨RX10, "thing", "(II)I"⟩
abbrev cX10_alike : ByteArray := prog_12_method_28_code
def yX10_alike : MethodName := ⟨RX10, "alike", "(I)I"⟩
abbrev cX10_priceBy : ByteArray := prog_12_method_29_code
def yX10_priceBy : MethodName := ⟨RX10, "priceBy", "(II)I"⟩
abbrev cX10_price : ByteArray := prog_12_method_30_code
def yX10_price : MethodName := ⟨RX10, "price", "(I)I"⟩
abbrev cX10_keepAct : ByteArray := prog_12_method_31_code
def yX10_keepAct : MethodName := ⟨RX10, "keepAct", "()V"⟩
abbrev cX10_guardAt : ByteArray := prog_12_method_32_code
def yX10_guardAt : MethodName := ⟨RX10, "guardAt", "(II)I"⟩
abbrev cX10_canBreak : ByteArray := prog_12_method_33_code
def yX10_canBreak : MethodName := ⟨RX10, "canBreak", "(II)Z"⟩
abbrev cX10_canClaim : ByteArray := prog_12_method_34_code
def yX10_canClaim : MethodName := ⟨RX10, "canClaim", "(II)Z"⟩
abbrev cX10_canHide : ByteArray := prog_12_method_35_code
def yX10_canHide : MethodName := ⟨RX10, "canHide", "(II)Z"⟩
abbrev cX10_free : ByteArray := prog_12_method_36_code
def yX10_free : MethodName := ⟨RX10, "free", "(II)V"⟩
abbrev cX10_doHide : ByteArray := prog_12_method_37_code
def yX10_doHide : MethodName := ⟨RX10, "doHide", "(II)V"⟩
abbrev cX10_doGuard : ByteArray := prog_12_method_38_code
def yX10_doGuard : MethodName := ⟨RX10, "doGuard", "(II)V"⟩
abbrev cX10_broken : ByteArray := prog_12_method_39_code
def yX10_broken : MethodName := ⟨RX10, "broken", "(I)I"⟩
abbrev cX10_forge : ByteArray := prog_12_method_40_code
def yX10_forge : MethodName := ⟨RX10, "forge", "(II)I"⟩
abbrev cX10_hide : ByteArray := prog_12_method_41_code
def yX10_hide : MethodName := ⟨RX10, "hide", "(I)I"⟩
abbrev cX10_claim : ByteArray := prog_12_method_42_code
def yX10_claim : MethodName := ⟨RX10, "claim", "(I)I"⟩
abbrev cX10_guard : ByteArray := prog_12_method_43_code
def yX10_guard : MethodName := ⟨RX10, "guard", "(I)I"⟩
abbrev cX10_word : ByteArray := prog_12_method_44_code
def yX10_word : MethodName := ⟨RX10, "word", "(I)I"⟩
abbrev cX10_year : ByteArray := prog_12_method_45_code
def yX10_year : MethodName := ⟨RX10, "year", "()I"⟩
abbrev cX10_undo : ByteArray := prog_12_method_46_code
def yX10_undo : MethodName := ⟨RX10, "undo", "()I"⟩
abbrev cX10_can : ByteArray := prog_12_method_47_code
def yX10_can : MethodName := ⟨RX10, "can", "(II)Z"⟩
abbrev cX10_make : ByteArray := prog_12_method_48_code
def yX10_make : MethodName := ⟨RX10, "make", "(II)V"⟩
abbrev cX10_judge : ByteArray := prog_12_method_49_code
def yX10_judge : MethodName := ⟨RX10, "judge", "(II)I"⟩
abbrev cX10_apart : ByteArray := prog_12_method_50_code
def yX10_apart : MethodName := ⟨RX10, "apart", "(II)I"⟩
abbrev cX10_costBy : ByteArray := prog_12_method_51_code
def yX10_costBy : MethodName := ⟨RX10, "costBy", "(II)I"⟩
abbrev cX10_campaignWord : ByteArray := prog_12_method_52_code
def yX10_campaignWord : MethodName := ⟨RX10, "campaignWord", "(I)I"⟩
abbrev cX10_campaign : ByteArray := prog_12_method_53_code
def yX10_campaign : MethodName := ⟨RX10, "campaign", "(I)I"⟩
abbrev cX10_campaignBy : ByteArray := prog_12_method_54_code
def yX10_campaignBy : MethodName := ⟨RX10, "campaignBy", "(II)I"⟩
abbrev cX10_copy : ByteArray := prog_12_method_55_code
def yX10_copy : MethodName := ⟨RX10, "copy", "(I)I"⟩
abbrev cX10_bestWord : ByteArray := prog_12_method_56_code
def yX10_bestWord : MethodName := ⟨RX10, "bestWord", "(I)I"⟩
abbrev cX10_may : ByteArray := prog_12_method_57_code
def yX10_may : MethodName := ⟨RX10, "may", "(II)Z"⟩
abbrev cX10_has3 : ByteArray := prog_12_method_58_code
def yX10_has3 : MethodName := ⟨RX10, "has3", "(IIII)I"⟩
abbrev cX10_rest : ByteArray := prog_12_method_59_code
def yX10_rest : MethodName := ⟨RX10, "rest", "(III)Z"⟩
abbrev cX10_rests : ByteArray := prog_12_method_60_code
def yX10_rests : MethodName := ⟨RX10, "rests", "(I)I"⟩
abbrev cX10_sight : ByteArray := prog_12_method_61_code
def yX10_sight : MethodName := ⟨RX10, "sight", "(IIZ)I"⟩
abbrev cX10_unsight : ByteArray := prog_12_method_62_code
def yX10_unsight : MethodName := ⟨RX10, "unsight", "()I"⟩
abbrev cX10_hiddenThere : ByteArray := prog_12_method_63_code
def yX10_hiddenThere : MethodName := ⟨RX10, "hiddenThere", "()I"⟩
abbrev cX10_isSighted : ByteArray := prog_12_method_64_code
def yX10_isSighted : MethodName := ⟨RX10, "isSighted", "(I)Z"⟩
abbrev cX10_layWorlds : ByteArray := prog_12_method_65_code
def yX10_layWorlds : MethodName := ⟨RX10, "layWorlds", "()V"⟩
abbrev cX10_worlds : ByteArray := prog_12_method_66_code
def yX10_worlds : MethodName := ⟨RX10, "worlds", "(I)I"⟩
abbrev cX10_toSeek : ByteArray := prog_12_method_67_code
def yX10_toSeek : MethodName := ⟨RX10, "toSeek", "()I"⟩
abbrev cX10_canMove : ByteArray := prog_12_method_68_code
def yX10_canMove : MethodName := ⟨RX10, "canMove", "(II)Z"⟩
abbrev cX10_begin : ByteArray := prog_12_method_69_code
def yX10_begin : MethodName := ⟨RX10, "begin", "(III)V"⟩
abbrev cX10_go : ByteArray := prog_12_method_70_code
def yX10_go : MethodName := ⟨RX10, "go", "(II)V"⟩
abbrev cX10_byTurns : ByteArray := prog_12_method_71_code
def yX10_byTurns : MethodName := ⟨RX10, "byTurns", "(II)I"⟩
abbrev cX10_common : ByteArray := prog_12_method_72_code
def yX10_common : MethodName := ⟨RX10, "common", "(II)I"⟩
abbrev cX10_frail : ByteArray := prog_12_method_73_code
def yX10_frail : MethodName := ⟨RX10, "frail", "(I)I"⟩
abbrev cX10_chance : ByteArray := prog_12_method_74_code
def yX10_chance : MethodName := ⟨RX10, "chance", "(IIZ)I"⟩
abbrev cX10_seed : ByteArray := prog_12_method_75_code
def yX10_seed : MethodName := ⟨RX10, "seed", "(J)J"⟩
abbrev cX10_years : ByteArray := prog_12_method_76_code
def yX10_years : MethodName := ⟨RX10, "years", "(II)I"⟩
abbrev cX10_keep : ByteArray := prog_12_method_77_code
def yX10_keep : MethodName := ⟨RX10, "keep", "(I)I"⟩
abbrev cX10_again : ByteArray := prog_12_method_78_code
def yX10_again : MethodName := ⟨RX10, "again", "(I)I"⟩
abbrev cX10_count : ByteArray := prog_12_method_79_code
def yX10_count : MethodName := ⟨RX10, "count", "(I)I"⟩
def RJ6 : String := "java/lang/Integer"
def TJ6 : u_T := fun k => match k with
  | _ => ("", "", "", false)
def tyJ6 : Nat → FieldType := fun k => match k with
  | _ => .int
theorem nmJ6 : ∀ a, a < 0 → ∀ b, b < 0 → a ≠ b → (TJ6 a).2.1 ≠ (TJ6 b).2.1 := by decide +kernel
theorem tyJ6_ok : ∀ k, k < 0 → parseFieldDescriptor (TJ6 k).2.2.1 = some (tyJ6 k) := by decide +kernel
abbrev cJ6_bitCount_0f7a4 : ByteArray := prog_13_method_49_code
def yJ6_bitCount_0f7a4 : MethodName := ⟨RJ6, "bitCount", "(I)I"⟩
def RJ9 : String := "java/lang/Math"
def TJ9 : u_T := fun k => match k with
  | _ => ("", "", "", false)
def tyJ9 : Nat → FieldType := fun k => match k with
  | _ => .int
theorem nmJ9 : ∀ a, a < 0 → ∀ b, b < 0 → a ≠ b → (TJ9 a).2.1 ≠ (TJ9 b).2.1 := by decide +kernel
theorem tyJ9_ok : ∀ k, k < 0 → parseFieldDescriptor (TJ9 k).2.2.1 = some (tyJ9 k) := by decide +kernel
abbrev cJ9_abs_0f7a4 : ByteArray := prog_14_method_59_code
def yJ9_abs_0f7a4 : MethodName := ⟨RJ9, "abs", "(I)I"⟩
abbrev cJ9_max_7cf53 : ByteArray := prog_14_method_65_code
def yJ9_max_7cf53 : MethodName := ⟨RJ9, "max", "(II)I"⟩
abbrev cJ9_min_7cf53 : ByteArray := prog_14_method_69_code
def yJ9_min_7cf53 : MethodName := ⟨RJ9, "min", "(II)I"⟩
def RL : String := "LastOfKindLaw"
abbrev cL_law : ByteArray := code
abbrev vwCl : List vw_C := [(RX0, TX0, 3), (RX1, TX1, 3), (RX2, TX2, 8), (RX3, TX3, 6), (RX4, TX4, 6), (RX5, TX5, 3), (RX6, TX6, 3), (RX7, TX7, 9), (RX8, TX8, 2), (RX9, TX9, 11), (RX10, TX10, 23)]
end
section
theorem dX0_init_0 : decode cX0_init 0 = .ok (.aload_n 0, 1) := by decide +kernel
theorem dX0_init_1 : decode cX0_init 1 = .ok (.invokespecial 3, 3) := by decide +kernel
theorem dX0_init_4 : decode cX0_init 4 = .ok (.return_, 1) := by decide +kernel
theorem dX0_weigh_0 : decode cX0_weigh 0 = .ok (.aload_n 1, 1) := by decide +kernel
theorem dX0_weigh_1 : decode cX0_weigh 1 = .ok (.invokevirtual 9, 3) := by decide +kernel
theorem dX0_weigh_4 : decode cX0_weigh 4 = .ok (.istore 4, 2) := by decide +kernel
theorem dX0_weigh_6 : decode cX0_weigh 6 = .ok (.iload 4, 2) := by decide +kernel
theorem dX0_weigh_8 : decode cX0_weigh 8 = .ok (.aload_n 1, 1) := by decide +kernel
theorem dX0_weigh_9 : decode cX0_weigh 9 = .ok (.invokevirtual 15, 3) := by decide +kernel
theorem dX0_weigh_12 : decode cX0_weigh 12 = .ok (.iand, 1) := by decide +kernel
theorem dX0_weigh_13 : decode cX0_weigh 13 = .ok (.istore 5, 2) := by decide +kernel
theorem dX0_weigh_15 : decode cX0_weigh 15 = .ok (.aload_n 1, 1) := by decide +kernel
theorem dX0_weigh_16 : decode cX0_weigh 16 = .ok (.iload_n 2, 1) := by decide +kernel
theorem dX0_weigh_17 : decode cX0_weigh 17 = .ok (.aload_n 1, 1) := by decide +kernel
theorem dX0_weigh_18 : decode cX0_weigh 18 = .ok (.getfield 18, 3) := by decide +kernel
theorem dX0_weigh_21 : decode cX0_weigh 21 = .ok (.iload 4, 2) := by decide +kernel
theorem dX0_weigh_23 : decode cX0_weigh 23 = .ok (.invokevirtual 22, 3) := by decide +kernel
theorem dX0_weigh_26 : decode cX0_weigh 26 = .ok (.istore 6, 2) := by decide +kernel
theorem dX0_weigh_28 : decode cX0_weigh 28 = .ok (.aload_n 0, 1) := by decide +kernel
theorem dX0_weigh_29 : decode cX0_weigh 29 = .ok (.iconst 0, 1) := by decide +kernel
theorem dX0_weigh_30 : decode cX0_weigh 30 = .ok (.putfield 26, 3) := by decide +kernel
theorem dX0_weigh_33 : decode cX0_weigh 33 = .ok (.aload_n 0, 1) := by decide +kernel
theorem dX0_weigh_34 : decode cX0_weigh 34 = .ok (.iconst 1, 1) := by decide +kernel
theorem dX0_weigh_35 : decode cX0_weigh 35 = .ok (.putfield 31, 3) := by decide +kernel
theorem dX0_weigh_38 : decode cX0_weigh 38 = .ok (.iload 4, 2) := by decide +kernel
theorem dX0_weigh_40 : decode cX0_weigh 40 = .ok (.iload_n 2, 1) := by decide +kernel
theorem dX0_weigh_41 : decode cX0_weigh 41 = .ok (.invokestatic 34, 3) := by decide +kernel
theorem dX0_weigh_44 : decode cX0_weigh 44 = .ok (.ifCond .eq 13, 3) := by decide +kernel
theorem dX0_weigh_47 : decode cX0_weigh 47 = .ok (.iload 6, 2) := by decide +kernel
theorem dX0_weigh_49 : decode cX0_weigh 49 = .ok (.iload 5, 2) := by decide +kernel
theorem dX0_weigh_51 : decode cX0_weigh 51 = .ok (.iconst (-1), 1) := by decide +kernel
theorem dX0_weigh_52 : decode cX0_weigh 52 = .ok (.ixor, 1) := by decide +kernel
theorem dX0_weigh_53 : decode cX0_weigh 53 = .ok (.iand, 1) := by decide +kernel
theorem dX0_weigh_54 : decode cX0_weigh 54 = .ok (.ifCond .eq 4, 3) := by decide +kernel
theorem dX0_weigh_57 : decode cX0_weigh 57 = .ok (.return_, 1) := by decide +kernel
theorem dX0_weigh_58 : decode cX0_weigh 58 = .ok (.aload_n 0, 1) := by decide +kernel
theorem dX0_weigh_59 : decode cX0_weigh 59 = .ok (.iload 5, 2) := by decide +kernel
theorem dX0_weigh_61 : decode cX0_weigh 61 = .ok (.iload_n 2, 1) := by decide +kernel
theorem dX0_weigh_62 : decode cX0_weigh 62 = .ok (.invokestatic 34, 3) := by decide +kernel
theorem dX0_weigh_65 : decode cX0_weigh 65 = .ok (.ifCond .eq 10, 3) := by decide +kernel
theorem dX0_weigh_68 : decode cX0_weigh 68 = .ok (.bipush 10, 2) := by decide +kernel
theorem dX0_weigh_70 : decode cX0_weigh 70 = .ok (.iload_n 3, 1) := by decide +kernel
theorem dX0_weigh_71 : decode cX0_weigh 71 = .ok (.isub, 1) := by decide +kernel
theorem dX0_weigh_72 : decode cX0_weigh 72 = .ok (.goto 5, 3) := by decide +kernel
theorem dX0_weigh_75 : decode cX0_weigh 75 = .ok (.bipush 10, 2) := by decide +kernel
theorem dX0_weigh_77 : decode cX0_weigh 77 = .ok (.putfield 26, 3) := by decide +kernel
theorem dX0_weigh_80 : decode cX0_weigh 80 = .ok (.aload_n 0, 1) := by decide +kernel
theorem dX0_weigh_81 : decode cX0_weigh 81 = .ok (.bipush 10, 2) := by decide +kernel
theorem dX0_weigh_83 : decode cX0_weigh 83 = .ok (.putfield 31, 3) := by decide +kernel
theorem dX0_weigh_86 : decode cX0_weigh 86 = .ok (.iconst 0, 1) := by decide +kernel
theorem dX0_weigh_87 : decode cX0_weigh 87 = .ok (.istore 7, 2) := by decide +kernel
theorem dX0_weigh_89 : decode cX0_weigh 89 = .ok (.iload 7, 2) := by decide +kernel
theorem dX0_weigh_91 : decode cX0_weigh 91 = .ok (.iload 6, 2) := by decide +kernel
theorem dX0_weigh_93 : decode cX0_weigh 93 = .ok (.invokestatic 38, 3) := by decide +kernel
theorem dX0_weigh_96 : decode cX0_weigh 96 = .ok (.if_icmp .ge 30, 3) := by decide +kernel
theorem dX0_weigh_99 : decode cX0_weigh 99 = .ok (.aload_n 0, 1) := by decide +kernel
theorem dX0_weigh_100 : decode cX0_weigh 100 = .ok (.dup, 1) := by decide +kernel
theorem dX0_weigh_101 : decode cX0_weigh 101 = .ok (.getfield 26, 3) := by decide +kernel
theorem dX0_weigh_104 : decode cX0_weigh 104 = .ok (.iload_n 3, 1) := by decide +kernel
theorem dX0_weigh_105 : decode cX0_weigh 105 = .ok (.imul, 1) := by decide +kernel
theorem dX0_weigh_106 : decode cX0_weigh 106 = .ok (.putfield 26, 3) := by decide +kernel
theorem dX0_weigh_109 : decode cX0_weigh 109 = .ok (.aload_n 0, 1) := by decide +kernel
theorem dX0_weigh_110 : decode cX0_weigh 110 = .ok (.dup, 1) := by decide +kernel
theorem dX0_weigh_111 : decode cX0_weigh 111 = .ok (.getfield 31, 3) := by decide +kernel
theorem dX0_weigh_114 : decode cX0_weigh 114 = .ok (.bipush 10, 2) := by decide +kernel
theorem dX0_weigh_116 : decode cX0_weigh 116 = .ok (.imul, 1) := by decide +kernel
theorem dX0_weigh_117 : decode cX0_weigh 117 = .ok (.putfield 31, 3) := by decide +kernel
theorem dX0_weigh_120 : decode cX0_weigh 120 = .ok (.iinc 7 1, 3) := by decide +kernel
theorem dX0_weigh_123 : decode cX0_weigh 123 = .ok (.goto (-34), 3) := by decide +kernel
theorem dX0_weigh_126 : decode cX0_weigh 126 = .ok (.aload_n 0, 1) := by decide +kernel
theorem dX0_weigh_127 : decode cX0_weigh 127 = .ok (.invokevirtual 44, 3) := by decide +kernel
theorem dX0_weigh_130 : decode cX0_weigh 130 = .ok (.return_, 1) := by decide +kernel
theorem dX0_lastAfter_0 : decode cX0_lastAfter 0 = .ok (.aload_n 1, 1) := by decide +kernel
theorem dX0_lastAfter_1 : decode cX0_lastAfter 1 = .ok (.invokevirtual 9, 3) := by decide +kernel
theorem dX0_lastAfter_4 : decode cX0_lastAfter 4 = .ok (.istore 4, 2) := by decide +kernel
theorem dX0_lastAfter_6 : decode cX0_lastAfter 6 = .ok (.iload 4, 2) := by decide +kernel
theorem dX0_lastAfter_8 : decode cX0_lastAfter 8 = .ok (.aload_n 1, 1) := by decide +kernel
theorem dX0_lastAfter_9 : decode cX0_lastAfter 9 = .ok (.invokevirtual 15, 3) := by decide +kernel
theorem dX0_lastAfter_12 : decode cX0_lastAfter 12 = .ok (.iand, 1) := by decide +kernel
theorem dX0_lastAfter_13 : decode cX0_lastAfter 13 = .ok (.istore 5, 2) := by decide +kernel
theorem dX0_lastAfter_15 : decode cX0_lastAfter 15 = .ok (.iconst 0, 1) := by decide +kernel
theorem dX0_lastAfter_16 : decode cX0_lastAfter 16 = .ok (.istore 6, 2) := by decide +kernel
theorem dX0_lastAfter_18 : decode cX0_lastAfter 18 = .ok (.iload 6, 2) := by decide +kernel
theorem dX0_lastAfter_20 : decode cX0_lastAfter 20 = .ok (.iload_n 2, 1) := by decide +kernel
theorem dX0_lastAfter_21 : decode cX0_lastAfter 21 = .ok (.if_icmp .ge 85, 3) := by decide +kernel
theorem dX0_lastAfter_24 : decode cX0_lastAfter 24 = .ok (.iconst 0, 1) := by decide +kernel
theorem dX0_lastAfter_25 : decode cX0_lastAfter 25 = .ok (.istore 7, 2) := by decide +kernel
theorem dX0_lastAfter_27 : decode cX0_lastAfter 27 = .ok (.iload 7, 2) := by decide +kernel
theorem dX0_lastAfter_29 : decode cX0_lastAfter 29 = .ok (.bipush 8, 2) := by decide +kernel
theorem dX0_lastAfter_31 : decode cX0_lastAfter 31 = .ok (.if_icmp .ge 69, 3) := by decide +kernel
theorem dX0_lastAfter_34 : decode cX0_lastAfter 34 = .ok (.iload 4, 2) := by decide +kernel
theorem dX0_lastAfter_36 : decode cX0_lastAfter 36 = .ok (.iload 5, 2) := by decide +kernel
theorem dX0_lastAfter_38 : decode cX0_lastAfter 38 = .ok (.iand, 1) := by decide +kernel
theorem dX0_lastAfter_39 : decode cX0_lastAfter 39 = .ok (.iload 7, 2) := by decide +kernel
theorem dX0_lastAfter_41 : decode cX0_lastAfter 41 = .ok (.invokestatic 34, 3) := by decide +kernel
theorem dX0_lastAfter_44 : decode cX0_lastAfter 44 = .ok (.ifCond .ne 6, 3) := by decide +kernel
theorem dX0_lastAfter_47 : decode cX0_lastAfter 47 = .ok (.goto 47, 3) := by decide +kernel
theorem dX0_lastAfter_50 : decode cX0_lastAfter 50 = .ok (.aload_n 0, 1) := by decide +kernel
theorem dX0_lastAfter_51 : decode cX0_lastAfter 51 = .ok (.aload_n 0, 1) := by decide +kernel
theorem dX0_lastAfter_52 : decode cX0_lastAfter 52 = .ok (.getfield 47, 3) := by decide +kernel
theorem dX0_lastAfter_55 : decode cX0_lastAfter 55 = .ok (.ldc2_w 51, 3) := by decide +kernel
theorem dX0_lastAfter_58 : decode cX0_lastAfter 58 = .ok (.lmul, 1) := by decide +kernel
theorem dX0_lastAfter_59 : decode cX0_lastAfter 59 = .ok (.ldc2_w 53, 3) := by decide +kernel
theorem dX0_lastAfter_62 : decode cX0_lastAfter 62 = .ok (.ladd, 1) := by decide +kernel
theorem dX0_lastAfter_63 : decode cX0_lastAfter 63 = .ok (.putfield 47, 3) := by decide +kernel
theorem dX0_lastAfter_66 : decode cX0_lastAfter 66 = .ok (.aload_n 0, 1) := by decide +kernel
theorem dX0_lastAfter_67 : decode cX0_lastAfter 67 = .ok (.getfield 47, 3) := by decide +kernel
theorem dX0_lastAfter_70 : decode cX0_lastAfter 70 = .ok (.bipush 33, 2) := by decide +kernel
theorem dX0_lastAfter_72 : decode cX0_lastAfter 72 = .ok (.lushr, 1) := by decide +kernel
theorem dX0_lastAfter_73 : decode cX0_lastAfter 73 = .ok (.ldc2_w 55, 3) := by decide +kernel
theorem dX0_lastAfter_76 : decode cX0_lastAfter 76 = .ok (.lrem, 1) := by decide +kernel
theorem dX0_lastAfter_77 : decode cX0_lastAfter 77 = .ok (.iload_n 3, 1) := by decide +kernel
theorem dX0_lastAfter_78 : decode cX0_lastAfter 78 = .ok (.i2l, 1) := by decide +kernel
theorem dX0_lastAfter_79 : decode cX0_lastAfter 79 = .ok (.lcmp, 1) := by decide +kernel
theorem dX0_lastAfter_80 : decode cX0_lastAfter 80 = .ok (.ifCond .ge 14, 3) := by decide +kernel
theorem dX0_lastAfter_83 : decode cX0_lastAfter 83 = .ok (.iload 4, 2) := by decide +kernel
theorem dX0_lastAfter_85 : decode cX0_lastAfter 85 = .ok (.iconst 1, 1) := by decide +kernel
theorem dX0_lastAfter_86 : decode cX0_lastAfter 86 = .ok (.iload 7, 2) := by decide +kernel
theorem dX0_lastAfter_88 : decode cX0_lastAfter 88 = .ok (.ishl, 1) := by decide +kernel
theorem dX0_lastAfter_89 : decode cX0_lastAfter 89 = .ok (.iconst (-1), 1) := by decide +kernel
theorem dX0_lastAfter_90 : decode cX0_lastAfter 90 = .ok (.ixor, 1) := by decide +kernel
theorem dX0_lastAfter_91 : decode cX0_lastAfter 91 = .ok (.iand, 1) := by decide +kernel
theorem dX0_lastAfter_92 : decode cX0_lastAfter 92 = .ok (.istore 4, 2) := by decide +kernel
theorem dX0_lastAfter_94 : decode cX0_lastAfter 94 = .ok (.iinc 7 1, 3) := by decide +kernel
theorem dX0_lastAfter_97 : decode cX0_lastAfter 97 = .ok (.goto (-70), 3) := by decide +kernel
theorem dX0_lastAfter_100 : decode cX0_lastAfter 100 = .ok (.iinc 6 1, 3) := by decide +kernel
theorem dX0_lastAfter_103 : decode cX0_lastAfter 103 = .ok (.goto (-85), 3) := by decide +kernel
theorem dX0_lastAfter_106 : decode cX0_lastAfter 106 = .ok (.aload_n 1, 1) := by decide +kernel
theorem dX0_lastAfter_107 : decode cX0_lastAfter 107 = .ok (.aload_n 1, 1) := by decide +kernel
theorem dX0_lastAfter_108 : decode cX0_lastAfter 108 = .ok (.getfield 18, 3) := by decide +kernel
theorem dX0_lastAfter_111 : decode cX0_lastAfter 111 = .ok (.iload 4, 2) := by decide +kernel
theorem dX0_lastAfter_113 : decode cX0_lastAfter 113 = .ok (.invokevirtual 57, 3) := by decide +kernel
theorem dX0_lastAfter_116 : decode cX0_lastAfter 116 = .ok (.ireturn, 1) := by decide +kernel
theorem dX0_reduce_0 : decode cX0_reduce 0 = .ok (.aload_n 0, 1) := by decide +kernel
theorem dX0_reduce_1 : decode cX0_reduce 1 = .ok (.getfield 31, 3) := by decide +kernel
theorem dX0_reduce_4 : decode cX0_reduce 4 = .ok (.istore_n 1, 1) := by decide +kernel
theorem dX0_reduce_5 : decode cX0_reduce 5 = .ok (.aload_n 0, 1) := by decide +kernel
theorem dX0_reduce_6 : decode cX0_reduce 6 = .ok (.getfield 26, 3) := by decide +kernel
theorem dX0_reduce_9 : decode cX0_reduce 9 = .ok (.istore_n 2, 1) := by decide +kernel
theorem dX0_reduce_10 : decode cX0_reduce 10 = .ok (.iconst 0, 1) := by decide +kernel
theorem dX0_reduce_11 : decode cX0_reduce 11 = .ok (.istore_n 3, 1) := by decide +kernel
theorem dX0_reduce_12 : decode cX0_reduce 12 = .ok (.iload_n 3, 1) := by decide +kernel
theorem dX0_reduce_13 : decode cX0_reduce 13 = .ok (.bipush 64, 2) := by decide +kernel
theorem dX0_reduce_15 : decode cX0_reduce 15 = .ok (.if_icmp .ge 23, 3) := by decide +kernel
theorem dX0_reduce_18 : decode cX0_reduce 18 = .ok (.iload_n 2, 1) := by decide +kernel
theorem dX0_reduce_19 : decode cX0_reduce 19 = .ok (.ifCond .eq 19, 3) := by decide +kernel
theorem dX0_reduce_22 : decode cX0_reduce 22 = .ok (.iload_n 1, 1) := by decide +kernel
theorem dX0_reduce_23 : decode cX0_reduce 23 = .ok (.iload_n 2, 1) := by decide +kernel
theorem dX0_reduce_24 : decode cX0_reduce 24 = .ok (.irem, 1) := by decide +kernel
theorem dX0_reduce_25 : decode cX0_reduce 25 = .ok (.istore 4, 2) := by decide +kernel
theorem dX0_reduce_27 : decode cX0_reduce 27 = .ok (.iload_n 2, 1) := by decide +kernel
theorem dX0_reduce_28 : decode cX0_reduce 28 = .ok (.istore_n 1, 1) := by decide +kernel
theorem dX0_reduce_29 : decode cX0_reduce 29 = .ok (.iload 4, 2) := by decide +kernel
theorem dX0_reduce_31 : decode cX0_reduce 31 = .ok (.istore_n 2, 1) := by decide +kernel
theorem dX0_reduce_32 : decode cX0_reduce 32 = .ok (.iinc 3 1, 3) := by decide +kernel
theorem dX0_reduce_35 : decode cX0_reduce 35 = .ok (.goto (-23), 3) := by decide +kernel
theorem dX0_reduce_38 : decode cX0_reduce 38 = .ok (.iload_n 1, 1) := by decide +kernel
theorem dX0_reduce_39 : decode cX0_reduce 39 = .ok (.ifCond .eq 23, 3) := by decide +kernel
theorem dX0_reduce_42 : decode cX0_reduce 42 = .ok (.aload_n 0, 1) := by decide +kernel
theorem dX0_reduce_43 : decode cX0_reduce 43 = .ok (.dup, 1) := by decide +kernel
theorem dX0_reduce_44 : decode cX0_reduce 44 = .ok (.getfield 26, 3) := by decide +kernel
theorem dX0_reduce_47 : decode cX0_reduce 47 = .ok (.iload_n 1, 1) := by decide +kernel
theorem dX0_reduce_48 : decode cX0_reduce 48 = .ok (.idiv, 1) := by decide +kernel
theorem dX0_reduce_49 : decode cX0_reduce 49 = .ok (.putfield 26, 3) := by decide +kernel
theorem dX0_reduce_52 : decode cX0_reduce 52 = .ok (.aload_n 0, 1) := by decide +kernel
theorem dX0_reduce_53 : decode cX0_reduce 53 = .ok (.dup, 1) := by decide +kernel
theorem dX0_reduce_54 : decode cX0_reduce 54 = .ok (.getfield 31, 3) := by decide +kernel
theorem dX0_reduce_57 : decode cX0_reduce 57 = .ok (.iload_n 1, 1) := by decide +kernel
theorem dX0_reduce_58 : decode cX0_reduce 58 = .ok (.idiv, 1) := by decide +kernel
theorem dX0_reduce_59 : decode cX0_reduce 59 = .ok (.putfield 31, 3) := by decide +kernel
theorem dX0_reduce_62 : decode cX0_reduce 62 = .ok (.return_, 1) := by decide +kernel
theorem dX1_init_0 : decode cX1_init 0 = .ok (.aload_n 0, 1) := by decide +kernel
theorem dX1_init_1 : decode cX1_init 1 = .ok (.invokespecial 3, 3) := by decide +kernel
theorem dX1_init_4 : decode cX1_init 4 = .ok (.aload_n 0, 1) := by decide +kernel
theorem dX1_init_5 : decode cX1_init 5 = .ok (.bipush 8, 2) := by decide +kernel
theorem dX1_init_7 : decode cX1_init 7 = .ok (.newarray .int, 2) := by decide +kernel
theorem dX1_init_9 : decode cX1_init 9 = .ok (.putfield 9, 3) := by decide +kernel
theorem dX1_init_12 : decode cX1_init 12 = .ok (.aload_n 0, 1) := by decide +kernel
theorem dX1_init_13 : decode cX1_init 13 = .ok (.bipush 8, 2) := by decide +kernel
theorem dX1_init_15 : decode cX1_init 15 = .ok (.newarray .int, 2) := by decide +kernel
theorem dX1_init_17 : decode cX1_init 17 = .ok (.putfield 15, 3) := by decide +kernel
theorem dX1_init_20 : decode cX1_init 20 = .ok (.aload_n 0, 1) := by decide +kernel
theorem dX1_init_21 : decode cX1_init 21 = .ok (.bipush 8, 2) := by decide +kernel
theorem dX1_init_23 : decode cX1_init 23 = .ok (.newarray .int, 2) := by decide +kernel
theorem dX1_init_25 : decode cX1_init 25 = .ok (.putfield 18, 3) := by decide +kernel
theorem dX1_init_28 : decode cX1_init 28 = .ok (.return_, 1) := by decide +kernel
theorem dX1_learn_0 : decode cX1_learn 0 = .ok (.iconst 0, 1) := by decide +kernel
theorem dX1_learn_1 : decode cX1_learn 1 = .ok (.istore_n 2, 1) := by decide +kernel
theorem dX1_learn_2 : decode cX1_learn 2 = .ok (.iload_n 2, 1) := by decide +kernel
theorem dX1_learn_3 : decode cX1_learn 3 = .ok (.bipush 8, 2) := by decide +kernel
theorem dX1_learn_5 : decode cX1_learn 5 = .ok (.if_icmp .ge 83, 3) := by decide +kernel
theorem dX1_learn_8 : decode cX1_learn 8 = .ok (.aload_n 1, 1) := by decide +kernel
theorem dX1_learn_9 : decode cX1_learn 9 = .ok (.iload_n 2, 1) := by decide +kernel
theorem dX1_learn_10 : decode cX1_learn 10 = .ok (.invokevirtual 21, 3) := by decide +kernel
theorem dX1_learn_13 : decode cX1_learn 13 = .ok (.istore_n 3, 1) := by decide +kernel
theorem dX1_learn_14 : decode cX1_learn 14 = .ok (.aload_n 0, 1) := by decide +kernel
theorem dX1_learn_15 : decode cX1_learn 15 = .ok (.getfield 9, 3) := by decide +kernel
theorem dX1_learn_18 : decode cX1_learn 18 = .ok (.iload_n 2, 1) := by decide +kernel
theorem dX1_learn_19 : decode cX1_learn 19 = .ok (.iload_n 3, 1) := by decide +kernel
theorem dX1_learn_20 : decode cX1_learn 20 = .ok (.ifCond .eq 19, 3) := by decide +kernel
theorem dX1_learn_23 : decode cX1_learn 23 = .ok (.aload_n 1, 1) := by decide +kernel
theorem dX1_learn_24 : decode cX1_learn 24 = .ok (.iload_n 2, 1) := by decide +kernel
theorem dX1_learn_25 : decode cX1_learn 25 = .ok (.aload_n 1, 1) := by decide +kernel
theorem dX1_learn_26 : decode cX1_learn 26 = .ok (.getfield 27, 3) := by decide +kernel
theorem dX1_learn_29 : decode cX1_learn 29 = .ok (.aload_n 1, 1) := by decide +kernel
theorem dX1_learn_30 : decode cX1_learn 30 = .ok (.invokevirtual 31, 3) := by decide +kernel
theorem dX1_learn_33 : decode cX1_learn 33 = .ok (.invokevirtual 35, 3) := by decide +kernel
theorem dX1_learn_36 : decode cX1_learn 36 = .ok (.goto 4, 3) := by decide +kernel
theorem dX1_learn_39 : decode cX1_learn 39 = .ok (.iconst 0, 1) := by decide +kernel
theorem dX1_learn_40 : decode cX1_learn 40 = .ok (.iastore, 1) := by decide +kernel
theorem dX1_learn_41 : decode cX1_learn 41 = .ok (.aload_n 0, 1) := by decide +kernel
theorem dX1_learn_42 : decode cX1_learn 42 = .ok (.getfield 15, 3) := by decide +kernel
theorem dX1_learn_45 : decode cX1_learn 45 = .ok (.iload_n 2, 1) := by decide +kernel
theorem dX1_learn_46 : decode cX1_learn 46 = .ok (.iload_n 3, 1) := by decide +kernel
theorem dX1_learn_47 : decode cX1_learn 47 = .ok (.ifCond .eq 12, 3) := by decide +kernel
theorem dX1_learn_50 : decode cX1_learn 50 = .ok (.aload_n 1, 1) := by decide +kernel
theorem dX1_learn_51 : decode cX1_learn 51 = .ok (.iload_n 2, 1) := by decide +kernel
theorem dX1_learn_52 : decode cX1_learn 52 = .ok (.iconst 5, 1) := by decide +kernel
theorem dX1_learn_53 : decode cX1_learn 53 = .ok (.invokevirtual 39, 3) := by decide +kernel
theorem dX1_learn_56 : decode cX1_learn 56 = .ok (.goto 4, 3) := by decide +kernel
theorem dX1_learn_59 : decode cX1_learn 59 = .ok (.iconst 0, 1) := by decide +kernel
theorem dX1_learn_60 : decode cX1_learn 60 = .ok (.iastore, 1) := by decide +kernel
theorem dX1_learn_61 : decode cX1_learn 61 = .ok (.aload_n 0, 1) := by decide +kernel
theorem dX1_learn_62 : decode cX1_learn 62 = .ok (.getfield 18, 3) := by decide +kernel
theorem dX1_learn_65 : decode cX1_learn 65 = .ok (.iload_n 2, 1) := by decide +kernel
theorem dX1_learn_66 : decode cX1_learn 66 = .ok (.iload_n 3, 1) := by decide +kernel
theorem dX1_learn_67 : decode cX1_learn 67 = .ok (.ifCond .eq 13, 3) := by decide +kernel
theorem dX1_learn_70 : decode cX1_learn 70 = .ok (.aload_n 1, 1) := by decide +kernel
theorem dX1_learn_71 : decode cX1_learn 71 = .ok (.iload_n 2, 1) := by decide +kernel
theorem dX1_learn_72 : decode cX1_learn 72 = .ok (.bipush 6, 2) := by decide +kernel
theorem dX1_learn_74 : decode cX1_learn 74 = .ok (.invokevirtual 39, 3) := by decide +kernel
theorem dX1_learn_77 : decode cX1_learn 77 = .ok (.goto 4, 3) := by decide +kernel
theorem dX1_learn_80 : decode cX1_learn 80 = .ok (.iconst 0, 1) := by decide +kernel
theorem dX1_learn_81 : decode cX1_learn 81 = .ok (.iastore, 1) := by decide +kernel
theorem dX1_learn_82 : decode cX1_learn 82 = .ok (.iinc 2 1, 3) := by decide +kernel
theorem dX1_learn_85 : decode cX1_learn 85 = .ok (.goto (-83), 3) := by decide +kernel
theorem dX1_learn_88 : decode cX1_learn 88 = .ok (.return_, 1) := by decide +kernel
theorem dX1_worth_0 : decode cX1_worth 0 = .ok (.aload_n 0, 1) := by decide +kernel
theorem dX1_worth_1 : decode cX1_worth 1 = .ok (.getfield 15, 3) := by decide +kernel
theorem dX1_worth_4 : decode cX1_worth 4 = .ok (.iload_n 1, 1) := by decide +kernel
theorem dX1_worth_5 : decode cX1_worth 5 = .ok (.invokestatic 43, 3) := by decide +kernel
theorem dX1_worth_8 : decode cX1_worth 8 = .ok (.ireturn, 1) := by decide +kernel
theorem dX1_cost_0 : decode cX1_cost 0 = .ok (.aload_n 0, 1) := by decide +kernel
theorem dX1_cost_1 : decode cX1_cost 1 = .ok (.getfield 18, 3) := by decide +kernel
theorem dX1_cost_4 : decode cX1_cost 4 = .ok (.iload_n 1, 1) := by decide +kernel
theorem dX1_cost_5 : decode cX1_cost 5 = .ok (.invokestatic 43, 3) := by decide +kernel
theorem dX1_cost_8 : decode cX1_cost 8 = .ok (.ireturn, 1) := by decide +kernel
theorem dX1_lastAmong_0 : decode cX1_lastAmong 0 = .ok (.iconst 0, 1) := by decide +kernel
theorem dX1_lastAmong_1 : decode cX1_lastAmong 1 = .ok (.istore_n 2, 1) := by decide +kernel
theorem dX1_lastAmong_2 : decode cX1_lastAmong 2 = .ok (.iconst 0, 1) := by decide +kernel
theorem dX1_lastAmong_3 : decode cX1_lastAmong 3 = .ok (.istore_n 3, 1) := by decide +kernel
theorem dX1_lastAmong_4 : decode cX1_lastAmong 4 = .ok (.iload_n 3, 1) := by decide +kernel
theorem dX1_lastAmong_5 : decode cX1_lastAmong 5 = .ok (.bipush 8, 2) := by decide +kernel
theorem dX1_lastAmong_7 : decode cX1_lastAmong 7 = .ok (.if_icmp .ge 34, 3) := by decide +kernel
theorem dX1_lastAmong_10 : decode cX1_lastAmong 10 = .ok (.iload_n 1, 1) := by decide +kernel
theorem dX1_lastAmong_11 : decode cX1_lastAmong 11 = .ok (.iconst 1, 1) := by decide +kernel
theorem dX1_lastAmong_12 : decode cX1_lastAmong 12 = .ok (.iload_n 3, 1) := by decide +kernel
theorem dX1_lastAmong_13 : decode cX1_lastAmong 13 = .ok (.ishl, 1) := by decide +kernel
theorem dX1_lastAmong_14 : decode cX1_lastAmong 14 = .ok (.iand, 1) := by decide +kernel
theorem dX1_lastAmong_15 : decode cX1_lastAmong 15 = .ok (.ifCond .eq 20, 3) := by decide +kernel
theorem dX1_lastAmong_18 : decode cX1_lastAmong 18 = .ok (.aload_n 0, 1) := by decide +kernel
theorem dX1_lastAmong_19 : decode cX1_lastAmong 19 = .ok (.getfield 9, 3) := by decide +kernel
theorem dX1_lastAmong_22 : decode cX1_lastAmong 22 = .ok (.iload_n 3, 1) := by decide +kernel
theorem dX1_lastAmong_23 : decode cX1_lastAmong 23 = .ok (.iaload, 1) := by decide +kernel
theorem dX1_lastAmong_24 : decode cX1_lastAmong 24 = .ok (.iload_n 1, 1) := by decide +kernel
theorem dX1_lastAmong_25 : decode cX1_lastAmong 25 = .ok (.iand, 1) := by decide +kernel
theorem dX1_lastAmong_26 : decode cX1_lastAmong 26 = .ok (.ifCond .ne 9, 3) := by decide +kernel
theorem dX1_lastAmong_29 : decode cX1_lastAmong 29 = .ok (.iload_n 2, 1) := by decide +kernel
theorem dX1_lastAmong_30 : decode cX1_lastAmong 30 = .ok (.iconst 1, 1) := by decide +kernel
theorem dX1_lastAmong_31 : decode cX1_lastAmong 31 = .ok (.iload_n 3, 1) := by decide +kernel
theorem dX1_lastAmong_32 : decode cX1_lastAmong 32 = .ok (.ishl, 1) := by decide +kernel
theorem dX1_lastAmong_33 : decode cX1_lastAmong 33 = .ok (.ior, 1) := by decide +kernel
theorem dX1_lastAmong_34 : decode cX1_lastAmong 34 = .ok (.istore_n 2, 1) := by decide +kernel
theorem dX1_lastAmong_35 : decode cX1_lastAmong 35 = .ok (.iinc 3 1, 3) := by decide +kernel
theorem dX1_lastAmong_38 : decode cX1_lastAmong 38 = .ok (.goto (-34), 3) := by decide +kernel
theorem dX1_lastAmong_41 : decode cX1_lastAmong 41 = .ok (.iload_n 2, 1) := by decide +kernel
theorem dX1_lastAmong_42 : decode cX1_lastAmong 42 = .ok (.ireturn, 1) := by decide +kernel
theorem dX1_pricesAmong_0 : decode cX1_pricesAmong 0 = .ok (.iconst 0, 1) := by decide +kernel
theorem dX1_pricesAmong_1 : decode cX1_pricesAmong 1 = .ok (.istore_n 3, 1) := by decide +kernel
theorem dX1_pricesAmong_2 : decode cX1_pricesAmong 2 = .ok (.iconst 0, 1) := by decide +kernel
theorem dX1_pricesAmong_3 : decode cX1_pricesAmong 3 = .ok (.istore 4, 2) := by decide +kernel
theorem dX1_pricesAmong_5 : decode cX1_pricesAmong 5 = .ok (.iload 4, 2) := by decide +kernel
theorem dX1_pricesAmong_7 : decode cX1_pricesAmong 7 = .ok (.bipush 8, 2) := by decide +kernel
theorem dX1_pricesAmong_9 : decode cX1_pricesAmong 9 = .ok (.if_icmp .ge 47, 3) := by decide +kernel
theorem dX1_pricesAmong_12 : decode cX1_pricesAmong 12 = .ok (.iload_n 1, 1) := by decide +kernel
theorem dX1_pricesAmong_13 : decode cX1_pricesAmong 13 = .ok (.iload_n 2, 1) := by decide +kernel
theorem dX1_pricesAmong_14 : decode cX1_pricesAmong 14 = .ok (.iand, 1) := by decide +kernel
theorem dX1_pricesAmong_15 : decode cX1_pricesAmong 15 = .ok (.iconst 1, 1) := by decide +kernel
theorem dX1_pricesAmong_16 : decode cX1_pricesAmong 16 = .ok (.iload 4, 2) := by decide +kernel
theorem dX1_pricesAmong_18 : decode cX1_pricesAmong 18 = .ok (.ishl, 1) := by decide +kernel
theorem dX1_pricesAmong_19 : decode cX1_pricesAmong 19 = .ok (.iand, 1) := by decide +kernel
theorem dX1_pricesAmong_20 : decode cX1_pricesAmong 20 = .ok (.ifCond .eq 30, 3) := by decide +kernel
theorem dX1_pricesAmong_23 : decode cX1_pricesAmong 23 = .ok (.iload_n 3, 1) := by decide +kernel
theorem dX1_pricesAmong_24 : decode cX1_pricesAmong 24 = .ok (.aload_n 0, 1) := by decide +kernel
theorem dX1_pricesAmong_25 : decode cX1_pricesAmong 25 = .ok (.getfield 15, 3) := by decide +kernel
theorem dX1_pricesAmong_28 : decode cX1_pricesAmong 28 = .ok (.iload 4, 2) := by decide +kernel
theorem dX1_pricesAmong_30 : decode cX1_pricesAmong 30 = .ok (.iaload, 1) := by decide +kernel
theorem dX1_pricesAmong_31 : decode cX1_pricesAmong 31 = .ok (.aload_n 0, 1) := by decide +kernel
theorem dX1_pricesAmong_32 : decode cX1_pricesAmong 32 = .ok (.getfield 9, 3) := by decide +kernel
theorem dX1_pricesAmong_35 : decode cX1_pricesAmong 35 = .ok (.iload 4, 2) := by decide +kernel
theorem dX1_pricesAmong_37 : decode cX1_pricesAmong 37 = .ok (.iaload, 1) := by decide +kernel
theorem dX1_pricesAmong_38 : decode cX1_pricesAmong 38 = .ok (.iload_n 2, 1) := by decide +kernel
theorem dX1_pricesAmong_39 : decode cX1_pricesAmong 39 = .ok (.iand, 1) := by decide +kernel
theorem dX1_pricesAmong_40 : decode cX1_pricesAmong 40 = .ok (.iconst 1, 1) := by decide +kernel
theorem dX1_pricesAmong_41 : decode cX1_pricesAmong 41 = .ok (.iload 4, 2) := by decide +kernel
theorem dX1_pricesAmong_43 : decode cX1_pricesAmong 43 = .ok (.ishl, 1) := by decide +kernel
theorem dX1_pricesAmong_44 : decode cX1_pricesAmong 44 = .ok (.ior, 1) := by decide +kernel
theorem dX1_pricesAmong_45 : decode cX1_pricesAmong 45 = .ok (.invokestatic 47, 3) := by decide +kernel
theorem dX1_pricesAmong_48 : decode cX1_pricesAmong 48 = .ok (.iadd, 1) := by decide +kernel
theorem dX1_pricesAmong_49 : decode cX1_pricesAmong 49 = .ok (.istore_n 3, 1) := by decide +kernel
theorem dX1_pricesAmong_50 : decode cX1_pricesAmong 50 = .ok (.iinc 4 1, 3) := by decide +kernel
theorem dX1_pricesAmong_53 : decode cX1_pricesAmong 53 = .ok (.goto (-48), 3) := by decide +kernel
theorem dX1_pricesAmong_56 : decode cX1_pricesAmong 56 = .ok (.iload_n 3, 1) := by decide +kernel
theorem dX1_pricesAmong_57 : decode cX1_pricesAmong 57 = .ok (.ireturn, 1) := by decide +kernel
theorem dX2_init_0 : decode cX2_init 0 = .ok (.aload_n 0, 1) := by decide +kernel
theorem dX2_init_1 : decode cX2_init 1 = .ok (.invokespecial 3, 3) := by decide +kernel
theorem dX2_init_4 : decode cX2_init 4 = .ok (.aload_n 0, 1) := by decide +kernel
theorem dX2_init_5 : decode cX2_init 5 = .ok (.bipush 8, 2) := by decide +kernel
theorem dX2_init_7 : decode cX2_init 7 = .ok (.newarray .int, 2) := by decide +kernel
theorem dX2_init_9 : decode cX2_init 9 = .ok (.putfield 9, 3) := by decide +kernel
theorem dX2_init_12 : decode cX2_init 12 = .ok (.aload_n 0, 1) := by decide +kernel
theorem dX2_init_13 : decode cX2_init 13 = .ok (.iconst 4, 1) := by decide +kernel
theorem dX2_init_14 : decode cX2_init 14 = .ok (.putfield 15, 3) := by decide +kernel
theorem dX2_init_17 : decode cX2_init 17 = .ok (.return_, 1) := by decide +kernel
theorem dX2_copyFrom_0 : decode cX2_copyFrom 0 = .ok (.aload_n 1, 1) := by decide +kernel
theorem dX2_copyFrom_1 : decode cX2_copyFrom 1 = .ok (.ifnonnull 4, 3) := by decide +kernel
theorem dX2_copyFrom_4 : decode cX2_copyFrom 4 = .ok (.return_, 1) := by decide +kernel
theorem dX2_copyFrom_5 : decode cX2_copyFrom 5 = .ok (.iconst 0, 1) := by decide +kernel
theorem dX2_copyFrom_6 : decode cX2_copyFrom 6 = .ok (.istore_n 2, 1) := by decide +kernel
theorem dX2_copyFrom_7 : decode cX2_copyFrom 7 = .ok (.iload_n 2, 1) := by decide +kernel
theorem dX2_copyFrom_8 : decode cX2_copyFrom 8 = .ok (.aload_n 0, 1) := by decide +kernel
theorem dX2_copyFrom_9 : decode cX2_copyFrom 9 = .ok (.getfield 9, 3) := by decide +kernel
theorem dX2_copyFrom_12 : decode cX2_copyFrom 12 = .ok (.arraylength, 1) := by decide +kernel
theorem dX2_copyFrom_13 : decode cX2_copyFrom 13 = .ok (.if_icmp .ge 23, 3) := by decide +kernel
theorem dX2_copyFrom_16 : decode cX2_copyFrom 16 = .ok (.aload_n 0, 1) := by decide +kernel
theorem dX2_copyFrom_17 : decode cX2_copyFrom 17 = .ok (.getfield 9, 3) := by decide +kernel
theorem dX2_copyFrom_20 : decode cX2_copyFrom 20 = .ok (.iload_n 2, 1) := by decide +kernel
theorem dX2_copyFrom_21 : decode cX2_copyFrom 21 = .ok (.aload_n 1, 1) := by decide +kernel
theorem dX2_copyFrom_22 : decode cX2_copyFrom 22 = .ok (.getfield 9, 3) := by decide +kernel
theorem dX2_copyFrom_25 : decode cX2_copyFrom 25 = .ok (.iload_n 2, 1) := by decide +kernel
theorem dX2_copyFrom_26 : decode cX2_copyFrom 26 = .ok (.invokestatic 19, 3) := by decide +kernel
theorem dX2_copyFrom_29 : decode cX2_copyFrom 29 = .ok (.iastore, 1) := by decide +kernel
theorem dX2_copyFrom_30 : decode cX2_copyFrom 30 = .ok (.iinc 2 1, 3) := by decide +kernel
theorem dX2_copyFrom_33 : decode cX2_copyFrom 33 = .ok (.goto (-26), 3) := by decide +kernel
theorem dX2_copyFrom_36 : decode cX2_copyFrom 36 = .ok (.aload_n 0, 1) := by decide +kernel
theorem dX2_copyFrom_37 : decode cX2_copyFrom 37 = .ok (.aload_n 1, 1) := by decide +kernel
theorem dX2_copyFrom_38 : decode cX2_copyFrom 38 = .ok (.getfield 23, 3) := by decide +kernel
theorem dX2_copyFrom_41 : decode cX2_copyFrom 41 = .ok (.putfield 23, 3) := by decide +kernel
theorem dX2_copyFrom_44 : decode cX2_copyFrom 44 = .ok (.aload_n 0, 1) := by decide +kernel
theorem dX2_copyFrom_45 : decode cX2_copyFrom 45 = .ok (.aload_n 1, 1) := by decide +kernel
theorem dX2_copyFrom_46 : decode cX2_copyFrom 46 = .ok (.getfield 15, 3) := by decide +kernel
theorem dX2_copyFrom_49 : decode cX2_copyFrom 49 = .ok (.putfield 15, 3) := by decide +kernel
theorem dX2_copyFrom_52 : decode cX2_copyFrom 52 = .ok (.aload_n 0, 1) := by decide +kernel
theorem dX2_copyFrom_53 : decode cX2_copyFrom 53 = .ok (.aload_n 1, 1) := by decide +kernel
theorem dX2_copyFrom_54 : decode cX2_copyFrom 54 = .ok (.getfield 26, 3) := by decide +kernel
theorem dX2_copyFrom_57 : decode cX2_copyFrom 57 = .ok (.putfield 26, 3) := by decide +kernel
theorem dX2_copyFrom_60 : decode cX2_copyFrom 60 = .ok (.aload_n 0, 1) := by decide +kernel
theorem dX2_copyFrom_61 : decode cX2_copyFrom 61 = .ok (.aload_n 1, 1) := by decide +kernel
theorem dX2_copyFrom_62 : decode cX2_copyFrom 62 = .ok (.getfield 29, 3) := by decide +kernel
theorem dX2_copyFrom_65 : decode cX2_copyFrom 65 = .ok (.putfield 29, 3) := by decide +kernel
theorem dX2_copyFrom_68 : decode cX2_copyFrom 68 = .ok (.aload_n 0, 1) := by decide +kernel
theorem dX2_copyFrom_69 : decode cX2_copyFrom 69 = .ok (.aload_n 1, 1) := by decide +kernel
theorem dX2_copyFrom_70 : decode cX2_copyFrom 70 = .ok (.getfield 32, 3) := by decide +kernel
theorem dX2_copyFrom_73 : decode cX2_copyFrom 73 = .ok (.putfield 32, 3) := by decide +kernel
theorem dX2_copyFrom_76 : decode cX2_copyFrom 76 = .ok (.aload_n 0, 1) := by decide +kernel
theorem dX2_copyFrom_77 : decode cX2_copyFrom 77 = .ok (.aload_n 1, 1) := by decide +kernel
theorem dX2_copyFrom_78 : decode cX2_copyFrom 78 = .ok (.getfield 35, 3) := by decide +kernel
theorem dX2_copyFrom_81 : decode cX2_copyFrom 81 = .ok (.putfield 35, 3) := by decide +kernel
theorem dX2_copyFrom_84 : decode cX2_copyFrom 84 = .ok (.aload_n 0, 1) := by decide +kernel
theorem dX2_copyFrom_85 : decode cX2_copyFrom 85 = .ok (.aload_n 1, 1) := by decide +kernel
theorem dX2_copyFrom_86 : decode cX2_copyFrom 86 = .ok (.getfield 38, 3) := by decide +kernel
theorem dX2_copyFrom_89 : decode cX2_copyFrom 89 = .ok (.putfield 38, 3) := by decide +kernel
theorem dX2_copyFrom_92 : decode cX2_copyFrom 92 = .ok (.return_, 1) := by decide +kernel
theorem dX2_readFrom_0 : decode cX2_readFrom 0 = .ok (.aload_n 0, 1) := by decide +kernel
theorem dX2_readFrom_1 : decode cX2_readFrom 1 = .ok (.aload_n 1, 1) := by decide +kernel
theorem dX2_readFrom_2 : decode cX2_readFrom 2 = .ok (.invokevirtual 41, 3) := by decide +kernel
theorem dX2_readFrom_5 : decode cX2_readFrom 5 = .ok (.bipush 8, 2) := by decide +kernel
theorem dX2_readFrom_7 : decode cX2_readFrom 7 = .ok (.invokestatic 47, 3) := by decide +kernel
theorem dX2_readFrom_10 : decode cX2_readFrom 10 = .ok (.putfield 23, 3) := by decide +kernel
theorem dX2_readFrom_13 : decode cX2_readFrom 13 = .ok (.aload_n 0, 1) := by decide +kernel
theorem dX2_readFrom_14 : decode cX2_readFrom 14 = .ok (.aload_n 1, 1) := by decide +kernel
theorem dX2_readFrom_15 : decode cX2_readFrom 15 = .ok (.invokevirtual 53, 3) := by decide +kernel
theorem dX2_readFrom_18 : decode cX2_readFrom 18 = .ok (.putfield 15, 3) := by decide +kernel
theorem dX2_readFrom_21 : decode cX2_readFrom 21 = .ok (.aload_n 0, 1) := by decide +kernel
theorem dX2_readFrom_22 : decode cX2_readFrom 22 = .ok (.iconst 0, 1) := by decide +kernel
theorem dX2_readFrom_23 : decode cX2_readFrom 23 = .ok (.putfield 26, 3) := by decide +kernel
theorem dX2_readFrom_26 : decode cX2_readFrom 26 = .ok (.aload_n 0, 1) := by decide +kernel
theorem dX2_readFrom_27 : decode cX2_readFrom 27 = .ok (.iconst 0, 1) := by decide +kernel
theorem dX2_readFrom_28 : decode cX2_readFrom 28 = .ok (.putfield 29, 3) := by decide +kernel
theorem dX2_readFrom_31 : decode cX2_readFrom 31 = .ok (.aload_n 0, 1) := by decide +kernel
theorem dX2_readFrom_32 : decode cX2_readFrom 32 = .ok (.iconst 0, 1) := by decide +kernel
theorem dX2_readFrom_33 : decode cX2_readFrom 33 = .ok (.putfield 32, 3) := by decide +kernel
theorem dX2_readFrom_36 : decode cX2_readFrom 36 = .ok (.aload_n 0, 1) := by decide +kernel
theorem dX2_readFrom_37 : decode cX2_readFrom 37 = .ok (.iconst 0, 1) := by decide +kernel
theorem dX2_readFrom_38 : decode cX2_readFrom 38 = .ok (.putfield 35, 3) := by decide +kernel
theorem dX2_readFrom_41 : decode cX2_readFrom 41 = .ok (.aload_n 0, 1) := by decide +kernel
theorem dX2_readFrom_42 : decode cX2_readFrom 42 = .ok (.iconst 0, 1) := by decide +kernel
theorem dX2_readFrom_43 : decode cX2_readFrom 43 = .ok (.putfield 38, 3) := by decide +kernel
theorem dX2_readFrom_46 : decode cX2_readFrom 46 = .ok (.iconst 0, 1) := by decide +kernel
theorem dX2_readFrom_47 : decode cX2_readFrom 47 = .ok (.istore_n 2, 1) := by decide +kernel
theorem dX2_readFrom_48 : decode cX2_readFrom 48 = .ok (.iload_n 2, 1) := by decide +kernel
theorem dX2_readFrom_49 : decode cX2_readFrom 49 = .ok (.aload_n 0, 1) := by decide +kernel
theorem dX2_readFrom_50 : decode cX2_readFrom 50 = .ok (.getfield 9, 3) := by decide +kernel
theorem dX2_readFrom_53 : decode cX2_readFrom 53 = .ok (.arraylength, 1) := by decide +kernel
theorem dX2_readFrom_54 : decode cX2_readFrom 54 = .ok (.if_icmp .ge 75, 3) := by decide +kernel
theorem dX2_readFrom_57 : decode cX2_readFrom 57 = .ok (.iload_n 2, 1) := by decide +kernel
theorem dX2_readFrom_58 : decode cX2_readFrom 58 = .ok (.aload_n 0, 1) := by decide +kernel
theorem dX2_readFrom_59 : decode cX2_readFrom 59 = .ok (.getfield 23, 3) := by decide +kernel
theorem dX2_readFrom_62 : decode cX2_readFrom 62 = .ok (.if_icmp .ge 67, 3) := by decide +kernel
theorem dX2_readFrom_65 : decode cX2_readFrom 65 = .ok (.aload_n 0, 1) := by decide +kernel
theorem dX2_readFrom_66 : decode cX2_readFrom 66 = .ok (.getfield 9, 3) := by decide +kernel
theorem dX2_readFrom_69 : decode cX2_readFrom 69 = .ok (.iload_n 2, 1) := by decide +kernel
theorem dX2_readFrom_70 : decode cX2_readFrom 70 = .ok (.iconst 0, 1) := by decide +kernel
theorem dX2_readFrom_71 : decode cX2_readFrom 71 = .ok (.iastore, 1) := by decide +kernel
theorem dX2_readFrom_72 : decode cX2_readFrom 72 = .ok (.iconst 0, 1) := by decide +kernel
theorem dX2_readFrom_73 : decode cX2_readFrom 73 = .ok (.istore_n 3, 1) := by decide +kernel
theorem dX2_readFrom_74 : decode cX2_readFrom 74 = .ok (.iload_n 3, 1) := by decide +kernel
theorem dX2_readFrom_75 : decode cX2_readFrom 75 = .ok (.bipush 7, 2) := by decide +kernel
theorem dX2_readFrom_77 : decode cX2_readFrom 77 = .ok (.if_icmp .ge 28, 3) := by decide +kernel
theorem dX2_readFrom_80 : decode cX2_readFrom 80 = .ok (.aload_n 0, 1) := by decide +kernel
theorem dX2_readFrom_81 : decode cX2_readFrom 81 = .ok (.getfield 9, 3) := by decide +kernel
theorem dX2_readFrom_84 : decode cX2_readFrom 84 = .ok (.iload_n 2, 1) := by decide +kernel
theorem dX2_readFrom_85 : decode cX2_readFrom 85 = .ok (.dup2, 1) := by decide +kernel
theorem dX2_readFrom_86 : decode cX2_readFrom 86 = .ok (.iaload, 1) := by decide +kernel
theorem dX2_readFrom_87 : decode cX2_readFrom 87 = .ok (.aload_n 1, 1) := by decide +kernel
theorem dX2_readFrom_88 : decode cX2_readFrom 88 = .ok (.iload_n 2, 1) := by decide +kernel
theorem dX2_readFrom_89 : decode cX2_readFrom 89 = .ok (.iload_n 3, 1) := by decide +kernel
theorem dX2_readFrom_90 : decode cX2_readFrom 90 = .ok (.invokevirtual 56, 3) := by decide +kernel
theorem dX2_readFrom_93 : decode cX2_readFrom 93 = .ok (.iconst 4, 1) := by decide +kernel
theorem dX2_readFrom_94 : decode cX2_readFrom 94 = .ok (.iload_n 3, 1) := by decide +kernel
theorem dX2_readFrom_95 : decode cX2_readFrom 95 = .ok (.imul, 1) := by decide +kernel
theorem dX2_readFrom_96 : decode cX2_readFrom 96 = .ok (.ishl, 1) := by decide +kernel
theorem dX2_readFrom_97 : decode cX2_readFrom 97 = .ok (.ior, 1) := by decide +kernel
theorem dX2_readFrom_98 : decode cX2_readFrom 98 = .ok (.iastore, 1) := by decide +kernel
theorem dX2_readFrom_99 : decode cX2_readFrom 99 = .ok (.iinc 3 1, 3) := by decide +kernel
theorem dX2_readFrom_102 : decode cX2_readFrom 102 = .ok (.goto (-28), 3) := by decide +kernel
theorem dX2_readFrom_105 : decode cX2_readFrom 105 = .ok (.aload_n 0, 1) := by decide +kernel
theorem dX2_readFrom_106 : decode cX2_readFrom 106 = .ok (.dup, 1) := by decide +kernel
theorem dX2_readFrom_107 : decode cX2_readFrom 107 = .ok (.getfield 29, 3) := by decide +kernel
theorem dX2_readFrom_110 : decode cX2_readFrom 110 = .ok (.aload_n 1, 1) := by decide +kernel
theorem dX2_readFrom_111 : decode cX2_readFrom 111 = .ok (.iload_n 2, 1) := by decide +kernel
theorem dX2_readFrom_112 : decode cX2_readFrom 112 = .ok (.bipush 7, 2) := by decide +kernel
theorem dX2_readFrom_114 : decode cX2_readFrom 114 = .ok (.invokevirtual 56, 3) := by decide +kernel
theorem dX2_readFrom_117 : decode cX2_readFrom 117 = .ok (.iload_n 2, 1) := by decide +kernel
theorem dX2_readFrom_118 : decode cX2_readFrom 118 = .ok (.ishl, 1) := by decide +kernel
theorem dX2_readFrom_119 : decode cX2_readFrom 119 = .ok (.ior, 1) := by decide +kernel
theorem dX2_readFrom_120 : decode cX2_readFrom 120 = .ok (.putfield 29, 3) := by decide +kernel
theorem dX2_readFrom_123 : decode cX2_readFrom 123 = .ok (.iinc 2 1, 3) := by decide +kernel
theorem dX2_readFrom_126 : decode cX2_readFrom 126 = .ok (.goto (-78), 3) := by decide +kernel
theorem dX2_readFrom_129 : decode cX2_readFrom 129 = .ok (.return_, 1) := by decide +kernel
theorem dX2_has_0 : decode cX2_has 0 = .ok (.iload_n 1, 1) := by decide +kernel
theorem dX2_has_1 : decode cX2_has 1 = .ok (.ifCond .lt 15, 3) := by decide +kernel
theorem dX2_has_4 : decode cX2_has 4 = .ok (.iload_n 1, 1) := by decide +kernel
theorem dX2_has_5 : decode cX2_has 5 = .ok (.aload_n 0, 1) := by decide +kernel
theorem dX2_has_6 : decode cX2_has 6 = .ok (.getfield 23, 3) := by decide +kernel
theorem dX2_has_9 : decode cX2_has 9 = .ok (.if_icmp .ge 7, 3) := by decide +kernel
theorem dX2_has_12 : decode cX2_has 12 = .ok (.iconst 1, 1) := by decide +kernel
theorem dX2_has_13 : decode cX2_has 13 = .ok (.goto 4, 3) := by decide +kernel
theorem dX2_has_16 : decode cX2_has 16 = .ok (.iconst 0, 1) := by decide +kernel
theorem dX2_has_17 : decode cX2_has 17 = .ok (.ireturn, 1) := by decide +kernel
theorem dX2_figure_0 : decode cX2_figure 0 = .ok (.aload_n 0, 1) := by decide +kernel
theorem dX2_figure_1 : decode cX2_figure 1 = .ok (.getfield 9, 3) := by decide +kernel
theorem dX2_figure_4 : decode cX2_figure 4 = .ok (.iload_n 1, 1) := by decide +kernel
theorem dX2_figure_5 : decode cX2_figure 5 = .ok (.invokestatic 19, 3) := by decide +kernel
theorem dX2_figure_8 : decode cX2_figure 8 = .ok (.iconst 4, 1) := by decide +kernel
theorem dX2_figure_9 : decode cX2_figure 9 = .ok (.iload_n 2, 1) := by decide +kernel
theorem dX2_figure_10 : decode cX2_figure 10 = .ok (.imul, 1) := by decide +kernel
theorem dX2_figure_11 : decode cX2_figure 11 = .ok (.ishr, 1) := by decide +kernel
theorem dX2_figure_12 : decode cX2_figure 12 = .ok (.bipush 15, 2) := by decide +kernel
theorem dX2_figure_14 : decode cX2_figure 14 = .ok (.iand, 1) := by decide +kernel
theorem dX2_figure_15 : decode cX2_figure 15 = .ok (.ireturn, 1) := by decide +kernel
theorem dX2_all_0 : decode cX2_all 0 = .ok (.iconst 1, 1) := by decide +kernel
theorem dX2_all_1 : decode cX2_all 1 = .ok (.aload_n 0, 1) := by decide +kernel
theorem dX2_all_2 : decode cX2_all 2 = .ok (.getfield 23, 3) := by decide +kernel
theorem dX2_all_5 : decode cX2_all 5 = .ok (.ishl, 1) := by decide +kernel
theorem dX2_all_6 : decode cX2_all 6 = .ok (.iconst 1, 1) := by decide +kernel
theorem dX2_all_7 : decode cX2_all 7 = .ok (.isub, 1) := by decide +kernel
theorem dX2_all_8 : decode cX2_all 8 = .ok (.ireturn, 1) := by decide +kernel
theorem dX2_there_0 : decode cX2_there 0 = .ok (.aload_n 0, 1) := by decide +kernel
theorem dX2_there_1 : decode cX2_there 1 = .ok (.invokevirtual 59, 3) := by decide +kernel
theorem dX2_there_4 : decode cX2_there 4 = .ok (.aload_n 0, 1) := by decide +kernel
theorem dX2_there_5 : decode cX2_there 5 = .ok (.getfield 32, 3) := by decide +kernel
theorem dX2_there_8 : decode cX2_there 8 = .ok (.iconst (-1), 1) := by decide +kernel
theorem dX2_there_9 : decode cX2_there 9 = .ok (.ixor, 1) := by decide +kernel
theorem dX2_there_10 : decode cX2_there 10 = .ok (.iand, 1) := by decide +kernel
theorem dX2_there_11 : decode cX2_there 11 = .ok (.ireturn, 1) := by decide +kernel
theorem dX2_shown_0 : decode cX2_shown 0 = .ok (.aload_n 0, 1) := by decide +kernel
theorem dX2_shown_1 : decode cX2_shown 1 = .ok (.invokevirtual 62, 3) := by decide +kernel
theorem dX2_shown_4 : decode cX2_shown 4 = .ok (.aload_n 0, 1) := by decide +kernel
theorem dX2_shown_5 : decode cX2_shown 5 = .ok (.getfield 35, 3) := by decide +kernel
theorem dX2_shown_8 : decode cX2_shown 8 = .ok (.iconst (-1), 1) := by decide +kernel
theorem dX2_shown_9 : decode cX2_shown 9 = .ok (.ixor, 1) := by decide +kernel
theorem dX2_shown_10 : decode cX2_shown 10 = .ok (.iand, 1) := by decide +kernel
theorem dX2_shown_11 : decode cX2_shown 11 = .ok (.ireturn, 1) := by decide +kernel
theorem dX2_unseen_0 : decode cX2_unseen 0 = .ok (.aload_n 0, 1) := by decide +kernel
theorem dX2_unseen_1 : decode cX2_unseen 1 = .ok (.invokevirtual 62, 3) := by decide +kernel
theorem dX2_unseen_4 : decode cX2_unseen 4 = .ok (.aload_n 0, 1) := by decide +kernel
theorem dX2_unseen_5 : decode cX2_unseen 5 = .ok (.getfield 35, 3) := by decide +kernel
theorem dX2_unseen_8 : decode cX2_unseen 8 = .ok (.iand, 1) := by decide +kernel
theorem dX2_unseen_9 : decode cX2_unseen 9 = .ok (.ireturn, 1) := by decide +kernel
theorem dX2_breakable_0 : decode cX2_breakable 0 = .ok (.aload_n 0, 1) := by decide +kernel
theorem dX2_breakable_1 : decode cX2_breakable 1 = .ok (.invokevirtual 62, 3) := by decide +kernel
theorem dX2_breakable_4 : decode cX2_breakable 4 = .ok (.aload_n 0, 1) := by decide +kernel
theorem dX2_breakable_5 : decode cX2_breakable 5 = .ok (.getfield 38, 3) := by decide +kernel
theorem dX2_breakable_8 : decode cX2_breakable 8 = .ok (.iconst (-1), 1) := by decide +kernel
theorem dX2_breakable_9 : decode cX2_breakable 9 = .ok (.ixor, 1) := by decide +kernel
theorem dX2_breakable_10 : decode cX2_breakable 10 = .ok (.iand, 1) := by decide +kernel
theorem dX2_breakable_11 : decode cX2_breakable 11 = .ok (.aload_n 0, 1) := by decide +kernel
theorem dX2_breakable_12 : decode cX2_breakable 12 = .ok (.getfield 29, 3) := by decide +kernel
theorem dX2_breakable_15 : decode cX2_breakable 15 = .ok (.iconst (-1), 1) := by decide +kernel
theorem dX2_breakable_16 : decode cX2_breakable 16 = .ok (.ixor, 1) := by decide +kernel
theorem dX2_breakable_17 : decode cX2_breakable 17 = .ok (.iand, 1) := by decide +kernel
theorem dX2_breakable_18 : decode cX2_breakable 18 = .ok (.ireturn, 1) := by decide +kernel
theorem dX2_alikeTo_0 : decode cX2_alikeTo 0 = .ok (.iconst 0, 1) := by decide +kernel
theorem dX2_alikeTo_1 : decode cX2_alikeTo 1 = .ok (.istore 4, 2) := by decide +kernel
theorem dX2_alikeTo_3 : decode cX2_alikeTo 3 = .ok (.iconst 0, 1) := by decide +kernel
theorem dX2_alikeTo_4 : decode cX2_alikeTo 4 = .ok (.istore 5, 2) := by decide +kernel
theorem dX2_alikeTo_6 : decode cX2_alikeTo 6 = .ok (.iload 5, 2) := by decide +kernel
theorem dX2_alikeTo_8 : decode cX2_alikeTo 8 = .ok (.aload_n 0, 1) := by decide +kernel
theorem dX2_alikeTo_9 : decode cX2_alikeTo 9 = .ok (.getfield 23, 3) := by decide +kernel
theorem dX2_alikeTo_12 : decode cX2_alikeTo 12 = .ok (.if_icmp .ge 47, 3) := by decide +kernel
theorem dX2_alikeTo_15 : decode cX2_alikeTo 15 = .ok (.iload 5, 2) := by decide +kernel
theorem dX2_alikeTo_17 : decode cX2_alikeTo 17 = .ok (.iload_n 1, 1) := by decide +kernel
theorem dX2_alikeTo_18 : decode cX2_alikeTo 18 = .ok (.if_icmp .eq 35, 3) := by decide +kernel
theorem dX2_alikeTo_21 : decode cX2_alikeTo 21 = .ok (.iload_n 3, 1) := by decide +kernel
theorem dX2_alikeTo_22 : decode cX2_alikeTo 22 = .ok (.iload 5, 2) := by decide +kernel
theorem dX2_alikeTo_24 : decode cX2_alikeTo 24 = .ok (.invokestatic 65, 3) := by decide +kernel
theorem dX2_alikeTo_27 : decode cX2_alikeTo 27 = .ok (.ifCond .eq 26, 3) := by decide +kernel
theorem dX2_alikeTo_30 : decode cX2_alikeTo 30 = .ok (.aload_n 0, 1) := by decide +kernel
theorem dX2_alikeTo_31 : decode cX2_alikeTo 31 = .ok (.iload_n 1, 1) := by decide +kernel
theorem dX2_alikeTo_32 : decode cX2_alikeTo 32 = .ok (.iload 5, 2) := by decide +kernel
theorem dX2_alikeTo_34 : decode cX2_alikeTo 34 = .ok (.invokevirtual 69, 3) := by decide +kernel
theorem dX2_alikeTo_37 : decode cX2_alikeTo 37 = .ok (.invokestatic 72, 3) := by decide +kernel
theorem dX2_alikeTo_40 : decode cX2_alikeTo 40 = .ok (.iload_n 2, 1) := by decide +kernel
theorem dX2_alikeTo_41 : decode cX2_alikeTo 41 = .ok (.if_icmp .lt 12, 3) := by decide +kernel
theorem dX2_alikeTo_44 : decode cX2_alikeTo 44 = .ok (.iload 4, 2) := by decide +kernel
theorem dX2_alikeTo_46 : decode cX2_alikeTo 46 = .ok (.iconst 1, 1) := by decide +kernel
theorem dX2_alikeTo_47 : decode cX2_alikeTo 47 = .ok (.iload 5, 2) := by decide +kernel
theorem dX2_alikeTo_49 : decode cX2_alikeTo 49 = .ok (.ishl, 1) := by decide +kernel
theorem dX2_alikeTo_50 : decode cX2_alikeTo 50 = .ok (.ior, 1) := by decide +kernel
theorem dX2_alikeTo_51 : decode cX2_alikeTo 51 = .ok (.istore 4, 2) := by decide +kernel
theorem dX2_alikeTo_53 : decode cX2_alikeTo 53 = .ok (.iinc 5 1, 3) := by decide +kernel
theorem dX2_alikeTo_56 : decode cX2_alikeTo 56 = .ok (.goto (-50), 3) := by decide +kernel
theorem dX2_alikeTo_59 : decode cX2_alikeTo 59 = .ok (.iload 4, 2) := by decide +kernel
theorem dX2_alikeTo_61 : decode cX2_alikeTo 61 = .ok (.ireturn, 1) := by decide +kernel
theorem dX2_sameMarks_0 : decode cX2_sameMarks 0 = .ok (.aload_n 0, 1) := by decide +kernel
theorem dX2_sameMarks_1 : decode cX2_sameMarks 1 = .ok (.getfield 9, 3) := by decide +kernel
theorem dX2_sameMarks_4 : decode cX2_sameMarks 4 = .ok (.iload_n 1, 1) := by decide +kernel
theorem dX2_sameMarks_5 : decode cX2_sameMarks 5 = .ok (.invokestatic 19, 3) := by decide +kernel
theorem dX2_sameMarks_8 : decode cX2_sameMarks 8 = .ok (.aload_n 0, 1) := by decide +kernel
theorem dX2_sameMarks_9 : decode cX2_sameMarks 9 = .ok (.getfield 9, 3) := by decide +kernel
theorem dX2_sameMarks_12 : decode cX2_sameMarks 12 = .ok (.iload_n 2, 1) := by decide +kernel
theorem dX2_sameMarks_13 : decode cX2_sameMarks 13 = .ok (.invokestatic 19, 3) := by decide +kernel
theorem dX2_sameMarks_16 : decode cX2_sameMarks 16 = .ok (.ixor, 1) := by decide +kernel
theorem dX2_sameMarks_17 : decode cX2_sameMarks 17 = .ok (.istore_n 3, 1) := by decide +kernel
theorem dX2_sameMarks_18 : decode cX2_sameMarks 18 = .ok (.iconst 0, 1) := by decide +kernel
theorem dX2_sameMarks_19 : decode cX2_sameMarks 19 = .ok (.istore 4, 2) := by decide +kernel
theorem dX2_sameMarks_21 : decode cX2_sameMarks 21 = .ok (.iconst 0, 1) := by decide +kernel
theorem dX2_sameMarks_22 : decode cX2_sameMarks 22 = .ok (.istore 5, 2) := by decide +kernel
theorem dX2_sameMarks_24 : decode cX2_sameMarks 24 = .ok (.iload 5, 2) := by decide +kernel
theorem dX2_sameMarks_26 : decode cX2_sameMarks 26 = .ok (.iconst 4, 1) := by decide +kernel
theorem dX2_sameMarks_27 : decode cX2_sameMarks 27 = .ok (.if_icmp .ge 30, 3) := by decide +kernel
theorem dX2_sameMarks_30 : decode cX2_sameMarks 30 = .ok (.iload_n 3, 1) := by decide +kernel
theorem dX2_sameMarks_31 : decode cX2_sameMarks 31 = .ok (.iconst 4, 1) := by decide +kernel
theorem dX2_sameMarks_32 : decode cX2_sameMarks 32 = .ok (.iload 5, 2) := by decide +kernel
theorem dX2_sameMarks_34 : decode cX2_sameMarks 34 = .ok (.imul, 1) := by decide +kernel
theorem dX2_sameMarks_35 : decode cX2_sameMarks 35 = .ok (.ishr, 1) := by decide +kernel
theorem dX2_sameMarks_36 : decode cX2_sameMarks 36 = .ok (.bipush 15, 2) := by decide +kernel
theorem dX2_sameMarks_38 : decode cX2_sameMarks 38 = .ok (.iand, 1) := by decide +kernel
theorem dX2_sameMarks_39 : decode cX2_sameMarks 39 = .ok (.ifCond .ne 12, 3) := by decide +kernel
theorem dX2_sameMarks_42 : decode cX2_sameMarks 42 = .ok (.iload 4, 2) := by decide +kernel
theorem dX2_sameMarks_44 : decode cX2_sameMarks 44 = .ok (.iconst 1, 1) := by decide +kernel
theorem dX2_sameMarks_45 : decode cX2_sameMarks 45 = .ok (.iload 5, 2) := by decide +kernel
theorem dX2_sameMarks_47 : decode cX2_sameMarks 47 = .ok (.ishl, 1) := by decide +kernel
theorem dX2_sameMarks_48 : decode cX2_sameMarks 48 = .ok (.ior, 1) := by decide +kernel
theorem dX2_sameMarks_49 : decode cX2_sameMarks 49 = .ok (.istore 4, 2) := by decide +kernel
theorem dX2_sameMarks_51 : decode cX2_sameMarks 51 = .ok (.iinc 5 1, 3) := by decide +kernel
theorem dX2_sameMarks_54 : decode cX2_sameMarks 54 = .ok (.goto (-30), 3) := by decide +kernel
theorem dX2_sameMarks_57 : decode cX2_sameMarks 57 = .ok (.iload 4, 2) := by decide +kernel
theorem dX2_sameMarks_59 : decode cX2_sameMarks 59 = .ok (.ireturn, 1) := by decide +kernel
theorem dX2_lastOnes_0 : decode cX2_lastOnes 0 = .ok (.aload_n 0, 1) := by decide +kernel
theorem dX2_lastOnes_1 : decode cX2_lastOnes 1 = .ok (.aload_n 0, 1) := by decide +kernel
theorem dX2_lastOnes_2 : decode cX2_lastOnes 2 = .ok (.getfield 15, 3) := by decide +kernel
theorem dX2_lastOnes_5 : decode cX2_lastOnes 5 = .ok (.aload_n 0, 1) := by decide +kernel
theorem dX2_lastOnes_6 : decode cX2_lastOnes 6 = .ok (.invokevirtual 78, 3) := by decide +kernel
theorem dX2_lastOnes_9 : decode cX2_lastOnes 9 = .ok (.invokevirtual 81, 3) := by decide +kernel
theorem dX2_lastOnes_12 : decode cX2_lastOnes 12 = .ok (.ireturn, 1) := by decide +kernel
theorem dX2_lastOnesBy_0 : decode cX2_lastOnesBy 0 = .ok (.iconst 0, 1) := by decide +kernel
theorem dX2_lastOnesBy_1 : decode cX2_lastOnesBy 1 = .ok (.istore_n 3, 1) := by decide +kernel
theorem dX2_lastOnesBy_2 : decode cX2_lastOnesBy 2 = .ok (.iconst 0, 1) := by decide +kernel
theorem dX2_lastOnesBy_3 : decode cX2_lastOnesBy 3 = .ok (.istore 4, 2) := by decide +kernel
theorem dX2_lastOnesBy_5 : decode cX2_lastOnesBy 5 = .ok (.iload 4, 2) := by decide +kernel
theorem dX2_lastOnesBy_7 : decode cX2_lastOnesBy 7 = .ok (.aload_n 0, 1) := by decide +kernel
theorem dX2_lastOnesBy_8 : decode cX2_lastOnesBy 8 = .ok (.getfield 23, 3) := by decide +kernel
theorem dX2_lastOnesBy_11 : decode cX2_lastOnesBy 11 = .ok (.if_icmp .ge 36, 3) := by decide +kernel
theorem dX2_lastOnesBy_14 : decode cX2_lastOnesBy 14 = .ok (.iload_n 2, 1) := by decide +kernel
theorem dX2_lastOnesBy_15 : decode cX2_lastOnesBy 15 = .ok (.iload 4, 2) := by decide +kernel
theorem dX2_lastOnesBy_17 : decode cX2_lastOnesBy 17 = .ok (.invokestatic 65, 3) := by decide +kernel
theorem dX2_lastOnesBy_20 : decode cX2_lastOnesBy 20 = .ok (.ifCond .eq 21, 3) := by decide +kernel
theorem dX2_lastOnesBy_23 : decode cX2_lastOnesBy 23 = .ok (.aload_n 0, 1) := by decide +kernel
theorem dX2_lastOnesBy_24 : decode cX2_lastOnesBy 24 = .ok (.iload 4, 2) := by decide +kernel
theorem dX2_lastOnesBy_26 : decode cX2_lastOnesBy 26 = .ok (.iload_n 1, 1) := by decide +kernel
theorem dX2_lastOnesBy_27 : decode cX2_lastOnesBy 27 = .ok (.iload_n 2, 1) := by decide +kernel
theorem dX2_lastOnesBy_28 : decode cX2_lastOnesBy 28 = .ok (.invokevirtual 84, 3) := by decide +kernel
theorem dX2_lastOnesBy_31 : decode cX2_lastOnesBy 31 = .ok (.ifCond .ne 10, 3) := by decide +kernel
theorem dX2_lastOnesBy_34 : decode cX2_lastOnesBy 34 = .ok (.iload_n 3, 1) := by decide +kernel
theorem dX2_lastOnesBy_35 : decode cX2_lastOnesBy 35 = .ok (.iconst 1, 1) := by decide +kernel
theorem dX2_lastOnesBy_36 : decode cX2_lastOnesBy 36 = .ok (.iload 4, 2) := by decide +kernel
theorem dX2_lastOnesBy_38 : decode cX2_lastOnesBy 38 = .ok (.ishl, 1) := by decide +kernel
theorem dX2_lastOnesBy_39 : decode cX2_lastOnesBy 39 = .ok (.ior, 1) := by decide +kernel
theorem dX2_lastOnesBy_40 : decode cX2_lastOnesBy 40 = .ok (.istore_n 3, 1) := by decide +kernel
theorem dX2_lastOnesBy_41 : decode cX2_lastOnesBy 41 = .ok (.iinc 4 1, 3) := by decide +kernel
theorem dX2_lastOnesBy_44 : decode cX2_lastOnesBy 44 = .ok (.goto (-39), 3) := by decide +kernel
theorem dX2_lastOnesBy_47 : decode cX2_lastOnesBy 47 = .ok (.iload_n 3, 1) := by decide +kernel
theorem dX2_lastOnesBy_48 : decode cX2_lastOnesBy 48 = .ok (.ireturn, 1) := by decide +kernel
theorem dX2_priceOf_0 : decode cX2_priceOf 0 = .ok (.aload_n 0, 1) := by decide +kernel
theorem dX2_priceOf_1 : decode cX2_priceOf 1 = .ok (.invokevirtual 78, 3) := by decide +kernel
theorem dX2_priceOf_4 : decode cX2_priceOf 4 = .ok (.istore_n 2, 1) := by decide +kernel
theorem dX2_priceOf_5 : decode cX2_priceOf 5 = .ok (.iload_n 2, 1) := by decide +kernel
theorem dX2_priceOf_6 : decode cX2_priceOf 6 = .ok (.iload_n 1, 1) := by decide +kernel
theorem dX2_priceOf_7 : decode cX2_priceOf 7 = .ok (.invokestatic 65, 3) := by decide +kernel
theorem dX2_priceOf_10 : decode cX2_priceOf 10 = .ok (.ifCond .ne 5, 3) := by decide +kernel
theorem dX2_priceOf_13 : decode cX2_priceOf 13 = .ok (.iconst 0, 1) := by decide +kernel
theorem dX2_priceOf_14 : decode cX2_priceOf 14 = .ok (.ireturn, 1) := by decide +kernel
theorem dX2_priceOf_15 : decode cX2_priceOf 15 = .ok (.aload_n 0, 1) := by decide +kernel
theorem dX2_priceOf_16 : decode cX2_priceOf 16 = .ok (.iload_n 1, 1) := by decide +kernel
theorem dX2_priceOf_17 : decode cX2_priceOf 17 = .ok (.iconst 5, 1) := by decide +kernel
theorem dX2_priceOf_18 : decode cX2_priceOf 18 = .ok (.invokevirtual 88, 3) := by decide +kernel
theorem dX2_priceOf_21 : decode cX2_priceOf 21 = .ok (.aload_n 0, 1) := by decide +kernel
theorem dX2_priceOf_22 : decode cX2_priceOf 22 = .ok (.iload_n 1, 1) := by decide +kernel
theorem dX2_priceOf_23 : decode cX2_priceOf 23 = .ok (.aload_n 0, 1) := by decide +kernel
theorem dX2_priceOf_24 : decode cX2_priceOf 24 = .ok (.getfield 15, 3) := by decide +kernel
theorem dX2_priceOf_27 : decode cX2_priceOf 27 = .ok (.iload_n 2, 1) := by decide +kernel
theorem dX2_priceOf_28 : decode cX2_priceOf 28 = .ok (.invokevirtual 84, 3) := by decide +kernel
theorem dX2_priceOf_31 : decode cX2_priceOf 31 = .ok (.iconst 1, 1) := by decide +kernel
theorem dX2_priceOf_32 : decode cX2_priceOf 32 = .ok (.iload_n 1, 1) := by decide +kernel
theorem dX2_priceOf_33 : decode cX2_priceOf 33 = .ok (.ishl, 1) := by decide +kernel
theorem dX2_priceOf_34 : decode cX2_priceOf 34 = .ok (.ior, 1) := by decide +kernel
theorem dX2_priceOf_35 : decode cX2_priceOf 35 = .ok (.invokestatic 91, 3) := by decide +kernel
theorem dX2_priceOf_38 : decode cX2_priceOf 38 = .ok (.ireturn, 1) := by decide +kernel
theorem dX2_shareOf_0 : decode cX2_shareOf 0 = .ok (.iload_n 1, 1) := by decide +kernel
theorem dX2_shareOf_1 : decode cX2_shareOf 1 = .ok (.invokestatic 72, 3) := by decide +kernel
theorem dX2_shareOf_4 : decode cX2_shareOf 4 = .ok (.istore_n 2, 1) := by decide +kernel
theorem dX2_shareOf_5 : decode cX2_shareOf 5 = .ok (.iload_n 2, 1) := by decide +kernel
theorem dX2_shareOf_6 : decode cX2_shareOf 6 = .ok (.ifCond .le 12, 3) := by decide +kernel
theorem dX2_shareOf_9 : decode cX2_shareOf 9 = .ok (.bipush 12, 2) := by decide +kernel
theorem dX2_shareOf_11 : decode cX2_shareOf 11 = .ok (.iload_n 0, 1) := by decide +kernel
theorem dX2_shareOf_12 : decode cX2_shareOf 12 = .ok (.imul, 1) := by decide +kernel
theorem dX2_shareOf_13 : decode cX2_shareOf 13 = .ok (.iload_n 2, 1) := by decide +kernel
theorem dX2_shareOf_14 : decode cX2_shareOf 14 = .ok (.idiv, 1) := by decide +kernel
theorem dX2_shareOf_15 : decode cX2_shareOf 15 = .ok (.goto 4, 3) := by decide +kernel
theorem dX2_shareOf_18 : decode cX2_shareOf 18 = .ok (.iconst 0, 1) := by decide +kernel
theorem dX2_shareOf_19 : decode cX2_shareOf 19 = .ok (.ireturn, 1) := by decide +kernel
theorem dX2_canBe_0 : decode cX2_canBe 0 = .ok (.aload_n 0, 1) := by decide +kernel
theorem dX2_canBe_1 : decode cX2_canBe 1 = .ok (.iload_n 2, 1) := by decide +kernel
theorem dX2_canBe_2 : decode cX2_canBe 2 = .ok (.invokevirtual 94, 3) := by decide +kernel
theorem dX2_canBe_5 : decode cX2_canBe 5 = .ok (.ifCond .ne 5, 3) := by decide +kernel
theorem dX2_canBe_8 : decode cX2_canBe 8 = .ok (.iconst 0, 1) := by decide +kernel
theorem dX2_canBe_9 : decode cX2_canBe 9 = .ok (.ireturn, 1) := by decide +kernel
theorem dX2_canBe_10 : decode cX2_canBe 10 = .ok (.iload_n 1, 1) := by decide +kernel
theorem dX2_canBe_11 : decode cX2_canBe 11 = .ok (.tableswitch 87 0 3 #[29, 38, 62, 78], 29) := by decide +kernel
theorem dX2_canBe_40 : decode cX2_canBe 40 = .ok (.aload_n 0, 1) := by decide +kernel
theorem dX2_canBe_41 : decode cX2_canBe 41 = .ok (.invokevirtual 98, 3) := by decide +kernel
theorem dX2_canBe_44 : decode cX2_canBe 44 = .ok (.iload_n 2, 1) := by decide +kernel
theorem dX2_canBe_45 : decode cX2_canBe 45 = .ok (.invokestatic 65, 3) := by decide +kernel
theorem dX2_canBe_48 : decode cX2_canBe 48 = .ok (.ireturn, 1) := by decide +kernel
theorem dX2_canBe_49 : decode cX2_canBe 49 = .ok (.aload_n 0, 1) := by decide +kernel
theorem dX2_canBe_50 : decode cX2_canBe 50 = .ok (.aload_n 0, 1) := by decide +kernel
theorem dX2_canBe_51 : decode cX2_canBe 51 = .ok (.getfield 15, 3) := by decide +kernel
theorem dX2_canBe_54 : decode cX2_canBe 54 = .ok (.aload_n 0, 1) := by decide +kernel
theorem dX2_canBe_55 : decode cX2_canBe 55 = .ok (.invokevirtual 78, 3) := by decide +kernel
theorem dX2_canBe_58 : decode cX2_canBe 58 = .ok (.invokevirtual 81, 3) := by decide +kernel
theorem dX2_canBe_61 : decode cX2_canBe 61 = .ok (.aload_n 0, 1) := by decide +kernel
theorem dX2_canBe_62 : decode cX2_canBe 62 = .ok (.getfield 38, 3) := by decide +kernel
theorem dX2_canBe_65 : decode cX2_canBe 65 = .ok (.iconst (-1), 1) := by decide +kernel
theorem dX2_canBe_66 : decode cX2_canBe 66 = .ok (.ixor, 1) := by decide +kernel
theorem dX2_canBe_67 : decode cX2_canBe 67 = .ok (.iand, 1) := by decide +kernel
theorem dX2_canBe_68 : decode cX2_canBe 68 = .ok (.iload_n 2, 1) := by decide +kernel
theorem dX2_canBe_69 : decode cX2_canBe 69 = .ok (.invokestatic 65, 3) := by decide +kernel
theorem dX2_canBe_72 : decode cX2_canBe 72 = .ok (.ireturn, 1) := by decide +kernel
theorem dX2_canBe_73 : decode cX2_canBe 73 = .ok (.aload_n 0, 1) := by decide +kernel
theorem dX2_canBe_74 : decode cX2_canBe 74 = .ok (.invokevirtual 62, 3) := by decide +kernel
theorem dX2_canBe_77 : decode cX2_canBe 77 = .ok (.aload_n 0, 1) := by decide +kernel
theorem dX2_canBe_78 : decode cX2_canBe 78 = .ok (.getfield 38, 3) := by decide +kernel
theorem dX2_canBe_81 : decode cX2_canBe 81 = .ok (.iconst (-1), 1) := by decide +kernel
theorem dX2_canBe_82 : decode cX2_canBe 82 = .ok (.ixor, 1) := by decide +kernel
theorem dX2_canBe_83 : decode cX2_canBe 83 = .ok (.iand, 1) := by decide +kernel
theorem dX2_canBe_84 : decode cX2_canBe 84 = .ok (.iload_n 2, 1) := by decide +kernel
theorem dX2_canBe_85 : decode cX2_canBe 85 = .ok (.invokestatic 65, 3) := by decide +kernel
theorem dX2_canBe_88 : decode cX2_canBe 88 = .ok (.ireturn, 1) := by decide +kernel
theorem dX2_canBe_89 : decode cX2_canBe 89 = .ok (.aload_n 0, 1) := by decide +kernel
theorem dX2_canBe_90 : decode cX2_canBe 90 = .ok (.invokevirtual 62, 3) := by decide +kernel
theorem dX2_canBe_93 : decode cX2_canBe 93 = .ok (.iload_n 2, 1) := by decide +kernel
theorem dX2_canBe_94 : decode cX2_canBe 94 = .ok (.invokestatic 65, 3) := by decide +kernel
theorem dX2_canBe_97 : decode cX2_canBe 97 = .ok (.ireturn, 1) := by decide +kernel
theorem dX2_canBe_98 : decode cX2_canBe 98 = .ok (.iconst 0, 1) := by decide +kernel
theorem dX2_canBe_99 : decode cX2_canBe 99 = .ok (.ireturn, 1) := by decide +kernel
theorem dX2_perform_0 : decode cX2_perform 0 = .ok (.iconst 1, 1) := by decide +kernel
theorem dX2_perform_1 : decode cX2_perform 1 = .ok (.iload_n 2, 1) := by decide +kernel
theorem dX2_perform_2 : decode cX2_perform 2 = .ok (.ishl, 1) := by decide +kernel
theorem dX2_perform_3 : decode cX2_perform 3 = .ok (.istore_n 3, 1) := by decide +kernel
theorem dX2_perform_4 : decode cX2_perform 4 = .ok (.iload_n 1, 1) := by decide +kernel
theorem dX2_perform_5 : decode cX2_perform 5 = .ok (.tableswitch 118 0 3 #[31, 44, 57, 105], 31) := by decide +kernel
theorem dX2_perform_36 : decode cX2_perform 36 = .ok (.aload_n 0, 1) := by decide +kernel
theorem dX2_perform_37 : decode cX2_perform 37 = .ok (.dup, 1) := by decide +kernel
theorem dX2_perform_38 : decode cX2_perform 38 = .ok (.getfield 32, 3) := by decide +kernel
theorem dX2_perform_41 : decode cX2_perform 41 = .ok (.iload_n 3, 1) := by decide +kernel
theorem dX2_perform_42 : decode cX2_perform 42 = .ok (.ior, 1) := by decide +kernel
theorem dX2_perform_43 : decode cX2_perform 43 = .ok (.putfield 32, 3) := by decide +kernel
theorem dX2_perform_46 : decode cX2_perform 46 = .ok (.goto 77, 3) := by decide +kernel
theorem dX2_perform_49 : decode cX2_perform 49 = .ok (.aload_n 0, 1) := by decide +kernel
theorem dX2_perform_50 : decode cX2_perform 50 = .ok (.dup, 1) := by decide +kernel
theorem dX2_perform_51 : decode cX2_perform 51 = .ok (.getfield 38, 3) := by decide +kernel
theorem dX2_perform_54 : decode cX2_perform 54 = .ok (.iload_n 3, 1) := by decide +kernel
theorem dX2_perform_55 : decode cX2_perform 55 = .ok (.ior, 1) := by decide +kernel
theorem dX2_perform_56 : decode cX2_perform 56 = .ok (.putfield 38, 3) := by decide +kernel
theorem dX2_perform_59 : decode cX2_perform 59 = .ok (.goto 64, 3) := by decide +kernel
theorem dX2_perform_62 : decode cX2_perform 62 = .ok (.aload_n 0, 1) := by decide +kernel
theorem dX2_perform_63 : decode cX2_perform 63 = .ok (.dup, 1) := by decide +kernel
theorem dX2_perform_64 : decode cX2_perform 64 = .ok (.getfield 35, 3) := by decide +kernel
theorem dX2_perform_67 : decode cX2_perform 67 = .ok (.iload_n 3, 1) := by decide +kernel
theorem dX2_perform_68 : decode cX2_perform 68 = .ok (.ixor, 1) := by decide +kernel
theorem dX2_perform_69 : decode cX2_perform 69 = .ok (.putfield 35, 3) := by decide +kernel
theorem dX2_perform_72 : decode cX2_perform 72 = .ok (.aload_n 0, 1) := by decide +kernel
theorem dX2_perform_73 : decode cX2_perform 73 = .ok (.invokevirtual 78, 3) := by decide +kernel
theorem dX2_perform_76 : decode cX2_perform 76 = .ok (.iload_n 2, 1) := by decide +kernel
theorem dX2_perform_77 : decode cX2_perform 77 = .ok (.invokestatic 65, 3) := by decide +kernel
theorem dX2_perform_80 : decode cX2_perform 80 = .ok (.ifCond .eq 43, 3) := by decide +kernel
theorem dX2_perform_83 : decode cX2_perform 83 = .ok (.aload_n 0, 1) := by decide +kernel
theorem dX2_perform_84 : decode cX2_perform 84 = .ok (.dup, 1) := by decide +kernel
theorem dX2_perform_85 : decode cX2_perform 85 = .ok (.getfield 38, 3) := by decide +kernel
theorem dX2_perform_88 : decode cX2_perform 88 = .ok (.aload_n 0, 1) := by decide +kernel
theorem dX2_perform_89 : decode cX2_perform 89 = .ok (.iload_n 2, 1) := by decide +kernel
theorem dX2_perform_90 : decode cX2_perform 90 = .ok (.aload_n 0, 1) := by decide +kernel
theorem dX2_perform_91 : decode cX2_perform 91 = .ok (.getfield 15, 3) := by decide +kernel
theorem dX2_perform_94 : decode cX2_perform 94 = .ok (.aload_n 0, 1) := by decide +kernel
theorem dX2_perform_95 : decode cX2_perform 95 = .ok (.getfield 38, 3) := by decide +kernel
theorem dX2_perform_98 : decode cX2_perform 98 = .ok (.invokevirtual 84, 3) := by decide +kernel
theorem dX2_perform_101 : decode cX2_perform 101 = .ok (.iconst (-1), 1) := by decide +kernel
theorem dX2_perform_102 : decode cX2_perform 102 = .ok (.ixor, 1) := by decide +kernel
theorem dX2_perform_103 : decode cX2_perform 103 = .ok (.iand, 1) := by decide +kernel
theorem dX2_perform_104 : decode cX2_perform 104 = .ok (.putfield 38, 3) := by decide +kernel
theorem dX2_perform_107 : decode cX2_perform 107 = .ok (.goto 16, 3) := by decide +kernel
theorem dX2_perform_110 : decode cX2_perform 110 = .ok (.aload_n 0, 1) := by decide +kernel
theorem dX2_perform_111 : decode cX2_perform 111 = .ok (.dup, 1) := by decide +kernel
theorem dX2_perform_112 : decode cX2_perform 112 = .ok (.getfield 29, 3) := by decide +kernel
theorem dX2_perform_115 : decode cX2_perform 115 = .ok (.iload_n 3, 1) := by decide +kernel
theorem dX2_perform_116 : decode cX2_perform 116 = .ok (.ixor, 1) := by decide +kernel
theorem dX2_perform_117 : decode cX2_perform 117 = .ok (.putfield 29, 3) := by decide +kernel
theorem dX2_perform_120 : decode cX2_perform 120 = .ok (.goto 3, 3) := by decide +kernel
theorem dX2_perform_123 : decode cX2_perform 123 = .ok (.return_, 1) := by decide +kernel
theorem dX2_addForged_0 : decode cX2_addForged 0 = .ok (.aload_n 0, 1) := by decide +kernel
theorem dX2_addForged_1 : decode cX2_addForged 1 = .ok (.getfield 23, 3) := by decide +kernel
theorem dX2_addForged_4 : decode cX2_addForged 4 = .ok (.istore_n 3, 1) := by decide +kernel
theorem dX2_addForged_5 : decode cX2_addForged 5 = .ok (.iload_n 2, 1) := by decide +kernel
theorem dX2_addForged_6 : decode cX2_addForged 6 = .ok (.bipush 16, 2) := by decide +kernel
theorem dX2_addForged_8 : decode cX2_addForged 8 = .ok (.ishl, 1) := by decide +kernel
theorem dX2_addForged_9 : decode cX2_addForged 9 = .ok (.ldc 101, 2) := by decide +kernel
theorem dX2_addForged_11 : decode cX2_addForged 11 = .ok (.ior, 1) := by decide +kernel
theorem dX2_addForged_12 : decode cX2_addForged 12 = .ok (.ldc 102, 2) := by decide +kernel
theorem dX2_addForged_14 : decode cX2_addForged 14 = .ok (.ior, 1) := by decide +kernel
theorem dX2_addForged_15 : decode cX2_addForged 15 = .ok (.istore 4, 2) := by decide +kernel
theorem dX2_addForged_17 : decode cX2_addForged 17 = .ok (.iload_n 1, 1) := by decide +kernel
theorem dX2_addForged_18 : decode cX2_addForged 18 = .ok (.istore 5, 2) := by decide +kernel
theorem dX2_addForged_20 : decode cX2_addForged 20 = .ok (.iconst 3, 1) := by decide +kernel
theorem dX2_addForged_21 : decode cX2_addForged 21 = .ok (.istore 6, 2) := by decide +kernel
theorem dX2_addForged_23 : decode cX2_addForged 23 = .ok (.iload 6, 2) := by decide +kernel
theorem dX2_addForged_25 : decode cX2_addForged 25 = .ok (.ifCond .lt 31, 3) := by decide +kernel
theorem dX2_addForged_28 : decode cX2_addForged 28 = .ok (.iload 4, 2) := by decide +kernel
theorem dX2_addForged_30 : decode cX2_addForged 30 = .ok (.iload 5, 2) := by decide +kernel
theorem dX2_addForged_32 : decode cX2_addForged 32 = .ok (.bipush 10, 2) := by decide +kernel
theorem dX2_addForged_34 : decode cX2_addForged 34 = .ok (.irem, 1) := by decide +kernel
theorem dX2_addForged_35 : decode cX2_addForged 35 = .ok (.iconst 4, 1) := by decide +kernel
theorem dX2_addForged_36 : decode cX2_addForged 36 = .ok (.iload 6, 2) := by decide +kernel
theorem dX2_addForged_38 : decode cX2_addForged 38 = .ok (.imul, 1) := by decide +kernel
theorem dX2_addForged_39 : decode cX2_addForged 39 = .ok (.ishl, 1) := by decide +kernel
theorem dX2_addForged_40 : decode cX2_addForged 40 = .ok (.ior, 1) := by decide +kernel
theorem dX2_addForged_41 : decode cX2_addForged 41 = .ok (.istore 4, 2) := by decide +kernel
theorem dX2_addForged_43 : decode cX2_addForged 43 = .ok (.iload 5, 2) := by decide +kernel
theorem dX2_addForged_45 : decode cX2_addForged 45 = .ok (.bipush 10, 2) := by decide +kernel
theorem dX2_addForged_47 : decode cX2_addForged 47 = .ok (.idiv, 1) := by decide +kernel
theorem dX2_addForged_48 : decode cX2_addForged 48 = .ok (.istore 5, 2) := by decide +kernel
theorem dX2_addForged_50 : decode cX2_addForged 50 = .ok (.iinc 6 (-1), 3) := by decide +kernel
theorem dX2_addForged_53 : decode cX2_addForged 53 = .ok (.goto (-30), 3) := by decide +kernel
theorem dX2_addForged_56 : decode cX2_addForged 56 = .ok (.aload_n 0, 1) := by decide +kernel
theorem dX2_addForged_57 : decode cX2_addForged 57 = .ok (.getfield 9, 3) := by decide +kernel
theorem dX2_addForged_60 : decode cX2_addForged 60 = .ok (.iload_n 3, 1) := by decide +kernel
theorem dX2_addForged_61 : decode cX2_addForged 61 = .ok (.iload 4, 2) := by decide +kernel
theorem dX2_addForged_63 : decode cX2_addForged 63 = .ok (.invokestatic 103, 3) := by decide +kernel
theorem dX2_addForged_66 : decode cX2_addForged 66 = .ok (.aload_n 0, 1) := by decide +kernel
theorem dX2_addForged_67 : decode cX2_addForged 67 = .ok (.dup, 1) := by decide +kernel
theorem dX2_addForged_68 : decode cX2_addForged 68 = .ok (.getfield 23, 3) := by decide +kernel
theorem dX2_addForged_71 : decode cX2_addForged 71 = .ok (.iconst 1, 1) := by decide +kernel
theorem dX2_addForged_72 : decode cX2_addForged 72 = .ok (.iadd, 1) := by decide +kernel
theorem dX2_addForged_73 : decode cX2_addForged 73 = .ok (.putfield 23, 3) := by decide +kernel
theorem dX2_addForged_76 : decode cX2_addForged 76 = .ok (.aload_n 0, 1) := by decide +kernel
theorem dX2_addForged_77 : decode cX2_addForged 77 = .ok (.dup, 1) := by decide +kernel
theorem dX2_addForged_78 : decode cX2_addForged 78 = .ok (.getfield 38, 3) := by decide +kernel
theorem dX2_addForged_81 : decode cX2_addForged 81 = .ok (.aload_n 0, 1) := by decide +kernel
theorem dX2_addForged_82 : decode cX2_addForged 82 = .ok (.iload_n 3, 1) := by decide +kernel
theorem dX2_addForged_83 : decode cX2_addForged 83 = .ok (.aload_n 0, 1) := by decide +kernel
theorem dX2_addForged_84 : decode cX2_addForged 84 = .ok (.getfield 15, 3) := by decide +kernel
theorem dX2_addForged_87 : decode cX2_addForged 87 = .ok (.aload_n 0, 1) := by decide +kernel
theorem dX2_addForged_88 : decode cX2_addForged 88 = .ok (.getfield 38, 3) := by decide +kernel
theorem dX2_addForged_91 : decode cX2_addForged 91 = .ok (.invokevirtual 84, 3) := by decide +kernel
theorem dX2_addForged_94 : decode cX2_addForged 94 = .ok (.iconst (-1), 1) := by decide +kernel
theorem dX2_addForged_95 : decode cX2_addForged 95 = .ok (.ixor, 1) := by decide +kernel
theorem dX2_addForged_96 : decode cX2_addForged 96 = .ok (.iand, 1) := by decide +kernel
theorem dX2_addForged_97 : decode cX2_addForged 97 = .ok (.putfield 38, 3) := by decide +kernel
theorem dX2_addForged_100 : decode cX2_addForged 100 = .ok (.iload_n 3, 1) := by decide +kernel
theorem dX2_addForged_101 : decode cX2_addForged 101 = .ok (.ireturn, 1) := by decide +kernel
theorem dX2_changeWord_0 : decode cX2_changeWord 0 = .ok (.aload_n 0, 1) := by decide +kernel
theorem dX2_changeWord_1 : decode cX2_changeWord 1 = .ok (.iload_n 1, 1) := by decide +kernel
theorem dX2_changeWord_2 : decode cX2_changeWord 2 = .ok (.putfield 15, 3) := by decide +kernel
theorem dX2_changeWord_5 : decode cX2_changeWord 5 = .ok (.aload_n 0, 1) := by decide +kernel
theorem dX2_changeWord_6 : decode cX2_changeWord 6 = .ok (.getfield 38, 3) := by decide +kernel
theorem dX2_changeWord_9 : decode cX2_changeWord 9 = .ok (.aload_n 0, 1) := by decide +kernel
theorem dX2_changeWord_10 : decode cX2_changeWord 10 = .ok (.invokevirtual 107, 3) := by decide +kernel
theorem dX2_changeWord_13 : decode cX2_changeWord 13 = .ok (.iconst (-1), 1) := by decide +kernel
theorem dX2_changeWord_14 : decode cX2_changeWord 14 = .ok (.ixor, 1) := by decide +kernel
theorem dX2_changeWord_15 : decode cX2_changeWord 15 = .ok (.iand, 1) := by decide +kernel
theorem dX2_changeWord_16 : decode cX2_changeWord 16 = .ok (.istore_n 2, 1) := by decide +kernel
theorem dX2_changeWord_17 : decode cX2_changeWord 17 = .ok (.aload_n 0, 1) := by decide +kernel
theorem dX2_changeWord_18 : decode cX2_changeWord 18 = .ok (.dup, 1) := by decide +kernel
theorem dX2_changeWord_19 : decode cX2_changeWord 19 = .ok (.getfield 38, 3) := by decide +kernel
theorem dX2_changeWord_22 : decode cX2_changeWord 22 = .ok (.iload_n 2, 1) := by decide +kernel
theorem dX2_changeWord_23 : decode cX2_changeWord 23 = .ok (.iconst (-1), 1) := by decide +kernel
theorem dX2_changeWord_24 : decode cX2_changeWord 24 = .ok (.ixor, 1) := by decide +kernel
theorem dX2_changeWord_25 : decode cX2_changeWord 25 = .ok (.iand, 1) := by decide +kernel
theorem dX2_changeWord_26 : decode cX2_changeWord 26 = .ok (.putfield 38, 3) := by decide +kernel
theorem dX2_changeWord_29 : decode cX2_changeWord 29 = .ok (.iload_n 2, 1) := by decide +kernel
theorem dX2_changeWord_30 : decode cX2_changeWord 30 = .ok (.ireturn, 1) := by decide +kernel
theorem dX3_init_0 : decode cX3_init 0 = .ok (.aload_n 0, 1) := by decide +kernel
theorem dX3_init_1 : decode cX3_init 1 = .ok (.invokespecial 5, 3) := by decide +kernel
theorem dX3_init_4 : decode cX3_init 4 = .ok (.aload_n 0, 1) := by decide +kernel
theorem dX3_init_5 : decode cX3_init 5 = .ok (.new 11, 3) := by decide +kernel
theorem dX3_init_8 : decode cX3_init 8 = .ok (.dup, 1) := by decide +kernel
theorem dX3_init_9 : decode cX3_init 9 = .ok (.invokespecial 13, 3) := by decide +kernel
theorem dX3_init_12 : decode cX3_init 12 = .ok (.putfield 14, 3) := by decide +kernel
theorem dX3_init_15 : decode cX3_init 15 = .ok (.return_, 1) := by decide +kernel
theorem dX3_play_0 : decode cX3_play 0 = .ok (.aload_n 0, 1) := by decide +kernel
theorem dX3_play_1 : decode cX3_play 1 = .ok (.getfield 14, 3) := by decide +kernel
theorem dX3_play_4 : decode cX3_play 4 = .ok (.aload_n 1, 1) := by decide +kernel
theorem dX3_play_5 : decode cX3_play 5 = .ok (.invokevirtual 18, 3) := by decide +kernel
theorem dX3_play_8 : decode cX3_play 8 = .ok (.aload_n 0, 1) := by decide +kernel
theorem dX3_play_9 : decode cX3_play 9 = .ok (.aload_n 1, 1) := by decide +kernel
theorem dX3_play_10 : decode cX3_play 10 = .ok (.invokevirtual 22, 3) := by decide +kernel
theorem dX3_play_13 : decode cX3_play 13 = .ok (.putfield 28, 3) := by decide +kernel
theorem dX3_play_16 : decode cX3_play 16 = .ok (.aload_n 0, 1) := by decide +kernel
theorem dX3_play_17 : decode cX3_play 17 = .ok (.aload_n 1, 1) := by decide +kernel
theorem dX3_play_18 : decode cX3_play 18 = .ok (.getfield 32, 3) := by decide +kernel
theorem dX3_play_21 : decode cX3_play 21 = .ok (.putfield 35, 3) := by decide +kernel
theorem dX3_play_24 : decode cX3_play 24 = .ok (.aload_n 0, 1) := by decide +kernel
theorem dX3_play_25 : decode cX3_play 25 = .ok (.aload_n 1, 1) := by decide +kernel
theorem dX3_play_26 : decode cX3_play 26 = .ok (.getfield 36, 3) := by decide +kernel
theorem dX3_play_29 : decode cX3_play 29 = .ok (.putfield 39, 3) := by decide +kernel
theorem dX3_play_32 : decode cX3_play 32 = .ok (.aload_n 0, 1) := by decide +kernel
theorem dX3_play_33 : decode cX3_play 33 = .ok (.aload_n 0, 1) := by decide +kernel
theorem dX3_play_34 : decode cX3_play 34 = .ok (.iload_n 2, 1) := by decide +kernel
theorem dX3_play_35 : decode cX3_play 35 = .ok (.aload_n 1, 1) := by decide +kernel
theorem dX3_play_36 : decode cX3_play 36 = .ok (.getfield 40, 3) := by decide +kernel
theorem dX3_play_39 : decode cX3_play 39 = .ok (.aload_n 1, 1) := by decide +kernel
theorem dX3_play_40 : decode cX3_play 40 = .ok (.getfield 43, 3) := by decide +kernel
theorem dX3_play_43 : decode cX3_play 43 = .ok (.sipush (-1000), 3) := by decide +kernel
theorem dX3_play_46 : decode cX3_play 46 = .ok (.sipush 1000, 3) := by decide +kernel
theorem dX3_play_49 : decode cX3_play 49 = .ok (.invokestatic 46, 3) := by decide +kernel
theorem dX3_play_52 : decode cX3_play 52 = .ok (.putfield 50, 3) := by decide +kernel
theorem dX3_play_55 : decode cX3_play 55 = .ok (.return_, 1) := by decide +kernel
theorem dX3_lead_0 : decode cX3_lead 0 = .ok (.iload_n 1, 1) := by decide +kernel
theorem dX3_lead_1 : decode cX3_lead 1 = .ok (.ifCond .gt 10, 3) := by decide +kernel
theorem dX3_lead_4 : decode cX3_lead 4 = .ok (.aload_n 0, 1) := by decide +kernel
theorem dX3_lead_5 : decode cX3_lead 5 = .ok (.iconst 0, 1) := by decide +kernel
theorem dX3_lead_6 : decode cX3_lead 6 = .ok (.putfield 53, 3) := by decide +kernel
theorem dX3_lead_9 : decode cX3_lead 9 = .ok (.iconst 0, 1) := by decide +kernel
theorem dX3_lead_10 : decode cX3_lead 10 = .ok (.ireturn, 1) := by decide +kernel
theorem dX3_lead_11 : decode cX3_lead 11 = .ok (.aload_n 0, 1) := by decide +kernel
theorem dX3_lead_12 : decode cX3_lead 12 = .ok (.getfield 14, 3) := by decide +kernel
theorem dX3_lead_15 : decode cX3_lead 15 = .ok (.aload_n 0, 1) := by decide +kernel
theorem dX3_lead_16 : decode cX3_lead 16 = .ok (.getfield 28, 3) := by decide +kernel
theorem dX3_lead_19 : decode cX3_lead 19 = .ok (.iload_n 2, 1) := by decide +kernel
theorem dX3_lead_20 : decode cX3_lead 20 = .ok (.iconst (-1), 1) := by decide +kernel
theorem dX3_lead_21 : decode cX3_lead 21 = .ok (.ixor, 1) := by decide +kernel
theorem dX3_lead_22 : decode cX3_lead 22 = .ok (.iand, 1) := by decide +kernel
theorem dX3_lead_23 : decode cX3_lead 23 = .ok (.aload_n 0, 1) := by decide +kernel
theorem dX3_lead_24 : decode cX3_lead 24 = .ok (.getfield 35, 3) := by decide +kernel
theorem dX3_lead_27 : decode cX3_lead 27 = .ok (.iconst (-1), 1) := by decide +kernel
theorem dX3_lead_28 : decode cX3_lead 28 = .ok (.ixor, 1) := by decide +kernel
theorem dX3_lead_29 : decode cX3_lead 29 = .ok (.iand, 1) := by decide +kernel
theorem dX3_lead_30 : decode cX3_lead 30 = .ok (.invokevirtual 56, 3) := by decide +kernel
theorem dX3_lead_33 : decode cX3_lead 33 = .ok (.iload_n 3, 1) := by decide +kernel
theorem dX3_lead_34 : decode cX3_lead 34 = .ok (.iconst (-1), 1) := by decide +kernel
theorem dX3_lead_35 : decode cX3_lead 35 = .ok (.ixor, 1) := by decide +kernel
theorem dX3_lead_36 : decode cX3_lead 36 = .ok (.iand, 1) := by decide +kernel
theorem dX3_lead_37 : decode cX3_lead 37 = .ok (.istore 6, 2) := by decide +kernel
theorem dX3_lead_39 : decode cX3_lead 39 = .ok (.iload_n 1, 1) := by decide +kernel
theorem dX3_lead_40 : decode cX3_lead 40 = .ok (.iconst 1, 1) := by decide +kernel
theorem dX3_lead_41 : decode cX3_lead 41 = .ok (.if_icmp .ne 10, 3) := by decide +kernel
theorem dX3_lead_44 : decode cX3_lead 44 = .ok (.aload_n 0, 1) := by decide +kernel
theorem dX3_lead_45 : decode cX3_lead 45 = .ok (.iload 6, 2) := by decide +kernel
theorem dX3_lead_47 : decode cX3_lead 47 = .ok (.invokevirtual 60, 3) := by decide +kernel
theorem dX3_lead_50 : decode cX3_lead 50 = .ok (.ireturn, 1) := by decide +kernel
theorem dX3_lead_51 : decode cX3_lead 51 = .ok (.aload_n 0, 1) := by decide +kernel
theorem dX3_lead_52 : decode cX3_lead 52 = .ok (.getfield 28, 3) := by decide +kernel
theorem dX3_lead_55 : decode cX3_lead 55 = .ok (.iload_n 2, 1) := by decide +kernel
theorem dX3_lead_56 : decode cX3_lead 56 = .ok (.iconst (-1), 1) := by decide +kernel
theorem dX3_lead_57 : decode cX3_lead 57 = .ok (.ixor, 1) := by decide +kernel
theorem dX3_lead_58 : decode cX3_lead 58 = .ok (.iand, 1) := by decide +kernel
theorem dX3_lead_59 : decode cX3_lead 59 = .ok (.iload_n 3, 1) := by decide +kernel
theorem dX3_lead_60 : decode cX3_lead 60 = .ok (.iconst (-1), 1) := by decide +kernel
theorem dX3_lead_61 : decode cX3_lead 61 = .ok (.ixor, 1) := by decide +kernel
theorem dX3_lead_62 : decode cX3_lead 62 = .ok (.iand, 1) := by decide +kernel
theorem dX3_lead_63 : decode cX3_lead 63 = .ok (.aload_n 0, 1) := by decide +kernel
theorem dX3_lead_64 : decode cX3_lead 64 = .ok (.getfield 39, 3) := by decide +kernel
theorem dX3_lead_67 : decode cX3_lead 67 = .ok (.iconst (-1), 1) := by decide +kernel
theorem dX3_lead_68 : decode cX3_lead 68 = .ok (.ixor, 1) := by decide +kernel
theorem dX3_lead_69 : decode cX3_lead 69 = .ok (.iand, 1) := by decide +kernel
theorem dX3_lead_70 : decode cX3_lead 70 = .ok (.istore 7, 2) := by decide +kernel
theorem dX3_lead_72 : decode cX3_lead 72 = .ok (.sipush (-1000), 3) := by decide +kernel
theorem dX3_lead_75 : decode cX3_lead 75 = .ok (.istore 8, 2) := by decide +kernel
theorem dX3_lead_77 : decode cX3_lead 77 = .ok (.iconst 0, 1) := by decide +kernel
theorem dX3_lead_78 : decode cX3_lead 78 = .ok (.istore 9, 2) := by decide +kernel
theorem dX3_lead_80 : decode cX3_lead 80 = .ok (.iconst 0, 1) := by decide +kernel
theorem dX3_lead_81 : decode cX3_lead 81 = .ok (.istore 10, 2) := by decide +kernel
theorem dX3_lead_83 : decode cX3_lead 83 = .ok (.iload 10, 2) := by decide +kernel
theorem dX3_lead_85 : decode cX3_lead 85 = .ok (.bipush 18, 2) := by decide +kernel
theorem dX3_lead_87 : decode cX3_lead 87 = .ok (.if_icmp .gt 136, 3) := by decide +kernel
theorem dX3_lead_90 : decode cX3_lead 90 = .ok (.iload 8, 2) := by decide +kernel
theorem dX3_lead_92 : decode cX3_lead 92 = .ok (.iload 5, 2) := by decide +kernel
theorem dX3_lead_94 : decode cX3_lead 94 = .ok (.if_icmp .ge 129, 3) := by decide +kernel
theorem dX3_lead_97 : decode cX3_lead 97 = .ok (.iload 10, 2) := by decide +kernel
theorem dX3_lead_99 : decode cX3_lead 99 = .ok (.bipush 11, 2) := by decide +kernel
theorem dX3_lead_101 : decode cX3_lead 101 = .ok (.if_icmp .ge 15, 3) := by decide +kernel
theorem dX3_lead_104 : decode cX3_lead 104 = .ok (.iconst 1, 1) := by decide +kernel
theorem dX3_lead_105 : decode cX3_lead 105 = .ok (.iload 10, 2) := by decide +kernel
theorem dX3_lead_107 : decode cX3_lead 107 = .ok (.ishl, 1) := by decide +kernel
theorem dX3_lead_108 : decode cX3_lead 108 = .ok (.iconst 1, 1) := by decide +kernel
theorem dX3_lead_109 : decode cX3_lead 109 = .ok (.ishr, 1) := by decide +kernel
theorem dX3_lead_110 : decode cX3_lead 110 = .ok (.iload 6, 2) := by decide +kernel
theorem dX3_lead_112 : decode cX3_lead 112 = .ok (.iand, 1) := by decide +kernel
theorem dX3_lead_113 : decode cX3_lead 113 = .ok (.goto 4, 3) := by decide +kernel
theorem dX3_lead_116 : decode cX3_lead 116 = .ok (.iconst 0, 1) := by decide +kernel
theorem dX3_lead_117 : decode cX3_lead 117 = .ok (.istore 11, 2) := by decide +kernel
theorem dX3_lead_119 : decode cX3_lead 119 = .ok (.iload 10, 2) := by decide +kernel
theorem dX3_lead_121 : decode cX3_lead 121 = .ok (.bipush 11, 2) := by decide +kernel
theorem dX3_lead_123 : decode cX3_lead 123 = .ok (.if_icmp .ge 7, 3) := by decide +kernel
theorem dX3_lead_126 : decode cX3_lead 126 = .ok (.iconst 0, 1) := by decide +kernel
theorem dX3_lead_127 : decode cX3_lead 127 = .ok (.goto 13, 3) := by decide +kernel
theorem dX3_lead_130 : decode cX3_lead 130 = .ok (.iconst 1, 1) := by decide +kernel
theorem dX3_lead_131 : decode cX3_lead 131 = .ok (.iload 10, 2) := by decide +kernel
theorem dX3_lead_133 : decode cX3_lead 133 = .ok (.bipush 11, 2) := by decide +kernel
theorem dX3_lead_135 : decode cX3_lead 135 = .ok (.isub, 1) := by decide +kernel
theorem dX3_lead_136 : decode cX3_lead 136 = .ok (.ishl, 1) := by decide +kernel
theorem dX3_lead_137 : decode cX3_lead 137 = .ok (.iload 7, 2) := by decide +kernel
theorem dX3_lead_139 : decode cX3_lead 139 = .ok (.iand, 1) := by decide +kernel
theorem dX3_lead_140 : decode cX3_lead 140 = .ok (.istore 12, 2) := by decide +kernel
theorem dX3_lead_142 : decode cX3_lead 142 = .ok (.iload 10, 2) := by decide +kernel
theorem dX3_lead_144 : decode cX3_lead 144 = .ok (.ifCond .eq 11, 3) := by decide +kernel
theorem dX3_lead_147 : decode cX3_lead 147 = .ok (.iload 11, 2) := by decide +kernel
theorem dX3_lead_149 : decode cX3_lead 149 = .ok (.iload 12, 2) := by decide +kernel
theorem dX3_lead_151 : decode cX3_lead 151 = .ok (.ior, 1) := by decide +kernel
theorem dX3_lead_152 : decode cX3_lead 152 = .ok (.ifCond .eq 65, 3) := by decide +kernel
theorem dX3_lead_155 : decode cX3_lead 155 = .ok (.aload_n 0, 1) := by decide +kernel
theorem dX3_lead_156 : decode cX3_lead 156 = .ok (.iload 10, 2) := by decide +kernel
theorem dX3_lead_158 : decode cX3_lead 158 = .ok (.invokevirtual 63, 3) := by decide +kernel
theorem dX3_lead_161 : decode cX3_lead 161 = .ok (.istore 13, 2) := by decide +kernel
theorem dX3_lead_163 : decode cX3_lead 163 = .ok (.iload 13, 2) := by decide +kernel
theorem dX3_lead_165 : decode cX3_lead 165 = .ok (.iload 4, 2) := by decide +kernel
theorem dX3_lead_167 : decode cX3_lead 167 = .ok (.iload 8, 2) := by decide +kernel
theorem dX3_lead_169 : decode cX3_lead 169 = .ok (.invokestatic 66, 3) := by decide +kernel
theorem dX3_lead_172 : decode cX3_lead 172 = .ok (.isub, 1) := by decide +kernel
theorem dX3_lead_173 : decode cX3_lead 173 = .ok (.istore 14, 2) := by decide +kernel
theorem dX3_lead_175 : decode cX3_lead 175 = .ok (.iload 13, 2) := by decide +kernel
theorem dX3_lead_177 : decode cX3_lead 177 = .ok (.aload_n 0, 1) := by decide +kernel
theorem dX3_lead_178 : decode cX3_lead 178 = .ok (.iload_n 1, 1) := by decide +kernel
theorem dX3_lead_179 : decode cX3_lead 179 = .ok (.iconst 1, 1) := by decide +kernel
theorem dX3_lead_180 : decode cX3_lead 180 = .ok (.isub, 1) := by decide +kernel
theorem dX3_lead_181 : decode cX3_lead 181 = .ok (.iload_n 2, 1) := by decide +kernel
theorem dX3_lead_182 : decode cX3_lead 182 = .ok (.iload 12, 2) := by decide +kernel
theorem dX3_lead_184 : decode cX3_lead 184 = .ok (.ior, 1) := by decide +kernel
theorem dX3_lead_185 : decode cX3_lead 185 = .ok (.iload_n 3, 1) := by decide +kernel
theorem dX3_lead_186 : decode cX3_lead 186 = .ok (.iload 11, 2) := by decide +kernel
theorem dX3_lead_188 : decode cX3_lead 188 = .ok (.ior, 1) := by decide +kernel
theorem dX3_lead_189 : decode cX3_lead 189 = .ok (.iload 13, 2) := by decide +kernel
theorem dX3_lead_191 : decode cX3_lead 191 = .ok (.iload 5, 2) := by decide +kernel
theorem dX3_lead_193 : decode cX3_lead 193 = .ok (.isub, 1) := by decide +kernel
theorem dX3_lead_194 : decode cX3_lead 194 = .ok (.iload 14, 2) := by decide +kernel
theorem dX3_lead_196 : decode cX3_lead 196 = .ok (.invokestatic 46, 3) := by decide +kernel
theorem dX3_lead_199 : decode cX3_lead 199 = .ok (.isub, 1) := by decide +kernel
theorem dX3_lead_200 : decode cX3_lead 200 = .ok (.istore 15, 2) := by decide +kernel
theorem dX3_lead_202 : decode cX3_lead 202 = .ok (.iload 15, 2) := by decide +kernel
theorem dX3_lead_204 : decode cX3_lead 204 = .ok (.iload 8, 2) := by decide +kernel
theorem dX3_lead_206 : decode cX3_lead 206 = .ok (.if_icmp .le 11, 3) := by decide +kernel
theorem dX3_lead_209 : decode cX3_lead 209 = .ok (.iload 15, 2) := by decide +kernel
theorem dX3_lead_211 : decode cX3_lead 211 = .ok (.istore 8, 2) := by decide +kernel
theorem dX3_lead_213 : decode cX3_lead 213 = .ok (.iload 10, 2) := by decide +kernel
theorem dX3_lead_215 : decode cX3_lead 215 = .ok (.istore 9, 2) := by decide +kernel
theorem dX3_lead_217 : decode cX3_lead 217 = .ok (.iinc 10 1, 3) := by decide +kernel
theorem dX3_lead_220 : decode cX3_lead 220 = .ok (.goto (-137), 3) := by decide +kernel
theorem dX3_lead_223 : decode cX3_lead 223 = .ok (.aload_n 0, 1) := by decide +kernel
theorem dX3_lead_224 : decode cX3_lead 224 = .ok (.iload 9, 2) := by decide +kernel
theorem dX3_lead_226 : decode cX3_lead 226 = .ok (.putfield 53, 3) := by decide +kernel
theorem dX3_lead_229 : decode cX3_lead 229 = .ok (.iload 8, 2) := by decide +kernel
theorem dX3_lead_231 : decode cX3_lead 231 = .ok (.ireturn, 1) := by decide +kernel
theorem dX3_leadByLastTurn_0 : decode cX3_leadByLastTurn 0 = .ok (.iconst 0, 1) := by decide +kernel
theorem dX3_leadByLastTurn_1 : decode cX3_leadByLastTurn 1 = .ok (.istore_n 2, 1) := by decide +kernel
theorem dX3_leadByLastTurn_2 : decode cX3_leadByLastTurn 2 = .ok (.aload_n 0, 1) := by decide +kernel
theorem dX3_leadByLastTurn_3 : decode cX3_leadByLastTurn 3 = .ok (.iconst 0, 1) := by decide +kernel
theorem dX3_leadByLastTurn_4 : decode cX3_leadByLastTurn 4 = .ok (.putfield 53, 3) := by decide +kernel
theorem dX3_leadByLastTurn_7 : decode cX3_leadByLastTurn 7 = .ok (.iconst 0, 1) := by decide +kernel
theorem dX3_leadByLastTurn_8 : decode cX3_leadByLastTurn 8 = .ok (.istore_n 3, 1) := by decide +kernel
theorem dX3_leadByLastTurn_9 : decode cX3_leadByLastTurn 9 = .ok (.iload_n 3, 1) := by decide +kernel
theorem dX3_leadByLastTurn_10 : decode cX3_leadByLastTurn 10 = .ok (.bipush 8, 2) := by decide +kernel
theorem dX3_leadByLastTurn_12 : decode cX3_leadByLastTurn 12 = .ok (.if_icmp .ge 45, 3) := by decide +kernel
theorem dX3_leadByLastTurn_15 : decode cX3_leadByLastTurn 15 = .ok (.iload_n 1, 1) := by decide +kernel
theorem dX3_leadByLastTurn_16 : decode cX3_leadByLastTurn 16 = .ok (.iconst 1, 1) := by decide +kernel
theorem dX3_leadByLastTurn_17 : decode cX3_leadByLastTurn 17 = .ok (.iload_n 3, 1) := by decide +kernel
theorem dX3_leadByLastTurn_18 : decode cX3_leadByLastTurn 18 = .ok (.ishl, 1) := by decide +kernel
theorem dX3_leadByLastTurn_19 : decode cX3_leadByLastTurn 19 = .ok (.iand, 1) := by decide +kernel
theorem dX3_leadByLastTurn_20 : decode cX3_leadByLastTurn 20 = .ok (.ifCond .eq 31, 3) := by decide +kernel
theorem dX3_leadByLastTurn_23 : decode cX3_leadByLastTurn 23 = .ok (.aload_n 0, 1) := by decide +kernel
theorem dX3_leadByLastTurn_24 : decode cX3_leadByLastTurn 24 = .ok (.getfield 14, 3) := by decide +kernel
theorem dX3_leadByLastTurn_27 : decode cX3_leadByLastTurn 27 = .ok (.iload_n 3, 1) := by decide +kernel
theorem dX3_leadByLastTurn_28 : decode cX3_leadByLastTurn 28 = .ok (.invokevirtual 72, 3) := by decide +kernel
theorem dX3_leadByLastTurn_31 : decode cX3_leadByLastTurn 31 = .ok (.iload_n 2, 1) := by decide +kernel
theorem dX3_leadByLastTurn_32 : decode cX3_leadByLastTurn 32 = .ok (.if_icmp .le 19, 3) := by decide +kernel
theorem dX3_leadByLastTurn_35 : decode cX3_leadByLastTurn 35 = .ok (.aload_n 0, 1) := by decide +kernel
theorem dX3_leadByLastTurn_36 : decode cX3_leadByLastTurn 36 = .ok (.getfield 14, 3) := by decide +kernel
theorem dX3_leadByLastTurn_39 : decode cX3_leadByLastTurn 39 = .ok (.iload_n 3, 1) := by decide +kernel
theorem dX3_leadByLastTurn_40 : decode cX3_leadByLastTurn 40 = .ok (.invokevirtual 72, 3) := by decide +kernel
theorem dX3_leadByLastTurn_43 : decode cX3_leadByLastTurn 43 = .ok (.istore_n 2, 1) := by decide +kernel
theorem dX3_leadByLastTurn_44 : decode cX3_leadByLastTurn 44 = .ok (.aload_n 0, 1) := by decide +kernel
theorem dX3_leadByLastTurn_45 : decode cX3_leadByLastTurn 45 = .ok (.iconst 1, 1) := by decide +kernel
theorem dX3_leadByLastTurn_46 : decode cX3_leadByLastTurn 46 = .ok (.iload_n 3, 1) := by decide +kernel
theorem dX3_leadByLastTurn_47 : decode cX3_leadByLastTurn 47 = .ok (.iadd, 1) := by decide +kernel
theorem dX3_leadByLastTurn_48 : decode cX3_leadByLastTurn 48 = .ok (.putfield 53, 3) := by decide +kernel
theorem dX3_leadByLastTurn_51 : decode cX3_leadByLastTurn 51 = .ok (.iinc 3 1, 3) := by decide +kernel
theorem dX3_leadByLastTurn_54 : decode cX3_leadByLastTurn 54 = .ok (.goto (-45), 3) := by decide +kernel
theorem dX3_leadByLastTurn_57 : decode cX3_leadByLastTurn 57 = .ok (.iload_n 2, 1) := by decide +kernel
theorem dX3_leadByLastTurn_58 : decode cX3_leadByLastTurn 58 = .ok (.ireturn, 1) := by decide +kernel
theorem dX3_gainOf_0 : decode cX3_gainOf 0 = .ok (.iload_n 1, 1) := by decide +kernel
theorem dX3_gainOf_1 : decode cX3_gainOf 1 = .ok (.bipush 11, 2) := by decide +kernel
theorem dX3_gainOf_3 : decode cX3_gainOf 3 = .ok (.if_icmp .lt 16, 3) := by decide +kernel
theorem dX3_gainOf_6 : decode cX3_gainOf 6 = .ok (.aload_n 0, 1) := by decide +kernel
theorem dX3_gainOf_7 : decode cX3_gainOf 7 = .ok (.getfield 14, 3) := by decide +kernel
theorem dX3_gainOf_10 : decode cX3_gainOf 10 = .ok (.iload_n 1, 1) := by decide +kernel
theorem dX3_gainOf_11 : decode cX3_gainOf 11 = .ok (.bipush 11, 2) := by decide +kernel
theorem dX3_gainOf_13 : decode cX3_gainOf 13 = .ok (.isub, 1) := by decide +kernel
theorem dX3_gainOf_14 : decode cX3_gainOf 14 = .ok (.invokevirtual 75, 3) := by decide +kernel
theorem dX3_gainOf_17 : decode cX3_gainOf 17 = .ok (.ineg, 1) := by decide +kernel
theorem dX3_gainOf_18 : decode cX3_gainOf 18 = .ok (.ireturn, 1) := by decide +kernel
theorem dX3_gainOf_19 : decode cX3_gainOf 19 = .ok (.iload_n 1, 1) := by decide +kernel
theorem dX3_gainOf_20 : decode cX3_gainOf 20 = .ok (.iconst 1, 1) := by decide +kernel
theorem dX3_gainOf_21 : decode cX3_gainOf 21 = .ok (.if_icmp .lt 16, 3) := by decide +kernel
theorem dX3_gainOf_24 : decode cX3_gainOf 24 = .ok (.aload_n 0, 1) := by decide +kernel
theorem dX3_gainOf_25 : decode cX3_gainOf 25 = .ok (.getfield 14, 3) := by decide +kernel
theorem dX3_gainOf_28 : decode cX3_gainOf 28 = .ok (.iload_n 1, 1) := by decide +kernel
theorem dX3_gainOf_29 : decode cX3_gainOf 29 = .ok (.iconst 1, 1) := by decide +kernel
theorem dX3_gainOf_30 : decode cX3_gainOf 30 = .ok (.isub, 1) := by decide +kernel
theorem dX3_gainOf_31 : decode cX3_gainOf 31 = .ok (.invokevirtual 72, 3) := by decide +kernel
theorem dX3_gainOf_34 : decode cX3_gainOf 34 = .ok (.goto 4, 3) := by decide +kernel
theorem dX3_gainOf_37 : decode cX3_gainOf 37 = .ok (.iconst 0, 1) := by decide +kernel
theorem dX3_gainOf_38 : decode cX3_gainOf 38 = .ok (.ireturn, 1) := by decide +kernel
theorem dX4_init_0 : decode cX4_init 0 = .ok (.aload_n 0, 1) := by decide +kernel
theorem dX4_init_1 : decode cX4_init 1 = .ok (.invokespecial 3, 3) := by decide +kernel
theorem dX4_init_4 : decode cX4_init 4 = .ok (.aload_n 0, 1) := by decide +kernel
theorem dX4_init_5 : decode cX4_init 5 = .ok (.new 9, 3) := by decide +kernel
theorem dX4_init_8 : decode cX4_init 8 = .ok (.dup, 1) := by decide +kernel
theorem dX4_init_9 : decode cX4_init 9 = .ok (.invokespecial 11, 3) := by decide +kernel
theorem dX4_init_12 : decode cX4_init 12 = .ok (.putfield 12, 3) := by decide +kernel
theorem dX4_init_15 : decode cX4_init 15 = .ok (.aload_n 0, 1) := by decide +kernel
theorem dX4_init_16 : decode cX4_init 16 = .ok (.iconst 3, 1) := by decide +kernel
theorem dX4_init_17 : decode cX4_init 17 = .ok (.newarray .int, 2) := by decide +kernel
theorem dX4_init_19 : decode cX4_init 19 = .ok (.putfield 18, 3) := by decide +kernel
theorem dX4_init_22 : decode cX4_init 22 = .ok (.aload_n 0, 1) := by decide +kernel
theorem dX4_init_23 : decode cX4_init 23 = .ok (.iconst 3, 1) := by decide +kernel
theorem dX4_init_24 : decode cX4_init 24 = .ok (.sipush 256, 3) := by decide +kernel
theorem dX4_init_27 : decode cX4_init 27 = .ok (.multianewarray 22 2, 4) := by decide +kernel
theorem dX4_init_31 : decode cX4_init 31 = .ok (.putfield 24, 3) := by decide +kernel
theorem dX4_init_34 : decode cX4_init 34 = .ok (.aload_n 0, 1) := by decide +kernel
theorem dX4_init_35 : decode cX4_init 35 = .ok (.iconst 3, 1) := by decide +kernel
theorem dX4_init_36 : decode cX4_init 36 = .ok (.bipush 81, 2) := by decide +kernel
theorem dX4_init_38 : decode cX4_init 38 = .ok (.multianewarray 22 2, 4) := by decide +kernel
theorem dX4_init_42 : decode cX4_init 42 = .ok (.putfield 27, 3) := by decide +kernel
theorem dX4_init_45 : decode cX4_init 45 = .ok (.return_, 1) := by decide +kernel
theorem dX4_weigh_0 : decode cX4_weigh 0 = .ok (.aload_n 0, 1) := by decide +kernel
theorem dX4_weigh_1 : decode cX4_weigh 1 = .ok (.getfield 12, 3) := by decide +kernel
theorem dX4_weigh_4 : decode cX4_weigh 4 = .ok (.aload_n 1, 1) := by decide +kernel
theorem dX4_weigh_5 : decode cX4_weigh 5 = .ok (.invokevirtual 30, 3) := by decide +kernel
theorem dX4_weigh_8 : decode cX4_weigh 8 = .ok (.iconst 0, 1) := by decide +kernel
theorem dX4_weigh_9 : decode cX4_weigh 9 = .ok (.istore_n 2, 1) := by decide +kernel
theorem dX4_weigh_10 : decode cX4_weigh 10 = .ok (.iload_n 2, 1) := by decide +kernel
theorem dX4_weigh_11 : decode cX4_weigh 11 = .ok (.iconst 3, 1) := by decide +kernel
theorem dX4_weigh_12 : decode cX4_weigh 12 = .ok (.if_icmp .ge 15, 3) := by decide +kernel
theorem dX4_weigh_15 : decode cX4_weigh 15 = .ok (.aload_n 0, 1) := by decide +kernel
theorem dX4_weigh_16 : decode cX4_weigh 16 = .ok (.aload_n 1, 1) := by decide +kernel
theorem dX4_weigh_17 : decode cX4_weigh 17 = .ok (.iload_n 2, 1) := by decide +kernel
theorem dX4_weigh_18 : decode cX4_weigh 18 = .ok (.invokevirtual 34, 3) := by decide +kernel
theorem dX4_weigh_21 : decode cX4_weigh 21 = .ok (.iinc 2 1, 3) := by decide +kernel
theorem dX4_weigh_24 : decode cX4_weigh 24 = .ok (.goto (-14), 3) := by decide +kernel
theorem dX4_weigh_27 : decode cX4_weigh 27 = .ok (.aload_n 0, 1) := by decide +kernel
theorem dX4_weigh_28 : decode cX4_weigh 28 = .ok (.iconst 0, 1) := by decide +kernel
theorem dX4_weigh_29 : decode cX4_weigh 29 = .ok (.putfield 37, 3) := by decide +kernel
theorem dX4_weigh_32 : decode cX4_weigh 32 = .ok (.aload_n 0, 1) := by decide +kernel
theorem dX4_weigh_33 : decode cX4_weigh 33 = .ok (.bipush (-9), 2) := by decide +kernel
theorem dX4_weigh_35 : decode cX4_weigh 35 = .ok (.putfield 41, 3) := by decide +kernel
theorem dX4_weigh_38 : decode cX4_weigh 38 = .ok (.aload_n 0, 1) := by decide +kernel
theorem dX4_weigh_39 : decode cX4_weigh 39 = .ok (.iconst 0, 1) := by decide +kernel
theorem dX4_weigh_40 : decode cX4_weigh 40 = .ok (.invokevirtual 44, 3) := by decide +kernel
theorem dX4_weigh_43 : decode cX4_weigh 43 = .ok (.aload_n 0, 1) := by decide +kernel
theorem dX4_weigh_44 : decode cX4_weigh 44 = .ok (.iconst 1, 1) := by decide +kernel
theorem dX4_weigh_45 : decode cX4_weigh 45 = .ok (.invokevirtual 44, 3) := by decide +kernel
theorem dX4_weigh_48 : decode cX4_weigh 48 = .ok (.return_, 1) := by decide +kernel
theorem dX4_firstChoice_0 : decode cX4_firstChoice 0 = .ok (.aload_n 0, 1) := by decide +kernel
theorem dX4_firstChoice_1 : decode cX4_firstChoice 1 = .ok (.getfield 41, 3) := by decide +kernel
theorem dX4_firstChoice_4 : decode cX4_firstChoice 4 = .ok (.ifCond .ge 6, 3) := by decide +kernel
theorem dX4_firstChoice_7 : decode cX4_firstChoice 7 = .ok (.bipush (-9), 2) := by decide +kernel
theorem dX4_firstChoice_9 : decode cX4_firstChoice 9 = .ok (.ireturn, 1) := by decide +kernel
theorem dX4_firstChoice_10 : decode cX4_firstChoice 10 = .ok (.aload_n 0, 1) := by decide +kernel
theorem dX4_firstChoice_11 : decode cX4_firstChoice 11 = .ok (.getfield 41, 3) := by decide +kernel
theorem dX4_firstChoice_14 : decode cX4_firstChoice 14 = .ok (.bipush 9, 2) := by decide +kernel
theorem dX4_firstChoice_16 : decode cX4_firstChoice 16 = .ok (.irem, 1) := by decide +kernel
theorem dX4_firstChoice_17 : decode cX4_firstChoice 17 = .ok (.istore_n 2, 1) := by decide +kernel
theorem dX4_firstChoice_18 : decode cX4_firstChoice 18 = .ok (.iload_n 1, 1) := by decide +kernel
theorem dX4_firstChoice_19 : decode cX4_firstChoice 19 = .ok (.ifCond .ne 14, 3) := by decide +kernel
theorem dX4_firstChoice_22 : decode cX4_firstChoice 22 = .ok (.aload_n 0, 1) := by decide +kernel
theorem dX4_firstChoice_23 : decode cX4_firstChoice 23 = .ok (.getfield 41, 3) := by decide +kernel
theorem dX4_firstChoice_26 : decode cX4_firstChoice 26 = .ok (.bipush 81, 2) := by decide +kernel
theorem dX4_firstChoice_28 : decode cX4_firstChoice 28 = .ok (.idiv, 1) := by decide +kernel
theorem dX4_firstChoice_29 : decode cX4_firstChoice 29 = .ok (.istore_n 2, 1) := by decide +kernel
theorem dX4_firstChoice_30 : decode cX4_firstChoice 30 = .ok (.goto 19, 3) := by decide +kernel
theorem dX4_firstChoice_33 : decode cX4_firstChoice 33 = .ok (.iload_n 1, 1) := by decide +kernel
theorem dX4_firstChoice_34 : decode cX4_firstChoice 34 = .ok (.iconst 1, 1) := by decide +kernel
theorem dX4_firstChoice_35 : decode cX4_firstChoice 35 = .ok (.if_icmp .ne 14, 3) := by decide +kernel
theorem dX4_firstChoice_38 : decode cX4_firstChoice 38 = .ok (.aload_n 0, 1) := by decide +kernel
theorem dX4_firstChoice_39 : decode cX4_firstChoice 39 = .ok (.getfield 41, 3) := by decide +kernel
theorem dX4_firstChoice_42 : decode cX4_firstChoice 42 = .ok (.bipush 9, 2) := by decide +kernel
theorem dX4_firstChoice_44 : decode cX4_firstChoice 44 = .ok (.idiv, 1) := by decide +kernel
theorem dX4_firstChoice_45 : decode cX4_firstChoice 45 = .ok (.bipush 9, 2) := by decide +kernel
theorem dX4_firstChoice_47 : decode cX4_firstChoice 47 = .ok (.irem, 1) := by decide +kernel
theorem dX4_firstChoice_48 : decode cX4_firstChoice 48 = .ok (.istore_n 2, 1) := by decide +kernel
theorem dX4_firstChoice_49 : decode cX4_firstChoice 49 = .ok (.iload_n 2, 1) := by decide +kernel
theorem dX4_firstChoice_50 : decode cX4_firstChoice 50 = .ok (.ifCond .ne 8, 3) := by decide +kernel
theorem dX4_firstChoice_53 : decode cX4_firstChoice 53 = .ok (.bipush (-9), 2) := by decide +kernel
theorem dX4_firstChoice_55 : decode cX4_firstChoice 55 = .ok (.goto 6, 3) := by decide +kernel
theorem dX4_firstChoice_58 : decode cX4_firstChoice 58 = .ok (.iload_n 2, 1) := by decide +kernel
theorem dX4_firstChoice_59 : decode cX4_firstChoice 59 = .ok (.iconst 1, 1) := by decide +kernel
theorem dX4_firstChoice_60 : decode cX4_firstChoice 60 = .ok (.isub, 1) := by decide +kernel
theorem dX4_firstChoice_61 : decode cX4_firstChoice 61 = .ok (.ireturn, 1) := by decide +kernel
theorem dX4_learn_0 : decode cX4_learn 0 = .ok (.aload_n 1, 1) := by decide +kernel
theorem dX4_learn_1 : decode cX4_learn 1 = .ok (.invokevirtual 48, 3) := by decide +kernel
theorem dX4_learn_4 : decode cX4_learn 4 = .ok (.istore_n 3, 1) := by decide +kernel
theorem dX4_learn_5 : decode cX4_learn 5 = .ok (.iload_n 3, 1) := by decide +kernel
theorem dX4_learn_6 : decode cX4_learn 6 = .ok (.aload_n 1, 1) := by decide +kernel
theorem dX4_learn_7 : decode cX4_learn 7 = .ok (.invokevirtual 54, 3) := by decide +kernel
theorem dX4_learn_10 : decode cX4_learn 10 = .ok (.iand, 1) := by decide +kernel
theorem dX4_learn_11 : decode cX4_learn 11 = .ok (.istore 4, 2) := by decide +kernel
theorem dX4_learn_13 : decode cX4_learn 13 = .ok (.iconst 0, 1) := by decide +kernel
theorem dX4_learn_14 : decode cX4_learn 14 = .ok (.istore 5, 2) := by decide +kernel
theorem dX4_learn_16 : decode cX4_learn 16 = .ok (.iconst 0, 1) := by decide +kernel
theorem dX4_learn_17 : decode cX4_learn 17 = .ok (.istore 6, 2) := by decide +kernel
theorem dX4_learn_19 : decode cX4_learn 19 = .ok (.iload 6, 2) := by decide +kernel
theorem dX4_learn_21 : decode cX4_learn 21 = .ok (.aload_n 1, 1) := by decide +kernel
theorem dX4_learn_22 : decode cX4_learn 22 = .ok (.getfield 57, 3) := by decide +kernel
theorem dX4_learn_25 : decode cX4_learn 25 = .ok (.if_icmp .ge 33, 3) := by decide +kernel
theorem dX4_learn_28 : decode cX4_learn 28 = .ok (.iload 5, 2) := by decide +kernel
theorem dX4_learn_30 : decode cX4_learn 30 = .ok (.aload_n 1, 1) := by decide +kernel
theorem dX4_learn_31 : decode cX4_learn 31 = .ok (.iload 6, 2) := by decide +kernel
theorem dX4_learn_33 : decode cX4_learn 33 = .ok (.iconst 4, 1) := by decide +kernel
theorem dX4_learn_34 : decode cX4_learn 34 = .ok (.invokevirtual 60, 3) := by decide +kernel
theorem dX4_learn_37 : decode cX4_learn 37 = .ok (.iload_n 2, 1) := by decide +kernel
theorem dX4_learn_38 : decode cX4_learn 38 = .ok (.if_icmp .ne 10, 3) := by decide +kernel
theorem dX4_learn_41 : decode cX4_learn 41 = .ok (.iconst 1, 1) := by decide +kernel
theorem dX4_learn_42 : decode cX4_learn 42 = .ok (.iload 6, 2) := by decide +kernel
theorem dX4_learn_44 : decode cX4_learn 44 = .ok (.ishl, 1) := by decide +kernel
theorem dX4_learn_45 : decode cX4_learn 45 = .ok (.goto 4, 3) := by decide +kernel
theorem dX4_learn_48 : decode cX4_learn 48 = .ok (.iconst 0, 1) := by decide +kernel
theorem dX4_learn_49 : decode cX4_learn 49 = .ok (.ior, 1) := by decide +kernel
theorem dX4_learn_50 : decode cX4_learn 50 = .ok (.istore 5, 2) := by decide +kernel
theorem dX4_learn_52 : decode cX4_learn 52 = .ok (.iinc 6 1, 3) := by decide +kernel
theorem dX4_learn_55 : decode cX4_learn 55 = .ok (.goto (-36), 3) := by decide +kernel
theorem dX4_learn_58 : decode cX4_learn 58 = .ok (.aload_n 0, 1) := by decide +kernel
theorem dX4_learn_59 : decode cX4_learn 59 = .ok (.getfield 18, 3) := by decide +kernel
theorem dX4_learn_62 : decode cX4_learn 62 = .ok (.iload_n 2, 1) := by decide +kernel
theorem dX4_learn_63 : decode cX4_learn 63 = .ok (.iload 4, 2) := by decide +kernel
theorem dX4_learn_65 : decode cX4_learn 65 = .ok (.iload 5, 2) := by decide +kernel
theorem dX4_learn_67 : decode cX4_learn 67 = .ok (.iconst (-1), 1) := by decide +kernel
theorem dX4_learn_68 : decode cX4_learn 68 = .ok (.ixor, 1) := by decide +kernel
theorem dX4_learn_69 : decode cX4_learn 69 = .ok (.iand, 1) := by decide +kernel
theorem dX4_learn_70 : decode cX4_learn 70 = .ok (.iconst 1, 1) := by decide +kernel
theorem dX4_learn_71 : decode cX4_learn 71 = .ok (.ishl, 1) := by decide +kernel
theorem dX4_learn_72 : decode cX4_learn 72 = .ok (.iconst 1, 1) := by decide +kernel
theorem dX4_learn_73 : decode cX4_learn 73 = .ok (.ior, 1) := by decide +kernel
theorem dX4_learn_74 : decode cX4_learn 74 = .ok (.iastore, 1) := by decide +kernel
theorem dX4_learn_75 : decode cX4_learn 75 = .ok (.iconst 0, 1) := by decide +kernel
theorem dX4_learn_76 : decode cX4_learn 76 = .ok (.istore 6, 2) := by decide +kernel
theorem dX4_learn_78 : decode cX4_learn 78 = .ok (.iload 6, 2) := by decide +kernel
theorem dX4_learn_80 : decode cX4_learn 80 = .ok (.aload_n 0, 1) := by decide +kernel
theorem dX4_learn_81 : decode cX4_learn 81 = .ok (.getfield 24, 3) := by decide +kernel
theorem dX4_learn_84 : decode cX4_learn 84 = .ok (.iload_n 2, 1) := by decide +kernel
theorem dX4_learn_85 : decode cX4_learn 85 = .ok (.aaload, 1) := by decide +kernel
theorem dX4_learn_86 : decode cX4_learn 86 = .ok (.arraylength, 1) := by decide +kernel
theorem dX4_learn_87 : decode cX4_learn 87 = .ok (.if_icmp .ge 52, 3) := by decide +kernel
theorem dX4_learn_90 : decode cX4_learn 90 = .ok (.iload 6, 2) := by decide +kernel
theorem dX4_learn_92 : decode cX4_learn 92 = .ok (.iload 4, 2) := by decide +kernel
theorem dX4_learn_94 : decode cX4_learn 94 = .ok (.iconst (-1), 1) := by decide +kernel
theorem dX4_learn_95 : decode cX4_learn 95 = .ok (.ixor, 1) := by decide +kernel
theorem dX4_learn_96 : decode cX4_learn 96 = .ok (.iand, 1) := by decide +kernel
theorem dX4_learn_97 : decode cX4_learn 97 = .ok (.ifCond .ne 36, 3) := by decide +kernel
theorem dX4_learn_100 : decode cX4_learn 100 = .ok (.iload 6, 2) := by decide +kernel
theorem dX4_learn_102 : decode cX4_learn 102 = .ok (.invokestatic 64, 3) := by decide +kernel
theorem dX4_learn_105 : decode cX4_learn 105 = .ok (.iconst 3, 1) := by decide +kernel
theorem dX4_learn_106 : decode cX4_learn 106 = .ok (.if_icmp .gt 27, 3) := by decide +kernel
theorem dX4_learn_109 : decode cX4_learn 109 = .ok (.aload_n 0, 1) := by decide +kernel
theorem dX4_learn_110 : decode cX4_learn 110 = .ok (.getfield 24, 3) := by decide +kernel
theorem dX4_learn_113 : decode cX4_learn 113 = .ok (.iload_n 2, 1) := by decide +kernel
theorem dX4_learn_114 : decode cX4_learn 114 = .ok (.aaload, 1) := by decide +kernel
theorem dX4_learn_115 : decode cX4_learn 115 = .ok (.iload 6, 2) := by decide +kernel
theorem dX4_learn_117 : decode cX4_learn 117 = .ok (.aload_n 0, 1) := by decide +kernel
theorem dX4_learn_118 : decode cX4_learn 118 = .ok (.getfield 12, 3) := by decide +kernel
theorem dX4_learn_121 : decode cX4_learn 121 = .ok (.iload 5, 2) := by decide +kernel
theorem dX4_learn_123 : decode cX4_learn 123 = .ok (.iload_n 3, 1) := by decide +kernel
theorem dX4_learn_124 : decode cX4_learn 124 = .ok (.iload 6, 2) := by decide +kernel
theorem dX4_learn_126 : decode cX4_learn 126 = .ok (.iconst (-1), 1) := by decide +kernel
theorem dX4_learn_127 : decode cX4_learn 127 = .ok (.ixor, 1) := by decide +kernel
theorem dX4_learn_128 : decode cX4_learn 128 = .ok (.iand, 1) := by decide +kernel
theorem dX4_learn_129 : decode cX4_learn 129 = .ok (.invokevirtual 70, 3) := by decide +kernel
theorem dX4_learn_132 : decode cX4_learn 132 = .ok (.iastore, 1) := by decide +kernel
theorem dX4_learn_133 : decode cX4_learn 133 = .ok (.iinc 6 1, 3) := by decide +kernel
theorem dX4_learn_136 : decode cX4_learn 136 = .ok (.goto (-58), 3) := by decide +kernel
theorem dX4_learn_139 : decode cX4_learn 139 = .ok (.iconst 0, 1) := by decide +kernel
theorem dX4_learn_140 : decode cX4_learn 140 = .ok (.istore 6, 2) := by decide +kernel
theorem dX4_learn_142 : decode cX4_learn 142 = .ok (.iload 6, 2) := by decide +kernel
theorem dX4_learn_144 : decode cX4_learn 144 = .ok (.aload_n 0, 1) := by decide +kernel
theorem dX4_learn_145 : decode cX4_learn 145 = .ok (.getfield 27, 3) := by decide +kernel
theorem dX4_learn_148 : decode cX4_learn 148 = .ok (.iload_n 2, 1) := by decide +kernel
theorem dX4_learn_149 : decode cX4_learn 149 = .ok (.aaload, 1) := by decide +kernel
theorem dX4_learn_150 : decode cX4_learn 150 = .ok (.arraylength, 1) := by decide +kernel
theorem dX4_learn_151 : decode cX4_learn 151 = .ok (.if_icmp .ge 21, 3) := by decide +kernel
theorem dX4_learn_154 : decode cX4_learn 154 = .ok (.aload_n 0, 1) := by decide +kernel
theorem dX4_learn_155 : decode cX4_learn 155 = .ok (.getfield 27, 3) := by decide +kernel
theorem dX4_learn_158 : decode cX4_learn 158 = .ok (.iload_n 2, 1) := by decide +kernel
theorem dX4_learn_159 : decode cX4_learn 159 = .ok (.aaload, 1) := by decide +kernel
theorem dX4_learn_160 : decode cX4_learn 160 = .ok (.iload 6, 2) := by decide +kernel
theorem dX4_learn_162 : decode cX4_learn 162 = .ok (.sipush (-1000), 3) := by decide +kernel
theorem dX4_learn_165 : decode cX4_learn 165 = .ok (.iastore, 1) := by decide +kernel
theorem dX4_learn_166 : decode cX4_learn 166 = .ok (.iinc 6 1, 3) := by decide +kernel
theorem dX4_learn_169 : decode cX4_learn 169 = .ok (.goto (-27), 3) := by decide +kernel
theorem dX4_learn_172 : decode cX4_learn 172 = .ok (.return_, 1) := by decide +kernel
theorem dX4_goThrough_0 : decode cX4_goThrough 0 = .ok (.iconst 0, 1) := by decide +kernel
theorem dX4_goThrough_1 : decode cX4_goThrough 1 = .ok (.istore_n 2, 1) := by decide +kernel
theorem dX4_goThrough_2 : decode cX4_goThrough 2 = .ok (.iload_n 2, 1) := by decide +kernel
theorem dX4_goThrough_3 : decode cX4_goThrough 3 = .ok (.bipush 9, 2) := by decide +kernel
theorem dX4_goThrough_5 : decode cX4_goThrough 5 = .ok (.if_icmp .ge 116, 3) := by decide +kernel
theorem dX4_goThrough_8 : decode cX4_goThrough 8 = .ok (.iconst 0, 1) := by decide +kernel
theorem dX4_goThrough_9 : decode cX4_goThrough 9 = .ok (.istore_n 3, 1) := by decide +kernel
theorem dX4_goThrough_10 : decode cX4_goThrough 10 = .ok (.iload_n 3, 1) := by decide +kernel
theorem dX4_goThrough_11 : decode cX4_goThrough 11 = .ok (.bipush 9, 2) := by decide +kernel
theorem dX4_goThrough_13 : decode cX4_goThrough 13 = .ok (.if_icmp .ge 102, 3) := by decide +kernel
theorem dX4_goThrough_16 : decode cX4_goThrough 16 = .ok (.iconst 0, 1) := by decide +kernel
theorem dX4_goThrough_17 : decode cX4_goThrough 17 = .ok (.istore 4, 2) := by decide +kernel
theorem dX4_goThrough_19 : decode cX4_goThrough 19 = .ok (.iload 4, 2) := by decide +kernel
theorem dX4_goThrough_21 : decode cX4_goThrough 21 = .ok (.bipush 9, 2) := by decide +kernel
theorem dX4_goThrough_23 : decode cX4_goThrough 23 = .ok (.if_icmp .ge 86, 3) := by decide +kernel
theorem dX4_goThrough_26 : decode cX4_goThrough 26 = .ok (.aload_n 0, 1) := by decide +kernel
theorem dX4_goThrough_27 : decode cX4_goThrough 27 = .ok (.getfield 18, 3) := by decide +kernel
theorem dX4_goThrough_30 : decode cX4_goThrough 30 = .ok (.iconst 0, 1) := by decide +kernel
theorem dX4_goThrough_31 : decode cX4_goThrough 31 = .ok (.iaload, 1) := by decide +kernel
theorem dX4_goThrough_32 : decode cX4_goThrough 32 = .ok (.iload_n 2, 1) := by decide +kernel
theorem dX4_goThrough_33 : decode cX4_goThrough 33 = .ok (.ishr, 1) := by decide +kernel
theorem dX4_goThrough_34 : decode cX4_goThrough 34 = .ok (.aload_n 0, 1) := by decide +kernel
theorem dX4_goThrough_35 : decode cX4_goThrough 35 = .ok (.getfield 18, 3) := by decide +kernel
theorem dX4_goThrough_38 : decode cX4_goThrough 38 = .ok (.iconst 1, 1) := by decide +kernel
theorem dX4_goThrough_39 : decode cX4_goThrough 39 = .ok (.iaload, 1) := by decide +kernel
theorem dX4_goThrough_40 : decode cX4_goThrough 40 = .ok (.iload_n 3, 1) := by decide +kernel
theorem dX4_goThrough_41 : decode cX4_goThrough 41 = .ok (.ishr, 1) := by decide +kernel
theorem dX4_goThrough_42 : decode cX4_goThrough 42 = .ok (.iand, 1) := by decide +kernel
theorem dX4_goThrough_43 : decode cX4_goThrough 43 = .ok (.aload_n 0, 1) := by decide +kernel
theorem dX4_goThrough_44 : decode cX4_goThrough 44 = .ok (.getfield 18, 3) := by decide +kernel
theorem dX4_goThrough_47 : decode cX4_goThrough 47 = .ok (.iconst 2, 1) := by decide +kernel
theorem dX4_goThrough_48 : decode cX4_goThrough 48 = .ok (.iaload, 1) := by decide +kernel
theorem dX4_goThrough_49 : decode cX4_goThrough 49 = .ok (.iload 4, 2) := by decide +kernel
theorem dX4_goThrough_51 : decode cX4_goThrough 51 = .ok (.ishr, 1) := by decide +kernel
theorem dX4_goThrough_52 : decode cX4_goThrough 52 = .ok (.iand, 1) := by decide +kernel
theorem dX4_goThrough_53 : decode cX4_goThrough 53 = .ok (.iconst 1, 1) := by decide +kernel
theorem dX4_goThrough_54 : decode cX4_goThrough 54 = .ok (.iand, 1) := by decide +kernel
theorem dX4_goThrough_55 : decode cX4_goThrough 55 = .ok (.ifCond .ne 6, 3) := by decide +kernel
theorem dX4_goThrough_58 : decode cX4_goThrough 58 = .ok (.goto 45, 3) := by decide +kernel
theorem dX4_goThrough_61 : decode cX4_goThrough 61 = .ok (.iload_n 1, 1) := by decide +kernel
theorem dX4_goThrough_62 : decode cX4_goThrough 62 = .ok (.ifCond .ne 14, 3) := by decide +kernel
theorem dX4_goThrough_65 : decode cX4_goThrough 65 = .ok (.aload_n 0, 1) := by decide +kernel
theorem dX4_goThrough_66 : decode cX4_goThrough 66 = .ok (.iload_n 2, 1) := by decide +kernel
theorem dX4_goThrough_67 : decode cX4_goThrough 67 = .ok (.iload_n 3, 1) := by decide +kernel
theorem dX4_goThrough_68 : decode cX4_goThrough 68 = .ok (.iload 4, 2) := by decide +kernel
theorem dX4_goThrough_70 : decode cX4_goThrough 70 = .ok (.invokevirtual 73, 3) := by decide +kernel
theorem dX4_goThrough_73 : decode cX4_goThrough 73 = .ok (.goto 30, 3) := by decide +kernel
theorem dX4_goThrough_76 : decode cX4_goThrough 76 = .ok (.aload_n 0, 1) := by decide +kernel
theorem dX4_goThrough_77 : decode cX4_goThrough 77 = .ok (.iload_n 2, 1) := by decide +kernel
theorem dX4_goThrough_78 : decode cX4_goThrough 78 = .ok (.iload_n 3, 1) := by decide +kernel
theorem dX4_goThrough_79 : decode cX4_goThrough 79 = .ok (.iload 4, 2) := by decide +kernel
theorem dX4_goThrough_81 : decode cX4_goThrough 81 = .ok (.invokevirtual 77, 3) := by decide +kernel
theorem dX4_goThrough_84 : decode cX4_goThrough 84 = .ok (.ifCond .eq 19, 3) := by decide +kernel
theorem dX4_goThrough_87 : decode cX4_goThrough 87 = .ok (.aload_n 0, 1) := by decide +kernel
theorem dX4_goThrough_88 : decode cX4_goThrough 88 = .ok (.iload_n 2, 1) := by decide +kernel
theorem dX4_goThrough_89 : decode cX4_goThrough 89 = .ok (.bipush 9, 2) := by decide +kernel
theorem dX4_goThrough_91 : decode cX4_goThrough 91 = .ok (.imul, 1) := by decide +kernel
theorem dX4_goThrough_92 : decode cX4_goThrough 92 = .ok (.iload_n 3, 1) := by decide +kernel
theorem dX4_goThrough_93 : decode cX4_goThrough 93 = .ok (.iadd, 1) := by decide +kernel
theorem dX4_goThrough_94 : decode cX4_goThrough 94 = .ok (.bipush 9, 2) := by decide +kernel
theorem dX4_goThrough_96 : decode cX4_goThrough 96 = .ok (.imul, 1) := by decide +kernel
theorem dX4_goThrough_97 : decode cX4_goThrough 97 = .ok (.iload 4, 2) := by decide +kernel
theorem dX4_goThrough_99 : decode cX4_goThrough 99 = .ok (.iadd, 1) := by decide +kernel
theorem dX4_goThrough_100 : decode cX4_goThrough 100 = .ok (.invokevirtual 81, 3) := by decide +kernel
theorem dX4_goThrough_103 : decode cX4_goThrough 103 = .ok (.iinc 4 1, 3) := by decide +kernel
theorem dX4_goThrough_106 : decode cX4_goThrough 106 = .ok (.goto (-87), 3) := by decide +kernel
theorem dX4_goThrough_109 : decode cX4_goThrough 109 = .ok (.iinc 3 1, 3) := by decide +kernel
theorem dX4_goThrough_112 : decode cX4_goThrough 112 = .ok (.goto (-102), 3) := by decide +kernel
theorem dX4_goThrough_115 : decode cX4_goThrough 115 = .ok (.iinc 2 1, 3) := by decide +kernel
theorem dX4_goThrough_118 : decode cX4_goThrough 118 = .ok (.goto (-116), 3) := by decide +kernel
theorem dX4_goThrough_121 : decode cX4_goThrough 121 = .ok (.return_, 1) := by decide +kernel
theorem dX4_tell_0 : decode cX4_tell 0 = .ok (.aload_n 0, 1) := by decide +kernel
theorem dX4_tell_1 : decode cX4_tell 1 = .ok (.aload_n 0, 1) := by decide +kernel
theorem dX4_tell_2 : decode cX4_tell 2 = .ok (.getfield 37, 3) := by decide +kernel
theorem dX4_tell_5 : decode cX4_tell 5 = .ok (.ifCond .ne 7, 3) := by decide +kernel
theorem dX4_tell_8 : decode cX4_tell 8 = .ok (.iload_n 1, 1) := by decide +kernel
theorem dX4_tell_9 : decode cX4_tell 9 = .ok (.goto 7, 3) := by decide +kernel
theorem dX4_tell_12 : decode cX4_tell 12 = .ok (.aload_n 0, 1) := by decide +kernel
theorem dX4_tell_13 : decode cX4_tell 13 = .ok (.getfield 41, 3) := by decide +kernel
theorem dX4_tell_16 : decode cX4_tell 16 = .ok (.putfield 41, 3) := by decide +kernel
theorem dX4_tell_19 : decode cX4_tell 19 = .ok (.aload_n 0, 1) := by decide +kernel
theorem dX4_tell_20 : decode cX4_tell 20 = .ok (.dup, 1) := by decide +kernel
theorem dX4_tell_21 : decode cX4_tell 21 = .ok (.getfield 37, 3) := by decide +kernel
theorem dX4_tell_24 : decode cX4_tell 24 = .ok (.iconst 1, 1) := by decide +kernel
theorem dX4_tell_25 : decode cX4_tell 25 = .ok (.iadd, 1) := by decide +kernel
theorem dX4_tell_26 : decode cX4_tell 26 = .ok (.putfield 37, 3) := by decide +kernel
theorem dX4_tell_29 : decode cX4_tell 29 = .ok (.return_, 1) := by decide +kernel
theorem dX4_raiseBest_0 : decode cX4_raiseBest 0 = .ok (.iconst 1, 1) := by decide +kernel
theorem dX4_raiseBest_1 : decode cX4_raiseBest 1 = .ok (.iload_n 1, 1) := by decide +kernel
theorem dX4_raiseBest_2 : decode cX4_raiseBest 2 = .ok (.ishl, 1) := by decide +kernel
theorem dX4_raiseBest_3 : decode cX4_raiseBest 3 = .ok (.iconst 1, 1) := by decide +kernel
theorem dX4_raiseBest_4 : decode cX4_raiseBest 4 = .ok (.iload_n 2, 1) := by decide +kernel
theorem dX4_raiseBest_5 : decode cX4_raiseBest 5 = .ok (.ishl, 1) := by decide +kernel
theorem dX4_raiseBest_6 : decode cX4_raiseBest 6 = .ok (.ior, 1) := by decide +kernel
theorem dX4_raiseBest_7 : decode cX4_raiseBest 7 = .ok (.iconst 1, 1) := by decide +kernel
theorem dX4_raiseBest_8 : decode cX4_raiseBest 8 = .ok (.iload_n 3, 1) := by decide +kernel
theorem dX4_raiseBest_9 : decode cX4_raiseBest 9 = .ok (.ishl, 1) := by decide +kernel
theorem dX4_raiseBest_10 : decode cX4_raiseBest 10 = .ok (.ior, 1) := by decide +kernel
theorem dX4_raiseBest_11 : decode cX4_raiseBest 11 = .ok (.iconst 1, 1) := by decide +kernel
theorem dX4_raiseBest_12 : decode cX4_raiseBest 12 = .ok (.ishr, 1) := by decide +kernel
theorem dX4_raiseBest_13 : decode cX4_raiseBest 13 = .ok (.istore 4, 2) := by decide +kernel
theorem dX4_raiseBest_15 : decode cX4_raiseBest 15 = .ok (.aload_n 0, 1) := by decide +kernel
theorem dX4_raiseBest_16 : decode cX4_raiseBest 16 = .ok (.iconst 0, 1) := by decide +kernel
theorem dX4_raiseBest_17 : decode cX4_raiseBest 17 = .ok (.iload_n 2, 1) := by decide +kernel
theorem dX4_raiseBest_18 : decode cX4_raiseBest 18 = .ok (.bipush 9, 2) := by decide +kernel
theorem dX4_raiseBest_20 : decode cX4_raiseBest 20 = .ok (.imul, 1) := by decide +kernel
theorem dX4_raiseBest_21 : decode cX4_raiseBest 21 = .ok (.iload_n 3, 1) := by decide +kernel
theorem dX4_raiseBest_22 : decode cX4_raiseBest 22 = .ok (.iadd, 1) := by decide +kernel
theorem dX4_raiseBest_23 : decode cX4_raiseBest 23 = .ok (.aload_n 0, 1) := by decide +kernel
theorem dX4_raiseBest_24 : decode cX4_raiseBest 24 = .ok (.iconst 0, 1) := by decide +kernel
theorem dX4_raiseBest_25 : decode cX4_raiseBest 25 = .ok (.iload_n 1, 1) := by decide +kernel
theorem dX4_raiseBest_26 : decode cX4_raiseBest 26 = .ok (.iload 4, 2) := by decide +kernel
theorem dX4_raiseBest_28 : decode cX4_raiseBest 28 = .ok (.invokevirtual 85, 3) := by decide +kernel
theorem dX4_raiseBest_31 : decode cX4_raiseBest 31 = .ok (.invokevirtual 89, 3) := by decide +kernel
theorem dX4_raiseBest_34 : decode cX4_raiseBest 34 = .ok (.aload_n 0, 1) := by decide +kernel
theorem dX4_raiseBest_35 : decode cX4_raiseBest 35 = .ok (.iconst 1, 1) := by decide +kernel
theorem dX4_raiseBest_36 : decode cX4_raiseBest 36 = .ok (.iload_n 1, 1) := by decide +kernel
theorem dX4_raiseBest_37 : decode cX4_raiseBest 37 = .ok (.bipush 9, 2) := by decide +kernel
theorem dX4_raiseBest_39 : decode cX4_raiseBest 39 = .ok (.imul, 1) := by decide +kernel
theorem dX4_raiseBest_40 : decode cX4_raiseBest 40 = .ok (.iload_n 3, 1) := by decide +kernel
theorem dX4_raiseBest_41 : decode cX4_raiseBest 41 = .ok (.iadd, 1) := by decide +kernel
theorem dX4_raiseBest_42 : decode cX4_raiseBest 42 = .ok (.aload_n 0, 1) := by decide +kernel
theorem dX4_raiseBest_43 : decode cX4_raiseBest 43 = .ok (.iconst 1, 1) := by decide +kernel
theorem dX4_raiseBest_44 : decode cX4_raiseBest 44 = .ok (.iload_n 2, 1) := by decide +kernel
theorem dX4_raiseBest_45 : decode cX4_raiseBest 45 = .ok (.iload 4, 2) := by decide +kernel
theorem dX4_raiseBest_47 : decode cX4_raiseBest 47 = .ok (.invokevirtual 85, 3) := by decide +kernel
theorem dX4_raiseBest_50 : decode cX4_raiseBest 50 = .ok (.invokevirtual 89, 3) := by decide +kernel
theorem dX4_raiseBest_53 : decode cX4_raiseBest 53 = .ok (.aload_n 0, 1) := by decide +kernel
theorem dX4_raiseBest_54 : decode cX4_raiseBest 54 = .ok (.iconst 2, 1) := by decide +kernel
theorem dX4_raiseBest_55 : decode cX4_raiseBest 55 = .ok (.iload_n 1, 1) := by decide +kernel
theorem dX4_raiseBest_56 : decode cX4_raiseBest 56 = .ok (.bipush 9, 2) := by decide +kernel
theorem dX4_raiseBest_58 : decode cX4_raiseBest 58 = .ok (.imul, 1) := by decide +kernel
theorem dX4_raiseBest_59 : decode cX4_raiseBest 59 = .ok (.iload_n 2, 1) := by decide +kernel
theorem dX4_raiseBest_60 : decode cX4_raiseBest 60 = .ok (.iadd, 1) := by decide +kernel
theorem dX4_raiseBest_61 : decode cX4_raiseBest 61 = .ok (.aload_n 0, 1) := by decide +kernel
theorem dX4_raiseBest_62 : decode cX4_raiseBest 62 = .ok (.iconst 2, 1) := by decide +kernel
theorem dX4_raiseBest_63 : decode cX4_raiseBest 63 = .ok (.iload_n 3, 1) := by decide +kernel
theorem dX4_raiseBest_64 : decode cX4_raiseBest 64 = .ok (.iload 4, 2) := by decide +kernel
theorem dX4_raiseBest_66 : decode cX4_raiseBest 66 = .ok (.invokevirtual 85, 3) := by decide +kernel
theorem dX4_raiseBest_69 : decode cX4_raiseBest 69 = .ok (.invokevirtual 89, 3) := by decide +kernel
theorem dX4_raiseBest_72 : decode cX4_raiseBest 72 = .ok (.return_, 1) := by decide +kernel
theorem dX4_raise_0 : decode cX4_raise 0 = .ok (.aload_n 0, 1) := by decide +kernel
theorem dX4_raise_1 : decode cX4_raise 1 = .ok (.getfield 27, 3) := by decide +kernel
theorem dX4_raise_4 : decode cX4_raise 4 = .ok (.iload_n 1, 1) := by decide +kernel
theorem dX4_raise_5 : decode cX4_raise 5 = .ok (.aaload, 1) := by decide +kernel
theorem dX4_raise_6 : decode cX4_raise 6 = .ok (.iload_n 2, 1) := by decide +kernel
theorem dX4_raise_7 : decode cX4_raise 7 = .ok (.aload_n 0, 1) := by decide +kernel
theorem dX4_raise_8 : decode cX4_raise 8 = .ok (.getfield 27, 3) := by decide +kernel
theorem dX4_raise_11 : decode cX4_raise 11 = .ok (.iload_n 1, 1) := by decide +kernel
theorem dX4_raise_12 : decode cX4_raise 12 = .ok (.aaload, 1) := by decide +kernel
theorem dX4_raise_13 : decode cX4_raise 13 = .ok (.iload_n 2, 1) := by decide +kernel
theorem dX4_raise_14 : decode cX4_raise 14 = .ok (.invokestatic 92, 3) := by decide +kernel
theorem dX4_raise_17 : decode cX4_raise 17 = .ok (.iload_n 3, 1) := by decide +kernel
theorem dX4_raise_18 : decode cX4_raise 18 = .ok (.invokestatic 96, 3) := by decide +kernel
theorem dX4_raise_21 : decode cX4_raise 21 = .ok (.invokestatic 101, 3) := by decide +kernel
theorem dX4_raise_24 : decode cX4_raise 24 = .ok (.return_, 1) := by decide +kernel
theorem dX4_isRest_0 : decode cX4_isRest 0 = .ok (.iconst 1, 1) := by decide +kernel
theorem dX4_isRest_1 : decode cX4_isRest 1 = .ok (.iload_n 1, 1) := by decide +kernel
theorem dX4_isRest_2 : decode cX4_isRest 2 = .ok (.ishl, 1) := by decide +kernel
theorem dX4_isRest_3 : decode cX4_isRest 3 = .ok (.iconst 1, 1) := by decide +kernel
theorem dX4_isRest_4 : decode cX4_isRest 4 = .ok (.iload_n 2, 1) := by decide +kernel
theorem dX4_isRest_5 : decode cX4_isRest 5 = .ok (.ishl, 1) := by decide +kernel
theorem dX4_isRest_6 : decode cX4_isRest 6 = .ok (.ior, 1) := by decide +kernel
theorem dX4_isRest_7 : decode cX4_isRest 7 = .ok (.iconst 1, 1) := by decide +kernel
theorem dX4_isRest_8 : decode cX4_isRest 8 = .ok (.iload_n 3, 1) := by decide +kernel
theorem dX4_isRest_9 : decode cX4_isRest 9 = .ok (.ishl, 1) := by decide +kernel
theorem dX4_isRest_10 : decode cX4_isRest 10 = .ok (.ior, 1) := by decide +kernel
theorem dX4_isRest_11 : decode cX4_isRest 11 = .ok (.iconst 1, 1) := by decide +kernel
theorem dX4_isRest_12 : decode cX4_isRest 12 = .ok (.ishr, 1) := by decide +kernel
theorem dX4_isRest_13 : decode cX4_isRest 13 = .ok (.istore 4, 2) := by decide +kernel
theorem dX4_isRest_15 : decode cX4_isRest 15 = .ok (.aload_n 0, 1) := by decide +kernel
theorem dX4_isRest_16 : decode cX4_isRest 16 = .ok (.iconst 0, 1) := by decide +kernel
theorem dX4_isRest_17 : decode cX4_isRest 17 = .ok (.iload_n 1, 1) := by decide +kernel
theorem dX4_isRest_18 : decode cX4_isRest 18 = .ok (.iload 4, 2) := by decide +kernel
theorem dX4_isRest_20 : decode cX4_isRest 20 = .ok (.invokevirtual 85, 3) := by decide +kernel
theorem dX4_isRest_23 : decode cX4_isRest 23 = .ok (.aload_n 0, 1) := by decide +kernel
theorem dX4_isRest_24 : decode cX4_isRest 24 = .ok (.getfield 27, 3) := by decide +kernel
theorem dX4_isRest_27 : decode cX4_isRest 27 = .ok (.iconst 0, 1) := by decide +kernel
theorem dX4_isRest_28 : decode cX4_isRest 28 = .ok (.aaload, 1) := by decide +kernel
theorem dX4_isRest_29 : decode cX4_isRest 29 = .ok (.iload_n 2, 1) := by decide +kernel
theorem dX4_isRest_30 : decode cX4_isRest 30 = .ok (.bipush 9, 2) := by decide +kernel
theorem dX4_isRest_32 : decode cX4_isRest 32 = .ok (.imul, 1) := by decide +kernel
theorem dX4_isRest_33 : decode cX4_isRest 33 = .ok (.iload_n 3, 1) := by decide +kernel
theorem dX4_isRest_34 : decode cX4_isRest 34 = .ok (.iadd, 1) := by decide +kernel
theorem dX4_isRest_35 : decode cX4_isRest 35 = .ok (.invokestatic 92, 3) := by decide +kernel
theorem dX4_isRest_38 : decode cX4_isRest 38 = .ok (.if_icmp .lt 59, 3) := by decide +kernel
theorem dX4_isRest_41 : decode cX4_isRest 41 = .ok (.aload_n 0, 1) := by decide +kernel
theorem dX4_isRest_42 : decode cX4_isRest 42 = .ok (.iconst 1, 1) := by decide +kernel
theorem dX4_isRest_43 : decode cX4_isRest 43 = .ok (.iload_n 2, 1) := by decide +kernel
theorem dX4_isRest_44 : decode cX4_isRest 44 = .ok (.iload 4, 2) := by decide +kernel
theorem dX4_isRest_46 : decode cX4_isRest 46 = .ok (.invokevirtual 85, 3) := by decide +kernel
theorem dX4_isRest_49 : decode cX4_isRest 49 = .ok (.aload_n 0, 1) := by decide +kernel
theorem dX4_isRest_50 : decode cX4_isRest 50 = .ok (.getfield 27, 3) := by decide +kernel
theorem dX4_isRest_53 : decode cX4_isRest 53 = .ok (.iconst 1, 1) := by decide +kernel
theorem dX4_isRest_54 : decode cX4_isRest 54 = .ok (.aaload, 1) := by decide +kernel
theorem dX4_isRest_55 : decode cX4_isRest 55 = .ok (.iload_n 1, 1) := by decide +kernel
theorem dX4_isRest_56 : decode cX4_isRest 56 = .ok (.bipush 9, 2) := by decide +kernel
theorem dX4_isRest_58 : decode cX4_isRest 58 = .ok (.imul, 1) := by decide +kernel
theorem dX4_isRest_59 : decode cX4_isRest 59 = .ok (.iload_n 3, 1) := by decide +kernel
theorem dX4_isRest_60 : decode cX4_isRest 60 = .ok (.iadd, 1) := by decide +kernel
theorem dX4_isRest_61 : decode cX4_isRest 61 = .ok (.invokestatic 92, 3) := by decide +kernel
theorem dX4_isRest_64 : decode cX4_isRest 64 = .ok (.if_icmp .lt 33, 3) := by decide +kernel
theorem dX4_isRest_67 : decode cX4_isRest 67 = .ok (.aload_n 0, 1) := by decide +kernel
theorem dX4_isRest_68 : decode cX4_isRest 68 = .ok (.iconst 2, 1) := by decide +kernel
theorem dX4_isRest_69 : decode cX4_isRest 69 = .ok (.iload_n 3, 1) := by decide +kernel
theorem dX4_isRest_70 : decode cX4_isRest 70 = .ok (.iload 4, 2) := by decide +kernel
theorem dX4_isRest_72 : decode cX4_isRest 72 = .ok (.invokevirtual 85, 3) := by decide +kernel
theorem dX4_isRest_75 : decode cX4_isRest 75 = .ok (.aload_n 0, 1) := by decide +kernel
theorem dX4_isRest_76 : decode cX4_isRest 76 = .ok (.getfield 27, 3) := by decide +kernel
theorem dX4_isRest_79 : decode cX4_isRest 79 = .ok (.iconst 2, 1) := by decide +kernel
theorem dX4_isRest_80 : decode cX4_isRest 80 = .ok (.aaload, 1) := by decide +kernel
theorem dX4_isRest_81 : decode cX4_isRest 81 = .ok (.iload_n 1, 1) := by decide +kernel
theorem dX4_isRest_82 : decode cX4_isRest 82 = .ok (.bipush 9, 2) := by decide +kernel
theorem dX4_isRest_84 : decode cX4_isRest 84 = .ok (.imul, 1) := by decide +kernel
theorem dX4_isRest_85 : decode cX4_isRest 85 = .ok (.iload_n 2, 1) := by decide +kernel
theorem dX4_isRest_86 : decode cX4_isRest 86 = .ok (.iadd, 1) := by decide +kernel
theorem dX4_isRest_87 : decode cX4_isRest 87 = .ok (.invokestatic 92, 3) := by decide +kernel
theorem dX4_isRest_90 : decode cX4_isRest 90 = .ok (.if_icmp .lt 7, 3) := by decide +kernel
theorem dX4_isRest_93 : decode cX4_isRest 93 = .ok (.iconst 1, 1) := by decide +kernel
theorem dX4_isRest_94 : decode cX4_isRest 94 = .ok (.goto 4, 3) := by decide +kernel
theorem dX4_isRest_97 : decode cX4_isRest 97 = .ok (.iconst 0, 1) := by decide +kernel
theorem dX4_isRest_98 : decode cX4_isRest 98 = .ok (.ireturn, 1) := by decide +kernel
theorem dX4_has_0 : decode cX4_has 0 = .ok (.aload_n 0, 1) := by decide +kernel
theorem dX4_has_1 : decode cX4_has 1 = .ok (.getfield 24, 3) := by decide +kernel
theorem dX4_has_4 : decode cX4_has 4 = .ok (.iload_n 1, 1) := by decide +kernel
theorem dX4_has_5 : decode cX4_has 5 = .ok (.aaload, 1) := by decide +kernel
theorem dX4_has_6 : decode cX4_has 6 = .ok (.iload_n 3, 1) := by decide +kernel
theorem dX4_has_7 : decode cX4_has 7 = .ok (.invokestatic 92, 3) := by decide +kernel
theorem dX4_has_10 : decode cX4_has 10 = .ok (.iload_n 2, 1) := by decide +kernel
theorem dX4_has_11 : decode cX4_has 11 = .ok (.ifCond .ne 7, 3) := by decide +kernel
theorem dX4_has_14 : decode cX4_has 14 = .ok (.iconst 0, 1) := by decide +kernel
theorem dX4_has_15 : decode cX4_has 15 = .ok (.goto 13, 3) := by decide +kernel
theorem dX4_has_18 : decode cX4_has 18 = .ok (.aload_n 0, 1) := by decide +kernel
theorem dX4_has_19 : decode cX4_has 19 = .ok (.getfield 12, 3) := by decide +kernel
theorem dX4_has_22 : decode cX4_has 22 = .ok (.iload_n 2, 1) := by decide +kernel
theorem dX4_has_23 : decode cX4_has 23 = .ok (.iconst 1, 1) := by decide +kernel
theorem dX4_has_24 : decode cX4_has 24 = .ok (.isub, 1) := by decide +kernel
theorem dX4_has_25 : decode cX4_has 25 = .ok (.invokevirtual 105, 3) := by decide +kernel
theorem dX4_has_28 : decode cX4_has 28 = .ok (.isub, 1) := by decide +kernel
theorem dX4_has_29 : decode cX4_has 29 = .ok (.ireturn, 1) := by decide +kernel
theorem dX5_init_0 : decode cX5_init 0 = .ok (.aload_n 0, 1) := by decide +kernel
theorem dX5_init_1 : decode cX5_init 1 = .ok (.invokespecial 3, 3) := by decide +kernel
theorem dX5_init_4 : decode cX5_init 4 = .ok (.return_, 1) := by decide +kernel
theorem dX5_seekCampaign_0 : decode cX5_seekCampaign 0 = .ok (.aload_n 0, 1) := by decide +kernel
theorem dX5_seekCampaign_1 : decode cX5_seekCampaign 1 = .ok (.bipush (-9), 2) := by decide +kernel
theorem dX5_seekCampaign_3 : decode cX5_seekCampaign 3 = .ok (.putfield 9, 3) := by decide +kernel
theorem dX5_seekCampaign_6 : decode cX5_seekCampaign 6 = .ok (.aload_n 0, 1) := by decide +kernel
theorem dX5_seekCampaign_7 : decode cX5_seekCampaign 7 = .ok (.bipush (-9), 2) := by decide +kernel
theorem dX5_seekCampaign_9 : decode cX5_seekCampaign 9 = .ok (.putfield 15, 3) := by decide +kernel
theorem dX5_seekCampaign_12 : decode cX5_seekCampaign 12 = .ok (.aload_n 0, 1) := by decide +kernel
theorem dX5_seekCampaign_13 : decode cX5_seekCampaign 13 = .ok (.bipush (-9), 2) := by decide +kernel
theorem dX5_seekCampaign_15 : decode cX5_seekCampaign 15 = .ok (.putfield 18, 3) := by decide +kernel
theorem dX5_seekCampaign_18 : decode cX5_seekCampaign 18 = .ok (.iconst 1, 1) := by decide +kernel
theorem dX5_seekCampaign_19 : decode cX5_seekCampaign 19 = .ok (.istore_n 3, 1) := by decide +kernel
theorem dX5_seekCampaign_20 : decode cX5_seekCampaign 20 = .ok (.iload_n 3, 1) := by decide +kernel
theorem dX5_seekCampaign_21 : decode cX5_seekCampaign 21 = .ok (.iconst 4, 1) := by decide +kernel
theorem dX5_seekCampaign_22 : decode cX5_seekCampaign 22 = .ok (.if_icmp .gt 89, 3) := by decide +kernel
theorem dX5_seekCampaign_25 : decode cX5_seekCampaign 25 = .ok (.aload_n 1, 1) := by decide +kernel
theorem dX5_seekCampaign_26 : decode cX5_seekCampaign 26 = .ok (.iload_n 2, 1) := by decide +kernel
theorem dX5_seekCampaign_27 : decode cX5_seekCampaign 27 = .ok (.iload_n 3, 1) := by decide +kernel
theorem dX5_seekCampaign_28 : decode cX5_seekCampaign 28 = .ok (.aload_n 1, 1) := by decide +kernel
theorem dX5_seekCampaign_29 : decode cX5_seekCampaign 29 = .ok (.invokevirtual 21, 3) := by decide +kernel
theorem dX5_seekCampaign_32 : decode cX5_seekCampaign 32 = .ok (.invokevirtual 27, 3) := by decide +kernel
theorem dX5_seekCampaign_35 : decode cX5_seekCampaign 35 = .ok (.istore 4, 2) := by decide +kernel
theorem dX5_seekCampaign_37 : decode cX5_seekCampaign 37 = .ok (.iload 4, 2) := by decide +kernel
theorem dX5_seekCampaign_39 : decode cX5_seekCampaign 39 = .ok (.aload_n 1, 1) := by decide +kernel
theorem dX5_seekCampaign_40 : decode cX5_seekCampaign 40 = .ok (.getfield 31, 3) := by decide +kernel
theorem dX5_seekCampaign_43 : decode cX5_seekCampaign 43 = .ok (.iand, 1) := by decide +kernel
theorem dX5_seekCampaign_44 : decode cX5_seekCampaign 44 = .ok (.ifCond .eq 6, 3) := by decide +kernel
theorem dX5_seekCampaign_47 : decode cX5_seekCampaign 47 = .ok (.goto 58, 3) := by decide +kernel
theorem dX5_seekCampaign_50 : decode cX5_seekCampaign 50 = .ok (.iconst 3, 1) := by decide +kernel
theorem dX5_seekCampaign_51 : decode cX5_seekCampaign 51 = .ok (.iload_n 3, 1) := by decide +kernel
theorem dX5_seekCampaign_52 : decode cX5_seekCampaign 52 = .ok (.aload_n 1, 1) := by decide +kernel
theorem dX5_seekCampaign_53 : decode cX5_seekCampaign 53 = .ok (.getfield 34, 3) := by decide +kernel
theorem dX5_seekCampaign_56 : decode cX5_seekCampaign 56 = .ok (.isub, 1) := by decide +kernel
theorem dX5_seekCampaign_57 : decode cX5_seekCampaign 57 = .ok (.invokestatic 37, 3) := by decide +kernel
theorem dX5_seekCampaign_60 : decode cX5_seekCampaign 60 = .ok (.imul, 1) := by decide +kernel
theorem dX5_seekCampaign_61 : decode cX5_seekCampaign 61 = .ok (.aload_n 1, 1) := by decide +kernel
theorem dX5_seekCampaign_62 : decode cX5_seekCampaign 62 = .ok (.iload 4, 2) := by decide +kernel
theorem dX5_seekCampaign_64 : decode cX5_seekCampaign 64 = .ok (.invokestatic 43, 3) := by decide +kernel
theorem dX5_seekCampaign_67 : decode cX5_seekCampaign 67 = .ok (.iadd, 1) := by decide +kernel
theorem dX5_seekCampaign_68 : decode cX5_seekCampaign 68 = .ok (.istore 5, 2) := by decide +kernel
theorem dX5_seekCampaign_70 : decode cX5_seekCampaign 70 = .ok (.aload_n 0, 1) := by decide +kernel
theorem dX5_seekCampaign_71 : decode cX5_seekCampaign 71 = .ok (.getfield 9, 3) := by decide +kernel
theorem dX5_seekCampaign_74 : decode cX5_seekCampaign 74 = .ok (.bipush (-9), 2) := by decide +kernel
theorem dX5_seekCampaign_76 : decode cX5_seekCampaign 76 = .ok (.if_icmp .eq 12, 3) := by decide +kernel
theorem dX5_seekCampaign_79 : decode cX5_seekCampaign 79 = .ok (.iload 5, 2) := by decide +kernel
theorem dX5_seekCampaign_81 : decode cX5_seekCampaign 81 = .ok (.aload_n 0, 1) := by decide +kernel
theorem dX5_seekCampaign_82 : decode cX5_seekCampaign 82 = .ok (.getfield 9, 3) := by decide +kernel
theorem dX5_seekCampaign_85 : decode cX5_seekCampaign 85 = .ok (.if_icmp .ge 20, 3) := by decide +kernel
theorem dX5_seekCampaign_88 : decode cX5_seekCampaign 88 = .ok (.aload_n 0, 1) := by decide +kernel
theorem dX5_seekCampaign_89 : decode cX5_seekCampaign 89 = .ok (.iload 5, 2) := by decide +kernel
theorem dX5_seekCampaign_91 : decode cX5_seekCampaign 91 = .ok (.putfield 9, 3) := by decide +kernel
theorem dX5_seekCampaign_94 : decode cX5_seekCampaign 94 = .ok (.aload_n 0, 1) := by decide +kernel
theorem dX5_seekCampaign_95 : decode cX5_seekCampaign 95 = .ok (.iload_n 3, 1) := by decide +kernel
theorem dX5_seekCampaign_96 : decode cX5_seekCampaign 96 = .ok (.putfield 15, 3) := by decide +kernel
theorem dX5_seekCampaign_99 : decode cX5_seekCampaign 99 = .ok (.aload_n 0, 1) := by decide +kernel
theorem dX5_seekCampaign_100 : decode cX5_seekCampaign 100 = .ok (.iload 4, 2) := by decide +kernel
theorem dX5_seekCampaign_102 : decode cX5_seekCampaign 102 = .ok (.putfield 18, 3) := by decide +kernel
theorem dX5_seekCampaign_105 : decode cX5_seekCampaign 105 = .ok (.iinc 3 1, 3) := by decide +kernel
theorem dX5_seekCampaign_108 : decode cX5_seekCampaign 108 = .ok (.goto (-88), 3) := by decide +kernel
theorem dX5_seekCampaign_111 : decode cX5_seekCampaign 111 = .ok (.return_, 1) := by decide +kernel
theorem dX5_leastCopy_0 : decode cX5_leastCopy 0 = .ok (.bipush (-9), 2) := by decide +kernel
theorem dX5_leastCopy_2 : decode cX5_leastCopy 2 = .ok (.istore_n 3, 1) := by decide +kernel
theorem dX5_leastCopy_3 : decode cX5_leastCopy 3 = .ok (.iconst 0, 1) := by decide +kernel
theorem dX5_leastCopy_4 : decode cX5_leastCopy 4 = .ok (.istore 4, 2) := by decide +kernel
theorem dX5_leastCopy_6 : decode cX5_leastCopy 6 = .ok (.iload 4, 2) := by decide +kernel
theorem dX5_leastCopy_8 : decode cX5_leastCopy 8 = .ok (.bipush 16, 2) := by decide +kernel
theorem dX5_leastCopy_10 : decode cX5_leastCopy 10 = .ok (.if_icmp .ge 52, 3) := by decide +kernel
theorem dX5_leastCopy_13 : decode cX5_leastCopy 13 = .ok (.iload_n 3, 1) := by decide +kernel
theorem dX5_leastCopy_14 : decode cX5_leastCopy 14 = .ok (.bipush (-9), 2) := by decide +kernel
theorem dX5_leastCopy_16 : decode cX5_leastCopy 16 = .ok (.if_icmp .eq 15, 3) := by decide +kernel
theorem dX5_leastCopy_19 : decode cX5_leastCopy 19 = .ok (.iload 4, 2) := by decide +kernel
theorem dX5_leastCopy_21 : decode cX5_leastCopy 21 = .ok (.invokestatic 47, 3) := by decide +kernel
theorem dX5_leastCopy_24 : decode cX5_leastCopy 24 = .ok (.iload_n 3, 1) := by decide +kernel
theorem dX5_leastCopy_25 : decode cX5_leastCopy 25 = .ok (.invokestatic 47, 3) := by decide +kernel
theorem dX5_leastCopy_28 : decode cX5_leastCopy 28 = .ok (.if_icmp .ge 7, 3) := by decide +kernel
theorem dX5_leastCopy_31 : decode cX5_leastCopy 31 = .ok (.iconst 1, 1) := by decide +kernel
theorem dX5_leastCopy_32 : decode cX5_leastCopy 32 = .ok (.goto 4, 3) := by decide +kernel
theorem dX5_leastCopy_35 : decode cX5_leastCopy 35 = .ok (.iconst 0, 1) := by decide +kernel
theorem dX5_leastCopy_36 : decode cX5_leastCopy 36 = .ok (.istore 5, 2) := by decide +kernel
theorem dX5_leastCopy_38 : decode cX5_leastCopy 38 = .ok (.iload 5, 2) := by decide +kernel
theorem dX5_leastCopy_40 : decode cX5_leastCopy 40 = .ok (.ifCond .eq 16, 3) := by decide +kernel
theorem dX5_leastCopy_43 : decode cX5_leastCopy 43 = .ok (.aload_n 1, 1) := by decide +kernel
theorem dX5_leastCopy_44 : decode cX5_leastCopy 44 = .ok (.iload_n 2, 1) := by decide +kernel
theorem dX5_leastCopy_45 : decode cX5_leastCopy 45 = .ok (.iload 4, 2) := by decide +kernel
theorem dX5_leastCopy_47 : decode cX5_leastCopy 47 = .ok (.invokestatic 52, 3) := by decide +kernel
theorem dX5_leastCopy_50 : decode cX5_leastCopy 50 = .ok (.ifCond .eq 6, 3) := by decide +kernel
theorem dX5_leastCopy_53 : decode cX5_leastCopy 53 = .ok (.iload 4, 2) := by decide +kernel
theorem dX5_leastCopy_55 : decode cX5_leastCopy 55 = .ok (.istore_n 3, 1) := by decide +kernel
theorem dX5_leastCopy_56 : decode cX5_leastCopy 56 = .ok (.iinc 4 1, 3) := by decide +kernel
theorem dX5_leastCopy_59 : decode cX5_leastCopy 59 = .ok (.goto (-53), 3) := by decide +kernel
theorem dX5_leastCopy_62 : decode cX5_leastCopy 62 = .ok (.iload_n 3, 1) := by decide +kernel
theorem dX5_leastCopy_63 : decode cX5_leastCopy 63 = .ok (.ireturn, 1) := by decide +kernel
theorem dX5_wordOfMostLast_0 : decode cX5_wordOfMostLast 0 = .ok (.iconst 1, 1) := by decide +kernel
theorem dX5_wordOfMostLast_1 : decode cX5_wordOfMostLast 1 = .ok (.istore_n 2, 1) := by decide +kernel
theorem dX5_wordOfMostLast_2 : decode cX5_wordOfMostLast 2 = .ok (.iconst 2, 1) := by decide +kernel
theorem dX5_wordOfMostLast_3 : decode cX5_wordOfMostLast 3 = .ok (.istore_n 3, 1) := by decide +kernel
theorem dX5_wordOfMostLast_4 : decode cX5_wordOfMostLast 4 = .ok (.iload_n 3, 1) := by decide +kernel
theorem dX5_wordOfMostLast_5 : decode cX5_wordOfMostLast 5 = .ok (.iconst 4, 1) := by decide +kernel
theorem dX5_wordOfMostLast_6 : decode cX5_wordOfMostLast 6 = .ok (.if_icmp .gt 69, 3) := by decide +kernel
theorem dX5_wordOfMostLast_9 : decode cX5_wordOfMostLast 9 = .ok (.aload_n 0, 1) := by decide +kernel
theorem dX5_wordOfMostLast_10 : decode cX5_wordOfMostLast 10 = .ok (.aload_n 1, 1) := by decide +kernel
theorem dX5_wordOfMostLast_11 : decode cX5_wordOfMostLast 11 = .ok (.iload_n 3, 1) := by decide +kernel
theorem dX5_wordOfMostLast_12 : decode cX5_wordOfMostLast 12 = .ok (.invokevirtual 56, 3) := by decide +kernel
theorem dX5_wordOfMostLast_15 : decode cX5_wordOfMostLast 15 = .ok (.aload_n 0, 1) := by decide +kernel
theorem dX5_wordOfMostLast_16 : decode cX5_wordOfMostLast 16 = .ok (.aload_n 1, 1) := by decide +kernel
theorem dX5_wordOfMostLast_17 : decode cX5_wordOfMostLast 17 = .ok (.iload_n 2, 1) := by decide +kernel
theorem dX5_wordOfMostLast_18 : decode cX5_wordOfMostLast 18 = .ok (.invokevirtual 56, 3) := by decide +kernel
theorem dX5_wordOfMostLast_21 : decode cX5_wordOfMostLast 21 = .ok (.isub, 1) := by decide +kernel
theorem dX5_wordOfMostLast_22 : decode cX5_wordOfMostLast 22 = .ok (.istore 4, 2) := by decide +kernel
theorem dX5_wordOfMostLast_24 : decode cX5_wordOfMostLast 24 = .ok (.iload_n 3, 1) := by decide +kernel
theorem dX5_wordOfMostLast_25 : decode cX5_wordOfMostLast 25 = .ok (.aload_n 1, 1) := by decide +kernel
theorem dX5_wordOfMostLast_26 : decode cX5_wordOfMostLast 26 = .ok (.getfield 34, 3) := by decide +kernel
theorem dX5_wordOfMostLast_29 : decode cX5_wordOfMostLast 29 = .ok (.isub, 1) := by decide +kernel
theorem dX5_wordOfMostLast_30 : decode cX5_wordOfMostLast 30 = .ok (.invokestatic 37, 3) := by decide +kernel
theorem dX5_wordOfMostLast_33 : decode cX5_wordOfMostLast 33 = .ok (.iload_n 2, 1) := by decide +kernel
theorem dX5_wordOfMostLast_34 : decode cX5_wordOfMostLast 34 = .ok (.aload_n 1, 1) := by decide +kernel
theorem dX5_wordOfMostLast_35 : decode cX5_wordOfMostLast 35 = .ok (.getfield 34, 3) := by decide +kernel
theorem dX5_wordOfMostLast_38 : decode cX5_wordOfMostLast 38 = .ok (.isub, 1) := by decide +kernel
theorem dX5_wordOfMostLast_39 : decode cX5_wordOfMostLast 39 = .ok (.invokestatic 37, 3) := by decide +kernel
theorem dX5_wordOfMostLast_42 : decode cX5_wordOfMostLast 42 = .ok (.if_icmp .ge 7, 3) := by decide +kernel
theorem dX5_wordOfMostLast_45 : decode cX5_wordOfMostLast 45 = .ok (.iconst 1, 1) := by decide +kernel
theorem dX5_wordOfMostLast_46 : decode cX5_wordOfMostLast 46 = .ok (.goto 4, 3) := by decide +kernel
theorem dX5_wordOfMostLast_49 : decode cX5_wordOfMostLast 49 = .ok (.iconst 0, 1) := by decide +kernel
theorem dX5_wordOfMostLast_50 : decode cX5_wordOfMostLast 50 = .ok (.istore 5, 2) := by decide +kernel
theorem dX5_wordOfMostLast_52 : decode cX5_wordOfMostLast 52 = .ok (.iload 4, 2) := by decide +kernel
theorem dX5_wordOfMostLast_54 : decode cX5_wordOfMostLast 54 = .ok (.ifCond .gt 13, 3) := by decide +kernel
theorem dX5_wordOfMostLast_57 : decode cX5_wordOfMostLast 57 = .ok (.iload 4, 2) := by decide +kernel
theorem dX5_wordOfMostLast_59 : decode cX5_wordOfMostLast 59 = .ok (.ifCond .ne 10, 3) := by decide +kernel
theorem dX5_wordOfMostLast_62 : decode cX5_wordOfMostLast 62 = .ok (.iload 5, 2) := by decide +kernel
theorem dX5_wordOfMostLast_64 : decode cX5_wordOfMostLast 64 = .ok (.ifCond .eq 5, 3) := by decide +kernel
theorem dX5_wordOfMostLast_67 : decode cX5_wordOfMostLast 67 = .ok (.iload_n 3, 1) := by decide +kernel
theorem dX5_wordOfMostLast_68 : decode cX5_wordOfMostLast 68 = .ok (.istore_n 2, 1) := by decide +kernel
theorem dX5_wordOfMostLast_69 : decode cX5_wordOfMostLast 69 = .ok (.iinc 3 1, 3) := by decide +kernel
theorem dX5_wordOfMostLast_72 : decode cX5_wordOfMostLast 72 = .ok (.goto (-68), 3) := by decide +kernel
theorem dX5_wordOfMostLast_75 : decode cX5_wordOfMostLast 75 = .ok (.iload_n 2, 1) := by decide +kernel
theorem dX5_wordOfMostLast_76 : decode cX5_wordOfMostLast 76 = .ok (.ireturn, 1) := by decide +kernel
theorem dX5_lastBy_0 : decode cX5_lastBy 0 = .ok (.aload_n 1, 1) := by decide +kernel
theorem dX5_lastBy_1 : decode cX5_lastBy 1 = .ok (.iload_n 2, 1) := by decide +kernel
theorem dX5_lastBy_2 : decode cX5_lastBy 2 = .ok (.aload_n 1, 1) := by decide +kernel
theorem dX5_lastBy_3 : decode cX5_lastBy 3 = .ok (.invokevirtual 21, 3) := by decide +kernel
theorem dX5_lastBy_6 : decode cX5_lastBy 6 = .ok (.invokevirtual 59, 3) := by decide +kernel
theorem dX5_lastBy_9 : decode cX5_lastBy 9 = .ok (.invokestatic 47, 3) := by decide +kernel
theorem dX5_lastBy_12 : decode cX5_lastBy 12 = .ok (.ireturn, 1) := by decide +kernel
theorem dX5_costToBreak_0 : decode cX5_costToBreak 0 = .ok (.iconst 0, 1) := by decide +kernel
theorem dX5_costToBreak_1 : decode cX5_costToBreak 1 = .ok (.istore_n 2, 1) := by decide +kernel
theorem dX5_costToBreak_2 : decode cX5_costToBreak 2 = .ok (.iconst 0, 1) := by decide +kernel
theorem dX5_costToBreak_3 : decode cX5_costToBreak 3 = .ok (.istore_n 3, 1) := by decide +kernel
theorem dX5_costToBreak_4 : decode cX5_costToBreak 4 = .ok (.iload_n 3, 1) := by decide +kernel
theorem dX5_costToBreak_5 : decode cX5_costToBreak 5 = .ok (.bipush 8, 2) := by decide +kernel
theorem dX5_costToBreak_7 : decode cX5_costToBreak 7 = .ok (.if_icmp .ge 44, 3) := by decide +kernel
theorem dX5_costToBreak_10 : decode cX5_costToBreak 10 = .ok (.iload_n 1, 1) := by decide +kernel
theorem dX5_costToBreak_11 : decode cX5_costToBreak 11 = .ok (.iload_n 3, 1) := by decide +kernel
theorem dX5_costToBreak_12 : decode cX5_costToBreak 12 = .ok (.invokestatic 63, 3) := by decide +kernel
theorem dX5_costToBreak_15 : decode cX5_costToBreak 15 = .ok (.ifCond .eq 30, 3) := by decide +kernel
theorem dX5_costToBreak_18 : decode cX5_costToBreak 18 = .ok (.iload_n 2, 1) := by decide +kernel
theorem dX5_costToBreak_19 : decode cX5_costToBreak 19 = .ok (.aload_n 0, 1) := by decide +kernel
theorem dX5_costToBreak_20 : decode cX5_costToBreak 20 = .ok (.iload_n 3, 1) := by decide +kernel
theorem dX5_costToBreak_21 : decode cX5_costToBreak 21 = .ok (.bipush 6, 2) := by decide +kernel
theorem dX5_costToBreak_23 : decode cX5_costToBreak 23 = .ok (.invokevirtual 67, 3) := by decide +kernel
theorem dX5_costToBreak_26 : decode cX5_costToBreak 26 = .ok (.aload_n 0, 1) := by decide +kernel
theorem dX5_costToBreak_27 : decode cX5_costToBreak 27 = .ok (.getfield 70, 3) := by decide +kernel
theorem dX5_costToBreak_30 : decode cX5_costToBreak 30 = .ok (.iload_n 3, 1) := by decide +kernel
theorem dX5_costToBreak_31 : decode cX5_costToBreak 31 = .ok (.invokestatic 63, 3) := by decide +kernel
theorem dX5_costToBreak_34 : decode cX5_costToBreak 34 = .ok (.ifCond .eq 7, 3) := by decide +kernel
theorem dX5_costToBreak_37 : decode cX5_costToBreak 37 = .ok (.iconst 5, 1) := by decide +kernel
theorem dX5_costToBreak_38 : decode cX5_costToBreak 38 = .ok (.goto 4, 3) := by decide +kernel
theorem dX5_costToBreak_41 : decode cX5_costToBreak 41 = .ok (.iconst 0, 1) := by decide +kernel
theorem dX5_costToBreak_42 : decode cX5_costToBreak 42 = .ok (.iadd, 1) := by decide +kernel
theorem dX5_costToBreak_43 : decode cX5_costToBreak 43 = .ok (.iadd, 1) := by decide +kernel
theorem dX5_costToBreak_44 : decode cX5_costToBreak 44 = .ok (.istore_n 2, 1) := by decide +kernel
theorem dX5_costToBreak_45 : decode cX5_costToBreak 45 = .ok (.iinc 3 1, 3) := by decide +kernel
theorem dX5_costToBreak_48 : decode cX5_costToBreak 48 = .ok (.goto (-44), 3) := by decide +kernel
theorem dX5_costToBreak_51 : decode cX5_costToBreak 51 = .ok (.iload_n 2, 1) := by decide +kernel
theorem dX5_costToBreak_52 : decode cX5_costToBreak 52 = .ok (.ireturn, 1) := by decide +kernel
theorem dX5_frees_0 : decode cX5_frees 0 = .ok (.iload_n 2, 1) := by decide +kernel
theorem dX5_frees_1 : decode cX5_frees 1 = .ok (.invokestatic 47, 3) := by decide +kernel
theorem dX5_frees_4 : decode cX5_frees 4 = .ok (.aload_n 0, 1) := by decide +kernel
theorem dX5_frees_5 : decode cX5_frees 5 = .ok (.getfield 34, 3) := by decide +kernel
theorem dX5_frees_8 : decode cX5_frees 8 = .ok (.if_icmp .ge 5, 3) := by decide +kernel
theorem dX5_frees_11 : decode cX5_frees 11 = .ok (.iconst 0, 1) := by decide +kernel
theorem dX5_frees_12 : decode cX5_frees 12 = .ok (.ireturn, 1) := by decide +kernel
theorem dX5_frees_13 : decode cX5_frees 13 = .ok (.iconst 0, 1) := by decide +kernel
theorem dX5_frees_14 : decode cX5_frees 14 = .ok (.istore_n 3, 1) := by decide +kernel
theorem dX5_frees_15 : decode cX5_frees 15 = .ok (.iload_n 3, 1) := by decide +kernel
theorem dX5_frees_16 : decode cX5_frees 16 = .ok (.bipush 8, 2) := by decide +kernel
theorem dX5_frees_18 : decode cX5_frees 18 = .ok (.if_icmp .ge 57, 3) := by decide +kernel
theorem dX5_frees_21 : decode cX5_frees 21 = .ok (.iload_n 3, 1) := by decide +kernel
theorem dX5_frees_22 : decode cX5_frees 22 = .ok (.iload_n 1, 1) := by decide +kernel
theorem dX5_frees_23 : decode cX5_frees 23 = .ok (.if_icmp .eq 18, 3) := by decide +kernel
theorem dX5_frees_26 : decode cX5_frees 26 = .ok (.aload_n 0, 1) := by decide +kernel
theorem dX5_frees_27 : decode cX5_frees 27 = .ok (.invokevirtual 21, 3) := by decide +kernel
theorem dX5_frees_30 : decode cX5_frees 30 = .ok (.iload_n 3, 1) := by decide +kernel
theorem dX5_frees_31 : decode cX5_frees 31 = .ok (.invokestatic 63, 3) := by decide +kernel
theorem dX5_frees_34 : decode cX5_frees 34 = .ok (.ifCond .eq 7, 3) := by decide +kernel
theorem dX5_frees_37 : decode cX5_frees 37 = .ok (.iconst 1, 1) := by decide +kernel
theorem dX5_frees_38 : decode cX5_frees 38 = .ok (.goto 4, 3) := by decide +kernel
theorem dX5_frees_41 : decode cX5_frees 41 = .ok (.iconst 0, 1) := by decide +kernel
theorem dX5_frees_42 : decode cX5_frees 42 = .ok (.istore 4, 2) := by decide +kernel
theorem dX5_frees_44 : decode cX5_frees 44 = .ok (.iload 4, 2) := by decide +kernel
theorem dX5_frees_46 : decode cX5_frees 46 = .ok (.ifCond .eq 23, 3) := by decide +kernel
theorem dX5_frees_49 : decode cX5_frees 49 = .ok (.iload_n 2, 1) := by decide +kernel
theorem dX5_frees_50 : decode cX5_frees 50 = .ok (.aload_n 0, 1) := by decide +kernel
theorem dX5_frees_51 : decode cX5_frees 51 = .ok (.iload_n 1, 1) := by decide +kernel
theorem dX5_frees_52 : decode cX5_frees 52 = .ok (.iload_n 3, 1) := by decide +kernel
theorem dX5_frees_53 : decode cX5_frees 53 = .ok (.invokevirtual 73, 3) := by decide +kernel
theorem dX5_frees_56 : decode cX5_frees 56 = .ok (.iand, 1) := by decide +kernel
theorem dX5_frees_57 : decode cX5_frees 57 = .ok (.invokestatic 47, 3) := by decide +kernel
theorem dX5_frees_60 : decode cX5_frees 60 = .ok (.aload_n 0, 1) := by decide +kernel
theorem dX5_frees_61 : decode cX5_frees 61 = .ok (.getfield 34, 3) := by decide +kernel
theorem dX5_frees_64 : decode cX5_frees 64 = .ok (.if_icmp .lt 5, 3) := by decide +kernel
theorem dX5_frees_67 : decode cX5_frees 67 = .ok (.iconst 0, 1) := by decide +kernel
theorem dX5_frees_68 : decode cX5_frees 68 = .ok (.ireturn, 1) := by decide +kernel
theorem dX5_frees_69 : decode cX5_frees 69 = .ok (.iinc 3 1, 3) := by decide +kernel
theorem dX5_frees_72 : decode cX5_frees 72 = .ok (.goto (-57), 3) := by decide +kernel
theorem dX5_frees_75 : decode cX5_frees 75 = .ok (.iconst 1, 1) := by decide +kernel
theorem dX5_frees_76 : decode cX5_frees 76 = .ok (.ireturn, 1) := by decide +kernel
theorem dX6_init_0 : decode cX6_init 0 = .ok (.aload_n 0, 1) := by decide +kernel
theorem dX6_init_1 : decode cX6_init 1 = .ok (.invokespecial 3, 3) := by decide +kernel
theorem dX6_init_4 : decode cX6_init 4 = .ok (.aload_n 0, 1) := by decide +kernel
theorem dX6_init_5 : decode cX6_init 5 = .ok (.bipush 16, 2) := by decide +kernel
theorem dX6_init_7 : decode cX6_init 7 = .ok (.anewarray 9, 3) := by decide +kernel
theorem dX6_init_10 : decode cX6_init 10 = .ok (.putfield 11, 3) := by decide +kernel
theorem dX6_init_13 : decode cX6_init 13 = .ok (.iconst 0, 1) := by decide +kernel
theorem dX6_init_14 : decode cX6_init 14 = .ok (.istore_n 1, 1) := by decide +kernel
theorem dX6_init_15 : decode cX6_init 15 = .ok (.iload_n 1, 1) := by decide +kernel
theorem dX6_init_16 : decode cX6_init 16 = .ok (.bipush 16, 2) := by decide +kernel
theorem dX6_init_18 : decode cX6_init 18 = .ok (.if_icmp .ge 22, 3) := by decide +kernel
theorem dX6_init_21 : decode cX6_init 21 = .ok (.aload_n 0, 1) := by decide +kernel
theorem dX6_init_22 : decode cX6_init 22 = .ok (.getfield 11, 3) := by decide +kernel
theorem dX6_init_25 : decode cX6_init 25 = .ok (.iload_n 1, 1) := by decide +kernel
theorem dX6_init_26 : decode cX6_init 26 = .ok (.new 9, 3) := by decide +kernel
theorem dX6_init_29 : decode cX6_init 29 = .ok (.dup, 1) := by decide +kernel
theorem dX6_init_30 : decode cX6_init 30 = .ok (.invokespecial 17, 3) := by decide +kernel
theorem dX6_init_33 : decode cX6_init 33 = .ok (.aastore, 1) := by decide +kernel
theorem dX6_init_34 : decode cX6_init 34 = .ok (.iinc 1 1, 3) := by decide +kernel
theorem dX6_init_37 : decode cX6_init 37 = .ok (.goto (-22), 3) := by decide +kernel
theorem dX6_init_40 : decode cX6_init 40 = .ok (.return_, 1) := by decide +kernel
theorem dX6_clear_0 : decode cX6_clear 0 = .ok (.aload_n 0, 1) := by decide +kernel
theorem dX6_clear_1 : decode cX6_clear 1 = .ok (.iconst 0, 1) := by decide +kernel
theorem dX6_clear_2 : decode cX6_clear 2 = .ok (.putfield 18, 3) := by decide +kernel
theorem dX6_clear_5 : decode cX6_clear 5 = .ok (.return_, 1) := by decide +kernel
theorem dX6_remember_0 : decode cX6_remember 0 = .ok (.aload_n 0, 1) := by decide +kernel
theorem dX6_remember_1 : decode cX6_remember 1 = .ok (.aload_n 0, 1) := by decide +kernel
theorem dX6_remember_2 : decode cX6_remember 2 = .ok (.getfield 22, 3) := by decide +kernel
theorem dX6_remember_5 : decode cX6_remember 5 = .ok (.invokevirtual 25, 3) := by decide +kernel
theorem dX6_remember_8 : decode cX6_remember 8 = .ok (.astore_n 2, 1) := by decide +kernel
theorem dX6_remember_9 : decode cX6_remember 9 = .ok (.aload_n 2, 1) := by decide +kernel
theorem dX6_remember_10 : decode cX6_remember 10 = .ok (.ifnonnull 4, 3) := by decide +kernel
theorem dX6_remember_13 : decode cX6_remember 13 = .ok (.return_, 1) := by decide +kernel
theorem dX6_remember_14 : decode cX6_remember 14 = .ok (.aload_n 2, 1) := by decide +kernel
theorem dX6_remember_15 : decode cX6_remember 15 = .ok (.aload_n 1, 1) := by decide +kernel
theorem dX6_remember_16 : decode cX6_remember 16 = .ok (.invokevirtual 29, 3) := by decide +kernel
theorem dX6_remember_19 : decode cX6_remember 19 = .ok (.aload_n 0, 1) := by decide +kernel
theorem dX6_remember_20 : decode cX6_remember 20 = .ok (.aload_n 0, 1) := by decide +kernel
theorem dX6_remember_21 : decode cX6_remember 21 = .ok (.getfield 22, 3) := by decide +kernel
theorem dX6_remember_24 : decode cX6_remember 24 = .ok (.iconst 1, 1) := by decide +kernel
theorem dX6_remember_25 : decode cX6_remember 25 = .ok (.iadd, 1) := by decide +kernel
theorem dX6_remember_26 : decode cX6_remember 26 = .ok (.bipush 16, 2) := by decide +kernel
theorem dX6_remember_28 : decode cX6_remember 28 = .ok (.irem, 1) := by decide +kernel
theorem dX6_remember_29 : decode cX6_remember 29 = .ok (.putfield 22, 3) := by decide +kernel
theorem dX6_remember_32 : decode cX6_remember 32 = .ok (.aload_n 0, 1) := by decide +kernel
theorem dX6_remember_33 : decode cX6_remember 33 = .ok (.aload_n 0, 1) := by decide +kernel
theorem dX6_remember_34 : decode cX6_remember 34 = .ok (.getfield 18, 3) := by decide +kernel
theorem dX6_remember_37 : decode cX6_remember 37 = .ok (.iconst 1, 1) := by decide +kernel
theorem dX6_remember_38 : decode cX6_remember 38 = .ok (.iadd, 1) := by decide +kernel
theorem dX6_remember_39 : decode cX6_remember 39 = .ok (.bipush 16, 2) := by decide +kernel
theorem dX6_remember_41 : decode cX6_remember 41 = .ok (.invokestatic 33, 3) := by decide +kernel
theorem dX6_remember_44 : decode cX6_remember 44 = .ok (.putfield 18, 3) := by decide +kernel
theorem dX6_remember_47 : decode cX6_remember 47 = .ok (.return_, 1) := by decide +kernel
theorem dX6_takeBack_0 : decode cX6_takeBack 0 = .ok (.aload_n 0, 1) := by decide +kernel
theorem dX6_takeBack_1 : decode cX6_takeBack 1 = .ok (.getfield 22, 3) := by decide +kernel
theorem dX6_takeBack_4 : decode cX6_takeBack 4 = .ok (.bipush 16, 2) := by decide +kernel
theorem dX6_takeBack_6 : decode cX6_takeBack 6 = .ok (.iadd, 1) := by decide +kernel
theorem dX6_takeBack_7 : decode cX6_takeBack 7 = .ok (.iconst 1, 1) := by decide +kernel
theorem dX6_takeBack_8 : decode cX6_takeBack 8 = .ok (.isub, 1) := by decide +kernel
theorem dX6_takeBack_9 : decode cX6_takeBack 9 = .ok (.bipush 16, 2) := by decide +kernel
theorem dX6_takeBack_11 : decode cX6_takeBack 11 = .ok (.irem, 1) := by decide +kernel
theorem dX6_takeBack_12 : decode cX6_takeBack 12 = .ok (.istore_n 2, 1) := by decide +kernel
theorem dX6_takeBack_13 : decode cX6_takeBack 13 = .ok (.aload_n 0, 1) := by decide +kernel
theorem dX6_takeBack_14 : decode cX6_takeBack 14 = .ok (.iload_n 2, 1) := by decide +kernel
theorem dX6_takeBack_15 : decode cX6_takeBack 15 = .ok (.invokevirtual 25, 3) := by decide +kernel
theorem dX6_takeBack_18 : decode cX6_takeBack 18 = .ok (.astore_n 3, 1) := by decide +kernel
theorem dX6_takeBack_19 : decode cX6_takeBack 19 = .ok (.aload_n 0, 1) := by decide +kernel
theorem dX6_takeBack_20 : decode cX6_takeBack 20 = .ok (.getfield 18, 3) := by decide +kernel
theorem dX6_takeBack_23 : decode cX6_takeBack 23 = .ok (.ifCond .le 7, 3) := by decide +kernel
theorem dX6_takeBack_26 : decode cX6_takeBack 26 = .ok (.aload_n 3, 1) := by decide +kernel
theorem dX6_takeBack_27 : decode cX6_takeBack 27 = .ok (.ifnonnull 5, 3) := by decide +kernel
theorem dX6_takeBack_30 : decode cX6_takeBack 30 = .ok (.iconst 0, 1) := by decide +kernel
theorem dX6_takeBack_31 : decode cX6_takeBack 31 = .ok (.ireturn, 1) := by decide +kernel
theorem dX6_takeBack_32 : decode cX6_takeBack 32 = .ok (.aload_n 1, 1) := by decide +kernel
theorem dX6_takeBack_33 : decode cX6_takeBack 33 = .ok (.aload_n 3, 1) := by decide +kernel
theorem dX6_takeBack_34 : decode cX6_takeBack 34 = .ok (.invokevirtual 29, 3) := by decide +kernel
theorem dX6_takeBack_37 : decode cX6_takeBack 37 = .ok (.aload_n 0, 1) := by decide +kernel
theorem dX6_takeBack_38 : decode cX6_takeBack 38 = .ok (.iload_n 2, 1) := by decide +kernel
theorem dX6_takeBack_39 : decode cX6_takeBack 39 = .ok (.putfield 22, 3) := by decide +kernel
theorem dX6_takeBack_42 : decode cX6_takeBack 42 = .ok (.aload_n 0, 1) := by decide +kernel
theorem dX6_takeBack_43 : decode cX6_takeBack 43 = .ok (.dup, 1) := by decide +kernel
theorem dX6_takeBack_44 : decode cX6_takeBack 44 = .ok (.getfield 18, 3) := by decide +kernel
theorem dX6_takeBack_47 : decode cX6_takeBack 47 = .ok (.iconst 1, 1) := by decide +kernel
theorem dX6_takeBack_48 : decode cX6_takeBack 48 = .ok (.isub, 1) := by decide +kernel
theorem dX6_takeBack_49 : decode cX6_takeBack 49 = .ok (.putfield 18, 3) := by decide +kernel
theorem dX6_takeBack_52 : decode cX6_takeBack 52 = .ok (.iconst 1, 1) := by decide +kernel
theorem dX6_takeBack_53 : decode cX6_takeBack 53 = .ok (.ireturn, 1) := by decide +kernel
theorem dX6_placeAt_0 : decode cX6_placeAt 0 = .ok (.iload_n 1, 1) := by decide +kernel
theorem dX6_placeAt_1 : decode cX6_placeAt 1 = .ok (.ifCond .lt 21, 3) := by decide +kernel
theorem dX6_placeAt_4 : decode cX6_placeAt 4 = .ok (.iload_n 1, 1) := by decide +kernel
theorem dX6_placeAt_5 : decode cX6_placeAt 5 = .ok (.aload_n 0, 1) := by decide +kernel
theorem dX6_placeAt_6 : decode cX6_placeAt 6 = .ok (.getfield 11, 3) := by decide +kernel
theorem dX6_placeAt_9 : decode cX6_placeAt 9 = .ok (.arraylength, 1) := by decide +kernel
theorem dX6_placeAt_10 : decode cX6_placeAt 10 = .ok (.if_icmp .ge 12, 3) := by decide +kernel
theorem dX6_placeAt_13 : decode cX6_placeAt 13 = .ok (.aload_n 0, 1) := by decide +kernel
theorem dX6_placeAt_14 : decode cX6_placeAt 14 = .ok (.getfield 11, 3) := by decide +kernel
theorem dX6_placeAt_17 : decode cX6_placeAt 17 = .ok (.iload_n 1, 1) := by decide +kernel
theorem dX6_placeAt_18 : decode cX6_placeAt 18 = .ok (.aaload, 1) := by decide +kernel
theorem dX6_placeAt_19 : decode cX6_placeAt 19 = .ok (.goto 4, 3) := by decide +kernel
theorem dX6_placeAt_22 : decode cX6_placeAt 22 = .ok (.aconst_null, 1) := by decide +kernel
theorem dX6_placeAt_23 : decode cX6_placeAt 23 = .ok (.areturn, 1) := by decide +kernel
theorem dX7_init_0 : decode cX7_init 0 = .ok (.aload_n 0, 1) := by decide +kernel
theorem dX7_init_1 : decode cX7_init 1 = .ok (.invokespecial 3, 3) := by decide +kernel
theorem dX7_init_4 : decode cX7_init 4 = .ok (.aload_n 0, 1) := by decide +kernel
theorem dX7_init_5 : decode cX7_init 5 = .ok (.bipush 6, 2) := by decide +kernel
theorem dX7_init_7 : decode cX7_init 7 = .ok (.newarray .int, 2) := by decide +kernel
theorem dX7_init_9 : decode cX7_init 9 = .ok (.putfield 9, 3) := by decide +kernel
theorem dX7_init_12 : decode cX7_init 12 = .ok (.aload_n 0, 1) := by decide +kernel
theorem dX7_init_13 : decode cX7_init 13 = .ok (.bipush 6, 2) := by decide +kernel
theorem dX7_init_15 : decode cX7_init 15 = .ok (.newarray .int, 2) := by decide +kernel
theorem dX7_init_17 : decode cX7_init 17 = .ok (.putfield 15, 3) := by decide +kernel
theorem dX7_init_20 : decode cX7_init 20 = .ok (.aload_n 0, 1) := by decide +kernel
theorem dX7_init_21 : decode cX7_init 21 = .ok (.bipush 6, 2) := by decide +kernel
theorem dX7_init_23 : decode cX7_init 23 = .ok (.newarray .boolean, 2) := by decide +kernel
theorem dX7_init_25 : decode cX7_init 25 = .ok (.putfield 18, 3) := by decide +kernel
theorem dX7_init_28 : decode cX7_init 28 = .ok (.aload_n 0, 1) := by decide +kernel
theorem dX7_init_29 : decode cX7_init 29 = .ok (.bipush 6, 2) := by decide +kernel
theorem dX7_init_31 : decode cX7_init 31 = .ok (.newarray .int, 2) := by decide +kernel
theorem dX7_init_33 : decode cX7_init 33 = .ok (.putfield 22, 3) := by decide +kernel
theorem dX7_init_36 : decode cX7_init 36 = .ok (.aload_n 0, 1) := by decide +kernel
theorem dX7_init_37 : decode cX7_init 37 = .ok (.bipush 8, 2) := by decide +kernel
theorem dX7_init_39 : decode cX7_init 39 = .ok (.newarray .int, 2) := by decide +kernel
theorem dX7_init_41 : decode cX7_init 41 = .ok (.putfield 25, 3) := by decide +kernel
theorem dX7_init_44 : decode cX7_init 44 = .ok (.return_, 1) := by decide +kernel
theorem dX7_append_0 : decode cX7_append 0 = .ok (.aload_n 0, 1) := by decide +kernel
theorem dX7_append_1 : decode cX7_append 1 = .ok (.getfield 28, 3) := by decide +kernel
theorem dX7_append_4 : decode cX7_append 4 = .ok (.ifCond .lt 12, 3) := by decide +kernel
theorem dX7_append_7 : decode cX7_append 7 = .ok (.aload_n 0, 1) := by decide +kernel
theorem dX7_append_8 : decode cX7_append 8 = .ok (.getfield 28, 3) := by decide +kernel
theorem dX7_append_11 : decode cX7_append 11 = .ok (.bipush 6, 2) := by decide +kernel
theorem dX7_append_13 : decode cX7_append 13 = .ok (.if_icmp .lt 5, 3) := by decide +kernel
theorem dX7_append_16 : decode cX7_append 16 = .ok (.iconst 0, 1) := by decide +kernel
theorem dX7_append_17 : decode cX7_append 17 = .ok (.ireturn, 1) := by decide +kernel
theorem dX7_append_18 : decode cX7_append 18 = .ok (.aload_n 0, 1) := by decide +kernel
theorem dX7_append_19 : decode cX7_append 19 = .ok (.getfield 9, 3) := by decide +kernel
theorem dX7_append_22 : decode cX7_append 22 = .ok (.aload_n 0, 1) := by decide +kernel
theorem dX7_append_23 : decode cX7_append 23 = .ok (.getfield 28, 3) := by decide +kernel
theorem dX7_append_26 : decode cX7_append 26 = .ok (.iload_n 1, 1) := by decide +kernel
theorem dX7_append_27 : decode cX7_append 27 = .ok (.iastore, 1) := by decide +kernel
theorem dX7_append_28 : decode cX7_append 28 = .ok (.aload_n 0, 1) := by decide +kernel
theorem dX7_append_29 : decode cX7_append 29 = .ok (.getfield 15, 3) := by decide +kernel
theorem dX7_append_32 : decode cX7_append 32 = .ok (.aload_n 0, 1) := by decide +kernel
theorem dX7_append_33 : decode cX7_append 33 = .ok (.getfield 28, 3) := by decide +kernel
theorem dX7_append_36 : decode cX7_append 36 = .ok (.iload_n 2, 1) := by decide +kernel
theorem dX7_append_37 : decode cX7_append 37 = .ok (.iastore, 1) := by decide +kernel
theorem dX7_append_38 : decode cX7_append 38 = .ok (.aload_n 0, 1) := by decide +kernel
theorem dX7_append_39 : decode cX7_append 39 = .ok (.getfield 18, 3) := by decide +kernel
theorem dX7_append_42 : decode cX7_append 42 = .ok (.aload_n 0, 1) := by decide +kernel
theorem dX7_append_43 : decode cX7_append 43 = .ok (.getfield 28, 3) := by decide +kernel
theorem dX7_append_46 : decode cX7_append 46 = .ok (.iload_n 3, 1) := by decide +kernel
theorem dX7_append_47 : decode cX7_append 47 = .ok (.bastore, 1) := by decide +kernel
theorem dX7_append_48 : decode cX7_append 48 = .ok (.aload_n 0, 1) := by decide +kernel
theorem dX7_append_49 : decode cX7_append 49 = .ok (.dup, 1) := by decide +kernel
theorem dX7_append_50 : decode cX7_append 50 = .ok (.getfield 28, 3) := by decide +kernel
theorem dX7_append_53 : decode cX7_append 53 = .ok (.iconst 1, 1) := by decide +kernel
theorem dX7_append_54 : decode cX7_append 54 = .ok (.iadd, 1) := by decide +kernel
theorem dX7_append_55 : decode cX7_append 55 = .ok (.putfield 28, 3) := by decide +kernel
theorem dX7_append_58 : decode cX7_append 58 = .ok (.iconst 1, 1) := by decide +kernel
theorem dX7_append_59 : decode cX7_append 59 = .ok (.ireturn, 1) := by decide +kernel
theorem dX7_survey_0 : decode cX7_survey 0 = .ok (.aload_n 1, 1) := by decide +kernel
theorem dX7_survey_1 : decode cX7_survey 1 = .ok (.invokevirtual 32, 3) := by decide +kernel
theorem dX7_survey_4 : decode cX7_survey 4 = .ok (.istore_n 2, 1) := by decide +kernel
theorem dX7_survey_5 : decode cX7_survey 5 = .ok (.aload_n 0, 1) := by decide +kernel
theorem dX7_survey_6 : decode cX7_survey 6 = .ok (.aload_n 1, 1) := by decide +kernel
theorem dX7_survey_7 : decode cX7_survey 7 = .ok (.invokevirtual 38, 3) := by decide +kernel
theorem dX7_survey_10 : decode cX7_survey 10 = .ok (.aload_n 0, 1) := by decide +kernel
theorem dX7_survey_11 : decode cX7_survey 11 = .ok (.iconst 0, 1) := by decide +kernel
theorem dX7_survey_12 : decode cX7_survey 12 = .ok (.putfield 42, 3) := by decide +kernel
theorem dX7_survey_15 : decode cX7_survey 15 = .ok (.aload_n 0, 1) := by decide +kernel
theorem dX7_survey_16 : decode cX7_survey 16 = .ok (.iload_n 2, 1) := by decide +kernel
theorem dX7_survey_17 : decode cX7_survey 17 = .ok (.putfield 45, 3) := by decide +kernel
theorem dX7_survey_20 : decode cX7_survey 20 = .ok (.aload_n 0, 1) := by decide +kernel
theorem dX7_survey_21 : decode cX7_survey 21 = .ok (.iload_n 2, 1) := by decide +kernel
theorem dX7_survey_22 : decode cX7_survey 22 = .ok (.putfield 48, 3) := by decide +kernel
theorem dX7_survey_25 : decode cX7_survey 25 = .ok (.iconst 0, 1) := by decide +kernel
theorem dX7_survey_26 : decode cX7_survey 26 = .ok (.istore_n 3, 1) := by decide +kernel
theorem dX7_survey_27 : decode cX7_survey 27 = .ok (.iload_n 3, 1) := by decide +kernel
theorem dX7_survey_28 : decode cX7_survey 28 = .ok (.sipush 256, 3) := by decide +kernel
theorem dX7_survey_31 : decode cX7_survey 31 = .ok (.if_icmp .ge 71, 3) := by decide +kernel
theorem dX7_survey_34 : decode cX7_survey 34 = .ok (.iload_n 3, 1) := by decide +kernel
theorem dX7_survey_35 : decode cX7_survey 35 = .ok (.iload_n 2, 1) := by decide +kernel
theorem dX7_survey_36 : decode cX7_survey 36 = .ok (.iconst (-1), 1) := by decide +kernel
theorem dX7_survey_37 : decode cX7_survey 37 = .ok (.ixor, 1) := by decide +kernel
theorem dX7_survey_38 : decode cX7_survey 38 = .ok (.iand, 1) := by decide +kernel
theorem dX7_survey_39 : decode cX7_survey 39 = .ok (.ifCond .ne 57, 3) := by decide +kernel
theorem dX7_survey_42 : decode cX7_survey 42 = .ok (.aload_n 0, 1) := by decide +kernel
theorem dX7_survey_43 : decode cX7_survey 43 = .ok (.iload_n 3, 1) := by decide +kernel
theorem dX7_survey_44 : decode cX7_survey 44 = .ok (.aload_n 1, 1) := by decide +kernel
theorem dX7_survey_45 : decode cX7_survey 45 = .ok (.invokevirtual 51, 3) := by decide +kernel
theorem dX7_survey_48 : decode cX7_survey 48 = .ok (.ior, 1) := by decide +kernel
theorem dX7_survey_49 : decode cX7_survey 49 = .ok (.aload_n 1, 1) := by decide +kernel
theorem dX7_survey_50 : decode cX7_survey 50 = .ok (.getfield 54, 3) := by decide +kernel
theorem dX7_survey_53 : decode cX7_survey 53 = .ok (.invokevirtual 57, 3) := by decide +kernel
theorem dX7_survey_56 : decode cX7_survey 56 = .ok (.ifCond .eq 40, 3) := by decide +kernel
theorem dX7_survey_59 : decode cX7_survey 59 = .ok (.aload_n 0, 1) := by decide +kernel
theorem dX7_survey_60 : decode cX7_survey 60 = .ok (.dup, 1) := by decide +kernel
theorem dX7_survey_61 : decode cX7_survey 61 = .ok (.getfield 42, 3) := by decide +kernel
theorem dX7_survey_64 : decode cX7_survey 64 = .ok (.iconst 1, 1) := by decide +kernel
theorem dX7_survey_65 : decode cX7_survey 65 = .ok (.iadd, 1) := by decide +kernel
theorem dX7_survey_66 : decode cX7_survey 66 = .ok (.putfield 42, 3) := by decide +kernel
theorem dX7_survey_69 : decode cX7_survey 69 = .ok (.aload_n 0, 1) := by decide +kernel
theorem dX7_survey_70 : decode cX7_survey 70 = .ok (.dup, 1) := by decide +kernel
theorem dX7_survey_71 : decode cX7_survey 71 = .ok (.getfield 45, 3) := by decide +kernel
theorem dX7_survey_74 : decode cX7_survey 74 = .ok (.iload_n 3, 1) := by decide +kernel
theorem dX7_survey_75 : decode cX7_survey 75 = .ok (.iand, 1) := by decide +kernel
theorem dX7_survey_76 : decode cX7_survey 76 = .ok (.putfield 45, 3) := by decide +kernel
theorem dX7_survey_79 : decode cX7_survey 79 = .ok (.aload_n 0, 1) := by decide +kernel
theorem dX7_survey_80 : decode cX7_survey 80 = .ok (.dup, 1) := by decide +kernel
theorem dX7_survey_81 : decode cX7_survey 81 = .ok (.getfield 48, 3) := by decide +kernel
theorem dX7_survey_84 : decode cX7_survey 84 = .ok (.iload_n 3, 1) := by decide +kernel
theorem dX7_survey_85 : decode cX7_survey 85 = .ok (.iconst (-1), 1) := by decide +kernel
theorem dX7_survey_86 : decode cX7_survey 86 = .ok (.ixor, 1) := by decide +kernel
theorem dX7_survey_87 : decode cX7_survey 87 = .ok (.iand, 1) := by decide +kernel
theorem dX7_survey_88 : decode cX7_survey 88 = .ok (.putfield 48, 3) := by decide +kernel
theorem dX7_survey_91 : decode cX7_survey 91 = .ok (.aload_n 0, 1) := by decide +kernel
theorem dX7_survey_92 : decode cX7_survey 92 = .ok (.iload_n 3, 1) := by decide +kernel
theorem dX7_survey_93 : decode cX7_survey 93 = .ok (.invokevirtual 61, 3) := by decide +kernel
theorem dX7_survey_96 : decode cX7_survey 96 = .ok (.iinc 3 1, 3) := by decide +kernel
theorem dX7_survey_99 : decode cX7_survey 99 = .ok (.goto (-72), 3) := by decide +kernel
theorem dX7_survey_102 : decode cX7_survey 102 = .ok (.return_, 1) := by decide +kernel
theorem dX7_mostTelling_0 : decode cX7_mostTelling 0 = .ok (.aload_n 0, 1) := by decide +kernel
theorem dX7_mostTelling_1 : decode cX7_mostTelling 1 = .ok (.getfield 42, 3) := by decide +kernel
theorem dX7_mostTelling_4 : decode cX7_mostTelling 4 = .ok (.ifCond .le 10, 3) := by decide +kernel
theorem dX7_mostTelling_7 : decode cX7_mostTelling 7 = .ok (.aload_n 1, 1) := by decide +kernel
theorem dX7_mostTelling_8 : decode cX7_mostTelling 8 = .ok (.invokevirtual 32, 3) := by decide +kernel
theorem dX7_mostTelling_11 : decode cX7_mostTelling 11 = .ok (.goto 4, 3) := by decide +kernel
theorem dX7_mostTelling_14 : decode cX7_mostTelling 14 = .ok (.iconst 0, 1) := by decide +kernel
theorem dX7_mostTelling_15 : decode cX7_mostTelling 15 = .ok (.istore_n 2, 1) := by decide +kernel
theorem dX7_mostTelling_16 : decode cX7_mostTelling 16 = .ok (.bipush (-9), 2) := by decide +kernel
theorem dX7_mostTelling_18 : decode cX7_mostTelling 18 = .ok (.istore_n 3, 1) := by decide +kernel
theorem dX7_mostTelling_19 : decode cX7_mostTelling 19 = .ok (.iconst (-1), 1) := by decide +kernel
theorem dX7_mostTelling_20 : decode cX7_mostTelling 20 = .ok (.istore 4, 2) := by decide +kernel
theorem dX7_mostTelling_22 : decode cX7_mostTelling 22 = .ok (.iconst 0, 1) := by decide +kernel
theorem dX7_mostTelling_23 : decode cX7_mostTelling 23 = .ok (.istore 5, 2) := by decide +kernel
theorem dX7_mostTelling_25 : decode cX7_mostTelling 25 = .ok (.iload 5, 2) := by decide +kernel
theorem dX7_mostTelling_27 : decode cX7_mostTelling 27 = .ok (.bipush 8, 2) := by decide +kernel
theorem dX7_mostTelling_29 : decode cX7_mostTelling 29 = .ok (.if_icmp .ge 56, 3) := by decide +kernel
theorem dX7_mostTelling_32 : decode cX7_mostTelling 32 = .ok (.aload_n 0, 1) := by decide +kernel
theorem dX7_mostTelling_33 : decode cX7_mostTelling 33 = .ok (.getfield 25, 3) := by decide +kernel
theorem dX7_mostTelling_36 : decode cX7_mostTelling 36 = .ok (.iload 5, 2) := by decide +kernel
theorem dX7_mostTelling_38 : decode cX7_mostTelling 38 = .ok (.iaload, 1) := by decide +kernel
theorem dX7_mostTelling_39 : decode cX7_mostTelling 39 = .ok (.aload_n 0, 1) := by decide +kernel
theorem dX7_mostTelling_40 : decode cX7_mostTelling 40 = .ok (.getfield 42, 3) := by decide +kernel
theorem dX7_mostTelling_43 : decode cX7_mostTelling 43 = .ok (.aload_n 0, 1) := by decide +kernel
theorem dX7_mostTelling_44 : decode cX7_mostTelling 44 = .ok (.getfield 25, 3) := by decide +kernel
theorem dX7_mostTelling_47 : decode cX7_mostTelling 47 = .ok (.iload 5, 2) := by decide +kernel
theorem dX7_mostTelling_49 : decode cX7_mostTelling 49 = .ok (.iaload, 1) := by decide +kernel
theorem dX7_mostTelling_50 : decode cX7_mostTelling 50 = .ok (.isub, 1) := by decide +kernel
theorem dX7_mostTelling_51 : decode cX7_mostTelling 51 = .ok (.invokestatic 65, 3) := by decide +kernel
theorem dX7_mostTelling_54 : decode cX7_mostTelling 54 = .ok (.istore 6, 2) := by decide +kernel
theorem dX7_mostTelling_56 : decode cX7_mostTelling 56 = .ok (.iload_n 2, 1) := by decide +kernel
theorem dX7_mostTelling_57 : decode cX7_mostTelling 57 = .ok (.iload 5, 2) := by decide +kernel
theorem dX7_mostTelling_59 : decode cX7_mostTelling 59 = .ok (.invokestatic 71, 3) := by decide +kernel
theorem dX7_mostTelling_62 : decode cX7_mostTelling 62 = .ok (.ifCond .eq 17, 3) := by decide +kernel
theorem dX7_mostTelling_65 : decode cX7_mostTelling 65 = .ok (.iload 6, 2) := by decide +kernel
theorem dX7_mostTelling_67 : decode cX7_mostTelling 67 = .ok (.iload 4, 2) := by decide +kernel
theorem dX7_mostTelling_69 : decode cX7_mostTelling 69 = .ok (.if_icmp .le 10, 3) := by decide +kernel
theorem dX7_mostTelling_72 : decode cX7_mostTelling 72 = .ok (.iload 5, 2) := by decide +kernel
theorem dX7_mostTelling_74 : decode cX7_mostTelling 74 = .ok (.istore_n 3, 1) := by decide +kernel
theorem dX7_mostTelling_75 : decode cX7_mostTelling 75 = .ok (.iload 6, 2) := by decide +kernel
theorem dX7_mostTelling_77 : decode cX7_mostTelling 77 = .ok (.istore 4, 2) := by decide +kernel
theorem dX7_mostTelling_79 : decode cX7_mostTelling 79 = .ok (.iinc 5 1, 3) := by decide +kernel
theorem dX7_mostTelling_82 : decode cX7_mostTelling 82 = .ok (.goto (-57), 3) := by decide +kernel
theorem dX7_mostTelling_85 : decode cX7_mostTelling 85 = .ok (.iload_n 3, 1) := by decide +kernel
theorem dX7_mostTelling_86 : decode cX7_mostTelling 86 = .ok (.ireturn, 1) := by decide +kernel
theorem dX7_learn_0 : decode cX7_learn 0 = .ok (.iconst 0, 1) := by decide +kernel
theorem dX7_learn_1 : decode cX7_learn 1 = .ok (.istore_n 2, 1) := by decide +kernel
theorem dX7_learn_2 : decode cX7_learn 2 = .ok (.iload_n 2, 1) := by decide +kernel
theorem dX7_learn_3 : decode cX7_learn 3 = .ok (.bipush 6, 2) := by decide +kernel
theorem dX7_learn_5 : decode cX7_learn 5 = .ok (.if_icmp .ge 51, 3) := by decide +kernel
theorem dX7_learn_8 : decode cX7_learn 8 = .ok (.aload_n 0, 1) := by decide +kernel
theorem dX7_learn_9 : decode cX7_learn 9 = .ok (.getfield 9, 3) := by decide +kernel
theorem dX7_learn_12 : decode cX7_learn 12 = .ok (.iload_n 2, 1) := by decide +kernel
theorem dX7_learn_13 : decode cX7_learn 13 = .ok (.iaload, 1) := by decide +kernel
theorem dX7_learn_14 : decode cX7_learn 14 = .ok (.istore_n 3, 1) := by decide +kernel
theorem dX7_learn_15 : decode cX7_learn 15 = .ok (.aload_n 0, 1) := by decide +kernel
theorem dX7_learn_16 : decode cX7_learn 16 = .ok (.getfield 22, 3) := by decide +kernel
theorem dX7_learn_19 : decode cX7_learn 19 = .ok (.iload_n 2, 1) := by decide +kernel
theorem dX7_learn_20 : decode cX7_learn 20 = .ok (.aload_n 1, 1) := by decide +kernel
theorem dX7_learn_21 : decode cX7_learn 21 = .ok (.iload_n 3, 1) := by decide +kernel
theorem dX7_learn_22 : decode cX7_learn 22 = .ok (.invokevirtual 74, 3) := by decide +kernel
theorem dX7_learn_25 : decode cX7_learn 25 = .ok (.ifCond .eq 23, 3) := by decide +kernel
theorem dX7_learn_28 : decode cX7_learn 28 = .ok (.aload_n 1, 1) := by decide +kernel
theorem dX7_learn_29 : decode cX7_learn 29 = .ok (.iload_n 3, 1) := by decide +kernel
theorem dX7_learn_30 : decode cX7_learn 30 = .ok (.aload_n 1, 1) := by decide +kernel
theorem dX7_learn_31 : decode cX7_learn 31 = .ok (.getfield 78, 3) := by decide +kernel
theorem dX7_learn_34 : decode cX7_learn 34 = .ok (.aload_n 1, 1) := by decide +kernel
theorem dX7_learn_35 : decode cX7_learn 35 = .ok (.invokevirtual 81, 3) := by decide +kernel
theorem dX7_learn_38 : decode cX7_learn 38 = .ok (.invokevirtual 84, 3) := by decide +kernel
theorem dX7_learn_41 : decode cX7_learn 41 = .ok (.iconst 1, 1) := by decide +kernel
theorem dX7_learn_42 : decode cX7_learn 42 = .ok (.iload_n 3, 1) := by decide +kernel
theorem dX7_learn_43 : decode cX7_learn 43 = .ok (.ishl, 1) := by decide +kernel
theorem dX7_learn_44 : decode cX7_learn 44 = .ok (.ior, 1) := by decide +kernel
theorem dX7_learn_45 : decode cX7_learn 45 = .ok (.goto 4, 3) := by decide +kernel
theorem dX7_learn_48 : decode cX7_learn 48 = .ok (.iconst 0, 1) := by decide +kernel
theorem dX7_learn_49 : decode cX7_learn 49 = .ok (.iastore, 1) := by decide +kernel
theorem dX7_learn_50 : decode cX7_learn 50 = .ok (.iinc 2 1, 3) := by decide +kernel
theorem dX7_learn_53 : decode cX7_learn 53 = .ok (.goto (-51), 3) := by decide +kernel
theorem dX7_learn_56 : decode cX7_learn 56 = .ok (.iconst 0, 1) := by decide +kernel
theorem dX7_learn_57 : decode cX7_learn 57 = .ok (.istore_n 2, 1) := by decide +kernel
theorem dX7_learn_58 : decode cX7_learn 58 = .ok (.iload_n 2, 1) := by decide +kernel
theorem dX7_learn_59 : decode cX7_learn 59 = .ok (.bipush 8, 2) := by decide +kernel
theorem dX7_learn_61 : decode cX7_learn 61 = .ok (.if_icmp .ge 16, 3) := by decide +kernel
theorem dX7_learn_64 : decode cX7_learn 64 = .ok (.aload_n 0, 1) := by decide +kernel
theorem dX7_learn_65 : decode cX7_learn 65 = .ok (.getfield 25, 3) := by decide +kernel
theorem dX7_learn_68 : decode cX7_learn 68 = .ok (.iload_n 2, 1) := by decide +kernel
theorem dX7_learn_69 : decode cX7_learn 69 = .ok (.iconst 0, 1) := by decide +kernel
theorem dX7_learn_70 : decode cX7_learn 70 = .ok (.iastore, 1) := by decide +kernel
theorem dX7_learn_71 : decode cX7_learn 71 = .ok (.iinc 2 1, 3) := by decide +kernel
theorem dX7_learn_74 : decode cX7_learn 74 = .ok (.goto (-16), 3) := by decide +kernel
theorem dX7_learn_77 : decode cX7_learn 77 = .ok (.return_, 1) := by decide +kernel
theorem dX7_isSo_0 : decode cX7_isSo 0 = .ok (.iconst 0, 1) := by decide +kernel
theorem dX7_isSo_1 : decode cX7_isSo 1 = .ok (.istore_n 3, 1) := by decide +kernel
theorem dX7_isSo_2 : decode cX7_isSo 2 = .ok (.iload_n 3, 1) := by decide +kernel
theorem dX7_isSo_3 : decode cX7_isSo 3 = .ok (.bipush 6, 2) := by decide +kernel
theorem dX7_isSo_5 : decode cX7_isSo 5 = .ok (.if_icmp .ge 67, 3) := by decide +kernel
theorem dX7_isSo_8 : decode cX7_isSo 8 = .ok (.iload_n 3, 1) := by decide +kernel
theorem dX7_isSo_9 : decode cX7_isSo 9 = .ok (.aload_n 0, 1) := by decide +kernel
theorem dX7_isSo_10 : decode cX7_isSo 10 = .ok (.getfield 28, 3) := by decide +kernel
theorem dX7_isSo_13 : decode cX7_isSo 13 = .ok (.if_icmp .ge 59, 3) := by decide +kernel
theorem dX7_isSo_16 : decode cX7_isSo 16 = .ok (.aload_n 0, 1) := by decide +kernel
theorem dX7_isSo_17 : decode cX7_isSo 17 = .ok (.getfield 22, 3) := by decide +kernel
theorem dX7_isSo_20 : decode cX7_isSo 20 = .ok (.iload_n 3, 1) := by decide +kernel
theorem dX7_isSo_21 : decode cX7_isSo 21 = .ok (.iaload, 1) := by decide +kernel
theorem dX7_isSo_22 : decode cX7_isSo 22 = .ok (.iload_n 1, 1) := by decide +kernel
theorem dX7_isSo_23 : decode cX7_isSo 23 = .ok (.iand, 1) := by decide +kernel
theorem dX7_isSo_24 : decode cX7_isSo 24 = .ok (.invokestatic 88, 3) := by decide +kernel
theorem dX7_isSo_27 : decode cX7_isSo 27 = .ok (.aload_n 0, 1) := by decide +kernel
theorem dX7_isSo_28 : decode cX7_isSo 28 = .ok (.getfield 15, 3) := by decide +kernel
theorem dX7_isSo_31 : decode cX7_isSo 31 = .ok (.iload_n 3, 1) := by decide +kernel
theorem dX7_isSo_32 : decode cX7_isSo 32 = .ok (.iaload, 1) := by decide +kernel
theorem dX7_isSo_33 : decode cX7_isSo 33 = .ok (.if_icmp .lt 7, 3) := by decide +kernel
theorem dX7_isSo_36 : decode cX7_isSo 36 = .ok (.iconst 1, 1) := by decide +kernel
theorem dX7_isSo_37 : decode cX7_isSo 37 = .ok (.goto 4, 3) := by decide +kernel
theorem dX7_isSo_40 : decode cX7_isSo 40 = .ok (.iconst 0, 1) := by decide +kernel
theorem dX7_isSo_41 : decode cX7_isSo 41 = .ok (.istore 4, 2) := by decide +kernel
theorem dX7_isSo_43 : decode cX7_isSo 43 = .ok (.aload_n 0, 1) := by decide +kernel
theorem dX7_isSo_44 : decode cX7_isSo 44 = .ok (.getfield 9, 3) := by decide +kernel
theorem dX7_isSo_47 : decode cX7_isSo 47 = .ok (.iload_n 3, 1) := by decide +kernel
theorem dX7_isSo_48 : decode cX7_isSo 48 = .ok (.iaload, 1) := by decide +kernel
theorem dX7_isSo_49 : decode cX7_isSo 49 = .ok (.iload_n 2, 1) := by decide +kernel
theorem dX7_isSo_50 : decode cX7_isSo 50 = .ok (.if_icmp .ge 16, 3) := by decide +kernel
theorem dX7_isSo_53 : decode cX7_isSo 53 = .ok (.iload 4, 2) := by decide +kernel
theorem dX7_isSo_55 : decode cX7_isSo 55 = .ok (.aload_n 0, 1) := by decide +kernel
theorem dX7_isSo_56 : decode cX7_isSo 56 = .ok (.getfield 18, 3) := by decide +kernel
theorem dX7_isSo_59 : decode cX7_isSo 59 = .ok (.iload_n 3, 1) := by decide +kernel
theorem dX7_isSo_60 : decode cX7_isSo 60 = .ok (.baload, 1) := by decide +kernel
theorem dX7_isSo_61 : decode cX7_isSo 61 = .ok (.if_icmp .eq 5, 3) := by decide +kernel
theorem dX7_isSo_64 : decode cX7_isSo 64 = .ok (.iconst 0, 1) := by decide +kernel
theorem dX7_isSo_65 : decode cX7_isSo 65 = .ok (.ireturn, 1) := by decide +kernel
theorem dX7_isSo_66 : decode cX7_isSo 66 = .ok (.iinc 3 1, 3) := by decide +kernel
theorem dX7_isSo_69 : decode cX7_isSo 69 = .ok (.goto (-67), 3) := by decide +kernel
theorem dX7_isSo_72 : decode cX7_isSo 72 = .ok (.iconst 1, 1) := by decide +kernel
theorem dX7_isSo_73 : decode cX7_isSo 73 = .ok (.ireturn, 1) := by decide +kernel
theorem dX7_tally_0 : decode cX7_tally 0 = .ok (.iconst 0, 1) := by decide +kernel
theorem dX7_tally_1 : decode cX7_tally 1 = .ok (.istore_n 2, 1) := by decide +kernel
theorem dX7_tally_2 : decode cX7_tally 2 = .ok (.iload_n 2, 1) := by decide +kernel
theorem dX7_tally_3 : decode cX7_tally 3 = .ok (.bipush 8, 2) := by decide +kernel
theorem dX7_tally_5 : decode cX7_tally 5 = .ok (.if_icmp .ge 23, 3) := by decide +kernel
theorem dX7_tally_8 : decode cX7_tally 8 = .ok (.aload_n 0, 1) := by decide +kernel
theorem dX7_tally_9 : decode cX7_tally 9 = .ok (.getfield 25, 3) := by decide +kernel
theorem dX7_tally_12 : decode cX7_tally 12 = .ok (.iload_n 2, 1) := by decide +kernel
theorem dX7_tally_13 : decode cX7_tally 13 = .ok (.dup2, 1) := by decide +kernel
theorem dX7_tally_14 : decode cX7_tally 14 = .ok (.iaload, 1) := by decide +kernel
theorem dX7_tally_15 : decode cX7_tally 15 = .ok (.iload_n 1, 1) := by decide +kernel
theorem dX7_tally_16 : decode cX7_tally 16 = .ok (.iload_n 2, 1) := by decide +kernel
theorem dX7_tally_17 : decode cX7_tally 17 = .ok (.ishr, 1) := by decide +kernel
theorem dX7_tally_18 : decode cX7_tally 18 = .ok (.iconst 1, 1) := by decide +kernel
theorem dX7_tally_19 : decode cX7_tally 19 = .ok (.iand, 1) := by decide +kernel
theorem dX7_tally_20 : decode cX7_tally 20 = .ok (.iadd, 1) := by decide +kernel
theorem dX7_tally_21 : decode cX7_tally 21 = .ok (.iastore, 1) := by decide +kernel
theorem dX7_tally_22 : decode cX7_tally 22 = .ok (.iinc 2 1, 3) := by decide +kernel
theorem dX7_tally_25 : decode cX7_tally 25 = .ok (.goto (-23), 3) := by decide +kernel
theorem dX7_tally_28 : decode cX7_tally 28 = .ok (.return_, 1) := by decide +kernel
theorem dX8_init_0 : decode cX8_init 0 = .ok (.aload_n 0, 1) := by decide +kernel
theorem dX8_init_1 : decode cX8_init 1 = .ok (.invokespecial 3, 3) := by decide +kernel
theorem dX8_init_4 : decode cX8_init 4 = .ok (.aload_n 0, 1) := by decide +kernel
theorem dX8_init_5 : decode cX8_init 5 = .ok (.bipush 56, 2) := by decide +kernel
theorem dX8_init_7 : decode cX8_init 7 = .ok (.newarray .int, 2) := by decide +kernel
theorem dX8_init_9 : decode cX8_init 9 = .ok (.putfield 9, 3) := by decide +kernel
theorem dX8_init_12 : decode cX8_init 12 = .ok (.return_, 1) := by decide +kernel
theorem dX8_append_0 : decode cX8_append 0 = .ok (.aload_n 0, 1) := by decide +kernel
theorem dX8_append_1 : decode cX8_append 1 = .ok (.getfield 15, 3) := by decide +kernel
theorem dX8_append_4 : decode cX8_append 4 = .ok (.ifCond .lt 15, 3) := by decide +kernel
theorem dX8_append_7 : decode cX8_append 7 = .ok (.aload_n 0, 1) := by decide +kernel
theorem dX8_append_8 : decode cX8_append 8 = .ok (.getfield 15, 3) := by decide +kernel
theorem dX8_append_11 : decode cX8_append 11 = .ok (.aload_n 0, 1) := by decide +kernel
theorem dX8_append_12 : decode cX8_append 12 = .ok (.getfield 9, 3) := by decide +kernel
theorem dX8_append_15 : decode cX8_append 15 = .ok (.arraylength, 1) := by decide +kernel
theorem dX8_append_16 : decode cX8_append 16 = .ok (.if_icmp .lt 5, 3) := by decide +kernel
theorem dX8_append_19 : decode cX8_append 19 = .ok (.iconst 0, 1) := by decide +kernel
theorem dX8_append_20 : decode cX8_append 20 = .ok (.ireturn, 1) := by decide +kernel
theorem dX8_append_21 : decode cX8_append 21 = .ok (.aload_n 0, 1) := by decide +kernel
theorem dX8_append_22 : decode cX8_append 22 = .ok (.getfield 9, 3) := by decide +kernel
theorem dX8_append_25 : decode cX8_append 25 = .ok (.aload_n 0, 1) := by decide +kernel
theorem dX8_append_26 : decode cX8_append 26 = .ok (.getfield 15, 3) := by decide +kernel
theorem dX8_append_29 : decode cX8_append 29 = .ok (.iload_n 1, 1) := by decide +kernel
theorem dX8_append_30 : decode cX8_append 30 = .ok (.iastore, 1) := by decide +kernel
theorem dX8_append_31 : decode cX8_append 31 = .ok (.aload_n 0, 1) := by decide +kernel
theorem dX8_append_32 : decode cX8_append 32 = .ok (.dup, 1) := by decide +kernel
theorem dX8_append_33 : decode cX8_append 33 = .ok (.getfield 15, 3) := by decide +kernel
theorem dX8_append_36 : decode cX8_append 36 = .ok (.iconst 1, 1) := by decide +kernel
theorem dX8_append_37 : decode cX8_append 37 = .ok (.iadd, 1) := by decide +kernel
theorem dX8_append_38 : decode cX8_append 38 = .ok (.putfield 15, 3) := by decide +kernel
theorem dX8_append_41 : decode cX8_append 41 = .ok (.iconst 1, 1) := by decide +kernel
theorem dX8_append_42 : decode cX8_append 42 = .ok (.ireturn, 1) := by decide +kernel
theorem dX8_firstFault_0 : decode cX8_firstFault 0 = .ok (.iconst 0, 1) := by decide +kernel
theorem dX8_firstFault_1 : decode cX8_firstFault 1 = .ok (.istore_n 1, 1) := by decide +kernel
theorem dX8_firstFault_2 : decode cX8_firstFault 2 = .ok (.iload_n 1, 1) := by decide +kernel
theorem dX8_firstFault_3 : decode cX8_firstFault 3 = .ok (.aload_n 0, 1) := by decide +kernel
theorem dX8_firstFault_4 : decode cX8_firstFault 4 = .ok (.getfield 15, 3) := by decide +kernel
theorem dX8_firstFault_7 : decode cX8_firstFault 7 = .ok (.if_icmp .ge 19, 3) := by decide +kernel
theorem dX8_firstFault_10 : decode cX8_firstFault 10 = .ok (.aload_n 0, 1) := by decide +kernel
theorem dX8_firstFault_11 : decode cX8_firstFault 11 = .ok (.iload_n 1, 1) := by decide +kernel
theorem dX8_firstFault_12 : decode cX8_firstFault 12 = .ok (.invokevirtual 19, 3) := by decide +kernel
theorem dX8_firstFault_15 : decode cX8_firstFault 15 = .ok (.ifCond .ne 5, 3) := by decide +kernel
theorem dX8_firstFault_18 : decode cX8_firstFault 18 = .ok (.iload_n 1, 1) := by decide +kernel
theorem dX8_firstFault_19 : decode cX8_firstFault 19 = .ok (.ireturn, 1) := by decide +kernel
theorem dX8_firstFault_20 : decode cX8_firstFault 20 = .ok (.iinc 1 1, 3) := by decide +kernel
theorem dX8_firstFault_23 : decode cX8_firstFault 23 = .ok (.goto (-21), 3) := by decide +kernel
theorem dX8_firstFault_26 : decode cX8_firstFault 26 = .ok (.aload_n 0, 1) := by decide +kernel
theorem dX8_firstFault_27 : decode cX8_firstFault 27 = .ok (.getfield 15, 3) := by decide +kernel
theorem dX8_firstFault_30 : decode cX8_firstFault 30 = .ok (.iconst 2, 1) := by decide +kernel
theorem dX8_firstFault_31 : decode cX8_firstFault 31 = .ok (.if_icmp .lt 19, 3) := by decide +kernel
theorem dX8_firstFault_34 : decode cX8_firstFault 34 = .ok (.aload_n 0, 1) := by decide +kernel
theorem dX8_firstFault_35 : decode cX8_firstFault 35 = .ok (.getfield 15, 3) := by decide +kernel
theorem dX8_firstFault_38 : decode cX8_firstFault 38 = .ok (.iconst 2, 1) := by decide +kernel
theorem dX8_firstFault_39 : decode cX8_firstFault 39 = .ok (.isub, 1) := by decide +kernel
theorem dX8_firstFault_40 : decode cX8_firstFault 40 = .ok (.bipush 9, 2) := by decide +kernel
theorem dX8_firstFault_42 : decode cX8_firstFault 42 = .ok (.irem, 1) := by decide +kernel
theorem dX8_firstFault_43 : decode cX8_firstFault 43 = .ok (.ifCond .ne 7, 3) := by decide +kernel
theorem dX8_firstFault_46 : decode cX8_firstFault 46 = .ok (.iconst 1, 1) := by decide +kernel
theorem dX8_firstFault_47 : decode cX8_firstFault 47 = .ok (.goto 4, 3) := by decide +kernel
theorem dX8_firstFault_50 : decode cX8_firstFault 50 = .ok (.iconst 0, 1) := by decide +kernel
theorem dX8_firstFault_51 : decode cX8_firstFault 51 = .ok (.istore_n 1, 1) := by decide +kernel
theorem dX8_firstFault_52 : decode cX8_firstFault 52 = .ok (.iload_n 1, 1) := by decide +kernel
theorem dX8_firstFault_53 : decode cX8_firstFault 53 = .ok (.ifCond .eq 8, 3) := by decide +kernel
theorem dX8_firstFault_56 : decode cX8_firstFault 56 = .ok (.bipush (-9), 2) := by decide +kernel
theorem dX8_firstFault_58 : decode cX8_firstFault 58 = .ok (.goto 7, 3) := by decide +kernel
theorem dX8_firstFault_61 : decode cX8_firstFault 61 = .ok (.aload_n 0, 1) := by decide +kernel
theorem dX8_firstFault_62 : decode cX8_firstFault 62 = .ok (.getfield 15, 3) := by decide +kernel
theorem dX8_firstFault_65 : decode cX8_firstFault 65 = .ok (.ireturn, 1) := by decide +kernel
theorem dX8_things_0 : decode cX8_things 0 = .ok (.iconst 0, 1) := by decide +kernel
theorem dX8_things_1 : decode cX8_things 1 = .ok (.aload_n 0, 1) := by decide +kernel
theorem dX8_things_2 : decode cX8_things 2 = .ok (.getfield 15, 3) := by decide +kernel
theorem dX8_things_5 : decode cX8_things 5 = .ok (.iconst 2, 1) := by decide +kernel
theorem dX8_things_6 : decode cX8_things 6 = .ok (.isub, 1) := by decide +kernel
theorem dX8_things_7 : decode cX8_things 7 = .ok (.bipush 9, 2) := by decide +kernel
theorem dX8_things_9 : decode cX8_things 9 = .ok (.idiv, 1) := by decide +kernel
theorem dX8_things_10 : decode cX8_things 10 = .ok (.invokestatic 23, 3) := by decide +kernel
theorem dX8_things_13 : decode cX8_things 13 = .ok (.ireturn, 1) := by decide +kernel
theorem dX8_wordTold_0 : decode cX8_wordTold 0 = .ok (.aload_n 0, 1) := by decide +kernel
theorem dX8_wordTold_1 : decode cX8_wordTold 1 = .ok (.getfield 9, 3) := by decide +kernel
theorem dX8_wordTold_4 : decode cX8_wordTold 4 = .ok (.iconst 1, 1) := by decide +kernel
theorem dX8_wordTold_5 : decode cX8_wordTold 5 = .ok (.invokestatic 29, 3) := by decide +kernel
theorem dX8_wordTold_8 : decode cX8_wordTold 8 = .ok (.bipush 48, 2) := by decide +kernel
theorem dX8_wordTold_10 : decode cX8_wordTold 10 = .ok (.isub, 1) := by decide +kernel
theorem dX8_wordTold_11 : decode cX8_wordTold 11 = .ok (.ireturn, 1) := by decide +kernel
theorem dX8_figureTold_0 : decode cX8_figureTold 0 = .ok (.aload_n 0, 1) := by decide +kernel
theorem dX8_figureTold_1 : decode cX8_figureTold 1 = .ok (.getfield 9, 3) := by decide +kernel
theorem dX8_figureTold_4 : decode cX8_figureTold 4 = .ok (.iconst 2, 1) := by decide +kernel
theorem dX8_figureTold_5 : decode cX8_figureTold 5 = .ok (.iload_n 1, 1) := by decide +kernel
theorem dX8_figureTold_6 : decode cX8_figureTold 6 = .ok (.bipush 9, 2) := by decide +kernel
theorem dX8_figureTold_8 : decode cX8_figureTold 8 = .ok (.imul, 1) := by decide +kernel
theorem dX8_figureTold_9 : decode cX8_figureTold 9 = .ok (.iadd, 1) := by decide +kernel
theorem dX8_figureTold_10 : decode cX8_figureTold 10 = .ok (.iconst 1, 1) := by decide +kernel
theorem dX8_figureTold_11 : decode cX8_figureTold 11 = .ok (.iadd, 1) := by decide +kernel
theorem dX8_figureTold_12 : decode cX8_figureTold 12 = .ok (.iload_n 2, 1) := by decide +kernel
theorem dX8_figureTold_13 : decode cX8_figureTold 13 = .ok (.iadd, 1) := by decide +kernel
theorem dX8_figureTold_14 : decode cX8_figureTold 14 = .ok (.invokestatic 29, 3) := by decide +kernel
theorem dX8_figureTold_17 : decode cX8_figureTold 17 = .ok (.bipush 48, 2) := by decide +kernel
theorem dX8_figureTold_19 : decode cX8_figureTold 19 = .ok (.isub, 1) := by decide +kernel
theorem dX8_figureTold_20 : decode cX8_figureTold 20 = .ok (.ireturn, 1) := by decide +kernel
theorem dX8_fits_0 : decode cX8_fits 0 = .ok (.iload_n 1, 1) := by decide +kernel
theorem dX8_fits_1 : decode cX8_fits 1 = .ok (.ifCond .ne 22, 3) := by decide +kernel
theorem dX8_fits_4 : decode cX8_fits 4 = .ok (.aload_n 0, 1) := by decide +kernel
theorem dX8_fits_5 : decode cX8_fits 5 = .ok (.getfield 9, 3) := by decide +kernel
theorem dX8_fits_8 : decode cX8_fits 8 = .ok (.iload_n 1, 1) := by decide +kernel
theorem dX8_fits_9 : decode cX8_fits 9 = .ok (.invokestatic 29, 3) := by decide +kernel
theorem dX8_fits_12 : decode cX8_fits 12 = .ok (.bipush 75, 2) := by decide +kernel
theorem dX8_fits_14 : decode cX8_fits 14 = .ok (.if_icmp .ne 7, 3) := by decide +kernel
theorem dX8_fits_17 : decode cX8_fits 17 = .ok (.iconst 1, 1) := by decide +kernel
theorem dX8_fits_18 : decode cX8_fits 18 = .ok (.goto 4, 3) := by decide +kernel
theorem dX8_fits_21 : decode cX8_fits 21 = .ok (.iconst 0, 1) := by decide +kernel
theorem dX8_fits_22 : decode cX8_fits 22 = .ok (.ireturn, 1) := by decide +kernel
theorem dX8_fits_23 : decode cX8_fits 23 = .ok (.iload_n 1, 1) := by decide +kernel
theorem dX8_fits_24 : decode cX8_fits 24 = .ok (.iconst 1, 1) := by decide +kernel
theorem dX8_fits_25 : decode cX8_fits 25 = .ok (.if_icmp .ne 13, 3) := by decide +kernel
theorem dX8_fits_28 : decode cX8_fits 28 = .ok (.aload_n 0, 1) := by decide +kernel
theorem dX8_fits_29 : decode cX8_fits 29 = .ok (.iload_n 1, 1) := by decide +kernel
theorem dX8_fits_30 : decode cX8_fits 30 = .ok (.bipush 49, 2) := by decide +kernel
theorem dX8_fits_32 : decode cX8_fits 32 = .ok (.bipush 52, 2) := by decide +kernel
theorem dX8_fits_34 : decode cX8_fits 34 = .ok (.invokevirtual 33, 3) := by decide +kernel
theorem dX8_fits_37 : decode cX8_fits 37 = .ok (.ireturn, 1) := by decide +kernel
theorem dX8_fits_38 : decode cX8_fits 38 = .ok (.iload_n 1, 1) := by decide +kernel
theorem dX8_fits_39 : decode cX8_fits 39 = .ok (.iconst 2, 1) := by decide +kernel
theorem dX8_fits_40 : decode cX8_fits 40 = .ok (.isub, 1) := by decide +kernel
theorem dX8_fits_41 : decode cX8_fits 41 = .ok (.bipush 9, 2) := by decide +kernel
theorem dX8_fits_43 : decode cX8_fits 43 = .ok (.irem, 1) := by decide +kernel
theorem dX8_fits_44 : decode cX8_fits 44 = .ok (.istore_n 2, 1) := by decide +kernel
theorem dX8_fits_45 : decode cX8_fits 45 = .ok (.iload_n 2, 1) := by decide +kernel
theorem dX8_fits_46 : decode cX8_fits 46 = .ok (.iconst 1, 1) := by decide +kernel
theorem dX8_fits_47 : decode cX8_fits 47 = .ok (.isub, 1) := by decide +kernel
theorem dX8_fits_48 : decode cX8_fits 48 = .ok (.tableswitch 111 (-1) 7 #[52, 111, 111, 111, 111, 71, 81, 91, 101], 52) := by decide +kernel
theorem dX8_fits_100 : decode cX8_fits 100 = .ok (.aload_n 0, 1) := by decide +kernel
theorem dX8_fits_101 : decode cX8_fits 101 = .ok (.getfield 9, 3) := by decide +kernel
theorem dX8_fits_104 : decode cX8_fits 104 = .ok (.iload_n 1, 1) := by decide +kernel
theorem dX8_fits_105 : decode cX8_fits 105 = .ok (.invokestatic 29, 3) := by decide +kernel
theorem dX8_fits_108 : decode cX8_fits 108 = .ok (.bipush 88, 2) := by decide +kernel
theorem dX8_fits_110 : decode cX8_fits 110 = .ok (.if_icmp .ne 7, 3) := by decide +kernel
theorem dX8_fits_113 : decode cX8_fits 113 = .ok (.iconst 1, 1) := by decide +kernel
theorem dX8_fits_114 : decode cX8_fits 114 = .ok (.goto 4, 3) := by decide +kernel
theorem dX8_fits_117 : decode cX8_fits 117 = .ok (.iconst 0, 1) := by decide +kernel
theorem dX8_fits_118 : decode cX8_fits 118 = .ok (.ireturn, 1) := by decide +kernel
theorem dX8_fits_119 : decode cX8_fits 119 = .ok (.aload_n 0, 1) := by decide +kernel
theorem dX8_fits_120 : decode cX8_fits 120 = .ok (.iload_n 1, 1) := by decide +kernel
theorem dX8_fits_121 : decode cX8_fits 121 = .ok (.bipush 48, 2) := by decide +kernel
theorem dX8_fits_123 : decode cX8_fits 123 = .ok (.bipush 50, 2) := by decide +kernel
theorem dX8_fits_125 : decode cX8_fits 125 = .ok (.invokevirtual 33, 3) := by decide +kernel
theorem dX8_fits_128 : decode cX8_fits 128 = .ok (.ireturn, 1) := by decide +kernel
theorem dX8_fits_129 : decode cX8_fits 129 = .ok (.aload_n 0, 1) := by decide +kernel
theorem dX8_fits_130 : decode cX8_fits 130 = .ok (.iload_n 1, 1) := by decide +kernel
theorem dX8_fits_131 : decode cX8_fits 131 = .ok (.bipush 49, 2) := by decide +kernel
theorem dX8_fits_133 : decode cX8_fits 133 = .ok (.bipush 57, 2) := by decide +kernel
theorem dX8_fits_135 : decode cX8_fits 135 = .ok (.invokevirtual 33, 3) := by decide +kernel
theorem dX8_fits_138 : decode cX8_fits 138 = .ok (.ireturn, 1) := by decide +kernel
theorem dX8_fits_139 : decode cX8_fits 139 = .ok (.aload_n 0, 1) := by decide +kernel
theorem dX8_fits_140 : decode cX8_fits 140 = .ok (.iload_n 1, 1) := by decide +kernel
theorem dX8_fits_141 : decode cX8_fits 141 = .ok (.bipush 49, 2) := by decide +kernel
theorem dX8_fits_143 : decode cX8_fits 143 = .ok (.bipush 57, 2) := by decide +kernel
theorem dX8_fits_145 : decode cX8_fits 145 = .ok (.invokevirtual 33, 3) := by decide +kernel
theorem dX8_fits_148 : decode cX8_fits 148 = .ok (.ireturn, 1) := by decide +kernel
theorem dX8_fits_149 : decode cX8_fits 149 = .ok (.aload_n 0, 1) := by decide +kernel
theorem dX8_fits_150 : decode cX8_fits 150 = .ok (.iload_n 1, 1) := by decide +kernel
theorem dX8_fits_151 : decode cX8_fits 151 = .ok (.bipush 48, 2) := by decide +kernel
theorem dX8_fits_153 : decode cX8_fits 153 = .ok (.bipush 49, 2) := by decide +kernel
theorem dX8_fits_155 : decode cX8_fits 155 = .ok (.invokevirtual 33, 3) := by decide +kernel
theorem dX8_fits_158 : decode cX8_fits 158 = .ok (.ireturn, 1) := by decide +kernel
theorem dX8_fits_159 : decode cX8_fits 159 = .ok (.aload_n 0, 1) := by decide +kernel
theorem dX8_fits_160 : decode cX8_fits 160 = .ok (.iload_n 1, 1) := by decide +kernel
theorem dX8_fits_161 : decode cX8_fits 161 = .ok (.bipush 48, 2) := by decide +kernel
theorem dX8_fits_163 : decode cX8_fits 163 = .ok (.bipush 57, 2) := by decide +kernel
theorem dX8_fits_165 : decode cX8_fits 165 = .ok (.invokevirtual 33, 3) := by decide +kernel
theorem dX8_fits_168 : decode cX8_fits 168 = .ok (.ireturn, 1) := by decide +kernel
theorem dX8_isWithin_0 : decode cX8_isWithin 0 = .ok (.aload_n 0, 1) := by decide +kernel
theorem dX8_isWithin_1 : decode cX8_isWithin 1 = .ok (.getfield 9, 3) := by decide +kernel
theorem dX8_isWithin_4 : decode cX8_isWithin 4 = .ok (.iload_n 1, 1) := by decide +kernel
theorem dX8_isWithin_5 : decode cX8_isWithin 5 = .ok (.invokestatic 29, 3) := by decide +kernel
theorem dX8_isWithin_8 : decode cX8_isWithin 8 = .ok (.istore 4, 2) := by decide +kernel
theorem dX8_isWithin_10 : decode cX8_isWithin 10 = .ok (.iload 4, 2) := by decide +kernel
theorem dX8_isWithin_12 : decode cX8_isWithin 12 = .ok (.iload_n 2, 1) := by decide +kernel
theorem dX8_isWithin_13 : decode cX8_isWithin 13 = .ok (.if_icmp .lt 13, 3) := by decide +kernel
theorem dX8_isWithin_16 : decode cX8_isWithin 16 = .ok (.iload 4, 2) := by decide +kernel
theorem dX8_isWithin_18 : decode cX8_isWithin 18 = .ok (.iload_n 3, 1) := by decide +kernel
theorem dX8_isWithin_19 : decode cX8_isWithin 19 = .ok (.if_icmp .gt 7, 3) := by decide +kernel
theorem dX8_isWithin_22 : decode cX8_isWithin 22 = .ok (.iconst 1, 1) := by decide +kernel
theorem dX8_isWithin_23 : decode cX8_isWithin 23 = .ok (.goto 4, 3) := by decide +kernel
theorem dX8_isWithin_26 : decode cX8_isWithin 26 = .ok (.iconst 0, 1) := by decide +kernel
theorem dX8_isWithin_27 : decode cX8_isWithin 27 = .ok (.ireturn, 1) := by decide +kernel
theorem dX9_init_0 : decode cX9_init 0 = .ok (.aload_n 0, 1) := by decide +kernel
theorem dX9_init_1 : decode cX9_init 1 = .ok (.invokespecial 1, 3) := by decide +kernel
theorem dX9_init_4 : decode cX9_init 4 = .ok (.aload_n 0, 1) := by decide +kernel
theorem dX9_init_5 : decode cX9_init 5 = .ok (.new 7, 3) := by decide +kernel
theorem dX9_init_8 : decode cX9_init 8 = .ok (.dup, 1) := by decide +kernel
theorem dX9_init_9 : decode cX9_init 9 = .ok (.invokespecial 9, 3) := by decide +kernel
theorem dX9_init_12 : decode cX9_init 12 = .ok (.putfield 10, 3) := by decide +kernel
theorem dX9_init_15 : decode cX9_init 15 = .ok (.aload_n 0, 1) := by decide +kernel
theorem dX9_init_16 : decode cX9_init 16 = .ok (.new 16, 3) := by decide +kernel
theorem dX9_init_19 : decode cX9_init 19 = .ok (.dup, 1) := by decide +kernel
theorem dX9_init_20 : decode cX9_init 20 = .ok (.invokespecial 18, 3) := by decide +kernel
theorem dX9_init_23 : decode cX9_init 23 = .ok (.putfield 19, 3) := by decide +kernel
theorem dX9_init_26 : decode cX9_init 26 = .ok (.aload_n 0, 1) := by decide +kernel
theorem dX9_init_27 : decode cX9_init 27 = .ok (.new 16, 3) := by decide +kernel
theorem dX9_init_30 : decode cX9_init 30 = .ok (.dup, 1) := by decide +kernel
theorem dX9_init_31 : decode cX9_init 31 = .ok (.invokespecial 18, 3) := by decide +kernel
theorem dX9_init_34 : decode cX9_init 34 = .ok (.putfield 23, 3) := by decide +kernel
theorem dX9_init_37 : decode cX9_init 37 = .ok (.aload_n 0, 1) := by decide +kernel
theorem dX9_init_38 : decode cX9_init 38 = .ok (.new 26, 3) := by decide +kernel
theorem dX9_init_41 : decode cX9_init 41 = .ok (.dup, 1) := by decide +kernel
theorem dX9_init_42 : decode cX9_init 42 = .ok (.invokespecial 28, 3) := by decide +kernel
theorem dX9_init_45 : decode cX9_init 45 = .ok (.putfield 29, 3) := by decide +kernel
theorem dX9_init_48 : decode cX9_init 48 = .ok (.aload_n 0, 1) := by decide +kernel
theorem dX9_init_49 : decode cX9_init 49 = .ok (.iconst 2, 1) := by decide +kernel
theorem dX9_init_50 : decode cX9_init 50 = .ok (.anewarray 16, 3) := by decide +kernel
theorem dX9_init_53 : decode cX9_init 53 = .ok (.putfield 33, 3) := by decide +kernel
theorem dX9_init_56 : decode cX9_init 56 = .ok (.iconst 0, 1) := by decide +kernel
theorem dX9_init_57 : decode cX9_init 57 = .ok (.istore_n 1, 1) := by decide +kernel
theorem dX9_init_58 : decode cX9_init 58 = .ok (.iload_n 1, 1) := by decide +kernel
theorem dX9_init_59 : decode cX9_init 59 = .ok (.iconst 2, 1) := by decide +kernel
theorem dX9_init_60 : decode cX9_init 60 = .ok (.if_icmp .ge 22, 3) := by decide +kernel
theorem dX9_init_63 : decode cX9_init 63 = .ok (.aload_n 0, 1) := by decide +kernel
theorem dX9_init_64 : decode cX9_init 64 = .ok (.getfield 33, 3) := by decide +kernel
theorem dX9_init_67 : decode cX9_init 67 = .ok (.iload_n 1, 1) := by decide +kernel
theorem dX9_init_68 : decode cX9_init 68 = .ok (.new 16, 3) := by decide +kernel
end
section
theorem dX9_init_71 : decode cX9_init 71 = .ok (.dup, 1) := by decide +kernel
theorem dX9_init_72 : decode cX9_init 72 = .ok (.invokespecial 18, 3) := by decide +kernel
theorem dX9_init_75 : decode cX9_init 75 = .ok (.aastore, 1) := by decide +kernel
theorem dX9_init_76 : decode cX9_init 76 = .ok (.iinc 1 1, 3) := by decide +kernel
theorem dX9_init_79 : decode cX9_init 79 = .ok (.goto (-21), 3) := by decide +kernel
theorem dX9_init_82 : decode cX9_init 82 = .ok (.aload_n 0, 1) := by decide +kernel
theorem dX9_init_83 : decode cX9_init 83 = .ok (.new 37, 3) := by decide +kernel
theorem dX9_init_86 : decode cX9_init 86 = .ok (.dup, 1) := by decide +kernel
theorem dX9_init_87 : decode cX9_init 87 = .ok (.invokespecial 39, 3) := by decide +kernel
theorem dX9_init_90 : decode cX9_init 90 = .ok (.putfield 40, 3) := by decide +kernel
theorem dX9_init_93 : decode cX9_init 93 = .ok (.aload_n 0, 1) := by decide +kernel
theorem dX9_init_94 : decode cX9_init 94 = .ok (.new 44, 3) := by decide +kernel
theorem dX9_init_97 : decode cX9_init 97 = .ok (.dup, 1) := by decide +kernel
theorem dX9_init_98 : decode cX9_init 98 = .ok (.invokespecial 46, 3) := by decide +kernel
theorem dX9_init_101 : decode cX9_init 101 = .ok (.putfield 47, 3) := by decide +kernel
theorem dX9_init_104 : decode cX9_init 104 = .ok (.aload_n 0, 1) := by decide +kernel
theorem dX9_init_105 : decode cX9_init 105 = .ok (.new 51, 3) := by decide +kernel
theorem dX9_init_108 : decode cX9_init 108 = .ok (.dup, 1) := by decide +kernel
theorem dX9_init_109 : decode cX9_init 109 = .ok (.invokespecial 53, 3) := by decide +kernel
theorem dX9_init_112 : decode cX9_init 112 = .ok (.putfield 54, 3) := by decide +kernel
theorem dX9_init_115 : decode cX9_init 115 = .ok (.aload_n 0, 1) := by decide +kernel
theorem dX9_init_116 : decode cX9_init 116 = .ok (.new 58, 3) := by decide +kernel
theorem dX9_init_119 : decode cX9_init 119 = .ok (.dup, 1) := by decide +kernel
theorem dX9_init_120 : decode cX9_init 120 = .ok (.invokespecial 60, 3) := by decide +kernel
theorem dX9_init_123 : decode cX9_init 123 = .ok (.putfield 61, 3) := by decide +kernel
theorem dX9_init_126 : decode cX9_init 126 = .ok (.aload_n 0, 1) := by decide +kernel
theorem dX9_init_127 : decode cX9_init 127 = .ok (.new 65, 3) := by decide +kernel
theorem dX9_init_130 : decode cX9_init 130 = .ok (.dup, 1) := by decide +kernel
theorem dX9_init_131 : decode cX9_init 131 = .ok (.invokespecial 67, 3) := by decide +kernel
theorem dX9_init_134 : decode cX9_init 134 = .ok (.putfield 68, 3) := by decide +kernel
theorem dX9_init_137 : decode cX9_init 137 = .ok (.return_, 1) := by decide +kernel
theorem dX9_write_0 : decode cX9_write 0 = .ok (.iload_n 1, 1) := by decide +kernel
theorem dX9_write_1 : decode cX9_write 1 = .ok (.ifCond .lt 10, 3) := by decide +kernel
theorem dX9_write_4 : decode cX9_write 4 = .ok (.iload_n 1, 1) := by decide +kernel
theorem dX9_write_5 : decode cX9_write 5 = .ok (.sipush 255, 3) := by decide +kernel
theorem dX9_write_8 : decode cX9_write 8 = .ok (.if_icmp .le 6, 3) := by decide +kernel
theorem dX9_write_11 : decode cX9_write 11 = .ok (.bipush (-2), 2) := by decide +kernel
theorem dX9_write_13 : decode cX9_write 13 = .ok (.ireturn, 1) := by decide +kernel
theorem dX9_write_14 : decode cX9_write 14 = .ok (.aload_n 0, 1) := by decide +kernel
theorem dX9_write_15 : decode cX9_write 15 = .ok (.getfield 10, 3) := by decide +kernel
theorem dX9_write_18 : decode cX9_write 18 = .ok (.iload_n 1, 1) := by decide +kernel
theorem dX9_write_19 : decode cX9_write 19 = .ok (.invokevirtual 72, 3) := by decide +kernel
theorem dX9_write_22 : decode cX9_write 22 = .ok (.ifCond .eq 13, 3) := by decide +kernel
theorem dX9_write_25 : decode cX9_write 25 = .ok (.aload_n 0, 1) := by decide +kernel
theorem dX9_write_26 : decode cX9_write 26 = .ok (.getfield 10, 3) := by decide +kernel
theorem dX9_write_29 : decode cX9_write 29 = .ok (.getfield 76, 3) := by decide +kernel
theorem dX9_write_32 : decode cX9_write 32 = .ok (.goto 5, 3) := by decide +kernel
theorem dX9_write_35 : decode cX9_write 35 = .ok (.bipush (-4), 2) := by decide +kernel
theorem dX9_write_37 : decode cX9_write 37 = .ok (.ireturn, 1) := by decide +kernel
theorem dX9_wipe_0 : decode cX9_wipe 0 = .ok (.aload_n 0, 1) := by decide +kernel
theorem dX9_wipe_1 : decode cX9_wipe 1 = .ok (.getfield 10, 3) := by decide +kernel
theorem dX9_wipe_4 : decode cX9_wipe 4 = .ok (.getfield 76, 3) := by decide +kernel
theorem dX9_wipe_7 : decode cX9_wipe 7 = .ok (.istore_n 1, 1) := by decide +kernel
theorem dX9_wipe_8 : decode cX9_wipe 8 = .ok (.aload_n 0, 1) := by decide +kernel
theorem dX9_wipe_9 : decode cX9_wipe 9 = .ok (.getfield 10, 3) := by decide +kernel
theorem dX9_wipe_12 : decode cX9_wipe 12 = .ok (.iconst 0, 1) := by decide +kernel
theorem dX9_wipe_13 : decode cX9_wipe 13 = .ok (.putfield 76, 3) := by decide +kernel
theorem dX9_wipe_16 : decode cX9_wipe 16 = .ok (.iload_n 1, 1) := by decide +kernel
theorem dX9_wipe_17 : decode cX9_wipe 17 = .ok (.ireturn, 1) := by decide +kernel
theorem dX9_fault_0 : decode cX9_fault 0 = .ok (.aload_n 0, 1) := by decide +kernel
theorem dX9_fault_1 : decode cX9_fault 1 = .ok (.getfield 10, 3) := by decide +kernel
theorem dX9_fault_4 : decode cX9_fault 4 = .ok (.invokevirtual 80, 3) := by decide +kernel
theorem dX9_fault_7 : decode cX9_fault 7 = .ok (.ireturn, 1) := by decide +kernel
theorem dX9_house_0 : decode cX9_house 0 = .ok (.aload_n 0, 1) := by decide +kernel
theorem dX9_house_1 : decode cX9_house 1 = .ok (.getfield 10, 3) := by decide +kernel
theorem dX9_house_4 : decode cX9_house 4 = .ok (.invokevirtual 80, 3) := by decide +kernel
theorem dX9_house_7 : decode cX9_house 7 = .ok (.bipush (-9), 2) := by decide +kernel
theorem dX9_house_9 : decode cX9_house 9 = .ok (.if_icmp .eq 6, 3) := by decide +kernel
theorem dX9_house_12 : decode cX9_house 12 = .ok (.bipush (-3), 2) := by decide +kernel
theorem dX9_house_14 : decode cX9_house 14 = .ok (.ireturn, 1) := by decide +kernel
theorem dX9_house_15 : decode cX9_house 15 = .ok (.aload_n 0, 1) := by decide +kernel
theorem dX9_house_16 : decode cX9_house 16 = .ok (.getfield 19, 3) := by decide +kernel
theorem dX9_house_19 : decode cX9_house 19 = .ok (.aload_n 0, 1) := by decide +kernel
theorem dX9_house_20 : decode cX9_house 20 = .ok (.getfield 10, 3) := by decide +kernel
theorem dX9_house_23 : decode cX9_house 23 = .ok (.invokevirtual 84, 3) := by decide +kernel
theorem dX9_house_26 : decode cX9_house 26 = .ok (.aload_n 0, 1) := by decide +kernel
theorem dX9_house_27 : decode cX9_house 27 = .ok (.getfield 29, 3) := by decide +kernel
theorem dX9_house_30 : decode cX9_house 30 = .ok (.invokevirtual 88, 3) := by decide +kernel
theorem dX9_house_33 : decode cX9_house 33 = .ok (.aload_n 0, 1) := by decide +kernel
theorem dX9_house_34 : decode cX9_house 34 = .ok (.iconst 0, 1) := by decide +kernel
theorem dX9_house_35 : decode cX9_house 35 = .ok (.putfield 91, 3) := by decide +kernel
theorem dX9_house_38 : decode cX9_house 38 = .ok (.aload_n 0, 1) := by decide +kernel
theorem dX9_house_39 : decode cX9_house 39 = .ok (.getfield 19, 3) := by decide +kernel
theorem dX9_house_42 : decode cX9_house 42 = .ok (.getfield 94, 3) := by decide +kernel
theorem dX9_house_45 : decode cX9_house 45 = .ok (.ireturn, 1) := by decide +kernel
theorem dX9_thing_0 : decode cX9_thing 0 = .ok (.aload_n 0, 1) := by decide +kernel
theorem dX9_thing_1 : decode cX9_thing 1 = .ok (.getfield 19, 3) := by decide +kernel
theorem dX9_thing_4 : decode cX9_thing 4 = .ok (.iload_n 1, 1) := by decide +kernel
theorem dX9_thing_5 : decode cX9_thing 5 = .ok (.invokevirtual 97, 3) := by decide +kernel
theorem dX9_thing_8 : decode cX9_thing 8 = .ok (.ifCond .ne 5, 3) := by decide +kernel
theorem dX9_thing_11 : decode cX9_thing 11 = .ok (.iconst (-1), 1) := by decide +kernel
theorem dX9_thing_12 : decode cX9_thing 12 = .ok (.ireturn, 1) := by decide +kernel
theorem dX9_thing_13 : decode cX9_thing 13 = .ok (.iload_n 2, 1) := by decide +kernel
theorem dX9_thing_14 : decode cX9_thing 14 = .ok (.ifCond .lt 19, 3) := by decide +kernel
theorem dX9_thing_17 : decode cX9_thing 17 = .ok (.iload_n 2, 1) := by decide +kernel
theorem dX9_thing_18 : decode cX9_thing 18 = .ok (.bipush 7, 2) := by decide +kernel
theorem dX9_thing_20 : decode cX9_thing 20 = .ok (.if_icmp .ge 13, 3) := by decide +kernel
theorem dX9_thing_23 : decode cX9_thing 23 = .ok (.aload_n 0, 1) := by decide +kernel
theorem dX9_thing_24 : decode cX9_thing 24 = .ok (.getfield 19, 3) := by decide +kernel
theorem dX9_thing_27 : decode cX9_thing 27 = .ok (.iload_n 1, 1) := by decide +kernel
theorem dX9_thing_28 : decode cX9_thing 28 = .ok (.iload_n 2, 1) := by decide +kernel
theorem dX9_thing_29 : decode cX9_thing 29 = .ok (.invokevirtual 100, 3) := by decide +kernel
theorem dX9_thing_32 : decode cX9_thing 32 = .ok (.ireturn, 1) := by decide +kernel
theorem dX9_thing_33 : decode cX9_thing 33 = .ok (.iload_n 2, 1) := by decide +kernel
theorem dX9_thing_34 : decode cX9_thing 34 = .ok (.tableswitch 94 7 11 #[34, 46, 58, 70, 82], 34) := by decide +kernel
theorem dX9_thing_68 : decode cX9_thing 68 = .ok (.aload_n 0, 1) := by decide +kernel
theorem dX9_thing_69 : decode cX9_thing 69 = .ok (.getfield 19, 3) := by decide +kernel
theorem dX9_thing_72 : decode cX9_thing 72 = .ok (.getfield 104, 3) := by decide +kernel
theorem dX9_thing_75 : decode cX9_thing 75 = .ok (.iload_n 1, 1) := by decide +kernel
theorem dX9_thing_76 : decode cX9_thing 76 = .ok (.ishr, 1) := by decide +kernel
theorem dX9_thing_77 : decode cX9_thing 77 = .ok (.iconst 1, 1) := by decide +kernel
theorem dX9_thing_78 : decode cX9_thing 78 = .ok (.iand, 1) := by decide +kernel
theorem dX9_thing_79 : decode cX9_thing 79 = .ok (.ireturn, 1) := by decide +kernel
theorem dX9_thing_80 : decode cX9_thing 80 = .ok (.aload_n 0, 1) := by decide +kernel
theorem dX9_thing_81 : decode cX9_thing 81 = .ok (.getfield 19, 3) := by decide +kernel
theorem dX9_thing_84 : decode cX9_thing 84 = .ok (.getfield 107, 3) := by decide +kernel
theorem dX9_thing_87 : decode cX9_thing 87 = .ok (.iload_n 1, 1) := by decide +kernel
theorem dX9_thing_88 : decode cX9_thing 88 = .ok (.ishr, 1) := by decide +kernel
theorem dX9_thing_89 : decode cX9_thing 89 = .ok (.iconst 1, 1) := by decide +kernel
theorem dX9_thing_90 : decode cX9_thing 90 = .ok (.iand, 1) := by decide +kernel
theorem dX9_thing_91 : decode cX9_thing 91 = .ok (.ireturn, 1) := by decide +kernel
theorem dX9_thing_92 : decode cX9_thing 92 = .ok (.aload_n 0, 1) := by decide +kernel
theorem dX9_thing_93 : decode cX9_thing 93 = .ok (.getfield 19, 3) := by decide +kernel
theorem dX9_thing_96 : decode cX9_thing 96 = .ok (.getfield 110, 3) := by decide +kernel
theorem dX9_thing_99 : decode cX9_thing 99 = .ok (.iload_n 1, 1) := by decide +kernel
theorem dX9_thing_100 : decode cX9_thing 100 = .ok (.ishr, 1) := by decide +kernel
theorem dX9_thing_101 : decode cX9_thing 101 = .ok (.iconst 1, 1) := by decide +kernel
theorem dX9_thing_102 : decode cX9_thing 102 = .ok (.iand, 1) := by decide +kernel
theorem dX9_thing_103 : decode cX9_thing 103 = .ok (.ireturn, 1) := by decide +kernel
theorem dX9_thing_104 : decode cX9_thing 104 = .ok (.aload_n 0, 1) := by decide +kernel
theorem dX9_thing_105 : decode cX9_thing 105 = .ok (.getfield 19, 3) := by decide +kernel
theorem dX9_thing_108 : decode cX9_thing 108 = .ok (.getfield 113, 3) := by decide +kernel
theorem dX9_thing_111 : decode cX9_thing 111 = .ok (.iload_n 1, 1) := by decide +kernel
theorem dX9_thing_112 : decode cX9_thing 112 = .ok (.ishr, 1) := by decide +kernel
theorem dX9_thing_113 : decode cX9_thing 113 = .ok (.iconst 1, 1) := by decide +kernel
theorem dX9_thing_114 : decode cX9_thing 114 = .ok (.iand, 1) := by decide +kernel
theorem dX9_thing_115 : decode cX9_thing 115 = .ok (.ireturn, 1) := by decide +kernel
theorem dX9_thing_116 : decode cX9_thing 116 = .ok (.aload_n 0, 1) := by decide +kernel
theorem dX9_thing_117 : decode cX9_thing 117 = .ok (.getfield 19, 3) := by decide +kernel
theorem dX9_thing_120 : decode cX9_thing 120 = .ok (.invokevirtual 116, 3) := by decide +kernel
theorem dX9_thing_123 : decode cX9_thing 123 = .ok (.iload_n 1, 1) := by decide +kernel
theorem dX9_thing_124 : decode cX9_thing 124 = .ok (.ishr, 1) := by decide +kernel
theorem dX9_thing_125 : decode cX9_thing 125 = .ok (.iconst 1, 1) := by decide +kernel
theorem dX9_thing_126 : decode cX9_thing 126 = .ok (.iand, 1) := by decide +kernel
theorem dX9_thing_127 : decode cX9_thing 127 = .ok (.ireturn, 1) := by decide +kernel
theorem dX9_thing_128 : decode cX9_thing 128 = .ok (.bipush (-2), 2) := by decide +kernel
theorem dX9_thing_130 : decode cX9_thing 130 = .ok (.ireturn, 1) := by decide +kernel
theorem dX9_alike_0 : decode cX9_alike 0 = .ok (.aload_n 0, 1) := by decide +kernel
theorem dX9_alike_1 : decode cX9_alike 1 = .ok (.getfield 19, 3) := by decide +kernel
theorem dX9_alike_4 : decode cX9_alike 4 = .ok (.iload_n 1, 1) := by decide +kernel
theorem dX9_alike_5 : decode cX9_alike 5 = .ok (.invokevirtual 97, 3) := by decide +kernel
theorem dX9_alike_8 : decode cX9_alike 8 = .ok (.ifCond .eq 28, 3) := by decide +kernel
theorem dX9_alike_11 : decode cX9_alike 11 = .ok (.aload_n 0, 1) := by decide +kernel
theorem dX9_alike_12 : decode cX9_alike 12 = .ok (.getfield 19, 3) := by decide +kernel
theorem dX9_alike_15 : decode cX9_alike 15 = .ok (.iload_n 1, 1) := by decide +kernel
theorem dX9_alike_16 : decode cX9_alike 16 = .ok (.aload_n 0, 1) := by decide +kernel
theorem dX9_alike_17 : decode cX9_alike 17 = .ok (.getfield 19, 3) := by decide +kernel
theorem dX9_alike_20 : decode cX9_alike 20 = .ok (.getfield 119, 3) := by decide +kernel
theorem dX9_alike_23 : decode cX9_alike 23 = .ok (.aload_n 0, 1) := by decide +kernel
theorem dX9_alike_24 : decode cX9_alike 24 = .ok (.getfield 19, 3) := by decide +kernel
theorem dX9_alike_27 : decode cX9_alike 27 = .ok (.invokevirtual 122, 3) := by decide +kernel
theorem dX9_alike_30 : decode cX9_alike 30 = .ok (.invokevirtual 125, 3) := by decide +kernel
theorem dX9_alike_33 : decode cX9_alike 33 = .ok (.goto 4, 3) := by decide +kernel
theorem dX9_alike_36 : decode cX9_alike 36 = .ok (.iconst (-1), 1) := by decide +kernel
theorem dX9_alike_37 : decode cX9_alike 37 = .ok (.ireturn, 1) := by decide +kernel
theorem dX9_price_0 : decode cX9_price 0 = .ok (.aload_n 0, 1) := by decide +kernel
theorem dX9_price_1 : decode cX9_price 1 = .ok (.getfield 19, 3) := by decide +kernel
theorem dX9_price_4 : decode cX9_price 4 = .ok (.iload_n 1, 1) := by decide +kernel
theorem dX9_price_5 : decode cX9_price 5 = .ok (.invokevirtual 97, 3) := by decide +kernel
theorem dX9_price_8 : decode cX9_price 8 = .ok (.ifCond .eq 14, 3) := by decide +kernel
theorem dX9_price_11 : decode cX9_price 11 = .ok (.aload_n 0, 1) := by decide +kernel
theorem dX9_price_12 : decode cX9_price 12 = .ok (.getfield 19, 3) := by decide +kernel
theorem dX9_price_15 : decode cX9_price 15 = .ok (.iload_n 1, 1) := by decide +kernel
theorem dX9_price_16 : decode cX9_price 16 = .ok (.invokevirtual 129, 3) := by decide +kernel
theorem dX9_price_19 : decode cX9_price 19 = .ok (.goto 4, 3) := by decide +kernel
theorem dX9_price_22 : decode cX9_price 22 = .ok (.iconst (-1), 1) := by decide +kernel
theorem dX9_price_23 : decode cX9_price 23 = .ok (.ireturn, 1) := by decide +kernel
theorem dX9_broken_0 : decode cX9_broken 0 = .ok (.aload_n 0, 1) := by decide +kernel
theorem dX9_broken_1 : decode cX9_broken 1 = .ok (.iconst 0, 1) := by decide +kernel
theorem dX9_broken_2 : decode cX9_broken 2 = .ok (.iload_n 1, 1) := by decide +kernel
theorem dX9_broken_3 : decode cX9_broken 3 = .ok (.invokevirtual 133, 3) := by decide +kernel
theorem dX9_broken_6 : decode cX9_broken 6 = .ok (.istore_n 2, 1) := by decide +kernel
theorem dX9_broken_7 : decode cX9_broken 7 = .ok (.iload_n 2, 1) := by decide +kernel
theorem dX9_broken_8 : decode cX9_broken 8 = .ok (.ifCond .ge 7, 3) := by decide +kernel
theorem dX9_broken_11 : decode cX9_broken 11 = .ok (.iload_n 2, 1) := by decide +kernel
theorem dX9_broken_12 : decode cX9_broken 12 = .ok (.goto 10, 3) := by decide +kernel
theorem dX9_broken_15 : decode cX9_broken 15 = .ok (.aload_n 0, 1) := by decide +kernel
theorem dX9_broken_16 : decode cX9_broken 16 = .ok (.getfield 19, 3) := by decide +kernel
theorem dX9_broken_19 : decode cX9_broken 19 = .ok (.invokevirtual 116, 3) := by decide +kernel
theorem dX9_broken_22 : decode cX9_broken 22 = .ok (.ireturn, 1) := by decide +kernel
theorem dX9_forge_0 : decode cX9_forge 0 = .ok (.iload_n 1, 1) := by decide +kernel
theorem dX9_forge_1 : decode cX9_forge 1 = .ok (.ifCond .lt 19, 3) := by decide +kernel
theorem dX9_forge_4 : decode cX9_forge 4 = .ok (.iload_n 1, 1) := by decide +kernel
theorem dX9_forge_5 : decode cX9_forge 5 = .ok (.sipush 9999, 3) := by decide +kernel
theorem dX9_forge_8 : decode cX9_forge 8 = .ok (.if_icmp .gt 12, 3) := by decide +kernel
theorem dX9_forge_11 : decode cX9_forge 11 = .ok (.iload_n 2, 1) := by decide +kernel
theorem dX9_forge_12 : decode cX9_forge 12 = .ok (.ifCond .lt 8, 3) := by decide +kernel
theorem dX9_forge_15 : decode cX9_forge 15 = .ok (.iload_n 2, 1) := by decide +kernel
theorem dX9_forge_16 : decode cX9_forge 16 = .ok (.iconst 3, 1) := by decide +kernel
theorem dX9_forge_17 : decode cX9_forge 17 = .ok (.if_icmp .lt 6, 3) := by decide +kernel
theorem dX9_forge_20 : decode cX9_forge 20 = .ok (.bipush (-2), 2) := by decide +kernel
theorem dX9_forge_22 : decode cX9_forge 22 = .ok (.ireturn, 1) := by decide +kernel
theorem dX9_forge_23 : decode cX9_forge 23 = .ok (.aload_n 0, 1) := by decide +kernel
theorem dX9_forge_24 : decode cX9_forge 24 = .ok (.getfield 19, 3) := by decide +kernel
theorem dX9_forge_27 : decode cX9_forge 27 = .ok (.getfield 94, 3) := by decide +kernel
theorem dX9_forge_30 : decode cX9_forge 30 = .ok (.bipush 8, 2) := by decide +kernel
theorem dX9_forge_32 : decode cX9_forge 32 = .ok (.if_icmp .lt 6, 3) := by decide +kernel
theorem dX9_forge_35 : decode cX9_forge 35 = .ok (.bipush (-4), 2) := by decide +kernel
theorem dX9_forge_37 : decode cX9_forge 37 = .ok (.ireturn, 1) := by decide +kernel
theorem dX9_forge_38 : decode cX9_forge 38 = .ok (.aload_n 0, 1) := by decide +kernel
theorem dX9_forge_39 : decode cX9_forge 39 = .ok (.getfield 29, 3) := by decide +kernel
theorem dX9_forge_42 : decode cX9_forge 42 = .ok (.aload_n 0, 1) := by decide +kernel
theorem dX9_forge_43 : decode cX9_forge 43 = .ok (.getfield 19, 3) := by decide +kernel
theorem dX9_forge_46 : decode cX9_forge 46 = .ok (.invokevirtual 136, 3) := by decide +kernel
theorem dX9_forge_49 : decode cX9_forge 49 = .ok (.aload_n 0, 1) := by decide +kernel
theorem dX9_forge_50 : decode cX9_forge 50 = .ok (.getfield 19, 3) := by decide +kernel
theorem dX9_forge_53 : decode cX9_forge 53 = .ok (.iload_n 1, 1) := by decide +kernel
theorem dX9_forge_54 : decode cX9_forge 54 = .ok (.iload_n 2, 1) := by decide +kernel
theorem dX9_forge_55 : decode cX9_forge 55 = .ok (.invokevirtual 140, 3) := by decide +kernel
theorem dX9_forge_58 : decode cX9_forge 58 = .ok (.ireturn, 1) := by decide +kernel
theorem dX9_hide_0 : decode cX9_hide 0 = .ok (.aload_n 0, 1) := by decide +kernel
theorem dX9_hide_1 : decode cX9_hide 1 = .ok (.iconst 2, 1) := by decide +kernel
theorem dX9_hide_2 : decode cX9_hide 2 = .ok (.iload_n 1, 1) := by decide +kernel
theorem dX9_hide_3 : decode cX9_hide 3 = .ok (.invokevirtual 133, 3) := by decide +kernel
theorem dX9_hide_6 : decode cX9_hide 6 = .ok (.istore_n 2, 1) := by decide +kernel
theorem dX9_hide_7 : decode cX9_hide 7 = .ok (.iload_n 2, 1) := by decide +kernel
theorem dX9_hide_8 : decode cX9_hide 8 = .ok (.ifCond .ge 7, 3) := by decide +kernel
theorem dX9_hide_11 : decode cX9_hide 11 = .ok (.iload_n 2, 1) := by decide +kernel
theorem dX9_hide_12 : decode cX9_hide 12 = .ok (.goto 14, 3) := by decide +kernel
theorem dX9_hide_15 : decode cX9_hide 15 = .ok (.aload_n 0, 1) := by decide +kernel
theorem dX9_hide_16 : decode cX9_hide 16 = .ok (.getfield 19, 3) := by decide +kernel
theorem dX9_hide_19 : decode cX9_hide 19 = .ok (.getfield 110, 3) := by decide +kernel
theorem dX9_hide_22 : decode cX9_hide 22 = .ok (.iload_n 1, 1) := by decide +kernel
theorem dX9_hide_23 : decode cX9_hide 23 = .ok (.ishr, 1) := by decide +kernel
theorem dX9_hide_24 : decode cX9_hide 24 = .ok (.iconst 1, 1) := by decide +kernel
theorem dX9_hide_25 : decode cX9_hide 25 = .ok (.iand, 1) := by decide +kernel
theorem dX9_hide_26 : decode cX9_hide 26 = .ok (.ireturn, 1) := by decide +kernel
theorem dX9_claim_0 : decode cX9_claim 0 = .ok (.aload_n 0, 1) := by decide +kernel
theorem dX9_claim_1 : decode cX9_claim 1 = .ok (.iconst 1, 1) := by decide +kernel
theorem dX9_claim_2 : decode cX9_claim 2 = .ok (.iload_n 1, 1) := by decide +kernel
theorem dX9_claim_3 : decode cX9_claim 3 = .ok (.invokevirtual 133, 3) := by decide +kernel
theorem dX9_claim_6 : decode cX9_claim 6 = .ok (.istore_n 2, 1) := by decide +kernel
theorem dX9_claim_7 : decode cX9_claim 7 = .ok (.iload_n 2, 1) := by decide +kernel
theorem dX9_claim_8 : decode cX9_claim 8 = .ok (.ifCond .ge 7, 3) := by decide +kernel
theorem dX9_claim_11 : decode cX9_claim 11 = .ok (.iload_n 2, 1) := by decide +kernel
theorem dX9_claim_12 : decode cX9_claim 12 = .ok (.goto 13, 3) := by decide +kernel
theorem dX9_claim_15 : decode cX9_claim 15 = .ok (.aload_n 0, 1) := by decide +kernel
theorem dX9_claim_16 : decode cX9_claim 16 = .ok (.getfield 19, 3) := by decide +kernel
theorem dX9_claim_19 : decode cX9_claim 19 = .ok (.getfield 113, 3) := by decide +kernel
theorem dX9_claim_22 : decode cX9_claim 22 = .ok (.invokestatic 143, 3) := by decide +kernel
theorem dX9_claim_25 : decode cX9_claim 25 = .ok (.ireturn, 1) := by decide +kernel
theorem dX9_guard_0 : decode cX9_guard 0 = .ok (.aload_n 0, 1) := by decide +kernel
theorem dX9_guard_1 : decode cX9_guard 1 = .ok (.iconst 3, 1) := by decide +kernel
theorem dX9_guard_2 : decode cX9_guard 2 = .ok (.iload_n 1, 1) := by decide +kernel
theorem dX9_guard_3 : decode cX9_guard 3 = .ok (.invokevirtual 133, 3) := by decide +kernel
theorem dX9_guard_6 : decode cX9_guard 6 = .ok (.istore_n 2, 1) := by decide +kernel
theorem dX9_guard_7 : decode cX9_guard 7 = .ok (.iload_n 2, 1) := by decide +kernel
theorem dX9_guard_8 : decode cX9_guard 8 = .ok (.ifCond .ge 7, 3) := by decide +kernel
theorem dX9_guard_11 : decode cX9_guard 11 = .ok (.iload_n 2, 1) := by decide +kernel
theorem dX9_guard_12 : decode cX9_guard 12 = .ok (.goto 14, 3) := by decide +kernel
theorem dX9_guard_15 : decode cX9_guard 15 = .ok (.aload_n 0, 1) := by decide +kernel
theorem dX9_guard_16 : decode cX9_guard 16 = .ok (.getfield 19, 3) := by decide +kernel
theorem dX9_guard_19 : decode cX9_guard 19 = .ok (.getfield 104, 3) := by decide +kernel
theorem dX9_guard_22 : decode cX9_guard 22 = .ok (.iload_n 1, 1) := by decide +kernel
theorem dX9_guard_23 : decode cX9_guard 23 = .ok (.ishr, 1) := by decide +kernel
theorem dX9_guard_24 : decode cX9_guard 24 = .ok (.iconst 1, 1) := by decide +kernel
theorem dX9_guard_25 : decode cX9_guard 25 = .ok (.iand, 1) := by decide +kernel
theorem dX9_guard_26 : decode cX9_guard 26 = .ok (.ireturn, 1) := by decide +kernel
theorem dX9_word_0 : decode cX9_word 0 = .ok (.iload_n 1, 1) := by decide +kernel
theorem dX9_word_1 : decode cX9_word 1 = .ok (.iconst 1, 1) := by decide +kernel
theorem dX9_word_2 : decode cX9_word 2 = .ok (.if_icmp .lt 8, 3) := by decide +kernel
theorem dX9_word_5 : decode cX9_word 5 = .ok (.iload_n 1, 1) := by decide +kernel
theorem dX9_word_6 : decode cX9_word 6 = .ok (.iconst 4, 1) := by decide +kernel
theorem dX9_word_7 : decode cX9_word 7 = .ok (.if_icmp .le 6, 3) := by decide +kernel
theorem dX9_word_10 : decode cX9_word 10 = .ok (.bipush (-2), 2) := by decide +kernel
theorem dX9_word_12 : decode cX9_word 12 = .ok (.ireturn, 1) := by decide +kernel
theorem dX9_word_13 : decode cX9_word 13 = .ok (.iload_n 1, 1) := by decide +kernel
theorem dX9_word_14 : decode cX9_word 14 = .ok (.aload_n 0, 1) := by decide +kernel
theorem dX9_word_15 : decode cX9_word 15 = .ok (.getfield 19, 3) := by decide +kernel
theorem dX9_word_18 : decode cX9_word 18 = .ok (.getfield 119, 3) := by decide +kernel
theorem dX9_word_21 : decode cX9_word 21 = .ok (.if_icmp .ne 6, 3) := by decide +kernel
theorem dX9_word_24 : decode cX9_word 24 = .ok (.bipush (-3), 2) := by decide +kernel
theorem dX9_word_26 : decode cX9_word 26 = .ok (.ireturn, 1) := by decide +kernel
theorem dX9_word_27 : decode cX9_word 27 = .ok (.aload_n 0, 1) := by decide +kernel
theorem dX9_word_28 : decode cX9_word 28 = .ok (.getfield 29, 3) := by decide +kernel
theorem dX9_word_31 : decode cX9_word 31 = .ok (.aload_n 0, 1) := by decide +kernel
theorem dX9_word_32 : decode cX9_word 32 = .ok (.getfield 19, 3) := by decide +kernel
theorem dX9_word_35 : decode cX9_word 35 = .ok (.invokevirtual 136, 3) := by decide +kernel
theorem dX9_word_38 : decode cX9_word 38 = .ok (.aload_n 0, 1) := by decide +kernel
theorem dX9_word_39 : decode cX9_word 39 = .ok (.getfield 19, 3) := by decide +kernel
theorem dX9_word_42 : decode cX9_word 42 = .ok (.iload_n 1, 1) := by decide +kernel
theorem dX9_word_43 : decode cX9_word 43 = .ok (.invokevirtual 148, 3) := by decide +kernel
theorem dX9_word_46 : decode cX9_word 46 = .ok (.ireturn, 1) := by decide +kernel
theorem dX9_year_0 : decode cX9_year 0 = .ok (.aload_n 0, 1) := by decide +kernel
theorem dX9_year_1 : decode cX9_year 1 = .ok (.getfield 29, 3) := by decide +kernel
theorem dX9_year_4 : decode cX9_year 4 = .ok (.aload_n 0, 1) := by decide +kernel
theorem dX9_year_5 : decode cX9_year 5 = .ok (.getfield 19, 3) := by decide +kernel
theorem dX9_year_8 : decode cX9_year 8 = .ok (.invokevirtual 136, 3) := by decide +kernel
theorem dX9_year_11 : decode cX9_year 11 = .ok (.aload_n 0, 1) := by decide +kernel
theorem dX9_year_12 : decode cX9_year 12 = .ok (.getfield 19, 3) := by decide +kernel
theorem dX9_year_15 : decode cX9_year 15 = .ok (.dup, 1) := by decide +kernel
theorem dX9_year_16 : decode cX9_year 16 = .ok (.getfield 151, 3) := by decide +kernel
theorem dX9_year_19 : decode cX9_year 19 = .ok (.iconst 1, 1) := by decide +kernel
theorem dX9_year_20 : decode cX9_year 20 = .ok (.iadd, 1) := by decide +kernel
theorem dX9_year_21 : decode cX9_year 21 = .ok (.putfield 151, 3) := by decide +kernel
theorem dX9_year_24 : decode cX9_year 24 = .ok (.aload_n 0, 1) := by decide +kernel
theorem dX9_year_25 : decode cX9_year 25 = .ok (.getfield 19, 3) := by decide +kernel
theorem dX9_year_28 : decode cX9_year 28 = .ok (.getfield 151, 3) := by decide +kernel
theorem dX9_year_31 : decode cX9_year 31 = .ok (.ireturn, 1) := by decide +kernel
theorem dX9_undo_0 : decode cX9_undo 0 = .ok (.aload_n 0, 1) := by decide +kernel
theorem dX9_undo_1 : decode cX9_undo 1 = .ok (.getfield 29, 3) := by decide +kernel
theorem dX9_undo_4 : decode cX9_undo 4 = .ok (.aload_n 0, 1) := by decide +kernel
theorem dX9_undo_5 : decode cX9_undo 5 = .ok (.getfield 19, 3) := by decide +kernel
theorem dX9_undo_8 : decode cX9_undo 8 = .ok (.invokevirtual 154, 3) := by decide +kernel
theorem dX9_undo_11 : decode cX9_undo 11 = .ok (.ifCond .eq 13, 3) := by decide +kernel
theorem dX9_undo_14 : decode cX9_undo 14 = .ok (.aload_n 0, 1) := by decide +kernel
theorem dX9_undo_15 : decode cX9_undo 15 = .ok (.getfield 29, 3) := by decide +kernel
theorem dX9_undo_18 : decode cX9_undo 18 = .ok (.getfield 158, 3) := by decide +kernel
theorem dX9_undo_21 : decode cX9_undo 21 = .ok (.goto 5, 3) := by decide +kernel
theorem dX9_undo_24 : decode cX9_undo 24 = .ok (.bipush (-3), 2) := by decide +kernel
theorem dX9_undo_26 : decode cX9_undo 26 = .ok (.ireturn, 1) := by decide +kernel
theorem dX9_judge_0 : decode cX9_judge 0 = .ok (.iload_n 1, 1) := by decide +kernel
theorem dX9_judge_1 : decode cX9_judge 1 = .ok (.iconst 1, 1) := by decide +kernel
theorem dX9_judge_2 : decode cX9_judge 2 = .ok (.if_icmp .lt 8, 3) := by decide +kernel
theorem dX9_judge_5 : decode cX9_judge 5 = .ok (.iload_n 1, 1) := by decide +kernel
theorem dX9_judge_6 : decode cX9_judge 6 = .ok (.iconst 4, 1) := by decide +kernel
theorem dX9_judge_7 : decode cX9_judge 7 = .ok (.if_icmp .le 6, 3) := by decide +kernel
theorem dX9_judge_10 : decode cX9_judge 10 = .ok (.bipush (-2), 2) := by decide +kernel
theorem dX9_judge_12 : decode cX9_judge 12 = .ok (.ireturn, 1) := by decide +kernel
theorem dX9_judge_13 : decode cX9_judge 13 = .ok (.iload_n 2, 1) := by decide +kernel
theorem dX9_judge_14 : decode cX9_judge 14 = .ok (.ifCond .lt 11, 3) := by decide +kernel
theorem dX9_judge_17 : decode cX9_judge 17 = .ok (.iload_n 2, 1) := by decide +kernel
theorem dX9_judge_18 : decode cX9_judge 18 = .ok (.iload_n 1, 1) := by decide +kernel
theorem dX9_judge_19 : decode cX9_judge 19 = .ok (.invokestatic 159, 3) := by decide +kernel
theorem dX9_judge_22 : decode cX9_judge 22 = .ok (.ifCond .eq 6, 3) := by decide +kernel
theorem dX9_judge_25 : decode cX9_judge 25 = .ok (.bipush (-2), 2) := by decide +kernel
theorem dX9_judge_27 : decode cX9_judge 27 = .ok (.ireturn, 1) := by decide +kernel
theorem dX9_judge_28 : decode cX9_judge 28 = .ok (.aload_n 0, 1) := by decide +kernel
theorem dX9_judge_29 : decode cX9_judge 29 = .ok (.getfield 23, 3) := by decide +kernel
theorem dX9_judge_32 : decode cX9_judge 32 = .ok (.aload_n 0, 1) := by decide +kernel
theorem dX9_judge_33 : decode cX9_judge 33 = .ok (.getfield 19, 3) := by decide +kernel
theorem dX9_judge_36 : decode cX9_judge 36 = .ok (.invokevirtual 162, 3) := by decide +kernel
theorem dX9_judge_39 : decode cX9_judge 39 = .ok (.iconst 0, 1) := by decide +kernel
theorem dX9_judge_40 : decode cX9_judge 40 = .ok (.istore_n 3, 1) := by decide +kernel
theorem dX9_judge_41 : decode cX9_judge 41 = .ok (.iload_n 3, 1) := by decide +kernel
theorem dX9_judge_42 : decode cX9_judge 42 = .ok (.iload_n 1, 1) := by decide +kernel
theorem dX9_judge_43 : decode cX9_judge 43 = .ok (.if_icmp .ge 64, 3) := by decide +kernel
theorem dX9_judge_46 : decode cX9_judge 46 = .ok (.iload_n 2, 1) := by decide +kernel
theorem dX9_judge_47 : decode cX9_judge 47 = .ok (.iload_n 1, 1) := by decide +kernel
theorem dX9_judge_48 : decode cX9_judge 48 = .ok (.iconst 1, 1) := by decide +kernel
theorem dX9_judge_49 : decode cX9_judge 49 = .ok (.isub, 1) := by decide +kernel
theorem dX9_judge_50 : decode cX9_judge 50 = .ok (.iload_n 3, 1) := by decide +kernel
theorem dX9_judge_51 : decode cX9_judge 51 = .ok (.isub, 1) := by decide +kernel
theorem dX9_judge_52 : decode cX9_judge 52 = .ok (.invokestatic 159, 3) := by decide +kernel
theorem dX9_judge_55 : decode cX9_judge 55 = .ok (.bipush 100, 2) := by decide +kernel
theorem dX9_judge_57 : decode cX9_judge 57 = .ok (.irem, 1) := by decide +kernel
theorem dX9_judge_58 : decode cX9_judge 58 = .ok (.istore 4, 2) := by decide +kernel
theorem dX9_judge_60 : decode cX9_judge 60 = .ok (.iload 4, 2) := by decide +kernel
theorem dX9_judge_62 : decode cX9_judge 62 = .ok (.bipush 10, 2) := by decide +kernel
theorem dX9_judge_64 : decode cX9_judge 64 = .ok (.idiv, 1) := by decide +kernel
theorem dX9_judge_65 : decode cX9_judge 65 = .ok (.istore 5, 2) := by decide +kernel
theorem dX9_judge_67 : decode cX9_judge 67 = .ok (.iload 4, 2) := by decide +kernel
theorem dX9_judge_69 : decode cX9_judge 69 = .ok (.bipush 10, 2) := by decide +kernel
theorem dX9_judge_71 : decode cX9_judge 71 = .ok (.irem, 1) := by decide +kernel
theorem dX9_judge_72 : decode cX9_judge 72 = .ok (.istore 6, 2) := by decide +kernel
theorem dX9_judge_74 : decode cX9_judge 74 = .ok (.aload_n 0, 1) := by decide +kernel
theorem dX9_judge_75 : decode cX9_judge 75 = .ok (.getfield 23, 3) := by decide +kernel
theorem dX9_judge_78 : decode cX9_judge 78 = .ok (.iload 5, 2) := by decide +kernel
theorem dX9_judge_80 : decode cX9_judge 80 = .ok (.iload 6, 2) := by decide +kernel
theorem dX9_judge_82 : decode cX9_judge 82 = .ok (.invokevirtual 165, 3) := by decide +kernel
theorem dX9_judge_85 : decode cX9_judge 85 = .ok (.ifCond .ne 5, 3) := by decide +kernel
theorem dX9_judge_88 : decode cX9_judge 88 = .ok (.iload_n 3, 1) := by decide +kernel
theorem dX9_judge_89 : decode cX9_judge 89 = .ok (.ireturn, 1) := by decide +kernel
theorem dX9_judge_90 : decode cX9_judge 90 = .ok (.aload_n 0, 1) := by decide +kernel
theorem dX9_judge_91 : decode cX9_judge 91 = .ok (.getfield 23, 3) := by decide +kernel
theorem dX9_judge_94 : decode cX9_judge 94 = .ok (.iload 5, 2) := by decide +kernel
theorem dX9_judge_96 : decode cX9_judge 96 = .ok (.iload 6, 2) := by decide +kernel
theorem dX9_judge_98 : decode cX9_judge 98 = .ok (.invokevirtual 169, 3) := by decide +kernel
theorem dX9_judge_101 : decode cX9_judge 101 = .ok (.iinc 3 1, 3) := by decide +kernel
theorem dX9_judge_104 : decode cX9_judge 104 = .ok (.goto (-63), 3) := by decide +kernel
theorem dX9_judge_107 : decode cX9_judge 107 = .ok (.bipush (-9), 2) := by decide +kernel
theorem dX9_judge_109 : decode cX9_judge 109 = .ok (.ireturn, 1) := by decide +kernel
theorem dX9_tryAct_0 : decode cX9_tryAct 0 = .ok (.aload_n 0, 1) := by decide +kernel
theorem dX9_tryAct_1 : decode cX9_tryAct 1 = .ok (.getfield 19, 3) := by decide +kernel
theorem dX9_tryAct_4 : decode cX9_tryAct 4 = .ok (.iload_n 2, 1) := by decide +kernel
theorem dX9_tryAct_5 : decode cX9_tryAct 5 = .ok (.invokevirtual 97, 3) := by decide +kernel
theorem dX9_tryAct_8 : decode cX9_tryAct 8 = .ok (.ifCond .ne 5, 3) := by decide +kernel
theorem dX9_tryAct_11 : decode cX9_tryAct 11 = .ok (.iconst (-1), 1) := by decide +kernel
theorem dX9_tryAct_12 : decode cX9_tryAct 12 = .ok (.ireturn, 1) := by decide +kernel
theorem dX9_tryAct_13 : decode cX9_tryAct 13 = .ok (.aload_n 0, 1) := by decide +kernel
theorem dX9_tryAct_14 : decode cX9_tryAct 14 = .ok (.getfield 19, 3) := by decide +kernel
theorem dX9_tryAct_17 : decode cX9_tryAct 17 = .ok (.iload_n 1, 1) := by decide +kernel
theorem dX9_tryAct_18 : decode cX9_tryAct 18 = .ok (.iload_n 2, 1) := by decide +kernel
theorem dX9_tryAct_19 : decode cX9_tryAct 19 = .ok (.invokevirtual 165, 3) := by decide +kernel
theorem dX9_tryAct_22 : decode cX9_tryAct 22 = .ok (.ifCond .ne 6, 3) := by decide +kernel
theorem dX9_tryAct_25 : decode cX9_tryAct 25 = .ok (.bipush (-3), 2) := by decide +kernel
theorem dX9_tryAct_27 : decode cX9_tryAct 27 = .ok (.ireturn, 1) := by decide +kernel
theorem dX9_tryAct_28 : decode cX9_tryAct 28 = .ok (.aload_n 0, 1) := by decide +kernel
theorem dX9_tryAct_29 : decode cX9_tryAct 29 = .ok (.getfield 29, 3) := by decide +kernel
theorem dX9_tryAct_32 : decode cX9_tryAct 32 = .ok (.aload_n 0, 1) := by decide +kernel
theorem dX9_tryAct_33 : decode cX9_tryAct 33 = .ok (.getfield 19, 3) := by decide +kernel
theorem dX9_tryAct_36 : decode cX9_tryAct 36 = .ok (.invokevirtual 136, 3) := by decide +kernel
theorem dX9_tryAct_39 : decode cX9_tryAct 39 = .ok (.aload_n 0, 1) := by decide +kernel
theorem dX9_tryAct_40 : decode cX9_tryAct 40 = .ok (.getfield 19, 3) := by decide +kernel
theorem dX9_tryAct_43 : decode cX9_tryAct 43 = .ok (.iload_n 1, 1) := by decide +kernel
theorem dX9_tryAct_44 : decode cX9_tryAct 44 = .ok (.iload_n 2, 1) := by decide +kernel
theorem dX9_tryAct_45 : decode cX9_tryAct 45 = .ok (.invokevirtual 169, 3) := by decide +kernel
theorem dX9_tryAct_48 : decode cX9_tryAct 48 = .ok (.iconst 0, 1) := by decide +kernel
theorem dX9_tryAct_49 : decode cX9_tryAct 49 = .ok (.ireturn, 1) := by decide +kernel
theorem dX9_campaign_0 : decode cX9_campaign 0 = .ok (.aload_n 0, 1) := by decide +kernel
theorem dX9_campaign_1 : decode cX9_campaign 1 = .ok (.getfield 19, 3) := by decide +kernel
theorem dX9_campaign_4 : decode cX9_campaign 4 = .ok (.iload_n 1, 1) := by decide +kernel
theorem dX9_campaign_5 : decode cX9_campaign 5 = .ok (.invokevirtual 97, 3) := by decide +kernel
theorem dX9_campaign_8 : decode cX9_campaign 8 = .ok (.ifCond .ne 5, 3) := by decide +kernel
theorem dX9_campaign_11 : decode cX9_campaign 11 = .ok (.iconst (-1), 1) := by decide +kernel
theorem dX9_campaign_12 : decode cX9_campaign 12 = .ok (.ireturn, 1) := by decide +kernel
theorem dX9_campaign_13 : decode cX9_campaign 13 = .ok (.aload_n 0, 1) := by decide +kernel
theorem dX9_campaign_14 : decode cX9_campaign 14 = .ok (.getfield 19, 3) := by decide +kernel
theorem dX9_campaign_17 : decode cX9_campaign 17 = .ok (.invokevirtual 122, 3) := by decide +kernel
theorem dX9_campaign_20 : decode cX9_campaign 20 = .ok (.iload_n 1, 1) := by decide +kernel
theorem dX9_campaign_21 : decode cX9_campaign 21 = .ok (.invokestatic 173, 3) := by decide +kernel
theorem dX9_campaign_24 : decode cX9_campaign 24 = .ok (.ifCond .ne 6, 3) := by decide +kernel
theorem dX9_campaign_27 : decode cX9_campaign 27 = .ok (.bipush (-3), 2) := by decide +kernel
theorem dX9_campaign_29 : decode cX9_campaign 29 = .ok (.ireturn, 1) := by decide +kernel
theorem dX9_campaign_30 : decode cX9_campaign 30 = .ok (.aload_n 0, 1) := by decide +kernel
theorem dX9_campaign_31 : decode cX9_campaign 31 = .ok (.getfield 40, 3) := by decide +kernel
theorem dX9_campaign_34 : decode cX9_campaign 34 = .ok (.aload_n 0, 1) := by decide +kernel
theorem dX9_campaign_35 : decode cX9_campaign 35 = .ok (.getfield 19, 3) := by decide +kernel
theorem dX9_campaign_38 : decode cX9_campaign 38 = .ok (.iload_n 1, 1) := by decide +kernel
theorem dX9_campaign_39 : decode cX9_campaign 39 = .ok (.invokevirtual 176, 3) := by decide +kernel
theorem dX9_campaign_42 : decode cX9_campaign 42 = .ok (.aload_n 0, 1) := by decide +kernel
theorem dX9_campaign_43 : decode cX9_campaign 43 = .ok (.getfield 40, 3) := by decide +kernel
theorem dX9_campaign_46 : decode cX9_campaign 46 = .ok (.getfield 180, 3) := by decide +kernel
theorem dX9_campaign_49 : decode cX9_campaign 49 = .ok (.ireturn, 1) := by decide +kernel
theorem dX9_campaignBy_0 : decode cX9_campaignBy 0 = .ok (.aload_n 0, 1) := by decide +kernel
theorem dX9_campaignBy_1 : decode cX9_campaignBy 1 = .ok (.getfield 19, 3) := by decide +kernel
theorem dX9_campaignBy_4 : decode cX9_campaignBy 4 = .ok (.iload_n 1, 1) := by decide +kernel
theorem dX9_campaignBy_5 : decode cX9_campaignBy 5 = .ok (.invokevirtual 97, 3) := by decide +kernel
theorem dX9_campaignBy_8 : decode cX9_campaignBy 8 = .ok (.ifCond .ne 5, 3) := by decide +kernel
theorem dX9_campaignBy_11 : decode cX9_campaignBy 11 = .ok (.iconst (-1), 1) := by decide +kernel
theorem dX9_campaignBy_12 : decode cX9_campaignBy 12 = .ok (.ireturn, 1) := by decide +kernel
theorem dX9_campaignBy_13 : decode cX9_campaignBy 13 = .ok (.iload_n 2, 1) := by decide +kernel
theorem dX9_campaignBy_14 : decode cX9_campaignBy 14 = .ok (.ifCond .lt 8, 3) := by decide +kernel
theorem dX9_campaignBy_17 : decode cX9_campaignBy 17 = .ok (.iload_n 2, 1) := by decide +kernel
theorem dX9_campaignBy_18 : decode cX9_campaignBy 18 = .ok (.iconst 1, 1) := by decide +kernel
theorem dX9_campaignBy_19 : decode cX9_campaignBy 19 = .ok (.if_icmp .le 6, 3) := by decide +kernel
theorem dX9_campaignBy_22 : decode cX9_campaignBy 22 = .ok (.bipush (-2), 2) := by decide +kernel
theorem dX9_campaignBy_24 : decode cX9_campaignBy 24 = .ok (.ireturn, 1) := by decide +kernel
theorem dX9_campaignBy_25 : decode cX9_campaignBy 25 = .ok (.aload_n 0, 1) := by decide +kernel
theorem dX9_campaignBy_26 : decode cX9_campaignBy 26 = .ok (.getfield 19, 3) := by decide +kernel
theorem dX9_campaignBy_29 : decode cX9_campaignBy 29 = .ok (.invokevirtual 122, 3) := by decide +kernel
theorem dX9_campaignBy_32 : decode cX9_campaignBy 32 = .ok (.iload_n 1, 1) := by decide +kernel
theorem dX9_campaignBy_33 : decode cX9_campaignBy 33 = .ok (.invokestatic 173, 3) := by decide +kernel
theorem dX9_campaignBy_36 : decode cX9_campaignBy 36 = .ok (.ifCond .ne 6, 3) := by decide +kernel
theorem dX9_campaignBy_39 : decode cX9_campaignBy 39 = .ok (.bipush (-3), 2) := by decide +kernel
theorem dX9_campaignBy_41 : decode cX9_campaignBy 41 = .ok (.ireturn, 1) := by decide +kernel
theorem dX9_campaignBy_42 : decode cX9_campaignBy 42 = .ok (.aload_n 0, 1) := by decide +kernel
theorem dX9_campaignBy_43 : decode cX9_campaignBy 43 = .ok (.getfield 40, 3) := by decide +kernel
theorem dX9_campaignBy_46 : decode cX9_campaignBy 46 = .ok (.aload_n 0, 1) := by decide +kernel
theorem dX9_campaignBy_47 : decode cX9_campaignBy 47 = .ok (.getfield 19, 3) := by decide +kernel
theorem dX9_campaignBy_50 : decode cX9_campaignBy 50 = .ok (.iload_n 1, 1) := by decide +kernel
theorem dX9_campaignBy_51 : decode cX9_campaignBy 51 = .ok (.invokevirtual 176, 3) := by decide +kernel
theorem dX9_campaignBy_54 : decode cX9_campaignBy 54 = .ok (.iload_n 2, 1) := by decide +kernel
theorem dX9_campaignBy_55 : decode cX9_campaignBy 55 = .ok (.ifCond .ne 13, 3) := by decide +kernel
theorem dX9_campaignBy_58 : decode cX9_campaignBy 58 = .ok (.aload_n 0, 1) := by decide +kernel
theorem dX9_campaignBy_59 : decode cX9_campaignBy 59 = .ok (.getfield 40, 3) := by decide +kernel
theorem dX9_campaignBy_62 : decode cX9_campaignBy 62 = .ok (.getfield 183, 3) := by decide +kernel
theorem dX9_campaignBy_65 : decode cX9_campaignBy 65 = .ok (.goto 10, 3) := by decide +kernel
theorem dX9_campaignBy_68 : decode cX9_campaignBy 68 = .ok (.aload_n 0, 1) := by decide +kernel
theorem dX9_campaignBy_69 : decode cX9_campaignBy 69 = .ok (.getfield 40, 3) := by decide +kernel
theorem dX9_campaignBy_72 : decode cX9_campaignBy 72 = .ok (.getfield 186, 3) := by decide +kernel
theorem dX9_campaignBy_75 : decode cX9_campaignBy 75 = .ok (.ireturn, 1) := by decide +kernel
theorem dX9_copy_0 : decode cX9_copy 0 = .ok (.aload_n 0, 1) := by decide +kernel
theorem dX9_copy_1 : decode cX9_copy 1 = .ok (.getfield 19, 3) := by decide +kernel
theorem dX9_copy_4 : decode cX9_copy 4 = .ok (.iload_n 1, 1) := by decide +kernel
theorem dX9_copy_5 : decode cX9_copy 5 = .ok (.invokevirtual 97, 3) := by decide +kernel
theorem dX9_copy_8 : decode cX9_copy 8 = .ok (.ifCond .ne 5, 3) := by decide +kernel
theorem dX9_copy_11 : decode cX9_copy 11 = .ok (.iconst (-1), 1) := by decide +kernel
theorem dX9_copy_12 : decode cX9_copy 12 = .ok (.ireturn, 1) := by decide +kernel
theorem dX9_copy_13 : decode cX9_copy 13 = .ok (.aload_n 0, 1) := by decide +kernel
theorem dX9_copy_14 : decode cX9_copy 14 = .ok (.getfield 19, 3) := by decide +kernel
theorem dX9_copy_17 : decode cX9_copy 17 = .ok (.getfield 113, 3) := by decide +kernel
theorem dX9_copy_20 : decode cX9_copy 20 = .ok (.iload_n 1, 1) := by decide +kernel
theorem dX9_copy_21 : decode cX9_copy 21 = .ok (.invokestatic 173, 3) := by decide +kernel
theorem dX9_copy_24 : decode cX9_copy 24 = .ok (.ifCond .ne 6, 3) := by decide +kernel
theorem dX9_copy_27 : decode cX9_copy 27 = .ok (.bipush (-3), 2) := by decide +kernel
theorem dX9_copy_29 : decode cX9_copy 29 = .ok (.ireturn, 1) := by decide +kernel
theorem dX9_copy_30 : decode cX9_copy 30 = .ok (.aload_n 0, 1) := by decide +kernel
theorem dX9_copy_31 : decode cX9_copy 31 = .ok (.getfield 40, 3) := by decide +kernel
theorem dX9_copy_34 : decode cX9_copy 34 = .ok (.aload_n 0, 1) := by decide +kernel
theorem dX9_copy_35 : decode cX9_copy 35 = .ok (.getfield 19, 3) := by decide +kernel
theorem dX9_copy_38 : decode cX9_copy 38 = .ok (.iload_n 1, 1) := by decide +kernel
theorem dX9_copy_39 : decode cX9_copy 39 = .ok (.invokevirtual 189, 3) := by decide +kernel
theorem dX9_copy_42 : decode cX9_copy 42 = .ok (.ireturn, 1) := by decide +kernel
theorem dX9_bestWord_0 : decode cX9_bestWord 0 = .ok (.iload_n 1, 1) := by decide +kernel
theorem dX9_bestWord_1 : decode cX9_bestWord 1 = .ok (.ifCond .lt 8, 3) := by decide +kernel
theorem dX9_bestWord_4 : decode cX9_bestWord 4 = .ok (.iload_n 1, 1) := by decide +kernel
theorem dX9_bestWord_5 : decode cX9_bestWord 5 = .ok (.iconst 1, 1) := by decide +kernel
theorem dX9_bestWord_6 : decode cX9_bestWord 6 = .ok (.if_icmp .le 6, 3) := by decide +kernel
theorem dX9_bestWord_9 : decode cX9_bestWord 9 = .ok (.bipush (-2), 2) := by decide +kernel
theorem dX9_bestWord_11 : decode cX9_bestWord 11 = .ok (.ireturn, 1) := by decide +kernel
theorem dX9_bestWord_12 : decode cX9_bestWord 12 = .ok (.aload_n 0, 1) := by decide +kernel
theorem dX9_bestWord_13 : decode cX9_bestWord 13 = .ok (.getfield 40, 3) := by decide +kernel
theorem dX9_bestWord_16 : decode cX9_bestWord 16 = .ok (.aload_n 0, 1) := by decide +kernel
theorem dX9_bestWord_17 : decode cX9_bestWord 17 = .ok (.getfield 19, 3) := by decide +kernel
theorem dX9_bestWord_20 : decode cX9_bestWord 20 = .ok (.invokevirtual 193, 3) := by decide +kernel
theorem dX9_bestWord_23 : decode cX9_bestWord 23 = .ok (.istore_n 2, 1) := by decide +kernel
theorem dX9_bestWord_24 : decode cX9_bestWord 24 = .ok (.iload_n 1, 1) := by decide +kernel
theorem dX9_bestWord_25 : decode cX9_bestWord 25 = .ok (.ifCond .ne 7, 3) := by decide +kernel
theorem dX9_bestWord_28 : decode cX9_bestWord 28 = .ok (.iload_n 2, 1) := by decide +kernel
theorem dX9_bestWord_29 : decode cX9_bestWord 29 = .ok (.goto 15, 3) := by decide +kernel
theorem dX9_bestWord_32 : decode cX9_bestWord 32 = .ok (.aload_n 0, 1) := by decide +kernel
theorem dX9_bestWord_33 : decode cX9_bestWord 33 = .ok (.getfield 40, 3) := by decide +kernel
theorem dX9_bestWord_36 : decode cX9_bestWord 36 = .ok (.aload_n 0, 1) := by decide +kernel
theorem dX9_bestWord_37 : decode cX9_bestWord 37 = .ok (.getfield 19, 3) := by decide +kernel
theorem dX9_bestWord_40 : decode cX9_bestWord 40 = .ok (.iload_n 2, 1) := by decide +kernel
theorem dX9_bestWord_41 : decode cX9_bestWord 41 = .ok (.invokevirtual 197, 3) := by decide +kernel
theorem dX9_bestWord_44 : decode cX9_bestWord 44 = .ok (.ireturn, 1) := by decide +kernel
theorem dX9_rests_0 : decode cX9_rests 0 = .ok (.iload_n 1, 1) := by decide +kernel
theorem dX9_rests_1 : decode cX9_rests 1 = .ok (.ifCond .lt 8, 3) := by decide +kernel
theorem dX9_rests_4 : decode cX9_rests 4 = .ok (.iload_n 1, 1) := by decide +kernel
theorem dX9_rests_5 : decode cX9_rests 5 = .ok (.iconst 4, 1) := by decide +kernel
theorem dX9_rests_6 : decode cX9_rests 6 = .ok (.if_icmp .le 6, 3) := by decide +kernel
theorem dX9_rests_9 : decode cX9_rests 9 = .ok (.bipush (-2), 2) := by decide +kernel
theorem dX9_rests_11 : decode cX9_rests 11 = .ok (.ireturn, 1) := by decide +kernel
theorem dX9_rests_12 : decode cX9_rests 12 = .ok (.aload_n 0, 1) := by decide +kernel
theorem dX9_rests_13 : decode cX9_rests 13 = .ok (.getfield 47, 3) := by decide +kernel
theorem dX9_rests_16 : decode cX9_rests 16 = .ok (.aload_n 0, 1) := by decide +kernel
theorem dX9_rests_17 : decode cX9_rests 17 = .ok (.getfield 19, 3) := by decide +kernel
theorem dX9_rests_20 : decode cX9_rests 20 = .ok (.invokevirtual 200, 3) := by decide +kernel
theorem dX9_rests_23 : decode cX9_rests 23 = .ok (.iload_n 1, 1) := by decide +kernel
theorem dX9_rests_24 : decode cX9_rests 24 = .ok (.lookupswitch 52 #[(0, 28), (4, 36)], 28) := by decide +kernel
theorem dX9_rests_52 : decode cX9_rests 52 = .ok (.aload_n 0, 1) := by decide +kernel
theorem dX9_rests_53 : decode cX9_rests 53 = .ok (.getfield 47, 3) := by decide +kernel
theorem dX9_rests_56 : decode cX9_rests 56 = .ok (.getfield 203, 3) := by decide +kernel
theorem dX9_rests_59 : decode cX9_rests 59 = .ok (.ireturn, 1) := by decide +kernel
theorem dX9_rests_60 : decode cX9_rests 60 = .ok (.aload_n 0, 1) := by decide +kernel
theorem dX9_rests_61 : decode cX9_rests 61 = .ok (.getfield 47, 3) := by decide +kernel
theorem dX9_rests_64 : decode cX9_rests 64 = .ok (.getfield 203, 3) := by decide +kernel
theorem dX9_rests_67 : decode cX9_rests 67 = .ok (.ifCond .le 7, 3) := by decide +kernel
theorem dX9_rests_70 : decode cX9_rests 70 = .ok (.iconst 1, 1) := by decide +kernel
theorem dX9_rests_71 : decode cX9_rests 71 = .ok (.goto 4, 3) := by decide +kernel
theorem dX9_rests_74 : decode cX9_rests 74 = .ok (.iconst 0, 1) := by decide +kernel
theorem dX9_rests_75 : decode cX9_rests 75 = .ok (.ireturn, 1) := by decide +kernel
theorem dX9_rests_76 : decode cX9_rests 76 = .ok (.aload_n 0, 1) := by decide +kernel
theorem dX9_rests_77 : decode cX9_rests 77 = .ok (.getfield 47, 3) := by decide +kernel
theorem dX9_rests_80 : decode cX9_rests 80 = .ok (.iload_n 1, 1) := by decide +kernel
theorem dX9_rests_81 : decode cX9_rests 81 = .ok (.iconst 1, 1) := by decide +kernel
theorem dX9_rests_82 : decode cX9_rests 82 = .ok (.isub, 1) := by decide +kernel
theorem dX9_rests_83 : decode cX9_rests 83 = .ok (.invokevirtual 206, 3) := by decide +kernel
theorem dX9_rests_86 : decode cX9_rests 86 = .ok (.ireturn, 1) := by decide +kernel
theorem dX9_sight_0 : decode cX9_sight 0 = .ok (.aload_n 0, 1) := by decide +kernel
theorem dX9_sight_1 : decode cX9_sight 1 = .ok (.getfield 19, 3) := by decide +kernel
theorem dX9_sight_4 : decode cX9_sight 4 = .ok (.iload_n 1, 1) := by decide +kernel
theorem dX9_sight_5 : decode cX9_sight 5 = .ok (.invokevirtual 97, 3) := by decide +kernel
theorem dX9_sight_8 : decode cX9_sight 8 = .ok (.ifCond .ne 5, 3) := by decide +kernel
theorem dX9_sight_11 : decode cX9_sight 11 = .ok (.iconst (-1), 1) := by decide +kernel
theorem dX9_sight_12 : decode cX9_sight 12 = .ok (.ireturn, 1) := by decide +kernel
theorem dX9_sight_13 : decode cX9_sight 13 = .ok (.iload_n 2, 1) := by decide +kernel
theorem dX9_sight_14 : decode cX9_sight 14 = .ok (.ifCond .lt 9, 3) := by decide +kernel
theorem dX9_sight_17 : decode cX9_sight 17 = .ok (.iload_n 2, 1) := by decide +kernel
theorem dX9_sight_18 : decode cX9_sight 18 = .ok (.bipush 8, 2) := by decide +kernel
theorem dX9_sight_20 : decode cX9_sight 20 = .ok (.if_icmp .le 6, 3) := by decide +kernel
theorem dX9_sight_23 : decode cX9_sight 23 = .ok (.bipush (-2), 2) := by decide +kernel
theorem dX9_sight_25 : decode cX9_sight 25 = .ok (.ireturn, 1) := by decide +kernel
theorem dX9_sight_26 : decode cX9_sight 26 = .ok (.aload_n 0, 1) := by decide +kernel
theorem dX9_sight_27 : decode cX9_sight 27 = .ok (.getfield 54, 3) := by decide +kernel
theorem dX9_sight_30 : decode cX9_sight 30 = .ok (.iload_n 1, 1) := by decide +kernel
theorem dX9_sight_31 : decode cX9_sight 31 = .ok (.iload_n 2, 1) := by decide +kernel
theorem dX9_sight_32 : decode cX9_sight 32 = .ok (.iload_n 3, 1) := by decide +kernel
theorem dX9_sight_33 : decode cX9_sight 33 = .ok (.invokevirtual 209, 3) := by decide +kernel
theorem dX9_sight_36 : decode cX9_sight 36 = .ok (.ifCond .eq 13, 3) := by decide +kernel
theorem dX9_sight_39 : decode cX9_sight 39 = .ok (.aload_n 0, 1) := by decide +kernel
theorem dX9_sight_40 : decode cX9_sight 40 = .ok (.getfield 54, 3) := by decide +kernel
theorem dX9_sight_43 : decode cX9_sight 43 = .ok (.getfield 212, 3) := by decide +kernel
theorem dX9_sight_46 : decode cX9_sight 46 = .ok (.goto 5, 3) := by decide +kernel
theorem dX9_sight_49 : decode cX9_sight 49 = .ok (.bipush (-4), 2) := by decide +kernel
theorem dX9_sight_51 : decode cX9_sight 51 = .ok (.ireturn, 1) := by decide +kernel
theorem dX9_unsight_0 : decode cX9_unsight 0 = .ok (.aload_n 0, 1) := by decide +kernel
theorem dX9_unsight_1 : decode cX9_unsight 1 = .ok (.getfield 54, 3) := by decide +kernel
theorem dX9_unsight_4 : decode cX9_unsight 4 = .ok (.getfield 212, 3) := by decide +kernel
theorem dX9_unsight_7 : decode cX9_unsight 7 = .ok (.istore_n 1, 1) := by decide +kernel
theorem dX9_unsight_8 : decode cX9_unsight 8 = .ok (.aload_n 0, 1) := by decide +kernel
theorem dX9_unsight_9 : decode cX9_unsight 9 = .ok (.getfield 54, 3) := by decide +kernel
theorem dX9_unsight_12 : decode cX9_unsight 12 = .ok (.iconst 0, 1) := by decide +kernel
theorem dX9_unsight_13 : decode cX9_unsight 13 = .ok (.putfield 212, 3) := by decide +kernel
theorem dX9_unsight_16 : decode cX9_unsight 16 = .ok (.iload_n 1, 1) := by decide +kernel
theorem dX9_unsight_17 : decode cX9_unsight 17 = .ok (.ireturn, 1) := by decide +kernel
theorem dX9_worlds_0 : decode cX9_worlds 0 = .ok (.iload_n 1, 1) := by decide +kernel
theorem dX9_worlds_1 : decode cX9_worlds 1 = .ok (.ifCond .lt 8, 3) := by decide +kernel
theorem dX9_worlds_4 : decode cX9_worlds 4 = .ok (.iload_n 1, 1) := by decide +kernel
theorem dX9_worlds_5 : decode cX9_worlds 5 = .ok (.iconst 2, 1) := by decide +kernel
theorem dX9_worlds_6 : decode cX9_worlds 6 = .ok (.if_icmp .le 6, 3) := by decide +kernel
theorem dX9_worlds_9 : decode cX9_worlds 9 = .ok (.bipush (-2), 2) := by decide +kernel
theorem dX9_worlds_11 : decode cX9_worlds 11 = .ok (.ireturn, 1) := by decide +kernel
theorem dX9_worlds_12 : decode cX9_worlds 12 = .ok (.aload_n 0, 1) := by decide +kernel
theorem dX9_worlds_13 : decode cX9_worlds 13 = .ok (.getfield 54, 3) := by decide +kernel
theorem dX9_worlds_16 : decode cX9_worlds 16 = .ok (.aload_n 0, 1) := by decide +kernel
theorem dX9_worlds_17 : decode cX9_worlds 17 = .ok (.getfield 19, 3) := by decide +kernel
theorem dX9_worlds_20 : decode cX9_worlds 20 = .ok (.invokevirtual 213, 3) := by decide +kernel
theorem dX9_worlds_23 : decode cX9_worlds 23 = .ok (.iload_n 1, 1) := by decide +kernel
theorem dX9_worlds_24 : decode cX9_worlds 24 = .ok (.ifCond .ne 11, 3) := by decide +kernel
theorem dX9_worlds_27 : decode cX9_worlds 27 = .ok (.aload_n 0, 1) := by decide +kernel
theorem dX9_worlds_28 : decode cX9_worlds 28 = .ok (.getfield 54, 3) := by decide +kernel
theorem dX9_worlds_31 : decode cX9_worlds 31 = .ok (.getfield 216, 3) := by decide +kernel
theorem dX9_worlds_34 : decode cX9_worlds 34 = .ok (.ireturn, 1) := by decide +kernel
theorem dX9_worlds_35 : decode cX9_worlds 35 = .ok (.aload_n 0, 1) := by decide +kernel
theorem dX9_worlds_36 : decode cX9_worlds 36 = .ok (.getfield 54, 3) := by decide +kernel
theorem dX9_worlds_39 : decode cX9_worlds 39 = .ok (.getfield 216, 3) := by decide +kernel
theorem dX9_worlds_42 : decode cX9_worlds 42 = .ok (.ifCond .ne 6, 3) := by decide +kernel
theorem dX9_worlds_45 : decode cX9_worlds 45 = .ok (.bipush (-9), 2) := by decide +kernel
theorem dX9_worlds_47 : decode cX9_worlds 47 = .ok (.ireturn, 1) := by decide +kernel
theorem dX9_worlds_48 : decode cX9_worlds 48 = .ok (.iload_n 1, 1) := by decide +kernel
theorem dX9_worlds_49 : decode cX9_worlds 49 = .ok (.iconst 1, 1) := by decide +kernel
theorem dX9_worlds_50 : decode cX9_worlds 50 = .ok (.if_icmp .ne 13, 3) := by decide +kernel
theorem dX9_worlds_53 : decode cX9_worlds 53 = .ok (.aload_n 0, 1) := by decide +kernel
theorem dX9_worlds_54 : decode cX9_worlds 54 = .ok (.getfield 54, 3) := by decide +kernel
theorem dX9_worlds_57 : decode cX9_worlds 57 = .ok (.getfield 219, 3) := by decide +kernel
theorem dX9_worlds_60 : decode cX9_worlds 60 = .ok (.goto 10, 3) := by decide +kernel
theorem dX9_worlds_63 : decode cX9_worlds 63 = .ok (.aload_n 0, 1) := by decide +kernel
theorem dX9_worlds_64 : decode cX9_worlds 64 = .ok (.getfield 54, 3) := by decide +kernel
theorem dX9_worlds_67 : decode cX9_worlds 67 = .ok (.getfield 222, 3) := by decide +kernel
theorem dX9_worlds_70 : decode cX9_worlds 70 = .ok (.ireturn, 1) := by decide +kernel
theorem dX9_toSeek_0 : decode cX9_toSeek 0 = .ok (.aload_n 0, 1) := by decide +kernel
theorem dX9_toSeek_1 : decode cX9_toSeek 1 = .ok (.getfield 54, 3) := by decide +kernel
theorem dX9_toSeek_4 : decode cX9_toSeek 4 = .ok (.aload_n 0, 1) := by decide +kernel
theorem dX9_toSeek_5 : decode cX9_toSeek 5 = .ok (.getfield 19, 3) := by decide +kernel
theorem dX9_toSeek_8 : decode cX9_toSeek 8 = .ok (.invokevirtual 213, 3) := by decide +kernel
theorem dX9_toSeek_11 : decode cX9_toSeek 11 = .ok (.aload_n 0, 1) := by decide +kernel
theorem dX9_toSeek_12 : decode cX9_toSeek 12 = .ok (.getfield 54, 3) := by decide +kernel
theorem dX9_toSeek_15 : decode cX9_toSeek 15 = .ok (.aload_n 0, 1) := by decide +kernel
theorem dX9_toSeek_16 : decode cX9_toSeek 16 = .ok (.getfield 19, 3) := by decide +kernel
theorem dX9_toSeek_19 : decode cX9_toSeek 19 = .ok (.invokevirtual 225, 3) := by decide +kernel
theorem dX9_toSeek_22 : decode cX9_toSeek 22 = .ok (.ireturn, 1) := by decide +kernel
theorem dX9_byTurns_0 : decode cX9_byTurns 0 = .ok (.iload_n 1, 1) := by decide +kernel
theorem dX9_byTurns_1 : decode cX9_byTurns 1 = .ok (.ifCond .lt 17, 3) := by decide +kernel
theorem dX9_byTurns_4 : decode cX9_byTurns 4 = .ok (.iload_n 1, 1) := by decide +kernel
theorem dX9_byTurns_5 : decode cX9_byTurns 5 = .ok (.iconst 4, 1) := by decide +kernel
theorem dX9_byTurns_6 : decode cX9_byTurns 6 = .ok (.if_icmp .gt 12, 3) := by decide +kernel
theorem dX9_byTurns_9 : decode cX9_byTurns 9 = .ok (.iload_n 2, 1) := by decide +kernel
theorem dX9_byTurns_10 : decode cX9_byTurns 10 = .ok (.ifCond .lt 8, 3) := by decide +kernel
theorem dX9_byTurns_13 : decode cX9_byTurns 13 = .ok (.iload_n 2, 1) := by decide +kernel
theorem dX9_byTurns_14 : decode cX9_byTurns 14 = .ok (.iconst 1, 1) := by decide +kernel
theorem dX9_byTurns_15 : decode cX9_byTurns 15 = .ok (.if_icmp .le 6, 3) := by decide +kernel
theorem dX9_byTurns_18 : decode cX9_byTurns 18 = .ok (.bipush (-2), 2) := by decide +kernel
theorem dX9_byTurns_20 : decode cX9_byTurns 20 = .ok (.ireturn, 1) := by decide +kernel
theorem dX9_byTurns_21 : decode cX9_byTurns 21 = .ok (.aload_n 0, 1) := by decide +kernel
theorem dX9_byTurns_22 : decode cX9_byTurns 22 = .ok (.getfield 61, 3) := by decide +kernel
theorem dX9_byTurns_25 : decode cX9_byTurns 25 = .ok (.aload_n 0, 1) := by decide +kernel
theorem dX9_byTurns_26 : decode cX9_byTurns 26 = .ok (.getfield 19, 3) := by decide +kernel
theorem dX9_byTurns_29 : decode cX9_byTurns 29 = .ok (.iload_n 1, 1) := by decide +kernel
theorem dX9_byTurns_30 : decode cX9_byTurns 30 = .ok (.invokevirtual 228, 3) := by decide +kernel
theorem dX9_byTurns_33 : decode cX9_byTurns 33 = .ok (.iload_n 2, 1) := by decide +kernel
theorem dX9_byTurns_34 : decode cX9_byTurns 34 = .ok (.ifCond .ne 17, 3) := by decide +kernel
theorem dX9_byTurns_37 : decode cX9_byTurns 37 = .ok (.aload_n 0, 1) := by decide +kernel
theorem dX9_byTurns_38 : decode cX9_byTurns 38 = .ok (.getfield 61, 3) := by decide +kernel
theorem dX9_byTurns_41 : decode cX9_byTurns 41 = .ok (.getfield 231, 3) := by decide +kernel
theorem dX9_byTurns_44 : decode cX9_byTurns 44 = .ok (.sipush 1000, 3) := by decide +kernel
theorem dX9_byTurns_47 : decode cX9_byTurns 47 = .ok (.iadd, 1) := by decide +kernel
theorem dX9_byTurns_48 : decode cX9_byTurns 48 = .ok (.goto 10, 3) := by decide +kernel
theorem dX9_byTurns_51 : decode cX9_byTurns 51 = .ok (.aload_n 0, 1) := by decide +kernel
theorem dX9_byTurns_52 : decode cX9_byTurns 52 = .ok (.getfield 61, 3) := by decide +kernel
theorem dX9_byTurns_55 : decode cX9_byTurns 55 = .ok (.getfield 234, 3) := by decide +kernel
theorem dX9_byTurns_58 : decode cX9_byTurns 58 = .ok (.ireturn, 1) := by decide +kernel
theorem dX9_chance_0 : decode cX9_chance 0 = .ok (.aload_n 0, 1) := by decide +kernel
theorem dX9_chance_1 : decode cX9_chance 1 = .ok (.getfield 19, 3) := by decide +kernel
theorem dX9_chance_4 : decode cX9_chance 4 = .ok (.iload_n 1, 1) := by decide +kernel
theorem dX9_chance_5 : decode cX9_chance 5 = .ok (.invokevirtual 97, 3) := by decide +kernel
theorem dX9_chance_8 : decode cX9_chance 8 = .ok (.ifCond .ne 5, 3) := by decide +kernel
theorem dX9_chance_11 : decode cX9_chance 11 = .ok (.iconst (-1), 1) := by decide +kernel
theorem dX9_chance_12 : decode cX9_chance 12 = .ok (.ireturn, 1) := by decide +kernel
theorem dX9_chance_13 : decode cX9_chance 13 = .ok (.iload_n 2, 1) := by decide +kernel
theorem dX9_chance_14 : decode cX9_chance 14 = .ok (.ifCond .lt 9, 3) := by decide +kernel
theorem dX9_chance_17 : decode cX9_chance 17 = .ok (.iload_n 2, 1) := by decide +kernel
theorem dX9_chance_18 : decode cX9_chance 18 = .ok (.bipush 10, 2) := by decide +kernel
theorem dX9_chance_20 : decode cX9_chance 20 = .ok (.if_icmp .le 6, 3) := by decide +kernel
theorem dX9_chance_23 : decode cX9_chance 23 = .ok (.bipush (-2), 2) := by decide +kernel
theorem dX9_chance_25 : decode cX9_chance 25 = .ok (.ireturn, 1) := by decide +kernel
theorem dX9_chance_26 : decode cX9_chance 26 = .ok (.aload_n 0, 1) := by decide +kernel
theorem dX9_chance_27 : decode cX9_chance 27 = .ok (.getfield 68, 3) := by decide +kernel
theorem dX9_chance_30 : decode cX9_chance 30 = .ok (.aload_n 0, 1) := by decide +kernel
theorem dX9_chance_31 : decode cX9_chance 31 = .ok (.getfield 19, 3) := by decide +kernel
theorem dX9_chance_34 : decode cX9_chance 34 = .ok (.iload_n 1, 1) := by decide +kernel
theorem dX9_chance_35 : decode cX9_chance 35 = .ok (.iload_n 2, 1) := by decide +kernel
theorem dX9_chance_36 : decode cX9_chance 36 = .ok (.invokevirtual 237, 3) := by decide +kernel
theorem dX9_chance_39 : decode cX9_chance 39 = .ok (.iload_n 3, 1) := by decide +kernel
theorem dX9_chance_40 : decode cX9_chance 40 = .ok (.ifCond .eq 13, 3) := by decide +kernel
theorem dX9_chance_43 : decode cX9_chance 43 = .ok (.aload_n 0, 1) := by decide +kernel
theorem dX9_chance_44 : decode cX9_chance 44 = .ok (.getfield 68, 3) := by decide +kernel
theorem dX9_chance_47 : decode cX9_chance 47 = .ok (.getfield 240, 3) := by decide +kernel
theorem dX9_chance_50 : decode cX9_chance 50 = .ok (.goto 10, 3) := by decide +kernel
theorem dX9_chance_53 : decode cX9_chance 53 = .ok (.aload_n 0, 1) := by decide +kernel
theorem dX9_chance_54 : decode cX9_chance 54 = .ok (.getfield 68, 3) := by decide +kernel
theorem dX9_chance_57 : decode cX9_chance 57 = .ok (.getfield 243, 3) := by decide +kernel
theorem dX9_chance_60 : decode cX9_chance 60 = .ok (.ireturn, 1) := by decide +kernel
theorem dX9_seed_0 : decode cX9_seed 0 = .ok (.aload_n 0, 1) := by decide +kernel
theorem dX9_seed_1 : decode cX9_seed 1 = .ok (.getfield 68, 3) := by decide +kernel
theorem dX9_seed_4 : decode cX9_seed 4 = .ok (.getfield 246, 3) := by decide +kernel
theorem dX9_seed_7 : decode cX9_seed 7 = .ok (.lstore_n 3, 1) := by decide +kernel
theorem dX9_seed_8 : decode cX9_seed 8 = .ok (.aload_n 0, 1) := by decide +kernel
theorem dX9_seed_9 : decode cX9_seed 9 = .ok (.getfield 68, 3) := by decide +kernel
theorem dX9_seed_12 : decode cX9_seed 12 = .ok (.lload_n 1, 1) := by decide +kernel
theorem dX9_seed_13 : decode cX9_seed 13 = .ok (.putfield 246, 3) := by decide +kernel
theorem dX9_seed_16 : decode cX9_seed 16 = .ok (.lload_n 3, 1) := by decide +kernel
theorem dX9_seed_17 : decode cX9_seed 17 = .ok (.lreturn, 1) := by decide +kernel
theorem dX9_years_0 : decode cX9_years 0 = .ok (.iload_n 1, 1) := by decide +kernel
theorem dX9_years_1 : decode cX9_years 1 = .ok (.iconst 1, 1) := by decide +kernel
theorem dX9_years_2 : decode cX9_years 2 = .ok (.if_icmp .lt 19, 3) := by decide +kernel
theorem dX9_years_5 : decode cX9_years 5 = .ok (.iload_n 1, 1) := by decide +kernel
theorem dX9_years_6 : decode cX9_years 6 = .ok (.bipush 30, 2) := by decide +kernel
theorem dX9_years_8 : decode cX9_years 8 = .ok (.if_icmp .gt 13, 3) := by decide +kernel
theorem dX9_years_11 : decode cX9_years 11 = .ok (.iload_n 2, 1) := by decide +kernel
theorem dX9_years_12 : decode cX9_years 12 = .ok (.ifCond .lt 9, 3) := by decide +kernel
theorem dX9_years_15 : decode cX9_years 15 = .ok (.iload_n 2, 1) := by decide +kernel
theorem dX9_years_16 : decode cX9_years 16 = .ok (.bipush 10, 2) := by decide +kernel
theorem dX9_years_18 : decode cX9_years 18 = .ok (.if_icmp .le 6, 3) := by decide +kernel
theorem dX9_years_21 : decode cX9_years 21 = .ok (.bipush (-2), 2) := by decide +kernel
theorem dX9_years_23 : decode cX9_years 23 = .ok (.ireturn, 1) := by decide +kernel
theorem dX9_years_24 : decode cX9_years 24 = .ok (.aload_n 0, 1) := by decide +kernel
theorem dX9_years_25 : decode cX9_years 25 = .ok (.getfield 68, 3) := by decide +kernel
theorem dX9_years_28 : decode cX9_years 28 = .ok (.aload_n 0, 1) := by decide +kernel
theorem dX9_years_29 : decode cX9_years 29 = .ok (.getfield 19, 3) := by decide +kernel
theorem dX9_years_32 : decode cX9_years 32 = .ok (.iload_n 1, 1) := by decide +kernel
theorem dX9_years_33 : decode cX9_years 33 = .ok (.iload_n 2, 1) := by decide +kernel
theorem dX9_years_34 : decode cX9_years 34 = .ok (.invokevirtual 250, 3) := by decide +kernel
theorem dX9_years_37 : decode cX9_years 37 = .ok (.ireturn, 1) := by decide +kernel
theorem dX9_keep_0 : decode cX9_keep 0 = .ok (.aload_n 0, 1) := by decide +kernel
theorem dX9_keep_1 : decode cX9_keep 1 = .ok (.iload_n 1, 1) := by decide +kernel
theorem dX9_keep_2 : decode cX9_keep 2 = .ok (.invokevirtual 254, 3) := by decide +kernel
theorem dX9_keep_5 : decode cX9_keep 5 = .ok (.astore_n 2, 1) := by decide +kernel
theorem dX9_keep_6 : decode cX9_keep 6 = .ok (.aload_n 2, 1) := by decide +kernel
theorem dX9_keep_7 : decode cX9_keep 7 = .ok (.ifnonnull 5, 3) := by decide +kernel
theorem dX9_keep_10 : decode cX9_keep 10 = .ok (.iconst (-1), 1) := by decide +kernel
theorem dX9_keep_11 : decode cX9_keep 11 = .ok (.ireturn, 1) := by decide +kernel
theorem dX9_keep_12 : decode cX9_keep 12 = .ok (.aload_n 2, 1) := by decide +kernel
theorem dX9_keep_13 : decode cX9_keep 13 = .ok (.aload_n 0, 1) := by decide +kernel
theorem dX9_keep_14 : decode cX9_keep 14 = .ok (.getfield 19, 3) := by decide +kernel
theorem dX9_keep_17 : decode cX9_keep 17 = .ok (.invokevirtual 162, 3) := by decide +kernel
theorem dX9_keep_20 : decode cX9_keep 20 = .ok (.aload_n 0, 1) := by decide +kernel
theorem dX9_keep_21 : decode cX9_keep 21 = .ok (.dup, 1) := by decide +kernel
theorem dX9_keep_22 : decode cX9_keep 22 = .ok (.getfield 91, 3) := by decide +kernel
theorem dX9_keep_25 : decode cX9_keep 25 = .ok (.iconst 1, 1) := by decide +kernel
theorem dX9_keep_26 : decode cX9_keep 26 = .ok (.iload_n 1, 1) := by decide +kernel
theorem dX9_keep_27 : decode cX9_keep 27 = .ok (.ishl, 1) := by decide +kernel
theorem dX9_keep_28 : decode cX9_keep 28 = .ok (.ior, 1) := by decide +kernel
theorem dX9_keep_29 : decode cX9_keep 29 = .ok (.putfield 91, 3) := by decide +kernel
theorem dX9_keep_32 : decode cX9_keep 32 = .ok (.aload_n 0, 1) := by decide +kernel
theorem dX9_keep_33 : decode cX9_keep 33 = .ok (.getfield 19, 3) := by decide +kernel
theorem dX9_keep_36 : decode cX9_keep 36 = .ok (.getfield 94, 3) := by decide +kernel
theorem dX9_keep_39 : decode cX9_keep 39 = .ok (.ireturn, 1) := by decide +kernel
theorem dX9_again_0 : decode cX9_again 0 = .ok (.aload_n 0, 1) := by decide +kernel
theorem dX9_again_1 : decode cX9_again 1 = .ok (.iload_n 1, 1) := by decide +kernel
theorem dX9_again_2 : decode cX9_again 2 = .ok (.invokevirtual 254, 3) := by decide +kernel
theorem dX9_again_5 : decode cX9_again 5 = .ok (.astore_n 2, 1) := by decide +kernel
theorem dX9_again_6 : decode cX9_again 6 = .ok (.aload_n 2, 1) := by decide +kernel
theorem dX9_again_7 : decode cX9_again 7 = .ok (.ifnonnull 5, 3) := by decide +kernel
theorem dX9_again_10 : decode cX9_again 10 = .ok (.iconst (-1), 1) := by decide +kernel
theorem dX9_again_11 : decode cX9_again 11 = .ok (.ireturn, 1) := by decide +kernel
theorem dX9_again_12 : decode cX9_again 12 = .ok (.aload_n 0, 1) := by decide +kernel
theorem dX9_again_13 : decode cX9_again 13 = .ok (.getfield 91, 3) := by decide +kernel
theorem dX9_again_16 : decode cX9_again 16 = .ok (.iload_n 1, 1) := by decide +kernel
theorem dX9_again_17 : decode cX9_again 17 = .ok (.invokestatic 173, 3) := by decide +kernel
theorem dX9_again_20 : decode cX9_again 20 = .ok (.ifCond .ne 6, 3) := by decide +kernel
theorem dX9_again_23 : decode cX9_again 23 = .ok (.bipush (-3), 2) := by decide +kernel
theorem dX9_again_25 : decode cX9_again 25 = .ok (.ireturn, 1) := by decide +kernel
theorem dX9_again_26 : decode cX9_again 26 = .ok (.aload_n 0, 1) := by decide +kernel
theorem dX9_again_27 : decode cX9_again 27 = .ok (.getfield 19, 3) := by decide +kernel
theorem dX9_again_30 : decode cX9_again 30 = .ok (.aload_n 2, 1) := by decide +kernel
theorem dX9_again_31 : decode cX9_again 31 = .ok (.invokevirtual 162, 3) := by decide +kernel
theorem dX9_again_34 : decode cX9_again 34 = .ok (.aload_n 0, 1) := by decide +kernel
theorem dX9_again_35 : decode cX9_again 35 = .ok (.getfield 29, 3) := by decide +kernel
theorem dX9_again_38 : decode cX9_again 38 = .ok (.invokevirtual 88, 3) := by decide +kernel
theorem dX9_again_41 : decode cX9_again 41 = .ok (.aload_n 0, 1) := by decide +kernel
theorem dX9_again_42 : decode cX9_again 42 = .ok (.getfield 19, 3) := by decide +kernel
theorem dX9_again_45 : decode cX9_again 45 = .ok (.getfield 94, 3) := by decide +kernel
theorem dX9_again_48 : decode cX9_again 48 = .ok (.ireturn, 1) := by decide +kernel
theorem dX9_count_0 : decode cX9_count 0 = .ok (.iload_n 1, 1) := by decide +kernel
theorem dX9_count_1 : decode cX9_count 1 = .ok (.tableswitch 147 0 10 #[59, 67, 75, 83, 91, 99, 107, 115, 123, 131, 139], 59) := by decide +kernel
theorem dX9_count_60 : decode cX9_count 60 = .ok (.aload_n 0, 1) := by decide +kernel
theorem dX9_count_61 : decode cX9_count 61 = .ok (.getfield 10, 3) := by decide +kernel
theorem dX9_count_64 : decode cX9_count 64 = .ok (.getfield 76, 3) := by decide +kernel
theorem dX9_count_67 : decode cX9_count 67 = .ok (.ireturn, 1) := by decide +kernel
theorem dX9_count_68 : decode cX9_count 68 = .ok (.aload_n 0, 1) := by decide +kernel
theorem dX9_count_69 : decode cX9_count 69 = .ok (.getfield 19, 3) := by decide +kernel
theorem dX9_count_72 : decode cX9_count 72 = .ok (.getfield 94, 3) := by decide +kernel
theorem dX9_count_75 : decode cX9_count 75 = .ok (.ireturn, 1) := by decide +kernel
theorem dX9_count_76 : decode cX9_count 76 = .ok (.aload_n 0, 1) := by decide +kernel
theorem dX9_count_77 : decode cX9_count 77 = .ok (.getfield 19, 3) := by decide +kernel
theorem dX9_count_80 : decode cX9_count 80 = .ok (.getfield 119, 3) := by decide +kernel
theorem dX9_count_83 : decode cX9_count 83 = .ok (.ireturn, 1) := by decide +kernel
theorem dX9_count_84 : decode cX9_count 84 = .ok (.aload_n 0, 1) := by decide +kernel
theorem dX9_count_85 : decode cX9_count 85 = .ok (.getfield 19, 3) := by decide +kernel
theorem dX9_count_88 : decode cX9_count 88 = .ok (.getfield 151, 3) := by decide +kernel
theorem dX9_count_91 : decode cX9_count 91 = .ok (.ireturn, 1) := by decide +kernel
theorem dX9_count_92 : decode cX9_count 92 = .ok (.aload_n 0, 1) := by decide +kernel
theorem dX9_count_93 : decode cX9_count 93 = .ok (.getfield 19, 3) := by decide +kernel
theorem dX9_count_96 : decode cX9_count 96 = .ok (.invokevirtual 122, 3) := by decide +kernel
theorem dX9_count_99 : decode cX9_count 99 = .ok (.ireturn, 1) := by decide +kernel
theorem dX9_count_100 : decode cX9_count 100 = .ok (.aload_n 0, 1) := by decide +kernel
theorem dX9_count_101 : decode cX9_count 101 = .ok (.getfield 19, 3) := by decide +kernel
theorem dX9_count_104 : decode cX9_count 104 = .ok (.invokevirtual 116, 3) := by decide +kernel
theorem dX9_count_107 : decode cX9_count 107 = .ok (.ireturn, 1) := by decide +kernel
theorem dX9_count_108 : decode cX9_count 108 = .ok (.aload_n 0, 1) := by decide +kernel
theorem dX9_count_109 : decode cX9_count 109 = .ok (.getfield 19, 3) := by decide +kernel
theorem dX9_count_112 : decode cX9_count 112 = .ok (.getfield 113, 3) := by decide +kernel
theorem dX9_count_115 : decode cX9_count 115 = .ok (.ireturn, 1) := by decide +kernel
theorem dX9_count_116 : decode cX9_count 116 = .ok (.aload_n 0, 1) := by decide +kernel
theorem dX9_count_117 : decode cX9_count 117 = .ok (.getfield 19, 3) := by decide +kernel
theorem dX9_count_120 : decode cX9_count 120 = .ok (.invokevirtual 258, 3) := by decide +kernel
theorem dX9_count_123 : decode cX9_count 123 = .ok (.ireturn, 1) := by decide +kernel
theorem dX9_count_124 : decode cX9_count 124 = .ok (.aload_n 0, 1) := by decide +kernel
theorem dX9_count_125 : decode cX9_count 125 = .ok (.getfield 19, 3) := by decide +kernel
theorem dX9_count_128 : decode cX9_count 128 = .ok (.getfield 107, 3) := by decide +kernel
theorem dX9_count_131 : decode cX9_count 131 = .ok (.ireturn, 1) := by decide +kernel
theorem dX9_count_132 : decode cX9_count 132 = .ok (.aload_n 0, 1) := by decide +kernel
theorem dX9_count_133 : decode cX9_count 133 = .ok (.getfield 29, 3) := by decide +kernel
theorem dX9_count_136 : decode cX9_count 136 = .ok (.getfield 158, 3) := by decide +kernel
theorem dX9_count_139 : decode cX9_count 139 = .ok (.ireturn, 1) := by decide +kernel
theorem dX9_count_140 : decode cX9_count 140 = .ok (.aload_n 0, 1) := by decide +kernel
theorem dX9_count_141 : decode cX9_count 141 = .ok (.getfield 54, 3) := by decide +kernel
theorem dX9_count_144 : decode cX9_count 144 = .ok (.getfield 212, 3) := by decide +kernel
theorem dX9_count_147 : decode cX9_count 147 = .ok (.ireturn, 1) := by decide +kernel
theorem dX9_count_148 : decode cX9_count 148 = .ok (.bipush (-2), 2) := by decide +kernel
theorem dX9_count_150 : decode cX9_count 150 = .ok (.ireturn, 1) := by decide +kernel
theorem dX9_slotAt_0 : decode cX9_slotAt 0 = .ok (.iload_n 1, 1) := by decide +kernel
theorem dX9_slotAt_1 : decode cX9_slotAt 1 = .ok (.ifCond .lt 21, 3) := by decide +kernel
theorem dX9_slotAt_4 : decode cX9_slotAt 4 = .ok (.iload_n 1, 1) := by decide +kernel
theorem dX9_slotAt_5 : decode cX9_slotAt 5 = .ok (.aload_n 0, 1) := by decide +kernel
theorem dX9_slotAt_6 : decode cX9_slotAt 6 = .ok (.getfield 33, 3) := by decide +kernel
theorem dX9_slotAt_9 : decode cX9_slotAt 9 = .ok (.arraylength, 1) := by decide +kernel
theorem dX9_slotAt_10 : decode cX9_slotAt 10 = .ok (.if_icmp .ge 12, 3) := by decide +kernel
theorem dX9_slotAt_13 : decode cX9_slotAt 13 = .ok (.aload_n 0, 1) := by decide +kernel
theorem dX9_slotAt_14 : decode cX9_slotAt 14 = .ok (.getfield 33, 3) := by decide +kernel
theorem dX9_slotAt_17 : decode cX9_slotAt 17 = .ok (.iload_n 1, 1) := by decide +kernel
theorem dX9_slotAt_18 : decode cX9_slotAt 18 = .ok (.aaload, 1) := by decide +kernel
theorem dX9_slotAt_19 : decode cX9_slotAt 19 = .ok (.goto 4, 3) := by decide +kernel
theorem dX9_slotAt_22 : decode cX9_slotAt 22 = .ok (.aconst_null, 1) := by decide +kernel
theorem dX9_slotAt_23 : decode cX9_slotAt 23 = .ok (.areturn, 1) := by decide +kernel
theorem dX9_holds_0 : decode cX9_holds 0 = .ok (.iload_n 1, 1) := by decide +kernel
theorem dX9_holds_1 : decode cX9_holds 1 = .ok (.ifCond .lt 22, 3) := by decide +kernel
theorem dX9_holds_4 : decode cX9_holds 4 = .ok (.iload_n 1, 1) := by decide +kernel
theorem dX9_holds_5 : decode cX9_holds 5 = .ok (.bipush 8, 2) := by decide +kernel
theorem dX9_holds_7 : decode cX9_holds 7 = .ok (.if_icmp .ge 16, 3) := by decide +kernel
theorem dX9_holds_10 : decode cX9_holds 10 = .ok (.iload_n 0, 1) := by decide +kernel
theorem dX9_holds_11 : decode cX9_holds 11 = .ok (.iload_n 1, 1) := by decide +kernel
theorem dX9_holds_12 : decode cX9_holds 12 = .ok (.ishr, 1) := by decide +kernel
theorem dX9_holds_13 : decode cX9_holds 13 = .ok (.iconst 1, 1) := by decide +kernel
theorem dX9_holds_14 : decode cX9_holds 14 = .ok (.iand, 1) := by decide +kernel
theorem dX9_holds_15 : decode cX9_holds 15 = .ok (.iconst 1, 1) := by decide +kernel
theorem dX9_holds_16 : decode cX9_holds 16 = .ok (.if_icmp .ne 7, 3) := by decide +kernel
theorem dX9_holds_19 : decode cX9_holds 19 = .ok (.iconst 1, 1) := by decide +kernel
theorem dX9_holds_20 : decode cX9_holds 20 = .ok (.goto 4, 3) := by decide +kernel
theorem dX9_holds_23 : decode cX9_holds 23 = .ok (.iconst 0, 1) := by decide +kernel
theorem dX9_holds_24 : decode cX9_holds 24 = .ok (.ireturn, 1) := by decide +kernel
theorem dX9_withoutLast_0 : decode cX9_withoutLast 0 = .ok (.iload_n 0, 1) := by decide +kernel
theorem dX9_withoutLast_1 : decode cX9_withoutLast 1 = .ok (.istore_n 2, 1) := by decide +kernel
theorem dX9_withoutLast_2 : decode cX9_withoutLast 2 = .ok (.iconst 0, 1) := by decide +kernel
theorem dX9_withoutLast_3 : decode cX9_withoutLast 3 = .ok (.istore_n 3, 1) := by decide +kernel
theorem dX9_withoutLast_4 : decode cX9_withoutLast 4 = .ok (.iload_n 3, 1) := by decide +kernel
theorem dX9_withoutLast_5 : decode cX9_withoutLast 5 = .ok (.iload_n 1, 1) := by decide +kernel
theorem dX9_withoutLast_6 : decode cX9_withoutLast 6 = .ok (.if_icmp .ge 14, 3) := by decide +kernel
theorem dX9_withoutLast_9 : decode cX9_withoutLast 9 = .ok (.iload_n 2, 1) := by decide +kernel
theorem dX9_withoutLast_10 : decode cX9_withoutLast 10 = .ok (.bipush 100, 2) := by decide +kernel
theorem dX9_withoutLast_12 : decode cX9_withoutLast 12 = .ok (.idiv, 1) := by decide +kernel
theorem dX9_withoutLast_13 : decode cX9_withoutLast 13 = .ok (.istore_n 2, 1) := by decide +kernel
theorem dX9_withoutLast_14 : decode cX9_withoutLast 14 = .ok (.iinc 3 1, 3) := by decide +kernel
theorem dX9_withoutLast_17 : decode cX9_withoutLast 17 = .ok (.goto (-13), 3) := by decide +kernel
theorem dX9_withoutLast_20 : decode cX9_withoutLast 20 = .ok (.iload_n 2, 1) := by decide +kernel
theorem dX9_withoutLast_21 : decode cX9_withoutLast 21 = .ok (.ireturn, 1) := by decide +kernel
theorem dX9_at_0 : decode cX9_at 0 = .ok (.iload_n 1, 1) := by decide +kernel
theorem dX9_at_1 : decode cX9_at 1 = .ok (.ifCond .lt 15, 3) := by decide +kernel
theorem dX9_at_4 : decode cX9_at 4 = .ok (.iload_n 1, 1) := by decide +kernel
theorem dX9_at_5 : decode cX9_at 5 = .ok (.aload_n 0, 1) := by decide +kernel
theorem dX9_at_6 : decode cX9_at 6 = .ok (.arraylength, 1) := by decide +kernel
theorem dX9_at_7 : decode cX9_at 7 = .ok (.if_icmp .ge 9, 3) := by decide +kernel
theorem dX9_at_10 : decode cX9_at 10 = .ok (.aload_n 0, 1) := by decide +kernel
theorem dX9_at_11 : decode cX9_at 11 = .ok (.iload_n 1, 1) := by decide +kernel
theorem dX9_at_12 : decode cX9_at 12 = .ok (.iaload, 1) := by decide +kernel
theorem dX9_at_13 : decode cX9_at 13 = .ok (.goto 4, 3) := by decide +kernel
theorem dX9_at_16 : decode cX9_at 16 = .ok (.iconst 0, 1) := by decide +kernel
theorem dX9_at_17 : decode cX9_at 17 = .ok (.ireturn, 1) := by decide +kernel
theorem dX9_put_0 : decode cX9_put 0 = .ok (.iload_n 1, 1) := by decide +kernel
theorem dX9_put_1 : decode cX9_put 1 = .ok (.ifCond .lt 13, 3) := by decide +kernel
theorem dX9_put_4 : decode cX9_put 4 = .ok (.iload_n 1, 1) := by decide +kernel
theorem dX9_put_5 : decode cX9_put 5 = .ok (.aload_n 0, 1) := by decide +kernel
theorem dX9_put_6 : decode cX9_put 6 = .ok (.arraylength, 1) := by decide +kernel
theorem dX9_put_7 : decode cX9_put 7 = .ok (.if_icmp .ge 7, 3) := by decide +kernel
theorem dX9_put_10 : decode cX9_put 10 = .ok (.aload_n 0, 1) := by decide +kernel
theorem dX9_put_11 : decode cX9_put 11 = .ok (.iload_n 1, 1) := by decide +kernel
theorem dX9_put_12 : decode cX9_put 12 = .ok (.iload_n 2, 1) := by decide +kernel
theorem dX9_put_13 : decode cX9_put 13 = .ok (.iastore, 1) := by decide +kernel
theorem dX9_put_14 : decode cX9_put 14 = .ok (.return_, 1) := by decide +kernel
theorem dX10_init_0 : decode cX10_init 0 = .ok (.aload_n 0, 1) := by decide +kernel
theorem dX10_init_1 : decode cX10_init 1 = .ok (.invokespecial 1, 3) := by decide +kernel
theorem dX10_init_4 : decode cX10_init 4 = .ok (.aload_n 0, 1) := by decide +kernel
theorem dX10_init_5 : decode cX10_init 5 = .ok (.bipush 28, 2) := by decide +kernel
theorem dX10_init_7 : decode cX10_init 7 = .ok (.newarray .int, 2) := by decide +kernel
theorem dX10_init_9 : decode cX10_init 9 = .ok (.putfield 7, 3) := by decide +kernel
theorem dX10_init_12 : decode cX10_init 12 = .ok (.aload_n 0, 1) := by decide +kernel
theorem dX10_init_13 : decode cX10_init 13 = .ok (.bipush 56, 2) := by decide +kernel
theorem dX10_init_15 : decode cX10_init 15 = .ok (.newarray .int, 2) := by decide +kernel
theorem dX10_init_17 : decode cX10_init 17 = .ok (.putfield 13, 3) := by decide +kernel
theorem dX10_init_20 : decode cX10_init 20 = .ok (.aload_n 0, 1) := by decide +kernel
theorem dX10_init_21 : decode cX10_init 21 = .ok (.sipush 224, 3) := by decide +kernel
theorem dX10_init_24 : decode cX10_init 24 = .ok (.newarray .int, 2) := by decide +kernel
theorem dX10_init_26 : decode cX10_init 26 = .ok (.putfield 16, 3) := by decide +kernel
theorem dX10_init_29 : decode cX10_init 29 = .ok (.aload_n 0, 1) := by decide +kernel
theorem dX10_init_30 : decode cX10_init 30 = .ok (.bipush 6, 2) := by decide +kernel
theorem dX10_init_32 : decode cX10_init 32 = .ok (.newarray .int, 2) := by decide +kernel
theorem dX10_init_34 : decode cX10_init 34 = .ok (.putfield 19, 3) := by decide +kernel
theorem dX10_init_37 : decode cX10_init 37 = .ok (.aload_n 0, 1) := by decide +kernel
theorem dX10_init_38 : decode cX10_init 38 = .ok (.bipush 6, 2) := by decide +kernel
theorem dX10_init_40 : decode cX10_init 40 = .ok (.newarray .int, 2) := by decide +kernel
theorem dX10_init_42 : decode cX10_init 42 = .ok (.putfield 22, 3) := by decide +kernel
theorem dX10_init_45 : decode cX10_init 45 = .ok (.aload_n 0, 1) := by decide +kernel
theorem dX10_init_46 : decode cX10_init 46 = .ok (.bipush 6, 2) := by decide +kernel
theorem dX10_init_48 : decode cX10_init 48 = .ok (.newarray .boolean, 2) := by decide +kernel
theorem dX10_init_50 : decode cX10_init 50 = .ok (.putfield 25, 3) := by decide +kernel
theorem dX10_init_53 : decode cX10_init 53 = .ok (.aload_n 0, 1) := by decide +kernel
theorem dX10_init_54 : decode cX10_init 54 = .ok (.bipush 8, 2) := by decide +kernel
theorem dX10_init_56 : decode cX10_init 56 = .ok (.newarray .int, 2) := by decide +kernel
theorem dX10_init_58 : decode cX10_init 58 = .ok (.putfield 29, 3) := by decide +kernel
theorem dX10_init_61 : decode cX10_init 61 = .ok (.aload_n 0, 1) := by decide +kernel
theorem dX10_init_62 : decode cX10_init 62 = .ok (.bipush 6, 2) := by decide +kernel
theorem dX10_init_64 : decode cX10_init 64 = .ok (.newarray .int, 2) := by decide +kernel
theorem dX10_init_66 : decode cX10_init 66 = .ok (.putfield 32, 3) := by decide +kernel
theorem dX10_init_69 : decode cX10_init 69 = .ok (.aload_n 0, 1) := by decide +kernel
theorem dX10_init_70 : decode cX10_init 70 = .ok (.bipush 6, 2) := by decide +kernel
theorem dX10_init_72 : decode cX10_init 72 = .ok (.newarray .int, 2) := by decide +kernel
theorem dX10_init_74 : decode cX10_init 74 = .ok (.putfield 35, 3) := by decide +kernel
theorem dX10_init_77 : decode cX10_init 77 = .ok (.aload_n 0, 1) := by decide +kernel
theorem dX10_init_78 : decode cX10_init 78 = .ok (.bipush 6, 2) := by decide +kernel
theorem dX10_init_80 : decode cX10_init 80 = .ok (.newarray .int, 2) := by decide +kernel
theorem dX10_init_82 : decode cX10_init 82 = .ok (.putfield 38, 3) := by decide +kernel
theorem dX10_init_85 : decode cX10_init 85 = .ok (.aload_n 0, 1) := by decide +kernel
theorem dX10_init_86 : decode cX10_init 86 = .ok (.bipush 6, 2) := by decide +kernel
theorem dX10_init_88 : decode cX10_init 88 = .ok (.newarray .int, 2) := by decide +kernel
theorem dX10_init_90 : decode cX10_init 90 = .ok (.putfield 41, 3) := by decide +kernel
theorem dX10_init_93 : decode cX10_init 93 = .ok (.aload_n 0, 1) := by decide +kernel
theorem dX10_init_94 : decode cX10_init 94 = .ok (.bipush 6, 2) := by decide +kernel
theorem dX10_init_96 : decode cX10_init 96 = .ok (.newarray .int, 2) := by decide +kernel
theorem dX10_init_98 : decode cX10_init 98 = .ok (.putfield 44, 3) := by decide +kernel
theorem dX10_init_101 : decode cX10_init 101 = .ok (.aload_n 0, 1) := by decide +kernel
theorem dX10_init_102 : decode cX10_init 102 = .ok (.bipush 6, 2) := by decide +kernel
theorem dX10_init_104 : decode cX10_init 104 = .ok (.newarray .int, 2) := by decide +kernel
theorem dX10_init_106 : decode cX10_init 106 = .ok (.putfield 47, 3) := by decide +kernel
theorem dX10_init_109 : decode cX10_init 109 = .ok (.aload_n 0, 1) := by decide +kernel
theorem dX10_init_110 : decode cX10_init 110 = .ok (.iconst 2, 1) := by decide +kernel
theorem dX10_init_111 : decode cX10_init 111 = .ok (.newarray .boolean, 2) := by decide +kernel
theorem dX10_init_113 : decode cX10_init 113 = .ok (.putfield 50, 3) := by decide +kernel
theorem dX10_init_116 : decode cX10_init 116 = .ok (.aload_n 0, 1) := by decide +kernel
theorem dX10_init_117 : decode cX10_init 117 = .ok (.bipush 28, 2) := by decide +kernel
theorem dX10_init_119 : decode cX10_init 119 = .ok (.newarray .int, 2) := by decide +kernel
theorem dX10_init_121 : decode cX10_init 121 = .ok (.putfield 53, 3) := by decide +kernel
theorem dX10_init_124 : decode cX10_init 124 = .ok (.aload_n 0, 1) := by decide +kernel
theorem dX10_init_125 : decode cX10_init 125 = .ok (.getfield 7, 3) := by decide +kernel
theorem dX10_init_128 : decode cX10_init 128 = .ok (.bipush 11, 2) := by decide +kernel
theorem dX10_init_130 : decode cX10_init 130 = .ok (.iconst 4, 1) := by decide +kernel
theorem dX10_init_131 : decode cX10_init 131 = .ok (.iastore, 1) := by decide +kernel
theorem dX10_init_132 : decode cX10_init 132 = .ok (.return_, 1) := by decide +kernel
theorem dX10_in_0 : decode cX10_in 0 = .ok (.lload_n 0, 1) := by decide +kernel
theorem dX10_in_1 : decode cX10_in 1 = .ok (.lload_n 2, 1) := by decide +kernel
theorem dX10_in_2 : decode cX10_in 2 = .ok (.lcmp, 1) := by decide +kernel
theorem dX10_in_3 : decode cX10_in 3 = .ok (.ifCond .lt 14, 3) := by decide +kernel
theorem dX10_in_6 : decode cX10_in 6 = .ok (.lload_n 0, 1) := by decide +kernel
theorem dX10_in_7 : decode cX10_in 7 = .ok (.lload 4, 2) := by decide +kernel
theorem dX10_in_9 : decode cX10_in 9 = .ok (.lcmp, 1) := by decide +kernel
theorem dX10_in_10 : decode cX10_in 10 = .ok (.ifCond .gt 7, 3) := by decide +kernel
theorem dX10_in_13 : decode cX10_in 13 = .ok (.iconst 1, 1) := by decide +kernel
theorem dX10_in_14 : decode cX10_in 14 = .ok (.goto 4, 3) := by decide +kernel
theorem dX10_in_17 : decode cX10_in 17 = .ok (.iconst 0, 1) := by decide +kernel
theorem dX10_in_18 : decode cX10_in 18 = .ok (.ireturn, 1) := by decide +kernel
theorem dX10_has_0 : decode cX10_has 0 = .ok (.iload_n 0, 1) := by decide +kernel
theorem dX10_has_1 : decode cX10_has 1 = .ok (.iload_n 1, 1) := by decide +kernel
theorem dX10_has_2 : decode cX10_has 2 = .ok (.ishr, 1) := by decide +kernel
theorem dX10_has_3 : decode cX10_has 3 = .ok (.iconst 1, 1) := by decide +kernel
theorem dX10_has_4 : decode cX10_has 4 = .ok (.iand, 1) := by decide +kernel
theorem dX10_has_5 : decode cX10_has 5 = .ok (.iconst 1, 1) := by decide +kernel
theorem dX10_has_6 : decode cX10_has 6 = .ok (.if_icmp .ne 7, 3) := by decide +kernel
theorem dX10_has_9 : decode cX10_has 9 = .ok (.iconst 1, 1) := by decide +kernel
theorem dX10_has_10 : decode cX10_has 10 = .ok (.goto 4, 3) := by decide +kernel
theorem dX10_has_13 : decode cX10_has 13 = .ok (.iconst 0, 1) := by decide +kernel
theorem dX10_has_14 : decode cX10_has 14 = .ok (.ireturn, 1) := by decide +kernel
theorem dX10_ones_0 : decode cX10_ones 0 = .ok (.iconst 0, 1) := by decide +kernel
theorem dX10_ones_1 : decode cX10_ones 1 = .ok (.istore_n 1, 1) := by decide +kernel
theorem dX10_ones_2 : decode cX10_ones 2 = .ok (.iconst 0, 1) := by decide +kernel
theorem dX10_ones_3 : decode cX10_ones 3 = .ok (.istore_n 2, 1) := by decide +kernel
theorem dX10_ones_4 : decode cX10_ones 4 = .ok (.iload_n 2, 1) := by decide +kernel
theorem dX10_ones_5 : decode cX10_ones 5 = .ok (.bipush 8, 2) := by decide +kernel
theorem dX10_ones_7 : decode cX10_ones 7 = .ok (.if_icmp .ge 17, 3) := by decide +kernel
theorem dX10_ones_10 : decode cX10_ones 10 = .ok (.iload_n 1, 1) := by decide +kernel
theorem dX10_ones_11 : decode cX10_ones 11 = .ok (.iload_n 0, 1) := by decide +kernel
theorem dX10_ones_12 : decode cX10_ones 12 = .ok (.iload_n 2, 1) := by decide +kernel
theorem dX10_ones_13 : decode cX10_ones 13 = .ok (.ishr, 1) := by decide +kernel
theorem dX10_ones_14 : decode cX10_ones 14 = .ok (.iconst 1, 1) := by decide +kernel
theorem dX10_ones_15 : decode cX10_ones 15 = .ok (.iand, 1) := by decide +kernel
theorem dX10_ones_16 : decode cX10_ones 16 = .ok (.iadd, 1) := by decide +kernel
theorem dX10_ones_17 : decode cX10_ones 17 = .ok (.istore_n 1, 1) := by decide +kernel
theorem dX10_ones_18 : decode cX10_ones 18 = .ok (.iinc 2 1, 3) := by decide +kernel
theorem dX10_ones_21 : decode cX10_ones 21 = .ok (.goto (-17), 3) := by decide +kernel
theorem dX10_ones_24 : decode cX10_ones 24 = .ok (.iload_n 1, 1) := by decide +kernel
theorem dX10_ones_25 : decode cX10_ones 25 = .ok (.ireturn, 1) := by decide +kernel
theorem dX10_write_0 : decode cX10_write 0 = .ok (.iload_n 1, 1) := by decide +kernel
theorem dX10_write_1 : decode cX10_write 1 = .ok (.i2l, 1) := by decide +kernel
theorem dX10_write_2 : decode cX10_write 2 = .ok (.lconst 0, 1) := by decide +kernel
theorem dX10_write_3 : decode cX10_write 3 = .ok (.ldc2_w 56, 3) := by decide +kernel
theorem dX10_write_6 : decode cX10_write 6 = .ok (.invokestatic 58, 3) := by decide +kernel
theorem dX10_write_9 : decode cX10_write 9 = .ok (.ifCond .ne 6, 3) := by decide +kernel
theorem dX10_write_12 : decode cX10_write 12 = .ok (.bipush (-2), 2) := by decide +kernel
theorem dX10_write_14 : decode cX10_write 14 = .ok (.ireturn, 1) := by decide +kernel
theorem dX10_write_15 : decode cX10_write 15 = .ok (.aload_n 0, 1) := by decide +kernel
theorem dX10_write_16 : decode cX10_write 16 = .ok (.getfield 62, 3) := by decide +kernel
theorem dX10_write_19 : decode cX10_write 19 = .ok (.bipush 56, 2) := by decide +kernel
theorem dX10_write_21 : decode cX10_write 21 = .ok (.if_icmp .ne 6, 3) := by decide +kernel
theorem dX10_write_24 : decode cX10_write 24 = .ok (.bipush (-4), 2) := by decide +kernel
theorem dX10_write_26 : decode cX10_write 26 = .ok (.ireturn, 1) := by decide +kernel
theorem dX10_write_27 : decode cX10_write 27 = .ok (.aload_n 0, 1) := by decide +kernel
theorem dX10_write_28 : decode cX10_write 28 = .ok (.getfield 13, 3) := by decide +kernel
theorem dX10_write_31 : decode cX10_write 31 = .ok (.aload_n 0, 1) := by decide +kernel
theorem dX10_write_32 : decode cX10_write 32 = .ok (.getfield 62, 3) := by decide +kernel
theorem dX10_write_35 : decode cX10_write 35 = .ok (.iload_n 1, 1) := by decide +kernel
theorem dX10_write_36 : decode cX10_write 36 = .ok (.iastore, 1) := by decide +kernel
theorem dX10_write_37 : decode cX10_write 37 = .ok (.aload_n 0, 1) := by decide +kernel
theorem dX10_write_38 : decode cX10_write 38 = .ok (.dup, 1) := by decide +kernel
theorem dX10_write_39 : decode cX10_write 39 = .ok (.getfield 62, 3) := by decide +kernel
theorem dX10_write_42 : decode cX10_write 42 = .ok (.iconst 1, 1) := by decide +kernel
theorem dX10_write_43 : decode cX10_write 43 = .ok (.iadd, 1) := by decide +kernel
theorem dX10_write_44 : decode cX10_write 44 = .ok (.putfield 62, 3) := by decide +kernel
theorem dX10_write_47 : decode cX10_write 47 = .ok (.aload_n 0, 1) := by decide +kernel
theorem dX10_write_48 : decode cX10_write 48 = .ok (.getfield 62, 3) := by decide +kernel
theorem dX10_write_51 : decode cX10_write 51 = .ok (.ireturn, 1) := by decide +kernel
theorem dX10_wipe_0 : decode cX10_wipe 0 = .ok (.aload_n 0, 1) := by decide +kernel
theorem dX10_wipe_1 : decode cX10_wipe 1 = .ok (.getfield 62, 3) := by decide +kernel
theorem dX10_wipe_4 : decode cX10_wipe 4 = .ok (.istore_n 1, 1) := by decide +kernel
theorem dX10_wipe_5 : decode cX10_wipe 5 = .ok (.aload_n 0, 1) := by decide +kernel
theorem dX10_wipe_6 : decode cX10_wipe 6 = .ok (.iconst 0, 1) := by decide +kernel
theorem dX10_wipe_7 : decode cX10_wipe 7 = .ok (.putfield 62, 3) := by decide +kernel
theorem dX10_wipe_10 : decode cX10_wipe 10 = .ok (.iload_n 1, 1) := by decide +kernel
theorem dX10_wipe_11 : decode cX10_wipe 11 = .ok (.ireturn, 1) := by decide +kernel
theorem dX10_fits_0 : decode cX10_fits 0 = .ok (.aload_n 0, 1) := by decide +kernel
theorem dX10_fits_1 : decode cX10_fits 1 = .ok (.getfield 13, 3) := by decide +kernel
theorem dX10_fits_4 : decode cX10_fits 4 = .ok (.iload_n 1, 1) := by decide +kernel
theorem dX10_fits_5 : decode cX10_fits 5 = .ok (.iaload, 1) := by decide +kernel
theorem dX10_fits_6 : decode cX10_fits 6 = .ok (.istore_n 2, 1) := by decide +kernel
theorem dX10_fits_7 : decode cX10_fits 7 = .ok (.iload_n 1, 1) := by decide +kernel
theorem dX10_fits_8 : decode cX10_fits 8 = .ok (.iconst 2, 1) := by decide +kernel
theorem dX10_fits_9 : decode cX10_fits 9 = .ok (.if_icmp .ge 33, 3) := by decide +kernel
theorem dX10_fits_12 : decode cX10_fits 12 = .ok (.iload_n 1, 1) := by decide +kernel
theorem dX10_fits_13 : decode cX10_fits 13 = .ok (.ifCond .ne 17, 3) := by decide +kernel
theorem dX10_fits_16 : decode cX10_fits 16 = .ok (.iload_n 2, 1) := by decide +kernel
theorem dX10_fits_17 : decode cX10_fits 17 = .ok (.bipush 75, 2) := by decide +kernel
theorem dX10_fits_19 : decode cX10_fits 19 = .ok (.if_icmp .ne 7, 3) := by decide +kernel
theorem dX10_fits_22 : decode cX10_fits 22 = .ok (.iconst 1, 1) := by decide +kernel
theorem dX10_fits_23 : decode cX10_fits 23 = .ok (.goto 18, 3) := by decide +kernel
theorem dX10_fits_26 : decode cX10_fits 26 = .ok (.iconst 0, 1) := by decide +kernel
theorem dX10_fits_27 : decode cX10_fits 27 = .ok (.goto 14, 3) := by decide +kernel
theorem dX10_fits_30 : decode cX10_fits 30 = .ok (.iload_n 2, 1) := by decide +kernel
theorem dX10_fits_31 : decode cX10_fits 31 = .ok (.i2l, 1) := by decide +kernel
theorem dX10_fits_32 : decode cX10_fits 32 = .ok (.ldc2_w 66, 3) := by decide +kernel
theorem dX10_fits_35 : decode cX10_fits 35 = .ok (.ldc2_w 68, 3) := by decide +kernel
theorem dX10_fits_38 : decode cX10_fits 38 = .ok (.invokestatic 58, 3) := by decide +kernel
theorem dX10_fits_41 : decode cX10_fits 41 = .ok (.ireturn, 1) := by decide +kernel
theorem dX10_fits_42 : decode cX10_fits 42 = .ok (.iload_n 1, 1) := by decide +kernel
theorem dX10_fits_43 : decode cX10_fits 43 = .ok (.bipush 55, 2) := by decide +kernel
theorem dX10_fits_45 : decode cX10_fits 45 = .ok (.if_icmp .le 5, 3) := by decide +kernel
theorem dX10_fits_48 : decode cX10_fits 48 = .ok (.iconst 0, 1) := by decide +kernel
theorem dX10_fits_49 : decode cX10_fits 49 = .ok (.ireturn, 1) := by decide +kernel
theorem dX10_fits_50 : decode cX10_fits 50 = .ok (.iload_n 1, 1) := by decide +kernel
theorem dX10_fits_51 : decode cX10_fits 51 = .ok (.iconst 2, 1) := by decide +kernel
theorem dX10_fits_52 : decode cX10_fits 52 = .ok (.isub, 1) := by decide +kernel
theorem dX10_fits_53 : decode cX10_fits 53 = .ok (.bipush 9, 2) := by decide +kernel
theorem dX10_fits_55 : decode cX10_fits 55 = .ok (.irem, 1) := by decide +kernel
theorem dX10_fits_56 : decode cX10_fits 56 = .ok (.tableswitch 106 0 8 #[52, 106, 106, 106, 106, 70, 82, 82, 94], 52) := by decide +kernel
theorem dX10_fits_108 : decode cX10_fits 108 = .ok (.iload_n 2, 1) := by decide +kernel
theorem dX10_fits_109 : decode cX10_fits 109 = .ok (.bipush 88, 2) := by decide +kernel
theorem dX10_fits_111 : decode cX10_fits 111 = .ok (.if_icmp .ne 13, 3) := by decide +kernel
theorem dX10_fits_114 : decode cX10_fits 114 = .ok (.iload_n 1, 1) := by decide +kernel
theorem dX10_fits_115 : decode cX10_fits 115 = .ok (.bipush 56, 2) := by decide +kernel
theorem dX10_fits_117 : decode cX10_fits 117 = .ok (.if_icmp .ge 7, 3) := by decide +kernel
theorem dX10_fits_120 : decode cX10_fits 120 = .ok (.iconst 1, 1) := by decide +kernel
theorem dX10_fits_121 : decode cX10_fits 121 = .ok (.goto 4, 3) := by decide +kernel
theorem dX10_fits_124 : decode cX10_fits 124 = .ok (.iconst 0, 1) := by decide +kernel
theorem dX10_fits_125 : decode cX10_fits 125 = .ok (.ireturn, 1) := by decide +kernel
theorem dX10_fits_126 : decode cX10_fits 126 = .ok (.iload_n 2, 1) := by decide +kernel
theorem dX10_fits_127 : decode cX10_fits 127 = .ok (.i2l, 1) := by decide +kernel
theorem dX10_fits_128 : decode cX10_fits 128 = .ok (.ldc2_w 70, 3) := by decide +kernel
theorem dX10_fits_131 : decode cX10_fits 131 = .ok (.ldc2_w 72, 3) := by decide +kernel
theorem dX10_fits_134 : decode cX10_fits 134 = .ok (.invokestatic 58, 3) := by decide +kernel
theorem dX10_fits_137 : decode cX10_fits 137 = .ok (.ireturn, 1) := by decide +kernel
theorem dX10_fits_138 : decode cX10_fits 138 = .ok (.iload_n 2, 1) := by decide +kernel
theorem dX10_fits_139 : decode cX10_fits 139 = .ok (.i2l, 1) := by decide +kernel
theorem dX10_fits_140 : decode cX10_fits 140 = .ok (.ldc2_w 66, 3) := by decide +kernel
theorem dX10_fits_143 : decode cX10_fits 143 = .ok (.ldc2_w 74, 3) := by decide +kernel
theorem dX10_fits_146 : decode cX10_fits 146 = .ok (.invokestatic 58, 3) := by decide +kernel
theorem dX10_fits_149 : decode cX10_fits 149 = .ok (.ireturn, 1) := by decide +kernel
theorem dX10_fits_150 : decode cX10_fits 150 = .ok (.iload_n 2, 1) := by decide +kernel
theorem dX10_fits_151 : decode cX10_fits 151 = .ok (.i2l, 1) := by decide +kernel
theorem dX10_fits_152 : decode cX10_fits 152 = .ok (.ldc2_w 70, 3) := by decide +kernel
theorem dX10_fits_155 : decode cX10_fits 155 = .ok (.ldc2_w 66, 3) := by decide +kernel
theorem dX10_fits_158 : decode cX10_fits 158 = .ok (.invokestatic 58, 3) := by decide +kernel
theorem dX10_fits_161 : decode cX10_fits 161 = .ok (.ireturn, 1) := by decide +kernel
theorem dX10_fits_162 : decode cX10_fits 162 = .ok (.iload_n 2, 1) := by decide +kernel
theorem dX10_fits_163 : decode cX10_fits 163 = .ok (.i2l, 1) := by decide +kernel
theorem dX10_fits_164 : decode cX10_fits 164 = .ok (.ldc2_w 70, 3) := by decide +kernel
theorem dX10_fits_167 : decode cX10_fits 167 = .ok (.ldc2_w 74, 3) := by decide +kernel
theorem dX10_fits_170 : decode cX10_fits 170 = .ok (.invokestatic 58, 3) := by decide +kernel
theorem dX10_fits_173 : decode cX10_fits 173 = .ok (.ireturn, 1) := by decide +kernel
theorem dX10_fault_0 : decode cX10_fault 0 = .ok (.iconst 0, 1) := by decide +kernel
theorem dX10_fault_1 : decode cX10_fault 1 = .ok (.istore_n 1, 1) := by decide +kernel
theorem dX10_fault_2 : decode cX10_fault 2 = .ok (.iload_n 1, 1) := by decide +kernel
theorem dX10_fault_3 : decode cX10_fault 3 = .ok (.aload_n 0, 1) := by decide +kernel
theorem dX10_fault_4 : decode cX10_fault 4 = .ok (.getfield 62, 3) := by decide +kernel
theorem dX10_fault_7 : decode cX10_fault 7 = .ok (.if_icmp .ge 19, 3) := by decide +kernel
theorem dX10_fault_10 : decode cX10_fault 10 = .ok (.aload_n 0, 1) := by decide +kernel
theorem dX10_fault_11 : decode cX10_fault 11 = .ok (.iload_n 1, 1) := by decide +kernel
theorem dX10_fault_12 : decode cX10_fault 12 = .ok (.invokevirtual 76, 3) := by decide +kernel
theorem dX10_fault_15 : decode cX10_fault 15 = .ok (.ifCond .ne 5, 3) := by decide +kernel
theorem dX10_fault_18 : decode cX10_fault 18 = .ok (.iload_n 1, 1) := by decide +kernel
theorem dX10_fault_19 : decode cX10_fault 19 = .ok (.ireturn, 1) := by decide +kernel
theorem dX10_fault_20 : decode cX10_fault 20 = .ok (.iinc 1 1, 3) := by decide +kernel
theorem dX10_fault_23 : decode cX10_fault 23 = .ok (.goto (-21), 3) := by decide +kernel
theorem dX10_fault_26 : decode cX10_fault 26 = .ok (.aload_n 0, 1) := by decide +kernel
theorem dX10_fault_27 : decode cX10_fault 27 = .ok (.getfield 62, 3) := by decide +kernel
theorem dX10_fault_30 : decode cX10_fault 30 = .ok (.iconst 1, 1) := by decide +kernel
theorem dX10_fault_31 : decode cX10_fault 31 = .ok (.if_icmp .le 20, 3) := by decide +kernel
theorem dX10_fault_34 : decode cX10_fault 34 = .ok (.aload_n 0, 1) := by decide +kernel
theorem dX10_fault_35 : decode cX10_fault 35 = .ok (.getfield 62, 3) := by decide +kernel
theorem dX10_fault_38 : decode cX10_fault 38 = .ok (.iconst 2, 1) := by decide +kernel
theorem dX10_fault_39 : decode cX10_fault 39 = .ok (.isub, 1) := by decide +kernel
theorem dX10_fault_40 : decode cX10_fault 40 = .ok (.bipush 9, 2) := by decide +kernel
theorem dX10_fault_42 : decode cX10_fault 42 = .ok (.irem, 1) := by decide +kernel
theorem dX10_fault_43 : decode cX10_fault 43 = .ok (.ifCond .ne 8, 3) := by decide +kernel
theorem dX10_fault_46 : decode cX10_fault 46 = .ok (.bipush (-9), 2) := by decide +kernel
theorem dX10_fault_48 : decode cX10_fault 48 = .ok (.goto 7, 3) := by decide +kernel
theorem dX10_fault_51 : decode cX10_fault 51 = .ok (.aload_n 0, 1) := by decide +kernel
theorem dX10_fault_52 : decode cX10_fault 52 = .ok (.getfield 62, 3) := by decide +kernel
theorem dX10_fault_55 : decode cX10_fault 55 = .ok (.ireturn, 1) := by decide +kernel
theorem dX10_figure_0 : decode cX10_figure 0 = .ok (.aload_n 0, 1) := by decide +kernel
theorem dX10_figure_1 : decode cX10_figure 1 = .ok (.getfield 13, 3) := by decide +kernel
theorem dX10_figure_4 : decode cX10_figure 4 = .ok (.iload_n 1, 1) := by decide +kernel
theorem dX10_figure_5 : decode cX10_figure 5 = .ok (.iaload, 1) := by decide +kernel
theorem dX10_figure_6 : decode cX10_figure 6 = .ok (.bipush 48, 2) := by decide +kernel
theorem dX10_figure_8 : decode cX10_figure 8 = .ok (.isub, 1) := by decide +kernel
theorem dX10_figure_9 : decode cX10_figure 9 = .ok (.ireturn, 1) := by decide +kernel
theorem dX10_code_0 : decode cX10_code 0 = .ok (.iload_n 0, 1) := by decide +kernel
theorem dX10_code_1 : decode cX10_code 1 = .ok (.iconst 3, 1) := by decide +kernel
theorem dX10_code_2 : decode cX10_code 2 = .ok (.imul, 1) := by decide +kernel
theorem dX10_code_3 : decode cX10_code 3 = .ok (.iload_n 1, 1) := by decide +kernel
theorem dX10_code_4 : decode cX10_code 4 = .ok (.iadd, 1) := by decide +kernel
theorem dX10_code_5 : decode cX10_code 5 = .ok (.bipush 10, 2) := by decide +kernel
theorem dX10_code_7 : decode cX10_code 7 = .ok (.imul, 1) := by decide +kernel
theorem dX10_code_8 : decode cX10_code 8 = .ok (.iload_n 2, 1) := by decide +kernel
theorem dX10_code_9 : decode cX10_code 9 = .ok (.iadd, 1) := by decide +kernel
theorem dX10_code_10 : decode cX10_code 10 = .ok (.bipush 10, 2) := by decide +kernel
theorem dX10_code_12 : decode cX10_code 12 = .ok (.imul, 1) := by decide +kernel
theorem dX10_code_13 : decode cX10_code 13 = .ok (.iload_n 3, 1) := by decide +kernel
theorem dX10_code_14 : decode cX10_code 14 = .ok (.iadd, 1) := by decide +kernel
theorem dX10_code_15 : decode cX10_code 15 = .ok (.iconst 2, 1) := by decide +kernel
theorem dX10_code_16 : decode cX10_code 16 = .ok (.imul, 1) := by decide +kernel
theorem dX10_code_17 : decode cX10_code 17 = .ok (.iload 4, 2) := by decide +kernel
theorem dX10_code_19 : decode cX10_code 19 = .ok (.iadd, 1) := by decide +kernel
theorem dX10_code_20 : decode cX10_code 20 = .ok (.ireturn, 1) := by decide +kernel
theorem dX10_house_0 : decode cX10_house 0 = .ok (.aload_n 0, 1) := by decide +kernel
theorem dX10_house_1 : decode cX10_house 1 = .ok (.invokevirtual 80, 3) := by decide +kernel
theorem dX10_house_4 : decode cX10_house 4 = .ok (.bipush (-9), 2) := by decide +kernel
theorem dX10_house_6 : decode cX10_house 6 = .ok (.if_icmp .eq 6, 3) := by decide +kernel
theorem dX10_house_9 : decode cX10_house 9 = .ok (.bipush (-3), 2) := by decide +kernel
theorem dX10_house_11 : decode cX10_house 11 = .ok (.ireturn, 1) := by decide +kernel
theorem dX10_house_12 : decode cX10_house 12 = .ok (.iconst 0, 1) := by decide +kernel
theorem dX10_house_13 : decode cX10_house 13 = .ok (.istore_n 1, 1) := by decide +kernel
theorem dX10_house_14 : decode cX10_house 14 = .ok (.iload_n 1, 1) := by decide +kernel
theorem dX10_house_15 : decode cX10_house 15 = .ok (.bipush 14, 2) := by decide +kernel
theorem dX10_house_17 : decode cX10_house 17 = .ok (.if_icmp .ge 16, 3) := by decide +kernel
theorem dX10_house_20 : decode cX10_house 20 = .ok (.aload_n 0, 1) := by decide +kernel
theorem dX10_house_21 : decode cX10_house 21 = .ok (.getfield 7, 3) := by decide +kernel
theorem dX10_house_24 : decode cX10_house 24 = .ok (.iload_n 1, 1) := by decide +kernel
theorem dX10_house_25 : decode cX10_house 25 = .ok (.iconst 0, 1) := by decide +kernel
theorem dX10_house_26 : decode cX10_house 26 = .ok (.iastore, 1) := by decide +kernel
theorem dX10_house_27 : decode cX10_house 27 = .ok (.iinc 1 1, 3) := by decide +kernel
theorem dX10_house_30 : decode cX10_house 30 = .ok (.goto (-16), 3) := by decide +kernel
theorem dX10_house_33 : decode cX10_house 33 = .ok (.aload_n 0, 1) := by decide +kernel
theorem dX10_house_34 : decode cX10_house 34 = .ok (.getfield 7, 3) := by decide +kernel
theorem dX10_house_37 : decode cX10_house 37 = .ok (.bipush 11, 2) := by decide +kernel
theorem dX10_house_39 : decode cX10_house 39 = .ok (.aload_n 0, 1) := by decide +kernel
theorem dX10_house_40 : decode cX10_house 40 = .ok (.iconst 1, 1) := by decide +kernel
theorem dX10_house_41 : decode cX10_house 41 = .ok (.invokevirtual 84, 3) := by decide +kernel
theorem dX10_house_44 : decode cX10_house 44 = .ok (.iastore, 1) := by decide +kernel
theorem dX10_house_45 : decode cX10_house 45 = .ok (.aload_n 0, 1) := by decide +kernel
theorem dX10_house_46 : decode cX10_house 46 = .ok (.getfield 7, 3) := by decide +kernel
theorem dX10_house_49 : decode cX10_house 49 = .ok (.bipush 13, 2) := by decide +kernel
theorem dX10_house_51 : decode cX10_house 51 = .ok (.aload_n 0, 1) := by decide +kernel
theorem dX10_house_52 : decode cX10_house 52 = .ok (.getfield 62, 3) := by decide +kernel
theorem dX10_house_55 : decode cX10_house 55 = .ok (.iconst 2, 1) := by decide +kernel
theorem dX10_house_56 : decode cX10_house 56 = .ok (.isub, 1) := by decide +kernel
theorem dX10_house_57 : decode cX10_house 57 = .ok (.bipush 9, 2) := by decide +kernel
theorem dX10_house_59 : decode cX10_house 59 = .ok (.idiv, 1) := by decide +kernel
theorem dX10_house_60 : decode cX10_house 60 = .ok (.iastore, 1) := by decide +kernel
theorem dX10_house_61 : decode cX10_house 61 = .ok (.iconst 0, 1) := by decide +kernel
theorem dX10_house_62 : decode cX10_house 62 = .ok (.istore_n 1, 1) := by decide +kernel
theorem dX10_house_63 : decode cX10_house 63 = .ok (.iload_n 1, 1) := by decide +kernel
theorem dX10_house_64 : decode cX10_house 64 = .ok (.aload_n 0, 1) := by decide +kernel
theorem dX10_house_65 : decode cX10_house 65 = .ok (.getfield 7, 3) := by decide +kernel
theorem dX10_house_68 : decode cX10_house 68 = .ok (.bipush 13, 2) := by decide +kernel
theorem dX10_house_70 : decode cX10_house 70 = .ok (.iaload, 1) := by decide +kernel
theorem dX10_house_71 : decode cX10_house 71 = .ok (.if_icmp .ge 87, 3) := by decide +kernel
theorem dX10_house_74 : decode cX10_house 74 = .ok (.iconst 3, 1) := by decide +kernel
theorem dX10_house_75 : decode cX10_house 75 = .ok (.bipush 9, 2) := by decide +kernel
theorem dX10_house_77 : decode cX10_house 77 = .ok (.iload_n 1, 1) := by decide +kernel
theorem dX10_house_78 : decode cX10_house 78 = .ok (.imul, 1) := by decide +kernel
theorem dX10_house_79 : decode cX10_house 79 = .ok (.iadd, 1) := by decide +kernel
theorem dX10_house_80 : decode cX10_house 80 = .ok (.istore_n 2, 1) := by decide +kernel
theorem dX10_house_81 : decode cX10_house 81 = .ok (.iconst 0, 1) := by decide +kernel
theorem dX10_house_82 : decode cX10_house 82 = .ok (.istore_n 3, 1) := by decide +kernel
theorem dX10_house_83 : decode cX10_house 83 = .ok (.iconst 0, 1) := by decide +kernel
theorem dX10_house_84 : decode cX10_house 84 = .ok (.istore 4, 2) := by decide +kernel
theorem dX10_house_86 : decode cX10_house 86 = .ok (.iload 4, 2) := by decide +kernel
theorem dX10_house_88 : decode cX10_house 88 = .ok (.iconst 4, 1) := by decide +kernel
theorem dX10_house_89 : decode cX10_house 89 = .ok (.if_icmp .ge 23, 3) := by decide +kernel
theorem dX10_house_92 : decode cX10_house 92 = .ok (.bipush 10, 2) := by decide +kernel
theorem dX10_house_94 : decode cX10_house 94 = .ok (.iload_n 3, 1) := by decide +kernel
theorem dX10_house_95 : decode cX10_house 95 = .ok (.imul, 1) := by decide +kernel
theorem dX10_house_96 : decode cX10_house 96 = .ok (.aload_n 0, 1) := by decide +kernel
theorem dX10_house_97 : decode cX10_house 97 = .ok (.iload_n 2, 1) := by decide +kernel
theorem dX10_house_98 : decode cX10_house 98 = .ok (.iload 4, 2) := by decide +kernel
theorem dX10_house_100 : decode cX10_house 100 = .ok (.iadd, 1) := by decide +kernel
theorem dX10_house_101 : decode cX10_house 101 = .ok (.invokevirtual 84, 3) := by decide +kernel
theorem dX10_house_104 : decode cX10_house 104 = .ok (.iadd, 1) := by decide +kernel
theorem dX10_house_105 : decode cX10_house 105 = .ok (.istore_n 3, 1) := by decide +kernel
theorem dX10_house_106 : decode cX10_house 106 = .ok (.iinc 4 1, 3) := by decide +kernel
theorem dX10_house_109 : decode cX10_house 109 = .ok (.goto (-23), 3) := by decide +kernel
theorem dX10_house_112 : decode cX10_house 112 = .ok (.aload_n 0, 1) := by decide +kernel
theorem dX10_house_113 : decode cX10_house 113 = .ok (.getfield 7, 3) := by decide +kernel
theorem dX10_house_116 : decode cX10_house 116 = .ok (.iload_n 1, 1) := by decide +kernel
theorem dX10_house_117 : decode cX10_house 117 = .ok (.iload_n 3, 1) := by decide +kernel
theorem dX10_house_118 : decode cX10_house 118 = .ok (.aload_n 0, 1) := by decide +kernel
theorem dX10_house_119 : decode cX10_house 119 = .ok (.iload_n 2, 1) := by decide +kernel
theorem dX10_house_120 : decode cX10_house 120 = .ok (.iconst 4, 1) := by decide +kernel
theorem dX10_house_121 : decode cX10_house 121 = .ok (.iadd, 1) := by decide +kernel
theorem dX10_house_122 : decode cX10_house 122 = .ok (.invokevirtual 84, 3) := by decide +kernel
theorem dX10_house_125 : decode cX10_house 125 = .ok (.aload_n 0, 1) := by decide +kernel
theorem dX10_house_126 : decode cX10_house 126 = .ok (.iload_n 2, 1) := by decide +kernel
theorem dX10_house_127 : decode cX10_house 127 = .ok (.iconst 5, 1) := by decide +kernel
theorem dX10_house_128 : decode cX10_house 128 = .ok (.iadd, 1) := by decide +kernel
theorem dX10_house_129 : decode cX10_house 129 = .ok (.invokevirtual 84, 3) := by decide +kernel
theorem dX10_house_132 : decode cX10_house 132 = .ok (.aload_n 0, 1) := by decide +kernel
theorem dX10_house_133 : decode cX10_house 133 = .ok (.iload_n 2, 1) := by decide +kernel
theorem dX10_house_134 : decode cX10_house 134 = .ok (.bipush 6, 2) := by decide +kernel
theorem dX10_house_136 : decode cX10_house 136 = .ok (.iadd, 1) := by decide +kernel
theorem dX10_house_137 : decode cX10_house 137 = .ok (.invokevirtual 84, 3) := by decide +kernel
theorem dX10_house_140 : decode cX10_house 140 = .ok (.aload_n 0, 1) := by decide +kernel
theorem dX10_house_141 : decode cX10_house 141 = .ok (.iload_n 2, 1) := by decide +kernel
theorem dX10_house_142 : decode cX10_house 142 = .ok (.bipush 7, 2) := by decide +kernel
theorem dX10_house_144 : decode cX10_house 144 = .ok (.iadd, 1) := by decide +kernel
theorem dX10_house_145 : decode cX10_house 145 = .ok (.invokevirtual 84, 3) := by decide +kernel
theorem dX10_house_148 : decode cX10_house 148 = .ok (.invokestatic 88, 3) := by decide +kernel
theorem dX10_house_151 : decode cX10_house 151 = .ok (.iastore, 1) := by decide +kernel
theorem dX10_house_152 : decode cX10_house 152 = .ok (.iinc 1 1, 3) := by decide +kernel
theorem dX10_house_155 : decode cX10_house 155 = .ok (.goto (-92), 3) := by decide +kernel
theorem dX10_house_158 : decode cX10_house 158 = .ok (.aload_n 0, 1) := by decide +kernel
theorem dX10_house_159 : decode cX10_house 159 = .ok (.iconst 0, 1) := by decide +kernel
theorem dX10_house_160 : decode cX10_house 160 = .ok (.putfield 92, 3) := by decide +kernel
theorem dX10_house_163 : decode cX10_house 163 = .ok (.aload_n 0, 1) := by decide +kernel
theorem dX10_house_164 : decode cX10_house 164 = .ok (.getfield 50, 3) := by decide +kernel
theorem dX10_house_167 : decode cX10_house 167 = .ok (.iconst 0, 1) := by decide +kernel
theorem dX10_house_168 : decode cX10_house 168 = .ok (.iconst 0, 1) := by decide +kernel
theorem dX10_house_169 : decode cX10_house 169 = .ok (.bastore, 1) := by decide +kernel
theorem dX10_house_170 : decode cX10_house 170 = .ok (.aload_n 0, 1) := by decide +kernel
theorem dX10_house_171 : decode cX10_house 171 = .ok (.getfield 50, 3) := by decide +kernel
theorem dX10_house_174 : decode cX10_house 174 = .ok (.iconst 1, 1) := by decide +kernel
theorem dX10_house_175 : decode cX10_house 175 = .ok (.iconst 0, 1) := by decide +kernel
theorem dX10_house_176 : decode cX10_house 176 = .ok (.bastore, 1) := by decide +kernel
theorem dX10_house_177 : decode cX10_house 177 = .ok (.aload_n 0, 1) := by decide +kernel
theorem dX10_house_178 : decode cX10_house 178 = .ok (.getfield 7, 3) := by decide +kernel
theorem dX10_house_181 : decode cX10_house 181 = .ok (.bipush 13, 2) := by decide +kernel
theorem dX10_house_183 : decode cX10_house 183 = .ok (.iaload, 1) := by decide +kernel
theorem dX10_house_184 : decode cX10_house 184 = .ok (.ireturn, 1) := by decide +kernel
theorem dX10_many_0 : decode cX10_many 0 = .ok (.aload_n 0, 1) := by decide +kernel
theorem dX10_many_1 : decode cX10_many 1 = .ok (.getfield 7, 3) := by decide +kernel
theorem dX10_many_4 : decode cX10_many 4 = .ok (.bipush 13, 2) := by decide +kernel
theorem dX10_many_6 : decode cX10_many 6 = .ok (.iaload, 1) := by decide +kernel
theorem dX10_many_7 : decode cX10_many 7 = .ok (.ireturn, 1) := by decide +kernel
theorem dX10_isThing_0 : decode cX10_isThing 0 = .ok (.iload_n 1, 1) := by decide +kernel
theorem dX10_isThing_1 : decode cX10_isThing 1 = .ok (.i2l, 1) := by decide +kernel
theorem dX10_isThing_2 : decode cX10_isThing 2 = .ok (.lconst 0, 1) := by decide +kernel
theorem dX10_isThing_3 : decode cX10_isThing 3 = .ok (.aload_n 0, 1) := by decide +kernel
theorem dX10_isThing_4 : decode cX10_isThing 4 = .ok (.getfield 7, 3) := by decide +kernel
theorem dX10_isThing_7 : decode cX10_isThing 7 = .ok (.bipush 13, 2) := by decide +kernel
theorem dX10_isThing_9 : decode cX10_isThing 9 = .ok (.iaload, 1) := by decide +kernel
theorem dX10_isThing_10 : decode cX10_isThing 10 = .ok (.iconst 1, 1) := by decide +kernel
theorem dX10_isThing_11 : decode cX10_isThing 11 = .ok (.isub, 1) := by decide +kernel
theorem dX10_isThing_12 : decode cX10_isThing 12 = .ok (.i2l, 1) := by decide +kernel
theorem dX10_isThing_13 : decode cX10_isThing 13 = .ok (.invokestatic 58, 3) := by decide +kernel
theorem dX10_isThing_16 : decode cX10_isThing 16 = .ok (.ireturn, 1) := by decide +kernel
theorem dX10_guardOf_0 : decode cX10_guardOf 0 = .ok (.aload_n 0, 1) := by decide +kernel
theorem dX10_guardOf_1 : decode cX10_guardOf 1 = .ok (.getfield 7, 3) := by decide +kernel
theorem dX10_guardOf_4 : decode cX10_guardOf 4 = .ok (.iload_n 1, 1) := by decide +kernel
theorem dX10_guardOf_5 : decode cX10_guardOf 5 = .ok (.iaload, 1) := by decide +kernel
theorem dX10_guardOf_6 : decode cX10_guardOf 6 = .ok (.iconst 2, 1) := by decide +kernel
theorem dX10_guardOf_7 : decode cX10_guardOf 7 = .ok (.irem, 1) := by decide +kernel
theorem dX10_guardOf_8 : decode cX10_guardOf 8 = .ok (.ireturn, 1) := by decide +kernel
theorem dX10_costOf_0 : decode cX10_costOf 0 = .ok (.aload_n 0, 1) := by decide +kernel
theorem dX10_costOf_1 : decode cX10_costOf 1 = .ok (.getfield 7, 3) := by decide +kernel
theorem dX10_costOf_4 : decode cX10_costOf 4 = .ok (.iload_n 1, 1) := by decide +kernel
theorem dX10_costOf_5 : decode cX10_costOf 5 = .ok (.iaload, 1) := by decide +kernel
theorem dX10_costOf_6 : decode cX10_costOf 6 = .ok (.iconst 2, 1) := by decide +kernel
theorem dX10_costOf_7 : decode cX10_costOf 7 = .ok (.idiv, 1) := by decide +kernel
theorem dX10_costOf_8 : decode cX10_costOf 8 = .ok (.bipush 10, 2) := by decide +kernel
theorem dX10_costOf_10 : decode cX10_costOf 10 = .ok (.irem, 1) := by decide +kernel
theorem dX10_costOf_11 : decode cX10_costOf 11 = .ok (.ireturn, 1) := by decide +kernel
theorem dX10_worthOf_0 : decode cX10_worthOf 0 = .ok (.aload_n 0, 1) := by decide +kernel
theorem dX10_worthOf_1 : decode cX10_worthOf 1 = .ok (.getfield 7, 3) := by decide +kernel
theorem dX10_worthOf_4 : decode cX10_worthOf 4 = .ok (.iload_n 1, 1) := by decide +kernel
theorem dX10_worthOf_5 : decode cX10_worthOf 5 = .ok (.iaload, 1) := by decide +kernel
theorem dX10_worthOf_6 : decode cX10_worthOf 6 = .ok (.bipush 20, 2) := by decide +kernel
theorem dX10_worthOf_8 : decode cX10_worthOf 8 = .ok (.idiv, 1) := by decide +kernel
theorem dX10_worthOf_9 : decode cX10_worthOf 9 = .ok (.bipush 10, 2) := by decide +kernel
theorem dX10_worthOf_11 : decode cX10_worthOf 11 = .ok (.irem, 1) := by decide +kernel
theorem dX10_worthOf_12 : decode cX10_worthOf 12 = .ok (.ireturn, 1) := by decide +kernel
theorem dX10_ownerOf_0 : decode cX10_ownerOf 0 = .ok (.aload_n 0, 1) := by decide +kernel
theorem dX10_ownerOf_1 : decode cX10_ownerOf 1 = .ok (.getfield 7, 3) := by decide +kernel
theorem dX10_ownerOf_4 : decode cX10_ownerOf 4 = .ok (.iload_n 1, 1) := by decide +kernel
theorem dX10_ownerOf_5 : decode cX10_ownerOf 5 = .ok (.iaload, 1) := by decide +kernel
theorem dX10_ownerOf_6 : decode cX10_ownerOf 6 = .ok (.sipush 200, 3) := by decide +kernel
theorem dX10_ownerOf_9 : decode cX10_ownerOf 9 = .ok (.idiv, 1) := by decide +kernel
theorem dX10_ownerOf_10 : decode cX10_ownerOf 10 = .ok (.iconst 3, 1) := by decide +kernel
theorem dX10_ownerOf_11 : decode cX10_ownerOf 11 = .ok (.irem, 1) := by decide +kernel
theorem dX10_ownerOf_12 : decode cX10_ownerOf 12 = .ok (.ireturn, 1) := by decide +kernel
theorem dX10_marksOf_0 : decode cX10_marksOf 0 = .ok (.aload_n 0, 1) := by decide +kernel
theorem dX10_marksOf_1 : decode cX10_marksOf 1 = .ok (.getfield 7, 3) := by decide +kernel
theorem dX10_marksOf_4 : decode cX10_marksOf 4 = .ok (.iload_n 1, 1) := by decide +kernel
theorem dX10_marksOf_5 : decode cX10_marksOf 5 = .ok (.iaload, 1) := by decide +kernel
theorem dX10_marksOf_6 : decode cX10_marksOf 6 = .ok (.sipush 600, 3) := by decide +kernel
theorem dX10_marksOf_9 : decode cX10_marksOf 9 = .ok (.idiv, 1) := by decide +kernel
theorem dX10_marksOf_10 : decode cX10_marksOf 10 = .ok (.ireturn, 1) := by decide +kernel
theorem dX10_tenTo_0 : decode cX10_tenTo 0 = .ok (.iconst 1, 1) := by decide +kernel
theorem dX10_tenTo_1 : decode cX10_tenTo 1 = .ok (.istore_n 1, 1) := by decide +kernel
theorem dX10_tenTo_2 : decode cX10_tenTo 2 = .ok (.iconst 0, 1) := by decide +kernel
theorem dX10_tenTo_3 : decode cX10_tenTo 3 = .ok (.istore_n 2, 1) := by decide +kernel
theorem dX10_tenTo_4 : decode cX10_tenTo 4 = .ok (.iload_n 2, 1) := by decide +kernel
theorem dX10_tenTo_5 : decode cX10_tenTo 5 = .ok (.iload_n 0, 1) := by decide +kernel
theorem dX10_tenTo_6 : decode cX10_tenTo 6 = .ok (.if_icmp .ge 14, 3) := by decide +kernel
theorem dX10_tenTo_9 : decode cX10_tenTo 9 = .ok (.iload_n 1, 1) := by decide +kernel
theorem dX10_tenTo_10 : decode cX10_tenTo 10 = .ok (.bipush 10, 2) := by decide +kernel
theorem dX10_tenTo_12 : decode cX10_tenTo 12 = .ok (.imul, 1) := by decide +kernel
theorem dX10_tenTo_13 : decode cX10_tenTo 13 = .ok (.istore_n 1, 1) := by decide +kernel
theorem dX10_tenTo_14 : decode cX10_tenTo 14 = .ok (.iinc 2 1, 3) := by decide +kernel
theorem dX10_tenTo_17 : decode cX10_tenTo 17 = .ok (.goto (-13), 3) := by decide +kernel
theorem dX10_tenTo_20 : decode cX10_tenTo 20 = .ok (.iload_n 1, 1) := by decide +kernel
theorem dX10_tenTo_21 : decode cX10_tenTo 21 = .ok (.ireturn, 1) := by decide +kernel
theorem dX10_markOf_0 : decode cX10_markOf 0 = .ok (.aload_n 0, 1) := by decide +kernel
theorem dX10_markOf_1 : decode cX10_markOf 1 = .ok (.iload_n 1, 1) := by decide +kernel
theorem dX10_markOf_2 : decode cX10_markOf 2 = .ok (.invokevirtual 95, 3) := by decide +kernel
theorem dX10_markOf_5 : decode cX10_markOf 5 = .ok (.iconst 3, 1) := by decide +kernel
theorem dX10_markOf_6 : decode cX10_markOf 6 = .ok (.iload_n 2, 1) := by decide +kernel
theorem dX10_markOf_7 : decode cX10_markOf 7 = .ok (.isub, 1) := by decide +kernel
theorem dX10_markOf_8 : decode cX10_markOf 8 = .ok (.invokestatic 98, 3) := by decide +kernel
theorem dX10_markOf_11 : decode cX10_markOf 11 = .ok (.idiv, 1) := by decide +kernel
theorem dX10_markOf_12 : decode cX10_markOf 12 = .ok (.bipush 10, 2) := by decide +kernel
theorem dX10_markOf_14 : decode cX10_markOf 14 = .ok (.irem, 1) := by decide +kernel
theorem dX10_markOf_15 : decode cX10_markOf 15 = .ok (.ireturn, 1) := by decide +kernel
theorem dX10_same_0 : decode cX10_same 0 = .ok (.iconst 0, 1) := by decide +kernel
theorem dX10_same_1 : decode cX10_same 1 = .ok (.istore_n 3, 1) := by decide +kernel
theorem dX10_same_2 : decode cX10_same 2 = .ok (.iconst 0, 1) := by decide +kernel
theorem dX10_same_3 : decode cX10_same 3 = .ok (.istore 4, 2) := by decide +kernel
theorem dX10_same_5 : decode cX10_same 5 = .ok (.iload 4, 2) := by decide +kernel
theorem dX10_same_7 : decode cX10_same 7 = .ok (.iconst 4, 1) := by decide +kernel
theorem dX10_same_8 : decode cX10_same 8 = .ok (.if_icmp .ge 37, 3) := by decide +kernel
theorem dX10_same_11 : decode cX10_same 11 = .ok (.iload_n 3, 1) := by decide +kernel
theorem dX10_same_12 : decode cX10_same 12 = .ok (.aload_n 0, 1) := by decide +kernel
theorem dX10_same_13 : decode cX10_same 13 = .ok (.iload_n 1, 1) := by decide +kernel
theorem dX10_same_14 : decode cX10_same 14 = .ok (.iload 4, 2) := by decide +kernel
theorem dX10_same_16 : decode cX10_same 16 = .ok (.invokevirtual 101, 3) := by decide +kernel
theorem dX10_same_19 : decode cX10_same 19 = .ok (.aload_n 0, 1) := by decide +kernel
theorem dX10_same_20 : decode cX10_same 20 = .ok (.iload_n 2, 1) := by decide +kernel
theorem dX10_same_21 : decode cX10_same 21 = .ok (.iload 4, 2) := by decide +kernel
theorem dX10_same_23 : decode cX10_same 23 = .ok (.invokevirtual 101, 3) := by decide +kernel
theorem dX10_same_26 : decode cX10_same 26 = .ok (.if_icmp .ne 10, 3) := by decide +kernel
theorem dX10_same_29 : decode cX10_same 29 = .ok (.iconst 1, 1) := by decide +kernel
theorem dX10_same_30 : decode cX10_same 30 = .ok (.iload 4, 2) := by decide +kernel
theorem dX10_same_32 : decode cX10_same 32 = .ok (.ishl, 1) := by decide +kernel
theorem dX10_same_33 : decode cX10_same 33 = .ok (.goto 4, 3) := by decide +kernel
theorem dX10_same_36 : decode cX10_same 36 = .ok (.iconst 0, 1) := by decide +kernel
theorem dX10_same_37 : decode cX10_same 37 = .ok (.ior, 1) := by decide +kernel
theorem dX10_same_38 : decode cX10_same 38 = .ok (.istore_n 3, 1) := by decide +kernel
theorem dX10_same_39 : decode cX10_same 39 = .ok (.iinc 4 1, 3) := by decide +kernel
theorem dX10_same_42 : decode cX10_same 42 = .ok (.goto (-37), 3) := by decide +kernel
theorem dX10_same_45 : decode cX10_same 45 = .ok (.iload_n 3, 1) := by decide +kernel
theorem dX10_same_46 : decode cX10_same 46 = .ok (.ireturn, 1) := by decide +kernel
theorem dX10_alikeOf_0 : decode cX10_alikeOf 0 = .ok (.iconst 0, 1) := by decide +kernel
theorem dX10_alikeOf_1 : decode cX10_alikeOf 1 = .ok (.istore 4, 2) := by decide +kernel
theorem dX10_alikeOf_3 : decode cX10_alikeOf 3 = .ok (.iconst 0, 1) := by decide +kernel
theorem dX10_alikeOf_4 : decode cX10_alikeOf 4 = .ok (.istore 5, 2) := by decide +kernel
theorem dX10_alikeOf_6 : decode cX10_alikeOf 6 = .ok (.iload 5, 2) := by decide +kernel
theorem dX10_alikeOf_8 : decode cX10_alikeOf 8 = .ok (.aload_n 0, 1) := by decide +kernel
theorem dX10_alikeOf_9 : decode cX10_alikeOf 9 = .ok (.invokevirtual 105, 3) := by decide +kernel
theorem dX10_alikeOf_12 : decode cX10_alikeOf 12 = .ok (.if_icmp .ge 51, 3) := by decide +kernel
theorem dX10_alikeOf_15 : decode cX10_alikeOf 15 = .ok (.iload 4, 2) := by decide +kernel
theorem dX10_alikeOf_17 : decode cX10_alikeOf 17 = .ok (.iload 5, 2) := by decide +kernel
theorem dX10_alikeOf_19 : decode cX10_alikeOf 19 = .ok (.iload_n 1, 1) := by decide +kernel
theorem dX10_alikeOf_20 : decode cX10_alikeOf 20 = .ok (.if_icmp .eq 33, 3) := by decide +kernel
theorem dX10_alikeOf_23 : decode cX10_alikeOf 23 = .ok (.iload_n 2, 1) := by decide +kernel
theorem dX10_alikeOf_24 : decode cX10_alikeOf 24 = .ok (.iload 5, 2) := by decide +kernel
theorem dX10_alikeOf_26 : decode cX10_alikeOf 26 = .ok (.invokestatic 108, 3) := by decide +kernel
theorem dX10_alikeOf_29 : decode cX10_alikeOf 29 = .ok (.ifCond .eq 24, 3) := by decide +kernel
theorem dX10_alikeOf_32 : decode cX10_alikeOf 32 = .ok (.aload_n 0, 1) := by decide +kernel
theorem dX10_alikeOf_33 : decode cX10_alikeOf 33 = .ok (.iload_n 1, 1) := by decide +kernel
theorem dX10_alikeOf_34 : decode cX10_alikeOf 34 = .ok (.iload 5, 2) := by decide +kernel
theorem dX10_alikeOf_36 : decode cX10_alikeOf 36 = .ok (.invokevirtual 112, 3) := by decide +kernel
theorem dX10_alikeOf_39 : decode cX10_alikeOf 39 = .ok (.invokestatic 115, 3) := by decide +kernel
theorem dX10_alikeOf_42 : decode cX10_alikeOf 42 = .ok (.iload_n 3, 1) := by decide +kernel
theorem dX10_alikeOf_43 : decode cX10_alikeOf 43 = .ok (.if_icmp .lt 10, 3) := by decide +kernel
theorem dX10_alikeOf_46 : decode cX10_alikeOf 46 = .ok (.iconst 1, 1) := by decide +kernel
theorem dX10_alikeOf_47 : decode cX10_alikeOf 47 = .ok (.iload 5, 2) := by decide +kernel
theorem dX10_alikeOf_49 : decode cX10_alikeOf 49 = .ok (.ishl, 1) := by decide +kernel
theorem dX10_alikeOf_50 : decode cX10_alikeOf 50 = .ok (.goto 4, 3) := by decide +kernel
theorem dX10_alikeOf_53 : decode cX10_alikeOf 53 = .ok (.iconst 0, 1) := by decide +kernel
theorem dX10_alikeOf_54 : decode cX10_alikeOf 54 = .ok (.ior, 1) := by decide +kernel
theorem dX10_alikeOf_55 : decode cX10_alikeOf 55 = .ok (.istore 4, 2) := by decide +kernel
theorem dX10_alikeOf_57 : decode cX10_alikeOf 57 = .ok (.iinc 5 1, 3) := by decide +kernel
theorem dX10_alikeOf_60 : decode cX10_alikeOf 60 = .ok (.goto (-54), 3) := by decide +kernel
theorem dX10_alikeOf_63 : decode cX10_alikeOf 63 = .ok (.iload 4, 2) := by decide +kernel
theorem dX10_alikeOf_65 : decode cX10_alikeOf 65 = .ok (.ireturn, 1) := by decide +kernel
theorem dX10_shown_0 : decode cX10_shown 0 = .ok (.bipush 14, 2) := by decide +kernel
theorem dX10_shown_2 : decode cX10_shown 2 = .ok (.iload_n 1, 1) := by decide +kernel
theorem dX10_shown_3 : decode cX10_shown 3 = .ok (.imul, 1) := by decide +kernel
theorem dX10_shown_4 : decode cX10_shown 4 = .ok (.istore_n 2, 1) := by decide +kernel
theorem dX10_shown_5 : decode cX10_shown 5 = .ok (.iconst 1, 1) := by decide +kernel
theorem dX10_shown_6 : decode cX10_shown 6 = .ok (.aload_n 0, 1) := by decide +kernel
theorem dX10_shown_7 : decode cX10_shown 7 = .ok (.getfield 7, 3) := by decide +kernel
theorem dX10_shown_10 : decode cX10_shown 10 = .ok (.iload_n 2, 1) := by decide +kernel
theorem dX10_shown_11 : decode cX10_shown 11 = .ok (.bipush 13, 2) := by decide +kernel
theorem dX10_shown_13 : decode cX10_shown 13 = .ok (.iadd, 1) := by decide +kernel
theorem dX10_shown_14 : decode cX10_shown 14 = .ok (.iaload, 1) := by decide +kernel
theorem dX10_shown_15 : decode cX10_shown 15 = .ok (.ishl, 1) := by decide +kernel
theorem dX10_shown_16 : decode cX10_shown 16 = .ok (.iconst 1, 1) := by decide +kernel
theorem dX10_shown_17 : decode cX10_shown 17 = .ok (.isub, 1) := by decide +kernel
theorem dX10_shown_18 : decode cX10_shown 18 = .ok (.aload_n 0, 1) := by decide +kernel
theorem dX10_shown_19 : decode cX10_shown 19 = .ok (.getfield 7, 3) := by decide +kernel
theorem dX10_shown_22 : decode cX10_shown 22 = .ok (.iload_n 2, 1) := by decide +kernel
theorem dX10_shown_23 : decode cX10_shown 23 = .ok (.bipush 8, 2) := by decide +kernel
theorem dX10_shown_25 : decode cX10_shown 25 = .ok (.iadd, 1) := by decide +kernel
theorem dX10_shown_26 : decode cX10_shown 26 = .ok (.iaload, 1) := by decide +kernel
theorem dX10_shown_27 : decode cX10_shown 27 = .ok (.iconst (-1), 1) := by decide +kernel
theorem dX10_shown_28 : decode cX10_shown 28 = .ok (.ixor, 1) := by decide +kernel
theorem dX10_shown_29 : decode cX10_shown 29 = .ok (.iand, 1) := by decide +kernel
theorem dX10_shown_30 : decode cX10_shown 30 = .ok (.aload_n 0, 1) := by decide +kernel
theorem dX10_shown_31 : decode cX10_shown 31 = .ok (.getfield 7, 3) := by decide +kernel
theorem dX10_shown_34 : decode cX10_shown 34 = .ok (.iload_n 2, 1) := by decide +kernel
theorem dX10_shown_35 : decode cX10_shown 35 = .ok (.bipush 9, 2) := by decide +kernel
theorem dX10_shown_37 : decode cX10_shown 37 = .ok (.iadd, 1) := by decide +kernel
theorem dX10_shown_38 : decode cX10_shown 38 = .ok (.iaload, 1) := by decide +kernel
theorem dX10_shown_39 : decode cX10_shown 39 = .ok (.iconst (-1), 1) := by decide +kernel
theorem dX10_shown_40 : decode cX10_shown 40 = .ok (.ixor, 1) := by decide +kernel
theorem dX10_shown_41 : decode cX10_shown 41 = .ok (.iand, 1) := by decide +kernel
theorem dX10_shown_42 : decode cX10_shown 42 = .ok (.ireturn, 1) := by decide +kernel
theorem dX10_lastOf_0 : decode cX10_lastOf 0 = .ok (.iconst 0, 1) := by decide +kernel
theorem dX10_lastOf_1 : decode cX10_lastOf 1 = .ok (.istore_n 3, 1) := by decide +kernel
theorem dX10_lastOf_2 : decode cX10_lastOf 2 = .ok (.iconst 0, 1) := by decide +kernel
theorem dX10_lastOf_3 : decode cX10_lastOf 3 = .ok (.istore 4, 2) := by decide +kernel
theorem dX10_lastOf_5 : decode cX10_lastOf 5 = .ok (.iload 4, 2) := by decide +kernel
theorem dX10_lastOf_7 : decode cX10_lastOf 7 = .ok (.aload_n 0, 1) := by decide +kernel
theorem dX10_lastOf_8 : decode cX10_lastOf 8 = .ok (.invokevirtual 105, 3) := by decide +kernel
theorem dX10_lastOf_11 : decode cX10_lastOf 11 = .ok (.if_icmp .ge 40, 3) := by decide +kernel
theorem dX10_lastOf_14 : decode cX10_lastOf 14 = .ok (.iload_n 3, 1) := by decide +kernel
theorem dX10_lastOf_15 : decode cX10_lastOf 15 = .ok (.iload_n 1, 1) := by decide +kernel
theorem dX10_lastOf_16 : decode cX10_lastOf 16 = .ok (.iload 4, 2) := by decide +kernel
theorem dX10_lastOf_18 : decode cX10_lastOf 18 = .ok (.invokestatic 108, 3) := by decide +kernel
theorem dX10_lastOf_21 : decode cX10_lastOf 21 = .ok (.ifCond .eq 21, 3) := by decide +kernel
theorem dX10_lastOf_24 : decode cX10_lastOf 24 = .ok (.aload_n 0, 1) := by decide +kernel
theorem dX10_lastOf_25 : decode cX10_lastOf 25 = .ok (.iload 4, 2) := by decide +kernel
theorem dX10_lastOf_27 : decode cX10_lastOf 27 = .ok (.iload_n 1, 1) := by decide +kernel
theorem dX10_lastOf_28 : decode cX10_lastOf 28 = .ok (.iload_n 2, 1) := by decide +kernel
theorem dX10_lastOf_29 : decode cX10_lastOf 29 = .ok (.invokevirtual 118, 3) := by decide +kernel
theorem dX10_lastOf_32 : decode cX10_lastOf 32 = .ok (.ifCond .ne 10, 3) := by decide +kernel
theorem dX10_lastOf_35 : decode cX10_lastOf 35 = .ok (.iconst 1, 1) := by decide +kernel
theorem dX10_lastOf_36 : decode cX10_lastOf 36 = .ok (.iload 4, 2) := by decide +kernel
theorem dX10_lastOf_38 : decode cX10_lastOf 38 = .ok (.ishl, 1) := by decide +kernel
theorem dX10_lastOf_39 : decode cX10_lastOf 39 = .ok (.goto 4, 3) := by decide +kernel
theorem dX10_lastOf_42 : decode cX10_lastOf 42 = .ok (.iconst 0, 1) := by decide +kernel
theorem dX10_lastOf_43 : decode cX10_lastOf 43 = .ok (.ior, 1) := by decide +kernel
theorem dX10_lastOf_44 : decode cX10_lastOf 44 = .ok (.istore_n 3, 1) := by decide +kernel
theorem dX10_lastOf_45 : decode cX10_lastOf 45 = .ok (.iinc 4 1, 3) := by decide +kernel
theorem dX10_lastOf_48 : decode cX10_lastOf 48 = .ok (.goto (-43), 3) := by decide +kernel
theorem dX10_lastOf_51 : decode cX10_lastOf 51 = .ok (.iload_n 3, 1) := by decide +kernel
theorem dX10_lastOf_52 : decode cX10_lastOf 52 = .ok (.ireturn, 1) := by decide +kernel
theorem dX10_last_0 : decode cX10_last 0 = .ok (.aload_n 0, 1) := by decide +kernel
theorem dX10_last_1 : decode cX10_last 1 = .ok (.aload_n 0, 1) := by decide +kernel
theorem dX10_last_2 : decode cX10_last 2 = .ok (.iconst 0, 1) := by decide +kernel
theorem dX10_last_3 : decode cX10_last 3 = .ok (.invokevirtual 122, 3) := by decide +kernel
theorem dX10_last_6 : decode cX10_last 6 = .ok (.aload_n 0, 1) := by decide +kernel
theorem dX10_last_7 : decode cX10_last 7 = .ok (.getfield 7, 3) := by decide +kernel
theorem dX10_last_10 : decode cX10_last 10 = .ok (.bipush 11, 2) := by decide +kernel
theorem dX10_last_12 : decode cX10_last 12 = .ok (.iaload, 1) := by decide +kernel
theorem dX10_last_13 : decode cX10_last 13 = .ok (.invokevirtual 125, 3) := by decide +kernel
theorem dX10_last_16 : decode cX10_last 16 = .ok (.ireturn, 1) := by decide +kernel
theorem dX10_thing_0 : decode cX10_thing 0 = .ok (.aload_n 0, 1) := by decide +kernel
theorem dX10_thing_1 : decode cX10_thing 1 = .ok (.iload_n 1, 1) := by decide +kernel
theorem dX10_thing_2 : decode cX10_thing 2 = .ok (.invokevirtual 128, 3) := by decide +kernel
theorem dX10_thing_5 : decode cX10_thing 5 = .ok (.ifCond .ne 5, 3) := by decide +kernel
theorem dX10_thing_8 : decode cX10_thing 8 = .ok (.iconst (-1), 1) := by decide +kernel
theorem dX10_thing_9 : decode cX10_thing 9 = .ok (.ireturn, 1) := by decide +kernel
theorem dX10_thing_10 : decode cX10_thing 10 = .ok (.iload_n 2, 1) := by decide +kernel
theorem dX10_thing_11 : decode cX10_thing 11 = .ok (.tableswitch 137 0 11 #[61, 61, 61, 61, 68, 74, 80, 86, 92, 104, 116, 128], 61) := by decide +kernel
theorem dX10_thing_72 : decode cX10_thing 72 = .ok (.aload_n 0, 1) := by decide +kernel
theorem dX10_thing_73 : decode cX10_thing 73 = .ok (.iload_n 1, 1) := by decide +kernel
theorem dX10_thing_74 : decode cX10_thing 74 = .ok (.iload_n 2, 1) := by decide +kernel
theorem dX10_thing_75 : decode cX10_thing 75 = .ok (.invokevirtual 101, 3) := by decide +kernel
theorem dX10_thing_78 : decode cX10_thing 78 = .ok (.ireturn, 1) := by decide +kernel
theorem dX10_thing_79 : decode cX10_thing 79 = .ok (.aload_n 0, 1) := by decide +kernel
theorem dX10_thing_80 : decode cX10_thing 80 = .ok (.iload_n 1, 1) := by decide +kernel
theorem dX10_thing_81 : decode cX10_thing 81 = .ok (.invokevirtual 131, 3) := by decide +kernel
theorem dX10_thing_84 : decode cX10_thing 84 = .ok (.ireturn, 1) := by decide +kernel
theorem dX10_thing_85 : decode cX10_thing 85 = .ok (.aload_n 0, 1) := by decide +kernel
theorem dX10_thing_86 : decode cX10_thing 86 = .ok (.iload_n 1, 1) := by decide +kernel
theorem dX10_thing_87 : decode cX10_thing 87 = .ok (.invokevirtual 134, 3) := by decide +kernel
theorem dX10_thing_90 : decode cX10_thing 90 = .ok (.ireturn, 1) := by decide +kernel
theorem dX10_thing_91 : decode cX10_thing 91 = .ok (.aload_n 0, 1) := by decide +kernel
theorem dX10_thing_92 : decode cX10_thing 92 = .ok (.iload_n 1, 1) := by decide +kernel
theorem dX10_thing_93 : decode cX10_thing 93 = .ok (.invokevirtual 137, 3) := by decide +kernel
theorem dX10_thing_96 : decode cX10_thing 96 = .ok (.ireturn, 1) := by decide +kernel
theorem dX10_thing_97 : decode cX10_thing 97 = .ok (.aload_n 0, 1) := by decide +kernel
theorem dX10_thing_98 : decode cX10_thing 98 = .ok (.iload_n 1, 1) := by decide +kernel
theorem dX10_thing_99 : decode cX10_thing 99 = .ok (.invokevirtual 140, 3) := by decide +kernel
theorem dX10_thing_102 : decode cX10_thing 102 = .ok (.ireturn, 1) := by decide +kernel
theorem dX10_thing_103 : decode cX10_thing 103 = .ok (.aload_n 0, 1) := by decide +kernel
theorem dX10_thing_104 : decode cX10_thing 104 = .ok (.getfield 7, 3) := by decide +kernel
theorem dX10_thing_107 : decode cX10_thing 107 = .ok (.bipush 8, 2) := by decide +kernel
theorem dX10_thing_109 : decode cX10_thing 109 = .ok (.iaload, 1) := by decide +kernel
theorem dX10_thing_110 : decode cX10_thing 110 = .ok (.iload_n 1, 1) := by decide +kernel
theorem dX10_thing_111 : decode cX10_thing 111 = .ok (.ishr, 1) := by decide +kernel
theorem dX10_thing_112 : decode cX10_thing 112 = .ok (.iconst 1, 1) := by decide +kernel
theorem dX10_thing_113 : decode cX10_thing 113 = .ok (.iand, 1) := by decide +kernel
theorem dX10_thing_114 : decode cX10_thing 114 = .ok (.ireturn, 1) := by decide +kernel
theorem dX10_thing_115 : decode cX10_thing 115 = .ok (.aload_n 0, 1) := by decide +kernel
theorem dX10_thing_116 : decode cX10_thing 116 = .ok (.getfield 7, 3) := by decide +kernel
theorem dX10_thing_119 : decode cX10_thing 119 = .ok (.bipush 9, 2) := by decide +kernel
theorem dX10_thing_121 : decode cX10_thing 121 = .ok (.iaload, 1) := by decide +kernel
theorem dX10_thing_122 : decode cX10_thing 122 = .ok (.iload_n 1, 1) := by decide +kernel
theorem dX10_thing_123 : decode cX10_thing 123 = .ok (.ishr, 1) := by decide +kernel
theorem dX10_thing_124 : decode cX10_thing 124 = .ok (.iconst 1, 1) := by decide +kernel
theorem dX10_thing_125 : decode cX10_thing 125 = .ok (.iand, 1) := by decide +kernel
theorem dX10_thing_126 : decode cX10_thing 126 = .ok (.ireturn, 1) := by decide +kernel
theorem dX10_thing_127 : decode cX10_thing 127 = .ok (.aload_n 0, 1) := by decide +kernel
theorem dX10_thing_128 : decode cX10_thing 128 = .ok (.getfield 7, 3) := by decide +kernel
theorem dX10_thing_131 : decode cX10_thing 131 = .ok (.bipush 10, 2) := by decide +kernel
theorem dX10_thing_133 : decode cX10_thing 133 = .ok (.iaload, 1) := by decide +kernel
theorem dX10_thing_134 : decode cX10_thing 134 = .ok (.iload_n 1, 1) := by decide +kernel
theorem dX10_thing_135 : decode cX10_thing 135 = .ok (.ishr, 1) := by decide +kernel
theorem dX10_thing_136 : decode cX10_thing 136 = .ok (.iconst 1, 1) := by decide +kernel
theorem dX10_thing_137 : decode cX10_thing 137 = .ok (.iand, 1) := by decide +kernel
theorem dX10_thing_138 : decode cX10_thing 138 = .ok (.ireturn, 1) := by decide +kernel
theorem dX10_thing_139 : decode cX10_thing 139 = .ok (.aload_n 0, 1) := by decide +kernel
theorem dX10_thing_140 : decode cX10_thing 140 = .ok (.invokevirtual 143, 3) := by decide +kernel
theorem dX10_thing_143 : decode cX10_thing 143 = .ok (.iload_n 1, 1) := by decide +kernel
theorem dX10_thing_144 : decode cX10_thing 144 = .ok (.ishr, 1) := by decide +kernel
theorem dX10_thing_145 : decode cX10_thing 145 = .ok (.iconst 1, 1) := by decide +kernel
theorem dX10_thing_146 : decode cX10_thing 146 = .ok (.iand, 1) := by decide +kernel
theorem dX10_thing_147 : decode cX10_thing 147 = .ok (.ireturn, 1) := by decide +kernel
theorem dX10_thing_148 : decode cX10_thing 148 = .ok (.bipush (-2), 2) := by decide +kernel
theorem dX10_thing_150 : decode cX10_thing 150 = .ok (.ireturn, 1) := by decide +kernel
theorem dX10_alike_0 : decode cX10_alike 0 = .ok (.aload_n 0, 1) := by decide +kernel
theorem dX10_alike_1 : decode cX10_alike 1 = .ok (.iload_n 1, 1) := by decide +kernel
theorem dX10_alike_2 : decode cX10_alike 2 = .ok (.invokevirtual 128, 3) := by decide +kernel
theorem dX10_alike_5 : decode cX10_alike 5 = .ok (.ifCond .eq 23, 3) := by decide +kernel
theorem dX10_alike_8 : decode cX10_alike 8 = .ok (.aload_n 0, 1) := by decide +kernel
theorem dX10_alike_9 : decode cX10_alike 9 = .ok (.iload_n 1, 1) := by decide +kernel
theorem dX10_alike_10 : decode cX10_alike 10 = .ok (.aload_n 0, 1) := by decide +kernel
theorem dX10_alike_11 : decode cX10_alike 11 = .ok (.iconst 0, 1) := by decide +kernel
theorem dX10_alike_12 : decode cX10_alike 12 = .ok (.invokevirtual 122, 3) := by decide +kernel
theorem dX10_alike_15 : decode cX10_alike 15 = .ok (.aload_n 0, 1) := by decide +kernel
theorem dX10_alike_16 : decode cX10_alike 16 = .ok (.getfield 7, 3) := by decide +kernel
theorem dX10_alike_19 : decode cX10_alike 19 = .ok (.bipush 11, 2) := by decide +kernel
theorem dX10_alike_21 : decode cX10_alike 21 = .ok (.iaload, 1) := by decide +kernel
theorem dX10_alike_22 : decode cX10_alike 22 = .ok (.invokevirtual 118, 3) := by decide +kernel
theorem dX10_alike_25 : decode cX10_alike 25 = .ok (.goto 4, 3) := by decide +kernel
theorem dX10_alike_28 : decode cX10_alike 28 = .ok (.iconst (-1), 1) := by decide +kernel
theorem dX10_alike_29 : decode cX10_alike 29 = .ok (.ireturn, 1) := by decide +kernel
theorem dX10_priceBy_0 : decode cX10_priceBy 0 = .ok (.iload_n 2, 1) := by decide +kernel
theorem dX10_priceBy_1 : decode cX10_priceBy 1 = .ok (.iload_n 1, 1) := by decide +kernel
theorem dX10_priceBy_2 : decode cX10_priceBy 2 = .ok (.invokestatic 108, 3) := by decide +kernel
theorem dX10_priceBy_5 : decode cX10_priceBy 5 = .ok (.ifCond .eq 33, 3) := by decide +kernel
theorem dX10_priceBy_8 : decode cX10_priceBy 8 = .ok (.bipush 12, 2) := by decide +kernel
theorem dX10_priceBy_10 : decode cX10_priceBy 10 = .ok (.aload_n 0, 1) := by decide +kernel
theorem dX10_priceBy_11 : decode cX10_priceBy 11 = .ok (.iload_n 1, 1) := by decide +kernel
theorem dX10_priceBy_12 : decode cX10_priceBy 12 = .ok (.invokevirtual 134, 3) := by decide +kernel
theorem dX10_priceBy_15 : decode cX10_priceBy 15 = .ok (.imul, 1) := by decide +kernel
theorem dX10_priceBy_16 : decode cX10_priceBy 16 = .ok (.iconst 1, 1) := by decide +kernel
theorem dX10_priceBy_17 : decode cX10_priceBy 17 = .ok (.aload_n 0, 1) := by decide +kernel
theorem dX10_priceBy_18 : decode cX10_priceBy 18 = .ok (.iload_n 1, 1) := by decide +kernel
theorem dX10_priceBy_19 : decode cX10_priceBy 19 = .ok (.iload_n 2, 1) := by decide +kernel
theorem dX10_priceBy_20 : decode cX10_priceBy 20 = .ok (.aload_n 0, 1) := by decide +kernel
theorem dX10_priceBy_21 : decode cX10_priceBy 21 = .ok (.getfield 7, 3) := by decide +kernel
theorem dX10_priceBy_24 : decode cX10_priceBy 24 = .ok (.bipush 11, 2) := by decide +kernel
theorem dX10_priceBy_26 : decode cX10_priceBy 26 = .ok (.iaload, 1) := by decide +kernel
theorem dX10_priceBy_27 : decode cX10_priceBy 27 = .ok (.invokevirtual 118, 3) := by decide +kernel
theorem dX10_priceBy_30 : decode cX10_priceBy 30 = .ok (.invokestatic 115, 3) := by decide +kernel
theorem dX10_priceBy_33 : decode cX10_priceBy 33 = .ok (.iadd, 1) := by decide +kernel
theorem dX10_priceBy_34 : decode cX10_priceBy 34 = .ok (.idiv, 1) := by decide +kernel
theorem dX10_priceBy_35 : decode cX10_priceBy 35 = .ok (.goto 4, 3) := by decide +kernel
theorem dX10_priceBy_38 : decode cX10_priceBy 38 = .ok (.iconst 0, 1) := by decide +kernel
theorem dX10_priceBy_39 : decode cX10_priceBy 39 = .ok (.ireturn, 1) := by decide +kernel
theorem dX10_price_0 : decode cX10_price 0 = .ok (.aload_n 0, 1) := by decide +kernel
theorem dX10_price_1 : decode cX10_price 1 = .ok (.iload_n 1, 1) := by decide +kernel
theorem dX10_price_2 : decode cX10_price 2 = .ok (.invokevirtual 128, 3) := by decide +kernel
theorem dX10_price_5 : decode cX10_price 5 = .ok (.ifCond .eq 16, 3) := by decide +kernel
theorem dX10_price_8 : decode cX10_price 8 = .ok (.aload_n 0, 1) := by decide +kernel
theorem dX10_price_9 : decode cX10_price 9 = .ok (.iload_n 1, 1) := by decide +kernel
theorem dX10_price_10 : decode cX10_price 10 = .ok (.aload_n 0, 1) := by decide +kernel
theorem dX10_price_11 : decode cX10_price 11 = .ok (.iconst 0, 1) := by decide +kernel
theorem dX10_price_12 : decode cX10_price 12 = .ok (.invokevirtual 122, 3) := by decide +kernel
theorem dX10_price_15 : decode cX10_price 15 = .ok (.invokevirtual 146, 3) := by decide +kernel
theorem dX10_price_18 : decode cX10_price 18 = .ok (.goto 4, 3) := by decide +kernel
theorem dX10_price_21 : decode cX10_price 21 = .ok (.iconst (-1), 1) := by decide +kernel
theorem dX10_price_22 : decode cX10_price 22 = .ok (.ireturn, 1) := by decide +kernel
theorem dX10_keepAct_0 : decode cX10_keepAct 0 = .ok (.iconst 0, 1) := by decide +kernel
theorem dX10_keepAct_1 : decode cX10_keepAct 1 = .ok (.istore_n 1, 1) := by decide +kernel
theorem dX10_keepAct_2 : decode cX10_keepAct 2 = .ok (.iload_n 1, 1) := by decide +kernel
theorem dX10_keepAct_3 : decode cX10_keepAct 3 = .ok (.bipush 14, 2) := by decide +kernel
theorem dX10_keepAct_5 : decode cX10_keepAct 5 = .ok (.if_icmp .ge 29, 3) := by decide +kernel
theorem dX10_keepAct_8 : decode cX10_keepAct 8 = .ok (.aload_n 0, 1) := by decide +kernel
theorem dX10_keepAct_9 : decode cX10_keepAct 9 = .ok (.getfield 16, 3) := by decide +kernel
theorem dX10_keepAct_12 : decode cX10_keepAct 12 = .ok (.bipush 14, 2) := by decide +kernel
theorem dX10_keepAct_14 : decode cX10_keepAct 14 = .ok (.aload_n 0, 1) := by decide +kernel
theorem dX10_keepAct_15 : decode cX10_keepAct 15 = .ok (.getfield 149, 3) := by decide +kernel
theorem dX10_keepAct_18 : decode cX10_keepAct 18 = .ok (.imul, 1) := by decide +kernel
theorem dX10_keepAct_19 : decode cX10_keepAct 19 = .ok (.iload_n 1, 1) := by decide +kernel
theorem dX10_keepAct_20 : decode cX10_keepAct 20 = .ok (.iadd, 1) := by decide +kernel
theorem dX10_keepAct_21 : decode cX10_keepAct 21 = .ok (.aload_n 0, 1) := by decide +kernel
theorem dX10_keepAct_22 : decode cX10_keepAct 22 = .ok (.getfield 7, 3) := by decide +kernel
theorem dX10_keepAct_25 : decode cX10_keepAct 25 = .ok (.iload_n 1, 1) := by decide +kernel
theorem dX10_keepAct_26 : decode cX10_keepAct 26 = .ok (.iaload, 1) := by decide +kernel
theorem dX10_keepAct_27 : decode cX10_keepAct 27 = .ok (.iastore, 1) := by decide +kernel
theorem dX10_keepAct_28 : decode cX10_keepAct 28 = .ok (.iinc 1 1, 3) := by decide +kernel
theorem dX10_keepAct_31 : decode cX10_keepAct 31 = .ok (.goto (-29), 3) := by decide +kernel
theorem dX10_keepAct_34 : decode cX10_keepAct 34 = .ok (.aload_n 0, 1) := by decide +kernel
theorem dX10_keepAct_35 : decode cX10_keepAct 35 = .ok (.aload_n 0, 1) := by decide +kernel
theorem dX10_keepAct_36 : decode cX10_keepAct 36 = .ok (.getfield 149, 3) := by decide +kernel
theorem dX10_keepAct_39 : decode cX10_keepAct 39 = .ok (.iconst 1, 1) := by decide +kernel
theorem dX10_keepAct_40 : decode cX10_keepAct 40 = .ok (.iadd, 1) := by decide +kernel
theorem dX10_keepAct_41 : decode cX10_keepAct 41 = .ok (.bipush 16, 2) := by decide +kernel
theorem dX10_keepAct_43 : decode cX10_keepAct 43 = .ok (.irem, 1) := by decide +kernel
theorem dX10_keepAct_44 : decode cX10_keepAct 44 = .ok (.putfield 149, 3) := by decide +kernel
theorem dX10_keepAct_47 : decode cX10_keepAct 47 = .ok (.aload_n 0, 1) := by decide +kernel
theorem dX10_keepAct_48 : decode cX10_keepAct 48 = .ok (.aload_n 0, 1) := by decide +kernel
theorem dX10_keepAct_49 : decode cX10_keepAct 49 = .ok (.getfield 92, 3) := by decide +kernel
theorem dX10_keepAct_52 : decode cX10_keepAct 52 = .ok (.bipush 16, 2) := by decide +kernel
theorem dX10_keepAct_54 : decode cX10_keepAct 54 = .ok (.if_icmp .ge 12, 3) := by decide +kernel
theorem dX10_keepAct_57 : decode cX10_keepAct 57 = .ok (.aload_n 0, 1) := by decide +kernel
theorem dX10_keepAct_58 : decode cX10_keepAct 58 = .ok (.getfield 92, 3) := by decide +kernel
theorem dX10_keepAct_61 : decode cX10_keepAct 61 = .ok (.iconst 1, 1) := by decide +kernel
theorem dX10_keepAct_62 : decode cX10_keepAct 62 = .ok (.iadd, 1) := by decide +kernel
theorem dX10_keepAct_63 : decode cX10_keepAct 63 = .ok (.goto 5, 3) := by decide +kernel
theorem dX10_keepAct_66 : decode cX10_keepAct 66 = .ok (.bipush 16, 2) := by decide +kernel
theorem dX10_keepAct_68 : decode cX10_keepAct 68 = .ok (.putfield 92, 3) := by decide +kernel
theorem dX10_keepAct_71 : decode cX10_keepAct 71 = .ok (.return_, 1) := by decide +kernel
theorem dX10_guardAt_0 : decode cX10_guardAt 0 = .ok (.aload_n 0, 1) := by decide +kernel
theorem dX10_guardAt_1 : decode cX10_guardAt 1 = .ok (.getfield 7, 3) := by decide +kernel
theorem dX10_guardAt_4 : decode cX10_guardAt 4 = .ok (.bipush 14, 2) := by decide +kernel
theorem dX10_guardAt_6 : decode cX10_guardAt 6 = .ok (.iload_n 1, 1) := by decide +kernel
theorem dX10_guardAt_7 : decode cX10_guardAt 7 = .ok (.imul, 1) := by decide +kernel
theorem dX10_guardAt_8 : decode cX10_guardAt 8 = .ok (.iload_n 2, 1) := by decide +kernel
theorem dX10_guardAt_9 : decode cX10_guardAt 9 = .ok (.iadd, 1) := by decide +kernel
theorem dX10_guardAt_10 : decode cX10_guardAt 10 = .ok (.iaload, 1) := by decide +kernel
theorem dX10_guardAt_11 : decode cX10_guardAt 11 = .ok (.iconst 2, 1) := by decide +kernel
theorem dX10_guardAt_12 : decode cX10_guardAt 12 = .ok (.irem, 1) := by decide +kernel
theorem dX10_guardAt_13 : decode cX10_guardAt 13 = .ok (.ireturn, 1) := by decide +kernel
theorem dX10_canBreak_0 : decode cX10_canBreak 0 = .ok (.bipush 14, 2) := by decide +kernel
theorem dX10_canBreak_2 : decode cX10_canBreak 2 = .ok (.iload_n 1, 1) := by decide +kernel
theorem dX10_canBreak_3 : decode cX10_canBreak 3 = .ok (.imul, 1) := by decide +kernel
theorem dX10_canBreak_4 : decode cX10_canBreak 4 = .ok (.istore_n 3, 1) := by decide +kernel
theorem dX10_canBreak_5 : decode cX10_canBreak 5 = .ok (.aload_n 0, 1) := by decide +kernel
theorem dX10_canBreak_6 : decode cX10_canBreak 6 = .ok (.getfield 7, 3) := by decide +kernel
theorem dX10_canBreak_9 : decode cX10_canBreak 9 = .ok (.iload_n 3, 1) := by decide +kernel
theorem dX10_canBreak_10 : decode cX10_canBreak 10 = .ok (.bipush 8, 2) := by decide +kernel
theorem dX10_canBreak_12 : decode cX10_canBreak 12 = .ok (.iadd, 1) := by decide +kernel
theorem dX10_canBreak_13 : decode cX10_canBreak 13 = .ok (.iaload, 1) := by decide +kernel
theorem dX10_canBreak_14 : decode cX10_canBreak 14 = .ok (.iload_n 2, 1) := by decide +kernel
theorem dX10_canBreak_15 : decode cX10_canBreak 15 = .ok (.invokestatic 108, 3) := by decide +kernel
theorem dX10_canBreak_18 : decode cX10_canBreak 18 = .ok (.ifCond .ne 32, 3) := by decide +kernel
theorem dX10_canBreak_21 : decode cX10_canBreak 21 = .ok (.aload_n 0, 1) := by decide +kernel
theorem dX10_canBreak_22 : decode cX10_canBreak 22 = .ok (.getfield 7, 3) := by decide +kernel
theorem dX10_canBreak_25 : decode cX10_canBreak 25 = .ok (.iload_n 3, 1) := by decide +kernel
theorem dX10_canBreak_26 : decode cX10_canBreak 26 = .ok (.bipush 10, 2) := by decide +kernel
theorem dX10_canBreak_28 : decode cX10_canBreak 28 = .ok (.iadd, 1) := by decide +kernel
theorem dX10_canBreak_29 : decode cX10_canBreak 29 = .ok (.iaload, 1) := by decide +kernel
theorem dX10_canBreak_30 : decode cX10_canBreak 30 = .ok (.iload_n 2, 1) := by decide +kernel
theorem dX10_canBreak_31 : decode cX10_canBreak 31 = .ok (.invokestatic 108, 3) := by decide +kernel
theorem dX10_canBreak_34 : decode cX10_canBreak 34 = .ok (.ifCond .ne 16, 3) := by decide +kernel
theorem dX10_canBreak_37 : decode cX10_canBreak 37 = .ok (.aload_n 0, 1) := by decide +kernel
theorem dX10_canBreak_38 : decode cX10_canBreak 38 = .ok (.iload_n 1, 1) := by decide +kernel
theorem dX10_canBreak_39 : decode cX10_canBreak 39 = .ok (.iload_n 2, 1) := by decide +kernel
theorem dX10_canBreak_40 : decode cX10_canBreak 40 = .ok (.invokevirtual 152, 3) := by decide +kernel
theorem dX10_canBreak_43 : decode cX10_canBreak 43 = .ok (.ifCond .ne 7, 3) := by decide +kernel
theorem dX10_canBreak_46 : decode cX10_canBreak 46 = .ok (.iconst 1, 1) := by decide +kernel
theorem dX10_canBreak_47 : decode cX10_canBreak 47 = .ok (.goto 4, 3) := by decide +kernel
theorem dX10_canBreak_50 : decode cX10_canBreak 50 = .ok (.iconst 0, 1) := by decide +kernel
theorem dX10_canBreak_51 : decode cX10_canBreak 51 = .ok (.ireturn, 1) := by decide +kernel
theorem dX10_canClaim_0 : decode cX10_canClaim 0 = .ok (.bipush 14, 2) := by decide +kernel
theorem dX10_canClaim_2 : decode cX10_canClaim 2 = .ok (.iload_n 1, 1) := by decide +kernel
theorem dX10_canClaim_3 : decode cX10_canClaim 3 = .ok (.imul, 1) := by decide +kernel
theorem dX10_canClaim_4 : decode cX10_canClaim 4 = .ok (.istore_n 3, 1) := by decide +kernel
theorem dX10_canClaim_5 : decode cX10_canClaim 5 = .ok (.aload_n 0, 1) := by decide +kernel
theorem dX10_canClaim_6 : decode cX10_canClaim 6 = .ok (.aload_n 0, 1) := by decide +kernel
theorem dX10_canClaim_7 : decode cX10_canClaim 7 = .ok (.iload_n 1, 1) := by decide +kernel
theorem dX10_canClaim_8 : decode cX10_canClaim 8 = .ok (.invokevirtual 122, 3) := by decide +kernel
theorem dX10_canClaim_11 : decode cX10_canClaim 11 = .ok (.aload_n 0, 1) := by decide +kernel
theorem dX10_canClaim_12 : decode cX10_canClaim 12 = .ok (.getfield 7, 3) := by decide +kernel
theorem dX10_canClaim_15 : decode cX10_canClaim 15 = .ok (.iload_n 3, 1) := by decide +kernel
theorem dX10_canClaim_16 : decode cX10_canClaim 16 = .ok (.bipush 11, 2) := by decide +kernel
theorem dX10_canClaim_18 : decode cX10_canClaim 18 = .ok (.iadd, 1) := by decide +kernel
theorem dX10_canClaim_19 : decode cX10_canClaim 19 = .ok (.iaload, 1) := by decide +kernel
theorem dX10_canClaim_20 : decode cX10_canClaim 20 = .ok (.invokevirtual 125, 3) := by decide +kernel
theorem dX10_canClaim_23 : decode cX10_canClaim 23 = .ok (.iload_n 2, 1) := by decide +kernel
theorem dX10_canClaim_24 : decode cX10_canClaim 24 = .ok (.invokestatic 108, 3) := by decide +kernel
theorem dX10_canClaim_27 : decode cX10_canClaim 27 = .ok (.ifCond .eq 23, 3) := by decide +kernel
theorem dX10_canClaim_30 : decode cX10_canClaim 30 = .ok (.aload_n 0, 1) := by decide +kernel
theorem dX10_canClaim_31 : decode cX10_canClaim 31 = .ok (.getfield 7, 3) := by decide +kernel
theorem dX10_canClaim_34 : decode cX10_canClaim 34 = .ok (.iload_n 3, 1) := by decide +kernel
theorem dX10_canClaim_35 : decode cX10_canClaim 35 = .ok (.bipush 10, 2) := by decide +kernel
theorem dX10_canClaim_37 : decode cX10_canClaim 37 = .ok (.iadd, 1) := by decide +kernel
theorem dX10_canClaim_38 : decode cX10_canClaim 38 = .ok (.iaload, 1) := by decide +kernel
theorem dX10_canClaim_39 : decode cX10_canClaim 39 = .ok (.iload_n 2, 1) := by decide +kernel
theorem dX10_canClaim_40 : decode cX10_canClaim 40 = .ok (.invokestatic 108, 3) := by decide +kernel
theorem dX10_canClaim_43 : decode cX10_canClaim 43 = .ok (.ifCond .ne 7, 3) := by decide +kernel
theorem dX10_canClaim_46 : decode cX10_canClaim 46 = .ok (.iconst 1, 1) := by decide +kernel
theorem dX10_canClaim_47 : decode cX10_canClaim 47 = .ok (.goto 4, 3) := by decide +kernel
theorem dX10_canClaim_50 : decode cX10_canClaim 50 = .ok (.iconst 0, 1) := by decide +kernel
theorem dX10_canClaim_51 : decode cX10_canClaim 51 = .ok (.ireturn, 1) := by decide +kernel
theorem dX10_canHide_0 : decode cX10_canHide 0 = .ok (.bipush 14, 2) := by decide +kernel
theorem dX10_canHide_2 : decode cX10_canHide 2 = .ok (.iload_n 1, 1) := by decide +kernel
theorem dX10_canHide_3 : decode cX10_canHide 3 = .ok (.imul, 1) := by decide +kernel
theorem dX10_canHide_4 : decode cX10_canHide 4 = .ok (.istore_n 3, 1) := by decide +kernel
theorem dX10_canHide_5 : decode cX10_canHide 5 = .ok (.aload_n 0, 1) := by decide +kernel
theorem dX10_canHide_6 : decode cX10_canHide 6 = .ok (.getfield 7, 3) := by decide +kernel
theorem dX10_canHide_9 : decode cX10_canHide 9 = .ok (.iload_n 3, 1) := by decide +kernel
theorem dX10_canHide_10 : decode cX10_canHide 10 = .ok (.bipush 8, 2) := by decide +kernel
theorem dX10_canHide_12 : decode cX10_canHide 12 = .ok (.iadd, 1) := by decide +kernel
theorem dX10_canHide_13 : decode cX10_canHide 13 = .ok (.iaload, 1) := by decide +kernel
theorem dX10_canHide_14 : decode cX10_canHide 14 = .ok (.iload_n 2, 1) := by decide +kernel
theorem dX10_canHide_15 : decode cX10_canHide 15 = .ok (.invokestatic 108, 3) := by decide +kernel
theorem dX10_canHide_18 : decode cX10_canHide 18 = .ok (.ifCond .ne 23, 3) := by decide +kernel
theorem dX10_canHide_21 : decode cX10_canHide 21 = .ok (.aload_n 0, 1) := by decide +kernel
theorem dX10_canHide_22 : decode cX10_canHide 22 = .ok (.getfield 7, 3) := by decide +kernel
theorem dX10_canHide_25 : decode cX10_canHide 25 = .ok (.iload_n 3, 1) := by decide +kernel
theorem dX10_canHide_26 : decode cX10_canHide 26 = .ok (.bipush 10, 2) := by decide +kernel
theorem dX10_canHide_28 : decode cX10_canHide 28 = .ok (.iadd, 1) := by decide +kernel
theorem dX10_canHide_29 : decode cX10_canHide 29 = .ok (.iaload, 1) := by decide +kernel
theorem dX10_canHide_30 : decode cX10_canHide 30 = .ok (.iload_n 2, 1) := by decide +kernel
theorem dX10_canHide_31 : decode cX10_canHide 31 = .ok (.invokestatic 108, 3) := by decide +kernel
theorem dX10_canHide_34 : decode cX10_canHide 34 = .ok (.ifCond .ne 7, 3) := by decide +kernel
theorem dX10_canHide_37 : decode cX10_canHide 37 = .ok (.iconst 1, 1) := by decide +kernel
theorem dX10_canHide_38 : decode cX10_canHide 38 = .ok (.goto 4, 3) := by decide +kernel
theorem dX10_canHide_41 : decode cX10_canHide 41 = .ok (.iconst 0, 1) := by decide +kernel
theorem dX10_canHide_42 : decode cX10_canHide 42 = .ok (.ireturn, 1) := by decide +kernel
theorem dX10_free_0 : decode cX10_free 0 = .ok (.bipush 14, 2) := by decide +kernel
theorem dX10_free_2 : decode cX10_free 2 = .ok (.iload_n 1, 1) := by decide +kernel
theorem dX10_free_3 : decode cX10_free 3 = .ok (.imul, 1) := by decide +kernel
theorem dX10_free_4 : decode cX10_free 4 = .ok (.istore_n 3, 1) := by decide +kernel
theorem dX10_free_5 : decode cX10_free 5 = .ok (.aload_n 0, 1) := by decide +kernel
theorem dX10_free_6 : decode cX10_free 6 = .ok (.getfield 7, 3) := by decide +kernel
theorem dX10_free_9 : decode cX10_free 9 = .ok (.iload_n 3, 1) := by decide +kernel
theorem dX10_free_10 : decode cX10_free 10 = .ok (.bipush 10, 2) := by decide +kernel
theorem dX10_free_12 : decode cX10_free 12 = .ok (.iadd, 1) := by decide +kernel
theorem dX10_free_13 : decode cX10_free 13 = .ok (.dup2, 1) := by decide +kernel
theorem dX10_free_14 : decode cX10_free 14 = .ok (.iaload, 1) := by decide +kernel
theorem dX10_free_15 : decode cX10_free 15 = .ok (.aload_n 0, 1) := by decide +kernel
theorem dX10_free_16 : decode cX10_free 16 = .ok (.iload_n 2, 1) := by decide +kernel
theorem dX10_free_17 : decode cX10_free 17 = .ok (.aload_n 0, 1) := by decide +kernel
theorem dX10_free_18 : decode cX10_free 18 = .ok (.getfield 7, 3) := by decide +kernel
theorem dX10_free_21 : decode cX10_free 21 = .ok (.iload_n 3, 1) := by decide +kernel
theorem dX10_free_22 : decode cX10_free 22 = .ok (.bipush 10, 2) := by decide +kernel
theorem dX10_free_24 : decode cX10_free 24 = .ok (.iadd, 1) := by decide +kernel
theorem dX10_free_25 : decode cX10_free 25 = .ok (.iaload, 1) := by decide +kernel
theorem dX10_free_26 : decode cX10_free 26 = .ok (.aload_n 0, 1) := by decide +kernel
theorem dX10_free_27 : decode cX10_free 27 = .ok (.getfield 7, 3) := by decide +kernel
theorem dX10_free_30 : decode cX10_free 30 = .ok (.iload_n 3, 1) := by decide +kernel
theorem dX10_free_31 : decode cX10_free 31 = .ok (.bipush 11, 2) := by decide +kernel
theorem dX10_free_33 : decode cX10_free 33 = .ok (.iadd, 1) := by decide +kernel
theorem dX10_free_34 : decode cX10_free 34 = .ok (.iaload, 1) := by decide +kernel
theorem dX10_free_35 : decode cX10_free 35 = .ok (.invokevirtual 118, 3) := by decide +kernel
theorem dX10_free_38 : decode cX10_free 38 = .ok (.iconst (-1), 1) := by decide +kernel
theorem dX10_free_39 : decode cX10_free 39 = .ok (.ixor, 1) := by decide +kernel
theorem dX10_free_40 : decode cX10_free 40 = .ok (.iand, 1) := by decide +kernel
theorem dX10_free_41 : decode cX10_free 41 = .ok (.iastore, 1) := by decide +kernel
theorem dX10_free_42 : decode cX10_free 42 = .ok (.return_, 1) := by decide +kernel
theorem dX10_doHide_0 : decode cX10_doHide 0 = .ok (.aload_n 0, 1) := by decide +kernel
theorem dX10_doHide_1 : decode cX10_doHide 1 = .ok (.getfield 7, 3) := by decide +kernel
theorem dX10_doHide_4 : decode cX10_doHide 4 = .ok (.bipush 14, 2) := by decide +kernel
theorem dX10_doHide_6 : decode cX10_doHide 6 = .ok (.iload_n 1, 1) := by decide +kernel
theorem dX10_doHide_7 : decode cX10_doHide 7 = .ok (.imul, 1) := by decide +kernel
theorem dX10_doHide_8 : decode cX10_doHide 8 = .ok (.bipush 9, 2) := by decide +kernel
theorem dX10_doHide_10 : decode cX10_doHide 10 = .ok (.iadd, 1) := by decide +kernel
theorem dX10_doHide_11 : decode cX10_doHide 11 = .ok (.dup2, 1) := by decide +kernel
theorem dX10_doHide_12 : decode cX10_doHide 12 = .ok (.iaload, 1) := by decide +kernel
theorem dX10_doHide_13 : decode cX10_doHide 13 = .ok (.iconst 1, 1) := by decide +kernel
theorem dX10_doHide_14 : decode cX10_doHide 14 = .ok (.iload_n 2, 1) := by decide +kernel
theorem dX10_doHide_15 : decode cX10_doHide 15 = .ok (.ishl, 1) := by decide +kernel
theorem dX10_doHide_16 : decode cX10_doHide 16 = .ok (.ixor, 1) := by decide +kernel
theorem dX10_doHide_17 : decode cX10_doHide 17 = .ok (.iastore, 1) := by decide +kernel
theorem dX10_doHide_18 : decode cX10_doHide 18 = .ok (.aload_n 0, 1) := by decide +kernel
theorem dX10_doHide_19 : decode cX10_doHide 19 = .ok (.getfield 7, 3) := by decide +kernel
theorem dX10_doHide_22 : decode cX10_doHide 22 = .ok (.bipush 14, 2) := by decide +kernel
theorem dX10_doHide_24 : decode cX10_doHide 24 = .ok (.iload_n 1, 1) := by decide +kernel
theorem dX10_doHide_25 : decode cX10_doHide 25 = .ok (.imul, 1) := by decide +kernel
theorem dX10_doHide_26 : decode cX10_doHide 26 = .ok (.bipush 9, 2) := by decide +kernel
theorem dX10_doHide_28 : decode cX10_doHide 28 = .ok (.iadd, 1) := by decide +kernel
theorem dX10_doHide_29 : decode cX10_doHide 29 = .ok (.iaload, 1) := by decide +kernel
theorem dX10_doHide_30 : decode cX10_doHide 30 = .ok (.iload_n 2, 1) := by decide +kernel
theorem dX10_doHide_31 : decode cX10_doHide 31 = .ok (.invokestatic 108, 3) := by decide +kernel
theorem dX10_doHide_34 : decode cX10_doHide 34 = .ok (.ifCond .ne 9, 3) := by decide +kernel
theorem dX10_doHide_37 : decode cX10_doHide 37 = .ok (.aload_n 0, 1) := by decide +kernel
theorem dX10_doHide_38 : decode cX10_doHide 38 = .ok (.iload_n 1, 1) := by decide +kernel
theorem dX10_doHide_39 : decode cX10_doHide 39 = .ok (.iload_n 2, 1) := by decide +kernel
theorem dX10_doHide_40 : decode cX10_doHide 40 = .ok (.invokevirtual 155, 3) := by decide +kernel
theorem dX10_doHide_43 : decode cX10_doHide 43 = .ok (.return_, 1) := by decide +kernel
theorem dX10_doGuard_0 : decode cX10_doGuard 0 = .ok (.aload_n 0, 1) := by decide +kernel
theorem dX10_doGuard_1 : decode cX10_doGuard 1 = .ok (.getfield 7, 3) := by decide +kernel
theorem dX10_doGuard_4 : decode cX10_doGuard 4 = .ok (.bipush 14, 2) := by decide +kernel
theorem dX10_doGuard_6 : decode cX10_doGuard 6 = .ok (.iload_n 1, 1) := by decide +kernel
theorem dX10_doGuard_7 : decode cX10_doGuard 7 = .ok (.imul, 1) := by decide +kernel
theorem dX10_doGuard_8 : decode cX10_doGuard 8 = .ok (.iload_n 2, 1) := by decide +kernel
theorem dX10_doGuard_9 : decode cX10_doGuard 9 = .ok (.iadd, 1) := by decide +kernel
theorem dX10_doGuard_10 : decode cX10_doGuard 10 = .ok (.dup2, 1) := by decide +kernel
theorem dX10_doGuard_11 : decode cX10_doGuard 11 = .ok (.iaload, 1) := by decide +kernel
theorem dX10_doGuard_12 : decode cX10_doGuard 12 = .ok (.aload_n 0, 1) := by decide +kernel
theorem dX10_doGuard_13 : decode cX10_doGuard 13 = .ok (.iload_n 1, 1) := by decide +kernel
theorem dX10_doGuard_14 : decode cX10_doGuard 14 = .ok (.iload_n 2, 1) := by decide +kernel
theorem dX10_doGuard_15 : decode cX10_doGuard 15 = .ok (.invokevirtual 152, 3) := by decide +kernel
theorem dX10_doGuard_18 : decode cX10_doGuard 18 = .ok (.ifCond .ne 7, 3) := by decide +kernel
theorem dX10_doGuard_21 : decode cX10_doGuard 21 = .ok (.iconst 1, 1) := by decide +kernel
theorem dX10_doGuard_22 : decode cX10_doGuard 22 = .ok (.goto 4, 3) := by decide +kernel
theorem dX10_doGuard_25 : decode cX10_doGuard 25 = .ok (.iconst (-1), 1) := by decide +kernel
theorem dX10_doGuard_26 : decode cX10_doGuard 26 = .ok (.iadd, 1) := by decide +kernel
theorem dX10_doGuard_27 : decode cX10_doGuard 27 = .ok (.iastore, 1) := by decide +kernel
theorem dX10_doGuard_28 : decode cX10_doGuard 28 = .ok (.return_, 1) := by decide +kernel
theorem dX10_broken_0 : decode cX10_broken 0 = .ok (.aload_n 0, 1) := by decide +kernel
theorem dX10_broken_1 : decode cX10_broken 1 = .ok (.iload_n 1, 1) := by decide +kernel
theorem dX10_broken_2 : decode cX10_broken 2 = .ok (.invokevirtual 128, 3) := by decide +kernel
theorem dX10_broken_5 : decode cX10_broken 5 = .ok (.ifCond .ne 5, 3) := by decide +kernel
theorem dX10_broken_8 : decode cX10_broken 8 = .ok (.iconst (-1), 1) := by decide +kernel
theorem dX10_broken_9 : decode cX10_broken 9 = .ok (.ireturn, 1) := by decide +kernel
theorem dX10_broken_10 : decode cX10_broken 10 = .ok (.aload_n 0, 1) := by decide +kernel
theorem dX10_broken_11 : decode cX10_broken 11 = .ok (.iconst 0, 1) := by decide +kernel
theorem dX10_broken_12 : decode cX10_broken 12 = .ok (.iload_n 1, 1) := by decide +kernel
theorem dX10_broken_13 : decode cX10_broken 13 = .ok (.invokevirtual 159, 3) := by decide +kernel
theorem dX10_broken_16 : decode cX10_broken 16 = .ok (.ifCond .ne 6, 3) := by decide +kernel
theorem dX10_broken_19 : decode cX10_broken 19 = .ok (.bipush (-3), 2) := by decide +kernel
theorem dX10_broken_21 : decode cX10_broken 21 = .ok (.ireturn, 1) := by decide +kernel
theorem dX10_broken_22 : decode cX10_broken 22 = .ok (.aload_n 0, 1) := by decide +kernel
theorem dX10_broken_23 : decode cX10_broken 23 = .ok (.invokevirtual 162, 3) := by decide +kernel
theorem dX10_broken_26 : decode cX10_broken 26 = .ok (.aload_n 0, 1) := by decide +kernel
theorem dX10_broken_27 : decode cX10_broken 27 = .ok (.getfield 7, 3) := by decide +kernel
theorem dX10_broken_30 : decode cX10_broken 30 = .ok (.bipush 8, 2) := by decide +kernel
theorem dX10_broken_32 : decode cX10_broken 32 = .ok (.dup2, 1) := by decide +kernel
theorem dX10_broken_33 : decode cX10_broken 33 = .ok (.iaload, 1) := by decide +kernel
theorem dX10_broken_34 : decode cX10_broken 34 = .ok (.iconst 1, 1) := by decide +kernel
theorem dX10_broken_35 : decode cX10_broken 35 = .ok (.iload_n 1, 1) := by decide +kernel
theorem dX10_broken_36 : decode cX10_broken 36 = .ok (.ishl, 1) := by decide +kernel
theorem dX10_broken_37 : decode cX10_broken 37 = .ok (.ior, 1) := by decide +kernel
theorem dX10_broken_38 : decode cX10_broken 38 = .ok (.iastore, 1) := by decide +kernel
theorem dX10_broken_39 : decode cX10_broken 39 = .ok (.aload_n 0, 1) := by decide +kernel
theorem dX10_broken_40 : decode cX10_broken 40 = .ok (.invokevirtual 143, 3) := by decide +kernel
theorem dX10_broken_43 : decode cX10_broken 43 = .ok (.ireturn, 1) := by decide +kernel
theorem dX10_forge_0 : decode cX10_forge 0 = .ok (.iload_n 1, 1) := by decide +kernel
theorem dX10_forge_1 : decode cX10_forge 1 = .ok (.i2l, 1) := by decide +kernel
theorem dX10_forge_2 : decode cX10_forge 2 = .ok (.lconst 0, 1) := by decide +kernel
theorem dX10_forge_3 : decode cX10_forge 3 = .ok (.ldc2_w 165, 3) := by decide +kernel
theorem dX10_forge_6 : decode cX10_forge 6 = .ok (.invokestatic 58, 3) := by decide +kernel
theorem dX10_forge_9 : decode cX10_forge 9 = .ok (.ifCond .eq 15, 3) := by decide +kernel
theorem dX10_forge_12 : decode cX10_forge 12 = .ok (.iload_n 2, 1) := by decide +kernel
theorem dX10_forge_13 : decode cX10_forge 13 = .ok (.i2l, 1) := by decide +kernel
theorem dX10_forge_14 : decode cX10_forge 14 = .ok (.lconst 0, 1) := by decide +kernel
theorem dX10_forge_15 : decode cX10_forge 15 = .ok (.ldc2_w 167, 3) := by decide +kernel
theorem dX10_forge_18 : decode cX10_forge 18 = .ok (.invokestatic 58, 3) := by decide +kernel
theorem dX10_forge_21 : decode cX10_forge 21 = .ok (.ifCond .ne 6, 3) := by decide +kernel
theorem dX10_forge_24 : decode cX10_forge 24 = .ok (.bipush (-2), 2) := by decide +kernel
theorem dX10_forge_26 : decode cX10_forge 26 = .ok (.ireturn, 1) := by decide +kernel
theorem dX10_forge_27 : decode cX10_forge 27 = .ok (.aload_n 0, 1) := by decide +kernel
theorem dX10_forge_28 : decode cX10_forge 28 = .ok (.invokevirtual 105, 3) := by decide +kernel
theorem dX10_forge_31 : decode cX10_forge 31 = .ok (.bipush 8, 2) := by decide +kernel
theorem dX10_forge_33 : decode cX10_forge 33 = .ok (.if_icmp .ne 6, 3) := by decide +kernel
theorem dX10_forge_36 : decode cX10_forge 36 = .ok (.bipush (-4), 2) := by decide +kernel
theorem dX10_forge_38 : decode cX10_forge 38 = .ok (.ireturn, 1) := by decide +kernel
theorem dX10_forge_39 : decode cX10_forge 39 = .ok (.aload_n 0, 1) := by decide +kernel
theorem dX10_forge_40 : decode cX10_forge 40 = .ok (.invokevirtual 162, 3) := by decide +kernel
theorem dX10_forge_43 : decode cX10_forge 43 = .ok (.aload_n 0, 1) := by decide +kernel
theorem dX10_forge_44 : decode cX10_forge 44 = .ok (.invokevirtual 105, 3) := by decide +kernel
theorem dX10_forge_47 : decode cX10_forge 47 = .ok (.istore_n 3, 1) := by decide +kernel
theorem dX10_forge_48 : decode cX10_forge 48 = .ok (.aload_n 0, 1) := by decide +kernel
theorem dX10_forge_49 : decode cX10_forge 49 = .ok (.getfield 7, 3) := by decide +kernel
theorem dX10_forge_52 : decode cX10_forge 52 = .ok (.iload_n 3, 1) := by decide +kernel
theorem dX10_forge_53 : decode cX10_forge 53 = .ok (.iload_n 1, 1) := by decide +kernel
theorem dX10_forge_54 : decode cX10_forge 54 = .ok (.iload_n 2, 1) := by decide +kernel
theorem dX10_forge_55 : decode cX10_forge 55 = .ok (.iconst 1, 1) := by decide +kernel
theorem dX10_forge_56 : decode cX10_forge 56 = .ok (.iconst 1, 1) := by decide +kernel
theorem dX10_forge_57 : decode cX10_forge 57 = .ok (.iconst 0, 1) := by decide +kernel
theorem dX10_forge_58 : decode cX10_forge 58 = .ok (.invokestatic 88, 3) := by decide +kernel
theorem dX10_forge_61 : decode cX10_forge 61 = .ok (.iastore, 1) := by decide +kernel
theorem dX10_forge_62 : decode cX10_forge 62 = .ok (.aload_n 0, 1) := by decide +kernel
theorem dX10_forge_63 : decode cX10_forge 63 = .ok (.getfield 7, 3) := by decide +kernel
theorem dX10_forge_66 : decode cX10_forge 66 = .ok (.bipush 13, 2) := by decide +kernel
theorem dX10_forge_68 : decode cX10_forge 68 = .ok (.dup2, 1) := by decide +kernel
theorem dX10_forge_69 : decode cX10_forge 69 = .ok (.iaload, 1) := by decide +kernel
theorem dX10_forge_70 : decode cX10_forge 70 = .ok (.iconst 1, 1) := by decide +kernel
theorem dX10_forge_71 : decode cX10_forge 71 = .ok (.iadd, 1) := by decide +kernel
theorem dX10_forge_72 : decode cX10_forge 72 = .ok (.iastore, 1) := by decide +kernel
theorem dX10_forge_73 : decode cX10_forge 73 = .ok (.aload_n 0, 1) := by decide +kernel
theorem dX10_forge_74 : decode cX10_forge 74 = .ok (.iconst 0, 1) := by decide +kernel
theorem dX10_forge_75 : decode cX10_forge 75 = .ok (.iload_n 3, 1) := by decide +kernel
theorem dX10_forge_76 : decode cX10_forge 76 = .ok (.invokevirtual 155, 3) := by decide +kernel
theorem dX10_forge_79 : decode cX10_forge 79 = .ok (.iload_n 3, 1) := by decide +kernel
theorem dX10_forge_80 : decode cX10_forge 80 = .ok (.ireturn, 1) := by decide +kernel
theorem dX10_hide_0 : decode cX10_hide 0 = .ok (.aload_n 0, 1) := by decide +kernel
theorem dX10_hide_1 : decode cX10_hide 1 = .ok (.iload_n 1, 1) := by decide +kernel
theorem dX10_hide_2 : decode cX10_hide 2 = .ok (.invokevirtual 128, 3) := by decide +kernel
theorem dX10_hide_5 : decode cX10_hide 5 = .ok (.ifCond .ne 5, 3) := by decide +kernel
theorem dX10_hide_8 : decode cX10_hide 8 = .ok (.iconst (-1), 1) := by decide +kernel
theorem dX10_hide_9 : decode cX10_hide 9 = .ok (.ireturn, 1) := by decide +kernel
theorem dX10_hide_10 : decode cX10_hide 10 = .ok (.aload_n 0, 1) := by decide +kernel
theorem dX10_hide_11 : decode cX10_hide 11 = .ok (.iconst 0, 1) := by decide +kernel
theorem dX10_hide_12 : decode cX10_hide 12 = .ok (.iload_n 1, 1) := by decide +kernel
theorem dX10_hide_13 : decode cX10_hide 13 = .ok (.invokevirtual 169, 3) := by decide +kernel
theorem dX10_hide_16 : decode cX10_hide 16 = .ok (.ifCond .ne 6, 3) := by decide +kernel
theorem dX10_hide_19 : decode cX10_hide 19 = .ok (.bipush (-3), 2) := by decide +kernel
theorem dX10_hide_21 : decode cX10_hide 21 = .ok (.ireturn, 1) := by decide +kernel
theorem dX10_hide_22 : decode cX10_hide 22 = .ok (.aload_n 0, 1) := by decide +kernel
theorem dX10_hide_23 : decode cX10_hide 23 = .ok (.invokevirtual 162, 3) := by decide +kernel
theorem dX10_hide_26 : decode cX10_hide 26 = .ok (.aload_n 0, 1) := by decide +kernel
theorem dX10_hide_27 : decode cX10_hide 27 = .ok (.iconst 0, 1) := by decide +kernel
theorem dX10_hide_28 : decode cX10_hide 28 = .ok (.iload_n 1, 1) := by decide +kernel
theorem dX10_hide_29 : decode cX10_hide 29 = .ok (.invokevirtual 172, 3) := by decide +kernel
theorem dX10_hide_32 : decode cX10_hide 32 = .ok (.aload_n 0, 1) := by decide +kernel
theorem dX10_hide_33 : decode cX10_hide 33 = .ok (.getfield 7, 3) := by decide +kernel
theorem dX10_hide_36 : decode cX10_hide 36 = .ok (.bipush 9, 2) := by decide +kernel
theorem dX10_hide_38 : decode cX10_hide 38 = .ok (.iaload, 1) := by decide +kernel
theorem dX10_hide_39 : decode cX10_hide 39 = .ok (.iload_n 1, 1) := by decide +kernel
theorem dX10_hide_40 : decode cX10_hide 40 = .ok (.ishr, 1) := by decide +kernel
theorem dX10_hide_41 : decode cX10_hide 41 = .ok (.iconst 1, 1) := by decide +kernel
theorem dX10_hide_42 : decode cX10_hide 42 = .ok (.iand, 1) := by decide +kernel
theorem dX10_hide_43 : decode cX10_hide 43 = .ok (.ireturn, 1) := by decide +kernel
theorem dX10_claim_0 : decode cX10_claim 0 = .ok (.aload_n 0, 1) := by decide +kernel
theorem dX10_claim_1 : decode cX10_claim 1 = .ok (.iload_n 1, 1) := by decide +kernel
theorem dX10_claim_2 : decode cX10_claim 2 = .ok (.invokevirtual 128, 3) := by decide +kernel
theorem dX10_claim_5 : decode cX10_claim 5 = .ok (.ifCond .ne 5, 3) := by decide +kernel
theorem dX10_claim_8 : decode cX10_claim 8 = .ok (.iconst (-1), 1) := by decide +kernel
theorem dX10_claim_9 : decode cX10_claim 9 = .ok (.ireturn, 1) := by decide +kernel
theorem dX10_claim_10 : decode cX10_claim 10 = .ok (.aload_n 0, 1) := by decide +kernel
theorem dX10_claim_11 : decode cX10_claim 11 = .ok (.iconst 0, 1) := by decide +kernel
theorem dX10_claim_12 : decode cX10_claim 12 = .ok (.iload_n 1, 1) := by decide +kernel
theorem dX10_claim_13 : decode cX10_claim 13 = .ok (.invokevirtual 175, 3) := by decide +kernel
theorem dX10_claim_16 : decode cX10_claim 16 = .ok (.ifCond .ne 6, 3) := by decide +kernel
theorem dX10_claim_19 : decode cX10_claim 19 = .ok (.bipush (-3), 2) := by decide +kernel
theorem dX10_claim_21 : decode cX10_claim 21 = .ok (.ireturn, 1) := by decide +kernel
theorem dX10_claim_22 : decode cX10_claim 22 = .ok (.aload_n 0, 1) := by decide +kernel
theorem dX10_claim_23 : decode cX10_claim 23 = .ok (.invokevirtual 162, 3) := by decide +kernel
theorem dX10_claim_26 : decode cX10_claim 26 = .ok (.aload_n 0, 1) := by decide +kernel
theorem dX10_claim_27 : decode cX10_claim 27 = .ok (.getfield 7, 3) := by decide +kernel
theorem dX10_claim_30 : decode cX10_claim 30 = .ok (.bipush 10, 2) := by decide +kernel
theorem dX10_claim_32 : decode cX10_claim 32 = .ok (.dup2, 1) := by decide +kernel
theorem dX10_claim_33 : decode cX10_claim 33 = .ok (.iaload, 1) := by decide +kernel
theorem dX10_claim_34 : decode cX10_claim 34 = .ok (.iconst 1, 1) := by decide +kernel
theorem dX10_claim_35 : decode cX10_claim 35 = .ok (.iload_n 1, 1) := by decide +kernel
theorem dX10_claim_36 : decode cX10_claim 36 = .ok (.ishl, 1) := by decide +kernel
theorem dX10_claim_37 : decode cX10_claim 37 = .ok (.ior, 1) := by decide +kernel
theorem dX10_claim_38 : decode cX10_claim 38 = .ok (.iastore, 1) := by decide +kernel
theorem dX10_claim_39 : decode cX10_claim 39 = .ok (.aload_n 0, 1) := by decide +kernel
theorem dX10_claim_40 : decode cX10_claim 40 = .ok (.getfield 7, 3) := by decide +kernel
theorem dX10_claim_43 : decode cX10_claim 43 = .ok (.bipush 10, 2) := by decide +kernel
theorem dX10_claim_45 : decode cX10_claim 45 = .ok (.iaload, 1) := by decide +kernel
theorem dX10_claim_46 : decode cX10_claim 46 = .ok (.invokestatic 115, 3) := by decide +kernel
theorem dX10_claim_49 : decode cX10_claim 49 = .ok (.ireturn, 1) := by decide +kernel
theorem dX10_guard_0 : decode cX10_guard 0 = .ok (.aload_n 0, 1) := by decide +kernel
theorem dX10_guard_1 : decode cX10_guard 1 = .ok (.iload_n 1, 1) := by decide +kernel
theorem dX10_guard_2 : decode cX10_guard 2 = .ok (.invokevirtual 128, 3) := by decide +kernel
theorem dX10_guard_5 : decode cX10_guard 5 = .ok (.ifCond .ne 5, 3) := by decide +kernel
theorem dX10_guard_8 : decode cX10_guard 8 = .ok (.iconst (-1), 1) := by decide +kernel
theorem dX10_guard_9 : decode cX10_guard 9 = .ok (.ireturn, 1) := by decide +kernel
theorem dX10_guard_10 : decode cX10_guard 10 = .ok (.aload_n 0, 1) := by decide +kernel
theorem dX10_guard_11 : decode cX10_guard 11 = .ok (.getfield 7, 3) := by decide +kernel
theorem dX10_guard_14 : decode cX10_guard 14 = .ok (.bipush 8, 2) := by decide +kernel
theorem dX10_guard_16 : decode cX10_guard 16 = .ok (.iaload, 1) := by decide +kernel
theorem dX10_guard_17 : decode cX10_guard 17 = .ok (.iload_n 1, 1) := by decide +kernel
theorem dX10_guard_18 : decode cX10_guard 18 = .ok (.invokestatic 108, 3) := by decide +kernel
theorem dX10_guard_21 : decode cX10_guard 21 = .ok (.ifCond .eq 6, 3) := by decide +kernel
theorem dX10_guard_24 : decode cX10_guard 24 = .ok (.bipush (-3), 2) := by decide +kernel
theorem dX10_guard_26 : decode cX10_guard 26 = .ok (.ireturn, 1) := by decide +kernel
theorem dX10_guard_27 : decode cX10_guard 27 = .ok (.aload_n 0, 1) := by decide +kernel
theorem dX10_guard_28 : decode cX10_guard 28 = .ok (.invokevirtual 162, 3) := by decide +kernel
theorem dX10_guard_31 : decode cX10_guard 31 = .ok (.aload_n 0, 1) := by decide +kernel
theorem dX10_guard_32 : decode cX10_guard 32 = .ok (.iconst 0, 1) := by decide +kernel
theorem dX10_guard_33 : decode cX10_guard 33 = .ok (.iload_n 1, 1) := by decide +kernel
theorem dX10_guard_34 : decode cX10_guard 34 = .ok (.invokevirtual 178, 3) := by decide +kernel
theorem dX10_guard_37 : decode cX10_guard 37 = .ok (.aload_n 0, 1) := by decide +kernel
theorem dX10_guard_38 : decode cX10_guard 38 = .ok (.iload_n 1, 1) := by decide +kernel
theorem dX10_guard_39 : decode cX10_guard 39 = .ok (.invokevirtual 140, 3) := by decide +kernel
theorem dX10_guard_42 : decode cX10_guard 42 = .ok (.ireturn, 1) := by decide +kernel
theorem dX10_word_0 : decode cX10_word 0 = .ok (.iload_n 1, 1) := by decide +kernel
theorem dX10_word_1 : decode cX10_word 1 = .ok (.i2l, 1) := by decide +kernel
theorem dX10_word_2 : decode cX10_word 2 = .ok (.lconst 1, 1) := by decide +kernel
theorem dX10_word_3 : decode cX10_word 3 = .ok (.ldc2_w 181, 3) := by decide +kernel
theorem dX10_word_6 : decode cX10_word 6 = .ok (.invokestatic 58, 3) := by decide +kernel
theorem dX10_word_9 : decode cX10_word 9 = .ok (.ifCond .ne 6, 3) := by decide +kernel
theorem dX10_word_12 : decode cX10_word 12 = .ok (.bipush (-2), 2) := by decide +kernel
theorem dX10_word_14 : decode cX10_word 14 = .ok (.ireturn, 1) := by decide +kernel
theorem dX10_word_15 : decode cX10_word 15 = .ok (.iload_n 1, 1) := by decide +kernel
theorem dX10_word_16 : decode cX10_word 16 = .ok (.aload_n 0, 1) := by decide +kernel
theorem dX10_word_17 : decode cX10_word 17 = .ok (.getfield 7, 3) := by decide +kernel
theorem dX10_word_20 : decode cX10_word 20 = .ok (.bipush 11, 2) := by decide +kernel
theorem dX10_word_22 : decode cX10_word 22 = .ok (.iaload, 1) := by decide +kernel
theorem dX10_word_23 : decode cX10_word 23 = .ok (.if_icmp .ne 6, 3) := by decide +kernel
theorem dX10_word_26 : decode cX10_word 26 = .ok (.bipush (-3), 2) := by decide +kernel
theorem dX10_word_28 : decode cX10_word 28 = .ok (.ireturn, 1) := by decide +kernel
theorem dX10_word_29 : decode cX10_word 29 = .ok (.aload_n 0, 1) := by decide +kernel
theorem dX10_word_30 : decode cX10_word 30 = .ok (.invokevirtual 162, 3) := by decide +kernel
theorem dX10_word_33 : decode cX10_word 33 = .ok (.aload_n 0, 1) := by decide +kernel
theorem dX10_word_34 : decode cX10_word 34 = .ok (.getfield 7, 3) := by decide +kernel
theorem dX10_word_37 : decode cX10_word 37 = .ok (.bipush 11, 2) := by decide +kernel
theorem dX10_word_39 : decode cX10_word 39 = .ok (.iload_n 1, 1) := by decide +kernel
theorem dX10_word_40 : decode cX10_word 40 = .ok (.iastore, 1) := by decide +kernel
theorem dX10_word_41 : decode cX10_word 41 = .ok (.aload_n 0, 1) := by decide +kernel
theorem dX10_word_42 : decode cX10_word 42 = .ok (.getfield 7, 3) := by decide +kernel
theorem dX10_word_45 : decode cX10_word 45 = .ok (.bipush 10, 2) := by decide +kernel
theorem dX10_word_47 : decode cX10_word 47 = .ok (.iaload, 1) := by decide +kernel
theorem dX10_word_48 : decode cX10_word 48 = .ok (.aload_n 0, 1) := by decide +kernel
theorem dX10_word_49 : decode cX10_word 49 = .ok (.invokevirtual 143, 3) := by decide +kernel
theorem dX10_word_52 : decode cX10_word 52 = .ok (.iconst (-1), 1) := by decide +kernel
theorem dX10_word_53 : decode cX10_word 53 = .ok (.ixor, 1) := by decide +kernel
theorem dX10_word_54 : decode cX10_word 54 = .ok (.iand, 1) := by decide +kernel
theorem dX10_word_55 : decode cX10_word 55 = .ok (.istore_n 2, 1) := by decide +kernel
theorem dX10_word_56 : decode cX10_word 56 = .ok (.aload_n 0, 1) := by decide +kernel
theorem dX10_word_57 : decode cX10_word 57 = .ok (.getfield 7, 3) := by decide +kernel
theorem dX10_word_60 : decode cX10_word 60 = .ok (.bipush 10, 2) := by decide +kernel
theorem dX10_word_62 : decode cX10_word 62 = .ok (.dup2, 1) := by decide +kernel
theorem dX10_word_63 : decode cX10_word 63 = .ok (.iaload, 1) := by decide +kernel
theorem dX10_word_64 : decode cX10_word 64 = .ok (.iload_n 2, 1) := by decide +kernel
theorem dX10_word_65 : decode cX10_word 65 = .ok (.iconst (-1), 1) := by decide +kernel
theorem dX10_word_66 : decode cX10_word 66 = .ok (.ixor, 1) := by decide +kernel
theorem dX10_word_67 : decode cX10_word 67 = .ok (.iand, 1) := by decide +kernel
theorem dX10_word_68 : decode cX10_word 68 = .ok (.iastore, 1) := by decide +kernel
theorem dX10_word_69 : decode cX10_word 69 = .ok (.iload_n 2, 1) := by decide +kernel
theorem dX10_word_70 : decode cX10_word 70 = .ok (.ireturn, 1) := by decide +kernel
theorem dX10_year_0 : decode cX10_year 0 = .ok (.aload_n 0, 1) := by decide +kernel
theorem dX10_year_1 : decode cX10_year 1 = .ok (.invokevirtual 162, 3) := by decide +kernel
theorem dX10_year_4 : decode cX10_year 4 = .ok (.aload_n 0, 1) := by decide +kernel
theorem dX10_year_5 : decode cX10_year 5 = .ok (.getfield 7, 3) := by decide +kernel
theorem dX10_year_8 : decode cX10_year 8 = .ok (.bipush 12, 2) := by decide +kernel
theorem dX10_year_10 : decode cX10_year 10 = .ok (.dup2, 1) := by decide +kernel
theorem dX10_year_11 : decode cX10_year 11 = .ok (.iaload, 1) := by decide +kernel
theorem dX10_year_12 : decode cX10_year 12 = .ok (.iconst 1, 1) := by decide +kernel
theorem dX10_year_13 : decode cX10_year 13 = .ok (.iadd, 1) := by decide +kernel
theorem dX10_year_14 : decode cX10_year 14 = .ok (.iastore, 1) := by decide +kernel
theorem dX10_year_15 : decode cX10_year 15 = .ok (.aload_n 0, 1) := by decide +kernel
theorem dX10_year_16 : decode cX10_year 16 = .ok (.getfield 7, 3) := by decide +kernel
theorem dX10_year_19 : decode cX10_year 19 = .ok (.bipush 12, 2) := by decide +kernel
theorem dX10_year_21 : decode cX10_year 21 = .ok (.iaload, 1) := by decide +kernel
theorem dX10_year_22 : decode cX10_year 22 = .ok (.ireturn, 1) := by decide +kernel
theorem dX10_undo_0 : decode cX10_undo 0 = .ok (.aload_n 0, 1) := by decide +kernel
theorem dX10_undo_1 : decode cX10_undo 1 = .ok (.getfield 92, 3) := by decide +kernel
theorem dX10_undo_4 : decode cX10_undo 4 = .ok (.ifCond .ne 6, 3) := by decide +kernel
theorem dX10_undo_7 : decode cX10_undo 7 = .ok (.bipush (-3), 2) := by decide +kernel
theorem dX10_undo_9 : decode cX10_undo 9 = .ok (.ireturn, 1) := by decide +kernel
theorem dX10_undo_10 : decode cX10_undo 10 = .ok (.aload_n 0, 1) := by decide +kernel
theorem dX10_undo_11 : decode cX10_undo 11 = .ok (.dup, 1) := by decide +kernel
theorem dX10_undo_12 : decode cX10_undo 12 = .ok (.getfield 92, 3) := by decide +kernel
theorem dX10_undo_15 : decode cX10_undo 15 = .ok (.iconst 1, 1) := by decide +kernel
theorem dX10_undo_16 : decode cX10_undo 16 = .ok (.isub, 1) := by decide +kernel
theorem dX10_undo_17 : decode cX10_undo 17 = .ok (.putfield 92, 3) := by decide +kernel
theorem dX10_undo_20 : decode cX10_undo 20 = .ok (.aload_n 0, 1) := by decide +kernel
theorem dX10_undo_21 : decode cX10_undo 21 = .ok (.aload_n 0, 1) := by decide +kernel
theorem dX10_undo_22 : decode cX10_undo 22 = .ok (.getfield 149, 3) := by decide +kernel
theorem dX10_undo_25 : decode cX10_undo 25 = .ok (.bipush 15, 2) := by decide +kernel
theorem dX10_undo_27 : decode cX10_undo 27 = .ok (.iadd, 1) := by decide +kernel
theorem dX10_undo_28 : decode cX10_undo 28 = .ok (.bipush 16, 2) := by decide +kernel
theorem dX10_undo_30 : decode cX10_undo 30 = .ok (.irem, 1) := by decide +kernel
theorem dX10_undo_31 : decode cX10_undo 31 = .ok (.putfield 149, 3) := by decide +kernel
theorem dX10_undo_34 : decode cX10_undo 34 = .ok (.iconst 0, 1) := by decide +kernel
theorem dX10_undo_35 : decode cX10_undo 35 = .ok (.istore_n 1, 1) := by decide +kernel
theorem dX10_undo_36 : decode cX10_undo 36 = .ok (.iload_n 1, 1) := by decide +kernel
theorem dX10_undo_37 : decode cX10_undo 37 = .ok (.bipush 14, 2) := by decide +kernel
theorem dX10_undo_39 : decode cX10_undo 39 = .ok (.if_icmp .ge 29, 3) := by decide +kernel
theorem dX10_undo_42 : decode cX10_undo 42 = .ok (.aload_n 0, 1) := by decide +kernel
theorem dX10_undo_43 : decode cX10_undo 43 = .ok (.getfield 7, 3) := by decide +kernel
theorem dX10_undo_46 : decode cX10_undo 46 = .ok (.iload_n 1, 1) := by decide +kernel
theorem dX10_undo_47 : decode cX10_undo 47 = .ok (.aload_n 0, 1) := by decide +kernel
theorem dX10_undo_48 : decode cX10_undo 48 = .ok (.getfield 16, 3) := by decide +kernel
theorem dX10_undo_51 : decode cX10_undo 51 = .ok (.bipush 14, 2) := by decide +kernel
theorem dX10_undo_53 : decode cX10_undo 53 = .ok (.aload_n 0, 1) := by decide +kernel
theorem dX10_undo_54 : decode cX10_undo 54 = .ok (.getfield 149, 3) := by decide +kernel
theorem dX10_undo_57 : decode cX10_undo 57 = .ok (.imul, 1) := by decide +kernel
theorem dX10_undo_58 : decode cX10_undo 58 = .ok (.iload_n 1, 1) := by decide +kernel
theorem dX10_undo_59 : decode cX10_undo 59 = .ok (.iadd, 1) := by decide +kernel
theorem dX10_undo_60 : decode cX10_undo 60 = .ok (.iaload, 1) := by decide +kernel
theorem dX10_undo_61 : decode cX10_undo 61 = .ok (.iastore, 1) := by decide +kernel
theorem dX10_undo_62 : decode cX10_undo 62 = .ok (.iinc 1 1, 3) := by decide +kernel
theorem dX10_undo_65 : decode cX10_undo 65 = .ok (.goto (-29), 3) := by decide +kernel
theorem dX10_undo_68 : decode cX10_undo 68 = .ok (.aload_n 0, 1) := by decide +kernel
theorem dX10_undo_69 : decode cX10_undo 69 = .ok (.getfield 92, 3) := by decide +kernel
theorem dX10_undo_72 : decode cX10_undo 72 = .ok (.ireturn, 1) := by decide +kernel
theorem dX10_can_0 : decode cX10_can 0 = .ok (.iload_n 1, 1) := by decide +kernel
theorem dX10_can_1 : decode cX10_can 1 = .ok (.ifCond .ne 12, 3) := by decide +kernel
theorem dX10_can_4 : decode cX10_can 4 = .ok (.aload_n 0, 1) := by decide +kernel
theorem dX10_can_5 : decode cX10_can 5 = .ok (.iconst 1, 1) := by decide +kernel
theorem dX10_can_6 : decode cX10_can 6 = .ok (.iload_n 2, 1) := by decide +kernel
theorem dX10_can_7 : decode cX10_can 7 = .ok (.invokevirtual 159, 3) := by decide +kernel
theorem dX10_can_10 : decode cX10_can 10 = .ok (.goto 55, 3) := by decide +kernel
theorem dX10_can_13 : decode cX10_can 13 = .ok (.iload_n 1, 1) := by decide +kernel
theorem dX10_can_14 : decode cX10_can 14 = .ok (.iconst 1, 1) := by decide +kernel
theorem dX10_can_15 : decode cX10_can 15 = .ok (.if_icmp .ne 12, 3) := by decide +kernel
theorem dX10_can_18 : decode cX10_can 18 = .ok (.aload_n 0, 1) := by decide +kernel
theorem dX10_can_19 : decode cX10_can 19 = .ok (.iconst 1, 1) := by decide +kernel
theorem dX10_can_20 : decode cX10_can 20 = .ok (.iload_n 2, 1) := by decide +kernel
theorem dX10_can_21 : decode cX10_can 21 = .ok (.invokevirtual 175, 3) := by decide +kernel
theorem dX10_can_24 : decode cX10_can 24 = .ok (.goto 41, 3) := by decide +kernel
theorem dX10_can_27 : decode cX10_can 27 = .ok (.iload_n 1, 1) := by decide +kernel
theorem dX10_can_28 : decode cX10_can 28 = .ok (.iconst 2, 1) := by decide +kernel
theorem dX10_can_29 : decode cX10_can 29 = .ok (.if_icmp .ne 12, 3) := by decide +kernel
theorem dX10_can_32 : decode cX10_can 32 = .ok (.aload_n 0, 1) := by decide +kernel
theorem dX10_can_33 : decode cX10_can 33 = .ok (.iconst 1, 1) := by decide +kernel
theorem dX10_can_34 : decode cX10_can 34 = .ok (.iload_n 2, 1) := by decide +kernel
theorem dX10_can_35 : decode cX10_can 35 = .ok (.invokevirtual 169, 3) := by decide +kernel
theorem dX10_can_38 : decode cX10_can 38 = .ok (.goto 27, 3) := by decide +kernel
theorem dX10_can_41 : decode cX10_can 41 = .ok (.iload_n 1, 1) := by decide +kernel
theorem dX10_can_42 : decode cX10_can 42 = .ok (.iconst 3, 1) := by decide +kernel
theorem dX10_can_43 : decode cX10_can 43 = .ok (.if_icmp .ne 21, 3) := by decide +kernel
theorem dX10_can_46 : decode cX10_can 46 = .ok (.aload_n 0, 1) := by decide +kernel
theorem dX10_can_47 : decode cX10_can 47 = .ok (.getfield 7, 3) := by decide +kernel
theorem dX10_can_50 : decode cX10_can 50 = .ok (.bipush 22, 2) := by decide +kernel
theorem dX10_can_52 : decode cX10_can 52 = .ok (.iaload, 1) := by decide +kernel
theorem dX10_can_53 : decode cX10_can 53 = .ok (.iload_n 2, 1) := by decide +kernel
theorem dX10_can_54 : decode cX10_can 54 = .ok (.invokestatic 108, 3) := by decide +kernel
theorem dX10_can_57 : decode cX10_can 57 = .ok (.ifCond .ne 7, 3) := by decide +kernel
theorem dX10_can_60 : decode cX10_can 60 = .ok (.iconst 1, 1) := by decide +kernel
theorem dX10_can_61 : decode cX10_can 61 = .ok (.goto 4, 3) := by decide +kernel
theorem dX10_can_64 : decode cX10_can 64 = .ok (.iconst 0, 1) := by decide +kernel
theorem dX10_can_65 : decode cX10_can 65 = .ok (.ireturn, 1) := by decide +kernel
theorem dX10_make_0 : decode cX10_make 0 = .ok (.iload_n 1, 1) := by decide +kernel
theorem dX10_make_1 : decode cX10_make 1 = .ok (.ifCond .ne 19, 3) := by decide +kernel
theorem dX10_make_4 : decode cX10_make 4 = .ok (.aload_n 0, 1) := by decide +kernel
theorem dX10_make_5 : decode cX10_make 5 = .ok (.getfield 7, 3) := by decide +kernel
theorem dX10_make_8 : decode cX10_make 8 = .ok (.bipush 22, 2) := by decide +kernel
theorem dX10_make_10 : decode cX10_make 10 = .ok (.dup2, 1) := by decide +kernel
theorem dX10_make_11 : decode cX10_make 11 = .ok (.iaload, 1) := by decide +kernel
theorem dX10_make_12 : decode cX10_make 12 = .ok (.iconst 1, 1) := by decide +kernel
theorem dX10_make_13 : decode cX10_make 13 = .ok (.iload_n 2, 1) := by decide +kernel
theorem dX10_make_14 : decode cX10_make 14 = .ok (.ishl, 1) := by decide +kernel
theorem dX10_make_15 : decode cX10_make 15 = .ok (.ior, 1) := by decide +kernel
theorem dX10_make_16 : decode cX10_make 16 = .ok (.iastore, 1) := by decide +kernel
theorem dX10_make_17 : decode cX10_make 17 = .ok (.goto 44, 3) := by decide +kernel
theorem dX10_make_20 : decode cX10_make 20 = .ok (.iload_n 1, 1) := by decide +kernel
theorem dX10_make_21 : decode cX10_make 21 = .ok (.iconst 1, 1) := by decide +kernel
theorem dX10_make_22 : decode cX10_make 22 = .ok (.if_icmp .ne 19, 3) := by decide +kernel
theorem dX10_make_25 : decode cX10_make 25 = .ok (.aload_n 0, 1) := by decide +kernel
theorem dX10_make_26 : decode cX10_make 26 = .ok (.getfield 7, 3) := by decide +kernel
theorem dX10_make_29 : decode cX10_make 29 = .ok (.bipush 24, 2) := by decide +kernel
theorem dX10_make_31 : decode cX10_make 31 = .ok (.dup2, 1) := by decide +kernel
theorem dX10_make_32 : decode cX10_make 32 = .ok (.iaload, 1) := by decide +kernel
theorem dX10_make_33 : decode cX10_make 33 = .ok (.iconst 1, 1) := by decide +kernel
theorem dX10_make_34 : decode cX10_make 34 = .ok (.iload_n 2, 1) := by decide +kernel
theorem dX10_make_35 : decode cX10_make 35 = .ok (.ishl, 1) := by decide +kernel
theorem dX10_make_36 : decode cX10_make 36 = .ok (.ior, 1) := by decide +kernel
theorem dX10_make_37 : decode cX10_make 37 = .ok (.iastore, 1) := by decide +kernel
theorem dX10_make_38 : decode cX10_make 38 = .ok (.goto 23, 3) := by decide +kernel
theorem dX10_make_41 : decode cX10_make 41 = .ok (.iload_n 1, 1) := by decide +kernel
theorem dX10_make_42 : decode cX10_make 42 = .ok (.iconst 2, 1) := by decide +kernel
theorem dX10_make_43 : decode cX10_make 43 = .ok (.if_icmp .ne 12, 3) := by decide +kernel
theorem dX10_make_46 : decode cX10_make 46 = .ok (.aload_n 0, 1) := by decide +kernel
theorem dX10_make_47 : decode cX10_make 47 = .ok (.iconst 1, 1) := by decide +kernel
theorem dX10_make_48 : decode cX10_make 48 = .ok (.iload_n 2, 1) := by decide +kernel
theorem dX10_make_49 : decode cX10_make 49 = .ok (.invokevirtual 172, 3) := by decide +kernel
theorem dX10_make_52 : decode cX10_make 52 = .ok (.goto 9, 3) := by decide +kernel
theorem dX10_make_55 : decode cX10_make 55 = .ok (.aload_n 0, 1) := by decide +kernel
theorem dX10_make_56 : decode cX10_make 56 = .ok (.iconst 1, 1) := by decide +kernel
theorem dX10_make_57 : decode cX10_make 57 = .ok (.iload_n 2, 1) := by decide +kernel
theorem dX10_make_58 : decode cX10_make 58 = .ok (.invokevirtual 178, 3) := by decide +kernel
theorem dX10_make_61 : decode cX10_make 61 = .ok (.return_, 1) := by decide +kernel
theorem dX10_judge_0 : decode cX10_judge 0 = .ok (.iload_n 1, 1) := by decide +kernel
theorem dX10_judge_1 : decode cX10_judge 1 = .ok (.i2l, 1) := by decide +kernel
theorem dX10_judge_2 : decode cX10_judge 2 = .ok (.lconst 1, 1) := by decide +kernel
theorem dX10_judge_3 : decode cX10_judge 3 = .ok (.ldc2_w 181, 3) := by decide +kernel
theorem dX10_judge_6 : decode cX10_judge 6 = .ok (.invokestatic 58, 3) := by decide +kernel
theorem dX10_judge_9 : decode cX10_judge 9 = .ok (.ifCond .eq 21, 3) := by decide +kernel
theorem dX10_judge_12 : decode cX10_judge 12 = .ok (.iload_n 2, 1) := by decide +kernel
theorem dX10_judge_13 : decode cX10_judge 13 = .ok (.i2l, 1) := by decide +kernel
theorem dX10_judge_14 : decode cX10_judge 14 = .ok (.lconst 0, 1) := by decide +kernel
theorem dX10_judge_15 : decode cX10_judge 15 = .ok (.iconst 2, 1) := by decide +kernel
theorem dX10_judge_16 : decode cX10_judge 16 = .ok (.iload_n 1, 1) := by decide +kernel
theorem dX10_judge_17 : decode cX10_judge 17 = .ok (.imul, 1) := by decide +kernel
theorem dX10_judge_18 : decode cX10_judge 18 = .ok (.invokestatic 98, 3) := by decide +kernel
theorem dX10_judge_21 : decode cX10_judge 21 = .ok (.iconst 1, 1) := by decide +kernel
theorem dX10_judge_22 : decode cX10_judge 22 = .ok (.isub, 1) := by decide +kernel
theorem dX10_judge_23 : decode cX10_judge 23 = .ok (.i2l, 1) := by decide +kernel
theorem dX10_judge_24 : decode cX10_judge 24 = .ok (.invokestatic 58, 3) := by decide +kernel
theorem dX10_judge_27 : decode cX10_judge 27 = .ok (.ifCond .ne 6, 3) := by decide +kernel
theorem dX10_judge_30 : decode cX10_judge 30 = .ok (.bipush (-2), 2) := by decide +kernel
theorem dX10_judge_32 : decode cX10_judge 32 = .ok (.ireturn, 1) := by decide +kernel
theorem dX10_judge_33 : decode cX10_judge 33 = .ok (.iconst 0, 1) := by decide +kernel
theorem dX10_judge_34 : decode cX10_judge 34 = .ok (.istore_n 3, 1) := by decide +kernel
theorem dX10_judge_35 : decode cX10_judge 35 = .ok (.iload_n 3, 1) := by decide +kernel
theorem dX10_judge_36 : decode cX10_judge 36 = .ok (.bipush 14, 2) := by decide +kernel
theorem dX10_judge_38 : decode cX10_judge 38 = .ok (.if_icmp .ge 24, 3) := by decide +kernel
theorem dX10_judge_41 : decode cX10_judge 41 = .ok (.aload_n 0, 1) := by decide +kernel
theorem dX10_judge_42 : decode cX10_judge 42 = .ok (.getfield 7, 3) := by decide +kernel
theorem dX10_judge_45 : decode cX10_judge 45 = .ok (.bipush 14, 2) := by decide +kernel
theorem dX10_judge_47 : decode cX10_judge 47 = .ok (.iload_n 3, 1) := by decide +kernel
theorem dX10_judge_48 : decode cX10_judge 48 = .ok (.iadd, 1) := by decide +kernel
theorem dX10_judge_49 : decode cX10_judge 49 = .ok (.aload_n 0, 1) := by decide +kernel
theorem dX10_judge_50 : decode cX10_judge 50 = .ok (.getfield 7, 3) := by decide +kernel
theorem dX10_judge_53 : decode cX10_judge 53 = .ok (.iload_n 3, 1) := by decide +kernel
theorem dX10_judge_54 : decode cX10_judge 54 = .ok (.iaload, 1) := by decide +kernel
theorem dX10_judge_55 : decode cX10_judge 55 = .ok (.iastore, 1) := by decide +kernel
theorem dX10_judge_56 : decode cX10_judge 56 = .ok (.iinc 3 1, 3) := by decide +kernel
theorem dX10_judge_59 : decode cX10_judge 59 = .ok (.goto (-24), 3) := by decide +kernel
theorem dX10_judge_62 : decode cX10_judge 62 = .ok (.iconst 0, 1) := by decide +kernel
theorem dX10_judge_63 : decode cX10_judge 63 = .ok (.istore_n 3, 1) := by decide +kernel
theorem dX10_judge_64 : decode cX10_judge 64 = .ok (.iload_n 3, 1) := by decide +kernel
theorem dX10_judge_65 : decode cX10_judge 65 = .ok (.iload_n 1, 1) := by decide +kernel
theorem dX10_judge_66 : decode cX10_judge 66 = .ok (.if_icmp .ge 73, 3) := by decide +kernel
theorem dX10_judge_69 : decode cX10_judge 69 = .ok (.iload_n 2, 1) := by decide +kernel
theorem dX10_judge_70 : decode cX10_judge 70 = .ok (.iconst 2, 1) := by decide +kernel
theorem dX10_judge_71 : decode cX10_judge 71 = .ok (.iload_n 1, 1) := by decide +kernel
theorem dX10_judge_72 : decode cX10_judge 72 = .ok (.iload_n 3, 1) := by decide +kernel
theorem dX10_judge_73 : decode cX10_judge 73 = .ok (.isub, 1) := by decide +kernel
theorem dX10_judge_74 : decode cX10_judge 74 = .ok (.imul, 1) := by decide +kernel
theorem dX10_judge_75 : decode cX10_judge 75 = .ok (.iconst 1, 1) := by decide +kernel
theorem dX10_judge_76 : decode cX10_judge 76 = .ok (.isub, 1) := by decide +kernel
theorem dX10_judge_77 : decode cX10_judge 77 = .ok (.invokestatic 98, 3) := by decide +kernel
theorem dX10_judge_80 : decode cX10_judge 80 = .ok (.idiv, 1) := by decide +kernel
theorem dX10_judge_81 : decode cX10_judge 81 = .ok (.bipush 10, 2) := by decide +kernel
theorem dX10_judge_83 : decode cX10_judge 83 = .ok (.irem, 1) := by decide +kernel
theorem dX10_judge_84 : decode cX10_judge 84 = .ok (.istore 4, 2) := by decide +kernel
theorem dX10_judge_86 : decode cX10_judge 86 = .ok (.iload_n 2, 1) := by decide +kernel
theorem dX10_judge_87 : decode cX10_judge 87 = .ok (.iconst 2, 1) := by decide +kernel
theorem dX10_judge_88 : decode cX10_judge 88 = .ok (.iload_n 1, 1) := by decide +kernel
theorem dX10_judge_89 : decode cX10_judge 89 = .ok (.iload_n 3, 1) := by decide +kernel
theorem dX10_judge_90 : decode cX10_judge 90 = .ok (.isub, 1) := by decide +kernel
theorem dX10_judge_91 : decode cX10_judge 91 = .ok (.imul, 1) := by decide +kernel
theorem dX10_judge_92 : decode cX10_judge 92 = .ok (.iconst 2, 1) := by decide +kernel
theorem dX10_judge_93 : decode cX10_judge 93 = .ok (.isub, 1) := by decide +kernel
theorem dX10_judge_94 : decode cX10_judge 94 = .ok (.invokestatic 98, 3) := by decide +kernel
theorem dX10_judge_97 : decode cX10_judge 97 = .ok (.idiv, 1) := by decide +kernel
theorem dX10_judge_98 : decode cX10_judge 98 = .ok (.bipush 10, 2) := by decide +kernel
theorem dX10_judge_100 : decode cX10_judge 100 = .ok (.irem, 1) := by decide +kernel
theorem dX10_judge_101 : decode cX10_judge 101 = .ok (.istore 5, 2) := by decide +kernel
theorem dX10_judge_103 : decode cX10_judge 103 = .ok (.aload_n 0, 1) := by decide +kernel
theorem dX10_judge_104 : decode cX10_judge 104 = .ok (.iload 5, 2) := by decide +kernel
theorem dX10_judge_106 : decode cX10_judge 106 = .ok (.invokevirtual 128, 3) := by decide +kernel
theorem dX10_judge_109 : decode cX10_judge 109 = .ok (.ifCond .eq 14, 3) := by decide +kernel
theorem dX10_judge_112 : decode cX10_judge 112 = .ok (.aload_n 0, 1) := by decide +kernel
theorem dX10_judge_113 : decode cX10_judge 113 = .ok (.iload 4, 2) := by decide +kernel
theorem dX10_judge_115 : decode cX10_judge 115 = .ok (.iload 5, 2) := by decide +kernel
theorem dX10_judge_117 : decode cX10_judge 117 = .ok (.invokevirtual 183, 3) := by decide +kernel
theorem dX10_judge_120 : decode cX10_judge 120 = .ok (.ifCond .ne 5, 3) := by decide +kernel
theorem dX10_judge_123 : decode cX10_judge 123 = .ok (.iload_n 3, 1) := by decide +kernel
theorem dX10_judge_124 : decode cX10_judge 124 = .ok (.ireturn, 1) := by decide +kernel
theorem dX10_judge_125 : decode cX10_judge 125 = .ok (.aload_n 0, 1) := by decide +kernel
theorem dX10_judge_126 : decode cX10_judge 126 = .ok (.iload 4, 2) := by decide +kernel
theorem dX10_judge_128 : decode cX10_judge 128 = .ok (.iload 5, 2) := by decide +kernel
theorem dX10_judge_130 : decode cX10_judge 130 = .ok (.invokevirtual 186, 3) := by decide +kernel
theorem dX10_judge_133 : decode cX10_judge 133 = .ok (.iinc 3 1, 3) := by decide +kernel
theorem dX10_judge_136 : decode cX10_judge 136 = .ok (.goto (-72), 3) := by decide +kernel
theorem dX10_judge_139 : decode cX10_judge 139 = .ok (.bipush (-9), 2) := by decide +kernel
theorem dX10_judge_141 : decode cX10_judge 141 = .ok (.ireturn, 1) := by decide +kernel
theorem dX10_apart_0 : decode cX10_apart 0 = .ok (.iload_n 0, 1) := by decide +kernel
theorem dX10_apart_1 : decode cX10_apart 1 = .ok (.iload_n 1, 1) := by decide +kernel
theorem dX10_apart_2 : decode cX10_apart 2 = .ok (.if_icmp .ge 9, 3) := by decide +kernel
theorem dX10_apart_5 : decode cX10_apart 5 = .ok (.iload_n 1, 1) := by decide +kernel
theorem dX10_apart_6 : decode cX10_apart 6 = .ok (.iload_n 0, 1) := by decide +kernel
theorem dX10_apart_7 : decode cX10_apart 7 = .ok (.isub, 1) := by decide +kernel
theorem dX10_apart_8 : decode cX10_apart 8 = .ok (.goto 6, 3) := by decide +kernel
theorem dX10_apart_11 : decode cX10_apart 11 = .ok (.iload_n 0, 1) := by decide +kernel
theorem dX10_apart_12 : decode cX10_apart 12 = .ok (.iload_n 1, 1) := by decide +kernel
theorem dX10_apart_13 : decode cX10_apart 13 = .ok (.isub, 1) := by decide +kernel
theorem dX10_apart_14 : decode cX10_apart 14 = .ok (.ireturn, 1) := by decide +kernel
theorem dX10_costBy_0 : decode cX10_costBy 0 = .ok (.aload_n 0, 1) := by decide +kernel
theorem dX10_costBy_1 : decode cX10_costBy 1 = .ok (.iload_n 1, 1) := by decide +kernel
theorem dX10_costBy_2 : decode cX10_costBy 2 = .ok (.aload_n 0, 1) := by decide +kernel
theorem dX10_costBy_3 : decode cX10_costBy 3 = .ok (.iconst 0, 1) := by decide +kernel
theorem dX10_costBy_4 : decode cX10_costBy 4 = .ok (.invokevirtual 122, 3) := by decide +kernel
theorem dX10_costBy_7 : decode cX10_costBy 7 = .ok (.iload_n 2, 1) := by decide +kernel
theorem dX10_costBy_8 : decode cX10_costBy 8 = .ok (.invokevirtual 118, 3) := by decide +kernel
theorem dX10_costBy_11 : decode cX10_costBy 11 = .ok (.istore_n 3, 1) := by decide +kernel
theorem dX10_costBy_12 : decode cX10_costBy 12 = .ok (.iload_n 3, 1) := by decide +kernel
theorem dX10_costBy_13 : decode cX10_costBy 13 = .ok (.aload_n 0, 1) := by decide +kernel
theorem dX10_costBy_14 : decode cX10_costBy 14 = .ok (.getfield 7, 3) := by decide +kernel
theorem dX10_costBy_17 : decode cX10_costBy 17 = .ok (.bipush 10, 2) := by decide +kernel
theorem dX10_costBy_19 : decode cX10_costBy 19 = .ok (.iaload, 1) := by decide +kernel
theorem dX10_costBy_20 : decode cX10_costBy 20 = .ok (.iand, 1) := by decide +kernel
theorem dX10_costBy_21 : decode cX10_costBy 21 = .ok (.ifCond .eq 6, 3) := by decide +kernel
theorem dX10_costBy_24 : decode cX10_costBy 24 = .ok (.bipush (-9), 2) := by decide +kernel
theorem dX10_costBy_26 : decode cX10_costBy 26 = .ok (.ireturn, 1) := by decide +kernel
theorem dX10_costBy_27 : decode cX10_costBy 27 = .ok (.iconst 3, 1) := by decide +kernel
theorem dX10_costBy_28 : decode cX10_costBy 28 = .ok (.iload_n 2, 1) := by decide +kernel
theorem dX10_costBy_29 : decode cX10_costBy 29 = .ok (.aload_n 0, 1) := by decide +kernel
theorem dX10_costBy_30 : decode cX10_costBy 30 = .ok (.getfield 7, 3) := by decide +kernel
theorem dX10_costBy_33 : decode cX10_costBy 33 = .ok (.bipush 11, 2) := by decide +kernel
theorem dX10_costBy_35 : decode cX10_costBy 35 = .ok (.iaload, 1) := by decide +kernel
theorem dX10_costBy_36 : decode cX10_costBy 36 = .ok (.invokestatic 189, 3) := by decide +kernel
theorem dX10_costBy_39 : decode cX10_costBy 39 = .ok (.imul, 1) := by decide +kernel
theorem dX10_costBy_40 : decode cX10_costBy 40 = .ok (.istore 4, 2) := by decide +kernel
theorem dX10_costBy_42 : decode cX10_costBy 42 = .ok (.iconst 0, 1) := by decide +kernel
end
section
theorem dX10_costBy_43 : decode cX10_costBy 43 = .ok (.istore 5, 2) := by decide +kernel
theorem dX10_costBy_45 : decode cX10_costBy 45 = .ok (.iload 5, 2) := by decide +kernel
theorem dX10_costBy_47 : decode cX10_costBy 47 = .ok (.aload_n 0, 1) := by decide +kernel
theorem dX10_costBy_48 : decode cX10_costBy 48 = .ok (.invokevirtual 105, 3) := by decide +kernel
theorem dX10_costBy_51 : decode cX10_costBy 51 = .ok (.if_icmp .ge 42, 3) := by decide +kernel
theorem dX10_costBy_54 : decode cX10_costBy 54 = .ok (.iload 4, 2) := by decide +kernel
theorem dX10_costBy_56 : decode cX10_costBy 56 = .ok (.iload_n 3, 1) := by decide +kernel
theorem dX10_costBy_57 : decode cX10_costBy 57 = .ok (.iload 5, 2) := by decide +kernel
theorem dX10_costBy_59 : decode cX10_costBy 59 = .ok (.invokestatic 108, 3) := by decide +kernel
theorem dX10_costBy_62 : decode cX10_costBy 62 = .ok (.ifCond .eq 21, 3) := by decide +kernel
theorem dX10_costBy_65 : decode cX10_costBy 65 = .ok (.aload_n 0, 1) := by decide +kernel
theorem dX10_costBy_66 : decode cX10_costBy 66 = .ok (.iload 5, 2) := by decide +kernel
theorem dX10_costBy_68 : decode cX10_costBy 68 = .ok (.invokevirtual 137, 3) := by decide +kernel
theorem dX10_costBy_71 : decode cX10_costBy 71 = .ok (.iconst 5, 1) := by decide +kernel
theorem dX10_costBy_72 : decode cX10_costBy 72 = .ok (.aload_n 0, 1) := by decide +kernel
theorem dX10_costBy_73 : decode cX10_costBy 73 = .ok (.iload 5, 2) := by decide +kernel
theorem dX10_costBy_75 : decode cX10_costBy 75 = .ok (.invokevirtual 140, 3) := by decide +kernel
theorem dX10_costBy_78 : decode cX10_costBy 78 = .ok (.imul, 1) := by decide +kernel
theorem dX10_costBy_79 : decode cX10_costBy 79 = .ok (.iadd, 1) := by decide +kernel
theorem dX10_costBy_80 : decode cX10_costBy 80 = .ok (.goto 4, 3) := by decide +kernel
theorem dX10_costBy_83 : decode cX10_costBy 83 = .ok (.iconst 0, 1) := by decide +kernel
theorem dX10_costBy_84 : decode cX10_costBy 84 = .ok (.iadd, 1) := by decide +kernel
theorem dX10_costBy_85 : decode cX10_costBy 85 = .ok (.istore 4, 2) := by decide +kernel
theorem dX10_costBy_87 : decode cX10_costBy 87 = .ok (.iinc 5 1, 3) := by decide +kernel
theorem dX10_costBy_90 : decode cX10_costBy 90 = .ok (.goto (-45), 3) := by decide +kernel
theorem dX10_costBy_93 : decode cX10_costBy 93 = .ok (.iload 4, 2) := by decide +kernel
theorem dX10_costBy_95 : decode cX10_costBy 95 = .ok (.ireturn, 1) := by decide +kernel
theorem dX10_campaignWord_0 : decode cX10_campaignWord 0 = .ok (.bipush (-9), 2) := by decide +kernel
theorem dX10_campaignWord_2 : decode cX10_campaignWord 2 = .ok (.istore_n 2, 1) := by decide +kernel
theorem dX10_campaignWord_3 : decode cX10_campaignWord 3 = .ok (.iconst 1, 1) := by decide +kernel
theorem dX10_campaignWord_4 : decode cX10_campaignWord 4 = .ok (.istore_n 3, 1) := by decide +kernel
theorem dX10_campaignWord_5 : decode cX10_campaignWord 5 = .ok (.iload_n 3, 1) := by decide +kernel
theorem dX10_campaignWord_6 : decode cX10_campaignWord 6 = .ok (.iconst 5, 1) := by decide +kernel
theorem dX10_campaignWord_7 : decode cX10_campaignWord 7 = .ok (.if_icmp .ge 47, 3) := by decide +kernel
theorem dX10_campaignWord_10 : decode cX10_campaignWord 10 = .ok (.aload_n 0, 1) := by decide +kernel
theorem dX10_campaignWord_11 : decode cX10_campaignWord 11 = .ok (.iload_n 1, 1) := by decide +kernel
theorem dX10_campaignWord_12 : decode cX10_campaignWord 12 = .ok (.iload_n 3, 1) := by decide +kernel
theorem dX10_campaignWord_13 : decode cX10_campaignWord 13 = .ok (.invokevirtual 192, 3) := by decide +kernel
theorem dX10_campaignWord_16 : decode cX10_campaignWord 16 = .ok (.istore 4, 2) := by decide +kernel
theorem dX10_campaignWord_18 : decode cX10_campaignWord 18 = .ok (.iload 4, 2) := by decide +kernel
theorem dX10_campaignWord_20 : decode cX10_campaignWord 20 = .ok (.bipush (-9), 2) := by decide +kernel
theorem dX10_campaignWord_22 : decode cX10_campaignWord 22 = .ok (.if_icmp .eq 24, 3) := by decide +kernel
theorem dX10_campaignWord_25 : decode cX10_campaignWord 25 = .ok (.iload_n 2, 1) := by decide +kernel
theorem dX10_campaignWord_26 : decode cX10_campaignWord 26 = .ok (.bipush (-9), 2) := by decide +kernel
theorem dX10_campaignWord_28 : decode cX10_campaignWord 28 = .ok (.if_icmp .eq 14, 3) := by decide +kernel
theorem dX10_campaignWord_31 : decode cX10_campaignWord 31 = .ok (.iload 4, 2) := by decide +kernel
theorem dX10_campaignWord_33 : decode cX10_campaignWord 33 = .ok (.aload_n 0, 1) := by decide +kernel
theorem dX10_campaignWord_34 : decode cX10_campaignWord 34 = .ok (.iload_n 1, 1) := by decide +kernel
theorem dX10_campaignWord_35 : decode cX10_campaignWord 35 = .ok (.iload_n 2, 1) := by decide +kernel
theorem dX10_campaignWord_36 : decode cX10_campaignWord 36 = .ok (.invokevirtual 192, 3) := by decide +kernel
theorem dX10_campaignWord_39 : decode cX10_campaignWord 39 = .ok (.if_icmp .ge 7, 3) := by decide +kernel
theorem dX10_campaignWord_42 : decode cX10_campaignWord 42 = .ok (.iload_n 3, 1) := by decide +kernel
theorem dX10_campaignWord_43 : decode cX10_campaignWord 43 = .ok (.goto 4, 3) := by decide +kernel
theorem dX10_campaignWord_46 : decode cX10_campaignWord 46 = .ok (.iload_n 2, 1) := by decide +kernel
theorem dX10_campaignWord_47 : decode cX10_campaignWord 47 = .ok (.istore_n 2, 1) := by decide +kernel
theorem dX10_campaignWord_48 : decode cX10_campaignWord 48 = .ok (.iinc 3 1, 3) := by decide +kernel
theorem dX10_campaignWord_51 : decode cX10_campaignWord 51 = .ok (.goto (-46), 3) := by decide +kernel
theorem dX10_campaignWord_54 : decode cX10_campaignWord 54 = .ok (.iload_n 2, 1) := by decide +kernel
theorem dX10_campaignWord_55 : decode cX10_campaignWord 55 = .ok (.ireturn, 1) := by decide +kernel
theorem dX10_campaign_0 : decode cX10_campaign 0 = .ok (.aload_n 0, 1) := by decide +kernel
theorem dX10_campaign_1 : decode cX10_campaign 1 = .ok (.iload_n 1, 1) := by decide +kernel
theorem dX10_campaign_2 : decode cX10_campaign 2 = .ok (.invokevirtual 128, 3) := by decide +kernel
theorem dX10_campaign_5 : decode cX10_campaign 5 = .ok (.ifCond .ne 5, 3) := by decide +kernel
theorem dX10_campaign_8 : decode cX10_campaign 8 = .ok (.iconst (-1), 1) := by decide +kernel
theorem dX10_campaign_9 : decode cX10_campaign 9 = .ok (.ireturn, 1) := by decide +kernel
theorem dX10_campaign_10 : decode cX10_campaign 10 = .ok (.aload_n 0, 1) := by decide +kernel
theorem dX10_campaign_11 : decode cX10_campaign 11 = .ok (.iconst 0, 1) := by decide +kernel
theorem dX10_campaign_12 : decode cX10_campaign 12 = .ok (.invokevirtual 122, 3) := by decide +kernel
theorem dX10_campaign_15 : decode cX10_campaign 15 = .ok (.iload_n 1, 1) := by decide +kernel
theorem dX10_campaign_16 : decode cX10_campaign 16 = .ok (.invokestatic 108, 3) := by decide +kernel
theorem dX10_campaign_19 : decode cX10_campaign 19 = .ok (.ifCond .ne 6, 3) := by decide +kernel
theorem dX10_campaign_22 : decode cX10_campaign 22 = .ok (.bipush (-3), 2) := by decide +kernel
theorem dX10_campaign_24 : decode cX10_campaign 24 = .ok (.ireturn, 1) := by decide +kernel
theorem dX10_campaign_25 : decode cX10_campaign 25 = .ok (.aload_n 0, 1) := by decide +kernel
theorem dX10_campaign_26 : decode cX10_campaign 26 = .ok (.iload_n 1, 1) := by decide +kernel
theorem dX10_campaign_27 : decode cX10_campaign 27 = .ok (.invokevirtual 195, 3) := by decide +kernel
theorem dX10_campaign_30 : decode cX10_campaign 30 = .ok (.istore_n 2, 1) := by decide +kernel
theorem dX10_campaign_31 : decode cX10_campaign 31 = .ok (.iload_n 2, 1) := by decide +kernel
theorem dX10_campaign_32 : decode cX10_campaign 32 = .ok (.bipush (-9), 2) := by decide +kernel
theorem dX10_campaign_34 : decode cX10_campaign 34 = .ok (.if_icmp .ne 8, 3) := by decide +kernel
theorem dX10_campaign_37 : decode cX10_campaign 37 = .ok (.bipush (-9), 2) := by decide +kernel
theorem dX10_campaign_39 : decode cX10_campaign 39 = .ok (.goto 9, 3) := by decide +kernel
theorem dX10_campaign_42 : decode cX10_campaign 42 = .ok (.aload_n 0, 1) := by decide +kernel
theorem dX10_campaign_43 : decode cX10_campaign 43 = .ok (.iload_n 1, 1) := by decide +kernel
theorem dX10_campaign_44 : decode cX10_campaign 44 = .ok (.iload_n 2, 1) := by decide +kernel
theorem dX10_campaign_45 : decode cX10_campaign 45 = .ok (.invokevirtual 192, 3) := by decide +kernel
theorem dX10_campaign_48 : decode cX10_campaign 48 = .ok (.ireturn, 1) := by decide +kernel
theorem dX10_campaignBy_0 : decode cX10_campaignBy 0 = .ok (.aload_n 0, 1) := by decide +kernel
theorem dX10_campaignBy_1 : decode cX10_campaignBy 1 = .ok (.iload_n 1, 1) := by decide +kernel
theorem dX10_campaignBy_2 : decode cX10_campaignBy 2 = .ok (.invokevirtual 128, 3) := by decide +kernel
theorem dX10_campaignBy_5 : decode cX10_campaignBy 5 = .ok (.ifCond .ne 5, 3) := by decide +kernel
theorem dX10_campaignBy_8 : decode cX10_campaignBy 8 = .ok (.iconst (-1), 1) := by decide +kernel
theorem dX10_campaignBy_9 : decode cX10_campaignBy 9 = .ok (.ireturn, 1) := by decide +kernel
theorem dX10_campaignBy_10 : decode cX10_campaignBy 10 = .ok (.iload_n 2, 1) := by decide +kernel
theorem dX10_campaignBy_11 : decode cX10_campaignBy 11 = .ok (.i2l, 1) := by decide +kernel
theorem dX10_campaignBy_12 : decode cX10_campaignBy 12 = .ok (.lconst 0, 1) := by decide +kernel
theorem dX10_campaignBy_13 : decode cX10_campaignBy 13 = .ok (.lconst 1, 1) := by decide +kernel
theorem dX10_campaignBy_14 : decode cX10_campaignBy 14 = .ok (.invokestatic 58, 3) := by decide +kernel
theorem dX10_campaignBy_17 : decode cX10_campaignBy 17 = .ok (.ifCond .ne 6, 3) := by decide +kernel
theorem dX10_campaignBy_20 : decode cX10_campaignBy 20 = .ok (.bipush (-2), 2) := by decide +kernel
theorem dX10_campaignBy_22 : decode cX10_campaignBy 22 = .ok (.ireturn, 1) := by decide +kernel
theorem dX10_campaignBy_23 : decode cX10_campaignBy 23 = .ok (.aload_n 0, 1) := by decide +kernel
theorem dX10_campaignBy_24 : decode cX10_campaignBy 24 = .ok (.iconst 0, 1) := by decide +kernel
theorem dX10_campaignBy_25 : decode cX10_campaignBy 25 = .ok (.invokevirtual 122, 3) := by decide +kernel
theorem dX10_campaignBy_28 : decode cX10_campaignBy 28 = .ok (.iload_n 1, 1) := by decide +kernel
theorem dX10_campaignBy_29 : decode cX10_campaignBy 29 = .ok (.invokestatic 108, 3) := by decide +kernel
theorem dX10_campaignBy_32 : decode cX10_campaignBy 32 = .ok (.ifCond .ne 6, 3) := by decide +kernel
theorem dX10_campaignBy_35 : decode cX10_campaignBy 35 = .ok (.bipush (-3), 2) := by decide +kernel
theorem dX10_campaignBy_37 : decode cX10_campaignBy 37 = .ok (.ireturn, 1) := by decide +kernel
theorem dX10_campaignBy_38 : decode cX10_campaignBy 38 = .ok (.aload_n 0, 1) := by decide +kernel
theorem dX10_campaignBy_39 : decode cX10_campaignBy 39 = .ok (.iload_n 1, 1) := by decide +kernel
theorem dX10_campaignBy_40 : decode cX10_campaignBy 40 = .ok (.invokevirtual 195, 3) := by decide +kernel
theorem dX10_campaignBy_43 : decode cX10_campaignBy 43 = .ok (.istore_n 3, 1) := by decide +kernel
theorem dX10_campaignBy_44 : decode cX10_campaignBy 44 = .ok (.iload_n 3, 1) := by decide +kernel
theorem dX10_campaignBy_45 : decode cX10_campaignBy 45 = .ok (.bipush (-9), 2) := by decide +kernel
theorem dX10_campaignBy_47 : decode cX10_campaignBy 47 = .ok (.if_icmp .ne 8, 3) := by decide +kernel
theorem dX10_campaignBy_50 : decode cX10_campaignBy 50 = .ok (.bipush (-9), 2) := by decide +kernel
theorem dX10_campaignBy_52 : decode cX10_campaignBy 52 = .ok (.goto 22, 3) := by decide +kernel
theorem dX10_campaignBy_55 : decode cX10_campaignBy 55 = .ok (.iload_n 2, 1) := by decide +kernel
theorem dX10_campaignBy_56 : decode cX10_campaignBy 56 = .ok (.ifCond .ne 7, 3) := by decide +kernel
theorem dX10_campaignBy_59 : decode cX10_campaignBy 59 = .ok (.iload_n 3, 1) := by decide +kernel
theorem dX10_campaignBy_60 : decode cX10_campaignBy 60 = .ok (.goto 14, 3) := by decide +kernel
theorem dX10_campaignBy_63 : decode cX10_campaignBy 63 = .ok (.aload_n 0, 1) := by decide +kernel
theorem dX10_campaignBy_64 : decode cX10_campaignBy 64 = .ok (.iload_n 1, 1) := by decide +kernel
theorem dX10_campaignBy_65 : decode cX10_campaignBy 65 = .ok (.aload_n 0, 1) := by decide +kernel
theorem dX10_campaignBy_66 : decode cX10_campaignBy 66 = .ok (.iconst 0, 1) := by decide +kernel
theorem dX10_campaignBy_67 : decode cX10_campaignBy 67 = .ok (.invokevirtual 122, 3) := by decide +kernel
theorem dX10_campaignBy_70 : decode cX10_campaignBy 70 = .ok (.iload_n 3, 1) := by decide +kernel
theorem dX10_campaignBy_71 : decode cX10_campaignBy 71 = .ok (.invokevirtual 118, 3) := by decide +kernel
theorem dX10_campaignBy_74 : decode cX10_campaignBy 74 = .ok (.ireturn, 1) := by decide +kernel
theorem dX10_copy_0 : decode cX10_copy 0 = .ok (.aload_n 0, 1) := by decide +kernel
theorem dX10_copy_1 : decode cX10_copy 1 = .ok (.iload_n 1, 1) := by decide +kernel
theorem dX10_copy_2 : decode cX10_copy 2 = .ok (.invokevirtual 128, 3) := by decide +kernel
theorem dX10_copy_5 : decode cX10_copy 5 = .ok (.ifCond .ne 5, 3) := by decide +kernel
theorem dX10_copy_8 : decode cX10_copy 8 = .ok (.iconst (-1), 1) := by decide +kernel
theorem dX10_copy_9 : decode cX10_copy 9 = .ok (.ireturn, 1) := by decide +kernel
theorem dX10_copy_10 : decode cX10_copy 10 = .ok (.aload_n 0, 1) := by decide +kernel
theorem dX10_copy_11 : decode cX10_copy 11 = .ok (.getfield 7, 3) := by decide +kernel
theorem dX10_copy_14 : decode cX10_copy 14 = .ok (.bipush 10, 2) := by decide +kernel
theorem dX10_copy_16 : decode cX10_copy 16 = .ok (.iaload, 1) := by decide +kernel
theorem dX10_copy_17 : decode cX10_copy 17 = .ok (.iload_n 1, 1) := by decide +kernel
theorem dX10_copy_18 : decode cX10_copy 18 = .ok (.invokestatic 108, 3) := by decide +kernel
theorem dX10_copy_21 : decode cX10_copy 21 = .ok (.ifCond .ne 6, 3) := by decide +kernel
theorem dX10_copy_24 : decode cX10_copy 24 = .ok (.bipush (-3), 2) := by decide +kernel
theorem dX10_copy_26 : decode cX10_copy 26 = .ok (.ireturn, 1) := by decide +kernel
theorem dX10_copy_27 : decode cX10_copy 27 = .ok (.bipush (-9), 2) := by decide +kernel
theorem dX10_copy_29 : decode cX10_copy 29 = .ok (.istore_n 2, 1) := by decide +kernel
theorem dX10_copy_30 : decode cX10_copy 30 = .ok (.iconst 0, 1) := by decide +kernel
theorem dX10_copy_31 : decode cX10_copy 31 = .ok (.istore_n 3, 1) := by decide +kernel
theorem dX10_copy_32 : decode cX10_copy 32 = .ok (.iload_n 3, 1) := by decide +kernel
theorem dX10_copy_33 : decode cX10_copy 33 = .ok (.bipush 16, 2) := by decide +kernel
theorem dX10_copy_35 : decode cX10_copy 35 = .ok (.if_icmp .ge 129, 3) := by decide +kernel
theorem dX10_copy_38 : decode cX10_copy 38 = .ok (.iload_n 3, 1) := by decide +kernel
theorem dX10_copy_39 : decode cX10_copy 39 = .ok (.invokestatic 115, 3) := by decide +kernel
theorem dX10_copy_42 : decode cX10_copy 42 = .ok (.aload_n 0, 1) := by decide +kernel
theorem dX10_copy_43 : decode cX10_copy 43 = .ok (.getfield 7, 3) := by decide +kernel
theorem dX10_copy_46 : decode cX10_copy 46 = .ok (.bipush 11, 2) := by decide +kernel
theorem dX10_copy_48 : decode cX10_copy 48 = .ok (.iaload, 1) := by decide +kernel
theorem dX10_copy_49 : decode cX10_copy 49 = .ok (.if_icmp .lt 7, 3) := by decide +kernel
theorem dX10_copy_52 : decode cX10_copy 52 = .ok (.iconst 1, 1) := by decide +kernel
theorem dX10_copy_53 : decode cX10_copy 53 = .ok (.goto 4, 3) := by decide +kernel
theorem dX10_copy_56 : decode cX10_copy 56 = .ok (.iconst 0, 1) := by decide +kernel
theorem dX10_copy_57 : decode cX10_copy 57 = .ok (.istore 4, 2) := by decide +kernel
theorem dX10_copy_59 : decode cX10_copy 59 = .ok (.iconst 0, 1) := by decide +kernel
theorem dX10_copy_60 : decode cX10_copy 60 = .ok (.istore 5, 2) := by decide +kernel
theorem dX10_copy_62 : decode cX10_copy 62 = .ok (.iload 5, 2) := by decide +kernel
theorem dX10_copy_64 : decode cX10_copy 64 = .ok (.aload_n 0, 1) := by decide +kernel
theorem dX10_copy_65 : decode cX10_copy 65 = .ok (.invokevirtual 105, 3) := by decide +kernel
theorem dX10_copy_68 : decode cX10_copy 68 = .ok (.if_icmp .ge 62, 3) := by decide +kernel
theorem dX10_copy_71 : decode cX10_copy 71 = .ok (.iload 4, 2) := by decide +kernel
theorem dX10_copy_73 : decode cX10_copy 73 = .ok (.ifCond .eq 57, 3) := by decide +kernel
theorem dX10_copy_76 : decode cX10_copy 76 = .ok (.iload 5, 2) := by decide +kernel
theorem dX10_copy_78 : decode cX10_copy 78 = .ok (.iload_n 1, 1) := by decide +kernel
theorem dX10_copy_79 : decode cX10_copy 79 = .ok (.if_icmp .eq 38, 3) := by decide +kernel
theorem dX10_copy_82 : decode cX10_copy 82 = .ok (.aload_n 0, 1) := by decide +kernel
theorem dX10_copy_83 : decode cX10_copy 83 = .ok (.iconst 0, 1) := by decide +kernel
theorem dX10_copy_84 : decode cX10_copy 84 = .ok (.invokevirtual 122, 3) := by decide +kernel
theorem dX10_copy_87 : decode cX10_copy 87 = .ok (.iload 5, 2) := by decide +kernel
theorem dX10_copy_89 : decode cX10_copy 89 = .ok (.invokestatic 108, 3) := by decide +kernel
theorem dX10_copy_92 : decode cX10_copy 92 = .ok (.ifCond .eq 25, 3) := by decide +kernel
theorem dX10_copy_95 : decode cX10_copy 95 = .ok (.iload_n 3, 1) := by decide +kernel
theorem dX10_copy_96 : decode cX10_copy 96 = .ok (.aload_n 0, 1) := by decide +kernel
theorem dX10_copy_97 : decode cX10_copy 97 = .ok (.iload_n 1, 1) := by decide +kernel
theorem dX10_copy_98 : decode cX10_copy 98 = .ok (.iload 5, 2) := by decide +kernel
theorem dX10_copy_100 : decode cX10_copy 100 = .ok (.invokevirtual 112, 3) := by decide +kernel
theorem dX10_copy_103 : decode cX10_copy 103 = .ok (.iand, 1) := by decide +kernel
theorem dX10_copy_104 : decode cX10_copy 104 = .ok (.invokestatic 115, 3) := by decide +kernel
theorem dX10_copy_107 : decode cX10_copy 107 = .ok (.aload_n 0, 1) := by decide +kernel
theorem dX10_copy_108 : decode cX10_copy 108 = .ok (.getfield 7, 3) := by decide +kernel
theorem dX10_copy_111 : decode cX10_copy 111 = .ok (.bipush 11, 2) := by decide +kernel
theorem dX10_copy_113 : decode cX10_copy 113 = .ok (.iaload, 1) := by decide +kernel
theorem dX10_copy_114 : decode cX10_copy 114 = .ok (.if_icmp .ge 7, 3) := by decide +kernel
theorem dX10_copy_117 : decode cX10_copy 117 = .ok (.iconst 1, 1) := by decide +kernel
theorem dX10_copy_118 : decode cX10_copy 118 = .ok (.goto 4, 3) := by decide +kernel
theorem dX10_copy_121 : decode cX10_copy 121 = .ok (.iconst 0, 1) := by decide +kernel
theorem dX10_copy_122 : decode cX10_copy 122 = .ok (.istore 4, 2) := by decide +kernel
theorem dX10_copy_124 : decode cX10_copy 124 = .ok (.iinc 5 1, 3) := by decide +kernel
theorem dX10_copy_127 : decode cX10_copy 127 = .ok (.goto (-65), 3) := by decide +kernel
theorem dX10_copy_130 : decode cX10_copy 130 = .ok (.iload 4, 2) := by decide +kernel
theorem dX10_copy_132 : decode cX10_copy 132 = .ok (.ifCond .eq 24, 3) := by decide +kernel
theorem dX10_copy_135 : decode cX10_copy 135 = .ok (.iload_n 2, 1) := by decide +kernel
theorem dX10_copy_136 : decode cX10_copy 136 = .ok (.bipush (-9), 2) := by decide +kernel
theorem dX10_copy_138 : decode cX10_copy 138 = .ok (.if_icmp .eq 14, 3) := by decide +kernel
theorem dX10_copy_141 : decode cX10_copy 141 = .ok (.iload_n 3, 1) := by decide +kernel
theorem dX10_copy_142 : decode cX10_copy 142 = .ok (.invokestatic 115, 3) := by decide +kernel
theorem dX10_copy_145 : decode cX10_copy 145 = .ok (.iload_n 2, 1) := by decide +kernel
theorem dX10_copy_146 : decode cX10_copy 146 = .ok (.invokestatic 115, 3) := by decide +kernel
theorem dX10_copy_149 : decode cX10_copy 149 = .ok (.if_icmp .ge 7, 3) := by decide +kernel
theorem dX10_copy_152 : decode cX10_copy 152 = .ok (.iload_n 3, 1) := by decide +kernel
theorem dX10_copy_153 : decode cX10_copy 153 = .ok (.goto 4, 3) := by decide +kernel
theorem dX10_copy_156 : decode cX10_copy 156 = .ok (.iload_n 2, 1) := by decide +kernel
theorem dX10_copy_157 : decode cX10_copy 157 = .ok (.istore_n 2, 1) := by decide +kernel
theorem dX10_copy_158 : decode cX10_copy 158 = .ok (.iinc 3 1, 3) := by decide +kernel
theorem dX10_copy_161 : decode cX10_copy 161 = .ok (.goto (-129), 3) := by decide +kernel
theorem dX10_copy_164 : decode cX10_copy 164 = .ok (.iload_n 2, 1) := by decide +kernel
theorem dX10_copy_165 : decode cX10_copy 165 = .ok (.ireturn, 1) := by decide +kernel
theorem dX10_bestWord_0 : decode cX10_bestWord 0 = .ok (.iload_n 1, 1) := by decide +kernel
theorem dX10_bestWord_1 : decode cX10_bestWord 1 = .ok (.i2l, 1) := by decide +kernel
theorem dX10_bestWord_2 : decode cX10_bestWord 2 = .ok (.lconst 0, 1) := by decide +kernel
theorem dX10_bestWord_3 : decode cX10_bestWord 3 = .ok (.lconst 1, 1) := by decide +kernel
theorem dX10_bestWord_4 : decode cX10_bestWord 4 = .ok (.invokestatic 58, 3) := by decide +kernel
theorem dX10_bestWord_7 : decode cX10_bestWord 7 = .ok (.ifCond .ne 6, 3) := by decide +kernel
theorem dX10_bestWord_10 : decode cX10_bestWord 10 = .ok (.bipush (-2), 2) := by decide +kernel
theorem dX10_bestWord_12 : decode cX10_bestWord 12 = .ok (.ireturn, 1) := by decide +kernel
theorem dX10_bestWord_13 : decode cX10_bestWord 13 = .ok (.iconst 1, 1) := by decide +kernel
theorem dX10_bestWord_14 : decode cX10_bestWord 14 = .ok (.istore_n 2, 1) := by decide +kernel
theorem dX10_bestWord_15 : decode cX10_bestWord 15 = .ok (.iconst 2, 1) := by decide +kernel
theorem dX10_bestWord_16 : decode cX10_bestWord 16 = .ok (.istore_n 3, 1) := by decide +kernel
theorem dX10_bestWord_17 : decode cX10_bestWord 17 = .ok (.iload_n 3, 1) := by decide +kernel
theorem dX10_bestWord_18 : decode cX10_bestWord 18 = .ok (.iconst 5, 1) := by decide +kernel
theorem dX10_bestWord_19 : decode cX10_bestWord 19 = .ok (.if_icmp .ge 79, 3) := by decide +kernel
theorem dX10_bestWord_22 : decode cX10_bestWord 22 = .ok (.aload_n 0, 1) := by decide +kernel
theorem dX10_bestWord_23 : decode cX10_bestWord 23 = .ok (.aload_n 0, 1) := by decide +kernel
theorem dX10_bestWord_24 : decode cX10_bestWord 24 = .ok (.iconst 0, 1) := by decide +kernel
theorem dX10_bestWord_25 : decode cX10_bestWord 25 = .ok (.invokevirtual 122, 3) := by decide +kernel
theorem dX10_bestWord_28 : decode cX10_bestWord 28 = .ok (.iload_n 3, 1) := by decide +kernel
theorem dX10_bestWord_29 : decode cX10_bestWord 29 = .ok (.invokevirtual 125, 3) := by decide +kernel
theorem dX10_bestWord_32 : decode cX10_bestWord 32 = .ok (.invokestatic 115, 3) := by decide +kernel
theorem dX10_bestWord_35 : decode cX10_bestWord 35 = .ok (.aload_n 0, 1) := by decide +kernel
theorem dX10_bestWord_36 : decode cX10_bestWord 36 = .ok (.aload_n 0, 1) := by decide +kernel
theorem dX10_bestWord_37 : decode cX10_bestWord 37 = .ok (.iconst 0, 1) := by decide +kernel
theorem dX10_bestWord_38 : decode cX10_bestWord 38 = .ok (.invokevirtual 122, 3) := by decide +kernel
theorem dX10_bestWord_41 : decode cX10_bestWord 41 = .ok (.iload_n 2, 1) := by decide +kernel
theorem dX10_bestWord_42 : decode cX10_bestWord 42 = .ok (.invokevirtual 125, 3) := by decide +kernel
theorem dX10_bestWord_45 : decode cX10_bestWord 45 = .ok (.invokestatic 115, 3) := by decide +kernel
theorem dX10_bestWord_48 : decode cX10_bestWord 48 = .ok (.isub, 1) := by decide +kernel
theorem dX10_bestWord_49 : decode cX10_bestWord 49 = .ok (.istore 4, 2) := by decide +kernel
theorem dX10_bestWord_51 : decode cX10_bestWord 51 = .ok (.iload 4, 2) := by decide +kernel
theorem dX10_bestWord_53 : decode cX10_bestWord 53 = .ok (.ifCond .gt 33, 3) := by decide +kernel
theorem dX10_bestWord_56 : decode cX10_bestWord 56 = .ok (.iload 4, 2) := by decide +kernel
theorem dX10_bestWord_58 : decode cX10_bestWord 58 = .ok (.ifCond .ne 32, 3) := by decide +kernel
theorem dX10_bestWord_61 : decode cX10_bestWord 61 = .ok (.iload_n 3, 1) := by decide +kernel
theorem dX10_bestWord_62 : decode cX10_bestWord 62 = .ok (.aload_n 0, 1) := by decide +kernel
theorem dX10_bestWord_63 : decode cX10_bestWord 63 = .ok (.getfield 7, 3) := by decide +kernel
theorem dX10_bestWord_66 : decode cX10_bestWord 66 = .ok (.bipush 11, 2) := by decide +kernel
theorem dX10_bestWord_68 : decode cX10_bestWord 68 = .ok (.iaload, 1) := by decide +kernel
theorem dX10_bestWord_69 : decode cX10_bestWord 69 = .ok (.invokestatic 189, 3) := by decide +kernel
theorem dX10_bestWord_72 : decode cX10_bestWord 72 = .ok (.iload_n 2, 1) := by decide +kernel
theorem dX10_bestWord_73 : decode cX10_bestWord 73 = .ok (.aload_n 0, 1) := by decide +kernel
theorem dX10_bestWord_74 : decode cX10_bestWord 74 = .ok (.getfield 7, 3) := by decide +kernel
theorem dX10_bestWord_77 : decode cX10_bestWord 77 = .ok (.bipush 11, 2) := by decide +kernel
theorem dX10_bestWord_79 : decode cX10_bestWord 79 = .ok (.iaload, 1) := by decide +kernel
theorem dX10_bestWord_80 : decode cX10_bestWord 80 = .ok (.invokestatic 189, 3) := by decide +kernel
theorem dX10_bestWord_83 : decode cX10_bestWord 83 = .ok (.if_icmp .ge 7, 3) := by decide +kernel
theorem dX10_bestWord_86 : decode cX10_bestWord 86 = .ok (.iload_n 3, 1) := by decide +kernel
theorem dX10_bestWord_87 : decode cX10_bestWord 87 = .ok (.goto 4, 3) := by decide +kernel
theorem dX10_bestWord_90 : decode cX10_bestWord 90 = .ok (.iload_n 2, 1) := by decide +kernel
theorem dX10_bestWord_91 : decode cX10_bestWord 91 = .ok (.istore_n 2, 1) := by decide +kernel
theorem dX10_bestWord_92 : decode cX10_bestWord 92 = .ok (.iinc 3 1, 3) := by decide +kernel
theorem dX10_bestWord_95 : decode cX10_bestWord 95 = .ok (.goto (-78), 3) := by decide +kernel
theorem dX10_bestWord_98 : decode cX10_bestWord 98 = .ok (.iload_n 1, 1) := by decide +kernel
theorem dX10_bestWord_99 : decode cX10_bestWord 99 = .ok (.ifCond .ne 7, 3) := by decide +kernel
theorem dX10_bestWord_102 : decode cX10_bestWord 102 = .ok (.iload_n 2, 1) := by decide +kernel
theorem dX10_bestWord_103 : decode cX10_bestWord 103 = .ok (.goto 16, 3) := by decide +kernel
theorem dX10_bestWord_106 : decode cX10_bestWord 106 = .ok (.aload_n 0, 1) := by decide +kernel
theorem dX10_bestWord_107 : decode cX10_bestWord 107 = .ok (.aload_n 0, 1) := by decide +kernel
theorem dX10_bestWord_108 : decode cX10_bestWord 108 = .ok (.iconst 0, 1) := by decide +kernel
theorem dX10_bestWord_109 : decode cX10_bestWord 109 = .ok (.invokevirtual 122, 3) := by decide +kernel
theorem dX10_bestWord_112 : decode cX10_bestWord 112 = .ok (.iload_n 2, 1) := by decide +kernel
theorem dX10_bestWord_113 : decode cX10_bestWord 113 = .ok (.invokevirtual 125, 3) := by decide +kernel
theorem dX10_bestWord_116 : decode cX10_bestWord 116 = .ok (.invokestatic 115, 3) := by decide +kernel
theorem dX10_bestWord_119 : decode cX10_bestWord 119 = .ok (.ireturn, 1) := by decide +kernel
theorem dX10_may_0 : decode cX10_may 0 = .ok (.iload_n 2, 1) := by decide +kernel
theorem dX10_may_1 : decode cX10_may 1 = .ok (.ifCond .ne 5, 3) := by decide +kernel
theorem dX10_may_4 : decode cX10_may 4 = .ok (.iconst 1, 1) := by decide +kernel
theorem dX10_may_5 : decode cX10_may 5 = .ok (.ireturn, 1) := by decide +kernel
theorem dX10_may_6 : decode cX10_may 6 = .ok (.iload_n 2, 1) := by decide +kernel
theorem dX10_may_7 : decode cX10_may 7 = .ok (.iconst 1, 1) := by decide +kernel
theorem dX10_may_8 : decode cX10_may 8 = .ok (.isub, 1) := by decide +kernel
theorem dX10_may_9 : decode cX10_may 9 = .ok (.istore_n 3, 1) := by decide +kernel
theorem dX10_may_10 : decode cX10_may 10 = .ok (.aload_n 0, 1) := by decide +kernel
theorem dX10_may_11 : decode cX10_may 11 = .ok (.iload_n 3, 1) := by decide +kernel
theorem dX10_may_12 : decode cX10_may 12 = .ok (.invokevirtual 128, 3) := by decide +kernel
theorem dX10_may_15 : decode cX10_may 15 = .ok (.ifCond .eq 37, 3) := by decide +kernel
theorem dX10_may_18 : decode cX10_may 18 = .ok (.aload_n 0, 1) := by decide +kernel
theorem dX10_may_19 : decode cX10_may 19 = .ok (.iconst 0, 1) := by decide +kernel
theorem dX10_may_20 : decode cX10_may 20 = .ok (.invokevirtual 122, 3) := by decide +kernel
theorem dX10_may_23 : decode cX10_may 23 = .ok (.iload_n 3, 1) := by decide +kernel
theorem dX10_may_24 : decode cX10_may 24 = .ok (.invokestatic 108, 3) := by decide +kernel
theorem dX10_may_27 : decode cX10_may 27 = .ok (.ifCond .eq 25, 3) := by decide +kernel
theorem dX10_may_30 : decode cX10_may 30 = .ok (.aload_n 0, 1) := by decide +kernel
theorem dX10_may_31 : decode cX10_may 31 = .ok (.iconst 0, 1) := by decide +kernel
theorem dX10_may_32 : decode cX10_may 32 = .ok (.iload_n 3, 1) := by decide +kernel
theorem dX10_may_33 : decode cX10_may 33 = .ok (.invokevirtual 159, 3) := by decide +kernel
theorem dX10_may_36 : decode cX10_may 36 = .ok (.ifCond .eq 16, 3) := by decide +kernel
theorem dX10_may_39 : decode cX10_may 39 = .ok (.aload_n 0, 1) := by decide +kernel
theorem dX10_may_40 : decode cX10_may 40 = .ok (.iload_n 3, 1) := by decide +kernel
theorem dX10_may_41 : decode cX10_may 41 = .ok (.invokevirtual 131, 3) := by decide +kernel
theorem dX10_may_44 : decode cX10_may 44 = .ok (.iload_n 1, 1) := by decide +kernel
theorem dX10_may_45 : decode cX10_may 45 = .ok (.if_icmp .eq 7, 3) := by decide +kernel
theorem dX10_may_48 : decode cX10_may 48 = .ok (.iconst 1, 1) := by decide +kernel
theorem dX10_may_49 : decode cX10_may 49 = .ok (.goto 4, 3) := by decide +kernel
theorem dX10_may_52 : decode cX10_may 52 = .ok (.iconst 0, 1) := by decide +kernel
theorem dX10_may_53 : decode cX10_may 53 = .ok (.ireturn, 1) := by decide +kernel
theorem dX10_has3_0 : decode cX10_has3 0 = .ok (.aload_n 0, 1) := by decide +kernel
theorem dX10_has3_1 : decode cX10_has3 1 = .ok (.iconst 0, 1) := by decide +kernel
theorem dX10_has3_2 : decode cX10_has3 2 = .ok (.invokevirtual 122, 3) := by decide +kernel
theorem dX10_has3_5 : decode cX10_has3 5 = .ok (.iconst 1, 1) := by decide +kernel
theorem dX10_has3_6 : decode cX10_has3 6 = .ok (.iload_n 2, 1) := by decide +kernel
theorem dX10_has3_7 : decode cX10_has3 7 = .ok (.ishl, 1) := by decide +kernel
theorem dX10_has3_8 : decode cX10_has3 8 = .ok (.iconst 1, 1) := by decide +kernel
theorem dX10_has3_9 : decode cX10_has3 9 = .ok (.iload_n 3, 1) := by decide +kernel
theorem dX10_has3_10 : decode cX10_has3 10 = .ok (.ishl, 1) := by decide +kernel
theorem dX10_has3_11 : decode cX10_has3 11 = .ok (.ior, 1) := by decide +kernel
theorem dX10_has3_12 : decode cX10_has3 12 = .ok (.iconst 1, 1) := by decide +kernel
theorem dX10_has3_13 : decode cX10_has3 13 = .ok (.iload 4, 2) := by decide +kernel
theorem dX10_has3_15 : decode cX10_has3 15 = .ok (.ishl, 1) := by decide +kernel
theorem dX10_has3_16 : decode cX10_has3 16 = .ok (.ior, 1) := by decide +kernel
theorem dX10_has3_17 : decode cX10_has3 17 = .ok (.iconst 1, 1) := by decide +kernel
theorem dX10_has3_18 : decode cX10_has3 18 = .ok (.ishr, 1) := by decide +kernel
theorem dX10_has3_19 : decode cX10_has3 19 = .ok (.iconst (-1), 1) := by decide +kernel
theorem dX10_has3_20 : decode cX10_has3 20 = .ok (.ixor, 1) := by decide +kernel
theorem dX10_has3_21 : decode cX10_has3 21 = .ok (.iand, 1) := by decide +kernel
theorem dX10_has3_22 : decode cX10_has3 22 = .ok (.istore 5, 2) := by decide +kernel
theorem dX10_has3_24 : decode cX10_has3 24 = .ok (.iload_n 1, 1) := by decide +kernel
theorem dX10_has3_25 : decode cX10_has3 25 = .ok (.ifCond .ne 7, 3) := by decide +kernel
theorem dX10_has3_28 : decode cX10_has3 28 = .ok (.iload_n 2, 1) := by decide +kernel
theorem dX10_has3_29 : decode cX10_has3 29 = .ok (.goto 14, 3) := by decide +kernel
theorem dX10_has3_32 : decode cX10_has3 32 = .ok (.iload_n 1, 1) := by decide +kernel
theorem dX10_has3_33 : decode cX10_has3 33 = .ok (.iconst 1, 1) := by decide +kernel
theorem dX10_has3_34 : decode cX10_has3 34 = .ok (.if_icmp .ne 7, 3) := by decide +kernel
theorem dX10_has3_37 : decode cX10_has3 37 = .ok (.iload_n 3, 1) := by decide +kernel
theorem dX10_has3_38 : decode cX10_has3 38 = .ok (.goto 5, 3) := by decide +kernel
theorem dX10_has3_41 : decode cX10_has3 41 = .ok (.iload 4, 2) := by decide +kernel
theorem dX10_has3_43 : decode cX10_has3 43 = .ok (.istore 6, 2) := by decide +kernel
theorem dX10_has3_45 : decode cX10_has3 45 = .ok (.iload 6, 2) := by decide +kernel
theorem dX10_has3_47 : decode cX10_has3 47 = .ok (.ifCond .ne 7, 3) := by decide +kernel
theorem dX10_has3_50 : decode cX10_has3 50 = .ok (.iconst 0, 1) := by decide +kernel
theorem dX10_has3_51 : decode cX10_has3 51 = .ok (.goto 12, 3) := by decide +kernel
theorem dX10_has3_54 : decode cX10_has3 54 = .ok (.aload_n 0, 1) := by decide +kernel
theorem dX10_has3_55 : decode cX10_has3 55 = .ok (.iload 6, 2) := by decide +kernel
theorem dX10_has3_57 : decode cX10_has3 57 = .ok (.iconst 1, 1) := by decide +kernel
theorem dX10_has3_58 : decode cX10_has3 58 = .ok (.isub, 1) := by decide +kernel
theorem dX10_has3_59 : decode cX10_has3 59 = .ok (.invokevirtual 137, 3) := by decide +kernel
theorem dX10_has3_62 : decode cX10_has3 62 = .ok (.ineg, 1) := by decide +kernel
theorem dX10_has3_63 : decode cX10_has3 63 = .ok (.istore 7, 2) := by decide +kernel
theorem dX10_has3_65 : decode cX10_has3 65 = .ok (.iconst 0, 1) := by decide +kernel
theorem dX10_has3_66 : decode cX10_has3 66 = .ok (.istore 8, 2) := by decide +kernel
theorem dX10_has3_68 : decode cX10_has3 68 = .ok (.iload 8, 2) := by decide +kernel
theorem dX10_has3_70 : decode cX10_has3 70 = .ok (.aload_n 0, 1) := by decide +kernel
theorem dX10_has3_71 : decode cX10_has3 71 = .ok (.invokevirtual 105, 3) := by decide +kernel
theorem dX10_has3_74 : decode cX10_has3 74 = .ok (.if_icmp .ge 36, 3) := by decide +kernel
theorem dX10_has3_77 : decode cX10_has3 77 = .ok (.iload 7, 2) := by decide +kernel
theorem dX10_has3_79 : decode cX10_has3 79 = .ok (.aload_n 0, 1) := by decide +kernel
theorem dX10_has3_80 : decode cX10_has3 80 = .ok (.iload 8, 2) := by decide +kernel
theorem dX10_has3_82 : decode cX10_has3 82 = .ok (.invokevirtual 131, 3) := by decide +kernel
theorem dX10_has3_85 : decode cX10_has3 85 = .ok (.iload_n 1, 1) := by decide +kernel
theorem dX10_has3_86 : decode cX10_has3 86 = .ok (.if_icmp .ne 14, 3) := by decide +kernel
theorem dX10_has3_89 : decode cX10_has3 89 = .ok (.aload_n 0, 1) := by decide +kernel
theorem dX10_has3_90 : decode cX10_has3 90 = .ok (.iload 8, 2) := by decide +kernel
theorem dX10_has3_92 : decode cX10_has3 92 = .ok (.iload 5, 2) := by decide +kernel
theorem dX10_has3_94 : decode cX10_has3 94 = .ok (.invokevirtual 146, 3) := by decide +kernel
theorem dX10_has3_97 : decode cX10_has3 97 = .ok (.goto 4, 3) := by decide +kernel
theorem dX10_has3_100 : decode cX10_has3 100 = .ok (.iconst 0, 1) := by decide +kernel
theorem dX10_has3_101 : decode cX10_has3 101 = .ok (.iadd, 1) := by decide +kernel
theorem dX10_has3_102 : decode cX10_has3 102 = .ok (.istore 7, 2) := by decide +kernel
theorem dX10_has3_104 : decode cX10_has3 104 = .ok (.iinc 8 1, 3) := by decide +kernel
theorem dX10_has3_107 : decode cX10_has3 107 = .ok (.goto (-39), 3) := by decide +kernel
theorem dX10_has3_110 : decode cX10_has3 110 = .ok (.iload 7, 2) := by decide +kernel
theorem dX10_has3_112 : decode cX10_has3 112 = .ok (.ireturn, 1) := by decide +kernel
theorem dX10_rest_0 : decode cX10_rest 0 = .ok (.aload_n 0, 1) := by decide +kernel
theorem dX10_rest_1 : decode cX10_rest 1 = .ok (.iconst 0, 1) := by decide +kernel
theorem dX10_rest_2 : decode cX10_rest 2 = .ok (.iload_n 1, 1) := by decide +kernel
theorem dX10_rest_3 : decode cX10_rest 3 = .ok (.invokevirtual 198, 3) := by decide +kernel
theorem dX10_rest_6 : decode cX10_rest 6 = .ok (.ifCond .eq 25, 3) := by decide +kernel
theorem dX10_rest_9 : decode cX10_rest 9 = .ok (.aload_n 0, 1) := by decide +kernel
theorem dX10_rest_10 : decode cX10_rest 10 = .ok (.iconst 1, 1) := by decide +kernel
theorem dX10_rest_11 : decode cX10_rest 11 = .ok (.iload_n 2, 1) := by decide +kernel
theorem dX10_rest_12 : decode cX10_rest 12 = .ok (.invokevirtual 198, 3) := by decide +kernel
theorem dX10_rest_15 : decode cX10_rest 15 = .ok (.ifCond .eq 16, 3) := by decide +kernel
theorem dX10_rest_18 : decode cX10_rest 18 = .ok (.aload_n 0, 1) := by decide +kernel
theorem dX10_rest_19 : decode cX10_rest 19 = .ok (.iconst 2, 1) := by decide +kernel
theorem dX10_rest_20 : decode cX10_rest 20 = .ok (.iload_n 3, 1) := by decide +kernel
theorem dX10_rest_21 : decode cX10_rest 21 = .ok (.invokevirtual 198, 3) := by decide +kernel
theorem dX10_rest_24 : decode cX10_rest 24 = .ok (.ifCond .eq 7, 3) := by decide +kernel
theorem dX10_rest_27 : decode cX10_rest 27 = .ok (.iconst 1, 1) := by decide +kernel
theorem dX10_rest_28 : decode cX10_rest 28 = .ok (.goto 4, 3) := by decide +kernel
theorem dX10_rest_31 : decode cX10_rest 31 = .ok (.iconst 0, 1) := by decide +kernel
theorem dX10_rest_32 : decode cX10_rest 32 = .ok (.istore 4, 2) := by decide +kernel
theorem dX10_rest_34 : decode cX10_rest 34 = .ok (.iconst 0, 1) := by decide +kernel
theorem dX10_rest_35 : decode cX10_rest 35 = .ok (.istore 5, 2) := by decide +kernel
theorem dX10_rest_37 : decode cX10_rest 37 = .ok (.iload 5, 2) := by decide +kernel
theorem dX10_rest_39 : decode cX10_rest 39 = .ok (.bipush 9, 2) := by decide +kernel
theorem dX10_rest_41 : decode cX10_rest 41 = .ok (.if_icmp .ge 135, 3) := by decide +kernel
theorem dX10_rest_44 : decode cX10_rest 44 = .ok (.iload 4, 2) := by decide +kernel
theorem dX10_rest_46 : decode cX10_rest 46 = .ok (.ifCond .eq 130, 3) := by decide +kernel
theorem dX10_rest_49 : decode cX10_rest 49 = .ok (.aload_n 0, 1) := by decide +kernel
theorem dX10_rest_50 : decode cX10_rest 50 = .ok (.iconst 0, 1) := by decide +kernel
theorem dX10_rest_51 : decode cX10_rest 51 = .ok (.iload 5, 2) := by decide +kernel
theorem dX10_rest_53 : decode cX10_rest 53 = .ok (.invokevirtual 198, 3) := by decide +kernel
theorem dX10_rest_56 : decode cX10_rest 56 = .ok (.ifCond .eq 23, 3) := by decide +kernel
theorem dX10_rest_59 : decode cX10_rest 59 = .ok (.aload_n 0, 1) := by decide +kernel
theorem dX10_rest_60 : decode cX10_rest 60 = .ok (.iconst 0, 1) := by decide +kernel
theorem dX10_rest_61 : decode cX10_rest 61 = .ok (.iload 5, 2) := by decide +kernel
theorem dX10_rest_63 : decode cX10_rest 63 = .ok (.iload_n 2, 1) := by decide +kernel
theorem dX10_rest_64 : decode cX10_rest 64 = .ok (.iload_n 3, 1) := by decide +kernel
theorem dX10_rest_65 : decode cX10_rest 65 = .ok (.invokevirtual 201, 3) := by decide +kernel
theorem dX10_rest_68 : decode cX10_rest 68 = .ok (.aload_n 0, 1) := by decide +kernel
theorem dX10_rest_69 : decode cX10_rest 69 = .ok (.iconst 0, 1) := by decide +kernel
theorem dX10_rest_70 : decode cX10_rest 70 = .ok (.iload_n 1, 1) := by decide +kernel
theorem dX10_rest_71 : decode cX10_rest 71 = .ok (.iload_n 2, 1) := by decide +kernel
theorem dX10_rest_72 : decode cX10_rest 72 = .ok (.iload_n 3, 1) := by decide +kernel
theorem dX10_rest_73 : decode cX10_rest 73 = .ok (.invokevirtual 201, 3) := by decide +kernel
theorem dX10_rest_76 : decode cX10_rest 76 = .ok (.if_icmp .gt 7, 3) := by decide +kernel
theorem dX10_rest_79 : decode cX10_rest 79 = .ok (.iconst 1, 1) := by decide +kernel
theorem dX10_rest_80 : decode cX10_rest 80 = .ok (.goto 4, 3) := by decide +kernel
theorem dX10_rest_83 : decode cX10_rest 83 = .ok (.iconst 0, 1) := by decide +kernel
theorem dX10_rest_84 : decode cX10_rest 84 = .ok (.istore 4, 2) := by decide +kernel
theorem dX10_rest_86 : decode cX10_rest 86 = .ok (.iload 4, 2) := by decide +kernel
theorem dX10_rest_88 : decode cX10_rest 88 = .ok (.ifCond .eq 37, 3) := by decide +kernel
theorem dX10_rest_91 : decode cX10_rest 91 = .ok (.aload_n 0, 1) := by decide +kernel
theorem dX10_rest_92 : decode cX10_rest 92 = .ok (.iconst 1, 1) := by decide +kernel
theorem dX10_rest_93 : decode cX10_rest 93 = .ok (.iload 5, 2) := by decide +kernel
theorem dX10_rest_95 : decode cX10_rest 95 = .ok (.invokevirtual 198, 3) := by decide +kernel
theorem dX10_rest_98 : decode cX10_rest 98 = .ok (.ifCond .eq 23, 3) := by decide +kernel
theorem dX10_rest_101 : decode cX10_rest 101 = .ok (.aload_n 0, 1) := by decide +kernel
theorem dX10_rest_102 : decode cX10_rest 102 = .ok (.iconst 1, 1) := by decide +kernel
theorem dX10_rest_103 : decode cX10_rest 103 = .ok (.iload_n 1, 1) := by decide +kernel
theorem dX10_rest_104 : decode cX10_rest 104 = .ok (.iload 5, 2) := by decide +kernel
theorem dX10_rest_106 : decode cX10_rest 106 = .ok (.iload_n 3, 1) := by decide +kernel
theorem dX10_rest_107 : decode cX10_rest 107 = .ok (.invokevirtual 201, 3) := by decide +kernel
theorem dX10_rest_110 : decode cX10_rest 110 = .ok (.aload_n 0, 1) := by decide +kernel
theorem dX10_rest_111 : decode cX10_rest 111 = .ok (.iconst 1, 1) := by decide +kernel
theorem dX10_rest_112 : decode cX10_rest 112 = .ok (.iload_n 1, 1) := by decide +kernel
theorem dX10_rest_113 : decode cX10_rest 113 = .ok (.iload_n 2, 1) := by decide +kernel
theorem dX10_rest_114 : decode cX10_rest 114 = .ok (.iload_n 3, 1) := by decide +kernel
theorem dX10_rest_115 : decode cX10_rest 115 = .ok (.invokevirtual 201, 3) := by decide +kernel
theorem dX10_rest_118 : decode cX10_rest 118 = .ok (.if_icmp .gt 7, 3) := by decide +kernel
theorem dX10_rest_121 : decode cX10_rest 121 = .ok (.iconst 1, 1) := by decide +kernel
theorem dX10_rest_122 : decode cX10_rest 122 = .ok (.goto 4, 3) := by decide +kernel
theorem dX10_rest_125 : decode cX10_rest 125 = .ok (.iconst 0, 1) := by decide +kernel
theorem dX10_rest_126 : decode cX10_rest 126 = .ok (.istore 4, 2) := by decide +kernel
theorem dX10_rest_128 : decode cX10_rest 128 = .ok (.iload 4, 2) := by decide +kernel
theorem dX10_rest_130 : decode cX10_rest 130 = .ok (.ifCond .eq 37, 3) := by decide +kernel
theorem dX10_rest_133 : decode cX10_rest 133 = .ok (.aload_n 0, 1) := by decide +kernel
theorem dX10_rest_134 : decode cX10_rest 134 = .ok (.iconst 2, 1) := by decide +kernel
theorem dX10_rest_135 : decode cX10_rest 135 = .ok (.iload 5, 2) := by decide +kernel
theorem dX10_rest_137 : decode cX10_rest 137 = .ok (.invokevirtual 198, 3) := by decide +kernel
theorem dX10_rest_140 : decode cX10_rest 140 = .ok (.ifCond .eq 23, 3) := by decide +kernel
theorem dX10_rest_143 : decode cX10_rest 143 = .ok (.aload_n 0, 1) := by decide +kernel
theorem dX10_rest_144 : decode cX10_rest 144 = .ok (.iconst 2, 1) := by decide +kernel
theorem dX10_rest_145 : decode cX10_rest 145 = .ok (.iload_n 1, 1) := by decide +kernel
theorem dX10_rest_146 : decode cX10_rest 146 = .ok (.iload_n 2, 1) := by decide +kernel
theorem dX10_rest_147 : decode cX10_rest 147 = .ok (.iload 5, 2) := by decide +kernel
theorem dX10_rest_149 : decode cX10_rest 149 = .ok (.invokevirtual 201, 3) := by decide +kernel
theorem dX10_rest_152 : decode cX10_rest 152 = .ok (.aload_n 0, 1) := by decide +kernel
theorem dX10_rest_153 : decode cX10_rest 153 = .ok (.iconst 2, 1) := by decide +kernel
theorem dX10_rest_154 : decode cX10_rest 154 = .ok (.iload_n 1, 1) := by decide +kernel
theorem dX10_rest_155 : decode cX10_rest 155 = .ok (.iload_n 2, 1) := by decide +kernel
theorem dX10_rest_156 : decode cX10_rest 156 = .ok (.iload_n 3, 1) := by decide +kernel
theorem dX10_rest_157 : decode cX10_rest 157 = .ok (.invokevirtual 201, 3) := by decide +kernel
theorem dX10_rest_160 : decode cX10_rest 160 = .ok (.if_icmp .gt 7, 3) := by decide +kernel
theorem dX10_rest_163 : decode cX10_rest 163 = .ok (.iconst 1, 1) := by decide +kernel
theorem dX10_rest_164 : decode cX10_rest 164 = .ok (.goto 4, 3) := by decide +kernel
theorem dX10_rest_167 : decode cX10_rest 167 = .ok (.iconst 0, 1) := by decide +kernel
theorem dX10_rest_168 : decode cX10_rest 168 = .ok (.istore 4, 2) := by decide +kernel
theorem dX10_rest_170 : decode cX10_rest 170 = .ok (.iinc 5 1, 3) := by decide +kernel
theorem dX10_rest_173 : decode cX10_rest 173 = .ok (.goto (-136), 3) := by decide +kernel
theorem dX10_rest_176 : decode cX10_rest 176 = .ok (.iload 4, 2) := by decide +kernel
theorem dX10_rest_178 : decode cX10_rest 178 = .ok (.ireturn, 1) := by decide +kernel
theorem dX10_rests_0 : decode cX10_rests 0 = .ok (.iload_n 1, 1) := by decide +kernel
theorem dX10_rests_1 : decode cX10_rests 1 = .ok (.i2l, 1) := by decide +kernel
theorem dX10_rests_2 : decode cX10_rests 2 = .ok (.lconst 0, 1) := by decide +kernel
theorem dX10_rests_3 : decode cX10_rests 3 = .ok (.ldc2_w 181, 3) := by decide +kernel
theorem dX10_rests_6 : decode cX10_rests 6 = .ok (.invokestatic 58, 3) := by decide +kernel
theorem dX10_rests_9 : decode cX10_rests 9 = .ok (.ifCond .ne 6, 3) := by decide +kernel
theorem dX10_rests_12 : decode cX10_rests 12 = .ok (.bipush (-2), 2) := by decide +kernel
theorem dX10_rests_14 : decode cX10_rests 14 = .ok (.ireturn, 1) := by decide +kernel
theorem dX10_rests_15 : decode cX10_rests 15 = .ok (.iconst 0, 1) := by decide +kernel
theorem dX10_rests_16 : decode cX10_rests 16 = .ok (.istore_n 2, 1) := by decide +kernel
theorem dX10_rests_17 : decode cX10_rests 17 = .ok (.bipush (-9), 2) := by decide +kernel
theorem dX10_rests_19 : decode cX10_rests 19 = .ok (.istore_n 3, 1) := by decide +kernel
theorem dX10_rests_20 : decode cX10_rests 20 = .ok (.iconst 0, 1) := by decide +kernel
theorem dX10_rests_21 : decode cX10_rests 21 = .ok (.istore 4, 2) := by decide +kernel
theorem dX10_rests_23 : decode cX10_rests 23 = .ok (.iload 4, 2) := by decide +kernel
theorem dX10_rests_25 : decode cX10_rests 25 = .ok (.sipush 729, 3) := by decide +kernel
theorem dX10_rests_28 : decode cX10_rests 28 = .ok (.if_icmp .ge 62, 3) := by decide +kernel
theorem dX10_rests_31 : decode cX10_rests 31 = .ok (.aload_n 0, 1) := by decide +kernel
theorem dX10_rests_32 : decode cX10_rests 32 = .ok (.iload 4, 2) := by decide +kernel
theorem dX10_rests_34 : decode cX10_rests 34 = .ok (.bipush 81, 2) := by decide +kernel
theorem dX10_rests_36 : decode cX10_rests 36 = .ok (.idiv, 1) := by decide +kernel
theorem dX10_rests_37 : decode cX10_rests 37 = .ok (.iload 4, 2) := by decide +kernel
theorem dX10_rests_39 : decode cX10_rests 39 = .ok (.bipush 9, 2) := by decide +kernel
theorem dX10_rests_41 : decode cX10_rests 41 = .ok (.idiv, 1) := by decide +kernel
theorem dX10_rests_42 : decode cX10_rests 42 = .ok (.bipush 9, 2) := by decide +kernel
theorem dX10_rests_44 : decode cX10_rests 44 = .ok (.irem, 1) := by decide +kernel
theorem dX10_rests_45 : decode cX10_rests 45 = .ok (.iload 4, 2) := by decide +kernel
theorem dX10_rests_47 : decode cX10_rests 47 = .ok (.bipush 9, 2) := by decide +kernel
theorem dX10_rests_49 : decode cX10_rests 49 = .ok (.irem, 1) := by decide +kernel
theorem dX10_rests_50 : decode cX10_rests 50 = .ok (.invokevirtual 205, 3) := by decide +kernel
theorem dX10_rests_53 : decode cX10_rests 53 = .ok (.istore 5, 2) := by decide +kernel
theorem dX10_rests_55 : decode cX10_rests 55 = .ok (.iload 5, 2) := by decide +kernel
theorem dX10_rests_57 : decode cX10_rests 57 = .ok (.ifCond .eq 12, 3) := by decide +kernel
theorem dX10_rests_60 : decode cX10_rests 60 = .ok (.iload_n 2, 1) := by decide +kernel
theorem dX10_rests_61 : decode cX10_rests 61 = .ok (.ifCond .ne 8, 3) := by decide +kernel
theorem dX10_rests_64 : decode cX10_rests 64 = .ok (.iload 4, 2) := by decide +kernel
theorem dX10_rests_66 : decode cX10_rests 66 = .ok (.goto 4, 3) := by decide +kernel
theorem dX10_rests_69 : decode cX10_rests 69 = .ok (.iload_n 3, 1) := by decide +kernel
theorem dX10_rests_70 : decode cX10_rests 70 = .ok (.istore_n 3, 1) := by decide +kernel
theorem dX10_rests_71 : decode cX10_rests 71 = .ok (.iload_n 2, 1) := by decide +kernel
theorem dX10_rests_72 : decode cX10_rests 72 = .ok (.iload 5, 2) := by decide +kernel
theorem dX10_rests_74 : decode cX10_rests 74 = .ok (.ifCond .eq 7, 3) := by decide +kernel
theorem dX10_rests_77 : decode cX10_rests 77 = .ok (.iconst 1, 1) := by decide +kernel
theorem dX10_rests_78 : decode cX10_rests 78 = .ok (.goto 4, 3) := by decide +kernel
theorem dX10_rests_81 : decode cX10_rests 81 = .ok (.iconst 0, 1) := by decide +kernel
theorem dX10_rests_82 : decode cX10_rests 82 = .ok (.iadd, 1) := by decide +kernel
theorem dX10_rests_83 : decode cX10_rests 83 = .ok (.istore_n 2, 1) := by decide +kernel
theorem dX10_rests_84 : decode cX10_rests 84 = .ok (.iinc 4 1, 3) := by decide +kernel
theorem dX10_rests_87 : decode cX10_rests 87 = .ok (.goto (-64), 3) := by decide +kernel
theorem dX10_rests_90 : decode cX10_rests 90 = .ok (.iload_n 1, 1) := by decide +kernel
theorem dX10_rests_91 : decode cX10_rests 91 = .ok (.ifCond .eq 8, 3) := by decide +kernel
theorem dX10_rests_94 : decode cX10_rests 94 = .ok (.iload_n 1, 1) := by decide +kernel
theorem dX10_rests_95 : decode cX10_rests 95 = .ok (.iconst 4, 1) := by decide +kernel
theorem dX10_rests_96 : decode cX10_rests 96 = .ok (.if_icmp .ne 21, 3) := by decide +kernel
theorem dX10_rests_99 : decode cX10_rests 99 = .ok (.iload_n 1, 1) := by decide +kernel
theorem dX10_rests_100 : decode cX10_rests 100 = .ok (.ifCond .ne 7, 3) := by decide +kernel
theorem dX10_rests_103 : decode cX10_rests 103 = .ok (.iload_n 2, 1) := by decide +kernel
theorem dX10_rests_104 : decode cX10_rests 104 = .ok (.goto 12, 3) := by decide +kernel
theorem dX10_rests_107 : decode cX10_rests 107 = .ok (.iload_n 2, 1) := by decide +kernel
theorem dX10_rests_108 : decode cX10_rests 108 = .ok (.ifCond .le 7, 3) := by decide +kernel
theorem dX10_rests_111 : decode cX10_rests 111 = .ok (.iconst 1, 1) := by decide +kernel
theorem dX10_rests_112 : decode cX10_rests 112 = .ok (.goto 4, 3) := by decide +kernel
theorem dX10_rests_115 : decode cX10_rests 115 = .ok (.iconst 0, 1) := by decide +kernel
theorem dX10_rests_116 : decode cX10_rests 116 = .ok (.ireturn, 1) := by decide +kernel
theorem dX10_rests_117 : decode cX10_rests 117 = .ok (.iload_n 3, 1) := by decide +kernel
theorem dX10_rests_118 : decode cX10_rests 118 = .ok (.bipush (-9), 2) := by decide +kernel
theorem dX10_rests_120 : decode cX10_rests 120 = .ok (.if_icmp .ne 7, 3) := by decide +kernel
theorem dX10_rests_123 : decode cX10_rests 123 = .ok (.iconst 0, 1) := by decide +kernel
theorem dX10_rests_124 : decode cX10_rests 124 = .ok (.goto 34, 3) := by decide +kernel
theorem dX10_rests_127 : decode cX10_rests 127 = .ok (.iload_n 1, 1) := by decide +kernel
theorem dX10_rests_128 : decode cX10_rests 128 = .ok (.iconst 1, 1) := by decide +kernel
theorem dX10_rests_129 : decode cX10_rests 129 = .ok (.if_icmp .ne 10, 3) := by decide +kernel
theorem dX10_rests_132 : decode cX10_rests 132 = .ok (.iload_n 3, 1) := by decide +kernel
theorem dX10_rests_133 : decode cX10_rests 133 = .ok (.bipush 81, 2) := by decide +kernel
theorem dX10_rests_135 : decode cX10_rests 135 = .ok (.idiv, 1) := by decide +kernel
theorem dX10_rests_136 : decode cX10_rests 136 = .ok (.goto 22, 3) := by decide +kernel
theorem dX10_rests_139 : decode cX10_rests 139 = .ok (.iload_n 1, 1) := by decide +kernel
theorem dX10_rests_140 : decode cX10_rests 140 = .ok (.iconst 2, 1) := by decide +kernel
theorem dX10_rests_141 : decode cX10_rests 141 = .ok (.if_icmp .ne 13, 3) := by decide +kernel
theorem dX10_rests_144 : decode cX10_rests 144 = .ok (.iload_n 3, 1) := by decide +kernel
theorem dX10_rests_145 : decode cX10_rests 145 = .ok (.bipush 9, 2) := by decide +kernel
theorem dX10_rests_147 : decode cX10_rests 147 = .ok (.idiv, 1) := by decide +kernel
theorem dX10_rests_148 : decode cX10_rests 148 = .ok (.bipush 9, 2) := by decide +kernel
theorem dX10_rests_150 : decode cX10_rests 150 = .ok (.irem, 1) := by decide +kernel
theorem dX10_rests_151 : decode cX10_rests 151 = .ok (.goto 7, 3) := by decide +kernel
theorem dX10_rests_154 : decode cX10_rests 154 = .ok (.iload_n 3, 1) := by decide +kernel
theorem dX10_rests_155 : decode cX10_rests 155 = .ok (.bipush 9, 2) := by decide +kernel
theorem dX10_rests_157 : decode cX10_rests 157 = .ok (.irem, 1) := by decide +kernel
theorem dX10_rests_158 : decode cX10_rests 158 = .ok (.istore 4, 2) := by decide +kernel
theorem dX10_rests_160 : decode cX10_rests 160 = .ok (.iload 4, 2) := by decide +kernel
theorem dX10_rests_162 : decode cX10_rests 162 = .ok (.ifCond .ne 8, 3) := by decide +kernel
theorem dX10_rests_165 : decode cX10_rests 165 = .ok (.bipush (-9), 2) := by decide +kernel
theorem dX10_rests_167 : decode cX10_rests 167 = .ok (.goto 7, 3) := by decide +kernel
theorem dX10_rests_170 : decode cX10_rests 170 = .ok (.iload 4, 2) := by decide +kernel
theorem dX10_rests_172 : decode cX10_rests 172 = .ok (.iconst 1, 1) := by decide +kernel
theorem dX10_rests_173 : decode cX10_rests 173 = .ok (.isub, 1) := by decide +kernel
theorem dX10_rests_174 : decode cX10_rests 174 = .ok (.ireturn, 1) := by decide +kernel
theorem dX10_sight_0 : decode cX10_sight 0 = .ok (.aload_n 0, 1) := by decide +kernel
theorem dX10_sight_1 : decode cX10_sight 1 = .ok (.iload_n 1, 1) := by decide +kernel
theorem dX10_sight_2 : decode cX10_sight 2 = .ok (.invokevirtual 128, 3) := by decide +kernel
theorem dX10_sight_5 : decode cX10_sight 5 = .ok (.ifCond .ne 5, 3) := by decide +kernel
theorem dX10_sight_8 : decode cX10_sight 8 = .ok (.iconst (-1), 1) := by decide +kernel
theorem dX10_sight_9 : decode cX10_sight 9 = .ok (.ireturn, 1) := by decide +kernel
theorem dX10_sight_10 : decode cX10_sight 10 = .ok (.iload_n 2, 1) := by decide +kernel
theorem dX10_sight_11 : decode cX10_sight 11 = .ok (.i2l, 1) := by decide +kernel
theorem dX10_sight_12 : decode cX10_sight 12 = .ok (.lconst 0, 1) := by decide +kernel
theorem dX10_sight_13 : decode cX10_sight 13 = .ok (.ldc2_w 209, 3) := by decide +kernel
theorem dX10_sight_16 : decode cX10_sight 16 = .ok (.invokestatic 58, 3) := by decide +kernel
theorem dX10_sight_19 : decode cX10_sight 19 = .ok (.ifCond .ne 6, 3) := by decide +kernel
theorem dX10_sight_22 : decode cX10_sight 22 = .ok (.bipush (-2), 2) := by decide +kernel
theorem dX10_sight_24 : decode cX10_sight 24 = .ok (.ireturn, 1) := by decide +kernel
theorem dX10_sight_25 : decode cX10_sight 25 = .ok (.aload_n 0, 1) := by decide +kernel
theorem dX10_sight_26 : decode cX10_sight 26 = .ok (.getfield 211, 3) := by decide +kernel
theorem dX10_sight_29 : decode cX10_sight 29 = .ok (.bipush 6, 2) := by decide +kernel
theorem dX10_sight_31 : decode cX10_sight 31 = .ok (.if_icmp .ne 6, 3) := by decide +kernel
theorem dX10_sight_34 : decode cX10_sight 34 = .ok (.bipush (-4), 2) := by decide +kernel
theorem dX10_sight_36 : decode cX10_sight 36 = .ok (.ireturn, 1) := by decide +kernel
theorem dX10_sight_37 : decode cX10_sight 37 = .ok (.aload_n 0, 1) := by decide +kernel
theorem dX10_sight_38 : decode cX10_sight 38 = .ok (.getfield 19, 3) := by decide +kernel
theorem dX10_sight_41 : decode cX10_sight 41 = .ok (.aload_n 0, 1) := by decide +kernel
theorem dX10_sight_42 : decode cX10_sight 42 = .ok (.getfield 211, 3) := by decide +kernel
theorem dX10_sight_45 : decode cX10_sight 45 = .ok (.iload_n 1, 1) := by decide +kernel
theorem dX10_sight_46 : decode cX10_sight 46 = .ok (.iastore, 1) := by decide +kernel
theorem dX10_sight_47 : decode cX10_sight 47 = .ok (.aload_n 0, 1) := by decide +kernel
theorem dX10_sight_48 : decode cX10_sight 48 = .ok (.getfield 22, 3) := by decide +kernel
theorem dX10_sight_51 : decode cX10_sight 51 = .ok (.aload_n 0, 1) := by decide +kernel
theorem dX10_sight_52 : decode cX10_sight 52 = .ok (.getfield 211, 3) := by decide +kernel
theorem dX10_sight_55 : decode cX10_sight 55 = .ok (.iload_n 2, 1) := by decide +kernel
theorem dX10_sight_56 : decode cX10_sight 56 = .ok (.iastore, 1) := by decide +kernel
theorem dX10_sight_57 : decode cX10_sight 57 = .ok (.aload_n 0, 1) := by decide +kernel
theorem dX10_sight_58 : decode cX10_sight 58 = .ok (.getfield 25, 3) := by decide +kernel
theorem dX10_sight_61 : decode cX10_sight 61 = .ok (.aload_n 0, 1) := by decide +kernel
theorem dX10_sight_62 : decode cX10_sight 62 = .ok (.getfield 211, 3) := by decide +kernel
theorem dX10_sight_65 : decode cX10_sight 65 = .ok (.iload_n 3, 1) := by decide +kernel
theorem dX10_sight_66 : decode cX10_sight 66 = .ok (.bastore, 1) := by decide +kernel
theorem dX10_sight_67 : decode cX10_sight 67 = .ok (.aload_n 0, 1) := by decide +kernel
theorem dX10_sight_68 : decode cX10_sight 68 = .ok (.dup, 1) := by decide +kernel
theorem dX10_sight_69 : decode cX10_sight 69 = .ok (.getfield 211, 3) := by decide +kernel
theorem dX10_sight_72 : decode cX10_sight 72 = .ok (.iconst 1, 1) := by decide +kernel
theorem dX10_sight_73 : decode cX10_sight 73 = .ok (.iadd, 1) := by decide +kernel
theorem dX10_sight_74 : decode cX10_sight 74 = .ok (.putfield 211, 3) := by decide +kernel
theorem dX10_sight_77 : decode cX10_sight 77 = .ok (.aload_n 0, 1) := by decide +kernel
theorem dX10_sight_78 : decode cX10_sight 78 = .ok (.getfield 211, 3) := by decide +kernel
theorem dX10_sight_81 : decode cX10_sight 81 = .ok (.ireturn, 1) := by decide +kernel
theorem dX10_unsight_0 : decode cX10_unsight 0 = .ok (.aload_n 0, 1) := by decide +kernel
theorem dX10_unsight_1 : decode cX10_unsight 1 = .ok (.getfield 211, 3) := by decide +kernel
theorem dX10_unsight_4 : decode cX10_unsight 4 = .ok (.istore_n 1, 1) := by decide +kernel
theorem dX10_unsight_5 : decode cX10_unsight 5 = .ok (.aload_n 0, 1) := by decide +kernel
theorem dX10_unsight_6 : decode cX10_unsight 6 = .ok (.iconst 0, 1) := by decide +kernel
theorem dX10_unsight_7 : decode cX10_unsight 7 = .ok (.putfield 211, 3) := by decide +kernel
theorem dX10_unsight_10 : decode cX10_unsight 10 = .ok (.iload_n 1, 1) := by decide +kernel
theorem dX10_unsight_11 : decode cX10_unsight 11 = .ok (.ireturn, 1) := by decide +kernel
theorem dX10_hiddenThere_0 : decode cX10_hiddenThere 0 = .ok (.iconst 1, 1) := by decide +kernel
theorem dX10_hiddenThere_1 : decode cX10_hiddenThere 1 = .ok (.aload_n 0, 1) := by decide +kernel
theorem dX10_hiddenThere_2 : decode cX10_hiddenThere 2 = .ok (.invokevirtual 105, 3) := by decide +kernel
theorem dX10_hiddenThere_5 : decode cX10_hiddenThere 5 = .ok (.ishl, 1) := by decide +kernel
theorem dX10_hiddenThere_6 : decode cX10_hiddenThere 6 = .ok (.iconst 1, 1) := by decide +kernel
theorem dX10_hiddenThere_7 : decode cX10_hiddenThere 7 = .ok (.isub, 1) := by decide +kernel
theorem dX10_hiddenThere_8 : decode cX10_hiddenThere 8 = .ok (.aload_n 0, 1) := by decide +kernel
theorem dX10_hiddenThere_9 : decode cX10_hiddenThere 9 = .ok (.getfield 7, 3) := by decide +kernel
theorem dX10_hiddenThere_12 : decode cX10_hiddenThere 12 = .ok (.bipush 9, 2) := by decide +kernel
theorem dX10_hiddenThere_14 : decode cX10_hiddenThere 14 = .ok (.iaload, 1) := by decide +kernel
theorem dX10_hiddenThere_15 : decode cX10_hiddenThere 15 = .ok (.iand, 1) := by decide +kernel
theorem dX10_hiddenThere_16 : decode cX10_hiddenThere 16 = .ok (.aload_n 0, 1) := by decide +kernel
theorem dX10_hiddenThere_17 : decode cX10_hiddenThere 17 = .ok (.getfield 7, 3) := by decide +kernel
theorem dX10_hiddenThere_20 : decode cX10_hiddenThere 20 = .ok (.bipush 8, 2) := by decide +kernel
theorem dX10_hiddenThere_22 : decode cX10_hiddenThere 22 = .ok (.iaload, 1) := by decide +kernel
theorem dX10_hiddenThere_23 : decode cX10_hiddenThere 23 = .ok (.iconst (-1), 1) := by decide +kernel
theorem dX10_hiddenThere_24 : decode cX10_hiddenThere 24 = .ok (.ixor, 1) := by decide +kernel
theorem dX10_hiddenThere_25 : decode cX10_hiddenThere 25 = .ok (.iand, 1) := by decide +kernel
theorem dX10_hiddenThere_26 : decode cX10_hiddenThere 26 = .ok (.ireturn, 1) := by decide +kernel
theorem dX10_isSighted_0 : decode cX10_isSighted 0 = .ok (.iconst 1, 1) := by decide +kernel
theorem dX10_isSighted_1 : decode cX10_isSighted 1 = .ok (.istore_n 2, 1) := by decide +kernel
theorem dX10_isSighted_2 : decode cX10_isSighted 2 = .ok (.iconst 0, 1) := by decide +kernel
theorem dX10_isSighted_3 : decode cX10_isSighted 3 = .ok (.istore_n 3, 1) := by decide +kernel
theorem dX10_isSighted_4 : decode cX10_isSighted 4 = .ok (.iload_n 3, 1) := by decide +kernel
theorem dX10_isSighted_5 : decode cX10_isSighted 5 = .ok (.aload_n 0, 1) := by decide +kernel
theorem dX10_isSighted_6 : decode cX10_isSighted 6 = .ok (.getfield 211, 3) := by decide +kernel
theorem dX10_isSighted_9 : decode cX10_isSighted 9 = .ok (.if_icmp .ge 87, 3) := by decide +kernel
theorem dX10_isSighted_12 : decode cX10_isSighted 12 = .ok (.aload_n 0, 1) := by decide +kernel
theorem dX10_isSighted_13 : decode cX10_isSighted 13 = .ok (.getfield 19, 3) := by decide +kernel
theorem dX10_isSighted_16 : decode cX10_isSighted 16 = .ok (.iload_n 3, 1) := by decide +kernel
theorem dX10_isSighted_17 : decode cX10_isSighted 17 = .ok (.iaload, 1) := by decide +kernel
theorem dX10_isSighted_18 : decode cX10_isSighted 18 = .ok (.istore 4, 2) := by decide +kernel
theorem dX10_isSighted_20 : decode cX10_isSighted 20 = .ok (.aload_n 0, 1) := by decide +kernel
theorem dX10_isSighted_21 : decode cX10_isSighted 21 = .ok (.iload 4, 2) := by decide +kernel
theorem dX10_isSighted_23 : decode cX10_isSighted 23 = .ok (.invokevirtual 128, 3) := by decide +kernel
theorem dX10_isSighted_26 : decode cX10_isSighted 26 = .ok (.ifCond .eq 64, 3) := by decide +kernel
theorem dX10_isSighted_29 : decode cX10_isSighted 29 = .ok (.aload_n 0, 1) := by decide +kernel
theorem dX10_isSighted_30 : decode cX10_isSighted 30 = .ok (.iload 4, 2) := by decide +kernel
theorem dX10_isSighted_32 : decode cX10_isSighted 32 = .ok (.iload_n 1, 1) := by decide +kernel
theorem dX10_isSighted_33 : decode cX10_isSighted 33 = .ok (.aload_n 0, 1) := by decide +kernel
theorem dX10_isSighted_34 : decode cX10_isSighted 34 = .ok (.getfield 7, 3) := by decide +kernel
theorem dX10_isSighted_37 : decode cX10_isSighted 37 = .ok (.bipush 11, 2) := by decide +kernel
theorem dX10_isSighted_39 : decode cX10_isSighted 39 = .ok (.iaload, 1) := by decide +kernel
theorem dX10_isSighted_40 : decode cX10_isSighted 40 = .ok (.invokevirtual 118, 3) := by decide +kernel
theorem dX10_isSighted_43 : decode cX10_isSighted 43 = .ok (.invokestatic 115, 3) := by decide +kernel
theorem dX10_isSighted_46 : decode cX10_isSighted 46 = .ok (.iload_n 1, 1) := by decide +kernel
theorem dX10_isSighted_47 : decode cX10_isSighted 47 = .ok (.iload 4, 2) := by decide +kernel
theorem dX10_isSighted_49 : decode cX10_isSighted 49 = .ok (.ishr, 1) := by decide +kernel
theorem dX10_isSighted_50 : decode cX10_isSighted 50 = .ok (.iconst 1, 1) := by decide +kernel
theorem dX10_isSighted_51 : decode cX10_isSighted 51 = .ok (.iand, 1) := by decide +kernel
theorem dX10_isSighted_52 : decode cX10_isSighted 52 = .ok (.iadd, 1) := by decide +kernel
theorem dX10_isSighted_53 : decode cX10_isSighted 53 = .ok (.istore 5, 2) := by decide +kernel
theorem dX10_isSighted_55 : decode cX10_isSighted 55 = .ok (.iload_n 2, 1) := by decide +kernel
theorem dX10_isSighted_56 : decode cX10_isSighted 56 = .ok (.ifCond .eq 32, 3) := by decide +kernel
theorem dX10_isSighted_59 : decode cX10_isSighted 59 = .ok (.iload 5, 2) := by decide +kernel
theorem dX10_isSighted_61 : decode cX10_isSighted 61 = .ok (.aload_n 0, 1) := by decide +kernel
theorem dX10_isSighted_62 : decode cX10_isSighted 62 = .ok (.getfield 22, 3) := by decide +kernel
theorem dX10_isSighted_65 : decode cX10_isSighted 65 = .ok (.iload_n 3, 1) := by decide +kernel
theorem dX10_isSighted_66 : decode cX10_isSighted 66 = .ok (.iaload, 1) := by decide +kernel
theorem dX10_isSighted_67 : decode cX10_isSighted 67 = .ok (.if_icmp .lt 7, 3) := by decide +kernel
theorem dX10_isSighted_70 : decode cX10_isSighted 70 = .ok (.iconst 1, 1) := by decide +kernel
theorem dX10_isSighted_71 : decode cX10_isSighted 71 = .ok (.goto 4, 3) := by decide +kernel
theorem dX10_isSighted_74 : decode cX10_isSighted 74 = .ok (.iconst 0, 1) := by decide +kernel
theorem dX10_isSighted_75 : decode cX10_isSighted 75 = .ok (.aload_n 0, 1) := by decide +kernel
theorem dX10_isSighted_76 : decode cX10_isSighted 76 = .ok (.getfield 25, 3) := by decide +kernel
theorem dX10_isSighted_79 : decode cX10_isSighted 79 = .ok (.iload_n 3, 1) := by decide +kernel
theorem dX10_isSighted_80 : decode cX10_isSighted 80 = .ok (.baload, 1) := by decide +kernel
theorem dX10_isSighted_81 : decode cX10_isSighted 81 = .ok (.if_icmp .ne 7, 3) := by decide +kernel
theorem dX10_isSighted_84 : decode cX10_isSighted 84 = .ok (.iconst 1, 1) := by decide +kernel
theorem dX10_isSighted_85 : decode cX10_isSighted 85 = .ok (.goto 4, 3) := by decide +kernel
theorem dX10_isSighted_88 : decode cX10_isSighted 88 = .ok (.iconst 0, 1) := by decide +kernel
theorem dX10_isSighted_89 : decode cX10_isSighted 89 = .ok (.istore_n 2, 1) := by decide +kernel
theorem dX10_isSighted_90 : decode cX10_isSighted 90 = .ok (.iinc 3 1, 3) := by decide +kernel
theorem dX10_isSighted_93 : decode cX10_isSighted 93 = .ok (.goto (-89), 3) := by decide +kernel
theorem dX10_isSighted_96 : decode cX10_isSighted 96 = .ok (.iload_n 2, 1) := by decide +kernel
theorem dX10_isSighted_97 : decode cX10_isSighted 97 = .ok (.ireturn, 1) := by decide +kernel
theorem dX10_layWorlds_0 : decode cX10_layWorlds 0 = .ok (.aload_n 0, 1) := by decide +kernel
theorem dX10_layWorlds_1 : decode cX10_layWorlds 1 = .ok (.invokevirtual 214, 3) := by decide +kernel
theorem dX10_layWorlds_4 : decode cX10_layWorlds 4 = .ok (.istore_n 1, 1) := by decide +kernel
theorem dX10_layWorlds_5 : decode cX10_layWorlds 5 = .ok (.aload_n 0, 1) := by decide +kernel
theorem dX10_layWorlds_6 : decode cX10_layWorlds 6 = .ok (.iconst 0, 1) := by decide +kernel
theorem dX10_layWorlds_7 : decode cX10_layWorlds 7 = .ok (.putfield 217, 3) := by decide +kernel
theorem dX10_layWorlds_10 : decode cX10_layWorlds 10 = .ok (.aload_n 0, 1) := by decide +kernel
theorem dX10_layWorlds_11 : decode cX10_layWorlds 11 = .ok (.iload_n 1, 1) := by decide +kernel
theorem dX10_layWorlds_12 : decode cX10_layWorlds 12 = .ok (.putfield 220, 3) := by decide +kernel
theorem dX10_layWorlds_15 : decode cX10_layWorlds 15 = .ok (.aload_n 0, 1) := by decide +kernel
theorem dX10_layWorlds_16 : decode cX10_layWorlds 16 = .ok (.iconst 0, 1) := by decide +kernel
theorem dX10_layWorlds_17 : decode cX10_layWorlds 17 = .ok (.putfield 223, 3) := by decide +kernel
theorem dX10_layWorlds_20 : decode cX10_layWorlds 20 = .ok (.iconst 0, 1) := by decide +kernel
theorem dX10_layWorlds_21 : decode cX10_layWorlds 21 = .ok (.istore_n 2, 1) := by decide +kernel
theorem dX10_layWorlds_22 : decode cX10_layWorlds 22 = .ok (.iload_n 2, 1) := by decide +kernel
theorem dX10_layWorlds_23 : decode cX10_layWorlds 23 = .ok (.bipush 8, 2) := by decide +kernel
theorem dX10_layWorlds_25 : decode cX10_layWorlds 25 = .ok (.if_icmp .ge 16, 3) := by decide +kernel
theorem dX10_layWorlds_28 : decode cX10_layWorlds 28 = .ok (.aload_n 0, 1) := by decide +kernel
theorem dX10_layWorlds_29 : decode cX10_layWorlds 29 = .ok (.getfield 29, 3) := by decide +kernel
theorem dX10_layWorlds_32 : decode cX10_layWorlds 32 = .ok (.iload_n 2, 1) := by decide +kernel
theorem dX10_layWorlds_33 : decode cX10_layWorlds 33 = .ok (.iconst 0, 1) := by decide +kernel
theorem dX10_layWorlds_34 : decode cX10_layWorlds 34 = .ok (.iastore, 1) := by decide +kernel
theorem dX10_layWorlds_35 : decode cX10_layWorlds 35 = .ok (.iinc 2 1, 3) := by decide +kernel
theorem dX10_layWorlds_38 : decode cX10_layWorlds 38 = .ok (.goto (-16), 3) := by decide +kernel
theorem dX10_layWorlds_41 : decode cX10_layWorlds 41 = .ok (.iconst 0, 1) := by decide +kernel
theorem dX10_layWorlds_42 : decode cX10_layWorlds 42 = .ok (.istore_n 2, 1) := by decide +kernel
theorem dX10_layWorlds_43 : decode cX10_layWorlds 43 = .ok (.iload_n 2, 1) := by decide +kernel
theorem dX10_layWorlds_44 : decode cX10_layWorlds 44 = .ok (.sipush 256, 3) := by decide +kernel
theorem dX10_layWorlds_47 : decode cX10_layWorlds 47 = .ok (.if_icmp .ge 89, 3) := by decide +kernel
theorem dX10_layWorlds_50 : decode cX10_layWorlds 50 = .ok (.iload_n 2, 1) := by decide +kernel
theorem dX10_layWorlds_51 : decode cX10_layWorlds 51 = .ok (.iload_n 1, 1) := by decide +kernel
theorem dX10_layWorlds_52 : decode cX10_layWorlds 52 = .ok (.iconst (-1), 1) := by decide +kernel
theorem dX10_layWorlds_53 : decode cX10_layWorlds 53 = .ok (.ixor, 1) := by decide +kernel
theorem dX10_layWorlds_54 : decode cX10_layWorlds 54 = .ok (.iand, 1) := by decide +kernel
theorem dX10_layWorlds_55 : decode cX10_layWorlds 55 = .ok (.ifCond .ne 75, 3) := by decide +kernel
theorem dX10_layWorlds_58 : decode cX10_layWorlds 58 = .ok (.aload_n 0, 1) := by decide +kernel
theorem dX10_layWorlds_59 : decode cX10_layWorlds 59 = .ok (.aload_n 0, 1) := by decide +kernel
theorem dX10_layWorlds_60 : decode cX10_layWorlds 60 = .ok (.iconst 0, 1) := by decide +kernel
theorem dX10_layWorlds_61 : decode cX10_layWorlds 61 = .ok (.invokevirtual 122, 3) := by decide +kernel
theorem dX10_layWorlds_64 : decode cX10_layWorlds 64 = .ok (.iload_n 2, 1) := by decide +kernel
theorem dX10_layWorlds_65 : decode cX10_layWorlds 65 = .ok (.ior, 1) := by decide +kernel
theorem dX10_layWorlds_66 : decode cX10_layWorlds 66 = .ok (.invokevirtual 226, 3) := by decide +kernel
theorem dX10_layWorlds_69 : decode cX10_layWorlds 69 = .ok (.ifCond .eq 61, 3) := by decide +kernel
theorem dX10_layWorlds_72 : decode cX10_layWorlds 72 = .ok (.aload_n 0, 1) := by decide +kernel
theorem dX10_layWorlds_73 : decode cX10_layWorlds 73 = .ok (.dup, 1) := by decide +kernel
theorem dX10_layWorlds_74 : decode cX10_layWorlds 74 = .ok (.getfield 217, 3) := by decide +kernel
theorem dX10_layWorlds_77 : decode cX10_layWorlds 77 = .ok (.iconst 1, 1) := by decide +kernel
theorem dX10_layWorlds_78 : decode cX10_layWorlds 78 = .ok (.iadd, 1) := by decide +kernel
theorem dX10_layWorlds_79 : decode cX10_layWorlds 79 = .ok (.putfield 217, 3) := by decide +kernel
theorem dX10_layWorlds_82 : decode cX10_layWorlds 82 = .ok (.aload_n 0, 1) := by decide +kernel
theorem dX10_layWorlds_83 : decode cX10_layWorlds 83 = .ok (.dup, 1) := by decide +kernel
theorem dX10_layWorlds_84 : decode cX10_layWorlds 84 = .ok (.getfield 220, 3) := by decide +kernel
theorem dX10_layWorlds_87 : decode cX10_layWorlds 87 = .ok (.iload_n 2, 1) := by decide +kernel
theorem dX10_layWorlds_88 : decode cX10_layWorlds 88 = .ok (.iand, 1) := by decide +kernel
theorem dX10_layWorlds_89 : decode cX10_layWorlds 89 = .ok (.putfield 220, 3) := by decide +kernel
theorem dX10_layWorlds_92 : decode cX10_layWorlds 92 = .ok (.aload_n 0, 1) := by decide +kernel
theorem dX10_layWorlds_93 : decode cX10_layWorlds 93 = .ok (.dup, 1) := by decide +kernel
theorem dX10_layWorlds_94 : decode cX10_layWorlds 94 = .ok (.getfield 223, 3) := by decide +kernel
theorem dX10_layWorlds_97 : decode cX10_layWorlds 97 = .ok (.iload_n 2, 1) := by decide +kernel
theorem dX10_layWorlds_98 : decode cX10_layWorlds 98 = .ok (.ior, 1) := by decide +kernel
theorem dX10_layWorlds_99 : decode cX10_layWorlds 99 = .ok (.putfield 223, 3) := by decide +kernel
theorem dX10_layWorlds_102 : decode cX10_layWorlds 102 = .ok (.iconst 0, 1) := by decide +kernel
theorem dX10_layWorlds_103 : decode cX10_layWorlds 103 = .ok (.istore_n 3, 1) := by decide +kernel
theorem dX10_layWorlds_104 : decode cX10_layWorlds 104 = .ok (.iload_n 3, 1) := by decide +kernel
theorem dX10_layWorlds_105 : decode cX10_layWorlds 105 = .ok (.bipush 8, 2) := by decide +kernel
theorem dX10_layWorlds_107 : decode cX10_layWorlds 107 = .ok (.if_icmp .ge 23, 3) := by decide +kernel
theorem dX10_layWorlds_110 : decode cX10_layWorlds 110 = .ok (.aload_n 0, 1) := by decide +kernel
theorem dX10_layWorlds_111 : decode cX10_layWorlds 111 = .ok (.getfield 29, 3) := by decide +kernel
theorem dX10_layWorlds_114 : decode cX10_layWorlds 114 = .ok (.iload_n 3, 1) := by decide +kernel
theorem dX10_layWorlds_115 : decode cX10_layWorlds 115 = .ok (.dup2, 1) := by decide +kernel
theorem dX10_layWorlds_116 : decode cX10_layWorlds 116 = .ok (.iaload, 1) := by decide +kernel
theorem dX10_layWorlds_117 : decode cX10_layWorlds 117 = .ok (.iload_n 2, 1) := by decide +kernel
theorem dX10_layWorlds_118 : decode cX10_layWorlds 118 = .ok (.iload_n 3, 1) := by decide +kernel
theorem dX10_layWorlds_119 : decode cX10_layWorlds 119 = .ok (.ishr, 1) := by decide +kernel
theorem dX10_layWorlds_120 : decode cX10_layWorlds 120 = .ok (.iconst 1, 1) := by decide +kernel
theorem dX10_layWorlds_121 : decode cX10_layWorlds 121 = .ok (.iand, 1) := by decide +kernel
theorem dX10_layWorlds_122 : decode cX10_layWorlds 122 = .ok (.iadd, 1) := by decide +kernel
theorem dX10_layWorlds_123 : decode cX10_layWorlds 123 = .ok (.iastore, 1) := by decide +kernel
theorem dX10_layWorlds_124 : decode cX10_layWorlds 124 = .ok (.iinc 3 1, 3) := by decide +kernel
theorem dX10_layWorlds_127 : decode cX10_layWorlds 127 = .ok (.goto (-23), 3) := by decide +kernel
theorem dX10_layWorlds_130 : decode cX10_layWorlds 130 = .ok (.iinc 2 1, 3) := by decide +kernel
theorem dX10_layWorlds_133 : decode cX10_layWorlds 133 = .ok (.goto (-90), 3) := by decide +kernel
theorem dX10_layWorlds_136 : decode cX10_layWorlds 136 = .ok (.return_, 1) := by decide +kernel
theorem dX10_worlds_0 : decode cX10_worlds 0 = .ok (.iload_n 1, 1) := by decide +kernel
theorem dX10_worlds_1 : decode cX10_worlds 1 = .ok (.i2l, 1) := by decide +kernel
theorem dX10_worlds_2 : decode cX10_worlds 2 = .ok (.lconst 0, 1) := by decide +kernel
theorem dX10_worlds_3 : decode cX10_worlds 3 = .ok (.ldc2_w 167, 3) := by decide +kernel
theorem dX10_worlds_6 : decode cX10_worlds 6 = .ok (.invokestatic 58, 3) := by decide +kernel
theorem dX10_worlds_9 : decode cX10_worlds 9 = .ok (.ifCond .ne 6, 3) := by decide +kernel
theorem dX10_worlds_12 : decode cX10_worlds 12 = .ok (.bipush (-2), 2) := by decide +kernel
theorem dX10_worlds_14 : decode cX10_worlds 14 = .ok (.ireturn, 1) := by decide +kernel
theorem dX10_worlds_15 : decode cX10_worlds 15 = .ok (.aload_n 0, 1) := by decide +kernel
theorem dX10_worlds_16 : decode cX10_worlds 16 = .ok (.invokevirtual 229, 3) := by decide +kernel
theorem dX10_worlds_19 : decode cX10_worlds 19 = .ok (.iload_n 1, 1) := by decide +kernel
theorem dX10_worlds_20 : decode cX10_worlds 20 = .ok (.ifCond .ne 10, 3) := by decide +kernel
theorem dX10_worlds_23 : decode cX10_worlds 23 = .ok (.aload_n 0, 1) := by decide +kernel
theorem dX10_worlds_24 : decode cX10_worlds 24 = .ok (.getfield 217, 3) := by decide +kernel
theorem dX10_worlds_27 : decode cX10_worlds 27 = .ok (.goto 38, 3) := by decide +kernel
theorem dX10_worlds_30 : decode cX10_worlds 30 = .ok (.aload_n 0, 1) := by decide +kernel
theorem dX10_worlds_31 : decode cX10_worlds 31 = .ok (.getfield 217, 3) := by decide +kernel
theorem dX10_worlds_34 : decode cX10_worlds 34 = .ok (.ifCond .ne 8, 3) := by decide +kernel
theorem dX10_worlds_37 : decode cX10_worlds 37 = .ok (.bipush (-9), 2) := by decide +kernel
theorem dX10_worlds_39 : decode cX10_worlds 39 = .ok (.goto 26, 3) := by decide +kernel
theorem dX10_worlds_42 : decode cX10_worlds 42 = .ok (.iload_n 1, 1) := by decide +kernel
theorem dX10_worlds_43 : decode cX10_worlds 43 = .ok (.iconst 1, 1) := by decide +kernel
theorem dX10_worlds_44 : decode cX10_worlds 44 = .ok (.if_icmp .ne 10, 3) := by decide +kernel
theorem dX10_worlds_47 : decode cX10_worlds 47 = .ok (.aload_n 0, 1) := by decide +kernel
theorem dX10_worlds_48 : decode cX10_worlds 48 = .ok (.getfield 220, 3) := by decide +kernel
theorem dX10_worlds_51 : decode cX10_worlds 51 = .ok (.goto 14, 3) := by decide +kernel
theorem dX10_worlds_54 : decode cX10_worlds 54 = .ok (.aload_n 0, 1) := by decide +kernel
theorem dX10_worlds_55 : decode cX10_worlds 55 = .ok (.invokevirtual 214, 3) := by decide +kernel
theorem dX10_worlds_58 : decode cX10_worlds 58 = .ok (.aload_n 0, 1) := by decide +kernel
theorem dX10_worlds_59 : decode cX10_worlds 59 = .ok (.getfield 223, 3) := by decide +kernel
theorem dX10_worlds_62 : decode cX10_worlds 62 = .ok (.iconst (-1), 1) := by decide +kernel
theorem dX10_worlds_63 : decode cX10_worlds 63 = .ok (.ixor, 1) := by decide +kernel
theorem dX10_worlds_64 : decode cX10_worlds 64 = .ok (.iand, 1) := by decide +kernel
theorem dX10_worlds_65 : decode cX10_worlds 65 = .ok (.ireturn, 1) := by decide +kernel
theorem dX10_toSeek_0 : decode cX10_toSeek 0 = .ok (.aload_n 0, 1) := by decide +kernel
theorem dX10_toSeek_1 : decode cX10_toSeek 1 = .ok (.invokevirtual 229, 3) := by decide +kernel
theorem dX10_toSeek_4 : decode cX10_toSeek 4 = .ok (.bipush (-9), 2) := by decide +kernel
theorem dX10_toSeek_6 : decode cX10_toSeek 6 = .ok (.istore_n 1, 1) := by decide +kernel
theorem dX10_toSeek_7 : decode cX10_toSeek 7 = .ok (.bipush (-9), 2) := by decide +kernel
theorem dX10_toSeek_9 : decode cX10_toSeek 9 = .ok (.istore_n 2, 1) := by decide +kernel
theorem dX10_toSeek_10 : decode cX10_toSeek 10 = .ok (.iconst 0, 1) := by decide +kernel
theorem dX10_toSeek_11 : decode cX10_toSeek 11 = .ok (.istore_n 3, 1) := by decide +kernel
theorem dX10_toSeek_12 : decode cX10_toSeek 12 = .ok (.iload_n 3, 1) := by decide +kernel
theorem dX10_toSeek_13 : decode cX10_toSeek 13 = .ok (.aload_n 0, 1) := by decide +kernel
theorem dX10_toSeek_14 : decode cX10_toSeek 14 = .ok (.invokevirtual 105, 3) := by decide +kernel
theorem dX10_toSeek_17 : decode cX10_toSeek 17 = .ok (.if_icmp .ge 105, 3) := by decide +kernel
theorem dX10_toSeek_20 : decode cX10_toSeek 20 = .ok (.aload_n 0, 1) := by decide +kernel
theorem dX10_toSeek_21 : decode cX10_toSeek 21 = .ok (.getfield 217, 3) := by decide +kernel
theorem dX10_toSeek_24 : decode cX10_toSeek 24 = .ok (.ifCond .le 98, 3) := by decide +kernel
theorem dX10_toSeek_27 : decode cX10_toSeek 27 = .ok (.aload_n 0, 1) := by decide +kernel
theorem dX10_toSeek_28 : decode cX10_toSeek 28 = .ok (.getfield 29, 3) := by decide +kernel
theorem dX10_toSeek_31 : decode cX10_toSeek 31 = .ok (.iload_n 3, 1) := by decide +kernel
theorem dX10_toSeek_32 : decode cX10_toSeek 32 = .ok (.iaload, 1) := by decide +kernel
theorem dX10_toSeek_33 : decode cX10_toSeek 33 = .ok (.aload_n 0, 1) := by decide +kernel
theorem dX10_toSeek_34 : decode cX10_toSeek 34 = .ok (.getfield 217, 3) := by decide +kernel
theorem dX10_toSeek_37 : decode cX10_toSeek 37 = .ok (.aload_n 0, 1) := by decide +kernel
theorem dX10_toSeek_38 : decode cX10_toSeek 38 = .ok (.getfield 29, 3) := by decide +kernel
theorem dX10_toSeek_41 : decode cX10_toSeek 41 = .ok (.iload_n 3, 1) := by decide +kernel
theorem dX10_toSeek_42 : decode cX10_toSeek 42 = .ok (.iaload, 1) := by decide +kernel
theorem dX10_toSeek_43 : decode cX10_toSeek 43 = .ok (.isub, 1) := by decide +kernel
theorem dX10_toSeek_44 : decode cX10_toSeek 44 = .ok (.if_icmp .ge 12, 3) := by decide +kernel
theorem dX10_toSeek_47 : decode cX10_toSeek 47 = .ok (.aload_n 0, 1) := by decide +kernel
theorem dX10_toSeek_48 : decode cX10_toSeek 48 = .ok (.getfield 29, 3) := by decide +kernel
theorem dX10_toSeek_51 : decode cX10_toSeek 51 = .ok (.iload_n 3, 1) := by decide +kernel
theorem dX10_toSeek_52 : decode cX10_toSeek 52 = .ok (.iaload, 1) := by decide +kernel
theorem dX10_toSeek_53 : decode cX10_toSeek 53 = .ok (.goto 14, 3) := by decide +kernel
theorem dX10_toSeek_56 : decode cX10_toSeek 56 = .ok (.aload_n 0, 1) := by decide +kernel
theorem dX10_toSeek_57 : decode cX10_toSeek 57 = .ok (.getfield 217, 3) := by decide +kernel
theorem dX10_toSeek_60 : decode cX10_toSeek 60 = .ok (.aload_n 0, 1) := by decide +kernel
theorem dX10_toSeek_61 : decode cX10_toSeek 61 = .ok (.getfield 29, 3) := by decide +kernel
theorem dX10_toSeek_64 : decode cX10_toSeek 64 = .ok (.iload_n 3, 1) := by decide +kernel
theorem dX10_toSeek_65 : decode cX10_toSeek 65 = .ok (.iaload, 1) := by decide +kernel
theorem dX10_toSeek_66 : decode cX10_toSeek 66 = .ok (.isub, 1) := by decide +kernel
theorem dX10_toSeek_67 : decode cX10_toSeek 67 = .ok (.istore 4, 2) := by decide +kernel
theorem dX10_toSeek_69 : decode cX10_toSeek 69 = .ok (.aload_n 0, 1) := by decide +kernel
theorem dX10_toSeek_70 : decode cX10_toSeek 70 = .ok (.invokevirtual 214, 3) := by decide +kernel
theorem dX10_toSeek_73 : decode cX10_toSeek 73 = .ok (.iload_n 3, 1) := by decide +kernel
theorem dX10_toSeek_74 : decode cX10_toSeek 74 = .ok (.invokestatic 108, 3) := by decide +kernel
theorem dX10_toSeek_77 : decode cX10_toSeek 77 = .ok (.ifCond .eq 13, 3) := by decide +kernel
theorem dX10_toSeek_80 : decode cX10_toSeek 80 = .ok (.iload 4, 2) := by decide +kernel
theorem dX10_toSeek_82 : decode cX10_toSeek 82 = .ok (.iload_n 2, 1) := by decide +kernel
theorem dX10_toSeek_83 : decode cX10_toSeek 83 = .ok (.if_icmp .le 7, 3) := by decide +kernel
theorem dX10_toSeek_86 : decode cX10_toSeek 86 = .ok (.iconst 1, 1) := by decide +kernel
theorem dX10_toSeek_87 : decode cX10_toSeek 87 = .ok (.goto 4, 3) := by decide +kernel
theorem dX10_toSeek_90 : decode cX10_toSeek 90 = .ok (.iconst 0, 1) := by decide +kernel
theorem dX10_toSeek_91 : decode cX10_toSeek 91 = .ok (.istore 5, 2) := by decide +kernel
theorem dX10_toSeek_93 : decode cX10_toSeek 93 = .ok (.iload 5, 2) := by decide +kernel
theorem dX10_toSeek_95 : decode cX10_toSeek 95 = .ok (.ifCond .eq 7, 3) := by decide +kernel
theorem dX10_toSeek_98 : decode cX10_toSeek 98 = .ok (.iload_n 3, 1) := by decide +kernel
theorem dX10_toSeek_99 : decode cX10_toSeek 99 = .ok (.goto 4, 3) := by decide +kernel
theorem dX10_toSeek_102 : decode cX10_toSeek 102 = .ok (.iload_n 1, 1) := by decide +kernel
theorem dX10_toSeek_103 : decode cX10_toSeek 103 = .ok (.istore_n 1, 1) := by decide +kernel
theorem dX10_toSeek_104 : decode cX10_toSeek 104 = .ok (.iload 5, 2) := by decide +kernel
theorem dX10_toSeek_106 : decode cX10_toSeek 106 = .ok (.ifCond .eq 8, 3) := by decide +kernel
theorem dX10_toSeek_109 : decode cX10_toSeek 109 = .ok (.iload 4, 2) := by decide +kernel
theorem dX10_toSeek_111 : decode cX10_toSeek 111 = .ok (.goto 4, 3) := by decide +kernel
theorem dX10_toSeek_114 : decode cX10_toSeek 114 = .ok (.iload_n 2, 1) := by decide +kernel
theorem dX10_toSeek_115 : decode cX10_toSeek 115 = .ok (.istore_n 2, 1) := by decide +kernel
theorem dX10_toSeek_116 : decode cX10_toSeek 116 = .ok (.iinc 3 1, 3) := by decide +kernel
theorem dX10_toSeek_119 : decode cX10_toSeek 119 = .ok (.goto (-107), 3) := by decide +kernel
theorem dX10_toSeek_122 : decode cX10_toSeek 122 = .ok (.iload_n 1, 1) := by decide +kernel
theorem dX10_toSeek_123 : decode cX10_toSeek 123 = .ok (.ireturn, 1) := by decide +kernel
theorem dX10_canMove_0 : decode cX10_canMove 0 = .ok (.iload_n 2, 1) := by decide +kernel
theorem dX10_canMove_1 : decode cX10_canMove 1 = .ok (.ifCond .ne 5, 3) := by decide +kernel
theorem dX10_canMove_4 : decode cX10_canMove 4 = .ok (.iconst 1, 1) := by decide +kernel
theorem dX10_canMove_5 : decode cX10_canMove 5 = .ok (.ireturn, 1) := by decide +kernel
theorem dX10_canMove_6 : decode cX10_canMove 6 = .ok (.iload_n 2, 1) := by decide +kernel
theorem dX10_canMove_7 : decode cX10_canMove 7 = .ok (.bipush 10, 2) := by decide +kernel
theorem dX10_canMove_9 : decode cX10_canMove 9 = .ok (.if_icmp .le 10, 3) := by decide +kernel
theorem dX10_canMove_12 : decode cX10_canMove 12 = .ok (.iload_n 2, 1) := by decide +kernel
theorem dX10_canMove_13 : decode cX10_canMove 13 = .ok (.bipush 11, 2) := by decide +kernel
theorem dX10_canMove_15 : decode cX10_canMove 15 = .ok (.isub, 1) := by decide +kernel
theorem dX10_canMove_16 : decode cX10_canMove 16 = .ok (.goto 6, 3) := by decide +kernel
theorem dX10_canMove_19 : decode cX10_canMove 19 = .ok (.iload_n 2, 1) := by decide +kernel
theorem dX10_canMove_20 : decode cX10_canMove 20 = .ok (.iconst 1, 1) := by decide +kernel
theorem dX10_canMove_21 : decode cX10_canMove 21 = .ok (.isub, 1) := by decide +kernel
theorem dX10_canMove_22 : decode cX10_canMove 22 = .ok (.istore_n 3, 1) := by decide +kernel
theorem dX10_canMove_23 : decode cX10_canMove 23 = .ok (.aload_n 0, 1) := by decide +kernel
theorem dX10_canMove_24 : decode cX10_canMove 24 = .ok (.iload_n 3, 1) := by decide +kernel
theorem dX10_canMove_25 : decode cX10_canMove 25 = .ok (.invokevirtual 128, 3) := by decide +kernel
theorem dX10_canMove_28 : decode cX10_canMove 28 = .ok (.ifCond .eq 28, 3) := by decide +kernel
theorem dX10_canMove_31 : decode cX10_canMove 31 = .ok (.iload_n 2, 1) := by decide +kernel
theorem dX10_canMove_32 : decode cX10_canMove 32 = .ok (.bipush 8, 2) := by decide +kernel
theorem dX10_canMove_34 : decode cX10_canMove 34 = .ok (.if_icmp .le 9, 3) := by decide +kernel
theorem dX10_canMove_37 : decode cX10_canMove 37 = .ok (.iload_n 2, 1) := by decide +kernel
theorem dX10_canMove_38 : decode cX10_canMove 38 = .ok (.bipush 11, 2) := by decide +kernel
theorem dX10_canMove_40 : decode cX10_canMove 40 = .ok (.if_icmp .lt 16, 3) := by decide +kernel
theorem dX10_canMove_43 : decode cX10_canMove 43 = .ok (.aload_n 0, 1) := by decide +kernel
theorem dX10_canMove_44 : decode cX10_canMove 44 = .ok (.getfield 35, 3) := by decide +kernel
theorem dX10_canMove_47 : decode cX10_canMove 47 = .ok (.iload_n 1, 1) := by decide +kernel
theorem dX10_canMove_48 : decode cX10_canMove 48 = .ok (.iaload, 1) := by decide +kernel
theorem dX10_canMove_49 : decode cX10_canMove 49 = .ok (.iload_n 3, 1) := by decide +kernel
theorem dX10_canMove_50 : decode cX10_canMove 50 = .ok (.invokestatic 108, 3) := by decide +kernel
theorem dX10_canMove_53 : decode cX10_canMove 53 = .ok (.ifCond .eq 5, 3) := by decide +kernel
theorem dX10_canMove_56 : decode cX10_canMove 56 = .ok (.iconst 0, 1) := by decide +kernel
theorem dX10_canMove_57 : decode cX10_canMove 57 = .ok (.ireturn, 1) := by decide +kernel
theorem dX10_canMove_58 : decode cX10_canMove 58 = .ok (.iload_n 2, 1) := by decide +kernel
theorem dX10_canMove_59 : decode cX10_canMove 59 = .ok (.bipush 10, 2) := by decide +kernel
theorem dX10_canMove_61 : decode cX10_canMove 61 = .ok (.if_icmp .le 30, 3) := by decide +kernel
theorem dX10_canMove_64 : decode cX10_canMove 64 = .ok (.aload_n 0, 1) := by decide +kernel
theorem dX10_canMove_65 : decode cX10_canMove 65 = .ok (.getfield 32, 3) := by decide +kernel
theorem dX10_canMove_68 : decode cX10_canMove 68 = .ok (.iload_n 1, 1) := by decide +kernel
theorem dX10_canMove_69 : decode cX10_canMove 69 = .ok (.iaload, 1) := by decide +kernel
theorem dX10_canMove_70 : decode cX10_canMove 70 = .ok (.iload_n 3, 1) := by decide +kernel
theorem dX10_canMove_71 : decode cX10_canMove 71 = .ok (.invokestatic 108, 3) := by decide +kernel
theorem dX10_canMove_74 : decode cX10_canMove 74 = .ok (.ifCond .ne 15, 3) := by decide +kernel
theorem dX10_canMove_77 : decode cX10_canMove 77 = .ok (.aload_n 0, 1) := by decide +kernel
theorem dX10_canMove_78 : decode cX10_canMove 78 = .ok (.iload_n 3, 1) := by decide +kernel
theorem dX10_canMove_79 : decode cX10_canMove 79 = .ok (.invokevirtual 140, 3) := by decide +kernel
theorem dX10_canMove_82 : decode cX10_canMove 82 = .ok (.ifCond .ne 7, 3) := by decide +kernel
theorem dX10_canMove_85 : decode cX10_canMove 85 = .ok (.iconst 1, 1) := by decide +kernel
theorem dX10_canMove_86 : decode cX10_canMove 86 = .ok (.goto 4, 3) := by decide +kernel
theorem dX10_canMove_89 : decode cX10_canMove 89 = .ok (.iconst 0, 1) := by decide +kernel
theorem dX10_canMove_90 : decode cX10_canMove 90 = .ok (.ireturn, 1) := by decide +kernel
theorem dX10_canMove_91 : decode cX10_canMove 91 = .ok (.iconst 1, 1) := by decide +kernel
theorem dX10_canMove_92 : decode cX10_canMove 92 = .ok (.aload_n 0, 1) := by decide +kernel
theorem dX10_canMove_93 : decode cX10_canMove 93 = .ok (.invokevirtual 105, 3) := by decide +kernel
theorem dX10_canMove_96 : decode cX10_canMove 96 = .ok (.ishl, 1) := by decide +kernel
theorem dX10_canMove_97 : decode cX10_canMove 97 = .ok (.iconst 1, 1) := by decide +kernel
theorem dX10_canMove_98 : decode cX10_canMove 98 = .ok (.isub, 1) := by decide +kernel
theorem dX10_canMove_99 : decode cX10_canMove 99 = .ok (.aload_n 0, 1) := by decide +kernel
theorem dX10_canMove_100 : decode cX10_canMove 100 = .ok (.getfield 32, 3) := by decide +kernel
theorem dX10_canMove_103 : decode cX10_canMove 103 = .ok (.iload_n 1, 1) := by decide +kernel
theorem dX10_canMove_104 : decode cX10_canMove 104 = .ok (.iaload, 1) := by decide +kernel
theorem dX10_canMove_105 : decode cX10_canMove 105 = .ok (.iconst (-1), 1) := by decide +kernel
theorem dX10_canMove_106 : decode cX10_canMove 106 = .ok (.ixor, 1) := by decide +kernel
theorem dX10_canMove_107 : decode cX10_canMove 107 = .ok (.iand, 1) := by decide +kernel
theorem dX10_canMove_108 : decode cX10_canMove 108 = .ok (.aload_n 0, 1) := by decide +kernel
theorem dX10_canMove_109 : decode cX10_canMove 109 = .ok (.getfield 7, 3) := by decide +kernel
theorem dX10_canMove_112 : decode cX10_canMove 112 = .ok (.bipush 9, 2) := by decide +kernel
theorem dX10_canMove_114 : decode cX10_canMove 114 = .ok (.iaload, 1) := by decide +kernel
theorem dX10_canMove_115 : decode cX10_canMove 115 = .ok (.iconst (-1), 1) := by decide +kernel
theorem dX10_canMove_116 : decode cX10_canMove 116 = .ok (.ixor, 1) := by decide +kernel
theorem dX10_canMove_117 : decode cX10_canMove 117 = .ok (.iand, 1) := by decide +kernel
theorem dX10_canMove_118 : decode cX10_canMove 118 = .ok (.istore 4, 2) := by decide +kernel
theorem dX10_canMove_120 : decode cX10_canMove 120 = .ok (.aload_n 0, 1) := by decide +kernel
theorem dX10_canMove_121 : decode cX10_canMove 121 = .ok (.iload 4, 2) := by decide +kernel
theorem dX10_canMove_123 : decode cX10_canMove 123 = .ok (.aload_n 0, 1) := by decide +kernel
theorem dX10_canMove_124 : decode cX10_canMove 124 = .ok (.getfield 7, 3) := by decide +kernel
theorem dX10_canMove_127 : decode cX10_canMove 127 = .ok (.bipush 11, 2) := by decide +kernel
theorem dX10_canMove_129 : decode cX10_canMove 129 = .ok (.iaload, 1) := by decide +kernel
theorem dX10_canMove_130 : decode cX10_canMove 130 = .ok (.invokevirtual 125, 3) := by decide +kernel
theorem dX10_canMove_133 : decode cX10_canMove 133 = .ok (.iload_n 3, 1) := by decide +kernel
theorem dX10_canMove_134 : decode cX10_canMove 134 = .ok (.invokestatic 108, 3) := by decide +kernel
theorem dX10_canMove_137 : decode cX10_canMove 137 = .ok (.ireturn, 1) := by decide +kernel
theorem dX10_begin_0 : decode cX10_begin 0 = .ok (.aload_n 0, 1) := by decide +kernel
theorem dX10_begin_1 : decode cX10_begin 1 = .ok (.getfield 32, 3) := by decide +kernel
theorem dX10_begin_4 : decode cX10_begin 4 = .ok (.iload_n 1, 1) := by decide +kernel
theorem dX10_begin_5 : decode cX10_begin 5 = .ok (.iload_n 2, 1) := by decide +kernel
theorem dX10_begin_6 : decode cX10_begin 6 = .ok (.iastore, 1) := by decide +kernel
theorem dX10_begin_7 : decode cX10_begin 7 = .ok (.aload_n 0, 1) := by decide +kernel
theorem dX10_begin_8 : decode cX10_begin 8 = .ok (.getfield 35, 3) := by decide +kernel
theorem dX10_begin_11 : decode cX10_begin 11 = .ok (.iload_n 1, 1) := by decide +kernel
theorem dX10_begin_12 : decode cX10_begin 12 = .ok (.iload_n 3, 1) := by decide +kernel
theorem dX10_begin_13 : decode cX10_begin 13 = .ok (.iastore, 1) := by decide +kernel
theorem dX10_begin_14 : decode cX10_begin 14 = .ok (.aload_n 0, 1) := by decide +kernel
theorem dX10_begin_15 : decode cX10_begin 15 = .ok (.getfield 38, 3) := by decide +kernel
theorem dX10_begin_18 : decode cX10_begin 18 = .ok (.iload_n 1, 1) := by decide +kernel
theorem dX10_begin_19 : decode cX10_begin 19 = .ok (.iconst 0, 1) := by decide +kernel
theorem dX10_begin_20 : decode cX10_begin 20 = .ok (.iastore, 1) := by decide +kernel
theorem dX10_begin_21 : decode cX10_begin 21 = .ok (.aload_n 0, 1) := by decide +kernel
theorem dX10_begin_22 : decode cX10_begin 22 = .ok (.getfield 41, 3) := by decide +kernel
theorem dX10_begin_25 : decode cX10_begin 25 = .ok (.iload_n 1, 1) := by decide +kernel
theorem dX10_begin_26 : decode cX10_begin 26 = .ok (.ldc 232, 2) := by decide +kernel
theorem dX10_begin_28 : decode cX10_begin 28 = .ok (.iastore, 1) := by decide +kernel
theorem dX10_begin_29 : decode cX10_begin 29 = .ok (.aload_n 0, 1) := by decide +kernel
theorem dX10_begin_30 : decode cX10_begin 30 = .ok (.getfield 44, 3) := by decide +kernel
theorem dX10_begin_33 : decode cX10_begin 33 = .ok (.iload_n 1, 1) := by decide +kernel
theorem dX10_begin_34 : decode cX10_begin 34 = .ok (.iconst 0, 1) := by decide +kernel
theorem dX10_begin_35 : decode cX10_begin 35 = .ok (.iastore, 1) := by decide +kernel
theorem dX10_begin_36 : decode cX10_begin 36 = .ok (.return_, 1) := by decide +kernel
theorem dX10_go_0 : decode cX10_go 0 = .ok (.iload_n 2, 1) := by decide +kernel
theorem dX10_go_1 : decode cX10_go 1 = .ok (.bipush 10, 2) := by decide +kernel
theorem dX10_go_3 : decode cX10_go 3 = .ok (.if_icmp .le 10, 3) := by decide +kernel
theorem dX10_go_6 : decode cX10_go 6 = .ok (.iload_n 2, 1) := by decide +kernel
theorem dX10_go_7 : decode cX10_go 7 = .ok (.bipush 11, 2) := by decide +kernel
theorem dX10_go_9 : decode cX10_go 9 = .ok (.isub, 1) := by decide +kernel
theorem dX10_go_10 : decode cX10_go 10 = .ok (.goto 6, 3) := by decide +kernel
theorem dX10_go_13 : decode cX10_go 13 = .ok (.iload_n 2, 1) := by decide +kernel
theorem dX10_go_14 : decode cX10_go 14 = .ok (.iconst 1, 1) := by decide +kernel
theorem dX10_go_15 : decode cX10_go 15 = .ok (.isub, 1) := by decide +kernel
theorem dX10_go_16 : decode cX10_go 16 = .ok (.istore_n 3, 1) := by decide +kernel
theorem dX10_go_17 : decode cX10_go 17 = .ok (.iload_n 2, 1) := by decide +kernel
theorem dX10_go_18 : decode cX10_go 18 = .ok (.bipush 10, 2) := by decide +kernel
theorem dX10_go_20 : decode cX10_go 20 = .ok (.if_icmp .le 16, 3) := by decide +kernel
theorem dX10_go_23 : decode cX10_go 23 = .ok (.aload_n 0, 1) := by decide +kernel
theorem dX10_go_24 : decode cX10_go 24 = .ok (.getfield 32, 3) := by decide +kernel
theorem dX10_go_27 : decode cX10_go 27 = .ok (.iload_n 1, 1) := by decide +kernel
theorem dX10_go_28 : decode cX10_go 28 = .ok (.iaload, 1) := by decide +kernel
theorem dX10_go_29 : decode cX10_go 29 = .ok (.iconst 1, 1) := by decide +kernel
theorem dX10_go_30 : decode cX10_go 30 = .ok (.iload_n 3, 1) := by decide +kernel
theorem dX10_go_31 : decode cX10_go 31 = .ok (.ishl, 1) := by decide +kernel
theorem dX10_go_32 : decode cX10_go 32 = .ok (.ior, 1) := by decide +kernel
theorem dX10_go_33 : decode cX10_go 33 = .ok (.goto 9, 3) := by decide +kernel
theorem dX10_go_36 : decode cX10_go 36 = .ok (.aload_n 0, 1) := by decide +kernel
theorem dX10_go_37 : decode cX10_go 37 = .ok (.getfield 32, 3) := by decide +kernel
theorem dX10_go_40 : decode cX10_go 40 = .ok (.iload_n 1, 1) := by decide +kernel
theorem dX10_go_41 : decode cX10_go 41 = .ok (.iaload, 1) := by decide +kernel
theorem dX10_go_42 : decode cX10_go 42 = .ok (.istore 4, 2) := by decide +kernel
theorem dX10_go_44 : decode cX10_go 44 = .ok (.iload_n 2, 1) := by decide +kernel
theorem dX10_go_45 : decode cX10_go 45 = .ok (.ifCond .le 22, 3) := by decide +kernel
theorem dX10_go_48 : decode cX10_go 48 = .ok (.iload_n 2, 1) := by decide +kernel
theorem dX10_go_49 : decode cX10_go 49 = .ok (.bipush 9, 2) := by decide +kernel
theorem dX10_go_51 : decode cX10_go 51 = .ok (.if_icmp .ge 16, 3) := by decide +kernel
theorem dX10_go_54 : decode cX10_go 54 = .ok (.aload_n 0, 1) := by decide +kernel
theorem dX10_go_55 : decode cX10_go 55 = .ok (.getfield 35, 3) := by decide +kernel
theorem dX10_go_58 : decode cX10_go 58 = .ok (.iload_n 1, 1) := by decide +kernel
theorem dX10_go_59 : decode cX10_go 59 = .ok (.iaload, 1) := by decide +kernel
theorem dX10_go_60 : decode cX10_go 60 = .ok (.iconst 1, 1) := by decide +kernel
theorem dX10_go_61 : decode cX10_go 61 = .ok (.iload_n 3, 1) := by decide +kernel
theorem dX10_go_62 : decode cX10_go 62 = .ok (.ishl, 1) := by decide +kernel
theorem dX10_go_63 : decode cX10_go 63 = .ok (.ior, 1) := by decide +kernel
theorem dX10_go_64 : decode cX10_go 64 = .ok (.goto 9, 3) := by decide +kernel
theorem dX10_go_67 : decode cX10_go 67 = .ok (.aload_n 0, 1) := by decide +kernel
theorem dX10_go_68 : decode cX10_go 68 = .ok (.getfield 35, 3) := by decide +kernel
theorem dX10_go_71 : decode cX10_go 71 = .ok (.iload_n 1, 1) := by decide +kernel
theorem dX10_go_72 : decode cX10_go 72 = .ok (.iaload, 1) := by decide +kernel
theorem dX10_go_73 : decode cX10_go 73 = .ok (.istore 5, 2) := by decide +kernel
theorem dX10_go_75 : decode cX10_go 75 = .ok (.aload_n 0, 1) := by decide +kernel
theorem dX10_go_76 : decode cX10_go 76 = .ok (.getfield 47, 3) := by decide +kernel
theorem dX10_go_79 : decode cX10_go 79 = .ok (.iload_n 1, 1) := by decide +kernel
theorem dX10_go_80 : decode cX10_go 80 = .ok (.iload_n 2, 1) := by decide +kernel
theorem dX10_go_81 : decode cX10_go 81 = .ok (.ifCond .ne 7, 3) := by decide +kernel
theorem dX10_go_84 : decode cX10_go 84 = .ok (.iconst 0, 1) := by decide +kernel
theorem dX10_go_85 : decode cX10_go 85 = .ok (.goto 23, 3) := by decide +kernel
theorem dX10_go_88 : decode cX10_go 88 = .ok (.iload_n 2, 1) := by decide +kernel
theorem dX10_go_89 : decode cX10_go 89 = .ok (.bipush 10, 2) := by decide +kernel
theorem dX10_go_91 : decode cX10_go 91 = .ok (.if_icmp .le 12, 3) := by decide +kernel
theorem dX10_go_94 : decode cX10_go 94 = .ok (.aload_n 0, 1) := by decide +kernel
theorem dX10_go_95 : decode cX10_go 95 = .ok (.iload_n 3, 1) := by decide +kernel
theorem dX10_go_96 : decode cX10_go 96 = .ok (.invokevirtual 137, 3) := by decide +kernel
theorem dX10_go_99 : decode cX10_go 99 = .ok (.ineg, 1) := by decide +kernel
theorem dX10_go_100 : decode cX10_go 100 = .ok (.goto 8, 3) := by decide +kernel
theorem dX10_go_103 : decode cX10_go 103 = .ok (.aload_n 0, 1) := by decide +kernel
theorem dX10_go_104 : decode cX10_go 104 = .ok (.iload_n 3, 1) := by decide +kernel
theorem dX10_go_105 : decode cX10_go 105 = .ok (.invokevirtual 134, 3) := by decide +kernel
theorem dX10_go_108 : decode cX10_go 108 = .ok (.iastore, 1) := by decide +kernel
theorem dX10_go_109 : decode cX10_go 109 = .ok (.aload_n 0, 1) := by decide +kernel
theorem dX10_go_110 : decode cX10_go 110 = .ok (.iload_n 1, 1) := by decide +kernel
theorem dX10_go_111 : decode cX10_go 111 = .ok (.iconst 1, 1) := by decide +kernel
theorem dX10_go_112 : decode cX10_go 112 = .ok (.iadd, 1) := by decide +kernel
theorem dX10_go_113 : decode cX10_go 113 = .ok (.iload 4, 2) := by decide +kernel
theorem dX10_go_115 : decode cX10_go 115 = .ok (.iload 5, 2) := by decide +kernel
theorem dX10_go_117 : decode cX10_go 117 = .ok (.invokevirtual 233, 3) := by decide +kernel
theorem dX10_go_120 : decode cX10_go 120 = .ok (.return_, 1) := by decide +kernel
theorem dX10_byTurns_0 : decode cX10_byTurns 0 = .ok (.iload_n 1, 1) := by decide +kernel
theorem dX10_byTurns_1 : decode cX10_byTurns 1 = .ok (.i2l, 1) := by decide +kernel
theorem dX10_byTurns_2 : decode cX10_byTurns 2 = .ok (.lconst 0, 1) := by decide +kernel
theorem dX10_byTurns_3 : decode cX10_byTurns 3 = .ok (.ldc2_w 181, 3) := by decide +kernel
theorem dX10_byTurns_6 : decode cX10_byTurns 6 = .ok (.invokestatic 58, 3) := by decide +kernel
theorem dX10_byTurns_9 : decode cX10_byTurns 9 = .ok (.ifCond .eq 13, 3) := by decide +kernel
theorem dX10_byTurns_12 : decode cX10_byTurns 12 = .ok (.iload_n 2, 1) := by decide +kernel
theorem dX10_byTurns_13 : decode cX10_byTurns 13 = .ok (.i2l, 1) := by decide +kernel
theorem dX10_byTurns_14 : decode cX10_byTurns 14 = .ok (.lconst 0, 1) := by decide +kernel
theorem dX10_byTurns_15 : decode cX10_byTurns 15 = .ok (.lconst 1, 1) := by decide +kernel
theorem dX10_byTurns_16 : decode cX10_byTurns 16 = .ok (.invokestatic 58, 3) := by decide +kernel
theorem dX10_byTurns_19 : decode cX10_byTurns 19 = .ok (.ifCond .ne 6, 3) := by decide +kernel
theorem dX10_byTurns_22 : decode cX10_byTurns 22 = .ok (.bipush (-2), 2) := by decide +kernel
theorem dX10_byTurns_24 : decode cX10_byTurns 24 = .ok (.ireturn, 1) := by decide +kernel
theorem dX10_byTurns_25 : decode cX10_byTurns 25 = .ok (.iconst 0, 1) := by decide +kernel
theorem dX10_byTurns_26 : decode cX10_byTurns 26 = .ok (.istore_n 3, 1) := by decide +kernel
theorem dX10_byTurns_27 : decode cX10_byTurns 27 = .ok (.aload_n 0, 1) := by decide +kernel
theorem dX10_byTurns_28 : decode cX10_byTurns 28 = .ok (.iconst 0, 1) := by decide +kernel
theorem dX10_byTurns_29 : decode cX10_byTurns 29 = .ok (.aload_n 0, 1) := by decide +kernel
theorem dX10_byTurns_30 : decode cX10_byTurns 30 = .ok (.getfield 7, 3) := by decide +kernel
theorem dX10_byTurns_33 : decode cX10_byTurns 33 = .ok (.bipush 8, 2) := by decide +kernel
theorem dX10_byTurns_35 : decode cX10_byTurns 35 = .ok (.iaload, 1) := by decide +kernel
theorem dX10_byTurns_36 : decode cX10_byTurns 36 = .ok (.aload_n 0, 1) := by decide +kernel
theorem dX10_byTurns_37 : decode cX10_byTurns 37 = .ok (.getfield 7, 3) := by decide +kernel
theorem dX10_byTurns_40 : decode cX10_byTurns 40 = .ok (.bipush 10, 2) := by decide +kernel
theorem dX10_byTurns_42 : decode cX10_byTurns 42 = .ok (.iaload, 1) := by decide +kernel
theorem dX10_byTurns_43 : decode cX10_byTurns 43 = .ok (.invokevirtual 233, 3) := by decide +kernel
theorem dX10_byTurns_46 : decode cX10_byTurns 46 = .ok (.iload_n 1, 1) := by decide +kernel
theorem dX10_byTurns_47 : decode cX10_byTurns 47 = .ok (.ifCond .ne 7, 3) := by decide +kernel
theorem dX10_byTurns_50 : decode cX10_byTurns 50 = .ok (.iconst 1, 1) := by decide +kernel
theorem dX10_byTurns_51 : decode cX10_byTurns 51 = .ok (.goto 4, 3) := by decide +kernel
theorem dX10_byTurns_54 : decode cX10_byTurns 54 = .ok (.iconst 0, 1) := by decide +kernel
theorem dX10_byTurns_55 : decode cX10_byTurns 55 = .ok (.istore 4, 2) := by decide +kernel
theorem dX10_byTurns_57 : decode cX10_byTurns 57 = .ok (.aload_n 0, 1) := by decide +kernel
theorem dX10_byTurns_58 : decode cX10_byTurns 58 = .ok (.getfield 41, 3) := by decide +kernel
theorem dX10_byTurns_61 : decode cX10_byTurns 61 = .ok (.iconst 0, 1) := by decide +kernel
theorem dX10_byTurns_62 : decode cX10_byTurns 62 = .ok (.iload 4, 2) := by decide +kernel
theorem dX10_byTurns_64 : decode cX10_byTurns 64 = .ok (.ifCond .eq 7, 3) := by decide +kernel
theorem dX10_byTurns_67 : decode cX10_byTurns 67 = .ok (.iconst 0, 1) := by decide +kernel
theorem dX10_byTurns_68 : decode cX10_byTurns 68 = .ok (.goto 9, 3) := by decide +kernel
theorem dX10_byTurns_71 : decode cX10_byTurns 71 = .ok (.aload_n 0, 1) := by decide +kernel
theorem dX10_byTurns_72 : decode cX10_byTurns 72 = .ok (.getfield 41, 3) := by decide +kernel
theorem dX10_byTurns_75 : decode cX10_byTurns 75 = .ok (.iconst 0, 1) := by decide +kernel
theorem dX10_byTurns_76 : decode cX10_byTurns 76 = .ok (.iaload, 1) := by decide +kernel
theorem dX10_byTurns_77 : decode cX10_byTurns 77 = .ok (.iastore, 1) := by decide +kernel
theorem dX10_byTurns_78 : decode cX10_byTurns 78 = .ok (.iload 4, 2) := by decide +kernel
theorem dX10_byTurns_80 : decode cX10_byTurns 80 = .ok (.ifCond .ne 171, 3) := by decide +kernel
theorem dX10_byTurns_83 : decode cX10_byTurns 83 = .ok (.iload_n 3, 1) := by decide +kernel
theorem dX10_byTurns_84 : decode cX10_byTurns 84 = .ok (.iload_n 1, 1) := by decide +kernel
theorem dX10_byTurns_85 : decode cX10_byTurns 85 = .ok (.if_icmp .eq 14, 3) := by decide +kernel
theorem dX10_byTurns_88 : decode cX10_byTurns 88 = .ok (.aload_n 0, 1) := by decide +kernel
theorem dX10_byTurns_89 : decode cX10_byTurns 89 = .ok (.getfield 38, 3) := by decide +kernel
theorem dX10_byTurns_92 : decode cX10_byTurns 92 = .ok (.iload_n 3, 1) := by decide +kernel
theorem dX10_byTurns_93 : decode cX10_byTurns 93 = .ok (.iaload, 1) := by decide +kernel
theorem dX10_byTurns_94 : decode cX10_byTurns 94 = .ok (.bipush 18, 2) := by decide +kernel
theorem dX10_byTurns_96 : decode cX10_byTurns 96 = .ok (.if_icmp .le 114, 3) := by decide +kernel
theorem dX10_byTurns_99 : decode cX10_byTurns 99 = .ok (.iload_n 3, 1) := by decide +kernel
theorem dX10_byTurns_100 : decode cX10_byTurns 100 = .ok (.iload_n 1, 1) := by decide +kernel
theorem dX10_byTurns_101 : decode cX10_byTurns 101 = .ok (.if_icmp .ne 7, 3) := by decide +kernel
theorem dX10_byTurns_104 : decode cX10_byTurns 104 = .ok (.iconst 0, 1) := by decide +kernel
theorem dX10_byTurns_105 : decode cX10_byTurns 105 = .ok (.goto 9, 3) := by decide +kernel
theorem dX10_byTurns_108 : decode cX10_byTurns 108 = .ok (.aload_n 0, 1) := by decide +kernel
theorem dX10_byTurns_109 : decode cX10_byTurns 109 = .ok (.getfield 41, 3) := by decide +kernel
theorem dX10_byTurns_112 : decode cX10_byTurns 112 = .ok (.iload_n 3, 1) := by decide +kernel
theorem dX10_byTurns_113 : decode cX10_byTurns 113 = .ok (.iaload, 1) := by decide +kernel
theorem dX10_byTurns_114 : decode cX10_byTurns 114 = .ok (.istore 5, 2) := by decide +kernel
theorem dX10_byTurns_116 : decode cX10_byTurns 116 = .ok (.iinc 3 (-1), 3) := by decide +kernel
theorem dX10_byTurns_119 : decode cX10_byTurns 119 = .ok (.iload_n 3, 1) := by decide +kernel
theorem dX10_byTurns_120 : decode cX10_byTurns 120 = .ok (.ifCond .lt 76, 3) := by decide +kernel
theorem dX10_byTurns_123 : decode cX10_byTurns 123 = .ok (.aload_n 0, 1) := by decide +kernel
theorem dX10_byTurns_124 : decode cX10_byTurns 124 = .ok (.getfield 47, 3) := by decide +kernel
theorem dX10_byTurns_127 : decode cX10_byTurns 127 = .ok (.iload_n 3, 1) := by decide +kernel
theorem dX10_byTurns_128 : decode cX10_byTurns 128 = .ok (.iaload, 1) := by decide +kernel
theorem dX10_byTurns_129 : decode cX10_byTurns 129 = .ok (.iload 5, 2) := by decide +kernel
theorem dX10_byTurns_131 : decode cX10_byTurns 131 = .ok (.isub, 1) := by decide +kernel
theorem dX10_byTurns_132 : decode cX10_byTurns 132 = .ok (.istore 6, 2) := by decide +kernel
theorem dX10_byTurns_134 : decode cX10_byTurns 134 = .ok (.aload_n 0, 1) := by decide +kernel
theorem dX10_byTurns_135 : decode cX10_byTurns 135 = .ok (.getfield 44, 3) := by decide +kernel
theorem dX10_byTurns_138 : decode cX10_byTurns 138 = .ok (.iload_n 3, 1) := by decide +kernel
theorem dX10_byTurns_139 : decode cX10_byTurns 139 = .ok (.iload 6, 2) := by decide +kernel
theorem dX10_byTurns_141 : decode cX10_byTurns 141 = .ok (.aload_n 0, 1) := by decide +kernel
theorem dX10_byTurns_142 : decode cX10_byTurns 142 = .ok (.getfield 41, 3) := by decide +kernel
theorem dX10_byTurns_145 : decode cX10_byTurns 145 = .ok (.iload_n 3, 1) := by decide +kernel
theorem dX10_byTurns_146 : decode cX10_byTurns 146 = .ok (.iaload, 1) := by decide +kernel
theorem dX10_byTurns_147 : decode cX10_byTurns 147 = .ok (.if_icmp .le 14, 3) := by decide +kernel
theorem dX10_byTurns_150 : decode cX10_byTurns 150 = .ok (.aload_n 0, 1) := by decide +kernel
theorem dX10_byTurns_151 : decode cX10_byTurns 151 = .ok (.getfield 38, 3) := by decide +kernel
theorem dX10_byTurns_154 : decode cX10_byTurns 154 = .ok (.iload_n 3, 1) := by decide +kernel
theorem dX10_byTurns_155 : decode cX10_byTurns 155 = .ok (.iaload, 1) := by decide +kernel
theorem dX10_byTurns_156 : decode cX10_byTurns 156 = .ok (.iconst 1, 1) := by decide +kernel
theorem dX10_byTurns_157 : decode cX10_byTurns 157 = .ok (.isub, 1) := by decide +kernel
theorem dX10_byTurns_158 : decode cX10_byTurns 158 = .ok (.goto 9, 3) := by decide +kernel
theorem dX10_byTurns_161 : decode cX10_byTurns 161 = .ok (.aload_n 0, 1) := by decide +kernel
theorem dX10_byTurns_162 : decode cX10_byTurns 162 = .ok (.getfield 44, 3) := by decide +kernel
theorem dX10_byTurns_165 : decode cX10_byTurns 165 = .ok (.iload_n 3, 1) := by decide +kernel
theorem dX10_byTurns_166 : decode cX10_byTurns 166 = .ok (.iaload, 1) := by decide +kernel
theorem dX10_byTurns_167 : decode cX10_byTurns 167 = .ok (.iastore, 1) := by decide +kernel
theorem dX10_byTurns_168 : decode cX10_byTurns 168 = .ok (.aload_n 0, 1) := by decide +kernel
theorem dX10_byTurns_169 : decode cX10_byTurns 169 = .ok (.getfield 41, 3) := by decide +kernel
theorem dX10_byTurns_172 : decode cX10_byTurns 172 = .ok (.iload_n 3, 1) := by decide +kernel
theorem dX10_byTurns_173 : decode cX10_byTurns 173 = .ok (.iload 6, 2) := by decide +kernel
theorem dX10_byTurns_175 : decode cX10_byTurns 175 = .ok (.aload_n 0, 1) := by decide +kernel
theorem dX10_byTurns_176 : decode cX10_byTurns 176 = .ok (.getfield 41, 3) := by decide +kernel
theorem dX10_byTurns_179 : decode cX10_byTurns 179 = .ok (.iload_n 3, 1) := by decide +kernel
theorem dX10_byTurns_180 : decode cX10_byTurns 180 = .ok (.iaload, 1) := by decide +kernel
theorem dX10_byTurns_181 : decode cX10_byTurns 181 = .ok (.if_icmp .le 8, 3) := by decide +kernel
theorem dX10_byTurns_184 : decode cX10_byTurns 184 = .ok (.iload 6, 2) := by decide +kernel
theorem dX10_byTurns_186 : decode cX10_byTurns 186 = .ok (.goto 9, 3) := by decide +kernel
theorem dX10_byTurns_189 : decode cX10_byTurns 189 = .ok (.aload_n 0, 1) := by decide +kernel
theorem dX10_byTurns_190 : decode cX10_byTurns 190 = .ok (.getfield 41, 3) := by decide +kernel
theorem dX10_byTurns_193 : decode cX10_byTurns 193 = .ok (.iload_n 3, 1) := by decide +kernel
theorem dX10_byTurns_194 : decode cX10_byTurns 194 = .ok (.iaload, 1) := by decide +kernel
theorem dX10_byTurns_195 : decode cX10_byTurns 195 = .ok (.iastore, 1) := by decide +kernel
theorem dX10_byTurns_196 : decode cX10_byTurns 196 = .ok (.iload_n 3, 1) := by decide +kernel
theorem dX10_byTurns_197 : decode cX10_byTurns 197 = .ok (.ifCond .ge 7, 3) := by decide +kernel
theorem dX10_byTurns_200 : decode cX10_byTurns 200 = .ok (.iconst 1, 1) := by decide +kernel
theorem dX10_byTurns_201 : decode cX10_byTurns 201 = .ok (.goto 4, 3) := by decide +kernel
theorem dX10_byTurns_204 : decode cX10_byTurns 204 = .ok (.iconst 0, 1) := by decide +kernel
theorem dX10_byTurns_205 : decode cX10_byTurns 205 = .ok (.istore 4, 2) := by decide +kernel
theorem dX10_byTurns_207 : decode cX10_byTurns 207 = .ok (.goto (-129), 3) := by decide +kernel
theorem dX10_byTurns_210 : decode cX10_byTurns 210 = .ok (.aload_n 0, 1) := by decide +kernel
theorem dX10_byTurns_211 : decode cX10_byTurns 211 = .ok (.getfield 38, 3) := by decide +kernel
theorem dX10_byTurns_214 : decode cX10_byTurns 214 = .ok (.iload_n 3, 1) := by decide +kernel
theorem dX10_byTurns_215 : decode cX10_byTurns 215 = .ok (.iaload, 1) := by decide +kernel
theorem dX10_byTurns_216 : decode cX10_byTurns 216 = .ok (.istore 5, 2) := by decide +kernel
theorem dX10_byTurns_218 : decode cX10_byTurns 218 = .ok (.aload_n 0, 1) := by decide +kernel
theorem dX10_byTurns_219 : decode cX10_byTurns 219 = .ok (.getfield 38, 3) := by decide +kernel
theorem dX10_byTurns_222 : decode cX10_byTurns 222 = .ok (.iload_n 3, 1) := by decide +kernel
theorem dX10_byTurns_223 : decode cX10_byTurns 223 = .ok (.dup2, 1) := by decide +kernel
theorem dX10_byTurns_224 : decode cX10_byTurns 224 = .ok (.iaload, 1) := by decide +kernel
theorem dX10_byTurns_225 : decode cX10_byTurns 225 = .ok (.iconst 1, 1) := by decide +kernel
theorem dX10_byTurns_226 : decode cX10_byTurns 226 = .ok (.iadd, 1) := by decide +kernel
theorem dX10_byTurns_227 : decode cX10_byTurns 227 = .ok (.iastore, 1) := by decide +kernel
theorem dX10_byTurns_228 : decode cX10_byTurns 228 = .ok (.aload_n 0, 1) := by decide +kernel
theorem dX10_byTurns_229 : decode cX10_byTurns 229 = .ok (.iload_n 3, 1) := by decide +kernel
theorem dX10_byTurns_230 : decode cX10_byTurns 230 = .ok (.iload 5, 2) := by decide +kernel
theorem dX10_byTurns_232 : decode cX10_byTurns 232 = .ok (.invokevirtual 237, 3) := by decide +kernel
theorem dX10_byTurns_235 : decode cX10_byTurns 235 = .ok (.ifCond .eq 13, 3) := by decide +kernel
theorem dX10_byTurns_238 : decode cX10_byTurns 238 = .ok (.aload_n 0, 1) := by decide +kernel
theorem dX10_byTurns_239 : decode cX10_byTurns 239 = .ok (.iload_n 3, 1) := by decide +kernel
theorem dX10_byTurns_240 : decode cX10_byTurns 240 = .ok (.iload 5, 2) := by decide +kernel
theorem dX10_byTurns_242 : decode cX10_byTurns 242 = .ok (.invokevirtual 240, 3) := by decide +kernel
theorem dX10_byTurns_245 : decode cX10_byTurns 245 = .ok (.iinc 3 1, 3) := by decide +kernel
theorem dX10_byTurns_248 : decode cX10_byTurns 248 = .ok (.goto (-170), 3) := by decide +kernel
theorem dX10_byTurns_251 : decode cX10_byTurns 251 = .ok (.iload_n 2, 1) := by decide +kernel
theorem dX10_byTurns_252 : decode cX10_byTurns 252 = .ok (.ifCond .ne 16, 3) := by decide +kernel
theorem dX10_byTurns_255 : decode cX10_byTurns 255 = .ok (.sipush 1000, 3) := by decide +kernel
theorem dX10_byTurns_258 : decode cX10_byTurns 258 = .ok (.aload_n 0, 1) := by decide +kernel
theorem dX10_byTurns_259 : decode cX10_byTurns 259 = .ok (.getfield 41, 3) := by decide +kernel
theorem dX10_byTurns_262 : decode cX10_byTurns 262 = .ok (.iconst 0, 1) := by decide +kernel
theorem dX10_byTurns_263 : decode cX10_byTurns 263 = .ok (.iaload, 1) := by decide +kernel
theorem dX10_byTurns_264 : decode cX10_byTurns 264 = .ok (.iadd, 1) := by decide +kernel
theorem dX10_byTurns_265 : decode cX10_byTurns 265 = .ok (.goto 9, 3) := by decide +kernel
theorem dX10_byTurns_268 : decode cX10_byTurns 268 = .ok (.aload_n 0, 1) := by decide +kernel
theorem dX10_byTurns_269 : decode cX10_byTurns 269 = .ok (.getfield 44, 3) := by decide +kernel
theorem dX10_byTurns_272 : decode cX10_byTurns 272 = .ok (.iconst 0, 1) := by decide +kernel
theorem dX10_byTurns_273 : decode cX10_byTurns 273 = .ok (.iaload, 1) := by decide +kernel
theorem dX10_byTurns_274 : decode cX10_byTurns 274 = .ok (.ireturn, 1) := by decide +kernel
theorem dX10_common_0 : decode cX10_common 0 = .ok (.iload_n 0, 1) := by decide +kernel
theorem dX10_common_1 : decode cX10_common 1 = .ok (.istore_n 2, 1) := by decide +kernel
theorem dX10_common_2 : decode cX10_common 2 = .ok (.iload_n 1, 1) := by decide +kernel
theorem dX10_common_3 : decode cX10_common 3 = .ok (.istore_n 3, 1) := by decide +kernel
theorem dX10_common_4 : decode cX10_common 4 = .ok (.iload_n 3, 1) := by decide +kernel
theorem dX10_common_5 : decode cX10_common 5 = .ok (.ifCond .eq 16, 3) := by decide +kernel
theorem dX10_common_8 : decode cX10_common 8 = .ok (.iload_n 2, 1) := by decide +kernel
theorem dX10_common_9 : decode cX10_common 9 = .ok (.iload_n 3, 1) := by decide +kernel
theorem dX10_common_10 : decode cX10_common 10 = .ok (.irem, 1) := by decide +kernel
theorem dX10_common_11 : decode cX10_common 11 = .ok (.istore 4, 2) := by decide +kernel
theorem dX10_common_13 : decode cX10_common 13 = .ok (.iload_n 3, 1) := by decide +kernel
theorem dX10_common_14 : decode cX10_common 14 = .ok (.istore_n 2, 1) := by decide +kernel
theorem dX10_common_15 : decode cX10_common 15 = .ok (.iload 4, 2) := by decide +kernel
theorem dX10_common_17 : decode cX10_common 17 = .ok (.istore_n 3, 1) := by decide +kernel
theorem dX10_common_18 : decode cX10_common 18 = .ok (.goto (-14), 3) := by decide +kernel
theorem dX10_common_21 : decode cX10_common 21 = .ok (.iload_n 2, 1) := by decide +kernel
theorem dX10_common_22 : decode cX10_common 22 = .ok (.ireturn, 1) := by decide +kernel
theorem dX10_frail_0 : decode cX10_frail 0 = .ok (.iconst 0, 1) := by decide +kernel
theorem dX10_frail_1 : decode cX10_frail 1 = .ok (.istore_n 2, 1) := by decide +kernel
theorem dX10_frail_2 : decode cX10_frail 2 = .ok (.iconst 0, 1) := by decide +kernel
theorem dX10_frail_3 : decode cX10_frail 3 = .ok (.istore_n 3, 1) := by decide +kernel
theorem dX10_frail_4 : decode cX10_frail 4 = .ok (.iload_n 3, 1) := by decide +kernel
theorem dX10_frail_5 : decode cX10_frail 5 = .ok (.aload_n 0, 1) := by decide +kernel
theorem dX10_frail_6 : decode cX10_frail 6 = .ok (.invokevirtual 105, 3) := by decide +kernel
theorem dX10_frail_9 : decode cX10_frail 9 = .ok (.if_icmp .ge 49, 3) := by decide +kernel
theorem dX10_frail_12 : decode cX10_frail 12 = .ok (.iload_n 2, 1) := by decide +kernel
theorem dX10_frail_13 : decode cX10_frail 13 = .ok (.iload_n 1, 1) := by decide +kernel
theorem dX10_frail_14 : decode cX10_frail 14 = .ok (.iload_n 3, 1) := by decide +kernel
theorem dX10_frail_15 : decode cX10_frail 15 = .ok (.invokestatic 108, 3) := by decide +kernel
theorem dX10_frail_18 : decode cX10_frail 18 = .ok (.ifCond .eq 31, 3) := by decide +kernel
theorem dX10_frail_21 : decode cX10_frail 21 = .ok (.aload_n 0, 1) := by decide +kernel
theorem dX10_frail_22 : decode cX10_frail 22 = .ok (.getfield 7, 3) := by decide +kernel
theorem dX10_frail_25 : decode cX10_frail 25 = .ok (.bipush 10, 2) := by decide +kernel
theorem dX10_frail_27 : decode cX10_frail 27 = .ok (.iaload, 1) := by decide +kernel
theorem dX10_frail_28 : decode cX10_frail 28 = .ok (.iload_n 3, 1) := by decide +kernel
theorem dX10_frail_29 : decode cX10_frail 29 = .ok (.invokestatic 108, 3) := by decide +kernel
theorem dX10_frail_32 : decode cX10_frail 32 = .ok (.ifCond .ne 17, 3) := by decide +kernel
theorem dX10_frail_35 : decode cX10_frail 35 = .ok (.aload_n 0, 1) := by decide +kernel
theorem dX10_frail_36 : decode cX10_frail 36 = .ok (.iload_n 3, 1) := by decide +kernel
theorem dX10_frail_37 : decode cX10_frail 37 = .ok (.invokevirtual 140, 3) := by decide +kernel
theorem dX10_frail_40 : decode cX10_frail 40 = .ok (.ifCond .ne 9, 3) := by decide +kernel
theorem dX10_frail_43 : decode cX10_frail 43 = .ok (.iconst 1, 1) := by decide +kernel
theorem dX10_frail_44 : decode cX10_frail 44 = .ok (.iload_n 3, 1) := by decide +kernel
theorem dX10_frail_45 : decode cX10_frail 45 = .ok (.ishl, 1) := by decide +kernel
theorem dX10_frail_46 : decode cX10_frail 46 = .ok (.goto 4, 3) := by decide +kernel
theorem dX10_frail_49 : decode cX10_frail 49 = .ok (.iconst 0, 1) := by decide +kernel
theorem dX10_frail_50 : decode cX10_frail 50 = .ok (.ior, 1) := by decide +kernel
theorem dX10_frail_51 : decode cX10_frail 51 = .ok (.istore_n 2, 1) := by decide +kernel
theorem dX10_frail_52 : decode cX10_frail 52 = .ok (.iinc 3 1, 3) := by decide +kernel
theorem dX10_frail_55 : decode cX10_frail 55 = .ok (.goto (-51), 3) := by decide +kernel
theorem dX10_frail_58 : decode cX10_frail 58 = .ok (.iload_n 2, 1) := by decide +kernel
theorem dX10_frail_59 : decode cX10_frail 59 = .ok (.ireturn, 1) := by decide +kernel
theorem dX10_chance_0 : decode cX10_chance 0 = .ok (.aload_n 0, 1) := by decide +kernel
theorem dX10_chance_1 : decode cX10_chance 1 = .ok (.iload_n 1, 1) := by decide +kernel
theorem dX10_chance_2 : decode cX10_chance 2 = .ok (.invokevirtual 128, 3) := by decide +kernel
theorem dX10_chance_5 : decode cX10_chance 5 = .ok (.ifCond .ne 5, 3) := by decide +kernel
theorem dX10_chance_8 : decode cX10_chance 8 = .ok (.iconst (-1), 1) := by decide +kernel
theorem dX10_chance_9 : decode cX10_chance 9 = .ok (.ireturn, 1) := by decide +kernel
theorem dX10_chance_10 : decode cX10_chance 10 = .ok (.iload_n 2, 1) := by decide +kernel
theorem dX10_chance_11 : decode cX10_chance 11 = .ok (.i2l, 1) := by decide +kernel
theorem dX10_chance_12 : decode cX10_chance 12 = .ok (.lconst 0, 1) := by decide +kernel
theorem dX10_chance_13 : decode cX10_chance 13 = .ok (.ldc2_w 243, 3) := by decide +kernel
theorem dX10_chance_16 : decode cX10_chance 16 = .ok (.invokestatic 58, 3) := by decide +kernel
theorem dX10_chance_19 : decode cX10_chance 19 = .ok (.ifCond .ne 6, 3) := by decide +kernel
theorem dX10_chance_22 : decode cX10_chance 22 = .ok (.bipush (-2), 2) := by decide +kernel
theorem dX10_chance_24 : decode cX10_chance 24 = .ok (.ireturn, 1) := by decide +kernel
theorem dX10_chance_25 : decode cX10_chance 25 = .ok (.aload_n 0, 1) := by decide +kernel
theorem dX10_chance_26 : decode cX10_chance 26 = .ok (.aload_n 0, 1) := by decide +kernel
theorem dX10_chance_27 : decode cX10_chance 27 = .ok (.iconst 0, 1) := by decide +kernel
theorem dX10_chance_28 : decode cX10_chance 28 = .ok (.invokevirtual 122, 3) := by decide +kernel
theorem dX10_chance_31 : decode cX10_chance 31 = .ok (.invokevirtual 245, 3) := by decide +kernel
theorem dX10_chance_34 : decode cX10_chance 34 = .ok (.istore 4, 2) := by decide +kernel
theorem dX10_chance_36 : decode cX10_chance 36 = .ok (.iconst 0, 1) := by decide +kernel
theorem dX10_chance_37 : decode cX10_chance 37 = .ok (.istore 5, 2) := by decide +kernel
theorem dX10_chance_39 : decode cX10_chance 39 = .ok (.iconst 0, 1) := by decide +kernel
theorem dX10_chance_40 : decode cX10_chance 40 = .ok (.istore 6, 2) := by decide +kernel
theorem dX10_chance_42 : decode cX10_chance 42 = .ok (.iconst 0, 1) := by decide +kernel
theorem dX10_chance_43 : decode cX10_chance 43 = .ok (.istore 7, 2) := by decide +kernel
theorem dX10_chance_45 : decode cX10_chance 45 = .ok (.iload 7, 2) := by decide +kernel
theorem dX10_chance_47 : decode cX10_chance 47 = .ok (.sipush 256, 3) := by decide +kernel
theorem dX10_chance_50 : decode cX10_chance 50 = .ok (.if_icmp .ge 121, 3) := by decide +kernel
theorem dX10_chance_53 : decode cX10_chance 53 = .ok (.iload 7, 2) := by decide +kernel
theorem dX10_chance_55 : decode cX10_chance 55 = .ok (.iload 4, 2) := by decide +kernel
theorem dX10_chance_57 : decode cX10_chance 57 = .ok (.iconst (-1), 1) := by decide +kernel
theorem dX10_chance_58 : decode cX10_chance 58 = .ok (.ixor, 1) := by decide +kernel
theorem dX10_chance_59 : decode cX10_chance 59 = .ok (.iand, 1) := by decide +kernel
theorem dX10_chance_60 : decode cX10_chance 60 = .ok (.ifCond .ne 105, 3) := by decide +kernel
theorem dX10_chance_63 : decode cX10_chance 63 = .ok (.iconst 1, 1) := by decide +kernel
theorem dX10_chance_64 : decode cX10_chance 64 = .ok (.istore 8, 2) := by decide +kernel
theorem dX10_chance_66 : decode cX10_chance 66 = .ok (.iconst 0, 1) := by decide +kernel
theorem dX10_chance_67 : decode cX10_chance 67 = .ok (.istore 9, 2) := by decide +kernel
theorem dX10_chance_69 : decode cX10_chance 69 = .ok (.iload 9, 2) := by decide +kernel
theorem dX10_chance_71 : decode cX10_chance 71 = .ok (.bipush 8, 2) := by decide +kernel
theorem dX10_chance_73 : decode cX10_chance 73 = .ok (.if_icmp .ge 46, 3) := by decide +kernel
theorem dX10_chance_76 : decode cX10_chance 76 = .ok (.iload 8, 2) := by decide +kernel
theorem dX10_chance_78 : decode cX10_chance 78 = .ok (.iload 4, 2) := by decide +kernel
theorem dX10_chance_80 : decode cX10_chance 80 = .ok (.iload 9, 2) := by decide +kernel
theorem dX10_chance_82 : decode cX10_chance 82 = .ok (.invokestatic 108, 3) := by decide +kernel
theorem dX10_chance_85 : decode cX10_chance 85 = .ok (.ifCond .ne 7, 3) := by decide +kernel
theorem dX10_chance_88 : decode cX10_chance 88 = .ok (.iconst 1, 1) := by decide +kernel
theorem dX10_chance_89 : decode cX10_chance 89 = .ok (.goto 21, 3) := by decide +kernel
theorem dX10_chance_92 : decode cX10_chance 92 = .ok (.iload 7, 2) := by decide +kernel
theorem dX10_chance_94 : decode cX10_chance 94 = .ok (.iload 9, 2) := by decide +kernel
theorem dX10_chance_96 : decode cX10_chance 96 = .ok (.invokestatic 108, 3) := by decide +kernel
theorem dX10_chance_99 : decode cX10_chance 99 = .ok (.ifCond .eq 7, 3) := by decide +kernel
theorem dX10_chance_102 : decode cX10_chance 102 = .ok (.iload_n 2, 1) := by decide +kernel
theorem dX10_chance_103 : decode cX10_chance 103 = .ok (.goto 7, 3) := by decide +kernel
theorem dX10_chance_106 : decode cX10_chance 106 = .ok (.bipush 10, 2) := by decide +kernel
theorem dX10_chance_108 : decode cX10_chance 108 = .ok (.iload_n 2, 1) := by decide +kernel
theorem dX10_chance_109 : decode cX10_chance 109 = .ok (.isub, 1) := by decide +kernel
theorem dX10_chance_110 : decode cX10_chance 110 = .ok (.imul, 1) := by decide +kernel
theorem dX10_chance_111 : decode cX10_chance 111 = .ok (.istore 8, 2) := by decide +kernel
theorem dX10_chance_113 : decode cX10_chance 113 = .ok (.iinc 9 1, 3) := by decide +kernel
theorem dX10_chance_116 : decode cX10_chance 116 = .ok (.goto (-47), 3) := by decide +kernel
theorem dX10_chance_119 : decode cX10_chance 119 = .ok (.iload 6, 2) := by decide +kernel
theorem dX10_chance_121 : decode cX10_chance 121 = .ok (.iload 8, 2) := by decide +kernel
theorem dX10_chance_123 : decode cX10_chance 123 = .ok (.iadd, 1) := by decide +kernel
theorem dX10_chance_124 : decode cX10_chance 124 = .ok (.istore 6, 2) := by decide +kernel
theorem dX10_chance_126 : decode cX10_chance 126 = .ok (.iload 5, 2) := by decide +kernel
theorem dX10_chance_128 : decode cX10_chance 128 = .ok (.aload_n 0, 1) := by decide +kernel
theorem dX10_chance_129 : decode cX10_chance 129 = .ok (.aload_n 0, 1) := by decide +kernel
theorem dX10_chance_130 : decode cX10_chance 130 = .ok (.iconst 0, 1) := by decide +kernel
theorem dX10_chance_131 : decode cX10_chance 131 = .ok (.invokevirtual 122, 3) := by decide +kernel
theorem dX10_chance_134 : decode cX10_chance 134 = .ok (.iload 7, 2) := by decide +kernel
theorem dX10_chance_136 : decode cX10_chance 136 = .ok (.iconst (-1), 1) := by decide +kernel
theorem dX10_chance_137 : decode cX10_chance 137 = .ok (.ixor, 1) := by decide +kernel
theorem dX10_chance_138 : decode cX10_chance 138 = .ok (.iand, 1) := by decide +kernel
theorem dX10_chance_139 : decode cX10_chance 139 = .ok (.aload_n 0, 1) := by decide +kernel
theorem dX10_chance_140 : decode cX10_chance 140 = .ok (.getfield 7, 3) := by decide +kernel
theorem dX10_chance_143 : decode cX10_chance 143 = .ok (.bipush 11, 2) := by decide +kernel
theorem dX10_chance_145 : decode cX10_chance 145 = .ok (.iaload, 1) := by decide +kernel
theorem dX10_chance_146 : decode cX10_chance 146 = .ok (.invokevirtual 125, 3) := by decide +kernel
theorem dX10_chance_149 : decode cX10_chance 149 = .ok (.iload_n 1, 1) := by decide +kernel
theorem dX10_chance_150 : decode cX10_chance 150 = .ok (.invokestatic 108, 3) := by decide +kernel
theorem dX10_chance_153 : decode cX10_chance 153 = .ok (.ifCond .eq 8, 3) := by decide +kernel
theorem dX10_chance_156 : decode cX10_chance 156 = .ok (.iload 8, 2) := by decide +kernel
theorem dX10_chance_158 : decode cX10_chance 158 = .ok (.goto 4, 3) := by decide +kernel
theorem dX10_chance_161 : decode cX10_chance 161 = .ok (.iconst 0, 1) := by decide +kernel
theorem dX10_chance_162 : decode cX10_chance 162 = .ok (.iadd, 1) := by decide +kernel
theorem dX10_chance_163 : decode cX10_chance 163 = .ok (.istore 5, 2) := by decide +kernel
theorem dX10_chance_165 : decode cX10_chance 165 = .ok (.iinc 7 1, 3) := by decide +kernel
theorem dX10_chance_168 : decode cX10_chance 168 = .ok (.goto (-123), 3) := by decide +kernel
theorem dX10_chance_171 : decode cX10_chance 171 = .ok (.iload 5, 2) := by decide +kernel
theorem dX10_chance_173 : decode cX10_chance 173 = .ok (.iload 6, 2) := by decide +kernel
theorem dX10_chance_175 : decode cX10_chance 175 = .ok (.invokestatic 248, 3) := by decide +kernel
theorem dX10_chance_178 : decode cX10_chance 178 = .ok (.istore 7, 2) := by decide +kernel
theorem dX10_chance_180 : decode cX10_chance 180 = .ok (.iload_n 3, 1) := by decide +kernel
theorem dX10_chance_181 : decode cX10_chance 181 = .ok (.ifCond .eq 11, 3) := by decide +kernel
theorem dX10_chance_184 : decode cX10_chance 184 = .ok (.iload 5, 2) := by decide +kernel
theorem dX10_chance_186 : decode cX10_chance 186 = .ok (.iload 7, 2) := by decide +kernel
theorem dX10_chance_188 : decode cX10_chance 188 = .ok (.idiv, 1) := by decide +kernel
theorem dX10_chance_189 : decode cX10_chance 189 = .ok (.goto 8, 3) := by decide +kernel
theorem dX10_chance_192 : decode cX10_chance 192 = .ok (.iload 6, 2) := by decide +kernel
theorem dX10_chance_194 : decode cX10_chance 194 = .ok (.iload 7, 2) := by decide +kernel
theorem dX10_chance_196 : decode cX10_chance 196 = .ok (.idiv, 1) := by decide +kernel
theorem dX10_chance_197 : decode cX10_chance 197 = .ok (.ireturn, 1) := by decide +kernel
theorem dX10_seed_0 : decode cX10_seed 0 = .ok (.aload_n 0, 1) := by decide +kernel
theorem dX10_seed_1 : decode cX10_seed 1 = .ok (.getfield 251, 3) := by decide +kernel
theorem dX10_seed_4 : decode cX10_seed 4 = .ok (.lstore_n 3, 1) := by decide +kernel
theorem dX10_seed_5 : decode cX10_seed 5 = .ok (.aload_n 0, 1) := by decide +kernel
theorem dX10_seed_6 : decode cX10_seed 6 = .ok (.lload_n 1, 1) := by decide +kernel
theorem dX10_seed_7 : decode cX10_seed 7 = .ok (.putfield 251, 3) := by decide +kernel
theorem dX10_seed_10 : decode cX10_seed 10 = .ok (.lload_n 3, 1) := by decide +kernel
theorem dX10_seed_11 : decode cX10_seed 11 = .ok (.lreturn, 1) := by decide +kernel
theorem dX10_years_0 : decode cX10_years 0 = .ok (.iload_n 1, 1) := by decide +kernel
theorem dX10_years_1 : decode cX10_years 1 = .ok (.i2l, 1) := by decide +kernel
theorem dX10_years_2 : decode cX10_years 2 = .ok (.lconst 1, 1) := by decide +kernel
theorem dX10_years_3 : decode cX10_years 3 = .ok (.ldc2_w 255, 3) := by decide +kernel
theorem dX10_years_6 : decode cX10_years 6 = .ok (.invokestatic 58, 3) := by decide +kernel
theorem dX10_years_9 : decode cX10_years 9 = .ok (.ifCond .eq 15, 3) := by decide +kernel
theorem dX10_years_12 : decode cX10_years 12 = .ok (.iload_n 2, 1) := by decide +kernel
theorem dX10_years_13 : decode cX10_years 13 = .ok (.i2l, 1) := by decide +kernel
theorem dX10_years_14 : decode cX10_years 14 = .ok (.lconst 0, 1) := by decide +kernel
theorem dX10_years_15 : decode cX10_years 15 = .ok (.ldc2_w 243, 3) := by decide +kernel
theorem dX10_years_18 : decode cX10_years 18 = .ok (.invokestatic 58, 3) := by decide +kernel
theorem dX10_years_21 : decode cX10_years 21 = .ok (.ifCond .ne 6, 3) := by decide +kernel
theorem dX10_years_24 : decode cX10_years 24 = .ok (.bipush (-2), 2) := by decide +kernel
theorem dX10_years_26 : decode cX10_years 26 = .ok (.ireturn, 1) := by decide +kernel
theorem dX10_years_27 : decode cX10_years 27 = .ok (.aload_n 0, 1) := by decide +kernel
theorem dX10_years_28 : decode cX10_years 28 = .ok (.iconst 0, 1) := by decide +kernel
theorem dX10_years_29 : decode cX10_years 29 = .ok (.invokevirtual 122, 3) := by decide +kernel
theorem dX10_years_32 : decode cX10_years 32 = .ok (.istore_n 3, 1) := by decide +kernel
theorem dX10_years_33 : decode cX10_years 33 = .ok (.iconst 0, 1) := by decide +kernel
theorem dX10_years_34 : decode cX10_years 34 = .ok (.istore 4, 2) := by decide +kernel
theorem dX10_years_36 : decode cX10_years 36 = .ok (.iload 4, 2) := by decide +kernel
theorem dX10_years_38 : decode cX10_years 38 = .ok (.iload_n 1, 1) := by decide +kernel
theorem dX10_years_39 : decode cX10_years 39 = .ok (.if_icmp .ge 86, 3) := by decide +kernel
theorem dX10_years_42 : decode cX10_years 42 = .ok (.iconst 0, 1) := by decide +kernel
theorem dX10_years_43 : decode cX10_years 43 = .ok (.istore 5, 2) := by decide +kernel
theorem dX10_years_45 : decode cX10_years 45 = .ok (.iload 5, 2) := by decide +kernel
theorem dX10_years_47 : decode cX10_years 47 = .ok (.aload_n 0, 1) := by decide +kernel
theorem dX10_years_48 : decode cX10_years 48 = .ok (.invokevirtual 105, 3) := by decide +kernel
theorem dX10_years_51 : decode cX10_years 51 = .ok (.if_icmp .ge 68, 3) := by decide +kernel
theorem dX10_years_54 : decode cX10_years 54 = .ok (.aload_n 0, 1) := by decide +kernel
theorem dX10_years_55 : decode cX10_years 55 = .ok (.iload_n 3, 1) := by decide +kernel
theorem dX10_years_56 : decode cX10_years 56 = .ok (.invokevirtual 245, 3) := by decide +kernel
theorem dX10_years_59 : decode cX10_years 59 = .ok (.iload 5, 2) := by decide +kernel
theorem dX10_years_61 : decode cX10_years 61 = .ok (.invokestatic 108, 3) := by decide +kernel
theorem dX10_years_64 : decode cX10_years 64 = .ok (.ifCond .eq 49, 3) := by decide +kernel
theorem dX10_years_67 : decode cX10_years 67 = .ok (.aload_n 0, 1) := by decide +kernel
theorem dX10_years_68 : decode cX10_years 68 = .ok (.aload_n 0, 1) := by decide +kernel
theorem dX10_years_69 : decode cX10_years 69 = .ok (.getfield 251, 3) := by decide +kernel
theorem dX10_years_72 : decode cX10_years 72 = .ok (.ldc2_w 257, 3) := by decide +kernel
theorem dX10_years_75 : decode cX10_years 75 = .ok (.lmul, 1) := by decide +kernel
theorem dX10_years_76 : decode cX10_years 76 = .ok (.ldc2_w 259, 3) := by decide +kernel
theorem dX10_years_79 : decode cX10_years 79 = .ok (.ladd, 1) := by decide +kernel
theorem dX10_years_80 : decode cX10_years 80 = .ok (.putfield 251, 3) := by decide +kernel
theorem dX10_years_83 : decode cX10_years 83 = .ok (.iload_n 3, 1) := by decide +kernel
theorem dX10_years_84 : decode cX10_years 84 = .ok (.aload_n 0, 1) := by decide +kernel
theorem dX10_years_85 : decode cX10_years 85 = .ok (.getfield 251, 3) := by decide +kernel
theorem dX10_years_88 : decode cX10_years 88 = .ok (.bipush 33, 2) := by decide +kernel
theorem dX10_years_90 : decode cX10_years 90 = .ok (.lushr, 1) := by decide +kernel
theorem dX10_years_91 : decode cX10_years 91 = .ok (.ldc2_w 243, 3) := by decide +kernel
theorem dX10_years_94 : decode cX10_years 94 = .ok (.lrem, 1) := by decide +kernel
theorem dX10_years_95 : decode cX10_years 95 = .ok (.iload_n 2, 1) := by decide +kernel
theorem dX10_years_96 : decode cX10_years 96 = .ok (.i2l, 1) := by decide +kernel
theorem dX10_years_97 : decode cX10_years 97 = .ok (.lcmp, 1) := by decide +kernel
theorem dX10_years_98 : decode cX10_years 98 = .ok (.ifCond .ge 12, 3) := by decide +kernel
theorem dX10_years_101 : decode cX10_years 101 = .ok (.iconst 1, 1) := by decide +kernel
theorem dX10_years_102 : decode cX10_years 102 = .ok (.iload 5, 2) := by decide +kernel
theorem dX10_years_104 : decode cX10_years 104 = .ok (.ishl, 1) := by decide +kernel
theorem dX10_years_105 : decode cX10_years 105 = .ok (.iconst (-1), 1) := by decide +kernel
theorem dX10_years_106 : decode cX10_years 106 = .ok (.ixor, 1) := by decide +kernel
theorem dX10_years_107 : decode cX10_years 107 = .ok (.goto 4, 3) := by decide +kernel
theorem dX10_years_110 : decode cX10_years 110 = .ok (.iconst (-1), 1) := by decide +kernel
theorem dX10_years_111 : decode cX10_years 111 = .ok (.iand, 1) := by decide +kernel
theorem dX10_years_112 : decode cX10_years 112 = .ok (.istore_n 3, 1) := by decide +kernel
theorem dX10_years_113 : decode cX10_years 113 = .ok (.iinc 5 1, 3) := by decide +kernel
theorem dX10_years_116 : decode cX10_years 116 = .ok (.goto (-71), 3) := by decide +kernel
theorem dX10_years_119 : decode cX10_years 119 = .ok (.iinc 4 1, 3) := by decide +kernel
theorem dX10_years_122 : decode cX10_years 122 = .ok (.goto (-86), 3) := by decide +kernel
theorem dX10_years_125 : decode cX10_years 125 = .ok (.aload_n 0, 1) := by decide +kernel
theorem dX10_years_126 : decode cX10_years 126 = .ok (.iload_n 3, 1) := by decide +kernel
theorem dX10_years_127 : decode cX10_years 127 = .ok (.aload_n 0, 1) := by decide +kernel
theorem dX10_years_128 : decode cX10_years 128 = .ok (.getfield 7, 3) := by decide +kernel
theorem dX10_years_131 : decode cX10_years 131 = .ok (.bipush 11, 2) := by decide +kernel
theorem dX10_years_133 : decode cX10_years 133 = .ok (.iaload, 1) := by decide +kernel
theorem dX10_years_134 : decode cX10_years 134 = .ok (.invokevirtual 125, 3) := by decide +kernel
theorem dX10_years_137 : decode cX10_years 137 = .ok (.ireturn, 1) := by decide +kernel
theorem dX10_keep_0 : decode cX10_keep 0 = .ok (.iload_n 1, 1) := by decide +kernel
theorem dX10_keep_1 : decode cX10_keep 1 = .ok (.i2l, 1) := by decide +kernel
theorem dX10_keep_2 : decode cX10_keep 2 = .ok (.lconst 0, 1) := by decide +kernel
theorem dX10_keep_3 : decode cX10_keep 3 = .ok (.lconst 1, 1) := by decide +kernel
theorem dX10_keep_4 : decode cX10_keep 4 = .ok (.invokestatic 58, 3) := by decide +kernel
theorem dX10_keep_7 : decode cX10_keep 7 = .ok (.ifCond .ne 5, 3) := by decide +kernel
theorem dX10_keep_10 : decode cX10_keep 10 = .ok (.iconst (-1), 1) := by decide +kernel
theorem dX10_keep_11 : decode cX10_keep 11 = .ok (.ireturn, 1) := by decide +kernel
theorem dX10_keep_12 : decode cX10_keep 12 = .ok (.aload_n 0, 1) := by decide +kernel
theorem dX10_keep_13 : decode cX10_keep 13 = .ok (.getfield 50, 3) := by decide +kernel
theorem dX10_keep_16 : decode cX10_keep 16 = .ok (.iload_n 1, 1) := by decide +kernel
theorem dX10_keep_17 : decode cX10_keep 17 = .ok (.iconst 1, 1) := by decide +kernel
theorem dX10_keep_18 : decode cX10_keep 18 = .ok (.bastore, 1) := by decide +kernel
theorem dX10_keep_19 : decode cX10_keep 19 = .ok (.iconst 0, 1) := by decide +kernel
theorem dX10_keep_20 : decode cX10_keep 20 = .ok (.istore_n 2, 1) := by decide +kernel
theorem dX10_keep_21 : decode cX10_keep 21 = .ok (.iload_n 2, 1) := by decide +kernel
theorem dX10_keep_22 : decode cX10_keep 22 = .ok (.bipush 14, 2) := by decide +kernel
theorem dX10_keep_24 : decode cX10_keep 24 = .ok (.if_icmp .ge 26, 3) := by decide +kernel
theorem dX10_keep_27 : decode cX10_keep 27 = .ok (.aload_n 0, 1) := by decide +kernel
theorem dX10_keep_28 : decode cX10_keep 28 = .ok (.getfield 53, 3) := by decide +kernel
theorem dX10_keep_31 : decode cX10_keep 31 = .ok (.bipush 14, 2) := by decide +kernel
theorem dX10_keep_33 : decode cX10_keep 33 = .ok (.iload_n 1, 1) := by decide +kernel
theorem dX10_keep_34 : decode cX10_keep 34 = .ok (.imul, 1) := by decide +kernel
theorem dX10_keep_35 : decode cX10_keep 35 = .ok (.iload_n 2, 1) := by decide +kernel
theorem dX10_keep_36 : decode cX10_keep 36 = .ok (.iadd, 1) := by decide +kernel
theorem dX10_keep_37 : decode cX10_keep 37 = .ok (.aload_n 0, 1) := by decide +kernel
theorem dX10_keep_38 : decode cX10_keep 38 = .ok (.getfield 7, 3) := by decide +kernel
theorem dX10_keep_41 : decode cX10_keep 41 = .ok (.iload_n 2, 1) := by decide +kernel
theorem dX10_keep_42 : decode cX10_keep 42 = .ok (.iaload, 1) := by decide +kernel
theorem dX10_keep_43 : decode cX10_keep 43 = .ok (.iastore, 1) := by decide +kernel
theorem dX10_keep_44 : decode cX10_keep 44 = .ok (.iinc 2 1, 3) := by decide +kernel
theorem dX10_keep_47 : decode cX10_keep 47 = .ok (.goto (-26), 3) := by decide +kernel
theorem dX10_keep_50 : decode cX10_keep 50 = .ok (.aload_n 0, 1) := by decide +kernel
theorem dX10_keep_51 : decode cX10_keep 51 = .ok (.invokevirtual 105, 3) := by decide +kernel
theorem dX10_keep_54 : decode cX10_keep 54 = .ok (.ireturn, 1) := by decide +kernel
theorem dX10_again_0 : decode cX10_again 0 = .ok (.iload_n 1, 1) := by decide +kernel
theorem dX10_again_1 : decode cX10_again 1 = .ok (.i2l, 1) := by decide +kernel
theorem dX10_again_2 : decode cX10_again 2 = .ok (.lconst 0, 1) := by decide +kernel
theorem dX10_again_3 : decode cX10_again 3 = .ok (.lconst 1, 1) := by decide +kernel
theorem dX10_again_4 : decode cX10_again 4 = .ok (.invokestatic 58, 3) := by decide +kernel
theorem dX10_again_7 : decode cX10_again 7 = .ok (.ifCond .ne 5, 3) := by decide +kernel
theorem dX10_again_10 : decode cX10_again 10 = .ok (.iconst (-1), 1) := by decide +kernel
theorem dX10_again_11 : decode cX10_again 11 = .ok (.ireturn, 1) := by decide +kernel
theorem dX10_again_12 : decode cX10_again 12 = .ok (.aload_n 0, 1) := by decide +kernel
theorem dX10_again_13 : decode cX10_again 13 = .ok (.getfield 50, 3) := by decide +kernel
theorem dX10_again_16 : decode cX10_again 16 = .ok (.iload_n 1, 1) := by decide +kernel
theorem dX10_again_17 : decode cX10_again 17 = .ok (.baload, 1) := by decide +kernel
theorem dX10_again_18 : decode cX10_again 18 = .ok (.ifCond .ne 6, 3) := by decide +kernel
theorem dX10_again_21 : decode cX10_again 21 = .ok (.bipush (-3), 2) := by decide +kernel
theorem dX10_again_23 : decode cX10_again 23 = .ok (.ireturn, 1) := by decide +kernel
theorem dX10_again_24 : decode cX10_again 24 = .ok (.iconst 0, 1) := by decide +kernel
theorem dX10_again_25 : decode cX10_again 25 = .ok (.istore_n 2, 1) := by decide +kernel
theorem dX10_again_26 : decode cX10_again 26 = .ok (.iload_n 2, 1) := by decide +kernel
theorem dX10_again_27 : decode cX10_again 27 = .ok (.bipush 14, 2) := by decide +kernel
theorem dX10_again_29 : decode cX10_again 29 = .ok (.if_icmp .ge 26, 3) := by decide +kernel
theorem dX10_again_32 : decode cX10_again 32 = .ok (.aload_n 0, 1) := by decide +kernel
theorem dX10_again_33 : decode cX10_again 33 = .ok (.getfield 7, 3) := by decide +kernel
theorem dX10_again_36 : decode cX10_again 36 = .ok (.iload_n 2, 1) := by decide +kernel
theorem dX10_again_37 : decode cX10_again 37 = .ok (.aload_n 0, 1) := by decide +kernel
theorem dX10_again_38 : decode cX10_again 38 = .ok (.getfield 53, 3) := by decide +kernel
theorem dX10_again_41 : decode cX10_again 41 = .ok (.bipush 14, 2) := by decide +kernel
theorem dX10_again_43 : decode cX10_again 43 = .ok (.iload_n 1, 1) := by decide +kernel
theorem dX10_again_44 : decode cX10_again 44 = .ok (.imul, 1) := by decide +kernel
theorem dX10_again_45 : decode cX10_again 45 = .ok (.iload_n 2, 1) := by decide +kernel
theorem dX10_again_46 : decode cX10_again 46 = .ok (.iadd, 1) := by decide +kernel
theorem dX10_again_47 : decode cX10_again 47 = .ok (.iaload, 1) := by decide +kernel
theorem dX10_again_48 : decode cX10_again 48 = .ok (.iastore, 1) := by decide +kernel
theorem dX10_again_49 : decode cX10_again 49 = .ok (.iinc 2 1, 3) := by decide +kernel
theorem dX10_again_52 : decode cX10_again 52 = .ok (.goto (-26), 3) := by decide +kernel
theorem dX10_again_55 : decode cX10_again 55 = .ok (.aload_n 0, 1) := by decide +kernel
theorem dX10_again_56 : decode cX10_again 56 = .ok (.iconst 0, 1) := by decide +kernel
theorem dX10_again_57 : decode cX10_again 57 = .ok (.putfield 92, 3) := by decide +kernel
theorem dX10_again_60 : decode cX10_again 60 = .ok (.aload_n 0, 1) := by decide +kernel
theorem dX10_again_61 : decode cX10_again 61 = .ok (.invokevirtual 105, 3) := by decide +kernel
theorem dX10_again_64 : decode cX10_again 64 = .ok (.ireturn, 1) := by decide +kernel
theorem dX10_count_0 : decode cX10_count 0 = .ok (.iload_n 1, 1) := by decide +kernel
theorem dX10_count_1 : decode cX10_count 1 = .ok (.tableswitch 127 0 10 #[59, 64, 69, 77, 85, 91, 96, 104, 109, 117, 122], 59) := by decide +kernel
theorem dX10_count_60 : decode cX10_count 60 = .ok (.aload_n 0, 1) := by decide +kernel
theorem dX10_count_61 : decode cX10_count 61 = .ok (.getfield 62, 3) := by decide +kernel
theorem dX10_count_64 : decode cX10_count 64 = .ok (.ireturn, 1) := by decide +kernel
theorem dX10_count_65 : decode cX10_count 65 = .ok (.aload_n 0, 1) := by decide +kernel
theorem dX10_count_66 : decode cX10_count 66 = .ok (.invokevirtual 105, 3) := by decide +kernel
theorem dX10_count_69 : decode cX10_count 69 = .ok (.ireturn, 1) := by decide +kernel
theorem dX10_count_70 : decode cX10_count 70 = .ok (.aload_n 0, 1) := by decide +kernel
theorem dX10_count_71 : decode cX10_count 71 = .ok (.getfield 7, 3) := by decide +kernel
theorem dX10_count_74 : decode cX10_count 74 = .ok (.bipush 11, 2) := by decide +kernel
theorem dX10_count_76 : decode cX10_count 76 = .ok (.iaload, 1) := by decide +kernel
theorem dX10_count_77 : decode cX10_count 77 = .ok (.ireturn, 1) := by decide +kernel
theorem dX10_count_78 : decode cX10_count 78 = .ok (.aload_n 0, 1) := by decide +kernel
theorem dX10_count_79 : decode cX10_count 79 = .ok (.getfield 7, 3) := by decide +kernel
theorem dX10_count_82 : decode cX10_count 82 = .ok (.bipush 12, 2) := by decide +kernel
theorem dX10_count_84 : decode cX10_count 84 = .ok (.iaload, 1) := by decide +kernel
theorem dX10_count_85 : decode cX10_count 85 = .ok (.ireturn, 1) := by decide +kernel
theorem dX10_count_86 : decode cX10_count 86 = .ok (.aload_n 0, 1) := by decide +kernel
theorem dX10_count_87 : decode cX10_count 87 = .ok (.iconst 0, 1) := by decide +kernel
theorem dX10_count_88 : decode cX10_count 88 = .ok (.invokevirtual 122, 3) := by decide +kernel
theorem dX10_count_91 : decode cX10_count 91 = .ok (.ireturn, 1) := by decide +kernel
theorem dX10_count_92 : decode cX10_count 92 = .ok (.aload_n 0, 1) := by decide +kernel
theorem dX10_count_93 : decode cX10_count 93 = .ok (.invokevirtual 143, 3) := by decide +kernel
theorem dX10_count_96 : decode cX10_count 96 = .ok (.ireturn, 1) := by decide +kernel
theorem dX10_count_97 : decode cX10_count 97 = .ok (.aload_n 0, 1) := by decide +kernel
theorem dX10_count_98 : decode cX10_count 98 = .ok (.getfield 7, 3) := by decide +kernel
theorem dX10_count_101 : decode cX10_count 101 = .ok (.bipush 10, 2) := by decide +kernel
theorem dX10_count_103 : decode cX10_count 103 = .ok (.iaload, 1) := by decide +kernel
theorem dX10_count_104 : decode cX10_count 104 = .ok (.ireturn, 1) := by decide +kernel
theorem dX10_count_105 : decode cX10_count 105 = .ok (.aload_n 0, 1) := by decide +kernel
theorem dX10_count_106 : decode cX10_count 106 = .ok (.invokevirtual 214, 3) := by decide +kernel
theorem dX10_count_109 : decode cX10_count 109 = .ok (.ireturn, 1) := by decide +kernel
theorem dX10_count_110 : decode cX10_count 110 = .ok (.aload_n 0, 1) := by decide +kernel
theorem dX10_count_111 : decode cX10_count 111 = .ok (.getfield 7, 3) := by decide +kernel
theorem dX10_count_114 : decode cX10_count 114 = .ok (.bipush 8, 2) := by decide +kernel
theorem dX10_count_116 : decode cX10_count 116 = .ok (.iaload, 1) := by decide +kernel
theorem dX10_count_117 : decode cX10_count 117 = .ok (.ireturn, 1) := by decide +kernel
theorem dX10_count_118 : decode cX10_count 118 = .ok (.aload_n 0, 1) := by decide +kernel
theorem dX10_count_119 : decode cX10_count 119 = .ok (.getfield 92, 3) := by decide +kernel
theorem dX10_count_122 : decode cX10_count 122 = .ok (.ireturn, 1) := by decide +kernel
theorem dX10_count_123 : decode cX10_count 123 = .ok (.aload_n 0, 1) := by decide +kernel
theorem dX10_count_124 : decode cX10_count 124 = .ok (.getfield 211, 3) := by decide +kernel
theorem dX10_count_127 : decode cX10_count 127 = .ok (.ireturn, 1) := by decide +kernel
theorem dX10_count_128 : decode cX10_count 128 = .ok (.bipush (-2), 2) := by decide +kernel
theorem dX10_count_130 : decode cX10_count 130 = .ok (.ireturn, 1) := by decide +kernel
theorem dJ6_bitCount_0f7a4_0 : decode cJ6_bitCount_0f7a4 0 = .ok (.iload_n 0, 1) := by decide +kernel
theorem dJ6_bitCount_0f7a4_1 : decode cJ6_bitCount_0f7a4 1 = .ok (.iload_n 0, 1) := by decide +kernel
theorem dJ6_bitCount_0f7a4_2 : decode cJ6_bitCount_0f7a4 2 = .ok (.iconst 1, 1) := by decide +kernel
theorem dJ6_bitCount_0f7a4_3 : decode cJ6_bitCount_0f7a4 3 = .ok (.iushr, 1) := by decide +kernel
theorem dJ6_bitCount_0f7a4_4 : decode cJ6_bitCount_0f7a4 4 = .ok (.ldc_w 265, 3) := by decide +kernel
theorem dJ6_bitCount_0f7a4_7 : decode cJ6_bitCount_0f7a4 7 = .ok (.iand, 1) := by decide +kernel
theorem dJ6_bitCount_0f7a4_8 : decode cJ6_bitCount_0f7a4 8 = .ok (.isub, 1) := by decide +kernel
theorem dJ6_bitCount_0f7a4_9 : decode cJ6_bitCount_0f7a4 9 = .ok (.istore_n 0, 1) := by decide +kernel
theorem dJ6_bitCount_0f7a4_10 : decode cJ6_bitCount_0f7a4 10 = .ok (.iload_n 0, 1) := by decide +kernel
theorem dJ6_bitCount_0f7a4_11 : decode cJ6_bitCount_0f7a4 11 = .ok (.ldc_w 266, 3) := by decide +kernel
theorem dJ6_bitCount_0f7a4_14 : decode cJ6_bitCount_0f7a4 14 = .ok (.iand, 1) := by decide +kernel
theorem dJ6_bitCount_0f7a4_15 : decode cJ6_bitCount_0f7a4 15 = .ok (.iload_n 0, 1) := by decide +kernel
theorem dJ6_bitCount_0f7a4_16 : decode cJ6_bitCount_0f7a4 16 = .ok (.iconst 2, 1) := by decide +kernel
theorem dJ6_bitCount_0f7a4_17 : decode cJ6_bitCount_0f7a4 17 = .ok (.iushr, 1) := by decide +kernel
theorem dJ6_bitCount_0f7a4_18 : decode cJ6_bitCount_0f7a4 18 = .ok (.ldc_w 266, 3) := by decide +kernel
theorem dJ6_bitCount_0f7a4_21 : decode cJ6_bitCount_0f7a4 21 = .ok (.iand, 1) := by decide +kernel
theorem dJ6_bitCount_0f7a4_22 : decode cJ6_bitCount_0f7a4 22 = .ok (.iadd, 1) := by decide +kernel
theorem dJ6_bitCount_0f7a4_23 : decode cJ6_bitCount_0f7a4 23 = .ok (.istore_n 0, 1) := by decide +kernel
theorem dJ6_bitCount_0f7a4_24 : decode cJ6_bitCount_0f7a4 24 = .ok (.iload_n 0, 1) := by decide +kernel
theorem dJ6_bitCount_0f7a4_25 : decode cJ6_bitCount_0f7a4 25 = .ok (.iload_n 0, 1) := by decide +kernel
theorem dJ6_bitCount_0f7a4_26 : decode cJ6_bitCount_0f7a4 26 = .ok (.iconst 4, 1) := by decide +kernel
theorem dJ6_bitCount_0f7a4_27 : decode cJ6_bitCount_0f7a4 27 = .ok (.iushr, 1) := by decide +kernel
theorem dJ6_bitCount_0f7a4_28 : decode cJ6_bitCount_0f7a4 28 = .ok (.iadd, 1) := by decide +kernel
theorem dJ6_bitCount_0f7a4_29 : decode cJ6_bitCount_0f7a4 29 = .ok (.ldc_w 267, 3) := by decide +kernel
theorem dJ6_bitCount_0f7a4_32 : decode cJ6_bitCount_0f7a4 32 = .ok (.iand, 1) := by decide +kernel
theorem dJ6_bitCount_0f7a4_33 : decode cJ6_bitCount_0f7a4 33 = .ok (.istore_n 0, 1) := by decide +kernel
theorem dJ6_bitCount_0f7a4_34 : decode cJ6_bitCount_0f7a4 34 = .ok (.iload_n 0, 1) := by decide +kernel
theorem dJ6_bitCount_0f7a4_35 : decode cJ6_bitCount_0f7a4 35 = .ok (.iload_n 0, 1) := by decide +kernel
theorem dJ6_bitCount_0f7a4_36 : decode cJ6_bitCount_0f7a4 36 = .ok (.bipush 8, 2) := by decide +kernel
theorem dJ6_bitCount_0f7a4_38 : decode cJ6_bitCount_0f7a4 38 = .ok (.iushr, 1) := by decide +kernel
theorem dJ6_bitCount_0f7a4_39 : decode cJ6_bitCount_0f7a4 39 = .ok (.iadd, 1) := by decide +kernel
theorem dJ6_bitCount_0f7a4_40 : decode cJ6_bitCount_0f7a4 40 = .ok (.istore_n 0, 1) := by decide +kernel
theorem dJ6_bitCount_0f7a4_41 : decode cJ6_bitCount_0f7a4 41 = .ok (.iload_n 0, 1) := by decide +kernel
theorem dJ6_bitCount_0f7a4_42 : decode cJ6_bitCount_0f7a4 42 = .ok (.iload_n 0, 1) := by decide +kernel
theorem dJ6_bitCount_0f7a4_43 : decode cJ6_bitCount_0f7a4 43 = .ok (.bipush 16, 2) := by decide +kernel
theorem dJ6_bitCount_0f7a4_45 : decode cJ6_bitCount_0f7a4 45 = .ok (.iushr, 1) := by decide +kernel
theorem dJ6_bitCount_0f7a4_46 : decode cJ6_bitCount_0f7a4 46 = .ok (.iadd, 1) := by decide +kernel
theorem dJ6_bitCount_0f7a4_47 : decode cJ6_bitCount_0f7a4 47 = .ok (.istore_n 0, 1) := by decide +kernel
theorem dJ6_bitCount_0f7a4_48 : decode cJ6_bitCount_0f7a4 48 = .ok (.iload_n 0, 1) := by decide +kernel
theorem dJ6_bitCount_0f7a4_49 : decode cJ6_bitCount_0f7a4 49 = .ok (.bipush 63, 2) := by decide +kernel
theorem dJ6_bitCount_0f7a4_51 : decode cJ6_bitCount_0f7a4 51 = .ok (.iand, 1) := by decide +kernel
theorem dJ6_bitCount_0f7a4_52 : decode cJ6_bitCount_0f7a4 52 = .ok (.ireturn, 1) := by decide +kernel
theorem dJ9_abs_0f7a4_0 : decode cJ9_abs_0f7a4 0 = .ok (.iload_n 0, 1) := by decide +kernel
theorem dJ9_abs_0f7a4_1 : decode cJ9_abs_0f7a4 1 = .ok (.ifCond .ge 8, 3) := by decide +kernel
theorem dJ9_abs_0f7a4_4 : decode cJ9_abs_0f7a4 4 = .ok (.iload_n 0, 1) := by decide +kernel
theorem dJ9_abs_0f7a4_5 : decode cJ9_abs_0f7a4 5 = .ok (.ineg, 1) := by decide +kernel
theorem dJ9_abs_0f7a4_6 : decode cJ9_abs_0f7a4 6 = .ok (.goto 4, 3) := by decide +kernel
theorem dJ9_abs_0f7a4_9 : decode cJ9_abs_0f7a4 9 = .ok (.iload_n 0, 1) := by decide +kernel
theorem dJ9_abs_0f7a4_10 : decode cJ9_abs_0f7a4 10 = .ok (.ireturn, 1) := by decide +kernel
theorem dJ9_max_7cf53_0 : decode cJ9_max_7cf53 0 = .ok (.iload_n 0, 1) := by decide +kernel
theorem dJ9_max_7cf53_1 : decode cJ9_max_7cf53 1 = .ok (.iload_n 1, 1) := by decide +kernel
theorem dJ9_max_7cf53_2 : decode cJ9_max_7cf53 2 = .ok (.if_icmp .lt 7, 3) := by decide +kernel
theorem dJ9_max_7cf53_5 : decode cJ9_max_7cf53 5 = .ok (.iload_n 0, 1) := by decide +kernel
theorem dJ9_max_7cf53_6 : decode cJ9_max_7cf53 6 = .ok (.goto 4, 3) := by decide +kernel
theorem dJ9_max_7cf53_9 : decode cJ9_max_7cf53 9 = .ok (.iload_n 1, 1) := by decide +kernel
theorem dJ9_max_7cf53_10 : decode cJ9_max_7cf53 10 = .ok (.ireturn, 1) := by decide +kernel
theorem dJ9_min_7cf53_0 : decode cJ9_min_7cf53 0 = .ok (.iload_n 0, 1) := by decide +kernel
theorem dJ9_min_7cf53_1 : decode cJ9_min_7cf53 1 = .ok (.iload_n 1, 1) := by decide +kernel
theorem dJ9_min_7cf53_2 : decode cJ9_min_7cf53 2 = .ok (.if_icmp .gt 7, 3) := by decide +kernel
theorem dJ9_min_7cf53_5 : decode cJ9_min_7cf53 5 = .ok (.iload_n 0, 1) := by decide +kernel
theorem dJ9_min_7cf53_6 : decode cJ9_min_7cf53 6 = .ok (.goto 4, 3) := by decide +kernel
theorem dJ9_min_7cf53_9 : decode cJ9_min_7cf53 9 = .ok (.iload_n 1, 1) := by decide +kernel
theorem dJ9_min_7cf53_10 : decode cJ9_min_7cf53 10 = .ok (.ireturn, 1) := by decide +kernel
theorem dL_law_0 : decode cL_law 0 = .ok (.new 7, 3) := by decide +kernel
theorem dL_law_3 : decode cL_law 3 = .ok (.dup, 1) := by decide +kernel
theorem dL_law_4 : decode cL_law 4 = .ok (.invokespecial 9, 3) := by decide +kernel
theorem dL_law_7 : decode cL_law 7 = .ok (.astore_n 1, 1) := by decide +kernel
theorem dL_law_8 : decode cL_law 8 = .ok (.new 10, 3) := by decide +kernel
theorem dL_law_11 : decode cL_law 11 = .ok (.dup, 1) := by decide +kernel
theorem dL_law_12 : decode cL_law 12 = .ok (.invokespecial 12, 3) := by decide +kernel
theorem dL_law_15 : decode cL_law 15 = .ok (.astore_n 2, 1) := by decide +kernel
theorem dL_law_16 : decode cL_law 16 = .ok (.iconst 0, 1) := by decide +kernel
theorem dL_law_17 : decode cL_law 17 = .ok (.istore_n 3, 1) := by decide +kernel
theorem dL_law_18 : decode cL_law 18 = .ok (.iload_n 3, 1) := by decide +kernel
theorem dL_law_19 : decode cL_law 19 = .ok (.aload_n 0, 1) := by decide +kernel
theorem dL_law_20 : decode cL_law 20 = .ok (.arraylength, 1) := by decide +kernel
theorem dL_law_21 : decode cL_law 21 = .ok (.iconst 4, 1) := by decide +kernel
theorem dL_law_22 : decode cL_law 22 = .ok (.isub, 1) := by decide +kernel
theorem dL_law_23 : decode cL_law 23 = .ok (.if_icmp .gt 988, 3) := by decide +kernel
theorem dL_law_26 : decode cL_law 26 = .ok (.aload_n 0, 1) := by decide +kernel
theorem dL_law_27 : decode cL_law 27 = .ok (.iload_n 3, 1) := by decide +kernel
theorem dL_law_28 : decode cL_law 28 = .ok (.iaload, 1) := by decide +kernel
theorem dL_law_29 : decode cL_law 29 = .ok (.bipush 31, 2) := by decide +kernel
theorem dL_law_31 : decode cL_law 31 = .ok (.iand, 1) := by decide +kernel
theorem dL_law_32 : decode cL_law 32 = .ok (.tableswitch 973 0 31 #[144, 167, 180, 193, 206, 239, 262, 285, 308, 341, 364, 387, 410, 433, 446, 459, 492, 515, 548, 571, 594, 617, 676, 689, 712, 725, 758, 817, 871, 904, 927, 950], 144) := by decide +kernel
theorem dL_law_176 : decode cL_law 176 = .ok (.aload_n 1, 1) := by decide +kernel
theorem dL_law_177 : decode cL_law 177 = .ok (.aload_n 0, 1) := by decide +kernel
theorem dL_law_178 : decode cL_law 178 = .ok (.iload_n 3, 1) := by decide +kernel
theorem dL_law_179 : decode cL_law 179 = .ok (.iconst 1, 1) := by decide +kernel
theorem dL_law_180 : decode cL_law 180 = .ok (.iadd, 1) := by decide +kernel
theorem dL_law_181 : decode cL_law 181 = .ok (.iaload, 1) := by decide +kernel
theorem dL_law_182 : decode cL_law 182 = .ok (.invokevirtual 13, 3) := by decide +kernel
theorem dL_law_185 : decode cL_law 185 = .ok (.aload_n 2, 1) := by decide +kernel
theorem dL_law_186 : decode cL_law 186 = .ok (.aload_n 0, 1) := by decide +kernel
theorem dL_law_187 : decode cL_law 187 = .ok (.iload_n 3, 1) := by decide +kernel
theorem dL_law_188 : decode cL_law 188 = .ok (.iconst 1, 1) := by decide +kernel
theorem dL_law_189 : decode cL_law 189 = .ok (.iadd, 1) := by decide +kernel
theorem dL_law_190 : decode cL_law 190 = .ok (.iaload, 1) := by decide +kernel
theorem dL_law_191 : decode cL_law 191 = .ok (.invokevirtual 17, 3) := by decide +kernel
theorem dL_law_194 : decode cL_law 194 = .ok (.if_icmp .eq 811, 3) := by decide +kernel
theorem dL_law_197 : decode cL_law 197 = .ok (.iconst 0, 1) := by decide +kernel
theorem dL_law_198 : decode cL_law 198 = .ok (.ireturn, 1) := by decide +kernel
theorem dL_law_199 : decode cL_law 199 = .ok (.aload_n 1, 1) := by decide +kernel
theorem dL_law_200 : decode cL_law 200 = .ok (.invokevirtual 18, 3) := by decide +kernel
theorem dL_law_203 : decode cL_law 203 = .ok (.aload_n 2, 1) := by decide +kernel
theorem dL_law_204 : decode cL_law 204 = .ok (.invokevirtual 22, 3) := by decide +kernel
theorem dL_law_207 : decode cL_law 207 = .ok (.if_icmp .eq 798, 3) := by decide +kernel
theorem dL_law_210 : decode cL_law 210 = .ok (.iconst 0, 1) := by decide +kernel
theorem dL_law_211 : decode cL_law 211 = .ok (.ireturn, 1) := by decide +kernel
theorem dL_law_212 : decode cL_law 212 = .ok (.aload_n 1, 1) := by decide +kernel
theorem dL_law_213 : decode cL_law 213 = .ok (.invokevirtual 23, 3) := by decide +kernel
theorem dL_law_216 : decode cL_law 216 = .ok (.aload_n 2, 1) := by decide +kernel
theorem dL_law_217 : decode cL_law 217 = .ok (.invokevirtual 26, 3) := by decide +kernel
theorem dL_law_220 : decode cL_law 220 = .ok (.if_icmp .eq 785, 3) := by decide +kernel
theorem dL_law_223 : decode cL_law 223 = .ok (.iconst 0, 1) := by decide +kernel
theorem dL_law_224 : decode cL_law 224 = .ok (.ireturn, 1) := by decide +kernel
theorem dL_law_225 : decode cL_law 225 = .ok (.aload_n 1, 1) := by decide +kernel
theorem dL_law_226 : decode cL_law 226 = .ok (.invokevirtual 27, 3) := by decide +kernel
theorem dL_law_229 : decode cL_law 229 = .ok (.aload_n 2, 1) := by decide +kernel
theorem dL_law_230 : decode cL_law 230 = .ok (.invokevirtual 30, 3) := by decide +kernel
theorem dL_law_233 : decode cL_law 233 = .ok (.if_icmp .eq 772, 3) := by decide +kernel
theorem dL_law_236 : decode cL_law 236 = .ok (.iconst 0, 1) := by decide +kernel
theorem dL_law_237 : decode cL_law 237 = .ok (.ireturn, 1) := by decide +kernel
theorem dL_law_238 : decode cL_law 238 = .ok (.aload_n 1, 1) := by decide +kernel
theorem dL_law_239 : decode cL_law 239 = .ok (.aload_n 0, 1) := by decide +kernel
theorem dL_law_240 : decode cL_law 240 = .ok (.iload_n 3, 1) := by decide +kernel
theorem dL_law_241 : decode cL_law 241 = .ok (.iconst 1, 1) := by decide +kernel
theorem dL_law_242 : decode cL_law 242 = .ok (.iadd, 1) := by decide +kernel
theorem dL_law_243 : decode cL_law 243 = .ok (.iaload, 1) := by decide +kernel
theorem dL_law_244 : decode cL_law 244 = .ok (.aload_n 0, 1) := by decide +kernel
theorem dL_law_245 : decode cL_law 245 = .ok (.iload_n 3, 1) := by decide +kernel
theorem dL_law_246 : decode cL_law 246 = .ok (.iconst 2, 1) := by decide +kernel
theorem dL_law_247 : decode cL_law 247 = .ok (.iadd, 1) := by decide +kernel
theorem dL_law_248 : decode cL_law 248 = .ok (.iaload, 1) := by decide +kernel
theorem dL_law_249 : decode cL_law 249 = .ok (.invokevirtual 31, 3) := by decide +kernel
theorem dL_law_252 : decode cL_law 252 = .ok (.aload_n 2, 1) := by decide +kernel
theorem dL_law_253 : decode cL_law 253 = .ok (.aload_n 0, 1) := by decide +kernel
theorem dL_law_254 : decode cL_law 254 = .ok (.iload_n 3, 1) := by decide +kernel
theorem dL_law_255 : decode cL_law 255 = .ok (.iconst 1, 1) := by decide +kernel
theorem dL_law_256 : decode cL_law 256 = .ok (.iadd, 1) := by decide +kernel
theorem dL_law_257 : decode cL_law 257 = .ok (.iaload, 1) := by decide +kernel
theorem dL_law_258 : decode cL_law 258 = .ok (.aload_n 0, 1) := by decide +kernel
theorem dL_law_259 : decode cL_law 259 = .ok (.iload_n 3, 1) := by decide +kernel
theorem dL_law_260 : decode cL_law 260 = .ok (.iconst 2, 1) := by decide +kernel
theorem dL_law_261 : decode cL_law 261 = .ok (.iadd, 1) := by decide +kernel
theorem dL_law_262 : decode cL_law 262 = .ok (.iaload, 1) := by decide +kernel
theorem dL_law_263 : decode cL_law 263 = .ok (.invokevirtual 35, 3) := by decide +kernel
theorem dL_law_266 : decode cL_law 266 = .ok (.if_icmp .eq 739, 3) := by decide +kernel
theorem dL_law_269 : decode cL_law 269 = .ok (.iconst 0, 1) := by decide +kernel
theorem dL_law_270 : decode cL_law 270 = .ok (.ireturn, 1) := by decide +kernel
theorem dL_law_271 : decode cL_law 271 = .ok (.aload_n 1, 1) := by decide +kernel
theorem dL_law_272 : decode cL_law 272 = .ok (.aload_n 0, 1) := by decide +kernel
theorem dL_law_273 : decode cL_law 273 = .ok (.iload_n 3, 1) := by decide +kernel
theorem dL_law_274 : decode cL_law 274 = .ok (.iconst 1, 1) := by decide +kernel
theorem dL_law_275 : decode cL_law 275 = .ok (.iadd, 1) := by decide +kernel
theorem dL_law_276 : decode cL_law 276 = .ok (.iaload, 1) := by decide +kernel
theorem dL_law_277 : decode cL_law 277 = .ok (.invokevirtual 36, 3) := by decide +kernel
theorem dL_law_280 : decode cL_law 280 = .ok (.aload_n 2, 1) := by decide +kernel
theorem dL_law_281 : decode cL_law 281 = .ok (.aload_n 0, 1) := by decide +kernel
theorem dL_law_282 : decode cL_law 282 = .ok (.iload_n 3, 1) := by decide +kernel
theorem dL_law_283 : decode cL_law 283 = .ok (.iconst 1, 1) := by decide +kernel
theorem dL_law_284 : decode cL_law 284 = .ok (.iadd, 1) := by decide +kernel
theorem dL_law_285 : decode cL_law 285 = .ok (.iaload, 1) := by decide +kernel
theorem dL_law_286 : decode cL_law 286 = .ok (.invokevirtual 39, 3) := by decide +kernel
theorem dL_law_289 : decode cL_law 289 = .ok (.if_icmp .eq 716, 3) := by decide +kernel
theorem dL_law_292 : decode cL_law 292 = .ok (.iconst 0, 1) := by decide +kernel
theorem dL_law_293 : decode cL_law 293 = .ok (.ireturn, 1) := by decide +kernel
theorem dL_law_294 : decode cL_law 294 = .ok (.aload_n 1, 1) := by decide +kernel
theorem dL_law_295 : decode cL_law 295 = .ok (.aload_n 0, 1) := by decide +kernel
theorem dL_law_296 : decode cL_law 296 = .ok (.iload_n 3, 1) := by decide +kernel
theorem dL_law_297 : decode cL_law 297 = .ok (.iconst 1, 1) := by decide +kernel
theorem dL_law_298 : decode cL_law 298 = .ok (.iadd, 1) := by decide +kernel
theorem dL_law_299 : decode cL_law 299 = .ok (.iaload, 1) := by decide +kernel
theorem dL_law_300 : decode cL_law 300 = .ok (.invokevirtual 40, 3) := by decide +kernel
theorem dL_law_303 : decode cL_law 303 = .ok (.aload_n 2, 1) := by decide +kernel
theorem dL_law_304 : decode cL_law 304 = .ok (.aload_n 0, 1) := by decide +kernel
theorem dL_law_305 : decode cL_law 305 = .ok (.iload_n 3, 1) := by decide +kernel
theorem dL_law_306 : decode cL_law 306 = .ok (.iconst 1, 1) := by decide +kernel
theorem dL_law_307 : decode cL_law 307 = .ok (.iadd, 1) := by decide +kernel
theorem dL_law_308 : decode cL_law 308 = .ok (.iaload, 1) := by decide +kernel
theorem dL_law_309 : decode cL_law 309 = .ok (.invokevirtual 43, 3) := by decide +kernel
theorem dL_law_312 : decode cL_law 312 = .ok (.if_icmp .eq 693, 3) := by decide +kernel
theorem dL_law_315 : decode cL_law 315 = .ok (.iconst 0, 1) := by decide +kernel
theorem dL_law_316 : decode cL_law 316 = .ok (.ireturn, 1) := by decide +kernel
theorem dL_law_317 : decode cL_law 317 = .ok (.aload_n 1, 1) := by decide +kernel
theorem dL_law_318 : decode cL_law 318 = .ok (.aload_n 0, 1) := by decide +kernel
theorem dL_law_319 : decode cL_law 319 = .ok (.iload_n 3, 1) := by decide +kernel
theorem dL_law_320 : decode cL_law 320 = .ok (.iconst 1, 1) := by decide +kernel
theorem dL_law_321 : decode cL_law 321 = .ok (.iadd, 1) := by decide +kernel
theorem dL_law_322 : decode cL_law 322 = .ok (.iaload, 1) := by decide +kernel
theorem dL_law_323 : decode cL_law 323 = .ok (.invokevirtual 44, 3) := by decide +kernel
theorem dL_law_326 : decode cL_law 326 = .ok (.aload_n 2, 1) := by decide +kernel
theorem dL_law_327 : decode cL_law 327 = .ok (.aload_n 0, 1) := by decide +kernel
theorem dL_law_328 : decode cL_law 328 = .ok (.iload_n 3, 1) := by decide +kernel
theorem dL_law_329 : decode cL_law 329 = .ok (.iconst 1, 1) := by decide +kernel
theorem dL_law_330 : decode cL_law 330 = .ok (.iadd, 1) := by decide +kernel
theorem dL_law_331 : decode cL_law 331 = .ok (.iaload, 1) := by decide +kernel
theorem dL_law_332 : decode cL_law 332 = .ok (.invokevirtual 47, 3) := by decide +kernel
theorem dL_law_335 : decode cL_law 335 = .ok (.if_icmp .eq 670, 3) := by decide +kernel
theorem dL_law_338 : decode cL_law 338 = .ok (.iconst 0, 1) := by decide +kernel
theorem dL_law_339 : decode cL_law 339 = .ok (.ireturn, 1) := by decide +kernel
theorem dL_law_340 : decode cL_law 340 = .ok (.aload_n 1, 1) := by decide +kernel
theorem dL_law_341 : decode cL_law 341 = .ok (.aload_n 0, 1) := by decide +kernel
theorem dL_law_342 : decode cL_law 342 = .ok (.iload_n 3, 1) := by decide +kernel
theorem dL_law_343 : decode cL_law 343 = .ok (.iconst 1, 1) := by decide +kernel
theorem dL_law_344 : decode cL_law 344 = .ok (.iadd, 1) := by decide +kernel
theorem dL_law_345 : decode cL_law 345 = .ok (.iaload, 1) := by decide +kernel
theorem dL_law_346 : decode cL_law 346 = .ok (.aload_n 0, 1) := by decide +kernel
theorem dL_law_347 : decode cL_law 347 = .ok (.iload_n 3, 1) := by decide +kernel
theorem dL_law_348 : decode cL_law 348 = .ok (.iconst 2, 1) := by decide +kernel
theorem dL_law_349 : decode cL_law 349 = .ok (.iadd, 1) := by decide +kernel
theorem dL_law_350 : decode cL_law 350 = .ok (.iaload, 1) := by decide +kernel
theorem dL_law_351 : decode cL_law 351 = .ok (.invokevirtual 48, 3) := by decide +kernel
theorem dL_law_354 : decode cL_law 354 = .ok (.aload_n 2, 1) := by decide +kernel
theorem dL_law_355 : decode cL_law 355 = .ok (.aload_n 0, 1) := by decide +kernel
theorem dL_law_356 : decode cL_law 356 = .ok (.iload_n 3, 1) := by decide +kernel
theorem dL_law_357 : decode cL_law 357 = .ok (.iconst 1, 1) := by decide +kernel
theorem dL_law_358 : decode cL_law 358 = .ok (.iadd, 1) := by decide +kernel
theorem dL_law_359 : decode cL_law 359 = .ok (.iaload, 1) := by decide +kernel
theorem dL_law_360 : decode cL_law 360 = .ok (.aload_n 0, 1) := by decide +kernel
theorem dL_law_361 : decode cL_law 361 = .ok (.iload_n 3, 1) := by decide +kernel
theorem dL_law_362 : decode cL_law 362 = .ok (.iconst 2, 1) := by decide +kernel
theorem dL_law_363 : decode cL_law 363 = .ok (.iadd, 1) := by decide +kernel
theorem dL_law_364 : decode cL_law 364 = .ok (.iaload, 1) := by decide +kernel
theorem dL_law_365 : decode cL_law 365 = .ok (.invokevirtual 51, 3) := by decide +kernel
theorem dL_law_368 : decode cL_law 368 = .ok (.if_icmp .eq 637, 3) := by decide +kernel
theorem dL_law_371 : decode cL_law 371 = .ok (.iconst 0, 1) := by decide +kernel
theorem dL_law_372 : decode cL_law 372 = .ok (.ireturn, 1) := by decide +kernel
theorem dL_law_373 : decode cL_law 373 = .ok (.aload_n 1, 1) := by decide +kernel
theorem dL_law_374 : decode cL_law 374 = .ok (.aload_n 0, 1) := by decide +kernel
theorem dL_law_375 : decode cL_law 375 = .ok (.iload_n 3, 1) := by decide +kernel
theorem dL_law_376 : decode cL_law 376 = .ok (.iconst 1, 1) := by decide +kernel
theorem dL_law_377 : decode cL_law 377 = .ok (.iadd, 1) := by decide +kernel
theorem dL_law_378 : decode cL_law 378 = .ok (.iaload, 1) := by decide +kernel
theorem dL_law_379 : decode cL_law 379 = .ok (.invokevirtual 52, 3) := by decide +kernel
theorem dL_law_382 : decode cL_law 382 = .ok (.aload_n 2, 1) := by decide +kernel
theorem dL_law_383 : decode cL_law 383 = .ok (.aload_n 0, 1) := by decide +kernel
theorem dL_law_384 : decode cL_law 384 = .ok (.iload_n 3, 1) := by decide +kernel
theorem dL_law_385 : decode cL_law 385 = .ok (.iconst 1, 1) := by decide +kernel
theorem dL_law_386 : decode cL_law 386 = .ok (.iadd, 1) := by decide +kernel
theorem dL_law_387 : decode cL_law 387 = .ok (.iaload, 1) := by decide +kernel
theorem dL_law_388 : decode cL_law 388 = .ok (.invokevirtual 55, 3) := by decide +kernel
theorem dL_law_391 : decode cL_law 391 = .ok (.if_icmp .eq 614, 3) := by decide +kernel
theorem dL_law_394 : decode cL_law 394 = .ok (.iconst 0, 1) := by decide +kernel
theorem dL_law_395 : decode cL_law 395 = .ok (.ireturn, 1) := by decide +kernel
theorem dL_law_396 : decode cL_law 396 = .ok (.aload_n 1, 1) := by decide +kernel
theorem dL_law_397 : decode cL_law 397 = .ok (.aload_n 0, 1) := by decide +kernel
theorem dL_law_398 : decode cL_law 398 = .ok (.iload_n 3, 1) := by decide +kernel
theorem dL_law_399 : decode cL_law 399 = .ok (.iconst 1, 1) := by decide +kernel
theorem dL_law_400 : decode cL_law 400 = .ok (.iadd, 1) := by decide +kernel
theorem dL_law_401 : decode cL_law 401 = .ok (.iaload, 1) := by decide +kernel
theorem dL_law_402 : decode cL_law 402 = .ok (.invokevirtual 56, 3) := by decide +kernel
theorem dL_law_405 : decode cL_law 405 = .ok (.aload_n 2, 1) := by decide +kernel
theorem dL_law_406 : decode cL_law 406 = .ok (.aload_n 0, 1) := by decide +kernel
theorem dL_law_407 : decode cL_law 407 = .ok (.iload_n 3, 1) := by decide +kernel
theorem dL_law_408 : decode cL_law 408 = .ok (.iconst 1, 1) := by decide +kernel
theorem dL_law_409 : decode cL_law 409 = .ok (.iadd, 1) := by decide +kernel
theorem dL_law_410 : decode cL_law 410 = .ok (.iaload, 1) := by decide +kernel
theorem dL_law_411 : decode cL_law 411 = .ok (.invokevirtual 59, 3) := by decide +kernel
theorem dL_law_414 : decode cL_law 414 = .ok (.if_icmp .eq 591, 3) := by decide +kernel
theorem dL_law_417 : decode cL_law 417 = .ok (.iconst 0, 1) := by decide +kernel
theorem dL_law_418 : decode cL_law 418 = .ok (.ireturn, 1) := by decide +kernel
theorem dL_law_419 : decode cL_law 419 = .ok (.aload_n 1, 1) := by decide +kernel
theorem dL_law_420 : decode cL_law 420 = .ok (.aload_n 0, 1) := by decide +kernel
theorem dL_law_421 : decode cL_law 421 = .ok (.iload_n 3, 1) := by decide +kernel
theorem dL_law_422 : decode cL_law 422 = .ok (.iconst 1, 1) := by decide +kernel
theorem dL_law_423 : decode cL_law 423 = .ok (.iadd, 1) := by decide +kernel
theorem dL_law_424 : decode cL_law 424 = .ok (.iaload, 1) := by decide +kernel
theorem dL_law_425 : decode cL_law 425 = .ok (.invokevirtual 60, 3) := by decide +kernel
theorem dL_law_428 : decode cL_law 428 = .ok (.aload_n 2, 1) := by decide +kernel
theorem dL_law_429 : decode cL_law 429 = .ok (.aload_n 0, 1) := by decide +kernel
theorem dL_law_430 : decode cL_law 430 = .ok (.iload_n 3, 1) := by decide +kernel
theorem dL_law_431 : decode cL_law 431 = .ok (.iconst 1, 1) := by decide +kernel
theorem dL_law_432 : decode cL_law 432 = .ok (.iadd, 1) := by decide +kernel
theorem dL_law_433 : decode cL_law 433 = .ok (.iaload, 1) := by decide +kernel
theorem dL_law_434 : decode cL_law 434 = .ok (.invokevirtual 63, 3) := by decide +kernel
theorem dL_law_437 : decode cL_law 437 = .ok (.if_icmp .eq 568, 3) := by decide +kernel
theorem dL_law_440 : decode cL_law 440 = .ok (.iconst 0, 1) := by decide +kernel
theorem dL_law_441 : decode cL_law 441 = .ok (.ireturn, 1) := by decide +kernel
theorem dL_law_442 : decode cL_law 442 = .ok (.aload_n 1, 1) := by decide +kernel
theorem dL_law_443 : decode cL_law 443 = .ok (.aload_n 0, 1) := by decide +kernel
theorem dL_law_444 : decode cL_law 444 = .ok (.iload_n 3, 1) := by decide +kernel
theorem dL_law_445 : decode cL_law 445 = .ok (.iconst 1, 1) := by decide +kernel
theorem dL_law_446 : decode cL_law 446 = .ok (.iadd, 1) := by decide +kernel
theorem dL_law_447 : decode cL_law 447 = .ok (.iaload, 1) := by decide +kernel
theorem dL_law_448 : decode cL_law 448 = .ok (.invokevirtual 64, 3) := by decide +kernel
theorem dL_law_451 : decode cL_law 451 = .ok (.aload_n 2, 1) := by decide +kernel
theorem dL_law_452 : decode cL_law 452 = .ok (.aload_n 0, 1) := by decide +kernel
theorem dL_law_453 : decode cL_law 453 = .ok (.iload_n 3, 1) := by decide +kernel
theorem dL_law_454 : decode cL_law 454 = .ok (.iconst 1, 1) := by decide +kernel
theorem dL_law_455 : decode cL_law 455 = .ok (.iadd, 1) := by decide +kernel
theorem dL_law_456 : decode cL_law 456 = .ok (.iaload, 1) := by decide +kernel
theorem dL_law_457 : decode cL_law 457 = .ok (.invokevirtual 67, 3) := by decide +kernel
theorem dL_law_460 : decode cL_law 460 = .ok (.if_icmp .eq 545, 3) := by decide +kernel
theorem dL_law_463 : decode cL_law 463 = .ok (.iconst 0, 1) := by decide +kernel
theorem dL_law_464 : decode cL_law 464 = .ok (.ireturn, 1) := by decide +kernel
theorem dL_law_465 : decode cL_law 465 = .ok (.aload_n 1, 1) := by decide +kernel
theorem dL_law_466 : decode cL_law 466 = .ok (.invokevirtual 68, 3) := by decide +kernel
theorem dL_law_469 : decode cL_law 469 = .ok (.aload_n 2, 1) := by decide +kernel
theorem dL_law_470 : decode cL_law 470 = .ok (.invokevirtual 71, 3) := by decide +kernel
theorem dL_law_473 : decode cL_law 473 = .ok (.if_icmp .eq 532, 3) := by decide +kernel
theorem dL_law_476 : decode cL_law 476 = .ok (.iconst 0, 1) := by decide +kernel
theorem dL_law_477 : decode cL_law 477 = .ok (.ireturn, 1) := by decide +kernel
theorem dL_law_478 : decode cL_law 478 = .ok (.aload_n 1, 1) := by decide +kernel
theorem dL_law_479 : decode cL_law 479 = .ok (.invokevirtual 72, 3) := by decide +kernel
theorem dL_law_482 : decode cL_law 482 = .ok (.aload_n 2, 1) := by decide +kernel
theorem dL_law_483 : decode cL_law 483 = .ok (.invokevirtual 75, 3) := by decide +kernel
theorem dL_law_486 : decode cL_law 486 = .ok (.if_icmp .eq 519, 3) := by decide +kernel
theorem dL_law_489 : decode cL_law 489 = .ok (.iconst 0, 1) := by decide +kernel
theorem dL_law_490 : decode cL_law 490 = .ok (.ireturn, 1) := by decide +kernel
theorem dL_law_491 : decode cL_law 491 = .ok (.aload_n 1, 1) := by decide +kernel
theorem dL_law_492 : decode cL_law 492 = .ok (.aload_n 0, 1) := by decide +kernel
theorem dL_law_493 : decode cL_law 493 = .ok (.iload_n 3, 1) := by decide +kernel
theorem dL_law_494 : decode cL_law 494 = .ok (.iconst 1, 1) := by decide +kernel
theorem dL_law_495 : decode cL_law 495 = .ok (.iadd, 1) := by decide +kernel
theorem dL_law_496 : decode cL_law 496 = .ok (.iaload, 1) := by decide +kernel
theorem dL_law_497 : decode cL_law 497 = .ok (.aload_n 0, 1) := by decide +kernel
theorem dL_law_498 : decode cL_law 498 = .ok (.iload_n 3, 1) := by decide +kernel
theorem dL_law_499 : decode cL_law 499 = .ok (.iconst 2, 1) := by decide +kernel
theorem dL_law_500 : decode cL_law 500 = .ok (.iadd, 1) := by decide +kernel
theorem dL_law_501 : decode cL_law 501 = .ok (.iaload, 1) := by decide +kernel
theorem dL_law_502 : decode cL_law 502 = .ok (.invokevirtual 76, 3) := by decide +kernel
theorem dL_law_505 : decode cL_law 505 = .ok (.aload_n 2, 1) := by decide +kernel
theorem dL_law_506 : decode cL_law 506 = .ok (.aload_n 0, 1) := by decide +kernel
theorem dL_law_507 : decode cL_law 507 = .ok (.iload_n 3, 1) := by decide +kernel
theorem dL_law_508 : decode cL_law 508 = .ok (.iconst 1, 1) := by decide +kernel
theorem dL_law_509 : decode cL_law 509 = .ok (.iadd, 1) := by decide +kernel
theorem dL_law_510 : decode cL_law 510 = .ok (.iaload, 1) := by decide +kernel
theorem dL_law_511 : decode cL_law 511 = .ok (.aload_n 0, 1) := by decide +kernel
theorem dL_law_512 : decode cL_law 512 = .ok (.iload_n 3, 1) := by decide +kernel
theorem dL_law_513 : decode cL_law 513 = .ok (.iconst 2, 1) := by decide +kernel
theorem dL_law_514 : decode cL_law 514 = .ok (.iadd, 1) := by decide +kernel
theorem dL_law_515 : decode cL_law 515 = .ok (.iaload, 1) := by decide +kernel
theorem dL_law_516 : decode cL_law 516 = .ok (.invokevirtual 79, 3) := by decide +kernel
theorem dL_law_519 : decode cL_law 519 = .ok (.if_icmp .eq 486, 3) := by decide +kernel
theorem dL_law_522 : decode cL_law 522 = .ok (.iconst 0, 1) := by decide +kernel
theorem dL_law_523 : decode cL_law 523 = .ok (.ireturn, 1) := by decide +kernel
theorem dL_law_524 : decode cL_law 524 = .ok (.aload_n 1, 1) := by decide +kernel
theorem dL_law_525 : decode cL_law 525 = .ok (.aload_n 0, 1) := by decide +kernel
theorem dL_law_526 : decode cL_law 526 = .ok (.iload_n 3, 1) := by decide +kernel
theorem dL_law_527 : decode cL_law 527 = .ok (.iconst 1, 1) := by decide +kernel
theorem dL_law_528 : decode cL_law 528 = .ok (.iadd, 1) := by decide +kernel
theorem dL_law_529 : decode cL_law 529 = .ok (.iaload, 1) := by decide +kernel
theorem dL_law_530 : decode cL_law 530 = .ok (.invokevirtual 80, 3) := by decide +kernel
theorem dL_law_533 : decode cL_law 533 = .ok (.aload_n 2, 1) := by decide +kernel
theorem dL_law_534 : decode cL_law 534 = .ok (.aload_n 0, 1) := by decide +kernel
theorem dL_law_535 : decode cL_law 535 = .ok (.iload_n 3, 1) := by decide +kernel
theorem dL_law_536 : decode cL_law 536 = .ok (.iconst 1, 1) := by decide +kernel
theorem dL_law_537 : decode cL_law 537 = .ok (.iadd, 1) := by decide +kernel
theorem dL_law_538 : decode cL_law 538 = .ok (.iaload, 1) := by decide +kernel
theorem dL_law_539 : decode cL_law 539 = .ok (.invokevirtual 83, 3) := by decide +kernel
theorem dL_law_542 : decode cL_law 542 = .ok (.if_icmp .eq 463, 3) := by decide +kernel
theorem dL_law_545 : decode cL_law 545 = .ok (.iconst 0, 1) := by decide +kernel
theorem dL_law_546 : decode cL_law 546 = .ok (.ireturn, 1) := by decide +kernel
theorem dL_law_547 : decode cL_law 547 = .ok (.aload_n 1, 1) := by decide +kernel
theorem dL_law_548 : decode cL_law 548 = .ok (.aload_n 0, 1) := by decide +kernel
theorem dL_law_549 : decode cL_law 549 = .ok (.iload_n 3, 1) := by decide +kernel
theorem dL_law_550 : decode cL_law 550 = .ok (.iconst 1, 1) := by decide +kernel
theorem dL_law_551 : decode cL_law 551 = .ok (.iadd, 1) := by decide +kernel
theorem dL_law_552 : decode cL_law 552 = .ok (.iaload, 1) := by decide +kernel
theorem dL_law_553 : decode cL_law 553 = .ok (.aload_n 0, 1) := by decide +kernel
theorem dL_law_554 : decode cL_law 554 = .ok (.iload_n 3, 1) := by decide +kernel
theorem dL_law_555 : decode cL_law 555 = .ok (.iconst 2, 1) := by decide +kernel
theorem dL_law_556 : decode cL_law 556 = .ok (.iadd, 1) := by decide +kernel
theorem dL_law_557 : decode cL_law 557 = .ok (.iaload, 1) := by decide +kernel
theorem dL_law_558 : decode cL_law 558 = .ok (.invokevirtual 84, 3) := by decide +kernel
theorem dL_law_561 : decode cL_law 561 = .ok (.aload_n 2, 1) := by decide +kernel
theorem dL_law_562 : decode cL_law 562 = .ok (.aload_n 0, 1) := by decide +kernel
theorem dL_law_563 : decode cL_law 563 = .ok (.iload_n 3, 1) := by decide +kernel
theorem dL_law_564 : decode cL_law 564 = .ok (.iconst 1, 1) := by decide +kernel
theorem dL_law_565 : decode cL_law 565 = .ok (.iadd, 1) := by decide +kernel
theorem dL_law_566 : decode cL_law 566 = .ok (.iaload, 1) := by decide +kernel
theorem dL_law_567 : decode cL_law 567 = .ok (.aload_n 0, 1) := by decide +kernel
theorem dL_law_568 : decode cL_law 568 = .ok (.iload_n 3, 1) := by decide +kernel
theorem dL_law_569 : decode cL_law 569 = .ok (.iconst 2, 1) := by decide +kernel
theorem dL_law_570 : decode cL_law 570 = .ok (.iadd, 1) := by decide +kernel
theorem dL_law_571 : decode cL_law 571 = .ok (.iaload, 1) := by decide +kernel
theorem dL_law_572 : decode cL_law 572 = .ok (.invokevirtual 87, 3) := by decide +kernel
theorem dL_law_575 : decode cL_law 575 = .ok (.if_icmp .eq 430, 3) := by decide +kernel
theorem dL_law_578 : decode cL_law 578 = .ok (.iconst 0, 1) := by decide +kernel
theorem dL_law_579 : decode cL_law 579 = .ok (.ireturn, 1) := by decide +kernel
theorem dL_law_580 : decode cL_law 580 = .ok (.aload_n 1, 1) := by decide +kernel
theorem dL_law_581 : decode cL_law 581 = .ok (.aload_n 0, 1) := by decide +kernel
theorem dL_law_582 : decode cL_law 582 = .ok (.iload_n 3, 1) := by decide +kernel
theorem dL_law_583 : decode cL_law 583 = .ok (.iconst 1, 1) := by decide +kernel
theorem dL_law_584 : decode cL_law 584 = .ok (.iadd, 1) := by decide +kernel
theorem dL_law_585 : decode cL_law 585 = .ok (.iaload, 1) := by decide +kernel
theorem dL_law_586 : decode cL_law 586 = .ok (.invokevirtual 88, 3) := by decide +kernel
theorem dL_law_589 : decode cL_law 589 = .ok (.aload_n 2, 1) := by decide +kernel
theorem dL_law_590 : decode cL_law 590 = .ok (.aload_n 0, 1) := by decide +kernel
theorem dL_law_591 : decode cL_law 591 = .ok (.iload_n 3, 1) := by decide +kernel
theorem dL_law_592 : decode cL_law 592 = .ok (.iconst 1, 1) := by decide +kernel
theorem dL_law_593 : decode cL_law 593 = .ok (.iadd, 1) := by decide +kernel
theorem dL_law_594 : decode cL_law 594 = .ok (.iaload, 1) := by decide +kernel
theorem dL_law_595 : decode cL_law 595 = .ok (.invokevirtual 91, 3) := by decide +kernel
theorem dL_law_598 : decode cL_law 598 = .ok (.if_icmp .eq 407, 3) := by decide +kernel
theorem dL_law_601 : decode cL_law 601 = .ok (.iconst 0, 1) := by decide +kernel
theorem dL_law_602 : decode cL_law 602 = .ok (.ireturn, 1) := by decide +kernel
theorem dL_law_603 : decode cL_law 603 = .ok (.aload_n 1, 1) := by decide +kernel
theorem dL_law_604 : decode cL_law 604 = .ok (.aload_n 0, 1) := by decide +kernel
theorem dL_law_605 : decode cL_law 605 = .ok (.iload_n 3, 1) := by decide +kernel
theorem dL_law_606 : decode cL_law 606 = .ok (.iconst 1, 1) := by decide +kernel
theorem dL_law_607 : decode cL_law 607 = .ok (.iadd, 1) := by decide +kernel
theorem dL_law_608 : decode cL_law 608 = .ok (.iaload, 1) := by decide +kernel
theorem dL_law_609 : decode cL_law 609 = .ok (.invokevirtual 92, 3) := by decide +kernel
theorem dL_law_612 : decode cL_law 612 = .ok (.aload_n 2, 1) := by decide +kernel
theorem dL_law_613 : decode cL_law 613 = .ok (.aload_n 0, 1) := by decide +kernel
theorem dL_law_614 : decode cL_law 614 = .ok (.iload_n 3, 1) := by decide +kernel
theorem dL_law_615 : decode cL_law 615 = .ok (.iconst 1, 1) := by decide +kernel
theorem dL_law_616 : decode cL_law 616 = .ok (.iadd, 1) := by decide +kernel
theorem dL_law_617 : decode cL_law 617 = .ok (.iaload, 1) := by decide +kernel
theorem dL_law_618 : decode cL_law 618 = .ok (.invokevirtual 95, 3) := by decide +kernel
theorem dL_law_621 : decode cL_law 621 = .ok (.if_icmp .eq 384, 3) := by decide +kernel
theorem dL_law_624 : decode cL_law 624 = .ok (.iconst 0, 1) := by decide +kernel
theorem dL_law_625 : decode cL_law 625 = .ok (.ireturn, 1) := by decide +kernel
theorem dL_law_626 : decode cL_law 626 = .ok (.aload_n 1, 1) := by decide +kernel
theorem dL_law_627 : decode cL_law 627 = .ok (.aload_n 0, 1) := by decide +kernel
theorem dL_law_628 : decode cL_law 628 = .ok (.iload_n 3, 1) := by decide +kernel
theorem dL_law_629 : decode cL_law 629 = .ok (.iconst 1, 1) := by decide +kernel
theorem dL_law_630 : decode cL_law 630 = .ok (.iadd, 1) := by decide +kernel
theorem dL_law_631 : decode cL_law 631 = .ok (.iaload, 1) := by decide +kernel
theorem dL_law_632 : decode cL_law 632 = .ok (.invokevirtual 96, 3) := by decide +kernel
theorem dL_law_635 : decode cL_law 635 = .ok (.aload_n 2, 1) := by decide +kernel
theorem dL_law_636 : decode cL_law 636 = .ok (.aload_n 0, 1) := by decide +kernel
theorem dL_law_637 : decode cL_law 637 = .ok (.iload_n 3, 1) := by decide +kernel
theorem dL_law_638 : decode cL_law 638 = .ok (.iconst 1, 1) := by decide +kernel
theorem dL_law_639 : decode cL_law 639 = .ok (.iadd, 1) := by decide +kernel
theorem dL_law_640 : decode cL_law 640 = .ok (.iaload, 1) := by decide +kernel
theorem dL_law_641 : decode cL_law 641 = .ok (.invokevirtual 99, 3) := by decide +kernel
theorem dL_law_644 : decode cL_law 644 = .ok (.if_icmp .eq 361, 3) := by decide +kernel
theorem dL_law_647 : decode cL_law 647 = .ok (.iconst 0, 1) := by decide +kernel
theorem dL_law_648 : decode cL_law 648 = .ok (.ireturn, 1) := by decide +kernel
theorem dL_law_649 : decode cL_law 649 = .ok (.aload_n 1, 1) := by decide +kernel
theorem dL_law_650 : decode cL_law 650 = .ok (.aload_n 0, 1) := by decide +kernel
theorem dL_law_651 : decode cL_law 651 = .ok (.iload_n 3, 1) := by decide +kernel
theorem dL_law_652 : decode cL_law 652 = .ok (.iconst 1, 1) := by decide +kernel
theorem dL_law_653 : decode cL_law 653 = .ok (.iadd, 1) := by decide +kernel
theorem dL_law_654 : decode cL_law 654 = .ok (.iaload, 1) := by decide +kernel
theorem dL_law_655 : decode cL_law 655 = .ok (.aload_n 0, 1) := by decide +kernel
theorem dL_law_656 : decode cL_law 656 = .ok (.iload_n 3, 1) := by decide +kernel
theorem dL_law_657 : decode cL_law 657 = .ok (.iconst 2, 1) := by decide +kernel
theorem dL_law_658 : decode cL_law 658 = .ok (.iadd, 1) := by decide +kernel
theorem dL_law_659 : decode cL_law 659 = .ok (.iaload, 1) := by decide +kernel
theorem dL_law_660 : decode cL_law 660 = .ok (.aload_n 0, 1) := by decide +kernel
theorem dL_law_661 : decode cL_law 661 = .ok (.iload_n 3, 1) := by decide +kernel
theorem dL_law_662 : decode cL_law 662 = .ok (.iconst 3, 1) := by decide +kernel
theorem dL_law_663 : decode cL_law 663 = .ok (.iadd, 1) := by decide +kernel
theorem dL_law_664 : decode cL_law 664 = .ok (.iaload, 1) := by decide +kernel
theorem dL_law_665 : decode cL_law 665 = .ok (.ifCond .eq 7, 3) := by decide +kernel
theorem dL_law_668 : decode cL_law 668 = .ok (.iconst 1, 1) := by decide +kernel
theorem dL_law_669 : decode cL_law 669 = .ok (.goto 4, 3) := by decide +kernel
theorem dL_law_672 : decode cL_law 672 = .ok (.iconst 0, 1) := by decide +kernel
theorem dL_law_673 : decode cL_law 673 = .ok (.invokevirtual 100, 3) := by decide +kernel
theorem dL_law_676 : decode cL_law 676 = .ok (.aload_n 2, 1) := by decide +kernel
theorem dL_law_677 : decode cL_law 677 = .ok (.aload_n 0, 1) := by decide +kernel
theorem dL_law_678 : decode cL_law 678 = .ok (.iload_n 3, 1) := by decide +kernel
theorem dL_law_679 : decode cL_law 679 = .ok (.iconst 1, 1) := by decide +kernel
theorem dL_law_680 : decode cL_law 680 = .ok (.iadd, 1) := by decide +kernel
theorem dL_law_681 : decode cL_law 681 = .ok (.iaload, 1) := by decide +kernel
theorem dL_law_682 : decode cL_law 682 = .ok (.aload_n 0, 1) := by decide +kernel
theorem dL_law_683 : decode cL_law 683 = .ok (.iload_n 3, 1) := by decide +kernel
theorem dL_law_684 : decode cL_law 684 = .ok (.iconst 2, 1) := by decide +kernel
theorem dL_law_685 : decode cL_law 685 = .ok (.iadd, 1) := by decide +kernel
theorem dL_law_686 : decode cL_law 686 = .ok (.iaload, 1) := by decide +kernel
theorem dL_law_687 : decode cL_law 687 = .ok (.aload_n 0, 1) := by decide +kernel
theorem dL_law_688 : decode cL_law 688 = .ok (.iload_n 3, 1) := by decide +kernel
theorem dL_law_689 : decode cL_law 689 = .ok (.iconst 3, 1) := by decide +kernel
theorem dL_law_690 : decode cL_law 690 = .ok (.iadd, 1) := by decide +kernel
theorem dL_law_691 : decode cL_law 691 = .ok (.iaload, 1) := by decide +kernel
theorem dL_law_692 : decode cL_law 692 = .ok (.ifCond .eq 7, 3) := by decide +kernel
theorem dL_law_695 : decode cL_law 695 = .ok (.iconst 1, 1) := by decide +kernel
theorem dL_law_696 : decode cL_law 696 = .ok (.goto 4, 3) := by decide +kernel
theorem dL_law_699 : decode cL_law 699 = .ok (.iconst 0, 1) := by decide +kernel
theorem dL_law_700 : decode cL_law 700 = .ok (.invokevirtual 104, 3) := by decide +kernel
theorem dL_law_703 : decode cL_law 703 = .ok (.if_icmp .eq 302, 3) := by decide +kernel
theorem dL_law_706 : decode cL_law 706 = .ok (.iconst 0, 1) := by decide +kernel
theorem dL_law_707 : decode cL_law 707 = .ok (.ireturn, 1) := by decide +kernel
theorem dL_law_708 : decode cL_law 708 = .ok (.aload_n 1, 1) := by decide +kernel
theorem dL_law_709 : decode cL_law 709 = .ok (.invokevirtual 105, 3) := by decide +kernel
theorem dL_law_712 : decode cL_law 712 = .ok (.aload_n 2, 1) := by decide +kernel
theorem dL_law_713 : decode cL_law 713 = .ok (.invokevirtual 108, 3) := by decide +kernel
theorem dL_law_716 : decode cL_law 716 = .ok (.if_icmp .eq 289, 3) := by decide +kernel
theorem dL_law_719 : decode cL_law 719 = .ok (.iconst 0, 1) := by decide +kernel
theorem dL_law_720 : decode cL_law 720 = .ok (.ireturn, 1) := by decide +kernel
theorem dL_law_721 : decode cL_law 721 = .ok (.aload_n 1, 1) := by decide +kernel
theorem dL_law_722 : decode cL_law 722 = .ok (.aload_n 0, 1) := by decide +kernel
theorem dL_law_723 : decode cL_law 723 = .ok (.iload_n 3, 1) := by decide +kernel
theorem dL_law_724 : decode cL_law 724 = .ok (.iconst 1, 1) := by decide +kernel
theorem dL_law_725 : decode cL_law 725 = .ok (.iadd, 1) := by decide +kernel
theorem dL_law_726 : decode cL_law 726 = .ok (.iaload, 1) := by decide +kernel
theorem dL_law_727 : decode cL_law 727 = .ok (.invokevirtual 109, 3) := by decide +kernel
theorem dL_law_730 : decode cL_law 730 = .ok (.aload_n 2, 1) := by decide +kernel
theorem dL_law_731 : decode cL_law 731 = .ok (.aload_n 0, 1) := by decide +kernel
theorem dL_law_732 : decode cL_law 732 = .ok (.iload_n 3, 1) := by decide +kernel
theorem dL_law_733 : decode cL_law 733 = .ok (.iconst 1, 1) := by decide +kernel
theorem dL_law_734 : decode cL_law 734 = .ok (.iadd, 1) := by decide +kernel
theorem dL_law_735 : decode cL_law 735 = .ok (.iaload, 1) := by decide +kernel
theorem dL_law_736 : decode cL_law 736 = .ok (.invokevirtual 112, 3) := by decide +kernel
theorem dL_law_739 : decode cL_law 739 = .ok (.if_icmp .eq 266, 3) := by decide +kernel
theorem dL_law_742 : decode cL_law 742 = .ok (.iconst 0, 1) := by decide +kernel
theorem dL_law_743 : decode cL_law 743 = .ok (.ireturn, 1) := by decide +kernel
theorem dL_law_744 : decode cL_law 744 = .ok (.aload_n 1, 1) := by decide +kernel
theorem dL_law_745 : decode cL_law 745 = .ok (.invokevirtual 113, 3) := by decide +kernel
theorem dL_law_748 : decode cL_law 748 = .ok (.aload_n 2, 1) := by decide +kernel
theorem dL_law_749 : decode cL_law 749 = .ok (.invokevirtual 116, 3) := by decide +kernel
theorem dL_law_752 : decode cL_law 752 = .ok (.if_icmp .eq 253, 3) := by decide +kernel
theorem dL_law_755 : decode cL_law 755 = .ok (.iconst 0, 1) := by decide +kernel
theorem dL_law_756 : decode cL_law 756 = .ok (.ireturn, 1) := by decide +kernel
theorem dL_law_757 : decode cL_law 757 = .ok (.aload_n 1, 1) := by decide +kernel
theorem dL_law_758 : decode cL_law 758 = .ok (.aload_n 0, 1) := by decide +kernel
theorem dL_law_759 : decode cL_law 759 = .ok (.iload_n 3, 1) := by decide +kernel
theorem dL_law_760 : decode cL_law 760 = .ok (.iconst 1, 1) := by decide +kernel
theorem dL_law_761 : decode cL_law 761 = .ok (.iadd, 1) := by decide +kernel
theorem dL_law_762 : decode cL_law 762 = .ok (.iaload, 1) := by decide +kernel
theorem dL_law_763 : decode cL_law 763 = .ok (.aload_n 0, 1) := by decide +kernel
theorem dL_law_764 : decode cL_law 764 = .ok (.iload_n 3, 1) := by decide +kernel
theorem dL_law_765 : decode cL_law 765 = .ok (.iconst 2, 1) := by decide +kernel
theorem dL_law_766 : decode cL_law 766 = .ok (.iadd, 1) := by decide +kernel
theorem dL_law_767 : decode cL_law 767 = .ok (.iaload, 1) := by decide +kernel
theorem dL_law_768 : decode cL_law 768 = .ok (.invokevirtual 117, 3) := by decide +kernel
theorem dL_law_771 : decode cL_law 771 = .ok (.aload_n 2, 1) := by decide +kernel
theorem dL_law_772 : decode cL_law 772 = .ok (.aload_n 0, 1) := by decide +kernel
theorem dL_law_773 : decode cL_law 773 = .ok (.iload_n 3, 1) := by decide +kernel
theorem dL_law_774 : decode cL_law 774 = .ok (.iconst 1, 1) := by decide +kernel
theorem dL_law_775 : decode cL_law 775 = .ok (.iadd, 1) := by decide +kernel
theorem dL_law_776 : decode cL_law 776 = .ok (.iaload, 1) := by decide +kernel
theorem dL_law_777 : decode cL_law 777 = .ok (.aload_n 0, 1) := by decide +kernel
theorem dL_law_778 : decode cL_law 778 = .ok (.iload_n 3, 1) := by decide +kernel
theorem dL_law_779 : decode cL_law 779 = .ok (.iconst 2, 1) := by decide +kernel
theorem dL_law_780 : decode cL_law 780 = .ok (.iadd, 1) := by decide +kernel
theorem dL_law_781 : decode cL_law 781 = .ok (.iaload, 1) := by decide +kernel
theorem dL_law_782 : decode cL_law 782 = .ok (.invokevirtual 120, 3) := by decide +kernel
theorem dL_law_785 : decode cL_law 785 = .ok (.if_icmp .eq 220, 3) := by decide +kernel
theorem dL_law_788 : decode cL_law 788 = .ok (.iconst 0, 1) := by decide +kernel
theorem dL_law_789 : decode cL_law 789 = .ok (.ireturn, 1) := by decide +kernel
theorem dL_law_790 : decode cL_law 790 = .ok (.aload_n 1, 1) := by decide +kernel
theorem dL_law_791 : decode cL_law 791 = .ok (.aload_n 0, 1) := by decide +kernel
theorem dL_law_792 : decode cL_law 792 = .ok (.iload_n 3, 1) := by decide +kernel
theorem dL_law_793 : decode cL_law 793 = .ok (.iconst 1, 1) := by decide +kernel
theorem dL_law_794 : decode cL_law 794 = .ok (.iadd, 1) := by decide +kernel
theorem dL_law_795 : decode cL_law 795 = .ok (.iaload, 1) := by decide +kernel
theorem dL_law_796 : decode cL_law 796 = .ok (.aload_n 0, 1) := by decide +kernel
theorem dL_law_797 : decode cL_law 797 = .ok (.iload_n 3, 1) := by decide +kernel
theorem dL_law_798 : decode cL_law 798 = .ok (.iconst 2, 1) := by decide +kernel
theorem dL_law_799 : decode cL_law 799 = .ok (.iadd, 1) := by decide +kernel
theorem dL_law_800 : decode cL_law 800 = .ok (.iaload, 1) := by decide +kernel
theorem dL_law_801 : decode cL_law 801 = .ok (.aload_n 0, 1) := by decide +kernel
theorem dL_law_802 : decode cL_law 802 = .ok (.iload_n 3, 1) := by decide +kernel
theorem dL_law_803 : decode cL_law 803 = .ok (.iconst 3, 1) := by decide +kernel
theorem dL_law_804 : decode cL_law 804 = .ok (.iadd, 1) := by decide +kernel
theorem dL_law_805 : decode cL_law 805 = .ok (.iaload, 1) := by decide +kernel
theorem dL_law_806 : decode cL_law 806 = .ok (.ifCond .eq 7, 3) := by decide +kernel
theorem dL_law_809 : decode cL_law 809 = .ok (.iconst 1, 1) := by decide +kernel
theorem dL_law_810 : decode cL_law 810 = .ok (.goto 4, 3) := by decide +kernel
theorem dL_law_813 : decode cL_law 813 = .ok (.iconst 0, 1) := by decide +kernel
theorem dL_law_814 : decode cL_law 814 = .ok (.invokevirtual 121, 3) := by decide +kernel
theorem dL_law_817 : decode cL_law 817 = .ok (.aload_n 2, 1) := by decide +kernel
theorem dL_law_818 : decode cL_law 818 = .ok (.aload_n 0, 1) := by decide +kernel
theorem dL_law_819 : decode cL_law 819 = .ok (.iload_n 3, 1) := by decide +kernel
theorem dL_law_820 : decode cL_law 820 = .ok (.iconst 1, 1) := by decide +kernel
theorem dL_law_821 : decode cL_law 821 = .ok (.iadd, 1) := by decide +kernel
theorem dL_law_822 : decode cL_law 822 = .ok (.iaload, 1) := by decide +kernel
theorem dL_law_823 : decode cL_law 823 = .ok (.aload_n 0, 1) := by decide +kernel
theorem dL_law_824 : decode cL_law 824 = .ok (.iload_n 3, 1) := by decide +kernel
theorem dL_law_825 : decode cL_law 825 = .ok (.iconst 2, 1) := by decide +kernel
theorem dL_law_826 : decode cL_law 826 = .ok (.iadd, 1) := by decide +kernel
theorem dL_law_827 : decode cL_law 827 = .ok (.iaload, 1) := by decide +kernel
theorem dL_law_828 : decode cL_law 828 = .ok (.aload_n 0, 1) := by decide +kernel
theorem dL_law_829 : decode cL_law 829 = .ok (.iload_n 3, 1) := by decide +kernel
theorem dL_law_830 : decode cL_law 830 = .ok (.iconst 3, 1) := by decide +kernel
theorem dL_law_831 : decode cL_law 831 = .ok (.iadd, 1) := by decide +kernel
theorem dL_law_832 : decode cL_law 832 = .ok (.iaload, 1) := by decide +kernel
theorem dL_law_833 : decode cL_law 833 = .ok (.ifCond .eq 7, 3) := by decide +kernel
theorem dL_law_836 : decode cL_law 836 = .ok (.iconst 1, 1) := by decide +kernel
theorem dL_law_837 : decode cL_law 837 = .ok (.goto 4, 3) := by decide +kernel
theorem dL_law_840 : decode cL_law 840 = .ok (.iconst 0, 1) := by decide +kernel
theorem dL_law_841 : decode cL_law 841 = .ok (.invokevirtual 124, 3) := by decide +kernel
theorem dL_law_844 : decode cL_law 844 = .ok (.if_icmp .eq 161, 3) := by decide +kernel
theorem dL_law_847 : decode cL_law 847 = .ok (.iconst 0, 1) := by decide +kernel
theorem dL_law_848 : decode cL_law 848 = .ok (.ireturn, 1) := by decide +kernel
theorem dL_law_849 : decode cL_law 849 = .ok (.aload_n 1, 1) := by decide +kernel
theorem dL_law_850 : decode cL_law 850 = .ok (.aload_n 0, 1) := by decide +kernel
theorem dL_law_851 : decode cL_law 851 = .ok (.iload_n 3, 1) := by decide +kernel
theorem dL_law_852 : decode cL_law 852 = .ok (.iconst 1, 1) := by decide +kernel
theorem dL_law_853 : decode cL_law 853 = .ok (.iadd, 1) := by decide +kernel
theorem dL_law_854 : decode cL_law 854 = .ok (.iaload, 1) := by decide +kernel
theorem dL_law_855 : decode cL_law 855 = .ok (.i2l, 1) := by decide +kernel
theorem dL_law_856 : decode cL_law 856 = .ok (.bipush 32, 2) := by decide +kernel
theorem dL_law_858 : decode cL_law 858 = .ok (.lshl, 1) := by decide +kernel
theorem dL_law_859 : decode cL_law 859 = .ok (.aload_n 0, 1) := by decide +kernel
theorem dL_law_860 : decode cL_law 860 = .ok (.iload_n 3, 1) := by decide +kernel
theorem dL_law_861 : decode cL_law 861 = .ok (.iconst 2, 1) := by decide +kernel
theorem dL_law_862 : decode cL_law 862 = .ok (.iadd, 1) := by decide +kernel
theorem dL_law_863 : decode cL_law 863 = .ok (.iaload, 1) := by decide +kernel
theorem dL_law_864 : decode cL_law 864 = .ok (.i2l, 1) := by decide +kernel
theorem dL_law_865 : decode cL_law 865 = .ok (.ldc2_w 125, 3) := by decide +kernel
theorem dL_law_868 : decode cL_law 868 = .ok (.land, 1) := by decide +kernel
theorem dL_law_869 : decode cL_law 869 = .ok (.lor, 1) := by decide +kernel
theorem dL_law_870 : decode cL_law 870 = .ok (.invokevirtual 127, 3) := by decide +kernel
theorem dL_law_873 : decode cL_law 873 = .ok (.aload_n 2, 1) := by decide +kernel
theorem dL_law_874 : decode cL_law 874 = .ok (.aload_n 0, 1) := by decide +kernel
theorem dL_law_875 : decode cL_law 875 = .ok (.iload_n 3, 1) := by decide +kernel
theorem dL_law_876 : decode cL_law 876 = .ok (.iconst 1, 1) := by decide +kernel
theorem dL_law_877 : decode cL_law 877 = .ok (.iadd, 1) := by decide +kernel
theorem dL_law_878 : decode cL_law 878 = .ok (.iaload, 1) := by decide +kernel
theorem dL_law_879 : decode cL_law 879 = .ok (.i2l, 1) := by decide +kernel
theorem dL_law_880 : decode cL_law 880 = .ok (.bipush 32, 2) := by decide +kernel
theorem dL_law_882 : decode cL_law 882 = .ok (.lshl, 1) := by decide +kernel
theorem dL_law_883 : decode cL_law 883 = .ok (.aload_n 0, 1) := by decide +kernel
theorem dL_law_884 : decode cL_law 884 = .ok (.iload_n 3, 1) := by decide +kernel
theorem dL_law_885 : decode cL_law 885 = .ok (.iconst 2, 1) := by decide +kernel
theorem dL_law_886 : decode cL_law 886 = .ok (.iadd, 1) := by decide +kernel
theorem dL_law_887 : decode cL_law 887 = .ok (.iaload, 1) := by decide +kernel
theorem dL_law_888 : decode cL_law 888 = .ok (.i2l, 1) := by decide +kernel
theorem dL_law_889 : decode cL_law 889 = .ok (.ldc2_w 125, 3) := by decide +kernel
theorem dL_law_892 : decode cL_law 892 = .ok (.land, 1) := by decide +kernel
theorem dL_law_893 : decode cL_law 893 = .ok (.lor, 1) := by decide +kernel
theorem dL_law_894 : decode cL_law 894 = .ok (.invokevirtual 131, 3) := by decide +kernel
theorem dL_law_897 : decode cL_law 897 = .ok (.lcmp, 1) := by decide +kernel
theorem dL_law_898 : decode cL_law 898 = .ok (.ifCond .eq 107, 3) := by decide +kernel
theorem dL_law_901 : decode cL_law 901 = .ok (.iconst 0, 1) := by decide +kernel
theorem dL_law_902 : decode cL_law 902 = .ok (.ireturn, 1) := by decide +kernel
theorem dL_law_903 : decode cL_law 903 = .ok (.aload_n 1, 1) := by decide +kernel
theorem dL_law_904 : decode cL_law 904 = .ok (.aload_n 0, 1) := by decide +kernel
theorem dL_law_905 : decode cL_law 905 = .ok (.iload_n 3, 1) := by decide +kernel
theorem dL_law_906 : decode cL_law 906 = .ok (.iconst 1, 1) := by decide +kernel
theorem dL_law_907 : decode cL_law 907 = .ok (.iadd, 1) := by decide +kernel
theorem dL_law_908 : decode cL_law 908 = .ok (.iaload, 1) := by decide +kernel
theorem dL_law_909 : decode cL_law 909 = .ok (.aload_n 0, 1) := by decide +kernel
theorem dL_law_910 : decode cL_law 910 = .ok (.iload_n 3, 1) := by decide +kernel
theorem dL_law_911 : decode cL_law 911 = .ok (.iconst 2, 1) := by decide +kernel
theorem dL_law_912 : decode cL_law 912 = .ok (.iadd, 1) := by decide +kernel
theorem dL_law_913 : decode cL_law 913 = .ok (.iaload, 1) := by decide +kernel
theorem dL_law_914 : decode cL_law 914 = .ok (.invokevirtual 132, 3) := by decide +kernel
theorem dL_law_917 : decode cL_law 917 = .ok (.aload_n 2, 1) := by decide +kernel
theorem dL_law_918 : decode cL_law 918 = .ok (.aload_n 0, 1) := by decide +kernel
theorem dL_law_919 : decode cL_law 919 = .ok (.iload_n 3, 1) := by decide +kernel
theorem dL_law_920 : decode cL_law 920 = .ok (.iconst 1, 1) := by decide +kernel
theorem dL_law_921 : decode cL_law 921 = .ok (.iadd, 1) := by decide +kernel
theorem dL_law_922 : decode cL_law 922 = .ok (.iaload, 1) := by decide +kernel
theorem dL_law_923 : decode cL_law 923 = .ok (.aload_n 0, 1) := by decide +kernel
theorem dL_law_924 : decode cL_law 924 = .ok (.iload_n 3, 1) := by decide +kernel
theorem dL_law_925 : decode cL_law 925 = .ok (.iconst 2, 1) := by decide +kernel
theorem dL_law_926 : decode cL_law 926 = .ok (.iadd, 1) := by decide +kernel
theorem dL_law_927 : decode cL_law 927 = .ok (.iaload, 1) := by decide +kernel
theorem dL_law_928 : decode cL_law 928 = .ok (.invokevirtual 135, 3) := by decide +kernel
theorem dL_law_931 : decode cL_law 931 = .ok (.if_icmp .eq 74, 3) := by decide +kernel
theorem dL_law_934 : decode cL_law 934 = .ok (.iconst 0, 1) := by decide +kernel
theorem dL_law_935 : decode cL_law 935 = .ok (.ireturn, 1) := by decide +kernel
theorem dL_law_936 : decode cL_law 936 = .ok (.aload_n 1, 1) := by decide +kernel
theorem dL_law_937 : decode cL_law 937 = .ok (.aload_n 0, 1) := by decide +kernel
theorem dL_law_938 : decode cL_law 938 = .ok (.iload_n 3, 1) := by decide +kernel
theorem dL_law_939 : decode cL_law 939 = .ok (.iconst 1, 1) := by decide +kernel
theorem dL_law_940 : decode cL_law 940 = .ok (.iadd, 1) := by decide +kernel
theorem dL_law_941 : decode cL_law 941 = .ok (.iaload, 1) := by decide +kernel
theorem dL_law_942 : decode cL_law 942 = .ok (.invokevirtual 136, 3) := by decide +kernel
theorem dL_law_945 : decode cL_law 945 = .ok (.aload_n 2, 1) := by decide +kernel
theorem dL_law_946 : decode cL_law 946 = .ok (.aload_n 0, 1) := by decide +kernel
theorem dL_law_947 : decode cL_law 947 = .ok (.iload_n 3, 1) := by decide +kernel
theorem dL_law_948 : decode cL_law 948 = .ok (.iconst 1, 1) := by decide +kernel
theorem dL_law_949 : decode cL_law 949 = .ok (.iadd, 1) := by decide +kernel
theorem dL_law_950 : decode cL_law 950 = .ok (.iaload, 1) := by decide +kernel
theorem dL_law_951 : decode cL_law 951 = .ok (.invokevirtual 139, 3) := by decide +kernel
theorem dL_law_954 : decode cL_law 954 = .ok (.if_icmp .eq 51, 3) := by decide +kernel
theorem dL_law_957 : decode cL_law 957 = .ok (.iconst 0, 1) := by decide +kernel
theorem dL_law_958 : decode cL_law 958 = .ok (.ireturn, 1) := by decide +kernel
theorem dL_law_959 : decode cL_law 959 = .ok (.aload_n 1, 1) := by decide +kernel
theorem dL_law_960 : decode cL_law 960 = .ok (.aload_n 0, 1) := by decide +kernel
theorem dL_law_961 : decode cL_law 961 = .ok (.iload_n 3, 1) := by decide +kernel
theorem dL_law_962 : decode cL_law 962 = .ok (.iconst 1, 1) := by decide +kernel
theorem dL_law_963 : decode cL_law 963 = .ok (.iadd, 1) := by decide +kernel
theorem dL_law_964 : decode cL_law 964 = .ok (.iaload, 1) := by decide +kernel
theorem dL_law_965 : decode cL_law 965 = .ok (.invokevirtual 140, 3) := by decide +kernel
theorem dL_law_968 : decode cL_law 968 = .ok (.aload_n 2, 1) := by decide +kernel
theorem dL_law_969 : decode cL_law 969 = .ok (.aload_n 0, 1) := by decide +kernel
theorem dL_law_970 : decode cL_law 970 = .ok (.iload_n 3, 1) := by decide +kernel
theorem dL_law_971 : decode cL_law 971 = .ok (.iconst 1, 1) := by decide +kernel
theorem dL_law_972 : decode cL_law 972 = .ok (.iadd, 1) := by decide +kernel
theorem dL_law_973 : decode cL_law 973 = .ok (.iaload, 1) := by decide +kernel
theorem dL_law_974 : decode cL_law 974 = .ok (.invokevirtual 143, 3) := by decide +kernel
theorem dL_law_977 : decode cL_law 977 = .ok (.if_icmp .eq 28, 3) := by decide +kernel
theorem dL_law_980 : decode cL_law 980 = .ok (.iconst 0, 1) := by decide +kernel
theorem dL_law_981 : decode cL_law 981 = .ok (.ireturn, 1) := by decide +kernel
theorem dL_law_982 : decode cL_law 982 = .ok (.aload_n 1, 1) := by decide +kernel
theorem dL_law_983 : decode cL_law 983 = .ok (.aload_n 0, 1) := by decide +kernel
theorem dL_law_984 : decode cL_law 984 = .ok (.iload_n 3, 1) := by decide +kernel
theorem dL_law_985 : decode cL_law 985 = .ok (.iconst 1, 1) := by decide +kernel
theorem dL_law_986 : decode cL_law 986 = .ok (.iadd, 1) := by decide +kernel
theorem dL_law_987 : decode cL_law 987 = .ok (.iaload, 1) := by decide +kernel
theorem dL_law_988 : decode cL_law 988 = .ok (.invokevirtual 144, 3) := by decide +kernel
theorem dL_law_991 : decode cL_law 991 = .ok (.aload_n 2, 1) := by decide +kernel
theorem dL_law_992 : decode cL_law 992 = .ok (.aload_n 0, 1) := by decide +kernel
theorem dL_law_993 : decode cL_law 993 = .ok (.iload_n 3, 1) := by decide +kernel
theorem dL_law_994 : decode cL_law 994 = .ok (.iconst 1, 1) := by decide +kernel
theorem dL_law_995 : decode cL_law 995 = .ok (.iadd, 1) := by decide +kernel
theorem dL_law_996 : decode cL_law 996 = .ok (.iaload, 1) := by decide +kernel
theorem dL_law_997 : decode cL_law 997 = .ok (.invokevirtual 147, 3) := by decide +kernel
theorem dL_law_1000 : decode cL_law 1000 = .ok (.if_icmp .eq 5, 3) := by decide +kernel
theorem dL_law_1003 : decode cL_law 1003 = .ok (.iconst 0, 1) := by decide +kernel
theorem dL_law_1004 : decode cL_law 1004 = .ok (.ireturn, 1) := by decide +kernel
theorem dL_law_1005 : decode cL_law 1005 = .ok (.iinc 3 4, 3) := by decide +kernel
theorem dL_law_1008 : decode cL_law 1008 = .ok (.goto (-990), 3) := by decide +kernel
theorem dL_law_1011 : decode cL_law 1011 = .ok (.iconst 1, 1) := by decide +kernel
theorem dL_law_1012 : decode cL_law 1012 = .ok (.ireturn, 1) := by decide +kernel
end
section
def lw_ok : List Cond := lw_tbl.filter goodWord
theorem mok {w : Cond} {i : Nat} (h : lw_tbl[i]? = some w) (g : goodWord w = true) : w ∈ lw_ok := List.mem_filter.mpr ⟨List.mem_of_getElem? h, g⟩
/-- a method that can be called on an object of its class: its rows of the tables -/
def jCV (y : MethodName) (cc : ByteArray) (maxL : Nat) (ret : Option FieldType) : Prop := Cond.code y cc maxL ret ∈ lw_ok ∧ Cond.instanceMethod y ∈ lw_ok ∧ Cond.selects y.cls y y ∈ lw_ok ∧ Cond.initialized y.cls ∈ lw_ok ∧ (y.cls ≠ "java/lang/invoke/MethodHandle" ∧ y.cls ≠ "java/lang/invoke/VarHandle")
/-- a static method -/
def jCS (y : MethodName) (cc : ByteArray) (maxL : Nat) (ret : Option FieldType) : Prop := Cond.code y cc maxL ret ∈ lw_ok ∧ Cond.static y ∈ lw_ok ∧ Cond.initialized y.cls ∈ lw_ok ∧ (y.cls ≠ "java/lang/invoke/MethodHandle" ∧ y.cls ≠ "java/lang/invoke/VarHandle")
theorem zX0_weigh : jCV yX0_weigh cX0_weigh 8 none := ⟨mok (i := 769) (by decide +kernel) rfl, mok (i := 767) (by decide +kernel) rfl, mok (i := 768) (by decide +kernel) rfl, mok (i := 66) (by decide +kernel) rfl, by decide +kernel⟩
theorem zX0_lastAfter : jCV yX0_lastAfter cX0_lastAfter 8 (some FieldType.int) := ⟨mok (i := 790) (by decide +kernel) rfl, mok (i := 788) (by decide +kernel) rfl, mok (i := 789) (by decide +kernel) rfl, mok (i := 66) (by decide +kernel) rfl, by decide +kernel⟩
theorem zX0_reduce : jCV yX0_reduce cX0_reduce 5 none := ⟨mok (i := 778) (by decide +kernel) rfl, mok (i := 777) (by decide +kernel) rfl, mok (i := 16) (by decide +kernel) rfl, mok (i := 66) (by decide +kernel) rfl, by decide +kernel⟩
theorem zX1_learn : jCV yX1_learn cX1_learn 4 none := ⟨mok (i := 626) (by decide +kernel) rfl, mok (i := 624) (by decide +kernel) rfl, mok (i := 625) (by decide +kernel) rfl, mok (i := 63) (by decide +kernel) rfl, by decide +kernel⟩
theorem zX1_worth : jCV yX1_worth cX1_worth 2 (some FieldType.int) := ⟨mok (i := 755) (by decide +kernel) rfl, mok (i := 753) (by decide +kernel) rfl, mok (i := 754) (by decide +kernel) rfl, mok (i := 63) (by decide +kernel) rfl, by decide +kernel⟩
theorem zX1_cost : jCV yX1_cost cX1_cost 2 (some FieldType.int) := ⟨mok (i := 660) (by decide +kernel) rfl, mok (i := 658) (by decide +kernel) rfl, mok (i := 659) (by decide +kernel) rfl, mok (i := 63) (by decide +kernel) rfl, by decide +kernel⟩
theorem zX1_lastAmong : jCV yX1_lastAmong cX1_lastAmong 4 (some FieldType.int) := ⟨mok (i := 747) (by decide +kernel) rfl, mok (i := 745) (by decide +kernel) rfl, mok (i := 746) (by decide +kernel) rfl, mok (i := 63) (by decide +kernel) rfl, by decide +kernel⟩
theorem zX1_pricesAmong : jCV yX1_pricesAmong cX1_pricesAmong 5 (some FieldType.int) := ⟨mok (i := 642) (by decide +kernel) rfl, mok (i := 640) (by decide +kernel) rfl, mok (i := 641) (by decide +kernel) rfl, mok (i := 63) (by decide +kernel) rfl, by decide +kernel⟩
theorem zX2_copyFrom : jCV yX2_copyFrom cX2_copyFrom 3 none := ⟨mok (i := 504) (by decide +kernel) rfl, mok (i := 502) (by decide +kernel) rfl, mok (i := 503) (by decide +kernel) rfl, mok (i := 59) (by decide +kernel) rfl, by decide +kernel⟩
theorem zX2_readFrom : jCV yX2_readFrom cX2_readFrom 4 none := ⟨mok (i := 385) (by decide +kernel) rfl, mok (i := 383) (by decide +kernel) rfl, mok (i := 384) (by decide +kernel) rfl, mok (i := 59) (by decide +kernel) rfl, by decide +kernel⟩
theorem zX2_has : jCV yX2_has cX2_has 2 (some FieldType.boolean) := ⟨mok (i := 415) (by decide +kernel) rfl, mok (i := 413) (by decide +kernel) rfl, mok (i := 414) (by decide +kernel) rfl, mok (i := 59) (by decide +kernel) rfl, by decide +kernel⟩
theorem zX2_figure : jCV yX2_figure cX2_figure 3 (some FieldType.int) := ⟨mok (i := 419) (by decide +kernel) rfl, mok (i := 417) (by decide +kernel) rfl, mok (i := 418) (by decide +kernel) rfl, mok (i := 59) (by decide +kernel) rfl, by decide +kernel⟩
theorem zX2_all : jCV yX2_all cX2_all 1 (some FieldType.int) := ⟨mok (i := 436) (by decide +kernel) rfl, mok (i := 434) (by decide +kernel) rfl, mok (i := 435) (by decide +kernel) rfl, mok (i := 59) (by decide +kernel) rfl, by decide +kernel⟩
theorem zX2_there : jCV yX2_there cX2_there 1 (some FieldType.int) := ⟨mok (i := 432) (by decide +kernel) rfl, mok (i := 430) (by decide +kernel) rfl, mok (i := 431) (by decide +kernel) rfl, mok (i := 59) (by decide +kernel) rfl, by decide +kernel⟩
theorem zX2_shown : jCV yX2_shown cX2_shown 1 (some FieldType.int) := ⟨mok (i := 428) (by decide +kernel) rfl, mok (i := 426) (by decide +kernel) rfl, mok (i := 427) (by decide +kernel) rfl, mok (i := 59) (by decide +kernel) rfl, by decide +kernel⟩
theorem zX2_unseen : jCV yX2_unseen cX2_unseen 1 (some FieldType.int) := ⟨mok (i := 703) (by decide +kernel) rfl, mok (i := 701) (by decide +kernel) rfl, mok (i := 702) (by decide +kernel) rfl, mok (i := 59) (by decide +kernel) rfl, by decide +kernel⟩
theorem zX2_breakable : jCV yX2_breakable cX2_breakable 1 (some FieldType.int) := ⟨mok (i := 492) (by decide +kernel) rfl, mok (i := 490) (by decide +kernel) rfl, mok (i := 491) (by decide +kernel) rfl, mok (i := 59) (by decide +kernel) rfl, by decide +kernel⟩
theorem zX2_alikeTo : jCV yX2_alikeTo cX2_alikeTo 6 (some FieldType.int) := ⟨mok (i := 447) (by decide +kernel) rfl, mok (i := 445) (by decide +kernel) rfl, mok (i := 446) (by decide +kernel) rfl, mok (i := 59) (by decide +kernel) rfl, by decide +kernel⟩
theorem zX2_sameMarks : jCV yX2_sameMarks cX2_sameMarks 6 (some FieldType.int) := ⟨mok (i := 451) (by decide +kernel) rfl, mok (i := 449) (by decide +kernel) rfl, mok (i := 450) (by decide +kernel) rfl, mok (i := 59) (by decide +kernel) rfl, by decide +kernel⟩
theorem zX2_lastOnes : jCV yX2_lastOnes cX2_lastOnes 1 (some FieldType.int) := ⟨mok (i := 424) (by decide +kernel) rfl, mok (i := 422) (by decide +kernel) rfl, mok (i := 423) (by decide +kernel) rfl, mok (i := 59) (by decide +kernel) rfl, by decide +kernel⟩
theorem zX2_lastOnesBy : jCV yX2_lastOnesBy cX2_lastOnesBy 5 (some FieldType.int) := ⟨mok (i := 440) (by decide +kernel) rfl, mok (i := 438) (by decide +kernel) rfl, mok (i := 439) (by decide +kernel) rfl, mok (i := 59) (by decide +kernel) rfl, by decide +kernel⟩
theorem zX2_priceOf : jCV yX2_priceOf cX2_priceOf 3 (some FieldType.int) := ⟨mok (i := 471) (by decide +kernel) rfl, mok (i := 469) (by decide +kernel) rfl, mok (i := 470) (by decide +kernel) rfl, mok (i := 59) (by decide +kernel) rfl, by decide +kernel⟩
theorem zX2_shareOf : jCS yX2_shareOf cX2_shareOf 3 (some FieldType.int) := ⟨mok (i := 475) (by decide +kernel) rfl, mok (i := 474) (by decide +kernel) rfl, mok (i := 59) (by decide +kernel) rfl, by decide +kernel⟩
theorem zX2_canBe : jCV yX2_canBe cX2_canBe 3 (some FieldType.boolean) := ⟨mok (i := 487) (by decide +kernel) rfl, mok (i := 485) (by decide +kernel) rfl, mok (i := 486) (by decide +kernel) rfl, mok (i := 59) (by decide +kernel) rfl, by decide +kernel⟩
theorem zX2_perform : jCV yX2_perform cX2_perform 4 none := ⟨mok (i := 509) (by decide +kernel) rfl, mok (i := 507) (by decide +kernel) rfl, mok (i := 508) (by decide +kernel) rfl, mok (i := 59) (by decide +kernel) rfl, by decide +kernel⟩
theorem zX2_addForged : jCV yX2_addForged cX2_addForged 7 (some FieldType.int) := ⟨mok (i := 517) (by decide +kernel) rfl, mok (i := 515) (by decide +kernel) rfl, mok (i := 516) (by decide +kernel) rfl, mok (i := 59) (by decide +kernel) rfl, by decide +kernel⟩
theorem zX2_changeWord : jCV yX2_changeWord cX2_changeWord 3 (some FieldType.int) := ⟨mok (i := 543) (by decide +kernel) rfl, mok (i := 541) (by decide +kernel) rfl, mok (i := 542) (by decide +kernel) rfl, mok (i := 59) (by decide +kernel) rfl, by decide +kernel⟩
theorem zX3_play : jCV yX3_play cX3_play 3 none := ⟨mok (i := 738) (by decide +kernel) rfl, mok (i := 736) (by decide +kernel) rfl, mok (i := 737) (by decide +kernel) rfl, mok (i := 65) (by decide +kernel) rfl, by decide +kernel⟩
theorem zX3_lead : jCS yX3_lead cX3_lead 16 (some FieldType.int) := ⟨mok (i := 743) (by decide +kernel) rfl, mok (i := 742) (by decide +kernel) rfl, mok (i := 65) (by decide +kernel) rfl, by decide +kernel⟩
theorem zX3_leadByLastTurn : jCV yX3_leadByLastTurn cX3_leadByLastTurn 4 (some FieldType.int) := ⟨mok (i := 751) (by decide +kernel) rfl, mok (i := 750) (by decide +kernel) rfl, mok (i := 14) (by decide +kernel) rfl, mok (i := 65) (by decide +kernel) rfl, by decide +kernel⟩
theorem zX3_gainOf : jCV yX3_gainOf cX3_gainOf 2 (some FieldType.int) := ⟨mok (i := 759) (by decide +kernel) rfl, mok (i := 758) (by decide +kernel) rfl, mok (i := 15) (by decide +kernel) rfl, mok (i := 65) (by decide +kernel) rfl, by decide +kernel⟩
theorem zX4_weigh : jCV yX4_weigh cX4_weigh 3 none := ⟨mok (i := 622) (by decide +kernel) rfl, mok (i := 620) (by decide +kernel) rfl, mok (i := 621) (by decide +kernel) rfl, mok (i := 62) (by decide +kernel) rfl, by decide +kernel⟩
theorem zX4_firstChoice : jCV yX4_firstChoice cX4_firstChoice 3 (some FieldType.int) := ⟨mok (i := 679) (by decide +kernel) rfl, mok (i := 677) (by decide +kernel) rfl, mok (i := 678) (by decide +kernel) rfl, mok (i := 62) (by decide +kernel) rfl, by decide +kernel⟩
theorem zX4_learn : jCV yX4_learn cX4_learn 7 none := ⟨mok (i := 634) (by decide +kernel) rfl, mok (i := 633) (by decide +kernel) rfl, mok (i := 4) (by decide +kernel) rfl, mok (i := 62) (by decide +kernel) rfl, by decide +kernel⟩
theorem zX4_goThrough : jCV yX4_goThrough cX4_goThrough 5 none := ⟨mok (i := 647) (by decide +kernel) rfl, mok (i := 646) (by decide +kernel) rfl, mok (i := 5) (by decide +kernel) rfl, mok (i := 62) (by decide +kernel) rfl, by decide +kernel⟩
theorem zX4_tell : jCV yX4_tell cX4_tell 2 none := ⟨mok (i := 675) (by decide +kernel) rfl, mok (i := 674) (by decide +kernel) rfl, mok (i := 10) (by decide +kernel) rfl, mok (i := 62) (by decide +kernel) rfl, by decide +kernel⟩
theorem zX4_raiseBest : jCV yX4_raiseBest cX4_raiseBest 5 none := ⟨mok (i := 651) (by decide +kernel) rfl, mok (i := 650) (by decide +kernel) rfl, mok (i := 6) (by decide +kernel) rfl, mok (i := 62) (by decide +kernel) rfl, by decide +kernel⟩
theorem zX4_raise : jCV yX4_raise cX4_raise 4 none := ⟨mok (i := 665) (by decide +kernel) rfl, mok (i := 664) (by decide +kernel) rfl, mok (i := 8) (by decide +kernel) rfl, mok (i := 62) (by decide +kernel) rfl, by decide +kernel⟩
theorem zX4_isRest : jCV yX4_isRest cX4_isRest 5 (some FieldType.boolean) := ⟨mok (i := 671) (by decide +kernel) rfl, mok (i := 670) (by decide +kernel) rfl, mok (i := 9) (by decide +kernel) rfl, mok (i := 62) (by decide +kernel) rfl, by decide +kernel⟩
theorem zX4_has : jCV yX4_has cX4_has 4 (some FieldType.int) := ⟨mok (i := 655) (by decide +kernel) rfl, mok (i := 654) (by decide +kernel) rfl, mok (i := 7) (by decide +kernel) rfl, mok (i := 62) (by decide +kernel) rfl, by decide +kernel⟩
theorem zX5_seekCampaign : jCV yX5_seekCampaign cX5_seekCampaign 6 none := ⟨mok (i := 573) (by decide +kernel) rfl, mok (i := 571) (by decide +kernel) rfl, mok (i := 572) (by decide +kernel) rfl, mok (i := 61) (by decide +kernel) rfl, by decide +kernel⟩
theorem zX5_leastCopy : jCV yX5_leastCopy cX5_leastCopy 6 (some FieldType.int) := ⟨mok (i := 595) (by decide +kernel) rfl, mok (i := 593) (by decide +kernel) rfl, mok (i := 594) (by decide +kernel) rfl, mok (i := 61) (by decide +kernel) rfl, by decide +kernel⟩
theorem zX5_wordOfMostLast : jCV yX5_wordOfMostLast cX5_wordOfMostLast 6 (some FieldType.int) := ⟨mok (i := 608) (by decide +kernel) rfl, mok (i := 606) (by decide +kernel) rfl, mok (i := 607) (by decide +kernel) rfl, mok (i := 61) (by decide +kernel) rfl, by decide +kernel⟩
theorem zX5_lastBy : jCV yX5_lastBy cX5_lastBy 3 (some FieldType.int) := ⟨mok (i := 612) (by decide +kernel) rfl, mok (i := 610) (by decide +kernel) rfl, mok (i := 611) (by decide +kernel) rfl, mok (i := 61) (by decide +kernel) rfl, by decide +kernel⟩
theorem zX5_costToBreak : jCS yX5_costToBreak cX5_costToBreak 4 (some FieldType.int) := ⟨mok (i := 581) (by decide +kernel) rfl, mok (i := 580) (by decide +kernel) rfl, mok (i := 61) (by decide +kernel) rfl, by decide +kernel⟩
theorem zX5_frees : jCS yX5_frees cX5_frees 5 (some FieldType.boolean) := ⟨mok (i := 599) (by decide +kernel) rfl, mok (i := 598) (by decide +kernel) rfl, mok (i := 61) (by decide +kernel) rfl, by decide +kernel⟩
theorem zX6_clear : jCV yX6_clear cX6_clear 1 none := ⟨mok (i := 407) (by decide +kernel) rfl, mok (i := 405) (by decide +kernel) rfl, mok (i := 406) (by decide +kernel) rfl, mok (i := 60) (by decide +kernel) rfl, by decide +kernel⟩
theorem zX6_remember : jCV yX6_remember cX6_remember 3 none := ⟨mok (i := 496) (by decide +kernel) rfl, mok (i := 494) (by decide +kernel) rfl, mok (i := 495) (by decide +kernel) rfl, mok (i := 60) (by decide +kernel) rfl, by decide +kernel⟩
theorem zX6_takeBack : jCV yX6_takeBack cX6_takeBack 4 (some FieldType.boolean) := ⟨mok (i := 556) (by decide +kernel) rfl, mok (i := 554) (by decide +kernel) rfl, mok (i := 555) (by decide +kernel) rfl, mok (i := 60) (by decide +kernel) rfl, by decide +kernel⟩
theorem zX6_placeAt : jCV yX6_placeAt cX6_placeAt 2 (some (FieldType.object "LastOfKind$House")) := ⟨mok (i := 500) (by decide +kernel) rfl, mok (i := 499) (by decide +kernel) rfl, mok (i := 3) (by decide +kernel) rfl, mok (i := 60) (by decide +kernel) rfl, by decide +kernel⟩
theorem zX7_append : jCV yX7_append cX7_append 4 (some FieldType.boolean) := ⟨mok (i := 687) (by decide +kernel) rfl, mok (i := 685) (by decide +kernel) rfl, mok (i := 686) (by decide +kernel) rfl, mok (i := 64) (by decide +kernel) rfl, by decide +kernel⟩
theorem zX7_survey : jCV yX7_survey cX7_survey 4 none := ⟨mok (i := 699) (by decide +kernel) rfl, mok (i := 697) (by decide +kernel) rfl, mok (i := 698) (by decide +kernel) rfl, mok (i := 64) (by decide +kernel) rfl, by decide +kernel⟩
theorem zX7_mostTelling : jCV yX7_mostTelling cX7_mostTelling 7 (some FieldType.int) := ⟨mok (i := 728) (by decide +kernel) rfl, mok (i := 726) (by decide +kernel) rfl, mok (i := 727) (by decide +kernel) rfl, mok (i := 64) (by decide +kernel) rfl, by decide +kernel⟩
theorem zX7_learn : jCV yX7_learn cX7_learn 4 none := ⟨mok (i := 707) (by decide +kernel) rfl, mok (i := 706) (by decide +kernel) rfl, mok (i := 11) (by decide +kernel) rfl, mok (i := 64) (by decide +kernel) rfl, by decide +kernel⟩
theorem zX7_isSo : jCV yX7_isSo cX7_isSo 5 (some FieldType.boolean) := ⟨mok (i := 715) (by decide +kernel) rfl, mok (i := 714) (by decide +kernel) rfl, mok (i := 12) (by decide +kernel) rfl, mok (i := 64) (by decide +kernel) rfl, by decide +kernel⟩
theorem zX7_tally : jCV yX7_tally cX7_tally 3 none := ⟨mok (i := 720) (by decide +kernel) rfl, mok (i := 719) (by decide +kernel) rfl, mok (i := 13) (by decide +kernel) rfl, mok (i := 64) (by decide +kernel) rfl, by decide +kernel⟩
theorem zX8_append : jCV yX8_append cX8_append 2 (some FieldType.boolean) := ⟨mok (i := 354) (by decide +kernel) rfl, mok (i := 352) (by decide +kernel) rfl, mok (i := 353) (by decide +kernel) rfl, mok (i := 58) (by decide +kernel) rfl, by decide +kernel⟩
theorem zX8_firstFault : jCV yX8_firstFault cX8_firstFault 2 (some FieldType.int) := ⟨mok (i := 366) (by decide +kernel) rfl, mok (i := 364) (by decide +kernel) rfl, mok (i := 365) (by decide +kernel) rfl, mok (i := 58) (by decide +kernel) rfl, by decide +kernel⟩
theorem zX8_things : jCV yX8_things cX8_things 1 (some FieldType.int) := ⟨mok (i := 389) (by decide +kernel) rfl, mok (i := 387) (by decide +kernel) rfl, mok (i := 388) (by decide +kernel) rfl, mok (i := 58) (by decide +kernel) rfl, by decide +kernel⟩
theorem zX8_wordTold : jCV yX8_wordTold cX8_wordTold 1 (some FieldType.int) := ⟨mok (i := 399) (by decide +kernel) rfl, mok (i := 397) (by decide +kernel) rfl, mok (i := 398) (by decide +kernel) rfl, mok (i := 58) (by decide +kernel) rfl, by decide +kernel⟩
theorem zX8_figureTold : jCV yX8_figureTold cX8_figureTold 3 (some FieldType.int) := ⟨mok (i := 403) (by decide +kernel) rfl, mok (i := 401) (by decide +kernel) rfl, mok (i := 402) (by decide +kernel) rfl, mok (i := 58) (by decide +kernel) rfl, by decide +kernel⟩
theorem zX8_fits : jCV yX8_fits cX8_fits 3 (some FieldType.boolean) := ⟨mok (i := 370) (by decide +kernel) rfl, mok (i := 369) (by decide +kernel) rfl, mok (i := 0) (by decide +kernel) rfl, mok (i := 58) (by decide +kernel) rfl, by decide +kernel⟩
theorem zX8_isWithin : jCV yX8_isWithin cX8_isWithin 5 (some FieldType.boolean) := ⟨mok (i := 377) (by decide +kernel) rfl, mok (i := 376) (by decide +kernel) rfl, mok (i := 1) (by decide +kernel) rfl, mok (i := 58) (by decide +kernel) rfl, by decide +kernel⟩
theorem zX9_write : jCV yX9_write cX9_write 2 (some FieldType.int) := ⟨mok (i := 350) (by decide +kernel) rfl, mok (i := 348) (by decide +kernel) rfl, mok (i := 349) (by decide +kernel) rfl, mok (i := 57) (by decide +kernel) rfl, by decide +kernel⟩
theorem zX9_wipe : jCV yX9_wipe cX9_wipe 2 (some FieldType.int) := ⟨mok (i := 358) (by decide +kernel) rfl, mok (i := 356) (by decide +kernel) rfl, mok (i := 357) (by decide +kernel) rfl, mok (i := 57) (by decide +kernel) rfl, by decide +kernel⟩
theorem zX9_fault : jCV yX9_fault cX9_fault 1 (some FieldType.int) := ⟨mok (i := 362) (by decide +kernel) rfl, mok (i := 360) (by decide +kernel) rfl, mok (i := 361) (by decide +kernel) rfl, mok (i := 57) (by decide +kernel) rfl, by decide +kernel⟩
theorem zX9_house : jCV yX9_house cX9_house 1 (some FieldType.int) := ⟨mok (i := 381) (by decide +kernel) rfl, mok (i := 379) (by decide +kernel) rfl, mok (i := 380) (by decide +kernel) rfl, mok (i := 57) (by decide +kernel) rfl, by decide +kernel⟩
theorem zX9_thing : jCV yX9_thing cX9_thing 3 (some FieldType.int) := ⟨mok (i := 411) (by decide +kernel) rfl, mok (i := 409) (by decide +kernel) rfl, mok (i := 410) (by decide +kernel) rfl, mok (i := 57) (by decide +kernel) rfl, by decide +kernel⟩
theorem zX9_alike : jCV yX9_alike cX9_alike 2 (some FieldType.int) := ⟨mok (i := 461) (by decide +kernel) rfl, mok (i := 459) (by decide +kernel) rfl, mok (i := 460) (by decide +kernel) rfl, mok (i := 57) (by decide +kernel) rfl, by decide +kernel⟩
theorem zX9_price : jCV yX9_price cX9_price 2 (some FieldType.int) := ⟨mok (i := 467) (by decide +kernel) rfl, mok (i := 465) (by decide +kernel) rfl, mok (i := 466) (by decide +kernel) rfl, mok (i := 57) (by decide +kernel) rfl, by decide +kernel⟩
theorem zX9_broken : jCV yX9_broken cX9_broken 3 (some FieldType.int) := ⟨mok (i := 479) (by decide +kernel) rfl, mok (i := 477) (by decide +kernel) rfl, mok (i := 478) (by decide +kernel) rfl, mok (i := 57) (by decide +kernel) rfl, by decide +kernel⟩
theorem zX9_forge : jCV yX9_forge cX9_forge 3 (some FieldType.int) := ⟨mok (i := 513) (by decide +kernel) rfl, mok (i := 511) (by decide +kernel) rfl, mok (i := 512) (by decide +kernel) rfl, mok (i := 57) (by decide +kernel) rfl, by decide +kernel⟩
theorem zX9_hide : jCV yX9_hide cX9_hide 3 (some FieldType.int) := ⟨mok (i := 526) (by decide +kernel) rfl, mok (i := 524) (by decide +kernel) rfl, mok (i := 525) (by decide +kernel) rfl, mok (i := 57) (by decide +kernel) rfl, by decide +kernel⟩
theorem zX9_claim : jCV yX9_claim cX9_claim 3 (some FieldType.int) := ⟨mok (i := 530) (by decide +kernel) rfl, mok (i := 528) (by decide +kernel) rfl, mok (i := 529) (by decide +kernel) rfl, mok (i := 57) (by decide +kernel) rfl, by decide +kernel⟩
theorem zX9_guard : jCV yX9_guard cX9_guard 3 (some FieldType.int) := ⟨mok (i := 535) (by decide +kernel) rfl, mok (i := 533) (by decide +kernel) rfl, mok (i := 534) (by decide +kernel) rfl, mok (i := 57) (by decide +kernel) rfl, by decide +kernel⟩
theorem zX9_word : jCV yX9_word cX9_word 2 (some FieldType.int) := ⟨mok (i := 539) (by decide +kernel) rfl, mok (i := 537) (by decide +kernel) rfl, mok (i := 538) (by decide +kernel) rfl, mok (i := 57) (by decide +kernel) rfl, by decide +kernel⟩
theorem zX9_year : jCV yX9_year cX9_year 1 (some FieldType.int) := ⟨mok (i := 548) (by decide +kernel) rfl, mok (i := 546) (by decide +kernel) rfl, mok (i := 547) (by decide +kernel) rfl, mok (i := 57) (by decide +kernel) rfl, by decide +kernel⟩
theorem zX9_undo : jCV yX9_undo cX9_undo 1 (some FieldType.int) := ⟨mok (i := 552) (by decide +kernel) rfl, mok (i := 550) (by decide +kernel) rfl, mok (i := 551) (by decide +kernel) rfl, mok (i := 57) (by decide +kernel) rfl, by decide +kernel⟩
theorem zX9_judge : jCV yX9_judge cX9_judge 7 (some FieldType.int) := ⟨mok (i := 560) (by decide +kernel) rfl, mok (i := 558) (by decide +kernel) rfl, mok (i := 559) (by decide +kernel) rfl, mok (i := 57) (by decide +kernel) rfl, by decide +kernel⟩
theorem zX9_tryAct : jCV yX9_tryAct cX9_tryAct 3 (some FieldType.int) := ⟨mok (i := 483) (by decide +kernel) rfl, mok (i := 482) (by decide +kernel) rfl, mok (i := 2) (by decide +kernel) rfl, mok (i := 57) (by decide +kernel) rfl, by decide +kernel⟩
theorem zX9_campaign : jCV yX9_campaign cX9_campaign 2 (some FieldType.int) := ⟨mok (i := 568) (by decide +kernel) rfl, mok (i := 566) (by decide +kernel) rfl, mok (i := 567) (by decide +kernel) rfl, mok (i := 57) (by decide +kernel) rfl, by decide +kernel⟩
theorem zX9_campaignBy : jCV yX9_campaignBy cX9_campaignBy 3 (some FieldType.int) := ⟨mok (i := 587) (by decide +kernel) rfl, mok (i := 585) (by decide +kernel) rfl, mok (i := 586) (by decide +kernel) rfl, mok (i := 57) (by decide +kernel) rfl, by decide +kernel⟩
theorem zX9_copy : jCV yX9_copy cX9_copy 2 (some FieldType.int) := ⟨mok (i := 591) (by decide +kernel) rfl, mok (i := 589) (by decide +kernel) rfl, mok (i := 590) (by decide +kernel) rfl, mok (i := 57) (by decide +kernel) rfl, by decide +kernel⟩
theorem zX9_bestWord : jCV yX9_bestWord cX9_bestWord 3 (some FieldType.int) := ⟨mok (i := 604) (by decide +kernel) rfl, mok (i := 602) (by decide +kernel) rfl, mok (i := 603) (by decide +kernel) rfl, mok (i := 57) (by decide +kernel) rfl, by decide +kernel⟩
theorem zX9_rests : jCV yX9_rests cX9_rests 2 (some FieldType.int) := ⟨mok (i := 618) (by decide +kernel) rfl, mok (i := 616) (by decide +kernel) rfl, mok (i := 617) (by decide +kernel) rfl, mok (i := 57) (by decide +kernel) rfl, by decide +kernel⟩
theorem zX9_sight : jCV yX9_sight cX9_sight 4 (some FieldType.int) := ⟨mok (i := 683) (by decide +kernel) rfl, mok (i := 681) (by decide +kernel) rfl, mok (i := 682) (by decide +kernel) rfl, mok (i := 57) (by decide +kernel) rfl, by decide +kernel⟩
theorem zX9_unsight : jCV yX9_unsight cX9_unsight 2 (some FieldType.int) := ⟨mok (i := 691) (by decide +kernel) rfl, mok (i := 689) (by decide +kernel) rfl, mok (i := 690) (by decide +kernel) rfl, mok (i := 57) (by decide +kernel) rfl, by decide +kernel⟩
theorem zX9_worlds : jCV yX9_worlds cX9_worlds 2 (some FieldType.int) := ⟨mok (i := 695) (by decide +kernel) rfl, mok (i := 693) (by decide +kernel) rfl, mok (i := 694) (by decide +kernel) rfl, mok (i := 57) (by decide +kernel) rfl, by decide +kernel⟩
theorem zX9_toSeek : jCV yX9_toSeek cX9_toSeek 1 (some FieldType.int) := ⟨mok (i := 724) (by decide +kernel) rfl, mok (i := 722) (by decide +kernel) rfl, mok (i := 723) (by decide +kernel) rfl, mok (i := 57) (by decide +kernel) rfl, by decide +kernel⟩
theorem zX9_byTurns : jCV yX9_byTurns cX9_byTurns 3 (some FieldType.int) := ⟨mok (i := 734) (by decide +kernel) rfl, mok (i := 732) (by decide +kernel) rfl, mok (i := 733) (by decide +kernel) rfl, mok (i := 57) (by decide +kernel) rfl, by decide +kernel⟩
theorem zX9_chance : jCV yX9_chance cX9_chance 4 (some FieldType.int) := ⟨mok (i := 765) (by decide +kernel) rfl, mok (i := 763) (by decide +kernel) rfl, mok (i := 764) (by decide +kernel) rfl, mok (i := 57) (by decide +kernel) rfl, by decide +kernel⟩
theorem zX9_seed : jCV yX9_seed cX9_seed 5 (some FieldType.long) := ⟨mok (i := 782) (by decide +kernel) rfl, mok (i := 780) (by decide +kernel) rfl, mok (i := 781) (by decide +kernel) rfl, mok (i := 57) (by decide +kernel) rfl, by decide +kernel⟩
theorem zX9_years : jCV yX9_years cX9_years 3 (some FieldType.int) := ⟨mok (i := 786) (by decide +kernel) rfl, mok (i := 784) (by decide +kernel) rfl, mok (i := 785) (by decide +kernel) rfl, mok (i := 57) (by decide +kernel) rfl, by decide +kernel⟩
theorem zX9_keep : jCV yX9_keep cX9_keep 3 (some FieldType.int) := ⟨mok (i := 798) (by decide +kernel) rfl, mok (i := 796) (by decide +kernel) rfl, mok (i := 797) (by decide +kernel) rfl, mok (i := 57) (by decide +kernel) rfl, by decide +kernel⟩
theorem zX9_again : jCV yX9_again cX9_again 3 (some FieldType.int) := ⟨mok (i := 806) (by decide +kernel) rfl, mok (i := 804) (by decide +kernel) rfl, mok (i := 805) (by decide +kernel) rfl, mok (i := 57) (by decide +kernel) rfl, by decide +kernel⟩
theorem zX9_count : jCV yX9_count cX9_count 2 (some FieldType.int) := ⟨mok (i := 810) (by decide +kernel) rfl, mok (i := 808) (by decide +kernel) rfl, mok (i := 809) (by decide +kernel) rfl, mok (i := 57) (by decide +kernel) rfl, by decide +kernel⟩
theorem zX9_slotAt : jCV yX9_slotAt cX9_slotAt 2 (some (FieldType.object "LastOfKind$House")) := ⟨mok (i := 802) (by decide +kernel) rfl, mok (i := 801) (by decide +kernel) rfl, mok (i := 17) (by decide +kernel) rfl, mok (i := 57) (by decide +kernel) rfl, by decide +kernel⟩
theorem zX9_holds : jCS yX9_holds cX9_holds 2 (some FieldType.boolean) := ⟨mok (i := 443) (by decide +kernel) rfl, mok (i := 442) (by decide +kernel) rfl, mok (i := 57) (by decide +kernel) rfl, by decide +kernel⟩
theorem zX9_withoutLast : jCS yX9_withoutLast cX9_withoutLast 4 (some FieldType.int) := ⟨mok (i := 563) (by decide +kernel) rfl, mok (i := 562) (by decide +kernel) rfl, mok (i := 57) (by decide +kernel) rfl, by decide +kernel⟩
theorem zX9_at : jCS yX9_at cX9_at 2 (some FieldType.int) := ⟨mok (i := 373) (by decide +kernel) rfl, mok (i := 372) (by decide +kernel) rfl, mok (i := 57) (by decide +kernel) rfl, by decide +kernel⟩
theorem zX9_put : jCS yX9_put cX9_put 3 none := ⟨mok (i := 522) (by decide +kernel) rfl, mok (i := 521) (by decide +kernel) rfl, mok (i := 57) (by decide +kernel) rfl, by decide +kernel⟩
theorem zX10_in : jCS yX10_in cX10_in 6 (some FieldType.boolean) := ⟨mok (i := 895) (by decide +kernel) rfl, mok (i := 894) (by decide +kernel) rfl, mok (i := 67) (by decide +kernel) rfl, by decide +kernel⟩
theorem zX10_has : jCS yX10_has cX10_has 2 (some FieldType.boolean) := ⟨mok (i := 978) (by decide +kernel) rfl, mok (i := 977) (by decide +kernel) rfl, mok (i := 67) (by decide +kernel) rfl, by decide +kernel⟩
theorem zX10_ones : jCS yX10_ones cX10_ones 3 (some FieldType.int) := ⟨mok (i := 989) (by decide +kernel) rfl, mok (i := 988) (by decide +kernel) rfl, mok (i := 67) (by decide +kernel) rfl, by decide +kernel⟩
theorem zX10_write : jCV yX10_write cX10_write 2 (some FieldType.int) := ⟨mok (i := 891) (by decide +kernel) rfl, mok (i := 889) (by decide +kernel) rfl, mok (i := 890) (by decide +kernel) rfl, mok (i := 67) (by decide +kernel) rfl, by decide +kernel⟩
theorem zX10_wipe : jCV yX10_wipe cX10_wipe 2 (some FieldType.int) := ⟨mok (i := 899) (by decide +kernel) rfl, mok (i := 897) (by decide +kernel) rfl, mok (i := 898) (by decide +kernel) rfl, mok (i := 67) (by decide +kernel) rfl, by decide +kernel⟩
theorem zX10_fits : jCV yX10_fits cX10_fits 3 (some FieldType.boolean) := ⟨mok (i := 907) (by decide +kernel) rfl, mok (i := 906) (by decide +kernel) rfl, mok (i := 18) (by decide +kernel) rfl, mok (i := 67) (by decide +kernel) rfl, by decide +kernel⟩
theorem zX10_fault : jCV yX10_fault cX10_fault 2 (some FieldType.int) := ⟨mok (i := 903) (by decide +kernel) rfl, mok (i := 901) (by decide +kernel) rfl, mok (i := 902) (by decide +kernel) rfl, mok (i := 67) (by decide +kernel) rfl, by decide +kernel⟩
theorem zX10_figure : jCV yX10_figure cX10_figure 2 (some FieldType.int) := ⟨mok (i := 921) (by decide +kernel) rfl, mok (i := 920) (by decide +kernel) rfl, mok (i := 19) (by decide +kernel) rfl, mok (i := 67) (by decide +kernel) rfl, by decide +kernel⟩
theorem zX10_code : jCS yX10_code cX10_code 5 (some FieldType.int) := ⟨mok (i := 924) (by decide +kernel) rfl, mok (i := 923) (by decide +kernel) rfl, mok (i := 67) (by decide +kernel) rfl, by decide +kernel⟩
theorem zX10_house : jCV yX10_house cX10_house 5 (some FieldType.int) := ⟨mok (i := 916) (by decide +kernel) rfl, mok (i := 914) (by decide +kernel) rfl, mok (i := 915) (by decide +kernel) rfl, mok (i := 67) (by decide +kernel) rfl, by decide +kernel⟩
theorem zX10_many : jCV yX10_many cX10_many 1 (some FieldType.int) := ⟨mok (i := 975) (by decide +kernel) rfl, mok (i := 974) (by decide +kernel) rfl, mok (i := 30) (by decide +kernel) rfl, mok (i := 67) (by decide +kernel) rfl, by decide +kernel⟩
theorem zX10_isThing : jCV yX10_isThing cX10_isThing 2 (some FieldType.boolean) := ⟨mok (i := 932) (by decide +kernel) rfl, mok (i := 931) (by decide +kernel) rfl, mok (i := 20) (by decide +kernel) rfl, mok (i := 67) (by decide +kernel) rfl, by decide +kernel⟩
theorem zX10_guardOf : jCV yX10_guardOf cX10_guardOf 2 (some FieldType.int) := ⟨mok (i := 959) (by decide +kernel) rfl, mok (i := 958) (by decide +kernel) rfl, mok (i := 26) (by decide +kernel) rfl, mok (i := 67) (by decide +kernel) rfl, by decide +kernel⟩
theorem zX10_costOf : jCV yX10_costOf cX10_costOf 2 (some FieldType.int) := ⟨mok (i := 955) (by decide +kernel) rfl, mok (i := 954) (by decide +kernel) rfl, mok (i := 25) (by decide +kernel) rfl, mok (i := 67) (by decide +kernel) rfl, by decide +kernel⟩
theorem zX10_worthOf : jCV yX10_worthOf cX10_worthOf 2 (some FieldType.int) := ⟨mok (i := 951) (by decide +kernel) rfl, mok (i := 950) (by decide +kernel) rfl, mok (i := 24) (by decide +kernel) rfl, mok (i := 67) (by decide +kernel) rfl, by decide +kernel⟩
theorem zX10_ownerOf : jCV yX10_ownerOf cX10_ownerOf 2 (some FieldType.int) := ⟨mok (i := 947) (by decide +kernel) rfl, mok (i := 946) (by decide +kernel) rfl, mok (i := 23) (by decide +kernel) rfl, mok (i := 67) (by decide +kernel) rfl, by decide +kernel⟩
theorem zX10_marksOf : jCV yX10_marksOf cX10_marksOf 2 (some FieldType.int) := ⟨mok (i := 940) (by decide +kernel) rfl, mok (i := 939) (by decide +kernel) rfl, mok (i := 22) (by decide +kernel) rfl, mok (i := 67) (by decide +kernel) rfl, by decide +kernel⟩
theorem zX10_tenTo : jCS yX10_tenTo cX10_tenTo 3 (some FieldType.int) := ⟨mok (i := 943) (by decide +kernel) rfl, mok (i := 942) (by decide +kernel) rfl, mok (i := 67) (by decide +kernel) rfl, by decide +kernel⟩
theorem zX10_markOf : jCV yX10_markOf cX10_markOf 3 (some FieldType.int) := ⟨mok (i := 936) (by decide +kernel) rfl, mok (i := 935) (by decide +kernel) rfl, mok (i := 21) (by decide +kernel) rfl, mok (i := 67) (by decide +kernel) rfl, by decide +kernel⟩
theorem zX10_same : jCV yX10_same cX10_same 5 (some FieldType.int) := ⟨mok (i := 986) (by decide +kernel) rfl, mok (i := 985) (by decide +kernel) rfl, mok (i := 32) (by decide +kernel) rfl, mok (i := 67) (by decide +kernel) rfl, by decide +kernel⟩
theorem zX10_alikeOf : jCV yX10_alikeOf cX10_alikeOf 6 (some FieldType.int) := ⟨mok (i := 982) (by decide +kernel) rfl, mok (i := 981) (by decide +kernel) rfl, mok (i := 31) (by decide +kernel) rfl, mok (i := 67) (by decide +kernel) rfl, by decide +kernel⟩
theorem zX10_shown : jCV yX10_shown cX10_shown 3 (some FieldType.int) := ⟨mok (i := 967) (by decide +kernel) rfl, mok (i := 966) (by decide +kernel) rfl, mok (i := 28) (by decide +kernel) rfl, mok (i := 67) (by decide +kernel) rfl, by decide +kernel⟩
theorem zX10_lastOf : jCV yX10_lastOf cX10_lastOf 5 (some FieldType.int) := ⟨mok (i := 971) (by decide +kernel) rfl, mok (i := 970) (by decide +kernel) rfl, mok (i := 29) (by decide +kernel) rfl, mok (i := 67) (by decide +kernel) rfl, by decide +kernel⟩
theorem zX10_last : jCV yX10_last cX10_last 1 (some FieldType.int) := ⟨mok (i := 963) (by decide +kernel) rfl, mok (i := 962) (by decide +kernel) rfl, mok (i := 27) (by decide +kernel) rfl, mok (i := 67) (by decide +kernel) rfl, by decide +kernel⟩
theorem zX10_thing : jCV yX10_thing cX10_thing 3 (some FieldType.int) := ⟨mok (i := 928) (by decide +kernel) rfl, mok (i := 926) (by decide +kernel) rfl, mok (i := 927) (by decide +kernel) rfl, mok (i := 67) (by decide +kernel) rfl, by decide +kernel⟩
theorem zX10_alike : jCV yX10_alike cX10_alike 2 (some FieldType.int) := ⟨mok (i := 993) (by decide +kernel) rfl, mok (i := 991) (by decide +kernel) rfl, mok (i := 992) (by decide +kernel) rfl, mok (i := 67) (by decide +kernel) rfl, by decide +kernel⟩
theorem zX10_priceBy : jCV yX10_priceBy cX10_priceBy 3 (some FieldType.int) := ⟨mok (i := 1001) (by decide +kernel) rfl, mok (i := 1000) (by decide +kernel) rfl, mok (i := 33) (by decide +kernel) rfl, mok (i := 67) (by decide +kernel) rfl, by decide +kernel⟩
theorem zX10_price : jCV yX10_price cX10_price 2 (some FieldType.int) := ⟨mok (i := 997) (by decide +kernel) rfl, mok (i := 995) (by decide +kernel) rfl, mok (i := 996) (by decide +kernel) rfl, mok (i := 67) (by decide +kernel) rfl, by decide +kernel⟩
theorem zX10_keepAct : jCV yX10_keepAct cX10_keepAct 2 none := ⟨mok (i := 1017) (by decide +kernel) rfl, mok (i := 1016) (by decide +kernel) rfl, mok (i := 36) (by decide +kernel) rfl, mok (i := 67) (by decide +kernel) rfl, by decide +kernel⟩
theorem zX10_guardAt : jCV yX10_guardAt cX10_guardAt 3 (some FieldType.int) := ⟨mok (i := 1013) (by decide +kernel) rfl, mok (i := 1012) (by decide +kernel) rfl, mok (i := 35) (by decide +kernel) rfl, mok (i := 67) (by decide +kernel) rfl, by decide +kernel⟩
theorem zX10_canBreak : jCV yX10_canBreak cX10_canBreak 4 (some FieldType.boolean) := ⟨mok (i := 1009) (by decide +kernel) rfl, mok (i := 1008) (by decide +kernel) rfl, mok (i := 34) (by decide +kernel) rfl, mok (i := 67) (by decide +kernel) rfl, by decide +kernel⟩
theorem zX10_canClaim : jCV yX10_canClaim cX10_canClaim 4 (some FieldType.boolean) := ⟨mok (i := 1047) (by decide +kernel) rfl, mok (i := 1046) (by decide +kernel) rfl, mok (i := 40) (by decide +kernel) rfl, mok (i := 67) (by decide +kernel) rfl, by decide +kernel⟩
theorem zX10_canHide : jCV yX10_canHide cX10_canHide 4 (some FieldType.boolean) := ⟨mok (i := 1035) (by decide +kernel) rfl, mok (i := 1034) (by decide +kernel) rfl, mok (i := 38) (by decide +kernel) rfl, mok (i := 67) (by decide +kernel) rfl, by decide +kernel⟩
theorem zX10_free : jCV yX10_free cX10_free 4 none := ⟨mok (i := 1027) (by decide +kernel) rfl, mok (i := 1026) (by decide +kernel) rfl, mok (i := 37) (by decide +kernel) rfl, mok (i := 67) (by decide +kernel) rfl, by decide +kernel⟩
theorem zX10_doHide : jCV yX10_doHide cX10_doHide 3 none := ⟨mok (i := 1039) (by decide +kernel) rfl, mok (i := 1038) (by decide +kernel) rfl, mok (i := 39) (by decide +kernel) rfl, mok (i := 67) (by decide +kernel) rfl, by decide +kernel⟩
theorem zX10_doGuard : jCV yX10_doGuard cX10_doGuard 3 none := ⟨mok (i := 1055) (by decide +kernel) rfl, mok (i := 1054) (by decide +kernel) rfl, mok (i := 41) (by decide +kernel) rfl, mok (i := 67) (by decide +kernel) rfl, by decide +kernel⟩
theorem zX10_broken : jCV yX10_broken cX10_broken 2 (some FieldType.int) := ⟨mok (i := 1005) (by decide +kernel) rfl, mok (i := 1003) (by decide +kernel) rfl, mok (i := 1004) (by decide +kernel) rfl, mok (i := 67) (by decide +kernel) rfl, by decide +kernel⟩
theorem zX10_forge : jCV yX10_forge cX10_forge 4 (some FieldType.int) := ⟨mok (i := 1021) (by decide +kernel) rfl, mok (i := 1019) (by decide +kernel) rfl, mok (i := 1020) (by decide +kernel) rfl, mok (i := 67) (by decide +kernel) rfl, by decide +kernel⟩
theorem zX10_hide : jCV yX10_hide cX10_hide 2 (some FieldType.int) := ⟨mok (i := 1031) (by decide +kernel) rfl, mok (i := 1029) (by decide +kernel) rfl, mok (i := 1030) (by decide +kernel) rfl, mok (i := 67) (by decide +kernel) rfl, by decide +kernel⟩
theorem zX10_claim : jCV yX10_claim cX10_claim 2 (some FieldType.int) := ⟨mok (i := 1043) (by decide +kernel) rfl, mok (i := 1041) (by decide +kernel) rfl, mok (i := 1042) (by decide +kernel) rfl, mok (i := 67) (by decide +kernel) rfl, by decide +kernel⟩
theorem zX10_guard : jCV yX10_guard cX10_guard 2 (some FieldType.int) := ⟨mok (i := 1051) (by decide +kernel) rfl, mok (i := 1049) (by decide +kernel) rfl, mok (i := 1050) (by decide +kernel) rfl, mok (i := 67) (by decide +kernel) rfl, by decide +kernel⟩
theorem zX10_word : jCV yX10_word cX10_word 3 (some FieldType.int) := ⟨mok (i := 1059) (by decide +kernel) rfl, mok (i := 1057) (by decide +kernel) rfl, mok (i := 1058) (by decide +kernel) rfl, mok (i := 67) (by decide +kernel) rfl, by decide +kernel⟩
theorem zX10_year : jCV yX10_year cX10_year 1 (some FieldType.int) := ⟨mok (i := 1064) (by decide +kernel) rfl, mok (i := 1062) (by decide +kernel) rfl, mok (i := 1063) (by decide +kernel) rfl, mok (i := 67) (by decide +kernel) rfl, by decide +kernel⟩
theorem zX10_undo : jCV yX10_undo cX10_undo 2 (some FieldType.int) := ⟨mok (i := 1068) (by decide +kernel) rfl, mok (i := 1066) (by decide +kernel) rfl, mok (i := 1067) (by decide +kernel) rfl, mok (i := 67) (by decide +kernel) rfl, by decide +kernel⟩
theorem zX10_can : jCV yX10_can cX10_can 3 (some FieldType.boolean) := ⟨mok (i := 1076) (by decide +kernel) rfl, mok (i := 1075) (by decide +kernel) rfl, mok (i := 42) (by decide +kernel) rfl, mok (i := 67) (by decide +kernel) rfl, by decide +kernel⟩
theorem zX10_make : jCV yX10_make cX10_make 3 none := ⟨mok (i := 1080) (by decide +kernel) rfl, mok (i := 1079) (by decide +kernel) rfl, mok (i := 43) (by decide +kernel) rfl, mok (i := 67) (by decide +kernel) rfl, by decide +kernel⟩
theorem zX10_judge : jCV yX10_judge cX10_judge 6 (some FieldType.int) := ⟨mok (i := 1072) (by decide +kernel) rfl, mok (i := 1070) (by decide +kernel) rfl, mok (i := 1071) (by decide +kernel) rfl, mok (i := 67) (by decide +kernel) rfl, by decide +kernel⟩
theorem zX10_apart : jCS yX10_apart cX10_apart 2 (some FieldType.int) := ⟨mok (i := 1095) (by decide +kernel) rfl, mok (i := 1094) (by decide +kernel) rfl, mok (i := 67) (by decide +kernel) rfl, by decide +kernel⟩
theorem zX10_costBy : jCV yX10_costBy cX10_costBy 6 (some FieldType.int) := ⟨mok (i := 1092) (by decide +kernel) rfl, mok (i := 1091) (by decide +kernel) rfl, mok (i := 45) (by decide +kernel) rfl, mok (i := 67) (by decide +kernel) rfl, by decide +kernel⟩
theorem zX10_campaignWord : jCV yX10_campaignWord cX10_campaignWord 5 (some FieldType.int) := ⟨mok (i := 1088) (by decide +kernel) rfl, mok (i := 1087) (by decide +kernel) rfl, mok (i := 44) (by decide +kernel) rfl, mok (i := 67) (by decide +kernel) rfl, by decide +kernel⟩
theorem zX10_campaign : jCV yX10_campaign cX10_campaign 3 (some FieldType.int) := ⟨mok (i := 1084) (by decide +kernel) rfl, mok (i := 1082) (by decide +kernel) rfl, mok (i := 1083) (by decide +kernel) rfl, mok (i := 67) (by decide +kernel) rfl, by decide +kernel⟩
theorem zX10_campaignBy : jCV yX10_campaignBy cX10_campaignBy 4 (some FieldType.int) := ⟨mok (i := 1099) (by decide +kernel) rfl, mok (i := 1097) (by decide +kernel) rfl, mok (i := 1098) (by decide +kernel) rfl, mok (i := 67) (by decide +kernel) rfl, by decide +kernel⟩
theorem zX10_copy : jCV yX10_copy cX10_copy 6 (some FieldType.int) := ⟨mok (i := 1103) (by decide +kernel) rfl, mok (i := 1101) (by decide +kernel) rfl, mok (i := 1102) (by decide +kernel) rfl, mok (i := 67) (by decide +kernel) rfl, by decide +kernel⟩
theorem zX10_bestWord : jCV yX10_bestWord cX10_bestWord 5 (some FieldType.int) := ⟨mok (i := 1107) (by decide +kernel) rfl, mok (i := 1105) (by decide +kernel) rfl, mok (i := 1106) (by decide +kernel) rfl, mok (i := 67) (by decide +kernel) rfl, by decide +kernel⟩
theorem zX10_may : jCV yX10_may cX10_may 4 (some FieldType.boolean) := ⟨mok (i := 1119) (by decide +kernel) rfl, mok (i := 1118) (by decide +kernel) rfl, mok (i := 47) (by decide +kernel) rfl, mok (i := 67) (by decide +kernel) rfl, by decide +kernel⟩
theorem zX10_has3 : jCV yX10_has3 cX10_has3 9 (some FieldType.int) := ⟨mok (i := 1123) (by decide +kernel) rfl, mok (i := 1122) (by decide +kernel) rfl, mok (i := 48) (by decide +kernel) rfl, mok (i := 67) (by decide +kernel) rfl, by decide +kernel⟩
theorem zX10_rest : jCV yX10_rest cX10_rest 6 (some FieldType.boolean) := ⟨mok (i := 1115) (by decide +kernel) rfl, mok (i := 1114) (by decide +kernel) rfl, mok (i := 46) (by decide +kernel) rfl, mok (i := 67) (by decide +kernel) rfl, by decide +kernel⟩
theorem zX10_rests : jCV yX10_rests cX10_rests 6 (some FieldType.int) := ⟨mok (i := 1111) (by decide +kernel) rfl, mok (i := 1109) (by decide +kernel) rfl, mok (i := 1110) (by decide +kernel) rfl, mok (i := 67) (by decide +kernel) rfl, by decide +kernel⟩
theorem zX10_sight : jCV yX10_sight cX10_sight 4 (some FieldType.int) := ⟨mok (i := 1127) (by decide +kernel) rfl, mok (i := 1125) (by decide +kernel) rfl, mok (i := 1126) (by decide +kernel) rfl, mok (i := 67) (by decide +kernel) rfl, by decide +kernel⟩
theorem zX10_unsight : jCV yX10_unsight cX10_unsight 2 (some FieldType.int) := ⟨mok (i := 1132) (by decide +kernel) rfl, mok (i := 1130) (by decide +kernel) rfl, mok (i := 1131) (by decide +kernel) rfl, mok (i := 67) (by decide +kernel) rfl, by decide +kernel⟩
theorem zX10_hiddenThere : jCV yX10_hiddenThere cX10_hiddenThere 1 (some FieldType.int) := ⟨mok (i := 1144) (by decide +kernel) rfl, mok (i := 1143) (by decide +kernel) rfl, mok (i := 50) (by decide +kernel) rfl, mok (i := 67) (by decide +kernel) rfl, by decide +kernel⟩
theorem zX10_isSighted : jCV yX10_isSighted cX10_isSighted 6 (some FieldType.boolean) := ⟨mok (i := 1148) (by decide +kernel) rfl, mok (i := 1147) (by decide +kernel) rfl, mok (i := 51) (by decide +kernel) rfl, mok (i := 67) (by decide +kernel) rfl, by decide +kernel⟩
theorem zX10_layWorlds : jCV yX10_layWorlds cX10_layWorlds 4 none := ⟨mok (i := 1140) (by decide +kernel) rfl, mok (i := 1139) (by decide +kernel) rfl, mok (i := 49) (by decide +kernel) rfl, mok (i := 67) (by decide +kernel) rfl, by decide +kernel⟩
theorem zX10_worlds : jCV yX10_worlds cX10_worlds 2 (some FieldType.int) := ⟨mok (i := 1136) (by decide +kernel) rfl, mok (i := 1134) (by decide +kernel) rfl, mok (i := 1135) (by decide +kernel) rfl, mok (i := 67) (by decide +kernel) rfl, by decide +kernel⟩
theorem zX10_toSeek : jCV yX10_toSeek cX10_toSeek 6 (some FieldType.int) := ⟨mok (i := 1152) (by decide +kernel) rfl, mok (i := 1150) (by decide +kernel) rfl, mok (i := 1151) (by decide +kernel) rfl, mok (i := 67) (by decide +kernel) rfl, by decide +kernel⟩
theorem zX10_canMove : jCV yX10_canMove cX10_canMove 5 (some FieldType.boolean) := ⟨mok (i := 1165) (by decide +kernel) rfl, mok (i := 1164) (by decide +kernel) rfl, mok (i := 53) (by decide +kernel) rfl, mok (i := 67) (by decide +kernel) rfl, by decide +kernel⟩
theorem zX10_begin : jCV yX10_begin cX10_begin 4 none := ⟨mok (i := 1160) (by decide +kernel) rfl, mok (i := 1159) (by decide +kernel) rfl, mok (i := 52) (by decide +kernel) rfl, mok (i := 67) (by decide +kernel) rfl, by decide +kernel⟩
theorem zX10_go : jCV yX10_go cX10_go 6 none := ⟨mok (i := 1169) (by decide +kernel) rfl, mok (i := 1168) (by decide +kernel) rfl, mok (i := 54) (by decide +kernel) rfl, mok (i := 67) (by decide +kernel) rfl, by decide +kernel⟩
theorem zX10_byTurns : jCV yX10_byTurns cX10_byTurns 7 (some FieldType.int) := ⟨mok (i := 1156) (by decide +kernel) rfl, mok (i := 1154) (by decide +kernel) rfl, mok (i := 1155) (by decide +kernel) rfl, mok (i := 67) (by decide +kernel) rfl, by decide +kernel⟩
theorem zX10_common : jCS yX10_common cX10_common 5 (some FieldType.int) := ⟨mok (i := 1181) (by decide +kernel) rfl, mok (i := 1180) (by decide +kernel) rfl, mok (i := 67) (by decide +kernel) rfl, by decide +kernel⟩
theorem zX10_frail : jCV yX10_frail cX10_frail 4 (some FieldType.int) := ⟨mok (i := 1178) (by decide +kernel) rfl, mok (i := 1177) (by decide +kernel) rfl, mok (i := 55) (by decide +kernel) rfl, mok (i := 67) (by decide +kernel) rfl, by decide +kernel⟩
theorem zX10_chance : jCV yX10_chance cX10_chance 10 (some FieldType.int) := ⟨mok (i := 1173) (by decide +kernel) rfl, mok (i := 1171) (by decide +kernel) rfl, mok (i := 1172) (by decide +kernel) rfl, mok (i := 67) (by decide +kernel) rfl, by decide +kernel⟩
theorem zX10_seed : jCV yX10_seed cX10_seed 5 (some FieldType.long) := ⟨mok (i := 1185) (by decide +kernel) rfl, mok (i := 1183) (by decide +kernel) rfl, mok (i := 1184) (by decide +kernel) rfl, mok (i := 67) (by decide +kernel) rfl, by decide +kernel⟩
theorem zX10_years : jCV yX10_years cX10_years 6 (some FieldType.int) := ⟨mok (i := 1189) (by decide +kernel) rfl, mok (i := 1187) (by decide +kernel) rfl, mok (i := 1188) (by decide +kernel) rfl, mok (i := 67) (by decide +kernel) rfl, by decide +kernel⟩
theorem zX10_keep : jCV yX10_keep cX10_keep 3 (some FieldType.int) := ⟨mok (i := 1196) (by decide +kernel) rfl, mok (i := 1194) (by decide +kernel) rfl, mok (i := 1195) (by decide +kernel) rfl, mok (i := 67) (by decide +kernel) rfl, by decide +kernel⟩
theorem zX10_again : jCV yX10_again cX10_again 3 (some FieldType.int) := ⟨mok (i := 1200) (by decide +kernel) rfl, mok (i := 1198) (by decide +kernel) rfl, mok (i := 1199) (by decide +kernel) rfl, mok (i := 67) (by decide +kernel) rfl, by decide +kernel⟩
theorem zX10_count : jCV yX10_count cX10_count 2 (some FieldType.int) := ⟨mok (i := 1204) (by decide +kernel) rfl, mok (i := 1202) (by decide +kernel) rfl, mok (i := 1203) (by decide +kernel) rfl, mok (i := 67) (by decide +kernel) rfl, by decide +kernel⟩
theorem qX9_9 : Cond.methodLink RX9 9 yX8_init ∈ lw_ok := mok (i := 80) (by decide +kernel) rfl
theorem qX8_9 : Cond.fieldLink RX8 9 "LastOfKind$Text" "letters" "[I" ∈ lw_ok := mok (i := 84) (by decide +kernel) rfl
theorem qX8_15 : Cond.fieldLink RX8 15 "LastOfKind$Text" "length" "I" ∈ lw_ok := mok (i := 85) (by decide +kernel) rfl
theorem qX9_76 : Cond.fieldLink RX9 76 "LastOfKind$Text" "length" "I" ∈ lw_ok := mok (i := 86) (by decide +kernel) rfl
theorem qX9_18 : Cond.methodLink RX9 18 yX2_init ∈ lw_ok := mok (i := 95) (by decide +kernel) rfl
theorem qX2_9 : Cond.fieldLink RX2 9 "LastOfKind$House" "tags" "[I" ∈ lw_ok := mok (i := 99) (by decide +kernel) rfl
theorem qX2_23 : Cond.fieldLink RX2 23 "LastOfKind$House" "size" "I" ∈ lw_ok := mok (i := 100) (by decide +kernel) rfl
theorem qX7_54 : Cond.fieldLink RX7 54 "LastOfKind$House" "size" "I" ∈ lw_ok := mok (i := 101) (by decide +kernel) rfl
theorem qX4_57 : Cond.fieldLink RX4 57 "LastOfKind$House" "size" "I" ∈ lw_ok := mok (i := 102) (by decide +kernel) rfl
theorem qX9_94 : Cond.fieldLink RX9 94 "LastOfKind$House" "size" "I" ∈ lw_ok := mok (i := 103) (by decide +kernel) rfl
theorem qX2_15 : Cond.fieldLink RX2 15 "LastOfKind$House" "word" "I" ∈ lw_ok := mok (i := 104) (by decide +kernel) rfl
theorem qX0_18 : Cond.fieldLink RX0 18 "LastOfKind$House" "word" "I" ∈ lw_ok := mok (i := 105) (by decide +kernel) rfl
theorem qX1_27 : Cond.fieldLink RX1 27 "LastOfKind$House" "word" "I" ∈ lw_ok := mok (i := 106) (by decide +kernel) rfl
theorem qX5_34 : Cond.fieldLink RX5 34 "LastOfKind$House" "word" "I" ∈ lw_ok := mok (i := 107) (by decide +kernel) rfl
theorem qX7_78 : Cond.fieldLink RX7 78 "LastOfKind$House" "word" "I" ∈ lw_ok := mok (i := 108) (by decide +kernel) rfl
theorem qX9_119 : Cond.fieldLink RX9 119 "LastOfKind$House" "word" "I" ∈ lw_ok := mok (i := 109) (by decide +kernel) rfl
theorem qX2_26 : Cond.fieldLink RX2 26 "LastOfKind$House" "year" "I" ∈ lw_ok := mok (i := 110) (by decide +kernel) rfl
theorem qX9_151 : Cond.fieldLink RX9 151 "LastOfKind$House" "year" "I" ∈ lw_ok := mok (i := 111) (by decide +kernel) rfl
theorem qX3_36 : Cond.fieldLink RX3 36 "LastOfKind$House" "guarded" "I" ∈ lw_ok := mok (i := 112) (by decide +kernel) rfl
theorem qX2_29 : Cond.fieldLink RX2 29 "LastOfKind$House" "guarded" "I" ∈ lw_ok := mok (i := 113) (by decide +kernel) rfl
theorem qX5_70 : Cond.fieldLink RX5 70 "LastOfKind$House" "guarded" "I" ∈ lw_ok := mok (i := 114) (by decide +kernel) rfl
theorem qX9_104 : Cond.fieldLink RX9 104 "LastOfKind$House" "guarded" "I" ∈ lw_ok := mok (i := 115) (by decide +kernel) rfl
theorem qX3_40 : Cond.fieldLink RX3 40 "LastOfKind$House" "broken" "I" ∈ lw_ok := mok (i := 116) (by decide +kernel) rfl
theorem qX2_32 : Cond.fieldLink RX2 32 "LastOfKind$House" "broken" "I" ∈ lw_ok := mok (i := 117) (by decide +kernel) rfl
theorem qX9_107 : Cond.fieldLink RX9 107 "LastOfKind$House" "broken" "I" ∈ lw_ok := mok (i := 118) (by decide +kernel) rfl
theorem qX3_32 : Cond.fieldLink RX3 32 "LastOfKind$House" "hidden" "I" ∈ lw_ok := mok (i := 119) (by decide +kernel) rfl
theorem qX2_35 : Cond.fieldLink RX2 35 "LastOfKind$House" "hidden" "I" ∈ lw_ok := mok (i := 120) (by decide +kernel) rfl
theorem qX9_110 : Cond.fieldLink RX9 110 "LastOfKind$House" "hidden" "I" ∈ lw_ok := mok (i := 121) (by decide +kernel) rfl
theorem qX5_31 : Cond.fieldLink RX5 31 "LastOfKind$House" "claimed" "I" ∈ lw_ok := mok (i := 122) (by decide +kernel) rfl
theorem qX3_43 : Cond.fieldLink RX3 43 "LastOfKind$House" "claimed" "I" ∈ lw_ok := mok (i := 123) (by decide +kernel) rfl
theorem qX2_38 : Cond.fieldLink RX2 38 "LastOfKind$House" "claimed" "I" ∈ lw_ok := mok (i := 124) (by decide +kernel) rfl
theorem qX9_113 : Cond.fieldLink RX9 113 "LastOfKind$House" "claimed" "I" ∈ lw_ok := mok (i := 125) (by decide +kernel) rfl
theorem qX9_28 : Cond.methodLink RX9 28 yX6_init ∈ lw_ok := mok (i := 145) (by decide +kernel) rfl
theorem qX6_17 : Cond.methodLink RX6 17 yX2_init ∈ lw_ok := mok (i := 151) (by decide +kernel) rfl
theorem qX6_11 : Cond.fieldLink RX6 11 "LastOfKind$Row" "before" "[LLastOfKind$House;" ∈ lw_ok := mok (i := 152) (by decide +kernel) rfl
theorem qX6_22 : Cond.fieldLink RX6 22 "LastOfKind$Row" "next" "I" ∈ lw_ok := mok (i := 153) (by decide +kernel) rfl
theorem qX6_18 : Cond.fieldLink RX6 18 "LastOfKind$Row" "length" "I" ∈ lw_ok := mok (i := 154) (by decide +kernel) rfl
theorem qX9_158 : Cond.fieldLink RX9 158 "LastOfKind$Row" "length" "I" ∈ lw_ok := mok (i := 155) (by decide +kernel) rfl
theorem qX9_39 : Cond.methodLink RX9 39 yX5_init ∈ lw_ok := mok (i := 165) (by decide +kernel) rfl
theorem qX5_9 : Cond.fieldLink RX5 9 "LastOfKind$Plans" "cost" "I" ∈ lw_ok := mok (i := 169) (by decide +kernel) rfl
theorem qX9_180 : Cond.fieldLink RX9 180 "LastOfKind$Plans" "cost" "I" ∈ lw_ok := mok (i := 170) (by decide +kernel) rfl
theorem qX5_15 : Cond.fieldLink RX5 15 "LastOfKind$Plans" "wordThen" "I" ∈ lw_ok := mok (i := 171) (by decide +kernel) rfl
theorem qX9_183 : Cond.fieldLink RX9 183 "LastOfKind$Plans" "wordThen" "I" ∈ lw_ok := mok (i := 172) (by decide +kernel) rfl
theorem qX5_18 : Cond.fieldLink RX5 18 "LastOfKind$Plans" "toBreak" "I" ∈ lw_ok := mok (i := 173) (by decide +kernel) rfl
theorem qX9_186 : Cond.fieldLink RX9 186 "LastOfKind$Plans" "toBreak" "I" ∈ lw_ok := mok (i := 174) (by decide +kernel) rfl
theorem qX9_46 : Cond.methodLink RX9 46 yX4_init ∈ lw_ok := mok (i := 184) (by decide +kernel) rfl
theorem qX4_11 : Cond.methodLink RX4 11 yX1_init ∈ lw_ok := mok (i := 190) (by decide +kernel) rfl
theorem qX1_9 : Cond.fieldLink RX1 9 "LastOfKind$Goods" "near" "[I" ∈ lw_ok := mok (i := 194) (by decide +kernel) rfl
theorem qX1_15 : Cond.fieldLink RX1 15 "LastOfKind$Goods" "worths" "[I" ∈ lw_ok := mok (i := 195) (by decide +kernel) rfl
theorem qX1_18 : Cond.fieldLink RX1 18 "LastOfKind$Goods" "costs" "[I" ∈ lw_ok := mok (i := 196) (by decide +kernel) rfl
theorem qX4_12 : Cond.fieldLink RX4 12 "LastOfKind$Owners" "goods" "LLastOfKind$Goods;" ∈ lw_ok := mok (i := 206) (by decide +kernel) rfl
theorem qX4_18 : Cond.fieldLink RX4 18 "LastOfKind$Owners" "choosable" "[I" ∈ lw_ok := mok (i := 207) (by decide +kernel) rfl
theorem qX4_24 : Cond.fieldLink RX4 24 "LastOfKind$Owners" "prices" "[[I" ∈ lw_ok := mok (i := 208) (by decide +kernel) rfl
theorem qX4_27 : Cond.fieldLink RX4 27 "LastOfKind$Owners" "best" "[[I" ∈ lw_ok := mok (i := 209) (by decide +kernel) rfl
theorem qX4_41 : Cond.fieldLink RX4 41 "LastOfKind$Owners" "firstResting" "I" ∈ lw_ok := mok (i := 210) (by decide +kernel) rfl
theorem qX4_37 : Cond.fieldLink RX4 37 "LastOfKind$Owners" "resting" "I" ∈ lw_ok := mok (i := 211) (by decide +kernel) rfl
theorem qX9_203 : Cond.fieldLink RX9 203 "LastOfKind$Owners" "resting" "I" ∈ lw_ok := mok (i := 212) (by decide +kernel) rfl
theorem qX9_53 : Cond.methodLink RX9 53 yX7_init ∈ lw_ok := mok (i := 228) (by decide +kernel) rfl
theorem qX7_9 : Cond.fieldLink RX7 9 "LastOfKind$Sightings" "things" "[I" ∈ lw_ok := mok (i := 232) (by decide +kernel) rfl
theorem qX7_15 : Cond.fieldLink RX7 15 "LastOfKind$Sightings" "bounds" "[I" ∈ lw_ok := mok (i := 233) (by decide +kernel) rfl
theorem qX7_18 : Cond.fieldLink RX7 18 "LastOfKind$Sightings" "lower" "[Z" ∈ lw_ok := mok (i := 234) (by decide +kernel) rfl
theorem qX7_22 : Cond.fieldLink RX7 22 "LastOfKind$Sightings" "looked" "[I" ∈ lw_ok := mok (i := 235) (by decide +kernel) rfl
theorem qX7_25 : Cond.fieldLink RX7 25 "LastOfKind$Sightings" "worldsWith" "[I" ∈ lw_ok := mok (i := 236) (by decide +kernel) rfl
theorem qX7_28 : Cond.fieldLink RX7 28 "LastOfKind$Sightings" "length" "I" ∈ lw_ok := mok (i := 237) (by decide +kernel) rfl
theorem qX9_212 : Cond.fieldLink RX9 212 "LastOfKind$Sightings" "length" "I" ∈ lw_ok := mok (i := 238) (by decide +kernel) rfl
theorem qX7_42 : Cond.fieldLink RX7 42 "LastOfKind$Sightings" "total" "I" ∈ lw_ok := mok (i := 239) (by decide +kernel) rfl
theorem qX9_216 : Cond.fieldLink RX9 216 "LastOfKind$Sightings" "total" "I" ∈ lw_ok := mok (i := 240) (by decide +kernel) rfl
theorem qX7_45 : Cond.fieldLink RX7 45 "LastOfKind$Sightings" "inAll" "I" ∈ lw_ok := mok (i := 241) (by decide +kernel) rfl
theorem qX9_219 : Cond.fieldLink RX9 219 "LastOfKind$Sightings" "inAll" "I" ∈ lw_ok := mok (i := 242) (by decide +kernel) rfl
theorem qX7_48 : Cond.fieldLink RX7 48 "LastOfKind$Sightings" "inNone" "I" ∈ lw_ok := mok (i := 243) (by decide +kernel) rfl
theorem qX9_222 : Cond.fieldLink RX9 222 "LastOfKind$Sightings" "inNone" "I" ∈ lw_ok := mok (i := 244) (by decide +kernel) rfl
theorem qX9_60 : Cond.methodLink RX9 60 yX3_init ∈ lw_ok := mok (i := 267) (by decide +kernel) rfl
theorem qX3_13 : Cond.methodLink RX3 13 yX1_init ∈ lw_ok := mok (i := 272) (by decide +kernel) rfl
theorem qX3_14 : Cond.fieldLink RX3 14 "LastOfKind$Museums" "goods" "LLastOfKind$Goods;" ∈ lw_ok := mok (i := 273) (by decide +kernel) rfl
theorem qX3_28 : Cond.fieldLink RX3 28 "LastOfKind$Museums" "things" "I" ∈ lw_ok := mok (i := 274) (by decide +kernel) rfl
theorem qX3_35 : Cond.fieldLink RX3 35 "LastOfKind$Museums" "hidden" "I" ∈ lw_ok := mok (i := 275) (by decide +kernel) rfl
theorem qX3_39 : Cond.fieldLink RX3 39 "LastOfKind$Museums" "guarded" "I" ∈ lw_ok := mok (i := 276) (by decide +kernel) rfl
theorem qX3_50 : Cond.fieldLink RX3 50 "LastOfKind$Museums" "ahead" "I" ∈ lw_ok := mok (i := 277) (by decide +kernel) rfl
theorem qX9_231 : Cond.fieldLink RX9 231 "LastOfKind$Museums" "ahead" "I" ∈ lw_ok := mok (i := 278) (by decide +kernel) rfl
theorem qX3_53 : Cond.fieldLink RX3 53 "LastOfKind$Museums" "firstMove" "I" ∈ lw_ok := mok (i := 279) (by decide +kernel) rfl
theorem qX9_234 : Cond.fieldLink RX9 234 "LastOfKind$Museums" "firstMove" "I" ∈ lw_ok := mok (i := 280) (by decide +kernel) rfl
theorem qX9_67 : Cond.methodLink RX9 67 yX0_init ∈ lw_ok := mok (i := 296) (by decide +kernel) rfl
theorem qX0_47 : Cond.fieldLink RX0 47 "LastOfKind$Chances" "seed" "J" ∈ lw_ok := mok (i := 300) (by decide +kernel) rfl
theorem qX9_246 : Cond.fieldLink RX9 246 "LastOfKind$Chances" "seed" "J" ∈ lw_ok := mok (i := 301) (by decide +kernel) rfl
theorem qX0_26 : Cond.fieldLink RX0 26 "LastOfKind$Chances" "upper" "I" ∈ lw_ok := mok (i := 302) (by decide +kernel) rfl
theorem qX9_240 : Cond.fieldLink RX9 240 "LastOfKind$Chances" "upper" "I" ∈ lw_ok := mok (i := 303) (by decide +kernel) rfl
theorem qX0_31 : Cond.fieldLink RX0 31 "LastOfKind$Chances" "lower" "I" ∈ lw_ok := mok (i := 304) (by decide +kernel) rfl
theorem qX9_243 : Cond.fieldLink RX9 243 "LastOfKind$Chances" "lower" "I" ∈ lw_ok := mok (i := 305) (by decide +kernel) rfl
theorem qX9_10 : Cond.fieldLink RX9 10 "LastOfKind" "text" "LLastOfKind$Text;" ∈ lw_ok := mok (i := 313) (by decide +kernel) rfl
theorem qX9_19 : Cond.fieldLink RX9 19 "LastOfKind" "now" "LLastOfKind$House;" ∈ lw_ok := mok (i := 314) (by decide +kernel) rfl
theorem qX9_23 : Cond.fieldLink RX9 23 "LastOfKind" "trial" "LLastOfKind$House;" ∈ lw_ok := mok (i := 315) (by decide +kernel) rfl
theorem qX9_29 : Cond.fieldLink RX9 29 "LastOfKind" "row" "LLastOfKind$Row;" ∈ lw_ok := mok (i := 316) (by decide +kernel) rfl
theorem qX9_33 : Cond.fieldLink RX9 33 "LastOfKind" "slots" "[LLastOfKind$House;" ∈ lw_ok := mok (i := 317) (by decide +kernel) rfl
theorem qX9_91 : Cond.fieldLink RX9 91 "LastOfKind" "filledSlots" "I" ∈ lw_ok := mok (i := 318) (by decide +kernel) rfl
theorem qX9_40 : Cond.fieldLink RX9 40 "LastOfKind" "plans" "LLastOfKind$Plans;" ∈ lw_ok := mok (i := 319) (by decide +kernel) rfl
theorem qX9_47 : Cond.fieldLink RX9 47 "LastOfKind" "owners" "LLastOfKind$Owners;" ∈ lw_ok := mok (i := 320) (by decide +kernel) rfl
theorem qX9_54 : Cond.fieldLink RX9 54 "LastOfKind" "sightings" "LLastOfKind$Sightings;" ∈ lw_ok := mok (i := 321) (by decide +kernel) rfl
theorem qX9_61 : Cond.fieldLink RX9 61 "LastOfKind" "museums" "LLastOfKind$Museums;" ∈ lw_ok := mok (i := 322) (by decide +kernel) rfl
theorem qX9_68 : Cond.fieldLink RX9 68 "LastOfKind" "chances" "LLastOfKind$Chances;" ∈ lw_ok := mok (i := 323) (by decide +kernel) rfl
theorem qX9_72 : Cond.methodLink RX9 72 yX8_append ∈ lw_ok := mok (i := 351) (by decide +kernel) rfl
theorem qX9_80 : Cond.methodLink RX9 80 yX8_firstFault ∈ lw_ok := mok (i := 363) (by decide +kernel) rfl
theorem qX8_19 : Cond.methodLink RX8 19 yX8_fits ∈ lw_ok := mok (i := 367) (by decide +kernel) rfl
theorem qX8_33 : Cond.methodLink RX8 33 yX8_isWithin ∈ lw_ok := mok (i := 374) (by decide +kernel) rfl
theorem qX9_84 : Cond.methodLink RX9 84 yX2_readFrom ∈ lw_ok := mok (i := 382) (by decide +kernel) rfl
theorem qX2_41 : Cond.methodLink RX2 41 yX8_things ∈ lw_ok := mok (i := 386) (by decide +kernel) rfl
theorem qX2_53 : Cond.methodLink RX2 53 yX8_wordTold ∈ lw_ok := mok (i := 396) (by decide +kernel) rfl
theorem qX2_56 : Cond.methodLink RX2 56 yX8_figureTold ∈ lw_ok := mok (i := 400) (by decide +kernel) rfl
theorem qX9_88 : Cond.methodLink RX9 88 yX6_clear ∈ lw_ok := mok (i := 404) (by decide +kernel) rfl
theorem qX9_97 : Cond.methodLink RX9 97 yX2_has ∈ lw_ok := mok (i := 412) (by decide +kernel) rfl
theorem qX9_100 : Cond.methodLink RX9 100 yX2_figure ∈ lw_ok := mok (i := 416) (by decide +kernel) rfl
theorem qX9_116 : Cond.methodLink RX9 116 yX2_lastOnes ∈ lw_ok := mok (i := 421) (by decide +kernel) rfl
theorem qX2_78 : Cond.methodLink RX2 78 yX2_shown ∈ lw_ok := mok (i := 425) (by decide +kernel) rfl
theorem qX2_62 : Cond.methodLink RX2 62 yX2_there ∈ lw_ok := mok (i := 429) (by decide +kernel) rfl
theorem qX2_59 : Cond.methodLink RX2 59 yX2_all ∈ lw_ok := mok (i := 433) (by decide +kernel) rfl
theorem qX2_81 : Cond.methodLink RX2 81 yX2_lastOnesBy ∈ lw_ok := mok (i := 437) (by decide +kernel) rfl
theorem qX2_84 : Cond.methodLink RX2 84 yX2_alikeTo ∈ lw_ok := mok (i := 444) (by decide +kernel) rfl
theorem qX2_69 : Cond.methodLink RX2 69 yX2_sameMarks ∈ lw_ok := mok (i := 448) (by decide +kernel) rfl
theorem qX9_122 : Cond.methodLink RX9 122 yX2_shown ∈ lw_ok := mok (i := 462) (by decide +kernel) rfl
theorem qX9_125 : Cond.methodLink RX9 125 yX2_alikeTo ∈ lw_ok := mok (i := 463) (by decide +kernel) rfl
theorem qX9_129 : Cond.methodLink RX9 129 yX2_priceOf ∈ lw_ok := mok (i := 468) (by decide +kernel) rfl
theorem qX2_88 : Cond.methodLink RX2 88 yX2_figure ∈ lw_ok := mok (i := 472) (by decide +kernel) rfl
theorem qX2_91 : Cond.methodLink RX2 91 yX2_shareOf ∈ lw_ok := mok (i := 473) (by decide +kernel) rfl
theorem qX9_133 : Cond.methodLink RX9 133 yX9_tryAct ∈ lw_ok := mok (i := 480) (by decide +kernel) rfl
theorem qX9_165 : Cond.methodLink RX9 165 yX2_canBe ∈ lw_ok := mok (i := 484) (by decide +kernel) rfl
theorem qX2_94 : Cond.methodLink RX2 94 yX2_has ∈ lw_ok := mok (i := 488) (by decide +kernel) rfl
theorem qX2_98 : Cond.methodLink RX2 98 yX2_breakable ∈ lw_ok := mok (i := 489) (by decide +kernel) rfl
theorem qX9_136 : Cond.methodLink RX9 136 yX6_remember ∈ lw_ok := mok (i := 493) (by decide +kernel) rfl
theorem qX6_25 : Cond.methodLink RX6 25 yX6_placeAt ∈ lw_ok := mok (i := 497) (by decide +kernel) rfl
theorem qX6_29 : Cond.methodLink RX6 29 yX2_copyFrom ∈ lw_ok := mok (i := 501) (by decide +kernel) rfl
theorem qX9_169 : Cond.methodLink RX9 169 yX2_perform ∈ lw_ok := mok (i := 506) (by decide +kernel) rfl
theorem qX9_140 : Cond.methodLink RX9 140 yX2_addForged ∈ lw_ok := mok (i := 514) (by decide +kernel) rfl
theorem qX2_101 : Cond.constant RX2 101 (1048576 : Int32) ∈ lw_ok := mok (i := 518) (by decide +kernel) rfl
theorem qX2_102 : Cond.constant RX2 102 (16777216 : Int32) ∈ lw_ok := mok (i := 519) (by decide +kernel) rfl
theorem qX9_148 : Cond.methodLink RX9 148 yX2_changeWord ∈ lw_ok := mok (i := 540) (by decide +kernel) rfl
theorem qX2_107 : Cond.methodLink RX2 107 yX2_lastOnes ∈ lw_ok := mok (i := 544) (by decide +kernel) rfl
theorem qX9_154 : Cond.methodLink RX9 154 yX6_takeBack ∈ lw_ok := mok (i := 553) (by decide +kernel) rfl
theorem qX9_159 : Cond.methodLink RX9 159 yX9_withoutLast ∈ lw_ok := mok (i := 561) (by decide +kernel) rfl
theorem qX9_162 : Cond.methodLink RX9 162 yX2_copyFrom ∈ lw_ok := mok (i := 564) (by decide +kernel) rfl
theorem qX9_173 : Cond.methodLink RX9 173 yX9_holds ∈ lw_ok := mok (i := 569) (by decide +kernel) rfl
theorem qX9_176 : Cond.methodLink RX9 176 yX5_seekCampaign ∈ lw_ok := mok (i := 570) (by decide +kernel) rfl
theorem qX5_21 : Cond.methodLink RX5 21 yX2_shown ∈ lw_ok := mok (i := 574) (by decide +kernel) rfl
theorem qX5_27 : Cond.methodLink RX5 27 yX2_alikeTo ∈ lw_ok := mok (i := 575) (by decide +kernel) rfl
theorem qX5_43 : Cond.methodLink RX5 43 yX5_costToBreak ∈ lw_ok := mok (i := 579) (by decide +kernel) rfl
theorem qX5_67 : Cond.methodLink RX5 67 yX2_figure ∈ lw_ok := mok (i := 583) (by decide +kernel) rfl
theorem qX9_189 : Cond.methodLink RX9 189 yX5_leastCopy ∈ lw_ok := mok (i := 592) (by decide +kernel) rfl
theorem qX5_52 : Cond.methodLink RX5 52 yX5_frees ∈ lw_ok := mok (i := 597) (by decide +kernel) rfl
theorem qX5_73 : Cond.methodLink RX5 73 yX2_sameMarks ∈ lw_ok := mok (i := 600) (by decide +kernel) rfl
theorem qX9_193 : Cond.methodLink RX9 193 yX5_wordOfMostLast ∈ lw_ok := mok (i := 605) (by decide +kernel) rfl
theorem qX5_56 : Cond.methodLink RX5 56 yX5_lastBy ∈ lw_ok := mok (i := 609) (by decide +kernel) rfl
theorem qX5_59 : Cond.methodLink RX5 59 yX2_lastOnesBy ∈ lw_ok := mok (i := 613) (by decide +kernel) rfl
theorem qX9_197 : Cond.methodLink RX9 197 yX5_lastBy ∈ lw_ok := mok (i := 614) (by decide +kernel) rfl
theorem qX9_200 : Cond.methodLink RX9 200 yX4_weigh ∈ lw_ok := mok (i := 619) (by decide +kernel) rfl
theorem qX4_30 : Cond.methodLink RX4 30 yX1_learn ∈ lw_ok := mok (i := 623) (by decide +kernel) rfl
theorem qX1_21 : Cond.methodLink RX1 21 yX2_has ∈ lw_ok := mok (i := 627) (by decide +kernel) rfl
theorem qX1_31 : Cond.methodLink RX1 31 yX2_all ∈ lw_ok := mok (i := 628) (by decide +kernel) rfl
theorem qX1_35 : Cond.methodLink RX1 35 yX2_alikeTo ∈ lw_ok := mok (i := 629) (by decide +kernel) rfl
theorem qX1_39 : Cond.methodLink RX1 39 yX2_figure ∈ lw_ok := mok (i := 630) (by decide +kernel) rfl
theorem qX4_34 : Cond.methodLink RX4 34 yX4_learn ∈ lw_ok := mok (i := 631) (by decide +kernel) rfl
theorem qX4_48 : Cond.methodLink RX4 48 yX2_shown ∈ lw_ok := mok (i := 635) (by decide +kernel) rfl
theorem qX4_54 : Cond.methodLink RX4 54 yX2_breakable ∈ lw_ok := mok (i := 636) (by decide +kernel) rfl
theorem qX4_60 : Cond.methodLink RX4 60 yX2_figure ∈ lw_ok := mok (i := 637) (by decide +kernel) rfl
theorem qX4_70 : Cond.methodLink RX4 70 yX1_pricesAmong ∈ lw_ok := mok (i := 639) (by decide +kernel) rfl
theorem qX1_47 : Cond.methodLink RX1 47 yX2_shareOf ∈ lw_ok := mok (i := 643) (by decide +kernel) rfl
theorem qX4_44 : Cond.methodLink RX4 44 yX4_goThrough ∈ lw_ok := mok (i := 644) (by decide +kernel) rfl
theorem qX4_73 : Cond.methodLink RX4 73 yX4_raiseBest ∈ lw_ok := mok (i := 648) (by decide +kernel) rfl
theorem qX4_85 : Cond.methodLink RX4 85 yX4_has ∈ lw_ok := mok (i := 652) (by decide +kernel) rfl
theorem qX4_105 : Cond.methodLink RX4 105 yX1_cost ∈ lw_ok := mok (i := 657) (by decide +kernel) rfl
theorem qX4_89 : Cond.methodLink RX4 89 yX4_raise ∈ lw_ok := mok (i := 662) (by decide +kernel) rfl
theorem qX4_77 : Cond.methodLink RX4 77 yX4_isRest ∈ lw_ok := mok (i := 668) (by decide +kernel) rfl
theorem qX4_81 : Cond.methodLink RX4 81 yX4_tell ∈ lw_ok := mok (i := 672) (by decide +kernel) rfl
theorem qX9_206 : Cond.methodLink RX9 206 yX4_firstChoice ∈ lw_ok := mok (i := 676) (by decide +kernel) rfl
theorem qX9_209 : Cond.methodLink RX9 209 yX7_append ∈ lw_ok := mok (i := 684) (by decide +kernel) rfl
theorem qX9_213 : Cond.methodLink RX9 213 yX7_survey ∈ lw_ok := mok (i := 696) (by decide +kernel) rfl
theorem qX7_32 : Cond.methodLink RX7 32 yX2_unseen ∈ lw_ok := mok (i := 700) (by decide +kernel) rfl
theorem qX7_38 : Cond.methodLink RX7 38 yX7_learn ∈ lw_ok := mok (i := 704) (by decide +kernel) rfl
theorem qX7_74 : Cond.methodLink RX7 74 yX2_has ∈ lw_ok := mok (i := 708) (by decide +kernel) rfl
theorem qX7_81 : Cond.methodLink RX7 81 yX2_all ∈ lw_ok := mok (i := 709) (by decide +kernel) rfl
theorem qX7_84 : Cond.methodLink RX7 84 yX2_alikeTo ∈ lw_ok := mok (i := 710) (by decide +kernel) rfl
theorem qX7_51 : Cond.methodLink RX7 51 yX2_shown ∈ lw_ok := mok (i := 711) (by decide +kernel) rfl
theorem qX7_57 : Cond.methodLink RX7 57 yX7_isSo ∈ lw_ok := mok (i := 712) (by decide +kernel) rfl
theorem qX7_61 : Cond.methodLink RX7 61 yX7_tally ∈ lw_ok := mok (i := 717) (by decide +kernel) rfl
theorem qX9_225 : Cond.methodLink RX9 225 yX7_mostTelling ∈ lw_ok := mok (i := 725) (by decide +kernel) rfl
theorem qX9_228 : Cond.methodLink RX9 228 yX3_play ∈ lw_ok := mok (i := 735) (by decide +kernel) rfl
theorem qX3_18 : Cond.methodLink RX3 18 yX1_learn ∈ lw_ok := mok (i := 739) (by decide +kernel) rfl
theorem qX3_22 : Cond.methodLink RX3 22 yX2_all ∈ lw_ok := mok (i := 740) (by decide +kernel) rfl
theorem qX3_46 : Cond.methodLink RX3 46 yX3_lead ∈ lw_ok := mok (i := 741) (by decide +kernel) rfl
theorem qX3_56 : Cond.methodLink RX3 56 yX1_lastAmong ∈ lw_ok := mok (i := 744) (by decide +kernel) rfl
theorem qX3_60 : Cond.methodLink RX3 60 yX3_leadByLastTurn ∈ lw_ok := mok (i := 748) (by decide +kernel) rfl
theorem qX3_72 : Cond.methodLink RX3 72 yX1_worth ∈ lw_ok := mok (i := 752) (by decide +kernel) rfl
theorem qX3_63 : Cond.methodLink RX3 63 yX3_gainOf ∈ lw_ok := mok (i := 756) (by decide +kernel) rfl
theorem qX3_75 : Cond.methodLink RX3 75 yX1_cost ∈ lw_ok := mok (i := 760) (by decide +kernel) rfl
theorem qX9_237 : Cond.methodLink RX9 237 yX0_weigh ∈ lw_ok := mok (i := 766) (by decide +kernel) rfl
theorem qX0_9 : Cond.methodLink RX0 9 yX2_shown ∈ lw_ok := mok (i := 770) (by decide +kernel) rfl
theorem qX0_15 : Cond.methodLink RX0 15 yX2_breakable ∈ lw_ok := mok (i := 771) (by decide +kernel) rfl
theorem qX0_22 : Cond.methodLink RX0 22 yX2_alikeTo ∈ lw_ok := mok (i := 772) (by decide +kernel) rfl
theorem qX0_44 : Cond.methodLink RX0 44 yX0_reduce ∈ lw_ok := mok (i := 775) (by decide +kernel) rfl
theorem qX9_250 : Cond.methodLink RX9 250 yX0_lastAfter ∈ lw_ok := mok (i := 787) (by decide +kernel) rfl
theorem qX0_51 : Cond.constantLong RX0 51 (6364136223846793005 : Int64) ∈ lw_ok := mok (i := 791) (by decide +kernel) rfl
theorem qX0_53 : Cond.constantLong RX0 53 (1442695040888963407 : Int64) ∈ lw_ok := mok (i := 792) (by decide +kernel) rfl
theorem qX0_55 : Cond.constantLong RX0 55 (10 : Int64) ∈ lw_ok := mok (i := 793) (by decide +kernel) rfl
theorem qX0_57 : Cond.methodLink RX0 57 yX2_lastOnesBy ∈ lw_ok := mok (i := 794) (by decide +kernel) rfl
theorem qX9_254 : Cond.methodLink RX9 254 yX9_slotAt ∈ lw_ok := mok (i := 799) (by decide +kernel) rfl
theorem qX9_258 : Cond.methodLink RX9 258 yX2_unseen ∈ lw_ok := mok (i := 811) (by decide +kernel) rfl
theorem qX10_7 : Cond.fieldLink RX10 7 "LastOfKindModel" "now" "[I" ∈ lw_ok := mok (i := 818) (by decide +kernel) rfl
theorem qX10_13 : Cond.fieldLink RX10 13 "LastOfKindModel" "text" "[I" ∈ lw_ok := mok (i := 819) (by decide +kernel) rfl
theorem qX10_62 : Cond.fieldLink RX10 62 "LastOfKindModel" "length" "I" ∈ lw_ok := mok (i := 820) (by decide +kernel) rfl
theorem qX10_92 : Cond.fieldLink RX10 92 "LastOfKindModel" "acts" "I" ∈ lw_ok := mok (i := 821) (by decide +kernel) rfl
theorem qX10_149 : Cond.fieldLink RX10 149 "LastOfKindModel" "next" "I" ∈ lw_ok := mok (i := 822) (by decide +kernel) rfl
theorem qX10_16 : Cond.fieldLink RX10 16 "LastOfKindModel" "row" "[I" ∈ lw_ok := mok (i := 823) (by decide +kernel) rfl
theorem qX10_211 : Cond.fieldLink RX10 211 "LastOfKindModel" "sights" "I" ∈ lw_ok := mok (i := 824) (by decide +kernel) rfl
theorem qX10_19 : Cond.fieldLink RX10 19 "LastOfKindModel" "sightOf" "[I" ∈ lw_ok := mok (i := 825) (by decide +kernel) rfl
theorem qX10_22 : Cond.fieldLink RX10 22 "LastOfKindModel" "sightMany" "[I" ∈ lw_ok := mok (i := 826) (by decide +kernel) rfl
theorem qX10_25 : Cond.fieldLink RX10 25 "LastOfKindModel" "sightLeast" "[Z" ∈ lw_ok := mok (i := 827) (by decide +kernel) rfl
theorem qX10_217 : Cond.fieldLink RX10 217 "LastOfKindModel" "worldMany" "I" ∈ lw_ok := mok (i := 828) (by decide +kernel) rfl
theorem qX10_220 : Cond.fieldLink RX10 220 "LastOfKindModel" "worldAll" "I" ∈ lw_ok := mok (i := 829) (by decide +kernel) rfl
theorem qX10_223 : Cond.fieldLink RX10 223 "LastOfKindModel" "worldSome" "I" ∈ lw_ok := mok (i := 830) (by decide +kernel) rfl
theorem qX10_29 : Cond.fieldLink RX10 29 "LastOfKindModel" "worldWith" "[I" ∈ lw_ok := mok (i := 831) (by decide +kernel) rfl
theorem qX10_32 : Cond.fieldLink RX10 32 "LastOfKindModel" "gBroken" "[I" ∈ lw_ok := mok (i := 832) (by decide +kernel) rfl
theorem qX10_35 : Cond.fieldLink RX10 35 "LastOfKindModel" "gClaimed" "[I" ∈ lw_ok := mok (i := 833) (by decide +kernel) rfl
theorem qX10_38 : Cond.fieldLink RX10 38 "LastOfKindModel" "gTry" "[I" ∈ lw_ok := mok (i := 834) (by decide +kernel) rfl
theorem qX10_41 : Cond.fieldLink RX10 41 "LastOfKindModel" "gBest" "[I" ∈ lw_ok := mok (i := 835) (by decide +kernel) rfl
theorem qX10_44 : Cond.fieldLink RX10 44 "LastOfKindModel" "gMove" "[I" ∈ lw_ok := mok (i := 836) (by decide +kernel) rfl
theorem qX10_47 : Cond.fieldLink RX10 47 "LastOfKindModel" "gHas" "[I" ∈ lw_ok := mok (i := 837) (by decide +kernel) rfl
theorem qX10_251 : Cond.fieldLink RX10 251 "LastOfKindModel" "seed" "J" ∈ lw_ok := mok (i := 838) (by decide +kernel) rfl
theorem qX10_50 : Cond.fieldLink RX10 50 "LastOfKindModel" "isKept" "[Z" ∈ lw_ok := mok (i := 839) (by decide +kernel) rfl
theorem qX10_53 : Cond.fieldLink RX10 53 "LastOfKindModel" "kept" "[I" ∈ lw_ok := mok (i := 840) (by decide +kernel) rfl
theorem qX10_56 : Cond.constantLong RX10 56 (255 : Int64) ∈ lw_ok := mok (i := 892) (by decide +kernel) rfl
theorem qX10_58 : Cond.methodLink RX10 58 yX10_in ∈ lw_ok := mok (i := 893) (by decide +kernel) rfl
theorem qX10_76 : Cond.methodLink RX10 76 yX10_fits ∈ lw_ok := mok (i := 904) (by decide +kernel) rfl
theorem qX10_66 : Cond.constantLong RX10 66 (49 : Int64) ∈ lw_ok := mok (i := 908) (by decide +kernel) rfl
theorem qX10_68 : Cond.constantLong RX10 68 (52 : Int64) ∈ lw_ok := mok (i := 909) (by decide +kernel) rfl
theorem qX10_70 : Cond.constantLong RX10 70 (48 : Int64) ∈ lw_ok := mok (i := 910) (by decide +kernel) rfl
theorem qX10_72 : Cond.constantLong RX10 72 (50 : Int64) ∈ lw_ok := mok (i := 911) (by decide +kernel) rfl
theorem qX10_74 : Cond.constantLong RX10 74 (57 : Int64) ∈ lw_ok := mok (i := 912) (by decide +kernel) rfl
theorem qX10_80 : Cond.methodLink RX10 80 yX10_fault ∈ lw_ok := mok (i := 917) (by decide +kernel) rfl
theorem qX10_84 : Cond.methodLink RX10 84 yX10_figure ∈ lw_ok := mok (i := 918) (by decide +kernel) rfl
theorem qX10_88 : Cond.methodLink RX10 88 yX10_code ∈ lw_ok := mok (i := 922) (by decide +kernel) rfl
theorem qX10_128 : Cond.methodLink RX10 128 yX10_isThing ∈ lw_ok := mok (i := 929) (by decide +kernel) rfl
theorem qX10_101 : Cond.methodLink RX10 101 yX10_markOf ∈ lw_ok := mok (i := 933) (by decide +kernel) rfl
theorem qX10_95 : Cond.methodLink RX10 95 yX10_marksOf ∈ lw_ok := mok (i := 937) (by decide +kernel) rfl
theorem qX10_98 : Cond.methodLink RX10 98 yX10_tenTo ∈ lw_ok := mok (i := 941) (by decide +kernel) rfl
theorem qX10_131 : Cond.methodLink RX10 131 yX10_ownerOf ∈ lw_ok := mok (i := 944) (by decide +kernel) rfl
theorem qX10_134 : Cond.methodLink RX10 134 yX10_worthOf ∈ lw_ok := mok (i := 948) (by decide +kernel) rfl
theorem qX10_137 : Cond.methodLink RX10 137 yX10_costOf ∈ lw_ok := mok (i := 952) (by decide +kernel) rfl
theorem qX10_140 : Cond.methodLink RX10 140 yX10_guardOf ∈ lw_ok := mok (i := 956) (by decide +kernel) rfl
theorem qX10_143 : Cond.methodLink RX10 143 yX10_last ∈ lw_ok := mok (i := 960) (by decide +kernel) rfl
theorem qX10_122 : Cond.methodLink RX10 122 yX10_shown ∈ lw_ok := mok (i := 964) (by decide +kernel) rfl
theorem qX10_125 : Cond.methodLink RX10 125 yX10_lastOf ∈ lw_ok := mok (i := 968) (by decide +kernel) rfl
theorem qX10_105 : Cond.methodLink RX10 105 yX10_many ∈ lw_ok := mok (i := 972) (by decide +kernel) rfl
theorem qX10_108 : Cond.methodLink RX10 108 yX10_has ∈ lw_ok := mok (i := 976) (by decide +kernel) rfl
theorem qX10_118 : Cond.methodLink RX10 118 yX10_alikeOf ∈ lw_ok := mok (i := 979) (by decide +kernel) rfl
theorem qX10_112 : Cond.methodLink RX10 112 yX10_same ∈ lw_ok := mok (i := 983) (by decide +kernel) rfl
theorem qX10_115 : Cond.methodLink RX10 115 yX10_ones ∈ lw_ok := mok (i := 987) (by decide +kernel) rfl
theorem qX10_146 : Cond.methodLink RX10 146 yX10_priceBy ∈ lw_ok := mok (i := 998) (by decide +kernel) rfl
theorem qX10_159 : Cond.methodLink RX10 159 yX10_canBreak ∈ lw_ok := mok (i := 1006) (by decide +kernel) rfl
theorem qX10_152 : Cond.methodLink RX10 152 yX10_guardAt ∈ lw_ok := mok (i := 1010) (by decide +kernel) rfl
theorem qX10_162 : Cond.methodLink RX10 162 yX10_keepAct ∈ lw_ok := mok (i := 1014) (by decide +kernel) rfl
theorem qX10_165 : Cond.constantLong RX10 165 (9999 : Int64) ∈ lw_ok := mok (i := 1022) (by decide +kernel) rfl
theorem qX10_167 : Cond.constantLong RX10 167 (2 : Int64) ∈ lw_ok := mok (i := 1023) (by decide +kernel) rfl
theorem qX10_155 : Cond.methodLink RX10 155 yX10_free ∈ lw_ok := mok (i := 1024) (by decide +kernel) rfl
theorem qX10_169 : Cond.methodLink RX10 169 yX10_canHide ∈ lw_ok := mok (i := 1032) (by decide +kernel) rfl
theorem qX10_172 : Cond.methodLink RX10 172 yX10_doHide ∈ lw_ok := mok (i := 1036) (by decide +kernel) rfl
theorem qX10_175 : Cond.methodLink RX10 175 yX10_canClaim ∈ lw_ok := mok (i := 1044) (by decide +kernel) rfl
theorem qX10_178 : Cond.methodLink RX10 178 yX10_doGuard ∈ lw_ok := mok (i := 1052) (by decide +kernel) rfl
theorem qX10_181 : Cond.constantLong RX10 181 (4 : Int64) ∈ lw_ok := mok (i := 1060) (by decide +kernel) rfl
theorem qX10_183 : Cond.methodLink RX10 183 yX10_can ∈ lw_ok := mok (i := 1073) (by decide +kernel) rfl
theorem qX10_186 : Cond.methodLink RX10 186 yX10_make ∈ lw_ok := mok (i := 1077) (by decide +kernel) rfl
theorem qX10_195 : Cond.methodLink RX10 195 yX10_campaignWord ∈ lw_ok := mok (i := 1085) (by decide +kernel) rfl
theorem qX10_192 : Cond.methodLink RX10 192 yX10_costBy ∈ lw_ok := mok (i := 1089) (by decide +kernel) rfl
theorem qX10_189 : Cond.methodLink RX10 189 yX10_apart ∈ lw_ok := mok (i := 1093) (by decide +kernel) rfl
theorem qX10_205 : Cond.methodLink RX10 205 yX10_rest ∈ lw_ok := mok (i := 1112) (by decide +kernel) rfl
theorem qX10_198 : Cond.methodLink RX10 198 yX10_may ∈ lw_ok := mok (i := 1116) (by decide +kernel) rfl
theorem qX10_201 : Cond.methodLink RX10 201 yX10_has3 ∈ lw_ok := mok (i := 1120) (by decide +kernel) rfl
theorem qX10_209 : Cond.constantLong RX10 209 (8 : Int64) ∈ lw_ok := mok (i := 1128) (by decide +kernel) rfl
theorem qX10_229 : Cond.methodLink RX10 229 yX10_layWorlds ∈ lw_ok := mok (i := 1137) (by decide +kernel) rfl
theorem qX10_214 : Cond.methodLink RX10 214 yX10_hiddenThere ∈ lw_ok := mok (i := 1141) (by decide +kernel) rfl
theorem qX10_226 : Cond.methodLink RX10 226 yX10_isSighted ∈ lw_ok := mok (i := 1145) (by decide +kernel) rfl
theorem qX10_233 : Cond.methodLink RX10 233 yX10_begin ∈ lw_ok := mok (i := 1157) (by decide +kernel) rfl
theorem qX10_232 : Cond.constant RX10 232 (-100000 : Int32) ∈ lw_ok := mok (i := 1161) (by decide +kernel) rfl
theorem qX10_237 : Cond.methodLink RX10 237 yX10_canMove ∈ lw_ok := mok (i := 1162) (by decide +kernel) rfl
theorem qX10_240 : Cond.methodLink RX10 240 yX10_go ∈ lw_ok := mok (i := 1166) (by decide +kernel) rfl
theorem qX10_243 : Cond.constantLong RX10 243 (10 : Int64) ∈ lw_ok := mok (i := 1174) (by decide +kernel) rfl
theorem qX10_245 : Cond.methodLink RX10 245 yX10_frail ∈ lw_ok := mok (i := 1175) (by decide +kernel) rfl
theorem qX10_248 : Cond.methodLink RX10 248 yX10_common ∈ lw_ok := mok (i := 1179) (by decide +kernel) rfl
theorem qX10_255 : Cond.constantLong RX10 255 (30 : Int64) ∈ lw_ok := mok (i := 1190) (by decide +kernel) rfl
theorem qX10_257 : Cond.constantLong RX10 257 (6364136223846793005 : Int64) ∈ lw_ok := mok (i := 1191) (by decide +kernel) rfl
theorem qX10_259 : Cond.constantLong RX10 259 (1442695040888963407 : Int64) ∈ lw_ok := mok (i := 1192) (by decide +kernel) rfl
theorem inX0 : ∀ w ∈ u_ws RX0 TX0 3, w ∈ lw_ok := by decide +kernel
theorem inX1 : ∀ w ∈ u_ws RX1 TX1 3, w ∈ lw_ok := by decide +kernel
theorem inX2 : ∀ w ∈ u_ws RX2 TX2 8, w ∈ lw_ok := by decide +kernel
theorem inX3 : ∀ w ∈ u_ws RX3 TX3 6, w ∈ lw_ok := by decide +kernel
theorem inX4 : ∀ w ∈ u_ws RX4 TX4 6, w ∈ lw_ok := by decide +kernel
theorem inX5 : ∀ w ∈ u_ws RX5 TX5 3, w ∈ lw_ok := by decide +kernel
theorem inX6 : ∀ w ∈ u_ws RX6 TX6 3, w ∈ lw_ok := by decide +kernel
theorem inX7 : ∀ w ∈ u_ws RX7 TX7 9, w ∈ lw_ok := by decide +kernel
theorem inX8 : ∀ w ∈ u_ws RX8 TX8 2, w ∈ lw_ok := by decide +kernel
theorem inX9 : ∀ w ∈ u_ws RX9 TX9 11, w ∈ lw_ok := by decide +kernel
theorem inX10 : ∀ w ∈ u_ws RX10 TX10 23, w ∈ lw_ok := by decide +kernel
def nestL : List (String × Nat × MethodName × String) := [(RX8, 29, yX9_at, "LastOfKind"), (RX2, 19, yX9_at, "LastOfKind"), (RX2, 65, yX9_holds, "LastOfKind"), (RX2, 103, yX9_put, "LastOfKind"), (RX5, 63, yX9_holds, "LastOfKind"), (RX4, 92, yX9_at, "LastOfKind"), (RX1, 43, yX9_at, "LastOfKind"), (RX4, 101, yX9_put, "LastOfKind"), (RX7, 71, yX9_holds, "LastOfKind"), (RX0, 34, yX9_holds, "LastOfKind")]
theorem qX8_29 : (RX8, 29, yX9_at, "LastOfKind") ∈ nestL := List.mem_of_getElem? (i := 0) rfl
theorem qX2_19 : (RX2, 19, yX9_at, "LastOfKind") ∈ nestL := List.mem_of_getElem? (i := 1) rfl
theorem qX2_65 : (RX2, 65, yX9_holds, "LastOfKind") ∈ nestL := List.mem_of_getElem? (i := 2) rfl
theorem qX2_103 : (RX2, 103, yX9_put, "LastOfKind") ∈ nestL := List.mem_of_getElem? (i := 3) rfl
theorem qX5_63 : (RX5, 63, yX9_holds, "LastOfKind") ∈ nestL := List.mem_of_getElem? (i := 4) rfl
theorem qX4_92 : (RX4, 92, yX9_at, "LastOfKind") ∈ nestL := List.mem_of_getElem? (i := 5) rfl
theorem qX1_43 : (RX1, 43, yX9_at, "LastOfKind") ∈ nestL := List.mem_of_getElem? (i := 6) rfl
theorem qX4_101 : (RX4, 101, yX9_put, "LastOfKind") ∈ nestL := List.mem_of_getElem? (i := 7) rfl
theorem qX7_71 : (RX7, 71, yX9_holds, "LastOfKind") ∈ nestL := List.mem_of_getElem? (i := 8) rfl
theorem qX0_34 : (RX0, 34, yX9_holds, "LastOfKind") ∈ nestL := List.mem_of_getElem? (i := 9) rfl
theorem nestL_in : ∀ q ∈ nestL, Cond.methodLinkNest q.1 q.2.1 q.2.2.1 q.2.2.2 ∈ lw_tbl := by decide +kernel
theorem mth_max : Cond.static Lib.Math.max.name ∈ lw_ok ∧ Cond.initialized "java/lang/Math" ∈ lw_ok ∧ Cond.code Lib.Math.max.name Lib.Math.max.code 2 (some .int) ∈ lw_ok := by decide +kernel
theorem mth_min : Cond.static Lib.Math.min.name ∈ lw_ok ∧ Cond.initialized "java/lang/Math" ∈ lw_ok ∧ Cond.code Lib.Math.min.name Lib.Math.min.code 2 (some .int) ∈ lw_ok := by decide +kernel
theorem mth_abs : Cond.static Lib.Math.abs.name ∈ lw_ok ∧ Cond.initialized "java/lang/Math" ∈ lw_ok ∧ Cond.code Lib.Math.abs.name Lib.Math.abs.code 1 (some .int) ∈ lw_ok := by decide +kernel
theorem qX8_23 : Cond.methodLink RX8 23 Lib.Math.max.name ∈ lw_ok := mok (i := 390) (by decide +kernel) rfl
theorem qX2_47 : Cond.methodLink RX2 47 Lib.Math.min.name ∈ lw_ok := mok (i := 393) (by decide +kernel) rfl
theorem qX2_72 : Cond.methodLink RX2 72 yJ6_bitCount_0f7a4 ∈ lw_ok := mok (i := 452) (by decide +kernel) rfl
theorem qJ6_265 : Cond.constant RJ6 265 (1431655765 : Int32) ∈ lw_ok := mok (i := 455) (by decide +kernel) rfl
theorem qJ6_266 : Cond.constant RJ6 266 (858993459 : Int32) ∈ lw_ok := mok (i := 456) (by decide +kernel) rfl
theorem qJ6_267 : Cond.constant RJ6 267 (252645135 : Int32) ∈ lw_ok := mok (i := 457) (by decide +kernel) rfl
theorem qX6_33 : Cond.methodLink RX6 33 Lib.Math.min.name ∈ lw_ok := mok (i := 505) (by decide +kernel) rfl
theorem qX9_143 : Cond.methodLink RX9 143 yJ6_bitCount_0f7a4 ∈ lw_ok := mok (i := 531) (by decide +kernel) rfl
theorem qX5_37 : Cond.methodLink RX5 37 Lib.Math.abs.name ∈ lw_ok := mok (i := 576) (by decide +kernel) rfl
theorem qX5_47 : Cond.methodLink RX5 47 yJ6_bitCount_0f7a4 ∈ lw_ok := mok (i := 596) (by decide +kernel) rfl
theorem qX4_64 : Cond.methodLink RX4 64 yJ6_bitCount_0f7a4 ∈ lw_ok := mok (i := 638) (by decide +kernel) rfl
theorem qX4_96 : Cond.methodLink RX4 96 Lib.Math.max.name ∈ lw_ok := mok (i := 666) (by decide +kernel) rfl
theorem qX7_88 : Cond.methodLink RX7 88 yJ6_bitCount_0f7a4 ∈ lw_ok := mok (i := 716) (by decide +kernel) rfl
theorem qX7_65 : Cond.methodLink RX7 65 Lib.Math.min.name ∈ lw_ok := mok (i := 729) (by decide +kernel) rfl
theorem qX3_66 : Cond.methodLink RX3 66 Lib.Math.max.name ∈ lw_ok := mok (i := 761) (by decide +kernel) rfl
theorem qX0_38 : Cond.methodLink RX0 38 yJ6_bitCount_0f7a4 ∈ lw_ok := mok (i := 774) (by decide +kernel) rfl
theorem zJ6_bitCount : jCS yJ6_bitCount_0f7a4 cJ6_bitCount_0f7a4 1 (some .int) := ⟨mok (i := 454) (by decide +kernel) rfl, mok (i := 453) (by decide +kernel) rfl, mok (i := 69) (by decide +kernel) rfl, by decide +kernel⟩
end
section
/-! the memory: 89 places; int contents by place and index, longs by place -/
abbrev Mm : Type := (Nat → Nat → Int32) × (Nat → Int64)
abbrev Dm : Type := va_G × (Nat → Nat) × (Nat → ClassId)
def up (σ : Mm) (k j : Nat) (v : Int32) : Mm := (fun a b => if a = k ∧ b = j then v else σ.1 a b, σ.2)
def upL (σ : Mm) (k : Nat) (v : Int64) : Mm := (σ.1, fun a => if a = k then v else σ.2 a)
def bi (b : Bool) : Int32 := if b then 1 else 0
def rm (x y : Int32) : Int32 := x - x / y * y
def rmL (x y : Int64) : Int64 := x - x / y * y
theorem up_at {σ : Mm} {k j a b : Nat} {v : Int32} : (up σ k j v).1 a b = if a = k ∧ b = j then v else σ.1 a b := rfl
theorem up_ne {σ : Mm} {k j a : Nat} {v : Int32} (h : a ≠ k) : (up σ k j v).1 a = σ.1 a := by
  funext b
  simp [up, h]
theorem up_2 {σ : Mm} {k j : Nat} {v : Int32} : (up σ k j v).2 = σ.2 := rfl
theorem up_upd {σ : Mm} {k j : Nat} {v : Int32} : (up σ k j v).1 k = upd (σ.1 k) j v := by
  funext b
  simp [up, upd]
theorem upL_1 {σ : Mm} {k : Nat} {v : Int64} : (upL σ k v).1 = σ.1 := rfl
theorem upL_eq {σ : Mm} {k : Nat} {v : Int64} : (upL σ k v).2 k = v := by simp [upL]
theorem upL_ne {σ : Mm} {k a : Nat} {v : Int64} (h : a ≠ k) : (upL σ k v).2 a = σ.2 a := by simp [upL, h]
abbrev qs (f : Nat → Option Nat) : (Nat → Int32) ⊕ (Nat → Int64) ⊕ (Nat → UInt32) ⊕ (Nat → UInt64) ⊕ (Nat → Option Nat) := .inr (.inr (.inr (.inr f)))
/-- what lies at a place -/
def shp (ad : Nat → Nat) (cA : Nat → ClassId) (k : Nat) (f : Nat → Int32) (g : Int64) : va_E :=
  if k < 49 then (match k with
  | 0 => .inr (9, [.ref (ad 2), .ref (ad 49), .ref (ad 51), .ref (ad 4), .ref (ad 1), .int (f 5), .ref (ad 6), .ref (ad 7), .ref (ad 26), .ref (ad 21), .ref (ad 32)])
  | 1 => .inl (cA 2, (2, qs (fun j => some (ad (53 + 2 * j)))))
  | 2 => .inr (8, [.ref (ad 3), .int (f 1)])
  | 3 => .inl (cA 0, (56, .inl f))
  | 4 => .inr (6, [.ref (ad 5), .int (f 1), .int (f 2)])
  | 5 => .inl (cA 2, (16, qs (fun j => some (ad (57 + 2 * j)))))
  | 6 => .inr (5, [.int (f 0), .int (f 1), .int (f 2)])
  | 7 => .inr (4, [.ref (ad 17), .ref (ad 8), .ref (ad 9), .ref (ad 13), .int (f 4), .int (f 5)])
  | 8 => .inl (cA 0, (3, .inl f))
  | 9 => .inl (cA 3, (3, qs (fun j => some (ad (10 + j)))))
  | 10 => .inl (cA 0, (256, .inl f))
  | 11 => .inl (cA 0, (256, .inl f))
  | 12 => .inl (cA 0, (256, .inl f))
  | 13 => .inl (cA 3, (3, qs (fun j => some (ad (14 + j)))))
  | 14 => .inl (cA 0, (81, .inl f))
  | 15 => .inl (cA 0, (81, .inl f))
  | 16 => .inl (cA 0, (81, .inl f))
  | 17 => .inr (1, [.ref (ad 18), .ref (ad 19), .ref (ad 20)])
  | 18 => .inl (cA 0, (8, .inl f))
  | 19 => .inl (cA 0, (8, .inl f))
  | 20 => .inl (cA 0, (8, .inl f))
  | 21 => .inr (3, [.ref (ad 22), .int (f 1), .int (f 2), .int (f 3), .int (f 4), .int (f 5)])
  | 22 => .inr (1, [.ref (ad 23), .ref (ad 24), .ref (ad 25)])
  | 23 => .inl (cA 0, (8, .inl f))
  | 24 => .inl (cA 0, (8, .inl f))
  | 25 => .inl (cA 0, (8, .inl f))
  | 26 => .inr (7, [.ref (ad 27), .ref (ad 28), .ref (ad 29), .ref (ad 30), .ref (ad 31), .int (f 5), .int (f 6), .int (f 7), .int (f 8)])
  | 27 => .inl (cA 0, (6, .inl f))
  | 28 => .inl (cA 0, (6, .inl f))
  | 29 => .inl (cA 1, (6, .inl f))
  | 30 => .inl (cA 0, (6, .inl f))
  | 31 => .inl (cA 0, (8, .inl f))
  | 32 => .inr (0, [.long g, .int (f 1), .int (f 2)])
  | 33 => .inr (10, [.ref (ad 34), .ref (ad 35), .int (f 2), .int (f 3), .int (f 4), .ref (ad 36), .int (f 6), .ref (ad 37), .ref (ad 38), .ref (ad 39), .int (f 10), .int (f 11), .int (f 12), .ref (ad 40), .ref (ad 41), .ref (ad 42), .ref (ad 43), .ref (ad 44), .ref (ad 45), .ref (ad 46), .long g, .ref (ad 47), .ref (ad 48)])
  | 34 => .inl (cA 0, (28, .inl f))
  | 35 => .inl (cA 0, (56, .inl f))
  | 36 => .inl (cA 0, (224, .inl f))
  | 37 => .inl (cA 0, (6, .inl f))
  | 38 => .inl (cA 0, (6, .inl f))
  | 39 => .inl (cA 1, (6, .inl f))
  | 40 => .inl (cA 0, (8, .inl f))
  | 41 => .inl (cA 0, (6, .inl f))
  | 42 => .inl (cA 0, (6, .inl f))
  | 43 => .inl (cA 0, (6, .inl f))
  | 44 => .inl (cA 0, (6, .inl f))
  | 45 => .inl (cA 0, (6, .inl f))
  | 46 => .inl (cA 0, (6, .inl f))
  | 47 => .inl (cA 1, (2, .inl f))
  | _ => .inl (cA 0, (28, .inl f))
  ) else if k % 2 = 1 then .inr (2, [.ref (ad (k + 1)), .int (f 1), .int (f 2), .int (f 3), .int (f 4), .int (f 5), .int (f 6), .int (f 7)]) else .inl (cA 0, (8, .inl f))
theorem sh0 {ad : Nat → Nat} {cA : Nat → ClassId} {f : Nat → Int32} {g : Int64} : shp ad cA 0 f g = .inr (9, [.ref (ad 2), .ref (ad 49), .ref (ad 51), .ref (ad 4), .ref (ad 1), .int (f 5), .ref (ad 6), .ref (ad 7), .ref (ad 26), .ref (ad 21), .ref (ad 32)]) := rfl
theorem sh1 {ad : Nat → Nat} {cA : Nat → ClassId} {f : Nat → Int32} {g : Int64} : shp ad cA 1 f g = .inl (cA 2, (2, qs (fun j => some (ad (53 + 2 * j))))) := rfl
theorem sh2 {ad : Nat → Nat} {cA : Nat → ClassId} {f : Nat → Int32} {g : Int64} : shp ad cA 2 f g = .inr (8, [.ref (ad 3), .int (f 1)]) := rfl
theorem sh3 {ad : Nat → Nat} {cA : Nat → ClassId} {f : Nat → Int32} {g : Int64} : shp ad cA 3 f g = .inl (cA 0, (56, .inl f)) := rfl
theorem sh4 {ad : Nat → Nat} {cA : Nat → ClassId} {f : Nat → Int32} {g : Int64} : shp ad cA 4 f g = .inr (6, [.ref (ad 5), .int (f 1), .int (f 2)]) := rfl
theorem sh5 {ad : Nat → Nat} {cA : Nat → ClassId} {f : Nat → Int32} {g : Int64} : shp ad cA 5 f g = .inl (cA 2, (16, qs (fun j => some (ad (57 + 2 * j))))) := rfl
theorem sh6 {ad : Nat → Nat} {cA : Nat → ClassId} {f : Nat → Int32} {g : Int64} : shp ad cA 6 f g = .inr (5, [.int (f 0), .int (f 1), .int (f 2)]) := rfl
theorem sh7 {ad : Nat → Nat} {cA : Nat → ClassId} {f : Nat → Int32} {g : Int64} : shp ad cA 7 f g = .inr (4, [.ref (ad 17), .ref (ad 8), .ref (ad 9), .ref (ad 13), .int (f 4), .int (f 5)]) := rfl
theorem sh8 {ad : Nat → Nat} {cA : Nat → ClassId} {f : Nat → Int32} {g : Int64} : shp ad cA 8 f g = .inl (cA 0, (3, .inl f)) := rfl
theorem sh9 {ad : Nat → Nat} {cA : Nat → ClassId} {f : Nat → Int32} {g : Int64} : shp ad cA 9 f g = .inl (cA 3, (3, qs (fun j => some (ad (10 + j))))) := rfl
theorem sh10 {ad : Nat → Nat} {cA : Nat → ClassId} {f : Nat → Int32} {g : Int64} : shp ad cA 10 f g = .inl (cA 0, (256, .inl f)) := rfl
theorem sh11 {ad : Nat → Nat} {cA : Nat → ClassId} {f : Nat → Int32} {g : Int64} : shp ad cA 11 f g = .inl (cA 0, (256, .inl f)) := rfl
theorem sh12 {ad : Nat → Nat} {cA : Nat → ClassId} {f : Nat → Int32} {g : Int64} : shp ad cA 12 f g = .inl (cA 0, (256, .inl f)) := rfl
theorem sh13 {ad : Nat → Nat} {cA : Nat → ClassId} {f : Nat → Int32} {g : Int64} : shp ad cA 13 f g = .inl (cA 3, (3, qs (fun j => some (ad (14 + j))))) := rfl
theorem sh14 {ad : Nat → Nat} {cA : Nat → ClassId} {f : Nat → Int32} {g : Int64} : shp ad cA 14 f g = .inl (cA 0, (81, .inl f)) := rfl
theorem sh15 {ad : Nat → Nat} {cA : Nat → ClassId} {f : Nat → Int32} {g : Int64} : shp ad cA 15 f g = .inl (cA 0, (81, .inl f)) := rfl
theorem sh16 {ad : Nat → Nat} {cA : Nat → ClassId} {f : Nat → Int32} {g : Int64} : shp ad cA 16 f g = .inl (cA 0, (81, .inl f)) := rfl
theorem sh17 {ad : Nat → Nat} {cA : Nat → ClassId} {f : Nat → Int32} {g : Int64} : shp ad cA 17 f g = .inr (1, [.ref (ad 18), .ref (ad 19), .ref (ad 20)]) := rfl
theorem sh18 {ad : Nat → Nat} {cA : Nat → ClassId} {f : Nat → Int32} {g : Int64} : shp ad cA 18 f g = .inl (cA 0, (8, .inl f)) := rfl
theorem sh19 {ad : Nat → Nat} {cA : Nat → ClassId} {f : Nat → Int32} {g : Int64} : shp ad cA 19 f g = .inl (cA 0, (8, .inl f)) := rfl
theorem sh20 {ad : Nat → Nat} {cA : Nat → ClassId} {f : Nat → Int32} {g : Int64} : shp ad cA 20 f g = .inl (cA 0, (8, .inl f)) := rfl
theorem sh21 {ad : Nat → Nat} {cA : Nat → ClassId} {f : Nat → Int32} {g : Int64} : shp ad cA 21 f g = .inr (3, [.ref (ad 22), .int (f 1), .int (f 2), .int (f 3), .int (f 4), .int (f 5)]) := rfl
theorem sh22 {ad : Nat → Nat} {cA : Nat → ClassId} {f : Nat → Int32} {g : Int64} : shp ad cA 22 f g = .inr (1, [.ref (ad 23), .ref (ad 24), .ref (ad 25)]) := rfl
theorem sh23 {ad : Nat → Nat} {cA : Nat → ClassId} {f : Nat → Int32} {g : Int64} : shp ad cA 23 f g = .inl (cA 0, (8, .inl f)) := rfl
theorem sh24 {ad : Nat → Nat} {cA : Nat → ClassId} {f : Nat → Int32} {g : Int64} : shp ad cA 24 f g = .inl (cA 0, (8, .inl f)) := rfl
theorem sh25 {ad : Nat → Nat} {cA : Nat → ClassId} {f : Nat → Int32} {g : Int64} : shp ad cA 25 f g = .inl (cA 0, (8, .inl f)) := rfl
theorem sh26 {ad : Nat → Nat} {cA : Nat → ClassId} {f : Nat → Int32} {g : Int64} : shp ad cA 26 f g = .inr (7, [.ref (ad 27), .ref (ad 28), .ref (ad 29), .ref (ad 30), .ref (ad 31), .int (f 5), .int (f 6), .int (f 7), .int (f 8)]) := rfl
theorem sh27 {ad : Nat → Nat} {cA : Nat → ClassId} {f : Nat → Int32} {g : Int64} : shp ad cA 27 f g = .inl (cA 0, (6, .inl f)) := rfl
theorem sh28 {ad : Nat → Nat} {cA : Nat → ClassId} {f : Nat → Int32} {g : Int64} : shp ad cA 28 f g = .inl (cA 0, (6, .inl f)) := rfl
theorem sh29 {ad : Nat → Nat} {cA : Nat → ClassId} {f : Nat → Int32} {g : Int64} : shp ad cA 29 f g = .inl (cA 1, (6, .inl f)) := rfl
theorem sh30 {ad : Nat → Nat} {cA : Nat → ClassId} {f : Nat → Int32} {g : Int64} : shp ad cA 30 f g = .inl (cA 0, (6, .inl f)) := rfl
theorem sh31 {ad : Nat → Nat} {cA : Nat → ClassId} {f : Nat → Int32} {g : Int64} : shp ad cA 31 f g = .inl (cA 0, (8, .inl f)) := rfl
theorem sh32 {ad : Nat → Nat} {cA : Nat → ClassId} {f : Nat → Int32} {g : Int64} : shp ad cA 32 f g = .inr (0, [.long g, .int (f 1), .int (f 2)]) := rfl
theorem sh33 {ad : Nat → Nat} {cA : Nat → ClassId} {f : Nat → Int32} {g : Int64} : shp ad cA 33 f g = .inr (10, [.ref (ad 34), .ref (ad 35), .int (f 2), .int (f 3), .int (f 4), .ref (ad 36), .int (f 6), .ref (ad 37), .ref (ad 38), .ref (ad 39), .int (f 10), .int (f 11), .int (f 12), .ref (ad 40), .ref (ad 41), .ref (ad 42), .ref (ad 43), .ref (ad 44), .ref (ad 45), .ref (ad 46), .long g, .ref (ad 47), .ref (ad 48)]) := rfl
theorem sh34 {ad : Nat → Nat} {cA : Nat → ClassId} {f : Nat → Int32} {g : Int64} : shp ad cA 34 f g = .inl (cA 0, (28, .inl f)) := rfl
theorem sh35 {ad : Nat → Nat} {cA : Nat → ClassId} {f : Nat → Int32} {g : Int64} : shp ad cA 35 f g = .inl (cA 0, (56, .inl f)) := rfl
theorem sh36 {ad : Nat → Nat} {cA : Nat → ClassId} {f : Nat → Int32} {g : Int64} : shp ad cA 36 f g = .inl (cA 0, (224, .inl f)) := rfl
theorem sh37 {ad : Nat → Nat} {cA : Nat → ClassId} {f : Nat → Int32} {g : Int64} : shp ad cA 37 f g = .inl (cA 0, (6, .inl f)) := rfl
theorem sh38 {ad : Nat → Nat} {cA : Nat → ClassId} {f : Nat → Int32} {g : Int64} : shp ad cA 38 f g = .inl (cA 0, (6, .inl f)) := rfl
theorem sh39 {ad : Nat → Nat} {cA : Nat → ClassId} {f : Nat → Int32} {g : Int64} : shp ad cA 39 f g = .inl (cA 1, (6, .inl f)) := rfl
theorem sh40 {ad : Nat → Nat} {cA : Nat → ClassId} {f : Nat → Int32} {g : Int64} : shp ad cA 40 f g = .inl (cA 0, (8, .inl f)) := rfl
theorem sh41 {ad : Nat → Nat} {cA : Nat → ClassId} {f : Nat → Int32} {g : Int64} : shp ad cA 41 f g = .inl (cA 0, (6, .inl f)) := rfl
theorem sh42 {ad : Nat → Nat} {cA : Nat → ClassId} {f : Nat → Int32} {g : Int64} : shp ad cA 42 f g = .inl (cA 0, (6, .inl f)) := rfl
theorem sh43 {ad : Nat → Nat} {cA : Nat → ClassId} {f : Nat → Int32} {g : Int64} : shp ad cA 43 f g = .inl (cA 0, (6, .inl f)) := rfl
theorem sh44 {ad : Nat → Nat} {cA : Nat → ClassId} {f : Nat → Int32} {g : Int64} : shp ad cA 44 f g = .inl (cA 0, (6, .inl f)) := rfl
theorem sh45 {ad : Nat → Nat} {cA : Nat → ClassId} {f : Nat → Int32} {g : Int64} : shp ad cA 45 f g = .inl (cA 0, (6, .inl f)) := rfl
theorem sh46 {ad : Nat → Nat} {cA : Nat → ClassId} {f : Nat → Int32} {g : Int64} : shp ad cA 46 f g = .inl (cA 0, (6, .inl f)) := rfl
theorem sh47 {ad : Nat → Nat} {cA : Nat → ClassId} {f : Nat → Int32} {g : Int64} : shp ad cA 47 f g = .inl (cA 1, (2, .inl f)) := rfl
theorem sh48 {ad : Nat → Nat} {cA : Nat → ClassId} {f : Nat → Int32} {g : Int64} : shp ad cA 48 f g = .inl (cA 0, (28, .inl f)) := rfl
/-- a house: its place -/
def hsP (h : Nat) : Prop := 49 ≤ h ∧ h < 88 ∧ h % 2 = 1
theorem shH {ad : Nat → Nat} {cA : Nat → ClassId} {f : Nat → Int32} {g : Int64} {k : Nat} (hk : hsP k) : shp ad cA k f g = .inr (2, [.ref (ad (k + 1)), .int (f 1), .int (f 2), .int (f 3), .int (f 4), .int (f 5), .int (f 6), .int (f 7)]) := by
  unfold shp
  rw [if_neg (by have := hk.1; omega), if_pos hk.2.2]
theorem shT {ad : Nat → Nat} {cA : Nat → ClassId} {f : Nat → Int32} {g : Int64} {k : Nat} (hk : hsP k) : shp ad cA (k + 1) f g = .inl (cA 0, (8, .inl f)) := by
  unfold shp
  rw [if_neg (by have := hk.1; omega), if_neg (by have := hk.2.2; omega)]
def gdP (g : Nat) : Prop := g = 17 ∨ g = 22
theorem shG {ad : Nat → Nat} {cA : Nat → ClassId} {f : Nat → Int32} {g : Int64} {k : Nat} (hk : gdP k) : shp ad cA k f g = .inr (1, [.ref (ad (k + 1)), .ref (ad (k + 2)), .ref (ad (k + 3))]) := by
  rcases hk with rfl | rfl <;> rfl
/-- an int array of n places -/
def iaP (k n : Nat) : Prop := k < 89 ∧ n < 1000 ∧ ∀ (ad : Nat → Nat) (cA : Nat → ClassId) (f : Nat → Int32) (g : Int64), shp ad cA k f g = .inl (cA 0, (n, .inl f))
theorem iaT {h : Nat} (hh : hsP h) : iaP (h + 1) 8 := ⟨by have := hh.2.1; omega, by decide, fun _ _ _ _ => shT hh⟩
theorem ia3 : iaP 3 56 := ⟨by decide, by decide, fun _ _ _ _ => rfl⟩
theorem ia8 : iaP 8 3 := ⟨by decide, by decide, fun _ _ _ _ => rfl⟩
theorem ia10 : iaP 10 256 := ⟨by decide, by decide, fun _ _ _ _ => rfl⟩
theorem ia11 : iaP 11 256 := ⟨by decide, by decide, fun _ _ _ _ => rfl⟩
theorem ia12 : iaP 12 256 := ⟨by decide, by decide, fun _ _ _ _ => rfl⟩
theorem ia14 : iaP 14 81 := ⟨by decide, by decide, fun _ _ _ _ => rfl⟩
theorem ia15 : iaP 15 81 := ⟨by decide, by decide, fun _ _ _ _ => rfl⟩
theorem ia16 : iaP 16 81 := ⟨by decide, by decide, fun _ _ _ _ => rfl⟩
theorem ia18 : iaP 18 8 := ⟨by decide, by decide, fun _ _ _ _ => rfl⟩
theorem ia19 : iaP 19 8 := ⟨by decide, by decide, fun _ _ _ _ => rfl⟩
theorem ia20 : iaP 20 8 := ⟨by decide, by decide, fun _ _ _ _ => rfl⟩
theorem ia23 : iaP 23 8 := ⟨by decide, by decide, fun _ _ _ _ => rfl⟩
theorem ia24 : iaP 24 8 := ⟨by decide, by decide, fun _ _ _ _ => rfl⟩
theorem ia25 : iaP 25 8 := ⟨by decide, by decide, fun _ _ _ _ => rfl⟩
theorem ia27 : iaP 27 6 := ⟨by decide, by decide, fun _ _ _ _ => rfl⟩
theorem ia28 : iaP 28 6 := ⟨by decide, by decide, fun _ _ _ _ => rfl⟩
theorem ia30 : iaP 30 6 := ⟨by decide, by decide, fun _ _ _ _ => rfl⟩
theorem ia31 : iaP 31 8 := ⟨by decide, by decide, fun _ _ _ _ => rfl⟩
theorem ia34 : iaP 34 28 := ⟨by decide, by decide, fun _ _ _ _ => rfl⟩
theorem ia35 : iaP 35 56 := ⟨by decide, by decide, fun _ _ _ _ => rfl⟩
theorem ia36 : iaP 36 224 := ⟨by decide, by decide, fun _ _ _ _ => rfl⟩
theorem ia37 : iaP 37 6 := ⟨by decide, by decide, fun _ _ _ _ => rfl⟩
theorem ia38 : iaP 38 6 := ⟨by decide, by decide, fun _ _ _ _ => rfl⟩
theorem ia40 : iaP 40 8 := ⟨by decide, by decide, fun _ _ _ _ => rfl⟩
theorem ia41 : iaP 41 6 := ⟨by decide, by decide, fun _ _ _ _ => rfl⟩
theorem ia42 : iaP 42 6 := ⟨by decide, by decide, fun _ _ _ _ => rfl⟩
theorem ia43 : iaP 43 6 := ⟨by decide, by decide, fun _ _ _ _ => rfl⟩
theorem ia44 : iaP 44 6 := ⟨by decide, by decide, fun _ _ _ _ => rfl⟩
theorem ia45 : iaP 45 6 := ⟨by decide, by decide, fun _ _ _ _ => rfl⟩
theorem ia46 : iaP 46 6 := ⟨by decide, by decide, fun _ _ _ _ => rfl⟩
theorem ia48 : iaP 48 28 := ⟨by decide, by decide, fun _ _ _ _ => rfl⟩
theorem iaG1 {g : Nat} (hg : gdP g) : iaP (g + 1) 8 := by rcases hg with rfl | rfl <;> exact ⟨by decide, by decide, fun _ _ _ _ => rfl⟩
theorem iaG2 {g : Nat} (hg : gdP g) : iaP (g + 2) 8 := by rcases hg with rfl | rfl <;> exact ⟨by decide, by decide, fun _ _ _ _ => rfl⟩
theorem iaG3 {g : Nat} (hg : gdP g) : iaP (g + 3) 8 := by rcases hg with rfl | rfl <;> exact ⟨by decide, by decide, fun _ _ _ _ => rfl⟩
theorem hsP.lt {h : Nat} (hh : hsP h) : h < 89 := by have := hh.2.1; omega
theorem gdP.lt {h : Nat} (hh : gdP h) : h < 89 := by rcases hh with rfl | rfl <;> decide
def cw (D : Dm) (σ : Mm) : va_W := (List.range 89).map fun k => (D.2.1 k, shp D.2.1 D.2.2 k (σ.1 k) (σ.2 k))
theorem cw_get {D : Dm} {σ : Mm} {k : Nat} (h : k < 89) : (cw D σ)[k]? = some (D.2.1 k, shp D.2.1 D.2.2 k (σ.1 k) (σ.2 k)) := by
  unfold cw
  rw [List.getElem?_map, List.getElem?_range h]
  rfl
theorem cw_none {D : Dm} {σ : Mm} {k : Nat} (h : ¬ k < 89) : (cw D σ)[k]? = none := by
  unfold cw
  rw [List.getElem?_eq_none]
  simp
  omega
theorem cw_inv {D : Dm} {σ : Mm} {k : Nat} {q : Nat × va_E} (h : (cw D σ)[k]? = some q) : k < 89 ∧ q = (D.2.1 k, shp D.2.1 D.2.2 k (σ.1 k) (σ.2 k)) := by
  by_cases hk : k < 89
  · rw [cw_get hk] at h
    exact ⟨hk, (Option.some.inj h).symm⟩
  · rw [cw_none hk] at h
    cases h
theorem cw_set {D : Dm} {σ σ' : Mm} {k : Nat} (h : k < 89) (h1 : ∀ j, j ≠ k → σ'.1 j = σ.1 j) (h2 : ∀ j, j ≠ k → σ'.2 j = σ.2 j) : (cw D σ).set k (D.2.1 k, shp D.2.1 D.2.2 k (σ'.1 k) (σ'.2 k)) = cw D σ' := by
  apply List.ext_getElem?
  intro j
  by_cases hj : k = j
  · subst hj
    rw [List.getElem?_set_self (by simp [cw]; exact h), cw_get h]
  · rw [List.getElem?_set_ne hj]
    by_cases hl : j < 89
    · rw [cw_get hl, cw_get hl, h1 j (Ne.symm hj), h2 j (Ne.symm hj)]
    · rw [cw_none hl, cw_none hl]
def inj (D : Dm) : Prop := ∀ i j, i < 89 → j < 89 → D.2.1 i = D.2.1 j → i = j
def AA (D : Dm) : Nat → Prop := fun q => ∃ k, k < 89 ∧ q = D.2.1 k
theorem cw_D {D : Dm} {σ : Mm} {A : Nat → Prop} (hi : inj D) (hA : ∀ k, k < 89 → A (D.2.1 k)) : va_D A (cw D σ) := by
  refine ⟨fun i j p q h1 h2 h => ?_, fun k q h => ?_⟩
  · obtain ⟨a1, rfl⟩ := cw_inv h1
    obtain ⟨a2, rfl⟩ := cw_inv h2
    exact hi i j a1 a2 h
  · obtain ⟨a1, rfl⟩ := cw_inv h
    exact hA k a1
def tyw (D : Dm) : List (ClassId × FieldType) := [(D.2.2 0, .int), (D.2.2 1, .boolean), (D.2.2 2, .object "LastOfKind$House"), (D.2.2 3, .array .int)]
/-- a method's world -/
def Nst (U : State) : Prop := ∀ q ∈ nestL, va_Nw (.methodLinkNest q.1 q.2.1 q.2.2.1 q.2.2.2) U
theorem Nst.warm {s U : State} (hW : s.WarmedH U.vm) (h : Nst s) : Nst U := fun q hq => va_Nw.warmM hW (h q hq)
def Wd (D : Dm) (σ : Mm) (U : State) : Prop := va_P D.1 vwCl (cw D σ) U.heap ∧ va_K D.1 vwCl (tyw D) U ∧ inj D ∧ Nst U
def Qm (D : Dm) (A : Nat → Prop) (t : Option Value × Mm) : Array Value → State → Outcome → State → Prop := fun _ st oc u => (oc = .returned t.1 ∧ va_P D.1 vwCl (cw D t.2) u.heap ∧ va_K D.1 vwCl (tyw D) u) ∧ va_F A st u
def rmd (d : Nat) : Room := { frames := d, cells := 0, slots := 0, locals := 64 * d }
abbrev wz (y : MethodName) (cc : ByteArray) (maxL : Nat) (ret : Option FieldType) : List Cond := Cond.code y cc maxL ret :: lw_ok
/-- a contract: with these arguments, over the memory σ, at depth d, y answers t.1 and leaves t.2 -/
def Ct (l : Launch) (y : MethodName) (cc : ByteArray) (maxL : Nat) (ret : Option FieldType) (d : Nat) (D : Dm) (as : List Value) (σ : Mm) (t : Option Value × Mm) : Prop :=
  Met l y (wz y cc maxL ret) (rmd d) (va_Pc as (Wd D σ)) (Qm D (AA D) t) 0 0 (AA D)
/-- a method's fixed things -/
abbrev Cx : Type := Program × Launch × Env × Room × State × MethodId × Array Value × List Frame × Method × Code × Nat × Nat × (Nat → Prop)
def Fx (X : Cx) (l : Launch) (nL : Nat) (D : Dm) (cc : ByteArray) (own : String) (dep : Nat) (ret : Option FieldType) : Prop := match X with
  | (p, l', e, R, s, m, args, below, meth, c, cells, slots, A) => l' = l ∧ p.tables.exec = Jvm.exec ∧ c.code = cc ∧ c.maxLocals = nL ∧ s.vm.findClass own = some m.cls ∧ (∀ w ∈ lw_ok, w.before args s = true) ∧ va_K D.1 vwCl (tyw D) s ∧ inj D ∧ Nst s ∧ (∀ k, k < 89 → A (D.2.1 k)) ∧ meth.locks = false ∧ meth.sig.returnType = ret ∧ dep ≤ R.frames ∧ 64 * dep ≤ R.locals ∧ cells ≤ R.cells ∧ slots ≤ R.slots
def JJ (X : Cx) (nL : Nat) (D : Dm) (σ : Mm) (pc : Nat) (ls : List (Nat × Value)) (st : List Value) (Q : State → Prop) : Prop := match X with
  | (p, l, e, R, s, m, args, below, meth, c, cells, slots, A) => ∀ (H : Heap) (locs : List Loc) (lsA : Array Slot), va_P D.1 vwCl (cw D σ) H → va_S A s.heap H locs → lv_has lsA nL ls → W p l e R s m args below meth c H locs cells slots Q (F0 m pc lsA st)
/-- how a method ends: with the answer t.1 and the memory t.2 -/
def QQ (X : Cx) (D : Dm) (t : Option Value × Mm) : State → Prop := match X with
  | (p, l, e, R, s, m, args, below, meth, c, cells, slots, A) => MQ below (Qm D A t) args s cells slots A

theorem j_iconst {X : Cx} {l : Launch} {nL : Nat} {D : Dm} {cc : ByteArray} {own : String} {dep : Nat} {ret : Option FieldType} {σ : Mm} {pc : Nat} {ls : List (Nat × Value)} {st : List Value} {Q : State → Prop} (F : Fx X l nL D cc own dep ret) {k : Int} {v : Int32} (d : decode cc pc = .ok (.iconst k, 1)) (n : Nat) (hn : pc + 1 = n) (hv : Int32.ofInt k = v) (kk : JJ X nL D σ n ls (.int v :: st) Q) : JJ X nL D σ pc ls st Q := by
  subst hn
  obtain ⟨p, l9, e, R, s, m, args, below, meth, c, cells, slots, A⟩ := X
  obtain ⟨rfl, hx, hb, hml, hown, hts, hK, hi, hNs, hA, hlk, hret, hfr, hlo, hce, hsl⟩ := F
  intro H locs lsA hP hS hl
  exact lv_iconst hx hb d hv (kk H locs lsA hP hS hl)
theorem j_bipush {X : Cx} {l : Launch} {nL : Nat} {D : Dm} {cc : ByteArray} {own : String} {dep : Nat} {ret : Option FieldType} {σ : Mm} {pc : Nat} {ls : List (Nat × Value)} {st : List Value} {Q : State → Prop} (F : Fx X l nL D cc own dep ret) {k : Int} {v : Int32} (d : decode cc pc = .ok (.bipush k, 2)) (n : Nat) (hn : pc + 2 = n) (hv : (Int8.ofInt k).toInt32 = v) (kk : JJ X nL D σ n ls (.int v :: st) Q) : JJ X nL D σ pc ls st Q := by
  subst hn
  obtain ⟨p, l9, e, R, s, m, args, below, meth, c, cells, slots, A⟩ := X
  obtain ⟨rfl, hx, hb, hml, hown, hts, hK, hi, hNs, hA, hlk, hret, hfr, hlo, hce, hsl⟩ := F
  intro H locs lsA hP hS hl
  exact lv_bipush hx hb d hv (kk H locs lsA hP hS hl)
theorem j_sipush {X : Cx} {l : Launch} {nL : Nat} {D : Dm} {cc : ByteArray} {own : String} {dep : Nat} {ret : Option FieldType} {σ : Mm} {pc : Nat} {ls : List (Nat × Value)} {st : List Value} {Q : State → Prop} (F : Fx X l nL D cc own dep ret) {k : Int} {v : Int32} (d : decode cc pc = .ok (.sipush k, 3)) (n : Nat) (hn : pc + 3 = n) (hv : (Int16.ofInt k).toInt32 = v) (kk : JJ X nL D σ n ls (.int v :: st) Q) : JJ X nL D σ pc ls st Q := by
  subst hn
  obtain ⟨p, l9, e, R, s, m, args, below, meth, c, cells, slots, A⟩ := X
  obtain ⟨rfl, hx, hb, hml, hown, hts, hK, hi, hNs, hA, hlk, hret, hfr, hlo, hce, hsl⟩ := F
  intro H locs lsA hP hS hl
  exact lv_sipush hx hb d hv (kk H locs lsA hP hS hl)
theorem j_lconst {X : Cx} {l : Launch} {nL : Nat} {D : Dm} {cc : ByteArray} {own : String} {dep : Nat} {ret : Option FieldType} {σ : Mm} {pc : Nat} {ls : List (Nat × Value)} {st : List Value} {Q : State → Prop} (F : Fx X l nL D cc own dep ret) {k : Fin 2} {v : Int64} (d : decode cc pc = .ok (.lconst k, 1)) (n : Nat) (hn : pc + 1 = n) (hv : Int64.ofNat (k : Nat) = v) (kk : JJ X nL D σ n ls (.long v :: st) Q) : JJ X nL D σ pc ls st Q := by
  subst hn
  obtain ⟨p, l9, e, R, s, m, args, below, meth, c, cells, slots, A⟩ := X
  obtain ⟨rfl, hx, hb, hml, hown, hts, hK, hi, hNs, hA, hlk, hret, hfr, hlo, hce, hsl⟩ := F
  intro H locs lsA hP hS hl
  exact lv_lconst hx hb d hv (kk H locs lsA hP hS hl)
theorem j_ldc2 {X : Cx} {l : Launch} {nL : Nat} {D : Dm} {cc : ByteArray} {own : String} {dep : Nat} {ret : Option FieldType} {σ : Mm} {pc : Nat} {ls : List (Nat × Value)} {st : List Value} {Q : State → Prop} (F : Fx X l nL D cc own dep ret) {k : Nat} {v : Int64} (d : decode cc pc = .ok (.ldc2_w k, 3)) (n : Nat) (hn : pc + 3 = n) (hq : Cond.constantLong own k v ∈ lw_ok) (kk : JJ X nL D σ n ls (.long v :: st) Q) : JJ X nL D σ pc ls st Q := by
  subst hn
  obtain ⟨p, l9, e, R, s, m, args, below, meth, c, cells, slots, A⟩ := X
  obtain ⟨rfl, hx, hb, hml, hown, hts, hK, hi, hNs, hA, hlk, hret, hfr, hlo, hce, hsl⟩ := F
  intro H locs lsA hP hS hl
  exact lv_ldc2 hx hb hown (hts _ hq) d (kk H locs lsA hP hS hl)
theorem j_ldc {X : Cx} {l : Launch} {nL : Nat} {D : Dm} {cc : ByteArray} {own : String} {dep : Nat} {ret : Option FieldType} {σ : Mm} {pc : Nat} {ls : List (Nat × Value)} {st : List Value} {Q : State → Prop} (F : Fx X l nL D cc own dep ret) {k : Nat} {v : Int32} (d : decode cc pc = .ok (.ldc k, 2)) (n : Nat) (hn : pc + 2 = n) (hq : Cond.constant own k v ∈ lw_ok) (kk : JJ X nL D σ n ls (.int v :: st) Q) : JJ X nL D σ pc ls st Q := by
  subst hn
  obtain ⟨p, l9, e, R, s, m, args, below, meth, c, cells, slots, A⟩ := X
  obtain ⟨rfl, hx, hb, hml, hown, hts, hK, hi, hNs, hA, hlk, hret, hfr, hlo, hce, hsl⟩ := F
  intro H locs lsA hP hS hl
  exact lv_ldc hx hb hown (hts _ hq) d (kk H locs lsA hP hS hl)
theorem j_ldcw {X : Cx} {l : Launch} {nL : Nat} {D : Dm} {cc : ByteArray} {own : String} {dep : Nat} {ret : Option FieldType} {σ : Mm} {pc : Nat} {ls : List (Nat × Value)} {st : List Value} {Q : State → Prop} (F : Fx X l nL D cc own dep ret) {k : Nat} {v : Int32} (d : decode cc pc = .ok (.ldc_w k, 3)) (n : Nat) (hn : pc + 3 = n) (hq : Cond.constant own k v ∈ lw_ok) (kk : JJ X nL D σ n ls (.int v :: st) Q) : JJ X nL D σ pc ls st Q := by
  subst hn
  obtain ⟨p, l9, e, R, s, m, args, below, meth, c, cells, slots, A⟩ := X
  obtain ⟨rfl, hx, hb, hml, hown, hts, hK, hi, hNs, hA, hlk, hret, hfr, hlo, hce, hsl⟩ := F
  intro H locs lsA hP hS hl
  exact lv_ldcw hx hb hown (hts _ hq) d (kk H locs lsA hP hS hl)
theorem j_iload_n {X : Cx} {l : Launch} {nL : Nat} {D : Dm} {cc : ByteArray} {own : String} {dep : Nat} {ret : Option FieldType} {σ : Mm} {pc : Nat} {ls : List (Nat × Value)} {st : List Value} {Q : State → Prop} (F : Fx X l nL D cc own dep ret) {k : Fin 4} {x : Int32} (d : decode cc pc = .ok (.iload_n k, 1)) (n : Nat) (hn : pc + 1 = n) (q : Nat) (h : ls[q]? = some ((k : Nat), .int x)) (kk : JJ X nL D σ n ls (.int x :: st) Q) : JJ X nL D σ pc ls st Q := by
  subst hn
  obtain ⟨p, l9, e, R, s, m, args, below, meth, c, cells, slots, A⟩ := X
  obtain ⟨rfl, hx, hb, hml, hown, hts, hK, hi, hNs, hA, hlk, hret, hfr, hlo, hce, hsl⟩ := F
  intro H locs lsA hP hS hl
  exact lv_iload_n hx hb d rfl (lv_at hl q h) (kk H locs lsA hP hS hl)
theorem j_iload {X : Cx} {l : Launch} {nL : Nat} {D : Dm} {cc : ByteArray} {own : String} {dep : Nat} {ret : Option FieldType} {σ : Mm} {pc : Nat} {ls : List (Nat × Value)} {st : List Value} {Q : State → Prop} (F : Fx X l nL D cc own dep ret) {k : Nat} {x : Int32} (d : decode cc pc = .ok (.iload k, 2)) (n : Nat) (hn : pc + 2 = n) (q : Nat) (h : ls[q]? = some (k, .int x)) (kk : JJ X nL D σ n ls (.int x :: st) Q) : JJ X nL D σ pc ls st Q := by
  subst hn
  obtain ⟨p, l9, e, R, s, m, args, below, meth, c, cells, slots, A⟩ := X
  obtain ⟨rfl, hx, hb, hml, hown, hts, hK, hi, hNs, hA, hlk, hret, hfr, hlo, hce, hsl⟩ := F
  intro H locs lsA hP hS hl
  exact lv_iload hx hb d (lv_at hl q h) (kk H locs lsA hP hS hl)
theorem j_lload_n {X : Cx} {l : Launch} {nL : Nat} {D : Dm} {cc : ByteArray} {own : String} {dep : Nat} {ret : Option FieldType} {σ : Mm} {pc : Nat} {ls : List (Nat × Value)} {st : List Value} {Q : State → Prop} (F : Fx X l nL D cc own dep ret) {k : Fin 4} {x : Int64} (d : decode cc pc = .ok (.lload_n k, 1)) (n : Nat) (hn : pc + 1 = n) (q : Nat) (h : ls[q]? = some ((k : Nat), .long x)) (kk : JJ X nL D σ n ls (.long x :: st) Q) : JJ X nL D σ pc ls st Q := by
  subst hn
  obtain ⟨p, l9, e, R, s, m, args, below, meth, c, cells, slots, A⟩ := X
  obtain ⟨rfl, hx, hb, hml, hown, hts, hK, hi, hNs, hA, hlk, hret, hfr, hlo, hce, hsl⟩ := F
  intro H locs lsA hP hS hl
  exact lv_lload_n hx hb d rfl (lv_at hl q h) (kk H locs lsA hP hS hl)
theorem j_lload {X : Cx} {l : Launch} {nL : Nat} {D : Dm} {cc : ByteArray} {own : String} {dep : Nat} {ret : Option FieldType} {σ : Mm} {pc : Nat} {ls : List (Nat × Value)} {st : List Value} {Q : State → Prop} (F : Fx X l nL D cc own dep ret) {k : Nat} {x : Int64} (d : decode cc pc = .ok (.lload k, 2)) (n : Nat) (hn : pc + 2 = n) (q : Nat) (h : ls[q]? = some (k, .long x)) (kk : JJ X nL D σ n ls (.long x :: st) Q) : JJ X nL D σ pc ls st Q := by
  subst hn
  obtain ⟨p, l9, e, R, s, m, args, below, meth, c, cells, slots, A⟩ := X
  obtain ⟨rfl, hx, hb, hml, hown, hts, hK, hi, hNs, hA, hlk, hret, hfr, hlo, hce, hsl⟩ := F
  intro H locs lsA hP hS hl
  exact lv_lload hx hb d (lv_at hl q h) (kk H locs lsA hP hS hl)
theorem j_aload_n {X : Cx} {l : Launch} {nL : Nat} {D : Dm} {cc : ByteArray} {own : String} {dep : Nat} {ret : Option FieldType} {σ : Mm} {pc : Nat} {ls : List (Nat × Value)} {st : List Value} {Q : State → Prop} (F : Fx X l nL D cc own dep ret) {k : Fin 4} {x : Nat} (d : decode cc pc = .ok (.aload_n k, 1)) (n : Nat) (hn : pc + 1 = n) (q : Nat) (h : ls[q]? = some ((k : Nat), .ref x)) (kk : JJ X nL D σ n ls (.ref x :: st) Q) : JJ X nL D σ pc ls st Q := by
  subst hn
  obtain ⟨p, l9, e, R, s, m, args, below, meth, c, cells, slots, A⟩ := X
  obtain ⟨rfl, hx, hb, hml, hown, hts, hK, hi, hNs, hA, hlk, hret, hfr, hlo, hce, hsl⟩ := F
  intro H locs lsA hP hS hl
  exact lv_aload_n hx hb d rfl (lv_at hl q h) (kk H locs lsA hP hS hl)
theorem j_aload {X : Cx} {l : Launch} {nL : Nat} {D : Dm} {cc : ByteArray} {own : String} {dep : Nat} {ret : Option FieldType} {σ : Mm} {pc : Nat} {ls : List (Nat × Value)} {st : List Value} {Q : State → Prop} (F : Fx X l nL D cc own dep ret) {k : Nat} {x : Nat} (d : decode cc pc = .ok (.aload k, 2)) (n : Nat) (hn : pc + 2 = n) (q : Nat) (h : ls[q]? = some (k, .ref x)) (kk : JJ X nL D σ n ls (.ref x :: st) Q) : JJ X nL D σ pc ls st Q := by
  subst hn
  obtain ⟨p, l9, e, R, s, m, args, below, meth, c, cells, slots, A⟩ := X
  obtain ⟨rfl, hx, hb, hml, hown, hts, hK, hi, hNs, hA, hlk, hret, hfr, hlo, hce, hsl⟩ := F
  intro H locs lsA hP hS hl
  exact lv_aload hx hb d (lv_at hl q h) (kk H locs lsA hP hS hl)
theorem j_istore_n {X : Cx} {l : Launch} {nL : Nat} {D : Dm} {cc : ByteArray} {own : String} {dep : Nat} {ret : Option FieldType} {σ : Mm} {pc : Nat} {ls : List (Nat × Value)} {st : List Value} {Q : State → Prop} (F : Fx X l nL D cc own dep ret) {k : Fin 4} {x : Int32} (d : decode cc pc = .ok (.istore_n k, 1)) (n : Nat) (hn : pc + 1 = n) (i : Nat) (hki : (k : Nat) = i) (hn2 : i < nL) (ls' : List (Nat × Value)) (hls : (i, Value.int x) :: ls.filter (fun q => !(q.1 == i) && !(q.1 + 1 == i && q.2.category == 2)) = ls') (kk : JJ X nL D σ n ls' st Q) : JJ X nL D σ pc ls (.int x :: st) Q := by
  subst hn
  obtain ⟨p, l9, e, R, s, m, args, below, meth, c, cells, slots, A⟩ := X
  obtain ⟨rfl, hx, hb, hml, hown, hts, hK, hi, hNs, hA, hlk, hret, hfr, hlo, hce, hsl⟩ := F
  intro H locs lsA hP hS hl
  exact lv_istore_n hx hb d hki hl hn2 hls (fun lsA hl => kk H locs lsA hP hS hl)
theorem j_istore {X : Cx} {l : Launch} {nL : Nat} {D : Dm} {cc : ByteArray} {own : String} {dep : Nat} {ret : Option FieldType} {σ : Mm} {pc : Nat} {ls : List (Nat × Value)} {st : List Value} {Q : State → Prop} (F : Fx X l nL D cc own dep ret) {i : Nat} {x : Int32} (d : decode cc pc = .ok (.istore i, 2)) (n : Nat) (hn : pc + 2 = n) (hn2 : i < nL) (ls' : List (Nat × Value)) (hls : (i, Value.int x) :: ls.filter (fun q => !(q.1 == i) && !(q.1 + 1 == i && q.2.category == 2)) = ls') (kk : JJ X nL D σ n ls' st Q) : JJ X nL D σ pc ls (.int x :: st) Q := by
  subst hn
  obtain ⟨p, l9, e, R, s, m, args, below, meth, c, cells, slots, A⟩ := X
  obtain ⟨rfl, hx, hb, hml, hown, hts, hK, hi, hNs, hA, hlk, hret, hfr, hlo, hce, hsl⟩ := F
  intro H locs lsA hP hS hl
  exact lv_istore hx hb d hl hn2 hls (fun lsA hl => kk H locs lsA hP hS hl)
theorem j_astore_n {X : Cx} {l : Launch} {nL : Nat} {D : Dm} {cc : ByteArray} {own : String} {dep : Nat} {ret : Option FieldType} {σ : Mm} {pc : Nat} {ls : List (Nat × Value)} {st : List Value} {Q : State → Prop} (F : Fx X l nL D cc own dep ret) {k : Fin 4} {x : Nat} (d : decode cc pc = .ok (.astore_n k, 1)) (n : Nat) (hn : pc + 1 = n) (i : Nat) (hki : (k : Nat) = i) (hn2 : i < nL) (ls' : List (Nat × Value)) (hls : (i, Value.ref x) :: ls.filter (fun q => !(q.1 == i) && !(q.1 + 1 == i && q.2.category == 2)) = ls') (kk : JJ X nL D σ n ls' st Q) : JJ X nL D σ pc ls (.ref x :: st) Q := by
  subst hn
  obtain ⟨p, l9, e, R, s, m, args, below, meth, c, cells, slots, A⟩ := X
  obtain ⟨rfl, hx, hb, hml, hown, hts, hK, hi, hNs, hA, hlk, hret, hfr, hlo, hce, hsl⟩ := F
  intro H locs lsA hP hS hl
  exact lv_astore_n hx hb d hki hl hn2 hls (fun lsA hl => kk H locs lsA hP hS hl)
theorem j_astore {X : Cx} {l : Launch} {nL : Nat} {D : Dm} {cc : ByteArray} {own : String} {dep : Nat} {ret : Option FieldType} {σ : Mm} {pc : Nat} {ls : List (Nat × Value)} {st : List Value} {Q : State → Prop} (F : Fx X l nL D cc own dep ret) {i : Nat} {x : Nat} (d : decode cc pc = .ok (.astore i, 2)) (n : Nat) (hn : pc + 2 = n) (hn2 : i < nL) (ls' : List (Nat × Value)) (hls : (i, Value.ref x) :: ls.filter (fun q => !(q.1 == i) && !(q.1 + 1 == i && q.2.category == 2)) = ls') (kk : JJ X nL D σ n ls' st Q) : JJ X nL D σ pc ls (.ref x :: st) Q := by
  subst hn
  obtain ⟨p, l9, e, R, s, m, args, below, meth, c, cells, slots, A⟩ := X
  obtain ⟨rfl, hx, hb, hml, hown, hts, hK, hi, hNs, hA, hlk, hret, hfr, hlo, hce, hsl⟩ := F
  intro H locs lsA hP hS hl
  exact lv_astore hx hb d hl hn2 hls (fun lsA hl => kk H locs lsA hP hS hl)
theorem j_lstore_n {X : Cx} {l : Launch} {nL : Nat} {D : Dm} {cc : ByteArray} {own : String} {dep : Nat} {ret : Option FieldType} {σ : Mm} {pc : Nat} {ls : List (Nat × Value)} {st : List Value} {Q : State → Prop} (F : Fx X l nL D cc own dep ret) {k : Fin 4} {x : Int64} (d : decode cc pc = .ok (.lstore_n k, 1)) (n : Nat) (hn : pc + 1 = n) (i : Nat) (hki : (k : Nat) = i) (hn2 : i + 1 < nL) (ls' : List (Nat × Value)) (hls : (i, Value.long x) :: ls.filter (fun q => !(q.1 == i) && (!(q.1 == i + 1) && !(q.1 + 1 == i && q.2.category == 2))) = ls') (kk : JJ X nL D σ n ls' st Q) : JJ X nL D σ pc ls (.long x :: st) Q := by
  subst hn
  obtain ⟨p, l9, e, R, s, m, args, below, meth, c, cells, slots, A⟩ := X
  obtain ⟨rfl, hx, hb, hml, hown, hts, hK, hi, hNs, hA, hlk, hret, hfr, hlo, hce, hsl⟩ := F
  intro H locs lsA hP hS hl
  exact lv_lstore_n hx hb d hki hl hn2 hls (fun lsA hl => kk H locs lsA hP hS hl)
theorem j_iinc {X : Cx} {l : Launch} {nL : Nat} {D : Dm} {cc : ByteArray} {own : String} {dep : Nat} {ret : Option FieldType} {σ : Mm} {pc : Nat} {ls : List (Nat × Value)} {st : List Value} {Q : State → Prop} (F : Fx X l nL D cc own dep ret) {i : Nat} {k : Int} {x : Int32} (d : decode cc pc = .ok (.iinc i k, 3)) (n : Nat) (hn : pc + 3 = n) (q : Nat) (hq : ls[q]? = some (i, .int x)) (v : Int32) (hv : x + Int32.ofInt k = v) (hn2 : i < nL) (ls' : List (Nat × Value)) (hls : (i, Value.int v) :: ls.filter (fun q => !(q.1 == i) && !(q.1 + 1 == i && q.2.category == 2)) = ls') (kk : JJ X nL D σ n ls' st Q) : JJ X nL D σ pc ls st Q := by
  subst hn
  obtain ⟨p, l9, e, R, s, m, args, below, meth, c, cells, slots, A⟩ := X
  obtain ⟨rfl, hx, hb, hml, hown, hts, hK, hi, hNs, hA, hlk, hret, hfr, hlo, hce, hsl⟩ := F
  intro H locs lsA hP hS hl
  exact lv_iinc (k := q) hx hb d hl hq hv hn2 hls (fun lsA hl => kk H locs lsA hP hS hl)
theorem j_pick {X : Cx} {nL : Nat} {D : Dm} {σ : Mm} {pc : Nat} {ls : List (Nat × Value)} {st : List Value} {Q : State → Prop} (ks : List Nat) (ls' : List (Nat × Value)) (h : lv_pick ls ks = ls') (kk : JJ X nL D σ pc ls' st Q) : JJ X nL D σ pc ls st Q := by
  obtain ⟨p, l9, e, R, s, m, args, below, meth, c, cells, slots, A⟩ := X
  intro H locs lsA hP hS hl
  exact kk H locs lsA hP hS (lv_sub hl ks h)
theorem j_iadd {X : Cx} {l : Launch} {nL : Nat} {D : Dm} {cc : ByteArray} {own : String} {dep : Nat} {ret : Option FieldType} {σ : Mm} {pc : Nat} {ls : List (Nat × Value)} {st : List Value} {Q : State → Prop} (F : Fx X l nL D cc own dep ret) {x y : Int32} (d : decode cc pc = .ok (.iadd, 1)) (n : Nat) (hn : pc + 1 = n) (kk : JJ X nL D σ n ls (.int (x + y) :: st) Q) : JJ X nL D σ pc ls (.int y :: .int x :: st) Q := by
  subst hn
  obtain ⟨p, l9, e, R, s, m, args, below, meth, c, cells, slots, A⟩ := X
  obtain ⟨rfl, hx, hb, hml, hown, hts, hK, hi, hNs, hA, hlk, hret, hfr, hlo, hce, hsl⟩ := F
  intro H locs lsA hP hS hl
  exact lv_iadd hx hb d (kk H locs lsA hP hS hl)
theorem j_isub {X : Cx} {l : Launch} {nL : Nat} {D : Dm} {cc : ByteArray} {own : String} {dep : Nat} {ret : Option FieldType} {σ : Mm} {pc : Nat} {ls : List (Nat × Value)} {st : List Value} {Q : State → Prop} (F : Fx X l nL D cc own dep ret) {x y : Int32} (d : decode cc pc = .ok (.isub, 1)) (n : Nat) (hn : pc + 1 = n) (kk : JJ X nL D σ n ls (.int (x - y) :: st) Q) : JJ X nL D σ pc ls (.int y :: .int x :: st) Q := by
  subst hn
  obtain ⟨p, l9, e, R, s, m, args, below, meth, c, cells, slots, A⟩ := X
  obtain ⟨rfl, hx, hb, hml, hown, hts, hK, hi, hNs, hA, hlk, hret, hfr, hlo, hce, hsl⟩ := F
  intro H locs lsA hP hS hl
  exact lv_isub hx hb d (kk H locs lsA hP hS hl)
theorem j_imul {X : Cx} {l : Launch} {nL : Nat} {D : Dm} {cc : ByteArray} {own : String} {dep : Nat} {ret : Option FieldType} {σ : Mm} {pc : Nat} {ls : List (Nat × Value)} {st : List Value} {Q : State → Prop} (F : Fx X l nL D cc own dep ret) {x y : Int32} (d : decode cc pc = .ok (.imul, 1)) (n : Nat) (hn : pc + 1 = n) (kk : JJ X nL D σ n ls (.int (x * y) :: st) Q) : JJ X nL D σ pc ls (.int y :: .int x :: st) Q := by
  subst hn
  obtain ⟨p, l9, e, R, s, m, args, below, meth, c, cells, slots, A⟩ := X
  obtain ⟨rfl, hx, hb, hml, hown, hts, hK, hi, hNs, hA, hlk, hret, hfr, hlo, hce, hsl⟩ := F
  intro H locs lsA hP hS hl
  exact lv_imul hx hb d (kk H locs lsA hP hS hl)
theorem j_iand {X : Cx} {l : Launch} {nL : Nat} {D : Dm} {cc : ByteArray} {own : String} {dep : Nat} {ret : Option FieldType} {σ : Mm} {pc : Nat} {ls : List (Nat × Value)} {st : List Value} {Q : State → Prop} (F : Fx X l nL D cc own dep ret) {x y : Int32} (d : decode cc pc = .ok (.iand, 1)) (n : Nat) (hn : pc + 1 = n) (kk : JJ X nL D σ n ls (.int (x &&& y) :: st) Q) : JJ X nL D σ pc ls (.int y :: .int x :: st) Q := by
  subst hn
  obtain ⟨p, l9, e, R, s, m, args, below, meth, c, cells, slots, A⟩ := X
  obtain ⟨rfl, hx, hb, hml, hown, hts, hK, hi, hNs, hA, hlk, hret, hfr, hlo, hce, hsl⟩ := F
  intro H locs lsA hP hS hl
  exact lv_iand hx hb d (kk H locs lsA hP hS hl)
theorem j_ior {X : Cx} {l : Launch} {nL : Nat} {D : Dm} {cc : ByteArray} {own : String} {dep : Nat} {ret : Option FieldType} {σ : Mm} {pc : Nat} {ls : List (Nat × Value)} {st : List Value} {Q : State → Prop} (F : Fx X l nL D cc own dep ret) {x y : Int32} (d : decode cc pc = .ok (.ior, 1)) (n : Nat) (hn : pc + 1 = n) (kk : JJ X nL D σ n ls (.int (x ||| y) :: st) Q) : JJ X nL D σ pc ls (.int y :: .int x :: st) Q := by
  subst hn
  obtain ⟨p, l9, e, R, s, m, args, below, meth, c, cells, slots, A⟩ := X
  obtain ⟨rfl, hx, hb, hml, hown, hts, hK, hi, hNs, hA, hlk, hret, hfr, hlo, hce, hsl⟩ := F
  intro H locs lsA hP hS hl
  exact lv_ior hx hb d (kk H locs lsA hP hS hl)
theorem j_ixor {X : Cx} {l : Launch} {nL : Nat} {D : Dm} {cc : ByteArray} {own : String} {dep : Nat} {ret : Option FieldType} {σ : Mm} {pc : Nat} {ls : List (Nat × Value)} {st : List Value} {Q : State → Prop} (F : Fx X l nL D cc own dep ret) {x y : Int32} (d : decode cc pc = .ok (.ixor, 1)) (n : Nat) (hn : pc + 1 = n) (kk : JJ X nL D σ n ls (.int (x ^^^ y) :: st) Q) : JJ X nL D σ pc ls (.int y :: .int x :: st) Q := by
  subst hn
  obtain ⟨p, l9, e, R, s, m, args, below, meth, c, cells, slots, A⟩ := X
  obtain ⟨rfl, hx, hb, hml, hown, hts, hK, hi, hNs, hA, hlk, hret, hfr, hlo, hce, hsl⟩ := F
  intro H locs lsA hP hS hl
  exact lv_ixor hx hb d (kk H locs lsA hP hS hl)
theorem j_ishl {X : Cx} {l : Launch} {nL : Nat} {D : Dm} {cc : ByteArray} {own : String} {dep : Nat} {ret : Option FieldType} {σ : Mm} {pc : Nat} {ls : List (Nat × Value)} {st : List Value} {Q : State → Prop} (F : Fx X l nL D cc own dep ret) {x y : Int32} (d : decode cc pc = .ok (.ishl, 1)) (n : Nat) (hn : pc + 1 = n) (kk : JJ X nL D σ n ls (.int (x <<< (y &&& 31)) :: st) Q) : JJ X nL D σ pc ls (.int y :: .int x :: st) Q := by
  subst hn
  obtain ⟨p, l9, e, R, s, m, args, below, meth, c, cells, slots, A⟩ := X
  obtain ⟨rfl, hx, hb, hml, hown, hts, hK, hi, hNs, hA, hlk, hret, hfr, hlo, hce, hsl⟩ := F
  intro H locs lsA hP hS hl
  exact lv_ishl hx hb d (kk H locs lsA hP hS hl)
theorem j_ishr {X : Cx} {l : Launch} {nL : Nat} {D : Dm} {cc : ByteArray} {own : String} {dep : Nat} {ret : Option FieldType} {σ : Mm} {pc : Nat} {ls : List (Nat × Value)} {st : List Value} {Q : State → Prop} (F : Fx X l nL D cc own dep ret) {x y : Int32} (d : decode cc pc = .ok (.ishr, 1)) (n : Nat) (hn : pc + 1 = n) (kk : JJ X nL D σ n ls (.int (x >>> (y &&& 31)) :: st) Q) : JJ X nL D σ pc ls (.int y :: .int x :: st) Q := by
  subst hn
  obtain ⟨p, l9, e, R, s, m, args, below, meth, c, cells, slots, A⟩ := X
  obtain ⟨rfl, hx, hb, hml, hown, hts, hK, hi, hNs, hA, hlk, hret, hfr, hlo, hce, hsl⟩ := F
  intro H locs lsA hP hS hl
  exact lv_ishr hx hb d (kk H locs lsA hP hS hl)
theorem j_iushr {X : Cx} {l : Launch} {nL : Nat} {D : Dm} {cc : ByteArray} {own : String} {dep : Nat} {ret : Option FieldType} {σ : Mm} {pc : Nat} {ls : List (Nat × Value)} {st : List Value} {Q : State → Prop} (F : Fx X l nL D cc own dep ret) {x y : Int32} (d : decode cc pc = .ok (.iushr, 1)) (n : Nat) (hn : pc + 1 = n) (kk : JJ X nL D σ n ls (.int ((x.toUInt32 >>> (y.toUInt32 &&& Int32.toUInt32 31)).toInt32) :: st) Q) : JJ X nL D σ pc ls (.int y :: .int x :: st) Q := by
  subst hn
  obtain ⟨p, l9, e, R, s, m, args, below, meth, c, cells, slots, A⟩ := X
  obtain ⟨rfl, hx, hb, hml, hown, hts, hK, hi, hNs, hA, hlk, hret, hfr, hlo, hce, hsl⟩ := F
  intro H locs lsA hP hS hl
  exact lv_iushr hx hb d rfl (kk H locs lsA hP hS hl)
theorem j_ineg {X : Cx} {l : Launch} {nL : Nat} {D : Dm} {cc : ByteArray} {own : String} {dep : Nat} {ret : Option FieldType} {σ : Mm} {pc : Nat} {ls : List (Nat × Value)} {st : List Value} {Q : State → Prop} (F : Fx X l nL D cc own dep ret) {x : Int32} (d : decode cc pc = .ok (.ineg, 1)) (n : Nat) (hn : pc + 1 = n) (kk : JJ X nL D σ n ls (.int (-x) :: st) Q) : JJ X nL D σ pc ls (.int x :: st) Q := by
  subst hn
  obtain ⟨p, l9, e, R, s, m, args, below, meth, c, cells, slots, A⟩ := X
  obtain ⟨rfl, hx, hb, hml, hown, hts, hK, hi, hNs, hA, hlk, hret, hfr, hlo, hce, hsl⟩ := F
  intro H locs lsA hP hS hl
  exact lv_ineg hx hb d (kk H locs lsA hP hS hl)
theorem j_idiv {X : Cx} {l : Launch} {nL : Nat} {D : Dm} {cc : ByteArray} {own : String} {dep : Nat} {ret : Option FieldType} {σ : Mm} {pc : Nat} {ls : List (Nat × Value)} {st : List Value} {Q : State → Prop} (F : Fx X l nL D cc own dep ret) {x y : Int32} (d : decode cc pc = .ok (.idiv, 1)) (n : Nat) (hn : pc + 1 = n) (hne : ¬ y = 0) (kk : JJ X nL D σ n ls (.int (x / y) :: st) Q) : JJ X nL D σ pc ls (.int y :: .int x :: st) Q := by
  subst hn
  obtain ⟨p, l9, e, R, s, m, args, below, meth, c, cells, slots, A⟩ := X
  obtain ⟨rfl, hx, hb, hml, hown, hts, hK, hi, hNs, hA, hlk, hret, hfr, hlo, hce, hsl⟩ := F
  intro H locs lsA hP hS hl
  exact lv_idiv hx hb d hne (kk H locs lsA hP hS hl)
theorem j_irem {X : Cx} {l : Launch} {nL : Nat} {D : Dm} {cc : ByteArray} {own : String} {dep : Nat} {ret : Option FieldType} {σ : Mm} {pc : Nat} {ls : List (Nat × Value)} {st : List Value} {Q : State → Prop} (F : Fx X l nL D cc own dep ret) {x y : Int32} (d : decode cc pc = .ok (.irem, 1)) (n : Nat) (hn : pc + 1 = n) (hne : ¬ y = 0) (kk : JJ X nL D σ n ls (.int (rm x y) :: st) Q) : JJ X nL D σ pc ls (.int y :: .int x :: st) Q := by
  subst hn
  obtain ⟨p, l9, e, R, s, m, args, below, meth, c, cells, slots, A⟩ := X
  obtain ⟨rfl, hx, hb, hml, hown, hts, hK, hi, hNs, hA, hlk, hret, hfr, hlo, hce, hsl⟩ := F
  intro H locs lsA hP hS hl
  exact lv_irem hx hb d hne (kk H locs lsA hP hS hl)
theorem j_ladd {X : Cx} {l : Launch} {nL : Nat} {D : Dm} {cc : ByteArray} {own : String} {dep : Nat} {ret : Option FieldType} {σ : Mm} {pc : Nat} {ls : List (Nat × Value)} {st : List Value} {Q : State → Prop} (F : Fx X l nL D cc own dep ret) {x y : Int64} (d : decode cc pc = .ok (.ladd, 1)) (n : Nat) (hn : pc + 1 = n) (kk : JJ X nL D σ n ls (.long (x + y) :: st) Q) : JJ X nL D σ pc ls (.long y :: .long x :: st) Q := by
  subst hn
  obtain ⟨p, l9, e, R, s, m, args, below, meth, c, cells, slots, A⟩ := X
  obtain ⟨rfl, hx, hb, hml, hown, hts, hK, hi, hNs, hA, hlk, hret, hfr, hlo, hce, hsl⟩ := F
  intro H locs lsA hP hS hl
  exact lv_ladd hx hb d (kk H locs lsA hP hS hl)
theorem j_lsub {X : Cx} {l : Launch} {nL : Nat} {D : Dm} {cc : ByteArray} {own : String} {dep : Nat} {ret : Option FieldType} {σ : Mm} {pc : Nat} {ls : List (Nat × Value)} {st : List Value} {Q : State → Prop} (F : Fx X l nL D cc own dep ret) {x y : Int64} (d : decode cc pc = .ok (.lsub, 1)) (n : Nat) (hn : pc + 1 = n) (kk : JJ X nL D σ n ls (.long (x - y) :: st) Q) : JJ X nL D σ pc ls (.long y :: .long x :: st) Q := by
  subst hn
  obtain ⟨p, l9, e, R, s, m, args, below, meth, c, cells, slots, A⟩ := X
  obtain ⟨rfl, hx, hb, hml, hown, hts, hK, hi, hNs, hA, hlk, hret, hfr, hlo, hce, hsl⟩ := F
  intro H locs lsA hP hS hl
  exact lv_lsub hx hb d (kk H locs lsA hP hS hl)
theorem j_lmul {X : Cx} {l : Launch} {nL : Nat} {D : Dm} {cc : ByteArray} {own : String} {dep : Nat} {ret : Option FieldType} {σ : Mm} {pc : Nat} {ls : List (Nat × Value)} {st : List Value} {Q : State → Prop} (F : Fx X l nL D cc own dep ret) {x y : Int64} (d : decode cc pc = .ok (.lmul, 1)) (n : Nat) (hn : pc + 1 = n) (kk : JJ X nL D σ n ls (.long (x * y) :: st) Q) : JJ X nL D σ pc ls (.long y :: .long x :: st) Q := by
  subst hn
  obtain ⟨p, l9, e, R, s, m, args, below, meth, c, cells, slots, A⟩ := X
  obtain ⟨rfl, hx, hb, hml, hown, hts, hK, hi, hNs, hA, hlk, hret, hfr, hlo, hce, hsl⟩ := F
  intro H locs lsA hP hS hl
  exact lv_lmul hx hb d (kk H locs lsA hP hS hl)
theorem j_land {X : Cx} {l : Launch} {nL : Nat} {D : Dm} {cc : ByteArray} {own : String} {dep : Nat} {ret : Option FieldType} {σ : Mm} {pc : Nat} {ls : List (Nat × Value)} {st : List Value} {Q : State → Prop} (F : Fx X l nL D cc own dep ret) {x y : Int64} (d : decode cc pc = .ok (.land, 1)) (n : Nat) (hn : pc + 1 = n) (kk : JJ X nL D σ n ls (.long (x &&& y) :: st) Q) : JJ X nL D σ pc ls (.long y :: .long x :: st) Q := by
  subst hn
  obtain ⟨p, l9, e, R, s, m, args, below, meth, c, cells, slots, A⟩ := X
  obtain ⟨rfl, hx, hb, hml, hown, hts, hK, hi, hNs, hA, hlk, hret, hfr, hlo, hce, hsl⟩ := F
  intro H locs lsA hP hS hl
  exact lv_land hx hb d (kk H locs lsA hP hS hl)
theorem j_lor {X : Cx} {l : Launch} {nL : Nat} {D : Dm} {cc : ByteArray} {own : String} {dep : Nat} {ret : Option FieldType} {σ : Mm} {pc : Nat} {ls : List (Nat × Value)} {st : List Value} {Q : State → Prop} (F : Fx X l nL D cc own dep ret) {x y : Int64} (d : decode cc pc = .ok (.lor, 1)) (n : Nat) (hn : pc + 1 = n) (kk : JJ X nL D σ n ls (.long (x ||| y) :: st) Q) : JJ X nL D σ pc ls (.long y :: .long x :: st) Q := by
  subst hn
  obtain ⟨p, l9, e, R, s, m, args, below, meth, c, cells, slots, A⟩ := X
  obtain ⟨rfl, hx, hb, hml, hown, hts, hK, hi, hNs, hA, hlk, hret, hfr, hlo, hce, hsl⟩ := F
  intro H locs lsA hP hS hl
  exact lv_lor hx hb d (kk H locs lsA hP hS hl)
theorem j_lrem {X : Cx} {l : Launch} {nL : Nat} {D : Dm} {cc : ByteArray} {own : String} {dep : Nat} {ret : Option FieldType} {σ : Mm} {pc : Nat} {ls : List (Nat × Value)} {st : List Value} {Q : State → Prop} (F : Fx X l nL D cc own dep ret) {x y : Int64} (d : decode cc pc = .ok (.lrem, 1)) (n : Nat) (hn : pc + 1 = n) (hne : ¬ y = 0) (kk : JJ X nL D σ n ls (.long (rmL x y) :: st) Q) : JJ X nL D σ pc ls (.long y :: .long x :: st) Q := by
  subst hn
  obtain ⟨p, l9, e, R, s, m, args, below, meth, c, cells, slots, A⟩ := X
  obtain ⟨rfl, hx, hb, hml, hown, hts, hK, hi, hNs, hA, hlk, hret, hfr, hlo, hce, hsl⟩ := F
  intro H locs lsA hP hS hl
  exact lv_lrem hx hb d hne (kk H locs lsA hP hS hl)
theorem j_lushr {X : Cx} {l : Launch} {nL : Nat} {D : Dm} {cc : ByteArray} {own : String} {dep : Nat} {ret : Option FieldType} {σ : Mm} {pc : Nat} {ls : List (Nat × Value)} {st : List Value} {Q : State → Prop} (F : Fx X l nL D cc own dep ret) {x : Int64} {y : Int32} (d : decode cc pc = .ok (.lushr, 1)) (n : Nat) (hn : pc + 1 = n) (kk : JJ X nL D σ n ls (.long ((x.toUInt64 >>> (y.toInt64.toUInt64 &&& Int64.toUInt64 63)).toInt64) :: st) Q) : JJ X nL D σ pc ls (.int y :: .long x :: st) Q := by
  subst hn
  obtain ⟨p, l9, e, R, s, m, args, below, meth, c, cells, slots, A⟩ := X
  obtain ⟨rfl, hx, hb, hml, hown, hts, hK, hi, hNs, hA, hlk, hret, hfr, hlo, hce, hsl⟩ := F
  intro H locs lsA hP hS hl
  exact lv_lushr hx hb d rfl (kk H locs lsA hP hS hl)
theorem j_lshl {X : Cx} {l : Launch} {nL : Nat} {D : Dm} {cc : ByteArray} {own : String} {dep : Nat} {ret : Option FieldType} {σ : Mm} {pc : Nat} {ls : List (Nat × Value)} {st : List Value} {Q : State → Prop} (F : Fx X l nL D cc own dep ret) {x : Int64} {y : Int32} (d : decode cc pc = .ok (.lshl, 1)) (n : Nat) (hn : pc + 1 = n) (kk : JJ X nL D σ n ls (.long (x <<< (y.toInt64 &&& 63)) :: st) Q) : JJ X nL D σ pc ls (.int y :: .long x :: st) Q := by
  subst hn
  obtain ⟨p, l9, e, R, s, m, args, below, meth, c, cells, slots, A⟩ := X
  obtain ⟨rfl, hx, hb, hml, hown, hts, hK, hi, hNs, hA, hlk, hret, hfr, hlo, hce, hsl⟩ := F
  intro H locs lsA hP hS hl
  exact lv_lshl hx hb d rfl (kk H locs lsA hP hS hl)
theorem j_lcmp {X : Cx} {l : Launch} {nL : Nat} {D : Dm} {cc : ByteArray} {own : String} {dep : Nat} {ret : Option FieldType} {σ : Mm} {pc : Nat} {ls : List (Nat × Value)} {st : List Value} {Q : State → Prop} (F : Fx X l nL D cc own dep ret) {x y : Int64} (d : decode cc pc = .ok (.lcmp, 1)) (n : Nat) (hn : pc + 1 = n) (kk : JJ X nL D σ n ls (.int (lg_cmp x y) :: st) Q) : JJ X nL D σ pc ls (.long y :: .long x :: st) Q := by
  subst hn
  obtain ⟨p, l9, e, R, s, m, args, below, meth, c, cells, slots, A⟩ := X
  obtain ⟨rfl, hx, hb, hml, hown, hts, hK, hi, hNs, hA, hlk, hret, hfr, hlo, hce, hsl⟩ := F
  intro H locs lsA hP hS hl
  exact W.lcmp hx hb d (kk H locs lsA hP hS hl)
theorem j_i2l {X : Cx} {l : Launch} {nL : Nat} {D : Dm} {cc : ByteArray} {own : String} {dep : Nat} {ret : Option FieldType} {σ : Mm} {pc : Nat} {ls : List (Nat × Value)} {st : List Value} {Q : State → Prop} (F : Fx X l nL D cc own dep ret) {x : Int32} (d : decode cc pc = .ok (.i2l, 1)) (n : Nat) (hn : pc + 1 = n) (kk : JJ X nL D σ n ls (.long x.toInt64 :: st) Q) : JJ X nL D σ pc ls (.int x :: st) Q := by
  subst hn
  obtain ⟨p, l9, e, R, s, m, args, below, meth, c, cells, slots, A⟩ := X
  obtain ⟨rfl, hx, hb, hml, hown, hts, hK, hi, hNs, hA, hlk, hret, hfr, hlo, hce, hsl⟩ := F
  intro H locs lsA hP hS hl
  exact lv_i2l hx hb d rfl (kk H locs lsA hP hS hl)
theorem j_dup {X : Cx} {l : Launch} {nL : Nat} {D : Dm} {cc : ByteArray} {own : String} {dep : Nat} {ret : Option FieldType} {σ : Mm} {pc : Nat} {ls : List (Nat × Value)} {st : List Value} {Q : State → Prop} (F : Fx X l nL D cc own dep ret) {v : Value} (d : decode cc pc = .ok (.dup, 1)) (n : Nat) (hn : pc + 1 = n) (hc : v.category = 1) (kk : JJ X nL D σ n ls (v :: v :: st) Q) : JJ X nL D σ pc ls (v :: st) Q := by
  subst hn
  obtain ⟨p, l9, e, R, s, m, args, below, meth, c, cells, slots, A⟩ := X
  obtain ⟨rfl, hx, hb, hml, hown, hts, hK, hi, hNs, hA, hlk, hret, hfr, hlo, hce, hsl⟩ := F
  intro H locs lsA hP hS hl
  exact lv_dup hx hb d hc (kk H locs lsA hP hS hl)
theorem j_dup2 {X : Cx} {l : Launch} {nL : Nat} {D : Dm} {cc : ByteArray} {own : String} {dep : Nat} {ret : Option FieldType} {σ : Mm} {pc : Nat} {ls : List (Nat × Value)} {st : List Value} {Q : State → Prop} (F : Fx X l nL D cc own dep ret) {v u : Value} (d : decode cc pc = .ok (.dup2, 1)) (n : Nat) (hn : pc + 1 = n) (hc : v.category = 1) (hc2 : u.category = 1) (kk : JJ X nL D σ n ls (v :: u :: v :: u :: st) Q) : JJ X nL D σ pc ls (v :: u :: st) Q := by
  subst hn
  obtain ⟨p, l9, e, R, s, m, args, below, meth, c, cells, slots, A⟩ := X
  obtain ⟨rfl, hx, hb, hml, hown, hts, hK, hi, hNs, hA, hlk, hret, hfr, hlo, hce, hsl⟩ := F
  intro H locs lsA hP hS hl
  exact lv_dup2_11 hx hb d hc hc2 (kk H locs lsA hP hS hl)
theorem j_pop {X : Cx} {l : Launch} {nL : Nat} {D : Dm} {cc : ByteArray} {own : String} {dep : Nat} {ret : Option FieldType} {σ : Mm} {pc : Nat} {ls : List (Nat × Value)} {st : List Value} {Q : State → Prop} (F : Fx X l nL D cc own dep ret) {v : Value} (d : decode cc pc = .ok (.pop, 1)) (n : Nat) (hn : pc + 1 = n) (hc : v.category = 1) (kk : JJ X nL D σ n ls st Q) : JJ X nL D σ pc ls (v :: st) Q := by
  subst hn
  obtain ⟨p, l9, e, R, s, m, args, below, meth, c, cells, slots, A⟩ := X
  obtain ⟨rfl, hx, hb, hml, hown, hts, hK, hi, hNs, hA, hlk, hret, hfr, hlo, hce, hsl⟩ := F
  intro H locs lsA hP hS hl
  exact lv_pop hx hb d hc (kk H locs lsA hP hS hl)
theorem j_goto {X : Cx} {l : Launch} {nL : Nat} {D : Dm} {cc : ByteArray} {own : String} {dep : Nat} {ret : Option FieldType} {σ : Mm} {pc : Nat} {ls : List (Nat × Value)} {st : List Value} {Q : State → Prop} (F : Fx X l nL D cc own dep ret) {off : Int} (d : decode cc pc = .ok (.goto off, 3)) (tgt : Nat) (ht : (pc : Int) + off = (tgt : Int)) (kk : JJ X nL D σ tgt ls st Q) : JJ X nL D σ pc ls st Q := by
  obtain ⟨p, l9, e, R, s, m, args, below, meth, c, cells, slots, A⟩ := X
  obtain ⟨rfl, hx, hb, hml, hown, hts, hK, hi, hNs, hA, hlk, hret, hfr, hlo, hce, hsl⟩ := F
  intro H locs lsA hP hS hl
  exact lv_goto hx hb d ht (kk H locs lsA hP hS hl)
theorem j_icmp_ge {X : Cx} {l : Launch} {nL : Nat} {D : Dm} {cc : ByteArray} {own : String} {dep : Nat} {ret : Option FieldType} {σ : Mm} {pc : Nat} {ls : List (Nat × Value)} {st : List Value} {Q : State → Prop} (F : Fx X l nL D cc own dep ret) {x y : Int32} {off : Int} (d : decode cc pc = .ok (.if_icmp .ge off, 3)) (tgt : Nat) (ht : (pc : Int) + off = (tgt : Int)) (n : Nat) (hn : pc + 3 = n) (kf : x < y → JJ X nL D σ n ls st Q) (kt : ¬ x < y → JJ X nL D σ tgt ls st Q) : JJ X nL D σ pc ls (.int y :: .int x :: st) Q := by
  subst hn
  obtain ⟨p, l9, e, R, s, m, args, below, meth, c, cells, slots, A⟩ := X
  obtain ⟨rfl, hx, hb, hml, hown, hts, hK, hi, hNs, hA, hlk, hret, hfr, hlo, hce, hsl⟩ := F
  intro H locs lsA hP hS hl
  exact lv_icmp_ge hx hb d ht (fun h => kt (Int32.not_lt.mpr h) H locs lsA hP hS hl) (fun h => kf (Int32.not_le.mp h) H locs lsA hP hS hl)
theorem j_icmp_lt {X : Cx} {l : Launch} {nL : Nat} {D : Dm} {cc : ByteArray} {own : String} {dep : Nat} {ret : Option FieldType} {σ : Mm} {pc : Nat} {ls : List (Nat × Value)} {st : List Value} {Q : State → Prop} (F : Fx X l nL D cc own dep ret) {x y : Int32} {off : Int} (d : decode cc pc = .ok (.if_icmp .lt off, 3)) (tgt : Nat) (ht : (pc : Int) + off = (tgt : Int)) (n : Nat) (hn : pc + 3 = n) (kf : y ≤ x → JJ X nL D σ n ls st Q) (kt : ¬ y ≤ x → JJ X nL D σ tgt ls st Q) : JJ X nL D σ pc ls (.int y :: .int x :: st) Q := by
  subst hn
  obtain ⟨p, l9, e, R, s, m, args, below, meth, c, cells, slots, A⟩ := X
  obtain ⟨rfl, hx, hb, hml, hown, hts, hK, hi, hNs, hA, hlk, hret, hfr, hlo, hce, hsl⟩ := F
  intro H locs lsA hP hS hl
  exact lv_icmp_lt hx hb d ht (fun h => kt (Int32.not_le.mpr h) H locs lsA hP hS hl) (fun h => kf (Int32.not_lt.mp h) H locs lsA hP hS hl)
theorem j_icmp_gt {X : Cx} {l : Launch} {nL : Nat} {D : Dm} {cc : ByteArray} {own : String} {dep : Nat} {ret : Option FieldType} {σ : Mm} {pc : Nat} {ls : List (Nat × Value)} {st : List Value} {Q : State → Prop} (F : Fx X l nL D cc own dep ret) {x y : Int32} {off : Int} (d : decode cc pc = .ok (.if_icmp .gt off, 3)) (tgt : Nat) (ht : (pc : Int) + off = (tgt : Int)) (n : Nat) (hn : pc + 3 = n) (kf : x ≤ y → JJ X nL D σ n ls st Q) (kt : ¬ x ≤ y → JJ X nL D σ tgt ls st Q) : JJ X nL D σ pc ls (.int y :: .int x :: st) Q := by
  subst hn
  obtain ⟨p, l9, e, R, s, m, args, below, meth, c, cells, slots, A⟩ := X
  obtain ⟨rfl, hx, hb, hml, hown, hts, hK, hi, hNs, hA, hlk, hret, hfr, hlo, hce, hsl⟩ := F
  intro H locs lsA hP hS hl
  exact lv_icmp_gt hx hb d ht (fun h => kt (Int32.not_le.mpr h) H locs lsA hP hS hl) (fun h => kf (Int32.not_lt.mp h) H locs lsA hP hS hl)
theorem j_icmp_le {X : Cx} {l : Launch} {nL : Nat} {D : Dm} {cc : ByteArray} {own : String} {dep : Nat} {ret : Option FieldType} {σ : Mm} {pc : Nat} {ls : List (Nat × Value)} {st : List Value} {Q : State → Prop} (F : Fx X l nL D cc own dep ret) {x y : Int32} {off : Int} (d : decode cc pc = .ok (.if_icmp .le off, 3)) (tgt : Nat) (ht : (pc : Int) + off = (tgt : Int)) (n : Nat) (hn : pc + 3 = n) (kf : y < x → JJ X nL D σ n ls st Q) (kt : ¬ y < x → JJ X nL D σ tgt ls st Q) : JJ X nL D σ pc ls (.int y :: .int x :: st) Q := by
  subst hn
  obtain ⟨p, l9, e, R, s, m, args, below, meth, c, cells, slots, A⟩ := X
  obtain ⟨rfl, hx, hb, hml, hown, hts, hK, hi, hNs, hA, hlk, hret, hfr, hlo, hce, hsl⟩ := F
  intro H locs lsA hP hS hl
  exact lv_icmp_le hx hb d ht (fun h => kt (Int32.not_lt.mpr h) H locs lsA hP hS hl) (fun h => kf (Int32.not_le.mp h) H locs lsA hP hS hl)
theorem j_icmp_eq {X : Cx} {l : Launch} {nL : Nat} {D : Dm} {cc : ByteArray} {own : String} {dep : Nat} {ret : Option FieldType} {σ : Mm} {pc : Nat} {ls : List (Nat × Value)} {st : List Value} {Q : State → Prop} (F : Fx X l nL D cc own dep ret) {x y : Int32} {off : Int} (d : decode cc pc = .ok (.if_icmp .eq off, 3)) (tgt : Nat) (ht : (pc : Int) + off = (tgt : Int)) (n : Nat) (hn : pc + 3 = n) (kf : ¬ x = y → JJ X nL D σ n ls st Q) (kt : x = y → JJ X nL D σ tgt ls st Q) : JJ X nL D σ pc ls (.int y :: .int x :: st) Q := by
  subst hn
  obtain ⟨p, l9, e, R, s, m, args, below, meth, c, cells, slots, A⟩ := X
  obtain ⟨rfl, hx, hb, hml, hown, hts, hK, hi, hNs, hA, hlk, hret, hfr, hlo, hce, hsl⟩ := F
  intro H locs lsA hP hS hl
  exact lv_icmp_eq hx hb d ht (fun h => kt h H locs lsA hP hS hl) (fun h => kf h H locs lsA hP hS hl)
theorem j_icmp_ne {X : Cx} {l : Launch} {nL : Nat} {D : Dm} {cc : ByteArray} {own : String} {dep : Nat} {ret : Option FieldType} {σ : Mm} {pc : Nat} {ls : List (Nat × Value)} {st : List Value} {Q : State → Prop} (F : Fx X l nL D cc own dep ret) {x y : Int32} {off : Int} (d : decode cc pc = .ok (.if_icmp .ne off, 3)) (tgt : Nat) (ht : (pc : Int) + off = (tgt : Int)) (n : Nat) (hn : pc + 3 = n) (kf : x = y → JJ X nL D σ n ls st Q) (kt : ¬ x = y → JJ X nL D σ tgt ls st Q) : JJ X nL D σ pc ls (.int y :: .int x :: st) Q := by
  subst hn
  obtain ⟨p, l9, e, R, s, m, args, below, meth, c, cells, slots, A⟩ := X
  obtain ⟨rfl, hx, hb, hml, hown, hts, hK, hi, hNs, hA, hlk, hret, hfr, hlo, hce, hsl⟩ := F
  intro H locs lsA hP hS hl
  exact lv_icmp_ne hx hb d ht (fun h => kt h H locs lsA hP hS hl) (fun h => kf h H locs lsA hP hS hl)
theorem j_if_eq {X : Cx} {l : Launch} {nL : Nat} {D : Dm} {cc : ByteArray} {own : String} {dep : Nat} {ret : Option FieldType} {σ : Mm} {pc : Nat} {ls : List (Nat × Value)} {st : List Value} {Q : State → Prop} (F : Fx X l nL D cc own dep ret) {x : Int32} {off : Int} (d : decode cc pc = .ok (.ifCond .eq off, 3)) (tgt : Nat) (ht : (pc : Int) + off = (tgt : Int)) (n : Nat) (hn : pc + 3 = n) (kf : ¬ x = 0 → JJ X nL D σ n ls st Q) (kt : x = 0 → JJ X nL D σ tgt ls st Q) : JJ X nL D σ pc ls (.int x :: st) Q := by
  subst hn
  obtain ⟨p, l9, e, R, s, m, args, below, meth, c, cells, slots, A⟩ := X
  obtain ⟨rfl, hx, hb, hml, hown, hts, hK, hi, hNs, hA, hlk, hret, hfr, hlo, hce, hsl⟩ := F
  intro H locs lsA hP hS hl
  exact lv_if_eq hx hb d ht (fun h => kt h H locs lsA hP hS hl) (fun h => kf h H locs lsA hP hS hl)
theorem j_if_ne {X : Cx} {l : Launch} {nL : Nat} {D : Dm} {cc : ByteArray} {own : String} {dep : Nat} {ret : Option FieldType} {σ : Mm} {pc : Nat} {ls : List (Nat × Value)} {st : List Value} {Q : State → Prop} (F : Fx X l nL D cc own dep ret) {x : Int32} {off : Int} (d : decode cc pc = .ok (.ifCond .ne off, 3)) (tgt : Nat) (ht : (pc : Int) + off = (tgt : Int)) (n : Nat) (hn : pc + 3 = n) (kf : x = 0 → JJ X nL D σ n ls st Q) (kt : ¬ x = 0 → JJ X nL D σ tgt ls st Q) : JJ X nL D σ pc ls (.int x :: st) Q := by
  subst hn
  obtain ⟨p, l9, e, R, s, m, args, below, meth, c, cells, slots, A⟩ := X
  obtain ⟨rfl, hx, hb, hml, hown, hts, hK, hi, hNs, hA, hlk, hret, hfr, hlo, hce, hsl⟩ := F
  intro H locs lsA hP hS hl
  exact lv_if_ne hx hb d ht (fun h => kt h H locs lsA hP hS hl) (fun h => kf h H locs lsA hP hS hl)
theorem j_if_lt {X : Cx} {l : Launch} {nL : Nat} {D : Dm} {cc : ByteArray} {own : String} {dep : Nat} {ret : Option FieldType} {σ : Mm} {pc : Nat} {ls : List (Nat × Value)} {st : List Value} {Q : State → Prop} (F : Fx X l nL D cc own dep ret) {x : Int32} {off : Int} (d : decode cc pc = .ok (.ifCond .lt off, 3)) (tgt : Nat) (ht : (pc : Int) + off = (tgt : Int)) (n : Nat) (hn : pc + 3 = n) (kf : 0 ≤ x → JJ X nL D σ n ls st Q) (kt : ¬ 0 ≤ x → JJ X nL D σ tgt ls st Q) : JJ X nL D σ pc ls (.int x :: st) Q := by
  subst hn
  obtain ⟨p, l9, e, R, s, m, args, below, meth, c, cells, slots, A⟩ := X
  obtain ⟨rfl, hx, hb, hml, hown, hts, hK, hi, hNs, hA, hlk, hret, hfr, hlo, hce, hsl⟩ := F
  intro H locs lsA hP hS hl
  exact lv_if_lt hx hb d ht (fun h => kt (Int32.not_le.mpr h) H locs lsA hP hS hl) (fun h => kf (Int32.not_lt.mp h) H locs lsA hP hS hl)
theorem j_if_ge {X : Cx} {l : Launch} {nL : Nat} {D : Dm} {cc : ByteArray} {own : String} {dep : Nat} {ret : Option FieldType} {σ : Mm} {pc : Nat} {ls : List (Nat × Value)} {st : List Value} {Q : State → Prop} (F : Fx X l nL D cc own dep ret) {x : Int32} {off : Int} (d : decode cc pc = .ok (.ifCond .ge off, 3)) (tgt : Nat) (ht : (pc : Int) + off = (tgt : Int)) (n : Nat) (hn : pc + 3 = n) (kf : x < 0 → JJ X nL D σ n ls st Q) (kt : ¬ x < 0 → JJ X nL D σ tgt ls st Q) : JJ X nL D σ pc ls (.int x :: st) Q := by
  subst hn
  obtain ⟨p, l9, e, R, s, m, args, below, meth, c, cells, slots, A⟩ := X
  obtain ⟨rfl, hx, hb, hml, hown, hts, hK, hi, hNs, hA, hlk, hret, hfr, hlo, hce, hsl⟩ := F
  intro H locs lsA hP hS hl
  exact lv_if_ge hx hb d ht (fun h => kt (Int32.not_lt.mpr h) H locs lsA hP hS hl) (fun h => kf (Int32.not_le.mp h) H locs lsA hP hS hl)
theorem j_if_gt {X : Cx} {l : Launch} {nL : Nat} {D : Dm} {cc : ByteArray} {own : String} {dep : Nat} {ret : Option FieldType} {σ : Mm} {pc : Nat} {ls : List (Nat × Value)} {st : List Value} {Q : State → Prop} (F : Fx X l nL D cc own dep ret) {x : Int32} {off : Int} (d : decode cc pc = .ok (.ifCond .gt off, 3)) (tgt : Nat) (ht : (pc : Int) + off = (tgt : Int)) (n : Nat) (hn : pc + 3 = n) (kf : x ≤ 0 → JJ X nL D σ n ls st Q) (kt : ¬ x ≤ 0 → JJ X nL D σ tgt ls st Q) : JJ X nL D σ pc ls (.int x :: st) Q := by
  subst hn
  obtain ⟨p, l9, e, R, s, m, args, below, meth, c, cells, slots, A⟩ := X
  obtain ⟨rfl, hx, hb, hml, hown, hts, hK, hi, hNs, hA, hlk, hret, hfr, hlo, hce, hsl⟩ := F
  intro H locs lsA hP hS hl
  exact lv_if_gt hx hb d ht (fun h => kt (Int32.not_le.mpr h) H locs lsA hP hS hl) (fun h => kf (Int32.not_lt.mp h) H locs lsA hP hS hl)
theorem j_if_le {X : Cx} {l : Launch} {nL : Nat} {D : Dm} {cc : ByteArray} {own : String} {dep : Nat} {ret : Option FieldType} {σ : Mm} {pc : Nat} {ls : List (Nat × Value)} {st : List Value} {Q : State → Prop} (F : Fx X l nL D cc own dep ret) {x : Int32} {off : Int} (d : decode cc pc = .ok (.ifCond .le off, 3)) (tgt : Nat) (ht : (pc : Int) + off = (tgt : Int)) (n : Nat) (hn : pc + 3 = n) (kf : 0 < x → JJ X nL D σ n ls st Q) (kt : ¬ 0 < x → JJ X nL D σ tgt ls st Q) : JJ X nL D σ pc ls (.int x :: st) Q := by
  subst hn
  obtain ⟨p, l9, e, R, s, m, args, below, meth, c, cells, slots, A⟩ := X
  obtain ⟨rfl, hx, hb, hml, hown, hts, hK, hi, hNs, hA, hlk, hret, hfr, hlo, hce, hsl⟩ := F
  intro H locs lsA hP hS hl
  exact lv_if_le hx hb d ht (fun h => kt (Int32.not_lt.mpr h) H locs lsA hP hS hl) (fun h => kf (Int32.not_le.mp h) H locs lsA hP hS hl)
theorem bi_0 {b : Bool} : bi b = 0 ↔ ¬ b = true := by cases b <;> decide
theorem bi_1 {b : Bool} : ¬ bi b = 0 ↔ b = true := by cases b <;> decide
theorem bi_t : bi true = 1 := rfl
theorem bi_f : bi false = 0 := rfl
theorem j_ifb_eq {X : Cx} {l : Launch} {nL : Nat} {D : Dm} {cc : ByteArray} {own : String} {dep : Nat} {ret : Option FieldType} {σ : Mm} {pc : Nat} {ls : List (Nat × Value)} {st : List Value} {Q : State → Prop} (F : Fx X l nL D cc own dep ret) {b : Bool} {off : Int} (d : decode cc pc = .ok (.ifCond .eq off, 3)) (tgt : Nat) (ht : (pc : Int) + off = (tgt : Int)) (n : Nat) (hn : pc + 3 = n) (kf : b = true → JJ X nL D σ n ls st Q) (kt : ¬ b = true → JJ X nL D σ tgt ls st Q) : JJ X nL D σ pc ls (.int (bi b) :: st) Q := by
  subst hn
  obtain ⟨p, l9, e, R, s, m, args, below, meth, c, cells, slots, A⟩ := X
  obtain ⟨rfl, hx, hb, hml, hown, hts, hK, hi, hNs, hA, hlk, hret, hfr, hlo, hce, hsl⟩ := F
  intro H locs lsA hP hS hl
  exact lv_if_eq hx hb d ht (fun h => kt (bi_0.mp h) H locs lsA hP hS hl) (fun h => kf (bi_1.mp h) H locs lsA hP hS hl)
theorem j_ifb_ne {X : Cx} {l : Launch} {nL : Nat} {D : Dm} {cc : ByteArray} {own : String} {dep : Nat} {ret : Option FieldType} {σ : Mm} {pc : Nat} {ls : List (Nat × Value)} {st : List Value} {Q : State → Prop} (F : Fx X l nL D cc own dep ret) {b : Bool} {off : Int} (d : decode cc pc = .ok (.ifCond .ne off, 3)) (tgt : Nat) (ht : (pc : Int) + off = (tgt : Int)) (n : Nat) (hn : pc + 3 = n) (kf : ¬ b = true → JJ X nL D σ n ls st Q) (kt : b = true → JJ X nL D σ tgt ls st Q) : JJ X nL D σ pc ls (.int (bi b) :: st) Q := by
  subst hn
  obtain ⟨p, l9, e, R, s, m, args, below, meth, c, cells, slots, A⟩ := X
  obtain ⟨rfl, hx, hb, hml, hown, hts, hK, hi, hNs, hA, hlk, hret, hfr, hlo, hce, hsl⟩ := F
  intro H locs lsA hP hS hl
  exact lv_if_ne hx hb d ht (fun h => kt (bi_1.mp h) H locs lsA hP hS hl) (fun h => kf (bi_0.mp h) H locs lsA hP hS hl)
theorem lc_lt {x y : Int64} : lg_cmp x y < 0 ↔ x < y := by
  unfold lg_cmp
  by_cases h : x > y
  · rw [if_pos h]
    constructor
    · intro h2; exact absurd h2 (by decide)
    · intro h2; exact absurd h2 (Int64.not_lt.mpr (Int64.le_of_lt h))
  · rw [if_neg h]
    by_cases h3 : x = y
    · rw [if_pos h3]
      constructor
      · intro h2; exact absurd h2 (by decide)
      · intro h2; rw [h3] at h2; exact absurd h2 (Int64.lt_irrefl)
    · rw [if_neg h3]
      constructor
      · intro _; exact Int64.lt_of_le_of_ne (Int64.not_lt.mp h) h3
      · intro _; decide
theorem lc_gt {x y : Int64} : 0 < lg_cmp x y ↔ y < x := by
  unfold lg_cmp
  by_cases h : x > y
  · rw [if_pos h]
    exact ⟨fun _ => h, fun _ => by decide⟩
  · rw [if_neg h]
    constructor
    · intro h2
      by_cases h3 : x = y
      · rw [if_pos h3] at h2; exact absurd h2 (by decide)
      · rw [if_neg h3] at h2; exact absurd h2 (by decide)
    · intro h2; exact absurd h2 h
theorem j_ifl_lt {X : Cx} {l : Launch} {nL : Nat} {D : Dm} {cc : ByteArray} {own : String} {dep : Nat} {ret : Option FieldType} {σ : Mm} {pc : Nat} {ls : List (Nat × Value)} {st : List Value} {Q : State → Prop} (F : Fx X l nL D cc own dep ret) {x y : Int64} {off : Int} (d : decode cc pc = .ok (.ifCond .lt off, 3)) (tgt : Nat) (ht : (pc : Int) + off = (tgt : Int)) (n : Nat) (hn : pc + 3 = n) (kf : y ≤ x → JJ X nL D σ n ls st Q) (kt : ¬ y ≤ x → JJ X nL D σ tgt ls st Q) : JJ X nL D σ pc ls (.int (lg_cmp x y) :: st) Q := by
  subst hn
  obtain ⟨p, l9, e, R, s, m, args, below, meth, c, cells, slots, A⟩ := X
  obtain ⟨rfl, hx, hb, hml, hown, hts, hK, hi, hNs, hA, hlk, hret, hfr, hlo, hce, hsl⟩ := F
  intro H locs lsA hP hS hl
  exact lv_if_lt hx hb d ht (fun h => kt (Int64.not_le.mpr (lc_lt.mp h)) H locs lsA hP hS hl) (fun h => kf (Int64.not_lt.mp (fun q => h (lc_lt.mpr q))) H locs lsA hP hS hl)
theorem j_ifl_gt {X : Cx} {l : Launch} {nL : Nat} {D : Dm} {cc : ByteArray} {own : String} {dep : Nat} {ret : Option FieldType} {σ : Mm} {pc : Nat} {ls : List (Nat × Value)} {st : List Value} {Q : State → Prop} (F : Fx X l nL D cc own dep ret) {x y : Int64} {off : Int} (d : decode cc pc = .ok (.ifCond .gt off, 3)) (tgt : Nat) (ht : (pc : Int) + off = (tgt : Int)) (n : Nat) (hn : pc + 3 = n) (kf : x ≤ y → JJ X nL D σ n ls st Q) (kt : ¬ x ≤ y → JJ X nL D σ tgt ls st Q) : JJ X nL D σ pc ls (.int (lg_cmp x y) :: st) Q := by
  subst hn
  obtain ⟨p, l9, e, R, s, m, args, below, meth, c, cells, slots, A⟩ := X
  obtain ⟨rfl, hx, hb, hml, hown, hts, hK, hi, hNs, hA, hlk, hret, hfr, hlo, hce, hsl⟩ := F
  intro H locs lsA hP hS hl
  exact lv_if_gt hx hb d ht (fun h => kt (Int64.not_le.mpr (lc_gt.mp h)) H locs lsA hP hS hl) (fun h => kf (Int64.not_lt.mp (fun q => h (lc_gt.mpr q))) H locs lsA hP hS hl)
theorem j_ifl_ge {X : Cx} {l : Launch} {nL : Nat} {D : Dm} {cc : ByteArray} {own : String} {dep : Nat} {ret : Option FieldType} {σ : Mm} {pc : Nat} {ls : List (Nat × Value)} {st : List Value} {Q : State → Prop} (F : Fx X l nL D cc own dep ret) {x y : Int64} {off : Int} (d : decode cc pc = .ok (.ifCond .ge off, 3)) (tgt : Nat) (ht : (pc : Int) + off = (tgt : Int)) (n : Nat) (hn : pc + 3 = n) (kf : x < y → JJ X nL D σ n ls st Q) (kt : ¬ x < y → JJ X nL D σ tgt ls st Q) : JJ X nL D σ pc ls (.int (lg_cmp x y) :: st) Q := by
  subst hn
  obtain ⟨p, l9, e, R, s, m, args, below, meth, c, cells, slots, A⟩ := X
  obtain ⟨rfl, hx, hb, hml, hown, hts, hK, hi, hNs, hA, hlk, hret, hfr, hlo, hce, hsl⟩ := F
  intro H locs lsA hP hS hl
  exact lv_if_ge hx hb d ht (fun h => kt (fun q => Int32.not_lt.mpr h (lc_lt.mpr q)) H locs lsA hP hS hl) (fun h => kf (lc_lt.mp (Int32.not_le.mp h)) H locs lsA hP hS hl)
theorem j_nonnull {X : Cx} {l : Launch} {nL : Nat} {D : Dm} {cc : ByteArray} {own : String} {dep : Nat} {ret : Option FieldType} {σ : Mm} {pc : Nat} {ls : List (Nat × Value)} {st : List Value} {Q : State → Prop} (F : Fx X l nL D cc own dep ret) {x : Nat} {off : Int} (d : decode cc pc = .ok (.ifnonnull off, 3)) (tgt : Nat) (ht : (pc : Int) + off = (tgt : Int)) (kk : JJ X nL D σ tgt ls st Q) : JJ X nL D σ pc ls (.ref x :: st) Q := by
  obtain ⟨p, l9, e, R, s, m, args, below, meth, c, cells, slots, A⟩ := X
  obtain ⟨rfl, hx, hb, hml, hown, hts, hK, hi, hNs, hA, hlk, hret, hfr, hlo, hce, hsl⟩ := F
  intro H locs lsA hP hS hl
  exact lv_ifnonnull hx hb d ht (kk H locs lsA hP hS hl)
theorem j_null {X : Cx} {l : Launch} {nL : Nat} {D : Dm} {cc : ByteArray} {own : String} {dep : Nat} {ret : Option FieldType} {σ : Mm} {pc : Nat} {ls : List (Nat × Value)} {st : List Value} {Q : State → Prop} (F : Fx X l nL D cc own dep ret)  (d : decode cc pc = .ok (.aconst_null, 1)) (n : Nat) (hn : pc + 1 = n) (kk : JJ X nL D σ n ls (.null :: st) Q) : JJ X nL D σ pc ls st Q := by
  subst hn
  obtain ⟨p, l9, e, R, s, m, args, below, meth, c, cells, slots, A⟩ := X
  obtain ⟨rfl, hx, hb, hml, hown, hts, hK, hi, hNs, hA, hlk, hret, hfr, hlo, hce, hsl⟩ := F
  intro H locs lsA hP hS hl
  exact lv_null hx hb d (kk H locs lsA hP hS hl)
theorem j_get {X : Cx} {l : Launch} {nL : Nat} {D : Dm} {cc : ByteArray} {own : String} {dep : Nat} {ret : Option FieldType} {σ : Mm} {pc : Nat} {ls : List (Nat × Value)} {st : List Value} {Q : State → Prop} (F : Fx X l nL D cc own dep ret) {C : String} {T : u_T} {N ci index j k : Nat} {fs : List Value} {v : Value} (d : decode cc pc = .ok (.getfield index, 3)) (n : Nat) (hn : pc + 3 = n) (hin : ∀ w ∈ u_ws C T N, w ∈ lw_ok) (hc : vwCl[ci]? = some (C, T, N)) (hk : k < 89) (hs : shp D.2.1 D.2.2 k (σ.1 k) (σ.2 k) = .inr (ci, fs)) (hj : j < N) (hl9 : Cond.fieldLink own index (T j).1 (T j).2.1 (T j).2.2.1 ∈ lw_ok) (hv : fs[j]? = some v) (kk : JJ X nL D σ n ls (v :: st) Q) : JJ X nL D σ pc ls (.ref (D.2.1 k) :: st) Q := by
  subst hn
  obtain ⟨p, l9, e, R, s, m, args, below, meth, c, cells, slots, A⟩ := X
  obtain ⟨rfl, hx, hb, hml, hown, hts, hK, hi, hNs, hA, hlk, hret, hfr, hlo, hce, hsl⟩ := F
  intro H locs lsA hP hS hl
  exact va_get hx hb hts hin hown hK hP k ((cw_get hk).trans (by rw [hs])) hc j hj (hts _ hl9) (fun _ h => h) hv d (kk H locs lsA hP hS hl)
theorem j_put {X : Cx} {l : Launch} {nL : Nat} {D : Dm} {cc : ByteArray} {own : String} {dep : Nat} {ret : Option FieldType} {σ : Mm} {pc : Nat} {ls : List (Nat × Value)} {st : List Value} {Q : State → Prop} (F : Fx X l nL D cc own dep ret) {C : String} {T : u_T} {N ci index j k : Nat} {fs : List Value} {v : Int32} (d : decode cc pc = .ok (.putfield index, 3)) (n : Nat) (hn : pc + 3 = n) (hin : ∀ w ∈ u_ws C T N, w ∈ lw_ok) (ty0 : Nat → FieldType) (hty : ∀ k, k < N → parseFieldDescriptor (T k).2.2.1 = some (ty0 k)) (hnm : ∀ a, a < N → ∀ b, b < N → a ≠ b → (T a).2.1 ≠ (T b).2.1) (hc : vwCl[ci]? = some (C, T, N)) (hk : k < 89) (hs : shp D.2.1 D.2.2 k (σ.1 k) (σ.2 k) = .inr (ci, fs)) (hs2 : shp D.2.1 D.2.2 k (upd (σ.1 k) j v) (σ.2 k) = .inr (ci, fs.set j (.int v))) (hj : j < N) (hl9 : Cond.fieldLink own index (T j).1 (T j).2.1 (T j).2.2.1 ∈ lw_ok) (hfin : (T j).2.2.2 = false) (hd : parseFieldDescriptor (T j).2.2.1 = some .int) (hlen : j < fs.length) (kk : JJ X nL D (up σ k j v) n ls st Q) : JJ X nL D σ pc ls (.int v :: .ref (D.2.1 k) :: st) Q := by
  subst hn
  obtain ⟨p, l9, e, R, s, m, args, below, meth, c, cells, slots, A⟩ := X
  obtain ⟨rfl, hx, hb, hml, hown, hts, hK, hi, hNs, hA, hlk, hret, hfr, hlo, hce, hsl⟩ := F
  intro H locs lsA hP hS hl
  refine va_put hx hb hts hin ty0 hty hnm hown hK hP (cw_D hi hA) hS k ((cw_get hk).trans (by rw [hs])) hc j hj (hts _ hl9) (fun _ h => h) hfin hd (vp_nar_int v) rfl hlen d (fun H1 locs1 hP1 _ hS1 => ?_)
  have e : ((D.2.1 k, (Sum.inr (ci, fs.set j (.int v)) : va_E))) = (D.2.1 k, shp D.2.1 D.2.2 k ((up σ k j v).1 k) ((up σ k j v).2 k)) := by rw [up_upd]; exact congrArg (fun x => (D.2.1 k, x)) hs2.symm
  rw [e, cw_set hk (fun j9 h9 => up_ne h9) (fun _ _ => rfl)] at hP1
  exact kk H1 locs1 lsA hP1 hS1 hl
theorem j_putL {X : Cx} {l : Launch} {nL : Nat} {D : Dm} {cc : ByteArray} {own : String} {dep : Nat} {ret : Option FieldType} {σ : Mm} {pc : Nat} {ls : List (Nat × Value)} {st : List Value} {Q : State → Prop} (F : Fx X l nL D cc own dep ret) {C : String} {T : u_T} {N ci index j k : Nat} {fs : List Value} {v : Int64} (d : decode cc pc = .ok (.putfield index, 3)) (n : Nat) (hn : pc + 3 = n) (hin : ∀ w ∈ u_ws C T N, w ∈ lw_ok) (ty0 : Nat → FieldType) (hty : ∀ k, k < N → parseFieldDescriptor (T k).2.2.1 = some (ty0 k)) (hnm : ∀ a, a < N → ∀ b, b < N → a ≠ b → (T a).2.1 ≠ (T b).2.1) (hc : vwCl[ci]? = some (C, T, N)) (hk : k < 89) (hs : shp D.2.1 D.2.2 k (σ.1 k) (σ.2 k) = .inr (ci, fs)) (hs2 : shp D.2.1 D.2.2 k (σ.1 k) v = .inr (ci, fs.set j (.long v))) (hj : j < N) (hl9 : Cond.fieldLink own index (T j).1 (T j).2.1 (T j).2.2.1 ∈ lw_ok) (hfin : (T j).2.2.2 = false) (hd : parseFieldDescriptor (T j).2.2.1 = some .long) (hlen : j < fs.length) (kk : JJ X nL D (upL σ k v) n ls st Q) : JJ X nL D σ pc ls (.long v :: .ref (D.2.1 k) :: st) Q := by
  subst hn
  obtain ⟨p, l9, e, R, s, m, args, below, meth, c, cells, slots, A⟩ := X
  obtain ⟨rfl, hx, hb, hml, hown, hts, hK, hi, hNs, hA, hlk, hret, hfr, hlo, hce, hsl⟩ := F
  intro H locs lsA hP hS hl
  refine va_put hx hb hts hin ty0 hty hnm hown hK hP (cw_D hi hA) hS k ((cw_get hk).trans (by rw [hs])) hc j hj (hts _ hl9) (fun _ h => h) hfin hd rfl rfl hlen d (fun H1 locs1 hP1 _ hS1 => ?_)
  have e : ((D.2.1 k, (Sum.inr (ci, fs.set j (.long v)) : va_E))) = (D.2.1 k, shp D.2.1 D.2.2 k ((upL σ k v).1 k) ((upL σ k v).2 k)) := by rw [upL_eq]; exact congrArg (fun x => (D.2.1 k, x)) hs2.symm
  rw [e, cw_set (σ := σ) (σ' := upL σ k v) hk (fun j9 h9 => rfl) (fun j9 h9 => upL_ne h9)] at hP1
  exact kk H1 locs1 lsA hP1 hS1 hl
theorem j_iald {X : Cx} {l : Launch} {nL : Nat} {D : Dm} {cc : ByteArray} {own : String} {dep : Nat} {ret : Option FieldType} {σ : Mm} {pc : Nat} {ls : List (Nat × Value)} {st : List Value} {Q : State → Prop} (F : Fx X l nL D cc own dep ret) {k N : Nat} {i : Int32} (d : decode cc pc = .ok (.iaload, 1)) (n : Nat) (hn : pc + 1 = n) (ha : iaP k N) (hin : vp_in i N) (kk : JJ X nL D σ n ls (.int (σ.1 k i.toNatClampNeg) :: st) Q) : JJ X nL D σ pc ls (.int i :: .ref (D.2.1 k) :: st) Q := by
  subst hn
  obtain ⟨p, l9, e, R, s, m, args, below, meth, c, cells, slots, A⟩ := X
  obtain ⟨rfl, hx, hb, hml, hown, hts, hK, hi, hNs, hA, hlk, hret, hfr, hlo, hce, hsl⟩ := F
  intro H locs lsA hP hS hl
  exact va_iald hx hb hK hP k 0 ((cw_get ha.1).trans (by rw [ha.2.2])) rfl hin d (kk H locs lsA hP hS hl)
theorem j_iast {X : Cx} {l : Launch} {nL : Nat} {D : Dm} {cc : ByteArray} {own : String} {dep : Nat} {ret : Option FieldType} {σ : Mm} {pc : Nat} {ls : List (Nat × Value)} {st : List Value} {Q : State → Prop} (F : Fx X l nL D cc own dep ret) {k N : Nat} {i v : Int32} (d : decode cc pc = .ok (.iastore, 1)) (n : Nat) (hn : pc + 1 = n) (ha : iaP k N) (hin : vp_in i N) (kk : JJ X nL D (up σ k i.toNatClampNeg v) n ls st Q) : JJ X nL D σ pc ls (.int v :: .int i :: .ref (D.2.1 k) :: st) Q := by
  subst hn
  obtain ⟨p, l9, e, R, s, m, args, below, meth, c, cells, slots, A⟩ := X
  obtain ⟨rfl, hx, hb, hml, hown, hts, hK, hi, hNs, hA, hlk, hret, hfr, hlo, hce, hsl⟩ := F
  intro H locs lsA hP hS hl
  refine va_iast hx hb hK hP (cw_D hi hA) hS k 0 ((cw_get ha.1).trans (by rw [ha.2.2])) rfl hin d (fun H1 locs1 hP1 _ hS1 => ?_)
  have e : ((D.2.1 k, (Sum.inl (D.2.2 0, N, Sum.inl (upd (σ.1 k) i.toNatClampNeg v)) : va_E))) = (D.2.1 k, shp D.2.1 D.2.2 k ((up σ k i.toNatClampNeg v).1 k) ((up σ k i.toNatClampNeg v).2 k)) := by rw [ha.2.2, up_upd]
  rw [e, cw_set ha.1 (fun j9 h9 => up_ne h9) (fun _ _ => rfl)] at hP1
  exact kk H1 locs1 lsA hP1 hS1 hl
theorem j_alen {X : Cx} {l : Launch} {nL : Nat} {D : Dm} {cc : ByteArray} {own : String} {dep : Nat} {ret : Option FieldType} {σ : Mm} {pc : Nat} {ls : List (Nat × Value)} {st : List Value} {Q : State → Prop} (F : Fx X l nL D cc own dep ret) {k N : Nat} (d : decode cc pc = .ok (.arraylength, 1)) (n : Nat) (hn : pc + 1 = n) (ha : iaP k N) (kk : JJ X nL D σ n ls (.int (nI N) :: st) Q) : JJ X nL D σ pc ls (.ref (D.2.1 k) :: st) Q := by
  subst hn
  obtain ⟨p, l9, e, R, s, m, args, below, meth, c, cells, slots, A⟩ := X
  obtain ⟨rfl, hx, hb, hml, hown, hts, hK, hi, hNs, hA, hlk, hret, hfr, hlo, hce, hsl⟩ := F
  intro H locs lsA hP hS hl
  exact va_alen (x := (N, .inl (σ.1 k))) hx hb hK hP k 0 ((cw_get ha.1).trans (by rw [ha.2.2])) rfl rfl d (kk H locs lsA hP hS hl)
theorem j_zald {X : Cx} {l : Launch} {nL : Nat} {D : Dm} {cc : ByteArray} {own : String} {dep : Nat} {ret : Option FieldType} {σ : Mm} {pc : Nat} {ls : List (Nat × Value)} {st : List Value} {Q : State → Prop} (F : Fx X l nL D cc own dep ret) {k N : Nat} {i : Int32} (d : decode cc pc = .ok (.baload, 1)) (n : Nat) (hn : pc + 1 = n) (hk : k < 89) (ha : ∀ f g, shp D.2.1 D.2.2 k f g = .inl (D.2.2 1, (N, .inl f))) (hin : vp_in i N) (kk : JJ X nL D σ n ls (.int (σ.1 k i.toNatClampNeg) :: st) Q) : JJ X nL D σ pc ls (.int i :: .ref (D.2.1 k) :: st) Q := by
  subst hn
  obtain ⟨p, l9, e, R, s, m, args, below, meth, c, cells, slots, A⟩ := X
  obtain ⟨rfl, hx, hb, hml, hown, hts, hK, hi, hNs, hA, hlk, hret, hfr, hlo, hce, hsl⟩ := F
  intro H locs lsA hP hS hl
  exact va_zald hx hb hK hP k 1 ((cw_get hk).trans (by rw [ha])) rfl hin d (kk H locs lsA hP hS hl)
theorem j_zast {X : Cx} {l : Launch} {nL : Nat} {D : Dm} {cc : ByteArray} {own : String} {dep : Nat} {ret : Option FieldType} {σ : Mm} {pc : Nat} {ls : List (Nat × Value)} {st : List Value} {Q : State → Prop} (F : Fx X l nL D cc own dep ret) {k N : Nat} {i v v' : Int32} (d : decode cc pc = .ok (.bastore, 1)) (n : Nat) (hn : pc + 1 = n) (hk : k < 89) (ha : ∀ f g, shp D.2.1 D.2.2 k f g = .inl (D.2.2 1, (N, .inl f))) (hin : vp_in i N) (hv : vp_nar .boolean v = v') (kk : JJ X nL D (up σ k i.toNatClampNeg v') n ls st Q) : JJ X nL D σ pc ls (.int v :: .int i :: .ref (D.2.1 k) :: st) Q := by
  subst hn
  subst hv
  obtain ⟨p, l9, e, R, s, m, args, below, meth, c, cells, slots, A⟩ := X
  obtain ⟨rfl, hx, hb, hml, hown, hts, hK, hi, hNs, hA, hlk, hret, hfr, hlo, hce, hsl⟩ := F
  intro H locs lsA hP hS hl
  refine va_zast hx hb hK hP (cw_D hi hA) hS k 1 ((cw_get hk).trans (by rw [ha])) rfl hin d (fun H1 locs1 hP1 _ hS1 => ?_)
  have e : ((D.2.1 k, (Sum.inl (D.2.2 1, N, Sum.inl (upd (σ.1 k) i.toNatClampNeg (vp_nar .boolean v))) : va_E))) = (D.2.1 k, shp D.2.1 D.2.2 k ((up σ k i.toNatClampNeg (vp_nar .boolean v)).1 k) ((up σ k i.toNatClampNeg (vp_nar .boolean v)).2 k)) := by rw [ha, up_upd]
  rw [e, cw_set hk (fun j9 h9 => up_ne h9) (fun _ _ => rfl)] at hP1
  exact kk H1 locs1 lsA hP1 hS1 hl
theorem j_qald {X : Cx} {l : Launch} {nL : Nat} {D : Dm} {cc : ByteArray} {own : String} {dep : Nat} {ret : Option FieldType} {σ : Mm} {pc : Nat} {ls : List (Nat × Value)} {st : List Value} {Q : State → Prop} (F : Fx X l nL D cc own dep ret) {k N : Nat} {i : Int32} {f : Nat → Option Nat} {a : Nat} (d : decode cc pc = .ok (.aaload, 1)) (n : Nat) (hn : pc + 1 = n) (hk : k < 89) (ha : shp D.2.1 D.2.2 k (σ.1 k) (σ.2 k) = .inl (D.2.2 2, (N, qs f))) (hin : vp_in i N) (hf : f i.toNatClampNeg = some a) (kk : JJ X nL D σ n ls (.ref a :: st) Q) : JJ X nL D σ pc ls (.int i :: .ref (D.2.1 k) :: st) Q := by
  subst hn
  obtain ⟨p, l9, e, R, s, m, args, below, meth, c, cells, slots, A⟩ := X
  obtain ⟨rfl, hx, hb, hml, hown, hts, hK, hi, hNs, hA, hlk, hret, hfr, hlo, hce, hsl⟩ := F
  intro H locs lsA hP hS hl
  refine va_aldq hx hb hK hP k 2 ((cw_get hk).trans (by rw [ha])) rfl hin d ?_
  rw [hf]
  exact kk H locs lsA hP hS hl
theorem j_qald2 {X : Cx} {l : Launch} {nL : Nat} {D : Dm} {cc : ByteArray} {own : String} {dep : Nat} {ret : Option FieldType} {σ : Mm} {pc : Nat} {ls : List (Nat × Value)} {st : List Value} {Q : State → Prop} (F : Fx X l nL D cc own dep ret) {k N : Nat} {i : Int32} {f : Nat → Option Nat} {a : Nat} (d : decode cc pc = .ok (.aaload, 1)) (n : Nat) (hn : pc + 1 = n) (hk : k < 89) (ha : shp D.2.1 D.2.2 k (σ.1 k) (σ.2 k) = .inl (D.2.2 3, (N, qs f))) (hin : vp_in i N) (hf : f i.toNatClampNeg = some a) (kk : JJ X nL D σ n ls (.ref a :: st) Q) : JJ X nL D σ pc ls (.int i :: .ref (D.2.1 k) :: st) Q := by
  subst hn
  obtain ⟨p, l9, e, R, s, m, args, below, meth, c, cells, slots, A⟩ := X
  obtain ⟨rfl, hx, hb, hml, hown, hts, hK, hi, hNs, hA, hlk, hret, hfr, hlo, hce, hsl⟩ := F
  intro H locs lsA hP hS hl
  have hlt : i.toNatClampNeg < N := Nat.not_le.mp fun q => hin (Or.inr q)
  have h9 := hP k _ ((cw_get hk).trans (by rw [ha]))
  refine W.aald (v := va_rf (f i.toNatClampNeg)) (ty := .array .int) hx hb h9 ((hK.2 3 _ rfl).1 N (fun j => va_rf (f j))) rfl (fun q => by cases q) (by show ¬ (i < 0 ∨ (arrV _ _ _).slots.size ≤ _); rw [arrV_size]; exact hin) (by show (arrV _ _ _).slots[_]? = _; rw [arrV_read _ _ hlt]) rfl rfl d ?_
  rw [hf]
  exact kk H locs lsA hP hS hl
theorem j_ret_i {X : Cx} {l : Launch} {nL : Nat} {D : Dm} {cc : ByteArray} {own : String} {dep : Nat} {ret : Option FieldType} {σ : Mm} {pc : Nat} {ls : List (Nat × Value)} (F : Fx X l nL D cc own dep ret) {x : Int32} {t : Option Value × Mm} (d : decode cc pc = .ok (.ireturn, 1)) (hr : ret = some .int) (h1 : t.1 = some (.int x)) (h2 : t.2 = σ) : JJ X nL D σ pc ls ([.int x]) (QQ X D t) := by
  obtain ⟨p, l9, e, R, s, m, args, below, meth, c, cells, slots, A⟩ := X
  obtain ⟨rfl, hx, hb, hml, hown, hts, hK, hi, hNs, hA, hlk, hret, hfr, hlo, hce, hsl⟩ := F
  intro H locs lsA hP hS hl
  subst hret
  exact W.iret hx hb hr (fun u hu hW => ⟨⟨by rw [h1], by rw [h2, hu]; exact hP, va_K.moved hW.alike hK⟩, hS.F hu⟩) hS.2.2 d hlk
theorem bi_nar (b : Bool) : narrow .boolean (.int (bi b)) = .int (bi b) := by cases b <;> rfl
theorem j_ret_b {X : Cx} {l : Launch} {nL : Nat} {D : Dm} {cc : ByteArray} {own : String} {dep : Nat} {ret : Option FieldType} {σ : Mm} {pc : Nat} {ls : List (Nat × Value)} (F : Fx X l nL D cc own dep ret) {b : Bool} {t : Option Value × Mm} (d : decode cc pc = .ok (.ireturn, 1)) (hr : ret = some .boolean) (h1 : t.1 = some (.int (bi b))) (h2 : t.2 = σ) : JJ X nL D σ pc ls ([.int (bi b)]) (QQ X D t) := by
  obtain ⟨p, l9, e, R, s, m, args, below, meth, c, cells, slots, A⟩ := X
  obtain ⟨rfl, hx, hb, hml, hown, hts, hK, hi, hNs, hA, hlk, hret, hfr, hlo, hce, hsl⟩ := F
  intro H locs lsA hP hS hl
  subst hret
  exact W.zret hx hb hr (bi_nar b) (fun u hu hW => ⟨⟨by rw [h1], by rw [h2, hu]; exact hP, va_K.moved hW.alike hK⟩, hS.F hu⟩) hS.2.2 d hlk
theorem j_ret_l {X : Cx} {l : Launch} {nL : Nat} {D : Dm} {cc : ByteArray} {own : String} {dep : Nat} {ret : Option FieldType} {σ : Mm} {pc : Nat} {ls : List (Nat × Value)} (F : Fx X l nL D cc own dep ret) {x : Int64} {t : Option Value × Mm} (d : decode cc pc = .ok (.lreturn, 1)) (hr : ret = some .long) (h1 : t.1 = some (.long x)) (h2 : t.2 = σ) : JJ X nL D σ pc ls ([.long x]) (QQ X D t) := by
  obtain ⟨p, l9, e, R, s, m, args, below, meth, c, cells, slots, A⟩ := X
  obtain ⟨rfl, hx, hb, hml, hown, hts, hK, hi, hNs, hA, hlk, hret, hfr, hlo, hce, hsl⟩ := F
  intro H locs lsA hP hS hl
  subst hret
  exact W.lret hx hb hr (fun u hu hW => ⟨⟨by rw [h1], by rw [h2, hu]; exact hP, va_K.moved hW.alike hK⟩, hS.F hu⟩) hS.2.2 d hlk
theorem j_ret_v {X : Cx} {l : Launch} {nL : Nat} {D : Dm} {cc : ByteArray} {own : String} {dep : Nat} {ret : Option FieldType} {σ : Mm} {pc : Nat} {ls : List (Nat × Value)} (F : Fx X l nL D cc own dep ret) {t : Option Value × Mm} (d : decode cc pc = .ok (.return_, 1)) (hr : ret = none) (h1 : t.1 = none) (h2 : t.2 = σ) : JJ X nL D σ pc ls [] (QQ X D t) := by
  obtain ⟨p, l9, e, R, s, m, args, below, meth, c, cells, slots, A⟩ := X
  obtain ⟨rfl, hx, hb, hml, hown, hts, hK, hi, hNs, hA, hlk, hret, hfr, hlo, hce, hsl⟩ := F
  intro H locs lsA hP hS hl
  subst hret
  exact W.vret hx hb hr (fun u hu hW => ⟨⟨by rw [h1], by rw [h2, hu]; exact hP, va_K.moved hW.alike hK⟩, hS.F hu⟩) hS.2.2 d hlk
theorem j_ret_a {X : Cx} {l : Launch} {nL : Nat} {D : Dm} {cc : ByteArray} {own : String} {dep : Nat} {ret : Option FieldType} {σ : Mm} {pc : Nat} {ls : List (Nat × Value)} (F : Fx X l nL D cc own dep ret) {x : Nat} {C : String} {t : Option Value × Mm} (d : decode cc pc = .ok (.areturn, 1)) (hr : ret = some (.object C)) (h1 : t.1 = some (.ref x)) (h2 : t.2 = σ) : JJ X nL D σ pc ls ([.ref x]) (QQ X D t) := by
  obtain ⟨p, l9, e, R, s, m, args, below, meth, c, cells, slots, A⟩ := X
  obtain ⟨rfl, hx, hb, hml, hown, hts, hK, hi, hNs, hA, hlk, hret, hfr, hlo, hce, hsl⟩ := F
  intro H locs lsA hP hS hl
  subst hret
  exact W.aret hx hb hr (Or.inl ⟨_, rfl⟩) (Or.inr ⟨_, rfl⟩) (fun u hu hW => ⟨⟨by rw [h1], by rw [h2, hu]; exact hP, va_K.moved hW.alike hK⟩, hS.F hu⟩) hS.2.2 d hlk
theorem wz_good {y : MethodName} {cc : ByteArray} {maxL : Nat} {ret : Option FieldType} (h : Cond.code y cc maxL ret ∈ lw_ok) : GoodIn lw_ok (wz y cc maxL ret) := by
  intro w hw
  rcases List.mem_cons.mp hw with rfl | hw
  · exact ⟨h, good_of_word (List.mem_filter.mp h).2⟩
  · exact ⟨hw, good_of_word (List.mem_filter.mp hw).2⟩
theorem Wd_blind {D : Dm} {σ : Mm} {as : List Value} : FrameBlind (va_Pc as (Wd D σ)) := fun a U g mk q => ⟨q.1, q.2.1, va_K.moved (u := U) (U := U.calling g mk a) (Vm.Alike.refl U.vm) q.2.2.1, q.2.2.2.1, fun x hx => va_Nw.same (by rfl) (by rfl) (q.2.2.2.2 x hx)⟩
theorem AA_in {D : Dm} {A : Nat → Prop} (hA : ∀ k, k < 89 → A (D.2.1 k)) : ∀ q, AA D q → A q := fun q ⟨k, h, e⟩ => by rw [e]; exact hA k h
section JRUN
variable {p : Program} {l : Launch} {e : Env} {R : Room} {s : State} {m : MethodId} {args : Array Value} {below : List Frame} {meth : Method} {c : Code} {H : Heap} {locs : List Loc} {cells slots : Nat} {Q : State → Prop}
theorem j_run {D : Dm} {A : Nat → Prop} {t : Option Value × Mm} {a : Array Value} {pc : Nat} {lsA : Array Slot} {rest st0 : List Value} (hr : va_Run p l e R s m args below meth c H locs cells slots 0 0 (F0 m pc lsA st0) rest (Qm D (AA D) t a) (AA D)) (hS : va_S A s.heap H locs) (hA : ∀ k, k < 89 → A (D.2.1 k))
    (kk : ∀ (H1 : Heap) (locs1 : List Loc), va_P D.1 vwCl (cw D t.2) H1 → va_S A s.heap H1 locs1 → W p l e R s m args below meth c H1 locs1 cells slots Q (F0 m (pc + 3) lsA (t.1.toList ++ rest))) : W p l e R s m args below meth c H locs cells slots Q (F0 m pc lsA st0) := by
  intro T hT X
  obtain ⟨v, st₀, u, T', L, h0, X', hL, e1, e2, ⟨⟨hv, hp, -⟩, hz, hk⟩, st⟩ := hr T hT X
  have ev : v = t.1 := by
    injection hv
  subst ev
  rw [h0] at hz hk
  have hAA := AA_in hA
  obtain ⟨t2, a1, b1⟩ := kk T'.heap (locs ++ L) (by rw [e1]; exact hp)
    ⟨Nat.le_trans hS.1 (by rw [e1]; exact hz), fun q h1 h2 => by rw [e1, hk q (Nat.lt_of_lt_of_le h1 hS.1) (fun z => h2 (hAA q z))]; exact hS.2.1 q h1 h2, fun q hq => by
      rcases List.mem_append.mp hq with h | h
      · exact hS.2.2 q h
      · exact hAA _ (hL q h)⟩ T' rfl X'
  exact ⟨t2, st t2 a1, b1⟩
end JRUN
/-- the sum of what stands below a call -/
abbrev catS (st : List Value) : Nat := (st.map fun v => v.category).sum
theorem jcb_of {R : Room} {s : State} {args : Array Value} {own : String} {index mx n9 d9 dep : Nat} {y : MethodName} {c9 : ByteArray} {r9 : Option FieldType} (hts : ∀ w ∈ lw_ok, w.before args s = true) (hc : Cond.code y c9 mx r9 ∈ lw_ok) (hini : Cond.initialized y.cls ∈ lw_ok) (hne : y.cls ≠ "java/lang/invoke/MethodHandle" ∧ y.cls ≠ "java/lang/invoke/VarHandle") (hl : Cond.methodLink own index y ∈ lw_ok) (hp9 : (parseMethodDescriptor y.desc).map (fun d => d.parameters.length) = some n9) (hdep : d9 < dep) (hmx : mx ≤ 45) (hfr : dep ≤ R.frames) (hlo : 64 * dep ≤ R.locals) : CallB R s args own index y c9 mx r9 (wz y c9 mx r9) (rmd d9) 0 0 n9 :=
  callB_of n9 hts (wz_good hc) rfl rfl rfl (hts _ hini) (hts _ hl) ⟨hne.1, hne.2, hp9⟩ ⟨Nat.le_trans hdep hfr, by show 8 + (mx + 11) + 64 * d9 ≤ R.locals; omega⟩
theorem jcn_of {R : Room} {s : State} {args : Array Value} {own host : String} {index mx n9 d9 dep : Nat} {y : MethodName} {c9 : ByteArray} {r9 : Option FieldType} (hts : ∀ w ∈ lw_ok, w.before args s = true) (hc : Cond.code y c9 mx r9 ∈ lw_ok) (hini : Cond.initialized y.cls ∈ lw_ok) (hne : y.cls ≠ "java/lang/invoke/MethodHandle" ∧ y.cls ≠ "java/lang/invoke/VarHandle") (hl : va_Nw (.methodLinkNest own index y host) s) (hp9 : (parseMethodDescriptor y.desc).map (fun d => d.parameters.length) = some n9) (hdep : d9 < dep) (hmx : mx ≤ 45) (hfr : dep ≤ R.frames) (hlo : 64 * dep ≤ R.locals) : va_CN R s args own index y host c9 mx r9 (wz y c9 mx r9) (rmd d9) 0 0 n9 :=
  va_cnB n9 hts (wz_good hc) rfl rfl rfl hl (hts _ hini) ⟨hne.1, hne.2, hp9⟩ ⟨Nat.le_trans hdep hfr, by show 8 + (mx + 11) + 64 * d9 ≤ R.locals; omega⟩
theorem j_callV {X : Cx} {l : Launch} {nL : Nat} {D : Dm} {cc : ByteArray} {own : String} {dep : Nat} {ret : Option FieldType} {σ : Mm} {pc : Nat} {ls : List (Nat × Value)} {st : List Value} {Q : State → Prop} (F : Fx X l nL D cc own dep ret) {y : MethodName} {c9 : ByteArray} {mx index n9 d9 : Nat} {r9 : Option FieldType} {as : List Value} {t : Option Value × Mm} {st9 : List Value} {k ci : Nat} {q9 : vw_C} {fs : List Value} (cv : jCV y c9 mx r9) (d : decode cc pc = .ok (.invokevirtual index, 3)) (n : Nat) (hn : pc + 3 = n) (hp9 : (parseMethodDescriptor y.desc).map (fun d => d.parameters.length) = some n9) (hlen : as.length = n9) (hdep : d9 < dep) (hmx : mx ≤ 45) (hst : catS st ≤ 8) (hst9 : as.reverse ++ .ref (D.2.1 k) :: st = st9) (hl9 : Cond.methodLink own index y ∈ lw_ok) (hc9 : vwCl[ci]? = some q9) (hq9 : q9.1 = y.cls) (hk : k < 89) (hs : shp D.2.1 D.2.2 k (σ.1 k) (σ.2 k) = .inr (ci, fs)) (hM : Ct l y c9 mx r9 d9 D (.ref (D.2.1 k) :: as) σ t) (kk : JJ X nL D t.2 n ls (t.1.toList ++ st) Q) : JJ X nL D σ pc ls st9 Q := by
  subst hn
  subst hst9
  obtain ⟨p, l9, e, R, s, m, args, below, meth, c, cells, slots, A⟩ := X
  obtain ⟨rfl, hx, hb, hml, hown, hts, hK, hi, hNs, hA, hlk, hret, hfr, hlo, hce, hsl⟩ := F
  intro H locs lsA hP hS hl
  obtain ⟨c1, c2, c3, c4, c5⟩ := cv
  have hrec := va_recv hK hP hc9 ((cw_get hk).trans (by rw [hs]))
  rw [hq9] at hrec
  exact j_run (va_runV (As := as) (rest := st) ⟨hx, hb, hml, hown, hts⟩ hM ⟨jcb_of hts c1 c4 c5 hl9 hp9 hdep hmx hfr hlo, hts _ c2, hts _ c3⟩ ⟨Wd_blind, hrec, fun U hU hW => ⟨rfl, by rw [hU]; exact hP, va_K.moved hW.alike hK, hi, hNs.warm hW⟩⟩ rfl hlen hl.1 rfl (lv_room hst) d ⟨hce, hsl⟩) hS hA (fun H1 locs1 hP1 hS1 => kk H1 locs1 lsA hP1 hS1 hl)
theorem j_callS {X : Cx} {l : Launch} {nL : Nat} {D : Dm} {cc : ByteArray} {own : String} {dep : Nat} {ret : Option FieldType} {σ : Mm} {pc : Nat} {ls : List (Nat × Value)} {st : List Value} {Q : State → Prop} (F : Fx X l nL D cc own dep ret) {y : MethodName} {c9 : ByteArray} {mx index n9 d9 : Nat} {r9 : Option FieldType} {as : List Value} {t : Option Value × Mm} {st9 : List Value} (cv : jCS y c9 mx r9) (d : decode cc pc = .ok (.invokestatic index, 3)) (n : Nat) (hn : pc + 3 = n) (hp9 : (parseMethodDescriptor y.desc).map (fun d => d.parameters.length) = some n9) (hlen : as.length = n9) (hdep : d9 < dep) (hmx : mx ≤ 45) (hst : catS st ≤ 8) (hst9 : as.reverse ++ st = st9) (hl9 : Cond.methodLink own index y ∈ lw_ok) (hM : Ct l y c9 mx r9 d9 D as σ t) (kk : JJ X nL D t.2 n ls (t.1.toList ++ st) Q) : JJ X nL D σ pc ls st9 Q := by
  subst hn
  subst hst9
  obtain ⟨p, l9, e, R, s, m, args, below, meth, c, cells, slots, A⟩ := X
  obtain ⟨rfl, hx, hb, hml, hown, hts, hK, hi, hNs, hA, hlk, hret, hfr, hlo, hce, hsl⟩ := F
  intro H locs lsA hP hS hl
  obtain ⟨c1, c2, c4, c5⟩ := cv
  exact j_run (va_runS (As := as) (rest := st) ⟨hx, hb, hml, hown, hts⟩ hM ⟨jcb_of hts c1 c4 c5 hl9 hp9 hdep hmx hfr hlo, hts _ c2⟩ ⟨Wd_blind, fun U hU hW => ⟨rfl, by rw [hU]; exact hP, va_K.moved hW.alike hK, hi, hNs.warm hW⟩⟩ rfl hlen hl.1 rfl (lv_room hst) d ⟨hce, hsl⟩) hS hA (fun H1 locs1 hP1 hS1 => kk H1 locs1 lsA hP1 hS1 hl)
theorem j_callSN {X : Cx} {l : Launch} {nL : Nat} {D : Dm} {cc : ByteArray} {own : String} {dep : Nat} {ret : Option FieldType} {σ : Mm} {pc : Nat} {ls : List (Nat × Value)} {st : List Value} {Q : State → Prop} (F : Fx X l nL D cc own dep ret) {y : MethodName} {c9 : ByteArray} {mx index n9 d9 : Nat} {r9 : Option FieldType} {as : List Value} {t : Option Value × Mm} {st9 : List Value} {host : String} (cv : jCS y c9 mx r9) (d : decode cc pc = .ok (.invokestatic index, 3)) (n : Nat) (hn : pc + 3 = n) (hp9 : (parseMethodDescriptor y.desc).map (fun d => d.parameters.length) = some n9) (hlen : as.length = n9) (hdep : d9 < dep) (hmx : mx ≤ 45) (hst : catS st ≤ 8) (hst9 : as.reverse ++ st = st9) (hl9 : (own, index, y, host) ∈ nestL) (hM : Ct l y c9 mx r9 d9 D as σ t) (kk : JJ X nL D t.2 n ls (t.1.toList ++ st) Q) : JJ X nL D σ pc ls st9 Q := by
  subst hn
  subst hst9
  obtain ⟨p, l9, e, R, s, m, args, below, meth, c, cells, slots, A⟩ := X
  obtain ⟨rfl, hx, hb, hml, hown, hts, hK, hi, hNs, hA, hlk, hret, hfr, hlo, hce, hsl⟩ := F
  intro H locs lsA hP hS hl
  obtain ⟨c1, c2, c4, c5⟩ := cv
  exact j_run (va_runSN (As := as) (rest := st) ⟨hx, hb, hml, hown, hts⟩ hM ⟨jcn_of hts c1 c4 c5 (hNs _ hl9) hp9 hdep hmx hfr hlo, hts _ c2, trivial⟩ ⟨Wd_blind, fun U hU hW => ⟨rfl, by rw [hU]; exact hP, va_K.moved hW.alike hK, hi, hNs.warm hW⟩⟩ rfl hlen hl.1 rfl (lv_room hst) d ⟨hce, hsl⟩) hS hA (fun H1 locs1 hP1 hS1 => kk H1 locs1 lsA hP1 hS1 hl)
theorem j_mmax {X : Cx} {l : Launch} {nL : Nat} {D : Dm} {cc : ByteArray} {own : String} {dep : Nat} {ret : Option FieldType} {σ : Mm} {pc : Nat} {ls : List (Nat × Value)} {st : List Value} {Q : State → Prop} (F : Fx X l nL D cc own dep ret) {x y : Int32} {index : Nat} (d : decode cc pc = .ok (.invokestatic index, 3)) (n : Nat) (hn : pc + 3 = n) (hdep : 0 < dep) (hst : catS st ≤ 8) (hl9 : Cond.methodLink own index Lib.Math.max.name ∈ lw_ok) (h1 : Cond.static Lib.Math.max.name ∈ lw_ok) (h2 : Cond.initialized "java/lang/Math" ∈ lw_ok) (h3 : Cond.code Lib.Math.max.name Lib.Math.max.code 2 (some .int) ∈ lw_ok) (kk : JJ X nL D σ n ls (.int (if x < y then y else x) :: st) Q) : JJ X nL D σ pc ls (.int y :: .int x :: st) Q := by
  subst hn
  obtain ⟨p, l9, e, R, s, m, args, below, meth, c, cells, slots, A⟩ := X
  obtain ⟨rfl, hx, hb, hml, hown, hts, hK, hi, hNs, hA, hlk, hret, hfr, hlo, hce, hsl⟩ := F
  intro H locs lsA hP hS hl
  exact va_mmax hx hb (hml.trans hl.1.symm) hown (hts _ hl9) (hts _ h1) (hts _ h2) (hts _ h3) (by omega) (by have h7 : (st.map fun v => v.category).sum ≤ 8 := hst; omega) hce hsl d (kk H locs lsA hP hS hl)
theorem j_mmin {X : Cx} {l : Launch} {nL : Nat} {D : Dm} {cc : ByteArray} {own : String} {dep : Nat} {ret : Option FieldType} {σ : Mm} {pc : Nat} {ls : List (Nat × Value)} {st : List Value} {Q : State → Prop} (F : Fx X l nL D cc own dep ret) {x y : Int32} {index : Nat} (d : decode cc pc = .ok (.invokestatic index, 3)) (n : Nat) (hn : pc + 3 = n) (hdep : 0 < dep) (hst : catS st ≤ 8) (hl9 : Cond.methodLink own index Lib.Math.min.name ∈ lw_ok) (h1 : Cond.static Lib.Math.min.name ∈ lw_ok) (h2 : Cond.initialized "java/lang/Math" ∈ lw_ok) (h3 : Cond.code Lib.Math.min.name Lib.Math.min.code 2 (some .int) ∈ lw_ok) (kk : JJ X nL D σ n ls (.int (if y < x then y else x) :: st) Q) : JJ X nL D σ pc ls (.int y :: .int x :: st) Q := by
  subst hn
  obtain ⟨p, l9, e, R, s, m, args, below, meth, c, cells, slots, A⟩ := X
  obtain ⟨rfl, hx, hb, hml, hown, hts, hK, hi, hNs, hA, hlk, hret, hfr, hlo, hce, hsl⟩ := F
  intro H locs lsA hP hS hl
  exact va_mmin hx hb (hml.trans hl.1.symm) hown (hts _ hl9) (hts _ h1) (hts _ h2) (hts _ h3) (by omega) (by have h7 : (st.map fun v => v.category).sum ≤ 8 := hst; omega) hce hsl d (kk H locs lsA hP hS hl)
theorem j_mabs {X : Cx} {l : Launch} {nL : Nat} {D : Dm} {cc : ByteArray} {own : String} {dep : Nat} {ret : Option FieldType} {σ : Mm} {pc : Nat} {ls : List (Nat × Value)} {st : List Value} {Q : State → Prop} (F : Fx X l nL D cc own dep ret) {x : Int32} {index : Nat} (d : decode cc pc = .ok (.invokestatic index, 3)) (n : Nat) (hn : pc + 3 = n) (hdep : 0 < dep) (hst : catS st ≤ 8) (hl9 : Cond.methodLink own index Lib.Math.abs.name ∈ lw_ok) (h1 : Cond.static Lib.Math.abs.name ∈ lw_ok) (h2 : Cond.initialized "java/lang/Math" ∈ lw_ok) (h3 : Cond.code Lib.Math.abs.name Lib.Math.abs.code 1 (some .int) ∈ lw_ok) (kk : JJ X nL D σ n ls (.int (if 0 ≤ x then x else 0 - x) :: st) Q) : JJ X nL D σ pc ls (.int x :: st) Q := by
  subst hn
  obtain ⟨p, l9, e, R, s, m, args, below, meth, c, cells, slots, A⟩ := X
  obtain ⟨rfl, hx, hb, hml, hown, hts, hK, hi, hNs, hA, hlk, hret, hfr, hlo, hce, hsl⟩ := F
  intro H locs lsA hP hS hl
  exact va_mabs hx hb (hml.trans hl.1.symm) hown (hts _ hl9) (hts _ h1) (hts _ h2) (hts _ h3) (by omega) (by have h7 : (st.map fun v => v.category).sum ≤ 8 := hst; omega) hce hsl d (kk H locs lsA hP hS hl)
theorem ct_of {l : Launch} {y : MethodName} {cc : ByteArray} {nL : Nat} {ret : Option FieldType} {d : Nat} {D : Dm} {as : List Value} {σ : Mm} {t : Option Value × Mm} (hy : plainName y.cls = true) (hn : (lg_sl as).length ≤ nL)
    (body : ∀ X : Cx, Fx X l nL D cc y.cls d ret → JJ X nL D σ 0 (lv_args 0 as) [] (QQ X D t)) : Ct l y cc nL ret d D as σ t := by
  refine Met.ofW (cc := cc) (maxL := nL) (ret := ret) hy rfl ?_
  intro p e s m args below meth c s₁ B hml hv
  obtain ⟨rfl, hP, hK, hi, hNs⟩ := hv
  have hts := atoms_spec (ws := wz y cc nL ret) B.pre
  have hl := lv_entry as hn
  rw [lg_entry_eq]
  generalize (lg_sl as ++ List.replicate (nL - (lg_sl as).length) Slot.unset).toArray = lsA at hl ⊢
  exact body (p, l, e, (headSpec (wz y cc nL ret) (rmd d)).room, s, m, as.toArray, below, meth, c, 0, 0, AA D) ⟨rfl, B.exec, B.bytes, hml, findClass_of_methodNamed B.named, fun w hw => hts w (List.mem_cons_of_mem _ hw), hK, hi, hNs, fun k hk => ⟨k, hk, rfl⟩, B.notSynchronized, B.returns, Nat.le_refl _, Nat.le_refl _, Nat.zero_le _, Nat.zero_le _⟩ s.heap [] lsA hP va_S.rf hl
end
section
theorem pX0_init : (parseMethodDescriptor yX0_init.desc).map (fun d => d.parameters.length) = some 0 := by decide +kernel
theorem pX0_weigh : (parseMethodDescriptor yX0_weigh.desc).map (fun d => d.parameters.length) = some 3 := by decide +kernel
theorem pX0_lastAfter : (parseMethodDescriptor yX0_lastAfter.desc).map (fun d => d.parameters.length) = some 3 := by decide +kernel
theorem pX0_reduce : (parseMethodDescriptor yX0_reduce.desc).map (fun d => d.parameters.length) = some 0 := by decide +kernel
theorem pX1_init : (parseMethodDescriptor yX1_init.desc).map (fun d => d.parameters.length) = some 0 := by decide +kernel
theorem pX1_learn : (parseMethodDescriptor yX1_learn.desc).map (fun d => d.parameters.length) = some 1 := by decide +kernel
theorem pX1_worth : (parseMethodDescriptor yX1_worth.desc).map (fun d => d.parameters.length) = some 1 := by decide +kernel
theorem pX1_cost : (parseMethodDescriptor yX1_cost.desc).map (fun d => d.parameters.length) = some 1 := by decide +kernel
theorem pX1_lastAmong : (parseMethodDescriptor yX1_lastAmong.desc).map (fun d => d.parameters.length) = some 1 := by decide +kernel
theorem pX1_pricesAmong : (parseMethodDescriptor yX1_pricesAmong.desc).map (fun d => d.parameters.length) = some 2 := by decide +kernel
theorem pX2_init : (parseMethodDescriptor yX2_init.desc).map (fun d => d.parameters.length) = some 0 := by decide +kernel
theorem pX2_copyFrom : (parseMethodDescriptor yX2_copyFrom.desc).map (fun d => d.parameters.length) = some 1 := by decide +kernel
theorem pX2_readFrom : (parseMethodDescriptor yX2_readFrom.desc).map (fun d => d.parameters.length) = some 1 := by decide +kernel
theorem pX2_has : (parseMethodDescriptor yX2_has.desc).map (fun d => d.parameters.length) = some 1 := by decide +kernel
theorem pX2_figure : (parseMethodDescriptor yX2_figure.desc).map (fun d => d.parameters.length) = some 2 := by decide +kernel
theorem pX2_all : (parseMethodDescriptor yX2_all.desc).map (fun d => d.parameters.length) = some 0 := by decide +kernel
theorem pX2_there : (parseMethodDescriptor yX2_there.desc).map (fun d => d.parameters.length) = some 0 := by decide +kernel
theorem pX2_shown : (parseMethodDescriptor yX2_shown.desc).map (fun d => d.parameters.length) = some 0 := by decide +kernel
theorem pX2_unseen : (parseMethodDescriptor yX2_unseen.desc).map (fun d => d.parameters.length) = some 0 := by decide +kernel
theorem pX2_breakable : (parseMethodDescriptor yX2_breakable.desc).map (fun d => d.parameters.length) = some 0 := by decide +kernel
theorem pX2_alikeTo : (parseMethodDescriptor yX2_alikeTo.desc).map (fun d => d.parameters.length) = some 3 := by decide +kernel
theorem pX2_sameMarks : (parseMethodDescriptor yX2_sameMarks.desc).map (fun d => d.parameters.length) = some 2 := by decide +kernel
theorem pX2_lastOnes : (parseMethodDescriptor yX2_lastOnes.desc).map (fun d => d.parameters.length) = some 0 := by decide +kernel
theorem pX2_lastOnesBy : (parseMethodDescriptor yX2_lastOnesBy.desc).map (fun d => d.parameters.length) = some 2 := by decide +kernel
theorem pX2_priceOf : (parseMethodDescriptor yX2_priceOf.desc).map (fun d => d.parameters.length) = some 1 := by decide +kernel
theorem pX2_shareOf : (parseMethodDescriptor yX2_shareOf.desc).map (fun d => d.parameters.length) = some 2 := by decide +kernel
theorem pX2_canBe : (parseMethodDescriptor yX2_canBe.desc).map (fun d => d.parameters.length) = some 2 := by decide +kernel
theorem pX2_perform : (parseMethodDescriptor yX2_perform.desc).map (fun d => d.parameters.length) = some 2 := by decide +kernel
theorem pX2_addForged : (parseMethodDescriptor yX2_addForged.desc).map (fun d => d.parameters.length) = some 2 := by decide +kernel
theorem pX2_changeWord : (parseMethodDescriptor yX2_changeWord.desc).map (fun d => d.parameters.length) = some 1 := by decide +kernel
theorem pX3_init : (parseMethodDescriptor yX3_init.desc).map (fun d => d.parameters.length) = some 0 := by decide +kernel
theorem pX3_play : (parseMethodDescriptor yX3_play.desc).map (fun d => d.parameters.length) = some 2 := by decide +kernel
theorem pX3_lead : (parseMethodDescriptor yX3_lead.desc).map (fun d => d.parameters.length) = some 6 := by decide +kernel
theorem pX3_leadByLastTurn : (parseMethodDescriptor yX3_leadByLastTurn.desc).map (fun d => d.parameters.length) = some 1 := by decide +kernel
theorem pX3_gainOf : (parseMethodDescriptor yX3_gainOf.desc).map (fun d => d.parameters.length) = some 1 := by decide +kernel
theorem pX4_init : (parseMethodDescriptor yX4_init.desc).map (fun d => d.parameters.length) = some 0 := by decide +kernel
theorem pX4_weigh : (parseMethodDescriptor yX4_weigh.desc).map (fun d => d.parameters.length) = some 1 := by decide +kernel
theorem pX4_firstChoice : (parseMethodDescriptor yX4_firstChoice.desc).map (fun d => d.parameters.length) = some 1 := by decide +kernel
theorem pX4_learn : (parseMethodDescriptor yX4_learn.desc).map (fun d => d.parameters.length) = some 2 := by decide +kernel
theorem pX4_goThrough : (parseMethodDescriptor yX4_goThrough.desc).map (fun d => d.parameters.length) = some 1 := by decide +kernel
theorem pX4_tell : (parseMethodDescriptor yX4_tell.desc).map (fun d => d.parameters.length) = some 1 := by decide +kernel
theorem pX4_raiseBest : (parseMethodDescriptor yX4_raiseBest.desc).map (fun d => d.parameters.length) = some 3 := by decide +kernel
theorem pX4_raise : (parseMethodDescriptor yX4_raise.desc).map (fun d => d.parameters.length) = some 3 := by decide +kernel
theorem pX4_isRest : (parseMethodDescriptor yX4_isRest.desc).map (fun d => d.parameters.length) = some 3 := by decide +kernel
theorem pX4_has : (parseMethodDescriptor yX4_has.desc).map (fun d => d.parameters.length) = some 3 := by decide +kernel
theorem pX5_init : (parseMethodDescriptor yX5_init.desc).map (fun d => d.parameters.length) = some 0 := by decide +kernel
theorem pX5_seekCampaign : (parseMethodDescriptor yX5_seekCampaign.desc).map (fun d => d.parameters.length) = some 2 := by decide +kernel
theorem pX5_leastCopy : (parseMethodDescriptor yX5_leastCopy.desc).map (fun d => d.parameters.length) = some 2 := by decide +kernel
theorem pX5_wordOfMostLast : (parseMethodDescriptor yX5_wordOfMostLast.desc).map (fun d => d.parameters.length) = some 1 := by decide +kernel
theorem pX5_lastBy : (parseMethodDescriptor yX5_lastBy.desc).map (fun d => d.parameters.length) = some 2 := by decide +kernel
theorem pX5_costToBreak : (parseMethodDescriptor yX5_costToBreak.desc).map (fun d => d.parameters.length) = some 2 := by decide +kernel
theorem pX5_frees : (parseMethodDescriptor yX5_frees.desc).map (fun d => d.parameters.length) = some 3 := by decide +kernel
theorem pX6_init : (parseMethodDescriptor yX6_init.desc).map (fun d => d.parameters.length) = some 0 := by decide +kernel
theorem pX6_clear : (parseMethodDescriptor yX6_clear.desc).map (fun d => d.parameters.length) = some 0 := by decide +kernel
theorem pX6_remember : (parseMethodDescriptor yX6_remember.desc).map (fun d => d.parameters.length) = some 1 := by decide +kernel
theorem pX6_takeBack : (parseMethodDescriptor yX6_takeBack.desc).map (fun d => d.parameters.length) = some 1 := by decide +kernel
theorem pX6_placeAt : (parseMethodDescriptor yX6_placeAt.desc).map (fun d => d.parameters.length) = some 1 := by decide +kernel
theorem pX7_init : (parseMethodDescriptor yX7_init.desc).map (fun d => d.parameters.length) = some 0 := by decide +kernel
theorem pX7_append : (parseMethodDescriptor yX7_append.desc).map (fun d => d.parameters.length) = some 3 := by decide +kernel
theorem pX7_survey : (parseMethodDescriptor yX7_survey.desc).map (fun d => d.parameters.length) = some 1 := by decide +kernel
theorem pX7_mostTelling : (parseMethodDescriptor yX7_mostTelling.desc).map (fun d => d.parameters.length) = some 1 := by decide +kernel
theorem pX7_learn : (parseMethodDescriptor yX7_learn.desc).map (fun d => d.parameters.length) = some 1 := by decide +kernel
theorem pX7_isSo : (parseMethodDescriptor yX7_isSo.desc).map (fun d => d.parameters.length) = some 2 := by decide +kernel
theorem pX7_tally : (parseMethodDescriptor yX7_tally.desc).map (fun d => d.parameters.length) = some 1 := by decide +kernel
theorem pX8_init : (parseMethodDescriptor yX8_init.desc).map (fun d => d.parameters.length) = some 0 := by decide +kernel
theorem pX8_append : (parseMethodDescriptor yX8_append.desc).map (fun d => d.parameters.length) = some 1 := by decide +kernel
theorem pX8_firstFault : (parseMethodDescriptor yX8_firstFault.desc).map (fun d => d.parameters.length) = some 0 := by decide +kernel
theorem pX8_things : (parseMethodDescriptor yX8_things.desc).map (fun d => d.parameters.length) = some 0 := by decide +kernel
theorem pX8_wordTold : (parseMethodDescriptor yX8_wordTold.desc).map (fun d => d.parameters.length) = some 0 := by decide +kernel
theorem pX8_figureTold : (parseMethodDescriptor yX8_figureTold.desc).map (fun d => d.parameters.length) = some 2 := by decide +kernel
theorem pX8_fits : (parseMethodDescriptor yX8_fits.desc).map (fun d => d.parameters.length) = some 1 := by decide +kernel
theorem pX8_isWithin : (parseMethodDescriptor yX8_isWithin.desc).map (fun d => d.parameters.length) = some 3 := by decide +kernel
theorem pX9_init : (parseMethodDescriptor yX9_init.desc).map (fun d => d.parameters.length) = some 0 := by decide +kernel
theorem pX9_write : (parseMethodDescriptor yX9_write.desc).map (fun d => d.parameters.length) = some 1 := by decide +kernel
theorem pX9_wipe : (parseMethodDescriptor yX9_wipe.desc).map (fun d => d.parameters.length) = some 0 := by decide +kernel
theorem pX9_fault : (parseMethodDescriptor yX9_fault.desc).map (fun d => d.parameters.length) = some 0 := by decide +kernel
theorem pX9_house : (parseMethodDescriptor yX9_house.desc).map (fun d => d.parameters.length) = some 0 := by decide +kernel
theorem pX9_thing : (parseMethodDescriptor yX9_thing.desc).map (fun d => d.parameters.length) = some 2 := by decide +kernel
theorem pX9_alike : (parseMethodDescriptor yX9_alike.desc).map (fun d => d.parameters.length) = some 1 := by decide +kernel
theorem pX9_price : (parseMethodDescriptor yX9_price.desc).map (fun d => d.parameters.length) = some 1 := by decide +kernel
theorem pX9_broken : (parseMethodDescriptor yX9_broken.desc).map (fun d => d.parameters.length) = some 1 := by decide +kernel
theorem pX9_forge : (parseMethodDescriptor yX9_forge.desc).map (fun d => d.parameters.length) = some 2 := by decide +kernel
theorem pX9_hide : (parseMethodDescriptor yX9_hide.desc).map (fun d => d.parameters.length) = some 1 := by decide +kernel
theorem pX9_claim : (parseMethodDescriptor yX9_claim.desc).map (fun d => d.parameters.length) = some 1 := by decide +kernel
theorem pX9_guard : (parseMethodDescriptor yX9_guard.desc).map (fun d => d.parameters.length) = some 1 := by decide +kernel
theorem pX9_word : (parseMethodDescriptor yX9_word.desc).map (fun d => d.parameters.length) = some 1 := by decide +kernel
theorem pX9_year : (parseMethodDescriptor yX9_year.desc).map (fun d => d.parameters.length) = some 0 := by decide +kernel
theorem pX9_undo : (parseMethodDescriptor yX9_undo.desc).map (fun d => d.parameters.length) = some 0 := by decide +kernel
theorem pX9_judge : (parseMethodDescriptor yX9_judge.desc).map (fun d => d.parameters.length) = some 2 := by decide +kernel
theorem pX9_tryAct : (parseMethodDescriptor yX9_tryAct.desc).map (fun d => d.parameters.length) = some 2 := by decide +kernel
theorem pX9_campaign : (parseMethodDescriptor yX9_campaign.desc).map (fun d => d.parameters.length) = some 1 := by decide +kernel
theorem pX9_campaignBy : (parseMethodDescriptor yX9_campaignBy.desc).map (fun d => d.parameters.length) = some 2 := by decide +kernel
theorem pX9_copy : (parseMethodDescriptor yX9_copy.desc).map (fun d => d.parameters.length) = some 1 := by decide +kernel
theorem pX9_bestWord : (parseMethodDescriptor yX9_bestWord.desc).map (fun d => d.parameters.length) = some 1 := by decide +kernel
theorem pX9_rests : (parseMethodDescriptor yX9_rests.desc).map (fun d => d.parameters.length) = some 1 := by decide +kernel
theorem pX9_sight : (parseMethodDescriptor yX9_sight.desc).map (fun d => d.parameters.length) = some 3 := by decide +kernel
theorem pX9_unsight : (parseMethodDescriptor yX9_unsight.desc).map (fun d => d.parameters.length) = some 0 := by decide +kernel
theorem pX9_worlds : (parseMethodDescriptor yX9_worlds.desc).map (fun d => d.parameters.length) = some 1 := by decide +kernel
theorem pX9_toSeek : (parseMethodDescriptor yX9_toSeek.desc).map (fun d => d.parameters.length) = some 0 := by decide +kernel
theorem pX9_byTurns : (parseMethodDescriptor yX9_byTurns.desc).map (fun d => d.parameters.length) = some 2 := by decide +kernel
theorem pX9_chance : (parseMethodDescriptor yX9_chance.desc).map (fun d => d.parameters.length) = some 3 := by decide +kernel
theorem pX9_seed : (parseMethodDescriptor yX9_seed.desc).map (fun d => d.parameters.length) = some 1 := by decide +kernel
theorem pX9_years : (parseMethodDescriptor yX9_years.desc).map (fun d => d.parameters.length) = some 2 := by decide +kernel
theorem pX9_keep : (parseMethodDescriptor yX9_keep.desc).map (fun d => d.parameters.length) = some 1 := by decide +kernel
theorem pX9_again : (parseMethodDescriptor yX9_again.desc).map (fun d => d.parameters.length) = some 1 := by decide +kernel
theorem pX9_count : (parseMethodDescriptor yX9_count.desc).map (fun d => d.parameters.length) = some 1 := by decide +kernel
theorem pX9_slotAt : (parseMethodDescriptor yX9_slotAt.desc).map (fun d => d.parameters.length) = some 1 := by decide +kernel
theorem pX9_holds : (parseMethodDescriptor yX9_holds.desc).map (fun d => d.parameters.length) = some 2 := by decide +kernel
theorem pX9_withoutLast : (parseMethodDescriptor yX9_withoutLast.desc).map (fun d => d.parameters.length) = some 2 := by decide +kernel
theorem pX9_at : (parseMethodDescriptor yX9_at.desc).map (fun d => d.parameters.length) = some 2 := by decide +kernel
theorem pX9_put : (parseMethodDescriptor yX9_put.desc).map (fun d => d.parameters.length) = some 3 := by decide +kernel
theorem pX10_init : (parseMethodDescriptor yX10_init.desc).map (fun d => d.parameters.length) = some 0 := by decide +kernel
theorem pX10_in : (parseMethodDescriptor yX10_in.desc).map (fun d => d.parameters.length) = some 3 := by decide +kernel
theorem pX10_has : (parseMethodDescriptor yX10_has.desc).map (fun d => d.parameters.length) = some 2 := by decide +kernel
theorem pX10_ones : (parseMethodDescriptor yX10_ones.desc).map (fun d => d.parameters.length) = some 1 := by decide +kernel
theorem pX10_write : (parseMethodDescriptor yX10_write.desc).map (fun d => d.parameters.length) = some 1 := by decide +kernel
theorem pX10_wipe : (parseMethodDescriptor yX10_wipe.desc).map (fun d => d.parameters.length) = some 0 := by decide +kernel
theorem pX10_fits : (parseMethodDescriptor yX10_fits.desc).map (fun d => d.parameters.length) = some 1 := by decide +kernel
theorem pX10_fault : (parseMethodDescriptor yX10_fault.desc).map (fun d => d.parameters.length) = some 0 := by decide +kernel
theorem pX10_figure : (parseMethodDescriptor yX10_figure.desc).map (fun d => d.parameters.length) = some 1 := by decide +kernel
theorem pX10_code : (parseMethodDescriptor yX10_code.desc).map (fun d => d.parameters.length) = some 5 := by decide +kernel
theorem pX10_house : (parseMethodDescriptor yX10_house.desc).map (fun d => d.parameters.length) = some 0 := by decide +kernel
theorem pX10_many : (parseMethodDescriptor yX10_many.desc).map (fun d => d.parameters.length) = some 0 := by decide +kernel
theorem pX10_isThing : (parseMethodDescriptor yX10_isThing.desc).map (fun d => d.parameters.length) = some 1 := by decide +kernel
theorem pX10_guardOf : (parseMethodDescriptor yX10_guardOf.desc).map (fun d => d.parameters.length) = some 1 := by decide +kernel
theorem pX10_costOf : (parseMethodDescriptor yX10_costOf.desc).map (fun d => d.parameters.length) = some 1 := by decide +kernel
theorem pX10_worthOf : (parseMethodDescriptor yX10_worthOf.desc).map (fun d => d.parameters.length) = some 1 := by decide +kernel
theorem pX10_ownerOf : (parseMethodDescriptor yX10_ownerOf.desc).map (fun d => d.parameters.length) = some 1 := by decide +kernel
theorem pX10_marksOf : (parseMethodDescriptor yX10_marksOf.desc).map (fun d => d.parameters.length) = some 1 := by decide +kernel
theorem pX10_tenTo : (parseMethodDescriptor yX10_tenTo.desc).map (fun d => d.parameters.length) = some 1 := by decide +kernel
theorem pX10_markOf : (parseMethodDescriptor yX10_markOf.desc).map (fun d => d.parameters.length) = some 2 := by decide +kernel
theorem pX10_same : (parseMethodDescriptor yX10_same.desc).map (fun d => d.parameters.length) = some 2 := by decide +kernel
theorem pX10_alikeOf : (parseMethodDescriptor yX10_alikeOf.desc).map (fun d => d.parameters.length) = some 3 := by decide +kernel
theorem pX10_shown : (parseMethodDescriptor yX10_shown.desc).map (fun d => d.parameters.length) = some 1 := by decide +kernel
theorem pX10_lastOf : (parseMethodDescriptor yX10_lastOf.desc).map (fun d => d.parameters.length) = some 2 := by decide +kernel
theorem pX10_last : (parseMethodDescriptor yX10_last.desc).map (fun d => d.parameters.length) = some 0 := by decide +kernel
theorem pX10_thing : (parseMethodDescriptor yX10_thing.desc).map (fun d => d.parameters.length) = some 2 := by decide +kernel
theorem pX10_alike : (parseMethodDescriptor yX10_alike.desc).map (fun d => d.parameters.length) = some 1 := by decide +kernel
theorem pX10_priceBy : (parseMethodDescriptor yX10_priceBy.desc).map (fun d => d.parameters.length) = some 2 := by decide +kernel
theorem pX10_price : (parseMethodDescriptor yX10_price.desc).map (fun d => d.parameters.length) = some 1 := by decide +kernel
theorem pX10_keepAct : (parseMethodDescriptor yX10_keepAct.desc).map (fun d => d.parameters.length) = some 0 := by decide +kernel
theorem pX10_guardAt : (parseMethodDescriptor yX10_guardAt.desc).map (fun d => d.parameters.length) = some 2 := by decide +kernel
theorem pX10_canBreak : (parseMethodDescriptor yX10_canBreak.desc).map (fun d => d.parameters.length) = some 2 := by decide +kernel
theorem pX10_canClaim : (parseMethodDescriptor yX10_canClaim.desc).map (fun d => d.parameters.length) = some 2 := by decide +kernel
theorem pX10_canHide : (parseMethodDescriptor yX10_canHide.desc).map (fun d => d.parameters.length) = some 2 := by decide +kernel
theorem pX10_free : (parseMethodDescriptor yX10_free.desc).map (fun d => d.parameters.length) = some 2 := by decide +kernel
theorem pX10_doHide : (parseMethodDescriptor yX10_doHide.desc).map (fun d => d.parameters.length) = some 2 := by decide +kernel
theorem pX10_doGuard : (parseMethodDescriptor yX10_doGuard.desc).map (fun d => d.parameters.length) = some 2 := by decide +kernel
theorem pX10_broken : (parseMethodDescriptor yX10_broken.desc).map (fun d => d.parameters.length) = some 1 := by decide +kernel
theorem pX10_forge : (parseMethodDescriptor yX10_forge.desc).map (fun d => d.parameters.length) = some 2 := by decide +kernel
theorem pX10_hide : (parseMethodDescriptor yX10_hide.desc).map (fun d => d.parameters.length) = some 1 := by decide +kernel
theorem pX10_claim : (parseMethodDescriptor yX10_claim.desc).map (fun d => d.parameters.length) = some 1 := by decide +kernel
theorem pX10_guard : (parseMethodDescriptor yX10_guard.desc).map (fun d => d.parameters.length) = some 1 := by decide +kernel
theorem pX10_word : (parseMethodDescriptor yX10_word.desc).map (fun d => d.parameters.length) = some 1 := by decide +kernel
theorem pX10_year : (parseMethodDescriptor yX10_year.desc).map (fun d => d.parameters.length) = some 0 := by decide +kernel
theorem pX10_undo : (parseMethodDescriptor yX10_undo.desc).map (fun d => d.parameters.length) = some 0 := by decide +kernel
theorem pX10_can : (parseMethodDescriptor yX10_can.desc).map (fun d => d.parameters.length) = some 2 := by decide +kernel
theorem pX10_make : (parseMethodDescriptor yX10_make.desc).map (fun d => d.parameters.length) = some 2 := by decide +kernel
theorem pX10_judge : (parseMethodDescriptor yX10_judge.desc).map (fun d => d.parameters.length) = some 2 := by decide +kernel
theorem pX10_apart : (parseMethodDescriptor yX10_apart.desc).map (fun d => d.parameters.length) = some 2 := by decide +kernel
theorem pX10_costBy : (parseMethodDescriptor yX10_costBy.desc).map (fun d => d.parameters.length) = some 2 := by decide +kernel
theorem pX10_campaignWord : (parseMethodDescriptor yX10_campaignWord.desc).map (fun d => d.parameters.length) = some 1 := by decide +kernel
theorem pX10_campaign : (parseMethodDescriptor yX10_campaign.desc).map (fun d => d.parameters.length) = some 1 := by decide +kernel
theorem pX10_campaignBy : (parseMethodDescriptor yX10_campaignBy.desc).map (fun d => d.parameters.length) = some 2 := by decide +kernel
theorem pX10_copy : (parseMethodDescriptor yX10_copy.desc).map (fun d => d.parameters.length) = some 1 := by decide +kernel
theorem pX10_bestWord : (parseMethodDescriptor yX10_bestWord.desc).map (fun d => d.parameters.length) = some 1 := by decide +kernel
theorem pX10_may : (parseMethodDescriptor yX10_may.desc).map (fun d => d.parameters.length) = some 2 := by decide +kernel
theorem pX10_has3 : (parseMethodDescriptor yX10_has3.desc).map (fun d => d.parameters.length) = some 4 := by decide +kernel
theorem pX10_rest : (parseMethodDescriptor yX10_rest.desc).map (fun d => d.parameters.length) = some 3 := by decide +kernel
theorem pX10_rests : (parseMethodDescriptor yX10_rests.desc).map (fun d => d.parameters.length) = some 1 := by decide +kernel
theorem pX10_sight : (parseMethodDescriptor yX10_sight.desc).map (fun d => d.parameters.length) = some 3 := by decide +kernel
theorem pX10_unsight : (parseMethodDescriptor yX10_unsight.desc).map (fun d => d.parameters.length) = some 0 := by decide +kernel
theorem pX10_hiddenThere : (parseMethodDescriptor yX10_hiddenThere.desc).map (fun d => d.parameters.length) = some 0 := by decide +kernel
theorem pX10_isSighted : (parseMethodDescriptor yX10_isSighted.desc).map (fun d => d.parameters.length) = some 1 := by decide +kernel
theorem pX10_layWorlds : (parseMethodDescriptor yX10_layWorlds.desc).map (fun d => d.parameters.length) = some 0 := by decide +kernel
theorem pX10_worlds : (parseMethodDescriptor yX10_worlds.desc).map (fun d => d.parameters.length) = some 1 := by decide +kernel
theorem pX10_toSeek : (parseMethodDescriptor yX10_toSeek.desc).map (fun d => d.parameters.length) = some 0 := by decide +kernel
theorem pX10_canMove : (parseMethodDescriptor yX10_canMove.desc).map (fun d => d.parameters.length) = some 2 := by decide +kernel
theorem pX10_begin : (parseMethodDescriptor yX10_begin.desc).map (fun d => d.parameters.length) = some 3 := by decide +kernel
theorem pX10_go : (parseMethodDescriptor yX10_go.desc).map (fun d => d.parameters.length) = some 2 := by decide +kernel
theorem pX10_byTurns : (parseMethodDescriptor yX10_byTurns.desc).map (fun d => d.parameters.length) = some 2 := by decide +kernel
theorem pX10_common : (parseMethodDescriptor yX10_common.desc).map (fun d => d.parameters.length) = some 2 := by decide +kernel
theorem pX10_frail : (parseMethodDescriptor yX10_frail.desc).map (fun d => d.parameters.length) = some 1 := by decide +kernel
theorem pX10_chance : (parseMethodDescriptor yX10_chance.desc).map (fun d => d.parameters.length) = some 3 := by decide +kernel
theorem pX10_seed : (parseMethodDescriptor yX10_seed.desc).map (fun d => d.parameters.length) = some 1 := by decide +kernel
theorem pX10_years : (parseMethodDescriptor yX10_years.desc).map (fun d => d.parameters.length) = some 2 := by decide +kernel
theorem pX10_keep : (parseMethodDescriptor yX10_keep.desc).map (fun d => d.parameters.length) = some 1 := by decide +kernel
theorem pX10_again : (parseMethodDescriptor yX10_again.desc).map (fun d => d.parameters.length) = some 1 := by decide +kernel
theorem pX10_count : (parseMethodDescriptor yX10_count.desc).map (fun d => d.parameters.length) = some 1 := by decide +kernel
theorem pJ6_bitCount : (parseMethodDescriptor yJ6_bitCount_0f7a4.desc).map (fun d => d.parameters.length) = some 1 := by decide +kernel
theorem ne_add {x y : Int32} {a b : Nat} (h : x = nI a) (h2 : y = nI b) : x + y = nI (a + b) := by rw [h, h2, nI_add]
theorem ne_mul {x y : Int32} {a b : Nat} (h : x = nI a) (h2 : y = nI b) : x * y = nI (a * b) := by rw [h, h2, pk_mul]
theorem nI_inc (k : Nat) : nI k + Int32.ofInt 1 = nI (k + 1) := nI_1 k
theorem fb_rng9 (x : Int32) : -2147483648 ≤ x.toInt ∧ x.toInt < 2147483648 := by
  have h1 := Int32.le_toInt x
  have h2 := Int32.toInt_lt x
  exact ⟨by simpa using h1, by simpa using h2⟩
theorem tcn_lt (x : Int32) : x.toNatClampNeg < 2 ^ 31 := by
  have h := fb_rng9 x
  show x.toInt.toNat < 2 ^ 31
  omega
theorem nltd {k : Nat} {x : Int32} (c : nI k < x) (hk : k ≤ x.toNatClampNeg) : k < x.toNatClampNeg := by
  have h1 := tcn_lt x
  rw [Int32.lt_iff_toInt_lt, nI_toInt (by omega)] at c
  show k < x.toInt.toNat
  omega
theorem nlt {k N : Nat} {x : Int32} (c : nI k < x) (hx : x.toInt = (N : Int)) (hk : k < 2 ^ 31) : k < N := by
  rw [Int32.lt_iff_toInt_lt, nI_toInt hk, hx] at c
  omega
theorem nle {k N : Nat} {x : Int32} (c : nI k ≤ x) (hx : x.toInt = (N : Int)) (hk : k < 2 ^ 31) : k < N + 1 := by
  rw [Int32.le_iff_toInt_le, nI_toInt hk, hx] at c
  omega
theorem vin_c {x : Int32} {N : Nat} (h : 0 ≤ x) (h2 : x < nI N) (hN : N < 2 ^ 31) : vp_in x N := by
  rw [vp_in_iff]
  rw [Int32.le_iff_toInt_le] at h
  rw [Int32.lt_iff_toInt_lt, nI_toInt hN] at h2
  exact ⟨h, h2⟩
theorem vin_d {x : Int32} {N : Nat} (h : 0 ≤ x) (h2 : ¬ nI N ≤ x) (hN : N < 2 ^ 31) : vp_in x N := vin_c h (Int32.not_le.mp h2) hN
theorem vin_k {x y : Int32} {N : Nat} (h : 0 ≤ x) (h2 : x < y) (hy : y.toInt = (N : Int)) : vp_in x N := by
  rw [vp_in_iff]
  rw [Int32.le_iff_toInt_le] at h
  rw [Int32.lt_iff_toInt_lt, hy] at h2
  exact ⟨h, h2⟩
theorem vin_mono {x : Int32} {N M : Nat} (h : vp_in x N) (hNM : N ≤ M) : vp_in x M := by
  rw [vp_in_iff] at h ⊢
  omega
theorem nI_cl {n : Nat} (h : n < 2147483648) : (nI n).toNatClampNeg = n := nI_clamp h

theorem j_iald_n {X : Cx} {l : Launch} {nL : Nat} {D : Dm} {cc : ByteArray} {own : String} {dep : Nat} {ret : Option FieldType} {σ : Mm} {pc : Nat} {ls : List (Nat × Value)} {st : List Value} {Q : State → Prop} (F : Fx X l nL D cc own dep ret) {k N : Nat} {i : Int32} (d : decode cc pc = .ok (.iaload, 1)) (n : Nat) (hn : pc + 1 = n) (ha : iaP k N) (a : Nat) (hi : i = nI a) (hin : a < N) (kk : JJ X nL D σ n ls (.int (σ.1 k a) :: st) Q) : JJ X nL D σ pc ls (.int i :: .ref (D.2.1 k) :: st) Q := by
  subst hi
  have h9 := ha.2.1
  have e := nI_clamp (n := a) (by omega)
  exact j_iald F d n hn ha (vp_in_nI hin (by omega)) (by rw [e]; exact kk)
theorem j_iast_n {X : Cx} {l : Launch} {nL : Nat} {D : Dm} {cc : ByteArray} {own : String} {dep : Nat} {ret : Option FieldType} {σ : Mm} {pc : Nat} {ls : List (Nat × Value)} {st : List Value} {Q : State → Prop} (F : Fx X l nL D cc own dep ret) {k N : Nat} {i v : Int32} (d : decode cc pc = .ok (.iastore, 1)) (n : Nat) (hn : pc + 1 = n) (ha : iaP k N) (a : Nat) (hi : i = nI a) (hin : a < N) (kk : JJ X nL D (up σ k a v) n ls st Q) : JJ X nL D σ pc ls (.int v :: .int i :: .ref (D.2.1 k) :: st) Q := by
  subst hi
  have h9 := ha.2.1
  have e := nI_clamp (n := a) (by omega)
  exact j_iast F d n hn ha (vp_in_nI hin (by omega)) (by rw [e]; exact kk)
theorem j_zald_n {X : Cx} {l : Launch} {nL : Nat} {D : Dm} {cc : ByteArray} {own : String} {dep : Nat} {ret : Option FieldType} {σ : Mm} {pc : Nat} {ls : List (Nat × Value)} {st : List Value} {Q : State → Prop} (F : Fx X l nL D cc own dep ret) {k N : Nat} {i : Int32} (d : decode cc pc = .ok (.baload, 1)) (n : Nat) (hn : pc + 1 = n) (hk : k < 89) (hN : N < 1000) (ha : ∀ f g, shp D.2.1 D.2.2 k f g = .inl (D.2.2 1, (N, .inl f))) (a : Nat) (hi : i = nI a) (hin : a < N) (kk : JJ X nL D σ n ls (.int (σ.1 k a) :: st) Q) : JJ X nL D σ pc ls (.int i :: .ref (D.2.1 k) :: st) Q := by
  subst hi
  have e := nI_clamp (n := a) (by omega)
  exact j_zald F d n hn hk ha (vp_in_nI hin (by omega)) (by rw [e]; exact kk)
theorem j_zast_n {X : Cx} {l : Launch} {nL : Nat} {D : Dm} {cc : ByteArray} {own : String} {dep : Nat} {ret : Option FieldType} {σ : Mm} {pc : Nat} {ls : List (Nat × Value)} {st : List Value} {Q : State → Prop} (F : Fx X l nL D cc own dep ret) {k N : Nat} {i v v' : Int32} (d : decode cc pc = .ok (.bastore, 1)) (n : Nat) (hn : pc + 1 = n) (hk : k < 89) (hN : N < 1000) (ha : ∀ f g, shp D.2.1 D.2.2 k f g = .inl (D.2.2 1, (N, .inl f))) (a : Nat) (hi : i = nI a) (hin : a < N) (hv : vp_nar .boolean v = v') (kk : JJ X nL D (up σ k a v') n ls st Q) : JJ X nL D σ pc ls (.int v :: .int i :: .ref (D.2.1 k) :: st) Q := by
  subst hi
  have e := nI_clamp (n := a) (by omega)
  exact j_zast F d n hn hk ha (vp_in_nI hin (by omega)) hv (by rw [e]; exact kk)
theorem j_by {X : Cx} {nL : Nat} {D : Dm} {σ : Mm} {pc : Nat} {ls : List (Nat × Value)} {st : List Value} {Q : State → Prop} (c : Prop) [Decidable c] (kt : c → JJ X nL D σ pc ls st Q) (kf : ¬ c → JJ X nL D σ pc ls st Q) : JJ X nL D σ pc ls st Q := if h : c then kt h else kf h
theorem j_tin {X : Cx} {l : Launch} {nL : Nat} {D : Dm} {cc : ByteArray} {own : String} {dep : Nat} {ret : Option FieldType} {σ : Mm} {pc : Nat} {ls : List (Nat × Value)} {st : List Value} {Q : State → Prop} (F : Fx X l nL D cc own dep ret) {x v : Int32} {z : Int} {dflt lo hi : Int} {offs : Array Int} {len : Nat} {off : Int} (d : decode cc pc = .ok (.tableswitch dflt lo hi offs, len)) (hx9 : x = v) (hv : v.toInt = z) (h1 : ¬ z < lo) (h2 : ¬ hi < z) (ho : offs[(z - lo).toNat]? = some off) (tgt : Nat) (ht : (pc : Int) + off = (tgt : Int)) (kk : JJ X nL D σ tgt ls st Q) : JJ X nL D σ pc ls (.int x :: st) Q := by
  subst hx9
  subst hv
  obtain ⟨p, l9, e, R, s, m, args, below, meth, c, cells, slots, A⟩ := X
  obtain ⟨rfl, hx, hb, hml, hown, hts, hK, hi, hNs, hA, hlk, hret, hfr, hlo, hce, hsl⟩ := F
  intro H locs lsA hP hS hl
  exact lv_tableIn hx hb d h1 h2 ho ht (kk H locs lsA hP hS hl)
theorem j_tout {X : Cx} {l : Launch} {nL : Nat} {D : Dm} {cc : ByteArray} {own : String} {dep : Nat} {ret : Option FieldType} {σ : Mm} {pc : Nat} {ls : List (Nat × Value)} {st : List Value} {Q : State → Prop} (F : Fx X l nL D cc own dep ret) {x : Int32} {dflt lo hi : Int} {offs : Array Int} {len : Nat} (d : decode cc pc = .ok (.tableswitch dflt lo hi offs, len)) (h : x.toInt < lo ∨ hi < x.toInt) (tgt : Nat) (ht : (pc : Int) + dflt = (tgt : Int)) (kk : JJ X nL D σ tgt ls st Q) : JJ X nL D σ pc ls (.int x :: st) Q := by
  obtain ⟨p, l9, e, R, s, m, args, below, meth, c, cells, slots, A⟩ := X
  obtain ⟨rfl, hx, hb, hml, hown, hts, hK, hi, hNs, hA, hlk, hret, hfr, hlo, hce, hsl⟩ := F
  intro H locs lsA hP hS hl
  exact lv_tableOut hx hb d h ht (kk H locs lsA hP hS hl)
theorem j_lsw {X : Cx} {l : Launch} {nL : Nat} {D : Dm} {cc : ByteArray} {own : String} {dep : Nat} {ret : Option FieldType} {σ : Mm} {pc : Nat} {ls : List (Nat × Value)} {st : List Value} {Q : State → Prop} (F : Fx X l nL D cc own dep ret) {x : Int32} {dflt : Int} {ps : Array (Int × Int)} {len : Nat} {off : Int} (d : decode cc pc = .ok (.lookupswitch dflt ps, len)) (hp : (ps.toList.zip (ps.toList.drop 1)).all (fun (a, next) => a.1 < next.1) = true) (ho : Op.lookupswitch.offset ps.toList dflt x.toInt = off) (tgt : Nat) (ht : (pc : Int) + off = (tgt : Int)) (kk : JJ X nL D σ tgt ls st Q) : JJ X nL D σ pc ls (.int x :: st) Q := by
  obtain ⟨p, l9, e, R, s, m, args, below, meth, c, cells, slots, A⟩ := X
  obtain ⟨rfl, hx, hb, hml, hown, hts, hK, hi, hNs, hA, hlk, hret, hfr, hlo, hce, hsl⟩ := F
  intro H locs lsA hP hS hl
  exact lv_lookup hx hb d hp ho ht (kk H locs lsA hP hS hl)
theorem hsS {i : Int32} (h : vp_in i 2) : hsP (53 + 2 * i.toNatClampNeg) := by
  have h1 := Nat.not_le.mp fun q => h (Or.inr q)
  exact ⟨by omega, by omega, by omega⟩
theorem hsR {i : Int32} (h : vp_in i 16) : hsP (57 + 2 * i.toNatClampNeg) := by
  have h1 := Nat.not_le.mp fun q => h (Or.inr q)
  exact ⟨by omega, by omega, by omega⟩
theorem hs49 : hsP 49 := ⟨by decide, by decide, by decide⟩
theorem hs51 : hsP 51 := ⟨by decide, by decide, by decide⟩
theorem gd17 : gdP 17 := Or.inl rfl
theorem gd22 : gdP 22 := Or.inr rfl
theorem iaQn (p n : Nat) (hp : p = 10 ∧ n = 256 ∨ p = 14 ∧ n = 81) {a : Nat} (h : a < 3) : iaP (p + a) n := by
  rcases hp with ⟨rfl, rfl⟩ | ⟨rfl, rfl⟩ <;> (rcases (show a = 0 ∨ a = 1 ∨ a = 2 by omega) with rfl | rfl | rfl <;> exact ⟨by decide, by decide, fun _ _ _ _ => rfl⟩)
theorem iaQ {p n : Nat} (hp : p = 10 ∧ n = 256 ∨ p = 14 ∧ n = 81) {i : Int32} (h : vp_in i 3) : iaP (p + i.toNatClampNeg) n := iaQn p n hp (Nat.not_le.mp fun q => h (Or.inr q))
theorem j_qald2_n {X : Cx} {l : Launch} {nL : Nat} {D : Dm} {cc : ByteArray} {own : String} {dep : Nat} {ret : Option FieldType} {σ : Mm} {pc : Nat} {ls : List (Nat × Value)} {st : List Value} {Q : State → Prop} (F : Fx X l nL D cc own dep ret) {k N : Nat} {i : Int32} {f : Nat → Option Nat} {b : Nat} (d : decode cc pc = .ok (.aaload, 1)) (n : Nat) (hn : pc + 1 = n) (hk : k < 89) (hN : N < 1000) (ha : shp D.2.1 D.2.2 k (σ.1 k) (σ.2 k) = .inl (D.2.2 3, (N, qs f))) (a : Nat) (hi : i = nI a) (hin : a < N) (hf : f a = some b) (kk : JJ X nL D σ n ls (.ref b :: st) Q) : JJ X nL D σ pc ls (.int i :: .ref (D.2.1 k) :: st) Q := by
  subst hi
  have e := nI_clamp (n := a) (by omega)
  exact j_qald2 F d n hn hk ha (vp_in_nI hin (by omega)) (by rw [e]; exact hf) kk
theorem j_callVr {X : Cx} {l : Launch} {nL : Nat} {D : Dm} {cc : ByteArray} {own : String} {dep : Nat} {ret : Option FieldType} {σ : Mm} {pc : Nat} {ls : List (Nat × Value)} {st : List Value} {Q : State → Prop} (F : Fx X l nL D cc own dep ret) {y : MethodName} {c9 : ByteArray} {mx index n9 d9 : Nat} {r9 : Option FieldType} {as : List Value} {st9 : List Value} {k ci : Nat} {q9 : vw_C} {fs : List Value} {r : Value} {σ9 : Mm} (cv : jCV y c9 mx r9) (d : decode cc pc = .ok (.invokevirtual index, 3)) (n : Nat) (hn : pc + 3 = n) (hp9 : (parseMethodDescriptor y.desc).map (fun d => d.parameters.length) = some n9) (hlen : as.length = n9) (hdep : d9 < dep) (hmx : mx ≤ 45) (hst : catS st ≤ 8) (hst9 : as.reverse ++ .ref (D.2.1 k) :: st = st9) (hl9 : Cond.methodLink own index y ∈ lw_ok) (hc9 : vwCl[ci]? = some q9) (hq9 : q9.1 = y.cls) (hk : k < 89) (hs : shp D.2.1 D.2.2 k (σ.1 k) (σ.2 k) = .inr (ci, fs)) (hM : Ct l y c9 mx r9 d9 D (.ref (D.2.1 k) :: as) σ (some r, σ9)) (kk : JJ X nL D σ9 n ls (r :: st) Q) : JJ X nL D σ pc ls st9 Q := j_callV F cv d n hn hp9 hlen hdep hmx hst hst9 hl9 hc9 hq9 hk hs hM kk
theorem j_callVv {X : Cx} {l : Launch} {nL : Nat} {D : Dm} {cc : ByteArray} {own : String} {dep : Nat} {ret : Option FieldType} {σ : Mm} {pc : Nat} {ls : List (Nat × Value)} {st : List Value} {Q : State → Prop} (F : Fx X l nL D cc own dep ret) {y : MethodName} {c9 : ByteArray} {mx index n9 d9 : Nat} {r9 : Option FieldType} {as : List Value} {st9 : List Value} {k ci : Nat} {q9 : vw_C} {fs : List Value} {σ9 : Mm} (cv : jCV y c9 mx r9) (d : decode cc pc = .ok (.invokevirtual index, 3)) (n : Nat) (hn : pc + 3 = n) (hp9 : (parseMethodDescriptor y.desc).map (fun d => d.parameters.length) = some n9) (hlen : as.length = n9) (hdep : d9 < dep) (hmx : mx ≤ 45) (hst : catS st ≤ 8) (hst9 : as.reverse ++ .ref (D.2.1 k) :: st = st9) (hl9 : Cond.methodLink own index y ∈ lw_ok) (hc9 : vwCl[ci]? = some q9) (hq9 : q9.1 = y.cls) (hk : k < 89) (hs : shp D.2.1 D.2.2 k (σ.1 k) (σ.2 k) = .inr (ci, fs)) (hM : Ct l y c9 mx r9 d9 D (.ref (D.2.1 k) :: as) σ (none, σ9)) (kk : JJ X nL D σ9 n ls (st) Q) : JJ X nL D σ pc ls st9 Q := j_callV F cv d n hn hp9 hlen hdep hmx hst hst9 hl9 hc9 hq9 hk hs hM kk
theorem j_callSr {X : Cx} {l : Launch} {nL : Nat} {D : Dm} {cc : ByteArray} {own : String} {dep : Nat} {ret : Option FieldType} {σ : Mm} {pc : Nat} {ls : List (Nat × Value)} {st : List Value} {Q : State → Prop} (F : Fx X l nL D cc own dep ret) {y : MethodName} {c9 : ByteArray} {mx index n9 d9 : Nat} {r9 : Option FieldType} {as : List Value} {st9 : List Value}  {r : Value} {σ9 : Mm} (cv : jCS y c9 mx r9) (d : decode cc pc = .ok (.invokestatic index, 3)) (n : Nat) (hn : pc + 3 = n) (hp9 : (parseMethodDescriptor y.desc).map (fun d => d.parameters.length) = some n9) (hlen : as.length = n9) (hdep : d9 < dep) (hmx : mx ≤ 45) (hst : catS st ≤ 8) (hst9 : as.reverse ++ st = st9) (hl9 : Cond.methodLink own index y ∈ lw_ok) (hM : Ct l y c9 mx r9 d9 D as σ (some r, σ9)) (kk : JJ X nL D σ9 n ls (r :: st) Q) : JJ X nL D σ pc ls st9 Q := j_callS F cv d n hn hp9 hlen hdep hmx hst hst9 hl9 hM kk
theorem j_callSv {X : Cx} {l : Launch} {nL : Nat} {D : Dm} {cc : ByteArray} {own : String} {dep : Nat} {ret : Option FieldType} {σ : Mm} {pc : Nat} {ls : List (Nat × Value)} {st : List Value} {Q : State → Prop} (F : Fx X l nL D cc own dep ret) {y : MethodName} {c9 : ByteArray} {mx index n9 d9 : Nat} {r9 : Option FieldType} {as : List Value} {st9 : List Value}  {σ9 : Mm} (cv : jCS y c9 mx r9) (d : decode cc pc = .ok (.invokestatic index, 3)) (n : Nat) (hn : pc + 3 = n) (hp9 : (parseMethodDescriptor y.desc).map (fun d => d.parameters.length) = some n9) (hlen : as.length = n9) (hdep : d9 < dep) (hmx : mx ≤ 45) (hst : catS st ≤ 8) (hst9 : as.reverse ++ st = st9) (hl9 : Cond.methodLink own index y ∈ lw_ok) (hM : Ct l y c9 mx r9 d9 D as σ (none, σ9)) (kk : JJ X nL D σ9 n ls (st) Q) : JJ X nL D σ pc ls st9 Q := j_callS F cv d n hn hp9 hlen hdep hmx hst hst9 hl9 hM kk
theorem j_callSNr {X : Cx} {l : Launch} {nL : Nat} {D : Dm} {cc : ByteArray} {own : String} {dep : Nat} {ret : Option FieldType} {σ : Mm} {pc : Nat} {ls : List (Nat × Value)} {st : List Value} {Q : State → Prop} (F : Fx X l nL D cc own dep ret) {y : MethodName} {c9 : ByteArray} {mx index n9 d9 : Nat} {r9 : Option FieldType} {as : List Value} {st9 : List Value} {host : String} {r : Value} {σ9 : Mm} (cv : jCS y c9 mx r9) (d : decode cc pc = .ok (.invokestatic index, 3)) (n : Nat) (hn : pc + 3 = n) (hp9 : (parseMethodDescriptor y.desc).map (fun d => d.parameters.length) = some n9) (hlen : as.length = n9) (hdep : d9 < dep) (hmx : mx ≤ 45) (hst : catS st ≤ 8) (hst9 : as.reverse ++ st = st9) (hl9 : (own, index, y, host) ∈ nestL) (hM : Ct l y c9 mx r9 d9 D as σ (some r, σ9)) (kk : JJ X nL D σ9 n ls (r :: st) Q) : JJ X nL D σ pc ls st9 Q := j_callSN F cv d n hn hp9 hlen hdep hmx hst hst9 hl9 hM kk
theorem j_callSNv {X : Cx} {l : Launch} {nL : Nat} {D : Dm} {cc : ByteArray} {own : String} {dep : Nat} {ret : Option FieldType} {σ : Mm} {pc : Nat} {ls : List (Nat × Value)} {st : List Value} {Q : State → Prop} (F : Fx X l nL D cc own dep ret) {y : MethodName} {c9 : ByteArray} {mx index n9 d9 : Nat} {r9 : Option FieldType} {as : List Value} {st9 : List Value} {host : String} {σ9 : Mm} (cv : jCS y c9 mx r9) (d : decode cc pc = .ok (.invokestatic index, 3)) (n : Nat) (hn : pc + 3 = n) (hp9 : (parseMethodDescriptor y.desc).map (fun d => d.parameters.length) = some n9) (hlen : as.length = n9) (hdep : d9 < dep) (hmx : mx ≤ 45) (hst : catS st ≤ 8) (hst9 : as.reverse ++ st = st9) (hl9 : (own, index, y, host) ∈ nestL) (hM : Ct l y c9 mx r9 d9 D as σ (none, σ9)) (kk : JJ X nL D σ9 n ls (st) Q) : JJ X nL D σ pc ls st9 Q := j_callSN F cv d n hn hp9 hlen hdep hmx hst hst9 hl9 hM kk
end
section
def fX9_at (σ : Mm) (q : Nat) (N : Nat) (a2 : Int32) : Int32 := if 0 ≤ a2 then (if a2 < (nI N) then ((σ.1 q a2.toNatClampNeg)) else (0)) else (0)
set_option maxRecDepth 20000 in
theorem kX9_at (l : Launch) (D : Dm) (q : Nat) (N : Nat) (a2 : Int32) (σ : Mm) (hq : iaP q N) : Ct l yX9_at cX9_at 2 (some .int) 1 D [.ref (D.2.1 q), .int a2] σ (some (.int (fX9_at σ q N a2)), σ) := by
  refine ct_of (by decide +kernel) (Nat.le_of_ble_eq_true rfl) (fun X F => ?_)
  have F : Fx X l 2 D cX9_at RX9 1 (some .int) := F
  show JJ X 2 D σ 0 [(0, .ref (D.2.1 q)), (1, .int a2)] [] (QQ X D (some (.int (fX9_at σ q N a2)), σ))
  rw [fX9_at]
  refine j_iload_n F dX9_at_0 1 rfl 1 rfl ?_
  refine j_if_lt F dX9_at_1 16 (by decide) 4 rfl (fun c_1 => ?_) (fun c_1 => ?_)
  · rw [if_pos c_1]
    refine j_iload_n F dX9_at_4 5 rfl 1 rfl ?_
    refine j_aload_n F dX9_at_5 6 rfl 0 rfl ?_
    refine j_alen F dX9_at_6 7 rfl hq ?_
    refine j_icmp_ge F dX9_at_7 16 (by decide) 10 rfl (fun c_7 => ?_) (fun c_7 => ?_)
    · rw [if_pos c_7]
      refine j_aload_n F dX9_at_10 11 rfl 0 rfl ?_
      refine j_iload_n F dX9_at_11 12 rfl 1 rfl ?_
      refine j_iald F dX9_at_12 13 rfl hq (vin_c (by assumption) (by assumption) (by have := hq.2.1; omega)) ?_
      refine j_goto F dX9_at_13 17 (by decide) ?_
      exact j_ret_i F dX9_at_17 rfl rfl rfl
    · rw [if_neg c_7]
      refine j_iconst (v := 0) F dX9_at_16 17 rfl (by decide) ?_
      exact j_ret_i F dX9_at_17 rfl rfl rfl
  · rw [if_neg c_1]
    refine j_iconst (v := 0) F dX9_at_16 17 rfl (by decide) ?_
    exact j_ret_i F dX9_at_17 rfl rfl rfl
def fX9_holds (σ : Mm) (a1 : Int32) (a2 : Int32) : Bool := if 0 ≤ a2 then (if a2 < 8 then (if ((a1 >>> (a2 &&& 31)) &&& 1) = 1 then (true) else (false)) else (false)) else (false)
set_option maxRecDepth 20000 in
theorem kX9_holds (l : Launch) (D : Dm) (a1 : Int32) (a2 : Int32) (σ : Mm)  : Ct l yX9_holds cX9_holds 2 (some .boolean) 1 D [.int a1, .int a2] σ (some (.int (bi (fX9_holds σ a1 a2))), σ) := by
  refine ct_of (by decide +kernel) (Nat.le_of_ble_eq_true rfl) (fun X F => ?_)
  have F : Fx X l 2 D cX9_holds RX9 1 (some .boolean) := F
  show JJ X 2 D σ 0 [(0, .int a1), (1, .int a2)] [] (QQ X D (some (.int (bi (fX9_holds σ a1 a2))), σ))
  rw [fX9_holds]
  refine j_iload_n F dX9_holds_0 1 rfl 1 rfl ?_
  refine j_if_lt F dX9_holds_1 23 (by decide) 4 rfl (fun c_1 => ?_) (fun c_1 => ?_)
  · rw [if_pos c_1]
    refine j_iload_n F dX9_holds_4 5 rfl 1 rfl ?_
    refine j_bipush (v := 8) F dX9_holds_5 7 rfl (by decide) ?_
    refine j_icmp_ge F dX9_holds_7 23 (by decide) 10 rfl (fun c_7 => ?_) (fun c_7 => ?_)
    · rw [if_pos c_7]
      refine j_iload_n F dX9_holds_10 11 rfl 0 rfl ?_
      refine j_iload_n F dX9_holds_11 12 rfl 1 rfl ?_
      refine j_ishr F dX9_holds_12 13 rfl ?_
      refine j_iconst (v := 1) F dX9_holds_13 14 rfl (by decide) ?_
      refine j_iand F dX9_holds_14 15 rfl ?_
      refine j_iconst (v := 1) F dX9_holds_15 16 rfl (by decide) ?_
      refine j_icmp_ne F dX9_holds_16 23 (by decide) 19 rfl (fun c_16 => ?_) (fun c_16 => ?_)
      · rw [if_pos c_16]
        refine j_iconst (v := 1) F dX9_holds_19 20 rfl (by decide) ?_
        refine j_goto F dX9_holds_20 24 (by decide) ?_
        exact j_ret_b (b := true) F dX9_holds_24 rfl rfl rfl
      · rw [if_neg c_16]
        refine j_iconst (v := 0) F dX9_holds_23 24 rfl (by decide) ?_
        exact j_ret_b (b := false) F dX9_holds_24 rfl rfl rfl
    · rw [if_neg c_7]
      refine j_iconst (v := 0) F dX9_holds_23 24 rfl (by decide) ?_
      exact j_ret_b (b := false) F dX9_holds_24 rfl rfl rfl
  · rw [if_neg c_1]
    refine j_iconst (v := 0) F dX9_holds_23 24 rfl (by decide) ?_
    exact j_ret_b (b := false) F dX9_holds_24 rfl rfl rfl
def fX2_sameMarks_24 (σ : Mm) (h : Nat) (a1 : Int32) (a2 : Int32)  : Nat → Int32 → Int32 → Nat → Int32
  | 0, _, _, _ => 0
  | n + 1, x3_24, x4_24, k5_24 => if (nI k5_24) < 4 then (if ((x3_24 >>> ((4 * (nI k5_24)) &&& 31)) &&& 15) = 0 then (fX2_sameMarks_24 σ h a1 a2 n x3_24 (x4_24 ||| (1 <<< ((nI k5_24) &&& 31))) (k5_24 + 1)) else (fX2_sameMarks_24 σ h a1 a2 n x3_24 x4_24 (k5_24 + 1))) else (x4_24)
def fX2_sameMarks (σ : Mm) (h : Nat) (a1 : Int32) (a2 : Int32) : Int32 := fX2_sameMarks_24 σ h a1 a2 5 ((fX9_at σ (h + 1) 8 a1) ^^^ (fX9_at σ (h + 1) 8 a2)) 0 0
set_option maxRecDepth 20000 in
theorem kX2_sameMarks (l : Launch) (D : Dm) (h : Nat) (a1 : Int32) (a2 : Int32) (σ : Mm) (hh : hsP h) : Ct l yX2_sameMarks cX2_sameMarks 6 (some .int) 2 D [.ref (D.2.1 h), .int a1, .int a2] σ (some (.int (fX2_sameMarks σ h a1 a2)), σ) := by
  refine ct_of (by decide +kernel) (Nat.le_of_ble_eq_true rfl) (fun X F => ?_)
  have F : Fx X l 6 D cX2_sameMarks RX2 2 (some .int) := F
  show JJ X 6 D σ 0 [(0, .ref (D.2.1 h)), (1, .int a1), (2, .int a2)] [] (QQ X D (some (.int (fX2_sameMarks σ h a1 a2)), σ))
  rw [fX2_sameMarks]
  refine j_aload_n F dX2_sameMarks_0 1 rfl 0 rfl ?_
  refine j_get (j := 0) F dX2_sameMarks_1 4 rfl inX2 rfl (hsP.lt hh) (shH hh) (by decide) qX2_9 rfl ?_
  refine j_iload_n F dX2_sameMarks_4 5 rfl 1 rfl ?_
  refine j_callSNr (as := [.ref (D.2.1 (h + 1)), .int a1]) (st := []) (r := .int (fX9_at σ (h + 1) 8 a1)) (σ9 := σ) F zX9_at dX2_sameMarks_5 8 rfl pX9_at rfl (by decide) (by decide) (Nat.le_of_ble_eq_true rfl) rfl qX2_19 (kX9_at l D (h + 1) 8 a1 σ (iaT hh)) ?_
  refine j_aload_n F dX2_sameMarks_8 9 rfl 0 rfl ?_
  refine j_get (j := 0) F dX2_sameMarks_9 12 rfl inX2 rfl (hsP.lt hh) (shH hh) (by decide) qX2_9 rfl ?_
  refine j_iload_n F dX2_sameMarks_12 13 rfl 2 rfl ?_
  refine j_callSNr (as := [.ref (D.2.1 (h + 1)), .int a2]) (st := [.int (fX9_at σ (h + 1) 8 a1)]) (r := .int (fX9_at σ (h + 1) 8 a2)) (σ9 := σ) F zX9_at dX2_sameMarks_13 16 rfl pX9_at rfl (by decide) (by decide) (Nat.le_of_ble_eq_true rfl) rfl qX2_19 (kX9_at l D (h + 1) 8 a2 σ (iaT hh)) ?_
  refine j_ixor F dX2_sameMarks_16 17 rfl ?_
  refine j_istore_n F dX2_sameMarks_17 18 rfl 3 rfl (by decide) [(3, .int ((fX9_at σ (h + 1) 8 a1) ^^^ (fX9_at σ (h + 1) 8 a2))), (0, .ref (D.2.1 h)), (1, .int a1), (2, .int a2)] rfl ?_
  refine j_iconst (v := 0) F dX2_sameMarks_18 19 rfl (by decide) ?_
  refine j_istore F dX2_sameMarks_19 21 rfl (by decide) [(4, .int 0), (3, .int ((fX9_at σ (h + 1) 8 a1) ^^^ (fX9_at σ (h + 1) 8 a2))), (0, .ref (D.2.1 h)), (1, .int a1), (2, .int a2)] rfl ?_
  refine j_iconst (v := 0) F dX2_sameMarks_21 22 rfl (by decide) ?_
  refine j_istore F dX2_sameMarks_22 24 rfl (by decide) [(5, .int 0), (4, .int 0), (3, .int ((fX9_at σ (h + 1) 8 a1) ^^^ (fX9_at σ (h + 1) 8 a2))), (0, .ref (D.2.1 h)), (1, .int a1), (2, .int a2)] rfl ?_
  have lp_24 : ∀ (n_24 : Nat) (x4_24 : Int32) (k5_24 : Nat), k5_24 ≤ 4 → 4 < k5_24 + n_24 → JJ X 6 D σ 24 [(3, .int ((fX9_at σ (h + 1) 8 a1) ^^^ (fX9_at σ (h + 1) 8 a2))), (4, .int x4_24), (5, .int (nI k5_24))] [] (QQ X D (some (.int (fX2_sameMarks_24 σ h a1 a2 n_24 ((fX9_at σ (h + 1) 8 a1) ^^^ (fX9_at σ (h + 1) 8 a2)) x4_24 k5_24)), σ)) := by
    intro n_24
    induction n_24 with
    | zero => intro x4_24 k5_24 hk_24 hn_24; exact absurd hn_24 (by omega)
    | succ n_24 ih_24 =>
      intro x4_24 k5_24 hk_24 hn_24
      rw [fX2_sameMarks_24]
      refine j_iload F dX2_sameMarks_24 26 rfl 2 rfl ?_
      refine j_iconst (v := 4) F dX2_sameMarks_26 27 rfl (by decide) ?_
      refine j_icmp_ge F dX2_sameMarks_27 57 (by decide) 30 rfl (fun c_27 => ?_) (fun c_27 => ?_)
      · rw [if_pos c_27]
        have h_27 : k5_24 < 4 := nlt c_27 (by decide) (by omega)
        refine j_iload_n F dX2_sameMarks_30 31 rfl 0 rfl ?_
        refine j_iconst (v := 4) F dX2_sameMarks_31 32 rfl (by decide) ?_
        refine j_iload F dX2_sameMarks_32 34 rfl 2 rfl ?_
        refine j_imul F dX2_sameMarks_34 35 rfl ?_
        refine j_ishr F dX2_sameMarks_35 36 rfl ?_
        refine j_bipush (v := 15) F dX2_sameMarks_36 38 rfl (by decide) ?_
        refine j_iand F dX2_sameMarks_38 39 rfl ?_
        refine j_if_ne F dX2_sameMarks_39 51 (by decide) 42 rfl (fun c_39 => ?_) (fun c_39 => ?_)
        · rw [if_pos c_39]
          refine j_iload F dX2_sameMarks_42 44 rfl 1 rfl ?_
          refine j_iconst (v := 1) F dX2_sameMarks_44 45 rfl (by decide) ?_
          refine j_iload F dX2_sameMarks_45 47 rfl 2 rfl ?_
          refine j_ishl F dX2_sameMarks_47 48 rfl ?_
          refine j_ior F dX2_sameMarks_48 49 rfl ?_
          refine j_istore F dX2_sameMarks_49 51 rfl (by decide) [(4, .int (x4_24 ||| (1 <<< ((nI k5_24) &&& 31)))), (3, .int ((fX9_at σ (h + 1) 8 a1) ^^^ (fX9_at σ (h + 1) 8 a2))), (5, .int (nI k5_24))] rfl ?_
          refine j_iinc F dX2_sameMarks_51 54 rfl 2 rfl (nI (k5_24 + 1)) (nI_inc k5_24) (by decide) [(5, .int (nI (k5_24 + 1))), (4, .int (x4_24 ||| (1 <<< ((nI k5_24) &&& 31)))), (3, .int ((fX9_at σ (h + 1) 8 a1) ^^^ (fX9_at σ (h + 1) 8 a2)))] rfl ?_
          refine j_goto F dX2_sameMarks_54 24 (by decide) ?_
          refine j_pick [2, 1, 0] [(3, .int ((fX9_at σ (h + 1) 8 a1) ^^^ (fX9_at σ (h + 1) 8 a2))), (4, .int (x4_24 ||| (1 <<< ((nI k5_24) &&& 31)))), (5, .int (nI (k5_24 + 1)))] rfl ?_
          exact ih_24 (x4_24 ||| (1 <<< ((nI k5_24) &&& 31))) (k5_24 + 1) (by omega) (by omega)
        · rw [if_neg c_39]
          refine j_iinc F dX2_sameMarks_51 54 rfl 2 rfl (nI (k5_24 + 1)) (nI_inc k5_24) (by decide) [(5, .int (nI (k5_24 + 1))), (3, .int ((fX9_at σ (h + 1) 8 a1) ^^^ (fX9_at σ (h + 1) 8 a2))), (4, .int x4_24)] rfl ?_
          refine j_goto F dX2_sameMarks_54 24 (by decide) ?_
          refine j_pick [1, 2, 0] [(3, .int ((fX9_at σ (h + 1) 8 a1) ^^^ (fX9_at σ (h + 1) 8 a2))), (4, .int x4_24), (5, .int (nI (k5_24 + 1)))] rfl ?_
          exact ih_24 x4_24 (k5_24 + 1) (by omega) (by omega)
      · rw [if_neg c_27]
        refine j_iload F dX2_sameMarks_57 59 rfl 1 rfl ?_
        exact j_ret_i F dX2_sameMarks_59 rfl rfl rfl
  refine j_pick [2, 1, 0] [(3, .int ((fX9_at σ (h + 1) 8 a1) ^^^ (fX9_at σ (h + 1) 8 a2))), (4, .int 0), (5, .int 0)] rfl ?_
  exact lp_24 5 0 0 (by omega) (by omega)
def fJ6_bc1 (x : Int32) : Int32 := (x - (((x).toUInt32 >>> ((1).toUInt32 &&& Int32.toUInt32 31)).toInt32 &&& 1431655765))
def fJ6_bc2 (x : Int32) : Int32 := ((x &&& 858993459) + (((x).toUInt32 >>> ((2).toUInt32 &&& Int32.toUInt32 31)).toInt32 &&& 858993459))
def fJ6_bc3 (x : Int32) : Int32 := ((x + ((x).toUInt32 >>> ((4).toUInt32 &&& Int32.toUInt32 31)).toInt32) &&& 252645135)
def fJ6_bc4 (x : Int32) : Int32 := (x + ((x).toUInt32 >>> ((8).toUInt32 &&& Int32.toUInt32 31)).toInt32)
def fJ6_bc5 (x : Int32) : Int32 := (x + ((x).toUInt32 >>> ((16).toUInt32 &&& Int32.toUInt32 31)).toInt32)
def fJ6_bitCount (σ : Mm) (a1 : Int32) : Int32 := ((fJ6_bc5 (fJ6_bc4 (fJ6_bc3 (fJ6_bc2 (fJ6_bc1 a1))))) &&& 63)
set_option maxRecDepth 20000 in
theorem kJ6_bitCount (l : Launch) (D : Dm) (a1 : Int32) (σ : Mm)  : Ct l yJ6_bitCount_0f7a4 cJ6_bitCount_0f7a4 1 (some .int) 1 D [.int a1] σ (some (.int (fJ6_bitCount σ a1)), σ) := by
  refine ct_of (by decide +kernel) (Nat.le_of_ble_eq_true rfl) (fun X F => ?_)
  have F : Fx X l 1 D cJ6_bitCount_0f7a4 RJ6 1 (some .int) := F
  show JJ X 1 D σ 0 [(0, .int a1)] [] (QQ X D (some (.int (fJ6_bitCount σ a1)), σ))
  rw [fJ6_bitCount]
  refine j_iload_n F dJ6_bitCount_0f7a4_0 1 rfl 0 rfl ?_
  refine j_iload_n F dJ6_bitCount_0f7a4_1 2 rfl 0 rfl ?_
  refine j_iconst (v := 1) F dJ6_bitCount_0f7a4_2 3 rfl (by decide) ?_
  refine j_iushr F dJ6_bitCount_0f7a4_3 4 rfl ?_
  refine j_ldcw F dJ6_bitCount_0f7a4_4 7 rfl qJ6_265 ?_
  refine j_iand F dJ6_bitCount_0f7a4_7 8 rfl ?_
  refine j_isub F dJ6_bitCount_0f7a4_8 9 rfl ?_
  refine j_istore_n F dJ6_bitCount_0f7a4_9 10 rfl 0 rfl (by decide) [(0, .int (fJ6_bc1 a1))] rfl ?_
  refine j_iload_n F dJ6_bitCount_0f7a4_10 11 rfl 0 rfl ?_
  refine j_ldcw F dJ6_bitCount_0f7a4_11 14 rfl qJ6_266 ?_
  refine j_iand F dJ6_bitCount_0f7a4_14 15 rfl ?_
  refine j_iload_n F dJ6_bitCount_0f7a4_15 16 rfl 0 rfl ?_
  refine j_iconst (v := 2) F dJ6_bitCount_0f7a4_16 17 rfl (by decide) ?_
  refine j_iushr F dJ6_bitCount_0f7a4_17 18 rfl ?_
  refine j_ldcw F dJ6_bitCount_0f7a4_18 21 rfl qJ6_266 ?_
  refine j_iand F dJ6_bitCount_0f7a4_21 22 rfl ?_
  refine j_iadd F dJ6_bitCount_0f7a4_22 23 rfl ?_
  refine j_istore_n F dJ6_bitCount_0f7a4_23 24 rfl 0 rfl (by decide) [(0, .int (fJ6_bc2 (fJ6_bc1 a1)))] rfl ?_
  refine j_iload_n F dJ6_bitCount_0f7a4_24 25 rfl 0 rfl ?_
  refine j_iload_n F dJ6_bitCount_0f7a4_25 26 rfl 0 rfl ?_
  refine j_iconst (v := 4) F dJ6_bitCount_0f7a4_26 27 rfl (by decide) ?_
  refine j_iushr F dJ6_bitCount_0f7a4_27 28 rfl ?_
  refine j_iadd F dJ6_bitCount_0f7a4_28 29 rfl ?_
  refine j_ldcw F dJ6_bitCount_0f7a4_29 32 rfl qJ6_267 ?_
  refine j_iand F dJ6_bitCount_0f7a4_32 33 rfl ?_
  refine j_istore_n F dJ6_bitCount_0f7a4_33 34 rfl 0 rfl (by decide) [(0, .int (fJ6_bc3 (fJ6_bc2 (fJ6_bc1 a1))))] rfl ?_
  refine j_iload_n F dJ6_bitCount_0f7a4_34 35 rfl 0 rfl ?_
  refine j_iload_n F dJ6_bitCount_0f7a4_35 36 rfl 0 rfl ?_
  refine j_bipush (v := 8) F dJ6_bitCount_0f7a4_36 38 rfl (by decide) ?_
  refine j_iushr F dJ6_bitCount_0f7a4_38 39 rfl ?_
  refine j_iadd F dJ6_bitCount_0f7a4_39 40 rfl ?_
  refine j_istore_n F dJ6_bitCount_0f7a4_40 41 rfl 0 rfl (by decide) [(0, .int (fJ6_bc4 (fJ6_bc3 (fJ6_bc2 (fJ6_bc1 a1)))))] rfl ?_
  refine j_iload_n F dJ6_bitCount_0f7a4_41 42 rfl 0 rfl ?_
  refine j_iload_n F dJ6_bitCount_0f7a4_42 43 rfl 0 rfl ?_
  refine j_bipush (v := 16) F dJ6_bitCount_0f7a4_43 45 rfl (by decide) ?_
  refine j_iushr F dJ6_bitCount_0f7a4_45 46 rfl ?_
  refine j_iadd F dJ6_bitCount_0f7a4_46 47 rfl ?_
  refine j_istore_n F dJ6_bitCount_0f7a4_47 48 rfl 0 rfl (by decide) [(0, .int (fJ6_bc5 (fJ6_bc4 (fJ6_bc3 (fJ6_bc2 (fJ6_bc1 a1))))))] rfl ?_
  refine j_iload_n F dJ6_bitCount_0f7a4_48 49 rfl 0 rfl ?_
  refine j_bipush (v := 63) F dJ6_bitCount_0f7a4_49 51 rfl (by decide) ?_
  refine j_iand F dJ6_bitCount_0f7a4_51 52 rfl ?_
  exact j_ret_i F dJ6_bitCount_0f7a4_52 rfl rfl rfl
def mX2_alikeTo_6 (σ : Mm) (h : Nat) (a1 : Int32) (a2 : Int32) (a3 : Int32)  : Nat := ((σ.1 h 1) : Int32).toNatClampNeg
def fX2_alikeTo_6 (σ : Mm) (h : Nat) (a1 : Int32) (a2 : Int32) (a3 : Int32)  : Nat → Int32 → Nat → Int32
  | 0, _, _ => 0
  | n + 1, x4_6, k5_6 => if (nI k5_6) < (σ.1 h 1) then (if (nI k5_6) = a1 then (fX2_alikeTo_6 σ h a1 a2 a3 n x4_6 (k5_6 + 1)) else (if (fX9_holds σ a3 (nI k5_6)) = true then (if a2 ≤ (fJ6_bitCount σ (fX2_sameMarks σ h a1 (nI k5_6))) then (fX2_alikeTo_6 σ h a1 a2 a3 n (x4_6 ||| (1 <<< ((nI k5_6) &&& 31))) (k5_6 + 1)) else (fX2_alikeTo_6 σ h a1 a2 a3 n x4_6 (k5_6 + 1))) else (fX2_alikeTo_6 σ h a1 a2 a3 n x4_6 (k5_6 + 1)))) else (x4_6)
def fX2_alikeTo (σ : Mm) (h : Nat) (a1 : Int32) (a2 : Int32) (a3 : Int32) : Int32 := fX2_alikeTo_6 σ h a1 a2 a3 (mX2_alikeTo_6 σ h a1 a2 a3 + 1) 0 0
set_option maxRecDepth 20000 in
theorem kX2_alikeTo (l : Launch) (D : Dm) (h : Nat) (a1 : Int32) (a2 : Int32) (a3 : Int32) (σ : Mm) (hh : hsP h) : Ct l yX2_alikeTo cX2_alikeTo 6 (some .int) 3 D [.ref (D.2.1 h), .int a1, .int a2, .int a3] σ (some (.int (fX2_alikeTo σ h a1 a2 a3)), σ) := by
  refine ct_of (by decide +kernel) (Nat.le_of_ble_eq_true rfl) (fun X F => ?_)
  have F : Fx X l 6 D cX2_alikeTo RX2 3 (some .int) := F
  show JJ X 6 D σ 0 [(0, .ref (D.2.1 h)), (1, .int a1), (2, .int a2), (3, .int a3)] [] (QQ X D (some (.int (fX2_alikeTo σ h a1 a2 a3)), σ))
  rw [fX2_alikeTo]
  refine j_iconst (v := 0) F dX2_alikeTo_0 1 rfl (by decide) ?_
  refine j_istore F dX2_alikeTo_1 3 rfl (by decide) [(4, .int 0), (0, .ref (D.2.1 h)), (1, .int a1), (2, .int a2), (3, .int a3)] rfl ?_
  refine j_iconst (v := 0) F dX2_alikeTo_3 4 rfl (by decide) ?_
  refine j_istore F dX2_alikeTo_4 6 rfl (by decide) [(5, .int 0), (4, .int 0), (0, .ref (D.2.1 h)), (1, .int a1), (2, .int a2), (3, .int a3)] rfl ?_
  have lp_6 : ∀ (n_6 : Nat) (x4_6 : Int32) (k5_6 : Nat), k5_6 ≤ (mX2_alikeTo_6 σ h a1 a2 a3) → (mX2_alikeTo_6 σ h a1 a2 a3) < k5_6 + n_6 → JJ X 6 D σ 6 [(0, .ref (D.2.1 h)), (1, .int a1), (2, .int a2), (3, .int a3), (4, .int x4_6), (5, .int (nI k5_6))] [] (QQ X D (some (.int (fX2_alikeTo_6 σ h a1 a2 a3 n_6 x4_6 k5_6)), σ)) := by
    intro n_6
    induction n_6 with
    | zero => intro x4_6 k5_6 hk_6 hn_6; exact absurd hn_6 (by omega)
    | succ n_6 ih_6 =>
      intro x4_6 k5_6 hk_6 hn_6
      rw [fX2_alikeTo_6]
      refine j_iload F dX2_alikeTo_6 8 rfl 5 rfl ?_
      refine j_aload_n F dX2_alikeTo_8 9 rfl 0 rfl ?_
      refine j_get (j := 1) F dX2_alikeTo_9 12 rfl inX2 rfl (hsP.lt hh) (shH hh) (by decide) qX2_23 rfl ?_
      refine j_icmp_ge F dX2_alikeTo_12 59 (by decide) 15 rfl (fun c_12 => ?_) (fun c_12 => ?_)
      · rw [if_pos c_12]
        have h_12 : k5_6 < (mX2_alikeTo_6 σ h a1 a2 a3) := nltd c_12 hk_6
        refine j_iload F dX2_alikeTo_15 17 rfl 5 rfl ?_
        refine j_iload_n F dX2_alikeTo_17 18 rfl 1 rfl ?_
        refine j_icmp_eq F dX2_alikeTo_18 53 (by decide) 21 rfl (fun c_18 => ?_) (fun c_18 => ?_)
        · rw [if_neg c_18]
          refine j_iload_n F dX2_alikeTo_21 22 rfl 3 rfl ?_
          refine j_iload F dX2_alikeTo_22 24 rfl 5 rfl ?_
          refine j_callSNr (as := [.int a3, .int (nI k5_6)]) (st := []) (r := .int (bi (fX9_holds σ a3 (nI k5_6)))) (σ9 := σ) F zX9_holds dX2_alikeTo_24 27 rfl pX9_holds rfl (by decide) (by decide) (Nat.le_of_ble_eq_true rfl) rfl qX2_65 (kX9_holds l D a3 (nI k5_6) σ) ?_
          refine j_ifb_eq F dX2_alikeTo_27 53 (by decide) 30 rfl (fun c_27 => ?_) (fun c_27 => ?_)
          · rw [if_pos c_27]
            refine j_aload_n F dX2_alikeTo_30 31 rfl 0 rfl ?_
            refine j_iload_n F dX2_alikeTo_31 32 rfl 1 rfl ?_
            refine j_iload F dX2_alikeTo_32 34 rfl 5 rfl ?_
            refine j_callVr (as := [.int a1, .int (nI k5_6)]) (st := []) (r := .int (fX2_sameMarks σ h a1 (nI k5_6))) (σ9 := σ) F zX2_sameMarks dX2_alikeTo_34 37 rfl pX2_sameMarks rfl (by decide) (by decide) (Nat.le_of_ble_eq_true rfl) rfl qX2_69 rfl rfl (hsP.lt hh) (shH hh) (kX2_sameMarks l D h a1 (nI k5_6) σ hh) ?_
            refine j_callSr (as := [.int (fX2_sameMarks σ h a1 (nI k5_6))]) (st := []) (r := .int (fJ6_bitCount σ (fX2_sameMarks σ h a1 (nI k5_6)))) (σ9 := σ) F zJ6_bitCount dX2_alikeTo_37 40 rfl pJ6_bitCount rfl (by decide) (by decide) (Nat.le_of_ble_eq_true rfl) rfl qX2_72 (kJ6_bitCount l D (fX2_sameMarks σ h a1 (nI k5_6)) σ) ?_
            refine j_iload_n F dX2_alikeTo_40 41 rfl 2 rfl ?_
            refine j_icmp_lt F dX2_alikeTo_41 53 (by decide) 44 rfl (fun c_41 => ?_) (fun c_41 => ?_)
            · rw [if_pos c_41]
              refine j_iload F dX2_alikeTo_44 46 rfl 4 rfl ?_
              refine j_iconst (v := 1) F dX2_alikeTo_46 47 rfl (by decide) ?_
              refine j_iload F dX2_alikeTo_47 49 rfl 5 rfl ?_
              refine j_ishl F dX2_alikeTo_49 50 rfl ?_
              refine j_ior F dX2_alikeTo_50 51 rfl ?_
              refine j_istore F dX2_alikeTo_51 53 rfl (by decide) [(4, .int (x4_6 ||| (1 <<< ((nI k5_6) &&& 31)))), (0, .ref (D.2.1 h)), (1, .int a1), (2, .int a2), (3, .int a3), (5, .int (nI k5_6))] rfl ?_
              refine j_iinc F dX2_alikeTo_53 56 rfl 5 rfl (nI (k5_6 + 1)) (nI_inc k5_6) (by decide) [(5, .int (nI (k5_6 + 1))), (4, .int (x4_6 ||| (1 <<< ((nI k5_6) &&& 31)))), (0, .ref (D.2.1 h)), (1, .int a1), (2, .int a2), (3, .int a3)] rfl ?_
              refine j_goto F dX2_alikeTo_56 6 (by decide) ?_
              refine j_pick [2, 3, 4, 5, 1, 0] [(0, .ref (D.2.1 h)), (1, .int a1), (2, .int a2), (3, .int a3), (4, .int (x4_6 ||| (1 <<< ((nI k5_6) &&& 31)))), (5, .int (nI (k5_6 + 1)))] rfl ?_
              exact ih_6 (x4_6 ||| (1 <<< ((nI k5_6) &&& 31))) (k5_6 + 1) (by omega) (by omega)
            · rw [if_neg c_41]
              refine j_iinc F dX2_alikeTo_53 56 rfl 5 rfl (nI (k5_6 + 1)) (nI_inc k5_6) (by decide) [(5, .int (nI (k5_6 + 1))), (0, .ref (D.2.1 h)), (1, .int a1), (2, .int a2), (3, .int a3), (4, .int x4_6)] rfl ?_
              refine j_goto F dX2_alikeTo_56 6 (by decide) ?_
              refine j_pick [1, 2, 3, 4, 5, 0] [(0, .ref (D.2.1 h)), (1, .int a1), (2, .int a2), (3, .int a3), (4, .int x4_6), (5, .int (nI (k5_6 + 1)))] rfl ?_
              exact ih_6 x4_6 (k5_6 + 1) (by omega) (by omega)
          · rw [if_neg c_27]
            refine j_iinc F dX2_alikeTo_53 56 rfl 5 rfl (nI (k5_6 + 1)) (nI_inc k5_6) (by decide) [(5, .int (nI (k5_6 + 1))), (0, .ref (D.2.1 h)), (1, .int a1), (2, .int a2), (3, .int a3), (4, .int x4_6)] rfl ?_
            refine j_goto F dX2_alikeTo_56 6 (by decide) ?_
            refine j_pick [1, 2, 3, 4, 5, 0] [(0, .ref (D.2.1 h)), (1, .int a1), (2, .int a2), (3, .int a3), (4, .int x4_6), (5, .int (nI (k5_6 + 1)))] rfl ?_
            exact ih_6 x4_6 (k5_6 + 1) (by omega) (by omega)
        · rw [if_pos c_18]
          refine j_iinc F dX2_alikeTo_53 56 rfl 5 rfl (nI (k5_6 + 1)) (nI_inc k5_6) (by decide) [(5, .int (nI (k5_6 + 1))), (0, .ref (D.2.1 h)), (1, .int a1), (2, .int a2), (3, .int a3), (4, .int x4_6)] rfl ?_
          refine j_goto F dX2_alikeTo_56 6 (by decide) ?_
          refine j_pick [1, 2, 3, 4, 5, 0] [(0, .ref (D.2.1 h)), (1, .int a1), (2, .int a2), (3, .int a3), (4, .int x4_6), (5, .int (nI (k5_6 + 1)))] rfl ?_
          exact ih_6 x4_6 (k5_6 + 1) (by omega) (by omega)
      · rw [if_neg c_12]
        refine j_iload F dX2_alikeTo_59 61 rfl 4 rfl ?_
        exact j_ret_i F dX2_alikeTo_61 rfl rfl rfl
  refine j_pick [2, 3, 4, 5, 1, 0] [(0, .ref (D.2.1 h)), (1, .int a1), (2, .int a2), (3, .int a3), (4, .int 0), (5, .int 0)] rfl ?_
  exact lp_6 (mX2_alikeTo_6 σ h a1 a2 a3 + 1) 0 0 (by omega) (by omega)
end
section
theorem zz_look : True := trivial
end
