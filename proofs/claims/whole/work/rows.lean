section
-- ===== PART A: goes FIRST, ahead of the names: the tables' words, and 'selects' of the private methods out of them =====
/-- a private method of a class that the tables say can be made, by its rows of tables_1 -/
def lw_okq (q : MethodName × Nat) : Prop := (q.1.cls ≠ "java/lang/invoke/MethodHandle" ∧ q.1.cls ≠ "java/lang/invoke/VarHandle") ∧ Cond.instantiable q.1.cls q.2 ∈ tables_1 ∧ Cond.privateMethod q.1 ∈ tables_1 ∧ Cond.instanceMethod q.1 ∈ tables_1
theorem lw_p0 : lw_okq (⟨"LightCoins$Text", "advance", "()V"⟩, 6) := ⟨⟨by decide +kernel, by decide +kernel⟩, List.mem_of_getElem? (i := 27) (by decide +kernel), List.mem_of_getElem? (i := 254) (by decide +kernel), List.mem_of_getElem? (i := 255) (by decide +kernel)⟩
theorem lw_p1 : lw_okq (⟨"LightCoins$Text", "numberToken", "()I"⟩, 6) := ⟨⟨by decide +kernel, by decide +kernel⟩, List.mem_of_getElem? (i := 27) (by decide +kernel), List.mem_of_getElem? (i := 261) (by decide +kernel), List.mem_of_getElem? (i := 262) (by decide +kernel)⟩
theorem lw_p2 : lw_okq (⟨"LightCoins$Text", "wordToken", "()I"⟩, 6) := ⟨⟨by decide +kernel, by decide +kernel⟩, List.mem_of_getElem? (i := 27) (by decide +kernel), List.mem_of_getElem? (i := 271) (by decide +kernel), List.mem_of_getElem? (i := 272) (by decide +kernel)⟩
theorem lw_p3 : lw_okq (⟨"LightCoins$Text", "wordIs", "(Ljava/lang/String;)Z"⟩, 6) := ⟨⟨by decide +kernel, by decide +kernel⟩, List.mem_of_getElem? (i := 27) (by decide +kernel), List.mem_of_getElem? (i := 276) (by decide +kernel), List.mem_of_getElem? (i := 277) (by decide +kernel)⟩
theorem lw_p4 : lw_okq (⟨"LightCoins$Text", "readItem", "(LLightCoins$Town;I)Z"⟩, 6) := ⟨⟨by decide +kernel, by decide +kernel⟩, List.mem_of_getElem? (i := 27) (by decide +kernel), List.mem_of_getElem? (i := 332) (by decide +kernel), List.mem_of_getElem? (i := 333) (by decide +kernel)⟩
theorem lw_p5 : lw_okq (⟨"LightCoins", "isPerson", "(I)Z"⟩, 13) := ⟨⟨by decide +kernel, by decide +kernel⟩, List.mem_of_getElem? (i := 19) (by decide +kernel), List.mem_of_getElem? (i := 349) (by decide +kernel), List.mem_of_getElem? (i := 350) (by decide +kernel)⟩
theorem lw_p6 : lw_okq (⟨"LightCoins", "holdMeeting", "()V"⟩, 13) := ⟨⟨by decide +kernel, by decide +kernel⟩, List.mem_of_getElem? (i := 19) (by decide +kernel), List.mem_of_getElem? (i := 405) (by decide +kernel), List.mem_of_getElem? (i := 406) (by decide +kernel)⟩
theorem lw_p7 : lw_okq (⟨"LightCoins", "draw", "()I"⟩, 13) := ⟨⟨by decide +kernel, by decide +kernel⟩, List.mem_of_getElem? (i := 19) (by decide +kernel), List.mem_of_getElem? (i := 409) (by decide +kernel), List.mem_of_getElem? (i := 410) (by decide +kernel)⟩
theorem lw_p8 : lw_okq (⟨"LightCoins", "looksNow", "(I)Z"⟩, 13) := ⟨⟨by decide +kernel, by decide +kernel⟩, List.mem_of_getElem? (i := 19) (by decide +kernel), List.mem_of_getElem? (i := 414) (by decide +kernel), List.mem_of_getElem? (i := 415) (by decide +kernel)⟩
theorem lw_p9 : lw_okq (⟨"LightCoins", "weightToPay", "(IZ)I"⟩, 13) := ⟨⟨by decide +kernel, by decide +kernel⟩, List.mem_of_getElem? (i := 19) (by decide +kernel), List.mem_of_getElem? (i := 418) (by decide +kernel), List.mem_of_getElem? (i := 419) (by decide +kernel)⟩
theorem lw_p10 : lw_okq (⟨"LightCoins", "dayRefusal", "(II)I"⟩, 13) := ⟨⟨by decide +kernel, by decide +kernel⟩, List.mem_of_getElem? (i := 19) (by decide +kernel), List.mem_of_getElem? (i := 450) (by decide +kernel), List.mem_of_getElem? (i := 451) (by decide +kernel)⟩
theorem lw_p11 : lw_okq (⟨"LightCoins$Day", "sumGrains", "([III)V"⟩, 5) := ⟨⟨by decide +kernel, by decide +kernel⟩, List.mem_of_getElem? (i := 101) (by decide +kernel), List.mem_of_getElem? (i := 465) (by decide +kernel), List.mem_of_getElem? (i := 466) (by decide +kernel)⟩
theorem lw_p12 : lw_okq (⟨"LightCoins$Day", "goesUp", "(I)Z"⟩, 5) := ⟨⟨by decide +kernel, by decide +kernel⟩, List.mem_of_getElem? (i := 101) (by decide +kernel), List.mem_of_getElem? (i := 502) (by decide +kernel), List.mem_of_getElem? (i := 503) (by decide +kernel)⟩
theorem lw_p13 : lw_okq (⟨"LightCoins$Day", "lookOverTale", "(I)J"⟩, 5) := ⟨⟨by decide +kernel, by decide +kernel⟩, List.mem_of_getElem? (i := 101) (by decide +kernel), List.mem_of_getElem? (i := 506) (by decide +kernel), List.mem_of_getElem? (i := 507) (by decide +kernel)⟩
theorem lw_p14 : lw_okq (⟨"LightCoins$Day", "goesDown", "(I)Z"⟩, 5) := ⟨⟨by decide +kernel, by decide +kernel⟩, List.mem_of_getElem? (i := 101) (by decide +kernel), List.mem_of_getElem? (i := 514) (by decide +kernel), List.mem_of_getElem? (i := 515) (by decide +kernel)⟩
theorem lw_p15 : lw_okq (⟨"LightCoins$Day", "weightsOf", "(III)I"⟩, 5) := ⟨⟨by decide +kernel, by decide +kernel⟩, List.mem_of_getElem? (i := 101) (by decide +kernel), List.mem_of_getElem? (i := 543) (by decide +kernel), List.mem_of_getElem? (i := 544) (by decide +kernel)⟩
def lw_privs_1 : List (MethodName × Nat) := [(⟨"LightCoins$Text", "advance", "()V"⟩, 6), (⟨"LightCoins$Text", "numberToken", "()I"⟩, 6), (⟨"LightCoins$Text", "wordToken", "()I"⟩, 6), (⟨"LightCoins$Text", "wordIs", "(Ljava/lang/String;)Z"⟩, 6), (⟨"LightCoins$Text", "readItem", "(LLightCoins$Town;I)Z"⟩, 6), (⟨"LightCoins", "isPerson", "(I)Z"⟩, 13), (⟨"LightCoins", "holdMeeting", "()V"⟩, 13), (⟨"LightCoins", "draw", "()I"⟩, 13), (⟨"LightCoins", "looksNow", "(I)Z"⟩, 13), (⟨"LightCoins", "weightToPay", "(IZ)I"⟩, 13), (⟨"LightCoins", "dayRefusal", "(II)I"⟩, 13), (⟨"LightCoins$Day", "sumGrains", "([III)V"⟩, 5), (⟨"LightCoins$Day", "goesUp", "(I)Z"⟩, 5), (⟨"LightCoins$Day", "lookOverTale", "(I)J"⟩, 5), (⟨"LightCoins$Day", "goesDown", "(I)Z"⟩, 5), (⟨"LightCoins$Day", "weightsOf", "(III)I"⟩, 5)]
theorem lw_r1 : ∀ q ∈ lw_privs_1, lw_okq q := List.forall_mem_cons.mpr ⟨lw_p0, List.forall_mem_cons.mpr ⟨lw_p1, List.forall_mem_cons.mpr ⟨lw_p2, List.forall_mem_cons.mpr ⟨lw_p3, List.forall_mem_cons.mpr ⟨lw_p4, List.forall_mem_cons.mpr ⟨lw_p5, List.forall_mem_cons.mpr ⟨lw_p6, List.forall_mem_cons.mpr ⟨lw_p7, List.forall_mem_cons.mpr ⟨lw_p8, List.forall_mem_cons.mpr ⟨lw_p9, List.forall_mem_cons.mpr ⟨lw_p10, List.forall_mem_cons.mpr ⟨lw_p11, List.forall_mem_cons.mpr ⟨lw_p12, List.forall_mem_cons.mpr ⟨lw_p13, List.forall_mem_cons.mpr ⟨lw_p14, List.forall_mem_cons.mpr ⟨lw_p15, fun _ h => absurd h List.not_mem_nil⟩⟩⟩⟩⟩⟩⟩⟩⟩⟩⟩⟩⟩⟩⟩⟩
theorem lw_p16 : lw_okq (⟨"LightCoins", "clippedUntil", "(I)I"⟩, 13) := ⟨⟨by decide +kernel, by decide +kernel⟩, List.mem_of_getElem? (i := 19) (by decide +kernel), List.mem_of_getElem? (i := 553) (by decide +kernel), List.mem_of_getElem? (i := 554) (by decide +kernel)⟩
theorem lw_p17 : lw_okq (⟨"LightCoins", "worthScaled", "(I)J"⟩, 13) := ⟨⟨by decide +kernel, by decide +kernel⟩, List.mem_of_getElem? (i := 19) (by decide +kernel), List.mem_of_getElem? (i := 557) (by decide +kernel), List.mem_of_getElem? (i := 558) (by decide +kernel)⟩
theorem lw_p18 : lw_okq (⟨"LightCoins", "worthAsItIs", "(I)I"⟩, 13) := ⟨⟨by decide +kernel, by decide +kernel⟩, List.mem_of_getElem? (i := 19) (by decide +kernel), List.mem_of_getElem? (i := 561) (by decide +kernel), List.mem_of_getElem? (i := 562) (by decide +kernel)⟩
theorem lw_p19 : lw_okq (⟨"LightCoins", "clippedScaled", "(IJ)J"⟩, 13) := ⟨⟨by decide +kernel, by decide +kernel⟩, List.mem_of_getElem? (i := 19) (by decide +kernel), List.mem_of_getElem? (i := 569) (by decide +kernel), List.mem_of_getElem? (i := 570) (by decide +kernel)⟩
theorem lw_p20 : lw_okq (⟨"LightCoins", "heldAtWhenMelted", "(III)I"⟩, 13) := ⟨⟨by decide +kernel, by decide +kernel⟩, List.mem_of_getElem? (i := 19) (by decide +kernel), List.mem_of_getElem? (i := 618) (by decide +kernel), List.mem_of_getElem? (i := 619) (by decide +kernel)⟩
theorem lw_p21 : lw_okq (⟨"LightCoins$Town", "everybody", "()I"⟩, 5) := ⟨⟨by decide +kernel, by decide +kernel⟩, List.mem_of_getElem? (i := 156) (by decide +kernel), List.mem_of_getElem? (i := 652) (by decide +kernel), List.mem_of_getElem? (i := 653) (by decide +kernel)⟩
theorem lw_p22 : lw_okq (⟨"LightCoins$Town", "afterRound", "(I)I"⟩, 5) := ⟨⟨by decide +kernel, by decide +kernel⟩, List.mem_of_getElem? (i := 156) (by decide +kernel), List.mem_of_getElem? (i := 656) (by decide +kernel), List.mem_of_getElem? (i := 657) (by decide +kernel)⟩
theorem lw_p23 : lw_okq (⟨"LightCoins", "asWay", "(I)I"⟩, 13) := ⟨⟨by decide +kernel, by decide +kernel⟩, List.mem_of_getElem? (i := 19) (by decide +kernel), List.mem_of_getElem? (i := 684) (by decide +kernel), List.mem_of_getElem? (i := 685) (by decide +kernel)⟩
theorem lw_p24 : lw_okq (⟨"LightCoins", "asTale", "(I)I"⟩, 13) := ⟨⟨by decide +kernel, by decide +kernel⟩, List.mem_of_getElem? (i := 19) (by decide +kernel), List.mem_of_getElem? (i := 688) (by decide +kernel), List.mem_of_getElem? (i := 689) (by decide +kernel)⟩
theorem lw_p25 : lw_okq (⟨"LightCoins", "asLook", "(I)I"⟩, 13) := ⟨⟨by decide +kernel, by decide +kernel⟩, List.mem_of_getElem? (i := 19) (by decide +kernel), List.mem_of_getElem? (i := 692) (by decide +kernel), List.mem_of_getElem? (i := 693) (by decide +kernel)⟩
theorem lw_p26 : lw_okq (⟨"LightCoins", "asSome", "(I)I"⟩, 13) := ⟨⟨by decide +kernel, by decide +kernel⟩, List.mem_of_getElem? (i := 19) (by decide +kernel), List.mem_of_getElem? (i := 698) (by decide +kernel), List.mem_of_getElem? (i := 699) (by decide +kernel)⟩
theorem lw_p27 : lw_okq (⟨"LightCoins", "asPay", "(I)I"⟩, 13) := ⟨⟨by decide +kernel, by decide +kernel⟩, List.mem_of_getElem? (i := 19) (by decide +kernel), List.mem_of_getElem? (i := 703) (by decide +kernel), List.mem_of_getElem? (i := 704) (by decide +kernel)⟩
theorem lw_p28 : lw_okq (⟨"LightCoins", "asKeep", "(I)I"⟩, 13) := ⟨⟨by decide +kernel, by decide +kernel⟩, List.mem_of_getElem? (i := 19) (by decide +kernel), List.mem_of_getElem? (i := 708) (by decide +kernel), List.mem_of_getElem? (i := 709) (by decide +kernel)⟩
theorem lw_p29 : lw_okq (⟨"LightCoins", "asClip", "(I)I"⟩, 13) := ⟨⟨by decide +kernel, by decide +kernel⟩, List.mem_of_getElem? (i := 19) (by decide +kernel), List.mem_of_getElem? (i := 713) (by decide +kernel), List.mem_of_getElem? (i := 714) (by decide +kernel)⟩
theorem lw_p30 : lw_okq (⟨"LightCoinsModel", "next", "()V"⟩, 25) := ⟨⟨by decide +kernel, by decide +kernel⟩, List.mem_of_getElem? (i := 737) (by decide +kernel), List.mem_of_getElem? (i := 838) (by decide +kernel), List.mem_of_getElem? (i := 839) (by decide +kernel)⟩
theorem lw_p31 : lw_okq (⟨"LightCoinsModel", "here", "()I"⟩, 25) := ⟨⟨by decide +kernel, by decide +kernel⟩, List.mem_of_getElem? (i := 737) (by decide +kernel), List.mem_of_getElem? (i := 842) (by decide +kernel), List.mem_of_getElem? (i := 843) (by decide +kernel)⟩
def lw_privs_2 : List (MethodName × Nat) := [(⟨"LightCoins", "clippedUntil", "(I)I"⟩, 13), (⟨"LightCoins", "worthScaled", "(I)J"⟩, 13), (⟨"LightCoins", "worthAsItIs", "(I)I"⟩, 13), (⟨"LightCoins", "clippedScaled", "(IJ)J"⟩, 13), (⟨"LightCoins", "heldAtWhenMelted", "(III)I"⟩, 13), (⟨"LightCoins$Town", "everybody", "()I"⟩, 5), (⟨"LightCoins$Town", "afterRound", "(I)I"⟩, 5), (⟨"LightCoins", "asWay", "(I)I"⟩, 13), (⟨"LightCoins", "asTale", "(I)I"⟩, 13), (⟨"LightCoins", "asLook", "(I)I"⟩, 13), (⟨"LightCoins", "asSome", "(I)I"⟩, 13), (⟨"LightCoins", "asPay", "(I)I"⟩, 13), (⟨"LightCoins", "asKeep", "(I)I"⟩, 13), (⟨"LightCoins", "asClip", "(I)I"⟩, 13), (⟨"LightCoinsModel", "next", "()V"⟩, 25), (⟨"LightCoinsModel", "here", "()I"⟩, 25)]
theorem lw_r2 : ∀ q ∈ lw_privs_2, lw_okq q := List.forall_mem_cons.mpr ⟨lw_p16, List.forall_mem_cons.mpr ⟨lw_p17, List.forall_mem_cons.mpr ⟨lw_p18, List.forall_mem_cons.mpr ⟨lw_p19, List.forall_mem_cons.mpr ⟨lw_p20, List.forall_mem_cons.mpr ⟨lw_p21, List.forall_mem_cons.mpr ⟨lw_p22, List.forall_mem_cons.mpr ⟨lw_p23, List.forall_mem_cons.mpr ⟨lw_p24, List.forall_mem_cons.mpr ⟨lw_p25, List.forall_mem_cons.mpr ⟨lw_p26, List.forall_mem_cons.mpr ⟨lw_p27, List.forall_mem_cons.mpr ⟨lw_p28, List.forall_mem_cons.mpr ⟨lw_p29, List.forall_mem_cons.mpr ⟨lw_p30, List.forall_mem_cons.mpr ⟨lw_p31, fun _ h => absurd h List.not_mem_nil⟩⟩⟩⟩⟩⟩⟩⟩⟩⟩⟩⟩⟩⟩⟩⟩
theorem lw_p32 : lw_okq (⟨"LightCoinsModel", "word", "()V"⟩, 25) := ⟨⟨by decide +kernel, by decide +kernel⟩, List.mem_of_getElem? (i := 737) (by decide +kernel), List.mem_of_getElem? (i := 848) (by decide +kernel), List.mem_of_getElem? (i := 849) (by decide +kernel)⟩
theorem lw_p33 : lw_okq (⟨"LightCoinsModel", "isSpelled", "(IIIII)Z"⟩, 25) := ⟨⟨by decide +kernel, by decide +kernel⟩, List.mem_of_getElem? (i := 737) (by decide +kernel), List.mem_of_getElem? (i := 852) (by decide +kernel), List.mem_of_getElem? (i := 853) (by decide +kernel)⟩
theorem lw_p34 : lw_okq (⟨"LightCoinsModel", "due", "(Z)I"⟩, 25) := ⟨⟨by decide +kernel, by decide +kernel⟩, List.mem_of_getElem? (i := 737) (by decide +kernel), List.mem_of_getElem? (i := 858) (by decide +kernel), List.mem_of_getElem? (i := 859) (by decide +kernel)⟩
theorem lw_p35 : lw_okq (⟨"LightCoinsModel", "isPerson", "(I)Z"⟩, 25) := ⟨⟨by decide +kernel, by decide +kernel⟩, List.mem_of_getElem? (i := 737) (by decide +kernel), List.mem_of_getElem? (i := 866) (by decide +kernel), List.mem_of_getElem? (i := 867) (by decide +kernel)⟩
theorem lw_p36 : lw_okq (⟨"LightCoinsModel", "coinsOf", "(I)I"⟩, 25) := ⟨⟨by decide +kernel, by decide +kernel⟩, List.mem_of_getElem? (i := 737) (by decide +kernel), List.mem_of_getElem? (i := 870) (by decide +kernel), List.mem_of_getElem? (i := 871) (by decide +kernel)⟩
theorem lw_p37 : lw_okq (⟨"LightCoinsModel", "ofAll", "(I)I"⟩, 25) := ⟨⟨by decide +kernel, by decide +kernel⟩, List.mem_of_getElem? (i := 737) (by decide +kernel), List.mem_of_getElem? (i := 885) (by decide +kernel), List.mem_of_getElem? (i := 886) (by decide +kernel)⟩
theorem lw_p38 : lw_okq (⟨"LightCoinsModel", "meetOnce", "()I"⟩, 25) := ⟨⟨by decide +kernel, by decide +kernel⟩, List.mem_of_getElem? (i := 737) (by decide +kernel), List.mem_of_getElem? (i := 905) (by decide +kernel), List.mem_of_getElem? (i := 906) (by decide +kernel)⟩
theorem lw_p39 : lw_okq (⟨"LightCoinsModel", "draw", "(I)I"⟩, 25) := ⟨⟨by decide +kernel, by decide +kernel⟩, List.mem_of_getElem? (i := 737) (by decide +kernel), List.mem_of_getElem? (i := 909) (by decide +kernel), List.mem_of_getElem? (i := 910) (by decide +kernel)⟩
theorem lw_p40 : lw_okq (⟨"LightCoinsModel", "isDay", "(II)Z"⟩, 25) := ⟨⟨by decide +kernel, by decide +kernel⟩, List.mem_of_getElem? (i := 737) (by decide +kernel), List.mem_of_getElem? (i := 928) (by decide +kernel), List.mem_of_getElem? (i := 929) (by decide +kernel)⟩
theorem lw_p41 : lw_okq (⟨"LightCoinsModel", "allCoins", "()I"⟩, 25) := ⟨⟨by decide +kernel, by decide +kernel⟩, List.mem_of_getElem? (i := 737) (by decide +kernel), List.mem_of_getElem? (i := 933) (by decide +kernel), List.mem_of_getElem? (i := 934) (by decide +kernel)⟩
theorem lw_p42 : lw_okq (⟨"LightCoinsModel", "taleUp", "(II)I"⟩, 25) := ⟨⟨by decide +kernel, by decide +kernel⟩, List.mem_of_getElem? (i := 737) (by decide +kernel), List.mem_of_getElem? (i := 938) (by decide +kernel), List.mem_of_getElem? (i := 939) (by decide +kernel)⟩
theorem lw_p43 : lw_okq (⟨"LightCoinsModel", "grains", "(IZ)I"⟩, 25) := ⟨⟨by decide +kernel, by decide +kernel⟩, List.mem_of_getElem? (i := 737) (by decide +kernel), List.mem_of_getElem? (i := 942) (by decide +kernel), List.mem_of_getElem? (i := 943) (by decide +kernel)⟩
theorem lw_p44 : lw_okq (⟨"LightCoinsModel", "lookUp", "(I)I"⟩, 25) := ⟨⟨by decide +kernel, by decide +kernel⟩, List.mem_of_getElem? (i := 737) (by decide +kernel), List.mem_of_getElem? (i := 946) (by decide +kernel), List.mem_of_getElem? (i := 947) (by decide +kernel)⟩
theorem lw_p45 : lw_okq (⟨"LightCoinsModel", "isUp", "(II)Z"⟩, 25) := ⟨⟨by decide +kernel, by decide +kernel⟩, List.mem_of_getElem? (i := 737) (by decide +kernel), List.mem_of_getElem? (i := 961) (by decide +kernel), List.mem_of_getElem? (i := 962) (by decide +kernel)⟩
theorem lw_p46 : lw_okq (⟨"LightCoinsModel", "isDown", "(II)Z"⟩, 25) := ⟨⟨by decide +kernel, by decide +kernel⟩, List.mem_of_getElem? (i := 737) (by decide +kernel), List.mem_of_getElem? (i := 965) (by decide +kernel), List.mem_of_getElem? (i := 966) (by decide +kernel)⟩
theorem lw_p47 : lw_okq (⟨"LightCoinsModel", "end", "(II)I"⟩, 25) := ⟨⟨by decide +kernel, by decide +kernel⟩, List.mem_of_getElem? (i := 737) (by decide +kernel), List.mem_of_getElem? (i := 973) (by decide +kernel), List.mem_of_getElem? (i := 974) (by decide +kernel)⟩
def lw_privs_3 : List (MethodName × Nat) := [(⟨"LightCoinsModel", "word", "()V"⟩, 25), (⟨"LightCoinsModel", "isSpelled", "(IIIII)Z"⟩, 25), (⟨"LightCoinsModel", "due", "(Z)I"⟩, 25), (⟨"LightCoinsModel", "isPerson", "(I)Z"⟩, 25), (⟨"LightCoinsModel", "coinsOf", "(I)I"⟩, 25), (⟨"LightCoinsModel", "ofAll", "(I)I"⟩, 25), (⟨"LightCoinsModel", "meetOnce", "()I"⟩, 25), (⟨"LightCoinsModel", "draw", "(I)I"⟩, 25), (⟨"LightCoinsModel", "isDay", "(II)Z"⟩, 25), (⟨"LightCoinsModel", "allCoins", "()I"⟩, 25), (⟨"LightCoinsModel", "taleUp", "(II)I"⟩, 25), (⟨"LightCoinsModel", "grains", "(IZ)I"⟩, 25), (⟨"LightCoinsModel", "lookUp", "(I)I"⟩, 25), (⟨"LightCoinsModel", "isUp", "(II)Z"⟩, 25), (⟨"LightCoinsModel", "isDown", "(II)Z"⟩, 25), (⟨"LightCoinsModel", "end", "(II)I"⟩, 25)]
theorem lw_r3 : ∀ q ∈ lw_privs_3, lw_okq q := List.forall_mem_cons.mpr ⟨lw_p32, List.forall_mem_cons.mpr ⟨lw_p33, List.forall_mem_cons.mpr ⟨lw_p34, List.forall_mem_cons.mpr ⟨lw_p35, List.forall_mem_cons.mpr ⟨lw_p36, List.forall_mem_cons.mpr ⟨lw_p37, List.forall_mem_cons.mpr ⟨lw_p38, List.forall_mem_cons.mpr ⟨lw_p39, List.forall_mem_cons.mpr ⟨lw_p40, List.forall_mem_cons.mpr ⟨lw_p41, List.forall_mem_cons.mpr ⟨lw_p42, List.forall_mem_cons.mpr ⟨lw_p43, List.forall_mem_cons.mpr ⟨lw_p44, List.forall_mem_cons.mpr ⟨lw_p45, List.forall_mem_cons.mpr ⟨lw_p46, List.forall_mem_cons.mpr ⟨lw_p47, fun _ h => absurd h List.not_mem_nil⟩⟩⟩⟩⟩⟩⟩⟩⟩⟩⟩⟩⟩⟩⟩⟩
theorem lw_p48 : lw_okq (⟨"LightCoinsModel", "findWorth", "()V"⟩, 25) := ⟨⟨by decide +kernel, by decide +kernel⟩, List.mem_of_getElem? (i := 737) (by decide +kernel), List.mem_of_getElem? (i := 990) (by decide +kernel), List.mem_of_getElem? (i := 991) (by decide +kernel)⟩
theorem lw_p49 : lw_okq (⟨"LightCoinsModel", "asIs", "(I)I"⟩, 25) := ⟨⟨by decide +kernel, by decide +kernel⟩, List.mem_of_getElem? (i := 737) (by decide +kernel), List.mem_of_getElem? (i := 994) (by decide +kernel), List.mem_of_getElem? (i := 995) (by decide +kernel)⟩
theorem lw_p50 : lw_okq (⟨"LightCoinsModel", "wear", "(I)V"⟩, 25) := ⟨⟨by decide +kernel, by decide +kernel⟩, List.mem_of_getElem? (i := 737) (by decide +kernel), List.mem_of_getElem? (i := 1003) (by decide +kernel), List.mem_of_getElem? (i := 1004) (by decide +kernel)⟩
theorem lw_p51 : lw_okq (⟨"LightCoinsModel", "there", "()I"⟩, 25) := ⟨⟨by decide +kernel, by decide +kernel⟩, List.mem_of_getElem? (i := 737) (by decide +kernel), List.mem_of_getElem? (i := 1011) (by decide +kernel), List.mem_of_getElem? (i := 1012) (by decide +kernel)⟩
theorem lw_p52 : lw_okq (⟨"LightCoinsModel", "heldAt", "(III)I"⟩, 25) := ⟨⟨by decide +kernel, by decide +kernel⟩, List.mem_of_getElem? (i := 737) (by decide +kernel), List.mem_of_getElem? (i := 1024) (by decide +kernel), List.mem_of_getElem? (i := 1025) (by decide +kernel)⟩
theorem lw_p53 : lw_okq (⟨"LightCoinsModel", "sumOf", "(II)I"⟩, 25) := ⟨⟨by decide +kernel, by decide +kernel⟩, List.mem_of_getElem? (i := 737) (by decide +kernel), List.mem_of_getElem? (i := 1037) (by decide +kernel), List.mem_of_getElem? (i := 1038) (by decide +kernel)⟩
theorem lw_p54 : lw_okq (⟨"LightCoinsModel", "spread", "(I)I"⟩, 25) := ⟨⟨by decide +kernel, by decide +kernel⟩, List.mem_of_getElem? (i := 737) (by decide +kernel), List.mem_of_getElem? (i := 1045) (by decide +kernel), List.mem_of_getElem? (i := 1046) (by decide +kernel)⟩
theorem lw_p55 : lw_okq (⟨"LightCoinsModel", "copy", "(II)V"⟩, 25) := ⟨⟨by decide +kernel, by decide +kernel⟩, List.mem_of_getElem? (i := 737) (by decide +kernel), List.mem_of_getElem? (i := 1071) (by decide +kernel), List.mem_of_getElem? (i := 1072) (by decide +kernel)⟩
def lw_privs_4 : List (MethodName × Nat) := [(⟨"LightCoinsModel", "findWorth", "()V"⟩, 25), (⟨"LightCoinsModel", "asIs", "(I)I"⟩, 25), (⟨"LightCoinsModel", "wear", "(I)V"⟩, 25), (⟨"LightCoinsModel", "there", "()I"⟩, 25), (⟨"LightCoinsModel", "heldAt", "(III)I"⟩, 25), (⟨"LightCoinsModel", "sumOf", "(II)I"⟩, 25), (⟨"LightCoinsModel", "spread", "(I)I"⟩, 25), (⟨"LightCoinsModel", "copy", "(II)V"⟩, 25)]
theorem lw_r4 : ∀ q ∈ lw_privs_4, lw_okq q := List.forall_mem_cons.mpr ⟨lw_p48, List.forall_mem_cons.mpr ⟨lw_p49, List.forall_mem_cons.mpr ⟨lw_p50, List.forall_mem_cons.mpr ⟨lw_p51, List.forall_mem_cons.mpr ⟨lw_p52, List.forall_mem_cons.mpr ⟨lw_p53, List.forall_mem_cons.mpr ⟨lw_p54, List.forall_mem_cons.mpr ⟨lw_p55, fun _ h => absurd h List.not_mem_nil⟩⟩⟩⟩⟩⟩⟩⟩
def lw_privs : List (MethodName × Nat) := lw_privs_1 ++ (lw_privs_2 ++ (lw_privs_3 ++ (lw_privs_4)))
def lw_tbl : List Cond := k2_sels lw_privs ++ tables_1
theorem lw_privs_ok : ∀ q ∈ lw_privs, lw_okq q := by
  show ∀ q ∈ lw_privs_1 ++ (lw_privs_2 ++ (lw_privs_3 ++ (lw_privs_4))), lw_okq q
  exact List.forall_mem_append.mpr ⟨lw_r1, List.forall_mem_append.mpr ⟨lw_r2, List.forall_mem_append.mpr ⟨lw_r3, lw_r4⟩⟩⟩
-- ===== end of PART A; then your names; then what follows =====
end
section
/-! ===== BEGIN words of one list among another's, by their places ===== -/
theorem goodIn_r {big : List Cond} (ws : List Cond) (ps : List Nat) (hp : ws = ps.filterMap (fun i => big[i]?)) (h : ws.all goodWord = true) : GoodIn big ws := by
  intro w hw
  have h1 := List.all_eq_true.mp h w hw
  rw [hp] at hw
  obtain ⟨i, -, hi⟩ := List.mem_filterMap.mp hw
  have hm : w ∈ big := by first | exact List.mem_of_getElem? hi | exact List.getElem?_mem hi
  exact ⟨hm, good_of_word h1⟩
theorem goodIn_app {big a b : List Cond} (ha : GoodIn big a) (hb : GoodIn big b) : GoodIn big (a ++ b) := fun w h => (List.mem_append.mp h).elim (ha w) (hb w)
theorem goodIn_ca {big a b : List Cond} {c : Cond} (ha : GoodIn big (c :: a)) (hb : GoodIn big b) : GoodIn big (c :: (a ++ b)) := fun w h => (List.mem_cons.mp h).elim (fun e => ha w (List.mem_cons.mpr (Or.inl e))) (fun h => (List.mem_append.mp h).elim (fun h => ha w (List.mem_cons.mpr (Or.inr h))) (hb w))
theorem goodIn_sub {big ws : List Cond} (hm : ∀ w ∈ ws, w ∈ big) (h : ws.all goodWord = true) : GoodIn big ws := fun w hw => ⟨hm w hw, good_of_word (List.all_eq_true.mp h w hw)⟩
/-! ===== END ===== -/
/-! ===== BEGIN printed: names, fields, word lists, decode rows ===== -/
def RX0 : String := "LightCoins$Day"
def TX0 : u_T := fun k => match k with
  | 0 => ("LightCoins$Day", "ofWeight", "[I", true)
  | 1 => ("LightCoins$Day", "heaviest", "[I", true)
  | 2 => ("LightCoins$Day", "lightest", "[I", true)
  | 3 => ("LightCoins$Day", "n", "I", false)
  | _ => ("LightCoins$Day", "looking", "I", false)
def tyX0 : Nat → FieldType := fun k => match k with
  | 0 => .array .int
  | 1 => .array .int
  | 2 => .array .int
  | 3 => .int
  | _ => .int
abbrev wsX00 : List Cond := u_ws RX0 TX0 5
theorem nmX0 : ∀ a, a < 5 → ∀ b, b < 5 → a ≠ b → (TX0 a).2.1 ≠ (TX0 b).2.1 := by decide +kernel
theorem tyX0_ok : ∀ k, k < 5 → parseFieldDescriptor (TX0 k).2.2.1 = some (tyX0 k) := by decide +kernel
abbrev cX0_init : ByteArray := prog_2_method_1_code
def yX0_init : MethodName := ⟨RX0, "<init>", "()V"⟩
abbrev cX0_lay : ByteArray := prog_2_method_2_code
def yX0_lay : MethodName := ⟨RX0, "lay", "(LLightCoins$Purses;II)V"⟩
abbrev cX0_sumGrains : ByteArray := prog_2_method_3_code
def yX0_sumGrains : MethodName := ⟨RX0, "sumGrains", "([III)V"⟩
abbrev cX0_taleUpper : ByteArray := prog_2_method_4_code
def yX0_taleUpper : MethodName := ⟨RX0, "taleUpper", "(I)J"⟩
abbrev cX0_taleLower : ByteArray := prog_2_method_5_code
def yX0_taleLower : MethodName := ⟨RX0, "taleLower", "(I)J"⟩
abbrev cX0_lookUpper : ByteArray := prog_2_method_6_code
def yX0_lookUpper : MethodName := ⟨RX0, "lookUpper", "(I)J"⟩
abbrev cX0_lookLower : ByteArray := prog_2_method_7_code
def yX0_lookLower : MethodName := ⟨RX0, "lookLower", "(I)J"⟩
abbrev cX0_lookOverTale : ByteArray := prog_2_method_8_code
def yX0_lookOverTale : MethodName := ⟨RX0, "lookOverTale", "(I)J"⟩
abbrev cX0_goesUp : ByteArray := prog_2_method_9_code
def yX0_goesUp : MethodName := ⟨RX0, "goesUp", "(I)Z"⟩
abbrev cX0_goesDown : ByteArray := prog_2_method_10_code
def yX0_goesDown : MethodName := ⟨RX0, "goesDown", "(I)Z"⟩
abbrev cX0_allThatRest : ByteArray := prog_2_method_11_code
def yX0_allThatRest : MethodName := ⟨RX0, "allThatRest", "()I"⟩
abbrev cX0_endFrom : ByteArray := prog_2_method_12_code
def yX0_endFrom : MethodName := ⟨RX0, "endFrom", "(I)I"⟩
abbrev cX0_leastThatEndsInAll : ByteArray := prog_2_method_13_code
def yX0_leastThatEndsInAll : MethodName := ⟨RX0, "leastThatEndsInAll", "()I"⟩
abbrev cX0_weightsLeftOut : ByteArray := prog_2_method_14_code
def yX0_weightsLeftOut : MethodName := ⟨RX0, "weightsLeftOut", "(I)I"⟩
abbrev cX0_weightsOf : ByteArray := prog_2_method_15_code
def yX0_weightsOf : MethodName := ⟨RX0, "weightsOf", "(III)I"⟩
def RX1 : String := "LightCoins$Image"
def TX1 : u_T := fun k => match k with
  | 0 => ("LightCoins$Image", "purses", "LLightCoins$Purses;", true)
  | 1 => ("LightCoins$Image", "lot", "I", false)
  | 2 => ("LightCoins$Image", "year", "I", false)
  | _ => ("LightCoins$Image", "kept", "Z", false)
def tyX1 : Nat → FieldType := fun k => match k with
  | 0 => .object "LightCoins$Purses"
  | 1 => .int
  | 2 => .int
  | _ => .boolean
abbrev wsX10 : List Cond := u_ws RX1 TX1 4
theorem nmX1 : ∀ a, a < 4 → ∀ b, b < 4 → a ≠ b → (TX1 a).2.1 ≠ (TX1 b).2.1 := by decide +kernel
theorem tyX1_ok : ∀ k, k < 4 → parseFieldDescriptor (TX1 k).2.2.1 = some (tyX1 k) := by decide +kernel
abbrev cX1_init : ByteArray := prog_3_method_1_code
def yX1_init : MethodName := ⟨RX1, "<init>", "()V"⟩
def RX2 : String := "LightCoins$Laws"
def TX2 : u_T := fun k => match k with
  | _ => ("LightCoins$Laws", "value", "[I", true)
def tyX2 : Nat → FieldType := fun k => match k with
  | _ => .array .int
abbrev wsX20 : List Cond := u_ws RX2 TX2 1
theorem nmX2 : ∀ a, a < 1 → ∀ b, b < 1 → a ≠ b → (TX2 a).2.1 ≠ (TX2 b).2.1 := by decide +kernel
theorem tyX2_ok : ∀ k, k < 1 → parseFieldDescriptor (TX2 k).2.2.1 = some (tyX2 k) := by decide +kernel
abbrev cX2_init : ByteArray := prog_4_method_1_code
def yX2_init : MethodName := ⟨RX2, "<init>", "()V"⟩
abbrev cX2_set : ByteArray := prog_4_method_2_code
def yX2_set : MethodName := ⟨RX2, "set", "(III)I"⟩
abbrev cX2_sumOf : ByteArray := prog_4_method_3_code
def yX2_sumOf : MethodName := ⟨RX2, "sumOf", "(II)I"⟩
abbrev cX2_cheapestSet : ByteArray := prog_4_method_4_code
def yX2_cheapestSet : MethodName := ⟨RX2, "cheapestSet", "(II)I"⟩
def RX3 : String := "LightCoins$Meeting"
def TX3 : u_T := fun k => match k with
  | 0 => ("LightCoins$Meeting", "payer", "I", false)
  | 1 => ("LightCoins$Meeting", "taker", "I", false)
  | 2 => ("LightCoins$Meeting", "looked", "I", false)
  | 3 => ("LightCoins$Meeting", "paid", "I", false)
  | _ => ("LightCoins$Meeting", "number", "I", false)
def tyX3 : Nat → FieldType := fun k => match k with
  | 0 => .int
  | 1 => .int
  | 2 => .int
  | 3 => .int
  | _ => .int
abbrev wsX30 : List Cond := u_ws RX3 TX3 5
theorem nmX3 : ∀ a, a < 5 → ∀ b, b < 5 → a ≠ b → (TX3 a).2.1 ≠ (TX3 b).2.1 := by decide +kernel
theorem tyX3_ok : ∀ k, k < 5 → parseFieldDescriptor (TX3 k).2.2.1 = some (tyX3 k) := by decide +kernel
abbrev cX3_init : ByteArray := prog_5_method_1_code
def yX3_init : MethodName := ⟨RX3, "<init>", "()V"⟩
abbrev cX3_forget : ByteArray := prog_5_method_2_code
def yX3_forget : MethodName := ⟨RX3, "forget", "()V"⟩
abbrev cX3_note : ByteArray := prog_5_method_3_code
def yX3_note : MethodName := ⟨RX3, "note", "(IIII)V"⟩
def RX4 : String := "LightCoins$Purses"
def TX4 : u_T := fun k => match k with
  | _ => ("LightCoins$Purses", "cells", "[I", true)
def tyX4 : Nat → FieldType := fun k => match k with
  | _ => .array .int
abbrev wsX40 : List Cond := u_ws RX4 TX4 1
theorem nmX4 : ∀ a, a < 1 → ∀ b, b < 1 → a ≠ b → (TX4 a).2.1 ≠ (TX4 b).2.1 := by decide +kernel
theorem tyX4_ok : ∀ k, k < 1 → parseFieldDescriptor (TX4 k).2.2.1 = some (tyX4 k) := by decide +kernel
abbrev cX4_init : ByteArray := prog_6_method_1_code
def yX4_init : MethodName := ⟨RX4, "<init>", "()V"⟩
abbrev cX4_held : ByteArray := prog_6_method_2_code
def yX4_held : MethodName := ⟨RX4, "held", "(II)I"⟩
abbrev cX4_put : ByteArray := prog_6_method_3_code
def yX4_put : MethodName := ⟨RX4, "put", "(III)V"⟩
abbrev cX4_empty : ByteArray := prog_6_method_4_code
def yX4_empty : MethodName := ⟨RX4, "empty", "()V"⟩
abbrev cX4_copyFrom : ByteArray := prog_6_method_5_code
def yX4_copyFrom : MethodName := ⟨RX4, "copyFrom", "(LLightCoins$Purses;)V"⟩
abbrev cX4_coinsOf : ByteArray := prog_6_method_6_code
def yX4_coinsOf : MethodName := ⟨RX4, "coinsOf", "(I)I"⟩
abbrev cX4_coinsAbove : ByteArray := prog_6_method_7_code
def yX4_coinsAbove : MethodName := ⟨RX4, "coinsAbove", "(II)I"⟩
abbrev cX4_ofWeight : ByteArray := prog_6_method_8_code
def yX4_ofWeight : MethodName := ⟨RX4, "ofWeight", "(I)I"⟩
abbrev cX4_allCoins : ByteArray := prog_6_method_9_code
def yX4_allCoins : MethodName := ⟨RX4, "allCoins", "()I"⟩
abbrev cX4_allGrains : ByteArray := prog_6_method_10_code
def yX4_allGrains : MethodName := ⟨RX4, "allGrains", "()I"⟩
abbrev cX4_move : ByteArray := prog_6_method_11_code
def yX4_move : MethodName := ⟨RX4, "move", "(III)Z"⟩
abbrev cX4_loseGrain : ByteArray := prog_6_method_12_code
def yX4_loseGrain : MethodName := ⟨RX4, "loseGrain", "()V"⟩
abbrev cX4_isShabby : ByteArray := prog_6_method_13_code
def yX4_isShabby : MethodName := ⟨RX4, "isShabby", "(I)Z"⟩
def RX5 : String := "LightCoins$Text"
def TX5 : u_T := fun k => match k with
  | 0 => ("LightCoins$Text", "bytes", "[I", true)
  | 1 => ("LightCoins$Text", "length", "I", false)
  | 2 => ("LightCoins$Text", "at", "I", false)
  | 3 => ("LightCoins$Text", "start", "I", false)
  | 4 => ("LightCoins$Text", "token", "I", false)
  | _ => ("LightCoins$Text", "number", "I", false)
def tyX5 : Nat → FieldType := fun k => match k with
  | 0 => .array .int
  | 1 => .int
  | 2 => .int
  | 3 => .int
  | 4 => .int
  | _ => .int
abbrev wsX50 : List Cond := u_ws RX5 TX5 6
theorem nmX5 : ∀ a, a < 6 → ∀ b, b < 6 → a ≠ b → (TX5 a).2.1 ≠ (TX5 b).2.1 := by decide +kernel
theorem tyX5_ok : ∀ k, k < 6 → parseFieldDescriptor (TX5 k).2.2.1 = some (tyX5 k) := by decide +kernel
abbrev cX5_init : ByteArray := prog_7_method_1_code
def yX5_init : MethodName := ⟨RX5, "<init>", "()V"⟩
abbrev cX5_hasRoom : ByteArray := prog_7_method_2_code
def yX5_hasRoom : MethodName := ⟨RX5, "hasRoom", "(I)Z"⟩
abbrev cX5_append : ByteArray := prog_7_method_3_code
def yX5_append : MethodName := ⟨RX5, "append", "(I)V"⟩
abbrev cX5_readInto : ByteArray := prog_7_method_4_code
def yX5_readInto : MethodName := ⟨RX5, "readInto", "(LLightCoins$Town;)I"⟩
abbrev cX5_readItem : ByteArray := prog_7_method_5_code
def yX5_readItem : MethodName := ⟨RX5, "readItem", "(LLightCoins$Town;I)Z"⟩
abbrev cX5_advance : ByteArray := prog_7_method_6_code
def yX5_advance : MethodName := ⟨RX5, "advance", "()V"⟩
abbrev cX5_numberToken : ByteArray := prog_7_method_7_code
def yX5_numberToken : MethodName := ⟨RX5, "numberToken", "()I"⟩
abbrev cX5_wordToken : ByteArray := prog_7_method_8_code
def yX5_wordToken : MethodName := ⟨RX5, "wordToken", "()I"⟩
abbrev cX5_wordIs : ByteArray := prog_7_method_9_code
def yX5_wordIs : MethodName := ⟨RX5, "wordIs", "(Ljava/lang/String;)Z"⟩
abbrev cX5_isDigit : ByteArray := prog_7_method_10_code
def yX5_isDigit : MethodName := ⟨RX5, "isDigit", "(I)Z"⟩
abbrev cX5_isLetter : ByteArray := prog_7_method_11_code
def yX5_isLetter : MethodName := ⟨RX5, "isLetter", "(I)Z"⟩
def RX6 : String := "LightCoins$Town"
def TX6 : u_T := fun k => match k with
  | 0 => ("LightCoins$Town", "way", "[I", true)
  | 1 => ("LightCoins$Town", "tenths", "[I", true)
  | 2 => ("LightCoins$Town", "pay", "[I", true)
  | 3 => ("LightCoins$Town", "others", "[I", true)
  | _ => ("LightCoins$Town", "people", "I", false)
def tyX6 : Nat → FieldType := fun k => match k with
  | 0 => .array .int
  | 1 => .array .int
  | 2 => .array .int
  | 3 => .array .int
  | _ => .int
abbrev wsX60 : List Cond := u_ws RX6 TX6 5
theorem nmX6 : ∀ a, a < 5 → ∀ b, b < 5 → a ≠ b → (TX6 a).2.1 ≠ (TX6 b).2.1 := by decide +kernel
theorem tyX6_ok : ∀ k, k < 5 → parseFieldDescriptor (TX6 k).2.2.1 = some (tyX6 k) := by decide +kernel
abbrev cX6_init : ByteArray := prog_8_method_1_code
def yX6_init : MethodName := ⟨RX6, "<init>", "()V"⟩
abbrev cX6_everybody : ByteArray := prog_8_method_2_code
def yX6_everybody : MethodName := ⟨RX6, "everybody", "()I"⟩
abbrev cX6_afterRound : ByteArray := prog_8_method_3_code
def yX6_afterRound : MethodName := ⟨RX6, "afterRound", "(I)I"⟩
abbrev cX6_takersFrom : ByteArray := prog_8_method_4_code
def yX6_takersFrom : MethodName := ⟨RX6, "takersFrom", "(I)I"⟩
abbrev cX6_roundsFrom : ByteArray := prog_8_method_5_code
def yX6_roundsFrom : MethodName := ⟨RX6, "roundsFrom", "(I)I"⟩
abbrev cX6_leastSeeds : ByteArray := prog_8_method_6_code
def yX6_leastSeeds : MethodName := ⟨RX6, "leastSeeds", "()I"⟩
def RX7 : String := "LightCoins$Tunes"
def TX7 : u_T := fun k => match k with
  | _ => ("LightCoins$Tunes", "value", "[I", true)
def tyX7 : Nat → FieldType := fun k => match k with
  | _ => .array .int
abbrev wsX70 : List Cond := u_ws RX7 TX7 1
theorem nmX7 : ∀ a, a < 1 → ∀ b, b < 1 → a ≠ b → (TX7 a).2.1 ≠ (TX7 b).2.1 := by decide +kernel
theorem tyX7_ok : ∀ k, k < 1 → parseFieldDescriptor (TX7 k).2.2.1 = some (tyX7 k) := by decide +kernel
abbrev cX7_init : ByteArray := prog_9_method_1_code
def yX7_init : MethodName := ⟨RX7, "<init>", "()V"⟩
abbrev cX7_of : ByteArray := prog_9_method_2_code
def yX7_of : MethodName := ⟨RX7, "of", "(I)I"⟩
abbrev cX7_set : ByteArray := prog_9_method_3_code
def yX7_set : MethodName := ⟨RX7, "set", "(II)I"⟩
def RX8 : String := "LightCoins"
def TX8 : u_T := fun k => match k with
  | 0 => ("LightCoins", "text", "LLightCoins$Text;", true)
  | 1 => ("LightCoins", "purses", "LLightCoins$Purses;", true)
  | 2 => ("LightCoins", "scratch", "LLightCoins$Purses;", true)
  | 3 => ("LightCoins", "tunes", "LLightCoins$Tunes;", true)
  | 4 => ("LightCoins", "latest", "LLightCoins$Meeting;", true)
  | 5 => ("LightCoins", "day", "LLightCoins$Day;", true)
  | 6 => ("LightCoins", "laws", "LLightCoins$Laws;", true)
  | 7 => ("LightCoins", "images", "[LLightCoins$Image;", true)
  | 8 => ("LightCoins", "town", "LLightCoins$Town;", false)
  | 9 => ("LightCoins", "draft", "LLightCoins$Town;", false)
  | 10 => ("LightCoins", "lot", "I", false)
  | 11 => ("LightCoins", "year", "I", false)
  | _ => ("LightCoins", "trace", "J", false)
def tyX8 : Nat → FieldType := fun k => match k with
  | 0 => .object "LightCoins$Text"
  | 1 => .object "LightCoins$Purses"
  | 2 => .object "LightCoins$Purses"
  | 3 => .object "LightCoins$Tunes"
  | 4 => .object "LightCoins$Meeting"
  | 5 => .object "LightCoins$Day"
  | 6 => .object "LightCoins$Laws"
  | 7 => .array (.object "LightCoins$Image")
  | 8 => .object "LightCoins$Town"
  | 9 => .object "LightCoins$Town"
  | 10 => .int
  | 11 => .int
  | _ => .long
abbrev wsX80 : List Cond := u_ws RX8 TX8 13
theorem nmX8 : ∀ a, a < 13 → ∀ b, b < 13 → a ≠ b → (TX8 a).2.1 ≠ (TX8 b).2.1 := by decide +kernel
theorem tyX8_ok : ∀ k, k < 13 → parseFieldDescriptor (TX8 k).2.2.1 = some (tyX8 k) := by decide +kernel
abbrev cX8_init : ByteArray := prog_1_method_1_code
def yX8_init : MethodName := ⟨RX8, "<init>", "()V"⟩
abbrev cX8_type : ByteArray := prog_1_method_2_code
def yX8_type : MethodName := ⟨RX8, "type", "(JI)I"⟩
abbrev cX8_clear : ByteArray := prog_1_method_3_code
def yX8_clear : MethodName := ⟨RX8, "clear", "()I"⟩
abbrev cX8_town : ByteArray := prog_1_method_4_code
def yX8_town : MethodName := ⟨RX8, "town", "()I"⟩
abbrev cX8_person : ByteArray := prog_1_method_5_code
def yX8_person : MethodName := ⟨RX8, "person", "(II)I"⟩
abbrev cX8_purse : ByteArray := prog_1_method_6_code
def yX8_purse : MethodName := ⟨RX8, "purse", "(III)I"⟩
abbrev cX8_coins : ByteArray := prog_1_method_7_code
def yX8_coins : MethodName := ⟨RX8, "coins", "(II)I"⟩
abbrev cX8_tune : ByteArray := prog_1_method_8_code
def yX8_tune : MethodName := ⟨RX8, "tune", "(II)I"⟩
abbrev cX8_lot : ByteArray := prog_1_method_9_code
def yX8_lot : MethodName := ⟨RX8, "lot", "(I)I"⟩
abbrev cX8_meet : ByteArray := prog_1_method_10_code
def yX8_meet : MethodName := ⟨RX8, "meet", "()I"⟩
abbrev cX8_run : ByteArray := prog_1_method_11_code
def yX8_run : MethodName := ⟨RX8, "run", "(I)I"⟩
abbrev cX8_met : ByteArray := prog_1_method_12_code
def yX8_met : MethodName := ⟨RX8, "met", "(I)I"⟩
abbrev cX8_gain : ByteArray := prog_1_method_13_code
def yX8_gain : MethodName := ⟨RX8, "gain", "(IIII)J"⟩
abbrev cX8_rests : ByteArray := prog_1_method_14_code
def yX8_rests : MethodName := ⟨RX8, "rests", "(I)I"⟩
abbrev cX8_goes : ByteArray := prog_1_method_15_code
def yX8_goes : MethodName := ⟨RX8, "goes", "(II)I"⟩
abbrev cX8_tip : ByteArray := prog_1_method_16_code
def yX8_tip : MethodName := ⟨RX8, "tip", "(I)I"⟩
abbrev cX8_out : ByteArray := prog_1_method_17_code
def yX8_out : MethodName := ⟨RX8, "out", "(II)I"⟩
abbrev cX8_clip : ByteArray := prog_1_method_18_code
def yX8_clip : MethodName := ⟨RX8, "clip", "(II)J"⟩
abbrev cX8_year : ByteArray := prog_1_method_19_code
def yX8_year : MethodName := ⟨RX8, "year", "(I)I"⟩
abbrev cX8_mean : ByteArray := prog_1_method_20_code
def yX8_mean : MethodName := ⟨RX8, "mean", "(I)J"⟩
abbrev cX8_shabby : ByteArray := prog_1_method_21_code
def yX8_shabby : MethodName := ⟨RX8, "shabby", "(I)I"⟩
abbrev cX8_changer : ByteArray := prog_1_method_22_code
def yX8_changer : MethodName := ⟨RX8, "changer", "(III)I"⟩
abbrev cX8_law : ByteArray := prog_1_method_23_code
def yX8_law : MethodName := ⟨RX8, "law", "(III)I"⟩
abbrev cX8_cheapest : ByteArray := prog_1_method_24_code
def yX8_cheapest : MethodName := ⟨RX8, "cheapest", "(III)I"⟩
abbrev cX8_first : ByteArray := prog_1_method_25_code
def yX8_first : MethodName := ⟨RX8, "first", "(II)I"⟩
abbrev cX8_seeds : ByteArray := prog_1_method_26_code
def yX8_seeds : MethodName := ⟨RX8, "seeds", "(I)I"⟩
abbrev cX8_labour : ByteArray := prog_1_method_27_code
def yX8_labour : MethodName := ⟨RX8, "labour", "(II)I"⟩
abbrev cX8_keep : ByteArray := prog_1_method_28_code
def yX8_keep : MethodName := ⟨RX8, "keep", "(I)I"⟩
abbrev cX8_back : ByteArray := prog_1_method_29_code
def yX8_back : MethodName := ⟨RX8, "back", "(I)I"⟩
abbrev cX8_count : ByteArray := prog_1_method_30_code
def yX8_count : MethodName := ⟨RX8, "count", "(I)I"⟩
abbrev cX8_trace : ByteArray := prog_1_method_31_code
def yX8_trace : MethodName := ⟨RX8, "trace", "()J"⟩
abbrev cX8_isPerson : ByteArray := prog_1_method_32_code
def yX8_isPerson : MethodName := ⟨RX8, "isPerson", "(I)Z"⟩
abbrev cX8_isWeight : ByteArray := prog_1_method_33_code
def yX8_isWeight : MethodName := ⟨RX8, "isWeight", "(I)Z"⟩
abbrev cX8_isImage : ByteArray := prog_1_method_34_code
def yX8_isImage : MethodName := ⟨RX8, "isImage", "(I)Z"⟩
abbrev cX8_isUpperOrLower : ByteArray := prog_1_method_35_code
def yX8_isUpperOrLower : MethodName := ⟨RX8, "isUpperOrLower", "(I)Z"⟩
abbrev cX8_divides : ByteArray := prog_1_method_36_code
def yX8_divides : MethodName := ⟨RX8, "divides", "(II)Z"⟩
abbrev cX8_dayRefusal : ByteArray := prog_1_method_37_code
def yX8_dayRefusal : MethodName := ⟨RX8, "dayRefusal", "(II)I"⟩
abbrev cX8_leastTerms : ByteArray := prog_1_method_38_code
def yX8_leastTerms : MethodName := ⟨RX8, "leastTerms", "(JJI)J"⟩
abbrev cX8_commonDivisor : ByteArray := prog_1_method_39_code
def yX8_commonDivisor : MethodName := ⟨RX8, "commonDivisor", "(JJ)J"⟩
abbrev cX8_draw : ByteArray := prog_1_method_40_code
def yX8_draw : MethodName := ⟨RX8, "draw", "()I"⟩
abbrev cX8_holdMeeting : ByteArray := prog_1_method_41_code
def yX8_holdMeeting : MethodName := ⟨RX8, "holdMeeting", "()V"⟩
abbrev cX8_looksNow : ByteArray := prog_1_method_42_code
def yX8_looksNow : MethodName := ⟨RX8, "looksNow", "(I)Z"⟩
abbrev cX8_weightToPay : ByteArray := prog_1_method_43_code
def yX8_weightToPay : MethodName := ⟨RX8, "weightToPay", "(IZ)I"⟩
abbrev cX8_worthAsItIs : ByteArray := prog_1_method_44_code
def yX8_worthAsItIs : MethodName := ⟨RX8, "worthAsItIs", "(I)I"⟩
abbrev cX8_worthScale : ByteArray := prog_1_method_45_code
def yX8_worthScale : MethodName := ⟨RX8, "worthScale", "(I)J"⟩
abbrev cX8_worthScaled : ByteArray := prog_1_method_46_code
def yX8_worthScaled : MethodName := ⟨RX8, "worthScaled", "(I)J"⟩
abbrev cX8_clippedScaled : ByteArray := prog_1_method_47_code
def yX8_clippedScaled : MethodName := ⟨RX8, "clippedScaled", "(IJ)J"⟩
abbrev cX8_clippedUntil : ByteArray := prog_1_method_48_code
def yX8_clippedUntil : MethodName := ⟨RX8, "clippedUntil", "(I)I"⟩
abbrev cX8_heldAtWhenMelted : ByteArray := prog_1_method_49_code
def yX8_heldAtWhenMelted : MethodName := ⟨RX8, "heldAtWhenMelted", "(III)I"⟩
abbrev cX8_asWay : ByteArray := prog_1_method_50_code
def yX8_asWay : MethodName := ⟨RX8, "asWay", "(I)I"⟩
abbrev cX8_asTale : ByteArray := prog_1_method_51_code
def yX8_asTale : MethodName := ⟨RX8, "asTale", "(I)I"⟩
abbrev cX8_asLook : ByteArray := prog_1_method_52_code
def yX8_asLook : MethodName := ⟨RX8, "asLook", "(I)I"⟩
abbrev cX8_asSome : ByteArray := prog_1_method_53_code
def yX8_asSome : MethodName := ⟨RX8, "asSome", "(I)I"⟩
abbrev cX8_asPay : ByteArray := prog_1_method_54_code
def yX8_asPay : MethodName := ⟨RX8, "asPay", "(I)I"⟩
abbrev cX8_asKeep : ByteArray := prog_1_method_55_code
def yX8_asKeep : MethodName := ⟨RX8, "asKeep", "(I)I"⟩
abbrev cX8_asClip : ByteArray := prog_1_method_56_code
def yX8_asClip : MethodName := ⟨RX8, "asClip", "(I)I"⟩
def RX9 : String := "LightCoinsModel"
def TX9 : u_T := fun k => match k with
  | 0 => ("LightCoinsModel", "trace", "J", false)
  | 1 => ("LightCoinsModel", "text", "[B", true)
  | 2 => ("LightCoinsModel", "typed", "I", false)
  | 3 => ("LightCoinsModel", "people", "I", false)
  | 4 => ("LightCoinsModel", "way", "[I", true)
  | 5 => ("LightCoinsModel", "chance", "[I", true)
  | 6 => ("LightCoinsModel", "pay", "[I", true)
  | 7 => ("LightCoinsModel", "others", "[I", true)
  | 8 => ("LightCoinsModel", "at", "I", false)
  | 9 => ("LightCoinsModel", "start", "I", false)
  | 10 => ("LightCoinsModel", "sort", "I", false)
  | 11 => ("LightCoinsModel", "value", "I", false)
  | 12 => ("LightCoinsModel", "fault", "I", false)
  | 13 => ("LightCoinsModel", "purse", "[I", true)
  | 14 => ("LightCoinsModel", "lots", "[I", true)
  | 15 => ("LightCoinsModel", "years", "[I", true)
  | 16 => ("LightCoinsModel", "isKept", "[Z", true)
  | 17 => ("LightCoinsModel", "tune", "[I", true)
  | 18 => ("LightCoinsModel", "met", "[I", true)
  | 19 => ("LightCoinsModel", "meetings", "I", false)
  | 20 => ("LightCoinsModel", "worth", "[J", true)
  | 21 => ("LightCoinsModel", "isClipped", "[Z", true)
  | 22 => ("LightCoinsModel", "aside", "[I", true)
  | 23 => ("LightCoinsModel", "law", "[I", true)
  | _ => ("LightCoinsModel", "rounds", "I", false)
def tyX9 : Nat → FieldType := fun k => match k with
  | 0 => .long
  | 1 => .array .byte
  | 2 => .int
  | 3 => .int
  | 4 => .array .int
  | 5 => .array .int
  | 6 => .array .int
  | 7 => .array .int
  | 8 => .int
  | 9 => .int
  | 10 => .int
  | 11 => .int
  | 12 => .int
  | 13 => .array .int
  | 14 => .array .int
  | 15 => .array .int
  | 16 => .array .boolean
  | 17 => .array .int
  | 18 => .array .int
  | 19 => .int
  | 20 => .array .long
  | 21 => .array .boolean
  | 22 => .array .int
  | 23 => .array .int
  | _ => .int
abbrev wsX90 : List Cond := u_ws RX9 TX9 25
theorem nmX9 : ∀ a, a < 25 → ∀ b, b < 25 → a ≠ b → (TX9 a).2.1 ≠ (TX9 b).2.1 := by decide +kernel
theorem tyX9_ok : ∀ k, k < 25 → parseFieldDescriptor (TX9 k).2.2.1 = some (tyX9 k) := by decide +kernel
abbrev cX9_init : ByteArray := prog_11_method_1_code
def yX9_init : MethodName := ⟨RX9, "<init>", "()V"⟩
abbrev cX9_in : ByteArray := prog_11_method_3_code
def yX9_in : MethodName := ⟨RX9, "in", "(JJJ)Z"⟩
abbrev cX9_type : ByteArray := prog_11_method_4_code
def yX9_type : MethodName := ⟨RX9, "type", "(JI)I"⟩
abbrev cX9_clear : ByteArray := prog_11_method_5_code
def yX9_clear : MethodName := ⟨RX9, "clear", "()I"⟩
abbrev cX9_here : ByteArray := prog_11_method_6_code
def yX9_here : MethodName := ⟨RX9, "here", "()I"⟩
abbrev cX9_isSpelled : ByteArray := prog_11_method_7_code
def yX9_isSpelled : MethodName := ⟨RX9, "isSpelled", "(IIIII)Z"⟩
abbrev cX9_word : ByteArray := prog_11_method_8_code
def yX9_word : MethodName := ⟨RX9, "word", "()V"⟩
abbrev cX9_next : ByteArray := prog_11_method_9_code
def yX9_next : MethodName := ⟨RX9, "next", "()V"⟩
abbrev cX9_due : ByteArray := prog_11_method_10_code
def yX9_due : MethodName := ⟨RX9, "due", "(Z)I"⟩
abbrev cX9_town : ByteArray := prog_11_method_11_code
def yX9_town : MethodName := ⟨RX9, "town", "()I"⟩
abbrev cX9_isPerson : ByteArray := prog_11_method_12_code
def yX9_isPerson : MethodName := ⟨RX9, "isPerson", "(I)Z"⟩
abbrev cX9_coinsOf : ByteArray := prog_11_method_13_code
def yX9_coinsOf : MethodName := ⟨RX9, "coinsOf", "(I)I"⟩
abbrev cX9_person : ByteArray := prog_11_method_14_code
def yX9_person : MethodName := ⟨RX9, "person", "(II)I"⟩
abbrev cX9_purse : ByteArray := prog_11_method_15_code
def yX9_purse : MethodName := ⟨RX9, "purse", "(III)I"⟩
abbrev cX9_ofAll : ByteArray := prog_11_method_16_code
def yX9_ofAll : MethodName := ⟨RX9, "ofAll", "(I)I"⟩
abbrev cX9_coins : ByteArray := prog_11_method_17_code
def yX9_coins : MethodName := ⟨RX9, "coins", "(II)I"⟩
abbrev cX9_highOf : ByteArray := prog_11_method_18_code
def yX9_highOf : MethodName := ⟨RX9, "highOf", "(I)I"⟩
abbrev cX9_tune : ByteArray := prog_11_method_19_code
def yX9_tune : MethodName := ⟨RX9, "tune", "(II)I"⟩
abbrev cX9_lot : ByteArray := prog_11_method_20_code
def yX9_lot : MethodName := ⟨RX9, "lot", "(I)I"⟩
abbrev cX9_draw : ByteArray := prog_11_method_21_code
def yX9_draw : MethodName := ⟨RX9, "draw", "(I)I"⟩
abbrev cX9_meetOnce : ByteArray := prog_11_method_22_code
def yX9_meetOnce : MethodName := ⟨RX9, "meetOnce", "()I"⟩
abbrev cX9_meet : ByteArray := prog_11_method_23_code
def yX9_meet : MethodName := ⟨RX9, "meet", "()I"⟩
abbrev cX9_run : ByteArray := prog_11_method_24_code
def yX9_run : MethodName := ⟨RX9, "run", "(I)I"⟩
abbrev cX9_met : ByteArray := prog_11_method_25_code
def yX9_met : MethodName := ⟨RX9, "met", "(I)I"⟩
abbrev cX9_allCoins : ByteArray := prog_11_method_26_code
def yX9_allCoins : MethodName := ⟨RX9, "allCoins", "()I"⟩
abbrev cX9_grains : ByteArray := prog_11_method_27_code
def yX9_grains : MethodName := ⟨RX9, "grains", "(IZ)I"⟩
abbrev cX9_lookUp : ByteArray := prog_11_method_28_code
def yX9_lookUp : MethodName := ⟨RX9, "lookUp", "(I)I"⟩
abbrev cX9_taleUp : ByteArray := prog_11_method_29_code
def yX9_taleUp : MethodName := ⟨RX9, "taleUp", "(II)I"⟩
abbrev cX9_common : ByteArray := prog_11_method_30_code
def yX9_common : MethodName := ⟨RX9, "common", "(JJ)J"⟩
abbrev cX9_inLeast : ByteArray := prog_11_method_31_code
def yX9_inLeast : MethodName := ⟨RX9, "inLeast", "(JJI)J"⟩
abbrev cX9_isDay : ByteArray := prog_11_method_32_code
def yX9_isDay : MethodName := ⟨RX9, "isDay", "(II)Z"⟩
abbrev cX9_gain : ByteArray := prog_11_method_33_code
def yX9_gain : MethodName := ⟨RX9, "gain", "(IIII)J"⟩
abbrev cX9_isUp : ByteArray := prog_11_method_34_code
def yX9_isUp : MethodName := ⟨RX9, "isUp", "(II)Z"⟩
abbrev cX9_isDown : ByteArray := prog_11_method_35_code
def yX9_isDown : MethodName := ⟨RX9, "isDown", "(II)Z"⟩
abbrev cX9_rests : ByteArray := prog_11_method_36_code
def yX9_rests : MethodName := ⟨RX9, "rests", "(I)I"⟩
abbrev cX9_end : ByteArray := prog_11_method_37_code
def yX9_end : MethodName := ⟨RX9, "end", "(II)I"⟩
abbrev cX9_goes : ByteArray := prog_11_method_38_code
def yX9_goes : MethodName := ⟨RX9, "goes", "(II)I"⟩
abbrev cX9_tip : ByteArray := prog_11_method_39_code
def yX9_tip : MethodName := ⟨RX9, "tip", "(I)I"⟩
abbrev cX9_out : ByteArray := prog_11_method_40_code
def yX9_out : MethodName := ⟨RX9, "out", "(II)I"⟩
abbrev cX9_asIs : ByteArray := prog_11_method_41_code
def yX9_asIs : MethodName := ⟨RX9, "asIs", "(I)I"⟩
abbrev cX9_findWorth : ByteArray := prog_11_method_42_code
def yX9_findWorth : MethodName := ⟨RX9, "findWorth", "()V"⟩
abbrev cX9_clip : ByteArray := prog_11_method_43_code
def yX9_clip : MethodName := ⟨RX9, "clip", "(II)J"⟩
abbrev cX9_wear : ByteArray := prog_11_method_44_code
def yX9_wear : MethodName := ⟨RX9, "wear", "(I)V"⟩
abbrev cX9_year : ByteArray := prog_11_method_45_code
def yX9_year : MethodName := ⟨RX9, "year", "(I)I"⟩
abbrev cX9_there : ByteArray := prog_11_method_46_code
def yX9_there : MethodName := ⟨RX9, "there", "()I"⟩
abbrev cX9_mean : ByteArray := prog_11_method_47_code
def yX9_mean : MethodName := ⟨RX9, "mean", "(I)J"⟩
abbrev cX9_shabby : ByteArray := prog_11_method_48_code
def yX9_shabby : MethodName := ⟨RX9, "shabby", "(I)I"⟩
abbrev cX9_heldAt : ByteArray := prog_11_method_49_code
def yX9_heldAt : MethodName := ⟨RX9, "heldAt", "(III)I"⟩
abbrev cX9_changer : ByteArray := prog_11_method_50_code
def yX9_changer : MethodName := ⟨RX9, "changer", "(III)I"⟩
abbrev cX9_law : ByteArray := prog_11_method_51_code
def yX9_law : MethodName := ⟨RX9, "law", "(III)I"⟩
abbrev cX9_sumOf : ByteArray := prog_11_method_52_code
def yX9_sumOf : MethodName := ⟨RX9, "sumOf", "(II)I"⟩
abbrev cX9_cheapest : ByteArray := prog_11_method_53_code
def yX9_cheapest : MethodName := ⟨RX9, "cheapest", "(III)I"⟩
abbrev cX9_bitsIn : ByteArray := prog_11_method_54_code
def yX9_bitsIn : MethodName := ⟨RX9, "bitsIn", "(I)I"⟩
abbrev cX9_spread : ByteArray := prog_11_method_55_code
def yX9_spread : MethodName := ⟨RX9, "spread", "(I)I"⟩
abbrev cX9_first : ByteArray := prog_11_method_56_code
def yX9_first : MethodName := ⟨RX9, "first", "(II)I"⟩
abbrev cX9_seeds : ByteArray := prog_11_method_57_code
def yX9_seeds : MethodName := ⟨RX9, "seeds", "(I)I"⟩
abbrev cX9_labour : ByteArray := prog_11_method_58_code
def yX9_labour : MethodName := ⟨RX9, "labour", "(II)I"⟩
abbrev cX9_copy : ByteArray := prog_11_method_59_code
def yX9_copy : MethodName := ⟨RX9, "copy", "(II)V"⟩
abbrev cX9_keep : ByteArray := prog_11_method_60_code
def yX9_keep : MethodName := ⟨RX9, "keep", "(I)I"⟩
abbrev cX9_back : ByteArray := prog_11_method_61_code
def yX9_back : MethodName := ⟨RX9, "back", "(I)I"⟩
abbrev cX9_count : ByteArray := prog_11_method_62_code
def yX9_count : MethodName := ⟨RX9, "count", "(I)I"⟩
abbrev cX9_trace : ByteArray := prog_11_method_63_code
def yX9_trace : MethodName := ⟨RX9, "trace", "()J"⟩
def RJ6 : String := "java/lang/Integer"
def TJ6 : u_T := fun k => match k with
  | _ => ("", "", "", false)
def tyJ6 : Nat → FieldType := fun k => match k with
  | _ => .int
abbrev wsJ60 : List Cond := u_ws RJ6 TJ6 0
theorem nmJ6 : ∀ a, a < 0 → ∀ b, b < 0 → a ≠ b → (TJ6 a).2.1 ≠ (TJ6 b).2.1 := by decide +kernel
theorem tyJ6_ok : ∀ k, k < 0 → parseFieldDescriptor (TJ6 k).2.2.1 = some (tyJ6 k) := by decide +kernel
abbrev cJ6_bitCount_0f7a4 : ByteArray := prog_12_method_49_code
def yJ6_bitCount_0f7a4 : MethodName := ⟨RJ6, "bitCount", "(I)I"⟩
def RJ9 : String := "java/lang/Math"
def TJ9 : u_T := fun k => match k with
  | _ => ("", "", "", false)
def tyJ9 : Nat → FieldType := fun k => match k with
  | _ => .int
abbrev wsJ90 : List Cond := u_ws RJ9 TJ9 0
theorem nmJ9 : ∀ a, a < 0 → ∀ b, b < 0 → a ≠ b → (TJ9 a).2.1 ≠ (TJ9 b).2.1 := by decide +kernel
theorem tyJ9_ok : ∀ k, k < 0 → parseFieldDescriptor (TJ9 k).2.2.1 = some (tyJ9 k) := by decide +kernel
abbrev cJ9_abs_067f4 : ByteArray := prog_13_method_61_code
def yJ9_abs_067f4 : MethodName := ⟨RJ9, "abs", "(J)J"⟩
abbrev cJ9_max_f86c9 : ByteArray := prog_13_method_66_code
def yJ9_max_f86c9 : MethodName := ⟨RJ9, "max", "(JJ)J"⟩
abbrev cJ9_min_7cf53 : ByteArray := prog_13_method_69_code
def yJ9_min_7cf53 : MethodName := ⟨RJ9, "min", "(II)I"⟩
def RJ0 : String := "java/lang/String"
def TJ0 : u_T := fun k => match k with
  | _ => ("", "", "", false)
def tyJ0 : Nat → FieldType := fun k => match k with
  | _ => .int
abbrev wsJ00 : List Cond := u_ws RJ0 TJ0 0
theorem nmJ0 : ∀ a, a < 0 → ∀ b, b < 0 → a ≠ b → (TJ0 a).2.1 ≠ (TJ0 b).2.1 := by decide +kernel
theorem tyJ0_ok : ∀ k, k < 0 → parseFieldDescriptor (TJ0 k).2.2.1 = some (tyJ0 k) := by decide +kernel
abbrev cJ0_length_8abf5 : ByteArray := prog_14_method_54_code
def yJ0_length_8abf5 : MethodName := ⟨RJ0, "length", "()I"⟩
abbrev cJ0_charAt_5068e : ByteArray := prog_14_method_56_code
def yJ0_charAt_5068e : MethodName := ⟨RJ0, "charAt", "(I)C"⟩
abbrev cJ0_coder_7d493 : ByteArray := prog_14_method_152_code
def yJ0_coder_7d493 : MethodName := ⟨RJ0, "coder", "()B"⟩
abbrev cJ0_isLatin1_aae02 : ByteArray := prog_14_method_154_code
def yJ0_isLatin1_aae02 : MethodName := ⟨RJ0, "isLatin1", "()Z"⟩
abbrev cJ0_checkIndex_df160 : ByteArray := prog_14_method_155_code
def yJ0_checkIndex_df160 : MethodName := ⟨RJ0, "checkIndex", "(II)V"⟩
def RJ1 : String := "java/lang/StringLatin1"
def TJ1 : u_T := fun k => match k with
  | _ => ("", "", "", false)
def tyJ1 : Nat → FieldType := fun k => match k with
  | _ => .int
abbrev wsJ10 : List Cond := u_ws RJ1 TJ1 0
theorem nmJ1 : ∀ a, a < 0 → ∀ b, b < 0 → a ≠ b → (TJ1 a).2.1 ≠ (TJ1 b).2.1 := by decide +kernel
theorem tyJ1_ok : ∀ k, k < 0 → parseFieldDescriptor (TJ1 k).2.2.1 = some (tyJ1 k) := by decide +kernel
abbrev cJ1_charAt_3b067 : ByteArray := prog_15_method_2_code
def yJ1_charAt_3b067 : MethodName := ⟨RJ1, "charAt", "([BI)C"⟩
def RJ2 : String := "java/lang/StringUTF16"
def TJ2 : u_T := fun k => match k with
  | _ => ("", "", "", false)
def tyJ2 : Nat → FieldType := fun k => match k with
  | _ => .int
abbrev wsJ20 : List Cond := u_ws RJ2 TJ2 0
theorem nmJ2 : ∀ a, a < 0 → ∀ b, b < 0 → a ≠ b → (TJ2 a).2.1 ≠ (TJ2 b).2.1 := by decide +kernel
theorem tyJ2_ok : ∀ k, k < 0 → parseFieldDescriptor (TJ2 k).2.2.1 = some (tyJ2 k) := by decide +kernel
abbrev cJ2_getChar_3b067 : ByteArray := prog_16_method_5_code
def yJ2_getChar_3b067 : MethodName := ⟨RJ2, "getChar", "([BI)C"⟩
abbrev cJ2_length_9d52b : ByteArray := prog_16_method_6_code
def yJ2_length_9d52b : MethodName := ⟨RJ2, "length", "([B)I"⟩
abbrev cJ2_charAt_3b067 : ByteArray := prog_16_method_83_code
def yJ2_charAt_3b067 : MethodName := ⟨RJ2, "charAt", "([BI)C"⟩
abbrev cJ2_checkIndex_2214a : ByteArray := prog_16_method_91_code
def yJ2_checkIndex_2214a : MethodName := ⟨RJ2, "checkIndex", "(I[B)V"⟩
def RJ10 : String := "java/lang/System"
def TJ10 : u_T := fun k => match k with
  | _ => ("", "", "", false)
def tyJ10 : Nat → FieldType := fun k => match k with
  | _ => .int
abbrev wsJ100 : List Cond := u_ws RJ10 TJ10 0
theorem nmJ10 : ∀ a, a < 0 → ∀ b, b < 0 → a ≠ b → (TJ10 a).2.1 ≠ (TJ10 b).2.1 := by decide +kernel
theorem tyJ10_ok : ∀ k, k < 0 → parseFieldDescriptor (TJ10 k).2.2.1 = some (tyJ10 k) := by decide +kernel
def RJ3 : String := "jdk/internal/util/Preconditions"
def TJ3 : u_T := fun k => match k with
  | _ => ("", "", "", false)
def tyJ3 : Nat → FieldType := fun k => match k with
  | _ => .int
abbrev wsJ30 : List Cond := u_ws RJ3 TJ3 0
theorem nmJ3 : ∀ a, a < 0 → ∀ b, b < 0 → a ≠ b → (TJ3 a).2.1 ≠ (TJ3 b).2.1 := by decide +kernel
theorem tyJ3_ok : ∀ k, k < 0 → parseFieldDescriptor (TJ3 k).2.2.1 = some (tyJ3 k) := by decide +kernel
abbrev cJ3_checkIndex_8e157 : ByteArray := prog_18_method_11_code
def yJ3_checkIndex_8e157 : MethodName := ⟨RJ3, "checkIndex", "(IILjava/util/function/BiFunction;)I"⟩
def RL : String := "LightCoinsLaw"
abbrev cL_law : ByteArray := code
def yL_law : MethodName := ⟨RL, "law", "([I)Z"⟩
def wsX0_init : List Cond := .code yX0_init cX0_init 1 none :: ([.methodLink RX0 3 objectInit, .instanceMethod objectInit, .code objectInit ⟨#[0xb1]⟩ 1 none, .arrayClass .int, .fieldLink RX0 9 "LightCoins$Day" "ofWeight" "[I", .fieldLink RX0 15 "LightCoins$Day" "heaviest" "[I", .fieldLink RX0 18 "LightCoins$Day" "lightest" "[I"] ++ wsX00)
def wsX4_held : List Cond := .code yX4_held cX4_held 3 (some .int) :: ([.fieldLink RX4 9 "LightCoins$Purses" "cells" "[I"] ++ wsX40)
def wsX4_ofWeight : List Cond := .code yX4_ofWeight cX4_ofWeight 4 (some .int) :: ([.methodLink RX4 25 yX4_held, .instanceMethod yX4_held, .selects RX4 yX4_held yX4_held, .initialized RX4, .code yX4_held cX4_held 3 (some .int), .fieldLink RX4 9 "LightCoins$Purses" "cells" "[I"] ++ wsX40)
def wsX0_sumGrains : List Cond := .code yX0_sumGrains cX0_sumGrains 8 none :: ([.fieldLink RX0 9 "LightCoins$Day" "ofWeight" "[I", .fieldLink RX0 21 "LightCoins$Day" "n" "I"] ++ wsX00)
def wsX0_lay : List Cond := .code yX0_lay cX0_lay 5 none :: ([.fieldLink RX0 21 "LightCoins$Day" "n" "I", .fieldLink RX0 25 "LightCoins$Day" "looking" "I", .fieldLink RX0 9 "LightCoins$Day" "ofWeight" "[I", .fieldLink RX0 15 "LightCoins$Day" "heaviest" "[I", .fieldLink RX0 18 "LightCoins$Day" "lightest" "[I", .methodLink RX0 28 yX4_ofWeight, .instanceMethod yX4_ofWeight, .selects RX4 yX4_ofWeight yX4_ofWeight, .initialized RX4, .code yX4_ofWeight cX4_ofWeight 4 (some .int), .methodLink RX4 25 yX4_held, .instanceMethod yX4_held, .selects RX4 yX4_held yX4_held, .code yX4_held cX4_held 3 (some .int), .fieldLink RX4 9 "LightCoins$Purses" "cells" "[I", .methodLink RX0 33 yX0_sumGrains, .instanceMethod yX0_sumGrains, .selects RX0 yX0_sumGrains yX0_sumGrains, .initialized RX0, .code yX0_sumGrains cX0_sumGrains 8 none] ++ wsX00 ++ wsX40)
def wsX0_taleUpper : List Cond := .code yX0_taleUpper cX0_taleUpper 2 (some .long) :: ([.fieldLink RX0 18 "LightCoins$Day" "lightest" "[I", .fieldLink RX0 21 "LightCoins$Day" "n" "I"] ++ wsX00)
def wsX0_taleLower : List Cond := .code yX0_taleLower cX0_taleLower 2 (some .long) :: ([.fieldLink RX0 21 "LightCoins$Day" "n" "I"] ++ wsX00)
def wsX0_lookUpper : List Cond := .code yX0_lookUpper cX0_lookUpper 2 (some .long) :: ([.fieldLink RX0 15 "LightCoins$Day" "heaviest" "[I", .fieldLink RX0 25 "LightCoins$Day" "looking" "I"] ++ wsX00)
def wsX0_lookLower : List Cond := .code yX0_lookLower cX0_lookLower 2 (some .long) :: ([])
def wsX0_lookOverTale : List Cond := .code yX0_lookOverTale cX0_lookOverTale 2 (some .long) :: ([.methodLink RX0 37 yX0_lookUpper, .instanceMethod yX0_lookUpper, .selects RX0 yX0_lookUpper yX0_lookUpper, .initialized RX0, .code yX0_lookUpper cX0_lookUpper 2 (some .long), .fieldLink RX0 15 "LightCoins$Day" "heaviest" "[I", .fieldLink RX0 25 "LightCoins$Day" "looking" "I", .methodLink RX0 41 yX0_taleLower, .instanceMethod yX0_taleLower, .selects RX0 yX0_taleLower yX0_taleLower, .code yX0_taleLower cX0_taleLower 2 (some .long), .fieldLink RX0 21 "LightCoins$Day" "n" "I", .methodLink RX0 44 yX0_taleUpper, .instanceMethod yX0_taleUpper, .selects RX0 yX0_taleUpper yX0_taleUpper, .code yX0_taleUpper cX0_taleUpper 2 (some .long), .fieldLink RX0 18 "LightCoins$Day" "lightest" "[I", .methodLink RX0 47 yX0_lookLower, .instanceMethod yX0_lookLower, .selects RX0 yX0_lookLower yX0_lookLower, .code yX0_lookLower cX0_lookLower 2 (some .long)] ++ wsX00)
def wsX0_goesUp_r1 : List Cond := [Cond.fieldLink RX0 21 "LightCoins$Day" "n" "I", Cond.methodLink RX0 50 yX0_lookOverTale, Cond.instanceMethod yX0_lookOverTale, Cond.selects RX0 yX0_lookOverTale yX0_lookOverTale, Cond.initialized RX0, Cond.code yX0_lookOverTale cX0_lookOverTale 2 (some .long), Cond.methodLink RX0 37 yX0_lookUpper, Cond.instanceMethod yX0_lookUpper, Cond.selects RX0 yX0_lookUpper yX0_lookUpper, Cond.code yX0_lookUpper cX0_lookUpper 2 (some .long), Cond.fieldLink RX0 15 "LightCoins$Day" "heaviest" "[I", Cond.fieldLink RX0 25 "LightCoins$Day" "looking" "I", Cond.methodLink RX0 41 yX0_taleLower, Cond.instanceMethod yX0_taleLower, Cond.selects RX0 yX0_taleLower yX0_taleLower, Cond.code yX0_taleLower cX0_taleLower 2 (some .long), Cond.methodLink RX0 44 yX0_taleUpper, Cond.instanceMethod yX0_taleUpper, Cond.selects RX0 yX0_taleUpper yX0_taleUpper, Cond.code yX0_taleUpper cX0_taleUpper 2 (some .long), Cond.fieldLink RX0 18 "LightCoins$Day" "lightest" "[I", Cond.methodLink RX0 47 yX0_lookLower, Cond.instanceMethod yX0_lookLower, Cond.selects RX0 yX0_lookLower yX0_lookLower]
def wsX0_goesUp_r2 : List Cond := [Cond.code yX0_lookLower cX0_lookLower 2 (some .long)]
def wsX0_goesUp : List Cond := .code yX0_goesUp cX0_goesUp 2 (some .boolean) :: ((wsX0_goesUp_r1 ++ wsX0_goesUp_r2) ++ wsX00)
def wsX0_goesDown_r1 : List Cond := [Cond.methodLink RX0 50 yX0_lookOverTale, Cond.instanceMethod yX0_lookOverTale, Cond.selects RX0 yX0_lookOverTale yX0_lookOverTale, Cond.initialized RX0, Cond.code yX0_lookOverTale cX0_lookOverTale 2 (some .long), Cond.methodLink RX0 37 yX0_lookUpper, Cond.instanceMethod yX0_lookUpper, Cond.selects RX0 yX0_lookUpper yX0_lookUpper, Cond.code yX0_lookUpper cX0_lookUpper 2 (some .long), Cond.fieldLink RX0 15 "LightCoins$Day" "heaviest" "[I", Cond.fieldLink RX0 25 "LightCoins$Day" "looking" "I", Cond.methodLink RX0 41 yX0_taleLower, Cond.instanceMethod yX0_taleLower, Cond.selects RX0 yX0_taleLower yX0_taleLower, Cond.code yX0_taleLower cX0_taleLower 2 (some .long), Cond.fieldLink RX0 21 "LightCoins$Day" "n" "I", Cond.methodLink RX0 44 yX0_taleUpper, Cond.instanceMethod yX0_taleUpper, Cond.selects RX0 yX0_taleUpper yX0_taleUpper, Cond.code yX0_taleUpper cX0_taleUpper 2 (some .long), Cond.fieldLink RX0 18 "LightCoins$Day" "lightest" "[I", Cond.methodLink RX0 47 yX0_lookLower, Cond.instanceMethod yX0_lookLower, Cond.selects RX0 yX0_lookLower yX0_lookLower]
def wsX0_goesDown_r2 : List Cond := [Cond.code yX0_lookLower cX0_lookLower 2 (some .long)]
def wsX0_goesDown : List Cond := .code yX0_goesDown cX0_goesDown 2 (some .boolean) :: ((wsX0_goesDown_r1 ++ wsX0_goesDown_r2) ++ wsX00)
def wsX0_allThatRest_r1 : List Cond := [Cond.fieldLink RX0 21 "LightCoins$Day" "n" "I", Cond.methodLink RX0 53 yX0_goesUp, Cond.instanceMethod yX0_goesUp, Cond.selects RX0 yX0_goesUp yX0_goesUp, Cond.initialized RX0, Cond.code yX0_goesUp cX0_goesUp 2 (some .boolean), Cond.methodLink RX0 50 yX0_lookOverTale, Cond.instanceMethod yX0_lookOverTale, Cond.selects RX0 yX0_lookOverTale yX0_lookOverTale, Cond.code yX0_lookOverTale cX0_lookOverTale 2 (some .long), Cond.methodLink RX0 37 yX0_lookUpper, Cond.instanceMethod yX0_lookUpper, Cond.selects RX0 yX0_lookUpper yX0_lookUpper, Cond.code yX0_lookUpper cX0_lookUpper 2 (some .long), Cond.fieldLink RX0 15 "LightCoins$Day" "heaviest" "[I", Cond.fieldLink RX0 25 "LightCoins$Day" "looking" "I", Cond.methodLink RX0 41 yX0_taleLower, Cond.instanceMethod yX0_taleLower, Cond.selects RX0 yX0_taleLower yX0_taleLower, Cond.code yX0_taleLower cX0_taleLower 2 (some .long), Cond.methodLink RX0 44 yX0_taleUpper, Cond.instanceMethod yX0_taleUpper, Cond.selects RX0 yX0_taleUpper yX0_taleUpper, Cond.code yX0_taleUpper cX0_taleUpper 2 (some .long)]
def wsX0_allThatRest_r2 : List Cond := [Cond.fieldLink RX0 18 "LightCoins$Day" "lightest" "[I", Cond.methodLink RX0 47 yX0_lookLower, Cond.instanceMethod yX0_lookLower, Cond.selects RX0 yX0_lookLower yX0_lookLower, Cond.code yX0_lookLower cX0_lookLower 2 (some .long), Cond.methodLink RX0 57 yX0_goesDown, Cond.instanceMethod yX0_goesDown, Cond.selects RX0 yX0_goesDown yX0_goesDown, Cond.code yX0_goesDown cX0_goesDown 2 (some .boolean)]
def wsX0_allThatRest : List Cond := .code yX0_allThatRest cX0_allThatRest 3 (some .int) :: ((wsX0_allThatRest_r1 ++ wsX0_allThatRest_r2) ++ wsX00)
def wsX0_endFrom_r1 : List Cond := [Cond.fieldLink RX0 21 "LightCoins$Day" "n" "I", Cond.methodLink RX0 53 yX0_goesUp, Cond.instanceMethod yX0_goesUp, Cond.selects RX0 yX0_goesUp yX0_goesUp, Cond.initialized RX0, Cond.code yX0_goesUp cX0_goesUp 2 (some .boolean), Cond.methodLink RX0 50 yX0_lookOverTale, Cond.instanceMethod yX0_lookOverTale, Cond.selects RX0 yX0_lookOverTale yX0_lookOverTale, Cond.code yX0_lookOverTale cX0_lookOverTale 2 (some .long), Cond.methodLink RX0 37 yX0_lookUpper, Cond.instanceMethod yX0_lookUpper, Cond.selects RX0 yX0_lookUpper yX0_lookUpper, Cond.code yX0_lookUpper cX0_lookUpper 2 (some .long), Cond.fieldLink RX0 15 "LightCoins$Day" "heaviest" "[I", Cond.fieldLink RX0 25 "LightCoins$Day" "looking" "I", Cond.methodLink RX0 41 yX0_taleLower, Cond.instanceMethod yX0_taleLower, Cond.selects RX0 yX0_taleLower yX0_taleLower, Cond.code yX0_taleLower cX0_taleLower 2 (some .long), Cond.methodLink RX0 44 yX0_taleUpper, Cond.instanceMethod yX0_taleUpper, Cond.selects RX0 yX0_taleUpper yX0_taleUpper, Cond.code yX0_taleUpper cX0_taleUpper 2 (some .long)]
def wsX0_endFrom_r2 : List Cond := [Cond.fieldLink RX0 18 "LightCoins$Day" "lightest" "[I", Cond.methodLink RX0 47 yX0_lookLower, Cond.instanceMethod yX0_lookLower, Cond.selects RX0 yX0_lookLower yX0_lookLower, Cond.code yX0_lookLower cX0_lookLower 2 (some .long), Cond.methodLink RX0 57 yX0_goesDown, Cond.instanceMethod yX0_goesDown, Cond.selects RX0 yX0_goesDown yX0_goesDown, Cond.code yX0_goesDown cX0_goesDown 2 (some .boolean)]
def wsX0_endFrom : List Cond := .code yX0_endFrom cX0_endFrom 4 (some .int) :: ((wsX0_endFrom_r1 ++ wsX0_endFrom_r2) ++ wsX00)
def wsX0_leastThatEndsInAll_r1 : List Cond := [Cond.fieldLink RX0 21 "LightCoins$Day" "n" "I", Cond.methodLink RX0 60 yX0_endFrom, Cond.instanceMethod yX0_endFrom, Cond.selects RX0 yX0_endFrom yX0_endFrom, Cond.initialized RX0, Cond.code yX0_endFrom cX0_endFrom 4 (some .int), Cond.methodLink RX0 53 yX0_goesUp, Cond.instanceMethod yX0_goesUp, Cond.selects RX0 yX0_goesUp yX0_goesUp, Cond.code yX0_goesUp cX0_goesUp 2 (some .boolean), Cond.methodLink RX0 50 yX0_lookOverTale, Cond.instanceMethod yX0_lookOverTale, Cond.selects RX0 yX0_lookOverTale yX0_lookOverTale, Cond.code yX0_lookOverTale cX0_lookOverTale 2 (some .long), Cond.methodLink RX0 37 yX0_lookUpper, Cond.instanceMethod yX0_lookUpper, Cond.selects RX0 yX0_lookUpper yX0_lookUpper, Cond.code yX0_lookUpper cX0_lookUpper 2 (some .long), Cond.fieldLink RX0 15 "LightCoins$Day" "heaviest" "[I", Cond.fieldLink RX0 25 "LightCoins$Day" "looking" "I", Cond.methodLink RX0 41 yX0_taleLower, Cond.instanceMethod yX0_taleLower, Cond.selects RX0 yX0_taleLower yX0_taleLower, Cond.code yX0_taleLower cX0_taleLower 2 (some .long)]
def wsX0_leastThatEndsInAll_r2 : List Cond := [Cond.methodLink RX0 44 yX0_taleUpper, Cond.instanceMethod yX0_taleUpper, Cond.selects RX0 yX0_taleUpper yX0_taleUpper, Cond.code yX0_taleUpper cX0_taleUpper 2 (some .long), Cond.fieldLink RX0 18 "LightCoins$Day" "lightest" "[I", Cond.methodLink RX0 47 yX0_lookLower, Cond.instanceMethod yX0_lookLower, Cond.selects RX0 yX0_lookLower yX0_lookLower, Cond.code yX0_lookLower cX0_lookLower 2 (some .long), Cond.methodLink RX0 57 yX0_goesDown, Cond.instanceMethod yX0_goesDown, Cond.selects RX0 yX0_goesDown yX0_goesDown, Cond.code yX0_goesDown cX0_goesDown 2 (some .boolean)]
def wsX0_leastThatEndsInAll : List Cond := .code yX0_leastThatEndsInAll cX0_leastThatEndsInAll 2 (some .int) :: ((wsX0_leastThatEndsInAll_r1 ++ wsX0_leastThatEndsInAll_r2) ++ wsX00)
def wsX0_weightsOf : List Cond := .code yX0_weightsOf cX0_weightsOf 8 (some .int) :: ([.fieldLink RX0 9 "LightCoins$Day" "ofWeight" "[I", .methodLink RX0 70 Lib.Math.min.name, .static Lib.Math.min.name, .initialized "java/lang/Math", .code Lib.Math.min.name Lib.Math.min.code 2 (some .int)] ++ wsX00)
def wsX0_weightsLeftOut : List Cond := .code yX0_weightsLeftOut cX0_weightsLeftOut 3 (some .int) :: ([.fieldLink RX0 21 "LightCoins$Day" "n" "I", .constant RX0 69 (2147483647), .methodLink RX0 63 yX0_weightsOf, .instanceMethod yX0_weightsOf, .selects RX0 yX0_weightsOf yX0_weightsOf, .initialized RX0, .code yX0_weightsOf cX0_weightsOf 8 (some .int), .fieldLink RX0 9 "LightCoins$Day" "ofWeight" "[I", .methodLink RX0 70 Lib.Math.min.name, .static Lib.Math.min.name, .initialized "java/lang/Math", .code Lib.Math.min.name Lib.Math.min.code 2 (some .int)] ++ wsX00)
def wsX4_init : List Cond := .code yX4_init cX4_init 1 none :: ([.methodLink RX4 3 objectInit, .instanceMethod objectInit, .code objectInit ⟨#[0xb1]⟩ 1 none, .arrayClass .int, .fieldLink RX4 9 "LightCoins$Purses" "cells" "[I"] ++ wsX40)
def wsX1_init : List Cond := .code yX1_init cX1_init 1 none :: ([.methodLink RX1 1 objectInit, .instanceMethod objectInit, .code objectInit ⟨#[0xb1]⟩ 1 none, .classLink RX1 7 RX4, .instantiable RX4 1, .initialized RX4, .fieldLink RX1 10 "LightCoins$Image" "purses" "LLightCoins$Purses;", .instanceMethod yX4_init, .code yX4_init cX4_init 1 none, .methodLink RX4 3 objectInit, .arrayClass .int, .fieldLink RX4 9 "LightCoins$Purses" "cells" "[I"] ++ wsX40 ++ wsX10)
def wsX2_init : List Cond := .code yX2_init cX2_init 1 none :: ([.methodLink RX2 3 objectInit, .instanceMethod objectInit, .code objectInit ⟨#[0xb1]⟩ 1 none, .arrayClass .int, .fieldLink RX2 11 "LightCoins$Laws" "value" "[I"] ++ wsX20)
def wsX2_set : List Cond := .code yX2_set cX2_set 5 (some .int) :: ([.fieldLink RX2 11 "LightCoins$Laws" "value" "[I"] ++ wsX20)
def wsX2_sumOf : List Cond := .code yX2_sumOf cX2_sumOf 5 (some .int) :: ([.fieldLink RX2 11 "LightCoins$Laws" "value" "[I"] ++ wsX20)
def wsX2_cheapestSet : List Cond := .code yX2_cheapestSet cX2_cheapestSet 7 (some .int) :: ([.constant RX2 17 (2147483647), .methodLink RX2 18 yX2_sumOf, .instanceMethod yX2_sumOf, .selects RX2 yX2_sumOf yX2_sumOf, .initialized RX2, .code yX2_sumOf cX2_sumOf 5 (some .int), .fieldLink RX2 11 "LightCoins$Laws" "value" "[I"] ++ wsX20)
def wsX3_init : List Cond := .code yX3_init cX3_init 1 none :: ([.methodLink RX3 3 objectInit, .instanceMethod objectInit, .code objectInit ⟨#[0xb1]⟩ 1 none, .fieldLink RX3 9 "LightCoins$Meeting" "payer" "I", .fieldLink RX3 15 "LightCoins$Meeting" "taker" "I", .fieldLink RX3 18 "LightCoins$Meeting" "looked" "I", .fieldLink RX3 21 "LightCoins$Meeting" "paid" "I"] ++ wsX30)
def wsX3_forget : List Cond := .code yX3_forget cX3_forget 1 none :: ([.fieldLink RX3 9 "LightCoins$Meeting" "payer" "I", .fieldLink RX3 15 "LightCoins$Meeting" "taker" "I", .fieldLink RX3 18 "LightCoins$Meeting" "looked" "I", .fieldLink RX3 21 "LightCoins$Meeting" "paid" "I", .fieldLink RX3 24 "LightCoins$Meeting" "number" "I"] ++ wsX30)
def wsX3_note : List Cond := .code yX3_note cX3_note 5 none :: ([.fieldLink RX3 9 "LightCoins$Meeting" "payer" "I", .fieldLink RX3 15 "LightCoins$Meeting" "taker" "I", .fieldLink RX3 18 "LightCoins$Meeting" "looked" "I", .fieldLink RX3 21 "LightCoins$Meeting" "paid" "I", .fieldLink RX3 24 "LightCoins$Meeting" "number" "I"] ++ wsX30)
def wsX4_put : List Cond := .code yX4_put cX4_put 4 none :: ([.fieldLink RX4 9 "LightCoins$Purses" "cells" "[I"] ++ wsX40)
def wsX4_empty : List Cond := .code yX4_empty cX4_empty 2 none :: ([.fieldLink RX4 9 "LightCoins$Purses" "cells" "[I"] ++ wsX40)
def wsX4_copyFrom : List Cond := .code yX4_copyFrom cX4_copyFrom 2 none :: ([.fieldLink RX4 9 "LightCoins$Purses" "cells" "[I", .methodLink RX4 15 arraycopyName, .native arraycopyName, .static arraycopyName, .initialized "java/lang/System"] ++ wsX40)
def wsX4_coinsAbove : List Cond := .code yX4_coinsAbove cX4_coinsAbove 5 (some .int) :: ([.methodLink RX4 25 yX4_held, .instanceMethod yX4_held, .selects RX4 yX4_held yX4_held, .initialized RX4, .code yX4_held cX4_held 3 (some .int), .fieldLink RX4 9 "LightCoins$Purses" "cells" "[I"] ++ wsX40)
def wsX4_coinsOf : List Cond := .code yX4_coinsOf cX4_coinsOf 2 (some .int) :: ([.methodLink RX4 21 yX4_coinsAbove, .instanceMethod yX4_coinsAbove, .selects RX4 yX4_coinsAbove yX4_coinsAbove, .initialized RX4, .code yX4_coinsAbove cX4_coinsAbove 5 (some .int), .methodLink RX4 25 yX4_held, .instanceMethod yX4_held, .selects RX4 yX4_held yX4_held, .code yX4_held cX4_held 3 (some .int), .fieldLink RX4 9 "LightCoins$Purses" "cells" "[I"] ++ wsX40)
def wsX4_allCoins : List Cond := .code yX4_allCoins cX4_allCoins 3 (some .int) :: ([.methodLink RX4 28 yX4_coinsOf, .instanceMethod yX4_coinsOf, .selects RX4 yX4_coinsOf yX4_coinsOf, .initialized RX4, .code yX4_coinsOf cX4_coinsOf 2 (some .int), .methodLink RX4 21 yX4_coinsAbove, .instanceMethod yX4_coinsAbove, .selects RX4 yX4_coinsAbove yX4_coinsAbove, .code yX4_coinsAbove cX4_coinsAbove 5 (some .int), .methodLink RX4 25 yX4_held, .instanceMethod yX4_held, .selects RX4 yX4_held yX4_held, .code yX4_held cX4_held 3 (some .int), .fieldLink RX4 9 "LightCoins$Purses" "cells" "[I"] ++ wsX40)
def wsX4_allGrains : List Cond := .code yX4_allGrains cX4_allGrains 3 (some .int) :: ([.methodLink RX4 32 yX4_ofWeight, .instanceMethod yX4_ofWeight, .selects RX4 yX4_ofWeight yX4_ofWeight, .initialized RX4, .code yX4_ofWeight cX4_ofWeight 4 (some .int), .methodLink RX4 25 yX4_held, .instanceMethod yX4_held, .selects RX4 yX4_held yX4_held, .code yX4_held cX4_held 3 (some .int), .fieldLink RX4 9 "LightCoins$Purses" "cells" "[I"] ++ wsX40)
def wsX4_move : List Cond := .code yX4_move cX4_move 4 (some .boolean) :: ([.methodLink RX4 25 yX4_held, .instanceMethod yX4_held, .selects RX4 yX4_held yX4_held, .initialized RX4, .code yX4_held cX4_held 3 (some .int), .fieldLink RX4 9 "LightCoins$Purses" "cells" "[I", .methodLink RX4 35 yX4_put, .instanceMethod yX4_put, .selects RX4 yX4_put yX4_put, .code yX4_put cX4_put 4 none] ++ wsX40)
def wsX4_loseGrain : List Cond := .code yX4_loseGrain cX4_loseGrain 4 none :: ([.methodLink RX4 39 Lib.Math.min.name, .static Lib.Math.min.name, .initialized "java/lang/Math", .code Lib.Math.min.name Lib.Math.min.code 2 (some .int), .methodLink RX4 25 yX4_held, .instanceMethod yX4_held, .selects RX4 yX4_held yX4_held, .initialized RX4, .code yX4_held cX4_held 3 (some .int), .fieldLink RX4 9 "LightCoins$Purses" "cells" "[I", .methodLink RX4 35 yX4_put, .instanceMethod yX4_put, .selects RX4 yX4_put yX4_put, .code yX4_put cX4_put 4 none] ++ wsX40)
def wsX4_isShabby_r1 : List Cond := [Cond.methodLink RX4 44 yX4_allGrains, Cond.instanceMethod yX4_allGrains, Cond.selects RX4 yX4_allGrains yX4_allGrains, Cond.initialized RX4, Cond.code yX4_allGrains cX4_allGrains 3 (some .int), Cond.methodLink RX4 32 yX4_ofWeight, Cond.instanceMethod yX4_ofWeight, Cond.selects RX4 yX4_ofWeight yX4_ofWeight, Cond.code yX4_ofWeight cX4_ofWeight 4 (some .int), Cond.methodLink RX4 25 yX4_held, Cond.instanceMethod yX4_held, Cond.selects RX4 yX4_held yX4_held, Cond.code yX4_held cX4_held 3 (some .int), Cond.fieldLink RX4 9 "LightCoins$Purses" "cells" "[I", Cond.methodLink RX4 48 yX4_allCoins, Cond.instanceMethod yX4_allCoins, Cond.selects RX4 yX4_allCoins yX4_allCoins, Cond.code yX4_allCoins cX4_allCoins 3 (some .int), Cond.methodLink RX4 28 yX4_coinsOf, Cond.instanceMethod yX4_coinsOf, Cond.selects RX4 yX4_coinsOf yX4_coinsOf, Cond.code yX4_coinsOf cX4_coinsOf 2 (some .int), Cond.methodLink RX4 21 yX4_coinsAbove, Cond.instanceMethod yX4_coinsAbove]
def wsX4_isShabby_r2 : List Cond := [Cond.selects RX4 yX4_coinsAbove yX4_coinsAbove, Cond.code yX4_coinsAbove cX4_coinsAbove 5 (some .int)]
def wsX4_isShabby : List Cond := .code yX4_isShabby cX4_isShabby 2 (some .boolean) :: ((wsX4_isShabby_r1 ++ wsX4_isShabby_r2) ++ wsX40)
def wsX5_init : List Cond := .code yX5_init cX5_init 1 none :: ([.methodLink RX5 3 objectInit, .instanceMethod objectInit, .code objectInit ⟨#[0xb1]⟩ 1 none, .arrayClass .int, .fieldLink RX5 11 "LightCoins$Text" "bytes" "[I"] ++ wsX50)
def wsX5_hasRoom : List Cond := .code yX5_hasRoom cX5_hasRoom 2 (some .boolean) :: ([.fieldLink RX5 15 "LightCoins$Text" "length" "I"] ++ wsX50)
def wsX5_append : List Cond := .code yX5_append cX5_append 2 none :: ([.fieldLink RX5 11 "LightCoins$Text" "bytes" "[I", .fieldLink RX5 15 "LightCoins$Text" "length" "I", .methodLink RX5 19 yX5_hasRoom, .instanceMethod yX5_hasRoom, .selects RX5 yX5_hasRoom yX5_hasRoom, .initialized RX5, .code yX5_hasRoom cX5_hasRoom 2 (some .boolean)] ++ wsX50)
def wsX5_isDigit : List Cond := .code yX5_isDigit cX5_isDigit 1 (some .boolean) :: ([])
def wsX5_numberToken : List Cond := .code yX5_numberToken cX5_numberToken 2 (some .int) :: ([.fieldLink RX5 50 "LightCoins$Text" "number" "I", .fieldLink RX5 23 "LightCoins$Text" "at" "I", .fieldLink RX5 15 "LightCoins$Text" "length" "I", .fieldLink RX5 11 "LightCoins$Text" "bytes" "[I", .methodLink RX5 72 Lib.Math.min.name, .static Lib.Math.min.name, .initialized "java/lang/Math", .code Lib.Math.min.name Lib.Math.min.code 2 (some .int), .fieldLink RX5 41 "LightCoins$Text" "start" "I", .methodLink RX5 59 yX5_isDigit, .static yX5_isDigit, .initialized RX5, .code yX5_isDigit cX5_isDigit 1 (some .boolean)] ++ wsX50)
def wsX5_isLetter : List Cond := .code yX5_isLetter cX5_isLetter 1 (some .boolean) :: ([])
def wsJ0_coder_7d493 : List Cond := .code yJ0_coder_7d493 cJ0_coder_7d493 1 (some .byte) :: ([.fieldLink RJ0 38 "java/lang/String" "COMPACT_STRINGS" "Z", .fieldLink RJ0 15 "java/lang/String" "coder" "B"])
def wsJ0_length_8abf5 : List Cond := .code yJ0_length_8abf5 cJ0_length_8abf5 1 (some .int) :: ([.fieldLink RJ0 9 "java/lang/String" "value" "[B", .methodLink RJ0 335 yJ0_coder_7d493, .instanceMethod yJ0_coder_7d493, .selects RJ0 yJ0_coder_7d493 yJ0_coder_7d493, .initialized RJ0, .code yJ0_coder_7d493 cJ0_coder_7d493 1 (some .byte), .fieldLink RJ0 38 "java/lang/String" "COMPACT_STRINGS" "Z", .fieldLink RJ0 15 "java/lang/String" "coder" "B"])
def wsJ0_isLatin1_aae02 : List Cond := .code yJ0_isLatin1_aae02 cJ0_isLatin1_aae02 1 (some .boolean) :: ([.fieldLink RJ0 38 "java/lang/String" "COMPACT_STRINGS" "Z", .fieldLink RJ0 15 "java/lang/String" "coder" "B"])
def wsJ3_checkIndex_8e157 : List Cond := .code yJ3_checkIndex_8e157 cJ3_checkIndex_8e157 3 (some .int) :: ([])
def wsJ0_checkIndex_df160 : List Cond := .code yJ0_checkIndex_df160 cJ0_checkIndex_df160 2 none :: ([.fieldLink RJ0 1053 "jdk/internal/util/Preconditions" "SIOOBE_FORMATTER" "Ljava/util/function/BiFunction;", .methodLink RJ0 1059 yJ3_checkIndex_8e157, .static yJ3_checkIndex_8e157, .initialized RJ3, .code yJ3_checkIndex_8e157 cJ3_checkIndex_8e157 3 (some .int)])
def wsJ1_charAt_3b067 : List Cond := .code yJ1_charAt_3b067 cJ1_charAt_3b067 2 (some .char) :: ([.methodLink RJ1 9 yJ0_checkIndex_df160, .static yJ0_checkIndex_df160, .initialized RJ0, .code yJ0_checkIndex_df160 cJ0_checkIndex_df160 2 none, .fieldLink RJ0 1053 "jdk/internal/util/Preconditions" "SIOOBE_FORMATTER" "Ljava/util/function/BiFunction;", .methodLink RJ0 1059 yJ3_checkIndex_8e157, .static yJ3_checkIndex_8e157, .initialized RJ3, .code yJ3_checkIndex_8e157 cJ3_checkIndex_8e157 3 (some .int)])
def wsJ2_length_9d52b : List Cond := .code yJ2_length_9d52b cJ2_length_9d52b 1 (some .int) :: ([])
def wsJ2_checkIndex_2214a : List Cond := .code yJ2_checkIndex_2214a cJ2_checkIndex_2214a 2 none :: ([.methodLink RJ2 48 yJ2_length_9d52b, .static yJ2_length_9d52b, .initialized RJ2, .code yJ2_length_9d52b cJ2_length_9d52b 1 (some .int), .methodLink RJ2 414 yJ0_checkIndex_df160, .static yJ0_checkIndex_df160, .initialized RJ0, .code yJ0_checkIndex_df160 cJ0_checkIndex_df160 2 none, .fieldLink RJ0 1053 "jdk/internal/util/Preconditions" "SIOOBE_FORMATTER" "Ljava/util/function/BiFunction;", .methodLink RJ0 1059 yJ3_checkIndex_8e157, .static yJ3_checkIndex_8e157, .initialized RJ3, .code yJ3_checkIndex_8e157 cJ3_checkIndex_8e157 3 (some .int)])
def wsJ2_getChar_3b067 : List Cond := .code yJ2_getChar_3b067 cJ2_getChar_3b067 2 (some .char) :: ([.fieldLink RJ2 44 "java/lang/StringUTF16" "$assertionsDisabled" "Z", .fieldLink RJ2 59 "java/lang/StringUTF16" "HI_BYTE_SHIFT" "I", .fieldLink RJ2 63 "java/lang/StringUTF16" "LO_BYTE_SHIFT" "I", .methodLink RJ2 48 yJ2_length_9d52b, .static yJ2_length_9d52b, .initialized RJ2, .code yJ2_length_9d52b cJ2_length_9d52b 1 (some .int)])
def wsJ2_charAt_3b067 : List Cond := .code yJ2_charAt_3b067 cJ2_charAt_3b067 2 (some .char) :: ([.methodLink RJ2 67 yJ2_checkIndex_2214a, .static yJ2_checkIndex_2214a, .initialized RJ2, .code yJ2_checkIndex_2214a cJ2_checkIndex_2214a 2 none, .methodLink RJ2 48 yJ2_length_9d52b, .static yJ2_length_9d52b, .code yJ2_length_9d52b cJ2_length_9d52b 1 (some .int), .methodLink RJ2 414 yJ0_checkIndex_df160, .static yJ0_checkIndex_df160, .initialized RJ0, .code yJ0_checkIndex_df160 cJ0_checkIndex_df160 2 none, .fieldLink RJ0 1053 "jdk/internal/util/Preconditions" "SIOOBE_FORMATTER" "Ljava/util/function/BiFunction;", .methodLink RJ0 1059 yJ3_checkIndex_8e157, .static yJ3_checkIndex_8e157, .initialized RJ3, .code yJ3_checkIndex_8e157 cJ3_checkIndex_8e157 3 (some .int), .methodLink RJ2 71 yJ2_getChar_3b067, .static yJ2_getChar_3b067, .code yJ2_getChar_3b067 cJ2_getChar_3b067 2 (some .char), .fieldLink RJ2 44 "java/lang/StringUTF16" "$assertionsDisabled" "Z", .fieldLink RJ2 59 "java/lang/StringUTF16" "HI_BYTE_SHIFT" "I", .fieldLink RJ2 63 "java/lang/StringUTF16" "LO_BYTE_SHIFT" "I"])
def wsJ0_charAt_5068e_r1 : List Cond := [Cond.fieldLink RJ0 9 "java/lang/String" "value" "[B", Cond.methodLink RJ0 492 yJ0_isLatin1_aae02, Cond.instanceMethod yJ0_isLatin1_aae02, Cond.selects RJ0 yJ0_isLatin1_aae02 yJ0_isLatin1_aae02, Cond.initialized RJ0, Cond.code yJ0_isLatin1_aae02 cJ0_isLatin1_aae02 1 (some .boolean), Cond.fieldLink RJ0 38 "java/lang/String" "COMPACT_STRINGS" "Z", Cond.fieldLink RJ0 15 "java/lang/String" "coder" "B", Cond.methodLink RJ0 495 yJ1_charAt_3b067, Cond.static yJ1_charAt_3b067, Cond.initialized RJ1, Cond.code yJ1_charAt_3b067 cJ1_charAt_3b067 2 (some .char), Cond.methodLink RJ1 9 yJ0_checkIndex_df160, Cond.static yJ0_checkIndex_df160, Cond.code yJ0_checkIndex_df160 cJ0_checkIndex_df160 2 none, Cond.fieldLink RJ0 1053 "jdk/internal/util/Preconditions" "SIOOBE_FORMATTER" "Ljava/util/function/BiFunction;", Cond.methodLink RJ0 1059 yJ3_checkIndex_8e157, Cond.static yJ3_checkIndex_8e157, Cond.initialized RJ3, Cond.code yJ3_checkIndex_8e157 cJ3_checkIndex_8e157 3 (some .int), Cond.methodLink RJ0 498 yJ2_charAt_3b067, Cond.static yJ2_charAt_3b067, Cond.initialized RJ2, Cond.code yJ2_charAt_3b067 cJ2_charAt_3b067 2 (some .char)]
def wsJ0_charAt_5068e_r2 : List Cond := [Cond.methodLink RJ2 67 yJ2_checkIndex_2214a, Cond.static yJ2_checkIndex_2214a, Cond.code yJ2_checkIndex_2214a cJ2_checkIndex_2214a 2 none, Cond.methodLink RJ2 48 yJ2_length_9d52b, Cond.static yJ2_length_9d52b, Cond.code yJ2_length_9d52b cJ2_length_9d52b 1 (some .int), Cond.methodLink RJ2 414 yJ0_checkIndex_df160, Cond.methodLink RJ2 71 yJ2_getChar_3b067, Cond.static yJ2_getChar_3b067, Cond.code yJ2_getChar_3b067 cJ2_getChar_3b067 2 (some .char), Cond.fieldLink RJ2 44 "java/lang/StringUTF16" "$assertionsDisabled" "Z", Cond.fieldLink RJ2 59 "java/lang/StringUTF16" "HI_BYTE_SHIFT" "I", Cond.fieldLink RJ2 63 "java/lang/StringUTF16" "LO_BYTE_SHIFT" "I"]
def wsJ0_charAt_5068e : List Cond := .code yJ0_charAt_5068e cJ0_charAt_5068e 2 (some .char) :: ((wsJ0_charAt_5068e_r1 ++ wsJ0_charAt_5068e_r2))
def wsX5_wordIs_r1 : List Cond := [Cond.fieldLink RX5 23 "LightCoins$Text" "at" "I", Cond.fieldLink RX5 41 "LightCoins$Text" "start" "I", Cond.fieldLink RX5 11 "LightCoins$Text" "bytes" "[I", Cond.methodLink RX5 92 yJ0_length_8abf5, Cond.instanceMethod yJ0_length_8abf5, Cond.selects RJ0 yJ0_length_8abf5 yJ0_length_8abf5, Cond.initialized RJ0, Cond.code yJ0_length_8abf5 cJ0_length_8abf5 1 (some .int), Cond.fieldLink RJ0 9 "java/lang/String" "value" "[B", Cond.methodLink RJ0 335 yJ0_coder_7d493, Cond.instanceMethod yJ0_coder_7d493, Cond.selects RJ0 yJ0_coder_7d493 yJ0_coder_7d493, Cond.code yJ0_coder_7d493 cJ0_coder_7d493 1 (some .byte), Cond.fieldLink RJ0 38 "java/lang/String" "COMPACT_STRINGS" "Z", Cond.fieldLink RJ0 15 "java/lang/String" "coder" "B", Cond.methodLink RX5 96 yJ0_charAt_5068e, Cond.instanceMethod yJ0_charAt_5068e, Cond.selects RJ0 yJ0_charAt_5068e yJ0_charAt_5068e, Cond.code yJ0_charAt_5068e cJ0_charAt_5068e 2 (some .char), Cond.methodLink RJ0 492 yJ0_isLatin1_aae02, Cond.instanceMethod yJ0_isLatin1_aae02, Cond.selects RJ0 yJ0_isLatin1_aae02 yJ0_isLatin1_aae02, Cond.code yJ0_isLatin1_aae02 cJ0_isLatin1_aae02 1 (some .boolean), Cond.methodLink RJ0 495 yJ1_charAt_3b067]
def wsX5_wordIs_r2 : List Cond := [Cond.static yJ1_charAt_3b067, Cond.initialized RJ1, Cond.code yJ1_charAt_3b067 cJ1_charAt_3b067 2 (some .char), Cond.methodLink RJ1 9 yJ0_checkIndex_df160, Cond.static yJ0_checkIndex_df160, Cond.code yJ0_checkIndex_df160 cJ0_checkIndex_df160 2 none, Cond.fieldLink RJ0 1053 "jdk/internal/util/Preconditions" "SIOOBE_FORMATTER" "Ljava/util/function/BiFunction;", Cond.methodLink RJ0 1059 yJ3_checkIndex_8e157, Cond.static yJ3_checkIndex_8e157, Cond.initialized RJ3, Cond.code yJ3_checkIndex_8e157 cJ3_checkIndex_8e157 3 (some .int), Cond.methodLink RJ0 498 yJ2_charAt_3b067, Cond.static yJ2_charAt_3b067, Cond.initialized RJ2, Cond.code yJ2_charAt_3b067 cJ2_charAt_3b067 2 (some .char), Cond.methodLink RJ2 67 yJ2_checkIndex_2214a, Cond.static yJ2_checkIndex_2214a, Cond.code yJ2_checkIndex_2214a cJ2_checkIndex_2214a 2 none, Cond.methodLink RJ2 48 yJ2_length_9d52b, Cond.static yJ2_length_9d52b, Cond.code yJ2_length_9d52b cJ2_length_9d52b 1 (some .int), Cond.methodLink RJ2 414 yJ0_checkIndex_df160, Cond.methodLink RJ2 71 yJ2_getChar_3b067, Cond.static yJ2_getChar_3b067]
def wsX5_wordIs_r3 : List Cond := [Cond.code yJ2_getChar_3b067 cJ2_getChar_3b067 2 (some .char), Cond.fieldLink RJ2 44 "java/lang/StringUTF16" "$assertionsDisabled" "Z", Cond.fieldLink RJ2 59 "java/lang/StringUTF16" "HI_BYTE_SHIFT" "I", Cond.fieldLink RJ2 63 "java/lang/StringUTF16" "LO_BYTE_SHIFT" "I"]
def wsX5_wordIs : List Cond := .code yX5_wordIs cX5_wordIs 3 (some .boolean) :: ((wsX5_wordIs_r1 ++ (wsX5_wordIs_r2 ++ wsX5_wordIs_r3)) ++ wsX50)
def wsX5_wordToken_r1 : List Cond := [Cond.fieldLink RX5 23 "LightCoins$Text" "at" "I", Cond.fieldLink RX5 15 "LightCoins$Text" "length" "I", Cond.fieldLink RX5 11 "LightCoins$Text" "bytes" "[I", Cond.methodLink RX5 66 yX5_isLetter, Cond.static yX5_isLetter, Cond.initialized RX5, Cond.code yX5_isLetter cX5_isLetter 1 (some .boolean), Cond.methodLink RX5 80 yX5_wordIs, Cond.instanceMethod yX5_wordIs, Cond.selects RX5 yX5_wordIs yX5_wordIs, Cond.code yX5_wordIs cX5_wordIs 3 (some .boolean), Cond.fieldLink RX5 41 "LightCoins$Text" "start" "I", Cond.methodLink RX5 92 yJ0_length_8abf5, Cond.instanceMethod yJ0_length_8abf5, Cond.selects RJ0 yJ0_length_8abf5 yJ0_length_8abf5, Cond.initialized RJ0, Cond.code yJ0_length_8abf5 cJ0_length_8abf5 1 (some .int), Cond.fieldLink RJ0 9 "java/lang/String" "value" "[B", Cond.methodLink RJ0 335 yJ0_coder_7d493, Cond.instanceMethod yJ0_coder_7d493, Cond.selects RJ0 yJ0_coder_7d493 yJ0_coder_7d493, Cond.code yJ0_coder_7d493 cJ0_coder_7d493 1 (some .byte), Cond.fieldLink RJ0 38 "java/lang/String" "COMPACT_STRINGS" "Z", Cond.fieldLink RJ0 15 "java/lang/String" "coder" "B"]
def wsX5_wordToken_r2 : List Cond := [Cond.methodLink RX5 96 yJ0_charAt_5068e, Cond.instanceMethod yJ0_charAt_5068e, Cond.selects RJ0 yJ0_charAt_5068e yJ0_charAt_5068e, Cond.code yJ0_charAt_5068e cJ0_charAt_5068e 2 (some .char), Cond.methodLink RJ0 492 yJ0_isLatin1_aae02, Cond.instanceMethod yJ0_isLatin1_aae02, Cond.selects RJ0 yJ0_isLatin1_aae02 yJ0_isLatin1_aae02, Cond.code yJ0_isLatin1_aae02 cJ0_isLatin1_aae02 1 (some .boolean), Cond.methodLink RJ0 495 yJ1_charAt_3b067, Cond.static yJ1_charAt_3b067, Cond.initialized RJ1, Cond.code yJ1_charAt_3b067 cJ1_charAt_3b067 2 (some .char), Cond.methodLink RJ1 9 yJ0_checkIndex_df160, Cond.static yJ0_checkIndex_df160, Cond.code yJ0_checkIndex_df160 cJ0_checkIndex_df160 2 none, Cond.fieldLink RJ0 1053 "jdk/internal/util/Preconditions" "SIOOBE_FORMATTER" "Ljava/util/function/BiFunction;", Cond.methodLink RJ0 1059 yJ3_checkIndex_8e157, Cond.static yJ3_checkIndex_8e157, Cond.initialized RJ3, Cond.code yJ3_checkIndex_8e157 cJ3_checkIndex_8e157 3 (some .int), Cond.methodLink RJ0 498 yJ2_charAt_3b067, Cond.static yJ2_charAt_3b067, Cond.initialized RJ2, Cond.code yJ2_charAt_3b067 cJ2_charAt_3b067 2 (some .char)]
def wsX5_wordToken_r3 : List Cond := [Cond.methodLink RJ2 67 yJ2_checkIndex_2214a, Cond.static yJ2_checkIndex_2214a, Cond.code yJ2_checkIndex_2214a cJ2_checkIndex_2214a 2 none, Cond.methodLink RJ2 48 yJ2_length_9d52b, Cond.static yJ2_length_9d52b, Cond.code yJ2_length_9d52b cJ2_length_9d52b 1 (some .int), Cond.methodLink RJ2 414 yJ0_checkIndex_df160, Cond.methodLink RJ2 71 yJ2_getChar_3b067, Cond.static yJ2_getChar_3b067, Cond.code yJ2_getChar_3b067 cJ2_getChar_3b067 2 (some .char), Cond.fieldLink RJ2 44 "java/lang/StringUTF16" "$assertionsDisabled" "Z", Cond.fieldLink RJ2 59 "java/lang/StringUTF16" "HI_BYTE_SHIFT" "I", Cond.fieldLink RJ2 63 "java/lang/StringUTF16" "LO_BYTE_SHIFT" "I"]
def wsX5_wordToken : List Cond := .code yX5_wordToken cX5_wordToken 1 (some .int) :: ((wsX5_wordToken_r1 ++ (wsX5_wordToken_r2 ++ wsX5_wordToken_r3)) ++ wsX50)
def wsX5_advance_r1 : List Cond := [Cond.fieldLink RX5 23 "LightCoins$Text" "at" "I", Cond.fieldLink RX5 15 "LightCoins$Text" "length" "I", Cond.fieldLink RX5 11 "LightCoins$Text" "bytes" "[I", Cond.fieldLink RX5 41 "LightCoins$Text" "start" "I", Cond.fieldLink RX5 34 "LightCoins$Text" "token" "I", Cond.methodLink RX5 59 yX5_isDigit, Cond.static yX5_isDigit, Cond.initialized RX5, Cond.code yX5_isDigit cX5_isDigit 1 (some .boolean), Cond.methodLink RX5 62 yX5_numberToken, Cond.instanceMethod yX5_numberToken, Cond.selects RX5 yX5_numberToken yX5_numberToken, Cond.code yX5_numberToken cX5_numberToken 2 (some .int), Cond.fieldLink RX5 50 "LightCoins$Text" "number" "I", Cond.methodLink RX5 72 Lib.Math.min.name, Cond.static Lib.Math.min.name, Cond.initialized "java/lang/Math", Cond.code Lib.Math.min.name Lib.Math.min.code 2 (some .int), Cond.methodLink RX5 66 yX5_isLetter, Cond.static yX5_isLetter, Cond.code yX5_isLetter cX5_isLetter 1 (some .boolean), Cond.methodLink RX5 69 yX5_wordToken, Cond.instanceMethod yX5_wordToken, Cond.selects RX5 yX5_wordToken yX5_wordToken]
def wsX5_advance_r2 : List Cond := [Cond.code yX5_wordToken cX5_wordToken 1 (some .int), Cond.methodLink RX5 80 yX5_wordIs, Cond.instanceMethod yX5_wordIs, Cond.selects RX5 yX5_wordIs yX5_wordIs, Cond.code yX5_wordIs cX5_wordIs 3 (some .boolean), Cond.methodLink RX5 92 yJ0_length_8abf5, Cond.instanceMethod yJ0_length_8abf5, Cond.selects RJ0 yJ0_length_8abf5 yJ0_length_8abf5, Cond.initialized RJ0, Cond.code yJ0_length_8abf5 cJ0_length_8abf5 1 (some .int), Cond.fieldLink RJ0 9 "java/lang/String" "value" "[B", Cond.methodLink RJ0 335 yJ0_coder_7d493, Cond.instanceMethod yJ0_coder_7d493, Cond.selects RJ0 yJ0_coder_7d493 yJ0_coder_7d493, Cond.code yJ0_coder_7d493 cJ0_coder_7d493 1 (some .byte), Cond.fieldLink RJ0 38 "java/lang/String" "COMPACT_STRINGS" "Z", Cond.fieldLink RJ0 15 "java/lang/String" "coder" "B", Cond.methodLink RX5 96 yJ0_charAt_5068e, Cond.instanceMethod yJ0_charAt_5068e, Cond.selects RJ0 yJ0_charAt_5068e yJ0_charAt_5068e, Cond.code yJ0_charAt_5068e cJ0_charAt_5068e 2 (some .char), Cond.methodLink RJ0 492 yJ0_isLatin1_aae02, Cond.instanceMethod yJ0_isLatin1_aae02, Cond.selects RJ0 yJ0_isLatin1_aae02 yJ0_isLatin1_aae02]
def wsX5_advance_r3 : List Cond := [Cond.code yJ0_isLatin1_aae02 cJ0_isLatin1_aae02 1 (some .boolean), Cond.methodLink RJ0 495 yJ1_charAt_3b067, Cond.static yJ1_charAt_3b067, Cond.initialized RJ1, Cond.code yJ1_charAt_3b067 cJ1_charAt_3b067 2 (some .char), Cond.methodLink RJ1 9 yJ0_checkIndex_df160, Cond.static yJ0_checkIndex_df160, Cond.code yJ0_checkIndex_df160 cJ0_checkIndex_df160 2 none, Cond.fieldLink RJ0 1053 "jdk/internal/util/Preconditions" "SIOOBE_FORMATTER" "Ljava/util/function/BiFunction;", Cond.methodLink RJ0 1059 yJ3_checkIndex_8e157, Cond.static yJ3_checkIndex_8e157, Cond.initialized RJ3, Cond.code yJ3_checkIndex_8e157 cJ3_checkIndex_8e157 3 (some .int), Cond.methodLink RJ0 498 yJ2_charAt_3b067, Cond.static yJ2_charAt_3b067, Cond.initialized RJ2, Cond.code yJ2_charAt_3b067 cJ2_charAt_3b067 2 (some .char), Cond.methodLink RJ2 67 yJ2_checkIndex_2214a, Cond.static yJ2_checkIndex_2214a, Cond.code yJ2_checkIndex_2214a cJ2_checkIndex_2214a 2 none, Cond.methodLink RJ2 48 yJ2_length_9d52b, Cond.static yJ2_length_9d52b, Cond.code yJ2_length_9d52b cJ2_length_9d52b 1 (some .int), Cond.methodLink RJ2 414 yJ0_checkIndex_df160]
def wsX5_advance_r4 : List Cond := [Cond.methodLink RJ2 71 yJ2_getChar_3b067, Cond.static yJ2_getChar_3b067, Cond.code yJ2_getChar_3b067 cJ2_getChar_3b067 2 (some .char), Cond.fieldLink RJ2 44 "java/lang/StringUTF16" "$assertionsDisabled" "Z", Cond.fieldLink RJ2 59 "java/lang/StringUTF16" "HI_BYTE_SHIFT" "I", Cond.fieldLink RJ2 63 "java/lang/StringUTF16" "LO_BYTE_SHIFT" "I"]
def wsX5_advance : List Cond := .code yX5_advance cX5_advance 1 none :: ((wsX5_advance_r1 ++ (wsX5_advance_r2 ++ (wsX5_advance_r3 ++ wsX5_advance_r4))) ++ wsX50)
def wsX5_readItem_r1 : List Cond := [Cond.fieldLink RX5 34 "LightCoins$Text" "token" "I", Cond.fieldLink RX5 44 "LightCoins$Town" "way" "[I", Cond.fieldLink RX5 47 "LightCoins$Town" "tenths" "[I", Cond.fieldLink RX5 50 "LightCoins$Text" "number" "I", Cond.fieldLink RX5 53 "LightCoins$Town" "pay" "[I", Cond.fieldLink RX5 56 "LightCoins$Town" "others" "[I", Cond.methodLink RX5 31 yX5_advance, Cond.instanceMethod yX5_advance, Cond.selects RX5 yX5_advance yX5_advance, Cond.initialized RX5, Cond.code yX5_advance cX5_advance 1 none, Cond.fieldLink RX5 23 "LightCoins$Text" "at" "I", Cond.fieldLink RX5 15 "LightCoins$Text" "length" "I", Cond.fieldLink RX5 11 "LightCoins$Text" "bytes" "[I", Cond.fieldLink RX5 41 "LightCoins$Text" "start" "I", Cond.methodLink RX5 59 yX5_isDigit, Cond.static yX5_isDigit, Cond.code yX5_isDigit cX5_isDigit 1 (some .boolean), Cond.methodLink RX5 62 yX5_numberToken, Cond.instanceMethod yX5_numberToken, Cond.selects RX5 yX5_numberToken yX5_numberToken, Cond.code yX5_numberToken cX5_numberToken 2 (some .int), Cond.methodLink RX5 72 Lib.Math.min.name, Cond.static Lib.Math.min.name]
def wsX5_readItem_r2 : List Cond := [Cond.initialized "java/lang/Math", Cond.code Lib.Math.min.name Lib.Math.min.code 2 (some .int), Cond.methodLink RX5 66 yX5_isLetter, Cond.static yX5_isLetter, Cond.code yX5_isLetter cX5_isLetter 1 (some .boolean), Cond.methodLink RX5 69 yX5_wordToken, Cond.instanceMethod yX5_wordToken, Cond.selects RX5 yX5_wordToken yX5_wordToken, Cond.code yX5_wordToken cX5_wordToken 1 (some .int), Cond.methodLink RX5 80 yX5_wordIs, Cond.instanceMethod yX5_wordIs, Cond.selects RX5 yX5_wordIs yX5_wordIs, Cond.code yX5_wordIs cX5_wordIs 3 (some .boolean), Cond.methodLink RX5 92 yJ0_length_8abf5, Cond.instanceMethod yJ0_length_8abf5, Cond.selects RJ0 yJ0_length_8abf5 yJ0_length_8abf5, Cond.initialized RJ0, Cond.code yJ0_length_8abf5 cJ0_length_8abf5 1 (some .int), Cond.fieldLink RJ0 9 "java/lang/String" "value" "[B", Cond.methodLink RJ0 335 yJ0_coder_7d493, Cond.instanceMethod yJ0_coder_7d493, Cond.selects RJ0 yJ0_coder_7d493 yJ0_coder_7d493, Cond.code yJ0_coder_7d493 cJ0_coder_7d493 1 (some .byte), Cond.fieldLink RJ0 38 "java/lang/String" "COMPACT_STRINGS" "Z"]
def wsX5_readItem_r3 : List Cond := [Cond.fieldLink RJ0 15 "java/lang/String" "coder" "B", Cond.methodLink RX5 96 yJ0_charAt_5068e, Cond.instanceMethod yJ0_charAt_5068e, Cond.selects RJ0 yJ0_charAt_5068e yJ0_charAt_5068e, Cond.code yJ0_charAt_5068e cJ0_charAt_5068e 2 (some .char), Cond.methodLink RJ0 492 yJ0_isLatin1_aae02, Cond.instanceMethod yJ0_isLatin1_aae02, Cond.selects RJ0 yJ0_isLatin1_aae02 yJ0_isLatin1_aae02, Cond.code yJ0_isLatin1_aae02 cJ0_isLatin1_aae02 1 (some .boolean), Cond.methodLink RJ0 495 yJ1_charAt_3b067, Cond.static yJ1_charAt_3b067, Cond.initialized RJ1, Cond.code yJ1_charAt_3b067 cJ1_charAt_3b067 2 (some .char), Cond.methodLink RJ1 9 yJ0_checkIndex_df160, Cond.static yJ0_checkIndex_df160, Cond.code yJ0_checkIndex_df160 cJ0_checkIndex_df160 2 none, Cond.fieldLink RJ0 1053 "jdk/internal/util/Preconditions" "SIOOBE_FORMATTER" "Ljava/util/function/BiFunction;", Cond.methodLink RJ0 1059 yJ3_checkIndex_8e157, Cond.static yJ3_checkIndex_8e157, Cond.initialized RJ3, Cond.code yJ3_checkIndex_8e157 cJ3_checkIndex_8e157 3 (some .int), Cond.methodLink RJ0 498 yJ2_charAt_3b067, Cond.static yJ2_charAt_3b067, Cond.initialized RJ2]
def wsX5_readItem_r4 : List Cond := [Cond.code yJ2_charAt_3b067 cJ2_charAt_3b067 2 (some .char), Cond.methodLink RJ2 67 yJ2_checkIndex_2214a, Cond.static yJ2_checkIndex_2214a, Cond.code yJ2_checkIndex_2214a cJ2_checkIndex_2214a 2 none, Cond.methodLink RJ2 48 yJ2_length_9d52b, Cond.static yJ2_length_9d52b, Cond.code yJ2_length_9d52b cJ2_length_9d52b 1 (some .int), Cond.methodLink RJ2 414 yJ0_checkIndex_df160, Cond.methodLink RJ2 71 yJ2_getChar_3b067, Cond.static yJ2_getChar_3b067, Cond.code yJ2_getChar_3b067 cJ2_getChar_3b067 2 (some .char), Cond.fieldLink RJ2 44 "java/lang/StringUTF16" "$assertionsDisabled" "Z", Cond.fieldLink RJ2 59 "java/lang/StringUTF16" "HI_BYTE_SHIFT" "I", Cond.fieldLink RJ2 63 "java/lang/StringUTF16" "LO_BYTE_SHIFT" "I"]
def wsX5_readItem : List Cond := .code yX5_readItem cX5_readItem 3 (some .boolean) :: ((wsX5_readItem_r1 ++ (wsX5_readItem_r2 ++ (wsX5_readItem_r3 ++ wsX5_readItem_r4))) ++ wsX50 ++ wsX60)
def wsX5_readInto_r1 : List Cond := [Cond.fieldLink RX5 23 "LightCoins$Text" "at" "I", Cond.fieldLink RX5 26 "LightCoins$Town" "people" "I", Cond.fieldLink RX5 34 "LightCoins$Text" "token" "I", Cond.fieldLink RX5 41 "LightCoins$Text" "start" "I", Cond.methodLink RX5 31 yX5_advance, Cond.instanceMethod yX5_advance, Cond.selects RX5 yX5_advance yX5_advance, Cond.initialized RX5, Cond.code yX5_advance cX5_advance 1 none, Cond.fieldLink RX5 15 "LightCoins$Text" "length" "I", Cond.fieldLink RX5 11 "LightCoins$Text" "bytes" "[I", Cond.methodLink RX5 59 yX5_isDigit, Cond.static yX5_isDigit, Cond.code yX5_isDigit cX5_isDigit 1 (some .boolean), Cond.methodLink RX5 62 yX5_numberToken, Cond.instanceMethod yX5_numberToken, Cond.selects RX5 yX5_numberToken yX5_numberToken, Cond.code yX5_numberToken cX5_numberToken 2 (some .int), Cond.fieldLink RX5 50 "LightCoins$Text" "number" "I", Cond.methodLink RX5 72 Lib.Math.min.name, Cond.static Lib.Math.min.name, Cond.initialized "java/lang/Math", Cond.code Lib.Math.min.name Lib.Math.min.code 2 (some .int), Cond.methodLink RX5 66 yX5_isLetter]
def wsX5_readInto_r2 : List Cond := [Cond.static yX5_isLetter, Cond.code yX5_isLetter cX5_isLetter 1 (some .boolean), Cond.methodLink RX5 69 yX5_wordToken, Cond.instanceMethod yX5_wordToken, Cond.selects RX5 yX5_wordToken yX5_wordToken, Cond.code yX5_wordToken cX5_wordToken 1 (some .int), Cond.methodLink RX5 80 yX5_wordIs, Cond.instanceMethod yX5_wordIs, Cond.selects RX5 yX5_wordIs yX5_wordIs, Cond.code yX5_wordIs cX5_wordIs 3 (some .boolean), Cond.methodLink RX5 92 yJ0_length_8abf5, Cond.instanceMethod yJ0_length_8abf5, Cond.selects RJ0 yJ0_length_8abf5 yJ0_length_8abf5, Cond.initialized RJ0, Cond.code yJ0_length_8abf5 cJ0_length_8abf5 1 (some .int), Cond.fieldLink RJ0 9 "java/lang/String" "value" "[B", Cond.methodLink RJ0 335 yJ0_coder_7d493, Cond.instanceMethod yJ0_coder_7d493, Cond.selects RJ0 yJ0_coder_7d493 yJ0_coder_7d493, Cond.code yJ0_coder_7d493 cJ0_coder_7d493 1 (some .byte), Cond.fieldLink RJ0 38 "java/lang/String" "COMPACT_STRINGS" "Z", Cond.fieldLink RJ0 15 "java/lang/String" "coder" "B", Cond.methodLink RX5 96 yJ0_charAt_5068e, Cond.instanceMethod yJ0_charAt_5068e]
def wsX5_readInto_r3 : List Cond := [Cond.selects RJ0 yJ0_charAt_5068e yJ0_charAt_5068e, Cond.code yJ0_charAt_5068e cJ0_charAt_5068e 2 (some .char), Cond.methodLink RJ0 492 yJ0_isLatin1_aae02, Cond.instanceMethod yJ0_isLatin1_aae02, Cond.selects RJ0 yJ0_isLatin1_aae02 yJ0_isLatin1_aae02, Cond.code yJ0_isLatin1_aae02 cJ0_isLatin1_aae02 1 (some .boolean), Cond.methodLink RJ0 495 yJ1_charAt_3b067, Cond.static yJ1_charAt_3b067, Cond.initialized RJ1, Cond.code yJ1_charAt_3b067 cJ1_charAt_3b067 2 (some .char), Cond.methodLink RJ1 9 yJ0_checkIndex_df160, Cond.static yJ0_checkIndex_df160, Cond.code yJ0_checkIndex_df160 cJ0_checkIndex_df160 2 none, Cond.fieldLink RJ0 1053 "jdk/internal/util/Preconditions" "SIOOBE_FORMATTER" "Ljava/util/function/BiFunction;", Cond.methodLink RJ0 1059 yJ3_checkIndex_8e157, Cond.static yJ3_checkIndex_8e157, Cond.initialized RJ3, Cond.code yJ3_checkIndex_8e157 cJ3_checkIndex_8e157 3 (some .int), Cond.methodLink RJ0 498 yJ2_charAt_3b067, Cond.static yJ2_charAt_3b067, Cond.initialized RJ2, Cond.code yJ2_charAt_3b067 cJ2_charAt_3b067 2 (some .char), Cond.methodLink RJ2 67 yJ2_checkIndex_2214a, Cond.static yJ2_checkIndex_2214a]
def wsX5_readInto_r4 : List Cond := [Cond.code yJ2_checkIndex_2214a cJ2_checkIndex_2214a 2 none, Cond.methodLink RJ2 48 yJ2_length_9d52b, Cond.static yJ2_length_9d52b, Cond.code yJ2_length_9d52b cJ2_length_9d52b 1 (some .int), Cond.methodLink RJ2 414 yJ0_checkIndex_df160, Cond.methodLink RJ2 71 yJ2_getChar_3b067, Cond.static yJ2_getChar_3b067, Cond.code yJ2_getChar_3b067 cJ2_getChar_3b067 2 (some .char), Cond.fieldLink RJ2 44 "java/lang/StringUTF16" "$assertionsDisabled" "Z", Cond.fieldLink RJ2 59 "java/lang/StringUTF16" "HI_BYTE_SHIFT" "I", Cond.fieldLink RJ2 63 "java/lang/StringUTF16" "LO_BYTE_SHIFT" "I", Cond.methodLink RX5 37 yX5_readItem, Cond.instanceMethod yX5_readItem, Cond.selects RX5 yX5_readItem yX5_readItem, Cond.code yX5_readItem cX5_readItem 3 (some .boolean), Cond.fieldLink RX5 44 "LightCoins$Town" "way" "[I", Cond.fieldLink RX5 47 "LightCoins$Town" "tenths" "[I", Cond.fieldLink RX5 53 "LightCoins$Town" "pay" "[I", Cond.fieldLink RX5 56 "LightCoins$Town" "others" "[I"]
def wsX5_readInto : List Cond := .code yX5_readInto cX5_readInto 3 (some .int) :: ((wsX5_readInto_r1 ++ (wsX5_readInto_r2 ++ (wsX5_readInto_r3 ++ wsX5_readInto_r4))) ++ wsX50 ++ wsX60)
def wsX6_init : List Cond := .code yX6_init cX6_init 1 none :: ([.methodLink RX6 3 objectInit, .instanceMethod objectInit, .code objectInit ⟨#[0xb1]⟩ 1 none, .arrayClass .int, .fieldLink RX6 9 "LightCoins$Town" "way" "[I", .fieldLink RX6 15 "LightCoins$Town" "tenths" "[I", .fieldLink RX6 18 "LightCoins$Town" "pay" "[I", .fieldLink RX6 21 "LightCoins$Town" "others" "[I"] ++ wsX60)
def wsX6_everybody : List Cond := .code yX6_everybody cX6_everybody 1 (some .int) :: ([.fieldLink RX6 24 "LightCoins$Town" "people" "I"] ++ wsX60)
def wsJ6_bitCount_0f7a4 : List Cond := .code yJ6_bitCount_0f7a4 cJ6_bitCount_0f7a4 1 (some .int) :: ([.constant RJ6 265 (1431655765), .constant RJ6 266 (858993459), .constant RJ6 267 (252645135)])
def wsX6_afterRound : List Cond := .code yX6_afterRound cX6_afterRound 5 (some .int) :: ([.fieldLink RX6 24 "LightCoins$Town" "people" "I", .fieldLink RX6 21 "LightCoins$Town" "others" "[I", .methodLink RX6 28 yJ6_bitCount_0f7a4, .static yJ6_bitCount_0f7a4, .initialized RJ6, .code yJ6_bitCount_0f7a4 cJ6_bitCount_0f7a4 1 (some .int), .constant RJ6 265 (1431655765), .constant RJ6 266 (858993459), .constant RJ6 267 (252645135)] ++ wsX60)
def wsX6_takersFrom : List Cond := .code yX6_takersFrom cX6_takersFrom 4 (some .int) :: ([.methodLink RX6 34 yX6_everybody, .instanceMethod yX6_everybody, .selects RX6 yX6_everybody yX6_everybody, .initialized RX6, .code yX6_everybody cX6_everybody 1 (some .int), .fieldLink RX6 24 "LightCoins$Town" "people" "I", .methodLink RX6 38 yX6_afterRound, .instanceMethod yX6_afterRound, .selects RX6 yX6_afterRound yX6_afterRound, .code yX6_afterRound cX6_afterRound 5 (some .int), .fieldLink RX6 21 "LightCoins$Town" "others" "[I", .methodLink RX6 28 yJ6_bitCount_0f7a4, .static yJ6_bitCount_0f7a4, .initialized RJ6, .code yJ6_bitCount_0f7a4 cJ6_bitCount_0f7a4 1 (some .int), .constant RJ6 265 (1431655765), .constant RJ6 266 (858993459), .constant RJ6 267 (252645135)] ++ wsX60)
def wsX6_roundsFrom : List Cond := .code yX6_roundsFrom cX6_roundsFrom 5 (some .int) :: ([.methodLink RX6 34 yX6_everybody, .instanceMethod yX6_everybody, .selects RX6 yX6_everybody yX6_everybody, .initialized RX6, .code yX6_everybody cX6_everybody 1 (some .int), .fieldLink RX6 24 "LightCoins$Town" "people" "I", .methodLink RX6 38 yX6_afterRound, .instanceMethod yX6_afterRound, .selects RX6 yX6_afterRound yX6_afterRound, .code yX6_afterRound cX6_afterRound 5 (some .int), .fieldLink RX6 21 "LightCoins$Town" "others" "[I", .methodLink RX6 28 yJ6_bitCount_0f7a4, .static yJ6_bitCount_0f7a4, .initialized RJ6, .code yJ6_bitCount_0f7a4 cJ6_bitCount_0f7a4 1 (some .int), .constant RJ6 265 (1431655765), .constant RJ6 266 (858993459), .constant RJ6 267 (252645135)] ++ wsX60)
def wsX6_leastSeeds : List Cond := .code yX6_leastSeeds cX6_leastSeeds 4 (some .int) :: ([.methodLink RX6 34 yX6_everybody, .instanceMethod yX6_everybody, .selects RX6 yX6_everybody yX6_everybody, .initialized RX6, .code yX6_everybody cX6_everybody 1 (some .int), .fieldLink RX6 24 "LightCoins$Town" "people" "I", .methodLink RX6 28 yJ6_bitCount_0f7a4, .static yJ6_bitCount_0f7a4, .initialized RJ6, .code yJ6_bitCount_0f7a4 cJ6_bitCount_0f7a4 1 (some .int), .constant RJ6 265 (1431655765), .constant RJ6 266 (858993459), .constant RJ6 267 (252645135), .methodLink RX6 41 yX6_takersFrom, .instanceMethod yX6_takersFrom, .selects RX6 yX6_takersFrom yX6_takersFrom, .code yX6_takersFrom cX6_takersFrom 4 (some .int), .methodLink RX6 38 yX6_afterRound, .instanceMethod yX6_afterRound, .selects RX6 yX6_afterRound yX6_afterRound, .code yX6_afterRound cX6_afterRound 5 (some .int), .fieldLink RX6 21 "LightCoins$Town" "others" "[I"] ++ wsX60)
def wsX7_init : List Cond := .code yX7_init cX7_init 1 none :: ([.methodLink RX7 3 objectInit, .instanceMethod objectInit, .code objectInit ⟨#[0xb1]⟩ 1 none, .arrayClass .int, .fieldLink RX7 9 "LightCoins$Tunes" "value" "[I"] ++ wsX70)
def wsX7_of : List Cond := .code yX7_of cX7_of 2 (some .int) :: ([.fieldLink RX7 9 "LightCoins$Tunes" "value" "[I"] ++ wsX70)
def wsX7_set : List Cond := .code yX7_set cX7_set 4 (some .int) :: ([.fieldLink RX7 9 "LightCoins$Tunes" "value" "[I", .fieldLink RX7 15 "LightCoins$Tunes" "LEAST" "[I", .fieldLink RX7 18 "LightCoins$Tunes" "MOST" "[I"] ++ wsX70)
def wsX8_init_r1 : List Cond := [Cond.methodLink RX8 1 objectInit, Cond.instanceMethod objectInit, Cond.code objectInit ⟨#[0xb1]⟩ 1 none, Cond.classLink RX8 7 RX5, Cond.instantiable RX5 6, Cond.initialized RX5, Cond.fieldLink RX8 10 "LightCoins" "text" "LLightCoins$Text;", Cond.classLink RX8 16 RX4, Cond.instantiable RX4 1, Cond.initialized RX4, Cond.fieldLink RX8 19 "LightCoins" "purses" "LLightCoins$Purses;", Cond.fieldLink RX8 23 "LightCoins" "scratch" "LLightCoins$Purses;", Cond.classLink RX8 26 RX7, Cond.instantiable RX7 1, Cond.initialized RX7, Cond.fieldLink RX8 29 "LightCoins" "tunes" "LLightCoins$Tunes;", Cond.classLink RX8 33 RX3, Cond.instantiable RX3 5, Cond.initialized RX3, Cond.fieldLink RX8 36 "LightCoins" "latest" "LLightCoins$Meeting;", Cond.classLink RX8 40 RX0, Cond.instantiable RX0 5, Cond.initialized RX0, Cond.fieldLink RX8 43 "LightCoins" "day" "LLightCoins$Day;"]
def wsX8_init_r2 : List Cond := [Cond.classLink RX8 47 RX2, Cond.instantiable RX2 1, Cond.initialized RX2, Cond.fieldLink RX8 50 "LightCoins" "laws" "LLightCoins$Laws;", Cond.classLink RX8 54 RX1, Cond.instantiable RX1 4, Cond.initialized RX1, Cond.fieldLink RX8 57 "LightCoins" "images" "[LLightCoins$Image;", Cond.classLink RX8 61 RX6, Cond.instantiable RX6 5, Cond.initialized RX6, Cond.fieldLink RX8 64 "LightCoins" "town" "LLightCoins$Town;", Cond.fieldLink RX8 68 "LightCoins" "draft" "LLightCoins$Town;", Cond.fieldLink RX8 71 "LightCoins" "lot" "I", Cond.fieldLink RX8 75 "LightCoins" "year" "I", Cond.fieldLink RX8 78 "LightCoins" "trace" "J", Cond.instanceMethod yX5_init, Cond.code yX5_init cX5_init 1 none, Cond.methodLink RX5 3 objectInit, Cond.arrayClass .int, Cond.fieldLink RX5 11 "LightCoins$Text" "bytes" "[I", Cond.instanceMethod yX4_init, Cond.code yX4_init cX4_init 1 none, Cond.methodLink RX4 3 objectInit]
def wsX8_init_r3 : List Cond := [Cond.fieldLink RX4 9 "LightCoins$Purses" "cells" "[I", Cond.instanceMethod yX7_init, Cond.code yX7_init cX7_init 1 none, Cond.methodLink RX7 3 objectInit, Cond.fieldLink RX7 9 "LightCoins$Tunes" "value" "[I", Cond.instanceMethod yX3_init, Cond.code yX3_init cX3_init 1 none, Cond.methodLink RX3 3 objectInit, Cond.fieldLink RX3 9 "LightCoins$Meeting" "payer" "I", Cond.fieldLink RX3 15 "LightCoins$Meeting" "taker" "I", Cond.fieldLink RX3 18 "LightCoins$Meeting" "looked" "I", Cond.fieldLink RX3 21 "LightCoins$Meeting" "paid" "I", Cond.instanceMethod yX0_init, Cond.code yX0_init cX0_init 1 none, Cond.methodLink RX0 3 objectInit, Cond.fieldLink RX0 9 "LightCoins$Day" "ofWeight" "[I", Cond.fieldLink RX0 15 "LightCoins$Day" "heaviest" "[I", Cond.fieldLink RX0 18 "LightCoins$Day" "lightest" "[I", Cond.instanceMethod yX2_init, Cond.code yX2_init cX2_init 1 none, Cond.methodLink RX2 3 objectInit, Cond.fieldLink RX2 11 "LightCoins$Laws" "value" "[I", Cond.instanceMethod yX1_init, Cond.code yX1_init cX1_init 1 none]
def wsX8_init_r4 : List Cond := [Cond.methodLink RX1 1 objectInit, Cond.classLink RX1 7 RX4, Cond.fieldLink RX1 10 "LightCoins$Image" "purses" "LLightCoins$Purses;", Cond.instanceMethod yX6_init, Cond.code yX6_init cX6_init 1 none, Cond.methodLink RX6 3 objectInit, Cond.fieldLink RX6 9 "LightCoins$Town" "way" "[I", Cond.fieldLink RX6 15 "LightCoins$Town" "tenths" "[I", Cond.fieldLink RX6 18 "LightCoins$Town" "pay" "[I", Cond.fieldLink RX6 21 "LightCoins$Town" "others" "[I"]
def wsX8_init : List Cond := .code yX8_init cX8_init 1 none :: ((wsX8_init_r1 ++ (wsX8_init_r2 ++ (wsX8_init_r3 ++ wsX8_init_r4))) ++ wsX50 ++ wsX80 ++ wsX40 ++ wsX70 ++ wsX30 ++ wsX00 ++ wsX20 ++ wsX10 ++ wsX60)
def wsX8_type : List Cond := .code yX8_type cX8_type 5 (some .int) :: ([.fieldLink RX8 10 "LightCoins" "text" "LLightCoins$Text;", .constantLong RX8 86 (255), .fieldLink RX8 92 "LightCoins$Text" "length" "I", .methodLink RX8 82 yX5_hasRoom, .instanceMethod yX5_hasRoom, .selects RX5 yX5_hasRoom yX5_hasRoom, .initialized RX5, .code yX5_hasRoom cX5_hasRoom 2 (some .boolean), .fieldLink RX5 15 "LightCoins$Text" "length" "I", .methodLink RX8 88 yX5_append, .instanceMethod yX5_append, .selects RX5 yX5_append yX5_append, .code yX5_append cX5_append 2 none, .fieldLink RX5 11 "LightCoins$Text" "bytes" "[I", .methodLink RX5 19 yX5_hasRoom] ++ wsX80 ++ wsX50)
def wsX8_clear : List Cond := .code yX8_clear cX8_clear 2 (some .int) :: ([.fieldLink RX8 10 "LightCoins" "text" "LLightCoins$Text;", .fieldLink RX8 92 "LightCoins$Text" "length" "I"] ++ wsX80 ++ wsX50)
def wsX8_town_r1 : List Cond := [Cond.fieldLink RX8 10 "LightCoins" "text" "LLightCoins$Text;", Cond.fieldLink RX8 68 "LightCoins" "draft" "LLightCoins$Town;", Cond.fieldLink RX8 64 "LightCoins" "town" "LLightCoins$Town;", Cond.fieldLink RX8 92 "LightCoins$Text" "length" "I", Cond.fieldLink RX8 19 "LightCoins" "purses" "LLightCoins$Purses;", Cond.fieldLink RX8 36 "LightCoins" "latest" "LLightCoins$Meeting;", Cond.fieldLink RX8 57 "LightCoins" "images" "[LLightCoins$Image;", Cond.fieldLink RX8 105 "LightCoins$Image" "kept" "Z", Cond.fieldLink RX8 109 "LightCoins$Town" "people" "I", Cond.methodLink RX8 95 yX5_readInto, Cond.instanceMethod yX5_readInto, Cond.selects RX5 yX5_readInto yX5_readInto, Cond.initialized RX5, Cond.code yX5_readInto cX5_readInto 3 (some .int), Cond.fieldLink RX5 23 "LightCoins$Text" "at" "I", Cond.fieldLink RX5 26 "LightCoins$Town" "people" "I", Cond.fieldLink RX5 34 "LightCoins$Text" "token" "I", Cond.fieldLink RX5 41 "LightCoins$Text" "start" "I", Cond.methodLink RX5 31 yX5_advance, Cond.instanceMethod yX5_advance, Cond.selects RX5 yX5_advance yX5_advance, Cond.code yX5_advance cX5_advance 1 none, Cond.fieldLink RX5 15 "LightCoins$Text" "length" "I", Cond.fieldLink RX5 11 "LightCoins$Text" "bytes" "[I"]
def wsX8_town_r2 : List Cond := [Cond.methodLink RX5 59 yX5_isDigit, Cond.static yX5_isDigit, Cond.code yX5_isDigit cX5_isDigit 1 (some .boolean), Cond.methodLink RX5 62 yX5_numberToken, Cond.instanceMethod yX5_numberToken, Cond.selects RX5 yX5_numberToken yX5_numberToken, Cond.code yX5_numberToken cX5_numberToken 2 (some .int), Cond.fieldLink RX5 50 "LightCoins$Text" "number" "I", Cond.methodLink RX5 72 Lib.Math.min.name, Cond.static Lib.Math.min.name, Cond.initialized "java/lang/Math", Cond.code Lib.Math.min.name Lib.Math.min.code 2 (some .int), Cond.methodLink RX5 66 yX5_isLetter, Cond.static yX5_isLetter, Cond.code yX5_isLetter cX5_isLetter 1 (some .boolean), Cond.methodLink RX5 69 yX5_wordToken, Cond.instanceMethod yX5_wordToken, Cond.selects RX5 yX5_wordToken yX5_wordToken, Cond.code yX5_wordToken cX5_wordToken 1 (some .int), Cond.methodLink RX5 80 yX5_wordIs, Cond.instanceMethod yX5_wordIs, Cond.selects RX5 yX5_wordIs yX5_wordIs, Cond.code yX5_wordIs cX5_wordIs 3 (some .boolean), Cond.methodLink RX5 92 yJ0_length_8abf5]
def wsX8_town_r3 : List Cond := [Cond.instanceMethod yJ0_length_8abf5, Cond.selects RJ0 yJ0_length_8abf5 yJ0_length_8abf5, Cond.initialized RJ0, Cond.code yJ0_length_8abf5 cJ0_length_8abf5 1 (some .int), Cond.fieldLink RJ0 9 "java/lang/String" "value" "[B", Cond.methodLink RJ0 335 yJ0_coder_7d493, Cond.instanceMethod yJ0_coder_7d493, Cond.selects RJ0 yJ0_coder_7d493 yJ0_coder_7d493, Cond.code yJ0_coder_7d493 cJ0_coder_7d493 1 (some .byte), Cond.fieldLink RJ0 38 "java/lang/String" "COMPACT_STRINGS" "Z", Cond.fieldLink RJ0 15 "java/lang/String" "coder" "B", Cond.methodLink RX5 96 yJ0_charAt_5068e, Cond.instanceMethod yJ0_charAt_5068e, Cond.selects RJ0 yJ0_charAt_5068e yJ0_charAt_5068e, Cond.code yJ0_charAt_5068e cJ0_charAt_5068e 2 (some .char), Cond.methodLink RJ0 492 yJ0_isLatin1_aae02, Cond.instanceMethod yJ0_isLatin1_aae02, Cond.selects RJ0 yJ0_isLatin1_aae02 yJ0_isLatin1_aae02, Cond.code yJ0_isLatin1_aae02 cJ0_isLatin1_aae02 1 (some .boolean), Cond.methodLink RJ0 495 yJ1_charAt_3b067, Cond.static yJ1_charAt_3b067, Cond.initialized RJ1, Cond.code yJ1_charAt_3b067 cJ1_charAt_3b067 2 (some .char), Cond.methodLink RJ1 9 yJ0_checkIndex_df160]
def wsX8_town_r4 : List Cond := [Cond.static yJ0_checkIndex_df160, Cond.code yJ0_checkIndex_df160 cJ0_checkIndex_df160 2 none, Cond.fieldLink RJ0 1053 "jdk/internal/util/Preconditions" "SIOOBE_FORMATTER" "Ljava/util/function/BiFunction;", Cond.methodLink RJ0 1059 yJ3_checkIndex_8e157, Cond.static yJ3_checkIndex_8e157, Cond.initialized RJ3, Cond.code yJ3_checkIndex_8e157 cJ3_checkIndex_8e157 3 (some .int), Cond.methodLink RJ0 498 yJ2_charAt_3b067, Cond.static yJ2_charAt_3b067, Cond.initialized RJ2, Cond.code yJ2_charAt_3b067 cJ2_charAt_3b067 2 (some .char), Cond.methodLink RJ2 67 yJ2_checkIndex_2214a, Cond.static yJ2_checkIndex_2214a, Cond.code yJ2_checkIndex_2214a cJ2_checkIndex_2214a 2 none, Cond.methodLink RJ2 48 yJ2_length_9d52b, Cond.static yJ2_length_9d52b, Cond.code yJ2_length_9d52b cJ2_length_9d52b 1 (some .int), Cond.methodLink RJ2 414 yJ0_checkIndex_df160, Cond.methodLink RJ2 71 yJ2_getChar_3b067, Cond.static yJ2_getChar_3b067, Cond.code yJ2_getChar_3b067 cJ2_getChar_3b067 2 (some .char), Cond.fieldLink RJ2 44 "java/lang/StringUTF16" "$assertionsDisabled" "Z", Cond.fieldLink RJ2 59 "java/lang/StringUTF16" "HI_BYTE_SHIFT" "I", Cond.fieldLink RJ2 63 "java/lang/StringUTF16" "LO_BYTE_SHIFT" "I"]
def wsX8_town_r5 : List Cond := [Cond.methodLink RX5 37 yX5_readItem, Cond.instanceMethod yX5_readItem, Cond.selects RX5 yX5_readItem yX5_readItem, Cond.code yX5_readItem cX5_readItem 3 (some .boolean), Cond.fieldLink RX5 44 "LightCoins$Town" "way" "[I", Cond.fieldLink RX5 47 "LightCoins$Town" "tenths" "[I", Cond.fieldLink RX5 53 "LightCoins$Town" "pay" "[I", Cond.fieldLink RX5 56 "LightCoins$Town" "others" "[I", Cond.methodLink RX8 99 yX4_empty, Cond.instanceMethod yX4_empty, Cond.selects RX4 yX4_empty yX4_empty, Cond.initialized RX4, Cond.code yX4_empty cX4_empty 2 none, Cond.fieldLink RX4 9 "LightCoins$Purses" "cells" "[I", Cond.methodLink RX8 102 yX3_forget, Cond.instanceMethod yX3_forget, Cond.selects RX3 yX3_forget yX3_forget, Cond.initialized RX3, Cond.code yX3_forget cX3_forget 1 none, Cond.fieldLink RX3 9 "LightCoins$Meeting" "payer" "I", Cond.fieldLink RX3 15 "LightCoins$Meeting" "taker" "I", Cond.fieldLink RX3 18 "LightCoins$Meeting" "looked" "I", Cond.fieldLink RX3 21 "LightCoins$Meeting" "paid" "I", Cond.fieldLink RX3 24 "LightCoins$Meeting" "number" "I"]
def wsX8_town : List Cond := .code yX8_town cX8_town 3 (some .int) :: ((wsX8_town_r1 ++ (wsX8_town_r2 ++ (wsX8_town_r3 ++ (wsX8_town_r4 ++ wsX8_town_r5)))) ++ wsX80 ++ wsX50 ++ wsX10 ++ wsX60 ++ wsX40 ++ wsX30)
def wsX8_isPerson : List Cond := .code yX8_isPerson cX8_isPerson 2 (some .boolean) :: ([.fieldLink RX8 64 "LightCoins" "town" "LLightCoins$Town;", .fieldLink RX8 109 "LightCoins$Town" "people" "I"] ++ wsX80 ++ wsX60)
def wsX8_person_r1 : List Cond := [Cond.fieldLink RX8 64 "LightCoins" "town" "LLightCoins$Town;", Cond.fieldLink RX8 115 "LightCoins$Town" "way" "[I", Cond.fieldLink RX8 119 "LightCoins$Town" "tenths" "[I", Cond.fieldLink RX8 122 "LightCoins$Town" "pay" "[I", Cond.fieldLink RX8 125 "LightCoins$Town" "others" "[I", Cond.fieldLink RX8 19 "LightCoins" "purses" "LLightCoins$Purses;", Cond.methodLink RX8 112 yX8_isPerson, Cond.instanceMethod yX8_isPerson, Cond.selects RX8 yX8_isPerson yX8_isPerson, Cond.initialized RX8, Cond.code yX8_isPerson cX8_isPerson 2 (some .boolean), Cond.fieldLink RX8 109 "LightCoins$Town" "people" "I", Cond.methodLink RX8 128 yX4_coinsOf, Cond.instanceMethod yX4_coinsOf, Cond.selects RX4 yX4_coinsOf yX4_coinsOf, Cond.initialized RX4, Cond.code yX4_coinsOf cX4_coinsOf 2 (some .int), Cond.methodLink RX4 21 yX4_coinsAbove, Cond.instanceMethod yX4_coinsAbove, Cond.selects RX4 yX4_coinsAbove yX4_coinsAbove, Cond.code yX4_coinsAbove cX4_coinsAbove 5 (some .int), Cond.methodLink RX4 25 yX4_held, Cond.instanceMethod yX4_held, Cond.selects RX4 yX4_held yX4_held]
def wsX8_person_r2 : List Cond := [Cond.code yX4_held cX4_held 3 (some .int), Cond.fieldLink RX4 9 "LightCoins$Purses" "cells" "[I"]
def wsX8_person : List Cond := .code yX8_person cX8_person 3 (some .int) :: ((wsX8_person_r1 ++ wsX8_person_r2) ++ wsX80 ++ wsX60 ++ wsX40)
def wsX8_isWeight : List Cond := .code yX8_isWeight cX8_isWeight 1 (some .boolean) :: ([])
def wsX8_purse : List Cond := .code yX8_purse cX8_purse 5 (some .int) :: ([.fieldLink RX8 19 "LightCoins" "purses" "LLightCoins$Purses;", .methodLink RX8 112 yX8_isPerson, .instanceMethod yX8_isPerson, .selects RX8 yX8_isPerson yX8_isPerson, .initialized RX8, .code yX8_isPerson cX8_isPerson 2 (some .boolean), .fieldLink RX8 64 "LightCoins" "town" "LLightCoins$Town;", .fieldLink RX8 109 "LightCoins$Town" "people" "I", .methodLink RX8 132 yX8_isWeight, .static yX8_isWeight, .code yX8_isWeight cX8_isWeight 1 (some .boolean), .methodLink RX8 135 yX4_held, .instanceMethod yX4_held, .selects RX4 yX4_held yX4_held, .initialized RX4, .code yX4_held cX4_held 3 (some .int), .fieldLink RX4 9 "LightCoins$Purses" "cells" "[I", .methodLink RX8 139 yX4_put, .instanceMethod yX4_put, .selects RX4 yX4_put yX4_put, .code yX4_put cX4_put 4 none] ++ wsX80 ++ wsX60 ++ wsX40)
def wsX8_coins : List Cond := .code yX8_coins cX8_coins 3 (some .int) :: ([.fieldLink RX8 19 "LightCoins" "purses" "LLightCoins$Purses;", .methodLink RX8 132 yX8_isWeight, .static yX8_isWeight, .initialized RX8, .code yX8_isWeight cX8_isWeight 1 (some .boolean), .methodLink RX8 112 yX8_isPerson, .instanceMethod yX8_isPerson, .selects RX8 yX8_isPerson yX8_isPerson, .code yX8_isPerson cX8_isPerson 2 (some .boolean), .fieldLink RX8 64 "LightCoins" "town" "LLightCoins$Town;", .fieldLink RX8 109 "LightCoins$Town" "people" "I", .methodLink RX8 143 yX4_ofWeight, .instanceMethod yX4_ofWeight, .selects RX4 yX4_ofWeight yX4_ofWeight, .initialized RX4, .code yX4_ofWeight cX4_ofWeight 4 (some .int), .methodLink RX4 25 yX4_held, .instanceMethod yX4_held, .selects RX4 yX4_held yX4_held, .code yX4_held cX4_held 3 (some .int), .fieldLink RX4 9 "LightCoins$Purses" "cells" "[I", .methodLink RX8 135 yX4_held] ++ wsX80 ++ wsX60 ++ wsX40)
def wsX8_tune : List Cond := .code yX8_tune cX8_tune 3 (some .int) :: ([.fieldLink RX8 29 "LightCoins" "tunes" "LLightCoins$Tunes;", .methodLink RX8 146 yX7_set, .instanceMethod yX7_set, .selects RX7 yX7_set yX7_set, .initialized RX7, .code yX7_set cX7_set 4 (some .int), .fieldLink RX7 9 "LightCoins$Tunes" "value" "[I", .fieldLink RX7 15 "LightCoins$Tunes" "LEAST" "[I", .fieldLink RX7 18 "LightCoins$Tunes" "MOST" "[I"] ++ wsX80 ++ wsX70)
def wsX8_lot : List Cond := .code yX8_lot cX8_lot 3 (some .int) :: ([.fieldLink RX8 71 "LightCoins" "lot" "I"] ++ wsX80)
def wsX8_draw : List Cond := .code yX8_draw cX8_draw 1 (some .int) :: ([.fieldLink RX8 71 "LightCoins" "lot" "I", .constant RX8 304 (1103515245)] ++ wsX80)
def wsX8_looksNow : List Cond := .code yX8_looksNow cX8_looksNow 2 (some .boolean) :: ([.fieldLink RX8 64 "LightCoins" "town" "LLightCoins$Town;", .fieldLink RX8 115 "LightCoins$Town" "way" "[I", .fieldLink RX8 119 "LightCoins$Town" "tenths" "[I", .methodLink RX8 305 yX8_draw, .instanceMethod yX8_draw, .selects RX8 yX8_draw yX8_draw, .initialized RX8, .code yX8_draw cX8_draw 1 (some .int), .fieldLink RX8 71 "LightCoins" "lot" "I", .constant RX8 304 (1103515245)] ++ wsX80 ++ wsX60)
def wsX8_weightToPay : List Cond := .code yX8_weightToPay cX8_weightToPay 5 (some .int) :: ([.fieldLink RX8 29 "LightCoins" "tunes" "LLightCoins$Tunes;", .fieldLink RX8 64 "LightCoins" "town" "LLightCoins$Town;", .fieldLink RX8 122 "LightCoins$Town" "pay" "[I", .fieldLink RX8 19 "LightCoins" "purses" "LLightCoins$Purses;", .methodLink RX8 172 yX7_of, .instanceMethod yX7_of, .selects RX7 yX7_of yX7_of, .initialized RX7, .code yX7_of cX7_of 2 (some .int), .fieldLink RX7 9 "LightCoins$Tunes" "value" "[I", .methodLink RX8 135 yX4_held, .instanceMethod yX4_held, .selects RX4 yX4_held yX4_held, .initialized RX4, .code yX4_held cX4_held 3 (some .int), .fieldLink RX4 9 "LightCoins$Purses" "cells" "[I"] ++ wsX80 ++ wsX60 ++ wsX70 ++ wsX40)
def wsX8_holdMeeting_r1 : List Cond := [Cond.fieldLink RX8 64 "LightCoins" "town" "LLightCoins$Town;", Cond.fieldLink RX8 109 "LightCoins$Town" "people" "I", Cond.fieldLink RX8 19 "LightCoins" "purses" "LLightCoins$Purses;", Cond.fieldLink RX8 36 "LightCoins" "latest" "LLightCoins$Meeting;", Cond.methodLink RX8 305 yX8_draw, Cond.instanceMethod yX8_draw, Cond.selects RX8 yX8_draw yX8_draw, Cond.initialized RX8, Cond.code yX8_draw cX8_draw 1 (some .int), Cond.fieldLink RX8 71 "LightCoins" "lot" "I", Cond.constant RX8 304 (1103515245), Cond.methodLink RX8 308 yX8_looksNow, Cond.instanceMethod yX8_looksNow, Cond.selects RX8 yX8_looksNow yX8_looksNow, Cond.code yX8_looksNow cX8_looksNow 2 (some .boolean), Cond.fieldLink RX8 115 "LightCoins$Town" "way" "[I", Cond.fieldLink RX8 119 "LightCoins$Town" "tenths" "[I", Cond.methodLink RX8 311 yX8_weightToPay, Cond.instanceMethod yX8_weightToPay, Cond.selects RX8 yX8_weightToPay yX8_weightToPay, Cond.code yX8_weightToPay cX8_weightToPay 5 (some .int), Cond.fieldLink RX8 29 "LightCoins" "tunes" "LLightCoins$Tunes;", Cond.fieldLink RX8 122 "LightCoins$Town" "pay" "[I", Cond.methodLink RX8 172 yX7_of]
def wsX8_holdMeeting_r2 : List Cond := [Cond.instanceMethod yX7_of, Cond.selects RX7 yX7_of yX7_of, Cond.initialized RX7, Cond.code yX7_of cX7_of 2 (some .int), Cond.fieldLink RX7 9 "LightCoins$Tunes" "value" "[I", Cond.methodLink RX8 135 yX4_held, Cond.instanceMethod yX4_held, Cond.selects RX4 yX4_held yX4_held, Cond.initialized RX4, Cond.code yX4_held cX4_held 3 (some .int), Cond.fieldLink RX4 9 "LightCoins$Purses" "cells" "[I", Cond.methodLink RX8 315 yX4_move, Cond.instanceMethod yX4_move, Cond.selects RX4 yX4_move yX4_move, Cond.code yX4_move cX4_move 4 (some .boolean), Cond.methodLink RX4 25 yX4_held, Cond.methodLink RX4 35 yX4_put, Cond.instanceMethod yX4_put, Cond.selects RX4 yX4_put yX4_put, Cond.code yX4_put cX4_put 4 none, Cond.methodLink RX8 319 yX3_note, Cond.instanceMethod yX3_note, Cond.selects RX3 yX3_note yX3_note, Cond.initialized RX3]
def wsX8_holdMeeting_r3 : List Cond := [Cond.code yX3_note cX3_note 5 none, Cond.fieldLink RX3 9 "LightCoins$Meeting" "payer" "I", Cond.fieldLink RX3 15 "LightCoins$Meeting" "taker" "I", Cond.fieldLink RX3 18 "LightCoins$Meeting" "looked" "I", Cond.fieldLink RX3 21 "LightCoins$Meeting" "paid" "I", Cond.fieldLink RX3 24 "LightCoins$Meeting" "number" "I"]
def wsX8_holdMeeting : List Cond := .code yX8_holdMeeting cX8_holdMeeting 6 none :: ((wsX8_holdMeeting_r1 ++ (wsX8_holdMeeting_r2 ++ wsX8_holdMeeting_r3)) ++ wsX80 ++ wsX60 ++ wsX70 ++ wsX40 ++ wsX30)
def wsX8_meet_r1 : List Cond := [Cond.fieldLink RX8 64 "LightCoins" "town" "LLightCoins$Town;", Cond.fieldLink RX8 109 "LightCoins$Town" "people" "I", Cond.fieldLink RX8 36 "LightCoins" "latest" "LLightCoins$Meeting;", Cond.fieldLink RX8 152 "LightCoins$Meeting" "paid" "I", Cond.methodLink RX8 149 yX8_holdMeeting, Cond.instanceMethod yX8_holdMeeting, Cond.selects RX8 yX8_holdMeeting yX8_holdMeeting, Cond.initialized RX8, Cond.code yX8_holdMeeting cX8_holdMeeting 6 none, Cond.fieldLink RX8 19 "LightCoins" "purses" "LLightCoins$Purses;", Cond.methodLink RX8 305 yX8_draw, Cond.instanceMethod yX8_draw, Cond.selects RX8 yX8_draw yX8_draw, Cond.code yX8_draw cX8_draw 1 (some .int), Cond.fieldLink RX8 71 "LightCoins" "lot" "I", Cond.constant RX8 304 (1103515245), Cond.methodLink RX8 308 yX8_looksNow, Cond.instanceMethod yX8_looksNow, Cond.selects RX8 yX8_looksNow yX8_looksNow, Cond.code yX8_looksNow cX8_looksNow 2 (some .boolean), Cond.fieldLink RX8 115 "LightCoins$Town" "way" "[I", Cond.fieldLink RX8 119 "LightCoins$Town" "tenths" "[I", Cond.methodLink RX8 311 yX8_weightToPay, Cond.instanceMethod yX8_weightToPay]
def wsX8_meet_r2 : List Cond := [Cond.selects RX8 yX8_weightToPay yX8_weightToPay, Cond.code yX8_weightToPay cX8_weightToPay 5 (some .int), Cond.fieldLink RX8 29 "LightCoins" "tunes" "LLightCoins$Tunes;", Cond.fieldLink RX8 122 "LightCoins$Town" "pay" "[I", Cond.methodLink RX8 172 yX7_of, Cond.instanceMethod yX7_of, Cond.selects RX7 yX7_of yX7_of, Cond.initialized RX7, Cond.code yX7_of cX7_of 2 (some .int), Cond.fieldLink RX7 9 "LightCoins$Tunes" "value" "[I", Cond.methodLink RX8 135 yX4_held, Cond.instanceMethod yX4_held, Cond.selects RX4 yX4_held yX4_held, Cond.initialized RX4, Cond.code yX4_held cX4_held 3 (some .int), Cond.fieldLink RX4 9 "LightCoins$Purses" "cells" "[I", Cond.methodLink RX8 315 yX4_move, Cond.instanceMethod yX4_move, Cond.selects RX4 yX4_move yX4_move, Cond.code yX4_move cX4_move 4 (some .boolean), Cond.methodLink RX4 25 yX4_held, Cond.methodLink RX4 35 yX4_put, Cond.instanceMethod yX4_put, Cond.selects RX4 yX4_put yX4_put]
def wsX8_meet_r3 : List Cond := [Cond.code yX4_put cX4_put 4 none, Cond.methodLink RX8 319 yX3_note, Cond.instanceMethod yX3_note, Cond.selects RX3 yX3_note yX3_note, Cond.initialized RX3, Cond.code yX3_note cX3_note 5 none, Cond.fieldLink RX3 9 "LightCoins$Meeting" "payer" "I", Cond.fieldLink RX3 15 "LightCoins$Meeting" "taker" "I", Cond.fieldLink RX3 18 "LightCoins$Meeting" "looked" "I", Cond.fieldLink RX3 21 "LightCoins$Meeting" "paid" "I", Cond.fieldLink RX3 24 "LightCoins$Meeting" "number" "I"]
def wsX8_meet : List Cond := .code yX8_meet cX8_meet 1 (some .int) :: ((wsX8_meet_r1 ++ (wsX8_meet_r2 ++ wsX8_meet_r3)) ++ wsX80 ++ wsX60 ++ wsX30 ++ wsX70 ++ wsX40)
def wsX8_run_r1 : List Cond := [Cond.fieldLink RX8 64 "LightCoins" "town" "LLightCoins$Town;", Cond.fieldLink RX8 109 "LightCoins$Town" "people" "I", Cond.fieldLink RX8 36 "LightCoins" "latest" "LLightCoins$Meeting;", Cond.fieldLink RX8 152 "LightCoins$Meeting" "paid" "I", Cond.methodLink RX8 149 yX8_holdMeeting, Cond.instanceMethod yX8_holdMeeting, Cond.selects RX8 yX8_holdMeeting yX8_holdMeeting, Cond.initialized RX8, Cond.code yX8_holdMeeting cX8_holdMeeting 6 none, Cond.fieldLink RX8 19 "LightCoins" "purses" "LLightCoins$Purses;", Cond.methodLink RX8 305 yX8_draw, Cond.instanceMethod yX8_draw, Cond.selects RX8 yX8_draw yX8_draw, Cond.code yX8_draw cX8_draw 1 (some .int), Cond.fieldLink RX8 71 "LightCoins" "lot" "I", Cond.constant RX8 304 (1103515245), Cond.methodLink RX8 308 yX8_looksNow, Cond.instanceMethod yX8_looksNow, Cond.selects RX8 yX8_looksNow yX8_looksNow, Cond.code yX8_looksNow cX8_looksNow 2 (some .boolean), Cond.fieldLink RX8 115 "LightCoins$Town" "way" "[I", Cond.fieldLink RX8 119 "LightCoins$Town" "tenths" "[I", Cond.methodLink RX8 311 yX8_weightToPay, Cond.instanceMethod yX8_weightToPay]
def wsX8_run_r2 : List Cond := [Cond.selects RX8 yX8_weightToPay yX8_weightToPay, Cond.code yX8_weightToPay cX8_weightToPay 5 (some .int), Cond.fieldLink RX8 29 "LightCoins" "tunes" "LLightCoins$Tunes;", Cond.fieldLink RX8 122 "LightCoins$Town" "pay" "[I", Cond.methodLink RX8 172 yX7_of, Cond.instanceMethod yX7_of, Cond.selects RX7 yX7_of yX7_of, Cond.initialized RX7, Cond.code yX7_of cX7_of 2 (some .int), Cond.fieldLink RX7 9 "LightCoins$Tunes" "value" "[I", Cond.methodLink RX8 135 yX4_held, Cond.instanceMethod yX4_held, Cond.selects RX4 yX4_held yX4_held, Cond.initialized RX4, Cond.code yX4_held cX4_held 3 (some .int), Cond.fieldLink RX4 9 "LightCoins$Purses" "cells" "[I", Cond.methodLink RX8 315 yX4_move, Cond.instanceMethod yX4_move, Cond.selects RX4 yX4_move yX4_move, Cond.code yX4_move cX4_move 4 (some .boolean), Cond.methodLink RX4 25 yX4_held, Cond.methodLink RX4 35 yX4_put, Cond.instanceMethod yX4_put, Cond.selects RX4 yX4_put yX4_put]
def wsX8_run_r3 : List Cond := [Cond.code yX4_put cX4_put 4 none, Cond.methodLink RX8 319 yX3_note, Cond.instanceMethod yX3_note, Cond.selects RX3 yX3_note yX3_note, Cond.initialized RX3, Cond.code yX3_note cX3_note 5 none, Cond.fieldLink RX3 9 "LightCoins$Meeting" "payer" "I", Cond.fieldLink RX3 15 "LightCoins$Meeting" "taker" "I", Cond.fieldLink RX3 18 "LightCoins$Meeting" "looked" "I", Cond.fieldLink RX3 21 "LightCoins$Meeting" "paid" "I", Cond.fieldLink RX3 24 "LightCoins$Meeting" "number" "I"]
def wsX8_run : List Cond := .code yX8_run cX8_run 4 (some .int) :: ((wsX8_run_r1 ++ (wsX8_run_r2 ++ wsX8_run_r3)) ++ wsX80 ++ wsX60 ++ wsX30 ++ wsX70 ++ wsX40)
def wsX8_met : List Cond := .code yX8_met cX8_met 2 (some .int) :: ([.fieldLink RX8 36 "LightCoins" "latest" "LLightCoins$Meeting;", .fieldLink RX8 155 "LightCoins$Meeting" "payer" "I", .fieldLink RX8 158 "LightCoins$Meeting" "taker" "I", .fieldLink RX8 161 "LightCoins$Meeting" "looked" "I", .fieldLink RX8 152 "LightCoins$Meeting" "paid" "I"] ++ wsX80 ++ wsX30)
def wsX8_isUpperOrLower : List Cond := .code yX8_isUpperOrLower cX8_isUpperOrLower 1 (some .boolean) :: ([])
def wsX8_dayRefusal : List Cond := .code yX8_dayRefusal cX8_dayRefusal 3 (some .int) :: ([.fieldLink RX8 19 "LightCoins" "purses" "LLightCoins$Purses;", .methodLink RX8 225 yX4_allCoins, .instanceMethod yX4_allCoins, .selects RX4 yX4_allCoins yX4_allCoins, .initialized RX4, .code yX4_allCoins cX4_allCoins 3 (some .int), .methodLink RX4 28 yX4_coinsOf, .instanceMethod yX4_coinsOf, .selects RX4 yX4_coinsOf yX4_coinsOf, .code yX4_coinsOf cX4_coinsOf 2 (some .int), .methodLink RX4 21 yX4_coinsAbove, .instanceMethod yX4_coinsAbove, .selects RX4 yX4_coinsAbove yX4_coinsAbove, .code yX4_coinsAbove cX4_coinsAbove 5 (some .int), .methodLink RX4 25 yX4_held, .instanceMethod yX4_held, .selects RX4 yX4_held yX4_held, .code yX4_held cX4_held 3 (some .int), .fieldLink RX4 9 "LightCoins$Purses" "cells" "[I"] ++ wsX80 ++ wsX40)
def wsX8_commonDivisor : List Cond := .code yX8_commonDivisor cX8_commonDivisor 11 (some .long) :: ([])
def wsX8_leastTerms : List Cond := .code yX8_leastTerms cX8_leastTerms 7 (some .long) :: ([.methodLink RX8 294 Lib.MathLoose.abs_long.x, .static Lib.MathLoose.abs_long.x, .initialized "java/lang/Math", .code Lib.MathLoose.abs_long.x Lib.MathLoose.abs_long.code 2 (some .long), .constantLong RX8 170 (-1000000000000000000), .methodLink RX8 300 yX8_commonDivisor, .static yX8_commonDivisor, .initialized RX8, .code yX8_commonDivisor cX8_commonDivisor 11 (some .long)])
def wsX8_gain_r1 : List Cond := [Cond.constantLong RX8 170 (-1000000000000000000), Cond.fieldLink RX8 43 "LightCoins" "day" "LLightCoins$Day;", Cond.fieldLink RX8 19 "LightCoins" "purses" "LLightCoins$Purses;", Cond.fieldLink RX8 29 "LightCoins" "tunes" "LLightCoins$Tunes;", Cond.methodLink RX8 164 yX8_isUpperOrLower, Cond.static yX8_isUpperOrLower, Cond.initialized RX8, Cond.code yX8_isUpperOrLower cX8_isUpperOrLower 1 (some .boolean), Cond.methodLink RX8 167 yX8_dayRefusal, Cond.instanceMethod yX8_dayRefusal, Cond.selects RX8 yX8_dayRefusal yX8_dayRefusal, Cond.code yX8_dayRefusal cX8_dayRefusal 3 (some .int), Cond.methodLink RX8 225 yX4_allCoins, Cond.instanceMethod yX4_allCoins, Cond.selects RX4 yX4_allCoins yX4_allCoins, Cond.initialized RX4, Cond.code yX4_allCoins cX4_allCoins 3 (some .int), Cond.methodLink RX4 28 yX4_coinsOf, Cond.instanceMethod yX4_coinsOf, Cond.selects RX4 yX4_coinsOf yX4_coinsOf, Cond.code yX4_coinsOf cX4_coinsOf 2 (some .int), Cond.methodLink RX4 21 yX4_coinsAbove, Cond.instanceMethod yX4_coinsAbove, Cond.selects RX4 yX4_coinsAbove yX4_coinsAbove]
def wsX8_gain_r2 : List Cond := [Cond.code yX4_coinsAbove cX4_coinsAbove 5 (some .int), Cond.methodLink RX4 25 yX4_held, Cond.instanceMethod yX4_held, Cond.selects RX4 yX4_held yX4_held, Cond.code yX4_held cX4_held 3 (some .int), Cond.fieldLink RX4 9 "LightCoins$Purses" "cells" "[I", Cond.methodLink RX8 172 yX7_of, Cond.instanceMethod yX7_of, Cond.selects RX7 yX7_of yX7_of, Cond.initialized RX7, Cond.code yX7_of cX7_of 2 (some .int), Cond.fieldLink RX7 9 "LightCoins$Tunes" "value" "[I", Cond.methodLink RX8 175 yX0_lay, Cond.instanceMethod yX0_lay, Cond.selects RX0 yX0_lay yX0_lay, Cond.initialized RX0, Cond.code yX0_lay cX0_lay 5 none, Cond.fieldLink RX0 21 "LightCoins$Day" "n" "I", Cond.fieldLink RX0 25 "LightCoins$Day" "looking" "I", Cond.fieldLink RX0 9 "LightCoins$Day" "ofWeight" "[I", Cond.fieldLink RX0 15 "LightCoins$Day" "heaviest" "[I", Cond.fieldLink RX0 18 "LightCoins$Day" "lightest" "[I", Cond.methodLink RX0 28 yX4_ofWeight, Cond.instanceMethod yX4_ofWeight]
def wsX8_gain_r3 : List Cond := [Cond.selects RX4 yX4_ofWeight yX4_ofWeight, Cond.code yX4_ofWeight cX4_ofWeight 4 (some .int), Cond.methodLink RX0 33 yX0_sumGrains, Cond.instanceMethod yX0_sumGrains, Cond.selects RX0 yX0_sumGrains yX0_sumGrains, Cond.code yX0_sumGrains cX0_sumGrains 8 none, Cond.methodLink RX8 179 yX0_taleUpper, Cond.instanceMethod yX0_taleUpper, Cond.selects RX0 yX0_taleUpper yX0_taleUpper, Cond.code yX0_taleUpper cX0_taleUpper 2 (some .long), Cond.methodLink RX8 183 yX0_taleLower, Cond.instanceMethod yX0_taleLower, Cond.selects RX0 yX0_taleLower yX0_taleLower, Cond.code yX0_taleLower cX0_taleLower 2 (some .long), Cond.methodLink RX8 186 yX8_leastTerms, Cond.static yX8_leastTerms, Cond.code yX8_leastTerms cX8_leastTerms 7 (some .long), Cond.methodLink RX8 294 Lib.MathLoose.abs_long.x, Cond.static Lib.MathLoose.abs_long.x, Cond.initialized "java/lang/Math", Cond.code Lib.MathLoose.abs_long.x Lib.MathLoose.abs_long.code 2 (some .long), Cond.methodLink RX8 300 yX8_commonDivisor, Cond.static yX8_commonDivisor, Cond.code yX8_commonDivisor cX8_commonDivisor 11 (some .long)]
def wsX8_gain_r4 : List Cond := [Cond.methodLink RX8 190 yX0_lookUpper, Cond.instanceMethod yX0_lookUpper, Cond.selects RX0 yX0_lookUpper yX0_lookUpper, Cond.code yX0_lookUpper cX0_lookUpper 2 (some .long), Cond.methodLink RX8 193 yX0_lookLower, Cond.instanceMethod yX0_lookLower, Cond.selects RX0 yX0_lookLower yX0_lookLower, Cond.code yX0_lookLower cX0_lookLower 2 (some .long)]
def wsX8_gain : List Cond := .code yX8_gain cX8_gain 5 (some .long) :: ((wsX8_gain_r1 ++ (wsX8_gain_r2 ++ (wsX8_gain_r3 ++ wsX8_gain_r4))) ++ wsX80 ++ wsX40 ++ wsX70 ++ wsX00)
def wsX8_rests_r1 : List Cond := [Cond.fieldLink RX8 43 "LightCoins" "day" "LLightCoins$Day;", Cond.fieldLink RX8 19 "LightCoins" "purses" "LLightCoins$Purses;", Cond.fieldLink RX8 29 "LightCoins" "tunes" "LLightCoins$Tunes;", Cond.methodLink RX8 167 yX8_dayRefusal, Cond.instanceMethod yX8_dayRefusal, Cond.selects RX8 yX8_dayRefusal yX8_dayRefusal, Cond.initialized RX8, Cond.code yX8_dayRefusal cX8_dayRefusal 3 (some .int), Cond.methodLink RX8 225 yX4_allCoins, Cond.instanceMethod yX4_allCoins, Cond.selects RX4 yX4_allCoins yX4_allCoins, Cond.initialized RX4, Cond.code yX4_allCoins cX4_allCoins 3 (some .int), Cond.methodLink RX4 28 yX4_coinsOf, Cond.instanceMethod yX4_coinsOf, Cond.selects RX4 yX4_coinsOf yX4_coinsOf, Cond.code yX4_coinsOf cX4_coinsOf 2 (some .int), Cond.methodLink RX4 21 yX4_coinsAbove, Cond.instanceMethod yX4_coinsAbove, Cond.selects RX4 yX4_coinsAbove yX4_coinsAbove, Cond.code yX4_coinsAbove cX4_coinsAbove 5 (some .int), Cond.methodLink RX4 25 yX4_held, Cond.instanceMethod yX4_held, Cond.selects RX4 yX4_held yX4_held]
def wsX8_rests_r2 : List Cond := [Cond.code yX4_held cX4_held 3 (some .int), Cond.fieldLink RX4 9 "LightCoins$Purses" "cells" "[I", Cond.methodLink RX8 172 yX7_of, Cond.instanceMethod yX7_of, Cond.selects RX7 yX7_of yX7_of, Cond.initialized RX7, Cond.code yX7_of cX7_of 2 (some .int), Cond.fieldLink RX7 9 "LightCoins$Tunes" "value" "[I", Cond.methodLink RX8 175 yX0_lay, Cond.instanceMethod yX0_lay, Cond.selects RX0 yX0_lay yX0_lay, Cond.initialized RX0, Cond.code yX0_lay cX0_lay 5 none, Cond.fieldLink RX0 21 "LightCoins$Day" "n" "I", Cond.fieldLink RX0 25 "LightCoins$Day" "looking" "I", Cond.fieldLink RX0 9 "LightCoins$Day" "ofWeight" "[I", Cond.fieldLink RX0 15 "LightCoins$Day" "heaviest" "[I", Cond.fieldLink RX0 18 "LightCoins$Day" "lightest" "[I", Cond.methodLink RX0 28 yX4_ofWeight, Cond.instanceMethod yX4_ofWeight, Cond.selects RX4 yX4_ofWeight yX4_ofWeight, Cond.code yX4_ofWeight cX4_ofWeight 4 (some .int), Cond.methodLink RX0 33 yX0_sumGrains, Cond.instanceMethod yX0_sumGrains]
def wsX8_rests_r3 : List Cond := [Cond.selects RX0 yX0_sumGrains yX0_sumGrains, Cond.code yX0_sumGrains cX0_sumGrains 8 none, Cond.methodLink RX8 196 yX0_allThatRest, Cond.instanceMethod yX0_allThatRest, Cond.selects RX0 yX0_allThatRest yX0_allThatRest, Cond.code yX0_allThatRest cX0_allThatRest 3 (some .int), Cond.methodLink RX0 53 yX0_goesUp, Cond.instanceMethod yX0_goesUp, Cond.selects RX0 yX0_goesUp yX0_goesUp, Cond.code yX0_goesUp cX0_goesUp 2 (some .boolean), Cond.methodLink RX0 50 yX0_lookOverTale, Cond.instanceMethod yX0_lookOverTale, Cond.selects RX0 yX0_lookOverTale yX0_lookOverTale, Cond.code yX0_lookOverTale cX0_lookOverTale 2 (some .long), Cond.methodLink RX0 37 yX0_lookUpper, Cond.instanceMethod yX0_lookUpper, Cond.selects RX0 yX0_lookUpper yX0_lookUpper, Cond.code yX0_lookUpper cX0_lookUpper 2 (some .long), Cond.methodLink RX0 41 yX0_taleLower, Cond.instanceMethod yX0_taleLower, Cond.selects RX0 yX0_taleLower yX0_taleLower, Cond.code yX0_taleLower cX0_taleLower 2 (some .long), Cond.methodLink RX0 44 yX0_taleUpper, Cond.instanceMethod yX0_taleUpper]
def wsX8_rests_r4 : List Cond := [Cond.selects RX0 yX0_taleUpper yX0_taleUpper, Cond.code yX0_taleUpper cX0_taleUpper 2 (some .long), Cond.methodLink RX0 47 yX0_lookLower, Cond.instanceMethod yX0_lookLower, Cond.selects RX0 yX0_lookLower yX0_lookLower, Cond.code yX0_lookLower cX0_lookLower 2 (some .long), Cond.methodLink RX0 57 yX0_goesDown, Cond.instanceMethod yX0_goesDown, Cond.selects RX0 yX0_goesDown yX0_goesDown, Cond.code yX0_goesDown cX0_goesDown 2 (some .boolean)]
def wsX8_rests : List Cond := .code yX8_rests cX8_rests 3 (some .int) :: ((wsX8_rests_r1 ++ (wsX8_rests_r2 ++ (wsX8_rests_r3 ++ wsX8_rests_r4))) ++ wsX80 ++ wsX40 ++ wsX70 ++ wsX00)
def wsX8_goes_r1 : List Cond := [Cond.fieldLink RX8 43 "LightCoins" "day" "LLightCoins$Day;", Cond.fieldLink RX8 19 "LightCoins" "purses" "LLightCoins$Purses;", Cond.fieldLink RX8 29 "LightCoins" "tunes" "LLightCoins$Tunes;", Cond.methodLink RX8 167 yX8_dayRefusal, Cond.instanceMethod yX8_dayRefusal, Cond.selects RX8 yX8_dayRefusal yX8_dayRefusal, Cond.initialized RX8, Cond.code yX8_dayRefusal cX8_dayRefusal 3 (some .int), Cond.methodLink RX8 225 yX4_allCoins, Cond.instanceMethod yX4_allCoins, Cond.selects RX4 yX4_allCoins yX4_allCoins, Cond.initialized RX4, Cond.code yX4_allCoins cX4_allCoins 3 (some .int), Cond.methodLink RX4 28 yX4_coinsOf, Cond.instanceMethod yX4_coinsOf, Cond.selects RX4 yX4_coinsOf yX4_coinsOf, Cond.code yX4_coinsOf cX4_coinsOf 2 (some .int), Cond.methodLink RX4 21 yX4_coinsAbove, Cond.instanceMethod yX4_coinsAbove, Cond.selects RX4 yX4_coinsAbove yX4_coinsAbove, Cond.code yX4_coinsAbove cX4_coinsAbove 5 (some .int), Cond.methodLink RX4 25 yX4_held, Cond.instanceMethod yX4_held, Cond.selects RX4 yX4_held yX4_held]
def wsX8_goes_r2 : List Cond := [Cond.code yX4_held cX4_held 3 (some .int), Cond.fieldLink RX4 9 "LightCoins$Purses" "cells" "[I", Cond.methodLink RX8 172 yX7_of, Cond.instanceMethod yX7_of, Cond.selects RX7 yX7_of yX7_of, Cond.initialized RX7, Cond.code yX7_of cX7_of 2 (some .int), Cond.fieldLink RX7 9 "LightCoins$Tunes" "value" "[I", Cond.methodLink RX8 175 yX0_lay, Cond.instanceMethod yX0_lay, Cond.selects RX0 yX0_lay yX0_lay, Cond.initialized RX0, Cond.code yX0_lay cX0_lay 5 none, Cond.fieldLink RX0 21 "LightCoins$Day" "n" "I", Cond.fieldLink RX0 25 "LightCoins$Day" "looking" "I", Cond.fieldLink RX0 9 "LightCoins$Day" "ofWeight" "[I", Cond.fieldLink RX0 15 "LightCoins$Day" "heaviest" "[I", Cond.fieldLink RX0 18 "LightCoins$Day" "lightest" "[I", Cond.methodLink RX0 28 yX4_ofWeight, Cond.instanceMethod yX4_ofWeight, Cond.selects RX4 yX4_ofWeight yX4_ofWeight, Cond.code yX4_ofWeight cX4_ofWeight 4 (some .int), Cond.methodLink RX0 33 yX0_sumGrains, Cond.instanceMethod yX0_sumGrains]
def wsX8_goes_r3 : List Cond := [Cond.selects RX0 yX0_sumGrains yX0_sumGrains, Cond.code yX0_sumGrains cX0_sumGrains 8 none, Cond.methodLink RX8 200 yX0_endFrom, Cond.instanceMethod yX0_endFrom, Cond.selects RX0 yX0_endFrom yX0_endFrom, Cond.code yX0_endFrom cX0_endFrom 4 (some .int), Cond.methodLink RX0 53 yX0_goesUp, Cond.instanceMethod yX0_goesUp, Cond.selects RX0 yX0_goesUp yX0_goesUp, Cond.code yX0_goesUp cX0_goesUp 2 (some .boolean), Cond.methodLink RX0 50 yX0_lookOverTale, Cond.instanceMethod yX0_lookOverTale, Cond.selects RX0 yX0_lookOverTale yX0_lookOverTale, Cond.code yX0_lookOverTale cX0_lookOverTale 2 (some .long), Cond.methodLink RX0 37 yX0_lookUpper, Cond.instanceMethod yX0_lookUpper, Cond.selects RX0 yX0_lookUpper yX0_lookUpper, Cond.code yX0_lookUpper cX0_lookUpper 2 (some .long), Cond.methodLink RX0 41 yX0_taleLower, Cond.instanceMethod yX0_taleLower, Cond.selects RX0 yX0_taleLower yX0_taleLower, Cond.code yX0_taleLower cX0_taleLower 2 (some .long), Cond.methodLink RX0 44 yX0_taleUpper, Cond.instanceMethod yX0_taleUpper]
def wsX8_goes_r4 : List Cond := [Cond.selects RX0 yX0_taleUpper yX0_taleUpper, Cond.code yX0_taleUpper cX0_taleUpper 2 (some .long), Cond.methodLink RX0 47 yX0_lookLower, Cond.instanceMethod yX0_lookLower, Cond.selects RX0 yX0_lookLower yX0_lookLower, Cond.code yX0_lookLower cX0_lookLower 2 (some .long), Cond.methodLink RX0 57 yX0_goesDown, Cond.instanceMethod yX0_goesDown, Cond.selects RX0 yX0_goesDown yX0_goesDown, Cond.code yX0_goesDown cX0_goesDown 2 (some .boolean)]
def wsX8_goes : List Cond := .code yX8_goes cX8_goes 4 (some .int) :: ((wsX8_goes_r1 ++ (wsX8_goes_r2 ++ (wsX8_goes_r3 ++ wsX8_goes_r4))) ++ wsX80 ++ wsX40 ++ wsX70 ++ wsX00)
def wsX8_tip_r1 : List Cond := [Cond.fieldLink RX8 43 "LightCoins" "day" "LLightCoins$Day;", Cond.fieldLink RX8 19 "LightCoins" "purses" "LLightCoins$Purses;", Cond.fieldLink RX8 29 "LightCoins" "tunes" "LLightCoins$Tunes;", Cond.methodLink RX8 167 yX8_dayRefusal, Cond.instanceMethod yX8_dayRefusal, Cond.selects RX8 yX8_dayRefusal yX8_dayRefusal, Cond.initialized RX8, Cond.code yX8_dayRefusal cX8_dayRefusal 3 (some .int), Cond.methodLink RX8 225 yX4_allCoins, Cond.instanceMethod yX4_allCoins, Cond.selects RX4 yX4_allCoins yX4_allCoins, Cond.initialized RX4, Cond.code yX4_allCoins cX4_allCoins 3 (some .int), Cond.methodLink RX4 28 yX4_coinsOf, Cond.instanceMethod yX4_coinsOf, Cond.selects RX4 yX4_coinsOf yX4_coinsOf, Cond.code yX4_coinsOf cX4_coinsOf 2 (some .int), Cond.methodLink RX4 21 yX4_coinsAbove, Cond.instanceMethod yX4_coinsAbove, Cond.selects RX4 yX4_coinsAbove yX4_coinsAbove, Cond.code yX4_coinsAbove cX4_coinsAbove 5 (some .int), Cond.methodLink RX4 25 yX4_held, Cond.instanceMethod yX4_held, Cond.selects RX4 yX4_held yX4_held]
def wsX8_tip_r2 : List Cond := [Cond.code yX4_held cX4_held 3 (some .int), Cond.fieldLink RX4 9 "LightCoins$Purses" "cells" "[I", Cond.methodLink RX8 172 yX7_of, Cond.instanceMethod yX7_of, Cond.selects RX7 yX7_of yX7_of, Cond.initialized RX7, Cond.code yX7_of cX7_of 2 (some .int), Cond.fieldLink RX7 9 "LightCoins$Tunes" "value" "[I", Cond.methodLink RX8 175 yX0_lay, Cond.instanceMethod yX0_lay, Cond.selects RX0 yX0_lay yX0_lay, Cond.initialized RX0, Cond.code yX0_lay cX0_lay 5 none, Cond.fieldLink RX0 21 "LightCoins$Day" "n" "I", Cond.fieldLink RX0 25 "LightCoins$Day" "looking" "I", Cond.fieldLink RX0 9 "LightCoins$Day" "ofWeight" "[I", Cond.fieldLink RX0 15 "LightCoins$Day" "heaviest" "[I", Cond.fieldLink RX0 18 "LightCoins$Day" "lightest" "[I", Cond.methodLink RX0 28 yX4_ofWeight, Cond.instanceMethod yX4_ofWeight, Cond.selects RX4 yX4_ofWeight yX4_ofWeight, Cond.code yX4_ofWeight cX4_ofWeight 4 (some .int), Cond.methodLink RX0 33 yX0_sumGrains, Cond.instanceMethod yX0_sumGrains]
def wsX8_tip_r3 : List Cond := [Cond.selects RX0 yX0_sumGrains yX0_sumGrains, Cond.code yX0_sumGrains cX0_sumGrains 8 none, Cond.methodLink RX8 203 yX0_leastThatEndsInAll, Cond.instanceMethod yX0_leastThatEndsInAll, Cond.selects RX0 yX0_leastThatEndsInAll yX0_leastThatEndsInAll, Cond.code yX0_leastThatEndsInAll cX0_leastThatEndsInAll 2 (some .int), Cond.methodLink RX0 60 yX0_endFrom, Cond.instanceMethod yX0_endFrom, Cond.selects RX0 yX0_endFrom yX0_endFrom, Cond.code yX0_endFrom cX0_endFrom 4 (some .int), Cond.methodLink RX0 53 yX0_goesUp, Cond.instanceMethod yX0_goesUp, Cond.selects RX0 yX0_goesUp yX0_goesUp, Cond.code yX0_goesUp cX0_goesUp 2 (some .boolean), Cond.methodLink RX0 50 yX0_lookOverTale, Cond.instanceMethod yX0_lookOverTale, Cond.selects RX0 yX0_lookOverTale yX0_lookOverTale, Cond.code yX0_lookOverTale cX0_lookOverTale 2 (some .long), Cond.methodLink RX0 37 yX0_lookUpper, Cond.instanceMethod yX0_lookUpper, Cond.selects RX0 yX0_lookUpper yX0_lookUpper, Cond.code yX0_lookUpper cX0_lookUpper 2 (some .long), Cond.methodLink RX0 41 yX0_taleLower, Cond.instanceMethod yX0_taleLower]
def wsX8_tip_r4 : List Cond := [Cond.selects RX0 yX0_taleLower yX0_taleLower, Cond.code yX0_taleLower cX0_taleLower 2 (some .long), Cond.methodLink RX0 44 yX0_taleUpper, Cond.instanceMethod yX0_taleUpper, Cond.selects RX0 yX0_taleUpper yX0_taleUpper, Cond.code yX0_taleUpper cX0_taleUpper 2 (some .long), Cond.methodLink RX0 47 yX0_lookLower, Cond.instanceMethod yX0_lookLower, Cond.selects RX0 yX0_lookLower yX0_lookLower, Cond.code yX0_lookLower cX0_lookLower 2 (some .long), Cond.methodLink RX0 57 yX0_goesDown, Cond.instanceMethod yX0_goesDown, Cond.selects RX0 yX0_goesDown yX0_goesDown, Cond.code yX0_goesDown cX0_goesDown 2 (some .boolean)]
def wsX8_tip : List Cond := .code yX8_tip cX8_tip 3 (some .int) :: ((wsX8_tip_r1 ++ (wsX8_tip_r2 ++ (wsX8_tip_r3 ++ wsX8_tip_r4))) ++ wsX80 ++ wsX40 ++ wsX70 ++ wsX00)
def wsX8_out_r1 : List Cond := [Cond.fieldLink RX8 43 "LightCoins" "day" "LLightCoins$Day;", Cond.fieldLink RX8 19 "LightCoins" "purses" "LLightCoins$Purses;", Cond.fieldLink RX8 29 "LightCoins" "tunes" "LLightCoins$Tunes;", Cond.methodLink RX8 167 yX8_dayRefusal, Cond.instanceMethod yX8_dayRefusal, Cond.selects RX8 yX8_dayRefusal yX8_dayRefusal, Cond.initialized RX8, Cond.code yX8_dayRefusal cX8_dayRefusal 3 (some .int), Cond.methodLink RX8 225 yX4_allCoins, Cond.instanceMethod yX4_allCoins, Cond.selects RX4 yX4_allCoins yX4_allCoins, Cond.initialized RX4, Cond.code yX4_allCoins cX4_allCoins 3 (some .int), Cond.methodLink RX4 28 yX4_coinsOf, Cond.instanceMethod yX4_coinsOf, Cond.selects RX4 yX4_coinsOf yX4_coinsOf, Cond.code yX4_coinsOf cX4_coinsOf 2 (some .int), Cond.methodLink RX4 21 yX4_coinsAbove, Cond.instanceMethod yX4_coinsAbove, Cond.selects RX4 yX4_coinsAbove yX4_coinsAbove, Cond.code yX4_coinsAbove cX4_coinsAbove 5 (some .int), Cond.methodLink RX4 25 yX4_held, Cond.instanceMethod yX4_held, Cond.selects RX4 yX4_held yX4_held]
def wsX8_out_r2 : List Cond := [Cond.code yX4_held cX4_held 3 (some .int), Cond.fieldLink RX4 9 "LightCoins$Purses" "cells" "[I", Cond.methodLink RX8 172 yX7_of, Cond.instanceMethod yX7_of, Cond.selects RX7 yX7_of yX7_of, Cond.initialized RX7, Cond.code yX7_of cX7_of 2 (some .int), Cond.fieldLink RX7 9 "LightCoins$Tunes" "value" "[I", Cond.methodLink RX8 175 yX0_lay, Cond.instanceMethod yX0_lay, Cond.selects RX0 yX0_lay yX0_lay, Cond.initialized RX0, Cond.code yX0_lay cX0_lay 5 none, Cond.fieldLink RX0 21 "LightCoins$Day" "n" "I", Cond.fieldLink RX0 25 "LightCoins$Day" "looking" "I", Cond.fieldLink RX0 9 "LightCoins$Day" "ofWeight" "[I", Cond.fieldLink RX0 15 "LightCoins$Day" "heaviest" "[I", Cond.fieldLink RX0 18 "LightCoins$Day" "lightest" "[I", Cond.methodLink RX0 28 yX4_ofWeight, Cond.instanceMethod yX4_ofWeight, Cond.selects RX4 yX4_ofWeight yX4_ofWeight, Cond.code yX4_ofWeight cX4_ofWeight 4 (some .int), Cond.methodLink RX0 33 yX0_sumGrains, Cond.instanceMethod yX0_sumGrains]
def wsX8_out_r3 : List Cond := [Cond.selects RX0 yX0_sumGrains yX0_sumGrains, Cond.code yX0_sumGrains cX0_sumGrains 8 none, Cond.methodLink RX8 206 yX0_weightsLeftOut, Cond.instanceMethod yX0_weightsLeftOut, Cond.selects RX0 yX0_weightsLeftOut yX0_weightsLeftOut, Cond.code yX0_weightsLeftOut cX0_weightsLeftOut 3 (some .int), Cond.constant RX0 69 (2147483647), Cond.methodLink RX0 63 yX0_weightsOf, Cond.instanceMethod yX0_weightsOf, Cond.selects RX0 yX0_weightsOf yX0_weightsOf, Cond.code yX0_weightsOf cX0_weightsOf 8 (some .int), Cond.methodLink RX0 70 Lib.Math.min.name, Cond.static Lib.Math.min.name, Cond.initialized "java/lang/Math", Cond.code Lib.Math.min.name Lib.Math.min.code 2 (some .int)]
def wsX8_out : List Cond := .code yX8_out cX8_out 4 (some .int) :: ((wsX8_out_r1 ++ (wsX8_out_r2 ++ wsX8_out_r3)) ++ wsX80 ++ wsX40 ++ wsX70 ++ wsX00)
def wsX8_worthAsItIs : List Cond := .code yX8_worthAsItIs cX8_worthAsItIs 2 (some .int) :: ([.fieldLink RX8 29 "LightCoins" "tunes" "LLightCoins$Tunes;", .methodLink RX8 172 yX7_of, .instanceMethod yX7_of, .selects RX7 yX7_of yX7_of, .initialized RX7, .code yX7_of cX7_of 2 (some .int), .fieldLink RX7 9 "LightCoins$Tunes" "value" "[I"] ++ wsX80 ++ wsX70)
def wsX8_worthScale : List Cond := .code yX8_worthScale cX8_worthScale 4 (some .long) :: ([.constantLong RX8 323 (10)])
def wsX8_clippedScaled : List Cond := .code yX8_clippedScaled cX8_clippedScaled 8 (some .long) :: ([.fieldLink RX8 29 "LightCoins" "tunes" "LLightCoins$Tunes;", .constantLong RX8 323 (10), .methodLink RX8 215 yX8_worthScale, .static yX8_worthScale, .initialized RX8, .code yX8_worthScale cX8_worthScale 4 (some .long), .methodLink RX8 172 yX7_of, .instanceMethod yX7_of, .selects RX7 yX7_of yX7_of, .initialized RX7, .code yX7_of cX7_of 2 (some .int), .fieldLink RX7 9 "LightCoins$Tunes" "value" "[I"] ++ wsX80 ++ wsX70)
def wsX8_worthScaled : List Cond := .code yX8_worthScaled cX8_worthScaled 5 (some .long) :: ([.methodLink RX8 332 Lib.MathLoose.max_long.x, .static Lib.MathLoose.max_long.x, .initialized "java/lang/Math", .code Lib.MathLoose.max_long.x Lib.MathLoose.max_long.code 4 (some .long), .methodLink RX8 325 yX8_worthAsItIs, .instanceMethod yX8_worthAsItIs, .selects RX8 yX8_worthAsItIs yX8_worthAsItIs, .initialized RX8, .code yX8_worthAsItIs cX8_worthAsItIs 2 (some .int), .fieldLink RX8 29 "LightCoins" "tunes" "LLightCoins$Tunes;", .methodLink RX8 172 yX7_of, .instanceMethod yX7_of, .selects RX7 yX7_of yX7_of, .initialized RX7, .code yX7_of cX7_of 2 (some .int), .fieldLink RX7 9 "LightCoins$Tunes" "value" "[I", .methodLink RX8 215 yX8_worthScale, .static yX8_worthScale, .code yX8_worthScale cX8_worthScale 4 (some .long), .constantLong RX8 323 (10), .methodLink RX8 328 yX8_clippedScaled, .instanceMethod yX8_clippedScaled, .selects RX8 yX8_clippedScaled yX8_clippedScaled, .code yX8_clippedScaled cX8_clippedScaled 8 (some .long)] ++ wsX80 ++ wsX70)
def wsX8_clippedUntil_r1 : List Cond := [Cond.methodLink RX8 212 yX8_worthScaled, Cond.instanceMethod yX8_worthScaled, Cond.selects RX8 yX8_worthScaled yX8_worthScaled, Cond.initialized RX8, Cond.code yX8_worthScaled cX8_worthScaled 5 (some .long), Cond.methodLink RX8 332 Lib.MathLoose.max_long.x, Cond.static Lib.MathLoose.max_long.x, Cond.initialized "java/lang/Math", Cond.code Lib.MathLoose.max_long.x Lib.MathLoose.max_long.code 4 (some .long), Cond.methodLink RX8 325 yX8_worthAsItIs, Cond.instanceMethod yX8_worthAsItIs, Cond.selects RX8 yX8_worthAsItIs yX8_worthAsItIs, Cond.code yX8_worthAsItIs cX8_worthAsItIs 2 (some .int), Cond.fieldLink RX8 29 "LightCoins" "tunes" "LLightCoins$Tunes;", Cond.methodLink RX8 172 yX7_of, Cond.instanceMethod yX7_of, Cond.selects RX7 yX7_of yX7_of, Cond.initialized RX7, Cond.code yX7_of cX7_of 2 (some .int), Cond.fieldLink RX7 9 "LightCoins$Tunes" "value" "[I", Cond.methodLink RX8 215 yX8_worthScale, Cond.static yX8_worthScale, Cond.code yX8_worthScale cX8_worthScale 4 (some .long), Cond.constantLong RX8 323 (10)]
def wsX8_clippedUntil_r2 : List Cond := [Cond.methodLink RX8 328 yX8_clippedScaled, Cond.instanceMethod yX8_clippedScaled, Cond.selects RX8 yX8_clippedScaled yX8_clippedScaled, Cond.code yX8_clippedScaled cX8_clippedScaled 8 (some .long)]
def wsX8_clippedUntil : List Cond := .code yX8_clippedUntil cX8_clippedUntil 3 (some .int) :: ((wsX8_clippedUntil_r1 ++ wsX8_clippedUntil_r2) ++ wsX80 ++ wsX70)
def wsX8_clip_r1 : List Cond := [Cond.constantLong RX8 170 (-1000000000000000000), Cond.methodLink RX8 132 yX8_isWeight, Cond.static yX8_isWeight, Cond.initialized RX8, Cond.code yX8_isWeight cX8_isWeight 1 (some .boolean), Cond.methodLink RX8 209 yX8_clippedUntil, Cond.instanceMethod yX8_clippedUntil, Cond.selects RX8 yX8_clippedUntil yX8_clippedUntil, Cond.code yX8_clippedUntil cX8_clippedUntil 3 (some .int), Cond.methodLink RX8 212 yX8_worthScaled, Cond.instanceMethod yX8_worthScaled, Cond.selects RX8 yX8_worthScaled yX8_worthScaled, Cond.code yX8_worthScaled cX8_worthScaled 5 (some .long), Cond.methodLink RX8 332 Lib.MathLoose.max_long.x, Cond.static Lib.MathLoose.max_long.x, Cond.initialized "java/lang/Math", Cond.code Lib.MathLoose.max_long.x Lib.MathLoose.max_long.code 4 (some .long), Cond.methodLink RX8 325 yX8_worthAsItIs, Cond.instanceMethod yX8_worthAsItIs, Cond.selects RX8 yX8_worthAsItIs yX8_worthAsItIs, Cond.code yX8_worthAsItIs cX8_worthAsItIs 2 (some .int), Cond.fieldLink RX8 29 "LightCoins" "tunes" "LLightCoins$Tunes;", Cond.methodLink RX8 172 yX7_of, Cond.instanceMethod yX7_of]
def wsX8_clip_r2 : List Cond := [Cond.selects RX7 yX7_of yX7_of, Cond.initialized RX7, Cond.code yX7_of cX7_of 2 (some .int), Cond.fieldLink RX7 9 "LightCoins$Tunes" "value" "[I", Cond.methodLink RX8 215 yX8_worthScale, Cond.static yX8_worthScale, Cond.code yX8_worthScale cX8_worthScale 4 (some .long), Cond.constantLong RX8 323 (10), Cond.methodLink RX8 328 yX8_clippedScaled, Cond.instanceMethod yX8_clippedScaled, Cond.selects RX8 yX8_clippedScaled yX8_clippedScaled, Cond.code yX8_clippedScaled cX8_clippedScaled 8 (some .long), Cond.methodLink RX8 164 yX8_isUpperOrLower, Cond.static yX8_isUpperOrLower, Cond.code yX8_isUpperOrLower cX8_isUpperOrLower 1 (some .boolean), Cond.methodLink RX8 186 yX8_leastTerms, Cond.static yX8_leastTerms, Cond.code yX8_leastTerms cX8_leastTerms 7 (some .long), Cond.methodLink RX8 294 Lib.MathLoose.abs_long.x, Cond.static Lib.MathLoose.abs_long.x, Cond.code Lib.MathLoose.abs_long.x Lib.MathLoose.abs_long.code 2 (some .long), Cond.methodLink RX8 300 yX8_commonDivisor, Cond.static yX8_commonDivisor, Cond.code yX8_commonDivisor cX8_commonDivisor 11 (some .long)]
def wsX8_clip : List Cond := .code yX8_clip cX8_clip 3 (some .long) :: ((wsX8_clip_r1 ++ wsX8_clip_r2) ++ wsX80 ++ wsX70)
def wsX8_divides : List Cond := .code yX8_divides cX8_divides 2 (some .boolean) :: ([])
def wsX8_year_r1 : List Cond := [Cond.fieldLink RX8 75 "LightCoins" "year" "I", Cond.fieldLink RX8 29 "LightCoins" "tunes" "LLightCoins$Tunes;", Cond.fieldLink RX8 19 "LightCoins" "purses" "LLightCoins$Purses;", Cond.methodLink RX8 172 yX7_of, Cond.instanceMethod yX7_of, Cond.selects RX7 yX7_of yX7_of, Cond.initialized RX7, Cond.code yX7_of cX7_of 2 (some .int), Cond.fieldLink RX7 9 "LightCoins$Tunes" "value" "[I", Cond.methodLink RX8 218 yX8_divides, Cond.static yX8_divides, Cond.initialized RX8, Cond.code yX8_divides cX8_divides 2 (some .boolean), Cond.methodLink RX8 222 yX4_loseGrain, Cond.instanceMethod yX4_loseGrain, Cond.selects RX4 yX4_loseGrain yX4_loseGrain, Cond.initialized RX4, Cond.code yX4_loseGrain cX4_loseGrain 4 none, Cond.methodLink RX4 39 Lib.Math.min.name, Cond.static Lib.Math.min.name, Cond.initialized "java/lang/Math", Cond.code Lib.Math.min.name Lib.Math.min.code 2 (some .int), Cond.methodLink RX4 25 yX4_held, Cond.instanceMethod yX4_held]
def wsX8_year_r2 : List Cond := [Cond.selects RX4 yX4_held yX4_held, Cond.code yX4_held cX4_held 3 (some .int), Cond.fieldLink RX4 9 "LightCoins$Purses" "cells" "[I", Cond.methodLink RX4 35 yX4_put, Cond.instanceMethod yX4_put, Cond.selects RX4 yX4_put yX4_put, Cond.code yX4_put cX4_put 4 none]
def wsX8_year : List Cond := .code yX8_year cX8_year 3 (some .int) :: ((wsX8_year_r1 ++ wsX8_year_r2) ++ wsX80 ++ wsX70 ++ wsX40)
def wsX8_mean_r1 : List Cond := [Cond.fieldLink RX8 19 "LightCoins" "purses" "LLightCoins$Purses;", Cond.constantLong RX8 170 (-1000000000000000000), Cond.methodLink RX8 225 yX4_allCoins, Cond.instanceMethod yX4_allCoins, Cond.selects RX4 yX4_allCoins yX4_allCoins, Cond.initialized RX4, Cond.code yX4_allCoins cX4_allCoins 3 (some .int), Cond.methodLink RX4 28 yX4_coinsOf, Cond.instanceMethod yX4_coinsOf, Cond.selects RX4 yX4_coinsOf yX4_coinsOf, Cond.code yX4_coinsOf cX4_coinsOf 2 (some .int), Cond.methodLink RX4 21 yX4_coinsAbove, Cond.instanceMethod yX4_coinsAbove, Cond.selects RX4 yX4_coinsAbove yX4_coinsAbove, Cond.code yX4_coinsAbove cX4_coinsAbove 5 (some .int), Cond.methodLink RX4 25 yX4_held, Cond.instanceMethod yX4_held, Cond.selects RX4 yX4_held yX4_held, Cond.code yX4_held cX4_held 3 (some .int), Cond.fieldLink RX4 9 "LightCoins$Purses" "cells" "[I", Cond.methodLink RX8 164 yX8_isUpperOrLower, Cond.static yX8_isUpperOrLower, Cond.initialized RX8, Cond.code yX8_isUpperOrLower cX8_isUpperOrLower 1 (some .boolean)]
def wsX8_mean_r2 : List Cond := [Cond.methodLink RX8 228 yX4_allGrains, Cond.instanceMethod yX4_allGrains, Cond.selects RX4 yX4_allGrains yX4_allGrains, Cond.code yX4_allGrains cX4_allGrains 3 (some .int), Cond.methodLink RX4 32 yX4_ofWeight, Cond.instanceMethod yX4_ofWeight, Cond.selects RX4 yX4_ofWeight yX4_ofWeight, Cond.code yX4_ofWeight cX4_ofWeight 4 (some .int), Cond.methodLink RX8 186 yX8_leastTerms, Cond.static yX8_leastTerms, Cond.code yX8_leastTerms cX8_leastTerms 7 (some .long), Cond.methodLink RX8 294 Lib.MathLoose.abs_long.x, Cond.static Lib.MathLoose.abs_long.x, Cond.initialized "java/lang/Math", Cond.code Lib.MathLoose.abs_long.x Lib.MathLoose.abs_long.code 2 (some .long), Cond.methodLink RX8 300 yX8_commonDivisor, Cond.static yX8_commonDivisor, Cond.code yX8_commonDivisor cX8_commonDivisor 11 (some .long)]
def wsX8_mean : List Cond := .code yX8_mean cX8_mean 3 (some .long) :: ((wsX8_mean_r1 ++ wsX8_mean_r2) ++ wsX80 ++ wsX40)
def wsX8_shabby_r1 : List Cond := [Cond.fieldLink RX8 19 "LightCoins" "purses" "LLightCoins$Purses;", Cond.fieldLink RX8 23 "LightCoins" "scratch" "LLightCoins$Purses;", Cond.fieldLink RX8 29 "LightCoins" "tunes" "LLightCoins$Tunes;", Cond.fieldLink RX8 75 "LightCoins" "year" "I", Cond.methodLink RX8 225 yX4_allCoins, Cond.instanceMethod yX4_allCoins, Cond.selects RX4 yX4_allCoins yX4_allCoins, Cond.initialized RX4, Cond.code yX4_allCoins cX4_allCoins 3 (some .int), Cond.methodLink RX4 28 yX4_coinsOf, Cond.instanceMethod yX4_coinsOf, Cond.selects RX4 yX4_coinsOf yX4_coinsOf, Cond.code yX4_coinsOf cX4_coinsOf 2 (some .int), Cond.methodLink RX4 21 yX4_coinsAbove, Cond.instanceMethod yX4_coinsAbove, Cond.selects RX4 yX4_coinsAbove yX4_coinsAbove, Cond.code yX4_coinsAbove cX4_coinsAbove 5 (some .int), Cond.methodLink RX4 25 yX4_held, Cond.instanceMethod yX4_held, Cond.selects RX4 yX4_held yX4_held, Cond.code yX4_held cX4_held 3 (some .int), Cond.fieldLink RX4 9 "LightCoins$Purses" "cells" "[I", Cond.methodLink RX8 231 yX4_isShabby, Cond.instanceMethod yX4_isShabby]
def wsX8_shabby_r2 : List Cond := [Cond.selects RX4 yX4_isShabby yX4_isShabby, Cond.code yX4_isShabby cX4_isShabby 2 (some .boolean), Cond.methodLink RX4 44 yX4_allGrains, Cond.instanceMethod yX4_allGrains, Cond.selects RX4 yX4_allGrains yX4_allGrains, Cond.code yX4_allGrains cX4_allGrains 3 (some .int), Cond.methodLink RX4 32 yX4_ofWeight, Cond.instanceMethod yX4_ofWeight, Cond.selects RX4 yX4_ofWeight yX4_ofWeight, Cond.code yX4_ofWeight cX4_ofWeight 4 (some .int), Cond.methodLink RX4 48 yX4_allCoins, Cond.methodLink RX8 234 yX4_copyFrom, Cond.instanceMethod yX4_copyFrom, Cond.selects RX4 yX4_copyFrom yX4_copyFrom, Cond.code yX4_copyFrom cX4_copyFrom 2 none, Cond.methodLink RX4 15 arraycopyName, Cond.native arraycopyName, Cond.static arraycopyName, Cond.initialized "java/lang/System", Cond.methodLink RX8 172 yX7_of, Cond.instanceMethod yX7_of, Cond.selects RX7 yX7_of yX7_of, Cond.initialized RX7, Cond.code yX7_of cX7_of 2 (some .int)]
def wsX8_shabby_r3 : List Cond := [Cond.fieldLink RX7 9 "LightCoins$Tunes" "value" "[I", Cond.methodLink RX8 218 yX8_divides, Cond.static yX8_divides, Cond.initialized RX8, Cond.code yX8_divides cX8_divides 2 (some .boolean), Cond.methodLink RX8 222 yX4_loseGrain, Cond.instanceMethod yX4_loseGrain, Cond.selects RX4 yX4_loseGrain yX4_loseGrain, Cond.code yX4_loseGrain cX4_loseGrain 4 none, Cond.methodLink RX4 39 Lib.Math.min.name, Cond.static Lib.Math.min.name, Cond.initialized "java/lang/Math", Cond.code Lib.Math.min.name Lib.Math.min.code 2 (some .int), Cond.methodLink RX4 35 yX4_put, Cond.instanceMethod yX4_put, Cond.selects RX4 yX4_put yX4_put, Cond.code yX4_put cX4_put 4 none]
def wsX8_shabby : List Cond := .code yX8_shabby cX8_shabby 3 (some .int) :: ((wsX8_shabby_r1 ++ (wsX8_shabby_r2 ++ wsX8_shabby_r3)) ++ wsX80 ++ wsX40 ++ wsX70)
def wsX8_heldAtWhenMelted : List Cond := .code yX8_heldAtWhenMelted cX8_heldAtWhenMelted 8 (some .int) :: ([.fieldLink RX8 19 "LightCoins" "purses" "LLightCoins$Purses;", .methodLink RX8 135 yX4_held, .instanceMethod yX4_held, .selects RX4 yX4_held yX4_held, .initialized RX4, .code yX4_held cX4_held 3 (some .int), .fieldLink RX4 9 "LightCoins$Purses" "cells" "[I", .methodLink RX8 325 yX8_worthAsItIs, .instanceMethod yX8_worthAsItIs, .selects RX8 yX8_worthAsItIs yX8_worthAsItIs, .initialized RX8, .code yX8_worthAsItIs cX8_worthAsItIs 2 (some .int), .fieldLink RX8 29 "LightCoins" "tunes" "LLightCoins$Tunes;", .methodLink RX8 172 yX7_of, .instanceMethod yX7_of, .selects RX7 yX7_of yX7_of, .initialized RX7, .code yX7_of cX7_of 2 (some .int), .fieldLink RX7 9 "LightCoins$Tunes" "value" "[I"] ++ wsX80 ++ wsX40 ++ wsX70)
def wsX8_changer_r1 : List Cond := [Cond.methodLink RX8 112 yX8_isPerson, Cond.instanceMethod yX8_isPerson, Cond.selects RX8 yX8_isPerson yX8_isPerson, Cond.initialized RX8, Cond.code yX8_isPerson cX8_isPerson 2 (some .boolean), Cond.fieldLink RX8 64 "LightCoins" "town" "LLightCoins$Town;", Cond.fieldLink RX8 109 "LightCoins$Town" "people" "I", Cond.methodLink RX8 238 yX8_heldAtWhenMelted, Cond.instanceMethod yX8_heldAtWhenMelted, Cond.selects RX8 yX8_heldAtWhenMelted yX8_heldAtWhenMelted, Cond.code yX8_heldAtWhenMelted cX8_heldAtWhenMelted 8 (some .int), Cond.fieldLink RX8 19 "LightCoins" "purses" "LLightCoins$Purses;", Cond.methodLink RX8 135 yX4_held, Cond.instanceMethod yX4_held, Cond.selects RX4 yX4_held yX4_held, Cond.initialized RX4, Cond.code yX4_held cX4_held 3 (some .int), Cond.fieldLink RX4 9 "LightCoins$Purses" "cells" "[I", Cond.methodLink RX8 325 yX8_worthAsItIs, Cond.instanceMethod yX8_worthAsItIs, Cond.selects RX8 yX8_worthAsItIs yX8_worthAsItIs, Cond.code yX8_worthAsItIs cX8_worthAsItIs 2 (some .int), Cond.fieldLink RX8 29 "LightCoins" "tunes" "LLightCoins$Tunes;", Cond.methodLink RX8 172 yX7_of]
def wsX8_changer_r2 : List Cond := [Cond.instanceMethod yX7_of, Cond.selects RX7 yX7_of yX7_of, Cond.initialized RX7, Cond.code yX7_of cX7_of 2 (some .int), Cond.fieldLink RX7 9 "LightCoins$Tunes" "value" "[I"]
def wsX8_changer : List Cond := .code yX8_changer cX8_changer 8 (some .int) :: ((wsX8_changer_r1 ++ wsX8_changer_r2) ++ wsX80 ++ wsX60 ++ wsX40 ++ wsX70)
def wsX8_law : List Cond := .code yX8_law cX8_law 4 (some .int) :: ([.fieldLink RX8 50 "LightCoins" "laws" "LLightCoins$Laws;", .methodLink RX8 242 yX2_set, .instanceMethod yX2_set, .selects RX2 yX2_set yX2_set, .initialized RX2, .code yX2_set cX2_set 5 (some .int), .fieldLink RX2 11 "LightCoins$Laws" "value" "[I"] ++ wsX80 ++ wsX20)
def wsX8_cheapest : List Cond := .code yX8_cheapest cX8_cheapest 5 (some .int) :: ([.fieldLink RX8 50 "LightCoins" "laws" "LLightCoins$Laws;", .fieldLink RX8 29 "LightCoins" "tunes" "LLightCoins$Tunes;", .methodLink RX8 172 yX7_of, .instanceMethod yX7_of, .selects RX7 yX7_of yX7_of, .initialized RX7, .code yX7_of cX7_of 2 (some .int), .fieldLink RX7 9 "LightCoins$Tunes" "value" "[I", .methodLink RX8 244 yX2_cheapestSet, .instanceMethod yX2_cheapestSet, .selects RX2 yX2_cheapestSet yX2_cheapestSet, .initialized RX2, .code yX2_cheapestSet cX2_cheapestSet 7 (some .int), .constant RX2 17 (2147483647), .methodLink RX2 18 yX2_sumOf, .instanceMethod yX2_sumOf, .selects RX2 yX2_sumOf yX2_sumOf, .code yX2_sumOf cX2_sumOf 5 (some .int), .fieldLink RX2 11 "LightCoins$Laws" "value" "[I", .methodLink RX8 247 yX2_sumOf] ++ wsX80 ++ wsX70 ++ wsX20)
def wsX8_first_r1 : List Cond := [Cond.fieldLink RX8 64 "LightCoins" "town" "LLightCoins$Town;", Cond.methodLink RX8 250 yX6_takersFrom, Cond.instanceMethod yX6_takersFrom, Cond.selects RX6 yX6_takersFrom yX6_takersFrom, Cond.initialized RX6, Cond.code yX6_takersFrom cX6_takersFrom 4 (some .int), Cond.methodLink RX6 34 yX6_everybody, Cond.instanceMethod yX6_everybody, Cond.selects RX6 yX6_everybody yX6_everybody, Cond.code yX6_everybody cX6_everybody 1 (some .int), Cond.fieldLink RX6 24 "LightCoins$Town" "people" "I", Cond.methodLink RX6 38 yX6_afterRound, Cond.instanceMethod yX6_afterRound, Cond.selects RX6 yX6_afterRound yX6_afterRound, Cond.code yX6_afterRound cX6_afterRound 5 (some .int), Cond.fieldLink RX6 21 "LightCoins$Town" "others" "[I", Cond.methodLink RX6 28 yJ6_bitCount_0f7a4, Cond.static yJ6_bitCount_0f7a4, Cond.initialized RJ6, Cond.code yJ6_bitCount_0f7a4 cJ6_bitCount_0f7a4 1 (some .int), Cond.constant RJ6 265 (1431655765), Cond.constant RJ6 266 (858993459), Cond.constant RJ6 267 (252645135), Cond.methodLink RX8 253 yX6_roundsFrom]
def wsX8_first_r2 : List Cond := [Cond.instanceMethod yX6_roundsFrom, Cond.selects RX6 yX6_roundsFrom yX6_roundsFrom, Cond.code yX6_roundsFrom cX6_roundsFrom 5 (some .int)]
def wsX8_first : List Cond := .code yX8_first cX8_first 3 (some .int) :: ((wsX8_first_r1 ++ wsX8_first_r2) ++ wsX80 ++ wsX60)
def wsX8_seeds_r1 : List Cond := [Cond.fieldLink RX8 64 "LightCoins" "town" "LLightCoins$Town;", Cond.methodLink RX8 256 yX6_leastSeeds, Cond.instanceMethod yX6_leastSeeds, Cond.selects RX6 yX6_leastSeeds yX6_leastSeeds, Cond.initialized RX6, Cond.code yX6_leastSeeds cX6_leastSeeds 4 (some .int), Cond.methodLink RX6 34 yX6_everybody, Cond.instanceMethod yX6_everybody, Cond.selects RX6 yX6_everybody yX6_everybody, Cond.code yX6_everybody cX6_everybody 1 (some .int), Cond.fieldLink RX6 24 "LightCoins$Town" "people" "I", Cond.methodLink RX6 28 yJ6_bitCount_0f7a4, Cond.static yJ6_bitCount_0f7a4, Cond.initialized RJ6, Cond.code yJ6_bitCount_0f7a4 cJ6_bitCount_0f7a4 1 (some .int), Cond.constant RJ6 265 (1431655765), Cond.constant RJ6 266 (858993459), Cond.constant RJ6 267 (252645135), Cond.methodLink RX6 41 yX6_takersFrom, Cond.instanceMethod yX6_takersFrom, Cond.selects RX6 yX6_takersFrom yX6_takersFrom, Cond.code yX6_takersFrom cX6_takersFrom 4 (some .int), Cond.methodLink RX6 38 yX6_afterRound, Cond.instanceMethod yX6_afterRound]
def wsX8_seeds_r2 : List Cond := [Cond.selects RX6 yX6_afterRound yX6_afterRound, Cond.code yX6_afterRound cX6_afterRound 5 (some .int), Cond.fieldLink RX6 21 "LightCoins$Town" "others" "[I", Cond.methodLink RX8 259 yJ6_bitCount_0f7a4]
def wsX8_seeds : List Cond := .code yX8_seeds cX8_seeds 3 (some .int) :: ((wsX8_seeds_r1 ++ wsX8_seeds_r2) ++ wsX80 ++ wsX60)
def wsX8_asWay : List Cond := .code yX8_asWay cX8_asWay 2 (some .int) :: ([.fieldLink RX8 78 "LightCoins" "trace" "J", .fieldLink RX8 19 "LightCoins" "purses" "LLightCoins$Purses;", .methodLink RX8 128 yX4_coinsOf, .instanceMethod yX4_coinsOf, .selects RX4 yX4_coinsOf yX4_coinsOf, .initialized RX4, .code yX4_coinsOf cX4_coinsOf 2 (some .int), .methodLink RX4 21 yX4_coinsAbove, .instanceMethod yX4_coinsAbove, .selects RX4 yX4_coinsAbove yX4_coinsAbove, .code yX4_coinsAbove cX4_coinsAbove 5 (some .int), .methodLink RX4 25 yX4_held, .instanceMethod yX4_held, .selects RX4 yX4_held yX4_held, .code yX4_held cX4_held 3 (some .int), .fieldLink RX4 9 "LightCoins$Purses" "cells" "[I"] ++ wsX80 ++ wsX40)
def wsX8_asTale : List Cond := .code yX8_asTale cX8_asTale 2 (some .int) :: ([.fieldLink RX8 78 "LightCoins" "trace" "J", .constantLong RX8 323 (10), .methodLink RX8 264 yX8_asWay, .instanceMethod yX8_asWay, .selects RX8 yX8_asWay yX8_asWay, .initialized RX8, .code yX8_asWay cX8_asWay 2 (some .int), .fieldLink RX8 19 "LightCoins" "purses" "LLightCoins$Purses;", .methodLink RX8 128 yX4_coinsOf, .instanceMethod yX4_coinsOf, .selects RX4 yX4_coinsOf yX4_coinsOf, .initialized RX4, .code yX4_coinsOf cX4_coinsOf 2 (some .int), .methodLink RX4 21 yX4_coinsAbove, .instanceMethod yX4_coinsAbove, .selects RX4 yX4_coinsAbove yX4_coinsAbove, .code yX4_coinsAbove cX4_coinsAbove 5 (some .int), .methodLink RX4 25 yX4_held, .instanceMethod yX4_held, .selects RX4 yX4_held yX4_held, .code yX4_held cX4_held 3 (some .int), .fieldLink RX4 9 "LightCoins$Purses" "cells" "[I"] ++ wsX80 ++ wsX40)
def wsX8_asLook_r1 : List Cond := [Cond.fieldLink RX8 78 "LightCoins" "trace" "J", Cond.constantLong RX8 335 (100), Cond.fieldLink RX8 29 "LightCoins" "tunes" "LLightCoins$Tunes;", Cond.fieldLink RX8 19 "LightCoins" "purses" "LLightCoins$Purses;", Cond.methodLink RX8 264 yX8_asWay, Cond.instanceMethod yX8_asWay, Cond.selects RX8 yX8_asWay yX8_asWay, Cond.initialized RX8, Cond.code yX8_asWay cX8_asWay 2 (some .int), Cond.methodLink RX8 128 yX4_coinsOf, Cond.instanceMethod yX4_coinsOf, Cond.selects RX4 yX4_coinsOf yX4_coinsOf, Cond.initialized RX4, Cond.code yX4_coinsOf cX4_coinsOf 2 (some .int), Cond.methodLink RX4 21 yX4_coinsAbove, Cond.instanceMethod yX4_coinsAbove, Cond.selects RX4 yX4_coinsAbove yX4_coinsAbove, Cond.code yX4_coinsAbove cX4_coinsAbove 5 (some .int), Cond.methodLink RX4 25 yX4_held, Cond.instanceMethod yX4_held, Cond.selects RX4 yX4_held yX4_held, Cond.code yX4_held cX4_held 3 (some .int), Cond.fieldLink RX4 9 "LightCoins$Purses" "cells" "[I", Cond.methodLink RX8 172 yX7_of]
def wsX8_asLook_r2 : List Cond := [Cond.instanceMethod yX7_of, Cond.selects RX7 yX7_of yX7_of, Cond.initialized RX7, Cond.code yX7_of cX7_of 2 (some .int), Cond.fieldLink RX7 9 "LightCoins$Tunes" "value" "[I", Cond.methodLink RX8 337 yX4_coinsAbove]
def wsX8_asLook : List Cond := .code yX8_asLook cX8_asLook 2 (some .int) :: ((wsX8_asLook_r1 ++ wsX8_asLook_r2) ++ wsX80 ++ wsX40 ++ wsX70)
def wsX8_asSome_r1 : List Cond := [Cond.fieldLink RX8 78 "LightCoins" "trace" "J", Cond.constantLong RX8 340 (1000), Cond.fieldLink RX8 64 "LightCoins" "town" "LLightCoins$Town;", Cond.fieldLink RX8 119 "LightCoins$Town" "tenths" "[I", Cond.methodLink RX8 270 yX8_asLook, Cond.instanceMethod yX8_asLook, Cond.selects RX8 yX8_asLook yX8_asLook, Cond.initialized RX8, Cond.code yX8_asLook cX8_asLook 2 (some .int), Cond.constantLong RX8 335 (100), Cond.fieldLink RX8 29 "LightCoins" "tunes" "LLightCoins$Tunes;", Cond.fieldLink RX8 19 "LightCoins" "purses" "LLightCoins$Purses;", Cond.methodLink RX8 264 yX8_asWay, Cond.instanceMethod yX8_asWay, Cond.selects RX8 yX8_asWay yX8_asWay, Cond.code yX8_asWay cX8_asWay 2 (some .int), Cond.methodLink RX8 128 yX4_coinsOf, Cond.instanceMethod yX4_coinsOf, Cond.selects RX4 yX4_coinsOf yX4_coinsOf, Cond.initialized RX4, Cond.code yX4_coinsOf cX4_coinsOf 2 (some .int), Cond.methodLink RX4 21 yX4_coinsAbove, Cond.instanceMethod yX4_coinsAbove, Cond.selects RX4 yX4_coinsAbove yX4_coinsAbove]
def wsX8_asSome_r2 : List Cond := [Cond.code yX4_coinsAbove cX4_coinsAbove 5 (some .int), Cond.methodLink RX4 25 yX4_held, Cond.instanceMethod yX4_held, Cond.selects RX4 yX4_held yX4_held, Cond.code yX4_held cX4_held 3 (some .int), Cond.fieldLink RX4 9 "LightCoins$Purses" "cells" "[I", Cond.methodLink RX8 172 yX7_of, Cond.instanceMethod yX7_of, Cond.selects RX7 yX7_of yX7_of, Cond.initialized RX7, Cond.code yX7_of cX7_of 2 (some .int), Cond.fieldLink RX7 9 "LightCoins$Tunes" "value" "[I", Cond.methodLink RX8 337 yX4_coinsAbove]
def wsX8_asSome : List Cond := .code yX8_asSome cX8_asSome 2 (some .int) :: ((wsX8_asSome_r1 ++ wsX8_asSome_r2) ++ wsX80 ++ wsX60 ++ wsX40 ++ wsX70)
def wsX8_asPay : List Cond := .code yX8_asPay cX8_asPay 2 (some .int) :: ([.fieldLink RX8 78 "LightCoins" "trace" "J", .constantLong RX8 342 (10000), .fieldLink RX8 19 "LightCoins" "purses" "LLightCoins$Purses;", .methodLink RX8 264 yX8_asWay, .instanceMethod yX8_asWay, .selects RX8 yX8_asWay yX8_asWay, .initialized RX8, .code yX8_asWay cX8_asWay 2 (some .int), .methodLink RX8 128 yX4_coinsOf, .instanceMethod yX4_coinsOf, .selects RX4 yX4_coinsOf yX4_coinsOf, .initialized RX4, .code yX4_coinsOf cX4_coinsOf 2 (some .int), .methodLink RX4 21 yX4_coinsAbove, .instanceMethod yX4_coinsAbove, .selects RX4 yX4_coinsAbove yX4_coinsAbove, .code yX4_coinsAbove cX4_coinsAbove 5 (some .int), .methodLink RX4 25 yX4_held, .instanceMethod yX4_held, .selects RX4 yX4_held yX4_held, .code yX4_held cX4_held 3 (some .int), .fieldLink RX4 9 "LightCoins$Purses" "cells" "[I", .methodLink RX8 135 yX4_held] ++ wsX80 ++ wsX40)
def wsX8_asKeep_r1 : List Cond := [Cond.fieldLink RX8 78 "LightCoins" "trace" "J", Cond.constantLong RX8 344 (100000), Cond.methodLink RX8 276 yX8_asPay, Cond.instanceMethod yX8_asPay, Cond.selects RX8 yX8_asPay yX8_asPay, Cond.initialized RX8, Cond.code yX8_asPay cX8_asPay 2 (some .int), Cond.constantLong RX8 342 (10000), Cond.fieldLink RX8 19 "LightCoins" "purses" "LLightCoins$Purses;", Cond.methodLink RX8 264 yX8_asWay, Cond.instanceMethod yX8_asWay, Cond.selects RX8 yX8_asWay yX8_asWay, Cond.code yX8_asWay cX8_asWay 2 (some .int), Cond.methodLink RX8 128 yX4_coinsOf, Cond.instanceMethod yX4_coinsOf, Cond.selects RX4 yX4_coinsOf yX4_coinsOf, Cond.initialized RX4, Cond.code yX4_coinsOf cX4_coinsOf 2 (some .int), Cond.methodLink RX4 21 yX4_coinsAbove, Cond.instanceMethod yX4_coinsAbove, Cond.selects RX4 yX4_coinsAbove yX4_coinsAbove, Cond.code yX4_coinsAbove cX4_coinsAbove 5 (some .int), Cond.methodLink RX4 25 yX4_held, Cond.instanceMethod yX4_held]
def wsX8_asKeep_r2 : List Cond := [Cond.selects RX4 yX4_held yX4_held, Cond.code yX4_held cX4_held 3 (some .int), Cond.fieldLink RX4 9 "LightCoins$Purses" "cells" "[I", Cond.methodLink RX8 135 yX4_held]
def wsX8_asKeep : List Cond := .code yX8_asKeep cX8_asKeep 2 (some .int) :: ((wsX8_asKeep_r1 ++ wsX8_asKeep_r2) ++ wsX80 ++ wsX40)
def wsX8_asClip : List Cond := .code yX8_asClip cX8_asClip 2 (some .int) :: ([.fieldLink RX8 78 "LightCoins" "trace" "J", .constantLong RX8 346 (1000000), .fieldLink RX8 64 "LightCoins" "town" "LLightCoins$Town;", .fieldLink RX8 125 "LightCoins$Town" "others" "[I", .methodLink RX8 264 yX8_asWay, .instanceMethod yX8_asWay, .selects RX8 yX8_asWay yX8_asWay, .initialized RX8, .code yX8_asWay cX8_asWay 2 (some .int), .fieldLink RX8 19 "LightCoins" "purses" "LLightCoins$Purses;", .methodLink RX8 128 yX4_coinsOf, .instanceMethod yX4_coinsOf, .selects RX4 yX4_coinsOf yX4_coinsOf, .initialized RX4, .code yX4_coinsOf cX4_coinsOf 2 (some .int), .methodLink RX4 21 yX4_coinsAbove, .instanceMethod yX4_coinsAbove, .selects RX4 yX4_coinsAbove yX4_coinsAbove, .code yX4_coinsAbove cX4_coinsAbove 5 (some .int), .methodLink RX4 25 yX4_held, .instanceMethod yX4_held, .selects RX4 yX4_held yX4_held, .code yX4_held cX4_held 3 (some .int), .fieldLink RX4 9 "LightCoins$Purses" "cells" "[I"] ++ wsX80 ++ wsX60 ++ wsX40)
def wsX8_labour_r1 : List Cond := [Cond.methodLink RX8 112 yX8_isPerson, Cond.instanceMethod yX8_isPerson, Cond.selects RX8 yX8_isPerson yX8_isPerson, Cond.initialized RX8, Cond.code yX8_isPerson cX8_isPerson 2 (some .boolean), Cond.fieldLink RX8 64 "LightCoins" "town" "LLightCoins$Town;", Cond.fieldLink RX8 109 "LightCoins$Town" "people" "I", Cond.methodLink RX8 264 yX8_asWay, Cond.instanceMethod yX8_asWay, Cond.selects RX8 yX8_asWay yX8_asWay, Cond.code yX8_asWay cX8_asWay 2 (some .int), Cond.fieldLink RX8 78 "LightCoins" "trace" "J", Cond.fieldLink RX8 19 "LightCoins" "purses" "LLightCoins$Purses;", Cond.methodLink RX8 128 yX4_coinsOf, Cond.instanceMethod yX4_coinsOf, Cond.selects RX4 yX4_coinsOf yX4_coinsOf, Cond.initialized RX4, Cond.code yX4_coinsOf cX4_coinsOf 2 (some .int), Cond.methodLink RX4 21 yX4_coinsAbove, Cond.instanceMethod yX4_coinsAbove, Cond.selects RX4 yX4_coinsAbove yX4_coinsAbove, Cond.code yX4_coinsAbove cX4_coinsAbove 5 (some .int), Cond.methodLink RX4 25 yX4_held, Cond.instanceMethod yX4_held]
def wsX8_labour_r2 : List Cond := [Cond.selects RX4 yX4_held yX4_held, Cond.code yX4_held cX4_held 3 (some .int), Cond.fieldLink RX4 9 "LightCoins$Purses" "cells" "[I", Cond.methodLink RX8 267 yX8_asTale, Cond.instanceMethod yX8_asTale, Cond.selects RX8 yX8_asTale yX8_asTale, Cond.code yX8_asTale cX8_asTale 2 (some .int), Cond.constantLong RX8 323 (10), Cond.methodLink RX8 270 yX8_asLook, Cond.instanceMethod yX8_asLook, Cond.selects RX8 yX8_asLook yX8_asLook, Cond.code yX8_asLook cX8_asLook 2 (some .int), Cond.constantLong RX8 335 (100), Cond.fieldLink RX8 29 "LightCoins" "tunes" "LLightCoins$Tunes;", Cond.methodLink RX8 172 yX7_of, Cond.instanceMethod yX7_of, Cond.selects RX7 yX7_of yX7_of, Cond.initialized RX7, Cond.code yX7_of cX7_of 2 (some .int), Cond.fieldLink RX7 9 "LightCoins$Tunes" "value" "[I", Cond.methodLink RX8 337 yX4_coinsAbove, Cond.methodLink RX8 273 yX8_asSome, Cond.instanceMethod yX8_asSome, Cond.selects RX8 yX8_asSome yX8_asSome]
def wsX8_labour_r3 : List Cond := [Cond.code yX8_asSome cX8_asSome 2 (some .int), Cond.constantLong RX8 340 (1000), Cond.fieldLink RX8 119 "LightCoins$Town" "tenths" "[I", Cond.methodLink RX8 276 yX8_asPay, Cond.instanceMethod yX8_asPay, Cond.selects RX8 yX8_asPay yX8_asPay, Cond.code yX8_asPay cX8_asPay 2 (some .int), Cond.constantLong RX8 342 (10000), Cond.methodLink RX8 135 yX4_held, Cond.methodLink RX8 279 yX8_asKeep, Cond.instanceMethod yX8_asKeep, Cond.selects RX8 yX8_asKeep yX8_asKeep, Cond.code yX8_asKeep cX8_asKeep 2 (some .int), Cond.constantLong RX8 344 (100000), Cond.methodLink RX8 282 yX8_asClip, Cond.instanceMethod yX8_asClip, Cond.selects RX8 yX8_asClip yX8_asClip, Cond.code yX8_asClip cX8_asClip 2 (some .int), Cond.constantLong RX8 346 (1000000), Cond.fieldLink RX8 125 "LightCoins$Town" "others" "[I"]
def wsX8_labour : List Cond := .code yX8_labour cX8_labour 3 (some .int) :: ((wsX8_labour_r1 ++ (wsX8_labour_r2 ++ wsX8_labour_r3)) ++ wsX80 ++ wsX60 ++ wsX40 ++ wsX70)
def wsX8_isImage : List Cond := .code yX8_isImage cX8_isImage 1 (some .boolean) :: ([])
def wsX8_keep_r1 : List Cond := [Cond.fieldLink RX8 57 "LightCoins" "images" "[LLightCoins$Image;", Cond.fieldLink RX8 288 "LightCoins$Image" "purses" "LLightCoins$Purses;", Cond.fieldLink RX8 19 "LightCoins" "purses" "LLightCoins$Purses;", Cond.fieldLink RX8 71 "LightCoins" "lot" "I", Cond.fieldLink RX8 289 "LightCoins$Image" "lot" "I", Cond.fieldLink RX8 75 "LightCoins" "year" "I", Cond.fieldLink RX8 290 "LightCoins$Image" "year" "I", Cond.fieldLink RX8 105 "LightCoins$Image" "kept" "Z", Cond.methodLink RX8 285 yX8_isImage, Cond.static yX8_isImage, Cond.initialized RX8, Cond.code yX8_isImage cX8_isImage 1 (some .boolean), Cond.methodLink RX8 234 yX4_copyFrom, Cond.instanceMethod yX4_copyFrom, Cond.selects RX4 yX4_copyFrom yX4_copyFrom, Cond.initialized RX4, Cond.code yX4_copyFrom cX4_copyFrom 2 none, Cond.fieldLink RX4 9 "LightCoins$Purses" "cells" "[I", Cond.methodLink RX4 15 arraycopyName, Cond.native arraycopyName, Cond.static arraycopyName, Cond.initialized "java/lang/System", Cond.methodLink RX8 225 yX4_allCoins, Cond.instanceMethod yX4_allCoins]
def wsX8_keep_r2 : List Cond := [Cond.selects RX4 yX4_allCoins yX4_allCoins, Cond.code yX4_allCoins cX4_allCoins 3 (some .int), Cond.methodLink RX4 28 yX4_coinsOf, Cond.instanceMethod yX4_coinsOf, Cond.selects RX4 yX4_coinsOf yX4_coinsOf, Cond.code yX4_coinsOf cX4_coinsOf 2 (some .int), Cond.methodLink RX4 21 yX4_coinsAbove, Cond.instanceMethod yX4_coinsAbove, Cond.selects RX4 yX4_coinsAbove yX4_coinsAbove, Cond.code yX4_coinsAbove cX4_coinsAbove 5 (some .int), Cond.methodLink RX4 25 yX4_held, Cond.instanceMethod yX4_held, Cond.selects RX4 yX4_held yX4_held, Cond.code yX4_held cX4_held 3 (some .int)]
def wsX8_keep : List Cond := .code yX8_keep cX8_keep 3 (some .int) :: ((wsX8_keep_r1 ++ wsX8_keep_r2) ++ wsX80 ++ wsX10 ++ wsX40)
def wsX8_back_r1 : List Cond := [Cond.fieldLink RX8 57 "LightCoins" "images" "[LLightCoins$Image;", Cond.fieldLink RX8 105 "LightCoins$Image" "kept" "Z", Cond.fieldLink RX8 19 "LightCoins" "purses" "LLightCoins$Purses;", Cond.fieldLink RX8 288 "LightCoins$Image" "purses" "LLightCoins$Purses;", Cond.fieldLink RX8 289 "LightCoins$Image" "lot" "I", Cond.fieldLink RX8 71 "LightCoins" "lot" "I", Cond.fieldLink RX8 290 "LightCoins$Image" "year" "I", Cond.fieldLink RX8 75 "LightCoins" "year" "I", Cond.methodLink RX8 285 yX8_isImage, Cond.static yX8_isImage, Cond.initialized RX8, Cond.code yX8_isImage cX8_isImage 1 (some .boolean), Cond.methodLink RX8 234 yX4_copyFrom, Cond.instanceMethod yX4_copyFrom, Cond.selects RX4 yX4_copyFrom yX4_copyFrom, Cond.initialized RX4, Cond.code yX4_copyFrom cX4_copyFrom 2 none, Cond.fieldLink RX4 9 "LightCoins$Purses" "cells" "[I", Cond.methodLink RX4 15 arraycopyName, Cond.native arraycopyName, Cond.static arraycopyName, Cond.initialized "java/lang/System", Cond.methodLink RX8 225 yX4_allCoins, Cond.instanceMethod yX4_allCoins]
def wsX8_back_r2 : List Cond := [Cond.selects RX4 yX4_allCoins yX4_allCoins, Cond.code yX4_allCoins cX4_allCoins 3 (some .int), Cond.methodLink RX4 28 yX4_coinsOf, Cond.instanceMethod yX4_coinsOf, Cond.selects RX4 yX4_coinsOf yX4_coinsOf, Cond.code yX4_coinsOf cX4_coinsOf 2 (some .int), Cond.methodLink RX4 21 yX4_coinsAbove, Cond.instanceMethod yX4_coinsAbove, Cond.selects RX4 yX4_coinsAbove yX4_coinsAbove, Cond.code yX4_coinsAbove cX4_coinsAbove 5 (some .int), Cond.methodLink RX4 25 yX4_held, Cond.instanceMethod yX4_held, Cond.selects RX4 yX4_held yX4_held, Cond.code yX4_held cX4_held 3 (some .int)]
def wsX8_back : List Cond := .code yX8_back cX8_back 3 (some .int) :: ((wsX8_back_r1 ++ wsX8_back_r2) ++ wsX80 ++ wsX10 ++ wsX40)
def wsX8_count_r1 : List Cond := [Cond.fieldLink RX8 64 "LightCoins" "town" "LLightCoins$Town;", Cond.fieldLink RX8 109 "LightCoins$Town" "people" "I", Cond.fieldLink RX8 19 "LightCoins" "purses" "LLightCoins$Purses;", Cond.fieldLink RX8 75 "LightCoins" "year" "I", Cond.fieldLink RX8 10 "LightCoins" "text" "LLightCoins$Text;", Cond.fieldLink RX8 92 "LightCoins$Text" "length" "I", Cond.fieldLink RX8 36 "LightCoins" "latest" "LLightCoins$Meeting;", Cond.fieldLink RX8 291 "LightCoins$Meeting" "number" "I", Cond.methodLink RX8 225 yX4_allCoins, Cond.instanceMethod yX4_allCoins, Cond.selects RX4 yX4_allCoins yX4_allCoins, Cond.initialized RX4, Cond.code yX4_allCoins cX4_allCoins 3 (some .int), Cond.methodLink RX4 28 yX4_coinsOf, Cond.instanceMethod yX4_coinsOf, Cond.selects RX4 yX4_coinsOf yX4_coinsOf, Cond.code yX4_coinsOf cX4_coinsOf 2 (some .int), Cond.methodLink RX4 21 yX4_coinsAbove, Cond.instanceMethod yX4_coinsAbove, Cond.selects RX4 yX4_coinsAbove yX4_coinsAbove, Cond.code yX4_coinsAbove cX4_coinsAbove 5 (some .int), Cond.methodLink RX4 25 yX4_held, Cond.instanceMethod yX4_held, Cond.selects RX4 yX4_held yX4_held]
def wsX8_count_r2 : List Cond := [Cond.code yX4_held cX4_held 3 (some .int), Cond.fieldLink RX4 9 "LightCoins$Purses" "cells" "[I", Cond.methodLink RX8 228 yX4_allGrains, Cond.instanceMethod yX4_allGrains, Cond.selects RX4 yX4_allGrains yX4_allGrains, Cond.code yX4_allGrains cX4_allGrains 3 (some .int), Cond.methodLink RX4 32 yX4_ofWeight, Cond.instanceMethod yX4_ofWeight, Cond.selects RX4 yX4_ofWeight yX4_ofWeight, Cond.code yX4_ofWeight cX4_ofWeight 4 (some .int)]
def wsX8_count : List Cond := .code yX8_count cX8_count 2 (some .int) :: ((wsX8_count_r1 ++ wsX8_count_r2) ++ wsX80 ++ wsX60 ++ wsX50 ++ wsX30 ++ wsX40)
def wsX8_trace : List Cond := .code yX8_trace cX8_trace 1 (some .long) :: ([.fieldLink RX8 78 "LightCoins" "trace" "J"] ++ wsX80)
def wsX9_init : List Cond := .code yX9_init cX9_init 2 none :: ([.methodLink RX9 1 objectInit, .instanceMethod objectInit, .code objectInit ⟨#[0xb1]⟩ 1 none, .arrayClass .byte, .fieldLink RX9 7 "LightCoinsModel" "text" "[B", .arrayClass .int, .fieldLink RX9 13 "LightCoinsModel" "way" "[I", .fieldLink RX9 17 "LightCoinsModel" "chance" "[I", .fieldLink RX9 20 "LightCoinsModel" "pay" "[I", .fieldLink RX9 23 "LightCoinsModel" "others" "[I", .fieldLink RX9 26 "LightCoinsModel" "purse" "[I", .fieldLink RX9 29 "LightCoinsModel" "lots" "[I", .fieldLink RX9 32 "LightCoinsModel" "years" "[I", .arrayClass .boolean, .fieldLink RX9 35 "LightCoinsModel" "isKept" "[Z", .fieldLink RX9 39 "LightCoinsModel" "tune" "[I", .fieldLink RX9 42 "LightCoinsModel" "met" "[I", .arrayClass .long, .fieldLink RX9 45 "LightCoinsModel" "worth" "[J", .fieldLink RX9 49 "LightCoinsModel" "isClipped" "[Z", .fieldLink RX9 52 "LightCoinsModel" "aside" "[I", .fieldLink RX9 55 "LightCoinsModel" "law" "[I"] ++ wsX90)
def wsX9_in : List Cond := .code yX9_in cX9_in 6 (some .boolean) :: ([])
def wsX9_type : List Cond := .code yX9_type cX9_type 5 (some .int) :: ([.constantLong RX9 58 (8), .fieldLink RX9 64 "LightCoinsModel" "typed" "I", .fieldLink RX9 7 "LightCoinsModel" "text" "[B", .constantLong RX9 68 (255), .methodLink RX9 60 yX9_in, .static yX9_in, .initialized RX9, .code yX9_in cX9_in 6 (some .boolean)] ++ wsX90)
def wsX9_clear : List Cond := .code yX9_clear cX9_clear 2 (some .int) :: ([.fieldLink RX9 64 "LightCoinsModel" "typed" "I"] ++ wsX90)
def wsX9_here : List Cond := .code yX9_here cX9_here 1 (some .int) :: ([.fieldLink RX9 70 "LightCoinsModel" "at" "I", .fieldLink RX9 64 "LightCoinsModel" "typed" "I", .fieldLink RX9 7 "LightCoinsModel" "text" "[B"] ++ wsX90)
def wsX9_isSpelled : List Cond := .code yX9_isSpelled cX9_isSpelled 7 (some .boolean) :: ([.fieldLink RX9 70 "LightCoinsModel" "at" "I", .fieldLink RX9 73 "LightCoinsModel" "start" "I", .fieldLink RX9 7 "LightCoinsModel" "text" "[B"] ++ wsX90)
def wsX9_word : List Cond := .code yX9_word cX9_word 1 none :: ([.fieldLink RX9 76 "LightCoinsModel" "sort" "I", .fieldLink RX9 83 "LightCoinsModel" "value" "I", .methodLink RX9 79 yX9_isSpelled, .instanceMethod yX9_isSpelled, .selects RX9 yX9_isSpelled yX9_isSpelled, .initialized RX9, .code yX9_isSpelled cX9_isSpelled 7 (some .boolean), .fieldLink RX9 70 "LightCoinsModel" "at" "I", .fieldLink RX9 73 "LightCoinsModel" "start" "I", .fieldLink RX9 7 "LightCoinsModel" "text" "[B"] ++ wsX90)
def wsX9_next_r1 : List Cond := [Cond.fieldLink RX9 70 "LightCoinsModel" "at" "I", Cond.fieldLink RX9 73 "LightCoinsModel" "start" "I", Cond.fieldLink RX9 83 "LightCoinsModel" "value" "I", Cond.fieldLink RX9 76 "LightCoinsModel" "sort" "I", Cond.constantLong RX9 90 (97), Cond.constantLong RX9 92 (122), Cond.constantLong RX9 97 (48), Cond.constantLong RX9 99 (57), Cond.methodLink RX9 86 yX9_here, Cond.instanceMethod yX9_here, Cond.selects RX9 yX9_here yX9_here, Cond.initialized RX9, Cond.code yX9_here cX9_here 1 (some .int), Cond.fieldLink RX9 64 "LightCoinsModel" "typed" "I", Cond.fieldLink RX9 7 "LightCoinsModel" "text" "[B", Cond.methodLink RX9 60 yX9_in, Cond.static yX9_in, Cond.code yX9_in cX9_in 6 (some .boolean), Cond.methodLink RX9 94 yX9_word, Cond.instanceMethod yX9_word, Cond.selects RX9 yX9_word yX9_word, Cond.code yX9_word cX9_word 1 none, Cond.methodLink RX9 79 yX9_isSpelled, Cond.instanceMethod yX9_isSpelled]
def wsX9_next_r2 : List Cond := [Cond.selects RX9 yX9_isSpelled yX9_isSpelled, Cond.code yX9_isSpelled cX9_isSpelled 7 (some .boolean)]
def wsX9_next : List Cond := .code yX9_next cX9_next 2 none :: ((wsX9_next_r1 ++ wsX9_next_r2) ++ wsX90)
def wsX9_due_r1 : List Cond := [Cond.fieldLink RX9 83 "LightCoinsModel" "value" "I", Cond.fieldLink RX9 101 "LightCoinsModel" "fault" "I", Cond.fieldLink RX9 73 "LightCoinsModel" "start" "I", Cond.methodLink RX9 104 yX9_next, Cond.instanceMethod yX9_next, Cond.selects RX9 yX9_next yX9_next, Cond.initialized RX9, Cond.code yX9_next cX9_next 2 none, Cond.fieldLink RX9 70 "LightCoinsModel" "at" "I", Cond.fieldLink RX9 76 "LightCoinsModel" "sort" "I", Cond.constantLong RX9 90 (97), Cond.constantLong RX9 92 (122), Cond.constantLong RX9 97 (48), Cond.constantLong RX9 99 (57), Cond.methodLink RX9 86 yX9_here, Cond.instanceMethod yX9_here, Cond.selects RX9 yX9_here yX9_here, Cond.code yX9_here cX9_here 1 (some .int), Cond.fieldLink RX9 64 "LightCoinsModel" "typed" "I", Cond.fieldLink RX9 7 "LightCoinsModel" "text" "[B", Cond.methodLink RX9 60 yX9_in, Cond.static yX9_in, Cond.code yX9_in cX9_in 6 (some .boolean), Cond.methodLink RX9 94 yX9_word]
def wsX9_due_r2 : List Cond := [Cond.instanceMethod yX9_word, Cond.selects RX9 yX9_word yX9_word, Cond.code yX9_word cX9_word 1 none, Cond.methodLink RX9 79 yX9_isSpelled, Cond.instanceMethod yX9_isSpelled, Cond.selects RX9 yX9_isSpelled yX9_isSpelled, Cond.code yX9_isSpelled cX9_isSpelled 7 (some .boolean)]
def wsX9_due : List Cond := .code yX9_due cX9_due 3 (some .int) :: ((wsX9_due_r1 ++ wsX9_due_r2) ++ wsX90)
def wsX9_town_r1 : List Cond := [Cond.fieldLink RX9 70 "LightCoinsModel" "at" "I", Cond.fieldLink RX9 101 "LightCoinsModel" "fault" "I", Cond.fieldLink RX9 76 "LightCoinsModel" "sort" "I", Cond.fieldLink RX9 13 "LightCoinsModel" "way" "[I", Cond.fieldLink RX9 17 "LightCoinsModel" "chance" "[I", Cond.fieldLink RX9 83 "LightCoinsModel" "value" "I", Cond.fieldLink RX9 20 "LightCoinsModel" "pay" "[I", Cond.fieldLink RX9 23 "LightCoinsModel" "others" "[I", Cond.fieldLink RX9 111 "LightCoinsModel" "people" "I", Cond.fieldLink RX9 26 "LightCoinsModel" "purse" "[I", Cond.fieldLink RX9 35 "LightCoinsModel" "isKept" "[Z", Cond.fieldLink RX9 42 "LightCoinsModel" "met" "[I", Cond.fieldLink RX9 114 "LightCoinsModel" "meetings" "I", Cond.fieldLink RX9 64 "LightCoinsModel" "typed" "I", Cond.methodLink RX9 104 yX9_next, Cond.instanceMethod yX9_next, Cond.selects RX9 yX9_next yX9_next, Cond.initialized RX9, Cond.code yX9_next cX9_next 2 none, Cond.fieldLink RX9 73 "LightCoinsModel" "start" "I", Cond.constantLong RX9 90 (97), Cond.constantLong RX9 92 (122), Cond.constantLong RX9 97 (48), Cond.constantLong RX9 99 (57)]
def wsX9_town_r2 : List Cond := [Cond.methodLink RX9 86 yX9_here, Cond.instanceMethod yX9_here, Cond.selects RX9 yX9_here yX9_here, Cond.code yX9_here cX9_here 1 (some .int), Cond.fieldLink RX9 7 "LightCoinsModel" "text" "[B", Cond.methodLink RX9 60 yX9_in, Cond.static yX9_in, Cond.code yX9_in cX9_in 6 (some .boolean), Cond.methodLink RX9 94 yX9_word, Cond.instanceMethod yX9_word, Cond.selects RX9 yX9_word yX9_word, Cond.code yX9_word cX9_word 1 none, Cond.methodLink RX9 79 yX9_isSpelled, Cond.instanceMethod yX9_isSpelled, Cond.selects RX9 yX9_isSpelled yX9_isSpelled, Cond.code yX9_isSpelled cX9_isSpelled 7 (some .boolean), Cond.methodLink RX9 107 yX9_due, Cond.instanceMethod yX9_due, Cond.selects RX9 yX9_due yX9_due, Cond.code yX9_due cX9_due 3 (some .int)]
def wsX9_town : List Cond := .code yX9_town cX9_town 3 (some .int) :: ((wsX9_town_r1 ++ wsX9_town_r2) ++ wsX90)
def wsX9_isPerson : List Cond := .code yX9_isPerson cX9_isPerson 2 (some .boolean) :: ([.fieldLink RX9 111 "LightCoinsModel" "people" "I", .methodLink RX9 60 yX9_in, .static yX9_in, .initialized RX9, .code yX9_in cX9_in 6 (some .boolean)] ++ wsX90)
def wsX9_coinsOf : List Cond := .code yX9_coinsOf cX9_coinsOf 4 (some .int) :: ([.fieldLink RX9 26 "LightCoinsModel" "purse" "[I"] ++ wsX90)
def wsX9_person : List Cond := .code yX9_person cX9_person 3 (some .int) :: ([.fieldLink RX9 13 "LightCoinsModel" "way" "[I", .fieldLink RX9 17 "LightCoinsModel" "chance" "[I", .fieldLink RX9 20 "LightCoinsModel" "pay" "[I", .fieldLink RX9 23 "LightCoinsModel" "others" "[I", .methodLink RX9 117 yX9_isPerson, .instanceMethod yX9_isPerson, .selects RX9 yX9_isPerson yX9_isPerson, .initialized RX9, .code yX9_isPerson cX9_isPerson 2 (some .boolean), .fieldLink RX9 111 "LightCoinsModel" "people" "I", .methodLink RX9 60 yX9_in, .static yX9_in, .code yX9_in cX9_in 6 (some .boolean), .methodLink RX9 121 yX9_coinsOf, .instanceMethod yX9_coinsOf, .selects RX9 yX9_coinsOf yX9_coinsOf, .code yX9_coinsOf cX9_coinsOf 4 (some .int), .fieldLink RX9 26 "LightCoinsModel" "purse" "[I"] ++ wsX90)
def wsX9_purse : List Cond := .code yX9_purse cX9_purse 5 (some .int) :: ([.constantLong RX9 125 (9), .constantLong RX9 127 (99), .fieldLink RX9 26 "LightCoinsModel" "purse" "[I", .methodLink RX9 117 yX9_isPerson, .instanceMethod yX9_isPerson, .selects RX9 yX9_isPerson yX9_isPerson, .initialized RX9, .code yX9_isPerson cX9_isPerson 2 (some .boolean), .fieldLink RX9 111 "LightCoinsModel" "people" "I", .methodLink RX9 60 yX9_in, .static yX9_in, .code yX9_in cX9_in 6 (some .boolean)] ++ wsX90)
def wsX9_ofAll : List Cond := .code yX9_ofAll cX9_ofAll 4 (some .int) :: ([.fieldLink RX9 111 "LightCoinsModel" "people" "I", .fieldLink RX9 26 "LightCoinsModel" "purse" "[I"] ++ wsX90)
def wsX9_coins : List Cond := .code yX9_coins cX9_coins 3 (some .int) :: ([.constantLong RX9 129 (-1), .fieldLink RX9 111 "LightCoinsModel" "people" "I", .constantLong RX9 125 (9), .fieldLink RX9 26 "LightCoinsModel" "purse" "[I", .methodLink RX9 60 yX9_in, .static yX9_in, .initialized RX9, .code yX9_in cX9_in 6 (some .boolean), .methodLink RX9 131 yX9_ofAll, .instanceMethod yX9_ofAll, .selects RX9 yX9_ofAll yX9_ofAll, .code yX9_ofAll cX9_ofAll 4 (some .int)] ++ wsX90)
def wsX9_highOf : List Cond := .code yX9_highOf cX9_highOf 1 (some .int) :: ([])
def wsX9_tune : List Cond := .code yX9_tune cX9_tune 4 (some .int) :: ([.constantLong RX9 134 (5), .fieldLink RX9 39 "LightCoinsModel" "tune" "[I", .methodLink RX9 60 yX9_in, .static yX9_in, .initialized RX9, .code yX9_in cX9_in 6 (some .boolean), .methodLink RX9 136 yX9_highOf, .static yX9_highOf, .code yX9_highOf cX9_highOf 1 (some .int)] ++ wsX90)
def wsX9_lot : List Cond := .code yX9_lot cX9_lot 3 (some .int) :: ([.fieldLink RX9 29 "LightCoinsModel" "lots" "[I"] ++ wsX90)
def wsX9_draw : List Cond := .code yX9_draw cX9_draw 2 (some .int) :: ([.fieldLink RX9 29 "LightCoinsModel" "lots" "[I", .constant RX9 139 (1103515245)] ++ wsX90)
def wsX9_meetOnce : List Cond := .code yX9_meetOnce cX9_meetOnce 7 (some .int) :: ([.fieldLink RX9 111 "LightCoinsModel" "people" "I", .fieldLink RX9 13 "LightCoinsModel" "way" "[I", .fieldLink RX9 17 "LightCoinsModel" "chance" "[I", .fieldLink RX9 26 "LightCoinsModel" "purse" "[I", .fieldLink RX9 39 "LightCoinsModel" "tune" "[I", .fieldLink RX9 20 "LightCoinsModel" "pay" "[I", .fieldLink RX9 42 "LightCoinsModel" "met" "[I", .fieldLink RX9 114 "LightCoinsModel" "meetings" "I", .methodLink RX9 140 yX9_draw, .instanceMethod yX9_draw, .selects RX9 yX9_draw yX9_draw, .initialized RX9, .code yX9_draw cX9_draw 2 (some .int), .fieldLink RX9 29 "LightCoinsModel" "lots" "[I", .constant RX9 139 (1103515245)] ++ wsX90)
def wsX9_meet : List Cond := .code yX9_meet cX9_meet 1 (some .int) :: ([.fieldLink RX9 111 "LightCoinsModel" "people" "I", .methodLink RX9 143 yX9_meetOnce, .instanceMethod yX9_meetOnce, .selects RX9 yX9_meetOnce yX9_meetOnce, .initialized RX9, .code yX9_meetOnce cX9_meetOnce 7 (some .int), .fieldLink RX9 13 "LightCoinsModel" "way" "[I", .fieldLink RX9 17 "LightCoinsModel" "chance" "[I", .fieldLink RX9 26 "LightCoinsModel" "purse" "[I", .fieldLink RX9 39 "LightCoinsModel" "tune" "[I", .fieldLink RX9 20 "LightCoinsModel" "pay" "[I", .fieldLink RX9 42 "LightCoinsModel" "met" "[I", .fieldLink RX9 114 "LightCoinsModel" "meetings" "I", .methodLink RX9 140 yX9_draw, .instanceMethod yX9_draw, .selects RX9 yX9_draw yX9_draw, .code yX9_draw cX9_draw 2 (some .int), .fieldLink RX9 29 "LightCoinsModel" "lots" "[I", .constant RX9 139 (1103515245)] ++ wsX90)
def wsX9_run : List Cond := .code yX9_run cX9_run 4 (some .int) :: ([.constantLong RX9 146 (500), .fieldLink RX9 111 "LightCoinsModel" "people" "I", .methodLink RX9 60 yX9_in, .static yX9_in, .initialized RX9, .code yX9_in cX9_in 6 (some .boolean), .methodLink RX9 143 yX9_meetOnce, .instanceMethod yX9_meetOnce, .selects RX9 yX9_meetOnce yX9_meetOnce, .code yX9_meetOnce cX9_meetOnce 7 (some .int), .fieldLink RX9 13 "LightCoinsModel" "way" "[I", .fieldLink RX9 17 "LightCoinsModel" "chance" "[I", .fieldLink RX9 26 "LightCoinsModel" "purse" "[I", .fieldLink RX9 39 "LightCoinsModel" "tune" "[I", .fieldLink RX9 20 "LightCoinsModel" "pay" "[I", .fieldLink RX9 42 "LightCoinsModel" "met" "[I", .fieldLink RX9 114 "LightCoinsModel" "meetings" "I", .methodLink RX9 140 yX9_draw, .instanceMethod yX9_draw, .selects RX9 yX9_draw yX9_draw, .code yX9_draw cX9_draw 2 (some .int), .fieldLink RX9 29 "LightCoinsModel" "lots" "[I", .constant RX9 139 (1103515245)] ++ wsX90)
def wsX9_met : List Cond := .code yX9_met cX9_met 2 (some .int) :: ([.constantLong RX9 148 (3), .fieldLink RX9 42 "LightCoinsModel" "met" "[I", .methodLink RX9 60 yX9_in, .static yX9_in, .initialized RX9, .code yX9_in cX9_in 6 (some .boolean)] ++ wsX90)
def wsX9_allCoins : List Cond := .code yX9_allCoins cX9_allCoins 3 (some .int) :: ([.methodLink RX9 131 yX9_ofAll, .instanceMethod yX9_ofAll, .selects RX9 yX9_ofAll yX9_ofAll, .initialized RX9, .code yX9_ofAll cX9_ofAll 4 (some .int), .fieldLink RX9 111 "LightCoinsModel" "people" "I", .fieldLink RX9 26 "LightCoinsModel" "purse" "[I"] ++ wsX90)
def wsX9_grains : List Cond := .code yX9_grains cX9_grains 8 (some .int) :: ([.methodLink RX9 131 yX9_ofAll, .instanceMethod yX9_ofAll, .selects RX9 yX9_ofAll yX9_ofAll, .initialized RX9, .code yX9_ofAll cX9_ofAll 4 (some .int), .fieldLink RX9 111 "LightCoinsModel" "people" "I", .fieldLink RX9 26 "LightCoinsModel" "purse" "[I"] ++ wsX90)
def wsX9_lookUp : List Cond := .code yX9_lookUp cX9_lookUp 2 (some .int) :: ([.fieldLink RX9 39 "LightCoinsModel" "tune" "[I", .methodLink RX9 150 yX9_grains, .instanceMethod yX9_grains, .selects RX9 yX9_grains yX9_grains, .initialized RX9, .code yX9_grains cX9_grains 8 (some .int), .methodLink RX9 131 yX9_ofAll, .instanceMethod yX9_ofAll, .selects RX9 yX9_ofAll yX9_ofAll, .code yX9_ofAll cX9_ofAll 4 (some .int), .fieldLink RX9 111 "LightCoinsModel" "people" "I", .fieldLink RX9 26 "LightCoinsModel" "purse" "[I"] ++ wsX90)
def wsX9_taleUp : List Cond := .code yX9_taleUp cX9_taleUp 3 (some .int) :: ([.methodLink RX9 150 yX9_grains, .instanceMethod yX9_grains, .selects RX9 yX9_grains yX9_grains, .initialized RX9, .code yX9_grains cX9_grains 8 (some .int), .methodLink RX9 131 yX9_ofAll, .instanceMethod yX9_ofAll, .selects RX9 yX9_ofAll yX9_ofAll, .code yX9_ofAll cX9_ofAll 4 (some .int), .fieldLink RX9 111 "LightCoinsModel" "people" "I", .fieldLink RX9 26 "LightCoinsModel" "purse" "[I"] ++ wsX90)
def wsX9_common : List Cond := .code yX9_common cX9_common 10 (some .long) :: ([])
def wsX9_inLeast : List Cond := .code yX9_inLeast cX9_inLeast 7 (some .long) :: ([.methodLink RX9 154 yX9_common, .static yX9_common, .initialized RX9, .code yX9_common cX9_common 10 (some .long)])
def wsX9_isDay : List Cond := .code yX9_isDay cX9_isDay 3 (some .boolean) :: ([.constantLong RX9 158 (30), .methodLink RX9 60 yX9_in, .static yX9_in, .initialized RX9, .code yX9_in cX9_in 6 (some .boolean)])
def wsX9_gain_r1 : List Cond := [Cond.constantLong RX9 167 (-1000000000000000000), Cond.constantLong RX9 176 (10), Cond.methodLink RX9 160 yX9_isDay, Cond.instanceMethod yX9_isDay, Cond.selects RX9 yX9_isDay yX9_isDay, Cond.initialized RX9, Cond.code yX9_isDay cX9_isDay 3 (some .boolean), Cond.constantLong RX9 158 (30), Cond.methodLink RX9 60 yX9_in, Cond.static yX9_in, Cond.code yX9_in cX9_in 6 (some .boolean), Cond.methodLink RX9 164 yX9_allCoins, Cond.instanceMethod yX9_allCoins, Cond.selects RX9 yX9_allCoins yX9_allCoins, Cond.code yX9_allCoins cX9_allCoins 3 (some .int), Cond.methodLink RX9 131 yX9_ofAll, Cond.instanceMethod yX9_ofAll, Cond.selects RX9 yX9_ofAll yX9_ofAll, Cond.code yX9_ofAll cX9_ofAll 4 (some .int), Cond.fieldLink RX9 111 "LightCoinsModel" "people" "I", Cond.fieldLink RX9 26 "LightCoinsModel" "purse" "[I", Cond.methodLink RX9 169 yX9_taleUp, Cond.instanceMethod yX9_taleUp, Cond.selects RX9 yX9_taleUp yX9_taleUp]
def wsX9_gain_r2 : List Cond := [Cond.code yX9_taleUp cX9_taleUp 3 (some .int), Cond.methodLink RX9 150 yX9_grains, Cond.instanceMethod yX9_grains, Cond.selects RX9 yX9_grains yX9_grains, Cond.code yX9_grains cX9_grains 8 (some .int), Cond.methodLink RX9 173 yX9_lookUp, Cond.instanceMethod yX9_lookUp, Cond.selects RX9 yX9_lookUp yX9_lookUp, Cond.code yX9_lookUp cX9_lookUp 2 (some .int), Cond.fieldLink RX9 39 "LightCoinsModel" "tune" "[I", Cond.methodLink RX9 178 yX9_inLeast, Cond.static yX9_inLeast, Cond.code yX9_inLeast cX9_inLeast 7 (some .long), Cond.methodLink RX9 154 yX9_common, Cond.static yX9_common, Cond.code yX9_common cX9_common 10 (some .long)]
def wsX9_gain : List Cond := .code yX9_gain cX9_gain 6 (some .long) :: ((wsX9_gain_r1 ++ wsX9_gain_r2) ++ wsX90)
def wsX9_isUp : List Cond := .code yX9_isUp cX9_isUp 3 (some .boolean) :: ([.methodLink RX9 173 yX9_lookUp, .instanceMethod yX9_lookUp, .selects RX9 yX9_lookUp yX9_lookUp, .initialized RX9, .code yX9_lookUp cX9_lookUp 2 (some .int), .fieldLink RX9 39 "LightCoinsModel" "tune" "[I", .methodLink RX9 150 yX9_grains, .instanceMethod yX9_grains, .selects RX9 yX9_grains yX9_grains, .code yX9_grains cX9_grains 8 (some .int), .methodLink RX9 131 yX9_ofAll, .instanceMethod yX9_ofAll, .selects RX9 yX9_ofAll yX9_ofAll, .code yX9_ofAll cX9_ofAll 4 (some .int), .fieldLink RX9 111 "LightCoinsModel" "people" "I", .fieldLink RX9 26 "LightCoinsModel" "purse" "[I", .methodLink RX9 169 yX9_taleUp, .instanceMethod yX9_taleUp, .selects RX9 yX9_taleUp yX9_taleUp, .code yX9_taleUp cX9_taleUp 3 (some .int)] ++ wsX90)
def wsX9_isDown : List Cond := .code yX9_isDown cX9_isDown 3 (some .boolean) :: ([.methodLink RX9 169 yX9_taleUp, .instanceMethod yX9_taleUp, .selects RX9 yX9_taleUp yX9_taleUp, .initialized RX9, .code yX9_taleUp cX9_taleUp 3 (some .int), .methodLink RX9 150 yX9_grains, .instanceMethod yX9_grains, .selects RX9 yX9_grains yX9_grains, .code yX9_grains cX9_grains 8 (some .int), .methodLink RX9 131 yX9_ofAll, .instanceMethod yX9_ofAll, .selects RX9 yX9_ofAll yX9_ofAll, .code yX9_ofAll cX9_ofAll 4 (some .int), .fieldLink RX9 111 "LightCoinsModel" "people" "I", .fieldLink RX9 26 "LightCoinsModel" "purse" "[I", .methodLink RX9 173 yX9_lookUp, .instanceMethod yX9_lookUp, .selects RX9 yX9_lookUp yX9_lookUp, .code yX9_lookUp cX9_lookUp 2 (some .int), .fieldLink RX9 39 "LightCoinsModel" "tune" "[I"] ++ wsX90)
def wsX9_rests_r1 : List Cond := [Cond.constantLong RX9 158 (30), Cond.methodLink RX9 60 yX9_in, Cond.static yX9_in, Cond.initialized RX9, Cond.code yX9_in cX9_in 6 (some .boolean), Cond.methodLink RX9 164 yX9_allCoins, Cond.instanceMethod yX9_allCoins, Cond.selects RX9 yX9_allCoins yX9_allCoins, Cond.code yX9_allCoins cX9_allCoins 3 (some .int), Cond.methodLink RX9 131 yX9_ofAll, Cond.instanceMethod yX9_ofAll, Cond.selects RX9 yX9_ofAll yX9_ofAll, Cond.code yX9_ofAll cX9_ofAll 4 (some .int), Cond.fieldLink RX9 111 "LightCoinsModel" "people" "I", Cond.fieldLink RX9 26 "LightCoinsModel" "purse" "[I", Cond.methodLink RX9 182 yX9_isUp, Cond.instanceMethod yX9_isUp, Cond.selects RX9 yX9_isUp yX9_isUp, Cond.code yX9_isUp cX9_isUp 3 (some .boolean), Cond.methodLink RX9 173 yX9_lookUp, Cond.instanceMethod yX9_lookUp, Cond.selects RX9 yX9_lookUp yX9_lookUp, Cond.code yX9_lookUp cX9_lookUp 2 (some .int), Cond.fieldLink RX9 39 "LightCoinsModel" "tune" "[I"]
def wsX9_rests_r2 : List Cond := [Cond.methodLink RX9 150 yX9_grains, Cond.instanceMethod yX9_grains, Cond.selects RX9 yX9_grains yX9_grains, Cond.code yX9_grains cX9_grains 8 (some .int), Cond.methodLink RX9 169 yX9_taleUp, Cond.instanceMethod yX9_taleUp, Cond.selects RX9 yX9_taleUp yX9_taleUp, Cond.code yX9_taleUp cX9_taleUp 3 (some .int), Cond.methodLink RX9 185 yX9_isDown, Cond.instanceMethod yX9_isDown, Cond.selects RX9 yX9_isDown yX9_isDown, Cond.code yX9_isDown cX9_isDown 3 (some .boolean)]
def wsX9_rests : List Cond := .code yX9_rests cX9_rests 4 (some .int) :: ((wsX9_rests_r1 ++ wsX9_rests_r2) ++ wsX90)
def wsX9_end_r1 : List Cond := [Cond.methodLink RX9 182 yX9_isUp, Cond.instanceMethod yX9_isUp, Cond.selects RX9 yX9_isUp yX9_isUp, Cond.initialized RX9, Cond.code yX9_isUp cX9_isUp 3 (some .boolean), Cond.methodLink RX9 173 yX9_lookUp, Cond.instanceMethod yX9_lookUp, Cond.selects RX9 yX9_lookUp yX9_lookUp, Cond.code yX9_lookUp cX9_lookUp 2 (some .int), Cond.fieldLink RX9 39 "LightCoinsModel" "tune" "[I", Cond.methodLink RX9 150 yX9_grains, Cond.instanceMethod yX9_grains, Cond.selects RX9 yX9_grains yX9_grains, Cond.code yX9_grains cX9_grains 8 (some .int), Cond.methodLink RX9 131 yX9_ofAll, Cond.instanceMethod yX9_ofAll, Cond.selects RX9 yX9_ofAll yX9_ofAll, Cond.code yX9_ofAll cX9_ofAll 4 (some .int), Cond.fieldLink RX9 111 "LightCoinsModel" "people" "I", Cond.fieldLink RX9 26 "LightCoinsModel" "purse" "[I", Cond.methodLink RX9 169 yX9_taleUp, Cond.instanceMethod yX9_taleUp, Cond.selects RX9 yX9_taleUp yX9_taleUp, Cond.code yX9_taleUp cX9_taleUp 3 (some .int)]
def wsX9_end_r2 : List Cond := [Cond.methodLink RX9 185 yX9_isDown, Cond.instanceMethod yX9_isDown, Cond.selects RX9 yX9_isDown yX9_isDown, Cond.code yX9_isDown cX9_isDown 3 (some .boolean)]
def wsX9_end : List Cond := .code yX9_end cX9_end 5 (some .int) :: ((wsX9_end_r1 ++ wsX9_end_r2) ++ wsX90)
def wsX9_goes_r1 : List Cond := [Cond.methodLink RX9 160 yX9_isDay, Cond.instanceMethod yX9_isDay, Cond.selects RX9 yX9_isDay yX9_isDay, Cond.initialized RX9, Cond.code yX9_isDay cX9_isDay 3 (some .boolean), Cond.constantLong RX9 158 (30), Cond.methodLink RX9 60 yX9_in, Cond.static yX9_in, Cond.code yX9_in cX9_in 6 (some .boolean), Cond.methodLink RX9 164 yX9_allCoins, Cond.instanceMethod yX9_allCoins, Cond.selects RX9 yX9_allCoins yX9_allCoins, Cond.code yX9_allCoins cX9_allCoins 3 (some .int), Cond.methodLink RX9 131 yX9_ofAll, Cond.instanceMethod yX9_ofAll, Cond.selects RX9 yX9_ofAll yX9_ofAll, Cond.code yX9_ofAll cX9_ofAll 4 (some .int), Cond.fieldLink RX9 111 "LightCoinsModel" "people" "I", Cond.fieldLink RX9 26 "LightCoinsModel" "purse" "[I", Cond.methodLink RX9 188 yX9_end, Cond.instanceMethod yX9_end, Cond.selects RX9 yX9_end yX9_end, Cond.code yX9_end cX9_end 5 (some .int), Cond.methodLink RX9 182 yX9_isUp]
def wsX9_goes_r2 : List Cond := [Cond.instanceMethod yX9_isUp, Cond.selects RX9 yX9_isUp yX9_isUp, Cond.code yX9_isUp cX9_isUp 3 (some .boolean), Cond.methodLink RX9 173 yX9_lookUp, Cond.instanceMethod yX9_lookUp, Cond.selects RX9 yX9_lookUp yX9_lookUp, Cond.code yX9_lookUp cX9_lookUp 2 (some .int), Cond.fieldLink RX9 39 "LightCoinsModel" "tune" "[I", Cond.methodLink RX9 150 yX9_grains, Cond.instanceMethod yX9_grains, Cond.selects RX9 yX9_grains yX9_grains, Cond.code yX9_grains cX9_grains 8 (some .int), Cond.methodLink RX9 169 yX9_taleUp, Cond.instanceMethod yX9_taleUp, Cond.selects RX9 yX9_taleUp yX9_taleUp, Cond.code yX9_taleUp cX9_taleUp 3 (some .int), Cond.methodLink RX9 185 yX9_isDown, Cond.instanceMethod yX9_isDown, Cond.selects RX9 yX9_isDown yX9_isDown, Cond.code yX9_isDown cX9_isDown 3 (some .boolean)]
def wsX9_goes : List Cond := .code yX9_goes cX9_goes 3 (some .int) :: ((wsX9_goes_r1 ++ wsX9_goes_r2) ++ wsX90)
def wsX9_tip_r1 : List Cond := [Cond.constantLong RX9 158 (30), Cond.methodLink RX9 60 yX9_in, Cond.static yX9_in, Cond.initialized RX9, Cond.code yX9_in cX9_in 6 (some .boolean), Cond.methodLink RX9 164 yX9_allCoins, Cond.instanceMethod yX9_allCoins, Cond.selects RX9 yX9_allCoins yX9_allCoins, Cond.code yX9_allCoins cX9_allCoins 3 (some .int), Cond.methodLink RX9 131 yX9_ofAll, Cond.instanceMethod yX9_ofAll, Cond.selects RX9 yX9_ofAll yX9_ofAll, Cond.code yX9_ofAll cX9_ofAll 4 (some .int), Cond.fieldLink RX9 111 "LightCoinsModel" "people" "I", Cond.fieldLink RX9 26 "LightCoinsModel" "purse" "[I", Cond.methodLink RX9 188 yX9_end, Cond.instanceMethod yX9_end, Cond.selects RX9 yX9_end yX9_end, Cond.code yX9_end cX9_end 5 (some .int), Cond.methodLink RX9 182 yX9_isUp, Cond.instanceMethod yX9_isUp, Cond.selects RX9 yX9_isUp yX9_isUp, Cond.code yX9_isUp cX9_isUp 3 (some .boolean), Cond.methodLink RX9 173 yX9_lookUp]
def wsX9_tip_r2 : List Cond := [Cond.instanceMethod yX9_lookUp, Cond.selects RX9 yX9_lookUp yX9_lookUp, Cond.code yX9_lookUp cX9_lookUp 2 (some .int), Cond.fieldLink RX9 39 "LightCoinsModel" "tune" "[I", Cond.methodLink RX9 150 yX9_grains, Cond.instanceMethod yX9_grains, Cond.selects RX9 yX9_grains yX9_grains, Cond.code yX9_grains cX9_grains 8 (some .int), Cond.methodLink RX9 169 yX9_taleUp, Cond.instanceMethod yX9_taleUp, Cond.selects RX9 yX9_taleUp yX9_taleUp, Cond.code yX9_taleUp cX9_taleUp 3 (some .int), Cond.methodLink RX9 185 yX9_isDown, Cond.instanceMethod yX9_isDown, Cond.selects RX9 yX9_isDown yX9_isDown, Cond.code yX9_isDown cX9_isDown 3 (some .boolean)]
def wsX9_tip : List Cond := .code yX9_tip cX9_tip 3 (some .int) :: ((wsX9_tip_r1 ++ wsX9_tip_r2) ++ wsX90)
def wsX9_out : List Cond := .code yX9_out cX9_out 8 (some .int) :: ([.methodLink RX9 160 yX9_isDay, .instanceMethod yX9_isDay, .selects RX9 yX9_isDay yX9_isDay, .initialized RX9, .code yX9_isDay cX9_isDay 3 (some .boolean), .constantLong RX9 158 (30), .methodLink RX9 60 yX9_in, .static yX9_in, .code yX9_in cX9_in 6 (some .boolean), .methodLink RX9 164 yX9_allCoins, .instanceMethod yX9_allCoins, .selects RX9 yX9_allCoins yX9_allCoins, .code yX9_allCoins cX9_allCoins 3 (some .int), .methodLink RX9 131 yX9_ofAll, .instanceMethod yX9_ofAll, .selects RX9 yX9_ofAll yX9_ofAll, .code yX9_ofAll cX9_ofAll 4 (some .int), .fieldLink RX9 111 "LightCoinsModel" "people" "I", .fieldLink RX9 26 "LightCoinsModel" "purse" "[I"] ++ wsX90)
def wsX9_asIs : List Cond := .code yX9_asIs cX9_asIs 2 (some .int) :: ([.fieldLink RX9 39 "LightCoinsModel" "tune" "[I"] ++ wsX90)
def wsX9_findWorth : List Cond := .code yX9_findWorth cX9_findWorth 8 none :: ([.fieldLink RX9 45 "LightCoinsModel" "worth" "[J", .fieldLink RX9 49 "LightCoinsModel" "isClipped" "[Z", .constantLong RX9 176 (10), .fieldLink RX9 39 "LightCoinsModel" "tune" "[I", .methodLink RX9 191 yX9_asIs, .instanceMethod yX9_asIs, .selects RX9 yX9_asIs yX9_asIs, .initialized RX9, .code yX9_asIs cX9_asIs 2 (some .int)] ++ wsX90)
def wsX9_clip_r1 : List Cond := [Cond.constantLong RX9 125 (9), Cond.constantLong RX9 194 (2), Cond.constantLong RX9 167 (-1000000000000000000), Cond.fieldLink RX9 49 "LightCoinsModel" "isClipped" "[Z", Cond.constantLong RX9 176 (10), Cond.fieldLink RX9 45 "LightCoinsModel" "worth" "[J", Cond.methodLink RX9 60 yX9_in, Cond.static yX9_in, Cond.initialized RX9, Cond.code yX9_in cX9_in 6 (some .boolean), Cond.methodLink RX9 196 yX9_findWorth, Cond.instanceMethod yX9_findWorth, Cond.selects RX9 yX9_findWorth yX9_findWorth, Cond.code yX9_findWorth cX9_findWorth 8 none, Cond.fieldLink RX9 39 "LightCoinsModel" "tune" "[I", Cond.methodLink RX9 191 yX9_asIs, Cond.instanceMethod yX9_asIs, Cond.selects RX9 yX9_asIs yX9_asIs, Cond.code yX9_asIs cX9_asIs 2 (some .int), Cond.methodLink RX9 178 yX9_inLeast, Cond.static yX9_inLeast, Cond.code yX9_inLeast cX9_inLeast 7 (some .long), Cond.methodLink RX9 154 yX9_common, Cond.static yX9_common]
def wsX9_clip_r2 : List Cond := [Cond.code yX9_common cX9_common 10 (some .long)]
def wsX9_clip : List Cond := .code yX9_clip cX9_clip 6 (some .long) :: ((wsX9_clip_r1 ++ wsX9_clip_r2) ++ wsX90)
def wsX9_wear : List Cond := .code yX9_wear cX9_wear 6 none :: ([.fieldLink RX9 26 "LightCoinsModel" "purse" "[I"] ++ wsX90)
def wsX9_year : List Cond := .code yX9_year cX9_year 3 (some .int) :: ([.constantLong RX9 199 (50), .fieldLink RX9 32 "LightCoinsModel" "years" "[I", .fieldLink RX9 39 "LightCoinsModel" "tune" "[I", .methodLink RX9 60 yX9_in, .static yX9_in, .initialized RX9, .code yX9_in cX9_in 6 (some .boolean), .methodLink RX9 201 yX9_wear, .instanceMethod yX9_wear, .selects RX9 yX9_wear yX9_wear, .code yX9_wear cX9_wear 6 none, .fieldLink RX9 26 "LightCoinsModel" "purse" "[I"] ++ wsX90)
def wsX9_there : List Cond := .code yX9_there cX9_there 3 (some .int) :: ([.methodLink RX9 131 yX9_ofAll, .instanceMethod yX9_ofAll, .selects RX9 yX9_ofAll yX9_ofAll, .initialized RX9, .code yX9_ofAll cX9_ofAll 4 (some .int), .fieldLink RX9 111 "LightCoinsModel" "people" "I", .fieldLink RX9 26 "LightCoinsModel" "purse" "[I"] ++ wsX90)
def wsX9_mean_r1 : List Cond := [Cond.constantLong RX9 167 (-1000000000000000000), Cond.methodLink RX9 60 yX9_in, Cond.static yX9_in, Cond.initialized RX9, Cond.code yX9_in cX9_in 6 (some .boolean), Cond.methodLink RX9 164 yX9_allCoins, Cond.instanceMethod yX9_allCoins, Cond.selects RX9 yX9_allCoins yX9_allCoins, Cond.code yX9_allCoins cX9_allCoins 3 (some .int), Cond.methodLink RX9 131 yX9_ofAll, Cond.instanceMethod yX9_ofAll, Cond.selects RX9 yX9_ofAll yX9_ofAll, Cond.code yX9_ofAll cX9_ofAll 4 (some .int), Cond.fieldLink RX9 111 "LightCoinsModel" "people" "I", Cond.fieldLink RX9 26 "LightCoinsModel" "purse" "[I", Cond.methodLink RX9 205 yX9_there, Cond.instanceMethod yX9_there, Cond.selects RX9 yX9_there yX9_there, Cond.code yX9_there cX9_there 3 (some .int), Cond.methodLink RX9 178 yX9_inLeast, Cond.static yX9_inLeast, Cond.code yX9_inLeast cX9_inLeast 7 (some .long), Cond.methodLink RX9 154 yX9_common, Cond.static yX9_common]
def wsX9_mean_r2 : List Cond := [Cond.code yX9_common cX9_common 10 (some .long)]
def wsX9_mean : List Cond := .code yX9_mean cX9_mean 2 (some .long) :: ((wsX9_mean_r1 ++ wsX9_mean_r2) ++ wsX90)
def wsX9_shabby_r1 : List Cond := [Cond.constantLong RX9 208 (100), Cond.fieldLink RX9 52 "LightCoinsModel" "aside" "[I", Cond.fieldLink RX9 26 "LightCoinsModel" "purse" "[I", Cond.fieldLink RX9 32 "LightCoinsModel" "years" "[I", Cond.fieldLink RX9 39 "LightCoinsModel" "tune" "[I", Cond.methodLink RX9 60 yX9_in, Cond.static yX9_in, Cond.initialized RX9, Cond.code yX9_in cX9_in 6 (some .boolean), Cond.methodLink RX9 164 yX9_allCoins, Cond.instanceMethod yX9_allCoins, Cond.selects RX9 yX9_allCoins yX9_allCoins, Cond.code yX9_allCoins cX9_allCoins 3 (some .int), Cond.methodLink RX9 131 yX9_ofAll, Cond.instanceMethod yX9_ofAll, Cond.selects RX9 yX9_ofAll yX9_ofAll, Cond.code yX9_ofAll cX9_ofAll 4 (some .int), Cond.fieldLink RX9 111 "LightCoinsModel" "people" "I", Cond.methodLink RX9 201 yX9_wear, Cond.instanceMethod yX9_wear, Cond.selects RX9 yX9_wear yX9_wear, Cond.code yX9_wear cX9_wear 6 none, Cond.methodLink RX9 205 yX9_there, Cond.instanceMethod yX9_there]
def wsX9_shabby_r2 : List Cond := [Cond.selects RX9 yX9_there yX9_there, Cond.code yX9_there cX9_there 3 (some .int)]
def wsX9_shabby : List Cond := .code yX9_shabby cX9_shabby 4 (some .int) :: ((wsX9_shabby_r1 ++ wsX9_shabby_r2) ++ wsX90)
def wsX9_heldAt : List Cond := .code yX9_heldAt cX9_heldAt 8 (some .int) :: ([.fieldLink RX9 26 "LightCoinsModel" "purse" "[I", .methodLink RX9 191 yX9_asIs, .instanceMethod yX9_asIs, .selects RX9 yX9_asIs yX9_asIs, .initialized RX9, .code yX9_asIs cX9_asIs 2 (some .int), .fieldLink RX9 39 "LightCoinsModel" "tune" "[I"] ++ wsX90)
def wsX9_changer : List Cond := .code yX9_changer cX9_changer 6 (some .int) :: ([.constantLong RX9 127 (99), .methodLink RX9 117 yX9_isPerson, .instanceMethod yX9_isPerson, .selects RX9 yX9_isPerson yX9_isPerson, .initialized RX9, .code yX9_isPerson cX9_isPerson 2 (some .boolean), .fieldLink RX9 111 "LightCoinsModel" "people" "I", .methodLink RX9 60 yX9_in, .static yX9_in, .code yX9_in cX9_in 6 (some .boolean), .methodLink RX9 210 yX9_heldAt, .instanceMethod yX9_heldAt, .selects RX9 yX9_heldAt yX9_heldAt, .code yX9_heldAt cX9_heldAt 8 (some .int), .fieldLink RX9 26 "LightCoinsModel" "purse" "[I", .methodLink RX9 191 yX9_asIs, .instanceMethod yX9_asIs, .selects RX9 yX9_asIs yX9_asIs, .code yX9_asIs cX9_asIs 2 (some .int), .fieldLink RX9 39 "LightCoinsModel" "tune" "[I"] ++ wsX90)
def wsX9_law : List Cond := .code yX9_law cX9_law 5 (some .int) :: ([.constantLong RX9 58 (8), .constantLong RX9 194 (2), .constantLong RX9 127 (99), .fieldLink RX9 55 "LightCoinsModel" "law" "[I", .methodLink RX9 60 yX9_in, .static yX9_in, .initialized RX9, .code yX9_in cX9_in 6 (some .boolean)] ++ wsX90)
def wsX9_sumOf : List Cond := .code yX9_sumOf cX9_sumOf 5 (some .int) :: ([.fieldLink RX9 55 "LightCoinsModel" "law" "[I"] ++ wsX90)
def wsX9_cheapest : List Cond := .code yX9_cheapest cX9_cheapest 7 (some .int) :: ([.constantLong RX9 214 (999), .fieldLink RX9 39 "LightCoinsModel" "tune" "[I", .methodLink RX9 60 yX9_in, .static yX9_in, .initialized RX9, .code yX9_in cX9_in 6 (some .boolean), .methodLink RX9 216 yX9_sumOf, .instanceMethod yX9_sumOf, .selects RX9 yX9_sumOf yX9_sumOf, .code yX9_sumOf cX9_sumOf 5 (some .int), .fieldLink RX9 55 "LightCoinsModel" "law" "[I"] ++ wsX90)
def wsX9_bitsIn : List Cond := .code yX9_bitsIn cX9_bitsIn 3 (some .int) :: ([])
def wsX9_spread : List Cond := .code yX9_spread cX9_spread 5 (some .int) :: ([.fieldLink RX9 111 "LightCoinsModel" "people" "I", .fieldLink RX9 219 "LightCoinsModel" "rounds" "I", .fieldLink RX9 23 "LightCoinsModel" "others" "[I", .methodLink RX9 222 yX9_bitsIn, .static yX9_bitsIn, .initialized RX9, .code yX9_bitsIn cX9_bitsIn 3 (some .int)] ++ wsX90)
def wsX9_first : List Cond := .code yX9_first cX9_first 4 (some .int) :: ([.constantLong RX9 68 (255), .fieldLink RX9 219 "LightCoinsModel" "rounds" "I", .methodLink RX9 60 yX9_in, .static yX9_in, .initialized RX9, .code yX9_in cX9_in 6 (some .boolean), .methodLink RX9 225 yX9_spread, .instanceMethod yX9_spread, .selects RX9 yX9_spread yX9_spread, .code yX9_spread cX9_spread 5 (some .int), .fieldLink RX9 111 "LightCoinsModel" "people" "I", .fieldLink RX9 23 "LightCoinsModel" "others" "[I", .methodLink RX9 222 yX9_bitsIn, .static yX9_bitsIn, .code yX9_bitsIn cX9_bitsIn 3 (some .int)] ++ wsX90)
def wsX9_seeds : List Cond := .code yX9_seeds cX9_seeds 5 (some .int) :: ([.fieldLink RX9 111 "LightCoinsModel" "people" "I", .methodLink RX9 60 yX9_in, .static yX9_in, .initialized RX9, .code yX9_in cX9_in 6 (some .boolean), .methodLink RX9 222 yX9_bitsIn, .static yX9_bitsIn, .code yX9_bitsIn cX9_bitsIn 3 (some .int), .methodLink RX9 225 yX9_spread, .instanceMethod yX9_spread, .selects RX9 yX9_spread yX9_spread, .code yX9_spread cX9_spread 5 (some .int), .fieldLink RX9 219 "LightCoinsModel" "rounds" "I", .fieldLink RX9 23 "LightCoinsModel" "others" "[I"] ++ wsX90)
def wsX9_labour_r1 : List Cond := [Cond.constantLong RX9 228 (6), Cond.fieldLink RX9 39 "LightCoinsModel" "tune" "[I", Cond.fieldLink RX9 26 "LightCoinsModel" "purse" "[I", Cond.fieldLink RX9 230 "LightCoinsModel" "trace" "J", Cond.constantLong RX9 234 (11), Cond.constantLong RX9 236 (101), Cond.constantLong RX9 238 (1101), Cond.fieldLink RX9 17 "LightCoinsModel" "chance" "[I", Cond.constantLong RX9 240 (10001), Cond.constantLong RX9 242 (110001), Cond.constantLong RX9 244 (1000001), Cond.fieldLink RX9 23 "LightCoinsModel" "others" "[I", Cond.methodLink RX9 60 yX9_in, Cond.static yX9_in, Cond.initialized RX9, Cond.code yX9_in cX9_in 6 (some .boolean), Cond.methodLink RX9 117 yX9_isPerson, Cond.instanceMethod yX9_isPerson, Cond.selects RX9 yX9_isPerson yX9_isPerson, Cond.code yX9_isPerson cX9_isPerson 2 (some .boolean), Cond.fieldLink RX9 111 "LightCoinsModel" "people" "I", Cond.methodLink RX9 121 yX9_coinsOf, Cond.instanceMethod yX9_coinsOf, Cond.selects RX9 yX9_coinsOf yX9_coinsOf]
def wsX9_labour_r2 : List Cond := [Cond.code yX9_coinsOf cX9_coinsOf 4 (some .int)]
def wsX9_labour : List Cond := .code yX9_labour cX9_labour 7 (some .int) :: ((wsX9_labour_r1 ++ wsX9_labour_r2) ++ wsX90)
def wsX9_copy : List Cond := .code yX9_copy cX9_copy 4 none :: ([.fieldLink RX9 26 "LightCoinsModel" "purse" "[I", .fieldLink RX9 29 "LightCoinsModel" "lots" "[I", .fieldLink RX9 32 "LightCoinsModel" "years" "[I"] ++ wsX90)
def wsX9_keep : List Cond := .code yX9_keep cX9_keep 2 (some .int) :: ([.fieldLink RX9 35 "LightCoinsModel" "isKept" "[Z", .methodLink RX9 60 yX9_in, .static yX9_in, .initialized RX9, .code yX9_in cX9_in 6 (some .boolean), .methodLink RX9 246 yX9_copy, .instanceMethod yX9_copy, .selects RX9 yX9_copy yX9_copy, .code yX9_copy cX9_copy 4 none, .fieldLink RX9 26 "LightCoinsModel" "purse" "[I", .fieldLink RX9 29 "LightCoinsModel" "lots" "[I", .fieldLink RX9 32 "LightCoinsModel" "years" "[I", .methodLink RX9 164 yX9_allCoins, .instanceMethod yX9_allCoins, .selects RX9 yX9_allCoins yX9_allCoins, .code yX9_allCoins cX9_allCoins 3 (some .int), .methodLink RX9 131 yX9_ofAll, .instanceMethod yX9_ofAll, .selects RX9 yX9_ofAll yX9_ofAll, .code yX9_ofAll cX9_ofAll 4 (some .int), .fieldLink RX9 111 "LightCoinsModel" "people" "I"] ++ wsX90)
def wsX9_back : List Cond := .code yX9_back cX9_back 2 (some .int) :: ([.fieldLink RX9 35 "LightCoinsModel" "isKept" "[Z", .methodLink RX9 60 yX9_in, .static yX9_in, .initialized RX9, .code yX9_in cX9_in 6 (some .boolean), .methodLink RX9 246 yX9_copy, .instanceMethod yX9_copy, .selects RX9 yX9_copy yX9_copy, .code yX9_copy cX9_copy 4 none, .fieldLink RX9 26 "LightCoinsModel" "purse" "[I", .fieldLink RX9 29 "LightCoinsModel" "lots" "[I", .fieldLink RX9 32 "LightCoinsModel" "years" "[I", .methodLink RX9 164 yX9_allCoins, .instanceMethod yX9_allCoins, .selects RX9 yX9_allCoins yX9_allCoins, .code yX9_allCoins cX9_allCoins 3 (some .int), .methodLink RX9 131 yX9_ofAll, .instanceMethod yX9_ofAll, .selects RX9 yX9_ofAll yX9_ofAll, .code yX9_ofAll cX9_ofAll 4 (some .int), .fieldLink RX9 111 "LightCoinsModel" "people" "I"] ++ wsX90)
def wsX9_count : List Cond := .code yX9_count cX9_count 2 (some .int) :: ([.fieldLink RX9 111 "LightCoinsModel" "people" "I", .fieldLink RX9 32 "LightCoinsModel" "years" "[I", .fieldLink RX9 64 "LightCoinsModel" "typed" "I", .fieldLink RX9 114 "LightCoinsModel" "meetings" "I", .methodLink RX9 164 yX9_allCoins, .instanceMethod yX9_allCoins, .selects RX9 yX9_allCoins yX9_allCoins, .initialized RX9, .code yX9_allCoins cX9_allCoins 3 (some .int), .methodLink RX9 131 yX9_ofAll, .instanceMethod yX9_ofAll, .selects RX9 yX9_ofAll yX9_ofAll, .code yX9_ofAll cX9_ofAll 4 (some .int), .fieldLink RX9 26 "LightCoinsModel" "purse" "[I", .methodLink RX9 205 yX9_there, .instanceMethod yX9_there, .selects RX9 yX9_there yX9_there, .code yX9_there cX9_there 3 (some .int)] ++ wsX90)
def wsX9_trace : List Cond := .code yX9_trace cX9_trace 1 (some .long) :: ([.fieldLink RX9 230 "LightCoinsModel" "trace" "J"] ++ wsX90)
def wsJ9_abs_067f4 : List Cond := .code yJ9_abs_067f4 cJ9_abs_067f4 2 (some .long) :: ([])
def wsJ9_max_f86c9 : List Cond := .code yJ9_max_f86c9 cJ9_max_f86c9 4 (some .long) :: ([])
def wsJ9_min_7cf53 : List Cond := .code yJ9_min_7cf53 cJ9_min_7cf53 2 (some .int) :: ([])
set_option maxRecDepth 20000 in
abbrev vwCl : List vw_C := [(RX0, TX0, 5), (RX1, TX1, 4), (RX2, TX2, 1), (RX3, TX3, 5), (RX4, TX4, 1), (RX5, TX5, 6), (RX6, TX6, 5), (RX7, TX7, 1), (RX8, TX8, 13), (RX9, TX9, 25)]
end
section
/-! CORE. A world: the list 'as' of the addresses that were made since the law began, and a function h from addresses to cells. -/
abbrev aH : Type := Nat → va_E
abbrev gT : Type := va_G × (Nat → ClassId) × Nat × (Nat → Nat) × Nat × (Nat → Int32)
abbrev mT : Type := MethodName × String × ByteArray × Nat × Option FieldType × List Cond
def gB (Γ : gT) : Nat := Γ.2.2.1
def gX (Γ : gT) : Nat → Nat := Γ.2.2.2.1
def gA (Γ : gT) : Nat → Prop := fun q => gB Γ ≤ q
def wW (as : List Nat) (h : aH) : va_W := as.map (fun a => (a, h a))
def asOK (Γ : gT) (as : List Nat) : Prop := as.Nodup ∧ ∀ a ∈ as, gB Γ ≤ a
def hset (h : aH) (k : Nat) (e : va_E) : aH := fun j => if j = k then e else h j
def hat (as : List Nat) (h : aH) (a : Nat) (e : va_E) : Prop := a ∈ as ∧ h a = e
theorem hset_eq {h : aH} {k : Nat} {e : va_E} : hset h k e k = e := if_pos rfl
theorem hset_ne {h : aH} {k j : Nat} {e : va_E} (hj : j ≠ k) : hset h k e j = h j := if_neg hj
theorem hset_hset {h : aH} {k : Nat} {e e' : va_E} : hset (hset h k e) k e' = hset h k e' := by
  funext j
  by_cases hj : j = k
  · rw [hj, hset_eq, hset_eq]
  · rw [hset_ne hj, hset_ne hj, hset_ne hj]
theorem hset_same {h : aH} {k : Nat} {e : va_E} (he : h k = e) : hset h k e = h := by
  funext j
  by_cases hj : j = k
  · rw [hj, hset_eq, he]
  · rw [hset_ne hj]
theorem hset_comm {h : aH} {k j : Nat} {e e' : va_E} (hj : j ≠ k) : hset (hset h k e) j e' = hset (hset h j e') k e := by
  funext i
  by_cases h1 : i = j
  · rw [h1, hset_eq, hset_ne hj, hset_eq]
  · by_cases h2 : i = k
    · rw [h2, hset_eq, hset_ne (fun q => hj q.symm), hset_eq]
    · rw [hset_ne h1, hset_ne h2, hset_ne h2, hset_ne h1]
theorem hat_set {as : List Nat} {h : aH} {a : Nat} {e e' : va_E} (q : hat as h a e) : hat as (hset h a e') a e' := ⟨q.1, hset_eq⟩
theorem hat_ne {as : List Nat} {h : aH} {a b : Nat} {e e' : va_E} (q : hat as h a e) (hb : a ≠ b) : hat as (hset h b e') a e := ⟨q.1, (hset_ne hb).trans q.2⟩
theorem hat_un {as : List Nat} {h : aH} {a b : Nat} {e e' : va_E} (q : hat as h a e) (q' : hat as h b e') (he : e ≠ e') : a ≠ b := fun z => he (by rw [← q.2, ← q'.2, z])
theorem wW_get {as : List Nat} {h : aH} {i a : Nat} (hi : as[i]? = some a) : (wW as h)[i]? = some (a, h a) := by simp [wW, hi]
theorem wW_at {as : List Nat} {h : aH} {a : Nat} {e : va_E} (ha : hat as h a e) : ∃ i : Nat, as[i]? = some a ∧ (wW as h)[i]? = some (a, e) := by
  obtain ⟨i, hi⟩ := List.getElem?_of_mem ha.1
  exact ⟨i, hi, by rw [wW_get hi, ha.2]⟩
theorem wW_some {as : List Nat} {h : aH} {i : Nat} {q : Nat × va_E} (hq : (wW as h)[i]? = some q) : ∃ a, as[i]? = some a ∧ q = (a, h a) := by
  unfold wW at hq
  rw [List.getElem?_map] at hq
  cases ha : as[i]? with
  | none => rw [ha] at hq; cases hq
  | some a => rw [ha] at hq; cases hq; exact ⟨a, rfl, rfl⟩
theorem nodup_ix {as : List Nat} (hn : as.Nodup) {i j a : Nat} (hi : as[i]? = some a) (hj : as[j]? = some a) : i = j := by
  exact (List.getElem?_inj (List.getElem?_eq_some_iff.mp hi).1 hn).mp (hi.trans hj.symm)
theorem wW_set {as : List Nat} {h : aH} {i a : Nat} {e : va_E} (hn : as.Nodup) (hi : as[i]? = some a) : (wW as h).set i (a, e) = wW as (hset h a e) := by
  refine List.ext_getElem? fun j => ?_
  by_cases hj : j = i
  · subst hj
    rw [List.getElem?_set_self (by unfold wW; rw [List.length_map]; exact (List.getElem?_eq_some_iff.mp hi).1), wW_get hi, hset_eq]
  · rw [List.getElem?_set_ne (fun q => hj q.symm)]
    unfold wW
    rw [List.getElem?_map, List.getElem?_map]
    cases hb : as[j]? with
    | none => rfl
    | some b =>
      have hne : b ≠ a := fun z => hj (nodup_ix hn (z ▸ hb) hi)
      simp [hset_ne hne]
theorem wW_push {as : List Nat} {h : aH} {q : Nat} {e : va_E} (hq : q ∉ as) : wW as h ++ [(q, e)] = wW (as ++ [q]) (hset h q e) := by
  unfold wW
  rw [List.map_append]
  congr 1
  · refine List.map_congr_left fun k hk => ?_
    rw [hset_ne (fun z => hq (by rw [← z]; exact hk))]
  · simp [hset_eq]
theorem wW_D {Γ : gT} {as : List Nat} {h : aH} (ho : asOK Γ as) : va_D (gA Γ) (wW as h) := by
  refine ⟨fun i j p q hi hj e => ?_, fun k q hk => ?_⟩
  · obtain ⟨a, h1, rfl⟩ := wW_some hi
    obtain ⟨b, h2, rfl⟩ := wW_some hj
    have e : a = b := e
    exact nodup_ix ho.1 h1 (e ▸ h2)
  · obtain ⟨a, h1, rfl⟩ := wW_some hk
    exact ho.2 a (List.mem_of_getElem? h1)
theorem asOK_push {Γ : gT} {as : List Nat} {h : aH} {q : Nat} {e : va_E} (ho : asOK Γ as) (hD : va_D (gA Γ) (wW as h ++ [(q, e)])) : q ∉ as ∧ asOK Γ (as ++ [q]) := by
  have hl : (wW as h ++ [(q, e)])[as.length]? = some (q, e) := by
    rw [List.getElem?_append_right (by simp [wW])]
    simp [wW]
  have hq : q ∉ as := by
    intro hm
    obtain ⟨i, hi⟩ := List.getElem?_of_mem hm
    have hlt := (List.getElem?_eq_some_iff.mp hi).1
    have h1 : (wW as h ++ [(q, e)])[i]? = some (q, h q) := by
      rw [List.getElem?_append_left (by simp [wW]; exact hlt), wW_get hi]
    have := hD.1 _ _ _ _ h1 hl rfl
    omega
  refine ⟨hq, ?_, fun a ha => ?_⟩
  · rw [List.nodup_append]
    exact ⟨ho.1, by simp, fun a ha b hb => by rw [List.mem_singleton] at hb; subst hb; exact fun z => hq (z ▸ ha)⟩
  · rcases List.mem_append.mp ha with h1 | h1
    · exact ho.2 a h1
    · rw [List.mem_singleton] at h1
      subst h1
      exact hD.2 _ _ hl
def tysG (Γ : gT) : List (ClassId × FieldType) := [(Γ.2.1 0, .byte), (Γ.2.1 1, .int), (Γ.2.1 2, .long), (Γ.2.1 3, .boolean), (Γ.2.1 4, .object "LightCoins$Image")]
/-! cells by their kind -/
abbrev aB (Γ : gT) (N : Nat) (f : Nat → Int32) : va_E := .inl (Γ.2.1 0, N, .inl f)
abbrev aI (Γ : gT) (N : Nat) (f : Nat → Int32) : va_E := .inl (Γ.2.1 1, N, .inl f)
abbrev aJ (Γ : gT) (N : Nat) (f : Nat → Int64) : va_E := .inl (Γ.2.1 2, N, .inr (.inl f))
abbrev aZ (Γ : gT) (N : Nat) (f : Nat → Int32) : va_E := .inl (Γ.2.1 3, N, .inl f)
abbrev aO (Γ : gT) (N : Nat) (f : Nat → Option Nat) : va_E := .inl (Γ.2.1 4, N, .inr (.inr (.inr (.inr f))))
abbrev ob (ci : Nat) (fs : List Value) : va_E := .inr (ci, fs)
/-! what was there before the law -/
def tLeast (j : Nat) : Value := .int (([0, 0, 0, 0, 0, 1] : List Int32).getD j 0)
def tMost (j : Nat) : Value := .int (([9, 99, 99, 10, 20, 99] : List Int32).getD j 0)
def sTx (i : Nat) : String := (["tale", "look", "some", "light", "heavy"] : List String).getD i ""
def sLen : List Nat := [4, 4, 4, 5, 5]
def sByt : List (List Int32) := [[116, 97, 108, 101], [108, 111, 111, 107], [115, 111, 109, 101], [108, 105, 103, 104, 116], [104, 101, 97, 118, 121]]
def sIdx (i : Nat) : Nat := ([78, 84, 86, 88, 90] : List Nat).getD i 0
def EXT (Γ : gT) (U : State) (H : Heap) : Prop :=
  va_T .int (gX Γ 1000) Γ.2.2.2.2.1 (fun j => .int (Γ.2.2.2.2.2 j)) (gA Γ) U H ∧
  va_Z "LightCoins$Tunes" "LEAST" "[I" (.ref (gX Γ 1001)) (gA Γ) U H ∧ va_T .int (gX Γ 1001) 6 tLeast (gA Γ) U H ∧
  va_Z "LightCoins$Tunes" "MOST" "[I" (.ref (gX Γ 1002)) (gA Γ) U H ∧ va_T .int (gX Γ 1002) 6 tMost (gA Γ) U H ∧
  va_Z "java/lang/String" "COMPACT_STRINGS" "Z" (.int 1) (gA Γ) U H ∧
  vk_S 5 sLen sByt (fun i => gX Γ (1010 + i)) (fun i => gX Γ (1020 + i)) (gA Γ) U H ∧
  va_Zq "jdk/internal/util/Preconditions" "SIOOBE_FORMATTER" "Ljava/util/function/BiFunction;" (gA Γ) U H ∧
  ∀ i, i < 5 → vk_R "LightCoins$Text" (sIdx i) (sTx i) (gX Γ (1010 + i)) U
theorem EXT.warm {Γ : gT} {s U : State} {H : Heap} (hW : s.WarmedH U.vm) (h : EXT Γ s H) : EXT Γ U H :=
  ⟨h.1.moved hW.alike, h.2.1.moved hW.alike, h.2.2.1.moved hW.alike, h.2.2.2.1.moved hW.alike, h.2.2.2.2.1.moved hW.alike, h.2.2.2.2.2.1.moved hW.alike, h.2.2.2.2.2.2.1.moved hW.alike, h.2.2.2.2.2.2.2.1.moved hW.alike, fun i hi => (h.2.2.2.2.2.2.2.2 i hi).warm hW⟩
theorem EXT.same {Γ : gT} {u U : State} {H : Heap} (hv : U.vm = u.vm) (h : EXT Γ u H) : EXT Γ U H := by
  have ha : u.vm.Alike U.vm := by rw [hv]; exact Vm.Alike.refl u.vm
  exact ⟨h.1.moved ha, h.2.1.moved ha, h.2.2.1.moved ha, h.2.2.2.1.moved ha, h.2.2.2.2.1.moved ha, h.2.2.2.2.2.1.moved ha, h.2.2.2.2.2.2.1.moved ha, h.2.2.2.2.2.2.2.1.moved ha, fun i hi => (h.2.2.2.2.2.2.2.2 i hi).same hv⟩
theorem EXT.kept {Γ : gT} {U : State} {H H1 : Heap} (h : EXT Γ U H) (hq : ∀ a : Nat, a < H.size → ¬ gA Γ a → H1[a]? = H[a]?) : EXT Γ U H1 :=
  ⟨h.1.kept hq, h.2.1.kept hq, h.2.2.1.kept hq, h.2.2.2.1.kept hq, h.2.2.2.2.1.kept hq, h.2.2.2.2.2.1.kept hq, h.2.2.2.2.2.2.1.kept hq, h.2.2.2.2.2.2.2.1.kept hq, h.2.2.2.2.2.2.2.2⟩
def Wd (Γ : gT) (as : List Nat) (h : aH) (U : State) : Prop := asOK Γ as ∧ va_P Γ.1 vwCl (wW as h) U.heap ∧ va_K Γ.1 vwCl (tysG Γ) U
def Ctx (Γ : gT) (μ : mT) (p : Program) (s : State) (m : MethodId) (args : Array Value) (meth : Method) (c : Code) : Prop :=
  p.tables.exec = Jvm.exec ∧ c.code = μ.2.2.1 ∧ meth.sig.returnType = μ.2.2.2.2.1 ∧ c.maxLocals = μ.2.2.2.1 ∧ s.vm.findClass μ.2.1 = some m.cls ∧ (∀ w ∈ μ.2.2.2.2.2, w.before args s = true) ∧ meth.locks = false ∧ meth.name = μ.1.name ∧ va_K Γ.1 vwCl (tysG Γ) s ∧ EXT Γ s s.heap ∧ gB Γ ≤ s.heap.size
abbrev zT : Type := List Frame → Array Value → State → State → Prop
def V (Γ : gT) (l : Launch) (μ : mT) (R : Room) (Z : zT) (kc ks pc : Nat) (ls : List (Nat × Value)) (st : List Value) (as : List Nat) (h : aH) : Prop :=
  ∀ (p : Program) (e : Env) (s : State) (m : MethodId) (args : Array Value) (below : List Frame) (meth : Method) (c : Code) (H : Heap) (locs : List Loc) (lsA : Array Slot),
    Ctx Γ μ p s m args meth c → asOK Γ as → va_P Γ.1 vwCl (wW as h) H → va_S (gA Γ) s.heap H locs → lv_has lsA μ.2.2.2.1 ls →
    W p l e R s m args below meth c H locs kc ks (Z below args s) (F0 m pc lsA st)
/-- what a method's end says: its answer and the world behind it are as Q has them -/
abbrev qT : Type := Option Value → List Nat → aH → Prop
def QcD (Γ : gT) (Q : qT) : Array Value → State → Outcome → State → Prop := fun _ st oc t => (∃ (r : Option Value) (as' : List Nat) (h' : aH), oc = .returned r ∧ Q r as' h' ∧ Wd Γ as' h' t) ∧ va_F (gA Γ) st t
def Zm (Γ : gT) (R : Room) (Q : qT) : zT := fun below args s => MQ below (QcD Γ Q) args s R.cells R.slots (gA Γ)
def PcD (Γ : gT) (av : List Value) (as : List Nat) (h : aH) : Array Value → State → Prop := va_Pc av (fun U => Wd Γ as h U ∧ EXT Γ U U.heap ∧ gB Γ ≤ U.heap.size)
/-- a method's contract -/
def Con (Γ : gT) (l : Launch) (μ : mT) (R : Room) (av : List Value) (as : List Nat) (h : aH) (Q : qT) : Prop := Met l μ.1 μ.2.2.2.2.2 R (PcD Γ av as h) (QcD Γ Q) R.cells R.slots (gA Γ)
abbrev qD (r0 : Option Value) (as0 : List Nat) (h0 : aH) : qT := fun r as' h' => r = r0 ∧ as' = as0 ∧ h' = h0
/-- a contract that names the answer and the world behind it; nothing is made -/
abbrev Det (Γ : gT) (l : Launch) (μ : mT) (R : Room) (av : List Value) (as : List Nat) (h : aH) (r0 : Option Value) (h0 : aH) : Prop := Con Γ l μ R av as h (qD r0 as h0)
theorem PcD_blind {Γ : gT} {av : List Value} {as : List Nat} {h : aH} : FrameBlind (PcD Γ av as h) := by
  intro a U g mk q
  obtain ⟨e, ⟨q1, q2, q3⟩, qE, qB⟩ := q
  exact ⟨e, ⟨q1, q2, va_K.moved (u := U) (U := U.calling g mk a) (Vm.Alike.refl U.vm) q3⟩, EXT.same (u := U) (U := U.calling g mk a) rfl qE, qB⟩
/-- a method's contract out of its walk -/
theorem Con.of {Γ : gT} {l : Launch} {μ : mT} {R : Room} {as : List Nat} {av : List Value} {h : aH} {Q : qT} {ws' : List Cond} (hy : plainName μ.1.cls = true) (hw : μ.2.2.2.2.2 = Cond.code μ.1 μ.2.2.1 μ.2.2.2.1 μ.2.2.2.2.1 :: ws') (ho : μ.2.1 = μ.1.cls) (hlen : (lg_sl av).length ≤ μ.2.2.2.1)
    (k : V Γ l μ R (Zm Γ R Q) 0 0 0 (lv_args 0 av) [] as h) : Con Γ l μ R av as h Q := by
  refine Met.ofW (cc := μ.2.2.1) (maxL := μ.2.2.2.1) (ret := μ.2.2.2.2.1) hy hw ?_
  intro p e s m args below meth c s₁ B hml hv
  obtain ⟨rfl, ⟨hn, hP, hK⟩, hE, hB⟩ := hv
  have hx := B.exec
  have hb := B.bytes
  have hr := B.returns
  have hts := atoms_spec (ws := μ.2.2.2.2.2) B.pre
  have hown : s.vm.findClass μ.1.cls = some m.cls := findClass_of_methodNamed B.named
  have hlocks := B.notSynchronized
  have hin : meth.name = μ.1.name := (name_of_methodNamed B.named B.method).1
  have hl := lv_entry av (n := μ.2.2.2.1) hlen
  rw [lg_entry_eq]
  exact k p e s m _ below meth c s.heap [] _ ⟨hx, hb, hr, hml, by rw [ho]; exact hown, hts, hlocks, hin, hK, hE, hB⟩ hn hP va_S.rf hl
theorem V.widen {Γ : gT} {l : Launch} {μ : mT} {R : Room} {Z : zT} {kc ks pc : Nat} {ls : List (Nat × Value)} {st : List Value} {as : List Nat} {h : aH} (kc' ks' : Nat) (h1 : kc ≤ kc') (h2 : ks ≤ ks') (k : V Γ l μ R Z kc' ks' pc ls st as h) : V Γ l μ R Z kc ks pc ls st as h := by
  intro p e s m args below meth c H locs lsA C hn hP hS hl
  exact W.widen h1 h2 (k p e s m args below meth c H locs lsA C hn hP hS hl)
/-! locals -/
def lk (i : Nat) : List (Nat × Value) → Option Value
  | [] => none
  | q :: r => if q.1 = i then some q.2 else lk i r
def lst (i : Nat) (v : Value) (ls : List (Nat × Value)) : List (Nat × Value) := (i, v) :: ls.filter (fun q => !(q.1 == i) && !(q.1 + 1 == i && q.2.category == 2))
def lst2 (i : Nat) (v : Value) (ls : List (Nat × Value)) : List (Nat × Value) := (i, v) :: ls.filter (fun q => !(q.1 == i) && (!(q.1 == i + 1) && !(q.1 + 1 == i && q.2.category == 2)))
theorem lk_mem {i : Nat} {v : Value} : ∀ {ls : List (Nat × Value)}, lk i ls = some v → (i, v) ∈ ls
  | [], h => by cases h
  | q :: r, h => by
    unfold lk at h
    by_cases hq : q.1 = i
    · rw [if_pos hq] at h
      cases h
      rw [← hq]
      exact List.mem_cons_self
    · rw [if_neg hq] at h
      exact List.mem_cons_of_mem _ (lk_mem h)
theorem lk_at {lsA : Array Slot} {nL i : Nat} {v : Value} {ls : List (Nat × Value)} (hl : lv_has lsA nL ls) (h : lk i ls = some v) : lsA[i]? = some (.val v) := hl.2.2 (i, v) (lk_mem h)
/-- the same locals in another order, or fewer -/
theorem V.locs {Γ : gT} {l : Launch} {μ : mT} {R : Room} {Z : zT} {kc ks pc : Nat} {ls : List (Nat × Value)} (ls' : List (Nat × Value)) {st : List Value} {as : List Nat} {h : aH} (hs : ∀ q ∈ ls', lk q.1 ls = some q.2) (k : V Γ l μ R Z kc ks pc ls' st as h) : V Γ l μ R Z kc ks pc ls st as h := by
  intro p e s m args below meth c H locs lsA C hn hP hS hl
  exact k p e s m args below meth c H locs lsA C hn hP hS ⟨hl.1, hl.2.1, fun q hq => lk_at hl (hs q hq)⟩

section Rules
variable {Γ : gT} {l : Launch} {μ : mT} {R : Room} {Z : zT} {kc ks pc : Nat} {ls : List (Nat × Value)} {st : List Value} {as : List Nat} {h : aH}
theorem q_iconst {z : Int} {v : Int32} (hd : decode μ.2.2.1 pc = .ok (.iconst z, 1)) (hv : Int32.ofInt z = v) (k : V Γ l μ R Z kc ks (pc + 1) ls (.int v :: st) as h) : V Γ l μ R Z kc ks pc ls (st) as h := by
  intro p e s m args below meth c H locs lsA C ho hP hS hl
  exact lv_iconst C.1 C.2.1 hd hv (k p e s m args below meth c H locs lsA C ho hP hS hl)
theorem q_bipush {z : Int} {v : Int32} (hd : decode μ.2.2.1 pc = .ok (.bipush z, 2)) (hv : (Int8.ofInt z).toInt32 = v) (k : V Γ l μ R Z kc ks (pc + 2) ls (.int v :: st) as h) : V Γ l μ R Z kc ks pc ls (st) as h := by
  intro p e s m args below meth c H locs lsA C ho hP hS hl
  exact lv_bipush C.1 C.2.1 hd hv (k p e s m args below meth c H locs lsA C ho hP hS hl)
theorem q_sipush {z : Int} {v : Int32} (hd : decode μ.2.2.1 pc = .ok (.sipush z, 3)) (hv : (Int16.ofInt z).toInt32 = v) (k : V Γ l μ R Z kc ks (pc + 3) ls (.int v :: st) as h) : V Γ l μ R Z kc ks pc ls (st) as h := by
  intro p e s m args below meth c H locs lsA C ho hP hS hl
  exact lv_sipush C.1 C.2.1 hd hv (k p e s m args below meth c H locs lsA C ho hP hS hl)
theorem q_lconst {z : Fin 2} {v : Int64} (hd : decode μ.2.2.1 pc = .ok (.lconst z, 1)) (hv : Int64.ofNat (z : Nat) = v) (k : V Γ l μ R Z kc ks (pc + 1) ls (.long v :: st) as h) : V Γ l μ R Z kc ks pc ls (st) as h := by
  intro p e s m args below meth c H locs lsA C ho hP hS hl
  exact lv_lconst C.1 C.2.1 hd hv (k p e s m args below meth c H locs lsA C ho hP hS hl)
theorem q_ldc {index : Nat} {v : Int32} (hd : decode μ.2.2.1 pc = .ok (.ldc index, 2)) (hw : Jvm.Cond.constant μ.2.1 index v ∈ μ.2.2.2.2.2) (k : V Γ l μ R Z kc ks (pc + 2) ls (.int v :: st) as h) : V Γ l μ R Z kc ks pc ls (st) as h := by
  intro p e s m args below meth c H locs lsA C ho hP hS hl
  exact lv_ldc C.1 C.2.1 C.2.2.2.2.1 (C.2.2.2.2.2.1 _ hw) hd (k p e s m args below meth c H locs lsA C ho hP hS hl)
theorem q_ldcw {index : Nat} {v : Int32} (hd : decode μ.2.2.1 pc = .ok (.ldc_w index, 3)) (hw : Jvm.Cond.constant μ.2.1 index v ∈ μ.2.2.2.2.2) (k : V Γ l μ R Z kc ks (pc + 3) ls (.int v :: st) as h) : V Γ l μ R Z kc ks pc ls (st) as h := by
  intro p e s m args below meth c H locs lsA C ho hP hS hl
  exact lv_ldcw C.1 C.2.1 C.2.2.2.2.1 (C.2.2.2.2.2.1 _ hw) hd (k p e s m args below meth c H locs lsA C ho hP hS hl)
theorem q_ldc2 {index : Nat} {v : Int64} (hd : decode μ.2.2.1 pc = .ok (.ldc2_w index, 3)) (hw : Jvm.Cond.constantLong μ.2.1 index v ∈ μ.2.2.2.2.2) (k : V Γ l μ R Z kc ks (pc + 3) ls (.long v :: st) as h) : V Γ l μ R Z kc ks pc ls (st) as h := by
  intro p e s m args below meth c H locs lsA C ho hP hS hl
  exact lv_ldc2 C.1 C.2.1 C.2.2.2.2.1 (C.2.2.2.2.2.1 _ hw) hd (k p e s m args below meth c H locs lsA C ho hP hS hl)
theorem q_iload_n {k0 : Fin 4} {i : Nat} {x : Int32} (hd : decode μ.2.2.1 pc = .ok (.iload_n k0, 1)) (hi : (k0 : Nat) = i) (hk : lk i ls = some (.int x)) (k : V Γ l μ R Z kc ks (pc + 1) ls (.int x :: st) as h) : V Γ l μ R Z kc ks pc ls (st) as h := by
  intro p e s m args below meth c H locs lsA C ho hP hS hl
  exact lv_iload_n C.1 C.2.1 hd hi (lk_at hl hk) (k p e s m args below meth c H locs lsA C ho hP hS hl)
theorem q_iload {i : Nat} {x : Int32} (hd : decode μ.2.2.1 pc = .ok (.iload i, 2)) (hk : lk i ls = some (.int x)) (k : V Γ l μ R Z kc ks (pc + 2) ls (.int x :: st) as h) : V Γ l μ R Z kc ks pc ls (st) as h := by
  intro p e s m args below meth c H locs lsA C ho hP hS hl
  exact lv_iload C.1 C.2.1 hd (lk_at hl hk) (k p e s m args below meth c H locs lsA C ho hP hS hl)
theorem q_lload_n {k0 : Fin 4} {i : Nat} {x : Int64} (hd : decode μ.2.2.1 pc = .ok (.lload_n k0, 1)) (hi : (k0 : Nat) = i) (hk : lk i ls = some (.long x)) (k : V Γ l μ R Z kc ks (pc + 1) ls (.long x :: st) as h) : V Γ l μ R Z kc ks pc ls (st) as h := by
  intro p e s m args below meth c H locs lsA C ho hP hS hl
  exact lv_lload_n C.1 C.2.1 hd hi (lk_at hl hk) (k p e s m args below meth c H locs lsA C ho hP hS hl)
theorem q_lload {i : Nat} {x : Int64} (hd : decode μ.2.2.1 pc = .ok (.lload i, 2)) (hk : lk i ls = some (.long x)) (k : V Γ l μ R Z kc ks (pc + 2) ls (.long x :: st) as h) : V Γ l μ R Z kc ks pc ls (st) as h := by
  intro p e s m args below meth c H locs lsA C ho hP hS hl
  exact lv_lload C.1 C.2.1 hd (lk_at hl hk) (k p e s m args below meth c H locs lsA C ho hP hS hl)
theorem q_aload_n {k0 : Fin 4} {i : Nat} {x : Nat} (hd : decode μ.2.2.1 pc = .ok (.aload_n k0, 1)) (hi : (k0 : Nat) = i) (hk : lk i ls = some (.ref x)) (k : V Γ l μ R Z kc ks (pc + 1) ls (.ref x :: st) as h) : V Γ l μ R Z kc ks pc ls (st) as h := by
  intro p e s m args below meth c H locs lsA C ho hP hS hl
  exact lv_aload_n C.1 C.2.1 hd hi (lk_at hl hk) (k p e s m args below meth c H locs lsA C ho hP hS hl)
theorem q_aload {i : Nat} {x : Nat} (hd : decode μ.2.2.1 pc = .ok (.aload i, 2)) (hk : lk i ls = some (.ref x)) (k : V Γ l μ R Z kc ks (pc + 2) ls (.ref x :: st) as h) : V Γ l μ R Z kc ks pc ls (st) as h := by
  intro p e s m args below meth c H locs lsA C ho hP hS hl
  exact lv_aload C.1 C.2.1 hd (lk_at hl hk) (k p e s m args below meth c H locs lsA C ho hP hS hl)
theorem q_istore_n {k0 : Fin 4} {i : Nat} {x : Int32} (hd : decode μ.2.2.1 pc = .ok (.istore_n k0, 1)) (hi : (k0 : Nat) = i) (hb : i < μ.2.2.2.1) (k : V Γ l μ R Z kc ks (pc + 1) (lst i (.int x) ls) st as h) : V Γ l μ R Z kc ks pc ls (.int x :: st) as h := by
  intro p e s m args below meth c H locs lsA C ho hP hS hl
  exact lv_istore_n C.1 C.2.1 hd hi hl hb rfl (fun lsB hl => k p e s m args below meth c H locs lsB C ho hP hS hl)
theorem q_istore {i : Nat} {x : Int32} (hd : decode μ.2.2.1 pc = .ok (.istore i, 2)) (hb : i < μ.2.2.2.1) (k : V Γ l μ R Z kc ks (pc + 2) (lst i (.int x) ls) st as h) : V Γ l μ R Z kc ks pc ls (.int x :: st) as h := by
  intro p e s m args below meth c H locs lsA C ho hP hS hl
  exact lv_istore C.1 C.2.1 hd hl hb rfl (fun lsB hl => k p e s m args below meth c H locs lsB C ho hP hS hl)
theorem q_lstore_n {k0 : Fin 4} {i : Nat} {x : Int64} (hd : decode μ.2.2.1 pc = .ok (.lstore_n k0, 1)) (hi : (k0 : Nat) = i) (hb : i + 1 < μ.2.2.2.1) (k : V Γ l μ R Z kc ks (pc + 1) (lst2 i (.long x) ls) st as h) : V Γ l μ R Z kc ks pc ls (.long x :: st) as h := by
  intro p e s m args below meth c H locs lsA C ho hP hS hl
  exact lv_lstore_n C.1 C.2.1 hd hi hl hb rfl (fun lsB hl => k p e s m args below meth c H locs lsB C ho hP hS hl)
theorem q_lstore {i : Nat} {x : Int64} (hd : decode μ.2.2.1 pc = .ok (.lstore i, 2)) (hb : i + 1 < μ.2.2.2.1) (k : V Γ l μ R Z kc ks (pc + 2) (lst2 i (.long x) ls) st as h) : V Γ l μ R Z kc ks pc ls (.long x :: st) as h := by
  intro p e s m args below meth c H locs lsA C ho hP hS hl
  exact lv_lstore C.1 C.2.1 hd hl hb rfl (fun lsB hl => k p e s m args below meth c H locs lsB C ho hP hS hl)
theorem q_astore_n {k0 : Fin 4} {i : Nat} {x : Nat} (hd : decode μ.2.2.1 pc = .ok (.astore_n k0, 1)) (hi : (k0 : Nat) = i) (hb : i < μ.2.2.2.1) (k : V Γ l μ R Z kc ks (pc + 1) (lst i (.ref x) ls) st as h) : V Γ l μ R Z kc ks pc ls (.ref x :: st) as h := by
  intro p e s m args below meth c H locs lsA C ho hP hS hl
  exact lv_astore_n C.1 C.2.1 hd hi hl hb rfl (fun lsB hl => k p e s m args below meth c H locs lsB C ho hP hS hl)
theorem q_astore {i : Nat} {x : Nat} (hd : decode μ.2.2.1 pc = .ok (.astore i, 2)) (hb : i < μ.2.2.2.1) (k : V Γ l μ R Z kc ks (pc + 2) (lst i (.ref x) ls) st as h) : V Γ l μ R Z kc ks pc ls (.ref x :: st) as h := by
  intro p e s m args below meth c H locs lsA C ho hP hS hl
  exact lv_astore C.1 C.2.1 hd hl hb rfl (fun lsB hl => k p e s m args below meth c H locs lsB C ho hP hS hl)
theorem q_iinc {i : Nat} {z : Int} {x v : Int32} (hd : decode μ.2.2.1 pc = .ok (.iinc i z, 3)) (hk : lk i ls = some (.int x)) (hv : x + Int32.ofInt z = v) (hb : i < μ.2.2.2.1) (k : V Γ l μ R Z kc ks (pc + 3) (lst i (.int v) ls) st as h) : V Γ l μ R Z kc ks pc ls st as h := by
  intro p e s m args below meth c H locs lsA C ho hP hS hl
  obtain ⟨j, hj⟩ := List.getElem?_of_mem (lk_mem hk)
  exact lv_iinc C.1 C.2.1 hd hl (k := j) hj hv hb rfl (fun lsB hl => k p e s m args below meth c H locs lsB C ho hP hS hl)
theorem q_iadd {x y : Int32} (hd : decode μ.2.2.1 pc = .ok (.iadd, 1))  (k : V Γ l μ R Z kc ks (pc + 1) ls (.int (x + y) :: st) as h) : V Γ l μ R Z kc ks pc ls (.int y :: .int x :: st) as h := by
  intro p e s m args below meth c H locs lsA C ho hP hS hl
  exact lv_iadd C.1 C.2.1 hd (k p e s m args below meth c H locs lsA C ho hP hS hl)
theorem q_isub {x y : Int32} (hd : decode μ.2.2.1 pc = .ok (.isub, 1))  (k : V Γ l μ R Z kc ks (pc + 1) ls (.int (x - y) :: st) as h) : V Γ l μ R Z kc ks pc ls (.int y :: .int x :: st) as h := by
  intro p e s m args below meth c H locs lsA C ho hP hS hl
  exact lv_isub C.1 C.2.1 hd (k p e s m args below meth c H locs lsA C ho hP hS hl)
theorem q_imul {x y : Int32} (hd : decode μ.2.2.1 pc = .ok (.imul, 1))  (k : V Γ l μ R Z kc ks (pc + 1) ls (.int (x * y) :: st) as h) : V Γ l μ R Z kc ks pc ls (.int y :: .int x :: st) as h := by
  intro p e s m args below meth c H locs lsA C ho hP hS hl
  exact lv_imul C.1 C.2.1 hd (k p e s m args below meth c H locs lsA C ho hP hS hl)
theorem q_iand {x y : Int32} (hd : decode μ.2.2.1 pc = .ok (.iand, 1))  (k : V Γ l μ R Z kc ks (pc + 1) ls (.int (x &&& y) :: st) as h) : V Γ l μ R Z kc ks pc ls (.int y :: .int x :: st) as h := by
  intro p e s m args below meth c H locs lsA C ho hP hS hl
  exact lv_iand C.1 C.2.1 hd (k p e s m args below meth c H locs lsA C ho hP hS hl)
theorem q_ior {x y : Int32} (hd : decode μ.2.2.1 pc = .ok (.ior, 1))  (k : V Γ l μ R Z kc ks (pc + 1) ls (.int (x ||| y) :: st) as h) : V Γ l μ R Z kc ks pc ls (.int y :: .int x :: st) as h := by
  intro p e s m args below meth c H locs lsA C ho hP hS hl
  exact lv_ior C.1 C.2.1 hd (k p e s m args below meth c H locs lsA C ho hP hS hl)
theorem q_ixor {x y : Int32} (hd : decode μ.2.2.1 pc = .ok (.ixor, 1))  (k : V Γ l μ R Z kc ks (pc + 1) ls (.int (x ^^^ y) :: st) as h) : V Γ l μ R Z kc ks pc ls (.int y :: .int x :: st) as h := by
  intro p e s m args below meth c H locs lsA C ho hP hS hl
  exact lv_ixor C.1 C.2.1 hd (k p e s m args below meth c H locs lsA C ho hP hS hl)
theorem q_ishl {x y : Int32} (hd : decode μ.2.2.1 pc = .ok (.ishl, 1))  (k : V Γ l μ R Z kc ks (pc + 1) ls (.int (x <<< (y &&& 31)) :: st) as h) : V Γ l μ R Z kc ks pc ls (.int y :: .int x :: st) as h := by
  intro p e s m args below meth c H locs lsA C ho hP hS hl
  exact lv_ishl C.1 C.2.1 hd (k p e s m args below meth c H locs lsA C ho hP hS hl)
theorem q_ishr {x y : Int32} (hd : decode μ.2.2.1 pc = .ok (.ishr, 1))  (k : V Γ l μ R Z kc ks (pc + 1) ls (.int (x >>> (y &&& 31)) :: st) as h) : V Γ l μ R Z kc ks pc ls (.int y :: .int x :: st) as h := by
  intro p e s m args below meth c H locs lsA C ho hP hS hl
  exact lv_ishr C.1 C.2.1 hd (k p e s m args below meth c H locs lsA C ho hP hS hl)
theorem q_ladd {x y : Int64} (hd : decode μ.2.2.1 pc = .ok (.ladd, 1))  (k : V Γ l μ R Z kc ks (pc + 1) ls (.long (x + y) :: st) as h) : V Γ l μ R Z kc ks pc ls (.long y :: .long x :: st) as h := by
  intro p e s m args below meth c H locs lsA C ho hP hS hl
  exact lv_ladd C.1 C.2.1 hd (k p e s m args below meth c H locs lsA C ho hP hS hl)
theorem q_lsub {x y : Int64} (hd : decode μ.2.2.1 pc = .ok (.lsub, 1))  (k : V Γ l μ R Z kc ks (pc + 1) ls (.long (x - y) :: st) as h) : V Γ l μ R Z kc ks pc ls (.long y :: .long x :: st) as h := by
  intro p e s m args below meth c H locs lsA C ho hP hS hl
  exact lv_lsub C.1 C.2.1 hd (k p e s m args below meth c H locs lsA C ho hP hS hl)
theorem q_lmul {x y : Int64} (hd : decode μ.2.2.1 pc = .ok (.lmul, 1))  (k : V Γ l μ R Z kc ks (pc + 1) ls (.long (x * y) :: st) as h) : V Γ l μ R Z kc ks pc ls (.long y :: .long x :: st) as h := by
  intro p e s m args below meth c H locs lsA C ho hP hS hl
  exact lv_lmul C.1 C.2.1 hd (k p e s m args below meth c H locs lsA C ho hP hS hl)
theorem q_land {x y : Int64} (hd : decode μ.2.2.1 pc = .ok (.land, 1))  (k : V Γ l μ R Z kc ks (pc + 1) ls (.long (x &&& y) :: st) as h) : V Γ l μ R Z kc ks pc ls (.long y :: .long x :: st) as h := by
  intro p e s m args below meth c H locs lsA C ho hP hS hl
  exact lv_land C.1 C.2.1 hd (k p e s m args below meth c H locs lsA C ho hP hS hl)
theorem q_lor {x y : Int64} (hd : decode μ.2.2.1 pc = .ok (.lor, 1))  (k : V Γ l μ R Z kc ks (pc + 1) ls (.long (x ||| y) :: st) as h) : V Γ l μ R Z kc ks pc ls (.long y :: .long x :: st) as h := by
  intro p e s m args below meth c H locs lsA C ho hP hS hl
  exact lv_lor C.1 C.2.1 hd (k p e s m args below meth c H locs lsA C ho hP hS hl)
theorem q_idiv {x y : Int32} (hd : decode μ.2.2.1 pc = .ok (.idiv, 1)) (hne : ¬ y = 0) (k : V Γ l μ R Z kc ks (pc + 1) ls (.int (x / y) :: st) as h) : V Γ l μ R Z kc ks pc ls (.int y :: .int x :: st) as h := by
  intro p e s m args below meth c H locs lsA C ho hP hS hl
  exact lv_idiv C.1 C.2.1 hd hne (k p e s m args below meth c H locs lsA C ho hP hS hl)
theorem q_irem {x y : Int32} (hd : decode μ.2.2.1 pc = .ok (.irem, 1)) (hne : ¬ y = 0) (k : V Γ l μ R Z kc ks (pc + 1) ls (.int (x - x / y * y) :: st) as h) : V Γ l μ R Z kc ks pc ls (.int y :: .int x :: st) as h := by
  intro p e s m args below meth c H locs lsA C ho hP hS hl
  exact lv_irem C.1 C.2.1 hd hne (k p e s m args below meth c H locs lsA C ho hP hS hl)
theorem q_ldiv {x y : Int64} (hd : decode μ.2.2.1 pc = .ok (.ldiv, 1)) (hne : ¬ y = 0) (k : V Γ l μ R Z kc ks (pc + 1) ls (.long (x / y) :: st) as h) : V Γ l μ R Z kc ks pc ls (.long y :: .long x :: st) as h := by
  intro p e s m args below meth c H locs lsA C ho hP hS hl
  exact lv_ldiv C.1 C.2.1 hd hne (k p e s m args below meth c H locs lsA C ho hP hS hl)
theorem q_lrem {x y : Int64} (hd : decode μ.2.2.1 pc = .ok (.lrem, 1)) (hne : ¬ y = 0) (k : V Γ l μ R Z kc ks (pc + 1) ls (.long (x - x / y * y) :: st) as h) : V Γ l μ R Z kc ks pc ls (.long y :: .long x :: st) as h := by
  intro p e s m args below meth c H locs lsA C ho hP hS hl
  exact lv_lrem C.1 C.2.1 hd hne (k p e s m args below meth c H locs lsA C ho hP hS hl)
theorem q_iushr {x y : Int32} (hd : decode μ.2.2.1 pc = .ok (.iushr, 1))  (k : V Γ l μ R Z kc ks (pc + 1) ls (.int (x.toUInt32 >>> (y.toUInt32 &&& Int32.toUInt32 31)).toInt32 :: st) as h) : V Γ l μ R Z kc ks pc ls (.int y :: .int x :: st) as h := by
  intro p e s m args below meth c H locs lsA C ho hP hS hl
  exact lv_iushr C.1 C.2.1 hd rfl (k p e s m args below meth c H locs lsA C ho hP hS hl)
theorem q_lushr {x : Int64} {y : Int32} (hd : decode μ.2.2.1 pc = .ok (.lushr, 1))  (k : V Γ l μ R Z kc ks (pc + 1) ls (.long (x.toUInt64 >>> (y.toInt64.toUInt64 &&& Int64.toUInt64 63)).toInt64 :: st) as h) : V Γ l μ R Z kc ks pc ls (.int y :: .long x :: st) as h := by
  intro p e s m args below meth c H locs lsA C ho hP hS hl
  exact lv_lushr C.1 C.2.1 hd rfl (k p e s m args below meth c H locs lsA C ho hP hS hl)
theorem q_lshl {x : Int64} {y : Int32} (hd : decode μ.2.2.1 pc = .ok (.lshl, 1))  (k : V Γ l μ R Z kc ks (pc + 1) ls (.long (x <<< (y.toInt64 &&& 63)) :: st) as h) : V Γ l μ R Z kc ks pc ls (.int y :: .long x :: st) as h := by
  intro p e s m args below meth c H locs lsA C ho hP hS hl
  exact lv_lshl C.1 C.2.1 hd rfl (k p e s m args below meth c H locs lsA C ho hP hS hl)
theorem q_lshr {x : Int64} {y : Int32} (hd : decode μ.2.2.1 pc = .ok (.lshr, 1))  (k : V Γ l μ R Z kc ks (pc + 1) ls (.long (x >>> (y.toInt64 &&& 63)) :: st) as h) : V Γ l μ R Z kc ks pc ls (.int y :: .long x :: st) as h := by
  intro p e s m args below meth c H locs lsA C ho hP hS hl
  exact lv_lshr C.1 C.2.1 hd rfl (k p e s m args below meth c H locs lsA C ho hP hS hl)
theorem q_lneg {x : Int64} (hd : decode μ.2.2.1 pc = .ok (.lneg, 1))  (k : V Γ l μ R Z kc ks (pc + 1) ls (.long (-x) :: st) as h) : V Γ l μ R Z kc ks pc ls (.long x :: st) as h := by
  intro p e s m args below meth c H locs lsA C ho hP hS hl
  exact lv_lneg C.1 C.2.1 hd (k p e s m args below meth c H locs lsA C ho hP hS hl)
theorem q_i2l {x : Int32} (hd : decode μ.2.2.1 pc = .ok (.i2l, 1))  (k : V Γ l μ R Z kc ks (pc + 1) ls (.long x.toInt64 :: st) as h) : V Γ l μ R Z kc ks pc ls (.int x :: st) as h := by
  intro p e s m args below meth c H locs lsA C ho hP hS hl
  exact lv_i2l C.1 C.2.1 hd rfl (k p e s m args below meth c H locs lsA C ho hP hS hl)
theorem q_l2i {x : Int64} (hd : decode μ.2.2.1 pc = .ok (.l2i, 1))  (k : V Γ l μ R Z kc ks (pc + 1) ls (.int x.toInt32 :: st) as h) : V Γ l μ R Z kc ks pc ls (.long x :: st) as h := by
  intro p e s m args below meth c H locs lsA C ho hP hS hl
  exact lv_l2i C.1 C.2.1 hd rfl (k p e s m args below meth c H locs lsA C ho hP hS hl)
theorem q_i2b {x : Int32} (hd : decode μ.2.2.1 pc = .ok (.i2b, 1))  (k : V Γ l μ R Z kc ks (pc + 1) ls (.int x.toInt8.toInt32 :: st) as h) : V Γ l μ R Z kc ks pc ls (.int x :: st) as h := by
  intro p e s m args below meth c H locs lsA C ho hP hS hl
  exact lv_i2b C.1 C.2.1 hd rfl (k p e s m args below meth c H locs lsA C ho hP hS hl)
theorem q_lcmp {x y : Int64} (hd : decode μ.2.2.1 pc = .ok (.lcmp, 1))  (k : V Γ l μ R Z kc ks (pc + 1) ls (.int (lg_cmp x y) :: st) as h) : V Γ l μ R Z kc ks pc ls (.long y :: .long x :: st) as h := by
  intro p e s m args below meth c H locs lsA C ho hP hS hl
  exact W.lcmp C.1 C.2.1 hd (k p e s m args below meth c H locs lsA C ho hP hS hl)
theorem q_dup {v : Value} (hd : decode μ.2.2.1 pc = .ok (.dup, 1)) (hv : v.category = 1) (k : V Γ l μ R Z kc ks (pc + 1) ls (v :: v :: st) as h) : V Γ l μ R Z kc ks pc ls (v :: st) as h := by
  intro p e s m args below meth c H locs lsA C ho hP hS hl
  exact lv_dup C.1 C.2.1 hd hv (k p e s m args below meth c H locs lsA C ho hP hS hl)
theorem q_dup2 {v w : Value} (hd : decode μ.2.2.1 pc = .ok (.dup2, 1)) (hv : v.category = 1) (hw : w.category = 1) (k : V Γ l μ R Z kc ks (pc + 1) ls (v :: w :: v :: w :: st) as h) : V Γ l μ R Z kc ks pc ls (v :: w :: st) as h := by
  intro p e s m args below meth c H locs lsA C ho hP hS hl
  exact lv_dup2_11 C.1 C.2.1 hd hv hw (k p e s m args below meth c H locs lsA C ho hP hS hl)
theorem q_pop {v : Value} (hd : decode μ.2.2.1 pc = .ok (.pop, 1)) (hv : v.category = 1) (k : V Γ l μ R Z kc ks (pc + 1) ls st as h) : V Γ l μ R Z kc ks pc ls (v :: st) as h := by
  intro p e s m args below meth c H locs lsA C ho hP hS hl
  exact lv_pop C.1 C.2.1 hd hv (k p e s m args below meth c H locs lsA C ho hP hS hl)
theorem q_if_eq {x : Int32} {off : Int} (tgt : Nat) (hd : decode μ.2.2.1 pc = .ok (.ifCond .eq off, 3)) (ht : (pc : Int) + off = (tgt : Int)) (kt : x = 0 → V Γ l μ R Z kc ks tgt ls st as h) (kf : ¬ x = 0 → V Γ l μ R Z kc ks (pc + 3) ls st as h) : V Γ l μ R Z kc ks pc ls (.int x :: st) as h := by
  intro p e s m args below meth c H locs lsA C ho hP hS hl
  exact lv_if_eq C.1 C.2.1 hd ht (fun z => kt z p e s m args below meth c H locs lsA C ho hP hS hl) (fun z => kf z p e s m args below meth c H locs lsA C ho hP hS hl)
theorem q_if_ne {x : Int32} {off : Int} (tgt : Nat) (hd : decode μ.2.2.1 pc = .ok (.ifCond .ne off, 3)) (ht : (pc : Int) + off = (tgt : Int)) (kt : ¬ x = 0 → V Γ l μ R Z kc ks tgt ls st as h) (kf : x = 0 → V Γ l μ R Z kc ks (pc + 3) ls st as h) : V Γ l μ R Z kc ks pc ls (.int x :: st) as h := by
  intro p e s m args below meth c H locs lsA C ho hP hS hl
  exact lv_if_ne C.1 C.2.1 hd ht (fun z => kt z p e s m args below meth c H locs lsA C ho hP hS hl) (fun z => kf z p e s m args below meth c H locs lsA C ho hP hS hl)
theorem q_if_lt {x : Int32} {off : Int} (tgt : Nat) (hd : decode μ.2.2.1 pc = .ok (.ifCond .lt off, 3)) (ht : (pc : Int) + off = (tgt : Int)) (kt : x < 0 → V Γ l μ R Z kc ks tgt ls st as h) (kf : ¬ x < 0 → V Γ l μ R Z kc ks (pc + 3) ls st as h) : V Γ l μ R Z kc ks pc ls (.int x :: st) as h := by
  intro p e s m args below meth c H locs lsA C ho hP hS hl
  exact lv_if_lt C.1 C.2.1 hd ht (fun z => kt z p e s m args below meth c H locs lsA C ho hP hS hl) (fun z => kf z p e s m args below meth c H locs lsA C ho hP hS hl)
theorem q_if_ge {x : Int32} {off : Int} (tgt : Nat) (hd : decode μ.2.2.1 pc = .ok (.ifCond .ge off, 3)) (ht : (pc : Int) + off = (tgt : Int)) (kt : 0 ≤ x → V Γ l μ R Z kc ks tgt ls st as h) (kf : ¬ 0 ≤ x → V Γ l μ R Z kc ks (pc + 3) ls st as h) : V Γ l μ R Z kc ks pc ls (.int x :: st) as h := by
  intro p e s m args below meth c H locs lsA C ho hP hS hl
  exact lv_if_ge C.1 C.2.1 hd ht (fun z => kt z p e s m args below meth c H locs lsA C ho hP hS hl) (fun z => kf z p e s m args below meth c H locs lsA C ho hP hS hl)
theorem q_if_gt {x : Int32} {off : Int} (tgt : Nat) (hd : decode μ.2.2.1 pc = .ok (.ifCond .gt off, 3)) (ht : (pc : Int) + off = (tgt : Int)) (kt : 0 < x → V Γ l μ R Z kc ks tgt ls st as h) (kf : ¬ 0 < x → V Γ l μ R Z kc ks (pc + 3) ls st as h) : V Γ l μ R Z kc ks pc ls (.int x :: st) as h := by
  intro p e s m args below meth c H locs lsA C ho hP hS hl
  exact lv_if_gt C.1 C.2.1 hd ht (fun z => kt z p e s m args below meth c H locs lsA C ho hP hS hl) (fun z => kf z p e s m args below meth c H locs lsA C ho hP hS hl)
theorem q_if_le {x : Int32} {off : Int} (tgt : Nat) (hd : decode μ.2.2.1 pc = .ok (.ifCond .le off, 3)) (ht : (pc : Int) + off = (tgt : Int)) (kt : x ≤ 0 → V Γ l μ R Z kc ks tgt ls st as h) (kf : ¬ x ≤ 0 → V Γ l μ R Z kc ks (pc + 3) ls st as h) : V Γ l μ R Z kc ks pc ls (.int x :: st) as h := by
  intro p e s m args below meth c H locs lsA C ho hP hS hl
  exact lv_if_le C.1 C.2.1 hd ht (fun z => kt z p e s m args below meth c H locs lsA C ho hP hS hl) (fun z => kf z p e s m args below meth c H locs lsA C ho hP hS hl)
theorem q_icmp_eq {x y : Int32} {off : Int} (tgt : Nat) (hd : decode μ.2.2.1 pc = .ok (.if_icmp .eq off, 3)) (ht : (pc : Int) + off = (tgt : Int)) (kt : x = y → V Γ l μ R Z kc ks tgt ls st as h) (kf : ¬ x = y → V Γ l μ R Z kc ks (pc + 3) ls st as h) : V Γ l μ R Z kc ks pc ls (.int y :: .int x :: st) as h := by
  intro p e s m args below meth c H locs lsA C ho hP hS hl
  exact lv_icmp_eq C.1 C.2.1 hd ht (fun z => kt z p e s m args below meth c H locs lsA C ho hP hS hl) (fun z => kf z p e s m args below meth c H locs lsA C ho hP hS hl)
theorem q_icmp_ne {x y : Int32} {off : Int} (tgt : Nat) (hd : decode μ.2.2.1 pc = .ok (.if_icmp .ne off, 3)) (ht : (pc : Int) + off = (tgt : Int)) (kt : ¬ x = y → V Γ l μ R Z kc ks tgt ls st as h) (kf : x = y → V Γ l μ R Z kc ks (pc + 3) ls st as h) : V Γ l μ R Z kc ks pc ls (.int y :: .int x :: st) as h := by
  intro p e s m args below meth c H locs lsA C ho hP hS hl
  exact lv_icmp_ne C.1 C.2.1 hd ht (fun z => kt z p e s m args below meth c H locs lsA C ho hP hS hl) (fun z => kf z p e s m args below meth c H locs lsA C ho hP hS hl)
theorem q_icmp_lt {x y : Int32} {off : Int} (tgt : Nat) (hd : decode μ.2.2.1 pc = .ok (.if_icmp .lt off, 3)) (ht : (pc : Int) + off = (tgt : Int)) (kt : x < y → V Γ l μ R Z kc ks tgt ls st as h) (kf : ¬ x < y → V Γ l μ R Z kc ks (pc + 3) ls st as h) : V Γ l μ R Z kc ks pc ls (.int y :: .int x :: st) as h := by
  intro p e s m args below meth c H locs lsA C ho hP hS hl
  exact lv_icmp_lt C.1 C.2.1 hd ht (fun z => kt z p e s m args below meth c H locs lsA C ho hP hS hl) (fun z => kf z p e s m args below meth c H locs lsA C ho hP hS hl)
theorem q_icmp_ge {x y : Int32} {off : Int} (tgt : Nat) (hd : decode μ.2.2.1 pc = .ok (.if_icmp .ge off, 3)) (ht : (pc : Int) + off = (tgt : Int)) (kt : y ≤ x → V Γ l μ R Z kc ks tgt ls st as h) (kf : ¬ y ≤ x → V Γ l μ R Z kc ks (pc + 3) ls st as h) : V Γ l μ R Z kc ks pc ls (.int y :: .int x :: st) as h := by
  intro p e s m args below meth c H locs lsA C ho hP hS hl
  exact lv_icmp_ge C.1 C.2.1 hd ht (fun z => kt z p e s m args below meth c H locs lsA C ho hP hS hl) (fun z => kf z p e s m args below meth c H locs lsA C ho hP hS hl)
theorem q_icmp_gt {x y : Int32} {off : Int} (tgt : Nat) (hd : decode μ.2.2.1 pc = .ok (.if_icmp .gt off, 3)) (ht : (pc : Int) + off = (tgt : Int)) (kt : y < x → V Γ l μ R Z kc ks tgt ls st as h) (kf : ¬ y < x → V Γ l μ R Z kc ks (pc + 3) ls st as h) : V Γ l μ R Z kc ks pc ls (.int y :: .int x :: st) as h := by
  intro p e s m args below meth c H locs lsA C ho hP hS hl
  exact lv_icmp_gt C.1 C.2.1 hd ht (fun z => kt z p e s m args below meth c H locs lsA C ho hP hS hl) (fun z => kf z p e s m args below meth c H locs lsA C ho hP hS hl)
theorem q_icmp_le {x y : Int32} {off : Int} (tgt : Nat) (hd : decode μ.2.2.1 pc = .ok (.if_icmp .le off, 3)) (ht : (pc : Int) + off = (tgt : Int)) (kt : x ≤ y → V Γ l μ R Z kc ks tgt ls st as h) (kf : ¬ x ≤ y → V Γ l μ R Z kc ks (pc + 3) ls st as h) : V Γ l μ R Z kc ks pc ls (.int y :: .int x :: st) as h := by
  intro p e s m args below meth c H locs lsA C ho hP hS hl
  exact lv_icmp_le C.1 C.2.1 hd ht (fun z => kt z p e s m args below meth c H locs lsA C ho hP hS hl) (fun z => kf z p e s m args below meth c H locs lsA C ho hP hS hl)
theorem q_goto {off : Int} (tgt : Nat) (hd : decode μ.2.2.1 pc = .ok (.goto off, 3)) (ht : (pc : Int) + off = (tgt : Int)) (k : V Γ l μ R Z kc ks tgt ls st as h) : V Γ l μ R Z kc ks pc ls st as h := by
  intro p e s m args below meth c H locs lsA C ho hP hS hl
  exact lv_goto C.1 C.2.1 hd ht (k p e s m args below meth c H locs lsA C ho hP hS hl)
theorem q_tableIn {dflt lo hi : Int} {offs : Array Int} {len : Nat} {x : Int32} {off : Int} (tgt : Nat) (hd : decode μ.2.2.1 pc = .ok (.tableswitch dflt lo hi offs, len)) (h1 : ¬ x.toInt < lo) (h2 : ¬ hi < x.toInt) (ho : offs[(x.toInt - lo).toNat]? = some off) (ht : (pc : Int) + off = (tgt : Int)) (k : V Γ l μ R Z kc ks tgt ls st as h) : V Γ l μ R Z kc ks pc ls (.int x :: st) as h := by
  intro p e s m args below meth c H locs lsA C hok hP hS hl
  exact lv_tableIn C.1 C.2.1 hd h1 h2 ho ht (k p e s m args below meth c H locs lsA C hok hP hS hl)
theorem q_tableOut {dflt lo hi : Int} {offs : Array Int} {len : Nat} {x : Int32} (tgt : Nat) (hd : decode μ.2.2.1 pc = .ok (.tableswitch dflt lo hi offs, len)) (h1 : x.toInt < lo ∨ hi < x.toInt) (ht : (pc : Int) + dflt = (tgt : Int)) (k : V Γ l μ R Z kc ks tgt ls st as h) : V Γ l μ R Z kc ks pc ls (.int x :: st) as h := by
  intro p e s m args below meth c H locs lsA C ho hP hS hl
  exact lv_tableOut C.1 C.2.1 hd h1 ht (k p e s m args below meth c H locs lsA C ho hP hS hl)
/-- the field link index of the method's class names field k of class ci -/
def FL (μ : mT) (index ci k : Nat) : Prop := ∃ (C : String) (T : u_T) (N : Nat), vwCl[ci]? = some (C, T, N) ∧ k < N ∧ (∀ w ∈ u_ws C T N, w ∈ μ.2.2.2.2.2) ∧ Cond.fieldLink μ.2.1 index (T k).1 (T k).2.1 (T k).2.2.1 ∈ μ.2.2.2.2.2
def FP (μ : mT) (index ci k : Nat) (ty : FieldType) (fin : Bool) : Prop := ∃ (C : String) (T : u_T) (N : Nat) (ty0 : Nat → FieldType), vwCl[ci]? = some (C, T, N) ∧ k < N ∧ (∀ w ∈ u_ws C T N, w ∈ μ.2.2.2.2.2) ∧ Cond.fieldLink μ.2.1 index (T k).1 (T k).2.1 (T k).2.2.1 ∈ μ.2.2.2.2.2 ∧ (∀ k, k < N → parseFieldDescriptor (T k).2.2.1 = some (ty0 k)) ∧ (∀ a, a < N → ∀ b, b < N → a ≠ b → (T a).2.1 ≠ (T b).2.1) ∧ (T k).2.2.2 = fin ∧ ty0 k = ty ∧ (fin = true → (T k).1 = μ.2.1)
theorem q_get {index ci k0 a : Nat} {fs : List Value} {v : Value} (hd : decode μ.2.2.1 pc = .ok (.getfield index, 3)) (hf : FL μ index ci k0) (ha : hat as h a (ob ci fs)) (hv : fs[k0]? = some v) (k : V Γ l μ R Z kc ks (pc + 3) ls (v :: st) as h) : V Γ l μ R Z kc ks pc ls (.ref a :: st) as h := by
  intro p e s m args below meth c H locs lsA C ho hP hS hl
  obtain ⟨C0, T, N, hc, hk, hin, hlk⟩ := hf
  obtain ⟨i, hi, hw⟩ := wW_at ha
  exact va_get (D := Γ.1) C.1 C.2.1 C.2.2.2.2.2.1 hin C.2.2.2.2.1 C.2.2.2.2.2.2.2.2.1 hP i hw hc k0 hk (C.2.2.2.2.2.1 _ hlk) (fun _ z => z) hv hd (k p e s m args below meth c H locs lsA C ho hP hS hl)
theorem q_put {index ci k0 a : Nat} {fs : List Value} {v : Value} {ty : FieldType} (hd : decode μ.2.2.1 pc = .ok (.putfield index, 3)) (hf : FP μ index ci k0 ty false) (ha : hat as h a (ob ci fs)) (hn : narrow ty v = v) (hfit : fits ty v = true) (hlen : k0 < fs.length) (k : V Γ l μ R Z kc ks (pc + 3) ls st as (hset h a (ob ci (fs.set k0 v)))) : V Γ l μ R Z kc ks pc ls (v :: .ref a :: st) as h := by
  intro p e s m args below meth c H locs lsA C ho hP hS hl
  obtain ⟨C0, T, N, ty0, hc, hk, hin, hlk, hty, hnm, hfin, hdd, hdc⟩ := hf
  obtain ⟨i, hi, hw⟩ := wW_at ha
  refine va_put (D := Γ.1) C.1 C.2.1 C.2.2.2.2.2.1 hin ty0 hty hnm C.2.2.2.2.1 C.2.2.2.2.2.2.2.2.1 hP (wW_D ho) hS i hw hc k0 hk (C.2.2.2.2.2.1 _ hlk) (fun _ z => z) hfin (hty k0 hk) (by rw [hdd]; exact hn) (by rw [hdd]; exact hfit) hlen hd (fun H1 locs1 hP1 _ hS1 => ?_)
  rw [wW_set ho.1 hi] at hP1
  exact k p e s m args below meth c H1 locs1 lsA C ho hP1 hS1 hl
theorem q_putF {index ci k0 a : Nat} {fs : List Value} {v : Value} {ty : FieldType} (hd : decode μ.2.2.1 pc = .ok (.putfield index, 3)) (hf : FP μ index ci k0 ty true) (hini : μ.1.name = "<init>") (ha : hat as h a (ob ci fs)) (hn : narrow ty v = v) (hfit : fits ty v = true) (hlen : k0 < fs.length) (k : V Γ l μ R Z kc ks (pc + 3) ls st as (hset h a (ob ci (fs.set k0 v)))) : V Γ l μ R Z kc ks pc ls (v :: .ref a :: st) as h := by
  intro p e s m args below meth c H locs lsA C ho hP hS hl
  obtain ⟨C0, T, N, ty0, hc, hk, hin, hlk, hty, hnm, hfin, hdd, hdc⟩ := hf
  obtain ⟨i, hi, hw⟩ := wW_at ha
  refine va_putF (D := Γ.1) C.1 C.2.1 C.2.2.2.2.2.1 hin ty0 hty hnm C.2.2.2.2.1 C.2.2.2.2.2.2.2.2.1 hP (wW_D ho) hS i hw hc k0 hk (C.2.2.2.2.2.1 _ hlk) (fun _ z => z) hfin (C.2.2.2.2.2.2.2.1.trans hini) (hdc rfl) (hty k0 hk) (by rw [hdd]; exact hn) (by rw [hdd]; exact hfit) hlen hd (fun H1 locs1 hP1 _ hS1 => ?_)
  rw [wW_set ho.1 hi] at hP1
  exact k p e s m args below meth c H1 locs1 lsA C ho hP1 hS1 hl
theorem q_iald {a N : Nat} {f : Nat → Int32} {i : Int32} (hd : decode μ.2.2.1 pc = .ok (.iaload, 1)) (ha : hat as h a (aI Γ N f)) (hin : vp_in i N) (k : V Γ l μ R Z kc ks (pc + 1) ls (.int (f i.toNatClampNeg) :: st) as h) : V Γ l μ R Z kc ks pc ls (.int i :: .ref a :: st) as h := by
  intro p e s m args below meth c H locs lsA C ho hP hS hl
  obtain ⟨j, hj, hw⟩ := wW_at ha
  exact va_iald (D := Γ.1) C.1 C.2.1 C.2.2.2.2.2.2.2.2.1 hP j 1 hw rfl hin hd (k p e s m args below meth c H locs lsA C ho hP hS hl)
theorem q_bald {a N : Nat} {f : Nat → Int32} {i : Int32} (hd : decode μ.2.2.1 pc = .ok (.baload, 1)) (ha : hat as h a (aB Γ N f)) (hin : vp_in i N) (k : V Γ l μ R Z kc ks (pc + 1) ls (.int (f i.toNatClampNeg) :: st) as h) : V Γ l μ R Z kc ks pc ls (.int i :: .ref a :: st) as h := by
  intro p e s m args below meth c H locs lsA C ho hP hS hl
  obtain ⟨j, hj, hw⟩ := wW_at ha
  exact va_bald (D := Γ.1) C.1 C.2.1 C.2.2.2.2.2.2.2.2.1 hP j 0 hw rfl hin hd (k p e s m args below meth c H locs lsA C ho hP hS hl)
theorem q_zald {a N : Nat} {f : Nat → Int32} {i : Int32} (hd : decode μ.2.2.1 pc = .ok (.baload, 1)) (ha : hat as h a (aZ Γ N f)) (hin : vp_in i N) (k : V Γ l μ R Z kc ks (pc + 1) ls (.int (f i.toNatClampNeg) :: st) as h) : V Γ l μ R Z kc ks pc ls (.int i :: .ref a :: st) as h := by
  intro p e s m args below meth c H locs lsA C ho hP hS hl
  obtain ⟨j, hj, hw⟩ := wW_at ha
  exact va_zald (D := Γ.1) C.1 C.2.1 C.2.2.2.2.2.2.2.2.1 hP j 3 hw rfl hin hd (k p e s m args below meth c H locs lsA C ho hP hS hl)
theorem q_lald {a N : Nat} {f : Nat → Int64} {i : Int32} (hd : decode μ.2.2.1 pc = .ok (.laload, 1)) (ha : hat as h a (aJ Γ N f)) (hin : vp_in i N) (k : V Γ l μ R Z kc ks (pc + 1) ls (.long (f i.toNatClampNeg) :: st) as h) : V Γ l μ R Z kc ks pc ls (.int i :: .ref a :: st) as h := by
  intro p e s m args below meth c H locs lsA C ho hP hS hl
  obtain ⟨j, hj, hw⟩ := wW_at ha
  exact va_lald (D := Γ.1) C.1 C.2.1 C.2.2.2.2.2.2.2.2.1 hP j 2 hw rfl hin hd (k p e s m args below meth c H locs lsA C ho hP hS hl)
theorem q_aald {a N : Nat} {f : Nat → Option Nat} {i : Int32} (hd : decode μ.2.2.1 pc = .ok (.aaload, 1)) (ha : hat as h a (aO Γ N f)) (hin : vp_in i N) (k : V Γ l μ R Z kc ks (pc + 1) ls (va_rf (f i.toNatClampNeg) :: st) as h) : V Γ l μ R Z kc ks pc ls (.int i :: .ref a :: st) as h := by
  intro p e s m args below meth c H locs lsA C ho hP hS hl
  obtain ⟨j, hj, hw⟩ := wW_at ha
  exact va_aldq (D := Γ.1) C.1 C.2.1 C.2.2.2.2.2.2.2.2.1 hP j 4 hw rfl hin hd (k p e s m args below meth c H locs lsA C ho hP hS hl)
theorem q_iast {a N : Nat} {f : Nat → Int32} {i : Int32} {x : Int32} (hd : decode μ.2.2.1 pc = .ok (.iastore, 1)) (ha : hat as h a (aI Γ N f)) (hin : vp_in i N) (k : V Γ l μ R Z kc ks (pc + 1) ls st as (hset h a (aI Γ N (upd f i.toNatClampNeg x)))) : V Γ l μ R Z kc ks pc ls (.int x :: .int i :: .ref a :: st) as h := by
  intro p e s m args below meth c H locs lsA C ho hP hS hl
  obtain ⟨j, hj, hw⟩ := wW_at ha
  refine va_iast (D := Γ.1) C.1 C.2.1 C.2.2.2.2.2.2.2.2.1 hP (wW_D ho) hS j 1 hw rfl hin hd (fun H1 locs1 hP1 _ hS1 => ?_)
  rw [wW_set ho.1 hj] at hP1
  exact k p e s m args below meth c H1 locs1 lsA C ho hP1 hS1 hl
theorem q_bast {a N : Nat} {f : Nat → Int32} {i : Int32} {x : Int32} (hd : decode μ.2.2.1 pc = .ok (.bastore, 1)) (ha : hat as h a (aB Γ N f)) (hin : vp_in i N) (k : V Γ l μ R Z kc ks (pc + 1) ls st as (hset h a (aB Γ N (upd f i.toNatClampNeg (vp_nar .byte x))))) : V Γ l μ R Z kc ks pc ls (.int x :: .int i :: .ref a :: st) as h := by
  intro p e s m args below meth c H locs lsA C ho hP hS hl
  obtain ⟨j, hj, hw⟩ := wW_at ha
  refine va_bast (D := Γ.1) C.1 C.2.1 C.2.2.2.2.2.2.2.2.1 hP (wW_D ho) hS j 0 hw rfl hin hd (fun H1 locs1 hP1 _ hS1 => ?_)
  rw [wW_set ho.1 hj] at hP1
  exact k p e s m args below meth c H1 locs1 lsA C ho hP1 hS1 hl
theorem q_zast {a N : Nat} {f : Nat → Int32} {i : Int32} {x : Int32} (hd : decode μ.2.2.1 pc = .ok (.bastore, 1)) (ha : hat as h a (aZ Γ N f)) (hin : vp_in i N) (k : V Γ l μ R Z kc ks (pc + 1) ls st as (hset h a (aZ Γ N (upd f i.toNatClampNeg (vp_nar .boolean x))))) : V Γ l μ R Z kc ks pc ls (.int x :: .int i :: .ref a :: st) as h := by
  intro p e s m args below meth c H locs lsA C ho hP hS hl
  obtain ⟨j, hj, hw⟩ := wW_at ha
  refine va_zast (D := Γ.1) C.1 C.2.1 C.2.2.2.2.2.2.2.2.1 hP (wW_D ho) hS j 3 hw rfl hin hd (fun H1 locs1 hP1 _ hS1 => ?_)
  rw [wW_set ho.1 hj] at hP1
  exact k p e s m args below meth c H1 locs1 lsA C ho hP1 hS1 hl
theorem q_last {a N : Nat} {f : Nat → Int64} {i : Int32} {x : Int64} (hd : decode μ.2.2.1 pc = .ok (.lastore, 1)) (ha : hat as h a (aJ Γ N f)) (hin : vp_in i N) (k : V Γ l μ R Z kc ks (pc + 1) ls st as (hset h a (aJ Γ N (vp_updL f i.toNatClampNeg x)))) : V Γ l μ R Z kc ks pc ls (.long x :: .int i :: .ref a :: st) as h := by
  intro p e s m args below meth c H locs lsA C ho hP hS hl
  obtain ⟨j, hj, hw⟩ := wW_at ha
  refine va_last (D := Γ.1) C.1 C.2.1 C.2.2.2.2.2.2.2.2.1 hP (wW_D ho) hS j 2 hw rfl hin hd (fun H1 locs1 hP1 _ hS1 => ?_)
  rw [wW_set ho.1 hj] at hP1
  exact k p e s m args below meth c H1 locs1 lsA C ho hP1 hS1 hl
theorem q_alen {a N : Nat} {f : Nat → Int32} {v : Int32} (hd : decode μ.2.2.1 pc = .ok (.arraylength, 1)) (ha : hat as h a (aI Γ N f)) (hv : Int32.ofNat N = v) (k : V Γ l μ R Z kc ks (pc + 1) ls (.int v :: st) as h) : V Γ l μ R Z kc ks pc ls (.ref a :: st) as h := by
  intro p e s m args below meth c H locs lsA C ho hP hS hl
  obtain ⟨j, hj, hw⟩ := wW_at ha
  exact va_alen (D := Γ.1) C.1 C.2.1 C.2.2.2.2.2.2.2.2.1 hP j 1 hw rfl hv hd (k p e s m args below meth c H locs lsA C ho hP hS hl)
theorem q_iret {Q : qT} {v : Int32} (hd : decode μ.2.2.1 pc = .ok (.ireturn, 1)) (hr : μ.2.2.2.2.1 = some .int) (hkc : kc ≤ R.cells) (hks : ks ≤ R.slots) (hq : Q (some (.int v)) as h) : V Γ l μ R (Zm Γ R Q) kc ks pc ls ([.int v]) as h := by
  intro p e s m args below meth c H locs lsA C ho hP hS hl
  refine W.widen hkc hks ?_
  exact W.iret C.1 C.2.1 (C.2.2.1.trans hr) (fun t ht hW => ⟨⟨_, as, h, rfl, hq, ho, by rw [ht]; exact hP, va_K.moved hW.alike C.2.2.2.2.2.2.2.2.1⟩, hS.F ht⟩) hS.2.2 hd C.2.2.2.2.2.2.1
theorem q_zret {Q : qT} {v : Int32} {ty : FieldType} (hd : decode μ.2.2.1 pc = .ok (.ireturn, 1)) (hr : μ.2.2.2.2.1 = some ty) (hn : narrow ty (.int v) = .int v) (hkc : kc ≤ R.cells) (hks : ks ≤ R.slots) (hq : Q (some (.int v)) as h) : V Γ l μ R (Zm Γ R Q) kc ks pc ls ([.int v]) as h := by
  intro p e s m args below meth c H locs lsA C ho hP hS hl
  refine W.widen hkc hks ?_
  exact W.zret C.1 C.2.1 (C.2.2.1.trans hr) hn (fun t ht hW => ⟨⟨_, as, h, rfl, hq, ho, by rw [ht]; exact hP, va_K.moved hW.alike C.2.2.2.2.2.2.2.2.1⟩, hS.F ht⟩) hS.2.2 hd C.2.2.2.2.2.2.1
theorem q_lret {Q : qT} {v : Int64} (hd : decode μ.2.2.1 pc = .ok (.lreturn, 1)) (hr : μ.2.2.2.2.1 = some .long) (hkc : kc ≤ R.cells) (hks : ks ≤ R.slots) (hq : Q (some (.long v)) as h) : V Γ l μ R (Zm Γ R Q) kc ks pc ls ([.long v]) as h := by
  intro p e s m args below meth c H locs lsA C ho hP hS hl
  refine W.widen hkc hks ?_
  exact W.lret C.1 C.2.1 (C.2.2.1.trans hr) (fun t ht hW => ⟨⟨_, as, h, rfl, hq, ho, by rw [ht]; exact hP, va_K.moved hW.alike C.2.2.2.2.2.2.2.2.1⟩, hS.F ht⟩) hS.2.2 hd C.2.2.2.2.2.2.1
theorem q_vret {Q : qT}  (hd : decode μ.2.2.1 pc = .ok (.return_, 1)) (hr : μ.2.2.2.2.1 = none) (hkc : kc ≤ R.cells) (hks : ks ≤ R.slots) (hq : Q (none) as h) : V Γ l μ R (Zm Γ R Q) kc ks pc ls ([]) as h := by
  intro p e s m args below meth c H locs lsA C ho hP hS hl
  refine W.widen hkc hks ?_
  exact W.vret C.1 C.2.1 (C.2.2.1.trans hr) (fun t ht hW => ⟨⟨_, as, h, rfl, hq, ho, by rw [ht]; exact hP, va_K.moved hW.alike C.2.2.2.2.2.2.2.2.1⟩, hS.F ht⟩) hS.2.2 hd C.2.2.2.2.2.2.1
/-- behind a call: the callee's answer and world -/
theorem q_run {Q' : qT} {mc ms : Nat} {st0 : List Value} (hr : ∀ (p : Program) (e : Env) (s : State) (m : MethodId) (args : Array Value) (below : List Frame) (meth : Method) (c : Code) (H : Heap) (locs : List Loc) (lsA : Array Slot), Ctx Γ μ p s m args meth c → asOK Γ as → va_P Γ.1 vwCl (wW as h) H → va_S (gA Γ) s.heap H locs → lv_has lsA μ.2.2.2.1 ls →
      ∃ aa, va_Run p l e R s m args below meth c H locs kc ks mc ms (F0 m pc lsA st0) st (QcD Γ Q' aa) (gA Γ))
    (k : ∀ (r : Option Value) (as' : List Nat) (h' : aH), Q' r as' h' → V Γ l μ R Z (kc + mc) (ks + ms) (pc + 3) ls (r.toList ++ st) as' h') : V Γ l μ R Z kc ks pc ls st0 as h := by
  intro p e s m args below meth c H locs lsA C ho hP hS hl
  obtain ⟨aa, hrun⟩ := hr p e s m args below meth c H locs lsA C ho hP hS hl
  intro T hT X
  obtain ⟨v, st₀, t, T', L, h0, X', hL, e1, e2, ⟨⟨r, as', h', hv, hq, hW1, hP1, hK1⟩, hz, hk⟩, stp⟩ := hrun T hT X
  cases hv
  rw [h0] at hz hk
  obtain ⟨t2, a1, b1⟩ := k _ as' h' hq p e s m args below meth c T'.heap (locs ++ L) lsA C hW1 (by rw [e1]; exact hP1) ⟨Nat.le_trans hS.1 (by rw [e1]; exact hz), fun q h1 h2 => by rw [e1, hk q (Nat.lt_of_lt_of_le h1 hS.1) h2]; exact hS.2.1 q h1 h2, fun q hq => by
      rcases List.mem_append.mp hq with h | h
      · exact hS.2.2 q h
      · exact hL q h⟩ hl T' rfl X'
  exact ⟨t2, stp t2 a1, b1⟩
theorem pre_of {p : Program} {s : State} {m : MethodId} {args : Array Value} {meth : Method} {c : Code} {H : Heap} {locs : List Loc} {av : List Value} (C : Ctx Γ μ p s m args meth c) (ho : asOK Γ as) (hP : va_P Γ.1 vwCl (wW as h) H) (hS : va_S (gA Γ) s.heap H locs) : ∀ U : State, U.heap = H → s.WarmedH U.vm → PcD Γ av as h av.toArray U := by
  intro U hU hW
  refine ⟨rfl, ⟨ho, by rw [hU]; exact hP, va_K.moved hW.alike C.2.2.2.2.2.2.2.2.1⟩, ?_, ?_⟩
  · rw [hU]
    exact (C.2.2.2.2.2.2.2.2.2.1.kept hS.2.1).warm hW
  · rw [hU]
    exact Nat.le_trans C.2.2.2.2.2.2.2.2.2.2 hS.1
/-- what a call needs of the names: printed rows give it -/
def CWV (μ : mT) (index : Nat) (μ' : mT) (na : Nat) : Prop := GoodIn μ.2.2.2.2.2 (wsV μ.2.1 index μ'.2.1 μ'.1 μ'.2.2.2.2.2) ∧ (∃ ws', μ'.2.2.2.2.2 = Cond.code μ'.1 μ'.2.2.1 μ'.2.2.2.1 μ'.2.2.2.2.1 :: ws') ∧ μ'.1.cls = μ'.2.1 ∧ μ'.1.cls ≠ "java/lang/invoke/MethodHandle" ∧ μ'.1.cls ≠ "java/lang/invoke/VarHandle" ∧ (parseMethodDescriptor μ'.1.desc).map (fun d => d.parameters.length) = some na
def CWS (μ : mT) (index : Nat) (μ' : mT) (na : Nat) : Prop := GoodIn μ.2.2.2.2.2 (va_wsS μ.2.1 index μ'.1 μ'.2.2.2.2.2) ∧ (∃ ws', μ'.2.2.2.2.2 = Cond.code μ'.1 μ'.2.2.1 μ'.2.2.2.1 μ'.2.2.2.2.1 :: ws') ∧ μ'.1.cls ≠ "java/lang/invoke/MethodHandle" ∧ μ'.1.cls ≠ "java/lang/invoke/VarHandle" ∧ (parseMethodDescriptor μ'.1.desc).map (fun d => d.parameters.length) = some na
/-- the callee fits the caller's room -/
def fitR (R : Room) (μ' : mT) (R' : Room) (kc ks : Nat) : Prop := (R'.frames + 1 ≤ R.frames ∧ 8 + (μ'.2.2.2.1 + 11) + R'.locals ≤ R.locals) ∧ kc + R'.cells ≤ R.cells ∧ ks + R'.slots ≤ R.slots
theorem q_callV {index na a ci : Nat} {μ' : mT} {R' : Room} {fs As : List Value} {Q' : qT} {st0 : List Value} (hd : decode μ.2.2.1 pc = .ok (.invokevirtual index, 3)) (cw : CWV μ index μ' na) (ha : hat as h a (ob ci fs)) (hci : ∃ T N, vwCl[ci]? = some (μ'.2.1, T, N)) (hM : Con Γ l μ' R' (.ref a :: As) as h Q') (hna : As.length = na) (hst : st0 = As.reverse ++ .ref a :: st) (hcat : (st.map fun v => v.category).sum ≤ 8) (hR : fitR R μ' R' kc ks)
    (k : ∀ (r : Option Value) (as' : List Nat) (h' : aH), Q' r as' h' → V Γ l μ R Z (kc + R'.cells) (ks + R'.slots) (pc + 3) ls (r.toList ++ st) as' h') : V Γ l μ R Z kc ks pc ls st0 as h := by
  refine q_run (Q' := Q') (mc := R'.cells) (ms := R'.slots) (st := st) ?_ k
  intro p e s m args below meth c H locs lsA C ho hP hS hl
  obtain ⟨hG, ⟨ws', hw⟩, hd1, hd2, hd3, hd4⟩ := cw
  obtain ⟨T, N, hc⟩ := hci
  obtain ⟨i, hi, hwa⟩ := wW_at ha
  exact ⟨_, va_runV (As := As) (rest := st) ⟨C.1, C.2.1, C.2.2.2.1, C.2.2.2.2.1, C.2.2.2.2.2.1⟩ hM (cwV na C.2.2.2.2.2.1 hG hw rfl rfl ⟨hd1, hd2, hd3, hd4⟩ hR.1) ⟨PcD_blind, va_recv C.2.2.2.2.2.2.2.2.1 hP hc hwa, pre_of C ho hP hS⟩ rfl hna hl.1 hst (lv_room hcat) hd hR.2⟩
theorem q_callS {index na : Nat} {μ' : mT} {R' : Room} {As : List Value} {Q' : qT} {st0 : List Value} (hd : decode μ.2.2.1 pc = .ok (.invokestatic index, 3)) (cw : CWS μ index μ' na) (hM : Con Γ l μ' R' As as h Q') (hna : As.length = na) (hst : st0 = As.reverse ++ st) (hcat : (st.map fun v => v.category).sum ≤ 8) (hR : fitR R μ' R' kc ks)
    (k : ∀ (r : Option Value) (as' : List Nat) (h' : aH), Q' r as' h' → V Γ l μ R Z (kc + R'.cells) (ks + R'.slots) (pc + 3) ls (r.toList ++ st) as' h') : V Γ l μ R Z kc ks pc ls st0 as h := by
  refine q_run (Q' := Q') (mc := R'.cells) (ms := R'.slots) (st := st) ?_ k
  intro p e s m args below meth c H locs lsA C ho hP hS hl
  obtain ⟨hG, ⟨ws', hw⟩, hd2, hd3, hd4⟩ := cw
  exact ⟨_, va_runS (As := As) (rest := st) ⟨C.1, C.2.1, C.2.2.2.1, C.2.2.2.2.1, C.2.2.2.2.2.1⟩ hM (va_cwS na C.2.2.2.2.2.1 hG hw rfl rfl ⟨hd2, hd3, hd4⟩ hR.1) ⟨PcD_blind, pre_of C ho hP hS⟩ rfl hna hl.1 hst (lv_room hcat) hd hR.2⟩
/-- calls of methods that make nothing, by a contract that names answer and world -/
theorem q_callVd {index na a ci : Nat} {μ' : mT} {fr lo : Nat} {fs As : List Value} {r0 : Option Value} {h0 : aH} {st0 : List Value} (hd : decode μ.2.2.1 pc = .ok (.invokevirtual index, 3)) (cw : CWV μ index μ' na) (hM : Det Γ l μ' { frames := fr, cells := 0, slots := 0, locals := lo } (.ref a :: As) as h r0 h0) (ha : hat as h a (ob ci fs)) (hci : ∃ T N, vwCl[ci]? = some (μ'.2.1, T, N)) (hna : As.length = na) (hst : st0 = As.reverse ++ .ref a :: st) (hcat : (st.map fun v => v.category).sum ≤ 8) (hR : fitR R μ' { frames := fr, cells := 0, slots := 0, locals := lo } kc ks)
    (k : V Γ l μ R Z kc ks (pc + 3) ls (r0.toList ++ st) as h0) : V Γ l μ R Z kc ks pc ls st0 as h :=
  q_callV hd cw ha hci hM hna hst hcat hR (fun r as' h' q => by obtain ⟨rfl, rfl, rfl⟩ := q; exact k)
theorem q_callSd {index na : Nat} {μ' : mT} {fr lo : Nat} {As : List Value} {r0 : Option Value} {h0 : aH} {st0 : List Value} (hd : decode μ.2.2.1 pc = .ok (.invokestatic index, 3)) (cw : CWS μ index μ' na) (hM : Det Γ l μ' { frames := fr, cells := 0, slots := 0, locals := lo } As as h r0 h0) (hna : As.length = na) (hst : st0 = As.reverse ++ st) (hcat : (st.map fun v => v.category).sum ≤ 8) (hR : fitR R μ' { frames := fr, cells := 0, slots := 0, locals := lo } kc ks)
    (k : V Γ l μ R Z kc ks (pc + 3) ls (r0.toList ++ st) as h0) : V Γ l μ R Z kc ks pc ls st0 as h :=
  q_callS hd cw hM hna hst hcat hR (fun r as' h' q => by obtain ⟨rfl, rfl, rfl⟩ := q; exact k)
end Rules
end
section
/-! rules for Math.min and System.arraycopy; locals by a list of looks; sums -/
def lin (ls : List (Nat × Value)) : List (Nat × Value) → Prop
  | [] => True
  | q :: r => lk q.1 ls = some q.2 ∧ lin ls r
theorem lin_all {ls : List (Nat × Value)} : ∀ {ls' : List (Nat × Value)}, lin ls ls' → ∀ q ∈ ls', lk q.1 ls = some q.2
  | [], _, q, hq => by cases hq
  | q0 :: r, h, q, hq => by
    rcases List.mem_cons.mp hq with rfl | hq
    · exact h.1
    · exact lin_all h.2 q hq
section Rules2
variable {Γ : gT} {l : Launch} {μ : mT} {R : Room} {Z : zT} {kc ks pc : Nat} {ls : List (Nat × Value)} {st : List Value} {as : List Nat} {h : aH}
/-- the loop's head again: the listed locals hold -/
theorem V.at {ls' : List (Nat × Value)} (k : V Γ l μ R Z kc ks pc ls' st as h) (hs : lin ls ls') : V Γ l μ R Z kc ks pc ls st as h := V.locs ls' (lin_all hs) k
theorem V.stk {st' : List Value} (k : V Γ l μ R Z kc ks pc ls st' as h) (hs : st = st') : V Γ l μ R Z kc ks pc ls st as h := hs ▸ k
theorem V.hp {h' : aH} (k : V Γ l μ R Z kc ks pc ls st as h') (hs : h = h') : V Γ l μ R Z kc ks pc ls st as h := hs ▸ k
theorem q_iinc1 {i : Nat} {x : Int32} (hd : decode μ.2.2.1 pc = .ok (.iinc i 1, 3)) (hk : lk i ls = some (.int x)) (hb : i < μ.2.2.2.1) (k : V Γ l μ R Z kc ks (pc + 3) (lst i (.int (x + 1)) ls) st as h) : V Γ l μ R Z kc ks pc ls st as h := q_iinc hd hk rfl hb k
theorem q_iincM {i : Nat} {x : Int32} (hd : decode μ.2.2.1 pc = .ok (.iinc i (-1), 3)) (hk : lk i ls = some (.int x)) (hb : i < μ.2.2.2.1) (k : V Γ l μ R Z kc ks (pc + 3) (lst i (.int (x + (-1))) ls) st as h) : V Γ l μ R Z kc ks pc ls st as h := q_iinc hd hk rfl hb k
theorem q_iinc5 {i : Nat} {x : Int32} (hd : decode μ.2.2.1 pc = .ok (.iinc i 5, 3)) (hk : lk i ls = some (.int x)) (hb : i < μ.2.2.2.1) (k : V Γ l μ R Z kc ks (pc + 3) (lst i (.int (x + 5)) ls) st as h) : V Γ l μ R Z kc ks pc ls st as h := q_iinc hd hk rfl hb k
theorem q_mmin {index : Nat} {x y : Int32} (hd : decode μ.2.2.1 pc = .ok (.invokestatic index, 3)) (hw : ∀ w ∈ ([.methodLink μ.2.1 index Lib.Math.min.name, .static Lib.Math.min.name, .initialized "java/lang/Math", .code Lib.Math.min.name Lib.Math.min.code 2 (some .int)] : List Cond), w ∈ μ.2.2.2.2.2) (hfr : 1 ≤ R.frames) (hlo : (st.map fun v => v.category).sum + 13 ≤ R.locals) (hkc : kc ≤ R.cells) (hks : ks ≤ R.slots) (k : V Γ l μ R Z kc ks (pc + 3) ls (.int (if y < x then y else x) :: st) as h) : V Γ l μ R Z kc ks pc ls (.int y :: .int x :: st) as h := by
  intro p e s m args below meth c H locs lsA C ho hP hS hl
  have hts := C.2.2.2.2.2.1
  exact va_mmin C.1 C.2.1 (C.2.2.2.1.trans hl.1.symm) C.2.2.2.2.1 (hts _ (hw _ (by simp))) (hts _ (hw _ (by simp))) (hts _ (hw _ (by simp))) (hts _ (hw _ (by simp))) hfr hlo hkc hks hd (k p e s m args below meth c H locs lsA C ho hP hS hl)
/-- System.arraycopy of a whole array of N ints -/
theorem q_copy {index a0 a N : Nat} {f g : Nat → Int32} (hd : decode μ.2.2.1 pc = .ok (.invokestatic index, 3)) (hw : ∀ w ∈ ([.methodLink μ.2.1 index arraycopyName, .native arraycopyName, .static arraycopyName, .initialized "java/lang/System"] : List Cond), w ∈ μ.2.2.2.2.2) (ha0 : hat as h a0 (aI Γ N f)) (ha : hat as h a (aI Γ N g)) (hN : N < 2 ^ 31) (hfr : 1 ≤ R.frames) (hlo : (st.map fun v => v.category).sum + (nativeFrameWords "java/lang/System" "arraycopy" 5 + 11) ≤ R.locals)
    (k : V Γ l μ R Z kc ks (pc + 3) ls st as (hset h a (aI Γ N (va_cpy f g 0 0 N)))) : V Γ l μ R Z kc ks pc ls (.int (nI N) :: .int 0 :: .ref a :: .int 0 :: .ref a0 :: st) as h := by
  intro p e s m args below meth c H locs lsA C ho hP hS hl
  have hts := C.2.2.2.2.2.1
  obtain ⟨j0, hj0, hw0⟩ := wW_at ha0
  obtain ⟨j, hj, hwj⟩ := wW_at ha
  refine va_copyi (D := Γ.1) (ty := .int) C.1 C.2.1 (C.2.2.2.1.trans hl.1.symm) C.2.2.2.2.1 (hts _ (hw _ (by simp))) (hts _ (hw _ (by simp))) (hts _ (hw _ (by simp))) (hts _ (hw _ (by simp))) C.2.2.2.2.2.2.2.2.1 hP (wW_D ho) hS j0 j 1 1 hw0 hwj rfl rfl rfl (by decide) (by decide) (nI_pos hN) (by rw [nI_clamp hN]; show (0 : Int32).toNatClampNeg + N ≤ N; rw [show (0 : Int32).toNatClampNeg = 0 from rfl]; omega) (by rw [nI_clamp hN]; show (0 : Int32).toNatClampNeg + N ≤ N; rw [show (0 : Int32).toNatClampNeg = 0 from rfl]; omega) (fun i _ => rfl) hfr hlo hd (fun H1 locs1 hP1 _ hS1 => ?_)
  rw [wW_set ho.1 hj, nI_clamp hN] at hP1
  exact k p e s m args below meth c H1 locs1 lsA C ho hP1 hS1 hl
end Rules2
/-- the sum of k of g from a on -/
def sr (g : Nat → Int32) (a : Nat) : Nat → Int32
  | 0 => 0
  | k + 1 => sr g a k + g (a + k)
theorem ix10 (p w : Nat) : nI p * 10 + nI w = nI (p * 10 + w) := by rw [show (10 : Int32) = nI 10 from rfl, pk_mul, nI_add]
theorem in_nI {k N : Nat} (h : k < N) (hN : N < 2 ^ 31) : vp_in (nI k) N := vp_in_nI h hN
theorem in10 {p w : Nat} (hp : p < 8) (hw : w < 10) : vp_in (nI p * 10 + nI w) 80 := by rw [ix10]; exact vp_in_nI (by omega) (by omega)
theorem cl10 {p w : Nat} (hp : p < 8) (hw : w < 10) : (nI p * 10 + nI w).toNatClampNeg = p * 10 + w := by rw [ix10]; exact nI_clamp (by omega)
theorem lt_c {k : Nat} (N : Nat) {c : Int32} (hc : c = nI N) (h : k < N) (hN : N < 2 ^ 31) : ¬ c ≤ nI k := by rw [hc]; exact nI_ge h hN
theorem ge_c {k : Nat} (N : Nat) {c : Int32} (hc : c = nI N) (h : N ≤ k) (hk : k < 2 ^ 31) : c ≤ nI k := by rw [hc]; exact nI_le h hk
theorem nI_s (k : Nat) : nI k + 1 = nI (k + 1) := nI_1 k
end
section
/-! PURSES (X4): one field, an array of 80 ints -/
abbrev mX4_held : mT := (yX4_held, RX4, cX4_held, 3, (some .int), wsX4_held)
abbrev rX4_held : Room := { frames := 0, cells := 0, slots := 0, locals := 0 }
theorem dX4_held_0 : decode cX4_held 0 = .ok (.aload_n 0, 1) := by decide +kernel
theorem dX4_held_1 : decode cX4_held 1 = .ok (.getfield 9, 3) := by decide +kernel
theorem dX4_held_4 : decode cX4_held 4 = .ok (.iload_n 1, 1) := by decide +kernel
theorem dX4_held_5 : decode cX4_held 5 = .ok (.bipush 10, 2) := by decide +kernel
theorem dX4_held_7 : decode cX4_held 7 = .ok (.imul, 1) := by decide +kernel
theorem dX4_held_8 : decode cX4_held 8 = .ok (.iload_n 2, 1) := by decide +kernel
theorem dX4_held_9 : decode cX4_held 9 = .ok (.iadd, 1) := by decide +kernel
theorem dX4_held_10 : decode cX4_held 10 = .ok (.iaload, 1) := by decide +kernel
theorem dX4_held_11 : decode cX4_held 11 = .ok (.ireturn, 1) := by decide +kernel
theorem iX4_held_4 : ∀ w ∈ wsX40, w ∈ wsX4_held := fun w h => List.mem_cons_of_mem _ (List.mem_append_right _ h)
theorem fX4_held_9 : FL mX4_held 9 4 0 := ⟨_, _, _, rfl, by decide, iX4_held_4, by decide +kernel⟩
abbrev mX4_put : mT := (yX4_put, RX4, cX4_put, 4, none, wsX4_put)
abbrev rX4_put : Room := { frames := 0, cells := 0, slots := 0, locals := 0 }
theorem dX4_put_0 : decode cX4_put 0 = .ok (.aload_n 0, 1) := by decide +kernel
theorem dX4_put_1 : decode cX4_put 1 = .ok (.getfield 9, 3) := by decide +kernel
theorem dX4_put_4 : decode cX4_put 4 = .ok (.iload_n 1, 1) := by decide +kernel
theorem dX4_put_5 : decode cX4_put 5 = .ok (.bipush 10, 2) := by decide +kernel
theorem dX4_put_7 : decode cX4_put 7 = .ok (.imul, 1) := by decide +kernel
theorem dX4_put_8 : decode cX4_put 8 = .ok (.iload_n 2, 1) := by decide +kernel
theorem dX4_put_9 : decode cX4_put 9 = .ok (.iadd, 1) := by decide +kernel
theorem dX4_put_10 : decode cX4_put 10 = .ok (.iload_n 3, 1) := by decide +kernel
theorem dX4_put_11 : decode cX4_put 11 = .ok (.iastore, 1) := by decide +kernel
theorem dX4_put_12 : decode cX4_put 12 = .ok (.return_, 1) := by decide +kernel
theorem iX4_put_4 : ∀ w ∈ wsX40, w ∈ wsX4_put := fun w h => List.mem_cons_of_mem _ (List.mem_append_right _ h)
theorem fX4_put_9 : FL mX4_put 9 4 0 := ⟨_, _, _, rfl, by decide, iX4_put_4, by decide +kernel⟩
abbrev mX4_empty : mT := (yX4_empty, RX4, cX4_empty, 2, none, wsX4_empty)
abbrev rX4_empty : Room := { frames := 0, cells := 0, slots := 0, locals := 0 }
theorem dX4_empty_0 : decode cX4_empty 0 = .ok (.iconst 0, 1) := by decide +kernel
theorem dX4_empty_1 : decode cX4_empty 1 = .ok (.istore_n 1, 1) := by decide +kernel
theorem dX4_empty_2 : decode cX4_empty 2 = .ok (.iload_n 1, 1) := by decide +kernel
theorem dX4_empty_3 : decode cX4_empty 3 = .ok (.aload_n 0, 1) := by decide +kernel
theorem dX4_empty_4 : decode cX4_empty 4 = .ok (.getfield 9, 3) := by decide +kernel
theorem dX4_empty_7 : decode cX4_empty 7 = .ok (.arraylength, 1) := by decide +kernel
theorem dX4_empty_8 : decode cX4_empty 8 = .ok (.if_icmp .ge 16, 3) := by decide +kernel
theorem dX4_empty_11 : decode cX4_empty 11 = .ok (.aload_n 0, 1) := by decide +kernel
theorem dX4_empty_12 : decode cX4_empty 12 = .ok (.getfield 9, 3) := by decide +kernel
theorem dX4_empty_15 : decode cX4_empty 15 = .ok (.iload_n 1, 1) := by decide +kernel
theorem dX4_empty_16 : decode cX4_empty 16 = .ok (.iconst 0, 1) := by decide +kernel
theorem dX4_empty_17 : decode cX4_empty 17 = .ok (.iastore, 1) := by decide +kernel
theorem dX4_empty_18 : decode cX4_empty 18 = .ok (.iinc 1 1, 3) := by decide +kernel
theorem dX4_empty_21 : decode cX4_empty 21 = .ok (.goto (-19), 3) := by decide +kernel
theorem dX4_empty_24 : decode cX4_empty 24 = .ok (.return_, 1) := by decide +kernel
theorem iX4_empty_4 : ∀ w ∈ wsX40, w ∈ wsX4_empty := fun w h => List.mem_cons_of_mem _ (List.mem_append_right _ h)
theorem fX4_empty_9 : FL mX4_empty 9 4 0 := ⟨_, _, _, rfl, by decide, iX4_empty_4, by decide +kernel⟩
abbrev mX4_copyFrom : mT := (yX4_copyFrom, RX4, cX4_copyFrom, 2, none, wsX4_copyFrom)
abbrev rX4_copyFrom : Room := { frames := 1, cells := 0, slots := 0, locals := 40 }
theorem dX4_copyFrom_0 : decode cX4_copyFrom 0 = .ok (.aload_n 1, 1) := by decide +kernel
theorem dX4_copyFrom_1 : decode cX4_copyFrom 1 = .ok (.getfield 9, 3) := by decide +kernel
theorem dX4_copyFrom_4 : decode cX4_copyFrom 4 = .ok (.iconst 0, 1) := by decide +kernel
theorem dX4_copyFrom_5 : decode cX4_copyFrom 5 = .ok (.aload_n 0, 1) := by decide +kernel
theorem dX4_copyFrom_6 : decode cX4_copyFrom 6 = .ok (.getfield 9, 3) := by decide +kernel
theorem dX4_copyFrom_9 : decode cX4_copyFrom 9 = .ok (.iconst 0, 1) := by decide +kernel
theorem dX4_copyFrom_10 : decode cX4_copyFrom 10 = .ok (.aload_n 0, 1) := by decide +kernel
theorem dX4_copyFrom_11 : decode cX4_copyFrom 11 = .ok (.getfield 9, 3) := by decide +kernel
theorem dX4_copyFrom_14 : decode cX4_copyFrom 14 = .ok (.arraylength, 1) := by decide +kernel
theorem dX4_copyFrom_15 : decode cX4_copyFrom 15 = .ok (.invokestatic 15, 3) := by decide +kernel
theorem dX4_copyFrom_18 : decode cX4_copyFrom 18 = .ok (.return_, 1) := by decide +kernel
theorem iX4_copyFrom_4 : ∀ w ∈ wsX40, w ∈ wsX4_copyFrom := fun w h => List.mem_cons_of_mem _ (List.mem_append_right _ h)
theorem fX4_copyFrom_9 : FL mX4_copyFrom 9 4 0 := ⟨_, _, _, rfl, by decide, iX4_copyFrom_4, by decide +kernel⟩
abbrev mX4_coinsAbove : mT := (yX4_coinsAbove, RX4, cX4_coinsAbove, 5, (some .int), wsX4_coinsAbove)
abbrev rX4_coinsAbove : Room := { frames := 1, cells := 0, slots := 0, locals := 22 }
theorem dX4_coinsAbove_0 : decode cX4_coinsAbove 0 = .ok (.iconst 0, 1) := by decide +kernel
theorem dX4_coinsAbove_1 : decode cX4_coinsAbove 1 = .ok (.istore_n 3, 1) := by decide +kernel
theorem dX4_coinsAbove_2 : decode cX4_coinsAbove 2 = .ok (.iload_n 2, 1) := by decide +kernel
theorem dX4_coinsAbove_3 : decode cX4_coinsAbove 3 = .ok (.iconst 1, 1) := by decide +kernel
theorem dX4_coinsAbove_4 : decode cX4_coinsAbove 4 = .ok (.iadd, 1) := by decide +kernel
theorem dX4_coinsAbove_5 : decode cX4_coinsAbove 5 = .ok (.istore 4, 2) := by decide +kernel
theorem dX4_coinsAbove_7 : decode cX4_coinsAbove 7 = .ok (.iload 4, 2) := by decide +kernel
theorem dX4_coinsAbove_9 : decode cX4_coinsAbove 9 = .ok (.bipush 10, 2) := by decide +kernel
theorem dX4_coinsAbove_11 : decode cX4_coinsAbove 11 = .ok (.if_icmp .ge 19, 3) := by decide +kernel
theorem dX4_coinsAbove_14 : decode cX4_coinsAbove 14 = .ok (.iload_n 3, 1) := by decide +kernel
theorem dX4_coinsAbove_15 : decode cX4_coinsAbove 15 = .ok (.aload_n 0, 1) := by decide +kernel
theorem dX4_coinsAbove_16 : decode cX4_coinsAbove 16 = .ok (.iload_n 1, 1) := by decide +kernel
theorem dX4_coinsAbove_17 : decode cX4_coinsAbove 17 = .ok (.iload 4, 2) := by decide +kernel
theorem dX4_coinsAbove_19 : decode cX4_coinsAbove 19 = .ok (.invokevirtual 25, 3) := by decide +kernel
theorem dX4_coinsAbove_22 : decode cX4_coinsAbove 22 = .ok (.iadd, 1) := by decide +kernel
theorem dX4_coinsAbove_23 : decode cX4_coinsAbove 23 = .ok (.istore_n 3, 1) := by decide +kernel
theorem dX4_coinsAbove_24 : decode cX4_coinsAbove 24 = .ok (.iinc 4 1, 3) := by decide +kernel
theorem dX4_coinsAbove_27 : decode cX4_coinsAbove 27 = .ok (.goto (-20), 3) := by decide +kernel
theorem dX4_coinsAbove_30 : decode cX4_coinsAbove 30 = .ok (.iload_n 3, 1) := by decide +kernel
theorem dX4_coinsAbove_31 : decode cX4_coinsAbove 31 = .ok (.ireturn, 1) := by decide +kernel
set_option maxRecDepth 20000 in
theorem ggX4_coinsAbove_X4_held : GoodIn wsX4_coinsAbove wsX4_held := goodIn_r _ [5, 6, 7] (by decide +kernel) (by decide +kernel)
set_option maxRecDepth 20000 in
theorem gX4_coinsAbove_X4_held : GoodIn wsX4_coinsAbove (wsV RX4 25 RX4 yX4_held wsX4_held) := goodIn_app (goodIn_of _ (by decide +kernel)) ggX4_coinsAbove_X4_held
theorem wX4_coinsAbove_25 : CWV mX4_coinsAbove 25 mX4_held 2 := ⟨gX4_coinsAbove_X4_held, ⟨_, rfl⟩, rfl, by decide +kernel, by decide +kernel, by decide +kernel⟩
abbrev mX4_coinsOf : mT := (yX4_coinsOf, RX4, cX4_coinsOf, 2, (some .int), wsX4_coinsOf)
abbrev rX4_coinsOf : Room := { frames := 2, cells := 0, slots := 0, locals := 46 }
theorem dX4_coinsOf_0 : decode cX4_coinsOf 0 = .ok (.aload_n 0, 1) := by decide +kernel
theorem dX4_coinsOf_1 : decode cX4_coinsOf 1 = .ok (.iload_n 1, 1) := by decide +kernel
theorem dX4_coinsOf_2 : decode cX4_coinsOf 2 = .ok (.iconst (-1), 1) := by decide +kernel
theorem dX4_coinsOf_3 : decode cX4_coinsOf 3 = .ok (.invokevirtual 21, 3) := by decide +kernel
theorem dX4_coinsOf_6 : decode cX4_coinsOf 6 = .ok (.ireturn, 1) := by decide +kernel
set_option maxRecDepth 20000 in
theorem ggX4_coinsOf_X4_coinsAbove : GoodIn wsX4_coinsOf wsX4_coinsAbove := goodIn_r _ [5, 6, 7, 8, 4, 9, 10, 11] (by decide +kernel) (by decide +kernel)
set_option maxRecDepth 20000 in
theorem gX4_coinsOf_X4_coinsAbove : GoodIn wsX4_coinsOf (wsV RX4 21 RX4 yX4_coinsAbove wsX4_coinsAbove) := goodIn_app (goodIn_of _ (by decide +kernel)) ggX4_coinsOf_X4_coinsAbove
theorem wX4_coinsOf_21 : CWV mX4_coinsOf 21 mX4_coinsAbove 2 := ⟨gX4_coinsOf_X4_coinsAbove, ⟨_, rfl⟩, rfl, by decide +kernel, by decide +kernel, by decide +kernel⟩
abbrev mX4_ofWeight : mT := (yX4_ofWeight, RX4, cX4_ofWeight, 4, (some .int), wsX4_ofWeight)
abbrev rX4_ofWeight : Room := { frames := 1, cells := 0, slots := 0, locals := 22 }
theorem dX4_ofWeight_0 : decode cX4_ofWeight 0 = .ok (.iconst 0, 1) := by decide +kernel
theorem dX4_ofWeight_1 : decode cX4_ofWeight 1 = .ok (.istore_n 2, 1) := by decide +kernel
theorem dX4_ofWeight_2 : decode cX4_ofWeight 2 = .ok (.iconst 0, 1) := by decide +kernel
theorem dX4_ofWeight_3 : decode cX4_ofWeight 3 = .ok (.istore_n 3, 1) := by decide +kernel
theorem dX4_ofWeight_4 : decode cX4_ofWeight 4 = .ok (.iload_n 3, 1) := by decide +kernel
theorem dX4_ofWeight_5 : decode cX4_ofWeight 5 = .ok (.bipush 8, 2) := by decide +kernel
theorem dX4_ofWeight_7 : decode cX4_ofWeight 7 = .ok (.if_icmp .ge 18, 3) := by decide +kernel
theorem dX4_ofWeight_10 : decode cX4_ofWeight 10 = .ok (.iload_n 2, 1) := by decide +kernel
theorem dX4_ofWeight_11 : decode cX4_ofWeight 11 = .ok (.aload_n 0, 1) := by decide +kernel
theorem dX4_ofWeight_12 : decode cX4_ofWeight 12 = .ok (.iload_n 3, 1) := by decide +kernel
theorem dX4_ofWeight_13 : decode cX4_ofWeight 13 = .ok (.iload_n 1, 1) := by decide +kernel
theorem dX4_ofWeight_14 : decode cX4_ofWeight 14 = .ok (.invokevirtual 25, 3) := by decide +kernel
theorem dX4_ofWeight_17 : decode cX4_ofWeight 17 = .ok (.iadd, 1) := by decide +kernel
theorem dX4_ofWeight_18 : decode cX4_ofWeight 18 = .ok (.istore_n 2, 1) := by decide +kernel
theorem dX4_ofWeight_19 : decode cX4_ofWeight 19 = .ok (.iinc 3 1, 3) := by decide +kernel
theorem dX4_ofWeight_22 : decode cX4_ofWeight 22 = .ok (.goto (-18), 3) := by decide +kernel
theorem dX4_ofWeight_25 : decode cX4_ofWeight 25 = .ok (.iload_n 2, 1) := by decide +kernel
theorem dX4_ofWeight_26 : decode cX4_ofWeight 26 = .ok (.ireturn, 1) := by decide +kernel
set_option maxRecDepth 20000 in
theorem ggX4_ofWeight_X4_held : GoodIn wsX4_ofWeight wsX4_held := goodIn_r _ [5, 6, 7] (by decide +kernel) (by decide +kernel)
set_option maxRecDepth 20000 in
theorem gX4_ofWeight_X4_held : GoodIn wsX4_ofWeight (wsV RX4 25 RX4 yX4_held wsX4_held) := goodIn_app (goodIn_of _ (by decide +kernel)) ggX4_ofWeight_X4_held
theorem wX4_ofWeight_25 : CWV mX4_ofWeight 25 mX4_held 2 := ⟨gX4_ofWeight_X4_held, ⟨_, rfl⟩, rfl, by decide +kernel, by decide +kernel, by decide +kernel⟩
abbrev mX4_allCoins : mT := (yX4_allCoins, RX4, cX4_allCoins, 3, (some .int), wsX4_allCoins)
abbrev rX4_allCoins : Room := { frames := 3, cells := 0, slots := 0, locals := 67 }
theorem dX4_allCoins_0 : decode cX4_allCoins 0 = .ok (.iconst 0, 1) := by decide +kernel
theorem dX4_allCoins_1 : decode cX4_allCoins 1 = .ok (.istore_n 1, 1) := by decide +kernel
theorem dX4_allCoins_2 : decode cX4_allCoins 2 = .ok (.iconst 0, 1) := by decide +kernel
theorem dX4_allCoins_3 : decode cX4_allCoins 3 = .ok (.istore_n 2, 1) := by decide +kernel
theorem dX4_allCoins_4 : decode cX4_allCoins 4 = .ok (.iload_n 2, 1) := by decide +kernel
theorem dX4_allCoins_5 : decode cX4_allCoins 5 = .ok (.bipush 8, 2) := by decide +kernel
theorem dX4_allCoins_7 : decode cX4_allCoins 7 = .ok (.if_icmp .ge 17, 3) := by decide +kernel
theorem dX4_allCoins_10 : decode cX4_allCoins 10 = .ok (.iload_n 1, 1) := by decide +kernel
theorem dX4_allCoins_11 : decode cX4_allCoins 11 = .ok (.aload_n 0, 1) := by decide +kernel
theorem dX4_allCoins_12 : decode cX4_allCoins 12 = .ok (.iload_n 2, 1) := by decide +kernel
theorem dX4_allCoins_13 : decode cX4_allCoins 13 = .ok (.invokevirtual 28, 3) := by decide +kernel
theorem dX4_allCoins_16 : decode cX4_allCoins 16 = .ok (.iadd, 1) := by decide +kernel
theorem dX4_allCoins_17 : decode cX4_allCoins 17 = .ok (.istore_n 1, 1) := by decide +kernel
theorem dX4_allCoins_18 : decode cX4_allCoins 18 = .ok (.iinc 2 1, 3) := by decide +kernel
theorem dX4_allCoins_21 : decode cX4_allCoins 21 = .ok (.goto (-17), 3) := by decide +kernel
theorem dX4_allCoins_24 : decode cX4_allCoins 24 = .ok (.iload_n 1, 1) := by decide +kernel
theorem dX4_allCoins_25 : decode cX4_allCoins 25 = .ok (.ireturn, 1) := by decide +kernel
set_option maxRecDepth 20000 in
theorem ggX4_allCoins_X4_coinsOf : GoodIn wsX4_allCoins wsX4_coinsOf := goodIn_r _ [5, 6, 7, 8, 4, 9, 10, 11, 12, 13, 14, 15] (by decide +kernel) (by decide +kernel)
set_option maxRecDepth 20000 in
theorem gX4_allCoins_X4_coinsOf : GoodIn wsX4_allCoins (wsV RX4 28 RX4 yX4_coinsOf wsX4_coinsOf) := goodIn_app (goodIn_of _ (by decide +kernel)) ggX4_allCoins_X4_coinsOf
theorem wX4_allCoins_28 : CWV mX4_allCoins 28 mX4_coinsOf 1 := ⟨gX4_allCoins_X4_coinsOf, ⟨_, rfl⟩, rfl, by decide +kernel, by decide +kernel, by decide +kernel⟩
abbrev mX4_allGrains : mT := (yX4_allGrains, RX4, cX4_allGrains, 3, (some .int), wsX4_allGrains)
abbrev rX4_allGrains : Room := { frames := 2, cells := 0, slots := 0, locals := 45 }
theorem dX4_allGrains_0 : decode cX4_allGrains 0 = .ok (.iconst 0, 1) := by decide +kernel
theorem dX4_allGrains_1 : decode cX4_allGrains 1 = .ok (.istore_n 1, 1) := by decide +kernel
theorem dX4_allGrains_2 : decode cX4_allGrains 2 = .ok (.iconst 0, 1) := by decide +kernel
theorem dX4_allGrains_3 : decode cX4_allGrains 3 = .ok (.istore_n 2, 1) := by decide +kernel
theorem dX4_allGrains_4 : decode cX4_allGrains 4 = .ok (.iload_n 2, 1) := by decide +kernel
theorem dX4_allGrains_5 : decode cX4_allGrains 5 = .ok (.bipush 10, 2) := by decide +kernel
theorem dX4_allGrains_7 : decode cX4_allGrains 7 = .ok (.if_icmp .ge 22, 3) := by decide +kernel
theorem dX4_allGrains_10 : decode cX4_allGrains 10 = .ok (.iload_n 1, 1) := by decide +kernel
theorem dX4_allGrains_11 : decode cX4_allGrains 11 = .ok (.aload_n 0, 1) := by decide +kernel
theorem dX4_allGrains_12 : decode cX4_allGrains 12 = .ok (.iload_n 2, 1) := by decide +kernel
theorem dX4_allGrains_13 : decode cX4_allGrains 13 = .ok (.invokevirtual 32, 3) := by decide +kernel
theorem dX4_allGrains_16 : decode cX4_allGrains 16 = .ok (.bipush 10, 2) := by decide +kernel
theorem dX4_allGrains_18 : decode cX4_allGrains 18 = .ok (.iload_n 2, 1) := by decide +kernel
theorem dX4_allGrains_19 : decode cX4_allGrains 19 = .ok (.isub, 1) := by decide +kernel
theorem dX4_allGrains_20 : decode cX4_allGrains 20 = .ok (.imul, 1) := by decide +kernel
theorem dX4_allGrains_21 : decode cX4_allGrains 21 = .ok (.iadd, 1) := by decide +kernel
theorem dX4_allGrains_22 : decode cX4_allGrains 22 = .ok (.istore_n 1, 1) := by decide +kernel
theorem dX4_allGrains_23 : decode cX4_allGrains 23 = .ok (.iinc 2 1, 3) := by decide +kernel
theorem dX4_allGrains_26 : decode cX4_allGrains 26 = .ok (.goto (-22), 3) := by decide +kernel
theorem dX4_allGrains_29 : decode cX4_allGrains 29 = .ok (.iload_n 1, 1) := by decide +kernel
theorem dX4_allGrains_30 : decode cX4_allGrains 30 = .ok (.ireturn, 1) := by decide +kernel
set_option maxRecDepth 20000 in
theorem ggX4_allGrains_X4_ofWeight : GoodIn wsX4_allGrains wsX4_ofWeight := goodIn_r _ [5, 6, 7, 8, 4, 9, 10, 11] (by decide +kernel) (by decide +kernel)
set_option maxRecDepth 20000 in
theorem gX4_allGrains_X4_ofWeight : GoodIn wsX4_allGrains (wsV RX4 32 RX4 yX4_ofWeight wsX4_ofWeight) := goodIn_app (goodIn_of _ (by decide +kernel)) ggX4_allGrains_X4_ofWeight
theorem wX4_allGrains_32 : CWV mX4_allGrains 32 mX4_ofWeight 1 := ⟨gX4_allGrains_X4_ofWeight, ⟨_, rfl⟩, rfl, by decide +kernel, by decide +kernel, by decide +kernel⟩
abbrev mX4_move : mT := (yX4_move, RX4, cX4_move, 4, (some .boolean), wsX4_move)
abbrev rX4_move : Room := { frames := 1, cells := 0, slots := 0, locals := 23 }
theorem dX4_move_0 : decode cX4_move 0 = .ok (.aload_n 0, 1) := by decide +kernel
theorem dX4_move_1 : decode cX4_move 1 = .ok (.iload_n 2, 1) := by decide +kernel
theorem dX4_move_2 : decode cX4_move 2 = .ok (.iload_n 3, 1) := by decide +kernel
theorem dX4_move_3 : decode cX4_move 3 = .ok (.invokevirtual 25, 3) := by decide +kernel
theorem dX4_move_6 : decode cX4_move 6 = .ok (.bipush 99, 2) := by decide +kernel
theorem dX4_move_8 : decode cX4_move 8 = .ok (.if_icmp .lt 5, 3) := by decide +kernel
theorem dX4_move_11 : decode cX4_move 11 = .ok (.iconst 0, 1) := by decide +kernel
theorem dX4_move_12 : decode cX4_move 12 = .ok (.ireturn, 1) := by decide +kernel
theorem dX4_move_13 : decode cX4_move 13 = .ok (.aload_n 0, 1) := by decide +kernel
theorem dX4_move_14 : decode cX4_move 14 = .ok (.iload_n 1, 1) := by decide +kernel
theorem dX4_move_15 : decode cX4_move 15 = .ok (.iload_n 3, 1) := by decide +kernel
theorem dX4_move_16 : decode cX4_move 16 = .ok (.aload_n 0, 1) := by decide +kernel
theorem dX4_move_17 : decode cX4_move 17 = .ok (.iload_n 1, 1) := by decide +kernel
theorem dX4_move_18 : decode cX4_move 18 = .ok (.iload_n 3, 1) := by decide +kernel
theorem dX4_move_19 : decode cX4_move 19 = .ok (.invokevirtual 25, 3) := by decide +kernel
theorem dX4_move_22 : decode cX4_move 22 = .ok (.iconst 1, 1) := by decide +kernel
theorem dX4_move_23 : decode cX4_move 23 = .ok (.isub, 1) := by decide +kernel
theorem dX4_move_24 : decode cX4_move 24 = .ok (.invokevirtual 35, 3) := by decide +kernel
theorem dX4_move_27 : decode cX4_move 27 = .ok (.aload_n 0, 1) := by decide +kernel
theorem dX4_move_28 : decode cX4_move 28 = .ok (.iload_n 2, 1) := by decide +kernel
theorem dX4_move_29 : decode cX4_move 29 = .ok (.iload_n 3, 1) := by decide +kernel
theorem dX4_move_30 : decode cX4_move 30 = .ok (.aload_n 0, 1) := by decide +kernel
theorem dX4_move_31 : decode cX4_move 31 = .ok (.iload_n 2, 1) := by decide +kernel
theorem dX4_move_32 : decode cX4_move 32 = .ok (.iload_n 3, 1) := by decide +kernel
theorem dX4_move_33 : decode cX4_move 33 = .ok (.invokevirtual 25, 3) := by decide +kernel
theorem dX4_move_36 : decode cX4_move 36 = .ok (.iconst 1, 1) := by decide +kernel
theorem dX4_move_37 : decode cX4_move 37 = .ok (.iadd, 1) := by decide +kernel
theorem dX4_move_38 : decode cX4_move 38 = .ok (.invokevirtual 35, 3) := by decide +kernel
theorem dX4_move_41 : decode cX4_move 41 = .ok (.iconst 1, 1) := by decide +kernel
theorem dX4_move_42 : decode cX4_move 42 = .ok (.ireturn, 1) := by decide +kernel
set_option maxRecDepth 20000 in
theorem ggX4_move_X4_held : GoodIn wsX4_move wsX4_held := goodIn_r _ [5, 6, 11] (by decide +kernel) (by decide +kernel)
set_option maxRecDepth 20000 in
theorem gX4_move_X4_held : GoodIn wsX4_move (wsV RX4 25 RX4 yX4_held wsX4_held) := goodIn_app (goodIn_of _ (by decide +kernel)) ggX4_move_X4_held
theorem wX4_move_25 : CWV mX4_move 25 mX4_held 2 := ⟨gX4_move_X4_held, ⟨_, rfl⟩, rfl, by decide +kernel, by decide +kernel, by decide +kernel⟩
set_option maxRecDepth 20000 in
theorem ggX4_move_X4_put : GoodIn wsX4_move wsX4_put := goodIn_r _ [10, 6, 11] (by decide +kernel) (by decide +kernel)
set_option maxRecDepth 20000 in
theorem gX4_move_X4_put : GoodIn wsX4_move (wsV RX4 35 RX4 yX4_put wsX4_put) := goodIn_app (goodIn_of _ (by decide +kernel)) ggX4_move_X4_put
theorem wX4_move_35 : CWV mX4_move 35 mX4_put 3 := ⟨gX4_move_X4_put, ⟨_, rfl⟩, rfl, by decide +kernel, by decide +kernel, by decide +kernel⟩
abbrev mX4_loseGrain : mT := (yX4_loseGrain, RX4, cX4_loseGrain, 4, none, wsX4_loseGrain)
abbrev rX4_loseGrain : Room := { frames := 1, cells := 0, slots := 0, locals := 40 }
theorem dX4_loseGrain_0 : decode cX4_loseGrain 0 = .ok (.iconst 0, 1) := by decide +kernel
theorem dX4_loseGrain_1 : decode cX4_loseGrain 1 = .ok (.istore_n 1, 1) := by decide +kernel
theorem dX4_loseGrain_2 : decode cX4_loseGrain 2 = .ok (.iload_n 1, 1) := by decide +kernel
theorem dX4_loseGrain_3 : decode cX4_loseGrain 3 = .ok (.bipush 8, 2) := by decide +kernel
theorem dX4_loseGrain_5 : decode cX4_loseGrain 5 = .ok (.if_icmp .ge 72, 3) := by decide +kernel
theorem dX4_loseGrain_8 : decode cX4_loseGrain 8 = .ok (.aload_n 0, 1) := by decide +kernel
theorem dX4_loseGrain_9 : decode cX4_loseGrain 9 = .ok (.iload_n 1, 1) := by decide +kernel
theorem dX4_loseGrain_10 : decode cX4_loseGrain 10 = .ok (.bipush 9, 2) := by decide +kernel
theorem dX4_loseGrain_12 : decode cX4_loseGrain 12 = .ok (.invokevirtual 25, 3) := by decide +kernel
theorem dX4_loseGrain_15 : decode cX4_loseGrain 15 = .ok (.aload_n 0, 1) := by decide +kernel
theorem dX4_loseGrain_16 : decode cX4_loseGrain 16 = .ok (.iload_n 1, 1) := by decide +kernel
theorem dX4_loseGrain_17 : decode cX4_loseGrain 17 = .ok (.bipush 8, 2) := by decide +kernel
theorem dX4_loseGrain_19 : decode cX4_loseGrain 19 = .ok (.invokevirtual 25, 3) := by decide +kernel
theorem dX4_loseGrain_22 : decode cX4_loseGrain 22 = .ok (.iadd, 1) := by decide +kernel
theorem dX4_loseGrain_23 : decode cX4_loseGrain 23 = .ok (.istore_n 2, 1) := by decide +kernel
theorem dX4_loseGrain_24 : decode cX4_loseGrain 24 = .ok (.aload_n 0, 1) := by decide +kernel
theorem dX4_loseGrain_25 : decode cX4_loseGrain 25 = .ok (.iload_n 1, 1) := by decide +kernel
theorem dX4_loseGrain_26 : decode cX4_loseGrain 26 = .ok (.bipush 9, 2) := by decide +kernel
theorem dX4_loseGrain_28 : decode cX4_loseGrain 28 = .ok (.bipush 99, 2) := by decide +kernel
theorem dX4_loseGrain_30 : decode cX4_loseGrain 30 = .ok (.iload_n 2, 1) := by decide +kernel
theorem dX4_loseGrain_31 : decode cX4_loseGrain 31 = .ok (.invokestatic 39, 3) := by decide +kernel
theorem dX4_loseGrain_34 : decode cX4_loseGrain 34 = .ok (.invokevirtual 35, 3) := by decide +kernel
theorem dX4_loseGrain_37 : decode cX4_loseGrain 37 = .ok (.bipush 8, 2) := by decide +kernel
theorem dX4_loseGrain_39 : decode cX4_loseGrain 39 = .ok (.istore_n 3, 1) := by decide +kernel
theorem dX4_loseGrain_40 : decode cX4_loseGrain 40 = .ok (.iload_n 3, 1) := by decide +kernel
theorem dX4_loseGrain_41 : decode cX4_loseGrain 41 = .ok (.ifCond .le 23, 3) := by decide +kernel
theorem dX4_loseGrain_44 : decode cX4_loseGrain 44 = .ok (.aload_n 0, 1) := by decide +kernel
theorem dX4_loseGrain_45 : decode cX4_loseGrain 45 = .ok (.iload_n 1, 1) := by decide +kernel
theorem dX4_loseGrain_46 : decode cX4_loseGrain 46 = .ok (.iload_n 3, 1) := by decide +kernel
theorem dX4_loseGrain_47 : decode cX4_loseGrain 47 = .ok (.aload_n 0, 1) := by decide +kernel
theorem dX4_loseGrain_48 : decode cX4_loseGrain 48 = .ok (.iload_n 1, 1) := by decide +kernel
theorem dX4_loseGrain_49 : decode cX4_loseGrain 49 = .ok (.iload_n 3, 1) := by decide +kernel
theorem dX4_loseGrain_50 : decode cX4_loseGrain 50 = .ok (.iconst 1, 1) := by decide +kernel
theorem dX4_loseGrain_51 : decode cX4_loseGrain 51 = .ok (.isub, 1) := by decide +kernel
theorem dX4_loseGrain_52 : decode cX4_loseGrain 52 = .ok (.invokevirtual 25, 3) := by decide +kernel
theorem dX4_loseGrain_55 : decode cX4_loseGrain 55 = .ok (.invokevirtual 35, 3) := by decide +kernel
theorem dX4_loseGrain_58 : decode cX4_loseGrain 58 = .ok (.iinc 3 (-1), 3) := by decide +kernel
theorem dX4_loseGrain_61 : decode cX4_loseGrain 61 = .ok (.goto (-21), 3) := by decide +kernel
theorem dX4_loseGrain_64 : decode cX4_loseGrain 64 = .ok (.aload_n 0, 1) := by decide +kernel
theorem dX4_loseGrain_65 : decode cX4_loseGrain 65 = .ok (.iload_n 1, 1) := by decide +kernel
theorem dX4_loseGrain_66 : decode cX4_loseGrain 66 = .ok (.iconst 0, 1) := by decide +kernel
theorem dX4_loseGrain_67 : decode cX4_loseGrain 67 = .ok (.iconst 0, 1) := by decide +kernel
theorem dX4_loseGrain_68 : decode cX4_loseGrain 68 = .ok (.invokevirtual 35, 3) := by decide +kernel
theorem dX4_loseGrain_71 : decode cX4_loseGrain 71 = .ok (.iinc 1 1, 3) := by decide +kernel
theorem dX4_loseGrain_74 : decode cX4_loseGrain 74 = .ok (.goto (-72), 3) := by decide +kernel
theorem dX4_loseGrain_77 : decode cX4_loseGrain 77 = .ok (.return_, 1) := by decide +kernel
set_option maxRecDepth 20000 in
theorem ggX4_loseGrain_X4_held : GoodIn wsX4_loseGrain wsX4_held := goodIn_r _ [9, 10, 15] (by decide +kernel) (by decide +kernel)
set_option maxRecDepth 20000 in
theorem gX4_loseGrain_X4_held : GoodIn wsX4_loseGrain (wsV RX4 25 RX4 yX4_held wsX4_held) := goodIn_app (goodIn_of _ (by decide +kernel)) ggX4_loseGrain_X4_held
theorem wX4_loseGrain_25 : CWV mX4_loseGrain 25 mX4_held 2 := ⟨gX4_loseGrain_X4_held, ⟨_, rfl⟩, rfl, by decide +kernel, by decide +kernel, by decide +kernel⟩
set_option maxRecDepth 20000 in
theorem ggX4_loseGrain_X4_put : GoodIn wsX4_loseGrain wsX4_put := goodIn_r _ [14, 10, 15] (by decide +kernel) (by decide +kernel)
set_option maxRecDepth 20000 in
theorem gX4_loseGrain_X4_put : GoodIn wsX4_loseGrain (wsV RX4 35 RX4 yX4_put wsX4_put) := goodIn_app (goodIn_of _ (by decide +kernel)) ggX4_loseGrain_X4_put
theorem wX4_loseGrain_35 : CWV mX4_loseGrain 35 mX4_put 3 := ⟨gX4_loseGrain_X4_put, ⟨_, rfl⟩, rfl, by decide +kernel, by decide +kernel, by decide +kernel⟩
abbrev mX4_isShabby : mT := (yX4_isShabby, RX4, cX4_isShabby, 2, (some .boolean), wsX4_isShabby)
abbrev rX4_isShabby : Room := { frames := 4, cells := 0, slots := 0, locals := 89 }
theorem dX4_isShabby_0 : decode cX4_isShabby 0 = .ok (.aload_n 0, 1) := by decide +kernel
theorem dX4_isShabby_1 : decode cX4_isShabby 1 = .ok (.invokevirtual 44, 3) := by decide +kernel
theorem dX4_isShabby_4 : decode cX4_isShabby 4 = .ok (.bipush 10, 2) := by decide +kernel
theorem dX4_isShabby_6 : decode cX4_isShabby 6 = .ok (.imul, 1) := by decide +kernel
theorem dX4_isShabby_7 : decode cX4_isShabby 7 = .ok (.iload_n 1, 1) := by decide +kernel
theorem dX4_isShabby_8 : decode cX4_isShabby 8 = .ok (.aload_n 0, 1) := by decide +kernel
theorem dX4_isShabby_9 : decode cX4_isShabby 9 = .ok (.invokevirtual 48, 3) := by decide +kernel
theorem dX4_isShabby_12 : decode cX4_isShabby 12 = .ok (.imul, 1) := by decide +kernel
theorem dX4_isShabby_13 : decode cX4_isShabby 13 = .ok (.if_icmp .gt 7, 3) := by decide +kernel
theorem dX4_isShabby_16 : decode cX4_isShabby 16 = .ok (.iconst 1, 1) := by decide +kernel
theorem dX4_isShabby_17 : decode cX4_isShabby 17 = .ok (.goto 4, 3) := by decide +kernel
theorem dX4_isShabby_20 : decode cX4_isShabby 20 = .ok (.iconst 0, 1) := by decide +kernel
theorem dX4_isShabby_21 : decode cX4_isShabby 21 = .ok (.ireturn, 1) := by decide +kernel
set_option maxRecDepth 20000 in
theorem ggX4_isShabby_X4_allGrains : GoodIn wsX4_isShabby wsX4_allGrains := goodIn_r _ [5, 6, 7, 8, 4, 9, 10, 11, 12, 13, 14, 27] (by decide +kernel) (by decide +kernel)
set_option maxRecDepth 20000 in
theorem gX4_isShabby_X4_allGrains : GoodIn wsX4_isShabby (wsV RX4 44 RX4 yX4_allGrains wsX4_allGrains) := goodIn_app (goodIn_of _ (by decide +kernel)) ggX4_isShabby_X4_allGrains
theorem wX4_isShabby_44 : CWV mX4_isShabby 44 mX4_allGrains 0 := ⟨gX4_isShabby_X4_allGrains, ⟨_, rfl⟩, rfl, by decide +kernel, by decide +kernel, by decide +kernel⟩
set_option maxRecDepth 20000 in
theorem ggX4_isShabby_X4_allCoins : GoodIn wsX4_isShabby wsX4_allCoins := goodIn_r _ [18, 19, 20, 21, 4, 22, 23, 24, 25, 26, 10, 11, 12, 13, 14, 27] (by decide +kernel) (by decide +kernel)
set_option maxRecDepth 20000 in
theorem gX4_isShabby_X4_allCoins : GoodIn wsX4_isShabby (wsV RX4 48 RX4 yX4_allCoins wsX4_allCoins) := goodIn_app (goodIn_of _ (by decide +kernel)) ggX4_isShabby_X4_allCoins
theorem wX4_isShabby_48 : CWV mX4_isShabby 48 mX4_allCoins 0 := ⟨gX4_isShabby_X4_allCoins, ⟨_, rfl⟩, rfl, by decide +kernel, by decide +kernel, by decide +kernel⟩
/-- coins of a person; of a weight; all; grains of all -/
def pCo (f : Nat → Int32) (p : Nat) : Int32 := sr (fun w => f (p * 10 + w)) 0 10
def pWt (f : Nat → Int32) (w : Nat) : Int32 := sr (fun p => f (p * 10 + w)) 0 8
def pAll (f : Nat → Int32) : Int32 := sr (pCo f) 0 8
def pGr (f : Nat → Int32) : Int32 := sr (fun w => pWt f w * (10 - nI w)) 0 10
/-- all coins miss a grain more -/
def wearF (f : Nat → Int32) (j : Nat) : Int32 := if j % 10 = 9 then (if f j + f (j - 1) < 99 then f j + f (j - 1) else 99) else if j % 10 = 0 then 0 else f (j - 1)
def zeroF (k : Nat) (f : Nat → Int32) : Nat → Int32 := fun j => if j < k then 0 else f j
theorem zeroF_s (k : Nat) (f : Nat → Int32) : upd (zeroF k f) k 0 = zeroF (k + 1) f := by
  funext j
  unfold zeroF
  by_cases hj : j = k
  · rw [hj, pk_us, if_pos (by omega)]
  · rw [pk_un hj]
    by_cases h : j < k
    · rw [if_pos h, if_pos (by omega)]
    · rw [if_neg h, if_neg (by omega)]
def moveF (f : Nat → Int32) (i j : Nat) : Nat → Int32 := upd (upd f i (f i - 1)) j (upd f i (f i - 1) j + 1)
/-- wear under way: all below 10 p are done, and those of p above w -/
def wrI (f : Nat → Int32) (p w : Nat) : Nat → Int32 := fun j => if j < p * 10 ∨ (p * 10 + w < j ∧ j ≤ p * 10 + 9) then wearF f j else f j
section
variable {Γ : gT} {l : Launch} {as : List Nat} {h : aH} {q r : Nat} {f : Nat → Int32}
theorem c_held (hq : hat as h q (ob 4 [.ref r])) (hr : hat as h r (aI Γ 80 f)) {p w : Nat} (hp : p < 8) (hw : w < 10) : Det Γ l mX4_held rX4_held [.ref q, .int (nI p), .int (nI w)] as h (some (.int (f (p * 10 + w)))) h := by
  refine Con.of (by decide +kernel) rfl rfl (Nat.le_of_ble_eq_true rfl) ?_
  refine q_aload_n dX4_held_0 rfl rfl ?_
  refine q_get dX4_held_1 fX4_held_9 (hq) rfl ?_
  refine q_iload_n dX4_held_4 rfl rfl ?_
  refine q_bipush (v := 10) dX4_held_5 rfl ?_
  refine q_imul dX4_held_7 ?_
  refine q_iload_n dX4_held_8 rfl rfl ?_
  refine q_iadd dX4_held_9 ?_
  refine q_iald dX4_held_10 (hr) (in10 hp hw) ?_
  exact q_iret dX4_held_11 rfl (Nat.zero_le _) (Nat.zero_le _) (⟨by rw [cl10 hp hw], rfl, rfl⟩)
theorem c_put (hq : hat as h q (ob 4 [.ref r])) (hr : hat as h r (aI Γ 80 f)) {p w : Nat} (hp : p < 8) (hw : w < 10) (x : Int32) : Det Γ l mX4_put rX4_put [.ref q, .int (nI p), .int (nI w), .int x] as h none (hset h r (aI Γ 80 (upd f (p * 10 + w) x))) := by
  refine Con.of (by decide +kernel) rfl rfl (Nat.le_of_ble_eq_true rfl) ?_
  refine q_aload_n dX4_put_0 rfl rfl ?_
  refine q_get dX4_put_1 fX4_put_9 (hq) rfl ?_
  refine q_iload_n dX4_put_4 rfl rfl ?_
  refine q_bipush (v := 10) dX4_put_5 rfl ?_
  refine q_imul dX4_put_7 ?_
  refine q_iload_n dX4_put_8 rfl rfl ?_
  refine q_iadd dX4_put_9 ?_
  refine q_iload_n dX4_put_10 rfl rfl ?_
  refine q_iast dX4_put_11 (hr) (in10 hp hw) ?_
  exact q_vret dX4_put_12 rfl (Nat.zero_le _) (Nat.zero_le _) (⟨rfl, rfl, by rw [cl10 hp hw]⟩)
theorem empty_loop (hq : hat as h q (ob 4 [.ref r])) (hr : hat as h r (aI Γ 80 f)) : ∀ (d k : Nat) (y : Int32) (h' : aH), k + d = 80 → y = nI k → h' = hset h r (aI Γ 80 (zeroF k f)) → V Γ l mX4_empty rX4_empty (Zm Γ rX4_empty (qD none as (hset h r (aI Γ 80 (zeroF 80 f))))) 0 0 2 [(0, .ref q), (1, .int y)] [] as h' := by
  have hqr : q ≠ r := hat_un hq hr (fun z => by cases z)
  intro d
  induction d with
  | zero =>
    intro k y h' hk hy hh
    subst hy hh
    refine q_iload_n dX4_empty_2 rfl rfl ?_
    refine q_aload_n dX4_empty_3 rfl rfl ?_
    refine q_get dX4_empty_4 fX4_empty_9 (hat_ne hq hqr) rfl ?_
    refine q_alen dX4_empty_7 (hat_set hr) rfl ?_
    refine q_icmp_ge 24 dX4_empty_8 (by decide) (fun _ => ?_) (fun z => absurd (ge_c 80 rfl (by omega) (by omega)) z)
    exact q_vret dX4_empty_24 rfl (Nat.zero_le _) (Nat.zero_le _) (⟨rfl, rfl, by rw [show k = 80 by omega]⟩)
  | succ d ih =>
    intro k y h' hk hy hh
    subst hy hh
    refine q_iload_n dX4_empty_2 rfl rfl ?_
    refine q_aload_n dX4_empty_3 rfl rfl ?_
    refine q_get dX4_empty_4 fX4_empty_9 (hat_ne hq hqr) rfl ?_
    refine q_alen dX4_empty_7 (hat_set hr) rfl ?_
    refine q_icmp_ge 24 dX4_empty_8 (by decide) (fun z => absurd z (lt_c 80 rfl (by omega) (by omega))) (fun _ => ?_)
    refine q_aload_n dX4_empty_11 rfl rfl ?_
    refine q_get dX4_empty_12 fX4_empty_9 (hat_ne hq hqr) rfl ?_
    refine q_iload_n dX4_empty_15 rfl rfl ?_
    refine q_iconst (v := 0) dX4_empty_16 rfl ?_
    refine q_iast dX4_empty_17 (hat_set hr) (in_nI (show k < 80 by omega) (by omega)) ?_
    refine q_iinc1 dX4_empty_18 rfl (by decide) ?_
    refine q_goto 2 dX4_empty_21 (by decide) ?_
    exact V.at (ih (k + 1) _ _ (by omega) (nI_s k) (by rw [hset_hset, nI_clamp (by omega), zeroF_s])) ⟨rfl, rfl, trivial⟩
theorem c_empty (hq : hat as h q (ob 4 [.ref r])) (hr : hat as h r (aI Γ 80 f)) : Det Γ l mX4_empty rX4_empty [.ref q] as h none (hset h r (aI Γ 80 (zeroF 80 f))) := by
  refine Con.of (by decide +kernel) rfl rfl (Nat.le_of_ble_eq_true rfl) ?_
  refine q_iconst (v := 0) dX4_empty_0 rfl ?_
  refine q_istore_n dX4_empty_1 rfl (by decide) ?_
  exact V.at (empty_loop hq hr 80 0 _ _ (by omega) rfl (by rw [hset_same]; exact hr.2)) ⟨rfl, rfl, trivial⟩
theorem c_copyFrom (hq : hat as h q (ob 4 [.ref r])) (hr : hat as h r (aI Γ 80 f)) {q' r' : Nat} {g : Nat → Int32} (hq' : hat as h q' (ob 4 [.ref r'])) (hr' : hat as h r' (aI Γ 80 g)) : Det Γ l mX4_copyFrom rX4_copyFrom [.ref q, .ref q'] as h none (hset h r (aI Γ 80 (va_cpy g f 0 0 80))) := by
  refine Con.of (by decide +kernel) rfl rfl (Nat.le_of_ble_eq_true rfl) ?_
  refine q_aload_n dX4_copyFrom_0 rfl rfl ?_
  refine q_get dX4_copyFrom_1 fX4_copyFrom_9 (hq') rfl ?_
  refine q_iconst (v := 0) dX4_copyFrom_4 rfl ?_
  refine q_aload_n dX4_copyFrom_5 rfl rfl ?_
  refine q_get dX4_copyFrom_6 fX4_copyFrom_9 (hq) rfl ?_
  refine q_iconst (v := 0) dX4_copyFrom_9 rfl ?_
  refine q_aload_n dX4_copyFrom_10 rfl rfl ?_
  refine q_get dX4_copyFrom_11 fX4_copyFrom_9 (hq) rfl ?_
  refine q_alen dX4_copyFrom_14 hr rfl ?_
  refine q_copy (N := 80) dX4_copyFrom_15 (by decide +kernel) hr' hr (by decide) (Nat.le_of_ble_eq_true rfl) (by decide +kernel) ?_
  exact q_vret dX4_copyFrom_18 rfl (Nat.zero_le _) (Nat.zero_le _) (⟨rfl, rfl, rfl⟩)
theorem coinsAbove_loop (hq : hat as h q (ob 4 [.ref r])) (hr : hat as h r (aI Γ 80 f)) {p a : Nat} (hp : p < 8) {v : Int32} : ∀ (d k : Nat) (x y : Int32), a + k + d = 10 → x = sr (fun w => f (p * 10 + w)) a k → y = nI (a + k) → V Γ l mX4_coinsAbove rX4_coinsAbove (Zm Γ rX4_coinsAbove (qD (some (.int (sr (fun w => f (p * 10 + w)) a (10 - a)))) as h)) 0 0 7 [(0, .ref q), (1, .int (nI p)), (2, .int v), (3, .int x), (4, .int y)] [] as h := by
  intro d
  induction d with
  | zero =>
    intro k x y hk hx hy
    subst hx hy
    refine q_iload dX4_coinsAbove_7 rfl ?_
    refine q_bipush (v := 10) dX4_coinsAbove_9 rfl ?_
    refine q_icmp_ge 30 dX4_coinsAbove_11 (by decide) (fun _ => ?_) (fun z => absurd (ge_c 10 rfl (by omega) (by omega)) z)
    refine q_iload_n dX4_coinsAbove_30 rfl rfl ?_
    exact q_iret dX4_coinsAbove_31 rfl (Nat.zero_le _) (Nat.zero_le _) (⟨by rw [show 10 - a = k by omega], rfl, rfl⟩)
  | succ d ih =>
    intro k x y hk hx hy
    subst hx hy
    refine q_iload dX4_coinsAbove_7 rfl ?_
    refine q_bipush (v := 10) dX4_coinsAbove_9 rfl ?_
    refine q_icmp_ge 30 dX4_coinsAbove_11 (by decide) (fun z => absurd z (lt_c 10 rfl (by omega) (by omega))) (fun _ => ?_)
    refine q_iload_n dX4_coinsAbove_14 rfl rfl ?_
    refine q_aload_n dX4_coinsAbove_15 rfl rfl ?_
    refine q_iload_n dX4_coinsAbove_16 rfl rfl ?_
    refine q_iload dX4_coinsAbove_17 rfl ?_
    refine q_callVd dX4_coinsAbove_19 wX4_coinsAbove_25 (c_held hq hr hp (show a + k < 10 by omega)) (hq) ⟨_, _, rfl⟩ rfl rfl (Nat.le_of_ble_eq_true rfl) ⟨⟨Nat.le_of_ble_eq_true rfl, Nat.le_of_ble_eq_true rfl⟩, Nat.le_of_ble_eq_true rfl, Nat.le_of_ble_eq_true rfl⟩ ?_
    refine q_iadd dX4_coinsAbove_22 ?_
    refine q_istore_n dX4_coinsAbove_23 rfl (by decide) ?_
    refine q_iinc1 dX4_coinsAbove_24 rfl (by decide) ?_
    refine q_goto 7 dX4_coinsAbove_27 (by decide) ?_
    exact V.at (ih (k + 1) _ _ (by omega) rfl (nI_s (a + k))) ⟨rfl, rfl, rfl, rfl, rfl, trivial⟩
theorem c_coinsAbove (hq : hat as h q (ob 4 [.ref r])) (hr : hat as h r (aI Γ 80 f)) {p a : Nat} (hp : p < 8) (ha : a ≤ 10) {x : Int32} (hx : x + 1 = nI a) : Det Γ l mX4_coinsAbove rX4_coinsAbove [.ref q, .int (nI p), .int x] as h (some (.int (sr (fun w => f (p * 10 + w)) a (10 - a)))) h := by
  refine Con.of (by decide +kernel) rfl rfl (Nat.le_of_ble_eq_true rfl) ?_
  refine q_iconst (v := 0) dX4_coinsAbove_0 rfl ?_
  refine q_istore_n dX4_coinsAbove_1 rfl (by decide) ?_
  refine q_iload_n dX4_coinsAbove_2 rfl rfl ?_
  refine q_iconst (v := 1) dX4_coinsAbove_3 rfl ?_
  refine q_iadd dX4_coinsAbove_4 ?_
  refine q_istore dX4_coinsAbove_5 (by decide) ?_
  exact V.at (coinsAbove_loop hq hr hp (10 - a) 0 _ _ (by omega) rfl hx) ⟨rfl, rfl, rfl, rfl, rfl, trivial⟩
theorem c_coinsOf (hq : hat as h q (ob 4 [.ref r])) (hr : hat as h r (aI Γ 80 f)) {p : Nat} (hp : p < 8) : Det Γ l mX4_coinsOf rX4_coinsOf [.ref q, .int (nI p)] as h (some (.int (pCo f p))) h := by
  refine Con.of (by decide +kernel) rfl rfl (Nat.le_of_ble_eq_true rfl) ?_
  refine q_aload_n dX4_coinsOf_0 rfl rfl ?_
  refine q_iload_n dX4_coinsOf_1 rfl rfl ?_
  refine q_iconst (v := (-1)) dX4_coinsOf_2 rfl ?_
  refine q_callVd dX4_coinsOf_3 wX4_coinsOf_21 (c_coinsAbove hq hr (a := 0) (x := -1) hp (by omega) rfl) (hq) ⟨_, _, rfl⟩ rfl rfl (Nat.le_of_ble_eq_true rfl) ⟨⟨Nat.le_of_ble_eq_true rfl, Nat.le_of_ble_eq_true rfl⟩, Nat.le_of_ble_eq_true rfl, Nat.le_of_ble_eq_true rfl⟩ ?_
  exact q_iret dX4_coinsOf_6 rfl (Nat.zero_le _) (Nat.zero_le _) (⟨rfl, rfl, rfl⟩)
theorem ofWeight_loop (hq : hat as h q (ob 4 [.ref r])) (hr : hat as h r (aI Γ 80 f)) {w : Nat} (hw : w < 10) : ∀ (d k : Nat) (x y : Int32), k + d = 8 → x = sr (fun p => f (p * 10 + w)) 0 k → y = nI k → V Γ l mX4_ofWeight rX4_ofWeight (Zm Γ rX4_ofWeight (qD (some (.int (pWt f w))) as h)) 0 0 4 [(0, .ref q), (1, .int (nI w)), (2, .int x), (3, .int y)] [] as h := by
  intro d
  induction d with
  | zero =>
    intro k x y hk hx hy
    subst hx hy
    refine q_iload_n dX4_ofWeight_4 rfl rfl ?_
    refine q_bipush (v := 8) dX4_ofWeight_5 rfl ?_
    refine q_icmp_ge 25 dX4_ofWeight_7 (by decide) (fun _ => ?_) (fun z => absurd (ge_c 8 rfl (by omega) (by omega)) z)
    refine q_iload_n dX4_ofWeight_25 rfl rfl ?_
    exact q_iret dX4_ofWeight_26 rfl (Nat.zero_le _) (Nat.zero_le _) (⟨by rw [show k = 8 by omega]; rfl, rfl, rfl⟩)
  | succ d ih =>
    intro k x y hk hx hy
    subst hx hy
    refine q_iload_n dX4_ofWeight_4 rfl rfl ?_
    refine q_bipush (v := 8) dX4_ofWeight_5 rfl ?_
    refine q_icmp_ge 25 dX4_ofWeight_7 (by decide) (fun z => absurd z (lt_c 8 rfl (by omega) (by omega))) (fun _ => ?_)
    refine q_iload_n dX4_ofWeight_10 rfl rfl ?_
    refine q_aload_n dX4_ofWeight_11 rfl rfl ?_
    refine q_iload_n dX4_ofWeight_12 rfl rfl ?_
    refine q_iload_n dX4_ofWeight_13 rfl rfl ?_
    refine q_callVd dX4_ofWeight_14 wX4_ofWeight_25 (c_held hq hr (show k < 8 by omega) hw) (hq) ⟨_, _, rfl⟩ rfl rfl (Nat.le_of_ble_eq_true rfl) ⟨⟨Nat.le_of_ble_eq_true rfl, Nat.le_of_ble_eq_true rfl⟩, Nat.le_of_ble_eq_true rfl, Nat.le_of_ble_eq_true rfl⟩ ?_
    refine q_iadd dX4_ofWeight_17 ?_
    refine q_istore_n dX4_ofWeight_18 rfl (by decide) ?_
    refine q_iinc1 dX4_ofWeight_19 rfl (by decide) ?_
    refine q_goto 4 dX4_ofWeight_22 (by decide) ?_
    exact V.at (ih (k + 1) _ _ (by omega) (by simp only [sr, Nat.zero_add]) (nI_s k)) ⟨rfl, rfl, rfl, rfl, trivial⟩
theorem c_ofWeight (hq : hat as h q (ob 4 [.ref r])) (hr : hat as h r (aI Γ 80 f)) {w : Nat} (hw : w < 10) : Det Γ l mX4_ofWeight rX4_ofWeight [.ref q, .int (nI w)] as h (some (.int (pWt f w))) h := by
  refine Con.of (by decide +kernel) rfl rfl (Nat.le_of_ble_eq_true rfl) ?_
  refine q_iconst (v := 0) dX4_ofWeight_0 rfl ?_
  refine q_istore_n dX4_ofWeight_1 rfl (by decide) ?_
  refine q_iconst (v := 0) dX4_ofWeight_2 rfl ?_
  refine q_istore_n dX4_ofWeight_3 rfl (by decide) ?_
  exact V.at (ofWeight_loop hq hr hw 8 0 _ _ (by omega) rfl rfl) ⟨rfl, rfl, rfl, rfl, trivial⟩
theorem allCoins_loop (hq : hat as h q (ob 4 [.ref r])) (hr : hat as h r (aI Γ 80 f)) : ∀ (d k : Nat) (x y : Int32), k + d = 8 → x = sr (pCo f) 0 k → y = nI k → V Γ l mX4_allCoins rX4_allCoins (Zm Γ rX4_allCoins (qD (some (.int (pAll f))) as h)) 0 0 4 [(0, .ref q), (1, .int x), (2, .int y)] [] as h := by
  intro d
  induction d with
  | zero =>
    intro k x y hk hx hy
    subst hx hy
    refine q_iload_n dX4_allCoins_4 rfl rfl ?_
    refine q_bipush (v := 8) dX4_allCoins_5 rfl ?_
    refine q_icmp_ge 24 dX4_allCoins_7 (by decide) (fun _ => ?_) (fun z => absurd (ge_c 8 rfl (by omega) (by omega)) z)
    refine q_iload_n dX4_allCoins_24 rfl rfl ?_
    exact q_iret dX4_allCoins_25 rfl (Nat.zero_le _) (Nat.zero_le _) (⟨by rw [show k = 8 by omega]; rfl, rfl, rfl⟩)
  | succ d ih =>
    intro k x y hk hx hy
    subst hx hy
    refine q_iload_n dX4_allCoins_4 rfl rfl ?_
    refine q_bipush (v := 8) dX4_allCoins_5 rfl ?_
    refine q_icmp_ge 24 dX4_allCoins_7 (by decide) (fun z => absurd z (lt_c 8 rfl (by omega) (by omega))) (fun _ => ?_)
    refine q_iload_n dX4_allCoins_10 rfl rfl ?_
    refine q_aload_n dX4_allCoins_11 rfl rfl ?_
    refine q_iload_n dX4_allCoins_12 rfl rfl ?_
    refine q_callVd dX4_allCoins_13 wX4_allCoins_28 (c_coinsOf hq hr (show k < 8 by omega)) (hq) ⟨_, _, rfl⟩ rfl rfl (Nat.le_of_ble_eq_true rfl) ⟨⟨Nat.le_of_ble_eq_true rfl, Nat.le_of_ble_eq_true rfl⟩, Nat.le_of_ble_eq_true rfl, Nat.le_of_ble_eq_true rfl⟩ ?_
    refine q_iadd dX4_allCoins_16 ?_
    refine q_istore_n dX4_allCoins_17 rfl (by decide) ?_
    refine q_iinc1 dX4_allCoins_18 rfl (by decide) ?_
    refine q_goto 4 dX4_allCoins_21 (by decide) ?_
    exact V.at (ih (k + 1) _ _ (by omega) (by simp only [sr, Nat.zero_add]) (nI_s k)) ⟨rfl, rfl, rfl, trivial⟩
theorem c_allCoins (hq : hat as h q (ob 4 [.ref r])) (hr : hat as h r (aI Γ 80 f)) : Det Γ l mX4_allCoins rX4_allCoins [.ref q] as h (some (.int (pAll f))) h := by
  refine Con.of (by decide +kernel) rfl rfl (Nat.le_of_ble_eq_true rfl) ?_
  refine q_iconst (v := 0) dX4_allCoins_0 rfl ?_
  refine q_istore_n dX4_allCoins_1 rfl (by decide) ?_
  refine q_iconst (v := 0) dX4_allCoins_2 rfl ?_
  refine q_istore_n dX4_allCoins_3 rfl (by decide) ?_
  exact V.at (allCoins_loop hq hr 8 0 _ _ (by omega) rfl rfl) ⟨rfl, rfl, rfl, trivial⟩
theorem allGrains_loop (hq : hat as h q (ob 4 [.ref r])) (hr : hat as h r (aI Γ 80 f)) : ∀ (d k : Nat) (x y : Int32), k + d = 10 → x = sr (fun w => pWt f w * (10 - nI w)) 0 k → y = nI k → V Γ l mX4_allGrains rX4_allGrains (Zm Γ rX4_allGrains (qD (some (.int (pGr f))) as h)) 0 0 4 [(0, .ref q), (1, .int x), (2, .int y)] [] as h := by
  intro d
  induction d with
  | zero =>
    intro k x y hk hx hy
    subst hx hy
    refine q_iload_n dX4_allGrains_4 rfl rfl ?_
    refine q_bipush (v := 10) dX4_allGrains_5 rfl ?_
    refine q_icmp_ge 29 dX4_allGrains_7 (by decide) (fun _ => ?_) (fun z => absurd (ge_c 10 rfl (by omega) (by omega)) z)
    refine q_iload_n dX4_allGrains_29 rfl rfl ?_
    exact q_iret dX4_allGrains_30 rfl (Nat.zero_le _) (Nat.zero_le _) (⟨by rw [show k = 10 by omega]; rfl, rfl, rfl⟩)
  | succ d ih =>
    intro k x y hk hx hy
    subst hx hy
    refine q_iload_n dX4_allGrains_4 rfl rfl ?_
    refine q_bipush (v := 10) dX4_allGrains_5 rfl ?_
    refine q_icmp_ge 29 dX4_allGrains_7 (by decide) (fun z => absurd z (lt_c 10 rfl (by omega) (by omega))) (fun _ => ?_)
    refine q_iload_n dX4_allGrains_10 rfl rfl ?_
    refine q_aload_n dX4_allGrains_11 rfl rfl ?_
    refine q_iload_n dX4_allGrains_12 rfl rfl ?_
    refine q_callVd dX4_allGrains_13 wX4_allGrains_32 (c_ofWeight hq hr (show k < 10 by omega)) (hq) ⟨_, _, rfl⟩ rfl rfl (Nat.le_of_ble_eq_true rfl) ⟨⟨Nat.le_of_ble_eq_true rfl, Nat.le_of_ble_eq_true rfl⟩, Nat.le_of_ble_eq_true rfl, Nat.le_of_ble_eq_true rfl⟩ ?_
    refine q_bipush (v := 10) dX4_allGrains_16 rfl ?_
    refine q_iload_n dX4_allGrains_18 rfl rfl ?_
    refine q_isub dX4_allGrains_19 ?_
    refine q_imul dX4_allGrains_20 ?_
    refine q_iadd dX4_allGrains_21 ?_
    refine q_istore_n dX4_allGrains_22 rfl (by decide) ?_
    refine q_iinc1 dX4_allGrains_23 rfl (by decide) ?_
    refine q_goto 4 dX4_allGrains_26 (by decide) ?_
    exact V.at (ih (k + 1) _ _ (by omega) (by simp only [sr, Nat.zero_add]) (nI_s k)) ⟨rfl, rfl, rfl, trivial⟩
theorem c_allGrains (hq : hat as h q (ob 4 [.ref r])) (hr : hat as h r (aI Γ 80 f)) : Det Γ l mX4_allGrains rX4_allGrains [.ref q] as h (some (.int (pGr f))) h := by
  refine Con.of (by decide +kernel) rfl rfl (Nat.le_of_ble_eq_true rfl) ?_
  refine q_iconst (v := 0) dX4_allGrains_0 rfl ?_
  refine q_istore_n dX4_allGrains_1 rfl (by decide) ?_
  refine q_iconst (v := 0) dX4_allGrains_2 rfl ?_
  refine q_istore_n dX4_allGrains_3 rfl (by decide) ?_
  exact V.at (allGrains_loop hq hr 10 0 _ _ (by omega) rfl rfl) ⟨rfl, rfl, rfl, trivial⟩
theorem c_isShabby (hq : hat as h q (ob 4 [.ref r])) (hr : hat as h r (aI Γ 80 f)) {t : Int32} : Det Γ l mX4_isShabby rX4_isShabby [.ref q, .int t] as h (some (.int (if pGr f * 10 ≤ t * pAll f then 1 else 0))) h := by
  refine Con.of (by decide +kernel) rfl rfl (Nat.le_of_ble_eq_true rfl) ?_
  refine q_aload_n dX4_isShabby_0 rfl rfl ?_
  refine q_callVd dX4_isShabby_1 wX4_isShabby_44 (c_allGrains hq hr) (hq) ⟨_, _, rfl⟩ rfl rfl (Nat.le_of_ble_eq_true rfl) ⟨⟨Nat.le_of_ble_eq_true rfl, Nat.le_of_ble_eq_true rfl⟩, Nat.le_of_ble_eq_true rfl, Nat.le_of_ble_eq_true rfl⟩ ?_
  refine q_bipush (v := 10) dX4_isShabby_4 rfl ?_
  refine q_imul dX4_isShabby_6 ?_
  refine q_iload_n dX4_isShabby_7 rfl rfl ?_
  refine q_aload_n dX4_isShabby_8 rfl rfl ?_
  refine q_callVd dX4_isShabby_9 wX4_isShabby_48 (c_allCoins hq hr) (hq) ⟨_, _, rfl⟩ rfl rfl (Nat.le_of_ble_eq_true rfl) ⟨⟨Nat.le_of_ble_eq_true rfl, Nat.le_of_ble_eq_true rfl⟩, Nat.le_of_ble_eq_true rfl, Nat.le_of_ble_eq_true rfl⟩ ?_
  refine q_imul dX4_isShabby_12 ?_
  refine q_icmp_gt 20 dX4_isShabby_13 (by decide) (fun cc => ?_) (fun cc => ?_)
  · rw [if_neg (Int32.not_le.mpr cc)]
    refine q_iconst (v := 0) dX4_isShabby_20 rfl ?_
    exact q_zret dX4_isShabby_21 rfl (rfl) (Nat.zero_le _) (Nat.zero_le _) (⟨rfl, rfl, rfl⟩)
  · rw [if_pos (Int32.not_lt.mp cc)]
    refine q_iconst (v := 1) dX4_isShabby_16 rfl ?_
    refine q_goto 21 dX4_isShabby_17 (by decide) ?_
    exact q_zret dX4_isShabby_21 rfl (rfl) (Nat.zero_le _) (Nat.zero_le _) (⟨rfl, rfl, rfl⟩)
theorem c_move (hq : hat as h q (ob 4 [.ref r])) (hr : hat as h r (aI Γ 80 f)) {p t w : Nat} (hp : p < 8) (ht : t < 8) (hw : w < 10) : Det Γ l mX4_move rX4_move [.ref q, .int (nI p), .int (nI t), .int (nI w)] as h (some (.int (if f (t * 10 + w) < 99 then 1 else 0))) (if f (t * 10 + w) < 99 then hset h r (aI Γ 80 (moveF f (p * 10 + w) (t * 10 + w))) else h) := by
  have hqr : q ≠ r := hat_un hq hr (fun z => by cases z)
  refine Con.of (by decide +kernel) rfl rfl (Nat.le_of_ble_eq_true rfl) ?_
  refine q_aload_n dX4_move_0 rfl rfl ?_
  refine q_iload_n dX4_move_1 rfl rfl ?_
  refine q_iload_n dX4_move_2 rfl rfl ?_
  refine q_callVd dX4_move_3 wX4_move_25 (c_held hq hr ht hw) (hq) ⟨_, _, rfl⟩ rfl rfl (Nat.le_of_ble_eq_true rfl) ⟨⟨Nat.le_of_ble_eq_true rfl, Nat.le_of_ble_eq_true rfl⟩, Nat.le_of_ble_eq_true rfl, Nat.le_of_ble_eq_true rfl⟩ ?_
  refine q_bipush (v := 99) dX4_move_6 rfl ?_
  refine q_icmp_lt 13 dX4_move_8 (by decide) (fun cc => ?_) (fun cc => ?_)
  · rw [if_pos cc, if_pos cc]
    refine q_aload_n dX4_move_13 rfl rfl ?_
    refine q_iload_n dX4_move_14 rfl rfl ?_
    refine q_iload_n dX4_move_15 rfl rfl ?_
    refine q_aload_n dX4_move_16 rfl rfl ?_
    refine q_iload_n dX4_move_17 rfl rfl ?_
    refine q_iload_n dX4_move_18 rfl rfl ?_
    refine q_callVd dX4_move_19 wX4_move_25 (c_held hq hr hp hw) (hq) ⟨_, _, rfl⟩ rfl rfl (Nat.le_of_ble_eq_true rfl) ⟨⟨Nat.le_of_ble_eq_true rfl, Nat.le_of_ble_eq_true rfl⟩, Nat.le_of_ble_eq_true rfl, Nat.le_of_ble_eq_true rfl⟩ ?_
    refine q_iconst (v := 1) dX4_move_22 rfl ?_
    refine q_isub dX4_move_23 ?_
    refine q_callVd dX4_move_24 wX4_move_35 (c_put hq hr hp hw _) (hq) ⟨_, _, rfl⟩ rfl rfl (Nat.le_of_ble_eq_true rfl) ⟨⟨Nat.le_of_ble_eq_true rfl, Nat.le_of_ble_eq_true rfl⟩, Nat.le_of_ble_eq_true rfl, Nat.le_of_ble_eq_true rfl⟩ ?_
    refine q_aload_n dX4_move_27 rfl rfl ?_
    refine q_iload_n dX4_move_28 rfl rfl ?_
    refine q_iload_n dX4_move_29 rfl rfl ?_
    refine q_aload_n dX4_move_30 rfl rfl ?_
    refine q_iload_n dX4_move_31 rfl rfl ?_
    refine q_iload_n dX4_move_32 rfl rfl ?_
    refine q_callVd dX4_move_33 wX4_move_25 (c_held (hat_ne hq hqr) (hat_set hr) ht hw) (hat_ne hq hqr) ⟨_, _, rfl⟩ rfl rfl (Nat.le_of_ble_eq_true rfl) ⟨⟨Nat.le_of_ble_eq_true rfl, Nat.le_of_ble_eq_true rfl⟩, Nat.le_of_ble_eq_true rfl, Nat.le_of_ble_eq_true rfl⟩ ?_
    refine q_iconst (v := 1) dX4_move_36 rfl ?_
    refine q_iadd dX4_move_37 ?_
    refine q_callVd dX4_move_38 wX4_move_35 (c_put (hat_ne hq hqr) (hat_set hr) ht hw _) (hat_ne hq hqr) ⟨_, _, rfl⟩ rfl rfl (Nat.le_of_ble_eq_true rfl) ⟨⟨Nat.le_of_ble_eq_true rfl, Nat.le_of_ble_eq_true rfl⟩, Nat.le_of_ble_eq_true rfl, Nat.le_of_ble_eq_true rfl⟩ ?_
    refine q_iconst (v := 1) dX4_move_41 rfl ?_
    exact q_zret dX4_move_42 rfl (rfl) (Nat.zero_le _) (Nat.zero_le _) (⟨rfl, rfl, by rw [hset_hset]; rfl⟩)
  · rw [if_neg cc, if_neg cc]
    refine q_iconst (v := 0) dX4_move_11 rfl ?_
    exact q_zret dX4_move_12 rfl (rfl) (Nat.zero_le _) (Nat.zero_le _) (⟨rfl, rfl, rfl⟩)
end
end
section
/-! PURSES: loseGrain -/
theorem wr_out {f : Nat → Int32} {p w j : Nat} (h : ¬ (j < p * 10 ∨ (p * 10 + w < j ∧ j ≤ p * 10 + 9))) : wrI f p w j = f j := if_neg h
theorem wr_in {f : Nat → Int32} {p w j : Nat} (h : j < p * 10 ∨ (p * 10 + w < j ∧ j ≤ p * 10 + 9)) : wrI f p w j = wearF f j := if_pos h
theorem wr_a {f : Nat → Int32} {p : Nat} : upd (wrI f p 9) (p * 10 + 9) (if wrI f p 9 (p * 10 + 9) + wrI f p 9 (p * 10 + 8) < 99 then wrI f p 9 (p * 10 + 9) + wrI f p 9 (p * 10 + 8) else 99) = wrI f p 8 := by
  funext j
  by_cases hj : j = p * 10 + 9
  · subst hj
    rw [pk_us, wr_in (w := 8) (by omega), wr_out (w := 9) (j := p * 10 + 9) (by omega), wr_out (w := 9) (j := p * 10 + 8) (by omega)]
    unfold wearF
    rw [if_pos (show (p * 10 + 9) % 10 = 9 by omega)]
    rfl
  · rw [pk_un hj]
    by_cases h : j < p * 10
    · rw [wr_in (by omega), wr_in (by omega)]
    · rw [wr_out (by omega), wr_out (by omega)]
theorem wr_b {f : Nat → Int32} {p w : Nat} (hw : w < 8) : upd (wrI f p (w + 1)) (p * 10 + (w + 1)) (wrI f p (w + 1) (p * 10 + w)) = wrI f p w := by
  funext j
  by_cases hj : j = p * 10 + (w + 1)
  · subst hj
    rw [pk_us, wr_in (w := w) (by omega), wr_out (w := w + 1) (by omega)]
    unfold wearF
    rw [if_neg (by omega), if_neg (by omega)]
    rfl
  · rw [pk_un hj]
    by_cases h : j < p * 10 ∨ (p * 10 + w < j ∧ j ≤ p * 10 + 9)
    · rw [wr_in (by omega), wr_in (by omega)]
    · rw [wr_out (by omega), wr_out (by omega)]
theorem wr_c {f : Nat → Int32} {p : Nat} : upd (wrI f p 0) (p * 10 + 0) 0 = wrI f (p + 1) 9 := by
  funext j
  by_cases hj : j = p * 10 + 0
  · subst hj
    rw [pk_us, wr_in (by omega)]
    unfold wearF
    rw [if_neg (by omega), if_pos (by omega)]
  · rw [pk_un hj]
    by_cases h : j < (p + 1) * 10
    · rw [wr_in (by omega), wr_in (by omega)]
    · rw [wr_out (by omega), wr_out (by omega)]
theorem wr_0 {f : Nat → Int32} : wrI f 0 9 = f := by
  funext j
  exact wr_out (by omega)
/-- what the array holds behind loseGrain -/
def wearA (f : Nat → Int32) : Nat → Int32 := wrI f 8 9
theorem wearA_at {f : Nat → Int32} {j : Nat} (hj : j < 80) : wearA f j = wearF f j := wr_in (by omega)
section
variable {Γ : gT} {l : Launch} {as : List Nat} {h : aH} {q r : Nat} {f : Nat → Int32}
theorem lose_inner (hq : hat as h q (ob 4 [.ref r])) (hr : hat as h r (aI Γ 80 f)) {p : Nat} (hp : p < 8) {s : Int32} {Z : zT} (K : ∀ x : Int32, V Γ l mX4_loseGrain rX4_loseGrain Z 0 0 64 [(0, .ref q), (1, .int (nI p)), (2, .int s), (3, .int x)] [] as (hset h r (aI Γ 80 (wrI f p 0)))) : ∀ (w : Nat) (y : Int32) (h' : aH), w ≤ 8 → y = nI w → h' = hset h r (aI Γ 80 (wrI f p w)) → V Γ l mX4_loseGrain rX4_loseGrain Z 0 0 40 [(0, .ref q), (1, .int (nI p)), (2, .int s), (3, .int y)] [] as h' := by
  have hqr : q ≠ r := hat_un hq hr (fun z => by cases z)
  intro w
  induction w with
  | zero =>
    intro y h' hw hy hh
    subst hy hh
    refine q_iload_n dX4_loseGrain_40 rfl rfl ?_
    refine q_if_le 64 dX4_loseGrain_41 (by decide) (fun _ => ?_) (fun z => absurd (Int32.le_refl _) z)
    exact K _
  | succ w ih =>
    intro y h' hw hy hh
    subst hy hh
    refine q_iload_n dX4_loseGrain_40 rfl rfl ?_
    refine q_if_le 64 dX4_loseGrain_41 (by decide) (fun z => absurd z (nI_nle (by omega) (by omega))) (fun _ => ?_)
    refine q_aload_n dX4_loseGrain_44 rfl rfl ?_
    refine q_iload_n dX4_loseGrain_45 rfl rfl ?_
    refine q_iload_n dX4_loseGrain_46 rfl rfl ?_
    refine q_aload_n dX4_loseGrain_47 rfl rfl ?_
    refine q_iload_n dX4_loseGrain_48 rfl rfl ?_
    refine q_iload_n dX4_loseGrain_49 rfl rfl ?_
    refine q_iconst (v := 1) dX4_loseGrain_50 rfl ?_
    refine q_isub dX4_loseGrain_51 ?_
    rw [nI_pred]
    refine q_callVd dX4_loseGrain_52 wX4_loseGrain_25 (c_held (hat_ne hq hqr) (hat_set hr) hp (show w < 10 by omega)) (hat_ne hq hqr) ⟨_, _, rfl⟩ rfl rfl (Nat.le_of_ble_eq_true rfl) ⟨⟨Nat.le_of_ble_eq_true rfl, Nat.le_of_ble_eq_true rfl⟩, Nat.le_of_ble_eq_true rfl, Nat.le_of_ble_eq_true rfl⟩ ?_
    refine q_callVd dX4_loseGrain_55 wX4_loseGrain_35 (c_put (hat_ne hq hqr) (hat_set hr) hp (show w + 1 < 10 by omega) _) (hat_ne hq hqr) ⟨_, _, rfl⟩ rfl rfl (Nat.le_of_ble_eq_true rfl) ⟨⟨Nat.le_of_ble_eq_true rfl, Nat.le_of_ble_eq_true rfl⟩, Nat.le_of_ble_eq_true rfl, Nat.le_of_ble_eq_true rfl⟩ ?_
    refine q_iincM dX4_loseGrain_58 rfl (by decide) ?_
    refine q_goto 40 dX4_loseGrain_61 (by decide) ?_
    exact V.at (ih _ _ (by omega) (pk_m1 w) (by rw [hset_hset, wr_b (by omega)])) ⟨rfl, rfl, rfl, rfl, trivial⟩
theorem lose_loop (hq : hat as h q (ob 4 [.ref r])) (hr : hat as h r (aI Γ 80 f)) : ∀ (d p : Nat) (y : Int32) (ls : List (Nat × Value)) (h' : aH), p + d = 8 → y = nI p → h' = hset h r (aI Γ 80 (wrI f p 9)) → lk 0 ls = some (.ref q) → lk 1 ls = some (.int y) → V Γ l mX4_loseGrain rX4_loseGrain (Zm Γ rX4_loseGrain (qD none as (hset h r (aI Γ 80 (wearA f))))) 0 0 2 ls [] as h' := by
  have hqr : q ≠ r := hat_un hq hr (fun z => by cases z)
  intro d
  induction d with
  | zero =>
    intro p y ls h' hk hy hh l0 l1
    subst hy hh
    refine V.at (ls' := [(0, .ref q), (1, .int (nI p))]) ?_ ⟨l0, l1, trivial⟩
    refine q_iload_n dX4_loseGrain_2 rfl rfl ?_
    refine q_bipush (v := 8) dX4_loseGrain_3 rfl ?_
    refine q_icmp_ge 77 dX4_loseGrain_5 (by decide) (fun _ => ?_) (fun z => absurd (ge_c 8 rfl (by omega) (by omega)) z)
    exact q_vret dX4_loseGrain_77 rfl (Nat.zero_le _) (Nat.zero_le _) (⟨rfl, rfl, by rw [show p = 8 by omega]; rfl⟩)
  | succ d ih =>
    intro p y ls h' hk hy hh l0 l1
    subst hy hh
    refine V.at (ls' := [(0, .ref q), (1, .int (nI p))]) ?_ ⟨l0, l1, trivial⟩
    refine q_iload_n dX4_loseGrain_2 rfl rfl ?_
    refine q_bipush (v := 8) dX4_loseGrain_3 rfl ?_
    refine q_icmp_ge 77 dX4_loseGrain_5 (by decide) (fun z => absurd z (lt_c 8 rfl (by omega) (by omega))) (fun _ => ?_)
    refine q_aload_n dX4_loseGrain_8 rfl rfl ?_
    refine q_iload_n dX4_loseGrain_9 rfl rfl ?_
    refine q_bipush (v := 9) dX4_loseGrain_10 rfl ?_
    refine q_callVd dX4_loseGrain_12 wX4_loseGrain_25 (c_held (hat_ne hq hqr) (hat_set hr) (show p < 8 by omega) (show 9 < 10 by omega)) (hat_ne hq hqr) ⟨_, _, rfl⟩ rfl rfl (Nat.le_of_ble_eq_true rfl) ⟨⟨Nat.le_of_ble_eq_true rfl, Nat.le_of_ble_eq_true rfl⟩, Nat.le_of_ble_eq_true rfl, Nat.le_of_ble_eq_true rfl⟩ ?_
    refine q_aload_n dX4_loseGrain_15 rfl rfl ?_
    refine q_iload_n dX4_loseGrain_16 rfl rfl ?_
    refine q_bipush (v := 8) dX4_loseGrain_17 rfl ?_
    refine q_callVd dX4_loseGrain_19 wX4_loseGrain_25 (c_held (hat_ne hq hqr) (hat_set hr) (show p < 8 by omega) (show 8 < 10 by omega)) (hat_ne hq hqr) ⟨_, _, rfl⟩ rfl rfl (Nat.le_of_ble_eq_true rfl) ⟨⟨Nat.le_of_ble_eq_true rfl, Nat.le_of_ble_eq_true rfl⟩, Nat.le_of_ble_eq_true rfl, Nat.le_of_ble_eq_true rfl⟩ ?_
    refine q_iadd dX4_loseGrain_22 ?_
    refine q_istore_n dX4_loseGrain_23 rfl (by decide) ?_
    refine q_aload_n dX4_loseGrain_24 rfl rfl ?_
    refine q_iload_n dX4_loseGrain_25 rfl rfl ?_
    refine q_bipush (v := 9) dX4_loseGrain_26 rfl ?_
    refine q_bipush (v := 99) dX4_loseGrain_28 rfl ?_
    refine q_iload_n dX4_loseGrain_30 rfl rfl ?_
    refine q_mmin dX4_loseGrain_31 (by decide +kernel) (Nat.le_of_ble_eq_true rfl) (Nat.le_of_ble_eq_true rfl) (Nat.zero_le _) (Nat.zero_le _) ?_
    refine q_callVd dX4_loseGrain_34 wX4_loseGrain_35 (c_put (hat_ne hq hqr) (hat_set hr) (show p < 8 by omega) (show 9 < 10 by omega) _) (hat_ne hq hqr) ⟨_, _, rfl⟩ rfl rfl (Nat.le_of_ble_eq_true rfl) ⟨⟨Nat.le_of_ble_eq_true rfl, Nat.le_of_ble_eq_true rfl⟩, Nat.le_of_ble_eq_true rfl, Nat.le_of_ble_eq_true rfl⟩ ?_
    refine q_bipush (v := 8) dX4_loseGrain_37 rfl ?_
    refine q_istore_n dX4_loseGrain_39 rfl (by decide) ?_
    refine V.at (lose_inner hq hr (show p < 8 by omega) (fun x => ?_) 8 _ _ (by omega) rfl (by rw [hset_hset, wr_a])) ⟨rfl, rfl, rfl, rfl, trivial⟩
    refine q_aload_n dX4_loseGrain_64 rfl rfl ?_
    refine q_iload_n dX4_loseGrain_65 rfl rfl ?_
    refine q_iconst (v := 0) dX4_loseGrain_66 rfl ?_
    refine q_iconst (v := 0) dX4_loseGrain_67 rfl ?_
    refine q_callVd dX4_loseGrain_68 wX4_loseGrain_35 (c_put (hat_ne hq hqr) (hat_set hr) (show p < 8 by omega) (show 0 < 10 by omega) _) (hat_ne hq hqr) ⟨_, _, rfl⟩ rfl rfl (Nat.le_of_ble_eq_true rfl) ⟨⟨Nat.le_of_ble_eq_true rfl, Nat.le_of_ble_eq_true rfl⟩, Nat.le_of_ble_eq_true rfl, Nat.le_of_ble_eq_true rfl⟩ ?_
    refine q_iinc1 dX4_loseGrain_71 rfl (by decide) ?_
    refine q_goto 2 dX4_loseGrain_74 (by decide) ?_
    exact ih (p + 1) _ _ _ (by omega) (nI_s p) (by rw [hset_hset, wr_c]) rfl rfl
theorem c_loseGrain (hq : hat as h q (ob 4 [.ref r])) (hr : hat as h r (aI Γ 80 f)) : Det Γ l mX4_loseGrain rX4_loseGrain [.ref q] as h none (hset h r (aI Γ 80 (wearA f))) := by
  refine Con.of (by decide +kernel) rfl rfl (Nat.le_of_ble_eq_true rfl) ?_
  refine q_iconst (v := 0) dX4_loseGrain_0 rfl ?_
  refine q_istore_n dX4_loseGrain_1 rfl (by decide) ?_
  exact lose_loop hq hr 8 0 _ _ _ (by omega) rfl (by rw [wr_0, hset_same]; exact hr.2) rfl rfl
end
end
section
/-! TUNES (X7), MEETING (X3), LAWS (X2), Integer.bitCount, TOWN (X6) -/
section Rules3
variable {Γ : gT} {l : Launch} {μ : mT} {R : Room} {Z : zT} {kc ks pc : Nat} {ls : List (Nat × Value)} {st : List Value} {as : List Nat} {h : aH}
theorem q_gets {index : Nat} {C n d : String} {v : Value} (hd : decode μ.2.2.1 pc = .ok (.getstatic index, 3)) (hZ : ∀ (U : State) (H : Heap), EXT Γ U H → va_Z C n d v (gA Γ) U H) (hw : Cond.fieldLink μ.2.1 index C n d ∈ μ.2.2.2.2.2) (k : V Γ l μ R Z kc ks (pc + 3) ls (v :: st) as h) : V Γ l μ R Z kc ks pc ls st as h := by
  intro p e s m args below meth c H locs lsA C ho hP hS hl
  exact va_gets C.1 C.2.1 (hZ _ _ C.2.2.2.2.2.2.2.2.2.1) hS C.2.2.2.2.1 (C.2.2.2.2.2.1 _ hw) (fun _ z => z) hd (k p e s m args below meth c H locs lsA C ho hP hS hl)
theorem q_ti {t N : Nat} {f : Nat → Value} {i : Int32} {v : Value} (hd : decode μ.2.2.1 pc = .ok (.iaload, 1)) (hT : ∀ (U : State) (H : Heap), EXT Γ U H → va_T .int t N f (gA Γ) U H) (hin : vp_in i N) (hv : f i.toNatClampNeg = v) (k : V Γ l μ R Z kc ks (pc + 1) ls (v :: st) as h) : V Γ l μ R Z kc ks pc ls (.int i :: .ref t :: st) as h := by
  intro p e s m args below meth c H locs lsA C ho hP hS hl
  exact va_ti C.1 C.2.1 (hT _ _ C.2.2.2.2.2.2.2.2.2.1) hS hin hv hd (k p e s m args below meth c H locs lsA C ho hP hS hl)
theorem q_tlen {t N : Nat} {f : Nat → Value} {v : Int32} (hd : decode μ.2.2.1 pc = .ok (.arraylength, 1)) (hT : ∀ (U : State) (H : Heap), EXT Γ U H → va_T .int t N f (gA Γ) U H) (hv : Int32.ofNat N = v) (k : V Γ l μ R Z kc ks (pc + 1) ls (.int v :: st) as h) : V Γ l μ R Z kc ks pc ls (.ref t :: st) as h := by
  intro p e s m args below meth c H locs lsA C ho hP hS hl
  exact va_tlen C.1 C.2.1 (hT _ _ C.2.2.2.2.2.2.2.2.2.1) hS hv hd (k p e s m args below meth c H locs lsA C ho hP hS hl)
end Rules3
abbrev mX7_of : mT := (yX7_of, RX7, cX7_of, 2, (some .int), wsX7_of)
abbrev rX7_of : Room := { frames := 0, cells := 0, slots := 0, locals := 0 }
theorem dX7_of_0 : decode cX7_of 0 = .ok (.aload_n 0, 1) := by decide +kernel
theorem dX7_of_1 : decode cX7_of 1 = .ok (.getfield 9, 3) := by decide +kernel
theorem dX7_of_4 : decode cX7_of 4 = .ok (.iload_n 1, 1) := by decide +kernel
theorem dX7_of_5 : decode cX7_of 5 = .ok (.iaload, 1) := by decide +kernel
theorem dX7_of_6 : decode cX7_of 6 = .ok (.ireturn, 1) := by decide +kernel
theorem iX7_of_7 : ∀ w ∈ wsX70, w ∈ wsX7_of := fun w h => List.mem_cons_of_mem _ (List.mem_append_right _ h)
theorem fX7_of_9 : FL mX7_of 9 7 0 := ⟨_, _, _, rfl, by decide, iX7_of_7, by decide +kernel⟩
abbrev mX7_set : mT := (yX7_set, RX7, cX7_set, 4, (some .int), wsX7_set)
abbrev rX7_set : Room := { frames := 0, cells := 0, slots := 0, locals := 0 }
theorem dX7_set_0 : decode cX7_set 0 = .ok (.iload_n 1, 1) := by decide +kernel
theorem dX7_set_1 : decode cX7_set 1 = .ok (.ifCond .lt 30, 3) := by decide +kernel
theorem dX7_set_4 : decode cX7_set 4 = .ok (.iload_n 1, 1) := by decide +kernel
theorem dX7_set_5 : decode cX7_set 5 = .ok (.aload_n 0, 1) := by decide +kernel
theorem dX7_set_6 : decode cX7_set 6 = .ok (.getfield 9, 3) := by decide +kernel
theorem dX7_set_9 : decode cX7_set 9 = .ok (.arraylength, 1) := by decide +kernel
theorem dX7_set_10 : decode cX7_set 10 = .ok (.if_icmp .ge 21, 3) := by decide +kernel
theorem dX7_set_13 : decode cX7_set 13 = .ok (.iload_n 2, 1) := by decide +kernel
theorem dX7_set_14 : decode cX7_set 14 = .ok (.getstatic 15, 3) := by decide +kernel
theorem dX7_set_17 : decode cX7_set 17 = .ok (.iload_n 1, 1) := by decide +kernel
theorem dX7_set_18 : decode cX7_set 18 = .ok (.iaload, 1) := by decide +kernel
theorem dX7_set_19 : decode cX7_set 19 = .ok (.if_icmp .lt 12, 3) := by decide +kernel
theorem dX7_set_22 : decode cX7_set 22 = .ok (.iload_n 2, 1) := by decide +kernel
theorem dX7_set_23 : decode cX7_set 23 = .ok (.getstatic 18, 3) := by decide +kernel
theorem dX7_set_26 : decode cX7_set 26 = .ok (.iload_n 1, 1) := by decide +kernel
theorem dX7_set_27 : decode cX7_set 27 = .ok (.iaload, 1) := by decide +kernel
theorem dX7_set_28 : decode cX7_set 28 = .ok (.if_icmp .le 5, 3) := by decide +kernel
theorem dX7_set_31 : decode cX7_set 31 = .ok (.iconst (-1), 1) := by decide +kernel
theorem dX7_set_32 : decode cX7_set 32 = .ok (.ireturn, 1) := by decide +kernel
theorem dX7_set_33 : decode cX7_set 33 = .ok (.aload_n 0, 1) := by decide +kernel
theorem dX7_set_34 : decode cX7_set 34 = .ok (.getfield 9, 3) := by decide +kernel
theorem dX7_set_37 : decode cX7_set 37 = .ok (.iload_n 1, 1) := by decide +kernel
theorem dX7_set_38 : decode cX7_set 38 = .ok (.iaload, 1) := by decide +kernel
theorem dX7_set_39 : decode cX7_set 39 = .ok (.istore_n 3, 1) := by decide +kernel
theorem dX7_set_40 : decode cX7_set 40 = .ok (.aload_n 0, 1) := by decide +kernel
theorem dX7_set_41 : decode cX7_set 41 = .ok (.getfield 9, 3) := by decide +kernel
theorem dX7_set_44 : decode cX7_set 44 = .ok (.iload_n 1, 1) := by decide +kernel
theorem dX7_set_45 : decode cX7_set 45 = .ok (.iload_n 2, 1) := by decide +kernel
theorem dX7_set_46 : decode cX7_set 46 = .ok (.iastore, 1) := by decide +kernel
theorem dX7_set_47 : decode cX7_set 47 = .ok (.iload_n 3, 1) := by decide +kernel
theorem dX7_set_48 : decode cX7_set 48 = .ok (.ireturn, 1) := by decide +kernel
theorem iX7_set_7 : ∀ w ∈ wsX70, w ∈ wsX7_set := fun w h => List.mem_cons_of_mem _ (List.mem_append_right _ h)
theorem fX7_set_9 : FL mX7_set 9 7 0 := ⟨_, _, _, rfl, by decide, iX7_set_7, by decide +kernel⟩
abbrev mX3_forget : mT := (yX3_forget, RX3, cX3_forget, 1, none, wsX3_forget)
abbrev rX3_forget : Room := { frames := 0, cells := 0, slots := 0, locals := 0 }
theorem dX3_forget_0 : decode cX3_forget 0 = .ok (.aload_n 0, 1) := by decide +kernel
theorem dX3_forget_1 : decode cX3_forget 1 = .ok (.bipush (-9), 2) := by decide +kernel
theorem dX3_forget_3 : decode cX3_forget 3 = .ok (.putfield 9, 3) := by decide +kernel
theorem dX3_forget_6 : decode cX3_forget 6 = .ok (.aload_n 0, 1) := by decide +kernel
theorem dX3_forget_7 : decode cX3_forget 7 = .ok (.bipush (-9), 2) := by decide +kernel
theorem dX3_forget_9 : decode cX3_forget 9 = .ok (.putfield 15, 3) := by decide +kernel
theorem dX3_forget_12 : decode cX3_forget 12 = .ok (.aload_n 0, 1) := by decide +kernel
theorem dX3_forget_13 : decode cX3_forget 13 = .ok (.bipush (-9), 2) := by decide +kernel
theorem dX3_forget_15 : decode cX3_forget 15 = .ok (.putfield 18, 3) := by decide +kernel
theorem dX3_forget_18 : decode cX3_forget 18 = .ok (.aload_n 0, 1) := by decide +kernel
theorem dX3_forget_19 : decode cX3_forget 19 = .ok (.bipush (-9), 2) := by decide +kernel
theorem dX3_forget_21 : decode cX3_forget 21 = .ok (.putfield 21, 3) := by decide +kernel
theorem dX3_forget_24 : decode cX3_forget 24 = .ok (.aload_n 0, 1) := by decide +kernel
theorem dX3_forget_25 : decode cX3_forget 25 = .ok (.iconst 0, 1) := by decide +kernel
theorem dX3_forget_26 : decode cX3_forget 26 = .ok (.putfield 24, 3) := by decide +kernel
theorem dX3_forget_29 : decode cX3_forget 29 = .ok (.return_, 1) := by decide +kernel
theorem iX3_forget_3 : ∀ w ∈ wsX30, w ∈ wsX3_forget := fun w h => List.mem_cons_of_mem _ (List.mem_append_right _ h)
theorem pX3_forget_9 : FP mX3_forget 9 3 0 .int false := ⟨_, _, _, tyX3, rfl, by decide, iX3_forget_3, by decide +kernel, tyX3_ok, nmX3, rfl, rfl, fun z => absurd z (by decide)⟩
theorem pX3_forget_15 : FP mX3_forget 15 3 1 .int false := ⟨_, _, _, tyX3, rfl, by decide, iX3_forget_3, by decide +kernel, tyX3_ok, nmX3, rfl, rfl, fun z => absurd z (by decide)⟩
theorem pX3_forget_18 : FP mX3_forget 18 3 2 .int false := ⟨_, _, _, tyX3, rfl, by decide, iX3_forget_3, by decide +kernel, tyX3_ok, nmX3, rfl, rfl, fun z => absurd z (by decide)⟩
theorem pX3_forget_21 : FP mX3_forget 21 3 3 .int false := ⟨_, _, _, tyX3, rfl, by decide, iX3_forget_3, by decide +kernel, tyX3_ok, nmX3, rfl, rfl, fun z => absurd z (by decide)⟩
theorem pX3_forget_24 : FP mX3_forget 24 3 4 .int false := ⟨_, _, _, tyX3, rfl, by decide, iX3_forget_3, by decide +kernel, tyX3_ok, nmX3, rfl, rfl, fun z => absurd z (by decide)⟩
abbrev mX3_note : mT := (yX3_note, RX3, cX3_note, 5, none, wsX3_note)
abbrev rX3_note : Room := { frames := 0, cells := 0, slots := 0, locals := 0 }
theorem dX3_note_0 : decode cX3_note 0 = .ok (.aload_n 0, 1) := by decide +kernel
theorem dX3_note_1 : decode cX3_note 1 = .ok (.iload_n 1, 1) := by decide +kernel
theorem dX3_note_2 : decode cX3_note 2 = .ok (.putfield 9, 3) := by decide +kernel
theorem dX3_note_5 : decode cX3_note 5 = .ok (.aload_n 0, 1) := by decide +kernel
theorem dX3_note_6 : decode cX3_note 6 = .ok (.iload_n 2, 1) := by decide +kernel
theorem dX3_note_7 : decode cX3_note 7 = .ok (.putfield 15, 3) := by decide +kernel
theorem dX3_note_10 : decode cX3_note 10 = .ok (.aload_n 0, 1) := by decide +kernel
theorem dX3_note_11 : decode cX3_note 11 = .ok (.iload_n 3, 1) := by decide +kernel
theorem dX3_note_12 : decode cX3_note 12 = .ok (.putfield 18, 3) := by decide +kernel
theorem dX3_note_15 : decode cX3_note 15 = .ok (.aload_n 0, 1) := by decide +kernel
theorem dX3_note_16 : decode cX3_note 16 = .ok (.iload 4, 2) := by decide +kernel
theorem dX3_note_18 : decode cX3_note 18 = .ok (.putfield 21, 3) := by decide +kernel
theorem dX3_note_21 : decode cX3_note 21 = .ok (.aload_n 0, 1) := by decide +kernel
theorem dX3_note_22 : decode cX3_note 22 = .ok (.dup, 1) := by decide +kernel
theorem dX3_note_23 : decode cX3_note 23 = .ok (.getfield 24, 3) := by decide +kernel
theorem dX3_note_26 : decode cX3_note 26 = .ok (.iconst 1, 1) := by decide +kernel
theorem dX3_note_27 : decode cX3_note 27 = .ok (.iadd, 1) := by decide +kernel
theorem dX3_note_28 : decode cX3_note 28 = .ok (.putfield 24, 3) := by decide +kernel
theorem dX3_note_31 : decode cX3_note 31 = .ok (.return_, 1) := by decide +kernel
theorem iX3_note_3 : ∀ w ∈ wsX30, w ∈ wsX3_note := fun w h => List.mem_cons_of_mem _ (List.mem_append_right _ h)
theorem pX3_note_9 : FP mX3_note 9 3 0 .int false := ⟨_, _, _, tyX3, rfl, by decide, iX3_note_3, by decide +kernel, tyX3_ok, nmX3, rfl, rfl, fun z => absurd z (by decide)⟩
theorem pX3_note_15 : FP mX3_note 15 3 1 .int false := ⟨_, _, _, tyX3, rfl, by decide, iX3_note_3, by decide +kernel, tyX3_ok, nmX3, rfl, rfl, fun z => absurd z (by decide)⟩
theorem pX3_note_18 : FP mX3_note 18 3 2 .int false := ⟨_, _, _, tyX3, rfl, by decide, iX3_note_3, by decide +kernel, tyX3_ok, nmX3, rfl, rfl, fun z => absurd z (by decide)⟩
theorem pX3_note_21 : FP mX3_note 21 3 3 .int false := ⟨_, _, _, tyX3, rfl, by decide, iX3_note_3, by decide +kernel, tyX3_ok, nmX3, rfl, rfl, fun z => absurd z (by decide)⟩
theorem fX3_note_24 : FL mX3_note 24 3 4 := ⟨_, _, _, rfl, by decide, iX3_note_3, by decide +kernel⟩
theorem pX3_note_24 : FP mX3_note 24 3 4 .int false := ⟨_, _, _, tyX3, rfl, by decide, iX3_note_3, by decide +kernel, tyX3_ok, nmX3, rfl, rfl, fun z => absurd z (by decide)⟩
abbrev mX2_set : mT := (yX2_set, RX2, cX2_set, 5, (some .int), wsX2_set)
abbrev rX2_set : Room := { frames := 0, cells := 0, slots := 0, locals := 0 }
theorem dX2_set_0 : decode cX2_set 0 = .ok (.iload_n 1, 1) := by decide +kernel
theorem dX2_set_1 : decode cX2_set 1 = .ok (.ifCond .lt 28, 3) := by decide +kernel
theorem dX2_set_4 : decode cX2_set 4 = .ok (.iload_n 1, 1) := by decide +kernel
theorem dX2_set_5 : decode cX2_set 5 = .ok (.bipush 9, 2) := by decide +kernel
theorem dX2_set_7 : decode cX2_set 7 = .ok (.if_icmp .ge 22, 3) := by decide +kernel
theorem dX2_set_10 : decode cX2_set 10 = .ok (.iload_n 2, 1) := by decide +kernel
theorem dX2_set_11 : decode cX2_set 11 = .ok (.ifCond .lt 18, 3) := by decide +kernel
theorem dX2_set_14 : decode cX2_set 14 = .ok (.iload_n 2, 1) := by decide +kernel
theorem dX2_set_15 : decode cX2_set 15 = .ok (.iconst 3, 1) := by decide +kernel
theorem dX2_set_16 : decode cX2_set 16 = .ok (.if_icmp .ge 13, 3) := by decide +kernel
theorem dX2_set_19 : decode cX2_set 19 = .ok (.iload_n 3, 1) := by decide +kernel
theorem dX2_set_20 : decode cX2_set 20 = .ok (.ifCond .lt 9, 3) := by decide +kernel
theorem dX2_set_23 : decode cX2_set 23 = .ok (.iload_n 3, 1) := by decide +kernel
theorem dX2_set_24 : decode cX2_set 24 = .ok (.bipush 99, 2) := by decide +kernel
theorem dX2_set_26 : decode cX2_set 26 = .ok (.if_icmp .le 5, 3) := by decide +kernel
theorem dX2_set_29 : decode cX2_set 29 = .ok (.iconst (-1), 1) := by decide +kernel
theorem dX2_set_30 : decode cX2_set 30 = .ok (.ireturn, 1) := by decide +kernel
theorem dX2_set_31 : decode cX2_set 31 = .ok (.aload_n 0, 1) := by decide +kernel
theorem dX2_set_32 : decode cX2_set 32 = .ok (.getfield 11, 3) := by decide +kernel
theorem dX2_set_35 : decode cX2_set 35 = .ok (.iload_n 1, 1) := by decide +kernel
theorem dX2_set_36 : decode cX2_set 36 = .ok (.iconst 3, 1) := by decide +kernel
theorem dX2_set_37 : decode cX2_set 37 = .ok (.imul, 1) := by decide +kernel
theorem dX2_set_38 : decode cX2_set 38 = .ok (.iload_n 2, 1) := by decide +kernel
theorem dX2_set_39 : decode cX2_set 39 = .ok (.iadd, 1) := by decide +kernel
theorem dX2_set_40 : decode cX2_set 40 = .ok (.iaload, 1) := by decide +kernel
theorem dX2_set_41 : decode cX2_set 41 = .ok (.istore 4, 2) := by decide +kernel
theorem dX2_set_43 : decode cX2_set 43 = .ok (.aload_n 0, 1) := by decide +kernel
theorem dX2_set_44 : decode cX2_set 44 = .ok (.getfield 11, 3) := by decide +kernel
theorem dX2_set_47 : decode cX2_set 47 = .ok (.iload_n 1, 1) := by decide +kernel
theorem dX2_set_48 : decode cX2_set 48 = .ok (.iconst 3, 1) := by decide +kernel
theorem dX2_set_49 : decode cX2_set 49 = .ok (.imul, 1) := by decide +kernel
theorem dX2_set_50 : decode cX2_set 50 = .ok (.iload_n 2, 1) := by decide +kernel
theorem dX2_set_51 : decode cX2_set 51 = .ok (.iadd, 1) := by decide +kernel
theorem dX2_set_52 : decode cX2_set 52 = .ok (.iload_n 3, 1) := by decide +kernel
theorem dX2_set_53 : decode cX2_set 53 = .ok (.iastore, 1) := by decide +kernel
theorem dX2_set_54 : decode cX2_set 54 = .ok (.iload 4, 2) := by decide +kernel
theorem dX2_set_56 : decode cX2_set 56 = .ok (.ireturn, 1) := by decide +kernel
theorem iX2_set_2 : ∀ w ∈ wsX20, w ∈ wsX2_set := fun w h => List.mem_cons_of_mem _ (List.mem_append_right _ h)
theorem fX2_set_11 : FL mX2_set 11 2 0 := ⟨_, _, _, rfl, by decide, iX2_set_2, by decide +kernel⟩
abbrev mX2_sumOf : mT := (yX2_sumOf, RX2, cX2_sumOf, 5, (some .int), wsX2_sumOf)
abbrev rX2_sumOf : Room := { frames := 0, cells := 0, slots := 0, locals := 0 }
theorem dX2_sumOf_0 : decode cX2_sumOf 0 = .ok (.iconst 0, 1) := by decide +kernel
theorem dX2_sumOf_1 : decode cX2_sumOf 1 = .ok (.istore_n 3, 1) := by decide +kernel
theorem dX2_sumOf_2 : decode cX2_sumOf 2 = .ok (.iconst 0, 1) := by decide +kernel
theorem dX2_sumOf_3 : decode cX2_sumOf 3 = .ok (.istore 4, 2) := by decide +kernel
theorem dX2_sumOf_5 : decode cX2_sumOf 5 = .ok (.iload 4, 2) := by decide +kernel
theorem dX2_sumOf_7 : decode cX2_sumOf 7 = .ok (.bipush 9, 2) := by decide +kernel
theorem dX2_sumOf_9 : decode cX2_sumOf 9 = .ok (.if_icmp .ge 33, 3) := by decide +kernel
theorem dX2_sumOf_12 : decode cX2_sumOf 12 = .ok (.iload_n 1, 1) := by decide +kernel
theorem dX2_sumOf_13 : decode cX2_sumOf 13 = .ok (.iload 4, 2) := by decide +kernel
theorem dX2_sumOf_15 : decode cX2_sumOf 15 = .ok (.ishr, 1) := by decide +kernel
theorem dX2_sumOf_16 : decode cX2_sumOf 16 = .ok (.iconst 1, 1) := by decide +kernel
theorem dX2_sumOf_17 : decode cX2_sumOf 17 = .ok (.iand, 1) := by decide +kernel
theorem dX2_sumOf_18 : decode cX2_sumOf 18 = .ok (.iconst 1, 1) := by decide +kernel
theorem dX2_sumOf_19 : decode cX2_sumOf 19 = .ok (.if_icmp .ne 17, 3) := by decide +kernel
theorem dX2_sumOf_22 : decode cX2_sumOf 22 = .ok (.iload_n 3, 1) := by decide +kernel
theorem dX2_sumOf_23 : decode cX2_sumOf 23 = .ok (.aload_n 0, 1) := by decide +kernel
theorem dX2_sumOf_24 : decode cX2_sumOf 24 = .ok (.getfield 11, 3) := by decide +kernel
theorem dX2_sumOf_27 : decode cX2_sumOf 27 = .ok (.iload 4, 2) := by decide +kernel
theorem dX2_sumOf_29 : decode cX2_sumOf 29 = .ok (.iconst 3, 1) := by decide +kernel
theorem dX2_sumOf_30 : decode cX2_sumOf 30 = .ok (.imul, 1) := by decide +kernel
theorem dX2_sumOf_31 : decode cX2_sumOf 31 = .ok (.iload_n 2, 1) := by decide +kernel
theorem dX2_sumOf_32 : decode cX2_sumOf 32 = .ok (.iadd, 1) := by decide +kernel
theorem dX2_sumOf_33 : decode cX2_sumOf 33 = .ok (.iaload, 1) := by decide +kernel
theorem dX2_sumOf_34 : decode cX2_sumOf 34 = .ok (.iadd, 1) := by decide +kernel
theorem dX2_sumOf_35 : decode cX2_sumOf 35 = .ok (.istore_n 3, 1) := by decide +kernel
theorem dX2_sumOf_36 : decode cX2_sumOf 36 = .ok (.iinc 4 1, 3) := by decide +kernel
theorem dX2_sumOf_39 : decode cX2_sumOf 39 = .ok (.goto (-34), 3) := by decide +kernel
theorem dX2_sumOf_42 : decode cX2_sumOf 42 = .ok (.iload_n 3, 1) := by decide +kernel
theorem dX2_sumOf_43 : decode cX2_sumOf 43 = .ok (.ireturn, 1) := by decide +kernel
theorem iX2_sumOf_2 : ∀ w ∈ wsX20, w ∈ wsX2_sumOf := fun w h => List.mem_cons_of_mem _ (List.mem_append_right _ h)
theorem fX2_sumOf_11 : FL mX2_sumOf 11 2 0 := ⟨_, _, _, rfl, by decide, iX2_sumOf_2, by decide +kernel⟩
abbrev mX2_cheapestSet : mT := (yX2_cheapestSet, RX2, cX2_cheapestSet, 7, (some .int), wsX2_cheapestSet)
abbrev rX2_cheapestSet : Room := { frames := 1, cells := 0, slots := 0, locals := 24 }
theorem dX2_cheapestSet_0 : decode cX2_cheapestSet 0 = .ok (.bipush (-9), 2) := by decide +kernel
theorem dX2_cheapestSet_2 : decode cX2_cheapestSet 2 = .ok (.istore_n 3, 1) := by decide +kernel
theorem dX2_cheapestSet_3 : decode cX2_cheapestSet 3 = .ok (.ldc 17, 2) := by decide +kernel
theorem dX2_cheapestSet_5 : decode cX2_cheapestSet 5 = .ok (.istore 4, 2) := by decide +kernel
theorem dX2_cheapestSet_7 : decode cX2_cheapestSet 7 = .ok (.iconst 0, 1) := by decide +kernel
theorem dX2_cheapestSet_8 : decode cX2_cheapestSet 8 = .ok (.istore 5, 2) := by decide +kernel
theorem dX2_cheapestSet_10 : decode cX2_cheapestSet 10 = .ok (.iload 5, 2) := by decide +kernel
theorem dX2_cheapestSet_12 : decode cX2_cheapestSet 12 = .ok (.sipush 512, 3) := by decide +kernel
theorem dX2_cheapestSet_15 : decode cX2_cheapestSet 15 = .ok (.if_icmp .ge 54, 3) := by decide +kernel
theorem dX2_cheapestSet_18 : decode cX2_cheapestSet 18 = .ok (.aload_n 0, 1) := by decide +kernel
theorem dX2_cheapestSet_19 : decode cX2_cheapestSet 19 = .ok (.iload 5, 2) := by decide +kernel
theorem dX2_cheapestSet_21 : decode cX2_cheapestSet 21 = .ok (.iconst 0, 1) := by decide +kernel
theorem dX2_cheapestSet_22 : decode cX2_cheapestSet 22 = .ok (.invokevirtual 18, 3) := by decide +kernel
theorem dX2_cheapestSet_25 : decode cX2_cheapestSet 25 = .ok (.istore 6, 2) := by decide +kernel
theorem dX2_cheapestSet_27 : decode cX2_cheapestSet 27 = .ok (.iload 6, 2) := by decide +kernel
theorem dX2_cheapestSet_29 : decode cX2_cheapestSet 29 = .ok (.iload 4, 2) := by decide +kernel
theorem dX2_cheapestSet_31 : decode cX2_cheapestSet 31 = .ok (.if_icmp .ge 32, 3) := by decide +kernel
theorem dX2_cheapestSet_34 : decode cX2_cheapestSet 34 = .ok (.aload_n 0, 1) := by decide +kernel
theorem dX2_cheapestSet_35 : decode cX2_cheapestSet 35 = .ok (.iload 5, 2) := by decide +kernel
theorem dX2_cheapestSet_37 : decode cX2_cheapestSet 37 = .ok (.iconst 1, 1) := by decide +kernel
theorem dX2_cheapestSet_38 : decode cX2_cheapestSet 38 = .ok (.invokevirtual 18, 3) := by decide +kernel
theorem dX2_cheapestSet_41 : decode cX2_cheapestSet 41 = .ok (.iload_n 1, 1) := by decide +kernel
theorem dX2_cheapestSet_42 : decode cX2_cheapestSet 42 = .ok (.if_icmp .lt 21, 3) := by decide +kernel
theorem dX2_cheapestSet_45 : decode cX2_cheapestSet 45 = .ok (.aload_n 0, 1) := by decide +kernel
theorem dX2_cheapestSet_46 : decode cX2_cheapestSet 46 = .ok (.iload 5, 2) := by decide +kernel
theorem dX2_cheapestSet_48 : decode cX2_cheapestSet 48 = .ok (.iconst 2, 1) := by decide +kernel
theorem dX2_cheapestSet_49 : decode cX2_cheapestSet 49 = .ok (.invokevirtual 18, 3) := by decide +kernel
theorem dX2_cheapestSet_52 : decode cX2_cheapestSet 52 = .ok (.iload_n 2, 1) := by decide +kernel
theorem dX2_cheapestSet_53 : decode cX2_cheapestSet 53 = .ok (.if_icmp .lt 10, 3) := by decide +kernel
theorem dX2_cheapestSet_56 : decode cX2_cheapestSet 56 = .ok (.iload 5, 2) := by decide +kernel
theorem dX2_cheapestSet_58 : decode cX2_cheapestSet 58 = .ok (.istore_n 3, 1) := by decide +kernel
theorem dX2_cheapestSet_59 : decode cX2_cheapestSet 59 = .ok (.iload 6, 2) := by decide +kernel
theorem dX2_cheapestSet_61 : decode cX2_cheapestSet 61 = .ok (.istore 4, 2) := by decide +kernel
theorem dX2_cheapestSet_63 : decode cX2_cheapestSet 63 = .ok (.iinc 5 1, 3) := by decide +kernel
theorem dX2_cheapestSet_66 : decode cX2_cheapestSet 66 = .ok (.goto (-56), 3) := by decide +kernel
theorem dX2_cheapestSet_69 : decode cX2_cheapestSet 69 = .ok (.iload_n 3, 1) := by decide +kernel
theorem dX2_cheapestSet_70 : decode cX2_cheapestSet 70 = .ok (.ireturn, 1) := by decide +kernel
set_option maxRecDepth 20000 in
theorem ggX2_cheapestSet_X2_sumOf : GoodIn wsX2_cheapestSet wsX2_sumOf := goodIn_r _ [6, 7, 8] (by decide +kernel) (by decide +kernel)
set_option maxRecDepth 20000 in
theorem gX2_cheapestSet_X2_sumOf : GoodIn wsX2_cheapestSet (wsV RX2 18 RX2 yX2_sumOf wsX2_sumOf) := goodIn_app (goodIn_of _ (by decide +kernel)) ggX2_cheapestSet_X2_sumOf
theorem wX2_cheapestSet_18 : CWV mX2_cheapestSet 18 mX2_sumOf 2 := ⟨gX2_cheapestSet_X2_sumOf, ⟨_, rfl⟩, rfl, by decide +kernel, by decide +kernel, by decide +kernel⟩
abbrev mJ6_bitCount_0f7a4 : mT := (yJ6_bitCount_0f7a4, RJ6, cJ6_bitCount_0f7a4, 1, (some .int), wsJ6_bitCount_0f7a4)
abbrev rJ6_bitCount_0f7a4 : Room := { frames := 0, cells := 0, slots := 0, locals := 0 }
theorem dJ6_bitCount_0f7a4_0 : decode cJ6_bitCount_0f7a4 0 = .ok (.iload_n 0, 1) := by decide +kernel
theorem dJ6_bitCount_0f7a4_1 : decode cJ6_bitCount_0f7a4 1 = .ok (.iload_n 0, 1) := by decide +kernel
theorem dJ6_bitCount_0f7a4_2 : decode cJ6_bitCount_0f7a4 2 = .ok (.iconst 1, 1) := by decide +kernel
theorem dJ6_bitCount_0f7a4_3 : decode cJ6_bitCount_0f7a4 3 = .ok (.iushr, 1) := by decide +kernel
theorem dJ6_bitCount_0f7a4_4 : decode cJ6_bitCount_0f7a4 4 = .ok (.ldc_w 265, 3) := by decide +kernel
theorem dJ6_bitCount_0f7a4_7 : decode cJ6_bitCount_0f7a4 7 = .ok (.iand, 1) := by decide +kernel
theorem dJ6_bitCount_0f7a4_8 : decode cJ6_bitCount_0f7a4 8 = .ok (.isub, 1) := by decide +kernel
theorem dJ6_bitCount_0f7a4_9 : decode cJ6_bitCount_0f7a4 9 = .ok (.istore_n 0, 1) := by decide +kernel
theorem dJ6_bitCount_0f7a4_10 : decode cJ6_bitCount_0f7a4 10 = .ok (.iload_n 0, 1) := by decide +kernel
theorem dJ6_bitCount_0f7a4_11 : decode cJ6_bitCount_0f7a4 11 = .ok (.ldc_w 266, 3) := by decide +kernel
theorem dJ6_bitCount_0f7a4_14 : decode cJ6_bitCount_0f7a4 14 = .ok (.iand, 1) := by decide +kernel
theorem dJ6_bitCount_0f7a4_15 : decode cJ6_bitCount_0f7a4 15 = .ok (.iload_n 0, 1) := by decide +kernel
theorem dJ6_bitCount_0f7a4_16 : decode cJ6_bitCount_0f7a4 16 = .ok (.iconst 2, 1) := by decide +kernel
theorem dJ6_bitCount_0f7a4_17 : decode cJ6_bitCount_0f7a4 17 = .ok (.iushr, 1) := by decide +kernel
theorem dJ6_bitCount_0f7a4_18 : decode cJ6_bitCount_0f7a4 18 = .ok (.ldc_w 266, 3) := by decide +kernel
theorem dJ6_bitCount_0f7a4_21 : decode cJ6_bitCount_0f7a4 21 = .ok (.iand, 1) := by decide +kernel
theorem dJ6_bitCount_0f7a4_22 : decode cJ6_bitCount_0f7a4 22 = .ok (.iadd, 1) := by decide +kernel
theorem dJ6_bitCount_0f7a4_23 : decode cJ6_bitCount_0f7a4 23 = .ok (.istore_n 0, 1) := by decide +kernel
theorem dJ6_bitCount_0f7a4_24 : decode cJ6_bitCount_0f7a4 24 = .ok (.iload_n 0, 1) := by decide +kernel
theorem dJ6_bitCount_0f7a4_25 : decode cJ6_bitCount_0f7a4 25 = .ok (.iload_n 0, 1) := by decide +kernel
theorem dJ6_bitCount_0f7a4_26 : decode cJ6_bitCount_0f7a4 26 = .ok (.iconst 4, 1) := by decide +kernel
theorem dJ6_bitCount_0f7a4_27 : decode cJ6_bitCount_0f7a4 27 = .ok (.iushr, 1) := by decide +kernel
theorem dJ6_bitCount_0f7a4_28 : decode cJ6_bitCount_0f7a4 28 = .ok (.iadd, 1) := by decide +kernel
theorem dJ6_bitCount_0f7a4_29 : decode cJ6_bitCount_0f7a4 29 = .ok (.ldc_w 267, 3) := by decide +kernel
theorem dJ6_bitCount_0f7a4_32 : decode cJ6_bitCount_0f7a4 32 = .ok (.iand, 1) := by decide +kernel
theorem dJ6_bitCount_0f7a4_33 : decode cJ6_bitCount_0f7a4 33 = .ok (.istore_n 0, 1) := by decide +kernel
theorem dJ6_bitCount_0f7a4_34 : decode cJ6_bitCount_0f7a4 34 = .ok (.iload_n 0, 1) := by decide +kernel
theorem dJ6_bitCount_0f7a4_35 : decode cJ6_bitCount_0f7a4 35 = .ok (.iload_n 0, 1) := by decide +kernel
theorem dJ6_bitCount_0f7a4_36 : decode cJ6_bitCount_0f7a4 36 = .ok (.bipush 8, 2) := by decide +kernel
theorem dJ6_bitCount_0f7a4_38 : decode cJ6_bitCount_0f7a4 38 = .ok (.iushr, 1) := by decide +kernel
theorem dJ6_bitCount_0f7a4_39 : decode cJ6_bitCount_0f7a4 39 = .ok (.iadd, 1) := by decide +kernel
theorem dJ6_bitCount_0f7a4_40 : decode cJ6_bitCount_0f7a4 40 = .ok (.istore_n 0, 1) := by decide +kernel
theorem dJ6_bitCount_0f7a4_41 : decode cJ6_bitCount_0f7a4 41 = .ok (.iload_n 0, 1) := by decide +kernel
theorem dJ6_bitCount_0f7a4_42 : decode cJ6_bitCount_0f7a4 42 = .ok (.iload_n 0, 1) := by decide +kernel
theorem dJ6_bitCount_0f7a4_43 : decode cJ6_bitCount_0f7a4 43 = .ok (.bipush 16, 2) := by decide +kernel
theorem dJ6_bitCount_0f7a4_45 : decode cJ6_bitCount_0f7a4 45 = .ok (.iushr, 1) := by decide +kernel
theorem dJ6_bitCount_0f7a4_46 : decode cJ6_bitCount_0f7a4 46 = .ok (.iadd, 1) := by decide +kernel
theorem dJ6_bitCount_0f7a4_47 : decode cJ6_bitCount_0f7a4 47 = .ok (.istore_n 0, 1) := by decide +kernel
theorem dJ6_bitCount_0f7a4_48 : decode cJ6_bitCount_0f7a4 48 = .ok (.iload_n 0, 1) := by decide +kernel
theorem dJ6_bitCount_0f7a4_49 : decode cJ6_bitCount_0f7a4 49 = .ok (.bipush 63, 2) := by decide +kernel
theorem dJ6_bitCount_0f7a4_51 : decode cJ6_bitCount_0f7a4 51 = .ok (.iand, 1) := by decide +kernel
theorem dJ6_bitCount_0f7a4_52 : decode cJ6_bitCount_0f7a4 52 = .ok (.ireturn, 1) := by decide +kernel
abbrev mX6_everybody : mT := (yX6_everybody, RX6, cX6_everybody, 1, (some .int), wsX6_everybody)
abbrev rX6_everybody : Room := { frames := 0, cells := 0, slots := 0, locals := 0 }
theorem dX6_everybody_0 : decode cX6_everybody 0 = .ok (.iconst 1, 1) := by decide +kernel
theorem dX6_everybody_1 : decode cX6_everybody 1 = .ok (.aload_n 0, 1) := by decide +kernel
theorem dX6_everybody_2 : decode cX6_everybody 2 = .ok (.getfield 24, 3) := by decide +kernel
theorem dX6_everybody_5 : decode cX6_everybody 5 = .ok (.ishl, 1) := by decide +kernel
theorem dX6_everybody_6 : decode cX6_everybody 6 = .ok (.iconst 1, 1) := by decide +kernel
theorem dX6_everybody_7 : decode cX6_everybody 7 = .ok (.isub, 1) := by decide +kernel
theorem dX6_everybody_8 : decode cX6_everybody 8 = .ok (.ireturn, 1) := by decide +kernel
theorem iX6_everybody_6 : ∀ w ∈ wsX60, w ∈ wsX6_everybody := fun w h => List.mem_cons_of_mem _ (List.mem_append_right _ h)
theorem fX6_everybody_24 : FL mX6_everybody 24 6 4 := ⟨_, _, _, rfl, by decide, iX6_everybody_6, by decide +kernel⟩
abbrev mX6_afterRound : mT := (yX6_afterRound, RX6, cX6_afterRound, 5, (some .int), wsX6_afterRound)
abbrev rX6_afterRound : Room := { frames := 1, cells := 0, slots := 0, locals := 20 }
theorem dX6_afterRound_0 : decode cX6_afterRound 0 = .ok (.iload_n 1, 1) := by decide +kernel
theorem dX6_afterRound_1 : decode cX6_afterRound 1 = .ok (.invokestatic 28, 3) := by decide +kernel
theorem dX6_afterRound_4 : decode cX6_afterRound 4 = .ok (.istore_n 2, 1) := by decide +kernel
theorem dX6_afterRound_5 : decode cX6_afterRound 5 = .ok (.iload_n 1, 1) := by decide +kernel
theorem dX6_afterRound_6 : decode cX6_afterRound 6 = .ok (.istore_n 3, 1) := by decide +kernel
theorem dX6_afterRound_7 : decode cX6_afterRound 7 = .ok (.iconst 0, 1) := by decide +kernel
theorem dX6_afterRound_8 : decode cX6_afterRound 8 = .ok (.istore 4, 2) := by decide +kernel
theorem dX6_afterRound_10 : decode cX6_afterRound 10 = .ok (.iload 4, 2) := by decide +kernel
theorem dX6_afterRound_12 : decode cX6_afterRound 12 = .ok (.aload_n 0, 1) := by decide +kernel
theorem dX6_afterRound_13 : decode cX6_afterRound 13 = .ok (.getfield 24, 3) := by decide +kernel
theorem dX6_afterRound_16 : decode cX6_afterRound 16 = .ok (.if_icmp .ge 27, 3) := by decide +kernel
theorem dX6_afterRound_19 : decode cX6_afterRound 19 = .ok (.iload_n 2, 1) := by decide +kernel
theorem dX6_afterRound_20 : decode cX6_afterRound 20 = .ok (.aload_n 0, 1) := by decide +kernel
theorem dX6_afterRound_21 : decode cX6_afterRound 21 = .ok (.getfield 21, 3) := by decide +kernel
theorem dX6_afterRound_24 : decode cX6_afterRound 24 = .ok (.iload 4, 2) := by decide +kernel
theorem dX6_afterRound_26 : decode cX6_afterRound 26 = .ok (.iaload, 1) := by decide +kernel
theorem dX6_afterRound_27 : decode cX6_afterRound 27 = .ok (.if_icmp .lt 10, 3) := by decide +kernel
theorem dX6_afterRound_30 : decode cX6_afterRound 30 = .ok (.iload_n 3, 1) := by decide +kernel
theorem dX6_afterRound_31 : decode cX6_afterRound 31 = .ok (.iconst 1, 1) := by decide +kernel
theorem dX6_afterRound_32 : decode cX6_afterRound 32 = .ok (.iload 4, 2) := by decide +kernel
theorem dX6_afterRound_34 : decode cX6_afterRound 34 = .ok (.ishl, 1) := by decide +kernel
theorem dX6_afterRound_35 : decode cX6_afterRound 35 = .ok (.ior, 1) := by decide +kernel
theorem dX6_afterRound_36 : decode cX6_afterRound 36 = .ok (.istore_n 3, 1) := by decide +kernel
theorem dX6_afterRound_37 : decode cX6_afterRound 37 = .ok (.iinc 4 1, 3) := by decide +kernel
theorem dX6_afterRound_40 : decode cX6_afterRound 40 = .ok (.goto (-30), 3) := by decide +kernel
theorem dX6_afterRound_43 : decode cX6_afterRound 43 = .ok (.iload_n 3, 1) := by decide +kernel
theorem dX6_afterRound_44 : decode cX6_afterRound 44 = .ok (.ireturn, 1) := by decide +kernel
theorem iX6_afterRound_6 : ∀ w ∈ wsX60, w ∈ wsX6_afterRound := fun w h => List.mem_cons_of_mem _ (List.mem_append_right _ h)
theorem fX6_afterRound_21 : FL mX6_afterRound 21 6 3 := ⟨_, _, _, rfl, by decide, iX6_afterRound_6, by decide +kernel⟩
theorem fX6_afterRound_24 : FL mX6_afterRound 24 6 4 := ⟨_, _, _, rfl, by decide, iX6_afterRound_6, by decide +kernel⟩
set_option maxRecDepth 20000 in
theorem ggX6_afterRound_J6_bitCount_0f7a4 : GoodIn wsX6_afterRound wsJ6_bitCount_0f7a4 := goodIn_r _ [6, 7, 8, 9] (by decide +kernel) (by decide +kernel)
set_option maxRecDepth 20000 in
theorem gX6_afterRound_J6_bitCount_0f7a4 : GoodIn wsX6_afterRound (va_wsS RX6 28 yJ6_bitCount_0f7a4 wsJ6_bitCount_0f7a4) := goodIn_app (goodIn_of _ (by decide +kernel)) ggX6_afterRound_J6_bitCount_0f7a4
theorem wX6_afterRound_28 : CWS mX6_afterRound 28 mJ6_bitCount_0f7a4 1 := ⟨gX6_afterRound_J6_bitCount_0f7a4, ⟨_, rfl⟩, by decide +kernel, by decide +kernel, by decide +kernel⟩
abbrev mX6_takersFrom : mT := (yX6_takersFrom, RX6, cX6_takersFrom, 4, (some .int), wsX6_takersFrom)
abbrev rX6_takersFrom : Room := { frames := 2, cells := 0, slots := 0, locals := 44 }
theorem dX6_takersFrom_0 : decode cX6_takersFrom 0 = .ok (.iload_n 1, 1) := by decide +kernel
theorem dX6_takersFrom_1 : decode cX6_takersFrom 1 = .ok (.aload_n 0, 1) := by decide +kernel
theorem dX6_takersFrom_2 : decode cX6_takersFrom 2 = .ok (.invokevirtual 34, 3) := by decide +kernel
theorem dX6_takersFrom_5 : decode cX6_takersFrom 5 = .ok (.iand, 1) := by decide +kernel
theorem dX6_takersFrom_6 : decode cX6_takersFrom 6 = .ok (.istore_n 2, 1) := by decide +kernel
theorem dX6_takersFrom_7 : decode cX6_takersFrom 7 = .ok (.iconst 0, 1) := by decide +kernel
theorem dX6_takersFrom_8 : decode cX6_takersFrom 8 = .ok (.istore_n 3, 1) := by decide +kernel
theorem dX6_takersFrom_9 : decode cX6_takersFrom 9 = .ok (.iload_n 3, 1) := by decide +kernel
theorem dX6_takersFrom_10 : decode cX6_takersFrom 10 = .ok (.bipush 8, 2) := by decide +kernel
theorem dX6_takersFrom_12 : decode cX6_takersFrom 12 = .ok (.if_icmp .ge 15, 3) := by decide +kernel
theorem dX6_takersFrom_15 : decode cX6_takersFrom 15 = .ok (.aload_n 0, 1) := by decide +kernel
theorem dX6_takersFrom_16 : decode cX6_takersFrom 16 = .ok (.iload_n 2, 1) := by decide +kernel
theorem dX6_takersFrom_17 : decode cX6_takersFrom 17 = .ok (.invokevirtual 38, 3) := by decide +kernel
theorem dX6_takersFrom_20 : decode cX6_takersFrom 20 = .ok (.istore_n 2, 1) := by decide +kernel
theorem dX6_takersFrom_21 : decode cX6_takersFrom 21 = .ok (.iinc 3 1, 3) := by decide +kernel
theorem dX6_takersFrom_24 : decode cX6_takersFrom 24 = .ok (.goto (-15), 3) := by decide +kernel
theorem dX6_takersFrom_27 : decode cX6_takersFrom 27 = .ok (.iload_n 2, 1) := by decide +kernel
theorem dX6_takersFrom_28 : decode cX6_takersFrom 28 = .ok (.ireturn, 1) := by decide +kernel
set_option maxRecDepth 20000 in
theorem ggX6_takersFrom_X6_everybody : GoodIn wsX6_takersFrom wsX6_everybody := goodIn_r _ [5, 6, 19, 20, 21, 22, 23] (by decide +kernel) (by decide +kernel)
set_option maxRecDepth 20000 in
theorem gX6_takersFrom_X6_everybody : GoodIn wsX6_takersFrom (wsV RX6 34 RX6 yX6_everybody wsX6_everybody) := goodIn_app (goodIn_of _ (by decide +kernel)) ggX6_takersFrom_X6_everybody
theorem wX6_takersFrom_34 : CWV mX6_takersFrom 34 mX6_everybody 0 := ⟨gX6_takersFrom_X6_everybody, ⟨_, rfl⟩, rfl, by decide +kernel, by decide +kernel, by decide +kernel⟩
set_option maxRecDepth 20000 in
theorem ggX6_takersFrom_X6_afterRound : GoodIn wsX6_takersFrom wsX6_afterRound := goodIn_r _ [10, 6, 11, 12, 13, 14, 15, 16, 17, 18, 19, 20, 21, 22, 23] (by decide +kernel) (by decide +kernel)
set_option maxRecDepth 20000 in
theorem gX6_takersFrom_X6_afterRound : GoodIn wsX6_takersFrom (wsV RX6 38 RX6 yX6_afterRound wsX6_afterRound) := goodIn_app (goodIn_of _ (by decide +kernel)) ggX6_takersFrom_X6_afterRound
theorem wX6_takersFrom_38 : CWV mX6_takersFrom 38 mX6_afterRound 1 := ⟨gX6_takersFrom_X6_afterRound, ⟨_, rfl⟩, rfl, by decide +kernel, by decide +kernel, by decide +kernel⟩
abbrev mX6_roundsFrom : mT := (yX6_roundsFrom, RX6, cX6_roundsFrom, 5, (some .int), wsX6_roundsFrom)
abbrev rX6_roundsFrom : Room := { frames := 2, cells := 0, slots := 0, locals := 44 }
theorem dX6_roundsFrom_0 : decode cX6_roundsFrom 0 = .ok (.iload_n 1, 1) := by decide +kernel
theorem dX6_roundsFrom_1 : decode cX6_roundsFrom 1 = .ok (.aload_n 0, 1) := by decide +kernel
theorem dX6_roundsFrom_2 : decode cX6_roundsFrom 2 = .ok (.invokevirtual 34, 3) := by decide +kernel
theorem dX6_roundsFrom_5 : decode cX6_roundsFrom 5 = .ok (.iand, 1) := by decide +kernel
theorem dX6_roundsFrom_6 : decode cX6_roundsFrom 6 = .ok (.istore_n 2, 1) := by decide +kernel
theorem dX6_roundsFrom_7 : decode cX6_roundsFrom 7 = .ok (.iconst 0, 1) := by decide +kernel
theorem dX6_roundsFrom_8 : decode cX6_roundsFrom 8 = .ok (.istore_n 3, 1) := by decide +kernel
theorem dX6_roundsFrom_9 : decode cX6_roundsFrom 9 = .ok (.iload_n 3, 1) := by decide +kernel
theorem dX6_roundsFrom_10 : decode cX6_roundsFrom 10 = .ok (.bipush 8, 2) := by decide +kernel
theorem dX6_roundsFrom_12 : decode cX6_roundsFrom 12 = .ok (.if_icmp .ge 27, 3) := by decide +kernel
theorem dX6_roundsFrom_15 : decode cX6_roundsFrom 15 = .ok (.aload_n 0, 1) := by decide +kernel
theorem dX6_roundsFrom_16 : decode cX6_roundsFrom 16 = .ok (.iload_n 2, 1) := by decide +kernel
theorem dX6_roundsFrom_17 : decode cX6_roundsFrom 17 = .ok (.invokevirtual 38, 3) := by decide +kernel
theorem dX6_roundsFrom_20 : decode cX6_roundsFrom 20 = .ok (.istore 4, 2) := by decide +kernel
theorem dX6_roundsFrom_22 : decode cX6_roundsFrom 22 = .ok (.iload 4, 2) := by decide +kernel
theorem dX6_roundsFrom_24 : decode cX6_roundsFrom 24 = .ok (.iload_n 2, 1) := by decide +kernel
theorem dX6_roundsFrom_25 : decode cX6_roundsFrom 25 = .ok (.if_icmp .ne 5, 3) := by decide +kernel
theorem dX6_roundsFrom_28 : decode cX6_roundsFrom 28 = .ok (.iload_n 3, 1) := by decide +kernel
theorem dX6_roundsFrom_29 : decode cX6_roundsFrom 29 = .ok (.ireturn, 1) := by decide +kernel
theorem dX6_roundsFrom_30 : decode cX6_roundsFrom 30 = .ok (.iload 4, 2) := by decide +kernel
theorem dX6_roundsFrom_32 : decode cX6_roundsFrom 32 = .ok (.istore_n 2, 1) := by decide +kernel
theorem dX6_roundsFrom_33 : decode cX6_roundsFrom 33 = .ok (.iinc 3 1, 3) := by decide +kernel
theorem dX6_roundsFrom_36 : decode cX6_roundsFrom 36 = .ok (.goto (-27), 3) := by decide +kernel
theorem dX6_roundsFrom_39 : decode cX6_roundsFrom 39 = .ok (.bipush 8, 2) := by decide +kernel
theorem dX6_roundsFrom_41 : decode cX6_roundsFrom 41 = .ok (.ireturn, 1) := by decide +kernel
set_option maxRecDepth 20000 in
theorem ggX6_roundsFrom_X6_everybody : GoodIn wsX6_roundsFrom wsX6_everybody := goodIn_r _ [5, 6, 19, 20, 21, 22, 23] (by decide +kernel) (by decide +kernel)
set_option maxRecDepth 20000 in
theorem gX6_roundsFrom_X6_everybody : GoodIn wsX6_roundsFrom (wsV RX6 34 RX6 yX6_everybody wsX6_everybody) := goodIn_app (goodIn_of _ (by decide +kernel)) ggX6_roundsFrom_X6_everybody
theorem wX6_roundsFrom_34 : CWV mX6_roundsFrom 34 mX6_everybody 0 := ⟨gX6_roundsFrom_X6_everybody, ⟨_, rfl⟩, rfl, by decide +kernel, by decide +kernel, by decide +kernel⟩
set_option maxRecDepth 20000 in
theorem ggX6_roundsFrom_X6_afterRound : GoodIn wsX6_roundsFrom wsX6_afterRound := goodIn_r _ [10, 6, 11, 12, 13, 14, 15, 16, 17, 18, 19, 20, 21, 22, 23] (by decide +kernel) (by decide +kernel)
set_option maxRecDepth 20000 in
theorem gX6_roundsFrom_X6_afterRound : GoodIn wsX6_roundsFrom (wsV RX6 38 RX6 yX6_afterRound wsX6_afterRound) := goodIn_app (goodIn_of _ (by decide +kernel)) ggX6_roundsFrom_X6_afterRound
theorem wX6_roundsFrom_38 : CWV mX6_roundsFrom 38 mX6_afterRound 1 := ⟨gX6_roundsFrom_X6_afterRound, ⟨_, rfl⟩, rfl, by decide +kernel, by decide +kernel, by decide +kernel⟩
abbrev mX6_leastSeeds : mT := (yX6_leastSeeds, RX6, cX6_leastSeeds, 4, (some .int), wsX6_leastSeeds)
abbrev rX6_leastSeeds : Room := { frames := 3, cells := 0, slots := 0, locals := 67 }
theorem dX6_leastSeeds_0 : decode cX6_leastSeeds 0 = .ok (.aload_n 0, 1) := by decide +kernel
theorem dX6_leastSeeds_1 : decode cX6_leastSeeds 1 = .ok (.invokevirtual 34, 3) := by decide +kernel
theorem dX6_leastSeeds_4 : decode cX6_leastSeeds 4 = .ok (.istore_n 1, 1) := by decide +kernel
theorem dX6_leastSeeds_5 : decode cX6_leastSeeds 5 = .ok (.iconst 0, 1) := by decide +kernel
theorem dX6_leastSeeds_6 : decode cX6_leastSeeds 6 = .ok (.istore_n 2, 1) := by decide +kernel
theorem dX6_leastSeeds_7 : decode cX6_leastSeeds 7 = .ok (.iload_n 2, 1) := by decide +kernel
theorem dX6_leastSeeds_8 : decode cX6_leastSeeds 8 = .ok (.aload_n 0, 1) := by decide +kernel
theorem dX6_leastSeeds_9 : decode cX6_leastSeeds 9 = .ok (.invokevirtual 34, 3) := by decide +kernel
theorem dX6_leastSeeds_12 : decode cX6_leastSeeds 12 = .ok (.if_icmp .ge 44, 3) := by decide +kernel
theorem dX6_leastSeeds_15 : decode cX6_leastSeeds 15 = .ok (.iload_n 2, 1) := by decide +kernel
theorem dX6_leastSeeds_16 : decode cX6_leastSeeds 16 = .ok (.invokestatic 28, 3) := by decide +kernel
theorem dX6_leastSeeds_19 : decode cX6_leastSeeds 19 = .ok (.iload_n 1, 1) := by decide +kernel
theorem dX6_leastSeeds_20 : decode cX6_leastSeeds 20 = .ok (.invokestatic 28, 3) := by decide +kernel
theorem dX6_leastSeeds_23 : decode cX6_leastSeeds 23 = .ok (.if_icmp .ge 7, 3) := by decide +kernel
theorem dX6_leastSeeds_26 : decode cX6_leastSeeds 26 = .ok (.iconst 1, 1) := by decide +kernel
theorem dX6_leastSeeds_27 : decode cX6_leastSeeds 27 = .ok (.goto 4, 3) := by decide +kernel
theorem dX6_leastSeeds_30 : decode cX6_leastSeeds 30 = .ok (.iconst 0, 1) := by decide +kernel
theorem dX6_leastSeeds_31 : decode cX6_leastSeeds 31 = .ok (.istore_n 3, 1) := by decide +kernel
theorem dX6_leastSeeds_32 : decode cX6_leastSeeds 32 = .ok (.iload_n 3, 1) := by decide +kernel
theorem dX6_leastSeeds_33 : decode cX6_leastSeeds 33 = .ok (.ifCond .eq 17, 3) := by decide +kernel
theorem dX6_leastSeeds_36 : decode cX6_leastSeeds 36 = .ok (.aload_n 0, 1) := by decide +kernel
theorem dX6_leastSeeds_37 : decode cX6_leastSeeds 37 = .ok (.iload_n 2, 1) := by decide +kernel
theorem dX6_leastSeeds_38 : decode cX6_leastSeeds 38 = .ok (.invokevirtual 41, 3) := by decide +kernel
theorem dX6_leastSeeds_41 : decode cX6_leastSeeds 41 = .ok (.aload_n 0, 1) := by decide +kernel
theorem dX6_leastSeeds_42 : decode cX6_leastSeeds 42 = .ok (.invokevirtual 34, 3) := by decide +kernel
theorem dX6_leastSeeds_45 : decode cX6_leastSeeds 45 = .ok (.if_icmp .ne 5, 3) := by decide +kernel
theorem dX6_leastSeeds_48 : decode cX6_leastSeeds 48 = .ok (.iload_n 2, 1) := by decide +kernel
theorem dX6_leastSeeds_49 : decode cX6_leastSeeds 49 = .ok (.istore_n 1, 1) := by decide +kernel
theorem dX6_leastSeeds_50 : decode cX6_leastSeeds 50 = .ok (.iinc 2 1, 3) := by decide +kernel
theorem dX6_leastSeeds_53 : decode cX6_leastSeeds 53 = .ok (.goto (-46), 3) := by decide +kernel
theorem dX6_leastSeeds_56 : decode cX6_leastSeeds 56 = .ok (.iload_n 1, 1) := by decide +kernel
theorem dX6_leastSeeds_57 : decode cX6_leastSeeds 57 = .ok (.ireturn, 1) := by decide +kernel
set_option maxRecDepth 20000 in
theorem ggX6_leastSeeds_J6_bitCount_0f7a4 : GoodIn wsX6_leastSeeds wsJ6_bitCount_0f7a4 := goodIn_r _ [10, 11, 12, 13] (by decide +kernel) (by decide +kernel)
set_option maxRecDepth 20000 in
theorem gX6_leastSeeds_J6_bitCount_0f7a4 : GoodIn wsX6_leastSeeds (va_wsS RX6 28 yJ6_bitCount_0f7a4 wsJ6_bitCount_0f7a4) := goodIn_app (goodIn_of _ (by decide +kernel)) ggX6_leastSeeds_J6_bitCount_0f7a4
theorem wX6_leastSeeds_28 : CWS mX6_leastSeeds 28 mJ6_bitCount_0f7a4 1 := ⟨gX6_leastSeeds_J6_bitCount_0f7a4, ⟨_, rfl⟩, by decide +kernel, by decide +kernel, by decide +kernel⟩
set_option maxRecDepth 20000 in
theorem ggX6_leastSeeds_X6_everybody : GoodIn wsX6_leastSeeds wsX6_everybody := goodIn_r _ [5, 6, 23, 24, 25, 26, 27] (by decide +kernel) (by decide +kernel)
set_option maxRecDepth 20000 in
theorem gX6_leastSeeds_X6_everybody : GoodIn wsX6_leastSeeds (wsV RX6 34 RX6 yX6_everybody wsX6_everybody) := goodIn_app (goodIn_of _ (by decide +kernel)) ggX6_leastSeeds_X6_everybody
theorem wX6_leastSeeds_34 : CWV mX6_leastSeeds 34 mX6_everybody 0 := ⟨gX6_leastSeeds_X6_everybody, ⟨_, rfl⟩, rfl, by decide +kernel, by decide +kernel, by decide +kernel⟩
set_option maxRecDepth 20000 in
theorem ggX6_leastSeeds_X6_takersFrom : GoodIn wsX6_leastSeeds wsX6_takersFrom := goodIn_r _ [17, 1, 2, 3, 4, 5, 6, 18, 19, 20, 21, 22, 7, 8, 9, 10, 11, 12, 13, 23, 24, 25, 26, 27] (by decide +kernel) (by decide +kernel)
set_option maxRecDepth 20000 in
theorem gX6_leastSeeds_X6_takersFrom : GoodIn wsX6_leastSeeds (wsV RX6 41 RX6 yX6_takersFrom wsX6_takersFrom) := goodIn_app (goodIn_of _ (by decide +kernel)) ggX6_leastSeeds_X6_takersFrom
theorem wX6_leastSeeds_41 : CWV mX6_leastSeeds 41 mX6_takersFrom 1 := ⟨gX6_leastSeeds_X6_takersFrom, ⟨_, rfl⟩, rfl, by decide +kernel, by decide +kernel, by decide +kernel⟩
def tuL (j : Nat) : Int32 := ([0, 0, 0, 0, 0, 1] : List Int32).getD j 0
def tuM (j : Nat) : Int32 := ([9, 99, 99, 10, 20, 99] : List Int32).getD j 0
/-- a sum of a set of laws: the first k of them -/
def lawS (f : Nat → Int32) (set : Int32) (what : Nat) : Nat → Int32
  | 0 => 0
  | k + 1 => if (set >>> (nI k &&& 31)) &&& 1 = 1 then lawS f set what k + f (k * 3 + what) else lawS f set what k
def xCh (f : Nat → Int32) (less more : Int32) : Nat → Int32 × Int32
  | 0 => (-9, 2147483647)
  | k + 1 => if lawS f (nI k) 0 9 < (xCh f less more k).2 ∧ less ≤ lawS f (nI k) 1 9 ∧ more ≤ lawS f (nI k) 2 9 then (nI k, lawS f (nI k) 0 9) else xCh f less more k
def us (x y : Int32) : Int32 := (x.toUInt32 >>> (y.toUInt32 &&& Int32.toUInt32 31)).toInt32
def bc1 (x : Int32) : Int32 := x - (us x 1 &&& 1431655765)
def bc2 (x : Int32) : Int32 := (x &&& 858993459) + (us x 2 &&& 858993459)
def bc3 (x : Int32) : Int32 := (x + us x 4) &&& 252645135
def bc4 (x : Int32) : Int32 := x + us x 8
def bc5 (x : Int32) : Int32 := x + us x 16
/-- Integer.bitCount -/
def bcI (x : Int32) : Int32 := bc5 (bc4 (bc3 (bc2 (bc1 x)))) &&& 63
/-- everybody of n people -/
def evI (n : Nat) : Int32 := (1 <<< (nI n &&& 31)) - 1
def afS (o : Nat → Int32) (num t : Int32) : Nat → Int32
  | 0 => t
  | k + 1 => if num < o k then afS o num t k else afS o num t k ||| (1 <<< (nI k &&& 31))
/-- who takes it behind one round more -/
def afR (o : Nat → Int32) (n : Nat) (t : Int32) : Int32 := afS o (bcI t) t n
def takS (o : Nat → Int32) (n : Nat) (t : Int32) : Nat → Int32
  | 0 => t
  | k + 1 => afR o n (takS o n t k)
def takF (o : Nat → Int32) (n : Nat) (s : Int32) : Int32 := takS o n (s &&& evI n) 8
def rndS (o : Nat → Int32) (n : Nat) : Nat → Nat → Int32 → Int32
  | 0, _, _ => 8
  | d + 1, k, t => if afR o n t = t then nI k else rndS o n d (k + 1) (afR o n t)
def rndF (o : Nat → Int32) (n : Nat) (s : Int32) : Int32 := rndS o n 8 0 (s &&& evI n)
def lsS (o : Nat → Int32) (n : Nat) : Nat → Int32
  | 0 => evI n
  | k + 1 => if bcI (nI k) < bcI (lsS o n k) ∧ takF o n (nI k) = evI n then nI k else lsS o n k
section
variable {Γ : gT} {l : Launch} {as : List Nat} {h : aH} {q r : Nat} {f : Nat → Int32}
theorem c_of (hq : hat as h q (ob 7 [.ref r])) (hr : hat as h r (aI Γ 6 f)) {j : Nat} (hj : j < 6) : Det Γ l mX7_of rX7_of [.ref q, .int (nI j)] as h (some (.int (f j))) h := by
  refine Con.of (by decide +kernel) rfl rfl (Nat.le_of_ble_eq_true rfl) ?_
  refine q_aload_n dX7_of_0 rfl rfl ?_
  refine q_get dX7_of_1 fX7_of_9 (hq) rfl ?_
  refine q_iload_n dX7_of_4 rfl rfl ?_
  refine q_iald dX7_of_5 (hr) (in_nI hj (by omega)) ?_
  exact q_iret dX7_of_6 rfl (Nat.zero_le _) (Nat.zero_le _) (⟨by rw [nI_clamp (by omega)], rfl, rfl⟩)
theorem c_tset_bad (hq : hat as h q (ob 7 [.ref r])) (hr : hat as h r (aI Γ 6 f)) {x v : Int32} (hx : x < 0 ∨ 6 ≤ x) : Det Γ l mX7_set rX7_set [.ref q, .int x, .int v] as h (some (.int (-1))) h := by
  refine Con.of (by decide +kernel) rfl rfl (Nat.le_of_ble_eq_true rfl) ?_
  refine q_iload_n dX7_set_0 rfl rfl ?_
  refine q_if_lt 31 dX7_set_1 (by decide) (fun c1 => ?_) (fun c1 => ?_)
  · refine q_iconst (v := (-1)) dX7_set_31 rfl ?_
    exact q_iret dX7_set_32 rfl (Nat.zero_le _) (Nat.zero_le _) (⟨rfl, rfl, rfl⟩)
  · refine q_iload_n dX7_set_4 rfl rfl ?_
    refine q_aload_n dX7_set_5 rfl rfl ?_
    refine q_get dX7_set_6 fX7_set_9 (hq) rfl ?_
    refine q_alen dX7_set_9 hr rfl ?_
    refine q_icmp_ge 31 dX7_set_10 (by decide) (fun c10 => ?_) (fun c10 => ?_)
    · refine q_iconst (v := (-1)) dX7_set_31 rfl ?_
      exact q_iret dX7_set_32 rfl (Nat.zero_le _) (Nat.zero_le _) (⟨rfl, rfl, rfl⟩)
    · exact absurd (hx.resolve_left c1) c10
theorem c_tset (hq : hat as h q (ob 7 [.ref r])) (hr : hat as h r (aI Γ 6 f)) {j : Nat} (hj : j < 6) {v : Int32} : Det Γ l mX7_set rX7_set [.ref q, .int (nI j), .int v] as h (some (.int (if tuL j ≤ v ∧ v ≤ tuM j then f j else -1))) (if tuL j ≤ v ∧ v ≤ tuM j then hset h r (aI Γ 6 (upd f j v)) else h) := by
  refine Con.of (by decide +kernel) rfl rfl (Nat.le_of_ble_eq_true rfl) ?_
  refine q_iload_n dX7_set_0 rfl rfl ?_
  refine q_if_lt 31 dX7_set_1 (by decide) (fun z => absurd z (nI_pos (by omega))) (fun _ => ?_)
  refine q_iload_n dX7_set_4 rfl rfl ?_
  refine q_aload_n dX7_set_5 rfl rfl ?_
  refine q_get dX7_set_6 fX7_set_9 (hq) rfl ?_
  refine q_alen dX7_set_9 hr rfl ?_
  refine q_icmp_ge 31 dX7_set_10 (by decide) (fun z => absurd z (lt_c 6 rfl hj (by omega))) (fun _ => ?_)
  refine q_iload_n dX7_set_13 rfl rfl ?_
  refine q_gets dX7_set_14 (fun _ _ e => e.2.1) (by decide +kernel) ?_
  refine q_iload_n dX7_set_17 rfl rfl ?_
  refine q_ti (v := .int (tuL j)) dX7_set_18 (fun _ _ e => e.2.2.1) (in_nI hj (by omega)) (by rw [nI_clamp (by omega)]; rfl) ?_
  refine q_icmp_lt 31 dX7_set_19 (by decide) (fun c19 => ?_) (fun c19 => ?_)
  · rw [if_neg (fun z => by first | exact absurd (Int32.not_le.mpr c19) (fun w => w z.1) | exact c28 z.2), if_neg (fun z => by first | exact absurd (Int32.not_le.mpr c19) (fun w => w z.1) | exact c28 z.2)]
    refine q_iconst (v := (-1)) dX7_set_31 rfl ?_
    exact q_iret dX7_set_32 rfl (Nat.zero_le _) (Nat.zero_le _) (⟨rfl, rfl, rfl⟩)
  · refine q_iload_n dX7_set_22 rfl rfl ?_
    refine q_gets dX7_set_23 (fun _ _ e => e.2.2.2.1) (by decide +kernel) ?_
    refine q_iload_n dX7_set_26 rfl rfl ?_
    refine q_ti (v := .int (tuM j)) dX7_set_27 (fun _ _ e => e.2.2.2.2.1) (in_nI hj (by omega)) (by rw [nI_clamp (by omega)]; rfl) ?_
    refine q_icmp_le 33 dX7_set_28 (by decide) (fun c28 => ?_) (fun c28 => ?_)
    · rw [if_pos ⟨Int32.not_lt.mp c19, c28⟩, if_pos ⟨Int32.not_lt.mp c19, c28⟩]
      refine q_aload_n dX7_set_33 rfl rfl ?_
      refine q_get dX7_set_34 fX7_set_9 (hq) rfl ?_
      refine q_iload_n dX7_set_37 rfl rfl ?_
      refine q_iald dX7_set_38 (hr) (in_nI hj (by omega)) ?_
      refine q_istore_n dX7_set_39 rfl (by decide) ?_
      refine q_aload_n dX7_set_40 rfl rfl ?_
      refine q_get dX7_set_41 fX7_set_9 (hq) rfl ?_
      refine q_iload_n dX7_set_44 rfl rfl ?_
      refine q_iload_n dX7_set_45 rfl rfl ?_
      refine q_iast dX7_set_46 (hr) (in_nI hj (by omega)) ?_
      refine q_iload_n dX7_set_47 rfl rfl ?_
      exact q_iret dX7_set_48 rfl (Nat.zero_le _) (Nat.zero_le _) (⟨by rw [nI_clamp (by omega)], rfl, by rw [nI_clamp (by omega)]⟩)
    · rw [if_neg (fun z => by first | exact absurd (Int32.not_le.mpr c19) (fun w => w z.1) | exact c28 z.2), if_neg (fun z => by first | exact absurd (Int32.not_le.mpr c19) (fun w => w z.1) | exact c28 z.2)]
      refine q_iconst (v := (-1)) dX7_set_31 rfl ?_
      exact q_iret dX7_set_32 rfl (Nat.zero_le _) (Nat.zero_le _) (⟨rfl, rfl, rfl⟩)
theorem c_forget {x0 x1 x2 x3 x4 : Int32} (hq : hat as h q (ob 3 [.int x0, .int x1, .int x2, .int x3, .int x4])) : Det Γ l mX3_forget rX3_forget [.ref q] as h none (hset h q (ob 3 [.int (-9), .int (-9), .int (-9), .int (-9), .int 0])) := by
  refine Con.of (by decide +kernel) rfl rfl (Nat.le_of_ble_eq_true rfl) ?_
  refine q_aload_n dX3_forget_0 rfl rfl ?_
  refine q_bipush (v := (-9)) dX3_forget_1 rfl ?_
  refine q_put dX3_forget_3 pX3_forget_9 (hq) rfl rfl (Nat.le_of_ble_eq_true rfl) ?_
  refine q_aload_n dX3_forget_6 rfl rfl ?_
  refine q_bipush (v := (-9)) dX3_forget_7 rfl ?_
  refine q_put dX3_forget_9 pX3_forget_15 (hat_set hq) rfl rfl (Nat.le_of_ble_eq_true rfl) ?_
  refine q_aload_n dX3_forget_12 rfl rfl ?_
  refine q_bipush (v := (-9)) dX3_forget_13 rfl ?_
  refine q_put dX3_forget_15 pX3_forget_18 (hat_set (hat_set hq)) rfl rfl (Nat.le_of_ble_eq_true rfl) ?_
  refine q_aload_n dX3_forget_18 rfl rfl ?_
  refine q_bipush (v := (-9)) dX3_forget_19 rfl ?_
  refine q_put dX3_forget_21 pX3_forget_21 (hat_set (hat_set (hat_set hq))) rfl rfl (Nat.le_of_ble_eq_true rfl) ?_
  refine q_aload_n dX3_forget_24 rfl rfl ?_
  refine q_iconst (v := 0) dX3_forget_25 rfl ?_
  refine q_put dX3_forget_26 pX3_forget_24 (hat_set (hat_set (hat_set (hat_set hq)))) rfl rfl (Nat.le_of_ble_eq_true rfl) ?_
  exact q_vret dX3_forget_29 rfl (Nat.zero_le _) (Nat.zero_le _) (⟨rfl, rfl, by rw [hset_hset, hset_hset, hset_hset, hset_hset]; rfl⟩)
theorem c_note {x0 x1 x2 x3 x4 y0 y1 y2 y3 : Int32} (hq : hat as h q (ob 3 [.int x0, .int x1, .int x2, .int x3, .int x4])) : Det Γ l mX3_note rX3_note [.ref q, .int y0, .int y1, .int y2, .int y3] as h none (hset h q (ob 3 [.int y0, .int y1, .int y2, .int y3, .int (x4 + 1)])) := by
  refine Con.of (by decide +kernel) rfl rfl (Nat.le_of_ble_eq_true rfl) ?_
  refine q_aload_n dX3_note_0 rfl rfl ?_
  refine q_iload_n dX3_note_1 rfl rfl ?_
  refine q_put dX3_note_2 pX3_note_9 (hq) rfl rfl (Nat.le_of_ble_eq_true rfl) ?_
  refine q_aload_n dX3_note_5 rfl rfl ?_
  refine q_iload_n dX3_note_6 rfl rfl ?_
  refine q_put dX3_note_7 pX3_note_15 (hat_set hq) rfl rfl (Nat.le_of_ble_eq_true rfl) ?_
  refine q_aload_n dX3_note_10 rfl rfl ?_
  refine q_iload_n dX3_note_11 rfl rfl ?_
  refine q_put dX3_note_12 pX3_note_18 (hat_set (hat_set hq)) rfl rfl (Nat.le_of_ble_eq_true rfl) ?_
  refine q_aload_n dX3_note_15 rfl rfl ?_
  refine q_iload dX3_note_16 rfl ?_
  refine q_put dX3_note_18 pX3_note_21 (hat_set (hat_set (hat_set hq))) rfl rfl (Nat.le_of_ble_eq_true rfl) ?_
  refine q_aload_n dX3_note_21 rfl rfl ?_
  refine q_dup dX3_note_22 rfl ?_
  refine q_get dX3_note_23 fX3_note_24 (hat_set (hat_set (hat_set (hat_set hq)))) rfl ?_
  refine q_iconst (v := 1) dX3_note_26 rfl ?_
  refine q_iadd dX3_note_27 ?_
  refine q_put dX3_note_28 pX3_note_24 (hat_set (hat_set (hat_set (hat_set hq)))) rfl rfl (Nat.le_of_ble_eq_true rfl) ?_
  exact q_vret dX3_note_31 rfl (Nat.zero_le _) (Nat.zero_le _) (⟨rfl, rfl, by rw [hset_hset, hset_hset, hset_hset, hset_hset]; rfl⟩)
theorem ix3 (k w : Nat) : nI k * 3 + nI w = nI (k * 3 + w) := by rw [show (3 : Int32) = nI 3 from rfl, pk_mul, nI_add]
theorem in3 {k w : Nat} (hk : k < 9) (hw : w < 3) : vp_in (nI k * 3 + nI w) 27 := by rw [ix3]; exact vp_in_nI (by omega) (by omega)
theorem cl3 {k w : Nat} (hk : k < 9) (hw : w < 3) : (nI k * 3 + nI w).toNatClampNeg = k * 3 + w := by rw [ix3]; exact nI_clamp (by omega)
theorem c_lset_bad (hq : hat as h q (ob 2 [.ref r])) {k w v : Int32} (hb : k < 0 ∨ 9 ≤ k ∨ w < 0 ∨ 3 ≤ w ∨ v < 0 ∨ 99 < v) : Det Γ l mX2_set rX2_set [.ref q, .int k, .int w, .int v] as h (some (.int (-1))) h := by
  refine Con.of (by decide +kernel) rfl rfl (Nat.le_of_ble_eq_true rfl) ?_
  refine q_iload_n dX2_set_0 rfl rfl ?_
  refine q_if_lt 29 dX2_set_1 (by decide) (fun c1 => ?_) (fun c1 => ?_)
  · refine q_iconst (v := (-1)) dX2_set_29 rfl ?_
    exact q_iret dX2_set_30 rfl (Nat.zero_le _) (Nat.zero_le _) (⟨rfl, rfl, rfl⟩)
  · refine q_iload_n dX2_set_4 rfl rfl ?_
    refine q_bipush (v := 9) dX2_set_5 rfl ?_
    refine q_icmp_ge 29 dX2_set_7 (by decide) (fun c7 => ?_) (fun c7 => ?_)
    · refine q_iconst (v := (-1)) dX2_set_29 rfl ?_
      exact q_iret dX2_set_30 rfl (Nat.zero_le _) (Nat.zero_le _) (⟨rfl, rfl, rfl⟩)
    · refine q_iload_n dX2_set_10 rfl rfl ?_
      refine q_if_lt 29 dX2_set_11 (by decide) (fun c11 => ?_) (fun c11 => ?_)
      · refine q_iconst (v := (-1)) dX2_set_29 rfl ?_
        exact q_iret dX2_set_30 rfl (Nat.zero_le _) (Nat.zero_le _) (⟨rfl, rfl, rfl⟩)
      · refine q_iload_n dX2_set_14 rfl rfl ?_
        refine q_iconst (v := 3) dX2_set_15 rfl ?_
        refine q_icmp_ge 29 dX2_set_16 (by decide) (fun c16 => ?_) (fun c16 => ?_)
        · refine q_iconst (v := (-1)) dX2_set_29 rfl ?_
          exact q_iret dX2_set_30 rfl (Nat.zero_le _) (Nat.zero_le _) (⟨rfl, rfl, rfl⟩)
        · refine q_iload_n dX2_set_19 rfl rfl ?_
          refine q_if_lt 29 dX2_set_20 (by decide) (fun c20 => ?_) (fun c20 => ?_)
          · refine q_iconst (v := (-1)) dX2_set_29 rfl ?_
            exact q_iret dX2_set_30 rfl (Nat.zero_le _) (Nat.zero_le _) (⟨rfl, rfl, rfl⟩)
          · refine q_iload_n dX2_set_23 rfl rfl ?_
            refine q_bipush (v := 99) dX2_set_24 rfl ?_
            refine q_icmp_le 31 dX2_set_26 (by decide) (fun c26 => ?_) (fun c26 => ?_)
            · exact absurd hb (by rintro (z | z | z | z | z | z) <;> first | exact c1 z | exact c7 z | exact c11 z | exact c16 z | exact c20 z | exact absurd c26 (Int32.not_le.mpr z))
            · refine q_iconst (v := (-1)) dX2_set_29 rfl ?_
              exact q_iret dX2_set_30 rfl (Nat.zero_le _) (Nat.zero_le _) (⟨rfl, rfl, rfl⟩)
theorem c_lset (hq : hat as h q (ob 2 [.ref r])) (hr : hat as h r (aI Γ 27 f)) {k w : Nat} {v : Int32} (hk : k < 9) (hw : w < 3) (hv0 : ¬ v < 0) (hv1 : v ≤ 99) : Det Γ l mX2_set rX2_set [.ref q, .int (nI k), .int (nI w), .int v] as h (some (.int (f (k * 3 + w)))) (hset h r (aI Γ 27 (upd f (k * 3 + w) v))) := by
  refine Con.of (by decide +kernel) rfl rfl (Nat.le_of_ble_eq_true rfl) ?_
  refine q_iload_n dX2_set_0 rfl rfl ?_
  refine q_if_lt 29 dX2_set_1 (by decide) (fun z => absurd z (nI_pos (by omega))) (fun _ => ?_)
  refine q_iload_n dX2_set_4 rfl rfl ?_
  refine q_bipush (v := 9) dX2_set_5 rfl ?_
  refine q_icmp_ge 29 dX2_set_7 (by decide) (fun z => absurd z (lt_c 9 rfl hk (by omega))) (fun _ => ?_)
  refine q_iload_n dX2_set_10 rfl rfl ?_
  refine q_if_lt 29 dX2_set_11 (by decide) (fun z => absurd z (nI_pos (by omega))) (fun _ => ?_)
  refine q_iload_n dX2_set_14 rfl rfl ?_
  refine q_iconst (v := 3) dX2_set_15 rfl ?_
  refine q_icmp_ge 29 dX2_set_16 (by decide) (fun z => absurd z (lt_c 3 rfl hw (by omega))) (fun _ => ?_)
  refine q_iload_n dX2_set_19 rfl rfl ?_
  refine q_if_lt 29 dX2_set_20 (by decide) (fun z => absurd z (hv0)) (fun _ => ?_)
  refine q_iload_n dX2_set_23 rfl rfl ?_
  refine q_bipush (v := 99) dX2_set_24 rfl ?_
  refine q_icmp_le 31 dX2_set_26 (by decide) (fun _ => ?_) (fun z => absurd (hv1) z)
  refine q_aload_n dX2_set_31 rfl rfl ?_
  refine q_get dX2_set_32 fX2_set_11 (hq) rfl ?_
  refine q_iload_n dX2_set_35 rfl rfl ?_
  refine q_iconst (v := 3) dX2_set_36 rfl ?_
  refine q_imul dX2_set_37 ?_
  refine q_iload_n dX2_set_38 rfl rfl ?_
  refine q_iadd dX2_set_39 ?_
  refine q_iald dX2_set_40 (hr) (in3 hk hw) ?_
  refine q_istore dX2_set_41 (by decide) ?_
  refine q_aload_n dX2_set_43 rfl rfl ?_
  refine q_get dX2_set_44 fX2_set_11 (hq) rfl ?_
  refine q_iload_n dX2_set_47 rfl rfl ?_
  refine q_iconst (v := 3) dX2_set_48 rfl ?_
  refine q_imul dX2_set_49 ?_
  refine q_iload_n dX2_set_50 rfl rfl ?_
  refine q_iadd dX2_set_51 ?_
  refine q_iload_n dX2_set_52 rfl rfl ?_
  refine q_iast dX2_set_53 (hr) (in3 hk hw) ?_
  refine q_iload dX2_set_54 rfl ?_
  exact q_iret dX2_set_56 rfl (Nat.zero_le _) (Nat.zero_le _) (⟨by rw [cl3 hk hw], rfl, by rw [cl3 hk hw]⟩)
theorem sumOf_loop (hq : hat as h q (ob 2 [.ref r])) (hr : hat as h r (aI Γ 27 f)) {set : Int32} {w : Nat} (hw : w < 3) : ∀ (d k : Nat) (x y : Int32), k + d = 9 → x = lawS f set w k → y = nI k → V Γ l mX2_sumOf rX2_sumOf (Zm Γ rX2_sumOf (qD (some (.int (lawS f set w 9))) as h)) 0 0 5 [(0, .ref q), (1, .int set), (2, .int (nI w)), (3, .int x), (4, .int y)] [] as h := by
  intro d
  induction d with
  | zero =>
    intro k x y hk hx hy
    subst hx hy
    refine q_iload dX2_sumOf_5 rfl ?_
    refine q_bipush (v := 9) dX2_sumOf_7 rfl ?_
    refine q_icmp_ge 42 dX2_sumOf_9 (by decide) (fun _ => ?_) (fun z => absurd (ge_c 9 rfl (by omega) (by omega)) z)
    refine q_iload_n dX2_sumOf_42 rfl rfl ?_
    exact q_iret dX2_sumOf_43 rfl (Nat.zero_le _) (Nat.zero_le _) (⟨by rw [show k = 9 by omega], rfl, rfl⟩)
  | succ d ih =>
    intro k x y hk hx hy
    subst hx hy
    refine q_iload dX2_sumOf_5 rfl ?_
    refine q_bipush (v := 9) dX2_sumOf_7 rfl ?_
    refine q_icmp_ge 42 dX2_sumOf_9 (by decide) (fun z => absurd z (lt_c 9 rfl (by omega) (by omega))) (fun _ => ?_)
    refine q_iload_n dX2_sumOf_12 rfl rfl ?_
    refine q_iload dX2_sumOf_13 rfl ?_
    refine q_ishr dX2_sumOf_15 ?_
    refine q_iconst (v := 1) dX2_sumOf_16 rfl ?_
    refine q_iand dX2_sumOf_17 ?_
    refine q_iconst (v := 1) dX2_sumOf_18 rfl ?_
    refine q_icmp_ne 36 dX2_sumOf_19 (by decide) (fun c19 => ?_) (fun c19 => ?_)
    · refine q_iinc1 dX2_sumOf_36 rfl (by decide) ?_
      refine q_goto 5 dX2_sumOf_39 (by decide) ?_
      exact V.at (ih (k + 1) _ _ (by omega) (by simp only [lawS]; first | rw [if_neg c19] | rw [if_pos c19, cl3 (by omega) hw]) (nI_s k)) ⟨rfl, rfl, rfl, rfl, rfl, trivial⟩
    · refine q_iload_n dX2_sumOf_22 rfl rfl ?_
      refine q_aload_n dX2_sumOf_23 rfl rfl ?_
      refine q_get dX2_sumOf_24 fX2_sumOf_11 (hq) rfl ?_
      refine q_iload dX2_sumOf_27 rfl ?_
      refine q_iconst (v := 3) dX2_sumOf_29 rfl ?_
      refine q_imul dX2_sumOf_30 ?_
      refine q_iload_n dX2_sumOf_31 rfl rfl ?_
      refine q_iadd dX2_sumOf_32 ?_
      refine q_iald dX2_sumOf_33 (hr) (in3 (show k < 9 by omega) hw) ?_
      refine q_iadd dX2_sumOf_34 ?_
      refine q_istore_n dX2_sumOf_35 rfl (by decide) ?_
      refine q_iinc1 dX2_sumOf_36 rfl (by decide) ?_
      refine q_goto 5 dX2_sumOf_39 (by decide) ?_
      exact V.at (ih (k + 1) _ _ (by omega) (by simp only [lawS]; first | rw [if_neg c19] | rw [if_pos c19, cl3 (by omega) hw]) (nI_s k)) ⟨rfl, rfl, rfl, rfl, rfl, trivial⟩
theorem c_sumOf (hq : hat as h q (ob 2 [.ref r])) (hr : hat as h r (aI Γ 27 f)) {set : Int32} {w : Nat} (hw : w < 3) : Det Γ l mX2_sumOf rX2_sumOf [.ref q, .int set, .int (nI w)] as h (some (.int (lawS f set w 9))) h := by
  refine Con.of (by decide +kernel) rfl rfl (Nat.le_of_ble_eq_true rfl) ?_
  refine q_iconst (v := 0) dX2_sumOf_0 rfl ?_
  refine q_istore_n dX2_sumOf_1 rfl (by decide) ?_
  refine q_iconst (v := 0) dX2_sumOf_2 rfl ?_
  refine q_istore dX2_sumOf_3 (by decide) ?_
  exact V.at (sumOf_loop hq hr hw 9 0 _ _ (by omega) rfl rfl) ⟨rfl, rfl, rfl, rfl, rfl, trivial⟩
theorem chSet_loop (hq : hat as h q (ob 2 [.ref r])) (hr : hat as h r (aI Γ 27 f)) {less more : Int32} : ∀ (d k : Nat) (x y z : Int32) (ls : List (Nat × Value)), k + d = 512 → x = (xCh f less more k).1 → z = (xCh f less more k).2 → y = nI k → lin ls [(0, .ref q), (1, .int less), (2, .int more), (3, .int x), (4, .int z), (5, .int y)] → V Γ l mX2_cheapestSet rX2_cheapestSet (Zm Γ rX2_cheapestSet (qD (some (.int (xCh f less more 512).1)) as h)) 0 0 10 ls [] as h := by
  intro d
  induction d with
  | zero =>
    intro k x y z ls hk hx hz hy hl
    subst hx hy hz
    refine V.at ?_ hl
    refine q_iload dX2_cheapestSet_10 rfl ?_
    refine q_sipush (v := 512) dX2_cheapestSet_12 rfl ?_
    refine q_icmp_ge 69 dX2_cheapestSet_15 (by decide) (fun _ => ?_) (fun z => absurd (ge_c 512 rfl (by omega) (by omega)) z)
    refine q_iload_n dX2_cheapestSet_69 rfl rfl ?_
    exact q_iret dX2_cheapestSet_70 rfl (Nat.zero_le _) (Nat.zero_le _) (⟨by rw [show k = 512 by omega], rfl, rfl⟩)
  | succ d ih =>
    intro k x y z ls hk hx hz hy hl
    subst hx hy hz
    refine V.at ?_ hl
    refine q_iload dX2_cheapestSet_10 rfl ?_
    refine q_sipush (v := 512) dX2_cheapestSet_12 rfl ?_
    refine q_icmp_ge 69 dX2_cheapestSet_15 (by decide) (fun z => absurd z (lt_c 512 rfl (by omega) (by omega))) (fun _ => ?_)
    refine q_aload_n dX2_cheapestSet_18 rfl rfl ?_
    refine q_iload dX2_cheapestSet_19 rfl ?_
    refine q_iconst (v := 0) dX2_cheapestSet_21 rfl ?_
    refine q_callVd dX2_cheapestSet_22 wX2_cheapestSet_18 (c_sumOf (w := 0) hq hr (by omega)) (hq) ⟨_, _, rfl⟩ rfl rfl (Nat.le_of_ble_eq_true rfl) ⟨⟨Nat.le_of_ble_eq_true rfl, Nat.le_of_ble_eq_true rfl⟩, Nat.le_of_ble_eq_true rfl, Nat.le_of_ble_eq_true rfl⟩ ?_
    refine q_istore dX2_cheapestSet_25 (by decide) ?_
    refine q_iload dX2_cheapestSet_27 rfl ?_
    refine q_iload dX2_cheapestSet_29 rfl ?_
    refine q_icmp_ge 63 dX2_cheapestSet_31 (by decide) (fun cA => ?_) (fun cA => ?_)
    · have e : xCh f less more (k + 1) = xCh f less more k := by
        simp only [xCh]
        refine if_neg (fun z => ?_)
        first | exact absurd z.1 (Int32.not_lt.mpr cA) | exact absurd z.2.1 (Int32.not_le.mpr cB) | exact absurd z.2.2 (Int32.not_le.mpr cC)
      refine q_iinc1 dX2_cheapestSet_63 rfl (by decide) ?_
      refine q_goto 10 dX2_cheapestSet_66 (by decide) ?_
      exact ih (k + 1) _ _ _ _ (by omega) (by rw [e]) (by rw [e]) (nI_s k) ⟨rfl, rfl, rfl, rfl, rfl, rfl, trivial⟩
    · refine q_aload_n dX2_cheapestSet_34 rfl rfl ?_
      refine q_iload dX2_cheapestSet_35 rfl ?_
      refine q_iconst (v := 1) dX2_cheapestSet_37 rfl ?_
      refine q_callVd dX2_cheapestSet_38 wX2_cheapestSet_18 (c_sumOf (w := 1) hq hr (by omega)) (hq) ⟨_, _, rfl⟩ rfl rfl (Nat.le_of_ble_eq_true rfl) ⟨⟨Nat.le_of_ble_eq_true rfl, Nat.le_of_ble_eq_true rfl⟩, Nat.le_of_ble_eq_true rfl, Nat.le_of_ble_eq_true rfl⟩ ?_
      refine q_iload_n dX2_cheapestSet_41 rfl rfl ?_
      refine q_icmp_lt 63 dX2_cheapestSet_42 (by decide) (fun cB => ?_) (fun cB => ?_)
      · have e : xCh f less more (k + 1) = xCh f less more k := by
          simp only [xCh]
          refine if_neg (fun z => ?_)
          first | exact absurd z.1 (Int32.not_lt.mpr cA) | exact absurd z.2.1 (Int32.not_le.mpr cB) | exact absurd z.2.2 (Int32.not_le.mpr cC)
        refine q_iinc1 dX2_cheapestSet_63 rfl (by decide) ?_
        refine q_goto 10 dX2_cheapestSet_66 (by decide) ?_
        exact ih (k + 1) _ _ _ _ (by omega) (by rw [e]) (by rw [e]) (nI_s k) ⟨rfl, rfl, rfl, rfl, rfl, rfl, trivial⟩
      · refine q_aload_n dX2_cheapestSet_45 rfl rfl ?_
        refine q_iload dX2_cheapestSet_46 rfl ?_
        refine q_iconst (v := 2) dX2_cheapestSet_48 rfl ?_
        refine q_callVd dX2_cheapestSet_49 wX2_cheapestSet_18 (c_sumOf (w := 2) hq hr (by omega)) (hq) ⟨_, _, rfl⟩ rfl rfl (Nat.le_of_ble_eq_true rfl) ⟨⟨Nat.le_of_ble_eq_true rfl, Nat.le_of_ble_eq_true rfl⟩, Nat.le_of_ble_eq_true rfl, Nat.le_of_ble_eq_true rfl⟩ ?_
        refine q_iload_n dX2_cheapestSet_52 rfl rfl ?_
        refine q_icmp_lt 63 dX2_cheapestSet_53 (by decide) (fun cC => ?_) (fun cC => ?_)
        · have e : xCh f less more (k + 1) = xCh f less more k := by
            simp only [xCh]
            refine if_neg (fun z => ?_)
            first | exact absurd z.1 (Int32.not_lt.mpr cA) | exact absurd z.2.1 (Int32.not_le.mpr cB) | exact absurd z.2.2 (Int32.not_le.mpr cC)
          refine q_iinc1 dX2_cheapestSet_63 rfl (by decide) ?_
          refine q_goto 10 dX2_cheapestSet_66 (by decide) ?_
          exact ih (k + 1) _ _ _ _ (by omega) (by rw [e]) (by rw [e]) (nI_s k) ⟨rfl, rfl, rfl, rfl, rfl, rfl, trivial⟩
        · have e : xCh f less more (k + 1) = (nI k, lawS f (nI k) 0 9) := by
            simp only [xCh]
            exact if_pos ⟨Int32.not_le.mp cA, Int32.not_lt.mp cB, Int32.not_lt.mp cC⟩
          refine q_iload dX2_cheapestSet_56 rfl ?_
          refine q_istore_n dX2_cheapestSet_58 rfl (by decide) ?_
          refine q_iload dX2_cheapestSet_59 rfl ?_
          refine q_istore dX2_cheapestSet_61 (by decide) ?_
          refine q_iinc1 dX2_cheapestSet_63 rfl (by decide) ?_
          refine q_goto 10 dX2_cheapestSet_66 (by decide) ?_
          exact ih (k + 1) _ _ _ _ (by omega) (by rw [e]) (by rw [e]) (nI_s k) ⟨rfl, rfl, rfl, rfl, rfl, rfl, trivial⟩
theorem c_cheapestSet (hq : hat as h q (ob 2 [.ref r])) (hr : hat as h r (aI Γ 27 f)) {less more : Int32} : Det Γ l mX2_cheapestSet rX2_cheapestSet [.ref q, .int less, .int more] as h (some (.int (xCh f less more 512).1)) h := by
  refine Con.of (by decide +kernel) rfl rfl (Nat.le_of_ble_eq_true rfl) ?_
  refine q_bipush (v := (-9)) dX2_cheapestSet_0 rfl ?_
  refine q_istore_n dX2_cheapestSet_2 rfl (by decide) ?_
  refine q_ldc (v := 2147483647) dX2_cheapestSet_3 (by decide +kernel) ?_
  refine q_istore dX2_cheapestSet_5 (by decide) ?_
  refine q_iconst (v := 0) dX2_cheapestSet_7 rfl ?_
  refine q_istore dX2_cheapestSet_8 (by decide) ?_
  exact chSet_loop hq hr 512 0 _ _ _ _ (by omega) rfl rfl rfl ⟨rfl, rfl, rfl, rfl, rfl, rfl, trivial⟩
theorem c_bitCount {x : Int32} : Det Γ l mJ6_bitCount_0f7a4 rJ6_bitCount_0f7a4 [.int x] as h (some (.int (bcI x))) h := by
  refine Con.of (by decide +kernel) rfl rfl (Nat.le_of_ble_eq_true rfl) ?_
  refine q_iload_n dJ6_bitCount_0f7a4_0 rfl rfl ?_
  refine q_iload_n dJ6_bitCount_0f7a4_1 rfl rfl ?_
  refine q_iconst (v := 1) dJ6_bitCount_0f7a4_2 rfl ?_
  refine q_iushr dJ6_bitCount_0f7a4_3 ?_
  refine q_ldcw (v := 1431655765) dJ6_bitCount_0f7a4_4 (by decide +kernel) ?_
  refine q_iand dJ6_bitCount_0f7a4_7 ?_
  refine q_isub dJ6_bitCount_0f7a4_8 ?_
  refine q_istore_n dJ6_bitCount_0f7a4_9 rfl (by decide) ?_
  refine q_iload_n dJ6_bitCount_0f7a4_10 rfl rfl ?_
  refine q_ldcw (v := 858993459) dJ6_bitCount_0f7a4_11 (by decide +kernel) ?_
  refine q_iand dJ6_bitCount_0f7a4_14 ?_
  refine q_iload_n dJ6_bitCount_0f7a4_15 rfl rfl ?_
  refine q_iconst (v := 2) dJ6_bitCount_0f7a4_16 rfl ?_
  refine q_iushr dJ6_bitCount_0f7a4_17 ?_
  refine q_ldcw (v := 858993459) dJ6_bitCount_0f7a4_18 (by decide +kernel) ?_
  refine q_iand dJ6_bitCount_0f7a4_21 ?_
  refine q_iadd dJ6_bitCount_0f7a4_22 ?_
  refine q_istore_n dJ6_bitCount_0f7a4_23 rfl (by decide) ?_
  refine q_iload_n dJ6_bitCount_0f7a4_24 rfl rfl ?_
  refine q_iload_n dJ6_bitCount_0f7a4_25 rfl rfl ?_
  refine q_iconst (v := 4) dJ6_bitCount_0f7a4_26 rfl ?_
  refine q_iushr dJ6_bitCount_0f7a4_27 ?_
  refine q_iadd dJ6_bitCount_0f7a4_28 ?_
  refine q_ldcw (v := 252645135) dJ6_bitCount_0f7a4_29 (by decide +kernel) ?_
  refine q_iand dJ6_bitCount_0f7a4_32 ?_
  refine q_istore_n dJ6_bitCount_0f7a4_33 rfl (by decide) ?_
  refine q_iload_n dJ6_bitCount_0f7a4_34 rfl rfl ?_
  refine q_iload_n dJ6_bitCount_0f7a4_35 rfl rfl ?_
  refine q_bipush (v := 8) dJ6_bitCount_0f7a4_36 rfl ?_
  refine q_iushr dJ6_bitCount_0f7a4_38 ?_
  refine q_iadd dJ6_bitCount_0f7a4_39 ?_
  refine q_istore_n dJ6_bitCount_0f7a4_40 rfl (by decide) ?_
  refine q_iload_n dJ6_bitCount_0f7a4_41 rfl rfl ?_
  refine q_iload_n dJ6_bitCount_0f7a4_42 rfl rfl ?_
  refine q_bipush (v := 16) dJ6_bitCount_0f7a4_43 rfl ?_
  refine q_iushr dJ6_bitCount_0f7a4_45 ?_
  refine q_iadd dJ6_bitCount_0f7a4_46 ?_
  refine q_istore_n dJ6_bitCount_0f7a4_47 rfl (by decide) ?_
  refine q_iload_n dJ6_bitCount_0f7a4_48 rfl rfl ?_
  refine q_bipush (v := 63) dJ6_bitCount_0f7a4_49 rfl ?_
  refine q_iand dJ6_bitCount_0f7a4_51 ?_
  exact q_iret dJ6_bitCount_0f7a4_52 rfl (Nat.zero_le _) (Nat.zero_le _) (⟨rfl, rfl, rfl⟩)
variable {a0 a1 a2 a3 n : Nat} {o : Nat → Int32}
theorem c_everybody {t : Nat} (ht : hat as h t (ob 6 [.ref a0, .ref a1, .ref a2, .ref a3, .int (nI n)])) : Det Γ l mX6_everybody rX6_everybody [.ref t] as h (some (.int (evI n))) h := by
  refine Con.of (by decide +kernel) rfl rfl (Nat.le_of_ble_eq_true rfl) ?_
  refine q_iconst (v := 1) dX6_everybody_0 rfl ?_
  refine q_aload_n dX6_everybody_1 rfl rfl ?_
  refine q_get dX6_everybody_2 fX6_everybody_24 (ht) rfl ?_
  refine q_ishl dX6_everybody_5 ?_
  refine q_iconst (v := 1) dX6_everybody_6 rfl ?_
  refine q_isub dX6_everybody_7 ?_
  exact q_iret dX6_everybody_8 rfl (Nat.zero_le _) (Nat.zero_le _) (⟨rfl, rfl, rfl⟩)
theorem after_loop {t : Nat} (ht : hat as h t (ob 6 [.ref a0, .ref a1, .ref a2, .ref a3, .int (nI n)])) (ho : hat as h a3 (aI Γ 8 o)) (hn : n ≤ 8) {s num : Int32} : ∀ (d k : Nat) (x y : Int32), k + d = n → x = afS o num s k → y = nI k → V Γ l mX6_afterRound rX6_afterRound (Zm Γ rX6_afterRound (qD (some (.int (afS o num s n))) as h)) 0 0 10 [(0, .ref t), (1, .int s), (2, .int num), (3, .int x), (4, .int y)] [] as h := by
  intro d
  induction d with
  | zero =>
    intro k x y hk hx hy
    subst hx hy
    refine q_iload dX6_afterRound_10 rfl ?_
    refine q_aload_n dX6_afterRound_12 rfl rfl ?_
    refine q_get dX6_afterRound_13 fX6_afterRound_24 (ht) rfl ?_
    refine q_icmp_ge 43 dX6_afterRound_16 (by decide) (fun _ => ?_) (fun z => absurd (nI_le (by omega) (by omega)) z)
    refine q_iload_n dX6_afterRound_43 rfl rfl ?_
    exact q_iret dX6_afterRound_44 rfl (Nat.zero_le _) (Nat.zero_le _) (⟨by rw [show k = n by omega], rfl, rfl⟩)
  | succ d ih =>
    intro k x y hk hx hy
    subst hx hy
    refine q_iload dX6_afterRound_10 rfl ?_
    refine q_aload_n dX6_afterRound_12 rfl rfl ?_
    refine q_get dX6_afterRound_13 fX6_afterRound_24 (ht) rfl ?_
    refine q_icmp_ge 43 dX6_afterRound_16 (by decide) (fun z => absurd z (nI_ge (by omega) (by omega))) (fun _ => ?_)
    refine q_iload_n dX6_afterRound_19 rfl rfl ?_
    refine q_aload_n dX6_afterRound_20 rfl rfl ?_
    refine q_get dX6_afterRound_21 fX6_afterRound_21 (ht) rfl ?_
    refine q_iload dX6_afterRound_24 rfl ?_
    refine q_iald dX6_afterRound_26 (ho) (in_nI (show k < 8 by omega) (by omega)) ?_
    rw [nI_clamp (by omega)]
    refine q_icmp_lt 37 dX6_afterRound_27 (by decide) (fun cN => ?_) (fun cN => ?_)
    · refine q_iinc1 dX6_afterRound_37 rfl (by decide) ?_
      refine q_goto 10 dX6_afterRound_40 (by decide) ?_
      exact V.at (ih (k + 1) _ _ (by omega) (by simp only [afS]; first | rw [if_neg cN] | rw [if_pos cN]) (nI_s k)) ⟨rfl, rfl, rfl, rfl, rfl, trivial⟩
    · refine q_iload_n dX6_afterRound_30 rfl rfl ?_
      refine q_iconst (v := 1) dX6_afterRound_31 rfl ?_
      refine q_iload dX6_afterRound_32 rfl ?_
      refine q_ishl dX6_afterRound_34 ?_
      refine q_ior dX6_afterRound_35 ?_
      refine q_istore_n dX6_afterRound_36 rfl (by decide) ?_
      refine q_iinc1 dX6_afterRound_37 rfl (by decide) ?_
      refine q_goto 10 dX6_afterRound_40 (by decide) ?_
      exact V.at (ih (k + 1) _ _ (by omega) (by simp only [afS]; first | rw [if_neg cN] | rw [if_pos cN]) (nI_s k)) ⟨rfl, rfl, rfl, rfl, rfl, trivial⟩
theorem c_afterRound {t : Nat} (ht : hat as h t (ob 6 [.ref a0, .ref a1, .ref a2, .ref a3, .int (nI n)])) (ho : hat as h a3 (aI Γ 8 o)) (hn : n ≤ 8) {s : Int32} : Det Γ l mX6_afterRound rX6_afterRound [.ref t, .int s] as h (some (.int (afR o n s))) h := by
  refine Con.of (by decide +kernel) rfl rfl (Nat.le_of_ble_eq_true rfl) ?_
  refine q_iload_n dX6_afterRound_0 rfl rfl ?_
  refine q_callSd dX6_afterRound_1 wX6_afterRound_28 (c_bitCount) rfl rfl (Nat.le_of_ble_eq_true rfl) ⟨⟨Nat.le_of_ble_eq_true rfl, Nat.le_of_ble_eq_true rfl⟩, Nat.le_of_ble_eq_true rfl, Nat.le_of_ble_eq_true rfl⟩ ?_
  refine q_istore_n dX6_afterRound_4 rfl (by decide) ?_
  refine q_iload_n dX6_afterRound_5 rfl rfl ?_
  refine q_istore_n dX6_afterRound_6 rfl (by decide) ?_
  refine q_iconst (v := 0) dX6_afterRound_7 rfl ?_
  refine q_istore dX6_afterRound_8 (by decide) ?_
  exact V.at (after_loop ht ho hn n 0 _ _ (by omega) rfl rfl) ⟨rfl, rfl, rfl, rfl, rfl, trivial⟩
theorem takers_loop {t : Nat} (ht : hat as h t (ob 6 [.ref a0, .ref a1, .ref a2, .ref a3, .int (nI n)])) (ho : hat as h a3 (aI Γ 8 o)) (hn : n ≤ 8) {s0 s : Int32} : ∀ (d k : Nat) (x y : Int32), k + d = 8 → x = takS o n s k → y = nI k → V Γ l mX6_takersFrom rX6_takersFrom (Zm Γ rX6_takersFrom (qD (some (.int (takS o n s 8))) as h)) 0 0 9 [(0, .ref t), (1, .int s0), (2, .int x), (3, .int y)] [] as h := by
  intro d
  induction d with
  | zero =>
    intro k x y hk hx hy
    subst hx hy
    refine q_iload_n dX6_takersFrom_9 rfl rfl ?_
    refine q_bipush (v := 8) dX6_takersFrom_10 rfl ?_
    refine q_icmp_ge 27 dX6_takersFrom_12 (by decide) (fun _ => ?_) (fun z => absurd (ge_c 8 rfl (by omega) (by omega)) z)
    refine q_iload_n dX6_takersFrom_27 rfl rfl ?_
    exact q_iret dX6_takersFrom_28 rfl (Nat.zero_le _) (Nat.zero_le _) (⟨by rw [show k = 8 by omega], rfl, rfl⟩)
  | succ d ih =>
    intro k x y hk hx hy
    subst hx hy
    refine q_iload_n dX6_takersFrom_9 rfl rfl ?_
    refine q_bipush (v := 8) dX6_takersFrom_10 rfl ?_
    refine q_icmp_ge 27 dX6_takersFrom_12 (by decide) (fun z => absurd z (lt_c 8 rfl (by omega) (by omega))) (fun _ => ?_)
    refine q_aload_n dX6_takersFrom_15 rfl rfl ?_
    refine q_iload_n dX6_takersFrom_16 rfl rfl ?_
    refine q_callVd dX6_takersFrom_17 wX6_takersFrom_38 (c_afterRound ht ho hn) (ht) ⟨_, _, rfl⟩ rfl rfl (Nat.le_of_ble_eq_true rfl) ⟨⟨Nat.le_of_ble_eq_true rfl, Nat.le_of_ble_eq_true rfl⟩, Nat.le_of_ble_eq_true rfl, Nat.le_of_ble_eq_true rfl⟩ ?_
    refine q_istore_n dX6_takersFrom_20 rfl (by decide) ?_
    refine q_iinc1 dX6_takersFrom_21 rfl (by decide) ?_
    refine q_goto 9 dX6_takersFrom_24 (by decide) ?_
    exact V.at (ih (k + 1) _ _ (by omega) rfl (nI_s k)) ⟨rfl, rfl, rfl, rfl, trivial⟩
theorem c_takersFrom {t : Nat} (ht : hat as h t (ob 6 [.ref a0, .ref a1, .ref a2, .ref a3, .int (nI n)])) (ho : hat as h a3 (aI Γ 8 o)) (hn : n ≤ 8) {s : Int32} : Det Γ l mX6_takersFrom rX6_takersFrom [.ref t, .int s] as h (some (.int (takF o n s))) h := by
  refine Con.of (by decide +kernel) rfl rfl (Nat.le_of_ble_eq_true rfl) ?_
  refine q_iload_n dX6_takersFrom_0 rfl rfl ?_
  refine q_aload_n dX6_takersFrom_1 rfl rfl ?_
  refine q_callVd dX6_takersFrom_2 wX6_takersFrom_34 (c_everybody ht) (ht) ⟨_, _, rfl⟩ rfl rfl (Nat.le_of_ble_eq_true rfl) ⟨⟨Nat.le_of_ble_eq_true rfl, Nat.le_of_ble_eq_true rfl⟩, Nat.le_of_ble_eq_true rfl, Nat.le_of_ble_eq_true rfl⟩ ?_
  refine q_iand dX6_takersFrom_5 ?_
  refine q_istore_n dX6_takersFrom_6 rfl (by decide) ?_
  refine q_iconst (v := 0) dX6_takersFrom_7 rfl ?_
  refine q_istore_n dX6_takersFrom_8 rfl (by decide) ?_
  exact V.at (takers_loop ht ho hn 8 0 _ _ (by omega) rfl rfl) ⟨rfl, rfl, rfl, rfl, trivial⟩
theorem rounds_loop {t : Nat} (ht : hat as h t (ob 6 [.ref a0, .ref a1, .ref a2, .ref a3, .int (nI n)])) (ho : hat as h a3 (aI Γ 8 o)) (hn : n ≤ 8) {s0 r0 : Int32} : ∀ (d k : Nat) (x y : Int32) (ls : List (Nat × Value)), k + d = 8 → y = nI k → r0 = rndS o n d k x → lin ls [(0, .ref t), (1, .int s0), (2, .int x), (3, .int y)] → V Γ l mX6_roundsFrom rX6_roundsFrom (Zm Γ rX6_roundsFrom (qD (some (.int r0)) as h)) 0 0 9 ls [] as h := by
  intro d
  induction d with
  | zero =>
    intro k x y ls hk hy hr hl
    subst hy hr
    refine V.at ?_ hl
    refine q_iload_n dX6_roundsFrom_9 rfl rfl ?_
    refine q_bipush (v := 8) dX6_roundsFrom_10 rfl ?_
    refine q_icmp_ge 39 dX6_roundsFrom_12 (by decide) (fun _ => ?_) (fun z => absurd (ge_c 8 rfl (by omega) (by omega)) z)
    refine q_bipush (v := 8) dX6_roundsFrom_39 rfl ?_
    exact q_iret dX6_roundsFrom_41 rfl (Nat.zero_le _) (Nat.zero_le _) (⟨rfl, rfl, rfl⟩)
  | succ d ih =>
    intro k x y ls hk hy hr hl
    subst hy
    refine V.at ?_ hl
    refine q_iload_n dX6_roundsFrom_9 rfl rfl ?_
    refine q_bipush (v := 8) dX6_roundsFrom_10 rfl ?_
    refine q_icmp_ge 39 dX6_roundsFrom_12 (by decide) (fun z => absurd z (lt_c 8 rfl (by omega) (by omega))) (fun _ => ?_)
    refine q_aload_n dX6_roundsFrom_15 rfl rfl ?_
    refine q_iload_n dX6_roundsFrom_16 rfl rfl ?_
    refine q_callVd dX6_roundsFrom_17 wX6_roundsFrom_38 (c_afterRound ht ho hn) (ht) ⟨_, _, rfl⟩ rfl rfl (Nat.le_of_ble_eq_true rfl) ⟨⟨Nat.le_of_ble_eq_true rfl, Nat.le_of_ble_eq_true rfl⟩, Nat.le_of_ble_eq_true rfl, Nat.le_of_ble_eq_true rfl⟩ ?_
    refine q_istore dX6_roundsFrom_20 (by decide) ?_
    refine q_iload dX6_roundsFrom_22 rfl ?_
    refine q_iload_n dX6_roundsFrom_24 rfl rfl ?_
    refine q_icmp_ne 30 dX6_roundsFrom_25 (by decide) (fun cE => ?_) (fun cE => ?_)
    · refine q_iload dX6_roundsFrom_30 rfl ?_
      refine q_istore_n dX6_roundsFrom_32 rfl (by decide) ?_
      refine q_iinc1 dX6_roundsFrom_33 rfl (by decide) ?_
      refine q_goto 9 dX6_roundsFrom_36 (by decide) ?_
      exact ih (k + 1) _ _ _ (by omega) (nI_s k) (by rw [hr]; simp only [rndS]; rw [if_neg cE]) ⟨rfl, rfl, rfl, rfl, trivial⟩
    · refine q_iload_n dX6_roundsFrom_28 rfl rfl ?_
      exact q_iret dX6_roundsFrom_29 rfl (Nat.zero_le _) (Nat.zero_le _) (⟨by rw [hr]; simp only [rndS]; rw [if_pos cE], rfl, rfl⟩)
theorem c_roundsFrom {t : Nat} (ht : hat as h t (ob 6 [.ref a0, .ref a1, .ref a2, .ref a3, .int (nI n)])) (ho : hat as h a3 (aI Γ 8 o)) (hn : n ≤ 8) {s : Int32} : Det Γ l mX6_roundsFrom rX6_roundsFrom [.ref t, .int s] as h (some (.int (rndF o n s))) h := by
  refine Con.of (by decide +kernel) rfl rfl (Nat.le_of_ble_eq_true rfl) ?_
  refine q_iload_n dX6_roundsFrom_0 rfl rfl ?_
  refine q_aload_n dX6_roundsFrom_1 rfl rfl ?_
  refine q_callVd dX6_roundsFrom_2 wX6_roundsFrom_34 (c_everybody ht) (ht) ⟨_, _, rfl⟩ rfl rfl (Nat.le_of_ble_eq_true rfl) ⟨⟨Nat.le_of_ble_eq_true rfl, Nat.le_of_ble_eq_true rfl⟩, Nat.le_of_ble_eq_true rfl, Nat.le_of_ble_eq_true rfl⟩ ?_
  refine q_iand dX6_roundsFrom_5 ?_
  refine q_istore_n dX6_roundsFrom_6 rfl (by decide) ?_
  refine q_iconst (v := 0) dX6_roundsFrom_7 rfl ?_
  refine q_istore_n dX6_roundsFrom_8 rfl (by decide) ?_
  exact rounds_loop ht ho hn 8 0 _ _ _ (by omega) rfl rfl ⟨rfl, rfl, rfl, rfl, trivial⟩
theorem seeds_loop {t E : Nat} (ht : hat as h t (ob 6 [.ref a0, .ref a1, .ref a2, .ref a3, .int (nI n)])) (ho : hat as h a3 (aI Γ 8 o)) (hn : n ≤ 8) (hE : evI n = nI E) (hE2 : E < 256) : ∀ (d k : Nat) (x y : Int32) (ls : List (Nat × Value)), k + d = E → x = lsS o n k → y = nI k → lin ls [(0, .ref t), (1, .int x), (2, .int y)] → V Γ l mX6_leastSeeds rX6_leastSeeds (Zm Γ rX6_leastSeeds (qD (some (.int (lsS o n E))) as h)) 0 0 7 ls [] as h := by
  intro d
  induction d with
  | zero =>
    intro k x y ls hk hx hy hl
    subst hx hy
    refine V.at ?_ hl
    refine q_iload_n dX6_leastSeeds_7 rfl rfl ?_
    refine q_aload_n dX6_leastSeeds_8 rfl rfl ?_
    refine q_callVd dX6_leastSeeds_9 wX6_leastSeeds_34 (c_everybody ht) (ht) ⟨_, _, rfl⟩ rfl rfl (Nat.le_of_ble_eq_true rfl) ⟨⟨Nat.le_of_ble_eq_true rfl, Nat.le_of_ble_eq_true rfl⟩, Nat.le_of_ble_eq_true rfl, Nat.le_of_ble_eq_true rfl⟩ ?_
    refine q_icmp_ge 56 dX6_leastSeeds_12 (by decide) (fun _ => ?_) (fun z => absurd (by rw [hE]; exact nI_le (by omega) (by omega)) z)
    refine q_iload_n dX6_leastSeeds_56 rfl rfl ?_
    exact q_iret dX6_leastSeeds_57 rfl (Nat.zero_le _) (Nat.zero_le _) (⟨by rw [show k = E by omega], rfl, rfl⟩)
  | succ d ih =>
    intro k x y ls hk hx hy hl
    subst hx hy
    refine V.at ?_ hl
    refine q_iload_n dX6_leastSeeds_7 rfl rfl ?_
    refine q_aload_n dX6_leastSeeds_8 rfl rfl ?_
    refine q_callVd dX6_leastSeeds_9 wX6_leastSeeds_34 (c_everybody ht) (ht) ⟨_, _, rfl⟩ rfl rfl (Nat.le_of_ble_eq_true rfl) ⟨⟨Nat.le_of_ble_eq_true rfl, Nat.le_of_ble_eq_true rfl⟩, Nat.le_of_ble_eq_true rfl, Nat.le_of_ble_eq_true rfl⟩ ?_
    refine q_icmp_ge 56 dX6_leastSeeds_12 (by decide) (fun z => absurd z (by rw [hE]; exact nI_ge (by omega) (by omega))) (fun _ => ?_)
    refine q_iload_n dX6_leastSeeds_15 rfl rfl ?_
    refine q_callSd dX6_leastSeeds_16 wX6_leastSeeds_28 (c_bitCount) rfl rfl (Nat.le_of_ble_eq_true rfl) ⟨⟨Nat.le_of_ble_eq_true rfl, Nat.le_of_ble_eq_true rfl⟩, Nat.le_of_ble_eq_true rfl, Nat.le_of_ble_eq_true rfl⟩ ?_
    refine q_iload_n dX6_leastSeeds_19 rfl rfl ?_
    refine q_callSd dX6_leastSeeds_20 wX6_leastSeeds_28 (c_bitCount) rfl rfl (Nat.le_of_ble_eq_true rfl) ⟨⟨Nat.le_of_ble_eq_true rfl, Nat.le_of_ble_eq_true rfl⟩, Nat.le_of_ble_eq_true rfl, Nat.le_of_ble_eq_true rfl⟩ ?_
    refine q_icmp_ge 30 dX6_leastSeeds_23 (by decide) (fun cA => ?_) (fun cA => ?_)
    · have e : lsS o n (k + 1) = lsS o n k := by
        simp only [lsS]
        exact if_neg (fun z => absurd z.1 (Int32.not_lt.mpr cA))
      refine q_iconst (v := 0) dX6_leastSeeds_30 rfl ?_
      refine q_istore_n dX6_leastSeeds_31 rfl (by decide) ?_
      refine q_iload_n dX6_leastSeeds_32 rfl rfl ?_
      refine q_if_eq 50 dX6_leastSeeds_33 (by decide) (fun _ => ?_) (fun z => absurd rfl z)
      refine q_iinc1 dX6_leastSeeds_50 rfl (by decide) ?_
      refine q_goto 7 dX6_leastSeeds_53 (by decide) ?_
      exact ih (k + 1) _ _ _ (by omega) e.symm (nI_s k) ⟨rfl, rfl, rfl, trivial⟩
    · refine q_iconst (v := 1) dX6_leastSeeds_26 rfl ?_
      refine q_goto 31 dX6_leastSeeds_27 (by decide) ?_
      refine q_istore_n dX6_leastSeeds_31 rfl (by decide) ?_
      refine q_iload_n dX6_leastSeeds_32 rfl rfl ?_
      refine q_if_eq 50 dX6_leastSeeds_33 (by decide) (fun z => absurd z ((by decide))) (fun _ => ?_)
      refine q_aload_n dX6_leastSeeds_36 rfl rfl ?_
      refine q_iload_n dX6_leastSeeds_37 rfl rfl ?_
      refine q_callVd dX6_leastSeeds_38 wX6_leastSeeds_41 (c_takersFrom ht ho hn) (ht) ⟨_, _, rfl⟩ rfl rfl (Nat.le_of_ble_eq_true rfl) ⟨⟨Nat.le_of_ble_eq_true rfl, Nat.le_of_ble_eq_true rfl⟩, Nat.le_of_ble_eq_true rfl, Nat.le_of_ble_eq_true rfl⟩ ?_
      refine q_aload_n dX6_leastSeeds_41 rfl rfl ?_
      refine q_callVd dX6_leastSeeds_42 wX6_leastSeeds_34 (c_everybody ht) (ht) ⟨_, _, rfl⟩ rfl rfl (Nat.le_of_ble_eq_true rfl) ⟨⟨Nat.le_of_ble_eq_true rfl, Nat.le_of_ble_eq_true rfl⟩, Nat.le_of_ble_eq_true rfl, Nat.le_of_ble_eq_true rfl⟩ ?_
      refine q_icmp_ne 50 dX6_leastSeeds_45 (by decide) (fun cB => ?_) (fun cB => ?_)
      · have e : lsS o n (k + 1) = lsS o n k := by
          simp only [lsS]
          exact if_neg (fun z => cB z.2)
        refine q_iinc1 dX6_leastSeeds_50 rfl (by decide) ?_
        refine q_goto 7 dX6_leastSeeds_53 (by decide) ?_
        exact ih (k + 1) _ _ _ (by omega) e.symm (nI_s k) ⟨rfl, rfl, rfl, trivial⟩
      · have e : lsS o n (k + 1) = nI k := by
          simp only [lsS]
          exact if_pos ⟨Int32.not_le.mp cA, cB⟩
        refine q_iload_n dX6_leastSeeds_48 rfl rfl ?_
        refine q_istore_n dX6_leastSeeds_49 rfl (by decide) ?_
        refine q_iinc1 dX6_leastSeeds_50 rfl (by decide) ?_
        refine q_goto 7 dX6_leastSeeds_53 (by decide) ?_
        exact ih (k + 1) _ _ _ (by omega) e.symm (nI_s k) ⟨rfl, rfl, rfl, trivial⟩
theorem c_leastSeeds {t E : Nat} (ht : hat as h t (ob 6 [.ref a0, .ref a1, .ref a2, .ref a3, .int (nI n)])) (ho : hat as h a3 (aI Γ 8 o)) (hn : n ≤ 8) (hE : evI n = nI E) (hE2 : E < 256) : Det Γ l mX6_leastSeeds rX6_leastSeeds [.ref t] as h (some (.int (lsS o n E))) h := by
  refine Con.of (by decide +kernel) rfl rfl (Nat.le_of_ble_eq_true rfl) ?_
  refine q_aload_n dX6_leastSeeds_0 rfl rfl ?_
  refine q_callVd dX6_leastSeeds_1 wX6_leastSeeds_34 (c_everybody ht) (ht) ⟨_, _, rfl⟩ rfl rfl (Nat.le_of_ble_eq_true rfl) ⟨⟨Nat.le_of_ble_eq_true rfl, Nat.le_of_ble_eq_true rfl⟩, Nat.le_of_ble_eq_true rfl, Nat.le_of_ble_eq_true rfl⟩ ?_
  refine q_istore_n dX6_leastSeeds_4 rfl (by decide) ?_
  refine q_iconst (v := 0) dX6_leastSeeds_5 rfl ?_
  refine q_istore_n dX6_leastSeeds_6 rfl (by decide) ?_
  exact seeds_loop ht ho hn hE hE2 E 0 _ _ _ (by omega) rfl rfl ⟨rfl, rfl, rfl, trivial⟩
end
end
section
/-! DAY (X0) -/
abbrev mX0_sumGrains : mT := (yX0_sumGrains, RX0, cX0_sumGrains, 8, none, wsX0_sumGrains)
abbrev rX0_sumGrains : Room := { frames := 0, cells := 0, slots := 0, locals := 0 }
theorem dX0_sumGrains_0 : decode cX0_sumGrains 0 = .ok (.aload_n 1, 1) := by decide +kernel
theorem dX0_sumGrains_1 : decode cX0_sumGrains 1 = .ok (.iconst 0, 1) := by decide +kernel
theorem dX0_sumGrains_2 : decode cX0_sumGrains 2 = .ok (.iconst 0, 1) := by decide +kernel
theorem dX0_sumGrains_3 : decode cX0_sumGrains 3 = .ok (.iastore, 1) := by decide +kernel
theorem dX0_sumGrains_4 : decode cX0_sumGrains 4 = .ok (.iconst 0, 1) := by decide +kernel
theorem dX0_sumGrains_5 : decode cX0_sumGrains 5 = .ok (.istore 4, 2) := by decide +kernel
theorem dX0_sumGrains_7 : decode cX0_sumGrains 7 = .ok (.iconst 0, 1) := by decide +kernel
theorem dX0_sumGrains_8 : decode cX0_sumGrains 8 = .ok (.istore 5, 2) := by decide +kernel
theorem dX0_sumGrains_10 : decode cX0_sumGrains 10 = .ok (.iload 5, 2) := by decide +kernel
theorem dX0_sumGrains_12 : decode cX0_sumGrains 12 = .ok (.bipush 10, 2) := by decide +kernel
theorem dX0_sumGrains_14 : decode cX0_sumGrains 14 = .ok (.if_icmp .ge 66, 3) := by decide +kernel
theorem dX0_sumGrains_17 : decode cX0_sumGrains 17 = .ok (.iload_n 2, 1) := by decide +kernel
theorem dX0_sumGrains_18 : decode cX0_sumGrains 18 = .ok (.iload_n 3, 1) := by decide +kernel
theorem dX0_sumGrains_19 : decode cX0_sumGrains 19 = .ok (.iload 5, 2) := by decide +kernel
theorem dX0_sumGrains_21 : decode cX0_sumGrains 21 = .ok (.imul, 1) := by decide +kernel
theorem dX0_sumGrains_22 : decode cX0_sumGrains 22 = .ok (.iadd, 1) := by decide +kernel
theorem dX0_sumGrains_23 : decode cX0_sumGrains 23 = .ok (.istore 6, 2) := by decide +kernel
theorem dX0_sumGrains_25 : decode cX0_sumGrains 25 = .ok (.iconst 0, 1) := by decide +kernel
theorem dX0_sumGrains_26 : decode cX0_sumGrains 26 = .ok (.istore 7, 2) := by decide +kernel
theorem dX0_sumGrains_28 : decode cX0_sumGrains 28 = .ok (.iload 7, 2) := by decide +kernel
theorem dX0_sumGrains_30 : decode cX0_sumGrains 30 = .ok (.aload_n 0, 1) := by decide +kernel
theorem dX0_sumGrains_31 : decode cX0_sumGrains 31 = .ok (.getfield 9, 3) := by decide +kernel
theorem dX0_sumGrains_34 : decode cX0_sumGrains 34 = .ok (.iload 6, 2) := by decide +kernel
theorem dX0_sumGrains_36 : decode cX0_sumGrains 36 = .ok (.iaload, 1) := by decide +kernel
theorem dX0_sumGrains_37 : decode cX0_sumGrains 37 = .ok (.if_icmp .ge 37, 3) := by decide +kernel
theorem dX0_sumGrains_40 : decode cX0_sumGrains 40 = .ok (.iload 4, 2) := by decide +kernel
theorem dX0_sumGrains_42 : decode cX0_sumGrains 42 = .ok (.aload_n 0, 1) := by decide +kernel
theorem dX0_sumGrains_43 : decode cX0_sumGrains 43 = .ok (.getfield 21, 3) := by decide +kernel
theorem dX0_sumGrains_46 : decode cX0_sumGrains 46 = .ok (.if_icmp .ge 28, 3) := by decide +kernel
theorem dX0_sumGrains_49 : decode cX0_sumGrains 49 = .ok (.iinc 4 1, 3) := by decide +kernel
theorem dX0_sumGrains_52 : decode cX0_sumGrains 52 = .ok (.aload_n 1, 1) := by decide +kernel
theorem dX0_sumGrains_53 : decode cX0_sumGrains 53 = .ok (.iload 4, 2) := by decide +kernel
theorem dX0_sumGrains_55 : decode cX0_sumGrains 55 = .ok (.aload_n 1, 1) := by decide +kernel
theorem dX0_sumGrains_56 : decode cX0_sumGrains 56 = .ok (.iload 4, 2) := by decide +kernel
theorem dX0_sumGrains_58 : decode cX0_sumGrains 58 = .ok (.iconst 1, 1) := by decide +kernel
theorem dX0_sumGrains_59 : decode cX0_sumGrains 59 = .ok (.isub, 1) := by decide +kernel
theorem dX0_sumGrains_60 : decode cX0_sumGrains 60 = .ok (.iaload, 1) := by decide +kernel
theorem dX0_sumGrains_61 : decode cX0_sumGrains 61 = .ok (.bipush 10, 2) := by decide +kernel
theorem dX0_sumGrains_63 : decode cX0_sumGrains 63 = .ok (.iadd, 1) := by decide +kernel
theorem dX0_sumGrains_64 : decode cX0_sumGrains 64 = .ok (.iload 6, 2) := by decide +kernel
theorem dX0_sumGrains_66 : decode cX0_sumGrains 66 = .ok (.isub, 1) := by decide +kernel
theorem dX0_sumGrains_67 : decode cX0_sumGrains 67 = .ok (.iastore, 1) := by decide +kernel
theorem dX0_sumGrains_68 : decode cX0_sumGrains 68 = .ok (.iinc 7 1, 3) := by decide +kernel
theorem dX0_sumGrains_71 : decode cX0_sumGrains 71 = .ok (.goto (-43), 3) := by decide +kernel
theorem dX0_sumGrains_74 : decode cX0_sumGrains 74 = .ok (.iinc 5 1, 3) := by decide +kernel
theorem dX0_sumGrains_77 : decode cX0_sumGrains 77 = .ok (.goto (-67), 3) := by decide +kernel
theorem dX0_sumGrains_80 : decode cX0_sumGrains 80 = .ok (.return_, 1) := by decide +kernel
theorem iX0_sumGrains_0 : ∀ w ∈ wsX00, w ∈ wsX0_sumGrains := fun w h => List.mem_cons_of_mem _ (List.mem_append_right _ h)
theorem fX0_sumGrains_9 : FL mX0_sumGrains 9 0 0 := ⟨_, _, _, rfl, by decide, iX0_sumGrains_0, by decide +kernel⟩
theorem fX0_sumGrains_21 : FL mX0_sumGrains 21 0 3 := ⟨_, _, _, rfl, by decide, iX0_sumGrains_0, by decide +kernel⟩
abbrev mX0_lay : mT := (yX0_lay, RX0, cX0_lay, 5, none, wsX0_lay)
abbrev rX0_lay : Room := { frames := 2, cells := 0, slots := 0, locals := 45 }
theorem dX0_lay_0 : decode cX0_lay 0 = .ok (.aload_n 0, 1) := by decide +kernel
theorem dX0_lay_1 : decode cX0_lay 1 = .ok (.iload_n 2, 1) := by decide +kernel
theorem dX0_lay_2 : decode cX0_lay 2 = .ok (.putfield 21, 3) := by decide +kernel
theorem dX0_lay_5 : decode cX0_lay 5 = .ok (.aload_n 0, 1) := by decide +kernel
theorem dX0_lay_6 : decode cX0_lay 6 = .ok (.iload_n 3, 1) := by decide +kernel
theorem dX0_lay_7 : decode cX0_lay 7 = .ok (.putfield 25, 3) := by decide +kernel
theorem dX0_lay_10 : decode cX0_lay 10 = .ok (.iconst 0, 1) := by decide +kernel
theorem dX0_lay_11 : decode cX0_lay 11 = .ok (.istore 4, 2) := by decide +kernel
theorem dX0_lay_13 : decode cX0_lay 13 = .ok (.iload 4, 2) := by decide +kernel
theorem dX0_lay_15 : decode cX0_lay 15 = .ok (.bipush 10, 2) := by decide +kernel
theorem dX0_lay_17 : decode cX0_lay 17 = .ok (.if_icmp .ge 22, 3) := by decide +kernel
theorem dX0_lay_20 : decode cX0_lay 20 = .ok (.aload_n 0, 1) := by decide +kernel
theorem dX0_lay_21 : decode cX0_lay 21 = .ok (.getfield 9, 3) := by decide +kernel
theorem dX0_lay_24 : decode cX0_lay 24 = .ok (.iload 4, 2) := by decide +kernel
theorem dX0_lay_26 : decode cX0_lay 26 = .ok (.aload_n 1, 1) := by decide +kernel
theorem dX0_lay_27 : decode cX0_lay 27 = .ok (.iload 4, 2) := by decide +kernel
theorem dX0_lay_29 : decode cX0_lay 29 = .ok (.invokevirtual 28, 3) := by decide +kernel
theorem dX0_lay_32 : decode cX0_lay 32 = .ok (.iastore, 1) := by decide +kernel
theorem dX0_lay_33 : decode cX0_lay 33 = .ok (.iinc 4 1, 3) := by decide +kernel
theorem dX0_lay_36 : decode cX0_lay 36 = .ok (.goto (-23), 3) := by decide +kernel
theorem dX0_lay_39 : decode cX0_lay 39 = .ok (.aload_n 0, 1) := by decide +kernel
theorem dX0_lay_40 : decode cX0_lay 40 = .ok (.aload_n 0, 1) := by decide +kernel
theorem dX0_lay_41 : decode cX0_lay 41 = .ok (.getfield 15, 3) := by decide +kernel
theorem dX0_lay_44 : decode cX0_lay 44 = .ok (.iconst 0, 1) := by decide +kernel
theorem dX0_lay_45 : decode cX0_lay 45 = .ok (.iconst 1, 1) := by decide +kernel
theorem dX0_lay_46 : decode cX0_lay 46 = .ok (.invokevirtual 33, 3) := by decide +kernel
theorem dX0_lay_49 : decode cX0_lay 49 = .ok (.aload_n 0, 1) := by decide +kernel
theorem dX0_lay_50 : decode cX0_lay 50 = .ok (.aload_n 0, 1) := by decide +kernel
theorem dX0_lay_51 : decode cX0_lay 51 = .ok (.getfield 18, 3) := by decide +kernel
theorem dX0_lay_54 : decode cX0_lay 54 = .ok (.bipush 9, 2) := by decide +kernel
theorem dX0_lay_56 : decode cX0_lay 56 = .ok (.iconst (-1), 1) := by decide +kernel
theorem dX0_lay_57 : decode cX0_lay 57 = .ok (.invokevirtual 33, 3) := by decide +kernel
theorem dX0_lay_60 : decode cX0_lay 60 = .ok (.return_, 1) := by decide +kernel
theorem iX0_lay_0 : ∀ w ∈ wsX00, w ∈ wsX0_lay := fun w h => List.mem_cons_of_mem _ (List.mem_append_left _ (List.mem_append_right _ h))
theorem fX0_lay_9 : FL mX0_lay 9 0 0 := ⟨_, _, _, rfl, by decide, iX0_lay_0, by decide +kernel⟩
theorem fX0_lay_15 : FL mX0_lay 15 0 1 := ⟨_, _, _, rfl, by decide, iX0_lay_0, by decide +kernel⟩
theorem fX0_lay_18 : FL mX0_lay 18 0 2 := ⟨_, _, _, rfl, by decide, iX0_lay_0, by decide +kernel⟩
theorem pX0_lay_21 : FP mX0_lay 21 0 3 .int false := ⟨_, _, _, tyX0, rfl, by decide, iX0_lay_0, by decide +kernel, tyX0_ok, nmX0, rfl, rfl, fun z => absurd z (by decide)⟩
theorem pX0_lay_25 : FP mX0_lay 25 0 4 .int false := ⟨_, _, _, tyX0, rfl, by decide, iX0_lay_0, by decide +kernel, tyX0_ok, nmX0, rfl, rfl, fun z => absurd z (by decide)⟩
set_option maxRecDepth 20000 in
theorem ggX0_lay_X4_ofWeight : GoodIn wsX0_lay wsX4_ofWeight := goodIn_r _ [10, 11, 12, 13, 9, 14, 15, 26] (by decide +kernel) (by decide +kernel)
set_option maxRecDepth 20000 in
theorem gX0_lay_X4_ofWeight : GoodIn wsX0_lay (wsV RX0 28 RX4 yX4_ofWeight wsX4_ofWeight) := goodIn_app (goodIn_of _ (by decide +kernel)) ggX0_lay_X4_ofWeight
theorem wX0_lay_28 : CWV mX0_lay 28 mX4_ofWeight 1 := ⟨gX0_lay_X4_ofWeight, ⟨_, rfl⟩, rfl, by decide +kernel, by decide +kernel, by decide +kernel⟩
set_option maxRecDepth 20000 in
theorem ggX0_lay_X0_sumGrains : GoodIn wsX0_lay wsX0_sumGrains := goodIn_r _ [20, 3, 1, 21, 22, 23, 24, 25] (by decide +kernel) (by decide +kernel)
set_option maxRecDepth 20000 in
theorem gX0_lay_X0_sumGrains : GoodIn wsX0_lay (wsV RX0 33 RX0 yX0_sumGrains wsX0_sumGrains) := goodIn_app (goodIn_of _ (by decide +kernel)) ggX0_lay_X0_sumGrains
theorem wX0_lay_33 : CWV mX0_lay 33 mX0_sumGrains 3 := ⟨gX0_lay_X0_sumGrains, ⟨_, rfl⟩, rfl, by decide +kernel, by decide +kernel, by decide +kernel⟩
abbrev mX0_taleUpper : mT := (yX0_taleUpper, RX0, cX0_taleUpper, 2, (some .long), wsX0_taleUpper)
abbrev rX0_taleUpper : Room := { frames := 0, cells := 0, slots := 0, locals := 0 }
theorem dX0_taleUpper_0 : decode cX0_taleUpper 0 = .ok (.aload_n 0, 1) := by decide +kernel
theorem dX0_taleUpper_1 : decode cX0_taleUpper 1 = .ok (.getfield 18, 3) := by decide +kernel
theorem dX0_taleUpper_4 : decode cX0_taleUpper 4 = .ok (.aload_n 0, 1) := by decide +kernel
theorem dX0_taleUpper_5 : decode cX0_taleUpper 5 = .ok (.getfield 21, 3) := by decide +kernel
theorem dX0_taleUpper_8 : decode cX0_taleUpper 8 = .ok (.iload_n 1, 1) := by decide +kernel
theorem dX0_taleUpper_9 : decode cX0_taleUpper 9 = .ok (.isub, 1) := by decide +kernel
theorem dX0_taleUpper_10 : decode cX0_taleUpper 10 = .ok (.iaload, 1) := by decide +kernel
theorem dX0_taleUpper_11 : decode cX0_taleUpper 11 = .ok (.i2l, 1) := by decide +kernel
theorem dX0_taleUpper_12 : decode cX0_taleUpper 12 = .ok (.lreturn, 1) := by decide +kernel
theorem iX0_taleUpper_0 : ∀ w ∈ wsX00, w ∈ wsX0_taleUpper := fun w h => List.mem_cons_of_mem _ (List.mem_append_right _ h)
theorem fX0_taleUpper_18 : FL mX0_taleUpper 18 0 2 := ⟨_, _, _, rfl, by decide, iX0_taleUpper_0, by decide +kernel⟩
theorem fX0_taleUpper_21 : FL mX0_taleUpper 21 0 3 := ⟨_, _, _, rfl, by decide, iX0_taleUpper_0, by decide +kernel⟩
abbrev mX0_taleLower : mT := (yX0_taleLower, RX0, cX0_taleLower, 2, (some .long), wsX0_taleLower)
abbrev rX0_taleLower : Room := { frames := 0, cells := 0, slots := 0, locals := 0 }
theorem dX0_taleLower_0 : decode cX0_taleLower 0 = .ok (.aload_n 0, 1) := by decide +kernel
theorem dX0_taleLower_1 : decode cX0_taleLower 1 = .ok (.getfield 21, 3) := by decide +kernel
theorem dX0_taleLower_4 : decode cX0_taleLower 4 = .ok (.iload_n 1, 1) := by decide +kernel
theorem dX0_taleLower_5 : decode cX0_taleLower 5 = .ok (.isub, 1) := by decide +kernel
theorem dX0_taleLower_6 : decode cX0_taleLower 6 = .ok (.i2l, 1) := by decide +kernel
theorem dX0_taleLower_7 : decode cX0_taleLower 7 = .ok (.lreturn, 1) := by decide +kernel
theorem iX0_taleLower_0 : ∀ w ∈ wsX00, w ∈ wsX0_taleLower := fun w h => List.mem_cons_of_mem _ (List.mem_append_right _ h)
theorem fX0_taleLower_21 : FL mX0_taleLower 21 0 3 := ⟨_, _, _, rfl, by decide, iX0_taleLower_0, by decide +kernel⟩
abbrev mX0_lookUpper : mT := (yX0_lookUpper, RX0, cX0_lookUpper, 2, (some .long), wsX0_lookUpper)
abbrev rX0_lookUpper : Room := { frames := 0, cells := 0, slots := 0, locals := 0 }
theorem dX0_lookUpper_0 : decode cX0_lookUpper 0 = .ok (.bipush 10, 2) := by decide +kernel
theorem dX0_lookUpper_2 : decode cX0_lookUpper 2 = .ok (.aload_n 0, 1) := by decide +kernel
theorem dX0_lookUpper_3 : decode cX0_lookUpper 3 = .ok (.getfield 15, 3) := by decide +kernel
theorem dX0_lookUpper_6 : decode cX0_lookUpper 6 = .ok (.iload_n 1, 1) := by decide +kernel
theorem dX0_lookUpper_7 : decode cX0_lookUpper 7 = .ok (.iaload, 1) := by decide +kernel
theorem dX0_lookUpper_8 : decode cX0_lookUpper 8 = .ok (.imul, 1) := by decide +kernel
theorem dX0_lookUpper_9 : decode cX0_lookUpper 9 = .ok (.aload_n 0, 1) := by decide +kernel
theorem dX0_lookUpper_10 : decode cX0_lookUpper 10 = .ok (.getfield 25, 3) := by decide +kernel
theorem dX0_lookUpper_13 : decode cX0_lookUpper 13 = .ok (.iload_n 1, 1) := by decide +kernel
theorem dX0_lookUpper_14 : decode cX0_lookUpper 14 = .ok (.imul, 1) := by decide +kernel
theorem dX0_lookUpper_15 : decode cX0_lookUpper 15 = .ok (.isub, 1) := by decide +kernel
theorem dX0_lookUpper_16 : decode cX0_lookUpper 16 = .ok (.i2l, 1) := by decide +kernel
theorem dX0_lookUpper_17 : decode cX0_lookUpper 17 = .ok (.lreturn, 1) := by decide +kernel
theorem iX0_lookUpper_0 : ∀ w ∈ wsX00, w ∈ wsX0_lookUpper := fun w h => List.mem_cons_of_mem _ (List.mem_append_right _ h)
theorem fX0_lookUpper_15 : FL mX0_lookUpper 15 0 1 := ⟨_, _, _, rfl, by decide, iX0_lookUpper_0, by decide +kernel⟩
theorem fX0_lookUpper_25 : FL mX0_lookUpper 25 0 4 := ⟨_, _, _, rfl, by decide, iX0_lookUpper_0, by decide +kernel⟩
abbrev mX0_lookLower : mT := (yX0_lookLower, RX0, cX0_lookLower, 2, (some .long), wsX0_lookLower)
abbrev rX0_lookLower : Room := { frames := 0, cells := 0, slots := 0, locals := 0 }
theorem dX0_lookLower_0 : decode cX0_lookLower 0 = .ok (.bipush 10, 2) := by decide +kernel
theorem dX0_lookLower_2 : decode cX0_lookLower 2 = .ok (.iload_n 1, 1) := by decide +kernel
theorem dX0_lookLower_3 : decode cX0_lookLower 3 = .ok (.imul, 1) := by decide +kernel
theorem dX0_lookLower_4 : decode cX0_lookLower 4 = .ok (.i2l, 1) := by decide +kernel
theorem dX0_lookLower_5 : decode cX0_lookLower 5 = .ok (.lreturn, 1) := by decide +kernel
abbrev mX0_lookOverTale : mT := (yX0_lookOverTale, RX0, cX0_lookOverTale, 2, (some .long), wsX0_lookOverTale)
abbrev rX0_lookOverTale : Room := { frames := 1, cells := 0, slots := 0, locals := 21 }
theorem dX0_lookOverTale_0 : decode cX0_lookOverTale 0 = .ok (.aload_n 0, 1) := by decide +kernel
theorem dX0_lookOverTale_1 : decode cX0_lookOverTale 1 = .ok (.iload_n 1, 1) := by decide +kernel
theorem dX0_lookOverTale_2 : decode cX0_lookOverTale 2 = .ok (.iconst 1, 1) := by decide +kernel
theorem dX0_lookOverTale_3 : decode cX0_lookOverTale 3 = .ok (.iadd, 1) := by decide +kernel
theorem dX0_lookOverTale_4 : decode cX0_lookOverTale 4 = .ok (.invokevirtual 37, 3) := by decide +kernel
theorem dX0_lookOverTale_7 : decode cX0_lookOverTale 7 = .ok (.aload_n 0, 1) := by decide +kernel
theorem dX0_lookOverTale_8 : decode cX0_lookOverTale 8 = .ok (.iload_n 1, 1) := by decide +kernel
theorem dX0_lookOverTale_9 : decode cX0_lookOverTale 9 = .ok (.invokevirtual 41, 3) := by decide +kernel
theorem dX0_lookOverTale_12 : decode cX0_lookOverTale 12 = .ok (.lmul, 1) := by decide +kernel
theorem dX0_lookOverTale_13 : decode cX0_lookOverTale 13 = .ok (.aload_n 0, 1) := by decide +kernel
theorem dX0_lookOverTale_14 : decode cX0_lookOverTale 14 = .ok (.iload_n 1, 1) := by decide +kernel
theorem dX0_lookOverTale_15 : decode cX0_lookOverTale 15 = .ok (.invokevirtual 44, 3) := by decide +kernel
theorem dX0_lookOverTale_18 : decode cX0_lookOverTale 18 = .ok (.aload_n 0, 1) := by decide +kernel
theorem dX0_lookOverTale_19 : decode cX0_lookOverTale 19 = .ok (.iload_n 1, 1) := by decide +kernel
theorem dX0_lookOverTale_20 : decode cX0_lookOverTale 20 = .ok (.iconst 1, 1) := by decide +kernel
theorem dX0_lookOverTale_21 : decode cX0_lookOverTale 21 = .ok (.iadd, 1) := by decide +kernel
theorem dX0_lookOverTale_22 : decode cX0_lookOverTale 22 = .ok (.invokevirtual 47, 3) := by decide +kernel
theorem dX0_lookOverTale_25 : decode cX0_lookOverTale 25 = .ok (.lmul, 1) := by decide +kernel
theorem dX0_lookOverTale_26 : decode cX0_lookOverTale 26 = .ok (.lsub, 1) := by decide +kernel
theorem dX0_lookOverTale_27 : decode cX0_lookOverTale 27 = .ok (.lreturn, 1) := by decide +kernel
set_option maxRecDepth 20000 in
theorem ggX0_lookOverTale_X0_lookUpper : GoodIn wsX0_lookOverTale wsX0_lookUpper := goodIn_r _ [5, 6, 7, 22, 23, 24, 25, 26] (by decide +kernel) (by decide +kernel)
set_option maxRecDepth 20000 in
theorem gX0_lookOverTale_X0_lookUpper : GoodIn wsX0_lookOverTale (wsV RX0 37 RX0 yX0_lookUpper wsX0_lookUpper) := goodIn_app (goodIn_of _ (by decide +kernel)) ggX0_lookOverTale_X0_lookUpper
theorem wX0_lookOverTale_37 : CWV mX0_lookOverTale 37 mX0_lookUpper 1 := ⟨gX0_lookOverTale_X0_lookUpper, ⟨_, rfl⟩, rfl, by decide +kernel, by decide +kernel, by decide +kernel⟩
set_option maxRecDepth 20000 in
theorem ggX0_lookOverTale_X0_taleLower : GoodIn wsX0_lookOverTale wsX0_taleLower := goodIn_r _ [11, 12, 22, 23, 24, 25, 26] (by decide +kernel) (by decide +kernel)
set_option maxRecDepth 20000 in
theorem gX0_lookOverTale_X0_taleLower : GoodIn wsX0_lookOverTale (wsV RX0 41 RX0 yX0_taleLower wsX0_taleLower) := goodIn_app (goodIn_of _ (by decide +kernel)) ggX0_lookOverTale_X0_taleLower
theorem wX0_lookOverTale_41 : CWV mX0_lookOverTale 41 mX0_taleLower 1 := ⟨gX0_lookOverTale_X0_taleLower, ⟨_, rfl⟩, rfl, by decide +kernel, by decide +kernel, by decide +kernel⟩
set_option maxRecDepth 20000 in
theorem ggX0_lookOverTale_X0_taleUpper : GoodIn wsX0_lookOverTale wsX0_taleUpper := goodIn_r _ [16, 17, 12, 22, 23, 24, 25, 26] (by decide +kernel) (by decide +kernel)
set_option maxRecDepth 20000 in
theorem gX0_lookOverTale_X0_taleUpper : GoodIn wsX0_lookOverTale (wsV RX0 44 RX0 yX0_taleUpper wsX0_taleUpper) := goodIn_app (goodIn_of _ (by decide +kernel)) ggX0_lookOverTale_X0_taleUpper
theorem wX0_lookOverTale_44 : CWV mX0_lookOverTale 44 mX0_taleUpper 1 := ⟨gX0_lookOverTale_X0_taleUpper, ⟨_, rfl⟩, rfl, by decide +kernel, by decide +kernel, by decide +kernel⟩
set_option maxRecDepth 20000 in
theorem ggX0_lookOverTale_X0_lookLower : GoodIn wsX0_lookOverTale wsX0_lookLower := goodIn_r _ [21] (by decide +kernel) (by decide +kernel)
set_option maxRecDepth 20000 in
theorem gX0_lookOverTale_X0_lookLower : GoodIn wsX0_lookOverTale (wsV RX0 47 RX0 yX0_lookLower wsX0_lookLower) := goodIn_app (goodIn_of _ (by decide +kernel)) ggX0_lookOverTale_X0_lookLower
theorem wX0_lookOverTale_47 : CWV mX0_lookOverTale 47 mX0_lookLower 1 := ⟨gX0_lookOverTale_X0_lookLower, ⟨_, rfl⟩, rfl, by decide +kernel, by decide +kernel, by decide +kernel⟩
abbrev mX0_goesUp : mT := (yX0_goesUp, RX0, cX0_goesUp, 2, (some .boolean), wsX0_goesUp)
abbrev rX0_goesUp : Room := { frames := 2, cells := 0, slots := 0, locals := 42 }
theorem dX0_goesUp_0 : decode cX0_goesUp 0 = .ok (.iload_n 1, 1) := by decide +kernel
theorem dX0_goesUp_1 : decode cX0_goesUp 1 = .ok (.aload_n 0, 1) := by decide +kernel
theorem dX0_goesUp_2 : decode cX0_goesUp 2 = .ok (.getfield 21, 3) := by decide +kernel
theorem dX0_goesUp_5 : decode cX0_goesUp 5 = .ok (.if_icmp .ge 17, 3) := by decide +kernel
theorem dX0_goesUp_8 : decode cX0_goesUp 8 = .ok (.aload_n 0, 1) := by decide +kernel
theorem dX0_goesUp_9 : decode cX0_goesUp 9 = .ok (.iload_n 1, 1) := by decide +kernel
theorem dX0_goesUp_10 : decode cX0_goesUp 10 = .ok (.invokevirtual 50, 3) := by decide +kernel
theorem dX0_goesUp_13 : decode cX0_goesUp 13 = .ok (.lconst 0, 1) := by decide +kernel
theorem dX0_goesUp_14 : decode cX0_goesUp 14 = .ok (.lcmp, 1) := by decide +kernel
theorem dX0_goesUp_15 : decode cX0_goesUp 15 = .ok (.ifCond .le 7, 3) := by decide +kernel
theorem dX0_goesUp_18 : decode cX0_goesUp 18 = .ok (.iconst 1, 1) := by decide +kernel
theorem dX0_goesUp_19 : decode cX0_goesUp 19 = .ok (.goto 4, 3) := by decide +kernel
theorem dX0_goesUp_22 : decode cX0_goesUp 22 = .ok (.iconst 0, 1) := by decide +kernel
theorem dX0_goesUp_23 : decode cX0_goesUp 23 = .ok (.ireturn, 1) := by decide +kernel
theorem iX0_goesUp_0 : ∀ w ∈ wsX00, w ∈ wsX0_goesUp := fun w h => List.mem_cons_of_mem _ (List.mem_append_right _ h)
theorem fX0_goesUp_21 : FL mX0_goesUp 21 0 3 := ⟨_, _, _, rfl, by decide, iX0_goesUp_0, by decide +kernel⟩
set_option maxRecDepth 20000 in
theorem ggX0_goesUp_X0_lookOverTale : GoodIn wsX0_goesUp wsX0_lookOverTale := goodIn_r _ [6, 7, 8, 9, 5, 10, 11, 12, 13, 14, 15, 16, 1, 17, 18, 19, 20, 21, 22, 23, 24, 25, 26, 27, 28, 29, 30] (by decide +kernel) (by decide +kernel)
set_option maxRecDepth 20000 in
theorem gX0_goesUp_X0_lookOverTale : GoodIn wsX0_goesUp (wsV RX0 50 RX0 yX0_lookOverTale wsX0_lookOverTale) := goodIn_app (goodIn_of _ (by decide +kernel)) ggX0_goesUp_X0_lookOverTale
theorem wX0_goesUp_50 : CWV mX0_goesUp 50 mX0_lookOverTale 1 := ⟨gX0_goesUp_X0_lookOverTale, ⟨_, rfl⟩, rfl, by decide +kernel, by decide +kernel, by decide +kernel⟩
abbrev mX0_goesDown : mT := (yX0_goesDown, RX0, cX0_goesDown, 2, (some .boolean), wsX0_goesDown)
abbrev rX0_goesDown : Room := { frames := 2, cells := 0, slots := 0, locals := 42 }
theorem dX0_goesDown_0 : decode cX0_goesDown 0 = .ok (.iload_n 1, 1) := by decide +kernel
theorem dX0_goesDown_1 : decode cX0_goesDown 1 = .ok (.ifCond .le 19, 3) := by decide +kernel
theorem dX0_goesDown_4 : decode cX0_goesDown 4 = .ok (.aload_n 0, 1) := by decide +kernel
theorem dX0_goesDown_5 : decode cX0_goesDown 5 = .ok (.iload_n 1, 1) := by decide +kernel
theorem dX0_goesDown_6 : decode cX0_goesDown 6 = .ok (.iconst 1, 1) := by decide +kernel
theorem dX0_goesDown_7 : decode cX0_goesDown 7 = .ok (.isub, 1) := by decide +kernel
theorem dX0_goesDown_8 : decode cX0_goesDown 8 = .ok (.invokevirtual 50, 3) := by decide +kernel
theorem dX0_goesDown_11 : decode cX0_goesDown 11 = .ok (.lconst 0, 1) := by decide +kernel
theorem dX0_goesDown_12 : decode cX0_goesDown 12 = .ok (.lcmp, 1) := by decide +kernel
theorem dX0_goesDown_13 : decode cX0_goesDown 13 = .ok (.ifCond .ge 7, 3) := by decide +kernel
theorem dX0_goesDown_16 : decode cX0_goesDown 16 = .ok (.iconst 1, 1) := by decide +kernel
theorem dX0_goesDown_17 : decode cX0_goesDown 17 = .ok (.goto 4, 3) := by decide +kernel
theorem dX0_goesDown_20 : decode cX0_goesDown 20 = .ok (.iconst 0, 1) := by decide +kernel
theorem dX0_goesDown_21 : decode cX0_goesDown 21 = .ok (.ireturn, 1) := by decide +kernel
set_option maxRecDepth 20000 in
theorem ggX0_goesDown_X0_lookOverTale : GoodIn wsX0_goesDown wsX0_lookOverTale := goodIn_r _ [5, 6, 7, 8, 4, 9, 10, 11, 12, 13, 14, 15, 16, 17, 18, 19, 20, 21, 22, 23, 24, 25, 26, 27, 28, 29, 30] (by decide +kernel) (by decide +kernel)
set_option maxRecDepth 20000 in
theorem gX0_goesDown_X0_lookOverTale : GoodIn wsX0_goesDown (wsV RX0 50 RX0 yX0_lookOverTale wsX0_lookOverTale) := goodIn_app (goodIn_of _ (by decide +kernel)) ggX0_goesDown_X0_lookOverTale
theorem wX0_goesDown_50 : CWV mX0_goesDown 50 mX0_lookOverTale 1 := ⟨gX0_goesDown_X0_lookOverTale, ⟨_, rfl⟩, rfl, by decide +kernel, by decide +kernel, by decide +kernel⟩
abbrev mX0_allThatRest : mT := (yX0_allThatRest, RX0, cX0_allThatRest, 3, (some .int), wsX0_allThatRest)
abbrev rX0_allThatRest : Room := { frames := 3, cells := 0, slots := 0, locals := 63 }
theorem dX0_allThatRest_0 : decode cX0_allThatRest 0 = .ok (.iconst 0, 1) := by decide +kernel
theorem dX0_allThatRest_1 : decode cX0_allThatRest 1 = .ok (.istore_n 1, 1) := by decide +kernel
theorem dX0_allThatRest_2 : decode cX0_allThatRest 2 = .ok (.iconst 0, 1) := by decide +kernel
theorem dX0_allThatRest_3 : decode cX0_allThatRest 3 = .ok (.istore_n 2, 1) := by decide +kernel
theorem dX0_allThatRest_4 : decode cX0_allThatRest 4 = .ok (.iload_n 2, 1) := by decide +kernel
theorem dX0_allThatRest_5 : decode cX0_allThatRest 5 = .ok (.aload_n 0, 1) := by decide +kernel
theorem dX0_allThatRest_6 : decode cX0_allThatRest 6 = .ok (.getfield 21, 3) := by decide +kernel
theorem dX0_allThatRest_9 : decode cX0_allThatRest 9 = .ok (.if_icmp .gt 31, 3) := by decide +kernel
theorem dX0_allThatRest_12 : decode cX0_allThatRest 12 = .ok (.aload_n 0, 1) := by decide +kernel
theorem dX0_allThatRest_13 : decode cX0_allThatRest 13 = .ok (.iload_n 2, 1) := by decide +kernel
theorem dX0_allThatRest_14 : decode cX0_allThatRest 14 = .ok (.invokevirtual 53, 3) := by decide +kernel
theorem dX0_allThatRest_17 : decode cX0_allThatRest 17 = .ok (.ifCond .ne 17, 3) := by decide +kernel
theorem dX0_allThatRest_20 : decode cX0_allThatRest 20 = .ok (.aload_n 0, 1) := by decide +kernel
theorem dX0_allThatRest_21 : decode cX0_allThatRest 21 = .ok (.iload_n 2, 1) := by decide +kernel
theorem dX0_allThatRest_22 : decode cX0_allThatRest 22 = .ok (.invokevirtual 57, 3) := by decide +kernel
theorem dX0_allThatRest_25 : decode cX0_allThatRest 25 = .ok (.ifCond .ne 9, 3) := by decide +kernel
theorem dX0_allThatRest_28 : decode cX0_allThatRest 28 = .ok (.iload_n 1, 1) := by decide +kernel
theorem dX0_allThatRest_29 : decode cX0_allThatRest 29 = .ok (.iconst 1, 1) := by decide +kernel
theorem dX0_allThatRest_30 : decode cX0_allThatRest 30 = .ok (.iload_n 2, 1) := by decide +kernel
theorem dX0_allThatRest_31 : decode cX0_allThatRest 31 = .ok (.ishl, 1) := by decide +kernel
theorem dX0_allThatRest_32 : decode cX0_allThatRest 32 = .ok (.ior, 1) := by decide +kernel
theorem dX0_allThatRest_33 : decode cX0_allThatRest 33 = .ok (.istore_n 1, 1) := by decide +kernel
theorem dX0_allThatRest_34 : decode cX0_allThatRest 34 = .ok (.iinc 2 1, 3) := by decide +kernel
theorem dX0_allThatRest_37 : decode cX0_allThatRest 37 = .ok (.goto (-33), 3) := by decide +kernel
theorem dX0_allThatRest_40 : decode cX0_allThatRest 40 = .ok (.iload_n 1, 1) := by decide +kernel
theorem dX0_allThatRest_41 : decode cX0_allThatRest 41 = .ok (.ireturn, 1) := by decide +kernel
theorem iX0_allThatRest_0 : ∀ w ∈ wsX00, w ∈ wsX0_allThatRest := fun w h => List.mem_cons_of_mem _ (List.mem_append_right _ h)
theorem fX0_allThatRest_21 : FL mX0_allThatRest 21 0 3 := ⟨_, _, _, rfl, by decide, iX0_allThatRest_0, by decide +kernel⟩
set_option maxRecDepth 20000 in
theorem ggX0_allThatRest_X0_goesUp : GoodIn wsX0_allThatRest wsX0_goesUp := goodIn_r _ [6, 1, 7, 8, 9, 5, 10, 11, 12, 13, 14, 15, 16, 17, 18, 19, 20, 21, 22, 23, 24, 25, 26, 27, 28, 29, 34, 35, 36, 37, 38] (by decide +kernel) (by decide +kernel)
set_option maxRecDepth 20000 in
theorem gX0_allThatRest_X0_goesUp : GoodIn wsX0_allThatRest (wsV RX0 53 RX0 yX0_goesUp wsX0_goesUp) := goodIn_app (goodIn_of _ (by decide +kernel)) ggX0_allThatRest_X0_goesUp
theorem wX0_allThatRest_53 : CWV mX0_allThatRest 53 mX0_goesUp 1 := ⟨gX0_allThatRest_X0_goesUp, ⟨_, rfl⟩, rfl, by decide +kernel, by decide +kernel, by decide +kernel⟩
set_option maxRecDepth 20000 in
theorem ggX0_allThatRest_X0_goesDown : GoodIn wsX0_allThatRest wsX0_goesDown := goodIn_r _ [33, 7, 8, 9, 5, 10, 11, 12, 13, 14, 15, 16, 17, 18, 19, 20, 1, 21, 22, 23, 24, 25, 26, 27, 28, 29, 34, 35, 36, 37, 38] (by decide +kernel) (by decide +kernel)
set_option maxRecDepth 20000 in
theorem gX0_allThatRest_X0_goesDown : GoodIn wsX0_allThatRest (wsV RX0 57 RX0 yX0_goesDown wsX0_goesDown) := goodIn_app (goodIn_of _ (by decide +kernel)) ggX0_allThatRest_X0_goesDown
theorem wX0_allThatRest_57 : CWV mX0_allThatRest 57 mX0_goesDown 1 := ⟨gX0_allThatRest_X0_goesDown, ⟨_, rfl⟩, rfl, by decide +kernel, by decide +kernel, by decide +kernel⟩
abbrev mX0_endFrom : mT := (yX0_endFrom, RX0, cX0_endFrom, 4, (some .int), wsX0_endFrom)
abbrev rX0_endFrom : Room := { frames := 3, cells := 0, slots := 0, locals := 63 }
theorem dX0_endFrom_0 : decode cX0_endFrom 0 = .ok (.iload_n 1, 1) := by decide +kernel
theorem dX0_endFrom_1 : decode cX0_endFrom 1 = .ok (.istore_n 2, 1) := by decide +kernel
theorem dX0_endFrom_2 : decode cX0_endFrom 2 = .ok (.iconst 0, 1) := by decide +kernel
theorem dX0_endFrom_3 : decode cX0_endFrom 3 = .ok (.istore_n 3, 1) := by decide +kernel
theorem dX0_endFrom_4 : decode cX0_endFrom 4 = .ok (.iload_n 3, 1) := by decide +kernel
theorem dX0_endFrom_5 : decode cX0_endFrom 5 = .ok (.aload_n 0, 1) := by decide +kernel
theorem dX0_endFrom_6 : decode cX0_endFrom 6 = .ok (.getfield 21, 3) := by decide +kernel
theorem dX0_endFrom_9 : decode cX0_endFrom 9 = .ok (.if_icmp .ge 34, 3) := by decide +kernel
theorem dX0_endFrom_12 : decode cX0_endFrom 12 = .ok (.aload_n 0, 1) := by decide +kernel
theorem dX0_endFrom_13 : decode cX0_endFrom 13 = .ok (.iload_n 2, 1) := by decide +kernel
theorem dX0_endFrom_14 : decode cX0_endFrom 14 = .ok (.invokevirtual 53, 3) := by decide +kernel
theorem dX0_endFrom_17 : decode cX0_endFrom 17 = .ok (.ifCond .eq 9, 3) := by decide +kernel
theorem dX0_endFrom_20 : decode cX0_endFrom 20 = .ok (.iinc 2 1, 3) := by decide +kernel
theorem dX0_endFrom_23 : decode cX0_endFrom 23 = .ok (.goto 14, 3) := by decide +kernel
theorem dX0_endFrom_26 : decode cX0_endFrom 26 = .ok (.aload_n 0, 1) := by decide +kernel
theorem dX0_endFrom_27 : decode cX0_endFrom 27 = .ok (.iload_n 2, 1) := by decide +kernel
theorem dX0_endFrom_28 : decode cX0_endFrom 28 = .ok (.invokevirtual 57, 3) := by decide +kernel
theorem dX0_endFrom_31 : decode cX0_endFrom 31 = .ok (.ifCond .eq 6, 3) := by decide +kernel
theorem dX0_endFrom_34 : decode cX0_endFrom 34 = .ok (.iinc 2 (-1), 3) := by decide +kernel
theorem dX0_endFrom_37 : decode cX0_endFrom 37 = .ok (.iinc 3 1, 3) := by decide +kernel
theorem dX0_endFrom_40 : decode cX0_endFrom 40 = .ok (.goto (-36), 3) := by decide +kernel
theorem dX0_endFrom_43 : decode cX0_endFrom 43 = .ok (.iload_n 2, 1) := by decide +kernel
theorem dX0_endFrom_44 : decode cX0_endFrom 44 = .ok (.ireturn, 1) := by decide +kernel
theorem iX0_endFrom_0 : ∀ w ∈ wsX00, w ∈ wsX0_endFrom := fun w h => List.mem_cons_of_mem _ (List.mem_append_right _ h)
theorem fX0_endFrom_21 : FL mX0_endFrom 21 0 3 := ⟨_, _, _, rfl, by decide, iX0_endFrom_0, by decide +kernel⟩
set_option maxRecDepth 20000 in
theorem ggX0_endFrom_X0_goesUp : GoodIn wsX0_endFrom wsX0_goesUp := goodIn_r _ [6, 1, 7, 8, 9, 5, 10, 11, 12, 13, 14, 15, 16, 17, 18, 19, 20, 21, 22, 23, 24, 25, 26, 27, 28, 29, 34, 35, 36, 37, 38] (by decide +kernel) (by decide +kernel)
set_option maxRecDepth 20000 in
theorem gX0_endFrom_X0_goesUp : GoodIn wsX0_endFrom (wsV RX0 53 RX0 yX0_goesUp wsX0_goesUp) := goodIn_app (goodIn_of _ (by decide +kernel)) ggX0_endFrom_X0_goesUp
theorem wX0_endFrom_53 : CWV mX0_endFrom 53 mX0_goesUp 1 := ⟨gX0_endFrom_X0_goesUp, ⟨_, rfl⟩, rfl, by decide +kernel, by decide +kernel, by decide +kernel⟩
set_option maxRecDepth 20000 in
theorem ggX0_endFrom_X0_goesDown : GoodIn wsX0_endFrom wsX0_goesDown := goodIn_r _ [33, 7, 8, 9, 5, 10, 11, 12, 13, 14, 15, 16, 17, 18, 19, 20, 1, 21, 22, 23, 24, 25, 26, 27, 28, 29, 34, 35, 36, 37, 38] (by decide +kernel) (by decide +kernel)
set_option maxRecDepth 20000 in
theorem gX0_endFrom_X0_goesDown : GoodIn wsX0_endFrom (wsV RX0 57 RX0 yX0_goesDown wsX0_goesDown) := goodIn_app (goodIn_of _ (by decide +kernel)) ggX0_endFrom_X0_goesDown
theorem wX0_endFrom_57 : CWV mX0_endFrom 57 mX0_goesDown 1 := ⟨gX0_endFrom_X0_goesDown, ⟨_, rfl⟩, rfl, by decide +kernel, by decide +kernel, by decide +kernel⟩
abbrev mX0_leastThatEndsInAll : mT := (yX0_leastThatEndsInAll, RX0, cX0_leastThatEndsInAll, 2, (some .int), wsX0_leastThatEndsInAll)
abbrev rX0_leastThatEndsInAll : Room := { frames := 4, cells := 0, slots := 0, locals := 86 }
theorem dX0_leastThatEndsInAll_0 : decode cX0_leastThatEndsInAll 0 = .ok (.iconst 0, 1) := by decide +kernel
theorem dX0_leastThatEndsInAll_1 : decode cX0_leastThatEndsInAll 1 = .ok (.istore_n 1, 1) := by decide +kernel
theorem dX0_leastThatEndsInAll_2 : decode cX0_leastThatEndsInAll 2 = .ok (.iload_n 1, 1) := by decide +kernel
theorem dX0_leastThatEndsInAll_3 : decode cX0_leastThatEndsInAll 3 = .ok (.aload_n 0, 1) := by decide +kernel
theorem dX0_leastThatEndsInAll_4 : decode cX0_leastThatEndsInAll 4 = .ok (.getfield 21, 3) := by decide +kernel
theorem dX0_leastThatEndsInAll_7 : decode cX0_leastThatEndsInAll 7 = .ok (.if_icmp .gt 23, 3) := by decide +kernel
theorem dX0_leastThatEndsInAll_10 : decode cX0_leastThatEndsInAll 10 = .ok (.aload_n 0, 1) := by decide +kernel
theorem dX0_leastThatEndsInAll_11 : decode cX0_leastThatEndsInAll 11 = .ok (.iload_n 1, 1) := by decide +kernel
theorem dX0_leastThatEndsInAll_12 : decode cX0_leastThatEndsInAll 12 = .ok (.invokevirtual 60, 3) := by decide +kernel
theorem dX0_leastThatEndsInAll_15 : decode cX0_leastThatEndsInAll 15 = .ok (.aload_n 0, 1) := by decide +kernel
theorem dX0_leastThatEndsInAll_16 : decode cX0_leastThatEndsInAll 16 = .ok (.getfield 21, 3) := by decide +kernel
theorem dX0_leastThatEndsInAll_19 : decode cX0_leastThatEndsInAll 19 = .ok (.if_icmp .ne 5, 3) := by decide +kernel
theorem dX0_leastThatEndsInAll_22 : decode cX0_leastThatEndsInAll 22 = .ok (.iload_n 1, 1) := by decide +kernel
theorem dX0_leastThatEndsInAll_23 : decode cX0_leastThatEndsInAll 23 = .ok (.ireturn, 1) := by decide +kernel
theorem dX0_leastThatEndsInAll_24 : decode cX0_leastThatEndsInAll 24 = .ok (.iinc 1 1, 3) := by decide +kernel
theorem dX0_leastThatEndsInAll_27 : decode cX0_leastThatEndsInAll 27 = .ok (.goto (-25), 3) := by decide +kernel
theorem dX0_leastThatEndsInAll_30 : decode cX0_leastThatEndsInAll 30 = .ok (.bipush (-9), 2) := by decide +kernel
theorem dX0_leastThatEndsInAll_32 : decode cX0_leastThatEndsInAll 32 = .ok (.ireturn, 1) := by decide +kernel
theorem iX0_leastThatEndsInAll_0 : ∀ w ∈ wsX00, w ∈ wsX0_leastThatEndsInAll := fun w h => List.mem_cons_of_mem _ (List.mem_append_right _ h)
theorem fX0_leastThatEndsInAll_21 : FL mX0_leastThatEndsInAll 21 0 3 := ⟨_, _, _, rfl, by decide, iX0_leastThatEndsInAll_0, by decide +kernel⟩
set_option maxRecDepth 20000 in
theorem ggX0_leastThatEndsInAll_X0_endFrom : GoodIn wsX0_leastThatEndsInAll wsX0_endFrom := goodIn_r _ [6, 1, 7, 8, 9, 5, 10, 11, 12, 13, 14, 15, 16, 17, 18, 19, 20, 21, 22, 23, 24, 25, 26, 27, 28, 29, 30, 31, 32, 33, 34, 35, 36, 37, 38, 39, 40, 41, 42] (by decide +kernel) (by decide +kernel)
set_option maxRecDepth 20000 in
theorem gX0_leastThatEndsInAll_X0_endFrom : GoodIn wsX0_leastThatEndsInAll (wsV RX0 60 RX0 yX0_endFrom wsX0_endFrom) := goodIn_app (goodIn_of _ (by decide +kernel)) ggX0_leastThatEndsInAll_X0_endFrom
theorem wX0_leastThatEndsInAll_60 : CWV mX0_leastThatEndsInAll 60 mX0_endFrom 1 := ⟨gX0_leastThatEndsInAll_X0_endFrom, ⟨_, rfl⟩, rfl, by decide +kernel, by decide +kernel, by decide +kernel⟩
abbrev mX0_weightsOf : mT := (yX0_weightsOf, RX0, cX0_weightsOf, 8, (some .int), wsX0_weightsOf)
abbrev rX0_weightsOf : Room := { frames := 1, cells := 0, slots := 0, locals := 40 }
theorem dX0_weightsOf_0 : decode cX0_weightsOf 0 = .ok (.iload_n 1, 1) := by decide +kernel
theorem dX0_weightsOf_1 : decode cX0_weightsOf 1 = .ok (.istore 4, 2) := by decide +kernel
theorem dX0_weightsOf_3 : decode cX0_weightsOf 3 = .ok (.iconst 0, 1) := by decide +kernel
theorem dX0_weightsOf_4 : decode cX0_weightsOf 4 = .ok (.istore 5, 2) := by decide +kernel
theorem dX0_weightsOf_6 : decode cX0_weightsOf 6 = .ok (.iconst 0, 1) := by decide +kernel
theorem dX0_weightsOf_7 : decode cX0_weightsOf 7 = .ok (.istore 6, 2) := by decide +kernel
theorem dX0_weightsOf_9 : decode cX0_weightsOf 9 = .ok (.iload 6, 2) := by decide +kernel
theorem dX0_weightsOf_11 : decode cX0_weightsOf 11 = .ok (.bipush 10, 2) := by decide +kernel
theorem dX0_weightsOf_13 : decode cX0_weightsOf 13 = .ok (.if_icmp .ge 58, 3) := by decide +kernel
theorem dX0_weightsOf_16 : decode cX0_weightsOf 16 = .ok (.iload_n 2, 1) := by decide +kernel
theorem dX0_weightsOf_17 : decode cX0_weightsOf 17 = .ok (.iload_n 3, 1) := by decide +kernel
theorem dX0_weightsOf_18 : decode cX0_weightsOf 18 = .ok (.iload 6, 2) := by decide +kernel
theorem dX0_weightsOf_20 : decode cX0_weightsOf 20 = .ok (.imul, 1) := by decide +kernel
theorem dX0_weightsOf_21 : decode cX0_weightsOf 21 = .ok (.iadd, 1) := by decide +kernel
theorem dX0_weightsOf_22 : decode cX0_weightsOf 22 = .ok (.istore 7, 2) := by decide +kernel
theorem dX0_weightsOf_24 : decode cX0_weightsOf 24 = .ok (.iload 4, 2) := by decide +kernel
theorem dX0_weightsOf_26 : decode cX0_weightsOf 26 = .ok (.ifCond .le 39, 3) := by decide +kernel
theorem dX0_weightsOf_29 : decode cX0_weightsOf 29 = .ok (.aload_n 0, 1) := by decide +kernel
theorem dX0_weightsOf_30 : decode cX0_weightsOf 30 = .ok (.getfield 9, 3) := by decide +kernel
theorem dX0_weightsOf_33 : decode cX0_weightsOf 33 = .ok (.iload 7, 2) := by decide +kernel
theorem dX0_weightsOf_35 : decode cX0_weightsOf 35 = .ok (.iaload, 1) := by decide +kernel
theorem dX0_weightsOf_36 : decode cX0_weightsOf 36 = .ok (.ifCond .le 29, 3) := by decide +kernel
theorem dX0_weightsOf_39 : decode cX0_weightsOf 39 = .ok (.iload 5, 2) := by decide +kernel
theorem dX0_weightsOf_41 : decode cX0_weightsOf 41 = .ok (.iconst 1, 1) := by decide +kernel
theorem dX0_weightsOf_42 : decode cX0_weightsOf 42 = .ok (.iload 7, 2) := by decide +kernel
theorem dX0_weightsOf_44 : decode cX0_weightsOf 44 = .ok (.ishl, 1) := by decide +kernel
theorem dX0_weightsOf_45 : decode cX0_weightsOf 45 = .ok (.ior, 1) := by decide +kernel
theorem dX0_weightsOf_46 : decode cX0_weightsOf 46 = .ok (.istore 5, 2) := by decide +kernel
theorem dX0_weightsOf_48 : decode cX0_weightsOf 48 = .ok (.iload 4, 2) := by decide +kernel
theorem dX0_weightsOf_50 : decode cX0_weightsOf 50 = .ok (.iload 4, 2) := by decide +kernel
theorem dX0_weightsOf_52 : decode cX0_weightsOf 52 = .ok (.aload_n 0, 1) := by decide +kernel
theorem dX0_weightsOf_53 : decode cX0_weightsOf 53 = .ok (.getfield 9, 3) := by decide +kernel
theorem dX0_weightsOf_56 : decode cX0_weightsOf 56 = .ok (.iload 7, 2) := by decide +kernel
theorem dX0_weightsOf_58 : decode cX0_weightsOf 58 = .ok (.iaload, 1) := by decide +kernel
theorem dX0_weightsOf_59 : decode cX0_weightsOf 59 = .ok (.invokestatic 70, 3) := by decide +kernel
theorem dX0_weightsOf_62 : decode cX0_weightsOf 62 = .ok (.isub, 1) := by decide +kernel
theorem dX0_weightsOf_63 : decode cX0_weightsOf 63 = .ok (.istore 4, 2) := by decide +kernel
theorem dX0_weightsOf_65 : decode cX0_weightsOf 65 = .ok (.iinc 6 1, 3) := by decide +kernel
theorem dX0_weightsOf_68 : decode cX0_weightsOf 68 = .ok (.goto (-59), 3) := by decide +kernel
theorem dX0_weightsOf_71 : decode cX0_weightsOf 71 = .ok (.iload 5, 2) := by decide +kernel
theorem dX0_weightsOf_73 : decode cX0_weightsOf 73 = .ok (.ireturn, 1) := by decide +kernel
theorem iX0_weightsOf_0 : ∀ w ∈ wsX00, w ∈ wsX0_weightsOf := fun w h => List.mem_cons_of_mem _ (List.mem_append_right _ h)
theorem fX0_weightsOf_9 : FL mX0_weightsOf 9 0 0 := ⟨_, _, _, rfl, by decide, iX0_weightsOf_0, by decide +kernel⟩
abbrev mX0_weightsLeftOut : mT := (yX0_weightsLeftOut, RX0, cX0_weightsLeftOut, 3, (some .int), wsX0_weightsLeftOut)
abbrev rX0_weightsLeftOut : Room := { frames := 2, cells := 0, slots := 0, locals := 67 }
theorem dX0_weightsLeftOut_0 : decode cX0_weightsLeftOut 0 = .ok (.aload_n 0, 1) := by decide +kernel
theorem dX0_weightsLeftOut_1 : decode cX0_weightsLeftOut 1 = .ok (.iload_n 1, 1) := by decide +kernel
theorem dX0_weightsLeftOut_2 : decode cX0_weightsLeftOut 2 = .ok (.iconst 0, 1) := by decide +kernel
theorem dX0_weightsLeftOut_3 : decode cX0_weightsLeftOut 3 = .ok (.iconst 1, 1) := by decide +kernel
theorem dX0_weightsLeftOut_4 : decode cX0_weightsLeftOut 4 = .ok (.invokevirtual 63, 3) := by decide +kernel
theorem dX0_weightsLeftOut_7 : decode cX0_weightsLeftOut 7 = .ok (.aload_n 0, 1) := by decide +kernel
theorem dX0_weightsLeftOut_8 : decode cX0_weightsLeftOut 8 = .ok (.aload_n 0, 1) := by decide +kernel
theorem dX0_weightsLeftOut_9 : decode cX0_weightsLeftOut 9 = .ok (.getfield 21, 3) := by decide +kernel
theorem dX0_weightsLeftOut_12 : decode cX0_weightsLeftOut 12 = .ok (.iload_n 1, 1) := by decide +kernel
theorem dX0_weightsLeftOut_13 : decode cX0_weightsLeftOut 13 = .ok (.isub, 1) := by decide +kernel
theorem dX0_weightsLeftOut_14 : decode cX0_weightsLeftOut 14 = .ok (.bipush 9, 2) := by decide +kernel
theorem dX0_weightsLeftOut_16 : decode cX0_weightsLeftOut 16 = .ok (.iconst (-1), 1) := by decide +kernel
theorem dX0_weightsLeftOut_17 : decode cX0_weightsLeftOut 17 = .ok (.invokevirtual 63, 3) := by decide +kernel
theorem dX0_weightsLeftOut_20 : decode cX0_weightsLeftOut 20 = .ok (.ior, 1) := by decide +kernel
theorem dX0_weightsLeftOut_21 : decode cX0_weightsLeftOut 21 = .ok (.istore_n 2, 1) := by decide +kernel
theorem dX0_weightsLeftOut_22 : decode cX0_weightsLeftOut 22 = .ok (.aload_n 0, 1) := by decide +kernel
theorem dX0_weightsLeftOut_23 : decode cX0_weightsLeftOut 23 = .ok (.ldc 69, 2) := by decide +kernel
theorem dX0_weightsLeftOut_25 : decode cX0_weightsLeftOut 25 = .ok (.iconst 0, 1) := by decide +kernel
theorem dX0_weightsLeftOut_26 : decode cX0_weightsLeftOut 26 = .ok (.iconst 1, 1) := by decide +kernel
theorem dX0_weightsLeftOut_27 : decode cX0_weightsLeftOut 27 = .ok (.invokevirtual 63, 3) := by decide +kernel
theorem dX0_weightsLeftOut_30 : decode cX0_weightsLeftOut 30 = .ok (.iload_n 2, 1) := by decide +kernel
theorem dX0_weightsLeftOut_31 : decode cX0_weightsLeftOut 31 = .ok (.iconst (-1), 1) := by decide +kernel
theorem dX0_weightsLeftOut_32 : decode cX0_weightsLeftOut 32 = .ok (.ixor, 1) := by decide +kernel
theorem dX0_weightsLeftOut_33 : decode cX0_weightsLeftOut 33 = .ok (.iand, 1) := by decide +kernel
theorem dX0_weightsLeftOut_34 : decode cX0_weightsLeftOut 34 = .ok (.ireturn, 1) := by decide +kernel
theorem iX0_weightsLeftOut_0 : ∀ w ∈ wsX00, w ∈ wsX0_weightsLeftOut := fun w h => List.mem_cons_of_mem _ (List.mem_append_right _ h)
theorem fX0_weightsLeftOut_21 : FL mX0_weightsLeftOut 21 0 3 := ⟨_, _, _, rfl, by decide, iX0_weightsLeftOut_0, by decide +kernel⟩
set_option maxRecDepth 20000 in
theorem ggX0_weightsLeftOut_X0_weightsOf : GoodIn wsX0_weightsLeftOut wsX0_weightsOf := goodIn_r _ [7, 8, 9, 10, 11, 12, 13, 14, 15, 16, 17] (by decide +kernel) (by decide +kernel)
set_option maxRecDepth 20000 in
theorem gX0_weightsLeftOut_X0_weightsOf : GoodIn wsX0_weightsLeftOut (wsV RX0 63 RX0 yX0_weightsOf wsX0_weightsOf) := goodIn_app (goodIn_of _ (by decide +kernel)) ggX0_weightsLeftOut_X0_weightsOf
theorem wX0_weightsLeftOut_63 : CWV mX0_weightsLeftOut 63 mX0_weightsOf 3 := ⟨gX0_weightsLeftOut_X0_weightsOf, ⟨_, rfl⟩, rfl, by decide +kernel, by decide +kernel, by decide +kernel⟩
/-- coins of the first i weights, in the order wt -/
def cB (W wt : Nat → Nat) : Nat → Nat
  | 0 => 0
  | i + 1 => cB W wt i + W (wt i)
/-- grains of the first t coins, in the order wt, of the first i weights -/
def gG (W wt : Nat → Nat) (t : Nat) : Nat → Nat
  | 0 => 0
  | i + 1 => gG W wt t i + min (W (wt i)) (t - cB W wt i) * (10 - wt i)
theorem cB_mono {W wt : Nat → Nat} {i j : Nat} (h : i ≤ j) : cB W wt i ≤ cB W wt j := by
  induction h with
  | refl => exact Nat.le_refl _
  | step _ ih => exact Nat.le_trans ih (Nat.le_add_right _ _)
theorem gG_step {W wt : Nat → Nat} {t i : Nat} (h1 : cB W wt i ≤ t) (h2 : t < cB W wt i + W (wt i)) : ∀ m, gG W wt (t + 1) m = gG W wt t m + (if i < m then 10 - wt i else 0) := by
  intro m
  induction m with
  | zero => rfl
  | succ m ih =>
    simp only [gG]
    rw [ih]
    rcases Nat.lt_trichotomy m i with h | h | h
    · have := cB_mono (W := W) (wt := wt) (show m + 1 ≤ i from h)
      simp only [cB] at this
      rw [if_neg (by omega), if_neg (by omega), Nat.min_eq_left (by omega), Nat.min_eq_left (by omega)]
      omega
    · subst h
      rw [if_neg (by omega), if_pos (by omega), show min (W (wt m)) (t + 1 - cB W wt m) = min (W (wt m)) (t - cB W wt m) + 1 by omega, Nat.add_mul]
      omega
    · have := cB_mono (W := W) (wt := wt) (show i + 1 ≤ m from h)
      simp only [cB] at this
      rw [if_pos h, if_pos (by omega), show t + 1 - cB W wt m = 0 by omega, show t - cB W wt m = 0 by omega]
      omega
theorem gG_0 {W wt : Nat → Nat} : ∀ m, gG W wt 0 m = 0 := by
  intro m
  induction m with
  | zero => rfl
  | succ m ih =>
    simp only [gG]
    rw [ih, Nat.zero_sub, Nat.min_zero]
    omega
/-- the array of sums when 'taken' are taken -/
def gArr (W wt : Nat → Nat) (taken : Nat) (f : Nat → Int32) : Nat → Int32 := fun j => if j ≤ taken then nI (gG W wt j 10) else f j
theorem gArr_0 {W wt : Nat → Nat} {f : Nat → Int32} : upd f 0 0 = gArr W wt 0 f := by
  funext j
  unfold gArr
  by_cases hj : j = 0
  · rw [hj, pk_us, if_pos (Nat.le_refl _), gG_0]; rfl
  · rw [pk_un hj, if_neg (by omega)]
theorem gArr_s {W wt : Nat → Nat} {f : Nat → Int32} {t i : Nat} (hi : i < 10) (hw : wt i < 10) (h1 : cB W wt i ≤ t) (h2 : t < cB W wt i + W (wt i)) : upd (gArr W wt t f) (t + 1) (gArr W wt t f t + 10 - nI (wt i)) = gArr W wt (t + 1) f := by
  funext j
  unfold gArr
  by_cases hj : j = t + 1
  · rw [hj, pk_us, if_pos (Nat.le_refl _), if_pos (Nat.le_refl _), gG_step h1 h2, if_pos hi, show (10 : Int32) = nI 10 from rfl, nI_add, pk_sub (by omega)]
    congr 1
    omega
  · rw [pk_un hj]
    by_cases h : j ≤ t
    · rw [if_pos h, if_pos (by omega)]
    · rw [if_neg h, if_neg (by omega)]
/-- look of k + 1 against tale of k -/
def lovT (hv lt : Nat → Int32) (n : Nat) (L : Int32) (k : Nat) : Int64 := (10 * hv (k + 1) - L * nI (k + 1)).toInt64 * (nI (n - k)).toInt64 - (lt (n - k)).toInt64 * (10 * nI (k + 1)).toInt64
def dUp (hv lt : Nat → Int32) (n : Nat) (L : Int32) (k : Nat) : Bool := decide (k < n) && decide (0 < lovT hv lt n L k)
def dDn (hv lt : Nat → Int32) (n : Nat) (L : Int32) (k : Nat) : Bool := decide (0 < k) && decide (lovT hv lt n L (k - 1) < 0)
def bI (b : Bool) : Int32 := if b then 1 else 0
def rsS (U D : Nat → Bool) : Nat → Int32
  | 0 => 0
  | k + 1 => if U k || D k then rsS U D k else rsS U D k ||| (1 <<< (nI k &&& 31))
def enT (U D : Nat → Bool) (k : Nat) : Nat := if U k then k + 1 else if D k then k - 1 else k
def enS (U D : Nat → Bool) : Nat → Nat → Nat
  | 0, k => k
  | d + 1, k => enS U D d (enT U D k)
/-- the least of k .. k + d - 1 that ends in n -/
def tiS (U D : Nat → Bool) (n : Nat) : Nat → Nat → Int32
  | 0, _ => -9
  | d + 1, k => if enS U D n k = n then nI k else tiS U D n d (k + 1)
def woB (W wt : Nat → Nat) (L : Nat) : Nat → Int32
  | 0 => 0
  | i + 1 => if cB W wt i < L ∧ 0 < W (wt i) then woB W wt L i ||| (1 <<< (nI (wt i) &&& 31)) else woB W wt L i
def wUp (i : Nat) : Nat := i
def wDn (i : Nat) : Nat := 9 - i
section
variable {Γ : gT} {l : Launch} {as : List Nat} {h : aH} {q a b c n : Nat} {fw f hv lt : Nat → Int32} {L : Int32} {W wt : Nat → Nat}
theorem sg_inner {s : Nat} (hq : hat as h q (ob 0 [.ref a, .ref b, .ref c, .int (nI n), .int L])) (ha : hat as h a (aI Γ 10 fw)) (hs : hat as h s (aI Γ 31 f)) (has : a ≠ s) (hn : n ≤ 30) (hW : ∀ j, j < 10 → fw j = nI (W j) ∧ W j < 1000) {i : Nat} (hi : i < 10) (hw : wt i < 10) {v2 v3 v5 : Int32} {Z : zT} (K : ∀ (x7 : Int32) (t : Nat), t = min n (cB W wt (i + 1)) → V Γ l mX0_sumGrains rX0_sumGrains Z 0 0 74 [(0, .ref q), (1, .ref s), (2, .int v2), (3, .int v3), (4, .int (nI t)), (5, .int v5), (6, .int (nI (wt i))), (7, .int x7)] [] as (hset h s (aI Γ 31 (gArr W wt t f)))) : ∀ (d k t : Nat) (y4 y7 : Int32) (ls : List (Nat × Value)) (h' : aH), k + d = W (wt i) → t = min n (cB W wt i) + k → t ≤ n → y7 = nI k → y4 = nI t → h' = hset h s (aI Γ 31 (gArr W wt t f)) → lin ls [(0, .ref q), (1, .ref s), (2, .int v2), (3, .int v3), (4, .int y4), (5, .int v5), (6, .int (nI (wt i))), (7, .int y7)] → V Γ l mX0_sumGrains rX0_sumGrains Z 0 0 28 ls [] as h' := by
  have hqs : q ≠ s := hat_un hq hs (fun z => by cases z)
  have hWi := hW (wt i) hw
  intro d
  induction d with
  | zero =>
    intro k t y4 y7 ls h' hk ht htn h7 h4 hh hl
    subst h7 h4 hh
    refine V.at ?_ hl
    refine q_iload dX0_sumGrains_28 rfl ?_
    refine q_aload_n dX0_sumGrains_30 rfl rfl ?_
    refine q_get dX0_sumGrains_31 fX0_sumGrains_9 (hat_ne hq hqs) rfl ?_
    refine q_iload dX0_sumGrains_34 rfl ?_
    refine q_iald dX0_sumGrains_36 (hat_ne ha has) (in_nI hw (by omega)) ?_
    rw [nI_clamp (by omega), hWi.1]
    refine q_icmp_ge 74 dX0_sumGrains_37 (by decide) (fun _ => ?_) (fun z => absurd (nI_le (by omega) (by omega)) z)
    exact K _ t (by simp only [cB]; omega)
  | succ d ih =>
    intro k t y4 y7 ls h' hk ht htn h7 h4 hh hl
    subst h7 h4 hh
    refine V.at ?_ hl
    refine q_iload dX0_sumGrains_28 rfl ?_
    refine q_aload_n dX0_sumGrains_30 rfl rfl ?_
    refine q_get dX0_sumGrains_31 fX0_sumGrains_9 (hat_ne hq hqs) rfl ?_
    refine q_iload dX0_sumGrains_34 rfl ?_
    refine q_iald dX0_sumGrains_36 (hat_ne ha has) (in_nI hw (by omega)) ?_
    rw [nI_clamp (by omega), hWi.1]
    refine q_icmp_ge 74 dX0_sumGrains_37 (by decide) (fun z => absurd z (nI_ge (by omega) (by omega))) (fun _ => ?_)
    refine q_iload dX0_sumGrains_40 rfl ?_
    refine q_aload_n dX0_sumGrains_42 rfl rfl ?_
    refine q_get dX0_sumGrains_43 fX0_sumGrains_21 (hat_ne hq hqs) rfl ?_
    refine q_icmp_ge 74 dX0_sumGrains_46 (by decide) (fun cT => ?_) (fun cT => ?_)
    · have hT : n ≤ t := (nI_leI (by omega) (by omega)).mp cT
      exact K _ t (by simp only [cB]; omega)
    · have hT : ¬ n ≤ t := fun z => cT (nI_le z (by omega))
      refine q_iinc1 dX0_sumGrains_49 rfl (by decide) ?_
      refine q_aload_n dX0_sumGrains_52 rfl rfl ?_
      refine q_iload dX0_sumGrains_53 rfl ?_
      refine q_aload_n dX0_sumGrains_55 rfl rfl ?_
      refine q_iload dX0_sumGrains_56 rfl ?_
      refine q_iconst (v := 1) dX0_sumGrains_58 rfl ?_
      refine q_isub dX0_sumGrains_59 ?_
      rw [nI_s, nI_pred]
      refine q_iald dX0_sumGrains_60 (hat_set hs) (in_nI (show t < 31 by omega) (by omega)) ?_
      refine q_bipush (v := 10) dX0_sumGrains_61 rfl ?_
      refine q_iadd dX0_sumGrains_63 ?_
      refine q_iload dX0_sumGrains_64 rfl ?_
      refine q_isub dX0_sumGrains_66 ?_
      refine q_iast dX0_sumGrains_67 (hat_set hs) (in_nI (show t + 1 < 31 by omega) (by omega)) ?_
      refine q_iinc1 dX0_sumGrains_68 rfl (by decide) ?_
      refine q_goto 28 dX0_sumGrains_71 (by decide) ?_
      exact ih (k + 1) (t + 1) _ _ _ _ (by omega) (by omega) (by omega) (nI_s k) rfl (by rw [hset_hset, nI_clamp (by omega), nI_clamp (by omega), gArr_s hi hw (by omega) (by omega)]) ⟨rfl, rfl, rfl, rfl, rfl, rfl, rfl, rfl, trivial⟩
theorem sg_loop {s : Nat} (hq : hat as h q (ob 0 [.ref a, .ref b, .ref c, .int (nI n), .int L])) (ha : hat as h a (aI Γ 10 fw)) (hs : hat as h s (aI Γ 31 f)) (has : a ≠ s) (hn : n ≤ 30) (hW : ∀ j, j < 10 → fw j = nI (W j) ∧ W j < 1000) {v2 v3 : Int32} (hwt : ∀ i, i < 10 → wt i < 10 ∧ v2 + v3 * nI i = nI (wt i)) : ∀ (d i t : Nat) (y4 y5 : Int32) (ls : List (Nat × Value)) (h' : aH), i + d = 10 → t = min n (cB W wt i) → y5 = nI i → y4 = nI t → h' = hset h s (aI Γ 31 (gArr W wt t f)) → lin ls [(0, .ref q), (1, .ref s), (2, .int v2), (3, .int v3), (4, .int y4), (5, .int y5)] → V Γ l mX0_sumGrains rX0_sumGrains (Zm Γ rX0_sumGrains (qD none as (hset h s (aI Γ 31 (gArr W wt (min n (cB W wt 10)) f))))) 0 0 10 ls [] as h' := by
  intro d
  induction d with
  | zero =>
    intro i t y4 y5 ls h' hk ht h5 h4 hh hl
    subst h5 h4 hh
    refine V.at ?_ hl
    refine q_iload dX0_sumGrains_10 rfl ?_
    refine q_bipush (v := 10) dX0_sumGrains_12 rfl ?_
    refine q_icmp_ge 80 dX0_sumGrains_14 (by decide) (fun _ => ?_) (fun z => absurd (ge_c 10 rfl (by omega) (by omega)) z)
    exact q_vret dX0_sumGrains_80 rfl (Nat.zero_le _) (Nat.zero_le _) (⟨rfl, rfl, by rw [ht, show i = 10 by omega]⟩)
  | succ d ih =>
    intro i t y4 y5 ls h' hk ht h5 h4 hh hl
    subst h5 h4 hh
    refine V.at ?_ hl
    refine q_iload dX0_sumGrains_10 rfl ?_
    refine q_bipush (v := 10) dX0_sumGrains_12 rfl ?_
    refine q_icmp_ge 80 dX0_sumGrains_14 (by decide) (fun z => absurd z (lt_c 10 rfl (by omega) (by omega))) (fun _ => ?_)
    refine q_iload_n dX0_sumGrains_17 rfl rfl ?_
    refine q_iload_n dX0_sumGrains_18 rfl rfl ?_
    refine q_iload dX0_sumGrains_19 rfl ?_
    refine q_imul dX0_sumGrains_21 ?_
    refine q_iadd dX0_sumGrains_22 ?_
    rw [(hwt i (by omega)).2]
    refine q_istore dX0_sumGrains_23 (by decide) ?_
    refine q_iconst (v := 0) dX0_sumGrains_25 rfl ?_
    refine q_istore dX0_sumGrains_26 (by decide) ?_
    exact sg_inner hq ha hs has hn hW (show i < 10 by omega) (hwt i (by omega)).1 (fun x7 t ht => by
    refine q_iinc1 dX0_sumGrains_74 rfl (by decide) ?_
    refine q_goto 10 dX0_sumGrains_77 (by decide) ?_
    exact ih (i + 1) t _ _ _ _ (by omega) ht (nI_s i) rfl rfl ⟨rfl, rfl, rfl, rfl, rfl, rfl, trivial⟩
      ) (W (wt i)) 0 t _ _ _ _ (by omega) (by omega) (by omega) rfl rfl rfl ⟨rfl, rfl, rfl, rfl, rfl, rfl, rfl, rfl, trivial⟩
theorem c_sumGrains {s : Nat} (hq : hat as h q (ob 0 [.ref a, .ref b, .ref c, .int (nI n), .int L])) (ha : hat as h a (aI Γ 10 fw)) (hs : hat as h s (aI Γ 31 f)) (has : a ≠ s) (hn : n ≤ 30) (hW : ∀ j, j < 10 → fw j = nI (W j) ∧ W j < 1000) {v2 v3 : Int32} (hwt : ∀ i, i < 10 → wt i < 10 ∧ v2 + v3 * nI i = nI (wt i)) : Det Γ l mX0_sumGrains rX0_sumGrains [.ref q, .ref s, .int v2, .int v3] as h none (hset h s (aI Γ 31 (gArr W wt (min n (cB W wt 10)) f))) := by
  refine Con.of (by decide +kernel) rfl rfl (Nat.le_of_ble_eq_true rfl) ?_
  refine q_aload_n dX0_sumGrains_0 rfl rfl ?_
  refine q_iconst (v := 0) dX0_sumGrains_1 rfl ?_
  refine q_iconst (v := 0) dX0_sumGrains_2 rfl ?_
  refine q_iast dX0_sumGrains_3 (hs) (in_nI (k := 0) (by omega) (by omega)) ?_
  refine q_iconst (v := 0) dX0_sumGrains_4 rfl ?_
  refine q_istore dX0_sumGrains_5 (by decide) ?_
  refine q_iconst (v := 0) dX0_sumGrains_7 rfl ?_
  refine q_istore dX0_sumGrains_8 (by decide) ?_
  exact sg_loop hq ha hs has hn hW hwt 10 0 0 _ _ _ _ (by omega) (by simp [cB]) rfl rfl (by rw [← gArr_0]; rfl) ⟨rfl, rfl, rfl, rfl, rfl, rfl, trivial⟩
end
end
section
/-! DAY (X0): lay, gains, rests, goes, tip, out -/
theorem aI_ne {Γ : gT} {N M : Nat} {f g : Nat → Int32} (h : N ≠ M) : aI Γ N f ≠ aI Γ M g := by
  intro z
  injection z with z
  injection z with _ z
  injection z with z
  exact h z
theorem hat_nl {Γ : gT} {as : List Nat} {h : aH} {a b N M : Nat} {f g : Nat → Int32} (q : hat as h a (aI Γ N f)) (q' : hat as h b (aI Γ M g)) (hN : N ≠ M) : a ≠ b := hat_un q q' (aI_ne hN)
theorem hat_oa {as : List Nat} {h : aH} {a b ci : Nat} {fs : List Value} {e : ClassId × vp_A} (q : hat as h a (ob ci fs)) (q' : hat as h b (.inl e)) : a ≠ b := hat_un q q' (fun z => by cases z)
theorem hat_ao {as : List Nat} {h : aH} {a b ci : Nat} {fs : List Value} {e : ClassId × vp_A} (q : hat as h a (.inl e)) (q' : hat as h b (ob ci fs)) : a ≠ b := hat_un q q' (fun z => by cases z)
theorem hat_oo {as : List Nat} {h : aH} {a b ci cj : Nat} {fs gs : List Value} (q : hat as h a (ob ci fs)) (q' : hat as h b (ob cj gs)) (hc : ci ≠ cj) : a ≠ b := hat_un q q' (fun z => by injection z with z; injection z with z; exact hc z)
def fillF (g f : Nat → Int32) (k : Nat) : Nat → Int32 := fun j => if j < k then g j else f j
theorem fillF_s (g f : Nat → Int32) (k : Nat) : upd (fillF g f k) k (g k) = fillF g f (k + 1) := by
  funext j
  unfold fillF
  by_cases hj : j = k
  · rw [hj, pk_us, if_pos (by omega)]
  · rw [pk_un hj]
    by_cases h : j < k
    · rw [if_pos h, if_pos (by omega)]
    · rw [if_neg h, if_neg (by omega)]
theorem fillF_0 (g f : Nat → Int32) : fillF g f 0 = f := by
  funext j
  exact if_neg (by omega)
theorem wUp_ok : ∀ i, i < 10 → wUp i < 10 ∧ (0 : Int32) + 1 * nI i = nI (wUp i) := by decide +kernel
theorem wDn_ok : ∀ i, i < 10 → wDn i < 10 ∧ (9 : Int32) + (-1) * nI i = nI (wDn i) := by decide +kernel
/-- the day's cells behind lay -/
def layH (Γ : gT) (q a b c n : Nat) (L : Int32) (fp fw hv lt : Nat → Int32) (W : Nat → Nat) (h : aH) : aH :=
  hset (hset (hset (hset h q (ob 0 [.ref a, .ref b, .ref c, .int (nI n), .int L])) a (aI Γ 10 (fillF (pWt fp) fw 10))) b (aI Γ 31 (gArr W wUp (min n (cB W wUp 10)) hv))) c (aI Γ 31 (gArr W wDn (min n (cB W wDn 10)) lt))
section
variable {Γ : gT} {l : Launch} {as : List Nat} {h : aH} {q a b c n : Nat} {fw f hv lt : Nat → Int32} {L : Int32} {W wt : Nat → Nat}
theorem lay_loop {pq pr : Nat} {fp : Nat → Int32} (hq : hat as h q (ob 0 [.ref a, .ref b, .ref c, .int (nI n), .int L])) (ha : hat as h a (aI Γ 10 fw)) (hp : hat as h pq (ob 4 [.ref pr])) (hpr : hat as h pr (aI Γ 80 fp)) {v2 v3 : Int32} {Z : zT} (K : ∀ x4 : Int32, V Γ l mX0_lay rX0_lay Z 0 0 39 [(0, .ref q), (1, .ref pq), (2, .int v2), (3, .int v3), (4, .int x4)] [] as (hset h a (aI Γ 10 (fillF (pWt fp) fw 10)))) : ∀ (d k : Nat) (y4 : Int32) (ls : List (Nat × Value)) (h' : aH), k + d = 10 → y4 = nI k → h' = hset h a (aI Γ 10 (fillF (pWt fp) fw k)) → lin ls [(0, .ref q), (1, .ref pq), (2, .int v2), (3, .int v3), (4, .int y4)] → V Γ l mX0_lay rX0_lay Z 0 0 13 ls [] as h' := by
  have e1 := hat_oa hq ha
  have e2 := hat_oa hp ha
  have e3 := hat_nl hpr ha (by decide)
  intro d
  induction d with
  | zero =>
    intro k y4 ls h' hk h4 hh hl
    subst h4 hh
    refine V.at ?_ hl
    refine q_iload dX0_lay_13 rfl ?_
    refine q_bipush (v := 10) dX0_lay_15 rfl ?_
    refine q_icmp_ge 39 dX0_lay_17 (by decide) (fun _ => ?_) (fun z => absurd (ge_c 10 rfl (by omega) (by omega)) z)
    rw [show k = 10 by omega]
    exact K _
  | succ d ih =>
    intro k y4 ls h' hk h4 hh hl
    subst h4 hh
    refine V.at ?_ hl
    refine q_iload dX0_lay_13 rfl ?_
    refine q_bipush (v := 10) dX0_lay_15 rfl ?_
    refine q_icmp_ge 39 dX0_lay_17 (by decide) (fun z => absurd z (lt_c 10 rfl (by omega) (by omega))) (fun _ => ?_)
    refine q_aload_n dX0_lay_20 rfl rfl ?_
    refine q_get dX0_lay_21 fX0_lay_9 (hat_ne hq e1) rfl ?_
    refine q_iload dX0_lay_24 rfl ?_
    refine q_aload_n dX0_lay_26 rfl rfl ?_
    refine q_iload dX0_lay_27 rfl ?_
    refine q_callVd dX0_lay_29 wX0_lay_28 (c_ofWeight (hat_ne hp e2) (hat_ne hpr e3) (show k < 10 by omega)) (hat_ne hp e2) ⟨_, _, rfl⟩ rfl rfl (Nat.le_of_ble_eq_true rfl) ⟨⟨Nat.le_of_ble_eq_true rfl, Nat.le_of_ble_eq_true rfl⟩, Nat.le_of_ble_eq_true rfl, Nat.le_of_ble_eq_true rfl⟩ ?_
    refine q_iast dX0_lay_32 (hat_set ha) (in_nI (show k < 10 by omega) (by omega)) ?_
    refine q_iinc1 dX0_lay_33 rfl (by decide) ?_
    refine q_goto 13 dX0_lay_36 (by decide) ?_
    exact ih (k + 1) _ _ _ (by omega) (nI_s k) (by rw [hset_hset, nI_clamp (by omega), fillF_s]) ⟨rfl, rfl, rfl, rfl, rfl, trivial⟩
theorem c_lay {pq pr : Nat} {fp : Nat → Int32} {x3 x4 : Int32} (hq : hat as h q (ob 0 [.ref a, .ref b, .ref c, .int x3, .int x4])) (ha : hat as h a (aI Γ 10 fw)) (hb : hat as h b (aI Γ 31 hv)) (hc : hat as h c (aI Γ 31 lt)) (hbc : b ≠ c) (hp : hat as h pq (ob 4 [.ref pr])) (hpr : hat as h pr (aI Γ 80 fp)) (hn : n ≤ 30) (hW : ∀ j, j < 10 → pWt fp j = nI (W j) ∧ W j < 1000) : Det Γ l mX0_lay rX0_lay [.ref q, .ref pq, .int (nI n), .int L] as h none (layH Γ q a b c n L fp fw hv lt W h) := by
  have hW' : ∀ j, j < 10 → fillF (pWt fp) fw 10 j = nI (W j) ∧ W j < 1000 := fun j hj => by
    rw [show fillF (pWt fp) fw 10 j = pWt fp j from if_pos hj]; exact hW j hj
  have e1 := hat_oa hq ha
  have e2 := hat_oa hq hb
  have e3 := hat_oa hq hc
  have e4 := hat_oo hp hq (by decide)
  have e5 := hat_ao hpr hq
  have e6 := hat_nl ha hb (by decide)
  have e7 := hat_nl ha hc (by decide)
  generalize hh1 : hset h q (ob 0 [.ref a, .ref b, .ref c, .int (nI n), .int L]) = h1
  have q1 : hat as h1 q (ob 0 [.ref a, .ref b, .ref c, .int (nI n), .int L]) := by rw [← hh1]; exact hat_set hq
  have a1 : hat as h1 a (aI Γ 10 fw) := by rw [← hh1]; exact hat_ne ha e1.symm
  have b1 : hat as h1 b (aI Γ 31 hv) := by rw [← hh1]; exact hat_ne hb e2.symm
  have c1 : hat as h1 c (aI Γ 31 lt) := by rw [← hh1]; exact hat_ne hc e3.symm
  have p1 : hat as h1 pq (ob 4 [.ref pr]) := by rw [← hh1]; exact hat_ne hp e4
  have r1 : hat as h1 pr (aI Γ 80 fp) := by rw [← hh1]; exact hat_ne hpr e5
  refine Con.of (by decide +kernel) rfl rfl (Nat.le_of_ble_eq_true rfl) ?_
  refine q_aload_n dX0_lay_0 rfl rfl ?_
  refine q_iload_n dX0_lay_1 rfl rfl ?_
  refine q_put dX0_lay_2 pX0_lay_21 (hq) rfl rfl (Nat.le_of_ble_eq_true rfl) ?_
  refine q_aload_n dX0_lay_5 rfl rfl ?_
  refine q_iload_n dX0_lay_6 rfl rfl ?_
  refine q_put dX0_lay_7 pX0_lay_25 (hat_set hq) rfl rfl (Nat.le_of_ble_eq_true rfl) ?_
  refine q_iconst (v := 0) dX0_lay_10 rfl ?_
  refine q_istore dX0_lay_11 (by decide) ?_
  refine V.hp (h' := h1) ?_ (by rw [← hh1, hset_hset]; rfl)
  refine lay_loop q1 a1 p1 r1 (fun x4 => ?_) 10 0 _ _ _ (by omega) rfl (by rw [fillF_0, hset_same]; exact a1.2) ⟨rfl, rfl, rfl, rfl, rfl, trivial⟩
  refine q_aload_n dX0_lay_39 rfl rfl ?_
  refine q_aload_n dX0_lay_40 rfl rfl ?_
  refine q_get dX0_lay_41 fX0_lay_15 (hat_ne q1 e1) rfl ?_
  refine q_iconst (v := 0) dX0_lay_44 rfl ?_
  refine q_iconst (v := 1) dX0_lay_45 rfl ?_
  refine q_callVd dX0_lay_46 wX0_lay_33 (c_sumGrains (wt := wUp) (hat_ne q1 e1) (hat_set a1) (hat_ne b1 e6.symm) e6 hn hW' wUp_ok) (hat_ne q1 e1) ⟨_, _, rfl⟩ rfl rfl (Nat.le_of_ble_eq_true rfl) ⟨⟨Nat.le_of_ble_eq_true rfl, Nat.le_of_ble_eq_true rfl⟩, Nat.le_of_ble_eq_true rfl, Nat.le_of_ble_eq_true rfl⟩ ?_
  refine q_aload_n dX0_lay_49 rfl rfl ?_
  refine q_aload_n dX0_lay_50 rfl rfl ?_
  refine q_get dX0_lay_51 fX0_lay_18 (hat_ne (hat_ne q1 e1) e2) rfl ?_
  refine q_bipush (v := 9) dX0_lay_54 rfl ?_
  refine q_iconst (v := (-1)) dX0_lay_56 rfl ?_
  refine q_callVd dX0_lay_57 wX0_lay_33 (c_sumGrains (wt := wDn) (hat_ne (hat_ne q1 e1) e2) (hat_ne (hat_set a1) e6) (hat_ne (hat_ne c1 e7.symm) hbc.symm) e7 hn hW' wDn_ok) (hat_ne (hat_ne q1 e1) e2) ⟨_, _, rfl⟩ rfl rfl (Nat.le_of_ble_eq_true rfl) ⟨⟨Nat.le_of_ble_eq_true rfl, Nat.le_of_ble_eq_true rfl⟩, Nat.le_of_ble_eq_true rfl, Nat.le_of_ble_eq_true rfl⟩ ?_
  exact q_vret dX0_lay_60 rfl (Nat.zero_le _) (Nat.zero_le _) (⟨rfl, rfl, by rw [← hh1]; rfl⟩)
variable {k : Nat}
theorem c_taleUpper (hq : hat as h q (ob 0 [.ref a, .ref b, .ref c, .int (nI n), .int L])) (hc : hat as h c (aI Γ 31 lt)) (hn : n ≤ 30) (hk : k ≤ n) : Det Γ l mX0_taleUpper rX0_taleUpper [.ref q, .int (nI k)] as h (some (.long (lt (n - k)).toInt64)) h := by
  refine Con.of (by decide +kernel) rfl rfl (Nat.le_of_ble_eq_true rfl) ?_
  refine q_aload_n dX0_taleUpper_0 rfl rfl ?_
  refine q_get dX0_taleUpper_1 fX0_taleUpper_18 (hq) rfl ?_
  refine q_aload_n dX0_taleUpper_4 rfl rfl ?_
  refine q_get dX0_taleUpper_5 fX0_taleUpper_21 (hq) rfl ?_
  refine q_iload_n dX0_taleUpper_8 rfl rfl ?_
  refine q_isub dX0_taleUpper_9 ?_
  rw [pk_sub hk]
  refine q_iald dX0_taleUpper_10 (hc) (in_nI (show n - k < 31 by omega) (by omega)) ?_
  refine q_i2l dX0_taleUpper_11 ?_
  exact q_lret dX0_taleUpper_12 rfl (Nat.zero_le _) (Nat.zero_le _) (⟨by rw [nI_clamp (by omega)], rfl, rfl⟩)
theorem c_taleLower (hq : hat as h q (ob 0 [.ref a, .ref b, .ref c, .int (nI n), .int L])) (hk : k ≤ n) : Det Γ l mX0_taleLower rX0_taleLower [.ref q, .int (nI k)] as h (some (.long (nI (n - k)).toInt64)) h := by
  refine Con.of (by decide +kernel) rfl rfl (Nat.le_of_ble_eq_true rfl) ?_
  refine q_aload_n dX0_taleLower_0 rfl rfl ?_
  refine q_get dX0_taleLower_1 fX0_taleLower_21 (hq) rfl ?_
  refine q_iload_n dX0_taleLower_4 rfl rfl ?_
  refine q_isub dX0_taleLower_5 ?_
  refine q_i2l dX0_taleLower_6 ?_
  exact q_lret dX0_taleLower_7 rfl (Nat.zero_le _) (Nat.zero_le _) (⟨by rw [pk_sub hk], rfl, rfl⟩)
theorem c_lookUpper (hq : hat as h q (ob 0 [.ref a, .ref b, .ref c, .int (nI n), .int L])) (hb : hat as h b (aI Γ 31 hv)) (hk : k ≤ 30) : Det Γ l mX0_lookUpper rX0_lookUpper [.ref q, .int (nI k)] as h (some (.long (10 * hv k - L * nI k).toInt64)) h := by
  refine Con.of (by decide +kernel) rfl rfl (Nat.le_of_ble_eq_true rfl) ?_
  refine q_bipush (v := 10) dX0_lookUpper_0 rfl ?_
  refine q_aload_n dX0_lookUpper_2 rfl rfl ?_
  refine q_get dX0_lookUpper_3 fX0_lookUpper_15 (hq) rfl ?_
  refine q_iload_n dX0_lookUpper_6 rfl rfl ?_
  refine q_iald dX0_lookUpper_7 (hb) (in_nI (show k < 31 by omega) (by omega)) ?_
  refine q_imul dX0_lookUpper_8 ?_
  refine q_aload_n dX0_lookUpper_9 rfl rfl ?_
  refine q_get dX0_lookUpper_10 fX0_lookUpper_25 (hq) rfl ?_
  refine q_iload_n dX0_lookUpper_13 rfl rfl ?_
  refine q_imul dX0_lookUpper_14 ?_
  refine q_isub dX0_lookUpper_15 ?_
  refine q_i2l dX0_lookUpper_16 ?_
  exact q_lret dX0_lookUpper_17 rfl (Nat.zero_le _) (Nat.zero_le _) (⟨by rw [nI_clamp (by omega)], rfl, rfl⟩)
theorem c_lookLower {x : Nat} {v : Value} : Det Γ l mX0_lookLower rX0_lookLower [.ref q, .int (nI k)] as h (some (.long (10 * nI k).toInt64)) h := by
  refine Con.of (by decide +kernel) rfl rfl (Nat.le_of_ble_eq_true rfl) ?_
  refine q_bipush (v := 10) dX0_lookLower_0 rfl ?_
  refine q_iload_n dX0_lookLower_2 rfl rfl ?_
  refine q_imul dX0_lookLower_3 ?_
  refine q_i2l dX0_lookLower_4 ?_
  exact q_lret dX0_lookLower_5 rfl (Nat.zero_le _) (Nat.zero_le _) (⟨rfl, rfl, rfl⟩)
theorem c_lookOverTale (hq : hat as h q (ob 0 [.ref a, .ref b, .ref c, .int (nI n), .int L])) (hb : hat as h b (aI Γ 31 hv)) (hc : hat as h c (aI Γ 31 lt)) (hn : n ≤ 30) (hk : k < n) : Det Γ l mX0_lookOverTale rX0_lookOverTale [.ref q, .int (nI k)] as h (some (.long (lovT hv lt n L k))) h := by
  refine Con.of (by decide +kernel) rfl rfl (Nat.le_of_ble_eq_true rfl) ?_
  refine q_aload_n dX0_lookOverTale_0 rfl rfl ?_
  refine q_iload_n dX0_lookOverTale_1 rfl rfl ?_
  refine q_iconst (v := 1) dX0_lookOverTale_2 rfl ?_
  refine q_iadd dX0_lookOverTale_3 ?_
  rw [nI_s]
  refine q_callVd dX0_lookOverTale_4 wX0_lookOverTale_37 (c_lookUpper hq hb (show k + 1 ≤ 30 by omega)) (hq) ⟨_, _, rfl⟩ rfl rfl (Nat.le_of_ble_eq_true rfl) ⟨⟨Nat.le_of_ble_eq_true rfl, Nat.le_of_ble_eq_true rfl⟩, Nat.le_of_ble_eq_true rfl, Nat.le_of_ble_eq_true rfl⟩ ?_
  refine q_aload_n dX0_lookOverTale_7 rfl rfl ?_
  refine q_iload_n dX0_lookOverTale_8 rfl rfl ?_
  refine q_callVd dX0_lookOverTale_9 wX0_lookOverTale_41 (c_taleLower hq (show k ≤ n by omega)) (hq) ⟨_, _, rfl⟩ rfl rfl (Nat.le_of_ble_eq_true rfl) ⟨⟨Nat.le_of_ble_eq_true rfl, Nat.le_of_ble_eq_true rfl⟩, Nat.le_of_ble_eq_true rfl, Nat.le_of_ble_eq_true rfl⟩ ?_
  refine q_lmul dX0_lookOverTale_12 ?_
  refine q_aload_n dX0_lookOverTale_13 rfl rfl ?_
  refine q_iload_n dX0_lookOverTale_14 rfl rfl ?_
  refine q_callVd dX0_lookOverTale_15 wX0_lookOverTale_44 (c_taleUpper hq hc hn (show k ≤ n by omega)) (hq) ⟨_, _, rfl⟩ rfl rfl (Nat.le_of_ble_eq_true rfl) ⟨⟨Nat.le_of_ble_eq_true rfl, Nat.le_of_ble_eq_true rfl⟩, Nat.le_of_ble_eq_true rfl, Nat.le_of_ble_eq_true rfl⟩ ?_
  refine q_aload_n dX0_lookOverTale_18 rfl rfl ?_
  refine q_iload_n dX0_lookOverTale_19 rfl rfl ?_
  refine q_iconst (v := 1) dX0_lookOverTale_20 rfl ?_
  refine q_iadd dX0_lookOverTale_21 ?_
  rw [nI_s]
  refine q_callVd dX0_lookOverTale_22 wX0_lookOverTale_47 (c_lookLower (k := k + 1) (x := 0) (v := .null)) (hq) ⟨_, _, rfl⟩ rfl rfl (Nat.le_of_ble_eq_true rfl) ⟨⟨Nat.le_of_ble_eq_true rfl, Nat.le_of_ble_eq_true rfl⟩, Nat.le_of_ble_eq_true rfl, Nat.le_of_ble_eq_true rfl⟩ ?_
  refine q_lmul dX0_lookOverTale_25 ?_
  refine q_lsub dX0_lookOverTale_26 ?_
  exact q_lret dX0_lookOverTale_27 rfl (Nat.zero_le _) (Nat.zero_le _) (⟨rfl, rfl, rfl⟩)
end
end
section
/-! DAY (X0): up, down, rests, goes, tip, out -/
theorem bI_0 {b : Bool} : bI b = 0 ↔ b = false := by cases b <;> decide
theorem bI_n {b : Bool} : ¬ bI b = 0 ↔ b = true := by cases b <;> decide
section
variable {Γ : gT} {l : Launch} {as : List Nat} {h : aH} {q a b c n : Nat} {fw f hv lt : Nat → Int32} {L : Int32} {W wt : Nat → Nat} {k : Nat}
theorem c_goesUp (hq : hat as h q (ob 0 [.ref a, .ref b, .ref c, .int (nI n), .int L])) (hb : hat as h b (aI Γ 31 hv)) (hc : hat as h c (aI Γ 31 lt)) (hn : n ≤ 30) (hk : k ≤ n) : Det Γ l mX0_goesUp rX0_goesUp [.ref q, .int (nI k)] as h (some (.int (bI (dUp hv lt n L k)))) h := by
  refine Con.of (by decide +kernel) rfl rfl (Nat.le_of_ble_eq_true rfl) ?_
  refine q_iload_n dX0_goesUp_0 rfl rfl ?_
  refine q_aload_n dX0_goesUp_1 rfl rfl ?_
  refine q_get dX0_goesUp_2 fX0_goesUp_21 (hq) rfl ?_
  refine q_icmp_ge 22 dX0_goesUp_5 (by decide) (fun cA => ?_) (fun cA => ?_)
  · have e : dUp hv lt n L k = false := by
      unfold dUp
      rw [Bool.and_eq_false_iff, decide_eq_false_iff_not, decide_eq_false_iff_not]
      first | exact Or.inr (Int64.not_lt.mpr ((lg_cmp_le _ _).mp cB)) | exact Or.inl (Nat.not_lt.mpr ((nI_leI (by omega) (by omega)).mp cA))
    rw [e]
    refine q_iconst (v := 0) dX0_goesUp_22 rfl ?_
    exact q_zret dX0_goesUp_23 rfl (rfl) (Nat.zero_le _) (Nat.zero_le _) (⟨rfl, rfl, rfl⟩)
  · have hkn : k < n := Nat.lt_of_not_le (fun z => cA (nI_le z (by omega)))
    refine q_aload_n dX0_goesUp_8 rfl rfl ?_
    refine q_iload_n dX0_goesUp_9 rfl rfl ?_
    refine q_callVd dX0_goesUp_10 wX0_goesUp_50 (c_lookOverTale hq hb hc hn hkn) (hq) ⟨_, _, rfl⟩ rfl rfl (Nat.le_of_ble_eq_true rfl) ⟨⟨Nat.le_of_ble_eq_true rfl, Nat.le_of_ble_eq_true rfl⟩, Nat.le_of_ble_eq_true rfl, Nat.le_of_ble_eq_true rfl⟩ ?_
    refine q_lconst (v := 0) dX0_goesUp_13 rfl ?_
    refine q_lcmp dX0_goesUp_14 ?_
    refine q_if_le 22 dX0_goesUp_15 (by decide) (fun cB => ?_) (fun cB => ?_)
    · have e : dUp hv lt n L k = false := by
        unfold dUp
        rw [Bool.and_eq_false_iff, decide_eq_false_iff_not, decide_eq_false_iff_not]
        first | exact Or.inr (Int64.not_lt.mpr ((lg_cmp_le _ _).mp cB)) | exact Or.inl (Nat.not_lt.mpr ((nI_leI (by omega) (by omega)).mp cA))
      rw [e]
      refine q_iconst (v := 0) dX0_goesUp_22 rfl ?_
      exact q_zret dX0_goesUp_23 rfl (rfl) (Nat.zero_le _) (Nat.zero_le _) (⟨rfl, rfl, rfl⟩)
    · have e : dUp hv lt n L k = true := by
        unfold dUp
        rw [Bool.and_eq_true, decide_eq_true_eq, decide_eq_true_eq]
        exact ⟨hkn, Int64.not_le.mp (fun z => cB ((lg_cmp_le _ _).mpr z))⟩
      rw [e]
      refine q_iconst (v := 1) dX0_goesUp_18 rfl ?_
      refine q_goto 23 dX0_goesUp_19 (by decide) ?_
      exact q_zret dX0_goesUp_23 rfl (rfl) (Nat.zero_le _) (Nat.zero_le _) (⟨rfl, rfl, rfl⟩)
theorem c_goesDown (hq : hat as h q (ob 0 [.ref a, .ref b, .ref c, .int (nI n), .int L])) (hb : hat as h b (aI Γ 31 hv)) (hc : hat as h c (aI Γ 31 lt)) (hn : n ≤ 30) (hk : k ≤ n) : Det Γ l mX0_goesDown rX0_goesDown [.ref q, .int (nI k)] as h (some (.int (bI (dDn hv lt n L k)))) h := by
  refine Con.of (by decide +kernel) rfl rfl (Nat.le_of_ble_eq_true rfl) ?_
  refine q_iload_n dX0_goesDown_0 rfl rfl ?_
  refine q_if_le 20 dX0_goesDown_1 (by decide) (fun cA => ?_) (fun cA => ?_)
  · have e : dDn hv lt n L k = false := by
      unfold dDn
      rw [Bool.and_eq_false_iff, decide_eq_false_iff_not, decide_eq_false_iff_not]
      first | exact Or.inr (Int64.not_lt.mpr ((lg_cmp_ge _ _).mp cB)) | exact Or.inl (fun z => nI_nle z (by omega) cA)
    rw [e]
    refine q_iconst (v := 0) dX0_goesDown_20 rfl ?_
    exact q_zret dX0_goesDown_21 rfl (rfl) (Nat.zero_le _) (Nat.zero_le _) (⟨rfl, rfl, rfl⟩)
  · have hk0 : 0 < k := Nat.pos_of_ne_zero (fun z => cA (by rw [z]; exact Int32.le_refl _))
    refine q_aload_n dX0_goesDown_4 rfl rfl ?_
    refine q_iload_n dX0_goesDown_5 rfl rfl ?_
    refine q_iconst (v := 1) dX0_goesDown_6 rfl ?_
    refine q_isub dX0_goesDown_7 ?_
    rw [show nI k - 1 = nI (k - 1) from pk_sub (a := k) (b := 1) hk0]
    refine q_callVd dX0_goesDown_8 wX0_goesDown_50 (c_lookOverTale hq hb hc hn (show k - 1 < n by omega)) (hq) ⟨_, _, rfl⟩ rfl rfl (Nat.le_of_ble_eq_true rfl) ⟨⟨Nat.le_of_ble_eq_true rfl, Nat.le_of_ble_eq_true rfl⟩, Nat.le_of_ble_eq_true rfl, Nat.le_of_ble_eq_true rfl⟩ ?_
    refine q_lconst (v := 0) dX0_goesDown_11 rfl ?_
    refine q_lcmp dX0_goesDown_12 ?_
    refine q_if_ge 20 dX0_goesDown_13 (by decide) (fun cB => ?_) (fun cB => ?_)
    · have e : dDn hv lt n L k = false := by
        unfold dDn
        rw [Bool.and_eq_false_iff, decide_eq_false_iff_not, decide_eq_false_iff_not]
        first | exact Or.inr (Int64.not_lt.mpr ((lg_cmp_ge _ _).mp cB)) | exact Or.inl (fun z => nI_nle z (by omega) cA)
      rw [e]
      refine q_iconst (v := 0) dX0_goesDown_20 rfl ?_
      exact q_zret dX0_goesDown_21 rfl (rfl) (Nat.zero_le _) (Nat.zero_le _) (⟨rfl, rfl, rfl⟩)
    · have e : dDn hv lt n L k = true := by
        unfold dDn
        rw [Bool.and_eq_true, decide_eq_true_eq, decide_eq_true_eq]
        exact ⟨hk0, Int64.not_le.mp (fun z => cB ((lg_cmp_ge _ _).mpr z))⟩
      rw [e]
      refine q_iconst (v := 1) dX0_goesDown_16 rfl ?_
      refine q_goto 21 dX0_goesDown_17 (by decide) ?_
      exact q_zret dX0_goesDown_21 rfl (rfl) (Nat.zero_le _) (Nat.zero_le _) (⟨rfl, rfl, rfl⟩)
theorem rest_loop (hq : hat as h q (ob 0 [.ref a, .ref b, .ref c, .int (nI n), .int L])) (hb : hat as h b (aI Γ 31 hv)) (hc : hat as h c (aI Γ 31 lt)) (hn : n ≤ 30) : ∀ (d k : Nat) (x y : Int32) (ls : List (Nat × Value)), k + d = n + 1 → x = rsS (dUp hv lt n L) (dDn hv lt n L) k → y = nI k → lin ls [(0, .ref q), (1, .int x), (2, .int y)] → V Γ l mX0_allThatRest rX0_allThatRest (Zm Γ rX0_allThatRest (qD (some (.int (rsS (dUp hv lt n L) (dDn hv lt n L) (n + 1)))) as h)) 0 0 4 ls [] as h := by
  intro d
  induction d with
  | zero =>
    intro k x y ls hk hx hy hl
    subst hx hy
    refine V.at ?_ hl
    refine q_iload_n dX0_allThatRest_4 rfl rfl ?_
    refine q_aload_n dX0_allThatRest_5 rfl rfl ?_
    refine q_get dX0_allThatRest_6 fX0_allThatRest_21 (hq) rfl ?_
    refine q_icmp_gt 40 dX0_allThatRest_9 (by decide) (fun _ => ?_) (fun z => absurd (nI_lt (by omega) (by omega)) z)
    refine q_iload_n dX0_allThatRest_40 rfl rfl ?_
    exact q_iret dX0_allThatRest_41 rfl (Nat.zero_le _) (Nat.zero_le _) (⟨by rw [show k = n + 1 by omega], rfl, rfl⟩)
  | succ d ih =>
    intro k x y ls hk hx hy hl
    subst hx hy
    refine V.at ?_ hl
    refine q_iload_n dX0_allThatRest_4 rfl rfl ?_
    refine q_aload_n dX0_allThatRest_5 rfl rfl ?_
    refine q_get dX0_allThatRest_6 fX0_allThatRest_21 (hq) rfl ?_
    refine q_icmp_gt 40 dX0_allThatRest_9 (by decide) (fun z => absurd z (nI_nlt (by omega) (by omega))) (fun _ => ?_)
    refine q_aload_n dX0_allThatRest_12 rfl rfl ?_
    refine q_iload_n dX0_allThatRest_13 rfl rfl ?_
    refine q_callVd dX0_allThatRest_14 wX0_allThatRest_53 (c_goesUp hq hb hc hn (show k ≤ n by omega)) (hq) ⟨_, _, rfl⟩ rfl rfl (Nat.le_of_ble_eq_true rfl) ⟨⟨Nat.le_of_ble_eq_true rfl, Nat.le_of_ble_eq_true rfl⟩, Nat.le_of_ble_eq_true rfl, Nat.le_of_ble_eq_true rfl⟩ ?_
    refine q_if_ne 34 dX0_allThatRest_17 (by decide) (fun cA => ?_) (fun cA => ?_)
    · refine q_iinc1 dX0_allThatRest_34 rfl (by decide) ?_
      refine q_goto 4 dX0_allThatRest_37 (by decide) ?_
      exact ih (k + 1) _ _ _ (by omega) (by simp only [rsS]; first | rw [if_neg (by rw [bI_0.mp cA, bI_0.mp cB]; decide)] | rw [if_pos (by rw [bI_n.mp cB, Bool.or_true])] | rw [if_pos (by rw [bI_n.mp cA, Bool.true_or])]) (nI_s k) ⟨rfl, rfl, rfl, trivial⟩
    · refine q_aload_n dX0_allThatRest_20 rfl rfl ?_
      refine q_iload_n dX0_allThatRest_21 rfl rfl ?_
      refine q_callVd dX0_allThatRest_22 wX0_allThatRest_57 (c_goesDown hq hb hc hn (show k ≤ n by omega)) (hq) ⟨_, _, rfl⟩ rfl rfl (Nat.le_of_ble_eq_true rfl) ⟨⟨Nat.le_of_ble_eq_true rfl, Nat.le_of_ble_eq_true rfl⟩, Nat.le_of_ble_eq_true rfl, Nat.le_of_ble_eq_true rfl⟩ ?_
      refine q_if_ne 34 dX0_allThatRest_25 (by decide) (fun cB => ?_) (fun cB => ?_)
      · refine q_iinc1 dX0_allThatRest_34 rfl (by decide) ?_
        refine q_goto 4 dX0_allThatRest_37 (by decide) ?_
        exact ih (k + 1) _ _ _ (by omega) (by simp only [rsS]; first | rw [if_neg (by rw [bI_0.mp cA, bI_0.mp cB]; decide)] | rw [if_pos (by rw [bI_n.mp cB, Bool.or_true])] | rw [if_pos (by rw [bI_n.mp cA, Bool.true_or])]) (nI_s k) ⟨rfl, rfl, rfl, trivial⟩
      · refine q_iload_n dX0_allThatRest_28 rfl rfl ?_
        refine q_iconst (v := 1) dX0_allThatRest_29 rfl ?_
        refine q_iload_n dX0_allThatRest_30 rfl rfl ?_
        refine q_ishl dX0_allThatRest_31 ?_
        refine q_ior dX0_allThatRest_32 ?_
        refine q_istore_n dX0_allThatRest_33 rfl (by decide) ?_
        refine q_iinc1 dX0_allThatRest_34 rfl (by decide) ?_
        refine q_goto 4 dX0_allThatRest_37 (by decide) ?_
        exact ih (k + 1) _ _ _ (by omega) (by simp only [rsS]; first | rw [if_neg (by rw [bI_0.mp cA, bI_0.mp cB]; decide)] | rw [if_pos (by rw [bI_n.mp cB, Bool.or_true])] | rw [if_pos (by rw [bI_n.mp cA, Bool.true_or])]) (nI_s k) ⟨rfl, rfl, rfl, trivial⟩
theorem c_allThatRest (hq : hat as h q (ob 0 [.ref a, .ref b, .ref c, .int (nI n), .int L])) (hb : hat as h b (aI Γ 31 hv)) (hc : hat as h c (aI Γ 31 lt)) (hn : n ≤ 30) : Det Γ l mX0_allThatRest rX0_allThatRest [.ref q] as h (some (.int (rsS (dUp hv lt n L) (dDn hv lt n L) (n + 1)))) h := by
  refine Con.of (by decide +kernel) rfl rfl (Nat.le_of_ble_eq_true rfl) ?_
  refine q_iconst (v := 0) dX0_allThatRest_0 rfl ?_
  refine q_istore_n dX0_allThatRest_1 rfl (by decide) ?_
  refine q_iconst (v := 0) dX0_allThatRest_2 rfl ?_
  refine q_istore_n dX0_allThatRest_3 rfl (by decide) ?_
  exact rest_loop hq hb hc hn (n + 1) 0 _ _ _ (by omega) rfl rfl ⟨rfl, rfl, rfl, trivial⟩
theorem dUp_lt (h : dUp hv lt n L k = true) : k < n := by
  unfold dUp at h
  rw [Bool.and_eq_true, decide_eq_true_eq] at h
  exact h.1
theorem dDn_pos (h : dDn hv lt n L k = true) : 0 < k := by
  unfold dDn at h
  rw [Bool.and_eq_true, decide_eq_true_eq] at h
  exact h.1
theorem end_loop (hq : hat as h q (ob 0 [.ref a, .ref b, .ref c, .int (nI n), .int L])) (hb : hat as h b (aI Γ 31 hv)) (hc : hat as h c (aI Γ 31 lt)) (hn : n ≤ 30) {v1 : Int32} {r0 : Nat} : ∀ (d i k : Nat) (x y : Int32) (ls : List (Nat × Value)), i + d = n → k ≤ n → r0 = enS (dUp hv lt n L) (dDn hv lt n L) d k → x = nI k → y = nI i → lin ls [(0, .ref q), (1, .int v1), (2, .int x), (3, .int y)] → V Γ l mX0_endFrom rX0_endFrom (Zm Γ rX0_endFrom (qD (some (.int (nI r0))) as h)) 0 0 4 ls [] as h := by
  intro d
  induction d with
  | zero =>
    intro i k x y ls hi hk hr hx hy hl
    subst hx hy hr
    refine V.at ?_ hl
    refine q_iload_n dX0_endFrom_4 rfl rfl ?_
    refine q_aload_n dX0_endFrom_5 rfl rfl ?_
    refine q_get dX0_endFrom_6 fX0_endFrom_21 (hq) rfl ?_
    refine q_icmp_ge 43 dX0_endFrom_9 (by decide) (fun _ => ?_) (fun z => absurd (nI_le (by omega) (by omega)) z)
    refine q_iload_n dX0_endFrom_43 rfl rfl ?_
    exact q_iret dX0_endFrom_44 rfl (Nat.zero_le _) (Nat.zero_le _) (⟨rfl, rfl, rfl⟩)
  | succ d ih =>
    intro i k x y ls hi hk hr hx hy hl
    subst hx hy
    refine V.at ?_ hl
    refine q_iload_n dX0_endFrom_4 rfl rfl ?_
    refine q_aload_n dX0_endFrom_5 rfl rfl ?_
    refine q_get dX0_endFrom_6 fX0_endFrom_21 (hq) rfl ?_
    refine q_icmp_ge 43 dX0_endFrom_9 (by decide) (fun z => absurd z (nI_ge (by omega) (by omega))) (fun _ => ?_)
    refine q_aload_n dX0_endFrom_12 rfl rfl ?_
    refine q_iload_n dX0_endFrom_13 rfl rfl ?_
    refine q_callVd dX0_endFrom_14 wX0_endFrom_53 (c_goesUp hq hb hc hn hk) (hq) ⟨_, _, rfl⟩ rfl rfl (Nat.le_of_ble_eq_true rfl) ⟨⟨Nat.le_of_ble_eq_true rfl, Nat.le_of_ble_eq_true rfl⟩, Nat.le_of_ble_eq_true rfl, Nat.le_of_ble_eq_true rfl⟩ ?_
    refine q_if_eq 26 dX0_endFrom_17 (by decide) (fun cA => ?_) (fun cA => ?_)
    · refine q_aload_n dX0_endFrom_26 rfl rfl ?_
      refine q_iload_n dX0_endFrom_27 rfl rfl ?_
      refine q_callVd dX0_endFrom_28 wX0_endFrom_57 (c_goesDown hq hb hc hn hk) (hq) ⟨_, _, rfl⟩ rfl rfl (Nat.le_of_ble_eq_true rfl) ⟨⟨Nat.le_of_ble_eq_true rfl, Nat.le_of_ble_eq_true rfl⟩, Nat.le_of_ble_eq_true rfl, Nat.le_of_ble_eq_true rfl⟩ ?_
      refine q_if_eq 37 dX0_endFrom_31 (by decide) (fun cB => ?_) (fun cB => ?_)
      · have hU := bI_0.mp cA
        have hD := bI_0.mp cB
        have e : enT (dUp hv lt n L) (dDn hv lt n L) k = k := by unfold enT; rw [if_neg (by rw [hU]; decide), if_neg (by rw [hD]; decide)]
        refine q_iinc1 dX0_endFrom_37 rfl (by decide) ?_
        refine q_goto 4 dX0_endFrom_40 (by decide) ?_
        exact ih (i + 1) k _ _ _ (by omega) (by omega) (by rw [hr]; simp only [enS, e]) rfl (nI_s i) ⟨rfl, rfl, rfl, rfl, trivial⟩
      · have hU := bI_0.mp cA
        have hD := bI_n.mp cB
        have hp := dDn_pos hD
        have e : enT (dUp hv lt n L) (dDn hv lt n L) k = k - 1 := by unfold enT; rw [if_neg (by rw [hU]; decide), if_pos hD]
        refine q_iincM dX0_endFrom_34 rfl (by decide) ?_
        refine q_iinc1 dX0_endFrom_37 rfl (by decide) ?_
        refine q_goto 4 dX0_endFrom_40 (by decide) ?_
        exact ih (i + 1) (k - 1) _ _ _ (by omega) (by omega) (by rw [hr, ← e]; rfl) (sb_m1 hp) (nI_s i) ⟨rfl, rfl, rfl, rfl, trivial⟩
    · have hU := bI_n.mp cA
      have hlt := dUp_lt hU
      have e : enT (dUp hv lt n L) (dDn hv lt n L) k = k + 1 := by unfold enT; rw [if_pos hU]
      refine q_iinc1 dX0_endFrom_20 rfl (by decide) ?_
      refine q_goto 37 dX0_endFrom_23 (by decide) ?_
      refine q_iinc1 dX0_endFrom_37 rfl (by decide) ?_
      refine q_goto 4 dX0_endFrom_40 (by decide) ?_
      exact ih (i + 1) (k + 1) _ _ _ (by omega) (by omega) (by rw [hr, ← e]; rfl) (nI_s k) (nI_s i) ⟨rfl, rfl, rfl, rfl, trivial⟩
theorem c_endFrom (hq : hat as h q (ob 0 [.ref a, .ref b, .ref c, .int (nI n), .int L])) (hb : hat as h b (aI Γ 31 hv)) (hc : hat as h c (aI Γ 31 lt)) (hn : n ≤ 30) (hk : k ≤ n) : Det Γ l mX0_endFrom rX0_endFrom [.ref q, .int (nI k)] as h (some (.int (nI (enS (dUp hv lt n L) (dDn hv lt n L) n k)))) h := by
  refine Con.of (by decide +kernel) rfl rfl (Nat.le_of_ble_eq_true rfl) ?_
  refine q_iload_n dX0_endFrom_0 rfl rfl ?_
  refine q_istore_n dX0_endFrom_1 rfl (by decide) ?_
  refine q_iconst (v := 0) dX0_endFrom_2 rfl ?_
  refine q_istore_n dX0_endFrom_3 rfl (by decide) ?_
  exact end_loop hq hb hc hn n 0 k _ _ _ (by omega) hk rfl rfl rfl ⟨rfl, rfl, rfl, rfl, trivial⟩
theorem enS_le (hk : k ≤ n) : ∀ d, enS (dUp hv lt n L) (dDn hv lt n L) d k ≤ n := by
  intro d
  induction d generalizing k with
  | zero => exact hk
  | succ d ih =>
    refine ih ?_
    unfold enT
    by_cases h1 : dUp hv lt n L k = true
    · rw [if_pos h1]; exact dUp_lt h1
    · rw [if_neg h1]
      by_cases h2 : dDn hv lt n L k = true
      · rw [if_pos h2]; omega
      · rw [if_neg h2]; exact hk
theorem tip_loop (hq : hat as h q (ob 0 [.ref a, .ref b, .ref c, .int (nI n), .int L])) (hb : hat as h b (aI Γ 31 hv)) (hc : hat as h c (aI Γ 31 lt)) (hn : n ≤ 30) {r0 : Int32} : ∀ (d k : Nat) (y : Int32) (ls : List (Nat × Value)), k + d = n + 1 → r0 = tiS (dUp hv lt n L) (dDn hv lt n L) n d k → y = nI k → lin ls [(0, .ref q), (1, .int y)] → V Γ l mX0_leastThatEndsInAll rX0_leastThatEndsInAll (Zm Γ rX0_leastThatEndsInAll (qD (some (.int r0)) as h)) 0 0 2 ls [] as h := by
  intro d
  induction d with
  | zero =>
    intro k y ls hk hx hy hl
    subst hx hy
    refine V.at ?_ hl
    refine q_iload_n dX0_leastThatEndsInAll_2 rfl rfl ?_
    refine q_aload_n dX0_leastThatEndsInAll_3 rfl rfl ?_
    refine q_get dX0_leastThatEndsInAll_4 fX0_leastThatEndsInAll_21 (hq) rfl ?_
    refine q_icmp_gt 30 dX0_leastThatEndsInAll_7 (by decide) (fun _ => ?_) (fun z => absurd (nI_lt (by omega) (by omega)) z)
    refine q_bipush (v := (-9)) dX0_leastThatEndsInAll_30 rfl ?_
    exact q_iret dX0_leastThatEndsInAll_32 rfl (Nat.zero_le _) (Nat.zero_le _) (⟨rfl, rfl, rfl⟩)
  | succ d ih =>
    intro k y ls hk hx hy hl
    subst hy
    refine V.at ?_ hl
    refine q_iload_n dX0_leastThatEndsInAll_2 rfl rfl ?_
    refine q_aload_n dX0_leastThatEndsInAll_3 rfl rfl ?_
    refine q_get dX0_leastThatEndsInAll_4 fX0_leastThatEndsInAll_21 (hq) rfl ?_
    refine q_icmp_gt 30 dX0_leastThatEndsInAll_7 (by decide) (fun z => absurd z (nI_nlt (by omega) (by omega))) (fun _ => ?_)
    refine q_aload_n dX0_leastThatEndsInAll_10 rfl rfl ?_
    refine q_iload_n dX0_leastThatEndsInAll_11 rfl rfl ?_
    refine q_callVd dX0_leastThatEndsInAll_12 wX0_leastThatEndsInAll_60 (c_endFrom hq hb hc hn (show k ≤ n by omega)) (hq) ⟨_, _, rfl⟩ rfl rfl (Nat.le_of_ble_eq_true rfl) ⟨⟨Nat.le_of_ble_eq_true rfl, Nat.le_of_ble_eq_true rfl⟩, Nat.le_of_ble_eq_true rfl, Nat.le_of_ble_eq_true rfl⟩ ?_
    refine q_aload_n dX0_leastThatEndsInAll_15 rfl rfl ?_
    refine q_get dX0_leastThatEndsInAll_16 fX0_leastThatEndsInAll_21 (hq) rfl ?_
    refine q_icmp_ne 24 dX0_leastThatEndsInAll_19 (by decide) (fun cA => ?_) (fun cA => ?_)
    · have e : ¬ enS (dUp hv lt n L) (dDn hv lt n L) n k = n := fun z => cA (by rw [z])
      refine q_iinc1 dX0_leastThatEndsInAll_24 rfl (by decide) ?_
      refine q_goto 2 dX0_leastThatEndsInAll_27 (by decide) ?_
      exact ih (k + 1) _ _ (by omega) (by rw [hx]; simp only [tiS]; rw [if_neg e]) (nI_s k) ⟨rfl, rfl, trivial⟩
    · have e : enS (dUp hv lt n L) (dDn hv lt n L) n k = n := (nI_eq (Nat.lt_of_le_of_lt (enS_le (by omega) n) (by omega)) (by omega)).mp cA
      refine q_iload_n dX0_leastThatEndsInAll_22 rfl rfl ?_
      exact q_iret dX0_leastThatEndsInAll_23 rfl (Nat.zero_le _) (Nat.zero_le _) (⟨by rw [hx]; simp only [tiS]; rw [if_pos e], rfl, rfl⟩)
theorem c_leastThatEndsInAll (hq : hat as h q (ob 0 [.ref a, .ref b, .ref c, .int (nI n), .int L])) (hb : hat as h b (aI Γ 31 hv)) (hc : hat as h c (aI Γ 31 lt)) (hn : n ≤ 30) : Det Γ l mX0_leastThatEndsInAll rX0_leastThatEndsInAll [.ref q] as h (some (.int (tiS (dUp hv lt n L) (dDn hv lt n L) n (n + 1) 0))) h := by
  refine Con.of (by decide +kernel) rfl rfl (Nat.le_of_ble_eq_true rfl) ?_
  refine q_iconst (v := 0) dX0_leastThatEndsInAll_0 rfl ?_
  refine q_istore_n dX0_leastThatEndsInAll_1 rfl (by decide) ?_
  exact tip_loop hq hb hc hn (n + 1) 0 _ _ (by omega) rfl rfl ⟨rfl, rfl, trivial⟩
theorem wof_left {M C w : Nat} (hM : M < 2 ^ 31) (hw : w < 1000) : nI (M - C) - (if nI w < nI (M - C) then nI w else nI (M - C)) = nI (M - (C + w)) := by
  by_cases hlt : w < M - C
  · rw [if_pos (nI_lt hlt (by omega)), pk_sub (by omega)]
    congr 1
    omega
  · rw [if_neg (nI_nlt (by omega) (by omega)), pk_sub (by omega)]
    congr 1
    omega
theorem wof_loop (hq : hat as h q (ob 0 [.ref a, .ref b, .ref c, .int (nI n), .int L])) (ha : hat as h a (aI Γ 10 fw)) (hW : ∀ j, j < 10 → fw j = nI (W j) ∧ W j < 1000) {v1 v2 v3 : Int32} {M : Nat} (hM : M < 2 ^ 31) (hwt : ∀ i, i < 10 → wt i < 10 ∧ v2 + v3 * nI i = nI (wt i)) : ∀ (d i : Nat) (y4 y5 y6 : Int32) (ls : List (Nat × Value)), i + d = 10 → y4 = nI (M - cB W wt i) → y5 = woB W wt M i → y6 = nI i → lin ls [(0, .ref q), (1, .int v1), (2, .int v2), (3, .int v3), (4, .int y4), (5, .int y5), (6, .int y6)] → V Γ l mX0_weightsOf rX0_weightsOf (Zm Γ rX0_weightsOf (qD (some (.int (woB W wt M 10))) as h)) 0 0 9 ls [] as h := by
  intro d
  induction d with
  | zero =>
    intro i y4 y5 y6 ls hi h4 h5 h6 hl
    subst h4 h5 h6
    refine V.at ?_ hl
    refine q_iload dX0_weightsOf_9 rfl ?_
    refine q_bipush (v := 10) dX0_weightsOf_11 rfl ?_
    refine q_icmp_ge 71 dX0_weightsOf_13 (by decide) (fun _ => ?_) (fun z => absurd (ge_c 10 rfl (by omega) (by omega)) z)
    refine q_iload dX0_weightsOf_71 rfl ?_
    exact q_iret dX0_weightsOf_73 rfl (Nat.zero_le _) (Nat.zero_le _) (⟨by rw [show i = 10 by omega], rfl, rfl⟩)
  | succ d ih =>
    intro i y4 y5 y6 ls hi h4 h5 h6 hl
    have hw := (hwt i (by omega)).1
    have hWi := hW (wt i) hw
    subst h4 h5 h6
    refine V.at ?_ hl
    refine q_iload dX0_weightsOf_9 rfl ?_
    refine q_bipush (v := 10) dX0_weightsOf_11 rfl ?_
    refine q_icmp_ge 71 dX0_weightsOf_13 (by decide) (fun z => absurd z (lt_c 10 rfl (by omega) (by omega))) (fun _ => ?_)
    refine q_iload_n dX0_weightsOf_16 rfl rfl ?_
    refine q_iload_n dX0_weightsOf_17 rfl rfl ?_
    refine q_iload dX0_weightsOf_18 rfl ?_
    refine q_imul dX0_weightsOf_20 ?_
    refine q_iadd dX0_weightsOf_21 ?_
    rw [(hwt i (by omega)).2]
    refine q_istore dX0_weightsOf_22 (by decide) ?_
    refine q_iload dX0_weightsOf_24 rfl ?_
    refine q_if_le 65 dX0_weightsOf_26 (by decide) (fun cX => ?_) (fun cX => ?_)
    · have e : M ≤ cB W wt i ∨ W (wt i) = 0 := by
        first | exact Or.inr (Nat.eq_zero_of_not_pos (fun z => nI_nle z (by omega) cY)) | exact Or.inl (Nat.le_of_sub_eq_zero (Nat.eq_zero_of_not_pos (fun z => nI_nle z (by omega) cX)))
      refine q_iinc1 dX0_weightsOf_65 rfl (by decide) ?_
      refine q_goto 9 dX0_weightsOf_68 (by decide) ?_
      exact ih (i + 1) _ _ _ _ (by omega) (by simp only [cB]; congr 1; omega) (by simp only [woB]; rw [if_neg (by omega)]) (nI_s i) ⟨rfl, rfl, rfl, rfl, rfl, rfl, rfl, trivial⟩
    · refine q_aload_n dX0_weightsOf_29 rfl rfl ?_
      refine q_get dX0_weightsOf_30 fX0_weightsOf_9 (hq) rfl ?_
      refine q_iload dX0_weightsOf_33 rfl ?_
      refine q_iald dX0_weightsOf_35 (ha) (in_nI hw (by omega)) ?_
      rw [nI_clamp (by omega), hWi.1]
      refine q_if_le 65 dX0_weightsOf_36 (by decide) (fun cY => ?_) (fun cY => ?_)
      · have e : M ≤ cB W wt i ∨ W (wt i) = 0 := by
          first | exact Or.inr (Nat.eq_zero_of_not_pos (fun z => nI_nle z (by omega) cY)) | exact Or.inl (Nat.le_of_sub_eq_zero (Nat.eq_zero_of_not_pos (fun z => nI_nle z (by omega) cX)))
        refine q_iinc1 dX0_weightsOf_65 rfl (by decide) ?_
        refine q_goto 9 dX0_weightsOf_68 (by decide) ?_
        exact ih (i + 1) _ _ _ _ (by omega) (by simp only [cB]; congr 1; omega) (by simp only [woB]; rw [if_neg (by omega)]) (nI_s i) ⟨rfl, rfl, rfl, rfl, rfl, rfl, rfl, trivial⟩
      · have e1 : cB W wt i < M := Nat.lt_of_not_le (fun z => cX (by rw [show M - cB W wt i = 0 by omega]; exact Int32.le_refl _))
        have e2 : 0 < W (wt i) := Nat.pos_of_ne_zero (fun z => cY (by rw [z]; exact Int32.le_refl _))
        refine q_iload dX0_weightsOf_39 rfl ?_
        refine q_iconst (v := 1) dX0_weightsOf_41 rfl ?_
        refine q_iload dX0_weightsOf_42 rfl ?_
        refine q_ishl dX0_weightsOf_44 ?_
        refine q_ior dX0_weightsOf_45 ?_
        refine q_istore dX0_weightsOf_46 (by decide) ?_
        refine q_iload dX0_weightsOf_48 rfl ?_
        refine q_iload dX0_weightsOf_50 rfl ?_
        refine q_aload_n dX0_weightsOf_52 rfl rfl ?_
        refine q_get dX0_weightsOf_53 fX0_weightsOf_9 (hq) rfl ?_
        refine q_iload dX0_weightsOf_56 rfl ?_
        refine q_iald dX0_weightsOf_58 (ha) (in_nI hw (by omega)) ?_
        refine q_mmin dX0_weightsOf_59 (by decide +kernel) (Nat.le_of_ble_eq_true rfl) (Nat.le_of_ble_eq_true rfl) (Nat.zero_le _) (Nat.zero_le _) ?_
        refine q_isub dX0_weightsOf_62 ?_
        refine q_istore dX0_weightsOf_63 (by decide) ?_
        refine q_iinc1 dX0_weightsOf_65 rfl (by decide) ?_
        refine q_goto 9 dX0_weightsOf_68 (by decide) ?_
        exact ih (i + 1) _ _ _ _ (by omega) (by rw [nI_clamp (by omega), hWi.1]; exact wof_left hM hWi.2) (by simp only [woB]; rw [if_pos ⟨e1, e2⟩]) (nI_s i) ⟨rfl, rfl, rfl, rfl, rfl, rfl, rfl, trivial⟩
theorem c_weightsOf (hq : hat as h q (ob 0 [.ref a, .ref b, .ref c, .int (nI n), .int L])) (ha : hat as h a (aI Γ 10 fw)) (hW : ∀ j, j < 10 → fw j = nI (W j) ∧ W j < 1000) {v2 v3 : Int32} {M : Nat} (hM : M < 2 ^ 31) (hwt : ∀ i, i < 10 → wt i < 10 ∧ v2 + v3 * nI i = nI (wt i)) : Det Γ l mX0_weightsOf rX0_weightsOf [.ref q, .int (nI M), .int v2, .int v3] as h (some (.int (woB W wt M 10))) h := by
  refine Con.of (by decide +kernel) rfl rfl (Nat.le_of_ble_eq_true rfl) ?_
  refine q_iload_n dX0_weightsOf_0 rfl rfl ?_
  refine q_istore dX0_weightsOf_1 (by decide) ?_
  refine q_iconst (v := 0) dX0_weightsOf_3 rfl ?_
  refine q_istore dX0_weightsOf_4 (by decide) ?_
  refine q_iconst (v := 0) dX0_weightsOf_6 rfl ?_
  refine q_istore dX0_weightsOf_7 (by decide) ?_
  exact wof_loop hq ha hW hM hwt 10 0 _ _ _ _ (by omega) rfl rfl rfl ⟨rfl, rfl, rfl, rfl, rfl, rfl, rfl, trivial⟩
theorem c_weightsLeftOut (hq : hat as h q (ob 0 [.ref a, .ref b, .ref c, .int (nI n), .int L])) (ha : hat as h a (aI Γ 10 fw)) (hW : ∀ j, j < 10 → fw j = nI (W j) ∧ W j < 1000) (hn : n ≤ 30) (hk : k ≤ n) : Det Γ l mX0_weightsLeftOut rX0_weightsLeftOut [.ref q, .int (nI k)] as h (some (.int (woB W wUp 2147483647 10 &&& ((woB W wUp k 10 ||| woB W wDn (n - k) 10) ^^^ (-1))))) h := by
  refine Con.of (by decide +kernel) rfl rfl (Nat.le_of_ble_eq_true rfl) ?_
  refine q_aload_n dX0_weightsLeftOut_0 rfl rfl ?_
  refine q_iload_n dX0_weightsLeftOut_1 rfl rfl ?_
  refine q_iconst (v := 0) dX0_weightsLeftOut_2 rfl ?_
  refine q_iconst (v := 1) dX0_weightsLeftOut_3 rfl ?_
  refine q_callVd dX0_weightsLeftOut_4 wX0_weightsLeftOut_63 (c_weightsOf (wt := wUp) (M := k) hq ha hW (by omega) wUp_ok) (hq) ⟨_, _, rfl⟩ rfl rfl (Nat.le_of_ble_eq_true rfl) ⟨⟨Nat.le_of_ble_eq_true rfl, Nat.le_of_ble_eq_true rfl⟩, Nat.le_of_ble_eq_true rfl, Nat.le_of_ble_eq_true rfl⟩ ?_
  refine q_aload_n dX0_weightsLeftOut_7 rfl rfl ?_
  refine q_aload_n dX0_weightsLeftOut_8 rfl rfl ?_
  refine q_get dX0_weightsLeftOut_9 fX0_weightsLeftOut_21 (hq) rfl ?_
  refine q_iload_n dX0_weightsLeftOut_12 rfl rfl ?_
  refine q_isub dX0_weightsLeftOut_13 ?_
  refine q_bipush (v := 9) dX0_weightsLeftOut_14 rfl ?_
  refine q_iconst (v := (-1)) dX0_weightsLeftOut_16 rfl ?_
  rw [pk_sub hk]
  refine q_callVd dX0_weightsLeftOut_17 wX0_weightsLeftOut_63 (c_weightsOf (wt := wDn) (M := n - k) hq ha hW (by omega) wDn_ok) (hq) ⟨_, _, rfl⟩ rfl rfl (Nat.le_of_ble_eq_true rfl) ⟨⟨Nat.le_of_ble_eq_true rfl, Nat.le_of_ble_eq_true rfl⟩, Nat.le_of_ble_eq_true rfl, Nat.le_of_ble_eq_true rfl⟩ ?_
  refine q_ior dX0_weightsLeftOut_20 ?_
  refine q_istore_n dX0_weightsLeftOut_21 rfl (by decide) ?_
  refine q_aload_n dX0_weightsLeftOut_22 rfl rfl ?_
  refine q_ldc (v := 2147483647) dX0_weightsLeftOut_23 (by decide +kernel) ?_
  refine q_iconst (v := 0) dX0_weightsLeftOut_25 rfl ?_
  refine q_iconst (v := 1) dX0_weightsLeftOut_26 rfl ?_
  refine q_callVd dX0_weightsLeftOut_27 wX0_weightsLeftOut_63 (c_weightsOf (wt := wUp) (M := 2147483647) hq ha hW (by omega) wUp_ok) (hq) ⟨_, _, rfl⟩ rfl rfl (Nat.le_of_ble_eq_true rfl) ⟨⟨Nat.le_of_ble_eq_true rfl, Nat.le_of_ble_eq_true rfl⟩, Nat.le_of_ble_eq_true rfl, Nat.le_of_ble_eq_true rfl⟩ ?_
  refine q_iload_n dX0_weightsLeftOut_30 rfl rfl ?_
  refine q_iconst (v := (-1)) dX0_weightsLeftOut_31 rfl ?_
  refine q_ixor dX0_weightsLeftOut_32 ?_
  refine q_iand dX0_weightsLeftOut_33 ?_
  exact q_iret dX0_weightsLeftOut_34 rfl (Nat.zero_le _) (Nat.zero_le _) (⟨rfl, rfl, rfl⟩)
end
end
section
/-! String constants: length() and charAt() of the five words -/
section Rules4
variable {Γ : gT} {l : Launch} {μ : mT} {R : Room} {Z : zT} {kc ks pc : Nat} {ls : List (Nat × Value)} {st : List Value} {as : List Nat} {h : aH}
theorem q_ldcS {i : Nat} (hi : i < 5) (hd : decode μ.2.2.1 pc = .ok (.ldc (sIdx i), 2)) (hown : μ.2.1 = "LightCoins$Text") (k : V Γ l μ R Z kc ks (pc + 2) ls (.ref (gX Γ (1010 + i)) :: st) as h) : V Γ l μ R Z kc ks pc ls st as h := by
  intro p e s m args below meth c H locs lsA C ho hP hS hl
  exact va_ldcS C.1 C.2.1 (by rw [← hown]; exact C.2.2.2.2.1) (C.2.2.2.2.2.2.2.2.2.1.2.2.2.2.2.2.2.2 i hi) hd (k p e s m args below meth c H locs lsA C ho hP hS hl)
theorem q_getS {index q : Nat} {n d : String} {v : Value} (hd : decode μ.2.2.1 pc = .ok (.getfield index, 3)) (hE : ∀ (U : State) (H : Heap), EXT Γ U H → va_OF "java/lang/String" n d v q (gA Γ) U H) (hw : Cond.fieldLink μ.2.1 index "java/lang/String" n d ∈ μ.2.2.2.2.2) (k : V Γ l μ R Z kc ks (pc + 3) ls (v :: st) as h) : V Γ l μ R Z kc ks pc ls (.ref q :: st) as h := by
  intro p e s m args below meth c H locs lsA C ho hP hS hl
  exact vk_getf C.1 C.2.1 (hE _ _ C.2.2.2.2.2.2.2.2.2.1) hS C.2.2.2.2.1 (C.2.2.2.2.2.1 _ hw) (fun _ z => z) hd (k p e s m args below meth c H locs lsA C ho hP hS hl)
theorem q_tb {t N : Nat} {f : Nat → Value} {i : Int32} {v : Value} (hd : decode μ.2.2.1 pc = .ok (.baload, 1)) (hT : ∀ (U : State) (H : Heap), EXT Γ U H → va_T .byte t N f (gA Γ) U H) (hin : vp_in i N) (hv : f i.toNatClampNeg = v) (k : V Γ l μ R Z kc ks (pc + 1) ls (v :: st) as h) : V Γ l μ R Z kc ks pc ls (.int i :: .ref t :: st) as h := by
  intro p e s m args below meth c H locs lsA C ho hP hS hl
  exact va_tb C.1 C.2.1 (hT _ _ C.2.2.2.2.2.2.2.2.2.1) hS hin hv hd (k p e s m args below meth c H locs lsA C ho hP hS hl)
theorem q_tlenB {t N : Nat} {f : Nat → Value} {v : Int32} (hd : decode μ.2.2.1 pc = .ok (.arraylength, 1)) (hT : ∀ (U : State) (H : Heap), EXT Γ U H → va_T .byte t N f (gA Γ) U H) (hv : Int32.ofNat N = v) (k : V Γ l μ R Z kc ks (pc + 1) ls (.int v :: st) as h) : V Γ l μ R Z kc ks pc ls (.ref t :: st) as h := by
  intro p e s m args below meth c H locs lsA C ho hP hS hl
  exact va_tlen C.1 C.2.1 (hT _ _ C.2.2.2.2.2.2.2.2.2.1) hS hv hd (k p e s m args below meth c H locs lsA C ho hP hS hl)
theorem q_getsZ {index : Nat} {C n d : String} (hd : decode μ.2.2.1 pc = .ok (.getstatic index, 3)) (hZ : ∀ (U : State) (H : Heap), EXT Γ U H → va_Zq C n d (gA Γ) U H) (hw : Cond.fieldLink μ.2.1 index C n d ∈ μ.2.2.2.2.2) (k0 : V Γ l μ R Z kc ks (pc + 3) ls (.null :: st) as h) (k : ∀ t : Nat, V Γ l μ R Z kc ks (pc + 3) ls (.ref t :: st) as h) : V Γ l μ R Z kc ks pc ls st as h := by
  intro p e s m args below meth c H locs lsA C ho hP hS hl
  rcases hZ _ _ C.2.2.2.2.2.2.2.2.2.1 with hz | ⟨t, hz⟩
  · exact va_gets C.1 C.2.1 hz hS C.2.2.2.2.1 (C.2.2.2.2.2.1 _ hw) (fun _ z => z) hd (k0 p e s m args below meth c H locs lsA C ho hP hS hl)
  · exact va_gets C.1 C.2.1 hz hS C.2.2.2.2.1 (C.2.2.2.2.2.1 _ hw) (fun _ z => z) hd (k t p e s m args below meth c H locs lsA C ho hP hS hl)
theorem q_i2c {x : Int32} (hd : decode μ.2.2.1 pc = .ok (.i2c, 1)) (k : V Γ l μ R Z kc ks (pc + 1) ls (.int (x.toUInt32 % 65536).toInt32 :: st) as h) : V Γ l μ R Z kc ks pc ls (.int x :: st) as h := by
  intro p e s m args below meth c H locs lsA C ho hP hS hl
  exact lv_i2c C.1 C.2.1 hd rfl (k p e s m args below meth c H locs lsA C ho hP hS hl)
/-- a call on one of the five words -/
theorem q_callW {index na i : Nat} {μ' : mT} {fr lo : Nat} {As : List Value} {r0 : Option Value} {h0 : aH} {st0 : List Value} (hi : i < 5) (hd : decode μ.2.2.1 pc = .ok (.invokevirtual index, 3)) (cw : CWV μ index μ' na) (hM : Det Γ l μ' { frames := fr, cells := 0, slots := 0, locals := lo } (.ref (gX Γ (1010 + i)) :: As) as h r0 h0) (hci : μ'.2.1 = "java/lang/String") (hna : As.length = na) (hst : st0 = As.reverse ++ .ref (gX Γ (1010 + i)) :: st) (hcat : (st.map fun v => v.category).sum ≤ 8) (hR : fitR R μ' { frames := fr, cells := 0, slots := 0, locals := lo } kc ks)
    (k : V Γ l μ R Z kc ks (pc + 3) ls (r0.toList ++ st) as h0) : V Γ l μ R Z kc ks pc ls st0 as h := by
  refine q_run (Q' := qD r0 as h0) (mc := 0) (ms := 0) (st := st) ?_ (fun r as' h' q => by obtain ⟨rfl, rfl, rfl⟩ := q; exact k)
  intro p e s m args below meth c H locs lsA C ho hP hS hl
  obtain ⟨hG, ⟨ws', hw⟩, hd1, hd2, hd3, hd4⟩ := cw
  exact ⟨_, va_runV (As := As) (rest := st) ⟨C.1, C.2.1, C.2.2.2.1, C.2.2.2.2.1, C.2.2.2.2.2.1⟩ hM (cwV na C.2.2.2.2.2.1 hG hw rfl rfl ⟨hd1, hd2, hd3, hd4⟩ hR.1) ⟨PcD_blind, by rw [hci]; exact vk_recv (adK := fun i => gX Γ (1010 + i)) (i := i) C.2.2.2.2.2.2.2.2.2.1.2.2.2.2.2.2.1 hi hS, pre_of C ho hP hS⟩ rfl hna hl.1 hst (lv_room hcat) hd hR.2⟩
end Rules4
abbrev mJ0_coder_7d493 : mT := (yJ0_coder_7d493, RJ0, cJ0_coder_7d493, 1, (some .byte), wsJ0_coder_7d493)
abbrev rJ0_coder_7d493 : Room := { frames := 0, cells := 0, slots := 0, locals := 0 }
theorem dJ0_coder_7d493_0 : decode cJ0_coder_7d493 0 = .ok (.getstatic 38, 3) := by decide +kernel
theorem dJ0_coder_7d493_3 : decode cJ0_coder_7d493 3 = .ok (.ifCond .eq 10, 3) := by decide +kernel
theorem dJ0_coder_7d493_6 : decode cJ0_coder_7d493 6 = .ok (.aload_n 0, 1) := by decide +kernel
theorem dJ0_coder_7d493_7 : decode cJ0_coder_7d493 7 = .ok (.getfield 15, 3) := by decide +kernel
theorem dJ0_coder_7d493_10 : decode cJ0_coder_7d493 10 = .ok (.goto 4, 3) := by decide +kernel
theorem dJ0_coder_7d493_13 : decode cJ0_coder_7d493 13 = .ok (.iconst 1, 1) := by decide +kernel
theorem dJ0_coder_7d493_14 : decode cJ0_coder_7d493 14 = .ok (.ireturn, 1) := by decide +kernel
abbrev mJ0_length_8abf5 : mT := (yJ0_length_8abf5, RJ0, cJ0_length_8abf5, 1, (some .int), wsJ0_length_8abf5)
abbrev rJ0_length_8abf5 : Room := { frames := 1, cells := 0, slots := 0, locals := 20 }
theorem dJ0_length_8abf5_0 : decode cJ0_length_8abf5 0 = .ok (.aload_n 0, 1) := by decide +kernel
theorem dJ0_length_8abf5_1 : decode cJ0_length_8abf5 1 = .ok (.getfield 9, 3) := by decide +kernel
theorem dJ0_length_8abf5_4 : decode cJ0_length_8abf5 4 = .ok (.arraylength, 1) := by decide +kernel
theorem dJ0_length_8abf5_5 : decode cJ0_length_8abf5 5 = .ok (.aload_n 0, 1) := by decide +kernel
theorem dJ0_length_8abf5_6 : decode cJ0_length_8abf5 6 = .ok (.invokevirtual 335, 3) := by decide +kernel
theorem dJ0_length_8abf5_9 : decode cJ0_length_8abf5 9 = .ok (.ishr, 1) := by decide +kernel
theorem dJ0_length_8abf5_10 : decode cJ0_length_8abf5 10 = .ok (.ireturn, 1) := by decide +kernel
set_option maxRecDepth 20000 in
theorem ggJ0_length_8abf5_J0_coder_7d493 : GoodIn wsJ0_length_8abf5 wsJ0_coder_7d493 := goodIn_r _ [6, 7, 8] (by decide +kernel) (by decide +kernel)
set_option maxRecDepth 20000 in
theorem gJ0_length_8abf5_J0_coder_7d493 : GoodIn wsJ0_length_8abf5 (wsV RJ0 335 RJ0 yJ0_coder_7d493 wsJ0_coder_7d493) := goodIn_app (goodIn_of _ (by decide +kernel)) ggJ0_length_8abf5_J0_coder_7d493
theorem wJ0_length_8abf5_335 : CWV mJ0_length_8abf5 335 mJ0_coder_7d493 0 := ⟨gJ0_length_8abf5_J0_coder_7d493, ⟨_, rfl⟩, rfl, by decide +kernel, by decide +kernel, by decide +kernel⟩
abbrev mJ0_isLatin1_aae02 : mT := (yJ0_isLatin1_aae02, RJ0, cJ0_isLatin1_aae02, 1, (some .boolean), wsJ0_isLatin1_aae02)
abbrev rJ0_isLatin1_aae02 : Room := { frames := 0, cells := 0, slots := 0, locals := 0 }
theorem dJ0_isLatin1_aae02_0 : decode cJ0_isLatin1_aae02 0 = .ok (.getstatic 38, 3) := by decide +kernel
theorem dJ0_isLatin1_aae02_3 : decode cJ0_isLatin1_aae02 3 = .ok (.ifCond .eq 14, 3) := by decide +kernel
theorem dJ0_isLatin1_aae02_6 : decode cJ0_isLatin1_aae02 6 = .ok (.aload_n 0, 1) := by decide +kernel
theorem dJ0_isLatin1_aae02_7 : decode cJ0_isLatin1_aae02 7 = .ok (.getfield 15, 3) := by decide +kernel
theorem dJ0_isLatin1_aae02_10 : decode cJ0_isLatin1_aae02 10 = .ok (.ifCond .ne 7, 3) := by decide +kernel
theorem dJ0_isLatin1_aae02_13 : decode cJ0_isLatin1_aae02 13 = .ok (.iconst 1, 1) := by decide +kernel
theorem dJ0_isLatin1_aae02_14 : decode cJ0_isLatin1_aae02 14 = .ok (.goto 4, 3) := by decide +kernel
theorem dJ0_isLatin1_aae02_17 : decode cJ0_isLatin1_aae02 17 = .ok (.iconst 0, 1) := by decide +kernel
theorem dJ0_isLatin1_aae02_18 : decode cJ0_isLatin1_aae02 18 = .ok (.ireturn, 1) := by decide +kernel
abbrev mJ3_checkIndex_8e157 : mT := (yJ3_checkIndex_8e157, RJ3, cJ3_checkIndex_8e157, 3, (some .int), wsJ3_checkIndex_8e157)
abbrev rJ3_checkIndex_8e157 : Room := { frames := 1, cells := 0, slots := 0, locals := 40 }
theorem dJ3_checkIndex_8e157_0 : decode cJ3_checkIndex_8e157 0 = .ok (.iload_n 0, 1) := by decide +kernel
theorem dJ3_checkIndex_8e157_1 : decode cJ3_checkIndex_8e157 1 = .ok (.ifCond .lt 8, 3) := by decide +kernel
theorem dJ3_checkIndex_8e157_4 : decode cJ3_checkIndex_8e157 4 = .ok (.iload_n 0, 1) := by decide +kernel
theorem dJ3_checkIndex_8e157_5 : decode cJ3_checkIndex_8e157 5 = .ok (.iload_n 1, 1) := by decide +kernel
theorem dJ3_checkIndex_8e157_6 : decode cJ3_checkIndex_8e157 6 = .ok (.if_icmp .lt 10, 3) := by decide +kernel
theorem dJ3_checkIndex_8e157_9 : decode cJ3_checkIndex_8e157 9 = .ok (.aload_n 2, 1) := by decide +kernel
theorem dJ3_checkIndex_8e157_10 : decode cJ3_checkIndex_8e157 10 = .ok (.iload_n 0, 1) := by decide +kernel
theorem dJ3_checkIndex_8e157_11 : decode cJ3_checkIndex_8e157 11 = .ok (.iload_n 1, 1) := by decide +kernel
theorem dJ3_checkIndex_8e157_12 : decode cJ3_checkIndex_8e157 12 = .ok (.invokestatic 95, 3) := by decide +kernel
theorem dJ3_checkIndex_8e157_15 : decode cJ3_checkIndex_8e157 15 = .ok (.athrow, 1) := by decide +kernel
theorem dJ3_checkIndex_8e157_16 : decode cJ3_checkIndex_8e157 16 = .ok (.iload_n 0, 1) := by decide +kernel
theorem dJ3_checkIndex_8e157_17 : decode cJ3_checkIndex_8e157 17 = .ok (.ireturn, 1) := by decide +kernel
abbrev mJ0_checkIndex_df160 : mT := (yJ0_checkIndex_df160, RJ0, cJ0_checkIndex_df160, 2, none, wsJ0_checkIndex_df160)
abbrev rJ0_checkIndex_df160 : Room := { frames := 2, cells := 0, slots := 0, locals := 62 }
theorem dJ0_checkIndex_df160_0 : decode cJ0_checkIndex_df160 0 = .ok (.iload_n 0, 1) := by decide +kernel
theorem dJ0_checkIndex_df160_1 : decode cJ0_checkIndex_df160 1 = .ok (.iload_n 1, 1) := by decide +kernel
theorem dJ0_checkIndex_df160_2 : decode cJ0_checkIndex_df160 2 = .ok (.getstatic 1053, 3) := by decide +kernel
theorem dJ0_checkIndex_df160_5 : decode cJ0_checkIndex_df160 5 = .ok (.invokestatic 1059, 3) := by decide +kernel
theorem dJ0_checkIndex_df160_8 : decode cJ0_checkIndex_df160 8 = .ok (.pop, 1) := by decide +kernel
theorem dJ0_checkIndex_df160_9 : decode cJ0_checkIndex_df160 9 = .ok (.return_, 1) := by decide +kernel
set_option maxRecDepth 20000 in
theorem ggJ0_checkIndex_df160_J3_checkIndex_8e157 : GoodIn wsJ0_checkIndex_df160 wsJ3_checkIndex_8e157 := goodIn_r _ [5] (by decide +kernel) (by decide +kernel)
set_option maxRecDepth 20000 in
theorem gJ0_checkIndex_df160_J3_checkIndex_8e157 : GoodIn wsJ0_checkIndex_df160 (va_wsS RJ0 1059 yJ3_checkIndex_8e157 wsJ3_checkIndex_8e157) := goodIn_app (goodIn_of _ (by decide +kernel)) ggJ0_checkIndex_df160_J3_checkIndex_8e157
theorem wJ0_checkIndex_df160_1059 : CWS mJ0_checkIndex_df160 1059 mJ3_checkIndex_8e157 3 := ⟨gJ0_checkIndex_df160_J3_checkIndex_8e157, ⟨_, rfl⟩, by decide +kernel, by decide +kernel, by decide +kernel⟩
abbrev mJ1_charAt_3b067 : mT := (yJ1_charAt_3b067, RJ1, cJ1_charAt_3b067, 2, (some .char), wsJ1_charAt_3b067)
abbrev rJ1_charAt_3b067 : Room := { frames := 3, cells := 0, slots := 0, locals := 83 }
theorem dJ1_charAt_3b067_0 : decode cJ1_charAt_3b067 0 = .ok (.iload_n 1, 1) := by decide +kernel
theorem dJ1_charAt_3b067_1 : decode cJ1_charAt_3b067 1 = .ok (.aload_n 0, 1) := by decide +kernel
theorem dJ1_charAt_3b067_2 : decode cJ1_charAt_3b067 2 = .ok (.arraylength, 1) := by decide +kernel
theorem dJ1_charAt_3b067_3 : decode cJ1_charAt_3b067 3 = .ok (.invokestatic 9, 3) := by decide +kernel
theorem dJ1_charAt_3b067_6 : decode cJ1_charAt_3b067 6 = .ok (.aload_n 0, 1) := by decide +kernel
theorem dJ1_charAt_3b067_7 : decode cJ1_charAt_3b067 7 = .ok (.iload_n 1, 1) := by decide +kernel
theorem dJ1_charAt_3b067_8 : decode cJ1_charAt_3b067 8 = .ok (.baload, 1) := by decide +kernel
theorem dJ1_charAt_3b067_9 : decode cJ1_charAt_3b067 9 = .ok (.sipush 255, 3) := by decide +kernel
theorem dJ1_charAt_3b067_12 : decode cJ1_charAt_3b067 12 = .ok (.iand, 1) := by decide +kernel
theorem dJ1_charAt_3b067_13 : decode cJ1_charAt_3b067 13 = .ok (.i2c, 1) := by decide +kernel
theorem dJ1_charAt_3b067_14 : decode cJ1_charAt_3b067 14 = .ok (.ireturn, 1) := by decide +kernel
set_option maxRecDepth 20000 in
theorem ggJ1_charAt_3b067_J0_checkIndex_df160 : GoodIn wsJ1_charAt_3b067 wsJ0_checkIndex_df160 := goodIn_r _ [4, 5, 6, 7, 8, 9] (by decide +kernel) (by decide +kernel)
set_option maxRecDepth 20000 in
theorem gJ1_charAt_3b067_J0_checkIndex_df160 : GoodIn wsJ1_charAt_3b067 (va_wsS RJ1 9 yJ0_checkIndex_df160 wsJ0_checkIndex_df160) := goodIn_app (goodIn_of _ (by decide +kernel)) ggJ1_charAt_3b067_J0_checkIndex_df160
theorem wJ1_charAt_3b067_9 : CWS mJ1_charAt_3b067 9 mJ0_checkIndex_df160 2 := ⟨gJ1_charAt_3b067_J0_checkIndex_df160, ⟨_, rfl⟩, by decide +kernel, by decide +kernel, by decide +kernel⟩
abbrev mJ2_charAt_3b067 : mT := (yJ2_charAt_3b067, RJ2, cJ2_charAt_3b067, 2, (some .char), wsJ2_charAt_3b067)
abbrev rJ2_charAt_3b067 : Room := { frames := 4, cells := 0, slots := 0, locals := 104 }
abbrev mJ0_charAt_5068e : mT := (yJ0_charAt_5068e, RJ0, cJ0_charAt_5068e, 2, (some .char), wsJ0_charAt_5068e)
abbrev rJ0_charAt_5068e : Room := { frames := 5, cells := 0, slots := 0, locals := 125 }
theorem dJ0_charAt_5068e_0 : decode cJ0_charAt_5068e 0 = .ok (.aload_n 0, 1) := by decide +kernel
theorem dJ0_charAt_5068e_1 : decode cJ0_charAt_5068e 1 = .ok (.invokevirtual 492, 3) := by decide +kernel
theorem dJ0_charAt_5068e_4 : decode cJ0_charAt_5068e 4 = .ok (.ifCond .eq 12, 3) := by decide +kernel
theorem dJ0_charAt_5068e_7 : decode cJ0_charAt_5068e 7 = .ok (.aload_n 0, 1) := by decide +kernel
theorem dJ0_charAt_5068e_8 : decode cJ0_charAt_5068e 8 = .ok (.getfield 9, 3) := by decide +kernel
theorem dJ0_charAt_5068e_11 : decode cJ0_charAt_5068e 11 = .ok (.iload_n 1, 1) := by decide +kernel
theorem dJ0_charAt_5068e_12 : decode cJ0_charAt_5068e 12 = .ok (.invokestatic 495, 3) := by decide +kernel
theorem dJ0_charAt_5068e_15 : decode cJ0_charAt_5068e 15 = .ok (.ireturn, 1) := by decide +kernel
theorem dJ0_charAt_5068e_16 : decode cJ0_charAt_5068e 16 = .ok (.aload_n 0, 1) := by decide +kernel
theorem dJ0_charAt_5068e_17 : decode cJ0_charAt_5068e 17 = .ok (.getfield 9, 3) := by decide +kernel
theorem dJ0_charAt_5068e_20 : decode cJ0_charAt_5068e 20 = .ok (.iload_n 1, 1) := by decide +kernel
theorem dJ0_charAt_5068e_21 : decode cJ0_charAt_5068e 21 = .ok (.invokestatic 498, 3) := by decide +kernel
theorem dJ0_charAt_5068e_24 : decode cJ0_charAt_5068e 24 = .ok (.ireturn, 1) := by decide +kernel
set_option maxRecDepth 20000 in
theorem ggJ0_charAt_5068e_J0_isLatin1_aae02 : GoodIn wsJ0_charAt_5068e wsJ0_isLatin1_aae02 := goodIn_r _ [6, 7, 8] (by decide +kernel) (by decide +kernel)
set_option maxRecDepth 20000 in
theorem gJ0_charAt_5068e_J0_isLatin1_aae02 : GoodIn wsJ0_charAt_5068e (wsV RJ0 492 RJ0 yJ0_isLatin1_aae02 wsJ0_isLatin1_aae02) := goodIn_app (goodIn_of _ (by decide +kernel)) ggJ0_charAt_5068e_J0_isLatin1_aae02
theorem wJ0_charAt_5068e_492 : CWV mJ0_charAt_5068e 492 mJ0_isLatin1_aae02 0 := ⟨gJ0_charAt_5068e_J0_isLatin1_aae02, ⟨_, rfl⟩, rfl, by decide +kernel, by decide +kernel, by decide +kernel⟩
set_option maxRecDepth 20000 in
theorem ggJ0_charAt_5068e_J1_charAt_3b067 : GoodIn wsJ0_charAt_5068e wsJ1_charAt_3b067 := goodIn_r _ [12, 13, 14, 5, 15, 16, 17, 18, 19, 20] (by decide +kernel) (by decide +kernel)
set_option maxRecDepth 20000 in
theorem gJ0_charAt_5068e_J1_charAt_3b067 : GoodIn wsJ0_charAt_5068e (va_wsS RJ0 495 yJ1_charAt_3b067 wsJ1_charAt_3b067) := goodIn_app (goodIn_of _ (by decide +kernel)) ggJ0_charAt_5068e_J1_charAt_3b067
theorem wJ0_charAt_5068e_495 : CWS mJ0_charAt_5068e 495 mJ1_charAt_3b067 2 := ⟨gJ0_charAt_5068e_J1_charAt_3b067, ⟨_, rfl⟩, by decide +kernel, by decide +kernel, by decide +kernel⟩
set_option maxRecDepth 20000 in
theorem ggJ0_charAt_5068e_J2_charAt_3b067 : GoodIn wsJ0_charAt_5068e wsJ2_charAt_3b067 := goodIn_r _ [24, 25, 26, 23, 27, 28, 29, 30, 31, 14, 5, 15, 16, 17, 18, 19, 20, 32, 33, 34, 35, 36, 37] (by decide +kernel) (by decide +kernel)
set_option maxRecDepth 20000 in
theorem gJ0_charAt_5068e_J2_charAt_3b067 : GoodIn wsJ0_charAt_5068e (va_wsS RJ0 498 yJ2_charAt_3b067 wsJ2_charAt_3b067) := goodIn_app (goodIn_of _ (by decide +kernel)) ggJ0_charAt_5068e_J2_charAt_3b067
theorem wJ0_charAt_5068e_498 : CWS mJ0_charAt_5068e 498 mJ2_charAt_3b067 2 := ⟨gJ0_charAt_5068e_J2_charAt_3b067, ⟨_, rfl⟩, by decide +kernel, by decide +kernel, by decide +kernel⟩
/-- char k of word i -/
def sCh (i k : Nat) : Int32 := (sByt.getD i []).getD k 0
def sLn (i : Nat) : Nat := sLen.getD i 0
theorem sCh_ok : ∀ i, i < 5 → ∀ k, k < sLn i → ((sCh i k &&& 255).toUInt32 % 65536).toInt32 = sCh i k ∧ narrow .char (.int (sCh i k)) = .int (sCh i k) := by decide +kernel
theorem sLn_lt : ∀ i, i < 5 → sLn i ≤ 5 := by decide
section
variable {Γ : gT} {l : Launch} {as : List Nat} {h : aH} {i : Nat}
theorem c_coder (hi : i < 5) : Det Γ l mJ0_coder_7d493 rJ0_coder_7d493 [.ref (gX Γ (1010 + i))] as h (some (.int 0)) h := by
  refine Con.of (by decide +kernel) rfl rfl (Nat.le_of_ble_eq_true rfl) ?_
  refine q_gets dJ0_coder_7d493_0 (fun _ _ e => e.2.2.2.2.2.1) (by decide +kernel) ?_
  refine q_if_eq 13 dJ0_coder_7d493_3 (by decide) (fun z => absurd z ((by decide))) (fun _ => ?_)
  refine q_aload_n dJ0_coder_7d493_6 rfl rfl ?_
  refine q_getS dJ0_coder_7d493_7 (fun _ _ e => (e.2.2.2.2.2.2.1.1 i hi).2.1) (by decide +kernel) ?_
  refine q_goto 14 dJ0_coder_7d493_10 (by decide) ?_
  exact q_zret dJ0_coder_7d493_14 rfl (rfl) (Nat.zero_le _) (Nat.zero_le _) (⟨rfl, rfl, rfl⟩)
theorem c_slength (hi : i < 5) : Det Γ l mJ0_length_8abf5 rJ0_length_8abf5 [.ref (gX Γ (1010 + i))] as h (some (.int (nI (sLn i)))) h := by
  refine Con.of (by decide +kernel) rfl rfl (Nat.le_of_ble_eq_true rfl) ?_
  refine q_aload_n dJ0_length_8abf5_0 rfl rfl ?_
  refine q_getS dJ0_length_8abf5_1 (fun _ _ e => (e.2.2.2.2.2.2.1.1 i hi).2.2.1) (by decide +kernel) ?_
  refine q_tlenB dJ0_length_8abf5_4 (fun _ _ e => (e.2.2.2.2.2.2.1.1 i hi).2.2.2) rfl ?_
  refine q_aload_n dJ0_length_8abf5_5 rfl rfl ?_
  refine q_callW hi dJ0_length_8abf5_6 wJ0_length_8abf5_335 (c_coder hi) rfl rfl rfl (Nat.le_of_ble_eq_true rfl) ⟨⟨Nat.le_of_ble_eq_true rfl, Nat.le_of_ble_eq_true rfl⟩, Nat.le_of_ble_eq_true rfl, Nat.le_of_ble_eq_true rfl⟩ ?_
  refine q_ishr dJ0_length_8abf5_9 ?_
  exact q_iret dJ0_length_8abf5_10 rfl (Nat.zero_le _) (Nat.zero_le _) (⟨by rw [sb_shr0]; rfl, rfl, rfl⟩)
theorem c_isLatin1 (hi : i < 5) : Det Γ l mJ0_isLatin1_aae02 rJ0_isLatin1_aae02 [.ref (gX Γ (1010 + i))] as h (some (.int 1)) h := by
  refine Con.of (by decide +kernel) rfl rfl (Nat.le_of_ble_eq_true rfl) ?_
  refine q_gets dJ0_isLatin1_aae02_0 (fun _ _ e => e.2.2.2.2.2.1) (by decide +kernel) ?_
  refine q_if_eq 17 dJ0_isLatin1_aae02_3 (by decide) (fun z => absurd z ((by decide))) (fun _ => ?_)
  refine q_aload_n dJ0_isLatin1_aae02_6 rfl rfl ?_
  refine q_getS dJ0_isLatin1_aae02_7 (fun _ _ e => (e.2.2.2.2.2.2.1.1 i hi).2.1) (by decide +kernel) ?_
  refine q_if_ne 17 dJ0_isLatin1_aae02_10 (by decide) (fun z => absurd (rfl) z) (fun _ => ?_)
  refine q_iconst (v := 1) dJ0_isLatin1_aae02_13 rfl ?_
  refine q_goto 18 dJ0_isLatin1_aae02_14 (by decide) ?_
  exact q_zret dJ0_isLatin1_aae02_18 rfl (rfl) (Nat.zero_le _) (Nat.zero_le _) (⟨rfl, rfl, rfl⟩)
theorem c_check3n {k n : Nat} (hk : k < n) (hn : n < 2 ^ 31) : Det Γ l mJ3_checkIndex_8e157 rJ3_checkIndex_8e157 [.int (nI k), .int (nI n), .null] as h (some (.int (nI k))) h := by
  refine Con.of (by decide +kernel) rfl rfl (Nat.le_of_ble_eq_true rfl) ?_
  refine q_iload_n dJ3_checkIndex_8e157_0 rfl rfl ?_
  refine q_if_lt 9 dJ3_checkIndex_8e157_1 (by decide) (fun z => absurd z (nI_pos (by omega))) (fun _ => ?_)
  refine q_iload_n dJ3_checkIndex_8e157_4 rfl rfl ?_
  refine q_iload_n dJ3_checkIndex_8e157_5 rfl rfl ?_
  refine q_icmp_lt 16 dJ3_checkIndex_8e157_6 (by decide) (fun _ => ?_) (fun z => absurd (nI_lt hk hn) z)
  refine q_iload_n dJ3_checkIndex_8e157_16 rfl rfl ?_
  exact q_iret dJ3_checkIndex_8e157_17 rfl (Nat.zero_le _) (Nat.zero_le _) (⟨rfl, rfl, rfl⟩)
theorem c_check3r {k n t : Nat} (hk : k < n) (hn : n < 2 ^ 31) : Det Γ l mJ3_checkIndex_8e157 rJ3_checkIndex_8e157 [.int (nI k), .int (nI n), .ref t] as h (some (.int (nI k))) h := by
  refine Con.of (by decide +kernel) rfl rfl (Nat.le_of_ble_eq_true rfl) ?_
  refine q_iload_n dJ3_checkIndex_8e157_0 rfl rfl ?_
  refine q_if_lt 9 dJ3_checkIndex_8e157_1 (by decide) (fun z => absurd z (nI_pos (by omega))) (fun _ => ?_)
  refine q_iload_n dJ3_checkIndex_8e157_4 rfl rfl ?_
  refine q_iload_n dJ3_checkIndex_8e157_5 rfl rfl ?_
  refine q_icmp_lt 16 dJ3_checkIndex_8e157_6 (by decide) (fun _ => ?_) (fun z => absurd (nI_lt hk hn) z)
  refine q_iload_n dJ3_checkIndex_8e157_16 rfl rfl ?_
  exact q_iret dJ3_checkIndex_8e157_17 rfl (Nat.zero_le _) (Nat.zero_le _) (⟨rfl, rfl, rfl⟩)
theorem c_check0 {k n : Nat} (hk : k < n) (hn : n < 2 ^ 31) : Det Γ l mJ0_checkIndex_df160 rJ0_checkIndex_df160 [.int (nI k), .int (nI n)] as h none h := by
  refine Con.of (by decide +kernel) rfl rfl (Nat.le_of_ble_eq_true rfl) ?_
  refine q_iload_n dJ0_checkIndex_df160_0 rfl rfl ?_
  refine q_iload_n dJ0_checkIndex_df160_1 rfl rfl ?_
  refine q_getsZ dJ0_checkIndex_df160_2 (fun _ _ e => e.2.2.2.2.2.2.2.1) (by decide +kernel) ?_ (fun t => ?_)
  · refine q_callSd dJ0_checkIndex_df160_5 wJ0_checkIndex_df160_1059 (c_check3n hk hn) rfl rfl (Nat.le_of_ble_eq_true rfl) ⟨⟨Nat.le_of_ble_eq_true rfl, Nat.le_of_ble_eq_true rfl⟩, Nat.le_of_ble_eq_true rfl, Nat.le_of_ble_eq_true rfl⟩ ?_
    refine q_pop dJ0_checkIndex_df160_8 rfl ?_
    exact q_vret dJ0_checkIndex_df160_9 rfl (Nat.zero_le _) (Nat.zero_le _) ⟨rfl, rfl, rfl⟩
  · refine q_callSd dJ0_checkIndex_df160_5 wJ0_checkIndex_df160_1059 (c_check3r hk hn) rfl rfl (Nat.le_of_ble_eq_true rfl) ⟨⟨Nat.le_of_ble_eq_true rfl, Nat.le_of_ble_eq_true rfl⟩, Nat.le_of_ble_eq_true rfl, Nat.le_of_ble_eq_true rfl⟩ ?_
    refine q_pop dJ0_checkIndex_df160_8 rfl ?_
    exact q_vret dJ0_checkIndex_df160_9 rfl (Nat.zero_le _) (Nat.zero_le _) ⟨rfl, rfl, rfl⟩
theorem c_charAt1 {k : Nat} (hi : i < 5) (hk : k < sLn i) : Det Γ l mJ1_charAt_3b067 rJ1_charAt_3b067 [.ref (gX Γ (1020 + i)), .int (nI k)] as h (some (.int (sCh i k))) h := by
  have h5 := sLn_lt i hi
  refine Con.of (by decide +kernel) rfl rfl (Nat.le_of_ble_eq_true rfl) ?_
  refine q_iload_n dJ1_charAt_3b067_0 rfl rfl ?_
  refine q_aload_n dJ1_charAt_3b067_1 rfl rfl ?_
  refine q_tlenB (v := nI (sLn i)) dJ1_charAt_3b067_2 (fun _ _ e => (e.2.2.2.2.2.2.1.1 i hi).2.2.2) rfl ?_
  refine q_callSd dJ1_charAt_3b067_3 wJ1_charAt_3b067_9 (c_check0 hk (by omega)) rfl rfl (Nat.le_of_ble_eq_true rfl) ⟨⟨Nat.le_of_ble_eq_true rfl, Nat.le_of_ble_eq_true rfl⟩, Nat.le_of_ble_eq_true rfl, Nat.le_of_ble_eq_true rfl⟩ ?_
  refine q_aload_n dJ1_charAt_3b067_6 rfl rfl ?_
  refine q_iload_n dJ1_charAt_3b067_7 rfl rfl ?_
  refine q_tb (v := .int (sCh i k)) dJ1_charAt_3b067_8 (fun _ _ e => (e.2.2.2.2.2.2.1.1 i hi).2.2.2) (show vp_in (nI k) (sLn i) from in_nI hk (by omega)) (by rw [nI_clamp (by omega)]; rfl) ?_
  refine q_sipush (v := 255) dJ1_charAt_3b067_9 rfl ?_
  refine q_iand dJ1_charAt_3b067_12 ?_
  refine q_i2c dJ1_charAt_3b067_13 ?_
  rw [(sCh_ok i hi k hk).1]
  exact q_zret dJ1_charAt_3b067_14 rfl ((sCh_ok i hi k hk).2) (Nat.zero_le _) (Nat.zero_le _) (⟨rfl, rfl, rfl⟩)
theorem c_charAt {k : Nat} (hi : i < 5) (hk : k < sLn i) : Det Γ l mJ0_charAt_5068e rJ0_charAt_5068e [.ref (gX Γ (1010 + i)), .int (nI k)] as h (some (.int (sCh i k))) h := by
  refine Con.of (by decide +kernel) rfl rfl (Nat.le_of_ble_eq_true rfl) ?_
  refine q_aload_n dJ0_charAt_5068e_0 rfl rfl ?_
  refine q_callW hi dJ0_charAt_5068e_1 wJ0_charAt_5068e_492 (c_isLatin1 hi) rfl rfl rfl (Nat.le_of_ble_eq_true rfl) ⟨⟨Nat.le_of_ble_eq_true rfl, Nat.le_of_ble_eq_true rfl⟩, Nat.le_of_ble_eq_true rfl, Nat.le_of_ble_eq_true rfl⟩ ?_
  refine q_if_eq 16 dJ0_charAt_5068e_4 (by decide) (fun z => absurd z ((by decide))) (fun _ => ?_)
  refine q_aload_n dJ0_charAt_5068e_7 rfl rfl ?_
  refine q_getS dJ0_charAt_5068e_8 (fun _ _ e => (e.2.2.2.2.2.2.1.1 i hi).2.2.1) (by decide +kernel) ?_
  refine q_iload_n dJ0_charAt_5068e_11 rfl rfl ?_
  refine q_callSd dJ0_charAt_5068e_12 wJ0_charAt_5068e_495 (c_charAt1 hi hk) rfl rfl (Nat.le_of_ble_eq_true rfl) ⟨⟨Nat.le_of_ble_eq_true rfl, Nat.le_of_ble_eq_true rfl⟩, Nat.le_of_ble_eq_true rfl, Nat.le_of_ble_eq_true rfl⟩ ?_
  exact q_zret dJ0_charAt_5068e_15 rfl ((sCh_ok i hi k hk).2) (Nat.zero_le _) (Nat.zero_le _) (⟨rfl, rfl, rfl⟩)
end
end
section
/-! TEXT (X5): bytes and tokens -/
abbrev mX5_hasRoom : mT := (yX5_hasRoom, RX5, cX5_hasRoom, 2, (some .boolean), wsX5_hasRoom)
abbrev rX5_hasRoom : Room := { frames := 0, cells := 0, slots := 0, locals := 0 }
theorem dX5_hasRoom_0 : decode cX5_hasRoom 0 = .ok (.aload_n 0, 1) := by decide +kernel
theorem dX5_hasRoom_1 : decode cX5_hasRoom 1 = .ok (.getfield 15, 3) := by decide +kernel
theorem dX5_hasRoom_4 : decode cX5_hasRoom 4 = .ok (.iload_n 1, 1) := by decide +kernel
theorem dX5_hasRoom_5 : decode cX5_hasRoom 5 = .ok (.iadd, 1) := by decide +kernel
theorem dX5_hasRoom_6 : decode cX5_hasRoom 6 = .ok (.sipush 300, 3) := by decide +kernel
theorem dX5_hasRoom_9 : decode cX5_hasRoom 9 = .ok (.if_icmp .gt 7, 3) := by decide +kernel
theorem dX5_hasRoom_12 : decode cX5_hasRoom 12 = .ok (.iconst 1, 1) := by decide +kernel
theorem dX5_hasRoom_13 : decode cX5_hasRoom 13 = .ok (.goto 4, 3) := by decide +kernel
theorem dX5_hasRoom_16 : decode cX5_hasRoom 16 = .ok (.iconst 0, 1) := by decide +kernel
theorem dX5_hasRoom_17 : decode cX5_hasRoom 17 = .ok (.ireturn, 1) := by decide +kernel
theorem iX5_hasRoom_5 : ∀ w ∈ wsX50, w ∈ wsX5_hasRoom := fun w h => List.mem_cons_of_mem _ (List.mem_append_right _ h)
theorem fX5_hasRoom_15 : FL mX5_hasRoom 15 5 1 := ⟨_, _, _, rfl, by decide, iX5_hasRoom_5, by decide +kernel⟩
abbrev mX5_append : mT := (yX5_append, RX5, cX5_append, 2, none, wsX5_append)
abbrev rX5_append : Room := { frames := 1, cells := 0, slots := 0, locals := 21 }
theorem dX5_append_0 : decode cX5_append 0 = .ok (.aload_n 0, 1) := by decide +kernel
theorem dX5_append_1 : decode cX5_append 1 = .ok (.iconst 1, 1) := by decide +kernel
theorem dX5_append_2 : decode cX5_append 2 = .ok (.invokevirtual 19, 3) := by decide +kernel
theorem dX5_append_5 : decode cX5_append 5 = .ok (.ifCond .eq 23, 3) := by decide +kernel
theorem dX5_append_8 : decode cX5_append 8 = .ok (.aload_n 0, 1) := by decide +kernel
theorem dX5_append_9 : decode cX5_append 9 = .ok (.getfield 11, 3) := by decide +kernel
theorem dX5_append_12 : decode cX5_append 12 = .ok (.aload_n 0, 1) := by decide +kernel
theorem dX5_append_13 : decode cX5_append 13 = .ok (.getfield 15, 3) := by decide +kernel
theorem dX5_append_16 : decode cX5_append 16 = .ok (.iload_n 1, 1) := by decide +kernel
theorem dX5_append_17 : decode cX5_append 17 = .ok (.iastore, 1) := by decide +kernel
theorem dX5_append_18 : decode cX5_append 18 = .ok (.aload_n 0, 1) := by decide +kernel
theorem dX5_append_19 : decode cX5_append 19 = .ok (.dup, 1) := by decide +kernel
theorem dX5_append_20 : decode cX5_append 20 = .ok (.getfield 15, 3) := by decide +kernel
theorem dX5_append_23 : decode cX5_append 23 = .ok (.iconst 1, 1) := by decide +kernel
theorem dX5_append_24 : decode cX5_append 24 = .ok (.iadd, 1) := by decide +kernel
theorem dX5_append_25 : decode cX5_append 25 = .ok (.putfield 15, 3) := by decide +kernel
theorem dX5_append_28 : decode cX5_append 28 = .ok (.return_, 1) := by decide +kernel
theorem iX5_append_5 : ∀ w ∈ wsX50, w ∈ wsX5_append := fun w h => List.mem_cons_of_mem _ (List.mem_append_right _ h)
theorem fX5_append_11 : FL mX5_append 11 5 0 := ⟨_, _, _, rfl, by decide, iX5_append_5, by decide +kernel⟩
theorem fX5_append_15 : FL mX5_append 15 5 1 := ⟨_, _, _, rfl, by decide, iX5_append_5, by decide +kernel⟩
theorem pX5_append_15 : FP mX5_append 15 5 1 .int false := ⟨_, _, _, tyX5, rfl, by decide, iX5_append_5, by decide +kernel, tyX5_ok, nmX5, rfl, rfl, fun z => absurd z (by decide)⟩
set_option maxRecDepth 20000 in
theorem ggX5_append_X5_hasRoom : GoodIn wsX5_append wsX5_hasRoom := goodIn_r _ [7, 2, 8, 9, 10, 11, 12, 13] (by decide +kernel) (by decide +kernel)
set_option maxRecDepth 20000 in
theorem gX5_append_X5_hasRoom : GoodIn wsX5_append (wsV RX5 19 RX5 yX5_hasRoom wsX5_hasRoom) := goodIn_app (goodIn_of _ (by decide +kernel)) ggX5_append_X5_hasRoom
theorem wX5_append_19 : CWV mX5_append 19 mX5_hasRoom 1 := ⟨gX5_append_X5_hasRoom, ⟨_, rfl⟩, rfl, by decide +kernel, by decide +kernel, by decide +kernel⟩
abbrev mX5_isDigit : mT := (yX5_isDigit, RX5, cX5_isDigit, 1, (some .boolean), wsX5_isDigit)
abbrev rX5_isDigit : Room := { frames := 0, cells := 0, slots := 0, locals := 0 }
theorem dX5_isDigit_0 : decode cX5_isDigit 0 = .ok (.iload_n 0, 1) := by decide +kernel
theorem dX5_isDigit_1 : decode cX5_isDigit 1 = .ok (.bipush 48, 2) := by decide +kernel
theorem dX5_isDigit_3 : decode cX5_isDigit 3 = .ok (.if_icmp .lt 13, 3) := by decide +kernel
theorem dX5_isDigit_6 : decode cX5_isDigit 6 = .ok (.iload_n 0, 1) := by decide +kernel
theorem dX5_isDigit_7 : decode cX5_isDigit 7 = .ok (.bipush 57, 2) := by decide +kernel
theorem dX5_isDigit_9 : decode cX5_isDigit 9 = .ok (.if_icmp .gt 7, 3) := by decide +kernel
theorem dX5_isDigit_12 : decode cX5_isDigit 12 = .ok (.iconst 1, 1) := by decide +kernel
theorem dX5_isDigit_13 : decode cX5_isDigit 13 = .ok (.goto 4, 3) := by decide +kernel
theorem dX5_isDigit_16 : decode cX5_isDigit 16 = .ok (.iconst 0, 1) := by decide +kernel
theorem dX5_isDigit_17 : decode cX5_isDigit 17 = .ok (.ireturn, 1) := by decide +kernel
abbrev mX5_isLetter : mT := (yX5_isLetter, RX5, cX5_isLetter, 1, (some .boolean), wsX5_isLetter)
abbrev rX5_isLetter : Room := { frames := 0, cells := 0, slots := 0, locals := 0 }
theorem dX5_isLetter_0 : decode cX5_isLetter 0 = .ok (.iload_n 0, 1) := by decide +kernel
theorem dX5_isLetter_1 : decode cX5_isLetter 1 = .ok (.bipush 97, 2) := by decide +kernel
theorem dX5_isLetter_3 : decode cX5_isLetter 3 = .ok (.if_icmp .lt 13, 3) := by decide +kernel
theorem dX5_isLetter_6 : decode cX5_isLetter 6 = .ok (.iload_n 0, 1) := by decide +kernel
theorem dX5_isLetter_7 : decode cX5_isLetter 7 = .ok (.bipush 122, 2) := by decide +kernel
theorem dX5_isLetter_9 : decode cX5_isLetter 9 = .ok (.if_icmp .gt 7, 3) := by decide +kernel
theorem dX5_isLetter_12 : decode cX5_isLetter 12 = .ok (.iconst 1, 1) := by decide +kernel
theorem dX5_isLetter_13 : decode cX5_isLetter 13 = .ok (.goto 4, 3) := by decide +kernel
theorem dX5_isLetter_16 : decode cX5_isLetter 16 = .ok (.iconst 0, 1) := by decide +kernel
theorem dX5_isLetter_17 : decode cX5_isLetter 17 = .ok (.ireturn, 1) := by decide +kernel
abbrev mX5_numberToken : mT := (yX5_numberToken, RX5, cX5_numberToken, 2, (some .int), wsX5_numberToken)
abbrev rX5_numberToken : Room := { frames := 1, cells := 0, slots := 0, locals := 40 }
theorem dX5_numberToken_0 : decode cX5_numberToken 0 = .ok (.aload_n 0, 1) := by decide +kernel
theorem dX5_numberToken_1 : decode cX5_numberToken 1 = .ok (.iconst 0, 1) := by decide +kernel
theorem dX5_numberToken_2 : decode cX5_numberToken 2 = .ok (.putfield 50, 3) := by decide +kernel
theorem dX5_numberToken_5 : decode cX5_numberToken 5 = .ok (.aload_n 0, 1) := by decide +kernel
theorem dX5_numberToken_6 : decode cX5_numberToken 6 = .ok (.getfield 23, 3) := by decide +kernel
theorem dX5_numberToken_9 : decode cX5_numberToken 9 = .ok (.aload_n 0, 1) := by decide +kernel
theorem dX5_numberToken_10 : decode cX5_numberToken 10 = .ok (.getfield 15, 3) := by decide +kernel
theorem dX5_numberToken_13 : decode cX5_numberToken 13 = .ok (.if_icmp .ge 60, 3) := by decide +kernel
theorem dX5_numberToken_16 : decode cX5_numberToken 16 = .ok (.aload_n 0, 1) := by decide +kernel
theorem dX5_numberToken_17 : decode cX5_numberToken 17 = .ok (.getfield 11, 3) := by decide +kernel
theorem dX5_numberToken_20 : decode cX5_numberToken 20 = .ok (.aload_n 0, 1) := by decide +kernel
theorem dX5_numberToken_21 : decode cX5_numberToken 21 = .ok (.getfield 23, 3) := by decide +kernel
theorem dX5_numberToken_24 : decode cX5_numberToken 24 = .ok (.iaload, 1) := by decide +kernel
theorem dX5_numberToken_25 : decode cX5_numberToken 25 = .ok (.invokestatic 59, 3) := by decide +kernel
theorem dX5_numberToken_28 : decode cX5_numberToken 28 = .ok (.ifCond .eq 45, 3) := by decide +kernel
theorem dX5_numberToken_31 : decode cX5_numberToken 31 = .ok (.aload_n 0, 1) := by decide +kernel
theorem dX5_numberToken_32 : decode cX5_numberToken 32 = .ok (.bipush 100, 2) := by decide +kernel
theorem dX5_numberToken_34 : decode cX5_numberToken 34 = .ok (.aload_n 0, 1) := by decide +kernel
theorem dX5_numberToken_35 : decode cX5_numberToken 35 = .ok (.getfield 50, 3) := by decide +kernel
theorem dX5_numberToken_38 : decode cX5_numberToken 38 = .ok (.bipush 10, 2) := by decide +kernel
theorem dX5_numberToken_40 : decode cX5_numberToken 40 = .ok (.imul, 1) := by decide +kernel
theorem dX5_numberToken_41 : decode cX5_numberToken 41 = .ok (.aload_n 0, 1) := by decide +kernel
theorem dX5_numberToken_42 : decode cX5_numberToken 42 = .ok (.getfield 11, 3) := by decide +kernel
theorem dX5_numberToken_45 : decode cX5_numberToken 45 = .ok (.aload_n 0, 1) := by decide +kernel
theorem dX5_numberToken_46 : decode cX5_numberToken 46 = .ok (.getfield 23, 3) := by decide +kernel
theorem dX5_numberToken_49 : decode cX5_numberToken 49 = .ok (.iaload, 1) := by decide +kernel
theorem dX5_numberToken_50 : decode cX5_numberToken 50 = .ok (.iadd, 1) := by decide +kernel
theorem dX5_numberToken_51 : decode cX5_numberToken 51 = .ok (.bipush 48, 2) := by decide +kernel
theorem dX5_numberToken_53 : decode cX5_numberToken 53 = .ok (.isub, 1) := by decide +kernel
theorem dX5_numberToken_54 : decode cX5_numberToken 54 = .ok (.invokestatic 72, 3) := by decide +kernel
theorem dX5_numberToken_57 : decode cX5_numberToken 57 = .ok (.putfield 50, 3) := by decide +kernel
theorem dX5_numberToken_60 : decode cX5_numberToken 60 = .ok (.aload_n 0, 1) := by decide +kernel
theorem dX5_numberToken_61 : decode cX5_numberToken 61 = .ok (.dup, 1) := by decide +kernel
theorem dX5_numberToken_62 : decode cX5_numberToken 62 = .ok (.getfield 23, 3) := by decide +kernel
theorem dX5_numberToken_65 : decode cX5_numberToken 65 = .ok (.iconst 1, 1) := by decide +kernel
theorem dX5_numberToken_66 : decode cX5_numberToken 66 = .ok (.iadd, 1) := by decide +kernel
theorem dX5_numberToken_67 : decode cX5_numberToken 67 = .ok (.putfield 23, 3) := by decide +kernel
theorem dX5_numberToken_70 : decode cX5_numberToken 70 = .ok (.goto (-65), 3) := by decide +kernel
theorem dX5_numberToken_73 : decode cX5_numberToken 73 = .ok (.aload_n 0, 1) := by decide +kernel
theorem dX5_numberToken_74 : decode cX5_numberToken 74 = .ok (.getfield 11, 3) := by decide +kernel
theorem dX5_numberToken_77 : decode cX5_numberToken 77 = .ok (.aload_n 0, 1) := by decide +kernel
theorem dX5_numberToken_78 : decode cX5_numberToken 78 = .ok (.getfield 41, 3) := by decide +kernel
theorem dX5_numberToken_81 : decode cX5_numberToken 81 = .ok (.iaload, 1) := by decide +kernel
theorem dX5_numberToken_82 : decode cX5_numberToken 82 = .ok (.bipush 48, 2) := by decide +kernel
theorem dX5_numberToken_84 : decode cX5_numberToken 84 = .ok (.if_icmp .ne 20, 3) := by decide +kernel
theorem dX5_numberToken_87 : decode cX5_numberToken 87 = .ok (.aload_n 0, 1) := by decide +kernel
theorem dX5_numberToken_88 : decode cX5_numberToken 88 = .ok (.getfield 23, 3) := by decide +kernel
theorem dX5_numberToken_91 : decode cX5_numberToken 91 = .ok (.aload_n 0, 1) := by decide +kernel
theorem dX5_numberToken_92 : decode cX5_numberToken 92 = .ok (.getfield 41, 3) := by decide +kernel
theorem dX5_numberToken_95 : decode cX5_numberToken 95 = .ok (.isub, 1) := by decide +kernel
theorem dX5_numberToken_96 : decode cX5_numberToken 96 = .ok (.iconst 1, 1) := by decide +kernel
theorem dX5_numberToken_97 : decode cX5_numberToken 97 = .ok (.if_icmp .le 7, 3) := by decide +kernel
theorem dX5_numberToken_100 : decode cX5_numberToken 100 = .ok (.iconst 1, 1) := by decide +kernel
theorem dX5_numberToken_101 : decode cX5_numberToken 101 = .ok (.goto 4, 3) := by decide +kernel
theorem dX5_numberToken_104 : decode cX5_numberToken 104 = .ok (.iconst 0, 1) := by decide +kernel
theorem dX5_numberToken_105 : decode cX5_numberToken 105 = .ok (.istore_n 1, 1) := by decide +kernel
theorem dX5_numberToken_106 : decode cX5_numberToken 106 = .ok (.iload_n 1, 1) := by decide +kernel
theorem dX5_numberToken_107 : decode cX5_numberToken 107 = .ok (.ifCond .ne 12, 3) := by decide +kernel
theorem dX5_numberToken_110 : decode cX5_numberToken 110 = .ok (.aload_n 0, 1) := by decide +kernel
theorem dX5_numberToken_111 : decode cX5_numberToken 111 = .ok (.getfield 50, 3) := by decide +kernel
theorem dX5_numberToken_114 : decode cX5_numberToken 114 = .ok (.bipush 99, 2) := by decide +kernel
theorem dX5_numberToken_116 : decode cX5_numberToken 116 = .ok (.if_icmp .le 7, 3) := by decide +kernel
theorem dX5_numberToken_119 : decode cX5_numberToken 119 = .ok (.iconst 1, 1) := by decide +kernel
theorem dX5_numberToken_120 : decode cX5_numberToken 120 = .ok (.goto 4, 3) := by decide +kernel
theorem dX5_numberToken_123 : decode cX5_numberToken 123 = .ok (.iconst 2, 1) := by decide +kernel
theorem dX5_numberToken_124 : decode cX5_numberToken 124 = .ok (.ireturn, 1) := by decide +kernel
theorem iX5_numberToken_5 : ∀ w ∈ wsX50, w ∈ wsX5_numberToken := fun w h => List.mem_cons_of_mem _ (List.mem_append_right _ h)
theorem fX5_numberToken_11 : FL mX5_numberToken 11 5 0 := ⟨_, _, _, rfl, by decide, iX5_numberToken_5, by decide +kernel⟩
theorem fX5_numberToken_15 : FL mX5_numberToken 15 5 1 := ⟨_, _, _, rfl, by decide, iX5_numberToken_5, by decide +kernel⟩
theorem fX5_numberToken_23 : FL mX5_numberToken 23 5 2 := ⟨_, _, _, rfl, by decide, iX5_numberToken_5, by decide +kernel⟩
theorem pX5_numberToken_23 : FP mX5_numberToken 23 5 2 .int false := ⟨_, _, _, tyX5, rfl, by decide, iX5_numberToken_5, by decide +kernel, tyX5_ok, nmX5, rfl, rfl, fun z => absurd z (by decide)⟩
theorem fX5_numberToken_41 : FL mX5_numberToken 41 5 3 := ⟨_, _, _, rfl, by decide, iX5_numberToken_5, by decide +kernel⟩
theorem fX5_numberToken_50 : FL mX5_numberToken 50 5 5 := ⟨_, _, _, rfl, by decide, iX5_numberToken_5, by decide +kernel⟩
theorem pX5_numberToken_50 : FP mX5_numberToken 50 5 5 .int false := ⟨_, _, _, tyX5, rfl, by decide, iX5_numberToken_5, by decide +kernel, tyX5_ok, nmX5, rfl, rfl, fun z => absurd z (by decide)⟩
set_option maxRecDepth 20000 in
theorem ggX5_numberToken_X5_isDigit : GoodIn wsX5_numberToken wsX5_isDigit := goodIn_r _ [13] (by decide +kernel) (by decide +kernel)
set_option maxRecDepth 20000 in
theorem gX5_numberToken_X5_isDigit : GoodIn wsX5_numberToken (va_wsS RX5 59 yX5_isDigit wsX5_isDigit) := goodIn_app (goodIn_of _ (by decide +kernel)) ggX5_numberToken_X5_isDigit
theorem wX5_numberToken_59 : CWS mX5_numberToken 59 mX5_isDigit 1 := ⟨gX5_numberToken_X5_isDigit, ⟨_, rfl⟩, by decide +kernel, by decide +kernel, by decide +kernel⟩
abbrev mX5_wordIs : mT := (yX5_wordIs, RX5, cX5_wordIs, 3, (some .boolean), wsX5_wordIs)
abbrev rX5_wordIs : Room := { frames := 6, cells := 0, slots := 0, locals := 146 }
theorem dX5_wordIs_0 : decode cX5_wordIs 0 = .ok (.aload_n 0, 1) := by decide +kernel
theorem dX5_wordIs_1 : decode cX5_wordIs 1 = .ok (.getfield 23, 3) := by decide +kernel
theorem dX5_wordIs_4 : decode cX5_wordIs 4 = .ok (.aload_n 0, 1) := by decide +kernel
theorem dX5_wordIs_5 : decode cX5_wordIs 5 = .ok (.getfield 41, 3) := by decide +kernel
theorem dX5_wordIs_8 : decode cX5_wordIs 8 = .ok (.isub, 1) := by decide +kernel
theorem dX5_wordIs_9 : decode cX5_wordIs 9 = .ok (.aload_n 1, 1) := by decide +kernel
theorem dX5_wordIs_10 : decode cX5_wordIs 10 = .ok (.invokevirtual 92, 3) := by decide +kernel
theorem dX5_wordIs_13 : decode cX5_wordIs 13 = .ok (.if_icmp .eq 5, 3) := by decide +kernel
theorem dX5_wordIs_16 : decode cX5_wordIs 16 = .ok (.iconst 0, 1) := by decide +kernel
theorem dX5_wordIs_17 : decode cX5_wordIs 17 = .ok (.ireturn, 1) := by decide +kernel
theorem dX5_wordIs_18 : decode cX5_wordIs 18 = .ok (.iconst 0, 1) := by decide +kernel
theorem dX5_wordIs_19 : decode cX5_wordIs 19 = .ok (.istore_n 2, 1) := by decide +kernel
theorem dX5_wordIs_20 : decode cX5_wordIs 20 = .ok (.iload_n 2, 1) := by decide +kernel
theorem dX5_wordIs_21 : decode cX5_wordIs 21 = .ok (.aload_n 1, 1) := by decide +kernel
theorem dX5_wordIs_22 : decode cX5_wordIs 22 = .ok (.invokevirtual 92, 3) := by decide +kernel
theorem dX5_wordIs_25 : decode cX5_wordIs 25 = .ok (.if_icmp .ge 30, 3) := by decide +kernel
theorem dX5_wordIs_28 : decode cX5_wordIs 28 = .ok (.aload_n 0, 1) := by decide +kernel
theorem dX5_wordIs_29 : decode cX5_wordIs 29 = .ok (.getfield 11, 3) := by decide +kernel
theorem dX5_wordIs_32 : decode cX5_wordIs 32 = .ok (.aload_n 0, 1) := by decide +kernel
theorem dX5_wordIs_33 : decode cX5_wordIs 33 = .ok (.getfield 41, 3) := by decide +kernel
theorem dX5_wordIs_36 : decode cX5_wordIs 36 = .ok (.iload_n 2, 1) := by decide +kernel
theorem dX5_wordIs_37 : decode cX5_wordIs 37 = .ok (.iadd, 1) := by decide +kernel
theorem dX5_wordIs_38 : decode cX5_wordIs 38 = .ok (.iaload, 1) := by decide +kernel
theorem dX5_wordIs_39 : decode cX5_wordIs 39 = .ok (.aload_n 1, 1) := by decide +kernel
theorem dX5_wordIs_40 : decode cX5_wordIs 40 = .ok (.iload_n 2, 1) := by decide +kernel
theorem dX5_wordIs_41 : decode cX5_wordIs 41 = .ok (.invokevirtual 96, 3) := by decide +kernel
theorem dX5_wordIs_44 : decode cX5_wordIs 44 = .ok (.if_icmp .eq 5, 3) := by decide +kernel
theorem dX5_wordIs_47 : decode cX5_wordIs 47 = .ok (.iconst 0, 1) := by decide +kernel
theorem dX5_wordIs_48 : decode cX5_wordIs 48 = .ok (.ireturn, 1) := by decide +kernel
theorem dX5_wordIs_49 : decode cX5_wordIs 49 = .ok (.iinc 2 1, 3) := by decide +kernel
theorem dX5_wordIs_52 : decode cX5_wordIs 52 = .ok (.goto (-32), 3) := by decide +kernel
theorem dX5_wordIs_55 : decode cX5_wordIs 55 = .ok (.iconst 1, 1) := by decide +kernel
theorem dX5_wordIs_56 : decode cX5_wordIs 56 = .ok (.ireturn, 1) := by decide +kernel
theorem iX5_wordIs_5 : ∀ w ∈ wsX50, w ∈ wsX5_wordIs := fun w h => List.mem_cons_of_mem _ (List.mem_append_right _ h)
theorem fX5_wordIs_11 : FL mX5_wordIs 11 5 0 := ⟨_, _, _, rfl, by decide, iX5_wordIs_5, by decide +kernel⟩
theorem fX5_wordIs_23 : FL mX5_wordIs 23 5 2 := ⟨_, _, _, rfl, by decide, iX5_wordIs_5, by decide +kernel⟩
theorem fX5_wordIs_41 : FL mX5_wordIs 41 5 3 := ⟨_, _, _, rfl, by decide, iX5_wordIs_5, by decide +kernel⟩
set_option maxRecDepth 20000 in
theorem ggX5_wordIs_J0_length_8abf5 : GoodIn wsX5_wordIs wsJ0_length_8abf5 := goodIn_r _ [8, 9, 10, 11, 12, 7, 13, 14, 15] (by decide +kernel) (by decide +kernel)
set_option maxRecDepth 20000 in
theorem gX5_wordIs_J0_length_8abf5 : GoodIn wsX5_wordIs (wsV RX5 92 RJ0 yJ0_length_8abf5 wsJ0_length_8abf5) := goodIn_app (goodIn_of _ (by decide +kernel)) ggX5_wordIs_J0_length_8abf5
theorem wX5_wordIs_92 : CWV mX5_wordIs 92 mJ0_length_8abf5 0 := ⟨gX5_wordIs_J0_length_8abf5, ⟨_, rfl⟩, rfl, by decide +kernel, by decide +kernel, by decide +kernel⟩
set_option maxRecDepth 20000 in
theorem ggX5_wordIs_J0_charAt_5068e : GoodIn wsX5_wordIs wsJ0_charAt_5068e := goodIn_r _ [19, 9, 20, 21, 22, 7, 23, 14, 15, 24, 25, 26, 27, 28, 29, 30, 31, 32, 33, 34, 35, 36, 37, 38, 39, 40, 41, 42, 43, 44, 45, 46, 47, 48, 49, 50, 51, 52] (by decide +kernel) (by decide +kernel)
set_option maxRecDepth 20000 in
theorem gX5_wordIs_J0_charAt_5068e : GoodIn wsX5_wordIs (wsV RX5 96 RJ0 yJ0_charAt_5068e wsJ0_charAt_5068e) := goodIn_app (goodIn_of _ (by decide +kernel)) ggX5_wordIs_J0_charAt_5068e
theorem wX5_wordIs_96 : CWV mX5_wordIs 96 mJ0_charAt_5068e 1 := ⟨gX5_wordIs_J0_charAt_5068e, ⟨_, rfl⟩, rfl, by decide +kernel, by decide +kernel, by decide +kernel⟩
abbrev mX5_wordToken : mT := (yX5_wordToken, RX5, cX5_wordToken, 1, (some .int), wsX5_wordToken)
abbrev rX5_wordToken : Room := { frames := 7, cells := 0, slots := 0, locals := 168 }
theorem dX5_wordToken_0 : decode cX5_wordToken 0 = .ok (.aload_n 0, 1) := by decide +kernel
theorem dX5_wordToken_1 : decode cX5_wordToken 1 = .ok (.getfield 23, 3) := by decide +kernel
theorem dX5_wordToken_4 : decode cX5_wordToken 4 = .ok (.aload_n 0, 1) := by decide +kernel
theorem dX5_wordToken_5 : decode cX5_wordToken 5 = .ok (.getfield 15, 3) := by decide +kernel
theorem dX5_wordToken_8 : decode cX5_wordToken 8 = .ok (.if_icmp .ge 31, 3) := by decide +kernel
theorem dX5_wordToken_11 : decode cX5_wordToken 11 = .ok (.aload_n 0, 1) := by decide +kernel
theorem dX5_wordToken_12 : decode cX5_wordToken 12 = .ok (.getfield 11, 3) := by decide +kernel
theorem dX5_wordToken_15 : decode cX5_wordToken 15 = .ok (.aload_n 0, 1) := by decide +kernel
theorem dX5_wordToken_16 : decode cX5_wordToken 16 = .ok (.getfield 23, 3) := by decide +kernel
theorem dX5_wordToken_19 : decode cX5_wordToken 19 = .ok (.iaload, 1) := by decide +kernel
theorem dX5_wordToken_20 : decode cX5_wordToken 20 = .ok (.invokestatic 66, 3) := by decide +kernel
theorem dX5_wordToken_23 : decode cX5_wordToken 23 = .ok (.ifCond .eq 16, 3) := by decide +kernel
theorem dX5_wordToken_26 : decode cX5_wordToken 26 = .ok (.aload_n 0, 1) := by decide +kernel
theorem dX5_wordToken_27 : decode cX5_wordToken 27 = .ok (.dup, 1) := by decide +kernel
theorem dX5_wordToken_28 : decode cX5_wordToken 28 = .ok (.getfield 23, 3) := by decide +kernel
theorem dX5_wordToken_31 : decode cX5_wordToken 31 = .ok (.iconst 1, 1) := by decide +kernel
theorem dX5_wordToken_32 : decode cX5_wordToken 32 = .ok (.iadd, 1) := by decide +kernel
theorem dX5_wordToken_33 : decode cX5_wordToken 33 = .ok (.putfield 23, 3) := by decide +kernel
theorem dX5_wordToken_36 : decode cX5_wordToken 36 = .ok (.goto (-36), 3) := by decide +kernel
theorem dX5_wordToken_39 : decode cX5_wordToken 39 = .ok (.aload_n 0, 1) := by decide +kernel
theorem dX5_wordToken_40 : decode cX5_wordToken 40 = .ok (.ldc 78, 2) := by decide +kernel
theorem dX5_wordToken_42 : decode cX5_wordToken 42 = .ok (.invokevirtual 80, 3) := by decide +kernel
theorem dX5_wordToken_45 : decode cX5_wordToken 45 = .ok (.ifCond .eq 5, 3) := by decide +kernel
theorem dX5_wordToken_48 : decode cX5_wordToken 48 = .ok (.iconst 4, 1) := by decide +kernel
theorem dX5_wordToken_49 : decode cX5_wordToken 49 = .ok (.ireturn, 1) := by decide +kernel
theorem dX5_wordToken_50 : decode cX5_wordToken 50 = .ok (.aload_n 0, 1) := by decide +kernel
theorem dX5_wordToken_51 : decode cX5_wordToken 51 = .ok (.ldc 84, 2) := by decide +kernel
theorem dX5_wordToken_53 : decode cX5_wordToken 53 = .ok (.invokevirtual 80, 3) := by decide +kernel
theorem dX5_wordToken_56 : decode cX5_wordToken 56 = .ok (.ifCond .eq 5, 3) := by decide +kernel
theorem dX5_wordToken_59 : decode cX5_wordToken 59 = .ok (.iconst 5, 1) := by decide +kernel
theorem dX5_wordToken_60 : decode cX5_wordToken 60 = .ok (.ireturn, 1) := by decide +kernel
theorem dX5_wordToken_61 : decode cX5_wordToken 61 = .ok (.aload_n 0, 1) := by decide +kernel
theorem dX5_wordToken_62 : decode cX5_wordToken 62 = .ok (.ldc 86, 2) := by decide +kernel
theorem dX5_wordToken_64 : decode cX5_wordToken 64 = .ok (.invokevirtual 80, 3) := by decide +kernel
theorem dX5_wordToken_67 : decode cX5_wordToken 67 = .ok (.ifCond .eq 6, 3) := by decide +kernel
theorem dX5_wordToken_70 : decode cX5_wordToken 70 = .ok (.bipush 6, 2) := by decide +kernel
theorem dX5_wordToken_72 : decode cX5_wordToken 72 = .ok (.ireturn, 1) := by decide +kernel
theorem dX5_wordToken_73 : decode cX5_wordToken 73 = .ok (.aload_n 0, 1) := by decide +kernel
theorem dX5_wordToken_74 : decode cX5_wordToken 74 = .ok (.ldc 88, 2) := by decide +kernel
theorem dX5_wordToken_76 : decode cX5_wordToken 76 = .ok (.invokevirtual 80, 3) := by decide +kernel
theorem dX5_wordToken_79 : decode cX5_wordToken 79 = .ok (.ifCond .eq 6, 3) := by decide +kernel
theorem dX5_wordToken_82 : decode cX5_wordToken 82 = .ok (.bipush 7, 2) := by decide +kernel
theorem dX5_wordToken_84 : decode cX5_wordToken 84 = .ok (.ireturn, 1) := by decide +kernel
theorem dX5_wordToken_85 : decode cX5_wordToken 85 = .ok (.aload_n 0, 1) := by decide +kernel
theorem dX5_wordToken_86 : decode cX5_wordToken 86 = .ok (.ldc 90, 2) := by decide +kernel
theorem dX5_wordToken_88 : decode cX5_wordToken 88 = .ok (.invokevirtual 80, 3) := by decide +kernel
theorem dX5_wordToken_91 : decode cX5_wordToken 91 = .ok (.ifCond .eq 8, 3) := by decide +kernel
theorem dX5_wordToken_94 : decode cX5_wordToken 94 = .ok (.bipush 8, 2) := by decide +kernel
theorem dX5_wordToken_96 : decode cX5_wordToken 96 = .ok (.goto 4, 3) := by decide +kernel
theorem dX5_wordToken_99 : decode cX5_wordToken 99 = .ok (.iconst 1, 1) := by decide +kernel
theorem dX5_wordToken_100 : decode cX5_wordToken 100 = .ok (.ireturn, 1) := by decide +kernel
theorem iX5_wordToken_5 : ∀ w ∈ wsX50, w ∈ wsX5_wordToken := fun w h => List.mem_cons_of_mem _ (List.mem_append_right _ h)
theorem fX5_wordToken_11 : FL mX5_wordToken 11 5 0 := ⟨_, _, _, rfl, by decide, iX5_wordToken_5, by decide +kernel⟩
theorem fX5_wordToken_15 : FL mX5_wordToken 15 5 1 := ⟨_, _, _, rfl, by decide, iX5_wordToken_5, by decide +kernel⟩
theorem fX5_wordToken_23 : FL mX5_wordToken 23 5 2 := ⟨_, _, _, rfl, by decide, iX5_wordToken_5, by decide +kernel⟩
theorem pX5_wordToken_23 : FP mX5_wordToken 23 5 2 .int false := ⟨_, _, _, tyX5, rfl, by decide, iX5_wordToken_5, by decide +kernel, tyX5_ok, nmX5, rfl, rfl, fun z => absurd z (by decide)⟩
set_option maxRecDepth 20000 in
theorem ggX5_wordToken_X5_isLetter : GoodIn wsX5_wordToken wsX5_isLetter := goodIn_r _ [7] (by decide +kernel) (by decide +kernel)
set_option maxRecDepth 20000 in
theorem gX5_wordToken_X5_isLetter : GoodIn wsX5_wordToken (va_wsS RX5 66 yX5_isLetter wsX5_isLetter) := goodIn_app (goodIn_of _ (by decide +kernel)) ggX5_wordToken_X5_isLetter
theorem wX5_wordToken_66 : CWS mX5_wordToken 66 mX5_isLetter 1 := ⟨gX5_wordToken_X5_isLetter, ⟨_, rfl⟩, by decide +kernel, by decide +kernel, by decide +kernel⟩
set_option maxRecDepth 20000 in
theorem ggX5_wordToken_X5_wordIs : GoodIn wsX5_wordToken wsX5_wordIs := goodIn_r _ [11, 1, 12, 3, 13, 14, 15, 16, 17, 18, 19, 20, 21, 22, 23, 24, 25, 26, 27, 28, 29, 30, 31, 32, 33, 34, 35, 36, 37, 38, 39, 40, 41, 42, 43, 44, 45, 46, 47, 48, 49, 50, 51, 52, 53, 54, 55, 56, 57, 58, 59, 60, 61, 62, 63, 64, 65, 66, 67] (by decide +kernel) (by decide +kernel)
set_option maxRecDepth 20000 in
theorem gX5_wordToken_X5_wordIs : GoodIn wsX5_wordToken (wsV RX5 80 RX5 yX5_wordIs wsX5_wordIs) := goodIn_app (goodIn_of _ (by decide +kernel)) ggX5_wordToken_X5_wordIs
theorem wX5_wordToken_80 : CWV mX5_wordToken 80 mX5_wordIs 1 := ⟨gX5_wordToken_X5_wordIs, ⟨_, rfl⟩, rfl, by decide +kernel, by decide +kernel, by decide +kernel⟩
abbrev mX5_advance : mT := (yX5_advance, RX5, cX5_advance, 1, none, wsX5_advance)
abbrev rX5_advance : Room := { frames := 8, cells := 0, slots := 0, locals := 188 }
theorem dX5_advance_0 : decode cX5_advance 0 = .ok (.aload_n 0, 1) := by decide +kernel
theorem dX5_advance_1 : decode cX5_advance 1 = .ok (.getfield 23, 3) := by decide +kernel
theorem dX5_advance_4 : decode cX5_advance 4 = .ok (.aload_n 0, 1) := by decide +kernel
theorem dX5_advance_5 : decode cX5_advance 5 = .ok (.getfield 15, 3) := by decide +kernel
theorem dX5_advance_8 : decode cX5_advance 8 = .ok (.if_icmp .ge 30, 3) := by decide +kernel
theorem dX5_advance_11 : decode cX5_advance 11 = .ok (.aload_n 0, 1) := by decide +kernel
theorem dX5_advance_12 : decode cX5_advance 12 = .ok (.getfield 11, 3) := by decide +kernel
theorem dX5_advance_15 : decode cX5_advance 15 = .ok (.aload_n 0, 1) := by decide +kernel
theorem dX5_advance_16 : decode cX5_advance 16 = .ok (.getfield 23, 3) := by decide +kernel
theorem dX5_advance_19 : decode cX5_advance 19 = .ok (.iaload, 1) := by decide +kernel
theorem dX5_advance_20 : decode cX5_advance 20 = .ok (.bipush 32, 2) := by decide +kernel
theorem dX5_advance_22 : decode cX5_advance 22 = .ok (.if_icmp .ne 16, 3) := by decide +kernel
theorem dX5_advance_25 : decode cX5_advance 25 = .ok (.aload_n 0, 1) := by decide +kernel
theorem dX5_advance_26 : decode cX5_advance 26 = .ok (.dup, 1) := by decide +kernel
theorem dX5_advance_27 : decode cX5_advance 27 = .ok (.getfield 23, 3) := by decide +kernel
theorem dX5_advance_30 : decode cX5_advance 30 = .ok (.iconst 1, 1) := by decide +kernel
theorem dX5_advance_31 : decode cX5_advance 31 = .ok (.iadd, 1) := by decide +kernel
theorem dX5_advance_32 : decode cX5_advance 32 = .ok (.putfield 23, 3) := by decide +kernel
theorem dX5_advance_35 : decode cX5_advance 35 = .ok (.goto (-35), 3) := by decide +kernel
theorem dX5_advance_38 : decode cX5_advance 38 = .ok (.aload_n 0, 1) := by decide +kernel
theorem dX5_advance_39 : decode cX5_advance 39 = .ok (.aload_n 0, 1) := by decide +kernel
theorem dX5_advance_40 : decode cX5_advance 40 = .ok (.getfield 23, 3) := by decide +kernel
theorem dX5_advance_43 : decode cX5_advance 43 = .ok (.putfield 41, 3) := by decide +kernel
theorem dX5_advance_46 : decode cX5_advance 46 = .ok (.aload_n 0, 1) := by decide +kernel
theorem dX5_advance_47 : decode cX5_advance 47 = .ok (.getfield 23, 3) := by decide +kernel
theorem dX5_advance_50 : decode cX5_advance 50 = .ok (.aload_n 0, 1) := by decide +kernel
theorem dX5_advance_51 : decode cX5_advance 51 = .ok (.getfield 15, 3) := by decide +kernel
theorem dX5_advance_54 : decode cX5_advance 54 = .ok (.if_icmp .lt 11, 3) := by decide +kernel
theorem dX5_advance_57 : decode cX5_advance 57 = .ok (.aload_n 0, 1) := by decide +kernel
theorem dX5_advance_58 : decode cX5_advance 58 = .ok (.iconst 0, 1) := by decide +kernel
theorem dX5_advance_59 : decode cX5_advance 59 = .ok (.putfield 34, 3) := by decide +kernel
theorem dX5_advance_62 : decode cX5_advance 62 = .ok (.goto 92, 3) := by decide +kernel
theorem dX5_advance_65 : decode cX5_advance 65 = .ok (.aload_n 0, 1) := by decide +kernel
theorem dX5_advance_66 : decode cX5_advance 66 = .ok (.getfield 11, 3) := by decide +kernel
theorem dX5_advance_69 : decode cX5_advance 69 = .ok (.aload_n 0, 1) := by decide +kernel
theorem dX5_advance_70 : decode cX5_advance 70 = .ok (.getfield 23, 3) := by decide +kernel
theorem dX5_advance_73 : decode cX5_advance 73 = .ok (.iaload, 1) := by decide +kernel
theorem dX5_advance_74 : decode cX5_advance 74 = .ok (.bipush 59, 2) := by decide +kernel
theorem dX5_advance_76 : decode cX5_advance 76 = .ok (.if_icmp .ne 21, 3) := by decide +kernel
theorem dX5_advance_79 : decode cX5_advance 79 = .ok (.aload_n 0, 1) := by decide +kernel
theorem dX5_advance_80 : decode cX5_advance 80 = .ok (.dup, 1) := by decide +kernel
theorem dX5_advance_81 : decode cX5_advance 81 = .ok (.getfield 23, 3) := by decide +kernel
theorem dX5_advance_84 : decode cX5_advance 84 = .ok (.iconst 1, 1) := by decide +kernel
theorem dX5_advance_85 : decode cX5_advance 85 = .ok (.iadd, 1) := by decide +kernel
theorem dX5_advance_86 : decode cX5_advance 86 = .ok (.putfield 23, 3) := by decide +kernel
theorem dX5_advance_89 : decode cX5_advance 89 = .ok (.aload_n 0, 1) := by decide +kernel
theorem dX5_advance_90 : decode cX5_advance 90 = .ok (.iconst 3, 1) := by decide +kernel
theorem dX5_advance_91 : decode cX5_advance 91 = .ok (.putfield 34, 3) := by decide +kernel
theorem dX5_advance_94 : decode cX5_advance 94 = .ok (.goto 60, 3) := by decide +kernel
theorem dX5_advance_97 : decode cX5_advance 97 = .ok (.aload_n 0, 1) := by decide +kernel
theorem dX5_advance_98 : decode cX5_advance 98 = .ok (.getfield 11, 3) := by decide +kernel
theorem dX5_advance_101 : decode cX5_advance 101 = .ok (.aload_n 0, 1) := by decide +kernel
theorem dX5_advance_102 : decode cX5_advance 102 = .ok (.getfield 23, 3) := by decide +kernel
theorem dX5_advance_105 : decode cX5_advance 105 = .ok (.iaload, 1) := by decide +kernel
theorem dX5_advance_106 : decode cX5_advance 106 = .ok (.invokestatic 59, 3) := by decide +kernel
theorem dX5_advance_109 : decode cX5_advance 109 = .ok (.ifCond .eq 14, 3) := by decide +kernel
theorem dX5_advance_112 : decode cX5_advance 112 = .ok (.aload_n 0, 1) := by decide +kernel
theorem dX5_advance_113 : decode cX5_advance 113 = .ok (.aload_n 0, 1) := by decide +kernel
theorem dX5_advance_114 : decode cX5_advance 114 = .ok (.invokevirtual 62, 3) := by decide +kernel
theorem dX5_advance_117 : decode cX5_advance 117 = .ok (.putfield 34, 3) := by decide +kernel
theorem dX5_advance_120 : decode cX5_advance 120 = .ok (.goto 34, 3) := by decide +kernel
theorem dX5_advance_123 : decode cX5_advance 123 = .ok (.aload_n 0, 1) := by decide +kernel
theorem dX5_advance_124 : decode cX5_advance 124 = .ok (.getfield 11, 3) := by decide +kernel
theorem dX5_advance_127 : decode cX5_advance 127 = .ok (.aload_n 0, 1) := by decide +kernel
theorem dX5_advance_128 : decode cX5_advance 128 = .ok (.getfield 23, 3) := by decide +kernel
theorem dX5_advance_131 : decode cX5_advance 131 = .ok (.iaload, 1) := by decide +kernel
theorem dX5_advance_132 : decode cX5_advance 132 = .ok (.invokestatic 66, 3) := by decide +kernel
theorem dX5_advance_135 : decode cX5_advance 135 = .ok (.ifCond .eq 14, 3) := by decide +kernel
theorem dX5_advance_138 : decode cX5_advance 138 = .ok (.aload_n 0, 1) := by decide +kernel
theorem dX5_advance_139 : decode cX5_advance 139 = .ok (.aload_n 0, 1) := by decide +kernel
theorem dX5_advance_140 : decode cX5_advance 140 = .ok (.invokevirtual 69, 3) := by decide +kernel
theorem dX5_advance_143 : decode cX5_advance 143 = .ok (.putfield 34, 3) := by decide +kernel
theorem dX5_advance_146 : decode cX5_advance 146 = .ok (.goto 8, 3) := by decide +kernel
theorem dX5_advance_149 : decode cX5_advance 149 = .ok (.aload_n 0, 1) := by decide +kernel
theorem dX5_advance_150 : decode cX5_advance 150 = .ok (.iconst 1, 1) := by decide +kernel
theorem dX5_advance_151 : decode cX5_advance 151 = .ok (.putfield 34, 3) := by decide +kernel
theorem dX5_advance_154 : decode cX5_advance 154 = .ok (.return_, 1) := by decide +kernel
theorem iX5_advance_5 : ∀ w ∈ wsX50, w ∈ wsX5_advance := fun w h => List.mem_cons_of_mem _ (List.mem_append_right _ h)
theorem fX5_advance_11 : FL mX5_advance 11 5 0 := ⟨_, _, _, rfl, by decide, iX5_advance_5, by decide +kernel⟩
theorem fX5_advance_15 : FL mX5_advance 15 5 1 := ⟨_, _, _, rfl, by decide, iX5_advance_5, by decide +kernel⟩
theorem fX5_advance_23 : FL mX5_advance 23 5 2 := ⟨_, _, _, rfl, by decide, iX5_advance_5, by decide +kernel⟩
theorem pX5_advance_23 : FP mX5_advance 23 5 2 .int false := ⟨_, _, _, tyX5, rfl, by decide, iX5_advance_5, by decide +kernel, tyX5_ok, nmX5, rfl, rfl, fun z => absurd z (by decide)⟩
theorem pX5_advance_34 : FP mX5_advance 34 5 4 .int false := ⟨_, _, _, tyX5, rfl, by decide, iX5_advance_5, by decide +kernel, tyX5_ok, nmX5, rfl, rfl, fun z => absurd z (by decide)⟩
theorem pX5_advance_41 : FP mX5_advance 41 5 3 .int false := ⟨_, _, _, tyX5, rfl, by decide, iX5_advance_5, by decide +kernel, tyX5_ok, nmX5, rfl, rfl, fun z => absurd z (by decide)⟩
set_option maxRecDepth 20000 in
theorem ggX5_advance_X5_isDigit : GoodIn wsX5_advance wsX5_isDigit := goodIn_r _ [9] (by decide +kernel) (by decide +kernel)
set_option maxRecDepth 20000 in
theorem gX5_advance_X5_isDigit : GoodIn wsX5_advance (va_wsS RX5 59 yX5_isDigit wsX5_isDigit) := goodIn_app (goodIn_of _ (by decide +kernel)) ggX5_advance_X5_isDigit
theorem wX5_advance_59 : CWS mX5_advance 59 mX5_isDigit 1 := ⟨gX5_advance_X5_isDigit, ⟨_, rfl⟩, by decide +kernel, by decide +kernel, by decide +kernel⟩
set_option maxRecDepth 20000 in
theorem ggX5_advance_X5_numberToken : GoodIn wsX5_advance wsX5_numberToken := goodIn_r _ [13, 14, 1, 2, 3, 15, 16, 17, 18, 4, 6, 7, 8, 9, 79, 80, 81, 82, 83, 84] (by decide +kernel) (by decide +kernel)
set_option maxRecDepth 20000 in
theorem gX5_advance_X5_numberToken : GoodIn wsX5_advance (wsV RX5 62 RX5 yX5_numberToken wsX5_numberToken) := goodIn_app (goodIn_of _ (by decide +kernel)) ggX5_advance_X5_numberToken
theorem wX5_advance_62 : CWV mX5_advance 62 mX5_numberToken 0 := ⟨gX5_advance_X5_numberToken, ⟨_, rfl⟩, rfl, by decide +kernel, by decide +kernel, by decide +kernel⟩
set_option maxRecDepth 20000 in
theorem ggX5_advance_X5_isLetter : GoodIn wsX5_advance wsX5_isLetter := goodIn_r _ [21] (by decide +kernel) (by decide +kernel)
set_option maxRecDepth 20000 in
theorem gX5_advance_X5_isLetter : GoodIn wsX5_advance (va_wsS RX5 66 yX5_isLetter wsX5_isLetter) := goodIn_app (goodIn_of _ (by decide +kernel)) ggX5_advance_X5_isLetter
theorem wX5_advance_66 : CWS mX5_advance 66 mX5_isLetter 1 := ⟨gX5_advance_X5_isLetter, ⟨_, rfl⟩, by decide +kernel, by decide +kernel, by decide +kernel⟩
set_option maxRecDepth 20000 in
theorem ggX5_advance_X5_wordToken : GoodIn wsX5_advance wsX5_wordToken := goodIn_r _ [25, 1, 2, 3, 19, 20, 8, 21, 26, 27, 28, 29, 4, 30, 31, 32, 33, 34, 35, 36, 37, 38, 39, 40, 41, 42, 43, 44, 45, 46, 47, 48, 49, 50, 51, 52, 53, 54, 55, 56, 57, 58, 59, 60, 61, 62, 63, 64, 65, 66, 67, 68, 69, 70, 71, 72, 73, 74, 75, 76, 77, 78, 79, 80, 81, 82, 83, 84] (by decide +kernel) (by decide +kernel)
set_option maxRecDepth 20000 in
theorem gX5_advance_X5_wordToken : GoodIn wsX5_advance (wsV RX5 69 RX5 yX5_wordToken wsX5_wordToken) := goodIn_app (goodIn_of _ (by decide +kernel)) ggX5_advance_X5_wordToken
theorem wX5_advance_69 : CWV mX5_advance 69 mX5_wordToken 0 := ⟨gX5_advance_X5_wordToken, ⟨_, rfl⟩, rfl, by decide +kernel, by decide +kernel, by decide +kernel⟩
/-- the text's object: bytes, length, at, start, token, number -/
abbrev tq (b len a s k v : Nat) : va_E := ob 5 [.ref b, .int (nI len), .int (nI a), .int (nI s), .int (nI k), .int (nI v)]
def isBl (c : Nat) : Bool := c == 32
def isDg (c : Nat) : Bool := decide (48 ≤ c) && decide (c ≤ 57)
def isLt (c : Nat) : Bool := decide (97 ≤ c) && decide (c ≤ 122)
def skp (p : Nat → Bool) (t : Nat → Nat) (len : Nat) : Nat → Nat → Nat
  | 0, a => a
  | d + 1, a => if a < len ∧ p (t a) = true then skp p t len d (a + 1) else a
def numS (t : Nat → Nat) (len : Nat) : Nat → Nat → Nat → Nat × Nat
  | 0, a, v => (a, v)
  | d + 1, a, v => if a < len ∧ isDg (t a) = true then numS t len d (a + 1) (min 100 (v * 10 + (t a - 48))) else (a, v)
def sCN (i k : Nat) : Nat := (([[116, 97, 108, 101], [108, 111, 111, 107], [115, 111, 109, 101], [108, 105, 103, 104, 116], [104, 101, 97, 118, 121]] : List (List Nat)).getD i []).getD k 0
def weq (t : Nat → Nat) (s i : Nat) : Nat → Nat → Bool
  | 0, _ => true
  | d + 1, k => if t (s + k) = sCN i k then weq t s i d (k + 1) else false
def wIs (t : Nat → Nat) (s e i : Nat) : Bool := decide (e - s = sLn i) && weq t s i (sLn i) 0
def wTok (t : Nat → Nat) (s e : Nat) : Nat := if wIs t s e 0 then 4 else if wIs t s e 1 then 5 else if wIs t s e 2 then 6 else if wIs t s e 3 then 7 else if wIs t s e 4 then 8 else 1
/-- the next token: at, start, token, number -/
def advF (t : Nat → Nat) (len a v : Nat) : Nat × Nat × Nat × Nat :=
  if len ≤ skp isBl t len (len - a) a then (skp isBl t len (len - a) a, skp isBl t len (len - a) a, 0, v)
  else if t (skp isBl t len (len - a) a) = 59 then (skp isBl t len (len - a) a + 1, skp isBl t len (len - a) a, 3, v)
  else if isDg (t (skp isBl t len (len - a) a)) = true then ((numS t len (len - skp isBl t len (len - a) a) (skp isBl t len (len - a) a) 0).1, skp isBl t len (len - a) a, (if (t (skp isBl t len (len - a) a) = 48 ∧ 1 < (numS t len (len - skp isBl t len (len - a) a) (skp isBl t len (len - a) a) 0).1 - skp isBl t len (len - a) a) ∨ 99 < (numS t len (len - skp isBl t len (len - a) a) (skp isBl t len (len - a) a) 0).2 then 1 else 2), (numS t len (len - skp isBl t len (len - a) a) (skp isBl t len (len - a) a) 0).2)
  else if isLt (t (skp isBl t len (len - a) a)) = true then (skp isLt t len (len - skp isBl t len (len - a) a) (skp isBl t len (len - a) a), skp isBl t len (len - a) a, wTok t (skp isBl t len (len - a) a) (skp isLt t len (len - skp isBl t len (len - a) a) (skp isBl t len (len - a) a)), v)
  else (skp isBl t len (len - a) a, skp isBl t len (len - a) a, 1, v)
theorem skp_le {p : Nat → Bool} {t : Nat → Nat} {len : Nat} : ∀ d a, a ≤ len → a ≤ skp p t len d a ∧ skp p t len d a ≤ len := by
  intro d
  induction d with
  | zero => intro a h; exact ⟨Nat.le_refl _, h⟩
  | succ d ih =>
    intro a h
    simp only [skp]
    by_cases hc : a < len ∧ p (t a) = true
    · rw [if_pos hc]
      have := ih (a + 1) hc.1
      omega
    · rw [if_neg hc]
      omega
theorem numS_le {t : Nat → Nat} {len : Nat} : ∀ d a v, a ≤ len → v ≤ 100 → a ≤ (numS t len d a v).1 ∧ (numS t len d a v).1 ≤ len ∧ (numS t len d a v).2 ≤ 100 := by
  intro d
  induction d with
  | zero => intro a v h hv; exact ⟨Nat.le_refl _, h, hv⟩
  | succ d ih =>
    intro a v h hv
    simp only [numS]
    by_cases hc : a < len ∧ isDg (t a) = true
    · rw [if_pos hc]
      have := ih (a + 1) (min 100 (v * 10 + (t a - 48))) hc.1 (by omega)
      omega
    · rw [if_neg hc]
      omega
theorem sCN_ok : ∀ i, i < 5 → ∀ k, k < sLn i → sCh i k = nI (sCN i k) ∧ sCN i k < 256 := by decide +kernel
section
variable {Γ : gT} {l : Launch} {as : List Nat} {h : aH} {q b len a s k v : Nat} {bx : Nat → Int32} {t : Nat → Nat}
theorem c_hasRoom {n : Nat} (hq : hat as h q (tq b len a s k v)) (hl : len ≤ 300) (hn : n ≤ 8) : Det Γ l mX5_hasRoom rX5_hasRoom [.ref q, .int (nI n)] as h (some (.int (bI (decide (len + n ≤ 300))))) h := by
  refine Con.of (by decide +kernel) rfl rfl (Nat.le_of_ble_eq_true rfl) ?_
  refine q_aload_n dX5_hasRoom_0 rfl rfl ?_
  refine q_get dX5_hasRoom_1 fX5_hasRoom_15 (hq) rfl ?_
  refine q_iload_n dX5_hasRoom_4 rfl rfl ?_
  refine q_iadd dX5_hasRoom_5 ?_
  refine q_sipush (v := 300) dX5_hasRoom_6 rfl ?_
  rw [nI_add]
  refine q_icmp_gt 16 dX5_hasRoom_9 (by decide) (fun cA => ?_) (fun cA => ?_)
  · rw [show decide (len + n ≤ 300) = false from decide_eq_false (fun z => absurd cA (nI_nlt (b := len + n) (a := 300) z (by omega)))]
    refine q_iconst (v := 0) dX5_hasRoom_16 rfl ?_
    exact q_zret dX5_hasRoom_17 rfl (rfl) (Nat.zero_le _) (Nat.zero_le _) (⟨rfl, rfl, rfl⟩)
  · rw [show decide (len + n ≤ 300) = true from decide_eq_true (Nat.le_of_not_lt (fun z => cA (nI_lt (a := 300) z (by omega))))]
    refine q_iconst (v := 1) dX5_hasRoom_12 rfl ?_
    refine q_goto 17 dX5_hasRoom_13 (by decide) ?_
    exact q_zret dX5_hasRoom_17 rfl (rfl) (Nat.zero_le _) (Nat.zero_le _) (⟨rfl, rfl, rfl⟩)
theorem c_append {x : Int32} (hq : hat as h q (tq b len a s k v)) (hb : hat as h b (aI Γ 300 bx)) (hl : len < 300) : Det Γ l mX5_append rX5_append [.ref q, .int x] as h none (hset (hset h b (aI Γ 300 (upd bx len x))) q (tq b (len + 1) a s k v)) := by
  have e := hat_oa hq hb
  refine Con.of (by decide +kernel) rfl rfl (Nat.le_of_ble_eq_true rfl) ?_
  refine q_aload_n dX5_append_0 rfl rfl ?_
  refine q_iconst (v := 1) dX5_append_1 rfl ?_
  refine q_callVd dX5_append_2 wX5_append_19 (c_hasRoom (n := 1) hq (by omega) (by omega)) (hq) ⟨_, _, rfl⟩ rfl rfl (Nat.le_of_ble_eq_true rfl) ⟨⟨Nat.le_of_ble_eq_true rfl, Nat.le_of_ble_eq_true rfl⟩, Nat.le_of_ble_eq_true rfl, Nat.le_of_ble_eq_true rfl⟩ ?_
  rw [show decide (len + 1 ≤ 300) = true from decide_eq_true (by omega)]
  refine q_if_eq 28 dX5_append_5 (by decide) (fun z => absurd z ((by decide))) (fun _ => ?_)
  refine q_aload_n dX5_append_8 rfl rfl ?_
  refine q_get dX5_append_9 fX5_append_11 (hq) rfl ?_
  refine q_aload_n dX5_append_12 rfl rfl ?_
  refine q_get dX5_append_13 fX5_append_15 (hq) rfl ?_
  refine q_iload_n dX5_append_16 rfl rfl ?_
  refine q_iast dX5_append_17 (hb) (in_nI (show len < 300 by omega) (by omega)) ?_
  refine q_aload_n dX5_append_18 rfl rfl ?_
  refine q_dup dX5_append_19 rfl ?_
  refine q_get dX5_append_20 fX5_append_15 (hat_ne hq e) rfl ?_
  refine q_iconst (v := 1) dX5_append_23 rfl ?_
  refine q_iadd dX5_append_24 ?_
  refine q_put dX5_append_25 pX5_append_15 (hat_ne hq e) rfl rfl (Nat.le_of_ble_eq_true rfl) ?_
  exact q_vret dX5_append_28 rfl (Nat.zero_le _) (Nat.zero_le _) (⟨rfl, rfl, by rw [nI_clamp (by omega), nI_s]; rfl⟩)
theorem c_isDigit {c : Nat} (hc : c < 256) : Det Γ l mX5_isDigit rX5_isDigit [.int (nI c)] as h (some (.int (bI (isDg c)))) h := by
  refine Con.of (by decide +kernel) rfl rfl (Nat.le_of_ble_eq_true rfl) ?_
  refine q_iload_n dX5_isDigit_0 rfl rfl ?_
  refine q_bipush (v := 48) dX5_isDigit_1 rfl ?_
  refine q_icmp_lt 16 dX5_isDigit_3 (by decide) (fun cA => ?_) (fun cA => ?_)
  · rw [show isDg c = false by
        unfold isDg
        rw [Bool.and_eq_false_iff, decide_eq_false_iff_not, decide_eq_false_iff_not]
        first | exact Or.inr (fun z => absurd cB (nI_nlt (a := 57) z (by omega))) | exact Or.inl (fun z => absurd cA (nI_nlt (b := 48) z (by omega)))]
    refine q_iconst (v := 0) dX5_isDigit_16 rfl ?_
    exact q_zret dX5_isDigit_17 rfl (rfl) (Nat.zero_le _) (Nat.zero_le _) (⟨rfl, rfl, rfl⟩)
  · refine q_iload_n dX5_isDigit_6 rfl rfl ?_
    refine q_bipush (v := 57) dX5_isDigit_7 rfl ?_
    refine q_icmp_gt 16 dX5_isDigit_9 (by decide) (fun cB => ?_) (fun cB => ?_)
    · rw [show isDg c = false by
          unfold isDg
          rw [Bool.and_eq_false_iff, decide_eq_false_iff_not, decide_eq_false_iff_not]
          first | exact Or.inr (fun z => absurd cB (nI_nlt (a := 57) z (by omega))) | exact Or.inl (fun z => absurd cA (nI_nlt (b := 48) z (by omega)))]
      refine q_iconst (v := 0) dX5_isDigit_16 rfl ?_
      exact q_zret dX5_isDigit_17 rfl (rfl) (Nat.zero_le _) (Nat.zero_le _) (⟨rfl, rfl, rfl⟩)
    · rw [show isDg c = true by
          unfold isDg
          rw [Bool.and_eq_true, decide_eq_true_eq, decide_eq_true_eq]
          exact ⟨Nat.le_of_not_lt (fun z => cA (nI_lt (b := 48) z (by omega))), Nat.le_of_not_lt (fun z => cB (nI_lt (a := 57) z (by omega)))⟩]
      refine q_iconst (v := 1) dX5_isDigit_12 rfl ?_
      refine q_goto 17 dX5_isDigit_13 (by decide) ?_
      exact q_zret dX5_isDigit_17 rfl (rfl) (Nat.zero_le _) (Nat.zero_le _) (⟨rfl, rfl, rfl⟩)
theorem c_isLetter {c : Nat} (hc : c < 256) : Det Γ l mX5_isLetter rX5_isLetter [.int (nI c)] as h (some (.int (bI (isLt c)))) h := by
  refine Con.of (by decide +kernel) rfl rfl (Nat.le_of_ble_eq_true rfl) ?_
  refine q_iload_n dX5_isLetter_0 rfl rfl ?_
  refine q_bipush (v := 97) dX5_isLetter_1 rfl ?_
  refine q_icmp_lt 16 dX5_isLetter_3 (by decide) (fun cA => ?_) (fun cA => ?_)
  · rw [show isLt c = false by
        unfold isLt
        rw [Bool.and_eq_false_iff, decide_eq_false_iff_not, decide_eq_false_iff_not]
        first | exact Or.inr (fun z => absurd cB (nI_nlt (a := 122) z (by omega))) | exact Or.inl (fun z => absurd cA (nI_nlt (b := 97) z (by omega)))]
    refine q_iconst (v := 0) dX5_isLetter_16 rfl ?_
    exact q_zret dX5_isLetter_17 rfl (rfl) (Nat.zero_le _) (Nat.zero_le _) (⟨rfl, rfl, rfl⟩)
  · refine q_iload_n dX5_isLetter_6 rfl rfl ?_
    refine q_bipush (v := 122) dX5_isLetter_7 rfl ?_
    refine q_icmp_gt 16 dX5_isLetter_9 (by decide) (fun cB => ?_) (fun cB => ?_)
    · rw [show isLt c = false by
          unfold isLt
          rw [Bool.and_eq_false_iff, decide_eq_false_iff_not, decide_eq_false_iff_not]
          first | exact Or.inr (fun z => absurd cB (nI_nlt (a := 122) z (by omega))) | exact Or.inl (fun z => absurd cA (nI_nlt (b := 97) z (by omega)))]
      refine q_iconst (v := 0) dX5_isLetter_16 rfl ?_
      exact q_zret dX5_isLetter_17 rfl (rfl) (Nat.zero_le _) (Nat.zero_le _) (⟨rfl, rfl, rfl⟩)
    · rw [show isLt c = true by
          unfold isLt
          rw [Bool.and_eq_true, decide_eq_true_eq, decide_eq_true_eq]
          exact ⟨Nat.le_of_not_lt (fun z => cA (nI_lt (b := 97) z (by omega))), Nat.le_of_not_lt (fun z => cB (nI_lt (a := 122) z (by omega)))⟩]
      refine q_iconst (v := 1) dX5_isLetter_12 rfl ?_
      refine q_goto 17 dX5_isLetter_13 (by decide) ?_
      exact q_zret dX5_isLetter_17 rfl (rfl) (Nat.zero_le _) (Nat.zero_le _) (⟨rfl, rfl, rfl⟩)
theorem wordIs_loop {i : Nat} (hi : i < 5) (hq : hat as h q (tq b len a s k v)) (hb : hat as h b (aI Γ 300 bx)) (ht : ∀ j, j < len → bx j = nI (t j) ∧ t j < 256) (hl : len ≤ 300) (hs : s + sLn i ≤ len) {r0 : Bool} : ∀ (d j : Nat) (y : Int32) (ls : List (Nat × Value)), j + d = sLn i → r0 = weq t s i d j → y = nI j → lin ls [(0, .ref q), (1, .ref (gX Γ (1010 + i))), (2, .int y)] → V Γ l mX5_wordIs rX5_wordIs (Zm Γ rX5_wordIs (qD (some (.int (bI r0))) as h)) 0 0 20 ls [] as h := by
  have h5 := sLn_lt i hi
  intro d
  induction d with
  | zero =>
    intro j y ls hj hr hy hll
    subst hr hy
    refine V.at ?_ hll
    refine q_iload_n dX5_wordIs_20 rfl rfl ?_
    refine q_aload_n dX5_wordIs_21 rfl rfl ?_
    refine q_callW hi dX5_wordIs_22 wX5_wordIs_92 (c_slength hi) rfl rfl rfl (Nat.le_of_ble_eq_true rfl) ⟨⟨Nat.le_of_ble_eq_true rfl, Nat.le_of_ble_eq_true rfl⟩, Nat.le_of_ble_eq_true rfl, Nat.le_of_ble_eq_true rfl⟩ ?_
    refine q_icmp_ge 55 dX5_wordIs_25 (by decide) (fun _ => ?_) (fun z => absurd (nI_le (by omega) (by omega)) z)
    refine q_iconst (v := 1) dX5_wordIs_55 rfl ?_
    exact q_zret dX5_wordIs_56 rfl (rfl) (Nat.zero_le _) (Nat.zero_le _) (⟨rfl, rfl, rfl⟩)
  | succ d ih =>
    intro j y ls hj hr hy hll
    have hc := sCN_ok i hi j (by omega)
    have htj := ht (s + j) (by omega)
    subst hy
    refine V.at ?_ hll
    refine q_iload_n dX5_wordIs_20 rfl rfl ?_
    refine q_aload_n dX5_wordIs_21 rfl rfl ?_
    refine q_callW hi dX5_wordIs_22 wX5_wordIs_92 (c_slength hi) rfl rfl rfl (Nat.le_of_ble_eq_true rfl) ⟨⟨Nat.le_of_ble_eq_true rfl, Nat.le_of_ble_eq_true rfl⟩, Nat.le_of_ble_eq_true rfl, Nat.le_of_ble_eq_true rfl⟩ ?_
    refine q_icmp_ge 55 dX5_wordIs_25 (by decide) (fun z => absurd z (nI_ge (by omega) (by omega))) (fun _ => ?_)
    refine q_aload_n dX5_wordIs_28 rfl rfl ?_
    refine q_get dX5_wordIs_29 fX5_wordIs_11 (hq) rfl ?_
    refine q_aload_n dX5_wordIs_32 rfl rfl ?_
    refine q_get dX5_wordIs_33 fX5_wordIs_41 (hq) rfl ?_
    refine q_iload_n dX5_wordIs_36 rfl rfl ?_
    refine q_iadd dX5_wordIs_37 ?_
    rw [nI_add]
    refine q_iald dX5_wordIs_38 (hb) (in_nI (show s + j < 300 by omega) (by omega)) ?_
    refine q_aload_n dX5_wordIs_39 rfl rfl ?_
    refine q_iload_n dX5_wordIs_40 rfl rfl ?_
    rw [nI_clamp (by omega), htj.1]
    refine q_callW hi dX5_wordIs_41 wX5_wordIs_96 (c_charAt hi (show j < sLn i by omega)) rfl rfl rfl (Nat.le_of_ble_eq_true rfl) ⟨⟨Nat.le_of_ble_eq_true rfl, Nat.le_of_ble_eq_true rfl⟩, Nat.le_of_ble_eq_true rfl, Nat.le_of_ble_eq_true rfl⟩ ?_
    rw [hc.1]
    refine q_icmp_eq 49 dX5_wordIs_44 (by decide) (fun cE => ?_) (fun cE => ?_)
    · have e : t (s + j) = sCN i j := (nI_eq (by omega) (by omega)).mp cE
      refine q_iinc1 dX5_wordIs_49 rfl (by decide) ?_
      refine q_goto 20 dX5_wordIs_52 (by decide) ?_
      exact ih (j + 1) _ _ (by omega) (by rw [hr]; simp only [weq]; rw [if_pos e]) (nI_s j) ⟨rfl, rfl, rfl, trivial⟩
    · have e : ¬ t (s + j) = sCN i j := fun z => cE (by rw [z])
      rw [hr, show weq t s i (d + 1) j = false by simp only [weq]; rw [if_neg e]]
      refine q_iconst (v := 0) dX5_wordIs_47 rfl ?_
      exact q_zret dX5_wordIs_48 rfl (rfl) (Nat.zero_le _) (Nat.zero_le _) (⟨rfl, rfl, rfl⟩)
theorem c_wordIs {i : Nat} (hi : i < 5) (hq : hat as h q (tq b len a s k v)) (hb : hat as h b (aI Γ 300 bx)) (ht : ∀ j, j < len → bx j = nI (t j) ∧ t j < 256) (hl : len ≤ 300) (hs : s ≤ a) (ha : a ≤ len) : Det Γ l mX5_wordIs rX5_wordIs [.ref q, .ref (gX Γ (1010 + i))] as h (some (.int (bI (wIs t s a i)))) h := by
  have h5 := sLn_lt i hi
  refine Con.of (by decide +kernel) rfl rfl (Nat.le_of_ble_eq_true rfl) ?_
  refine q_aload_n dX5_wordIs_0 rfl rfl ?_
  refine q_get dX5_wordIs_1 fX5_wordIs_23 (hq) rfl ?_
  refine q_aload_n dX5_wordIs_4 rfl rfl ?_
  refine q_get dX5_wordIs_5 fX5_wordIs_41 (hq) rfl ?_
  refine q_isub dX5_wordIs_8 ?_
  refine q_aload_n dX5_wordIs_9 rfl rfl ?_
  rw [pk_sub hs]
  refine q_callW hi dX5_wordIs_10 wX5_wordIs_92 (c_slength hi) rfl rfl rfl (Nat.le_of_ble_eq_true rfl) ⟨⟨Nat.le_of_ble_eq_true rfl, Nat.le_of_ble_eq_true rfl⟩, Nat.le_of_ble_eq_true rfl, Nat.le_of_ble_eq_true rfl⟩ ?_
  refine q_icmp_eq 18 dX5_wordIs_13 (by decide) (fun cE => ?_) (fun cE => ?_)
  · have e : a - s = sLn i := (nI_eq (by omega) (by omega)).mp cE
    rw [show wIs t s a i = weq t s i (sLn i) 0 by unfold wIs; rw [decide_eq_true e, Bool.true_and]]
    refine q_iconst (v := 0) dX5_wordIs_18 rfl ?_
    refine q_istore_n dX5_wordIs_19 rfl (by decide) ?_
    exact wordIs_loop hi hq hb ht hl (by omega) (sLn i) 0 _ _ (by omega) rfl rfl ⟨rfl, rfl, rfl, trivial⟩
  · rw [show wIs t s a i = false by unfold wIs; rw [decide_eq_false (fun z => cE (by rw [z])), Bool.false_and]]
    refine q_iconst (v := 0) dX5_wordIs_16 rfl ?_
    exact q_zret dX5_wordIs_17 rfl (rfl) (Nat.zero_le _) (Nat.zero_le _) (⟨rfl, rfl, rfl⟩)
theorem c_wordToken (hq : hat as h q (tq b len a s k v)) (hb : hat as h b (aI Γ 300 bx)) (ht : ∀ j, j < len → bx j = nI (t j) ∧ t j < 256) (hl : len ≤ 300) (hs : s ≤ a) (ha : a ≤ len) : Det Γ l mX5_wordToken rX5_wordToken [.ref q] as h (some (.int (nI (wTok t s (skp isLt t len (len - a) a))))) (hset h q (tq b len (skp isLt t len (len - a) a) s k v)) := by
  have e := hat_oa hq hb
  refine Con.of (by decide +kernel) rfl rfl (Nat.le_of_ble_eq_true rfl) ?_
  have key : ∀ (d a' : Nat) (h' : aH), a' ≤ len → s ≤ a' → len - a' = d → skp isLt t len (len - a) a = skp isLt t len d a' → h' = hset h q (tq b len a' s k v) → V Γ l mX5_wordToken rX5_wordToken (Zm Γ rX5_wordToken (qD (some (.int (nI (wTok t s (skp isLt t len (len - a) a))))) as (hset h q (tq b len (skp isLt t len (len - a) a) s k v)))) 0 0 0 [(0, .ref q)] [] as h' := by
    have tail : ∀ a', s ≤ a' → a' ≤ len → V Γ l mX5_wordToken rX5_wordToken (Zm Γ rX5_wordToken (qD (some (.int (nI (wTok t s a')))) as (hset h q (tq b len a' s k v)))) 0 0 39 [(0, .ref q)] [] as (hset h q (tq b len a' s k v)) := by
      intro a' h1 h2
      refine q_aload_n dX5_wordToken_39 rfl rfl ?_
      refine q_ldcS (i := 0) (by decide) dX5_wordToken_40 rfl ?_
      refine q_callVd dX5_wordToken_42 wX5_wordToken_80 (c_wordIs (i := 0) (by decide) (hat_set hq) (hat_ne hb e.symm) ht hl h1 h2) (hat_set hq) ⟨_, _, rfl⟩ rfl rfl (Nat.le_of_ble_eq_true rfl) ⟨⟨Nat.le_of_ble_eq_true rfl, Nat.le_of_ble_eq_true rfl⟩, Nat.le_of_ble_eq_true rfl, Nat.le_of_ble_eq_true rfl⟩ ?_
      refine q_if_eq 50 dX5_wordToken_45 (by decide) (fun cA => ?_) (fun cA => ?_)
      · refine q_aload_n dX5_wordToken_50 rfl rfl ?_
        refine q_ldcS (i := 1) (by decide) dX5_wordToken_51 rfl ?_
        refine q_callVd dX5_wordToken_53 wX5_wordToken_80 (c_wordIs (i := 1) (by decide) (hat_set hq) (hat_ne hb e.symm) ht hl h1 h2) (hat_set hq) ⟨_, _, rfl⟩ rfl rfl (Nat.le_of_ble_eq_true rfl) ⟨⟨Nat.le_of_ble_eq_true rfl, Nat.le_of_ble_eq_true rfl⟩, Nat.le_of_ble_eq_true rfl, Nat.le_of_ble_eq_true rfl⟩ ?_
        refine q_if_eq 61 dX5_wordToken_56 (by decide) (fun cB => ?_) (fun cB => ?_)
        · refine q_aload_n dX5_wordToken_61 rfl rfl ?_
          refine q_ldcS (i := 2) (by decide) dX5_wordToken_62 rfl ?_
          refine q_callVd dX5_wordToken_64 wX5_wordToken_80 (c_wordIs (i := 2) (by decide) (hat_set hq) (hat_ne hb e.symm) ht hl h1 h2) (hat_set hq) ⟨_, _, rfl⟩ rfl rfl (Nat.le_of_ble_eq_true rfl) ⟨⟨Nat.le_of_ble_eq_true rfl, Nat.le_of_ble_eq_true rfl⟩, Nat.le_of_ble_eq_true rfl, Nat.le_of_ble_eq_true rfl⟩ ?_
          refine q_if_eq 73 dX5_wordToken_67 (by decide) (fun cC => ?_) (fun cC => ?_)
          · refine q_aload_n dX5_wordToken_73 rfl rfl ?_
            refine q_ldcS (i := 3) (by decide) dX5_wordToken_74 rfl ?_
            refine q_callVd dX5_wordToken_76 wX5_wordToken_80 (c_wordIs (i := 3) (by decide) (hat_set hq) (hat_ne hb e.symm) ht hl h1 h2) (hat_set hq) ⟨_, _, rfl⟩ rfl rfl (Nat.le_of_ble_eq_true rfl) ⟨⟨Nat.le_of_ble_eq_true rfl, Nat.le_of_ble_eq_true rfl⟩, Nat.le_of_ble_eq_true rfl, Nat.le_of_ble_eq_true rfl⟩ ?_
            refine q_if_eq 85 dX5_wordToken_79 (by decide) (fun cD => ?_) (fun cD => ?_)
            · refine q_aload_n dX5_wordToken_85 rfl rfl ?_
              refine q_ldcS (i := 4) (by decide) dX5_wordToken_86 rfl ?_
              refine q_callVd dX5_wordToken_88 wX5_wordToken_80 (c_wordIs (i := 4) (by decide) (hat_set hq) (hat_ne hb e.symm) ht hl h1 h2) (hat_set hq) ⟨_, _, rfl⟩ rfl rfl (Nat.le_of_ble_eq_true rfl) ⟨⟨Nat.le_of_ble_eq_true rfl, Nat.le_of_ble_eq_true rfl⟩, Nat.le_of_ble_eq_true rfl, Nat.le_of_ble_eq_true rfl⟩ ?_
              refine q_if_eq 99 dX5_wordToken_91 (by decide) (fun cE => ?_) (fun cE => ?_)
              · refine q_iconst (v := 1) dX5_wordToken_99 rfl ?_
                exact q_iret dX5_wordToken_100 rfl (Nat.zero_le _) (Nat.zero_le _) (⟨by unfold wTok; rw [if_neg (by rw [bI_0.mp cA]; decide), if_neg (by rw [bI_0.mp cB]; decide), if_neg (by rw [bI_0.mp cC]; decide), if_neg (by rw [bI_0.mp cD]; decide)]; first | (rw [if_neg (by rw [bI_0.mp cE]; decide)]; rfl) | (rw [if_pos (bI_n.mp cE)]; rfl), rfl, rfl⟩)
              · refine q_bipush (v := 8) dX5_wordToken_94 rfl ?_
                refine q_goto 100 dX5_wordToken_96 (by decide) ?_
                exact q_iret dX5_wordToken_100 rfl (Nat.zero_le _) (Nat.zero_le _) (⟨by unfold wTok; rw [if_neg (by rw [bI_0.mp cA]; decide), if_neg (by rw [bI_0.mp cB]; decide), if_neg (by rw [bI_0.mp cC]; decide), if_neg (by rw [bI_0.mp cD]; decide)]; first | (rw [if_neg (by rw [bI_0.mp cE]; decide)]; rfl) | (rw [if_pos (bI_n.mp cE)]; rfl), rfl, rfl⟩)
            · refine q_bipush (v := 7) dX5_wordToken_82 rfl ?_
              exact q_iret dX5_wordToken_84 rfl (Nat.zero_le _) (Nat.zero_le _) (⟨by unfold wTok; rw [if_neg (by rw [bI_0.mp cA]; decide), if_neg (by rw [bI_0.mp cB]; decide), if_neg (by rw [bI_0.mp cC]; decide), if_pos (bI_n.mp cD)]; rfl, rfl, rfl⟩)
          · refine q_bipush (v := 6) dX5_wordToken_70 rfl ?_
            exact q_iret dX5_wordToken_72 rfl (Nat.zero_le _) (Nat.zero_le _) (⟨by unfold wTok; rw [if_neg (by rw [bI_0.mp cA]; decide), if_neg (by rw [bI_0.mp cB]; decide), if_pos (bI_n.mp cC)]; rfl, rfl, rfl⟩)
        · refine q_iconst (v := 5) dX5_wordToken_59 rfl ?_
          exact q_iret dX5_wordToken_60 rfl (Nat.zero_le _) (Nat.zero_le _) (⟨by unfold wTok; rw [if_neg (by rw [bI_0.mp cA]; decide), if_pos (bI_n.mp cB)]; rfl, rfl, rfl⟩)
      · refine q_iconst (v := 4) dX5_wordToken_48 rfl ?_
        exact q_iret dX5_wordToken_49 rfl (Nat.zero_le _) (Nat.zero_le _) (⟨by unfold wTok; rw [if_pos (bI_n.mp cA)]; rfl, rfl, rfl⟩)
    intro d
    induction d with
    | zero =>
      intro a' h' h1 h2 h3 h4 hh
      subst hh
      refine q_aload_n dX5_wordToken_0 rfl rfl ?_
      refine q_get dX5_wordToken_1 fX5_wordToken_23 (hat_set hq) rfl ?_
      refine q_aload_n dX5_wordToken_4 rfl rfl ?_
      refine q_get dX5_wordToken_5 fX5_wordToken_15 (hat_set hq) rfl ?_
      refine q_icmp_ge 39 dX5_wordToken_8 (by decide) (fun _ => ?_) (fun z => absurd (nI_le (by omega) (by omega)) z)
      rw [h4]
      exact tail a' h2 h1
    | succ d ih =>
      intro a' h' h1 h2 h3 h4 hh
      subst hh
      have hta := ht a' (by omega)
      refine q_aload_n dX5_wordToken_0 rfl rfl ?_
      refine q_get dX5_wordToken_1 fX5_wordToken_23 (hat_set hq) rfl ?_
      refine q_aload_n dX5_wordToken_4 rfl rfl ?_
      refine q_get dX5_wordToken_5 fX5_wordToken_15 (hat_set hq) rfl ?_
      refine q_icmp_ge 39 dX5_wordToken_8 (by decide) (fun z => absurd z (nI_ge (by omega) (by omega))) (fun _ => ?_)
      refine q_aload_n dX5_wordToken_11 rfl rfl ?_
      refine q_get dX5_wordToken_12 fX5_wordToken_11 (hat_set hq) rfl ?_
      refine q_aload_n dX5_wordToken_15 rfl rfl ?_
      refine q_get dX5_wordToken_16 fX5_wordToken_23 (hat_set hq) rfl ?_
      refine q_iald dX5_wordToken_19 (hat_ne hb e.symm) (in_nI (show a' < 300 by omega) (by omega)) ?_
      rw [nI_clamp (by omega), hta.1]
      refine q_callSd dX5_wordToken_20 wX5_wordToken_66 (c_isLetter hta.2) rfl rfl (Nat.le_of_ble_eq_true rfl) ⟨⟨Nat.le_of_ble_eq_true rfl, Nat.le_of_ble_eq_true rfl⟩, Nat.le_of_ble_eq_true rfl, Nat.le_of_ble_eq_true rfl⟩ ?_
      refine q_if_eq 39 dX5_wordToken_23 (by decide) (fun cL => ?_) (fun cL => ?_)
      · rw [h4, show skp isLt t len (d + 1) a' = a' by simp only [skp]; rw [if_neg (by rw [bI_0.mp cL]; exact fun z => absurd z.2 (by decide))]]
        exact tail a' h2 h1
      · refine q_aload_n dX5_wordToken_26 rfl rfl ?_
        refine q_dup dX5_wordToken_27 rfl ?_
        refine q_get dX5_wordToken_28 fX5_wordToken_23 (hat_set hq) rfl ?_
        refine q_iconst (v := 1) dX5_wordToken_31 rfl ?_
        refine q_iadd dX5_wordToken_32 ?_
        refine q_put dX5_wordToken_33 pX5_wordToken_23 (hat_set hq) rfl rfl (Nat.le_of_ble_eq_true rfl) ?_
        refine q_goto 0 dX5_wordToken_36 (by decide) ?_
        exact ih (a' + 1) _ (by omega) (by omega) (by omega) (by rw [h4]; simp only [skp]; rw [if_pos ⟨by omega, bI_n.mp cL⟩]) (by rw [hset_hset, nI_s]; rfl)
  exact key (len - a) a h ha hs rfl rfl (by rw [hset_same]; exact hq.2)
end
end
section
/-! TEXT (X5): numbers, advance -/
section
variable {Γ : gT} {l : Launch} {as : List Nat} {h : aH} {q b len a s k v : Nat} {bx : Nat → Int32} {t : Nat → Nat}
theorem num_min {v c : Nat} (hv : v ≤ 100) (h1 : 48 ≤ c) (h2 : c ≤ 57) : (if nI v * 10 + nI c - 48 < 100 then nI v * 10 + nI c - 48 else 100) = nI (min 100 (v * 10 + (c - 48))) := by
  rw [show (10 : Int32) = nI 10 from rfl, pk_mul, nI_add, show (48 : Int32) = nI 48 from rfl, pk_sub (by omega), show v * 10 + c - 48 = v * 10 + (c - 48) by omega, show (100 : Int32) = nI 100 from rfl]
  by_cases hlt : v * 10 + (c - 48) < 100
  · rw [if_pos (nI_lt (b := 100) hlt (by omega)), Nat.min_eq_right (by omega)]
  · rw [if_neg (nI_nlt (b := 100) (Nat.le_of_not_lt hlt) (by omega)), Nat.min_eq_left (by omega)]
theorem isDg_in {c : Nat} (h : isDg c = true) : 48 ≤ c ∧ c ≤ 57 := by
  unfold isDg at h
  rwa [Bool.and_eq_true, decide_eq_true_eq, decide_eq_true_eq] at h
def numT (t : Nat → Nat) (s e v : Nat) : Nat := if (t s = 48 ∧ 1 < e - s) ∨ 99 < v then 1 else 2
theorem c_numberToken (hq : hat as h q (tq b len s s k v)) (hb : hat as h b (aI Γ 300 bx)) (ht : ∀ j, j < len → bx j = nI (t j) ∧ t j < 256) (hl : len ≤ 300) (hs : s < len) : Det Γ l mX5_numberToken rX5_numberToken [.ref q] as h (some (.int (nI (numT t s (numS t len (len - s) s 0).1 (numS t len (len - s) s 0).2)))) (hset h q (tq b len (numS t len (len - s) s 0).1 s k (numS t len (len - s) s 0).2)) := by
  have e := hat_oa hq hb
  have hts := ht s hs
  have key : ∀ (d a' v' : Nat) (h' : aH), a' ≤ len → s ≤ a' → v' ≤ 100 → len - a' = d → numS t len (len - s) s 0 = numS t len d a' v' → h' = hset h q (tq b len a' s k v') → V Γ l mX5_numberToken rX5_numberToken (Zm Γ rX5_numberToken (qD (some (.int (nI (numT t s (numS t len (len - s) s 0).1 (numS t len (len - s) s 0).2)))) as (hset h q (tq b len (numS t len (len - s) s 0).1 s k (numS t len (len - s) s 0).2)))) 0 0 5 [(0, .ref q)] [] as h' := by
    have tail : ∀ a' v', s ≤ a' → a' ≤ len → v' ≤ 100 → V Γ l mX5_numberToken rX5_numberToken (Zm Γ rX5_numberToken (qD (some (.int (nI (numT t s a' v')))) as (hset h q (tq b len a' s k v')))) 0 0 73 [(0, .ref q)] [] as (hset h q (tq b len a' s k v')) := by
      intro a' v' h1 h2 h3
      have fin : ∀ z : Int32, (z = 0 ∨ z = 1) → (z = 1 ↔ (t s = 48 ∧ 1 < a' - s)) → V Γ l mX5_numberToken rX5_numberToken (Zm Γ rX5_numberToken (qD (some (.int (nI (numT t s a' v')))) as (hset h q (tq b len a' s k v')))) 0 0 105 [(0, .ref q)] [.int z] as (hset h q (tq b len a' s k v')) := by
        intro z hz1 hz2
        refine q_istore_n dX5_numberToken_105 rfl (by decide) ?_
        refine q_iload_n dX5_numberToken_106 rfl rfl ?_
        refine q_if_ne 119 dX5_numberToken_107 (by decide) (fun cA => ?_) (fun cA => ?_)
        · rw [show numT t s a' v' = 1 by
                unfold numT
                refine if_pos ?_
                first | exact Or.inr (Nat.lt_of_not_le (fun w => cB (nI_le (b := 99) w (by omega)))) | exact Or.inl (hz2.mp (hz1.resolve_left cA))]
          refine q_iconst (v := 1) dX5_numberToken_119 rfl ?_
          refine q_goto 124 dX5_numberToken_120 (by decide) ?_
          exact q_iret dX5_numberToken_124 rfl (Nat.zero_le _) (Nat.zero_le _) (⟨rfl, rfl, rfl⟩)
        · refine q_aload_n dX5_numberToken_110 rfl rfl ?_
          refine q_get dX5_numberToken_111 fX5_numberToken_50 (hat_set hq) rfl ?_
          refine q_bipush (v := 99) dX5_numberToken_114 rfl ?_
          refine q_icmp_le 123 dX5_numberToken_116 (by decide) (fun cB => ?_) (fun cB => ?_)
          · rw [show numT t s a' v' = 2 by
                  unfold numT
                  refine if_neg ?_
                  rintro (w | w)
                  · exact absurd (hz2.mpr w) (by rw [cA]; decide)
                  · exact nI_ge (a := 99) w (by omega) cB]
            refine q_iconst (v := 2) dX5_numberToken_123 rfl ?_
            exact q_iret dX5_numberToken_124 rfl (Nat.zero_le _) (Nat.zero_le _) (⟨rfl, rfl, rfl⟩)
          · rw [show numT t s a' v' = 1 by
                  unfold numT
                  refine if_pos ?_
                  first | exact Or.inr (Nat.lt_of_not_le (fun w => cB (nI_le (b := 99) w (by omega)))) | exact Or.inl (hz2.mp (hz1.resolve_left cA))]
            refine q_iconst (v := 1) dX5_numberToken_119 rfl ?_
            refine q_goto 124 dX5_numberToken_120 (by decide) ?_
            exact q_iret dX5_numberToken_124 rfl (Nat.zero_le _) (Nat.zero_le _) (⟨rfl, rfl, rfl⟩)
      refine q_aload_n dX5_numberToken_73 rfl rfl ?_
      refine q_get dX5_numberToken_74 fX5_numberToken_11 (hat_set hq) rfl ?_
      refine q_aload_n dX5_numberToken_77 rfl rfl ?_
      refine q_get dX5_numberToken_78 fX5_numberToken_41 (hat_set hq) rfl ?_
      refine q_iald dX5_numberToken_81 (hat_ne hb e.symm) (in_nI (show s < 300 by omega) (by omega)) ?_
      refine q_bipush (v := 48) dX5_numberToken_82 rfl ?_
      rw [nI_clamp (by omega), hts.1]
      refine q_icmp_ne 104 dX5_numberToken_84 (by decide) (fun cA => ?_) (fun cA => ?_)
      · refine q_iconst (v := 0) dX5_numberToken_104 rfl ?_
        exact fin 0 (Or.inl rfl) ⟨fun w => absurd w (by decide), fun w => by
            first | exact absurd cB (nI_ge (a := 1) w.2 (by omega)) | exact absurd (by rw [w.1]; rfl) cA⟩
      · refine q_aload_n dX5_numberToken_87 rfl rfl ?_
        refine q_get dX5_numberToken_88 fX5_numberToken_23 (hat_set hq) rfl ?_
        refine q_aload_n dX5_numberToken_91 rfl rfl ?_
        refine q_get dX5_numberToken_92 fX5_numberToken_41 (hat_set hq) rfl ?_
        refine q_isub dX5_numberToken_95 ?_
        refine q_iconst (v := 1) dX5_numberToken_96 rfl ?_
        rw [pk_sub h1]
        refine q_icmp_le 104 dX5_numberToken_97 (by decide) (fun cB => ?_) (fun cB => ?_)
        · refine q_iconst (v := 0) dX5_numberToken_104 rfl ?_
          exact fin 0 (Or.inl rfl) ⟨fun w => absurd w (by decide), fun w => by
              first | exact absurd cB (nI_ge (a := 1) w.2 (by omega)) | exact absurd (by rw [w.1]; rfl) cA⟩
        · refine q_iconst (v := 1) dX5_numberToken_100 rfl ?_
          refine q_goto 105 dX5_numberToken_101 (by decide) ?_
          exact fin 1 (Or.inr rfl) ⟨fun _ => ⟨(nI_eq (b := 48) (by omega) (by omega)).mp cA, Nat.lt_of_not_le (fun w => cB (nI_le (b := 1) w (by omega)))⟩, fun _ => rfl⟩
    intro d
    induction d with
    | zero =>
      intro a' v' h' h1 h2 h5 h3 h4 hh
      subst hh
      refine q_aload_n dX5_numberToken_5 rfl rfl ?_
      refine q_get dX5_numberToken_6 fX5_numberToken_23 (hat_set hq) rfl ?_
      refine q_aload_n dX5_numberToken_9 rfl rfl ?_
      refine q_get dX5_numberToken_10 fX5_numberToken_15 (hat_set hq) rfl ?_
      refine q_icmp_ge 73 dX5_numberToken_13 (by decide) (fun _ => ?_) (fun z => absurd (nI_le (by omega) (by omega)) z)
      rw [h4]
      exact tail a' v' h2 h1 h5
    | succ d ih =>
      intro a' v' h' h1 h2 h5 h3 h4 hh
      subst hh
      have hta := ht a' (by omega)
      refine q_aload_n dX5_numberToken_5 rfl rfl ?_
      refine q_get dX5_numberToken_6 fX5_numberToken_23 (hat_set hq) rfl ?_
      refine q_aload_n dX5_numberToken_9 rfl rfl ?_
      refine q_get dX5_numberToken_10 fX5_numberToken_15 (hat_set hq) rfl ?_
      refine q_icmp_ge 73 dX5_numberToken_13 (by decide) (fun z => absurd z (nI_ge (by omega) (by omega))) (fun _ => ?_)
      refine q_aload_n dX5_numberToken_16 rfl rfl ?_
      refine q_get dX5_numberToken_17 fX5_numberToken_11 (hat_set hq) rfl ?_
      refine q_aload_n dX5_numberToken_20 rfl rfl ?_
      refine q_get dX5_numberToken_21 fX5_numberToken_23 (hat_set hq) rfl ?_
      refine q_iald dX5_numberToken_24 (hat_ne hb e.symm) (in_nI (show a' < 300 by omega) (by omega)) ?_
      rw [nI_clamp (by omega), hta.1]
      refine q_callSd dX5_numberToken_25 wX5_numberToken_59 (c_isDigit hta.2) rfl rfl (Nat.le_of_ble_eq_true rfl) ⟨⟨Nat.le_of_ble_eq_true rfl, Nat.le_of_ble_eq_true rfl⟩, Nat.le_of_ble_eq_true rfl, Nat.le_of_ble_eq_true rfl⟩ ?_
      refine q_if_eq 73 dX5_numberToken_28 (by decide) (fun cL => ?_) (fun cL => ?_)
      · rw [h4, show numS t len (d + 1) a' v' = (a', v') by simp only [numS]; rw [if_neg (by rw [bI_0.mp cL]; exact fun z => absurd z.2 (by decide))]]
        exact tail a' v' h2 h1 h5
      · have hdg := isDg_in (bI_n.mp cL)
        refine q_aload_n dX5_numberToken_31 rfl rfl ?_
        refine q_bipush (v := 100) dX5_numberToken_32 rfl ?_
        refine q_aload_n dX5_numberToken_34 rfl rfl ?_
        refine q_get dX5_numberToken_35 fX5_numberToken_50 (hat_set hq) rfl ?_
        refine q_bipush (v := 10) dX5_numberToken_38 rfl ?_
        refine q_imul dX5_numberToken_40 ?_
        refine q_aload_n dX5_numberToken_41 rfl rfl ?_
        refine q_get dX5_numberToken_42 fX5_numberToken_11 (hat_set hq) rfl ?_
        refine q_aload_n dX5_numberToken_45 rfl rfl ?_
        refine q_get dX5_numberToken_46 fX5_numberToken_23 (hat_set hq) rfl ?_
        refine q_iald dX5_numberToken_49 (hat_ne hb e.symm) (in_nI (show a' < 300 by omega) (by omega)) ?_
        refine q_iadd dX5_numberToken_50 ?_
        refine q_bipush (v := 48) dX5_numberToken_51 rfl ?_
        refine q_isub dX5_numberToken_53 ?_
        rw [nI_clamp (by omega), hta.1]
        refine q_mmin dX5_numberToken_54 (by decide +kernel) (Nat.le_of_ble_eq_true rfl) (Nat.le_of_ble_eq_true rfl) (Nat.zero_le _) (Nat.zero_le _) ?_
        rw [num_min h5 hdg.1 hdg.2]
        refine q_put dX5_numberToken_57 pX5_numberToken_50 (hat_set hq) rfl rfl (Nat.le_of_ble_eq_true rfl) ?_
        refine q_aload_n dX5_numberToken_60 rfl rfl ?_
        refine q_dup dX5_numberToken_61 rfl ?_
        refine q_get dX5_numberToken_62 fX5_numberToken_23 (hat_set (hat_set hq)) rfl ?_
        refine q_iconst (v := 1) dX5_numberToken_65 rfl ?_
        refine q_iadd dX5_numberToken_66 ?_
        refine q_put dX5_numberToken_67 pX5_numberToken_23 (hat_set (hat_set hq)) rfl rfl (Nat.le_of_ble_eq_true rfl) ?_
        refine q_goto 5 dX5_numberToken_70 (by decide) ?_
        exact ih (a' + 1) (min 100 (v' * 10 + (t a' - 48))) _ (by omega) (by omega) (by omega) (by omega) (by rw [h4]; simp only [numS]; rw [if_pos ⟨by omega, bI_n.mp cL⟩]) (by rw [hset_hset, hset_hset, nI_s]; rfl)
  refine Con.of (by decide +kernel) rfl rfl (Nat.le_of_ble_eq_true rfl) ?_
  refine q_aload_n dX5_numberToken_0 rfl rfl ?_
  refine q_iconst (v := 0) dX5_numberToken_1 rfl ?_
  refine q_put dX5_numberToken_2 pX5_numberToken_50 (hq) rfl rfl (Nat.le_of_ble_eq_true rfl) ?_
  exact key (len - s) s 0 _ (by omega) (Nat.le_refl _) (by omega) rfl rfl rfl
theorem c_advance (hq : hat as h q (tq b len a s k v)) (hb : hat as h b (aI Γ 300 bx)) (ht : ∀ j, j < len → bx j = nI (t j) ∧ t j < 256) (hl : len ≤ 300) (ha : a ≤ len) : Det Γ l mX5_advance rX5_advance [.ref q] as h none (hset h q (tq b len (advF t len a v).1 (advF t len a v).2.1 (advF t len a v).2.2.1 (advF t len a v).2.2.2)) := by
  have e := hat_oa hq hb
  have key : ∀ (d a' : Nat) (h' : aH), a' ≤ len → len - a' = d → skp isBl t len (len - a) a = skp isBl t len d a' → h' = hset h q (tq b len a' s k v) → V Γ l mX5_advance rX5_advance (Zm Γ rX5_advance (qD none as (hset h q (tq b len (advF t len a v).1 (advF t len a v).2.1 (advF t len a v).2.2.1 (advF t len a v).2.2.2)))) 0 0 0 [(0, .ref q)] [] as h' := by
    have tail : ∀ a', a' ≤ len → skp isBl t len (len - a) a = a' → V Γ l mX5_advance rX5_advance (Zm Γ rX5_advance (qD none as (hset h q (tq b len (advF t len a v).1 (advF t len a v).2.1 (advF t len a v).2.2.1 (advF t len a v).2.2.2)))) 0 0 38 [(0, .ref q)] [] as (hset h q (tq b len a' s k v)) := by
      intro a' h1 h2
      have hA : advF t len a v = if len ≤ a' then (a', a', 0, v) else if t a' = 59 then (a' + 1, a', 3, v) else if isDg (t a') = true then ((numS t len (len - a') a' 0).1, a', numT t a' (numS t len (len - a') a' 0).1 (numS t len (len - a') a' 0).2, (numS t len (len - a') a' 0).2) else if isLt (t a') = true then (skp isLt t len (len - a') a', a', wTok t a' (skp isLt t len (len - a') a'), v) else (a', a', 1, v) := by
        unfold advF numT
        rw [h2]
      refine q_aload_n dX5_advance_38 rfl rfl ?_
      refine q_aload_n dX5_advance_39 rfl rfl ?_
      refine q_get dX5_advance_40 fX5_advance_23 (hat_set hq) rfl ?_
      refine q_put dX5_advance_43 pX5_advance_41 (hat_set hq) rfl rfl (Nat.le_of_ble_eq_true rfl) ?_
      refine q_aload_n dX5_advance_46 rfl rfl ?_
      refine q_get dX5_advance_47 fX5_advance_23 (hat_set (hat_set hq)) rfl ?_
      refine q_aload_n dX5_advance_50 rfl rfl ?_
      refine q_get dX5_advance_51 fX5_advance_15 (hat_set (hat_set hq)) rfl ?_
      refine q_icmp_lt 65 dX5_advance_54 (by decide) (fun cA => ?_) (fun cA => ?_)
      · have hn : a' < len := (nI_ltI (by omega) (by omega)).mp cA
        have hta := ht a' hn
        refine q_aload_n dX5_advance_65 rfl rfl ?_
        refine q_get dX5_advance_66 fX5_advance_11 (hat_set (hat_set hq)) rfl ?_
        refine q_aload_n dX5_advance_69 rfl rfl ?_
        refine q_get dX5_advance_70 fX5_advance_23 (hat_set (hat_set hq)) rfl ?_
        refine q_iald dX5_advance_73 (hat_ne (hat_ne hb e.symm) e.symm) (in_nI (show a' < 300 by omega) (by omega)) ?_
        refine q_bipush (v := 59) dX5_advance_74 rfl ?_
        rw [nI_clamp (by omega), hta.1]
        refine q_icmp_ne 97 dX5_advance_76 (by decide) (fun cB => ?_) (fun cB => ?_)
        · have h59 : ¬ t a' = 59 := fun w => cB (by rw [w]; rfl)
          refine q_aload_n dX5_advance_97 rfl rfl ?_
          refine q_get dX5_advance_98 fX5_advance_11 (hat_set (hat_set hq)) rfl ?_
          refine q_aload_n dX5_advance_101 rfl rfl ?_
          refine q_get dX5_advance_102 fX5_advance_23 (hat_set (hat_set hq)) rfl ?_
          refine q_iald dX5_advance_105 (hat_ne (hat_ne hb e.symm) e.symm) (in_nI (show a' < 300 by omega) (by omega)) ?_
          rw [nI_clamp (by omega), hta.1]
          refine q_callSd dX5_advance_106 wX5_advance_59 (c_isDigit hta.2) rfl rfl (Nat.le_of_ble_eq_true rfl) ⟨⟨Nat.le_of_ble_eq_true rfl, Nat.le_of_ble_eq_true rfl⟩, Nat.le_of_ble_eq_true rfl, Nat.le_of_ble_eq_true rfl⟩ ?_
          refine q_if_eq 123 dX5_advance_109 (by decide) (fun cC => ?_) (fun cC => ?_)
          · refine q_aload_n dX5_advance_123 rfl rfl ?_
            refine q_get dX5_advance_124 fX5_advance_11 (hat_set (hat_set hq)) rfl ?_
            refine q_aload_n dX5_advance_127 rfl rfl ?_
            refine q_get dX5_advance_128 fX5_advance_23 (hat_set (hat_set hq)) rfl ?_
            refine q_iald dX5_advance_131 (hat_ne (hat_ne hb e.symm) e.symm) (in_nI (show a' < 300 by omega) (by omega)) ?_
            rw [nI_clamp (by omega), hta.1]
            refine q_callSd dX5_advance_132 wX5_advance_66 (c_isLetter hta.2) rfl rfl (Nat.le_of_ble_eq_true rfl) ⟨⟨Nat.le_of_ble_eq_true rfl, Nat.le_of_ble_eq_true rfl⟩, Nat.le_of_ble_eq_true rfl, Nat.le_of_ble_eq_true rfl⟩ ?_
            refine q_if_eq 149 dX5_advance_135 (by decide) (fun cD => ?_) (fun cD => ?_)
            · refine q_aload_n dX5_advance_149 rfl rfl ?_
              refine q_iconst (v := 1) dX5_advance_150 rfl ?_
              refine q_put dX5_advance_151 pX5_advance_34 (hat_set (hat_set hq)) rfl rfl (Nat.le_of_ble_eq_true rfl) ?_
              exact q_vret dX5_advance_154 rfl (Nat.zero_le _) (Nat.zero_le _) (⟨rfl, rfl, by rw [hA]; first | (rw [if_pos hn]; simp only [hset_hset]; rfl) | (rw [if_neg (by omega), if_pos h59]; simp only [hset_hset, nI_s]; rfl) | (rw [if_neg (by omega), if_neg h59, if_neg (by rw [bI_0.mp cC]; decide), if_neg (by rw [bI_0.mp cD]; decide)]; simp only [hset_hset]; rfl) | (rw [if_neg (by omega), if_neg h59, if_neg (by rw [bI_0.mp cC]; decide), if_pos (bI_n.mp cD)]; simp only [hset_hset]; rfl) | (rw [if_neg (by omega), if_neg h59, if_pos (bI_n.mp cC)]; simp only [hset_hset]; rfl)⟩)
            · refine q_aload_n dX5_advance_138 rfl rfl ?_
              refine q_aload_n dX5_advance_139 rfl rfl ?_
              refine q_callVd dX5_advance_140 wX5_advance_69 (c_wordToken (hat_set (hat_set hq)) (hat_ne (hat_ne hb e.symm) e.symm) ht hl (Nat.le_refl _) h1) (hat_set (hat_set hq)) ⟨_, _, rfl⟩ rfl rfl (Nat.le_of_ble_eq_true rfl) ⟨⟨Nat.le_of_ble_eq_true rfl, Nat.le_of_ble_eq_true rfl⟩, Nat.le_of_ble_eq_true rfl, Nat.le_of_ble_eq_true rfl⟩ ?_
              refine q_put dX5_advance_143 pX5_advance_34 (hat_set (hat_set (hat_set hq))) rfl rfl (Nat.le_of_ble_eq_true rfl) ?_
              refine q_goto 154 dX5_advance_146 (by decide) ?_
              exact q_vret dX5_advance_154 rfl (Nat.zero_le _) (Nat.zero_le _) (⟨rfl, rfl, by rw [hA]; first | (rw [if_pos hn]; simp only [hset_hset]; rfl) | (rw [if_neg (by omega), if_pos h59]; simp only [hset_hset, nI_s]; rfl) | (rw [if_neg (by omega), if_neg h59, if_neg (by rw [bI_0.mp cC]; decide), if_neg (by rw [bI_0.mp cD]; decide)]; simp only [hset_hset]; rfl) | (rw [if_neg (by omega), if_neg h59, if_neg (by rw [bI_0.mp cC]; decide), if_pos (bI_n.mp cD)]; simp only [hset_hset]; rfl) | (rw [if_neg (by omega), if_neg h59, if_pos (bI_n.mp cC)]; simp only [hset_hset]; rfl)⟩)
          · refine q_aload_n dX5_advance_112 rfl rfl ?_
            refine q_aload_n dX5_advance_113 rfl rfl ?_
            refine q_callVd dX5_advance_114 wX5_advance_62 (c_numberToken (hat_set (hat_set hq)) (hat_ne (hat_ne hb e.symm) e.symm) ht hl hn) (hat_set (hat_set hq)) ⟨_, _, rfl⟩ rfl rfl (Nat.le_of_ble_eq_true rfl) ⟨⟨Nat.le_of_ble_eq_true rfl, Nat.le_of_ble_eq_true rfl⟩, Nat.le_of_ble_eq_true rfl, Nat.le_of_ble_eq_true rfl⟩ ?_
            refine q_put dX5_advance_117 pX5_advance_34 (hat_set (hat_set (hat_set hq))) rfl rfl (Nat.le_of_ble_eq_true rfl) ?_
            refine q_goto 154 dX5_advance_120 (by decide) ?_
            exact q_vret dX5_advance_154 rfl (Nat.zero_le _) (Nat.zero_le _) (⟨rfl, rfl, by rw [hA]; first | (rw [if_pos hn]; simp only [hset_hset]; rfl) | (rw [if_neg (by omega), if_pos h59]; simp only [hset_hset, nI_s]; rfl) | (rw [if_neg (by omega), if_neg h59, if_neg (by rw [bI_0.mp cC]; decide), if_neg (by rw [bI_0.mp cD]; decide)]; simp only [hset_hset]; rfl) | (rw [if_neg (by omega), if_neg h59, if_neg (by rw [bI_0.mp cC]; decide), if_pos (bI_n.mp cD)]; simp only [hset_hset]; rfl) | (rw [if_neg (by omega), if_neg h59, if_pos (bI_n.mp cC)]; simp only [hset_hset]; rfl)⟩)
        · have h59 : t a' = 59 := (nI_eq (b := 59) (by omega) (by omega)).mp cB
          refine q_aload_n dX5_advance_79 rfl rfl ?_
          refine q_dup dX5_advance_80 rfl ?_
          refine q_get dX5_advance_81 fX5_advance_23 (hat_set (hat_set hq)) rfl ?_
          refine q_iconst (v := 1) dX5_advance_84 rfl ?_
          refine q_iadd dX5_advance_85 ?_
          refine q_put dX5_advance_86 pX5_advance_23 (hat_set (hat_set hq)) rfl rfl (Nat.le_of_ble_eq_true rfl) ?_
          refine q_aload_n dX5_advance_89 rfl rfl ?_
          refine q_iconst (v := 3) dX5_advance_90 rfl ?_
          refine q_put dX5_advance_91 pX5_advance_34 (hat_set (hat_set (hat_set hq))) rfl rfl (Nat.le_of_ble_eq_true rfl) ?_
          refine q_goto 154 dX5_advance_94 (by decide) ?_
          exact q_vret dX5_advance_154 rfl (Nat.zero_le _) (Nat.zero_le _) (⟨rfl, rfl, by rw [hA]; first | (rw [if_pos hn]; simp only [hset_hset]; rfl) | (rw [if_neg (by omega), if_pos h59]; simp only [hset_hset, nI_s]; rfl) | (rw [if_neg (by omega), if_neg h59, if_neg (by rw [bI_0.mp cC]; decide), if_neg (by rw [bI_0.mp cD]; decide)]; simp only [hset_hset]; rfl) | (rw [if_neg (by omega), if_neg h59, if_neg (by rw [bI_0.mp cC]; decide), if_pos (bI_n.mp cD)]; simp only [hset_hset]; rfl) | (rw [if_neg (by omega), if_neg h59, if_pos (bI_n.mp cC)]; simp only [hset_hset]; rfl)⟩)
      · have hn : len ≤ a' := Nat.le_of_not_lt (fun w => cA (nI_lt w (by omega)))
        refine q_aload_n dX5_advance_57 rfl rfl ?_
        refine q_iconst (v := 0) dX5_advance_58 rfl ?_
        refine q_put dX5_advance_59 pX5_advance_34 (hat_set (hat_set hq)) rfl rfl (Nat.le_of_ble_eq_true rfl) ?_
        refine q_goto 154 dX5_advance_62 (by decide) ?_
        exact q_vret dX5_advance_154 rfl (Nat.zero_le _) (Nat.zero_le _) (⟨rfl, rfl, by rw [hA]; first | (rw [if_pos hn]; simp only [hset_hset]; rfl) | (rw [if_neg (by omega), if_pos h59]; simp only [hset_hset, nI_s]; rfl) | (rw [if_neg (by omega), if_neg h59, if_neg (by rw [bI_0.mp cC]; decide), if_neg (by rw [bI_0.mp cD]; decide)]; simp only [hset_hset]; rfl) | (rw [if_neg (by omega), if_neg h59, if_neg (by rw [bI_0.mp cC]; decide), if_pos (bI_n.mp cD)]; simp only [hset_hset]; rfl) | (rw [if_neg (by omega), if_neg h59, if_pos (bI_n.mp cC)]; simp only [hset_hset]; rfl)⟩)
    intro d
    induction d with
    | zero =>
      intro a' h' h1 h3 h4 hh
      subst hh
      refine q_aload_n dX5_advance_0 rfl rfl ?_
      refine q_get dX5_advance_1 fX5_advance_23 (hat_set hq) rfl ?_
      refine q_aload_n dX5_advance_4 rfl rfl ?_
      refine q_get dX5_advance_5 fX5_advance_15 (hat_set hq) rfl ?_
      refine q_icmp_ge 38 dX5_advance_8 (by decide) (fun _ => ?_) (fun z => absurd (nI_le (by omega) (by omega)) z)
      exact tail a' h1 h4
    | succ d ih =>
      intro a' h' h1 h3 h4 hh
      subst hh
      have hta := ht a' (by omega)
      refine q_aload_n dX5_advance_0 rfl rfl ?_
      refine q_get dX5_advance_1 fX5_advance_23 (hat_set hq) rfl ?_
      refine q_aload_n dX5_advance_4 rfl rfl ?_
      refine q_get dX5_advance_5 fX5_advance_15 (hat_set hq) rfl ?_
      refine q_icmp_ge 38 dX5_advance_8 (by decide) (fun z => absurd z (nI_ge (by omega) (by omega))) (fun _ => ?_)
      refine q_aload_n dX5_advance_11 rfl rfl ?_
      refine q_get dX5_advance_12 fX5_advance_11 (hat_set hq) rfl ?_
      refine q_aload_n dX5_advance_15 rfl rfl ?_
      refine q_get dX5_advance_16 fX5_advance_23 (hat_set hq) rfl ?_
      refine q_iald dX5_advance_19 (hat_ne hb e.symm) (in_nI (show a' < 300 by omega) (by omega)) ?_
      refine q_bipush (v := 32) dX5_advance_20 rfl ?_
      rw [nI_clamp (by omega), hta.1]
      refine q_icmp_ne 38 dX5_advance_22 (by decide) (fun cL => ?_) (fun cL => ?_)
      · have hb : isBl (t a') = false := by unfold isBl; rw [beq_eq_false_iff_ne]; exact fun w => cL (by rw [w]; rfl)
        exact tail a' h1 (by rw [h4]; simp only [skp]; rw [if_neg (by rw [hb]; exact fun z => absurd z.2 (by decide))])
      · have hb : isBl (t a') = true := by unfold isBl; rw [beq_iff_eq]; exact (nI_eq (b := 32) (by omega) (by omega)).mp cL
        refine q_aload_n dX5_advance_25 rfl rfl ?_
        refine q_dup dX5_advance_26 rfl ?_
        refine q_get dX5_advance_27 fX5_advance_23 (hat_set hq) rfl ?_
        refine q_iconst (v := 1) dX5_advance_30 rfl ?_
        refine q_iadd dX5_advance_31 ?_
        refine q_put dX5_advance_32 pX5_advance_23 (hat_set hq) rfl rfl (Nat.le_of_ble_eq_true rfl) ?_
        refine q_goto 0 dX5_advance_35 (by decide) ?_
        exact ih (a' + 1) _ (by omega) (by omega) (by rw [h4]; simp only [skp]; rw [if_pos ⟨by omega, hb⟩]) (by rw [hset_hset, nI_s]; rfl)
  refine Con.of (by decide +kernel) rfl rfl (Nat.le_of_ble_eq_true rfl) ?_
  exact key (len - a) a h ha rfl rfl (by rw [hset_same]; exact hq.2)
end
end
section
/-! TEXT (X5): items and the town -/
abbrev mX5_readItem : mT := (yX5_readItem, RX5, cX5_readItem, 3, (some .boolean), wsX5_readItem)
abbrev rX5_readItem : Room := { frames := 9, cells := 0, slots := 0, locals := 208 }
theorem dX5_readItem_0 : decode cX5_readItem 0 = .ok (.aload_n 0, 1) := by decide +kernel
theorem dX5_readItem_1 : decode cX5_readItem 1 = .ok (.getfield 34, 3) := by decide +kernel
theorem dX5_readItem_4 : decode cX5_readItem 4 = .ok (.iconst 4, 1) := by decide +kernel
theorem dX5_readItem_5 : decode cX5_readItem 5 = .ok (.if_icmp .eq 22, 3) := by decide +kernel
theorem dX5_readItem_8 : decode cX5_readItem 8 = .ok (.aload_n 0, 1) := by decide +kernel
theorem dX5_readItem_9 : decode cX5_readItem 9 = .ok (.getfield 34, 3) := by decide +kernel
theorem dX5_readItem_12 : decode cX5_readItem 12 = .ok (.iconst 5, 1) := by decide +kernel
theorem dX5_readItem_13 : decode cX5_readItem 13 = .ok (.if_icmp .eq 14, 3) := by decide +kernel
theorem dX5_readItem_16 : decode cX5_readItem 16 = .ok (.aload_n 0, 1) := by decide +kernel
theorem dX5_readItem_17 : decode cX5_readItem 17 = .ok (.getfield 34, 3) := by decide +kernel
theorem dX5_readItem_20 : decode cX5_readItem 20 = .ok (.bipush 6, 2) := by decide +kernel
theorem dX5_readItem_22 : decode cX5_readItem 22 = .ok (.if_icmp .eq 5, 3) := by decide +kernel
theorem dX5_readItem_25 : decode cX5_readItem 25 = .ok (.iconst 0, 1) := by decide +kernel
theorem dX5_readItem_26 : decode cX5_readItem 26 = .ok (.ireturn, 1) := by decide +kernel
theorem dX5_readItem_27 : decode cX5_readItem 27 = .ok (.aload_n 1, 1) := by decide +kernel
theorem dX5_readItem_28 : decode cX5_readItem 28 = .ok (.getfield 44, 3) := by decide +kernel
theorem dX5_readItem_31 : decode cX5_readItem 31 = .ok (.iload_n 2, 1) := by decide +kernel
theorem dX5_readItem_32 : decode cX5_readItem 32 = .ok (.aload_n 0, 1) := by decide +kernel
theorem dX5_readItem_33 : decode cX5_readItem 33 = .ok (.getfield 34, 3) := by decide +kernel
theorem dX5_readItem_36 : decode cX5_readItem 36 = .ok (.iconst 4, 1) := by decide +kernel
theorem dX5_readItem_37 : decode cX5_readItem 37 = .ok (.isub, 1) := by decide +kernel
theorem dX5_readItem_38 : decode cX5_readItem 38 = .ok (.iastore, 1) := by decide +kernel
theorem dX5_readItem_39 : decode cX5_readItem 39 = .ok (.aload_n 1, 1) := by decide +kernel
theorem dX5_readItem_40 : decode cX5_readItem 40 = .ok (.getfield 47, 3) := by decide +kernel
theorem dX5_readItem_43 : decode cX5_readItem 43 = .ok (.iload_n 2, 1) := by decide +kernel
theorem dX5_readItem_44 : decode cX5_readItem 44 = .ok (.iconst 0, 1) := by decide +kernel
theorem dX5_readItem_45 : decode cX5_readItem 45 = .ok (.iastore, 1) := by decide +kernel
theorem dX5_readItem_46 : decode cX5_readItem 46 = .ok (.aload_n 0, 1) := by decide +kernel
theorem dX5_readItem_47 : decode cX5_readItem 47 = .ok (.invokevirtual 31, 3) := by decide +kernel
theorem dX5_readItem_50 : decode cX5_readItem 50 = .ok (.aload_n 1, 1) := by decide +kernel
theorem dX5_readItem_51 : decode cX5_readItem 51 = .ok (.getfield 44, 3) := by decide +kernel
theorem dX5_readItem_54 : decode cX5_readItem 54 = .ok (.iload_n 2, 1) := by decide +kernel
theorem dX5_readItem_55 : decode cX5_readItem 55 = .ok (.iaload, 1) := by decide +kernel
theorem dX5_readItem_56 : decode cX5_readItem 56 = .ok (.iconst 2, 1) := by decide +kernel
theorem dX5_readItem_57 : decode cX5_readItem 57 = .ok (.if_icmp .ne 36, 3) := by decide +kernel
theorem dX5_readItem_60 : decode cX5_readItem 60 = .ok (.aload_n 0, 1) := by decide +kernel
theorem dX5_readItem_61 : decode cX5_readItem 61 = .ok (.getfield 34, 3) := by decide +kernel
theorem dX5_readItem_64 : decode cX5_readItem 64 = .ok (.iconst 2, 1) := by decide +kernel
theorem dX5_readItem_65 : decode cX5_readItem 65 = .ok (.if_icmp .ne 12, 3) := by decide +kernel
theorem dX5_readItem_68 : decode cX5_readItem 68 = .ok (.aload_n 0, 1) := by decide +kernel
theorem dX5_readItem_69 : decode cX5_readItem 69 = .ok (.getfield 50, 3) := by decide +kernel
theorem dX5_readItem_72 : decode cX5_readItem 72 = .ok (.bipush 10, 2) := by decide +kernel
theorem dX5_readItem_74 : decode cX5_readItem 74 = .ok (.if_icmp .le 5, 3) := by decide +kernel
theorem dX5_readItem_77 : decode cX5_readItem 77 = .ok (.iconst 0, 1) := by decide +kernel
theorem dX5_readItem_78 : decode cX5_readItem 78 = .ok (.ireturn, 1) := by decide +kernel
theorem dX5_readItem_79 : decode cX5_readItem 79 = .ok (.aload_n 1, 1) := by decide +kernel
theorem dX5_readItem_80 : decode cX5_readItem 80 = .ok (.getfield 47, 3) := by decide +kernel
theorem dX5_readItem_83 : decode cX5_readItem 83 = .ok (.iload_n 2, 1) := by decide +kernel
theorem dX5_readItem_84 : decode cX5_readItem 84 = .ok (.aload_n 0, 1) := by decide +kernel
theorem dX5_readItem_85 : decode cX5_readItem 85 = .ok (.getfield 50, 3) := by decide +kernel
theorem dX5_readItem_88 : decode cX5_readItem 88 = .ok (.iastore, 1) := by decide +kernel
theorem dX5_readItem_89 : decode cX5_readItem 89 = .ok (.aload_n 0, 1) := by decide +kernel
theorem dX5_readItem_90 : decode cX5_readItem 90 = .ok (.invokevirtual 31, 3) := by decide +kernel
theorem dX5_readItem_93 : decode cX5_readItem 93 = .ok (.aload_n 0, 1) := by decide +kernel
theorem dX5_readItem_94 : decode cX5_readItem 94 = .ok (.getfield 34, 3) := by decide +kernel
theorem dX5_readItem_97 : decode cX5_readItem 97 = .ok (.bipush 7, 2) := by decide +kernel
theorem dX5_readItem_99 : decode cX5_readItem 99 = .ok (.if_icmp .eq 14, 3) := by decide +kernel
theorem dX5_readItem_102 : decode cX5_readItem 102 = .ok (.aload_n 0, 1) := by decide +kernel
theorem dX5_readItem_103 : decode cX5_readItem 103 = .ok (.getfield 34, 3) := by decide +kernel
theorem dX5_readItem_106 : decode cX5_readItem 106 = .ok (.bipush 8, 2) := by decide +kernel
theorem dX5_readItem_108 : decode cX5_readItem 108 = .ok (.if_icmp .eq 5, 3) := by decide +kernel
theorem dX5_readItem_111 : decode cX5_readItem 111 = .ok (.iconst 0, 1) := by decide +kernel
theorem dX5_readItem_112 : decode cX5_readItem 112 = .ok (.ireturn, 1) := by decide +kernel
theorem dX5_readItem_113 : decode cX5_readItem 113 = .ok (.aload_n 1, 1) := by decide +kernel
theorem dX5_readItem_114 : decode cX5_readItem 114 = .ok (.getfield 53, 3) := by decide +kernel
theorem dX5_readItem_117 : decode cX5_readItem 117 = .ok (.iload_n 2, 1) := by decide +kernel
theorem dX5_readItem_118 : decode cX5_readItem 118 = .ok (.aload_n 0, 1) := by decide +kernel
theorem dX5_readItem_119 : decode cX5_readItem 119 = .ok (.getfield 34, 3) := by decide +kernel
theorem dX5_readItem_122 : decode cX5_readItem 122 = .ok (.bipush 7, 2) := by decide +kernel
theorem dX5_readItem_124 : decode cX5_readItem 124 = .ok (.isub, 1) := by decide +kernel
theorem dX5_readItem_125 : decode cX5_readItem 125 = .ok (.iastore, 1) := by decide +kernel
theorem dX5_readItem_126 : decode cX5_readItem 126 = .ok (.aload_n 0, 1) := by decide +kernel
theorem dX5_readItem_127 : decode cX5_readItem 127 = .ok (.invokevirtual 31, 3) := by decide +kernel
theorem dX5_readItem_130 : decode cX5_readItem 130 = .ok (.aload_n 0, 1) := by decide +kernel
theorem dX5_readItem_131 : decode cX5_readItem 131 = .ok (.getfield 34, 3) := by decide +kernel
theorem dX5_readItem_134 : decode cX5_readItem 134 = .ok (.iconst 2, 1) := by decide +kernel
theorem dX5_readItem_135 : decode cX5_readItem 135 = .ok (.if_icmp .ne 12, 3) := by decide +kernel
theorem dX5_readItem_138 : decode cX5_readItem 138 = .ok (.aload_n 0, 1) := by decide +kernel
theorem dX5_readItem_139 : decode cX5_readItem 139 = .ok (.getfield 50, 3) := by decide +kernel
theorem dX5_readItem_142 : decode cX5_readItem 142 = .ok (.bipush 8, 2) := by decide +kernel
theorem dX5_readItem_144 : decode cX5_readItem 144 = .ok (.if_icmp .le 5, 3) := by decide +kernel
theorem dX5_readItem_147 : decode cX5_readItem 147 = .ok (.iconst 0, 1) := by decide +kernel
theorem dX5_readItem_148 : decode cX5_readItem 148 = .ok (.ireturn, 1) := by decide +kernel
theorem dX5_readItem_149 : decode cX5_readItem 149 = .ok (.aload_n 1, 1) := by decide +kernel
theorem dX5_readItem_150 : decode cX5_readItem 150 = .ok (.getfield 56, 3) := by decide +kernel
theorem dX5_readItem_153 : decode cX5_readItem 153 = .ok (.iload_n 2, 1) := by decide +kernel
theorem dX5_readItem_154 : decode cX5_readItem 154 = .ok (.aload_n 0, 1) := by decide +kernel
theorem dX5_readItem_155 : decode cX5_readItem 155 = .ok (.getfield 50, 3) := by decide +kernel
theorem dX5_readItem_158 : decode cX5_readItem 158 = .ok (.iastore, 1) := by decide +kernel
theorem dX5_readItem_159 : decode cX5_readItem 159 = .ok (.aload_n 0, 1) := by decide +kernel
theorem dX5_readItem_160 : decode cX5_readItem 160 = .ok (.invokevirtual 31, 3) := by decide +kernel
theorem dX5_readItem_163 : decode cX5_readItem 163 = .ok (.aload_n 0, 1) := by decide +kernel
theorem dX5_readItem_164 : decode cX5_readItem 164 = .ok (.getfield 34, 3) := by decide +kernel
theorem dX5_readItem_167 : decode cX5_readItem 167 = .ok (.iconst 3, 1) := by decide +kernel
theorem dX5_readItem_168 : decode cX5_readItem 168 = .ok (.if_icmp .eq 5, 3) := by decide +kernel
theorem dX5_readItem_171 : decode cX5_readItem 171 = .ok (.iconst 0, 1) := by decide +kernel
theorem dX5_readItem_172 : decode cX5_readItem 172 = .ok (.ireturn, 1) := by decide +kernel
theorem dX5_readItem_173 : decode cX5_readItem 173 = .ok (.aload_n 0, 1) := by decide +kernel
theorem dX5_readItem_174 : decode cX5_readItem 174 = .ok (.invokevirtual 31, 3) := by decide +kernel
theorem dX5_readItem_177 : decode cX5_readItem 177 = .ok (.iconst 1, 1) := by decide +kernel
theorem dX5_readItem_178 : decode cX5_readItem 178 = .ok (.ireturn, 1) := by decide +kernel
theorem iX5_readItem_5 : ∀ w ∈ wsX50, w ∈ wsX5_readItem := fun w h => List.mem_cons_of_mem _ (List.mem_append_left _ (List.mem_append_right _ h))
theorem fX5_readItem_34 : FL mX5_readItem 34 5 4 := ⟨_, _, _, rfl, by decide, iX5_readItem_5, by decide +kernel⟩
theorem iX5_readItem_6 : ∀ w ∈ wsX60, w ∈ wsX5_readItem := fun w h => List.mem_cons_of_mem _ (List.mem_append_right _ h)
theorem fX5_readItem_44 : FL mX5_readItem 44 6 0 := ⟨_, _, _, rfl, by decide, iX5_readItem_6, by decide +kernel⟩
theorem fX5_readItem_47 : FL mX5_readItem 47 6 1 := ⟨_, _, _, rfl, by decide, iX5_readItem_6, by decide +kernel⟩
theorem fX5_readItem_50 : FL mX5_readItem 50 5 5 := ⟨_, _, _, rfl, by decide, iX5_readItem_5, by decide +kernel⟩
theorem fX5_readItem_53 : FL mX5_readItem 53 6 2 := ⟨_, _, _, rfl, by decide, iX5_readItem_6, by decide +kernel⟩
theorem fX5_readItem_56 : FL mX5_readItem 56 6 3 := ⟨_, _, _, rfl, by decide, iX5_readItem_6, by decide +kernel⟩
set_option maxRecDepth 20000 in
theorem ggX5_readItem_X5_advance : GoodIn wsX5_readItem wsX5_advance := goodIn_r _ [11, 12, 13, 14, 15, 1, 16, 17, 10, 18, 19, 20, 21, 22, 4, 23, 24, 25, 26, 27, 28, 29, 30, 31, 32, 33, 34, 35, 36, 37, 38, 39, 40, 41, 42, 43, 44, 45, 46, 47, 48, 49, 50, 51, 52, 53, 54, 55, 56, 57, 58, 59, 60, 61, 62, 63, 64, 65, 66, 67, 68, 69, 70, 71, 72, 73, 74, 75, 76, 77, 78, 79, 80, 81, 82, 83, 84, 85, 86, 87, 88, 89, 90, 91, 92] (by decide +kernel) (by decide +kernel)
set_option maxRecDepth 20000 in
theorem gX5_readItem_X5_advance : GoodIn wsX5_readItem (wsV RX5 31 RX5 yX5_advance wsX5_advance) := goodIn_app (goodIn_of _ (by decide +kernel)) ggX5_readItem_X5_advance
theorem wX5_readItem_31 : CWV mX5_readItem 31 mX5_advance 0 := ⟨gX5_readItem_X5_advance, ⟨_, rfl⟩, rfl, by decide +kernel, by decide +kernel, by decide +kernel⟩
abbrev mX5_readInto : mT := (yX5_readInto, RX5, cX5_readInto, 3, (some .int), wsX5_readInto)
abbrev rX5_readInto : Room := { frames := 10, cells := 0, slots := 0, locals := 230 }
theorem dX5_readInto_0 : decode cX5_readInto 0 = .ok (.aload_n 0, 1) := by decide +kernel
theorem dX5_readInto_1 : decode cX5_readInto 1 = .ok (.iconst 0, 1) := by decide +kernel
theorem dX5_readInto_2 : decode cX5_readInto 2 = .ok (.putfield 23, 3) := by decide +kernel
theorem dX5_readInto_5 : decode cX5_readInto 5 = .ok (.aload_n 1, 1) := by decide +kernel
theorem dX5_readInto_6 : decode cX5_readInto 6 = .ok (.iconst 0, 1) := by decide +kernel
theorem dX5_readInto_7 : decode cX5_readInto 7 = .ok (.putfield 26, 3) := by decide +kernel
theorem dX5_readInto_10 : decode cX5_readInto 10 = .ok (.aload_n 0, 1) := by decide +kernel
theorem dX5_readInto_11 : decode cX5_readInto 11 = .ok (.invokevirtual 31, 3) := by decide +kernel
theorem dX5_readInto_14 : decode cX5_readInto 14 = .ok (.iconst 0, 1) := by decide +kernel
theorem dX5_readInto_15 : decode cX5_readInto 15 = .ok (.istore_n 2, 1) := by decide +kernel
theorem dX5_readInto_16 : decode cX5_readInto 16 = .ok (.iload_n 2, 1) := by decide +kernel
theorem dX5_readInto_17 : decode cX5_readInto 17 = .ok (.sipush 300, 3) := by decide +kernel
theorem dX5_readInto_20 : decode cX5_readInto 20 = .ok (.if_icmp .gt 52, 3) := by decide +kernel
theorem dX5_readInto_23 : decode cX5_readInto 23 = .ok (.aload_n 0, 1) := by decide +kernel
theorem dX5_readInto_24 : decode cX5_readInto 24 = .ok (.getfield 34, 3) := by decide +kernel
theorem dX5_readInto_27 : decode cX5_readInto 27 = .ok (.ifCond .eq 45, 3) := by decide +kernel
theorem dX5_readInto_30 : decode cX5_readInto 30 = .ok (.aload_n 1, 1) := by decide +kernel
theorem dX5_readInto_31 : decode cX5_readInto 31 = .ok (.getfield 26, 3) := by decide +kernel
theorem dX5_readInto_34 : decode cX5_readInto 34 = .ok (.bipush 8, 2) := by decide +kernel
theorem dX5_readInto_36 : decode cX5_readInto 36 = .ok (.if_icmp .ge 15, 3) := by decide +kernel
theorem dX5_readInto_39 : decode cX5_readInto 39 = .ok (.aload_n 0, 1) := by decide +kernel
theorem dX5_readInto_40 : decode cX5_readInto 40 = .ok (.aload_n 1, 1) := by decide +kernel
theorem dX5_readInto_41 : decode cX5_readInto 41 = .ok (.aload_n 1, 1) := by decide +kernel
theorem dX5_readInto_42 : decode cX5_readInto 42 = .ok (.getfield 26, 3) := by decide +kernel
theorem dX5_readInto_45 : decode cX5_readInto 45 = .ok (.invokevirtual 37, 3) := by decide +kernel
theorem dX5_readInto_48 : decode cX5_readInto 48 = .ok (.ifCond .ne 8, 3) := by decide +kernel
theorem dX5_readInto_51 : decode cX5_readInto 51 = .ok (.aload_n 0, 1) := by decide +kernel
theorem dX5_readInto_52 : decode cX5_readInto 52 = .ok (.getfield 41, 3) := by decide +kernel
theorem dX5_readInto_55 : decode cX5_readInto 55 = .ok (.ireturn, 1) := by decide +kernel
theorem dX5_readInto_56 : decode cX5_readInto 56 = .ok (.aload_n 1, 1) := by decide +kernel
theorem dX5_readInto_57 : decode cX5_readInto 57 = .ok (.dup, 1) := by decide +kernel
theorem dX5_readInto_58 : decode cX5_readInto 58 = .ok (.getfield 26, 3) := by decide +kernel
theorem dX5_readInto_61 : decode cX5_readInto 61 = .ok (.iconst 1, 1) := by decide +kernel
theorem dX5_readInto_62 : decode cX5_readInto 62 = .ok (.iadd, 1) := by decide +kernel
theorem dX5_readInto_63 : decode cX5_readInto 63 = .ok (.putfield 26, 3) := by decide +kernel
theorem dX5_readInto_66 : decode cX5_readInto 66 = .ok (.iinc 2 1, 3) := by decide +kernel
theorem dX5_readInto_69 : decode cX5_readInto 69 = .ok (.goto (-53), 3) := by decide +kernel
theorem dX5_readInto_72 : decode cX5_readInto 72 = .ok (.iconst (-1), 1) := by decide +kernel
theorem dX5_readInto_73 : decode cX5_readInto 73 = .ok (.ireturn, 1) := by decide +kernel
theorem iX5_readInto_5 : ∀ w ∈ wsX50, w ∈ wsX5_readInto := fun w h => List.mem_cons_of_mem _ (List.mem_append_left _ (List.mem_append_right _ h))
theorem pX5_readInto_23 : FP mX5_readInto 23 5 2 .int false := ⟨_, _, _, tyX5, rfl, by decide, iX5_readInto_5, by decide +kernel, tyX5_ok, nmX5, rfl, rfl, fun z => absurd z (by decide)⟩
theorem iX5_readInto_6 : ∀ w ∈ wsX60, w ∈ wsX5_readInto := fun w h => List.mem_cons_of_mem _ (List.mem_append_right _ h)
theorem fX5_readInto_26 : FL mX5_readInto 26 6 4 := ⟨_, _, _, rfl, by decide, iX5_readInto_6, by decide +kernel⟩
theorem pX5_readInto_26 : FP mX5_readInto 26 6 4 .int false := ⟨_, _, _, tyX6, rfl, by decide, iX5_readInto_6, by decide +kernel, tyX6_ok, nmX6, rfl, rfl, fun z => absurd z (by decide)⟩
theorem fX5_readInto_34 : FL mX5_readInto 34 5 4 := ⟨_, _, _, rfl, by decide, iX5_readInto_5, by decide +kernel⟩
theorem fX5_readInto_41 : FL mX5_readInto 41 5 3 := ⟨_, _, _, rfl, by decide, iX5_readInto_5, by decide +kernel⟩
set_option maxRecDepth 20000 in
theorem ggX5_readInto_X5_advance : GoodIn wsX5_readInto wsX5_advance := goodIn_r _ [9, 1, 10, 11, 4, 3, 12, 13, 8, 14, 15, 16, 17, 18, 19, 20, 21, 22, 23, 24, 25, 26, 27, 28, 29, 30, 31, 32, 33, 34, 35, 36, 37, 38, 39, 40, 41, 42, 43, 44, 45, 46, 47, 48, 49, 50, 51, 52, 53, 54, 55, 56, 57, 58, 59, 60, 61, 62, 63, 64, 65, 66, 67, 68, 69, 70, 71, 72, 73, 74, 75, 76, 77, 78, 79, 80, 81, 82, 83, 92, 93, 94, 95, 96, 97] (by decide +kernel) (by decide +kernel)
set_option maxRecDepth 20000 in
theorem gX5_readInto_X5_advance : GoodIn wsX5_readInto (wsV RX5 31 RX5 yX5_advance wsX5_advance) := goodIn_app (goodIn_of _ (by decide +kernel)) ggX5_readInto_X5_advance
theorem wX5_readInto_31 : CWV mX5_readInto 31 mX5_advance 0 := ⟨gX5_readInto_X5_advance, ⟨_, rfl⟩, rfl, by decide +kernel, by decide +kernel, by decide +kernel⟩
set_option maxRecDepth 20000 in
theorem ggX5_readInto_X5_readItem : GoodIn wsX5_readInto wsX5_readItem := goodIn_r _ [87, 3, 88, 89, 19, 90, 91, 5, 6, 7, 8, 9, 1, 10, 11, 4, 12, 13, 14, 15, 16, 17, 18, 20, 21, 22, 23, 24, 25, 26, 27, 28, 29, 30, 31, 32, 33, 34, 35, 36, 37, 38, 39, 40, 41, 42, 43, 44, 45, 46, 47, 48, 49, 50, 51, 52, 53, 54, 55, 56, 57, 58, 59, 60, 61, 62, 63, 64, 65, 66, 67, 68, 69, 70, 71, 72, 73, 74, 75, 76, 77, 78, 79, 80, 81, 82, 83, 92, 93, 94, 95, 96, 97, 98, 99, 100, 101, 102] (by decide +kernel) (by decide +kernel)
set_option maxRecDepth 20000 in
theorem gX5_readInto_X5_readItem : GoodIn wsX5_readInto (wsV RX5 37 RX5 yX5_readItem wsX5_readItem) := goodIn_app (goodIn_of _ (by decide +kernel)) ggX5_readInto_X5_readItem
theorem wX5_readInto_37 : CWV mX5_readInto 37 mX5_readItem 2 := ⟨gX5_readInto_X5_readItem, ⟨_, rfl⟩, rfl, by decide +kernel, by decide +kernel, by decide +kernel⟩
abbrev sT : Type := Nat × Nat × Nat × Nat
def adv1 (t : Nat → Nat) (len : Nat) (S : sT) : sT := advF t len S.1 S.2.2.2
abbrev tqS (b len : Nat) (S : sT) : va_E := tq b len S.1 S.2.1 S.2.2.1 S.2.2.2
theorem advF_le {t : Nat → Nat} {len a v : Nat} (ha : a ≤ len) (hv : v ≤ 100) : (advF t len a v).1 ≤ len ∧ (advF t len a v).2.1 ≤ len ∧ (advF t len a v).2.2.1 ≤ 8 ∧ (advF t len a v).2.2.2 ≤ 100 := by
  have h1 := skp_le (p := isBl) (t := t) (len := len) (len - a) a ha
  unfold advF
  generalize skp isBl t len (len - a) a = s at h1 ⊢
  by_cases c1 : len ≤ s
  · rw [if_pos c1]; refine ⟨?_, ?_, ?_, ?_⟩ <;> dsimp only <;> omega
  · rw [if_neg c1]
    by_cases c2 : t s = 59
    · rw [if_pos c2]; refine ⟨?_, ?_, ?_, ?_⟩ <;> dsimp only <;> omega
    · rw [if_neg c2]
      by_cases c3 : isDg (t s) = true
      · rw [if_pos c3]
        have h2 := numS_le (t := t) (len := len) (len - s) s 0 (by omega) (by omega)
        refine ⟨h2.2.1, h1.2, ?_, h2.2.2⟩
        dsimp only
        split <;> omega
      · rw [if_neg c3]
        by_cases c4 : isLt (t s) = true
        · rw [if_pos c4]
          have h2 := skp_le (p := isLt) (t := t) (len := len) (len - s) s (by omega)
          refine ⟨h2.2, h1.2, ?_, hv⟩
          dsimp only
          unfold wTok
          repeat' (first | omega | split)
        · rw [if_neg c4]; refine ⟨?_, ?_, ?_, ?_⟩ <;> dsimp only <;> omega
def sOK (len : Nat) (S : sT) : Prop := S.1 ≤ len ∧ S.2.1 ≤ len ∧ S.2.2.1 ≤ 8 ∧ S.2.2.2 ≤ 100
theorem adv1_ok {t : Nat → Nat} {len : Nat} {S : sT} (h : sOK len S) : sOK len (adv1 t len S) := advF_le h.1 h.2.2.2
/-- an item from its way and tenths on -/
def itm2 (t : Nat → Nat) (len w x : Nat) (S2 : sT) : Nat ⊕ (Nat × Nat × Nat × Nat × sT) :=
  if S2.2.2.1 = 7 ∨ S2.2.2.1 = 8 then
    (if (adv1 t len S2).2.2.1 = 2 ∧ (adv1 t len S2).2.2.2 ≤ 8 then
      (if (adv1 t len (adv1 t len S2)).2.2.1 = 3 then .inr (w, x, S2.2.2.1 - 7, (adv1 t len S2).2.2.2, adv1 t len (adv1 t len (adv1 t len S2))) else .inl (adv1 t len (adv1 t len S2)).2.1)
    else .inl (adv1 t len S2).2.1)
  else .inl S2.2.1
/-- an item: the place of its fault, or way, tenths, pay, others and what stands behind it -/
def itm (t : Nat → Nat) (len : Nat) (S : sT) : Nat ⊕ (Nat × Nat × Nat × Nat × sT) :=
  if S.2.2.1 = 4 ∨ S.2.2.1 = 5 ∨ S.2.2.1 = 6 then
    (if S.2.2.1 = 6 then
      (if (adv1 t len S).2.2.1 = 2 ∧ (adv1 t len S).2.2.2 ≤ 10 then itm2 t len 2 (adv1 t len S).2.2.2 (adv1 t len (adv1 t len S)) else .inl (adv1 t len S).2.1)
    else itm2 t len (S.2.2.1 - 4) 0 (adv1 t len S))
  else .inl S.2.1
def H6 (Γ : gT) (q tw aw ax ay ao : Nat) (h : aH) (T : va_E) (n : Nat) (w x y o : Nat → Int32) : aH := fun j => if j = q then T else if j = tw then ob 6 [.ref aw, .ref ax, .ref ay, .ref ao, .int (nI n)] else if j = aw then aI Γ 8 w else if j = ax then aI Γ 8 x else if j = ay then aI Γ 8 y else if j = ao then aI Γ 8 o else h j
/-- the seven cells that reading needs lie apart -/
def D7 (as : List Nat) (q tw aw ax ay ao b : Nat) : Prop := (q ∈ as ∧ tw ∈ as ∧ aw ∈ as ∧ ax ∈ as ∧ ay ∈ as ∧ ao ∈ as ∧ b ∈ as) ∧ (tw ≠ q) ∧ (aw ≠ q ∧ aw ≠ tw) ∧ (ax ≠ q ∧ ax ≠ tw ∧ ax ≠ aw) ∧ (ay ≠ q ∧ ay ≠ tw ∧ ay ≠ aw ∧ ay ≠ ax) ∧ (ao ≠ q ∧ ao ≠ tw ∧ ao ≠ aw ∧ ao ≠ ax ∧ ao ≠ ay) ∧ (b ≠ q ∧ b ≠ tw ∧ b ≠ aw ∧ b ≠ ax ∧ b ≠ ay ∧ b ≠ ao)
section
variable {Γ : gT} {l : Launch} {as : List Nat} {h : aH} {q tw aw ax ay ao b len n : Nat} {bx w x y o : Nat → Int32} {t : Nat → Nat} {T T' : va_E} {S : sT}
theorem H6_q : hset (H6 Γ q tw aw ax ay ao h T n w x y o) q T' = H6 Γ q tw aw ax ay ao h T' n w x y o := by
  funext j
  unfold hset H6
  by_cases hj : j = q
  · rw [if_pos hj, if_pos hj]
  · simp only [if_neg hj]
theorem H6_n (d : D7 as q tw aw ax ay ao b) {n' : Nat} : hset (H6 Γ q tw aw ax ay ao h T n w x y o) tw (ob 6 [.ref aw, .ref ax, .ref ay, .ref ao, .int (nI n')]) = H6 Γ q tw aw ax ay ao h T n' w x y o := by
  funext j
  unfold hset H6
  by_cases hj : j = tw
  · rw [if_pos hj, if_neg (by rw [hj]; exact d.2.1), if_pos hj]
  · simp only [if_neg hj]
theorem H6_w (d : D7 as q tw aw ax ay ao b) {w' : Nat → Int32} : hset (H6 Γ q tw aw ax ay ao h T n w x y o) aw (aI Γ 8 w') = H6 Γ q tw aw ax ay ao h T n w' x y o := by
  funext j
  unfold hset H6
  by_cases hj : j = aw
  · rw [if_pos hj, if_neg (by rw [hj]; exact d.2.2.1.1), if_neg (by rw [hj]; exact d.2.2.1.2), if_pos hj]
  · simp only [if_neg hj]
theorem H6_x (d : D7 as q tw aw ax ay ao b) {w' : Nat → Int32} : hset (H6 Γ q tw aw ax ay ao h T n w x y o) ax (aI Γ 8 w') = H6 Γ q tw aw ax ay ao h T n w w' y o := by
  funext j
  unfold hset H6
  by_cases hj : j = ax
  · rw [if_pos hj, if_neg (by rw [hj]; exact d.2.2.2.1.1), if_neg (by rw [hj]; exact d.2.2.2.1.2.1), if_neg (by rw [hj]; exact d.2.2.2.1.2.2), if_pos hj]
  · simp only [if_neg hj]
theorem H6_y (d : D7 as q tw aw ax ay ao b) {w' : Nat → Int32} : hset (H6 Γ q tw aw ax ay ao h T n w x y o) ay (aI Γ 8 w') = H6 Γ q tw aw ax ay ao h T n w x w' o := by
  funext j
  unfold hset H6
  by_cases hj : j = ay
  · rw [if_pos hj, if_neg (by rw [hj]; exact d.2.2.2.2.1.1), if_neg (by rw [hj]; exact d.2.2.2.2.1.2.1), if_neg (by rw [hj]; exact d.2.2.2.2.1.2.2.1), if_neg (by rw [hj]; exact d.2.2.2.2.1.2.2.2), if_pos hj]
  · simp only [if_neg hj]
theorem H6_o (d : D7 as q tw aw ax ay ao b) {w' : Nat → Int32} : hset (H6 Γ q tw aw ax ay ao h T n w x y o) ao (aI Γ 8 w') = H6 Γ q tw aw ax ay ao h T n w x y w' := by
  funext j
  unfold hset H6
  by_cases hj : j = ao
  · rw [if_pos hj, if_neg (by rw [hj]; exact d.2.2.2.2.2.1.1), if_neg (by rw [hj]; exact d.2.2.2.2.2.1.2.1), if_neg (by rw [hj]; exact d.2.2.2.2.2.1.2.2.1), if_neg (by rw [hj]; exact d.2.2.2.2.2.1.2.2.2.1), if_neg (by rw [hj]; exact d.2.2.2.2.2.1.2.2.2.2), if_pos hj]
  · simp only [if_neg hj]
theorem at_q (d : D7 as q tw aw ax ay ao b) : hat as (H6 Γ q tw aw ax ay ao h T n w x y o) q T := ⟨d.1.1, if_pos rfl⟩
theorem at_t (d : D7 as q tw aw ax ay ao b) : hat as (H6 Γ q tw aw ax ay ao h T n w x y o) tw (ob 6 [.ref aw, .ref ax, .ref ay, .ref ao, .int (nI n)]) := ⟨d.1.2.1, by unfold H6; rw [if_neg d.2.1, if_pos rfl]⟩
theorem at_w (d : D7 as q tw aw ax ay ao b) : hat as (H6 Γ q tw aw ax ay ao h T n w x y o) aw (aI Γ 8 w) := ⟨d.1.2.2.1, by unfold H6; rw [if_neg d.2.2.1.1, if_neg d.2.2.1.2, if_pos rfl]⟩
theorem at_x (d : D7 as q tw aw ax ay ao b) : hat as (H6 Γ q tw aw ax ay ao h T n w x y o) ax (aI Γ 8 x) := ⟨d.1.2.2.2.1, by unfold H6; rw [if_neg d.2.2.2.1.1, if_neg d.2.2.2.1.2.1, if_neg d.2.2.2.1.2.2, if_pos rfl]⟩
theorem at_y (d : D7 as q tw aw ax ay ao b) : hat as (H6 Γ q tw aw ax ay ao h T n w x y o) ay (aI Γ 8 y) := ⟨d.1.2.2.2.2.1, by unfold H6; rw [if_neg d.2.2.2.2.1.1, if_neg d.2.2.2.2.1.2.1, if_neg d.2.2.2.2.1.2.2.1, if_neg d.2.2.2.2.1.2.2.2, if_pos rfl]⟩
theorem at_o (d : D7 as q tw aw ax ay ao b) : hat as (H6 Γ q tw aw ax ay ao h T n w x y o) ao (aI Γ 8 o) := ⟨d.1.2.2.2.2.2.1, by unfold H6; rw [if_neg d.2.2.2.2.2.1.1, if_neg d.2.2.2.2.2.1.2.1, if_neg d.2.2.2.2.2.1.2.2.1, if_neg d.2.2.2.2.2.1.2.2.2.1, if_neg d.2.2.2.2.2.1.2.2.2.2, if_pos rfl]⟩
theorem at_b (d : D7 as q tw aw ax ay ao b) (hb : h b = aI Γ 300 bx) : hat as (H6 Γ q tw aw ax ay ao h T n w x y o) b (aI Γ 300 bx) := ⟨d.1.2.2.2.2.2.2, by unfold H6; rw [if_neg d.2.2.2.2.2.2.1, if_neg d.2.2.2.2.2.2.2.1, if_neg d.2.2.2.2.2.2.2.2.1, if_neg d.2.2.2.2.2.2.2.2.2.1, if_neg d.2.2.2.2.2.2.2.2.2.2.1, if_neg d.2.2.2.2.2.2.2.2.2.2.2]; exact hb⟩
/-- advance, over the seven cells -/
theorem c_adv6 (d : D7 as q tw aw ax ay ao b) (hb : h b = aI Γ 300 bx) (ht : ∀ j, j < len → bx j = nI (t j) ∧ t j < 256) (hl : len ≤ 300) (hS : sOK len S) : Det Γ l mX5_advance rX5_advance [.ref q] as (H6 Γ q tw aw ax ay ao h (tqS b len S) n w x y o) none (H6 Γ q tw aw ax ay ao h (tqS b len (adv1 t len S)) n w x y o) := by
  have := c_advance (Γ := Γ) (l := l) (t := t) (at_q (Γ := Γ) (h := h) (T := tqS b len S) (n := n) (w := w) (x := x) (y := y) (o := o) d) (at_b d hb) ht hl hS.1
  rw [H6_q] at this
  exact this
/-- what readItem says: an item of person p -/
def qItm (Γ : gT) (q tw aw ax ay ao b len : Nat) (as : List Nat) (h : aH) (n p : Nat) (w x y o : Nat → Int32) (R : Nat ⊕ (Nat × Nat × Nat × Nat × sT)) : qT := fun r as' h' => as' = as ∧ match R with
  | .inl f => r = some (.int 0) ∧ ∃ (S' : sT) (w' x' y' o' : Nat → Int32), S'.2.1 = f ∧ sOK len S' ∧ h' = H6 Γ q tw aw ax ay ao h (tqS b len S') n w' x' y' o'
  | .inr (i0, i1, i2, i3, S') => r = some (.int 1) ∧ sOK len S' ∧ h' = H6 Γ q tw aw ax ay ao h (tqS b len S') n (upd w p (nI i0)) (upd x p (nI i1)) (upd y p (nI i2)) (upd o p (nI i3))
theorem upd_upd (f : Nat → Int32) (k : Nat) (u v : Int32) : upd (upd f k u) k v = upd f k v := by
  funext j
  by_cases hj : j = k
  · rw [hj, pk_us, pk_us]
  · rw [pk_un hj, pk_un hj, pk_un hj]
theorem item_tail (d : D7 as q tw aw ax ay ao b) (hb : h b = aI Γ 300 bx) (ht : ∀ j, j < len → bx j = nI (t j) ∧ t j < 256) (hl : len ≤ 300) (hS : sOK len S) {p i0 i1 : Nat} (hp : p < 8) {w0 x0 : Nat → Int32} : V Γ l mX5_readItem rX5_readItem (Zm Γ rX5_readItem (qItm Γ q tw aw ax ay ao b len as h n p w0 x0 y o (itm2 t len i0 i1 S))) 0 0 93 [(0, .ref q), (1, .ref tw), (2, .int (nI p))] [] as (H6 Γ q tw aw ax ay ao h (tqS b len S) n (upd w0 p (nI i0)) (upd x0 p (nI i1)) y o) := by
  have hS1 := adv1_ok (t := t) hS
  have hS2 := adv1_ok (t := t) hS1
  have hS3 := adv1_ok (t := t) hS2
  have go : (S.2.2.1 = 7 ∨ S.2.2.1 = 8) → V Γ l mX5_readItem rX5_readItem (Zm Γ rX5_readItem (qItm Γ q tw aw ax ay ao b len as h n p w0 x0 y o (itm2 t len i0 i1 S))) 0 0 113 [(0, .ref q), (1, .ref tw), (2, .int (nI p))] [] as (H6 Γ q tw aw ax ay ao h (tqS b len S) n (upd w0 p (nI i0)) (upd x0 p (nI i1)) y o) := by
    intro hk
    unfold itm2
    rw [if_pos hk]
    refine q_aload_n dX5_readItem_113 rfl rfl ?_
    refine q_get dX5_readItem_114 fX5_readItem_53 (at_t d) rfl ?_
    refine q_iload_n dX5_readItem_117 rfl rfl ?_
    refine q_aload_n dX5_readItem_118 rfl rfl ?_
    refine q_get dX5_readItem_119 fX5_readItem_34 (at_q d) rfl ?_
    refine q_bipush (v := 7) dX5_readItem_122 rfl ?_
    refine q_isub dX5_readItem_124 ?_
    rw [show nI S.2.2.1 - 7 = nI (S.2.2.1 - 7) from pk_sub (b := 7) (by omega)]
    refine q_iast dX5_readItem_125 (at_y d) (in_nI hp (by omega)) ?_
    refine q_aload_n dX5_readItem_126 rfl rfl ?_
    rw [H6_y d, nI_clamp (by omega)]
    refine q_callVd dX5_readItem_127 wX5_readItem_31 (c_adv6 d hb ht hl hS) (at_q d) ⟨_, _, rfl⟩ rfl rfl (Nat.le_of_ble_eq_true rfl) ⟨⟨Nat.le_of_ble_eq_true rfl, Nat.le_of_ble_eq_true rfl⟩, Nat.le_of_ble_eq_true rfl, Nat.le_of_ble_eq_true rfl⟩ ?_
    refine q_aload_n dX5_readItem_130 rfl rfl ?_
    refine q_get dX5_readItem_131 fX5_readItem_34 (at_q d) rfl ?_
    refine q_iconst (v := 2) dX5_readItem_134 rfl ?_
    refine q_icmp_ne 147 dX5_readItem_135 (by decide) (fun cA => ?_) (fun cA => ?_)
    · rw [if_neg (fun z => by first | exact cB (nI_le (b := 8) z.2 (by omega)) | exact cA (by rw [z.1]; rfl))]
      refine q_iconst (v := 0) dX5_readItem_147 rfl ?_
      exact q_zret dX5_readItem_148 rfl (rfl) (Nat.zero_le _) (Nat.zero_le _) (⟨rfl, rfl, _, _, _, _, _, rfl, hS1, rfl⟩)
    · refine q_aload_n dX5_readItem_138 rfl rfl ?_
      refine q_get dX5_readItem_139 fX5_readItem_50 (at_q d) rfl ?_
      refine q_bipush (v := 8) dX5_readItem_142 rfl ?_
      refine q_icmp_le 149 dX5_readItem_144 (by decide) (fun cB => ?_) (fun cB => ?_)
      · have c8 : (adv1 t len S).2.2.2 ≤ 8 := (nI_leI (b := 8) (Nat.lt_of_le_of_lt hS1.2.2.2 (by omega)) (by omega)).mp cB
        rw [if_pos ⟨(nI_eq (b := 2) (Nat.lt_of_le_of_lt hS1.2.2.1 (by omega)) (by omega)).mp cA, c8⟩]
        refine q_aload_n dX5_readItem_149 rfl rfl ?_
        refine q_get dX5_readItem_150 fX5_readItem_56 (at_t d) rfl ?_
        refine q_iload_n dX5_readItem_153 rfl rfl ?_
        refine q_aload_n dX5_readItem_154 rfl rfl ?_
        refine q_get dX5_readItem_155 fX5_readItem_50 (at_q d) rfl ?_
        refine q_iast dX5_readItem_158 (at_o d) (in_nI hp (by omega)) ?_
        refine q_aload_n dX5_readItem_159 rfl rfl ?_
        rw [H6_o d, nI_clamp (by omega)]
        refine q_callVd dX5_readItem_160 wX5_readItem_31 (c_adv6 d hb ht hl hS1) (at_q d) ⟨_, _, rfl⟩ rfl rfl (Nat.le_of_ble_eq_true rfl) ⟨⟨Nat.le_of_ble_eq_true rfl, Nat.le_of_ble_eq_true rfl⟩, Nat.le_of_ble_eq_true rfl, Nat.le_of_ble_eq_true rfl⟩ ?_
        refine q_aload_n dX5_readItem_163 rfl rfl ?_
        refine q_get dX5_readItem_164 fX5_readItem_34 (at_q d) rfl ?_
        refine q_iconst (v := 3) dX5_readItem_167 rfl ?_
        refine q_icmp_eq 173 dX5_readItem_168 (by decide) (fun cC => ?_) (fun cC => ?_)
        · rw [if_pos ((nI_eq (b := 3) (Nat.lt_of_le_of_lt hS2.2.2.1 (by omega)) (by omega)).mp cC)]
          refine q_aload_n dX5_readItem_173 rfl rfl ?_
          refine q_callVd dX5_readItem_174 wX5_readItem_31 (c_adv6 d hb ht hl hS2) (at_q d) ⟨_, _, rfl⟩ rfl rfl (Nat.le_of_ble_eq_true rfl) ⟨⟨Nat.le_of_ble_eq_true rfl, Nat.le_of_ble_eq_true rfl⟩, Nat.le_of_ble_eq_true rfl, Nat.le_of_ble_eq_true rfl⟩ ?_
          refine q_iconst (v := 1) dX5_readItem_177 rfl ?_
          exact q_zret dX5_readItem_178 rfl (rfl) (Nat.zero_le _) (Nat.zero_le _) (⟨rfl, rfl, hS3, rfl⟩)
        · rw [if_neg (fun z => cC (by rw [z]; rfl))]
          refine q_iconst (v := 0) dX5_readItem_171 rfl ?_
          exact q_zret dX5_readItem_172 rfl (rfl) (Nat.zero_le _) (Nat.zero_le _) (⟨rfl, rfl, _, _, _, _, _, rfl, hS2, rfl⟩)
      · rw [if_neg (fun z => by first | exact cB (nI_le (b := 8) z.2 (by omega)) | exact cA (by rw [z.1]; rfl))]
        refine q_iconst (v := 0) dX5_readItem_147 rfl ?_
        exact q_zret dX5_readItem_148 rfl (rfl) (Nat.zero_le _) (Nat.zero_le _) (⟨rfl, rfl, _, _, _, _, _, rfl, hS1, rfl⟩)
  refine q_aload_n dX5_readItem_93 rfl rfl ?_
  refine q_get dX5_readItem_94 fX5_readItem_34 (at_q d) rfl ?_
  refine q_bipush (v := 7) dX5_readItem_97 rfl ?_
  refine q_icmp_eq 113 dX5_readItem_99 (by decide) (fun c7 => ?_) (fun c7 => ?_)
  · refine go ?_
    first | exact Or.inr ((nI_eq (b := 8) (Nat.lt_of_le_of_lt hS.2.2.1 (by omega)) (by omega)).mp c8) | exact Or.inl ((nI_eq (b := 7) (Nat.lt_of_le_of_lt hS.2.2.1 (by omega)) (by omega)).mp c7)
  · refine q_aload_n dX5_readItem_102 rfl rfl ?_
    refine q_get dX5_readItem_103 fX5_readItem_34 (at_q d) rfl ?_
    refine q_bipush (v := 8) dX5_readItem_106 rfl ?_
    refine q_icmp_eq 113 dX5_readItem_108 (by decide) (fun c8 => ?_) (fun c8 => ?_)
    · refine go ?_
      first | exact Or.inr ((nI_eq (b := 8) (Nat.lt_of_le_of_lt hS.2.2.1 (by omega)) (by omega)).mp c8) | exact Or.inl ((nI_eq (b := 7) (Nat.lt_of_le_of_lt hS.2.2.1 (by omega)) (by omega)).mp c7)
    · unfold itm2
      rw [if_neg (fun z => by rcases z with z | z; exact c7 (by rw [z]; rfl); exact c8 (by rw [z]; rfl))]
      refine q_iconst (v := 0) dX5_readItem_111 rfl ?_
      exact q_zret dX5_readItem_112 rfl (rfl) (Nat.zero_le _) (Nat.zero_le _) (⟨rfl, rfl, _, _, _, _, _, rfl, hS, rfl⟩)
theorem c_readItem (d : D7 as q tw aw ax ay ao b) (hb : h b = aI Γ 300 bx) (ht : ∀ j, j < len → bx j = nI (t j) ∧ t j < 256) (hl : len ≤ 300) (hS : sOK len S) {p : Nat} (hp : p < 8) : Con Γ l mX5_readItem rX5_readItem [.ref q, .ref tw, .int (nI p)] as (H6 Γ q tw aw ax ay ao h (tqS b len S) n w x y o) (qItm Γ q tw aw ax ay ao b len as h n p w x y o (itm t len S)) := by
  have hS1 := adv1_ok (t := t) hS
  have hS2 := adv1_ok (t := t) hS1
  have go : (S.2.2.1 = 4 ∨ S.2.2.1 = 5 ∨ S.2.2.1 = 6) → V Γ l mX5_readItem rX5_readItem (Zm Γ rX5_readItem (qItm Γ q tw aw ax ay ao b len as h n p w x y o (itm t len S))) 0 0 27 [(0, .ref q), (1, .ref tw), (2, .int (nI p))] [] as (H6 Γ q tw aw ax ay ao h (tqS b len S) n w x y o) := by
    intro hk
    unfold itm
    rw [if_pos hk]
    refine q_aload_n dX5_readItem_27 rfl rfl ?_
    refine q_get dX5_readItem_28 fX5_readItem_44 (at_t d) rfl ?_
    refine q_iload_n dX5_readItem_31 rfl rfl ?_
    refine q_aload_n dX5_readItem_32 rfl rfl ?_
    refine q_get dX5_readItem_33 fX5_readItem_34 (at_q d) rfl ?_
    refine q_iconst (v := 4) dX5_readItem_36 rfl ?_
    refine q_isub dX5_readItem_37 ?_
    rw [show nI S.2.2.1 - 4 = nI (S.2.2.1 - 4) from pk_sub (b := 4) (by omega)]
    refine q_iast dX5_readItem_38 (at_w d) (in_nI hp (by omega)) ?_
    rw [H6_w d, nI_clamp (by omega)]
    refine q_aload_n dX5_readItem_39 rfl rfl ?_
    refine q_get dX5_readItem_40 fX5_readItem_47 (at_t d) rfl ?_
    refine q_iload_n dX5_readItem_43 rfl rfl ?_
    refine q_iconst (v := 0) dX5_readItem_44 rfl ?_
    refine q_iast dX5_readItem_45 (at_x d) (in_nI hp (by omega)) ?_
    rw [H6_x d, nI_clamp (by omega)]
    refine q_aload_n dX5_readItem_46 rfl rfl ?_
    refine q_callVd dX5_readItem_47 wX5_readItem_31 (c_adv6 d hb ht hl hS) (at_q d) ⟨_, _, rfl⟩ rfl rfl (Nat.le_of_ble_eq_true rfl) ⟨⟨Nat.le_of_ble_eq_true rfl, Nat.le_of_ble_eq_true rfl⟩, Nat.le_of_ble_eq_true rfl, Nat.le_of_ble_eq_true rfl⟩ ?_
    refine q_aload_n dX5_readItem_50 rfl rfl ?_
    refine q_get dX5_readItem_51 fX5_readItem_44 (at_t d) rfl ?_
    refine q_iload_n dX5_readItem_54 rfl rfl ?_
    refine q_iald dX5_readItem_55 (at_w d) (in_nI hp (by omega)) ?_
    refine q_iconst (v := 2) dX5_readItem_56 rfl ?_
    rw [nI_clamp (by omega), pk_us]
    refine q_icmp_ne 93 dX5_readItem_57 (by decide) (fun c6 => ?_) (fun c6 => ?_)
    · rw [if_neg (fun z => c6 (by rw [z]; rfl))]
      exact item_tail (i1 := 0) d hb ht hl hS1 hp
    · have k6 : S.2.2.1 = 6 := by
        have := (nI_eq (a := S.2.2.1 - 4) (b := 2) (by omega) (by omega)).mp c6
        omega
      rw [if_pos k6, k6]
      refine q_aload_n dX5_readItem_60 rfl rfl ?_
      refine q_get dX5_readItem_61 fX5_readItem_34 (at_q d) rfl ?_
      refine q_iconst (v := 2) dX5_readItem_64 rfl ?_
      refine q_icmp_ne 77 dX5_readItem_65 (by decide) (fun cA => ?_) (fun cA => ?_)
      · rw [if_neg (fun z => by first | exact cB (nI_le (b := 10) z.2 (by omega)) | exact cA (by rw [z.1]; rfl))]
        refine q_iconst (v := 0) dX5_readItem_77 rfl ?_
        exact q_zret dX5_readItem_78 rfl (rfl) (Nat.zero_le _) (Nat.zero_le _) (⟨rfl, rfl, _, _, _, _, _, rfl, hS1, rfl⟩)
      · refine q_aload_n dX5_readItem_68 rfl rfl ?_
        refine q_get dX5_readItem_69 fX5_readItem_50 (at_q d) rfl ?_
        refine q_bipush (v := 10) dX5_readItem_72 rfl ?_
        refine q_icmp_le 79 dX5_readItem_74 (by decide) (fun cB => ?_) (fun cB => ?_)
        · have c10 : (adv1 t len S).2.2.2 ≤ 10 := (nI_leI (b := 10) (Nat.lt_of_le_of_lt hS1.2.2.2 (by omega)) (by omega)).mp cB
          rw [if_pos ⟨(nI_eq (b := 2) (Nat.lt_of_le_of_lt hS1.2.2.1 (by omega)) (by omega)).mp cA, c10⟩]
          refine q_aload_n dX5_readItem_79 rfl rfl ?_
          refine q_get dX5_readItem_80 fX5_readItem_47 (at_t d) rfl ?_
          refine q_iload_n dX5_readItem_83 rfl rfl ?_
          refine q_aload_n dX5_readItem_84 rfl rfl ?_
          refine q_get dX5_readItem_85 fX5_readItem_50 (at_q d) rfl ?_
          refine q_iast dX5_readItem_88 (at_x d) (in_nI hp (by omega)) ?_
          refine q_aload_n dX5_readItem_89 rfl rfl ?_
          rw [H6_x d, nI_clamp (by omega), upd_upd]
          refine q_callVd dX5_readItem_90 wX5_readItem_31 (c_adv6 d hb ht hl hS1) (at_q d) ⟨_, _, rfl⟩ rfl rfl (Nat.le_of_ble_eq_true rfl) ⟨⟨Nat.le_of_ble_eq_true rfl, Nat.le_of_ble_eq_true rfl⟩, Nat.le_of_ble_eq_true rfl, Nat.le_of_ble_eq_true rfl⟩ ?_
          exact item_tail (i0 := 2) d hb ht hl hS2 hp
        · rw [if_neg (fun z => by first | exact cB (nI_le (b := 10) z.2 (by omega)) | exact cA (by rw [z.1]; rfl))]
          refine q_iconst (v := 0) dX5_readItem_77 rfl ?_
          exact q_zret dX5_readItem_78 rfl (rfl) (Nat.zero_le _) (Nat.zero_le _) (⟨rfl, rfl, _, _, _, _, _, rfl, hS1, rfl⟩)
  refine Con.of (by decide +kernel) rfl rfl (Nat.le_of_ble_eq_true rfl) ?_
  refine q_aload_n dX5_readItem_0 rfl rfl ?_
  refine q_get dX5_readItem_1 fX5_readItem_34 (at_q d) rfl ?_
  refine q_iconst (v := 4) dX5_readItem_4 rfl ?_
  refine q_icmp_eq 27 dX5_readItem_5 (by decide) (fun c4 => ?_) (fun c4 => ?_)
  · refine go ?_
    first | exact Or.inr (Or.inr ((nI_eq (b := 6) (Nat.lt_of_le_of_lt hS.2.2.1 (by omega)) (by omega)).mp c6)) | exact Or.inr (Or.inl ((nI_eq (b := 5) (Nat.lt_of_le_of_lt hS.2.2.1 (by omega)) (by omega)).mp c5)) | exact Or.inl ((nI_eq (b := 4) (Nat.lt_of_le_of_lt hS.2.2.1 (by omega)) (by omega)).mp c4)
  · refine q_aload_n dX5_readItem_8 rfl rfl ?_
    refine q_get dX5_readItem_9 fX5_readItem_34 (at_q d) rfl ?_
    refine q_iconst (v := 5) dX5_readItem_12 rfl ?_
    refine q_icmp_eq 27 dX5_readItem_13 (by decide) (fun c5 => ?_) (fun c5 => ?_)
    · refine go ?_
      first | exact Or.inr (Or.inr ((nI_eq (b := 6) (Nat.lt_of_le_of_lt hS.2.2.1 (by omega)) (by omega)).mp c6)) | exact Or.inr (Or.inl ((nI_eq (b := 5) (Nat.lt_of_le_of_lt hS.2.2.1 (by omega)) (by omega)).mp c5)) | exact Or.inl ((nI_eq (b := 4) (Nat.lt_of_le_of_lt hS.2.2.1 (by omega)) (by omega)).mp c4)
    · refine q_aload_n dX5_readItem_16 rfl rfl ?_
      refine q_get dX5_readItem_17 fX5_readItem_34 (at_q d) rfl ?_
      refine q_bipush (v := 6) dX5_readItem_20 rfl ?_
      refine q_icmp_eq 27 dX5_readItem_22 (by decide) (fun c6 => ?_) (fun c6 => ?_)
      · refine go ?_
        first | exact Or.inr (Or.inr ((nI_eq (b := 6) (Nat.lt_of_le_of_lt hS.2.2.1 (by omega)) (by omega)).mp c6)) | exact Or.inr (Or.inl ((nI_eq (b := 5) (Nat.lt_of_le_of_lt hS.2.2.1 (by omega)) (by omega)).mp c5)) | exact Or.inl ((nI_eq (b := 4) (Nat.lt_of_le_of_lt hS.2.2.1 (by omega)) (by omega)).mp c4)
      · unfold itm
        rw [if_neg (fun z => by rcases z with z | z | z; exact c4 (by rw [z]; rfl); exact c5 (by rw [z]; rfl); exact c6 (by rw [z]; rfl))]
        refine q_iconst (v := 0) dX5_readItem_25 rfl ?_
        exact q_zret dX5_readItem_26 rfl (rfl) (Nat.zero_le _) (Nat.zero_le _) (⟨rfl, rfl, _, _, _, _, _, rfl, hS, rfl⟩)
end
end
section
/-! TEXT (X5): readInto -/
theorem V.post {Γ : gT} {l : Launch} {μ : mT} {R : Room} {Q Q' : qT} {kc ks pc : Nat} {ls : List (Nat × Value)} {st : List Value} {as : List Nat} {h : aH} (k : V Γ l μ R (Zm Γ R Q) kc ks pc ls st as h) (hq : ∀ r as' h', Q r as' h' → Q' r as' h') : V Γ l μ R (Zm Γ R Q') kc ks pc ls st as h := by
  intro p e s m args below meth c H locs lsA C ho hP hS hl T hT X
  obtain ⟨t, a1, o, b1, b2, ⟨⟨r, as', h', e1, e2, e3⟩, b3⟩, b4⟩ := k p e s m args below meth c H locs lsA C ho hP hS hl T hT X
  exact ⟨t, a1, o, b1, b2, ⟨⟨r, as', h', e1, hq _ _ _ e2, e3⟩, b3⟩, b4⟩
theorem Con.post {Γ : gT} {l : Launch} {μ : mT} {R : Room} {Q Q' : qT} {av : List Value} {as : List Nat} {h : aH} (k : Con Γ l μ R av as h Q) (hq : ∀ r as' h', Q r as' h' → Q' r as' h') : Con Γ l μ R av as h Q' := by
  intro p e a1 a2 a3 s m args below a4 a5 a6 a7
  obtain ⟨k1, o, b1, b2, b3, ⟨⟨r, as', h', e1, e2, e3⟩, b4⟩, b5⟩ := k p e a1 a2 a3 s m args below a4 a5 a6 a7
  exact ⟨k1, o, b1, b2, b3, ⟨⟨r, as', h', e1, hq _ _ _ e2, e3⟩, b4⟩, b5⟩
abbrev iT : Type := Nat × Nat × Nat × Nat
/-- the town from a token on: the place of its fault, or its items -/
def twnL (t : Nat → Nat) (len : Nat) : Nat → sT → Nat ⊕ List iT
  | 0, S => if S.2.2.1 = 0 then .inr [] else .inl S.2.1
  | d + 1, S => if S.2.2.1 = 0 then .inr [] else match itm t len S with
    | .inl f => .inl f
    | .inr (i0, i1, i2, i3, S') => match twnL t len d S' with
      | .inl f => .inl f
      | .inr L => .inr ((i0, i1, i2, i3) :: L)
def putA (g : iT → Nat) : (Nat → Int32) → Nat → List iT → Nat → Int32
  | w, _, [] => w
  | w, p, i :: L => putA g (upd w p (nI (g i))) (p + 1) L
def qTwn (Γ : gT) (q tw aw ax ay ao b len : Nat) (as : List Nat) (h : aH) (p : Nat) (w x y o : Nat → Int32) (R : Nat ⊕ List iT) : qT := fun r as' h' => as' = as ∧ match R with
  | .inl f => f ≤ len ∧ r = some (.int (nI f)) ∧ ∃ (S' : sT) (n' : Nat) (w' x' y' o' : Nat → Int32), sOK len S' ∧ h' = H6 Γ q tw aw ax ay ao h (tqS b len S') n' w' x' y' o'
  | .inr L => r = some (.int (-1)) ∧ ∃ S' : sT, sOK len S' ∧ h' = H6 Γ q tw aw ax ay ao h (tqS b len S') (p + L.length) (putA (fun i => i.1) w p L) (putA (fun i => i.2.1) x p L) (putA (fun i => i.2.2.1) y p L) (putA (fun i => i.2.2.2) o p L)
theorem itm2_le {t : Nat → Nat} {len w x f : Nat} {S : sT} (hS : sOK len S) (h : itm2 t len w x S = .inl f) : f ≤ len := by
  have hS1 := adv1_ok (t := t) hS
  have hS2 := adv1_ok (t := t) hS1
  unfold itm2 at h
  split at h
  · split at h
    · split at h
      · cases h
      · cases h; exact hS2.2.1
    · cases h; exact hS1.2.1
  · cases h; exact hS.2.1
theorem itm_le {t : Nat → Nat} {len f : Nat} {S : sT} (hS : sOK len S) (h : itm t len S = .inl f) : f ≤ len := by
  have hS1 := adv1_ok (t := t) hS
  have hS2 := adv1_ok (t := t) hS1
  unfold itm at h
  split at h
  · split at h
    · split at h
      · exact itm2_le hS2 h
      · cases h; exact hS1.2.1
    · exact itm2_le hS1 h
  · cases h; exact hS.2.1
section
variable {Γ : gT} {l : Launch} {as : List Nat} {h : aH} {q tw aw ax ay ao b len n : Nat} {bx w x y o : Nat → Int32} {t : Nat → Nat}
theorem town_loop (d7 : D7 as q tw aw ax ay ao b) (hb : h b = aI Γ 300 bx) (ht : ∀ j, j < len → bx j = nI (t j) ∧ t j < 256) (hl : len ≤ 300) : ∀ (d p : Nat) (S : sT) (w x y o : Nat → Int32) (z : Int32) (ls : List (Nat × Value)), p + d = 8 → sOK len S → z = nI p → lin ls [(0, .ref q), (1, .ref tw), (2, .int z)] → V Γ l mX5_readInto rX5_readInto (Zm Γ rX5_readInto (qTwn Γ q tw aw ax ay ao b len as h p w x y o (twnL t len d S))) 0 0 16 ls [] as (H6 Γ q tw aw ax ay ao h (tqS b len S) p w x y o) := by
  intro d
  induction d with
  | zero =>
    intro p S w x y o z ls hp hS hz hll
    subst hz
    refine V.at ?_ hll
    unfold twnL
    refine q_iload_n dX5_readInto_16 rfl rfl ?_
    refine q_sipush (v := 300) dX5_readInto_17 rfl ?_
    refine q_icmp_gt 72 dX5_readInto_20 (by decide) (fun z => absurd z (nI_nlt (a := 300) (by omega) (by omega))) (fun _ => ?_)
    refine q_aload_n dX5_readInto_23 rfl rfl ?_
    refine q_get dX5_readInto_24 fX5_readInto_34 (at_q d7) rfl ?_
    refine q_if_eq 72 dX5_readInto_27 (by decide) (fun cK => ?_) (fun cK => ?_)
    · rw [if_pos ((nI_eq (b := 0) (Nat.lt_of_le_of_lt hS.2.2.1 (by omega)) (by omega)).mp cK)]
      refine q_iconst (v := (-1)) dX5_readInto_72 rfl ?_
      exact q_iret dX5_readInto_73 rfl (Nat.zero_le _) (Nat.zero_le _) (⟨rfl, rfl, S, hS, rfl⟩)
    · rw [if_neg (fun w => cK (by rw [w]; rfl))]
      refine q_aload_n dX5_readInto_30 rfl rfl ?_
      refine q_get dX5_readInto_31 fX5_readInto_26 (at_t d7) rfl ?_
      refine q_bipush (v := 8) dX5_readInto_34 rfl ?_
      refine q_icmp_ge 51 dX5_readInto_36 (by decide) (fun _ => ?_) (fun z => absurd (nI_le (a := 8) (by omega) (by omega)) z)
      refine q_aload_n dX5_readInto_51 rfl rfl ?_
      refine q_get dX5_readInto_52 fX5_readInto_41 (at_q d7) rfl ?_
      exact q_iret dX5_readInto_55 rfl (Nat.zero_le _) (Nat.zero_le _) (⟨rfl, hS.2.1, rfl, _, _, _, _, _, _, hS, rfl⟩)
  | succ d ih =>
    intro p S w x y o z ls hp hS hz hll
    subst hz
    refine V.at ?_ hll
    unfold twnL
    refine q_iload_n dX5_readInto_16 rfl rfl ?_
    refine q_sipush (v := 300) dX5_readInto_17 rfl ?_
    refine q_icmp_gt 72 dX5_readInto_20 (by decide) (fun z => absurd z (nI_nlt (a := 300) (by omega) (by omega))) (fun _ => ?_)
    refine q_aload_n dX5_readInto_23 rfl rfl ?_
    refine q_get dX5_readInto_24 fX5_readInto_34 (at_q d7) rfl ?_
    refine q_if_eq 72 dX5_readInto_27 (by decide) (fun cK => ?_) (fun cK => ?_)
    · rw [if_pos ((nI_eq (b := 0) (Nat.lt_of_le_of_lt hS.2.2.1 (by omega)) (by omega)).mp cK)]
      refine q_iconst (v := (-1)) dX5_readInto_72 rfl ?_
      exact q_iret dX5_readInto_73 rfl (Nat.zero_le _) (Nat.zero_le _) (⟨rfl, rfl, S, hS, rfl⟩)
    · rw [if_neg (fun w => cK (by rw [w]; rfl))]
      refine q_aload_n dX5_readInto_30 rfl rfl ?_
      refine q_get dX5_readInto_31 fX5_readInto_26 (at_t d7) rfl ?_
      refine q_bipush (v := 8) dX5_readInto_34 rfl ?_
      refine q_icmp_ge 51 dX5_readInto_36 (by decide) (fun z => absurd z (nI_ge (b := 8) (by omega) (by omega))) (fun _ => ?_)
      refine q_aload_n dX5_readInto_39 rfl rfl ?_
      refine q_aload_n dX5_readInto_40 rfl rfl ?_
      refine q_aload_n dX5_readInto_41 rfl rfl ?_
      refine q_get dX5_readInto_42 fX5_readInto_26 (at_t d7) rfl ?_
      refine q_callV dX5_readInto_45 wX5_readInto_37 (at_q d7) ⟨_, _, rfl⟩ (c_readItem (t := t) d7 hb ht hl hS (show p < 8 by omega)) rfl rfl (Nat.le_of_ble_eq_true rfl) ⟨⟨Nat.le_of_ble_eq_true rfl, Nat.le_of_ble_eq_true rfl⟩, Nat.le_of_ble_eq_true rfl, Nat.le_of_ble_eq_true rfl⟩ (fun r as' h' hq => ?_)
      obtain ⟨rfl, hq⟩ := hq
      cases hI : itm t len S with
      | inl f =>
        rw [hI] at hq
        obtain ⟨rfl, S', w', x', y', o', hf, hS', rfl⟩ := hq
        refine q_if_ne 56 dX5_readInto_48 (by decide) (fun z => absurd rfl z) (fun _ => ?_)
        refine q_aload_n dX5_readInto_51 rfl rfl ?_
        refine q_get dX5_readInto_52 fX5_readInto_41 (at_q d7) rfl ?_
        exact q_iret dX5_readInto_55 rfl (Nat.zero_le _) (Nat.zero_le _) ⟨rfl, itm_le hS hI, by rw [hf], _, _, _, _, _, _, hS', rfl⟩
      | inr I =>
        obtain ⟨i0, i1, i2, i3, S'⟩ := I
        rw [hI] at hq
        obtain ⟨rfl, hS', rfl⟩ := hq
        refine q_if_ne 56 dX5_readInto_48 (by decide) (fun _ => ?_) (fun z => absurd z (by decide))
        refine q_aload_n dX5_readInto_56 rfl rfl ?_
        refine q_dup dX5_readInto_57 rfl ?_
        refine q_get dX5_readInto_58 fX5_readInto_26 (at_t d7) rfl ?_
        refine q_iconst (v := 1) dX5_readInto_61 rfl ?_
        refine q_iadd dX5_readInto_62 ?_
        rw [nI_s]
        refine q_put dX5_readInto_63 pX5_readInto_26 (at_t d7) rfl rfl (Nat.le_of_ble_eq_true rfl) ?_
        refine V.hp ?_ (H6_n d7 (n' := p + 1))
        refine q_iinc1 dX5_readInto_66 rfl (by decide) ?_
        refine q_goto 16 dX5_readInto_69 (by decide) ?_
        refine V.post (ih (p + 1) S' _ _ _ _ _ _ (by omega) hS' (nI_s p) ⟨rfl, rfl, rfl, trivial⟩) ?_
        intro r as' h' hq
        obtain ⟨e1, hq⟩ := hq
        refine ⟨e1, ?_⟩
        dsimp only
        cases hT : twnL t len d S' with
        | inl f => rw [hT] at hq; exact hq
        | inr L =>
          rw [hT] at hq
          obtain ⟨e2, S2, e3, e4⟩ := hq
          refine ⟨e2, S2, e3, ?_⟩
          rw [e4, show p + 1 + L.length = p + ((i0, i1, i2, i3) :: L).length by rw [List.length_cons]; omega]
          rfl
theorem c_readInto {s k v : Nat} (d7 : D7 as q tw aw ax ay ao b) (hb : h b = aI Γ 300 bx) (ht : ∀ j, j < len → bx j = nI (t j) ∧ t j < 256) (hl : len ≤ 300) (hv : v ≤ 100) {a : Nat} : Con Γ l mX5_readInto rX5_readInto [.ref q, .ref tw] as (H6 Γ q tw aw ax ay ao h (tq b len a s k v) n w x y o) (qTwn Γ q tw aw ax ay ao b len as h 0 w x y o (twnL t len 8 (advF t len 0 v))) := by
  have hS := advF_le (t := t) (len := len) (a := 0) (v := v) (by omega) hv
  have := c_advance (Γ := Γ) (l := l) (t := t) (at_q (Γ := Γ) (h := h) (T := tq b len 0 s k v) (n := 0) (w := w) (x := x) (y := y) (o := o) d7) (at_b d7 hb) ht hl (by omega)
  rw [H6_q] at this
  refine Con.of (by decide +kernel) rfl rfl (Nat.le_of_ble_eq_true rfl) ?_
  refine q_aload_n dX5_readInto_0 rfl rfl ?_
  refine q_iconst (v := 0) dX5_readInto_1 rfl ?_
  refine q_put dX5_readInto_2 pX5_readInto_23 (at_q d7) rfl rfl (Nat.le_of_ble_eq_true rfl) ?_
  refine V.hp ?_ H6_q
  refine q_aload_n dX5_readInto_5 rfl rfl ?_
  refine q_iconst (v := 0) dX5_readInto_6 rfl ?_
  refine q_put dX5_readInto_7 pX5_readInto_26 (at_t d7) rfl rfl (Nat.le_of_ble_eq_true rfl) ?_
  refine V.hp ?_ (H6_n d7 (n' := 0))
  refine q_aload_n dX5_readInto_10 rfl rfl ?_
  refine q_callVd dX5_readInto_11 wX5_readInto_31 (this) (at_q d7) ⟨_, _, rfl⟩ rfl rfl (Nat.le_of_ble_eq_true rfl) ⟨⟨Nat.le_of_ble_eq_true rfl, Nat.le_of_ble_eq_true rfl⟩, Nat.le_of_ble_eq_true rfl, Nat.le_of_ble_eq_true rfl⟩ ?_
  refine q_iconst (v := 0) dX5_readInto_14 rfl ?_
  refine q_istore_n dX5_readInto_15 rfl (by decide) ?_
  exact town_loop d7 hb ht hl 8 0 _ _ _ _ _ _ _ (by omega) hS rfl ⟨rfl, rfl, rfl, trivial⟩
end
end
section
/-! LIGHTCOINS (X8): what its calls share -/
abbrev mX8_isPerson : mT := (yX8_isPerson, RX8, cX8_isPerson, 2, (some .boolean), wsX8_isPerson)
abbrev rX8_isPerson : Room := { frames := 0, cells := 0, slots := 0, locals := 0 }
theorem dX8_isPerson_0 : decode cX8_isPerson 0 = .ok (.iload_n 1, 1) := by decide +kernel
theorem dX8_isPerson_1 : decode cX8_isPerson 1 = .ok (.ifCond .lt 18, 3) := by decide +kernel
theorem dX8_isPerson_4 : decode cX8_isPerson 4 = .ok (.iload_n 1, 1) := by decide +kernel
theorem dX8_isPerson_5 : decode cX8_isPerson 5 = .ok (.aload_n 0, 1) := by decide +kernel
theorem dX8_isPerson_6 : decode cX8_isPerson 6 = .ok (.getfield 64, 3) := by decide +kernel
theorem dX8_isPerson_9 : decode cX8_isPerson 9 = .ok (.getfield 109, 3) := by decide +kernel
theorem dX8_isPerson_12 : decode cX8_isPerson 12 = .ok (.if_icmp .ge 7, 3) := by decide +kernel
theorem dX8_isPerson_15 : decode cX8_isPerson 15 = .ok (.iconst 1, 1) := by decide +kernel
theorem dX8_isPerson_16 : decode cX8_isPerson 16 = .ok (.goto 4, 3) := by decide +kernel
theorem dX8_isPerson_19 : decode cX8_isPerson 19 = .ok (.iconst 0, 1) := by decide +kernel
theorem dX8_isPerson_20 : decode cX8_isPerson 20 = .ok (.ireturn, 1) := by decide +kernel
theorem iX8_isPerson_8 : ∀ w ∈ wsX80, w ∈ wsX8_isPerson := fun w h => List.mem_cons_of_mem _ (List.mem_append_left _ (List.mem_append_right _ h))
theorem fX8_isPerson_64 : FL mX8_isPerson 64 8 8 := ⟨_, _, _, rfl, by decide, iX8_isPerson_8, by decide +kernel⟩
theorem iX8_isPerson_6 : ∀ w ∈ wsX60, w ∈ wsX8_isPerson := fun w h => List.mem_cons_of_mem _ (List.mem_append_right _ h)
theorem fX8_isPerson_109 : FL mX8_isPerson 109 6 4 := ⟨_, _, _, rfl, by decide, iX8_isPerson_6, by decide +kernel⟩
abbrev mX8_isWeight : mT := (yX8_isWeight, RX8, cX8_isWeight, 1, (some .boolean), wsX8_isWeight)
abbrev rX8_isWeight : Room := { frames := 0, cells := 0, slots := 0, locals := 0 }
theorem dX8_isWeight_0 : decode cX8_isWeight 0 = .ok (.iload_n 0, 1) := by decide +kernel
theorem dX8_isWeight_1 : decode cX8_isWeight 1 = .ok (.ifCond .lt 13, 3) := by decide +kernel
theorem dX8_isWeight_4 : decode cX8_isWeight 4 = .ok (.iload_n 0, 1) := by decide +kernel
theorem dX8_isWeight_5 : decode cX8_isWeight 5 = .ok (.bipush 10, 2) := by decide +kernel
theorem dX8_isWeight_7 : decode cX8_isWeight 7 = .ok (.if_icmp .ge 7, 3) := by decide +kernel
theorem dX8_isWeight_10 : decode cX8_isWeight 10 = .ok (.iconst 1, 1) := by decide +kernel
theorem dX8_isWeight_11 : decode cX8_isWeight 11 = .ok (.goto 4, 3) := by decide +kernel
theorem dX8_isWeight_14 : decode cX8_isWeight 14 = .ok (.iconst 0, 1) := by decide +kernel
theorem dX8_isWeight_15 : decode cX8_isWeight 15 = .ok (.ireturn, 1) := by decide +kernel
abbrev mX8_isImage : mT := (yX8_isImage, RX8, cX8_isImage, 1, (some .boolean), wsX8_isImage)
abbrev rX8_isImage : Room := { frames := 0, cells := 0, slots := 0, locals := 0 }
theorem dX8_isImage_0 : decode cX8_isImage 0 = .ok (.iload_n 0, 1) := by decide +kernel
theorem dX8_isImage_1 : decode cX8_isImage 1 = .ok (.ifCond .lt 12, 3) := by decide +kernel
theorem dX8_isImage_4 : decode cX8_isImage 4 = .ok (.iload_n 0, 1) := by decide +kernel
theorem dX8_isImage_5 : decode cX8_isImage 5 = .ok (.iconst 1, 1) := by decide +kernel
theorem dX8_isImage_6 : decode cX8_isImage 6 = .ok (.if_icmp .gt 7, 3) := by decide +kernel
theorem dX8_isImage_9 : decode cX8_isImage 9 = .ok (.iconst 1, 1) := by decide +kernel
theorem dX8_isImage_10 : decode cX8_isImage 10 = .ok (.goto 4, 3) := by decide +kernel
theorem dX8_isImage_13 : decode cX8_isImage 13 = .ok (.iconst 0, 1) := by decide +kernel
theorem dX8_isImage_14 : decode cX8_isImage 14 = .ok (.ireturn, 1) := by decide +kernel
abbrev mX8_isUpperOrLower : mT := (yX8_isUpperOrLower, RX8, cX8_isUpperOrLower, 1, (some .boolean), wsX8_isUpperOrLower)
abbrev rX8_isUpperOrLower : Room := { frames := 0, cells := 0, slots := 0, locals := 0 }
theorem dX8_isUpperOrLower_0 : decode cX8_isUpperOrLower 0 = .ok (.iload_n 0, 1) := by decide +kernel
theorem dX8_isUpperOrLower_1 : decode cX8_isUpperOrLower 1 = .ok (.ifCond .eq 8, 3) := by decide +kernel
theorem dX8_isUpperOrLower_4 : decode cX8_isUpperOrLower 4 = .ok (.iload_n 0, 1) := by decide +kernel
theorem dX8_isUpperOrLower_5 : decode cX8_isUpperOrLower 5 = .ok (.iconst 1, 1) := by decide +kernel
theorem dX8_isUpperOrLower_6 : decode cX8_isUpperOrLower 6 = .ok (.if_icmp .ne 7, 3) := by decide +kernel
theorem dX8_isUpperOrLower_9 : decode cX8_isUpperOrLower 9 = .ok (.iconst 1, 1) := by decide +kernel
theorem dX8_isUpperOrLower_10 : decode cX8_isUpperOrLower 10 = .ok (.goto 4, 3) := by decide +kernel
theorem dX8_isUpperOrLower_13 : decode cX8_isUpperOrLower 13 = .ok (.iconst 0, 1) := by decide +kernel
theorem dX8_isUpperOrLower_14 : decode cX8_isUpperOrLower 14 = .ok (.ireturn, 1) := by decide +kernel
abbrev mX8_divides : mT := (yX8_divides, RX8, cX8_divides, 2, (some .boolean), wsX8_divides)
abbrev rX8_divides : Room := { frames := 0, cells := 0, slots := 0, locals := 0 }
theorem dX8_divides_0 : decode cX8_divides 0 = .ok (.iload_n 0, 1) := by decide +kernel
theorem dX8_divides_1 : decode cX8_divides 1 = .ok (.ifCond .le 13, 3) := by decide +kernel
theorem dX8_divides_4 : decode cX8_divides 4 = .ok (.iload_n 1, 1) := by decide +kernel
theorem dX8_divides_5 : decode cX8_divides 5 = .ok (.iload_n 0, 1) := by decide +kernel
theorem dX8_divides_6 : decode cX8_divides 6 = .ok (.irem, 1) := by decide +kernel
theorem dX8_divides_7 : decode cX8_divides 7 = .ok (.ifCond .ne 7, 3) := by decide +kernel
theorem dX8_divides_10 : decode cX8_divides 10 = .ok (.iconst 1, 1) := by decide +kernel
theorem dX8_divides_11 : decode cX8_divides 11 = .ok (.goto 4, 3) := by decide +kernel
theorem dX8_divides_14 : decode cX8_divides 14 = .ok (.iconst 0, 1) := by decide +kernel
theorem dX8_divides_15 : decode cX8_divides 15 = .ok (.ireturn, 1) := by decide +kernel
abbrev mX8_dayRefusal : mT := (yX8_dayRefusal, RX8, cX8_dayRefusal, 3, (some .int), wsX8_dayRefusal)
abbrev rX8_dayRefusal : Room := { frames := 4, cells := 0, slots := 0, locals := 89 }
theorem dX8_dayRefusal_0 : decode cX8_dayRefusal 0 = .ok (.iload_n 1, 1) := by decide +kernel
theorem dX8_dayRefusal_1 : decode cX8_dayRefusal 1 = .ok (.iconst 1, 1) := by decide +kernel
theorem dX8_dayRefusal_2 : decode cX8_dayRefusal 2 = .ok (.if_icmp .lt 18, 3) := by decide +kernel
theorem dX8_dayRefusal_5 : decode cX8_dayRefusal 5 = .ok (.iload_n 1, 1) := by decide +kernel
theorem dX8_dayRefusal_6 : decode cX8_dayRefusal 6 = .ok (.bipush 30, 2) := by decide +kernel
theorem dX8_dayRefusal_8 : decode cX8_dayRefusal 8 = .ok (.if_icmp .gt 12, 3) := by decide +kernel
theorem dX8_dayRefusal_11 : decode cX8_dayRefusal 11 = .ok (.iload_n 2, 1) := by decide +kernel
theorem dX8_dayRefusal_12 : decode cX8_dayRefusal 12 = .ok (.ifCond .lt 8, 3) := by decide +kernel
theorem dX8_dayRefusal_15 : decode cX8_dayRefusal 15 = .ok (.iload_n 2, 1) := by decide +kernel
theorem dX8_dayRefusal_16 : decode cX8_dayRefusal 16 = .ok (.iload_n 1, 1) := by decide +kernel
theorem dX8_dayRefusal_17 : decode cX8_dayRefusal 17 = .ok (.if_icmp .le 5, 3) := by decide +kernel
theorem dX8_dayRefusal_20 : decode cX8_dayRefusal 20 = .ok (.iconst (-1), 1) := by decide +kernel
theorem dX8_dayRefusal_21 : decode cX8_dayRefusal 21 = .ok (.ireturn, 1) := by decide +kernel
theorem dX8_dayRefusal_22 : decode cX8_dayRefusal 22 = .ok (.iload_n 1, 1) := by decide +kernel
theorem dX8_dayRefusal_23 : decode cX8_dayRefusal 23 = .ok (.aload_n 0, 1) := by decide +kernel
theorem dX8_dayRefusal_24 : decode cX8_dayRefusal 24 = .ok (.getfield 19, 3) := by decide +kernel
theorem dX8_dayRefusal_27 : decode cX8_dayRefusal 27 = .ok (.invokevirtual 225, 3) := by decide +kernel
theorem dX8_dayRefusal_30 : decode cX8_dayRefusal 30 = .ok (.if_icmp .le 8, 3) := by decide +kernel
theorem dX8_dayRefusal_33 : decode cX8_dayRefusal 33 = .ok (.bipush (-2), 2) := by decide +kernel
theorem dX8_dayRefusal_35 : decode cX8_dayRefusal 35 = .ok (.goto 4, 3) := by decide +kernel
theorem dX8_dayRefusal_38 : decode cX8_dayRefusal 38 = .ok (.iconst 0, 1) := by decide +kernel
theorem dX8_dayRefusal_39 : decode cX8_dayRefusal 39 = .ok (.ireturn, 1) := by decide +kernel
theorem iX8_dayRefusal_8 : ∀ w ∈ wsX80, w ∈ wsX8_dayRefusal := fun w h => List.mem_cons_of_mem _ (List.mem_append_left _ (List.mem_append_right _ h))
theorem fX8_dayRefusal_19 : FL mX8_dayRefusal 19 8 1 := ⟨_, _, _, rfl, by decide, iX8_dayRefusal_8, by decide +kernel⟩
set_option maxRecDepth 20000 in
theorem ggX8_dayRefusal_X4_allCoins : GoodIn wsX8_dayRefusal wsX4_allCoins := goodIn_r _ [6, 7, 8, 9, 5, 10, 11, 12, 13, 14, 15, 16, 17, 18, 19, 33] (by decide +kernel) (by decide +kernel)
set_option maxRecDepth 20000 in
theorem gX8_dayRefusal_X4_allCoins : GoodIn wsX8_dayRefusal (wsV RX8 225 RX4 yX4_allCoins wsX4_allCoins) := goodIn_app (goodIn_of _ (by decide +kernel)) ggX8_dayRefusal_X4_allCoins
theorem wX8_dayRefusal_225 : CWV mX8_dayRefusal 225 mX4_allCoins 0 := ⟨gX8_dayRefusal_X4_allCoins, ⟨_, rfl⟩, rfl, by decide +kernel, by decide +kernel, by decide +kernel⟩
abbrev mX8_commonDivisor : mT := (yX8_commonDivisor, RX8, cX8_commonDivisor, 11, (some .long), wsX8_commonDivisor)
abbrev rX8_commonDivisor : Room := { frames := 0, cells := 0, slots := 0, locals := 0 }
theorem dX8_commonDivisor_0 : decode cX8_commonDivisor 0 = .ok (.lload_n 0, 1) := by decide +kernel
theorem dX8_commonDivisor_1 : decode cX8_commonDivisor 1 = .ok (.lstore 4, 2) := by decide +kernel
theorem dX8_commonDivisor_3 : decode cX8_commonDivisor 3 = .ok (.lload_n 2, 1) := by decide +kernel
theorem dX8_commonDivisor_4 : decode cX8_commonDivisor 4 = .ok (.lstore 6, 2) := by decide +kernel
theorem dX8_commonDivisor_6 : decode cX8_commonDivisor 6 = .ok (.iconst 0, 1) := by decide +kernel
theorem dX8_commonDivisor_7 : decode cX8_commonDivisor 7 = .ok (.istore 8, 2) := by decide +kernel
theorem dX8_commonDivisor_9 : decode cX8_commonDivisor 9 = .ok (.iload 8, 2) := by decide +kernel
theorem dX8_commonDivisor_11 : decode cX8_commonDivisor 11 = .ok (.sipush 200, 3) := by decide +kernel
theorem dX8_commonDivisor_14 : decode cX8_commonDivisor 14 = .ok (.if_icmp .ge 31, 3) := by decide +kernel
theorem dX8_commonDivisor_17 : decode cX8_commonDivisor 17 = .ok (.lload 6, 2) := by decide +kernel
theorem dX8_commonDivisor_19 : decode cX8_commonDivisor 19 = .ok (.lconst 0, 1) := by decide +kernel
theorem dX8_commonDivisor_20 : decode cX8_commonDivisor 20 = .ok (.lcmp, 1) := by decide +kernel
theorem dX8_commonDivisor_21 : decode cX8_commonDivisor 21 = .ok (.ifCond .eq 24, 3) := by decide +kernel
theorem dX8_commonDivisor_24 : decode cX8_commonDivisor 24 = .ok (.lload 4, 2) := by decide +kernel
theorem dX8_commonDivisor_26 : decode cX8_commonDivisor 26 = .ok (.lload 6, 2) := by decide +kernel
theorem dX8_commonDivisor_28 : decode cX8_commonDivisor 28 = .ok (.lrem, 1) := by decide +kernel
theorem dX8_commonDivisor_29 : decode cX8_commonDivisor 29 = .ok (.lstore 9, 2) := by decide +kernel
theorem dX8_commonDivisor_31 : decode cX8_commonDivisor 31 = .ok (.lload 6, 2) := by decide +kernel
theorem dX8_commonDivisor_33 : decode cX8_commonDivisor 33 = .ok (.lstore 4, 2) := by decide +kernel
theorem dX8_commonDivisor_35 : decode cX8_commonDivisor 35 = .ok (.lload 9, 2) := by decide +kernel
theorem dX8_commonDivisor_37 : decode cX8_commonDivisor 37 = .ok (.lstore 6, 2) := by decide +kernel
theorem dX8_commonDivisor_39 : decode cX8_commonDivisor 39 = .ok (.iinc 8 1, 3) := by decide +kernel
theorem dX8_commonDivisor_42 : decode cX8_commonDivisor 42 = .ok (.goto (-33), 3) := by decide +kernel
theorem dX8_commonDivisor_45 : decode cX8_commonDivisor 45 = .ok (.lload 4, 2) := by decide +kernel
theorem dX8_commonDivisor_47 : decode cX8_commonDivisor 47 = .ok (.lreturn, 1) := by decide +kernel
abbrev mX8_leastTerms : mT := (yX8_leastTerms, RX8, cX8_leastTerms, 7, (some .long), wsX8_leastTerms)
abbrev rX8_leastTerms : Room := { frames := 1, cells := 0, slots := 0, locals := 40 }
theorem dX8_leastTerms_0 : decode cX8_leastTerms 0 = .ok (.lload_n 0, 1) := by decide +kernel
theorem dX8_leastTerms_1 : decode cX8_leastTerms 1 = .ok (.invokestatic 294, 3) := by decide +kernel
theorem dX8_leastTerms_4 : decode cX8_leastTerms 4 = .ok (.lload_n 2, 1) := by decide +kernel
theorem dX8_leastTerms_5 : decode cX8_leastTerms 5 = .ok (.invokestatic 300, 3) := by decide +kernel
theorem dX8_leastTerms_8 : decode cX8_leastTerms 8 = .ok (.lstore 5, 2) := by decide +kernel
theorem dX8_leastTerms_10 : decode cX8_leastTerms 10 = .ok (.lload 5, 2) := by decide +kernel
theorem dX8_leastTerms_12 : decode cX8_leastTerms 12 = .ok (.lconst 0, 1) := by decide +kernel
theorem dX8_leastTerms_13 : decode cX8_leastTerms 13 = .ok (.lcmp, 1) := by decide +kernel
theorem dX8_leastTerms_14 : decode cX8_leastTerms 14 = .ok (.ifCond .ne 7, 3) := by decide +kernel
theorem dX8_leastTerms_17 : decode cX8_leastTerms 17 = .ok (.ldc2_w 170, 3) := by decide +kernel
theorem dX8_leastTerms_20 : decode cX8_leastTerms 20 = .ok (.lreturn, 1) := by decide +kernel
theorem dX8_leastTerms_21 : decode cX8_leastTerms 21 = .ok (.iload 4, 2) := by decide +kernel
theorem dX8_leastTerms_23 : decode cX8_leastTerms 23 = .ok (.ifCond .ne 7, 3) := by decide +kernel
theorem dX8_leastTerms_26 : decode cX8_leastTerms 26 = .ok (.lload_n 0, 1) := by decide +kernel
theorem dX8_leastTerms_27 : decode cX8_leastTerms 27 = .ok (.goto 4, 3) := by decide +kernel
theorem dX8_leastTerms_30 : decode cX8_leastTerms 30 = .ok (.lload_n 2, 1) := by decide +kernel
theorem dX8_leastTerms_31 : decode cX8_leastTerms 31 = .ok (.lload 5, 2) := by decide +kernel
theorem dX8_leastTerms_33 : decode cX8_leastTerms 33 = .ok (.ldiv, 1) := by decide +kernel
theorem dX8_leastTerms_34 : decode cX8_leastTerms 34 = .ok (.lreturn, 1) := by decide +kernel
set_option maxRecDepth 20000 in
theorem ggX8_leastTerms_X8_commonDivisor : GoodIn wsX8_leastTerms wsX8_commonDivisor := goodIn_r _ [9] (by decide +kernel) (by decide +kernel)
set_option maxRecDepth 20000 in
theorem gX8_leastTerms_X8_commonDivisor : GoodIn wsX8_leastTerms (va_wsS RX8 300 yX8_commonDivisor wsX8_commonDivisor) := goodIn_app (goodIn_of _ (by decide +kernel)) ggX8_leastTerms_X8_commonDivisor
theorem wX8_leastTerms_300 : CWS mX8_leastTerms 300 mX8_commonDivisor 2 := ⟨gX8_leastTerms_X8_commonDivisor, ⟨_, rfl⟩, by decide +kernel, by decide +kernel, by decide +kernel⟩
abbrev mX8_draw : mT := (yX8_draw, RX8, cX8_draw, 1, (some .int), wsX8_draw)
abbrev rX8_draw : Room := { frames := 0, cells := 0, slots := 0, locals := 0 }
theorem dX8_draw_0 : decode cX8_draw 0 = .ok (.aload_n 0, 1) := by decide +kernel
theorem dX8_draw_1 : decode cX8_draw 1 = .ok (.aload_n 0, 1) := by decide +kernel
theorem dX8_draw_2 : decode cX8_draw 2 = .ok (.getfield 71, 3) := by decide +kernel
theorem dX8_draw_5 : decode cX8_draw 5 = .ok (.ldc_w 304, 3) := by decide +kernel
theorem dX8_draw_8 : decode cX8_draw 8 = .ok (.imul, 1) := by decide +kernel
theorem dX8_draw_9 : decode cX8_draw 9 = .ok (.sipush 12345, 3) := by decide +kernel
theorem dX8_draw_12 : decode cX8_draw 12 = .ok (.iadd, 1) := by decide +kernel
theorem dX8_draw_13 : decode cX8_draw 13 = .ok (.putfield 71, 3) := by decide +kernel
theorem dX8_draw_16 : decode cX8_draw 16 = .ok (.aload_n 0, 1) := by decide +kernel
theorem dX8_draw_17 : decode cX8_draw 17 = .ok (.getfield 71, 3) := by decide +kernel
theorem dX8_draw_20 : decode cX8_draw 20 = .ok (.bipush 16, 2) := by decide +kernel
theorem dX8_draw_22 : decode cX8_draw 22 = .ok (.iushr, 1) := by decide +kernel
theorem dX8_draw_23 : decode cX8_draw 23 = .ok (.ireturn, 1) := by decide +kernel
theorem iX8_draw_8 : ∀ w ∈ wsX80, w ∈ wsX8_draw := fun w h => List.mem_cons_of_mem _ (List.mem_append_right _ h)
theorem fX8_draw_71 : FL mX8_draw 71 8 10 := ⟨_, _, _, rfl, by decide, iX8_draw_8, by decide +kernel⟩
theorem pX8_draw_71 : FP mX8_draw 71 8 10 .int false := ⟨_, _, _, tyX8, rfl, by decide, iX8_draw_8, by decide +kernel, tyX8_ok, nmX8, rfl, rfl, fun z => absurd z (by decide)⟩
abbrev mX8_looksNow : mT := (yX8_looksNow, RX8, cX8_looksNow, 2, (some .boolean), wsX8_looksNow)
abbrev rX8_looksNow : Room := { frames := 1, cells := 0, slots := 0, locals := 20 }
theorem dX8_looksNow_0 : decode cX8_looksNow 0 = .ok (.aload_n 0, 1) := by decide +kernel
theorem dX8_looksNow_1 : decode cX8_looksNow 1 = .ok (.getfield 64, 3) := by decide +kernel
theorem dX8_looksNow_4 : decode cX8_looksNow 4 = .ok (.getfield 115, 3) := by decide +kernel
theorem dX8_looksNow_7 : decode cX8_looksNow 7 = .ok (.iload_n 1, 1) := by decide +kernel
theorem dX8_looksNow_8 : decode cX8_looksNow 8 = .ok (.iaload, 1) := by decide +kernel
theorem dX8_looksNow_9 : decode cX8_looksNow 9 = .ok (.iconst 2, 1) := by decide +kernel
theorem dX8_looksNow_10 : decode cX8_looksNow 10 = .ok (.if_icmp .ne 28, 3) := by decide +kernel
theorem dX8_looksNow_13 : decode cX8_looksNow 13 = .ok (.aload_n 0, 1) := by decide +kernel
theorem dX8_looksNow_14 : decode cX8_looksNow 14 = .ok (.invokevirtual 305, 3) := by decide +kernel
theorem dX8_looksNow_17 : decode cX8_looksNow 17 = .ok (.bipush 10, 2) := by decide +kernel
theorem dX8_looksNow_19 : decode cX8_looksNow 19 = .ok (.irem, 1) := by decide +kernel
theorem dX8_looksNow_20 : decode cX8_looksNow 20 = .ok (.aload_n 0, 1) := by decide +kernel
theorem dX8_looksNow_21 : decode cX8_looksNow 21 = .ok (.getfield 64, 3) := by decide +kernel
theorem dX8_looksNow_24 : decode cX8_looksNow 24 = .ok (.getfield 119, 3) := by decide +kernel
theorem dX8_looksNow_27 : decode cX8_looksNow 27 = .ok (.iload_n 1, 1) := by decide +kernel
theorem dX8_looksNow_28 : decode cX8_looksNow 28 = .ok (.iaload, 1) := by decide +kernel
theorem dX8_looksNow_29 : decode cX8_looksNow 29 = .ok (.if_icmp .ge 7, 3) := by decide +kernel
theorem dX8_looksNow_32 : decode cX8_looksNow 32 = .ok (.iconst 1, 1) := by decide +kernel
theorem dX8_looksNow_33 : decode cX8_looksNow 33 = .ok (.goto 4, 3) := by decide +kernel
theorem dX8_looksNow_36 : decode cX8_looksNow 36 = .ok (.iconst 0, 1) := by decide +kernel
theorem dX8_looksNow_37 : decode cX8_looksNow 37 = .ok (.ireturn, 1) := by decide +kernel
theorem dX8_looksNow_38 : decode cX8_looksNow 38 = .ok (.aload_n 0, 1) := by decide +kernel
theorem dX8_looksNow_39 : decode cX8_looksNow 39 = .ok (.getfield 64, 3) := by decide +kernel
theorem dX8_looksNow_42 : decode cX8_looksNow 42 = .ok (.getfield 115, 3) := by decide +kernel
theorem dX8_looksNow_45 : decode cX8_looksNow 45 = .ok (.iload_n 1, 1) := by decide +kernel
theorem dX8_looksNow_46 : decode cX8_looksNow 46 = .ok (.iaload, 1) := by decide +kernel
theorem dX8_looksNow_47 : decode cX8_looksNow 47 = .ok (.iconst 1, 1) := by decide +kernel
theorem dX8_looksNow_48 : decode cX8_looksNow 48 = .ok (.if_icmp .ne 7, 3) := by decide +kernel
theorem dX8_looksNow_51 : decode cX8_looksNow 51 = .ok (.iconst 1, 1) := by decide +kernel
theorem dX8_looksNow_52 : decode cX8_looksNow 52 = .ok (.goto 4, 3) := by decide +kernel
theorem dX8_looksNow_55 : decode cX8_looksNow 55 = .ok (.iconst 0, 1) := by decide +kernel
theorem dX8_looksNow_56 : decode cX8_looksNow 56 = .ok (.ireturn, 1) := by decide +kernel
theorem iX8_looksNow_8 : ∀ w ∈ wsX80, w ∈ wsX8_looksNow := fun w h => List.mem_cons_of_mem _ (List.mem_append_left _ (List.mem_append_right _ h))
theorem fX8_looksNow_64 : FL mX8_looksNow 64 8 8 := ⟨_, _, _, rfl, by decide, iX8_looksNow_8, by decide +kernel⟩
theorem iX8_looksNow_6 : ∀ w ∈ wsX60, w ∈ wsX8_looksNow := fun w h => List.mem_cons_of_mem _ (List.mem_append_right _ h)
theorem fX8_looksNow_115 : FL mX8_looksNow 115 6 0 := ⟨_, _, _, rfl, by decide, iX8_looksNow_6, by decide +kernel⟩
theorem fX8_looksNow_119 : FL mX8_looksNow 119 6 1 := ⟨_, _, _, rfl, by decide, iX8_looksNow_6, by decide +kernel⟩
set_option maxRecDepth 20000 in
theorem ggX8_looksNow_X8_draw : GoodIn wsX8_looksNow wsX8_draw := goodIn_r _ [8, 9, 10, 11, 12, 13, 14, 15, 16, 17, 18, 19, 20, 21, 22, 23] (by decide +kernel) (by decide +kernel)
set_option maxRecDepth 20000 in
theorem gX8_looksNow_X8_draw : GoodIn wsX8_looksNow (wsV RX8 305 RX8 yX8_draw wsX8_draw) := goodIn_app (goodIn_of _ (by decide +kernel)) ggX8_looksNow_X8_draw
theorem wX8_looksNow_305 : CWV mX8_looksNow 305 mX8_draw 0 := ⟨gX8_looksNow_X8_draw, ⟨_, rfl⟩, rfl, by decide +kernel, by decide +kernel, by decide +kernel⟩
abbrev mX8_weightToPay : mT := (yX8_weightToPay, RX8, cX8_weightToPay, 5, (some .int), wsX8_weightToPay)
abbrev rX8_weightToPay : Room := { frames := 1, cells := 0, slots := 0, locals := 22 }
theorem dX8_weightToPay_0 : decode cX8_weightToPay 0 = .ok (.iload_n 2, 1) := by decide +kernel
theorem dX8_weightToPay_1 : decode cX8_weightToPay 1 = .ok (.ifCond .eq 14, 3) := by decide +kernel
theorem dX8_weightToPay_4 : decode cX8_weightToPay 4 = .ok (.aload_n 0, 1) := by decide +kernel
theorem dX8_weightToPay_5 : decode cX8_weightToPay 5 = .ok (.getfield 29, 3) := by decide +kernel
theorem dX8_weightToPay_8 : decode cX8_weightToPay 8 = .ok (.iconst 0, 1) := by decide +kernel
theorem dX8_weightToPay_9 : decode cX8_weightToPay 9 = .ok (.invokevirtual 172, 3) := by decide +kernel
theorem dX8_weightToPay_12 : decode cX8_weightToPay 12 = .ok (.goto 5, 3) := by decide +kernel
theorem dX8_weightToPay_15 : decode cX8_weightToPay 15 = .ok (.bipush 9, 2) := by decide +kernel
theorem dX8_weightToPay_17 : decode cX8_weightToPay 17 = .ok (.istore_n 3, 1) := by decide +kernel
theorem dX8_weightToPay_18 : decode cX8_weightToPay 18 = .ok (.aload_n 0, 1) := by decide +kernel
theorem dX8_weightToPay_19 : decode cX8_weightToPay 19 = .ok (.getfield 64, 3) := by decide +kernel
theorem dX8_weightToPay_22 : decode cX8_weightToPay 22 = .ok (.getfield 122, 3) := by decide +kernel
theorem dX8_weightToPay_25 : decode cX8_weightToPay 25 = .ok (.iload_n 1, 1) := by decide +kernel
theorem dX8_weightToPay_26 : decode cX8_weightToPay 26 = .ok (.iaload, 1) := by decide +kernel
theorem dX8_weightToPay_27 : decode cX8_weightToPay 27 = .ok (.iconst 1, 1) := by decide +kernel
theorem dX8_weightToPay_28 : decode cX8_weightToPay 28 = .ok (.if_icmp .ne 37, 3) := by decide +kernel
theorem dX8_weightToPay_31 : decode cX8_weightToPay 31 = .ok (.iconst 0, 1) := by decide +kernel
theorem dX8_weightToPay_32 : decode cX8_weightToPay 32 = .ok (.istore 4, 2) := by decide +kernel
theorem dX8_weightToPay_34 : decode cX8_weightToPay 34 = .ok (.iload 4, 2) := by decide +kernel
theorem dX8_weightToPay_36 : decode cX8_weightToPay 36 = .ok (.iload_n 3, 1) := by decide +kernel
theorem dX8_weightToPay_37 : decode cX8_weightToPay 37 = .ok (.if_icmp .gt 25, 3) := by decide +kernel
theorem dX8_weightToPay_40 : decode cX8_weightToPay 40 = .ok (.aload_n 0, 1) := by decide +kernel
theorem dX8_weightToPay_41 : decode cX8_weightToPay 41 = .ok (.getfield 19, 3) := by decide +kernel
theorem dX8_weightToPay_44 : decode cX8_weightToPay 44 = .ok (.iload_n 1, 1) := by decide +kernel
theorem dX8_weightToPay_45 : decode cX8_weightToPay 45 = .ok (.iload 4, 2) := by decide +kernel
theorem dX8_weightToPay_47 : decode cX8_weightToPay 47 = .ok (.invokevirtual 135, 3) := by decide +kernel
theorem dX8_weightToPay_50 : decode cX8_weightToPay 50 = .ok (.ifCond .le 6, 3) := by decide +kernel
theorem dX8_weightToPay_53 : decode cX8_weightToPay 53 = .ok (.iload 4, 2) := by decide +kernel
theorem dX8_weightToPay_55 : decode cX8_weightToPay 55 = .ok (.ireturn, 1) := by decide +kernel
theorem dX8_weightToPay_56 : decode cX8_weightToPay 56 = .ok (.iinc 4 1, 3) := by decide +kernel
theorem dX8_weightToPay_59 : decode cX8_weightToPay 59 = .ok (.goto (-25), 3) := by decide +kernel
theorem dX8_weightToPay_62 : decode cX8_weightToPay 62 = .ok (.bipush (-9), 2) := by decide +kernel
theorem dX8_weightToPay_64 : decode cX8_weightToPay 64 = .ok (.ireturn, 1) := by decide +kernel
theorem dX8_weightToPay_65 : decode cX8_weightToPay 65 = .ok (.iload_n 3, 1) := by decide +kernel
theorem dX8_weightToPay_66 : decode cX8_weightToPay 66 = .ok (.istore 4, 2) := by decide +kernel
theorem dX8_weightToPay_68 : decode cX8_weightToPay 68 = .ok (.iload 4, 2) := by decide +kernel
theorem dX8_weightToPay_70 : decode cX8_weightToPay 70 = .ok (.ifCond .lt 25, 3) := by decide +kernel
theorem dX8_weightToPay_73 : decode cX8_weightToPay 73 = .ok (.aload_n 0, 1) := by decide +kernel
theorem dX8_weightToPay_74 : decode cX8_weightToPay 74 = .ok (.getfield 19, 3) := by decide +kernel
theorem dX8_weightToPay_77 : decode cX8_weightToPay 77 = .ok (.iload_n 1, 1) := by decide +kernel
theorem dX8_weightToPay_78 : decode cX8_weightToPay 78 = .ok (.iload 4, 2) := by decide +kernel
theorem dX8_weightToPay_80 : decode cX8_weightToPay 80 = .ok (.invokevirtual 135, 3) := by decide +kernel
theorem dX8_weightToPay_83 : decode cX8_weightToPay 83 = .ok (.ifCond .le 6, 3) := by decide +kernel
theorem dX8_weightToPay_86 : decode cX8_weightToPay 86 = .ok (.iload 4, 2) := by decide +kernel
theorem dX8_weightToPay_88 : decode cX8_weightToPay 88 = .ok (.ireturn, 1) := by decide +kernel
theorem dX8_weightToPay_89 : decode cX8_weightToPay 89 = .ok (.iinc 4 (-1), 3) := by decide +kernel
theorem dX8_weightToPay_92 : decode cX8_weightToPay 92 = .ok (.goto (-24), 3) := by decide +kernel
theorem dX8_weightToPay_95 : decode cX8_weightToPay 95 = .ok (.bipush (-9), 2) := by decide +kernel
theorem dX8_weightToPay_97 : decode cX8_weightToPay 97 = .ok (.ireturn, 1) := by decide +kernel
theorem iX8_weightToPay_8 : ∀ w ∈ wsX80, w ∈ wsX8_weightToPay := fun w h => List.mem_cons_of_mem _ (List.mem_append_left _ (List.mem_append_left _ (List.mem_append_left _ (List.mem_append_right _ h))))
theorem fX8_weightToPay_19 : FL mX8_weightToPay 19 8 1 := ⟨_, _, _, rfl, by decide, iX8_weightToPay_8, by decide +kernel⟩
theorem fX8_weightToPay_29 : FL mX8_weightToPay 29 8 3 := ⟨_, _, _, rfl, by decide, iX8_weightToPay_8, by decide +kernel⟩
theorem fX8_weightToPay_64 : FL mX8_weightToPay 64 8 8 := ⟨_, _, _, rfl, by decide, iX8_weightToPay_8, by decide +kernel⟩
theorem iX8_weightToPay_6 : ∀ w ∈ wsX60, w ∈ wsX8_weightToPay := fun w h => List.mem_cons_of_mem _ (List.mem_append_left _ (List.mem_append_left _ (List.mem_append_right _ h)))
theorem fX8_weightToPay_122 : FL mX8_weightToPay 122 6 2 := ⟨_, _, _, rfl, by decide, iX8_weightToPay_6, by decide +kernel⟩
set_option maxRecDepth 20000 in
theorem ggX8_weightToPay_X4_held : GoodIn wsX8_weightToPay wsX4_held := goodIn_r _ [15, 16, 36] (by decide +kernel) (by decide +kernel)
set_option maxRecDepth 20000 in
theorem gX8_weightToPay_X4_held : GoodIn wsX8_weightToPay (wsV RX8 135 RX4 yX4_held wsX4_held) := goodIn_app (goodIn_of _ (by decide +kernel)) ggX8_weightToPay_X4_held
theorem wX8_weightToPay_135 : CWV mX8_weightToPay 135 mX4_held 2 := ⟨gX8_weightToPay_X4_held, ⟨_, rfl⟩, rfl, by decide +kernel, by decide +kernel, by decide +kernel⟩
set_option maxRecDepth 20000 in
theorem ggX8_weightToPay_X7_of : GoodIn wsX8_weightToPay wsX7_of := goodIn_r _ [9, 10, 35] (by decide +kernel) (by decide +kernel)
set_option maxRecDepth 20000 in
theorem gX8_weightToPay_X7_of : GoodIn wsX8_weightToPay (wsV RX8 172 RX7 yX7_of wsX7_of) := goodIn_app (goodIn_of _ (by decide +kernel)) ggX8_weightToPay_X7_of
theorem wX8_weightToPay_172 : CWV mX8_weightToPay 172 mX7_of 1 := ⟨gX8_weightToPay_X7_of, ⟨_, rfl⟩, rfl, by decide +kernel, by decide +kernel, by decide +kernel⟩
abbrev mX8_worthAsItIs : mT := (yX8_worthAsItIs, RX8, cX8_worthAsItIs, 2, (some .int), wsX8_worthAsItIs)
abbrev rX8_worthAsItIs : Room := { frames := 1, cells := 0, slots := 0, locals := 21 }
theorem dX8_worthAsItIs_0 : decode cX8_worthAsItIs 0 = .ok (.iload_n 1, 1) := by decide +kernel
theorem dX8_worthAsItIs_1 : decode cX8_worthAsItIs 1 = .ok (.aload_n 0, 1) := by decide +kernel
theorem dX8_worthAsItIs_2 : decode cX8_worthAsItIs 2 = .ok (.getfield 29, 3) := by decide +kernel
theorem dX8_worthAsItIs_5 : decode cX8_worthAsItIs 5 = .ok (.iconst 0, 1) := by decide +kernel
theorem dX8_worthAsItIs_6 : decode cX8_worthAsItIs 6 = .ok (.invokevirtual 172, 3) := by decide +kernel
theorem dX8_worthAsItIs_9 : decode cX8_worthAsItIs 9 = .ok (.if_icmp .gt 8, 3) := by decide +kernel
theorem dX8_worthAsItIs_12 : decode cX8_worthAsItIs 12 = .ok (.bipush 10, 2) := by decide +kernel
theorem dX8_worthAsItIs_14 : decode cX8_worthAsItIs 14 = .ok (.goto 7, 3) := by decide +kernel
theorem dX8_worthAsItIs_17 : decode cX8_worthAsItIs 17 = .ok (.bipush 10, 2) := by decide +kernel
theorem dX8_worthAsItIs_19 : decode cX8_worthAsItIs 19 = .ok (.iload_n 1, 1) := by decide +kernel
theorem dX8_worthAsItIs_20 : decode cX8_worthAsItIs 20 = .ok (.isub, 1) := by decide +kernel
theorem dX8_worthAsItIs_21 : decode cX8_worthAsItIs 21 = .ok (.ireturn, 1) := by decide +kernel
theorem iX8_worthAsItIs_8 : ∀ w ∈ wsX80, w ∈ wsX8_worthAsItIs := fun w h => List.mem_cons_of_mem _ (List.mem_append_left _ (List.mem_append_right _ h))
theorem fX8_worthAsItIs_29 : FL mX8_worthAsItIs 29 8 3 := ⟨_, _, _, rfl, by decide, iX8_worthAsItIs_8, by decide +kernel⟩
set_option maxRecDepth 20000 in
theorem ggX8_worthAsItIs_X7_of : GoodIn wsX8_worthAsItIs wsX7_of := goodIn_r _ [6, 7, 21] (by decide +kernel) (by decide +kernel)
set_option maxRecDepth 20000 in
theorem gX8_worthAsItIs_X7_of : GoodIn wsX8_worthAsItIs (wsV RX8 172 RX7 yX7_of wsX7_of) := goodIn_app (goodIn_of _ (by decide +kernel)) ggX8_worthAsItIs_X7_of
theorem wX8_worthAsItIs_172 : CWV mX8_worthAsItIs 172 mX7_of 1 := ⟨gX8_worthAsItIs_X7_of, ⟨_, rfl⟩, rfl, by decide +kernel, by decide +kernel, by decide +kernel⟩
abbrev mX8_worthScale : mT := (yX8_worthScale, RX8, cX8_worthScale, 4, (some .long), wsX8_worthScale)
abbrev rX8_worthScale : Room := { frames := 0, cells := 0, slots := 0, locals := 0 }
theorem dX8_worthScale_0 : decode cX8_worthScale 0 = .ok (.lconst 1, 1) := by decide +kernel
theorem dX8_worthScale_1 : decode cX8_worthScale 1 = .ok (.lstore_n 1, 1) := by decide +kernel
theorem dX8_worthScale_2 : decode cX8_worthScale 2 = .ok (.iload_n 0, 1) := by decide +kernel
theorem dX8_worthScale_3 : decode cX8_worthScale 3 = .ok (.istore_n 3, 1) := by decide +kernel
theorem dX8_worthScale_4 : decode cX8_worthScale 4 = .ok (.iload_n 3, 1) := by decide +kernel
theorem dX8_worthScale_5 : decode cX8_worthScale 5 = .ok (.bipush 9, 2) := by decide +kernel
theorem dX8_worthScale_7 : decode cX8_worthScale 7 = .ok (.if_icmp .ge 15, 3) := by decide +kernel
theorem dX8_worthScale_10 : decode cX8_worthScale 10 = .ok (.lload_n 1, 1) := by decide +kernel
theorem dX8_worthScale_11 : decode cX8_worthScale 11 = .ok (.ldc2_w 323, 3) := by decide +kernel
theorem dX8_worthScale_14 : decode cX8_worthScale 14 = .ok (.lmul, 1) := by decide +kernel
theorem dX8_worthScale_15 : decode cX8_worthScale 15 = .ok (.lstore_n 1, 1) := by decide +kernel
theorem dX8_worthScale_16 : decode cX8_worthScale 16 = .ok (.iinc 3 1, 3) := by decide +kernel
theorem dX8_worthScale_19 : decode cX8_worthScale 19 = .ok (.goto (-15), 3) := by decide +kernel
theorem dX8_worthScale_22 : decode cX8_worthScale 22 = .ok (.lload_n 1, 1) := by decide +kernel
theorem dX8_worthScale_23 : decode cX8_worthScale 23 = .ok (.lreturn, 1) := by decide +kernel
abbrev mX8_clippedScaled : mT := (yX8_clippedScaled, RX8, cX8_clippedScaled, 8, (some .long), wsX8_clippedScaled)
abbrev rX8_clippedScaled : Room := { frames := 1, cells := 0, slots := 0, locals := 23 }
theorem dX8_clippedScaled_0 : decode cX8_clippedScaled 0 = .ok (.iload_n 1, 1) := by decide +kernel
theorem dX8_clippedScaled_1 : decode cX8_clippedScaled 1 = .ok (.iconst 1, 1) := by decide +kernel
theorem dX8_clippedScaled_2 : decode cX8_clippedScaled 2 = .ok (.iadd, 1) := by decide +kernel
theorem dX8_clippedScaled_3 : decode cX8_clippedScaled 3 = .ok (.invokestatic 215, 3) := by decide +kernel
theorem dX8_clippedScaled_6 : decode cX8_clippedScaled 6 = .ok (.lstore 4, 2) := by decide +kernel
theorem dX8_clippedScaled_8 : decode cX8_clippedScaled 8 = .ok (.aload_n 0, 1) := by decide +kernel
theorem dX8_clippedScaled_9 : decode cX8_clippedScaled 9 = .ok (.getfield 29, 3) := by decide +kernel
theorem dX8_clippedScaled_12 : decode cX8_clippedScaled 12 = .ok (.iconst 3, 1) := by decide +kernel
theorem dX8_clippedScaled_13 : decode cX8_clippedScaled 13 = .ok (.invokevirtual 172, 3) := by decide +kernel
theorem dX8_clippedScaled_16 : decode cX8_clippedScaled 16 = .ok (.i2l, 1) := by decide +kernel
theorem dX8_clippedScaled_17 : decode cX8_clippedScaled 17 = .ok (.lstore 6, 2) := by decide +kernel
theorem dX8_clippedScaled_19 : decode cX8_clippedScaled 19 = .ok (.ldc2_w 323, 3) := by decide +kernel
theorem dX8_clippedScaled_22 : decode cX8_clippedScaled 22 = .ok (.lload 6, 2) := by decide +kernel
theorem dX8_clippedScaled_24 : decode cX8_clippedScaled 24 = .ok (.lsub, 1) := by decide +kernel
theorem dX8_clippedScaled_25 : decode cX8_clippedScaled 25 = .ok (.aload_n 0, 1) := by decide +kernel
theorem dX8_clippedScaled_26 : decode cX8_clippedScaled 26 = .ok (.getfield 29, 3) := by decide +kernel
theorem dX8_clippedScaled_29 : decode cX8_clippedScaled 29 = .ok (.iconst 4, 1) := by decide +kernel
theorem dX8_clippedScaled_30 : decode cX8_clippedScaled 30 = .ok (.invokevirtual 172, 3) := by decide +kernel
theorem dX8_clippedScaled_33 : decode cX8_clippedScaled 33 = .ok (.i2l, 1) := by decide +kernel
theorem dX8_clippedScaled_34 : decode cX8_clippedScaled 34 = .ok (.lload 4, 2) := by decide +kernel
theorem dX8_clippedScaled_36 : decode cX8_clippedScaled 36 = .ok (.lmul, 1) := by decide +kernel
theorem dX8_clippedScaled_37 : decode cX8_clippedScaled 37 = .ok (.lload_n 2, 1) := by decide +kernel
theorem dX8_clippedScaled_38 : decode cX8_clippedScaled 38 = .ok (.ladd, 1) := by decide +kernel
theorem dX8_clippedScaled_39 : decode cX8_clippedScaled 39 = .ok (.lmul, 1) := by decide +kernel
theorem dX8_clippedScaled_40 : decode cX8_clippedScaled 40 = .ok (.lload 6, 2) := by decide +kernel
theorem dX8_clippedScaled_42 : decode cX8_clippedScaled 42 = .ok (.aload_n 0, 1) := by decide +kernel
theorem dX8_clippedScaled_43 : decode cX8_clippedScaled 43 = .ok (.getfield 29, 3) := by decide +kernel
theorem dX8_clippedScaled_46 : decode cX8_clippedScaled 46 = .ok (.iconst 2, 1) := by decide +kernel
theorem dX8_clippedScaled_47 : decode cX8_clippedScaled 47 = .ok (.invokevirtual 172, 3) := by decide +kernel
theorem dX8_clippedScaled_50 : decode cX8_clippedScaled 50 = .ok (.i2l, 1) := by decide +kernel
theorem dX8_clippedScaled_51 : decode cX8_clippedScaled 51 = .ok (.lmul, 1) := by decide +kernel
theorem dX8_clippedScaled_52 : decode cX8_clippedScaled 52 = .ok (.lload 4, 2) := by decide +kernel
theorem dX8_clippedScaled_54 : decode cX8_clippedScaled 54 = .ok (.lmul, 1) := by decide +kernel
theorem dX8_clippedScaled_55 : decode cX8_clippedScaled 55 = .ok (.lsub, 1) := by decide +kernel
theorem dX8_clippedScaled_56 : decode cX8_clippedScaled 56 = .ok (.lreturn, 1) := by decide +kernel
theorem iX8_clippedScaled_8 : ∀ w ∈ wsX80, w ∈ wsX8_clippedScaled := fun w h => List.mem_cons_of_mem _ (List.mem_append_left _ (List.mem_append_right _ h))
theorem fX8_clippedScaled_29 : FL mX8_clippedScaled 29 8 3 := ⟨_, _, _, rfl, by decide, iX8_clippedScaled_8, by decide +kernel⟩
set_option maxRecDepth 20000 in
theorem ggX8_clippedScaled_X7_of : GoodIn wsX8_clippedScaled wsX7_of := goodIn_r _ [11, 12, 26] (by decide +kernel) (by decide +kernel)
set_option maxRecDepth 20000 in
theorem gX8_clippedScaled_X7_of : GoodIn wsX8_clippedScaled (wsV RX8 172 RX7 yX7_of wsX7_of) := goodIn_app (goodIn_of _ (by decide +kernel)) ggX8_clippedScaled_X7_of
theorem wX8_clippedScaled_172 : CWV mX8_clippedScaled 172 mX7_of 1 := ⟨gX8_clippedScaled_X7_of, ⟨_, rfl⟩, rfl, by decide +kernel, by decide +kernel, by decide +kernel⟩
set_option maxRecDepth 20000 in
theorem ggX8_clippedScaled_X8_worthScale : GoodIn wsX8_clippedScaled wsX8_worthScale := goodIn_r _ [6, 2] (by decide +kernel) (by decide +kernel)
set_option maxRecDepth 20000 in
theorem gX8_clippedScaled_X8_worthScale : GoodIn wsX8_clippedScaled (va_wsS RX8 215 yX8_worthScale wsX8_worthScale) := goodIn_app (goodIn_of _ (by decide +kernel)) ggX8_clippedScaled_X8_worthScale
theorem wX8_clippedScaled_215 : CWS mX8_clippedScaled 215 mX8_worthScale 1 := ⟨gX8_clippedScaled_X8_worthScale, ⟨_, rfl⟩, by decide +kernel, by decide +kernel, by decide +kernel⟩
abbrev mX8_worthScaled : mT := (yX8_worthScaled, RX8, cX8_worthScaled, 5, (some .long), wsX8_worthScaled)
abbrev rX8_worthScaled : Room := { frames := 2, cells := 0, slots := 0, locals := 50 }
theorem dX8_worthScaled_0 : decode cX8_worthScaled 0 = .ok (.aload_n 0, 1) := by decide +kernel
theorem dX8_worthScaled_1 : decode cX8_worthScaled 1 = .ok (.bipush 9, 2) := by decide +kernel
theorem dX8_worthScaled_3 : decode cX8_worthScaled 3 = .ok (.invokevirtual 325, 3) := by decide +kernel
theorem dX8_worthScaled_6 : decode cX8_worthScaled 6 = .ok (.i2l, 1) := by decide +kernel
theorem dX8_worthScaled_7 : decode cX8_worthScaled 7 = .ok (.lstore_n 2, 1) := by decide +kernel
theorem dX8_worthScaled_8 : decode cX8_worthScaled 8 = .ok (.bipush 8, 2) := by decide +kernel
theorem dX8_worthScaled_10 : decode cX8_worthScaled 10 = .ok (.istore 4, 2) := by decide +kernel
theorem dX8_worthScaled_12 : decode cX8_worthScaled 12 = .ok (.iload 4, 2) := by decide +kernel
theorem dX8_worthScaled_14 : decode cX8_worthScaled 14 = .ok (.iload_n 1, 1) := by decide +kernel
theorem dX8_worthScaled_15 : decode cX8_worthScaled 15 = .ok (.if_icmp .lt 33, 3) := by decide +kernel
theorem dX8_worthScaled_18 : decode cX8_worthScaled 18 = .ok (.aload_n 0, 1) := by decide +kernel
theorem dX8_worthScaled_19 : decode cX8_worthScaled 19 = .ok (.iload 4, 2) := by decide +kernel
theorem dX8_worthScaled_21 : decode cX8_worthScaled 21 = .ok (.invokevirtual 325, 3) := by decide +kernel
theorem dX8_worthScaled_24 : decode cX8_worthScaled 24 = .ok (.i2l, 1) := by decide +kernel
theorem dX8_worthScaled_25 : decode cX8_worthScaled 25 = .ok (.iload 4, 2) := by decide +kernel
theorem dX8_worthScaled_27 : decode cX8_worthScaled 27 = .ok (.invokestatic 215, 3) := by decide +kernel
theorem dX8_worthScaled_30 : decode cX8_worthScaled 30 = .ok (.lmul, 1) := by decide +kernel
theorem dX8_worthScaled_31 : decode cX8_worthScaled 31 = .ok (.aload_n 0, 1) := by decide +kernel
theorem dX8_worthScaled_32 : decode cX8_worthScaled 32 = .ok (.iload 4, 2) := by decide +kernel
theorem dX8_worthScaled_34 : decode cX8_worthScaled 34 = .ok (.lload_n 2, 1) := by decide +kernel
theorem dX8_worthScaled_35 : decode cX8_worthScaled 35 = .ok (.invokevirtual 328, 3) := by decide +kernel
theorem dX8_worthScaled_38 : decode cX8_worthScaled 38 = .ok (.invokestatic 332, 3) := by decide +kernel
theorem dX8_worthScaled_41 : decode cX8_worthScaled 41 = .ok (.lstore_n 2, 1) := by decide +kernel
theorem dX8_worthScaled_42 : decode cX8_worthScaled 42 = .ok (.iinc 4 (-1), 3) := by decide +kernel
theorem dX8_worthScaled_45 : decode cX8_worthScaled 45 = .ok (.goto (-33), 3) := by decide +kernel
theorem dX8_worthScaled_48 : decode cX8_worthScaled 48 = .ok (.lload_n 2, 1) := by decide +kernel
theorem dX8_worthScaled_49 : decode cX8_worthScaled 49 = .ok (.lreturn, 1) := by decide +kernel
set_option maxRecDepth 20000 in
theorem ggX8_worthScaled_X8_worthScale : GoodIn wsX8_worthScaled wsX8_worthScale := goodIn_r _ [19, 20] (by decide +kernel) (by decide +kernel)
set_option maxRecDepth 20000 in
theorem gX8_worthScaled_X8_worthScale : GoodIn wsX8_worthScaled (va_wsS RX8 215 yX8_worthScale wsX8_worthScale) := goodIn_app (goodIn_of _ (by decide +kernel)) ggX8_worthScaled_X8_worthScale
theorem wX8_worthScaled_215 : CWS mX8_worthScaled 215 mX8_worthScale 1 := ⟨gX8_worthScaled_X8_worthScale, ⟨_, rfl⟩, by decide +kernel, by decide +kernel, by decide +kernel⟩
set_option maxRecDepth 20000 in
theorem ggX8_worthScaled_X8_worthAsItIs : GoodIn wsX8_worthScaled wsX8_worthAsItIs := goodIn_r _ [9, 10, 11, 12, 13, 14, 15, 16, 25, 26, 27, 28, 29, 30, 31, 32, 33, 34, 35, 36, 37, 38] (by decide +kernel) (by decide +kernel)
set_option maxRecDepth 20000 in
theorem gX8_worthScaled_X8_worthAsItIs : GoodIn wsX8_worthScaled (wsV RX8 325 RX8 yX8_worthAsItIs wsX8_worthAsItIs) := goodIn_app (goodIn_of _ (by decide +kernel)) ggX8_worthScaled_X8_worthAsItIs
theorem wX8_worthScaled_325 : CWV mX8_worthScaled 325 mX8_worthAsItIs 1 := ⟨gX8_worthScaled_X8_worthAsItIs, ⟨_, rfl⟩, rfl, by decide +kernel, by decide +kernel, by decide +kernel⟩
set_option maxRecDepth 20000 in
theorem ggX8_worthScaled_X8_clippedScaled : GoodIn wsX8_worthScaled wsX8_clippedScaled := goodIn_r _ [24, 10, 20, 17, 18, 8, 19, 11, 12, 13, 14, 15, 16, 25, 26, 27, 28, 29, 30, 31, 32, 33, 34, 35, 36, 37, 38] (by decide +kernel) (by decide +kernel)
set_option maxRecDepth 20000 in
theorem gX8_worthScaled_X8_clippedScaled : GoodIn wsX8_worthScaled (wsV RX8 328 RX8 yX8_clippedScaled wsX8_clippedScaled) := goodIn_app (goodIn_of _ (by decide +kernel)) ggX8_worthScaled_X8_clippedScaled
theorem wX8_worthScaled_328 : CWV mX8_worthScaled 328 mX8_clippedScaled 2 := ⟨gX8_worthScaled_X8_clippedScaled, ⟨_, rfl⟩, rfl, by decide +kernel, by decide +kernel, by decide +kernel⟩
abbrev mX8_clippedUntil : mT := (yX8_clippedUntil, RX8, cX8_clippedUntil, 3, (some .int), wsX8_clippedUntil)
abbrev rX8_clippedUntil : Room := { frames := 3, cells := 0, slots := 0, locals := 74 }
theorem dX8_clippedUntil_0 : decode cX8_clippedUntil 0 = .ok (.iload_n 1, 1) := by decide +kernel
theorem dX8_clippedUntil_1 : decode cX8_clippedUntil 1 = .ok (.istore_n 2, 1) := by decide +kernel
theorem dX8_clippedUntil_2 : decode cX8_clippedUntil 2 = .ok (.iload_n 2, 1) := by decide +kernel
theorem dX8_clippedUntil_3 : decode cX8_clippedUntil 3 = .ok (.bipush 9, 2) := by decide +kernel
theorem dX8_clippedUntil_5 : decode cX8_clippedUntil 5 = .ok (.if_icmp .ge 38, 3) := by decide +kernel
theorem dX8_clippedUntil_8 : decode cX8_clippedUntil 8 = .ok (.aload_n 0, 1) := by decide +kernel
theorem dX8_clippedUntil_9 : decode cX8_clippedUntil 9 = .ok (.iload_n 2, 1) := by decide +kernel
theorem dX8_clippedUntil_10 : decode cX8_clippedUntil 10 = .ok (.aload_n 0, 1) := by decide +kernel
theorem dX8_clippedUntil_11 : decode cX8_clippedUntil 11 = .ok (.iload_n 2, 1) := by decide +kernel
theorem dX8_clippedUntil_12 : decode cX8_clippedUntil 12 = .ok (.iconst 1, 1) := by decide +kernel
theorem dX8_clippedUntil_13 : decode cX8_clippedUntil 13 = .ok (.iadd, 1) := by decide +kernel
theorem dX8_clippedUntil_14 : decode cX8_clippedUntil 14 = .ok (.invokevirtual 212, 3) := by decide +kernel
theorem dX8_clippedUntil_17 : decode cX8_clippedUntil 17 = .ok (.invokevirtual 328, 3) := by decide +kernel
theorem dX8_clippedUntil_20 : decode cX8_clippedUntil 20 = .ok (.aload_n 0, 1) := by decide +kernel
theorem dX8_clippedUntil_21 : decode cX8_clippedUntil 21 = .ok (.iload_n 2, 1) := by decide +kernel
theorem dX8_clippedUntil_22 : decode cX8_clippedUntil 22 = .ok (.invokevirtual 325, 3) := by decide +kernel
theorem dX8_clippedUntil_25 : decode cX8_clippedUntil 25 = .ok (.i2l, 1) := by decide +kernel
theorem dX8_clippedUntil_26 : decode cX8_clippedUntil 26 = .ok (.iload_n 2, 1) := by decide +kernel
theorem dX8_clippedUntil_27 : decode cX8_clippedUntil 27 = .ok (.invokestatic 215, 3) := by decide +kernel
theorem dX8_clippedUntil_30 : decode cX8_clippedUntil 30 = .ok (.lmul, 1) := by decide +kernel
theorem dX8_clippedUntil_31 : decode cX8_clippedUntil 31 = .ok (.lcmp, 1) := by decide +kernel
theorem dX8_clippedUntil_32 : decode cX8_clippedUntil 32 = .ok (.ifCond .gt 5, 3) := by decide +kernel
theorem dX8_clippedUntil_35 : decode cX8_clippedUntil 35 = .ok (.iload_n 2, 1) := by decide +kernel
theorem dX8_clippedUntil_36 : decode cX8_clippedUntil 36 = .ok (.ireturn, 1) := by decide +kernel
theorem dX8_clippedUntil_37 : decode cX8_clippedUntil 37 = .ok (.iinc 2 1, 3) := by decide +kernel
theorem dX8_clippedUntil_40 : decode cX8_clippedUntil 40 = .ok (.goto (-38), 3) := by decide +kernel
theorem dX8_clippedUntil_43 : decode cX8_clippedUntil 43 = .ok (.bipush 9, 2) := by decide +kernel
theorem dX8_clippedUntil_45 : decode cX8_clippedUntil 45 = .ok (.ireturn, 1) := by decide +kernel
set_option maxRecDepth 20000 in
theorem ggX8_clippedUntil_X8_worthScaled : GoodIn wsX8_clippedUntil wsX8_worthScaled := goodIn_r _ [5, 6, 7, 8, 9, 10, 11, 12, 4, 13, 14, 15, 16, 17, 18, 19, 20, 21, 22, 23, 24, 25, 26, 27, 28, 29, 30, 31, 32, 33, 34, 35, 36, 37, 38, 39, 40, 41, 42] (by decide +kernel) (by decide +kernel)
set_option maxRecDepth 20000 in
theorem gX8_clippedUntil_X8_worthScaled : GoodIn wsX8_clippedUntil (wsV RX8 212 RX8 yX8_worthScaled wsX8_worthScaled) := goodIn_app (goodIn_of _ (by decide +kernel)) ggX8_clippedUntil_X8_worthScaled
theorem wX8_clippedUntil_212 : CWV mX8_clippedUntil 212 mX8_worthScaled 1 := ⟨gX8_clippedUntil_X8_worthScaled, ⟨_, rfl⟩, rfl, by decide +kernel, by decide +kernel, by decide +kernel⟩
set_option maxRecDepth 20000 in
theorem ggX8_clippedUntil_X8_worthScale : GoodIn wsX8_clippedUntil wsX8_worthScale := goodIn_r _ [23, 24] (by decide +kernel) (by decide +kernel)
set_option maxRecDepth 20000 in
theorem gX8_clippedUntil_X8_worthScale : GoodIn wsX8_clippedUntil (va_wsS RX8 215 yX8_worthScale wsX8_worthScale) := goodIn_app (goodIn_of _ (by decide +kernel)) ggX8_clippedUntil_X8_worthScale
theorem wX8_clippedUntil_215 : CWS mX8_clippedUntil 215 mX8_worthScale 1 := ⟨gX8_clippedUntil_X8_worthScale, ⟨_, rfl⟩, by decide +kernel, by decide +kernel, by decide +kernel⟩
set_option maxRecDepth 20000 in
theorem ggX8_clippedUntil_X8_worthAsItIs : GoodIn wsX8_clippedUntil wsX8_worthAsItIs := goodIn_r _ [13, 14, 15, 16, 17, 18, 19, 20, 29, 30, 31, 32, 33, 34, 35, 36, 37, 38, 39, 40, 41, 42] (by decide +kernel) (by decide +kernel)
set_option maxRecDepth 20000 in
theorem gX8_clippedUntil_X8_worthAsItIs : GoodIn wsX8_clippedUntil (wsV RX8 325 RX8 yX8_worthAsItIs wsX8_worthAsItIs) := goodIn_app (goodIn_of _ (by decide +kernel)) ggX8_clippedUntil_X8_worthAsItIs
theorem wX8_clippedUntil_325 : CWV mX8_clippedUntil 325 mX8_worthAsItIs 1 := ⟨gX8_clippedUntil_X8_worthAsItIs, ⟨_, rfl⟩, rfl, by decide +kernel, by decide +kernel, by decide +kernel⟩
set_option maxRecDepth 20000 in
theorem ggX8_clippedUntil_X8_clippedScaled : GoodIn wsX8_clippedUntil wsX8_clippedScaled := goodIn_r _ [28, 14, 24, 21, 22, 4, 23, 15, 16, 17, 18, 19, 20, 29, 30, 31, 32, 33, 34, 35, 36, 37, 38, 39, 40, 41, 42] (by decide +kernel) (by decide +kernel)
set_option maxRecDepth 20000 in
theorem gX8_clippedUntil_X8_clippedScaled : GoodIn wsX8_clippedUntil (wsV RX8 328 RX8 yX8_clippedScaled wsX8_clippedScaled) := goodIn_app (goodIn_of _ (by decide +kernel)) ggX8_clippedUntil_X8_clippedScaled
theorem wX8_clippedUntil_328 : CWV mX8_clippedUntil 328 mX8_clippedScaled 2 := ⟨gX8_clippedUntil_X8_clippedScaled, ⟨_, rfl⟩, rfl, by decide +kernel, by decide +kernel, by decide +kernel⟩
abbrev mX8_heldAtWhenMelted : mT := (yX8_heldAtWhenMelted, RX8, cX8_heldAtWhenMelted, 8, (some .int), wsX8_heldAtWhenMelted)
abbrev rX8_heldAtWhenMelted : Room := { frames := 2, cells := 0, slots := 0, locals := 42 }
theorem dX8_heldAtWhenMelted_0 : decode cX8_heldAtWhenMelted 0 = .ok (.iconst 0, 1) := by decide +kernel
theorem dX8_heldAtWhenMelted_1 : decode cX8_heldAtWhenMelted 1 = .ok (.istore 4, 2) := by decide +kernel
theorem dX8_heldAtWhenMelted_3 : decode cX8_heldAtWhenMelted 3 = .ok (.iconst 0, 1) := by decide +kernel
theorem dX8_heldAtWhenMelted_4 : decode cX8_heldAtWhenMelted 4 = .ok (.istore 5, 2) := by decide +kernel
theorem dX8_heldAtWhenMelted_6 : decode cX8_heldAtWhenMelted 6 = .ok (.iconst 0, 1) := by decide +kernel
theorem dX8_heldAtWhenMelted_7 : decode cX8_heldAtWhenMelted 7 = .ok (.istore 6, 2) := by decide +kernel
theorem dX8_heldAtWhenMelted_9 : decode cX8_heldAtWhenMelted 9 = .ok (.iload 6, 2) := by decide +kernel
theorem dX8_heldAtWhenMelted_11 : decode cX8_heldAtWhenMelted 11 = .ok (.bipush 10, 2) := by decide +kernel
theorem dX8_heldAtWhenMelted_13 : decode cX8_heldAtWhenMelted 13 = .ok (.if_icmp .ge 57, 3) := by decide +kernel
theorem dX8_heldAtWhenMelted_16 : decode cX8_heldAtWhenMelted 16 = .ok (.aload_n 0, 1) := by decide +kernel
theorem dX8_heldAtWhenMelted_17 : decode cX8_heldAtWhenMelted 17 = .ok (.getfield 19, 3) := by decide +kernel
theorem dX8_heldAtWhenMelted_20 : decode cX8_heldAtWhenMelted 20 = .ok (.iload_n 1, 1) := by decide +kernel
theorem dX8_heldAtWhenMelted_21 : decode cX8_heldAtWhenMelted 21 = .ok (.iload 6, 2) := by decide +kernel
theorem dX8_heldAtWhenMelted_23 : decode cX8_heldAtWhenMelted 23 = .ok (.invokevirtual 135, 3) := by decide +kernel
theorem dX8_heldAtWhenMelted_26 : decode cX8_heldAtWhenMelted 26 = .ok (.istore 7, 2) := by decide +kernel
theorem dX8_heldAtWhenMelted_28 : decode cX8_heldAtWhenMelted 28 = .ok (.iload 6, 2) := by decide +kernel
theorem dX8_heldAtWhenMelted_30 : decode cX8_heldAtWhenMelted 30 = .ok (.iload_n 2, 1) := by decide +kernel
theorem dX8_heldAtWhenMelted_31 : decode cX8_heldAtWhenMelted 31 = .ok (.if_icmp .lt 19, 3) := by decide +kernel
theorem dX8_heldAtWhenMelted_34 : decode cX8_heldAtWhenMelted 34 = .ok (.iload 5, 2) := by decide +kernel
theorem dX8_heldAtWhenMelted_36 : decode cX8_heldAtWhenMelted 36 = .ok (.iload 7, 2) := by decide +kernel
theorem dX8_heldAtWhenMelted_38 : decode cX8_heldAtWhenMelted 38 = .ok (.bipush 10, 2) := by decide +kernel
theorem dX8_heldAtWhenMelted_40 : decode cX8_heldAtWhenMelted 40 = .ok (.iload 6, 2) := by decide +kernel
theorem dX8_heldAtWhenMelted_42 : decode cX8_heldAtWhenMelted 42 = .ok (.isub, 1) := by decide +kernel
theorem dX8_heldAtWhenMelted_43 : decode cX8_heldAtWhenMelted 43 = .ok (.imul, 1) := by decide +kernel
theorem dX8_heldAtWhenMelted_44 : decode cX8_heldAtWhenMelted 44 = .ok (.iadd, 1) := by decide +kernel
theorem dX8_heldAtWhenMelted_45 : decode cX8_heldAtWhenMelted 45 = .ok (.istore 5, 2) := by decide +kernel
theorem dX8_heldAtWhenMelted_47 : decode cX8_heldAtWhenMelted 47 = .ok (.goto 17, 3) := by decide +kernel
theorem dX8_heldAtWhenMelted_50 : decode cX8_heldAtWhenMelted 50 = .ok (.iload 4, 2) := by decide +kernel
theorem dX8_heldAtWhenMelted_52 : decode cX8_heldAtWhenMelted 52 = .ok (.iload 7, 2) := by decide +kernel
theorem dX8_heldAtWhenMelted_54 : decode cX8_heldAtWhenMelted 54 = .ok (.aload_n 0, 1) := by decide +kernel
theorem dX8_heldAtWhenMelted_55 : decode cX8_heldAtWhenMelted 55 = .ok (.iload 6, 2) := by decide +kernel
theorem dX8_heldAtWhenMelted_57 : decode cX8_heldAtWhenMelted 57 = .ok (.invokevirtual 325, 3) := by decide +kernel
theorem dX8_heldAtWhenMelted_60 : decode cX8_heldAtWhenMelted 60 = .ok (.imul, 1) := by decide +kernel
theorem dX8_heldAtWhenMelted_61 : decode cX8_heldAtWhenMelted 61 = .ok (.iadd, 1) := by decide +kernel
theorem dX8_heldAtWhenMelted_62 : decode cX8_heldAtWhenMelted 62 = .ok (.istore 4, 2) := by decide +kernel
theorem dX8_heldAtWhenMelted_64 : decode cX8_heldAtWhenMelted 64 = .ok (.iinc 6 1, 3) := by decide +kernel
theorem dX8_heldAtWhenMelted_67 : decode cX8_heldAtWhenMelted 67 = .ok (.goto (-58), 3) := by decide +kernel
theorem dX8_heldAtWhenMelted_70 : decode cX8_heldAtWhenMelted 70 = .ok (.iload 4, 2) := by decide +kernel
theorem dX8_heldAtWhenMelted_72 : decode cX8_heldAtWhenMelted 72 = .ok (.iload 5, 2) := by decide +kernel
theorem dX8_heldAtWhenMelted_74 : decode cX8_heldAtWhenMelted 74 = .ok (.bipush 100, 2) := by decide +kernel
theorem dX8_heldAtWhenMelted_76 : decode cX8_heldAtWhenMelted 76 = .ok (.iload_n 3, 1) := by decide +kernel
theorem dX8_heldAtWhenMelted_77 : decode cX8_heldAtWhenMelted 77 = .ok (.isub, 1) := by decide +kernel
theorem dX8_heldAtWhenMelted_78 : decode cX8_heldAtWhenMelted 78 = .ok (.imul, 1) := by decide +kernel
theorem dX8_heldAtWhenMelted_79 : decode cX8_heldAtWhenMelted 79 = .ok (.sipush 1000, 3) := by decide +kernel
theorem dX8_heldAtWhenMelted_82 : decode cX8_heldAtWhenMelted 82 = .ok (.idiv, 1) := by decide +kernel
theorem dX8_heldAtWhenMelted_83 : decode cX8_heldAtWhenMelted 83 = .ok (.bipush 10, 2) := by decide +kernel
theorem dX8_heldAtWhenMelted_85 : decode cX8_heldAtWhenMelted 85 = .ok (.imul, 1) := by decide +kernel
theorem dX8_heldAtWhenMelted_86 : decode cX8_heldAtWhenMelted 86 = .ok (.iadd, 1) := by decide +kernel
theorem dX8_heldAtWhenMelted_87 : decode cX8_heldAtWhenMelted 87 = .ok (.ireturn, 1) := by decide +kernel
theorem iX8_heldAtWhenMelted_8 : ∀ w ∈ wsX80, w ∈ wsX8_heldAtWhenMelted := fun w h => List.mem_cons_of_mem _ (List.mem_append_left _ (List.mem_append_left _ (List.mem_append_right _ h)))
theorem fX8_heldAtWhenMelted_19 : FL mX8_heldAtWhenMelted 19 8 1 := ⟨_, _, _, rfl, by decide, iX8_heldAtWhenMelted_8, by decide +kernel⟩
set_option maxRecDepth 20000 in
theorem ggX8_heldAtWhenMelted_X4_held : GoodIn wsX8_heldAtWhenMelted wsX4_held := goodIn_r _ [6, 7, 33] (by decide +kernel) (by decide +kernel)
set_option maxRecDepth 20000 in
theorem gX8_heldAtWhenMelted_X4_held : GoodIn wsX8_heldAtWhenMelted (wsV RX8 135 RX4 yX4_held wsX4_held) := goodIn_app (goodIn_of _ (by decide +kernel)) ggX8_heldAtWhenMelted_X4_held
theorem wX8_heldAtWhenMelted_135 : CWV mX8_heldAtWhenMelted 135 mX4_held 2 := ⟨gX8_heldAtWhenMelted_X4_held, ⟨_, rfl⟩, rfl, by decide +kernel, by decide +kernel, by decide +kernel⟩
set_option maxRecDepth 20000 in
theorem ggX8_heldAtWhenMelted_X8_worthAsItIs : GoodIn wsX8_heldAtWhenMelted wsX8_worthAsItIs := goodIn_r _ [12, 13, 14, 15, 16, 17, 18, 19, 20, 21, 22, 23, 24, 25, 26, 27, 28, 29, 30, 31, 32, 34] (by decide +kernel) (by decide +kernel)
set_option maxRecDepth 20000 in
theorem gX8_heldAtWhenMelted_X8_worthAsItIs : GoodIn wsX8_heldAtWhenMelted (wsV RX8 325 RX8 yX8_worthAsItIs wsX8_worthAsItIs) := goodIn_app (goodIn_of _ (by decide +kernel)) ggX8_heldAtWhenMelted_X8_worthAsItIs
theorem wX8_heldAtWhenMelted_325 : CWV mX8_heldAtWhenMelted 325 mX8_worthAsItIs 1 := ⟨gX8_heldAtWhenMelted_X8_worthAsItIs, ⟨_, rfl⟩, rfl, by decide +kernel, by decide +kernel, by decide +kernel⟩
abbrev mX8_asWay : mT := (yX8_asWay, RX8, cX8_asWay, 2, (some .int), wsX8_asWay)
abbrev rX8_asWay : Room := { frames := 3, cells := 0, slots := 0, locals := 67 }
theorem dX8_asWay_0 : decode cX8_asWay 0 = .ok (.aload_n 0, 1) := by decide +kernel
theorem dX8_asWay_1 : decode cX8_asWay 1 = .ok (.dup, 1) := by decide +kernel
theorem dX8_asWay_2 : decode cX8_asWay 2 = .ok (.getfield 78, 3) := by decide +kernel
theorem dX8_asWay_5 : decode cX8_asWay 5 = .ok (.lconst 1, 1) := by decide +kernel
theorem dX8_asWay_6 : decode cX8_asWay 6 = .ok (.ladd, 1) := by decide +kernel
theorem dX8_asWay_7 : decode cX8_asWay 7 = .ok (.putfield 78, 3) := by decide +kernel
theorem dX8_asWay_10 : decode cX8_asWay 10 = .ok (.aload_n 0, 1) := by decide +kernel
theorem dX8_asWay_11 : decode cX8_asWay 11 = .ok (.getfield 19, 3) := by decide +kernel
theorem dX8_asWay_14 : decode cX8_asWay 14 = .ok (.iload_n 1, 1) := by decide +kernel
theorem dX8_asWay_15 : decode cX8_asWay 15 = .ok (.invokevirtual 128, 3) := by decide +kernel
theorem dX8_asWay_18 : decode cX8_asWay 18 = .ok (.ireturn, 1) := by decide +kernel
theorem iX8_asWay_8 : ∀ w ∈ wsX80, w ∈ wsX8_asWay := fun w h => List.mem_cons_of_mem _ (List.mem_append_left _ (List.mem_append_right _ h))
theorem fX8_asWay_19 : FL mX8_asWay 19 8 1 := ⟨_, _, _, rfl, by decide, iX8_asWay_8, by decide +kernel⟩
theorem fX8_asWay_78 : FL mX8_asWay 78 8 12 := ⟨_, _, _, rfl, by decide, iX8_asWay_8, by decide +kernel⟩
theorem pX8_asWay_78 : FP mX8_asWay 78 8 12 .long false := ⟨_, _, _, tyX8, rfl, by decide, iX8_asWay_8, by decide +kernel, tyX8_ok, nmX8, rfl, rfl, fun z => absurd z (by decide)⟩
set_option maxRecDepth 20000 in
theorem ggX8_asWay_X4_coinsOf : GoodIn wsX8_asWay wsX4_coinsOf := goodIn_r _ [7, 8, 9, 10, 6, 11, 12, 13, 14, 15, 16, 30] (by decide +kernel) (by decide +kernel)
set_option maxRecDepth 20000 in
theorem gX8_asWay_X4_coinsOf : GoodIn wsX8_asWay (wsV RX8 128 RX4 yX4_coinsOf wsX4_coinsOf) := goodIn_app (goodIn_of _ (by decide +kernel)) ggX8_asWay_X4_coinsOf
theorem wX8_asWay_128 : CWV mX8_asWay 128 mX4_coinsOf 1 := ⟨gX8_asWay_X4_coinsOf, ⟨_, rfl⟩, rfl, by decide +kernel, by decide +kernel, by decide +kernel⟩
abbrev mX8_asTale : mT := (yX8_asTale, RX8, cX8_asTale, 2, (some .int), wsX8_asTale)
abbrev rX8_asTale : Room := { frames := 4, cells := 0, slots := 0, locals := 88 }
theorem dX8_asTale_0 : decode cX8_asTale 0 = .ok (.aload_n 0, 1) := by decide +kernel
theorem dX8_asTale_1 : decode cX8_asTale 1 = .ok (.dup, 1) := by decide +kernel
theorem dX8_asTale_2 : decode cX8_asTale 2 = .ok (.getfield 78, 3) := by decide +kernel
theorem dX8_asTale_5 : decode cX8_asTale 5 = .ok (.ldc2_w 323, 3) := by decide +kernel
theorem dX8_asTale_8 : decode cX8_asTale 8 = .ok (.ladd, 1) := by decide +kernel
theorem dX8_asTale_9 : decode cX8_asTale 9 = .ok (.putfield 78, 3) := by decide +kernel
theorem dX8_asTale_12 : decode cX8_asTale 12 = .ok (.aload_n 0, 1) := by decide +kernel
theorem dX8_asTale_13 : decode cX8_asTale 13 = .ok (.iload_n 1, 1) := by decide +kernel
theorem dX8_asTale_14 : decode cX8_asTale 14 = .ok (.invokevirtual 264, 3) := by decide +kernel
theorem dX8_asTale_17 : decode cX8_asTale 17 = .ok (.iconst 1, 1) := by decide +kernel
theorem dX8_asTale_18 : decode cX8_asTale 18 = .ok (.iadd, 1) := by decide +kernel
theorem dX8_asTale_19 : decode cX8_asTale 19 = .ok (.ireturn, 1) := by decide +kernel
theorem iX8_asTale_8 : ∀ w ∈ wsX80, w ∈ wsX8_asTale := fun w h => List.mem_cons_of_mem _ (List.mem_append_left _ (List.mem_append_right _ h))
theorem fX8_asTale_78 : FL mX8_asTale 78 8 12 := ⟨_, _, _, rfl, by decide, iX8_asTale_8, by decide +kernel⟩
theorem pX8_asTale_78 : FP mX8_asTale 78 8 12 .long false := ⟨_, _, _, tyX8, rfl, by decide, iX8_asTale_8, by decide +kernel, tyX8_ok, nmX8, rfl, rfl, fun z => absurd z (by decide)⟩
set_option maxRecDepth 20000 in
theorem ggX8_asTale_X8_asWay : GoodIn wsX8_asTale wsX8_asWay := goodIn_r _ [7, 1, 8, 9, 10, 11, 12, 13, 14, 15, 16, 17, 18, 19, 20, 21, 22, 23, 24, 25, 26, 27, 28, 29, 30, 31, 32, 33, 34, 35, 36] (by decide +kernel) (by decide +kernel)
set_option maxRecDepth 20000 in
theorem gX8_asTale_X8_asWay : GoodIn wsX8_asTale (wsV RX8 264 RX8 yX8_asWay wsX8_asWay) := goodIn_app (goodIn_of _ (by decide +kernel)) ggX8_asTale_X8_asWay
theorem wX8_asTale_264 : CWV mX8_asTale 264 mX8_asWay 1 := ⟨gX8_asTale_X8_asWay, ⟨_, rfl⟩, rfl, by decide +kernel, by decide +kernel, by decide +kernel⟩
abbrev mX8_asLook : mT := (yX8_asLook, RX8, cX8_asLook, 2, (some .int), wsX8_asLook)
abbrev rX8_asLook : Room := { frames := 4, cells := 0, slots := 0, locals := 88 }
theorem dX8_asLook_0 : decode cX8_asLook 0 = .ok (.aload_n 0, 1) := by decide +kernel
theorem dX8_asLook_1 : decode cX8_asLook 1 = .ok (.dup, 1) := by decide +kernel
theorem dX8_asLook_2 : decode cX8_asLook 2 = .ok (.getfield 78, 3) := by decide +kernel
theorem dX8_asLook_5 : decode cX8_asLook 5 = .ok (.ldc2_w 335, 3) := by decide +kernel
theorem dX8_asLook_8 : decode cX8_asLook 8 = .ok (.ladd, 1) := by decide +kernel
theorem dX8_asLook_9 : decode cX8_asLook 9 = .ok (.putfield 78, 3) := by decide +kernel
theorem dX8_asLook_12 : decode cX8_asLook 12 = .ok (.aload_n 0, 1) := by decide +kernel
theorem dX8_asLook_13 : decode cX8_asLook 13 = .ok (.iload_n 1, 1) := by decide +kernel
theorem dX8_asLook_14 : decode cX8_asLook 14 = .ok (.invokevirtual 264, 3) := by decide +kernel
theorem dX8_asLook_17 : decode cX8_asLook 17 = .ok (.aload_n 0, 1) := by decide +kernel
theorem dX8_asLook_18 : decode cX8_asLook 18 = .ok (.getfield 29, 3) := by decide +kernel
theorem dX8_asLook_21 : decode cX8_asLook 21 = .ok (.iconst 1, 1) := by decide +kernel
theorem dX8_asLook_22 : decode cX8_asLook 22 = .ok (.invokevirtual 172, 3) := by decide +kernel
theorem dX8_asLook_25 : decode cX8_asLook 25 = .ok (.aload_n 0, 1) := by decide +kernel
theorem dX8_asLook_26 : decode cX8_asLook 26 = .ok (.getfield 19, 3) := by decide +kernel
theorem dX8_asLook_29 : decode cX8_asLook 29 = .ok (.iload_n 1, 1) := by decide +kernel
theorem dX8_asLook_30 : decode cX8_asLook 30 = .ok (.aload_n 0, 1) := by decide +kernel
theorem dX8_asLook_31 : decode cX8_asLook 31 = .ok (.getfield 29, 3) := by decide +kernel
theorem dX8_asLook_34 : decode cX8_asLook 34 = .ok (.iconst 0, 1) := by decide +kernel
theorem dX8_asLook_35 : decode cX8_asLook 35 = .ok (.invokevirtual 172, 3) := by decide +kernel
theorem dX8_asLook_38 : decode cX8_asLook 38 = .ok (.invokevirtual 337, 3) := by decide +kernel
theorem dX8_asLook_41 : decode cX8_asLook 41 = .ok (.imul, 1) := by decide +kernel
theorem dX8_asLook_42 : decode cX8_asLook 42 = .ok (.iadd, 1) := by decide +kernel
theorem dX8_asLook_43 : decode cX8_asLook 43 = .ok (.ireturn, 1) := by decide +kernel
theorem iX8_asLook_8 : ∀ w ∈ wsX80, w ∈ wsX8_asLook := fun w h => List.mem_cons_of_mem _ (List.mem_append_left _ (List.mem_append_left _ (List.mem_append_right _ h)))
theorem fX8_asLook_19 : FL mX8_asLook 19 8 1 := ⟨_, _, _, rfl, by decide, iX8_asLook_8, by decide +kernel⟩
theorem fX8_asLook_29 : FL mX8_asLook 29 8 3 := ⟨_, _, _, rfl, by decide, iX8_asLook_8, by decide +kernel⟩
theorem fX8_asLook_78 : FL mX8_asLook 78 8 12 := ⟨_, _, _, rfl, by decide, iX8_asLook_8, by decide +kernel⟩
theorem pX8_asLook_78 : FP mX8_asLook 78 8 12 .long false := ⟨_, _, _, tyX8, rfl, by decide, iX8_asLook_8, by decide +kernel, tyX8_ok, nmX8, rfl, rfl, fun z => absurd z (by decide)⟩
set_option maxRecDepth 20000 in
theorem ggX8_asLook_X7_of : GoodIn wsX8_asLook wsX7_of := goodIn_r _ [28, 29, 45] (by decide +kernel) (by decide +kernel)
set_option maxRecDepth 20000 in
theorem gX8_asLook_X7_of : GoodIn wsX8_asLook (wsV RX8 172 RX7 yX7_of wsX7_of) := goodIn_app (goodIn_of _ (by decide +kernel)) ggX8_asLook_X7_of
theorem wX8_asLook_172 : CWV mX8_asLook 172 mX7_of 1 := ⟨gX8_asLook_X7_of, ⟨_, rfl⟩, rfl, by decide +kernel, by decide +kernel, by decide +kernel⟩
set_option maxRecDepth 20000 in
theorem ggX8_asLook_X8_asWay : GoodIn wsX8_asLook wsX8_asWay := goodIn_r _ [9, 1, 4, 10, 11, 12, 13, 14, 15, 16, 17, 18, 19, 20, 21, 22, 23, 31, 32, 33, 34, 35, 36, 37, 38, 39, 40, 41, 42, 43, 44] (by decide +kernel) (by decide +kernel)
set_option maxRecDepth 20000 in
theorem gX8_asLook_X8_asWay : GoodIn wsX8_asLook (wsV RX8 264 RX8 yX8_asWay wsX8_asWay) := goodIn_app (goodIn_of _ (by decide +kernel)) ggX8_asLook_X8_asWay
theorem wX8_asLook_264 : CWV mX8_asLook 264 mX8_asWay 1 := ⟨gX8_asLook_X8_asWay, ⟨_, rfl⟩, rfl, by decide +kernel, by decide +kernel, by decide +kernel⟩
set_option maxRecDepth 20000 in
theorem ggX8_asLook_X4_coinsAbove : GoodIn wsX8_asLook wsX4_coinsAbove := goodIn_r _ [18, 19, 20, 21, 13, 22, 23, 44] (by decide +kernel) (by decide +kernel)
set_option maxRecDepth 20000 in
theorem gX8_asLook_X4_coinsAbove : GoodIn wsX8_asLook (wsV RX8 337 RX4 yX4_coinsAbove wsX4_coinsAbove) := goodIn_app (goodIn_of _ (by decide +kernel)) ggX8_asLook_X4_coinsAbove
theorem wX8_asLook_337 : CWV mX8_asLook 337 mX4_coinsAbove 2 := ⟨gX8_asLook_X4_coinsAbove, ⟨_, rfl⟩, rfl, by decide +kernel, by decide +kernel, by decide +kernel⟩
abbrev mX8_asSome : mT := (yX8_asSome, RX8, cX8_asSome, 2, (some .int), wsX8_asSome)
abbrev rX8_asSome : Room := { frames := 5, cells := 0, slots := 0, locals := 109 }
theorem dX8_asSome_0 : decode cX8_asSome 0 = .ok (.aload_n 0, 1) := by decide +kernel
theorem dX8_asSome_1 : decode cX8_asSome 1 = .ok (.dup, 1) := by decide +kernel
theorem dX8_asSome_2 : decode cX8_asSome 2 = .ok (.getfield 78, 3) := by decide +kernel
theorem dX8_asSome_5 : decode cX8_asSome 5 = .ok (.ldc2_w 340, 3) := by decide +kernel
theorem dX8_asSome_8 : decode cX8_asSome 8 = .ok (.ladd, 1) := by decide +kernel
theorem dX8_asSome_9 : decode cX8_asSome 9 = .ok (.putfield 78, 3) := by decide +kernel
theorem dX8_asSome_12 : decode cX8_asSome 12 = .ok (.aload_n 0, 1) := by decide +kernel
theorem dX8_asSome_13 : decode cX8_asSome 13 = .ok (.getfield 64, 3) := by decide +kernel
theorem dX8_asSome_16 : decode cX8_asSome 16 = .ok (.getfield 119, 3) := by decide +kernel
theorem dX8_asSome_19 : decode cX8_asSome 19 = .ok (.iload_n 1, 1) := by decide +kernel
theorem dX8_asSome_20 : decode cX8_asSome 20 = .ok (.iaload, 1) := by decide +kernel
theorem dX8_asSome_21 : decode cX8_asSome 21 = .ok (.aload_n 0, 1) := by decide +kernel
theorem dX8_asSome_22 : decode cX8_asSome 22 = .ok (.iload_n 1, 1) := by decide +kernel
theorem dX8_asSome_23 : decode cX8_asSome 23 = .ok (.invokevirtual 270, 3) := by decide +kernel
theorem dX8_asSome_26 : decode cX8_asSome 26 = .ok (.imul, 1) := by decide +kernel
theorem dX8_asSome_27 : decode cX8_asSome 27 = .ok (.bipush 10, 2) := by decide +kernel
theorem dX8_asSome_29 : decode cX8_asSome 29 = .ok (.idiv, 1) := by decide +kernel
theorem dX8_asSome_30 : decode cX8_asSome 30 = .ok (.ireturn, 1) := by decide +kernel
theorem iX8_asSome_8 : ∀ w ∈ wsX80, w ∈ wsX8_asSome := fun w h => List.mem_cons_of_mem _ (List.mem_append_left _ (List.mem_append_left _ (List.mem_append_left _ (List.mem_append_right _ h))))
theorem fX8_asSome_64 : FL mX8_asSome 64 8 8 := ⟨_, _, _, rfl, by decide, iX8_asSome_8, by decide +kernel⟩
theorem fX8_asSome_78 : FL mX8_asSome 78 8 12 := ⟨_, _, _, rfl, by decide, iX8_asSome_8, by decide +kernel⟩
theorem pX8_asSome_78 : FP mX8_asSome 78 8 12 .long false := ⟨_, _, _, tyX8, rfl, by decide, iX8_asSome_8, by decide +kernel, tyX8_ok, nmX8, rfl, rfl, fun z => absurd z (by decide)⟩
theorem iX8_asSome_6 : ∀ w ∈ wsX60, w ∈ wsX8_asSome := fun w h => List.mem_cons_of_mem _ (List.mem_append_left _ (List.mem_append_left _ (List.mem_append_right _ h)))
theorem fX8_asSome_119 : FL mX8_asSome 119 6 1 := ⟨_, _, _, rfl, by decide, iX8_asSome_6, by decide +kernel⟩
set_option maxRecDepth 20000 in
theorem ggX8_asSome_X8_asLook : GoodIn wsX8_asSome wsX8_asLook := goodIn_r _ [9, 1, 10, 11, 12, 13, 14, 15, 8, 16, 17, 18, 19, 20, 21, 22, 23, 24, 25, 26, 27, 28, 29, 30, 31, 32, 33, 34, 35, 36, 37, 38, 39, 40, 41, 42, 43, 44, 45, 46, 47, 48, 49, 50, 56, 57] (by decide +kernel) (by decide +kernel)
set_option maxRecDepth 20000 in
theorem gX8_asSome_X8_asLook : GoodIn wsX8_asSome (wsV RX8 270 RX8 yX8_asLook wsX8_asLook) := goodIn_app (goodIn_of _ (by decide +kernel)) ggX8_asSome_X8_asLook
theorem wX8_asSome_270 : CWV mX8_asSome 270 mX8_asLook 1 := ⟨gX8_asSome_X8_asLook, ⟨_, rfl⟩, rfl, by decide +kernel, by decide +kernel, by decide +kernel⟩
abbrev mX8_asPay : mT := (yX8_asPay, RX8, cX8_asPay, 2, (some .int), wsX8_asPay)
abbrev rX8_asPay : Room := { frames := 4, cells := 0, slots := 0, locals := 88 }
theorem dX8_asPay_0 : decode cX8_asPay 0 = .ok (.aload_n 0, 1) := by decide +kernel
theorem dX8_asPay_1 : decode cX8_asPay 1 = .ok (.dup, 1) := by decide +kernel
theorem dX8_asPay_2 : decode cX8_asPay 2 = .ok (.getfield 78, 3) := by decide +kernel
theorem dX8_asPay_5 : decode cX8_asPay 5 = .ok (.ldc2_w 342, 3) := by decide +kernel
theorem dX8_asPay_8 : decode cX8_asPay 8 = .ok (.ladd, 1) := by decide +kernel
theorem dX8_asPay_9 : decode cX8_asPay 9 = .ok (.putfield 78, 3) := by decide +kernel
theorem dX8_asPay_12 : decode cX8_asPay 12 = .ok (.aload_n 0, 1) := by decide +kernel
theorem dX8_asPay_13 : decode cX8_asPay 13 = .ok (.iload_n 1, 1) := by decide +kernel
theorem dX8_asPay_14 : decode cX8_asPay 14 = .ok (.invokevirtual 264, 3) := by decide +kernel
theorem dX8_asPay_17 : decode cX8_asPay 17 = .ok (.aload_n 0, 1) := by decide +kernel
theorem dX8_asPay_18 : decode cX8_asPay 18 = .ok (.getfield 19, 3) := by decide +kernel
theorem dX8_asPay_21 : decode cX8_asPay 21 = .ok (.iload_n 1, 1) := by decide +kernel
theorem dX8_asPay_22 : decode cX8_asPay 22 = .ok (.iconst 0, 1) := by decide +kernel
theorem dX8_asPay_23 : decode cX8_asPay 23 = .ok (.invokevirtual 135, 3) := by decide +kernel
theorem dX8_asPay_26 : decode cX8_asPay 26 = .ok (.isub, 1) := by decide +kernel
theorem dX8_asPay_27 : decode cX8_asPay 27 = .ok (.ireturn, 1) := by decide +kernel
theorem iX8_asPay_8 : ∀ w ∈ wsX80, w ∈ wsX8_asPay := fun w h => List.mem_cons_of_mem _ (List.mem_append_left _ (List.mem_append_right _ h))
theorem fX8_asPay_19 : FL mX8_asPay 19 8 1 := ⟨_, _, _, rfl, by decide, iX8_asPay_8, by decide +kernel⟩
theorem fX8_asPay_78 : FL mX8_asPay 78 8 12 := ⟨_, _, _, rfl, by decide, iX8_asPay_8, by decide +kernel⟩
theorem pX8_asPay_78 : FP mX8_asPay 78 8 12 .long false := ⟨_, _, _, tyX8, rfl, by decide, iX8_asPay_8, by decide +kernel, tyX8_ok, nmX8, rfl, rfl, fun z => absurd z (by decide)⟩
set_option maxRecDepth 20000 in
theorem ggX8_asPay_X4_held : GoodIn wsX8_asPay wsX4_held := goodIn_r _ [21, 22, 37] (by decide +kernel) (by decide +kernel)
set_option maxRecDepth 20000 in
theorem gX8_asPay_X4_held : GoodIn wsX8_asPay (wsV RX8 135 RX4 yX4_held wsX4_held) := goodIn_app (goodIn_of _ (by decide +kernel)) ggX8_asPay_X4_held
theorem wX8_asPay_135 : CWV mX8_asPay 135 mX4_held 2 := ⟨gX8_asPay_X4_held, ⟨_, rfl⟩, rfl, by decide +kernel, by decide +kernel, by decide +kernel⟩
set_option maxRecDepth 20000 in
theorem ggX8_asPay_X8_asWay : GoodIn wsX8_asPay wsX8_asWay := goodIn_r _ [8, 1, 3, 9, 10, 11, 12, 13, 14, 15, 16, 17, 18, 19, 20, 21, 22, 24, 25, 26, 27, 28, 29, 30, 31, 32, 33, 34, 35, 36, 37] (by decide +kernel) (by decide +kernel)
set_option maxRecDepth 20000 in
theorem gX8_asPay_X8_asWay : GoodIn wsX8_asPay (wsV RX8 264 RX8 yX8_asWay wsX8_asWay) := goodIn_app (goodIn_of _ (by decide +kernel)) ggX8_asPay_X8_asWay
theorem wX8_asPay_264 : CWV mX8_asPay 264 mX8_asWay 1 := ⟨gX8_asPay_X8_asWay, ⟨_, rfl⟩, rfl, by decide +kernel, by decide +kernel, by decide +kernel⟩
abbrev mX8_asKeep : mT := (yX8_asKeep, RX8, cX8_asKeep, 2, (some .int), wsX8_asKeep)
abbrev rX8_asKeep : Room := { frames := 5, cells := 0, slots := 0, locals := 109 }
theorem dX8_asKeep_0 : decode cX8_asKeep 0 = .ok (.aload_n 0, 1) := by decide +kernel
theorem dX8_asKeep_1 : decode cX8_asKeep 1 = .ok (.dup, 1) := by decide +kernel
theorem dX8_asKeep_2 : decode cX8_asKeep 2 = .ok (.getfield 78, 3) := by decide +kernel
theorem dX8_asKeep_5 : decode cX8_asKeep 5 = .ok (.ldc2_w 344, 3) := by decide +kernel
theorem dX8_asKeep_8 : decode cX8_asKeep 8 = .ok (.ladd, 1) := by decide +kernel
theorem dX8_asKeep_9 : decode cX8_asKeep 9 = .ok (.putfield 78, 3) := by decide +kernel
theorem dX8_asKeep_12 : decode cX8_asKeep 12 = .ok (.iconst 2, 1) := by decide +kernel
theorem dX8_asKeep_13 : decode cX8_asKeep 13 = .ok (.aload_n 0, 1) := by decide +kernel
theorem dX8_asKeep_14 : decode cX8_asKeep 14 = .ok (.iload_n 1, 1) := by decide +kernel
theorem dX8_asKeep_15 : decode cX8_asKeep 15 = .ok (.invokevirtual 276, 3) := by decide +kernel
theorem dX8_asKeep_18 : decode cX8_asKeep 18 = .ok (.imul, 1) := by decide +kernel
theorem dX8_asKeep_19 : decode cX8_asKeep 19 = .ok (.ireturn, 1) := by decide +kernel
theorem iX8_asKeep_8 : ∀ w ∈ wsX80, w ∈ wsX8_asKeep := fun w h => List.mem_cons_of_mem _ (List.mem_append_left _ (List.mem_append_right _ h))
theorem fX8_asKeep_78 : FL mX8_asKeep 78 8 12 := ⟨_, _, _, rfl, by decide, iX8_asKeep_8, by decide +kernel⟩
theorem pX8_asKeep_78 : FP mX8_asKeep 78 8 12 .long false := ⟨_, _, _, tyX8, rfl, by decide, iX8_asKeep_8, by decide +kernel, tyX8_ok, nmX8, rfl, rfl, fun z => absurd z (by decide)⟩
set_option maxRecDepth 20000 in
theorem ggX8_asKeep_X8_asPay : GoodIn wsX8_asKeep wsX8_asPay := goodIn_r _ [7, 1, 8, 9, 10, 11, 12, 6, 13, 14, 15, 16, 17, 18, 19, 20, 21, 22, 23, 24, 25, 26, 27, 28, 29, 30, 31, 32, 33, 34, 35, 36, 37, 38, 39, 40, 41, 42] (by decide +kernel) (by decide +kernel)
set_option maxRecDepth 20000 in
theorem gX8_asKeep_X8_asPay : GoodIn wsX8_asKeep (wsV RX8 276 RX8 yX8_asPay wsX8_asPay) := goodIn_app (goodIn_of _ (by decide +kernel)) ggX8_asKeep_X8_asPay
theorem wX8_asKeep_276 : CWV mX8_asKeep 276 mX8_asPay 1 := ⟨gX8_asKeep_X8_asPay, ⟨_, rfl⟩, rfl, by decide +kernel, by decide +kernel, by decide +kernel⟩
abbrev mX8_asClip : mT := (yX8_asClip, RX8, cX8_asClip, 2, (some .int), wsX8_asClip)
abbrev rX8_asClip : Room := { frames := 4, cells := 0, slots := 0, locals := 88 }
theorem dX8_asClip_0 : decode cX8_asClip 0 = .ok (.aload_n 0, 1) := by decide +kernel
theorem dX8_asClip_1 : decode cX8_asClip 1 = .ok (.dup, 1) := by decide +kernel
theorem dX8_asClip_2 : decode cX8_asClip 2 = .ok (.getfield 78, 3) := by decide +kernel
theorem dX8_asClip_5 : decode cX8_asClip 5 = .ok (.ldc2_w 346, 3) := by decide +kernel
theorem dX8_asClip_8 : decode cX8_asClip 8 = .ok (.ladd, 1) := by decide +kernel
theorem dX8_asClip_9 : decode cX8_asClip 9 = .ok (.putfield 78, 3) := by decide +kernel
theorem dX8_asClip_12 : decode cX8_asClip 12 = .ok (.aload_n 0, 1) := by decide +kernel
theorem dX8_asClip_13 : decode cX8_asClip 13 = .ok (.iload_n 1, 1) := by decide +kernel
theorem dX8_asClip_14 : decode cX8_asClip 14 = .ok (.invokevirtual 264, 3) := by decide +kernel
theorem dX8_asClip_17 : decode cX8_asClip 17 = .ok (.aload_n 0, 1) := by decide +kernel
theorem dX8_asClip_18 : decode cX8_asClip 18 = .ok (.getfield 64, 3) := by decide +kernel
theorem dX8_asClip_21 : decode cX8_asClip 21 = .ok (.getfield 125, 3) := by decide +kernel
theorem dX8_asClip_24 : decode cX8_asClip 24 = .ok (.iload_n 1, 1) := by decide +kernel
theorem dX8_asClip_25 : decode cX8_asClip 25 = .ok (.iaload, 1) := by decide +kernel
theorem dX8_asClip_26 : decode cX8_asClip 26 = .ok (.iadd, 1) := by decide +kernel
theorem dX8_asClip_27 : decode cX8_asClip 27 = .ok (.ireturn, 1) := by decide +kernel
theorem iX8_asClip_8 : ∀ w ∈ wsX80, w ∈ wsX8_asClip := fun w h => List.mem_cons_of_mem _ (List.mem_append_left _ (List.mem_append_left _ (List.mem_append_right _ h)))
theorem fX8_asClip_64 : FL mX8_asClip 64 8 8 := ⟨_, _, _, rfl, by decide, iX8_asClip_8, by decide +kernel⟩
theorem fX8_asClip_78 : FL mX8_asClip 78 8 12 := ⟨_, _, _, rfl, by decide, iX8_asClip_8, by decide +kernel⟩
theorem pX8_asClip_78 : FP mX8_asClip 78 8 12 .long false := ⟨_, _, _, tyX8, rfl, by decide, iX8_asClip_8, by decide +kernel, tyX8_ok, nmX8, rfl, rfl, fun z => absurd z (by decide)⟩
theorem iX8_asClip_6 : ∀ w ∈ wsX60, w ∈ wsX8_asClip := fun w h => List.mem_cons_of_mem _ (List.mem_append_left _ (List.mem_append_right _ h))
theorem fX8_asClip_125 : FL mX8_asClip 125 6 3 := ⟨_, _, _, rfl, by decide, iX8_asClip_6, by decide +kernel⟩
set_option maxRecDepth 20000 in
theorem ggX8_asClip_X8_asWay : GoodIn wsX8_asClip wsX8_asWay := goodIn_r _ [9, 1, 10, 11, 12, 13, 14, 15, 16, 17, 18, 19, 20, 21, 22, 23, 24, 25, 26, 27, 28, 29, 30, 31, 32, 33, 34, 35, 36, 37, 43] (by decide +kernel) (by decide +kernel)
set_option maxRecDepth 20000 in
theorem gX8_asClip_X8_asWay : GoodIn wsX8_asClip (wsV RX8 264 RX8 yX8_asWay wsX8_asWay) := goodIn_app (goodIn_of _ (by decide +kernel)) ggX8_asClip_X8_asWay
theorem wX8_asClip_264 : CWV mX8_asClip 264 mX8_asWay 1 := ⟨gX8_asClip_X8_asWay, ⟨_, rfl⟩, rfl, by decide +kernel, by decide +kernel, by decide +kernel⟩
/-- the object: text, purses, scratch, tunes, latest, day, laws, images, town, draft, lot, year, trace -/
abbrev xo (T P S U M D L I tw dr : Nat) (lot yr : Int32) (tc : Int64) : va_E := ob 8 [.ref T, .ref P, .ref S, .ref U, .ref M, .ref D, .ref L, .ref I, .ref tw, .ref dr, .int lot, .int yr, .long tc]
abbrev twn (aw ax ay ao n : Nat) : va_E := ob 6 [.ref aw, .ref ax, .ref ay, .ref ao, .int (nI n)]
section Rules5
variable {Γ : gT} {l : Launch} {μ : mT} {R : Room} {Z : zT} {kc ks pc : Nat} {ls : List (Nat × Value)} {st : List Value} {as : List Nat} {h : aH}
theorem q_mabsL {index : Nat} {x : Int64} (hd : decode μ.2.2.1 pc = .ok (.invokestatic index, 3)) (hw : ∀ w ∈ ([.methodLink μ.2.1 index Lib.MathLoose.abs_long.x, .static Lib.MathLoose.abs_long.x, .initialized "java/lang/Math", .code Lib.MathLoose.abs_long.x Lib.MathLoose.abs_long.code 2 (some .long)] : List Cond), w ∈ μ.2.2.2.2.2) (hfr : 1 ≤ R.frames) (hlo : (st.map fun v => v.category).sum + 13 ≤ R.locals) (hkc : kc ≤ R.cells) (hks : ks ≤ R.slots) (k : V Γ l μ R Z kc ks (pc + 3) ls (.long (if 0 < x then x else -x) :: st) as h) : V Γ l μ R Z kc ks pc ls (.long x :: st) as h := by
  intro p e s m args below meth c H locs lsA C ho hP hS hl
  have hts := C.2.2.2.2.2.1
  exact va_mabs_long C.1 C.2.1 (C.2.2.2.1.trans hl.1.symm) C.2.2.2.2.1 (hts _ (hw _ (by simp))) (hts _ (hw _ (by simp))) (hts _ (hw _ (by simp))) (hts _ (hw _ (by simp))) hfr hlo hkc hks hd (k p e s m args below meth c H locs lsA C ho hP hS hl)
theorem q_mmaxL {index : Nat} {x y : Int64} (hd : decode μ.2.2.1 pc = .ok (.invokestatic index, 3)) (hw : ∀ w ∈ ([.methodLink μ.2.1 index Lib.MathLoose.max_long.x, .static Lib.MathLoose.max_long.x, .initialized "java/lang/Math", .code Lib.MathLoose.max_long.x Lib.MathLoose.max_long.code 4 (some .long)] : List Cond), w ∈ μ.2.2.2.2.2) (hfr : 1 ≤ R.frames) (hlo : (st.map fun v => v.category).sum + 15 ≤ R.locals) (hkc : kc ≤ R.cells) (hks : ks ≤ R.slots) (k : V Γ l μ R Z kc ks (pc + 3) ls (.long (if y < x then x else y) :: st) as h) : V Γ l μ R Z kc ks pc ls (.long y :: .long x :: st) as h := by
  intro p e s m args below meth c H locs lsA C ho hP hS hl
  have hts := C.2.2.2.2.2.1
  exact va_mmax_long C.1 C.2.1 (C.2.2.2.1.trans hl.1.symm) C.2.2.2.2.1 (hts _ (hw _ (by simp))) (hts _ (hw _ (by simp))) (hts _ (hw _ (by simp))) (hts _ (hw _ (by simp))) hfr hlo hkc hks hd (k p e s m args below meth c H locs lsA C ho hP hS hl)
end Rules5
def isP (n : Nat) (p : Int32) : Bool := decide (¬ p < 0) && decide (¬ nI n ≤ p)
def isW (p : Int32) : Bool := decide (¬ p < 0) && decide (¬ 10 ≤ p)
def isIm (p : Int32) : Bool := decide (¬ p < 0) && decide (p ≤ 1)
def isUL (p : Int32) : Bool := decide (p = 0) || decide (p = 1)
def dyR (all n k : Int32) : Int32 := if n < 1 ∨ 30 < n ∨ k < 0 ∨ n < k then -1 else if n ≤ all then 0 else -2
/-- Euclid from a, b ends within d steps -/
def stp : Nat → Nat → Nat → Bool
  | _, _, 0 => true
  | 0, _, _ + 1 => false
  | d + 1, a, b + 1 => stp d (b + 1) (a % (b + 1))
def lotN (x : Int32) : Int32 := x * 1103515245 + 12345
def drw (x : Int32) : Nat := x.toBitVec.toNat / 65536
theorem us16 (x : Int32) : us x 16 = nI (drw x) := by
  have h1 := pk_ushr x 16 16 (by decide +kernel)
  unfold us drw
  have h2 : ((x.toUInt32 >>> ((16 : Int32).toUInt32 &&& Int32.toUInt32 31)).toInt32).toBitVec.toNat = (nI (x.toBitVec.toNat / 65536)).toBitVec.toNat := by
    rw [h1, pk_tn (by have := x.toBitVec.isLt; omega)]
  exact Int32.toBitVec_inj.mp (BitVec.eq_of_toNat_eq h2)
theorem drw_lt (x : Int32) : drw x < 65536 := by
  unfold drw
  have := x.toBitVec.isLt
  omega
/-- the first weight from w on (d of them) that a purse has -/
def fstW (f : Nat → Int32) (p : Nat) : Nat → Nat → Int32
  | 0, _ => -9
  | d + 1, w => if f (p * 10 + w) ≤ 0 then fstW f p d (w + 1) else nI w
/-- the last weight below k that a purse has -/
def lstW (f : Nat → Int32) (p : Nat) : Nat → Int32
  | 0 => -9
  | w + 1 => if f (p * 10 + w) ≤ 0 then lstW f p w else nI w
/-- the weight that p pays: most, whether heavy -/
def wtp (f : Nat → Int32) (p most : Nat) (pay : Int32) : Int32 := if pay = 1 then fstW f p (most + 1) 0 else lstW f p (most + 1)
def asI (u : Nat → Int32) (w : Nat) : Int32 := if u 0 < nI w then 10 - nI w else 10
def p10 : Nat → Int64
  | 0 => 1
  | k + 1 => p10 k * 10
def clS (u : Nat → Int32) (w : Nat) (nw : Int64) : Int64 := (10 - (u 3).toInt64) * ((u 4).toInt64 * p10 (8 - w) + nw) - (u 3).toInt64 * (u 2).toInt64 * p10 (8 - w)
/-- the worth of weight 9 - k, scaled -/
def wrW (u : Nat → Int32) : Nat → Int64
  | 0 => (asI u 9).toInt64
  | k + 1 => if clS u (8 - k) (wrW u k) < (asI u (8 - k)).toInt64 * p10 (k + 1) then (asI u (8 - k)).toInt64 * p10 (k + 1) else clS u (8 - k) (wrW u k)
/-- the weight at which it is no longer clipped, from w on (d of them below 9) -/
def unS (u : Nat → Int32) : Nat → Nat → Int32
  | 0, _ => 9
  | d + 1, w => if (asI u w).toInt64 * p10 (9 - w) < clS u w (wrW u (8 - w)) then unS u d (w + 1) else nI w
/-- held and melted of the first k weights -/
def hmS (f u : Nat → Int32) (p : Nat) (x : Int32) : Nat → Int32 × Int32
  | 0 => (0, 0)
  | k + 1 => if nI k < x then ((hmS f u p x k).1 + f (p * 10 + k) * asI u k, (hmS f u p x k).2) else ((hmS f u p x k).1, (hmS f u p x k).2 + f (p * 10 + k) * (10 - nI k))
def hmF (f u : Nat → Int32) (p : Nat) (x c : Int32) : Int32 := (hmS f u p x 10).1 + (hmS f u p x 10).2 * (100 - c) / 1000 * 10
theorem m1p1 (x : Int32) : x + (-1) + 1 = x := by
  rw [Int32.add_assoc, show (-1 : Int32) + 1 = 0 from by decide, Int32.add_zero]
theorem lgc0 {x y : Int64} (h : lg_cmp x y = 0) : x = y := by
  unfold lg_cmp at h
  split at h
  · exact absurd h (by decide)
  · split at h
    · assumption
    · exact absurd h (by decide)
section
variable {Γ : gT} {l : Launch} {as : List Nat} {h : aH} {X T P S U M D L I tw dr : Nat} {lot yr : Int32} {tc : Int64} {aw ax ay ao n pr ur : Nat} {f u w x y o : Nat → Int32}
theorem c_isPerson {p : Int32} (hX : hat as h X (xo T P S U M D L I tw dr lot yr tc)) (ht : hat as h tw (twn aw ax ay ao n)) : Det Γ l mX8_isPerson rX8_isPerson [.ref X, .int p] as h (some (.int (bI (isP n p)))) h := by
  refine Con.of (by decide +kernel) rfl rfl (Nat.le_of_ble_eq_true rfl) ?_
  refine q_iload_n dX8_isPerson_0 rfl rfl ?_
  refine q_if_lt 19 dX8_isPerson_1 (by decide) (fun cA => ?_) (fun cA => ?_)
  · rw [show isP n p = false by
        unfold isP
        rw [Bool.and_eq_false_iff, decide_eq_false_iff_not, decide_eq_false_iff_not]
        first | exact Or.inr (fun z => z cB) | exact Or.inl (fun z => z cA)]
    refine q_iconst (v := 0) dX8_isPerson_19 rfl ?_
    exact q_zret dX8_isPerson_20 rfl (rfl) (Nat.zero_le _) (Nat.zero_le _) (⟨rfl, rfl, rfl⟩)
  · refine q_iload_n dX8_isPerson_4 rfl rfl ?_
    refine q_aload_n dX8_isPerson_5 rfl rfl ?_
    refine q_get dX8_isPerson_6 fX8_isPerson_64 (hX) rfl ?_
    refine q_get dX8_isPerson_9 fX8_isPerson_109 (ht) rfl ?_
    refine q_icmp_ge 19 dX8_isPerson_12 (by decide) (fun cB => ?_) (fun cB => ?_)
    · rw [show isP n p = false by
          unfold isP
          rw [Bool.and_eq_false_iff, decide_eq_false_iff_not, decide_eq_false_iff_not]
          first | exact Or.inr (fun z => z cB) | exact Or.inl (fun z => z cA)]
      refine q_iconst (v := 0) dX8_isPerson_19 rfl ?_
      exact q_zret dX8_isPerson_20 rfl (rfl) (Nat.zero_le _) (Nat.zero_le _) (⟨rfl, rfl, rfl⟩)
    · rw [show isP n p = true by
          unfold isP
          rw [Bool.and_eq_true, decide_eq_true_eq, decide_eq_true_eq]
          exact ⟨cA, cB⟩]
      refine q_iconst (v := 1) dX8_isPerson_15 rfl ?_
      refine q_goto 20 dX8_isPerson_16 (by decide) ?_
      exact q_zret dX8_isPerson_20 rfl (rfl) (Nat.zero_le _) (Nat.zero_le _) (⟨rfl, rfl, rfl⟩)
theorem c_isWeight {p : Int32} : Det Γ l mX8_isWeight rX8_isWeight [.int p] as h (some (.int (bI (isW p)))) h := by
  refine Con.of (by decide +kernel) rfl rfl (Nat.le_of_ble_eq_true rfl) ?_
  refine q_iload_n dX8_isWeight_0 rfl rfl ?_
  refine q_if_lt 14 dX8_isWeight_1 (by decide) (fun cA => ?_) (fun cA => ?_)
  · rw [show isW p = false by
        unfold isW
        rw [Bool.and_eq_false_iff, decide_eq_false_iff_not, decide_eq_false_iff_not]
        first | exact Or.inr (fun z => z cB) | exact Or.inl (fun z => z cA)]
    refine q_iconst (v := 0) dX8_isWeight_14 rfl ?_
    exact q_zret dX8_isWeight_15 rfl (rfl) (Nat.zero_le _) (Nat.zero_le _) (⟨rfl, rfl, rfl⟩)
  · refine q_iload_n dX8_isWeight_4 rfl rfl ?_
    refine q_bipush (v := 10) dX8_isWeight_5 rfl ?_
    refine q_icmp_ge 14 dX8_isWeight_7 (by decide) (fun cB => ?_) (fun cB => ?_)
    · rw [show isW p = false by
          unfold isW
          rw [Bool.and_eq_false_iff, decide_eq_false_iff_not, decide_eq_false_iff_not]
          first | exact Or.inr (fun z => z cB) | exact Or.inl (fun z => z cA)]
      refine q_iconst (v := 0) dX8_isWeight_14 rfl ?_
      exact q_zret dX8_isWeight_15 rfl (rfl) (Nat.zero_le _) (Nat.zero_le _) (⟨rfl, rfl, rfl⟩)
    · rw [show isW p = true by
          unfold isW
          rw [Bool.and_eq_true, decide_eq_true_eq, decide_eq_true_eq]
          exact ⟨cA, cB⟩]
      refine q_iconst (v := 1) dX8_isWeight_10 rfl ?_
      refine q_goto 15 dX8_isWeight_11 (by decide) ?_
      exact q_zret dX8_isWeight_15 rfl (rfl) (Nat.zero_le _) (Nat.zero_le _) (⟨rfl, rfl, rfl⟩)
theorem c_isImage {p : Int32} : Det Γ l mX8_isImage rX8_isImage [.int p] as h (some (.int (bI (isIm p)))) h := by
  refine Con.of (by decide +kernel) rfl rfl (Nat.le_of_ble_eq_true rfl) ?_
  refine q_iload_n dX8_isImage_0 rfl rfl ?_
  refine q_if_lt 13 dX8_isImage_1 (by decide) (fun cA => ?_) (fun cA => ?_)
  · rw [show isIm p = false by
        unfold isIm
        rw [Bool.and_eq_false_iff, decide_eq_false_iff_not, decide_eq_false_iff_not]
        first | exact Or.inr (Int32.not_le.mpr cB) | exact Or.inl (fun z => z cA)]
    refine q_iconst (v := 0) dX8_isImage_13 rfl ?_
    exact q_zret dX8_isImage_14 rfl (rfl) (Nat.zero_le _) (Nat.zero_le _) (⟨rfl, rfl, rfl⟩)
  · refine q_iload_n dX8_isImage_4 rfl rfl ?_
    refine q_iconst (v := 1) dX8_isImage_5 rfl ?_
    refine q_icmp_gt 13 dX8_isImage_6 (by decide) (fun cB => ?_) (fun cB => ?_)
    · rw [show isIm p = false by
          unfold isIm
          rw [Bool.and_eq_false_iff, decide_eq_false_iff_not, decide_eq_false_iff_not]
          first | exact Or.inr (Int32.not_le.mpr cB) | exact Or.inl (fun z => z cA)]
      refine q_iconst (v := 0) dX8_isImage_13 rfl ?_
      exact q_zret dX8_isImage_14 rfl (rfl) (Nat.zero_le _) (Nat.zero_le _) (⟨rfl, rfl, rfl⟩)
    · rw [show isIm p = true by
          unfold isIm
          rw [Bool.and_eq_true, decide_eq_true_eq, decide_eq_true_eq]
          exact ⟨cA, Int32.not_lt.mp cB⟩]
      refine q_iconst (v := 1) dX8_isImage_9 rfl ?_
      refine q_goto 14 dX8_isImage_10 (by decide) ?_
      exact q_zret dX8_isImage_14 rfl (rfl) (Nat.zero_le _) (Nat.zero_le _) (⟨rfl, rfl, rfl⟩)
theorem c_isUL {p : Int32} : Det Γ l mX8_isUpperOrLower rX8_isUpperOrLower [.int p] as h (some (.int (bI (isUL p)))) h := by
  refine Con.of (by decide +kernel) rfl rfl (Nat.le_of_ble_eq_true rfl) ?_
  refine q_iload_n dX8_isUpperOrLower_0 rfl rfl ?_
  refine q_if_eq 9 dX8_isUpperOrLower_1 (by decide) (fun cA => ?_) (fun cA => ?_)
  · rw [show isUL p = true by
        unfold isUL
        rw [Bool.or_eq_true, decide_eq_true_eq, decide_eq_true_eq]
        first | exact Or.inr cB | exact Or.inl cA]
    refine q_iconst (v := 1) dX8_isUpperOrLower_9 rfl ?_
    refine q_goto 14 dX8_isUpperOrLower_10 (by decide) ?_
    exact q_zret dX8_isUpperOrLower_14 rfl (rfl) (Nat.zero_le _) (Nat.zero_le _) (⟨rfl, rfl, rfl⟩)
  · refine q_iload_n dX8_isUpperOrLower_4 rfl rfl ?_
    refine q_iconst (v := 1) dX8_isUpperOrLower_5 rfl ?_
    refine q_icmp_ne 13 dX8_isUpperOrLower_6 (by decide) (fun cB => ?_) (fun cB => ?_)
    · rw [show isUL p = false by
          unfold isUL
          rw [Bool.or_eq_false_iff, decide_eq_false_iff_not, decide_eq_false_iff_not]
          exact ⟨cA, cB⟩]
      refine q_iconst (v := 0) dX8_isUpperOrLower_13 rfl ?_
      exact q_zret dX8_isUpperOrLower_14 rfl (rfl) (Nat.zero_le _) (Nat.zero_le _) (⟨rfl, rfl, rfl⟩)
    · rw [show isUL p = true by
          unfold isUL
          rw [Bool.or_eq_true, decide_eq_true_eq, decide_eq_true_eq]
          first | exact Or.inr cB | exact Or.inl cA]
      refine q_iconst (v := 1) dX8_isUpperOrLower_9 rfl ?_
      refine q_goto 14 dX8_isUpperOrLower_10 (by decide) ?_
      exact q_zret dX8_isUpperOrLower_14 rfl (rfl) (Nat.zero_le _) (Nat.zero_le _) (⟨rfl, rfl, rfl⟩)
theorem c_divides {d m : Nat} (hd0 : 0 < d) (hd1 : d < 2 ^ 31) (hm : m < 2 ^ 31) : Det Γ l mX8_divides rX8_divides [.int (nI d), .int (nI m)] as h (some (.int (bI (decide (m % d = 0))))) h := by
  refine Con.of (by decide +kernel) rfl rfl (Nat.le_of_ble_eq_true rfl) ?_
  refine q_iload_n dX8_divides_0 rfl rfl ?_
  refine q_if_le 14 dX8_divides_1 (by decide) (fun z => absurd z (nI_nle hd0 hd1)) (fun _ => ?_)
  refine q_iload_n dX8_divides_4 rfl rfl ?_
  refine q_iload_n dX8_divides_5 rfl rfl ?_
  refine q_irem dX8_divides_6 (nI_ne0 hd0 hd1) ?_
  rw [pk_rem hm hd0 hd1]
  refine q_if_ne 14 dX8_divides_7 (by decide) (fun cB => ?_) (fun cB => ?_)
  · rw [decide_eq_false (fun z => cB (by rw [z]; rfl))]
    refine q_iconst (v := 0) dX8_divides_14 rfl ?_
    exact q_zret dX8_divides_15 rfl (rfl) (Nat.zero_le _) (Nat.zero_le _) (⟨rfl, rfl, rfl⟩)
  · rw [decide_eq_true ((nI_eq (b := 0) (Nat.lt_of_le_of_lt (Nat.mod_le _ _) hm) (by omega)).mp cB)]
    refine q_iconst (v := 1) dX8_divides_10 rfl ?_
    refine q_goto 15 dX8_divides_11 (by decide) ?_
    exact q_zret dX8_divides_15 rfl (rfl) (Nat.zero_le _) (Nat.zero_le _) (⟨rfl, rfl, rfl⟩)
theorem c_dayRefusal {p k : Int32} (hX : hat as h X (xo T P S U M D L I tw dr lot yr tc)) (hP : hat as h P (ob 4 [.ref pr])) (hpr : hat as h pr (aI Γ 80 f)) : Det Γ l mX8_dayRefusal rX8_dayRefusal [.ref X, .int p, .int k] as h (some (.int (dyR (pAll f) p k))) h := by
  refine Con.of (by decide +kernel) rfl rfl (Nat.le_of_ble_eq_true rfl) ?_
  refine q_iload_n dX8_dayRefusal_0 rfl rfl ?_
  refine q_iconst (v := 1) dX8_dayRefusal_1 rfl ?_
  refine q_icmp_lt 20 dX8_dayRefusal_2 (by decide) (fun cA => ?_) (fun cA => ?_)
  · rw [show dyR (pAll f) p k = -1 by
        unfold dyR
        refine if_pos ?_
        first | exact Or.inr (Or.inr (Or.inr (Int32.not_le.mp cD))) | exact Or.inr (Or.inr (Or.inl cC)) | exact Or.inr (Or.inl cB) | exact Or.inl cA]
    refine q_iconst (v := (-1)) dX8_dayRefusal_20 rfl ?_
    exact q_iret dX8_dayRefusal_21 rfl (Nat.zero_le _) (Nat.zero_le _) (⟨rfl, rfl, rfl⟩)
  · refine q_iload_n dX8_dayRefusal_5 rfl rfl ?_
    refine q_bipush (v := 30) dX8_dayRefusal_6 rfl ?_
    refine q_icmp_gt 20 dX8_dayRefusal_8 (by decide) (fun cB => ?_) (fun cB => ?_)
    · rw [show dyR (pAll f) p k = -1 by
          unfold dyR
          refine if_pos ?_
          first | exact Or.inr (Or.inr (Or.inr (Int32.not_le.mp cD))) | exact Or.inr (Or.inr (Or.inl cC)) | exact Or.inr (Or.inl cB) | exact Or.inl cA]
      refine q_iconst (v := (-1)) dX8_dayRefusal_20 rfl ?_
      exact q_iret dX8_dayRefusal_21 rfl (Nat.zero_le _) (Nat.zero_le _) (⟨rfl, rfl, rfl⟩)
    · refine q_iload_n dX8_dayRefusal_11 rfl rfl ?_
      refine q_if_lt 20 dX8_dayRefusal_12 (by decide) (fun cC => ?_) (fun cC => ?_)
      · rw [show dyR (pAll f) p k = -1 by
            unfold dyR
            refine if_pos ?_
            first | exact Or.inr (Or.inr (Or.inr (Int32.not_le.mp cD))) | exact Or.inr (Or.inr (Or.inl cC)) | exact Or.inr (Or.inl cB) | exact Or.inl cA]
        refine q_iconst (v := (-1)) dX8_dayRefusal_20 rfl ?_
        exact q_iret dX8_dayRefusal_21 rfl (Nat.zero_le _) (Nat.zero_le _) (⟨rfl, rfl, rfl⟩)
      · refine q_iload_n dX8_dayRefusal_15 rfl rfl ?_
        refine q_iload_n dX8_dayRefusal_16 rfl rfl ?_
        refine q_icmp_le 22 dX8_dayRefusal_17 (by decide) (fun cD => ?_) (fun cD => ?_)
        · have e0 : ¬ (p < 1 ∨ 30 < p ∨ k < 0 ∨ p < k) := by
            rintro (z | z | z | z)
            · exact cA z
            · exact cB z
            · exact cC z
            · exact absurd cD (Int32.not_le.mpr z)
          refine q_iload_n dX8_dayRefusal_22 rfl rfl ?_
          refine q_aload_n dX8_dayRefusal_23 rfl rfl ?_
          refine q_get dX8_dayRefusal_24 fX8_dayRefusal_19 (hX) rfl ?_
          refine q_callVd dX8_dayRefusal_27 wX8_dayRefusal_225 (c_allCoins hP hpr) (hP) ⟨_, _, rfl⟩ rfl rfl (Nat.le_of_ble_eq_true rfl) ⟨⟨Nat.le_of_ble_eq_true rfl, Nat.le_of_ble_eq_true rfl⟩, Nat.le_of_ble_eq_true rfl, Nat.le_of_ble_eq_true rfl⟩ ?_
          refine q_icmp_le 38 dX8_dayRefusal_30 (by decide) (fun cE => ?_) (fun cE => ?_)
          · rw [show dyR (pAll f) p k = 0 by unfold dyR; rw [if_neg e0, if_pos cE]]
            refine q_iconst (v := 0) dX8_dayRefusal_38 rfl ?_
            exact q_iret dX8_dayRefusal_39 rfl (Nat.zero_le _) (Nat.zero_le _) (⟨rfl, rfl, rfl⟩)
          · rw [show dyR (pAll f) p k = -2 by unfold dyR; rw [if_neg e0, if_neg cE]]
            refine q_bipush (v := (-2)) dX8_dayRefusal_33 rfl ?_
            refine q_goto 39 dX8_dayRefusal_35 (by decide) ?_
            exact q_iret dX8_dayRefusal_39 rfl (Nat.zero_le _) (Nat.zero_le _) (⟨rfl, rfl, rfl⟩)
        · rw [show dyR (pAll f) p k = -1 by
              unfold dyR
              refine if_pos ?_
              first | exact Or.inr (Or.inr (Or.inr (Int32.not_le.mp cD))) | exact Or.inr (Or.inr (Or.inl cC)) | exact Or.inr (Or.inl cB) | exact Or.inl cA]
          refine q_iconst (v := (-1)) dX8_dayRefusal_20 rfl ?_
          exact q_iret dX8_dayRefusal_21 rfl (Nat.zero_le _) (Nat.zero_le _) (⟨rfl, rfl, rfl⟩)
theorem c_commonDivisor {a b : Nat} (ha : a < 2 ^ 63) (hb : b < 2 ^ 63) (hs : stp 200 a b = true) : Det Γ l mX8_commonDivisor rX8_commonDivisor [.long (lN a), .long (lN b)] as h (some (.long (lN (Nat.gcd a b)))) h := by
  have key : ∀ (d i a' b' : Nat) (v4 v6 : Int64) (v8 : Int32) (ls : List (Nat × Value)), i + d = 200 → a' < 2 ^ 63 → b' < 2 ^ 63 → stp d a' b' = true → Nat.gcd a b = Nat.gcd a' b' → v4 = lN a' → v6 = lN b' → v8 = nI i → lin ls [(4, .long v4), (6, .long v6), (8, .int v8)] → V Γ l mX8_commonDivisor rX8_commonDivisor (Zm Γ rX8_commonDivisor (qD (some (.long (lN (Nat.gcd a b)))) as h)) 0 0 9 ls [] as h := by
    intro d
    induction d with
    | zero =>
      intro i a' b' v4 v6 v8 ls hi h1 h2 h3 h4 e4 e6 e8 hl
      subst e4 e6 e8
      refine V.at ?_ hl
      have hb0 : b' = 0 := by
        cases b' with
        | zero => rfl
        | succ k => simp [stp] at h3
      refine q_iload dX8_commonDivisor_9 rfl ?_
      refine q_sipush (v := 200) dX8_commonDivisor_11 rfl ?_
      refine q_icmp_ge 45 dX8_commonDivisor_14 (by decide) (fun _ => ?_) (fun z => absurd (ge_c 200 rfl (by omega) (by omega)) z)
      refine q_lload dX8_commonDivisor_45 rfl ?_
      exact q_lret dX8_commonDivisor_47 rfl (Nat.zero_le _) (Nat.zero_le _) (⟨by rw [h4, hb0, Nat.gcd_zero_right], rfl, rfl⟩)
    | succ d ih =>
      intro i a' b' v4 v6 v8 ls hi h1 h2 h3 h4 e4 e6 e8 hl
      subst e4 e6 e8
      refine V.at ?_ hl
      refine q_iload dX8_commonDivisor_9 rfl ?_
      refine q_sipush (v := 200) dX8_commonDivisor_11 rfl ?_
      refine q_icmp_ge 45 dX8_commonDivisor_14 (by decide) (fun z => absurd z (lt_c 200 rfl (by omega) (by omega))) (fun _ => ?_)
      refine q_lload dX8_commonDivisor_17 rfl ?_
      refine q_lconst (v := 0) dX8_commonDivisor_19 rfl ?_
      refine q_lcmp dX8_commonDivisor_20 ?_
      refine q_if_eq 45 dX8_commonDivisor_21 (by decide) (fun cE => ?_) (fun cE => ?_)
      · have hb0 : b' = 0 := (pk_lEQ (b := 0) h2 (by omega)).mp (lgc0 cE)
        refine q_lload dX8_commonDivisor_45 rfl ?_
        exact q_lret dX8_commonDivisor_47 rfl (Nat.zero_le _) (Nat.zero_le _) (⟨by rw [h4, hb0, Nat.gcd_zero_right], rfl, rfl⟩)
      · have hb0 : b' ≠ 0 := by
          intro z
          subst z
          exact cE rfl
        refine q_lload dX8_commonDivisor_24 rfl ?_
        refine q_lload dX8_commonDivisor_26 rfl ?_
        refine q_lrem dX8_commonDivisor_28 ((fun z => hb0 ((pk_lEQ (b := 0) h2 (by omega)).mp z))) ?_
        refine q_lstore dX8_commonDivisor_29 (by decide) ?_
        refine q_lload dX8_commonDivisor_31 rfl ?_
        refine q_lstore dX8_commonDivisor_33 (by decide) ?_
        refine q_lload dX8_commonDivisor_35 rfl ?_
        refine q_lstore dX8_commonDivisor_37 (by decide) ?_
        refine q_iinc1 dX8_commonDivisor_39 rfl (by decide) ?_
        refine q_goto 9 dX8_commonDivisor_42 (by decide) ?_
        exact ih (i + 1) b' (a' % b') _ _ _ _ (by omega) h2 (Nat.lt_of_le_of_lt (Nat.mod_le _ _) h1) (by cases b' with | zero => exact absurd rfl hb0 | succ k => exact h3) (by rw [h4, Nat.gcd_comm b' (a' % b'), ← Nat.gcd_rec, Nat.gcd_comm]) rfl (pk_lRem h1 (by omega) h2) (nI_s i) ⟨rfl, rfl, rfl, trivial⟩
  refine Con.of (by decide +kernel) rfl rfl (Nat.le_of_ble_eq_true rfl) ?_
  refine q_lload_n dX8_commonDivisor_0 rfl rfl ?_
  refine q_lstore dX8_commonDivisor_1 (by decide) ?_
  refine q_lload_n dX8_commonDivisor_3 rfl rfl ?_
  refine q_lstore dX8_commonDivisor_4 (by decide) ?_
  refine q_iconst (v := 0) dX8_commonDivisor_6 rfl ?_
  refine q_istore dX8_commonDivisor_7 (by decide) ?_
  exact key 200 0 a b _ _ _ _ (by omega) ha hb hs rfl rfl rfl rfl ⟨rfl, rfl, rfl, trivial⟩
theorem c_leastTerms {up : Int64} {a b : Nat} {wh : Int32} (hup : (if 0 < up then up else -up) = lN a) (ha : a < 2 ^ 63) (hb : b < 2 ^ 63) (hb0 : 0 < b) (hs : stp 200 a b = true) : Det Γ l mX8_leastTerms rX8_leastTerms [.long up, .long (lN b), .int wh] as h (some (.long ((if wh = 0 then up else lN b) / lN (Nat.gcd a b)))) h := by
  have hg : 0 < Nat.gcd a b := Nat.gcd_pos_of_pos_right _ hb0
  have hg2 : Nat.gcd a b < 2 ^ 63 := Nat.lt_of_le_of_lt (Nat.gcd_le_right _ hb0) hb
  have hne : ¬ lN (Nat.gcd a b) = 0 := fun z => absurd ((pk_lEQ (b := 0) hg2 (by omega)).mp z) (by omega)
  refine Con.of (by decide +kernel) rfl rfl (Nat.le_of_ble_eq_true rfl) ?_
  refine q_lload_n dX8_leastTerms_0 rfl rfl ?_
  refine q_mabsL dX8_leastTerms_1 (by decide +kernel) (Nat.le_of_ble_eq_true rfl) (Nat.le_of_ble_eq_true rfl) (Nat.zero_le _) (Nat.zero_le _) ?_
  refine q_lload_n dX8_leastTerms_4 rfl rfl ?_
  rw [hup]
  refine q_callSd dX8_leastTerms_5 wX8_leastTerms_300 (c_commonDivisor ha hb hs) rfl rfl (Nat.le_of_ble_eq_true rfl) ⟨⟨Nat.le_of_ble_eq_true rfl, Nat.le_of_ble_eq_true rfl⟩, Nat.le_of_ble_eq_true rfl, Nat.le_of_ble_eq_true rfl⟩ ?_
  refine q_lstore dX8_leastTerms_8 (by decide) ?_
  refine q_lload dX8_leastTerms_10 rfl ?_
  refine q_lconst (v := 0) dX8_leastTerms_12 rfl ?_
  refine q_lcmp dX8_leastTerms_13 ?_
  refine q_if_ne 21 dX8_leastTerms_14 (by decide) (fun _ => ?_) (fun z => absurd z (fun z => hne (lgc0 z)))
  refine q_iload dX8_leastTerms_21 rfl ?_
  refine q_if_ne 30 dX8_leastTerms_23 (by decide) (fun cW => ?_) (fun cW => ?_)
  · refine q_lload_n dX8_leastTerms_30 rfl rfl ?_
    refine q_lload dX8_leastTerms_31 rfl ?_
    refine q_ldiv dX8_leastTerms_33 (hne) ?_
    exact q_lret dX8_leastTerms_34 rfl (Nat.zero_le _) (Nat.zero_le _) (⟨by first | rw [if_neg cW] | rw [if_pos cW], rfl, rfl⟩)
  · refine q_lload_n dX8_leastTerms_26 rfl rfl ?_
    refine q_goto 31 dX8_leastTerms_27 (by decide) ?_
    refine q_lload dX8_leastTerms_31 rfl ?_
    refine q_ldiv dX8_leastTerms_33 (hne) ?_
    exact q_lret dX8_leastTerms_34 rfl (Nat.zero_le _) (Nat.zero_le _) (⟨by first | rw [if_neg cW] | rw [if_pos cW], rfl, rfl⟩)
theorem c_draw (hX : hat as h X (xo T P S U M D L I tw dr lot yr tc)) : Det Γ l mX8_draw rX8_draw [.ref X] as h (some (.int (nI (drw (lotN lot))))) (hset h X (xo T P S U M D L I tw dr (lotN lot) yr tc)) := by
  refine Con.of (by decide +kernel) rfl rfl (Nat.le_of_ble_eq_true rfl) ?_
  refine q_aload_n dX8_draw_0 rfl rfl ?_
  refine q_aload_n dX8_draw_1 rfl rfl ?_
  refine q_get dX8_draw_2 fX8_draw_71 (hX) rfl ?_
  refine q_ldcw (v := 1103515245) dX8_draw_5 (by decide +kernel) ?_
  refine q_imul dX8_draw_8 ?_
  refine q_sipush (v := 12345) dX8_draw_9 rfl ?_
  refine q_iadd dX8_draw_12 ?_
  refine q_put dX8_draw_13 pX8_draw_71 (hX) rfl rfl (Nat.le_of_ble_eq_true rfl) ?_
  refine q_aload_n dX8_draw_16 rfl rfl ?_
  refine q_get dX8_draw_17 fX8_draw_71 (hat_set hX) rfl ?_
  refine q_bipush (v := 16) dX8_draw_20 rfl ?_
  refine q_iushr dX8_draw_22 ?_
  exact q_iret dX8_draw_23 rfl (Nat.zero_le _) (Nat.zero_le _) (⟨by rw [← us16]; rfl, rfl, rfl⟩)
theorem c_looksNow {p : Nat} (hp : p < 8) (hX : hat as h X (xo T P S U M D L I tw dr lot yr tc)) (ht : hat as h tw (twn aw ax ay ao n)) (hw : hat as h aw (aI Γ 8 w)) (hx : hat as h ax (aI Γ 8 x)) : Det Γ l mX8_looksNow rX8_looksNow [.ref X, .int (nI p)] as h (some (.int (if w p = 2 then bI (decide (nI (drw (lotN lot) % 10) < x p)) else bI (decide (w p = 1))))) (if w p = 2 then hset h X (xo T P S U M D L I tw dr (lotN lot) yr tc) else h) := by
  have e1 := hat_oo ht hX (by decide)
  have e2 := hat_ao hx hX
  refine Con.of (by decide +kernel) rfl rfl (Nat.le_of_ble_eq_true rfl) ?_
  refine q_aload_n dX8_looksNow_0 rfl rfl ?_
  refine q_get dX8_looksNow_1 fX8_looksNow_64 (hX) rfl ?_
  refine q_get dX8_looksNow_4 fX8_looksNow_115 (ht) rfl ?_
  refine q_iload_n dX8_looksNow_7 rfl rfl ?_
  refine q_iald dX8_looksNow_8 (hw) (in_nI hp (by omega)) ?_
  refine q_iconst (v := 2) dX8_looksNow_9 rfl ?_
  rw [nI_clamp (by omega)]
  refine q_icmp_ne 38 dX8_looksNow_10 (by decide) (fun cA => ?_) (fun cA => ?_)
  · rw [if_neg cA, if_neg cA]
    refine q_aload_n dX8_looksNow_38 rfl rfl ?_
    refine q_get dX8_looksNow_39 fX8_looksNow_64 (hX) rfl ?_
    refine q_get dX8_looksNow_42 fX8_looksNow_115 (ht) rfl ?_
    refine q_iload_n dX8_looksNow_45 rfl rfl ?_
    refine q_iald dX8_looksNow_46 (hw) (in_nI hp (by omega)) ?_
    refine q_iconst (v := 1) dX8_looksNow_47 rfl ?_
    rw [nI_clamp (by omega)]
    refine q_icmp_ne 55 dX8_looksNow_48 (by decide) (fun cC => ?_) (fun cC => ?_)
    · rw [decide_eq_false cC]
      refine q_iconst (v := 0) dX8_looksNow_55 rfl ?_
      exact q_zret dX8_looksNow_56 rfl (rfl) (Nat.zero_le _) (Nat.zero_le _) (⟨rfl, rfl, rfl⟩)
    · rw [decide_eq_true cC]
      refine q_iconst (v := 1) dX8_looksNow_51 rfl ?_
      refine q_goto 56 dX8_looksNow_52 (by decide) ?_
      exact q_zret dX8_looksNow_56 rfl (rfl) (Nat.zero_le _) (Nat.zero_le _) (⟨rfl, rfl, rfl⟩)
  · rw [if_pos cA, if_pos cA]
    refine q_aload_n dX8_looksNow_13 rfl rfl ?_
    refine q_callVd dX8_looksNow_14 wX8_looksNow_305 (c_draw hX) (hX) ⟨_, _, rfl⟩ rfl rfl (Nat.le_of_ble_eq_true rfl) ⟨⟨Nat.le_of_ble_eq_true rfl, Nat.le_of_ble_eq_true rfl⟩, Nat.le_of_ble_eq_true rfl, Nat.le_of_ble_eq_true rfl⟩ ?_
    refine q_bipush (v := 10) dX8_looksNow_17 rfl ?_
    refine q_irem dX8_looksNow_19 ((by decide)) ?_
    refine q_aload_n dX8_looksNow_20 rfl rfl ?_
    refine q_get dX8_looksNow_21 fX8_looksNow_64 (hat_set hX) rfl ?_
    refine q_get dX8_looksNow_24 fX8_looksNow_119 (hat_ne ht e1) rfl ?_
    refine q_iload_n dX8_looksNow_27 rfl rfl ?_
    refine q_iald dX8_looksNow_28 (hat_ne hx e2) (in_nI hp (by omega)) ?_
    rw [nI_clamp (by omega), show (10 : Int32) = nI 10 from rfl, pk_rem (Nat.lt_of_lt_of_le (drw_lt _) (by decide)) (by decide) (by decide)]
    refine q_icmp_ge 36 dX8_looksNow_29 (by decide) (fun cB => ?_) (fun cB => ?_)
    · rw [decide_eq_false (Int32.not_lt.mpr cB)]
      refine q_iconst (v := 0) dX8_looksNow_36 rfl ?_
      exact q_zret dX8_looksNow_37 rfl (rfl) (Nat.zero_le _) (Nat.zero_le _) (⟨rfl, rfl, rfl⟩)
    · rw [decide_eq_true (Int32.not_le.mp cB)]
      refine q_iconst (v := 1) dX8_looksNow_32 rfl ?_
      refine q_goto 37 dX8_looksNow_33 (by decide) ?_
      exact q_zret dX8_looksNow_37 rfl (rfl) (Nat.zero_le _) (Nat.zero_le _) (⟨rfl, rfl, rfl⟩)
theorem wtp_up {p most : Nat} (hp : p < 8) (hm : most ≤ 9) (hX : hat as h X (xo T P S U M D L I tw dr lot yr tc)) (hP : hat as h P (ob 4 [.ref pr])) (hpr : hat as h pr (aI Γ 80 f)) {v2 r0 : Int32} : ∀ (d w : Nat) (z : Int32) (ls : List (Nat × Value)), w + d = most + 1 → r0 = fstW f p d w → z = nI w → lin ls [(0, .ref X), (1, .int (nI p)), (2, .int v2), (3, .int (nI most)), (4, .int z)] → V Γ l mX8_weightToPay rX8_weightToPay (Zm Γ rX8_weightToPay (qD (some (.int r0)) as h)) 0 0 34 ls [] as h := by
  intro d
  induction d with
  | zero =>
    intro w z ls hw hr hz hl
    subst hr hz
    refine V.at ?_ hl
    refine q_iload dX8_weightToPay_34 rfl ?_
    refine q_iload_n dX8_weightToPay_36 rfl rfl ?_
    refine q_icmp_gt 62 dX8_weightToPay_37 (by decide) (fun _ => ?_) (fun z => absurd (nI_lt (by omega) (by omega)) z)
    refine q_bipush (v := (-9)) dX8_weightToPay_62 rfl ?_
    exact q_iret dX8_weightToPay_64 rfl (Nat.zero_le _) (Nat.zero_le _) (⟨rfl, rfl, rfl⟩)
  | succ d ih =>
    intro w z ls hw hr hz hl
    subst hz
    refine V.at ?_ hl
    refine q_iload dX8_weightToPay_34 rfl ?_
    refine q_iload_n dX8_weightToPay_36 rfl rfl ?_
    refine q_icmp_gt 62 dX8_weightToPay_37 (by decide) (fun z => absurd z (nI_nlt (by omega) (by omega))) (fun _ => ?_)
    refine q_aload_n dX8_weightToPay_40 rfl rfl ?_
    refine q_get dX8_weightToPay_41 fX8_weightToPay_19 (hX) rfl ?_
    refine q_iload_n dX8_weightToPay_44 rfl rfl ?_
    refine q_iload dX8_weightToPay_45 rfl ?_
    refine q_callVd dX8_weightToPay_47 wX8_weightToPay_135 (c_held hP hpr hp (show w < 10 by omega)) (hP) ⟨_, _, rfl⟩ rfl rfl (Nat.le_of_ble_eq_true rfl) ⟨⟨Nat.le_of_ble_eq_true rfl, Nat.le_of_ble_eq_true rfl⟩, Nat.le_of_ble_eq_true rfl, Nat.le_of_ble_eq_true rfl⟩ ?_
    refine q_if_le 56 dX8_weightToPay_50 (by decide) (fun cA => ?_) (fun cA => ?_)
    · refine q_iinc1 dX8_weightToPay_56 rfl (by decide) ?_
      refine q_goto 34 dX8_weightToPay_59 (by decide) ?_
      exact ih (w + 1) _ _ (by omega) (by rw [hr]; simp only [fstW]; rw [if_pos cA]) (nI_s w) ⟨rfl, rfl, rfl, rfl, rfl, trivial⟩
    · refine q_iload dX8_weightToPay_53 rfl ?_
      exact q_iret dX8_weightToPay_55 rfl (Nat.zero_le _) (Nat.zero_le _) (⟨by rw [hr]; simp only [fstW]; rw [if_neg cA], rfl, rfl⟩)
theorem wtp_dn {p : Nat} (hp : p < 8) (hX : hat as h X (xo T P S U M D L I tw dr lot yr tc)) (hP : hat as h P (ob 4 [.ref pr])) (hpr : hat as h pr (aI Γ 80 f)) {v2 v3 r0 : Int32} : ∀ (k : Nat) (z : Int32) (ls : List (Nat × Value)), k ≤ 10 → r0 = lstW f p k → z + 1 = nI k → lin ls [(0, .ref X), (1, .int (nI p)), (2, .int v2), (3, .int v3), (4, .int z)] → V Γ l mX8_weightToPay rX8_weightToPay (Zm Γ rX8_weightToPay (qD (some (.int r0)) as h)) 0 0 68 ls [] as h := by
  intro k
  induction k with
  | zero =>
    intro z ls hk hr hz hl
    have ez : z = -1 := by rw [show z = z + 1 - 1 from (Int32.add_sub_cancel z 1).symm, hz]; rfl
    subst hr ez
    refine V.at ?_ hl
    refine q_iload dX8_weightToPay_68 rfl ?_
    refine q_if_lt 95 dX8_weightToPay_70 (by decide) (fun _ => ?_) (fun z => absurd ((by decide)) z)
    refine q_bipush (v := (-9)) dX8_weightToPay_95 rfl ?_
    exact q_iret dX8_weightToPay_97 rfl (Nat.zero_le _) (Nat.zero_le _) (⟨rfl, rfl, rfl⟩)
  | succ k ih =>
    intro z ls hk hr hz hl
    have ez : z = nI k := by rw [show z = z + 1 - 1 from (Int32.add_sub_cancel z 1).symm, hz]; exact nI_pred k
    subst ez
    refine V.at ?_ hl
    refine q_iload dX8_weightToPay_68 rfl ?_
    refine q_if_lt 95 dX8_weightToPay_70 (by decide) (fun z => absurd z (nI_pos (by omega))) (fun _ => ?_)
    refine q_aload_n dX8_weightToPay_73 rfl rfl ?_
    refine q_get dX8_weightToPay_74 fX8_weightToPay_19 (hX) rfl ?_
    refine q_iload_n dX8_weightToPay_77 rfl rfl ?_
    refine q_iload dX8_weightToPay_78 rfl ?_
    refine q_callVd dX8_weightToPay_80 wX8_weightToPay_135 (c_held hP hpr hp (show k < 10 by omega)) (hP) ⟨_, _, rfl⟩ rfl rfl (Nat.le_of_ble_eq_true rfl) ⟨⟨Nat.le_of_ble_eq_true rfl, Nat.le_of_ble_eq_true rfl⟩, Nat.le_of_ble_eq_true rfl, Nat.le_of_ble_eq_true rfl⟩ ?_
    refine q_if_le 89 dX8_weightToPay_83 (by decide) (fun cA => ?_) (fun cA => ?_)
    · refine q_iincM dX8_weightToPay_89 rfl (by decide) ?_
      refine q_goto 68 dX8_weightToPay_92 (by decide) ?_
      exact ih _ _ (by omega) (by rw [hr]; simp only [lstW]; rw [if_pos cA]) (m1p1 _) ⟨rfl, rfl, rfl, rfl, rfl, trivial⟩
    · refine q_iload dX8_weightToPay_86 rfl ?_
      exact q_iret dX8_weightToPay_88 rfl (Nat.zero_le _) (Nat.zero_le _) (⟨by rw [hr]; simp only [lstW]; rw [if_neg cA], rfl, rfl⟩)
theorem c_weightToPay {p : Nat} {b : Bool} {lim : Nat} (hp : p < 8) (hlim : lim ≤ 9) (hX : hat as h X (xo T P S U M D L I tw dr lot yr tc)) (hP : hat as h P (ob 4 [.ref pr])) (hpr : hat as h pr (aI Γ 80 f)) (hU : hat as h U (ob 7 [.ref ur])) (hur : hat as h ur (aI Γ 6 u)) (hu : u 0 = nI lim) (ht : hat as h tw (twn aw ax ay ao n)) (hy : hat as h ay (aI Γ 8 y)) : Det Γ l mX8_weightToPay rX8_weightToPay [.ref X, .int (nI p), .int (bI b)] as h (some (.int (wtp f p (if b then lim else 9) (y p)))) h := by
  have tail : ∀ most, most ≤ 9 → V Γ l mX8_weightToPay rX8_weightToPay (Zm Γ rX8_weightToPay (qD (some (.int (wtp f p most (y p)))) as h)) 0 0 17 [(0, .ref X), (1, .int (nI p)), (2, .int (bI b))] [.int (nI most)] as h := by
    intro most hm
    refine q_istore_n dX8_weightToPay_17 rfl (by decide) ?_
    refine q_aload_n dX8_weightToPay_18 rfl rfl ?_
    refine q_get dX8_weightToPay_19 fX8_weightToPay_64 (hX) rfl ?_
    refine q_get dX8_weightToPay_22 fX8_weightToPay_122 (ht) rfl ?_
    refine q_iload_n dX8_weightToPay_25 rfl rfl ?_
    refine q_iald dX8_weightToPay_26 (hy) (in_nI hp (by omega)) ?_
    refine q_iconst (v := 1) dX8_weightToPay_27 rfl ?_
    rw [nI_clamp (by omega)]
    refine q_icmp_ne 65 dX8_weightToPay_28 (by decide) (fun cA => ?_) (fun cA => ?_)
    · refine q_iload_n dX8_weightToPay_65 rfl rfl ?_
      refine q_istore dX8_weightToPay_66 (by decide) ?_
      exact wtp_dn hp hX hP hpr (most + 1) _ _ (by omega) (by unfold wtp; rw [if_neg cA]) (nI_s most) ⟨rfl, rfl, rfl, rfl, rfl, trivial⟩
    · refine q_iconst (v := 0) dX8_weightToPay_31 rfl ?_
      refine q_istore dX8_weightToPay_32 (by decide) ?_
      exact wtp_up hp hm hX hP hpr (most + 1) 0 _ _ (by omega) (by unfold wtp; rw [if_pos cA]) rfl ⟨rfl, rfl, rfl, rfl, rfl, trivial⟩
  refine Con.of (by decide +kernel) rfl rfl (Nat.le_of_ble_eq_true rfl) ?_
  refine q_iload_n dX8_weightToPay_0 rfl rfl ?_
  refine q_if_eq 15 dX8_weightToPay_1 (by decide) (fun cB => ?_) (fun cB => ?_)
  · rw [if_neg (by rw [bI_0.mp cB]; decide)]
    refine q_bipush (v := 9) dX8_weightToPay_15 rfl ?_
    exact tail 9 (by omega)
  · refine q_aload_n dX8_weightToPay_4 rfl rfl ?_
    refine q_get dX8_weightToPay_5 fX8_weightToPay_29 (hX) rfl ?_
    refine q_iconst (v := 0) dX8_weightToPay_8 rfl ?_
    refine q_callVd dX8_weightToPay_9 wX8_weightToPay_172 (c_of (j := 0) hU hur (by omega)) (hU) ⟨_, _, rfl⟩ rfl rfl (Nat.le_of_ble_eq_true rfl) ⟨⟨Nat.le_of_ble_eq_true rfl, Nat.le_of_ble_eq_true rfl⟩, Nat.le_of_ble_eq_true rfl, Nat.le_of_ble_eq_true rfl⟩ ?_
    refine q_goto 17 dX8_weightToPay_12 (by decide) ?_
    rw [if_pos (bI_n.mp cB)]
    exact V.stk (tail lim hlim) (by rw [← hu]; rfl)
theorem c_worthAsItIs {k : Nat} (hX : hat as h X (xo T P S U M D L I tw dr lot yr tc)) (hU : hat as h U (ob 7 [.ref ur])) (hur : hat as h ur (aI Γ 6 u)) : Det Γ l mX8_worthAsItIs rX8_worthAsItIs [.ref X, .int (nI k)] as h (some (.int (asI u k))) h := by
  refine Con.of (by decide +kernel) rfl rfl (Nat.le_of_ble_eq_true rfl) ?_
  refine q_iload_n dX8_worthAsItIs_0 rfl rfl ?_
  refine q_aload_n dX8_worthAsItIs_1 rfl rfl ?_
  refine q_get dX8_worthAsItIs_2 fX8_worthAsItIs_29 (hX) rfl ?_
  refine q_iconst (v := 0) dX8_worthAsItIs_5 rfl ?_
  refine q_callVd dX8_worthAsItIs_6 wX8_worthAsItIs_172 (c_of (j := 0) hU hur (by omega)) (hU) ⟨_, _, rfl⟩ rfl rfl (Nat.le_of_ble_eq_true rfl) ⟨⟨Nat.le_of_ble_eq_true rfl, Nat.le_of_ble_eq_true rfl⟩, Nat.le_of_ble_eq_true rfl, Nat.le_of_ble_eq_true rfl⟩ ?_
  refine q_icmp_gt 17 dX8_worthAsItIs_9 (by decide) (fun cA => ?_) (fun cA => ?_)
  · refine q_bipush (v := 10) dX8_worthAsItIs_17 rfl ?_
    refine q_iload_n dX8_worthAsItIs_19 rfl rfl ?_
    refine q_isub dX8_worthAsItIs_20 ?_
    exact q_iret dX8_worthAsItIs_21 rfl (Nat.zero_le _) (Nat.zero_le _) (⟨by unfold asI; first | rw [if_pos cA] | rw [if_neg cA], rfl, rfl⟩)
  · refine q_bipush (v := 10) dX8_worthAsItIs_12 rfl ?_
    refine q_goto 21 dX8_worthAsItIs_14 (by decide) ?_
    exact q_iret dX8_worthAsItIs_21 rfl (Nat.zero_le _) (Nat.zero_le _) (⟨by unfold asI; first | rw [if_pos cA] | rw [if_neg cA], rfl, rfl⟩)
theorem c_worthScale {k : Nat} (hk : k ≤ 9) : Det Γ l mX8_worthScale rX8_worthScale [.int (nI k)] as h (some (.long (p10 (9 - k)))) h := by
  have key : ∀ (d i : Nat) (v1 : Int64) (v3 : Int32) (ls : List (Nat × Value)), i + d = 9 → k ≤ i → v1 = p10 (i - k) → v3 = nI i → lin ls [(1, .long v1), (3, .int v3)] → V Γ l mX8_worthScale rX8_worthScale (Zm Γ rX8_worthScale (qD (some (.long (p10 (9 - k)))) as h)) 0 0 4 ls [] as h := by
    intro d
    induction d with
    | zero =>
      intro i v1 v3 ls hi hk1 e1 e3 hl
      subst e1 e3
      refine V.at ?_ hl
      refine q_iload_n dX8_worthScale_4 rfl rfl ?_
      refine q_bipush (v := 9) dX8_worthScale_5 rfl ?_
      refine q_icmp_ge 22 dX8_worthScale_7 (by decide) (fun _ => ?_) (fun z => absurd (ge_c 9 rfl (by omega) (by omega)) z)
      refine q_lload_n dX8_worthScale_22 rfl rfl ?_
      exact q_lret dX8_worthScale_23 rfl (Nat.zero_le _) (Nat.zero_le _) (⟨by rw [show i = 9 by omega], rfl, rfl⟩)
    | succ d ih =>
      intro i v1 v3 ls hi hk1 e1 e3 hl
      subst e1 e3
      refine V.at ?_ hl
      refine q_iload_n dX8_worthScale_4 rfl rfl ?_
      refine q_bipush (v := 9) dX8_worthScale_5 rfl ?_
      refine q_icmp_ge 22 dX8_worthScale_7 (by decide) (fun z => absurd z (lt_c 9 rfl (by omega) (by omega))) (fun _ => ?_)
      refine q_lload_n dX8_worthScale_10 rfl rfl ?_
      refine q_ldc2 (v := 10) dX8_worthScale_11 (by decide +kernel) ?_
      refine q_lmul dX8_worthScale_14 ?_
      refine q_lstore_n dX8_worthScale_15 rfl (by decide) ?_
      refine q_iinc1 dX8_worthScale_16 rfl (by decide) ?_
      refine q_goto 4 dX8_worthScale_19 (by decide) ?_
      exact ih (i + 1) _ _ _ (by omega) (by omega) (by rw [show i + 1 - k = (i - k) + 1 by omega]; rfl) (nI_s i) ⟨rfl, rfl, trivial⟩
  refine Con.of (by decide +kernel) rfl rfl (Nat.le_of_ble_eq_true rfl) ?_
  refine q_lconst (v := 1) dX8_worthScale_0 rfl ?_
  refine q_lstore_n dX8_worthScale_1 rfl (by decide) ?_
  refine q_iload_n dX8_worthScale_2 rfl rfl ?_
  refine q_istore_n dX8_worthScale_3 rfl (by decide) ?_
  exact key (9 - k) k _ _ _ (by omega) (by omega) (by rw [Nat.sub_self]; rfl) rfl ⟨rfl, rfl, trivial⟩
theorem c_clippedScaled {k : Nat} {nw : Int64} (hk : k ≤ 8) (hX : hat as h X (xo T P S U M D L I tw dr lot yr tc)) (hU : hat as h U (ob 7 [.ref ur])) (hur : hat as h ur (aI Γ 6 u)) : Det Γ l mX8_clippedScaled rX8_clippedScaled [.ref X, .int (nI k), .long nw] as h (some (.long (clS u k nw))) h := by
  refine Con.of (by decide +kernel) rfl rfl (Nat.le_of_ble_eq_true rfl) ?_
  refine q_iload_n dX8_clippedScaled_0 rfl rfl ?_
  refine q_iconst (v := 1) dX8_clippedScaled_1 rfl ?_
  refine q_iadd dX8_clippedScaled_2 ?_
  rw [nI_s]
  refine q_callSd dX8_clippedScaled_3 wX8_clippedScaled_215 (c_worthScale (show k + 1 ≤ 9 by omega)) rfl rfl (Nat.le_of_ble_eq_true rfl) ⟨⟨Nat.le_of_ble_eq_true rfl, Nat.le_of_ble_eq_true rfl⟩, Nat.le_of_ble_eq_true rfl, Nat.le_of_ble_eq_true rfl⟩ ?_
  refine q_lstore dX8_clippedScaled_6 (by decide) ?_
  refine q_aload_n dX8_clippedScaled_8 rfl rfl ?_
  refine q_get dX8_clippedScaled_9 fX8_clippedScaled_29 (hX) rfl ?_
  refine q_iconst (v := 3) dX8_clippedScaled_12 rfl ?_
  refine q_callVd dX8_clippedScaled_13 wX8_clippedScaled_172 (c_of (j := 3) hU hur (by omega)) (hU) ⟨_, _, rfl⟩ rfl rfl (Nat.le_of_ble_eq_true rfl) ⟨⟨Nat.le_of_ble_eq_true rfl, Nat.le_of_ble_eq_true rfl⟩, Nat.le_of_ble_eq_true rfl, Nat.le_of_ble_eq_true rfl⟩ ?_
  refine q_i2l dX8_clippedScaled_16 ?_
  refine q_lstore dX8_clippedScaled_17 (by decide) ?_
  refine q_ldc2 (v := 10) dX8_clippedScaled_19 (by decide +kernel) ?_
  refine q_lload dX8_clippedScaled_22 rfl ?_
  refine q_lsub dX8_clippedScaled_24 ?_
  refine q_aload_n dX8_clippedScaled_25 rfl rfl ?_
  refine q_get dX8_clippedScaled_26 fX8_clippedScaled_29 (hX) rfl ?_
  refine q_iconst (v := 4) dX8_clippedScaled_29 rfl ?_
  refine q_callVd dX8_clippedScaled_30 wX8_clippedScaled_172 (c_of (j := 4) hU hur (by omega)) (hU) ⟨_, _, rfl⟩ rfl rfl (Nat.le_of_ble_eq_true rfl) ⟨⟨Nat.le_of_ble_eq_true rfl, Nat.le_of_ble_eq_true rfl⟩, Nat.le_of_ble_eq_true rfl, Nat.le_of_ble_eq_true rfl⟩ ?_
  refine q_i2l dX8_clippedScaled_33 ?_
  refine q_lload dX8_clippedScaled_34 rfl ?_
  refine q_lmul dX8_clippedScaled_36 ?_
  refine q_lload_n dX8_clippedScaled_37 rfl rfl ?_
  refine q_ladd dX8_clippedScaled_38 ?_
  refine q_lmul dX8_clippedScaled_39 ?_
  refine q_lload dX8_clippedScaled_40 rfl ?_
  refine q_aload_n dX8_clippedScaled_42 rfl rfl ?_
  refine q_get dX8_clippedScaled_43 fX8_clippedScaled_29 (hX) rfl ?_
  refine q_iconst (v := 2) dX8_clippedScaled_46 rfl ?_
  refine q_callVd dX8_clippedScaled_47 wX8_clippedScaled_172 (c_of (j := 2) hU hur (by omega)) (hU) ⟨_, _, rfl⟩ rfl rfl (Nat.le_of_ble_eq_true rfl) ⟨⟨Nat.le_of_ble_eq_true rfl, Nat.le_of_ble_eq_true rfl⟩, Nat.le_of_ble_eq_true rfl, Nat.le_of_ble_eq_true rfl⟩ ?_
  refine q_i2l dX8_clippedScaled_50 ?_
  refine q_lmul dX8_clippedScaled_51 ?_
  refine q_lload dX8_clippedScaled_52 rfl ?_
  refine q_lmul dX8_clippedScaled_54 ?_
  refine q_lsub dX8_clippedScaled_55 ?_
  exact q_lret dX8_clippedScaled_56 rfl (Nat.zero_le _) (Nat.zero_le _) (⟨by rw [show 9 - (k + 1) = 8 - k by omega]; rfl, rfl, rfl⟩)
theorem pred_lt {a k : Nat} {v : Int32} (hv : v + 1 = nI a) (ha : a < 1000) (hk : k < 1000) : v < nI k ↔ a ≤ k := by
  have hv' : v = nI a - 1 := by rw [← hv]; exact (Int32.add_sub_cancel v 1).symm
  rw [hv', Int32.lt_iff_toInt_lt, show (1 : Int32) = nI 1 from rfl, pk_sub_toInt (by omega) (by omega), nI_toInt (by omega)]
  omega
theorem pred_eq {a : Nat} {v : Int32} (hv : v + 1 = nI (a + 1)) : v = nI a := by
  rw [show v = v + 1 - 1 from (Int32.add_sub_cancel v 1).symm, hv]; exact nI_pred a
theorem c_worthScaled {k : Nat} (hk : k ≤ 9) (hX : hat as h X (xo T P S U M D L I tw dr lot yr tc)) (hU : hat as h U (ob 7 [.ref ur])) (hur : hat as h ur (aI Γ 6 u)) : Det Γ l mX8_worthScaled rX8_worthScaled [.ref X, .int (nI k)] as h (some (.long (wrW u (9 - k)))) h := by
  have key : ∀ (d j : Nat) (v2 : Int64) (v4 : Int32) (ls : List (Nat × Value)), j + d = 9 - k → v2 = wrW u j → v4 + 1 = nI (9 - j) → lin ls [(0, .ref X), (1, .int (nI k)), (2, .long v2), (4, .int v4)] → V Γ l mX8_worthScaled rX8_worthScaled (Zm Γ rX8_worthScaled (qD (some (.long (wrW u (9 - k)))) as h)) 0 0 12 ls [] as h := by
    intro d
    induction d with
    | zero =>
      intro j v2 v4 ls hj e2 e4 hl
      subst e2
      refine V.at ?_ hl
      refine q_iload dX8_worthScaled_12 rfl ?_
      refine q_iload_n dX8_worthScaled_14 rfl rfl ?_
      refine q_icmp_lt 48 dX8_worthScaled_15 (by decide) (fun _ => ?_) (fun z => absurd ((pred_lt e4 (by omega) (by omega)).mpr (by omega)) z)
      refine q_lload_n dX8_worthScaled_48 rfl rfl ?_
      exact q_lret dX8_worthScaled_49 rfl (Nat.zero_le _) (Nat.zero_le _) (⟨by rw [show j = 9 - k by omega], rfl, rfl⟩)
    | succ d ih =>
      intro j v2 v4 ls hj e2 e4 hl
      have e5 : v4 = nI (8 - j) := pred_eq (by rw [e4]; congr 1; omega)
      subst e2 e5
      refine V.at ?_ hl
      refine q_iload dX8_worthScaled_12 rfl ?_
      refine q_iload_n dX8_worthScaled_14 rfl rfl ?_
      refine q_icmp_lt 48 dX8_worthScaled_15 (by decide) (fun z => absurd z (nI_nlt (by omega) (by omega))) (fun _ => ?_)
      refine q_aload_n dX8_worthScaled_18 rfl rfl ?_
      refine q_iload dX8_worthScaled_19 rfl ?_
      refine q_callVd dX8_worthScaled_21 wX8_worthScaled_325 (c_worthAsItIs hX hU hur) (hX) ⟨_, _, rfl⟩ rfl rfl (Nat.le_of_ble_eq_true rfl) ⟨⟨Nat.le_of_ble_eq_true rfl, Nat.le_of_ble_eq_true rfl⟩, Nat.le_of_ble_eq_true rfl, Nat.le_of_ble_eq_true rfl⟩ ?_
      refine q_i2l dX8_worthScaled_24 ?_
      refine q_iload dX8_worthScaled_25 rfl ?_
      refine q_callSd dX8_worthScaled_27 wX8_worthScaled_215 (c_worthScale (show 8 - j ≤ 9 by omega)) rfl rfl (Nat.le_of_ble_eq_true rfl) ⟨⟨Nat.le_of_ble_eq_true rfl, Nat.le_of_ble_eq_true rfl⟩, Nat.le_of_ble_eq_true rfl, Nat.le_of_ble_eq_true rfl⟩ ?_
      refine q_lmul dX8_worthScaled_30 ?_
      refine q_aload_n dX8_worthScaled_31 rfl rfl ?_
      refine q_iload dX8_worthScaled_32 rfl ?_
      refine q_lload_n dX8_worthScaled_34 rfl rfl ?_
      refine q_callVd dX8_worthScaled_35 wX8_worthScaled_328 (c_clippedScaled (show 8 - j ≤ 8 by omega) hX hU hur) (hX) ⟨_, _, rfl⟩ rfl rfl (Nat.le_of_ble_eq_true rfl) ⟨⟨Nat.le_of_ble_eq_true rfl, Nat.le_of_ble_eq_true rfl⟩, Nat.le_of_ble_eq_true rfl, Nat.le_of_ble_eq_true rfl⟩ ?_
      refine q_mmaxL dX8_worthScaled_38 (by decide +kernel) (Nat.le_of_ble_eq_true rfl) (Nat.le_of_ble_eq_true rfl) (Nat.zero_le _) (Nat.zero_le _) ?_
      refine q_lstore_n dX8_worthScaled_41 rfl (by decide) ?_
      refine q_iincM dX8_worthScaled_42 rfl (by decide) ?_
      refine q_goto 12 dX8_worthScaled_45 (by decide) ?_
      exact ih (j + 1) _ _ _ (by omega) (by simp only [wrW]; rw [show 9 - (8 - j) = j + 1 by omega]) (by rw [m1p1]; congr 1; omega) ⟨rfl, rfl, rfl, rfl, trivial⟩
  refine Con.of (by decide +kernel) rfl rfl (Nat.le_of_ble_eq_true rfl) ?_
  refine q_aload_n dX8_worthScaled_0 rfl rfl ?_
  refine q_bipush (v := 9) dX8_worthScaled_1 rfl ?_
  refine q_callVd dX8_worthScaled_3 wX8_worthScaled_325 (c_worthAsItIs (k := 9) hX hU hur) (hX) ⟨_, _, rfl⟩ rfl rfl (Nat.le_of_ble_eq_true rfl) ⟨⟨Nat.le_of_ble_eq_true rfl, Nat.le_of_ble_eq_true rfl⟩, Nat.le_of_ble_eq_true rfl, Nat.le_of_ble_eq_true rfl⟩ ?_
  refine q_i2l dX8_worthScaled_6 ?_
  refine q_lstore_n dX8_worthScaled_7 rfl (by decide) ?_
  refine q_bipush (v := 8) dX8_worthScaled_8 rfl ?_
  refine q_istore dX8_worthScaled_10 (by decide) ?_
  exact key (9 - k) 0 _ _ _ (by omega) rfl rfl ⟨rfl, rfl, rfl, rfl, trivial⟩
theorem c_clippedUntil {k : Nat} (hk : k ≤ 9) (hX : hat as h X (xo T P S U M D L I tw dr lot yr tc)) (hU : hat as h U (ob 7 [.ref ur])) (hur : hat as h ur (aI Γ 6 u)) : Det Γ l mX8_clippedUntil rX8_clippedUntil [.ref X, .int (nI k)] as h (some (.int (unS u (9 - k) k))) h := by
  have key : ∀ (d i : Nat) (r0 v2 : Int32) (ls : List (Nat × Value)), i + d = 9 → r0 = unS u d i → v2 = nI i → lin ls [(0, .ref X), (2, .int v2)] → V Γ l mX8_clippedUntil rX8_clippedUntil (Zm Γ rX8_clippedUntil (qD (some (.int r0)) as h)) 0 0 2 ls [] as h := by
    intro d
    induction d with
    | zero =>
      intro i r0 v2 ls hi hr e2 hl
      subst hr e2
      refine V.at ?_ hl
      refine q_iload_n dX8_clippedUntil_2 rfl rfl ?_
      refine q_bipush (v := 9) dX8_clippedUntil_3 rfl ?_
      refine q_icmp_ge 43 dX8_clippedUntil_5 (by decide) (fun _ => ?_) (fun z => absurd (ge_c 9 rfl (by omega) (by omega)) z)
      refine q_bipush (v := 9) dX8_clippedUntil_43 rfl ?_
      exact q_iret dX8_clippedUntil_45 rfl (Nat.zero_le _) (Nat.zero_le _) (⟨rfl, rfl, rfl⟩)
    | succ d ih =>
      intro i r0 v2 ls hi hr e2 hl
      subst e2
      refine V.at ?_ hl
      refine q_iload_n dX8_clippedUntil_2 rfl rfl ?_
      refine q_bipush (v := 9) dX8_clippedUntil_3 rfl ?_
      refine q_icmp_ge 43 dX8_clippedUntil_5 (by decide) (fun z => absurd z (lt_c 9 rfl (by omega) (by omega))) (fun _ => ?_)
      refine q_aload_n dX8_clippedUntil_8 rfl rfl ?_
      refine q_iload_n dX8_clippedUntil_9 rfl rfl ?_
      refine q_aload_n dX8_clippedUntil_10 rfl rfl ?_
      refine q_iload_n dX8_clippedUntil_11 rfl rfl ?_
      refine q_iconst (v := 1) dX8_clippedUntil_12 rfl ?_
      refine q_iadd dX8_clippedUntil_13 ?_
      rw [nI_s]
      refine q_callVd dX8_clippedUntil_14 wX8_clippedUntil_212 (c_worthScaled (show i + 1 ≤ 9 by omega) hX hU hur) (hX) ⟨_, _, rfl⟩ rfl rfl (Nat.le_of_ble_eq_true rfl) ⟨⟨Nat.le_of_ble_eq_true rfl, Nat.le_of_ble_eq_true rfl⟩, Nat.le_of_ble_eq_true rfl, Nat.le_of_ble_eq_true rfl⟩ ?_
      refine q_callVd dX8_clippedUntil_17 wX8_clippedUntil_328 (c_clippedScaled (show i ≤ 8 by omega) hX hU hur) (hX) ⟨_, _, rfl⟩ rfl rfl (Nat.le_of_ble_eq_true rfl) ⟨⟨Nat.le_of_ble_eq_true rfl, Nat.le_of_ble_eq_true rfl⟩, Nat.le_of_ble_eq_true rfl, Nat.le_of_ble_eq_true rfl⟩ ?_
      refine q_aload_n dX8_clippedUntil_20 rfl rfl ?_
      refine q_iload_n dX8_clippedUntil_21 rfl rfl ?_
      refine q_callVd dX8_clippedUntil_22 wX8_clippedUntil_325 (c_worthAsItIs hX hU hur) (hX) ⟨_, _, rfl⟩ rfl rfl (Nat.le_of_ble_eq_true rfl) ⟨⟨Nat.le_of_ble_eq_true rfl, Nat.le_of_ble_eq_true rfl⟩, Nat.le_of_ble_eq_true rfl, Nat.le_of_ble_eq_true rfl⟩ ?_
      refine q_i2l dX8_clippedUntil_25 ?_
      refine q_iload_n dX8_clippedUntil_26 rfl rfl ?_
      refine q_callSd dX8_clippedUntil_27 wX8_clippedUntil_215 (c_worthScale (show i ≤ 9 by omega)) rfl rfl (Nat.le_of_ble_eq_true rfl) ⟨⟨Nat.le_of_ble_eq_true rfl, Nat.le_of_ble_eq_true rfl⟩, Nat.le_of_ble_eq_true rfl, Nat.le_of_ble_eq_true rfl⟩ ?_
      refine q_lmul dX8_clippedUntil_30 ?_
      refine q_lcmp dX8_clippedUntil_31 ?_
      refine q_if_gt 37 dX8_clippedUntil_32 (by decide) (fun cA => ?_) (fun cA => ?_)
      · refine q_iinc1 dX8_clippedUntil_37 rfl (by decide) ?_
        refine q_goto 2 dX8_clippedUntil_40 (by decide) ?_
        exact ih (i + 1) _ _ _ (by omega) (by rw [hr]; simp only [unS]; rw [if_pos (by have := (lg_cmp_gt _ _).mp cA; rwa [show 9 - (i + 1) = 8 - i by omega] at this)]) (nI_s i) ⟨rfl, rfl, trivial⟩
      · refine q_iload_n dX8_clippedUntil_35 rfl rfl ?_
        exact q_iret dX8_clippedUntil_36 rfl (Nat.zero_le _) (Nat.zero_le _) (⟨by rw [hr]; simp only [unS]; rw [if_neg (fun z => cA ((lg_cmp_gt _ _).mpr (by rw [show 9 - (i + 1) = 8 - i by omega]; exact z)))], rfl, rfl⟩)
  refine Con.of (by decide +kernel) rfl rfl (Nat.le_of_ble_eq_true rfl) ?_
  refine q_iload_n dX8_clippedUntil_0 rfl rfl ?_
  refine q_istore_n dX8_clippedUntil_1 rfl (by decide) ?_
  exact key (9 - k) k _ _ _ (by omega) rfl rfl ⟨rfl, rfl, trivial⟩
theorem c_heldAt {p : Nat} {x c : Int32} (hp : p < 8) (hX : hat as h X (xo T P S U M D L I tw dr lot yr tc)) (hP : hat as h P (ob 4 [.ref pr])) (hpr : hat as h pr (aI Γ 80 f)) (hU : hat as h U (ob 7 [.ref ur])) (hur : hat as h ur (aI Γ 6 u)) : Det Γ l mX8_heldAtWhenMelted rX8_heldAtWhenMelted [.ref X, .int (nI p), .int x, .int c] as h (some (.int (hmF f u p x c))) h := by
  have key : ∀ (d k : Nat) (v4 v5 v6 : Int32) (ls : List (Nat × Value)), k + d = 10 → v4 = (hmS f u p x k).1 → v5 = (hmS f u p x k).2 → v6 = nI k → lin ls [(0, .ref X), (1, .int (nI p)), (2, .int x), (3, .int c), (4, .int v4), (5, .int v5), (6, .int v6)] → V Γ l mX8_heldAtWhenMelted rX8_heldAtWhenMelted (Zm Γ rX8_heldAtWhenMelted (qD (some (.int (hmF f u p x c))) as h)) 0 0 9 ls [] as h := by
    intro d
    induction d with
    | zero =>
      intro k v4 v5 v6 ls hk e4 e5 e6 hl
      subst e4 e5 e6
      refine V.at ?_ hl
      refine q_iload dX8_heldAtWhenMelted_9 rfl ?_
      refine q_bipush (v := 10) dX8_heldAtWhenMelted_11 rfl ?_
      refine q_icmp_ge 70 dX8_heldAtWhenMelted_13 (by decide) (fun _ => ?_) (fun z => absurd (ge_c 10 rfl (by omega) (by omega)) z)
      refine q_iload dX8_heldAtWhenMelted_70 rfl ?_
      refine q_iload dX8_heldAtWhenMelted_72 rfl ?_
      refine q_bipush (v := 100) dX8_heldAtWhenMelted_74 rfl ?_
      refine q_iload_n dX8_heldAtWhenMelted_76 rfl rfl ?_
      refine q_isub dX8_heldAtWhenMelted_77 ?_
      refine q_imul dX8_heldAtWhenMelted_78 ?_
      refine q_sipush (v := 1000) dX8_heldAtWhenMelted_79 rfl ?_
      refine q_idiv dX8_heldAtWhenMelted_82 ((by decide)) ?_
      refine q_bipush (v := 10) dX8_heldAtWhenMelted_83 rfl ?_
      refine q_imul dX8_heldAtWhenMelted_85 ?_
      refine q_iadd dX8_heldAtWhenMelted_86 ?_
      exact q_iret dX8_heldAtWhenMelted_87 rfl (Nat.zero_le _) (Nat.zero_le _) (⟨by rw [show k = 10 by omega]; rfl, rfl, rfl⟩)
    | succ d ih =>
      intro k v4 v5 v6 ls hk e4 e5 e6 hl
      subst e4 e5 e6
      refine V.at ?_ hl
      refine q_iload dX8_heldAtWhenMelted_9 rfl ?_
      refine q_bipush (v := 10) dX8_heldAtWhenMelted_11 rfl ?_
      refine q_icmp_ge 70 dX8_heldAtWhenMelted_13 (by decide) (fun z => absurd z (lt_c 10 rfl (by omega) (by omega))) (fun _ => ?_)
      refine q_aload_n dX8_heldAtWhenMelted_16 rfl rfl ?_
      refine q_get dX8_heldAtWhenMelted_17 fX8_heldAtWhenMelted_19 (hX) rfl ?_
      refine q_iload_n dX8_heldAtWhenMelted_20 rfl rfl ?_
      refine q_iload dX8_heldAtWhenMelted_21 rfl ?_
      refine q_callVd dX8_heldAtWhenMelted_23 wX8_heldAtWhenMelted_135 (c_held hP hpr hp (show k < 10 by omega)) (hP) ⟨_, _, rfl⟩ rfl rfl (Nat.le_of_ble_eq_true rfl) ⟨⟨Nat.le_of_ble_eq_true rfl, Nat.le_of_ble_eq_true rfl⟩, Nat.le_of_ble_eq_true rfl, Nat.le_of_ble_eq_true rfl⟩ ?_
      refine q_istore dX8_heldAtWhenMelted_26 (by decide) ?_
      refine q_iload dX8_heldAtWhenMelted_28 rfl ?_
      refine q_iload_n dX8_heldAtWhenMelted_30 rfl rfl ?_
      refine q_icmp_lt 50 dX8_heldAtWhenMelted_31 (by decide) (fun cA => ?_) (fun cA => ?_)
      · refine q_iload dX8_heldAtWhenMelted_50 rfl ?_
        refine q_iload dX8_heldAtWhenMelted_52 rfl ?_
        refine q_aload_n dX8_heldAtWhenMelted_54 rfl rfl ?_
        refine q_iload dX8_heldAtWhenMelted_55 rfl ?_
        refine q_callVd dX8_heldAtWhenMelted_57 wX8_heldAtWhenMelted_325 (c_worthAsItIs hX hU hur) (hX) ⟨_, _, rfl⟩ rfl rfl (Nat.le_of_ble_eq_true rfl) ⟨⟨Nat.le_of_ble_eq_true rfl, Nat.le_of_ble_eq_true rfl⟩, Nat.le_of_ble_eq_true rfl, Nat.le_of_ble_eq_true rfl⟩ ?_
        refine q_imul dX8_heldAtWhenMelted_60 ?_
        refine q_iadd dX8_heldAtWhenMelted_61 ?_
        refine q_istore dX8_heldAtWhenMelted_62 (by decide) ?_
        refine q_iinc1 dX8_heldAtWhenMelted_64 rfl (by decide) ?_
        refine q_goto 9 dX8_heldAtWhenMelted_67 (by decide) ?_
        exact ih (k + 1) _ _ _ _ (by omega) (by simp only [hmS]; first | rw [if_pos cA] | rw [if_neg cA]) (by simp only [hmS]; first | rw [if_pos cA] | rw [if_neg cA]) (nI_s k) ⟨rfl, rfl, rfl, rfl, rfl, rfl, rfl, trivial⟩
      · refine q_iload dX8_heldAtWhenMelted_34 rfl ?_
        refine q_iload dX8_heldAtWhenMelted_36 rfl ?_
        refine q_bipush (v := 10) dX8_heldAtWhenMelted_38 rfl ?_
        refine q_iload dX8_heldAtWhenMelted_40 rfl ?_
        refine q_isub dX8_heldAtWhenMelted_42 ?_
        refine q_imul dX8_heldAtWhenMelted_43 ?_
        refine q_iadd dX8_heldAtWhenMelted_44 ?_
        refine q_istore dX8_heldAtWhenMelted_45 (by decide) ?_
        refine q_goto 64 dX8_heldAtWhenMelted_47 (by decide) ?_
        refine q_iinc1 dX8_heldAtWhenMelted_64 rfl (by decide) ?_
        refine q_goto 9 dX8_heldAtWhenMelted_67 (by decide) ?_
        exact ih (k + 1) _ _ _ _ (by omega) (by simp only [hmS]; first | rw [if_pos cA] | rw [if_neg cA]) (by simp only [hmS]; first | rw [if_pos cA] | rw [if_neg cA]) (nI_s k) ⟨rfl, rfl, rfl, rfl, rfl, rfl, rfl, trivial⟩
  refine Con.of (by decide +kernel) rfl rfl (Nat.le_of_ble_eq_true rfl) ?_
  refine q_iconst (v := 0) dX8_heldAtWhenMelted_0 rfl ?_
  refine q_istore dX8_heldAtWhenMelted_1 (by decide) ?_
  refine q_iconst (v := 0) dX8_heldAtWhenMelted_3 rfl ?_
  refine q_istore dX8_heldAtWhenMelted_4 (by decide) ?_
  refine q_iconst (v := 0) dX8_heldAtWhenMelted_6 rfl ?_
  refine q_istore dX8_heldAtWhenMelted_7 (by decide) ?_
  exact key 10 0 _ _ _ _ (by omega) rfl rfl rfl ⟨rfl, rfl, rfl, rfl, rfl, rfl, rfl, trivial⟩
end
end
section
/-! LIGHTCOINS (X8): labour by kinds, a meeting -/
abbrev mX8_holdMeeting : mT := (yX8_holdMeeting, RX8, cX8_holdMeeting, 6, none, wsX8_holdMeeting)
abbrev rX8_holdMeeting : Room := { frames := 2, cells := 0, slots := 0, locals := 46 }
theorem dX8_holdMeeting_0 : decode cX8_holdMeeting 0 = .ok (.aload_n 0, 1) := by decide +kernel
theorem dX8_holdMeeting_1 : decode cX8_holdMeeting 1 = .ok (.getfield 64, 3) := by decide +kernel
theorem dX8_holdMeeting_4 : decode cX8_holdMeeting 4 = .ok (.getfield 109, 3) := by decide +kernel
theorem dX8_holdMeeting_7 : decode cX8_holdMeeting 7 = .ok (.istore_n 1, 1) := by decide +kernel
theorem dX8_holdMeeting_8 : decode cX8_holdMeeting 8 = .ok (.iload_n 1, 1) := by decide +kernel
theorem dX8_holdMeeting_9 : decode cX8_holdMeeting 9 = .ok (.iconst 2, 1) := by decide +kernel
theorem dX8_holdMeeting_10 : decode cX8_holdMeeting 10 = .ok (.if_icmp .ge 4, 3) := by decide +kernel
theorem dX8_holdMeeting_13 : decode cX8_holdMeeting 13 = .ok (.return_, 1) := by decide +kernel
theorem dX8_holdMeeting_14 : decode cX8_holdMeeting 14 = .ok (.aload_n 0, 1) := by decide +kernel
theorem dX8_holdMeeting_15 : decode cX8_holdMeeting 15 = .ok (.invokevirtual 305, 3) := by decide +kernel
theorem dX8_holdMeeting_18 : decode cX8_holdMeeting 18 = .ok (.iload_n 1, 1) := by decide +kernel
theorem dX8_holdMeeting_19 : decode cX8_holdMeeting 19 = .ok (.irem, 1) := by decide +kernel
theorem dX8_holdMeeting_20 : decode cX8_holdMeeting 20 = .ok (.istore_n 2, 1) := by decide +kernel
theorem dX8_holdMeeting_21 : decode cX8_holdMeeting 21 = .ok (.iload_n 2, 1) := by decide +kernel
theorem dX8_holdMeeting_22 : decode cX8_holdMeeting 22 = .ok (.iconst 1, 1) := by decide +kernel
theorem dX8_holdMeeting_23 : decode cX8_holdMeeting 23 = .ok (.iadd, 1) := by decide +kernel
theorem dX8_holdMeeting_24 : decode cX8_holdMeeting 24 = .ok (.aload_n 0, 1) := by decide +kernel
theorem dX8_holdMeeting_25 : decode cX8_holdMeeting 25 = .ok (.invokevirtual 305, 3) := by decide +kernel
theorem dX8_holdMeeting_28 : decode cX8_holdMeeting 28 = .ok (.iload_n 1, 1) := by decide +kernel
theorem dX8_holdMeeting_29 : decode cX8_holdMeeting 29 = .ok (.iconst 1, 1) := by decide +kernel
theorem dX8_holdMeeting_30 : decode cX8_holdMeeting 30 = .ok (.isub, 1) := by decide +kernel
theorem dX8_holdMeeting_31 : decode cX8_holdMeeting 31 = .ok (.irem, 1) := by decide +kernel
theorem dX8_holdMeeting_32 : decode cX8_holdMeeting 32 = .ok (.iadd, 1) := by decide +kernel
theorem dX8_holdMeeting_33 : decode cX8_holdMeeting 33 = .ok (.iload_n 1, 1) := by decide +kernel
theorem dX8_holdMeeting_34 : decode cX8_holdMeeting 34 = .ok (.irem, 1) := by decide +kernel
theorem dX8_holdMeeting_35 : decode cX8_holdMeeting 35 = .ok (.istore_n 3, 1) := by decide +kernel
theorem dX8_holdMeeting_36 : decode cX8_holdMeeting 36 = .ok (.aload_n 0, 1) := by decide +kernel
theorem dX8_holdMeeting_37 : decode cX8_holdMeeting 37 = .ok (.iload_n 3, 1) := by decide +kernel
theorem dX8_holdMeeting_38 : decode cX8_holdMeeting 38 = .ok (.invokevirtual 308, 3) := by decide +kernel
theorem dX8_holdMeeting_41 : decode cX8_holdMeeting 41 = .ok (.istore 4, 2) := by decide +kernel
theorem dX8_holdMeeting_43 : decode cX8_holdMeeting 43 = .ok (.aload_n 0, 1) := by decide +kernel
theorem dX8_holdMeeting_44 : decode cX8_holdMeeting 44 = .ok (.iload_n 2, 1) := by decide +kernel
theorem dX8_holdMeeting_45 : decode cX8_holdMeeting 45 = .ok (.iload 4, 2) := by decide +kernel
theorem dX8_holdMeeting_47 : decode cX8_holdMeeting 47 = .ok (.invokevirtual 311, 3) := by decide +kernel
theorem dX8_holdMeeting_50 : decode cX8_holdMeeting 50 = .ok (.istore 5, 2) := by decide +kernel
theorem dX8_holdMeeting_52 : decode cX8_holdMeeting 52 = .ok (.iload 5, 2) := by decide +kernel
theorem dX8_holdMeeting_54 : decode cX8_holdMeeting 54 = .ok (.bipush (-9), 2) := by decide +kernel
theorem dX8_holdMeeting_56 : decode cX8_holdMeeting 56 = .ok (.if_icmp .eq 21, 3) := by decide +kernel
theorem dX8_holdMeeting_59 : decode cX8_holdMeeting 59 = .ok (.aload_n 0, 1) := by decide +kernel
theorem dX8_holdMeeting_60 : decode cX8_holdMeeting 60 = .ok (.getfield 19, 3) := by decide +kernel
theorem dX8_holdMeeting_63 : decode cX8_holdMeeting 63 = .ok (.iload_n 2, 1) := by decide +kernel
theorem dX8_holdMeeting_64 : decode cX8_holdMeeting 64 = .ok (.iload_n 3, 1) := by decide +kernel
theorem dX8_holdMeeting_65 : decode cX8_holdMeeting 65 = .ok (.iload 5, 2) := by decide +kernel
theorem dX8_holdMeeting_67 : decode cX8_holdMeeting 67 = .ok (.invokevirtual 315, 3) := by decide +kernel
theorem dX8_holdMeeting_70 : decode cX8_holdMeeting 70 = .ok (.ifCond .ne 7, 3) := by decide +kernel
theorem dX8_holdMeeting_73 : decode cX8_holdMeeting 73 = .ok (.bipush (-9), 2) := by decide +kernel
theorem dX8_holdMeeting_75 : decode cX8_holdMeeting 75 = .ok (.istore 5, 2) := by decide +kernel
theorem dX8_holdMeeting_77 : decode cX8_holdMeeting 77 = .ok (.aload_n 0, 1) := by decide +kernel
theorem dX8_holdMeeting_78 : decode cX8_holdMeeting 78 = .ok (.getfield 36, 3) := by decide +kernel
theorem dX8_holdMeeting_81 : decode cX8_holdMeeting 81 = .ok (.iload_n 2, 1) := by decide +kernel
theorem dX8_holdMeeting_82 : decode cX8_holdMeeting 82 = .ok (.iload_n 3, 1) := by decide +kernel
theorem dX8_holdMeeting_83 : decode cX8_holdMeeting 83 = .ok (.iload 4, 2) := by decide +kernel
theorem dX8_holdMeeting_85 : decode cX8_holdMeeting 85 = .ok (.ifCond .eq 7, 3) := by decide +kernel
theorem dX8_holdMeeting_88 : decode cX8_holdMeeting 88 = .ok (.iconst 1, 1) := by decide +kernel
theorem dX8_holdMeeting_89 : decode cX8_holdMeeting 89 = .ok (.goto 4, 3) := by decide +kernel
theorem dX8_holdMeeting_92 : decode cX8_holdMeeting 92 = .ok (.iconst 0, 1) := by decide +kernel
theorem dX8_holdMeeting_93 : decode cX8_holdMeeting 93 = .ok (.iload 5, 2) := by decide +kernel
theorem dX8_holdMeeting_95 : decode cX8_holdMeeting 95 = .ok (.invokevirtual 319, 3) := by decide +kernel
theorem dX8_holdMeeting_98 : decode cX8_holdMeeting 98 = .ok (.return_, 1) := by decide +kernel
theorem iX8_holdMeeting_8 : ∀ w ∈ wsX80, w ∈ wsX8_holdMeeting := fun w h => List.mem_cons_of_mem _ (List.mem_append_left _ (List.mem_append_left _ (List.mem_append_left _ (List.mem_append_left _ (List.mem_append_right _ h)))))
theorem fX8_holdMeeting_19 : FL mX8_holdMeeting 19 8 1 := ⟨_, _, _, rfl, by decide, iX8_holdMeeting_8, by decide +kernel⟩
theorem fX8_holdMeeting_36 : FL mX8_holdMeeting 36 8 4 := ⟨_, _, _, rfl, by decide, iX8_holdMeeting_8, by decide +kernel⟩
theorem fX8_holdMeeting_64 : FL mX8_holdMeeting 64 8 8 := ⟨_, _, _, rfl, by decide, iX8_holdMeeting_8, by decide +kernel⟩
theorem iX8_holdMeeting_6 : ∀ w ∈ wsX60, w ∈ wsX8_holdMeeting := fun w h => List.mem_cons_of_mem _ (List.mem_append_left _ (List.mem_append_left _ (List.mem_append_left _ (List.mem_append_right _ h))))
theorem fX8_holdMeeting_109 : FL mX8_holdMeeting 109 6 4 := ⟨_, _, _, rfl, by decide, iX8_holdMeeting_6, by decide +kernel⟩
set_option maxRecDepth 20000 in
theorem ggX8_holdMeeting_X8_draw : GoodIn wsX8_holdMeeting wsX8_draw := goodIn_r _ [9, 10, 11, 55, 56, 57, 58, 59, 60, 61, 62, 63, 64, 65, 66, 67] (by decide +kernel) (by decide +kernel)
set_option maxRecDepth 20000 in
theorem gX8_holdMeeting_X8_draw : GoodIn wsX8_holdMeeting (wsV RX8 305 RX8 yX8_draw wsX8_draw) := goodIn_app (goodIn_of _ (by decide +kernel)) ggX8_holdMeeting_X8_draw
theorem wX8_holdMeeting_305 : CWV mX8_holdMeeting 305 mX8_draw 0 := ⟨gX8_holdMeeting_X8_draw, ⟨_, rfl⟩, rfl, by decide +kernel, by decide +kernel, by decide +kernel⟩
set_option maxRecDepth 20000 in
theorem ggX8_holdMeeting_X8_looksNow : GoodIn wsX8_holdMeeting wsX8_looksNow := goodIn_r _ [15, 1, 16, 17, 5, 6, 7, 8, 9, 10, 11, 55, 56, 57, 58, 59, 60, 61, 62, 63, 64, 65, 66, 67, 68, 69, 70, 71, 72] (by decide +kernel) (by decide +kernel)
set_option maxRecDepth 20000 in
theorem gX8_holdMeeting_X8_looksNow : GoodIn wsX8_holdMeeting (wsV RX8 308 RX8 yX8_looksNow wsX8_looksNow) := goodIn_app (goodIn_of _ (by decide +kernel)) ggX8_holdMeeting_X8_looksNow
theorem wX8_holdMeeting_308 : CWV mX8_holdMeeting 308 mX8_looksNow 1 := ⟨gX8_holdMeeting_X8_looksNow, ⟨_, rfl⟩, rfl, by decide +kernel, by decide +kernel, by decide +kernel⟩
set_option maxRecDepth 20000 in
theorem ggX8_holdMeeting_X8_weightToPay : GoodIn wsX8_holdMeeting wsX8_weightToPay := goodIn_r _ [21, 22, 1, 23, 3, 24, 25, 26, 27, 28, 29, 30, 31, 32, 33, 34, 35, 55, 56, 57, 58, 59, 60, 61, 62, 63, 64, 65, 66, 67, 68, 69, 70, 71, 72, 73, 74] (by decide +kernel) (by decide +kernel)
set_option maxRecDepth 20000 in
theorem gX8_holdMeeting_X8_weightToPay : GoodIn wsX8_holdMeeting (wsV RX8 311 RX8 yX8_weightToPay wsX8_weightToPay) := goodIn_app (goodIn_of _ (by decide +kernel)) ggX8_holdMeeting_X8_weightToPay
theorem wX8_holdMeeting_311 : CWV mX8_holdMeeting 311 mX8_weightToPay 2 := ⟨gX8_holdMeeting_X8_weightToPay, ⟨_, rfl⟩, rfl, by decide +kernel, by decide +kernel, by decide +kernel⟩
set_option maxRecDepth 20000 in
theorem ggX8_holdMeeting_X4_move : GoodIn wsX8_holdMeeting wsX4_move := goodIn_r _ [39, 40, 31, 32, 33, 34, 35, 41, 42, 43, 44, 74] (by decide +kernel) (by decide +kernel)
set_option maxRecDepth 20000 in
theorem gX8_holdMeeting_X4_move : GoodIn wsX8_holdMeeting (wsV RX8 315 RX4 yX4_move wsX4_move) := goodIn_app (goodIn_of _ (by decide +kernel)) ggX8_holdMeeting_X4_move
theorem wX8_holdMeeting_315 : CWV mX8_holdMeeting 315 mX4_move 3 := ⟨gX8_holdMeeting_X4_move, ⟨_, rfl⟩, rfl, by decide +kernel, by decide +kernel, by decide +kernel⟩
set_option maxRecDepth 20000 in
theorem ggX8_holdMeeting_X3_note : GoodIn wsX8_holdMeeting wsX3_note := goodIn_r _ [49, 50, 51, 52, 53, 54, 75, 76, 77, 78, 79] (by decide +kernel) (by decide +kernel)
set_option maxRecDepth 20000 in
theorem gX8_holdMeeting_X3_note : GoodIn wsX8_holdMeeting (wsV RX8 319 RX3 yX3_note wsX3_note) := goodIn_app (goodIn_of _ (by decide +kernel)) ggX8_holdMeeting_X3_note
theorem wX8_holdMeeting_319 : CWV mX8_holdMeeting 319 mX3_note 4 := ⟨gX8_holdMeeting_X3_note, ⟨_, rfl⟩, rfl, by decide +kernel, by decide +kernel, by decide +kernel⟩
section
variable {Γ : gT} {l : Launch} {as : List Nat} {h : aH} {X T P S U M D L I tw dr : Nat} {lot yr : Int32} {tc : Int64} {aw ax ay ao n pr ur : Nat} {f u w x y o : Nat → Int32}
theorem c_asWay {p : Nat} (hp : p < 8) (hX : hat as h X (xo T P S U M D L I tw dr lot yr tc)) (hP : hat as h P (ob 4 [.ref pr])) (hpr : hat as h pr (aI Γ 80 f)) : Det Γ l mX8_asWay rX8_asWay [.ref X, .int (nI p)] as h (some (.int (pCo f p))) (hset h X (xo T P S U M D L I tw dr lot yr (tc + 1))) := by
  have e1 := hat_oo hP hX (by decide)
  have e2 := hat_ao hpr hX
  refine Con.of (by decide +kernel) rfl rfl (Nat.le_of_ble_eq_true rfl) ?_
  refine q_aload_n dX8_asWay_0 rfl rfl ?_
  refine q_dup dX8_asWay_1 rfl ?_
  refine q_get dX8_asWay_2 fX8_asWay_78 (hX) rfl ?_
  refine q_lconst (v := 1) dX8_asWay_5 rfl ?_
  refine q_ladd dX8_asWay_6 ?_
  refine q_put dX8_asWay_7 pX8_asWay_78 (hX) rfl rfl (Nat.le_of_ble_eq_true rfl) ?_
  refine q_aload_n dX8_asWay_10 rfl rfl ?_
  refine q_get dX8_asWay_11 fX8_asWay_19 (hat_set hX) rfl ?_
  refine q_iload_n dX8_asWay_14 rfl rfl ?_
  refine q_callVd dX8_asWay_15 wX8_asWay_128 (c_coinsOf (hat_ne hP e1) (hat_ne hpr e2) hp) (hat_ne hP e1) ⟨_, _, rfl⟩ rfl rfl (Nat.le_of_ble_eq_true rfl) ⟨⟨Nat.le_of_ble_eq_true rfl, Nat.le_of_ble_eq_true rfl⟩, Nat.le_of_ble_eq_true rfl, Nat.le_of_ble_eq_true rfl⟩ ?_
  exact q_iret dX8_asWay_18 rfl (Nat.zero_le _) (Nat.zero_le _) (⟨rfl, rfl, rfl⟩)
theorem c_asTale {p : Nat} (hp : p < 8) (hX : hat as h X (xo T P S U M D L I tw dr lot yr tc)) (hP : hat as h P (ob 4 [.ref pr])) (hpr : hat as h pr (aI Γ 80 f)) : Det Γ l mX8_asTale rX8_asTale [.ref X, .int (nI p)] as h (some (.int (pCo f p + 1))) (hset h X (xo T P S U M D L I tw dr lot yr (tc + 10 + 1))) := by
  have e1 := hat_oo hP hX (by decide)
  have e2 := hat_ao hpr hX
  refine Con.of (by decide +kernel) rfl rfl (Nat.le_of_ble_eq_true rfl) ?_
  refine q_aload_n dX8_asTale_0 rfl rfl ?_
  refine q_dup dX8_asTale_1 rfl ?_
  refine q_get dX8_asTale_2 fX8_asTale_78 (hX) rfl ?_
  refine q_ldc2 (v := 10) dX8_asTale_5 (by decide +kernel) ?_
  refine q_ladd dX8_asTale_8 ?_
  refine q_put dX8_asTale_9 pX8_asTale_78 (hX) rfl rfl (Nat.le_of_ble_eq_true rfl) ?_
  refine q_aload_n dX8_asTale_12 rfl rfl ?_
  refine q_iload_n dX8_asTale_13 rfl rfl ?_
  refine q_callVd dX8_asTale_14 wX8_asTale_264 (c_asWay hp (hat_set hX) (hat_ne hP e1) (hat_ne hpr e2)) (hat_set hX) ⟨_, _, rfl⟩ rfl rfl (Nat.le_of_ble_eq_true rfl) ⟨⟨Nat.le_of_ble_eq_true rfl, Nat.le_of_ble_eq_true rfl⟩, Nat.le_of_ble_eq_true rfl, Nat.le_of_ble_eq_true rfl⟩ ?_
  refine q_iconst (v := 1) dX8_asTale_17 rfl ?_
  refine q_iadd dX8_asTale_18 ?_
  exact q_iret dX8_asTale_19 rfl (Nat.zero_le _) (Nat.zero_le _) (⟨rfl, rfl, hset_hset⟩)
theorem c_asLook {p lim : Nat} (hp : p < 8) (hlim : lim ≤ 9) (hX : hat as h X (xo T P S U M D L I tw dr lot yr tc)) (hP : hat as h P (ob 4 [.ref pr])) (hpr : hat as h pr (aI Γ 80 f)) (hU : hat as h U (ob 7 [.ref ur])) (hur : hat as h ur (aI Γ 6 u)) (hu : u 0 = nI lim) : Det Γ l mX8_asLook rX8_asLook [.ref X, .int (nI p)] as h (some (.int (pCo f p + u 1 * sr (fun w => f (p * 10 + w)) (lim + 1) (10 - (lim + 1))))) (hset h X (xo T P S U M D L I tw dr lot yr (tc + 100 + 1))) := by
  have e1 := hat_oo hP hX (by decide)
  have e2 := hat_ao hpr hX
  have e3 := hat_oo hU hX (by decide)
  have e4 := hat_ao hur hX
  refine Con.of (by decide +kernel) rfl rfl (Nat.le_of_ble_eq_true rfl) ?_
  refine q_aload_n dX8_asLook_0 rfl rfl ?_
  refine q_dup dX8_asLook_1 rfl ?_
  refine q_get dX8_asLook_2 fX8_asLook_78 (hX) rfl ?_
  refine q_ldc2 (v := 100) dX8_asLook_5 (by decide +kernel) ?_
  refine q_ladd dX8_asLook_8 ?_
  refine q_put dX8_asLook_9 pX8_asLook_78 (hX) rfl rfl (Nat.le_of_ble_eq_true rfl) ?_
  refine q_aload_n dX8_asLook_12 rfl rfl ?_
  refine q_iload_n dX8_asLook_13 rfl rfl ?_
  refine q_callVd dX8_asLook_14 wX8_asLook_264 (c_asWay hp (hat_set hX) (hat_ne hP e1) (hat_ne hpr e2)) (hat_set hX) ⟨_, _, rfl⟩ rfl rfl (Nat.le_of_ble_eq_true rfl) ⟨⟨Nat.le_of_ble_eq_true rfl, Nat.le_of_ble_eq_true rfl⟩, Nat.le_of_ble_eq_true rfl, Nat.le_of_ble_eq_true rfl⟩ ?_
  refine V.hp ?_ hset_hset
  refine q_aload_n dX8_asLook_17 rfl rfl ?_
  refine q_get dX8_asLook_18 fX8_asLook_29 (hat_set hX) rfl ?_
  refine q_iconst (v := 1) dX8_asLook_21 rfl ?_
  refine q_callVd dX8_asLook_22 wX8_asLook_172 (c_of (j := 1) (hat_ne hU e3) (hat_ne hur e4) (by omega)) (hat_ne hU e3) ⟨_, _, rfl⟩ rfl rfl (Nat.le_of_ble_eq_true rfl) ⟨⟨Nat.le_of_ble_eq_true rfl, Nat.le_of_ble_eq_true rfl⟩, Nat.le_of_ble_eq_true rfl, Nat.le_of_ble_eq_true rfl⟩ ?_
  refine q_aload_n dX8_asLook_25 rfl rfl ?_
  refine q_get dX8_asLook_26 fX8_asLook_19 (hat_set hX) rfl ?_
  refine q_iload_n dX8_asLook_29 rfl rfl ?_
  refine q_aload_n dX8_asLook_30 rfl rfl ?_
  refine q_get dX8_asLook_31 fX8_asLook_29 (hat_set hX) rfl ?_
  refine q_iconst (v := 0) dX8_asLook_34 rfl ?_
  refine q_callVd dX8_asLook_35 wX8_asLook_172 (c_of (j := 0) (hat_ne hU e3) (hat_ne hur e4) (by omega)) (hat_ne hU e3) ⟨_, _, rfl⟩ rfl rfl (Nat.le_of_ble_eq_true rfl) ⟨⟨Nat.le_of_ble_eq_true rfl, Nat.le_of_ble_eq_true rfl⟩, Nat.le_of_ble_eq_true rfl, Nat.le_of_ble_eq_true rfl⟩ ?_
  refine q_callVd dX8_asLook_38 wX8_asLook_337 (c_coinsAbove (a := lim + 1) (hat_ne hP e1) (hat_ne hpr e2) hp (by omega) (by rw [hu]; exact nI_s lim)) (hat_ne hP e1) ⟨_, _, rfl⟩ rfl rfl (Nat.le_of_ble_eq_true rfl) ⟨⟨Nat.le_of_ble_eq_true rfl, Nat.le_of_ble_eq_true rfl⟩, Nat.le_of_ble_eq_true rfl, Nat.le_of_ble_eq_true rfl⟩ ?_
  refine q_imul dX8_asLook_41 ?_
  refine q_iadd dX8_asLook_42 ?_
  exact q_iret dX8_asLook_43 rfl (Nat.zero_le _) (Nat.zero_le _) (⟨rfl, rfl, rfl⟩)
theorem c_asSome {p lim : Nat} (hp : p < 8) (hlim : lim ≤ 9) (hX : hat as h X (xo T P S U M D L I tw dr lot yr tc)) (hP : hat as h P (ob 4 [.ref pr])) (hpr : hat as h pr (aI Γ 80 f)) (hU : hat as h U (ob 7 [.ref ur])) (hur : hat as h ur (aI Γ 6 u)) (hu : u 0 = nI lim) (ht : hat as h tw (twn aw ax ay ao n)) (hx : hat as h ax (aI Γ 8 x)) : Det Γ l mX8_asSome rX8_asSome [.ref X, .int (nI p)] as h (some (.int (x p * (pCo f p + u 1 * sr (fun w => f (p * 10 + w)) (lim + 1) (10 - (lim + 1))) / 10))) (hset h X (xo T P S U M D L I tw dr lot yr (tc + 1000 + 100 + 1))) := by
  have e1 := hat_oo hP hX (by decide)
  have e2 := hat_ao hpr hX
  have e3 := hat_oo hU hX (by decide)
  have e4 := hat_ao hur hX
  have e5 := hat_oo ht hX (by decide)
  have e6 := hat_ao hx hX
  refine Con.of (by decide +kernel) rfl rfl (Nat.le_of_ble_eq_true rfl) ?_
  refine q_aload_n dX8_asSome_0 rfl rfl ?_
  refine q_dup dX8_asSome_1 rfl ?_
  refine q_get dX8_asSome_2 fX8_asSome_78 (hX) rfl ?_
  refine q_ldc2 (v := 1000) dX8_asSome_5 (by decide +kernel) ?_
  refine q_ladd dX8_asSome_8 ?_
  refine q_put dX8_asSome_9 pX8_asSome_78 (hX) rfl rfl (Nat.le_of_ble_eq_true rfl) ?_
  refine q_aload_n dX8_asSome_12 rfl rfl ?_
  refine q_get dX8_asSome_13 fX8_asSome_64 (hat_set hX) rfl ?_
  refine q_get dX8_asSome_16 fX8_asSome_119 (hat_ne ht e5) rfl ?_
  refine q_iload_n dX8_asSome_19 rfl rfl ?_
  refine q_iald dX8_asSome_20 (hat_ne hx e6) (in_nI hp (by omega)) ?_
  refine q_aload_n dX8_asSome_21 rfl rfl ?_
  refine q_iload_n dX8_asSome_22 rfl rfl ?_
  refine q_callVd dX8_asSome_23 wX8_asSome_270 (c_asLook hp hlim (hat_set hX) (hat_ne hP e1) (hat_ne hpr e2) (hat_ne hU e3) (hat_ne hur e4) hu) (hat_set hX) ⟨_, _, rfl⟩ rfl rfl (Nat.le_of_ble_eq_true rfl) ⟨⟨Nat.le_of_ble_eq_true rfl, Nat.le_of_ble_eq_true rfl⟩, Nat.le_of_ble_eq_true rfl, Nat.le_of_ble_eq_true rfl⟩ ?_
  refine q_imul dX8_asSome_26 ?_
  refine q_bipush (v := 10) dX8_asSome_27 rfl ?_
  refine q_idiv dX8_asSome_29 ((by decide)) ?_
  exact q_iret dX8_asSome_30 rfl (Nat.zero_le _) (Nat.zero_le _) (⟨by rw [nI_clamp (by omega)], rfl, hset_hset⟩)
theorem c_asPay {p : Nat} (hp : p < 8) (hX : hat as h X (xo T P S U M D L I tw dr lot yr tc)) (hP : hat as h P (ob 4 [.ref pr])) (hpr : hat as h pr (aI Γ 80 f)) : Det Γ l mX8_asPay rX8_asPay [.ref X, .int (nI p)] as h (some (.int (pCo f p - f (p * 10)))) (hset h X (xo T P S U M D L I tw dr lot yr (tc + 10000 + 1))) := by
  have e1 := hat_oo hP hX (by decide)
  have e2 := hat_ao hpr hX
  refine Con.of (by decide +kernel) rfl rfl (Nat.le_of_ble_eq_true rfl) ?_
  refine q_aload_n dX8_asPay_0 rfl rfl ?_
  refine q_dup dX8_asPay_1 rfl ?_
  refine q_get dX8_asPay_2 fX8_asPay_78 (hX) rfl ?_
  refine q_ldc2 (v := 10000) dX8_asPay_5 (by decide +kernel) ?_
  refine q_ladd dX8_asPay_8 ?_
  refine q_put dX8_asPay_9 pX8_asPay_78 (hX) rfl rfl (Nat.le_of_ble_eq_true rfl) ?_
  refine q_aload_n dX8_asPay_12 rfl rfl ?_
  refine q_iload_n dX8_asPay_13 rfl rfl ?_
  refine q_callVd dX8_asPay_14 wX8_asPay_264 (c_asWay hp (hat_set hX) (hat_ne hP e1) (hat_ne hpr e2)) (hat_set hX) ⟨_, _, rfl⟩ rfl rfl (Nat.le_of_ble_eq_true rfl) ⟨⟨Nat.le_of_ble_eq_true rfl, Nat.le_of_ble_eq_true rfl⟩, Nat.le_of_ble_eq_true rfl, Nat.le_of_ble_eq_true rfl⟩ ?_
  refine V.hp ?_ hset_hset
  refine q_aload_n dX8_asPay_17 rfl rfl ?_
  refine q_get dX8_asPay_18 fX8_asPay_19 (hat_set hX) rfl ?_
  refine q_iload_n dX8_asPay_21 rfl rfl ?_
  refine q_iconst (v := 0) dX8_asPay_22 rfl ?_
  refine q_callVd dX8_asPay_23 wX8_asPay_135 (c_held (w := 0) (hat_ne hP e1) (hat_ne hpr e2) hp (by omega)) (hat_ne hP e1) ⟨_, _, rfl⟩ rfl rfl (Nat.le_of_ble_eq_true rfl) ⟨⟨Nat.le_of_ble_eq_true rfl, Nat.le_of_ble_eq_true rfl⟩, Nat.le_of_ble_eq_true rfl, Nat.le_of_ble_eq_true rfl⟩ ?_
  refine q_isub dX8_asPay_26 ?_
  exact q_iret dX8_asPay_27 rfl (Nat.zero_le _) (Nat.zero_le _) (⟨rfl, rfl, rfl⟩)
theorem c_asKeep {p : Nat} (hp : p < 8) (hX : hat as h X (xo T P S U M D L I tw dr lot yr tc)) (hP : hat as h P (ob 4 [.ref pr])) (hpr : hat as h pr (aI Γ 80 f)) : Det Γ l mX8_asKeep rX8_asKeep [.ref X, .int (nI p)] as h (some (.int (2 * (pCo f p - f (p * 10))))) (hset h X (xo T P S U M D L I tw dr lot yr (tc + 100000 + 10000 + 1))) := by
  have e1 := hat_oo hP hX (by decide)
  have e2 := hat_ao hpr hX
  refine Con.of (by decide +kernel) rfl rfl (Nat.le_of_ble_eq_true rfl) ?_
  refine q_aload_n dX8_asKeep_0 rfl rfl ?_
  refine q_dup dX8_asKeep_1 rfl ?_
  refine q_get dX8_asKeep_2 fX8_asKeep_78 (hX) rfl ?_
  refine q_ldc2 (v := 100000) dX8_asKeep_5 (by decide +kernel) ?_
  refine q_ladd dX8_asKeep_8 ?_
  refine q_put dX8_asKeep_9 pX8_asKeep_78 (hX) rfl rfl (Nat.le_of_ble_eq_true rfl) ?_
  refine q_iconst (v := 2) dX8_asKeep_12 rfl ?_
  refine q_aload_n dX8_asKeep_13 rfl rfl ?_
  refine q_iload_n dX8_asKeep_14 rfl rfl ?_
  refine q_callVd dX8_asKeep_15 wX8_asKeep_276 (c_asPay hp (hat_set hX) (hat_ne hP e1) (hat_ne hpr e2)) (hat_set hX) ⟨_, _, rfl⟩ rfl rfl (Nat.le_of_ble_eq_true rfl) ⟨⟨Nat.le_of_ble_eq_true rfl, Nat.le_of_ble_eq_true rfl⟩, Nat.le_of_ble_eq_true rfl, Nat.le_of_ble_eq_true rfl⟩ ?_
  refine q_imul dX8_asKeep_18 ?_
  exact q_iret dX8_asKeep_19 rfl (Nat.zero_le _) (Nat.zero_le _) (⟨rfl, rfl, hset_hset⟩)
theorem c_asClip {p : Nat} (hp : p < 8) (hX : hat as h X (xo T P S U M D L I tw dr lot yr tc)) (hP : hat as h P (ob 4 [.ref pr])) (hpr : hat as h pr (aI Γ 80 f)) (ht : hat as h tw (twn aw ax ay ao n)) (ho : hat as h ao (aI Γ 8 o)) : Det Γ l mX8_asClip rX8_asClip [.ref X, .int (nI p)] as h (some (.int (pCo f p + o p))) (hset h X (xo T P S U M D L I tw dr lot yr (tc + 1000000 + 1))) := by
  have e1 := hat_oo hP hX (by decide)
  have e2 := hat_ao hpr hX
  have e5 := hat_oo ht hX (by decide)
  have e6 := hat_ao ho hX
  refine Con.of (by decide +kernel) rfl rfl (Nat.le_of_ble_eq_true rfl) ?_
  refine q_aload_n dX8_asClip_0 rfl rfl ?_
  refine q_dup dX8_asClip_1 rfl ?_
  refine q_get dX8_asClip_2 fX8_asClip_78 (hX) rfl ?_
  refine q_ldc2 (v := 1000000) dX8_asClip_5 (by decide +kernel) ?_
  refine q_ladd dX8_asClip_8 ?_
  refine q_put dX8_asClip_9 pX8_asClip_78 (hX) rfl rfl (Nat.le_of_ble_eq_true rfl) ?_
  refine q_aload_n dX8_asClip_12 rfl rfl ?_
  refine q_iload_n dX8_asClip_13 rfl rfl ?_
  refine q_callVd dX8_asClip_14 wX8_asClip_264 (c_asWay hp (hat_set hX) (hat_ne hP e1) (hat_ne hpr e2)) (hat_set hX) ⟨_, _, rfl⟩ rfl rfl (Nat.le_of_ble_eq_true rfl) ⟨⟨Nat.le_of_ble_eq_true rfl, Nat.le_of_ble_eq_true rfl⟩, Nat.le_of_ble_eq_true rfl, Nat.le_of_ble_eq_true rfl⟩ ?_
  refine V.hp ?_ hset_hset
  refine q_aload_n dX8_asClip_17 rfl rfl ?_
  refine q_get dX8_asClip_18 fX8_asClip_64 (hat_set hX) rfl ?_
  refine q_get dX8_asClip_21 fX8_asClip_125 (hat_ne ht e5) rfl ?_
  refine q_iload_n dX8_asClip_24 rfl rfl ?_
  refine q_iald dX8_asClip_25 (hat_ne ho e6) (in_nI hp (by omega)) ?_
  refine q_iadd dX8_asClip_26 ?_
  exact q_iret dX8_asClip_27 rfl (Nat.zero_le _) (Nat.zero_le _) (⟨by rw [nI_clamp (by omega)], rfl, rfl⟩)
end
/-! a meeting, as numbers: the lot, the purses, the latest meeting and how many -/
abbrev msT : Type := Int32 × (Nat → Int32) × Int32 × Int32 × Int32 × Int32 × Int32
def mPay (n : Nat) (lot : Int32) : Nat := drw (lotN lot) % n
def mTak (n : Nat) (lot : Int32) : Nat := (mPay n lot + 1 + drw (lotN (lotN lot)) % (n - 1)) % n
def mLook (w x : Nat → Int32) (n : Nat) (lot : Int32) : Bool := if w (mTak n lot) = 2 then decide (nI (drw (lotN (lotN (lotN lot))) % 10) < x (mTak n lot)) else decide (w (mTak n lot) = 1)
def mLot (w : Nat → Int32) (n : Nat) (lot : Int32) : Int32 := if w (mTak n lot) = 2 then lotN (lotN (lotN lot)) else lotN (lotN lot)
def mWt (w x y f : Nat → Int32) (n lim : Nat) (lot : Int32) : Int32 := wtp f (mPay n lot) (if mLook w x n lot then lim else 9) (y (mPay n lot))
def mWk (w x y f : Nat → Int32) (n lim : Nat) (lot : Int32) : Nat := (mWt w x y f n lim lot).toNatClampNeg
/-- whether a coin goes over -/
def mGo (w x y f : Nat → Int32) (n lim : Nat) (lot : Int32) : Prop := ¬ mWt w x y f n lim lot = -9 ∧ f (mTak n lot * 10 + mWk w x y f n lim lot) < 99
def mGoB (w x y f : Nat → Int32) (n lim : Nat) (lot : Int32) : Bool := decide (¬ mWt w x y f n lim lot = -9) && decide (f (mTak n lot * 10 + mWk w x y f n lim lot) < 99)
def mPaid (w x y f : Nat → Int32) (n lim : Nat) (lot : Int32) : Int32 := if mGoB w x y f n lim lot then mWt w x y f n lim lot else -9
def mF (w x y f : Nat → Int32) (n lim : Nat) (lot : Int32) : Nat → Int32 := if mGoB w x y f n lim lot then moveF f (mPay n lot * 10 + mWk w x y f n lim lot) (mTak n lot * 10 + mWk w x y f n lim lot) else f
/-- one meeting -/
def mSt (w x y : Nat → Int32) (n lim : Nat) (s : msT) : msT := (mLot w n s.1, mF w x y s.2.1 n lim s.1, nI (mPay n s.1), nI (mTak n s.1), bI (mLook w x n s.1), mPaid w x y s.2.1 n lim s.1, s.2.2.2.2.2.2 + 1)
theorem mPay_lt {n : Nat} {lot : Int32} (hn : 2 ≤ n) : mPay n lot < n := Nat.mod_lt _ (by omega)
theorem mTak_lt {n : Nat} {lot : Int32} (hn : 2 ≤ n) : mTak n lot < n := Nat.mod_lt _ (by omega)
theorem fstW_in {f : Nat → Int32} {p : Nat} : ∀ d w, fstW f p d w = -9 ∨ ∃ k, w ≤ k ∧ k < w + d ∧ fstW f p d w = nI k := by
  intro d
  induction d with
  | zero => intro w; exact Or.inl rfl
  | succ d ih =>
    intro w
    simp only [fstW]
    by_cases h : f (p * 10 + w) ≤ 0
    · rw [if_pos h]
      rcases ih (w + 1) with h1 | ⟨k, h1, h2, h3⟩
      · exact Or.inl h1
      · exact Or.inr ⟨k, by omega, by omega, h3⟩
    · rw [if_neg h]
      exact Or.inr ⟨w, by omega, by omega, rfl⟩
theorem lstW_in {f : Nat → Int32} {p : Nat} : ∀ k, lstW f p k = -9 ∨ ∃ j, j < k ∧ lstW f p k = nI j := by
  intro k
  induction k with
  | zero => exact Or.inl rfl
  | succ k ih =>
    simp only [lstW]
    by_cases h : f (p * 10 + k) ≤ 0
    · rw [if_pos h]
      rcases ih with h1 | ⟨j, h1, h2⟩
      · exact Or.inl h1
      · exact Or.inr ⟨j, by omega, h2⟩
    · rw [if_neg h]
      exact Or.inr ⟨k, by omega, rfl⟩
theorem wtp_in {f : Nat → Int32} {p most : Nat} {pay : Int32} (hm : most ≤ 9) : wtp f p most pay = -9 ∨ ∃ k, k < 10 ∧ wtp f p most pay = nI k := by
  unfold wtp
  split
  · rcases fstW_in (f := f) (p := p) (most + 1) 0 with h | ⟨k, _, h1, h2⟩
    · exact Or.inl h
    · exact Or.inr ⟨k, by omega, h2⟩
  · rcases lstW_in (f := f) (p := p) (most + 1) with h | ⟨k, h1, h2⟩
    · exact Or.inl h
    · exact Or.inr ⟨k, by omega, h2⟩
theorem mWt_in {w x y f : Nat → Int32} {n lim : Nat} {lot : Int32} (hl : lim ≤ 9) : mWt w x y f n lim lot = -9 ∨ (mWk w x y f n lim lot < 10 ∧ mWt w x y f n lim lot = nI (mWk w x y f n lim lot)) := by
  unfold mWk
  have : mWt w x y f n lim lot = -9 ∨ ∃ k, k < 10 ∧ mWt w x y f n lim lot = nI k := by
    unfold mWt
    split <;> exact wtp_in (by omega)
  rcases this with h | ⟨k, h1, h2⟩
  · exact Or.inl h
  · refine Or.inr ?_
    rw [h2, nI_clamp (by omega)]
    exact ⟨h1, rfl⟩
section
variable {Γ : gT} {l : Launch} {as : List Nat} {h : aH} {X T P S U M D L I tw dr : Nat} {lot yr : Int32} {tc : Int64} {aw ax ay ao n pr ur lim : Nat} {f u w x y o : Nat → Int32} {x0 x1 x2 x3 x4 : Int32}
/-- the object, the purses and the latest meeting -/
def mH (Γ : gT) (X T P S U M D L I tw dr pr : Nat) (yr : Int32) (tc : Int64) (h : aH) (s : msT) : aH := hset (hset (hset h X (xo T P S U M D L I tw dr s.1 yr tc)) pr (aI Γ 80 s.2.1)) M (ob 3 [.int s.2.2.1, .int s.2.2.2.1, .int s.2.2.2.2.1, .int s.2.2.2.2.2.1, .int s.2.2.2.2.2.2])
theorem c_holdMeeting (hn : 2 ≤ n) (hn8 : n ≤ 8) (hlim : lim ≤ 9) (hX : hat as h X (xo T P S U M D L I tw dr lot yr tc)) (hP : hat as h P (ob 4 [.ref pr])) (hpr : hat as h pr (aI Γ 80 f)) (hU : hat as h U (ob 7 [.ref ur])) (hur : hat as h ur (aI Γ 6 u)) (hu : u 0 = nI lim) (hM : hat as h M (ob 3 [.int x0, .int x1, .int x2, .int x3, .int x4])) (ht : hat as h tw (twn aw ax ay ao n)) (hw : hat as h aw (aI Γ 8 w)) (hx : hat as h ax (aI Γ 8 x)) (hy : hat as h ay (aI Γ 8 y)) : Det Γ l mX8_holdMeeting rX8_holdMeeting [.ref X] as h none (mH Γ X T P S U M D L I tw dr pr yr tc h (mSt w x y n lim (lot, f, x0, x1, x2, x3, x4))) := by
  have e1 := hat_oo hP hX (by decide)
  have e2 := hat_ao hpr hX
  have e3 := hat_oo hU hX (by decide)
  have e4 := hat_ao hur hX
  have e5 := hat_oo ht hX (by decide)
  have e6 := hat_ao hw hX
  have e7 := hat_ao hx hX
  have e8 := hat_ao hy hX
  have e9 := hat_oo hM hX (by decide)
  have e10 := hat_oa hM hpr
  have hp := mPay_lt (lot := lot) hn
  have htk := mTak_lt (lot := lot) hn
  have key : V Γ l mX8_holdMeeting rX8_holdMeeting (Zm Γ rX8_holdMeeting (qD none as (mH Γ X T P S U M D L I tw dr pr yr tc h (mSt w x y n lim (lot, f, x0, x1, x2, x3, x4))))) 0 0 43 [(0, .ref X), (2, .int (nI (mPay n lot))), (3, .int (nI (mTak n lot))), (4, .int (bI (mLook w x n lot)))] [] as (hset h X (xo T P S U M D L I tw dr (mLot w n lot) yr tc)) := by
    have fin : V Γ l mX8_holdMeeting rX8_holdMeeting (Zm Γ rX8_holdMeeting (qD none as (mH Γ X T P S U M D L I tw dr pr yr tc h (mSt w x y n lim (lot, f, x0, x1, x2, x3, x4))))) 0 0 77 [(0, .ref X), (2, .int (nI (mPay n lot))), (3, .int (nI (mTak n lot))), (4, .int (bI (mLook w x n lot))), (5, .int (mPaid w x y f n lim lot))] [] as (hset (hset h X (xo T P S U M D L I tw dr (mLot w n lot) yr tc)) pr (aI Γ 80 (mF w x y f n lim lot))) := by
      have c1 := hat_ne (e' := aI Γ 80 (mF w x y f n lim lot)) (hat_set (e' := xo T P S U M D L I tw dr (mLot w n lot) yr tc) hX) e2.symm
      have c2 := hat_ne (e' := aI Γ 80 (mF w x y f n lim lot)) (hat_ne (e' := xo T P S U M D L I tw dr (mLot w n lot) yr tc) hM e9) e10
      have fin2 : ∀ z : Int32, z = bI (mLook w x n lot) → V Γ l mX8_holdMeeting rX8_holdMeeting (Zm Γ rX8_holdMeeting (qD none as (mH Γ X T P S U M D L I tw dr pr yr tc h (mSt w x y n lim (lot, f, x0, x1, x2, x3, x4))))) 0 0 93 [(0, .ref X), (2, .int (nI (mPay n lot))), (3, .int (nI (mTak n lot))), (4, .int (bI (mLook w x n lot))), (5, .int (mPaid w x y f n lim lot))] [.int z, .int (nI (mTak n lot)), .int (nI (mPay n lot)), .ref M] as (hset (hset h X (xo T P S U M D L I tw dr (mLot w n lot) yr tc)) pr (aI Γ 80 (mF w x y f n lim lot))) := by
        intro z hz
        subst hz
        refine q_iload dX8_holdMeeting_93 rfl ?_
        refine q_callVd dX8_holdMeeting_95 wX8_holdMeeting_319 (c_note c2) (c2) ⟨_, _, rfl⟩ rfl rfl (Nat.le_of_ble_eq_true rfl) ⟨⟨Nat.le_of_ble_eq_true rfl, Nat.le_of_ble_eq_true rfl⟩, Nat.le_of_ble_eq_true rfl, Nat.le_of_ble_eq_true rfl⟩ ?_
        exact q_vret dX8_holdMeeting_98 rfl (Nat.zero_le _) (Nat.zero_le _) (⟨rfl, rfl, rfl⟩)
      refine q_aload_n dX8_holdMeeting_77 rfl rfl ?_
      refine q_get dX8_holdMeeting_78 fX8_holdMeeting_36 (c1) rfl ?_
      refine q_iload_n dX8_holdMeeting_81 rfl rfl ?_
      refine q_iload_n dX8_holdMeeting_82 rfl rfl ?_
      refine q_iload dX8_holdMeeting_83 rfl ?_
      refine q_if_eq 92 dX8_holdMeeting_85 (by decide) (fun cL => ?_) (fun cL => ?_)
      · refine q_iconst (v := 0) dX8_holdMeeting_92 rfl ?_
        exact V.at (fin2 0 cL.symm) ⟨rfl, rfl, rfl, rfl, rfl, trivial⟩
      · refine q_iconst (v := 1) dX8_holdMeeting_88 rfl ?_
        refine q_goto 93 dX8_holdMeeting_89 (by decide) ?_
        exact V.at (fin2 1 (by rw [bI_n.mp cL]; rfl)) ⟨rfl, rfl, rfl, rfl, rfl, trivial⟩
    have no : mGoB w x y f n lim lot = false → V Γ l mX8_holdMeeting rX8_holdMeeting (Zm Γ rX8_holdMeeting (qD none as (mH Γ X T P S U M D L I tw dr pr yr tc h (mSt w x y n lim (lot, f, x0, x1, x2, x3, x4))))) 0 0 77 [(0, .ref X), (2, .int (nI (mPay n lot))), (3, .int (nI (mTak n lot))), (4, .int (bI (mLook w x n lot))), (5, .int (-9))] [] as (hset h X (xo T P S U M D L I tw dr (mLot w n lot) yr tc)) := by
      intro hg
      have e : mPaid w x y f n lim lot = -9 := by unfold mPaid; rw [if_neg (by rw [hg]; decide)]
      have e' : mF w x y f n lim lot = f := by unfold mF; rw [if_neg (by rw [hg]; decide)]
      rw [e, e', hset_same (h := hset h X (xo T P S U M D L I tw dr (mLot w n lot) yr tc)) (by rw [hset_ne e2]; exact hpr.2)] at fin
      exact fin
    have yes : ¬ mWt w x y f n lim lot = -9 → mWt w x y f n lim lot = nI (mWk w x y f n lim lot) → f (mTak n lot * 10 + mWk w x y f n lim lot) < 99 → V Γ l mX8_holdMeeting rX8_holdMeeting (Zm Γ rX8_holdMeeting (qD none as (mH Γ X T P S U M D L I tw dr pr yr tc h (mSt w x y n lim (lot, f, x0, x1, x2, x3, x4))))) 0 0 77 [(0, .ref X), (2, .int (nI (mPay n lot))), (3, .int (nI (mTak n lot))), (4, .int (bI (mLook w x n lot))), (5, .int (nI (mWk w x y f n lim lot)))] [] as (if f (mTak n lot * 10 + mWk w x y f n lim lot) < 99 then hset (hset h X (xo T P S U M D L I tw dr (mLot w n lot) yr tc)) pr (aI Γ 80 (moveF f (mPay n lot * 10 + mWk w x y f n lim lot) (mTak n lot * 10 + mWk w x y f n lim lot))) else hset h X (xo T P S U M D L I tw dr (mLot w n lot) yr tc)) := by
      intro h1 h2 h3
      have hg : mGoB w x y f n lim lot = true := by unfold mGoB; rw [decide_eq_true h1, decide_eq_true h3]; rfl
      have e : mPaid w x y f n lim lot = nI (mWk w x y f n lim lot) := by unfold mPaid; rw [if_pos hg, h2]
      have e' : mF w x y f n lim lot = moveF f (mPay n lot * 10 + mWk w x y f n lim lot) (mTak n lot * 10 + mWk w x y f n lim lot) := by unfold mF; rw [if_pos hg]
      rw [e, e'] at fin
      rw [if_pos h3]
      exact fin
    refine q_aload_n dX8_holdMeeting_43 rfl rfl ?_
    refine q_iload_n dX8_holdMeeting_44 rfl rfl ?_
    refine q_iload dX8_holdMeeting_45 rfl ?_
    refine q_callVd dX8_holdMeeting_47 wX8_holdMeeting_311 (c_weightToPay (Nat.lt_of_lt_of_le hp hn8) hlim (hat_set hX) (hat_ne hP e1) (hat_ne hpr e2) (hat_ne hU e3) (hat_ne hur e4) hu (hat_ne ht e5) (hat_ne hy e8)) (hat_set hX) ⟨_, _, rfl⟩ rfl rfl (Nat.le_of_ble_eq_true rfl) ⟨⟨Nat.le_of_ble_eq_true rfl, Nat.le_of_ble_eq_true rfl⟩, Nat.le_of_ble_eq_true rfl, Nat.le_of_ble_eq_true rfl⟩ ?_
    refine q_istore dX8_holdMeeting_50 (by decide) ?_
    refine q_iload dX8_holdMeeting_52 rfl ?_
    refine q_bipush (v := (-9)) dX8_holdMeeting_54 rfl ?_
    refine q_icmp_eq 77 dX8_holdMeeting_56 (by decide) (fun cA => ?_) (fun cA => ?_)
    · first
      | exact V.at (no (by unfold mGoB; rw [decide_eq_false (fun z => z cA), Bool.false_and])) ⟨rfl, rfl, rfl, rfl, by rw [show wtp f (mPay n lot) (if mLook w x n lot then lim else 9) (y (mPay n lot)) = -9 from cA]; rfl, trivial⟩
      | exact V.at (yes cA hk.2 (by by_cases z : f (mTak n lot * 10 + mWk w x y f n lim lot) < 99; exact z; rw [if_neg z] at cB; exact absurd rfl cB)) ⟨rfl, rfl, rfl, rfl, rfl, trivial⟩
    · have hk := (mWt_in (w := w) (x := x) (y := y) (f := f) (n := n) (lot := lot) hlim).resolve_left cA
      refine V.at (ls' := [(0, .ref X), (2, .int (nI (mPay n lot))), (3, .int (nI (mTak n lot))), (4, .int (bI (mLook w x n lot))), (5, .int (nI (mWk w x y f n lim lot)))]) ?_ ⟨rfl, rfl, rfl, rfl, by rw [← hk.2]; rfl, trivial⟩
      refine q_aload_n dX8_holdMeeting_59 rfl rfl ?_
      refine q_get dX8_holdMeeting_60 fX8_holdMeeting_19 (hat_set hX) rfl ?_
      refine q_iload_n dX8_holdMeeting_63 rfl rfl ?_
      refine q_iload_n dX8_holdMeeting_64 rfl rfl ?_
      refine q_iload dX8_holdMeeting_65 rfl ?_
      refine q_callVd dX8_holdMeeting_67 wX8_holdMeeting_315 (c_move (hat_ne hP e1) (hat_ne hpr e2) (Nat.lt_of_lt_of_le hp hn8) (Nat.lt_of_lt_of_le htk hn8) hk.1) (hat_ne hP e1) ⟨_, _, rfl⟩ rfl rfl (Nat.le_of_ble_eq_true rfl) ⟨⟨Nat.le_of_ble_eq_true rfl, Nat.le_of_ble_eq_true rfl⟩, Nat.le_of_ble_eq_true rfl, Nat.le_of_ble_eq_true rfl⟩ ?_
      refine q_if_ne 77 dX8_holdMeeting_70 (by decide) (fun cB => ?_) (fun cB => ?_)
      · first
        | exact V.at (no (by unfold mGoB; rw [decide_eq_false (fun z => z cA), Bool.false_and])) ⟨rfl, rfl, rfl, rfl, by rw [show wtp f (mPay n lot) (if mLook w x n lot then lim else 9) (y (mPay n lot)) = -9 from cA]; rfl, trivial⟩
        | exact V.at (yes cA hk.2 (by by_cases z : f (mTak n lot * 10 + mWk w x y f n lim lot) < 99; exact z; rw [if_neg z] at cB; exact absurd rfl cB)) ⟨rfl, rfl, rfl, rfl, rfl, trivial⟩
      · have hg : ¬ f (mTak n lot * 10 + mWk w x y f n lim lot) < 99 := by
          intro z
          rw [if_pos z] at cB
          exact absurd cB (by decide)
        rw [if_neg hg]
        refine q_bipush (v := (-9)) dX8_holdMeeting_73 rfl ?_
        refine q_istore dX8_holdMeeting_75 (by decide) ?_
        exact V.at (no (by unfold mGoB; rw [decide_eq_false hg, Bool.and_false])) ⟨rfl, rfl, rfl, rfl, rfl, trivial⟩
  have b1 : drw (lotN lot) < 2 ^ 31 := Nat.lt_of_lt_of_le (drw_lt _) (by decide)
  have b2 : drw (lotN (lotN lot)) < 2 ^ 31 := Nat.lt_of_lt_of_le (drw_lt _) (by decide)
  have b3 : drw (lotN (lotN lot)) % (n - 1) < n - 1 := Nat.mod_lt _ (by omega)
  refine Con.of (by decide +kernel) rfl rfl (Nat.le_of_ble_eq_true rfl) ?_
  refine q_aload_n dX8_holdMeeting_0 rfl rfl ?_
  refine q_get dX8_holdMeeting_1 fX8_holdMeeting_64 (hX) rfl ?_
  refine q_get dX8_holdMeeting_4 fX8_holdMeeting_109 (ht) rfl ?_
  refine q_istore_n dX8_holdMeeting_7 rfl (by decide) ?_
  refine q_iload_n dX8_holdMeeting_8 rfl rfl ?_
  refine q_iconst (v := 2) dX8_holdMeeting_9 rfl ?_
  refine q_icmp_ge 14 dX8_holdMeeting_10 (by decide) (fun _ => ?_) (fun z => absurd (nI_le (a := 2) hn (by omega)) z)
  refine q_aload_n dX8_holdMeeting_14 rfl rfl ?_
  refine q_callVd dX8_holdMeeting_15 wX8_holdMeeting_305 (c_draw hX) (hX) ⟨_, _, rfl⟩ rfl rfl (Nat.le_of_ble_eq_true rfl) ⟨⟨Nat.le_of_ble_eq_true rfl, Nat.le_of_ble_eq_true rfl⟩, Nat.le_of_ble_eq_true rfl, Nat.le_of_ble_eq_true rfl⟩ ?_
  refine q_iload_n dX8_holdMeeting_18 rfl rfl ?_
  refine q_irem dX8_holdMeeting_19 (nI_ne0 (by omega) (by omega)) ?_
  rw [pk_rem b1 (by omega) (by omega), show drw (lotN lot) % n = mPay n lot from rfl]
  refine q_istore_n dX8_holdMeeting_20 rfl (by decide) ?_
  refine q_iload_n dX8_holdMeeting_21 rfl rfl ?_
  refine q_iconst (v := 1) dX8_holdMeeting_22 rfl ?_
  refine q_iadd dX8_holdMeeting_23 ?_
  refine q_aload_n dX8_holdMeeting_24 rfl rfl ?_
  rw [nI_s]
  refine q_callVd dX8_holdMeeting_25 wX8_holdMeeting_305 (c_draw (hat_set hX)) (hat_set hX) ⟨_, _, rfl⟩ rfl rfl (Nat.le_of_ble_eq_true rfl) ⟨⟨Nat.le_of_ble_eq_true rfl, Nat.le_of_ble_eq_true rfl⟩, Nat.le_of_ble_eq_true rfl, Nat.le_of_ble_eq_true rfl⟩ ?_
  refine V.hp ?_ hset_hset
  refine q_iload_n dX8_holdMeeting_28 rfl rfl ?_
  refine q_iconst (v := 1) dX8_holdMeeting_29 rfl ?_
  refine q_isub dX8_holdMeeting_30 ?_
  rw [show nI n - 1 = nI (n - 1) from pk_sub (b := 1) (by omega)]
  refine q_irem dX8_holdMeeting_31 (nI_ne0 (by omega) (by omega)) ?_
  rw [pk_rem b2 (by omega) (by omega)]
  refine q_iadd dX8_holdMeeting_32 ?_
  refine q_iload_n dX8_holdMeeting_33 rfl rfl ?_
  rw [nI_add]
  refine q_irem dX8_holdMeeting_34 (nI_ne0 (by omega) (by omega)) ?_
  rw [pk_rem (by omega) (by omega) (by omega), show (mPay n lot + 1 + drw (lotN (lotN lot)) % (n - 1)) % n = mTak n lot from rfl]
  refine q_istore_n dX8_holdMeeting_35 rfl (by decide) ?_
  refine q_aload_n dX8_holdMeeting_36 rfl rfl ?_
  refine q_iload_n dX8_holdMeeting_37 rfl rfl ?_
  refine q_callVd dX8_holdMeeting_38 wX8_holdMeeting_308 (c_looksNow (Nat.lt_of_lt_of_le htk hn8) (hat_set hX) (hat_ne ht e5) (hat_ne hw e6) (hat_ne hx e7)) (hat_set hX) ⟨_, _, rfl⟩ rfl rfl (Nat.le_of_ble_eq_true rfl) ⟨⟨Nat.le_of_ble_eq_true rfl, Nat.le_of_ble_eq_true rfl⟩, Nat.le_of_ble_eq_true rfl, Nat.le_of_ble_eq_true rfl⟩ ?_
  refine q_istore dX8_holdMeeting_41 (by decide) ?_
  refine V.hp (h' := hset h X (xo T P S U M D L I tw dr (mLot w n lot) yr tc)) (V.at key ⟨rfl, rfl, rfl, ?_, trivial⟩) ?_
  · show some (Value.int _) = some (Value.int _)
    unfold mLook
    split <;> rfl
  · unfold mLot
    split
    · exact hset_hset
    · rfl
end
end
section
/-! LIGHTCOINS (X8): towns, purses, meetings -/
abbrev mX8_type : mT := (yX8_type, RX8, cX8_type, 5, (some .int), wsX8_type)
abbrev rX8_type : Room := { frames := 2, cells := 0, slots := 0, locals := 42 }
theorem dX8_type_0 : decode cX8_type 0 = .ok (.iload_n 3, 1) := by decide +kernel
theorem dX8_type_1 : decode cX8_type 1 = .ok (.iconst 1, 1) := by decide +kernel
theorem dX8_type_2 : decode cX8_type 2 = .ok (.if_icmp .lt 9, 3) := by decide +kernel
theorem dX8_type_5 : decode cX8_type 5 = .ok (.iload_n 3, 1) := by decide +kernel
theorem dX8_type_6 : decode cX8_type 6 = .ok (.bipush 8, 2) := by decide +kernel
theorem dX8_type_8 : decode cX8_type 8 = .ok (.if_icmp .le 5, 3) := by decide +kernel
theorem dX8_type_11 : decode cX8_type 11 = .ok (.iconst (-1), 1) := by decide +kernel
theorem dX8_type_12 : decode cX8_type 12 = .ok (.ireturn, 1) := by decide +kernel
theorem dX8_type_13 : decode cX8_type 13 = .ok (.aload_n 0, 1) := by decide +kernel
theorem dX8_type_14 : decode cX8_type 14 = .ok (.getfield 10, 3) := by decide +kernel
theorem dX8_type_17 : decode cX8_type 17 = .ok (.iload_n 3, 1) := by decide +kernel
theorem dX8_type_18 : decode cX8_type 18 = .ok (.invokevirtual 82, 3) := by decide +kernel
theorem dX8_type_21 : decode cX8_type 21 = .ok (.ifCond .ne 6, 3) := by decide +kernel
theorem dX8_type_24 : decode cX8_type 24 = .ok (.bipush (-3), 2) := by decide +kernel
theorem dX8_type_26 : decode cX8_type 26 = .ok (.ireturn, 1) := by decide +kernel
theorem dX8_type_27 : decode cX8_type 27 = .ok (.iload_n 3, 1) := by decide +kernel
theorem dX8_type_28 : decode cX8_type 28 = .ok (.iconst 1, 1) := by decide +kernel
theorem dX8_type_29 : decode cX8_type 29 = .ok (.isub, 1) := by decide +kernel
theorem dX8_type_30 : decode cX8_type 30 = .ok (.istore 4, 2) := by decide +kernel
theorem dX8_type_32 : decode cX8_type 32 = .ok (.iload 4, 2) := by decide +kernel
theorem dX8_type_34 : decode cX8_type 34 = .ok (.ifCond .lt 28, 3) := by decide +kernel
theorem dX8_type_37 : decode cX8_type 37 = .ok (.aload_n 0, 1) := by decide +kernel
theorem dX8_type_38 : decode cX8_type 38 = .ok (.getfield 10, 3) := by decide +kernel
theorem dX8_type_41 : decode cX8_type 41 = .ok (.lload_n 1, 1) := by decide +kernel
theorem dX8_type_42 : decode cX8_type 42 = .ok (.bipush 8, 2) := by decide +kernel
theorem dX8_type_44 : decode cX8_type 44 = .ok (.iload 4, 2) := by decide +kernel
theorem dX8_type_46 : decode cX8_type 46 = .ok (.imul, 1) := by decide +kernel
theorem dX8_type_47 : decode cX8_type 47 = .ok (.lushr, 1) := by decide +kernel
theorem dX8_type_48 : decode cX8_type 48 = .ok (.ldc2_w 86, 3) := by decide +kernel
theorem dX8_type_51 : decode cX8_type 51 = .ok (.land, 1) := by decide +kernel
theorem dX8_type_52 : decode cX8_type 52 = .ok (.l2i, 1) := by decide +kernel
theorem dX8_type_53 : decode cX8_type 53 = .ok (.invokevirtual 88, 3) := by decide +kernel
theorem dX8_type_56 : decode cX8_type 56 = .ok (.iinc 4 (-1), 3) := by decide +kernel
theorem dX8_type_59 : decode cX8_type 59 = .ok (.goto (-27), 3) := by decide +kernel
theorem dX8_type_62 : decode cX8_type 62 = .ok (.aload_n 0, 1) := by decide +kernel
theorem dX8_type_63 : decode cX8_type 63 = .ok (.getfield 10, 3) := by decide +kernel
theorem dX8_type_66 : decode cX8_type 66 = .ok (.getfield 92, 3) := by decide +kernel
theorem dX8_type_69 : decode cX8_type 69 = .ok (.ireturn, 1) := by decide +kernel
theorem iX8_type_8 : ∀ w ∈ wsX80, w ∈ wsX8_type := fun w h => List.mem_cons_of_mem _ (List.mem_append_left _ (List.mem_append_right _ h))
theorem fX8_type_10 : FL mX8_type 10 8 0 := ⟨_, _, _, rfl, by decide, iX8_type_8, by decide +kernel⟩
theorem iX8_type_5 : ∀ w ∈ wsX50, w ∈ wsX8_type := fun w h => List.mem_cons_of_mem _ (List.mem_append_right _ h)
theorem fX8_type_92 : FL mX8_type 92 5 1 := ⟨_, _, _, rfl, by decide, iX8_type_5, by decide +kernel⟩
set_option maxRecDepth 20000 in
theorem ggX8_type_X5_hasRoom : GoodIn wsX8_type wsX5_hasRoom := goodIn_r _ [8, 9, 29, 30, 31, 32, 33, 34] (by decide +kernel) (by decide +kernel)
set_option maxRecDepth 20000 in
theorem gX8_type_X5_hasRoom : GoodIn wsX8_type (wsV RX8 82 RX5 yX5_hasRoom wsX5_hasRoom) := goodIn_app (goodIn_of _ (by decide +kernel)) ggX8_type_X5_hasRoom
theorem wX8_type_82 : CWV mX8_type 82 mX5_hasRoom 1 := ⟨gX8_type_X5_hasRoom, ⟨_, rfl⟩, rfl, by decide +kernel, by decide +kernel, by decide +kernel⟩
set_option maxRecDepth 20000 in
theorem ggX8_type_X5_append : GoodIn wsX8_type wsX5_append := goodIn_r _ [13, 14, 9, 15, 5, 6, 7, 8, 29, 30, 31, 32, 33, 34] (by decide +kernel) (by decide +kernel)
set_option maxRecDepth 20000 in
theorem gX8_type_X5_append : GoodIn wsX8_type (wsV RX8 88 RX5 yX5_append wsX5_append) := goodIn_app (goodIn_of _ (by decide +kernel)) ggX8_type_X5_append
theorem wX8_type_88 : CWV mX8_type 88 mX5_append 1 := ⟨gX8_type_X5_append, ⟨_, rfl⟩, rfl, by decide +kernel, by decide +kernel, by decide +kernel⟩
abbrev mX8_clear : mT := (yX8_clear, RX8, cX8_clear, 2, (some .int), wsX8_clear)
abbrev rX8_clear : Room := { frames := 0, cells := 0, slots := 0, locals := 0 }
theorem dX8_clear_0 : decode cX8_clear 0 = .ok (.aload_n 0, 1) := by decide +kernel
theorem dX8_clear_1 : decode cX8_clear 1 = .ok (.getfield 10, 3) := by decide +kernel
theorem dX8_clear_4 : decode cX8_clear 4 = .ok (.getfield 92, 3) := by decide +kernel
theorem dX8_clear_7 : decode cX8_clear 7 = .ok (.istore_n 1, 1) := by decide +kernel
theorem dX8_clear_8 : decode cX8_clear 8 = .ok (.aload_n 0, 1) := by decide +kernel
theorem dX8_clear_9 : decode cX8_clear 9 = .ok (.getfield 10, 3) := by decide +kernel
theorem dX8_clear_12 : decode cX8_clear 12 = .ok (.iconst 0, 1) := by decide +kernel
theorem dX8_clear_13 : decode cX8_clear 13 = .ok (.putfield 92, 3) := by decide +kernel
theorem dX8_clear_16 : decode cX8_clear 16 = .ok (.iload_n 1, 1) := by decide +kernel
theorem dX8_clear_17 : decode cX8_clear 17 = .ok (.ireturn, 1) := by decide +kernel
theorem iX8_clear_8 : ∀ w ∈ wsX80, w ∈ wsX8_clear := fun w h => List.mem_cons_of_mem _ (List.mem_append_left _ (List.mem_append_right _ h))
theorem fX8_clear_10 : FL mX8_clear 10 8 0 := ⟨_, _, _, rfl, by decide, iX8_clear_8, by decide +kernel⟩
theorem iX8_clear_5 : ∀ w ∈ wsX50, w ∈ wsX8_clear := fun w h => List.mem_cons_of_mem _ (List.mem_append_right _ h)
theorem fX8_clear_92 : FL mX8_clear 92 5 1 := ⟨_, _, _, rfl, by decide, iX8_clear_5, by decide +kernel⟩
theorem pX8_clear_92 : FP mX8_clear 92 5 1 .int false := ⟨_, _, _, tyX5, rfl, by decide, iX8_clear_5, by decide +kernel, tyX5_ok, nmX5, rfl, rfl, fun z => absurd z (by decide)⟩
abbrev mX8_person : mT := (yX8_person, RX8, cX8_person, 3, (some .int), wsX8_person)
abbrev rX8_person : Room := { frames := 3, cells := 0, slots := 0, locals := 67 }
theorem dX8_person_0 : decode cX8_person 0 = .ok (.aload_n 0, 1) := by decide +kernel
theorem dX8_person_1 : decode cX8_person 1 = .ok (.iload_n 1, 1) := by decide +kernel
theorem dX8_person_2 : decode cX8_person 2 = .ok (.invokevirtual 112, 3) := by decide +kernel
theorem dX8_person_5 : decode cX8_person 5 = .ok (.ifCond .ne 5, 3) := by decide +kernel
theorem dX8_person_8 : decode cX8_person 8 = .ok (.iconst (-1), 1) := by decide +kernel
theorem dX8_person_9 : decode cX8_person 9 = .ok (.ireturn, 1) := by decide +kernel
theorem dX8_person_10 : decode cX8_person 10 = .ok (.iload_n 2, 1) := by decide +kernel
theorem dX8_person_11 : decode cX8_person 11 = .ok (.tableswitch 82 0 4 #[33, 43, 53, 63, 73], 33) := by decide +kernel
theorem dX8_person_44 : decode cX8_person 44 = .ok (.aload_n 0, 1) := by decide +kernel
theorem dX8_person_45 : decode cX8_person 45 = .ok (.getfield 64, 3) := by decide +kernel
theorem dX8_person_48 : decode cX8_person 48 = .ok (.getfield 115, 3) := by decide +kernel
theorem dX8_person_51 : decode cX8_person 51 = .ok (.iload_n 1, 1) := by decide +kernel
theorem dX8_person_52 : decode cX8_person 52 = .ok (.iaload, 1) := by decide +kernel
theorem dX8_person_53 : decode cX8_person 53 = .ok (.ireturn, 1) := by decide +kernel
theorem dX8_person_54 : decode cX8_person 54 = .ok (.aload_n 0, 1) := by decide +kernel
theorem dX8_person_55 : decode cX8_person 55 = .ok (.getfield 64, 3) := by decide +kernel
theorem dX8_person_58 : decode cX8_person 58 = .ok (.getfield 119, 3) := by decide +kernel
theorem dX8_person_61 : decode cX8_person 61 = .ok (.iload_n 1, 1) := by decide +kernel
theorem dX8_person_62 : decode cX8_person 62 = .ok (.iaload, 1) := by decide +kernel
theorem dX8_person_63 : decode cX8_person 63 = .ok (.ireturn, 1) := by decide +kernel
theorem dX8_person_64 : decode cX8_person 64 = .ok (.aload_n 0, 1) := by decide +kernel
theorem dX8_person_65 : decode cX8_person 65 = .ok (.getfield 64, 3) := by decide +kernel
theorem dX8_person_68 : decode cX8_person 68 = .ok (.getfield 122, 3) := by decide +kernel
theorem dX8_person_71 : decode cX8_person 71 = .ok (.iload_n 1, 1) := by decide +kernel
theorem dX8_person_72 : decode cX8_person 72 = .ok (.iaload, 1) := by decide +kernel
theorem dX8_person_73 : decode cX8_person 73 = .ok (.ireturn, 1) := by decide +kernel
theorem dX8_person_74 : decode cX8_person 74 = .ok (.aload_n 0, 1) := by decide +kernel
theorem dX8_person_75 : decode cX8_person 75 = .ok (.getfield 64, 3) := by decide +kernel
theorem dX8_person_78 : decode cX8_person 78 = .ok (.getfield 125, 3) := by decide +kernel
theorem dX8_person_81 : decode cX8_person 81 = .ok (.iload_n 1, 1) := by decide +kernel
theorem dX8_person_82 : decode cX8_person 82 = .ok (.iaload, 1) := by decide +kernel
theorem dX8_person_83 : decode cX8_person 83 = .ok (.ireturn, 1) := by decide +kernel
theorem dX8_person_84 : decode cX8_person 84 = .ok (.aload_n 0, 1) := by decide +kernel
theorem dX8_person_85 : decode cX8_person 85 = .ok (.getfield 19, 3) := by decide +kernel
theorem dX8_person_88 : decode cX8_person 88 = .ok (.iload_n 1, 1) := by decide +kernel
theorem dX8_person_89 : decode cX8_person 89 = .ok (.invokevirtual 128, 3) := by decide +kernel
theorem dX8_person_92 : decode cX8_person 92 = .ok (.ireturn, 1) := by decide +kernel
theorem dX8_person_93 : decode cX8_person 93 = .ok (.iconst (-1), 1) := by decide +kernel
theorem dX8_person_94 : decode cX8_person 94 = .ok (.ireturn, 1) := by decide +kernel
theorem iX8_person_8 : ∀ w ∈ wsX80, w ∈ wsX8_person := fun w h => List.mem_cons_of_mem _ (List.mem_append_left _ (List.mem_append_left _ (List.mem_append_right _ h)))
theorem fX8_person_19 : FL mX8_person 19 8 1 := ⟨_, _, _, rfl, by decide, iX8_person_8, by decide +kernel⟩
theorem fX8_person_64 : FL mX8_person 64 8 8 := ⟨_, _, _, rfl, by decide, iX8_person_8, by decide +kernel⟩
theorem iX8_person_6 : ∀ w ∈ wsX60, w ∈ wsX8_person := fun w h => List.mem_cons_of_mem _ (List.mem_append_left _ (List.mem_append_right _ h))
theorem fX8_person_115 : FL mX8_person 115 6 0 := ⟨_, _, _, rfl, by decide, iX8_person_6, by decide +kernel⟩
theorem fX8_person_119 : FL mX8_person 119 6 1 := ⟨_, _, _, rfl, by decide, iX8_person_6, by decide +kernel⟩
theorem fX8_person_122 : FL mX8_person 122 6 2 := ⟨_, _, _, rfl, by decide, iX8_person_6, by decide +kernel⟩
theorem fX8_person_125 : FL mX8_person 125 6 3 := ⟨_, _, _, rfl, by decide, iX8_person_6, by decide +kernel⟩
set_option maxRecDepth 20000 in
theorem ggX8_person_X8_isPerson : GoodIn wsX8_person wsX8_isPerson := goodIn_r _ [11, 1, 12, 27, 28, 29, 30, 31, 32, 33, 34, 35, 36, 37, 38, 39, 40, 41, 42, 43, 44] (by decide +kernel) (by decide +kernel)
set_option maxRecDepth 20000 in
theorem gX8_person_X8_isPerson : GoodIn wsX8_person (wsV RX8 112 RX8 yX8_isPerson wsX8_isPerson) := goodIn_app (goodIn_of _ (by decide +kernel)) ggX8_person_X8_isPerson
theorem wX8_person_112 : CWV mX8_person 112 mX8_isPerson 1 := ⟨gX8_person_X8_isPerson, ⟨_, rfl⟩, rfl, by decide +kernel, by decide +kernel, by decide +kernel⟩
set_option maxRecDepth 20000 in
theorem ggX8_person_X4_coinsOf : GoodIn wsX8_person wsX4_coinsOf := goodIn_r _ [17, 18, 19, 20, 16, 21, 22, 23, 24, 25, 26, 45] (by decide +kernel) (by decide +kernel)
set_option maxRecDepth 20000 in
theorem gX8_person_X4_coinsOf : GoodIn wsX8_person (wsV RX8 128 RX4 yX4_coinsOf wsX4_coinsOf) := goodIn_app (goodIn_of _ (by decide +kernel)) ggX8_person_X4_coinsOf
theorem wX8_person_128 : CWV mX8_person 128 mX4_coinsOf 1 := ⟨gX8_person_X4_coinsOf, ⟨_, rfl⟩, rfl, by decide +kernel, by decide +kernel, by decide +kernel⟩
abbrev mX8_purse : mT := (yX8_purse, RX8, cX8_purse, 5, (some .int), wsX8_purse)
abbrev rX8_purse : Room := { frames := 1, cells := 0, slots := 0, locals := 23 }
theorem dX8_purse_0 : decode cX8_purse 0 = .ok (.aload_n 0, 1) := by decide +kernel
theorem dX8_purse_1 : decode cX8_purse 1 = .ok (.iload_n 1, 1) := by decide +kernel
theorem dX8_purse_2 : decode cX8_purse 2 = .ok (.invokevirtual 112, 3) := by decide +kernel
theorem dX8_purse_5 : decode cX8_purse 5 = .ok (.ifCond .eq 20, 3) := by decide +kernel
theorem dX8_purse_8 : decode cX8_purse 8 = .ok (.iload_n 2, 1) := by decide +kernel
theorem dX8_purse_9 : decode cX8_purse 9 = .ok (.invokestatic 132, 3) := by decide +kernel
theorem dX8_purse_12 : decode cX8_purse 12 = .ok (.ifCond .eq 13, 3) := by decide +kernel
theorem dX8_purse_15 : decode cX8_purse 15 = .ok (.iload_n 3, 1) := by decide +kernel
theorem dX8_purse_16 : decode cX8_purse 16 = .ok (.ifCond .lt 9, 3) := by decide +kernel
theorem dX8_purse_19 : decode cX8_purse 19 = .ok (.iload_n 3, 1) := by decide +kernel
theorem dX8_purse_20 : decode cX8_purse 20 = .ok (.bipush 99, 2) := by decide +kernel
theorem dX8_purse_22 : decode cX8_purse 22 = .ok (.if_icmp .le 5, 3) := by decide +kernel
theorem dX8_purse_25 : decode cX8_purse 25 = .ok (.iconst (-1), 1) := by decide +kernel
theorem dX8_purse_26 : decode cX8_purse 26 = .ok (.ireturn, 1) := by decide +kernel
theorem dX8_purse_27 : decode cX8_purse 27 = .ok (.aload_n 0, 1) := by decide +kernel
theorem dX8_purse_28 : decode cX8_purse 28 = .ok (.getfield 19, 3) := by decide +kernel
theorem dX8_purse_31 : decode cX8_purse 31 = .ok (.iload_n 1, 1) := by decide +kernel
theorem dX8_purse_32 : decode cX8_purse 32 = .ok (.iload_n 2, 1) := by decide +kernel
theorem dX8_purse_33 : decode cX8_purse 33 = .ok (.invokevirtual 135, 3) := by decide +kernel
theorem dX8_purse_36 : decode cX8_purse 36 = .ok (.istore 4, 2) := by decide +kernel
theorem dX8_purse_38 : decode cX8_purse 38 = .ok (.aload_n 0, 1) := by decide +kernel
theorem dX8_purse_39 : decode cX8_purse 39 = .ok (.getfield 19, 3) := by decide +kernel
theorem dX8_purse_42 : decode cX8_purse 42 = .ok (.iload_n 1, 1) := by decide +kernel
theorem dX8_purse_43 : decode cX8_purse 43 = .ok (.iload_n 2, 1) := by decide +kernel
theorem dX8_purse_44 : decode cX8_purse 44 = .ok (.iload_n 3, 1) := by decide +kernel
theorem dX8_purse_45 : decode cX8_purse 45 = .ok (.invokevirtual 139, 3) := by decide +kernel
theorem dX8_purse_48 : decode cX8_purse 48 = .ok (.iload 4, 2) := by decide +kernel
theorem dX8_purse_50 : decode cX8_purse 50 = .ok (.ireturn, 1) := by decide +kernel
theorem iX8_purse_8 : ∀ w ∈ wsX80, w ∈ wsX8_purse := fun w h => List.mem_cons_of_mem _ (List.mem_append_left _ (List.mem_append_left _ (List.mem_append_right _ h)))
theorem fX8_purse_19 : FL mX8_purse 19 8 1 := ⟨_, _, _, rfl, by decide, iX8_purse_8, by decide +kernel⟩
set_option maxRecDepth 20000 in
theorem ggX8_purse_X8_isPerson : GoodIn wsX8_purse wsX8_isPerson := goodIn_r _ [6, 7, 8, 22, 23, 24, 25, 26, 27, 28, 29, 30, 31, 32, 33, 34, 35, 36, 37, 38, 39] (by decide +kernel) (by decide +kernel)
set_option maxRecDepth 20000 in
theorem gX8_purse_X8_isPerson : GoodIn wsX8_purse (wsV RX8 112 RX8 yX8_isPerson wsX8_isPerson) := goodIn_app (goodIn_of _ (by decide +kernel)) ggX8_purse_X8_isPerson
theorem wX8_purse_112 : CWV mX8_purse 112 mX8_isPerson 1 := ⟨gX8_purse_X8_isPerson, ⟨_, rfl⟩, rfl, by decide +kernel, by decide +kernel, by decide +kernel⟩
set_option maxRecDepth 20000 in
theorem ggX8_purse_X8_isWeight : GoodIn wsX8_purse wsX8_isWeight := goodIn_r _ [11] (by decide +kernel) (by decide +kernel)
set_option maxRecDepth 20000 in
theorem gX8_purse_X8_isWeight : GoodIn wsX8_purse (va_wsS RX8 132 yX8_isWeight wsX8_isWeight) := goodIn_app (goodIn_of _ (by decide +kernel)) ggX8_purse_X8_isWeight
theorem wX8_purse_132 : CWS mX8_purse 132 mX8_isWeight 1 := ⟨gX8_purse_X8_isWeight, ⟨_, rfl⟩, by decide +kernel, by decide +kernel, by decide +kernel⟩
set_option maxRecDepth 20000 in
theorem ggX8_purse_X4_held : GoodIn wsX8_purse wsX4_held := goodIn_r _ [16, 17, 40] (by decide +kernel) (by decide +kernel)
set_option maxRecDepth 20000 in
theorem gX8_purse_X4_held : GoodIn wsX8_purse (wsV RX8 135 RX4 yX4_held wsX4_held) := goodIn_app (goodIn_of _ (by decide +kernel)) ggX8_purse_X4_held
theorem wX8_purse_135 : CWV mX8_purse 135 mX4_held 2 := ⟨gX8_purse_X4_held, ⟨_, rfl⟩, rfl, by decide +kernel, by decide +kernel, by decide +kernel⟩
set_option maxRecDepth 20000 in
theorem ggX8_purse_X4_put : GoodIn wsX8_purse wsX4_put := goodIn_r _ [21, 17, 40] (by decide +kernel) (by decide +kernel)
set_option maxRecDepth 20000 in
theorem gX8_purse_X4_put : GoodIn wsX8_purse (wsV RX8 139 RX4 yX4_put wsX4_put) := goodIn_app (goodIn_of _ (by decide +kernel)) ggX8_purse_X4_put
theorem wX8_purse_139 : CWV mX8_purse 139 mX4_put 3 := ⟨gX8_purse_X4_put, ⟨_, rfl⟩, rfl, by decide +kernel, by decide +kernel, by decide +kernel⟩
abbrev mX8_coins : mT := (yX8_coins, RX8, cX8_coins, 3, (some .int), wsX8_coins)
abbrev rX8_coins : Room := { frames := 2, cells := 0, slots := 0, locals := 45 }
theorem dX8_coins_0 : decode cX8_coins 0 = .ok (.iload_n 2, 1) := by decide +kernel
theorem dX8_coins_1 : decode cX8_coins 1 = .ok (.invokestatic 132, 3) := by decide +kernel
theorem dX8_coins_4 : decode cX8_coins 4 = .ok (.ifCond .eq 16, 3) := by decide +kernel
theorem dX8_coins_7 : decode cX8_coins 7 = .ok (.iload_n 1, 1) := by decide +kernel
theorem dX8_coins_8 : decode cX8_coins 8 = .ok (.iconst (-1), 1) := by decide +kernel
theorem dX8_coins_9 : decode cX8_coins 9 = .ok (.if_icmp .eq 13, 3) := by decide +kernel
theorem dX8_coins_12 : decode cX8_coins 12 = .ok (.aload_n 0, 1) := by decide +kernel
theorem dX8_coins_13 : decode cX8_coins 13 = .ok (.iload_n 1, 1) := by decide +kernel
theorem dX8_coins_14 : decode cX8_coins 14 = .ok (.invokevirtual 112, 3) := by decide +kernel
theorem dX8_coins_17 : decode cX8_coins 17 = .ok (.ifCond .ne 5, 3) := by decide +kernel
theorem dX8_coins_20 : decode cX8_coins 20 = .ok (.iconst (-1), 1) := by decide +kernel
theorem dX8_coins_21 : decode cX8_coins 21 = .ok (.ireturn, 1) := by decide +kernel
theorem dX8_coins_22 : decode cX8_coins 22 = .ok (.iload_n 1, 1) := by decide +kernel
theorem dX8_coins_23 : decode cX8_coins 23 = .ok (.iconst (-1), 1) := by decide +kernel
theorem dX8_coins_24 : decode cX8_coins 24 = .ok (.if_icmp .ne 14, 3) := by decide +kernel
theorem dX8_coins_27 : decode cX8_coins 27 = .ok (.aload_n 0, 1) := by decide +kernel
theorem dX8_coins_28 : decode cX8_coins 28 = .ok (.getfield 19, 3) := by decide +kernel
theorem dX8_coins_31 : decode cX8_coins 31 = .ok (.iload_n 2, 1) := by decide +kernel
theorem dX8_coins_32 : decode cX8_coins 32 = .ok (.invokevirtual 143, 3) := by decide +kernel
theorem dX8_coins_35 : decode cX8_coins 35 = .ok (.goto 12, 3) := by decide +kernel
theorem dX8_coins_38 : decode cX8_coins 38 = .ok (.aload_n 0, 1) := by decide +kernel
theorem dX8_coins_39 : decode cX8_coins 39 = .ok (.getfield 19, 3) := by decide +kernel
theorem dX8_coins_42 : decode cX8_coins 42 = .ok (.iload_n 1, 1) := by decide +kernel
theorem dX8_coins_43 : decode cX8_coins 43 = .ok (.iload_n 2, 1) := by decide +kernel
theorem dX8_coins_44 : decode cX8_coins 44 = .ok (.invokevirtual 135, 3) := by decide +kernel
theorem dX8_coins_47 : decode cX8_coins 47 = .ok (.ireturn, 1) := by decide +kernel
theorem iX8_coins_8 : ∀ w ∈ wsX80, w ∈ wsX8_coins := fun w h => List.mem_cons_of_mem _ (List.mem_append_left _ (List.mem_append_left _ (List.mem_append_right _ h)))
theorem fX8_coins_19 : FL mX8_coins 19 8 1 := ⟨_, _, _, rfl, by decide, iX8_coins_8, by decide +kernel⟩
set_option maxRecDepth 20000 in
theorem ggX8_coins_X8_isPerson : GoodIn wsX8_coins wsX8_isPerson := goodIn_r _ [9, 10, 11, 23, 24, 25, 26, 27, 28, 29, 30, 31, 32, 33, 34, 35, 36, 37, 38, 39, 40] (by decide +kernel) (by decide +kernel)
set_option maxRecDepth 20000 in
theorem gX8_coins_X8_isPerson : GoodIn wsX8_coins (wsV RX8 112 RX8 yX8_isPerson wsX8_isPerson) := goodIn_app (goodIn_of _ (by decide +kernel)) ggX8_coins_X8_isPerson
theorem wX8_coins_112 : CWV mX8_coins 112 mX8_isPerson 1 := ⟨gX8_coins_X8_isPerson, ⟨_, rfl⟩, rfl, by decide +kernel, by decide +kernel, by decide +kernel⟩
set_option maxRecDepth 20000 in
theorem ggX8_coins_X8_isWeight : GoodIn wsX8_coins wsX8_isWeight := goodIn_r _ [5] (by decide +kernel) (by decide +kernel)
set_option maxRecDepth 20000 in
theorem gX8_coins_X8_isWeight : GoodIn wsX8_coins (va_wsS RX8 132 yX8_isWeight wsX8_isWeight) := goodIn_app (goodIn_of _ (by decide +kernel)) ggX8_coins_X8_isWeight
theorem wX8_coins_132 : CWS mX8_coins 132 mX8_isWeight 1 := ⟨gX8_coins_X8_isWeight, ⟨_, rfl⟩, by decide +kernel, by decide +kernel, by decide +kernel⟩
set_option maxRecDepth 20000 in
theorem ggX8_coins_X4_held : GoodIn wsX8_coins wsX4_held := goodIn_r _ [20, 21, 41] (by decide +kernel) (by decide +kernel)
set_option maxRecDepth 20000 in
theorem gX8_coins_X4_held : GoodIn wsX8_coins (wsV RX8 135 RX4 yX4_held wsX4_held) := goodIn_app (goodIn_of _ (by decide +kernel)) ggX8_coins_X4_held
theorem wX8_coins_135 : CWV mX8_coins 135 mX4_held 2 := ⟨gX8_coins_X4_held, ⟨_, rfl⟩, rfl, by decide +kernel, by decide +kernel, by decide +kernel⟩
set_option maxRecDepth 20000 in
theorem ggX8_coins_X4_ofWeight : GoodIn wsX8_coins wsX4_ofWeight := goodIn_r _ [16, 17, 18, 19, 15, 20, 21, 41] (by decide +kernel) (by decide +kernel)
set_option maxRecDepth 20000 in
theorem gX8_coins_X4_ofWeight : GoodIn wsX8_coins (wsV RX8 143 RX4 yX4_ofWeight wsX4_ofWeight) := goodIn_app (goodIn_of _ (by decide +kernel)) ggX8_coins_X4_ofWeight
theorem wX8_coins_143 : CWV mX8_coins 143 mX4_ofWeight 1 := ⟨gX8_coins_X4_ofWeight, ⟨_, rfl⟩, rfl, by decide +kernel, by decide +kernel, by decide +kernel⟩
abbrev mX8_tune : mT := (yX8_tune, RX8, cX8_tune, 3, (some .int), wsX8_tune)
abbrev rX8_tune : Room := { frames := 1, cells := 0, slots := 0, locals := 23 }
theorem dX8_tune_0 : decode cX8_tune 0 = .ok (.aload_n 0, 1) := by decide +kernel
theorem dX8_tune_1 : decode cX8_tune 1 = .ok (.getfield 29, 3) := by decide +kernel
theorem dX8_tune_4 : decode cX8_tune 4 = .ok (.iload_n 1, 1) := by decide +kernel
theorem dX8_tune_5 : decode cX8_tune 5 = .ok (.iload_n 2, 1) := by decide +kernel
theorem dX8_tune_6 : decode cX8_tune 6 = .ok (.invokevirtual 146, 3) := by decide +kernel
theorem dX8_tune_9 : decode cX8_tune 9 = .ok (.ireturn, 1) := by decide +kernel
theorem iX8_tune_8 : ∀ w ∈ wsX80, w ∈ wsX8_tune := fun w h => List.mem_cons_of_mem _ (List.mem_append_left _ (List.mem_append_right _ h))
theorem fX8_tune_29 : FL mX8_tune 29 8 3 := ⟨_, _, _, rfl, by decide, iX8_tune_8, by decide +kernel⟩
set_option maxRecDepth 20000 in
theorem ggX8_tune_X7_set : GoodIn wsX8_tune wsX7_set := goodIn_r _ [6, 7, 8, 9, 23] (by decide +kernel) (by decide +kernel)
set_option maxRecDepth 20000 in
theorem gX8_tune_X7_set : GoodIn wsX8_tune (wsV RX8 146 RX7 yX7_set wsX7_set) := goodIn_app (goodIn_of _ (by decide +kernel)) ggX8_tune_X7_set
theorem wX8_tune_146 : CWV mX8_tune 146 mX7_set 2 := ⟨gX8_tune_X7_set, ⟨_, rfl⟩, rfl, by decide +kernel, by decide +kernel, by decide +kernel⟩
abbrev mX8_lot : mT := (yX8_lot, RX8, cX8_lot, 3, (some .int), wsX8_lot)
abbrev rX8_lot : Room := { frames := 0, cells := 0, slots := 0, locals := 0 }
theorem dX8_lot_0 : decode cX8_lot 0 = .ok (.aload_n 0, 1) := by decide +kernel
theorem dX8_lot_1 : decode cX8_lot 1 = .ok (.getfield 71, 3) := by decide +kernel
theorem dX8_lot_4 : decode cX8_lot 4 = .ok (.istore_n 2, 1) := by decide +kernel
theorem dX8_lot_5 : decode cX8_lot 5 = .ok (.aload_n 0, 1) := by decide +kernel
theorem dX8_lot_6 : decode cX8_lot 6 = .ok (.iload_n 1, 1) := by decide +kernel
theorem dX8_lot_7 : decode cX8_lot 7 = .ok (.putfield 71, 3) := by decide +kernel
theorem dX8_lot_10 : decode cX8_lot 10 = .ok (.iload_n 2, 1) := by decide +kernel
theorem dX8_lot_11 : decode cX8_lot 11 = .ok (.ireturn, 1) := by decide +kernel
theorem iX8_lot_8 : ∀ w ∈ wsX80, w ∈ wsX8_lot := fun w h => List.mem_cons_of_mem _ (List.mem_append_right _ h)
theorem fX8_lot_71 : FL mX8_lot 71 8 10 := ⟨_, _, _, rfl, by decide, iX8_lot_8, by decide +kernel⟩
theorem pX8_lot_71 : FP mX8_lot 71 8 10 .int false := ⟨_, _, _, tyX8, rfl, by decide, iX8_lot_8, by decide +kernel, tyX8_ok, nmX8, rfl, rfl, fun z => absurd z (by decide)⟩
abbrev mX8_meet : mT := (yX8_meet, RX8, cX8_meet, 1, (some .int), wsX8_meet)
abbrev rX8_meet : Room := { frames := 3, cells := 0, slots := 0, locals := 71 }
theorem dX8_meet_0 : decode cX8_meet 0 = .ok (.aload_n 0, 1) := by decide +kernel
theorem dX8_meet_1 : decode cX8_meet 1 = .ok (.getfield 64, 3) := by decide +kernel
theorem dX8_meet_4 : decode cX8_meet 4 = .ok (.getfield 109, 3) := by decide +kernel
theorem dX8_meet_7 : decode cX8_meet 7 = .ok (.iconst 2, 1) := by decide +kernel
theorem dX8_meet_8 : decode cX8_meet 8 = .ok (.if_icmp .ge 6, 3) := by decide +kernel
theorem dX8_meet_11 : decode cX8_meet 11 = .ok (.bipush (-2), 2) := by decide +kernel
theorem dX8_meet_13 : decode cX8_meet 13 = .ok (.ireturn, 1) := by decide +kernel
theorem dX8_meet_14 : decode cX8_meet 14 = .ok (.aload_n 0, 1) := by decide +kernel
theorem dX8_meet_15 : decode cX8_meet 15 = .ok (.invokevirtual 149, 3) := by decide +kernel
theorem dX8_meet_18 : decode cX8_meet 18 = .ok (.aload_n 0, 1) := by decide +kernel
theorem dX8_meet_19 : decode cX8_meet 19 = .ok (.getfield 36, 3) := by decide +kernel
theorem dX8_meet_22 : decode cX8_meet 22 = .ok (.getfield 152, 3) := by decide +kernel
theorem dX8_meet_25 : decode cX8_meet 25 = .ok (.ireturn, 1) := by decide +kernel
theorem iX8_meet_8 : ∀ w ∈ wsX80, w ∈ wsX8_meet := fun w h => List.mem_cons_of_mem _ (List.mem_append_left _ (List.mem_append_left _ (List.mem_append_left _ (List.mem_append_left _ (List.mem_append_right _ h)))))
theorem fX8_meet_36 : FL mX8_meet 36 8 4 := ⟨_, _, _, rfl, by decide, iX8_meet_8, by decide +kernel⟩
theorem fX8_meet_64 : FL mX8_meet 64 8 8 := ⟨_, _, _, rfl, by decide, iX8_meet_8, by decide +kernel⟩
theorem iX8_meet_6 : ∀ w ∈ wsX60, w ∈ wsX8_meet := fun w h => List.mem_cons_of_mem _ (List.mem_append_left _ (List.mem_append_left _ (List.mem_append_left _ (List.mem_append_right _ h))))
theorem fX8_meet_109 : FL mX8_meet 109 6 4 := ⟨_, _, _, rfl, by decide, iX8_meet_6, by decide +kernel⟩
theorem iX8_meet_3 : ∀ w ∈ wsX30, w ∈ wsX8_meet := fun w h => List.mem_cons_of_mem _ (List.mem_append_left _ (List.mem_append_left _ (List.mem_append_right _ h)))
theorem fX8_meet_152 : FL mX8_meet 152 3 3 := ⟨_, _, _, rfl, by decide, iX8_meet_3, by decide +kernel⟩
set_option maxRecDepth 20000 in
theorem ggX8_meet_X8_holdMeeting : GoodIn wsX8_meet wsX8_holdMeeting := goodIn_r _ [9, 1, 2, 10, 3, 11, 12, 13, 8, 14, 15, 16, 17, 18, 19, 20, 21, 22, 23, 24, 25, 26, 27, 28, 29, 30, 31, 32, 33, 34, 35, 36, 37, 38, 39, 40, 41, 42, 43, 44, 45, 46, 47, 48, 49, 50, 51, 52, 53, 54, 55, 56, 57, 58, 59, 60, 61, 62, 63, 64, 65, 66, 67, 68, 69, 70, 71, 72, 73, 74, 75, 76, 77, 83, 84, 78, 79, 80, 81, 82] (by decide +kernel) (by decide +kernel)
set_option maxRecDepth 20000 in
theorem gX8_meet_X8_holdMeeting : GoodIn wsX8_meet (wsV RX8 149 RX8 yX8_holdMeeting wsX8_holdMeeting) := goodIn_app (goodIn_of _ (by decide +kernel)) ggX8_meet_X8_holdMeeting
theorem wX8_meet_149 : CWV mX8_meet 149 mX8_holdMeeting 0 := ⟨gX8_meet_X8_holdMeeting, ⟨_, rfl⟩, rfl, by decide +kernel, by decide +kernel, by decide +kernel⟩
abbrev mX8_run : mT := (yX8_run, RX8, cX8_run, 4, (some .int), wsX8_run)
abbrev rX8_run : Room := { frames := 3, cells := 0, slots := 0, locals := 71 }
theorem dX8_run_0 : decode cX8_run 0 = .ok (.iload_n 1, 1) := by decide +kernel
theorem dX8_run_1 : decode cX8_run 1 = .ok (.iconst 1, 1) := by decide +kernel
theorem dX8_run_2 : decode cX8_run 2 = .ok (.if_icmp .lt 10, 3) := by decide +kernel
theorem dX8_run_5 : decode cX8_run 5 = .ok (.iload_n 1, 1) := by decide +kernel
theorem dX8_run_6 : decode cX8_run 6 = .ok (.sipush 500, 3) := by decide +kernel
theorem dX8_run_9 : decode cX8_run 9 = .ok (.if_icmp .le 5, 3) := by decide +kernel
theorem dX8_run_12 : decode cX8_run 12 = .ok (.iconst (-1), 1) := by decide +kernel
theorem dX8_run_13 : decode cX8_run 13 = .ok (.ireturn, 1) := by decide +kernel
theorem dX8_run_14 : decode cX8_run 14 = .ok (.aload_n 0, 1) := by decide +kernel
theorem dX8_run_15 : decode cX8_run 15 = .ok (.getfield 64, 3) := by decide +kernel
theorem dX8_run_18 : decode cX8_run 18 = .ok (.getfield 109, 3) := by decide +kernel
theorem dX8_run_21 : decode cX8_run 21 = .ok (.iconst 2, 1) := by decide +kernel
theorem dX8_run_22 : decode cX8_run 22 = .ok (.if_icmp .ge 6, 3) := by decide +kernel
theorem dX8_run_25 : decode cX8_run 25 = .ok (.bipush (-2), 2) := by decide +kernel
theorem dX8_run_27 : decode cX8_run 27 = .ok (.ireturn, 1) := by decide +kernel
theorem dX8_run_28 : decode cX8_run 28 = .ok (.iconst 0, 1) := by decide +kernel
theorem dX8_run_29 : decode cX8_run 29 = .ok (.istore_n 2, 1) := by decide +kernel
theorem dX8_run_30 : decode cX8_run 30 = .ok (.iconst 0, 1) := by decide +kernel
theorem dX8_run_31 : decode cX8_run 31 = .ok (.istore_n 3, 1) := by decide +kernel
theorem dX8_run_32 : decode cX8_run 32 = .ok (.iload_n 3, 1) := by decide +kernel
theorem dX8_run_33 : decode cX8_run 33 = .ok (.iload_n 1, 1) := by decide +kernel
theorem dX8_run_34 : decode cX8_run 34 = .ok (.if_icmp .ge 28, 3) := by decide +kernel
theorem dX8_run_37 : decode cX8_run 37 = .ok (.aload_n 0, 1) := by decide +kernel
theorem dX8_run_38 : decode cX8_run 38 = .ok (.invokevirtual 149, 3) := by decide +kernel
theorem dX8_run_41 : decode cX8_run 41 = .ok (.aload_n 0, 1) := by decide +kernel
theorem dX8_run_42 : decode cX8_run 42 = .ok (.getfield 36, 3) := by decide +kernel
theorem dX8_run_45 : decode cX8_run 45 = .ok (.getfield 152, 3) := by decide +kernel
theorem dX8_run_48 : decode cX8_run 48 = .ok (.bipush (-9), 2) := by decide +kernel
theorem dX8_run_50 : decode cX8_run 50 = .ok (.if_icmp .eq 6, 3) := by decide +kernel
theorem dX8_run_53 : decode cX8_run 53 = .ok (.iinc 2 1, 3) := by decide +kernel
theorem dX8_run_56 : decode cX8_run 56 = .ok (.iinc 3 1, 3) := by decide +kernel
theorem dX8_run_59 : decode cX8_run 59 = .ok (.goto (-27), 3) := by decide +kernel
theorem dX8_run_62 : decode cX8_run 62 = .ok (.iload_n 2, 1) := by decide +kernel
theorem dX8_run_63 : decode cX8_run 63 = .ok (.ireturn, 1) := by decide +kernel
theorem iX8_run_8 : ∀ w ∈ wsX80, w ∈ wsX8_run := fun w h => List.mem_cons_of_mem _ (List.mem_append_left _ (List.mem_append_left _ (List.mem_append_left _ (List.mem_append_left _ (List.mem_append_right _ h)))))
theorem fX8_run_36 : FL mX8_run 36 8 4 := ⟨_, _, _, rfl, by decide, iX8_run_8, by decide +kernel⟩
theorem fX8_run_64 : FL mX8_run 64 8 8 := ⟨_, _, _, rfl, by decide, iX8_run_8, by decide +kernel⟩
theorem iX8_run_6 : ∀ w ∈ wsX60, w ∈ wsX8_run := fun w h => List.mem_cons_of_mem _ (List.mem_append_left _ (List.mem_append_left _ (List.mem_append_left _ (List.mem_append_right _ h))))
theorem fX8_run_109 : FL mX8_run 109 6 4 := ⟨_, _, _, rfl, by decide, iX8_run_6, by decide +kernel⟩
theorem iX8_run_3 : ∀ w ∈ wsX30, w ∈ wsX8_run := fun w h => List.mem_cons_of_mem _ (List.mem_append_left _ (List.mem_append_left _ (List.mem_append_right _ h)))
theorem fX8_run_152 : FL mX8_run 152 3 3 := ⟨_, _, _, rfl, by decide, iX8_run_3, by decide +kernel⟩
set_option maxRecDepth 20000 in
theorem ggX8_run_X8_holdMeeting : GoodIn wsX8_run wsX8_holdMeeting := goodIn_r _ [9, 1, 2, 10, 3, 11, 12, 13, 8, 14, 15, 16, 17, 18, 19, 20, 21, 22, 23, 24, 25, 26, 27, 28, 29, 30, 31, 32, 33, 34, 35, 36, 37, 38, 39, 40, 41, 42, 43, 44, 45, 46, 47, 48, 49, 50, 51, 52, 53, 54, 55, 56, 57, 58, 59, 60, 61, 62, 63, 64, 65, 66, 67, 68, 69, 70, 71, 72, 73, 74, 75, 76, 77, 83, 84, 78, 79, 80, 81, 82] (by decide +kernel) (by decide +kernel)
set_option maxRecDepth 20000 in
theorem gX8_run_X8_holdMeeting : GoodIn wsX8_run (wsV RX8 149 RX8 yX8_holdMeeting wsX8_holdMeeting) := goodIn_app (goodIn_of _ (by decide +kernel)) ggX8_run_X8_holdMeeting
theorem wX8_run_149 : CWV mX8_run 149 mX8_holdMeeting 0 := ⟨gX8_run_X8_holdMeeting, ⟨_, rfl⟩, rfl, by decide +kernel, by decide +kernel, by decide +kernel⟩
abbrev mX8_met : mT := (yX8_met, RX8, cX8_met, 2, (some .int), wsX8_met)
abbrev rX8_met : Room := { frames := 0, cells := 0, slots := 0, locals := 0 }
theorem dX8_met_0 : decode cX8_met 0 = .ok (.iload_n 1, 1) := by decide +kernel
theorem dX8_met_1 : decode cX8_met 1 = .ok (.tableswitch 63 0 3 #[31, 39, 47, 55], 31) := by decide +kernel
theorem dX8_met_32 : decode cX8_met 32 = .ok (.aload_n 0, 1) := by decide +kernel
theorem dX8_met_33 : decode cX8_met 33 = .ok (.getfield 36, 3) := by decide +kernel
theorem dX8_met_36 : decode cX8_met 36 = .ok (.getfield 155, 3) := by decide +kernel
theorem dX8_met_39 : decode cX8_met 39 = .ok (.ireturn, 1) := by decide +kernel
theorem dX8_met_40 : decode cX8_met 40 = .ok (.aload_n 0, 1) := by decide +kernel
theorem dX8_met_41 : decode cX8_met 41 = .ok (.getfield 36, 3) := by decide +kernel
theorem dX8_met_44 : decode cX8_met 44 = .ok (.getfield 158, 3) := by decide +kernel
theorem dX8_met_47 : decode cX8_met 47 = .ok (.ireturn, 1) := by decide +kernel
theorem dX8_met_48 : decode cX8_met 48 = .ok (.aload_n 0, 1) := by decide +kernel
theorem dX8_met_49 : decode cX8_met 49 = .ok (.getfield 36, 3) := by decide +kernel
theorem dX8_met_52 : decode cX8_met 52 = .ok (.getfield 161, 3) := by decide +kernel
theorem dX8_met_55 : decode cX8_met 55 = .ok (.ireturn, 1) := by decide +kernel
theorem dX8_met_56 : decode cX8_met 56 = .ok (.aload_n 0, 1) := by decide +kernel
theorem dX8_met_57 : decode cX8_met 57 = .ok (.getfield 36, 3) := by decide +kernel
theorem dX8_met_60 : decode cX8_met 60 = .ok (.getfield 152, 3) := by decide +kernel
theorem dX8_met_63 : decode cX8_met 63 = .ok (.ireturn, 1) := by decide +kernel
theorem dX8_met_64 : decode cX8_met 64 = .ok (.iconst (-1), 1) := by decide +kernel
theorem dX8_met_65 : decode cX8_met 65 = .ok (.ireturn, 1) := by decide +kernel
theorem iX8_met_8 : ∀ w ∈ wsX80, w ∈ wsX8_met := fun w h => List.mem_cons_of_mem _ (List.mem_append_left _ (List.mem_append_right _ h))
theorem fX8_met_36 : FL mX8_met 36 8 4 := ⟨_, _, _, rfl, by decide, iX8_met_8, by decide +kernel⟩
theorem iX8_met_3 : ∀ w ∈ wsX30, w ∈ wsX8_met := fun w h => List.mem_cons_of_mem _ (List.mem_append_right _ h)
theorem fX8_met_152 : FL mX8_met 152 3 3 := ⟨_, _, _, rfl, by decide, iX8_met_3, by decide +kernel⟩
theorem fX8_met_155 : FL mX8_met 155 3 0 := ⟨_, _, _, rfl, by decide, iX8_met_3, by decide +kernel⟩
theorem fX8_met_158 : FL mX8_met 158 3 1 := ⟨_, _, _, rfl, by decide, iX8_met_3, by decide +kernel⟩
theorem fX8_met_161 : FL mX8_met 161 3 2 := ⟨_, _, _, rfl, by decide, iX8_met_3, by decide +kernel⟩
def xB (v : Int64) (i : Nat) : Int32 := ((v.toUInt64 >>> ((8 * nI i).toInt64.toUInt64 &&& Int64.toUInt64 63)).toInt64 &&& 255).toInt32
/-- the bytes when c of n are typed -/
def tyX (bx : Nat → Int32) (len : Nat) (v : Int64) (n : Nat) : Nat → Nat → Int32
  | 0 => bx
  | c + 1 => upd (tyX bx len v n c) (len + c) (xB v (n - 1 - c))
theorem hset4 {h : aH} {a b : Nat} {A A' B B' : va_E} (hab : b ≠ a) : hset (hset (hset (hset h b A) a B) b A') a B' = hset (hset h b A') a B' := by
  funext j
  by_cases h1 : j = a
  · rw [h1, hset_eq, hset_eq]
  · rw [hset_ne h1, hset_ne h1]
    by_cases h2 : j = b
    · rw [h2, hset_eq, hset_eq]
    · rw [hset_ne h2, hset_ne h1, hset_ne h2, hset_ne h2]
def prs (w x y o f : Nat → Int32) (p : Nat) : Nat → Int32
  | 0 => w p
  | 1 => x p
  | 2 => y p
  | 3 => o p
  | _ => pCo f p
/-- meetings, and in how many something was paid -/
def runS (w x y : Nat → Int32) (n lim : Nat) (s : msT) : Nat → msT × Int32
  | 0 => (s, 0)
  | k + 1 => (mSt w x y n lim (runS w x y n lim s k).1, if (mSt w x y n lim (runS w x y n lim s k).1).2.2.2.2.2.1 = -9 then (runS w x y n lim s k).2 else (runS w x y n lim s k).2 + 1)
section
variable {Γ : gT} {l : Launch} {as : List Nat} {h : aH} {X T P S U M D L I tw dr : Nat} {lot yr : Int32} {tc : Int64} {aw ax ay ao n pr ur lim : Nat} {f u w x y o bx : Nat → Int32} {x0 x1 x2 x3 x4 : Int32} {b len a s k v : Nat}
theorem c_type_bad {vv : Int64} {m : Int32} (hb : m < 1 ∨ 8 < m) : Det Γ l mX8_type rX8_type [.ref X, .long vv, .int m] as h (some (.int (-1))) h := by
  refine Con.of (by decide +kernel) rfl rfl (Nat.le_of_ble_eq_true rfl) ?_
  refine q_iload_n dX8_type_0 rfl rfl ?_
  refine q_iconst (v := 1) dX8_type_1 rfl ?_
  refine q_icmp_lt 11 dX8_type_2 (by decide) (fun cA => ?_) (fun cA => ?_)
  · refine q_iconst (v := (-1)) dX8_type_11 rfl ?_
    exact q_iret dX8_type_12 rfl (Nat.zero_le _) (Nat.zero_le _) (⟨rfl, rfl, rfl⟩)
  · refine q_iload_n dX8_type_5 rfl rfl ?_
    refine q_bipush (v := 8) dX8_type_6 rfl ?_
    refine q_icmp_le 13 dX8_type_8 (by decide) (fun cB => ?_) (fun cB => ?_)
    · exact absurd (hb.resolve_left cA) (Int32.not_lt.mpr cB)
    · refine q_iconst (v := (-1)) dX8_type_11 rfl ?_
      exact q_iret dX8_type_12 rfl (Nat.zero_le _) (Nat.zero_le _) (⟨rfl, rfl, rfl⟩)
theorem c_type_full {vv : Int64} {m : Nat} (hm0 : 1 ≤ m) (hm : m ≤ 8) (hX : hat as h X (xo T P S U M D L I tw dr lot yr tc)) (hT : hat as h T (tq b len a s k v)) (hl : len ≤ 300) (hf : 300 < len + m) : Det Γ l mX8_type rX8_type [.ref X, .long vv, .int (nI m)] as h (some (.int (-3))) h := by
  refine Con.of (by decide +kernel) rfl rfl (Nat.le_of_ble_eq_true rfl) ?_
  refine q_iload_n dX8_type_0 rfl rfl ?_
  refine q_iconst (v := 1) dX8_type_1 rfl ?_
  refine q_icmp_lt 11 dX8_type_2 (by decide) (fun z => absurd z (nI_nlt (b := 1) (by omega) (by omega))) (fun _ => ?_)
  refine q_iload_n dX8_type_5 rfl rfl ?_
  refine q_bipush (v := 8) dX8_type_6 rfl ?_
  refine q_icmp_le 13 dX8_type_8 (by decide) (fun _ => ?_) (fun z => absurd (nI_le (b := 8) (by omega) (by omega)) z)
  refine q_aload_n dX8_type_13 rfl rfl ?_
  refine q_get dX8_type_14 fX8_type_10 (hX) rfl ?_
  refine q_iload_n dX8_type_17 rfl rfl ?_
  refine q_callVd dX8_type_18 wX8_type_82 (c_hasRoom hT hl hm) (hT) ⟨_, _, rfl⟩ rfl rfl (Nat.le_of_ble_eq_true rfl) ⟨⟨Nat.le_of_ble_eq_true rfl, Nat.le_of_ble_eq_true rfl⟩, Nat.le_of_ble_eq_true rfl, Nat.le_of_ble_eq_true rfl⟩ ?_
  refine q_if_ne 27 dX8_type_21 (by decide) (fun z => absurd (by rw [decide_eq_false (by omega)]; rfl) z) (fun _ => ?_)
  refine q_bipush (v := (-3)) dX8_type_24 rfl ?_
  exact q_iret dX8_type_26 rfl (Nat.zero_le _) (Nat.zero_le _) (⟨rfl, rfl, rfl⟩)
theorem c_type {vv : Int64} {m : Nat} (hm0 : 1 ≤ m) (hm : m ≤ 8) (hX : hat as h X (xo T P S U M D L I tw dr lot yr tc)) (hT : hat as h T (tq b len a s k v)) (hb : hat as h b (aI Γ 300 bx)) (hf : len + m ≤ 300) : Det Γ l mX8_type rX8_type [.ref X, .long vv, .int (nI m)] as h (some (.int (nI (len + m)))) (hset (hset h b (aI Γ 300 (tyX bx len vv m m))) T (tq b (len + m) a s k v)) := by
  have e1 := hat_oo hX hT (by decide)
  have e2 := hat_oa hX hb
  have e3 := hat_oa hT hb
  have key : ∀ (d c : Nat) (z : Int32) (ls : List (Nat × Value)) (h' : aH), c + d = m → z + 1 = nI (m - c) → h' = hset (hset h b (aI Γ 300 (tyX bx len vv m c))) T (tq b (len + c) a s k v) → lin ls [(0, .ref X), (1, .long vv), (4, .int z)] → V Γ l mX8_type rX8_type (Zm Γ rX8_type (qD (some (.int (nI (len + m)))) as (hset (hset h b (aI Γ 300 (tyX bx len vv m m))) T (tq b (len + m) a s k v)))) 0 0 32 ls [] as h' := by
    intro d
    induction d with
    | zero =>
      intro c z ls h' hc hz hh hl
      subst hh
      have e : z < 0 := (pred_lt (k := 0) hz (by omega) (by omega)).mpr (by omega)
      refine V.at ?_ hl
      refine q_iload dX8_type_32 rfl ?_
      refine q_if_lt 62 dX8_type_34 (by decide) (fun _ => ?_) (fun z => absurd (e) z)
      refine q_aload_n dX8_type_62 rfl rfl ?_
      refine q_get dX8_type_63 fX8_type_10 (hat_ne (hat_ne hX e2) e1) rfl ?_
      refine q_get dX8_type_66 fX8_type_92 (hat_set (hat_ne hT e3)) rfl ?_
      exact q_iret dX8_type_69 rfl (Nat.zero_le _) (Nat.zero_le _) (⟨by rw [show c = m by omega], rfl, by rw [show c = m by omega]⟩)
    | succ d ih =>
      intro c z ls h' hc hz hh hl
      subst hh
      have ez : z = nI (m - 1 - c) := pred_eq (by rw [hz]; congr 1; omega)
      subst ez
      refine V.at ?_ hl
      refine q_iload dX8_type_32 rfl ?_
      refine q_if_lt 62 dX8_type_34 (by decide) (fun z => absurd z (nI_pos (by omega))) (fun _ => ?_)
      refine q_aload_n dX8_type_37 rfl rfl ?_
      refine q_get dX8_type_38 fX8_type_10 (hat_ne (hat_ne hX e2) e1) rfl ?_
      refine q_lload_n dX8_type_41 rfl rfl ?_
      refine q_bipush (v := 8) dX8_type_42 rfl ?_
      refine q_iload dX8_type_44 rfl ?_
      refine q_imul dX8_type_46 ?_
      refine q_lushr dX8_type_47 ?_
      refine q_ldc2 (v := 255) dX8_type_48 (by decide +kernel) ?_
      refine q_land dX8_type_51 ?_
      refine q_l2i dX8_type_52 ?_
      refine q_callVd dX8_type_53 wX8_type_88 (c_append (hat_set (hat_ne hT e3)) (hat_ne (hat_set hb) e3.symm) (show len + c < 300 by omega)) (hat_set (hat_ne hT e3)) ⟨_, _, rfl⟩ rfl rfl (Nat.le_of_ble_eq_true rfl) ⟨⟨Nat.le_of_ble_eq_true rfl, Nat.le_of_ble_eq_true rfl⟩, Nat.le_of_ble_eq_true rfl, Nat.le_of_ble_eq_true rfl⟩ ?_
      refine q_iincM dX8_type_56 rfl (by decide) ?_
      refine q_goto 32 dX8_type_59 (by decide) ?_
      exact ih (c + 1) _ _ _ (by omega) (by rw [m1p1]; congr 1; omega) (by rw [hset4 e3.symm]; rfl) ⟨rfl, rfl, rfl, trivial⟩
  refine Con.of (by decide +kernel) rfl rfl (Nat.le_of_ble_eq_true rfl) ?_
  refine q_iload_n dX8_type_0 rfl rfl ?_
  refine q_iconst (v := 1) dX8_type_1 rfl ?_
  refine q_icmp_lt 11 dX8_type_2 (by decide) (fun z => absurd z (nI_nlt (b := 1) (by omega) (by omega))) (fun _ => ?_)
  refine q_iload_n dX8_type_5 rfl rfl ?_
  refine q_bipush (v := 8) dX8_type_6 rfl ?_
  refine q_icmp_le 13 dX8_type_8 (by decide) (fun _ => ?_) (fun z => absurd (nI_le (b := 8) (by omega) (by omega)) z)
  refine q_aload_n dX8_type_13 rfl rfl ?_
  refine q_get dX8_type_14 fX8_type_10 (hX) rfl ?_
  refine q_iload_n dX8_type_17 rfl rfl ?_
  refine q_callVd dX8_type_18 wX8_type_82 (c_hasRoom hT (by omega) hm) (hT) ⟨_, _, rfl⟩ rfl rfl (Nat.le_of_ble_eq_true rfl) ⟨⟨Nat.le_of_ble_eq_true rfl, Nat.le_of_ble_eq_true rfl⟩, Nat.le_of_ble_eq_true rfl, Nat.le_of_ble_eq_true rfl⟩ ?_
  refine q_if_ne 27 dX8_type_21 (by decide) (fun _ => ?_) (fun z => absurd z (by rw [decide_eq_true (by omega)]; decide))
  refine q_iload_n dX8_type_27 rfl rfl ?_
  refine q_iconst (v := 1) dX8_type_28 rfl ?_
  refine q_isub dX8_type_29 ?_
  refine q_istore dX8_type_30 (by decide) ?_
  exact key m 0 _ _ _ (by omega) (Int32.sub_add_cancel _ _) (by rw [show tyX bx len vv m 0 = bx from rfl, hset_same hb.2]; exact (hset_same hT.2).symm) ⟨rfl, rfl, rfl, trivial⟩
theorem c_clear (hX : hat as h X (xo T P S U M D L I tw dr lot yr tc)) (hT : hat as h T (tq b len a s k v)) : Det Γ l mX8_clear rX8_clear [.ref X] as h (some (.int (nI len))) (hset h T (tq b 0 a s k v)) := by
  refine Con.of (by decide +kernel) rfl rfl (Nat.le_of_ble_eq_true rfl) ?_
  refine q_aload_n dX8_clear_0 rfl rfl ?_
  refine q_get dX8_clear_1 fX8_clear_10 (hX) rfl ?_
  refine q_get dX8_clear_4 fX8_clear_92 (hT) rfl ?_
  refine q_istore_n dX8_clear_7 rfl (by decide) ?_
  refine q_aload_n dX8_clear_8 rfl rfl ?_
  refine q_get dX8_clear_9 fX8_clear_10 (hX) rfl ?_
  refine q_iconst (v := 0) dX8_clear_12 rfl ?_
  refine q_put dX8_clear_13 pX8_clear_92 (hT) rfl rfl (Nat.le_of_ble_eq_true rfl) ?_
  refine q_iload_n dX8_clear_16 rfl rfl ?_
  exact q_iret dX8_clear_17 rfl (Nat.zero_le _) (Nat.zero_le _) (⟨rfl, rfl, rfl⟩)
theorem c_person_bad {p q : Int32} (hb : isP n p = false ∨ q.toInt < 0 ∨ 4 < q.toInt) (hX : hat as h X (xo T P S U M D L I tw dr lot yr tc)) (ht : hat as h tw (twn aw ax ay ao n)) : Det Γ l mX8_person rX8_person [.ref X, .int p, .int q] as h (some (.int (-1))) h := by
  refine Con.of (by decide +kernel) rfl rfl (Nat.le_of_ble_eq_true rfl) ?_
  refine q_aload_n dX8_person_0 rfl rfl ?_
  refine q_iload_n dX8_person_1 rfl rfl ?_
  refine q_callVd dX8_person_2 wX8_person_112 (c_isPerson hX ht) (hX) ⟨_, _, rfl⟩ rfl rfl (Nat.le_of_ble_eq_true rfl) ⟨⟨Nat.le_of_ble_eq_true rfl, Nat.le_of_ble_eq_true rfl⟩, Nat.le_of_ble_eq_true rfl, Nat.le_of_ble_eq_true rfl⟩ ?_
  refine q_if_ne 10 dX8_person_5 (by decide) (fun cA => ?_) (fun cA => ?_)
  · refine q_iload_n dX8_person_10 rfl rfl ?_
    refine q_tableOut 93 dX8_person_11 (hb.resolve_left (fun z => by rw [z] at cA; exact cA rfl)) (by decide) ?_
    refine q_iconst (v := (-1)) dX8_person_93 rfl ?_
    exact q_iret dX8_person_94 rfl (Nat.zero_le _) (Nat.zero_le _) (⟨rfl, rfl, rfl⟩)
  · refine q_iconst (v := (-1)) dX8_person_8 rfl ?_
    exact q_iret dX8_person_9 rfl (Nat.zero_le _) (Nat.zero_le _) (⟨rfl, rfl, rfl⟩)
theorem isP_nI {p : Nat} (hp : p < n) (hn : n ≤ 8) : isP n (nI p) = true := by
  unfold isP
  rw [Bool.and_eq_true, decide_eq_true_eq, decide_eq_true_eq]
  exact ⟨nI_pos (by omega), nI_ge hp (by omega)⟩
theorem c_person {p j : Nat} (hp : p < n) (hn : n ≤ 8) (hj : j < 5) (hX : hat as h X (xo T P S U M D L I tw dr lot yr tc)) (ht : hat as h tw (twn aw ax ay ao n)) (hw : hat as h aw (aI Γ 8 w)) (hx : hat as h ax (aI Γ 8 x)) (hy : hat as h ay (aI Γ 8 y)) (ho : hat as h ao (aI Γ 8 o)) (hP : hat as h P (ob 4 [.ref pr])) (hpr : hat as h pr (aI Γ 80 f)) : Det Γ l mX8_person rX8_person [.ref X, .int (nI p), .int (nI j)] as h (some (.int (prs w x y o f p j))) h := by
  have hp8 : p < 8 := by omega
  refine Con.of (by decide +kernel) rfl rfl (Nat.le_of_ble_eq_true rfl) ?_
  have e : bI (isP n (nI p)) = 1 := by rw [isP_nI hp hn]; rfl
  rcases (show j = 0 ∨ j = 1 ∨ j = 2 ∨ j = 3 ∨ j = 4 by omega) with rfl | rfl | rfl | rfl | rfl
  · skip
    refine q_aload_n dX8_person_0 rfl rfl ?_
    refine q_iload_n dX8_person_1 rfl rfl ?_
    refine q_callVd dX8_person_2 wX8_person_112 (c_isPerson hX ht) (hX) ⟨_, _, rfl⟩ rfl rfl (Nat.le_of_ble_eq_true rfl) ⟨⟨Nat.le_of_ble_eq_true rfl, Nat.le_of_ble_eq_true rfl⟩, Nat.le_of_ble_eq_true rfl, Nat.le_of_ble_eq_true rfl⟩ ?_
    refine q_if_ne 10 dX8_person_5 (by decide) (fun _ => ?_) (fun z => absurd z (by rw [e]; decide))
    refine q_iload_n dX8_person_10 rfl rfl ?_
    refine q_tableIn 44 dX8_person_11 (by decide) (by decide) rfl (by decide) ?_
    refine q_aload_n dX8_person_44 rfl rfl ?_
    refine q_get dX8_person_45 fX8_person_64 (hX) rfl ?_
    refine q_get dX8_person_48 fX8_person_115 (ht) rfl ?_
    refine q_iload_n dX8_person_51 rfl rfl ?_
    refine q_iald dX8_person_52 (hw) (in_nI hp8 (by omega)) ?_
    exact q_iret dX8_person_53 rfl (Nat.zero_le _) (Nat.zero_le _) (⟨by rw [nI_clamp (by omega)]; rfl, rfl, rfl⟩)
  · skip
    refine q_aload_n dX8_person_0 rfl rfl ?_
    refine q_iload_n dX8_person_1 rfl rfl ?_
    refine q_callVd dX8_person_2 wX8_person_112 (c_isPerson hX ht) (hX) ⟨_, _, rfl⟩ rfl rfl (Nat.le_of_ble_eq_true rfl) ⟨⟨Nat.le_of_ble_eq_true rfl, Nat.le_of_ble_eq_true rfl⟩, Nat.le_of_ble_eq_true rfl, Nat.le_of_ble_eq_true rfl⟩ ?_
    refine q_if_ne 10 dX8_person_5 (by decide) (fun _ => ?_) (fun z => absurd z (by rw [e]; decide))
    refine q_iload_n dX8_person_10 rfl rfl ?_
    refine q_tableIn 54 dX8_person_11 (by decide) (by decide) rfl (by decide) ?_
    refine q_aload_n dX8_person_54 rfl rfl ?_
    refine q_get dX8_person_55 fX8_person_64 (hX) rfl ?_
    refine q_get dX8_person_58 fX8_person_119 (ht) rfl ?_
    refine q_iload_n dX8_person_61 rfl rfl ?_
    refine q_iald dX8_person_62 (hx) (in_nI hp8 (by omega)) ?_
    exact q_iret dX8_person_63 rfl (Nat.zero_le _) (Nat.zero_le _) (⟨by rw [nI_clamp (by omega)]; rfl, rfl, rfl⟩)
  · skip
    refine q_aload_n dX8_person_0 rfl rfl ?_
    refine q_iload_n dX8_person_1 rfl rfl ?_
    refine q_callVd dX8_person_2 wX8_person_112 (c_isPerson hX ht) (hX) ⟨_, _, rfl⟩ rfl rfl (Nat.le_of_ble_eq_true rfl) ⟨⟨Nat.le_of_ble_eq_true rfl, Nat.le_of_ble_eq_true rfl⟩, Nat.le_of_ble_eq_true rfl, Nat.le_of_ble_eq_true rfl⟩ ?_
    refine q_if_ne 10 dX8_person_5 (by decide) (fun _ => ?_) (fun z => absurd z (by rw [e]; decide))
    refine q_iload_n dX8_person_10 rfl rfl ?_
    refine q_tableIn 64 dX8_person_11 (by decide) (by decide) rfl (by decide) ?_
    refine q_aload_n dX8_person_64 rfl rfl ?_
    refine q_get dX8_person_65 fX8_person_64 (hX) rfl ?_
    refine q_get dX8_person_68 fX8_person_122 (ht) rfl ?_
    refine q_iload_n dX8_person_71 rfl rfl ?_
    refine q_iald dX8_person_72 (hy) (in_nI hp8 (by omega)) ?_
    exact q_iret dX8_person_73 rfl (Nat.zero_le _) (Nat.zero_le _) (⟨by rw [nI_clamp (by omega)]; rfl, rfl, rfl⟩)
  · skip
    refine q_aload_n dX8_person_0 rfl rfl ?_
    refine q_iload_n dX8_person_1 rfl rfl ?_
    refine q_callVd dX8_person_2 wX8_person_112 (c_isPerson hX ht) (hX) ⟨_, _, rfl⟩ rfl rfl (Nat.le_of_ble_eq_true rfl) ⟨⟨Nat.le_of_ble_eq_true rfl, Nat.le_of_ble_eq_true rfl⟩, Nat.le_of_ble_eq_true rfl, Nat.le_of_ble_eq_true rfl⟩ ?_
    refine q_if_ne 10 dX8_person_5 (by decide) (fun _ => ?_) (fun z => absurd z (by rw [e]; decide))
    refine q_iload_n dX8_person_10 rfl rfl ?_
    refine q_tableIn 74 dX8_person_11 (by decide) (by decide) rfl (by decide) ?_
    refine q_aload_n dX8_person_74 rfl rfl ?_
    refine q_get dX8_person_75 fX8_person_64 (hX) rfl ?_
    refine q_get dX8_person_78 fX8_person_125 (ht) rfl ?_
    refine q_iload_n dX8_person_81 rfl rfl ?_
    refine q_iald dX8_person_82 (ho) (in_nI hp8 (by omega)) ?_
    exact q_iret dX8_person_83 rfl (Nat.zero_le _) (Nat.zero_le _) (⟨by rw [nI_clamp (by omega)]; rfl, rfl, rfl⟩)
  · skip
    refine q_aload_n dX8_person_0 rfl rfl ?_
    refine q_iload_n dX8_person_1 rfl rfl ?_
    refine q_callVd dX8_person_2 wX8_person_112 (c_isPerson hX ht) (hX) ⟨_, _, rfl⟩ rfl rfl (Nat.le_of_ble_eq_true rfl) ⟨⟨Nat.le_of_ble_eq_true rfl, Nat.le_of_ble_eq_true rfl⟩, Nat.le_of_ble_eq_true rfl, Nat.le_of_ble_eq_true rfl⟩ ?_
    refine q_if_ne 10 dX8_person_5 (by decide) (fun _ => ?_) (fun z => absurd z (by rw [e]; decide))
    refine q_iload_n dX8_person_10 rfl rfl ?_
    refine q_tableIn 84 dX8_person_11 (by decide) (by decide) rfl (by decide) ?_
    refine q_aload_n dX8_person_84 rfl rfl ?_
    refine q_get dX8_person_85 fX8_person_19 (hX) rfl ?_
    refine q_iload_n dX8_person_88 rfl rfl ?_
    refine q_callVd dX8_person_89 wX8_person_128 (c_coinsOf hP hpr hp8) (hP) ⟨_, _, rfl⟩ rfl rfl (Nat.le_of_ble_eq_true rfl) ⟨⟨Nat.le_of_ble_eq_true rfl, Nat.le_of_ble_eq_true rfl⟩, Nat.le_of_ble_eq_true rfl, Nat.le_of_ble_eq_true rfl⟩ ?_
    exact q_iret dX8_person_92 rfl (Nat.zero_le _) (Nat.zero_le _) (⟨rfl, rfl, rfl⟩)
theorem c_purse_bad {p q c : Int32} (hb : isP n p = false ∨ isW q = false ∨ c < 0 ∨ 99 < c) (hX : hat as h X (xo T P S U M D L I tw dr lot yr tc)) (ht : hat as h tw (twn aw ax ay ao n)) : Det Γ l mX8_purse rX8_purse [.ref X, .int p, .int q, .int c] as h (some (.int (-1))) h := by
  refine Con.of (by decide +kernel) rfl rfl (Nat.le_of_ble_eq_true rfl) ?_
  refine q_aload_n dX8_purse_0 rfl rfl ?_
  refine q_iload_n dX8_purse_1 rfl rfl ?_
  refine q_callVd dX8_purse_2 wX8_purse_112 (c_isPerson hX ht) (hX) ⟨_, _, rfl⟩ rfl rfl (Nat.le_of_ble_eq_true rfl) ⟨⟨Nat.le_of_ble_eq_true rfl, Nat.le_of_ble_eq_true rfl⟩, Nat.le_of_ble_eq_true rfl, Nat.le_of_ble_eq_true rfl⟩ ?_
  refine q_if_eq 25 dX8_purse_5 (by decide) (fun cA => ?_) (fun cA => ?_)
  · refine q_iconst (v := (-1)) dX8_purse_25 rfl ?_
    exact q_iret dX8_purse_26 rfl (Nat.zero_le _) (Nat.zero_le _) (⟨rfl, rfl, rfl⟩)
  · refine q_iload_n dX8_purse_8 rfl rfl ?_
    refine q_callSd dX8_purse_9 wX8_purse_132 (c_isWeight) rfl rfl (Nat.le_of_ble_eq_true rfl) ⟨⟨Nat.le_of_ble_eq_true rfl, Nat.le_of_ble_eq_true rfl⟩, Nat.le_of_ble_eq_true rfl, Nat.le_of_ble_eq_true rfl⟩ ?_
    refine q_if_eq 25 dX8_purse_12 (by decide) (fun cB => ?_) (fun cB => ?_)
    · refine q_iconst (v := (-1)) dX8_purse_25 rfl ?_
      exact q_iret dX8_purse_26 rfl (Nat.zero_le _) (Nat.zero_le _) (⟨rfl, rfl, rfl⟩)
    · refine q_iload_n dX8_purse_15 rfl rfl ?_
      refine q_if_lt 25 dX8_purse_16 (by decide) (fun cC => ?_) (fun cC => ?_)
      · refine q_iconst (v := (-1)) dX8_purse_25 rfl ?_
        exact q_iret dX8_purse_26 rfl (Nat.zero_le _) (Nat.zero_le _) (⟨rfl, rfl, rfl⟩)
      · refine q_iload_n dX8_purse_19 rfl rfl ?_
        refine q_bipush (v := 99) dX8_purse_20 rfl ?_
        refine q_icmp_le 27 dX8_purse_22 (by decide) (fun cD => ?_) (fun cD => ?_)
        · exact absurd hb (by rintro (z | z | z | z) <;> first | exact cA (by rw [z]; rfl) | exact cB (by rw [z]; rfl) | exact cC z | exact absurd cD (Int32.not_le.mpr z))
        · refine q_iconst (v := (-1)) dX8_purse_25 rfl ?_
          exact q_iret dX8_purse_26 rfl (Nat.zero_le _) (Nat.zero_le _) (⟨rfl, rfl, rfl⟩)
theorem isW_nI {p : Nat} (hp : p < 10) : isW (nI p) = true := by
  unfold isW
  rw [Bool.and_eq_true, decide_eq_true_eq, decide_eq_true_eq]
  exact ⟨nI_pos (by omega), nI_ge (b := 10) hp (by omega)⟩
theorem c_purse {p q : Nat} {c : Int32} (hp : p < n) (hn : n ≤ 8) (hq : q < 10) (hc0 : ¬ c < 0) (hc : c ≤ 99) (hX : hat as h X (xo T P S U M D L I tw dr lot yr tc)) (ht : hat as h tw (twn aw ax ay ao n)) (hP : hat as h P (ob 4 [.ref pr])) (hpr : hat as h pr (aI Γ 80 f)) : Det Γ l mX8_purse rX8_purse [.ref X, .int (nI p), .int (nI q), .int c] as h (some (.int (f (p * 10 + q)))) (hset h pr (aI Γ 80 (upd f (p * 10 + q) c))) := by
  have hp8 : p < 8 := by omega
  refine Con.of (by decide +kernel) rfl rfl (Nat.le_of_ble_eq_true rfl) ?_
  refine q_aload_n dX8_purse_0 rfl rfl ?_
  refine q_iload_n dX8_purse_1 rfl rfl ?_
  refine q_callVd dX8_purse_2 wX8_purse_112 (c_isPerson hX ht) (hX) ⟨_, _, rfl⟩ rfl rfl (Nat.le_of_ble_eq_true rfl) ⟨⟨Nat.le_of_ble_eq_true rfl, Nat.le_of_ble_eq_true rfl⟩, Nat.le_of_ble_eq_true rfl, Nat.le_of_ble_eq_true rfl⟩ ?_
  refine q_if_eq 25 dX8_purse_5 (by decide) (fun z => absurd z (by rw [isP_nI hp hn]; decide)) (fun _ => ?_)
  refine q_iload_n dX8_purse_8 rfl rfl ?_
  refine q_callSd dX8_purse_9 wX8_purse_132 (c_isWeight) rfl rfl (Nat.le_of_ble_eq_true rfl) ⟨⟨Nat.le_of_ble_eq_true rfl, Nat.le_of_ble_eq_true rfl⟩, Nat.le_of_ble_eq_true rfl, Nat.le_of_ble_eq_true rfl⟩ ?_
  refine q_if_eq 25 dX8_purse_12 (by decide) (fun z => absurd z (by rw [isW_nI hq]; decide)) (fun _ => ?_)
  refine q_iload_n dX8_purse_15 rfl rfl ?_
  refine q_if_lt 25 dX8_purse_16 (by decide) (fun z => absurd z (hc0)) (fun _ => ?_)
  refine q_iload_n dX8_purse_19 rfl rfl ?_
  refine q_bipush (v := 99) dX8_purse_20 rfl ?_
  refine q_icmp_le 27 dX8_purse_22 (by decide) (fun _ => ?_) (fun z => absurd (hc) z)
  refine q_aload_n dX8_purse_27 rfl rfl ?_
  refine q_get dX8_purse_28 fX8_purse_19 (hX) rfl ?_
  refine q_iload_n dX8_purse_31 rfl rfl ?_
  refine q_iload_n dX8_purse_32 rfl rfl ?_
  refine q_callVd dX8_purse_33 wX8_purse_135 (c_held hP hpr hp8 hq) (hP) ⟨_, _, rfl⟩ rfl rfl (Nat.le_of_ble_eq_true rfl) ⟨⟨Nat.le_of_ble_eq_true rfl, Nat.le_of_ble_eq_true rfl⟩, Nat.le_of_ble_eq_true rfl, Nat.le_of_ble_eq_true rfl⟩ ?_
  refine q_istore dX8_purse_36 (by decide) ?_
  refine q_aload_n dX8_purse_38 rfl rfl ?_
  refine q_get dX8_purse_39 fX8_purse_19 (hX) rfl ?_
  refine q_iload_n dX8_purse_42 rfl rfl ?_
  refine q_iload_n dX8_purse_43 rfl rfl ?_
  refine q_iload_n dX8_purse_44 rfl rfl ?_
  refine q_callVd dX8_purse_45 wX8_purse_139 (c_put hP hpr hp8 hq _) (hP) ⟨_, _, rfl⟩ rfl rfl (Nat.le_of_ble_eq_true rfl) ⟨⟨Nat.le_of_ble_eq_true rfl, Nat.le_of_ble_eq_true rfl⟩, Nat.le_of_ble_eq_true rfl, Nat.le_of_ble_eq_true rfl⟩ ?_
  refine q_iload dX8_purse_48 rfl ?_
  exact q_iret dX8_purse_50 rfl (Nat.zero_le _) (Nat.zero_le _) (⟨rfl, rfl, rfl⟩)
theorem c_coins_bad {p q : Int32} (hb : isW q = false ∨ (¬ p = -1 ∧ isP n p = false)) (hX : hat as h X (xo T P S U M D L I tw dr lot yr tc)) (ht : hat as h tw (twn aw ax ay ao n)) : Det Γ l mX8_coins rX8_coins [.ref X, .int p, .int q] as h (some (.int (-1))) h := by
  refine Con.of (by decide +kernel) rfl rfl (Nat.le_of_ble_eq_true rfl) ?_
  refine q_iload_n dX8_coins_0 rfl rfl ?_
  refine q_callSd dX8_coins_1 wX8_coins_132 (c_isWeight) rfl rfl (Nat.le_of_ble_eq_true rfl) ⟨⟨Nat.le_of_ble_eq_true rfl, Nat.le_of_ble_eq_true rfl⟩, Nat.le_of_ble_eq_true rfl, Nat.le_of_ble_eq_true rfl⟩ ?_
  refine q_if_eq 20 dX8_coins_4 (by decide) (fun cA => ?_) (fun cA => ?_)
  · refine q_iconst (v := (-1)) dX8_coins_20 rfl ?_
    exact q_iret dX8_coins_21 rfl (Nat.zero_le _) (Nat.zero_le _) (⟨rfl, rfl, rfl⟩)
  · refine q_iload_n dX8_coins_7 rfl rfl ?_
    refine q_iconst (v := (-1)) dX8_coins_8 rfl ?_
    refine q_icmp_eq 22 dX8_coins_9 (by decide) (fun cB => ?_) (fun cB => ?_)
    · exact absurd hb (by rintro (z | z) <;> first | exact cA (by rw [z]; rfl) | exact z.1 cB | exact cC (by rw [z.2]; rfl))
    · refine q_aload_n dX8_coins_12 rfl rfl ?_
      refine q_iload_n dX8_coins_13 rfl rfl ?_
      refine q_callVd dX8_coins_14 wX8_coins_112 (c_isPerson hX ht) (hX) ⟨_, _, rfl⟩ rfl rfl (Nat.le_of_ble_eq_true rfl) ⟨⟨Nat.le_of_ble_eq_true rfl, Nat.le_of_ble_eq_true rfl⟩, Nat.le_of_ble_eq_true rfl, Nat.le_of_ble_eq_true rfl⟩ ?_
      refine q_if_ne 22 dX8_coins_17 (by decide) (fun cC => ?_) (fun cC => ?_)
      · exact absurd hb (by rintro (z | z) <;> first | exact cA (by rw [z]; rfl) | exact z.1 cB | exact cC (by rw [z.2]; rfl))
      · refine q_iconst (v := (-1)) dX8_coins_20 rfl ?_
        exact q_iret dX8_coins_21 rfl (Nat.zero_le _) (Nat.zero_le _) (⟨rfl, rfl, rfl⟩)
theorem c_coins_all {q : Nat} (hq : q < 10) (hX : hat as h X (xo T P S U M D L I tw dr lot yr tc)) (hP : hat as h P (ob 4 [.ref pr])) (hpr : hat as h pr (aI Γ 80 f)) : Det Γ l mX8_coins rX8_coins [.ref X, .int (-1), .int (nI q)] as h (some (.int (pWt f q))) h := by
  refine Con.of (by decide +kernel) rfl rfl (Nat.le_of_ble_eq_true rfl) ?_
  refine q_iload_n dX8_coins_0 rfl rfl ?_
  refine q_callSd dX8_coins_1 wX8_coins_132 (c_isWeight) rfl rfl (Nat.le_of_ble_eq_true rfl) ⟨⟨Nat.le_of_ble_eq_true rfl, Nat.le_of_ble_eq_true rfl⟩, Nat.le_of_ble_eq_true rfl, Nat.le_of_ble_eq_true rfl⟩ ?_
  refine q_if_eq 20 dX8_coins_4 (by decide) (fun z => absurd z (by rw [isW_nI hq]; decide)) (fun _ => ?_)
  refine q_iload_n dX8_coins_7 rfl rfl ?_
  refine q_iconst (v := (-1)) dX8_coins_8 rfl ?_
  refine q_icmp_eq 22 dX8_coins_9 (by decide) (fun _ => ?_) (fun z => absurd (rfl) z)
  refine q_iload_n dX8_coins_22 rfl rfl ?_
  refine q_iconst (v := (-1)) dX8_coins_23 rfl ?_
  refine q_icmp_ne 38 dX8_coins_24 (by decide) (fun z => absurd (rfl) z) (fun _ => ?_)
  refine q_aload_n dX8_coins_27 rfl rfl ?_
  refine q_get dX8_coins_28 fX8_coins_19 (hX) rfl ?_
  refine q_iload_n dX8_coins_31 rfl rfl ?_
  refine q_callVd dX8_coins_32 wX8_coins_143 (c_ofWeight hP hpr hq) (hP) ⟨_, _, rfl⟩ rfl rfl (Nat.le_of_ble_eq_true rfl) ⟨⟨Nat.le_of_ble_eq_true rfl, Nat.le_of_ble_eq_true rfl⟩, Nat.le_of_ble_eq_true rfl, Nat.le_of_ble_eq_true rfl⟩ ?_
  refine q_goto 47 dX8_coins_35 (by decide) ?_
  exact q_iret dX8_coins_47 rfl (Nat.zero_le _) (Nat.zero_le _) (⟨rfl, rfl, rfl⟩)
theorem c_coins {p q : Nat} (hp : p < n) (hn : n ≤ 8) (hq : q < 10) (hX : hat as h X (xo T P S U M D L I tw dr lot yr tc)) (ht : hat as h tw (twn aw ax ay ao n)) (hP : hat as h P (ob 4 [.ref pr])) (hpr : hat as h pr (aI Γ 80 f)) : Det Γ l mX8_coins rX8_coins [.ref X, .int (nI p), .int (nI q)] as h (some (.int (f (p * 10 + q)))) h := by
  have hp8 : p < 8 := by omega
  have hm1 : ¬ nI p = -1 := fun z => nI_pos (n := p) (by omega) (by rw [z]; decide)
  refine Con.of (by decide +kernel) rfl rfl (Nat.le_of_ble_eq_true rfl) ?_
  refine q_iload_n dX8_coins_0 rfl rfl ?_
  refine q_callSd dX8_coins_1 wX8_coins_132 (c_isWeight) rfl rfl (Nat.le_of_ble_eq_true rfl) ⟨⟨Nat.le_of_ble_eq_true rfl, Nat.le_of_ble_eq_true rfl⟩, Nat.le_of_ble_eq_true rfl, Nat.le_of_ble_eq_true rfl⟩ ?_
  refine q_if_eq 20 dX8_coins_4 (by decide) (fun z => absurd z (by rw [isW_nI hq]; decide)) (fun _ => ?_)
  refine q_iload_n dX8_coins_7 rfl rfl ?_
  refine q_iconst (v := (-1)) dX8_coins_8 rfl ?_
  refine q_icmp_eq 22 dX8_coins_9 (by decide) (fun z => absurd z (hm1)) (fun _ => ?_)
  refine q_aload_n dX8_coins_12 rfl rfl ?_
  refine q_iload_n dX8_coins_13 rfl rfl ?_
  refine q_callVd dX8_coins_14 wX8_coins_112 (c_isPerson hX ht) (hX) ⟨_, _, rfl⟩ rfl rfl (Nat.le_of_ble_eq_true rfl) ⟨⟨Nat.le_of_ble_eq_true rfl, Nat.le_of_ble_eq_true rfl⟩, Nat.le_of_ble_eq_true rfl, Nat.le_of_ble_eq_true rfl⟩ ?_
  refine q_if_ne 22 dX8_coins_17 (by decide) (fun _ => ?_) (fun z => absurd z (by rw [isP_nI hp hn]; decide))
  refine q_iload_n dX8_coins_22 rfl rfl ?_
  refine q_iconst (v := (-1)) dX8_coins_23 rfl ?_
  refine q_icmp_ne 38 dX8_coins_24 (by decide) (fun _ => ?_) (fun z => absurd z (hm1))
  refine q_aload_n dX8_coins_38 rfl rfl ?_
  refine q_get dX8_coins_39 fX8_coins_19 (hX) rfl ?_
  refine q_iload_n dX8_coins_42 rfl rfl ?_
  refine q_iload_n dX8_coins_43 rfl rfl ?_
  refine q_callVd dX8_coins_44 wX8_coins_135 (c_held hP hpr hp8 hq) (hP) ⟨_, _, rfl⟩ rfl rfl (Nat.le_of_ble_eq_true rfl) ⟨⟨Nat.le_of_ble_eq_true rfl, Nat.le_of_ble_eq_true rfl⟩, Nat.le_of_ble_eq_true rfl, Nat.le_of_ble_eq_true rfl⟩ ?_
  exact q_iret dX8_coins_47 rfl (Nat.zero_le _) (Nat.zero_le _) (⟨rfl, rfl, rfl⟩)
theorem c_tune_bad {p q : Int32} (hb : p < 0 ∨ 6 ≤ p) (hX : hat as h X (xo T P S U M D L I tw dr lot yr tc)) (hU : hat as h U (ob 7 [.ref ur])) (hur : hat as h ur (aI Γ 6 u)) : Det Γ l mX8_tune rX8_tune [.ref X, .int p, .int q] as h (some (.int (-1))) h := by
  refine Con.of (by decide +kernel) rfl rfl (Nat.le_of_ble_eq_true rfl) ?_
  refine q_aload_n dX8_tune_0 rfl rfl ?_
  refine q_get dX8_tune_1 fX8_tune_29 (hX) rfl ?_
  refine q_iload_n dX8_tune_4 rfl rfl ?_
  refine q_iload_n dX8_tune_5 rfl rfl ?_
  refine q_callVd dX8_tune_6 wX8_tune_146 (c_tset_bad hU hur hb) (hU) ⟨_, _, rfl⟩ rfl rfl (Nat.le_of_ble_eq_true rfl) ⟨⟨Nat.le_of_ble_eq_true rfl, Nat.le_of_ble_eq_true rfl⟩, Nat.le_of_ble_eq_true rfl, Nat.le_of_ble_eq_true rfl⟩ ?_
  exact q_iret dX8_tune_9 rfl (Nat.zero_le _) (Nat.zero_le _) (⟨rfl, rfl, rfl⟩)
theorem c_tune {j : Nat} {q : Int32} (hj : j < 6) (hX : hat as h X (xo T P S U M D L I tw dr lot yr tc)) (hU : hat as h U (ob 7 [.ref ur])) (hur : hat as h ur (aI Γ 6 u)) : Det Γ l mX8_tune rX8_tune [.ref X, .int (nI j), .int q] as h (some (.int (if tuL j ≤ q ∧ q ≤ tuM j then u j else -1))) (if tuL j ≤ q ∧ q ≤ tuM j then hset h ur (aI Γ 6 (upd u j q)) else h) := by
  refine Con.of (by decide +kernel) rfl rfl (Nat.le_of_ble_eq_true rfl) ?_
  refine q_aload_n dX8_tune_0 rfl rfl ?_
  refine q_get dX8_tune_1 fX8_tune_29 (hX) rfl ?_
  refine q_iload_n dX8_tune_4 rfl rfl ?_
  refine q_iload_n dX8_tune_5 rfl rfl ?_
  refine q_callVd dX8_tune_6 wX8_tune_146 (c_tset hU hur hj) (hU) ⟨_, _, rfl⟩ rfl rfl (Nat.le_of_ble_eq_true rfl) ⟨⟨Nat.le_of_ble_eq_true rfl, Nat.le_of_ble_eq_true rfl⟩, Nat.le_of_ble_eq_true rfl, Nat.le_of_ble_eq_true rfl⟩ ?_
  exact q_iret dX8_tune_9 rfl (Nat.zero_le _) (Nat.zero_le _) (⟨rfl, rfl, rfl⟩)
theorem c_lot {q : Int32} (hX : hat as h X (xo T P S U M D L I tw dr lot yr tc)) : Det Γ l mX8_lot rX8_lot [.ref X, .int q] as h (some (.int lot)) (hset h X (xo T P S U M D L I tw dr q yr tc)) := by
  refine Con.of (by decide +kernel) rfl rfl (Nat.le_of_ble_eq_true rfl) ?_
  refine q_aload_n dX8_lot_0 rfl rfl ?_
  refine q_get dX8_lot_1 fX8_lot_71 (hX) rfl ?_
  refine q_istore_n dX8_lot_4 rfl (by decide) ?_
  refine q_aload_n dX8_lot_5 rfl rfl ?_
  refine q_iload_n dX8_lot_6 rfl rfl ?_
  refine q_put dX8_lot_7 pX8_lot_71 (hX) rfl rfl (Nat.le_of_ble_eq_true rfl) ?_
  refine q_iload_n dX8_lot_10 rfl rfl ?_
  exact q_iret dX8_lot_11 rfl (Nat.zero_le _) (Nat.zero_le _) (⟨rfl, rfl, rfl⟩)
theorem c_meet_few (hn : n < 2) (hX : hat as h X (xo T P S U M D L I tw dr lot yr tc)) (ht : hat as h tw (twn aw ax ay ao n)) : Det Γ l mX8_meet rX8_meet [.ref X] as h (some (.int (-2))) h := by
  refine Con.of (by decide +kernel) rfl rfl (Nat.le_of_ble_eq_true rfl) ?_
  refine q_aload_n dX8_meet_0 rfl rfl ?_
  refine q_get dX8_meet_1 fX8_meet_64 (hX) rfl ?_
  refine q_get dX8_meet_4 fX8_meet_109 (ht) rfl ?_
  refine q_iconst (v := 2) dX8_meet_7 rfl ?_
  refine q_icmp_ge 14 dX8_meet_8 (by decide) (fun z => absurd z (nI_ge (b := 2) hn (by omega))) (fun _ => ?_)
  refine q_bipush (v := (-2)) dX8_meet_11 rfl ?_
  exact q_iret dX8_meet_13 rfl (Nat.zero_le _) (Nat.zero_le _) (⟨rfl, rfl, rfl⟩)
theorem mH_M {s : msT} (hM : M ∈ as) : hat as (mH Γ X T P S U M D L I tw dr pr yr tc h s) M (ob 3 [.int s.2.2.1, .int s.2.2.2.1, .int s.2.2.2.2.1, .int s.2.2.2.2.2.1, .int s.2.2.2.2.2.2]) := ⟨hM, hset_eq⟩
theorem mH_X {s : msT} (hX : X ∈ as) (h1 : X ≠ M) (h2 : X ≠ pr) : hat as (mH Γ X T P S U M D L I tw dr pr yr tc h s) X (xo T P S U M D L I tw dr s.1 yr tc) := ⟨hX, by unfold mH; rw [hset_ne h1, hset_ne h2, hset_eq]⟩
theorem mH_p {s : msT} (hX : pr ∈ as) (h1 : pr ≠ M) : hat as (mH Γ X T P S U M D L I tw dr pr yr tc h s) pr (aI Γ 80 s.2.1) := ⟨hX, by unfold mH; rw [hset_ne h1, hset_eq]⟩
theorem mH_o {s : msT} {j : Nat} {e : va_E} (hj : hat as h j e) (h1 : j ≠ X) (h2 : j ≠ pr) (h3 : j ≠ M) : hat as (mH Γ X T P S U M D L I tw dr pr yr tc h s) j e := ⟨hj.1, by unfold mH; rw [hset_ne h3, hset_ne h2, hset_ne h1]; exact hj.2⟩
theorem mH_mH {s s' : msT} (h1 : X ≠ M) (h2 : X ≠ pr) (h3 : pr ≠ M) : mH Γ X T P S U M D L I tw dr pr yr tc (mH Γ X T P S U M D L I tw dr pr yr tc h s) s' = mH Γ X T P S U M D L I tw dr pr yr tc h s' := by
  unfold mH
  funext j
  by_cases a1 : j = M
  · rw [a1, hset_eq, hset_eq]
  · rw [hset_ne a1, hset_ne a1]
    by_cases a2 : j = pr
    · rw [a2, hset_eq, hset_eq]
    · rw [hset_ne a2, hset_ne a2]
      by_cases a3 : j = X
      · rw [a3, hset_eq, hset_eq]
      · rw [hset_ne a3, hset_ne a1, hset_ne a2, hset_ne a3, hset_ne a3]
theorem c_meet (hn : 2 ≤ n) (hn8 : n ≤ 8) (hlim : lim ≤ 9) (hX : hat as h X (xo T P S U M D L I tw dr lot yr tc)) (hP : hat as h P (ob 4 [.ref pr])) (hpr : hat as h pr (aI Γ 80 f)) (hU : hat as h U (ob 7 [.ref ur])) (hur : hat as h ur (aI Γ 6 u)) (hu : u 0 = nI lim) (hM : hat as h M (ob 3 [.int x0, .int x1, .int x2, .int x3, .int x4])) (ht : hat as h tw (twn aw ax ay ao n)) (hw : hat as h aw (aI Γ 8 w)) (hx : hat as h ax (aI Γ 8 x)) (hy : hat as h ay (aI Γ 8 y)) : Det Γ l mX8_meet rX8_meet [.ref X] as h (some (.int (mSt w x y n lim (lot, f, x0, x1, x2, x3, x4)).2.2.2.2.2.1)) (mH Γ X T P S U M D L I tw dr pr yr tc h (mSt w x y n lim (lot, f, x0, x1, x2, x3, x4))) := by
  have e1 := hat_oo hX hM (by decide)
  have e2 := hat_oa hX hpr
  refine Con.of (by decide +kernel) rfl rfl (Nat.le_of_ble_eq_true rfl) ?_
  refine q_aload_n dX8_meet_0 rfl rfl ?_
  refine q_get dX8_meet_1 fX8_meet_64 (hX) rfl ?_
  refine q_get dX8_meet_4 fX8_meet_109 (ht) rfl ?_
  refine q_iconst (v := 2) dX8_meet_7 rfl ?_
  refine q_icmp_ge 14 dX8_meet_8 (by decide) (fun _ => ?_) (fun z => absurd (nI_le (a := 2) hn (by omega)) z)
  refine q_aload_n dX8_meet_14 rfl rfl ?_
  refine q_callVd dX8_meet_15 wX8_meet_149 (c_holdMeeting hn hn8 hlim hX hP hpr hU hur hu hM ht hw hx hy) (hX) ⟨_, _, rfl⟩ rfl rfl (Nat.le_of_ble_eq_true rfl) ⟨⟨Nat.le_of_ble_eq_true rfl, Nat.le_of_ble_eq_true rfl⟩, Nat.le_of_ble_eq_true rfl, Nat.le_of_ble_eq_true rfl⟩ ?_
  refine q_aload_n dX8_meet_18 rfl rfl ?_
  refine q_get dX8_meet_19 fX8_meet_36 (mH_X hX.1 e1 e2) rfl ?_
  refine q_get dX8_meet_22 fX8_meet_152 (mH_M hM.1) rfl ?_
  exact q_iret dX8_meet_25 rfl (Nat.zero_le _) (Nat.zero_le _) (⟨rfl, rfl, rfl⟩)
theorem c_run_bad {m : Int32} (hb : m < 1 ∨ 500 < m) : Det Γ l mX8_run rX8_run [.ref X, .int m] as h (some (.int (-1))) h := by
  refine Con.of (by decide +kernel) rfl rfl (Nat.le_of_ble_eq_true rfl) ?_
  refine q_iload_n dX8_run_0 rfl rfl ?_
  refine q_iconst (v := 1) dX8_run_1 rfl ?_
  refine q_icmp_lt 12 dX8_run_2 (by decide) (fun cA => ?_) (fun cA => ?_)
  · refine q_iconst (v := (-1)) dX8_run_12 rfl ?_
    exact q_iret dX8_run_13 rfl (Nat.zero_le _) (Nat.zero_le _) (⟨rfl, rfl, rfl⟩)
  · refine q_iload_n dX8_run_5 rfl rfl ?_
    refine q_sipush (v := 500) dX8_run_6 rfl ?_
    refine q_icmp_le 14 dX8_run_9 (by decide) (fun cB => ?_) (fun cB => ?_)
    · exact absurd (hb.resolve_left cA) (Int32.not_lt.mpr cB)
    · refine q_iconst (v := (-1)) dX8_run_12 rfl ?_
      exact q_iret dX8_run_13 rfl (Nat.zero_le _) (Nat.zero_le _) (⟨rfl, rfl, rfl⟩)
theorem c_run_few {m : Nat} (hm0 : 1 ≤ m) (hm : m ≤ 500) (hn : n < 2) (hX : hat as h X (xo T P S U M D L I tw dr lot yr tc)) (ht : hat as h tw (twn aw ax ay ao n)) : Det Γ l mX8_run rX8_run [.ref X, .int (nI m)] as h (some (.int (-2))) h := by
  refine Con.of (by decide +kernel) rfl rfl (Nat.le_of_ble_eq_true rfl) ?_
  refine q_iload_n dX8_run_0 rfl rfl ?_
  refine q_iconst (v := 1) dX8_run_1 rfl ?_
  refine q_icmp_lt 12 dX8_run_2 (by decide) (fun z => absurd z (nI_nlt (b := 1) (by omega) (by omega))) (fun _ => ?_)
  refine q_iload_n dX8_run_5 rfl rfl ?_
  refine q_sipush (v := 500) dX8_run_6 rfl ?_
  refine q_icmp_le 14 dX8_run_9 (by decide) (fun _ => ?_) (fun z => absurd (nI_le (b := 500) (by omega) (by omega)) z)
  refine q_aload_n dX8_run_14 rfl rfl ?_
  refine q_get dX8_run_15 fX8_run_64 (hX) rfl ?_
  refine q_get dX8_run_18 fX8_run_109 (ht) rfl ?_
  refine q_iconst (v := 2) dX8_run_21 rfl ?_
  refine q_icmp_ge 28 dX8_run_22 (by decide) (fun z => absurd z (nI_ge (b := 2) hn (by omega))) (fun _ => ?_)
  refine q_bipush (v := (-2)) dX8_run_25 rfl ?_
  exact q_iret dX8_run_27 rfl (Nat.zero_le _) (Nat.zero_le _) (⟨rfl, rfl, rfl⟩)
theorem c_run {m : Nat} (hm0 : 1 ≤ m) (hm : m ≤ 500) (hn : 2 ≤ n) (hn8 : n ≤ 8) (hlim : lim ≤ 9) (hX : hat as h X (xo T P S U M D L I tw dr lot yr tc)) (hP : hat as h P (ob 4 [.ref pr])) (hpr : hat as h pr (aI Γ 80 f)) (hU : hat as h U (ob 7 [.ref ur])) (hur : hat as h ur (aI Γ 6 u)) (hu : u 0 = nI lim) (hM : hat as h M (ob 3 [.int x0, .int x1, .int x2, .int x3, .int x4])) (ht : hat as h tw (twn aw ax ay ao n)) (hw : hat as h aw (aI Γ 8 w)) (hx : hat as h ax (aI Γ 8 x)) (hy : hat as h ay (aI Γ 8 y)) (e20 : ur ≠ pr) (e21 : aw ≠ pr) (e22 : ax ≠ pr) (e23 : ay ≠ pr) : Det Γ l mX8_run rX8_run [.ref X, .int (nI m)] as h (some (.int (runS w x y n lim (lot, f, x0, x1, x2, x3, x4) m).2)) (mH Γ X T P S U M D L I tw dr pr yr tc h (runS w x y n lim (lot, f, x0, x1, x2, x3, x4) m).1) := by
  have e1 := hat_oo hX hM (by decide)
  have e2 := hat_oa hX hpr
  have e3 := hat_ao hpr hM
  have f1 : ∀ s : msT, hat as (mH Γ X T P S U M D L I tw dr pr yr tc h s) P (ob 4 [.ref pr]) := fun s => mH_o hP (hat_oo hP hX (by decide)) (hat_oa hP hpr) (hat_oo hP hM (by decide))
  have f2 : ∀ s : msT, hat as (mH Γ X T P S U M D L I tw dr pr yr tc h s) U (ob 7 [.ref ur]) := fun s => mH_o hU (hat_oo hU hX (by decide)) (hat_oa hU hpr) (hat_oo hU hM (by decide))
  have f3 : ∀ s : msT, hat as (mH Γ X T P S U M D L I tw dr pr yr tc h s) ur (aI Γ 6 u) := fun s => mH_o hur (hat_ao hur hX) e20 (hat_ao hur hM)
  have f4 : ∀ s : msT, hat as (mH Γ X T P S U M D L I tw dr pr yr tc h s) tw (twn aw ax ay ao n) := fun s => mH_o ht (hat_oo ht hX (by decide)) (hat_oa ht hpr) (hat_oo ht hM (by decide))
  have f5 : ∀ s : msT, hat as (mH Γ X T P S U M D L I tw dr pr yr tc h s) aw (aI Γ 8 w) := fun s => mH_o hw (hat_ao hw hX) e21 (hat_ao hw hM)
  have f6 : ∀ s : msT, hat as (mH Γ X T P S U M D L I tw dr pr yr tc h s) ax (aI Γ 8 x) := fun s => mH_o hx (hat_ao hx hX) e22 (hat_ao hx hM)
  have f7 : ∀ s : msT, hat as (mH Γ X T P S U M D L I tw dr pr yr tc h s) ay (aI Γ 8 y) := fun s => mH_o hy (hat_ao hy hX) e23 (hat_ao hy hM)
  have key : ∀ (d c : Nat) (v2 v3 : Int32) (ls : List (Nat × Value)) (h' : aH), c + d = m → v2 = (runS w x y n lim (lot, f, x0, x1, x2, x3, x4) c).2 → v3 = nI c → h' = mH Γ X T P S U M D L I tw dr pr yr tc h (runS w x y n lim (lot, f, x0, x1, x2, x3, x4) c).1 → lin ls [(0, .ref X), (1, .int (nI m)), (2, .int v2), (3, .int v3)] → V Γ l mX8_run rX8_run (Zm Γ rX8_run (qD (some (.int (runS w x y n lim (lot, f, x0, x1, x2, x3, x4) m).2)) as (mH Γ X T P S U M D L I tw dr pr yr tc h (runS w x y n lim (lot, f, x0, x1, x2, x3, x4) m).1))) 0 0 32 ls [] as h' := by
    intro d
    induction d with
    | zero =>
      intro c v2 v3 ls h' hc e v e' hl
      subst e v e'
      refine V.at ?_ hl
      refine q_iload_n dX8_run_32 rfl rfl ?_
      refine q_iload_n dX8_run_33 rfl rfl ?_
      refine q_icmp_ge 62 dX8_run_34 (by decide) (fun _ => ?_) (fun z => absurd (nI_le (by omega) (by omega)) z)
      refine q_iload_n dX8_run_62 rfl rfl ?_
      exact q_iret dX8_run_63 rfl (Nat.zero_le _) (Nat.zero_le _) (⟨by rw [show c = m by omega], rfl, by rw [show c = m by omega]⟩)
    | succ d ih =>
      intro c v2 v3 ls h' hc e v e' hl
      subst e v e'
      refine V.at ?_ hl
      have hMc := mH_M (Γ := Γ) (X := X) (T := T) (P := P) (S := S) (U := U) (D := D) (L := L) (I := I) (tw := tw) (dr := dr) (pr := pr) (yr := yr) (tc := tc) (h := h) (s := (runS w x y n lim (lot, f, x0, x1, x2, x3, x4) (c + 1)).1) hM.1
      have hXc := mH_X (Γ := Γ) (T := T) (P := P) (S := S) (U := U) (D := D) (L := L) (I := I) (tw := tw) (dr := dr) (yr := yr) (tc := tc) (h := h) (s := (runS w x y n lim (lot, f, x0, x1, x2, x3, x4) (c + 1)).1) hX.1 e1 e2
      refine q_iload_n dX8_run_32 rfl rfl ?_
      refine q_iload_n dX8_run_33 rfl rfl ?_
      refine q_icmp_ge 62 dX8_run_34 (by decide) (fun z => absurd z (nI_ge (by omega) (by omega))) (fun _ => ?_)
      refine q_aload_n dX8_run_37 rfl rfl ?_
      refine q_callVd dX8_run_38 wX8_run_149 (c_holdMeeting hn hn8 hlim (mH_X hX.1 e1 e2) (f1 _) (mH_p hpr.1 e3) (f2 _) (f3 _) hu (mH_M hM.1) (f4 _) (f5 _) (f6 _) (f7 _)) (mH_X hX.1 e1 e2) ⟨_, _, rfl⟩ rfl rfl (Nat.le_of_ble_eq_true rfl) ⟨⟨Nat.le_of_ble_eq_true rfl, Nat.le_of_ble_eq_true rfl⟩, Nat.le_of_ble_eq_true rfl, Nat.le_of_ble_eq_true rfl⟩ ?_
      refine V.hp (h' := mH Γ X T P S U M D L I tw dr pr yr tc h (runS w x y n lim (lot, f, x0, x1, x2, x3, x4) (c + 1)).1) ?_ (mH_mH e1 e2 e3)
      refine q_aload_n dX8_run_41 rfl rfl ?_
      refine q_get dX8_run_42 fX8_run_36 (hXc) rfl ?_
      refine q_get dX8_run_45 fX8_run_152 (hMc) rfl ?_
      refine q_bipush (v := (-9)) dX8_run_48 rfl ?_
      refine q_icmp_eq 56 dX8_run_50 (by decide) (fun cA => ?_) (fun cA => ?_)
      · refine q_iinc1 dX8_run_56 rfl (by decide) ?_
        refine q_goto 32 dX8_run_59 (by decide) ?_
        exact ih (c + 1) _ _ _ _ (by omega) (by first | exact (if_pos cA).symm | exact (if_neg cA).symm) (nI_s c) rfl ⟨rfl, rfl, rfl, rfl, trivial⟩
      · refine q_iinc1 dX8_run_53 rfl (by decide) ?_
        refine q_iinc1 dX8_run_56 rfl (by decide) ?_
        refine q_goto 32 dX8_run_59 (by decide) ?_
        exact ih (c + 1) _ _ _ _ (by omega) (by first | exact (if_pos cA).symm | exact (if_neg cA).symm) (nI_s c) rfl ⟨rfl, rfl, rfl, rfl, trivial⟩
  refine Con.of (by decide +kernel) rfl rfl (Nat.le_of_ble_eq_true rfl) ?_
  refine q_iload_n dX8_run_0 rfl rfl ?_
  refine q_iconst (v := 1) dX8_run_1 rfl ?_
  refine q_icmp_lt 12 dX8_run_2 (by decide) (fun z => absurd z (nI_nlt (b := 1) (by omega) (by omega))) (fun _ => ?_)
  refine q_iload_n dX8_run_5 rfl rfl ?_
  refine q_sipush (v := 500) dX8_run_6 rfl ?_
  refine q_icmp_le 14 dX8_run_9 (by decide) (fun _ => ?_) (fun z => absurd (nI_le (b := 500) (by omega) (by omega)) z)
  refine q_aload_n dX8_run_14 rfl rfl ?_
  refine q_get dX8_run_15 fX8_run_64 (hX) rfl ?_
  refine q_get dX8_run_18 fX8_run_109 (ht) rfl ?_
  refine q_iconst (v := 2) dX8_run_21 rfl ?_
  refine q_icmp_ge 28 dX8_run_22 (by decide) (fun _ => ?_) (fun z => absurd (nI_le (a := 2) hn (by omega)) z)
  refine q_iconst (v := 0) dX8_run_28 rfl ?_
  refine q_istore_n dX8_run_29 rfl (by decide) ?_
  refine q_iconst (v := 0) dX8_run_30 rfl ?_
  refine q_istore_n dX8_run_31 rfl (by decide) ?_
  exact key m 0 _ _ _ _ (by omega) rfl rfl (by unfold mH; dsimp only [runS]; rw [hset_same hX.2, hset_same hpr.2, hset_same hM.2]) ⟨rfl, rfl, rfl, rfl, trivial⟩
theorem c_met_bad {q : Int32} (hb : q.toInt < 0 ∨ 3 < q.toInt) : Det Γ l mX8_met rX8_met [.ref X, .int q] as h (some (.int (-1))) h := by
  refine Con.of (by decide +kernel) rfl rfl (Nat.le_of_ble_eq_true rfl) ?_
  refine q_iload_n dX8_met_0 rfl rfl ?_
  refine q_tableOut 64 dX8_met_1 (hb) (by decide) ?_
  refine q_iconst (v := (-1)) dX8_met_64 rfl ?_
  exact q_iret dX8_met_65 rfl (Nat.zero_le _) (Nat.zero_le _) (⟨rfl, rfl, rfl⟩)
theorem c_met {j : Nat} (hj : j < 4) (hX : hat as h X (xo T P S U M D L I tw dr lot yr tc)) (hM : hat as h M (ob 3 [.int x0, .int x1, .int x2, .int x3, .int x4])) : Det Γ l mX8_met rX8_met [.ref X, .int (nI j)] as h (some (.int (([x0, x1, x2, x3] : List Int32).getD j 0))) h := by
  refine Con.of (by decide +kernel) rfl rfl (Nat.le_of_ble_eq_true rfl) ?_
  rcases (show j = 0 ∨ j = 1 ∨ j = 2 ∨ j = 3 by omega) with rfl | rfl | rfl | rfl
  · skip
    refine q_iload_n dX8_met_0 rfl rfl ?_
    refine q_tableIn 32 dX8_met_1 (by decide) (by decide) rfl (by decide) ?_
    refine q_aload_n dX8_met_32 rfl rfl ?_
    refine q_get dX8_met_33 fX8_met_36 (hX) rfl ?_
    refine q_get dX8_met_36 fX8_met_155 (hM) rfl ?_
    exact q_iret dX8_met_39 rfl (Nat.zero_le _) (Nat.zero_le _) (⟨rfl, rfl, rfl⟩)
  · skip
    refine q_iload_n dX8_met_0 rfl rfl ?_
    refine q_tableIn 40 dX8_met_1 (by decide) (by decide) rfl (by decide) ?_
    refine q_aload_n dX8_met_40 rfl rfl ?_
    refine q_get dX8_met_41 fX8_met_36 (hX) rfl ?_
    refine q_get dX8_met_44 fX8_met_158 (hM) rfl ?_
    exact q_iret dX8_met_47 rfl (Nat.zero_le _) (Nat.zero_le _) (⟨rfl, rfl, rfl⟩)
  · skip
    refine q_iload_n dX8_met_0 rfl rfl ?_
    refine q_tableIn 48 dX8_met_1 (by decide) (by decide) rfl (by decide) ?_
    refine q_aload_n dX8_met_48 rfl rfl ?_
    refine q_get dX8_met_49 fX8_met_36 (hX) rfl ?_
    refine q_get dX8_met_52 fX8_met_161 (hM) rfl ?_
    exact q_iret dX8_met_55 rfl (Nat.zero_le _) (Nat.zero_le _) (⟨rfl, rfl, rfl⟩)
  · skip
    refine q_iload_n dX8_met_0 rfl rfl ?_
    refine q_tableIn 56 dX8_met_1 (by decide) (by decide) rfl (by decide) ?_
    refine q_aload_n dX8_met_56 rfl rfl ?_
    refine q_get dX8_met_57 fX8_met_36 (hX) rfl ?_
    refine q_get dX8_met_60 fX8_met_152 (hM) rfl ?_
    exact q_iret dX8_met_63 rfl (Nat.zero_le _) (Nat.zero_le _) (⟨rfl, rfl, rfl⟩)
end
end
section
/-! LIGHTCOINS (X8): days, clips -/
abbrev mX8_gain : mT := (yX8_gain, RX8, cX8_gain, 5, (some .long), wsX8_gain)
abbrev rX8_gain : Room := { frames := 5, cells := 0, slots := 0, locals := 111 }
theorem dX8_gain_0 : decode cX8_gain 0 = .ok (.iload_n 3, 1) := by decide +kernel
theorem dX8_gain_1 : decode cX8_gain 1 = .ok (.ifCond .lt 25, 3) := by decide +kernel
theorem dX8_gain_4 : decode cX8_gain 4 = .ok (.iload_n 3, 1) := by decide +kernel
theorem dX8_gain_5 : decode cX8_gain 5 = .ok (.iconst 1, 1) := by decide +kernel
theorem dX8_gain_6 : decode cX8_gain 6 = .ok (.if_icmp .gt 20, 3) := by decide +kernel
theorem dX8_gain_9 : decode cX8_gain 9 = .ok (.iload 4, 2) := by decide +kernel
theorem dX8_gain_11 : decode cX8_gain 11 = .ok (.invokestatic 164, 3) := by decide +kernel
theorem dX8_gain_14 : decode cX8_gain 14 = .ok (.ifCond .eq 12, 3) := by decide +kernel
theorem dX8_gain_17 : decode cX8_gain 17 = .ok (.aload_n 0, 1) := by decide +kernel
theorem dX8_gain_18 : decode cX8_gain 18 = .ok (.iload_n 1, 1) := by decide +kernel
theorem dX8_gain_19 : decode cX8_gain 19 = .ok (.iload_n 2, 1) := by decide +kernel
theorem dX8_gain_20 : decode cX8_gain 20 = .ok (.invokevirtual 167, 3) := by decide +kernel
theorem dX8_gain_23 : decode cX8_gain 23 = .ok (.ifCond .eq 7, 3) := by decide +kernel
theorem dX8_gain_26 : decode cX8_gain 26 = .ok (.ldc2_w 170, 3) := by decide +kernel
theorem dX8_gain_29 : decode cX8_gain 29 = .ok (.lreturn, 1) := by decide +kernel
theorem dX8_gain_30 : decode cX8_gain 30 = .ok (.aload_n 0, 1) := by decide +kernel
theorem dX8_gain_31 : decode cX8_gain 31 = .ok (.getfield 43, 3) := by decide +kernel
theorem dX8_gain_34 : decode cX8_gain 34 = .ok (.aload_n 0, 1) := by decide +kernel
theorem dX8_gain_35 : decode cX8_gain 35 = .ok (.getfield 19, 3) := by decide +kernel
theorem dX8_gain_38 : decode cX8_gain 38 = .ok (.iload_n 1, 1) := by decide +kernel
theorem dX8_gain_39 : decode cX8_gain 39 = .ok (.aload_n 0, 1) := by decide +kernel
theorem dX8_gain_40 : decode cX8_gain 40 = .ok (.getfield 29, 3) := by decide +kernel
theorem dX8_gain_43 : decode cX8_gain 43 = .ok (.iconst 1, 1) := by decide +kernel
theorem dX8_gain_44 : decode cX8_gain 44 = .ok (.invokevirtual 172, 3) := by decide +kernel
theorem dX8_gain_47 : decode cX8_gain 47 = .ok (.invokevirtual 175, 3) := by decide +kernel
theorem dX8_gain_50 : decode cX8_gain 50 = .ok (.iload_n 3, 1) := by decide +kernel
theorem dX8_gain_51 : decode cX8_gain 51 = .ok (.ifCond .ne 36, 3) := by decide +kernel
theorem dX8_gain_54 : decode cX8_gain 54 = .ok (.iload_n 2, 1) := by decide +kernel
theorem dX8_gain_55 : decode cX8_gain 55 = .ok (.iload_n 1, 1) := by decide +kernel
theorem dX8_gain_56 : decode cX8_gain 56 = .ok (.if_icmp .ne 9, 3) := by decide +kernel
theorem dX8_gain_59 : decode cX8_gain 59 = .ok (.ldc2_w 170, 3) := by decide +kernel
theorem dX8_gain_62 : decode cX8_gain 62 = .ok (.goto 24, 3) := by decide +kernel
theorem dX8_gain_65 : decode cX8_gain 65 = .ok (.aload_n 0, 1) := by decide +kernel
theorem dX8_gain_66 : decode cX8_gain 66 = .ok (.getfield 43, 3) := by decide +kernel
theorem dX8_gain_69 : decode cX8_gain 69 = .ok (.iload_n 2, 1) := by decide +kernel
theorem dX8_gain_70 : decode cX8_gain 70 = .ok (.invokevirtual 179, 3) := by decide +kernel
theorem dX8_gain_73 : decode cX8_gain 73 = .ok (.aload_n 0, 1) := by decide +kernel
theorem dX8_gain_74 : decode cX8_gain 74 = .ok (.getfield 43, 3) := by decide +kernel
theorem dX8_gain_77 : decode cX8_gain 77 = .ok (.iload_n 2, 1) := by decide +kernel
theorem dX8_gain_78 : decode cX8_gain 78 = .ok (.invokevirtual 183, 3) := by decide +kernel
theorem dX8_gain_81 : decode cX8_gain 81 = .ok (.iload 4, 2) := by decide +kernel
theorem dX8_gain_83 : decode cX8_gain 83 = .ok (.invokestatic 186, 3) := by decide +kernel
theorem dX8_gain_86 : decode cX8_gain 86 = .ok (.lreturn, 1) := by decide +kernel
theorem dX8_gain_87 : decode cX8_gain 87 = .ok (.iload_n 2, 1) := by decide +kernel
theorem dX8_gain_88 : decode cX8_gain 88 = .ok (.ifCond .ne 9, 3) := by decide +kernel
theorem dX8_gain_91 : decode cX8_gain 91 = .ok (.ldc2_w 170, 3) := by decide +kernel
theorem dX8_gain_94 : decode cX8_gain 94 = .ok (.goto 24, 3) := by decide +kernel
theorem dX8_gain_97 : decode cX8_gain 97 = .ok (.aload_n 0, 1) := by decide +kernel
theorem dX8_gain_98 : decode cX8_gain 98 = .ok (.getfield 43, 3) := by decide +kernel
theorem dX8_gain_101 : decode cX8_gain 101 = .ok (.iload_n 2, 1) := by decide +kernel
theorem dX8_gain_102 : decode cX8_gain 102 = .ok (.invokevirtual 190, 3) := by decide +kernel
theorem dX8_gain_105 : decode cX8_gain 105 = .ok (.aload_n 0, 1) := by decide +kernel
theorem dX8_gain_106 : decode cX8_gain 106 = .ok (.getfield 43, 3) := by decide +kernel
theorem dX8_gain_109 : decode cX8_gain 109 = .ok (.iload_n 2, 1) := by decide +kernel
theorem dX8_gain_110 : decode cX8_gain 110 = .ok (.invokevirtual 193, 3) := by decide +kernel
theorem dX8_gain_113 : decode cX8_gain 113 = .ok (.iload 4, 2) := by decide +kernel
theorem dX8_gain_115 : decode cX8_gain 115 = .ok (.invokestatic 186, 3) := by decide +kernel
theorem dX8_gain_118 : decode cX8_gain 118 = .ok (.lreturn, 1) := by decide +kernel
theorem iX8_gain_8 : ∀ w ∈ wsX80, w ∈ wsX8_gain := fun w h => List.mem_cons_of_mem _ (List.mem_append_left _ (List.mem_append_left _ (List.mem_append_left _ (List.mem_append_right _ h))))
theorem fX8_gain_19 : FL mX8_gain 19 8 1 := ⟨_, _, _, rfl, by decide, iX8_gain_8, by decide +kernel⟩
theorem fX8_gain_29 : FL mX8_gain 29 8 3 := ⟨_, _, _, rfl, by decide, iX8_gain_8, by decide +kernel⟩
theorem fX8_gain_43 : FL mX8_gain 43 8 5 := ⟨_, _, _, rfl, by decide, iX8_gain_8, by decide +kernel⟩
set_option maxRecDepth 20000 in
theorem ggX8_gain_X8_isUpperOrLower : GoodIn wsX8_gain wsX8_isUpperOrLower := goodIn_r _ [8] (by decide +kernel) (by decide +kernel)
set_option maxRecDepth 20000 in
theorem gX8_gain_X8_isUpperOrLower : GoodIn wsX8_gain (va_wsS RX8 164 yX8_isUpperOrLower wsX8_isUpperOrLower) := goodIn_app (goodIn_of _ (by decide +kernel)) ggX8_gain_X8_isUpperOrLower
theorem wX8_gain_164 : CWS mX8_gain 164 mX8_isUpperOrLower 1 := ⟨gX8_gain_X8_isUpperOrLower, ⟨_, rfl⟩, by decide +kernel, by decide +kernel, by decide +kernel⟩
set_option maxRecDepth 20000 in
theorem ggX8_gain_X8_dayRefusal : GoodIn wsX8_gain wsX8_dayRefusal := goodIn_r _ [12, 3, 13, 14, 15, 16, 17, 18, 19, 20, 21, 22, 23, 24, 25, 26, 27, 28, 29, 30, 81, 82, 83, 84, 85, 86, 87, 88, 89, 90, 91, 92, 93, 94] (by decide +kernel) (by decide +kernel)
set_option maxRecDepth 20000 in
theorem gX8_gain_X8_dayRefusal : GoodIn wsX8_gain (wsV RX8 167 RX8 yX8_dayRefusal wsX8_dayRefusal) := goodIn_app (goodIn_of _ (by decide +kernel)) ggX8_gain_X8_dayRefusal
theorem wX8_gain_167 : CWV mX8_gain 167 mX8_dayRefusal 2 := ⟨gX8_gain_X8_dayRefusal, ⟨_, rfl⟩, rfl, by decide +kernel, by decide +kernel, by decide +kernel⟩
set_option maxRecDepth 20000 in
theorem ggX8_gain_X7_of : GoodIn wsX8_gain wsX7_of := goodIn_r _ [35, 36, 95] (by decide +kernel) (by decide +kernel)
set_option maxRecDepth 20000 in
theorem gX8_gain_X7_of : GoodIn wsX8_gain (wsV RX8 172 RX7 yX7_of wsX7_of) := goodIn_app (goodIn_of _ (by decide +kernel)) ggX8_gain_X7_of
theorem wX8_gain_172 : CWV mX8_gain 172 mX7_of 1 := ⟨gX8_gain_X7_of, ⟨_, rfl⟩, rfl, by decide +kernel, by decide +kernel, by decide +kernel⟩
set_option maxRecDepth 20000 in
theorem ggX8_gain_X0_lay : GoodIn wsX8_gain wsX0_lay := goodIn_r _ [41, 42, 43, 44, 45, 46, 47, 48, 49, 16, 50, 26, 27, 28, 29, 30, 51, 52, 53, 40, 54, 96, 97, 98, 99, 100, 94] (by decide +kernel) (by decide +kernel)
set_option maxRecDepth 20000 in
theorem gX8_gain_X0_lay : GoodIn wsX8_gain (wsV RX8 175 RX0 yX0_lay wsX0_lay) := goodIn_app (goodIn_of _ (by decide +kernel)) ggX8_gain_X0_lay
theorem wX8_gain_175 : CWV mX8_gain 175 mX0_lay 3 := ⟨gX8_gain_X0_lay, ⟨_, rfl⟩, rfl, by decide +kernel, by decide +kernel, by decide +kernel⟩
set_option maxRecDepth 20000 in
theorem ggX8_gain_X0_taleUpper : GoodIn wsX8_gain wsX0_taleUpper := goodIn_r _ [58, 46, 42, 96, 97, 98, 99, 100] (by decide +kernel) (by decide +kernel)
set_option maxRecDepth 20000 in
theorem gX8_gain_X0_taleUpper : GoodIn wsX8_gain (wsV RX8 179 RX0 yX0_taleUpper wsX0_taleUpper) := goodIn_app (goodIn_of _ (by decide +kernel)) ggX8_gain_X0_taleUpper
theorem wX8_gain_179 : CWV mX8_gain 179 mX0_taleUpper 1 := ⟨gX8_gain_X0_taleUpper, ⟨_, rfl⟩, rfl, by decide +kernel, by decide +kernel, by decide +kernel⟩
set_option maxRecDepth 20000 in
theorem ggX8_gain_X0_taleLower : GoodIn wsX8_gain wsX0_taleLower := goodIn_r _ [62, 42, 96, 97, 98, 99, 100] (by decide +kernel) (by decide +kernel)
set_option maxRecDepth 20000 in
theorem gX8_gain_X0_taleLower : GoodIn wsX8_gain (wsV RX8 183 RX0 yX0_taleLower wsX0_taleLower) := goodIn_app (goodIn_of _ (by decide +kernel)) ggX8_gain_X0_taleLower
theorem wX8_gain_183 : CWV mX8_gain 183 mX0_taleLower 1 := ⟨gX8_gain_X0_taleLower, ⟨_, rfl⟩, rfl, by decide +kernel, by decide +kernel, by decide +kernel⟩
set_option maxRecDepth 20000 in
theorem ggX8_gain_X8_leastTerms : GoodIn wsX8_gain wsX8_leastTerms := goodIn_r _ [65, 66, 67, 68, 69, 1, 70, 71, 7, 72] (by decide +kernel) (by decide +kernel)
set_option maxRecDepth 20000 in
theorem gX8_gain_X8_leastTerms : GoodIn wsX8_gain (va_wsS RX8 186 yX8_leastTerms wsX8_leastTerms) := goodIn_app (goodIn_of _ (by decide +kernel)) ggX8_gain_X8_leastTerms
theorem wX8_gain_186 : CWS mX8_gain 186 mX8_leastTerms 3 := ⟨gX8_gain_X8_leastTerms, ⟨_, rfl⟩, by decide +kernel, by decide +kernel, by decide +kernel⟩
set_option maxRecDepth 20000 in
theorem ggX8_gain_X0_lookUpper : GoodIn wsX8_gain wsX0_lookUpper := goodIn_r _ [76, 45, 43, 96, 97, 98, 99, 100] (by decide +kernel) (by decide +kernel)
set_option maxRecDepth 20000 in
theorem gX8_gain_X0_lookUpper : GoodIn wsX8_gain (wsV RX8 190 RX0 yX0_lookUpper wsX0_lookUpper) := goodIn_app (goodIn_of _ (by decide +kernel)) ggX8_gain_X0_lookUpper
theorem wX8_gain_190 : CWV mX8_gain 190 mX0_lookUpper 1 := ⟨gX8_gain_X0_lookUpper, ⟨_, rfl⟩, rfl, by decide +kernel, by decide +kernel, by decide +kernel⟩
set_option maxRecDepth 20000 in
theorem ggX8_gain_X0_lookLower : GoodIn wsX8_gain wsX0_lookLower := goodIn_r _ [80] (by decide +kernel) (by decide +kernel)
set_option maxRecDepth 20000 in
theorem gX8_gain_X0_lookLower : GoodIn wsX8_gain (wsV RX8 193 RX0 yX0_lookLower wsX0_lookLower) := goodIn_app (goodIn_of _ (by decide +kernel)) ggX8_gain_X0_lookLower
theorem wX8_gain_193 : CWV mX8_gain 193 mX0_lookLower 1 := ⟨gX8_gain_X0_lookLower, ⟨_, rfl⟩, rfl, by decide +kernel, by decide +kernel, by decide +kernel⟩
abbrev mX8_rests : mT := (yX8_rests, RX8, cX8_rests, 3, (some .int), wsX8_rests)
abbrev rX8_rests : Room := { frames := 5, cells := 0, slots := 0, locals := 111 }
theorem dX8_rests_0 : decode cX8_rests 0 = .ok (.aload_n 0, 1) := by decide +kernel
theorem dX8_rests_1 : decode cX8_rests 1 = .ok (.iload_n 1, 1) := by decide +kernel
theorem dX8_rests_2 : decode cX8_rests 2 = .ok (.iconst 0, 1) := by decide +kernel
theorem dX8_rests_3 : decode cX8_rests 3 = .ok (.invokevirtual 167, 3) := by decide +kernel
theorem dX8_rests_6 : decode cX8_rests 6 = .ok (.istore_n 2, 1) := by decide +kernel
theorem dX8_rests_7 : decode cX8_rests 7 = .ok (.iload_n 2, 1) := by decide +kernel
theorem dX8_rests_8 : decode cX8_rests 8 = .ok (.ifCond .eq 5, 3) := by decide +kernel
theorem dX8_rests_11 : decode cX8_rests 11 = .ok (.iload_n 2, 1) := by decide +kernel
theorem dX8_rests_12 : decode cX8_rests 12 = .ok (.ireturn, 1) := by decide +kernel
theorem dX8_rests_13 : decode cX8_rests 13 = .ok (.aload_n 0, 1) := by decide +kernel
theorem dX8_rests_14 : decode cX8_rests 14 = .ok (.getfield 43, 3) := by decide +kernel
theorem dX8_rests_17 : decode cX8_rests 17 = .ok (.aload_n 0, 1) := by decide +kernel
theorem dX8_rests_18 : decode cX8_rests 18 = .ok (.getfield 19, 3) := by decide +kernel
theorem dX8_rests_21 : decode cX8_rests 21 = .ok (.iload_n 1, 1) := by decide +kernel
theorem dX8_rests_22 : decode cX8_rests 22 = .ok (.aload_n 0, 1) := by decide +kernel
theorem dX8_rests_23 : decode cX8_rests 23 = .ok (.getfield 29, 3) := by decide +kernel
theorem dX8_rests_26 : decode cX8_rests 26 = .ok (.iconst 1, 1) := by decide +kernel
theorem dX8_rests_27 : decode cX8_rests 27 = .ok (.invokevirtual 172, 3) := by decide +kernel
theorem dX8_rests_30 : decode cX8_rests 30 = .ok (.invokevirtual 175, 3) := by decide +kernel
theorem dX8_rests_33 : decode cX8_rests 33 = .ok (.aload_n 0, 1) := by decide +kernel
theorem dX8_rests_34 : decode cX8_rests 34 = .ok (.getfield 43, 3) := by decide +kernel
theorem dX8_rests_37 : decode cX8_rests 37 = .ok (.invokevirtual 196, 3) := by decide +kernel
theorem dX8_rests_40 : decode cX8_rests 40 = .ok (.ireturn, 1) := by decide +kernel
theorem iX8_rests_8 : ∀ w ∈ wsX80, w ∈ wsX8_rests := fun w h => List.mem_cons_of_mem _ (List.mem_append_left _ (List.mem_append_left _ (List.mem_append_left _ (List.mem_append_right _ h))))
theorem fX8_rests_19 : FL mX8_rests 19 8 1 := ⟨_, _, _, rfl, by decide, iX8_rests_8, by decide +kernel⟩
theorem fX8_rests_29 : FL mX8_rests 29 8 3 := ⟨_, _, _, rfl, by decide, iX8_rests_8, by decide +kernel⟩
theorem fX8_rests_43 : FL mX8_rests 43 8 5 := ⟨_, _, _, rfl, by decide, iX8_rests_8, by decide +kernel⟩
set_option maxRecDepth 20000 in
theorem ggX8_rests_X8_dayRefusal : GoodIn wsX8_rests wsX8_dayRefusal := goodIn_r _ [8, 2, 9, 10, 11, 12, 13, 14, 15, 16, 17, 18, 19, 20, 21, 22, 23, 24, 25, 26, 83, 84, 85, 86, 87, 88, 89, 90, 91, 92, 93, 94, 95, 96] (by decide +kernel) (by decide +kernel)
set_option maxRecDepth 20000 in
theorem gX8_rests_X8_dayRefusal : GoodIn wsX8_rests (wsV RX8 167 RX8 yX8_dayRefusal wsX8_dayRefusal) := goodIn_app (goodIn_of _ (by decide +kernel)) ggX8_rests_X8_dayRefusal
theorem wX8_rests_167 : CWV mX8_rests 167 mX8_dayRefusal 2 := ⟨gX8_rests_X8_dayRefusal, ⟨_, rfl⟩, rfl, by decide +kernel, by decide +kernel, by decide +kernel⟩
set_option maxRecDepth 20000 in
theorem ggX8_rests_X7_of : GoodIn wsX8_rests wsX7_of := goodIn_r _ [31, 32, 97] (by decide +kernel) (by decide +kernel)
set_option maxRecDepth 20000 in
theorem gX8_rests_X7_of : GoodIn wsX8_rests (wsV RX8 172 RX7 yX7_of wsX7_of) := goodIn_app (goodIn_of _ (by decide +kernel)) ggX8_rests_X7_of
theorem wX8_rests_172 : CWV mX8_rests 172 mX7_of 1 := ⟨gX8_rests_X7_of, ⟨_, rfl⟩, rfl, by decide +kernel, by decide +kernel, by decide +kernel⟩
set_option maxRecDepth 20000 in
theorem ggX8_rests_X0_lay : GoodIn wsX8_rests wsX0_lay := goodIn_r _ [37, 38, 39, 40, 41, 42, 43, 44, 45, 12, 46, 22, 23, 24, 25, 26, 47, 48, 49, 36, 50, 98, 99, 100, 101, 102, 96] (by decide +kernel) (by decide +kernel)
set_option maxRecDepth 20000 in
theorem gX8_rests_X0_lay : GoodIn wsX8_rests (wsV RX8 175 RX0 yX0_lay wsX0_lay) := goodIn_app (goodIn_of _ (by decide +kernel)) ggX8_rests_X0_lay
theorem wX8_rests_175 : CWV mX8_rests 175 mX0_lay 3 := ⟨gX8_rests_X0_lay, ⟨_, rfl⟩, rfl, by decide +kernel, by decide +kernel, by decide +kernel⟩
set_option maxRecDepth 20000 in
theorem ggX8_rests_X0_allThatRest : GoodIn wsX8_rests wsX0_allThatRest := goodIn_r _ [54, 38, 55, 56, 57, 36, 58, 59, 60, 61, 62, 63, 64, 65, 66, 41, 39, 67, 68, 69, 70, 71, 72, 73, 74, 42, 75, 76, 77, 78, 79, 80, 81, 82, 98, 99, 100, 101, 102] (by decide +kernel) (by decide +kernel)
set_option maxRecDepth 20000 in
theorem gX8_rests_X0_allThatRest : GoodIn wsX8_rests (wsV RX8 196 RX0 yX0_allThatRest wsX0_allThatRest) := goodIn_app (goodIn_of _ (by decide +kernel)) ggX8_rests_X0_allThatRest
theorem wX8_rests_196 : CWV mX8_rests 196 mX0_allThatRest 0 := ⟨gX8_rests_X0_allThatRest, ⟨_, rfl⟩, rfl, by decide +kernel, by decide +kernel, by decide +kernel⟩
abbrev mX8_goes : mT := (yX8_goes, RX8, cX8_goes, 4, (some .int), wsX8_goes)
abbrev rX8_goes : Room := { frames := 5, cells := 0, slots := 0, locals := 111 }
theorem dX8_goes_0 : decode cX8_goes 0 = .ok (.aload_n 0, 1) := by decide +kernel
theorem dX8_goes_1 : decode cX8_goes 1 = .ok (.iload_n 1, 1) := by decide +kernel
theorem dX8_goes_2 : decode cX8_goes 2 = .ok (.iload_n 2, 1) := by decide +kernel
theorem dX8_goes_3 : decode cX8_goes 3 = .ok (.invokevirtual 167, 3) := by decide +kernel
theorem dX8_goes_6 : decode cX8_goes 6 = .ok (.istore_n 3, 1) := by decide +kernel
theorem dX8_goes_7 : decode cX8_goes 7 = .ok (.iload_n 3, 1) := by decide +kernel
theorem dX8_goes_8 : decode cX8_goes 8 = .ok (.ifCond .eq 5, 3) := by decide +kernel
theorem dX8_goes_11 : decode cX8_goes 11 = .ok (.iload_n 3, 1) := by decide +kernel
theorem dX8_goes_12 : decode cX8_goes 12 = .ok (.ireturn, 1) := by decide +kernel
theorem dX8_goes_13 : decode cX8_goes 13 = .ok (.aload_n 0, 1) := by decide +kernel
theorem dX8_goes_14 : decode cX8_goes 14 = .ok (.getfield 43, 3) := by decide +kernel
theorem dX8_goes_17 : decode cX8_goes 17 = .ok (.aload_n 0, 1) := by decide +kernel
theorem dX8_goes_18 : decode cX8_goes 18 = .ok (.getfield 19, 3) := by decide +kernel
theorem dX8_goes_21 : decode cX8_goes 21 = .ok (.iload_n 1, 1) := by decide +kernel
theorem dX8_goes_22 : decode cX8_goes 22 = .ok (.aload_n 0, 1) := by decide +kernel
theorem dX8_goes_23 : decode cX8_goes 23 = .ok (.getfield 29, 3) := by decide +kernel
theorem dX8_goes_26 : decode cX8_goes 26 = .ok (.iconst 1, 1) := by decide +kernel
theorem dX8_goes_27 : decode cX8_goes 27 = .ok (.invokevirtual 172, 3) := by decide +kernel
theorem dX8_goes_30 : decode cX8_goes 30 = .ok (.invokevirtual 175, 3) := by decide +kernel
theorem dX8_goes_33 : decode cX8_goes 33 = .ok (.aload_n 0, 1) := by decide +kernel
theorem dX8_goes_34 : decode cX8_goes 34 = .ok (.getfield 43, 3) := by decide +kernel
theorem dX8_goes_37 : decode cX8_goes 37 = .ok (.iload_n 2, 1) := by decide +kernel
theorem dX8_goes_38 : decode cX8_goes 38 = .ok (.invokevirtual 200, 3) := by decide +kernel
theorem dX8_goes_41 : decode cX8_goes 41 = .ok (.ireturn, 1) := by decide +kernel
theorem iX8_goes_8 : ∀ w ∈ wsX80, w ∈ wsX8_goes := fun w h => List.mem_cons_of_mem _ (List.mem_append_left _ (List.mem_append_left _ (List.mem_append_left _ (List.mem_append_right _ h))))
theorem fX8_goes_19 : FL mX8_goes 19 8 1 := ⟨_, _, _, rfl, by decide, iX8_goes_8, by decide +kernel⟩
theorem fX8_goes_29 : FL mX8_goes 29 8 3 := ⟨_, _, _, rfl, by decide, iX8_goes_8, by decide +kernel⟩
theorem fX8_goes_43 : FL mX8_goes 43 8 5 := ⟨_, _, _, rfl, by decide, iX8_goes_8, by decide +kernel⟩
set_option maxRecDepth 20000 in
theorem ggX8_goes_X8_dayRefusal : GoodIn wsX8_goes wsX8_dayRefusal := goodIn_r _ [8, 2, 9, 10, 11, 12, 13, 14, 15, 16, 17, 18, 19, 20, 21, 22, 23, 24, 25, 26, 83, 84, 85, 86, 87, 88, 89, 90, 91, 92, 93, 94, 95, 96] (by decide +kernel) (by decide +kernel)
set_option maxRecDepth 20000 in
theorem gX8_goes_X8_dayRefusal : GoodIn wsX8_goes (wsV RX8 167 RX8 yX8_dayRefusal wsX8_dayRefusal) := goodIn_app (goodIn_of _ (by decide +kernel)) ggX8_goes_X8_dayRefusal
theorem wX8_goes_167 : CWV mX8_goes 167 mX8_dayRefusal 2 := ⟨gX8_goes_X8_dayRefusal, ⟨_, rfl⟩, rfl, by decide +kernel, by decide +kernel, by decide +kernel⟩
set_option maxRecDepth 20000 in
theorem ggX8_goes_X7_of : GoodIn wsX8_goes wsX7_of := goodIn_r _ [31, 32, 97] (by decide +kernel) (by decide +kernel)
set_option maxRecDepth 20000 in
theorem gX8_goes_X7_of : GoodIn wsX8_goes (wsV RX8 172 RX7 yX7_of wsX7_of) := goodIn_app (goodIn_of _ (by decide +kernel)) ggX8_goes_X7_of
theorem wX8_goes_172 : CWV mX8_goes 172 mX7_of 1 := ⟨gX8_goes_X7_of, ⟨_, rfl⟩, rfl, by decide +kernel, by decide +kernel, by decide +kernel⟩
set_option maxRecDepth 20000 in
theorem ggX8_goes_X0_lay : GoodIn wsX8_goes wsX0_lay := goodIn_r _ [37, 38, 39, 40, 41, 42, 43, 44, 45, 12, 46, 22, 23, 24, 25, 26, 47, 48, 49, 36, 50, 98, 99, 100, 101, 102, 96] (by decide +kernel) (by decide +kernel)
set_option maxRecDepth 20000 in
theorem gX8_goes_X0_lay : GoodIn wsX8_goes (wsV RX8 175 RX0 yX0_lay wsX0_lay) := goodIn_app (goodIn_of _ (by decide +kernel)) ggX8_goes_X0_lay
theorem wX8_goes_175 : CWV mX8_goes 175 mX0_lay 3 := ⟨gX8_goes_X0_lay, ⟨_, rfl⟩, rfl, by decide +kernel, by decide +kernel, by decide +kernel⟩
set_option maxRecDepth 20000 in
theorem ggX8_goes_X0_endFrom : GoodIn wsX8_goes wsX0_endFrom := goodIn_r _ [54, 38, 55, 56, 57, 36, 58, 59, 60, 61, 62, 63, 64, 65, 66, 41, 39, 67, 68, 69, 70, 71, 72, 73, 74, 42, 75, 76, 77, 78, 79, 80, 81, 82, 98, 99, 100, 101, 102] (by decide +kernel) (by decide +kernel)
set_option maxRecDepth 20000 in
theorem gX8_goes_X0_endFrom : GoodIn wsX8_goes (wsV RX8 200 RX0 yX0_endFrom wsX0_endFrom) := goodIn_app (goodIn_of _ (by decide +kernel)) ggX8_goes_X0_endFrom
theorem wX8_goes_200 : CWV mX8_goes 200 mX0_endFrom 1 := ⟨gX8_goes_X0_endFrom, ⟨_, rfl⟩, rfl, by decide +kernel, by decide +kernel, by decide +kernel⟩
abbrev mX8_tip : mT := (yX8_tip, RX8, cX8_tip, 3, (some .int), wsX8_tip)
abbrev rX8_tip : Room := { frames := 5, cells := 0, slots := 0, locals := 111 }
theorem dX8_tip_0 : decode cX8_tip 0 = .ok (.aload_n 0, 1) := by decide +kernel
theorem dX8_tip_1 : decode cX8_tip 1 = .ok (.iload_n 1, 1) := by decide +kernel
theorem dX8_tip_2 : decode cX8_tip 2 = .ok (.iconst 0, 1) := by decide +kernel
theorem dX8_tip_3 : decode cX8_tip 3 = .ok (.invokevirtual 167, 3) := by decide +kernel
theorem dX8_tip_6 : decode cX8_tip 6 = .ok (.istore_n 2, 1) := by decide +kernel
theorem dX8_tip_7 : decode cX8_tip 7 = .ok (.iload_n 2, 1) := by decide +kernel
theorem dX8_tip_8 : decode cX8_tip 8 = .ok (.ifCond .eq 5, 3) := by decide +kernel
theorem dX8_tip_11 : decode cX8_tip 11 = .ok (.iload_n 2, 1) := by decide +kernel
theorem dX8_tip_12 : decode cX8_tip 12 = .ok (.ireturn, 1) := by decide +kernel
theorem dX8_tip_13 : decode cX8_tip 13 = .ok (.aload_n 0, 1) := by decide +kernel
theorem dX8_tip_14 : decode cX8_tip 14 = .ok (.getfield 43, 3) := by decide +kernel
theorem dX8_tip_17 : decode cX8_tip 17 = .ok (.aload_n 0, 1) := by decide +kernel
theorem dX8_tip_18 : decode cX8_tip 18 = .ok (.getfield 19, 3) := by decide +kernel
theorem dX8_tip_21 : decode cX8_tip 21 = .ok (.iload_n 1, 1) := by decide +kernel
theorem dX8_tip_22 : decode cX8_tip 22 = .ok (.aload_n 0, 1) := by decide +kernel
theorem dX8_tip_23 : decode cX8_tip 23 = .ok (.getfield 29, 3) := by decide +kernel
theorem dX8_tip_26 : decode cX8_tip 26 = .ok (.iconst 1, 1) := by decide +kernel
theorem dX8_tip_27 : decode cX8_tip 27 = .ok (.invokevirtual 172, 3) := by decide +kernel
theorem dX8_tip_30 : decode cX8_tip 30 = .ok (.invokevirtual 175, 3) := by decide +kernel
theorem dX8_tip_33 : decode cX8_tip 33 = .ok (.aload_n 0, 1) := by decide +kernel
theorem dX8_tip_34 : decode cX8_tip 34 = .ok (.getfield 43, 3) := by decide +kernel
theorem dX8_tip_37 : decode cX8_tip 37 = .ok (.invokevirtual 203, 3) := by decide +kernel
theorem dX8_tip_40 : decode cX8_tip 40 = .ok (.ireturn, 1) := by decide +kernel
theorem iX8_tip_8 : ∀ w ∈ wsX80, w ∈ wsX8_tip := fun w h => List.mem_cons_of_mem _ (List.mem_append_left _ (List.mem_append_left _ (List.mem_append_left _ (List.mem_append_right _ h))))
theorem fX8_tip_19 : FL mX8_tip 19 8 1 := ⟨_, _, _, rfl, by decide, iX8_tip_8, by decide +kernel⟩
theorem fX8_tip_29 : FL mX8_tip 29 8 3 := ⟨_, _, _, rfl, by decide, iX8_tip_8, by decide +kernel⟩
theorem fX8_tip_43 : FL mX8_tip 43 8 5 := ⟨_, _, _, rfl, by decide, iX8_tip_8, by decide +kernel⟩
set_option maxRecDepth 20000 in
theorem ggX8_tip_X8_dayRefusal : GoodIn wsX8_tip wsX8_dayRefusal := goodIn_r _ [8, 2, 9, 10, 11, 12, 13, 14, 15, 16, 17, 18, 19, 20, 21, 22, 23, 24, 25, 26, 87, 88, 89, 90, 91, 92, 93, 94, 95, 96, 97, 98, 99, 100] (by decide +kernel) (by decide +kernel)
set_option maxRecDepth 20000 in
theorem gX8_tip_X8_dayRefusal : GoodIn wsX8_tip (wsV RX8 167 RX8 yX8_dayRefusal wsX8_dayRefusal) := goodIn_app (goodIn_of _ (by decide +kernel)) ggX8_tip_X8_dayRefusal
theorem wX8_tip_167 : CWV mX8_tip 167 mX8_dayRefusal 2 := ⟨gX8_tip_X8_dayRefusal, ⟨_, rfl⟩, rfl, by decide +kernel, by decide +kernel, by decide +kernel⟩
set_option maxRecDepth 20000 in
theorem ggX8_tip_X7_of : GoodIn wsX8_tip wsX7_of := goodIn_r _ [31, 32, 101] (by decide +kernel) (by decide +kernel)
set_option maxRecDepth 20000 in
theorem gX8_tip_X7_of : GoodIn wsX8_tip (wsV RX8 172 RX7 yX7_of wsX7_of) := goodIn_app (goodIn_of _ (by decide +kernel)) ggX8_tip_X7_of
theorem wX8_tip_172 : CWV mX8_tip 172 mX7_of 1 := ⟨gX8_tip_X7_of, ⟨_, rfl⟩, rfl, by decide +kernel, by decide +kernel, by decide +kernel⟩
set_option maxRecDepth 20000 in
theorem ggX8_tip_X0_lay : GoodIn wsX8_tip wsX0_lay := goodIn_r _ [37, 38, 39, 40, 41, 42, 43, 44, 45, 12, 46, 22, 23, 24, 25, 26, 47, 48, 49, 36, 50, 102, 103, 104, 105, 106, 100] (by decide +kernel) (by decide +kernel)
set_option maxRecDepth 20000 in
theorem gX8_tip_X0_lay : GoodIn wsX8_tip (wsV RX8 175 RX0 yX0_lay wsX0_lay) := goodIn_app (goodIn_of _ (by decide +kernel)) ggX8_tip_X0_lay
theorem wX8_tip_175 : CWV mX8_tip 175 mX0_lay 3 := ⟨gX8_tip_X0_lay, ⟨_, rfl⟩, rfl, by decide +kernel, by decide +kernel, by decide +kernel⟩
set_option maxRecDepth 20000 in
theorem ggX8_tip_X0_leastThatEndsInAll : GoodIn wsX8_tip wsX0_leastThatEndsInAll := goodIn_r _ [54, 38, 55, 56, 57, 36, 58, 59, 60, 61, 62, 63, 64, 65, 66, 67, 68, 69, 70, 41, 39, 71, 72, 73, 74, 75, 76, 77, 78, 42, 79, 80, 81, 82, 83, 84, 85, 86, 102, 103, 104, 105, 106] (by decide +kernel) (by decide +kernel)
set_option maxRecDepth 20000 in
theorem gX8_tip_X0_leastThatEndsInAll : GoodIn wsX8_tip (wsV RX8 203 RX0 yX0_leastThatEndsInAll wsX0_leastThatEndsInAll) := goodIn_app (goodIn_of _ (by decide +kernel)) ggX8_tip_X0_leastThatEndsInAll
theorem wX8_tip_203 : CWV mX8_tip 203 mX0_leastThatEndsInAll 0 := ⟨gX8_tip_X0_leastThatEndsInAll, ⟨_, rfl⟩, rfl, by decide +kernel, by decide +kernel, by decide +kernel⟩
abbrev mX8_out : mT := (yX8_out, RX8, cX8_out, 4, (some .int), wsX8_out)
abbrev rX8_out : Room := { frames := 5, cells := 0, slots := 0, locals := 111 }
theorem dX8_out_0 : decode cX8_out 0 = .ok (.aload_n 0, 1) := by decide +kernel
theorem dX8_out_1 : decode cX8_out 1 = .ok (.iload_n 1, 1) := by decide +kernel
theorem dX8_out_2 : decode cX8_out 2 = .ok (.iload_n 2, 1) := by decide +kernel
theorem dX8_out_3 : decode cX8_out 3 = .ok (.invokevirtual 167, 3) := by decide +kernel
theorem dX8_out_6 : decode cX8_out 6 = .ok (.istore_n 3, 1) := by decide +kernel
theorem dX8_out_7 : decode cX8_out 7 = .ok (.iload_n 3, 1) := by decide +kernel
theorem dX8_out_8 : decode cX8_out 8 = .ok (.ifCond .eq 5, 3) := by decide +kernel
theorem dX8_out_11 : decode cX8_out 11 = .ok (.iload_n 3, 1) := by decide +kernel
theorem dX8_out_12 : decode cX8_out 12 = .ok (.ireturn, 1) := by decide +kernel
theorem dX8_out_13 : decode cX8_out 13 = .ok (.aload_n 0, 1) := by decide +kernel
theorem dX8_out_14 : decode cX8_out 14 = .ok (.getfield 43, 3) := by decide +kernel
theorem dX8_out_17 : decode cX8_out 17 = .ok (.aload_n 0, 1) := by decide +kernel
theorem dX8_out_18 : decode cX8_out 18 = .ok (.getfield 19, 3) := by decide +kernel
theorem dX8_out_21 : decode cX8_out 21 = .ok (.iload_n 1, 1) := by decide +kernel
theorem dX8_out_22 : decode cX8_out 22 = .ok (.aload_n 0, 1) := by decide +kernel
theorem dX8_out_23 : decode cX8_out 23 = .ok (.getfield 29, 3) := by decide +kernel
theorem dX8_out_26 : decode cX8_out 26 = .ok (.iconst 1, 1) := by decide +kernel
theorem dX8_out_27 : decode cX8_out 27 = .ok (.invokevirtual 172, 3) := by decide +kernel
theorem dX8_out_30 : decode cX8_out 30 = .ok (.invokevirtual 175, 3) := by decide +kernel
theorem dX8_out_33 : decode cX8_out 33 = .ok (.aload_n 0, 1) := by decide +kernel
theorem dX8_out_34 : decode cX8_out 34 = .ok (.getfield 43, 3) := by decide +kernel
theorem dX8_out_37 : decode cX8_out 37 = .ok (.iload_n 2, 1) := by decide +kernel
theorem dX8_out_38 : decode cX8_out 38 = .ok (.invokevirtual 206, 3) := by decide +kernel
theorem dX8_out_41 : decode cX8_out 41 = .ok (.ireturn, 1) := by decide +kernel
theorem iX8_out_8 : ∀ w ∈ wsX80, w ∈ wsX8_out := fun w h => List.mem_cons_of_mem _ (List.mem_append_left _ (List.mem_append_left _ (List.mem_append_left _ (List.mem_append_right _ h))))
theorem fX8_out_19 : FL mX8_out 19 8 1 := ⟨_, _, _, rfl, by decide, iX8_out_8, by decide +kernel⟩
theorem fX8_out_29 : FL mX8_out 29 8 3 := ⟨_, _, _, rfl, by decide, iX8_out_8, by decide +kernel⟩
theorem fX8_out_43 : FL mX8_out 43 8 5 := ⟨_, _, _, rfl, by decide, iX8_out_8, by decide +kernel⟩
set_option maxRecDepth 20000 in
theorem ggX8_out_X8_dayRefusal : GoodIn wsX8_out wsX8_dayRefusal := goodIn_r _ [8, 2, 9, 10, 11, 12, 13, 14, 15, 16, 17, 18, 19, 20, 21, 22, 23, 24, 25, 26, 64, 65, 66, 67, 68, 69, 70, 71, 72, 73, 74, 75, 76, 77] (by decide +kernel) (by decide +kernel)
set_option maxRecDepth 20000 in
theorem gX8_out_X8_dayRefusal : GoodIn wsX8_out (wsV RX8 167 RX8 yX8_dayRefusal wsX8_dayRefusal) := goodIn_app (goodIn_of _ (by decide +kernel)) ggX8_out_X8_dayRefusal
theorem wX8_out_167 : CWV mX8_out 167 mX8_dayRefusal 2 := ⟨gX8_out_X8_dayRefusal, ⟨_, rfl⟩, rfl, by decide +kernel, by decide +kernel, by decide +kernel⟩
set_option maxRecDepth 20000 in
theorem ggX8_out_X7_of : GoodIn wsX8_out wsX7_of := goodIn_r _ [31, 32, 78] (by decide +kernel) (by decide +kernel)
set_option maxRecDepth 20000 in
theorem gX8_out_X7_of : GoodIn wsX8_out (wsV RX8 172 RX7 yX7_of wsX7_of) := goodIn_app (goodIn_of _ (by decide +kernel)) ggX8_out_X7_of
theorem wX8_out_172 : CWV mX8_out 172 mX7_of 1 := ⟨gX8_out_X7_of, ⟨_, rfl⟩, rfl, by decide +kernel, by decide +kernel, by decide +kernel⟩
set_option maxRecDepth 20000 in
theorem ggX8_out_X0_lay : GoodIn wsX8_out wsX0_lay := goodIn_r _ [37, 38, 39, 40, 41, 42, 43, 44, 45, 12, 46, 22, 23, 24, 25, 26, 47, 48, 49, 36, 50, 79, 80, 81, 82, 83, 77] (by decide +kernel) (by decide +kernel)
set_option maxRecDepth 20000 in
theorem gX8_out_X0_lay : GoodIn wsX8_out (wsV RX8 175 RX0 yX0_lay wsX0_lay) := goodIn_app (goodIn_of _ (by decide +kernel)) ggX8_out_X0_lay
theorem wX8_out_175 : CWV mX8_out 175 mX0_lay 3 := ⟨gX8_out_X0_lay, ⟨_, rfl⟩, rfl, by decide +kernel, by decide +kernel, by decide +kernel⟩
set_option maxRecDepth 20000 in
theorem ggX8_out_X0_weightsLeftOut : GoodIn wsX8_out wsX0_weightsLeftOut := goodIn_r _ [54, 38, 55, 56, 57, 58, 36, 59, 40, 60, 61, 62, 63, 79, 80, 81, 82, 83] (by decide +kernel) (by decide +kernel)
set_option maxRecDepth 20000 in
theorem gX8_out_X0_weightsLeftOut : GoodIn wsX8_out (wsV RX8 206 RX0 yX0_weightsLeftOut wsX0_weightsLeftOut) := goodIn_app (goodIn_of _ (by decide +kernel)) ggX8_out_X0_weightsLeftOut
theorem wX8_out_206 : CWV mX8_out 206 mX0_weightsLeftOut 1 := ⟨gX8_out_X0_weightsLeftOut, ⟨_, rfl⟩, rfl, by decide +kernel, by decide +kernel, by decide +kernel⟩
abbrev mX8_clip : mT := (yX8_clip, RX8, cX8_clip, 3, (some .long), wsX8_clip)
abbrev rX8_clip : Room := { frames := 4, cells := 0, slots := 0, locals := 96 }
theorem dX8_clip_0 : decode cX8_clip 0 = .ok (.iload_n 1, 1) := by decide +kernel
theorem dX8_clip_1 : decode cX8_clip 1 = .ok (.invokestatic 132, 3) := by decide +kernel
theorem dX8_clip_4 : decode cX8_clip 4 = .ok (.ifCond .ne 7, 3) := by decide +kernel
theorem dX8_clip_7 : decode cX8_clip 7 = .ok (.ldc2_w 170, 3) := by decide +kernel
theorem dX8_clip_10 : decode cX8_clip 10 = .ok (.lreturn, 1) := by decide +kernel
theorem dX8_clip_11 : decode cX8_clip 11 = .ok (.iload_n 2, 1) := by decide +kernel
theorem dX8_clip_12 : decode cX8_clip 12 = .ok (.iconst 2, 1) := by decide +kernel
theorem dX8_clip_13 : decode cX8_clip 13 = .ok (.if_icmp .ne 10, 3) := by decide +kernel
theorem dX8_clip_16 : decode cX8_clip 16 = .ok (.aload_n 0, 1) := by decide +kernel
theorem dX8_clip_17 : decode cX8_clip 17 = .ok (.iload_n 1, 1) := by decide +kernel
theorem dX8_clip_18 : decode cX8_clip 18 = .ok (.invokevirtual 209, 3) := by decide +kernel
theorem dX8_clip_21 : decode cX8_clip 21 = .ok (.i2l, 1) := by decide +kernel
theorem dX8_clip_22 : decode cX8_clip 22 = .ok (.lreturn, 1) := by decide +kernel
theorem dX8_clip_23 : decode cX8_clip 23 = .ok (.iload_n 2, 1) := by decide +kernel
theorem dX8_clip_24 : decode cX8_clip 24 = .ok (.invokestatic 164, 3) := by decide +kernel
theorem dX8_clip_27 : decode cX8_clip 27 = .ok (.ifCond .eq 19, 3) := by decide +kernel
theorem dX8_clip_30 : decode cX8_clip 30 = .ok (.aload_n 0, 1) := by decide +kernel
theorem dX8_clip_31 : decode cX8_clip 31 = .ok (.iload_n 1, 1) := by decide +kernel
theorem dX8_clip_32 : decode cX8_clip 32 = .ok (.invokevirtual 212, 3) := by decide +kernel
theorem dX8_clip_35 : decode cX8_clip 35 = .ok (.iload_n 1, 1) := by decide +kernel
theorem dX8_clip_36 : decode cX8_clip 36 = .ok (.invokestatic 215, 3) := by decide +kernel
theorem dX8_clip_39 : decode cX8_clip 39 = .ok (.iload_n 2, 1) := by decide +kernel
theorem dX8_clip_40 : decode cX8_clip 40 = .ok (.invokestatic 186, 3) := by decide +kernel
theorem dX8_clip_43 : decode cX8_clip 43 = .ok (.goto 6, 3) := by decide +kernel
theorem dX8_clip_46 : decode cX8_clip 46 = .ok (.ldc2_w 170, 3) := by decide +kernel
theorem dX8_clip_49 : decode cX8_clip 49 = .ok (.lreturn, 1) := by decide +kernel
set_option maxRecDepth 20000 in
theorem ggX8_clip_X8_isWeight : GoodIn wsX8_clip wsX8_isWeight := goodIn_r _ [5] (by decide +kernel) (by decide +kernel)
set_option maxRecDepth 20000 in
theorem gX8_clip_X8_isWeight : GoodIn wsX8_clip (va_wsS RX8 132 yX8_isWeight wsX8_isWeight) := goodIn_app (goodIn_of _ (by decide +kernel)) ggX8_clip_X8_isWeight
theorem wX8_clip_132 : CWS mX8_clip 132 mX8_isWeight 1 := ⟨gX8_clip_X8_isWeight, ⟨_, rfl⟩, by decide +kernel, by decide +kernel, by decide +kernel⟩
set_option maxRecDepth 20000 in
theorem ggX8_clip_X8_isUpperOrLower : GoodIn wsX8_clip wsX8_isUpperOrLower := goodIn_r _ [39] (by decide +kernel) (by decide +kernel)
set_option maxRecDepth 20000 in
theorem gX8_clip_X8_isUpperOrLower : GoodIn wsX8_clip (va_wsS RX8 164 yX8_isUpperOrLower wsX8_isUpperOrLower) := goodIn_app (goodIn_of _ (by decide +kernel)) ggX8_clip_X8_isUpperOrLower
theorem wX8_clip_164 : CWS mX8_clip 164 mX8_isUpperOrLower 1 := ⟨gX8_clip_X8_isUpperOrLower, ⟨_, rfl⟩, by decide +kernel, by decide +kernel, by decide +kernel⟩
set_option maxRecDepth 20000 in
theorem ggX8_clip_X8_leastTerms : GoodIn wsX8_clip wsX8_leastTerms := goodIn_r _ [42, 43, 44, 16, 45, 1, 46, 47, 4, 48] (by decide +kernel) (by decide +kernel)
set_option maxRecDepth 20000 in
theorem gX8_clip_X8_leastTerms : GoodIn wsX8_clip (va_wsS RX8 186 yX8_leastTerms wsX8_leastTerms) := goodIn_app (goodIn_of _ (by decide +kernel)) ggX8_clip_X8_leastTerms
theorem wX8_clip_186 : CWS mX8_clip 186 mX8_leastTerms 3 := ⟨gX8_clip_X8_leastTerms, ⟨_, rfl⟩, by decide +kernel, by decide +kernel, by decide +kernel⟩
set_option maxRecDepth 20000 in
theorem ggX8_clip_X8_clippedUntil : GoodIn wsX8_clip wsX8_clippedUntil := goodIn_r _ [9, 10, 11, 12, 4, 13, 14, 15, 16, 17, 18, 19, 20, 21, 22, 23, 24, 25, 26, 27, 28, 29, 30, 31, 32, 33, 34, 35, 36, 49, 50, 51, 52, 53, 54, 55, 56, 57, 58, 59, 60, 61, 62] (by decide +kernel) (by decide +kernel)
set_option maxRecDepth 20000 in
theorem gX8_clip_X8_clippedUntil : GoodIn wsX8_clip (wsV RX8 209 RX8 yX8_clippedUntil wsX8_clippedUntil) := goodIn_app (goodIn_of _ (by decide +kernel)) ggX8_clip_X8_clippedUntil
theorem wX8_clip_209 : CWV mX8_clip 209 mX8_clippedUntil 1 := ⟨gX8_clip_X8_clippedUntil, ⟨_, rfl⟩, rfl, by decide +kernel, by decide +kernel, by decide +kernel⟩
set_option maxRecDepth 20000 in
theorem ggX8_clip_X8_worthScaled : GoodIn wsX8_clip wsX8_worthScaled := goodIn_r _ [13, 14, 15, 16, 17, 18, 19, 20, 4, 21, 22, 23, 24, 25, 26, 27, 28, 29, 30, 31, 32, 33, 34, 35, 36, 49, 50, 51, 52, 53, 54, 55, 56, 57, 58, 59, 60, 61, 62] (by decide +kernel) (by decide +kernel)
set_option maxRecDepth 20000 in
theorem gX8_clip_X8_worthScaled : GoodIn wsX8_clip (wsV RX8 212 RX8 yX8_worthScaled wsX8_worthScaled) := goodIn_app (goodIn_of _ (by decide +kernel)) ggX8_clip_X8_worthScaled
theorem wX8_clip_212 : CWV mX8_clip 212 mX8_worthScaled 1 := ⟨gX8_clip_X8_worthScaled, ⟨_, rfl⟩, rfl, by decide +kernel, by decide +kernel, by decide +kernel⟩
set_option maxRecDepth 20000 in
theorem ggX8_clip_X8_worthScale : GoodIn wsX8_clip wsX8_worthScale := goodIn_r _ [31, 32] (by decide +kernel) (by decide +kernel)
set_option maxRecDepth 20000 in
theorem gX8_clip_X8_worthScale : GoodIn wsX8_clip (va_wsS RX8 215 yX8_worthScale wsX8_worthScale) := goodIn_app (goodIn_of _ (by decide +kernel)) ggX8_clip_X8_worthScale
theorem wX8_clip_215 : CWS mX8_clip 215 mX8_worthScale 1 := ⟨gX8_clip_X8_worthScale, ⟨_, rfl⟩, by decide +kernel, by decide +kernel, by decide +kernel⟩
theorem dyR_ok {all : Int32} {n k : Nat} (h1 : 1 ≤ n) (h2 : n ≤ 30) (h3 : k ≤ n) (h4 : nI n ≤ all) : dyR all (nI n) (nI k) = 0 := by
  unfold dyR
  rw [if_neg, if_pos h4]
  rintro (z | z | z | z)
  · exact nI_nlt (b := 1) h1 (by omega) z
  · exact nI_nlt (a := 30) h2 (by omega) z
  · exact nI_pos (by omega) z
  · exact nI_nlt h3 (by omega) z
section
variable {Γ : gT} {l : Launch} {as : List Nat} {h : aH} {X T P S U M D L I tw dr : Nat} {lot yr : Int32} {tc : Int64} {aw ax ay ao n k pr ur da db dc : Nat} {f u fw hv lt : Nat → Int32} {d3 d4 L1 : Int32} {W : Nat → Nat}
/-- what the day's cells hold behind lay -/
abbrev hvL (W : Nat → Nat) (n : Nat) (hv : Nat → Int32) : Nat → Int32 := gArr W wUp (min n (cB W wUp 10)) hv
abbrev ltL (W : Nat → Nat) (n : Nat) (lt : Nat → Int32) : Nat → Int32 := gArr W wDn (min n (cB W wDn 10)) lt
theorem layH_q {q a b c : Nat} (hq : q ∈ as) (h1 : q ≠ a) (h2 : q ≠ b) (h3 : q ≠ c) : hat as (layH Γ q a b c n L1 f fw hv lt W h) q (ob 0 [.ref a, .ref b, .ref c, .int (nI n), .int L1]) := ⟨hq, by unfold layH; rw [hset_ne h3, hset_ne h2, hset_ne h1, hset_eq]⟩
theorem layH_a {q a b c : Nat} (hq : a ∈ as) (h2 : a ≠ b) (h3 : a ≠ c) : hat as (layH Γ q a b c n L1 f fw hv lt W h) a (aI Γ 10 (fillF (pWt f) fw 10)) := ⟨hq, by unfold layH; rw [hset_ne h3, hset_ne h2, hset_eq]⟩
theorem layH_b {q a b c : Nat} (hq : b ∈ as) (h3 : b ≠ c) : hat as (layH Γ q a b c n L1 f fw hv lt W h) b (aI Γ 31 (hvL W n hv)) := ⟨hq, by unfold layH; rw [hset_ne h3, hset_eq]⟩
theorem layH_c {q a b c : Nat} (hq : c ∈ as) : hat as (layH Γ q a b c n L1 f fw hv lt W h) c (aI Γ 31 (ltL W n lt)) := ⟨hq, by unfold layH; rw [hset_eq]⟩
theorem layH_o {q a b c j : Nat} {e : va_E} (hj : hat as h j e) (h0 : j ≠ q) (h1 : j ≠ a) (h2 : j ≠ b) (h3 : j ≠ c) : hat as (layH Γ q a b c n L1 f fw hv lt W h) j e := ⟨hj.1, by unfold layH; rw [hset_ne h3, hset_ne h2, hset_ne h1, hset_ne h0]; exact hj.2⟩
theorem c_rests_no {p : Int32} (hr : ¬ dyR (pAll f) p 0 = 0) (hX : hat as h X (xo T P S U M D L I tw dr lot yr tc)) (hP : hat as h P (ob 4 [.ref pr])) (hpr : hat as h pr (aI Γ 80 f)) : Det Γ l mX8_rests rX8_rests [.ref X, .int p] as h (some (.int (dyR (pAll f) p 0))) h := by
  refine Con.of (by decide +kernel) rfl rfl (Nat.le_of_ble_eq_true rfl) ?_
  refine q_aload_n dX8_rests_0 rfl rfl ?_
  refine q_iload_n dX8_rests_1 rfl rfl ?_
  refine q_iconst (v := 0) dX8_rests_2 rfl ?_
  refine q_callVd dX8_rests_3 wX8_rests_167 (c_dayRefusal hX hP hpr) (hX) ⟨_, _, rfl⟩ rfl rfl (Nat.le_of_ble_eq_true rfl) ⟨⟨Nat.le_of_ble_eq_true rfl, Nat.le_of_ble_eq_true rfl⟩, Nat.le_of_ble_eq_true rfl, Nat.le_of_ble_eq_true rfl⟩ ?_
  refine q_istore_n dX8_rests_6 rfl (by decide) ?_
  refine q_iload_n dX8_rests_7 rfl rfl ?_
  refine q_if_eq 13 dX8_rests_8 (by decide) (fun z => absurd z (hr)) (fun _ => ?_)
  refine q_iload_n dX8_rests_11 rfl rfl ?_
  exact q_iret dX8_rests_12 rfl (Nat.zero_le _) (Nat.zero_le _) (⟨rfl, rfl, rfl⟩)
theorem c_goes_no {p q : Int32} (hr : ¬ dyR (pAll f) p q = 0) (hX : hat as h X (xo T P S U M D L I tw dr lot yr tc)) (hP : hat as h P (ob 4 [.ref pr])) (hpr : hat as h pr (aI Γ 80 f)) : Det Γ l mX8_goes rX8_goes [.ref X, .int p, .int q] as h (some (.int (dyR (pAll f) p q))) h := by
  refine Con.of (by decide +kernel) rfl rfl (Nat.le_of_ble_eq_true rfl) ?_
  refine q_aload_n dX8_goes_0 rfl rfl ?_
  refine q_iload_n dX8_goes_1 rfl rfl ?_
  refine q_iload_n dX8_goes_2 rfl rfl ?_
  refine q_callVd dX8_goes_3 wX8_goes_167 (c_dayRefusal hX hP hpr) (hX) ⟨_, _, rfl⟩ rfl rfl (Nat.le_of_ble_eq_true rfl) ⟨⟨Nat.le_of_ble_eq_true rfl, Nat.le_of_ble_eq_true rfl⟩, Nat.le_of_ble_eq_true rfl, Nat.le_of_ble_eq_true rfl⟩ ?_
  refine q_istore_n dX8_goes_6 rfl (by decide) ?_
  refine q_iload_n dX8_goes_7 rfl rfl ?_
  refine q_if_eq 13 dX8_goes_8 (by decide) (fun z => absurd z (hr)) (fun _ => ?_)
  refine q_iload_n dX8_goes_11 rfl rfl ?_
  exact q_iret dX8_goes_12 rfl (Nat.zero_le _) (Nat.zero_le _) (⟨rfl, rfl, rfl⟩)
theorem c_tip_no {p : Int32} (hr : ¬ dyR (pAll f) p 0 = 0) (hX : hat as h X (xo T P S U M D L I tw dr lot yr tc)) (hP : hat as h P (ob 4 [.ref pr])) (hpr : hat as h pr (aI Γ 80 f)) : Det Γ l mX8_tip rX8_tip [.ref X, .int p] as h (some (.int (dyR (pAll f) p 0))) h := by
  refine Con.of (by decide +kernel) rfl rfl (Nat.le_of_ble_eq_true rfl) ?_
  refine q_aload_n dX8_tip_0 rfl rfl ?_
  refine q_iload_n dX8_tip_1 rfl rfl ?_
  refine q_iconst (v := 0) dX8_tip_2 rfl ?_
  refine q_callVd dX8_tip_3 wX8_tip_167 (c_dayRefusal hX hP hpr) (hX) ⟨_, _, rfl⟩ rfl rfl (Nat.le_of_ble_eq_true rfl) ⟨⟨Nat.le_of_ble_eq_true rfl, Nat.le_of_ble_eq_true rfl⟩, Nat.le_of_ble_eq_true rfl, Nat.le_of_ble_eq_true rfl⟩ ?_
  refine q_istore_n dX8_tip_6 rfl (by decide) ?_
  refine q_iload_n dX8_tip_7 rfl rfl ?_
  refine q_if_eq 13 dX8_tip_8 (by decide) (fun z => absurd z (hr)) (fun _ => ?_)
  refine q_iload_n dX8_tip_11 rfl rfl ?_
  exact q_iret dX8_tip_12 rfl (Nat.zero_le _) (Nat.zero_le _) (⟨rfl, rfl, rfl⟩)
theorem c_out_no {p q : Int32} (hr : ¬ dyR (pAll f) p q = 0) (hX : hat as h X (xo T P S U M D L I tw dr lot yr tc)) (hP : hat as h P (ob 4 [.ref pr])) (hpr : hat as h pr (aI Γ 80 f)) : Det Γ l mX8_out rX8_out [.ref X, .int p, .int q] as h (some (.int (dyR (pAll f) p q))) h := by
  refine Con.of (by decide +kernel) rfl rfl (Nat.le_of_ble_eq_true rfl) ?_
  refine q_aload_n dX8_out_0 rfl rfl ?_
  refine q_iload_n dX8_out_1 rfl rfl ?_
  refine q_iload_n dX8_out_2 rfl rfl ?_
  refine q_callVd dX8_out_3 wX8_out_167 (c_dayRefusal hX hP hpr) (hX) ⟨_, _, rfl⟩ rfl rfl (Nat.le_of_ble_eq_true rfl) ⟨⟨Nat.le_of_ble_eq_true rfl, Nat.le_of_ble_eq_true rfl⟩, Nat.le_of_ble_eq_true rfl, Nat.le_of_ble_eq_true rfl⟩ ?_
  refine q_istore_n dX8_out_6 rfl (by decide) ?_
  refine q_iload_n dX8_out_7 rfl rfl ?_
  refine q_if_eq 13 dX8_out_8 (by decide) (fun z => absurd z (hr)) (fun _ => ?_)
  refine q_iload_n dX8_out_11 rfl rfl ?_
  exact q_iret dX8_out_12 rfl (Nat.zero_le _) (Nat.zero_le _) (⟨rfl, rfl, rfl⟩)
theorem c_gain_no {p q a b : Int32} (hr : a < 0 ∨ 1 < a ∨ isUL b = false ∨ ¬ dyR (pAll f) p q = 0) (hX : hat as h X (xo T P S U M D L I tw dr lot yr tc)) (hP : hat as h P (ob 4 [.ref pr])) (hpr : hat as h pr (aI Γ 80 f)) : Det Γ l mX8_gain rX8_gain [.ref X, .int p, .int q, .int a, .int b] as h (some (.long (-1000000000000000000))) h := by
  refine Con.of (by decide +kernel) rfl rfl (Nat.le_of_ble_eq_true rfl) ?_
  refine q_iload_n dX8_gain_0 rfl rfl ?_
  refine q_if_lt 26 dX8_gain_1 (by decide) (fun cA => ?_) (fun cA => ?_)
  · refine q_ldc2 (v := (-1000000000000000000)) dX8_gain_26 (by decide +kernel) ?_
    exact q_lret dX8_gain_29 rfl (Nat.zero_le _) (Nat.zero_le _) (⟨rfl, rfl, rfl⟩)
  · refine q_iload_n dX8_gain_4 rfl rfl ?_
    refine q_iconst (v := 1) dX8_gain_5 rfl ?_
    refine q_icmp_gt 26 dX8_gain_6 (by decide) (fun cB => ?_) (fun cB => ?_)
    · refine q_ldc2 (v := (-1000000000000000000)) dX8_gain_26 (by decide +kernel) ?_
      exact q_lret dX8_gain_29 rfl (Nat.zero_le _) (Nat.zero_le _) (⟨rfl, rfl, rfl⟩)
    · refine q_iload dX8_gain_9 rfl ?_
      refine q_callSd dX8_gain_11 wX8_gain_164 (c_isUL) rfl rfl (Nat.le_of_ble_eq_true rfl) ⟨⟨Nat.le_of_ble_eq_true rfl, Nat.le_of_ble_eq_true rfl⟩, Nat.le_of_ble_eq_true rfl, Nat.le_of_ble_eq_true rfl⟩ ?_
      refine q_if_eq 26 dX8_gain_14 (by decide) (fun cC => ?_) (fun cC => ?_)
      · refine q_ldc2 (v := (-1000000000000000000)) dX8_gain_26 (by decide +kernel) ?_
        exact q_lret dX8_gain_29 rfl (Nat.zero_le _) (Nat.zero_le _) (⟨rfl, rfl, rfl⟩)
      · refine q_aload_n dX8_gain_17 rfl rfl ?_
        refine q_iload_n dX8_gain_18 rfl rfl ?_
        refine q_iload_n dX8_gain_19 rfl rfl ?_
        refine q_callVd dX8_gain_20 wX8_gain_167 (c_dayRefusal hX hP hpr) (hX) ⟨_, _, rfl⟩ rfl rfl (Nat.le_of_ble_eq_true rfl) ⟨⟨Nat.le_of_ble_eq_true rfl, Nat.le_of_ble_eq_true rfl⟩, Nat.le_of_ble_eq_true rfl, Nat.le_of_ble_eq_true rfl⟩ ?_
        refine q_if_eq 30 dX8_gain_23 (by decide) (fun cD => ?_) (fun cD => ?_)
        · exact absurd hr (by rintro (z | z | z | z) <;> first | exact cA z | exact cB z | exact cC (by rw [z]; rfl) | exact z cD)
        · refine q_ldc2 (v := (-1000000000000000000)) dX8_gain_26 (by decide +kernel) ?_
          exact q_lret dX8_gain_29 rfl (Nat.zero_le _) (Nat.zero_le _) (⟨rfl, rfl, rfl⟩)
theorem c_rests (hX : hat as h X (xo T P S U M D L I tw dr lot yr tc)) (hP : hat as h P (ob 4 [.ref pr])) (hpr : hat as h pr (aI Γ 80 f)) (hU : hat as h U (ob 7 [.ref ur])) (hur : hat as h ur (aI Γ 6 u)) (hD : hat as h D (ob 0 [.ref da, .ref db, .ref dc, .int d3, .int d4])) (hda : hat as h da (aI Γ 10 fw)) (hdb : hat as h db (aI Γ 31 hv)) (hdc : hat as h dc (aI Γ 31 lt)) (hbc : db ≠ dc) (hW : ∀ j, j < 10 → pWt f j = nI (W j) ∧ W j < 1000) (h1 : 1 ≤ n) (h2 : n ≤ 30) (h4 : nI n ≤ pAll f) : Det Γ l mX8_rests rX8_rests [.ref X, .int (nI n)] as h (some (.int (rsS (dUp (hvL W n hv) (ltL W n lt) n (u 1)) (dDn (hvL W n hv) (ltL W n lt) n (u 1)) (n + 1)))) (layH Γ D da db dc n (u 1) f fw hv lt W h) := by
  have e1 := hat_oa hD hda
  have e2 := hat_oa hD hdb
  have e3 := hat_oa hD hdc
  have fX := layH_o (Γ := Γ) (n := n) (L1 := u 1) (f := f) (fw := fw) (hv := hv) (lt := lt) (W := W) hX (hat_oo hX hD (by decide)) (hat_oa hX hda) (hat_oa hX hdb) (hat_oa hX hdc)
  refine Con.of (by decide +kernel) rfl rfl (Nat.le_of_ble_eq_true rfl) ?_
  refine q_aload_n dX8_rests_0 rfl rfl ?_
  refine q_iload_n dX8_rests_1 rfl rfl ?_
  refine q_iconst (v := 0) dX8_rests_2 rfl ?_
  refine q_callVd dX8_rests_3 wX8_rests_167 (c_dayRefusal hX hP hpr) (hX) ⟨_, _, rfl⟩ rfl rfl (Nat.le_of_ble_eq_true rfl) ⟨⟨Nat.le_of_ble_eq_true rfl, Nat.le_of_ble_eq_true rfl⟩, Nat.le_of_ble_eq_true rfl, Nat.le_of_ble_eq_true rfl⟩ ?_
  refine q_istore_n dX8_rests_6 rfl (by decide) ?_
  refine q_iload_n dX8_rests_7 rfl rfl ?_
  rw [show dyR (pAll f) (nI n) 0 = 0 from dyR_ok (k := 0) h1 h2 (by omega) h4]
  refine q_if_eq 13 dX8_rests_8 (by decide) (fun _ => ?_) (fun z => absurd (rfl) z)
  refine q_aload_n dX8_rests_13 rfl rfl ?_
  refine q_get dX8_rests_14 fX8_rests_43 (hX) rfl ?_
  refine q_aload_n dX8_rests_17 rfl rfl ?_
  refine q_get dX8_rests_18 fX8_rests_19 (hX) rfl ?_
  refine q_iload_n dX8_rests_21 rfl rfl ?_
  refine q_aload_n dX8_rests_22 rfl rfl ?_
  refine q_get dX8_rests_23 fX8_rests_29 (hX) rfl ?_
  refine q_iconst (v := 1) dX8_rests_26 rfl ?_
  refine q_callVd dX8_rests_27 wX8_rests_172 (c_of (j := 1) hU hur (by omega)) (hU) ⟨_, _, rfl⟩ rfl rfl (Nat.le_of_ble_eq_true rfl) ⟨⟨Nat.le_of_ble_eq_true rfl, Nat.le_of_ble_eq_true rfl⟩, Nat.le_of_ble_eq_true rfl, Nat.le_of_ble_eq_true rfl⟩ ?_
  refine q_callVd dX8_rests_30 wX8_rests_175 (c_lay (W := W) hD hda hdb hdc hbc hP hpr h2 hW) (hD) ⟨_, _, rfl⟩ rfl rfl (Nat.le_of_ble_eq_true rfl) ⟨⟨Nat.le_of_ble_eq_true rfl, Nat.le_of_ble_eq_true rfl⟩, Nat.le_of_ble_eq_true rfl, Nat.le_of_ble_eq_true rfl⟩ ?_
  refine q_aload_n dX8_rests_33 rfl rfl ?_
  refine q_get dX8_rests_34 fX8_rests_43 (fX) rfl ?_
  refine q_callVd dX8_rests_37 wX8_rests_196 (c_allThatRest (layH_q hD.1 e1 e2 e3) (layH_b hdb.1 hbc) (layH_c hdc.1) h2) (layH_q hD.1 e1 e2 e3) ⟨_, _, rfl⟩ rfl rfl (Nat.le_of_ble_eq_true rfl) ⟨⟨Nat.le_of_ble_eq_true rfl, Nat.le_of_ble_eq_true rfl⟩, Nat.le_of_ble_eq_true rfl, Nat.le_of_ble_eq_true rfl⟩ ?_
  exact q_iret dX8_rests_40 rfl (Nat.zero_le _) (Nat.zero_le _) (⟨rfl, rfl, rfl⟩)
theorem c_goes (hX : hat as h X (xo T P S U M D L I tw dr lot yr tc)) (hP : hat as h P (ob 4 [.ref pr])) (hpr : hat as h pr (aI Γ 80 f)) (hU : hat as h U (ob 7 [.ref ur])) (hur : hat as h ur (aI Γ 6 u)) (hD : hat as h D (ob 0 [.ref da, .ref db, .ref dc, .int d3, .int d4])) (hda : hat as h da (aI Γ 10 fw)) (hdb : hat as h db (aI Γ 31 hv)) (hdc : hat as h dc (aI Γ 31 lt)) (hbc : db ≠ dc) (hW : ∀ j, j < 10 → pWt f j = nI (W j) ∧ W j < 1000) (h1 : 1 ≤ n) (h2 : n ≤ 30) (h4 : nI n ≤ pAll f) (hk : k ≤ n) : Det Γ l mX8_goes rX8_goes [.ref X, .int (nI n), .int (nI k)] as h (some (.int (nI (enS (dUp (hvL W n hv) (ltL W n lt) n (u 1)) (dDn (hvL W n hv) (ltL W n lt) n (u 1)) n k)))) (layH Γ D da db dc n (u 1) f fw hv lt W h) := by
  have e1 := hat_oa hD hda
  have e2 := hat_oa hD hdb
  have e3 := hat_oa hD hdc
  have fX := layH_o (Γ := Γ) (n := n) (L1 := u 1) (f := f) (fw := fw) (hv := hv) (lt := lt) (W := W) hX (hat_oo hX hD (by decide)) (hat_oa hX hda) (hat_oa hX hdb) (hat_oa hX hdc)
  refine Con.of (by decide +kernel) rfl rfl (Nat.le_of_ble_eq_true rfl) ?_
  refine q_aload_n dX8_goes_0 rfl rfl ?_
  refine q_iload_n dX8_goes_1 rfl rfl ?_
  refine q_iload_n dX8_goes_2 rfl rfl ?_
  refine q_callVd dX8_goes_3 wX8_goes_167 (c_dayRefusal hX hP hpr) (hX) ⟨_, _, rfl⟩ rfl rfl (Nat.le_of_ble_eq_true rfl) ⟨⟨Nat.le_of_ble_eq_true rfl, Nat.le_of_ble_eq_true rfl⟩, Nat.le_of_ble_eq_true rfl, Nat.le_of_ble_eq_true rfl⟩ ?_
  refine q_istore_n dX8_goes_6 rfl (by decide) ?_
  refine q_iload_n dX8_goes_7 rfl rfl ?_
  rw [dyR_ok h1 h2 hk h4]
  refine q_if_eq 13 dX8_goes_8 (by decide) (fun _ => ?_) (fun z => absurd (rfl) z)
  refine q_aload_n dX8_goes_13 rfl rfl ?_
  refine q_get dX8_goes_14 fX8_goes_43 (hX) rfl ?_
  refine q_aload_n dX8_goes_17 rfl rfl ?_
  refine q_get dX8_goes_18 fX8_goes_19 (hX) rfl ?_
  refine q_iload_n dX8_goes_21 rfl rfl ?_
  refine q_aload_n dX8_goes_22 rfl rfl ?_
  refine q_get dX8_goes_23 fX8_goes_29 (hX) rfl ?_
  refine q_iconst (v := 1) dX8_goes_26 rfl ?_
  refine q_callVd dX8_goes_27 wX8_goes_172 (c_of (j := 1) hU hur (by omega)) (hU) ⟨_, _, rfl⟩ rfl rfl (Nat.le_of_ble_eq_true rfl) ⟨⟨Nat.le_of_ble_eq_true rfl, Nat.le_of_ble_eq_true rfl⟩, Nat.le_of_ble_eq_true rfl, Nat.le_of_ble_eq_true rfl⟩ ?_
  refine q_callVd dX8_goes_30 wX8_goes_175 (c_lay (W := W) hD hda hdb hdc hbc hP hpr h2 hW) (hD) ⟨_, _, rfl⟩ rfl rfl (Nat.le_of_ble_eq_true rfl) ⟨⟨Nat.le_of_ble_eq_true rfl, Nat.le_of_ble_eq_true rfl⟩, Nat.le_of_ble_eq_true rfl, Nat.le_of_ble_eq_true rfl⟩ ?_
  refine q_aload_n dX8_goes_33 rfl rfl ?_
  refine q_get dX8_goes_34 fX8_goes_43 (fX) rfl ?_
  refine q_iload_n dX8_goes_37 rfl rfl ?_
  refine q_callVd dX8_goes_38 wX8_goes_200 (c_endFrom (layH_q hD.1 e1 e2 e3) (layH_b hdb.1 hbc) (layH_c hdc.1) h2 hk) (layH_q hD.1 e1 e2 e3) ⟨_, _, rfl⟩ rfl rfl (Nat.le_of_ble_eq_true rfl) ⟨⟨Nat.le_of_ble_eq_true rfl, Nat.le_of_ble_eq_true rfl⟩, Nat.le_of_ble_eq_true rfl, Nat.le_of_ble_eq_true rfl⟩ ?_
  exact q_iret dX8_goes_41 rfl (Nat.zero_le _) (Nat.zero_le _) (⟨rfl, rfl, rfl⟩)
theorem c_tip (hX : hat as h X (xo T P S U M D L I tw dr lot yr tc)) (hP : hat as h P (ob 4 [.ref pr])) (hpr : hat as h pr (aI Γ 80 f)) (hU : hat as h U (ob 7 [.ref ur])) (hur : hat as h ur (aI Γ 6 u)) (hD : hat as h D (ob 0 [.ref da, .ref db, .ref dc, .int d3, .int d4])) (hda : hat as h da (aI Γ 10 fw)) (hdb : hat as h db (aI Γ 31 hv)) (hdc : hat as h dc (aI Γ 31 lt)) (hbc : db ≠ dc) (hW : ∀ j, j < 10 → pWt f j = nI (W j) ∧ W j < 1000) (h1 : 1 ≤ n) (h2 : n ≤ 30) (h4 : nI n ≤ pAll f) : Det Γ l mX8_tip rX8_tip [.ref X, .int (nI n)] as h (some (.int (tiS (dUp (hvL W n hv) (ltL W n lt) n (u 1)) (dDn (hvL W n hv) (ltL W n lt) n (u 1)) n (n + 1) 0))) (layH Γ D da db dc n (u 1) f fw hv lt W h) := by
  have e1 := hat_oa hD hda
  have e2 := hat_oa hD hdb
  have e3 := hat_oa hD hdc
  have fX := layH_o (Γ := Γ) (n := n) (L1 := u 1) (f := f) (fw := fw) (hv := hv) (lt := lt) (W := W) hX (hat_oo hX hD (by decide)) (hat_oa hX hda) (hat_oa hX hdb) (hat_oa hX hdc)
  refine Con.of (by decide +kernel) rfl rfl (Nat.le_of_ble_eq_true rfl) ?_
  refine q_aload_n dX8_tip_0 rfl rfl ?_
  refine q_iload_n dX8_tip_1 rfl rfl ?_
  refine q_iconst (v := 0) dX8_tip_2 rfl ?_
  refine q_callVd dX8_tip_3 wX8_tip_167 (c_dayRefusal hX hP hpr) (hX) ⟨_, _, rfl⟩ rfl rfl (Nat.le_of_ble_eq_true rfl) ⟨⟨Nat.le_of_ble_eq_true rfl, Nat.le_of_ble_eq_true rfl⟩, Nat.le_of_ble_eq_true rfl, Nat.le_of_ble_eq_true rfl⟩ ?_
  refine q_istore_n dX8_tip_6 rfl (by decide) ?_
  refine q_iload_n dX8_tip_7 rfl rfl ?_
  rw [show dyR (pAll f) (nI n) 0 = 0 from dyR_ok (k := 0) h1 h2 (by omega) h4]
  refine q_if_eq 13 dX8_tip_8 (by decide) (fun _ => ?_) (fun z => absurd (rfl) z)
  refine q_aload_n dX8_tip_13 rfl rfl ?_
  refine q_get dX8_tip_14 fX8_tip_43 (hX) rfl ?_
  refine q_aload_n dX8_tip_17 rfl rfl ?_
  refine q_get dX8_tip_18 fX8_tip_19 (hX) rfl ?_
  refine q_iload_n dX8_tip_21 rfl rfl ?_
  refine q_aload_n dX8_tip_22 rfl rfl ?_
  refine q_get dX8_tip_23 fX8_tip_29 (hX) rfl ?_
  refine q_iconst (v := 1) dX8_tip_26 rfl ?_
  refine q_callVd dX8_tip_27 wX8_tip_172 (c_of (j := 1) hU hur (by omega)) (hU) ⟨_, _, rfl⟩ rfl rfl (Nat.le_of_ble_eq_true rfl) ⟨⟨Nat.le_of_ble_eq_true rfl, Nat.le_of_ble_eq_true rfl⟩, Nat.le_of_ble_eq_true rfl, Nat.le_of_ble_eq_true rfl⟩ ?_
  refine q_callVd dX8_tip_30 wX8_tip_175 (c_lay (W := W) hD hda hdb hdc hbc hP hpr h2 hW) (hD) ⟨_, _, rfl⟩ rfl rfl (Nat.le_of_ble_eq_true rfl) ⟨⟨Nat.le_of_ble_eq_true rfl, Nat.le_of_ble_eq_true rfl⟩, Nat.le_of_ble_eq_true rfl, Nat.le_of_ble_eq_true rfl⟩ ?_
  refine q_aload_n dX8_tip_33 rfl rfl ?_
  refine q_get dX8_tip_34 fX8_tip_43 (fX) rfl ?_
  refine q_callVd dX8_tip_37 wX8_tip_203 (c_leastThatEndsInAll (layH_q hD.1 e1 e2 e3) (layH_b hdb.1 hbc) (layH_c hdc.1) h2) (layH_q hD.1 e1 e2 e3) ⟨_, _, rfl⟩ rfl rfl (Nat.le_of_ble_eq_true rfl) ⟨⟨Nat.le_of_ble_eq_true rfl, Nat.le_of_ble_eq_true rfl⟩, Nat.le_of_ble_eq_true rfl, Nat.le_of_ble_eq_true rfl⟩ ?_
  exact q_iret dX8_tip_40 rfl (Nat.zero_le _) (Nat.zero_le _) (⟨rfl, rfl, rfl⟩)
theorem c_out (hX : hat as h X (xo T P S U M D L I tw dr lot yr tc)) (hP : hat as h P (ob 4 [.ref pr])) (hpr : hat as h pr (aI Γ 80 f)) (hU : hat as h U (ob 7 [.ref ur])) (hur : hat as h ur (aI Γ 6 u)) (hD : hat as h D (ob 0 [.ref da, .ref db, .ref dc, .int d3, .int d4])) (hda : hat as h da (aI Γ 10 fw)) (hdb : hat as h db (aI Γ 31 hv)) (hdc : hat as h dc (aI Γ 31 lt)) (hbc : db ≠ dc) (hW : ∀ j, j < 10 → pWt f j = nI (W j) ∧ W j < 1000) (h1 : 1 ≤ n) (h2 : n ≤ 30) (h4 : nI n ≤ pAll f) (hk : k ≤ n) : Det Γ l mX8_out rX8_out [.ref X, .int (nI n), .int (nI k)] as h (some (.int (woB W wUp 2147483647 10 &&& ((woB W wUp k 10 ||| woB W wDn (n - k) 10) ^^^ (-1))))) (layH Γ D da db dc n (u 1) f fw hv lt W h) := by
  have e1 := hat_oa hD hda
  have e2 := hat_oa hD hdb
  have e3 := hat_oa hD hdc
  have fX := layH_o (Γ := Γ) (n := n) (L1 := u 1) (f := f) (fw := fw) (hv := hv) (lt := lt) (W := W) hX (hat_oo hX hD (by decide)) (hat_oa hX hda) (hat_oa hX hdb) (hat_oa hX hdc)
  have hW' : ∀ j, j < 10 → fillF (pWt f) fw 10 j = nI (W j) ∧ W j < 1000 := fun j hj => by
    rw [show fillF (pWt f) fw 10 j = pWt f j from if_pos hj]; exact hW j hj
  refine Con.of (by decide +kernel) rfl rfl (Nat.le_of_ble_eq_true rfl) ?_
  refine q_aload_n dX8_out_0 rfl rfl ?_
  refine q_iload_n dX8_out_1 rfl rfl ?_
  refine q_iload_n dX8_out_2 rfl rfl ?_
  refine q_callVd dX8_out_3 wX8_out_167 (c_dayRefusal hX hP hpr) (hX) ⟨_, _, rfl⟩ rfl rfl (Nat.le_of_ble_eq_true rfl) ⟨⟨Nat.le_of_ble_eq_true rfl, Nat.le_of_ble_eq_true rfl⟩, Nat.le_of_ble_eq_true rfl, Nat.le_of_ble_eq_true rfl⟩ ?_
  refine q_istore_n dX8_out_6 rfl (by decide) ?_
  refine q_iload_n dX8_out_7 rfl rfl ?_
  rw [dyR_ok h1 h2 hk h4]
  refine q_if_eq 13 dX8_out_8 (by decide) (fun _ => ?_) (fun z => absurd (rfl) z)
  refine q_aload_n dX8_out_13 rfl rfl ?_
  refine q_get dX8_out_14 fX8_out_43 (hX) rfl ?_
  refine q_aload_n dX8_out_17 rfl rfl ?_
  refine q_get dX8_out_18 fX8_out_19 (hX) rfl ?_
  refine q_iload_n dX8_out_21 rfl rfl ?_
  refine q_aload_n dX8_out_22 rfl rfl ?_
  refine q_get dX8_out_23 fX8_out_29 (hX) rfl ?_
  refine q_iconst (v := 1) dX8_out_26 rfl ?_
  refine q_callVd dX8_out_27 wX8_out_172 (c_of (j := 1) hU hur (by omega)) (hU) ⟨_, _, rfl⟩ rfl rfl (Nat.le_of_ble_eq_true rfl) ⟨⟨Nat.le_of_ble_eq_true rfl, Nat.le_of_ble_eq_true rfl⟩, Nat.le_of_ble_eq_true rfl, Nat.le_of_ble_eq_true rfl⟩ ?_
  refine q_callVd dX8_out_30 wX8_out_175 (c_lay (W := W) hD hda hdb hdc hbc hP hpr h2 hW) (hD) ⟨_, _, rfl⟩ rfl rfl (Nat.le_of_ble_eq_true rfl) ⟨⟨Nat.le_of_ble_eq_true rfl, Nat.le_of_ble_eq_true rfl⟩, Nat.le_of_ble_eq_true rfl, Nat.le_of_ble_eq_true rfl⟩ ?_
  refine q_aload_n dX8_out_33 rfl rfl ?_
  refine q_get dX8_out_34 fX8_out_43 (fX) rfl ?_
  refine q_iload_n dX8_out_37 rfl rfl ?_
  refine q_callVd dX8_out_38 wX8_out_206 (c_weightsLeftOut (layH_q hD.1 e1 e2 e3) (layH_a hda.1 (hat_nl hda hdb (by decide)) (hat_nl hda hdc (by decide))) hW' h2 hk) (layH_q hD.1 e1 e2 e3) ⟨_, _, rfl⟩ rfl rfl (Nat.le_of_ble_eq_true rfl) ⟨⟨Nat.le_of_ble_eq_true rfl, Nat.le_of_ble_eq_true rfl⟩, Nat.le_of_ble_eq_true rfl, Nat.le_of_ble_eq_true rfl⟩ ?_
  exact q_iret dX8_out_41 rfl (Nat.zero_le _) (Nat.zero_le _) (⟨rfl, rfl, rfl⟩)
theorem isUL_in {b : Int32} (h : isUL b = true) : ¬ bI (isUL b) = 0 := by rw [h]; decide
theorem c_gain_tale {b : Int32} {g : Nat} (hX : hat as h X (xo T P S U M D L I tw dr lot yr tc)) (hP : hat as h P (ob 4 [.ref pr])) (hpr : hat as h pr (aI Γ 80 f)) (hU : hat as h U (ob 7 [.ref ur])) (hur : hat as h ur (aI Γ 6 u)) (hD : hat as h D (ob 0 [.ref da, .ref db, .ref dc, .int d3, .int d4])) (hda : hat as h da (aI Γ 10 fw)) (hdb : hat as h db (aI Γ 31 hv)) (hdc : hat as h dc (aI Γ 31 lt)) (hbc : db ≠ dc) (hW : ∀ j, j < 10 → pWt f j = nI (W j) ∧ W j < 1000) (h1 : 1 ≤ n) (h2 : n ≤ 30) (h4 : nI n ≤ pAll f) (hk : k ≤ n) (hb : isUL b = true) (hg : (ltL W n lt (n - k)).toInt64 = lN g) (hg2 : g < 2 ^ 31) (hs : stp 200 g (n - k) = true) : Det Γ l mX8_gain rX8_gain [.ref X, .int (nI n), .int (nI k), .int 0, .int b] as h (some (.long (if k = n then -1000000000000000000 else (if b = 0 then lN g else lN (n - k)) / lN (Nat.gcd g (n - k))))) (layH Γ D da db dc n (u 1) f fw hv lt W h) := by
  have e1 := hat_oa hD hda
  have e2 := hat_oa hD hdb
  have e3 := hat_oa hD hdc
  have fX := layH_o (Γ := Γ) (n := n) (L1 := u 1) (f := f) (fw := fw) (hv := hv) (lt := lt) (W := W) hX (hat_oo hX hD (by decide)) (hat_oa hX hda) (hat_oa hX hdb) (hat_oa hX hdc)
  refine Con.of (by decide +kernel) rfl rfl (Nat.le_of_ble_eq_true rfl) ?_
  refine q_iload_n dX8_gain_0 rfl rfl ?_
  refine q_if_lt 26 dX8_gain_1 (by decide) (fun z => absurd z ((by decide))) (fun _ => ?_)
  refine q_iload_n dX8_gain_4 rfl rfl ?_
  refine q_iconst (v := 1) dX8_gain_5 rfl ?_
  refine q_icmp_gt 26 dX8_gain_6 (by decide) (fun z => absurd z ((by decide))) (fun _ => ?_)
  refine q_iload dX8_gain_9 rfl ?_
  refine q_callSd dX8_gain_11 wX8_gain_164 (c_isUL) rfl rfl (Nat.le_of_ble_eq_true rfl) ⟨⟨Nat.le_of_ble_eq_true rfl, Nat.le_of_ble_eq_true rfl⟩, Nat.le_of_ble_eq_true rfl, Nat.le_of_ble_eq_true rfl⟩ ?_
  refine q_if_eq 26 dX8_gain_14 (by decide) (fun z => absurd z (isUL_in hb)) (fun _ => ?_)
  refine q_aload_n dX8_gain_17 rfl rfl ?_
  refine q_iload_n dX8_gain_18 rfl rfl ?_
  refine q_iload_n dX8_gain_19 rfl rfl ?_
  refine q_callVd dX8_gain_20 wX8_gain_167 (c_dayRefusal hX hP hpr) (hX) ⟨_, _, rfl⟩ rfl rfl (Nat.le_of_ble_eq_true rfl) ⟨⟨Nat.le_of_ble_eq_true rfl, Nat.le_of_ble_eq_true rfl⟩, Nat.le_of_ble_eq_true rfl, Nat.le_of_ble_eq_true rfl⟩ ?_
  rw [dyR_ok h1 h2 hk h4]
  refine q_if_eq 30 dX8_gain_23 (by decide) (fun _ => ?_) (fun z => absurd (rfl) z)
  refine q_aload_n dX8_gain_30 rfl rfl ?_
  refine q_get dX8_gain_31 fX8_gain_43 (hX) rfl ?_
  refine q_aload_n dX8_gain_34 rfl rfl ?_
  refine q_get dX8_gain_35 fX8_gain_19 (hX) rfl ?_
  refine q_iload_n dX8_gain_38 rfl rfl ?_
  refine q_aload_n dX8_gain_39 rfl rfl ?_
  refine q_get dX8_gain_40 fX8_gain_29 (hX) rfl ?_
  refine q_iconst (v := 1) dX8_gain_43 rfl ?_
  refine q_callVd dX8_gain_44 wX8_gain_172 (c_of (j := 1) hU hur (by omega)) (hU) ⟨_, _, rfl⟩ rfl rfl (Nat.le_of_ble_eq_true rfl) ⟨⟨Nat.le_of_ble_eq_true rfl, Nat.le_of_ble_eq_true rfl⟩, Nat.le_of_ble_eq_true rfl, Nat.le_of_ble_eq_true rfl⟩ ?_
  refine q_callVd dX8_gain_47 wX8_gain_175 (c_lay (W := W) hD hda hdb hdc hbc hP hpr h2 hW) (hD) ⟨_, _, rfl⟩ rfl rfl (Nat.le_of_ble_eq_true rfl) ⟨⟨Nat.le_of_ble_eq_true rfl, Nat.le_of_ble_eq_true rfl⟩, Nat.le_of_ble_eq_true rfl, Nat.le_of_ble_eq_true rfl⟩ ?_
  refine q_iload_n dX8_gain_50 rfl rfl ?_
  refine q_if_ne 87 dX8_gain_51 (by decide) (fun z => absurd (rfl) z) (fun _ => ?_)
  refine q_iload_n dX8_gain_54 rfl rfl ?_
  refine q_iload_n dX8_gain_55 rfl rfl ?_
  refine q_icmp_ne 65 dX8_gain_56 (by decide) (fun cA => ?_) (fun cA => ?_)
  · have hne : ¬ k = n := fun z => cA (by rw [z])
    rw [if_neg hne]
    refine q_aload_n dX8_gain_65 rfl rfl ?_
    refine q_get dX8_gain_66 fX8_gain_43 (fX) rfl ?_
    refine q_iload_n dX8_gain_69 rfl rfl ?_
    refine q_callVd dX8_gain_70 wX8_gain_179 (c_taleUpper (layH_q hD.1 e1 e2 e3) (layH_c hdc.1) h2 hk) (layH_q hD.1 e1 e2 e3) ⟨_, _, rfl⟩ rfl rfl (Nat.le_of_ble_eq_true rfl) ⟨⟨Nat.le_of_ble_eq_true rfl, Nat.le_of_ble_eq_true rfl⟩, Nat.le_of_ble_eq_true rfl, Nat.le_of_ble_eq_true rfl⟩ ?_
    refine q_aload_n dX8_gain_73 rfl rfl ?_
    rw [hg]
    refine q_get dX8_gain_74 fX8_gain_43 (fX) rfl ?_
    refine q_iload_n dX8_gain_77 rfl rfl ?_
    refine q_callVd dX8_gain_78 wX8_gain_183 (c_taleLower (layH_q hD.1 e1 e2 e3) hk) (layH_q hD.1 e1 e2 e3) ⟨_, _, rfl⟩ rfl rfl (Nat.le_of_ble_eq_true rfl) ⟨⟨Nat.le_of_ble_eq_true rfl, Nat.le_of_ble_eq_true rfl⟩, Nat.le_of_ble_eq_true rfl, Nat.le_of_ble_eq_true rfl⟩ ?_
    refine q_iload dX8_gain_81 rfl ?_
    rw [nI_l (by omega)]
    refine q_callSd dX8_gain_83 wX8_gain_186 (c_leastTerms (a := g) (b := n - k) (by by_cases z : 0 < lN g; rw [if_pos z]; rw [if_neg z]; have : g = 0 := Nat.eq_zero_of_not_pos (fun w => z ((pk_lLT (a := 0) (by omega) (by omega)).mpr w)); rw [this]; rfl) (by omega) (by omega) (by omega) hs) rfl rfl (Nat.le_of_ble_eq_true rfl) ⟨⟨Nat.le_of_ble_eq_true rfl, Nat.le_of_ble_eq_true rfl⟩, Nat.le_of_ble_eq_true rfl, Nat.le_of_ble_eq_true rfl⟩ ?_
    exact q_lret dX8_gain_86 rfl (Nat.zero_le _) (Nat.zero_le _) (⟨rfl, rfl, rfl⟩)
  · rw [if_pos ((nI_eq (by omega) (by omega)).mp cA)]
    refine q_ldc2 (v := (-1000000000000000000)) dX8_gain_59 (by decide +kernel) ?_
    refine q_goto 86 dX8_gain_62 (by decide) ?_
    exact q_lret dX8_gain_86 rfl (Nat.zero_le _) (Nat.zero_le _) (⟨rfl, rfl, rfl⟩)
theorem c_gain_look {b : Int32} {g : Nat} (hX : hat as h X (xo T P S U M D L I tw dr lot yr tc)) (hP : hat as h P (ob 4 [.ref pr])) (hpr : hat as h pr (aI Γ 80 f)) (hU : hat as h U (ob 7 [.ref ur])) (hur : hat as h ur (aI Γ 6 u)) (hD : hat as h D (ob 0 [.ref da, .ref db, .ref dc, .int d3, .int d4])) (hda : hat as h da (aI Γ 10 fw)) (hdb : hat as h db (aI Γ 31 hv)) (hdc : hat as h dc (aI Γ 31 lt)) (hbc : db ≠ dc) (hW : ∀ j, j < 10 → pWt f j = nI (W j) ∧ W j < 1000) (h1 : 1 ≤ n) (h2 : n ≤ 30) (h4 : nI n ≤ pAll f) (hk : k ≤ n) (hb : isUL b = true) (hg : (if 0 < (10 * hvL W n hv k - u 1 * nI k).toInt64 then (10 * hvL W n hv k - u 1 * nI k).toInt64 else -(10 * hvL W n hv k - u 1 * nI k).toInt64) = lN g) (hg2 : g < 2 ^ 31) (hs : stp 200 g (10 * k) = true) : Det Γ l mX8_gain rX8_gain [.ref X, .int (nI n), .int (nI k), .int 1, .int b] as h (some (.long (if k = 0 then -1000000000000000000 else (if b = 0 then (10 * hvL W n hv k - u 1 * nI k).toInt64 else lN (10 * k)) / lN (Nat.gcd g (10 * k))))) (layH Γ D da db dc n (u 1) f fw hv lt W h) := by
  have e1 := hat_oa hD hda
  have e2 := hat_oa hD hdb
  have e3 := hat_oa hD hdc
  have fX := layH_o (Γ := Γ) (n := n) (L1 := u 1) (f := f) (fw := fw) (hv := hv) (lt := lt) (W := W) hX (hat_oo hX hD (by decide)) (hat_oa hX hda) (hat_oa hX hdb) (hat_oa hX hdc)
  refine Con.of (by decide +kernel) rfl rfl (Nat.le_of_ble_eq_true rfl) ?_
  refine q_iload_n dX8_gain_0 rfl rfl ?_
  refine q_if_lt 26 dX8_gain_1 (by decide) (fun z => absurd z ((by decide))) (fun _ => ?_)
  refine q_iload_n dX8_gain_4 rfl rfl ?_
  refine q_iconst (v := 1) dX8_gain_5 rfl ?_
  refine q_icmp_gt 26 dX8_gain_6 (by decide) (fun z => absurd z ((by decide))) (fun _ => ?_)
  refine q_iload dX8_gain_9 rfl ?_
  refine q_callSd dX8_gain_11 wX8_gain_164 (c_isUL) rfl rfl (Nat.le_of_ble_eq_true rfl) ⟨⟨Nat.le_of_ble_eq_true rfl, Nat.le_of_ble_eq_true rfl⟩, Nat.le_of_ble_eq_true rfl, Nat.le_of_ble_eq_true rfl⟩ ?_
  refine q_if_eq 26 dX8_gain_14 (by decide) (fun z => absurd z (isUL_in hb)) (fun _ => ?_)
  refine q_aload_n dX8_gain_17 rfl rfl ?_
  refine q_iload_n dX8_gain_18 rfl rfl ?_
  refine q_iload_n dX8_gain_19 rfl rfl ?_
  refine q_callVd dX8_gain_20 wX8_gain_167 (c_dayRefusal hX hP hpr) (hX) ⟨_, _, rfl⟩ rfl rfl (Nat.le_of_ble_eq_true rfl) ⟨⟨Nat.le_of_ble_eq_true rfl, Nat.le_of_ble_eq_true rfl⟩, Nat.le_of_ble_eq_true rfl, Nat.le_of_ble_eq_true rfl⟩ ?_
  rw [dyR_ok h1 h2 hk h4]
  refine q_if_eq 30 dX8_gain_23 (by decide) (fun _ => ?_) (fun z => absurd (rfl) z)
  refine q_aload_n dX8_gain_30 rfl rfl ?_
  refine q_get dX8_gain_31 fX8_gain_43 (hX) rfl ?_
  refine q_aload_n dX8_gain_34 rfl rfl ?_
  refine q_get dX8_gain_35 fX8_gain_19 (hX) rfl ?_
  refine q_iload_n dX8_gain_38 rfl rfl ?_
  refine q_aload_n dX8_gain_39 rfl rfl ?_
  refine q_get dX8_gain_40 fX8_gain_29 (hX) rfl ?_
  refine q_iconst (v := 1) dX8_gain_43 rfl ?_
  refine q_callVd dX8_gain_44 wX8_gain_172 (c_of (j := 1) hU hur (by omega)) (hU) ⟨_, _, rfl⟩ rfl rfl (Nat.le_of_ble_eq_true rfl) ⟨⟨Nat.le_of_ble_eq_true rfl, Nat.le_of_ble_eq_true rfl⟩, Nat.le_of_ble_eq_true rfl, Nat.le_of_ble_eq_true rfl⟩ ?_
  refine q_callVd dX8_gain_47 wX8_gain_175 (c_lay (W := W) hD hda hdb hdc hbc hP hpr h2 hW) (hD) ⟨_, _, rfl⟩ rfl rfl (Nat.le_of_ble_eq_true rfl) ⟨⟨Nat.le_of_ble_eq_true rfl, Nat.le_of_ble_eq_true rfl⟩, Nat.le_of_ble_eq_true rfl, Nat.le_of_ble_eq_true rfl⟩ ?_
  refine q_iload_n dX8_gain_50 rfl rfl ?_
  refine q_if_ne 87 dX8_gain_51 (by decide) (fun _ => ?_) (fun z => absurd z ((by decide)))
  refine q_iload_n dX8_gain_87 rfl rfl ?_
  refine q_if_ne 97 dX8_gain_88 (by decide) (fun cA => ?_) (fun cA => ?_)
  · have hne : ¬ k = 0 := fun z => cA (by rw [z]; rfl)
    rw [if_neg hne]
    refine q_aload_n dX8_gain_97 rfl rfl ?_
    refine q_get dX8_gain_98 fX8_gain_43 (fX) rfl ?_
    refine q_iload_n dX8_gain_101 rfl rfl ?_
    refine q_callVd dX8_gain_102 wX8_gain_190 (c_lookUpper (layH_q hD.1 e1 e2 e3) (layH_b hdb.1 hbc) (by omega)) (layH_q hD.1 e1 e2 e3) ⟨_, _, rfl⟩ rfl rfl (Nat.le_of_ble_eq_true rfl) ⟨⟨Nat.le_of_ble_eq_true rfl, Nat.le_of_ble_eq_true rfl⟩, Nat.le_of_ble_eq_true rfl, Nat.le_of_ble_eq_true rfl⟩ ?_
    refine q_aload_n dX8_gain_105 rfl rfl ?_
    refine q_get dX8_gain_106 fX8_gain_43 (fX) rfl ?_
    refine q_iload_n dX8_gain_109 rfl rfl ?_
    refine q_callVd dX8_gain_110 wX8_gain_193 (c_lookLower (x := 0) (v := .null)) (layH_q hD.1 e1 e2 e3) ⟨_, _, rfl⟩ rfl rfl (Nat.le_of_ble_eq_true rfl) ⟨⟨Nat.le_of_ble_eq_true rfl, Nat.le_of_ble_eq_true rfl⟩, Nat.le_of_ble_eq_true rfl, Nat.le_of_ble_eq_true rfl⟩ ?_
    refine q_iload dX8_gain_113 rfl ?_
    rw [show (10 * nI k).toInt64 = lN (10 * k) by rw [show (10 : Int32) = nI 10 from rfl, pk_mul, nI_l (by omega)]]
    refine q_callSd dX8_gain_115 wX8_gain_186 (c_leastTerms (a := g) (b := 10 * k) hg (by omega) (by omega) (by omega) hs) rfl rfl (Nat.le_of_ble_eq_true rfl) ⟨⟨Nat.le_of_ble_eq_true rfl, Nat.le_of_ble_eq_true rfl⟩, Nat.le_of_ble_eq_true rfl, Nat.le_of_ble_eq_true rfl⟩ ?_
    exact q_lret dX8_gain_118 rfl (Nat.zero_le _) (Nat.zero_le _) (⟨rfl, rfl, rfl⟩)
  · rw [if_pos ((nI_eq (b := 0) (by omega) (by omega)).mp cA)]
    refine q_ldc2 (v := (-1000000000000000000)) dX8_gain_91 (by decide +kernel) ?_
    refine q_goto 118 dX8_gain_94 (by decide) ?_
    exact q_lret dX8_gain_118 rfl (Nat.zero_le _) (Nat.zero_le _) (⟨rfl, rfl, rfl⟩)
theorem c_clip_bad {p q : Int32} (hb : isW p = false ∨ (¬ q = 2 ∧ isUL q = false)) : Det Γ l mX8_clip rX8_clip [.ref X, .int p, .int q] as h (some (.long (-1000000000000000000))) h := by
  refine Con.of (by decide +kernel) rfl rfl (Nat.le_of_ble_eq_true rfl) ?_
  refine q_iload_n dX8_clip_0 rfl rfl ?_
  refine q_callSd dX8_clip_1 wX8_clip_132 (c_isWeight) rfl rfl (Nat.le_of_ble_eq_true rfl) ⟨⟨Nat.le_of_ble_eq_true rfl, Nat.le_of_ble_eq_true rfl⟩, Nat.le_of_ble_eq_true rfl, Nat.le_of_ble_eq_true rfl⟩ ?_
  refine q_if_ne 11 dX8_clip_4 (by decide) (fun cA => ?_) (fun cA => ?_)
  · refine q_iload_n dX8_clip_11 rfl rfl ?_
    refine q_iconst (v := 2) dX8_clip_12 rfl ?_
    refine q_icmp_ne 23 dX8_clip_13 (by decide) (fun cB => ?_) (fun cB => ?_)
    · refine q_iload_n dX8_clip_23 rfl rfl ?_
      refine q_callSd dX8_clip_24 wX8_clip_164 (c_isUL) rfl rfl (Nat.le_of_ble_eq_true rfl) ⟨⟨Nat.le_of_ble_eq_true rfl, Nat.le_of_ble_eq_true rfl⟩, Nat.le_of_ble_eq_true rfl, Nat.le_of_ble_eq_true rfl⟩ ?_
      refine q_if_eq 46 dX8_clip_27 (by decide) (fun cC => ?_) (fun cC => ?_)
      · refine q_ldc2 (v := (-1000000000000000000)) dX8_clip_46 (by decide +kernel) ?_
        exact q_lret dX8_clip_49 rfl (Nat.zero_le _) (Nat.zero_le _) (⟨rfl, rfl, rfl⟩)
      · exact absurd hb (by rintro (z | z) <;> first | exact cA (by rw [z]; rfl) | exact cC (by rw [z.2]; rfl))
    · exact absurd hb (by rintro (z | z) <;> first | exact cA (by rw [z]; rfl) | exact z.1 cB)
  · refine q_ldc2 (v := (-1000000000000000000)) dX8_clip_7 (by decide +kernel) ?_
    exact q_lret dX8_clip_10 rfl (Nat.zero_le _) (Nat.zero_le _) (⟨rfl, rfl, rfl⟩)
theorem c_clip_until {p : Nat} (hp : p < 10) (hX : hat as h X (xo T P S U M D L I tw dr lot yr tc)) (hU : hat as h U (ob 7 [.ref ur])) (hur : hat as h ur (aI Γ 6 u)) : Det Γ l mX8_clip rX8_clip [.ref X, .int (nI p), .int 2] as h (some (.long (unS u (9 - p) p).toInt64)) h := by
  refine Con.of (by decide +kernel) rfl rfl (Nat.le_of_ble_eq_true rfl) ?_
  refine q_iload_n dX8_clip_0 rfl rfl ?_
  refine q_callSd dX8_clip_1 wX8_clip_132 (c_isWeight) rfl rfl (Nat.le_of_ble_eq_true rfl) ⟨⟨Nat.le_of_ble_eq_true rfl, Nat.le_of_ble_eq_true rfl⟩, Nat.le_of_ble_eq_true rfl, Nat.le_of_ble_eq_true rfl⟩ ?_
  refine q_if_ne 11 dX8_clip_4 (by decide) (fun _ => ?_) (fun z => absurd z (by rw [isW_nI hp]; decide))
  refine q_iload_n dX8_clip_11 rfl rfl ?_
  refine q_iconst (v := 2) dX8_clip_12 rfl ?_
  refine q_icmp_ne 23 dX8_clip_13 (by decide) (fun z => absurd (rfl) z) (fun _ => ?_)
  refine q_aload_n dX8_clip_16 rfl rfl ?_
  refine q_iload_n dX8_clip_17 rfl rfl ?_
  refine q_callVd dX8_clip_18 wX8_clip_209 (c_clippedUntil (by omega) hX hU hur) (hX) ⟨_, _, rfl⟩ rfl rfl (Nat.le_of_ble_eq_true rfl) ⟨⟨Nat.le_of_ble_eq_true rfl, Nat.le_of_ble_eq_true rfl⟩, Nat.le_of_ble_eq_true rfl, Nat.le_of_ble_eq_true rfl⟩ ?_
  refine q_i2l dX8_clip_21 ?_
  exact q_lret dX8_clip_22 rfl (Nat.zero_le _) (Nat.zero_le _) (⟨rfl, rfl, rfl⟩)
theorem c_clip {p a b : Nat} {q : Int32} (hp : p < 10) (hq : isUL q = true) (hX : hat as h X (xo T P S U M D L I tw dr lot yr tc)) (hU : hat as h U (ob 7 [.ref ur])) (hur : hat as h ur (aI Γ 6 u)) (hup : (if 0 < wrW u (9 - p) then wrW u (9 - p) else -wrW u (9 - p)) = lN a) (ha : a < 2 ^ 63) (hb : p10 (9 - p) = lN b) (hb0 : 0 < b) (hb2 : b < 2 ^ 63) (hs : stp 200 a b = true) : Det Γ l mX8_clip rX8_clip [.ref X, .int (nI p), .int q] as h (some (.long ((if q = 0 then wrW u (9 - p) else lN b) / lN (Nat.gcd a b)))) h := by
  refine Con.of (by decide +kernel) rfl rfl (Nat.le_of_ble_eq_true rfl) ?_
  refine q_iload_n dX8_clip_0 rfl rfl ?_
  refine q_callSd dX8_clip_1 wX8_clip_132 (c_isWeight) rfl rfl (Nat.le_of_ble_eq_true rfl) ⟨⟨Nat.le_of_ble_eq_true rfl, Nat.le_of_ble_eq_true rfl⟩, Nat.le_of_ble_eq_true rfl, Nat.le_of_ble_eq_true rfl⟩ ?_
  refine q_if_ne 11 dX8_clip_4 (by decide) (fun _ => ?_) (fun z => absurd z (by rw [isW_nI hp]; decide))
  refine q_iload_n dX8_clip_11 rfl rfl ?_
  refine q_iconst (v := 2) dX8_clip_12 rfl ?_
  refine q_icmp_ne 23 dX8_clip_13 (by decide) (fun _ => ?_) (fun z => absurd z (fun z => by rw [z] at hq; exact absurd hq (by decide)))
  refine q_iload_n dX8_clip_23 rfl rfl ?_
  refine q_callSd dX8_clip_24 wX8_clip_164 (c_isUL) rfl rfl (Nat.le_of_ble_eq_true rfl) ⟨⟨Nat.le_of_ble_eq_true rfl, Nat.le_of_ble_eq_true rfl⟩, Nat.le_of_ble_eq_true rfl, Nat.le_of_ble_eq_true rfl⟩ ?_
  refine q_if_eq 46 dX8_clip_27 (by decide) (fun z => absurd z (isUL_in hq)) (fun _ => ?_)
  refine q_aload_n dX8_clip_30 rfl rfl ?_
  refine q_iload_n dX8_clip_31 rfl rfl ?_
  refine q_callVd dX8_clip_32 wX8_clip_212 (c_worthScaled (show p ≤ 9 by omega) hX hU hur) (hX) ⟨_, _, rfl⟩ rfl rfl (Nat.le_of_ble_eq_true rfl) ⟨⟨Nat.le_of_ble_eq_true rfl, Nat.le_of_ble_eq_true rfl⟩, Nat.le_of_ble_eq_true rfl, Nat.le_of_ble_eq_true rfl⟩ ?_
  refine q_iload_n dX8_clip_35 rfl rfl ?_
  refine q_callSd dX8_clip_36 wX8_clip_215 (c_worthScale (show p ≤ 9 by omega)) rfl rfl (Nat.le_of_ble_eq_true rfl) ⟨⟨Nat.le_of_ble_eq_true rfl, Nat.le_of_ble_eq_true rfl⟩, Nat.le_of_ble_eq_true rfl, Nat.le_of_ble_eq_true rfl⟩ ?_
  refine q_iload_n dX8_clip_39 rfl rfl ?_
  rw [hb]
  refine q_callSd dX8_clip_40 wX8_clip_186 (c_leastTerms hup ha hb2 hb0 hs) rfl rfl (Nat.le_of_ble_eq_true rfl) ⟨⟨Nat.le_of_ble_eq_true rfl, Nat.le_of_ble_eq_true rfl⟩, Nat.le_of_ble_eq_true rfl, Nat.le_of_ble_eq_true rfl⟩ ?_
  refine q_goto 49 dX8_clip_43 (by decide) ?_
  exact q_lret dX8_clip_49 rfl (Nat.zero_le _) (Nat.zero_le _) (⟨rfl, rfl, rfl⟩)
end
end
