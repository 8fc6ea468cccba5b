section
-- ===== PART A: goes FIRST, ahead of the names: the tables' words, and 'selects' of the private methods out of them =====
/-- a private method of a class that the tables say can be made, by its rows of tables_1 -/
def lw_okq (q : MethodName × Nat) : Prop := (q.1.cls ≠ "java/lang/invoke/MethodHandle" ∧ q.1.cls ≠ "java/lang/invoke/VarHandle") ∧ Cond.instantiable q.1.cls q.2 ∈ tables_1 ∧ Cond.privateMethod q.1 ∈ tables_1 ∧ Cond.instanceMethod q.1 ∈ tables_1
theorem lw_p0 : lw_okq (⟨"TwoGames", "added", "(IIIIII)I"⟩, 14) := ⟨⟨by decide +kernel, by decide +kernel⟩, List.mem_of_getElem? (i := 13) (by decide +kernel), List.mem_of_getElem? (i := 194) (by decide +kernel), List.mem_of_getElem? (i := 195) (by decide +kernel)⟩
theorem lw_p1 : lw_okq (⟨"TwoGames", "playAt", "(I)LTwoGames$Play;"⟩, 14) := ⟨⟨by decide +kernel, by decide +kernel⟩, List.mem_of_getElem? (i := 13) (by decide +kernel), List.mem_of_getElem? (i := 235) (by decide +kernel), List.mem_of_getElem? (i := 236) (by decide +kernel)⟩
theorem lw_p2 : lw_okq (⟨"TwoGames", "refuse", "(I)I"⟩, 14) := ⟨⟨by decide +kernel, by decide +kernel⟩, List.mem_of_getElem? (i := 13) (by decide +kernel), List.mem_of_getElem? (i := 261) (by decide +kernel), List.mem_of_getElem? (i := 262) (by decide +kernel)⟩
theorem lw_p3 : lw_okq (⟨"TwoGames", "rowAt", "(I)LTwoGames$Row;"⟩, 14) := ⟨⟨by decide +kernel, by decide +kernel⟩, List.mem_of_getElem? (i := 13) (by decide +kernel), List.mem_of_getElem? (i := 294) (by decide +kernel), List.mem_of_getElem? (i := 295) (by decide +kernel)⟩
theorem lw_p4 : lw_okq (⟨"TwoGames", "isRest", "(I)Z"⟩, 14) := ⟨⟨by decide +kernel, by decide +kernel⟩, List.mem_of_getElem? (i := 13) (by decide +kernel), List.mem_of_getElem? (i := 330) (by decide +kernel), List.mem_of_getElem? (i := 331) (by decide +kernel)⟩
theorem lw_p5 : lw_okq (⟨"TwoGames", "refusalOf", "(LTwoGames$Row;)I"⟩, 14) := ⟨⟨by decide +kernel, by decide +kernel⟩, List.mem_of_getElem? (i := 13) (by decide +kernel), List.mem_of_getElem? (i := 334) (by decide +kernel), List.mem_of_getElem? (i := 335) (by decide +kernel)⟩
theorem lw_p6 : lw_okq (⟨"TwoGames", "isFit", "(LTwoGames$Row;)Z"⟩, 14) := ⟨⟨by decide +kernel, by decide +kernel⟩, List.mem_of_getElem? (i := 13) (by decide +kernel), List.mem_of_getElem? (i := 338) (by decide +kernel), List.mem_of_getElem? (i := 339) (by decide +kernel)⟩
theorem lw_p7 : lw_okq (⟨"TwoGames", "hangsOnPurse", "(I)Z"⟩, 14) := ⟨⟨by decide +kernel, by decide +kernel⟩, List.mem_of_getElem? (i := 13) (by decide +kernel), List.mem_of_getElem? (i := 342) (by decide +kernel), List.mem_of_getElem? (i := 343) (by decide +kernel)⟩
theorem lw_p8 : lw_okq (⟨"TwoGames", "roundOf", "(LTwoGames$Row;)LTwoGames$Round;"⟩, 14) := ⟨⟨by decide +kernel, by decide +kernel⟩, List.mem_of_getElem? (i := 13) (by decide +kernel), List.mem_of_getElem? (i := 346) (by decide +kernel), List.mem_of_getElem? (i := 347) (by decide +kernel)⟩
theorem lw_p9 : lw_okq (⟨"TwoGames$Round", "step", "(IIJJ)V"⟩, 8) := ⟨⟨by decide +kernel, by decide +kernel⟩, List.mem_of_getElem? (i := 103) (by decide +kernel), List.mem_of_getElem? (i := 365) (by decide +kernel), List.mem_of_getElem? (i := 366) (by decide +kernel)⟩
theorem lw_p10 : lw_okq (⟨"TwoGames$Round", "weightOf", "(I)J"⟩, 8) := ⟨⟨by decide +kernel, by decide +kernel⟩, List.mem_of_getElem? (i := 103) (by decide +kernel), List.mem_of_getElem? (i := 388) (by decide +kernel), List.mem_of_getElem? (i := 389) (by decide +kernel)⟩
theorem lw_p11 : lw_okq (⟨"TwoGames", "tellGain", "(LTwoGames$Round;)I"⟩, 14) := ⟨⟨by decide +kernel, by decide +kernel⟩, List.mem_of_getElem? (i := 13) (by decide +kernel), List.mem_of_getElem? (i := 396) (by decide +kernel), List.mem_of_getElem? (i := 397) (by decide +kernel)⟩
theorem lw_p12 : lw_okq (⟨"TwoGames", "roundOfLot", "(LTwoGames$Play;LTwoGames$Play;I)LTwoGames$Round;"⟩, 14) := ⟨⟨by decide +kernel, by decide +kernel⟩, List.mem_of_getElem? (i := 13) (by decide +kernel), List.mem_of_getElem? (i := 412) (by decide +kernel), List.mem_of_getElem? (i := 413) (by decide +kernel)⟩
theorem lw_p13 : lw_okq (⟨"TwoGames", "tryRows", "(II)V"⟩, 14) := ⟨⟨by decide +kernel, by decide +kernel⟩, List.mem_of_getElem? (i := 13) (by decide +kernel), List.mem_of_getElem? (i := 424) (by decide +kernel), List.mem_of_getElem? (i := 425) (by decide +kernel)⟩
theorem lw_p14 : lw_okq (⟨"TwoGames$Best", "isBelow", "(JJ)Z"⟩, 5) := ⟨⟨by decide +kernel, by decide +kernel⟩, List.mem_of_getElem? (i := 57) (by decide +kernel), List.mem_of_getElem? (i := 433) (by decide +kernel), List.mem_of_getElem? (i := 434) (by decide +kernel)⟩
theorem lw_p15 : lw_okq (⟨"TwoGames", "tryRowsWith", "(III)V"⟩, 14) := ⟨⟨by decide +kernel, by decide +kernel⟩, List.mem_of_getElem? (i := 13) (by decide +kernel), List.mem_of_getElem? (i := 442) (by decide +kernel), List.mem_of_getElem? (i := 443) (by decide +kernel)⟩
def lw_privs_1 : List (MethodName × Nat) := [(⟨"TwoGames", "added", "(IIIIII)I"⟩, 14), (⟨"TwoGames", "playAt", "(I)LTwoGames$Play;"⟩, 14), (⟨"TwoGames", "refuse", "(I)I"⟩, 14), (⟨"TwoGames", "rowAt", "(I)LTwoGames$Row;"⟩, 14), (⟨"TwoGames", "isRest", "(I)Z"⟩, 14), (⟨"TwoGames", "refusalOf", "(LTwoGames$Row;)I"⟩, 14), (⟨"TwoGames", "isFit", "(LTwoGames$Row;)Z"⟩, 14), (⟨"TwoGames", "hangsOnPurse", "(I)Z"⟩, 14), (⟨"TwoGames", "roundOf", "(LTwoGames$Row;)LTwoGames$Round;"⟩, 14), (⟨"TwoGames$Round", "step", "(IIJJ)V"⟩, 8), (⟨"TwoGames$Round", "weightOf", "(I)J"⟩, 8), (⟨"TwoGames", "tellGain", "(LTwoGames$Round;)I"⟩, 14), (⟨"TwoGames", "roundOfLot", "(LTwoGames$Play;LTwoGames$Play;I)LTwoGames$Round;"⟩, 14), (⟨"TwoGames", "tryRows", "(II)V"⟩, 14), (⟨"TwoGames$Best", "isBelow", "(JJ)Z"⟩, 5), (⟨"TwoGames", "tryRowsWith", "(III)V"⟩, 14)]
theorem lw_r1 : ∀ q ∈ lw_privs_1, lw_okq q := List.forall_mem_cons.mpr ⟨lw_p0, List.forall_mem_cons.mpr ⟨lw_p1, List.forall_mem_cons.mpr ⟨lw_p2, List.forall_mem_cons.mpr ⟨lw_p3, List.forall_mem_cons.mpr ⟨lw_p4, List.forall_mem_cons.mpr ⟨lw_p5, List.forall_mem_cons.mpr ⟨lw_p6, List.forall_mem_cons.mpr ⟨lw_p7, List.forall_mem_cons.mpr ⟨lw_p8, List.forall_mem_cons.mpr ⟨lw_p9, List.forall_mem_cons.mpr ⟨lw_p10, List.forall_mem_cons.mpr ⟨lw_p11, List.forall_mem_cons.mpr ⟨lw_p12, List.forall_mem_cons.mpr ⟨lw_p13, List.forall_mem_cons.mpr ⟨lw_p14, List.forall_mem_cons.mpr ⟨lw_p15, fun _ h => absurd h List.not_mem_nil⟩⟩⟩⟩⟩⟩⟩⟩⟩⟩⟩⟩⟩⟩⟩⟩
theorem lw_p16 : lw_okq (⟨"TwoGames", "tryChoices", "(I)V"⟩, 14) := ⟨⟨by decide +kernel, by decide +kernel⟩, List.mem_of_getElem? (i := 13) (by decide +kernel), List.mem_of_getElem? (i := 450) (by decide +kernel), List.mem_of_getElem? (i := 451) (by decide +kernel)⟩
theorem lw_p17 : lw_okq (⟨"TwoGames", "tryChoicesWith", "(II)V"⟩, 14) := ⟨⟨by decide +kernel, by decide +kernel⟩, List.mem_of_getElem? (i := 13) (by decide +kernel), List.mem_of_getElem? (i := 454) (by decide +kernel), List.mem_of_getElem? (i := 455) (by decide +kernel)⟩
theorem lw_p18 : lw_okq (⟨"TwoGames", "losesAlone", "(I)Z"⟩, 14) := ⟨⟨by decide +kernel, by decide +kernel⟩, List.mem_of_getElem? (i := 13) (by decide +kernel), List.mem_of_getElem? (i := 466) (by decide +kernel), List.mem_of_getElem? (i := 467) (by decide +kernel)⟩
theorem lw_p19 : lw_okq (⟨"TwoGames", "winByTurns", "(II)Z"⟩, 14) := ⟨⟨by decide +kernel, by decide +kernel⟩, List.mem_of_getElem? (i := 13) (by decide +kernel), List.mem_of_getElem? (i := 470) (by decide +kernel), List.mem_of_getElem? (i := 471) (by decide +kernel)⟩
theorem lw_p20 : lw_okq (⟨"TwoGames", "spread", "(LTwoGames$Row;II)V"⟩, 14) := ⟨⟨by decide +kernel, by decide +kernel⟩, List.mem_of_getElem? (i := 13) (by decide +kernel), List.mem_of_getElem? (i := 487) (by decide +kernel), List.mem_of_getElem? (i := 488) (by decide +kernel)⟩
theorem lw_p21 : lw_okq (⟨"TwoGames", "weightOfCut", "(LTwoGames$Play;III)J"⟩, 14) := ⟨⟨by decide +kernel, by decide +kernel⟩, List.mem_of_getElem? (i := 13) (by decide +kernel), List.mem_of_getElem? (i := 523) (by decide +kernel), List.mem_of_getElem? (i := 524) (by decide +kernel)⟩
theorem lw_p22 : lw_okq (⟨"TwoGames", "echoCount", "()I"⟩, 14) := ⟨⟨by decide +kernel, by decide +kernel⟩, List.mem_of_getElem? (i := 13) (by decide +kernel), List.mem_of_getElem? (i := 545) (by decide +kernel), List.mem_of_getElem? (i := 546) (by decide +kernel)⟩
theorem lw_p23 : lw_okq (⟨"TwoGames", "rowsThere", "()I"⟩, 14) := ⟨⟨by decide +kernel, by decide +kernel⟩, List.mem_of_getElem? (i := 13) (by decide +kernel), List.mem_of_getElem? (i := 549) (by decide +kernel), List.mem_of_getElem? (i := 550) (by decide +kernel)⟩
theorem lw_p24 : lw_okq (⟨"TwoGamesModel", "put", "(IIIII)I"⟩, 29) := ⟨⟨by decide +kernel, by decide +kernel⟩, List.mem_of_getElem? (i := 578) (by decide +kernel), List.mem_of_getElem? (i := 683) (by decide +kernel), List.mem_of_getElem? (i := 684) (by decide +kernel)⟩
theorem lw_p25 : lw_okq (⟨"TwoGamesModel", "isPlay", "(I)Z"⟩, 29) := ⟨⟨by decide +kernel, by decide +kernel⟩, List.mem_of_getElem? (i := 578) (by decide +kernel), List.mem_of_getElem? (i := 706) (by decide +kernel), List.mem_of_getElem? (i := 707) (by decide +kernel)⟩
theorem lw_p26 : lw_okq (⟨"TwoGamesModel", "tells", "(II)I"⟩, 29) := ⟨⟨by decide +kernel, by decide +kernel⟩, List.mem_of_getElem? (i := 578) (by decide +kernel), List.mem_of_getElem? (i := 710) (by decide +kernel), List.mem_of_getElem? (i := 711) (by decide +kernel)⟩
theorem lw_p27 : lw_okq (⟨"TwoGamesModel", "many", "(I)I"⟩, 29) := ⟨⟨by decide +kernel, by decide +kernel⟩, List.mem_of_getElem? (i := 578) (by decide +kernel), List.mem_of_getElem? (i := 714) (by decide +kernel), List.mem_of_getElem? (i := 715) (by decide +kernel)⟩
theorem lw_p28 : lw_okq (⟨"TwoGamesModel", "meets", "(I)I"⟩, 29) := ⟨⟨by decide +kernel, by decide +kernel⟩, List.mem_of_getElem? (i := 578) (by decide +kernel), List.mem_of_getElem? (i := 722) (by decide +kernel), List.mem_of_getElem? (i := 723) (by decide +kernel)⟩
theorem lw_p29 : lw_okq (⟨"TwoGamesModel", "looked", "(I)I"⟩, 29) := ⟨⟨by decide +kernel, by decide +kernel⟩, List.mem_of_getElem? (i := 578) (by decide +kernel), List.mem_of_getElem? (i := 749) (by decide +kernel), List.mem_of_getElem? (i := 750) (by decide +kernel)⟩
theorem lw_p30 : lw_okq (⟨"TwoGamesModel", "askedFor", "(I)I"⟩, 29) := ⟨⟨by decide +kernel, by decide +kernel⟩, List.mem_of_getElem? (i := 578) (by decide +kernel), List.mem_of_getElem? (i := 765) (by decide +kernel), List.mem_of_getElem? (i := 766) (by decide +kernel)⟩
theorem lw_p31 : lw_okq (⟨"TwoGamesModel", "isFit", "(I)Z"⟩, 29) := ⟨⟨by decide +kernel, by decide +kernel⟩, List.mem_of_getElem? (i := 578) (by decide +kernel), List.mem_of_getElem? (i := 769) (by decide +kernel), List.mem_of_getElem? (i := 770) (by decide +kernel)⟩
def lw_privs_2 : List (MethodName × Nat) := [(⟨"TwoGames", "tryChoices", "(I)V"⟩, 14), (⟨"TwoGames", "tryChoicesWith", "(II)V"⟩, 14), (⟨"TwoGames", "losesAlone", "(I)Z"⟩, 14), (⟨"TwoGames", "winByTurns", "(II)Z"⟩, 14), (⟨"TwoGames", "spread", "(LTwoGames$Row;II)V"⟩, 14), (⟨"TwoGames", "weightOfCut", "(LTwoGames$Play;III)J"⟩, 14), (⟨"TwoGames", "echoCount", "()I"⟩, 14), (⟨"TwoGames", "rowsThere", "()I"⟩, 14), (⟨"TwoGamesModel", "put", "(IIIII)I"⟩, 29), (⟨"TwoGamesModel", "isPlay", "(I)Z"⟩, 29), (⟨"TwoGamesModel", "tells", "(II)I"⟩, 29), (⟨"TwoGamesModel", "many", "(I)I"⟩, 29), (⟨"TwoGamesModel", "meets", "(I)I"⟩, 29), (⟨"TwoGamesModel", "looked", "(I)I"⟩, 29), (⟨"TwoGamesModel", "askedFor", "(I)I"⟩, 29), (⟨"TwoGamesModel", "isFit", "(I)Z"⟩, 29)]
theorem lw_r2 : ∀ q ∈ lw_privs_2, lw_okq q := List.forall_mem_cons.mpr ⟨lw_p16, List.forall_mem_cons.mpr ⟨lw_p17, List.forall_mem_cons.mpr ⟨lw_p18, List.forall_mem_cons.mpr ⟨lw_p19, List.forall_mem_cons.mpr ⟨lw_p20, List.forall_mem_cons.mpr ⟨lw_p21, List.forall_mem_cons.mpr ⟨lw_p22, List.forall_mem_cons.mpr ⟨lw_p23, List.forall_mem_cons.mpr ⟨lw_p24, List.forall_mem_cons.mpr ⟨lw_p25, List.forall_mem_cons.mpr ⟨lw_p26, List.forall_mem_cons.mpr ⟨lw_p27, List.forall_mem_cons.mpr ⟨lw_p28, List.forall_mem_cons.mpr ⟨lw_p29, List.forall_mem_cons.mpr ⟨lw_p30, List.forall_mem_cons.mpr ⟨lw_p31, fun _ h => absurd h List.not_mem_nil⟩⟩⟩⟩⟩⟩⟩⟩⟩⟩⟩⟩⟩⟩⟩⟩
theorem lw_p32 : lw_okq (⟨"TwoGamesModel", "setTurn", "(II)V"⟩, 29) := ⟨⟨by decide +kernel, by decide +kernel⟩, List.mem_of_getElem? (i := 578) (by decide +kernel), List.mem_of_getElem? (i := 774) (by decide +kernel), List.mem_of_getElem? (i := 775) (by decide +kernel)⟩
theorem lw_p33 : lw_okq (⟨"TwoGamesModel", "setRound", "()V"⟩, 29) := ⟨⟨by decide +kernel, by decide +kernel⟩, List.mem_of_getElem? (i := 578) (by decide +kernel), List.mem_of_getElem? (i := 778) (by decide +kernel), List.mem_of_getElem? (i := 779) (by decide +kernel)⟩
theorem lw_p34 : lw_okq (⟨"TwoGamesModel", "turn", "(IIJ)V"⟩, 29) := ⟨⟨by decide +kernel, by decide +kernel⟩, List.mem_of_getElem? (i := 578) (by decide +kernel), List.mem_of_getElem? (i := 782) (by decide +kernel), List.mem_of_getElem? (i := 783) (by decide +kernel)⟩
theorem lw_p35 : lw_okq (⟨"TwoGamesModel", "q", "(II)J"⟩, 29) := ⟨⟨by decide +kernel, by decide +kernel⟩, List.mem_of_getElem? (i := 578) (by decide +kernel), List.mem_of_getElem? (i := 787) (by decide +kernel), List.mem_of_getElem? (i := 788) (by decide +kernel)⟩
theorem lw_p36 : lw_okq (⟨"TwoGamesModel", "tell", "(JJI)I"⟩, 29) := ⟨⟨by decide +kernel, by decide +kernel⟩, List.mem_of_getElem? (i := 578) (by decide +kernel), List.mem_of_getElem? (i := 791) (by decide +kernel), List.mem_of_getElem? (i := 792) (by decide +kernel)⟩
theorem lw_p37 : lw_okq (⟨"TwoGamesModel", "settles", "()Z"⟩, 29) := ⟨⟨by decide +kernel, by decide +kernel⟩, List.mem_of_getElem? (i := 578) (by decide +kernel), List.mem_of_getElem? (i := 799) (by decide +kernel), List.mem_of_getElem? (i := 800) (by decide +kernel)⟩
theorem lw_p38 : lw_okq (⟨"TwoGamesModel", "tellGain", "()I"⟩, 29) := ⟨⟨by decide +kernel, by decide +kernel⟩, List.mem_of_getElem? (i := 578) (by decide +kernel), List.mem_of_getElem? (i := 807) (by decide +kernel), List.mem_of_getElem? (i := 808) (by decide +kernel)⟩
theorem lw_p39 : lw_okq (⟨"TwoGamesModel", "hasGain", "()Z"⟩, 29) := ⟨⟨by decide +kernel, by decide +kernel⟩, List.mem_of_getElem? (i := 578) (by decide +kernel), List.mem_of_getElem? (i := 811) (by decide +kernel), List.mem_of_getElem? (i := 812) (by decide +kernel)⟩
theorem lw_p40 : lw_okq (⟨"TwoGamesModel", "askedTwo", "(II)I"⟩, 29) := ⟨⟨by decide +kernel, by decide +kernel⟩, List.mem_of_getElem? (i := 578) (by decide +kernel), List.mem_of_getElem? (i := 819) (by decide +kernel), List.mem_of_getElem? (i := 820) (by decide +kernel)⟩
theorem lw_p41 : lw_okq (⟨"TwoGamesModel", "setLot", "(III)V"⟩, 29) := ⟨⟨by decide +kernel, by decide +kernel⟩, List.mem_of_getElem? (i := 578) (by decide +kernel), List.mem_of_getElem? (i := 823) (by decide +kernel), List.mem_of_getElem? (i := 824) (by decide +kernel)⟩
theorem lw_p42 : lw_okq (⟨"TwoGamesModel", "isMore", "()Z"⟩, 29) := ⟨⟨by decide +kernel, by decide +kernel⟩, List.mem_of_getElem? (i := 578) (by decide +kernel), List.mem_of_getElem? (i := 836) (by decide +kernel), List.mem_of_getElem? (i := 837) (by decide +kernel)⟩
theorem lw_p43 : lw_okq (⟨"TwoGamesModel", "loses", "(I)Z"⟩, 29) := ⟨⟨by decide +kernel, by decide +kernel⟩, List.mem_of_getElem? (i := 578) (by decide +kernel), List.mem_of_getElem? (i := 855) (by decide +kernel), List.mem_of_getElem? (i := 856) (by decide +kernel)⟩
theorem lw_p44 : lw_okq (⟨"TwoGamesModel", "setPurses", "(II)J"⟩, 29) := ⟨⟨by decide +kernel, by decide +kernel⟩, List.mem_of_getElem? (i := 578) (by decide +kernel), List.mem_of_getElem? (i := 863) (by decide +kernel), List.mem_of_getElem? (i := 864) (by decide +kernel)⟩
theorem lw_p45 : lw_okq (⟨"TwoGamesModel", "restOf", "(I)I"⟩, 29) := ⟨⟨by decide +kernel, by decide +kernel⟩, List.mem_of_getElem? (i := 578) (by decide +kernel), List.mem_of_getElem? (i := 867) (by decide +kernel), List.mem_of_getElem? (i := 868) (by decide +kernel)⟩
def lw_privs_3 : List (MethodName × Nat) := [(⟨"TwoGamesModel", "setTurn", "(II)V"⟩, 29), (⟨"TwoGamesModel", "setRound", "()V"⟩, 29), (⟨"TwoGamesModel", "turn", "(IIJ)V"⟩, 29), (⟨"TwoGamesModel", "q", "(II)J"⟩, 29), (⟨"TwoGamesModel", "tell", "(JJI)I"⟩, 29), (⟨"TwoGamesModel", "settles", "()Z"⟩, 29), (⟨"TwoGamesModel", "tellGain", "()I"⟩, 29), (⟨"TwoGamesModel", "hasGain", "()Z"⟩, 29), (⟨"TwoGamesModel", "askedTwo", "(II)I"⟩, 29), (⟨"TwoGamesModel", "setLot", "(III)V"⟩, 29), (⟨"TwoGamesModel", "isMore", "()Z"⟩, 29), (⟨"TwoGamesModel", "loses", "(I)Z"⟩, 29), (⟨"TwoGamesModel", "setPurses", "(II)J"⟩, 29), (⟨"TwoGamesModel", "restOf", "(I)I"⟩, 29)]
theorem lw_r3 : ∀ q ∈ lw_privs_3, lw_okq q := List.forall_mem_cons.mpr ⟨lw_p32, List.forall_mem_cons.mpr ⟨lw_p33, List.forall_mem_cons.mpr ⟨lw_p34, List.forall_mem_cons.mpr ⟨lw_p35, List.forall_mem_cons.mpr ⟨lw_p36, List.forall_mem_cons.mpr ⟨lw_p37, List.forall_mem_cons.mpr ⟨lw_p38, List.forall_mem_cons.mpr ⟨lw_p39, List.forall_mem_cons.mpr ⟨lw_p40, List.forall_mem_cons.mpr ⟨lw_p41, List.forall_mem_cons.mpr ⟨lw_p42, List.forall_mem_cons.mpr ⟨lw_p43, List.forall_mem_cons.mpr ⟨lw_p44, List.forall_mem_cons.mpr ⟨lw_p45, fun _ h => absurd h List.not_mem_nil⟩⟩⟩⟩⟩⟩⟩⟩⟩⟩⟩⟩⟩⟩
def lw_privs : List (MethodName × Nat) := lw_privs_1 ++ (lw_privs_2 ++ (lw_privs_3))
def lw_tbl : List Cond := k2_sels lw_privs ++ tables_1
theorem lw_privs_ok : ∀ q ∈ lw_privs, lw_okq q := by
  show ∀ q ∈ lw_privs_1 ++ (lw_privs_2 ++ (lw_privs_3)), lw_okq q
  exact List.forall_mem_append.mpr ⟨lw_r1, List.forall_mem_append.mpr ⟨lw_r2, lw_r3⟩⟩
end
section
def RX0 : String := "TwoGames$Best"
def TX0 : u_T := fun k => match k with
  | 0 => ("TwoGames$Best", "found", "Z", false)
  | 1 => ("TwoGames$Best", "gainSum", "J", false)
  | 2 => ("TwoGames$Best", "weightSum", "J", false)
  | 3 => ("TwoGames$Best", "gainScale", "J", false)
  | _ => ("TwoGames$Best", "numbers", "[I", true)
def tyX0 : Nat → FieldType := fun k => match k with
  | 0 => .boolean
  | 1 => .long
  | 2 => .long
  | 3 => .long
  | _ => .array .int
abbrev wsX00 : List Cond := u_ws RX0 TX0 5
theorem nmX0 : ∀ a, a < 5 → ∀ b, b < 5 → a ≠ b → (TX0 a).2.1 ≠ (TX0 b).2.1 := by decide +kernel
theorem tyX0_ok : ∀ k, k < 5 → parseFieldDescriptor (TX0 k).2.2.1 = some (tyX0 k) := by decide +kernel
def RX1 : String := "TwoGames$Fraction"
def TX1 : u_T := fun k => match k with
  | 0 => ("TwoGames$Fraction", "above", "J", false)
  | _ => ("TwoGames$Fraction", "below", "J", false)
def tyX1 : Nat → FieldType := fun k => match k with
  | 0 => .long
  | _ => .long
abbrev wsX10 : List Cond := u_ws RX1 TX1 2
theorem nmX1 : ∀ a, a < 2 → ∀ b, b < 2 → a ≠ b → (TX1 a).2.1 ≠ (TX1 b).2.1 := by decide +kernel
theorem tyX1_ok : ∀ k, k < 2 → parseFieldDescriptor (TX1 k).2.2.1 = some (tyX1 k) := by decide +kernel
def RX2 : String := "TwoGames$Play"
def TX2 : u_T := fun k => match k with
  | 0 => ("TwoGames$Play", "kind", "I", true)
  | 1 => ("TwoGames$Play", "size", "I", true)
  | _ => ("TwoGames$Play", "wins", "[I", true)
def tyX2 : Nat → FieldType := fun k => match k with
  | 0 => .int
  | 1 => .int
  | _ => .array .int
abbrev wsX20 : List Cond := u_ws RX2 TX2 3
theorem nmX2 : ∀ a, a < 3 → ∀ b, b < 3 → a ≠ b → (TX2 a).2.1 ≠ (TX2 b).2.1 := by decide +kernel
theorem tyX2_ok : ∀ k, k < 3 → parseFieldDescriptor (TX2 k).2.2.1 = some (tyX2 k) := by decide +kernel
def RX3 : String := "TwoGames$Purses"
def TX3 : u_T := fun k => match k with
  | 0 => ("TwoGames$Purses", "first", "I", false)
  | 1 => ("TwoGames$Purses", "turns", "I", false)
  | 2 => ("TwoGames$Purses", "scale", "J", false)
  | _ => ("TwoGames$Purses", "chances", "[J", true)
def tyX3 : Nat → FieldType := fun k => match k with
  | 0 => .int
  | 1 => .int
  | 2 => .long
  | _ => .array .long
abbrev wsX30 : List Cond := u_ws RX3 TX3 4
theorem nmX3 : ∀ a, a < 4 → ∀ b, b < 4 → a ≠ b → (TX3 a).2.1 ≠ (TX3 b).2.1 := by decide +kernel
theorem tyX3_ok : ∀ k, k < 4 → parseFieldDescriptor (TX3 k).2.2.1 = some (tyX3 k) := by decide +kernel
def RX4 : String := "TwoGames$Round"
def TX4 : u_T := fun k => match k with
  | 0 => ("TwoGames$Round", "rests", "I", false)
  | 1 => ("TwoGames$Round", "turns", "I", false)
  | 2 => ("TwoGames$Round", "scale", "J", false)
  | 3 => ("TwoGames$Round", "chances", "[J", true)
  | 4 => ("TwoGames$Round", "gains", "[J", true)
  | 5 => ("TwoGames$Round", "weights", "[J", true)
  | 6 => ("TwoGames$Round", "weightSum", "J", false)
  | _ => ("TwoGames$Round", "gainSum", "J", false)
def tyX4 : Nat → FieldType := fun k => match k with
  | 0 => .int
  | 1 => .int
  | 2 => .long
  | 3 => .array .long
  | 4 => .array .long
  | 5 => .array .long
  | 6 => .long
  | _ => .long
abbrev wsX40 : List Cond := u_ws RX4 TX4 8
theorem nmX4 : ∀ a, a < 8 → ∀ b, b < 8 → a ≠ b → (TX4 a).2.1 ≠ (TX4 b).2.1 := by decide +kernel
theorem tyX4_ok : ∀ k, k < 8 → parseFieldDescriptor (TX4 k).2.2.1 = some (tyX4 k) := by decide +kernel
def RX5 : String := "TwoGames$Row"
def TX5 : u_T := fun k => match k with
  | 0 => ("TwoGames$Row", "size", "I", false)
  | _ => ("TwoGames$Row", "places", "[I", true)
def tyX5 : Nat → FieldType := fun k => match k with
  | 0 => .int
  | _ => .array .int
abbrev wsX50 : List Cond := u_ws RX5 TX5 2
theorem nmX5 : ∀ a, a < 2 → ∀ b, b < 2 → a ≠ b → (TX5 a).2.1 ≠ (TX5 b).2.1 := by decide +kernel
theorem tyX5_ok : ∀ k, k < 2 → parseFieldDescriptor (TX5 k).2.2.1 = some (tyX5 k) := by decide +kernel
def RX6 : String := "TwoGames"
def TX6 : u_T := fun k => match k with
  | 0 => ("TwoGames", "rests", "I", false)
  | 1 => ("TwoGames", "playCount", "I", false)
  | 2 => ("TwoGames", "plays", "[LTwoGames$Play;", true)
  | 3 => ("TwoGames", "rows", "[LTwoGames$Row;", true)
  | 4 => ("TwoGames", "latestFinding", "I", false)
  | 5 => ("TwoGames", "findingCounts", "[I", true)
  | 6 => ("TwoGames", "fraction", "LTwoGames$Fraction;", true)
  | 7 => ("TwoGames", "chosen", "[I", true)
  | 8 => ("TwoGames", "rounds", "[LTwoGames$Round;", true)
  | 9 => ("TwoGames", "turnOdds", "[I", true)
  | 10 => ("TwoGames", "tried", "[I", true)
  | 11 => ("TwoGames", "trial", "LTwoGames$Row;", true)
  | 12 => ("TwoGames", "best", "LTwoGames$Best;", true)
  | _ => ("TwoGames", "purses", "LTwoGames$Purses;", true)
def tyX6 : Nat → FieldType := fun k => match k with
  | 0 => .int
  | 1 => .int
  | 2 => .array (.object "TwoGames$Play")
  | 3 => .array (.object "TwoGames$Row")
  | 4 => .int
  | 5 => .array .int
  | 6 => .object "TwoGames$Fraction"
  | 7 => .array .int
  | 8 => .array (.object "TwoGames$Round")
  | 9 => .array .int
  | 10 => .array .int
  | 11 => .object "TwoGames$Row"
  | 12 => .object "TwoGames$Best"
  | _ => .object "TwoGames$Purses"
abbrev wsX60 : List Cond := u_ws RX6 TX6 14
theorem nmX6 : ∀ a, a < 14 → ∀ b, b < 14 → a ≠ b → (TX6 a).2.1 ≠ (TX6 b).2.1 := by decide +kernel
theorem tyX6_ok : ∀ k, k < 14 → parseFieldDescriptor (TX6 k).2.2.1 = some (tyX6 k) := by decide +kernel
def RX7 : String := "TwoGamesModel"
def TX7 : u_T := fun k => match k with
  | 0 => ("TwoGamesModel", "finding", "I", false)
  | 1 => ("TwoGamesModel", "findings", "[I", true)
  | 2 => ("TwoGamesModel", "upper", "J", false)
  | 3 => ("TwoGamesModel", "lower", "J", false)
  | 4 => ("TwoGamesModel", "rests", "I", false)
  | 5 => ("TwoGamesModel", "plays", "I", false)
  | 6 => ("TwoGamesModel", "kinds", "[I", true)
  | 7 => ("TwoGamesModel", "oddsRow", "[I", true)
  | 8 => ("TwoGamesModel", "sizes", "[I", true)
  | 9 => ("TwoGamesModel", "rows", "[I", true)
  | 10 => ("TwoGamesModel", "moving", "[I", true)
  | 11 => ("TwoGamesModel", "turns", "I", false)
  | 12 => ("TwoGamesModel", "whole", "J", false)
  | 13 => ("TwoGamesModel", "wins", "[J", true)
  | 14 => ("TwoGamesModel", "all", "J", false)
  | 15 => ("TwoGamesModel", "leading", "[J", true)
  | 16 => ("TwoGamesModel", "gains", "[J", true)
  | 17 => ("TwoGamesModel", "now", "[J", true)
  | 18 => ("TwoGamesModel", "next", "[J", true)
  | 19 => ("TwoGamesModel", "shares", "[J", true)
  | 20 => ("TwoGamesModel", "allShares", "J", false)
  | 21 => ("TwoGamesModel", "gainUp", "J", false)
  | 22 => ("TwoGamesModel", "gainLow", "J", false)
  | 23 => ("TwoGamesModel", "bestUp", "J", false)
  | 24 => ("TwoGamesModel", "bestLow", "J", false)
  | 25 => ("TwoGamesModel", "held", "[I", true)
  | 26 => ("TwoGamesModel", "choices", "[I", true)
  | 27 => ("TwoGamesModel", "purses", "[J", true)
  | _ => ("TwoGamesModel", "later", "[J", true)
def tyX7 : Nat → FieldType := fun k => match k with
  | 0 => .int
  | 1 => .array .int
  | 2 => .long
  | 3 => .long
  | 4 => .int
  | 5 => .int
  | 6 => .array .int
  | 7 => .array .int
  | 8 => .array .int
  | 9 => .array .int
  | 10 => .array .int
  | 11 => .int
  | 12 => .long
  | 13 => .array .long
  | 14 => .long
  | 15 => .array .long
  | 16 => .array .long
  | 17 => .array .long
  | 18 => .array .long
  | 19 => .array .long
  | 20 => .long
  | 21 => .long
  | 22 => .long
  | 23 => .long
  | 24 => .long
  | 25 => .array .int
  | 26 => .array .int
  | 27 => .array .long
  | _ => .array .long
abbrev wsX70 : List Cond := u_ws RX7 TX7 29
theorem nmX7 : ∀ a, a < 29 → ∀ b, b < 29 → a ≠ b → (TX7 a).2.1 ≠ (TX7 b).2.1 := by decide +kernel
theorem tyX7_ok : ∀ k, k < 29 → parseFieldDescriptor (TX7 k).2.2.1 = some (tyX7 k) := by decide +kernel
abbrev vwCl : List vw_C := [(RX0, TX0, 5), (RX1, TX1, 2), (RX2, TX2, 3), (RX3, TX3, 4), (RX4, TX4, 8), (RX5, TX5, 2), (RX6, TX6, 14), (RX7, TX7, 29)]
/-- the type of a field, by class and place -/
def am_ty : Nat → Nat → FieldType := fun c => match c with
  | 0 => tyX0
  | 1 => tyX1
  | 2 => tyX2
  | 3 => tyX3
  | 4 => tyX4
  | 5 => tyX5
  | 6 => tyX6
  | _ => tyX7
/-- the component class of an array of references, by its kind -/
def am_ra : Nat → String := fun k => match k with
  | 2 => "TwoGames$Play"
  | 3 => "TwoGames$Round"
  | _ => "TwoGames$Row"
def RL : String := "TwoGamesLaw"
end
section
abbrev am_E : Type := Nat × Instr × Nat × Nat × Nat × Nat
abbrev am_T : Type := MethodName × ByteArray × Nat × Option FieldType × Nat × List am_E
def tT_init_c0 : List am_E := [(0, .aload_n 0, 1, 0, 0, 0), (1, .invokespecial 1, 4, 0, 200, 63), (4, .aload_n 0, 5, 0, 0, 0), (5, .iconst 3, 6, 0, 0, 0), (6, .putfield 9, 9, 6, 0, 188), (9, .aload_n 0, 10, 0, 0, 0), (10, .iconst 0, 11, 0, 0, 0), (11, .putfield 13, 14, 6, 1, 189), (14, .aload_n 0, 15, 0, 0, 0), (15, .bipush 8, 17, 0, 0, 0), (17, .anewarray 16, 20, 2, 0, 66), (20, .putfield 18, 23, 6, 2, 190), (23, .aload_n 0, 24, 0, 0, 0), (24, .iconst 4, 25, 0, 0, 0), (25, .anewarray 22, 28, 4, 0, 68), (28, .putfield 24, 31, 6, 3, 191), (31, .aload_n 0, 32, 0, 0, 0), (32, .iconst 0, 33, 0, 0, 0), (33, .putfield 28, 36, 6, 4, 192), (36, .aload_n 0, 37, 0, 0, 0), (37, .bipush 6, 39, 0, 0, 0), (39, .newarray .int, 41, 0, 0, 0), (41, .putfield 31, 44, 6, 5, 193), (44, .aload_n 0, 45, 0, 0, 0), (45, .new 35, 48, 11, 0, 70), (48, .dup, 49, 0, 0, 0), (49, .invokespecial 37, 52, 1, 100, 72), (52, .putfield 38, 55, 6, 6, 194), (55, .aload_n 0, 56, 0, 0, 0), (56, .iconst 3, 57, 0, 0, 0), (57, .newarray .int, 59, 0, 0, 0), (59, .putfield 42, 62, 6, 7, 195), (62, .aload_n 0, 63, 0, 0, 0), (63, .iconst 5, 64, 0, 0, 0), (64, .anewarray 45, 67, 3, 0, 86), (67, .putfield 47, 70, 6, 8, 196), (70, .aload_n 0, 71, 0, 0, 0), (71, .iconst 3, 72, 0, 0, 0), (72, .newarray .int, 74, 0, 0, 0), (74, .putfield 51, 77, 6, 9, 197), (77, .aload_n 0, 78, 0, 0, 0), (78, .iconst 4, 79, 0, 0, 0), (79, .newarray .int, 81, 0, 0, 0), (81, .putfield 54, 84, 6, 10, 198), (84, .aload_n 0, 85, 0, 0, 0), (85, .new 22, 88, 15, 0, 68), (88, .dup, 89, 0, 0, 0), (89, .invokespecial 57, 92, 2, 100, 89), (92, .putfield 58, 95, 6, 11, 199), (95, .aload_n 0, 96, 0, 0, 0), (96, .new 62, 99, 10, 0, 102), (99, .dup, 100, 0, 0, 0), (100, .invokespecial 64, 103, 3, 100, 104), (103, .putfield 65, 106, 6, 12, 200), (106, .aload_n 0, 107, 0, 0, 0), (107, .new 69, 110, 13, 0, 128), (110, .dup, 111, 0, 0, 0), (111, .invokespecial 71, 114, 4, 100, 130), (114, .putfield 72, 117, 6, 13, 201), (117, .iconst 0, 118, 0, 0, 0)]
def tT_init_c1 : List am_E := [(118, .istore_n 1, 119, 0, 0, 0), (119, .iload_n 1, 120, 0, 0, 0), (120, .iconst 4, 121, 0, 0, 0), (121, .if_icmp .ge 22, 124, 143, 0, 0), (124, .aload_n 0, 125, 0, 0, 0), (125, .getfield 24, 128, 6, 3, 191), (128, .iload_n 1, 129, 0, 0, 0), (129, .new 22, 132, 15, 0, 68), (132, .dup, 133, 0, 0, 0), (133, .invokespecial 57, 136, 2, 100, 89), (136, .aastore, 137, 0, 0, 0), (137, .iinc 1 1, 140, 0, 0, 0), (140, .goto (-21), 143, 119, 0, 0), (143, .iconst 0, 144, 0, 0, 0), (144, .istore_n 1, 145, 0, 0, 0), (145, .iload_n 1, 146, 0, 0, 0), (146, .iconst 4, 147, 0, 0, 0), (147, .if_icmp .gt 22, 150, 169, 0, 0), (150, .aload_n 0, 151, 0, 0, 0), (151, .getfield 47, 154, 6, 8, 196), (154, .iload_n 1, 155, 0, 0, 0), (155, .new 45, 158, 14, 0, 86), (158, .dup, 159, 0, 0, 0), (159, .invokespecial 76, 162, 5, 100, 150), (162, .aastore, 163, 0, 0, 0), (163, .iinc 1 1, 166, 0, 0, 0), (166, .goto (-21), 169, 145, 0, 0), (169, .aload_n 0, 170, 0, 0, 0), (170, .getfield 42, 173, 6, 7, 195), (173, .bipush (-9), 175, 0, 0, 0), (175, .invokestatic 77, 178, 6, 2, 185), (178, .return_, 179, 0, 0, 0)]
def tT_init : am_T := (⟨"TwoGames", "<init>", "()V"⟩, prog_1_method_1_code, 2, none, 16, tT_init_c0 ++ (tT_init_c1))
def tF_init : am_T := (⟨"TwoGames$Fraction", "<init>", "()V"⟩, prog_3_method_1_code, 1, none, 11, [(0, .aload_n 0, 1, 0, 0, 0), (1, .invokespecial 1, 4, 0, 200, 75), (4, .aload_n 0, 5, 0, 0, 0), (5, .lconst 0, 6, 0, 0, 0), (6, .putfield 7, 9, 1, 0, 76), (9, .aload_n 0, 10, 0, 0, 0), (10, .lconst 1, 11, 0, 0, 0), (11, .putfield 13, 14, 1, 1, 78), (14, .return_, 15, 0, 0, 0)])
def tW_init : am_T := (⟨"TwoGames$Row", "<init>", "()V"⟩, prog_7_method_1_code, 1, none, 15, [(0, .aload_n 0, 1, 0, 0, 0), (1, .invokespecial 3, 4, 0, 200, 92), (4, .aload_n 0, 5, 0, 0, 0), (5, .iconst (-1), 6, 0, 0, 0), (6, .putfield 9, 9, 5, 0, 93), (9, .aload_n 0, 10, 0, 0, 0), (10, .iconst 4, 11, 0, 0, 0), (11, .newarray .int, 13, 0, 0, 0), (13, .putfield 15, 16, 5, 1, 95), (16, .return_, 17, 0, 0, 0)])
def tB_init : am_T := (⟨"TwoGames$Best", "<init>", "()V"⟩, prog_2_method_1_code, 1, none, 10, [(0, .aload_n 0, 1, 0, 0, 0), (1, .invokespecial 3, 4, 0, 200, 107), (4, .aload_n 0, 5, 0, 0, 0), (5, .iconst 0, 6, 0, 0, 0), (6, .putfield 9, 9, 0, 0, 108), (9, .aload_n 0, 10, 0, 0, 0), (10, .lconst 0, 11, 0, 0, 0), (11, .putfield 15, 14, 0, 1, 110), (14, .aload_n 0, 15, 0, 0, 0), (15, .lconst 1, 16, 0, 0, 0), (16, .putfield 19, 19, 0, 2, 112), (19, .aload_n 0, 20, 0, 0, 0), (20, .lconst 1, 21, 0, 0, 0), (21, .putfield 22, 24, 0, 3, 113), (24, .aload_n 0, 25, 0, 0, 0), (25, .iconst 4, 26, 0, 0, 0), (26, .newarray .int, 28, 0, 0, 0), (28, .putfield 25, 31, 0, 4, 115), (31, .return_, 32, 0, 0, 0)])
def tU_init : am_T := (⟨"TwoGames$Purses", "<init>", "()V"⟩, prog_5_method_1_code, 1, none, 13, [(0, .aload_n 0, 1, 0, 0, 0), (1, .invokespecial 3, 4, 0, 200, 133), (4, .aload_n 0, 5, 0, 0, 0), (5, .iconst 0, 6, 0, 0, 0), (6, .putfield 9, 9, 3, 0, 134), (9, .aload_n 0, 10, 0, 0, 0), (10, .iconst 0, 11, 0, 0, 0), (11, .putfield 15, 14, 3, 1, 135), (14, .aload_n 0, 15, 0, 0, 0), (15, .lconst 1, 16, 0, 0, 0), (16, .putfield 18, 19, 3, 2, 136), (19, .aload_n 0, 20, 0, 0, 0), (20, .bipush 19, 22, 0, 0, 0), (22, .newarray .long, 24, 0, 0, 0), (24, .putfield 22, 27, 3, 3, 138), (27, .return_, 28, 0, 0, 0)])
def tR_init : am_T := (⟨"TwoGames$Round", "<init>", "()V"⟩, prog_6_method_1_code, 1, none, 14, [(0, .aload_n 0, 1, 0, 0, 0), (1, .invokespecial 3, 4, 0, 200, 153), (4, .aload_n 0, 5, 0, 0, 0), (5, .iconst 1, 6, 0, 0, 0), (6, .putfield 9, 9, 4, 0, 154), (9, .aload_n 0, 10, 0, 0, 0), (10, .iconst 0, 11, 0, 0, 0), (11, .putfield 15, 14, 4, 1, 155), (14, .aload_n 0, 15, 0, 0, 0), (15, .lconst 1, 16, 0, 0, 0), (16, .putfield 18, 19, 4, 2, 156), (19, .aload_n 0, 20, 0, 0, 0), (20, .bipush 9, 22, 0, 0, 0), (22, .newarray .long, 24, 0, 0, 0), (24, .putfield 22, 27, 4, 3, 158), (27, .aload_n 0, 28, 0, 0, 0), (28, .iconst 3, 29, 0, 0, 0), (29, .newarray .long, 31, 0, 0, 0), (31, .putfield 26, 34, 4, 4, 159), (34, .aload_n 0, 35, 0, 0, 0), (35, .iconst 3, 36, 0, 0, 0), (36, .newarray .long, 38, 0, 0, 0), (38, .putfield 29, 41, 4, 5, 160), (41, .aload_n 0, 42, 0, 0, 0), (42, .lconst 0, 43, 0, 0, 0), (43, .putfield 32, 46, 4, 6, 162), (46, .aload_n 0, 47, 0, 0, 0), (47, .lconst 0, 48, 0, 0, 0), (48, .putfield 35, 51, 4, 7, 165), (51, .return_, 52, 0, 0, 0)])
def tJ_fillI : am_T := (⟨"java/util/Arrays", "fill", "([II)V"⟩, prog_12_method_103_code, 4, none, 0, [(0, .iconst 0, 1, 0, 0, 0), (1, .istore_n 2, 2, 0, 0, 0), (2, .aload_n 0, 3, 0, 0, 0), (3, .arraylength, 4, 0, 0, 0), (4, .istore_n 3, 5, 0, 0, 0), (5, .iload_n 2, 6, 0, 0, 0), (6, .iload_n 3, 7, 0, 0, 0), (7, .if_icmp .ge 13, 10, 20, 0, 0), (10, .aload_n 0, 11, 0, 0, 0), (11, .iload_n 2, 12, 0, 0, 0), (12, .iload_n 1, 13, 0, 0, 0), (13, .iastore, 14, 0, 0, 0), (14, .iinc 2 1, 17, 0, 0, 0), (17, .goto (-12), 20, 5, 0, 0), (20, .return_, 21, 0, 0, 0)])
def tT_rest : am_T := (⟨"TwoGames", "rest", "(I)I"⟩, prog_1_method_2_code, 3, (some .int), 16, [(0, .iload_n 1, 1, 0, 0, 0), (1, .iconst 1, 2, 0, 0, 0), (2, .if_icmp .lt 8, 5, 10, 0, 0), (5, .iload_n 1, 6, 0, 0, 0), (6, .iconst 3, 7, 0, 0, 0), (7, .if_icmp .le 5, 10, 12, 0, 0), (10, .iconst (-1), 11, 0, 0, 0), (11, .ireturn, 12, 0, 0, 0), (12, .aload_n 0, 13, 0, 0, 0), (13, .getfield 9, 16, 6, 0, 188), (16, .istore_n 2, 17, 0, 0, 0), (17, .aload_n 0, 18, 0, 0, 0), (18, .iload_n 1, 19, 0, 0, 0), (19, .putfield 9, 22, 6, 0, 188), (22, .iload_n 2, 23, 0, 0, 0), (23, .ireturn, 24, 0, 0, 0)])
def tT_play : am_T := (⟨"TwoGames", "play", "()I"⟩, prog_1_method_3_code, 1, (some .int), 16, [(0, .aload_n 0, 1, 0, 0, 0), (1, .iconst 0, 2, 0, 0, 0), (2, .iconst 0, 3, 0, 0, 0), (3, .bipush 12, 5, 0, 0, 0), (5, .bipush 12, 7, 0, 0, 0), (7, .bipush 12, 9, 0, 0, 0), (9, .bipush 12, 11, 0, 0, 0), (11, .invokevirtual 83, 14, 9, 6, 239), (14, .ireturn, 15, 0, 0, 0)])
def tT_added : am_T := (⟨"TwoGames", "added", "(IIIIII)I"⟩, prog_1_method_36_code, 7, (some .int), 16, [(0, .aload_n 0, 1, 0, 0, 0), (1, .getfield 13, 4, 6, 1, 189), (4, .bipush 8, 6, 0, 0, 0), (6, .if_icmp .lt 6, 9, 12, 0, 0), (9, .bipush (-2), 11, 0, 0, 0), (11, .ireturn, 12, 0, 0, 0), (12, .aload_n 0, 13, 0, 0, 0), (13, .getfield 18, 16, 6, 2, 190), (16, .aload_n 0, 17, 0, 0, 0), (17, .getfield 13, 20, 6, 1, 189), (20, .new 16, 23, 12, 0, 66), (23, .dup, 24, 0, 0, 0), (24, .iload_n 1, 25, 0, 0, 0), (25, .iload_n 2, 26, 0, 0, 0), (26, .iload_n 3, 27, 0, 0, 0), (27, .iload 4, 29, 0, 0, 0), (29, .iload 5, 31, 0, 0, 0), (31, .iload 6, 33, 0, 0, 0), (33, .invokespecial 276, 36, 10, 6, 244), (36, .aastore, 37, 0, 0, 0), (37, .aload_n 0, 38, 0, 0, 0), (38, .dup, 39, 0, 0, 0), (39, .getfield 13, 42, 6, 1, 189), (42, .iconst 1, 43, 0, 0, 0), (43, .iadd, 44, 0, 0, 0), (44, .putfield 13, 47, 6, 1, 189), (47, .aload_n 0, 48, 0, 0, 0), (48, .getfield 13, 51, 6, 1, 189), (51, .iconst 1, 52, 0, 0, 0), (52, .isub, 53, 0, 0, 0), (53, .ireturn, 54, 0, 0, 0)])
def tP_init : am_T := (⟨"TwoGames$Play", "<init>", "(IIIIII)V"⟩, prog_4_method_1_code, 7, none, 12, [(0, .aload_n 0, 1, 0, 0, 0), (1, .invokespecial 3, 4, 0, 200, 247), (4, .aload_n 0, 5, 0, 0, 0), (5, .iconst 4, 6, 0, 0, 0), (6, .newarray .int, 8, 0, 0, 0), (8, .putfield 9, 11, 2, 2, 252), (11, .aload_n 0, 12, 0, 0, 0), (12, .iload_n 1, 13, 0, 0, 0), (13, .putfield 15, 16, 2, 0, 248), (16, .aload_n 0, 17, 0, 0, 0), (17, .iload_n 2, 18, 0, 0, 0), (18, .putfield 19, 21, 2, 1, 250), (21, .aload_n 0, 22, 0, 0, 0), (22, .getfield 9, 25, 2, 2, 252), (25, .iconst 0, 26, 0, 0, 0), (26, .iload_n 3, 27, 0, 0, 0), (27, .iastore, 28, 0, 0, 0), (28, .aload_n 0, 29, 0, 0, 0), (29, .getfield 9, 32, 2, 2, 252), (32, .iconst 1, 33, 0, 0, 0), (33, .iload 4, 35, 0, 0, 0), (35, .iastore, 36, 0, 0, 0), (36, .aload_n 0, 37, 0, 0, 0), (37, .getfield 9, 40, 2, 2, 252), (40, .iconst 2, 41, 0, 0, 0), (41, .iload 5, 43, 0, 0, 0), (43, .iastore, 44, 0, 0, 0), (44, .aload_n 0, 45, 0, 0, 0), (45, .getfield 9, 48, 2, 2, 252), (48, .iconst 3, 49, 0, 0, 0), (49, .iload 6, 51, 0, 0, 0), (51, .iastore, 52, 0, 0, 0), (52, .return_, 53, 0, 0, 0)])
def tT_rested : am_T := (⟨"TwoGames", "rested", "(III)I"⟩, prog_1_method_4_code, 4, (some .int), 16, [(0, .iload_n 1, 1, 0, 0, 0), (1, .invokestatic 87, 4, 12, 1, 265), (4, .ifCond .eq 17, 7, 21, 0, 0), (7, .iload_n 2, 8, 0, 0, 0), (8, .invokestatic 87, 11, 12, 1, 265), (11, .ifCond .eq 10, 14, 21, 0, 0), (14, .iload_n 3, 15, 0, 0, 0), (15, .invokestatic 87, 18, 12, 1, 265), (18, .ifCond .ne 5, 21, 23, 0, 0), (21, .iconst (-1), 22, 0, 0, 0), (22, .ireturn, 23, 0, 0, 0), (23, .aload_n 0, 24, 0, 0, 0), (24, .iconst 1, 25, 0, 0, 0), (25, .iconst 3, 26, 0, 0, 0), (26, .iload_n 1, 27, 0, 0, 0), (27, .iload_n 2, 28, 0, 0, 0), (28, .iload_n 3, 29, 0, 0, 0), (29, .iconst 0, 30, 0, 0, 0), (30, .invokevirtual 83, 33, 9, 6, 239), (33, .ireturn, 34, 0, 0, 0)])
def tT_isOdds : am_T := (⟨"TwoGames", "isOdds", "(I)Z"⟩, prog_1_method_39_code, 1, (some .boolean), 16, [(0, .iload_n 0, 1, 0, 0, 0), (1, .ifCond .lt 13, 4, 14, 0, 0), (4, .iload_n 0, 5, 0, 0, 0), (5, .bipush 12, 7, 0, 0, 0), (7, .if_icmp .gt 7, 10, 14, 0, 0), (10, .iconst 1, 11, 0, 0, 0), (11, .goto 4, 14, 15, 0, 0), (14, .iconst 0, 15, 0, 0, 0), (15, .ireturn, 16, 0, 0, 0)])
def tT_echo : am_T := (⟨"TwoGames", "echo", "(IIII)I"⟩, prog_1_method_5_code, 5, (some .int), 16, [(0, .iload_n 1, 1, 0, 0, 0), (1, .invokestatic 87, 4, 12, 1, 265), (4, .ifCond .eq 25, 7, 29, 0, 0), (7, .iload_n 2, 8, 0, 0, 0), (8, .invokestatic 87, 11, 12, 1, 265), (11, .ifCond .eq 18, 14, 29, 0, 0), (14, .iload_n 3, 15, 0, 0, 0), (15, .invokestatic 87, 18, 12, 1, 265), (18, .ifCond .eq 11, 21, 29, 0, 0), (21, .iload 4, 23, 0, 0, 0), (23, .invokestatic 87, 26, 12, 1, 265), (26, .ifCond .ne 5, 29, 31, 0, 0), (29, .iconst (-1), 30, 0, 0, 0), (30, .ireturn, 31, 0, 0, 0), (31, .aload_n 0, 32, 0, 0, 0), (32, .iconst 2, 33, 0, 0, 0), (33, .iconst 4, 34, 0, 0, 0), (34, .iload_n 1, 35, 0, 0, 0), (35, .iload_n 2, 36, 0, 0, 0), (36, .iload_n 3, 37, 0, 0, 0), (37, .iload 4, 39, 0, 0, 0), (39, .invokevirtual 83, 42, 9, 6, 239), (42, .ireturn, 43, 0, 0, 0)])
def tT_flat : am_T := (⟨"TwoGames", "flat", "(I)I"⟩, prog_1_method_6_code, 2, (some .int), 16, [(0, .iload_n 1, 1, 0, 0, 0), (1, .invokestatic 87, 4, 12, 1, 265), (4, .ifCond .ne 5, 7, 9, 0, 0), (7, .iconst (-1), 8, 0, 0, 0), (8, .ireturn, 9, 0, 0, 0), (9, .aload_n 0, 10, 0, 0, 0), (10, .iconst 3, 11, 0, 0, 0), (11, .iconst 1, 12, 0, 0, 0), (12, .iload_n 1, 13, 0, 0, 0), (13, .iload_n 1, 14, 0, 0, 0), (14, .iload_n 1, 15, 0, 0, 0), (15, .iload_n 1, 16, 0, 0, 0), (16, .invokevirtual 83, 19, 9, 6, 239), (19, .ireturn, 20, 0, 0, 0)])
def tT_told : am_T := (⟨"TwoGames", "told", "(II)I"⟩, prog_1_method_7_code, 4, (some .int), 16, [(0, .aload_n 0, 1, 0, 0, 0), (1, .iload_n 1, 2, 0, 0, 0), (2, .invokevirtual 91, 5, 16, 1, 280), (5, .astore_n 3, 6, 0, 0, 0), (6, .aload_n 3, 7, 0, 0, 0), (7, .ifnonnull 5, 10, 12, 0, 0), (10, .iconst (-1), 11, 0, 0, 0), (11, .ireturn, 12, 0, 0, 0), (12, .iload_n 2, 13, 0, 0, 0), (13, .tableswitch 51 0 3 #[31, 36, 41, 46], 44, 0, 0, 0), (44, .aload_n 3, 45, 0, 0, 0), (45, .getfield 95, 48, 2, 0, 249), (48, .ireturn, 49, 0, 0, 0), (49, .aload_n 3, 50, 0, 0, 0), (50, .getfield 98, 53, 2, 1, 251), (53, .ireturn, 54, 0, 0, 0), (54, .aload_n 3, 55, 0, 0, 0), (55, .invokevirtual 101, 58, 17, 0, 284), (58, .ireturn, 59, 0, 0, 0), (59, .aload_n 3, 60, 0, 0, 0), (60, .invokevirtual 105, 63, 19, 0, 291), (63, .ireturn, 64, 0, 0, 0), (64, .iconst (-1), 65, 0, 0, 0), (65, .ireturn, 66, 0, 0, 0)])
def tT_playAt : am_T := (⟨"TwoGames", "playAt", "(I)LTwoGames$Play;"⟩, prog_1_method_37_code, 2, (some (.object "TwoGames$Play")), 16, [(0, .iload_n 1, 1, 0, 0, 0), (1, .ifCond .lt 11, 4, 12, 0, 0), (4, .iload_n 1, 5, 0, 0, 0), (5, .aload_n 0, 6, 0, 0, 0), (6, .getfield 13, 9, 6, 1, 189), (9, .if_icmp .lt 7, 12, 16, 0, 0), (12, .aconst_null, 13, 0, 0, 0), (13, .goto 9, 16, 22, 0, 0), (16, .aload_n 0, 17, 0, 0, 0), (17, .getfield 18, 20, 6, 2, 190), (20, .iload_n 1, 21, 0, 0, 0), (21, .aaload, 22, 0, 0, 0), (22, .areturn, 23, 0, 0, 0)])
def tP_least : am_T := (⟨"TwoGames$Play", "least", "()I"⟩, prog_4_method_5_code, 3, (some .int), 12, [(0, .aload_n 0, 1, 0, 0, 0), (1, .getfield 19, 4, 2, 1, 250), (4, .ifCond .ne 6, 7, 10, 0, 0), (7, .bipush (-9), 9, 0, 0, 0), (9, .ireturn, 10, 0, 0, 0), (10, .aload_n 0, 11, 0, 0, 0), (11, .getfield 9, 14, 2, 2, 252), (14, .iconst 0, 15, 0, 0, 0), (15, .iaload, 16, 0, 0, 0), (16, .istore_n 1, 17, 0, 0, 0), (17, .iconst 1, 18, 0, 0, 0), (18, .istore_n 2, 19, 0, 0, 0), (19, .iload_n 2, 20, 0, 0, 0), (20, .aload_n 0, 21, 0, 0, 0), (21, .getfield 19, 24, 2, 1, 250), (24, .if_icmp .ge 20, 27, 44, 0, 0), (27, .iload_n 1, 28, 0, 0, 0), (28, .aload_n 0, 29, 0, 0, 0), (29, .getfield 9, 32, 2, 2, 252), (32, .iload_n 2, 33, 0, 0, 0), (33, .iaload, 34, 0, 0, 0), (34, .invokestatic 28, 37, 18, 2, 288), (37, .istore_n 1, 38, 0, 0, 0), (38, .iinc 2 1, 41, 0, 0, 0), (41, .goto (-22), 44, 19, 0, 0), (44, .iload_n 1, 45, 0, 0, 0), (45, .ireturn, 46, 0, 0, 0)])
def tJ_min : am_T := (⟨"java/lang/Math", "min", "(II)I"⟩, prog_10_method_69_code, 2, (some .int), 0, [(0, .iload_n 0, 1, 0, 0, 0), (1, .iload_n 1, 2, 0, 0, 0), (2, .if_icmp .gt 7, 5, 9, 0, 0), (5, .iload_n 0, 6, 0, 0, 0), (6, .goto 4, 9, 10, 0, 0), (9, .iload_n 1, 10, 0, 0, 0), (10, .ireturn, 11, 0, 0, 0)])
def tP_greatest : am_T := (⟨"TwoGames$Play", "greatest", "()I"⟩, prog_4_method_6_code, 3, (some .int), 12, [(0, .aload_n 0, 1, 0, 0, 0), (1, .getfield 19, 4, 2, 1, 250), (4, .ifCond .ne 6, 7, 10, 0, 0), (7, .bipush (-9), 9, 0, 0, 0), (9, .ireturn, 10, 0, 0, 0), (10, .aload_n 0, 11, 0, 0, 0), (11, .getfield 9, 14, 2, 2, 252), (14, .iconst 0, 15, 0, 0, 0), (15, .iaload, 16, 0, 0, 0), (16, .istore_n 1, 17, 0, 0, 0), (17, .iconst 1, 18, 0, 0, 0), (18, .istore_n 2, 19, 0, 0, 0), (19, .iload_n 2, 20, 0, 0, 0), (20, .aload_n 0, 21, 0, 0, 0), (21, .getfield 19, 24, 2, 1, 250), (24, .if_icmp .ge 20, 27, 44, 0, 0), (27, .iload_n 1, 28, 0, 0, 0), (28, .aload_n 0, 29, 0, 0, 0), (29, .getfield 9, 32, 2, 2, 252), (32, .iload_n 2, 33, 0, 0, 0), (33, .iaload, 34, 0, 0, 0), (34, .invokestatic 34, 37, 20, 2, 295), (37, .istore_n 1, 38, 0, 0, 0), (38, .iinc 2 1, 41, 0, 0, 0), (41, .goto (-22), 44, 19, 0, 0), (44, .iload_n 1, 45, 0, 0, 0), (45, .ireturn, 46, 0, 0, 0)])
def tJ_max : am_T := (⟨"java/lang/Math", "max", "(II)I"⟩, prog_10_method_65_code, 2, (some .int), 0, [(0, .iload_n 0, 1, 0, 0, 0), (1, .iload_n 1, 2, 0, 0, 0), (2, .if_icmp .lt 7, 5, 9, 0, 0), (5, .iload_n 0, 6, 0, 0, 0), (6, .goto 4, 9, 10, 0, 0), (9, .iload_n 1, 10, 0, 0, 0), (10, .ireturn, 11, 0, 0, 0)])
def tT_mark : am_T := (⟨"TwoGames", "mark", "(II)I"⟩, prog_1_method_8_code, 4, (some .int), 16, [(0, .aload_n 0, 1, 0, 0, 0), (1, .iload_n 1, 2, 0, 0, 0), (2, .invokevirtual 91, 5, 16, 1, 280), (5, .astore_n 3, 6, 0, 0, 0), (6, .aload_n 3, 7, 0, 0, 0), (7, .ifnull 13, 10, 20, 0, 0), (10, .iload_n 2, 11, 0, 0, 0), (11, .iconst 1, 12, 0, 0, 0), (12, .if_icmp .lt 8, 15, 20, 0, 0), (15, .iload_n 2, 16, 0, 0, 0), (16, .iconst 3, 17, 0, 0, 0), (17, .if_icmp .le 5, 20, 22, 0, 0), (20, .iconst (-1), 21, 0, 0, 0), (21, .ireturn, 22, 0, 0, 0), (22, .aload_n 3, 23, 0, 0, 0), (23, .iload_n 2, 24, 0, 0, 0), (24, .invokevirtual 108, 27, 22, 1, 302), (27, .ifCond .ne 9, 30, 36, 0, 0), (30, .aload_n 0, 31, 0, 0, 0), (31, .iconst 3, 32, 0, 0, 0), (32, .invokevirtual 111, 35, 23, 1, 306), (35, .ireturn, 36, 0, 0, 0), (36, .iload_n 2, 37, 0, 0, 0), (37, .lookupswitch 41 #[(1, 27), (2, 34)], 64, 0, 0, 0), (64, .aload_n 3, 65, 0, 0, 0), (65, .getfield 115, 68, 2, 2, 253), (68, .iconst 0, 69, 0, 0, 0), (69, .iaload, 70, 0, 0, 0), (70, .ireturn, 71, 0, 0, 0), (71, .aload_n 3, 72, 0, 0, 0), (72, .getfield 115, 75, 2, 2, 253), (75, .iconst 3, 76, 0, 0, 0), (76, .iaload, 77, 0, 0, 0), (77, .ireturn, 78, 0, 0, 0), (78, .aload_n 3, 79, 0, 0, 0), (79, .getfield 115, 82, 2, 2, 253), (82, .iconst 0, 83, 0, 0, 0), (83, .iaload, 84, 0, 0, 0), (84, .bipush 6, 86, 0, 0, 0), (86, .isub, 87, 0, 0, 0), (87, .ireturn, 88, 0, 0, 0)])
def tP_isOf : am_T := (⟨"TwoGames$Play", "isOf", "(I)Z"⟩, prog_4_method_2_code, 2, (some .boolean), 12, [(0, .aload_n 0, 1, 0, 0, 0), (1, .getfield 15, 4, 2, 0, 248), (4, .iload_n 1, 5, 0, 0, 0), (5, .if_icmp .eq 16, 8, 21, 0, 0), (8, .aload_n 0, 9, 0, 0, 0), (9, .getfield 15, 12, 2, 0, 248), (12, .iconst 3, 13, 0, 0, 0), (13, .if_icmp .ne 12, 16, 25, 0, 0), (16, .iload_n 1, 17, 0, 0, 0), (17, .iconst 1, 18, 0, 0, 0), (18, .if_icmp .ne 7, 21, 25, 0, 0), (21, .iconst 1, 22, 0, 0, 0), (22, .goto 4, 25, 26, 0, 0), (25, .iconst 0, 26, 0, 0, 0), (26, .ireturn, 27, 0, 0, 0)])
def tT_refuse : am_T := (⟨"TwoGames", "refuse", "(I)I"⟩, prog_1_method_35_code, 2, (some .int), 16, [(0, .aload_n 0, 1, 0, 0, 0), (1, .iload_n 1, 2, 0, 0, 0), (2, .putfield 28, 5, 6, 4, 192), (5, .aload_n 0, 6, 0, 0, 0), (6, .getfield 31, 9, 6, 5, 193), (9, .iload_n 1, 10, 0, 0, 0), (10, .dup2, 11, 0, 0, 0), (11, .iaload, 12, 0, 0, 0), (12, .iconst 1, 13, 0, 0, 0), (13, .iadd, 14, 0, 0, 0), (14, .iastore, 15, 0, 0, 0), (15, .bipush (-3), 17, 0, 0, 0), (17, .ireturn, 18, 0, 0, 0)])
def tT_odds : am_T := (⟨"TwoGames", "odds", "(II)I"⟩, prog_1_method_9_code, 4, (some .int), 16, [(0, .aload_n 0, 1, 0, 0, 0), (1, .iload_n 1, 2, 0, 0, 0), (2, .invokevirtual 91, 5, 16, 1, 280), (5, .astore_n 3, 6, 0, 0, 0), (6, .aload_n 3, 7, 0, 0, 0), (7, .ifnonnull 5, 10, 12, 0, 0), (10, .iconst (-1), 11, 0, 0, 0), (11, .ireturn, 12, 0, 0, 0), (12, .iload_n 2, 13, 0, 0, 0), (13, .ifCond .lt 11, 16, 24, 0, 0), (16, .iload_n 2, 17, 0, 0, 0), (17, .aload_n 3, 18, 0, 0, 0), (18, .invokevirtual 118, 21, 25, 0, 314), (21, .if_icmp .lt 9, 24, 30, 0, 0), (24, .aload_n 0, 25, 0, 0, 0), (25, .iconst 2, 26, 0, 0, 0), (26, .invokevirtual 111, 29, 23, 1, 306), (29, .ireturn, 30, 0, 0, 0), (30, .aload_n 3, 31, 0, 0, 0), (31, .getfield 115, 34, 2, 2, 253), (34, .iload_n 2, 35, 0, 0, 0), (35, .iaload, 36, 0, 0, 0), (36, .ireturn, 37, 0, 0, 0)])
def tP_readable : am_T := (⟨"TwoGames$Play", "readable", "()I"⟩, prog_4_method_3_code, 1, (some .int), 12, [(0, .aload_n 0, 1, 0, 0, 0), (1, .getfield 15, 4, 2, 0, 248), (4, .lookupswitch 32 #[(0, 28), (2, 30)], 32, 0, 0, 0), (32, .iconst 1, 33, 0, 0, 0), (33, .ireturn, 34, 0, 0, 0), (34, .iconst 4, 35, 0, 0, 0), (35, .ireturn, 36, 0, 0, 0), (36, .iconst 3, 37, 0, 0, 0), (37, .ireturn, 38, 0, 0, 0)])
def tT_change : am_T := (⟨"TwoGames", "change", "(III)I"⟩, prog_1_method_10_code, 6, (some .int), 16, [(0, .aload_n 0, 1, 0, 0, 0), (1, .iload_n 1, 2, 0, 0, 0), (2, .invokevirtual 91, 5, 16, 1, 280), (5, .astore 4, 7, 0, 0, 0), (7, .aload 4, 9, 0, 0, 0), (9, .ifnull 10, 12, 19, 0, 0), (12, .iload_n 3, 13, 0, 0, 0), (13, .invokestatic 87, 16, 12, 1, 265), (16, .ifCond .ne 5, 19, 21, 0, 0), (19, .iconst (-1), 20, 0, 0, 0), (20, .ireturn, 21, 0, 0, 0), (21, .aload 4, 23, 0, 0, 0), (23, .getfield 95, 26, 2, 0, 249), (26, .ifCond .ne 9, 29, 35, 0, 0), (29, .aload_n 0, 30, 0, 0, 0), (30, .iconst 3, 31, 0, 0, 0), (31, .invokevirtual 111, 34, 23, 1, 306), (34, .ireturn, 35, 0, 0, 0), (35, .iload_n 2, 36, 0, 0, 0), (36, .ifCond .lt 12, 39, 48, 0, 0), (39, .iload_n 2, 40, 0, 0, 0), (40, .aload 4, 42, 0, 0, 0), (42, .getfield 98, 45, 2, 1, 251), (45, .if_icmp .lt 9, 48, 54, 0, 0), (48, .aload_n 0, 49, 0, 0, 0), (49, .iconst 2, 50, 0, 0, 0), (50, .invokevirtual 111, 53, 23, 1, 306), (53, .ireturn, 54, 0, 0, 0), (54, .aload 4, 56, 0, 0, 0), (56, .getfield 115, 59, 2, 2, 253), (59, .iload_n 2, 60, 0, 0, 0), (60, .iaload, 61, 0, 0, 0), (61, .istore 5, 63, 0, 0, 0), (63, .aload 4, 65, 0, 0, 0), (65, .iload_n 2, 66, 0, 0, 0), (66, .iload_n 3, 67, 0, 0, 0), (67, .invokevirtual 121, 70, 27, 2, 322), (70, .iload 5, 72, 0, 0, 0), (72, .ireturn, 73, 0, 0, 0)])
def tP_become : am_T := (⟨"TwoGames$Play", "become", "(II)V"⟩, prog_4_method_4_code, 3, none, 12, [(0, .aload_n 0, 1, 0, 0, 0), (1, .getfield 15, 4, 2, 0, 248), (4, .iconst 3, 5, 0, 0, 0), (5, .if_icmp .ne 14, 8, 19, 0, 0), (8, .aload_n 0, 9, 0, 0, 0), (9, .getfield 9, 12, 2, 2, 252), (12, .iload_n 2, 13, 0, 0, 0), (13, .invokestatic 22, 16, 6, 2, 326), (16, .goto 19, 19, 35, 0, 0), (19, .iload_n 1, 20, 0, 0, 0), (20, .ifCond .lt 15, 23, 35, 0, 0), (23, .iload_n 1, 24, 0, 0, 0), (24, .iconst 4, 25, 0, 0, 0), (25, .if_icmp .ge 10, 28, 35, 0, 0), (28, .aload_n 0, 29, 0, 0, 0), (29, .getfield 9, 32, 2, 2, 252), (32, .iload_n 1, 33, 0, 0, 0), (33, .iload_n 2, 34, 0, 0, 0), (34, .iastore, 35, 0, 0, 0), (35, .return_, 36, 0, 0, 0)])
def tT_mean : am_T := (⟨"TwoGames", "mean", "(I)I"⟩, prog_1_method_11_code, 3, (some .int), 16, [(0, .aload_n 0, 1, 0, 0, 0), (1, .iload_n 1, 2, 0, 0, 0), (2, .invokevirtual 91, 5, 16, 1, 280), (5, .astore_n 2, 6, 0, 0, 0), (6, .aload_n 2, 7, 0, 0, 0), (7, .ifnonnull 5, 10, 12, 0, 0), (10, .iconst (-1), 11, 0, 0, 0), (11, .ireturn, 12, 0, 0, 0), (12, .aload_n 2, 13, 0, 0, 0), (13, .getfield 98, 16, 2, 1, 251), (16, .ifCond .ne 9, 19, 25, 0, 0), (19, .aload_n 0, 20, 0, 0, 0), (20, .iconst 4, 21, 0, 0, 0), (21, .invokevirtual 111, 24, 23, 1, 306), (24, .ireturn, 25, 0, 0, 0), (25, .aload_n 2, 26, 0, 0, 0), (26, .invokevirtual 125, 29, 29, 0, 331), (29, .aload_n 2, 30, 0, 0, 0), (30, .getfield 98, 33, 2, 1, 251), (33, .idiv, 34, 0, 0, 0), (34, .ireturn, 35, 0, 0, 0)])
def tP_sum : am_T := (⟨"TwoGames$Play", "sum", "()I"⟩, prog_4_method_7_code, 3, (some .int), 12, [(0, .iconst 0, 1, 0, 0, 0), (1, .istore_n 1, 2, 0, 0, 0), (2, .iconst 0, 3, 0, 0, 0), (3, .istore_n 2, 4, 0, 0, 0), (4, .iload_n 2, 5, 0, 0, 0), (5, .aload_n 0, 6, 0, 0, 0), (6, .getfield 19, 9, 2, 1, 250), (9, .if_icmp .ge 18, 12, 27, 0, 0), (12, .iload_n 1, 13, 0, 0, 0), (13, .aload_n 0, 14, 0, 0, 0), (14, .getfield 9, 17, 2, 2, 252), (17, .iload_n 2, 18, 0, 0, 0), (18, .iaload, 19, 0, 0, 0), (19, .iadd, 20, 0, 0, 0), (20, .istore_n 1, 21, 0, 0, 0), (21, .iinc 2 1, 24, 0, 0, 0), (24, .goto (-20), 27, 4, 0, 0), (27, .iload_n 1, 28, 0, 0, 0), (28, .ireturn, 29, 0, 0, 0)])
def tT_row : am_T := (⟨"TwoGames", "row", "(II)I"⟩, prog_1_method_12_code, 4, (some .int), 16, [(0, .aload_n 0, 1, 0, 0, 0), (1, .iload_n 1, 2, 0, 0, 0), (2, .invokevirtual 128, 5, 31, 1, 339), (5, .astore_n 3, 6, 0, 0, 0), (6, .aload_n 3, 7, 0, 0, 0), (7, .ifnull 8, 10, 15, 0, 0), (10, .iload_n 2, 11, 0, 0, 0), (11, .iconst 4, 12, 0, 0, 0), (12, .if_icmp .le 5, 15, 17, 0, 0), (15, .iconst (-1), 16, 0, 0, 0), (16, .ireturn, 17, 0, 0, 0), (17, .iload_n 2, 18, 0, 0, 0), (18, .ifCond .ge 9, 21, 27, 0, 0), (21, .aload_n 0, 22, 0, 0, 0), (22, .iconst 5, 23, 0, 0, 0), (23, .invokevirtual 111, 26, 23, 1, 306), (26, .ireturn, 27, 0, 0, 0), (27, .aload_n 3, 28, 0, 0, 0), (28, .iload_n 2, 29, 0, 0, 0), (29, .invokevirtual 132, 32, 32, 1, 343), (32, .iload_n 2, 33, 0, 0, 0), (33, .ireturn, 34, 0, 0, 0)])
def tT_rowAt : am_T := (⟨"TwoGames", "rowAt", "(I)LTwoGames$Row;"⟩, prog_1_method_38_code, 2, (some (.object "TwoGames$Row")), 16, [(0, .iload_n 1, 1, 0, 0, 0), (1, .ifCond .lt 8, 4, 9, 0, 0), (4, .iload_n 1, 5, 0, 0, 0), (5, .iconst 4, 6, 0, 0, 0), (6, .if_icmp .lt 7, 9, 13, 0, 0), (9, .aconst_null, 10, 0, 0, 0), (10, .goto 9, 13, 19, 0, 0), (13, .aload_n 0, 14, 0, 0, 0), (14, .getfield 24, 17, 6, 3, 191), (17, .iload_n 1, 18, 0, 0, 0), (18, .aaload, 19, 0, 0, 0), (19, .areturn, 20, 0, 0, 0)])
def tW_become : am_T := (⟨"TwoGames$Row", "become", "(I)V"⟩, prog_7_method_3_code, 2, none, 15, [(0, .aload_n 0, 1, 0, 0, 0), (1, .iload_n 1, 2, 0, 0, 0), (2, .putfield 9, 5, 5, 0, 93), (5, .aload_n 0, 6, 0, 0, 0), (6, .getfield 15, 9, 5, 1, 95), (9, .iconst 0, 10, 0, 0, 0), (10, .invokestatic 19, 13, 6, 2, 347), (13, .return_, 14, 0, 0, 0)])
def tT_lay : am_T := (⟨"TwoGames", "lay", "(III)I"⟩, prog_1_method_13_code, 6, (some .int), 16, [(0, .aload_n 0, 1, 0, 0, 0), (1, .iload_n 1, 2, 0, 0, 0), (2, .invokevirtual 128, 5, 31, 1, 339), (5, .astore 4, 7, 0, 0, 0), (7, .aload 4, 9, 0, 0, 0), (9, .ifnonnull 5, 12, 14, 0, 0), (12, .iconst (-1), 13, 0, 0, 0), (13, .ireturn, 14, 0, 0, 0), (14, .aload 4, 16, 0, 0, 0), (16, .invokevirtual 135, 19, 34, 0, 352), (19, .ifCond .eq 9, 22, 28, 0, 0), (22, .aload_n 0, 23, 0, 0, 0), (23, .iconst 1, 24, 0, 0, 0), (24, .invokevirtual 111, 27, 23, 1, 306), (27, .ireturn, 28, 0, 0, 0), (28, .iload_n 2, 29, 0, 0, 0), (29, .ifCond .lt 12, 32, 41, 0, 0), (32, .iload_n 2, 33, 0, 0, 0), (33, .aload 4, 35, 0, 0, 0), (35, .getfield 139, 38, 5, 0, 94), (38, .if_icmp .lt 9, 41, 47, 0, 0), (41, .aload_n 0, 42, 0, 0, 0), (42, .iconst 2, 43, 0, 0, 0), (43, .invokevirtual 111, 46, 23, 1, 306), (46, .ireturn, 47, 0, 0, 0), (47, .aload 4, 49, 0, 0, 0), (49, .getfield 140, 52, 5, 1, 96), (52, .iload_n 2, 53, 0, 0, 0), (53, .iaload, 54, 0, 0, 0), (54, .istore 5, 56, 0, 0, 0), (56, .aload 4, 58, 0, 0, 0), (58, .getfield 140, 61, 5, 1, 96), (61, .iload_n 2, 62, 0, 0, 0), (62, .iload_n 3, 63, 0, 0, 0), (63, .iastore, 64, 0, 0, 0), (64, .iload 5, 66, 0, 0, 0), (66, .sipush 1000, 69, 0, 0, 0), (69, .iadd, 70, 0, 0, 0), (70, .ireturn, 71, 0, 0, 0)])
def tW_isMissing : am_T := (⟨"TwoGames$Row", "isMissing", "()Z"⟩, prog_7_method_2_code, 1, (some .boolean), 15, [(0, .aload_n 0, 1, 0, 0, 0), (1, .getfield 9, 4, 5, 0, 93), (4, .iconst (-1), 5, 0, 0, 0), (5, .if_icmp .ne 7, 8, 12, 0, 0), (8, .iconst 1, 9, 0, 0, 0), (9, .goto 4, 12, 13, 0, 0), (12, .iconst 0, 13, 0, 0, 0), (13, .ireturn, 14, 0, 0, 0)])
def tT_tear : am_T := (⟨"TwoGames", "tear", "(I)I"⟩, prog_1_method_14_code, 3, (some .int), 16, [(0, .aload_n 0, 1, 0, 0, 0), (1, .iload_n 1, 2, 0, 0, 0), (2, .invokevirtual 128, 5, 31, 1, 339), (5, .astore_n 2, 6, 0, 0, 0), (6, .aload_n 2, 7, 0, 0, 0), (7, .ifnonnull 5, 10, 12, 0, 0), (10, .iconst (-1), 11, 0, 0, 0), (11, .ireturn, 12, 0, 0, 0), (12, .aload_n 2, 13, 0, 0, 0), (13, .invokevirtual 135, 16, 34, 0, 352), (16, .ifCond .eq 9, 19, 25, 0, 0), (19, .aload_n 0, 20, 0, 0, 0), (20, .iconst 1, 21, 0, 0, 0), (21, .invokevirtual 111, 24, 23, 1, 306), (24, .ireturn, 25, 0, 0, 0), (25, .aload_n 2, 26, 0, 0, 0), (26, .iconst (-1), 27, 0, 0, 0), (27, .putfield 139, 30, 5, 0, 94), (30, .iconst 1, 31, 0, 0, 0), (31, .ireturn, 32, 0, 0, 0)])
def tT_copy : am_T := (⟨"TwoGames", "copy", "(IIIII)I"⟩, prog_1_method_15_code, 8, (some .int), 16, [(0, .aload_n 0, 1, 0, 0, 0), (1, .iload_n 1, 2, 0, 0, 0), (2, .invokevirtual 128, 5, 31, 1, 339), (5, .astore 6, 7, 0, 0, 0), (7, .aload_n 0, 8, 0, 0, 0), (8, .iload_n 3, 9, 0, 0, 0), (9, .invokevirtual 128, 12, 31, 1, 339), (12, .astore 7, 14, 0, 0, 0), (14, .aload 6, 16, 0, 0, 0), (16, .ifnull 8, 19, 24, 0, 0), (19, .aload 7, 21, 0, 0, 0), (21, .ifnonnull 5, 24, 26, 0, 0), (24, .iconst (-1), 25, 0, 0, 0), (25, .ireturn, 26, 0, 0, 0), (26, .iload 5, 28, 0, 0, 0), (28, .ifCond .ge 9, 31, 37, 0, 0), (31, .aload_n 0, 32, 0, 0, 0), (32, .iconst 5, 33, 0, 0, 0), (33, .invokevirtual 111, 36, 23, 1, 306), (36, .ireturn, 37, 0, 0, 0), (37, .aload 6, 39, 0, 0, 0), (39, .invokevirtual 135, 42, 34, 0, 352), (42, .ifCond .ne 11, 45, 53, 0, 0), (45, .aload 7, 47, 0, 0, 0), (47, .invokevirtual 135, 50, 34, 0, 352), (50, .ifCond .eq 9, 53, 59, 0, 0), (53, .aload_n 0, 54, 0, 0, 0), (54, .iconst 1, 55, 0, 0, 0), (55, .invokevirtual 111, 58, 23, 1, 306), (58, .ireturn, 59, 0, 0, 0), (59, .aload 6, 61, 0, 0, 0), (61, .iload_n 2, 62, 0, 0, 0), (62, .iload 5, 64, 0, 0, 0), (64, .invokevirtual 143, 67, 37, 2, 364), (67, .ifCond .eq 15, 70, 82, 0, 0), (70, .aload 7, 72, 0, 0, 0), (72, .iload 4, 74, 0, 0, 0), (74, .iload 5, 76, 0, 0, 0), (76, .invokevirtual 143, 79, 37, 2, 364), (79, .ifCond .ne 9, 82, 88, 0, 0), (82, .aload_n 0, 83, 0, 0, 0), (83, .iconst 2, 84, 0, 0, 0), (84, .invokevirtual 111, 87, 23, 1, 306), (87, .ireturn, 88, 0, 0, 0), (88, .aload 6, 90, 0, 0, 0), (90, .getfield 140, 93, 5, 1, 96), (93, .iload_n 2, 94, 0, 0, 0), (94, .aload 7, 96, 0, 0, 0), (96, .getfield 140, 99, 5, 1, 96), (99, .iload 4, 101, 0, 0, 0), (101, .iload 5, 103, 0, 0, 0), (103, .invokestatic 147, 106, 0, 300, 368), (106, .iconst 1, 107, 0, 0, 0), (107, .ireturn, 108, 0, 0, 0)])
def tW_holds : am_T := (⟨"TwoGames$Row", "holds", "(II)Z"⟩, prog_7_method_4_code, 3, (some .boolean), 15, [(0, .iload_n 1, 1, 0, 0, 0), (1, .ifCond .lt 17, 4, 18, 0, 0), (4, .iload_n 1, 5, 0, 0, 0), (5, .aload_n 0, 6, 0, 0, 0), (6, .getfield 9, 9, 5, 0, 93), (9, .iload_n 2, 10, 0, 0, 0), (10, .isub, 11, 0, 0, 0), (11, .if_icmp .gt 7, 14, 18, 0, 0), (14, .iconst 1, 15, 0, 0, 0), (15, .goto 4, 18, 19, 0, 0), (18, .iconst 0, 19, 0, 0, 0), (19, .ireturn, 20, 0, 0, 0)])
def tT_leads : am_T := (⟨"TwoGames", "leads", "(III)I"⟩, prog_1_method_16_code, 7, (some .int), 16, [(0, .aload_n 0, 1, 0, 0, 0), (1, .iload_n 1, 2, 0, 0, 0), (2, .invokevirtual 128, 5, 31, 1, 339), (5, .astore 4, 7, 0, 0, 0), (7, .aload 4, 9, 0, 0, 0), (9, .ifnull 19, 12, 28, 0, 0), (12, .aload_n 0, 13, 0, 0, 0), (13, .iload_n 2, 14, 0, 0, 0), (14, .invokevirtual 153, 17, 39, 1, 375), (17, .ifCond .eq 11, 20, 28, 0, 0), (20, .aload_n 0, 21, 0, 0, 0), (21, .iload_n 3, 22, 0, 0, 0), (22, .invokevirtual 153, 25, 39, 1, 375), (25, .ifCond .ne 5, 28, 30, 0, 0), (28, .iconst (-1), 29, 0, 0, 0), (29, .ireturn, 30, 0, 0, 0), (30, .aload_n 0, 31, 0, 0, 0), (31, .aload 4, 33, 0, 0, 0), (33, .invokevirtual 156, 36, 40, 1, 379), (36, .istore 5, 38, 0, 0, 0), (38, .iload 5, 40, 0, 0, 0), (40, .ifCond .eq 6, 43, 46, 0, 0), (43, .iload 5, 45, 0, 0, 0), (45, .ireturn, 46, 0, 0, 0), (46, .aload_n 0, 47, 0, 0, 0), (47, .aload 4, 49, 0, 0, 0), (49, .invokevirtual 160, 52, 43, 1, 391), (52, .astore 6, 54, 0, 0, 0), (54, .aload_n 0, 55, 0, 0, 0), (55, .getfield 38, 58, 6, 6, 194), (58, .aload 6, 60, 0, 0, 0), (60, .iload_n 2, 61, 0, 0, 0), (61, .iload_n 3, 62, 0, 0, 0), (62, .invokevirtual 164, 65, 47, 2, 414), (65, .aload 6, 67, 0, 0, 0), (67, .getfield 168, 70, 4, 2, 157), (70, .invokevirtual 172, 73, 49, 2, 415), (73, .iconst 1, 74, 0, 0, 0), (74, .ireturn, 75, 0, 0, 0)])
def tT_isRest : am_T := (⟨"TwoGames", "isRest", "(I)Z"⟩, prog_1_method_40_code, 2, (some .boolean), 16, [(0, .iload_n 1, 1, 0, 0, 0), (1, .ifCond .lt 15, 4, 16, 0, 0), (4, .iload_n 1, 5, 0, 0, 0), (5, .aload_n 0, 6, 0, 0, 0), (6, .getfield 9, 9, 6, 0, 188), (9, .if_icmp .ge 7, 12, 16, 0, 0), (12, .iconst 1, 13, 0, 0, 0), (13, .goto 4, 16, 17, 0, 0), (16, .iconst 0, 17, 0, 0, 0), (17, .ireturn, 18, 0, 0, 0)])
def tT_refusalOf : am_T := (⟨"TwoGames", "refusalOf", "(LTwoGames$Row;)I"⟩, prog_1_method_47_code, 2, (some .int), 16, [(0, .aload_n 1, 1, 0, 0, 0), (1, .invokevirtual 135, 4, 34, 0, 352), (4, .ifCond .eq 9, 7, 13, 0, 0), (7, .aload_n 0, 8, 0, 0, 0), (8, .iconst 1, 9, 0, 0, 0), (9, .invokevirtual 111, 12, 23, 1, 306), (12, .ireturn, 13, 0, 0, 0), (13, .aload_n 0, 14, 0, 0, 0), (14, .aload_n 1, 15, 0, 0, 0), (15, .invokevirtual 282, 18, 41, 1, 383), (18, .ifCond .ne 9, 21, 27, 0, 0), (21, .aload_n 0, 22, 0, 0, 0), (22, .iconst 3, 23, 0, 0, 0), (23, .invokevirtual 111, 26, 23, 1, 306), (26, .ireturn, 27, 0, 0, 0), (27, .iconst 0, 28, 0, 0, 0), (28, .ireturn, 29, 0, 0, 0)])
def tT_isFit : am_T := (⟨"TwoGames", "isFit", "(LTwoGames$Row;)Z"⟩, prog_1_method_48_code, 3, (some .boolean), 16, [(0, .iconst 0, 1, 0, 0, 0), (1, .istore_n 2, 2, 0, 0, 0), (2, .iload_n 2, 3, 0, 0, 0), (3, .aload_n 1, 4, 0, 0, 0), (4, .getfield 139, 7, 5, 0, 94), (7, .if_icmp .ge 24, 10, 31, 0, 0), (10, .aload_n 0, 11, 0, 0, 0), (11, .aload_n 1, 12, 0, 0, 0), (12, .getfield 140, 15, 5, 1, 96), (15, .iload_n 2, 16, 0, 0, 0), (16, .iaload, 17, 0, 0, 0), (17, .invokevirtual 279, 20, 42, 1, 387), (20, .ifCond .ne 5, 23, 25, 0, 0), (23, .iconst 0, 24, 0, 0, 0), (24, .ireturn, 25, 0, 0, 0), (25, .iinc 2 1, 28, 0, 0, 0), (28, .goto (-26), 31, 2, 0, 0), (31, .aload_n 1, 32, 0, 0, 0), (32, .getfield 139, 35, 5, 0, 94), (35, .ifCond .le 7, 38, 42, 0, 0), (38, .iconst 1, 39, 0, 0, 0), (39, .goto 4, 42, 43, 0, 0), (42, .iconst 0, 43, 0, 0, 0), (43, .ireturn, 44, 0, 0, 0)])
def tT_hangsOnPurse : am_T := (⟨"TwoGames", "hangsOnPurse", "(I)Z"⟩, prog_1_method_49_code, 3, (some .boolean), 16, [(0, .aload_n 0, 1, 0, 0, 0), (1, .iload_n 1, 2, 0, 0, 0), (2, .invokevirtual 91, 5, 16, 1, 280), (5, .astore_n 2, 6, 0, 0, 0), (6, .aload_n 2, 7, 0, 0, 0), (7, .ifnull 15, 10, 22, 0, 0), (10, .aload_n 2, 11, 0, 0, 0), (11, .getfield 95, 14, 2, 0, 249), (14, .iconst 2, 15, 0, 0, 0), (15, .if_icmp .eq 7, 18, 22, 0, 0), (18, .iconst 1, 19, 0, 0, 0), (19, .goto 4, 22, 23, 0, 0), (22, .iconst 0, 23, 0, 0, 0), (23, .ireturn, 24, 0, 0, 0)])
def tT_roundOf : am_T := (⟨"TwoGames", "roundOf", "(LTwoGames$Row;)LTwoGames$Round;"⟩, prog_1_method_50_code, 5, (some (.object "TwoGames$Round")), 16, [(0, .aload_n 0, 1, 0, 0, 0), (1, .getfield 47, 4, 6, 8, 196), (4, .iconst 0, 5, 0, 0, 0), (5, .aaload, 6, 0, 0, 0), (6, .aload_n 0, 7, 0, 0, 0), (7, .getfield 9, 10, 6, 0, 188), (10, .invokevirtual 201, 13, 44, 1, 395), (13, .iconst 0, 14, 0, 0, 0), (14, .istore_n 2, 15, 0, 0, 0), (15, .iconst 0, 16, 0, 0, 0), (16, .istore_n 3, 17, 0, 0, 0), (17, .iload_n 3, 18, 0, 0, 0), (18, .aload_n 1, 19, 0, 0, 0), (19, .getfield 139, 22, 5, 0, 94), (22, .if_icmp .ge 53, 25, 75, 0, 0), (25, .aload_n 0, 26, 0, 0, 0), (26, .aload_n 1, 27, 0, 0, 0), (27, .getfield 140, 30, 5, 1, 96), (30, .iload_n 3, 31, 0, 0, 0), (31, .iaload, 32, 0, 0, 0), (32, .invokevirtual 91, 35, 16, 1, 280), (35, .astore 4, 37, 0, 0, 0), (37, .aload 4, 39, 0, 0, 0), (39, .ifnull 30, 42, 69, 0, 0), (42, .aload_n 0, 43, 0, 0, 0), (43, .getfield 47, 46, 6, 8, 196), (46, .iload_n 2, 47, 0, 0, 0), (47, .iconst 1, 48, 0, 0, 0), (48, .iadd, 49, 0, 0, 0), (49, .aaload, 50, 0, 0, 0), (50, .aload_n 0, 51, 0, 0, 0), (51, .getfield 47, 54, 6, 8, 196), (54, .iload_n 2, 55, 0, 0, 0), (55, .aaload, 56, 0, 0, 0), (56, .aload 4, 58, 0, 0, 0), (58, .getfield 115, 61, 2, 2, 253), (61, .bipush 12, 63, 0, 0, 0), (63, .invokevirtual 286, 66, 46, 3, 402), (66, .iinc 2 1, 69, 0, 0, 0), (69, .iinc 3 1, 72, 0, 0, 0), (72, .goto (-55), 75, 17, 0, 0), (75, .aload_n 0, 76, 0, 0, 0), (76, .getfield 47, 79, 6, 8, 196), (79, .iload_n 2, 80, 0, 0, 0), (80, .aaload, 81, 0, 0, 0), (81, .areturn, 82, 0, 0, 0)])
def tR_begin : am_T := (⟨"TwoGames$Round", "begin", "(I)V"⟩, prog_6_method_2_code, 3, none, 14, [(0, .aload_n 0, 1, 0, 0, 0), (1, .iload_n 1, 2, 0, 0, 0), (2, .putfield 9, 5, 4, 0, 154), (5, .aload_n 0, 6, 0, 0, 0), (6, .iconst 0, 7, 0, 0, 0), (7, .putfield 15, 10, 4, 1, 155), (10, .aload_n 0, 11, 0, 0, 0), (11, .lconst 1, 12, 0, 0, 0), (12, .putfield 18, 15, 4, 2, 156), (15, .aload_n 0, 16, 0, 0, 0), (16, .getfield 22, 19, 4, 3, 158), (19, .lconst 0, 20, 0, 0, 0), (20, .invokestatic 38, 23, 45, 2, 399), (23, .aload_n 0, 24, 0, 0, 0), (24, .getfield 26, 27, 4, 4, 159), (27, .lconst 0, 28, 0, 0, 0), (28, .invokestatic 38, 31, 45, 2, 399), (31, .iconst 0, 32, 0, 0, 0), (32, .istore_n 2, 33, 0, 0, 0), (33, .iload_n 2, 34, 0, 0, 0), (34, .iload_n 1, 35, 0, 0, 0), (35, .if_icmp .ge 20, 38, 55, 0, 0), (38, .aload_n 0, 39, 0, 0, 0), (39, .getfield 22, 42, 4, 3, 158), (42, .iload_n 2, 43, 0, 0, 0), (43, .iconst 3, 44, 0, 0, 0), (44, .imul, 45, 0, 0, 0), (45, .iload_n 2, 46, 0, 0, 0), (46, .iadd, 47, 0, 0, 0), (47, .lconst 1, 48, 0, 0, 0), (48, .lastore, 49, 0, 0, 0), (49, .iinc 2 1, 52, 0, 0, 0), (52, .goto (-19), 55, 33, 0, 0), (55, .return_, 56, 0, 0, 0)])
def tJ_fillJ : am_T := (⟨"java/util/Arrays", "fill", "([JJ)V"⟩, prog_12_method_101_code, 5, none, 0, [(0, .iconst 0, 1, 0, 0, 0), (1, .istore_n 3, 2, 0, 0, 0), (2, .aload_n 0, 3, 0, 0, 0), (3, .arraylength, 4, 0, 0, 0), (4, .istore 4, 6, 0, 0, 0), (6, .iload_n 3, 7, 0, 0, 0), (7, .iload 4, 9, 0, 0, 0), (9, .if_icmp .ge 13, 12, 22, 0, 0), (12, .aload_n 0, 13, 0, 0, 0), (13, .iload_n 3, 14, 0, 0, 0), (14, .lload_n 1, 15, 0, 0, 0), (15, .lastore, 16, 0, 0, 0), (16, .iinc 3 1, 19, 0, 0, 0), (19, .goto (-13), 22, 6, 0, 0), (22, .return_, 23, 0, 0, 0)])
def tR_follow_c0 : List am_E := [(0, .aload_n 0, 1, 0, 0, 0), (1, .aload_n 1, 2, 0, 0, 0), (2, .getfield 9, 5, 4, 0, 154), (5, .putfield 9, 8, 4, 0, 154), (8, .aload_n 0, 9, 0, 0, 0), (9, .aload_n 1, 10, 0, 0, 0), (10, .getfield 15, 13, 4, 1, 155), (13, .iconst 1, 14, 0, 0, 0), (14, .iadd, 15, 0, 0, 0), (15, .putfield 15, 18, 4, 1, 155), (18, .aload_n 0, 19, 0, 0, 0), (19, .aload_n 1, 20, 0, 0, 0), (20, .getfield 18, 23, 4, 2, 156), (23, .iload_n 3, 24, 0, 0, 0), (24, .i2l, 25, 0, 0, 0), (25, .lmul, 26, 0, 0, 0), (26, .putfield 18, 29, 4, 2, 156), (29, .aload_n 0, 30, 0, 0, 0), (30, .getfield 22, 33, 4, 3, 158), (33, .lconst 0, 34, 0, 0, 0), (34, .invokestatic 38, 37, 45, 2, 399), (37, .iconst 0, 38, 0, 0, 0), (38, .istore 4, 40, 0, 0, 0), (40, .iload 4, 42, 0, 0, 0), (42, .aload_n 0, 43, 0, 0, 0), (43, .getfield 9, 46, 4, 0, 154), (46, .if_icmp .ge 80, 49, 126, 0, 0), (49, .aload_n 0, 50, 0, 0, 0), (50, .getfield 26, 53, 4, 4, 159), (53, .iload 4, 55, 0, 0, 0), (55, .aload_n 1, 56, 0, 0, 0), (56, .getfield 26, 59, 4, 4, 159), (59, .iload 4, 61, 0, 0, 0), (61, .laload, 62, 0, 0, 0), (62, .iload_n 3, 63, 0, 0, 0), (63, .i2l, 64, 0, 0, 0), (64, .lmul, 65, 0, 0, 0), (65, .lastore, 66, 0, 0, 0), (66, .iconst 0, 67, 0, 0, 0), (67, .istore 5, 69, 0, 0, 0), (69, .iload 5, 71, 0, 0, 0), (71, .aload_n 0, 72, 0, 0, 0), (72, .getfield 9, 75, 4, 0, 154), (75, .if_icmp .ge 45, 78, 120, 0, 0), (78, .aload_n 1, 79, 0, 0, 0), (79, .iload 4, 81, 0, 0, 0), (81, .iload 5, 83, 0, 0, 0), (83, .invokevirtual 44, 86, 47, 2, 406), (86, .lstore 6, 88, 0, 0, 0), (88, .aload_n 0, 89, 0, 0, 0), (89, .iload 4, 91, 0, 0, 0), (91, .iload 5, 93, 0, 0, 0), (93, .lload 6, 95, 0, 0, 0), (95, .aload_n 2, 96, 0, 0, 0), (96, .iload 5, 98, 0, 0, 0), (98, .iaload, 99, 0, 0, 0), (99, .i2l, 100, 0, 0, 0), (100, .lmul, 101, 0, 0, 0), (101, .lload 6, 103, 0, 0, 0), (103, .iload_n 3, 104, 0, 0, 0)]
def tR_follow_c1 : List am_E := [(104, .aload_n 2, 105, 0, 0, 0), (105, .iload 5, 107, 0, 0, 0), (107, .iaload, 108, 0, 0, 0), (108, .isub, 109, 0, 0, 0), (109, .i2l, 110, 0, 0, 0), (110, .lmul, 111, 0, 0, 0), (111, .invokevirtual 48, 114, 48, 4, 410), (114, .iinc 5 1, 117, 0, 0, 0), (117, .goto (-48), 120, 69, 0, 0), (120, .iinc 4 1, 123, 0, 0, 0), (123, .goto (-83), 126, 40, 0, 0), (126, .return_, 127, 0, 0, 0)]
def tR_follow : am_T := (⟨"TwoGames$Round", "follow", "(LTwoGames$Round;[II)V"⟩, prog_6_method_3_code, 8, none, 14, tR_follow_c0 ++ (tR_follow_c1))
def tR_chance : am_T := (⟨"TwoGames$Round", "chance", "(II)J"⟩, prog_6_method_5_code, 3, (some .long), 14, [(0, .aload_n 0, 1, 0, 0, 0), (1, .getfield 22, 4, 4, 3, 158), (4, .iload_n 1, 5, 0, 0, 0), (5, .iconst 3, 6, 0, 0, 0), (6, .imul, 7, 0, 0, 0), (7, .iload_n 2, 8, 0, 0, 0), (8, .iadd, 9, 0, 0, 0), (9, .laload, 10, 0, 0, 0), (10, .lreturn, 11, 0, 0, 0)])
def tR_step : am_T := (⟨"TwoGames$Round", "step", "(IIJJ)V"⟩, prog_6_method_4_code, 9, none, 14, [(0, .iload_n 2, 1, 0, 0, 0), (1, .iconst 1, 2, 0, 0, 0), (2, .iadd, 3, 0, 0, 0), (3, .aload_n 0, 4, 0, 0, 0), (4, .getfield 9, 7, 4, 0, 154), (7, .if_icmp .ge 9, 10, 16, 0, 0), (10, .iload_n 2, 11, 0, 0, 0), (11, .iconst 1, 12, 0, 0, 0), (12, .iadd, 13, 0, 0, 0), (13, .goto 4, 16, 17, 0, 0), (16, .iconst 0, 17, 0, 0, 0), (17, .istore 7, 19, 0, 0, 0), (19, .iload_n 2, 20, 0, 0, 0), (20, .ifCond .le 9, 23, 29, 0, 0), (23, .iload_n 2, 24, 0, 0, 0), (24, .iconst 1, 25, 0, 0, 0), (25, .isub, 26, 0, 0, 0), (26, .goto 9, 29, 35, 0, 0), (29, .aload_n 0, 30, 0, 0, 0), (30, .getfield 9, 33, 4, 0, 154), (33, .iconst 1, 34, 0, 0, 0), (34, .isub, 35, 0, 0, 0), (35, .istore 8, 37, 0, 0, 0), (37, .aload_n 0, 38, 0, 0, 0), (38, .getfield 22, 41, 4, 3, 158), (41, .iload_n 1, 42, 0, 0, 0), (42, .iconst 3, 43, 0, 0, 0), (43, .imul, 44, 0, 0, 0), (44, .iload 7, 46, 0, 0, 0), (46, .iadd, 47, 0, 0, 0), (47, .dup2, 48, 0, 0, 0), (48, .laload, 49, 0, 0, 0), (49, .lload_n 3, 50, 0, 0, 0), (50, .ladd, 51, 0, 0, 0), (51, .lastore, 52, 0, 0, 0), (52, .aload_n 0, 53, 0, 0, 0), (53, .getfield 22, 56, 4, 3, 158), (56, .iload_n 1, 57, 0, 0, 0), (57, .iconst 3, 58, 0, 0, 0), (58, .imul, 59, 0, 0, 0), (59, .iload 8, 61, 0, 0, 0), (61, .iadd, 62, 0, 0, 0), (62, .dup2, 63, 0, 0, 0), (63, .laload, 64, 0, 0, 0), (64, .lload 5, 66, 0, 0, 0), (66, .ladd, 67, 0, 0, 0), (67, .lastore, 68, 0, 0, 0), (68, .aload_n 0, 69, 0, 0, 0), (69, .getfield 26, 72, 4, 4, 159), (72, .iload_n 1, 73, 0, 0, 0), (73, .dup2, 74, 0, 0, 0), (74, .laload, 75, 0, 0, 0), (75, .lload_n 3, 76, 0, 0, 0), (76, .lload 5, 78, 0, 0, 0), (78, .lsub, 79, 0, 0, 0), (79, .ladd, 80, 0, 0, 0), (80, .lastore, 81, 0, 0, 0), (81, .return_, 82, 0, 0, 0)])
def tF_tell : am_T := (⟨"TwoGames$Fraction", "tell", "(JJ)V"⟩, prog_3_method_2_code, 7, none, 11, [(0, .lload_n 1, 1, 0, 0, 0), (1, .invokestatic 16, 4, 50, 1, 419), (4, .lload_n 3, 5, 0, 0, 0), (5, .invokestatic 22, 8, 51, 2, 422), (8, .lstore 5, 10, 0, 0, 0), (10, .lload 5, 12, 0, 0, 0), (12, .lconst 0, 13, 0, 0, 0), (13, .lcmp, 14, 0, 0, 0), (14, .ifCond .le 19, 17, 33, 0, 0), (17, .aload_n 0, 18, 0, 0, 0), (18, .lload_n 1, 19, 0, 0, 0), (19, .lload 5, 21, 0, 0, 0), (21, .ldiv, 22, 0, 0, 0), (22, .putfield 7, 25, 1, 0, 76), (25, .aload_n 0, 26, 0, 0, 0), (26, .lload_n 3, 27, 0, 0, 0), (27, .lload 5, 29, 0, 0, 0), (29, .ldiv, 30, 0, 0, 0), (30, .putfield 13, 33, 1, 1, 78), (33, .return_, 34, 0, 0, 0)])
def tJ_abs : am_T := (⟨"java/lang/Math", "abs", "(J)J"⟩, prog_10_method_61_code, 2, (some .long), 0, [(0, .lload_n 0, 1, 0, 0, 0), (1, .lconst 0, 2, 0, 0, 0), (2, .lcmp, 3, 0, 0, 0), (3, .ifCond .ge 8, 6, 11, 0, 0), (6, .lload_n 0, 7, 0, 0, 0), (7, .lneg, 8, 0, 0, 0), (8, .goto 4, 11, 12, 0, 0), (11, .lload_n 0, 12, 0, 0, 0), (12, .lreturn, 13, 0, 0, 0)])
def tF_commonDivisor : am_T := (⟨"TwoGames$Fraction", "commonDivisor", "(JJ)J"⟩, prog_3_method_3_code, 11, (some .long), 11, [(0, .lload_n 0, 1, 0, 0, 0), (1, .lstore 4, 3, 0, 0, 0), (3, .lload_n 2, 4, 0, 0, 0), (4, .lstore 6, 6, 0, 0, 0), (6, .iconst 0, 7, 0, 0, 0), (7, .istore 8, 9, 0, 0, 0), (9, .iload 8, 11, 0, 0, 0), (11, .bipush 100, 13, 0, 0, 0), (13, .if_icmp .ge 31, 16, 44, 0, 0), (16, .lload 6, 18, 0, 0, 0), (18, .lconst 0, 19, 0, 0, 0), (19, .lcmp, 20, 0, 0, 0), (20, .ifCond .eq 24, 23, 44, 0, 0), (23, .lload 4, 25, 0, 0, 0), (25, .lload 6, 27, 0, 0, 0), (27, .lrem, 28, 0, 0, 0), (28, .lstore 9, 30, 0, 0, 0), (30, .lload 6, 32, 0, 0, 0), (32, .lstore 4, 34, 0, 0, 0), (34, .lload 9, 36, 0, 0, 0), (36, .lstore 6, 38, 0, 0, 0), (38, .iinc 8 1, 41, 0, 0, 0), (41, .goto (-32), 44, 9, 0, 0), (44, .lload 4, 46, 0, 0, 0), (46, .lreturn, 47, 0, 0, 0)])
def tT_share : am_T := (⟨"TwoGames", "share", "(II)I"⟩, prog_1_method_17_code, 6, (some .int), 16, [(0, .aload_n 0, 1, 0, 0, 0), (1, .iload_n 1, 2, 0, 0, 0), (2, .invokevirtual 128, 5, 31, 1, 339), (5, .astore_n 3, 6, 0, 0, 0), (6, .aload_n 3, 7, 0, 0, 0), (7, .ifnull 11, 10, 18, 0, 0), (10, .aload_n 0, 11, 0, 0, 0), (11, .iload_n 2, 12, 0, 0, 0), (12, .invokevirtual 153, 15, 39, 1, 375), (15, .ifCond .ne 5, 18, 20, 0, 0), (18, .iconst (-1), 19, 0, 0, 0), (19, .ireturn, 20, 0, 0, 0), (20, .aload_n 0, 21, 0, 0, 0), (21, .aload_n 3, 22, 0, 0, 0), (22, .invokevirtual 156, 25, 40, 1, 379), (25, .istore 4, 27, 0, 0, 0), (27, .iload 4, 29, 0, 0, 0), (29, .ifCond .eq 6, 32, 35, 0, 0), (32, .iload 4, 34, 0, 0, 0), (34, .ireturn, 35, 0, 0, 0), (35, .aload_n 0, 36, 0, 0, 0), (36, .aload_n 3, 37, 0, 0, 0), (37, .invokevirtual 160, 40, 43, 1, 391), (40, .astore 5, 42, 0, 0, 0), (42, .aload 5, 44, 0, 0, 0), (44, .invokevirtual 176, 47, 53, 0, 429), (47, .ifCond .ne 6, 50, 53, 0, 0), (50, .bipush (-4), 52, 0, 0, 0), (52, .ireturn, 53, 0, 0, 0), (53, .aload_n 0, 54, 0, 0, 0), (54, .getfield 38, 57, 6, 6, 194), (57, .aload 5, 59, 0, 0, 0), (59, .getfield 179, 62, 4, 5, 161), (62, .iload_n 2, 63, 0, 0, 0), (63, .laload, 64, 0, 0, 0), (64, .aload 5, 66, 0, 0, 0), (66, .getfield 183, 69, 4, 6, 164), (69, .invokevirtual 172, 72, 49, 2, 415), (72, .iconst 1, 73, 0, 0, 0), (73, .ireturn, 74, 0, 0, 0)])
def tR_settles : am_T := (⟨"TwoGames$Round", "settles", "()Z"⟩, prog_6_method_6_code, 2, (some .boolean), 14, [(0, .aload_n 0, 1, 0, 0, 0), (1, .lconst 0, 2, 0, 0, 0), (2, .putfield 32, 5, 4, 6, 162), (5, .aload_n 0, 6, 0, 0, 0), (6, .lconst 0, 7, 0, 0, 0), (7, .putfield 35, 10, 4, 7, 165), (10, .iconst 0, 11, 0, 0, 0), (11, .istore_n 1, 12, 0, 0, 0), (12, .iload_n 1, 13, 0, 0, 0), (13, .aload_n 0, 14, 0, 0, 0), (14, .getfield 9, 17, 4, 0, 154), (17, .if_icmp .ge 57, 20, 74, 0, 0), (20, .aload_n 0, 21, 0, 0, 0), (21, .getfield 29, 24, 4, 5, 160), (24, .iload_n 1, 25, 0, 0, 0), (25, .aload_n 0, 26, 0, 0, 0), (26, .iload_n 1, 27, 0, 0, 0), (27, .invokevirtual 52, 30, 54, 1, 433), (30, .lastore, 31, 0, 0, 0), (31, .aload_n 0, 32, 0, 0, 0), (32, .dup, 33, 0, 0, 0), (33, .getfield 32, 36, 4, 6, 162), (36, .aload_n 0, 37, 0, 0, 0), (37, .getfield 29, 40, 4, 5, 160), (40, .iload_n 1, 41, 0, 0, 0), (41, .laload, 42, 0, 0, 0), (42, .ladd, 43, 0, 0, 0), (43, .putfield 32, 46, 4, 6, 162), (46, .aload_n 0, 47, 0, 0, 0), (47, .dup, 48, 0, 0, 0), (48, .getfield 35, 51, 4, 7, 165), (51, .aload_n 0, 52, 0, 0, 0), (52, .getfield 29, 55, 4, 5, 160), (55, .iload_n 1, 56, 0, 0, 0), (56, .laload, 57, 0, 0, 0), (57, .aload_n 0, 58, 0, 0, 0), (58, .getfield 26, 61, 4, 4, 159), (61, .iload_n 1, 62, 0, 0, 0), (62, .laload, 63, 0, 0, 0), (63, .lmul, 64, 0, 0, 0), (64, .ladd, 65, 0, 0, 0), (65, .putfield 35, 68, 4, 7, 165), (68, .iinc 1 1, 71, 0, 0, 0), (71, .goto (-59), 74, 12, 0, 0), (74, .aload_n 0, 75, 0, 0, 0), (75, .getfield 32, 78, 4, 6, 162), (78, .lconst 0, 79, 0, 0, 0), (79, .lcmp, 80, 0, 0, 0), (80, .ifCond .le 7, 83, 87, 0, 0), (83, .iconst 1, 84, 0, 0, 0), (84, .goto 4, 87, 88, 0, 0), (87, .iconst 0, 88, 0, 0, 0), (88, .ireturn, 89, 0, 0, 0)])
def tR_weightOf : am_T := (⟨"TwoGames$Round", "weightOf", "(I)J"⟩, prog_6_method_7_code, 4, (some .long), 14, [(0, .aload_n 0, 1, 0, 0, 0), (1, .getfield 9, 4, 4, 0, 154), (4, .iconst 1, 5, 0, 0, 0), (5, .if_icmp .ne 5, 8, 10, 0, 0), (8, .lconst 1, 9, 0, 0, 0), (9, .lreturn, 10, 0, 0, 0), (10, .iload_n 1, 11, 0, 0, 0), (11, .iconst 1, 12, 0, 0, 0), (12, .iadd, 13, 0, 0, 0), (13, .aload_n 0, 14, 0, 0, 0), (14, .getfield 9, 17, 4, 0, 154), (17, .irem, 18, 0, 0, 0), (18, .istore_n 2, 19, 0, 0, 0), (19, .aload_n 0, 20, 0, 0, 0), (20, .getfield 9, 23, 4, 0, 154), (23, .iconst 2, 24, 0, 0, 0), (24, .if_icmp .ne 10, 27, 34, 0, 0), (27, .aload_n 0, 28, 0, 0, 0), (28, .iload_n 2, 29, 0, 0, 0), (29, .iload_n 1, 30, 0, 0, 0), (30, .invokevirtual 44, 33, 47, 2, 406), (33, .lreturn, 34, 0, 0, 0), (34, .iload_n 1, 35, 0, 0, 0), (35, .iconst 2, 36, 0, 0, 0), (36, .iadd, 37, 0, 0, 0), (37, .aload_n 0, 38, 0, 0, 0), (38, .getfield 9, 41, 4, 0, 154), (41, .irem, 42, 0, 0, 0), (42, .istore_n 3, 43, 0, 0, 0), (43, .aload_n 0, 44, 0, 0, 0), (44, .iload_n 2, 45, 0, 0, 0), (45, .iload_n 1, 46, 0, 0, 0), (46, .invokevirtual 44, 49, 47, 2, 406), (49, .aload_n 0, 50, 0, 0, 0), (50, .iload_n 3, 51, 0, 0, 0), (51, .iload_n 1, 52, 0, 0, 0), (52, .invokevirtual 44, 55, 47, 2, 406), (55, .lmul, 56, 0, 0, 0), (56, .aload_n 0, 57, 0, 0, 0), (57, .iload_n 2, 58, 0, 0, 0), (58, .iload_n 3, 59, 0, 0, 0), (59, .invokevirtual 44, 62, 47, 2, 406), (62, .aload_n 0, 63, 0, 0, 0), (63, .iload_n 3, 64, 0, 0, 0), (64, .iload_n 1, 65, 0, 0, 0), (65, .invokevirtual 44, 68, 47, 2, 406), (68, .lmul, 69, 0, 0, 0), (69, .ladd, 70, 0, 0, 0), (70, .aload_n 0, 71, 0, 0, 0), (71, .iload_n 3, 72, 0, 0, 0), (72, .iload_n 2, 73, 0, 0, 0), (73, .invokevirtual 44, 76, 47, 2, 406), (76, .aload_n 0, 77, 0, 0, 0), (77, .iload_n 2, 78, 0, 0, 0), (78, .iload_n 1, 79, 0, 0, 0), (79, .invokevirtual 44, 82, 47, 2, 406), (82, .lmul, 83, 0, 0, 0), (83, .ladd, 84, 0, 0, 0), (84, .lreturn, 85, 0, 0, 0)])
def tT_gain : am_T := (⟨"TwoGames", "gain", "(I)I"⟩, prog_1_method_18_code, 4, (some .int), 16, [(0, .aload_n 0, 1, 0, 0, 0), (1, .iload_n 1, 2, 0, 0, 0), (2, .invokevirtual 128, 5, 31, 1, 339), (5, .astore_n 2, 6, 0, 0, 0), (6, .aload_n 2, 7, 0, 0, 0), (7, .ifnonnull 5, 10, 12, 0, 0), (10, .iconst (-1), 11, 0, 0, 0), (11, .ireturn, 12, 0, 0, 0), (12, .aload_n 0, 13, 0, 0, 0), (13, .aload_n 2, 14, 0, 0, 0), (14, .invokevirtual 156, 17, 40, 1, 379), (17, .istore_n 3, 18, 0, 0, 0), (18, .iload_n 3, 19, 0, 0, 0), (19, .ifCond .eq 5, 22, 24, 0, 0), (22, .iload_n 3, 23, 0, 0, 0), (23, .ireturn, 24, 0, 0, 0), (24, .aload_n 0, 25, 0, 0, 0), (25, .aload_n 0, 26, 0, 0, 0), (26, .aload_n 2, 27, 0, 0, 0), (27, .invokevirtual 160, 30, 43, 1, 391), (30, .invokevirtual 186, 33, 56, 1, 441), (33, .ireturn, 34, 0, 0, 0)])
def tT_tellGain : am_T := (⟨"TwoGames", "tellGain", "(LTwoGames$Round;)I"⟩, prog_1_method_52_code, 2, (some .int), 16, [(0, .aload_n 1, 1, 0, 0, 0), (1, .invokevirtual 176, 4, 53, 0, 429), (4, .ifCond .ne 6, 7, 10, 0, 0), (7, .bipush (-4), 9, 0, 0, 0), (9, .ireturn, 10, 0, 0, 0), (10, .aload_n 0, 11, 0, 0, 0), (11, .getfield 38, 14, 6, 6, 194), (14, .aload_n 1, 15, 0, 0, 0), (15, .getfield 290, 18, 4, 7, 167), (18, .aload_n 1, 19, 0, 0, 0), (19, .invokevirtual 291, 22, 57, 0, 445), (22, .invokevirtual 172, 25, 49, 2, 415), (25, .aload_n 1, 26, 0, 0, 0), (26, .invokevirtual 194, 29, 58, 0, 449), (29, .ireturn, 30, 0, 0, 0)])
def tR_gainScale : am_T := (⟨"TwoGames$Round", "gainScale", "()J"⟩, prog_6_method_8_code, 1, (some .long), 14, [(0, .aload_n 0, 1, 0, 0, 0), (1, .getfield 32, 4, 4, 6, 162), (4, .aload_n 0, 5, 0, 0, 0), (5, .getfield 18, 8, 4, 2, 156), (8, .lmul, 9, 0, 0, 0), (9, .aload_n 0, 10, 0, 0, 0), (10, .getfield 15, 13, 4, 1, 155), (13, .i2l, 14, 0, 0, 0), (14, .lmul, 15, 0, 0, 0), (15, .lreturn, 16, 0, 0, 0)])
def tR_outcome : am_T := (⟨"TwoGames$Round", "outcome", "()I"⟩, prog_6_method_9_code, 1, (some .int), 14, [(0, .aload_n 0, 1, 0, 0, 0), (1, .getfield 35, 4, 4, 7, 165), (4, .lconst 0, 5, 0, 0, 0), (5, .lcmp, 6, 0, 0, 0), (6, .ifCond .le 5, 9, 11, 0, 0), (9, .iconst 1, 10, 0, 0, 0), (10, .ireturn, 11, 0, 0, 0), (11, .aload_n 0, 12, 0, 0, 0), (12, .getfield 35, 15, 4, 7, 165), (15, .lconst 0, 16, 0, 0, 0), (16, .lcmp, 17, 0, 0, 0), (17, .ifCond .ge 7, 20, 24, 0, 0), (20, .iconst 2, 21, 0, 0, 0), (21, .goto 4, 24, 25, 0, 0), (24, .iconst 0, 25, 0, 0, 0), (25, .ireturn, 26, 0, 0, 0)])
def tT_lot : am_T := (⟨"TwoGames", "lot", "(III)I"⟩, prog_1_method_19_code, 6, (some .int), 16, [(0, .aload_n 0, 1, 0, 0, 0), (1, .iload_n 1, 2, 0, 0, 0), (2, .invokevirtual 91, 5, 16, 1, 280), (5, .astore 4, 7, 0, 0, 0), (7, .aload_n 0, 8, 0, 0, 0), (8, .iload_n 2, 9, 0, 0, 0), (9, .invokevirtual 91, 12, 16, 1, 280), (12, .astore 5, 14, 0, 0, 0), (14, .aload 4, 16, 0, 0, 0), (16, .ifnull 15, 19, 31, 0, 0), (19, .aload 5, 21, 0, 0, 0), (21, .ifnull 10, 24, 31, 0, 0), (24, .iload_n 3, 25, 0, 0, 0), (25, .invokestatic 87, 28, 12, 1, 265), (28, .ifCond .ne 5, 31, 33, 0, 0), (31, .iconst (-1), 32, 0, 0, 0), (32, .ireturn, 33, 0, 0, 0), (33, .aload 4, 35, 0, 0, 0), (35, .getfield 95, 38, 2, 0, 249), (38, .iconst 2, 39, 0, 0, 0), (39, .if_icmp .eq 12, 42, 51, 0, 0), (42, .aload 5, 44, 0, 0, 0), (44, .getfield 95, 47, 2, 0, 249), (47, .iconst 2, 48, 0, 0, 0), (48, .if_icmp .ne 9, 51, 57, 0, 0), (51, .aload_n 0, 52, 0, 0, 0), (52, .iconst 3, 53, 0, 0, 0), (53, .invokevirtual 111, 56, 23, 1, 306), (56, .ireturn, 57, 0, 0, 0), (57, .aload_n 0, 58, 0, 0, 0), (58, .aload_n 0, 59, 0, 0, 0), (59, .aload 4, 61, 0, 0, 0), (61, .aload 5, 63, 0, 0, 0), (63, .iload_n 3, 64, 0, 0, 0), (64, .invokevirtual 190, 67, 60, 3, 457), (67, .invokevirtual 186, 70, 56, 1, 441), (70, .ireturn, 71, 0, 0, 0)])
def tT_roundOfLot : am_T := (⟨"TwoGames", "roundOfLot", "(LTwoGames$Play;LTwoGames$Play;I)LTwoGames$Round;"⟩, prog_1_method_51_code, 5, (some (.object "TwoGames$Round")), 16, [(0, .iconst 0, 1, 0, 0, 0), (1, .istore 4, 3, 0, 0, 0), (3, .iload 4, 5, 0, 0, 0), (5, .aload_n 0, 6, 0, 0, 0), (6, .getfield 9, 9, 6, 0, 188), (9, .if_icmp .ge 38, 12, 47, 0, 0), (12, .aload_n 0, 13, 0, 0, 0), (13, .getfield 51, 16, 6, 9, 197), (16, .iload 4, 18, 0, 0, 0), (18, .iload_n 3, 19, 0, 0, 0), (19, .aload_n 1, 20, 0, 0, 0), (20, .getfield 115, 23, 2, 2, 253), (23, .iload 4, 25, 0, 0, 0), (25, .iaload, 26, 0, 0, 0), (26, .imul, 27, 0, 0, 0), (27, .bipush 12, 29, 0, 0, 0), (29, .iload_n 3, 30, 0, 0, 0), (30, .isub, 31, 0, 0, 0), (31, .aload_n 2, 32, 0, 0, 0), (32, .getfield 115, 35, 2, 2, 253), (35, .iload 4, 37, 0, 0, 0), (37, .iaload, 38, 0, 0, 0), (38, .imul, 39, 0, 0, 0), (39, .iadd, 40, 0, 0, 0), (40, .iastore, 41, 0, 0, 0), (41, .iinc 4 1, 44, 0, 0, 0), (44, .goto (-41), 47, 3, 0, 0), (47, .aload_n 0, 48, 0, 0, 0), (48, .getfield 47, 51, 6, 8, 196), (51, .iconst 0, 52, 0, 0, 0), (52, .aaload, 53, 0, 0, 0), (53, .aload_n 0, 54, 0, 0, 0), (54, .getfield 9, 57, 6, 0, 188), (57, .invokevirtual 201, 60, 44, 1, 395), (60, .aload_n 0, 61, 0, 0, 0), (61, .getfield 47, 64, 6, 8, 196), (64, .iconst 1, 65, 0, 0, 0), (65, .aaload, 66, 0, 0, 0), (66, .aload_n 0, 67, 0, 0, 0), (67, .getfield 47, 70, 6, 8, 196), (70, .iconst 0, 71, 0, 0, 0), (71, .aaload, 72, 0, 0, 0), (72, .aload_n 0, 73, 0, 0, 0), (73, .getfield 51, 76, 6, 9, 197), (76, .sipush 144, 79, 0, 0, 0), (79, .invokevirtual 286, 82, 46, 3, 402), (82, .aload_n 0, 83, 0, 0, 0), (83, .getfield 47, 86, 6, 8, 196), (86, .iconst 1, 87, 0, 0, 0), (87, .aaload, 88, 0, 0, 0), (88, .areturn, 89, 0, 0, 0)])
def tT_middle : am_T := (⟨"TwoGames", "middle", "(II)I"⟩, prog_1_method_20_code, 7, (some .int), 16, [(0, .aload_n 0, 1, 0, 0, 0), (1, .iload_n 1, 2, 0, 0, 0), (2, .invokevirtual 91, 5, 16, 1, 280), (5, .astore_n 3, 6, 0, 0, 0), (6, .aload_n 0, 7, 0, 0, 0), (7, .iload_n 2, 8, 0, 0, 0), (8, .invokevirtual 91, 11, 16, 1, 280), (11, .astore 4, 13, 0, 0, 0), (13, .aload_n 3, 14, 0, 0, 0), (14, .ifnull 8, 17, 22, 0, 0), (17, .aload 4, 19, 0, 0, 0), (19, .ifnonnull 5, 22, 24, 0, 0), (22, .iconst (-1), 23, 0, 0, 0), (23, .ireturn, 24, 0, 0, 0), (24, .aload_n 3, 25, 0, 0, 0), (25, .getfield 95, 28, 2, 0, 249), (28, .iconst 2, 29, 0, 0, 0), (29, .if_icmp .eq 12, 32, 41, 0, 0), (32, .aload 4, 34, 0, 0, 0), (34, .getfield 95, 37, 2, 0, 249), (37, .iconst 2, 38, 0, 0, 0), (38, .if_icmp .ne 9, 41, 47, 0, 0), (41, .aload_n 0, 42, 0, 0, 0), (42, .iconst 3, 43, 0, 0, 0), (43, .invokevirtual 111, 46, 23, 1, 306), (46, .ireturn, 47, 0, 0, 0), (47, .iconst 0, 48, 0, 0, 0), (48, .istore 5, 50, 0, 0, 0), (50, .iload 5, 52, 0, 0, 0), (52, .bipush 12, 54, 0, 0, 0), (54, .if_icmp .gt 40, 57, 94, 0, 0), (57, .aload_n 0, 58, 0, 0, 0), (58, .aload_n 3, 59, 0, 0, 0), (59, .aload 4, 61, 0, 0, 0), (61, .iload 5, 63, 0, 0, 0), (63, .invokevirtual 190, 66, 60, 3, 457), (66, .astore 6, 68, 0, 0, 0), (68, .aload 6, 70, 0, 0, 0), (70, .invokevirtual 176, 73, 53, 0, 429), (73, .ifCond .eq 15, 76, 88, 0, 0), (76, .aload 6, 78, 0, 0, 0), (78, .invokevirtual 194, 81, 58, 0, 449), (81, .iconst 1, 82, 0, 0, 0), (82, .if_icmp .ne 6, 85, 88, 0, 0), (85, .iload 5, 87, 0, 0, 0), (87, .ireturn, 88, 0, 0, 0), (88, .iinc 5 1, 91, 0, 0, 0), (91, .goto (-41), 94, 50, 0, 0), (94, .bipush (-9), 96, 0, 0, 0), (96, .ireturn, 97, 0, 0, 0)])
def tT_bestRow : am_T := (⟨"TwoGames", "bestRow", "(II)I"⟩, prog_1_method_21_code, 4, (some .int), 16, [(0, .aload_n 0, 1, 0, 0, 0), (1, .iload_n 2, 2, 0, 0, 0), (2, .invokevirtual 128, 5, 31, 1, 339), (5, .astore_n 3, 6, 0, 0, 0), (6, .aload_n 3, 7, 0, 0, 0), (7, .ifnull 13, 10, 20, 0, 0), (10, .iload_n 1, 11, 0, 0, 0), (11, .iconst 1, 12, 0, 0, 0), (12, .if_icmp .lt 8, 15, 20, 0, 0), (15, .iload_n 1, 16, 0, 0, 0), (16, .iconst 4, 17, 0, 0, 0), (17, .if_icmp .le 5, 20, 22, 0, 0), (20, .iconst (-1), 21, 0, 0, 0), (21, .ireturn, 22, 0, 0, 0), (22, .aload_n 0, 23, 0, 0, 0), (23, .getfield 65, 26, 6, 12, 200), (26, .iconst 0, 27, 0, 0, 0), (27, .putfield 197, 30, 0, 0, 109), (30, .aload_n 0, 31, 0, 0, 0), (31, .getfield 47, 34, 6, 8, 196), (34, .iconst 0, 35, 0, 0, 0), (35, .aaload, 36, 0, 0, 0), (36, .aload_n 0, 37, 0, 0, 0), (37, .getfield 9, 40, 6, 0, 188), (40, .invokevirtual 201, 43, 44, 1, 395), (43, .aload_n 0, 44, 0, 0, 0), (44, .iconst 0, 45, 0, 0, 0), (45, .iload_n 1, 46, 0, 0, 0), (46, .invokevirtual 204, 49, 63, 2, 469), (49, .aload_n 0, 50, 0, 0, 0), (50, .getfield 65, 53, 6, 12, 200), (53, .getfield 197, 56, 0, 0, 109), (56, .ifCond .ne 6, 59, 62, 0, 0), (59, .bipush (-4), 61, 0, 0, 0), (61, .ireturn, 62, 0, 0, 0), (62, .aload_n 3, 63, 0, 0, 0), (63, .iload_n 1, 64, 0, 0, 0), (64, .invokevirtual 132, 67, 32, 1, 343), (67, .aload_n 0, 68, 0, 0, 0), (68, .getfield 65, 71, 6, 12, 200), (71, .getfield 207, 74, 0, 4, 116), (74, .iconst 0, 75, 0, 0, 0), (75, .aload_n 3, 76, 0, 0, 0), (76, .getfield 140, 79, 5, 1, 96), (79, .iconst 0, 80, 0, 0, 0), (80, .iload_n 1, 81, 0, 0, 0), (81, .invokestatic 147, 84, 0, 300, 368), (84, .aload_n 0, 85, 0, 0, 0), (85, .getfield 38, 88, 6, 6, 194), (88, .aload_n 0, 89, 0, 0, 0), (89, .getfield 65, 92, 6, 12, 200), (92, .getfield 210, 95, 0, 1, 111), (95, .aload_n 0, 96, 0, 0, 0), (96, .getfield 65, 99, 6, 12, 200), (99, .getfield 213, 102, 0, 3, 114), (102, .invokevirtual 172, 105, 49, 2, 415), (105, .iconst 1, 106, 0, 0, 0), (106, .ireturn, 107, 0, 0, 0)])
def tT_tryRows : am_T := (⟨"TwoGames", "tryRows", "(II)V"⟩, prog_1_method_55_code, 4, none, 16, [(0, .iload_n 1, 1, 0, 0, 0), (1, .iload_n 2, 2, 0, 0, 0), (2, .if_icmp .ge 8, 5, 10, 0, 0), (5, .iload_n 1, 6, 0, 0, 0), (6, .iconst 4, 7, 0, 0, 0), (7, .if_icmp .lt 21, 10, 28, 0, 0), (10, .aload_n 0, 11, 0, 0, 0), (11, .getfield 65, 14, 6, 12, 200), (14, .aload_n 0, 15, 0, 0, 0), (15, .getfield 47, 18, 6, 8, 196), (18, .iload_n 1, 19, 0, 0, 0), (19, .aaload, 20, 0, 0, 0), (20, .aload_n 0, 21, 0, 0, 0), (21, .getfield 54, 24, 6, 10, 198), (24, .invokevirtual 293, 27, 64, 2, 473), (27, .return_, 28, 0, 0, 0), (28, .iconst 0, 29, 0, 0, 0), (29, .istore_n 3, 30, 0, 0, 0), (30, .iload_n 3, 31, 0, 0, 0), (31, .aload_n 0, 32, 0, 0, 0), (32, .getfield 13, 35, 6, 1, 189), (35, .if_icmp .ge 16, 38, 51, 0, 0), (38, .aload_n 0, 39, 0, 0, 0), (39, .iload_n 3, 40, 0, 0, 0), (40, .iload_n 1, 41, 0, 0, 0), (41, .iload_n 2, 42, 0, 0, 0), (42, .invokevirtual 297, 45, 67, 3, 487), (45, .iinc 3 1, 48, 0, 0, 0), (48, .goto (-18), 51, 30, 0, 0), (51, .return_, 52, 0, 0, 0)])
def tB_offer : am_T := (⟨"TwoGames$Best", "offer", "(LTwoGames$Round;[I)V"⟩, prog_2_method_2_code, 3, none, 10, [(0, .aload_n 1, 1, 0, 0, 0), (1, .invokevirtual 29, 4, 53, 0, 477), (4, .ifCond .eq 65, 7, 69, 0, 0), (7, .aload_n 0, 8, 0, 0, 0), (8, .getfield 9, 11, 0, 0, 108), (11, .ifCond .eq 18, 14, 29, 0, 0), (14, .aload_n 0, 15, 0, 0, 0), (15, .aload_n 1, 16, 0, 0, 0), (16, .getfield 35, 19, 4, 7, 166), (19, .aload_n 1, 20, 0, 0, 0), (20, .getfield 36, 23, 4, 6, 163), (23, .invokevirtual 37, 26, 65, 2, 478), (26, .ifCond .eq 43, 29, 69, 0, 0), (29, .aload_n 0, 30, 0, 0, 0), (30, .iconst 1, 31, 0, 0, 0), (31, .putfield 9, 34, 0, 0, 108), (34, .aload_n 0, 35, 0, 0, 0), (35, .aload_n 1, 36, 0, 0, 0), (36, .getfield 35, 39, 4, 7, 166), (39, .putfield 15, 42, 0, 1, 110), (42, .aload_n 0, 43, 0, 0, 0), (43, .aload_n 1, 44, 0, 0, 0), (44, .getfield 36, 47, 4, 6, 163), (47, .putfield 19, 50, 0, 2, 112), (50, .aload_n 0, 51, 0, 0, 0), (51, .aload_n 1, 52, 0, 0, 0), (52, .invokevirtual 41, 55, 57, 0, 485), (55, .putfield 22, 58, 0, 3, 113), (58, .aload_n 2, 59, 0, 0, 0), (59, .iconst 0, 60, 0, 0, 0), (60, .aload_n 0, 61, 0, 0, 0), (61, .getfield 25, 64, 0, 4, 115), (64, .iconst 0, 65, 0, 0, 0), (65, .iconst 4, 66, 0, 0, 0), (66, .invokestatic 44, 69, 0, 300, 486), (69, .return_, 70, 0, 0, 0)])
def tB_isBelow : am_T := (⟨"TwoGames$Best", "isBelow", "(JJ)Z"⟩, prog_2_method_3_code, 13, (some .boolean), 10, [(0, .lload_n 3, 1, 0, 0, 0), (1, .lconst 0, 2, 0, 0, 0), (2, .lcmp, 3, 0, 0, 0), (3, .ifCond .le 12, 6, 15, 0, 0), (6, .aload_n 0, 7, 0, 0, 0), (7, .getfield 19, 10, 0, 2, 112), (10, .lconst 0, 11, 0, 0, 0), (11, .lcmp, 12, 0, 0, 0), (12, .ifCond .gt 5, 15, 17, 0, 0), (15, .iconst 0, 16, 0, 0, 0), (16, .ireturn, 17, 0, 0, 0), (17, .lload_n 1, 18, 0, 0, 0), (18, .lload_n 3, 19, 0, 0, 0), (19, .invokestatic 50, 22, 66, 2, 482), (22, .lstore 5, 24, 0, 0, 0), (24, .aload_n 0, 25, 0, 0, 0), (25, .getfield 15, 28, 0, 1, 110), (28, .aload_n 0, 29, 0, 0, 0), (29, .getfield 19, 32, 0, 2, 112), (32, .invokestatic 50, 35, 66, 2, 482), (35, .lstore 7, 37, 0, 0, 0), (37, .lload 5, 39, 0, 0, 0), (39, .lload 7, 41, 0, 0, 0), (41, .lcmp, 42, 0, 0, 0), (42, .ifCond .eq 17, 45, 59, 0, 0), (45, .lload 7, 47, 0, 0, 0), (47, .lload 5, 49, 0, 0, 0), (49, .lcmp, 50, 0, 0, 0), (50, .ifCond .ge 7, 53, 57, 0, 0), (53, .iconst 1, 54, 0, 0, 0), (54, .goto 4, 57, 58, 0, 0), (57, .iconst 0, 58, 0, 0, 0), (58, .ireturn, 59, 0, 0, 0), (59, .lload_n 1, 60, 0, 0, 0), (60, .lload 5, 62, 0, 0, 0), (62, .lload_n 3, 63, 0, 0, 0), (63, .lmul, 64, 0, 0, 0), (64, .lsub, 65, 0, 0, 0), (65, .lstore 9, 67, 0, 0, 0), (67, .aload_n 0, 68, 0, 0, 0), (68, .getfield 15, 71, 0, 1, 110), (71, .lload 7, 73, 0, 0, 0), (73, .aload_n 0, 74, 0, 0, 0), (74, .getfield 19, 77, 0, 2, 112), (77, .lmul, 78, 0, 0, 0), (78, .lsub, 79, 0, 0, 0), (79, .lstore 11, 81, 0, 0, 0), (81, .lload 11, 83, 0, 0, 0), (83, .lload_n 3, 84, 0, 0, 0), (84, .lmul, 85, 0, 0, 0), (85, .lload 9, 87, 0, 0, 0), (87, .aload_n 0, 88, 0, 0, 0), (88, .getfield 19, 91, 0, 2, 112), (91, .lmul, 92, 0, 0, 0), (92, .lcmp, 93, 0, 0, 0), (93, .ifCond .ge 7, 96, 100, 0, 0), (96, .iconst 1, 97, 0, 0, 0), (97, .goto 4, 100, 101, 0, 0), (100, .iconst 0, 101, 0, 0, 0), (101, .ireturn, 102, 0, 0, 0)])
def tJ_floorDiv : am_T := (⟨"java/lang/Math", "floorDiv", "(JJ)J"⟩, prog_10_method_49_code, 6, (some .long), 0, [(0, .lload_n 0, 1, 0, 0, 0), (1, .lload_n 2, 2, 0, 0, 0), (2, .ldiv, 3, 0, 0, 0), (3, .lstore 4, 5, 0, 0, 0), (5, .lload_n 0, 6, 0, 0, 0), (6, .lload_n 2, 7, 0, 0, 0), (7, .lxor, 8, 0, 0, 0), (8, .lconst 0, 9, 0, 0, 0), (9, .lcmp, 10, 0, 0, 0), (10, .ifCond .ge 17, 13, 27, 0, 0), (13, .lload 4, 15, 0, 0, 0), (15, .lload_n 2, 16, 0, 0, 0), (16, .lmul, 17, 0, 0, 0), (17, .lload_n 0, 18, 0, 0, 0), (18, .lcmp, 19, 0, 0, 0), (19, .ifCond .eq 8, 22, 27, 0, 0), (22, .lload 4, 24, 0, 0, 0), (24, .lconst 1, 25, 0, 0, 0), (25, .lsub, 26, 0, 0, 0), (26, .lreturn, 27, 0, 0, 0), (27, .lload 4, 29, 0, 0, 0), (29, .lreturn, 30, 0, 0, 0)])
def tT_tryRowsWith : am_T := (⟨"TwoGames", "tryRowsWith", "(III)V"⟩, prog_1_method_56_code, 5, none, 16, [(0, .aload_n 0, 1, 0, 0, 0), (1, .iload_n 1, 2, 0, 0, 0), (2, .invokevirtual 91, 5, 16, 1, 280), (5, .astore 4, 7, 0, 0, 0), (7, .aload 4, 9, 0, 0, 0), (9, .ifnull 51, 12, 60, 0, 0), (12, .aload 4, 14, 0, 0, 0), (14, .getfield 95, 17, 2, 0, 249), (17, .iconst 2, 18, 0, 0, 0), (18, .if_icmp .eq 42, 21, 60, 0, 0), (21, .aload_n 0, 22, 0, 0, 0), (22, .getfield 54, 25, 6, 10, 198), (25, .iload_n 2, 26, 0, 0, 0), (26, .iload_n 1, 27, 0, 0, 0), (27, .iastore, 28, 0, 0, 0), (28, .aload_n 0, 29, 0, 0, 0), (29, .getfield 47, 32, 6, 8, 196), (32, .iload_n 2, 33, 0, 0, 0), (33, .iconst 1, 34, 0, 0, 0), (34, .iadd, 35, 0, 0, 0), (35, .aaload, 36, 0, 0, 0), (36, .aload_n 0, 37, 0, 0, 0), (37, .getfield 47, 40, 6, 8, 196), (40, .iload_n 2, 41, 0, 0, 0), (41, .aaload, 42, 0, 0, 0), (42, .aload 4, 44, 0, 0, 0), (44, .getfield 115, 47, 2, 2, 253), (47, .bipush 12, 49, 0, 0, 0), (49, .invokevirtual 286, 52, 46, 3, 402), (52, .aload_n 0, 53, 0, 0, 0), (53, .iload_n 2, 54, 0, 0, 0), (54, .iconst 1, 55, 0, 0, 0), (55, .iadd, 56, 0, 0, 0), (56, .iload_n 3, 57, 0, 0, 0), (57, .invokevirtual 204, 60, 63, 2, 469), (60, .return_, 61, 0, 0, 0)])
def tT_bestChoice : am_T := (⟨"TwoGames", "bestChoice", "()I"⟩, prog_1_method_22_code, 2, (some .int), 16, [(0, .aload_n 0, 1, 0, 0, 0), (1, .getfield 65, 4, 6, 12, 200), (4, .iconst 0, 5, 0, 0, 0), (5, .putfield 197, 8, 0, 0, 109), (8, .aload_n 0, 9, 0, 0, 0), (9, .getfield 47, 12, 6, 8, 196), (12, .iconst 0, 13, 0, 0, 0), (13, .aaload, 14, 0, 0, 0), (14, .aload_n 0, 15, 0, 0, 0), (15, .getfield 9, 18, 6, 0, 188), (18, .invokevirtual 201, 21, 44, 1, 395), (21, .aload_n 0, 22, 0, 0, 0), (22, .iconst 0, 23, 0, 0, 0), (23, .invokevirtual 216, 26, 69, 1, 495), (26, .aload_n 0, 27, 0, 0, 0), (27, .getfield 65, 30, 6, 12, 200), (30, .getfield 197, 33, 0, 0, 109), (33, .ifCond .ne 6, 36, 39, 0, 0), (36, .bipush (-4), 38, 0, 0, 0), (38, .ireturn, 39, 0, 0, 0), (39, .iconst 0, 40, 0, 0, 0), (40, .istore_n 1, 41, 0, 0, 0), (41, .iload_n 1, 42, 0, 0, 0), (42, .iconst 3, 43, 0, 0, 0), (43, .if_icmp .ge 37, 46, 80, 0, 0), (46, .aload_n 0, 47, 0, 0, 0), (47, .getfield 42, 50, 6, 7, 195), (50, .iload_n 1, 51, 0, 0, 0), (51, .iload_n 1, 52, 0, 0, 0), (52, .aload_n 0, 53, 0, 0, 0), (53, .getfield 9, 56, 6, 0, 188), (56, .if_icmp .ge 15, 59, 71, 0, 0), (59, .aload_n 0, 60, 0, 0, 0), (60, .getfield 65, 63, 6, 12, 200), (63, .getfield 207, 66, 0, 4, 116), (66, .iload_n 1, 67, 0, 0, 0), (67, .iaload, 68, 0, 0, 0), (68, .goto 5, 71, 73, 0, 0), (71, .bipush (-9), 73, 0, 0, 0), (73, .iastore, 74, 0, 0, 0), (74, .iinc 1 1, 77, 0, 0, 0), (77, .goto (-36), 80, 41, 0, 0), (80, .aload_n 0, 81, 0, 0, 0), (81, .getfield 38, 84, 6, 6, 194), (84, .aload_n 0, 85, 0, 0, 0), (85, .getfield 65, 88, 6, 12, 200), (88, .getfield 210, 91, 0, 1, 111), (91, .aload_n 0, 92, 0, 0, 0), (92, .getfield 65, 95, 6, 12, 200), (95, .getfield 213, 98, 0, 3, 114), (98, .invokevirtual 172, 101, 49, 2, 415), (101, .iconst 1, 102, 0, 0, 0), (102, .ireturn, 103, 0, 0, 0)])
def tT_tryChoices : am_T := (⟨"TwoGames", "tryChoices", "(I)V"⟩, prog_1_method_57_code, 3, none, 16, [(0, .iload_n 1, 1, 0, 0, 0), (1, .aload_n 0, 2, 0, 0, 0), (2, .getfield 9, 5, 6, 0, 188), (5, .if_icmp .ge 8, 8, 13, 0, 0), (8, .iload_n 1, 9, 0, 0, 0), (9, .iconst 3, 10, 0, 0, 0), (10, .if_icmp .lt 42, 13, 52, 0, 0), (13, .aload_n 0, 14, 0, 0, 0), (14, .getfield 47, 17, 6, 8, 196), (17, .iconst 1, 18, 0, 0, 0), (18, .aaload, 19, 0, 0, 0), (19, .aload_n 0, 20, 0, 0, 0), (20, .getfield 47, 23, 6, 8, 196), (23, .iconst 0, 24, 0, 0, 0), (24, .aaload, 25, 0, 0, 0), (25, .aload_n 0, 26, 0, 0, 0), (26, .getfield 51, 29, 6, 9, 197), (29, .bipush 12, 31, 0, 0, 0), (31, .invokevirtual 286, 34, 46, 3, 402), (34, .aload_n 0, 35, 0, 0, 0), (35, .getfield 65, 38, 6, 12, 200), (38, .aload_n 0, 39, 0, 0, 0), (39, .getfield 47, 42, 6, 8, 196), (42, .iconst 1, 43, 0, 0, 0), (43, .aaload, 44, 0, 0, 0), (44, .aload_n 0, 45, 0, 0, 0), (45, .getfield 54, 48, 6, 10, 198), (48, .invokevirtual 293, 51, 64, 2, 473), (51, .return_, 52, 0, 0, 0), (52, .iconst 0, 53, 0, 0, 0), (53, .istore_n 2, 54, 0, 0, 0), (54, .iload_n 2, 55, 0, 0, 0), (55, .aload_n 0, 56, 0, 0, 0), (56, .getfield 13, 59, 6, 1, 189), (59, .if_icmp .ge 15, 62, 74, 0, 0), (62, .aload_n 0, 63, 0, 0, 0), (63, .iload_n 2, 64, 0, 0, 0), (64, .iload_n 1, 65, 0, 0, 0), (65, .invokevirtual 301, 68, 70, 2, 499), (68, .iinc 2 1, 71, 0, 0, 0), (71, .goto (-17), 74, 54, 0, 0), (74, .return_, 75, 0, 0, 0)])
def tT_tryChoicesWith : am_T := (⟨"TwoGames", "tryChoicesWith", "(II)V"⟩, prog_1_method_58_code, 4, none, 16, [(0, .aload_n 0, 1, 0, 0, 0), (1, .iload_n 1, 2, 0, 0, 0), (2, .invokevirtual 91, 5, 16, 1, 280), (5, .astore_n 3, 6, 0, 0, 0), (6, .aload_n 3, 7, 0, 0, 0), (7, .ifnull 37, 10, 44, 0, 0), (10, .aload_n 3, 11, 0, 0, 0), (11, .getfield 95, 14, 2, 0, 249), (14, .iconst 2, 15, 0, 0, 0), (15, .if_icmp .eq 29, 18, 44, 0, 0), (18, .aload_n 0, 19, 0, 0, 0), (19, .getfield 54, 22, 6, 10, 198), (22, .iload_n 2, 23, 0, 0, 0), (23, .iload_n 1, 24, 0, 0, 0), (24, .iastore, 25, 0, 0, 0), (25, .aload_n 0, 26, 0, 0, 0), (26, .getfield 51, 29, 6, 9, 197), (29, .iload_n 2, 30, 0, 0, 0), (30, .aload_n 3, 31, 0, 0, 0), (31, .getfield 115, 34, 2, 2, 253), (34, .iload_n 2, 35, 0, 0, 0), (35, .iaload, 36, 0, 0, 0), (36, .iastore, 37, 0, 0, 0), (37, .aload_n 0, 38, 0, 0, 0), (38, .iload_n 2, 39, 0, 0, 0), (39, .iconst 1, 40, 0, 0, 0), (40, .iadd, 41, 0, 0, 0), (41, .invokevirtual 216, 44, 69, 1, 495), (44, .return_, 45, 0, 0, 0)])
def tT_choice : am_T := (⟨"TwoGames", "choice", "(I)I"⟩, prog_1_method_23_code, 2, (some .int), 16, [(0, .iload_n 1, 1, 0, 0, 0), (1, .ifCond .lt 8, 4, 9, 0, 0), (4, .iload_n 1, 5, 0, 0, 0), (5, .iconst 3, 6, 0, 0, 0), (6, .if_icmp .lt 6, 9, 12, 0, 0), (9, .bipush (-9), 11, 0, 0, 0), (11, .ireturn, 12, 0, 0, 0), (12, .aload_n 0, 13, 0, 0, 0), (13, .getfield 42, 16, 6, 7, 195), (16, .iload_n 1, 17, 0, 0, 0), (17, .iaload, 18, 0, 0, 0), (18, .ireturn, 19, 0, 0, 0)])
def tT_paradoxes : am_T := (⟨"TwoGames", "paradoxes", "()I"⟩, prog_1_method_24_code, 4, (some .int), 16, [(0, .iconst 0, 1, 0, 0, 0), (1, .istore_n 1, 2, 0, 0, 0), (2, .iconst 0, 3, 0, 0, 0), (3, .istore_n 2, 4, 0, 0, 0), (4, .iload_n 2, 5, 0, 0, 0), (5, .aload_n 0, 6, 0, 0, 0), (6, .getfield 13, 9, 6, 1, 189), (9, .if_icmp .ge 58, 12, 67, 0, 0), (12, .aload_n 0, 13, 0, 0, 0), (13, .iload_n 2, 14, 0, 0, 0), (14, .invokevirtual 219, 17, 73, 1, 511), (17, .ifCond .ne 6, 20, 23, 0, 0), (20, .goto 41, 23, 61, 0, 0), (23, .iload_n 2, 24, 0, 0, 0), (24, .iconst 1, 25, 0, 0, 0), (25, .iadd, 26, 0, 0, 0), (26, .istore_n 3, 27, 0, 0, 0), (27, .iload_n 3, 28, 0, 0, 0), (28, .aload_n 0, 29, 0, 0, 0), (29, .getfield 13, 32, 6, 1, 189), (32, .if_icmp .ge 29, 35, 61, 0, 0), (35, .aload_n 0, 36, 0, 0, 0), (36, .iload_n 3, 37, 0, 0, 0), (37, .invokevirtual 219, 40, 73, 1, 511), (40, .ifCond .eq 15, 43, 55, 0, 0), (43, .aload_n 0, 44, 0, 0, 0), (44, .iload_n 2, 45, 0, 0, 0), (45, .iload_n 3, 46, 0, 0, 0), (46, .invokevirtual 222, 49, 74, 2, 515), (49, .ifCond .eq 6, 52, 55, 0, 0), (52, .iinc 1 1, 55, 0, 0, 0), (55, .iinc 3 1, 58, 0, 0, 0), (58, .goto (-31), 61, 27, 0, 0), (61, .iinc 2 1, 64, 0, 0, 0), (64, .goto (-60), 67, 4, 0, 0), (67, .iload_n 1, 68, 0, 0, 0), (68, .ireturn, 69, 0, 0, 0)])
def tT_losesAlone : am_T := (⟨"TwoGames", "losesAlone", "(I)Z"⟩, prog_1_method_53_code, 3, (some .boolean), 16, [(0, .aload_n 0, 1, 0, 0, 0), (1, .iload_n 1, 2, 0, 0, 0), (2, .invokevirtual 279, 5, 42, 1, 387), (5, .ifCond .ne 5, 8, 10, 0, 0), (8, .iconst 0, 9, 0, 0, 0), (9, .ireturn, 10, 0, 0, 0), (10, .aload_n 0, 11, 0, 0, 0), (11, .getfield 58, 14, 6, 11, 199), (14, .iconst 1, 15, 0, 0, 0), (15, .invokevirtual 132, 18, 32, 1, 343), (18, .aload_n 0, 19, 0, 0, 0), (19, .getfield 58, 22, 6, 11, 199), (22, .getfield 140, 25, 5, 1, 96), (25, .iconst 0, 26, 0, 0, 0), (26, .iload_n 1, 27, 0, 0, 0), (27, .iastore, 28, 0, 0, 0), (28, .aload_n 0, 29, 0, 0, 0), (29, .aload_n 0, 30, 0, 0, 0), (30, .getfield 58, 33, 6, 11, 199), (33, .invokevirtual 160, 36, 43, 1, 391), (36, .astore_n 2, 37, 0, 0, 0), (37, .aload_n 2, 38, 0, 0, 0), (38, .invokevirtual 176, 41, 53, 0, 429), (41, .ifCond .eq 15, 44, 56, 0, 0), (44, .aload_n 2, 45, 0, 0, 0), (45, .invokevirtual 194, 48, 58, 0, 449), (48, .iconst 2, 49, 0, 0, 0), (49, .if_icmp .ne 7, 52, 56, 0, 0), (52, .iconst 1, 53, 0, 0, 0), (53, .goto 4, 56, 57, 0, 0), (56, .iconst 0, 57, 0, 0, 0), (57, .ireturn, 58, 0, 0, 0)])
def tT_winByTurns : am_T := (⟨"TwoGames", "winByTurns", "(II)Z"⟩, prog_1_method_54_code, 4, (some .boolean), 16, [(0, .aload_n 0, 1, 0, 0, 0), (1, .getfield 58, 4, 6, 11, 199), (4, .iconst 2, 5, 0, 0, 0), (5, .invokevirtual 132, 8, 32, 1, 343), (8, .aload_n 0, 9, 0, 0, 0), (9, .getfield 58, 12, 6, 11, 199), (12, .getfield 140, 15, 5, 1, 96), (15, .iconst 0, 16, 0, 0, 0), (16, .iload_n 1, 17, 0, 0, 0), (17, .iastore, 18, 0, 0, 0), (18, .aload_n 0, 19, 0, 0, 0), (19, .getfield 58, 22, 6, 11, 199), (22, .getfield 140, 25, 5, 1, 96), (25, .iconst 1, 26, 0, 0, 0), (26, .iload_n 2, 27, 0, 0, 0), (27, .iastore, 28, 0, 0, 0), (28, .aload_n 0, 29, 0, 0, 0), (29, .aload_n 0, 30, 0, 0, 0), (30, .getfield 58, 33, 6, 11, 199), (33, .invokevirtual 160, 36, 43, 1, 391), (36, .astore_n 3, 37, 0, 0, 0), (37, .aload_n 3, 38, 0, 0, 0), (38, .invokevirtual 176, 41, 53, 0, 429), (41, .ifCond .eq 15, 44, 56, 0, 0), (44, .aload_n 3, 45, 0, 0, 0), (45, .invokevirtual 194, 48, 58, 0, 449), (48, .iconst 1, 49, 0, 0, 0), (49, .if_icmp .ne 7, 52, 56, 0, 0), (52, .iconst 1, 53, 0, 0, 0), (53, .goto 4, 56, 57, 0, 0), (56, .iconst 0, 57, 0, 0, 0), (57, .ireturn, 58, 0, 0, 0)])
def tT_after : am_T := (⟨"TwoGames", "after", "(IIII)I"⟩, prog_1_method_25_code, 7, (some .int), 16, [(0, .aload_n 0, 1, 0, 0, 0), (1, .iload_n 1, 2, 0, 0, 0), (2, .invokevirtual 128, 5, 31, 1, 339), (5, .astore 5, 7, 0, 0, 0), (7, .aload 5, 9, 0, 0, 0), (9, .ifnull 25, 12, 34, 0, 0), (12, .iload_n 3, 13, 0, 0, 0), (13, .invokestatic 225, 16, 76, 1, 523), (16, .ifCond .eq 18, 19, 34, 0, 0), (19, .iload_n 2, 20, 0, 0, 0), (20, .invokestatic 228, 23, 77, 1, 526), (23, .ifCond .eq 11, 26, 34, 0, 0), (26, .iload 4, 28, 0, 0, 0), (28, .invokestatic 231, 31, 78, 1, 529), (31, .ifCond .ne 5, 34, 36, 0, 0), (34, .iconst (-1), 35, 0, 0, 0), (35, .ireturn, 36, 0, 0, 0), (36, .aload_n 0, 37, 0, 0, 0), (37, .aload 5, 39, 0, 0, 0), (39, .invokevirtual 156, 42, 40, 1, 379), (42, .istore 6, 44, 0, 0, 0), (44, .iload 6, 46, 0, 0, 0), (46, .ifCond .eq 6, 49, 52, 0, 0), (49, .iload 6, 51, 0, 0, 0), (51, .ireturn, 52, 0, 0, 0), (52, .aload_n 0, 53, 0, 0, 0), (53, .aload 5, 55, 0, 0, 0), (55, .iload_n 2, 56, 0, 0, 0), (56, .iload_n 3, 57, 0, 0, 0), (57, .invokevirtual 234, 60, 79, 3, 532), (60, .aload_n 0, 61, 0, 0, 0), (61, .getfield 38, 64, 6, 6, 194), (64, .aload_n 0, 65, 0, 0, 0), (65, .getfield 72, 68, 6, 13, 201), (68, .iload 4, 70, 0, 0, 0), (70, .invokevirtual 238, 73, 83, 1, 549), (73, .aload_n 0, 74, 0, 0, 0), (74, .getfield 72, 77, 6, 13, 201), (77, .getfield 242, 80, 3, 2, 137), (80, .invokevirtual 172, 83, 49, 2, 415), (83, .iconst 1, 84, 0, 0, 0), (84, .ireturn, 85, 0, 0, 0)])
def tT_areTurns : am_T := (⟨"TwoGames", "areTurns", "(I)Z"⟩, prog_1_method_41_code, 1, (some .boolean), 16, [(0, .iload_n 0, 1, 0, 0, 0), (1, .ifCond .lt 13, 4, 14, 0, 0), (4, .iload_n 0, 5, 0, 0, 0), (5, .bipush 9, 7, 0, 0, 0), (7, .if_icmp .gt 7, 10, 14, 0, 0), (10, .iconst 1, 11, 0, 0, 0), (11, .goto 4, 14, 15, 0, 0), (14, .iconst 0, 15, 0, 0, 0), (15, .ireturn, 16, 0, 0, 0)])
def tT_isFirstPurse : am_T := (⟨"TwoGames", "isFirstPurse", "(I)Z"⟩, prog_1_method_42_code, 1, (some .boolean), 16, [(0, .iload_n 0, 1, 0, 0, 0), (1, .bipush (-20), 3, 0, 0, 0), (3, .if_icmp .lt 13, 6, 16, 0, 0), (6, .iload_n 0, 7, 0, 0, 0), (7, .bipush 20, 9, 0, 0, 0), (9, .if_icmp .gt 7, 12, 16, 0, 0), (12, .iconst 1, 13, 0, 0, 0), (13, .goto 4, 16, 17, 0, 0), (16, .iconst 0, 17, 0, 0, 0), (17, .ireturn, 18, 0, 0, 0)])
def tT_isLaterPurse : am_T := (⟨"TwoGames", "isLaterPurse", "(I)Z"⟩, prog_1_method_43_code, 1, (some .boolean), 16, [(0, .iload_n 0, 1, 0, 0, 0), (1, .bipush (-40), 3, 0, 0, 0), (3, .if_icmp .lt 13, 6, 16, 0, 0), (6, .iload_n 0, 7, 0, 0, 0), (7, .bipush 40, 9, 0, 0, 0), (9, .if_icmp .gt 7, 12, 16, 0, 0), (12, .iconst 1, 13, 0, 0, 0), (13, .goto 4, 16, 17, 0, 0), (16, .iconst 0, 17, 0, 0, 0), (17, .ireturn, 18, 0, 0, 0)])
def tT_spread : am_T := (⟨"TwoGames", "spread", "(LTwoGames$Row;II)V"⟩, prog_1_method_59_code, 6, none, 16, [(0, .aload_n 0, 1, 0, 0, 0), (1, .getfield 72, 4, 6, 13, 201), (4, .iload_n 2, 5, 0, 0, 0), (5, .invokevirtual 304, 8, 80, 1, 536), (8, .iconst 0, 9, 0, 0, 0), (9, .istore 4, 11, 0, 0, 0), (11, .iload 4, 13, 0, 0, 0), (13, .iload_n 3, 14, 0, 0, 0), (14, .if_icmp .ge 55, 17, 69, 0, 0), (17, .aload_n 1, 18, 0, 0, 0), (18, .getfield 139, 21, 5, 0, 94), (21, .ifCond .le 48, 24, 69, 0, 0), (24, .aload_n 0, 25, 0, 0, 0), (25, .aload_n 1, 26, 0, 0, 0), (26, .getfield 140, 29, 5, 1, 96), (29, .iload 4, 31, 0, 0, 0), (31, .aload_n 1, 32, 0, 0, 0), (32, .getfield 139, 35, 5, 0, 94), (35, .irem, 36, 0, 0, 0), (36, .iaload, 37, 0, 0, 0), (37, .invokevirtual 91, 40, 16, 1, 280), (40, .astore 5, 42, 0, 0, 0), (42, .aload 5, 44, 0, 0, 0), (44, .ifnull 19, 47, 63, 0, 0), (47, .aload_n 0, 48, 0, 0, 0), (48, .getfield 72, 51, 6, 13, 201), (51, .aload 5, 53, 0, 0, 0), (53, .getfield 115, 56, 2, 2, 253), (56, .aload_n 0, 57, 0, 0, 0), (57, .getfield 9, 60, 6, 0, 188), (60, .invokevirtual 305, 63, 81, 2, 541), (63, .iinc 4 1, 66, 0, 0, 0), (66, .goto (-55), 69, 11, 0, 0), (69, .return_, 70, 0, 0, 0)])
def tU_begin : am_T := (⟨"TwoGames$Purses", "begin", "(I)V"⟩, prog_5_method_2_code, 2, none, 13, [(0, .aload_n 0, 1, 0, 0, 0), (1, .iload_n 1, 2, 0, 0, 0), (2, .putfield 9, 5, 3, 0, 134), (5, .aload_n 0, 6, 0, 0, 0), (6, .iconst 0, 7, 0, 0, 0), (7, .putfield 15, 10, 3, 1, 135), (10, .aload_n 0, 11, 0, 0, 0), (11, .lconst 1, 12, 0, 0, 0), (12, .putfield 18, 15, 3, 2, 136), (15, .aload_n 0, 16, 0, 0, 0), (16, .getfield 22, 19, 3, 3, 138), (19, .lconst 0, 20, 0, 0, 0), (20, .invokestatic 26, 23, 45, 2, 540), (23, .aload_n 0, 24, 0, 0, 0), (24, .getfield 22, 27, 3, 3, 138), (27, .bipush 9, 29, 0, 0, 0), (29, .lconst 1, 30, 0, 0, 0), (30, .lastore, 31, 0, 0, 0), (31, .return_, 32, 0, 0, 0)])
def tU_follow_c0 : List am_E := [(0, .aload_n 0, 1, 0, 0, 0), (1, .getfield 15, 4, 3, 1, 135), (4, .bipush 9, 6, 0, 0, 0), (6, .if_icmp .ge 8, 9, 14, 0, 0), (9, .iload_n 2, 10, 0, 0, 0), (10, .iconst 1, 11, 0, 0, 0), (11, .if_icmp .ge 4, 14, 15, 0, 0), (14, .return_, 15, 0, 0, 0), (15, .bipush 9, 17, 0, 0, 0), (17, .aload_n 0, 18, 0, 0, 0), (18, .getfield 15, 21, 3, 1, 135), (21, .isub, 22, 0, 0, 0), (22, .istore_n 3, 23, 0, 0, 0), (23, .iload_n 3, 24, 0, 0, 0), (24, .bipush 9, 26, 0, 0, 0), (26, .aload_n 0, 27, 0, 0, 0), (27, .getfield 15, 30, 3, 1, 135), (30, .iadd, 31, 0, 0, 0), (31, .if_icmp .gt 78, 34, 109, 0, 0), (34, .aload_n 1, 35, 0, 0, 0), (35, .aload_n 0, 36, 0, 0, 0), (36, .getfield 9, 39, 3, 0, 134), (39, .iload_n 3, 40, 0, 0, 0), (40, .iadd, 41, 0, 0, 0), (41, .bipush 9, 43, 0, 0, 0), (43, .isub, 44, 0, 0, 0), (44, .iload_n 2, 45, 0, 0, 0), (45, .invokestatic 32, 48, 82, 2, 545), (48, .iaload, 49, 0, 0, 0), (49, .istore 4, 51, 0, 0, 0), (51, .aload_n 0, 52, 0, 0, 0), (52, .getfield 22, 55, 3, 3, 138), (55, .iload_n 3, 56, 0, 0, 0), (56, .iconst 1, 57, 0, 0, 0), (57, .iadd, 58, 0, 0, 0), (58, .dup2, 59, 0, 0, 0), (59, .laload, 60, 0, 0, 0), (60, .aload_n 0, 61, 0, 0, 0), (61, .getfield 22, 64, 3, 3, 138), (64, .iload_n 3, 65, 0, 0, 0), (65, .laload, 66, 0, 0, 0), (66, .iload 4, 68, 0, 0, 0), (68, .i2l, 69, 0, 0, 0), (69, .lmul, 70, 0, 0, 0), (70, .ladd, 71, 0, 0, 0), (71, .lastore, 72, 0, 0, 0), (72, .aload_n 0, 73, 0, 0, 0), (73, .getfield 22, 76, 3, 3, 138), (76, .iload_n 3, 77, 0, 0, 0), (77, .iconst 1, 78, 0, 0, 0), (78, .isub, 79, 0, 0, 0), (79, .dup2, 80, 0, 0, 0), (80, .laload, 81, 0, 0, 0), (81, .aload_n 0, 82, 0, 0, 0), (82, .getfield 22, 85, 3, 3, 138), (85, .iload_n 3, 86, 0, 0, 0), (86, .laload, 87, 0, 0, 0), (87, .bipush 12, 89, 0, 0, 0), (89, .iload 4, 91, 0, 0, 0), (91, .isub, 92, 0, 0, 0)]
def tU_follow_c1 : List am_E := [(92, .i2l, 93, 0, 0, 0), (93, .lmul, 94, 0, 0, 0), (94, .ladd, 95, 0, 0, 0), (95, .lastore, 96, 0, 0, 0), (96, .aload_n 0, 97, 0, 0, 0), (97, .getfield 22, 100, 3, 3, 138), (100, .iload_n 3, 101, 0, 0, 0), (101, .lconst 0, 102, 0, 0, 0), (102, .lastore, 103, 0, 0, 0), (103, .iinc 3 2, 106, 0, 0, 0), (106, .goto (-83), 109, 23, 0, 0), (109, .aload_n 0, 110, 0, 0, 0), (110, .dup, 111, 0, 0, 0), (111, .getfield 15, 114, 3, 1, 135), (114, .iconst 1, 115, 0, 0, 0), (115, .iadd, 116, 0, 0, 0), (116, .putfield 15, 119, 3, 1, 135), (119, .aload_n 0, 120, 0, 0, 0), (120, .dup, 121, 0, 0, 0), (121, .getfield 18, 124, 3, 2, 136), (124, .ldc2_w 38, 127, 12, 0, 548), (127, .lmul, 128, 0, 0, 0), (128, .putfield 18, 131, 3, 2, 136), (131, .return_, 132, 0, 0, 0)]
def tU_follow : am_T := (⟨"TwoGames$Purses", "follow", "([II)V"⟩, prog_5_method_3_code, 5, none, 13, tU_follow_c0 ++ (tU_follow_c1))
def tJ_floorMod : am_T := (⟨"java/lang/Math", "floorMod", "(II)I"⟩, prog_10_method_50_code, 3, (some .int), 0, [(0, .iload_n 0, 1, 0, 0, 0), (1, .iload_n 1, 2, 0, 0, 0), (2, .irem, 3, 0, 0, 0), (3, .istore_n 2, 4, 0, 0, 0), (4, .iload_n 0, 5, 0, 0, 0), (5, .iload_n 1, 6, 0, 0, 0), (6, .ixor, 7, 0, 0, 0), (7, .ifCond .ge 11, 10, 18, 0, 0), (10, .iload_n 2, 11, 0, 0, 0), (11, .ifCond .eq 7, 14, 18, 0, 0), (14, .iload_n 2, 15, 0, 0, 0), (15, .iload_n 1, 16, 0, 0, 0), (16, .iadd, 17, 0, 0, 0), (17, .ireturn, 18, 0, 0, 0), (18, .iload_n 2, 19, 0, 0, 0), (19, .ireturn, 20, 0, 0, 0)])
def tU_chanceOf : am_T := (⟨"TwoGames$Purses", "chanceOf", "(I)J"⟩, prog_5_method_4_code, 3, (some .long), 13, [(0, .iload_n 1, 1, 0, 0, 0), (1, .aload_n 0, 2, 0, 0, 0), (2, .getfield 9, 5, 3, 0, 134), (5, .isub, 6, 0, 0, 0), (6, .bipush 9, 8, 0, 0, 0), (8, .iadd, 9, 0, 0, 0), (9, .istore_n 2, 10, 0, 0, 0), (10, .iload_n 2, 11, 0, 0, 0), (11, .ifCond .lt 12, 14, 23, 0, 0), (14, .iload_n 2, 15, 0, 0, 0), (15, .aload_n 0, 16, 0, 0, 0), (16, .getfield 22, 19, 3, 3, 138), (19, .arraylength, 20, 0, 0, 0), (20, .if_icmp .lt 7, 23, 27, 0, 0), (23, .lconst 0, 24, 0, 0, 0), (24, .goto 9, 27, 33, 0, 0), (27, .aload_n 0, 28, 0, 0, 0), (28, .getfield 22, 31, 3, 3, 138), (31, .iload_n 2, 32, 0, 0, 0), (32, .laload, 33, 0, 0, 0), (33, .lreturn, 34, 0, 0, 0)])
def tT_meanAfter : am_T := (⟨"TwoGames", "meanAfter", "(III)I"⟩, prog_1_method_26_code, 6, (some .int), 16, [(0, .aload_n 0, 1, 0, 0, 0), (1, .iload_n 1, 2, 0, 0, 0), (2, .invokevirtual 128, 5, 31, 1, 339), (5, .astore 4, 7, 0, 0, 0), (7, .aload 4, 9, 0, 0, 0), (9, .ifnull 17, 12, 26, 0, 0), (12, .iload_n 3, 13, 0, 0, 0), (13, .invokestatic 225, 16, 76, 1, 523), (16, .ifCond .eq 10, 19, 26, 0, 0), (19, .iload_n 2, 20, 0, 0, 0), (20, .invokestatic 228, 23, 77, 1, 526), (23, .ifCond .ne 5, 26, 28, 0, 0), (26, .iconst (-1), 27, 0, 0, 0), (27, .ireturn, 28, 0, 0, 0), (28, .aload_n 0, 29, 0, 0, 0), (29, .aload 4, 31, 0, 0, 0), (31, .invokevirtual 156, 34, 40, 1, 379), (34, .istore 5, 36, 0, 0, 0), (36, .iload 5, 38, 0, 0, 0), (38, .ifCond .eq 6, 41, 44, 0, 0), (41, .iload 5, 43, 0, 0, 0), (43, .ireturn, 44, 0, 0, 0), (44, .aload_n 0, 45, 0, 0, 0), (45, .aload 4, 47, 0, 0, 0), (47, .iload_n 2, 48, 0, 0, 0), (48, .iload_n 3, 49, 0, 0, 0), (49, .invokevirtual 234, 52, 79, 3, 532), (52, .aload_n 0, 53, 0, 0, 0), (53, .getfield 38, 56, 6, 6, 194), (56, .aload_n 0, 57, 0, 0, 0), (57, .getfield 72, 60, 6, 13, 201), (60, .invokevirtual 243, 63, 85, 0, 557), (63, .aload_n 0, 64, 0, 0, 0), (64, .getfield 72, 67, 6, 13, 201), (67, .getfield 242, 70, 3, 2, 137), (70, .invokevirtual 172, 73, 49, 2, 415), (73, .iconst 1, 74, 0, 0, 0), (74, .ireturn, 75, 0, 0, 0)])
def tU_weighed : am_T := (⟨"TwoGames$Purses", "weighed", "()J"⟩, prog_5_method_5_code, 4, (some .long), 13, [(0, .lconst 0, 1, 0, 0, 0), (1, .lstore_n 1, 2, 0, 0, 0), (2, .iconst 0, 3, 0, 0, 0), (3, .istore_n 3, 4, 0, 0, 0), (4, .iload_n 3, 5, 0, 0, 0), (5, .aload_n 0, 6, 0, 0, 0), (6, .getfield 22, 9, 3, 3, 138), (9, .arraylength, 10, 0, 0, 0), (10, .if_icmp .ge 29, 13, 39, 0, 0), (13, .lload_n 1, 14, 0, 0, 0), (14, .aload_n 0, 15, 0, 0, 0), (15, .getfield 22, 18, 3, 3, 138), (18, .iload_n 3, 19, 0, 0, 0), (19, .laload, 20, 0, 0, 0), (20, .aload_n 0, 21, 0, 0, 0), (21, .getfield 9, 24, 3, 0, 134), (24, .iload_n 3, 25, 0, 0, 0), (25, .iadd, 26, 0, 0, 0), (26, .bipush 9, 28, 0, 0, 0), (28, .isub, 29, 0, 0, 0), (29, .i2l, 30, 0, 0, 0), (30, .lmul, 31, 0, 0, 0), (31, .ladd, 32, 0, 0, 0), (32, .lstore_n 1, 33, 0, 0, 0), (33, .iinc 3 1, 36, 0, 0, 0), (36, .goto (-32), 39, 4, 0, 0), (39, .lload_n 1, 40, 0, 0, 0), (40, .lreturn, 41, 0, 0, 0)])
def tT_ends_c0 : List am_E := [(0, .aload_n 0, 1, 0, 0, 0), (1, .iload_n 1, 2, 0, 0, 0), (2, .invokevirtual 91, 5, 16, 1, 280), (5, .astore 5, 7, 0, 0, 0), (7, .aload 5, 9, 0, 0, 0), (9, .ifnull 13, 12, 22, 0, 0), (12, .iload_n 2, 13, 0, 0, 0), (13, .iload_n 3, 14, 0, 0, 0), (14, .iload 4, 16, 0, 0, 0), (16, .invokestatic 247, 19, 87, 3, 565), (19, .ifCond .ne 5, 22, 24, 0, 0), (22, .iconst (-1), 23, 0, 0, 0), (23, .ireturn, 24, 0, 0, 0), (24, .aload 5, 26, 0, 0, 0), (26, .iconst 1, 27, 0, 0, 0), (27, .invokevirtual 108, 30, 22, 1, 302), (30, .ifCond .ne 9, 33, 39, 0, 0), (33, .aload_n 0, 34, 0, 0, 0), (34, .iconst 3, 35, 0, 0, 0), (35, .invokevirtual 111, 38, 23, 1, 306), (38, .ireturn, 39, 0, 0, 0), (39, .lconst 0, 40, 0, 0, 0), (40, .lstore 6, 42, 0, 0, 0), (42, .lconst 0, 43, 0, 0, 0), (43, .lstore 8, 45, 0, 0, 0), (45, .iload_n 2, 46, 0, 0, 0), (46, .istore 10, 48, 0, 0, 0), (48, .iload 10, 50, 0, 0, 0), (50, .iload 4, 52, 0, 0, 0), (52, .if_icmp .ge 42, 55, 94, 0, 0), (55, .aload_n 0, 56, 0, 0, 0), (56, .aload 5, 58, 0, 0, 0), (58, .iload_n 2, 59, 0, 0, 0), (59, .iload 10, 61, 0, 0, 0), (61, .iload 4, 63, 0, 0, 0), (63, .invokevirtual 251, 66, 88, 4, 568), (66, .lstore 11, 68, 0, 0, 0), (68, .lload 8, 70, 0, 0, 0), (70, .lload 11, 72, 0, 0, 0), (72, .ladd, 73, 0, 0, 0), (73, .lstore 8, 75, 0, 0, 0), (75, .iload 10, 77, 0, 0, 0), (77, .iload_n 3, 78, 0, 0, 0), (78, .if_icmp .ge 10, 81, 88, 0, 0), (81, .lload 6, 83, 0, 0, 0), (83, .lload 11, 85, 0, 0, 0), (85, .ladd, 86, 0, 0, 0), (86, .lstore 6, 88, 0, 0, 0), (88, .iinc 10 1, 91, 0, 0, 0), (91, .goto (-43), 94, 48, 0, 0), (94, .lload 8, 96, 0, 0, 0), (96, .lconst 0, 97, 0, 0, 0), (97, .lcmp, 98, 0, 0, 0), (98, .ifCond .ne 6, 101, 104, 0, 0), (101, .bipush (-4), 103, 0, 0, 0), (103, .ireturn, 104, 0, 0, 0), (104, .aload_n 0, 105, 0, 0, 0), (105, .getfield 38, 108, 6, 6, 194), (108, .lload 6, 110, 0, 0, 0), (110, .lload 8, 112, 0, 0, 0)]
def tT_ends_c1 : List am_E := [(112, .invokevirtual 172, 115, 49, 2, 415), (115, .iconst 1, 116, 0, 0, 0), (116, .ireturn, 117, 0, 0, 0)]
def tT_ends : am_T := (⟨"TwoGames", "ends", "(IIII)I"⟩, prog_1_method_27_code, 13, (some .int), 16, tT_ends_c0 ++ (tT_ends_c1))
def tT_areEnds : am_T := (⟨"TwoGames", "areEnds", "(III)Z"⟩, prog_1_method_44_code, 3, (some .boolean), 16, [(0, .iload_n 0, 1, 0, 0, 0), (1, .invokestatic 228, 4, 77, 1, 526), (4, .ifCond .eq 32, 7, 36, 0, 0), (7, .iload_n 2, 8, 0, 0, 0), (8, .invokestatic 228, 11, 77, 1, 526), (11, .ifCond .eq 25, 14, 36, 0, 0), (14, .iload_n 0, 15, 0, 0, 0), (15, .iload_n 1, 16, 0, 0, 0), (16, .if_icmp .ge 20, 19, 36, 0, 0), (19, .iload_n 1, 20, 0, 0, 0), (20, .iload_n 2, 21, 0, 0, 0), (21, .if_icmp .ge 15, 24, 36, 0, 0), (24, .iload_n 2, 25, 0, 0, 0), (25, .iload_n 0, 26, 0, 0, 0), (26, .isub, 27, 0, 0, 0), (27, .bipush 9, 29, 0, 0, 0), (29, .if_icmp .gt 7, 32, 36, 0, 0), (32, .iconst 1, 33, 0, 0, 0), (33, .goto 4, 36, 37, 0, 0), (36, .iconst 0, 37, 0, 0, 0), (37, .ireturn, 38, 0, 0, 0)])
def tT_weightOfCut : am_T := (⟨"TwoGames", "weightOfCut", "(LTwoGames$Play;III)J"⟩, prog_1_method_60_code, 9, (some .long), 16, [(0, .lconst 1, 1, 0, 0, 0), (1, .lstore 5, 3, 0, 0, 0), (3, .iload_n 2, 4, 0, 0, 0), (4, .iconst 1, 5, 0, 0, 0), (5, .iadd, 6, 0, 0, 0), (6, .istore 7, 8, 0, 0, 0), (8, .iload 7, 10, 0, 0, 0), (10, .iload 4, 12, 0, 0, 0), (12, .if_icmp .ge 48, 15, 60, 0, 0), (15, .aload_n 1, 16, 0, 0, 0), (16, .getfield 115, 19, 2, 2, 253), (19, .iload 7, 21, 0, 0, 0), (21, .aload_n 0, 22, 0, 0, 0), (22, .getfield 9, 25, 6, 0, 188), (25, .invokestatic 307, 28, 82, 2, 572), (28, .iaload, 29, 0, 0, 0), (29, .istore 8, 31, 0, 0, 0), (31, .lload 5, 33, 0, 0, 0), (33, .iload 7, 35, 0, 0, 0), (35, .iload_n 3, 36, 0, 0, 0), (36, .if_icmp .gt 12, 39, 48, 0, 0), (39, .bipush 12, 41, 0, 0, 0), (41, .iload 8, 43, 0, 0, 0), (43, .isub, 44, 0, 0, 0), (44, .i2l, 45, 0, 0, 0), (45, .goto 6, 48, 51, 0, 0), (48, .iload 8, 50, 0, 0, 0), (50, .i2l, 51, 0, 0, 0), (51, .lmul, 52, 0, 0, 0), (52, .lstore 5, 54, 0, 0, 0), (54, .iinc 7 1, 57, 0, 0, 0), (57, .goto (-49), 60, 8, 0, 0), (60, .lload 5, 62, 0, 0, 0), (62, .lreturn, 63, 0, 0, 0)])
def tT_run_c0 : List am_E := [(0, .aload_n 0, 1, 0, 0, 0), (1, .iload_n 1, 2, 0, 0, 0), (2, .invokevirtual 91, 5, 16, 1, 280), (5, .astore 5, 7, 0, 0, 0), (7, .aload 5, 9, 0, 0, 0), (9, .ifnull 23, 12, 32, 0, 0), (12, .iload_n 2, 13, 0, 0, 0), (13, .ifCond .lt 19, 16, 32, 0, 0), (16, .iload_n 2, 17, 0, 0, 0), (17, .iconst 3, 18, 0, 0, 0), (18, .if_icmp .gt 14, 21, 32, 0, 0), (21, .iload_n 3, 22, 0, 0, 0), (22, .iconst 1, 23, 0, 0, 0), (23, .if_icmp .lt 9, 26, 32, 0, 0), (26, .iload_n 3, 27, 0, 0, 0), (27, .bipush 12, 29, 0, 0, 0), (29, .if_icmp .le 5, 32, 34, 0, 0), (32, .iconst (-1), 33, 0, 0, 0), (33, .ireturn, 34, 0, 0, 0), (34, .iload 4, 36, 0, 0, 0), (36, .ifCond .lt 11, 39, 47, 0, 0), (39, .iload 4, 41, 0, 0, 0), (41, .iconst 1, 42, 0, 0, 0), (42, .iload_n 3, 43, 0, 0, 0), (43, .ishl, 44, 0, 0, 0), (44, .if_icmp .lt 5, 47, 49, 0, 0), (47, .iconst (-1), 48, 0, 0, 0), (48, .ireturn, 49, 0, 0, 0), (49, .aload 5, 51, 0, 0, 0), (51, .getfield 95, 54, 2, 0, 249), (54, .iconst 2, 55, 0, 0, 0), (55, .if_icmp .eq 9, 58, 64, 0, 0), (58, .aload_n 0, 59, 0, 0, 0), (59, .iconst 3, 60, 0, 0, 0), (60, .invokevirtual 111, 63, 23, 1, 306), (63, .ireturn, 64, 0, 0, 0), (64, .lconst 1, 65, 0, 0, 0), (65, .lstore 6, 67, 0, 0, 0), (67, .lconst 1, 68, 0, 0, 0), (68, .lstore 8, 70, 0, 0, 0), (70, .iload_n 2, 71, 0, 0, 0), (71, .istore 10, 73, 0, 0, 0), (73, .iconst 0, 74, 0, 0, 0), (74, .istore 11, 76, 0, 0, 0), (76, .iload 11, 78, 0, 0, 0), (78, .iload_n 3, 79, 0, 0, 0), (79, .if_icmp .ge 70, 82, 149, 0, 0), (82, .iload 4, 84, 0, 0, 0), (84, .iload 11, 86, 0, 0, 0), (86, .ishr, 87, 0, 0, 0), (87, .iconst 1, 88, 0, 0, 0), (88, .iand, 89, 0, 0, 0), (89, .istore 12, 91, 0, 0, 0), (91, .aload 5, 93, 0, 0, 0), (93, .getfield 115, 96, 2, 2, 253), (96, .iload 10, 98, 0, 0, 0), (98, .iaload, 99, 0, 0, 0), (99, .istore 13, 101, 0, 0, 0), (101, .lload 6, 103, 0, 0, 0), (103, .iload 12, 105, 0, 0, 0)]
def tT_run_c1 : List am_E := [(105, .iconst 1, 106, 0, 0, 0), (106, .if_icmp .ne 9, 109, 115, 0, 0), (109, .iload 13, 111, 0, 0, 0), (111, .i2l, 112, 0, 0, 0), (112, .goto 9, 115, 121, 0, 0), (115, .bipush 12, 117, 0, 0, 0), (117, .iload 13, 119, 0, 0, 0), (119, .isub, 120, 0, 0, 0), (120, .i2l, 121, 0, 0, 0), (121, .lmul, 122, 0, 0, 0), (122, .lstore 6, 124, 0, 0, 0), (124, .lload 8, 126, 0, 0, 0), (126, .ldc2_w 255, 129, 12, 0, 577), (129, .lmul, 130, 0, 0, 0), (130, .lstore 8, 132, 0, 0, 0), (132, .iload 10, 134, 0, 0, 0), (134, .iconst 1, 135, 0, 0, 0), (135, .ishl, 136, 0, 0, 0), (136, .iconst 3, 137, 0, 0, 0), (137, .iand, 138, 0, 0, 0), (138, .iload 12, 140, 0, 0, 0), (140, .ior, 141, 0, 0, 0), (141, .istore 10, 143, 0, 0, 0), (143, .iinc 11 1, 146, 0, 0, 0), (146, .goto (-70), 149, 76, 0, 0), (149, .aload_n 0, 150, 0, 0, 0), (150, .getfield 38, 153, 6, 6, 194), (153, .lload 6, 155, 0, 0, 0), (155, .lload 8, 157, 0, 0, 0), (157, .invokevirtual 172, 160, 49, 2, 415), (160, .iconst 1, 161, 0, 0, 0), (161, .ireturn, 162, 0, 0, 0)]
def tT_run : am_T := (⟨"TwoGames", "run", "(IIII)I"⟩, prog_1_method_28_code, 14, (some .int), 16, tT_run_c0 ++ (tT_run_c1))
def tT_upper : am_T := (⟨"TwoGames", "upper", "()J"⟩, prog_1_method_29_code, 1, (some .long), 16, [(0, .aload_n 0, 1, 0, 0, 0), (1, .getfield 38, 4, 6, 6, 194), (4, .getfield 257, 7, 1, 0, 77), (7, .lreturn, 8, 0, 0, 0)])
def tT_lower : am_T := (⟨"TwoGames", "lower", "()J"⟩, prog_1_method_30_code, 1, (some .long), 16, [(0, .aload_n 0, 1, 0, 0, 0), (1, .getfield 38, 4, 6, 6, 194), (4, .getfield 260, 7, 1, 1, 79), (7, .lreturn, 8, 0, 0, 0)])
def tT_count : am_T := (⟨"TwoGames", "count", "(I)I"⟩, prog_1_method_31_code, 2, (some .int), 16, [(0, .iload_n 1, 1, 0, 0, 0), (1, .tableswitch 51 0 3 #[31, 36, 41, 46], 32, 0, 0, 0), (32, .aload_n 0, 33, 0, 0, 0), (33, .getfield 13, 36, 6, 1, 189), (36, .ireturn, 37, 0, 0, 0), (37, .aload_n 0, 38, 0, 0, 0), (38, .invokevirtual 263, 41, 93, 0, 590), (41, .ireturn, 42, 0, 0, 0), (42, .aload_n 0, 43, 0, 0, 0), (43, .invokevirtual 266, 46, 94, 0, 594), (46, .ireturn, 47, 0, 0, 0), (47, .aload_n 0, 48, 0, 0, 0), (48, .getfield 9, 51, 6, 0, 188), (51, .ireturn, 52, 0, 0, 0), (52, .iconst (-1), 53, 0, 0, 0), (53, .ireturn, 54, 0, 0, 0)])
def tT_echoCount : am_T := (⟨"TwoGames", "echoCount", "()I"⟩, prog_1_method_45_code, 3, (some .int), 16, [(0, .iconst 0, 1, 0, 0, 0), (1, .istore_n 1, 2, 0, 0, 0), (2, .iconst 0, 3, 0, 0, 0), (3, .istore_n 2, 4, 0, 0, 0), (4, .iload_n 2, 5, 0, 0, 0), (5, .aload_n 0, 6, 0, 0, 0), (6, .getfield 13, 9, 6, 1, 189), (9, .if_icmp .ge 20, 12, 29, 0, 0), (12, .aload_n 0, 13, 0, 0, 0), (13, .iload_n 2, 14, 0, 0, 0), (14, .invokevirtual 279, 17, 42, 1, 387), (17, .ifCond .ne 6, 20, 23, 0, 0), (20, .iinc 1 1, 23, 0, 0, 0), (23, .iinc 2 1, 26, 0, 0, 0), (26, .goto (-22), 29, 4, 0, 0), (29, .iload_n 1, 30, 0, 0, 0), (30, .ireturn, 31, 0, 0, 0)])
def tT_rowsThere : am_T := (⟨"TwoGames", "rowsThere", "()I"⟩, prog_1_method_46_code, 3, (some .int), 16, [(0, .iconst 0, 1, 0, 0, 0), (1, .istore_n 1, 2, 0, 0, 0), (2, .iconst 0, 3, 0, 0, 0), (3, .istore_n 2, 4, 0, 0, 0), (4, .iload_n 2, 5, 0, 0, 0), (5, .iconst 4, 6, 0, 0, 0), (6, .if_icmp .ge 24, 9, 30, 0, 0), (9, .aload_n 0, 10, 0, 0, 0), (10, .getfield 24, 13, 6, 3, 191), (13, .iload_n 2, 14, 0, 0, 0), (14, .aaload, 15, 0, 0, 0), (15, .invokevirtual 135, 18, 34, 0, 352), (18, .ifCond .ne 6, 21, 24, 0, 0), (21, .iinc 1 1, 24, 0, 0, 0), (24, .iinc 2 1, 27, 0, 0, 0), (27, .goto (-23), 30, 4, 0, 0), (30, .iload_n 1, 31, 0, 0, 0), (31, .ireturn, 32, 0, 0, 0)])
def tT_finding : am_T := (⟨"TwoGames", "finding", "()I"⟩, prog_1_method_32_code, 1, (some .int), 16, [(0, .aload_n 0, 1, 0, 0, 0), (1, .getfield 28, 4, 6, 4, 192), (4, .ireturn, 5, 0, 0, 0)])
def tT_findings : am_T := (⟨"TwoGames", "findings", "(I)I"⟩, prog_1_method_33_code, 2, (some .int), 16, [(0, .iload_n 1, 1, 0, 0, 0), (1, .iconst 1, 2, 0, 0, 0), (2, .if_icmp .lt 8, 5, 10, 0, 0), (5, .iload_n 1, 6, 0, 0, 0), (6, .iconst 5, 7, 0, 0, 0), (7, .if_icmp .le 5, 10, 12, 0, 0), (10, .iconst (-1), 11, 0, 0, 0), (11, .ireturn, 12, 0, 0, 0), (12, .aload_n 0, 13, 0, 0, 0), (13, .getfield 31, 16, 6, 5, 193), (16, .iload_n 1, 17, 0, 0, 0), (17, .iaload, 18, 0, 0, 0), (18, .ireturn, 19, 0, 0, 0)])
def tT_digest : am_T := (⟨"TwoGames", "digest", "()J"⟩, prog_1_method_34_code, 5, (some .long), 16, [(0, .ldc2_w 269, 3, 527, 0, 610), (3, .aload_n 0, 4, 0, 0, 0), (4, .getfield 9, 7, 6, 0, 188), (7, .i2l, 8, 0, 0, 0), (8, .ladd, 9, 0, 0, 0), (9, .lstore_n 1, 10, 0, 0, 0), (10, .iconst 0, 11, 0, 0, 0), (11, .istore_n 3, 12, 0, 0, 0), (12, .iload_n 3, 13, 0, 0, 0), (13, .aload_n 0, 14, 0, 0, 0), (14, .getfield 13, 17, 6, 1, 189), (17, .if_icmp .ge 28, 20, 45, 0, 0), (20, .aload_n 0, 21, 0, 0, 0), (21, .iload_n 3, 22, 0, 0, 0), (22, .invokevirtual 91, 25, 16, 1, 280), (25, .astore 4, 27, 0, 0, 0), (27, .aload 4, 29, 0, 0, 0), (29, .ifnull 10, 32, 39, 0, 0), (32, .aload 4, 34, 0, 0, 0), (34, .lload_n 1, 35, 0, 0, 0), (35, .invokevirtual 271, 38, 98, 1, 611), (38, .lstore_n 1, 39, 0, 0, 0), (39, .iinc 3 1, 42, 0, 0, 0), (42, .goto (-30), 45, 12, 0, 0), (45, .iconst 0, 46, 0, 0, 0), (46, .istore_n 3, 47, 0, 0, 0), (47, .iload_n 3, 48, 0, 0, 0), (48, .iconst 4, 49, 0, 0, 0), (49, .if_icmp .ge 20, 52, 69, 0, 0), (52, .aload_n 0, 53, 0, 0, 0), (53, .getfield 24, 56, 6, 3, 191), (56, .iload_n 3, 57, 0, 0, 0), (57, .aaload, 58, 0, 0, 0), (58, .lload_n 1, 59, 0, 0, 0), (59, .invokevirtual 275, 62, 99, 1, 618), (62, .lstore_n 1, 63, 0, 0, 0), (63, .iinc 3 1, 66, 0, 0, 0), (66, .goto (-19), 69, 47, 0, 0), (69, .lload_n 1, 70, 0, 0, 0), (70, .lreturn, 71, 0, 0, 0)])
def tP_digestedInto : am_T := (⟨"TwoGames$Play", "digestedInto", "(J)J"⟩, prog_4_method_8_code, 6, (some .long), 12, [(0, .ldc2_w 37, 3, 31, 0, 615), (3, .lload_n 1, 4, 0, 0, 0), (4, .lmul, 5, 0, 0, 0), (5, .aload_n 0, 6, 0, 0, 0), (6, .getfield 15, 9, 2, 0, 248), (9, .i2l, 10, 0, 0, 0), (10, .ladd, 11, 0, 0, 0), (11, .lstore_n 3, 12, 0, 0, 0), (12, .ldc2_w 37, 15, 31, 0, 615), (15, .lload_n 3, 16, 0, 0, 0), (16, .lmul, 17, 0, 0, 0), (17, .aload_n 0, 18, 0, 0, 0), (18, .getfield 19, 21, 2, 1, 250), (21, .i2l, 22, 0, 0, 0), (22, .ladd, 23, 0, 0, 0), (23, .lstore_n 3, 24, 0, 0, 0), (24, .ldc2_w 37, 27, 31, 0, 615), (27, .lload_n 3, 28, 0, 0, 0), (28, .lmul, 29, 0, 0, 0), (29, .aload_n 0, 30, 0, 0, 0), (30, .invokevirtual 39, 33, 17, 0, 616), (33, .i2l, 34, 0, 0, 0), (34, .ladd, 35, 0, 0, 0), (35, .lstore_n 3, 36, 0, 0, 0), (36, .ldc2_w 37, 39, 31, 0, 615), (39, .lload_n 3, 40, 0, 0, 0), (40, .lmul, 41, 0, 0, 0), (41, .aload_n 0, 42, 0, 0, 0), (42, .invokevirtual 43, 45, 19, 0, 617), (45, .i2l, 46, 0, 0, 0), (46, .ladd, 47, 0, 0, 0), (47, .lstore_n 3, 48, 0, 0, 0), (48, .iconst 0, 49, 0, 0, 0), (49, .istore 5, 51, 0, 0, 0), (51, .iload 5, 53, 0, 0, 0), (53, .aload_n 0, 54, 0, 0, 0), (54, .getfield 19, 57, 2, 1, 250), (57, .if_icmp .ge 24, 60, 81, 0, 0), (60, .ldc2_w 37, 63, 31, 0, 615), (63, .lload_n 3, 64, 0, 0, 0), (64, .lmul, 65, 0, 0, 0), (65, .aload_n 0, 66, 0, 0, 0), (66, .getfield 9, 69, 2, 2, 252), (69, .iload 5, 71, 0, 0, 0), (71, .iaload, 72, 0, 0, 0), (72, .i2l, 73, 0, 0, 0), (73, .ladd, 74, 0, 0, 0), (74, .lstore_n 3, 75, 0, 0, 0), (75, .iinc 5 1, 78, 0, 0, 0), (78, .goto (-27), 81, 51, 0, 0), (81, .lload_n 3, 82, 0, 0, 0), (82, .lreturn, 83, 0, 0, 0)])
def tW_digestedInto : am_T := (⟨"TwoGames$Row", "digestedInto", "(J)J"⟩, prog_7_method_5_code, 6, (some .long), 15, [(0, .ldc2_w 25, 3, 31, 0, 622), (3, .lload_n 1, 4, 0, 0, 0), (4, .lmul, 5, 0, 0, 0), (5, .aload_n 0, 6, 0, 0, 0), (6, .getfield 9, 9, 5, 0, 93), (9, .i2l, 10, 0, 0, 0), (10, .ladd, 11, 0, 0, 0), (11, .lstore_n 3, 12, 0, 0, 0), (12, .iconst 0, 13, 0, 0, 0), (13, .istore 5, 15, 0, 0, 0), (15, .iload 5, 17, 0, 0, 0), (17, .aload_n 0, 18, 0, 0, 0), (18, .getfield 9, 21, 5, 0, 93), (21, .if_icmp .ge 24, 24, 45, 0, 0), (24, .ldc2_w 25, 27, 31, 0, 622), (27, .lload_n 3, 28, 0, 0, 0), (28, .lmul, 29, 0, 0, 0), (29, .aload_n 0, 30, 0, 0, 0), (30, .getfield 15, 33, 5, 1, 95), (33, .iload 5, 35, 0, 0, 0), (35, .iaload, 36, 0, 0, 0), (36, .i2l, 37, 0, 0, 0), (37, .ladd, 38, 0, 0, 0), (38, .lstore_n 3, 39, 0, 0, 0), (39, .iinc 5 1, 42, 0, 0, 0), (42, .goto (-27), 45, 15, 0, 0), (45, .lload_n 3, 46, 0, 0, 0), (46, .lreturn, 47, 0, 0, 0)])
def tM_init_c0 : List am_E := [(0, .aload_n 0, 1, 0, 0, 0), (1, .invokespecial 1, 4, 0, 200, 628), (4, .aload_n 0, 5, 0, 0, 0), (5, .bipush 6, 7, 0, 0, 0), (7, .newarray .int, 9, 0, 0, 0), (9, .putfield 7, 12, 7, 1, 630), (12, .aload_n 0, 13, 0, 0, 0), (13, .lconst 1, 14, 0, 0, 0), (14, .putfield 13, 17, 7, 3, 632), (17, .aload_n 0, 18, 0, 0, 0), (18, .iconst 3, 19, 0, 0, 0), (19, .putfield 17, 22, 7, 4, 633), (22, .aload_n 0, 23, 0, 0, 0), (23, .bipush 8, 25, 0, 0, 0), (25, .newarray .int, 27, 0, 0, 0), (27, .putfield 21, 30, 7, 6, 635), (30, .aload_n 0, 31, 0, 0, 0), (31, .bipush 32, 33, 0, 0, 0), (33, .newarray .int, 35, 0, 0, 0), (35, .putfield 24, 38, 7, 7, 636), (38, .aload_n 0, 39, 0, 0, 0), (39, .iconst 4, 40, 0, 0, 0), (40, .newarray .int, 42, 0, 0, 0), (42, .putfield 27, 45, 7, 8, 637), (45, .aload_n 0, 46, 0, 0, 0), (46, .bipush 16, 48, 0, 0, 0), (48, .newarray .int, 50, 0, 0, 0), (50, .putfield 30, 53, 7, 9, 638), (53, .aload_n 0, 54, 0, 0, 0), (54, .iconst 4, 55, 0, 0, 0), (55, .newarray .int, 57, 0, 0, 0), (57, .putfield 33, 60, 7, 10, 639), (60, .aload_n 0, 61, 0, 0, 0), (61, .bipush 12, 63, 0, 0, 0), (63, .newarray .long, 65, 0, 0, 0), (65, .putfield 36, 68, 7, 13, 642), (68, .aload_n 0, 69, 0, 0, 0), (69, .bipush 9, 71, 0, 0, 0), (71, .newarray .long, 73, 0, 0, 0), (73, .putfield 40, 76, 7, 15, 644), (76, .aload_n 0, 77, 0, 0, 0), (77, .iconst 3, 78, 0, 0, 0), (78, .newarray .long, 80, 0, 0, 0), (80, .putfield 43, 83, 7, 16, 645), (83, .aload_n 0, 84, 0, 0, 0), (84, .iconst 3, 85, 0, 0, 0), (85, .newarray .long, 87, 0, 0, 0), (87, .putfield 46, 90, 7, 17, 646), (90, .aload_n 0, 91, 0, 0, 0), (91, .iconst 3, 92, 0, 0, 0), (92, .newarray .long, 94, 0, 0, 0), (94, .putfield 49, 97, 7, 18, 647), (97, .aload_n 0, 98, 0, 0, 0), (98, .iconst 3, 99, 0, 0, 0), (99, .newarray .long, 101, 0, 0, 0), (101, .putfield 52, 104, 7, 19, 648), (104, .aload_n 0, 105, 0, 0, 0), (105, .iconst 4, 106, 0, 0, 0), (106, .newarray .int, 108, 0, 0, 0), (108, .putfield 55, 111, 7, 25, 654)]
def tM_init_c1 : List am_E := [(111, .aload_n 0, 112, 0, 0, 0), (112, .iconst 3, 113, 0, 0, 0), (113, .newarray .int, 115, 0, 0, 0), (115, .putfield 58, 118, 7, 26, 655), (118, .aload_n 0, 119, 0, 0, 0), (119, .bipush 61, 121, 0, 0, 0), (121, .newarray .long, 123, 0, 0, 0), (123, .putfield 61, 126, 7, 27, 656), (126, .aload_n 0, 127, 0, 0, 0), (127, .bipush 61, 129, 0, 0, 0), (129, .newarray .long, 131, 0, 0, 0), (131, .putfield 64, 134, 7, 28, 657), (134, .iconst 0, 135, 0, 0, 0), (135, .istore_n 1, 136, 0, 0, 0), (136, .iload_n 1, 137, 0, 0, 0), (137, .iconst 4, 138, 0, 0, 0), (138, .if_icmp .ge 17, 141, 155, 0, 0), (141, .aload_n 0, 142, 0, 0, 0), (142, .getfield 27, 145, 7, 8, 637), (145, .iload_n 1, 146, 0, 0, 0), (146, .bipush (-9), 148, 0, 0, 0), (148, .iastore, 149, 0, 0, 0), (149, .iinc 1 1, 152, 0, 0, 0), (152, .goto (-16), 155, 136, 0, 0), (155, .iconst 0, 156, 0, 0, 0), (156, .istore_n 1, 157, 0, 0, 0), (157, .iload_n 1, 158, 0, 0, 0), (158, .iconst 3, 159, 0, 0, 0), (159, .if_icmp .ge 17, 162, 176, 0, 0), (162, .aload_n 0, 163, 0, 0, 0), (163, .getfield 58, 166, 7, 26, 655), (166, .iload_n 1, 167, 0, 0, 0), (167, .bipush (-9), 169, 0, 0, 0), (169, .iastore, 170, 0, 0, 0), (170, .iinc 1 1, 173, 0, 0, 0), (173, .goto (-16), 176, 157, 0, 0), (176, .return_, 177, 0, 0, 0)]
def tM_init : am_T := (⟨"TwoGamesModel", "<init>", "()V"⟩, prog_9_method_1_code, 2, none, 17, tM_init_c0 ++ (tM_init_c1))
def tM_rest : am_T := (⟨"TwoGamesModel", "rest", "(I)I"⟩, prog_9_method_6_code, 3, (some .int), 17, [(0, .iload_n 1, 1, 0, 0, 0), (1, .iconst 1, 2, 0, 0, 0), (2, .iconst 3, 3, 0, 0, 0), (3, .invokestatic 73, 6, 102, 3, 721), (6, .ifCond .ne 5, 9, 11, 0, 0), (9, .iconst (-1), 10, 0, 0, 0), (10, .ireturn, 11, 0, 0, 0), (11, .aload_n 0, 12, 0, 0, 0), (12, .getfield 17, 15, 7, 4, 633), (15, .istore_n 2, 16, 0, 0, 0), (16, .aload_n 0, 17, 0, 0, 0), (17, .iload_n 1, 18, 0, 0, 0), (18, .putfield 17, 21, 7, 4, 633), (21, .iload_n 2, 22, 0, 0, 0), (22, .ireturn, 23, 0, 0, 0)])
def tM_in : am_T := (⟨"TwoGamesModel", "in", "(III)Z"⟩, prog_9_method_3_code, 3, (some .boolean), 17, [(0, .iload_n 0, 1, 0, 0, 0), (1, .iload_n 1, 2, 0, 0, 0), (2, .if_icmp .lt 12, 5, 14, 0, 0), (5, .iload_n 0, 6, 0, 0, 0), (6, .iload_n 2, 7, 0, 0, 0), (7, .if_icmp .gt 7, 10, 14, 0, 0), (10, .iconst 1, 11, 0, 0, 0), (11, .goto 4, 14, 15, 0, 0), (14, .iconst 0, 15, 0, 0, 0), (15, .ireturn, 16, 0, 0, 0)])
def tM_play : am_T := (⟨"TwoGamesModel", "play", "()I"⟩, prog_9_method_9_code, 1, (some .int), 17, [(0, .aload_n 0, 1, 0, 0, 0), (1, .iconst 0, 2, 0, 0, 0), (2, .bipush 12, 4, 0, 0, 0), (4, .bipush 12, 6, 0, 0, 0), (6, .bipush 12, 8, 0, 0, 0), (8, .iconst 0, 9, 0, 0, 0), (9, .invokevirtual 80, 12, 104, 5, 728), (12, .ireturn, 13, 0, 0, 0)])
def tM_put_c0 : List am_E := [(0, .aload_n 0, 1, 0, 0, 0), (1, .getfield 77, 4, 7, 5, 634), (4, .bipush 8, 6, 0, 0, 0), (6, .if_icmp .ne 6, 9, 12, 0, 0), (9, .bipush (-2), 11, 0, 0, 0), (11, .ireturn, 12, 0, 0, 0), (12, .aload_n 0, 13, 0, 0, 0), (13, .getfield 21, 16, 7, 6, 635), (16, .aload_n 0, 17, 0, 0, 0), (17, .getfield 77, 20, 7, 5, 634), (20, .iload_n 1, 21, 0, 0, 0), (21, .iastore, 22, 0, 0, 0), (22, .aload_n 0, 23, 0, 0, 0), (23, .getfield 24, 26, 7, 7, 636), (26, .iconst 4, 27, 0, 0, 0), (27, .aload_n 0, 28, 0, 0, 0), (28, .getfield 77, 31, 7, 5, 634), (31, .imul, 32, 0, 0, 0), (32, .iload_n 2, 33, 0, 0, 0), (33, .iastore, 34, 0, 0, 0), (34, .aload_n 0, 35, 0, 0, 0), (35, .getfield 24, 38, 7, 7, 636), (38, .iconst 4, 39, 0, 0, 0), (39, .aload_n 0, 40, 0, 0, 0), (40, .getfield 77, 43, 7, 5, 634), (43, .imul, 44, 0, 0, 0), (44, .iconst 1, 45, 0, 0, 0), (45, .iadd, 46, 0, 0, 0), (46, .iload_n 3, 47, 0, 0, 0), (47, .iastore, 48, 0, 0, 0), (48, .aload_n 0, 49, 0, 0, 0), (49, .getfield 24, 52, 7, 7, 636), (52, .iconst 4, 53, 0, 0, 0), (53, .aload_n 0, 54, 0, 0, 0), (54, .getfield 77, 57, 7, 5, 634), (57, .imul, 58, 0, 0, 0), (58, .iconst 2, 59, 0, 0, 0), (59, .iadd, 60, 0, 0, 0), (60, .iload 4, 62, 0, 0, 0), (62, .iastore, 63, 0, 0, 0), (63, .aload_n 0, 64, 0, 0, 0), (64, .getfield 24, 67, 7, 7, 636), (67, .iconst 4, 68, 0, 0, 0), (68, .aload_n 0, 69, 0, 0, 0), (69, .getfield 77, 72, 7, 5, 634), (72, .imul, 73, 0, 0, 0), (73, .iconst 3, 74, 0, 0, 0), (74, .iadd, 75, 0, 0, 0), (75, .iload 5, 77, 0, 0, 0), (77, .iastore, 78, 0, 0, 0), (78, .aload_n 0, 79, 0, 0, 0), (79, .dup, 80, 0, 0, 0), (80, .getfield 77, 83, 7, 5, 634), (83, .iconst 1, 84, 0, 0, 0), (84, .iadd, 85, 0, 0, 0), (85, .putfield 77, 88, 7, 5, 634), (88, .aload_n 0, 89, 0, 0, 0), (89, .getfield 77, 92, 7, 5, 634), (92, .iconst 1, 93, 0, 0, 0), (93, .isub, 94, 0, 0, 0)]
def tM_put_c1 : List am_E := [(94, .ireturn, 95, 0, 0, 0)]
def tM_put : am_T := (⟨"TwoGamesModel", "put", "(IIIII)I"⟩, prog_9_method_8_code, 6, (some .int), 17, tM_put_c0 ++ (tM_put_c1))
def tM_rested : am_T := (⟨"TwoGamesModel", "rested", "(III)I"⟩, prog_9_method_10_code, 4, (some .int), 17, [(0, .iload_n 1, 1, 0, 0, 0), (1, .invokestatic 84, 4, 106, 1, 736), (4, .ifCond .eq 29, 7, 33, 0, 0), (7, .iload_n 2, 8, 0, 0, 0), (8, .invokestatic 84, 11, 106, 1, 736), (11, .ifCond .eq 22, 14, 33, 0, 0), (14, .iload_n 3, 15, 0, 0, 0), (15, .invokestatic 84, 18, 106, 1, 736), (18, .ifCond .eq 15, 21, 33, 0, 0), (21, .aload_n 0, 22, 0, 0, 0), (22, .iconst 1, 23, 0, 0, 0), (23, .iload_n 1, 24, 0, 0, 0), (24, .iload_n 2, 25, 0, 0, 0), (25, .iload_n 3, 26, 0, 0, 0), (26, .iconst 0, 27, 0, 0, 0), (27, .invokevirtual 80, 30, 104, 5, 728), (30, .goto 4, 33, 34, 0, 0), (33, .iconst (-1), 34, 0, 0, 0), (34, .ireturn, 35, 0, 0, 0)])
def tM_isOdds : am_T := (⟨"TwoGamesModel", "isOdds", "(I)Z"⟩, prog_9_method_7_code, 1, (some .boolean), 17, [(0, .iload_n 0, 1, 0, 0, 0), (1, .iconst 0, 2, 0, 0, 0), (2, .bipush 12, 4, 0, 0, 0), (4, .invokestatic 73, 7, 102, 3, 721), (7, .ireturn, 8, 0, 0, 0)])
def tM_echo : am_T := (⟨"TwoGamesModel", "echo", "(IIII)I"⟩, prog_9_method_11_code, 5, (some .int), 17, [(0, .iload_n 1, 1, 0, 0, 0), (1, .invokestatic 84, 4, 106, 1, 736), (4, .ifCond .eq 38, 7, 42, 0, 0), (7, .iload_n 2, 8, 0, 0, 0), (8, .invokestatic 84, 11, 106, 1, 736), (11, .ifCond .eq 31, 14, 42, 0, 0), (14, .iload_n 3, 15, 0, 0, 0), (15, .invokestatic 84, 18, 106, 1, 736), (18, .ifCond .eq 24, 21, 42, 0, 0), (21, .iload 4, 23, 0, 0, 0), (23, .invokestatic 84, 26, 106, 1, 736), (26, .ifCond .eq 16, 29, 42, 0, 0), (29, .aload_n 0, 30, 0, 0, 0), (30, .iconst 2, 31, 0, 0, 0), (31, .iload_n 1, 32, 0, 0, 0), (32, .iload_n 2, 33, 0, 0, 0), (33, .iload_n 3, 34, 0, 0, 0), (34, .iload 4, 36, 0, 0, 0), (36, .invokevirtual 80, 39, 104, 5, 728), (39, .goto 4, 42, 43, 0, 0), (42, .iconst (-1), 43, 0, 0, 0), (43, .ireturn, 44, 0, 0, 0)])
def tM_flat : am_T := (⟨"TwoGamesModel", "flat", "(I)I"⟩, prog_9_method_12_code, 2, (some .int), 17, [(0, .iload_n 1, 1, 0, 0, 0), (1, .invokestatic 84, 4, 106, 1, 736), (4, .ifCond .eq 15, 7, 19, 0, 0), (7, .aload_n 0, 8, 0, 0, 0), (8, .iconst 3, 9, 0, 0, 0), (9, .iload_n 1, 10, 0, 0, 0), (10, .iload_n 1, 11, 0, 0, 0), (11, .iload_n 1, 12, 0, 0, 0), (12, .iconst 0, 13, 0, 0, 0), (13, .invokevirtual 80, 16, 104, 5, 728), (16, .goto 4, 19, 20, 0, 0), (19, .iconst (-1), 20, 0, 0, 0), (20, .ireturn, 21, 0, 0, 0)])
def tM_told : am_T := (⟨"TwoGamesModel", "told", "(II)I"⟩, prog_9_method_16_code, 3, (some .int), 17, [(0, .aload_n 0, 1, 0, 0, 0), (1, .iload_n 1, 2, 0, 0, 0), (2, .invokevirtual 92, 5, 110, 1, 751), (5, .ifCond .eq 21, 8, 26, 0, 0), (8, .iload_n 2, 9, 0, 0, 0), (9, .iconst 0, 10, 0, 0, 0), (10, .iconst 3, 11, 0, 0, 0), (11, .invokestatic 73, 14, 102, 3, 721), (14, .ifCond .eq 12, 17, 26, 0, 0), (17, .aload_n 0, 18, 0, 0, 0), (18, .iload_n 1, 19, 0, 0, 0), (19, .iload_n 2, 20, 0, 0, 0), (20, .invokevirtual 95, 23, 111, 2, 755), (23, .goto 4, 26, 27, 0, 0), (26, .iconst (-1), 27, 0, 0, 0), (27, .ireturn, 28, 0, 0, 0)])
def tM_isPlay : am_T := (⟨"TwoGamesModel", "isPlay", "(I)Z"⟩, prog_9_method_13_code, 2, (some .boolean), 17, [(0, .iload_n 1, 1, 0, 0, 0), (1, .iconst 0, 2, 0, 0, 0), (2, .aload_n 0, 3, 0, 0, 0), (3, .getfield 77, 6, 7, 5, 634), (6, .iconst 1, 7, 0, 0, 0), (7, .isub, 8, 0, 0, 0), (8, .invokestatic 73, 11, 102, 3, 721), (11, .ireturn, 12, 0, 0, 0)])
def tM_tells : am_T := (⟨"TwoGamesModel", "tells", "(II)I"⟩, prog_9_method_15_code, 6, (some .int), 17, [(0, .iload_n 2, 1, 0, 0, 0), (1, .iconst 2, 2, 0, 0, 0), (2, .if_icmp .ge 22, 5, 24, 0, 0), (5, .iload_n 2, 6, 0, 0, 0), (6, .ifCond .ne 12, 9, 18, 0, 0), (9, .aload_n 0, 10, 0, 0, 0), (10, .getfield 21, 13, 7, 6, 635), (13, .iload_n 1, 14, 0, 0, 0), (14, .iaload, 15, 0, 0, 0), (15, .goto 8, 18, 23, 0, 0), (18, .aload_n 0, 19, 0, 0, 0), (19, .iload_n 1, 20, 0, 0, 0), (20, .invokevirtual 88, 23, 112, 1, 759), (23, .ireturn, 24, 0, 0, 0), (24, .bipush (-9), 26, 0, 0, 0), (26, .istore_n 3, 27, 0, 0, 0), (27, .iconst 0, 28, 0, 0, 0), (28, .istore 4, 30, 0, 0, 0), (30, .iload 4, 32, 0, 0, 0), (32, .aload_n 0, 33, 0, 0, 0), (33, .iload_n 1, 34, 0, 0, 0), (34, .invokevirtual 88, 37, 112, 1, 759), (37, .if_icmp .ge 54, 40, 91, 0, 0), (40, .aload_n 0, 41, 0, 0, 0), (41, .getfield 24, 44, 7, 7, 636), (44, .iconst 4, 45, 0, 0, 0), (45, .iload_n 1, 46, 0, 0, 0), (46, .imul, 47, 0, 0, 0), (47, .iload 4, 49, 0, 0, 0), (49, .iadd, 50, 0, 0, 0), (50, .iaload, 51, 0, 0, 0), (51, .istore 5, 53, 0, 0, 0), (53, .iload 4, 55, 0, 0, 0), (55, .ifCond .eq 23, 58, 78, 0, 0), (58, .iload_n 2, 59, 0, 0, 0), (59, .iconst 2, 60, 0, 0, 0), (60, .if_icmp .ne 12, 63, 72, 0, 0), (63, .iload 5, 65, 0, 0, 0), (65, .iload_n 3, 66, 0, 0, 0), (66, .if_icmp .ge 17, 69, 83, 0, 0), (69, .goto 9, 72, 78, 0, 0), (72, .iload 5, 74, 0, 0, 0), (74, .iload_n 3, 75, 0, 0, 0), (75, .if_icmp .le 8, 78, 83, 0, 0), (78, .iload 5, 80, 0, 0, 0), (80, .goto 4, 83, 84, 0, 0), (83, .iload_n 3, 84, 0, 0, 0), (84, .istore_n 3, 85, 0, 0, 0), (85, .iinc 4 1, 88, 0, 0, 0), (88, .goto (-58), 91, 30, 0, 0), (91, .iload_n 3, 92, 0, 0, 0), (92, .ireturn, 93, 0, 0, 0)])
def tM_many : am_T := (⟨"TwoGamesModel", "many", "(I)I"⟩, prog_9_method_14_code, 2, (some .int), 17, [(0, .aload_n 0, 1, 0, 0, 0), (1, .getfield 21, 4, 7, 6, 635), (4, .iload_n 1, 5, 0, 0, 0), (5, .iaload, 6, 0, 0, 0), (6, .ifCond .ne 7, 9, 13, 0, 0), (9, .iconst 0, 10, 0, 0, 0), (10, .goto 32, 13, 42, 0, 0), (13, .aload_n 0, 14, 0, 0, 0), (14, .getfield 21, 17, 7, 6, 635), (17, .iload_n 1, 18, 0, 0, 0), (18, .iaload, 19, 0, 0, 0), (19, .iconst 1, 20, 0, 0, 0), (20, .if_icmp .ne 7, 23, 27, 0, 0), (23, .iconst 3, 24, 0, 0, 0), (24, .goto 18, 27, 42, 0, 0), (27, .aload_n 0, 28, 0, 0, 0), (28, .getfield 21, 31, 7, 6, 635), (31, .iload_n 1, 32, 0, 0, 0), (32, .iaload, 33, 0, 0, 0), (33, .iconst 2, 34, 0, 0, 0), (34, .if_icmp .ne 7, 37, 41, 0, 0), (37, .iconst 4, 38, 0, 0, 0), (38, .goto 4, 41, 42, 0, 0), (41, .iconst 1, 42, 0, 0, 0), (42, .ireturn, 43, 0, 0, 0)])
def tM_mark_c0 : List am_E := [(0, .aload_n 0, 1, 0, 0, 0), (1, .iload_n 1, 2, 0, 0, 0), (2, .invokevirtual 92, 5, 110, 1, 751), (5, .ifCond .eq 12, 8, 17, 0, 0), (8, .iload_n 2, 9, 0, 0, 0), (9, .iconst 1, 10, 0, 0, 0), (10, .iconst 3, 11, 0, 0, 0), (11, .invokestatic 73, 14, 102, 3, 721), (14, .ifCond .ne 5, 17, 19, 0, 0), (17, .iconst (-1), 18, 0, 0, 0), (18, .ireturn, 19, 0, 0, 0), (19, .aload_n 0, 20, 0, 0, 0), (20, .getfield 21, 23, 7, 6, 635), (23, .iload_n 1, 24, 0, 0, 0), (24, .iaload, 25, 0, 0, 0), (25, .iload_n 2, 26, 0, 0, 0), (26, .if_icmp .eq 24, 29, 50, 0, 0), (29, .iload_n 2, 30, 0, 0, 0), (30, .iconst 1, 31, 0, 0, 0), (31, .if_icmp .ne 13, 34, 44, 0, 0), (34, .aload_n 0, 35, 0, 0, 0), (35, .getfield 21, 38, 7, 6, 635), (38, .iload_n 1, 39, 0, 0, 0), (39, .iaload, 40, 0, 0, 0), (40, .iconst 3, 41, 0, 0, 0), (41, .if_icmp .eq 9, 44, 50, 0, 0), (44, .aload_n 0, 45, 0, 0, 0), (45, .iconst 3, 46, 0, 0, 0), (46, .invokevirtual 99, 49, 114, 1, 767), (49, .ireturn, 50, 0, 0, 0), (50, .iload_n 2, 51, 0, 0, 0), (51, .iconst 1, 52, 0, 0, 0), (52, .if_icmp .ne 14, 55, 66, 0, 0), (55, .aload_n 0, 56, 0, 0, 0), (56, .getfield 24, 59, 7, 7, 636), (59, .iconst 4, 60, 0, 0, 0), (60, .iload_n 1, 61, 0, 0, 0), (61, .imul, 62, 0, 0, 0), (62, .iaload, 63, 0, 0, 0), (63, .goto 32, 66, 95, 0, 0), (66, .iload_n 2, 67, 0, 0, 0), (67, .iconst 2, 68, 0, 0, 0), (68, .if_icmp .ne 16, 71, 84, 0, 0), (71, .aload_n 0, 72, 0, 0, 0), (72, .getfield 24, 75, 7, 7, 636), (75, .iconst 4, 76, 0, 0, 0), (76, .iload_n 1, 77, 0, 0, 0), (77, .imul, 78, 0, 0, 0), (78, .iconst 3, 79, 0, 0, 0), (79, .iadd, 80, 0, 0, 0), (80, .iaload, 81, 0, 0, 0), (81, .goto 14, 84, 95, 0, 0), (84, .aload_n 0, 85, 0, 0, 0), (85, .getfield 24, 88, 7, 7, 636), (88, .iconst 4, 89, 0, 0, 0), (89, .iload_n 1, 90, 0, 0, 0), (90, .imul, 91, 0, 0, 0), (91, .iaload, 92, 0, 0, 0), (92, .bipush 6, 94, 0, 0, 0), (94, .isub, 95, 0, 0, 0)]
def tM_mark_c1 : List am_E := [(95, .ireturn, 96, 0, 0, 0)]
def tM_mark : am_T := (⟨"TwoGamesModel", "mark", "(II)I"⟩, prog_9_method_17_code, 3, (some .int), 17, tM_mark_c0 ++ (tM_mark_c1))
def tM_meets : am_T := (⟨"TwoGamesModel", "meets", "(I)I"⟩, prog_9_method_4_code, 2, (some .int), 17, [(0, .aload_n 0, 1, 0, 0, 0), (1, .iload_n 1, 2, 0, 0, 0), (2, .putfield 67, 5, 7, 0, 629), (5, .aload_n 0, 6, 0, 0, 0), (6, .getfield 7, 9, 7, 1, 630), (9, .iload_n 1, 10, 0, 0, 0), (10, .dup2, 11, 0, 0, 0), (11, .iaload, 12, 0, 0, 0), (12, .iconst 1, 13, 0, 0, 0), (13, .iadd, 14, 0, 0, 0), (14, .iastore, 15, 0, 0, 0), (15, .bipush (-3), 17, 0, 0, 0), (17, .ireturn, 18, 0, 0, 0)])
def tM_odds : am_T := (⟨"TwoGamesModel", "odds", "(II)I"⟩, prog_9_method_18_code, 4, (some .int), 17, [(0, .aload_n 0, 1, 0, 0, 0), (1, .iload_n 1, 2, 0, 0, 0), (2, .invokevirtual 92, 5, 110, 1, 751), (5, .ifCond .ne 5, 8, 10, 0, 0), (8, .iconst (-1), 9, 0, 0, 0), (9, .ireturn, 10, 0, 0, 0), (10, .aload_n 0, 11, 0, 0, 0), (11, .getfield 21, 14, 7, 6, 635), (14, .iload_n 1, 15, 0, 0, 0), (15, .iaload, 16, 0, 0, 0), (16, .ifCond .ne 7, 19, 23, 0, 0), (19, .iconst 0, 20, 0, 0, 0), (20, .goto 18, 23, 38, 0, 0), (23, .aload_n 0, 24, 0, 0, 0), (24, .getfield 21, 27, 7, 6, 635), (27, .iload_n 1, 28, 0, 0, 0), (28, .iaload, 29, 0, 0, 0), (29, .iconst 2, 30, 0, 0, 0), (30, .if_icmp .ne 7, 33, 37, 0, 0), (33, .iconst 3, 34, 0, 0, 0), (34, .goto 4, 37, 38, 0, 0), (37, .iconst 2, 38, 0, 0, 0), (38, .istore_n 3, 39, 0, 0, 0), (39, .iload_n 2, 40, 0, 0, 0), (40, .iconst 0, 41, 0, 0, 0), (41, .iload_n 3, 42, 0, 0, 0), (42, .invokestatic 73, 45, 102, 3, 721), (45, .ifCond .eq 16, 48, 61, 0, 0), (48, .aload_n 0, 49, 0, 0, 0), (49, .getfield 24, 52, 7, 7, 636), (52, .iconst 4, 53, 0, 0, 0), (53, .iload_n 1, 54, 0, 0, 0), (54, .imul, 55, 0, 0, 0), (55, .iload_n 2, 56, 0, 0, 0), (56, .iadd, 57, 0, 0, 0), (57, .iaload, 58, 0, 0, 0), (58, .goto 8, 61, 66, 0, 0), (61, .aload_n 0, 62, 0, 0, 0), (62, .iconst 2, 63, 0, 0, 0), (63, .invokevirtual 99, 66, 114, 1, 767), (66, .ireturn, 67, 0, 0, 0)])
def tM_change_c0 : List am_E := [(0, .aload_n 0, 1, 0, 0, 0), (1, .iload_n 1, 2, 0, 0, 0), (2, .invokevirtual 92, 5, 110, 1, 751), (5, .ifCond .eq 10, 8, 15, 0, 0), (8, .iload_n 3, 9, 0, 0, 0), (9, .invokestatic 84, 12, 106, 1, 736), (12, .ifCond .ne 5, 15, 17, 0, 0), (15, .iconst (-1), 16, 0, 0, 0), (16, .ireturn, 17, 0, 0, 0), (17, .aload_n 0, 18, 0, 0, 0), (18, .getfield 21, 21, 7, 6, 635), (21, .iload_n 1, 22, 0, 0, 0), (22, .iaload, 23, 0, 0, 0), (23, .ifCond .ne 9, 26, 32, 0, 0), (26, .aload_n 0, 27, 0, 0, 0), (27, .iconst 3, 28, 0, 0, 0), (28, .invokevirtual 99, 31, 114, 1, 767), (31, .ireturn, 32, 0, 0, 0), (32, .iload_n 2, 33, 0, 0, 0), (33, .iconst 0, 34, 0, 0, 0), (34, .aload_n 0, 35, 0, 0, 0), (35, .iload_n 1, 36, 0, 0, 0), (36, .invokevirtual 88, 39, 112, 1, 759), (39, .iconst 1, 40, 0, 0, 0), (40, .isub, 41, 0, 0, 0), (41, .invokestatic 73, 44, 102, 3, 721), (44, .ifCond .ne 9, 47, 53, 0, 0), (47, .aload_n 0, 48, 0, 0, 0), (48, .iconst 2, 49, 0, 0, 0), (49, .invokevirtual 99, 52, 114, 1, 767), (52, .ireturn, 53, 0, 0, 0), (53, .aload_n 0, 54, 0, 0, 0), (54, .getfield 24, 57, 7, 7, 636), (57, .iconst 4, 58, 0, 0, 0), (58, .iload_n 1, 59, 0, 0, 0), (59, .imul, 60, 0, 0, 0), (60, .iload_n 2, 61, 0, 0, 0), (61, .iadd, 62, 0, 0, 0), (62, .iaload, 63, 0, 0, 0), (63, .istore 4, 65, 0, 0, 0), (65, .iconst 0, 66, 0, 0, 0), (66, .istore 5, 68, 0, 0, 0), (68, .iload 5, 70, 0, 0, 0), (70, .iconst 3, 71, 0, 0, 0), (71, .if_icmp .ge 51, 74, 122, 0, 0), (74, .aload_n 0, 75, 0, 0, 0), (75, .getfield 24, 78, 7, 7, 636), (78, .iconst 4, 79, 0, 0, 0), (79, .iload_n 1, 80, 0, 0, 0), (80, .imul, 81, 0, 0, 0), (81, .iload 5, 83, 0, 0, 0), (83, .iadd, 84, 0, 0, 0), (84, .iload 5, 86, 0, 0, 0), (86, .iload_n 2, 87, 0, 0, 0), (87, .if_icmp .eq 13, 90, 100, 0, 0), (90, .aload_n 0, 91, 0, 0, 0), (91, .getfield 21, 94, 7, 6, 635), (94, .iload_n 1, 95, 0, 0, 0), (95, .iaload, 96, 0, 0, 0), (96, .iconst 3, 97, 0, 0, 0)]
def tM_change_c1 : List am_E := [(97, .if_icmp .ne 7, 100, 104, 0, 0), (100, .iload_n 3, 101, 0, 0, 0), (101, .goto 14, 104, 115, 0, 0), (104, .aload_n 0, 105, 0, 0, 0), (105, .getfield 24, 108, 7, 7, 636), (108, .iconst 4, 109, 0, 0, 0), (109, .iload_n 1, 110, 0, 0, 0), (110, .imul, 111, 0, 0, 0), (111, .iload 5, 113, 0, 0, 0), (113, .iadd, 114, 0, 0, 0), (114, .iaload, 115, 0, 0, 0), (115, .iastore, 116, 0, 0, 0), (116, .iinc 5 1, 119, 0, 0, 0), (119, .goto (-51), 122, 68, 0, 0), (122, .aload_n 0, 123, 0, 0, 0), (123, .getfield 24, 126, 7, 7, 636), (126, .iconst 4, 127, 0, 0, 0), (127, .iload_n 1, 128, 0, 0, 0), (128, .imul, 129, 0, 0, 0), (129, .iload_n 2, 130, 0, 0, 0), (130, .iadd, 131, 0, 0, 0), (131, .iload_n 3, 132, 0, 0, 0), (132, .iastore, 133, 0, 0, 0), (133, .iload 4, 135, 0, 0, 0), (135, .ireturn, 136, 0, 0, 0)]
def tM_change : am_T := (⟨"TwoGamesModel", "change", "(III)I"⟩, prog_9_method_19_code, 6, (some .int), 17, tM_change_c0 ++ (tM_change_c1))
def tM_mean : am_T := (⟨"TwoGamesModel", "mean", "(I)I"⟩, prog_9_method_20_code, 4, (some .int), 17, [(0, .aload_n 0, 1, 0, 0, 0), (1, .iload_n 1, 2, 0, 0, 0), (2, .invokevirtual 92, 5, 110, 1, 751), (5, .ifCond .ne 5, 8, 10, 0, 0), (8, .iconst (-1), 9, 0, 0, 0), (9, .ireturn, 10, 0, 0, 0), (10, .iconst 0, 11, 0, 0, 0), (11, .istore_n 2, 12, 0, 0, 0), (12, .iconst 0, 13, 0, 0, 0), (13, .istore_n 3, 14, 0, 0, 0), (14, .iload_n 3, 15, 0, 0, 0), (15, .aload_n 0, 16, 0, 0, 0), (16, .iload_n 1, 17, 0, 0, 0), (17, .invokevirtual 88, 20, 112, 1, 759), (20, .if_icmp .ge 22, 23, 42, 0, 0), (23, .iload_n 2, 24, 0, 0, 0), (24, .aload_n 0, 25, 0, 0, 0), (25, .getfield 24, 28, 7, 7, 636), (28, .iconst 4, 29, 0, 0, 0), (29, .iload_n 1, 30, 0, 0, 0), (30, .imul, 31, 0, 0, 0), (31, .iload_n 3, 32, 0, 0, 0), (32, .iadd, 33, 0, 0, 0), (33, .iaload, 34, 0, 0, 0), (34, .iadd, 35, 0, 0, 0), (35, .istore_n 2, 36, 0, 0, 0), (36, .iinc 3 1, 39, 0, 0, 0), (39, .goto (-25), 42, 14, 0, 0), (42, .aload_n 0, 43, 0, 0, 0), (43, .iload_n 1, 44, 0, 0, 0), (44, .invokevirtual 88, 47, 112, 1, 759), (47, .ifCond .ne 11, 50, 58, 0, 0), (50, .aload_n 0, 51, 0, 0, 0), (51, .iconst 4, 52, 0, 0, 0), (52, .invokevirtual 99, 55, 114, 1, 767), (55, .goto 10, 58, 65, 0, 0), (58, .iload_n 2, 59, 0, 0, 0), (59, .aload_n 0, 60, 0, 0, 0), (60, .iload_n 1, 61, 0, 0, 0), (61, .invokevirtual 88, 64, 112, 1, 759), (64, .idiv, 65, 0, 0, 0), (65, .ireturn, 66, 0, 0, 0)])
def tM_row : am_T := (⟨"TwoGamesModel", "row", "(II)I"⟩, prog_9_method_23_code, 4, (some .int), 17, [(0, .iload_n 1, 1, 0, 0, 0), (1, .invokestatic 102, 4, 119, 1, 787), (4, .ifCond .eq 8, 7, 12, 0, 0), (7, .iload_n 2, 8, 0, 0, 0), (8, .iconst 4, 9, 0, 0, 0), (9, .if_icmp .le 5, 12, 14, 0, 0), (12, .iconst (-1), 13, 0, 0, 0), (13, .ireturn, 14, 0, 0, 0), (14, .iload_n 2, 15, 0, 0, 0), (15, .ifCond .ge 9, 18, 24, 0, 0), (18, .aload_n 0, 19, 0, 0, 0), (19, .iconst 5, 20, 0, 0, 0), (20, .invokevirtual 99, 23, 114, 1, 767), (23, .ireturn, 24, 0, 0, 0), (24, .aload_n 0, 25, 0, 0, 0), (25, .getfield 27, 28, 7, 8, 637), (28, .iload_n 1, 29, 0, 0, 0), (29, .iload_n 2, 30, 0, 0, 0), (30, .iastore, 31, 0, 0, 0), (31, .iconst 0, 32, 0, 0, 0), (32, .istore_n 3, 33, 0, 0, 0), (33, .iload_n 3, 34, 0, 0, 0), (34, .iconst 4, 35, 0, 0, 0), (35, .if_icmp .ge 20, 38, 55, 0, 0), (38, .aload_n 0, 39, 0, 0, 0), (39, .getfield 30, 42, 7, 9, 638), (42, .iconst 4, 43, 0, 0, 0), (43, .iload_n 1, 44, 0, 0, 0), (44, .imul, 45, 0, 0, 0), (45, .iload_n 3, 46, 0, 0, 0), (46, .iadd, 47, 0, 0, 0), (47, .iconst 0, 48, 0, 0, 0), (48, .iastore, 49, 0, 0, 0), (49, .iinc 3 1, 52, 0, 0, 0), (52, .goto (-19), 55, 33, 0, 0), (55, .iload_n 2, 56, 0, 0, 0), (56, .ireturn, 57, 0, 0, 0)])
def tM_isRow : am_T := (⟨"TwoGamesModel", "isRow", "(I)Z"⟩, prog_9_method_21_code, 1, (some .boolean), 17, [(0, .iload_n 0, 1, 0, 0, 0), (1, .iconst 0, 2, 0, 0, 0), (2, .iconst 3, 3, 0, 0, 0), (3, .invokestatic 73, 6, 102, 3, 721), (6, .ireturn, 7, 0, 0, 0)])
def tM_lay : am_T := (⟨"TwoGamesModel", "lay", "(III)I"⟩, prog_9_method_24_code, 6, (some .int), 17, [(0, .aload_n 0, 1, 0, 0, 0), (1, .iload_n 1, 2, 0, 0, 0), (2, .invokevirtual 105, 5, 121, 1, 794), (5, .istore 4, 7, 0, 0, 0), (7, .iload 4, 9, 0, 0, 0), (9, .ifCond .ge 6, 12, 15, 0, 0), (12, .iload 4, 14, 0, 0, 0), (14, .ireturn, 15, 0, 0, 0), (15, .iload_n 2, 16, 0, 0, 0), (16, .iconst 0, 17, 0, 0, 0), (17, .aload_n 0, 18, 0, 0, 0), (18, .getfield 27, 21, 7, 8, 637), (21, .iload_n 1, 22, 0, 0, 0), (22, .iaload, 23, 0, 0, 0), (23, .iconst 1, 24, 0, 0, 0), (24, .isub, 25, 0, 0, 0), (25, .invokestatic 73, 28, 102, 3, 721), (28, .ifCond .ne 9, 31, 37, 0, 0), (31, .aload_n 0, 32, 0, 0, 0), (32, .iconst 2, 33, 0, 0, 0), (33, .invokevirtual 99, 36, 114, 1, 767), (36, .ireturn, 37, 0, 0, 0), (37, .aload_n 0, 38, 0, 0, 0), (38, .getfield 30, 41, 7, 9, 638), (41, .iconst 4, 42, 0, 0, 0), (42, .iload_n 1, 43, 0, 0, 0), (43, .imul, 44, 0, 0, 0), (44, .iload_n 2, 45, 0, 0, 0), (45, .iadd, 46, 0, 0, 0), (46, .iaload, 47, 0, 0, 0), (47, .istore 5, 49, 0, 0, 0), (49, .aload_n 0, 50, 0, 0, 0), (50, .getfield 30, 53, 7, 9, 638), (53, .iconst 4, 54, 0, 0, 0), (54, .iload_n 1, 55, 0, 0, 0), (55, .imul, 56, 0, 0, 0), (56, .iload_n 2, 57, 0, 0, 0), (57, .iadd, 58, 0, 0, 0), (58, .iload_n 3, 59, 0, 0, 0), (59, .iastore, 60, 0, 0, 0), (60, .iload 5, 62, 0, 0, 0), (62, .sipush 1000, 65, 0, 0, 0), (65, .iadd, 66, 0, 0, 0), (66, .ireturn, 67, 0, 0, 0)])
def tM_looked : am_T := (⟨"TwoGamesModel", "looked", "(I)I"⟩, prog_9_method_22_code, 2, (some .int), 17, [(0, .iload_n 1, 1, 0, 0, 0), (1, .invokestatic 102, 4, 119, 1, 787), (4, .ifCond .ne 7, 7, 11, 0, 0), (7, .iconst (-1), 8, 0, 0, 0), (8, .goto 21, 11, 29, 0, 0), (11, .aload_n 0, 12, 0, 0, 0), (12, .getfield 27, 15, 7, 8, 637), (15, .iload_n 1, 16, 0, 0, 0), (16, .iaload, 17, 0, 0, 0), (17, .ifCond .ge 11, 20, 28, 0, 0), (20, .aload_n 0, 21, 0, 0, 0), (21, .iconst 1, 22, 0, 0, 0), (22, .invokevirtual 99, 25, 114, 1, 767), (25, .goto 4, 28, 29, 0, 0), (28, .iconst 0, 29, 0, 0, 0), (29, .ireturn, 30, 0, 0, 0)])
def tM_tear : am_T := (⟨"TwoGamesModel", "tear", "(I)I"⟩, prog_9_method_25_code, 3, (some .int), 17, [(0, .aload_n 0, 1, 0, 0, 0), (1, .iload_n 1, 2, 0, 0, 0), (2, .invokevirtual 105, 5, 121, 1, 794), (5, .istore_n 2, 6, 0, 0, 0), (6, .iload_n 2, 7, 0, 0, 0), (7, .ifCond .ge 5, 10, 12, 0, 0), (10, .iload_n 2, 11, 0, 0, 0), (11, .ireturn, 12, 0, 0, 0), (12, .aload_n 0, 13, 0, 0, 0), (13, .getfield 27, 16, 7, 8, 637), (16, .iload_n 1, 17, 0, 0, 0), (17, .bipush (-9), 19, 0, 0, 0), (19, .iastore, 20, 0, 0, 0), (20, .iconst 1, 21, 0, 0, 0), (21, .ireturn, 22, 0, 0, 0)])
def tM_copy_c0 : List am_E := [(0, .iload_n 1, 1, 0, 0, 0), (1, .invokestatic 102, 4, 119, 1, 787), (4, .ifCond .eq 10, 7, 14, 0, 0), (7, .iload_n 3, 8, 0, 0, 0), (8, .invokestatic 102, 11, 119, 1, 787), (11, .ifCond .ne 5, 14, 16, 0, 0), (14, .iconst (-1), 15, 0, 0, 0), (15, .ireturn, 16, 0, 0, 0), (16, .iload 5, 18, 0, 0, 0), (18, .ifCond .ge 9, 21, 27, 0, 0), (21, .aload_n 0, 22, 0, 0, 0), (22, .iconst 5, 23, 0, 0, 0), (23, .invokevirtual 99, 26, 114, 1, 767), (26, .ireturn, 27, 0, 0, 0), (27, .aload_n 0, 28, 0, 0, 0), (28, .getfield 27, 31, 7, 8, 637), (31, .iload_n 1, 32, 0, 0, 0), (32, .iaload, 33, 0, 0, 0), (33, .ifCond .lt 12, 36, 45, 0, 0), (36, .aload_n 0, 37, 0, 0, 0), (37, .getfield 27, 40, 7, 8, 637), (40, .iload_n 3, 41, 0, 0, 0), (41, .iaload, 42, 0, 0, 0), (42, .ifCond .ge 9, 45, 51, 0, 0), (45, .aload_n 0, 46, 0, 0, 0), (46, .iconst 1, 47, 0, 0, 0), (47, .invokevirtual 99, 50, 114, 1, 767), (50, .ireturn, 51, 0, 0, 0), (51, .iload_n 2, 52, 0, 0, 0), (52, .ifCond .lt 43, 55, 95, 0, 0), (55, .iload 4, 57, 0, 0, 0), (57, .ifCond .lt 38, 60, 95, 0, 0), (60, .iload_n 2, 61, 0, 0, 0), (61, .i2l, 62, 0, 0, 0), (62, .iload 5, 64, 0, 0, 0), (64, .i2l, 65, 0, 0, 0), (65, .ladd, 66, 0, 0, 0), (66, .aload_n 0, 67, 0, 0, 0), (67, .getfield 27, 70, 7, 8, 637), (70, .iload_n 1, 71, 0, 0, 0), (71, .iaload, 72, 0, 0, 0), (72, .i2l, 73, 0, 0, 0), (73, .lcmp, 74, 0, 0, 0), (74, .ifCond .gt 21, 77, 95, 0, 0), (77, .iload 4, 79, 0, 0, 0), (79, .i2l, 80, 0, 0, 0), (80, .iload 5, 82, 0, 0, 0), (82, .i2l, 83, 0, 0, 0), (83, .ladd, 84, 0, 0, 0), (84, .aload_n 0, 85, 0, 0, 0), (85, .getfield 27, 88, 7, 8, 637), (88, .iload_n 3, 89, 0, 0, 0), (89, .iaload, 90, 0, 0, 0), (90, .i2l, 91, 0, 0, 0), (91, .lcmp, 92, 0, 0, 0), (92, .ifCond .le 9, 95, 101, 0, 0), (95, .aload_n 0, 96, 0, 0, 0), (96, .iconst 2, 97, 0, 0, 0), (97, .invokevirtual 99, 100, 114, 1, 767), (100, .ireturn, 101, 0, 0, 0)]
def tM_copy_c1 : List am_E := [(101, .iconst 0, 102, 0, 0, 0), (102, .istore 6, 104, 0, 0, 0), (104, .iload 6, 106, 0, 0, 0), (106, .iload 5, 108, 0, 0, 0), (108, .if_icmp .ge 29, 111, 137, 0, 0), (111, .aload_n 0, 112, 0, 0, 0), (112, .getfield 33, 115, 7, 10, 639), (115, .iload 6, 117, 0, 0, 0), (117, .aload_n 0, 118, 0, 0, 0), (118, .getfield 30, 121, 7, 9, 638), (121, .iconst 4, 122, 0, 0, 0), (122, .iload_n 1, 123, 0, 0, 0), (123, .imul, 124, 0, 0, 0), (124, .iload_n 2, 125, 0, 0, 0), (125, .iadd, 126, 0, 0, 0), (126, .iload 6, 128, 0, 0, 0), (128, .iadd, 129, 0, 0, 0), (129, .iaload, 130, 0, 0, 0), (130, .iastore, 131, 0, 0, 0), (131, .iinc 6 1, 134, 0, 0, 0), (134, .goto (-30), 137, 104, 0, 0), (137, .iconst 0, 138, 0, 0, 0), (138, .istore 6, 140, 0, 0, 0), (140, .iload 6, 142, 0, 0, 0), (142, .iload 5, 144, 0, 0, 0), (144, .if_icmp .ge 30, 147, 174, 0, 0), (147, .aload_n 0, 148, 0, 0, 0), (148, .getfield 30, 151, 7, 9, 638), (151, .iconst 4, 152, 0, 0, 0), (152, .iload_n 3, 153, 0, 0, 0), (153, .imul, 154, 0, 0, 0), (154, .iload 4, 156, 0, 0, 0), (156, .iadd, 157, 0, 0, 0), (157, .iload 6, 159, 0, 0, 0), (159, .iadd, 160, 0, 0, 0), (160, .aload_n 0, 161, 0, 0, 0), (161, .getfield 33, 164, 7, 10, 639), (164, .iload 6, 166, 0, 0, 0), (166, .iaload, 167, 0, 0, 0), (167, .iastore, 168, 0, 0, 0), (168, .iinc 6 1, 171, 0, 0, 0), (171, .goto (-31), 174, 140, 0, 0), (174, .iconst 1, 175, 0, 0, 0), (175, .ireturn, 176, 0, 0, 0)]
def tM_copy : am_T := (⟨"TwoGamesModel", "copy", "(IIIII)I"⟩, prog_9_method_26_code, 7, (some .int), 17, tM_copy_c0 ++ (tM_copy_c1))
def tM_leads : am_T := (⟨"TwoGamesModel", "leads", "(III)I"⟩, prog_9_method_35_code, 5, (some .int), 17, [(0, .iload_n 2, 1, 0, 0, 0), (1, .iconst 0, 2, 0, 0, 0), (2, .aload_n 0, 3, 0, 0, 0), (3, .getfield 17, 6, 7, 4, 633), (6, .iconst 1, 7, 0, 0, 0), (7, .isub, 8, 0, 0, 0), (8, .invokestatic 73, 11, 102, 3, 721), (11, .ifCond .eq 17, 14, 28, 0, 0), (14, .iload_n 3, 15, 0, 0, 0), (15, .iconst 0, 16, 0, 0, 0), (16, .aload_n 0, 17, 0, 0, 0), (17, .getfield 17, 20, 7, 4, 633), (20, .iconst 1, 21, 0, 0, 0), (21, .isub, 22, 0, 0, 0), (22, .invokestatic 73, 25, 102, 3, 721), (25, .ifCond .ne 5, 28, 30, 0, 0), (28, .iconst (-1), 29, 0, 0, 0), (29, .ireturn, 30, 0, 0, 0), (30, .aload_n 0, 31, 0, 0, 0), (31, .iload_n 1, 32, 0, 0, 0), (32, .invokevirtual 152, 35, 125, 1, 810), (35, .istore 4, 37, 0, 0, 0), (37, .iload 4, 39, 0, 0, 0), (39, .ifCond .ge 6, 42, 45, 0, 0), (42, .iload 4, 44, 0, 0, 0), (44, .ireturn, 45, 0, 0, 0), (45, .aload_n 0, 46, 0, 0, 0), (46, .invokevirtual 123, 49, 128, 0, 823), (49, .aload_n 0, 50, 0, 0, 0), (50, .aload_n 0, 51, 0, 0, 0), (51, .iload_n 2, 52, 0, 0, 0), (52, .iload_n 3, 53, 0, 0, 0), (53, .invokevirtual 126, 56, 130, 2, 832), (56, .aload_n 0, 57, 0, 0, 0), (57, .getfield 108, 60, 7, 14, 643), (60, .iconst 1, 61, 0, 0, 0), (61, .invokevirtual 155, 64, 131, 3, 836), (64, .ireturn, 65, 0, 0, 0)])
def tM_askedFor : am_T := (⟨"TwoGamesModel", "askedFor", "(I)I"⟩, prog_9_method_34_code, 4, (some .int), 17, [(0, .aload_n 0, 1, 0, 0, 0), (1, .iload_n 1, 2, 0, 0, 0), (2, .invokevirtual 105, 5, 121, 1, 794), (5, .istore_n 2, 6, 0, 0, 0), (6, .iload_n 2, 7, 0, 0, 0), (7, .ifCond .ge 5, 10, 12, 0, 0), (10, .iload_n 2, 11, 0, 0, 0), (11, .ireturn, 12, 0, 0, 0), (12, .aload_n 0, 13, 0, 0, 0), (13, .iload_n 1, 14, 0, 0, 0), (14, .invokevirtual 143, 17, 126, 1, 814), (17, .ifCond .ne 9, 20, 26, 0, 0), (20, .aload_n 0, 21, 0, 0, 0), (21, .iconst 3, 22, 0, 0, 0), (22, .invokevirtual 99, 25, 114, 1, 767), (25, .ireturn, 26, 0, 0, 0), (26, .aload_n 0, 27, 0, 0, 0), (27, .aload_n 0, 28, 0, 0, 0), (28, .getfield 27, 31, 7, 8, 637), (31, .iload_n 1, 32, 0, 0, 0), (32, .iaload, 33, 0, 0, 0), (33, .putfield 111, 36, 7, 11, 640), (36, .aload_n 0, 37, 0, 0, 0), (37, .ldc2_w 146, 40, 12, 0, 818), (40, .putfield 114, 43, 7, 12, 641), (43, .iconst 0, 44, 0, 0, 0), (44, .istore_n 3, 45, 0, 0, 0), (45, .iload_n 3, 46, 0, 0, 0), (46, .aload_n 0, 47, 0, 0, 0), (47, .getfield 111, 50, 7, 11, 640), (50, .if_icmp .ge 24, 53, 74, 0, 0), (53, .aload_n 0, 54, 0, 0, 0), (54, .iload_n 3, 55, 0, 0, 0), (55, .aload_n 0, 56, 0, 0, 0), (56, .getfield 30, 59, 7, 9, 638), (59, .iconst 4, 60, 0, 0, 0), (60, .iload_n 1, 61, 0, 0, 0), (61, .imul, 62, 0, 0, 0), (62, .iload_n 3, 63, 0, 0, 0), (63, .iadd, 64, 0, 0, 0), (64, .iaload, 65, 0, 0, 0), (65, .invokevirtual 148, 68, 127, 2, 819), (68, .iinc 3 1, 71, 0, 0, 0), (71, .goto (-26), 74, 45, 0, 0), (74, .iconst 0, 75, 0, 0, 0), (75, .ireturn, 76, 0, 0, 0)])
def tM_isFit : am_T := (⟨"TwoGamesModel", "isFit", "(I)Z"⟩, prog_9_method_33_code, 5, (some .boolean), 17, [(0, .aload_n 0, 1, 0, 0, 0), (1, .getfield 27, 4, 7, 8, 637), (4, .iload_n 1, 5, 0, 0, 0), (5, .iaload, 6, 0, 0, 0), (6, .ifCond .le 7, 9, 13, 0, 0), (9, .iconst 1, 10, 0, 0, 0), (10, .goto 4, 13, 14, 0, 0), (13, .iconst 0, 14, 0, 0, 0), (14, .istore_n 2, 15, 0, 0, 0), (15, .iconst 0, 16, 0, 0, 0), (16, .istore_n 3, 17, 0, 0, 0), (17, .iload_n 3, 18, 0, 0, 0), (18, .aload_n 0, 19, 0, 0, 0), (19, .getfield 27, 22, 7, 8, 637), (22, .iload_n 1, 23, 0, 0, 0), (23, .iaload, 24, 0, 0, 0), (24, .if_icmp .ge 51, 27, 75, 0, 0), (27, .aload_n 0, 28, 0, 0, 0), (28, .getfield 30, 31, 7, 9, 638), (31, .iconst 4, 32, 0, 0, 0), (32, .iload_n 1, 33, 0, 0, 0), (33, .imul, 34, 0, 0, 0), (34, .iload_n 3, 35, 0, 0, 0), (35, .iadd, 36, 0, 0, 0), (36, .iaload, 37, 0, 0, 0), (37, .istore 4, 39, 0, 0, 0), (39, .iload_n 2, 40, 0, 0, 0), (40, .ifCond .eq 27, 43, 67, 0, 0), (43, .aload_n 0, 44, 0, 0, 0), (44, .iload 4, 46, 0, 0, 0), (46, .invokevirtual 92, 49, 110, 1, 751), (49, .ifCond .eq 18, 52, 67, 0, 0), (52, .aload_n 0, 53, 0, 0, 0), (53, .getfield 21, 56, 7, 6, 635), (56, .iload 4, 58, 0, 0, 0), (58, .iaload, 59, 0, 0, 0), (59, .iconst 2, 60, 0, 0, 0), (60, .if_icmp .eq 7, 63, 67, 0, 0), (63, .iconst 1, 64, 0, 0, 0), (64, .goto 4, 67, 68, 0, 0), (67, .iconst 0, 68, 0, 0, 0), (68, .istore_n 2, 69, 0, 0, 0), (69, .iinc 3 1, 72, 0, 0, 0), (72, .goto (-55), 75, 17, 0, 0), (75, .iload_n 2, 76, 0, 0, 0), (76, .ireturn, 77, 0, 0, 0)])
def tM_setTurn : am_T := (⟨"TwoGamesModel", "setTurn", "(II)V"⟩, prog_9_method_32_code, 4, none, 17, [(0, .iconst 0, 1, 0, 0, 0), (1, .istore_n 3, 2, 0, 0, 0), (2, .iload_n 3, 3, 0, 0, 0), (3, .iconst 3, 4, 0, 0, 0), (4, .if_icmp .ge 30, 7, 34, 0, 0), (7, .aload_n 0, 8, 0, 0, 0), (8, .getfield 36, 11, 7, 13, 642), (11, .iconst 3, 12, 0, 0, 0), (12, .iload_n 1, 13, 0, 0, 0), (13, .imul, 14, 0, 0, 0), (14, .iload_n 3, 15, 0, 0, 0), (15, .iadd, 16, 0, 0, 0), (16, .aload_n 0, 17, 0, 0, 0), (17, .getfield 24, 20, 7, 7, 636), (20, .iconst 4, 21, 0, 0, 0), (21, .iload_n 2, 22, 0, 0, 0), (22, .imul, 23, 0, 0, 0), (23, .iload_n 3, 24, 0, 0, 0), (24, .iadd, 25, 0, 0, 0), (25, .iaload, 26, 0, 0, 0), (26, .i2l, 27, 0, 0, 0), (27, .lastore, 28, 0, 0, 0), (28, .iinc 3 1, 31, 0, 0, 0), (31, .goto (-29), 34, 2, 0, 0), (34, .return_, 35, 0, 0, 0)])
def tM_setRound_c0 : List am_E := [(0, .aload_n 0, 1, 0, 0, 0), (1, .lconst 1, 2, 0, 0, 0), (2, .putfield 108, 5, 7, 14, 643), (5, .iconst 0, 6, 0, 0, 0), (6, .istore_n 1, 7, 0, 0, 0), (7, .iload_n 1, 8, 0, 0, 0), (8, .aload_n 0, 9, 0, 0, 0), (9, .getfield 111, 12, 7, 11, 640), (12, .if_icmp .ge 22, 15, 34, 0, 0), (15, .aload_n 0, 16, 0, 0, 0), (16, .dup, 17, 0, 0, 0), (17, .getfield 108, 20, 7, 14, 643), (20, .aload_n 0, 21, 0, 0, 0), (21, .getfield 114, 24, 7, 12, 641), (24, .lmul, 25, 0, 0, 0), (25, .putfield 108, 28, 7, 14, 643), (28, .iinc 1 1, 31, 0, 0, 0), (31, .goto (-24), 34, 7, 0, 0), (34, .iconst 0, 35, 0, 0, 0), (35, .istore_n 1, 36, 0, 0, 0), (36, .iload_n 1, 37, 0, 0, 0), (37, .aload_n 0, 38, 0, 0, 0), (38, .getfield 17, 41, 7, 4, 633), (41, .if_icmp .ge 122, 44, 163, 0, 0), (44, .iconst 0, 45, 0, 0, 0), (45, .istore_n 2, 46, 0, 0, 0), (46, .iload_n 2, 47, 0, 0, 0), (47, .aload_n 0, 48, 0, 0, 0), (48, .getfield 17, 51, 7, 4, 633), (51, .if_icmp .ge 25, 54, 76, 0, 0), (54, .aload_n 0, 55, 0, 0, 0), (55, .getfield 46, 58, 7, 17, 646), (58, .iload_n 2, 59, 0, 0, 0), (59, .iload_n 2, 60, 0, 0, 0), (60, .iload_n 1, 61, 0, 0, 0), (61, .if_icmp .ne 7, 64, 68, 0, 0), (64, .lconst 1, 65, 0, 0, 0), (65, .goto 4, 68, 69, 0, 0), (68, .lconst 0, 69, 0, 0, 0), (69, .lastore, 70, 0, 0, 0), (70, .iinc 2 1, 73, 0, 0, 0), (73, .goto (-27), 76, 46, 0, 0), (76, .aload_n 0, 77, 0, 0, 0), (77, .getfield 108, 80, 7, 14, 643), (80, .lstore_n 2, 81, 0, 0, 0), (81, .aload_n 0, 82, 0, 0, 0), (82, .getfield 43, 85, 7, 16, 645), (85, .iload_n 1, 86, 0, 0, 0), (86, .lconst 0, 87, 0, 0, 0), (87, .lastore, 88, 0, 0, 0), (88, .iconst 0, 89, 0, 0, 0), (89, .istore 4, 91, 0, 0, 0), (91, .iload 4, 93, 0, 0, 0), (93, .aload_n 0, 94, 0, 0, 0), (94, .getfield 111, 97, 7, 11, 640), (97, .if_icmp .ge 24, 100, 121, 0, 0), (100, .lload_n 2, 101, 0, 0, 0), (101, .aload_n 0, 102, 0, 0, 0), (102, .getfield 114, 105, 7, 12, 641), (105, .ldiv, 106, 0, 0, 0)]
def tM_setRound_c1 : List am_E := [(106, .lstore_n 2, 107, 0, 0, 0), (107, .aload_n 0, 108, 0, 0, 0), (108, .iload 4, 110, 0, 0, 0), (110, .iload_n 1, 111, 0, 0, 0), (111, .lload_n 2, 112, 0, 0, 0), (112, .invokevirtual 117, 115, 129, 3, 827), (115, .iinc 4 1, 118, 0, 0, 0), (118, .goto (-27), 121, 91, 0, 0), (121, .iconst 0, 122, 0, 0, 0), (122, .istore 4, 124, 0, 0, 0), (124, .iload 4, 126, 0, 0, 0), (126, .aload_n 0, 127, 0, 0, 0), (127, .getfield 17, 130, 7, 4, 633), (130, .if_icmp .ge 27, 133, 157, 0, 0), (133, .aload_n 0, 134, 0, 0, 0), (134, .getfield 40, 137, 7, 15, 644), (137, .iconst 3, 138, 0, 0, 0), (138, .iload_n 1, 139, 0, 0, 0), (139, .imul, 140, 0, 0, 0), (140, .iload 4, 142, 0, 0, 0), (142, .iadd, 143, 0, 0, 0), (143, .aload_n 0, 144, 0, 0, 0), (144, .getfield 46, 147, 7, 17, 646), (147, .iload 4, 149, 0, 0, 0), (149, .laload, 150, 0, 0, 0), (150, .lastore, 151, 0, 0, 0), (151, .iinc 4 1, 154, 0, 0, 0), (154, .goto (-30), 157, 124, 0, 0), (157, .iinc 1 1, 160, 0, 0, 0), (160, .goto (-124), 163, 36, 0, 0), (163, .return_, 164, 0, 0, 0)]
def tM_setRound : am_T := (⟨"TwoGamesModel", "setRound", "()V"⟩, prog_9_method_27_code, 5, none, 17, tM_setRound_c0 ++ (tM_setRound_c1))
def tM_turn_c0 : List am_E := [(0, .iconst 0, 1, 0, 0, 0), (1, .istore 5, 3, 0, 0, 0), (3, .iload 5, 5, 0, 0, 0), (5, .aload_n 0, 6, 0, 0, 0), (6, .getfield 17, 9, 7, 4, 633), (9, .if_icmp .ge 17, 12, 26, 0, 0), (12, .aload_n 0, 13, 0, 0, 0), (13, .getfield 49, 16, 7, 18, 647), (16, .iload 5, 18, 0, 0, 0), (18, .lconst 0, 19, 0, 0, 0), (19, .lastore, 20, 0, 0, 0), (20, .iinc 5 1, 23, 0, 0, 0), (23, .goto (-20), 26, 3, 0, 0), (26, .iconst 0, 27, 0, 0, 0), (27, .istore 5, 29, 0, 0, 0), (29, .iload 5, 31, 0, 0, 0), (31, .aload_n 0, 32, 0, 0, 0), (32, .getfield 17, 35, 7, 4, 633), (35, .if_icmp .ge 116, 38, 151, 0, 0), (38, .aload_n 0, 39, 0, 0, 0), (39, .getfield 36, 42, 7, 13, 642), (42, .iconst 3, 43, 0, 0, 0), (43, .iload_n 1, 44, 0, 0, 0), (44, .imul, 45, 0, 0, 0), (45, .iload 5, 47, 0, 0, 0), (47, .iadd, 48, 0, 0, 0), (48, .laload, 49, 0, 0, 0), (49, .lstore 6, 51, 0, 0, 0), (51, .aload_n 0, 52, 0, 0, 0), (52, .getfield 43, 55, 7, 16, 645), (55, .iload_n 2, 56, 0, 0, 0), (56, .dup2, 57, 0, 0, 0), (57, .laload, 58, 0, 0, 0), (58, .aload_n 0, 59, 0, 0, 0), (59, .getfield 46, 62, 7, 17, 646), (62, .iload 5, 64, 0, 0, 0), (64, .laload, 65, 0, 0, 0), (65, .ldc2_w 121, 68, 2, 0, 831), (68, .lload 6, 70, 0, 0, 0), (70, .lmul, 71, 0, 0, 0), (71, .aload_n 0, 72, 0, 0, 0), (72, .getfield 114, 75, 7, 12, 641), (75, .lsub, 76, 0, 0, 0), (76, .lmul, 77, 0, 0, 0), (77, .lload_n 3, 78, 0, 0, 0), (78, .lmul, 79, 0, 0, 0), (79, .ladd, 80, 0, 0, 0), (80, .lastore, 81, 0, 0, 0), (81, .aload_n 0, 82, 0, 0, 0), (82, .getfield 49, 85, 7, 18, 647), (85, .iload 5, 87, 0, 0, 0), (87, .iconst 1, 88, 0, 0, 0), (88, .iadd, 89, 0, 0, 0), (89, .aload_n 0, 90, 0, 0, 0), (90, .getfield 17, 93, 7, 4, 633), (93, .irem, 94, 0, 0, 0), (94, .dup2, 95, 0, 0, 0), (95, .laload, 96, 0, 0, 0), (96, .aload_n 0, 97, 0, 0, 0), (97, .getfield 46, 100, 7, 17, 646)]
def tM_turn_c1 : List am_E := [(100, .iload 5, 102, 0, 0, 0), (102, .laload, 103, 0, 0, 0), (103, .lload 6, 105, 0, 0, 0), (105, .lmul, 106, 0, 0, 0), (106, .ladd, 107, 0, 0, 0), (107, .lastore, 108, 0, 0, 0), (108, .aload_n 0, 109, 0, 0, 0), (109, .getfield 49, 112, 7, 18, 647), (112, .iload 5, 114, 0, 0, 0), (114, .aload_n 0, 115, 0, 0, 0), (115, .getfield 17, 118, 7, 4, 633), (118, .iadd, 119, 0, 0, 0), (119, .iconst 1, 120, 0, 0, 0), (120, .isub, 121, 0, 0, 0), (121, .aload_n 0, 122, 0, 0, 0), (122, .getfield 17, 125, 7, 4, 633), (125, .irem, 126, 0, 0, 0), (126, .dup2, 127, 0, 0, 0), (127, .laload, 128, 0, 0, 0), (128, .aload_n 0, 129, 0, 0, 0), (129, .getfield 46, 132, 7, 17, 646), (132, .iload 5, 134, 0, 0, 0), (134, .laload, 135, 0, 0, 0), (135, .aload_n 0, 136, 0, 0, 0), (136, .getfield 114, 139, 7, 12, 641), (139, .lload 6, 141, 0, 0, 0), (141, .lsub, 142, 0, 0, 0), (142, .lmul, 143, 0, 0, 0), (143, .ladd, 144, 0, 0, 0), (144, .lastore, 145, 0, 0, 0), (145, .iinc 5 1, 148, 0, 0, 0), (148, .goto (-119), 151, 29, 0, 0), (151, .iconst 0, 152, 0, 0, 0), (152, .istore 5, 154, 0, 0, 0), (154, .iload 5, 156, 0, 0, 0), (156, .aload_n 0, 157, 0, 0, 0), (157, .getfield 17, 160, 7, 4, 633), (160, .if_icmp .ge 23, 163, 183, 0, 0), (163, .aload_n 0, 164, 0, 0, 0), (164, .getfield 46, 167, 7, 17, 646), (167, .iload 5, 169, 0, 0, 0), (169, .aload_n 0, 170, 0, 0, 0), (170, .getfield 49, 173, 7, 18, 647), (173, .iload 5, 175, 0, 0, 0), (175, .laload, 176, 0, 0, 0), (176, .lastore, 177, 0, 0, 0), (177, .iinc 5 1, 180, 0, 0, 0), (180, .goto (-26), 183, 154, 0, 0), (183, .return_, 184, 0, 0, 0)]
def tM_turn : am_T := (⟨"TwoGamesModel", "turn", "(IIJ)V"⟩, prog_9_method_28_code, 8, none, 17, tM_turn_c0 ++ (tM_turn_c1))
def tM_q : am_T := (⟨"TwoGamesModel", "q", "(II)J"⟩, prog_9_method_29_code, 3, (some .long), 17, [(0, .aload_n 0, 1, 0, 0, 0), (1, .getfield 40, 4, 7, 15, 644), (4, .iconst 3, 5, 0, 0, 0), (5, .iload_n 1, 6, 0, 0, 0), (6, .imul, 7, 0, 0, 0), (7, .iload_n 2, 8, 0, 0, 0), (8, .iadd, 9, 0, 0, 0), (9, .laload, 10, 0, 0, 0), (10, .lreturn, 11, 0, 0, 0)])
def tM_tell : am_T := (⟨"TwoGamesModel", "tell", "(JJI)I"⟩, prog_9_method_5_code, 12, (some .int), 17, [(0, .lload_n 1, 1, 0, 0, 0), (1, .lconst 0, 2, 0, 0, 0), (2, .lcmp, 3, 0, 0, 0), (3, .ifCond .ge 8, 6, 11, 0, 0), (6, .lload_n 1, 7, 0, 0, 0), (7, .lneg, 8, 0, 0, 0), (8, .goto 4, 11, 12, 0, 0), (11, .lload_n 1, 12, 0, 0, 0), (12, .lstore 6, 14, 0, 0, 0), (14, .lload_n 3, 15, 0, 0, 0), (15, .lstore 8, 17, 0, 0, 0), (17, .lload 8, 19, 0, 0, 0), (19, .lconst 0, 20, 0, 0, 0), (20, .lcmp, 21, 0, 0, 0), (21, .ifCond .eq 21, 24, 42, 0, 0), (24, .lload 6, 26, 0, 0, 0), (26, .lload 8, 28, 0, 0, 0), (28, .lrem, 29, 0, 0, 0), (29, .lstore 10, 31, 0, 0, 0), (31, .lload 8, 33, 0, 0, 0), (33, .lstore 6, 35, 0, 0, 0), (35, .lload 10, 37, 0, 0, 0), (37, .lstore 8, 39, 0, 0, 0), (39, .goto (-22), 42, 17, 0, 0), (42, .aload_n 0, 43, 0, 0, 0), (43, .lload_n 1, 44, 0, 0, 0), (44, .lload 6, 46, 0, 0, 0), (46, .ldiv, 47, 0, 0, 0), (47, .putfield 70, 50, 7, 2, 631), (50, .aload_n 0, 51, 0, 0, 0), (51, .lload_n 3, 52, 0, 0, 0), (52, .lload 6, 54, 0, 0, 0), (54, .ldiv, 55, 0, 0, 0), (55, .putfield 13, 58, 7, 3, 632), (58, .iload 5, 60, 0, 0, 0), (60, .ireturn, 61, 0, 0, 0)])
def tM_share : am_T := (⟨"TwoGamesModel", "share", "(II)I"⟩, prog_9_method_36_code, 4, (some .int), 17, [(0, .iload_n 2, 1, 0, 0, 0), (1, .iconst 0, 2, 0, 0, 0), (2, .aload_n 0, 3, 0, 0, 0), (3, .getfield 17, 6, 7, 4, 633), (6, .iconst 1, 7, 0, 0, 0), (7, .isub, 8, 0, 0, 0), (8, .invokestatic 73, 11, 102, 3, 721), (11, .ifCond .ne 5, 14, 16, 0, 0), (14, .iconst (-1), 15, 0, 0, 0), (15, .ireturn, 16, 0, 0, 0), (16, .aload_n 0, 17, 0, 0, 0), (17, .iload_n 1, 18, 0, 0, 0), (18, .invokevirtual 152, 21, 125, 1, 810), (21, .istore_n 3, 22, 0, 0, 0), (22, .iload_n 3, 23, 0, 0, 0), (23, .ifCond .ge 5, 26, 28, 0, 0), (26, .iload_n 3, 27, 0, 0, 0), (27, .ireturn, 28, 0, 0, 0), (28, .aload_n 0, 29, 0, 0, 0), (29, .invokevirtual 133, 32, 133, 0, 844), (32, .ifCond .eq 21, 35, 53, 0, 0), (35, .aload_n 0, 36, 0, 0, 0), (36, .aload_n 0, 37, 0, 0, 0), (37, .getfield 52, 40, 7, 19, 648), (40, .iload_n 2, 41, 0, 0, 0), (41, .laload, 42, 0, 0, 0), (42, .aload_n 0, 43, 0, 0, 0), (43, .getfield 130, 46, 7, 20, 649), (46, .iconst 1, 47, 0, 0, 0), (47, .invokevirtual 155, 50, 131, 3, 836), (50, .goto 5, 53, 55, 0, 0), (53, .bipush (-4), 55, 0, 0, 0), (55, .ireturn, 56, 0, 0, 0)])
def tM_settles_c0 : List am_E := [(0, .aload_n 0, 1, 0, 0, 0), (1, .invokevirtual 123, 4, 128, 0, 823), (4, .aload_n 0, 5, 0, 0, 0), (5, .getfield 17, 8, 7, 4, 633), (8, .iconst 1, 9, 0, 0, 0), (9, .if_icmp .ne 13, 12, 22, 0, 0), (12, .aload_n 0, 13, 0, 0, 0), (13, .getfield 52, 16, 7, 19, 648), (16, .iconst 0, 17, 0, 0, 0), (17, .lconst 1, 18, 0, 0, 0), (18, .lastore, 19, 0, 0, 0), (19, .goto 110, 22, 129, 0, 0), (22, .aload_n 0, 23, 0, 0, 0), (23, .getfield 17, 26, 7, 4, 633), (26, .iconst 2, 27, 0, 0, 0), (27, .if_icmp .ne 30, 30, 57, 0, 0), (30, .aload_n 0, 31, 0, 0, 0), (31, .getfield 52, 34, 7, 19, 648), (34, .iconst 0, 35, 0, 0, 0), (35, .aload_n 0, 36, 0, 0, 0), (36, .iconst 1, 37, 0, 0, 0), (37, .iconst 0, 38, 0, 0, 0), (38, .invokevirtual 126, 41, 130, 2, 832), (41, .lastore, 42, 0, 0, 0), (42, .aload_n 0, 43, 0, 0, 0), (43, .getfield 52, 46, 7, 19, 648), (46, .iconst 1, 47, 0, 0, 0), (47, .aload_n 0, 48, 0, 0, 0), (48, .iconst 0, 49, 0, 0, 0), (49, .iconst 1, 50, 0, 0, 0), (50, .invokevirtual 126, 53, 130, 2, 832), (53, .lastore, 54, 0, 0, 0), (54, .goto 75, 57, 129, 0, 0), (57, .iconst 0, 58, 0, 0, 0), (58, .istore_n 1, 59, 0, 0, 0), (59, .iload_n 1, 60, 0, 0, 0), (60, .iconst 3, 61, 0, 0, 0), (61, .if_icmp .ge 68, 64, 129, 0, 0), (64, .iload_n 1, 65, 0, 0, 0), (65, .iconst 1, 66, 0, 0, 0), (66, .iadd, 67, 0, 0, 0), (67, .iconst 3, 68, 0, 0, 0), (68, .irem, 69, 0, 0, 0), (69, .istore_n 2, 70, 0, 0, 0), (70, .iload_n 1, 71, 0, 0, 0), (71, .iconst 2, 72, 0, 0, 0), (72, .iadd, 73, 0, 0, 0), (73, .iconst 3, 74, 0, 0, 0), (74, .irem, 75, 0, 0, 0), (75, .istore_n 3, 76, 0, 0, 0), (76, .aload_n 0, 77, 0, 0, 0), (77, .getfield 52, 80, 7, 19, 648), (80, .iload_n 1, 81, 0, 0, 0), (81, .aload_n 0, 82, 0, 0, 0), (82, .iload_n 2, 83, 0, 0, 0), (83, .iload_n 1, 84, 0, 0, 0), (84, .invokevirtual 126, 87, 130, 2, 832), (87, .aload_n 0, 88, 0, 0, 0), (88, .iload_n 3, 89, 0, 0, 0), (89, .iload_n 1, 90, 0, 0, 0)]
def tM_settles_c1 : List am_E := [(90, .invokevirtual 126, 93, 130, 2, 832), (93, .lmul, 94, 0, 0, 0), (94, .aload_n 0, 95, 0, 0, 0), (95, .iload_n 2, 96, 0, 0, 0), (96, .iload_n 3, 97, 0, 0, 0), (97, .invokevirtual 126, 100, 130, 2, 832), (100, .aload_n 0, 101, 0, 0, 0), (101, .iload_n 3, 102, 0, 0, 0), (102, .iload_n 1, 103, 0, 0, 0), (103, .invokevirtual 126, 106, 130, 2, 832), (106, .lmul, 107, 0, 0, 0), (107, .ladd, 108, 0, 0, 0), (108, .aload_n 0, 109, 0, 0, 0), (109, .iload_n 3, 110, 0, 0, 0), (110, .iload_n 2, 111, 0, 0, 0), (111, .invokevirtual 126, 114, 130, 2, 832), (114, .aload_n 0, 115, 0, 0, 0), (115, .iload_n 2, 116, 0, 0, 0), (116, .iload_n 1, 117, 0, 0, 0), (117, .invokevirtual 126, 120, 130, 2, 832), (120, .lmul, 121, 0, 0, 0), (121, .ladd, 122, 0, 0, 0), (122, .lastore, 123, 0, 0, 0), (123, .iinc 1 1, 126, 0, 0, 0), (126, .goto (-67), 129, 59, 0, 0), (129, .aload_n 0, 130, 0, 0, 0), (130, .lconst 0, 131, 0, 0, 0), (131, .putfield 130, 134, 7, 20, 649), (134, .iconst 0, 135, 0, 0, 0), (135, .istore_n 1, 136, 0, 0, 0), (136, .iload_n 1, 137, 0, 0, 0), (137, .aload_n 0, 138, 0, 0, 0), (138, .getfield 17, 141, 7, 4, 633), (141, .if_icmp .ge 24, 144, 165, 0, 0), (144, .aload_n 0, 145, 0, 0, 0), (145, .dup, 146, 0, 0, 0), (146, .getfield 130, 149, 7, 20, 649), (149, .aload_n 0, 150, 0, 0, 0), (150, .getfield 52, 153, 7, 19, 648), (153, .iload_n 1, 154, 0, 0, 0), (154, .laload, 155, 0, 0, 0), (155, .ladd, 156, 0, 0, 0), (156, .putfield 130, 159, 7, 20, 649), (159, .iinc 1 1, 162, 0, 0, 0), (162, .goto (-26), 165, 136, 0, 0), (165, .aload_n 0, 166, 0, 0, 0), (166, .getfield 130, 169, 7, 20, 649), (169, .lconst 0, 170, 0, 0, 0), (170, .lcmp, 171, 0, 0, 0), (171, .ifCond .le 7, 174, 178, 0, 0), (174, .iconst 1, 175, 0, 0, 0), (175, .goto 4, 178, 179, 0, 0), (178, .iconst 0, 179, 0, 0, 0), (179, .ireturn, 180, 0, 0, 0)]
def tM_settles : am_T := (⟨"TwoGamesModel", "settles", "()Z"⟩, prog_9_method_30_code, 4, (some .boolean), 17, tM_settles_c0 ++ (tM_settles_c1))
def tM_gain : am_T := (⟨"TwoGamesModel", "gain", "(I)I"⟩, prog_9_method_38_code, 3, (some .int), 17, [(0, .aload_n 0, 1, 0, 0, 0), (1, .iload_n 1, 2, 0, 0, 0), (2, .invokevirtual 152, 5, 125, 1, 810), (5, .istore_n 2, 6, 0, 0, 0), (6, .iload_n 2, 7, 0, 0, 0), (7, .ifCond .ge 7, 10, 14, 0, 0), (10, .iload_n 2, 11, 0, 0, 0), (11, .goto 7, 14, 18, 0, 0), (14, .aload_n 0, 15, 0, 0, 0), (15, .invokevirtual 162, 18, 135, 0, 852), (18, .ireturn, 19, 0, 0, 0)])
def tM_tellGain : am_T := (⟨"TwoGamesModel", "tellGain", "()I"⟩, prog_9_method_37_code, 1, (some .int), 17, [(0, .aload_n 0, 1, 0, 0, 0), (1, .invokevirtual 159, 4, 136, 0, 856), (4, .ifCond .eq 45, 7, 49, 0, 0), (7, .aload_n 0, 8, 0, 0, 0), (8, .aload_n 0, 9, 0, 0, 0), (9, .getfield 137, 12, 7, 21, 650), (12, .aload_n 0, 13, 0, 0, 0), (13, .getfield 140, 16, 7, 22, 651), (16, .aload_n 0, 17, 0, 0, 0), (17, .getfield 137, 20, 7, 21, 650), (20, .lconst 0, 21, 0, 0, 0), (21, .lcmp, 22, 0, 0, 0), (22, .ifCond .le 7, 25, 29, 0, 0), (25, .iconst 1, 26, 0, 0, 0), (26, .goto 17, 29, 43, 0, 0), (29, .aload_n 0, 30, 0, 0, 0), (30, .getfield 137, 33, 7, 21, 650), (33, .lconst 0, 34, 0, 0, 0), (34, .lcmp, 35, 0, 0, 0), (35, .ifCond .ge 7, 38, 42, 0, 0), (38, .iconst 2, 39, 0, 0, 0), (39, .goto 4, 42, 43, 0, 0), (42, .iconst 0, 43, 0, 0, 0), (43, .invokevirtual 155, 46, 131, 3, 836), (46, .goto 5, 49, 51, 0, 0), (49, .bipush (-4), 51, 0, 0, 0), (51, .ireturn, 52, 0, 0, 0)])
def tM_hasGain_c0 : List am_E := [(0, .aload_n 0, 1, 0, 0, 0), (1, .invokevirtual 133, 4, 133, 0, 844), (4, .ifCond .ne 5, 7, 9, 0, 0), (7, .iconst 0, 8, 0, 0, 0), (8, .ireturn, 9, 0, 0, 0), (9, .aload_n 0, 10, 0, 0, 0), (10, .lconst 0, 11, 0, 0, 0), (11, .putfield 137, 14, 7, 21, 650), (14, .iconst 0, 15, 0, 0, 0), (15, .istore_n 1, 16, 0, 0, 0), (16, .iload_n 1, 17, 0, 0, 0), (17, .aload_n 0, 18, 0, 0, 0), (18, .getfield 17, 21, 7, 4, 633), (21, .if_icmp .ge 31, 24, 52, 0, 0), (24, .aload_n 0, 25, 0, 0, 0), (25, .dup, 26, 0, 0, 0), (26, .getfield 137, 29, 7, 21, 650), (29, .aload_n 0, 30, 0, 0, 0), (30, .getfield 52, 33, 7, 19, 648), (33, .iload_n 1, 34, 0, 0, 0), (34, .laload, 35, 0, 0, 0), (35, .aload_n 0, 36, 0, 0, 0), (36, .getfield 43, 39, 7, 16, 645), (39, .iload_n 1, 40, 0, 0, 0), (40, .laload, 41, 0, 0, 0), (41, .lmul, 42, 0, 0, 0), (42, .ladd, 43, 0, 0, 0), (43, .putfield 137, 46, 7, 21, 650), (46, .iinc 1 1, 49, 0, 0, 0), (49, .goto (-33), 52, 16, 0, 0), (52, .aload_n 0, 53, 0, 0, 0), (53, .aload_n 0, 54, 0, 0, 0), (54, .getfield 130, 57, 7, 20, 649), (57, .aload_n 0, 58, 0, 0, 0), (58, .getfield 108, 61, 7, 14, 643), (61, .lmul, 62, 0, 0, 0), (62, .aload_n 0, 63, 0, 0, 0), (63, .getfield 111, 66, 7, 11, 640), (66, .i2l, 67, 0, 0, 0), (67, .lmul, 68, 0, 0, 0), (68, .putfield 140, 71, 7, 22, 651), (71, .aload_n 0, 72, 0, 0, 0), (72, .getfield 137, 75, 7, 21, 650), (75, .lconst 0, 76, 0, 0, 0), (76, .lcmp, 77, 0, 0, 0), (77, .ifCond .ge 11, 80, 88, 0, 0), (80, .aload_n 0, 81, 0, 0, 0), (81, .getfield 137, 84, 7, 21, 650), (84, .lneg, 85, 0, 0, 0), (85, .goto 7, 88, 92, 0, 0), (88, .aload_n 0, 89, 0, 0, 0), (89, .getfield 137, 92, 7, 21, 650), (92, .lstore_n 1, 93, 0, 0, 0), (93, .aload_n 0, 94, 0, 0, 0), (94, .getfield 140, 97, 7, 22, 651), (97, .lstore_n 3, 98, 0, 0, 0), (98, .lload_n 3, 99, 0, 0, 0), (99, .lconst 0, 100, 0, 0, 0), (100, .lcmp, 101, 0, 0, 0), (101, .ifCond .eq 16, 104, 117, 0, 0)]
def tM_hasGain_c1 : List am_E := [(104, .lload_n 1, 105, 0, 0, 0), (105, .lload_n 3, 106, 0, 0, 0), (106, .lrem, 107, 0, 0, 0), (107, .lstore 5, 109, 0, 0, 0), (109, .lload_n 3, 110, 0, 0, 0), (110, .lstore_n 1, 111, 0, 0, 0), (111, .lload 5, 113, 0, 0, 0), (113, .lstore_n 3, 114, 0, 0, 0), (114, .goto (-16), 117, 98, 0, 0), (117, .aload_n 0, 118, 0, 0, 0), (118, .dup, 119, 0, 0, 0), (119, .getfield 137, 122, 7, 21, 650), (122, .lload_n 1, 123, 0, 0, 0), (123, .ldiv, 124, 0, 0, 0), (124, .putfield 137, 127, 7, 21, 650), (127, .aload_n 0, 128, 0, 0, 0), (128, .dup, 129, 0, 0, 0), (129, .getfield 140, 132, 7, 22, 651), (132, .lload_n 1, 133, 0, 0, 0), (133, .ldiv, 134, 0, 0, 0), (134, .putfield 140, 137, 7, 22, 651), (137, .iconst 1, 138, 0, 0, 0), (138, .ireturn, 139, 0, 0, 0)]
def tM_hasGain : am_T := (⟨"TwoGamesModel", "hasGain", "()Z"⟩, prog_9_method_31_code, 7, (some .boolean), 17, tM_hasGain_c0 ++ (tM_hasGain_c1))
def tM_lot : am_T := (⟨"TwoGamesModel", "lot", "(III)I"⟩, prog_9_method_41_code, 5, (some .int), 17, [(0, .iload_n 3, 1, 0, 0, 0), (1, .iconst 0, 2, 0, 0, 0), (2, .bipush 12, 4, 0, 0, 0), (4, .invokestatic 73, 7, 102, 3, 721), (7, .ifCond .ne 5, 10, 12, 0, 0), (10, .iconst (-1), 11, 0, 0, 0), (11, .ireturn, 12, 0, 0, 0), (12, .aload_n 0, 13, 0, 0, 0), (13, .iload_n 1, 14, 0, 0, 0), (14, .iload_n 2, 15, 0, 0, 0), (15, .invokevirtual 168, 18, 138, 2, 864), (18, .istore 4, 20, 0, 0, 0), (20, .iload 4, 22, 0, 0, 0), (22, .ifCond .ge 6, 25, 28, 0, 0), (25, .iload 4, 27, 0, 0, 0), (27, .ireturn, 28, 0, 0, 0), (28, .aload_n 0, 29, 0, 0, 0), (29, .iload_n 1, 30, 0, 0, 0), (30, .iload_n 2, 31, 0, 0, 0), (31, .iload_n 3, 32, 0, 0, 0), (32, .invokevirtual 171, 35, 139, 3, 868), (35, .aload_n 0, 36, 0, 0, 0), (36, .invokevirtual 162, 39, 135, 0, 852), (39, .ireturn, 40, 0, 0, 0)])
def tM_askedTwo : am_T := (⟨"TwoGamesModel", "askedTwo", "(II)I"⟩, prog_9_method_40_code, 3, (some .int), 17, [(0, .aload_n 0, 1, 0, 0, 0), (1, .iload_n 1, 2, 0, 0, 0), (2, .invokevirtual 92, 5, 110, 1, 751), (5, .ifCond .eq 11, 8, 16, 0, 0), (8, .aload_n 0, 9, 0, 0, 0), (9, .iload_n 2, 10, 0, 0, 0), (10, .invokevirtual 92, 13, 110, 1, 751), (13, .ifCond .ne 5, 16, 18, 0, 0), (16, .iconst (-1), 17, 0, 0, 0), (17, .ireturn, 18, 0, 0, 0), (18, .aload_n 0, 19, 0, 0, 0), (19, .getfield 21, 22, 7, 6, 635), (22, .iload_n 1, 23, 0, 0, 0), (23, .iaload, 24, 0, 0, 0), (24, .iconst 2, 25, 0, 0, 0), (25, .if_icmp .eq 13, 28, 38, 0, 0), (28, .aload_n 0, 29, 0, 0, 0), (29, .getfield 21, 32, 7, 6, 635), (32, .iload_n 2, 33, 0, 0, 0), (33, .iaload, 34, 0, 0, 0), (34, .iconst 2, 35, 0, 0, 0), (35, .if_icmp .ne 11, 38, 46, 0, 0), (38, .aload_n 0, 39, 0, 0, 0), (39, .iconst 3, 40, 0, 0, 0), (40, .invokevirtual 99, 43, 114, 1, 767), (43, .goto 4, 46, 47, 0, 0), (46, .iconst 0, 47, 0, 0, 0), (47, .ireturn, 48, 0, 0, 0)])
def tM_setLot : am_T := (⟨"TwoGamesModel", "setLot", "(III)V"⟩, prog_9_method_39_code, 5, none, 17, [(0, .aload_n 0, 1, 0, 0, 0), (1, .iconst 1, 2, 0, 0, 0), (2, .putfield 111, 5, 7, 11, 640), (5, .aload_n 0, 6, 0, 0, 0), (6, .ldc2_w 166, 9, 144, 0, 872), (9, .putfield 114, 12, 7, 12, 641), (12, .iconst 0, 13, 0, 0, 0), (13, .istore 4, 15, 0, 0, 0), (15, .iload 4, 17, 0, 0, 0), (17, .iconst 3, 18, 0, 0, 0), (18, .if_icmp .ge 47, 21, 65, 0, 0), (21, .aload_n 0, 22, 0, 0, 0), (22, .getfield 36, 25, 7, 13, 642), (25, .iload 4, 27, 0, 0, 0), (27, .iload_n 3, 28, 0, 0, 0), (28, .aload_n 0, 29, 0, 0, 0), (29, .getfield 24, 32, 7, 7, 636), (32, .iconst 4, 33, 0, 0, 0), (33, .iload_n 1, 34, 0, 0, 0), (34, .imul, 35, 0, 0, 0), (35, .iload 4, 37, 0, 0, 0), (37, .iadd, 38, 0, 0, 0), (38, .iaload, 39, 0, 0, 0), (39, .imul, 40, 0, 0, 0), (40, .bipush 12, 42, 0, 0, 0), (42, .iload_n 3, 43, 0, 0, 0), (43, .isub, 44, 0, 0, 0), (44, .aload_n 0, 45, 0, 0, 0), (45, .getfield 24, 48, 7, 7, 636), (48, .iconst 4, 49, 0, 0, 0), (49, .iload_n 2, 50, 0, 0, 0), (50, .imul, 51, 0, 0, 0), (51, .iload 4, 53, 0, 0, 0), (53, .iadd, 54, 0, 0, 0), (54, .iaload, 55, 0, 0, 0), (55, .imul, 56, 0, 0, 0), (56, .iadd, 57, 0, 0, 0), (57, .i2l, 58, 0, 0, 0), (58, .lastore, 59, 0, 0, 0), (59, .iinc 4 1, 62, 0, 0, 0), (62, .goto (-47), 65, 15, 0, 0), (65, .return_, 66, 0, 0, 0)])
def tM_middle : am_T := (⟨"TwoGamesModel", "middle", "(II)I"⟩, prog_9_method_42_code, 5, (some .int), 17, [(0, .aload_n 0, 1, 0, 0, 0), (1, .iload_n 1, 2, 0, 0, 0), (2, .iload_n 2, 3, 0, 0, 0), (3, .invokevirtual 168, 6, 138, 2, 864), (6, .istore_n 3, 7, 0, 0, 0), (7, .iload_n 3, 8, 0, 0, 0), (8, .ifCond .ge 5, 11, 13, 0, 0), (11, .iload_n 3, 12, 0, 0, 0), (12, .ireturn, 13, 0, 0, 0), (13, .iconst 0, 14, 0, 0, 0), (14, .istore 4, 16, 0, 0, 0), (16, .iload 4, 18, 0, 0, 0), (18, .bipush 12, 20, 0, 0, 0), (20, .if_icmp .gt 36, 23, 56, 0, 0), (23, .aload_n 0, 24, 0, 0, 0), (24, .iload_n 1, 25, 0, 0, 0), (25, .iload_n 2, 26, 0, 0, 0), (26, .iload 4, 28, 0, 0, 0), (28, .invokevirtual 171, 31, 139, 3, 868), (31, .aload_n 0, 32, 0, 0, 0), (32, .invokevirtual 159, 35, 136, 0, 856), (35, .ifCond .eq 15, 38, 50, 0, 0), (38, .aload_n 0, 39, 0, 0, 0), (39, .getfield 137, 42, 7, 21, 650), (42, .lconst 0, 43, 0, 0, 0), (43, .lcmp, 44, 0, 0, 0), (44, .ifCond .le 6, 47, 50, 0, 0), (47, .iload 4, 49, 0, 0, 0), (49, .ireturn, 50, 0, 0, 0), (50, .iinc 4 1, 53, 0, 0, 0), (53, .goto (-37), 56, 16, 0, 0), (56, .bipush (-9), 58, 0, 0, 0), (58, .ireturn, 59, 0, 0, 0)])
def tM_bestRow_c0 : List am_E := [(0, .iload_n 1, 1, 0, 0, 0), (1, .iconst 1, 2, 0, 0, 0), (2, .iconst 4, 3, 0, 0, 0), (3, .invokestatic 73, 6, 102, 3, 721), (6, .ifCond .eq 10, 9, 16, 0, 0), (9, .iload_n 2, 10, 0, 0, 0), (10, .invokestatic 102, 13, 119, 1, 787), (13, .ifCond .ne 5, 16, 18, 0, 0), (16, .iconst (-1), 17, 0, 0, 0), (17, .ireturn, 18, 0, 0, 0), (18, .iconst 1, 19, 0, 0, 0), (19, .istore_n 3, 20, 0, 0, 0), (20, .iconst 0, 21, 0, 0, 0), (21, .istore 4, 23, 0, 0, 0), (23, .iload 4, 25, 0, 0, 0), (25, .iload_n 1, 26, 0, 0, 0), (26, .if_icmp .ge 16, 29, 42, 0, 0), (29, .iload_n 3, 30, 0, 0, 0), (30, .aload_n 0, 31, 0, 0, 0), (31, .getfield 77, 34, 7, 5, 634), (34, .imul, 35, 0, 0, 0), (35, .istore_n 3, 36, 0, 0, 0), (36, .iinc 4 1, 39, 0, 0, 0), (39, .goto (-16), 42, 23, 0, 0), (42, .iconst 0, 43, 0, 0, 0), (43, .istore 4, 45, 0, 0, 0), (45, .iconst 0, 46, 0, 0, 0), (46, .istore 5, 48, 0, 0, 0), (48, .iload 5, 50, 0, 0, 0), (50, .iload_n 3, 51, 0, 0, 0), (51, .if_icmp .ge 187, 54, 238, 0, 0), (54, .iload 5, 56, 0, 0, 0), (56, .istore 6, 58, 0, 0, 0), (58, .iload_n 3, 59, 0, 0, 0), (59, .istore 7, 61, 0, 0, 0), (61, .iconst 1, 62, 0, 0, 0), (62, .istore 8, 64, 0, 0, 0), (64, .aload_n 0, 65, 0, 0, 0), (65, .iload_n 1, 66, 0, 0, 0), (66, .putfield 111, 69, 7, 11, 640), (69, .aload_n 0, 70, 0, 0, 0), (70, .ldc2_w 146, 73, 12, 0, 818), (73, .putfield 114, 76, 7, 12, 641), (76, .iconst 0, 77, 0, 0, 0), (77, .istore 9, 79, 0, 0, 0), (79, .iload 9, 81, 0, 0, 0), (81, .iload_n 1, 82, 0, 0, 0), (82, .if_icmp .ge 78, 85, 160, 0, 0), (85, .iload 7, 87, 0, 0, 0), (87, .aload_n 0, 88, 0, 0, 0), (88, .getfield 77, 91, 7, 5, 634), (91, .idiv, 92, 0, 0, 0), (92, .istore 7, 94, 0, 0, 0), (94, .aload_n 0, 95, 0, 0, 0), (95, .getfield 33, 98, 7, 10, 639), (98, .iload 9, 100, 0, 0, 0), (100, .iload 6, 102, 0, 0, 0), (102, .iload 7, 104, 0, 0, 0), (104, .idiv, 105, 0, 0, 0), (105, .iastore, 106, 0, 0, 0)]
def tM_bestRow_c1 : List am_E := [(106, .iload 6, 108, 0, 0, 0), (108, .iload 7, 110, 0, 0, 0), (110, .irem, 111, 0, 0, 0), (111, .istore 6, 113, 0, 0, 0), (113, .iload 8, 115, 0, 0, 0), (115, .ifCond .eq 23, 118, 138, 0, 0), (118, .aload_n 0, 119, 0, 0, 0), (119, .getfield 21, 122, 7, 6, 635), (122, .aload_n 0, 123, 0, 0, 0), (123, .getfield 33, 126, 7, 10, 639), (126, .iload 9, 128, 0, 0, 0), (128, .iaload, 129, 0, 0, 0), (129, .iaload, 130, 0, 0, 0), (130, .iconst 2, 131, 0, 0, 0), (131, .if_icmp .eq 7, 134, 138, 0, 0), (134, .iconst 1, 135, 0, 0, 0), (135, .goto 4, 138, 139, 0, 0), (138, .iconst 0, 139, 0, 0, 0), (139, .istore 8, 141, 0, 0, 0), (141, .aload_n 0, 142, 0, 0, 0), (142, .iload 9, 144, 0, 0, 0), (144, .aload_n 0, 145, 0, 0, 0), (145, .getfield 33, 148, 7, 10, 639), (148, .iload 9, 150, 0, 0, 0), (150, .iaload, 151, 0, 0, 0), (151, .invokevirtual 148, 154, 127, 2, 819), (154, .iinc 9 1, 157, 0, 0, 0), (157, .goto (-78), 160, 79, 0, 0), (160, .iload 8, 162, 0, 0, 0), (162, .ifCond .eq 70, 165, 232, 0, 0), (165, .aload_n 0, 166, 0, 0, 0), (166, .invokevirtual 159, 169, 136, 0, 856), (169, .ifCond .eq 63, 172, 232, 0, 0), (172, .iload 4, 174, 0, 0, 0), (174, .ifCond .eq 10, 177, 184, 0, 0), (177, .aload_n 0, 178, 0, 0, 0), (178, .invokevirtual 185, 181, 142, 0, 881), (181, .ifCond .eq 51, 184, 232, 0, 0), (184, .iconst 1, 185, 0, 0, 0), (185, .istore 4, 187, 0, 0, 0), (187, .aload_n 0, 188, 0, 0, 0), (188, .aload_n 0, 189, 0, 0, 0), (189, .getfield 137, 192, 7, 21, 650), (192, .putfield 175, 195, 7, 23, 652), (195, .aload_n 0, 196, 0, 0, 0), (196, .aload_n 0, 197, 0, 0, 0), (197, .getfield 140, 200, 7, 22, 651), (200, .putfield 178, 203, 7, 24, 653), (203, .iconst 0, 204, 0, 0, 0), (204, .istore 9, 206, 0, 0, 0), (206, .iload 9, 208, 0, 0, 0), (208, .iload_n 1, 209, 0, 0, 0), (209, .if_icmp .ge 23, 212, 232, 0, 0), (212, .aload_n 0, 213, 0, 0, 0), (213, .getfield 55, 216, 7, 25, 654), (216, .iload 9, 218, 0, 0, 0), (218, .aload_n 0, 219, 0, 0, 0), (219, .getfield 33, 222, 7, 10, 639), (222, .iload 9, 224, 0, 0, 0), (224, .iaload, 225, 0, 0, 0)]
def tM_bestRow_c2 : List am_E := [(225, .iastore, 226, 0, 0, 0), (226, .iinc 9 1, 229, 0, 0, 0), (229, .goto (-23), 232, 206, 0, 0), (232, .iinc 5 1, 235, 0, 0, 0), (235, .goto (-187), 238, 48, 0, 0), (238, .iload 4, 240, 0, 0, 0), (240, .ifCond .ne 6, 243, 246, 0, 0), (243, .bipush (-4), 245, 0, 0, 0), (245, .ireturn, 246, 0, 0, 0), (246, .aload_n 0, 247, 0, 0, 0), (247, .getfield 27, 250, 7, 8, 637), (250, .iload_n 2, 251, 0, 0, 0), (251, .iload_n 1, 252, 0, 0, 0), (252, .iastore, 253, 0, 0, 0), (253, .iconst 0, 254, 0, 0, 0), (254, .istore 5, 256, 0, 0, 0), (256, .iload 5, 258, 0, 0, 0), (258, .iconst 4, 259, 0, 0, 0), (259, .if_icmp .ge 37, 262, 296, 0, 0), (262, .aload_n 0, 263, 0, 0, 0), (263, .getfield 30, 266, 7, 9, 638), (266, .iconst 4, 267, 0, 0, 0), (267, .iload_n 2, 268, 0, 0, 0), (268, .imul, 269, 0, 0, 0), (269, .iload 5, 271, 0, 0, 0), (271, .iadd, 272, 0, 0, 0), (272, .iload 5, 274, 0, 0, 0), (274, .iload_n 1, 275, 0, 0, 0), (275, .if_icmp .ge 13, 278, 288, 0, 0), (278, .aload_n 0, 279, 0, 0, 0), (279, .getfield 55, 282, 7, 25, 654), (282, .iload 5, 284, 0, 0, 0), (284, .iaload, 285, 0, 0, 0), (285, .goto 4, 288, 289, 0, 0), (288, .iconst 0, 289, 0, 0, 0), (289, .iastore, 290, 0, 0, 0), (290, .iinc 5 1, 293, 0, 0, 0), (293, .goto (-37), 296, 256, 0, 0), (296, .aload_n 0, 297, 0, 0, 0), (297, .aload_n 0, 298, 0, 0, 0), (298, .getfield 175, 301, 7, 23, 652), (301, .aload_n 0, 302, 0, 0, 0), (302, .getfield 178, 305, 7, 24, 653), (305, .iconst 1, 306, 0, 0, 0), (306, .invokevirtual 155, 309, 131, 3, 836), (309, .ireturn, 310, 0, 0, 0)]
def tM_bestRow : am_T := (⟨"TwoGamesModel", "bestRow", "(II)I"⟩, prog_9_method_45_code, 10, (some .int), 17, tM_bestRow_c0 ++ (tM_bestRow_c1 ++ (tM_bestRow_c2)))
def tM_isMore_c0 : List am_E := [(0, .aload_n 0, 1, 0, 0, 0), (1, .getfield 175, 4, 7, 23, 652), (4, .lstore_n 1, 5, 0, 0, 0), (5, .aload_n 0, 6, 0, 0, 0), (6, .getfield 178, 9, 7, 24, 653), (9, .lstore_n 3, 10, 0, 0, 0), (10, .aload_n 0, 11, 0, 0, 0), (11, .getfield 137, 14, 7, 21, 650), (14, .lstore 5, 16, 0, 0, 0), (16, .aload_n 0, 17, 0, 0, 0), (17, .getfield 140, 20, 7, 22, 651), (20, .lstore 7, 22, 0, 0, 0), (22, .iconst 0, 23, 0, 0, 0), (23, .istore 9, 25, 0, 0, 0), (25, .lload_n 1, 26, 0, 0, 0), (26, .lload_n 3, 27, 0, 0, 0), (27, .invokestatic 181, 30, 143, 2, 885), (30, .lstore 10, 32, 0, 0, 0), (32, .lload 5, 34, 0, 0, 0), (34, .lload 7, 36, 0, 0, 0), (36, .invokestatic 181, 39, 143, 2, 885), (39, .lstore 12, 41, 0, 0, 0), (41, .lload 10, 43, 0, 0, 0), (43, .lload 12, 45, 0, 0, 0), (45, .lcmp, 46, 0, 0, 0), (46, .ifCond .eq 27, 49, 73, 0, 0), (49, .lload 10, 51, 0, 0, 0), (51, .lload 12, 53, 0, 0, 0), (53, .lcmp, 54, 0, 0, 0), (54, .ifCond .ge 7, 57, 61, 0, 0), (57, .iconst 1, 58, 0, 0, 0), (58, .goto 4, 61, 62, 0, 0), (61, .iconst 0, 62, 0, 0, 0), (62, .iload 9, 64, 0, 0, 0), (64, .if_icmp .eq 7, 67, 71, 0, 0), (67, .iconst 1, 68, 0, 0, 0), (68, .goto 4, 71, 72, 0, 0), (71, .iconst 0, 72, 0, 0, 0), (72, .ireturn, 73, 0, 0, 0), (73, .lload_n 1, 74, 0, 0, 0), (74, .lload 10, 76, 0, 0, 0), (76, .lload_n 3, 77, 0, 0, 0), (77, .lmul, 78, 0, 0, 0), (78, .lsub, 79, 0, 0, 0), (79, .lstore_n 1, 80, 0, 0, 0), (80, .lload 5, 82, 0, 0, 0), (82, .lload 12, 84, 0, 0, 0), (84, .lload 7, 86, 0, 0, 0), (86, .lmul, 87, 0, 0, 0), (87, .lsub, 88, 0, 0, 0), (88, .lstore 5, 90, 0, 0, 0), (90, .lload_n 1, 91, 0, 0, 0), (91, .lconst 0, 92, 0, 0, 0), (92, .lcmp, 93, 0, 0, 0), (93, .ifCond .eq 10, 96, 103, 0, 0), (96, .lload 5, 98, 0, 0, 0), (98, .lconst 0, 99, 0, 0, 0), (99, .lcmp, 100, 0, 0, 0), (100, .ifCond .ne 32, 103, 132, 0, 0), (103, .lload_n 1, 104, 0, 0, 0)]
def tM_isMore_c1 : List am_E := [(104, .lconst 0, 105, 0, 0, 0), (105, .lcmp, 106, 0, 0, 0), (106, .ifCond .ne 23, 109, 129, 0, 0), (109, .lload 5, 111, 0, 0, 0), (111, .lconst 0, 112, 0, 0, 0), (112, .lcmp, 113, 0, 0, 0), (113, .ifCond .eq 12, 116, 125, 0, 0), (116, .iload 9, 118, 0, 0, 0), (118, .ifCond .ne 7, 121, 125, 0, 0), (121, .iconst 1, 122, 0, 0, 0), (122, .goto 9, 125, 131, 0, 0), (125, .iconst 0, 126, 0, 0, 0), (126, .goto 5, 129, 131, 0, 0), (129, .iload 9, 131, 0, 0, 0), (131, .ireturn, 132, 0, 0, 0), (132, .lload_n 1, 133, 0, 0, 0), (133, .lstore 14, 135, 0, 0, 0), (135, .lload_n 3, 136, 0, 0, 0), (136, .lstore_n 1, 137, 0, 0, 0), (137, .lload 14, 139, 0, 0, 0), (139, .lstore_n 3, 140, 0, 0, 0), (140, .lload 5, 142, 0, 0, 0), (142, .lstore 14, 144, 0, 0, 0), (144, .lload 7, 146, 0, 0, 0), (146, .lstore 5, 148, 0, 0, 0), (148, .lload 14, 150, 0, 0, 0), (150, .lstore 7, 152, 0, 0, 0), (152, .iload 9, 154, 0, 0, 0), (154, .ifCond .ne 7, 157, 161, 0, 0), (157, .iconst 1, 158, 0, 0, 0), (158, .goto 4, 161, 162, 0, 0), (161, .iconst 0, 162, 0, 0, 0), (162, .istore 9, 164, 0, 0, 0), (164, .goto (-139), 167, 25, 0, 0)]
def tM_isMore : am_T := (⟨"TwoGamesModel", "isMore", "()Z"⟩, prog_9_method_44_code, 16, (some .boolean), 17, tM_isMore_c0 ++ (tM_isMore_c1))
def tM_floor : am_T := (⟨"TwoGamesModel", "floor", "(JJ)J"⟩, prog_9_method_43_code, 4, (some .long), 17, [(0, .lload_n 0, 1, 0, 0, 0), (1, .lload_n 2, 2, 0, 0, 0), (2, .lrem, 3, 0, 0, 0), (3, .lconst 0, 4, 0, 0, 0), (4, .lcmp, 5, 0, 0, 0), (5, .ifCond .ge 11, 8, 16, 0, 0), (8, .lload_n 0, 9, 0, 0, 0), (9, .lload_n 2, 10, 0, 0, 0), (10, .ldiv, 11, 0, 0, 0), (11, .lconst 1, 12, 0, 0, 0), (12, .lsub, 13, 0, 0, 0), (13, .goto 6, 16, 19, 0, 0), (16, .lload_n 0, 17, 0, 0, 0), (17, .lload_n 2, 18, 0, 0, 0), (18, .ldiv, 19, 0, 0, 0), (19, .lreturn, 20, 0, 0, 0)])
def tM_bestChoice_c0 : List am_E := [(0, .iconst 1, 1, 0, 0, 0), (1, .istore_n 1, 2, 0, 0, 0), (2, .iconst 0, 3, 0, 0, 0), (3, .istore_n 2, 4, 0, 0, 0), (4, .iload_n 2, 5, 0, 0, 0), (5, .aload_n 0, 6, 0, 0, 0), (6, .getfield 17, 9, 7, 4, 633), (9, .if_icmp .ge 16, 12, 25, 0, 0), (12, .iload_n 1, 13, 0, 0, 0), (13, .aload_n 0, 14, 0, 0, 0), (14, .getfield 77, 17, 7, 5, 634), (17, .imul, 18, 0, 0, 0), (18, .istore_n 1, 19, 0, 0, 0), (19, .iinc 2 1, 22, 0, 0, 0), (22, .goto (-18), 25, 4, 0, 0), (25, .iconst 0, 26, 0, 0, 0), (26, .istore_n 2, 27, 0, 0, 0), (27, .iconst 0, 28, 0, 0, 0), (28, .istore_n 3, 29, 0, 0, 0), (29, .iload_n 3, 30, 0, 0, 0), (30, .iload_n 1, 31, 0, 0, 0), (31, .if_icmp .ge 196, 34, 227, 0, 0), (34, .iload_n 3, 35, 0, 0, 0), (35, .istore 4, 37, 0, 0, 0), (37, .iload_n 1, 38, 0, 0, 0), (38, .istore 5, 40, 0, 0, 0), (40, .iconst 1, 41, 0, 0, 0), (41, .istore 6, 43, 0, 0, 0), (43, .aload_n 0, 44, 0, 0, 0), (44, .iconst 1, 45, 0, 0, 0), (45, .putfield 111, 48, 7, 11, 640), (48, .aload_n 0, 49, 0, 0, 0), (49, .ldc2_w 146, 52, 12, 0, 818), (52, .putfield 114, 55, 7, 12, 641), (55, .iconst 0, 56, 0, 0, 0), (56, .istore 7, 58, 0, 0, 0), (58, .iload 7, 60, 0, 0, 0), (60, .aload_n 0, 61, 0, 0, 0), (61, .getfield 17, 64, 7, 4, 633), (64, .if_icmp .ge 84, 67, 148, 0, 0), (67, .iload 5, 69, 0, 0, 0), (69, .aload_n 0, 70, 0, 0, 0), (70, .getfield 77, 73, 7, 5, 634), (73, .idiv, 74, 0, 0, 0), (74, .istore 5, 76, 0, 0, 0), (76, .iload 4, 78, 0, 0, 0), (78, .iload 5, 80, 0, 0, 0), (80, .idiv, 81, 0, 0, 0), (81, .istore 8, 83, 0, 0, 0), (83, .iload 4, 85, 0, 0, 0), (85, .iload 5, 87, 0, 0, 0), (87, .irem, 88, 0, 0, 0), (88, .istore 4, 90, 0, 0, 0), (90, .iload 6, 92, 0, 0, 0), (92, .ifCond .eq 18, 95, 110, 0, 0), (95, .aload_n 0, 96, 0, 0, 0), (96, .getfield 21, 99, 7, 6, 635), (99, .iload 8, 101, 0, 0, 0), (101, .iaload, 102, 0, 0, 0), (102, .iconst 2, 103, 0, 0, 0)]
def tM_bestChoice_c1 : List am_E := [(103, .if_icmp .eq 7, 106, 110, 0, 0), (106, .iconst 1, 107, 0, 0, 0), (107, .goto 4, 110, 111, 0, 0), (110, .iconst 0, 111, 0, 0, 0), (111, .istore 6, 113, 0, 0, 0), (113, .aload_n 0, 114, 0, 0, 0), (114, .getfield 36, 117, 7, 13, 642), (117, .iload 7, 119, 0, 0, 0), (119, .aload_n 0, 120, 0, 0, 0), (120, .getfield 24, 123, 7, 7, 636), (123, .iconst 4, 124, 0, 0, 0), (124, .iload 8, 126, 0, 0, 0), (126, .imul, 127, 0, 0, 0), (127, .iload 7, 129, 0, 0, 0), (129, .iadd, 130, 0, 0, 0), (130, .iaload, 131, 0, 0, 0), (131, .i2l, 132, 0, 0, 0), (132, .lastore, 133, 0, 0, 0), (133, .aload_n 0, 134, 0, 0, 0), (134, .getfield 33, 137, 7, 10, 639), (137, .iload 7, 139, 0, 0, 0), (139, .iload 8, 141, 0, 0, 0), (141, .iastore, 142, 0, 0, 0), (142, .iinc 7 1, 145, 0, 0, 0), (145, .goto (-87), 148, 58, 0, 0), (148, .iload 6, 150, 0, 0, 0), (150, .ifCond .eq 71, 153, 221, 0, 0), (153, .aload_n 0, 154, 0, 0, 0), (154, .invokevirtual 159, 157, 136, 0, 856), (157, .ifCond .eq 64, 160, 221, 0, 0), (160, .iload_n 2, 161, 0, 0, 0), (161, .ifCond .eq 10, 164, 171, 0, 0), (164, .aload_n 0, 165, 0, 0, 0), (165, .invokevirtual 185, 168, 142, 0, 881), (168, .ifCond .eq 53, 171, 221, 0, 0), (171, .iconst 1, 172, 0, 0, 0), (172, .istore_n 2, 173, 0, 0, 0), (173, .aload_n 0, 174, 0, 0, 0), (174, .aload_n 0, 175, 0, 0, 0), (175, .getfield 137, 178, 7, 21, 650), (178, .putfield 175, 181, 7, 23, 652), (181, .aload_n 0, 182, 0, 0, 0), (182, .aload_n 0, 183, 0, 0, 0), (183, .getfield 140, 186, 7, 22, 651), (186, .putfield 178, 189, 7, 24, 653), (189, .iconst 0, 190, 0, 0, 0), (190, .istore 7, 192, 0, 0, 0), (192, .iload 7, 194, 0, 0, 0), (194, .aload_n 0, 195, 0, 0, 0), (195, .getfield 17, 198, 7, 4, 633), (198, .if_icmp .ge 23, 201, 221, 0, 0), (201, .aload_n 0, 202, 0, 0, 0), (202, .getfield 55, 205, 7, 25, 654), (205, .iload 7, 207, 0, 0, 0), (207, .aload_n 0, 208, 0, 0, 0), (208, .getfield 33, 211, 7, 10, 639), (211, .iload 7, 213, 0, 0, 0), (213, .iaload, 214, 0, 0, 0), (214, .iastore, 215, 0, 0, 0), (215, .iinc 7 1, 218, 0, 0, 0)]
def tM_bestChoice_c2 : List am_E := [(218, .goto (-26), 221, 192, 0, 0), (221, .iinc 3 1, 224, 0, 0, 0), (224, .goto (-195), 227, 29, 0, 0), (227, .iload_n 2, 228, 0, 0, 0), (228, .ifCond .ne 6, 231, 234, 0, 0), (231, .bipush (-4), 233, 0, 0, 0), (233, .ireturn, 234, 0, 0, 0), (234, .iconst 0, 235, 0, 0, 0), (235, .istore_n 3, 236, 0, 0, 0), (236, .iload_n 3, 237, 0, 0, 0), (237, .iconst 3, 238, 0, 0, 0), (238, .if_icmp .ge 34, 241, 272, 0, 0), (241, .aload_n 0, 242, 0, 0, 0), (242, .getfield 58, 245, 7, 26, 655), (245, .iload_n 3, 246, 0, 0, 0), (246, .iload_n 3, 247, 0, 0, 0), (247, .aload_n 0, 248, 0, 0, 0), (248, .getfield 17, 251, 7, 4, 633), (251, .if_icmp .ge 12, 254, 263, 0, 0), (254, .aload_n 0, 255, 0, 0, 0), (255, .getfield 55, 258, 7, 25, 654), (258, .iload_n 3, 259, 0, 0, 0), (259, .iaload, 260, 0, 0, 0), (260, .goto 5, 263, 265, 0, 0), (263, .bipush (-9), 265, 0, 0, 0), (265, .iastore, 266, 0, 0, 0), (266, .iinc 3 1, 269, 0, 0, 0), (269, .goto (-33), 272, 236, 0, 0), (272, .aload_n 0, 273, 0, 0, 0), (273, .aload_n 0, 274, 0, 0, 0), (274, .getfield 175, 277, 7, 23, 652), (277, .aload_n 0, 278, 0, 0, 0), (278, .getfield 178, 281, 7, 24, 653), (281, .iconst 1, 282, 0, 0, 0), (282, .invokevirtual 155, 285, 131, 3, 836), (285, .ireturn, 286, 0, 0, 0)]
def tM_bestChoice : am_T := (⟨"TwoGamesModel", "bestChoice", "()I"⟩, prog_9_method_46_code, 9, (some .int), 17, tM_bestChoice_c0 ++ (tM_bestChoice_c1 ++ (tM_bestChoice_c2)))
def tM_choice : am_T := (⟨"TwoGamesModel", "choice", "(I)I"⟩, prog_9_method_47_code, 2, (some .int), 17, [(0, .iload_n 1, 1, 0, 0, 0), (1, .iconst 0, 2, 0, 0, 0), (2, .iconst 2, 3, 0, 0, 0), (3, .invokestatic 73, 6, 102, 3, 721), (6, .ifCond .eq 12, 9, 18, 0, 0), (9, .aload_n 0, 10, 0, 0, 0), (10, .getfield 58, 13, 7, 26, 655), (13, .iload_n 1, 14, 0, 0, 0), (14, .iaload, 15, 0, 0, 0), (15, .goto 5, 18, 20, 0, 0), (18, .bipush (-9), 20, 0, 0, 0), (20, .ireturn, 21, 0, 0, 0)])
def tM_paradoxes_c0 : List am_E := [(0, .iconst 0, 1, 0, 0, 0), (1, .istore_n 1, 2, 0, 0, 0), (2, .iconst 0, 3, 0, 0, 0), (3, .istore_n 2, 4, 0, 0, 0), (4, .iload_n 2, 5, 0, 0, 0), (5, .aload_n 0, 6, 0, 0, 0), (6, .getfield 77, 9, 7, 5, 634), (9, .if_icmp .ge 111, 12, 120, 0, 0), (12, .iload_n 2, 13, 0, 0, 0), (13, .iconst 1, 14, 0, 0, 0), (14, .iadd, 15, 0, 0, 0), (15, .istore_n 3, 16, 0, 0, 0), (16, .iload_n 3, 17, 0, 0, 0), (17, .aload_n 0, 18, 0, 0, 0), (18, .getfield 77, 21, 7, 5, 634), (21, .if_icmp .ge 93, 24, 114, 0, 0), (24, .aload_n 0, 25, 0, 0, 0), (25, .getfield 21, 28, 7, 6, 635), (28, .iload_n 2, 29, 0, 0, 0), (29, .iaload, 30, 0, 0, 0), (30, .iconst 2, 31, 0, 0, 0), (31, .if_icmp .eq 77, 34, 108, 0, 0), (34, .aload_n 0, 35, 0, 0, 0), (35, .getfield 21, 38, 7, 6, 635), (38, .iload_n 3, 39, 0, 0, 0), (39, .iaload, 40, 0, 0, 0), (40, .iconst 2, 41, 0, 0, 0), (41, .if_icmp .eq 67, 44, 108, 0, 0), (44, .aload_n 0, 45, 0, 0, 0), (45, .iload_n 2, 46, 0, 0, 0), (46, .invokevirtual 188, 49, 147, 1, 900), (49, .ifCond .eq 59, 52, 108, 0, 0), (52, .aload_n 0, 53, 0, 0, 0), (53, .iload_n 3, 54, 0, 0, 0), (54, .invokevirtual 188, 57, 147, 1, 900), (57, .ifCond .eq 51, 60, 108, 0, 0), (60, .aload_n 0, 61, 0, 0, 0), (61, .iconst 2, 62, 0, 0, 0), (62, .putfield 111, 65, 7, 11, 640), (65, .aload_n 0, 66, 0, 0, 0), (66, .ldc2_w 146, 69, 12, 0, 818), (69, .putfield 114, 72, 7, 12, 641), (72, .aload_n 0, 73, 0, 0, 0), (73, .iconst 0, 74, 0, 0, 0), (74, .iload_n 2, 75, 0, 0, 0), (75, .invokevirtual 148, 78, 127, 2, 819), (78, .aload_n 0, 79, 0, 0, 0), (79, .iconst 1, 80, 0, 0, 0), (80, .iload_n 3, 81, 0, 0, 0), (81, .invokevirtual 148, 84, 127, 2, 819), (84, .iload_n 1, 85, 0, 0, 0), (85, .aload_n 0, 86, 0, 0, 0), (86, .invokevirtual 159, 89, 136, 0, 856), (89, .ifCond .eq 16, 92, 105, 0, 0), (92, .aload_n 0, 93, 0, 0, 0), (93, .getfield 137, 96, 7, 21, 650), (96, .lconst 0, 97, 0, 0, 0), (97, .lcmp, 98, 0, 0, 0), (98, .ifCond .le 7, 101, 105, 0, 0), (101, .iconst 1, 102, 0, 0, 0)]
def tM_paradoxes_c1 : List am_E := [(102, .goto 4, 105, 106, 0, 0), (105, .iconst 0, 106, 0, 0, 0), (106, .iadd, 107, 0, 0, 0), (107, .istore_n 1, 108, 0, 0, 0), (108, .iinc 3 1, 111, 0, 0, 0), (111, .goto (-95), 114, 16, 0, 0), (114, .iinc 2 1, 117, 0, 0, 0), (117, .goto (-113), 120, 4, 0, 0), (120, .iload_n 1, 121, 0, 0, 0), (121, .ireturn, 122, 0, 0, 0)]
def tM_paradoxes : am_T := (⟨"TwoGamesModel", "paradoxes", "()I"⟩, prog_9_method_49_code, 4, (some .int), 17, tM_paradoxes_c0 ++ (tM_paradoxes_c1))
def tM_loses : am_T := (⟨"TwoGamesModel", "loses", "(I)Z"⟩, prog_9_method_48_code, 2, (some .boolean), 17, [(0, .aload_n 0, 1, 0, 0, 0), (1, .iconst 1, 2, 0, 0, 0), (2, .putfield 111, 5, 7, 11, 640), (5, .aload_n 0, 6, 0, 0, 0), (6, .ldc2_w 146, 9, 12, 0, 818), (9, .putfield 114, 12, 7, 12, 641), (12, .aload_n 0, 13, 0, 0, 0), (13, .iconst 0, 14, 0, 0, 0), (14, .iload_n 1, 15, 0, 0, 0), (15, .invokevirtual 148, 18, 127, 2, 819), (18, .aload_n 0, 19, 0, 0, 0), (19, .invokevirtual 159, 22, 136, 0, 856), (22, .ifCond .eq 16, 25, 38, 0, 0), (25, .aload_n 0, 26, 0, 0, 0), (26, .getfield 137, 29, 7, 21, 650), (29, .lconst 0, 30, 0, 0, 0), (30, .lcmp, 31, 0, 0, 0), (31, .ifCond .ge 7, 34, 38, 0, 0), (34, .iconst 1, 35, 0, 0, 0), (35, .goto 4, 38, 39, 0, 0), (38, .iconst 0, 39, 0, 0, 0), (39, .ireturn, 40, 0, 0, 0)])
def tM_after : am_T := (⟨"TwoGamesModel", "after", "(IIII)I"⟩, prog_9_method_52_code, 8, (some .int), 17, [(0, .iload_n 3, 1, 0, 0, 0), (1, .iconst 0, 2, 0, 0, 0), (2, .bipush 9, 4, 0, 0, 0), (4, .invokestatic 73, 7, 102, 3, 721), (7, .ifCond .eq 26, 10, 33, 0, 0), (10, .iload_n 2, 11, 0, 0, 0), (11, .bipush (-20), 13, 0, 0, 0), (13, .bipush 20, 15, 0, 0, 0), (15, .invokestatic 73, 18, 102, 3, 721), (18, .ifCond .eq 15, 21, 33, 0, 0), (21, .iload 4, 23, 0, 0, 0), (23, .bipush (-40), 25, 0, 0, 0), (25, .bipush 40, 27, 0, 0, 0), (27, .invokestatic 73, 30, 102, 3, 721), (30, .ifCond .ne 5, 33, 35, 0, 0), (33, .iconst (-1), 34, 0, 0, 0), (34, .ireturn, 35, 0, 0, 0), (35, .aload_n 0, 36, 0, 0, 0), (36, .iload_n 1, 37, 0, 0, 0), (37, .invokevirtual 152, 40, 125, 1, 810), (40, .istore 5, 42, 0, 0, 0), (42, .iload 5, 44, 0, 0, 0), (44, .ifCond .ge 6, 47, 50, 0, 0), (47, .iload 5, 49, 0, 0, 0), (49, .ireturn, 50, 0, 0, 0), (50, .aload_n 0, 51, 0, 0, 0), (51, .iload_n 2, 52, 0, 0, 0), (52, .iload_n 3, 53, 0, 0, 0), (53, .invokevirtual 194, 56, 149, 2, 908), (56, .lstore 6, 58, 0, 0, 0), (58, .aload_n 0, 59, 0, 0, 0), (59, .iload 4, 61, 0, 0, 0), (61, .bipush (-30), 63, 0, 0, 0), (63, .bipush 30, 65, 0, 0, 0), (65, .invokestatic 73, 68, 102, 3, 721), (68, .ifCond .eq 16, 71, 84, 0, 0), (71, .aload_n 0, 72, 0, 0, 0), (72, .getfield 61, 75, 7, 27, 656), (75, .iload 4, 77, 0, 0, 0), (77, .bipush 30, 79, 0, 0, 0), (79, .iadd, 80, 0, 0, 0), (80, .laload, 81, 0, 0, 0), (81, .goto 4, 84, 85, 0, 0), (84, .lconst 0, 85, 0, 0, 0), (85, .lload 6, 87, 0, 0, 0), (87, .iconst 1, 88, 0, 0, 0), (88, .invokevirtual 155, 91, 131, 3, 836), (91, .ireturn, 92, 0, 0, 0)])
def tM_setPurses_c0 : List am_E := [(0, .iconst 0, 1, 0, 0, 0), (1, .istore_n 3, 2, 0, 0, 0), (2, .iload_n 3, 3, 0, 0, 0), (3, .bipush 61, 5, 0, 0, 0), (5, .if_icmp .ge 28, 8, 33, 0, 0), (8, .aload_n 0, 9, 0, 0, 0), (9, .getfield 61, 12, 7, 27, 656), (12, .iload_n 3, 13, 0, 0, 0), (13, .iload_n 3, 14, 0, 0, 0), (14, .iload_n 1, 15, 0, 0, 0), (15, .bipush 30, 17, 0, 0, 0), (17, .iadd, 18, 0, 0, 0), (18, .if_icmp .ne 7, 21, 25, 0, 0), (21, .lconst 1, 22, 0, 0, 0), (22, .goto 4, 25, 26, 0, 0), (25, .lconst 0, 26, 0, 0, 0), (26, .lastore, 27, 0, 0, 0), (27, .iinc 3 1, 30, 0, 0, 0), (30, .goto (-28), 33, 2, 0, 0), (33, .lconst 1, 34, 0, 0, 0), (34, .lstore_n 3, 35, 0, 0, 0), (35, .iconst 0, 36, 0, 0, 0), (36, .istore 5, 38, 0, 0, 0), (38, .iload 5, 40, 0, 0, 0), (40, .iload_n 2, 41, 0, 0, 0), (41, .if_icmp .ge 159, 44, 200, 0, 0), (44, .iconst 0, 45, 0, 0, 0), (45, .istore 6, 47, 0, 0, 0), (47, .iload 6, 49, 0, 0, 0), (49, .bipush 61, 51, 0, 0, 0), (51, .if_icmp .ge 17, 54, 68, 0, 0), (54, .aload_n 0, 55, 0, 0, 0), (55, .getfield 64, 58, 7, 28, 657), (58, .iload 6, 60, 0, 0, 0), (60, .lconst 0, 61, 0, 0, 0), (61, .lastore, 62, 0, 0, 0), (62, .iinc 6 1, 65, 0, 0, 0), (65, .goto (-18), 68, 47, 0, 0), (68, .iconst 1, 69, 0, 0, 0), (69, .istore 6, 71, 0, 0, 0), (71, .iload 6, 73, 0, 0, 0), (73, .bipush 60, 75, 0, 0, 0), (75, .if_icmp .ge 83, 78, 158, 0, 0), (78, .aload_n 0, 79, 0, 0, 0), (79, .getfield 36, 82, 7, 13, 642), (82, .iconst 3, 83, 0, 0, 0), (83, .iload 5, 85, 0, 0, 0), (85, .aload_n 0, 86, 0, 0, 0), (86, .getfield 111, 89, 7, 11, 640), (89, .irem, 90, 0, 0, 0), (90, .imul, 91, 0, 0, 0), (91, .aload_n 0, 92, 0, 0, 0), (92, .iload 6, 94, 0, 0, 0), (94, .bipush 30, 96, 0, 0, 0), (96, .isub, 97, 0, 0, 0), (97, .invokevirtual 191, 100, 150, 1, 912), (100, .iadd, 101, 0, 0, 0), (101, .laload, 102, 0, 0, 0), (102, .lstore 7, 104, 0, 0, 0), (104, .aload_n 0, 105, 0, 0, 0)]
def tM_setPurses_c1 : List am_E := [(105, .getfield 64, 108, 7, 28, 657), (108, .iload 6, 110, 0, 0, 0), (110, .iconst 1, 111, 0, 0, 0), (111, .iadd, 112, 0, 0, 0), (112, .dup2, 113, 0, 0, 0), (113, .laload, 114, 0, 0, 0), (114, .aload_n 0, 115, 0, 0, 0), (115, .getfield 61, 118, 7, 27, 656), (118, .iload 6, 120, 0, 0, 0), (120, .laload, 121, 0, 0, 0), (121, .lload 7, 123, 0, 0, 0), (123, .lmul, 124, 0, 0, 0), (124, .ladd, 125, 0, 0, 0), (125, .lastore, 126, 0, 0, 0), (126, .aload_n 0, 127, 0, 0, 0), (127, .getfield 64, 130, 7, 28, 657), (130, .iload 6, 132, 0, 0, 0), (132, .iconst 1, 133, 0, 0, 0), (133, .isub, 134, 0, 0, 0), (134, .dup2, 135, 0, 0, 0), (135, .laload, 136, 0, 0, 0), (136, .aload_n 0, 137, 0, 0, 0), (137, .getfield 61, 140, 7, 27, 656), (140, .iload 6, 142, 0, 0, 0), (142, .laload, 143, 0, 0, 0), (143, .ldc2_w 146, 146, 12, 0, 818), (146, .lload 7, 148, 0, 0, 0), (148, .lsub, 149, 0, 0, 0), (149, .lmul, 150, 0, 0, 0), (150, .ladd, 151, 0, 0, 0), (151, .lastore, 152, 0, 0, 0), (152, .iinc 6 1, 155, 0, 0, 0), (155, .goto (-84), 158, 71, 0, 0), (158, .iconst 0, 159, 0, 0, 0), (159, .istore 6, 161, 0, 0, 0), (161, .iload 6, 163, 0, 0, 0), (163, .bipush 61, 165, 0, 0, 0), (165, .if_icmp .ge 23, 168, 188, 0, 0), (168, .aload_n 0, 169, 0, 0, 0), (169, .getfield 61, 172, 7, 27, 656), (172, .iload 6, 174, 0, 0, 0), (174, .aload_n 0, 175, 0, 0, 0), (175, .getfield 64, 178, 7, 28, 657), (178, .iload 6, 180, 0, 0, 0), (180, .laload, 181, 0, 0, 0), (181, .lastore, 182, 0, 0, 0), (182, .iinc 6 1, 185, 0, 0, 0), (185, .goto (-24), 188, 161, 0, 0), (188, .lload_n 3, 189, 0, 0, 0), (189, .ldc2_w 146, 192, 12, 0, 818), (192, .lmul, 193, 0, 0, 0), (193, .lstore_n 3, 194, 0, 0, 0), (194, .iinc 5 1, 197, 0, 0, 0), (197, .goto (-159), 200, 38, 0, 0), (200, .lload_n 3, 201, 0, 0, 0), (201, .lreturn, 202, 0, 0, 0)]
def tM_setPurses : am_T := (⟨"TwoGamesModel", "setPurses", "(II)J"⟩, prog_9_method_51_code, 9, (some .long), 17, tM_setPurses_c0 ++ (tM_setPurses_c1))
def tM_restOf : am_T := (⟨"TwoGamesModel", "restOf", "(I)I"⟩, prog_9_method_50_code, 2, (some .int), 17, [(0, .iload_n 1, 1, 0, 0, 0), (1, .aload_n 0, 2, 0, 0, 0), (2, .getfield 17, 5, 7, 4, 633), (5, .irem, 6, 0, 0, 0), (6, .aload_n 0, 7, 0, 0, 0), (7, .getfield 17, 10, 7, 4, 633), (10, .iadd, 11, 0, 0, 0), (11, .aload_n 0, 12, 0, 0, 0), (12, .getfield 17, 15, 7, 4, 633), (15, .irem, 16, 0, 0, 0), (16, .ireturn, 17, 0, 0, 0)])
def tM_meanAfter : am_T := (⟨"TwoGamesModel", "meanAfter", "(III)I"⟩, prog_9_method_53_code, 10, (some .int), 17, [(0, .iload_n 3, 1, 0, 0, 0), (1, .iconst 0, 2, 0, 0, 0), (2, .bipush 9, 4, 0, 0, 0), (4, .invokestatic 73, 7, 102, 3, 721), (7, .ifCond .eq 14, 10, 21, 0, 0), (10, .iload_n 2, 11, 0, 0, 0), (11, .bipush (-20), 13, 0, 0, 0), (13, .bipush 20, 15, 0, 0, 0), (15, .invokestatic 73, 18, 102, 3, 721), (18, .ifCond .ne 5, 21, 23, 0, 0), (21, .iconst (-1), 22, 0, 0, 0), (22, .ireturn, 23, 0, 0, 0), (23, .aload_n 0, 24, 0, 0, 0), (24, .iload_n 1, 25, 0, 0, 0), (25, .invokevirtual 152, 28, 125, 1, 810), (28, .istore 4, 30, 0, 0, 0), (30, .iload 4, 32, 0, 0, 0), (32, .ifCond .ge 6, 35, 38, 0, 0), (35, .iload 4, 37, 0, 0, 0), (37, .ireturn, 38, 0, 0, 0), (38, .aload_n 0, 39, 0, 0, 0), (39, .iload_n 2, 40, 0, 0, 0), (40, .iload_n 3, 41, 0, 0, 0), (41, .invokevirtual 194, 44, 149, 2, 908), (44, .lstore 5, 46, 0, 0, 0), (46, .lconst 0, 47, 0, 0, 0), (47, .lstore 7, 49, 0, 0, 0), (49, .iconst 0, 50, 0, 0, 0), (50, .istore 9, 52, 0, 0, 0), (52, .iload 9, 54, 0, 0, 0), (54, .bipush 61, 56, 0, 0, 0), (56, .if_icmp .ge 28, 59, 84, 0, 0), (59, .lload 7, 61, 0, 0, 0), (61, .aload_n 0, 62, 0, 0, 0), (62, .getfield 61, 65, 7, 27, 656), (65, .iload 9, 67, 0, 0, 0), (67, .laload, 68, 0, 0, 0), (68, .iload 9, 70, 0, 0, 0), (70, .bipush 30, 72, 0, 0, 0), (72, .isub, 73, 0, 0, 0), (73, .i2l, 74, 0, 0, 0), (74, .lmul, 75, 0, 0, 0), (75, .ladd, 76, 0, 0, 0), (76, .lstore 7, 78, 0, 0, 0), (78, .iinc 9 1, 81, 0, 0, 0), (81, .goto (-29), 84, 52, 0, 0), (84, .aload_n 0, 85, 0, 0, 0), (85, .lload 7, 87, 0, 0, 0), (87, .lload 5, 89, 0, 0, 0), (89, .iconst 1, 90, 0, 0, 0), (90, .invokevirtual 155, 93, 131, 3, 836), (93, .ireturn, 94, 0, 0, 0)])
def tM_ends_c0 : List am_E := [(0, .aload_n 0, 1, 0, 0, 0), (1, .iload_n 1, 2, 0, 0, 0), (2, .invokevirtual 92, 5, 110, 1, 751), (5, .ifCond .eq 48, 8, 53, 0, 0), (8, .iload_n 2, 9, 0, 0, 0), (9, .bipush (-20), 11, 0, 0, 0), (11, .bipush 20, 13, 0, 0, 0), (13, .invokestatic 73, 16, 102, 3, 721), (16, .ifCond .eq 37, 19, 53, 0, 0), (19, .iload_n 3, 20, 0, 0, 0), (20, .iload_n 2, 21, 0, 0, 0), (21, .iconst 1, 22, 0, 0, 0), (22, .iadd, 23, 0, 0, 0), (23, .bipush 20, 25, 0, 0, 0), (25, .invokestatic 73, 28, 102, 3, 721), (28, .ifCond .eq 25, 31, 53, 0, 0), (31, .iload 4, 33, 0, 0, 0), (33, .iload_n 3, 34, 0, 0, 0), (34, .iconst 1, 35, 0, 0, 0), (35, .iadd, 36, 0, 0, 0), (36, .bipush 20, 38, 0, 0, 0), (38, .invokestatic 73, 41, 102, 3, 721), (41, .ifCond .eq 12, 44, 53, 0, 0), (44, .iload 4, 46, 0, 0, 0), (46, .iload_n 2, 47, 0, 0, 0), (47, .isub, 48, 0, 0, 0), (48, .bipush 9, 50, 0, 0, 0), (50, .if_icmp .le 5, 53, 55, 0, 0), (53, .iconst (-1), 54, 0, 0, 0), (54, .ireturn, 55, 0, 0, 0), (55, .aload_n 0, 56, 0, 0, 0), (56, .getfield 21, 59, 7, 6, 635), (59, .iload_n 1, 60, 0, 0, 0), (60, .iaload, 61, 0, 0, 0), (61, .iconst 1, 62, 0, 0, 0), (62, .if_icmp .eq 19, 65, 81, 0, 0), (65, .aload_n 0, 66, 0, 0, 0), (66, .getfield 21, 69, 7, 6, 635), (69, .iload_n 1, 70, 0, 0, 0), (70, .iaload, 71, 0, 0, 0), (71, .iconst 3, 72, 0, 0, 0), (72, .if_icmp .eq 9, 75, 81, 0, 0), (75, .aload_n 0, 76, 0, 0, 0), (76, .iconst 3, 77, 0, 0, 0), (77, .invokevirtual 99, 80, 114, 1, 767), (80, .ireturn, 81, 0, 0, 0), (81, .lconst 0, 82, 0, 0, 0), (82, .lstore 5, 84, 0, 0, 0), (84, .lconst 0, 85, 0, 0, 0), (85, .lstore 7, 87, 0, 0, 0), (87, .iload_n 2, 88, 0, 0, 0), (88, .istore 9, 90, 0, 0, 0), (90, .iload 9, 92, 0, 0, 0), (92, .iload 4, 94, 0, 0, 0), (94, .if_icmp .ge 95, 97, 189, 0, 0), (97, .lconst 1, 98, 0, 0, 0), (98, .lstore 10, 100, 0, 0, 0), (100, .iload_n 2, 101, 0, 0, 0), (101, .iconst 1, 102, 0, 0, 0), (102, .iadd, 103, 0, 0, 0)]
def tM_ends_c1 : List am_E := [(103, .istore 12, 105, 0, 0, 0), (105, .iload 12, 107, 0, 0, 0), (107, .iload 4, 109, 0, 0, 0), (109, .if_icmp .ge 50, 112, 159, 0, 0), (112, .aload_n 0, 113, 0, 0, 0), (113, .getfield 24, 116, 7, 7, 636), (116, .iconst 4, 117, 0, 0, 0), (117, .iload_n 1, 118, 0, 0, 0), (118, .imul, 119, 0, 0, 0), (119, .aload_n 0, 120, 0, 0, 0), (120, .iload 12, 122, 0, 0, 0), (122, .invokevirtual 191, 125, 150, 1, 912), (125, .iadd, 126, 0, 0, 0), (126, .iaload, 127, 0, 0, 0), (127, .istore 13, 129, 0, 0, 0), (129, .lload 10, 131, 0, 0, 0), (131, .iload 12, 133, 0, 0, 0), (133, .iload 9, 135, 0, 0, 0), (135, .if_icmp .gt 12, 138, 147, 0, 0), (138, .bipush 12, 140, 0, 0, 0), (140, .iload 13, 142, 0, 0, 0), (142, .isub, 143, 0, 0, 0), (143, .i2l, 144, 0, 0, 0), (144, .goto 6, 147, 150, 0, 0), (147, .iload 13, 149, 0, 0, 0), (149, .i2l, 150, 0, 0, 0), (150, .lmul, 151, 0, 0, 0), (151, .lstore 10, 153, 0, 0, 0), (153, .iinc 12 1, 156, 0, 0, 0), (156, .goto (-51), 159, 105, 0, 0), (159, .lload 7, 161, 0, 0, 0), (161, .lload 10, 163, 0, 0, 0), (163, .ladd, 164, 0, 0, 0), (164, .lstore 7, 166, 0, 0, 0), (166, .lload 5, 168, 0, 0, 0), (168, .iload 9, 170, 0, 0, 0), (170, .iload_n 3, 171, 0, 0, 0), (171, .if_icmp .ge 8, 174, 179, 0, 0), (174, .lload 10, 176, 0, 0, 0), (176, .goto 4, 179, 180, 0, 0), (179, .lconst 0, 180, 0, 0, 0), (180, .ladd, 181, 0, 0, 0), (181, .lstore 5, 183, 0, 0, 0), (183, .iinc 9 1, 186, 0, 0, 0), (186, .goto (-96), 189, 90, 0, 0), (189, .lload 7, 191, 0, 0, 0), (191, .lconst 0, 192, 0, 0, 0), (192, .lcmp, 193, 0, 0, 0), (193, .ifCond .ne 8, 196, 201, 0, 0), (196, .bipush (-4), 198, 0, 0, 0), (198, .goto 12, 201, 210, 0, 0), (201, .aload_n 0, 202, 0, 0, 0), (202, .lload 5, 204, 0, 0, 0), (204, .lload 7, 206, 0, 0, 0), (206, .iconst 1, 207, 0, 0, 0), (207, .invokevirtual 155, 210, 131, 3, 836), (210, .ireturn, 211, 0, 0, 0)]
def tM_ends : am_T := (⟨"TwoGamesModel", "ends", "(IIII)I"⟩, prog_9_method_54_code, 14, (some .int), 17, tM_ends_c0 ++ (tM_ends_c1))
def tM_run_c0 : List am_E := [(0, .aload_n 0, 1, 0, 0, 0), (1, .iload_n 1, 2, 0, 0, 0), (2, .invokevirtual 92, 5, 110, 1, 751), (5, .ifCond .eq 36, 8, 41, 0, 0), (8, .iload_n 2, 9, 0, 0, 0), (9, .iconst 0, 10, 0, 0, 0), (10, .iconst 3, 11, 0, 0, 0), (11, .invokestatic 73, 14, 102, 3, 721), (14, .ifCond .eq 27, 17, 41, 0, 0), (17, .iload_n 3, 18, 0, 0, 0), (18, .iconst 1, 19, 0, 0, 0), (19, .bipush 12, 21, 0, 0, 0), (21, .invokestatic 73, 24, 102, 3, 721), (24, .ifCond .eq 17, 27, 41, 0, 0), (27, .iload 4, 29, 0, 0, 0), (29, .iconst 0, 30, 0, 0, 0), (30, .iconst 1, 31, 0, 0, 0), (31, .iload_n 3, 32, 0, 0, 0), (32, .ishl, 33, 0, 0, 0), (33, .iconst 1, 34, 0, 0, 0), (34, .isub, 35, 0, 0, 0), (35, .invokestatic 73, 38, 102, 3, 721), (38, .ifCond .ne 5, 41, 43, 0, 0), (41, .iconst (-1), 42, 0, 0, 0), (42, .ireturn, 43, 0, 0, 0), (43, .aload_n 0, 44, 0, 0, 0), (44, .getfield 21, 47, 7, 6, 635), (47, .iload_n 1, 48, 0, 0, 0), (48, .iaload, 49, 0, 0, 0), (49, .iconst 2, 50, 0, 0, 0), (50, .if_icmp .eq 9, 53, 59, 0, 0), (53, .aload_n 0, 54, 0, 0, 0), (54, .iconst 3, 55, 0, 0, 0), (55, .invokevirtual 99, 58, 114, 1, 767), (58, .ireturn, 59, 0, 0, 0), (59, .lconst 1, 60, 0, 0, 0), (60, .lstore 5, 62, 0, 0, 0), (62, .lconst 1, 63, 0, 0, 0), (63, .lstore 7, 65, 0, 0, 0), (65, .iload_n 2, 66, 0, 0, 0), (66, .istore 9, 68, 0, 0, 0), (68, .iconst 0, 69, 0, 0, 0), (69, .istore 10, 71, 0, 0, 0), (71, .iload 10, 73, 0, 0, 0), (73, .iload_n 3, 74, 0, 0, 0), (74, .if_icmp .ge 73, 77, 147, 0, 0), (77, .iload 4, 79, 0, 0, 0), (79, .iload 10, 81, 0, 0, 0), (81, .ishr, 82, 0, 0, 0), (82, .iconst 1, 83, 0, 0, 0), (83, .iand, 84, 0, 0, 0), (84, .istore 11, 86, 0, 0, 0), (86, .aload_n 0, 87, 0, 0, 0), (87, .getfield 24, 90, 7, 7, 636), (90, .iconst 4, 91, 0, 0, 0), (91, .iload_n 1, 92, 0, 0, 0), (92, .imul, 93, 0, 0, 0), (93, .iload 9, 95, 0, 0, 0), (95, .iadd, 96, 0, 0, 0), (96, .iaload, 97, 0, 0, 0)]
def tM_run_c1 : List am_E := [(97, .istore 12, 99, 0, 0, 0), (99, .lload 5, 101, 0, 0, 0), (101, .iload 11, 103, 0, 0, 0), (103, .iconst 1, 104, 0, 0, 0), (104, .if_icmp .ne 9, 107, 113, 0, 0), (107, .iload 12, 109, 0, 0, 0), (109, .i2l, 110, 0, 0, 0), (110, .goto 9, 113, 119, 0, 0), (113, .bipush 12, 115, 0, 0, 0), (115, .iload 12, 117, 0, 0, 0), (117, .isub, 118, 0, 0, 0), (118, .i2l, 119, 0, 0, 0), (119, .lmul, 120, 0, 0, 0), (120, .lstore 5, 122, 0, 0, 0), (122, .lload 7, 124, 0, 0, 0), (124, .ldc2_w 146, 127, 12, 0, 818), (127, .lmul, 128, 0, 0, 0), (128, .lstore 7, 130, 0, 0, 0), (130, .iconst 2, 131, 0, 0, 0), (131, .iload 9, 133, 0, 0, 0), (133, .imul, 134, 0, 0, 0), (134, .iload 11, 136, 0, 0, 0), (136, .iadd, 137, 0, 0, 0), (137, .iconst 3, 138, 0, 0, 0), (138, .iand, 139, 0, 0, 0), (139, .istore 9, 141, 0, 0, 0), (141, .iinc 10 1, 144, 0, 0, 0), (144, .goto (-73), 147, 71, 0, 0), (147, .aload_n 0, 148, 0, 0, 0), (148, .lload 5, 150, 0, 0, 0), (150, .lload 7, 152, 0, 0, 0), (152, .iconst 1, 153, 0, 0, 0), (153, .invokevirtual 155, 156, 131, 3, 836), (156, .ireturn, 157, 0, 0, 0)]
def tM_run : am_T := (⟨"TwoGamesModel", "run", "(IIII)I"⟩, prog_9_method_55_code, 13, (some .int), 17, tM_run_c0 ++ (tM_run_c1))
def tM_upper : am_T := (⟨"TwoGamesModel", "upper", "()J"⟩, prog_9_method_56_code, 1, (some .long), 17, [(0, .aload_n 0, 1, 0, 0, 0), (1, .getfield 70, 4, 7, 2, 631), (4, .lreturn, 5, 0, 0, 0)])
def tM_lower : am_T := (⟨"TwoGamesModel", "lower", "()J"⟩, prog_9_method_57_code, 1, (some .long), 17, [(0, .aload_n 0, 1, 0, 0, 0), (1, .getfield 13, 4, 7, 3, 632), (4, .lreturn, 5, 0, 0, 0)])
def tM_count_c0 : List am_E := [(0, .iconst 0, 1, 0, 0, 0), (1, .istore_n 2, 2, 0, 0, 0), (2, .iconst 0, 3, 0, 0, 0), (3, .istore_n 3, 4, 0, 0, 0), (4, .iload_n 3, 5, 0, 0, 0), (5, .aload_n 0, 6, 0, 0, 0), (6, .getfield 77, 9, 7, 5, 634), (9, .if_icmp .ge 32, 12, 41, 0, 0), (12, .iload_n 1, 13, 0, 0, 0), (13, .iconst 1, 14, 0, 0, 0), (14, .if_icmp .ne 27, 17, 41, 0, 0), (17, .iload_n 2, 18, 0, 0, 0), (18, .aload_n 0, 19, 0, 0, 0), (19, .getfield 21, 22, 7, 6, 635), (22, .iload_n 3, 23, 0, 0, 0), (23, .iaload, 24, 0, 0, 0), (24, .iconst 2, 25, 0, 0, 0), (25, .if_icmp .ne 7, 28, 32, 0, 0), (28, .iconst 1, 29, 0, 0, 0), (29, .goto 4, 32, 33, 0, 0), (32, .iconst 0, 33, 0, 0, 0), (33, .iadd, 34, 0, 0, 0), (34, .istore_n 2, 35, 0, 0, 0), (35, .iinc 3 1, 38, 0, 0, 0), (38, .goto (-34), 41, 4, 0, 0), (41, .iconst 0, 42, 0, 0, 0), (42, .istore_n 3, 43, 0, 0, 0), (43, .iload_n 3, 44, 0, 0, 0), (44, .iconst 4, 45, 0, 0, 0), (45, .if_icmp .ge 31, 48, 76, 0, 0), (48, .iload_n 1, 49, 0, 0, 0), (49, .iconst 2, 50, 0, 0, 0), (50, .if_icmp .ne 26, 53, 76, 0, 0), (53, .iload_n 2, 54, 0, 0, 0), (54, .aload_n 0, 55, 0, 0, 0), (55, .getfield 27, 58, 7, 8, 637), (58, .iload_n 3, 59, 0, 0, 0), (59, .iaload, 60, 0, 0, 0), (60, .ifCond .lt 7, 63, 67, 0, 0), (63, .iconst 1, 64, 0, 0, 0), (64, .goto 4, 67, 68, 0, 0), (67, .iconst 0, 68, 0, 0, 0), (68, .iadd, 69, 0, 0, 0), (69, .istore_n 2, 70, 0, 0, 0), (70, .iinc 3 1, 73, 0, 0, 0), (73, .goto (-30), 76, 43, 0, 0), (76, .iload_n 1, 77, 0, 0, 0), (77, .ifCond .ne 10, 80, 87, 0, 0), (80, .aload_n 0, 81, 0, 0, 0), (81, .getfield 77, 84, 7, 5, 634), (84, .goto 29, 87, 113, 0, 0), (87, .iload_n 1, 88, 0, 0, 0), (88, .iconst 3, 89, 0, 0, 0), (89, .if_icmp .ne 10, 92, 99, 0, 0), (92, .aload_n 0, 93, 0, 0, 0), (93, .getfield 17, 96, 7, 4, 633), (96, .goto 17, 99, 113, 0, 0), (99, .iload_n 1, 100, 0, 0, 0), (100, .iconst 1, 101, 0, 0, 0), (101, .iconst 2, 102, 0, 0, 0)]
def tM_count_c1 : List am_E := [(102, .invokestatic 73, 105, 102, 3, 721), (105, .ifCond .eq 7, 108, 112, 0, 0), (108, .iload_n 2, 109, 0, 0, 0), (109, .goto 4, 112, 113, 0, 0), (112, .iconst (-1), 113, 0, 0, 0), (113, .ireturn, 114, 0, 0, 0)]
def tM_count : am_T := (⟨"TwoGamesModel", "count", "(I)I"⟩, prog_9_method_58_code, 4, (some .int), 17, tM_count_c0 ++ (tM_count_c1))
def tM_finding : am_T := (⟨"TwoGamesModel", "finding", "()I"⟩, prog_9_method_59_code, 1, (some .int), 17, [(0, .aload_n 0, 1, 0, 0, 0), (1, .getfield 67, 4, 7, 0, 629), (4, .ireturn, 5, 0, 0, 0)])
def tM_findings : am_T := (⟨"TwoGamesModel", "findings", "(I)I"⟩, prog_9_method_60_code, 2, (some .int), 17, [(0, .iload_n 1, 1, 0, 0, 0), (1, .iconst 1, 2, 0, 0, 0), (2, .iconst 5, 3, 0, 0, 0), (3, .invokestatic 73, 6, 102, 3, 721), (6, .ifCond .eq 12, 9, 18, 0, 0), (9, .aload_n 0, 10, 0, 0, 0), (10, .getfield 7, 13, 7, 1, 630), (13, .iload_n 1, 14, 0, 0, 0), (14, .iaload, 15, 0, 0, 0), (15, .goto 4, 18, 19, 0, 0), (18, .iconst (-1), 19, 0, 0, 0), (19, .ireturn, 20, 0, 0, 0)])
def tM_digest_c0 : List am_E := [(0, .ldc2_w 197, 3, 527, 0, 952), (3, .aload_n 0, 4, 0, 0, 0), (4, .getfield 17, 7, 7, 4, 633), (7, .i2l, 8, 0, 0, 0), (8, .ladd, 9, 0, 0, 0), (9, .lstore_n 1, 10, 0, 0, 0), (10, .iconst 0, 11, 0, 0, 0), (11, .istore_n 3, 12, 0, 0, 0), (12, .iload_n 3, 13, 0, 0, 0), (13, .aload_n 0, 14, 0, 0, 0), (14, .getfield 77, 17, 7, 5, 634), (17, .if_icmp .ge 77, 20, 94, 0, 0), (20, .iconst 0, 21, 0, 0, 0), (21, .istore 4, 23, 0, 0, 0), (23, .iload 4, 25, 0, 0, 0), (25, .iconst 3, 26, 0, 0, 0), (26, .if_icmp .gt 24, 29, 50, 0, 0), (29, .ldc2_w 199, 32, 31, 0, 953), (32, .lload_n 1, 33, 0, 0, 0), (33, .lmul, 34, 0, 0, 0), (34, .aload_n 0, 35, 0, 0, 0), (35, .iload_n 3, 36, 0, 0, 0), (36, .iload 4, 38, 0, 0, 0), (38, .invokevirtual 95, 41, 111, 2, 755), (41, .i2l, 42, 0, 0, 0), (42, .ladd, 43, 0, 0, 0), (43, .lstore_n 1, 44, 0, 0, 0), (44, .iinc 4 1, 47, 0, 0, 0), (47, .goto (-24), 50, 23, 0, 0), (50, .iconst 0, 51, 0, 0, 0), (51, .istore 4, 53, 0, 0, 0), (53, .iload 4, 55, 0, 0, 0), (55, .aload_n 0, 56, 0, 0, 0), (56, .iload_n 3, 57, 0, 0, 0), (57, .invokevirtual 88, 60, 112, 1, 759), (60, .if_icmp .ge 28, 63, 88, 0, 0), (63, .ldc2_w 199, 66, 31, 0, 953), (66, .lload_n 1, 67, 0, 0, 0), (67, .lmul, 68, 0, 0, 0), (68, .aload_n 0, 69, 0, 0, 0), (69, .getfield 24, 72, 7, 7, 636), (72, .iconst 4, 73, 0, 0, 0), (73, .iload_n 3, 74, 0, 0, 0), (74, .imul, 75, 0, 0, 0), (75, .iload 4, 77, 0, 0, 0), (77, .iadd, 78, 0, 0, 0), (78, .iaload, 79, 0, 0, 0), (79, .i2l, 80, 0, 0, 0), (80, .ladd, 81, 0, 0, 0), (81, .lstore_n 1, 82, 0, 0, 0), (82, .iinc 4 1, 85, 0, 0, 0), (85, .goto (-32), 88, 53, 0, 0), (88, .iinc 3 1, 91, 0, 0, 0), (91, .goto (-79), 94, 12, 0, 0), (94, .iconst 0, 95, 0, 0, 0), (95, .istore_n 3, 96, 0, 0, 0), (96, .iload_n 3, 97, 0, 0, 0), (97, .iconst 4, 98, 0, 0, 0), (98, .if_icmp .ge 75, 101, 173, 0, 0), (101, .ldc2_w 199, 104, 31, 0, 953)]
def tM_digest_c1 : List am_E := [(104, .lload_n 1, 105, 0, 0, 0), (105, .lmul, 106, 0, 0, 0), (106, .aload_n 0, 107, 0, 0, 0), (107, .getfield 27, 110, 7, 8, 637), (110, .iload_n 3, 111, 0, 0, 0), (111, .iaload, 112, 0, 0, 0), (112, .ifCond .ge 7, 115, 119, 0, 0), (115, .iconst (-1), 116, 0, 0, 0), (116, .goto 9, 119, 125, 0, 0), (119, .aload_n 0, 120, 0, 0, 0), (120, .getfield 27, 123, 7, 8, 637), (123, .iload_n 3, 124, 0, 0, 0), (124, .iaload, 125, 0, 0, 0), (125, .i2l, 126, 0, 0, 0), (126, .ladd, 127, 0, 0, 0), (127, .lstore_n 1, 128, 0, 0, 0), (128, .iconst 0, 129, 0, 0, 0), (129, .istore 4, 131, 0, 0, 0), (131, .iload 4, 133, 0, 0, 0), (133, .aload_n 0, 134, 0, 0, 0), (134, .getfield 27, 137, 7, 8, 637), (137, .iload_n 3, 138, 0, 0, 0), (138, .iaload, 139, 0, 0, 0), (139, .if_icmp .ge 28, 142, 167, 0, 0), (142, .ldc2_w 199, 145, 31, 0, 953), (145, .lload_n 1, 146, 0, 0, 0), (146, .lmul, 147, 0, 0, 0), (147, .aload_n 0, 148, 0, 0, 0), (148, .getfield 30, 151, 7, 9, 638), (151, .iconst 4, 152, 0, 0, 0), (152, .iload_n 3, 153, 0, 0, 0), (153, .imul, 154, 0, 0, 0), (154, .iload 4, 156, 0, 0, 0), (156, .iadd, 157, 0, 0, 0), (157, .iaload, 158, 0, 0, 0), (158, .i2l, 159, 0, 0, 0), (159, .ladd, 160, 0, 0, 0), (160, .lstore_n 1, 161, 0, 0, 0), (161, .iinc 4 1, 164, 0, 0, 0), (164, .goto (-33), 167, 131, 0, 0), (167, .iinc 3 1, 170, 0, 0, 0), (170, .goto (-74), 173, 96, 0, 0), (173, .lload_n 1, 174, 0, 0, 0), (174, .lreturn, 175, 0, 0, 0)]
def tM_digest : am_T := (⟨"TwoGamesModel", "digest", "()J"⟩, prog_9_method_61_code, 5, (some .long), 17, tM_digest_c0 ++ (tM_digest_c1))
def tL_law_c0 : List am_E := [(0, .new 7, 3, 16, 0, 58), (3, .dup, 4, 0, 0, 0), (4, .invokespecial 9, 7, 0, 0, 60), (7, .astore_n 1, 8, 0, 0, 0), (8, .new 10, 11, 17, 0, 623), (11, .dup, 12, 0, 0, 0), (12, .invokespecial 12, 15, 100, 0, 625), (15, .astore_n 2, 16, 0, 0, 0), (16, .iconst 0, 17, 0, 0, 0), (17, .istore_n 3, 18, 0, 0, 0), (18, .iload_n 3, 19, 0, 0, 0), (19, .aload_n 0, 20, 0, 0, 0), (20, .arraylength, 21, 0, 0, 0), (21, .bipush 6, 23, 0, 0, 0), (23, .isub, 24, 0, 0, 0), (24, .if_icmp .gt 1204, 27, 1228, 0, 0), (27, .aload_n 0, 28, 0, 0, 0), (28, .iload_n 3, 29, 0, 0, 0), (29, .iaload, 30, 0, 0, 0), (30, .bipush 63, 32, 0, 0, 0), (32, .iand, 33, 0, 0, 0), (33, .tableswitch 1189 0 32 #[147, 170, 183, 226, 279, 302, 335, 368, 401, 444, 467, 500, 543, 566, 629, 672, 705, 728, 771, 804, 837, 850, 873, 886, 939, 982, 1035, 1088, 1102, 1116, 1139, 1152, 1175], 180, 0, 0, 0), (180, .aload_n 1, 181, 0, 0, 0), (181, .aload_n 0, 182, 0, 0, 0), (182, .iload_n 3, 183, 0, 0, 0), (183, .iconst 1, 184, 0, 0, 0), (184, .iadd, 185, 0, 0, 0), (185, .iaload, 186, 0, 0, 0), (186, .invokevirtual 13, 189, 7, 1, 231), (189, .aload_n 2, 190, 0, 0, 0), (190, .aload_n 0, 191, 0, 0, 0), (191, .iload_n 3, 192, 0, 0, 0), (192, .iconst 1, 193, 0, 0, 0), (193, .iadd, 194, 0, 0, 0), (194, .iaload, 195, 0, 0, 0), (195, .invokevirtual 17, 198, 101, 1, 717), (198, .if_icmp .eq 1024, 201, 1222, 0, 0), (201, .iconst 0, 202, 0, 0, 0), (202, .ireturn, 203, 0, 0, 0), (203, .aload_n 1, 204, 0, 0, 0), (204, .invokevirtual 18, 207, 8, 0, 235), (207, .aload_n 2, 208, 0, 0, 0), (208, .invokevirtual 22, 211, 103, 0, 724), (211, .if_icmp .eq 1011, 214, 1222, 0, 0), (214, .iconst 0, 215, 0, 0, 0), (215, .ireturn, 216, 0, 0, 0), (216, .aload_n 1, 217, 0, 0, 0), (217, .aload_n 0, 218, 0, 0, 0), (218, .iload_n 3, 219, 0, 0, 0), (219, .iconst 1, 220, 0, 0, 0), (220, .iadd, 221, 0, 0, 0), (221, .iaload, 222, 0, 0, 0), (222, .aload_n 0, 223, 0, 0, 0), (223, .iload_n 3, 224, 0, 0, 0), (224, .iconst 2, 225, 0, 0, 0), (225, .iadd, 226, 0, 0, 0), (226, .iaload, 227, 0, 0, 0), (227, .aload_n 0, 228, 0, 0, 0), (228, .iload_n 3, 229, 0, 0, 0), (229, .iconst 3, 230, 0, 0, 0)]
def tL_law_c1 : List am_E := [(230, .iadd, 231, 0, 0, 0), (231, .iaload, 232, 0, 0, 0), (232, .invokevirtual 23, 235, 11, 3, 261), (235, .aload_n 2, 236, 0, 0, 0), (236, .aload_n 0, 237, 0, 0, 0), (237, .iload_n 3, 238, 0, 0, 0), (238, .iconst 1, 239, 0, 0, 0), (239, .iadd, 240, 0, 0, 0), (240, .iaload, 241, 0, 0, 0), (241, .aload_n 0, 242, 0, 0, 0), (242, .iload_n 3, 243, 0, 0, 0), (243, .iconst 2, 244, 0, 0, 0), (244, .iadd, 245, 0, 0, 0), (245, .iaload, 246, 0, 0, 0), (246, .aload_n 0, 247, 0, 0, 0), (247, .iload_n 3, 248, 0, 0, 0), (248, .iconst 3, 249, 0, 0, 0), (249, .iadd, 250, 0, 0, 0), (250, .iaload, 251, 0, 0, 0), (251, .invokevirtual 27, 254, 105, 3, 732), (254, .if_icmp .eq 968, 257, 1222, 0, 0), (257, .iconst 0, 258, 0, 0, 0), (258, .ireturn, 259, 0, 0, 0), (259, .aload_n 1, 260, 0, 0, 0), (260, .aload_n 0, 261, 0, 0, 0), (261, .iload_n 3, 262, 0, 0, 0), (262, .iconst 1, 263, 0, 0, 0), (263, .iadd, 264, 0, 0, 0), (264, .iaload, 265, 0, 0, 0), (265, .aload_n 0, 266, 0, 0, 0), (266, .iload_n 3, 267, 0, 0, 0), (267, .iconst 2, 268, 0, 0, 0), (268, .iadd, 269, 0, 0, 0), (269, .iaload, 270, 0, 0, 0), (270, .aload_n 0, 271, 0, 0, 0), (271, .iload_n 3, 272, 0, 0, 0), (272, .iconst 3, 273, 0, 0, 0), (273, .iadd, 274, 0, 0, 0), (274, .iaload, 275, 0, 0, 0), (275, .aload_n 0, 276, 0, 0, 0), (276, .iload_n 3, 277, 0, 0, 0), (277, .iconst 4, 278, 0, 0, 0), (278, .iadd, 279, 0, 0, 0), (279, .iaload, 280, 0, 0, 0), (280, .invokevirtual 28, 283, 13, 4, 268), (283, .aload_n 2, 284, 0, 0, 0), (284, .aload_n 0, 285, 0, 0, 0), (285, .iload_n 3, 286, 0, 0, 0), (286, .iconst 1, 287, 0, 0, 0), (287, .iadd, 288, 0, 0, 0), (288, .iaload, 289, 0, 0, 0), (289, .aload_n 0, 290, 0, 0, 0), (290, .iload_n 3, 291, 0, 0, 0), (291, .iconst 2, 292, 0, 0, 0), (292, .iadd, 293, 0, 0, 0), (293, .iaload, 294, 0, 0, 0), (294, .aload_n 0, 295, 0, 0, 0), (295, .iload_n 3, 296, 0, 0, 0), (296, .iconst 3, 297, 0, 0, 0), (297, .iadd, 298, 0, 0, 0)]
def tL_law_c2 : List am_E := [(298, .iaload, 299, 0, 0, 0), (299, .aload_n 0, 300, 0, 0, 0), (300, .iload_n 3, 301, 0, 0, 0), (301, .iconst 4, 302, 0, 0, 0), (302, .iadd, 303, 0, 0, 0), (303, .iaload, 304, 0, 0, 0), (304, .invokevirtual 32, 307, 107, 4, 739), (307, .if_icmp .eq 915, 310, 1222, 0, 0), (310, .iconst 0, 311, 0, 0, 0), (311, .ireturn, 312, 0, 0, 0), (312, .aload_n 1, 313, 0, 0, 0), (313, .aload_n 0, 314, 0, 0, 0), (314, .iload_n 3, 315, 0, 0, 0), (315, .iconst 1, 316, 0, 0, 0), (316, .iadd, 317, 0, 0, 0), (317, .iaload, 318, 0, 0, 0), (318, .invokevirtual 33, 321, 14, 1, 272), (321, .aload_n 2, 322, 0, 0, 0), (322, .aload_n 0, 323, 0, 0, 0), (323, .iload_n 3, 324, 0, 0, 0), (324, .iconst 1, 325, 0, 0, 0), (325, .iadd, 326, 0, 0, 0), (326, .iaload, 327, 0, 0, 0), (327, .invokevirtual 36, 330, 108, 1, 743), (330, .if_icmp .eq 892, 333, 1222, 0, 0), (333, .iconst 0, 334, 0, 0, 0), (334, .ireturn, 335, 0, 0, 0), (335, .aload_n 1, 336, 0, 0, 0), (336, .aload_n 0, 337, 0, 0, 0), (337, .iload_n 3, 338, 0, 0, 0), (338, .iconst 1, 339, 0, 0, 0), (339, .iadd, 340, 0, 0, 0), (340, .iaload, 341, 0, 0, 0), (341, .aload_n 0, 342, 0, 0, 0), (342, .iload_n 3, 343, 0, 0, 0), (343, .iconst 2, 344, 0, 0, 0), (344, .iadd, 345, 0, 0, 0), (345, .iaload, 346, 0, 0, 0), (346, .invokevirtual 37, 349, 15, 2, 276), (349, .aload_n 2, 350, 0, 0, 0), (350, .aload_n 0, 351, 0, 0, 0), (351, .iload_n 3, 352, 0, 0, 0), (352, .iconst 1, 353, 0, 0, 0), (353, .iadd, 354, 0, 0, 0), (354, .iaload, 355, 0, 0, 0), (355, .aload_n 0, 356, 0, 0, 0), (356, .iload_n 3, 357, 0, 0, 0), (357, .iconst 2, 358, 0, 0, 0), (358, .iadd, 359, 0, 0, 0), (359, .iaload, 360, 0, 0, 0), (360, .invokevirtual 41, 363, 109, 2, 747), (363, .if_icmp .eq 859, 366, 1222, 0, 0), (366, .iconst 0, 367, 0, 0, 0), (367, .ireturn, 368, 0, 0, 0), (368, .aload_n 1, 369, 0, 0, 0), (369, .aload_n 0, 370, 0, 0, 0), (370, .iload_n 3, 371, 0, 0, 0), (371, .iconst 1, 372, 0, 0, 0), (372, .iadd, 373, 0, 0, 0), (373, .iaload, 374, 0, 0, 0)]
def tL_law_c3 : List am_E := [(374, .aload_n 0, 375, 0, 0, 0), (375, .iload_n 3, 376, 0, 0, 0), (376, .iconst 2, 377, 0, 0, 0), (377, .iadd, 378, 0, 0, 0), (378, .iaload, 379, 0, 0, 0), (379, .invokevirtual 42, 382, 21, 2, 298), (382, .aload_n 2, 383, 0, 0, 0), (383, .aload_n 0, 384, 0, 0, 0), (384, .iload_n 3, 385, 0, 0, 0), (385, .iconst 1, 386, 0, 0, 0), (386, .iadd, 387, 0, 0, 0), (387, .iaload, 388, 0, 0, 0), (388, .aload_n 0, 389, 0, 0, 0), (389, .iload_n 3, 390, 0, 0, 0), (390, .iconst 2, 391, 0, 0, 0), (391, .iadd, 392, 0, 0, 0), (392, .iaload, 393, 0, 0, 0), (393, .invokevirtual 45, 396, 113, 2, 763), (396, .if_icmp .eq 826, 399, 1222, 0, 0), (399, .iconst 0, 400, 0, 0, 0), (400, .ireturn, 401, 0, 0, 0), (401, .aload_n 1, 402, 0, 0, 0), (402, .aload_n 0, 403, 0, 0, 0), (403, .iload_n 3, 404, 0, 0, 0), (404, .iconst 1, 405, 0, 0, 0), (405, .iadd, 406, 0, 0, 0), (406, .iaload, 407, 0, 0, 0), (407, .aload_n 0, 408, 0, 0, 0), (408, .iload_n 3, 409, 0, 0, 0), (409, .iconst 2, 410, 0, 0, 0), (410, .iadd, 411, 0, 0, 0), (411, .iaload, 412, 0, 0, 0), (412, .invokevirtual 46, 415, 24, 2, 310), (415, .aload_n 2, 416, 0, 0, 0), (416, .aload_n 0, 417, 0, 0, 0), (417, .iload_n 3, 418, 0, 0, 0), (418, .iconst 1, 419, 0, 0, 0), (419, .iadd, 420, 0, 0, 0), (420, .iaload, 421, 0, 0, 0), (421, .aload_n 0, 422, 0, 0, 0), (422, .iload_n 3, 423, 0, 0, 0), (423, .iconst 2, 424, 0, 0, 0), (424, .iadd, 425, 0, 0, 0), (425, .iaload, 426, 0, 0, 0), (426, .invokevirtual 49, 429, 115, 2, 771), (429, .if_icmp .eq 793, 432, 1222, 0, 0), (432, .iconst 0, 433, 0, 0, 0), (433, .ireturn, 434, 0, 0, 0), (434, .aload_n 1, 435, 0, 0, 0), (435, .aload_n 0, 436, 0, 0, 0), (436, .iload_n 3, 437, 0, 0, 0), (437, .iconst 1, 438, 0, 0, 0), (438, .iadd, 439, 0, 0, 0), (439, .iaload, 440, 0, 0, 0), (440, .aload_n 0, 441, 0, 0, 0), (441, .iload_n 3, 442, 0, 0, 0), (442, .iconst 2, 443, 0, 0, 0), (443, .iadd, 444, 0, 0, 0), (444, .iaload, 445, 0, 0, 0), (445, .aload_n 0, 446, 0, 0, 0)]
def tL_law_c4 : List am_E := [(446, .iload_n 3, 447, 0, 0, 0), (447, .iconst 3, 448, 0, 0, 0), (448, .iadd, 449, 0, 0, 0), (449, .iaload, 450, 0, 0, 0), (450, .invokevirtual 50, 453, 26, 3, 318), (453, .aload_n 2, 454, 0, 0, 0), (454, .aload_n 0, 455, 0, 0, 0), (455, .iload_n 3, 456, 0, 0, 0), (456, .iconst 1, 457, 0, 0, 0), (457, .iadd, 458, 0, 0, 0), (458, .iaload, 459, 0, 0, 0), (459, .aload_n 0, 460, 0, 0, 0), (460, .iload_n 3, 461, 0, 0, 0), (461, .iconst 2, 462, 0, 0, 0), (462, .iadd, 463, 0, 0, 0), (463, .iaload, 464, 0, 0, 0), (464, .aload_n 0, 465, 0, 0, 0), (465, .iload_n 3, 466, 0, 0, 0), (466, .iconst 3, 467, 0, 0, 0), (467, .iadd, 468, 0, 0, 0), (468, .iaload, 469, 0, 0, 0), (469, .invokevirtual 53, 472, 116, 3, 775), (472, .if_icmp .eq 750, 475, 1222, 0, 0), (475, .iconst 0, 476, 0, 0, 0), (476, .ireturn, 477, 0, 0, 0), (477, .aload_n 1, 478, 0, 0, 0), (478, .aload_n 0, 479, 0, 0, 0), (479, .iload_n 3, 480, 0, 0, 0), (480, .iconst 1, 481, 0, 0, 0), (481, .iadd, 482, 0, 0, 0), (482, .iaload, 483, 0, 0, 0), (483, .invokevirtual 54, 486, 28, 1, 327), (486, .aload_n 2, 487, 0, 0, 0), (487, .aload_n 0, 488, 0, 0, 0), (488, .iload_n 3, 489, 0, 0, 0), (489, .iconst 1, 490, 0, 0, 0), (490, .iadd, 491, 0, 0, 0), (491, .iaload, 492, 0, 0, 0), (492, .invokevirtual 57, 495, 117, 1, 779), (495, .if_icmp .eq 727, 498, 1222, 0, 0), (498, .iconst 0, 499, 0, 0, 0), (499, .ireturn, 500, 0, 0, 0), (500, .aload_n 1, 501, 0, 0, 0), (501, .aload_n 0, 502, 0, 0, 0), (502, .iload_n 3, 503, 0, 0, 0), (503, .iconst 1, 504, 0, 0, 0), (504, .iadd, 505, 0, 0, 0), (505, .iaload, 506, 0, 0, 0), (506, .aload_n 0, 507, 0, 0, 0), (507, .iload_n 3, 508, 0, 0, 0), (508, .iconst 2, 509, 0, 0, 0), (509, .iadd, 510, 0, 0, 0), (510, .iaload, 511, 0, 0, 0), (511, .invokevirtual 58, 514, 30, 2, 335), (514, .aload_n 2, 515, 0, 0, 0), (515, .aload_n 0, 516, 0, 0, 0), (516, .iload_n 3, 517, 0, 0, 0), (517, .iconst 1, 518, 0, 0, 0), (518, .iadd, 519, 0, 0, 0), (519, .iaload, 520, 0, 0, 0)]
def tL_law_c5 : List am_E := [(520, .aload_n 0, 521, 0, 0, 0), (521, .iload_n 3, 522, 0, 0, 0), (522, .iconst 2, 523, 0, 0, 0), (523, .iadd, 524, 0, 0, 0), (524, .iaload, 525, 0, 0, 0), (525, .invokevirtual 61, 528, 118, 2, 783), (528, .if_icmp .eq 694, 531, 1222, 0, 0), (531, .iconst 0, 532, 0, 0, 0), (532, .ireturn, 533, 0, 0, 0), (533, .aload_n 1, 534, 0, 0, 0), (534, .aload_n 0, 535, 0, 0, 0), (535, .iload_n 3, 536, 0, 0, 0), (536, .iconst 1, 537, 0, 0, 0), (537, .iadd, 538, 0, 0, 0), (538, .iaload, 539, 0, 0, 0), (539, .aload_n 0, 540, 0, 0, 0), (540, .iload_n 3, 541, 0, 0, 0), (541, .iconst 2, 542, 0, 0, 0), (542, .iadd, 543, 0, 0, 0), (543, .iaload, 544, 0, 0, 0), (544, .aload_n 0, 545, 0, 0, 0), (545, .iload_n 3, 546, 0, 0, 0), (546, .iconst 3, 547, 0, 0, 0), (547, .iadd, 548, 0, 0, 0), (548, .iaload, 549, 0, 0, 0), (549, .invokevirtual 62, 552, 33, 3, 348), (552, .aload_n 2, 553, 0, 0, 0), (553, .aload_n 0, 554, 0, 0, 0), (554, .iload_n 3, 555, 0, 0, 0), (555, .iconst 1, 556, 0, 0, 0), (556, .iadd, 557, 0, 0, 0), (557, .iaload, 558, 0, 0, 0), (558, .aload_n 0, 559, 0, 0, 0), (559, .iload_n 3, 560, 0, 0, 0), (560, .iconst 2, 561, 0, 0, 0), (561, .iadd, 562, 0, 0, 0), (562, .iaload, 563, 0, 0, 0), (563, .aload_n 0, 564, 0, 0, 0), (564, .iload_n 3, 565, 0, 0, 0), (565, .iconst 3, 566, 0, 0, 0), (566, .iadd, 567, 0, 0, 0), (567, .iaload, 568, 0, 0, 0), (568, .invokevirtual 65, 571, 120, 3, 790), (571, .if_icmp .eq 651, 574, 1222, 0, 0), (574, .iconst 0, 575, 0, 0, 0), (575, .ireturn, 576, 0, 0, 0), (576, .aload_n 1, 577, 0, 0, 0), (577, .aload_n 0, 578, 0, 0, 0), (578, .iload_n 3, 579, 0, 0, 0), (579, .iconst 1, 580, 0, 0, 0), (580, .iadd, 581, 0, 0, 0), (581, .iaload, 582, 0, 0, 0), (582, .invokevirtual 66, 585, 35, 1, 356), (585, .aload_n 2, 586, 0, 0, 0), (586, .aload_n 0, 587, 0, 0, 0), (587, .iload_n 3, 588, 0, 0, 0), (588, .iconst 1, 589, 0, 0, 0), (589, .iadd, 590, 0, 0, 0), (590, .iaload, 591, 0, 0, 0), (591, .invokevirtual 69, 594, 122, 1, 798)]
def tL_law_c6 : List am_E := [(594, .if_icmp .eq 628, 597, 1222, 0, 0), (597, .iconst 0, 598, 0, 0, 0), (598, .ireturn, 599, 0, 0, 0), (599, .aload_n 1, 600, 0, 0, 0), (600, .aload_n 0, 601, 0, 0, 0), (601, .iload_n 3, 602, 0, 0, 0), (602, .iconst 1, 603, 0, 0, 0), (603, .iadd, 604, 0, 0, 0), (604, .iaload, 605, 0, 0, 0), (605, .aload_n 0, 606, 0, 0, 0), (606, .iload_n 3, 607, 0, 0, 0), (607, .iconst 2, 608, 0, 0, 0), (608, .iadd, 609, 0, 0, 0), (609, .iaload, 610, 0, 0, 0), (610, .aload_n 0, 611, 0, 0, 0), (611, .iload_n 3, 612, 0, 0, 0), (612, .iconst 3, 613, 0, 0, 0), (613, .iadd, 614, 0, 0, 0), (614, .iaload, 615, 0, 0, 0), (615, .aload_n 0, 616, 0, 0, 0), (616, .iload_n 3, 617, 0, 0, 0), (617, .iconst 4, 618, 0, 0, 0), (618, .iadd, 619, 0, 0, 0), (619, .iaload, 620, 0, 0, 0), (620, .aload_n 0, 621, 0, 0, 0), (621, .iload_n 3, 622, 0, 0, 0), (622, .iconst 5, 623, 0, 0, 0), (623, .iadd, 624, 0, 0, 0), (624, .iaload, 625, 0, 0, 0), (625, .invokevirtual 70, 628, 36, 5, 360), (628, .aload_n 2, 629, 0, 0, 0), (629, .aload_n 0, 630, 0, 0, 0), (630, .iload_n 3, 631, 0, 0, 0), (631, .iconst 1, 632, 0, 0, 0), (632, .iadd, 633, 0, 0, 0), (633, .iaload, 634, 0, 0, 0), (634, .aload_n 0, 635, 0, 0, 0), (635, .iload_n 3, 636, 0, 0, 0), (636, .iconst 2, 637, 0, 0, 0), (637, .iadd, 638, 0, 0, 0), (638, .iaload, 639, 0, 0, 0), (639, .aload_n 0, 640, 0, 0, 0), (640, .iload_n 3, 641, 0, 0, 0), (641, .iconst 3, 642, 0, 0, 0), (642, .iadd, 643, 0, 0, 0), (643, .iaload, 644, 0, 0, 0), (644, .aload_n 0, 645, 0, 0, 0), (645, .iload_n 3, 646, 0, 0, 0), (646, .iconst 4, 647, 0, 0, 0), (647, .iadd, 648, 0, 0, 0), (648, .iaload, 649, 0, 0, 0), (649, .aload_n 0, 650, 0, 0, 0), (650, .iload_n 3, 651, 0, 0, 0), (651, .iconst 5, 652, 0, 0, 0), (652, .iadd, 653, 0, 0, 0), (653, .iaload, 654, 0, 0, 0), (654, .invokevirtual 74, 657, 123, 5, 802), (657, .if_icmp .eq 565, 660, 1222, 0, 0), (660, .iconst 0, 661, 0, 0, 0), (661, .ireturn, 662, 0, 0, 0)]
def tL_law_c7 : List am_E := [(662, .aload_n 1, 663, 0, 0, 0), (663, .aload_n 0, 664, 0, 0, 0), (664, .iload_n 3, 665, 0, 0, 0), (665, .iconst 1, 666, 0, 0, 0), (666, .iadd, 667, 0, 0, 0), (667, .iaload, 668, 0, 0, 0), (668, .aload_n 0, 669, 0, 0, 0), (669, .iload_n 3, 670, 0, 0, 0), (670, .iconst 2, 671, 0, 0, 0), (671, .iadd, 672, 0, 0, 0), (672, .iaload, 673, 0, 0, 0), (673, .aload_n 0, 674, 0, 0, 0), (674, .iload_n 3, 675, 0, 0, 0), (675, .iconst 3, 676, 0, 0, 0), (676, .iadd, 677, 0, 0, 0), (677, .iaload, 678, 0, 0, 0), (678, .invokevirtual 75, 681, 38, 3, 371), (681, .aload_n 2, 682, 0, 0, 0), (682, .aload_n 0, 683, 0, 0, 0), (683, .iload_n 3, 684, 0, 0, 0), (684, .iconst 1, 685, 0, 0, 0), (685, .iadd, 686, 0, 0, 0), (686, .iaload, 687, 0, 0, 0), (687, .aload_n 0, 688, 0, 0, 0), (688, .iload_n 3, 689, 0, 0, 0), (689, .iconst 2, 690, 0, 0, 0), (690, .iadd, 691, 0, 0, 0), (691, .iaload, 692, 0, 0, 0), (692, .aload_n 0, 693, 0, 0, 0), (693, .iload_n 3, 694, 0, 0, 0), (694, .iconst 3, 695, 0, 0, 0), (695, .iadd, 696, 0, 0, 0), (696, .iaload, 697, 0, 0, 0), (697, .invokevirtual 78, 700, 124, 3, 806), (700, .if_icmp .eq 522, 703, 1222, 0, 0), (703, .iconst 0, 704, 0, 0, 0), (704, .ireturn, 705, 0, 0, 0), (705, .aload_n 1, 706, 0, 0, 0), (706, .aload_n 0, 707, 0, 0, 0), (707, .iload_n 3, 708, 0, 0, 0), (708, .iconst 1, 709, 0, 0, 0), (709, .iadd, 710, 0, 0, 0), (710, .iaload, 711, 0, 0, 0), (711, .aload_n 0, 712, 0, 0, 0), (712, .iload_n 3, 713, 0, 0, 0), (713, .iconst 2, 714, 0, 0, 0), (714, .iadd, 715, 0, 0, 0), (715, .iaload, 716, 0, 0, 0), (716, .invokevirtual 79, 719, 52, 2, 425), (719, .aload_n 2, 720, 0, 0, 0), (720, .aload_n 0, 721, 0, 0, 0), (721, .iload_n 3, 722, 0, 0, 0), (722, .iconst 1, 723, 0, 0, 0), (723, .iadd, 724, 0, 0, 0), (724, .iaload, 725, 0, 0, 0), (725, .aload_n 0, 726, 0, 0, 0), (726, .iload_n 3, 727, 0, 0, 0), (727, .iconst 2, 728, 0, 0, 0), (728, .iadd, 729, 0, 0, 0), (729, .iaload, 730, 0, 0, 0)]
def tL_law_c8 : List am_E := [(730, .invokevirtual 82, 733, 132, 2, 840), (733, .if_icmp .eq 489, 736, 1222, 0, 0), (736, .iconst 0, 737, 0, 0, 0), (737, .ireturn, 738, 0, 0, 0), (738, .aload_n 1, 739, 0, 0, 0), (739, .aload_n 0, 740, 0, 0, 0), (740, .iload_n 3, 741, 0, 0, 0), (741, .iconst 1, 742, 0, 0, 0), (742, .iadd, 743, 0, 0, 0), (743, .iaload, 744, 0, 0, 0), (744, .invokevirtual 83, 747, 55, 1, 437), (747, .aload_n 2, 748, 0, 0, 0), (748, .aload_n 0, 749, 0, 0, 0), (749, .iload_n 3, 750, 0, 0, 0), (750, .iconst 1, 751, 0, 0, 0), (751, .iadd, 752, 0, 0, 0), (752, .iaload, 753, 0, 0, 0), (753, .invokevirtual 86, 756, 134, 1, 848), (756, .if_icmp .eq 466, 759, 1222, 0, 0), (759, .iconst 0, 760, 0, 0, 0), (760, .ireturn, 761, 0, 0, 0), (761, .aload_n 1, 762, 0, 0, 0), (762, .aload_n 0, 763, 0, 0, 0), (763, .iload_n 3, 764, 0, 0, 0), (764, .iconst 1, 765, 0, 0, 0), (765, .iadd, 766, 0, 0, 0), (766, .iaload, 767, 0, 0, 0), (767, .aload_n 0, 768, 0, 0, 0), (768, .iload_n 3, 769, 0, 0, 0), (769, .iconst 2, 770, 0, 0, 0), (770, .iadd, 771, 0, 0, 0), (771, .iaload, 772, 0, 0, 0), (772, .aload_n 0, 773, 0, 0, 0), (773, .iload_n 3, 774, 0, 0, 0), (774, .iconst 3, 775, 0, 0, 0), (775, .iadd, 776, 0, 0, 0), (776, .iaload, 777, 0, 0, 0), (777, .invokevirtual 87, 780, 59, 3, 453), (780, .aload_n 2, 781, 0, 0, 0), (781, .aload_n 0, 782, 0, 0, 0), (782, .iload_n 3, 783, 0, 0, 0), (783, .iconst 1, 784, 0, 0, 0), (784, .iadd, 785, 0, 0, 0), (785, .iaload, 786, 0, 0, 0), (786, .aload_n 0, 787, 0, 0, 0), (787, .iload_n 3, 788, 0, 0, 0), (788, .iconst 2, 789, 0, 0, 0), (789, .iadd, 790, 0, 0, 0), (790, .iaload, 791, 0, 0, 0), (791, .aload_n 0, 792, 0, 0, 0), (792, .iload_n 3, 793, 0, 0, 0), (793, .iconst 3, 794, 0, 0, 0), (794, .iadd, 795, 0, 0, 0), (795, .iaload, 796, 0, 0, 0), (796, .invokevirtual 90, 799, 137, 3, 860), (799, .if_icmp .eq 423, 802, 1222, 0, 0), (802, .iconst 0, 803, 0, 0, 0), (803, .ireturn, 804, 0, 0, 0), (804, .aload_n 1, 805, 0, 0, 0), (805, .aload_n 0, 806, 0, 0, 0)]
def tL_law_c9 : List am_E := [(806, .iload_n 3, 807, 0, 0, 0), (807, .iconst 1, 808, 0, 0, 0), (808, .iadd, 809, 0, 0, 0), (809, .iaload, 810, 0, 0, 0), (810, .aload_n 0, 811, 0, 0, 0), (811, .iload_n 3, 812, 0, 0, 0), (812, .iconst 2, 813, 0, 0, 0), (813, .iadd, 814, 0, 0, 0), (814, .iaload, 815, 0, 0, 0), (815, .invokevirtual 91, 818, 61, 2, 461), (818, .aload_n 2, 819, 0, 0, 0), (819, .aload_n 0, 820, 0, 0, 0), (820, .iload_n 3, 821, 0, 0, 0), (821, .iconst 1, 822, 0, 0, 0), (822, .iadd, 823, 0, 0, 0), (823, .iaload, 824, 0, 0, 0), (824, .aload_n 0, 825, 0, 0, 0), (825, .iload_n 3, 826, 0, 0, 0), (826, .iconst 2, 827, 0, 0, 0), (827, .iadd, 828, 0, 0, 0), (828, .iaload, 829, 0, 0, 0), (829, .invokevirtual 94, 832, 140, 2, 873), (832, .if_icmp .eq 390, 835, 1222, 0, 0), (835, .iconst 0, 836, 0, 0, 0), (836, .ireturn, 837, 0, 0, 0), (837, .aload_n 1, 838, 0, 0, 0), (838, .aload_n 0, 839, 0, 0, 0), (839, .iload_n 3, 840, 0, 0, 0), (840, .iconst 1, 841, 0, 0, 0), (841, .iadd, 842, 0, 0, 0), (842, .iaload, 843, 0, 0, 0), (843, .aload_n 0, 844, 0, 0, 0), (844, .iload_n 3, 845, 0, 0, 0), (845, .iconst 2, 846, 0, 0, 0), (846, .iadd, 847, 0, 0, 0), (847, .iaload, 848, 0, 0, 0), (848, .invokevirtual 95, 851, 62, 2, 465), (851, .aload_n 2, 852, 0, 0, 0), (852, .aload_n 0, 853, 0, 0, 0), (853, .iload_n 3, 854, 0, 0, 0), (854, .iconst 1, 855, 0, 0, 0), (855, .iadd, 856, 0, 0, 0), (856, .iaload, 857, 0, 0, 0), (857, .aload_n 0, 858, 0, 0, 0), (858, .iload_n 3, 859, 0, 0, 0), (859, .iconst 2, 860, 0, 0, 0), (860, .iadd, 861, 0, 0, 0), (861, .iaload, 862, 0, 0, 0), (862, .invokevirtual 98, 865, 141, 2, 877), (865, .if_icmp .eq 357, 868, 1222, 0, 0), (868, .iconst 0, 869, 0, 0, 0), (869, .ireturn, 870, 0, 0, 0), (870, .aload_n 1, 871, 0, 0, 0), (871, .invokevirtual 99, 874, 68, 0, 491), (874, .aload_n 2, 875, 0, 0, 0), (875, .invokevirtual 102, 878, 144, 0, 888), (878, .if_icmp .eq 344, 881, 1222, 0, 0), (881, .iconst 0, 882, 0, 0, 0), (882, .ireturn, 883, 0, 0, 0), (883, .aload_n 1, 884, 0, 0, 0)]
def tL_law_c10 : List am_E := [(884, .aload_n 0, 885, 0, 0, 0), (885, .iload_n 3, 886, 0, 0, 0), (886, .iconst 1, 887, 0, 0, 0), (887, .iadd, 888, 0, 0, 0), (888, .iaload, 889, 0, 0, 0), (889, .invokevirtual 103, 892, 71, 1, 503), (892, .aload_n 2, 893, 0, 0, 0), (893, .aload_n 0, 894, 0, 0, 0), (894, .iload_n 3, 895, 0, 0, 0), (895, .iconst 1, 896, 0, 0, 0), (896, .iadd, 897, 0, 0, 0), (897, .iaload, 898, 0, 0, 0), (898, .invokevirtual 106, 901, 145, 1, 892), (901, .if_icmp .eq 321, 904, 1222, 0, 0), (904, .iconst 0, 905, 0, 0, 0), (905, .ireturn, 906, 0, 0, 0), (906, .aload_n 1, 907, 0, 0, 0), (907, .invokevirtual 107, 910, 72, 0, 507), (910, .aload_n 2, 911, 0, 0, 0), (911, .invokevirtual 110, 914, 146, 0, 896), (914, .if_icmp .eq 308, 917, 1222, 0, 0), (917, .iconst 0, 918, 0, 0, 0), (918, .ireturn, 919, 0, 0, 0), (919, .aload_n 1, 920, 0, 0, 0), (920, .aload_n 0, 921, 0, 0, 0), (921, .iload_n 3, 922, 0, 0, 0), (922, .iconst 1, 923, 0, 0, 0), (923, .iadd, 924, 0, 0, 0), (924, .iaload, 925, 0, 0, 0), (925, .aload_n 0, 926, 0, 0, 0), (926, .iload_n 3, 927, 0, 0, 0), (927, .iconst 2, 928, 0, 0, 0), (928, .iadd, 929, 0, 0, 0), (929, .iaload, 930, 0, 0, 0), (930, .aload_n 0, 931, 0, 0, 0), (931, .iload_n 3, 932, 0, 0, 0), (932, .iconst 3, 933, 0, 0, 0), (933, .iadd, 934, 0, 0, 0), (934, .iaload, 935, 0, 0, 0), (935, .aload_n 0, 936, 0, 0, 0), (936, .iload_n 3, 937, 0, 0, 0), (937, .iconst 4, 938, 0, 0, 0), (938, .iadd, 939, 0, 0, 0), (939, .iaload, 940, 0, 0, 0), (940, .invokevirtual 111, 943, 75, 4, 519), (943, .aload_n 2, 944, 0, 0, 0), (944, .aload_n 0, 945, 0, 0, 0), (945, .iload_n 3, 946, 0, 0, 0), (946, .iconst 1, 947, 0, 0, 0), (947, .iadd, 948, 0, 0, 0), (948, .iaload, 949, 0, 0, 0), (949, .aload_n 0, 950, 0, 0, 0), (950, .iload_n 3, 951, 0, 0, 0), (951, .iconst 2, 952, 0, 0, 0), (952, .iadd, 953, 0, 0, 0), (953, .iaload, 954, 0, 0, 0), (954, .aload_n 0, 955, 0, 0, 0), (955, .iload_n 3, 956, 0, 0, 0), (956, .iconst 3, 957, 0, 0, 0), (957, .iadd, 958, 0, 0, 0)]
def tL_law_c11 : List am_E := [(958, .iaload, 959, 0, 0, 0), (959, .aload_n 0, 960, 0, 0, 0), (960, .iload_n 3, 961, 0, 0, 0), (961, .iconst 4, 962, 0, 0, 0), (962, .iadd, 963, 0, 0, 0), (963, .iaload, 964, 0, 0, 0), (964, .invokevirtual 114, 967, 148, 4, 904), (967, .if_icmp .eq 255, 970, 1222, 0, 0), (970, .iconst 0, 971, 0, 0, 0), (971, .ireturn, 972, 0, 0, 0), (972, .aload_n 1, 973, 0, 0, 0), (973, .aload_n 0, 974, 0, 0, 0), (974, .iload_n 3, 975, 0, 0, 0), (975, .iconst 1, 976, 0, 0, 0), (976, .iadd, 977, 0, 0, 0), (977, .iaload, 978, 0, 0, 0), (978, .aload_n 0, 979, 0, 0, 0), (979, .iload_n 3, 980, 0, 0, 0), (980, .iconst 2, 981, 0, 0, 0), (981, .iadd, 982, 0, 0, 0), (982, .iaload, 983, 0, 0, 0), (983, .aload_n 0, 984, 0, 0, 0), (984, .iload_n 3, 985, 0, 0, 0), (985, .iconst 3, 986, 0, 0, 0), (986, .iadd, 987, 0, 0, 0), (987, .iaload, 988, 0, 0, 0), (988, .invokevirtual 115, 991, 84, 3, 553), (991, .aload_n 2, 992, 0, 0, 0), (992, .aload_n 0, 993, 0, 0, 0), (993, .iload_n 3, 994, 0, 0, 0), (994, .iconst 1, 995, 0, 0, 0), (995, .iadd, 996, 0, 0, 0), (996, .iaload, 997, 0, 0, 0), (997, .aload_n 0, 998, 0, 0, 0), (998, .iload_n 3, 999, 0, 0, 0), (999, .iconst 2, 1000, 0, 0, 0), (1000, .iadd, 1001, 0, 0, 0), (1001, .iaload, 1002, 0, 0, 0), (1002, .aload_n 0, 1003, 0, 0, 0), (1003, .iload_n 3, 1004, 0, 0, 0), (1004, .iconst 3, 1005, 0, 0, 0), (1005, .iadd, 1006, 0, 0, 0), (1006, .iaload, 1007, 0, 0, 0), (1007, .invokevirtual 118, 1010, 151, 3, 916), (1010, .if_icmp .eq 212, 1013, 1222, 0, 0), (1013, .iconst 0, 1014, 0, 0, 0), (1014, .ireturn, 1015, 0, 0, 0), (1015, .aload_n 1, 1016, 0, 0, 0), (1016, .aload_n 0, 1017, 0, 0, 0), (1017, .iload_n 3, 1018, 0, 0, 0), (1018, .iconst 1, 1019, 0, 0, 0), (1019, .iadd, 1020, 0, 0, 0), (1020, .iaload, 1021, 0, 0, 0), (1021, .aload_n 0, 1022, 0, 0, 0), (1022, .iload_n 3, 1023, 0, 0, 0), (1023, .iconst 2, 1024, 0, 0, 0), (1024, .iadd, 1025, 0, 0, 0), (1025, .iaload, 1026, 0, 0, 0), (1026, .aload_n 0, 1027, 0, 0, 0), (1027, .iload_n 3, 1028, 0, 0, 0)]
def tL_law_c12 : List am_E := [(1028, .iconst 3, 1029, 0, 0, 0), (1029, .iadd, 1030, 0, 0, 0), (1030, .iaload, 1031, 0, 0, 0), (1031, .aload_n 0, 1032, 0, 0, 0), (1032, .iload_n 3, 1033, 0, 0, 0), (1033, .iconst 4, 1034, 0, 0, 0), (1034, .iadd, 1035, 0, 0, 0), (1035, .iaload, 1036, 0, 0, 0), (1036, .invokevirtual 119, 1039, 86, 4, 561), (1039, .aload_n 2, 1040, 0, 0, 0), (1040, .aload_n 0, 1041, 0, 0, 0), (1041, .iload_n 3, 1042, 0, 0, 0), (1042, .iconst 1, 1043, 0, 0, 0), (1043, .iadd, 1044, 0, 0, 0), (1044, .iaload, 1045, 0, 0, 0), (1045, .aload_n 0, 1046, 0, 0, 0), (1046, .iload_n 3, 1047, 0, 0, 0), (1047, .iconst 2, 1048, 0, 0, 0), (1048, .iadd, 1049, 0, 0, 0), (1049, .iaload, 1050, 0, 0, 0), (1050, .aload_n 0, 1051, 0, 0, 0), (1051, .iload_n 3, 1052, 0, 0, 0), (1052, .iconst 3, 1053, 0, 0, 0), (1053, .iadd, 1054, 0, 0, 0), (1054, .iaload, 1055, 0, 0, 0), (1055, .aload_n 0, 1056, 0, 0, 0), (1056, .iload_n 3, 1057, 0, 0, 0), (1057, .iconst 4, 1058, 0, 0, 0), (1058, .iadd, 1059, 0, 0, 0), (1059, .iaload, 1060, 0, 0, 0), (1060, .invokevirtual 122, 1063, 152, 4, 920), (1063, .if_icmp .eq 159, 1066, 1222, 0, 0), (1066, .iconst 0, 1067, 0, 0, 0), (1067, .ireturn, 1068, 0, 0, 0), (1068, .aload_n 1, 1069, 0, 0, 0), (1069, .aload_n 0, 1070, 0, 0, 0), (1070, .iload_n 3, 1071, 0, 0, 0), (1071, .iconst 1, 1072, 0, 0, 0), (1072, .iadd, 1073, 0, 0, 0), (1073, .iaload, 1074, 0, 0, 0), (1074, .aload_n 0, 1075, 0, 0, 0), (1075, .iload_n 3, 1076, 0, 0, 0), (1076, .iconst 2, 1077, 0, 0, 0), (1077, .iadd, 1078, 0, 0, 0), (1078, .iaload, 1079, 0, 0, 0), (1079, .aload_n 0, 1080, 0, 0, 0), (1080, .iload_n 3, 1081, 0, 0, 0), (1081, .iconst 3, 1082, 0, 0, 0), (1082, .iadd, 1083, 0, 0, 0), (1083, .iaload, 1084, 0, 0, 0), (1084, .aload_n 0, 1085, 0, 0, 0), (1085, .iload_n 3, 1086, 0, 0, 0), (1086, .iconst 4, 1087, 0, 0, 0), (1087, .iadd, 1088, 0, 0, 0), (1088, .iaload, 1089, 0, 0, 0), (1089, .invokevirtual 123, 1092, 89, 4, 573), (1092, .aload_n 2, 1093, 0, 0, 0), (1093, .aload_n 0, 1094, 0, 0, 0), (1094, .iload_n 3, 1095, 0, 0, 0), (1095, .iconst 1, 1096, 0, 0, 0)]
def tL_law_c13 : List am_E := [(1096, .iadd, 1097, 0, 0, 0), (1097, .iaload, 1098, 0, 0, 0), (1098, .aload_n 0, 1099, 0, 0, 0), (1099, .iload_n 3, 1100, 0, 0, 0), (1100, .iconst 2, 1101, 0, 0, 0), (1101, .iadd, 1102, 0, 0, 0), (1102, .iaload, 1103, 0, 0, 0), (1103, .aload_n 0, 1104, 0, 0, 0), (1104, .iload_n 3, 1105, 0, 0, 0), (1105, .iconst 3, 1106, 0, 0, 0), (1106, .iadd, 1107, 0, 0, 0), (1107, .iaload, 1108, 0, 0, 0), (1108, .aload_n 0, 1109, 0, 0, 0), (1109, .iload_n 3, 1110, 0, 0, 0), (1110, .iconst 4, 1111, 0, 0, 0), (1111, .iadd, 1112, 0, 0, 0), (1112, .iaload, 1113, 0, 0, 0), (1113, .invokevirtual 126, 1116, 153, 4, 924), (1116, .if_icmp .eq 106, 1119, 1222, 0, 0), (1119, .iconst 0, 1120, 0, 0, 0), (1120, .ireturn, 1121, 0, 0, 0), (1121, .aload_n 1, 1122, 0, 0, 0), (1122, .invokevirtual 127, 1125, 90, 0, 578), (1125, .aload_n 2, 1126, 0, 0, 0), (1126, .invokevirtual 131, 1129, 154, 0, 928), (1129, .lcmp, 1130, 0, 0, 0), (1130, .ifCond .eq 92, 1133, 1222, 0, 0), (1133, .iconst 0, 1134, 0, 0, 0), (1134, .ireturn, 1135, 0, 0, 0), (1135, .aload_n 1, 1136, 0, 0, 0), (1136, .invokevirtual 132, 1139, 91, 0, 582), (1139, .aload_n 2, 1140, 0, 0, 0), (1140, .invokevirtual 135, 1143, 155, 0, 932), (1143, .lcmp, 1144, 0, 0, 0), (1144, .ifCond .eq 78, 1147, 1222, 0, 0), (1147, .iconst 0, 1148, 0, 0, 0), (1148, .ireturn, 1149, 0, 0, 0), (1149, .aload_n 1, 1150, 0, 0, 0), (1150, .aload_n 0, 1151, 0, 0, 0), (1151, .iload_n 3, 1152, 0, 0, 0), (1152, .iconst 1, 1153, 0, 0, 0), (1153, .iadd, 1154, 0, 0, 0), (1154, .iaload, 1155, 0, 0, 0), (1155, .invokevirtual 136, 1158, 92, 1, 586), (1158, .aload_n 2, 1159, 0, 0, 0), (1159, .aload_n 0, 1160, 0, 0, 0), (1160, .iload_n 3, 1161, 0, 0, 0), (1161, .iconst 1, 1162, 0, 0, 0), (1162, .iadd, 1163, 0, 0, 0), (1163, .iaload, 1164, 0, 0, 0), (1164, .invokevirtual 139, 1167, 156, 1, 936), (1167, .if_icmp .eq 55, 1170, 1222, 0, 0), (1170, .iconst 0, 1171, 0, 0, 0), (1171, .ireturn, 1172, 0, 0, 0), (1172, .aload_n 1, 1173, 0, 0, 0), (1173, .invokevirtual 140, 1176, 95, 0, 598), (1176, .aload_n 2, 1177, 0, 0, 0), (1177, .invokevirtual 143, 1180, 157, 0, 940), (1180, .if_icmp .eq 42, 1183, 1222, 0, 0), (1183, .iconst 0, 1184, 0, 0, 0)]
def tL_law_c14 : List am_E := [(1184, .ireturn, 1185, 0, 0, 0), (1185, .aload_n 1, 1186, 0, 0, 0), (1186, .aload_n 0, 1187, 0, 0, 0), (1187, .iload_n 3, 1188, 0, 0, 0), (1188, .iconst 1, 1189, 0, 0, 0), (1189, .iadd, 1190, 0, 0, 0), (1190, .iaload, 1191, 0, 0, 0), (1191, .invokevirtual 144, 1194, 96, 1, 602), (1194, .aload_n 2, 1195, 0, 0, 0), (1195, .aload_n 0, 1196, 0, 0, 0), (1196, .iload_n 3, 1197, 0, 0, 0), (1197, .iconst 1, 1198, 0, 0, 0), (1198, .iadd, 1199, 0, 0, 0), (1199, .iaload, 1200, 0, 0, 0), (1200, .invokevirtual 147, 1203, 158, 1, 944), (1203, .if_icmp .eq 19, 1206, 1222, 0, 0), (1206, .iconst 0, 1207, 0, 0, 0), (1207, .ireturn, 1208, 0, 0, 0), (1208, .aload_n 1, 1209, 0, 0, 0), (1209, .invokevirtual 148, 1212, 97, 0, 606), (1212, .aload_n 2, 1213, 0, 0, 0), (1213, .invokevirtual 151, 1216, 159, 0, 948), (1216, .lcmp, 1217, 0, 0, 0), (1217, .ifCond .eq 5, 1220, 1222, 0, 0), (1220, .iconst 0, 1221, 0, 0, 0), (1221, .ireturn, 1222, 0, 0, 0), (1222, .iinc 3 6, 1225, 0, 0, 0), (1225, .goto (-1207), 1228, 18, 0, 0), (1228, .iconst 1, 1229, 0, 0, 0), (1229, .ireturn, 1230, 0, 0, 0)]
def tL_law : am_T := (⟨"TwoGamesLaw", "law", "([I)Z"⟩, code, 4, (some .boolean), 0, tL_law_c0 ++ (tL_law_c1 ++ (tL_law_c2 ++ (tL_law_c3 ++ (tL_law_c4 ++ (tL_law_c5 ++ (tL_law_c6 ++ (tL_law_c7 ++ (tL_law_c8 ++ (tL_law_c9 ++ (tL_law_c10 ++ (tL_law_c11 ++ (tL_law_c12 ++ (tL_law_c13 ++ (tL_law_c14)))))))))))))))
def am_mt : List am_T := [tT_init, tF_init, tW_init, tB_init, tU_init, tR_init, tJ_fillI, tT_rest, tT_play, tT_added, tP_init, tT_rested, tT_isOdds, tT_echo, tT_flat, tT_told, tT_playAt, tP_least, tJ_min, tP_greatest, tJ_max, tT_mark, tP_isOf, tT_refuse, tT_odds, tP_readable, tT_change, tP_become, tT_mean, tP_sum, tT_row, tT_rowAt, tW_become, tT_lay, tW_isMissing, tT_tear, tT_copy, tW_holds, tT_leads, tT_isRest, tT_refusalOf, tT_isFit, tT_hangsOnPurse, tT_roundOf, tR_begin, tJ_fillJ, tR_follow, tR_chance, tR_step, tF_tell, tJ_abs, tF_commonDivisor, tT_share, tR_settles, tR_weightOf, tT_gain, tT_tellGain, tR_gainScale, tR_outcome, tT_lot, tT_roundOfLot, tT_middle, tT_bestRow, tT_tryRows, tB_offer, tB_isBelow, tJ_floorDiv, tT_tryRowsWith, tT_bestChoice, tT_tryChoices, tT_tryChoicesWith, tT_choice, tT_paradoxes, tT_losesAlone, tT_winByTurns, tT_after, tT_areTurns, tT_isFirstPurse, tT_isLaterPurse, tT_spread, tU_begin, tU_follow, tJ_floorMod, tU_chanceOf, tT_meanAfter, tU_weighed, tT_ends, tT_areEnds, tT_weightOfCut, tT_run, tT_upper, tT_lower, tT_count, tT_echoCount, tT_rowsThere, tT_finding, tT_findings, tT_digest, tP_digestedInto, tW_digestedInto, tM_init, tM_rest, tM_in, tM_play, tM_put, tM_rested, tM_isOdds, tM_echo, tM_flat, tM_told, tM_isPlay, tM_tells, tM_many, tM_mark, tM_meets, tM_odds, tM_change, tM_mean, tM_row, tM_isRow, tM_lay, tM_looked, tM_tear, tM_copy, tM_leads, tM_askedFor, tM_isFit, tM_setTurn, tM_setRound, tM_turn, tM_q, tM_tell, tM_share, tM_settles, tM_gain, tM_tellGain, tM_hasGain, tM_lot, tM_askedTwo, tM_setLot, tM_middle, tM_bestRow, tM_isMore, tM_floor, tM_bestChoice, tM_choice, tM_paradoxes, tM_loses, tM_after, tM_setPurses, tM_restOf, tM_meanAfter, tM_ends, tM_run, tM_upper, tM_lower, tM_count, tM_finding, tM_findings, tM_digest, tL_law]
end
section
/-! ===== THE ABSTRACT MACHINE: one flat typed memory (cells by numbers from 0 on), frames with lists; total where the program is safe ===== -/
/-- shapes (kind, length) of the cells, ints, longs, references, each by cell and place. Kinds: 0 int rows, 1 long rows, 2 .. 9 rows of references, 10 + c objects of class c -/
abbrev am_M : Type := List (Nat × Nat) × (Nat → Nat → Int32) × (Nat → Nat → Int64) × (Nat → Nat → Option Nat)
/-- memory, place in the code, locals, stack -/
abbrev am_F : Type := am_M × Nat × List Value × List Value
abbrev am_S : Type := Nat × (Nat → Int32)
abbrev am_P : Type := Nat × List Value × List Value
abbrev am_R : Type := am_F ⊕ ((Option Value × am_M) ⊕ (Nat × List Value × am_F))
def am_u {α : Type} (f : Nat → Nat → α) (i k : Nat) (v : α) : Nat → Nat → α := va_up f i (va_up (f i) k v)
def am_U : Value := .float 0
def am_isR : Value → Bool
  | .ref _ => true
  | .null => true
  | .retAddr _ => true
  | _ => false
/-- a store of one word: a long whose second half is overwritten is gone -/
def am_s1 : List Value → Nat → Value → List Value
  | [], _, _ => []
  | _ :: l, 0, v => v :: l
  | w :: l, 1, v => (if w.category = 2 then am_U else w) :: am_s1 l 0 v
  | w :: l, i + 2, v => w :: am_s1 l (i + 1) v
def am_s2 (l : List Value) (i : Nat) (v : Value) : List Value := am_s1 (am_s1 l (i + 1) am_U) i v
def am_ldI (nx : Nat) (la st : List Value) (i : Nat) : Option am_P := match la[i]? with
  | some (.int x) => some (nx, la, .int x :: st)
  | _ => none
def am_ldL (nx : Nat) (la st : List Value) (i : Nat) : Option am_P := match la[i]? with
  | some (.long x) => some (nx, la, .long x :: st)
  | _ => none
def am_ldA (nx : Nat) (la st : List Value) (i : Nat) : Option am_P := match la[i]? with
  | some v => if am_isR v = true then some (nx, la, v :: st) else none
  | _ => none
def am_stI (nx : Nat) (la st : List Value) (i : Nat) : Option am_P := match st with
  | .int x :: r => if i < la.length then some (nx, am_s1 la i (.int x), r) else none
  | _ => none
def am_stL (nx : Nat) (la st : List Value) (i : Nat) : Option am_P := match st with
  | .long x :: r => if i + 1 < la.length then some (nx, am_s2 la i (.long x), r) else none
  | _ => none
def am_stA (nx : Nat) (la st : List Value) (i : Nat) : Option am_P := match st with
  | v :: r => if i < la.length ∧ am_isR v = true then some (nx, am_s1 la i v, r) else none
  | _ => none
def am_inc (nx : Nat) (la st : List Value) (i : Nat) (n : Int) : Option am_P := match la[i]? with
  | some (.int x) => some (nx, am_s1 la i (.int (x + Int32.ofInt n)), st)
  | _ => none
def am_bI (f : Int32 → Int32 → Int32) (nx : Nat) (la st : List Value) : Option am_P := match st with
  | .int y :: .int x :: r => some (nx, la, .int (f x y) :: r)
  | _ => none
def am_dI (f : Int32 → Int32 → Int32) (nx : Nat) (la st : List Value) : Option am_P := match st with
  | .int y :: .int x :: r => if y = 0 then none else some (nx, la, .int (f x y) :: r)
  | _ => none
def am_bL (f : Int64 → Int64 → Int64) (nx : Nat) (la st : List Value) : Option am_P := match st with
  | .long y :: .long x :: r => some (nx, la, .long (f x y) :: r)
  | _ => none
def am_dL (f : Int64 → Int64 → Int64) (nx : Nat) (la st : List Value) : Option am_P := match st with
  | .long y :: .long x :: r => if y = 0 then none else some (nx, la, .long (f x y) :: r)
  | _ => none
def am_uL (nx : Nat) (la st : List Value) : Option am_P := match st with
  | .long x :: r => some (nx, la, .long (-x) :: r)
  | _ => none
def am_i2l (nx : Nat) (la st : List Value) : Option am_P := match st with
  | .int x :: r => some (nx, la, .long x.toInt64 :: r)
  | _ => none
def am_cmp (nx : Nat) (la st : List Value) : Option am_P := match st with
  | .long y :: .long x :: r => some (nx, la, .int (lg_cmp x y) :: r)
  | _ => none
def am_dup (nx : Nat) (la st : List Value) : Option am_P := match st with
  | v :: r => if v.category = 1 then some (nx, la, v :: v :: r) else none
  | _ => none
def am_dup2 (nx : Nat) (la st : List Value) : Option am_P := match st with
  | v :: w :: r => if v.category = 1 ∧ w.category = 1 then some (nx, la, v :: w :: v :: w :: r) else none
  | _ => none
def am_c0 (c : ClassFile.Cond) (x : Int32) : Bool := match c with
  | .eq => decide (x = 0)
  | .ne => decide (¬ x = 0)
  | .lt => decide (x < 0)
  | .ge => decide (0 ≤ x)
  | .gt => decide (0 < x)
  | .le => decide (x ≤ 0)
def am_c2 (c : ClassFile.Cond) (x y : Int32) : Bool := match c with
  | .eq => decide (x = y)
  | .ne => decide (¬ x = y)
  | .lt => decide (x < y)
  | .ge => decide (y ≤ x)
  | .gt => decide (y < x)
  | .le => decide (x ≤ y)
def am_if0 (c : ClassFile.Cond) (nx a : Nat) (la st : List Value) : Option am_P := match st with
  | .int x :: r => some (if am_c0 c x = true then a else nx, la, r)
  | _ => none
def am_if2 (c : ClassFile.Cond) (nx a : Nat) (la st : List Value) : Option am_P := match st with
  | .int y :: .int x :: r => some (if am_c2 c x y = true then a else nx, la, r)
  | _ => none
def am_nul (nx a : Nat) (la st : List Value) : Option am_P := match st with
  | .null :: r => some (a, la, r)
  | .ref _ :: r => some (nx, la, r)
  | _ => none
def am_nnul (nx a : Nat) (la st : List Value) : Option am_P := match st with
  | .null :: r => some (nx, la, r)
  | .ref _ :: r => some (a, la, r)
  | _ => none
def am_tsw (pc : Nat) (d lo hi : Int) (offs : Array Int) (la st : List Value) : Option am_P := match st with
  | .int x :: r => if x.toInt < lo ∨ hi < x.toInt then (if 0 ≤ (pc : Int) + d then some (((pc : Int) + d).toNat, la, r) else none) else (match offs[(x.toInt - lo).toNat]? with
    | some o => if 0 ≤ (pc : Int) + o then some (((pc : Int) + o).toNat, la, r) else none
    | none => none)
  | _ => none
def am_lsw (pc : Nat) (d : Int) (ps : Array (Int × Int)) (la st : List Value) : Option am_P := match st with
  | .int x :: r => if (ps.toList.zip (ps.toList.drop 1)).all (fun (a, next) => a.1 < next.1) = true ∧ 0 ≤ (pc : Int) + Op.lookupswitch.offset ps.toList d x.toInt then some (((pc : Int) + Op.lookupswitch.offset ps.toList d x.toInt).toNat, la, r) else none
  | _ => none
/-- the instructions that touch no cell -/
def am_pure (ins : Instr) (pc nx a : Nat) (la st : List Value) : Option am_P := match ins with
  | .iconst n => some (nx, la, .int (Int32.ofInt n) :: st)
  | .bipush n => some (nx, la, .int (Int8.ofInt n).toInt32 :: st)
  | .sipush n => some (nx, la, .int (Int16.ofInt n).toInt32 :: st)
  | .lconst n => some (nx, la, .long (Int64.ofNat (n : Nat)) :: st)
  | .aconst_null => some (nx, la, .null :: st)
  | .ldc2_w _ => some (nx, la, .long (Int64.ofNat a) :: st)
  | .iload i => am_ldI nx la st i
  | .iload_n i => am_ldI nx la st i
  | .lload i => am_ldL nx la st i
  | .lload_n i => am_ldL nx la st i
  | .aload i => am_ldA nx la st i
  | .aload_n i => am_ldA nx la st i
  | .istore i => am_stI nx la st i
  | .istore_n i => am_stI nx la st i
  | .lstore i => am_stL nx la st i
  | .lstore_n i => am_stL nx la st i
  | .astore i => am_stA nx la st i
  | .astore_n i => am_stA nx la st i
  | .iinc i n => am_inc nx la st i n
  | .iadd => am_bI (fun x y => x + y) nx la st
  | .isub => am_bI (fun x y => x - y) nx la st
  | .imul => am_bI (fun x y => x * y) nx la st
  | .iand => am_bI (fun x y => x &&& y) nx la st
  | .ior => am_bI (fun x y => x ||| y) nx la st
  | .ixor => am_bI (fun x y => x ^^^ y) nx la st
  | .ishl => am_bI (fun x y => x <<< (y &&& 31)) nx la st
  | .ishr => am_bI (fun x y => x >>> (y &&& 31)) nx la st
  | .idiv => am_dI (fun x y => x / y) nx la st
  | .irem => am_dI (fun x y => x - x / y * y) nx la st
  | .ladd => am_bL (fun x y => x + y) nx la st
  | .lsub => am_bL (fun x y => x - y) nx la st
  | .lmul => am_bL (fun x y => x * y) nx la st
  | .lxor => am_bL (fun x y => x ^^^ y) nx la st
  | .ldiv => am_dL (fun x y => x / y) nx la st
  | .lrem => am_dL (fun x y => x - x / y * y) nx la st
  | .lneg => am_uL nx la st
  | .i2l => am_i2l nx la st
  | .lcmp => am_cmp nx la st
  | .dup => am_dup nx la st
  | .dup2 => am_dup2 nx la st
  | .goto _ => some (a, la, st)
  | .ifCond c _ => am_if0 c nx a la st
  | .if_icmp c _ => am_if2 c nx a la st
  | .ifnull _ => am_nul nx a la st
  | .ifnonnull _ => am_nnul nx a la st
  | .tableswitch d lo hi offs => am_tsw pc d lo hi offs la st
  | .lookupswitch d ps => am_lsw pc d ps la st
  | _ => none
/-- 0 an int, 1 a long, 2 a reference, 3 a boolean -/
def am_fk (c k : Nat) : Nat := match am_ty c k with
  | .int => 0
  | .long => 1
  | .object _ => 2
  | .array _ => 2
  | .boolean => 3
  | _ => 9
def am_gv (M : am_M) (i c k : Nat) : Value := if am_fk c k = 1 then .long (M.2.2.1 i k) else if am_fk c k = 2 then va_rf (M.2.2.2 i k) else .int (M.2.1 i k)
def am_pv (M : am_M) (i c k : Nat) (v : Value) : Option am_M := match v with
  | .int x => if am_fk c k = 0 ∨ (am_fk c k = 3 ∧ (x = 0 ∨ x = 1)) then some (M.1, am_u M.2.1 i k x, M.2.2.1, M.2.2.2) else none
  | .long x => if am_fk c k = 1 then some (M.1, M.2.1, am_u M.2.2.1 i k x, M.2.2.2) else none
  | .ref j => if am_fk c k = 2 then some (M.1, M.2.1, M.2.2.1, am_u M.2.2.2 i k (some j)) else none
  | .null => if am_fk c k = 2 then some (M.1, M.2.1, M.2.2.1, am_u M.2.2.2 i k none) else none
  | _ => none
def am_get (a b nx : Nat) (M : am_M) (la st : List Value) : Option am_F := match st with
  | .ref i :: r => if (M.1[i]?).map (fun q => q.1) = some (a + 10) then some (M, nx, la, am_gv M i a b :: r) else none
  | _ => none
def am_put (a b nx : Nat) (M : am_M) (la st : List Value) : Option am_F := match st with
  | v :: .ref i :: r => if (M.1[i]?).map (fun q => q.1) = some (a + 10) then (am_pv M i a b v).map (fun M' => (M', nx, la, r)) else none
  | _ => none
def am_alen (S : am_S) (nx : Nat) (M : am_M) (la st : List Value) : Option am_F := match st with
  | .ref i :: r => (match M.1[i]? with
    | some q => if q.1 < 5 then some (M, nx, la, .int (Int32.ofNat q.2) :: r) else none
    | none => none)
  | .retAddr _ :: r => some (M, nx, la, .int (Int32.ofNat S.1) :: r)
  | _ => none
/-- is place j in the row i of that kind? -/
def am_in (M : am_M) (kd i : Nat) (j : Int32) : Bool := match M.1[i]? with
  | some q => decide (q.1 = kd ∧ ¬ (j < 0 ∨ q.2 ≤ j.toNatClampNeg))
  | none => false
def am_iald (S : am_S) (nx : Nat) (M : am_M) (la st : List Value) : Option am_F := match st with
  | .int j :: .ref i :: r => if am_in M 0 i j = true then some (M, nx, la, .int (M.2.1 i j.toNatClampNeg) :: r) else none
  | .int j :: .retAddr _ :: r => if ¬ (j < 0 ∨ S.1 ≤ j.toNatClampNeg) then some (M, nx, la, .int (S.2 j.toNatClampNeg) :: r) else none
  | _ => none
def am_lald (nx : Nat) (M : am_M) (la st : List Value) : Option am_F := match st with
  | .int j :: .ref i :: r => if am_in M 1 i j = true then some (M, nx, la, .long (M.2.2.1 i j.toNatClampNeg) :: r) else none
  | _ => none
/-- the kind of a cell of references -/
def am_kr (M : am_M) (i : Nat) : Nat := match M.1[i]? with
  | some q => q.1
  | none => 0
def am_aald (nx : Nat) (M : am_M) (la st : List Value) : Option am_F := match st with
  | .int j :: .ref i :: r => if 2 ≤ am_kr M i ∧ am_kr M i < 5 ∧ am_in M (am_kr M i) i j = true then some (M, nx, la, va_rf (M.2.2.2 i j.toNatClampNeg) :: r) else none
  | _ => none
def am_iast (nx : Nat) (M : am_M) (la st : List Value) : Option am_F := match st with
  | .int x :: .int j :: .ref i :: r => if am_in M 0 i j = true then some ((M.1, am_u M.2.1 i j.toNatClampNeg x, M.2.2.1, M.2.2.2), nx, la, r) else none
  | _ => none
def am_last (nx : Nat) (M : am_M) (la st : List Value) : Option am_F := match st with
  | .long x :: .int j :: .ref i :: r => if am_in M 1 i j = true then some ((M.1, M.2.1, am_u M.2.2.1 i j.toNatClampNeg x, M.2.2.2), nx, la, r) else none
  | _ => none
def am_aast (nx : Nat) (M : am_M) (la st : List Value) : Option am_F := match st with
  | .ref v :: .int j :: .ref i :: r => if 2 ≤ am_kr M i ∧ am_kr M i < 5 ∧ am_in M (am_kr M i) i j = true ∧ 10 ≤ am_kr M v ∧ (vwCl[am_kr M v - 10]?).map (fun q => q.1) = some (am_ra (am_kr M i)) then some ((M.1, M.2.1, M.2.2.1, am_u M.2.2.2 i j.toNatClampNeg (some v)), nx, la, r) else none
  | _ => none
/-- a new cell: all its places are 0 and null -/
def am_new (M : am_M) (kd len : Nat) : am_M := (M.1 ++ [(kd, len)], va_up M.2.1 M.1.length (fun _ => 0), va_up M.2.2.1 M.1.length (fun _ => 0), va_up M.2.2.2 M.1.length (fun _ => none))
def am_mkO (a nx : Nat) (M : am_M) (la st : List Value) : Option am_F := match vwCl[a - 10]? with
  | some q => if 10 ≤ a then some (am_new M a q.2.2, nx, la, .ref M.1.length :: st) else none
  | none => none
def am_mkA (kd nx : Nat) (M : am_M) (la st : List Value) : Option am_F := match st with
  | .int n :: r => if ¬ n < 0 ∧ n.toNatClampNeg ≤ 1000 then some (am_new M kd n.toNatClampNeg, nx, la, .ref M.1.length :: r) else none
  | _ => none
def am_acp (nx : Nat) (M : am_M) (la st : List Value) : Option am_F := match st with
  | .int n :: .int dp :: .ref i2 :: .int sp :: .ref i1 :: r => (match M.1[i1]?, M.1[i2]? with
    | some q1, some q2 => if (r.map fun v => v.category).sum ≤ 8 ∧ q1.1 = 0 ∧ q2.1 = 0 ∧ ¬ sp < 0 ∧ ¬ dp < 0 ∧ ¬ n < 0 ∧ sp.toNatClampNeg + n.toNatClampNeg ≤ q1.2 ∧ dp.toNatClampNeg + n.toNatClampNeg ≤ q2.2 then some ((M.1, va_up M.2.1 i2 (va_cpy (M.2.1 i1) (M.2.1 i2) sp.toNatClampNeg dp.toNatClampNeg n.toNatClampNeg), M.2.2.1, M.2.2.2), nx, la, r) else none
    | _, _ => none)
  | _ => none
/-- arguments off the stack, in their order, and the rest -/
def am_take : Nat → List Value → List Value → Option (List Value × List Value)
  | 0, st, acc => some (acc, st)
  | n + 1, v :: st, acc => am_take n st (v :: acc)
  | _ + 1, [], _ => none
def am_lay : List Value → List Value
  | [] => []
  | v :: l => if v.category = 2 then v :: am_U :: am_lay l else v :: am_lay l
def am_calS (a b nx : Nat) (M : am_M) (la st : List Value) : Option am_R := match am_take b st [] with
  | some (as, r) => if (r.map fun v => v.category).sum ≤ 8 then some (.inr (.inr (a, as, (M, nx, la, r)))) else none
  | none => none
/-- is this the kind of the class of method a? -/
def am_cvk (a : Nat) (k : Option Nat) : Bool := match am_mt[a]? with
  | some t => decide (10 ≤ t.2.2.2.2.1 ∧ k = some t.2.2.2.2.1)
  | none => false
def am_calV (a b nx : Nat) (M : am_M) (la st : List Value) : Option am_R := match am_take b st [] with
  | some (as, .ref i :: r) => if (r.map fun v => v.category).sum ≤ 8 ∧ am_cvk a ((M.1[i]?).map (fun q => q.1)) = true then some (.inr (.inr (a, .ref i :: as, (M, nx, la, r)))) else none
  | _ => none
def am_retI (t : am_T) (M : am_M) (st : List Value) : Option am_R := match st with
  | [.int x] => if t.2.2.2.1 = some .int ∨ (t.2.2.2.1 = some .boolean ∧ (x = 0 ∨ x = 1)) then some (.inr (.inl (some (.int x), M))) else none
  | _ => none
def am_retL (t : am_T) (M : am_M) (st : List Value) : Option am_R := match st with
  | [.long x] => if t.2.2.2.1 = some .long then some (.inr (.inl (some (.long x), M))) else none
  | _ => none
def am_isO : Option FieldType → Bool
  | some (.object _) => true
  | _ => false
def am_retA (t : am_T) (M : am_M) (st : List Value) : Option am_R := match st with
  | [.ref i] => if am_isO t.2.2.2.1 = true then some (.inr (.inl (some (.ref i), M))) else none
  | [.null] => if am_isO t.2.2.2.1 = true then some (.inr (.inl (some .null, M))) else none
  | _ => none
def am_retV (t : am_T) (M : am_M) (st : List Value) : Option am_R := match st with
  | [] => if t.2.2.2.1 = none then some (.inr (.inl (none, M))) else none
  | _ => none
def am_pop (nx : Nat) (M : am_M) (la st : List Value) : Option am_F := match st with
  | .ref _ :: r => if (r.map fun v => v.category).sum ≤ 8 then some (M, nx, la, r) else none
  | _ => none
/-- the instructions that touch cells, or call, or end -/
def am_mem (S : am_S) (t : am_T) (ins : Instr) (nx a b : Nat) (M : am_M) (la st : List Value) : Option am_R := match ins with
  | .getfield _ => (am_get a b nx M la st).map .inl
  | .putfield _ => (am_put a b nx M la st).map .inl
  | .arraylength => (am_alen S nx M la st).map .inl
  | .iaload => (am_iald S nx M la st).map .inl
  | .laload => (am_lald nx M la st).map .inl
  | .aaload => (am_aald nx M la st).map .inl
  | .iastore => (am_iast nx M la st).map .inl
  | .lastore => (am_last nx M la st).map .inl
  | .aastore => (am_aast nx M la st).map .inl
  | .new _ => (am_mkO a nx M la st).map .inl
  | .newarray .int => (am_mkA 0 nx M la st).map .inl
  | .newarray .long => (am_mkA 1 nx M la st).map .inl
  | .anewarray _ => (am_mkA a nx M la st).map .inl
  | .invokestatic _ => if b = 300 then (am_acp nx M la st).map .inl else am_calS a b nx M la st
  | .invokevirtual _ => am_calV a b nx M la st
  | .invokespecial _ => if b = 200 then (am_pop nx M la st).map .inl else am_calV a (b % 100) nx M la st
  | .ireturn => am_retI t M st
  | .lreturn => am_retL t M st
  | .areturn => am_retA t M st
  | .return_ => am_retV t M st
  | _ => none
def am_step (S : am_S) (t : am_T) (f : am_F) : Option am_R := match t.2.2.2.2.2.lookup f.2.1 with
  | some e => (match am_pure e.1 f.2.1 e.2.1 e.2.2.1 f.2.2.1 f.2.2.2 with
    | some q => some (.inl (f.1, q))
    | none => am_mem S t e.1 e.2.1 e.2.2.1 e.2.2.2.1 f.1 f.2.2.1 f.2.2.2)
  | none => none
/-- the frame with which a method begins -/
def am_ent (t : am_T) (M : am_M) (as : List Value) : am_F := (M, 0, am_lay as ++ List.replicate (t.2.2.1 - (am_lay as).length) am_U, [])
def am_run (S : am_S) : Nat → Nat → am_T → am_F → Option (Option Value × am_M)
  | 0, _, _, _ => none
  | f + 1, d, t, fr => match am_step S t fr with
    | none => none
    | some (.inl fr') => am_run S f d t fr'
    | some (.inr (.inl r)) => some r
    | some (.inr (.inr (j, as, fr'))) => (match d, am_mt[j]? with
      | d' + 1, some t' => if (am_lay as).length ≤ t'.2.2.1 then (match am_run S f d' t' (am_ent t' fr'.1 as) with
        | some (v, M2) => am_run S f d t (M2, fr'.2.1, fr'.2.2.1, v.toList ++ fr'.2.2.2)
        | none => none) else none
      | _, _ => none)
end
section
/-! ===== the table is right: what the machine decodes and links at each place ===== -/
/-- by method: where its code, its class, its kind, its choice stand in lw_tbl; 1 if it is static -/
def am_hm : List (Nat × Nat × Nat × Nat × Nat) := [(62, 47, 61, 0, 0), (74, 48, 73, 0, 0), (91, 49, 90, 0, 0), (106, 50, 105, 0, 0), (132, 51, 131, 0, 0), (152, 52, 151, 0, 0), (187, 53, 186, 0, 1), (234, 47, 232, 233, 0), (238, 47, 236, 237, 0), (242, 47, 241, 0, 0), (246, 55, 245, 0, 0), (264, 47, 262, 263, 0), (267, 47, 266, 0, 1), (271, 47, 269, 270, 0), (275, 47, 273, 274, 0), (279, 47, 277, 278, 0), (283, 47, 282, 1, 0), (287, 55, 285, 286, 0), (290, 56, 289, 0, 1), (294, 55, 292, 293, 0), (297, 56, 296, 0, 1), (301, 47, 299, 300, 0), (305, 55, 303, 304, 0), (309, 47, 308, 2, 0), (313, 47, 311, 312, 0), (317, 55, 315, 316, 0), (321, 47, 319, 320, 0), (325, 55, 323, 324, 0), (330, 47, 328, 329, 0), (334, 55, 332, 333, 0), (338, 47, 336, 337, 0), (342, 47, 341, 3, 0), (346, 49, 344, 345, 0), (351, 47, 349, 350, 0), (355, 49, 353, 354, 0), (359, 47, 357, 358, 0), (363, 47, 361, 362, 0), (367, 49, 365, 366, 0), (374, 47, 372, 373, 0), (378, 47, 377, 4, 0), (382, 47, 381, 5, 0), (386, 47, 385, 6, 0), (390, 47, 389, 7, 0), (394, 47, 393, 8, 0), (398, 52, 396, 397, 0), (401, 53, 400, 0, 1), (405, 52, 403, 404, 0), (409, 52, 407, 408, 0), (413, 52, 412, 9, 0), (418, 48, 416, 417, 0), (421, 56, 420, 0, 1), (424, 48, 423, 0, 1), (428, 47, 426, 427, 0), (432, 52, 430, 431, 0), (436, 52, 435, 10, 0), (440, 47, 438, 439, 0), (444, 47, 443, 11, 0), (448, 52, 446, 447, 0), (452, 52, 450, 451, 0), (456, 47, 454, 455, 0), (460, 47, 459, 12, 0), (464, 47, 462, 463, 0), (468, 47, 466, 467, 0), (472, 47, 471, 13, 0), (476, 50, 474, 475, 0), (481, 50, 480, 14, 0), (484, 56, 483, 0, 1), (490, 47, 489, 15, 0), (494, 47, 492, 493, 0), (498, 47, 497, 16, 0), (502, 47, 501, 17, 0), (506, 47, 504, 505, 0), (510, 47, 508, 509, 0), (514, 47, 513, 18, 0), (518, 47, 517, 19, 0), (522, 47, 520, 521, 0), (525, 47, 524, 0, 1), (528, 47, 527, 0, 1), (531, 47, 530, 0, 1), (535, 47, 534, 20, 0), (539, 51, 537, 538, 0), (544, 51, 542, 543, 0), (547, 56, 546, 0, 1), (552, 51, 550, 551, 0), (556, 47, 554, 555, 0), (560, 51, 558, 559, 0), (564, 47, 562, 563, 0), (567, 47, 566, 0, 1), (571, 47, 570, 21, 0), (576, 47, 574, 575, 0), (581, 47, 579, 580, 0), (585, 47, 583, 584, 0), (589, 47, 587, 588, 0), (593, 47, 592, 22, 0), (597, 47, 596, 23, 0), (601, 47, 599, 600, 0), (605, 47, 603, 604, 0), (609, 47, 607, 608, 0), (614, 55, 612, 613, 0), (621, 49, 619, 620, 0), (627, 54, 626, 0, 0), (720, 54, 718, 719, 0), (723, 54, 722, 0, 1), (727, 54, 725, 726, 0), (731, 54, 730, 24, 0), (735, 54, 733, 734, 0), (738, 54, 737, 0, 1), (742, 54, 740, 741, 0), (746, 54, 744, 745, 0), (750, 54, 748, 749, 0), (754, 54, 753, 25, 0), (758, 54, 757, 26, 0), (762, 54, 761, 27, 0), (766, 54, 764, 765, 0), (770, 54, 769, 28, 0), (774, 54, 772, 773, 0), (778, 54, 776, 777, 0), (782, 54, 780, 781, 0), (786, 54, 784, 785, 0), (789, 54, 788, 0, 1), (793, 54, 791, 792, 0), (797, 54, 796, 29, 0), (801, 54, 799, 800, 0), (805, 54, 803, 804, 0), (809, 54, 807, 808, 0), (813, 54, 812, 30, 0), (817, 54, 816, 31, 0), (822, 54, 821, 32, 0), (826, 54, 825, 33, 0), (830, 54, 829, 34, 0), (835, 54, 834, 35, 0), (839, 54, 838, 36, 0), (843, 54, 841, 842, 0), (847, 54, 846, 37, 0), (851, 54, 849, 850, 0), (855, 54, 854, 38, 0), (859, 54, 858, 39, 0), (863, 54, 861, 862, 0), (867, 54, 866, 40, 0), (871, 54, 870, 41, 0), (876, 54, 874, 875, 0), (880, 54, 878, 879, 0), (884, 54, 883, 42, 0), (887, 54, 886, 0, 1), (891, 54, 889, 890, 0), (895, 54, 893, 894, 0), (899, 54, 897, 898, 0), (903, 54, 902, 43, 0), (907, 54, 905, 906, 0), (911, 54, 910, 44, 0), (915, 54, 914, 45, 0), (919, 54, 917, 918, 0), (923, 54, 921, 922, 0), (927, 54, 925, 926, 0), (931, 54, 929, 930, 0), (935, 54, 933, 934, 0), (939, 54, 937, 938, 0), (943, 54, 941, 942, 0), (947, 54, 945, 946, 0), (951, 54, 949, 950, 0), (0, 0, 0, 0, 2)]
def am_has (h : Nat) (w : Cond) : Bool := decide (lw_tbl[h]? = some w) && goodWord w
def am_len (ins : Instr) : Nat := match ins with
  | .tableswitch _ _ _ _ => 0
  | .lookupswitch _ _ => 0
  | .bipush _ => 2
  | .sipush _ => 3
  | .ldc2_w _ => 3
  | .iload _ => 2
  | .lload _ => 2
  | .aload _ => 2
  | .istore _ => 2
  | .lstore _ => 2
  | .astore _ => 2
  | .iinc _ _ => 3
  | .goto _ => 3
  | .ifCond _ _ => 3
  | .if_icmp _ _ => 3
  | .ifnull _ => 3
  | .ifnonnull _ => 3
  | .getfield _ => 3
  | .putfield _ => 3
  | .new _ => 3
  | .newarray _ => 2
  | .anewarray _ => 3
  | .invokestatic _ => 3
  | .invokevirtual _ => 3
  | .invokespecial _ => 3
  | _ => 1
def am_np (y : MethodName) : Option Nat := (parseMethodDescriptor y.desc).map (fun d => d.parameters.length)
/-- what the tables must say at a place -/
def am_okL (t : am_T) (pc : Nat) (ins : Instr) (a b h : Nat) : Bool := match ins with
  | .goto o => decide ((pc : Int) + o = (a : Int))
  | .ifCond _ o => decide ((pc : Int) + o = (a : Int))
  | .if_icmp _ o => decide ((pc : Int) + o = (a : Int))
  | .ifnull o => decide ((pc : Int) + o = (a : Int))
  | .ifnonnull o => decide ((pc : Int) + o = (a : Int))
  | .ldc2_w ix => am_has h (.constantLong t.1.cls ix (Int64.ofNat a))
  | .getfield ix => (match vwCl[a]? with
    | some q => decide (b < q.2.2) && am_has h (.fieldLink t.1.cls ix (q.2.1 b).1 (q.2.1 b).2.1 (q.2.1 b).2.2.1)
    | none => false)
  | .putfield ix => (match vwCl[a]? with
    | some q => decide (b < q.2.2) && am_has h (.fieldLink t.1.cls ix (q.2.1 b).1 (q.2.1 b).2.1 (q.2.1 b).2.2.1) && (decide ((q.2.1 b).2.2.2 = false) || (decide ((q.2.1 b).2.2.2 = true) && decide (t.1.name = "<init>") && decide ((q.2.1 b).1 = t.1.cls)))
    | none => false)
  | .new ix => (match vwCl[a - 10]? with
    | some q => decide (10 ≤ a) && am_has h (.classLink t.1.cls ix q.1)
    | none => false)
  | .anewarray ix => decide (2 ≤ a ∧ a < 5) && am_has h (.classLink t.1.cls ix (am_ra a))
  | .invokestatic ix => if b = 300 then am_has h (.methodLink t.1.cls ix arraycopyName) else (match am_mt[a]?, am_hm[a]? with
    | some t', some m' => am_has h (.methodLink t.1.cls ix t'.1) && decide (am_np t'.1 = some b) && decide (m'.2.2.2.2 = 1)
    | _, _ => false)
  | .invokevirtual ix => (match am_mt[a]?, am_hm[a]? with
    | some t', some m' => am_has h (.methodLink t.1.cls ix t'.1) && decide (am_np t'.1 = some b) && decide (m'.2.2.2.2 = 0) && decide (t'.1.name ≠ "<init>")
    | _, _ => false)
  | .invokespecial ix => if b = 200 then am_has h (.methodLink t.1.cls ix objectInit) else (match am_mt[a]?, am_hm[a]? with
    | some t', some m' => (if b < 100 then am_has h (.methodLink t.1.cls ix t'.1) else decide (lw_tbl[h]? = some (.methodLinkNest t.1.cls ix t'.1 "TwoGames"))) && decide (am_np t'.1 = some (b % 100)) && decide (m'.2.2.2.2 = 0) && decide (t'.1.name = "<init>")
    | _, _ => false)
  | _ => true
def am_okE (t : am_T) (e : am_E) : Bool := decide (decode t.2.1 e.1 = .ok (e.2.1, e.2.2.1 - e.1)) && (decide (am_len e.2.1 = 0) || decide (e.2.2.1 = e.1 + am_len e.2.1)) && am_okL t e.1 e.2.1 e.2.2.2.1 e.2.2.2.2.1 e.2.2.2.2.2
/-- what the tables must say of a method -/
def am_okM (t : am_T) (m : Nat × Nat × Nat × Nat × Nat) : Bool := am_has m.1 (.code t.1 t.2.1 t.2.2.1 t.2.2.2.1) && am_has m.2.1 (.initialized t.1.cls) && plainFor t.1 && decide (t.1.cls ≠ "java/lang/invoke/MethodHandle" ∧ t.1.cls ≠ "java/lang/invoke/VarHandle" ∧ t.2.2.1 ≤ 80) && (if m.2.2.2.2 = 1 then am_has m.2.2.1 (.static t.1) else am_has m.2.2.1 (.instanceMethod t.1) && decide (10 ≤ t.2.2.2.2.1) && (match vwCl[t.2.2.2.2.1 - 10]? with
    | some q => decide (q.1 = t.1.cls)
    | none => false) && (if t.1.name = "<init>" then decide (t.2.2.2.1 = none) else am_has m.2.2.2.1 (.selects t.1.cls t.1 t.1)))
end
section
/-! ===== the abstract machine's values, locals and memory beside the real ones ===== -/
def am_tv (h0 b : Nat) (v : Value) : Value := match v with
  | .ref i => .ref (h0 + i)
  | .retAddr _ => .ref b
  | v => v
theorem am_tv_cat (h0 b : Nat) (v : Value) : (am_tv h0 b v).category = v.category := by cases v <;> rfl
def am_L (h0 b : Nat) (ls : Array Slot) (la : List Value) : Prop := ls.size = la.length ∧ lv_wf ls ∧ ∀ (i : Nat) (v : Value), la[i]? = some v → v ≠ am_U → ls[i]? = some (.val (am_tv h0 b v))
theorem am_s1_len : ∀ (l : List Value) (i : Nat) (v : Value), (am_s1 l i v).length = l.length
  | [], i, v => by simp [am_s1]
  | _ :: l, 0, v => by simp [am_s1]
  | w :: l, 1, v => by simp [am_s1, am_s1_len l 0 v]
  | w :: l, i + 2, v => by simp [am_s1, am_s1_len l (i + 1) v]
theorem am_s1_get : ∀ (l : List Value) (i : Nat) (v : Value) (j : Nat), (am_s1 l i v)[j]? = if j = i then (if i < l.length then some v else none) else if j + 1 = i then (l[j]?).map (fun w => if w.category = 2 then am_U else w) else l[j]?
  | [], i, v, j => by simp [am_s1]
  | _ :: l, 0, v, j => by
    cases j with
    | zero => simp [am_s1]
    | succ j => simp [am_s1]
  | w :: l, 1, v, j => by
    cases j with
    | zero => simp [am_s1]
    | succ j =>
      have h := am_s1_get l 0 v j
      simp only [am_s1, List.getElem?_cons_succ, h]
      simp
  | w :: l, i + 2, v, j => by
    cases j with
    | zero => simp [am_s1]
    | succ j =>
      have h := am_s1_get l (i + 1) v j
      have e : (i + 2 < l.length + 1) = (i + 1 < l.length) := propext ⟨fun h => by omega, fun h => by omega⟩
      simp only [am_s1, List.getElem?_cons_succ, h]
      simp [e]
def am_al (h0 b : Nat) (la : List Value) : List (Nat × Value) := (List.range la.length).filterMap (fun i => match la[i]? with
  | some v => if v = am_U then none else some (i, am_tv h0 b v)
  | none => none)
theorem am_al_mem {h0 b : Nat} {la : List Value} {i : Nat} {v : Value} (h : la[i]? = some v) (hv : v ≠ am_U) : (i, am_tv h0 b v) ∈ am_al h0 b la := by
  refine List.mem_filterMap.mpr ⟨i, List.mem_range.mpr (List.getElem?_eq_some_iff.mp h).1, ?_⟩
  simp [h, hv]
theorem am_L_has {h0 b : Nat} {ls : Array Slot} {la : List Value} (h : am_L h0 b ls la) : lv_has ls la.length (am_al h0 b la) := by
  refine ⟨h.1, h.2.1, fun q hq => ?_⟩
  obtain ⟨i, -, hi⟩ := List.mem_filterMap.mp hq
  cases hl : la[i]? with
  | none => simp [hl] at hi
  | some v =>
    by_cases hv : v = am_U
    · simp [hl, hv] at hi
    · simp [hl, hv] at hi
      rw [← hi]
      exact h.2.2 i v hl hv
theorem am_L_s1 {h0 b : Nat} {ls' : Array Slot} {la : List Value} {i : Nat} {v : Value} (h' : lv_has ls' la.length ((i, am_tv h0 b v) :: (am_al h0 b la).filter (fun q => !(q.1 == i) && !(q.1 + 1 == i && q.2.category == 2)))) : am_L h0 b ls' (am_s1 la i v) := by
  refine ⟨by rw [am_s1_len]; exact h'.1, h'.2.1, fun j w hj hw => ?_⟩
  rw [am_s1_get] at hj
  by_cases e : j = i
  · rw [if_pos e] at hj
    split at hj
    · cases hj
      rw [e]
      exact h'.2.2 (i, am_tv h0 b v) List.mem_cons_self
    · cases hj
  · rw [if_neg e] at hj
    by_cases e2 : j + 1 = i
    · rw [if_pos e2] at hj
      cases hl : la[j]? with
      | none => simp [hl] at hj
      | some u =>
        rw [hl, Option.map_some] at hj
        by_cases hc : u.category = 2
        · rw [if_pos hc] at hj
          exact absurd (Option.some.inj hj).symm hw
        · rw [if_neg hc] at hj
          have hj := Option.some.inj hj
          subst hj
          refine h'.2.2 (j, am_tv h0 b _) (List.mem_cons_of_mem _ (List.mem_filter.mpr ⟨am_al_mem hl hw, ?_⟩))
          simp [e, am_tv_cat, hc]
    · rw [if_neg e2] at hj
      refine h'.2.2 (j, am_tv h0 b w) (List.mem_cons_of_mem _ (List.mem_filter.mpr ⟨am_al_mem hj hw, ?_⟩))
      simp [e, e2]
theorem am_L_s2 {h0 b : Nat} {ls' : Array Slot} {la : List Value} {i : Nat} {v : Value} (hi : i + 1 < la.length) (h' : lv_has ls' la.length ((i, am_tv h0 b v) :: (am_al h0 b la).filter (fun q => !(q.1 == i) && (!(q.1 == i + 1) && !(q.1 + 1 == i && q.2.category == 2))))) : am_L h0 b ls' (am_s2 la i v) := by
  unfold am_s2
  refine ⟨by rw [am_s1_len, am_s1_len]; exact h'.1, h'.2.1, fun j w hj hw => ?_⟩
  rw [am_s1_get, am_s1_len] at hj
  by_cases e : j = i
  · rw [if_pos e, if_pos (by omega)] at hj
    cases hj
    rw [e]
    exact h'.2.2 (i, am_tv h0 b v) List.mem_cons_self
  · rw [if_neg e] at hj
    rw [am_s1_get] at hj
    by_cases e2 : j + 1 = i
    · rw [if_pos e2, if_neg (by omega), if_neg (by omega)] at hj
      cases hl : la[j]? with
      | none => simp [hl] at hj
      | some u =>
        rw [hl, Option.map_some] at hj
        by_cases hc : u.category = 2
        · rw [if_pos hc] at hj
          exact absurd (Option.some.inj hj).symm hw
        · rw [if_neg hc] at hj
          have hj := Option.some.inj hj
          subst hj
          refine h'.2.2 (j, am_tv h0 b _) (List.mem_cons_of_mem _ (List.mem_filter.mpr ⟨am_al_mem hl hw, ?_⟩))
          simp [e, am_tv_cat, hc]
          omega
    · rw [if_neg e2] at hj
      by_cases e3 : j = i + 1
      · rw [if_pos e3, if_pos hi] at hj
        exact absurd (Option.some.inj hj).symm hw
      · rw [if_neg e3, if_neg (by omega)] at hj
        refine h'.2.2 (j, am_tv h0 b w) (List.mem_cons_of_mem _ (List.mem_filter.mpr ⟨am_al_mem hj hw, ?_⟩))
        simp [e, e2, e3]
theorem am_lay_len (h0 b : Nat) : ∀ as : List Value, (lg_sl (as.map (am_tv h0 b))).length = (am_lay as).length
  | [] => rfl
  | v :: l => by
    have h := am_lay_len h0 b l
    by_cases hc : v.category = 2
    · simp only [lg_sl, List.map_cons, List.flatMap_cons, am_tv_cat, hc, if_true, am_lay, List.length_append, List.length_cons, List.length_nil] at h ⊢
      omega
    · simp only [lg_sl, List.map_cons, List.flatMap_cons, am_tv_cat, hc, if_false, am_lay, List.length_append, List.length_cons, List.length_nil] at h ⊢
      omega
theorem am_lay_get (h0 b : Nat) : ∀ (as : List Value) (i : Nat) (v : Value), (am_lay as)[i]? = some v → v ≠ am_U → (lg_sl (as.map (am_tv h0 b)))[i]? = some (.val (am_tv h0 b v))
  | [], i, v, h, _ => by simp [am_lay] at h
  | u :: l, i, v, h, hv => by
    by_cases hc : u.category = 2
    · have e : lg_sl ((u :: l).map (am_tv h0 b)) = .val (am_tv h0 b u) :: .second :: lg_sl (l.map (am_tv h0 b)) := by simp [lg_sl, am_tv_cat, hc]
      rw [e]
      simp only [am_lay, hc, if_true] at h
      match i, h with
      | 0, h => simp at h; simp [h]
      | 1, h => simp at h; exact absurd h.symm hv
      | i + 2, h => simp only [List.getElem?_cons_succ] at h ⊢; exact am_lay_get h0 b l i v h hv
    · have e : lg_sl ((u :: l).map (am_tv h0 b)) = .val (am_tv h0 b u) :: lg_sl (l.map (am_tv h0 b)) := by simp [lg_sl, am_tv_cat, hc]
      rw [e]
      simp only [am_lay, hc, if_false] at h
      match i, h with
      | 0, h => simp at h; simp [h]
      | i + 1, h => simp only [List.getElem?_cons_succ] at h ⊢; exact am_lay_get h0 b l i v h hv
theorem am_L_ent {h0 b n : Nat} (as : List Value) (h : (am_lay as).length ≤ n) : am_L h0 b ((lg_sl (as.map (am_tv h0 b)) ++ List.replicate (n - (lg_sl (as.map (am_tv h0 b))).length) Slot.unset).toArray) (am_lay as ++ List.replicate (n - (am_lay as).length) am_U) := by
  have hl := am_lay_len h0 b as
  have he := lv_entry (as.map (am_tv h0 b)) (n := n) (by omega)
  refine ⟨by rw [he.1]; simp; omega, he.2.1, fun i v hi hv => ?_⟩
  rw [List.getElem?_toArray]
  by_cases hlt : i < (am_lay as).length
  · rw [List.getElem?_append_left hlt] at hi
    rw [List.getElem?_append_left (by omega)]
    exact am_lay_get h0 b as i v hi hv
  · rw [List.getElem?_append_right (by omega)] at hi
    exact absurd (List.eq_of_mem_replicate (List.mem_of_getElem? hi)) hv
theorem am_take_spec : ∀ (n : Nat) (st acc as r : List Value), am_take n st acc = some (as, r) → ∃ l : List Value, l.length = n ∧ st = l ++ r ∧ as = l.reverse ++ acc
  | 0, st, acc, as, r, h => by
    simp only [am_take] at h
    cases h
    exact ⟨[], rfl, rfl, rfl⟩
  | n + 1, [], acc, as, r, h => by simp [am_take] at h
  | n + 1, v :: st, acc, as, r, h => by
    simp only [am_take] at h
    obtain ⟨l, h1, h2, h3⟩ := am_take_spec n st (v :: acc) as r h
    exact ⟨v :: l, by simp [h1], by simp [h2], by simp [h3]⟩
/-! the memory -/
def am_cv (h0 : Nat) (M : am_M) (i c k : Nat) : Value := if am_fk c k = 1 then .long (M.2.2.1 i k) else if am_fk c k = 2 then va_rf ((M.2.2.2 i k).map (fun j => h0 + j)) else .int (M.2.1 i k)
theorem am_tv_rf (h0 b : Nat) (r : Option Nat) : am_tv h0 b (va_rf r) = va_rf (r.map (fun j => h0 + j)) := by cases r <;> rfl
theorem am_tv_gv (h0 b : Nat) (M : am_M) (i c k : Nat) : am_tv h0 b (am_gv M i c k) = am_cv h0 M i c k := by
  unfold am_gv am_cv
  split
  · rfl
  · split
    · exact am_tv_rf h0 b _
    · rfl
def am_at (h0 : Nat) (D : va_G) (cA : Nat → ClassId) (M : am_M) (H : Heap) (i : Nat) (q : Nat × Nat) : Prop :=
  if q.1 = 0 then H[h0 + i]? = some (arrV (cA 0) q.2 (fun j => .int (M.2.1 i j)))
  else if q.1 = 1 then H[h0 + i]? = some (arrV (cA 1) q.2 (fun j => .long (M.2.2.1 i j)))
  else if q.1 < 10 then H[h0 + i]? = some (arrV (cA q.1) q.2 (fun j => va_rf ((M.2.2.2 i j).map (fun z => h0 + z))))
  else ∃ r : vw_C, vwCl[q.1 - 10]? = some r ∧ t_OB (h0 + i) (D.1 (q.1 - 10)) r.2.2 (D.2 (q.1 - 10)) H (am_cv h0 M i (q.1 - 10))
def am_Rep (h0 : Nat) (H0 : Heap) (D : va_G) (cA : Nat → ClassId) (M : am_M) (H : Heap) : Prop :=
  H.size = h0 + M.1.length ∧ (∀ q : Nat, q < h0 → H[q]? = H0[q]?) ∧ ∀ (i : Nat) (q : Nat × Nat), M.1[i]? = some q → am_at h0 D cA M H i q
theorem am_at_congr {h0 : Nat} {D : va_G} {cA : Nat → ClassId} {M M' : am_M} {H H' : Heap} {i : Nat} {q : Nat × Nat} (hI : M'.2.1 i = M.2.1 i) (hL : M'.2.2.1 i = M.2.2.1 i) (hR : M'.2.2.2 i = M.2.2.2 i) (hH : H'[h0 + i]? = H[h0 + i]?) (h : am_at h0 D cA M H i q) : am_at h0 D cA M' H' i q := by
  unfold am_at at h ⊢
  by_cases e0 : q.1 = 0
  · rw [if_pos e0] at h ⊢
    rw [hI, hH]
    exact h
  · rw [if_neg e0] at h ⊢
    by_cases e1 : q.1 = 1
    · rw [if_pos e1] at h ⊢
      rw [hL, hH]
      exact h
    · rw [if_neg e1] at h ⊢
      by_cases e2 : q.1 < 10
      · rw [if_pos e2] at h ⊢
        rw [hR, hH]
        exact h
      · rw [if_neg e2] at h ⊢
        obtain ⟨r, h1, h2⟩ := h
        refine ⟨r, h1, (h2.kept hH).to (fun k _ => ?_)⟩
        unfold am_cv
        rw [hI, hL, hR]
theorem am_Rep_upd {h0 : Nat} {H0 : Heap} {D : va_G} {cA : Nat → ClassId} {M M' : am_M} {H H' : Heap} {i : Nat} (h : am_Rep h0 H0 D cA M H) (hs : M'.1 = M.1) (hz : H'.size = H.size) (ho : ∀ q : Nat, q ≠ h0 + i → H'[q]? = H[q]?) (hI : ∀ j, j ≠ i → M'.2.1 j = M.2.1 j) (hL : ∀ j, j ≠ i → M'.2.2.1 j = M.2.2.1 j) (hR : ∀ j, j ≠ i → M'.2.2.2 j = M.2.2.2 j) (hi : ∀ q, M.1[i]? = some q → am_at h0 D cA M' H' i q) : am_Rep h0 H0 D cA M' H' := by
  refine ⟨by rw [hz, hs]; exact h.1, fun q hq => by rw [ho q (by omega)]; exact h.2.1 q hq, fun j q hj => ?_⟩
  rw [hs] at hj
  by_cases e : j = i
  · subst e
    exact hi q hj
  · exact am_at_congr (hI j e) (hL j e) (hR j e) (ho _ (by omega)) (h.2.2 j q hj)
theorem am_Rep_new {h0 : Nat} {H0 : Heap} {D : va_G} {cA : Nat → ClassId} {M : am_M} {H H' : Heap} {kd len : Nat} (h : am_Rep h0 H0 D cA M H) (hz : H'.size = H.size + 1) (ho : ∀ q : Nat, q < H.size → H'[q]? = H[q]?) (hi : am_at h0 D cA (am_new M kd len) H' M.1.length (kd, len)) : am_Rep h0 H0 D cA (am_new M kd len) H' := by
  refine ⟨by rw [hz, h.1]; simp [am_new]; omega, fun q hq => by rw [ho q (by rw [h.1]; omega)]; exact h.2.1 q hq, fun j q hj => ?_⟩
  simp only [am_new] at hj
  by_cases e : j < M.1.length
  · rw [List.getElem?_append_left e] at hj
    have hne : j ≠ M.1.length := by omega
    exact am_at_congr (va_up_ne _ _ hne) (va_up_ne _ _ hne) (va_up_ne _ _ hne) (ho _ (by rw [h.1]; omega)) (h.2.2 j q hj)
  · rw [List.getElem?_append_right (by omega)] at hj
    have hz : j - M.1.length < 1 := (List.getElem?_eq_some_iff.mp hj).1
    have ej : j = M.1.length := by omega
    subst ej
    rw [Nat.sub_self] at hj
    cases hj
    exact hi
def am_isN : Cond → Bool
  | .methodLinkNest _ _ _ _ => true
  | _ => false
def am_Ts : List Cond := lw_tbl.filter goodWord
def am_tys (cA : Nat → ClassId) : List (ClassId × FieldType) := [(cA 0, .int), (cA 1, .long), (cA 2, .object (am_ra 2)), (cA 3, .object (am_ra 3)), (cA 4, .object (am_ra 4))]
def am_Kn (D : va_G) (cA : Nat → ClassId) (U : State) : Prop := va_K D vwCl (am_tys cA) U ∧ (∀ w ∈ lw_tbl, am_isN w = true → va_Nw w U) ∧ va_AO (am_ra 2) U ∧ va_AO (am_ra 3) U ∧ va_AO (am_ra 4) U
theorem am_Kn_warm {D : va_G} {cA : Nat → ClassId} {s U : State} (hW : s.WarmedH U.vm) (h : am_Kn D cA s) : am_Kn D cA U := by
  refine ⟨h.1.moved hW.alike, fun w hw hn => ?_, h.2.2.1.moved hW.alike, h.2.2.2.1.moved hW.alike, h.2.2.2.2.moved hW.alike⟩
  have hz := h.2.1 w hw hn
  cases w <;> first | exact va_Nw.warmM hW hz | cases hn
theorem am_Kn_same {D : va_G} {cA : Nat → ClassId} {s U : State} (hv : s.vm = U.vm) (h : am_Kn D cA s) : am_Kn D cA U := by
  have ha : s.vm.Alike U.vm := by rw [hv]; exact Vm.Alike.refl _
  refine ⟨h.1.moved ha, fun w hw hn => ?_, h.2.2.1.moved ha, h.2.2.2.1.moved ha, h.2.2.2.2.moved ha⟩
  have hz := h.2.1 w hw hn
  cases w <;> first | exact va_Nw.same rfl hv hz | cases hn
theorem am_has_spec {h : Nat} {w : Cond} (hh : am_has h w = true) : w ∈ am_Ts := by
  simp only [am_has, Bool.and_eq_true, decide_eq_true_eq] at hh
  exact List.mem_filter.mpr ⟨List.mem_of_getElem? hh.1, hh.2⟩
theorem am_good : GoodIn am_Ts am_Ts := fun w hw => ⟨hw, good_of_word (List.mem_filter.mp hw).2⟩
end
section
/-! ===== an instruction that touches no cell: the real machine follows the abstract one ===== -/
theorem am_ldI_spec {nx i : Nat} {la st : List Value} {q : am_P} (h : am_ldI nx la st i = some q) : ∃ x, la[i]? = some (.int x) ∧ q = (nx, la, .int x :: st) := by
  unfold am_ldI at h
  split at h
  · next x hx => exact ⟨x, hx, (Option.some.inj h).symm⟩
  · cases h
theorem am_ldL_spec {nx i : Nat} {la st : List Value} {q : am_P} (h : am_ldL nx la st i = some q) : ∃ x, la[i]? = some (.long x) ∧ q = (nx, la, .long x :: st) := by
  unfold am_ldL at h
  split at h
  · next x hx => exact ⟨x, hx, (Option.some.inj h).symm⟩
  · cases h
theorem am_ldA_spec {nx i : Nat} {la st : List Value} {q : am_P} (h : am_ldA nx la st i = some q) : ∃ v, la[i]? = some v ∧ am_isR v = true ∧ q = (nx, la, v :: st) := by
  unfold am_ldA at h
  split at h
  · next v hv =>
    split at h
    · next hr => exact ⟨v, hv, hr, (Option.some.inj h).symm⟩
    · cases h
  · cases h
theorem am_stI_spec {nx i : Nat} {la st : List Value} {q : am_P} (h : am_stI nx la st i = some q) : ∃ x r, st = .int x :: r ∧ i < la.length ∧ q = (nx, am_s1 la i (.int x), r) := by
  unfold am_stI at h
  split at h
  · next x r =>
    split at h
    · next hi => exact ⟨x, r, rfl, hi, (Option.some.inj h).symm⟩
    · cases h
  · cases h
theorem am_stL_spec {nx i : Nat} {la st : List Value} {q : am_P} (h : am_stL nx la st i = some q) : ∃ x r, st = .long x :: r ∧ i + 1 < la.length ∧ q = (nx, am_s2 la i (.long x), r) := by
  unfold am_stL at h
  split at h
  · next x r =>
    split at h
    · next hi => exact ⟨x, r, rfl, hi, (Option.some.inj h).symm⟩
    · cases h
  · cases h
theorem am_stA_spec {nx i : Nat} {la st : List Value} {q : am_P} (h : am_stA nx la st i = some q) : ∃ v r, st = v :: r ∧ i < la.length ∧ am_isR v = true ∧ q = (nx, am_s1 la i v, r) := by
  unfold am_stA at h
  split at h
  · next v r =>
    split at h
    · next hi => exact ⟨v, r, rfl, hi.1, hi.2, (Option.some.inj h).symm⟩
    · cases h
  · cases h
theorem am_inc_spec {nx i : Nat} {n : Int} {la st : List Value} {q : am_P} (h : am_inc nx la st i n = some q) : ∃ x, la[i]? = some (.int x) ∧ q = (nx, am_s1 la i (.int (x + Int32.ofInt n)), st) := by
  unfold am_inc at h
  split at h
  · next x hx => exact ⟨x, hx, (Option.some.inj h).symm⟩
  · cases h
theorem am_bI_spec {f : Int32 → Int32 → Int32} {nx : Nat} {la st : List Value} {q : am_P} (h : am_bI f nx la st = some q) : ∃ x y r, st = .int y :: .int x :: r ∧ q = (nx, la, .int (f x y) :: r) := by
  unfold am_bI at h
  split at h
  · next y x r => exact ⟨x, y, r, rfl, (Option.some.inj h).symm⟩
  · cases h
theorem am_dI_spec {f : Int32 → Int32 → Int32} {nx : Nat} {la st : List Value} {q : am_P} (h : am_dI f nx la st = some q) : ∃ x y r, st = .int y :: .int x :: r ∧ ¬ y = 0 ∧ q = (nx, la, .int (f x y) :: r) := by
  unfold am_dI at h
  split at h
  · next y x r =>
    split at h
    · cases h
    · next hy => exact ⟨x, y, r, rfl, hy, (Option.some.inj h).symm⟩
  · cases h
theorem am_bL_spec {f : Int64 → Int64 → Int64} {nx : Nat} {la st : List Value} {q : am_P} (h : am_bL f nx la st = some q) : ∃ x y r, st = .long y :: .long x :: r ∧ q = (nx, la, .long (f x y) :: r) := by
  unfold am_bL at h
  split at h
  · next y x r => exact ⟨x, y, r, rfl, (Option.some.inj h).symm⟩
  · cases h
theorem am_dL_spec {f : Int64 → Int64 → Int64} {nx : Nat} {la st : List Value} {q : am_P} (h : am_dL f nx la st = some q) : ∃ x y r, st = .long y :: .long x :: r ∧ ¬ y = 0 ∧ q = (nx, la, .long (f x y) :: r) := by
  unfold am_dL at h
  split at h
  · next y x r =>
    split at h
    · cases h
    · next hy => exact ⟨x, y, r, rfl, hy, (Option.some.inj h).symm⟩
  · cases h
theorem am_uL_spec {nx : Nat} {la st : List Value} {q : am_P} (h : am_uL nx la st = some q) : ∃ x r, st = .long x :: r ∧ q = (nx, la, .long (-x) :: r) := by
  unfold am_uL at h
  split at h
  · next x r => exact ⟨x, r, rfl, (Option.some.inj h).symm⟩
  · cases h
theorem am_i2l_spec {nx : Nat} {la st : List Value} {q : am_P} (h : am_i2l nx la st = some q) : ∃ x r, st = .int x :: r ∧ q = (nx, la, .long x.toInt64 :: r) := by
  unfold am_i2l at h
  split at h
  · next x r => exact ⟨x, r, rfl, (Option.some.inj h).symm⟩
  · cases h
theorem am_cmp_spec {nx : Nat} {la st : List Value} {q : am_P} (h : am_cmp nx la st = some q) : ∃ x y r, st = .long y :: .long x :: r ∧ q = (nx, la, .int (lg_cmp x y) :: r) := by
  unfold am_cmp at h
  split at h
  · next y x r => exact ⟨x, y, r, rfl, (Option.some.inj h).symm⟩
  · cases h
theorem am_dup_spec {nx : Nat} {la st : List Value} {q : am_P} (h : am_dup nx la st = some q) : ∃ v r, st = v :: r ∧ v.category = 1 ∧ q = (nx, la, v :: v :: r) := by
  unfold am_dup at h
  split at h
  · next v r =>
    split at h
    · next hc => exact ⟨v, r, rfl, hc, (Option.some.inj h).symm⟩
    · cases h
  · cases h
theorem am_dup2_spec {nx : Nat} {la st : List Value} {q : am_P} (h : am_dup2 nx la st = some q) : ∃ v w r, st = v :: w :: r ∧ v.category = 1 ∧ w.category = 1 ∧ q = (nx, la, v :: w :: v :: w :: r) := by
  unfold am_dup2 at h
  split at h
  · next v w r =>
    split at h
    · next hc => exact ⟨v, w, r, rfl, hc.1, hc.2, (Option.some.inj h).symm⟩
    · cases h
  · cases h
theorem am_if0_spec {cd : ClassFile.Cond} {nx a : Nat} {la st : List Value} {q : am_P} (h : am_if0 cd nx a la st = some q) : ∃ x r, st = .int x :: r ∧ q = (if am_c0 cd x = true then a else nx, la, r) := by
  unfold am_if0 at h
  split at h
  · next x r => exact ⟨x, r, rfl, (Option.some.inj h).symm⟩
  · cases h
theorem am_if2_spec {cd : ClassFile.Cond} {nx a : Nat} {la st : List Value} {q : am_P} (h : am_if2 cd nx a la st = some q) : ∃ x y r, st = .int y :: .int x :: r ∧ q = (if am_c2 cd x y = true then a else nx, la, r) := by
  unfold am_if2 at h
  split at h
  · next y x r => exact ⟨x, y, r, rfl, (Option.some.inj h).symm⟩
  · cases h
theorem am_nul_spec {nx a : Nat} {la st : List Value} {q : am_P} (h : am_nul nx a la st = some q) : (∃ r, st = .null :: r ∧ q = (a, la, r)) ∨ ∃ i r, st = .ref i :: r ∧ q = (nx, la, r) := by
  unfold am_nul at h
  split at h
  · next r => exact Or.inl ⟨r, rfl, (Option.some.inj h).symm⟩
  · next i r => exact Or.inr ⟨i, r, rfl, (Option.some.inj h).symm⟩
  · cases h
theorem am_nnul_spec {nx a : Nat} {la st : List Value} {q : am_P} (h : am_nnul nx a la st = some q) : (∃ r, st = .null :: r ∧ q = (nx, la, r)) ∨ ∃ i r, st = .ref i :: r ∧ q = (a, la, r) := by
  unfold am_nnul at h
  split at h
  · next r => exact Or.inl ⟨r, rfl, (Option.some.inj h).symm⟩
  · next i r => exact Or.inr ⟨i, r, rfl, (Option.some.inj h).symm⟩
  · cases h
section AMP
variable {p : Program} {l : Launch} {e : Env} {R : Room} {s : State} {m : MethodId} {args : Array Value} {below : List Frame} {meth : Method} {c : Code} {H : Heap} {locs : List Loc} {cells slots : Nat} {Q : State → Prop}
variable {cc : ByteArray} {pc : Nat} {ls : Array Slot} {h0 b : Nat} {la st : List Value}
theorem am_ldA_ok (hx : p.tables.exec = Jvm.exec) (hb : c.code = cc) (hL : am_L h0 b ls la) {i : Nat} {v : Value} (hv : la[i]? = some v) (hr : am_isR v = true) (hd : decode cc pc = .ok (.aload i, 2)) (kk : W p l e R s m args below meth c H locs cells slots Q (F0 m (pc + 2) ls (am_tv h0 b v :: st))) : W p l e R s m args below meth c H locs cells slots Q (F0 m pc ls st) := by
  cases v with
  | ref x => exact lv_aload hx hb hd (hL.2.2 i _ hv (by simp [am_U])) kk
  | null => exact lv_aloadN hx hb hd (hL.2.2 i _ hv (by simp [am_U])) kk
  | retAddr x => exact lv_aload hx hb hd (hL.2.2 i _ hv (by simp [am_U])) kk
  | _ => cases hr
theorem am_ldAn_ok (hx : p.tables.exec = Jvm.exec) (hb : c.code = cc) (hL : am_L h0 b ls la) {i : Fin 4} {v : Value} (hv : la[(i : Nat)]? = some v) (hr : am_isR v = true) (hd : decode cc pc = .ok (.aload_n i, 1)) (kk : W p l e R s m args below meth c H locs cells slots Q (F0 m (pc + 1) ls (am_tv h0 b v :: st))) : W p l e R s m args below meth c H locs cells slots Q (F0 m pc ls st) := by
  cases v with
  | ref x => exact lv_aload_n hx hb hd rfl (hL.2.2 i _ hv (by simp [am_U])) kk
  | null => exact lv_aload_nN hx hb hd rfl (hL.2.2 i _ hv (by simp [am_U])) kk
  | retAddr x => exact lv_aload_n hx hb hd rfl (hL.2.2 i _ hv (by simp [am_U])) kk
  | _ => cases hr
theorem am_stA_ok (hx : p.tables.exec = Jvm.exec) (hb : c.code = cc) (hL : am_L h0 b ls la) {i : Nat} {v : Value} (hi : i < la.length) (hr : am_isR v = true) (hd : decode cc pc = .ok (.astore i, 2)) (kk : ∀ ls' : Array Slot, am_L h0 b ls' (am_s1 la i v) → W p l e R s m args below meth c H locs cells slots Q (F0 m (pc + 2) ls' st)) : W p l e R s m args below meth c H locs cells slots Q (F0 m pc ls (am_tv h0 b v :: st)) := by
  cases v with
  | ref x => exact lv_astore hx hb hd (am_L_has hL) hi rfl (fun ls' h' => kk ls' (am_L_s1 h'))
  | null => exact lv_astoreN hx hb hd (am_L_has hL) hi rfl (fun ls' h' => kk ls' (am_L_s1 h'))
  | retAddr x => exact lv_astore hx hb hd (am_L_has hL) hi rfl (fun ls' h' => kk ls' (am_L_s1 (v := .retAddr x) h'))
  | _ => cases hr
theorem am_stAn_ok (hx : p.tables.exec = Jvm.exec) (hb : c.code = cc) (hL : am_L h0 b ls la) {i : Fin 4} {v : Value} (hi : (i : Nat) < la.length) (hr : am_isR v = true) (hd : decode cc pc = .ok (.astore_n i, 1)) (kk : ∀ ls' : Array Slot, am_L h0 b ls' (am_s1 la i v) → W p l e R s m args below meth c H locs cells slots Q (F0 m (pc + 1) ls' st)) : W p l e R s m args below meth c H locs cells slots Q (F0 m pc ls (am_tv h0 b v :: st)) := by
  cases v with
  | ref x => exact lv_astore_n hx hb hd rfl (am_L_has hL) hi rfl (fun ls' h' => kk ls' (am_L_s1 h'))
  | null => exact lv_astore_nN hx hb hd rfl (am_L_has hL) hi rfl (fun ls' h' => kk ls' (am_L_s1 h'))
  | retAddr x => exact lv_astore_n hx hb hd rfl (am_L_has hL) hi rfl (fun ls' h' => kk ls' (am_L_s1 (v := .retAddr x) h'))
  | _ => cases hr
theorem am_if0_ok (hx : p.tables.exec = Jvm.exec) (hb : c.code = cc) {cd : ClassFile.Cond} {o : Int} {a : Nat} {x : Int32} (hd : decode cc pc = .ok (.ifCond cd o, 3)) (ht : (pc : Int) + o = (a : Int)) (kk : W p l e R s m args below meth c H locs cells slots Q (F0 m (if am_c0 cd x = true then a else pc + 3) ls st)) : W p l e R s m args below meth c H locs cells slots Q (F0 m pc ls (.int x :: st)) := by
  have kt : am_c0 cd x = true → W p l e R s m args below meth c H locs cells slots Q (F0 m a ls st) := fun h => by rw [if_pos h] at kk; exact kk
  have kf : ¬ am_c0 cd x = true → W p l e R s m args below meth c H locs cells slots Q (F0 m (pc + 3) ls st) := fun h => by rw [if_neg h] at kk; exact kk
  cases cd with
  | eq => exact lv_if_eq hx hb hd ht (fun h => kt (by simp [am_c0, h])) (fun h => kf (by simp [am_c0, h]))
  | ne => exact lv_if_ne hx hb hd ht (fun h => kt (by simp [am_c0, h])) (fun h => kf (by simp [am_c0, h]))
  | lt => exact lv_if_lt hx hb hd ht (fun h => kt (by simp only [am_c0, decide_eq_true_eq]; exact h)) (fun h => kf (by simp only [am_c0, decide_eq_true_eq]; exact h))
  | ge => exact lv_if_ge hx hb hd ht (fun h => kt (by simp only [am_c0, decide_eq_true_eq]; exact h)) (fun h => kf (by simp only [am_c0, decide_eq_true_eq]; exact h))
  | gt => exact lv_if_gt hx hb hd ht (fun h => kt (by simp only [am_c0, decide_eq_true_eq]; exact h)) (fun h => kf (by simp only [am_c0, decide_eq_true_eq]; exact h))
  | le => exact lv_if_le hx hb hd ht (fun h => kt (by simp only [am_c0, decide_eq_true_eq]; exact h)) (fun h => kf (by simp only [am_c0, decide_eq_true_eq]; exact h))
theorem am_if2_ok (hx : p.tables.exec = Jvm.exec) (hb : c.code = cc) {cd : ClassFile.Cond} {o : Int} {a : Nat} {x y : Int32} (hd : decode cc pc = .ok (.if_icmp cd o, 3)) (ht : (pc : Int) + o = (a : Int)) (kk : W p l e R s m args below meth c H locs cells slots Q (F0 m (if am_c2 cd x y = true then a else pc + 3) ls st)) : W p l e R s m args below meth c H locs cells slots Q (F0 m pc ls (.int y :: .int x :: st)) := by
  have kt : am_c2 cd x y = true → W p l e R s m args below meth c H locs cells slots Q (F0 m a ls st) := fun h => by rw [if_pos h] at kk; exact kk
  have kf : ¬ am_c2 cd x y = true → W p l e R s m args below meth c H locs cells slots Q (F0 m (pc + 3) ls st) := fun h => by rw [if_neg h] at kk; exact kk
  cases cd with
  | eq => exact lv_icmp_eq hx hb hd ht (fun h => kt (by simp only [am_c2, decide_eq_true_eq]; exact h)) (fun h => kf (by simp only [am_c2, decide_eq_true_eq]; exact h))
  | ne => exact lv_icmp_ne hx hb hd ht (fun h => kt (by simp only [am_c2, decide_eq_true_eq]; exact h)) (fun h => kf (by simp only [am_c2, decide_eq_true_eq]; exact fun g => g h))
  | lt => exact lv_icmp_lt hx hb hd ht (fun h => kt (by simp only [am_c2, decide_eq_true_eq]; exact h)) (fun h => kf (by simp only [am_c2, decide_eq_true_eq]; exact h))
  | ge => exact lv_icmp_ge hx hb hd ht (fun h => kt (by simp only [am_c2, decide_eq_true_eq]; exact h)) (fun h => kf (by simp only [am_c2, decide_eq_true_eq]; exact h))
  | gt => exact lv_icmp_gt hx hb hd ht (fun h => kt (by simp only [am_c2, decide_eq_true_eq]; exact h)) (fun h => kf (by simp only [am_c2, decide_eq_true_eq]; exact h))
  | le => exact lv_icmp_le hx hb hd ht (fun h => kt (by simp only [am_c2, decide_eq_true_eq]; exact h)) (fun h => kf (by simp only [am_c2, decide_eq_true_eq]; exact h))
theorem am_tsw_ok (hx : p.tables.exec = Jvm.exec) (hb : c.code = cc) {d lo hi : Int} {offs : Array Int} {ln : Nat} {q : am_P} (hd : decode cc pc = .ok (.tableswitch d lo hi offs, ln)) (h : am_tsw pc d lo hi offs la st = some q) (kk : q.2.1 = la → W p l e R s m args below meth c H locs cells slots Q (F0 m q.1 ls (q.2.2.map (am_tv h0 b)))) : W p l e R s m args below meth c H locs cells slots Q (F0 m pc ls (st.map (am_tv h0 b))) := by
  unfold am_tsw at h
  split at h
  · next x r =>
    split at h
    · next ho =>
      split at h
      · next hz =>
        have h := Option.some.inj h
        subst h
        exact lv_tableOut hx hb hd ho (tgt := ((pc : Int) + d).toNat) (by omega) (kk rfl)
      · cases h
    · next ho =>
      split at h
      · next o hoo =>
        split at h
        · next hz =>
          have h := Option.some.inj h
          subst h
          exact lv_tableIn hx hb hd (fun z => ho (Or.inl z)) (fun z => ho (Or.inr z)) hoo (tgt := ((pc : Int) + o).toNat) (by omega) (kk rfl)
        · cases h
      · cases h
  · cases h
theorem am_lsw_ok (hx : p.tables.exec = Jvm.exec) (hb : c.code = cc) {d : Int} {ps : Array (Int × Int)} {ln : Nat} {q : am_P} (hd : decode cc pc = .ok (.lookupswitch d ps, ln)) (h : am_lsw pc d ps la st = some q) (kk : q.2.1 = la → W p l e R s m args below meth c H locs cells slots Q (F0 m q.1 ls (q.2.2.map (am_tv h0 b)))) : W p l e R s m args below meth c H locs cells slots Q (F0 m pc ls (st.map (am_tv h0 b))) := by
  unfold am_lsw at h
  split at h
  · next x r =>
    split at h
    · next ho =>
      have h := Option.some.inj h
      subst h
      exact lv_lookup hx hb hd ho.1 rfl (tgt := ((pc : Int) + Op.lookupswitch.offset ps.toList d x.toInt).toNat) (by omega) (kk rfl)
    · cases h
  · cases h
set_option maxHeartbeats 4000000 in
theorem am_pure_ok {t : am_T} {ins : Instr} {nx a bb hh : Nat} {q : am_P} (hx : p.tables.exec = Jvm.exec) (hb : c.code = t.2.1) (hown : s.vm.findClass t.1.cls = some m.cls) (hts : ∀ w ∈ am_Ts, w.before args s = true) (hL : am_L h0 b ls la)
    (hE : am_okE t (pc, ins, nx, a, bb, hh) = true) (h : am_pure ins pc nx a la st = some q) (kk : ∀ ls' : Array Slot, am_L h0 b ls' q.2.1 → W p l e R s m args below meth c H locs cells slots Q (F0 m q.1 ls' (q.2.2.map (am_tv h0 b)))) : W p l e R s m args below meth c H locs cells slots Q (F0 m pc ls (st.map (am_tv h0 b))) := by
  simp only [am_okE, Bool.and_eq_true, Bool.or_eq_true, decide_eq_true_eq] at hE
  obtain ⟨⟨hd, hlen⟩, hl⟩ := hE
  have key : am_len ins ≠ 0 → nx = pc + am_len ins ∧ decode t.2.1 pc = .ok (ins, am_len ins) := fun hz => by
    rcases hlen with h1 | h1
    · exact absurd h1 hz
    · refine ⟨h1, ?_⟩
      rw [hd, h1]
      congr 2
      omega
  cases ins
  case iconst n =>
    obtain ⟨rfl, hdd⟩ := key (by simp [am_len])
    cases h
    exact lv_iconst hx hb hdd rfl (kk ls hL)
  case bipush n =>
    obtain ⟨rfl, hdd⟩ := key (by simp [am_len])
    cases h
    exact lv_bipush hx hb hdd rfl (kk ls hL)
  case sipush n =>
    obtain ⟨rfl, hdd⟩ := key (by simp [am_len])
    cases h
    exact lv_sipush hx hb hdd rfl (kk ls hL)
  case lconst n =>
    obtain ⟨rfl, hdd⟩ := key (by simp [am_len])
    cases h
    exact lv_lconst hx hb hdd rfl (kk ls hL)
  case aconst_null =>
    obtain ⟨rfl, hdd⟩ := key (by simp [am_len])
    cases h
    exact lv_null hx hb hdd (kk ls hL)
  case ldc2_w ix =>
    obtain ⟨rfl, hdd⟩ := key (by simp [am_len])
    cases h
    exact lv_ldc2 hx hb hown (hts _ (am_has_spec hl)) hdd (kk ls hL)
  case iload i =>
    obtain ⟨rfl, hdd⟩ := key (by simp [am_len])
    obtain ⟨x, h1, rfl⟩ := am_ldI_spec h
    exact lv_iload hx hb hdd (hL.2.2 i _ h1 (by simp [am_U])) (kk ls hL)
  case iload_n i =>
    obtain ⟨rfl, hdd⟩ := key (by simp [am_len])
    obtain ⟨x, h1, rfl⟩ := am_ldI_spec h
    exact lv_iload_n hx hb hdd rfl (hL.2.2 i _ h1 (by simp [am_U])) (kk ls hL)
  case lload i =>
    obtain ⟨rfl, hdd⟩ := key (by simp [am_len])
    obtain ⟨x, h1, rfl⟩ := am_ldL_spec h
    exact lv_lload hx hb hdd (hL.2.2 i _ h1 (by simp [am_U])) (kk ls hL)
  case lload_n i =>
    obtain ⟨rfl, hdd⟩ := key (by simp [am_len])
    obtain ⟨x, h1, rfl⟩ := am_ldL_spec h
    exact lv_lload_n hx hb hdd rfl (hL.2.2 i _ h1 (by simp [am_U])) (kk ls hL)
  case aload i =>
    obtain ⟨rfl, hdd⟩ := key (by simp [am_len])
    obtain ⟨x, h1, h2, rfl⟩ := am_ldA_spec h
    exact am_ldA_ok hx hb hL h1 h2 hdd (kk ls hL)
  case aload_n i =>
    obtain ⟨rfl, hdd⟩ := key (by simp [am_len])
    obtain ⟨x, h1, h2, rfl⟩ := am_ldA_spec h
    exact am_ldAn_ok hx hb hL h1 h2 hdd (kk ls hL)
  case istore i =>
    obtain ⟨rfl, hdd⟩ := key (by simp [am_len])
    obtain ⟨x, r, rfl, h1, rfl⟩ := am_stI_spec h
    exact lv_istore hx hb hdd (am_L_has hL) h1 rfl (fun ls' h' => kk ls' (am_L_s1 h'))
  case istore_n i =>
    obtain ⟨rfl, hdd⟩ := key (by simp [am_len])
    obtain ⟨x, r, rfl, h1, rfl⟩ := am_stI_spec h
    exact lv_istore_n hx hb hdd rfl (am_L_has hL) h1 rfl (fun ls' h' => kk ls' (am_L_s1 h'))
  case lstore i =>
    obtain ⟨rfl, hdd⟩ := key (by simp [am_len])
    obtain ⟨x, r, rfl, h1, rfl⟩ := am_stL_spec h
    exact lv_lstore hx hb hdd (am_L_has hL) h1 rfl (fun ls' h' => kk ls' (am_L_s2 h1 h'))
  case lstore_n i =>
    obtain ⟨rfl, hdd⟩ := key (by simp [am_len])
    obtain ⟨x, r, rfl, h1, rfl⟩ := am_stL_spec h
    exact lv_lstore_n hx hb hdd rfl (am_L_has hL) h1 rfl (fun ls' h' => kk ls' (am_L_s2 h1 h'))
  case astore i =>
    obtain ⟨rfl, hdd⟩ := key (by simp [am_len])
    obtain ⟨v, r, rfl, h1, h2, rfl⟩ := am_stA_spec h
    exact am_stA_ok hx hb hL h1 h2 hdd kk
  case astore_n i =>
    obtain ⟨rfl, hdd⟩ := key (by simp [am_len])
    obtain ⟨v, r, rfl, h1, h2, rfl⟩ := am_stA_spec h
    exact am_stAn_ok hx hb hL h1 h2 hdd kk
  case iinc i n =>
    obtain ⟨rfl, hdd⟩ := key (by simp [am_len])
    obtain ⟨x, h1, rfl⟩ := am_inc_spec h
    have hm : (i, Value.int x) ∈ am_al h0 b la := am_al_mem (v := .int x) h1 (by simp [am_U])
    obtain ⟨k, hk⟩ := List.getElem?_of_mem hm
    exact lv_iinc hx hb hdd (am_L_has hL) hk rfl (List.getElem?_eq_some_iff.mp h1).1 rfl (fun ls' h' => kk ls' (am_L_s1 h'))
  case iadd =>
    obtain ⟨rfl, hdd⟩ := key (by simp [am_len])
    obtain ⟨x, y, r, rfl, rfl⟩ := am_bI_spec h
    exact lv_iadd hx hb hdd (kk ls hL)
  case isub =>
    obtain ⟨rfl, hdd⟩ := key (by simp [am_len])
    obtain ⟨x, y, r, rfl, rfl⟩ := am_bI_spec h
    exact lv_isub hx hb hdd (kk ls hL)
  case imul =>
    obtain ⟨rfl, hdd⟩ := key (by simp [am_len])
    obtain ⟨x, y, r, rfl, rfl⟩ := am_bI_spec h
    exact lv_imul hx hb hdd (kk ls hL)
  case iand =>
    obtain ⟨rfl, hdd⟩ := key (by simp [am_len])
    obtain ⟨x, y, r, rfl, rfl⟩ := am_bI_spec h
    exact lv_iand hx hb hdd (kk ls hL)
  case ior =>
    obtain ⟨rfl, hdd⟩ := key (by simp [am_len])
    obtain ⟨x, y, r, rfl, rfl⟩ := am_bI_spec h
    exact lv_ior hx hb hdd (kk ls hL)
  case ixor =>
    obtain ⟨rfl, hdd⟩ := key (by simp [am_len])
    obtain ⟨x, y, r, rfl, rfl⟩ := am_bI_spec h
    exact lv_ixor hx hb hdd (kk ls hL)
  case ishl =>
    obtain ⟨rfl, hdd⟩ := key (by simp [am_len])
    obtain ⟨x, y, r, rfl, rfl⟩ := am_bI_spec h
    exact lv_ishl hx hb hdd (kk ls hL)
  case ishr =>
    obtain ⟨rfl, hdd⟩ := key (by simp [am_len])
    obtain ⟨x, y, r, rfl, rfl⟩ := am_bI_spec h
    exact lv_ishr hx hb hdd (kk ls hL)
  case idiv =>
    obtain ⟨rfl, hdd⟩ := key (by simp [am_len])
    obtain ⟨x, y, r, rfl, hy, rfl⟩ := am_dI_spec h
    exact lv_idiv hx hb hdd hy (kk ls hL)
  case irem =>
    obtain ⟨rfl, hdd⟩ := key (by simp [am_len])
    obtain ⟨x, y, r, rfl, hy, rfl⟩ := am_dI_spec h
    exact lv_irem hx hb hdd hy (kk ls hL)
  case ladd =>
    obtain ⟨rfl, hdd⟩ := key (by simp [am_len])
    obtain ⟨x, y, r, rfl, rfl⟩ := am_bL_spec h
    exact lv_ladd hx hb hdd (kk ls hL)
  case lsub =>
    obtain ⟨rfl, hdd⟩ := key (by simp [am_len])
    obtain ⟨x, y, r, rfl, rfl⟩ := am_bL_spec h
    exact lv_lsub hx hb hdd (kk ls hL)
  case lmul =>
    obtain ⟨rfl, hdd⟩ := key (by simp [am_len])
    obtain ⟨x, y, r, rfl, rfl⟩ := am_bL_spec h
    exact lv_lmul hx hb hdd (kk ls hL)
  case lxor =>
    obtain ⟨rfl, hdd⟩ := key (by simp [am_len])
    obtain ⟨x, y, r, rfl, rfl⟩ := am_bL_spec h
    exact lv_lxor hx hb hdd (kk ls hL)
  case ldiv =>
    obtain ⟨rfl, hdd⟩ := key (by simp [am_len])
    obtain ⟨x, y, r, rfl, hy, rfl⟩ := am_dL_spec h
    exact lv_ldiv hx hb hdd hy (kk ls hL)
  case lrem =>
    obtain ⟨rfl, hdd⟩ := key (by simp [am_len])
    obtain ⟨x, y, r, rfl, hy, rfl⟩ := am_dL_spec h
    exact lv_lrem hx hb hdd hy (kk ls hL)
  case lneg =>
    obtain ⟨rfl, hdd⟩ := key (by simp [am_len])
    obtain ⟨x, r, rfl, rfl⟩ := am_uL_spec h
    exact lv_lneg hx hb hdd (kk ls hL)
  case i2l =>
    obtain ⟨rfl, hdd⟩ := key (by simp [am_len])
    obtain ⟨x, r, rfl, rfl⟩ := am_i2l_spec h
    exact lv_i2l hx hb hdd rfl (kk ls hL)
  case lcmp =>
    obtain ⟨rfl, hdd⟩ := key (by simp [am_len])
    obtain ⟨x, y, r, rfl, rfl⟩ := am_cmp_spec h
    exact W.lcmp hx hb hdd (kk ls hL)
  case dup =>
    obtain ⟨rfl, hdd⟩ := key (by simp [am_len])
    obtain ⟨v, r, rfl, h1, rfl⟩ := am_dup_spec h
    exact lv_dup hx hb hdd (by rw [am_tv_cat]; exact h1) (kk ls hL)
  case dup2 =>
    obtain ⟨rfl, hdd⟩ := key (by simp [am_len])
    obtain ⟨v, w, r, rfl, h1, h2, rfl⟩ := am_dup2_spec h
    exact lv_dup2_11 hx hb hdd (by rw [am_tv_cat]; exact h1) (by rw [am_tv_cat]; exact h2) (kk ls hL)
  case goto o =>
    obtain ⟨rfl, hdd⟩ := key (by simp [am_len])
    cases h
    exact lv_goto hx hb hdd (of_decide_eq_true hl) (kk ls hL)
  case ifCond cd o =>
    obtain ⟨rfl, hdd⟩ := key (by simp [am_len])
    obtain ⟨x, r, rfl, rfl⟩ := am_if0_spec h
    exact am_if0_ok hx hb hdd (of_decide_eq_true hl) (kk ls hL)
  case if_icmp cd o =>
    obtain ⟨rfl, hdd⟩ := key (by simp [am_len])
    obtain ⟨x, y, r, rfl, rfl⟩ := am_if2_spec h
    exact am_if2_ok hx hb hdd (of_decide_eq_true hl) (kk ls hL)
  case ifnull o =>
    obtain ⟨rfl, hdd⟩ := key (by simp [am_len])
    rcases am_nul_spec h with ⟨r, rfl, rfl⟩ | ⟨i, r, rfl, rfl⟩
    · exact lv_ifnullN hx hb hdd (of_decide_eq_true hl) (kk ls hL)
    · exact lv_ifnull hx hb hdd (kk ls hL)
  case ifnonnull o =>
    obtain ⟨rfl, hdd⟩ := key (by simp [am_len])
    rcases am_nnul_spec h with ⟨r, rfl, rfl⟩ | ⟨i, r, rfl, rfl⟩
    · exact lv_ifnonnullN hx hb hdd (kk ls hL)
    · exact lv_ifnonnull hx hb hdd (of_decide_eq_true hl) (kk ls hL)
  case tableswitch d lo hi offs =>
    exact am_tsw_ok hx hb hd h (fun e => kk ls (by rw [e]; exact hL))
  case lookupswitch d ps =>
    exact am_lsw_ok hx hb hd h (fun e => kk ls (by rw [e]; exact hL))
  all_goals exact absurd h.symm (Option.some_ne_none _)
end AMP
end
section
/-! ===== what the tables say of the classes ===== -/
theorem am_u0 : ∀ w ∈ u_ws RX0 TX0 5, w ∈ am_Ts := by decide +kernel
theorem am_u1 : ∀ w ∈ u_ws RX1 TX1 2, w ∈ am_Ts := by decide +kernel
theorem am_u2 : ∀ w ∈ u_ws RX2 TX2 3, w ∈ am_Ts := by decide +kernel
theorem am_u3 : ∀ w ∈ u_ws RX3 TX3 4, w ∈ am_Ts := by decide +kernel
theorem am_u4 : ∀ w ∈ u_ws RX4 TX4 8, w ∈ am_Ts := by decide +kernel
theorem am_u5 : ∀ w ∈ u_ws RX5 TX5 2, w ∈ am_Ts := by decide +kernel
theorem am_u6 : ∀ w ∈ u_ws RX6 TX6 14, w ∈ am_Ts := by decide +kernel
theorem am_u7 : ∀ w ∈ u_ws RX7 TX7 29, w ∈ am_Ts := by decide +kernel
theorem am_hin {ci : Nat} {q : vw_C} (h : vwCl[ci]? = some q) : ∀ w ∈ u_ws q.1 q.2.1 q.2.2, w ∈ am_Ts := by
  match ci, h with
  | 0, h => cases h; exact am_u0
  | 1, h => cases h; exact am_u1
  | 2, h => cases h; exact am_u2
  | 3, h => cases h; exact am_u3
  | 4, h => cases h; exact am_u4
  | 5, h => cases h; exact am_u5
  | 6, h => cases h; exact am_u6
  | 7, h => cases h; exact am_u7
  | k + 8, h => simp [vwCl] at h
theorem am_hty {ci : Nat} {q : vw_C} (h : vwCl[ci]? = some q) : ∀ k, k < q.2.2 → parseFieldDescriptor (q.2.1 k).2.2.1 = some (am_ty ci k) := by
  match ci, h with
  | 0, h => cases h; exact tyX0_ok
  | 1, h => cases h; exact tyX1_ok
  | 2, h => cases h; exact tyX2_ok
  | 3, h => cases h; exact tyX3_ok
  | 4, h => cases h; exact tyX4_ok
  | 5, h => cases h; exact tyX5_ok
  | 6, h => cases h; exact tyX6_ok
  | 7, h => cases h; exact tyX7_ok
  | k + 8, h => simp [vwCl] at h
theorem am_hnm {ci : Nat} {q : vw_C} (h : vwCl[ci]? = some q) : ∀ a, a < q.2.2 → ∀ b, b < q.2.2 → a ≠ b → (q.2.1 a).2.1 ≠ (q.2.1 b).2.1 := by
  match ci, h with
  | 0, h => cases h; exact nmX0
  | 1, h => cases h; exact nmX1
  | 2, h => cases h; exact nmX2
  | 3, h => cases h; exact nmX3
  | 4, h => cases h; exact nmX4
  | 5, h => cases h; exact nmX5
  | 6, h => cases h; exact nmX6
  | 7, h => cases h; exact nmX7
  | k + 8, h => simp [vwCl] at h
theorem am_kinds : vwCl.zipIdx.all (fun q => (List.range q.1.2.2).all (fun k => decide (am_fk q.2 k ≠ 9))) = true := by decide +kernel
theorem am_made : vwCl.all (fun q => decide (Cond.instantiable q.1 q.2.2 ∈ am_Ts) && decide (Cond.initialized q.1 ∈ am_Ts)) = true := by decide +kernel
theorem am_w0 : Cond.arrayClass .int ∈ am_Ts ∧ Cond.arrayClass .long ∈ am_Ts ∧ Cond.native arraycopyName ∈ am_Ts ∧ Cond.static arraycopyName ∈ am_Ts ∧ Cond.initialized "java/lang/System" ∈ am_Ts ∧ Cond.instanceMethod objectInit ∈ am_Ts ∧ Cond.code objectInit ⟨#[0xb1]⟩ 1 none ∈ am_Ts := by decide +kernel
theorem am_kind {ci k : Nat} {q : vw_C} (h : vwCl[ci]? = some q) (hk : k < q.2.2) : am_fk ci k ≠ 9 := by
  have h1 := List.all_eq_true.mp am_kinds (q, ci) (List.mem_of_getElem? (i := ci) (by rw [List.getElem?_zipIdx, h]; simp))
  exact of_decide_eq_true (List.all_eq_true.mp h1 k (List.mem_range.mpr hk))
theorem am_dflt {c k : Nat} (h : am_fk c k ≠ 9) (h0 : Nat) : (if am_fk c k = 1 then Value.long 0 else if am_fk c k = 2 then va_rf ((none : Option Nat).map (fun j => h0 + j)) else .int 0) = defaultValue (am_ty c k) := by
  unfold am_fk at h ⊢
  cases hty : am_ty c k <;> rw [hty] at h <;> first | rfl | exact absurd rfl h
theorem am_pv_spec {M M' : am_M} {i c k h0 b : Nat} {v : Value} (h : am_pv M i c k v = some M') : M'.1 = M.1 ∧ (∀ j, j ≠ i → M'.2.1 j = M.2.1 j) ∧ (∀ j, j ≠ i → M'.2.2.1 j = M.2.2.1 j) ∧ (∀ j, j ≠ i → M'.2.2.2 j = M.2.2.2 j) ∧ (∀ j, updV (am_cv h0 M i c) k (am_tv h0 b v) j = am_cv h0 M' i c j) ∧ narrow (am_ty c k) (am_tv h0 b v) = am_tv h0 b v ∧ fits (am_ty c k) (am_tv h0 b v) = true := by
  have e0 : am_fk c k = 0 → am_ty c k = .int := fun hh => by
    unfold am_fk at hh
    cases hty : am_ty c k <;> rw [hty] at hh <;> first | rfl | cases hh
  have e3 : am_fk c k = 3 → am_ty c k = .boolean := fun hh => by
    unfold am_fk at hh
    cases hty : am_ty c k <;> rw [hty] at hh <;> first | rfl | cases hh
  have e1 : am_fk c k = 1 → am_ty c k = .long := fun hh => by
    unfold am_fk at hh
    cases hty : am_ty c k <;> rw [hty] at hh <;> first | rfl | cases hh
  have e2 : am_fk c k = 2 → (∃ n, am_ty c k = .object n) ∨ ∃ n, am_ty c k = .array n := fun hh => by
    unfold am_fk at hh
    cases hty : am_ty c k <;> rw [hty] at hh <;> first | exact Or.inl ⟨_, rfl⟩ | exact Or.inr ⟨_, rfl⟩ | cases hh
  cases v with
  | int x =>
    simp only [am_pv] at h
    split at h
    · next hk =>
      have h := Option.some.inj h
      subst h
      refine ⟨rfl, fun j hj => va_up_ne _ _ hj, fun _ _ => rfl, fun _ _ => rfl, fun j => ?_, ?_, ?_⟩
      · by_cases ej : j = k
        · subst ej
          rcases hk with hk | ⟨hk, -⟩ <;> simp [updV, am_cv, hk, am_tv, am_u, va_up]
        · simp [updV, am_cv, ej, am_u, va_up]
      · rcases hk with hk | ⟨hk, hv⟩
        · rw [e0 hk]; rfl
        · rw [e3 hk]
          show narrow .boolean (.int x) = .int x
          rcases hv with rfl | rfl <;> decide
      · rcases hk with hk | ⟨hk, hv⟩
        · rw [e0 hk]; rfl
        · rw [e3 hk]
          show fits .boolean (.int x) = true
          rcases hv with rfl | rfl <;> decide
    · cases h
  | long x =>
    simp only [am_pv] at h
    split at h
    · next hk =>
      have h := Option.some.inj h
      subst h
      refine ⟨rfl, fun _ _ => rfl, fun j hj => va_up_ne _ _ hj, fun _ _ => rfl, fun j => ?_, ?_, ?_⟩
      · by_cases ej : j = k
        · subst ej
          simp [updV, am_cv, hk, am_tv, am_u, va_up]
        · simp [updV, am_cv, ej, am_u, va_up]
      · rw [e1 hk]; rfl
      · rw [e1 hk]; rfl
    · cases h
  | ref z =>
    simp only [am_pv] at h
    split at h
    · next hk =>
      have h := Option.some.inj h
      subst h
      refine ⟨rfl, fun _ _ => rfl, fun _ _ => rfl, fun j hj => va_up_ne _ _ hj, fun j => ?_, ?_, ?_⟩
      · by_cases ej : j = k
        · subst ej
          simp [updV, am_cv, hk, am_tv, am_u, va_up, va_rf]
        · simp [updV, am_cv, ej, am_u, va_up]
      · rcases e2 hk with ⟨n, hn⟩ | ⟨n, hn⟩ <;> rw [hn] <;> rfl
      · rcases e2 hk with ⟨n, hn⟩ | ⟨n, hn⟩ <;> rw [hn] <;> rfl
    · cases h
  | null =>
    simp only [am_pv] at h
    split at h
    · next hk =>
      have h := Option.some.inj h
      subst h
      refine ⟨rfl, fun _ _ => rfl, fun _ _ => rfl, fun j hj => va_up_ne _ _ hj, fun j => ?_, ?_, ?_⟩
      · by_cases ej : j = k
        · subst ej
          simp [updV, am_cv, hk, am_tv, am_u, va_up, va_rf]
        · simp [updV, am_cv, ej, am_u, va_up]
      · rcases e2 hk with ⟨n, hn⟩ | ⟨n, hn⟩ <;> rw [hn] <;> rfl
      · rcases e2 hk with ⟨n, hn⟩ | ⟨n, hn⟩ <;> rw [hn] <;> rfl
    · cases h
  | _ => cases h
end
section
/-! ===== an instruction that touches cells: the real machine follows the abstract one ===== -/
def am_c (M : am_M) : Nat := M.1.length
def am_z (M : am_M) : Nat := (M.1.map (fun q => q.2)).sum
theorem am_map_spec {o : Option (Nat × Nat)} {a : Nat} (h : o.map (fun q => q.1) = some a) : ∃ n, o = some (a, n) := by
  cases o with
  | none => cases h
  | some q => exact ⟨q.2, by rw [Option.map_some] at h; rw [← Option.some.inj h]⟩
theorem am_in_spec {M : am_M} {kd i : Nat} {j : Int32} (h : am_in M kd i j = true) : ∃ n, M.1[i]? = some (kd, n) ∧ ¬ (j < 0 ∨ n ≤ j.toNatClampNeg) := by
  unfold am_in at h
  split at h
  · next q hq =>
    have h := of_decide_eq_true h
    exact ⟨q.2, by rw [hq, ← h.1], h.2⟩
  · cases h
theorem am_kr_spec {M : am_M} {v : Nat} (h : 10 ≤ am_kr M v) : ∃ n, M.1[v]? = some (am_kr M v, n) := by
  unfold am_kr at h ⊢
  split at h
  · next q hq => exact ⟨q.2, by rw [hq]⟩
  · omega
section AMM
variable {p : Program} {l : Launch} {e : Env} {R : Room} {s : State} {m : MethodId} {args : Array Value} {below : List Frame} {meth : Method} {c : Code} {H : Heap} {locs : List Loc} {cells slots : Nat} {Q : State → Prop}
variable {pc : Nat} {ls : Array Slot} {h0 b : Nat} {la st : List Value} {H0 : Heap} {D : va_G} {cA : Nat → ClassId} {M : am_M} {t : am_T} {rs : List Value}
theorem am_at_obj {i a n : Nat} (hR : am_Rep h0 H0 D cA M H) (hi : M.1[i]? = some (a + 10, n)) : ∃ r : vw_C, vwCl[a]? = some r ∧ t_OB (h0 + i) (D.1 a) r.2.2 (D.2 a) H (am_cv h0 M i a) := by
  have h := hR.2.2 i _ hi
  unfold am_at at h
  rw [if_neg (show ¬ (a + 10 = 0) by omega), if_neg (show ¬ (a + 10 = 1) by omega), if_neg (show ¬ (a + 10 < 10) by omega), Nat.add_sub_cancel] at h
  exact h
theorem am_at_int {i n : Nat} (hR : am_Rep h0 H0 D cA M H) (hi : M.1[i]? = some (0, n)) : H[h0 + i]? = some (arrV (cA 0) n (fun j => .int (M.2.1 i j))) := by
  have h := hR.2.2 i _ hi
  unfold am_at at h
  rwa [if_pos rfl] at h
theorem am_at_long {i n : Nat} (hR : am_Rep h0 H0 D cA M H) (hi : M.1[i]? = some (1, n)) : H[h0 + i]? = some (arrV (cA 1) n (fun j => .long (M.2.2.1 i j))) := by
  have h := hR.2.2 i _ hi
  unfold am_at at h
  rwa [if_neg (by simp), if_pos rfl] at h
theorem am_at_ref {i n kd : Nat} (hR : am_Rep h0 H0 D cA M H) (hi : M.1[i]? = some (kd, n)) (h2 : 2 ≤ kd) (h5 : kd < 5) : H[h0 + i]? = some (arrV (cA kd) n (fun j => va_rf ((M.2.2.2 i j).map (fun z => h0 + z)))) := by
  have h := hR.2.2 i _ hi
  unfold am_at at h
  rwa [if_neg (show ¬ (kd = 0) by omega), if_neg (show ¬ (kd = 1) by omega), if_pos (show kd < 10 by omega)] at h
theorem am_tys_at {kd : Nat} (h2 : 2 ≤ kd) (h5 : kd < 5) : (am_tys cA)[kd]? = some (cA kd, .object (am_ra kd)) := by
  rcases (by omega : kd = 2 ∨ kd = 3 ∨ kd = 4) with rfl | rfl | rfl <;> rfl
theorem am_getf_ok (hx : p.tables.exec = Jvm.exec) (hb : c.code = t.2.1) (hown : s.vm.findClass t.1.cls = some m.cls) (hts : ∀ w ∈ am_Ts, w.before args s = true) (hK : am_Kn D cA s) (hR : am_Rep h0 H0 D cA M H)
    {ix a bb hh i n : Nat} (hd : decode t.2.1 pc = .ok (.getfield ix, 3)) (hl : am_okL t pc (.getfield ix) a bb hh = true) (hi : M.1[i]? = some (a + 10, n))
    (kk : W p l e R s m args below meth c H locs cells slots Q (F0 m (pc + 3) ls (am_tv h0 b (am_gv M i a bb) :: rs))) : W p l e R s m args below meth c H locs cells slots Q (F0 m pc ls (.ref (h0 + i) :: rs)) := by
  obtain ⟨q, hc, hO⟩ := am_at_obj hR hi
  simp only [am_okL, hc, Bool.and_eq_true, decide_eq_true_eq] at hl
  rw [am_tv_gv] at kk
  refine va_get (D := D) (cl := vwCl) (ws := [(h0 + i, .inr (a, (List.range q.2.2).map (am_cv h0 M i a)))]) hx hb hts (am_hin hc) hown hK.1 ?_ 0 rfl hc bb hl.1 (hts _ (am_has_spec hl.2)) (fun _ h => h) (v := am_cv h0 M i a bb) (by simp [hl.1]) hd kk
  intro k x hk
  have hz : k < 1 := (List.getElem?_eq_some_iff.mp hk).1
  rw [show k = 0 by omega] at hk
  cases hk
  exact ⟨q, hc, hO.to (fun k hk => by simp [vp_V, hk])⟩
theorem am_putf_ok (hx : p.tables.exec = Jvm.exec) (hb : c.code = t.2.1) (hown : s.vm.findClass t.1.cls = some m.cls) (hts : ∀ w ∈ am_Ts, w.before args s = true) (hin2 : t.1.name = "<init>" → meth.name = "<init>") (hK : am_Kn D cA s) (hR : am_Rep h0 H0 D cA M H) (hlo : ∀ q ∈ locs, h0 ≤ q.base)
    {ix a bb hh i n : Nat} {v : Value} {M' : am_M} (hd : decode t.2.1 pc = .ok (.putfield ix, 3)) (hl : am_okL t pc (.putfield ix) a bb hh = true) (hi : M.1[i]? = some (a + 10, n)) (hv : am_pv M i a bb v = some M')
    (kk : ∀ (H' : Heap) (locs' : List Loc), am_Rep h0 H0 D cA M' H' → (∀ q ∈ locs', h0 ≤ q.base) → W p l e R s m args below meth c H' locs' cells slots Q (F0 m (pc + 3) ls rs)) : W p l e R s m args below meth c H locs cells slots Q (F0 m pc ls (am_tv h0 b v :: .ref (h0 + i) :: rs)) := by
  obtain ⟨⟨C, T, N⟩, hc, cell, q1, q2, q3, q4⟩ := am_at_obj hR hi
  obtain ⟨v1, v2, v3, v4, v5, v6, v7⟩ := am_pv_spec (h0 := h0) (b := b) hv
  simp only [am_okL, hc, Bool.and_eq_true, decide_eq_true_eq, Bool.or_eq_true] at hl
  obtain ⟨⟨hk, hlk⟩, hfin⟩ := hl
  have hlink := hts _ (am_has_spec hlk)
  have hap := va_apart (own := t.1.cls) hts (am_hin hc) (am_ty a) (am_hty hc) (am_hnm hc) hK.1 hc
  obtain ⟨hS, hfc, kC, hkC, hkind⟩ := hK.1.1 a _ hc
  obtain ⟨cf, kf, fi, f, hf, hsl⟩ := hS bb hk
  have hty := am_hty hc bb hk
  have hst := (u_facts hfc hkC (u_lays hts (am_hin hc) hk) hf).1
  have hlay := hts _ (am_hin hc _ (u_in_lay hk))
  unfold u_lay at hlay
  have fin : ∀ H' : Heap, H'[h0 + i]? = some (cell.setSlot f.slot (am_tv h0 b v)) → H'.size = H.size → (∀ q, q ≠ h0 + i → H'[q]? = H[q]?) → am_Rep h0 H0 D cA M' H' := fun H' e1 e2 e3 => by
    refine am_Rep_upd hR v1 e2 e3 v2 v3 v4 (fun q hq => ?_)
    rw [hi] at hq
    have hq := Option.some.inj hq
    subst hq
    unfold am_at
    rw [if_neg (show ¬ (a + 10 = 0) by omega), if_neg (show ¬ (a + 10 = 1) by omega), if_neg (show ¬ (a + 10 < 10) by omega), Nat.add_sub_cancel]
    rw [hsl] at e1
    exact ⟨_, hc, t_OB.to (V := updV (am_cv h0 M i a) bb (am_tv h0 b v)) ⟨_, e1, q2, q3, t_set q4 hap hk _⟩ (fun j _ => v5 j)⟩
  have hlo' : ∀ q ∈ locs ++ [(⟨h0 + i, f.slot⟩ : Loc)], h0 ≤ q.base := fun q hq => by
    rcases List.mem_append.mp hq with h | h
    · exact hlo q h
    · rw [List.mem_singleton.mp h]
      exact Nat.le_add_right _ _
  rcases hfin with hfin | ⟨⟨hfin, hnm⟩, hdc⟩
  · rw [if_neg (by rw [hfin]; decide)] at hlay
    have h6 := u_store hfc hkC hkind hlay hf hty v6 v7
    exact W.putK hx hb (f := f) ⟨hown, hlink, ⟨_, _, _, hf⟩, hst⟩ (by rw [q2]; exact h6) q1 q3 (by rw [hsl]; exact k2_hasslot (q4 bb hk)) rfl rfl hd fun H' e1 e2 e3 => kk H' _ (fin H' e1 e2 e3) hlo'
  · rw [if_pos hfin] at hlay
    have hcf : m.cls = cf := by
      obtain ⟨_, _, c', _, _, _, -, -, hf', -, -, -, hown2, -⟩ := Cond.laysFinal_spec hlay
      have e1 : c' = cf := by have := hf.symm.trans hf'; simp at this; exact this.1.symm
      rw [hdc] at hown2
      rw [← e1]; exact Option.some.inj (hown.symm.trans hown2)
    have h6 := u_fits hfc hkC hkind (Or.inr hlay) hf hty v6 v7
    exact W.putFinK hx hb hown hlink hf hst hcf (hin2 hnm) (by rw [q2]; exact h6) q1 q3 (by rw [hsl]; exact k2_hasslot (q4 bb hk)) rfl rfl hd fun H' e1 e2 e3 => kk H' _ (fin H' e1 e2 e3) hlo'
theorem am_store_ok (hR : am_Rep h0 H0 D cA M H) {i : Nat} {q : Nat × Nat} (hi : M.1[i]? = some q) {M' : am_M} (v1 : M'.1 = M.1) (v2 : ∀ j, j ≠ i → M'.2.1 j = M.2.1 j) (v3 : ∀ j, j ≠ i → M'.2.2.1 j = M.2.2.1 j) (v4 : ∀ j, j ≠ i → M'.2.2.2 j = M.2.2.2 j) {H' : Heap} (ha : am_at h0 D cA M' H' i q) (e2 : H'.size = H.size) (e3 : ∀ q, q ≠ h0 + i → H'[q]? = H[q]?) : am_Rep h0 H0 D cA M' H' := by
  refine am_Rep_upd hR v1 e2 e3 v2 v3 v4 (fun q' hq => ?_)
  rw [hi] at hq
  have hq := Option.some.inj hq
  subst hq
  exact ha
theorem am_lo' {i j : Nat} (hlo : ∀ q ∈ locs, h0 ≤ q.base) : ∀ q ∈ locs ++ [(⟨h0 + i, j⟩ : Loc)], h0 ≤ q.base := fun q hq => by
  rcases List.mem_append.mp hq with h | h
  · exact hlo q h
  · rw [List.mem_singleton.mp h]
    exact Nat.le_add_right _ _
theorem am_iast_ok (hx : p.tables.exec = Jvm.exec) (hb : c.code = t.2.1) (hK : am_Kn D cA s) (hR : am_Rep h0 H0 D cA M H) (hlo : ∀ q ∈ locs, h0 ≤ q.base) {i n : Nat} {j x : Int32} (hd : decode t.2.1 pc = .ok (.iastore, 1)) (hi : M.1[i]? = some (0, n)) (hin : ¬ (j < 0 ∨ n ≤ j.toNatClampNeg))
    (kk : ∀ (H' : Heap) (locs' : List Loc), am_Rep h0 H0 D cA (M.1, am_u M.2.1 i j.toNatClampNeg x, M.2.2.1, M.2.2.2) H' → (∀ q ∈ locs', h0 ≤ q.base) → W p l e R s m args below meth c H' locs' cells slots Q (F0 m (pc + 1) ls rs)) : W p l e R s m args below meth c H locs cells slots Q (F0 m pc ls (.int x :: .int j :: .ref (h0 + i) :: rs)) := by
  have ha := am_at_int hR hi
  refine W.iast hx hb ha ((hK.1.2 0 (cA 0, .int) rfl).1 n _) (fun h => by cases h) (by rw [arrV_size]; exact hin) rfl rfl hd fun H' e1 e2 e3 => kk H' _ (am_store_ok (M' := (M.1, am_u M.2.1 i j.toNatClampNeg x, M.2.2.1, M.2.2.2)) hR hi rfl (fun _ hj => va_up_ne _ _ hj) (fun _ _ => rfl) (fun _ _ => rfl) ?_ e2 e3) (am_lo' hlo)
  unfold am_at
  rw [if_pos rfl, e1, arrV_store]
  congr 2
  funext z
  by_cases hz : z = j.toNatClampNeg
  · subst hz
    simp [updV, am_u, va_up]
  · simp [updV, am_u, va_up, hz]
theorem am_last_ok (hx : p.tables.exec = Jvm.exec) (hb : c.code = t.2.1) (hK : am_Kn D cA s) (hR : am_Rep h0 H0 D cA M H) (hlo : ∀ q ∈ locs, h0 ≤ q.base) {i n : Nat} {j : Int32} {x : Int64} (hd : decode t.2.1 pc = .ok (.lastore, 1)) (hi : M.1[i]? = some (1, n)) (hin : ¬ (j < 0 ∨ n ≤ j.toNatClampNeg))
    (kk : ∀ (H' : Heap) (locs' : List Loc), am_Rep h0 H0 D cA (M.1, M.2.1, am_u M.2.2.1 i j.toNatClampNeg x, M.2.2.2) H' → (∀ q ∈ locs', h0 ≤ q.base) → W p l e R s m args below meth c H' locs' cells slots Q (F0 m (pc + 1) ls rs)) : W p l e R s m args below meth c H locs cells slots Q (F0 m pc ls (.long x :: .int j :: .ref (h0 + i) :: rs)) := by
  have ha := am_at_long hR hi
  refine W.last hx hb ha ((hK.1.2 1 (cA 1, .long) rfl).1 n _) (fun h => by cases h) (by rw [arrV_size]; exact hin) rfl rfl hd fun H' e1 e2 e3 => kk H' _ (am_store_ok (M' := (M.1, M.2.1, am_u M.2.2.1 i j.toNatClampNeg x, M.2.2.2)) hR hi rfl (fun _ _ => rfl) (fun _ hj => va_up_ne _ _ hj) (fun _ _ => rfl) ?_ e2 e3) (am_lo' hlo)
  unfold am_at
  rw [if_neg (by simp), if_pos rfl, e1, arrV_store]
  congr 2
  funext z
  by_cases hz : z = j.toNatClampNeg
  · subst hz
    simp [updV, am_u, va_up]
  · simp [updV, am_u, va_up, hz]
theorem am_aast_ok (hx : p.tables.exec = Jvm.exec) (hb : c.code = t.2.1) (hK : am_Kn D cA s) (hR : am_Rep h0 H0 D cA M H) (hlo : ∀ q ∈ locs, h0 ≤ q.base) {i n v kd kv nv : Nat} {j : Int32} (hd : decode t.2.1 pc = .ok (.aastore, 1)) (hi : M.1[i]? = some (kd, n)) (h2 : 2 ≤ kd) (h5 : kd < 5) (hin : ¬ (j < 0 ∨ n ≤ j.toNatClampNeg)) (hv : M.1[v]? = some (kv + 10, nv)) {r : vw_C} (hr : vwCl[kv]? = some r) (hra : r.1 = am_ra kd)
    (kk : ∀ (H' : Heap) (locs' : List Loc), am_Rep h0 H0 D cA (M.1, M.2.1, M.2.2.1, am_u M.2.2.2 i j.toNatClampNeg (some v)) H' → (∀ q ∈ locs', h0 ≤ q.base) → W p l e R s m args below meth c H' locs' cells slots Q (F0 m (pc + 1) ls rs)) : W p l e R s m args below meth c H locs cells slots Q (F0 m pc ls (.ref (h0 + v) :: .int j :: .ref (h0 + i) :: rs)) := by
  have ha := am_at_ref hR hi h2 h5
  obtain ⟨r', hr', cellV, g1, g2, g3, -⟩ := am_at_obj hR hv
  have hcls := (hK.1.1 kv r hr).2
  obtain ⟨kA, comp, k1, k2, k3, -⟩ := (hK.1.2 kd _ (am_tys_at h2 h5)).2
  rw [← hra] at k3
  have hcomp : comp = D.1 kv := Option.some.inj (k3.symm.trans hcls.1)
  subst hcomp
  obtain ⟨kC, hkC, -⟩ := hcls.2
  have hlt : j.toNatClampNeg < n := Nat.not_le.mp fun q => hin (Or.inr q)
  refine W.aast hx hb ha (fun q h => by cases h) (fun h => by cases h) k1 k2 rfl hkC ⟨fun q => hin (Or.inl q), by rw [arrV_size]; exact hlt⟩ g1 (fun q h => by rw [g3] at h; cases h) (by rw [g2]; exact hkC) (by rw [g2]; exact va_assign hcls) rfl rfl hd fun H' e1 e2 e3 => kk H' _ (am_store_ok (M' := (M.1, M.2.1, M.2.2.1, am_u M.2.2.2 i j.toNatClampNeg (some v))) hR hi rfl (fun _ _ => rfl) (fun _ _ => rfl) (fun _ hj => va_up_ne _ _ hj) ?_ e2 e3) (am_lo' hlo)
  unfold am_at
  rw [if_neg (show ¬ (kd = 0) by omega), if_neg (show ¬ (kd = 1) by omega), if_pos (show kd < 10 by omega), e1, arrV_store]
  congr 2
  funext z
  by_cases hz : z = j.toNatClampNeg
  · subst hz
    simp [updV, am_u, va_up, va_rf]
  · simp [updV, am_u, va_up, hz]
theorem am_newO_ok (hx : p.tables.exec = Jvm.exec) (hb : c.code = t.2.1) (hown : s.vm.findClass t.1.cls = some m.cls) (hts : ∀ w ∈ am_Ts, w.before args s = true) (hK : am_Kn D cA s) (hR : am_Rep h0 H0 D cA M H)
    {ix a bb hh : Nat} {q : vw_C} (hd : decode t.2.1 pc = .ok (.new ix, 3)) (hl : am_okL t pc (.new ix) a bb hh = true) (hq : vwCl[a - 10]? = some q) (ha : 10 ≤ a) (hcells : cells + 1 ≤ R.cells) (hslots : slots + q.2.2 ≤ R.slots)
    (kk : ∀ (H' : Heap), am_Rep h0 H0 D cA (am_new M a q.2.2) H' → W p l e R s m args below meth c H' locs (cells + 1) (slots + q.2.2) Q (F0 m (pc + 3) ls (.ref (h0 + M.1.length) :: rs))) : W p l e R s m args below meth c H locs cells slots Q (F0 m pc ls rs) := by
  simp only [am_okL, hq, Bool.and_eq_true] at hl
  have hm := List.all_eq_true.mp am_made q (List.mem_of_getElem? hq)
  simp only [Bool.and_eq_true, decide_eq_true_eq] at hm
  have hKn := hK.1.1 _ _ hq
  refine W.newcK hx hb hown (hts _ (am_has_spec hl.2)) (hts _ hm.1) (hts _ hm.2) rfl hd hcells hslots hKn.2.1 hR.1 fun H1 kC hkC e1 z1 o1 => kk H1 (am_Rep_new hR (by rw [z1, hR.1]) (fun x hx => o1 x (by rw [← hR.1]; exact hx)) ?_)
  unfold am_at
  rw [if_neg (show ¬ (a = 0) by omega), if_neg (show ¬ (a = 1) by omega), if_neg (show ¬ (a < 10) by omega)]
  refine ⟨q, hq, (u_born (am_ty (a - 10)) hts (am_hin hq) hKn hkC e1 (am_hty hq)).to (fun k hk => ?_)⟩
  rw [← am_dflt (am_kind hq hk) h0]
  simp [am_cv, am_new, va_up]
theorem am_newI_ok (hx : p.tables.exec = Jvm.exec) (hb : c.code = t.2.1) (hts : ∀ w ∈ am_Ts, w.before args s = true) (hK : am_Kn D cA s) (hR : am_Rep h0 H0 D cA M H)
    {n : Int32} (hd : decode t.2.1 pc = .ok (.newarray .int, 2)) (hn : ¬ n < 0) (hn2 : n.toNatClampNeg ≤ 1000) (hcells : cells + 1 ≤ R.cells) (hslots : slots + n.toNatClampNeg ≤ R.slots)
    (kk : ∀ (H' : Heap), am_Rep h0 H0 D cA (am_new M 0 n.toNatClampNeg) H' → W p l e R s m args below meth c H' locs (cells + 1) (slots + n.toNatClampNeg) Q (F0 m (pc + 2) ls (.ref (h0 + M.1.length) :: rs))) : W p l e R s m args below meth c H locs cells slots Q (F0 m pc ls (.int n :: rs)) := by
  refine va_newaK (atype := .int) hx hb (hts _ am_w0.1) rfl hd rfl hn rfl (Nat.le_trans (Nat.mul_le_mul_right _ hn2) (by decide)) hcells hslots hR.1 fun H1 cB e1 z1 o1 hAr hNm => kk H1 (am_Rep_new hR (by rw [z1, hR.1]) (fun x hx => o1 x (by rw [← hR.1]; exact hx)) ?_)
  have hc : cB = cA 0 := Option.some.inj (hNm.symm.trans (hK.1.2 0 (cA 0, .int) rfl).2)
  subst hc
  unfold am_at
  rw [if_pos rfl, e1]
  simp [am_new, va_up]
  rfl
theorem am_newL_ok (hx : p.tables.exec = Jvm.exec) (hb : c.code = t.2.1) (hts : ∀ w ∈ am_Ts, w.before args s = true) (hK : am_Kn D cA s) (hR : am_Rep h0 H0 D cA M H)
    {n : Int32} (hd : decode t.2.1 pc = .ok (.newarray .long, 2)) (hn : ¬ n < 0) (hn2 : n.toNatClampNeg ≤ 1000) (hcells : cells + 1 ≤ R.cells) (hslots : slots + n.toNatClampNeg ≤ R.slots)
    (kk : ∀ (H' : Heap), am_Rep h0 H0 D cA (am_new M 1 n.toNatClampNeg) H' → W p l e R s m args below meth c H' locs (cells + 1) (slots + n.toNatClampNeg) Q (F0 m (pc + 2) ls (.ref (h0 + M.1.length) :: rs))) : W p l e R s m args below meth c H locs cells slots Q (F0 m pc ls (.int n :: rs)) := by
  refine va_newaK (atype := .long) hx hb (hts _ am_w0.2.1) rfl hd rfl hn rfl (Nat.le_trans (Nat.mul_le_mul_right _ hn2) (by decide)) hcells hslots hR.1 fun H1 cB e1 z1 o1 hAr hNm => kk H1 (am_Rep_new hR (by rw [z1, hR.1]) (fun x hx => o1 x (by rw [← hR.1]; exact hx)) ?_)
  have hc : cB = cA 1 := Option.some.inj (hNm.symm.trans (hK.1.2 1 (cA 1, .long) rfl).2)
  subst hc
  unfold am_at
  rw [if_neg (by simp), if_pos rfl, e1]
  simp [am_new, va_up]
  rfl
theorem am_newA_ok (hx : p.tables.exec = Jvm.exec) (hb : c.code = t.2.1) (hown : s.vm.findClass t.1.cls = some m.cls) (hts : ∀ w ∈ am_Ts, w.before args s = true) (hK : am_Kn D cA s) (hR : am_Rep h0 H0 D cA M H)
    {ix a bb hh : Nat} {n : Int32} (hd : decode t.2.1 pc = .ok (.anewarray ix, 3)) (hl : am_okL t pc (.anewarray ix) a bb hh = true) (hn : ¬ n < 0) (hn2 : n.toNatClampNeg ≤ 1000) (hcells : cells + 1 ≤ R.cells) (hslots : slots + n.toNatClampNeg ≤ R.slots)
    (kk : ∀ (H' : Heap), am_Rep h0 H0 D cA (am_new M a n.toNatClampNeg) H' → W p l e R s m args below meth c H' locs (cells + 1) (slots + n.toNatClampNeg) Q (F0 m (pc + 3) ls (.ref (h0 + M.1.length) :: rs))) : W p l e R s m args below meth c H locs cells slots Q (F0 m pc ls (.int n :: rs)) := by
  simp only [am_okL, Bool.and_eq_true, decide_eq_true_eq] at hl
  obtain ⟨⟨h2, h5⟩, hlk⟩ := hl
  have hAO : va_AO (am_ra a) s := by
    rcases (by omega : a = 2 ∨ a = 3 ∨ a = 4) with rfl | rfl | rfl
    · exact hK.2.2.1
    · exact hK.2.2.2.1
    · exact hK.2.2.2.2
  refine W.anew hx hb hown (hts _ (am_has_spec hlk)) (va_AO.use hAO) rfl hd rfl hn (Nat.le_trans (Nat.mul_le_mul_right _ hn2) (by decide)) hcells hslots fun cB kA comp f1 f2 f3 f4 => ?_
  obtain ⟨kA', comp', k1, k2, k3, k4⟩ := (hK.1.2 a _ (am_tys_at h2 h5)).2
  have hc : cB = cA a := Option.some.inj (f1.symm.trans k4)
  subst hc
  rw [hR.1]
  refine kk _ (am_Rep_new hR (by simp) (fun x hx => by rw [Array.getElem?_push, if_neg (Nat.ne_of_lt hx)]) ?_)
  unfold am_at
  rw [if_neg (show ¬ (a = 0) by omega), if_neg (show ¬ (a = 1) by omega), if_pos (show a < 10 by omega), ← hR.1, Array.getElem?_push_size, arrV_new]
  simp [am_new, va_up, va_rf]
theorem am_acp_ok (hx : p.tables.exec = Jvm.exec) (hb : c.code = t.2.1) (hml : c.maxLocals = ls.size) (hown : s.vm.findClass t.1.cls = some m.cls) (hts : ∀ w ∈ am_Ts, w.before args s = true) (hK : am_Kn D cA s) (hR : am_Rep h0 H0 D cA M H) (hlo : ∀ q ∈ locs, h0 ≤ q.base)
    {ix hh i1 i2 n1 n2 : Nat} {sp dp n : Int32} (hd : decode t.2.1 pc = .ok (.invokestatic ix, 3)) (hlk : am_has hh (.methodLink t.1.cls ix arraycopyName) = true) (hi1 : M.1[i1]? = some (0, n1)) (hi2 : M.1[i2]? = some (0, n2)) (h1 : ¬ sp < 0) (h2 : ¬ dp < 0) (h3 : ¬ n < 0) (h4 : sp.toNatClampNeg + n.toNatClampNeg ≤ n1) (h5 : dp.toNatClampNeg + n.toNatClampNeg ≤ n2) (hfr : 1 ≤ R.frames) (hloc : 100 ≤ R.locals) (hrs : (rs.map fun v => v.category).sum ≤ 8)
    (kk : ∀ (H' : Heap) (locs' : List Loc), am_Rep h0 H0 D cA (M.1, va_up M.2.1 i2 (va_cpy (M.2.1 i1) (M.2.1 i2) sp.toNatClampNeg dp.toNatClampNeg n.toNatClampNeg), M.2.2.1, M.2.2.2) H' → (∀ q ∈ locs', h0 ≤ q.base) → W p l e R s m args below meth c H' locs' cells slots Q (F0 m (pc + 3) ls rs)) : W p l e R s m args below meth c H locs cells slots Q (F0 m pc ls (.int n :: .int dp :: .ref (h0 + i2) :: .int sp :: .ref (h0 + i1) :: rs)) := by
  have nn : ∀ z : Int32, ¬ z < 0 → z.toInt = (z.toNatClampNeg : Int) := by
    intro z hz
    have hz0 : (0 : Int) ≤ z.toInt := by
      have := Int32.not_lt.mp hz
      simpa using Int32.le_iff_toInt_le.mp this
    show z.toInt = ((z.toInt.toNat : Nat) : Int)
    omega
  intro T hT X
  have hc0 := am_at_int hR hi1
  have hc1 := am_at_int hR hi2
  obtain ⟨-, k0, hk0, cm0, hkk0⟩ := (hK.1.2 0 (cA 0, .int) rfl).1 n1 (fun j => .int (M.2.1 i1 j))
  obtain ⟨-, k1, hk1, cm1, hkk1⟩ := (hK.1.2 0 (cA 0, .int) rfl).1 n2 (fun j => .int (M.2.1 i2 j))
  obtain ⟨vm', X', step⟩ := X.arraycopy hx hown (hts _ (am_has_spec hlk)) (hts _ am_w0.2.2.1) (hts _ am_w0.2.2.2.1) (hts _ am_w0.2.2.2.2.1) (src := h0 + i1) (dst := h0 + i2) (cs := arrV (cA 0) n1 (fun j => .int (M.2.1 i1 j))) (cd := arrV (cA 0) n2 (fun j => .int (M.2.1 i2 j))) (srcPos := sp) (destPos := dp) (n := n) (by rw [hT]; exact hc0) (by rw [hT]; exact hc1)
    (fun _ h => by cases h) (fun _ h => by cases h) (fun h => by cases h) (fun h => by cases h) hk0 hk1 hkk0 hkk1 (by simp) h1 h2 h3
    (by rw [nn sp h1, nn n h3, arrV_size]; omega)
    (by rw [nn dp h2, nn n h3, arrV_size]; omega)
    (fun vm₁ _ i hi => by
      have e : (arrV (cA 0) n1 (fun j => .int (M.2.1 i1 j))).slots.getD (sp.toNatClampNeg + i) .null = .int (M.2.1 i1 (sp.toNatClampNeg + i)) := by
        rw [Array.getD_eq_getD_getElem?, arrV_read _ _ (by omega)]
        rfl
      refine ⟨?_, ?_⟩
      · rw [e]
        rfl
      · rw [e]
        exact trivial)
    (g := F0 m pc ls (.int n :: .int dp :: .ref (h0 + i2) :: .int sp :: .ref (h0 + i1) :: rs)) rfl (by rw [hml]) (rest := rs) rfl (by rw [hb]; exact hd) hfr (by
      have hw : nativeFrameWords "java/lang/System" "arraycopy" 5 = 7 := by decide +kernel
      rw [hw]
      show 2 * 0 + _ + _ ≤ _
      omega)
  have e1 : copied (arrV (cA 0) n1 (fun j => .int (M.2.1 i1 j))) (arrV (cA 0) n2 (fun j => .int (M.2.1 i2 j))) sp dp n = arrV (cA 0) n2 (fun j => .int (va_cpy (M.2.1 i1) (M.2.1 i2) sp.toNatClampNeg dp.toNatClampNeg n.toNatClampNeg j)) := va_copied (fun z => .int z) (cA 0) (cA 0) (M.2.1 i1) (M.2.1 i2) h4
  rw [e1] at X' step
  have hl : h0 + i2 < H.size := (Array.getElem?_eq_some_iff.mp hc1).1
  generalize hcell : arrV (cA 0) n2 (fun j => .int (va_cpy (M.2.1 i1) (M.2.1 i2) sp.toNatClampNeg dp.toNatClampNeg n.toNatClampNeg j)) = cell at X' step
  have hheap : ((T.setVm vm').setCell (h0 + i2) cell).heap = H.setIfInBounds (h0 + i2) cell := by rw [← hT]; rfl
  have oq : ∀ q : Nat, q ≠ h0 + i2 → (H.setIfInBounds (h0 + i2) cell)[q]? = H[q]? := fun q hq => by simp [Array.getElem?_setIfInBounds, Ne.symm hq]
  obtain ⟨t', a1, b1⟩ := kk _ _ (am_store_ok (M' := (M.1, va_up M.2.1 i2 (va_cpy (M.2.1 i1) (M.2.1 i2) sp.toNatClampNeg dp.toNatClampNeg n.toNatClampNeg), M.2.2.1, M.2.2.2)) hR hi2 rfl (fun _ hj => va_up_ne _ _ hj) (fun _ _ => rfl) (fun _ _ => rfl) (H' := H.setIfInBounds (h0 + i2) cell) (by
      unfold am_at
      rw [if_pos rfl]
      simp only [va_up_self]
      rw [hcell]
      simp [Array.getElem?_setIfInBounds, hl]) (by simp) oq) (fun q hq => by
      rcases List.mem_append.mp hq with h | h
      · exact hlo q h
      · obtain ⟨z, -, hz⟩ := List.mem_map.mp h
        rw [← hz]
        exact Nat.le_add_right _ _) _ hheap X'
  exact ⟨t', step t' a1, b1⟩
end AMM
end
section
/-! ===== what a step of the abstract machine is ===== -/
theorem am_look {α : Type} : ∀ (l : List (Nat × α)) (a : Nat) (x : α), l.lookup a = some x → (a, x) ∈ l
  | [], a, x, h => by simp at h
  | (k, y) :: l, a, x, h => by
    rw [List.lookup_cons] at h
    by_cases e : a = k
    · subst e
      simp at h
      rw [h]
      exact List.mem_cons_self
    · have e2 : (a == k) = false := by simp [e]
      rw [e2] at h
      exact List.mem_cons_of_mem _ (am_look l a x h)
theorem am_calS_spec {a bb nx : Nat} {M : am_M} {la st : List Value} {x : am_R} (h : am_calS a bb nx M la st = some x) : ∃ as r, am_take bb st [] = some (as, r) ∧ (r.map fun v => v.category).sum ≤ 8 ∧ x = .inr (.inr (a, as, (M, nx, la, r))) := by
  unfold am_calS at h
  split at h
  · next as r hq =>
    split at h
    · next hs => exact ⟨as, r, hq, hs, (Option.some.inj h).symm⟩
    · cases h
  · cases h
theorem am_calV_spec {a bb nx : Nat} {M : am_M} {la st : List Value} {x : am_R} (h : am_calV a bb nx M la st = some x) : ∃ as i r t', am_take bb st [] = some (as, .ref i :: r) ∧ (r.map fun v => v.category).sum ≤ 8 ∧ am_mt[a]? = some t' ∧ 10 ≤ t'.2.2.2.2.1 ∧ (M.1[i]?).map (fun q => q.1) = some t'.2.2.2.2.1 ∧ x = .inr (.inr (a, .ref i :: as, (M, nx, la, r))) := by
  unfold am_calV at h
  split at h
  · next as i r hq =>
    split at h
    · next hs =>
      obtain ⟨h1, h2⟩ := hs
      unfold am_cvk at h2
      cases hm : am_mt[a]? with
      | none => rw [hm] at h2; cases h2
      | some t' =>
        rw [hm] at h2
        have h2 := of_decide_eq_true h2
        exact ⟨as, i, r, t', hq, h1, rfl, h2.1, h2.2, (Option.some.inj h).symm⟩
    · cases h
  · cases h
/-- how a method may end with this answer, at this place -/
def am_rok (t : am_T) (pc : Nat) (v : Option Value) : Prop := match v with
  | some (.int x) => decode t.2.1 pc = .ok (.ireturn, 1) ∧ (t.2.2.2.1 = some .int ∨ (t.2.2.2.1 = some .boolean ∧ (x = 0 ∨ x = 1)))
  | some (.long _) => decode t.2.1 pc = .ok (.lreturn, 1) ∧ t.2.2.2.1 = some .long
  | some (.ref _) => decode t.2.1 pc = .ok (.areturn, 1) ∧ am_isO t.2.2.2.1 = true
  | some .null => decode t.2.1 pc = .ok (.areturn, 1) ∧ am_isO t.2.2.2.1 = true
  | some _ => False
  | none => decode t.2.1 pc = .ok (.return_, 1) ∧ t.2.2.2.1 = none
theorem am_inl {α β : Type} {o : Option α} {f : α} (h : o.map (Sum.inl (β := β)) = some (.inl f)) : o = some f := by
  cases o with
  | none => cases h
  | some x => rw [Option.map_some] at h; rw [Sum.inl.inj (Option.some.inj h)]
theorem am_inlr {α β : Type} {o : Option α} {r : β} (h : o.map (Sum.inl (β := β)) = some (.inr r)) : False := by
  cases o with
  | none => cases h
  | some x => rw [Option.map_some] at h; cases Option.some.inj h
theorem am_get_spec {a bb nx : Nat} {M : am_M} {la st : List Value} {f : am_F} (h : am_get a bb nx M la st = some f) : ∃ i r n, st = .ref i :: r ∧ M.1[i]? = some (a + 10, n) ∧ f = (M, nx, la, am_gv M i a bb :: r) := by
  unfold am_get at h
  split at h
  · next i r =>
    split at h
    · next hs =>
      obtain ⟨n, hn⟩ := am_map_spec hs
      exact ⟨i, r, n, rfl, hn, (Option.some.inj h).symm⟩
    · cases h
  · cases h
theorem am_put_spec {a bb nx : Nat} {M : am_M} {la st : List Value} {f : am_F} (h : am_put a bb nx M la st = some f) : ∃ v i r n M', st = v :: .ref i :: r ∧ M.1[i]? = some (a + 10, n) ∧ am_pv M i a bb v = some M' ∧ f = (M', nx, la, r) := by
  unfold am_put at h
  split at h
  · next v i r =>
    split at h
    · next hs =>
      obtain ⟨n, hn⟩ := am_map_spec hs
      cases hp : am_pv M i a bb v with
      | none => rw [hp] at h; cases h
      | some M' =>
        rw [hp] at h
        exact ⟨v, i, r, n, M', rfl, hn, hp, (Option.some.inj h).symm⟩
    · cases h
  · cases h
theorem am_alen_spec {S : am_S} {nx : Nat} {M : am_M} {la st : List Value} {f : am_F} (h : am_alen S nx M la st = some f) : (∃ i r q, st = .ref i :: r ∧ M.1[i]? = some q ∧ q.1 < 5 ∧ f = (M, nx, la, .int (Int32.ofNat q.2) :: r)) ∨ ∃ z r, st = .retAddr z :: r ∧ f = (M, nx, la, .int (Int32.ofNat S.1) :: r) := by
  unfold am_alen at h
  split at h
  · next i r =>
    split at h
    · next q hq =>
      split at h
      · next hs => exact Or.inl ⟨i, r, q, rfl, hq, hs, (Option.some.inj h).symm⟩
      · cases h
    · cases h
  · next z r => exact Or.inr ⟨z, r, rfl, (Option.some.inj h).symm⟩
  · cases h
theorem am_iald_spec {S : am_S} {nx : Nat} {M : am_M} {la st : List Value} {f : am_F} (h : am_iald S nx M la st = some f) : (∃ i j r n, st = .int j :: .ref i :: r ∧ M.1[i]? = some (0, n) ∧ ¬ (j < 0 ∨ n ≤ j.toNatClampNeg) ∧ f = (M, nx, la, .int (M.2.1 i j.toNatClampNeg) :: r)) ∨ ∃ j z r, st = .int j :: .retAddr z :: r ∧ ¬ (j < 0 ∨ S.1 ≤ j.toNatClampNeg) ∧ f = (M, nx, la, .int (S.2 j.toNatClampNeg) :: r) := by
  unfold am_iald at h
  split at h
  · next j i r =>
    split at h
    · next hs =>
      obtain ⟨n, h1, h2⟩ := am_in_spec hs
      exact Or.inl ⟨i, j, r, n, rfl, h1, h2, (Option.some.inj h).symm⟩
    · cases h
  · next j z r =>
    split at h
    · next hs => exact Or.inr ⟨j, z, r, rfl, hs, (Option.some.inj h).symm⟩
    · cases h
  · cases h
theorem am_lald_spec {nx : Nat} {M : am_M} {la st : List Value} {f : am_F} (h : am_lald nx M la st = some f) : ∃ i j r n, st = .int j :: .ref i :: r ∧ M.1[i]? = some (1, n) ∧ ¬ (j < 0 ∨ n ≤ j.toNatClampNeg) ∧ f = (M, nx, la, .long (M.2.2.1 i j.toNatClampNeg) :: r) := by
  unfold am_lald at h
  split at h
  · next j i r =>
    split at h
    · next hs =>
      obtain ⟨n, h1, h2⟩ := am_in_spec hs
      exact ⟨i, j, r, n, rfl, h1, h2, (Option.some.inj h).symm⟩
    · cases h
  · cases h
theorem am_aald_spec {nx : Nat} {M : am_M} {la st : List Value} {f : am_F} (h : am_aald nx M la st = some f) : ∃ i j r n kd, st = .int j :: .ref i :: r ∧ 2 ≤ kd ∧ kd < 5 ∧ M.1[i]? = some (kd, n) ∧ ¬ (j < 0 ∨ n ≤ j.toNatClampNeg) ∧ f = (M, nx, la, va_rf (M.2.2.2 i j.toNatClampNeg) :: r) := by
  unfold am_aald at h
  split at h
  · next j i r =>
    split at h
    · next hs =>
      obtain ⟨n, h1, h2⟩ := am_in_spec hs.2.2
      exact ⟨i, j, r, n, _, rfl, hs.1, hs.2.1, h1, h2, (Option.some.inj h).symm⟩
    · cases h
  · cases h
theorem am_iast_spec {nx : Nat} {M : am_M} {la st : List Value} {f : am_F} (h : am_iast nx M la st = some f) : ∃ i j x r n, st = .int x :: .int j :: .ref i :: r ∧ M.1[i]? = some (0, n) ∧ ¬ (j < 0 ∨ n ≤ j.toNatClampNeg) ∧ f = ((M.1, am_u M.2.1 i j.toNatClampNeg x, M.2.2.1, M.2.2.2), nx, la, r) := by
  unfold am_iast at h
  split at h
  · next x j i r =>
    split at h
    · next hs =>
      obtain ⟨n, h1, h2⟩ := am_in_spec hs
      exact ⟨i, j, x, r, n, rfl, h1, h2, (Option.some.inj h).symm⟩
    · cases h
  · cases h
theorem am_last_spec {nx : Nat} {M : am_M} {la st : List Value} {f : am_F} (h : am_last nx M la st = some f) : ∃ i j x r n, st = .long x :: .int j :: .ref i :: r ∧ M.1[i]? = some (1, n) ∧ ¬ (j < 0 ∨ n ≤ j.toNatClampNeg) ∧ f = ((M.1, M.2.1, am_u M.2.2.1 i j.toNatClampNeg x, M.2.2.2), nx, la, r) := by
  unfold am_last at h
  split at h
  · next x j i r =>
    split at h
    · next hs =>
      obtain ⟨n, h1, h2⟩ := am_in_spec hs
      exact ⟨i, j, x, r, n, rfl, h1, h2, (Option.some.inj h).symm⟩
    · cases h
  · cases h
theorem am_aast_spec {nx : Nat} {M : am_M} {la st : List Value} {f : am_F} (h : am_aast nx M la st = some f) : ∃ i j v r n kd kv nv q, st = .ref v :: .int j :: .ref i :: r ∧ 2 ≤ kd ∧ kd < 5 ∧ M.1[i]? = some (kd, n) ∧ ¬ (j < 0 ∨ n ≤ j.toNatClampNeg) ∧ M.1[v]? = some (kv + 10, nv) ∧ vwCl[kv]? = some q ∧ q.1 = am_ra kd ∧ f = ((M.1, M.2.1, M.2.2.1, am_u M.2.2.2 i j.toNatClampNeg (some v)), nx, la, r) := by
  unfold am_aast at h
  split at h
  · next v j i r =>
    split at h
    · next hs =>
      obtain ⟨h2, h5, hin, h10, hc⟩ := hs
      obtain ⟨n, h1, hj⟩ := am_in_spec hin
      obtain ⟨nv, hv⟩ := am_kr_spec h10
      cases hq : vwCl[am_kr M v - 10]? with
      | none => rw [hq] at hc; cases hc
      | some q =>
        rw [hq] at hc
        exact ⟨i, j, v, r, n, _, am_kr M v - 10, nv, q, rfl, h2, h5, h1, hj, by rw [hv]; congr 2; omega, hq, Option.some.inj hc, (Option.some.inj h).symm⟩
    · cases h
  · cases h
theorem am_mkO_spec {a nx : Nat} {M : am_M} {la st : List Value} {f : am_F} (h : am_mkO a nx M la st = some f) : ∃ q, vwCl[a - 10]? = some q ∧ 10 ≤ a ∧ f = (am_new M a q.2.2, nx, la, .ref M.1.length :: st) := by
  unfold am_mkO at h
  split at h
  · next q hq =>
    split at h
    · next hs => exact ⟨q, hq, hs, (Option.some.inj h).symm⟩
    · cases h
  · cases h
theorem am_mkA_spec {kd nx : Nat} {M : am_M} {la st : List Value} {f : am_F} (h : am_mkA kd nx M la st = some f) : ∃ n r, st = .int n :: r ∧ ¬ n < 0 ∧ n.toNatClampNeg ≤ 1000 ∧ f = (am_new M kd n.toNatClampNeg, nx, la, .ref M.1.length :: r) := by
  unfold am_mkA at h
  split at h
  · next n r =>
    split at h
    · next hs => exact ⟨n, r, rfl, hs.1, hs.2, (Option.some.inj h).symm⟩
    · cases h
  · cases h
theorem am_acp_spec {nx : Nat} {M : am_M} {la st : List Value} {f : am_F} (h : am_acp nx M la st = some f) : ∃ n dp i2 sp i1 r n1 n2, st = .int n :: .int dp :: .ref i2 :: .int sp :: .ref i1 :: r ∧ M.1[i1]? = some (0, n1) ∧ M.1[i2]? = some (0, n2) ∧ (r.map fun v => v.category).sum ≤ 8 ∧ ¬ sp < 0 ∧ ¬ dp < 0 ∧ ¬ n < 0 ∧ sp.toNatClampNeg + n.toNatClampNeg ≤ n1 ∧ dp.toNatClampNeg + n.toNatClampNeg ≤ n2 ∧ f = ((M.1, va_up M.2.1 i2 (va_cpy (M.2.1 i1) (M.2.1 i2) sp.toNatClampNeg dp.toNatClampNeg n.toNatClampNeg), M.2.2.1, M.2.2.2), nx, la, r) := by
  unfold am_acp at h
  split at h
  · next n dp i2 sp i1 r =>
    split at h
    · next q1 q2 hq1 hq2 =>
      split at h
      · next hs =>
        obtain ⟨a1, a2, a3, a4, a5, a6, a7, a8⟩ := hs
        exact ⟨n, dp, i2, sp, i1, r, q1.2, q2.2, rfl, by rw [hq1, ← a2], by rw [hq2, ← a3], a1, a4, a5, a6, a7, a8, (Option.some.inj h).symm⟩
      · cases h
    · cases h
  · cases h
theorem am_pop_spec {nx : Nat} {M : am_M} {la st : List Value} {f : am_F} (h : am_pop nx M la st = some f) : ∃ i r, st = .ref i :: r ∧ (r.map fun v => v.category).sum ≤ 8 ∧ f = (M, nx, la, r) := by
  unfold am_pop at h
  split at h
  · next i r =>
    split at h
    · next hs => exact ⟨i, r, rfl, hs, (Option.some.inj h).symm⟩
    · cases h
  · cases h
theorem am_retI_spec {t : am_T} {M : am_M} {st : List Value} {x : am_R} (h : am_retI t M st = some x) : ∃ z, st = [.int z] ∧ (t.2.2.2.1 = some .int ∨ (t.2.2.2.1 = some .boolean ∧ (z = 0 ∨ z = 1))) ∧ x = .inr (.inl (some (.int z), M)) := by
  unfold am_retI at h
  split at h
  · next z =>
    split at h
    · next hs => exact ⟨z, rfl, hs, (Option.some.inj h).symm⟩
    · cases h
  · cases h
theorem am_retL_spec {t : am_T} {M : am_M} {st : List Value} {x : am_R} (h : am_retL t M st = some x) : ∃ z, st = [.long z] ∧ t.2.2.2.1 = some .long ∧ x = .inr (.inl (some (.long z), M)) := by
  unfold am_retL at h
  split at h
  · next z =>
    split at h
    · next hs => exact ⟨z, rfl, hs, (Option.some.inj h).symm⟩
    · cases h
  · cases h
theorem am_retA_spec {t : am_T} {M : am_M} {st : List Value} {x : am_R} (h : am_retA t M st = some x) : am_isO t.2.2.2.1 = true ∧ ((∃ z, st = [.ref z] ∧ x = .inr (.inl (some (.ref z), M))) ∨ (st = [.null] ∧ x = .inr (.inl (some .null, M)))) := by
  unfold am_retA at h
  split at h
  · next z =>
    split at h
    · next hs => exact ⟨hs, Or.inl ⟨z, rfl, (Option.some.inj h).symm⟩⟩
    · cases h
  · next =>
    split at h
    · next hs => exact ⟨hs, Or.inr ⟨rfl, (Option.some.inj h).symm⟩⟩
    · cases h
  · cases h
theorem am_retV_spec {t : am_T} {M : am_M} {st : List Value} {x : am_R} (h : am_retV t M st = some x) : st = [] ∧ t.2.2.2.1 = none ∧ x = .inr (.inl (none, M)) := by
  unfold am_retV at h
  split at h
  · next =>
    split at h
    · next hs => exact ⟨rfl, hs, (Option.some.inj h).symm⟩
    · cases h
  · cases h
theorem am_new_c (M : am_M) (kd n : Nat) : am_c (am_new M kd n) = am_c M + 1 ∧ am_z (am_new M kd n) = am_z M + n := by
  simp [am_c, am_z, am_new]
theorem am_pv_1 {M M' : am_M} {i c k : Nat} {v : Value} (h : am_pv M i c k v = some M') : M'.1 = M.1 := (am_pv_spec (h0 := 0) (b := 0) h).1
/-- a step never loses cells -/
theorem am_mem_mono {S : am_S} {t : am_T} {ins : Instr} {nx a bb : Nat} {M : am_M} {la st : List Value} {x : am_R} (h : am_mem S t ins nx a bb M la st = some x) : (∀ f, x = .inl f → am_c M ≤ am_c f.1 ∧ am_z M ≤ am_z f.1 ∧ f.2.2.1 = la) ∧ (∀ r, x = .inr (.inl r) → r.2 = M) ∧ ∀ q, x = .inr (.inr q) → q.2.2.1 = M ∧ q.2.2.2.2.1 = la := by
  have fin : ∀ {o : Option am_F}, o.map Sum.inl = some x → (∀ f, o = some f → am_c M ≤ am_c f.1 ∧ am_z M ≤ am_z f.1 ∧ f.2.2.1 = la) → (∀ f, x = .inl f → am_c M ≤ am_c f.1 ∧ am_z M ≤ am_z f.1 ∧ f.2.2.1 = la) ∧ (∀ r, x = .inr (.inl r) → r.2 = M) ∧ ∀ q, x = .inr (.inr q) → q.2.2.1 = M ∧ q.2.2.2.2.1 = la := fun {o} ho hf => by
    cases o with
    | none => cases ho
    | some f0 =>
      have e := Option.some.inj ho
      subst e
      exact ⟨fun f e => (by have e := Sum.inl.inj e; subst e; exact hf _ rfl), fun r e => (by cases e), fun q e => by cases e⟩
  have same : ∀ {f : am_F}, f.1.1 = M.1 → am_c M ≤ am_c f.1 ∧ am_z M ≤ am_z f.1 := fun {f} e => by
    unfold am_c am_z
    rw [e]
    exact ⟨Nat.le_refl _, Nat.le_refl _⟩
  have call : ∀ {j as nx r}, x = .inr (.inr (j, as, (M, nx, la, r))) → (∀ f, x = .inl f → am_c M ≤ am_c f.1 ∧ am_z M ≤ am_z f.1 ∧ f.2.2.1 = la) ∧ (∀ r, x = .inr (.inl r) → r.2 = M) ∧ ∀ q, x = .inr (.inr q) → q.2.2.1 = M ∧ q.2.2.2.2.1 = la := fun {j as nx r} e => by
    subst e
    exact ⟨fun f e => (by cases e), fun r e => (by cases e), fun q e => by cases e; exact ⟨rfl, rfl⟩⟩
  have retn : ∀ {v}, x = .inr (.inl (v, M)) → (∀ f, x = .inl f → am_c M ≤ am_c f.1 ∧ am_z M ≤ am_z f.1 ∧ f.2.2.1 = la) ∧ (∀ r, x = .inr (.inl r) → r.2 = M) ∧ ∀ q, x = .inr (.inr q) → q.2.2.1 = M ∧ q.2.2.2.2.1 = la := fun {v} e => by
    subst e
    exact ⟨fun f e => (by cases e), fun r e => (by cases e; rfl), fun q e => by cases e⟩
  cases ins
  case getfield => exact fin h (fun f hf => by obtain ⟨i, r, n, -, -, rfl⟩ := am_get_spec hf; exact ⟨(same rfl).1, (same rfl).2, rfl⟩)
  case putfield => exact fin h (fun f hf => by obtain ⟨v, i, r, n, M', -, -, hp, rfl⟩ := am_put_spec hf; exact ⟨(same (am_pv_1 hp)).1, (same (am_pv_1 hp)).2, rfl⟩)
  case arraylength => exact fin h (fun f hf => by rcases am_alen_spec hf with ⟨i, r, q, -, -, -, rfl⟩ | ⟨z, r, -, rfl⟩ <;> exact ⟨(same rfl).1, (same rfl).2, rfl⟩)
  case iaload => exact fin h (fun f hf => by rcases am_iald_spec hf with ⟨i, j, r, n, -, -, -, rfl⟩ | ⟨j, z, r, -, -, rfl⟩ <;> exact ⟨(same rfl).1, (same rfl).2, rfl⟩)
  case laload => exact fin h (fun f hf => by obtain ⟨i, j, r, n, -, -, -, rfl⟩ := am_lald_spec hf; exact ⟨(same rfl).1, (same rfl).2, rfl⟩)
  case aaload => exact fin h (fun f hf => by obtain ⟨i, j, r, n, kd, -, -, -, -, -, rfl⟩ := am_aald_spec hf; exact ⟨(same rfl).1, (same rfl).2, rfl⟩)
  case iastore => exact fin h (fun f hf => by obtain ⟨i, j, x, r, n, -, -, -, rfl⟩ := am_iast_spec hf; exact ⟨(same rfl).1, (same rfl).2, rfl⟩)
  case lastore => exact fin h (fun f hf => by obtain ⟨i, j, x, r, n, -, -, -, rfl⟩ := am_last_spec hf; exact ⟨(same rfl).1, (same rfl).2, rfl⟩)
  case aastore => exact fin h (fun f hf => by obtain ⟨i, j, v, r, n, kd, kv, nv, q, -, -, -, -, -, -, -, -, rfl⟩ := am_aast_spec hf; exact ⟨(same rfl).1, (same rfl).2, rfl⟩)
  case new => exact fin h (fun f hf => by obtain ⟨q, -, -, rfl⟩ := am_mkO_spec hf; have hn := am_new_c M a q.2.2; dsimp only; exact ⟨by omega, by omega, rfl⟩)
  case newarray ty =>
    cases ty
    case int => exact fin h (fun f hf => by obtain ⟨n, r, -, -, -, rfl⟩ := am_mkA_spec hf; have hn := am_new_c M 0 n.toNatClampNeg; dsimp only; exact ⟨by omega, by omega, rfl⟩)
    case long => exact fin h (fun f hf => by obtain ⟨n, r, -, -, -, rfl⟩ := am_mkA_spec hf; have hn := am_new_c M 1 n.toNatClampNeg; dsimp only; exact ⟨by omega, by omega, rfl⟩)
    all_goals exact absurd h.symm (Option.some_ne_none _)
  case anewarray => exact fin h (fun f hf => by obtain ⟨n, r, -, -, -, rfl⟩ := am_mkA_spec hf; have hn := am_new_c M a n.toNatClampNeg; dsimp only; exact ⟨by omega, by omega, rfl⟩)
  case invokestatic =>
    simp only [am_mem] at h
    split at h
    · exact fin h (fun f hf => by obtain ⟨n, dp, i2, sp, i1, r, n1, n2, -, -, -, -, -, -, -, -, -, rfl⟩ := am_acp_spec hf; exact ⟨(same rfl).1, (same rfl).2, rfl⟩)
    · obtain ⟨as, r, -, -, e⟩ := am_calS_spec h
      exact call e
  case invokevirtual =>
    obtain ⟨as, i, r, t', -, -, -, -, -, e⟩ := am_calV_spec h
    exact call e
  case invokespecial =>
    simp only [am_mem] at h
    split at h
    · exact fin h (fun f hf => by obtain ⟨i, r, -, -, rfl⟩ := am_pop_spec hf; exact ⟨(same rfl).1, (same rfl).2, rfl⟩)
    · obtain ⟨as, i, r, t', -, -, -, -, -, e⟩ := am_calV_spec h
      exact call e
  case ireturn =>
    obtain ⟨z, -, -, e⟩ := am_retI_spec h
    exact retn e
  case lreturn =>
    obtain ⟨z, -, -, e⟩ := am_retL_spec h
    exact retn e
  case areturn =>
    obtain ⟨-, ⟨z, -, e⟩ | ⟨-, e⟩⟩ := am_retA_spec h
    · exact retn e
    · exact retn e
  case return_ =>
    obtain ⟨-, -, e⟩ := am_retV_spec h
    exact retn e
  all_goals exact absurd h.symm (Option.some_ne_none _)
theorem am_pure_len {ins : Instr} {pc nx a : Nat} {la st : List Value} {q : am_P} (h : am_pure ins pc nx a la st = some q) : q.2.1.length = la.length := by
  cases ins
  case iload => obtain ⟨x, h1, rfl⟩ := am_ldI_spec h; rfl
  case iload_n => obtain ⟨x, h1, rfl⟩ := am_ldI_spec h; rfl
  case lload => obtain ⟨x, h1, rfl⟩ := am_ldL_spec h; rfl
  case lload_n => obtain ⟨x, h1, rfl⟩ := am_ldL_spec h; rfl
  case aload => obtain ⟨x, h1, h2, rfl⟩ := am_ldA_spec h; rfl
  case aload_n => obtain ⟨x, h1, h2, rfl⟩ := am_ldA_spec h; rfl
  case istore => obtain ⟨x, r, -, -, rfl⟩ := am_stI_spec h; exact am_s1_len _ _ _
  case istore_n => obtain ⟨x, r, -, -, rfl⟩ := am_stI_spec h; exact am_s1_len _ _ _
  case lstore => obtain ⟨x, r, -, -, rfl⟩ := am_stL_spec h; exact (am_s1_len _ _ _).trans (am_s1_len _ _ _)
  case lstore_n => obtain ⟨x, r, -, -, rfl⟩ := am_stL_spec h; exact (am_s1_len _ _ _).trans (am_s1_len _ _ _)
  case astore => obtain ⟨x, r, -, -, -, rfl⟩ := am_stA_spec h; exact am_s1_len _ _ _
  case astore_n => obtain ⟨x, r, -, -, -, rfl⟩ := am_stA_spec h; exact am_s1_len _ _ _
  case iinc => obtain ⟨x, -, rfl⟩ := am_inc_spec h; exact am_s1_len _ _ _
  case iadd => obtain ⟨x, y, r, -, rfl⟩ := am_bI_spec h; rfl
  case isub => obtain ⟨x, y, r, -, rfl⟩ := am_bI_spec h; rfl
  case imul => obtain ⟨x, y, r, -, rfl⟩ := am_bI_spec h; rfl
  case iand => obtain ⟨x, y, r, -, rfl⟩ := am_bI_spec h; rfl
  case ior => obtain ⟨x, y, r, -, rfl⟩ := am_bI_spec h; rfl
  case ixor => obtain ⟨x, y, r, -, rfl⟩ := am_bI_spec h; rfl
  case ishl => obtain ⟨x, y, r, -, rfl⟩ := am_bI_spec h; rfl
  case ishr => obtain ⟨x, y, r, -, rfl⟩ := am_bI_spec h; rfl
  case idiv => obtain ⟨x, y, r, -, -, rfl⟩ := am_dI_spec h; rfl
  case irem => obtain ⟨x, y, r, -, -, rfl⟩ := am_dI_spec h; rfl
  case ladd => obtain ⟨x, y, r, -, rfl⟩ := am_bL_spec h; rfl
  case lsub => obtain ⟨x, y, r, -, rfl⟩ := am_bL_spec h; rfl
  case lmul => obtain ⟨x, y, r, -, rfl⟩ := am_bL_spec h; rfl
  case lxor => obtain ⟨x, y, r, -, rfl⟩ := am_bL_spec h; rfl
  case ldiv => obtain ⟨x, y, r, -, -, rfl⟩ := am_dL_spec h; rfl
  case lrem => obtain ⟨x, y, r, -, -, rfl⟩ := am_dL_spec h; rfl
  case lneg => obtain ⟨x, r, -, rfl⟩ := am_uL_spec h; rfl
  case i2l => obtain ⟨x, r, -, rfl⟩ := am_i2l_spec h; rfl
  case lcmp => obtain ⟨x, y, r, -, rfl⟩ := am_cmp_spec h; rfl
  case dup => obtain ⟨v, r, -, -, rfl⟩ := am_dup_spec h; rfl
  case dup2 => obtain ⟨v, w, r, -, -, -, rfl⟩ := am_dup2_spec h; rfl
  case ifCond => obtain ⟨x, r, -, rfl⟩ := am_if0_spec h; rfl
  case if_icmp => obtain ⟨x, y, r, -, rfl⟩ := am_if2_spec h; rfl
  case ifnull => rcases am_nul_spec h with ⟨r, -, rfl⟩ | ⟨i, r, -, rfl⟩ <;> rfl
  case ifnonnull => rcases am_nnul_spec h with ⟨r, -, rfl⟩ | ⟨i, r, -, rfl⟩ <;> rfl
  case tableswitch =>
    simp only [am_pure, am_tsw] at h
    split at h
    · split at h
      · split at h
        · cases h; rfl
        · cases h
      · split at h
        · split at h
          · cases h; rfl
          · cases h
        · cases h
    · cases h
  case lookupswitch =>
    simp only [am_pure, am_lsw] at h
    split at h
    · split at h
      · cases h; rfl
      · cases h
    · cases h
  all_goals first | exact absurd h.symm (Option.some_ne_none _) | (cases h; rfl)
theorem am_step_cases {S : am_S} {t : am_T} {fr : am_F} {x : am_R} (h : am_step S t fr = some x) : ∃ ins nx a bb hh, (fr.2.1, ins, nx, a, bb, hh) ∈ t.2.2.2.2.2 ∧ ((∃ q, am_pure ins fr.2.1 nx a fr.2.2.1 fr.2.2.2 = some q ∧ x = .inl (fr.1, q)) ∨ am_mem S t ins nx a bb fr.1 fr.2.2.1 fr.2.2.2 = some x) := by
  unfold am_step at h
  cases hl : t.2.2.2.2.2.lookup fr.2.1 with
  | none => rw [hl] at h; cases h
  | some e =>
    rw [hl] at h
    obtain ⟨ins, nx, a, bb, hh⟩ := e
    refine ⟨ins, nx, a, bb, hh, am_look _ _ _ hl, ?_⟩
    dsimp only at h
    cases hp : am_pure ins fr.2.1 nx a fr.2.2.1 fr.2.2.2 with
    | none => rw [hp] at h; exact Or.inr h
    | some q => rw [hp] at h; exact Or.inl ⟨q, rfl, (Option.some.inj h).symm⟩
theorem am_mono {S : am_S} : ∀ (f d : Nat) (t : am_T) (fr : am_F) (r : Option Value × am_M), am_run S f d t fr = some r → am_c fr.1 ≤ am_c r.2 ∧ am_z fr.1 ≤ am_z r.2
  | 0, d, t, fr, r, h => by cases h
  | f + 1, d, t, fr, r, h => by
    unfold am_run at h
    cases hs : am_step S t fr with
    | none => rw [hs] at h; cases h
    | some x =>
      rw [hs] at h
      obtain ⟨ins, nx, a, bb, hh, -, hc⟩ := am_step_cases hs
      match x, h, hc with
      | .inl fr', h, hc =>
        have ih := am_mono f d t fr' r h
        rcases hc with ⟨q, -, e⟩ | hm
        · have e := Sum.inl.inj e
          subst e
          exact ih
        · have hk := (am_mem_mono hm).1 fr' rfl
          exact ⟨Nat.le_trans hk.1 ih.1, Nat.le_trans hk.2.1 ih.2⟩
      | .inr (.inl r'), h, hc =>
        rcases hc with ⟨q, -, e⟩ | hm
        · cases e
        · have hk := (am_mem_mono hm).2.1 r' rfl
          have h := Option.some.inj h
          subst h
          rw [hk]
          exact ⟨Nat.le_refl _, Nat.le_refl _⟩
      | .inr (.inr (j, as, fr')), h, hc =>
        rcases hc with ⟨q, -, e⟩ | hm
        · cases e
        · have hk := ((am_mem_mono hm).2.2 _ rfl).1
          dsimp only at h hk
          cases d with
          | zero => cases h
          | succ d' =>
            cases hmt : am_mt[j]? with
            | none => rw [hmt] at h; cases h
            | some t' =>
              rw [hmt] at h
              dsimp only at h
              split at h
              · cases hr : am_run S f d' t' (am_ent t' fr'.1 as) with
                | none => rw [hr] at h; cases h
                | some vm =>
                  obtain ⟨v, M2⟩ := vm
                  rw [hr] at h
                  have i1 := am_mono f d' t' _ _ hr
                  have i2 := am_mono f (d' + 1) t _ _ h
                  have e : (am_ent t' fr'.1 as).1 = fr'.1 := rfl
                  rw [e, hk] at i1
                  exact ⟨Nat.le_trans i1.1 i2.1, Nat.le_trans i1.2 i2.2⟩
              · cases h
end
section
/-! ===== THE SIMULATION: what the abstract machine runs, the real one runs ===== -/
/-- the real machine follows this run -/
def am_Sim (S : am_S) (d : Nat) (t : am_T) (fr : am_F) (r : Option Value × am_M) : Prop :=
  ∀ (p : Program) (l : Launch) (e : Env) (R : Room) (s : State) (m : MethodId) (args : Array Value) (below : List Frame) (meth : Method) (c : Code) (H : Heap) (locs : List Loc) (cells slots : Nat) (Q : State → Prop) (ls : Array Slot) (h0 b : Nat) (H0 : Heap) (D : va_G) (cA : Nat → ClassId),
    p.tables.exec = Jvm.exec → c.code = t.2.1 → c.maxLocals = ls.size → s.vm.findClass t.1.cls = some m.cls → (∀ w ∈ am_Ts, w.before args s = true) → (t.1.name = "<init>" → meth.name = "<init>") → am_Kn D cA s → va_X b S.1 S.2 s H0 → b < h0 →
    am_Rep h0 H0 D cA fr.1 H → am_L h0 b ls fr.2.2.1 → (∀ q ∈ locs, h0 ≤ q.base) → d + 1 ≤ R.frames → 100 * (d + 1) ≤ R.locals → cells + am_c r.2 ≤ R.cells + am_c fr.1 → slots + am_z r.2 ≤ R.slots + am_z fr.1 →
    (∀ (H' : Heap) (locs' : List Loc) (cells' slots' pc' : Nat) (ls' : Array Slot), am_Rep h0 H0 D cA r.2 H' → (∀ q ∈ locs', h0 ≤ q.base) → cells' + am_c fr.1 = cells + am_c r.2 → slots' + am_z fr.1 = slots + am_z r.2 → am_rok t pc' r.1 → W p l e R s m args below meth c H' locs' cells' slots' Q (F0 m pc' ls' (r.1.toList.map (am_tv h0 b)))) →
    W p l e R s m args below meth c H locs cells slots Q (F0 m fr.2.1 ls (fr.2.2.2.map (am_tv h0 b)))
section AMS
variable {p : Program} {l : Launch} {e : Env} {R : Room} {s : State} {m : MethodId} {args : Array Value} {below : List Frame} {meth : Method} {c : Code} {H : Heap} {locs : List Loc} {cells slots : Nat} {Q : State → Prop}
variable {pc : Nat} {ls : Array Slot} {h0 b : Nat} {la st : List Value} {H0 : Heap} {D : va_G} {cA : Nat → ClassId} {M : am_M} {t : am_T} {S : am_S}
set_option maxHeartbeats 4000000 in
theorem am_mem_ok (hx : p.tables.exec = Jvm.exec) (hb : c.code = t.2.1) (hml : c.maxLocals = ls.size) (hown : s.vm.findClass t.1.cls = some m.cls) (hts : ∀ w ∈ am_Ts, w.before args s = true) (hin2 : t.1.name = "<init>" → meth.name = "<init>") (hK : am_Kn D cA s) (hX : va_X b S.1 S.2 s H0) (hbh : b < h0) (hR : am_Rep h0 H0 D cA M H) (hlo : ∀ q ∈ locs, h0 ≤ q.base)
    {ins : Instr} {nx a bb hh : Nat} (hE : am_okE t (pc, ins, nx, a, bb, hh) = true) (hfr : 1 ≤ R.frames) (hloc : 100 ≤ R.locals) {f : am_F} (h : am_mem S t ins nx a bb M la st = some (.inl f)) (hbc : cells + am_c f.1 ≤ R.cells + am_c M) (hbz : slots + am_z f.1 ≤ R.slots + am_z M)
    (kk : ∀ (H' : Heap) (locs' : List Loc) (cells' slots' : Nat), am_Rep h0 H0 D cA f.1 H' → (∀ q ∈ locs', h0 ≤ q.base) → cells' + am_c M = cells + am_c f.1 → slots' + am_z M = slots + am_z f.1 → W p l e R s m args below meth c H' locs' cells' slots' Q (F0 m f.2.1 ls (f.2.2.2.map (am_tv h0 b)))) : W p l e R s m args below meth c H locs cells slots Q (F0 m pc ls (st.map (am_tv h0 b))) := by
  simp only [am_okE, Bool.and_eq_true, Bool.or_eq_true, decide_eq_true_eq] at hE
  obtain ⟨⟨hd, hlen⟩, hl⟩ := hE
  have key : am_len ins ≠ 0 → nx = pc + am_len ins ∧ decode t.2.1 pc = .ok (ins, am_len ins) := fun hz => by
    rcases hlen with h1 | h1
    · exact absurd h1 hz
    · refine ⟨h1, ?_⟩
      rw [hd, h1]
      congr 2
      omega
  cases ins
  case getfield ix =>
    obtain ⟨rfl, hdd⟩ := key (by simp [am_len])
    obtain ⟨i, r, n, rfl, hi, rfl⟩ := am_get_spec (am_inl h)
    exact am_getf_ok hx hb hown hts hK hR hdd hl hi (kk H locs cells slots hR hlo rfl rfl)
  case putfield ix =>
    obtain ⟨rfl, hdd⟩ := key (by simp [am_len])
    obtain ⟨v, i, r, n, M', rfl, hi, hp, rfl⟩ := am_put_spec (am_inl h)
    exact am_putf_ok hx hb hown hts hin2 hK hR hlo hdd hl hi hp (fun H' locs' hR' hlo' => kk H' locs' cells slots hR' hlo' (by simp only [am_c, am_pv_1 hp]) (by simp only [am_z, am_pv_1 hp]))
  case arraylength =>
    obtain ⟨rfl, hdd⟩ := key (by simp [am_len])
    rcases am_alen_spec (am_inl h) with ⟨i, r, q, rfl, hi, hq, rfl⟩ | ⟨z, r, rfl, rfl⟩
    · obtain ⟨kd, n⟩ := q
      have kk := kk H locs cells slots hR hlo rfl rfl
      dsimp only at hq
      rcases (by omega : kd = 0 ∨ kd = 1 ∨ 2 ≤ kd) with rfl | rfl | h2
      · exact W.alen (n := Int32.ofNat n) hx hb (am_at_int hR hi) ((hK.1.2 0 (cA 0, .int) rfl).1 n _) (by rw [arrV_size]) rfl rfl hdd kk
      · exact W.alen (n := Int32.ofNat n) hx hb (am_at_long hR hi) ((hK.1.2 1 (cA 1, .long) rfl).1 n _) (by rw [arrV_size]) rfl rfl hdd kk
      · exact W.alen (n := Int32.ofNat n) hx hb (am_at_ref hR hi h2 hq) ((hK.1.2 kd _ (am_tys_at h2 hq)).1 n _) (by rw [arrV_size]) rfl rfl hdd kk
    · obtain ⟨scr, x1, x2, x3, x4, x5⟩ := hX
      exact W.alen (n := Int32.ofNat S.1) hx hb (by rw [hR.2.1 b hbh]; exact x1) x2 (by rw [x4]) rfl rfl hdd (kk H locs cells slots hR hlo rfl rfl)
  case iaload =>
    obtain ⟨rfl, hdd⟩ := key (by simp [am_len])
    rcases am_iald_spec (am_inl h) with ⟨i, j, r, n, rfl, hi, hin, rfl⟩ | ⟨j, z, r, rfl, hin, rfl⟩
    · exact W.iald (v := .int (M.2.1 i j.toNatClampNeg)) hx hb (am_at_int hR hi) ((hK.1.2 0 (cA 0, .int) rfl).1 n _) (fun q => by cases q) (by rw [arrV_size]; exact hin) (by rw [arrV_read _ _ (Nat.not_le.mp fun q => hin (Or.inr q))]) rfl rfl hdd (kk H locs cells slots hR hlo rfl rfl)
    · obtain ⟨scr, x1, x2, x3, x4, x5⟩ := hX
      exact W.iald (v := .int (S.2 j.toNatClampNeg)) hx hb (by rw [hR.2.1 b hbh]; exact x1) x2 x3 (by rw [x4]; exact hin) (x5 _ (Nat.not_le.mp fun q => hin (Or.inr q))) rfl rfl hdd (kk H locs cells slots hR hlo rfl rfl)
  case laload =>
    obtain ⟨rfl, hdd⟩ := key (by simp [am_len])
    obtain ⟨i, j, r, n, rfl, hi, hin, rfl⟩ := am_lald_spec (am_inl h)
    exact W.lald (v := .long (M.2.2.1 i j.toNatClampNeg)) hx hb (am_at_long hR hi) ((hK.1.2 1 (cA 1, .long) rfl).1 n _) (fun q => by cases q) (by rw [arrV_size]; exact hin) (by rw [arrV_read _ _ (Nat.not_le.mp fun q => hin (Or.inr q))]) rfl rfl hdd (kk H locs cells slots hR hlo rfl rfl)
  case aaload =>
    obtain ⟨rfl, hdd⟩ := key (by simp [am_len])
    obtain ⟨i, j, r, n, kd, rfl, h2, h5, hi, hin, rfl⟩ := am_aald_spec (am_inl h)
    have kk := kk H locs cells slots hR hlo rfl rfl
    rw [List.map_cons, am_tv_rf] at kk
    exact W.aald (ty := .object (am_ra kd)) hx hb (am_at_ref hR hi h2 h5) ((hK.1.2 kd _ (am_tys_at h2 h5)).1 n _) rfl (fun q => by cases q) (by rw [arrV_size]; exact hin) (by rw [arrV_read _ _ (Nat.not_le.mp fun q => hin (Or.inr q))]) rfl rfl hdd kk
  case iastore =>
    obtain ⟨rfl, hdd⟩ := key (by simp [am_len])
    obtain ⟨i, j, x, r, n, rfl, hi, hin, rfl⟩ := am_iast_spec (am_inl h)
    exact am_iast_ok hx hb hK hR hlo hdd hi hin (fun H' locs' hR' hlo' => kk H' locs' cells slots hR' hlo' rfl rfl)
  case lastore =>
    obtain ⟨rfl, hdd⟩ := key (by simp [am_len])
    obtain ⟨i, j, x, r, n, rfl, hi, hin, rfl⟩ := am_last_spec (am_inl h)
    exact am_last_ok hx hb hK hR hlo hdd hi hin (fun H' locs' hR' hlo' => kk H' locs' cells slots hR' hlo' rfl rfl)
  case aastore =>
    obtain ⟨rfl, hdd⟩ := key (by simp [am_len])
    obtain ⟨i, j, v, r, n, kd, kv, nv, q, rfl, h2, h5, hi, hin, hv, hq, hra, rfl⟩ := am_aast_spec (am_inl h)
    exact am_aast_ok hx hb hK hR hlo hdd hi h2 h5 hin hv hq hra (fun H' locs' hR' hlo' => kk H' locs' cells slots hR' hlo' rfl rfl)
  case new ix =>
    obtain ⟨rfl, hdd⟩ := key (by simp [am_len])
    obtain ⟨q, hq, h10, rfl⟩ := am_mkO_spec (am_inl h)
    have hn := am_new_c M a q.2.2
    dsimp only at hbc hbz
    exact am_newO_ok hx hb hown hts hK hR hdd hl hq h10 (by omega) (by omega) (fun H' hR' => kk H' locs _ _ hR' hlo (by dsimp only; omega) (by dsimp only; omega))
  case newarray ty =>
    cases ty
    case int =>
      obtain ⟨rfl, hdd⟩ := key (by simp [am_len])
      obtain ⟨n, r, rfl, hn0, hn1, rfl⟩ := am_mkA_spec (am_inl h)
      have hn := am_new_c M 0 n.toNatClampNeg
      dsimp only at hbc hbz
      exact am_newI_ok hx hb hts hK hR hdd hn0 hn1 (by omega) (by omega) (fun H' hR' => kk H' locs _ _ hR' hlo (by dsimp only; omega) (by dsimp only; omega))
    case long =>
      obtain ⟨rfl, hdd⟩ := key (by simp [am_len])
      obtain ⟨n, r, rfl, hn0, hn1, rfl⟩ := am_mkA_spec (am_inl h)
      have hn := am_new_c M 1 n.toNatClampNeg
      dsimp only at hbc hbz
      exact am_newL_ok hx hb hts hK hR hdd hn0 hn1 (by omega) (by omega) (fun H' hR' => kk H' locs _ _ hR' hlo (by dsimp only; omega) (by dsimp only; omega))
    all_goals exact absurd h.symm (Option.some_ne_none _)
  case anewarray ix =>
    obtain ⟨rfl, hdd⟩ := key (by simp [am_len])
    obtain ⟨n, r, rfl, hn0, hn1, rfl⟩ := am_mkA_spec (am_inl h)
    have hn := am_new_c M a n.toNatClampNeg
    dsimp only at hbc hbz
    exact am_newA_ok hx hb hown hts hK hR hdd hl hn0 hn1 (by omega) (by omega) (fun H' hR' => kk H' locs _ _ hR' hlo (by dsimp only; omega) (by dsimp only; omega))
  case invokestatic ix =>
    obtain ⟨rfl, hdd⟩ := key (by simp [am_len])
    simp only [am_mem] at h
    split at h
    · next h300 =>
      simp only [am_okL, h300, if_true] at hl
      obtain ⟨n, dp, i2, sp, i1, r, n1, n2, rfl, hi1, hi2, hrs, g1, g2, g3, g4, g5, rfl⟩ := am_acp_spec (am_inl h)
      exact am_acp_ok hx hb hml hown hts hK hR hlo hdd hl hi1 hi2 g1 g2 g3 g4 g5 hfr hloc (by simpa [Function.comp_def, am_tv_cat] using hrs) (fun H' locs' hR' hlo' => kk H' locs' cells slots hR' hlo' rfl rfl)
    · obtain ⟨as, r, -, -, e⟩ := am_calS_spec h
      cases e
  case invokevirtual ix =>
    obtain ⟨as, i, r, t', -, -, -, -, -, e⟩ := am_calV_spec h
    cases e
  case invokespecial ix =>
    obtain ⟨rfl, hdd⟩ := key (by simp [am_len])
    simp only [am_mem] at h
    split at h
    · next h200 =>
      simp only [am_okL, h200, if_true] at hl
      obtain ⟨i, r, rfl, hrs, rfl⟩ := am_pop_spec (am_inl h)
      have hrs' : ((r.map (am_tv h0 b)).map fun v => v.category).sum ≤ 8 := by simpa [Function.comp_def, am_tv_cat] using hrs
      exact W.objInit hx hb hown (hts _ (am_has_spec hl)) (hts _ am_w0.2.2.2.2.2.1) (hts _ am_w0.2.2.2.2.2.2) rfl hml.symm rfl hdd hfr (by show 2 * 0 + _ + 12 ≤ _; omega) (kk H locs cells slots hR hlo rfl rfl)
    · obtain ⟨as, i, r, t', -, -, -, -, -, e⟩ := am_calV_spec h
      cases e
  case ireturn =>
    obtain ⟨z, -, -, e⟩ := am_retI_spec h
    cases e
  case lreturn =>
    obtain ⟨z, -, -, e⟩ := am_retL_spec h
    cases e
  case areturn =>
    obtain ⟨-, ⟨z, -, e⟩ | ⟨-, e⟩⟩ := am_retA_spec h
    · cases e
    · cases e
  case return_ =>
    obtain ⟨-, -, e⟩ := am_retV_spec h
    cases e
  all_goals exact absurd h.symm (Option.some_ne_none _)
end AMS
end
section
/-! ===== calls and ends; the simulation by induction on the fuel ===== -/
/-- what a callee asks, and what it gives -/
def am_Pc (S : am_S) (h0 b : Nat) (H0 : Heap) (D : va_G) (cA : Nat → ClassId) (M : am_M) (as : List Value) : Array Value → State → Prop := fun a U => a = (as.map (am_tv h0 b)).toArray ∧ am_Rep h0 H0 D cA M U.heap ∧ am_Kn D cA U ∧ va_X b S.1 S.2 U H0
def am_Qc (h0 b : Nat) (H0 : Heap) (D : va_G) (cA : Nat → ClassId) (M : am_M) (v : Option Value) : Array Value → State → Outcome → State → Prop := fun _ _ o t => o = .returned (v.map (am_tv h0 b)) ∧ am_Rep h0 H0 D cA M t.heap
theorem am_Pc_blind {S : am_S} {h0 b : Nat} {H0 : Heap} {D : va_G} {cA : Nat → ClassId} {M : am_M} {as : List Value} : FrameBlind (am_Pc S h0 b H0 D cA M as) := fun a U g mk q => ⟨q.1, q.2.1, am_Kn_same (s := U) (U := U.calling g mk a) rfl q.2.2.1, va_X.moved (u := U) (U := U.calling g mk a) (Vm.Alike.refl U.vm) q.2.2.2⟩
theorem am_Pc_now {S : am_S} {h0 b : Nat} {H0 : Heap} {D : va_G} {cA : Nat → ClassId} {M : am_M} {as : List Value} {s : State} {H : Heap} (hR : am_Rep h0 H0 D cA M H) (hK : am_Kn D cA s) (hX : va_X b S.1 S.2 s H0) : ∀ U : State, U.heap = H → s.WarmedH U.vm → am_Pc S h0 b H0 D cA M as (as.map (am_tv h0 b)).toArray U := fun U hU hW => ⟨rfl, by rw [hU]; exact hR, am_Kn_warm hW hK, va_X.moved hW.alike hX⟩
def am_ws (t : am_T) : List Cond := .code t.1 t.2.1 t.2.2.1 t.2.2.2.1 :: am_Ts
def am_rm (d mc ms : Nat) : Room := { frames := d + 1, cells := mc, slots := ms, locals := 100 * (d + 1) }
theorem am_okM_spec {t : am_T} {mm : Nat × Nat × Nat × Nat × Nat} (h : am_okM t mm = true) : Cond.code t.1 t.2.1 t.2.2.1 t.2.2.2.1 ∈ am_Ts ∧ Cond.initialized t.1.cls ∈ am_Ts ∧ plainFor t.1 = true ∧ (t.1.cls ≠ "java/lang/invoke/MethodHandle" ∧ t.1.cls ≠ "java/lang/invoke/VarHandle" ∧ t.2.2.1 ≤ 80) ∧ (mm.2.2.2.2 = 1 → Cond.static t.1 ∈ am_Ts) ∧ (mm.2.2.2.2 = 0 → Cond.instanceMethod t.1 ∈ am_Ts ∧ 10 ≤ t.2.2.2.2.1 ∧ (∃ q, vwCl[t.2.2.2.2.1 - 10]? = some q ∧ q.1 = t.1.cls) ∧ (t.1.name = "<init>" → t.2.2.2.1 = none) ∧ (t.1.name ≠ "<init>" → Cond.selects t.1.cls t.1 t.1 ∈ am_Ts)) := by
  unfold am_okM at h
  simp only [Bool.and_eq_true, decide_eq_true_eq] at h
  obtain ⟨⟨⟨⟨h1, h2⟩, h3⟩, h4⟩, h5⟩ := h
  refine ⟨am_has_spec h1, am_has_spec h2, h3, h4, fun e => ?_, fun e => ?_⟩
  · rw [if_pos e] at h5
    exact am_has_spec h5
  · rw [if_neg (by omega)] at h5
    simp only [Bool.and_eq_true, decide_eq_true_eq] at h5
    obtain ⟨⟨⟨g1, g2⟩, g3⟩, g4⟩ := h5
    refine ⟨am_has_spec g1, g2, ?_, fun hn => ?_, fun hn => ?_⟩
    · cases hq : vwCl[t.2.2.2.2.1 - 10]? with
      | none => rw [hq] at g3; cases g3
      | some q => rw [hq] at g3; exact ⟨q, rfl, of_decide_eq_true g3⟩
    · rw [if_pos hn] at g4
      exact of_decide_eq_true g4
    · rw [if_neg hn] at g4
      exact am_has_spec g4
theorem am_ws_good {t : am_T} (h : Cond.code t.1 t.2.1 t.2.2.1 t.2.2.2.1 ∈ am_Ts) : GoodIn am_Ts (am_ws t) := fun w hw => by
  rcases List.mem_cons.mp hw with rfl | hw
  · exact am_good _ h
  · exact am_good _ hw
set_option maxHeartbeats 1000000 in
/-- a method's contract out of its run -/
theorem am_met {l : Launch} {S : am_S} {t : am_T} {mm : Nat × Nat × Nat × Nat × Nat} {M M2 : am_M} {as : List Value} {v : Option Value} {d h0 b : Nat} {H0 : Heap} {D : va_G} {cA : Nat → ClassId} (hok : am_okM t mm = true) (hlen : (am_lay as).length ≤ t.2.2.1) (hbh : b < h0) (h1 : am_c M ≤ am_c M2) (h2 : am_z M ≤ am_z M2) (ih : am_Sim S d t (am_ent t M as) (v, M2)) :
    Met l t.1 (am_ws t) (am_rm d (am_c M2 - am_c M) (am_z M2 - am_z M)) (am_Pc S h0 b H0 D cA M as) (am_Qc h0 b H0 D cA M2 v) (am_c M2 - am_c M) (am_z M2 - am_z M) (fun q => h0 ≤ q) := by
  obtain ⟨k1, k2, k3, k4, -, -⟩ := am_okM_spec hok
  refine va_MetF (cc := t.2.1) (maxL := t.2.2.1) (ret := t.2.2.2.1) k3 rfl ?_
  intro p e s m args below meth c s₁ B hml hP
  obtain ⟨rfl, hR, hK, hX⟩ := hP
  have hts0 : ∀ w ∈ am_ws t, w.before (as.map (am_tv h0 b)).toArray s = true := atoms_spec (ws := am_ws t) B.pre
  have hts : ∀ w ∈ am_Ts, w.before (as.map (am_tv h0 b)).toArray s = true := fun w hw => hts0 w (List.mem_cons_of_mem _ hw)
  have hL := am_L_ent (h0 := h0) (b := b) as hlen
  rw [lg_entry_eq]
  have hsz := hL.1
  rw [List.length_append, List.length_replicate] at hsz
  refine ih p l e (am_rm d (am_c M2 - am_c M) (am_z M2 - am_z M)) s m _ below meth c s.heap [] 0 0 _ _ h0 b H0 D cA B.exec B.bytes (by rw [hml, hsz]; omega) (findClass_of_methodNamed B.named) hts (fun hn => ?_) hK hX hbh hR hL (fun q hq => by cases hq) (Nat.le_refl _) (Nat.le_refl _) ?_ ?_ ?_
  · rw [← hn]
    exact (name_of_methodNamed B.named B.method).1
  · show 0 + am_c M2 ≤ (am_c M2 - am_c M) + am_c M
    omega
  · show 0 + am_z M2 ≤ (am_z M2 - am_z M) + am_z M
    omega
  · intro H' locs' cells' slots' pc' ls' hR' hlo' hc hz hrok
    have hc : cells' + am_c M = 0 + am_c M2 := hc
    have hz : slots' + am_z M = 0 + am_z M2 := hz
    obtain rfl : cells' = am_c M2 - am_c M := by omega
    obtain rfl : slots' = am_z M2 - am_z M := by omega
    have hlocks := B.notSynchronized
    match v, hrok with
    | none, hrok =>
      exact W.vret B.exec B.bytes (by rw [B.returns]; exact hrok.2) (fun t' ht _ => ⟨rfl, by rw [ht]; exact hR'⟩) hlo' hrok.1
    | some (.int x), hrok =>
      rcases hrok.2 with hr | ⟨hr, hx⟩
      · exact W.iret B.exec B.bytes (by rw [B.returns]; exact hr) (fun t' ht _ => ⟨rfl, by rw [ht]; exact hR'⟩) hlo' hrok.1
      · exact W.zret (ty := .boolean) B.exec B.bytes (by rw [B.returns]; exact hr) (by rcases hx with rfl | rfl <;> decide) (fun t' ht _ => ⟨rfl, by rw [ht]; exact hR'⟩) hlo' hrok.1
    | some (.long x), hrok =>
      exact W.lret B.exec B.bytes (by rw [B.returns]; exact hrok.2) (fun t' ht _ => ⟨rfl, by rw [ht]; exact hR'⟩) hlo' hrok.1
    | some (.ref x), hrok =>
      have hrok : decode t.2.1 pc' = .ok (.areturn, 1) ∧ am_isO t.2.2.2.1 = true := hrok
      cases hrt : t.2.2.2.1 with
      | none => rw [hrt] at hrok; cases hrok.2
      | some rt =>
        rw [hrt] at hrok
        cases rt with
        | object n => exact W.aret (rt := .object n) B.exec B.bytes (by rw [B.returns, hrt]) (Or.inl ⟨_, rfl⟩) (Or.inr ⟨_, rfl⟩) (fun t' ht _ => ⟨rfl, by rw [ht]; exact hR'⟩) hlo' hrok.1
        | _ => cases hrok.2
    | some .null, hrok =>
      have hrok : decode t.2.1 pc' = .ok (.areturn, 1) ∧ am_isO t.2.2.2.1 = true := hrok
      cases hrt : t.2.2.2.1 with
      | none => rw [hrt] at hrok; cases hrok.2
      | some rt =>
        rw [hrt] at hrok
        cases rt with
        | object n => exact W.aret (rt := .object n) B.exec B.bytes (by rw [B.returns, hrt]) (Or.inl ⟨_, rfl⟩) (Or.inl rfl) (fun t' ht _ => ⟨rfl, by rw [ht]; exact hR'⟩) hlo' hrok.1
        | _ => cases hrok.2
    | some (.float x), hrok => cases hrok
    | some (.double x), hrok => cases hrok
    | some (.retAddr x), hrok => cases hrok
section AMC
variable {p : Program} {l : Launch} {e : Env} {R : Room} {s : State} {m : MethodId} {args : Array Value} {below : List Frame} {meth : Method} {c : Code} {H : Heap} {locs : List Loc} {cells slots : Nat} {Q : State → Prop}
variable {pc : Nat} {ls : Array Slot} {h0 b : Nat} {la st : List Value} {H0 : Heap} {D : va_G} {cA : Nat → ClassId} {M : am_M} {t : am_T} {S : am_S}
theorem am_after {mc ms : Nat} {g0 rest : List Value} {M2 : am_M} {v : Option Value} {a0 : Array Value} (hr : va_Run p l e R s m args below meth c H locs cells slots mc ms (F0 m pc ls g0) rest (am_Qc h0 b H0 D cA M2 v a0) (fun q => h0 ≤ q)) (hlo : ∀ q ∈ locs, h0 ≤ q.base)
    (kk : ∀ (H' : Heap) (locs' : List Loc), am_Rep h0 H0 D cA M2 H' → (∀ q ∈ locs', h0 ≤ q.base) → W p l e R s m args below meth c H' locs' (cells + mc) (slots + ms) Q (F0 m (pc + 3) ls ((v.map (am_tv h0 b)).toList ++ rest))) : W p l e R s m args below meth c H locs cells slots Q (F0 m pc ls g0) := by
  intro T hT X
  obtain ⟨v', st₀, t', T', L, k0, X', hL, e1, e2, ⟨hv, hR⟩, stp⟩ := hr T hT X
  cases hv
  obtain ⟨t2, a1, b1⟩ := kk t'.heap (locs ++ L) hR (fun q hq => by
    rcases List.mem_append.mp hq with h | h
    · exact hlo q h
    · exact hL q h) T' e1 X'
  exact ⟨t2, stp t2 a1, b1⟩
theorem am_stack {bb : Nat} {as r : List Value} (h : am_take bb st [] = some (as, r)) : as.length = bb ∧ st.map (am_tv h0 b) = (as.map (am_tv h0 b)).reverse ++ r.map (am_tv h0 b) := by
  obtain ⟨l, h1, h2, h3⟩ := am_take_spec _ _ _ _ _ h
  rw [List.append_nil] at h3
  subst h2; subst h3
  simp [h1]
theorem am_np_spec {y : MethodName} {n : Nat} (h : am_np y = some n) : (parseMethodDescriptor y.desc).map (fun d => d.parameters.length) = some n := h
set_option maxHeartbeats 1000000 in
/-- a call: the callee's run, then the rest -/
theorem am_call_ok (hM : ∀ (j : Nat) (t : am_T) (mm : Nat × Nat × Nat × Nat × Nat), am_mt[j]? = some t → am_hm[j]? = some mm → mm.2.2.2.2 ≠ 2 → am_okM t mm = true) (hx : p.tables.exec = Jvm.exec) (hb : c.code = t.2.1) (hml : c.maxLocals = ls.size) (hown : s.vm.findClass t.1.cls = some m.cls) (hts : ∀ w ∈ am_Ts, w.before args s = true) (hK : am_Kn D cA s) (hX : va_X b S.1 S.2 s H0) (hbh : b < h0) (hR : am_Rep h0 H0 D cA M H) (hlo : ∀ q ∈ locs, h0 ≤ q.base)
    {ins : Instr} {nx a bb hh d : Nat} (hE : am_okE t (pc, ins, nx, a, bb, hh) = true) (hfr : d + 1 + 1 ≤ R.frames) (hloc : 100 * (d + 1 + 1) ≤ R.locals) {j : Nat} {as : List Value} {fr' : am_F} (h : am_mem S t ins nx a bb M la st = some (.inr (.inr (j, as, fr')))) {t' : am_T} (ht' : am_mt[j]? = some t') (hlen : (am_lay as).length ≤ t'.2.2.1) {v : Option Value} {M2 : am_M} (ih : am_Sim S d t' (am_ent t' fr'.1 as) (v, M2)) (h1 : am_c M ≤ am_c M2) (h2 : am_z M ≤ am_z M2) (hbc : cells + am_c M2 ≤ R.cells + am_c M) (hbz : slots + am_z M2 ≤ R.slots + am_z M)
    (kk : ∀ (H' : Heap) (locs' : List Loc), am_Rep h0 H0 D cA M2 H' → (∀ q ∈ locs', h0 ≤ q.base) → W p l e R s m args below meth c H' locs' (cells + (am_c M2 - am_c M)) (slots + (am_z M2 - am_z M)) Q (F0 m fr'.2.1 ls ((v.toList ++ fr'.2.2.2).map (am_tv h0 b)))) : W p l e R s m args below meth c H locs cells slots Q (F0 m pc ls (st.map (am_tv h0 b))) := by
  have hfr1 : fr'.1 = M := ((am_mem_mono h).2.2 _ rfl).1
  rw [hfr1] at ih
  simp only [am_okE, Bool.and_eq_true, Bool.or_eq_true, decide_eq_true_eq] at hE
  obtain ⟨⟨hd, hlen0⟩, hl⟩ := hE
  have key : am_len ins ≠ 0 → nx = pc + am_len ins ∧ decode t.2.1 pc = .ok (ins, am_len ins) := fun hz => by
    rcases hlen0 with h1 | h1
    · exact absurd h1 hz
    · refine ⟨h1, ?_⟩
      rw [hd, h1]
      congr 2
      omega
  have hvt : (v.toList ++ fr'.2.2.2).map (am_tv h0 b) = (v.map (am_tv h0 b)).toList ++ fr'.2.2.2.map (am_tv h0 b) := by cases v <;> simp
  rw [hvt] at kk
  have cat : ∀ r : List Value, (r.map fun v => v.category).sum ≤ 8 → ((r.map (am_tv h0 b)).map fun v => v.category).sum ≤ 8 := fun r hr => by simpa [Function.comp_def, am_tv_cat] using hr
  have room : ∀ {mx : Nat}, mx ≤ 80 → (am_rm d (am_c M2 - am_c M) (am_z M2 - am_z M)).frames + 1 ≤ R.frames ∧ 8 + (mx + 11) + (am_rm d (am_c M2 - am_c M) (am_z M2 - am_z M)).locals ≤ R.locals := fun {mx} hmx => by
    show d + 1 + 1 ≤ R.frames ∧ 8 + (mx + 11) + 100 * (d + 1) ≤ R.locals
    exact ⟨hfr, by omega⟩
  have fit : cells + (am_c M2 - am_c M) ≤ R.cells ∧ slots + (am_z M2 - am_z M) ≤ R.slots := ⟨by omega, by omega⟩
  cases ins
  case invokestatic ix =>
    obtain ⟨rfl, hdd⟩ := key (by simp [am_len])
    simp only [am_mem] at h
    split at h
    · exact (am_inlr h).elim
    · next hne =>
      obtain ⟨as', r, htk, hrs, e⟩ := am_calS_spec h
      cases e
      simp only [am_okL, if_neg hne, ht'] at hl
      cases hmm : am_hm[a]? with
      | none => rw [hmm] at hl; cases hl
      | some mm =>
        rw [hmm] at hl
        simp only [Bool.and_eq_true, decide_eq_true_eq] at hl
        obtain ⟨⟨g1, g2⟩, g3⟩ := hl
        have hok := hM a t' mm ht' hmm (by omega)
        obtain ⟨k1, k2, k3, k4, k5, -⟩ := am_okM_spec hok
        obtain ⟨hn, hst⟩ := am_stack (h0 := h0) (b := b) htk
        rw [hst]
        refine am_after (va_runS (y := t'.1) (bytes := t'.2.1) (maxL := t'.2.2.1) (ret := t'.2.2.2.1) (n := bb) ⟨hx, hb, hml, hown, hts⟩ (am_met hok hlen hbh h1 h2 ih) ⟨callB_of bb hts (am_ws_good k1) rfl rfl rfl (hts _ k2) (hts _ (am_has_spec g1)) ⟨k4.1, k4.2.1, am_np_spec g2⟩ (room k4.2.2), hts _ (k5 g3)⟩ ⟨am_Pc_blind, am_Pc_now hR hK hX⟩ rfl (by rw [List.length_map]; exact hn) rfl rfl (lv_room (cat r hrs)) hdd fit) hlo (fun H' locs' hR' hlo' => kk H' locs' hR' hlo')
  case invokevirtual ix =>
    obtain ⟨rfl, hdd⟩ := key (by simp [am_len])
    obtain ⟨as', i, r, t2, htk, hrs, ht2, h10, hki, e⟩ := am_calV_spec h
    cases e
    cases ht'.symm.trans ht2
    simp only [am_okL, ht'] at hl
    cases hmm : am_hm[a]? with
    | none => rw [hmm] at hl; cases hl
    | some mm =>
      rw [hmm] at hl
      simp only [Bool.and_eq_true, decide_eq_true_eq] at hl
      obtain ⟨⟨⟨g1, g2⟩, g3⟩, g4⟩ := hl
      have hok := hM a t' mm ht' hmm (by omega)
      obtain ⟨k1, k2, k3, k4, -, k6⟩ := am_okM_spec hok
      obtain ⟨k6, -, ⟨q, hq, hqc⟩, -, k7⟩ := k6 g3
      obtain ⟨hn, hst⟩ := am_stack (h0 := h0) (b := b) htk
      obtain ⟨n, hi⟩ := am_map_spec hki
      have hi' : M.1[i]? = some ((t'.2.2.2.2.1 - 10) + 10, n) := by rw [hi]; congr 2; omega
      obtain ⟨q', hq', cellB, c1, c2, c3, -⟩ := am_at_obj hR hi'
      rw [hst]
      refine am_after (va_runV (C := t'.1.cls) (y := t'.1) (bytes := t'.2.1) (maxL := t'.2.2.1) (ret := t'.2.2.2.1) (n := bb) (b := h0 + i) ⟨hx, hb, hml, hown, hts⟩ (am_met hok hlen hbh h1 h2 ih) ⟨callB_of bb hts (am_ws_good k1) rfl rfl rfl (hts _ k2) (hts _ (am_has_spec g1)) ⟨k4.1, k4.2.1, am_np_spec g2⟩ (room k4.2.2), hts _ k6, hts _ (k7 g4)⟩ ⟨am_Pc_blind, ⟨cellB, c1, by rw [c3]; rfl, by rw [c2, ← hqc]; exact (hK.1.1 _ _ hq).2.1⟩, am_Pc_now hR hK hX⟩ rfl (by rw [List.length_map]; exact hn) rfl rfl (lv_room (cat r hrs)) hdd fit) hlo (fun H' locs' hR' hlo' => kk H' locs' hR' hlo')
  case invokespecial ix =>
    obtain ⟨rfl, hdd⟩ := key (by simp [am_len])
    simp only [am_mem] at h
    split at h
    · exact (am_inlr h).elim
    · next hne =>
      obtain ⟨as', i, r, t2, htk, hrs, ht2, h10, hki, e⟩ := am_calV_spec h
      cases e
      cases ht'.symm.trans ht2
      simp only [am_okL, if_neg hne, ht'] at hl
      cases hmm : am_hm[a]? with
      | none => rw [hmm] at hl; cases hl
      | some mm =>
        rw [hmm] at hl
        simp only [Bool.and_eq_true, decide_eq_true_eq] at hl
        obtain ⟨⟨⟨g1, g2⟩, g3⟩, g4⟩ := hl
        have hok := hM a t' mm ht' hmm (by omega)
        obtain ⟨k1, k2, k3, k4, -, k6⟩ := am_okM_spec hok
        obtain ⟨k6, -, -, k8, -⟩ := k6 g3
        have hnone := k8 g4
        obtain ⟨hn, hst⟩ := am_stack (h0 := h0) (b := b) htk
        rw [hst]
        by_cases hnb : bb < 100
        · rw [if_pos hnb] at g1
          have hcb := callB_of (R := R) (s := s) (own := t.1.cls) (index := ix) (y := t'.1) (rm := am_rm d (am_c M2 - am_c M) (am_z M2 - am_z M)) (bb % 100) hts (am_ws_good k1) rfl rfl rfl (hts _ k2) (hts _ (am_has_spec g1)) ⟨k4.1, k4.2.1, am_np_spec g2⟩ (room k4.2.2)
          rw [hnone] at hcb
          exact am_after (va_runI (y := t'.1) (bytes := t'.2.1) (maxL := t'.2.2.1) (n := bb % 100) (b := h0 + i) (As := as'.map (am_tv h0 b)) ⟨hx, hb, hml, hown, hts⟩ (am_met hok hlen hbh h1 h2 ih) ⟨hcb, g4, hts _ k6⟩ ⟨am_Pc_blind, am_Pc_now hR hK hX⟩ rfl (by rw [List.length_map]; exact hn) rfl rfl (lv_room (cat r hrs)) hdd fit) hlo (fun H' locs' hR' hlo' => kk H' locs' hR' hlo')
        · rw [if_neg hnb] at g1
          have g1 := of_decide_eq_true g1
          have hcb := va_cnB (R := R) (s := s) (args := args) (own := t.1.cls) (index := ix) (y := t'.1) (host := "TwoGames") (rm := am_rm d (am_c M2 - am_c M) (am_z M2 - am_z M)) (bb % 100) hts (am_ws_good k1) rfl rfl rfl (hK.2.1 _ (List.mem_of_getElem? g1) rfl) (hts _ k2) ⟨k4.1, k4.2.1, am_np_spec g2⟩ (room k4.2.2)
          rw [hnone] at hcb
          exact am_after (va_runIN (y := t'.1) (bytes := t'.2.1) (maxL := t'.2.2.1) (n := bb % 100) (b := h0 + i) (As := as'.map (am_tv h0 b)) ⟨hx, hb, hml, hown, hts⟩ (am_met hok hlen hbh h1 h2 ih) ⟨hcb, g4, hts _ k6⟩ ⟨am_Pc_blind, am_Pc_now hR hK hX⟩ rfl (by rw [List.length_map]; exact hn) rfl rfl (lv_room (cat r hrs)) hdd fit) hlo (fun H' locs' hR' hlo' => kk H' locs' hR' hlo')
  case getfield => exact (am_inlr h).elim
  case putfield => exact (am_inlr h).elim
  case arraylength => exact (am_inlr h).elim
  case iaload => exact (am_inlr h).elim
  case laload => exact (am_inlr h).elim
  case aaload => exact (am_inlr h).elim
  case iastore => exact (am_inlr h).elim
  case lastore => exact (am_inlr h).elim
  case aastore => exact (am_inlr h).elim
  case new => exact (am_inlr h).elim
  case newarray ty =>
    cases ty
    case int => exact (am_inlr h).elim
    case long => exact (am_inlr h).elim
    all_goals exact absurd h.symm (Option.some_ne_none _)
  case anewarray => exact (am_inlr h).elim
  case ireturn =>
    obtain ⟨z, -, -, e⟩ := am_retI_spec h
    cases e
  case lreturn =>
    obtain ⟨z, -, -, e⟩ := am_retL_spec h
    cases e
  case areturn =>
    obtain ⟨-, ⟨z, -, e⟩ | ⟨-, e⟩⟩ := am_retA_spec h
    · cases e
    · cases e
  case return_ =>
    obtain ⟨-, -, e⟩ := am_retV_spec h
    cases e
  all_goals exact absurd h.symm (Option.some_ne_none _)
end AMC
theorem am_ret_ok {S : am_S} {t : am_T} {ins : Instr} {pc nx a bb hh : Nat} {M : am_M} {la st : List Value} {r : Option Value × am_M} (hE : am_okE t (pc, ins, nx, a, bb, hh) = true) (h : am_mem S t ins nx a bb M la st = some (.inr (.inl r))) : am_rok t pc r.1 ∧ st = r.1.toList := by
  simp only [am_okE, Bool.and_eq_true, Bool.or_eq_true, decide_eq_true_eq] at hE
  obtain ⟨⟨hd, hlen0⟩, hl⟩ := hE
  have key : am_len ins ≠ 0 → nx = pc + am_len ins ∧ decode t.2.1 pc = .ok (ins, am_len ins) := fun hz => by
    rcases hlen0 with h1 | h1
    · exact absurd h1 hz
    · refine ⟨h1, ?_⟩
      rw [hd, h1]
      congr 2
      omega
  cases ins
  case ireturn =>
    obtain ⟨rfl, hdd⟩ := key (by simp [am_len])
    obtain ⟨z, rfl, hz, e⟩ := am_retI_spec h
    cases e
    exact ⟨⟨hdd, hz⟩, rfl⟩
  case lreturn =>
    obtain ⟨rfl, hdd⟩ := key (by simp [am_len])
    obtain ⟨z, rfl, hz, e⟩ := am_retL_spec h
    cases e
    exact ⟨⟨hdd, hz⟩, rfl⟩
  case areturn =>
    obtain ⟨rfl, hdd⟩ := key (by simp [am_len])
    obtain ⟨hz, ⟨z, rfl, e⟩ | ⟨rfl, e⟩⟩ := am_retA_spec h
    · cases e
      exact ⟨⟨hdd, hz⟩, rfl⟩
    · cases e
      exact ⟨⟨hdd, hz⟩, rfl⟩
  case return_ =>
    obtain ⟨rfl, hdd⟩ := key (by simp [am_len])
    obtain ⟨rfl, hz, e⟩ := am_retV_spec h
    cases e
    exact ⟨⟨hdd, hz⟩, rfl⟩
  case getfield => exact (am_inlr h).elim
  case putfield => exact (am_inlr h).elim
  case arraylength => exact (am_inlr h).elim
  case iaload => exact (am_inlr h).elim
  case laload => exact (am_inlr h).elim
  case aaload => exact (am_inlr h).elim
  case iastore => exact (am_inlr h).elim
  case lastore => exact (am_inlr h).elim
  case aastore => exact (am_inlr h).elim
  case new => exact (am_inlr h).elim
  case newarray ty =>
    cases ty
    case int => exact (am_inlr h).elim
    case long => exact (am_inlr h).elim
    all_goals exact absurd h.symm (Option.some_ne_none _)
  case anewarray => exact (am_inlr h).elim
  case invokestatic ix =>
    simp only [am_mem] at h
    split at h
    · exact (am_inlr h).elim
    · obtain ⟨as', r, -, -, e⟩ := am_calS_spec h
      cases e
  case invokevirtual ix =>
    obtain ⟨as', i, r, t2, -, -, -, -, -, e⟩ := am_calV_spec h
    cases e
  case invokespecial ix =>
    simp only [am_mem] at h
    split at h
    · exact (am_inlr h).elim
    · obtain ⟨as', i, r, t2, -, -, -, -, -, e⟩ := am_calV_spec h
      cases e
  all_goals exact absurd h.symm (Option.some_ne_none _)
set_option maxHeartbeats 1000000 in
theorem am_sim (S : am_S) (hC : ∀ t ∈ am_mt, t.2.2.2.2.2.all (am_okE t) = true) (hM : ∀ (j : Nat) (t : am_T) (mm : Nat × Nat × Nat × Nat × Nat), am_mt[j]? = some t → am_hm[j]? = some mm → mm.2.2.2.2 ≠ 2 → am_okM t mm = true) : ∀ (f d : Nat) (t : am_T) (fr : am_F) (r : Option Value × am_M), t ∈ am_mt → am_run S f d t fr = some r → am_Sim S d t fr r
  | 0, d, t, fr, r, _, h => by cases h
  | f + 1, d, t, fr, r, ht, h => by
    intro p l e R s m args below meth c H locs cells slots Q ls h0 b H0 D cA hx hb hml hown hts hin2 hK hX hbh hR hL hlo hfr hloc hbc hbz hret
    unfold am_run at h
    cases hs : am_step S t fr with
    | none => rw [hs] at h; cases h
    | some x =>
      rw [hs] at h
      obtain ⟨ins, nx, a, bb, hh, hmem, hcs⟩ := am_step_cases hs
      have hE := List.all_eq_true.mp (hC t ht) _ hmem
      match x, h, hcs with
      | .inl fr', h, hcs =>
        have ih := am_sim S hC hM f d t fr' r ht h
        rcases hcs with ⟨q, hq, e'⟩ | hm
        · have e' := Sum.inl.inj e'
          subst e'
          refine am_pure_ok hx hb hown hts hL hE hq (fun ls' hL' => ?_)
          refine ih p l e R s m args below meth c H locs cells slots Q ls' h0 b H0 D cA hx hb (by rw [hL'.1, am_pure_len hq, hml, hL.1]) hown hts hin2 hK hX hbh hR hL' hlo hfr hloc hbc hbz hret
        · have hk := (am_mem_mono hm).1 fr' rfl
          have hmo := am_mono f d t fr' r h
          refine am_mem_ok hx hb hml hown hts hin2 hK hX hbh hR hlo hE (by omega) (by omega) hm (by omega) (by omega) (fun H' locs' cells' slots' hR' hlo' hc' hz' => ?_)
          exact ih p l e R s m args below meth c H' locs' cells' slots' Q ls h0 b H0 D cA hx hb hml hown hts hin2 hK hX hbh hR' (by rw [hk.2.2]; exact hL) hlo' hfr hloc (by omega) (by omega) (fun H2 locs2 cells2 slots2 pc2 ls2 a1 a2 a3 a4 a5 => hret H2 locs2 cells2 slots2 pc2 ls2 a1 a2 (by omega) (by omega) a5)
      | .inr (.inl r'), h, hcs =>
        rcases hcs with ⟨q, -, e'⟩ | hm
        · cases e'
        · have hk := (am_mem_mono hm).2.1 r' rfl
          have h := Option.some.inj h
          subst h
          obtain ⟨hro, hst⟩ := am_ret_ok hE hm
          rw [hst]
          rw [hk] at hret
          exact hret H locs cells slots _ ls hR hlo rfl rfl hro
      | .inr (.inr (j, as, fr')), h, hcs =>
        rcases hcs with ⟨q, -, e'⟩ | hm
        · cases e'
        · obtain ⟨hk, hla⟩ := (am_mem_mono hm).2.2 _ rfl
          dsimp only at h hk hla
          cases d with
          | zero => cases h
          | succ d' =>
            cases hmt : am_mt[j]? with
            | none => rw [hmt] at h; cases h
            | some t' =>
              rw [hmt] at h
              dsimp only at h
              split at h
              · next hlen =>
                cases hr : am_run S f d' t' (am_ent t' fr'.1 as) with
                | none => rw [hr] at h; cases h
                | some vm =>
                  obtain ⟨v, M2⟩ := vm
                  rw [hr] at h
                  have i1 := am_mono f d' t' _ _ hr
                  have i2 := am_mono f (d' + 1) t _ _ h
                  have e1 : (am_ent t' fr'.1 as).1 = fr'.1 := rfl
                  rw [e1, hk] at i1
                  dsimp only at i1 i2
                  have ih1 := am_sim S hC hM f d' t' _ _ (List.mem_of_getElem? hmt) hr
                  have ih2 := am_sim S hC hM f (d' + 1) t _ _ ht h
                  refine am_call_ok hM hx hb hml hown hts hK hX hbh hR hlo hE hfr hloc hm hmt hlen ih1 i1.1 i1.2 (by omega) (by omega) (fun H' locs' hR' hlo' => ?_)
                  exact ih2 p l e R s m args below meth c H' locs' _ _ Q ls h0 b H0 D cA hx hb hml hown hts hin2 hK hX hbh hR' (by rw [show (M2, fr'.2.1, fr'.2.2.1, v.toList ++ fr'.2.2.2).2.2.1 = fr'.2.2.1 from rfl, hla]; exact hL) hlo' hfr hloc (by dsimp only; omega) (by dsimp only; omega) (fun H2 locs2 cells2 slots2 pc2 ls2 a1 a2 a3 a4 a5 => hret H2 locs2 cells2 slots2 pc2 ls2 a1 a2 (by dsimp only at a3; omega) (by dsimp only at a4; omega) a5)
              · cases h
end
section
-- ===== end of PART A; then your names; then what follows =====
/-! THE CLAIM OUT OF ONE WALK OF THE LAW'S BODY. Your part is whole_start (and what it stands on); all else here is the same for every law, but numbers. -/
def R_law : String := "TwoGamesLaw"
def lw_P (b : Addr) (xs : List Int32) (args : Array Value) (s : State) : Prop := args = #[.ref b] ∧ s.IntsAt b xs ∧ xs.length ≤ 3072 ∧ (Jvm.Cond.and given_1 narrow_1).before args s = true
def lw_Q (_ : Array Value) (s : State) (o : Outcome) (t : State) : Prop := o = .returned (some (.int 1)) ∧ Framed s o t [] 835449 6595900
def lw_Z (below : List Frame) (a : Array Value) (s : State) : State → Prop := fun t => ∃ o, t.status = .running ∧ Ended t below o ∧ lw_Q a s o t
/-- the law's own end, with 1 on the stack, nothing written that was there before, its room as the claim has it -/
theorem lw_ret {p : Program} {l : Launch} {e : Env} {s : State} {m : MethodId} {below : List Frame} {meth : Method} {c : Code} {b : Nat} (hx : p.tables.exec = Jvm.exec) (hb : c.code = code) (hr : meth.sig.returnType = ret) (hlocks : meth.locks = false) {pc : Nat} {H : Heap} {ls : Array Slot} (hdg : decode code pc = .ok (.ireturn, 1)) : W p l e room_1 s m #[Value.ref b] below meth c H [] 835449 6595900 (lw_Z below #[Value.ref b] s) (F0 m pc ls [.int 1]) := by
  intro T hT X
  obtain ⟨fs, hret, hrun, hended, hW, hframe⟩ := X.leave (v := some (.int 1)) (hlocks := hlocks) (fun h => by rw [hr] at h; cases h)
  have hmeth' : T.vm.method? m = some meth := X.method'
  refine ⟨T.setFrames fs, ?_, .returned (some (.int 1)), hrun, hended, rfl, ⟨_, rfl⟩, hW, hframe⟩
  jvm_step X.here [X.here.top, hx, hb, hdg, hmeth', hr, ret, narrow_b1]
  (try refine ⟨rfl, ?_⟩); (try refine ⟨rfl, ?_⟩)
  first | (intro acts; rw [hret _ acts rfl rfl rfl]) | rw [hret _ _ rfl rfl rfl]
  exact Steps.refl _
/-- what holds at the law's entry: the machine, the code, the tables' words (any of lw_tbl by 'hts w (by decide +kernel)'), the script of L ints xs at the cell b, what the Statement gives of the start (any of its parts by flat_of_before) -/
def lw_At (p : Program) (s : State) (m : MethodId) (meth : Method) (c : Code) (b L : Nat) (xs : Nat → Int32) : Prop :=
  p.tables.exec = Jvm.exec ∧ c.code = code ∧ meth.sig.returnType = ret ∧ c.maxLocals = 4 ∧ s.vm.findClass R_law = some m.cls ∧ (∀ w ∈ lw_tbl, w.before #[Value.ref b] s = true) ∧ va_X b L xs s s.heap ∧ b < s.heap.size ∧ meth.locks = false ∧ (Jvm.Cond.and given_1 narrow_1).before #[Value.ref b] s = true
end
section
/-! ===== the law's walk out of the abstract machine's run ===== -/
def am_M0 : am_M := ([], fun _ _ => 0, fun _ _ => 0, fun _ _ => none)
/-- what is to be shown of the abstract machine -/
def am_Goal : Prop := ∀ (L : Nat) (xs : Nat → Int32), L ≤ 3072 → ∃ (f : Nat) (M : am_M), am_run (L, xs) f 30 tL_law (am_ent tL_law am_M0 [.retAddr 0]) = some (some (.int 1), M) ∧ am_c M ≤ 835449 ∧ am_z M ≤ 6595900
theorem am_nw {w : Cond} (h : am_isN w = true) : w.onTables = true := by
  cases w <;> first | rfl | cases h
set_option maxHeartbeats 1000000 in
theorem am_Kn_start {s : State} {args : Array Value} (hts0 : ∀ w ∈ lw_tbl, w.before args s = true) : ∃ (D : va_G) (cA : Nat → ClassId), am_Kn D cA s := by
  have hts : ∀ w ∈ am_Ts, w.before args s = true := fun w hw => hts0 w (List.mem_filter.mp hw).1
  have hm := fun (q : vw_C) (hq : q ∈ vwCl) => List.all_eq_true.mp am_made q hq
  simp only [Bool.and_eq_true, decide_eq_true_eq] at hm
  have hex : ∀ ci : Nat, ∃ (c : ClassId) (iS : Nat → Nat), ∀ q : vw_C, vwCl[ci]? = some q → u_Kn s q.1 q.2.1 q.2.2 c iS := fun ci => by
    cases hq : vwCl[ci]? with
    | none => exact ⟨0, fun _ => 0, fun q h => by cases h⟩
    | some q =>
      obtain ⟨c, iS, h⟩ := u_known (C := q.1) (T := q.2.1) (N := q.2.2) (n := q.2.2) hts (am_hin hq) (hts _ (hm q (List.mem_of_getElem? hq)).1)
      exact ⟨c, iS, fun q' h' => by cases h'; exact h⟩
  have ao : ∀ k, k < 5 → 2 ≤ k → Cond.arrayOver (.object (am_ra k)) ∈ lw_tbl := by decide +kernel
  have haz : ∀ k : Nat, ∃ cA : ClassId, ∀ q : ClassId × FieldType, (am_tys (fun _ => cA))[k]? = some q → ArrOfT s q.1 q.2 ∧ va_RA s q.1 q.2 := fun k => by
    match k with
    | 0 =>
      obtain ⟨c, kk, comp, h1, h2, h3⟩ := Cond.arrayClass_spec (hts _ am_w0.1)
      exact ⟨c, fun q hq => by cases hq; exact ⟨fun n z => ⟨(fun k h => by cases h), kk, h2, comp, h3⟩, h1⟩⟩
    | 1 =>
      obtain ⟨c, kk, comp, h1, h2, h3⟩ := Cond.arrayClass_spec (hts _ am_w0.2.1)
      exact ⟨c, fun q hq => by cases hq; exact ⟨fun n z => ⟨(fun k h => by cases h), kk, h2, comp, h3⟩, h1⟩⟩
    | 2 =>
      obtain ⟨comp, c, kk, h1, h2, h3, h4, h5⟩ := Cond.arrayOver_spec (hts0 _ (ao 2 (by decide) (by decide)))
      exact ⟨c, fun q hq => by cases hq; exact ⟨fun n z => ⟨(fun k h => by cases h), kk, h3, comp, h4⟩, kk, comp, h3, h4, h1, h5⟩⟩
    | 3 =>
      obtain ⟨comp, c, kk, h1, h2, h3, h4, h5⟩ := Cond.arrayOver_spec (hts0 _ (ao 3 (by decide) (by decide)))
      exact ⟨c, fun q hq => by cases hq; exact ⟨fun n z => ⟨(fun k h => by cases h), kk, h3, comp, h4⟩, kk, comp, h3, h4, h1, h5⟩⟩
    | 4 =>
      obtain ⟨comp, c, kk, h1, h2, h3, h4, h5⟩ := Cond.arrayOver_spec (hts0 _ (ao 4 (by decide) (by decide)))
      exact ⟨c, fun q hq => by cases hq; exact ⟨fun n z => ⟨(fun k h => by cases h), kk, h3, comp, h4⟩, kk, comp, h3, h4, h1, h5⟩⟩
    | k + 5 => exact ⟨0, fun q hq => by simp [am_tys] at hq⟩
  refine ⟨(fun ci => Classical.choose (hex ci), fun ci => Classical.choose (Classical.choose_spec (hex ci))), fun k => Classical.choose (haz k), ⟨fun ci q hq => Classical.choose_spec (Classical.choose_spec (hex ci)) q hq, fun k q hq => ?_⟩, fun w hw hn => va_Nw.of (am_nw hn) (hts0 w hw), va_AO.of (hts0 _ (ao 2 (by decide) (by decide))), va_AO.of (hts0 _ (ao 3 (by decide) (by decide))), va_AO.of (hts0 _ (ao 4 (by decide) (by decide)))⟩
  match k, hq with
  | 0, hq => cases hq; exact Classical.choose_spec (haz 0) _ rfl
  | 1, hq => cases hq; exact Classical.choose_spec (haz 1) _ rfl
  | 2, hq => cases hq; exact Classical.choose_spec (haz 2) _ rfl
  | 3, hq => cases hq; exact Classical.choose_spec (haz 3) _ rfl
  | 4, hq => cases hq; exact Classical.choose_spec (haz 4) _ rfl
  | k + 5, hq => simp [am_tys] at hq
theorem am_law_in : tL_law ∈ am_mt := List.mem_of_getElem? (i := 160) rfl
set_option maxHeartbeats 1000000 in
theorem am_start (hG : am_Goal) (hC : ∀ t ∈ am_mt, t.2.2.2.2.2.all (am_okE t) = true) (hM : ∀ (j : Nat) (t : am_T) (mm : Nat × Nat × Nat × Nat × Nat), am_mt[j]? = some t → am_hm[j]? = some mm → mm.2.2.2.2 ≠ 2 → am_okM t mm = true) {p : Program} {e : Env} {s : State} {m : MethodId} {below : List Frame} {meth : Method} {c : Code} (l : Launch) {b L : Nat} {xs : Nat → Int32} (hL : L ≤ 3072) (C0 : lw_At p s m meth c b L xs) : W p l e room_1 s m #[Value.ref b] below meth c s.heap [] 0 0 (lw_Z below #[Value.ref b] s) (entryFrame m ([Value.ref b] : List Value).toArray 4) := by
  obtain ⟨hx, hb, hr, hml, hown, hts0, hX, hbl, hlocks, hgv⟩ := id C0
  obtain ⟨D, cA, hK⟩ := am_Kn_start hts0
  obtain ⟨f, M, hrun, hc, hz⟩ := hG L xs hL
  have sim := am_sim (L, xs) hC hM f 30 tL_law _ _ am_law_in hrun
  rw [lg_entry_eq]
  have hLs := am_L_ent (h0 := s.heap.size) (b := b) (n := 4) [.retAddr 0] (by decide)
  have hsz := hLs.1
  refine sim p l e room_1 s m _ below meth c s.heap [] 0 0 _ _ s.heap.size b s.heap D cA hx hb (by rw [hml]; exact hsz.symm) hown (fun w hw => hts0 w (List.mem_filter.mp hw).1) (fun hn => absurd hn (by decide)) hK hX hbl ⟨rfl, fun _ _ => rfl, fun i q hq => by cases hq⟩ hLs (fun q hq => by cases hq) (by decide) (by decide) ?_ ?_ ?_
  · show 0 + am_c M ≤ 835449 + 0
    omega
  · show 0 + am_z M ≤ 6595900 + 0
    omega
  · intro H' locs' cells' slots' pc' ls' hR' hlo' hc' hz' hrok
    have hc' : cells' + 0 = 0 + am_c M := hc'
    have hz' : slots' + 0 = 0 + am_z M := hz'
    refine va_forget hlo' (W.widen (k := 835449) (n := 6595900) (by omega) (by omega) ?_)
    exact lw_ret hx hb hr hlocks hrok.1
end
section
/-! ===== the calculus of runs: a frame comes to an end with Q ===== -/
theorem am_fuel1 {S : am_S} : ∀ (f d : Nat) (t : am_T) (fr : am_F) (r : Option Value × am_M), am_run S f d t fr = some r → am_run S (f + 1) d t fr = some r
  | 0, d, t, fr, r, h => by cases h
  | f + 1, d, t, fr, r, h => by
    unfold am_run at h ⊢
    cases hs : am_step S t fr with
    | none => rw [hs] at h; cases h
    | some x =>
      rw [hs] at h
      match x, h with
      | .inl fr', h => exact am_fuel1 f d t fr' r h
      | .inr (.inl r'), h => exact h
      | .inr (.inr (j, as, fr')), h =>
        dsimp only at h ⊢
        cases d with
        | zero => cases h
        | succ d' =>
          cases hmt : am_mt[j]? with
          | none => rw [hmt] at h; cases h
          | some t' =>
            rw [hmt] at h
            dsimp only at h ⊢
            split at h
            · next hlen =>
              rw [if_pos hlen]
              cases hr : am_run S f d' t' (am_ent t' fr'.1 as) with
              | none => rw [hr] at h; cases h
              | some vm =>
                rw [hr] at h
                rw [am_fuel1 f d' t' _ _ hr]
                exact am_fuel1 f (d' + 1) t _ _ h
            · cases h
theorem am_deep1 {S : am_S} : ∀ (f d : Nat) (t : am_T) (fr : am_F) (r : Option Value × am_M), am_run S f d t fr = some r → am_run S f (d + 1) t fr = some r
  | 0, d, t, fr, r, h => by cases h
  | f + 1, d, t, fr, r, h => by
    unfold am_run at h ⊢
    cases hs : am_step S t fr with
    | none => rw [hs] at h; cases h
    | some x =>
      rw [hs] at h
      match x, h with
      | .inl fr', h => exact am_deep1 f d t fr' r h
      | .inr (.inl r'), h => exact h
      | .inr (.inr (j, as, fr')), h =>
        dsimp only at h ⊢
        cases d with
        | zero => cases h
        | succ d' =>
          cases hmt : am_mt[j]? with
          | none => rw [hmt] at h; cases h
          | some t' =>
            rw [hmt] at h
            dsimp only at h ⊢
            split at h
            · next hlen =>
              rw [if_pos hlen]
              cases hr : am_run S f d' t' (am_ent t' fr'.1 as) with
              | none => rw [hr] at h; cases h
              | some vm =>
                rw [hr] at h
                rw [am_deep1 f d' t' _ _ hr]
                exact am_deep1 f (d' + 1) t _ _ h
            · cases h
theorem am_fuel {S : am_S} {f d : Nat} {t : am_T} {fr : am_F} {r : Option Value × am_M} (h : am_run S f d t fr = some r) : ∀ k, am_run S (f + k) d t fr = some r
  | 0 => h
  | k + 1 => am_fuel1 _ _ _ _ _ (am_fuel h k)
theorem am_deep {S : am_S} {f d : Nat} {t : am_T} {fr : am_F} {r : Option Value × am_M} (h : am_run S f d t fr = some r) : ∀ k, am_run S f (d + k) t fr = some r
  | 0 => h
  | k + 1 => am_deep1 _ _ _ _ _ (am_deep h k)
def Go (S : am_S) (d : Nat) (t : am_T) (fr : am_F) (Q : Option Value × am_M → Prop) : Prop := ∃ f r, am_run S f d t fr = some r ∧ Q r
theorem go_mono {S : am_S} {d d' : Nat} {t : am_T} {fr : am_F} {Q Q' : Option Value × am_M → Prop} (h : Go S d t fr Q) (hd : d ≤ d') (hq : ∀ r, Q r → Q' r) : Go S d' t fr Q' := by
  obtain ⟨f, r, h1, h2⟩ := h
  refine ⟨f, r, ?_, hq r h2⟩
  rw [show d' = d + (d' - d) by omega]
  exact am_deep h1 _
theorem go_step {S : am_S} {d : Nat} {t : am_T} {fr fr' : am_F} {Q : Option Value × am_M → Prop} (hs : am_step S t fr = some (.inl fr')) (h : Go S d t fr' Q) : Go S d t fr Q := by
  obtain ⟨f, r, h1, h2⟩ := h
  exact ⟨f + 1, r, by unfold am_run; rw [hs]; exact h1, h2⟩
theorem go_ret {S : am_S} {d : Nat} {t : am_T} {fr : am_F} {r : Option Value × am_M} {Q : Option Value × am_M → Prop} (hs : am_step S t fr = some (.inr (.inl r))) (h : Q r) : Go S d t fr Q := ⟨1, r, by unfold am_run; rw [hs], h⟩
/-- a method from these arguments, h calls deep at most, ends with Q -/
def Sp (S : am_S) (h : Nat) (t : am_T) (M : am_M) (as : List Value) (Q : Option Value × am_M → Prop) : Prop := Go S h t (am_ent t M as) Q
theorem go_call {S : am_S} {d h : Nat} {t t' : am_T} {fr fr' : am_F} {j : Nat} {as : List Value} {Q Q' : Option Value × am_M → Prop} (hs : am_step S t fr = some (.inr (.inr (j, as, fr')))) (hj : am_mt[j]? = some t') (hl : (am_lay as).length ≤ t'.2.2.1) (hd : h + 1 ≤ d) (hc : Sp S h t' fr'.1 as Q') (k : ∀ v M2, Q' (v, M2) → Go S d t (M2, fr'.2.1, fr'.2.2.1, v.toList ++ fr'.2.2.2) Q) : Go S d t fr Q := by
  obtain ⟨f1, ⟨v, M2⟩, h1, h2⟩ := hc
  obtain ⟨f2, r, h3, h4⟩ := k v M2 h2
  obtain ⟨d', rfl⟩ : ∃ d', d = d' + 1 := ⟨d - 1, by omega⟩
  refine ⟨f1 + f2 + 1, r, ?_, h4⟩
  unfold am_run
  rw [hs]
  dsimp only
  rw [hj]
  dsimp only
  rw [if_pos hl]
  have e1 : am_run S (f1 + f2) d' t' (am_ent t' fr'.1 as) = some (v, M2) := by
    rw [show d' = h + (d' - h) by omega]
    exact am_fuel (am_deep h1 _) _
  rw [e1]
  dsimp only
  rw [Nat.add_comm f1 f2]
  exact am_fuel h3 _
/-- the entry of a table -/
abbrev At (t : am_T) (pc : Nat) (e : Instr × Nat × Nat × Nat × Nat) : Prop := t.2.2.2.2.2.lookup pc = some e
theorem at_step {S : am_S} {t : am_T} {M : am_M} {pc nx a b h : Nat} {ins : Instr} {la st : List Value} {q : am_P} (hl : At t pc (ins, nx, a, b, h)) (hp : am_pure ins pc nx a la st = some q) : am_step S t (M, pc, la, st) = some (.inl (M, q)) := by
  unfold am_step
  dsimp only
  rw [hl]
  dsimp only
  rw [hp]
theorem at_mem {S : am_S} {t : am_T} {M : am_M} {pc nx a b h : Nat} {ins : Instr} {la st : List Value} {x : Option am_R} (hl : At t pc (ins, nx, a, b, h)) (hp : am_pure ins pc nx a la st = none) (hm : am_mem S t ins nx a b M la st = x) : am_step S t (M, pc, la, st) = x := by
  unfold am_step
  dsimp only
  rw [hl]
  dsimp only
  rw [hp]
  exact hm
theorem am_in_ok {sh : List (Nat × Nat)} {mI : Nat → Nat → Int32} {mL : Nat → Nat → Int64} {mR : Nat → Nat → Option Nat} {i kd n z : Nat} (hs : sh[i]? = some (kd, n)) (hz : z < n) (hn : n ≤ 10000) : am_in (sh, mI, mL, mR) kd i (nI z) = true := by
  unfold am_in
  rw [hs]
  exact decide_eq_true ⟨rfl, nI_in hz (by omega)⟩
section GO
variable {S : am_S} {d : Nat} {t : am_T} {M : am_M} {sh : List (Nat × Nat)} {mI : Nat → Nat → Int32} {mL : Nat → Nat → Int64} {mR : Nat → Nat → Option Nat} {pc nx a b h : Nat} {la st : List Value} {Q : Option Value × am_M → Prop}
theorem go_iconst {n : Int} {v : Int32} (hl : At t pc (.iconst n, nx, a, b, h)) (hv : Int32.ofInt n = v) (k : Go S d t (M, nx, la, .int v :: st) Q) : Go S d t (M, pc, la, st) Q := go_step (at_step hl (by rw [← hv]; rfl)) k
theorem go_bipush {n : Int} {v : Int32} (hl : At t pc (.bipush n, nx, a, b, h)) (hv : (Int8.ofInt n).toInt32 = v) (k : Go S d t (M, nx, la, .int v :: st) Q) : Go S d t (M, pc, la, st) Q := go_step (at_step hl (by rw [← hv]; rfl)) k
theorem go_sipush {n : Int} {v : Int32} (hl : At t pc (.sipush n, nx, a, b, h)) (hv : (Int16.ofInt n).toInt32 = v) (k : Go S d t (M, nx, la, .int v :: st) Q) : Go S d t (M, pc, la, st) Q := go_step (at_step hl (by rw [← hv]; rfl)) k
theorem go_lconst {n : Fin 2} {v : Int64} (hl : At t pc (.lconst n, nx, a, b, h)) (hv : Int64.ofNat (n : Nat) = v) (k : Go S d t (M, nx, la, .long v :: st) Q) : Go S d t (M, pc, la, st) Q := go_step (at_step hl (by rw [← hv]; rfl)) k
theorem go_ldc2 {i : Nat} {v : Int64} (hl : At t pc (.ldc2_w i, nx, a, b, h)) (hv : Int64.ofNat a = v) (k : Go S d t (M, nx, la, .long v :: st) Q) : Go S d t (M, pc, la, st) Q := go_step (at_step hl (by rw [← hv]; rfl)) k
theorem go_null (hl : At t pc (.aconst_null, nx, a, b, h)) (k : Go S d t (M, nx, la, .null :: st) Q) : Go S d t (M, pc, la, st) Q := go_step (at_step hl (rfl)) k
theorem go_iload_0 {x : Int32} {l : List Value} (hl : At t pc (.iload 0, nx, a, b, h)) (k : Go S d t (M, nx, .int x :: l, .int x :: st) Q) : Go S d t (M, pc, .int x :: l, st) Q := go_step (at_step hl rfl) k
theorem go_lload_0 {x : Int64} {l : List Value} (hl : At t pc (.lload 0, nx, a, b, h)) (k : Go S d t (M, nx, .long x :: l, .long x :: st) Q) : Go S d t (M, pc, .long x :: l, st) Q := go_step (at_step hl rfl) k
theorem go_aload_0 {w : Value} {l : List Value} (hl : At t pc (.aload 0, nx, a, b, h)) (hw : am_isR w = true) (k : Go S d t (M, nx, w :: l, w :: st) Q) : Go S d t (M, pc, w :: l, st) Q := go_step (at_step hl (by show (if am_isR w = true then _ else _) = _; rw [if_pos hw])) k
theorem go_istore_0 {x : Int32} {w : Value} {l : List Value} (hl : At t pc (.istore 0, nx, a, b, h)) (k : Go S d t (M, nx, .int x :: l, st) Q) : Go S d t (M, pc, w :: l, .int x :: st) Q := go_step (at_step hl (by simp [am_pure, am_stI, am_s1])) k
theorem go_astore_0 {u w : Value} {l : List Value} (hl : At t pc (.astore 0, nx, a, b, h)) (hw : am_isR u = true) (k : Go S d t (M, nx, u :: l, st) Q) : Go S d t (M, pc, w :: l, u :: st) Q := go_step (at_step hl (by simp [am_pure, am_stA, hw, am_s1])) k
theorem go_lstore_0 {x : Int64} {w w2 : Value} {l : List Value} (hl : At t pc (.lstore 0, nx, a, b, h)) (k : Go S d t (M, nx, .long x :: am_U :: l, st) Q) : Go S d t (M, pc, w :: w2 :: l, .long x :: st) Q := go_step (at_step hl (by simp [am_pure, am_stL, am_s2, am_s1])) k
theorem go_iloadn_0 {x : Int32} {l : List Value} (hl : At t pc (.iload_n 0, nx, a, b, h)) (k : Go S d t (M, nx, .int x :: l, .int x :: st) Q) : Go S d t (M, pc, .int x :: l, st) Q := go_step (at_step hl rfl) k
theorem go_lloadn_0 {x : Int64} {l : List Value} (hl : At t pc (.lload_n 0, nx, a, b, h)) (k : Go S d t (M, nx, .long x :: l, .long x :: st) Q) : Go S d t (M, pc, .long x :: l, st) Q := go_step (at_step hl rfl) k
theorem go_aloadn_0 {w : Value} {l : List Value} (hl : At t pc (.aload_n 0, nx, a, b, h)) (hw : am_isR w = true) (k : Go S d t (M, nx, w :: l, w :: st) Q) : Go S d t (M, pc, w :: l, st) Q := go_step (at_step hl (by show (if am_isR w = true then _ else _) = _; rw [if_pos hw])) k
theorem go_istoren_0 {x : Int32} {w : Value} {l : List Value} (hl : At t pc (.istore_n 0, nx, a, b, h)) (k : Go S d t (M, nx, .int x :: l, st) Q) : Go S d t (M, pc, w :: l, .int x :: st) Q := go_step (at_step hl (by simp [am_pure, am_stI, am_s1])) k
theorem go_astoren_0 {u w : Value} {l : List Value} (hl : At t pc (.astore_n 0, nx, a, b, h)) (hw : am_isR u = true) (k : Go S d t (M, nx, u :: l, st) Q) : Go S d t (M, pc, w :: l, u :: st) Q := go_step (at_step hl (by simp [am_pure, am_stA, hw, am_s1])) k
theorem go_lstoren_0 {x : Int64} {w w2 : Value} {l : List Value} (hl : At t pc (.lstore_n 0, nx, a, b, h)) (k : Go S d t (M, nx, .long x :: am_U :: l, st) Q) : Go S d t (M, pc, w :: w2 :: l, .long x :: st) Q := go_step (at_step hl (by simp [am_pure, am_stL, am_s2, am_s1])) k
theorem go_iinc_0 {x y : Int32} {n : Int} {l : List Value} (hl : At t pc (.iinc 0 n, nx, a, b, h)) (hy : x + Int32.ofInt n = y) (k : Go S d t (M, nx, .int y :: l, st) Q) : Go S d t (M, pc, .int x :: l, st) Q := go_step (at_step hl (by subst hy; show some _ = some _; simp [am_s1])) k
theorem go_iload_1 {v0 : Value} {x : Int32} {l : List Value} (hl : At t pc (.iload 1, nx, a, b, h)) (k : Go S d t (M, nx, v0 :: .int x :: l, .int x :: st) Q) : Go S d t (M, pc, v0 :: .int x :: l, st) Q := go_step (at_step hl rfl) k
theorem go_lload_1 {v0 : Value} {x : Int64} {l : List Value} (hl : At t pc (.lload 1, nx, a, b, h)) (k : Go S d t (M, nx, v0 :: .long x :: l, .long x :: st) Q) : Go S d t (M, pc, v0 :: .long x :: l, st) Q := go_step (at_step hl rfl) k
theorem go_aload_1 {v0 : Value} {w : Value} {l : List Value} (hl : At t pc (.aload 1, nx, a, b, h)) (hw : am_isR w = true) (k : Go S d t (M, nx, v0 :: w :: l, w :: st) Q) : Go S d t (M, pc, v0 :: w :: l, st) Q := go_step (at_step hl (by show (if am_isR w = true then _ else _) = _; rw [if_pos hw])) k
theorem go_istore_1 {v0 : Value} {x : Int32} {w : Value} {l : List Value} (hl : At t pc (.istore 1, nx, a, b, h)) (hc : v0.category ≠ 2 := by simp [Value.category, am_U]) (k : Go S d t (M, nx, v0 :: .int x :: l, st) Q) : Go S d t (M, pc, v0 :: w :: l, .int x :: st) Q := go_step (at_step hl (by simp [am_pure, am_stI, am_s1, hc])) k
theorem go_astore_1 {v0 : Value} {u w : Value} {l : List Value} (hl : At t pc (.astore 1, nx, a, b, h)) (hw : am_isR u = true) (hc : v0.category ≠ 2 := by simp [Value.category, am_U]) (k : Go S d t (M, nx, v0 :: u :: l, st) Q) : Go S d t (M, pc, v0 :: w :: l, u :: st) Q := go_step (at_step hl (by simp [am_pure, am_stA, hw, am_s1, hc])) k
theorem go_lstore_1 {v0 : Value} {x : Int64} {w w2 : Value} {l : List Value} (hl : At t pc (.lstore 1, nx, a, b, h)) (hc : v0.category ≠ 2 := by simp [Value.category, am_U]) (k : Go S d t (M, nx, v0 :: .long x :: am_U :: l, st) Q) : Go S d t (M, pc, v0 :: w :: w2 :: l, .long x :: st) Q := go_step (at_step hl (by simp [am_pure, am_stL, am_s2, am_s1, hc])) k
theorem go_iloadn_1 {v0 : Value} {x : Int32} {l : List Value} (hl : At t pc (.iload_n 1, nx, a, b, h)) (k : Go S d t (M, nx, v0 :: .int x :: l, .int x :: st) Q) : Go S d t (M, pc, v0 :: .int x :: l, st) Q := go_step (at_step hl rfl) k
theorem go_lloadn_1 {v0 : Value} {x : Int64} {l : List Value} (hl : At t pc (.lload_n 1, nx, a, b, h)) (k : Go S d t (M, nx, v0 :: .long x :: l, .long x :: st) Q) : Go S d t (M, pc, v0 :: .long x :: l, st) Q := go_step (at_step hl rfl) k
theorem go_aloadn_1 {v0 : Value} {w : Value} {l : List Value} (hl : At t pc (.aload_n 1, nx, a, b, h)) (hw : am_isR w = true) (k : Go S d t (M, nx, v0 :: w :: l, w :: st) Q) : Go S d t (M, pc, v0 :: w :: l, st) Q := go_step (at_step hl (by show (if am_isR w = true then _ else _) = _; rw [if_pos hw])) k
theorem go_istoren_1 {v0 : Value} {x : Int32} {w : Value} {l : List Value} (hl : At t pc (.istore_n 1, nx, a, b, h)) (hc : v0.category ≠ 2 := by simp [Value.category, am_U]) (k : Go S d t (M, nx, v0 :: .int x :: l, st) Q) : Go S d t (M, pc, v0 :: w :: l, .int x :: st) Q := go_step (at_step hl (by simp [am_pure, am_stI, am_s1, hc])) k
theorem go_astoren_1 {v0 : Value} {u w : Value} {l : List Value} (hl : At t pc (.astore_n 1, nx, a, b, h)) (hw : am_isR u = true) (hc : v0.category ≠ 2 := by simp [Value.category, am_U]) (k : Go S d t (M, nx, v0 :: u :: l, st) Q) : Go S d t (M, pc, v0 :: w :: l, u :: st) Q := go_step (at_step hl (by simp [am_pure, am_stA, hw, am_s1, hc])) k
theorem go_lstoren_1 {v0 : Value} {x : Int64} {w w2 : Value} {l : List Value} (hl : At t pc (.lstore_n 1, nx, a, b, h)) (hc : v0.category ≠ 2 := by simp [Value.category, am_U]) (k : Go S d t (M, nx, v0 :: .long x :: am_U :: l, st) Q) : Go S d t (M, pc, v0 :: w :: w2 :: l, .long x :: st) Q := go_step (at_step hl (by simp [am_pure, am_stL, am_s2, am_s1, hc])) k
theorem go_iinc_1 {v0 : Value} {x y : Int32} {n : Int} {l : List Value} (hl : At t pc (.iinc 1 n, nx, a, b, h)) (hy : x + Int32.ofInt n = y) (hc : v0.category ≠ 2 := by simp [Value.category, am_U]) (k : Go S d t (M, nx, v0 :: .int y :: l, st) Q) : Go S d t (M, pc, v0 :: .int x :: l, st) Q := go_step (at_step hl (by subst hy; show some _ = some _; simp [am_s1, hc])) k
theorem go_iload_2 {v0 v1 : Value} {x : Int32} {l : List Value} (hl : At t pc (.iload 2, nx, a, b, h)) (k : Go S d t (M, nx, v0 :: v1 :: .int x :: l, .int x :: st) Q) : Go S d t (M, pc, v0 :: v1 :: .int x :: l, st) Q := go_step (at_step hl rfl) k
theorem go_lload_2 {v0 v1 : Value} {x : Int64} {l : List Value} (hl : At t pc (.lload 2, nx, a, b, h)) (k : Go S d t (M, nx, v0 :: v1 :: .long x :: l, .long x :: st) Q) : Go S d t (M, pc, v0 :: v1 :: .long x :: l, st) Q := go_step (at_step hl rfl) k
theorem go_aload_2 {v0 v1 : Value} {w : Value} {l : List Value} (hl : At t pc (.aload 2, nx, a, b, h)) (hw : am_isR w = true) (k : Go S d t (M, nx, v0 :: v1 :: w :: l, w :: st) Q) : Go S d t (M, pc, v0 :: v1 :: w :: l, st) Q := go_step (at_step hl (by show (if am_isR w = true then _ else _) = _; rw [if_pos hw])) k
theorem go_istore_2 {v0 v1 : Value} {x : Int32} {w : Value} {l : List Value} (hl : At t pc (.istore 2, nx, a, b, h)) (hc : v1.category ≠ 2 := by simp [Value.category, am_U]) (k : Go S d t (M, nx, v0 :: v1 :: .int x :: l, st) Q) : Go S d t (M, pc, v0 :: v1 :: w :: l, .int x :: st) Q := go_step (at_step hl (by simp [am_pure, am_stI, am_s1, hc])) k
theorem go_astore_2 {v0 v1 : Value} {u w : Value} {l : List Value} (hl : At t pc (.astore 2, nx, a, b, h)) (hw : am_isR u = true) (hc : v1.category ≠ 2 := by simp [Value.category, am_U]) (k : Go S d t (M, nx, v0 :: v1 :: u :: l, st) Q) : Go S d t (M, pc, v0 :: v1 :: w :: l, u :: st) Q := go_step (at_step hl (by simp [am_pure, am_stA, hw, am_s1, hc])) k
theorem go_lstore_2 {v0 v1 : Value} {x : Int64} {w w2 : Value} {l : List Value} (hl : At t pc (.lstore 2, nx, a, b, h)) (hc : v1.category ≠ 2 := by simp [Value.category, am_U]) (k : Go S d t (M, nx, v0 :: v1 :: .long x :: am_U :: l, st) Q) : Go S d t (M, pc, v0 :: v1 :: w :: w2 :: l, .long x :: st) Q := go_step (at_step hl (by simp [am_pure, am_stL, am_s2, am_s1, hc])) k
theorem go_iloadn_2 {v0 v1 : Value} {x : Int32} {l : List Value} (hl : At t pc (.iload_n 2, nx, a, b, h)) (k : Go S d t (M, nx, v0 :: v1 :: .int x :: l, .int x :: st) Q) : Go S d t (M, pc, v0 :: v1 :: .int x :: l, st) Q := go_step (at_step hl rfl) k
theorem go_lloadn_2 {v0 v1 : Value} {x : Int64} {l : List Value} (hl : At t pc (.lload_n 2, nx, a, b, h)) (k : Go S d t (M, nx, v0 :: v1 :: .long x :: l, .long x :: st) Q) : Go S d t (M, pc, v0 :: v1 :: .long x :: l, st) Q := go_step (at_step hl rfl) k
theorem go_aloadn_2 {v0 v1 : Value} {w : Value} {l : List Value} (hl : At t pc (.aload_n 2, nx, a, b, h)) (hw : am_isR w = true) (k : Go S d t (M, nx, v0 :: v1 :: w :: l, w :: st) Q) : Go S d t (M, pc, v0 :: v1 :: w :: l, st) Q := go_step (at_step hl (by show (if am_isR w = true then _ else _) = _; rw [if_pos hw])) k
theorem go_istoren_2 {v0 v1 : Value} {x : Int32} {w : Value} {l : List Value} (hl : At t pc (.istore_n 2, nx, a, b, h)) (hc : v1.category ≠ 2 := by simp [Value.category, am_U]) (k : Go S d t (M, nx, v0 :: v1 :: .int x :: l, st) Q) : Go S d t (M, pc, v0 :: v1 :: w :: l, .int x :: st) Q := go_step (at_step hl (by simp [am_pure, am_stI, am_s1, hc])) k
theorem go_astoren_2 {v0 v1 : Value} {u w : Value} {l : List Value} (hl : At t pc (.astore_n 2, nx, a, b, h)) (hw : am_isR u = true) (hc : v1.category ≠ 2 := by simp [Value.category, am_U]) (k : Go S d t (M, nx, v0 :: v1 :: u :: l, st) Q) : Go S d t (M, pc, v0 :: v1 :: w :: l, u :: st) Q := go_step (at_step hl (by simp [am_pure, am_stA, hw, am_s1, hc])) k
theorem go_lstoren_2 {v0 v1 : Value} {x : Int64} {w w2 : Value} {l : List Value} (hl : At t pc (.lstore_n 2, nx, a, b, h)) (hc : v1.category ≠ 2 := by simp [Value.category, am_U]) (k : Go S d t (M, nx, v0 :: v1 :: .long x :: am_U :: l, st) Q) : Go S d t (M, pc, v0 :: v1 :: w :: w2 :: l, .long x :: st) Q := go_step (at_step hl (by simp [am_pure, am_stL, am_s2, am_s1, hc])) k
theorem go_iinc_2 {v0 v1 : Value} {x y : Int32} {n : Int} {l : List Value} (hl : At t pc (.iinc 2 n, nx, a, b, h)) (hy : x + Int32.ofInt n = y) (hc : v1.category ≠ 2 := by simp [Value.category, am_U]) (k : Go S d t (M, nx, v0 :: v1 :: .int y :: l, st) Q) : Go S d t (M, pc, v0 :: v1 :: .int x :: l, st) Q := go_step (at_step hl (by subst hy; show some _ = some _; simp [am_s1, hc])) k
theorem go_iload_3 {v0 v1 v2 : Value} {x : Int32} {l : List Value} (hl : At t pc (.iload 3, nx, a, b, h)) (k : Go S d t (M, nx, v0 :: v1 :: v2 :: .int x :: l, .int x :: st) Q) : Go S d t (M, pc, v0 :: v1 :: v2 :: .int x :: l, st) Q := go_step (at_step hl rfl) k
theorem go_lload_3 {v0 v1 v2 : Value} {x : Int64} {l : List Value} (hl : At t pc (.lload 3, nx, a, b, h)) (k : Go S d t (M, nx, v0 :: v1 :: v2 :: .long x :: l, .long x :: st) Q) : Go S d t (M, pc, v0 :: v1 :: v2 :: .long x :: l, st) Q := go_step (at_step hl rfl) k
theorem go_aload_3 {v0 v1 v2 : Value} {w : Value} {l : List Value} (hl : At t pc (.aload 3, nx, a, b, h)) (hw : am_isR w = true) (k : Go S d t (M, nx, v0 :: v1 :: v2 :: w :: l, w :: st) Q) : Go S d t (M, pc, v0 :: v1 :: v2 :: w :: l, st) Q := go_step (at_step hl (by show (if am_isR w = true then _ else _) = _; rw [if_pos hw])) k
theorem go_istore_3 {v0 v1 v2 : Value} {x : Int32} {w : Value} {l : List Value} (hl : At t pc (.istore 3, nx, a, b, h)) (hc : v2.category ≠ 2 := by simp [Value.category, am_U]) (k : Go S d t (M, nx, v0 :: v1 :: v2 :: .int x :: l, st) Q) : Go S d t (M, pc, v0 :: v1 :: v2 :: w :: l, .int x :: st) Q := go_step (at_step hl (by simp [am_pure, am_stI, am_s1, hc])) k
theorem go_astore_3 {v0 v1 v2 : Value} {u w : Value} {l : List Value} (hl : At t pc (.astore 3, nx, a, b, h)) (hw : am_isR u = true) (hc : v2.category ≠ 2 := by simp [Value.category, am_U]) (k : Go S d t (M, nx, v0 :: v1 :: v2 :: u :: l, st) Q) : Go S d t (M, pc, v0 :: v1 :: v2 :: w :: l, u :: st) Q := go_step (at_step hl (by simp [am_pure, am_stA, hw, am_s1, hc])) k
theorem go_lstore_3 {v0 v1 v2 : Value} {x : Int64} {w w2 : Value} {l : List Value} (hl : At t pc (.lstore 3, nx, a, b, h)) (hc : v2.category ≠ 2 := by simp [Value.category, am_U]) (k : Go S d t (M, nx, v0 :: v1 :: v2 :: .long x :: am_U :: l, st) Q) : Go S d t (M, pc, v0 :: v1 :: v2 :: w :: w2 :: l, .long x :: st) Q := go_step (at_step hl (by simp [am_pure, am_stL, am_s2, am_s1, hc])) k
theorem go_iloadn_3 {v0 v1 v2 : Value} {x : Int32} {l : List Value} (hl : At t pc (.iload_n 3, nx, a, b, h)) (k : Go S d t (M, nx, v0 :: v1 :: v2 :: .int x :: l, .int x :: st) Q) : Go S d t (M, pc, v0 :: v1 :: v2 :: .int x :: l, st) Q := go_step (at_step hl rfl) k
theorem go_lloadn_3 {v0 v1 v2 : Value} {x : Int64} {l : List Value} (hl : At t pc (.lload_n 3, nx, a, b, h)) (k : Go S d t (M, nx, v0 :: v1 :: v2 :: .long x :: l, .long x :: st) Q) : Go S d t (M, pc, v0 :: v1 :: v2 :: .long x :: l, st) Q := go_step (at_step hl rfl) k
theorem go_aloadn_3 {v0 v1 v2 : Value} {w : Value} {l : List Value} (hl : At t pc (.aload_n 3, nx, a, b, h)) (hw : am_isR w = true) (k : Go S d t (M, nx, v0 :: v1 :: v2 :: w :: l, w :: st) Q) : Go S d t (M, pc, v0 :: v1 :: v2 :: w :: l, st) Q := go_step (at_step hl (by show (if am_isR w = true then _ else _) = _; rw [if_pos hw])) k
theorem go_istoren_3 {v0 v1 v2 : Value} {x : Int32} {w : Value} {l : List Value} (hl : At t pc (.istore_n 3, nx, a, b, h)) (hc : v2.category ≠ 2 := by simp [Value.category, am_U]) (k : Go S d t (M, nx, v0 :: v1 :: v2 :: .int x :: l, st) Q) : Go S d t (M, pc, v0 :: v1 :: v2 :: w :: l, .int x :: st) Q := go_step (at_step hl (by simp [am_pure, am_stI, am_s1, hc, show ((3 : Fin 4) : Nat) = 3 from rfl])) k
theorem go_astoren_3 {v0 v1 v2 : Value} {u w : Value} {l : List Value} (hl : At t pc (.astore_n 3, nx, a, b, h)) (hw : am_isR u = true) (hc : v2.category ≠ 2 := by simp [Value.category, am_U]) (k : Go S d t (M, nx, v0 :: v1 :: v2 :: u :: l, st) Q) : Go S d t (M, pc, v0 :: v1 :: v2 :: w :: l, u :: st) Q := go_step (at_step hl (by simp [am_pure, am_stA, hw, am_s1, hc, show ((3 : Fin 4) : Nat) = 3 from rfl])) k
theorem go_lstoren_3 {v0 v1 v2 : Value} {x : Int64} {w w2 : Value} {l : List Value} (hl : At t pc (.lstore_n 3, nx, a, b, h)) (hc : v2.category ≠ 2 := by simp [Value.category, am_U]) (k : Go S d t (M, nx, v0 :: v1 :: v2 :: .long x :: am_U :: l, st) Q) : Go S d t (M, pc, v0 :: v1 :: v2 :: w :: w2 :: l, .long x :: st) Q := go_step (at_step hl (by simp [am_pure, am_stL, am_s2, am_s1, hc, show ((3 : Fin 4) : Nat) = 3 from rfl])) k
theorem go_iinc_3 {v0 v1 v2 : Value} {x y : Int32} {n : Int} {l : List Value} (hl : At t pc (.iinc 3 n, nx, a, b, h)) (hy : x + Int32.ofInt n = y) (hc : v2.category ≠ 2 := by simp [Value.category, am_U]) (k : Go S d t (M, nx, v0 :: v1 :: v2 :: .int y :: l, st) Q) : Go S d t (M, pc, v0 :: v1 :: v2 :: .int x :: l, st) Q := go_step (at_step hl (by subst hy; show some _ = some _; simp [am_s1, hc])) k
theorem go_iload_4 {v0 v1 v2 v3 : Value} {x : Int32} {l : List Value} (hl : At t pc (.iload 4, nx, a, b, h)) (k : Go S d t (M, nx, v0 :: v1 :: v2 :: v3 :: .int x :: l, .int x :: st) Q) : Go S d t (M, pc, v0 :: v1 :: v2 :: v3 :: .int x :: l, st) Q := go_step (at_step hl rfl) k
theorem go_lload_4 {v0 v1 v2 v3 : Value} {x : Int64} {l : List Value} (hl : At t pc (.lload 4, nx, a, b, h)) (k : Go S d t (M, nx, v0 :: v1 :: v2 :: v3 :: .long x :: l, .long x :: st) Q) : Go S d t (M, pc, v0 :: v1 :: v2 :: v3 :: .long x :: l, st) Q := go_step (at_step hl rfl) k
theorem go_aload_4 {v0 v1 v2 v3 : Value} {w : Value} {l : List Value} (hl : At t pc (.aload 4, nx, a, b, h)) (hw : am_isR w = true) (k : Go S d t (M, nx, v0 :: v1 :: v2 :: v3 :: w :: l, w :: st) Q) : Go S d t (M, pc, v0 :: v1 :: v2 :: v3 :: w :: l, st) Q := go_step (at_step hl (by show (if am_isR w = true then _ else _) = _; rw [if_pos hw])) k
theorem go_istore_4 {v0 v1 v2 v3 : Value} {x : Int32} {w : Value} {l : List Value} (hl : At t pc (.istore 4, nx, a, b, h)) (hc : v3.category ≠ 2 := by simp [Value.category, am_U]) (k : Go S d t (M, nx, v0 :: v1 :: v2 :: v3 :: .int x :: l, st) Q) : Go S d t (M, pc, v0 :: v1 :: v2 :: v3 :: w :: l, .int x :: st) Q := go_step (at_step hl (by simp [am_pure, am_stI, am_s1, hc])) k
theorem go_astore_4 {v0 v1 v2 v3 : Value} {u w : Value} {l : List Value} (hl : At t pc (.astore 4, nx, a, b, h)) (hw : am_isR u = true) (hc : v3.category ≠ 2 := by simp [Value.category, am_U]) (k : Go S d t (M, nx, v0 :: v1 :: v2 :: v3 :: u :: l, st) Q) : Go S d t (M, pc, v0 :: v1 :: v2 :: v3 :: w :: l, u :: st) Q := go_step (at_step hl (by simp [am_pure, am_stA, hw, am_s1, hc])) k
theorem go_lstore_4 {v0 v1 v2 v3 : Value} {x : Int64} {w w2 : Value} {l : List Value} (hl : At t pc (.lstore 4, nx, a, b, h)) (hc : v3.category ≠ 2 := by simp [Value.category, am_U]) (k : Go S d t (M, nx, v0 :: v1 :: v2 :: v3 :: .long x :: am_U :: l, st) Q) : Go S d t (M, pc, v0 :: v1 :: v2 :: v3 :: w :: w2 :: l, .long x :: st) Q := go_step (at_step hl (by simp [am_pure, am_stL, am_s2, am_s1, hc])) k
theorem go_iinc_4 {v0 v1 v2 v3 : Value} {x y : Int32} {n : Int} {l : List Value} (hl : At t pc (.iinc 4 n, nx, a, b, h)) (hy : x + Int32.ofInt n = y) (hc : v3.category ≠ 2 := by simp [Value.category, am_U]) (k : Go S d t (M, nx, v0 :: v1 :: v2 :: v3 :: .int y :: l, st) Q) : Go S d t (M, pc, v0 :: v1 :: v2 :: v3 :: .int x :: l, st) Q := go_step (at_step hl (by subst hy; show some _ = some _; simp [am_s1, hc])) k
theorem go_iload_5 {v0 v1 v2 v3 v4 : Value} {x : Int32} {l : List Value} (hl : At t pc (.iload 5, nx, a, b, h)) (k : Go S d t (M, nx, v0 :: v1 :: v2 :: v3 :: v4 :: .int x :: l, .int x :: st) Q) : Go S d t (M, pc, v0 :: v1 :: v2 :: v3 :: v4 :: .int x :: l, st) Q := go_step (at_step hl rfl) k
theorem go_lload_5 {v0 v1 v2 v3 v4 : Value} {x : Int64} {l : List Value} (hl : At t pc (.lload 5, nx, a, b, h)) (k : Go S d t (M, nx, v0 :: v1 :: v2 :: v3 :: v4 :: .long x :: l, .long x :: st) Q) : Go S d t (M, pc, v0 :: v1 :: v2 :: v3 :: v4 :: .long x :: l, st) Q := go_step (at_step hl rfl) k
theorem go_aload_5 {v0 v1 v2 v3 v4 : Value} {w : Value} {l : List Value} (hl : At t pc (.aload 5, nx, a, b, h)) (hw : am_isR w = true) (k : Go S d t (M, nx, v0 :: v1 :: v2 :: v3 :: v4 :: w :: l, w :: st) Q) : Go S d t (M, pc, v0 :: v1 :: v2 :: v3 :: v4 :: w :: l, st) Q := go_step (at_step hl (by show (if am_isR w = true then _ else _) = _; rw [if_pos hw])) k
theorem go_istore_5 {v0 v1 v2 v3 v4 : Value} {x : Int32} {w : Value} {l : List Value} (hl : At t pc (.istore 5, nx, a, b, h)) (hc : v4.category ≠ 2 := by simp [Value.category, am_U]) (k : Go S d t (M, nx, v0 :: v1 :: v2 :: v3 :: v4 :: .int x :: l, st) Q) : Go S d t (M, pc, v0 :: v1 :: v2 :: v3 :: v4 :: w :: l, .int x :: st) Q := go_step (at_step hl (by simp [am_pure, am_stI, am_s1, hc])) k
theorem go_astore_5 {v0 v1 v2 v3 v4 : Value} {u w : Value} {l : List Value} (hl : At t pc (.astore 5, nx, a, b, h)) (hw : am_isR u = true) (hc : v4.category ≠ 2 := by simp [Value.category, am_U]) (k : Go S d t (M, nx, v0 :: v1 :: v2 :: v3 :: v4 :: u :: l, st) Q) : Go S d t (M, pc, v0 :: v1 :: v2 :: v3 :: v4 :: w :: l, u :: st) Q := go_step (at_step hl (by simp [am_pure, am_stA, hw, am_s1, hc])) k
theorem go_lstore_5 {v0 v1 v2 v3 v4 : Value} {x : Int64} {w w2 : Value} {l : List Value} (hl : At t pc (.lstore 5, nx, a, b, h)) (hc : v4.category ≠ 2 := by simp [Value.category, am_U]) (k : Go S d t (M, nx, v0 :: v1 :: v2 :: v3 :: v4 :: .long x :: am_U :: l, st) Q) : Go S d t (M, pc, v0 :: v1 :: v2 :: v3 :: v4 :: w :: w2 :: l, .long x :: st) Q := go_step (at_step hl (by simp [am_pure, am_stL, am_s2, am_s1, hc])) k
theorem go_iinc_5 {v0 v1 v2 v3 v4 : Value} {x y : Int32} {n : Int} {l : List Value} (hl : At t pc (.iinc 5 n, nx, a, b, h)) (hy : x + Int32.ofInt n = y) (hc : v4.category ≠ 2 := by simp [Value.category, am_U]) (k : Go S d t (M, nx, v0 :: v1 :: v2 :: v3 :: v4 :: .int y :: l, st) Q) : Go S d t (M, pc, v0 :: v1 :: v2 :: v3 :: v4 :: .int x :: l, st) Q := go_step (at_step hl (by subst hy; show some _ = some _; simp [am_s1, hc])) k
theorem go_iload_6 {v0 v1 v2 v3 v4 v5 : Value} {x : Int32} {l : List Value} (hl : At t pc (.iload 6, nx, a, b, h)) (k : Go S d t (M, nx, v0 :: v1 :: v2 :: v3 :: v4 :: v5 :: .int x :: l, .int x :: st) Q) : Go S d t (M, pc, v0 :: v1 :: v2 :: v3 :: v4 :: v5 :: .int x :: l, st) Q := go_step (at_step hl rfl) k
theorem go_lload_6 {v0 v1 v2 v3 v4 v5 : Value} {x : Int64} {l : List Value} (hl : At t pc (.lload 6, nx, a, b, h)) (k : Go S d t (M, nx, v0 :: v1 :: v2 :: v3 :: v4 :: v5 :: .long x :: l, .long x :: st) Q) : Go S d t (M, pc, v0 :: v1 :: v2 :: v3 :: v4 :: v5 :: .long x :: l, st) Q := go_step (at_step hl rfl) k
theorem go_aload_6 {v0 v1 v2 v3 v4 v5 : Value} {w : Value} {l : List Value} (hl : At t pc (.aload 6, nx, a, b, h)) (hw : am_isR w = true) (k : Go S d t (M, nx, v0 :: v1 :: v2 :: v3 :: v4 :: v5 :: w :: l, w :: st) Q) : Go S d t (M, pc, v0 :: v1 :: v2 :: v3 :: v4 :: v5 :: w :: l, st) Q := go_step (at_step hl (by show (if am_isR w = true then _ else _) = _; rw [if_pos hw])) k
theorem go_istore_6 {v0 v1 v2 v3 v4 v5 : Value} {x : Int32} {w : Value} {l : List Value} (hl : At t pc (.istore 6, nx, a, b, h)) (hc : v5.category ≠ 2 := by simp [Value.category, am_U]) (k : Go S d t (M, nx, v0 :: v1 :: v2 :: v3 :: v4 :: v5 :: .int x :: l, st) Q) : Go S d t (M, pc, v0 :: v1 :: v2 :: v3 :: v4 :: v5 :: w :: l, .int x :: st) Q := go_step (at_step hl (by simp [am_pure, am_stI, am_s1, hc])) k
theorem go_astore_6 {v0 v1 v2 v3 v4 v5 : Value} {u w : Value} {l : List Value} (hl : At t pc (.astore 6, nx, a, b, h)) (hw : am_isR u = true) (hc : v5.category ≠ 2 := by simp [Value.category, am_U]) (k : Go S d t (M, nx, v0 :: v1 :: v2 :: v3 :: v4 :: v5 :: u :: l, st) Q) : Go S d t (M, pc, v0 :: v1 :: v2 :: v3 :: v4 :: v5 :: w :: l, u :: st) Q := go_step (at_step hl (by simp [am_pure, am_stA, hw, am_s1, hc])) k
theorem go_lstore_6 {v0 v1 v2 v3 v4 v5 : Value} {x : Int64} {w w2 : Value} {l : List Value} (hl : At t pc (.lstore 6, nx, a, b, h)) (hc : v5.category ≠ 2 := by simp [Value.category, am_U]) (k : Go S d t (M, nx, v0 :: v1 :: v2 :: v3 :: v4 :: v5 :: .long x :: am_U :: l, st) Q) : Go S d t (M, pc, v0 :: v1 :: v2 :: v3 :: v4 :: v5 :: w :: w2 :: l, .long x :: st) Q := go_step (at_step hl (by simp [am_pure, am_stL, am_s2, am_s1, hc])) k
theorem go_iinc_6 {v0 v1 v2 v3 v4 v5 : Value} {x y : Int32} {n : Int} {l : List Value} (hl : At t pc (.iinc 6 n, nx, a, b, h)) (hy : x + Int32.ofInt n = y) (hc : v5.category ≠ 2 := by simp [Value.category, am_U]) (k : Go S d t (M, nx, v0 :: v1 :: v2 :: v3 :: v4 :: v5 :: .int y :: l, st) Q) : Go S d t (M, pc, v0 :: v1 :: v2 :: v3 :: v4 :: v5 :: .int x :: l, st) Q := go_step (at_step hl (by subst hy; show some _ = some _; simp [am_s1, hc])) k
theorem go_iload_7 {v0 v1 v2 v3 v4 v5 v6 : Value} {x : Int32} {l : List Value} (hl : At t pc (.iload 7, nx, a, b, h)) (k : Go S d t (M, nx, v0 :: v1 :: v2 :: v3 :: v4 :: v5 :: v6 :: .int x :: l, .int x :: st) Q) : Go S d t (M, pc, v0 :: v1 :: v2 :: v3 :: v4 :: v5 :: v6 :: .int x :: l, st) Q := go_step (at_step hl rfl) k
theorem go_lload_7 {v0 v1 v2 v3 v4 v5 v6 : Value} {x : Int64} {l : List Value} (hl : At t pc (.lload 7, nx, a, b, h)) (k : Go S d t (M, nx, v0 :: v1 :: v2 :: v3 :: v4 :: v5 :: v6 :: .long x :: l, .long x :: st) Q) : Go S d t (M, pc, v0 :: v1 :: v2 :: v3 :: v4 :: v5 :: v6 :: .long x :: l, st) Q := go_step (at_step hl rfl) k
theorem go_aload_7 {v0 v1 v2 v3 v4 v5 v6 : Value} {w : Value} {l : List Value} (hl : At t pc (.aload 7, nx, a, b, h)) (hw : am_isR w = true) (k : Go S d t (M, nx, v0 :: v1 :: v2 :: v3 :: v4 :: v5 :: v6 :: w :: l, w :: st) Q) : Go S d t (M, pc, v0 :: v1 :: v2 :: v3 :: v4 :: v5 :: v6 :: w :: l, st) Q := go_step (at_step hl (by show (if am_isR w = true then _ else _) = _; rw [if_pos hw])) k
theorem go_istore_7 {v0 v1 v2 v3 v4 v5 v6 : Value} {x : Int32} {w : Value} {l : List Value} (hl : At t pc (.istore 7, nx, a, b, h)) (hc : v6.category ≠ 2 := by simp [Value.category, am_U]) (k : Go S d t (M, nx, v0 :: v1 :: v2 :: v3 :: v4 :: v5 :: v6 :: .int x :: l, st) Q) : Go S d t (M, pc, v0 :: v1 :: v2 :: v3 :: v4 :: v5 :: v6 :: w :: l, .int x :: st) Q := go_step (at_step hl (by simp [am_pure, am_stI, am_s1, hc])) k
theorem go_astore_7 {v0 v1 v2 v3 v4 v5 v6 : Value} {u w : Value} {l : List Value} (hl : At t pc (.astore 7, nx, a, b, h)) (hw : am_isR u = true) (hc : v6.category ≠ 2 := by simp [Value.category, am_U]) (k : Go S d t (M, nx, v0 :: v1 :: v2 :: v3 :: v4 :: v5 :: v6 :: u :: l, st) Q) : Go S d t (M, pc, v0 :: v1 :: v2 :: v3 :: v4 :: v5 :: v6 :: w :: l, u :: st) Q := go_step (at_step hl (by simp [am_pure, am_stA, hw, am_s1, hc])) k
theorem go_lstore_7 {v0 v1 v2 v3 v4 v5 v6 : Value} {x : Int64} {w w2 : Value} {l : List Value} (hl : At t pc (.lstore 7, nx, a, b, h)) (hc : v6.category ≠ 2 := by simp [Value.category, am_U]) (k : Go S d t (M, nx, v0 :: v1 :: v2 :: v3 :: v4 :: v5 :: v6 :: .long x :: am_U :: l, st) Q) : Go S d t (M, pc, v0 :: v1 :: v2 :: v3 :: v4 :: v5 :: v6 :: w :: w2 :: l, .long x :: st) Q := go_step (at_step hl (by simp [am_pure, am_stL, am_s2, am_s1, hc])) k
theorem go_iinc_7 {v0 v1 v2 v3 v4 v5 v6 : Value} {x y : Int32} {n : Int} {l : List Value} (hl : At t pc (.iinc 7 n, nx, a, b, h)) (hy : x + Int32.ofInt n = y) (hc : v6.category ≠ 2 := by simp [Value.category, am_U]) (k : Go S d t (M, nx, v0 :: v1 :: v2 :: v3 :: v4 :: v5 :: v6 :: .int y :: l, st) Q) : Go S d t (M, pc, v0 :: v1 :: v2 :: v3 :: v4 :: v5 :: v6 :: .int x :: l, st) Q := go_step (at_step hl (by subst hy; show some _ = some _; simp [am_s1, hc])) k
theorem go_iload_8 {v0 v1 v2 v3 v4 v5 v6 v7 : Value} {x : Int32} {l : List Value} (hl : At t pc (.iload 8, nx, a, b, h)) (k : Go S d t (M, nx, v0 :: v1 :: v2 :: v3 :: v4 :: v5 :: v6 :: v7 :: .int x :: l, .int x :: st) Q) : Go S d t (M, pc, v0 :: v1 :: v2 :: v3 :: v4 :: v5 :: v6 :: v7 :: .int x :: l, st) Q := go_step (at_step hl rfl) k
theorem go_lload_8 {v0 v1 v2 v3 v4 v5 v6 v7 : Value} {x : Int64} {l : List Value} (hl : At t pc (.lload 8, nx, a, b, h)) (k : Go S d t (M, nx, v0 :: v1 :: v2 :: v3 :: v4 :: v5 :: v6 :: v7 :: .long x :: l, .long x :: st) Q) : Go S d t (M, pc, v0 :: v1 :: v2 :: v3 :: v4 :: v5 :: v6 :: v7 :: .long x :: l, st) Q := go_step (at_step hl rfl) k
theorem go_aload_8 {v0 v1 v2 v3 v4 v5 v6 v7 : Value} {w : Value} {l : List Value} (hl : At t pc (.aload 8, nx, a, b, h)) (hw : am_isR w = true) (k : Go S d t (M, nx, v0 :: v1 :: v2 :: v3 :: v4 :: v5 :: v6 :: v7 :: w :: l, w :: st) Q) : Go S d t (M, pc, v0 :: v1 :: v2 :: v3 :: v4 :: v5 :: v6 :: v7 :: w :: l, st) Q := go_step (at_step hl (by show (if am_isR w = true then _ else _) = _; rw [if_pos hw])) k
theorem go_istore_8 {v0 v1 v2 v3 v4 v5 v6 v7 : Value} {x : Int32} {w : Value} {l : List Value} (hl : At t pc (.istore 8, nx, a, b, h)) (hc : v7.category ≠ 2 := by simp [Value.category, am_U]) (k : Go S d t (M, nx, v0 :: v1 :: v2 :: v3 :: v4 :: v5 :: v6 :: v7 :: .int x :: l, st) Q) : Go S d t (M, pc, v0 :: v1 :: v2 :: v3 :: v4 :: v5 :: v6 :: v7 :: w :: l, .int x :: st) Q := go_step (at_step hl (by simp [am_pure, am_stI, am_s1, hc])) k
theorem go_astore_8 {v0 v1 v2 v3 v4 v5 v6 v7 : Value} {u w : Value} {l : List Value} (hl : At t pc (.astore 8, nx, a, b, h)) (hw : am_isR u = true) (hc : v7.category ≠ 2 := by simp [Value.category, am_U]) (k : Go S d t (M, nx, v0 :: v1 :: v2 :: v3 :: v4 :: v5 :: v6 :: v7 :: u :: l, st) Q) : Go S d t (M, pc, v0 :: v1 :: v2 :: v3 :: v4 :: v5 :: v6 :: v7 :: w :: l, u :: st) Q := go_step (at_step hl (by simp [am_pure, am_stA, hw, am_s1, hc])) k
theorem go_lstore_8 {v0 v1 v2 v3 v4 v5 v6 v7 : Value} {x : Int64} {w w2 : Value} {l : List Value} (hl : At t pc (.lstore 8, nx, a, b, h)) (hc : v7.category ≠ 2 := by simp [Value.category, am_U]) (k : Go S d t (M, nx, v0 :: v1 :: v2 :: v3 :: v4 :: v5 :: v6 :: v7 :: .long x :: am_U :: l, st) Q) : Go S d t (M, pc, v0 :: v1 :: v2 :: v3 :: v4 :: v5 :: v6 :: v7 :: w :: w2 :: l, .long x :: st) Q := go_step (at_step hl (by simp [am_pure, am_stL, am_s2, am_s1, hc])) k
theorem go_iinc_8 {v0 v1 v2 v3 v4 v5 v6 v7 : Value} {x y : Int32} {n : Int} {l : List Value} (hl : At t pc (.iinc 8 n, nx, a, b, h)) (hy : x + Int32.ofInt n = y) (hc : v7.category ≠ 2 := by simp [Value.category, am_U]) (k : Go S d t (M, nx, v0 :: v1 :: v2 :: v3 :: v4 :: v5 :: v6 :: v7 :: .int y :: l, st) Q) : Go S d t (M, pc, v0 :: v1 :: v2 :: v3 :: v4 :: v5 :: v6 :: v7 :: .int x :: l, st) Q := go_step (at_step hl (by subst hy; show some _ = some _; simp [am_s1, hc])) k
theorem go_iload_9 {v0 v1 v2 v3 v4 v5 v6 v7 v8 : Value} {x : Int32} {l : List Value} (hl : At t pc (.iload 9, nx, a, b, h)) (k : Go S d t (M, nx, v0 :: v1 :: v2 :: v3 :: v4 :: v5 :: v6 :: v7 :: v8 :: .int x :: l, .int x :: st) Q) : Go S d t (M, pc, v0 :: v1 :: v2 :: v3 :: v4 :: v5 :: v6 :: v7 :: v8 :: .int x :: l, st) Q := go_step (at_step hl rfl) k
theorem go_lload_9 {v0 v1 v2 v3 v4 v5 v6 v7 v8 : Value} {x : Int64} {l : List Value} (hl : At t pc (.lload 9, nx, a, b, h)) (k : Go S d t (M, nx, v0 :: v1 :: v2 :: v3 :: v4 :: v5 :: v6 :: v7 :: v8 :: .long x :: l, .long x :: st) Q) : Go S d t (M, pc, v0 :: v1 :: v2 :: v3 :: v4 :: v5 :: v6 :: v7 :: v8 :: .long x :: l, st) Q := go_step (at_step hl rfl) k
theorem go_aload_9 {v0 v1 v2 v3 v4 v5 v6 v7 v8 : Value} {w : Value} {l : List Value} (hl : At t pc (.aload 9, nx, a, b, h)) (hw : am_isR w = true) (k : Go S d t (M, nx, v0 :: v1 :: v2 :: v3 :: v4 :: v5 :: v6 :: v7 :: v8 :: w :: l, w :: st) Q) : Go S d t (M, pc, v0 :: v1 :: v2 :: v3 :: v4 :: v5 :: v6 :: v7 :: v8 :: w :: l, st) Q := go_step (at_step hl (by show (if am_isR w = true then _ else _) = _; rw [if_pos hw])) k
theorem go_istore_9 {v0 v1 v2 v3 v4 v5 v6 v7 v8 : Value} {x : Int32} {w : Value} {l : List Value} (hl : At t pc (.istore 9, nx, a, b, h)) (hc : v8.category ≠ 2 := by simp [Value.category, am_U]) (k : Go S d t (M, nx, v0 :: v1 :: v2 :: v3 :: v4 :: v5 :: v6 :: v7 :: v8 :: .int x :: l, st) Q) : Go S d t (M, pc, v0 :: v1 :: v2 :: v3 :: v4 :: v5 :: v6 :: v7 :: v8 :: w :: l, .int x :: st) Q := go_step (at_step hl (by simp [am_pure, am_stI, am_s1, hc])) k
theorem go_astore_9 {v0 v1 v2 v3 v4 v5 v6 v7 v8 : Value} {u w : Value} {l : List Value} (hl : At t pc (.astore 9, nx, a, b, h)) (hw : am_isR u = true) (hc : v8.category ≠ 2 := by simp [Value.category, am_U]) (k : Go S d t (M, nx, v0 :: v1 :: v2 :: v3 :: v4 :: v5 :: v6 :: v7 :: v8 :: u :: l, st) Q) : Go S d t (M, pc, v0 :: v1 :: v2 :: v3 :: v4 :: v5 :: v6 :: v7 :: v8 :: w :: l, u :: st) Q := go_step (at_step hl (by simp [am_pure, am_stA, hw, am_s1, hc])) k
theorem go_lstore_9 {v0 v1 v2 v3 v4 v5 v6 v7 v8 : Value} {x : Int64} {w w2 : Value} {l : List Value} (hl : At t pc (.lstore 9, nx, a, b, h)) (hc : v8.category ≠ 2 := by simp [Value.category, am_U]) (k : Go S d t (M, nx, v0 :: v1 :: v2 :: v3 :: v4 :: v5 :: v6 :: v7 :: v8 :: .long x :: am_U :: l, st) Q) : Go S d t (M, pc, v0 :: v1 :: v2 :: v3 :: v4 :: v5 :: v6 :: v7 :: v8 :: w :: w2 :: l, .long x :: st) Q := go_step (at_step hl (by simp [am_pure, am_stL, am_s2, am_s1, hc])) k
theorem go_iinc_9 {v0 v1 v2 v3 v4 v5 v6 v7 v8 : Value} {x y : Int32} {n : Int} {l : List Value} (hl : At t pc (.iinc 9 n, nx, a, b, h)) (hy : x + Int32.ofInt n = y) (hc : v8.category ≠ 2 := by simp [Value.category, am_U]) (k : Go S d t (M, nx, v0 :: v1 :: v2 :: v3 :: v4 :: v5 :: v6 :: v7 :: v8 :: .int y :: l, st) Q) : Go S d t (M, pc, v0 :: v1 :: v2 :: v3 :: v4 :: v5 :: v6 :: v7 :: v8 :: .int x :: l, st) Q := go_step (at_step hl (by subst hy; show some _ = some _; simp [am_s1, hc])) k
theorem go_iload_10 {v0 v1 v2 v3 v4 v5 v6 v7 v8 v9 : Value} {x : Int32} {l : List Value} (hl : At t pc (.iload 10, nx, a, b, h)) (k : Go S d t (M, nx, v0 :: v1 :: v2 :: v3 :: v4 :: v5 :: v6 :: v7 :: v8 :: v9 :: .int x :: l, .int x :: st) Q) : Go S d t (M, pc, v0 :: v1 :: v2 :: v3 :: v4 :: v5 :: v6 :: v7 :: v8 :: v9 :: .int x :: l, st) Q := go_step (at_step hl rfl) k
theorem go_lload_10 {v0 v1 v2 v3 v4 v5 v6 v7 v8 v9 : Value} {x : Int64} {l : List Value} (hl : At t pc (.lload 10, nx, a, b, h)) (k : Go S d t (M, nx, v0 :: v1 :: v2 :: v3 :: v4 :: v5 :: v6 :: v7 :: v8 :: v9 :: .long x :: l, .long x :: st) Q) : Go S d t (M, pc, v0 :: v1 :: v2 :: v3 :: v4 :: v5 :: v6 :: v7 :: v8 :: v9 :: .long x :: l, st) Q := go_step (at_step hl rfl) k
theorem go_aload_10 {v0 v1 v2 v3 v4 v5 v6 v7 v8 v9 : Value} {w : Value} {l : List Value} (hl : At t pc (.aload 10, nx, a, b, h)) (hw : am_isR w = true) (k : Go S d t (M, nx, v0 :: v1 :: v2 :: v3 :: v4 :: v5 :: v6 :: v7 :: v8 :: v9 :: w :: l, w :: st) Q) : Go S d t (M, pc, v0 :: v1 :: v2 :: v3 :: v4 :: v5 :: v6 :: v7 :: v8 :: v9 :: w :: l, st) Q := go_step (at_step hl (by show (if am_isR w = true then _ else _) = _; rw [if_pos hw])) k
theorem go_istore_10 {v0 v1 v2 v3 v4 v5 v6 v7 v8 v9 : Value} {x : Int32} {w : Value} {l : List Value} (hl : At t pc (.istore 10, nx, a, b, h)) (hc : v9.category ≠ 2 := by simp [Value.category, am_U]) (k : Go S d t (M, nx, v0 :: v1 :: v2 :: v3 :: v4 :: v5 :: v6 :: v7 :: v8 :: v9 :: .int x :: l, st) Q) : Go S d t (M, pc, v0 :: v1 :: v2 :: v3 :: v4 :: v5 :: v6 :: v7 :: v8 :: v9 :: w :: l, .int x :: st) Q := go_step (at_step hl (by simp [am_pure, am_stI, am_s1, hc])) k
theorem go_astore_10 {v0 v1 v2 v3 v4 v5 v6 v7 v8 v9 : Value} {u w : Value} {l : List Value} (hl : At t pc (.astore 10, nx, a, b, h)) (hw : am_isR u = true) (hc : v9.category ≠ 2 := by simp [Value.category, am_U]) (k : Go S d t (M, nx, v0 :: v1 :: v2 :: v3 :: v4 :: v5 :: v6 :: v7 :: v8 :: v9 :: u :: l, st) Q) : Go S d t (M, pc, v0 :: v1 :: v2 :: v3 :: v4 :: v5 :: v6 :: v7 :: v8 :: v9 :: w :: l, u :: st) Q := go_step (at_step hl (by simp [am_pure, am_stA, hw, am_s1, hc])) k
theorem go_lstore_10 {v0 v1 v2 v3 v4 v5 v6 v7 v8 v9 : Value} {x : Int64} {w w2 : Value} {l : List Value} (hl : At t pc (.lstore 10, nx, a, b, h)) (hc : v9.category ≠ 2 := by simp [Value.category, am_U]) (k : Go S d t (M, nx, v0 :: v1 :: v2 :: v3 :: v4 :: v5 :: v6 :: v7 :: v8 :: v9 :: .long x :: am_U :: l, st) Q) : Go S d t (M, pc, v0 :: v1 :: v2 :: v3 :: v4 :: v5 :: v6 :: v7 :: v8 :: v9 :: w :: w2 :: l, .long x :: st) Q := go_step (at_step hl (by simp [am_pure, am_stL, am_s2, am_s1, hc])) k
theorem go_iinc_10 {v0 v1 v2 v3 v4 v5 v6 v7 v8 v9 : Value} {x y : Int32} {n : Int} {l : List Value} (hl : At t pc (.iinc 10 n, nx, a, b, h)) (hy : x + Int32.ofInt n = y) (hc : v9.category ≠ 2 := by simp [Value.category, am_U]) (k : Go S d t (M, nx, v0 :: v1 :: v2 :: v3 :: v4 :: v5 :: v6 :: v7 :: v8 :: v9 :: .int y :: l, st) Q) : Go S d t (M, pc, v0 :: v1 :: v2 :: v3 :: v4 :: v5 :: v6 :: v7 :: v8 :: v9 :: .int x :: l, st) Q := go_step (at_step hl (by subst hy; show some _ = some _; simp [am_s1, hc])) k
theorem go_iload_11 {v0 v1 v2 v3 v4 v5 v6 v7 v8 v9 v10 : Value} {x : Int32} {l : List Value} (hl : At t pc (.iload 11, nx, a, b, h)) (k : Go S d t (M, nx, v0 :: v1 :: v2 :: v3 :: v4 :: v5 :: v6 :: v7 :: v8 :: v9 :: v10 :: .int x :: l, .int x :: st) Q) : Go S d t (M, pc, v0 :: v1 :: v2 :: v3 :: v4 :: v5 :: v6 :: v7 :: v8 :: v9 :: v10 :: .int x :: l, st) Q := go_step (at_step hl rfl) k
theorem go_lload_11 {v0 v1 v2 v3 v4 v5 v6 v7 v8 v9 v10 : Value} {x : Int64} {l : List Value} (hl : At t pc (.lload 11, nx, a, b, h)) (k : Go S d t (M, nx, v0 :: v1 :: v2 :: v3 :: v4 :: v5 :: v6 :: v7 :: v8 :: v9 :: v10 :: .long x :: l, .long x :: st) Q) : Go S d t (M, pc, v0 :: v1 :: v2 :: v3 :: v4 :: v5 :: v6 :: v7 :: v8 :: v9 :: v10 :: .long x :: l, st) Q := go_step (at_step hl rfl) k
theorem go_aload_11 {v0 v1 v2 v3 v4 v5 v6 v7 v8 v9 v10 : Value} {w : Value} {l : List Value} (hl : At t pc (.aload 11, nx, a, b, h)) (hw : am_isR w = true) (k : Go S d t (M, nx, v0 :: v1 :: v2 :: v3 :: v4 :: v5 :: v6 :: v7 :: v8 :: v9 :: v10 :: w :: l, w :: st) Q) : Go S d t (M, pc, v0 :: v1 :: v2 :: v3 :: v4 :: v5 :: v6 :: v7 :: v8 :: v9 :: v10 :: w :: l, st) Q := go_step (at_step hl (by show (if am_isR w = true then _ else _) = _; rw [if_pos hw])) k
theorem go_istore_11 {v0 v1 v2 v3 v4 v5 v6 v7 v8 v9 v10 : Value} {x : Int32} {w : Value} {l : List Value} (hl : At t pc (.istore 11, nx, a, b, h)) (hc : v10.category ≠ 2 := by simp [Value.category, am_U]) (k : Go S d t (M, nx, v0 :: v1 :: v2 :: v3 :: v4 :: v5 :: v6 :: v7 :: v8 :: v9 :: v10 :: .int x :: l, st) Q) : Go S d t (M, pc, v0 :: v1 :: v2 :: v3 :: v4 :: v5 :: v6 :: v7 :: v8 :: v9 :: v10 :: w :: l, .int x :: st) Q := go_step (at_step hl (by simp [am_pure, am_stI, am_s1, hc])) k
theorem go_astore_11 {v0 v1 v2 v3 v4 v5 v6 v7 v8 v9 v10 : Value} {u w : Value} {l : List Value} (hl : At t pc (.astore 11, nx, a, b, h)) (hw : am_isR u = true) (hc : v10.category ≠ 2 := by simp [Value.category, am_U]) (k : Go S d t (M, nx, v0 :: v1 :: v2 :: v3 :: v4 :: v5 :: v6 :: v7 :: v8 :: v9 :: v10 :: u :: l, st) Q) : Go S d t (M, pc, v0 :: v1 :: v2 :: v3 :: v4 :: v5 :: v6 :: v7 :: v8 :: v9 :: v10 :: w :: l, u :: st) Q := go_step (at_step hl (by simp [am_pure, am_stA, hw, am_s1, hc])) k
theorem go_lstore_11 {v0 v1 v2 v3 v4 v5 v6 v7 v8 v9 v10 : Value} {x : Int64} {w w2 : Value} {l : List Value} (hl : At t pc (.lstore 11, nx, a, b, h)) (hc : v10.category ≠ 2 := by simp [Value.category, am_U]) (k : Go S d t (M, nx, v0 :: v1 :: v2 :: v3 :: v4 :: v5 :: v6 :: v7 :: v8 :: v9 :: v10 :: .long x :: am_U :: l, st) Q) : Go S d t (M, pc, v0 :: v1 :: v2 :: v3 :: v4 :: v5 :: v6 :: v7 :: v8 :: v9 :: v10 :: w :: w2 :: l, .long x :: st) Q := go_step (at_step hl (by simp [am_pure, am_stL, am_s2, am_s1, hc])) k
theorem go_iinc_11 {v0 v1 v2 v3 v4 v5 v6 v7 v8 v9 v10 : Value} {x y : Int32} {n : Int} {l : List Value} (hl : At t pc (.iinc 11 n, nx, a, b, h)) (hy : x + Int32.ofInt n = y) (hc : v10.category ≠ 2 := by simp [Value.category, am_U]) (k : Go S d t (M, nx, v0 :: v1 :: v2 :: v3 :: v4 :: v5 :: v6 :: v7 :: v8 :: v9 :: v10 :: .int y :: l, st) Q) : Go S d t (M, pc, v0 :: v1 :: v2 :: v3 :: v4 :: v5 :: v6 :: v7 :: v8 :: v9 :: v10 :: .int x :: l, st) Q := go_step (at_step hl (by subst hy; show some _ = some _; simp [am_s1, hc])) k
theorem go_iload_12 {v0 v1 v2 v3 v4 v5 v6 v7 v8 v9 v10 v11 : Value} {x : Int32} {l : List Value} (hl : At t pc (.iload 12, nx, a, b, h)) (k : Go S d t (M, nx, v0 :: v1 :: v2 :: v3 :: v4 :: v5 :: v6 :: v7 :: v8 :: v9 :: v10 :: v11 :: .int x :: l, .int x :: st) Q) : Go S d t (M, pc, v0 :: v1 :: v2 :: v3 :: v4 :: v5 :: v6 :: v7 :: v8 :: v9 :: v10 :: v11 :: .int x :: l, st) Q := go_step (at_step hl rfl) k
theorem go_lload_12 {v0 v1 v2 v3 v4 v5 v6 v7 v8 v9 v10 v11 : Value} {x : Int64} {l : List Value} (hl : At t pc (.lload 12, nx, a, b, h)) (k : Go S d t (M, nx, v0 :: v1 :: v2 :: v3 :: v4 :: v5 :: v6 :: v7 :: v8 :: v9 :: v10 :: v11 :: .long x :: l, .long x :: st) Q) : Go S d t (M, pc, v0 :: v1 :: v2 :: v3 :: v4 :: v5 :: v6 :: v7 :: v8 :: v9 :: v10 :: v11 :: .long x :: l, st) Q := go_step (at_step hl rfl) k
theorem go_aload_12 {v0 v1 v2 v3 v4 v5 v6 v7 v8 v9 v10 v11 : Value} {w : Value} {l : List Value} (hl : At t pc (.aload 12, nx, a, b, h)) (hw : am_isR w = true) (k : Go S d t (M, nx, v0 :: v1 :: v2 :: v3 :: v4 :: v5 :: v6 :: v7 :: v8 :: v9 :: v10 :: v11 :: w :: l, w :: st) Q) : Go S d t (M, pc, v0 :: v1 :: v2 :: v3 :: v4 :: v5 :: v6 :: v7 :: v8 :: v9 :: v10 :: v11 :: w :: l, st) Q := go_step (at_step hl (by show (if am_isR w = true then _ else _) = _; rw [if_pos hw])) k
theorem go_istore_12 {v0 v1 v2 v3 v4 v5 v6 v7 v8 v9 v10 v11 : Value} {x : Int32} {w : Value} {l : List Value} (hl : At t pc (.istore 12, nx, a, b, h)) (hc : v11.category ≠ 2 := by simp [Value.category, am_U]) (k : Go S d t (M, nx, v0 :: v1 :: v2 :: v3 :: v4 :: v5 :: v6 :: v7 :: v8 :: v9 :: v10 :: v11 :: .int x :: l, st) Q) : Go S d t (M, pc, v0 :: v1 :: v2 :: v3 :: v4 :: v5 :: v6 :: v7 :: v8 :: v9 :: v10 :: v11 :: w :: l, .int x :: st) Q := go_step (at_step hl (by simp [am_pure, am_stI, am_s1, hc])) k
theorem go_astore_12 {v0 v1 v2 v3 v4 v5 v6 v7 v8 v9 v10 v11 : Value} {u w : Value} {l : List Value} (hl : At t pc (.astore 12, nx, a, b, h)) (hw : am_isR u = true) (hc : v11.category ≠ 2 := by simp [Value.category, am_U]) (k : Go S d t (M, nx, v0 :: v1 :: v2 :: v3 :: v4 :: v5 :: v6 :: v7 :: v8 :: v9 :: v10 :: v11 :: u :: l, st) Q) : Go S d t (M, pc, v0 :: v1 :: v2 :: v3 :: v4 :: v5 :: v6 :: v7 :: v8 :: v9 :: v10 :: v11 :: w :: l, u :: st) Q := go_step (at_step hl (by simp [am_pure, am_stA, hw, am_s1, hc])) k
theorem go_lstore_12 {v0 v1 v2 v3 v4 v5 v6 v7 v8 v9 v10 v11 : Value} {x : Int64} {w w2 : Value} {l : List Value} (hl : At t pc (.lstore 12, nx, a, b, h)) (hc : v11.category ≠ 2 := by simp [Value.category, am_U]) (k : Go S d t (M, nx, v0 :: v1 :: v2 :: v3 :: v4 :: v5 :: v6 :: v7 :: v8 :: v9 :: v10 :: v11 :: .long x :: am_U :: l, st) Q) : Go S d t (M, pc, v0 :: v1 :: v2 :: v3 :: v4 :: v5 :: v6 :: v7 :: v8 :: v9 :: v10 :: v11 :: w :: w2 :: l, .long x :: st) Q := go_step (at_step hl (by simp [am_pure, am_stL, am_s2, am_s1, hc])) k
theorem go_iinc_12 {v0 v1 v2 v3 v4 v5 v6 v7 v8 v9 v10 v11 : Value} {x y : Int32} {n : Int} {l : List Value} (hl : At t pc (.iinc 12 n, nx, a, b, h)) (hy : x + Int32.ofInt n = y) (hc : v11.category ≠ 2 := by simp [Value.category, am_U]) (k : Go S d t (M, nx, v0 :: v1 :: v2 :: v3 :: v4 :: v5 :: v6 :: v7 :: v8 :: v9 :: v10 :: v11 :: .int y :: l, st) Q) : Go S d t (M, pc, v0 :: v1 :: v2 :: v3 :: v4 :: v5 :: v6 :: v7 :: v8 :: v9 :: v10 :: v11 :: .int x :: l, st) Q := go_step (at_step hl (by subst hy; show some _ = some _; simp [am_s1, hc])) k
theorem go_iload_13 {v0 v1 v2 v3 v4 v5 v6 v7 v8 v9 v10 v11 v12 : Value} {x : Int32} {l : List Value} (hl : At t pc (.iload 13, nx, a, b, h)) (k : Go S d t (M, nx, v0 :: v1 :: v2 :: v3 :: v4 :: v5 :: v6 :: v7 :: v8 :: v9 :: v10 :: v11 :: v12 :: .int x :: l, .int x :: st) Q) : Go S d t (M, pc, v0 :: v1 :: v2 :: v3 :: v4 :: v5 :: v6 :: v7 :: v8 :: v9 :: v10 :: v11 :: v12 :: .int x :: l, st) Q := go_step (at_step hl rfl) k
theorem go_lload_13 {v0 v1 v2 v3 v4 v5 v6 v7 v8 v9 v10 v11 v12 : Value} {x : Int64} {l : List Value} (hl : At t pc (.lload 13, nx, a, b, h)) (k : Go S d t (M, nx, v0 :: v1 :: v2 :: v3 :: v4 :: v5 :: v6 :: v7 :: v8 :: v9 :: v10 :: v11 :: v12 :: .long x :: l, .long x :: st) Q) : Go S d t (M, pc, v0 :: v1 :: v2 :: v3 :: v4 :: v5 :: v6 :: v7 :: v8 :: v9 :: v10 :: v11 :: v12 :: .long x :: l, st) Q := go_step (at_step hl rfl) k
theorem go_aload_13 {v0 v1 v2 v3 v4 v5 v6 v7 v8 v9 v10 v11 v12 : Value} {w : Value} {l : List Value} (hl : At t pc (.aload 13, nx, a, b, h)) (hw : am_isR w = true) (k : Go S d t (M, nx, v0 :: v1 :: v2 :: v3 :: v4 :: v5 :: v6 :: v7 :: v8 :: v9 :: v10 :: v11 :: v12 :: w :: l, w :: st) Q) : Go S d t (M, pc, v0 :: v1 :: v2 :: v3 :: v4 :: v5 :: v6 :: v7 :: v8 :: v9 :: v10 :: v11 :: v12 :: w :: l, st) Q := go_step (at_step hl (by show (if am_isR w = true then _ else _) = _; rw [if_pos hw])) k
theorem go_istore_13 {v0 v1 v2 v3 v4 v5 v6 v7 v8 v9 v10 v11 v12 : Value} {x : Int32} {w : Value} {l : List Value} (hl : At t pc (.istore 13, nx, a, b, h)) (hc : v12.category ≠ 2 := by simp [Value.category, am_U]) (k : Go S d t (M, nx, v0 :: v1 :: v2 :: v3 :: v4 :: v5 :: v6 :: v7 :: v8 :: v9 :: v10 :: v11 :: v12 :: .int x :: l, st) Q) : Go S d t (M, pc, v0 :: v1 :: v2 :: v3 :: v4 :: v5 :: v6 :: v7 :: v8 :: v9 :: v10 :: v11 :: v12 :: w :: l, .int x :: st) Q := go_step (at_step hl (by simp [am_pure, am_stI, am_s1, hc])) k
theorem go_astore_13 {v0 v1 v2 v3 v4 v5 v6 v7 v8 v9 v10 v11 v12 : Value} {u w : Value} {l : List Value} (hl : At t pc (.astore 13, nx, a, b, h)) (hw : am_isR u = true) (hc : v12.category ≠ 2 := by simp [Value.category, am_U]) (k : Go S d t (M, nx, v0 :: v1 :: v2 :: v3 :: v4 :: v5 :: v6 :: v7 :: v8 :: v9 :: v10 :: v11 :: v12 :: u :: l, st) Q) : Go S d t (M, pc, v0 :: v1 :: v2 :: v3 :: v4 :: v5 :: v6 :: v7 :: v8 :: v9 :: v10 :: v11 :: v12 :: w :: l, u :: st) Q := go_step (at_step hl (by simp [am_pure, am_stA, hw, am_s1, hc])) k
theorem go_lstore_13 {v0 v1 v2 v3 v4 v5 v6 v7 v8 v9 v10 v11 v12 : Value} {x : Int64} {w w2 : Value} {l : List Value} (hl : At t pc (.lstore 13, nx, a, b, h)) (hc : v12.category ≠ 2 := by simp [Value.category, am_U]) (k : Go S d t (M, nx, v0 :: v1 :: v2 :: v3 :: v4 :: v5 :: v6 :: v7 :: v8 :: v9 :: v10 :: v11 :: v12 :: .long x :: am_U :: l, st) Q) : Go S d t (M, pc, v0 :: v1 :: v2 :: v3 :: v4 :: v5 :: v6 :: v7 :: v8 :: v9 :: v10 :: v11 :: v12 :: w :: w2 :: l, .long x :: st) Q := go_step (at_step hl (by simp [am_pure, am_stL, am_s2, am_s1, hc])) k
theorem go_iinc_13 {v0 v1 v2 v3 v4 v5 v6 v7 v8 v9 v10 v11 v12 : Value} {x y : Int32} {n : Int} {l : List Value} (hl : At t pc (.iinc 13 n, nx, a, b, h)) (hy : x + Int32.ofInt n = y) (hc : v12.category ≠ 2 := by simp [Value.category, am_U]) (k : Go S d t (M, nx, v0 :: v1 :: v2 :: v3 :: v4 :: v5 :: v6 :: v7 :: v8 :: v9 :: v10 :: v11 :: v12 :: .int y :: l, st) Q) : Go S d t (M, pc, v0 :: v1 :: v2 :: v3 :: v4 :: v5 :: v6 :: v7 :: v8 :: v9 :: v10 :: v11 :: v12 :: .int x :: l, st) Q := go_step (at_step hl (by subst hy; show some _ = some _; simp [am_s1, hc])) k
theorem go_iload_14 {v0 v1 v2 v3 v4 v5 v6 v7 v8 v9 v10 v11 v12 v13 : Value} {x : Int32} {l : List Value} (hl : At t pc (.iload 14, nx, a, b, h)) (k : Go S d t (M, nx, v0 :: v1 :: v2 :: v3 :: v4 :: v5 :: v6 :: v7 :: v8 :: v9 :: v10 :: v11 :: v12 :: v13 :: .int x :: l, .int x :: st) Q) : Go S d t (M, pc, v0 :: v1 :: v2 :: v3 :: v4 :: v5 :: v6 :: v7 :: v8 :: v9 :: v10 :: v11 :: v12 :: v13 :: .int x :: l, st) Q := go_step (at_step hl rfl) k
theorem go_lload_14 {v0 v1 v2 v3 v4 v5 v6 v7 v8 v9 v10 v11 v12 v13 : Value} {x : Int64} {l : List Value} (hl : At t pc (.lload 14, nx, a, b, h)) (k : Go S d t (M, nx, v0 :: v1 :: v2 :: v3 :: v4 :: v5 :: v6 :: v7 :: v8 :: v9 :: v10 :: v11 :: v12 :: v13 :: .long x :: l, .long x :: st) Q) : Go S d t (M, pc, v0 :: v1 :: v2 :: v3 :: v4 :: v5 :: v6 :: v7 :: v8 :: v9 :: v10 :: v11 :: v12 :: v13 :: .long x :: l, st) Q := go_step (at_step hl rfl) k
theorem go_aload_14 {v0 v1 v2 v3 v4 v5 v6 v7 v8 v9 v10 v11 v12 v13 : Value} {w : Value} {l : List Value} (hl : At t pc (.aload 14, nx, a, b, h)) (hw : am_isR w = true) (k : Go S d t (M, nx, v0 :: v1 :: v2 :: v3 :: v4 :: v5 :: v6 :: v7 :: v8 :: v9 :: v10 :: v11 :: v12 :: v13 :: w :: l, w :: st) Q) : Go S d t (M, pc, v0 :: v1 :: v2 :: v3 :: v4 :: v5 :: v6 :: v7 :: v8 :: v9 :: v10 :: v11 :: v12 :: v13 :: w :: l, st) Q := go_step (at_step hl (by show (if am_isR w = true then _ else _) = _; rw [if_pos hw])) k
theorem go_istore_14 {v0 v1 v2 v3 v4 v5 v6 v7 v8 v9 v10 v11 v12 v13 : Value} {x : Int32} {w : Value} {l : List Value} (hl : At t pc (.istore 14, nx, a, b, h)) (hc : v13.category ≠ 2 := by simp [Value.category, am_U]) (k : Go S d t (M, nx, v0 :: v1 :: v2 :: v3 :: v4 :: v5 :: v6 :: v7 :: v8 :: v9 :: v10 :: v11 :: v12 :: v13 :: .int x :: l, st) Q) : Go S d t (M, pc, v0 :: v1 :: v2 :: v3 :: v4 :: v5 :: v6 :: v7 :: v8 :: v9 :: v10 :: v11 :: v12 :: v13 :: w :: l, .int x :: st) Q := go_step (at_step hl (by simp [am_pure, am_stI, am_s1, hc])) k
theorem go_astore_14 {v0 v1 v2 v3 v4 v5 v6 v7 v8 v9 v10 v11 v12 v13 : Value} {u w : Value} {l : List Value} (hl : At t pc (.astore 14, nx, a, b, h)) (hw : am_isR u = true) (hc : v13.category ≠ 2 := by simp [Value.category, am_U]) (k : Go S d t (M, nx, v0 :: v1 :: v2 :: v3 :: v4 :: v5 :: v6 :: v7 :: v8 :: v9 :: v10 :: v11 :: v12 :: v13 :: u :: l, st) Q) : Go S d t (M, pc, v0 :: v1 :: v2 :: v3 :: v4 :: v5 :: v6 :: v7 :: v8 :: v9 :: v10 :: v11 :: v12 :: v13 :: w :: l, u :: st) Q := go_step (at_step hl (by simp [am_pure, am_stA, hw, am_s1, hc])) k
theorem go_lstore_14 {v0 v1 v2 v3 v4 v5 v6 v7 v8 v9 v10 v11 v12 v13 : Value} {x : Int64} {w w2 : Value} {l : List Value} (hl : At t pc (.lstore 14, nx, a, b, h)) (hc : v13.category ≠ 2 := by simp [Value.category, am_U]) (k : Go S d t (M, nx, v0 :: v1 :: v2 :: v3 :: v4 :: v5 :: v6 :: v7 :: v8 :: v9 :: v10 :: v11 :: v12 :: v13 :: .long x :: am_U :: l, st) Q) : Go S d t (M, pc, v0 :: v1 :: v2 :: v3 :: v4 :: v5 :: v6 :: v7 :: v8 :: v9 :: v10 :: v11 :: v12 :: v13 :: w :: w2 :: l, .long x :: st) Q := go_step (at_step hl (by simp [am_pure, am_stL, am_s2, am_s1, hc])) k
theorem go_iinc_14 {v0 v1 v2 v3 v4 v5 v6 v7 v8 v9 v10 v11 v12 v13 : Value} {x y : Int32} {n : Int} {l : List Value} (hl : At t pc (.iinc 14 n, nx, a, b, h)) (hy : x + Int32.ofInt n = y) (hc : v13.category ≠ 2 := by simp [Value.category, am_U]) (k : Go S d t (M, nx, v0 :: v1 :: v2 :: v3 :: v4 :: v5 :: v6 :: v7 :: v8 :: v9 :: v10 :: v11 :: v12 :: v13 :: .int y :: l, st) Q) : Go S d t (M, pc, v0 :: v1 :: v2 :: v3 :: v4 :: v5 :: v6 :: v7 :: v8 :: v9 :: v10 :: v11 :: v12 :: v13 :: .int x :: l, st) Q := go_step (at_step hl (by subst hy; show some _ = some _; simp [am_s1, hc])) k
theorem go_iload_15 {v0 v1 v2 v3 v4 v5 v6 v7 v8 v9 v10 v11 v12 v13 v14 : Value} {x : Int32} {l : List Value} (hl : At t pc (.iload 15, nx, a, b, h)) (k : Go S d t (M, nx, v0 :: v1 :: v2 :: v3 :: v4 :: v5 :: v6 :: v7 :: v8 :: v9 :: v10 :: v11 :: v12 :: v13 :: v14 :: .int x :: l, .int x :: st) Q) : Go S d t (M, pc, v0 :: v1 :: v2 :: v3 :: v4 :: v5 :: v6 :: v7 :: v8 :: v9 :: v10 :: v11 :: v12 :: v13 :: v14 :: .int x :: l, st) Q := go_step (at_step hl rfl) k
theorem go_lload_15 {v0 v1 v2 v3 v4 v5 v6 v7 v8 v9 v10 v11 v12 v13 v14 : Value} {x : Int64} {l : List Value} (hl : At t pc (.lload 15, nx, a, b, h)) (k : Go S d t (M, nx, v0 :: v1 :: v2 :: v3 :: v4 :: v5 :: v6 :: v7 :: v8 :: v9 :: v10 :: v11 :: v12 :: v13 :: v14 :: .long x :: l, .long x :: st) Q) : Go S d t (M, pc, v0 :: v1 :: v2 :: v3 :: v4 :: v5 :: v6 :: v7 :: v8 :: v9 :: v10 :: v11 :: v12 :: v13 :: v14 :: .long x :: l, st) Q := go_step (at_step hl rfl) k
theorem go_aload_15 {v0 v1 v2 v3 v4 v5 v6 v7 v8 v9 v10 v11 v12 v13 v14 : Value} {w : Value} {l : List Value} (hl : At t pc (.aload 15, nx, a, b, h)) (hw : am_isR w = true) (k : Go S d t (M, nx, v0 :: v1 :: v2 :: v3 :: v4 :: v5 :: v6 :: v7 :: v8 :: v9 :: v10 :: v11 :: v12 :: v13 :: v14 :: w :: l, w :: st) Q) : Go S d t (M, pc, v0 :: v1 :: v2 :: v3 :: v4 :: v5 :: v6 :: v7 :: v8 :: v9 :: v10 :: v11 :: v12 :: v13 :: v14 :: w :: l, st) Q := go_step (at_step hl (by show (if am_isR w = true then _ else _) = _; rw [if_pos hw])) k
theorem go_istore_15 {v0 v1 v2 v3 v4 v5 v6 v7 v8 v9 v10 v11 v12 v13 v14 : Value} {x : Int32} {w : Value} {l : List Value} (hl : At t pc (.istore 15, nx, a, b, h)) (hc : v14.category ≠ 2 := by simp [Value.category, am_U]) (k : Go S d t (M, nx, v0 :: v1 :: v2 :: v3 :: v4 :: v5 :: v6 :: v7 :: v8 :: v9 :: v10 :: v11 :: v12 :: v13 :: v14 :: .int x :: l, st) Q) : Go S d t (M, pc, v0 :: v1 :: v2 :: v3 :: v4 :: v5 :: v6 :: v7 :: v8 :: v9 :: v10 :: v11 :: v12 :: v13 :: v14 :: w :: l, .int x :: st) Q := go_step (at_step hl (by simp [am_pure, am_stI, am_s1, hc])) k
theorem go_astore_15 {v0 v1 v2 v3 v4 v5 v6 v7 v8 v9 v10 v11 v12 v13 v14 : Value} {u w : Value} {l : List Value} (hl : At t pc (.astore 15, nx, a, b, h)) (hw : am_isR u = true) (hc : v14.category ≠ 2 := by simp [Value.category, am_U]) (k : Go S d t (M, nx, v0 :: v1 :: v2 :: v3 :: v4 :: v5 :: v6 :: v7 :: v8 :: v9 :: v10 :: v11 :: v12 :: v13 :: v14 :: u :: l, st) Q) : Go S d t (M, pc, v0 :: v1 :: v2 :: v3 :: v4 :: v5 :: v6 :: v7 :: v8 :: v9 :: v10 :: v11 :: v12 :: v13 :: v14 :: w :: l, u :: st) Q := go_step (at_step hl (by simp [am_pure, am_stA, hw, am_s1, hc])) k
theorem go_lstore_15 {v0 v1 v2 v3 v4 v5 v6 v7 v8 v9 v10 v11 v12 v13 v14 : Value} {x : Int64} {w w2 : Value} {l : List Value} (hl : At t pc (.lstore 15, nx, a, b, h)) (hc : v14.category ≠ 2 := by simp [Value.category, am_U]) (k : Go S d t (M, nx, v0 :: v1 :: v2 :: v3 :: v4 :: v5 :: v6 :: v7 :: v8 :: v9 :: v10 :: v11 :: v12 :: v13 :: v14 :: .long x :: am_U :: l, st) Q) : Go S d t (M, pc, v0 :: v1 :: v2 :: v3 :: v4 :: v5 :: v6 :: v7 :: v8 :: v9 :: v10 :: v11 :: v12 :: v13 :: v14 :: w :: w2 :: l, .long x :: st) Q := go_step (at_step hl (by simp [am_pure, am_stL, am_s2, am_s1, hc])) k
theorem go_iinc_15 {v0 v1 v2 v3 v4 v5 v6 v7 v8 v9 v10 v11 v12 v13 v14 : Value} {x y : Int32} {n : Int} {l : List Value} (hl : At t pc (.iinc 15 n, nx, a, b, h)) (hy : x + Int32.ofInt n = y) (hc : v14.category ≠ 2 := by simp [Value.category, am_U]) (k : Go S d t (M, nx, v0 :: v1 :: v2 :: v3 :: v4 :: v5 :: v6 :: v7 :: v8 :: v9 :: v10 :: v11 :: v12 :: v13 :: v14 :: .int y :: l, st) Q) : Go S d t (M, pc, v0 :: v1 :: v2 :: v3 :: v4 :: v5 :: v6 :: v7 :: v8 :: v9 :: v10 :: v11 :: v12 :: v13 :: v14 :: .int x :: l, st) Q := go_step (at_step hl (by subst hy; show some _ = some _; simp [am_s1, hc])) k
theorem go_iadd {x y : Int32} (hl : At t pc (.iadd, nx, a, b, h)) (k : Go S d t (M, nx, la, .int (x + y) :: st) Q) : Go S d t (M, pc, la, .int y :: .int x :: st) Q := go_step (at_step hl (rfl)) k
theorem go_isub {x y : Int32} (hl : At t pc (.isub, nx, a, b, h)) (k : Go S d t (M, nx, la, .int (x - y) :: st) Q) : Go S d t (M, pc, la, .int y :: .int x :: st) Q := go_step (at_step hl (rfl)) k
theorem go_imul {x y : Int32} (hl : At t pc (.imul, nx, a, b, h)) (k : Go S d t (M, nx, la, .int (x * y) :: st) Q) : Go S d t (M, pc, la, .int y :: .int x :: st) Q := go_step (at_step hl (rfl)) k
theorem go_iand {x y : Int32} (hl : At t pc (.iand, nx, a, b, h)) (k : Go S d t (M, nx, la, .int (x &&& y) :: st) Q) : Go S d t (M, pc, la, .int y :: .int x :: st) Q := go_step (at_step hl (rfl)) k
theorem go_ior {x y : Int32} (hl : At t pc (.ior, nx, a, b, h)) (k : Go S d t (M, nx, la, .int (x ||| y) :: st) Q) : Go S d t (M, pc, la, .int y :: .int x :: st) Q := go_step (at_step hl (rfl)) k
theorem go_ixor {x y : Int32} (hl : At t pc (.ixor, nx, a, b, h)) (k : Go S d t (M, nx, la, .int (x ^^^ y) :: st) Q) : Go S d t (M, pc, la, .int y :: .int x :: st) Q := go_step (at_step hl (rfl)) k
theorem go_ishl {x y : Int32} (hl : At t pc (.ishl, nx, a, b, h)) (k : Go S d t (M, nx, la, .int (x <<< (y &&& 31)) :: st) Q) : Go S d t (M, pc, la, .int y :: .int x :: st) Q := go_step (at_step hl (rfl)) k
theorem go_ishr {x y : Int32} (hl : At t pc (.ishr, nx, a, b, h)) (k : Go S d t (M, nx, la, .int (x >>> (y &&& 31)) :: st) Q) : Go S d t (M, pc, la, .int y :: .int x :: st) Q := go_step (at_step hl (rfl)) k
theorem go_idiv {x y : Int32} (hl : At t pc (.idiv, nx, a, b, h)) (hy : ¬ y = 0) (k : Go S d t (M, nx, la, .int (x / y) :: st) Q) : Go S d t (M, pc, la, .int y :: .int x :: st) Q := go_step (at_step hl (by show (if y = 0 then _ else _) = _; rw [if_neg hy])) k
theorem go_irem {x y : Int32} (hl : At t pc (.irem, nx, a, b, h)) (hy : ¬ y = 0) (k : Go S d t (M, nx, la, .int (x - x / y * y) :: st) Q) : Go S d t (M, pc, la, .int y :: .int x :: st) Q := go_step (at_step hl (by show (if y = 0 then _ else _) = _; rw [if_neg hy])) k
theorem go_ladd {x y : Int64} (hl : At t pc (.ladd, nx, a, b, h)) (k : Go S d t (M, nx, la, .long (x + y) :: st) Q) : Go S d t (M, pc, la, .long y :: .long x :: st) Q := go_step (at_step hl (rfl)) k
theorem go_lsub {x y : Int64} (hl : At t pc (.lsub, nx, a, b, h)) (k : Go S d t (M, nx, la, .long (x - y) :: st) Q) : Go S d t (M, pc, la, .long y :: .long x :: st) Q := go_step (at_step hl (rfl)) k
theorem go_lmul {x y : Int64} (hl : At t pc (.lmul, nx, a, b, h)) (k : Go S d t (M, nx, la, .long (x * y) :: st) Q) : Go S d t (M, pc, la, .long y :: .long x :: st) Q := go_step (at_step hl (rfl)) k
theorem go_lxor {x y : Int64} (hl : At t pc (.lxor, nx, a, b, h)) (k : Go S d t (M, nx, la, .long (x ^^^ y) :: st) Q) : Go S d t (M, pc, la, .long y :: .long x :: st) Q := go_step (at_step hl (rfl)) k
theorem go_ldiv {x y : Int64} (hl : At t pc (.ldiv, nx, a, b, h)) (hy : ¬ y = 0) (k : Go S d t (M, nx, la, .long (x / y) :: st) Q) : Go S d t (M, pc, la, .long y :: .long x :: st) Q := go_step (at_step hl (by show (if y = 0 then _ else _) = _; rw [if_neg hy])) k
theorem go_lrem {x y : Int64} (hl : At t pc (.lrem, nx, a, b, h)) (hy : ¬ y = 0) (k : Go S d t (M, nx, la, .long (x - x / y * y) :: st) Q) : Go S d t (M, pc, la, .long y :: .long x :: st) Q := go_step (at_step hl (by show (if y = 0 then _ else _) = _; rw [if_neg hy])) k
theorem go_lneg {x : Int64} (hl : At t pc (.lneg, nx, a, b, h)) (k : Go S d t (M, nx, la, .long (-x) :: st) Q) : Go S d t (M, pc, la, .long x :: st) Q := go_step (at_step hl (rfl)) k
theorem go_i2l {x : Int32} (hl : At t pc (.i2l, nx, a, b, h)) (k : Go S d t (M, nx, la, .long x.toInt64 :: st) Q) : Go S d t (M, pc, la, .int x :: st) Q := go_step (at_step hl (rfl)) k
theorem go_lcmp {x y : Int64} (hl : At t pc (.lcmp, nx, a, b, h)) (k : Go S d t (M, nx, la, .int (lg_cmp x y) :: st) Q) : Go S d t (M, pc, la, .long y :: .long x :: st) Q := go_step (at_step hl (rfl)) k
theorem go_dup {w : Value} (hl : At t pc (.dup, nx, a, b, h)) (hw : w.category = 1) (k : Go S d t (M, nx, la, w :: w :: st) Q) : Go S d t (M, pc, la, w :: st) Q := go_step (at_step hl (by show (if w.category = 1 then _ else _) = _; rw [if_pos hw])) k
theorem go_dup2 {w u : Value} (hl : At t pc (.dup2, nx, a, b, h)) (hw : w.category = 1 ∧ u.category = 1) (k : Go S d t (M, nx, la, w :: u :: w :: u :: st) Q) : Go S d t (M, pc, la, w :: u :: st) Q := go_step (at_step hl (by show (if w.category = 1 ∧ u.category = 1 then _ else _) = _; rw [if_pos hw])) k
theorem go_goto {z : Int} (hl : At t pc (.goto z, nx, a, b, h)) (k : Go S d t (M, a, la, st) Q) : Go S d t (M, pc, la, st) Q := go_step (at_step hl (rfl)) k
theorem go_if_eq {x : Int32} {z : Int} (hl : At t pc (.ifCond .eq z, nx, a, b, h)) (kt : x = 0 → Go S d t (M, a, la, st) Q) (kf : ¬ (x = 0) → Go S d t (M, nx, la, st) Q) : Go S d t (M, pc, la, .int x :: st) Q := by
  by_cases hc : x = 0
  · exact go_step (at_step hl (q := (a, la, st)) (by show some (if am_c0 .eq x = true then a else nx, la, st) = _; rw [if_pos (show am_c0 .eq x = true from decide_eq_true hc)])) (kt hc)
  · exact go_step (at_step hl (q := (nx, la, st)) (by show some (if am_c0 .eq x = true then a else nx, la, st) = _; rw [if_neg (show ¬ am_c0 .eq x = true from fun hq => hc (of_decide_eq_true hq))])) (kf hc)
theorem go_if_ne {x : Int32} {z : Int} (hl : At t pc (.ifCond .ne z, nx, a, b, h)) (kt : ¬ x = 0 → Go S d t (M, a, la, st) Q) (kf : ¬ (¬ x = 0) → Go S d t (M, nx, la, st) Q) : Go S d t (M, pc, la, .int x :: st) Q := by
  by_cases hc : ¬ x = 0
  · exact go_step (at_step hl (q := (a, la, st)) (by show some (if am_c0 .ne x = true then a else nx, la, st) = _; rw [if_pos (show am_c0 .ne x = true from decide_eq_true hc)])) (kt hc)
  · exact go_step (at_step hl (q := (nx, la, st)) (by show some (if am_c0 .ne x = true then a else nx, la, st) = _; rw [if_neg (show ¬ am_c0 .ne x = true from fun hq => hc (of_decide_eq_true hq))])) (kf hc)
theorem go_if_lt {x : Int32} {z : Int} (hl : At t pc (.ifCond .lt z, nx, a, b, h)) (kt : x < 0 → Go S d t (M, a, la, st) Q) (kf : ¬ (x < 0) → Go S d t (M, nx, la, st) Q) : Go S d t (M, pc, la, .int x :: st) Q := by
  by_cases hc : x < 0
  · exact go_step (at_step hl (q := (a, la, st)) (by show some (if am_c0 .lt x = true then a else nx, la, st) = _; rw [if_pos (show am_c0 .lt x = true from decide_eq_true hc)])) (kt hc)
  · exact go_step (at_step hl (q := (nx, la, st)) (by show some (if am_c0 .lt x = true then a else nx, la, st) = _; rw [if_neg (show ¬ am_c0 .lt x = true from fun hq => hc (of_decide_eq_true hq))])) (kf hc)
theorem go_if_ge {x : Int32} {z : Int} (hl : At t pc (.ifCond .ge z, nx, a, b, h)) (kt : 0 ≤ x → Go S d t (M, a, la, st) Q) (kf : ¬ (0 ≤ x) → Go S d t (M, nx, la, st) Q) : Go S d t (M, pc, la, .int x :: st) Q := by
  by_cases hc : 0 ≤ x
  · exact go_step (at_step hl (q := (a, la, st)) (by show some (if am_c0 .ge x = true then a else nx, la, st) = _; rw [if_pos (show am_c0 .ge x = true from decide_eq_true hc)])) (kt hc)
  · exact go_step (at_step hl (q := (nx, la, st)) (by show some (if am_c0 .ge x = true then a else nx, la, st) = _; rw [if_neg (show ¬ am_c0 .ge x = true from fun hq => hc (of_decide_eq_true hq))])) (kf hc)
theorem go_if_gt {x : Int32} {z : Int} (hl : At t pc (.ifCond .gt z, nx, a, b, h)) (kt : 0 < x → Go S d t (M, a, la, st) Q) (kf : ¬ (0 < x) → Go S d t (M, nx, la, st) Q) : Go S d t (M, pc, la, .int x :: st) Q := by
  by_cases hc : 0 < x
  · exact go_step (at_step hl (q := (a, la, st)) (by show some (if am_c0 .gt x = true then a else nx, la, st) = _; rw [if_pos (show am_c0 .gt x = true from decide_eq_true hc)])) (kt hc)
  · exact go_step (at_step hl (q := (nx, la, st)) (by show some (if am_c0 .gt x = true then a else nx, la, st) = _; rw [if_neg (show ¬ am_c0 .gt x = true from fun hq => hc (of_decide_eq_true hq))])) (kf hc)
theorem go_if_le {x : Int32} {z : Int} (hl : At t pc (.ifCond .le z, nx, a, b, h)) (kt : x ≤ 0 → Go S d t (M, a, la, st) Q) (kf : ¬ (x ≤ 0) → Go S d t (M, nx, la, st) Q) : Go S d t (M, pc, la, .int x :: st) Q := by
  by_cases hc : x ≤ 0
  · exact go_step (at_step hl (q := (a, la, st)) (by show some (if am_c0 .le x = true then a else nx, la, st) = _; rw [if_pos (show am_c0 .le x = true from decide_eq_true hc)])) (kt hc)
  · exact go_step (at_step hl (q := (nx, la, st)) (by show some (if am_c0 .le x = true then a else nx, la, st) = _; rw [if_neg (show ¬ am_c0 .le x = true from fun hq => hc (of_decide_eq_true hq))])) (kf hc)
theorem go_ic_eq {x y : Int32} {z : Int} (hl : At t pc (.if_icmp .eq z, nx, a, b, h)) (kt : x = y → Go S d t (M, a, la, st) Q) (kf : ¬ (x = y) → Go S d t (M, nx, la, st) Q) : Go S d t (M, pc, la, .int y :: .int x :: st) Q := by
  by_cases hc : x = y
  · exact go_step (at_step hl (q := (a, la, st)) (by show some (if am_c2 .eq x y = true then a else nx, la, st) = _; rw [if_pos (show am_c2 .eq x y = true from decide_eq_true hc)])) (kt hc)
  · exact go_step (at_step hl (q := (nx, la, st)) (by show some (if am_c2 .eq x y = true then a else nx, la, st) = _; rw [if_neg (show ¬ am_c2 .eq x y = true from fun hq => hc (of_decide_eq_true hq))])) (kf hc)
theorem go_ic_ne {x y : Int32} {z : Int} (hl : At t pc (.if_icmp .ne z, nx, a, b, h)) (kt : ¬ x = y → Go S d t (M, a, la, st) Q) (kf : ¬ (¬ x = y) → Go S d t (M, nx, la, st) Q) : Go S d t (M, pc, la, .int y :: .int x :: st) Q := by
  by_cases hc : ¬ x = y
  · exact go_step (at_step hl (q := (a, la, st)) (by show some (if am_c2 .ne x y = true then a else nx, la, st) = _; rw [if_pos (show am_c2 .ne x y = true from decide_eq_true hc)])) (kt hc)
  · exact go_step (at_step hl (q := (nx, la, st)) (by show some (if am_c2 .ne x y = true then a else nx, la, st) = _; rw [if_neg (show ¬ am_c2 .ne x y = true from fun hq => hc (of_decide_eq_true hq))])) (kf hc)
theorem go_ic_lt {x y : Int32} {z : Int} (hl : At t pc (.if_icmp .lt z, nx, a, b, h)) (kt : x < y → Go S d t (M, a, la, st) Q) (kf : ¬ (x < y) → Go S d t (M, nx, la, st) Q) : Go S d t (M, pc, la, .int y :: .int x :: st) Q := by
  by_cases hc : x < y
  · exact go_step (at_step hl (q := (a, la, st)) (by show some (if am_c2 .lt x y = true then a else nx, la, st) = _; rw [if_pos (show am_c2 .lt x y = true from decide_eq_true hc)])) (kt hc)
  · exact go_step (at_step hl (q := (nx, la, st)) (by show some (if am_c2 .lt x y = true then a else nx, la, st) = _; rw [if_neg (show ¬ am_c2 .lt x y = true from fun hq => hc (of_decide_eq_true hq))])) (kf hc)
theorem go_ic_ge {x y : Int32} {z : Int} (hl : At t pc (.if_icmp .ge z, nx, a, b, h)) (kt : y ≤ x → Go S d t (M, a, la, st) Q) (kf : ¬ (y ≤ x) → Go S d t (M, nx, la, st) Q) : Go S d t (M, pc, la, .int y :: .int x :: st) Q := by
  by_cases hc : y ≤ x
  · exact go_step (at_step hl (q := (a, la, st)) (by show some (if am_c2 .ge x y = true then a else nx, la, st) = _; rw [if_pos (show am_c2 .ge x y = true from decide_eq_true hc)])) (kt hc)
  · exact go_step (at_step hl (q := (nx, la, st)) (by show some (if am_c2 .ge x y = true then a else nx, la, st) = _; rw [if_neg (show ¬ am_c2 .ge x y = true from fun hq => hc (of_decide_eq_true hq))])) (kf hc)
theorem go_ic_gt {x y : Int32} {z : Int} (hl : At t pc (.if_icmp .gt z, nx, a, b, h)) (kt : y < x → Go S d t (M, a, la, st) Q) (kf : ¬ (y < x) → Go S d t (M, nx, la, st) Q) : Go S d t (M, pc, la, .int y :: .int x :: st) Q := by
  by_cases hc : y < x
  · exact go_step (at_step hl (q := (a, la, st)) (by show some (if am_c2 .gt x y = true then a else nx, la, st) = _; rw [if_pos (show am_c2 .gt x y = true from decide_eq_true hc)])) (kt hc)
  · exact go_step (at_step hl (q := (nx, la, st)) (by show some (if am_c2 .gt x y = true then a else nx, la, st) = _; rw [if_neg (show ¬ am_c2 .gt x y = true from fun hq => hc (of_decide_eq_true hq))])) (kf hc)
theorem go_ic_le {x y : Int32} {z : Int} (hl : At t pc (.if_icmp .le z, nx, a, b, h)) (kt : x ≤ y → Go S d t (M, a, la, st) Q) (kf : ¬ (x ≤ y) → Go S d t (M, nx, la, st) Q) : Go S d t (M, pc, la, .int y :: .int x :: st) Q := by
  by_cases hc : x ≤ y
  · exact go_step (at_step hl (q := (a, la, st)) (by show some (if am_c2 .le x y = true then a else nx, la, st) = _; rw [if_pos (show am_c2 .le x y = true from decide_eq_true hc)])) (kt hc)
  · exact go_step (at_step hl (q := (nx, la, st)) (by show some (if am_c2 .le x y = true then a else nx, la, st) = _; rw [if_neg (show ¬ am_c2 .le x y = true from fun hq => hc (of_decide_eq_true hq))])) (kf hc)
theorem go_nulN {z : Int} (hl : At t pc (.ifnull z, nx, a, b, h)) (k : Go S d t (M, a, la, st) Q) : Go S d t (M, pc, la, .null :: st) Q := go_step (at_step hl (rfl)) k
theorem go_nulR {z : Int} {i : Nat} (hl : At t pc (.ifnull z, nx, a, b, h)) (k : Go S d t (M, nx, la, st) Q) : Go S d t (M, pc, la, .ref i :: st) Q := go_step (at_step hl (rfl)) k
theorem go_nnulN {z : Int} (hl : At t pc (.ifnonnull z, nx, a, b, h)) (k : Go S d t (M, nx, la, st) Q) : Go S d t (M, pc, la, .null :: st) Q := go_step (at_step hl (rfl)) k
theorem go_nnulR {z : Int} {i : Nat} (hl : At t pc (.ifnonnull z, nx, a, b, h)) (k : Go S d t (M, a, la, st) Q) : Go S d t (M, pc, la, .ref i :: st) Q := go_step (at_step hl (rfl)) k
theorem go_getI {ix i : Nat} (hl : At t pc (.getfield ix, nx, a, b, h)) (hk : am_fk a b = 0 ∨ am_fk a b = 3) (hs : (sh[i]?).map (fun q => q.1) = some (a + 10)) (k : Go S d t ((sh, mI, mL, mR), nx, la, .int (mI i b) :: st) Q) : Go S d t ((sh, mI, mL, mR), pc, la, .ref i :: st) Q := go_step (at_mem hl rfl (by rcases hk with hk | hk <;> simp [am_mem, am_get, hs, am_gv, hk])) k
theorem go_getL {ix i : Nat} (hl : At t pc (.getfield ix, nx, a, b, h)) (hk : am_fk a b = 1) (hs : (sh[i]?).map (fun q => q.1) = some (a + 10)) (k : Go S d t ((sh, mI, mL, mR), nx, la, .long (mL i b) :: st) Q) : Go S d t ((sh, mI, mL, mR), pc, la, .ref i :: st) Q := go_step (at_mem hl rfl (by simp [am_mem, am_get, hs, am_gv, hk])) k
theorem go_getR {ix i j : Nat} (hl : At t pc (.getfield ix, nx, a, b, h)) (hk : am_fk a b = 2) (hs : (sh[i]?).map (fun q => q.1) = some (a + 10)) (hj : mR i b = some j) (k : Go S d t ((sh, mI, mL, mR), nx, la, .ref j :: st) Q) : Go S d t ((sh, mI, mL, mR), pc, la, .ref i :: st) Q := go_step (at_mem hl rfl (by simp [am_mem, am_get, hs, am_gv, hk, hj, va_rf])) k
theorem go_putI {ix i : Nat} {x : Int32} (hl : At t pc (.putfield ix, nx, a, b, h)) (hk : am_fk a b = 0) (hs : (sh[i]?).map (fun q => q.1) = some (a + 10)) (k : Go S d t ((sh, am_u mI i b x, mL, mR), nx, la, st) Q) : Go S d t ((sh, mI, mL, mR), pc, la, .int x :: .ref i :: st) Q := go_step (at_mem hl rfl (by simp [am_mem, am_put, hs, am_pv, hk])) k
theorem go_putZ {ix i : Nat} {x : Int32} (hl : At t pc (.putfield ix, nx, a, b, h)) (hk : am_fk a b = 3) (hs : (sh[i]?).map (fun q => q.1) = some (a + 10)) (hx : x = 0 ∨ x = 1) (k : Go S d t ((sh, am_u mI i b x, mL, mR), nx, la, st) Q) : Go S d t ((sh, mI, mL, mR), pc, la, .int x :: .ref i :: st) Q := go_step (at_mem hl rfl (by simp [am_mem, am_put, hs, am_pv, hk, hx])) k
theorem go_putL {ix i : Nat} {x : Int64} (hl : At t pc (.putfield ix, nx, a, b, h)) (hk : am_fk a b = 1) (hs : (sh[i]?).map (fun q => q.1) = some (a + 10)) (k : Go S d t ((sh, mI, am_u mL i b x, mR), nx, la, st) Q) : Go S d t ((sh, mI, mL, mR), pc, la, .long x :: .ref i :: st) Q := go_step (at_mem hl rfl (by simp [am_mem, am_put, hs, am_pv, hk])) k
theorem go_putR {ix i j : Nat} (hl : At t pc (.putfield ix, nx, a, b, h)) (hk : am_fk a b = 2) (hs : (sh[i]?).map (fun q => q.1) = some (a + 10)) (k : Go S d t ((sh, mI, mL, am_u mR i b (some j)), nx, la, st) Q) : Go S d t ((sh, mI, mL, mR), pc, la, .ref j :: .ref i :: st) Q := go_step (at_mem hl rfl (by simp [am_mem, am_put, hs, am_pv, hk])) k
theorem go_alen {i kd n : Nat} (hl : At t pc (.arraylength, nx, a, b, h)) (hs : sh[i]? = some (kd, n)) (hk : kd < 5) (k : Go S d t ((sh, mI, mL, mR), nx, la, .int (nI n) :: st) Q) : Go S d t ((sh, mI, mL, mR), pc, la, .ref i :: st) Q := go_step (at_mem hl rfl (by show (am_alen S nx (sh, mI, mL, mR) la (.ref i :: st)).map _ = _; simp [am_alen, hs, hk, nI])) k
theorem go_slen {i : Nat} (hl : At t pc (.arraylength, nx, a, b, h))  (k : Go S d t ((sh, mI, mL, mR), nx, la, .int (nI S.1) :: st) Q) : Go S d t ((sh, mI, mL, mR), pc, la, .retAddr i :: st) Q := go_step (at_mem hl rfl (by rfl)) k
theorem go_iald {i n z : Nat} {j : Int32} (hl : At t pc (.iaload, nx, a, b, h)) (hs : sh[i]? = some (0, n)) (hj : j = nI z) (hz : z < n) (hn : n ≤ 10000) (k : Go S d t ((sh, mI, mL, mR), nx, la, .int (mI i z) :: st) Q) : Go S d t ((sh, mI, mL, mR), pc, la, .int j :: .ref i :: st) Q := go_step (at_mem hl rfl (by subst hj; simp [am_mem, am_iald, am_in_ok hs hz hn, nI_clamp (show z < 2 ^ 31 by omega)])) k
theorem go_lald {i n z : Nat} {j : Int32} (hl : At t pc (.laload, nx, a, b, h)) (hs : sh[i]? = some (1, n)) (hj : j = nI z) (hz : z < n) (hn : n ≤ 10000) (k : Go S d t ((sh, mI, mL, mR), nx, la, .long (mL i z) :: st) Q) : Go S d t ((sh, mI, mL, mR), pc, la, .int j :: .ref i :: st) Q := go_step (at_mem hl rfl (by subst hj; simp [am_mem, am_lald, am_in_ok hs hz hn, nI_clamp (show z < 2 ^ 31 by omega)])) k
theorem go_aald {i n z kd : Nat} {j : Int32} {r : Option Nat} (hl : At t pc (.aaload, nx, a, b, h)) (hs : sh[i]? = some (kd, n)) (h2 : 2 ≤ kd) (h5 : kd < 5) (hj : j = nI z) (hz : z < n) (hn : n ≤ 10000) (hr : mR i z = r) (k : Go S d t ((sh, mI, mL, mR), nx, la, va_rf r :: st) Q) : Go S d t ((sh, mI, mL, mR), pc, la, .int j :: .ref i :: st) Q := go_step (at_mem hl rfl (by subst hj; subst hr; have hk : am_kr (sh, mI, mL, mR) i = kd := (by simp [am_kr, hs]); simp [am_mem, am_aald, hk, h2, h5, am_in_ok hs hz hn, nI_clamp (show z < 2 ^ 31 by omega)])) k
theorem go_iast {i n z : Nat} {j x : Int32} (hl : At t pc (.iastore, nx, a, b, h)) (hs : sh[i]? = some (0, n)) (hj : j = nI z) (hz : z < n) (hn : n ≤ 10000) (k : Go S d t ((sh, am_u mI i z x, mL, mR), nx, la, st) Q) : Go S d t ((sh, mI, mL, mR), pc, la, .int x :: .int j :: .ref i :: st) Q := go_step (at_mem hl rfl (by subst hj; simp [am_mem, am_iast, am_in_ok hs hz hn, nI_clamp (show z < 2 ^ 31 by omega)])) k
theorem go_last {i n z : Nat} {j : Int32} {x : Int64} (hl : At t pc (.lastore, nx, a, b, h)) (hs : sh[i]? = some (1, n)) (hj : j = nI z) (hz : z < n) (hn : n ≤ 10000) (k : Go S d t ((sh, mI, am_u mL i z x, mR), nx, la, st) Q) : Go S d t ((sh, mI, mL, mR), pc, la, .long x :: .int j :: .ref i :: st) Q := go_step (at_mem hl rfl (by subst hj; simp [am_mem, am_last, am_in_ok hs hz hn, nI_clamp (show z < 2 ^ 31 by omega)])) k
theorem go_sld {i z : Nat} {j : Int32} (hl : At t pc (.iaload, nx, a, b, h)) (hj : j = nI z) (hz : z < S.1) (hn : S.1 ≤ 10000) (k : Go S d t ((sh, mI, mL, mR), nx, la, .int (S.2 z) :: st) Q) : Go S d t ((sh, mI, mL, mR), pc, la, .int j :: .retAddr i :: st) Q := go_step (at_mem hl rfl (by subst hj; show (if ¬ (nI z < 0 ∨ S.1 ≤ (nI z).toNatClampNeg) then some ((sh, mI, mL, mR), nx, la, Value.int (S.2 (nI z).toNatClampNeg) :: st) else none).map Sum.inl = some _; rw [if_pos (nI_in hz (by omega)), nI_clamp (by omega)]; rfl)) k
theorem go_iret {x : Int32} (hl : At t pc (.ireturn, nx, a, b, h)) (hr : t.2.2.2.1 = some .int) (k : Q (some (.int x), M)) : Go S d t (M, pc, la, [.int x]) Q := go_ret (at_mem hl rfl (by show (if _ then _ else _) = _; rw [if_pos (Or.inl hr)])) k
theorem go_zret {x : Int32} (hl : At t pc (.ireturn, nx, a, b, h)) (hr : t.2.2.2.1 = some .boolean) (hx : x = 0 ∨ x = 1) (k : Q (some (.int x), M)) : Go S d t (M, pc, la, [.int x]) Q := go_ret (at_mem hl rfl (by show (if _ then _ else _) = _; rw [if_pos (Or.inr ⟨hr, hx⟩)])) k
theorem go_lret {x : Int64} (hl : At t pc (.lreturn, nx, a, b, h)) (hr : t.2.2.2.1 = some .long) (k : Q (some (.long x), M)) : Go S d t (M, pc, la, [.long x]) Q := go_ret (at_mem hl rfl (by show (if _ then _ else _) = _; rw [if_pos hr])) k
theorem go_aret {i : Nat} (hl : At t pc (.areturn, nx, a, b, h)) (hr : am_isO t.2.2.2.1 = true) (k : Q (some (.ref i), M)) : Go S d t (M, pc, la, [.ref i]) Q := go_ret (at_mem hl rfl (by show (if _ then _ else _) = _; rw [if_pos hr])) k
theorem go_nret (hl : At t pc (.areturn, nx, a, b, h)) (hr : am_isO t.2.2.2.1 = true) (k : Q (some .null, M)) : Go S d t (M, pc, la, [.null]) Q := go_ret (at_mem hl rfl (by show (if _ then _ else _) = _; rw [if_pos hr])) k
theorem go_vret (hl : At t pc (.return_, nx, a, b, h)) (hr : t.2.2.2.1 = none) (k : Q (none, M)) : Go S d t (M, pc, la, []) Q := go_ret (at_mem hl rfl (by show (if _ then _ else _) = _; rw [if_pos hr])) k
theorem go_invS {t' : am_T} {ix hh : Nat} {as r : List Value} {Q' : Option Value × am_M → Prop} (hl : At t pc (.invokestatic ix, nx, a, b, h)) (hb : b ≠ 300) (ha : am_mt[a]? = some t') (ht : am_take b st [] = some (as, r)) (hr : (r.map fun v => v.category).sum ≤ 8) (hy : (am_lay as).length ≤ t'.2.2.1) (hc : Sp S hh t' M as Q') (hd : hh + 1 ≤ d) (k : ∀ v M2, Q' (v, M2) → Go S d t (M2, nx, la, v.toList ++ r) Q) : Go S d t (M, pc, la, st) Q :=
  go_call (fr' := (M, nx, la, r)) (at_mem hl rfl (by show (if b = 300 then _ else am_calS _ _ _ _ _ _) = _; rw [if_neg hb]; unfold am_calS; rw [ht]; dsimp only; rw [if_pos hr])) ha hy hd hc k
theorem go_invV {t' : am_T} {ix hh i : Nat} {as r : List Value} {Q' : Option Value × am_M → Prop} (hl : At t pc (.invokevirtual ix, nx, a, b, h)) (ha : am_mt[a]? = some t') (hk : 10 ≤ t'.2.2.2.2.1) (hs : (M.1[i]?).map (fun q => q.1) = some t'.2.2.2.2.1) (ht : am_take b st [] = some (as, .ref i :: r)) (hr : (r.map fun v => v.category).sum ≤ 8) (hy : (am_lay (.ref i :: as)).length ≤ t'.2.2.1) (hc : Sp S hh t' M (.ref i :: as) Q') (hd : hh + 1 ≤ d) (k : ∀ v M2, Q' (v, M2) → Go S d t (M2, nx, la, v.toList ++ r) Q) : Go S d t (M, pc, la, st) Q :=
  go_call (fr' := (M, nx, la, r)) (at_mem hl rfl (by show am_calV _ _ _ _ _ _ = _; unfold am_calV; rw [ht]; dsimp only; rw [if_pos ⟨hr, by unfold am_cvk; rw [ha]; exact decide_eq_true ⟨hk, hs⟩⟩])) ha hy hd hc k
theorem go_invI {t' : am_T} {ix hh i : Nat} {as r : List Value} {Q' : Option Value × am_M → Prop} (hl : At t pc (.invokespecial ix, nx, a, b, h)) (hb : b ≠ 200) (ha : am_mt[a]? = some t') (hk : 10 ≤ t'.2.2.2.2.1) (hs : (M.1[i]?).map (fun q => q.1) = some t'.2.2.2.2.1) (ht : am_take (b % 100) st [] = some (as, .ref i :: r)) (hr : (r.map fun v => v.category).sum ≤ 8) (hy : (am_lay (.ref i :: as)).length ≤ t'.2.2.1) (hc : Sp S hh t' M (.ref i :: as) Q') (hd : hh + 1 ≤ d) (k : ∀ v M2, Q' (v, M2) → Go S d t (M2, nx, la, v.toList ++ r) Q) : Go S d t (M, pc, la, st) Q :=
  go_call (fr' := (M, nx, la, r)) (at_mem hl rfl (by show (if b = 200 then _ else am_calV _ _ _ _ _ _) = _; rw [if_neg hb]; unfold am_calV; rw [ht]; dsimp only; rw [if_pos ⟨hr, by unfold am_cvk; rw [ha]; exact decide_eq_true ⟨hk, hs⟩⟩])) ha hy hd hc k
theorem go_objI {ix i : Nat} (hl : At t pc (.invokespecial ix, nx, a, b, h)) (hb : b = 200) (hr : (st.map fun v => v.category).sum ≤ 8) (k : Go S d t (M, nx, la, st) Q) : Go S d t (M, pc, la, .ref i :: st) Q := go_step (at_mem hl rfl (by simp [am_mem, hb, am_pop, hr])) k
theorem go_new {ix : Nat} {q : vw_C} (hl : At t pc (.new ix, nx, a, b, h)) (hq : vwCl[a - 10]? = some q) (ha : 10 ≤ a) (k : Go S d t (am_new M a q.2.2, nx, la, .ref M.1.length :: st) Q) : Go S d t (M, pc, la, st) Q := go_step (at_mem hl rfl (by show (am_mkO _ _ _ _ _).map _ = _; unfold am_mkO; rw [hq]; dsimp only; rw [if_pos ha]; rfl)) k
theorem go_newI {n : Nat} {v : Int32} (hl : At t pc (.newarray .int, nx, a, b, h)) (hv : v = nI n) (hn : n ≤ 1000) (k : Go S d t (am_new M 0 n, nx, la, .ref M.1.length :: st) Q) : Go S d t (M, pc, la, .int v :: st) Q := go_step (at_mem hl rfl (by subst hv; simp [am_mem, am_mkA, nI_clamp (show n < 2 ^ 31 by omega), nI_pos (show n < 2 ^ 31 by omega), nI_pos' (show n < 2 ^ 31 by omega), hn])) k
theorem go_newL {n : Nat} {v : Int32} (hl : At t pc (.newarray .long, nx, a, b, h)) (hv : v = nI n) (hn : n ≤ 1000) (k : Go S d t (am_new M 1 n, nx, la, .ref M.1.length :: st) Q) : Go S d t (M, pc, la, .int v :: st) Q := go_step (at_mem hl rfl (by subst hv; simp [am_mem, am_mkA, nI_clamp (show n < 2 ^ 31 by omega), nI_pos (show n < 2 ^ 31 by omega), nI_pos' (show n < 2 ^ 31 by omega), hn])) k
theorem go_newA {n ix : Nat} {v : Int32} (hl : At t pc (.anewarray ix, nx, a, b, h)) (hv : v = nI n) (hn : n ≤ 1000) (k : Go S d t (am_new M a n, nx, la, .ref M.1.length :: st) Q) : Go S d t (M, pc, la, .int v :: st) Q := go_step (at_mem hl rfl (by subst hv; simp [am_mem, am_mkA, nI_clamp (show n < 2 ^ 31 by omega), nI_pos (show n < 2 ^ 31 by omega), nI_pos' (show n < 2 ^ 31 by omega), hn])) k
theorem go_acp {ix i1 i2 n1 n2 sz dz nz : Nat} {sp dp n : Int32} (hl : At t pc (.invokestatic ix, nx, a, b, h)) (hb : b = 300) (hs1 : sh[i1]? = some (0, n1)) (hs2 : sh[i2]? = some (0, n2)) (e1 : sp = nI sz) (e2 : dp = nI dz) (e3 : n = nI nz) (h1 : sz + nz ≤ n1) (h2 : dz + nz ≤ n2) (hn1 : n1 ≤ 10000) (hn2 : n2 ≤ 10000) (hr : (st.map fun v => v.category).sum ≤ 8) (k : Go S d t ((sh, va_up mI i2 (va_cpy (mI i1) (mI i2) sz dz nz), mL, mR), nx, la, st) Q) : Go S d t ((sh, mI, mL, mR), pc, la, .int n :: .int dp :: .ref i2 :: .int sp :: .ref i1 :: st) Q := go_step (at_mem hl rfl (by
  subst e1; subst e2; subst e3
  show (if b = 300 then _ else _) = _
  rw [if_pos hb]
  show (am_acp _ _ _ _).map _ = _
  unfold am_acp
  dsimp only
  rw [hs1, hs2]
  dsimp only
  rw [nI_clamp (by omega), nI_clamp (by omega), nI_clamp (by omega), if_pos ⟨hr, rfl, rfl, nI_pos (by omega), nI_pos (by omega), nI_pos (by omega), h1, h2⟩]
  rfl)) k
end GO
end
