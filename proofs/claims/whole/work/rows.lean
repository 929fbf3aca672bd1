section
-- ===== PART A: goes FIRST, ahead of the names: the tables' words, and 'selects' of the private methods out of them =====
/-- a private method of a class that the tables say can be made, by its rows of tables_1 -/
def lw_okq (q : MethodName × Nat) : Prop := (q.1.cls ≠ "java/lang/invoke/MethodHandle" ∧ q.1.cls ≠ "java/lang/invoke/VarHandle") ∧ Cond.instantiable q.1.cls q.2 ∈ tables_1 ∧ Cond.privateMethod q.1 ∈ tables_1 ∧ Cond.instanceMethod q.1 ∈ tables_1
theorem lw_p0 : lw_okq (⟨"RazorTalk$Script", "step", "()V"⟩, 9) := ⟨⟨by decide +kernel, by decide +kernel⟩, List.mem_of_getElem? (i := 25) (by decide +kernel), List.mem_of_getElem? (i := 215) (by decide +kernel), List.mem_of_getElem? (i := 216) (by decide +kernel)⟩
theorem lw_p1 : lw_okq (⟨"RazorTalk$Script", "sortAt", "(I)I"⟩, 9) := ⟨⟨by decide +kernel, by decide +kernel⟩, List.mem_of_getElem? (i := 25) (by decide +kernel), List.mem_of_getElem? (i := 223) (by decide +kernel), List.mem_of_getElem? (i := 224) (by decide +kernel)⟩
theorem lw_p2 : lw_okq (⟨"RazorTalk$Script", "readClause", "()Z"⟩, 9) := ⟨⟨by decide +kernel, by decide +kernel⟩, List.mem_of_getElem? (i := 25) (by decide +kernel), List.mem_of_getElem? (i := 227) (by decide +kernel), List.mem_of_getElem? (i := 228) (by decide +kernel)⟩
theorem lw_p3 : lw_okq (⟨"RazorTalk$Script", "wordHere", "()I"⟩, 9) := ⟨⟨by decide +kernel, by decide +kernel⟩, List.mem_of_getElem? (i := 25) (by decide +kernel), List.mem_of_getElem? (i := 231) (by decide +kernel), List.mem_of_getElem? (i := 232) (by decide +kernel)⟩
theorem lw_p4 : lw_okq (⟨"RazorTalk$Script", "isHere", "(Ljava/lang/String;)Z"⟩, 9) := ⟨⟨by decide +kernel, by decide +kernel⟩, List.mem_of_getElem? (i := 25) (by decide +kernel), List.mem_of_getElem? (i := 245) (by decide +kernel), List.mem_of_getElem? (i := 246) (by decide +kernel)⟩
theorem lw_p5 : lw_okq (⟨"RazorTalk$Script", "canStand", "(I)Z"⟩, 9) := ⟨⟨by decide +kernel, by decide +kernel⟩, List.mem_of_getElem? (i := 25) (by decide +kernel), List.mem_of_getElem? (i := 297) (by decide +kernel), List.mem_of_getElem? (i := 298) (by decide +kernel)⟩
theorem lw_p6 : lw_okq (⟨"RazorTalk$Script", "countIn", "(I)V"⟩, 9) := ⟨⟨by decide +kernel, by decide +kernel⟩, List.mem_of_getElem? (i := 25) (by decide +kernel), List.mem_of_getElem? (i := 301) (by decide +kernel), List.mem_of_getElem? (i := 302) (by decide +kernel)⟩
theorem lw_p7 : lw_okq (⟨"RazorTalk$Script", "readNumber", "(III)Z"⟩, 9) := ⟨⟨by decide +kernel, by decide +kernel⟩, List.mem_of_getElem? (i := 25) (by decide +kernel), List.mem_of_getElem? (i := 305) (by decide +kernel), List.mem_of_getElem? (i := 306) (by decide +kernel)⟩
theorem lw_p8 : lw_okq (⟨"RazorTalk$Script", "numberHere", "()I"⟩, 9) := ⟨⟨by decide +kernel, by decide +kernel⟩, List.mem_of_getElem? (i := 25) (by decide +kernel), List.mem_of_getElem? (i := 309) (by decide +kernel), List.mem_of_getElem? (i := 310) (by decide +kernel)⟩
theorem lw_p9 : lw_okq (⟨"RazorTalk$Town", "found", "(I)V"⟩, 7) := ⟨⟨by decide +kernel, by decide +kernel⟩, List.mem_of_getElem? (i := 75) (by decide +kernel), List.mem_of_getElem? (i := 330) (by decide +kernel), List.mem_of_getElem? (i := 331) (by decide +kernel)⟩
theorem lw_p10 : lw_okq (⟨"RazorTalk$Town", "addRumour", "(I)V"⟩, 7) := ⟨⟨by decide +kernel, by decide +kernel⟩, List.mem_of_getElem? (i := 75) (by decide +kernel), List.mem_of_getElem? (i := 340) (by decide +kernel), List.mem_of_getElem? (i := 341) (by decide +kernel)⟩
theorem lw_p11 : lw_okq (⟨"RazorTalk$Town", "addPerson", "(II)V"⟩, 7) := ⟨⟨by decide +kernel, by decide +kernel⟩, List.mem_of_getElem? (i := 75) (by decide +kernel), List.mem_of_getElem? (i := 345) (by decide +kernel), List.mem_of_getElem? (i := 346) (by decide +kernel)⟩
theorem lw_p12 : lw_okq (⟨"RazorTalk", "isPerson", "(I)Z"⟩, 9) := ⟨⟨by decide +kernel, by decide +kernel⟩, List.mem_of_getElem? (i := 17) (by decide +kernel), List.mem_of_getElem? (i := 372) (by decide +kernel), List.mem_of_getElem? (i := 373) (by decide +kernel)⟩
theorem lw_p13 : lw_okq (⟨"RazorTalk", "isRumour", "(I)Z"⟩, 9) := ⟨⟨by decide +kernel, by decide +kernel⟩, List.mem_of_getElem? (i := 17) (by decide +kernel), List.mem_of_getElem? (i := 409) (by decide +kernel), List.mem_of_getElem? (i := 410) (by decide +kernel)⟩
theorem lw_p14 : lw_okq (⟨"RazorTalk", "isBarber", "(I)Z"⟩, 9) := ⟨⟨by decide +kernel, by decide +kernel⟩, List.mem_of_getElem? (i := 17) (by decide +kernel), List.mem_of_getElem? (i := 421) (by decide +kernel), List.mem_of_getElem? (i := 422) (by decide +kernel)⟩
theorem lw_p15 : lw_okq (⟨"RazorTalk", "tellsNow", "(II)I"⟩, 9) := ⟨⟨by decide +kernel, by decide +kernel⟩, List.mem_of_getElem? (i := 17) (by decide +kernel), List.mem_of_getElem? (i := 445) (by decide +kernel), List.mem_of_getElem? (i := 446) (by decide +kernel)⟩
def lw_privs_1 : List (MethodName × Nat) := [(⟨"RazorTalk$Script", "step", "()V"⟩, 9), (⟨"RazorTalk$Script", "sortAt", "(I)I"⟩, 9), (⟨"RazorTalk$Script", "readClause", "()Z"⟩, 9), (⟨"RazorTalk$Script", "wordHere", "()I"⟩, 9), (⟨"RazorTalk$Script", "isHere", "(Ljava/lang/String;)Z"⟩, 9), (⟨"RazorTalk$Script", "canStand", "(I)Z"⟩, 9), (⟨"RazorTalk$Script", "countIn", "(I)V"⟩, 9), (⟨"RazorTalk$Script", "readNumber", "(III)Z"⟩, 9), (⟨"RazorTalk$Script", "numberHere", "()I"⟩, 9), (⟨"RazorTalk$Town", "found", "(I)V"⟩, 7), (⟨"RazorTalk$Town", "addRumour", "(I)V"⟩, 7), (⟨"RazorTalk$Town", "addPerson", "(II)V"⟩, 7), (⟨"RazorTalk", "isPerson", "(I)Z"⟩, 9), (⟨"RazorTalk", "isRumour", "(I)Z"⟩, 9), (⟨"RazorTalk", "isBarber", "(I)Z"⟩, 9), (⟨"RazorTalk", "tellsNow", "(II)I"⟩, 9)]
theorem lw_r1 : ∀ q ∈ lw_privs_1, lw_okq q := List.forall_mem_cons.mpr ⟨lw_p0, List.forall_mem_cons.mpr ⟨lw_p1, List.forall_mem_cons.mpr ⟨lw_p2, List.forall_mem_cons.mpr ⟨lw_p3, List.forall_mem_cons.mpr ⟨lw_p4, List.forall_mem_cons.mpr ⟨lw_p5, List.forall_mem_cons.mpr ⟨lw_p6, List.forall_mem_cons.mpr ⟨lw_p7, List.forall_mem_cons.mpr ⟨lw_p8, List.forall_mem_cons.mpr ⟨lw_p9, List.forall_mem_cons.mpr ⟨lw_p10, List.forall_mem_cons.mpr ⟨lw_p11, List.forall_mem_cons.mpr ⟨lw_p12, List.forall_mem_cons.mpr ⟨lw_p13, List.forall_mem_cons.mpr ⟨lw_p14, List.forall_mem_cons.mpr ⟨lw_p15, fun _ h => absurd h List.not_mem_nil⟩⟩⟩⟩⟩⟩⟩⟩⟩⟩⟩⟩⟩⟩⟩⟩
theorem lw_p16 : lw_okq (⟨"RazorTalk", "rememberForUndo", "()V"⟩, 9) := ⟨⟨by decide +kernel, by decide +kernel⟩, List.mem_of_getElem? (i := 17) (by decide +kernel), List.mem_of_getElem? (i := 462) (by decide +kernel), List.mem_of_getElem? (i := 463) (by decide +kernel)⟩
theorem lw_p17 : lw_okq (⟨"RazorTalk", "stripsTelling", "(I)I"⟩, 9) := ⟨⟨by decide +kernel, by decide +kernel⟩, List.mem_of_getElem? (i := 17) (by decide +kernel), List.mem_of_getElem? (i := 544) (by decide +kernel), List.mem_of_getElem? (i := 545) (by decide +kernel)⟩
theorem lw_p18 : lw_okq (⟨"RazorTalk", "partsTold", "(I)I"⟩, 9) := ⟨⟨by decide +kernel, by decide +kernel⟩, List.mem_of_getElem? (i := 17) (by decide +kernel), List.mem_of_getElem? (i := 548) (by decide +kernel), List.mem_of_getElem? (i := 549) (by decide +kernel)⟩
theorem lw_p19 : lw_okq (⟨"RazorTalk", "fittingBehind", "(IIII)I"⟩, 9) := ⟨⟨by decide +kernel, by decide +kernel⟩, List.mem_of_getElem? (i := 17) (by decide +kernel), List.mem_of_getElem? (i := 552) (by decide +kernel), List.mem_of_getElem? (i := 553) (by decide +kernel)⟩
theorem lw_p20 : lw_okq (⟨"RazorTalk", "fittingTogether", "(II)I"⟩, 9) := ⟨⟨by decide +kernel, by decide +kernel⟩, List.mem_of_getElem? (i := 17) (by decide +kernel), List.mem_of_getElem? (i := 571) (by decide +kernel), List.mem_of_getElem? (i := 572) (by decide +kernel)⟩
theorem lw_p21 : lw_okq (⟨"RazorTalk", "allBeards", "()I"⟩, 9) := ⟨⟨by decide +kernel, by decide +kernel⟩, List.mem_of_getElem? (i := 17) (by decide +kernel), List.mem_of_getElem? (i := 621) (by decide +kernel), List.mem_of_getElem? (i := 622) (by decide +kernel)⟩
theorem lw_p22 : lw_okq (⟨"RazorTalk", "allStripsKnown", "()I"⟩, 9) := ⟨⟨by decide +kernel, by decide +kernel⟩, List.mem_of_getElem? (i := 17) (by decide +kernel), List.mem_of_getElem? (i := 625) (by decide +kernel), List.mem_of_getElem? (i := 626) (by decide +kernel)⟩
theorem lw_p23 : lw_okq (⟨"RazorTalkModel", "reads", "()I"⟩, 16) := ⟨⟨by decide +kernel, by decide +kernel⟩, List.mem_of_getElem? (i := 629) (by decide +kernel), List.mem_of_getElem? (i := 701) (by decide +kernel), List.mem_of_getElem? (i := 702) (by decide +kernel)⟩
theorem lw_p24 : lw_okq (⟨"RazorTalkModel", "takesClause", "()Z"⟩, 16) := ⟨⟨by decide +kernel, by decide +kernel⟩, List.mem_of_getElem? (i := 629) (by decide +kernel), List.mem_of_getElem? (i := 705) (by decide +kernel), List.mem_of_getElem? (i := 706) (by decide +kernel)⟩
theorem lw_p25 : lw_okq (⟨"RazorTalkModel", "takesWord", "()V"⟩, 16) := ⟨⟨by decide +kernel, by decide +kernel⟩, List.mem_of_getElem? (i := 629) (by decide +kernel), List.mem_of_getElem? (i := 709) (by decide +kernel), List.mem_of_getElem? (i := 710) (by decide +kernel)⟩
theorem lw_p26 : lw_okq (⟨"RazorTalkModel", "begins", "()V"⟩, 16) := ⟨⟨by decide +kernel, by decide +kernel⟩, List.mem_of_getElem? (i := 629) (by decide +kernel), List.mem_of_getElem? (i := 713) (by decide +kernel), List.mem_of_getElem? (i := 714) (by decide +kernel)⟩
theorem lw_p27 : lw_okq (⟨"RazorTalkModel", "letterAt", "(I)I"⟩, 16) := ⟨⟨by decide +kernel, by decide +kernel⟩, List.mem_of_getElem? (i := 629) (by decide +kernel), List.mem_of_getElem? (i := 717) (by decide +kernel), List.mem_of_getElem? (i := 718) (by decide +kernel)⟩
theorem lw_p28 : lw_okq (⟨"RazorTalkModel", "isSmall", "(I)Z"⟩, 16) := ⟨⟨by decide +kernel, by decide +kernel⟩, List.mem_of_getElem? (i := 629) (by decide +kernel), List.mem_of_getElem? (i := 721) (by decide +kernel), List.mem_of_getElem? (i := 722) (by decide +kernel)⟩
theorem lw_p29 : lw_okq (⟨"RazorTalkModel", "takesTown", "()Z"⟩, 16) := ⟨⟨by decide +kernel, by decide +kernel⟩, List.mem_of_getElem? (i := 629) (by decide +kernel), List.mem_of_getElem? (i := 728) (by decide +kernel), List.mem_of_getElem? (i := 729) (by decide +kernel)⟩
theorem lw_p30 : lw_okq (⟨"RazorTalkModel", "takesNumber", "(II)Z"⟩, 16) := ⟨⟨by decide +kernel, by decide +kernel⟩, List.mem_of_getElem? (i := 629) (by decide +kernel), List.mem_of_getElem? (i := 732) (by decide +kernel), List.mem_of_getElem? (i := 733) (by decide +kernel)⟩
theorem lw_p31 : lw_okq (⟨"RazorTalkModel", "isDigit", "(I)Z"⟩, 16) := ⟨⟨by decide +kernel, by decide +kernel⟩, List.mem_of_getElem? (i := 629) (by decide +kernel), List.mem_of_getElem? (i := 736) (by decide +kernel), List.mem_of_getElem? (i := 737) (by decide +kernel)⟩
def lw_privs_2 : List (MethodName × Nat) := [(⟨"RazorTalk", "rememberForUndo", "()V"⟩, 9), (⟨"RazorTalk", "stripsTelling", "(I)I"⟩, 9), (⟨"RazorTalk", "partsTold", "(I)I"⟩, 9), (⟨"RazorTalk", "fittingBehind", "(IIII)I"⟩, 9), (⟨"RazorTalk", "fittingTogether", "(II)I"⟩, 9), (⟨"RazorTalk", "allBeards", "()I"⟩, 9), (⟨"RazorTalk", "allStripsKnown", "()I"⟩, 9), (⟨"RazorTalkModel", "reads", "()I"⟩, 16), (⟨"RazorTalkModel", "takesClause", "()Z"⟩, 16), (⟨"RazorTalkModel", "takesWord", "()V"⟩, 16), (⟨"RazorTalkModel", "begins", "()V"⟩, 16), (⟨"RazorTalkModel", "letterAt", "(I)I"⟩, 16), (⟨"RazorTalkModel", "isSmall", "(I)Z"⟩, 16), (⟨"RazorTalkModel", "takesTown", "()Z"⟩, 16), (⟨"RazorTalkModel", "takesNumber", "(II)Z"⟩, 16), (⟨"RazorTalkModel", "isDigit", "(I)Z"⟩, 16)]
theorem lw_r2 : ∀ q ∈ lw_privs_2, lw_okq q := List.forall_mem_cons.mpr ⟨lw_p16, List.forall_mem_cons.mpr ⟨lw_p17, List.forall_mem_cons.mpr ⟨lw_p18, List.forall_mem_cons.mpr ⟨lw_p19, List.forall_mem_cons.mpr ⟨lw_p20, List.forall_mem_cons.mpr ⟨lw_p21, List.forall_mem_cons.mpr ⟨lw_p22, List.forall_mem_cons.mpr ⟨lw_p23, List.forall_mem_cons.mpr ⟨lw_p24, List.forall_mem_cons.mpr ⟨lw_p25, List.forall_mem_cons.mpr ⟨lw_p26, List.forall_mem_cons.mpr ⟨lw_p27, List.forall_mem_cons.mpr ⟨lw_p28, List.forall_mem_cons.mpr ⟨lw_p29, List.forall_mem_cons.mpr ⟨lw_p30, List.forall_mem_cons.mpr ⟨lw_p31, fun _ h => absurd h List.not_mem_nil⟩⟩⟩⟩⟩⟩⟩⟩⟩⟩⟩⟩⟩⟩⟩⟩
theorem lw_p32 : lw_okq (⟨"RazorTalkModel", "takesOne", "(I)Z"⟩, 16) := ⟨⟨by decide +kernel, by decide +kernel⟩, List.mem_of_getElem? (i := 629) (by decide +kernel), List.mem_of_getElem? (i := 743) (by decide +kernel), List.mem_of_getElem? (i := 744) (by decide +kernel)⟩
theorem lw_p33 : lw_okq (⟨"RazorTalkModel", "takesRumour", "()Z"⟩, 16) := ⟨⟨by decide +kernel, by decide +kernel⟩, List.mem_of_getElem? (i := 629) (by decide +kernel), List.mem_of_getElem? (i := 751) (by decide +kernel), List.mem_of_getElem? (i := 752) (by decide +kernel)⟩
theorem lw_p34 : lw_okq (⟨"RazorTalkModel", "takesBeard", "()Z"⟩, 16) := ⟨⟨by decide +kernel, by decide +kernel⟩, List.mem_of_getElem? (i := 629) (by decide +kernel), List.mem_of_getElem? (i := 756) (by decide +kernel), List.mem_of_getElem? (i := 757) (by decide +kernel)⟩
theorem lw_p35 : lw_okq (⟨"RazorTalkModel", "isPerson", "(I)Z"⟩, 16) := ⟨⟨by decide +kernel, by decide +kernel⟩, List.mem_of_getElem? (i := 629) (by decide +kernel), List.mem_of_getElem? (i := 768) (by decide +kernel), List.mem_of_getElem? (i := 769) (by decide +kernel)⟩
theorem lw_p36 : lw_okq (⟨"RazorTalkModel", "smoothOf", "(I)I"⟩, 16) := ⟨⟨by decide +kernel, by decide +kernel⟩, List.mem_of_getElem? (i := 629) (by decide +kernel), List.mem_of_getElem? (i := 772) (by decide +kernel), List.mem_of_getElem? (i := 773) (by decide +kernel)⟩
theorem lw_p37 : lw_okq (⟨"RazorTalkModel", "beardsOf", "(I)I"⟩, 16) := ⟨⟨by decide +kernel, by decide +kernel⟩, List.mem_of_getElem? (i := 629) (by decide +kernel), List.mem_of_getElem? (i := 776) (by decide +kernel), List.mem_of_getElem? (i := 777) (by decide +kernel)⟩
theorem lw_p38 : lw_okq (⟨"RazorTalkModel", "isRumour", "(I)Z"⟩, 16) := ⟨⟨by decide +kernel, by decide +kernel⟩, List.mem_of_getElem? (i := 629) (by decide +kernel), List.mem_of_getElem? (i := 792) (by decide +kernel), List.mem_of_getElem? (i := 793) (by decide +kernel)⟩
theorem lw_p39 : lw_okq (⟨"RazorTalkModel", "isBarber", "(I)Z"⟩, 16) := ⟨⟨by decide +kernel, by decide +kernel⟩, List.mem_of_getElem? (i := 629) (by decide +kernel), List.mem_of_getElem? (i := 800) (by decide +kernel), List.mem_of_getElem? (i := 801) (by decide +kernel)⟩
theorem lw_p40 : lw_okq (⟨"RazorTalkModel", "fitsOf", "(III)I"⟩, 16) := ⟨⟨by decide +kernel, by decide +kernel⟩, List.mem_of_getElem? (i := 629) (by decide +kernel), List.mem_of_getElem? (i := 804) (by decide +kernel), List.mem_of_getElem? (i := 805) (by decide +kernel)⟩
theorem lw_p41 : lw_okq (⟨"RazorTalkModel", "fitsBy", "(II)I"⟩, 16) := ⟨⟨by decide +kernel, by decide +kernel⟩, List.mem_of_getElem? (i := 629) (by decide +kernel), List.mem_of_getElem? (i := 808) (by decide +kernel), List.mem_of_getElem? (i := 809) (by decide +kernel)⟩
theorem lw_p42 : lw_okq (⟨"RazorTalkModel", "tells", "(III)I"⟩, 16) := ⟨⟨by decide +kernel, by decide +kernel⟩, List.mem_of_getElem? (i := 629) (by decide +kernel), List.mem_of_getElem? (i := 817) (by decide +kernel), List.mem_of_getElem? (i := 818) (by decide +kernel)⟩
theorem lw_p43 : lw_okq (⟨"RazorTalkModel", "minds", "()V"⟩, 16) := ⟨⟨by decide +kernel, by decide +kernel⟩, List.mem_of_getElem? (i := 629) (by decide +kernel), List.mem_of_getElem? (i := 825) (by decide +kernel), List.mem_of_getElem? (i := 826) (by decide +kernel)⟩
theorem lw_p44 : lw_okq (⟨"RazorTalkModel", "copy", "(II)V"⟩, 16) := ⟨⟨by decide +kernel, by decide +kernel⟩, List.mem_of_getElem? (i := 629) (by decide +kernel), List.mem_of_getElem? (i := 829) (by decide +kernel), List.mem_of_getElem? (i := 830) (by decide +kernel)⟩
theorem lw_p45 : lw_okq (⟨"RazorTalkModel", "shaves", "(IIII)I"⟩, 16) := ⟨⟨by decide +kernel, by decide +kernel⟩, List.mem_of_getElem? (i := 629) (by decide +kernel), List.mem_of_getElem? (i := 833) (by decide +kernel), List.mem_of_getElem? (i := 834) (by decide +kernel)⟩
theorem lw_p46 : lw_okq (⟨"RazorTalkModel", "knowsPart", "(IIIII)V"⟩, 16) := ⟨⟨by decide +kernel, by decide +kernel⟩, List.mem_of_getElem? (i := 629) (by decide +kernel), List.mem_of_getElem? (i := 837) (by decide +kernel), List.mem_of_getElem? (i := 838) (by decide +kernel)⟩
theorem lw_p47 : lw_okq (⟨"RazorTalkModel", "triesSet", "(III)V"⟩, 16) := ⟨⟨by decide +kernel, by decide +kernel⟩, List.mem_of_getElem? (i := 629) (by decide +kernel), List.mem_of_getElem? (i := 873) (by decide +kernel), List.mem_of_getElem? (i := 874) (by decide +kernel)⟩
def lw_privs_3 : List (MethodName × Nat) := [(⟨"RazorTalkModel", "takesOne", "(I)Z"⟩, 16), (⟨"RazorTalkModel", "takesRumour", "()Z"⟩, 16), (⟨"RazorTalkModel", "takesBeard", "()Z"⟩, 16), (⟨"RazorTalkModel", "isPerson", "(I)Z"⟩, 16), (⟨"RazorTalkModel", "smoothOf", "(I)I"⟩, 16), (⟨"RazorTalkModel", "beardsOf", "(I)I"⟩, 16), (⟨"RazorTalkModel", "isRumour", "(I)Z"⟩, 16), (⟨"RazorTalkModel", "isBarber", "(I)Z"⟩, 16), (⟨"RazorTalkModel", "fitsOf", "(III)I"⟩, 16), (⟨"RazorTalkModel", "fitsBy", "(II)I"⟩, 16), (⟨"RazorTalkModel", "tells", "(III)I"⟩, 16), (⟨"RazorTalkModel", "minds", "()V"⟩, 16), (⟨"RazorTalkModel", "copy", "(II)V"⟩, 16), (⟨"RazorTalkModel", "shaves", "(IIII)I"⟩, 16), (⟨"RazorTalkModel", "knowsPart", "(IIIII)V"⟩, 16), (⟨"RazorTalkModel", "triesSet", "(III)V"⟩, 16)]
theorem lw_r3 : ∀ q ∈ lw_privs_3, lw_okq q := List.forall_mem_cons.mpr ⟨lw_p32, List.forall_mem_cons.mpr ⟨lw_p33, List.forall_mem_cons.mpr ⟨lw_p34, List.forall_mem_cons.mpr ⟨lw_p35, List.forall_mem_cons.mpr ⟨lw_p36, List.forall_mem_cons.mpr ⟨lw_p37, List.forall_mem_cons.mpr ⟨lw_p38, List.forall_mem_cons.mpr ⟨lw_p39, List.forall_mem_cons.mpr ⟨lw_p40, List.forall_mem_cons.mpr ⟨lw_p41, List.forall_mem_cons.mpr ⟨lw_p42, List.forall_mem_cons.mpr ⟨lw_p43, List.forall_mem_cons.mpr ⟨lw_p44, List.forall_mem_cons.mpr ⟨lw_p45, List.forall_mem_cons.mpr ⟨lw_p46, List.forall_mem_cons.mpr ⟨lw_p47, fun _ h => absurd h List.not_mem_nil⟩⟩⟩⟩⟩⟩⟩⟩⟩⟩⟩⟩⟩⟩⟩⟩
theorem lw_p48 : lw_okq (⟨"RazorTalkModel", "beardsOfAll", "()I"⟩, 16) := ⟨⟨by decide +kernel, by decide +kernel⟩, List.mem_of_getElem? (i := 629) (by decide +kernel), List.mem_of_getElem? (i := 919) (by decide +kernel), List.mem_of_getElem? (i := 920) (by decide +kernel)⟩
theorem lw_p49 : lw_okq (⟨"RazorTalkModel", "knownOfAll", "()I"⟩, 16) := ⟨⟨by decide +kernel, by decide +kernel⟩, List.mem_of_getElem? (i := 629) (by decide +kernel), List.mem_of_getElem? (i := 923) (by decide +kernel), List.mem_of_getElem? (i := 924) (by decide +kernel)⟩
def lw_privs_4 : List (MethodName × Nat) := [(⟨"RazorTalkModel", "beardsOfAll", "()I"⟩, 16), (⟨"RazorTalkModel", "knownOfAll", "()I"⟩, 16)]
theorem lw_r4 : ∀ q ∈ lw_privs_4, lw_okq q := List.forall_mem_cons.mpr ⟨lw_p48, List.forall_mem_cons.mpr ⟨lw_p49, fun _ h => absurd h List.not_mem_nil⟩⟩
def lw_privs : List (MethodName × Nat) := lw_privs_1 ++ (lw_privs_2 ++ (lw_privs_3 ++ (lw_privs_4)))
def lw_tbl : List Cond := k2_sels lw_privs ++ tables_1
theorem lw_privs_ok : ∀ q ∈ lw_privs, lw_okq q := by
  show ∀ q ∈ lw_privs_1 ++ (lw_privs_2 ++ (lw_privs_3 ++ (lw_privs_4))), lw_okq q
  exact List.forall_mem_append.mpr ⟨lw_r1, List.forall_mem_append.mpr ⟨lw_r2, List.forall_mem_append.mpr ⟨lw_r3, lw_r4⟩⟩⟩
end
section
theorem goodIn_r {big : List Cond} (ws : List Cond) (ps : List Nat) (hp : ws = ps.filterMap (fun i => big[i]?)) (h : ws.all goodWord = true) : GoodIn big ws := by
  intro w hw
  have h1 := List.all_eq_true.mp h w hw
  rw [hp] at hw
  obtain ⟨i, -, hi⟩ := List.mem_filterMap.mp hw
  have hm : w ∈ big := by first | exact List.mem_of_getElem? hi | exact List.getElem?_mem hi
  exact ⟨hm, good_of_word h1⟩
theorem goodIn_app {big a b : List Cond} (ha : GoodIn big a) (hb : GoodIn big b) : GoodIn big (a ++ b) := fun w h => (List.mem_append.mp h).elim (ha w) (hb w)
theorem goodIn_ca {big a b : List Cond} {c : Cond} (ha : GoodIn big (c :: a)) (hb : GoodIn big b) : GoodIn big (c :: (a ++ b)) := fun w h => (List.mem_cons.mp h).elim (fun e => ha w (List.mem_cons.mpr (Or.inl e))) (fun h => (List.mem_append.mp h).elim (fun h => ha w (List.mem_cons.mpr (Or.inr h))) (hb w))
theorem goodIn_sub {big ws : List Cond} (hm : ∀ w ∈ ws, w ∈ big) (h : ws.all goodWord = true) : GoodIn big ws := fun w hw => ⟨hm w hw, good_of_word (List.all_eq_true.mp h w hw)⟩
def RX0 : String := "RazorTalk$Row"
def TX0 : u_T := fun k => match k with
  | _ => ("RazorTalk$Row", "cells", "[I", true)
def tyX0 : Nat → FieldType := fun k => match k with
  | _ => .array .int
abbrev wsX00 : List Cond := u_ws RX0 TX0 1
theorem nmX0 : ∀ a, a < 1 → ∀ b, b < 1 → a ≠ b → (TX0 a).2.1 ≠ (TX0 b).2.1 := by decide +kernel
theorem tyX0_ok : ∀ k, k < 1 → parseFieldDescriptor (TX0 k).2.2.1 = some (tyX0 k) := by decide +kernel
abbrev cX0_init : ByteArray := prog_2_method_1_code
def yX0_init : MethodName := ⟨RX0, "<init>", "(I)V"⟩
abbrev cX0_at : ByteArray := prog_2_method_2_code
def yX0_at : MethodName := ⟨RX0, "at", "(I)I"⟩
abbrev cX0_put : ByteArray := prog_2_method_3_code
def yX0_put : MethodName := ⟨RX0, "put", "(II)V"⟩
abbrev cX0_zero : ByteArray := prog_2_method_4_code
def yX0_zero : MethodName := ⟨RX0, "zero", "()V"⟩
abbrev cX0_take : ByteArray := prog_2_method_5_code
def yX0_take : MethodName := ⟨RX0, "take", "(LRazorTalk$Row;III)V"⟩
def RX1 : String := "RazorTalk$Script"
def TX1 : u_T := fun k => match k with
  | 0 => ("RazorTalk$Script", "letters", "LRazorTalk$Row;", true)
  | 1 => ("RazorTalk$Script", "words", "LRazorTalk$Row;", true)
  | 2 => ("RazorTalk$Script", "numbers", "LRazorTalk$Row;", true)
  | 3 => ("RazorTalk$Script", "length", "I", false)
  | 4 => ("RazorTalk$Script", "clauses", "I", false)
  | 5 => ("RazorTalk$Script", "people", "I", false)
  | 6 => ("RazorTalk$Script", "rumours", "I", false)
  | 7 => ("RazorTalk$Script", "begin", "I", false)
  | _ => ("RazorTalk$Script", "end", "I", false)
def tyX1 : Nat → FieldType := fun k => match k with
  | 0 => .object "RazorTalk$Row"
  | 1 => .object "RazorTalk$Row"
  | 2 => .object "RazorTalk$Row"
  | 3 => .int
  | 4 => .int
  | 5 => .int
  | 6 => .int
  | 7 => .int
  | _ => .int
abbrev wsX10 : List Cond := u_ws RX1 TX1 9
theorem nmX1 : ∀ a, a < 9 → ∀ b, b < 9 → a ≠ b → (TX1 a).2.1 ≠ (TX1 b).2.1 := by decide +kernel
theorem tyX1_ok : ∀ k, k < 9 → parseFieldDescriptor (TX1 k).2.2.1 = some (tyX1 k) := by decide +kernel
abbrev cX1_init : ByteArray := prog_3_method_1_code
def yX1_init : MethodName := ⟨RX1, "<init>", "()V"⟩
abbrev cX1_addLetter : ByteArray := prog_3_method_2_code
def yX1_addLetter : MethodName := ⟨RX1, "addLetter", "(I)V"⟩
abbrev cX1_empty : ByteArray := prog_3_method_3_code
def yX1_empty : MethodName := ⟨RX1, "empty", "()V"⟩
abbrev cX1_wordOf : ByteArray := prog_3_method_4_code
def yX1_wordOf : MethodName := ⟨RX1, "wordOf", "(I)I"⟩
abbrev cX1_numberOf : ByteArray := prog_3_method_5_code
def yX1_numberOf : MethodName := ⟨RX1, "numberOf", "(II)I"⟩
abbrev cX1_readAll : ByteArray := prog_3_method_6_code
def yX1_readAll : MethodName := ⟨RX1, "readAll", "(II)I"⟩
abbrev cX1_readClause : ByteArray := prog_3_method_7_code
def yX1_readClause : MethodName := ⟨RX1, "readClause", "()Z"⟩
abbrev cX1_canStand : ByteArray := prog_3_method_8_code
def yX1_canStand : MethodName := ⟨RX1, "canStand", "(I)Z"⟩
abbrev cX1_countIn : ByteArray := prog_3_method_9_code
def yX1_countIn : MethodName := ⟨RX1, "countIn", "(I)V"⟩
abbrev cX1_readNumber : ByteArray := prog_3_method_10_code
def yX1_readNumber : MethodName := ⟨RX1, "readNumber", "(III)Z"⟩
abbrev cX1_step : ByteArray := prog_3_method_11_code
def yX1_step : MethodName := ⟨RX1, "step", "()V"⟩
abbrev cX1_sortAt : ByteArray := prog_3_method_12_code
def yX1_sortAt : MethodName := ⟨RX1, "sortAt", "(I)I"⟩
abbrev cX1_numberHere : ByteArray := prog_3_method_13_code
def yX1_numberHere : MethodName := ⟨RX1, "numberHere", "()I"⟩
abbrev cX1_wordHere : ByteArray := prog_3_method_14_code
def yX1_wordHere : MethodName := ⟨RX1, "wordHere", "()I"⟩
abbrev cX1_isHere : ByteArray := prog_3_method_15_code
def yX1_isHere : MethodName := ⟨RX1, "isHere", "(Ljava/lang/String;)Z"⟩
abbrev cX1_spelling : ByteArray := prog_3_method_16_code
def yX1_spelling : MethodName := ⟨RX1, "spelling", "(I)Ljava/lang/String;"⟩
def RX2 : String := "RazorTalk$Shelf"
def TX2 : u_T := fun k => match k with
  | _ => ("RazorTalk$Shelf", "cells", "LRazorTalk$Row;", true)
def tyX2 : Nat → FieldType := fun k => match k with
  | _ => .object "RazorTalk$Row"
abbrev wsX20 : List Cond := u_ws RX2 TX2 1
theorem nmX2 : ∀ a, a < 1 → ∀ b, b < 1 → a ≠ b → (TX2 a).2.1 ≠ (TX2 b).2.1 := by decide +kernel
theorem tyX2_ok : ∀ k, k < 1 → parseFieldDescriptor (TX2 k).2.2.1 = some (tyX2 k) := by decide +kernel
abbrev cX2_init : ByteArray := prog_4_method_1_code
def yX2_init : MethodName := ⟨RX2, "<init>", "(I)V"⟩
abbrev cX2_store : ByteArray := prog_4_method_2_code
def yX2_store : MethodName := ⟨RX2, "store", "(ILRazorTalk$Standing;)V"⟩
abbrev cX2_fetch : ByteArray := prog_4_method_3_code
def yX2_fetch : MethodName := ⟨RX2, "fetch", "(ILRazorTalk$Standing;)V"⟩
def RX3 : String := "RazorTalk$Sightings"
def TX3 : u_T := fun k => match k with
  | 0 => ("RazorTalk$Sightings", "number", "I", false)
  | 1 => ("RazorTalk$Sightings", "strips", "LRazorTalk$Row;", true)
  | 2 => ("RazorTalk$Sightings", "beards", "LRazorTalk$Row;", true)
  | _ => ("RazorTalk$Sightings", "parts", "LRazorTalk$Row;", true)
def tyX3 : Nat → FieldType := fun k => match k with
  | 0 => .int
  | 1 => .object "RazorTalk$Row"
  | 2 => .object "RazorTalk$Row"
  | _ => .object "RazorTalk$Row"
abbrev wsX30 : List Cond := u_ws RX3 TX3 4
theorem nmX3 : ∀ a, a < 4 → ∀ b, b < 4 → a ≠ b → (TX3 a).2.1 ≠ (TX3 b).2.1 := by decide +kernel
theorem tyX3_ok : ∀ k, k < 4 → parseFieldDescriptor (TX3 k).2.2.1 = some (tyX3 k) := by decide +kernel
abbrev cX3_init : ByteArray := prog_5_method_1_code
def yX3_init : MethodName := ⟨RX3, "<init>", "()V"⟩
abbrev cX3_add : ByteArray := prog_5_method_2_code
def yX3_add : MethodName := ⟨RX3, "add", "(III)V"⟩
abbrev cX3_clear : ByteArray := prog_5_method_3_code
def yX3_clear : MethodName := ⟨RX3, "clear", "()V"⟩
abbrev cX3_allTrueOf : ByteArray := prog_5_method_4_code
def yX3_allTrueOf : MethodName := ⟨RX3, "allTrueOf", "(LRazorTalk$Town;I)Z"⟩
def RX4 : String := "RazorTalk$Standing"
def TX4 : u_T := fun k => match k with
  | _ => ("RazorTalk$Standing", "cells", "LRazorTalk$Row;", true)
def tyX4 : Nat → FieldType := fun k => match k with
  | _ => .object "RazorTalk$Row"
abbrev wsX40 : List Cond := u_ws RX4 TX4 1
theorem nmX4 : ∀ a, a < 1 → ∀ b, b < 1 → a ≠ b → (TX4 a).2.1 ≠ (TX4 b).2.1 := by decide +kernel
theorem tyX4_ok : ∀ k, k < 1 → parseFieldDescriptor (TX4 k).2.2.1 = some (tyX4 k) := by decide +kernel
abbrev cX4_init : ByteArray := prog_6_method_1_code
def yX4_init : MethodName := ⟨RX4, "<init>", "()V"⟩
abbrev cX4_startAfresh : ByteArray := prog_6_method_2_code
def yX4_startAfresh : MethodName := ⟨RX4, "startAfresh", "(LRazorTalk$Town;)V"⟩
abbrev cX4_date : ByteArray := prog_6_method_3_code
def yX4_date : MethodName := ⟨RX4, "date", "()I"⟩
abbrev cX4_passDay : ByteArray := prog_6_method_4_code
def yX4_passDay : MethodName := ⟨RX4, "passDay", "(I)V"⟩
abbrev cX4_beardOn : ByteArray := prog_6_method_5_code
def yX4_beardOn : MethodName := ⟨RX4, "beardOn", "(II)I"⟩
abbrev cX4_setBeard : ByteArray := prog_6_method_6_code
def yX4_setBeard : MethodName := ⟨RX4, "setBeard", "(III)V"⟩
abbrev cX4_beardsOf : ByteArray := prog_6_method_7_code
def yX4_beardsOf : MethodName := ⟨RX4, "beardsOf", "(I)I"⟩
abbrev cX4_bareStrips : ByteArray := prog_6_method_8_code
def yX4_bareStrips : MethodName := ⟨RX4, "bareStrips", "(I)I"⟩
abbrev cX4_stripsKnown : ByteArray := prog_6_method_9_code
def yX4_stripsKnown : MethodName := ⟨RX4, "stripsKnown", "(II)I"⟩
abbrev cX4_partsKnown : ByteArray := prog_6_method_10_code
def yX4_partsKnown : MethodName := ⟨RX4, "partsKnown", "(II)I"⟩
abbrev cX4_setKnown : ByteArray := prog_6_method_11_code
def yX4_setKnown : MethodName := ⟨RX4, "setKnown", "(IIII)V"⟩
abbrev cX4_learn : ByteArray := prog_6_method_12_code
def yX4_learn : MethodName := ⟨RX4, "learn", "(IIII)V"⟩
def RX5 : String := "RazorTalk$Town"
def TX5 : u_T := fun k => match k with
  | 0 => ("RazorTalk$Town", "barbers", "I", false)
  | 1 => ("RazorTalk$Town", "people", "I", false)
  | 2 => ("RazorTalk$Town", "rumours", "I", false)
  | 3 => ("RazorTalk$Town", "kinds", "LRazorTalk$Row;", true)
  | 4 => ("RazorTalk$Town", "secrets", "LRazorTalk$Row;", true)
  | 5 => ("RazorTalk$Town", "beards", "LRazorTalk$Row;", true)
  | _ => ("RazorTalk$Town", "rumourNumbers", "LRazorTalk$Row;", true)
def tyX5 : Nat → FieldType := fun k => match k with
  | 0 => .int
  | 1 => .int
  | 2 => .int
  | 3 => .object "RazorTalk$Row"
  | 4 => .object "RazorTalk$Row"
  | 5 => .object "RazorTalk$Row"
  | _ => .object "RazorTalk$Row"
abbrev wsX50 : List Cond := u_ws RX5 TX5 7
theorem nmX5 : ∀ a, a < 7 → ∀ b, b < 7 → a ≠ b → (TX5 a).2.1 ≠ (TX5 b).2.1 := by decide +kernel
theorem tyX5_ok : ∀ k, k < 7 → parseFieldDescriptor (TX5 k).2.2.1 = some (tyX5 k) := by decide +kernel
abbrev cX5_init : ByteArray := prog_7_method_1_code
def yX5_init : MethodName := ⟨RX5, "<init>", "()V"⟩
abbrev cX5_hear : ByteArray := prog_7_method_2_code
def yX5_hear : MethodName := ⟨RX5, "hear", "(IIII)V"⟩
abbrev cX5_found : ByteArray := prog_7_method_3_code
def yX5_found : MethodName := ⟨RX5, "found", "(I)V"⟩
abbrev cX5_addPerson : ByteArray := prog_7_method_4_code
def yX5_addPerson : MethodName := ⟨RX5, "addPerson", "(II)V"⟩
abbrev cX5_addRumour : ByteArray := prog_7_method_5_code
def yX5_addRumour : MethodName := ⟨RX5, "addRumour", "(I)V"⟩
abbrev cX5_kindOf : ByteArray := prog_7_method_6_code
def yX5_kindOf : MethodName := ⟨RX5, "kindOf", "(I)I"⟩
abbrev cX5_secretOf : ByteArray := prog_7_method_7_code
def yX5_secretOf : MethodName := ⟨RX5, "secretOf", "(I)I"⟩
abbrev cX5_toldBeard : ByteArray := prog_7_method_8_code
def yX5_toldBeard : MethodName := ⟨RX5, "toldBeard", "(II)I"⟩
abbrev cX5_rumourNumber : ByteArray := prog_7_method_9_code
def yX5_rumourNumber : MethodName := ⟨RX5, "rumourNumber", "(I)I"⟩
abbrev cX5_wouldTell : ByteArray := prog_7_method_10_code
def yX5_wouldTell : MethodName := ⟨RX5, "wouldTell", "(III)I"⟩
abbrev cX5_fitting : ByteArray := prog_7_method_11_code
def yX5_fitting : MethodName := ⟨RX5, "fitting", "(II)I"⟩
abbrev cX5_mostAlike : ByteArray := prog_7_method_12_code
def yX5_mostAlike : MethodName := ⟨RX5, "mostAlike", "(II)I"⟩
def RX6 : String := "RazorTalk"
def TX6 : u_T := fun k => match k with
  | 0 => ("RazorTalk", "script", "LRazorTalk$Script;", true)
  | 1 => ("RazorTalk", "town", "LRazorTalk$Town;", true)
  | 2 => ("RazorTalk", "standing", "LRazorTalk$Standing;", true)
  | 3 => ("RazorTalk", "sightings", "LRazorTalk$Sightings;", true)
  | 4 => ("RazorTalk", "past", "LRazorTalk$Shelf;", true)
  | 5 => ("RazorTalk", "kept", "LRazorTalk$Shelf;", true)
  | 6 => ("RazorTalk", "latest", "I", false)
  | 7 => ("RazorTalk", "undoable", "I", false)
  | _ => ("RazorTalk", "keptPlaces", "I", false)
def tyX6 : Nat → FieldType := fun k => match k with
  | 0 => .object "RazorTalk$Script"
  | 1 => .object "RazorTalk$Town"
  | 2 => .object "RazorTalk$Standing"
  | 3 => .object "RazorTalk$Sightings"
  | 4 => .object "RazorTalk$Shelf"
  | 5 => .object "RazorTalk$Shelf"
  | 6 => .int
  | 7 => .int
  | _ => .int
abbrev wsX60 : List Cond := u_ws RX6 TX6 9
theorem nmX6 : ∀ a, a < 9 → ∀ b, b < 9 → a ≠ b → (TX6 a).2.1 ≠ (TX6 b).2.1 := by decide +kernel
theorem tyX6_ok : ∀ k, k < 9 → parseFieldDescriptor (TX6 k).2.2.1 = some (tyX6 k) := by decide +kernel
abbrev cX6_init : ByteArray := prog_1_method_1_code
def yX6_init : MethodName := ⟨RX6, "<init>", "()V"⟩
abbrev cX6_write : ByteArray := prog_1_method_2_code
def yX6_write : MethodName := ⟨RX6, "write", "(I)I"⟩
abbrev cX6_erase : ByteArray := prog_1_method_3_code
def yX6_erase : MethodName := ⟨RX6, "erase", "()I"⟩
abbrev cX6_fault : ByteArray := prog_1_method_4_code
def yX6_fault : MethodName := ⟨RX6, "fault", "()I"⟩
abbrev cX6_town : ByteArray := prog_1_method_5_code
def yX6_town : MethodName := ⟨RX6, "town", "()I"⟩
abbrev cX6_person : ByteArray := prog_1_method_6_code
def yX6_person : MethodName := ⟨RX6, "person", "(II)I"⟩
abbrev cX6_beard : ByteArray := prog_1_method_7_code
def yX6_beard : MethodName := ⟨RX6, "beard", "(II)I"⟩
abbrev cX6_rumour : ByteArray := prog_1_method_8_code
def yX6_rumour : MethodName := ⟨RX6, "rumour", "(I)I"⟩
abbrev cX6_knows : ByteArray := prog_1_method_9_code
def yX6_knows : MethodName := ⟨RX6, "knows", "(III)I"⟩
abbrev cX6_as : ByteArray := prog_1_method_10_code
def yX6_as : MethodName := ⟨RX6, "as", "(II)I"⟩
abbrev cX6_shave : ByteArray := prog_1_method_11_code
def yX6_shave : MethodName := ⟨RX6, "shave", "(III)I"⟩
abbrev cX6_day : ByteArray := prog_1_method_12_code
def yX6_day : MethodName := ⟨RX6, "day", "()I"⟩
abbrev cX6_talk : ByteArray := prog_1_method_13_code
def yX6_talk : MethodName := ⟨RX6, "talk", "(III)I"⟩
abbrev cX6_burn : ByteArray := prog_1_method_14_code
def yX6_burn : MethodName := ⟨RX6, "burn", "(II)I"⟩
abbrev cX6_undo : ByteArray := prog_1_method_15_code
def yX6_undo : MethodName := ⟨RX6, "undo", "()I"⟩
abbrev cX6_keep : ByteArray := prog_1_method_16_code
def yX6_keep : MethodName := ⟨RX6, "keep", "(I)I"⟩
abbrev cX6_back : ByteArray := prog_1_method_17_code
def yX6_back : MethodName := ⟨RX6, "back", "(I)I"⟩
abbrev cX6_smooth : ByteArray := prog_1_method_18_code
def yX6_smooth : MethodName := ⟨RX6, "smooth", "(III)I"⟩
abbrev cX6_next : ByteArray := prog_1_method_19_code
def yX6_next : MethodName := ⟨RX6, "next", "(II)I"⟩
abbrev cX6_meet : ByteArray := prog_1_method_20_code
def yX6_meet : MethodName := ⟨RX6, "meet", "(II)I"⟩
abbrev cX6_round : ByteArray := prog_1_method_21_code
def yX6_round : MethodName := ⟨RX6, "round", "(III)I"⟩
abbrev cX6_seen : ByteArray := prog_1_method_22_code
def yX6_seen : MethodName := ⟨RX6, "seen", "(III)I"⟩
abbrev cX6_forget : ByteArray := prog_1_method_23_code
def yX6_forget : MethodName := ⟨RX6, "forget", "()I"⟩
abbrev cX6_was : ByteArray := prog_1_method_24_code
def yX6_was : MethodName := ⟨RX6, "was", "()I"⟩
abbrev cX6_stays : ByteArray := prog_1_method_25_code
def yX6_stays : MethodName := ⟨RX6, "stays", "(IIII)I"⟩
abbrev cX6_count : ByteArray := prog_1_method_26_code
def yX6_count : MethodName := ⟨RX6, "count", "(I)I"⟩
abbrev cX6_isPerson : ByteArray := prog_1_method_27_code
def yX6_isPerson : MethodName := ⟨RX6, "isPerson", "(I)Z"⟩
abbrev cX6_isBarber : ByteArray := prog_1_method_28_code
def yX6_isBarber : MethodName := ⟨RX6, "isBarber", "(I)Z"⟩
abbrev cX6_isRumour : ByteArray := prog_1_method_29_code
def yX6_isRumour : MethodName := ⟨RX6, "isRumour", "(I)Z"⟩
abbrev cX6_isStrip : ByteArray := prog_1_method_30_code
def yX6_isStrip : MethodName := ⟨RX6, "isStrip", "(I)Z"⟩
abbrev cX6_isSuch : ByteArray := prog_1_method_31_code
def yX6_isSuch : MethodName := ⟨RX6, "isSuch", "(II)Z"⟩
abbrev cX6_allBeards : ByteArray := prog_1_method_32_code
def yX6_allBeards : MethodName := ⟨RX6, "allBeards", "()I"⟩
abbrev cX6_allStripsKnown : ByteArray := prog_1_method_33_code
def yX6_allStripsKnown : MethodName := ⟨RX6, "allStripsKnown", "()I"⟩
abbrev cX6_telling : ByteArray := prog_1_method_34_code
def yX6_telling : MethodName := ⟨RX6, "telling", "(IIII)I"⟩
abbrev cX6_tellsNow : ByteArray := prog_1_method_35_code
def yX6_tellsNow : MethodName := ⟨RX6, "tellsNow", "(II)I"⟩
abbrev cX6_stripsTelling : ByteArray := prog_1_method_36_code
def yX6_stripsTelling : MethodName := ⟨RX6, "stripsTelling", "(I)I"⟩
abbrev cX6_partsTold : ByteArray := prog_1_method_37_code
def yX6_partsTold : MethodName := ⟨RX6, "partsTold", "(I)I"⟩
abbrev cX6_fittingBehind : ByteArray := prog_1_method_38_code
def yX6_fittingBehind : MethodName := ⟨RX6, "fittingBehind", "(IIII)I"⟩
abbrev cX6_fittingTogether : ByteArray := prog_1_method_39_code
def yX6_fittingTogether : MethodName := ⟨RX6, "fittingTogether", "(II)I"⟩
abbrev cX6_rememberForUndo : ByteArray := prog_1_method_40_code
def yX6_rememberForUndo : MethodName := ⟨RX6, "rememberForUndo", "()V"⟩
abbrev cX6_has : ByteArray := prog_1_method_41_code
def yX6_has : MethodName := ⟨RX6, "has", "(II)Z"⟩
abbrev cX6_replaced : ByteArray := prog_1_method_42_code
def yX6_replaced : MethodName := ⟨RX6, "replaced", "(III)I"⟩
abbrev cX6_weight : ByteArray := prog_1_method_43_code
def yX6_weight : MethodName := ⟨RX6, "weight", "(II)I"⟩
abbrev cX6_power : ByteArray := prog_1_method_44_code
def yX6_power : MethodName := ⟨RX6, "power", "(II)I"⟩
abbrev cX6_commonDivisor : ByteArray := prog_1_method_45_code
def yX6_commonDivisor : MethodName := ⟨RX6, "commonDivisor", "(II)I"⟩
def RX7 : String := "RazorTalkModel"
def TX7 : u_T := fun k => match k with
  | 0 => ("RazorTalkModel", "w", "[I", true)
  | 1 => ("RazorTalkModel", "told", "[I", true)
  | 2 => ("RazorTalkModel", "read", "[I", true)
  | 3 => ("RazorTalkModel", "isKept", "[Z", true)
  | 4 => ("RazorTalkModel", "undoes", "I", false)
  | 5 => ("RazorTalkModel", "text", "[I", true)
  | 6 => ("RazorTalkModel", "texted", "I", false)
  | 7 => ("RazorTalkModel", "seen", "I", false)
  | 8 => ("RazorTalkModel", "seenStrip", "[I", true)
  | 9 => ("RazorTalkModel", "seenBeard", "[I", true)
  | 10 => ("RazorTalkModel", "seenPart", "[I", true)
  | 11 => ("RazorTalkModel", "at", "I", false)
  | 12 => ("RazorTalkModel", "start", "I", false)
  | 13 => ("RazorTalkModel", "clauses", "I", false)
  | 14 => ("RazorTalkModel", "number", "I", false)
  | _ => ("RazorTalkModel", "word", "J", false)
def tyX7 : Nat → FieldType := fun k => match k with
  | 0 => .array .int
  | 1 => .array .int
  | 2 => .array .int
  | 3 => .array .boolean
  | 4 => .int
  | 5 => .array .int
  | 6 => .int
  | 7 => .int
  | 8 => .array .int
  | 9 => .array .int
  | 10 => .array .int
  | 11 => .int
  | 12 => .int
  | 13 => .int
  | 14 => .int
  | _ => .long
abbrev wsX70 : List Cond := u_ws RX7 TX7 16
theorem nmX7 : ∀ a, a < 16 → ∀ b, b < 16 → a ≠ b → (TX7 a).2.1 ≠ (TX7 b).2.1 := by decide +kernel
theorem tyX7_ok : ∀ k, k < 16 → parseFieldDescriptor (TX7 k).2.2.1 = some (tyX7 k) := by decide +kernel
abbrev cX7_init : ByteArray := prog_9_method_1_code
def yX7_init : MethodName := ⟨RX7, "<init>", "()V"⟩
abbrev cX7_in : ByteArray := prog_9_method_3_code
def yX7_in : MethodName := ⟨RX7, "in", "(JJJ)Z"⟩
abbrev cX7_has : ByteArray := prog_9_method_4_code
def yX7_has : MethodName := ⟨RX7, "has", "(II)Z"⟩
abbrev cX7_ones : ByteArray := prog_9_method_5_code
def yX7_ones : MethodName := ⟨RX7, "ones", "(I)I"⟩
abbrev cX7_copy : ByteArray := prog_9_method_6_code
def yX7_copy : MethodName := ⟨RX7, "copy", "(II)V"⟩
abbrev cX7_isPerson : ByteArray := prog_9_method_7_code
def yX7_isPerson : MethodName := ⟨RX7, "isPerson", "(I)Z"⟩
abbrev cX7_isBarber : ByteArray := prog_9_method_8_code
def yX7_isBarber : MethodName := ⟨RX7, "isBarber", "(I)Z"⟩
abbrev cX7_isRumour : ByteArray := prog_9_method_9_code
def yX7_isRumour : MethodName := ⟨RX7, "isRumour", "(I)Z"⟩
abbrev cX7_isStrip : ByteArray := prog_9_method_10_code
def yX7_isStrip : MethodName := ⟨RX7, "isStrip", "(I)Z"⟩
abbrev cX7_write : ByteArray := prog_9_method_11_code
def yX7_write : MethodName := ⟨RX7, "write", "(I)I"⟩
abbrev cX7_erase : ByteArray := prog_9_method_12_code
def yX7_erase : MethodName := ⟨RX7, "erase", "()I"⟩
abbrev cX7_letterAt : ByteArray := prog_9_method_13_code
def yX7_letterAt : MethodName := ⟨RX7, "letterAt", "(I)I"⟩
abbrev cX7_isSmall : ByteArray := prog_9_method_14_code
def yX7_isSmall : MethodName := ⟨RX7, "isSmall", "(I)Z"⟩
abbrev cX7_isDigit : ByteArray := prog_9_method_15_code
def yX7_isDigit : MethodName := ⟨RX7, "isDigit", "(I)Z"⟩
abbrev cX7_begins : ByteArray := prog_9_method_16_code
def yX7_begins : MethodName := ⟨RX7, "begins", "()V"⟩
abbrev cX7_takesWord : ByteArray := prog_9_method_17_code
def yX7_takesWord : MethodName := ⟨RX7, "takesWord", "()V"⟩
abbrev cX7_takesNumber : ByteArray := prog_9_method_18_code
def yX7_takesNumber : MethodName := ⟨RX7, "takesNumber", "(II)Z"⟩
abbrev cX7_takesOne : ByteArray := prog_9_method_19_code
def yX7_takesOne : MethodName := ⟨RX7, "takesOne", "(I)Z"⟩
abbrev cX7_takesTown : ByteArray := prog_9_method_20_code
def yX7_takesTown : MethodName := ⟨RX7, "takesTown", "()Z"⟩
abbrev cX7_takesRumour : ByteArray := prog_9_method_21_code
def yX7_takesRumour : MethodName := ⟨RX7, "takesRumour", "()Z"⟩
abbrev cX7_takesBeard : ByteArray := prog_9_method_22_code
def yX7_takesBeard : MethodName := ⟨RX7, "takesBeard", "()Z"⟩
abbrev cX7_takesClause : ByteArray := prog_9_method_23_code
def yX7_takesClause : MethodName := ⟨RX7, "takesClause", "()Z"⟩
abbrev cX7_reads : ByteArray := prog_9_method_24_code
def yX7_reads : MethodName := ⟨RX7, "reads", "()I"⟩
abbrev cX7_fault : ByteArray := prog_9_method_25_code
def yX7_fault : MethodName := ⟨RX7, "fault", "()I"⟩
abbrev cX7_town : ByteArray := prog_9_method_26_code
def yX7_town : MethodName := ⟨RX7, "town", "()I"⟩
abbrev cX7_tells : ByteArray := prog_9_method_27_code
def yX7_tells : MethodName := ⟨RX7, "tells", "(III)I"⟩
abbrev cX7_knowsPart : ByteArray := prog_9_method_28_code
def yX7_knowsPart : MethodName := ⟨RX7, "knowsPart", "(IIIII)V"⟩
abbrev cX7_shaves : ByteArray := prog_9_method_29_code
def yX7_shaves : MethodName := ⟨RX7, "shaves", "(IIII)I"⟩
abbrev cX7_fitsBy : ByteArray := prog_9_method_30_code
def yX7_fitsBy : MethodName := ⟨RX7, "fitsBy", "(II)I"⟩
abbrev cX7_many : ByteArray := prog_9_method_31_code
def yX7_many : MethodName := ⟨RX7, "many", "(I)I"⟩
abbrev cX7_fitsOf : ByteArray := prog_9_method_32_code
def yX7_fitsOf : MethodName := ⟨RX7, "fitsOf", "(III)I"⟩
abbrev cX7_beardsOf : ByteArray := prog_9_method_33_code
def yX7_beardsOf : MethodName := ⟨RX7, "beardsOf", "(I)I"⟩
abbrev cX7_smoothOf : ByteArray := prog_9_method_34_code
def yX7_smoothOf : MethodName := ⟨RX7, "smoothOf", "(I)I"⟩
abbrev cX7_person : ByteArray := prog_9_method_35_code
def yX7_person : MethodName := ⟨RX7, "person", "(II)I"⟩
abbrev cX7_beard : ByteArray := prog_9_method_36_code
def yX7_beard : MethodName := ⟨RX7, "beard", "(II)I"⟩
abbrev cX7_rumour : ByteArray := prog_9_method_37_code
def yX7_rumour : MethodName := ⟨RX7, "rumour", "(I)I"⟩
abbrev cX7_knows : ByteArray := prog_9_method_38_code
def yX7_knows : MethodName := ⟨RX7, "knows", "(III)I"⟩
abbrev cX7_as : ByteArray := prog_9_method_39_code
def yX7_as : MethodName := ⟨RX7, "as", "(II)I"⟩
abbrev cX7_minds : ByteArray := prog_9_method_40_code
def yX7_minds : MethodName := ⟨RX7, "minds", "()V"⟩
abbrev cX7_shave : ByteArray := prog_9_method_41_code
def yX7_shave : MethodName := ⟨RX7, "shave", "(III)I"⟩
abbrev cX7_day : ByteArray := prog_9_method_42_code
def yX7_day : MethodName := ⟨RX7, "day", "()I"⟩
abbrev cX7_talk : ByteArray := prog_9_method_43_code
def yX7_talk : MethodName := ⟨RX7, "talk", "(III)I"⟩
abbrev cX7_burn : ByteArray := prog_9_method_44_code
def yX7_burn : MethodName := ⟨RX7, "burn", "(II)I"⟩
abbrev cX7_undo : ByteArray := prog_9_method_45_code
def yX7_undo : MethodName := ⟨RX7, "undo", "()I"⟩
abbrev cX7_keep : ByteArray := prog_9_method_46_code
def yX7_keep : MethodName := ⟨RX7, "keep", "(I)I"⟩
abbrev cX7_back : ByteArray := prog_9_method_47_code
def yX7_back : MethodName := ⟨RX7, "back", "(I)I"⟩
abbrev cX7_triesSet : ByteArray := prog_9_method_48_code
def yX7_triesSet : MethodName := ⟨RX7, "triesSet", "(III)V"⟩
abbrev cX7_smooth : ByteArray := prog_9_method_49_code
def yX7_smooth : MethodName := ⟨RX7, "smooth", "(III)I"⟩
abbrev cX7_next : ByteArray := prog_9_method_50_code
def yX7_next : MethodName := ⟨RX7, "next", "(II)I"⟩
abbrev cX7_meet : ByteArray := prog_9_method_51_code
def yX7_meet : MethodName := ⟨RX7, "meet", "(II)I"⟩
abbrev cX7_round : ByteArray := prog_9_method_52_code
def yX7_round : MethodName := ⟨RX7, "round", "(III)I"⟩
abbrev cX7_seen : ByteArray := prog_9_method_53_code
def yX7_seen : MethodName := ⟨RX7, "seen", "(III)I"⟩
abbrev cX7_forget : ByteArray := prog_9_method_54_code
def yX7_forget : MethodName := ⟨RX7, "forget", "()I"⟩
abbrev cX7_was : ByteArray := prog_9_method_55_code
def yX7_was : MethodName := ⟨RX7, "was", "()I"⟩
abbrev cX7_stays : ByteArray := prog_9_method_56_code
def yX7_stays : MethodName := ⟨RX7, "stays", "(IIII)I"⟩
abbrev cX7_beardsOfAll : ByteArray := prog_9_method_57_code
def yX7_beardsOfAll : MethodName := ⟨RX7, "beardsOfAll", "()I"⟩
abbrev cX7_knownOfAll : ByteArray := prog_9_method_58_code
def yX7_knownOfAll : MethodName := ⟨RX7, "knownOfAll", "()I"⟩
abbrev cX7_count : ByteArray := prog_9_method_59_code
def yX7_count : MethodName := ⟨RX7, "count", "(I)I"⟩
def RJ6 : String := "java/lang/Integer"
def TJ6 : u_T := fun k => match k with
  | _ => ("", "", "", false)
def tyJ6 : Nat → FieldType := fun k => match k with
  | _ => .int
abbrev wsJ60 : List Cond := u_ws RJ6 TJ6 0
theorem nmJ6 : ∀ a, a < 0 → ∀ b, b < 0 → a ≠ b → (TJ6 a).2.1 ≠ (TJ6 b).2.1 := by decide +kernel
theorem tyJ6_ok : ∀ k, k < 0 → parseFieldDescriptor (TJ6 k).2.2.1 = some (tyJ6 k) := by decide +kernel
abbrev cJ6_bitCount_0f7a4 : ByteArray := prog_10_method_49_code
def yJ6_bitCount_0f7a4 : MethodName := ⟨RJ6, "bitCount", "(I)I"⟩
def RJ9 : String := "java/lang/Math"
def TJ9 : u_T := fun k => match k with
  | _ => ("", "", "", false)
def tyJ9 : Nat → FieldType := fun k => match k with
  | _ => .int
abbrev wsJ90 : List Cond := u_ws RJ9 TJ9 0
theorem nmJ9 : ∀ a, a < 0 → ∀ b, b < 0 → a ≠ b → (TJ9 a).2.1 ≠ (TJ9 b).2.1 := by decide +kernel
theorem tyJ9_ok : ∀ k, k < 0 → parseFieldDescriptor (TJ9 k).2.2.1 = some (tyJ9 k) := by decide +kernel
abbrev cJ9_max_7cf53 : ByteArray := prog_11_method_65_code
def yJ9_max_7cf53 : MethodName := ⟨RJ9, "max", "(II)I"⟩
abbrev cJ9_min_7cf53 : ByteArray := prog_11_method_69_code
def yJ9_min_7cf53 : MethodName := ⟨RJ9, "min", "(II)I"⟩
def RJ0 : String := "java/lang/String"
def TJ0 : u_T := fun k => match k with
  | _ => ("", "", "", false)
def tyJ0 : Nat → FieldType := fun k => match k with
  | _ => .int
abbrev wsJ00 : List Cond := u_ws RJ0 TJ0 0
theorem nmJ0 : ∀ a, a < 0 → ∀ b, b < 0 → a ≠ b → (TJ0 a).2.1 ≠ (TJ0 b).2.1 := by decide +kernel
theorem tyJ0_ok : ∀ k, k < 0 → parseFieldDescriptor (TJ0 k).2.2.1 = some (tyJ0 k) := by decide +kernel
abbrev cJ0_length_8abf5 : ByteArray := prog_12_method_54_code
def yJ0_length_8abf5 : MethodName := ⟨RJ0, "length", "()I"⟩
abbrev cJ0_charAt_5068e : ByteArray := prog_12_method_56_code
def yJ0_charAt_5068e : MethodName := ⟨RJ0, "charAt", "(I)C"⟩
abbrev cJ0_coder_7d493 : ByteArray := prog_12_method_152_code
def yJ0_coder_7d493 : MethodName := ⟨RJ0, "coder", "()B"⟩
abbrev cJ0_isLatin1_aae02 : ByteArray := prog_12_method_154_code
def yJ0_isLatin1_aae02 : MethodName := ⟨RJ0, "isLatin1", "()Z"⟩
abbrev cJ0_checkIndex_df160 : ByteArray := prog_12_method_155_code
def yJ0_checkIndex_df160 : MethodName := ⟨RJ0, "checkIndex", "(II)V"⟩
def RJ1 : String := "java/lang/StringLatin1"
def TJ1 : u_T := fun k => match k with
  | _ => ("", "", "", false)
def tyJ1 : Nat → FieldType := fun k => match k with
  | _ => .int
abbrev wsJ10 : List Cond := u_ws RJ1 TJ1 0
theorem nmJ1 : ∀ a, a < 0 → ∀ b, b < 0 → a ≠ b → (TJ1 a).2.1 ≠ (TJ1 b).2.1 := by decide +kernel
theorem tyJ1_ok : ∀ k, k < 0 → parseFieldDescriptor (TJ1 k).2.2.1 = some (tyJ1 k) := by decide +kernel
abbrev cJ1_charAt_3b067 : ByteArray := prog_13_method_2_code
def yJ1_charAt_3b067 : MethodName := ⟨RJ1, "charAt", "([BI)C"⟩
def RJ2 : String := "java/lang/StringUTF16"
def TJ2 : u_T := fun k => match k with
  | _ => ("", "", "", false)
def tyJ2 : Nat → FieldType := fun k => match k with
  | _ => .int
abbrev wsJ20 : List Cond := u_ws RJ2 TJ2 0
theorem nmJ2 : ∀ a, a < 0 → ∀ b, b < 0 → a ≠ b → (TJ2 a).2.1 ≠ (TJ2 b).2.1 := by decide +kernel
theorem tyJ2_ok : ∀ k, k < 0 → parseFieldDescriptor (TJ2 k).2.2.1 = some (tyJ2 k) := by decide +kernel
abbrev cJ2_getChar_3b067 : ByteArray := prog_14_method_5_code
def yJ2_getChar_3b067 : MethodName := ⟨RJ2, "getChar", "([BI)C"⟩
abbrev cJ2_length_9d52b : ByteArray := prog_14_method_6_code
def yJ2_length_9d52b : MethodName := ⟨RJ2, "length", "([B)I"⟩
abbrev cJ2_charAt_3b067 : ByteArray := prog_14_method_83_code
def yJ2_charAt_3b067 : MethodName := ⟨RJ2, "charAt", "([BI)C"⟩
abbrev cJ2_checkIndex_2214a : ByteArray := prog_14_method_91_code
def yJ2_checkIndex_2214a : MethodName := ⟨RJ2, "checkIndex", "(I[B)V"⟩
def RJ10 : String := "java/lang/System"
def TJ10 : u_T := fun k => match k with
  | _ => ("", "", "", false)
def tyJ10 : Nat → FieldType := fun k => match k with
  | _ => .int
abbrev wsJ100 : List Cond := u_ws RJ10 TJ10 0
theorem nmJ10 : ∀ a, a < 0 → ∀ b, b < 0 → a ≠ b → (TJ10 a).2.1 ≠ (TJ10 b).2.1 := by decide +kernel
theorem tyJ10_ok : ∀ k, k < 0 → parseFieldDescriptor (TJ10 k).2.2.1 = some (tyJ10 k) := by decide +kernel
def RJ3 : String := "jdk/internal/util/Preconditions"
def TJ3 : u_T := fun k => match k with
  | _ => ("", "", "", false)
def tyJ3 : Nat → FieldType := fun k => match k with
  | _ => .int
abbrev wsJ30 : List Cond := u_ws RJ3 TJ3 0
theorem nmJ3 : ∀ a, a < 0 → ∀ b, b < 0 → a ≠ b → (TJ3 a).2.1 ≠ (TJ3 b).2.1 := by decide +kernel
theorem tyJ3_ok : ∀ k, k < 0 → parseFieldDescriptor (TJ3 k).2.2.1 = some (tyJ3 k) := by decide +kernel
abbrev cJ3_checkIndex_8e157 : ByteArray := prog_16_method_11_code
def yJ3_checkIndex_8e157 : MethodName := ⟨RJ3, "checkIndex", "(IILjava/util/function/BiFunction;)I"⟩
def RL : String := "RazorTalkLaw"
abbrev cL_law : ByteArray := code
def yL_law : MethodName := ⟨RL, "law", "([I)Z"⟩
def wsL_law_r1 : List Cond := [Cond.classLink RL 7 RX6, Cond.instantiable RX6 9, Cond.initialized RX6, Cond.classLink RL 10 RX7, Cond.instantiable RX7 16, Cond.initialized RX7, Cond.methodLink RL 9 yX6_init, Cond.instanceMethod yX6_init, Cond.code yX6_init cX6_init 1 none, Cond.methodLink RX6 1 objectInit, Cond.instanceMethod objectInit, Cond.code objectInit ⟨#[0xb1]⟩ 1 none, Cond.classLink RX6 7 RX1, Cond.instantiable RX1 9, Cond.initialized RX1, Cond.fieldLink RX6 10 "RazorTalk" "script" "LRazorTalk$Script;", Cond.classLink RX6 16 RX5, Cond.instantiable RX5 7, Cond.initialized RX5, Cond.fieldLink RX6 19 "RazorTalk" "town" "LRazorTalk$Town;", Cond.classLink RX6 23 RX4, Cond.instantiable RX4 1, Cond.initialized RX4, Cond.fieldLink RX6 26 "RazorTalk" "standing" "LRazorTalk$Standing;"]
def wsL_law_r2 : List Cond := [Cond.classLink RX6 30 RX3, Cond.instantiable RX3 4, Cond.initialized RX3, Cond.fieldLink RX6 33 "RazorTalk" "sightings" "LRazorTalk$Sightings;", Cond.classLink RX6 37 RX2, Cond.instantiable RX2 1, Cond.initialized RX2, Cond.fieldLink RX6 42 "RazorTalk" "past" "LRazorTalk$Shelf;", Cond.fieldLink RX6 46 "RazorTalk" "kept" "LRazorTalk$Shelf;", Cond.fieldLink RX6 49 "RazorTalk" "latest" "I", Cond.fieldLink RX6 53 "RazorTalk" "undoable" "I", Cond.fieldLink RX6 56 "RazorTalk" "keptPlaces" "I", Cond.methodLink RX6 9 yX1_init, Cond.instanceMethod yX1_init, Cond.code yX1_init cX1_init 1 none, Cond.methodLink RX1 3 objectInit, Cond.classLink RX1 9 RX0, Cond.instantiable RX0 1, Cond.initialized RX0, Cond.fieldLink RX1 14 "RazorTalk$Script" "letters" "LRazorTalk$Row;", Cond.fieldLink RX1 20 "RazorTalk$Script" "words" "LRazorTalk$Row;", Cond.fieldLink RX1 23 "RazorTalk$Script" "numbers" "LRazorTalk$Row;", Cond.methodLink RX1 11 yX0_init, Cond.instanceMethod yX0_init]
def wsL_law_r3 : List Cond := [Cond.code yX0_init cX0_init 2 none, Cond.methodLink RX0 1 objectInit, Cond.methodLink RX0 7 Lib.Math.max.name, Cond.static Lib.Math.max.name, Cond.initialized "java/lang/Math", Cond.code Lib.Math.max.name Lib.Math.max.code 2 (some .int), Cond.arrayClass .int, Cond.fieldLink RX0 13 "RazorTalk$Row" "cells" "[I", Cond.methodLink RX6 18 yX5_init, Cond.instanceMethod yX5_init, Cond.code yX5_init cX5_init 1 none, Cond.methodLink RX5 3 objectInit, Cond.fieldLink RX5 9 "RazorTalk$Town" "barbers" "I", Cond.classLink RX5 15 RX0, Cond.fieldLink RX5 20 "RazorTalk$Town" "kinds" "LRazorTalk$Row;", Cond.fieldLink RX5 24 "RazorTalk$Town" "secrets" "LRazorTalk$Row;", Cond.fieldLink RX5 27 "RazorTalk$Town" "beards" "LRazorTalk$Row;", Cond.fieldLink RX5 30 "RazorTalk$Town" "rumourNumbers" "LRazorTalk$Row;", Cond.methodLink RX5 17 yX0_init, Cond.methodLink RX6 25 yX4_init, Cond.instanceMethod yX4_init, Cond.code yX4_init cX4_init 1 none, Cond.methodLink RX4 5 objectInit, Cond.classLink RX4 11 RX0]
def wsL_law_r4 : List Cond := [Cond.fieldLink RX4 16 "RazorTalk$Standing" "cells" "LRazorTalk$Row;", Cond.methodLink RX4 13 yX0_init, Cond.methodLink RX6 32 yX3_init, Cond.instanceMethod yX3_init, Cond.code yX3_init cX3_init 1 none, Cond.methodLink RX3 3 objectInit, Cond.classLink RX3 9 RX0, Cond.fieldLink RX3 14 "RazorTalk$Sightings" "strips" "LRazorTalk$Row;", Cond.fieldLink RX3 20 "RazorTalk$Sightings" "beards" "LRazorTalk$Row;", Cond.fieldLink RX3 23 "RazorTalk$Sightings" "parts" "LRazorTalk$Row;", Cond.methodLink RX3 11 yX0_init, Cond.methodLink RX6 39 yX2_init, Cond.instanceMethod yX2_init, Cond.code yX2_init cX2_init 2 none, Cond.methodLink RX2 1 objectInit, Cond.classLink RX2 7 RX0, Cond.fieldLink RX2 14 "RazorTalk$Shelf" "cells" "LRazorTalk$Row;", Cond.methodLink RX2 11 yX0_init, Cond.methodLink RL 12 yX7_init, Cond.instanceMethod yX7_init, Cond.code yX7_init cX7_init 1 none, Cond.methodLink RX7 1 objectInit, Cond.fieldLink RX7 7 "RazorTalkModel" "w" "[I", Cond.fieldLink RX7 13 "RazorTalkModel" "told" "[I"]
def wsL_law_r5 : List Cond := [Cond.fieldLink RX7 16 "RazorTalkModel" "read" "[I", Cond.arrayClass .boolean, Cond.fieldLink RX7 19 "RazorTalkModel" "isKept" "[Z", Cond.fieldLink RX7 23 "RazorTalkModel" "text" "[I", Cond.fieldLink RX7 26 "RazorTalkModel" "seenStrip" "[I", Cond.fieldLink RX7 29 "RazorTalkModel" "seenBeard" "[I", Cond.fieldLink RX7 32 "RazorTalkModel" "seenPart" "[I", Cond.methodLink RL 13 yX6_write, Cond.instanceMethod yX6_write, Cond.selects RX6 yX6_write yX6_write, Cond.code yX6_write cX6_write 2 (some .int), Cond.fieldLink RX6 59 "RazorTalk$Script" "length" "I", Cond.methodLink RX6 62 yX1_addLetter, Cond.instanceMethod yX1_addLetter, Cond.selects RX1 yX1_addLetter yX1_addLetter, Cond.code yX1_addLetter cX1_addLetter 2 none, Cond.fieldLink RX1 26 "RazorTalk$Script" "length" "I", Cond.methodLink RX1 34 Lib.Math.min.name, Cond.static Lib.Math.min.name, Cond.code Lib.Math.min.name Lib.Math.min.code 2 (some .int), Cond.methodLink RX1 30 yX0_put, Cond.instanceMethod yX0_put, Cond.selects RX0 yX0_put yX0_put, Cond.code yX0_put cX0_put 3 none]
def wsL_law_r6 : List Cond := [Cond.methodLink RL 17 yX7_write, Cond.instanceMethod yX7_write, Cond.selects RX7 yX7_write yX7_write, Cond.code yX7_write cX7_write 2 (some .int), Cond.constantLong RX7 41 (255), Cond.fieldLink RX7 43 "RazorTalkModel" "texted" "I", Cond.methodLink RX7 35 yX7_in, Cond.static yX7_in, Cond.code yX7_in cX7_in 6 (some .boolean), Cond.methodLink RL 18 yX6_erase, Cond.instanceMethod yX6_erase, Cond.selects RX6 yX6_erase yX6_erase, Cond.code yX6_erase cX6_erase 2 (some .int), Cond.methodLink RX6 65 yX1_empty, Cond.instanceMethod yX1_empty, Cond.selects RX1 yX1_empty yX1_empty, Cond.code yX1_empty cX1_empty 1 none, Cond.methodLink RL 22 yX7_erase, Cond.instanceMethod yX7_erase, Cond.selects RX7 yX7_erase yX7_erase, Cond.code yX7_erase cX7_erase 2 (some .int), Cond.methodLink RL 23 yX6_fault, Cond.instanceMethod yX6_fault, Cond.selects RX6 yX6_fault yX6_fault]
def wsL_law_r7 : List Cond := [Cond.code yX6_fault cX6_fault 1 (some .int), Cond.fieldLink RX6 68 "RazorTalk$Town" "people" "I", Cond.fieldLink RX6 71 "RazorTalk$Town" "rumours" "I", Cond.methodLink RX6 74 yX1_readAll, Cond.instanceMethod yX1_readAll, Cond.selects RX1 yX1_readAll yX1_readAll, Cond.code yX1_readAll cX1_readAll 3 (some .int), Cond.fieldLink RX1 44 "RazorTalk$Script" "people" "I", Cond.fieldLink RX1 47 "RazorTalk$Script" "rumours" "I", Cond.fieldLink RX1 50 "RazorTalk$Script" "clauses" "I", Cond.fieldLink RX1 53 "RazorTalk$Script" "end" "I", Cond.fieldLink RX1 63 "RazorTalk$Script" "begin" "I", Cond.methodLink RX1 56 yX1_step, Cond.instanceMethod yX1_step, Cond.selects RX1 yX1_step yX1_step, Cond.code yX1_step cX1_step 2 none, Cond.methodLink RX1 40 yX0_at, Cond.instanceMethod yX0_at, Cond.selects RX0 yX0_at yX0_at, Cond.code yX0_at cX0_at 2 (some .int), Cond.methodLink RX1 84 yX1_sortAt, Cond.instanceMethod yX1_sortAt, Cond.selects RX1 yX1_sortAt yX1_sortAt, Cond.code yX1_sortAt cX1_sortAt 3 (some .int)]
def wsL_law_r8 : List Cond := [Cond.methodLink RX1 59 yX1_readClause, Cond.instanceMethod yX1_readClause, Cond.selects RX1 yX1_readClause yX1_readClause, Cond.code yX1_readClause cX1_readClause 2 (some .boolean), Cond.methodLink RX1 66 yX1_wordHere, Cond.instanceMethod yX1_wordHere, Cond.selects RX1 yX1_wordHere yX1_wordHere, Cond.code yX1_wordHere cX1_wordHere 2 (some .int), Cond.methodLink RX1 87 yX1_spelling, Cond.static yX1_spelling, Cond.code yX1_spelling cX1_spelling 1 (some (.object "java/lang/String")), Cond.methodLink RX1 91 yX1_isHere, Cond.instanceMethod yX1_isHere, Cond.selects RX1 yX1_isHere yX1_isHere, Cond.code yX1_isHere cX1_isHere 3 (some .boolean), Cond.methodLink RX1 95 yJ0_length_8abf5, Cond.instanceMethod yJ0_length_8abf5, Cond.selects RJ0 yJ0_length_8abf5 yJ0_length_8abf5, Cond.initialized RJ0, Cond.code yJ0_length_8abf5 cJ0_length_8abf5 1 (some .int), Cond.fieldLink RJ0 9 "java/lang/String" "value" "[B", Cond.methodLink RJ0 335 yJ0_coder_7d493, Cond.instanceMethod yJ0_coder_7d493, Cond.selects RJ0 yJ0_coder_7d493 yJ0_coder_7d493]
def wsL_law_r9 : List Cond := [Cond.code yJ0_coder_7d493 cJ0_coder_7d493 1 (some .byte), Cond.fieldLink RJ0 38 "java/lang/String" "COMPACT_STRINGS" "Z", Cond.fieldLink RJ0 15 "java/lang/String" "coder" "B", Cond.methodLink RX1 99 yJ0_charAt_5068e, Cond.instanceMethod yJ0_charAt_5068e, Cond.selects RJ0 yJ0_charAt_5068e yJ0_charAt_5068e, Cond.code yJ0_charAt_5068e cJ0_charAt_5068e 2 (some .char), Cond.methodLink RJ0 492 yJ0_isLatin1_aae02, Cond.instanceMethod yJ0_isLatin1_aae02, Cond.selects RJ0 yJ0_isLatin1_aae02 yJ0_isLatin1_aae02, Cond.code yJ0_isLatin1_aae02 cJ0_isLatin1_aae02 1 (some .boolean), Cond.methodLink RJ0 495 yJ1_charAt_3b067, Cond.static yJ1_charAt_3b067, Cond.initialized RJ1, Cond.code yJ1_charAt_3b067 cJ1_charAt_3b067 2 (some .char), Cond.methodLink RJ1 9 yJ0_checkIndex_df160, Cond.static yJ0_checkIndex_df160, Cond.code yJ0_checkIndex_df160 cJ0_checkIndex_df160 2 none, Cond.fieldLink RJ0 1053 "jdk/internal/util/Preconditions" "SIOOBE_FORMATTER" "Ljava/util/function/BiFunction;", Cond.methodLink RJ0 1059 yJ3_checkIndex_8e157, Cond.static yJ3_checkIndex_8e157, Cond.initialized RJ3, Cond.code yJ3_checkIndex_8e157 cJ3_checkIndex_8e157 3 (some .int), Cond.methodLink RJ0 498 yJ2_charAt_3b067]
def wsL_law_r10 : List Cond := [Cond.static yJ2_charAt_3b067, Cond.initialized RJ2, Cond.code yJ2_charAt_3b067 cJ2_charAt_3b067 2 (some .char), Cond.methodLink RJ2 67 yJ2_checkIndex_2214a, Cond.static yJ2_checkIndex_2214a, Cond.code yJ2_checkIndex_2214a cJ2_checkIndex_2214a 2 none, Cond.methodLink RJ2 48 yJ2_length_9d52b, Cond.static yJ2_length_9d52b, Cond.code yJ2_length_9d52b cJ2_length_9d52b 1 (some .int), Cond.methodLink RJ2 414 yJ0_checkIndex_df160, Cond.methodLink RJ2 71 yJ2_getChar_3b067, Cond.static yJ2_getChar_3b067, Cond.code yJ2_getChar_3b067 cJ2_getChar_3b067 2 (some .char), Cond.fieldLink RJ2 44 "java/lang/StringUTF16" "$assertionsDisabled" "Z", Cond.fieldLink RJ2 59 "java/lang/StringUTF16" "HI_BYTE_SHIFT" "I", Cond.fieldLink RJ2 63 "java/lang/StringUTF16" "LO_BYTE_SHIFT" "I", Cond.methodLink RX1 70 yX1_canStand, Cond.instanceMethod yX1_canStand, Cond.selects RX1 yX1_canStand yX1_canStand, Cond.code yX1_canStand cX1_canStand 2 (some .boolean), Cond.methodLink RX1 74 yX1_countIn, Cond.instanceMethod yX1_countIn, Cond.selects RX1 yX1_countIn yX1_countIn, Cond.code yX1_countIn cX1_countIn 2 none]
def wsL_law_r11 : List Cond := [Cond.methodLink RX1 77 yX1_readNumber, Cond.instanceMethod yX1_readNumber, Cond.selects RX1 yX1_readNumber yX1_readNumber, Cond.code yX1_readNumber cX1_readNumber 5 (some .boolean), Cond.methodLink RX1 81 yX1_numberHere, Cond.instanceMethod yX1_numberHere, Cond.selects RX1 yX1_numberHere yX1_numberHere, Cond.code yX1_numberHere cX1_numberHere 3 (some .int), Cond.methodLink RL 26 yX7_fault, Cond.instanceMethod yX7_fault, Cond.selects RX7 yX7_fault yX7_fault, Cond.code yX7_fault cX7_fault 1 (some .int), Cond.methodLink RX7 122 yX7_reads, Cond.instanceMethod yX7_reads, Cond.selects RX7 yX7_reads yX7_reads, Cond.code yX7_reads cX7_reads 2 (some .int), Cond.fieldLink RX7 59 "RazorTalkModel" "at" "I", Cond.fieldLink RX7 116 "RazorTalkModel" "clauses" "I", Cond.fieldLink RX7 62 "RazorTalkModel" "start" "I", Cond.methodLink RX7 119 yX7_takesClause, Cond.instanceMethod yX7_takesClause, Cond.selects RX7 yX7_takesClause yX7_takesClause, Cond.code yX7_takesClause cX7_takesClause 1 (some .boolean), Cond.fieldLink RX7 68 "RazorTalkModel" "word" "J"]
def wsL_law_r12 : List Cond := [Cond.constantLong RX7 89 (1953462126), Cond.constantLong RX7 95 (482854660462), Cond.constantLong RX7 100 (108170520061284), Cond.constantLong RX7 102 (8243121572520813924), Cond.constantLong RX7 104 (121398918604132), Cond.constantLong RX7 106 (125848672761202), Cond.constantLong RX7 111 (422607680100), Cond.methodLink RX7 86 yX7_takesWord, Cond.instanceMethod yX7_takesWord, Cond.selects RX7 yX7_takesWord yX7_takesWord, Cond.code yX7_takesWord cX7_takesWord 1 none, Cond.methodLink RX7 65 yX7_begins, Cond.instanceMethod yX7_begins, Cond.selects RX7 yX7_begins yX7_begins, Cond.code yX7_begins cX7_begins 1 none, Cond.methodLink RX7 47 yX7_letterAt, Cond.instanceMethod yX7_letterAt, Cond.selects RX7 yX7_letterAt yX7_letterAt, Cond.code yX7_letterAt cX7_letterAt 2 (some .int), Cond.methodLink RX7 72 yX7_isSmall, Cond.instanceMethod yX7_isSmall, Cond.selects RX7 yX7_isSmall yX7_isSmall, Cond.code yX7_isSmall cX7_isSmall 2 (some .boolean), Cond.constantLong RX7 51 (97)]
def wsL_law_r13 : List Cond := [Cond.constantLong RX7 53 (122), Cond.methodLink RX7 91 yX7_takesTown, Cond.instanceMethod yX7_takesTown, Cond.selects RX7 yX7_takesTown yX7_takesTown, Cond.code yX7_takesTown cX7_takesTown 1 (some .boolean), Cond.fieldLink RX7 76 "RazorTalkModel" "number" "I", Cond.methodLink RX7 82 yX7_takesNumber, Cond.instanceMethod yX7_takesNumber, Cond.selects RX7 yX7_takesNumber yX7_takesNumber, Cond.code yX7_takesNumber cX7_takesNumber 3 (some .boolean), Cond.methodLink RX7 79 yX7_isDigit, Cond.instanceMethod yX7_isDigit, Cond.selects RX7 yX7_isDigit yX7_isDigit, Cond.code yX7_isDigit cX7_isDigit 2 (some .boolean), Cond.constantLong RX7 55 (48), Cond.constantLong RX7 57 (57), Cond.methodLink RX7 97 yX7_takesOne, Cond.instanceMethod yX7_takesOne, Cond.selects RX7 yX7_takesOne yX7_takesOne, Cond.code yX7_takesOne cX7_takesOne 4 (some .boolean), Cond.methodLink RX7 108 yX7_takesRumour, Cond.instanceMethod yX7_takesRumour, Cond.selects RX7 yX7_takesRumour yX7_takesRumour, Cond.code yX7_takesRumour cX7_takesRumour 1 (some .boolean)]
def wsL_law_r14 : List Cond := [Cond.methodLink RX7 113 yX7_takesBeard, Cond.instanceMethod yX7_takesBeard, Cond.selects RX7 yX7_takesBeard yX7_takesBeard, Cond.code yX7_takesBeard cX7_takesBeard 3 (some .boolean), Cond.methodLink RL 27 yX6_town, Cond.instanceMethod yX6_town, Cond.selects RX6 yX6_town yX6_town, Cond.code yX6_town cX6_town 3 (some .int), Cond.fieldLink RX6 78 "RazorTalk$Script" "clauses" "I", Cond.methodLink RX6 81 yX1_wordOf, Cond.instanceMethod yX1_wordOf, Cond.selects RX1 yX1_wordOf yX1_wordOf, Cond.code yX1_wordOf cX1_wordOf 2 (some .int), Cond.methodLink RX6 85 yX1_numberOf, Cond.instanceMethod yX1_numberOf, Cond.selects RX1 yX1_numberOf yX1_numberOf, Cond.code yX1_numberOf cX1_numberOf 3 (some .int), Cond.methodLink RX6 88 yX5_hear, Cond.instanceMethod yX5_hear, Cond.selects RX5 yX5_hear yX5_hear, Cond.code yX5_hear cX5_hear 5 none, Cond.methodLink RX5 33 yX5_found, Cond.instanceMethod yX5_found, Cond.selects RX5 yX5_found yX5_found]
def wsL_law_r15 : List Cond := [Cond.code yX5_found cX5_found 2 none, Cond.methodLink RX5 46 Lib.Math.min.name, Cond.methodLink RX5 52 Lib.Math.max.name, Cond.fieldLink RX5 55 "RazorTalk$Town" "people" "I", Cond.fieldLink RX5 58 "RazorTalk$Town" "rumours" "I", Cond.methodLink RX5 61 yX0_zero, Cond.instanceMethod yX0_zero, Cond.selects RX0 yX0_zero yX0_zero, Cond.code yX0_zero cX0_zero 2 none, Cond.methodLink RX5 36 yX5_addRumour, Cond.instanceMethod yX5_addRumour, Cond.selects RX5 yX5_addRumour yX5_addRumour, Cond.code yX5_addRumour cX5_addRumour 2 none, Cond.methodLink RX5 39 yX0_put, Cond.methodLink RX5 43 yX5_addPerson, Cond.instanceMethod yX5_addPerson, Cond.selects RX5 yX5_addPerson yX5_addPerson, Cond.code yX5_addPerson cX5_addPerson 3 none, Cond.methodLink RX6 92 yX4_startAfresh, Cond.instanceMethod yX4_startAfresh, Cond.selects RX4 yX4_startAfresh yX4_startAfresh, Cond.code yX4_startAfresh cX4_startAfresh 4 none, Cond.fieldLink RX4 23 "RazorTalk$Town" "people" "I", Cond.methodLink RX4 20 yX0_zero]
def wsL_law_r16 : List Cond := [Cond.methodLink RX4 29 yX5_toldBeard, Cond.instanceMethod yX5_toldBeard, Cond.selects RX5 yX5_toldBeard yX5_toldBeard, Cond.code yX5_toldBeard cX5_toldBeard 3 (some .int), Cond.methodLink RX5 64 yX0_at, Cond.methodLink RX4 33 yX4_setBeard, Cond.instanceMethod yX4_setBeard, Cond.selects RX4 yX4_setBeard yX4_setBeard, Cond.code yX4_setBeard cX4_setBeard 4 none, Cond.methodLink RX4 45 yX0_put, Cond.methodLink RX6 96 yX3_clear, Cond.instanceMethod yX3_clear, Cond.selects RX3 yX3_clear yX3_clear, Cond.code yX3_clear cX3_clear 1 none, Cond.fieldLink RX3 26 "RazorTalk$Sightings" "number" "I", Cond.methodLink RL 30 yX7_town, Cond.instanceMethod yX7_town, Cond.selects RX7 yX7_town yX7_town, Cond.code yX7_town cX7_town 2 (some .int), Cond.fieldLink RX7 126 "RazorTalkModel" "seen" "I", Cond.fieldLink RX7 129 "RazorTalkModel" "undoes" "I", Cond.methodLink RL 31 yX6_person, Cond.instanceMethod yX6_person, Cond.selects RX6 yX6_person yX6_person]
def wsL_law_r17 : List Cond := [Cond.code yX6_person cX6_person 3 (some .int), Cond.methodLink RX6 99 yX6_isPerson, Cond.instanceMethod yX6_isPerson, Cond.selects RX6 yX6_isPerson yX6_isPerson, Cond.code yX6_isPerson cX6_isPerson 2 (some .boolean), Cond.methodLink RX6 103 yX5_kindOf, Cond.instanceMethod yX5_kindOf, Cond.selects RX5 yX5_kindOf yX5_kindOf, Cond.code yX5_kindOf cX5_kindOf 2 (some .int), Cond.methodLink RX6 106 yX5_secretOf, Cond.instanceMethod yX5_secretOf, Cond.selects RX5 yX5_secretOf yX5_secretOf, Cond.code yX5_secretOf cX5_secretOf 2 (some .int), Cond.methodLink RX6 109 yX4_bareStrips, Cond.instanceMethod yX4_bareStrips, Cond.selects RX4 yX4_bareStrips yX4_bareStrips, Cond.code yX4_bareStrips cX4_bareStrips 4 (some .int), Cond.methodLink RX4 49 yX4_beardOn, Cond.instanceMethod yX4_beardOn, Cond.selects RX4 yX4_beardOn yX4_beardOn, Cond.code yX4_beardOn cX4_beardOn 3 (some .int), Cond.methodLink RX4 37 yX0_at, Cond.methodLink RX6 112 yX4_beardsOf, Cond.instanceMethod yX4_beardsOf]
def wsL_law_r18 : List Cond := [Cond.selects RX4 yX4_beardsOf yX4_beardsOf, Cond.code yX4_beardsOf cX4_beardsOf 4 (some .int), Cond.methodLink RL 35 yX7_person, Cond.instanceMethod yX7_person, Cond.selects RX7 yX7_person yX7_person, Cond.code yX7_person cX7_person 3 (some .int), Cond.methodLink RX7 144 yX7_isPerson, Cond.instanceMethod yX7_isPerson, Cond.selects RX7 yX7_isPerson yX7_isPerson, Cond.code yX7_isPerson cX7_isPerson 2 (some .boolean), Cond.methodLink RX7 147 yX7_smoothOf, Cond.instanceMethod yX7_smoothOf, Cond.selects RX7 yX7_smoothOf yX7_smoothOf, Cond.code yX7_smoothOf cX7_smoothOf 4 (some .int), Cond.methodLink RX7 150 yX7_beardsOf, Cond.instanceMethod yX7_beardsOf, Cond.selects RX7 yX7_beardsOf yX7_beardsOf, Cond.code yX7_beardsOf cX7_beardsOf 4 (some .int), Cond.methodLink RL 36 yX6_beard, Cond.instanceMethod yX6_beard, Cond.selects RX6 yX6_beard yX6_beard, Cond.code yX6_beard cX6_beard 3 (some .int), Cond.methodLink RX6 115 yX6_isStrip, Cond.static yX6_isStrip]
def wsL_law_r19 : List Cond := [Cond.code yX6_isStrip cX6_isStrip 1 (some .boolean), Cond.methodLink RX6 118 yX4_beardOn, Cond.methodLink RL 39 yX7_beard, Cond.instanceMethod yX7_beard, Cond.selects RX7 yX7_beard yX7_beard, Cond.code yX7_beard cX7_beard 3 (some .int), Cond.methodLink RX7 153 yX7_isStrip, Cond.static yX7_isStrip, Cond.code yX7_isStrip cX7_isStrip 1 (some .boolean), Cond.constantLong RX7 39 (5), Cond.methodLink RL 40 yX6_rumour, Cond.instanceMethod yX6_rumour, Cond.selects RX6 yX6_rumour yX6_rumour, Cond.code yX6_rumour cX6_rumour 2 (some .int), Cond.methodLink RX6 121 yX6_isRumour, Cond.instanceMethod yX6_isRumour, Cond.selects RX6 yX6_isRumour yX6_isRumour, Cond.code yX6_isRumour cX6_isRumour 2 (some .boolean), Cond.methodLink RX6 124 yX5_rumourNumber, Cond.instanceMethod yX5_rumourNumber, Cond.selects RX5 yX5_rumourNumber yX5_rumourNumber, Cond.code yX5_rumourNumber cX5_rumourNumber 2 (some .int), Cond.methodLink RL 43 yX7_rumour, Cond.instanceMethod yX7_rumour]
def wsL_law_r20 : List Cond := [Cond.selects RX7 yX7_rumour yX7_rumour, Cond.code yX7_rumour cX7_rumour 2 (some .int), Cond.methodLink RX7 156 yX7_isRumour, Cond.instanceMethod yX7_isRumour, Cond.selects RX7 yX7_isRumour yX7_isRumour, Cond.code yX7_isRumour cX7_isRumour 2 (some .boolean), Cond.methodLink RL 44 yX6_knows, Cond.instanceMethod yX6_knows, Cond.selects RX6 yX6_knows yX6_knows, Cond.code yX6_knows cX6_knows 6 (some .int), Cond.methodLink RX6 127 yX6_isBarber, Cond.instanceMethod yX6_isBarber, Cond.selects RX6 yX6_isBarber yX6_isBarber, Cond.code yX6_isBarber cX6_isBarber 2 (some .boolean), Cond.fieldLink RX6 194 "RazorTalk$Town" "barbers" "I", Cond.methodLink RX6 130 yX4_stripsKnown, Cond.instanceMethod yX4_stripsKnown, Cond.selects RX4 yX4_stripsKnown yX4_stripsKnown, Cond.code yX4_stripsKnown cX4_stripsKnown 3 (some .int), Cond.methodLink RX6 133 yX4_partsKnown, Cond.instanceMethod yX4_partsKnown, Cond.selects RX4 yX4_partsKnown yX4_partsKnown, Cond.code yX4_partsKnown cX4_partsKnown 3 (some .int), Cond.methodLink RX6 136 yX5_fitting]
def wsL_law_r21 : List Cond := [Cond.instanceMethod yX5_fitting, Cond.selects RX5 yX5_fitting yX5_fitting, Cond.code yX5_fitting cX5_fitting 5 (some .int), Cond.methodLink RX5 78 yX5_rumourNumber, Cond.methodLink RL 48 yX7_knows, Cond.instanceMethod yX7_knows, Cond.selects RX7 yX7_knows yX7_knows, Cond.code yX7_knows cX7_knows 5 (some .int), Cond.methodLink RX7 159 yX7_isBarber, Cond.instanceMethod yX7_isBarber, Cond.selects RX7 yX7_isBarber yX7_isBarber, Cond.code yX7_isBarber cX7_isBarber 2 (some .boolean), Cond.methodLink RX7 162 yX7_fitsOf, Cond.instanceMethod yX7_fitsOf, Cond.selects RX7 yX7_fitsOf yX7_fitsOf, Cond.code yX7_fitsOf cX7_fitsOf 5 (some .int), Cond.methodLink RX7 140 yX7_fitsBy, Cond.instanceMethod yX7_fitsBy, Cond.selects RX7 yX7_fitsBy yX7_fitsBy, Cond.code yX7_fitsBy cX7_fitsBy 5 (some .int), Cond.methodLink RL 49 yX6_as, Cond.instanceMethod yX6_as, Cond.selects RX6 yX6_as yX6_as, Cond.code yX6_as cX6_as 3 (some .int)]
def wsL_law_r22 : List Cond := [Cond.methodLink RX6 139 yX6_isSuch, Cond.static yX6_isSuch, Cond.code yX6_isSuch cX6_isSuch 2 (some .boolean), Cond.methodLink RX6 143 yX6_tellsNow, Cond.instanceMethod yX6_tellsNow, Cond.selects RX6 yX6_tellsNow yX6_tellsNow, Cond.code yX6_tellsNow cX6_tellsNow 3 (some .int), Cond.methodLink RX6 230 yX5_wouldTell, Cond.instanceMethod yX5_wouldTell, Cond.selects RX5 yX5_wouldTell yX5_wouldTell, Cond.code yX5_wouldTell cX5_wouldTell 4 (some .int), Cond.methodLink RX5 68 yX5_kindOf, Cond.methodLink RX5 71 yX5_secretOf, Cond.static yX6_telling, Cond.code yX6_telling cX6_telling 4 (some .int), Cond.methodLink RL 52 yX7_as, Cond.instanceMethod yX7_as, Cond.selects RX7 yX7_as yX7_as, Cond.code yX7_as cX7_as 5 (some .int), Cond.constantLong RX7 165 (4), Cond.methodLink RX7 132 yX7_tells, Cond.instanceMethod yX7_tells, Cond.selects RX7 yX7_tells yX7_tells, Cond.code yX7_tells cX7_tells 5 (some .int)]
def wsL_law_r23 : List Cond := [Cond.methodLink RL 53 yX6_shave, Cond.instanceMethod yX6_shave, Cond.selects RX6 yX6_shave yX6_shave, Cond.code yX6_shave cX6_shave 5 (some .int), Cond.methodLink RX6 146 yX6_rememberForUndo, Cond.instanceMethod yX6_rememberForUndo, Cond.selects RX6 yX6_rememberForUndo yX6_rememberForUndo, Cond.code yX6_rememberForUndo cX6_rememberForUndo 1 none, Cond.methodLink RX6 237 Lib.Math.min.name, Cond.methodLink RX6 175 yX2_store, Cond.instanceMethod yX2_store, Cond.selects RX2 yX2_store yX2_store, Cond.code yX2_store cX2_store 3 none, Cond.fieldLink RX2 20 "RazorTalk$Standing" "cells" "LRazorTalk$Row;", Cond.methodLink RX2 21 yX0_take, Cond.instanceMethod yX0_take, Cond.selects RX0 yX0_take yX0_take, Cond.code yX0_take cX0_take 5 none, Cond.methodLink RX0 19 arraycopyName, Cond.native arraycopyName, Cond.static arraycopyName, Cond.initialized "java/lang/System", Cond.methodLink RX6 149 yX4_learn, Cond.instanceMethod yX4_learn]
def wsL_law_r24 : List Cond := [Cond.selects RX4 yX4_learn yX4_learn, Cond.code yX4_learn cX4_learn 5 none, Cond.methodLink RX4 57 yX4_stripsKnown, Cond.methodLink RX4 60 yX4_partsKnown, Cond.static yX6_replaced, Cond.code yX6_replaced cX6_replaced 3 (some .int), Cond.methodLink RX4 67 yX4_setKnown, Cond.instanceMethod yX4_setKnown, Cond.selects RX4 yX4_setKnown yX4_setKnown, Cond.code yX4_setKnown cX4_setKnown 5 none, Cond.methodLink RX6 152 yX4_setBeard, Cond.methodLink RL 56 yX7_shave, Cond.instanceMethod yX7_shave, Cond.selects RX7 yX7_shave yX7_shave, Cond.code yX7_shave cX7_shave 4 (some .int), Cond.methodLink RX7 171 yX7_minds, Cond.instanceMethod yX7_minds, Cond.selects RX7 yX7_minds yX7_minds, Cond.code yX7_minds cX7_minds 2 none, Cond.methodLink RX7 167 yX7_copy, Cond.instanceMethod yX7_copy, Cond.selects RX7 yX7_copy yX7_copy, Cond.code yX7_copy cX7_copy 4 none, Cond.methodLink RX7 174 yX7_shaves]
def wsL_law_r25 : List Cond := [Cond.instanceMethod yX7_shaves, Cond.selects RX7 yX7_shaves yX7_shaves, Cond.code yX7_shaves cX7_shaves 6 (some .int), Cond.methodLink RX7 136 yX7_knowsPart, Cond.instanceMethod yX7_knowsPart, Cond.selects RX7 yX7_knowsPart yX7_knowsPart, Cond.code yX7_knowsPart cX7_knowsPart 7 none, Cond.methodLink RL 57 yX6_day, Cond.instanceMethod yX6_day, Cond.selects RX6 yX6_day yX6_day, Cond.code yX6_day cX6_day 1 (some .int), Cond.methodLink RX6 156 yX4_date, Cond.instanceMethod yX4_date, Cond.selects RX4 yX4_date yX4_date, Cond.code yX4_date cX4_date 1 (some .int), Cond.methodLink RX6 160 yX4_passDay, Cond.instanceMethod yX4_passDay, Cond.selects RX4 yX4_passDay yX4_passDay, Cond.code yX4_passDay cX4_passDay 4 none, Cond.methodLink RX4 52 Lib.Math.min.name, Cond.methodLink RX4 41 yX4_date, Cond.methodLink RL 60 yX7_day, Cond.instanceMethod yX7_day, Cond.selects RX7 yX7_day yX7_day]
def wsL_law_r26 : List Cond := [Cond.code yX7_day cX7_day 2 (some .int), Cond.methodLink RL 61 yX6_talk, Cond.instanceMethod yX6_talk, Cond.selects RX6 yX6_talk yX6_talk, Cond.code yX6_talk cX6_talk 4 (some .int), Cond.methodLink RL 64 yX7_talk, Cond.instanceMethod yX7_talk, Cond.selects RX7 yX7_talk yX7_talk, Cond.code yX7_talk cX7_talk 6 (some .int), Cond.methodLink RL 65 yX6_burn, Cond.instanceMethod yX6_burn, Cond.selects RX6 yX6_burn yX6_burn, Cond.code yX6_burn cX6_burn 4 (some .int), Cond.methodLink RX6 163 yJ6_bitCount_0f7a4, Cond.static yJ6_bitCount_0f7a4, Cond.initialized RJ6, Cond.code yJ6_bitCount_0f7a4 cJ6_bitCount_0f7a4 1 (some .int), Cond.constant RJ6 265 (1431655765), Cond.constant RJ6 266 (858993459), Cond.constant RJ6 267 (252645135), Cond.methodLink RX6 168 yX4_setKnown, Cond.methodLink RL 68 yX7_burn, Cond.instanceMethod yX7_burn, Cond.selects RX7 yX7_burn yX7_burn]
def wsL_law_r27 : List Cond := [Cond.code yX7_burn cX7_burn 5 (some .int), Cond.methodLink RX7 178 yX7_ones, Cond.static yX7_ones, Cond.code yX7_ones cX7_ones 3 (some .int), Cond.methodLink RL 69 yX6_undo, Cond.instanceMethod yX6_undo, Cond.selects RX6 yX6_undo yX6_undo, Cond.code yX6_undo cX6_undo 1 (some .int), Cond.methodLink RX6 171 yX2_fetch, Cond.instanceMethod yX2_fetch, Cond.selects RX2 yX2_fetch yX2_fetch, Cond.code yX2_fetch cX2_fetch 3 none, Cond.methodLink RL 72 yX7_undo, Cond.instanceMethod yX7_undo, Cond.selects RX7 yX7_undo yX7_undo, Cond.code yX7_undo cX7_undo 1 (some .int), Cond.methodLink RL 73 yX6_keep, Cond.instanceMethod yX6_keep, Cond.selects RX6 yX6_keep yX6_keep, Cond.code yX6_keep cX6_keep 2 (some .int), Cond.methodLink RL 76 yX7_keep, Cond.instanceMethod yX7_keep, Cond.selects RX7 yX7_keep yX7_keep, Cond.code yX7_keep cX7_keep 2 (some .int)]
def wsL_law_r28 : List Cond := [Cond.methodLink RL 77 yX6_back, Cond.instanceMethod yX6_back, Cond.selects RX6 yX6_back yX6_back, Cond.code yX6_back cX6_back 2 (some .int), Cond.methodLink RX6 178 yX6_has, Cond.static yX6_has, Cond.code yX6_has cX6_has 2 (some .boolean), Cond.methodLink RL 80 yX7_back, Cond.instanceMethod yX7_back, Cond.selects RX7 yX7_back yX7_back, Cond.code yX7_back cX7_back 2 (some .int), Cond.methodLink RL 81 yX6_smooth, Cond.instanceMethod yX6_smooth, Cond.selects RX6 yX6_smooth yX6_smooth, Cond.code yX6_smooth cX6_smooth 10 (some .int), Cond.methodLink RX6 181 yX6_stripsTelling, Cond.instanceMethod yX6_stripsTelling, Cond.selects RX6 yX6_stripsTelling yX6_stripsTelling, Cond.code yX6_stripsTelling cX6_stripsTelling 4 (some .int), Cond.methodLink RX6 184 yX6_partsTold, Cond.instanceMethod yX6_partsTold, Cond.selects RX6 yX6_partsTold yX6_partsTold, Cond.code yX6_partsTold cX6_partsTold 4 (some .int), Cond.methodLink RX6 187 yX6_fittingBehind]
def wsL_law_r29 : List Cond := [Cond.instanceMethod yX6_fittingBehind, Cond.selects RX6 yX6_fittingBehind yX6_fittingBehind, Cond.code yX6_fittingBehind cX6_fittingBehind 7 (some .int), Cond.methodLink RX6 234 yX6_replaced, Cond.methodLink RL 84 yX7_smooth, Cond.instanceMethod yX7_smooth, Cond.selects RX7 yX7_smooth yX7_smooth, Cond.code yX7_smooth cX7_smooth 7 (some .int), Cond.constantLong RX7 184 (8), Cond.methodLink RX7 186 yX7_triesSet, Cond.instanceMethod yX7_triesSet, Cond.selects RX7 yX7_triesSet yX7_triesSet, Cond.code yX7_triesSet cX7_triesSet 5 none, Cond.methodLink RX7 181 yX7_has, Cond.static yX7_has, Cond.code yX7_has cX7_has 2 (some .boolean), Cond.methodLink RX7 190 yX7_many, Cond.static yX7_many, Cond.code yX7_many cX7_many 3 (some .int), Cond.methodLink RL 85 yX6_next, Cond.instanceMethod yX6_next, Cond.selects RX6 yX6_next yX6_next, Cond.code yX6_next cX6_next 9 (some .int), Cond.methodLink RX6 191 yX5_mostAlike]
def wsL_law_r30 : List Cond := [Cond.instanceMethod yX5_mostAlike, Cond.selects RX5 yX5_mostAlike yX5_mostAlike, Cond.code yX5_mostAlike cX5_mostAlike 5 (some .int), Cond.methodLink RX5 85 yJ6_bitCount_0f7a4, Cond.methodLink RL 88 yX7_next, Cond.instanceMethod yX7_next, Cond.selects RX7 yX7_next yX7_next, Cond.code yX7_next cX7_next 11 (some .int), Cond.methodLink RL 89 yX6_meet, Cond.instanceMethod yX6_meet, Cond.selects RX6 yX6_meet yX6_meet, Cond.code yX6_meet cX6_meet 7 (some .int), Cond.methodLink RX6 197 yX6_fittingTogether, Cond.instanceMethod yX6_fittingTogether, Cond.selects RX6 yX6_fittingTogether yX6_fittingTogether, Cond.code yX6_fittingTogether cX6_fittingTogether 7 (some .int), Cond.methodLink RL 92 yX7_meet, Cond.instanceMethod yX7_meet, Cond.selects RX7 yX7_meet yX7_meet, Cond.code yX7_meet cX7_meet 9 (some .int), Cond.methodLink RL 93 yX6_round, Cond.instanceMethod yX6_round, Cond.selects RX6 yX6_round yX6_round, Cond.code yX6_round cX6_round 6 (some .int)]
def wsL_law_r31 : List Cond := [Cond.methodLink RX6 200 Lib.Math.max.name, Cond.methodLink RL 96 yX7_round, Cond.instanceMethod yX7_round, Cond.selects RX7 yX7_round yX7_round, Cond.code yX7_round cX7_round 5 (some .int), Cond.methodLink RL 97 yX6_seen, Cond.instanceMethod yX6_seen, Cond.selects RX6 yX6_seen yX6_seen, Cond.code yX6_seen cX6_seen 4 (some .int), Cond.fieldLink RX6 205 "RazorTalk$Sightings" "number" "I", Cond.methodLink RX6 208 yX3_add, Cond.instanceMethod yX3_add, Cond.selects RX3 yX3_add yX3_add, Cond.code yX3_add cX3_add 4 none, Cond.methodLink RX3 34 Lib.Math.min.name, Cond.methodLink RX3 30 yX0_put, Cond.methodLink RL 100 yX7_seen, Cond.instanceMethod yX7_seen, Cond.selects RX7 yX7_seen yX7_seen, Cond.code yX7_seen cX7_seen 4 (some .int), Cond.constantLong RX7 193 (9), Cond.constantLong RX7 195 (-1), Cond.methodLink RL 101 yX6_forget, Cond.instanceMethod yX6_forget]
def wsL_law_r32 : List Cond := [Cond.selects RX6 yX6_forget yX6_forget, Cond.code yX6_forget cX6_forget 2 (some .int), Cond.methodLink RL 104 yX7_forget, Cond.instanceMethod yX7_forget, Cond.selects RX7 yX7_forget yX7_forget, Cond.code yX7_forget cX7_forget 2 (some .int), Cond.methodLink RL 105 yX6_was, Cond.instanceMethod yX6_was, Cond.selects RX6 yX6_was yX6_was, Cond.code yX6_was cX6_was 3 (some .int), Cond.methodLink RX6 211 yX3_allTrueOf, Cond.instanceMethod yX3_allTrueOf, Cond.selects RX3 yX3_allTrueOf yX3_allTrueOf, Cond.code yX3_allTrueOf cX3_allTrueOf 4 (some .boolean), Cond.methodLink RX3 40 yX0_at, Cond.methodLink RX3 44 yX5_wouldTell, Cond.methodLink RL 108 yX7_was, Cond.instanceMethod yX7_was, Cond.selects RX7 yX7_was yX7_was, Cond.code yX7_was cX7_was 5 (some .int), Cond.methodLink RL 109 yX6_stays, Cond.instanceMethod yX6_stays, Cond.selects RX6 yX6_stays yX6_stays, Cond.code yX6_stays cX6_stays 10 (some .int)]
def wsL_law_r33 : List Cond := [Cond.methodLink RX6 215 yX6_weight, Cond.static yX6_weight, Cond.code yX6_weight cX6_weight 3 (some .int), Cond.methodLink RX6 218 yX6_power, Cond.static yX6_power, Cond.code yX6_power cX6_power 4 (some .int), Cond.methodLink RX6 221 yX6_commonDivisor, Cond.static yX6_commonDivisor, Cond.code yX6_commonDivisor cX6_commonDivisor 6 (some .int), Cond.methodLink RL 113 yX7_stays, Cond.instanceMethod yX7_stays, Cond.selects RX7 yX7_stays yX7_stays, Cond.code yX7_stays cX7_stays 9 (some .int), Cond.constantLong RX7 197 (10), Cond.constant RX7 199 (1000000), Cond.methodLink RL 114 yX6_count, Cond.instanceMethod yX6_count, Cond.selects RX6 yX6_count yX6_count, Cond.code yX6_count cX6_count 2 (some .int), Cond.methodLink RX6 224 yX6_allBeards, Cond.instanceMethod yX6_allBeards, Cond.selects RX6 yX6_allBeards yX6_allBeards, Cond.code yX6_allBeards cX6_allBeards 3 (some .int), Cond.methodLink RX6 227 yX6_allStripsKnown]
def wsL_law_r34 : List Cond := [Cond.instanceMethod yX6_allStripsKnown, Cond.selects RX6 yX6_allStripsKnown yX6_allStripsKnown, Cond.code yX6_allStripsKnown cX6_allStripsKnown 4 (some .int), Cond.methodLink RL 117 yX7_count, Cond.instanceMethod yX7_count, Cond.selects RX7 yX7_count yX7_count, Cond.code yX7_count cX7_count 2 (some .int), Cond.methodLink RX7 200 yX7_beardsOfAll, Cond.instanceMethod yX7_beardsOfAll, Cond.selects RX7 yX7_beardsOfAll yX7_beardsOfAll, Cond.code yX7_beardsOfAll cX7_beardsOfAll 3 (some .int), Cond.methodLink RX7 203 yX7_knownOfAll, Cond.instanceMethod yX7_knownOfAll, Cond.selects RX7 yX7_knownOfAll yX7_knownOfAll, Cond.code yX7_knownOfAll cX7_knownOfAll 3 (some .int)]
def wsL_law : List Cond := (wsL_law_r1 ++ (wsL_law_r2 ++ (wsL_law_r3 ++ (wsL_law_r4 ++ (wsL_law_r5 ++ (wsL_law_r6 ++ (wsL_law_r7 ++ (wsL_law_r8 ++ (wsL_law_r9 ++ (wsL_law_r10 ++ (wsL_law_r11 ++ (wsL_law_r12 ++ (wsL_law_r13 ++ (wsL_law_r14 ++ (wsL_law_r15 ++ (wsL_law_r16 ++ (wsL_law_r17 ++ (wsL_law_r18 ++ (wsL_law_r19 ++ (wsL_law_r20 ++ (wsL_law_r21 ++ (wsL_law_r22 ++ (wsL_law_r23 ++ (wsL_law_r24 ++ (wsL_law_r25 ++ (wsL_law_r26 ++ (wsL_law_r27 ++ (wsL_law_r28 ++ (wsL_law_r29 ++ (wsL_law_r30 ++ (wsL_law_r31 ++ (wsL_law_r32 ++ (wsL_law_r33 ++ wsL_law_r34))))))))))))))))))))))))))))))))) ++ wsX60 ++ wsX70 ++ wsX10 ++ wsX50 ++ wsX40 ++ wsX30 ++ wsX20 ++ wsX00 ++ ([] : List Cond)
theorem inlX0 : ∀ w ∈ wsX00, w ∈ wsL_law := fun _ h => List.mem_append_left _ (List.mem_append_right _ h)
theorem inlX1 : ∀ w ∈ wsX10, w ∈ wsL_law := fun _ h => List.mem_append_left _ (List.mem_append_left _ (List.mem_append_left _ (List.mem_append_left _ (List.mem_append_left _ (List.mem_append_left _ (List.mem_append_right _ h))))))
theorem inlX2 : ∀ w ∈ wsX20, w ∈ wsL_law := fun _ h => List.mem_append_left _ (List.mem_append_left _ (List.mem_append_right _ h))
theorem inlX3 : ∀ w ∈ wsX30, w ∈ wsL_law := fun _ h => List.mem_append_left _ (List.mem_append_left _ (List.mem_append_left _ (List.mem_append_right _ h)))
theorem inlX4 : ∀ w ∈ wsX40, w ∈ wsL_law := fun _ h => List.mem_append_left _ (List.mem_append_left _ (List.mem_append_left _ (List.mem_append_left _ (List.mem_append_right _ h))))
theorem inlX5 : ∀ w ∈ wsX50, w ∈ wsL_law := fun _ h => List.mem_append_left _ (List.mem_append_left _ (List.mem_append_left _ (List.mem_append_left _ (List.mem_append_left _ (List.mem_append_right _ h)))))
theorem inlX6 : ∀ w ∈ wsX60, w ∈ wsL_law := fun _ h => List.mem_append_left _ (List.mem_append_left _ (List.mem_append_left _ (List.mem_append_left _ (List.mem_append_left _ (List.mem_append_left _ (List.mem_append_left _ (List.mem_append_left _ (List.mem_append_right _ h))))))))
theorem inlX7 : ∀ w ∈ wsX70, w ∈ wsL_law := fun _ h => List.mem_append_left _ (List.mem_append_left _ (List.mem_append_left _ (List.mem_append_left _ (List.mem_append_left _ (List.mem_append_left _ (List.mem_append_left _ (List.mem_append_right _ h)))))))
abbrev vwCl : List vw_C := [(RX0, TX0, 1), (RX1, TX1, 9), (RX2, TX2, 1), (RX3, TX3, 4), (RX4, TX4, 1), (RX5, TX5, 7), (RX6, TX6, 9), (RX7, TX7, 16)]
end
section
theorem dX0_init_0 : decode cX0_init 0 = .ok (.aload_n 0, 1) := by decide +kernel
theorem dX0_init_1 : decode cX0_init 1 = .ok (.invokespecial 1, 3) := by decide +kernel
theorem dX0_init_4 : decode cX0_init 4 = .ok (.aload_n 0, 1) := by decide +kernel
theorem dX0_init_5 : decode cX0_init 5 = .ok (.iconst 0, 1) := by decide +kernel
theorem dX0_init_6 : decode cX0_init 6 = .ok (.iload_n 1, 1) := by decide +kernel
theorem dX0_init_7 : decode cX0_init 7 = .ok (.invokestatic 7, 3) := by decide +kernel
theorem dX0_init_10 : decode cX0_init 10 = .ok (.newarray .int, 2) := by decide +kernel
theorem dX0_init_12 : decode cX0_init 12 = .ok (.putfield 13, 3) := by decide +kernel
theorem dX0_init_15 : decode cX0_init 15 = .ok (.return_, 1) := by decide +kernel
theorem dX0_at_0 : decode cX0_at 0 = .ok (.iload_n 1, 1) := by decide +kernel
theorem dX0_at_1 : decode cX0_at 1 = .ok (.ifCond .lt 21, 3) := by decide +kernel
theorem dX0_at_4 : decode cX0_at 4 = .ok (.iload_n 1, 1) := by decide +kernel
theorem dX0_at_5 : decode cX0_at 5 = .ok (.aload_n 0, 1) := by decide +kernel
theorem dX0_at_6 : decode cX0_at 6 = .ok (.getfield 13, 3) := by decide +kernel
theorem dX0_at_9 : decode cX0_at 9 = .ok (.arraylength, 1) := by decide +kernel
theorem dX0_at_10 : decode cX0_at 10 = .ok (.if_icmp .ge 12, 3) := by decide +kernel
theorem dX0_at_13 : decode cX0_at 13 = .ok (.aload_n 0, 1) := by decide +kernel
theorem dX0_at_14 : decode cX0_at 14 = .ok (.getfield 13, 3) := by decide +kernel
theorem dX0_at_17 : decode cX0_at 17 = .ok (.iload_n 1, 1) := by decide +kernel
theorem dX0_at_18 : decode cX0_at 18 = .ok (.iaload, 1) := by decide +kernel
theorem dX0_at_19 : decode cX0_at 19 = .ok (.goto 4, 3) := by decide +kernel
theorem dX0_at_22 : decode cX0_at 22 = .ok (.iconst 0, 1) := by decide +kernel
theorem dX0_at_23 : decode cX0_at 23 = .ok (.ireturn, 1) := by decide +kernel
theorem dX0_put_0 : decode cX0_put 0 = .ok (.iload_n 1, 1) := by decide +kernel
theorem dX0_put_1 : decode cX0_put 1 = .ok (.ifCond .lt 19, 3) := by decide +kernel
theorem dX0_put_4 : decode cX0_put 4 = .ok (.iload_n 1, 1) := by decide +kernel
theorem dX0_put_5 : decode cX0_put 5 = .ok (.aload_n 0, 1) := by decide +kernel
theorem dX0_put_6 : decode cX0_put 6 = .ok (.getfield 13, 3) := by decide +kernel
theorem dX0_put_9 : decode cX0_put 9 = .ok (.arraylength, 1) := by decide +kernel
theorem dX0_put_10 : decode cX0_put 10 = .ok (.if_icmp .ge 10, 3) := by decide +kernel
theorem dX0_put_13 : decode cX0_put 13 = .ok (.aload_n 0, 1) := by decide +kernel
theorem dX0_put_14 : decode cX0_put 14 = .ok (.getfield 13, 3) := by decide +kernel
theorem dX0_put_17 : decode cX0_put 17 = .ok (.iload_n 1, 1) := by decide +kernel
theorem dX0_put_18 : decode cX0_put 18 = .ok (.iload_n 2, 1) := by decide +kernel
theorem dX0_put_19 : decode cX0_put 19 = .ok (.iastore, 1) := by decide +kernel
theorem dX0_put_20 : decode cX0_put 20 = .ok (.return_, 1) := by decide +kernel
theorem dX0_zero_0 : decode cX0_zero 0 = .ok (.iconst 0, 1) := by decide +kernel
theorem dX0_zero_1 : decode cX0_zero 1 = .ok (.istore_n 1, 1) := by decide +kernel
theorem dX0_zero_2 : decode cX0_zero 2 = .ok (.iload_n 1, 1) := by decide +kernel
theorem dX0_zero_3 : decode cX0_zero 3 = .ok (.aload_n 0, 1) := by decide +kernel
theorem dX0_zero_4 : decode cX0_zero 4 = .ok (.getfield 13, 3) := by decide +kernel
theorem dX0_zero_7 : decode cX0_zero 7 = .ok (.arraylength, 1) := by decide +kernel
theorem dX0_zero_8 : decode cX0_zero 8 = .ok (.if_icmp .ge 16, 3) := by decide +kernel
theorem dX0_zero_11 : decode cX0_zero 11 = .ok (.aload_n 0, 1) := by decide +kernel
theorem dX0_zero_12 : decode cX0_zero 12 = .ok (.getfield 13, 3) := by decide +kernel
theorem dX0_zero_15 : decode cX0_zero 15 = .ok (.iload_n 1, 1) := by decide +kernel
theorem dX0_zero_16 : decode cX0_zero 16 = .ok (.iconst 0, 1) := by decide +kernel
theorem dX0_zero_17 : decode cX0_zero 17 = .ok (.iastore, 1) := by decide +kernel
theorem dX0_zero_18 : decode cX0_zero 18 = .ok (.iinc 1 1, 3) := by decide +kernel
theorem dX0_zero_21 : decode cX0_zero 21 = .ok (.goto (-19), 3) := by decide +kernel
theorem dX0_zero_24 : decode cX0_zero 24 = .ok (.return_, 1) := by decide +kernel
theorem dX0_take_0 : decode cX0_take 0 = .ok (.iload_n 2, 1) := by decide +kernel
theorem dX0_take_1 : decode cX0_take 1 = .ok (.ifCond .lt 12, 3) := by decide +kernel
theorem dX0_take_4 : decode cX0_take 4 = .ok (.iload_n 3, 1) := by decide +kernel
theorem dX0_take_5 : decode cX0_take 5 = .ok (.ifCond .lt 8, 3) := by decide +kernel
theorem dX0_take_8 : decode cX0_take 8 = .ok (.iload 4, 2) := by decide +kernel
theorem dX0_take_10 : decode cX0_take 10 = .ok (.ifCond .ge 4, 3) := by decide +kernel
theorem dX0_take_13 : decode cX0_take 13 = .ok (.return_, 1) := by decide +kernel
theorem dX0_take_14 : decode cX0_take 14 = .ok (.iload_n 2, 1) := by decide +kernel
theorem dX0_take_15 : decode cX0_take 15 = .ok (.aload_n 1, 1) := by decide +kernel
theorem dX0_take_16 : decode cX0_take 16 = .ok (.getfield 13, 3) := by decide +kernel
theorem dX0_take_19 : decode cX0_take 19 = .ok (.arraylength, 1) := by decide +kernel
theorem dX0_take_20 : decode cX0_take 20 = .ok (.iload 4, 2) := by decide +kernel
theorem dX0_take_22 : decode cX0_take 22 = .ok (.isub, 1) := by decide +kernel
theorem dX0_take_23 : decode cX0_take 23 = .ok (.if_icmp .gt 15, 3) := by decide +kernel
theorem dX0_take_26 : decode cX0_take 26 = .ok (.iload_n 3, 1) := by decide +kernel
theorem dX0_take_27 : decode cX0_take 27 = .ok (.aload_n 0, 1) := by decide +kernel
theorem dX0_take_28 : decode cX0_take 28 = .ok (.getfield 13, 3) := by decide +kernel
theorem dX0_take_31 : decode cX0_take 31 = .ok (.arraylength, 1) := by decide +kernel
theorem dX0_take_32 : decode cX0_take 32 = .ok (.iload 4, 2) := by decide +kernel
theorem dX0_take_34 : decode cX0_take 34 = .ok (.isub, 1) := by decide +kernel
theorem dX0_take_35 : decode cX0_take 35 = .ok (.if_icmp .le 4, 3) := by decide +kernel
theorem dX0_take_38 : decode cX0_take 38 = .ok (.return_, 1) := by decide +kernel
theorem dX0_take_39 : decode cX0_take 39 = .ok (.aload_n 1, 1) := by decide +kernel
theorem dX0_take_40 : decode cX0_take 40 = .ok (.getfield 13, 3) := by decide +kernel
theorem dX0_take_43 : decode cX0_take 43 = .ok (.iload_n 2, 1) := by decide +kernel
theorem dX0_take_44 : decode cX0_take 44 = .ok (.aload_n 0, 1) := by decide +kernel
theorem dX0_take_45 : decode cX0_take 45 = .ok (.getfield 13, 3) := by decide +kernel
theorem dX0_take_48 : decode cX0_take 48 = .ok (.iload_n 3, 1) := by decide +kernel
theorem dX0_take_49 : decode cX0_take 49 = .ok (.iload 4, 2) := by decide +kernel
theorem dX0_take_51 : decode cX0_take 51 = .ok (.invokestatic 19, 3) := by decide +kernel
theorem dX0_take_54 : decode cX0_take 54 = .ok (.return_, 1) := by decide +kernel
theorem dX1_init_0 : decode cX1_init 0 = .ok (.aload_n 0, 1) := by decide +kernel
theorem dX1_init_1 : decode cX1_init 1 = .ok (.invokespecial 3, 3) := by decide +kernel
theorem dX1_init_4 : decode cX1_init 4 = .ok (.aload_n 0, 1) := by decide +kernel
theorem dX1_init_5 : decode cX1_init 5 = .ok (.new 9, 3) := by decide +kernel
theorem dX1_init_8 : decode cX1_init 8 = .ok (.dup, 1) := by decide +kernel
theorem dX1_init_9 : decode cX1_init 9 = .ok (.sipush 160, 3) := by decide +kernel
theorem dX1_init_12 : decode cX1_init 12 = .ok (.invokespecial 11, 3) := by decide +kernel
theorem dX1_init_15 : decode cX1_init 15 = .ok (.putfield 14, 3) := by decide +kernel
theorem dX1_init_18 : decode cX1_init 18 = .ok (.aload_n 0, 1) := by decide +kernel
theorem dX1_init_19 : decode cX1_init 19 = .ok (.new 9, 3) := by decide +kernel
theorem dX1_init_22 : decode cX1_init 22 = .ok (.dup, 1) := by decide +kernel
theorem dX1_init_23 : decode cX1_init 23 = .ok (.bipush 14, 2) := by decide +kernel
theorem dX1_init_25 : decode cX1_init 25 = .ok (.invokespecial 11, 3) := by decide +kernel
theorem dX1_init_28 : decode cX1_init 28 = .ok (.putfield 20, 3) := by decide +kernel
theorem dX1_init_31 : decode cX1_init 31 = .ok (.aload_n 0, 1) := by decide +kernel
theorem dX1_init_32 : decode cX1_init 32 = .ok (.new 9, 3) := by decide +kernel
theorem dX1_init_35 : decode cX1_init 35 = .ok (.dup, 1) := by decide +kernel
theorem dX1_init_36 : decode cX1_init 36 = .ok (.bipush 42, 2) := by decide +kernel
theorem dX1_init_38 : decode cX1_init 38 = .ok (.invokespecial 11, 3) := by decide +kernel
theorem dX1_init_41 : decode cX1_init 41 = .ok (.putfield 23, 3) := by decide +kernel
theorem dX1_init_44 : decode cX1_init 44 = .ok (.return_, 1) := by decide +kernel
theorem dX1_addLetter_0 : decode cX1_addLetter 0 = .ok (.aload_n 0, 1) := by decide +kernel
theorem dX1_addLetter_1 : decode cX1_addLetter 1 = .ok (.getfield 14, 3) := by decide +kernel
theorem dX1_addLetter_4 : decode cX1_addLetter 4 = .ok (.aload_n 0, 1) := by decide +kernel
theorem dX1_addLetter_5 : decode cX1_addLetter 5 = .ok (.getfield 26, 3) := by decide +kernel
theorem dX1_addLetter_8 : decode cX1_addLetter 8 = .ok (.iload_n 1, 1) := by decide +kernel
theorem dX1_addLetter_9 : decode cX1_addLetter 9 = .ok (.invokevirtual 30, 3) := by decide +kernel
theorem dX1_addLetter_12 : decode cX1_addLetter 12 = .ok (.aload_n 0, 1) := by decide +kernel
theorem dX1_addLetter_13 : decode cX1_addLetter 13 = .ok (.sipush 160, 3) := by decide +kernel
theorem dX1_addLetter_16 : decode cX1_addLetter 16 = .ok (.aload_n 0, 1) := by decide +kernel
theorem dX1_addLetter_17 : decode cX1_addLetter 17 = .ok (.getfield 26, 3) := by decide +kernel
theorem dX1_addLetter_20 : decode cX1_addLetter 20 = .ok (.iconst 1, 1) := by decide +kernel
theorem dX1_addLetter_21 : decode cX1_addLetter 21 = .ok (.iadd, 1) := by decide +kernel
theorem dX1_addLetter_22 : decode cX1_addLetter 22 = .ok (.invokestatic 34, 3) := by decide +kernel
theorem dX1_addLetter_25 : decode cX1_addLetter 25 = .ok (.putfield 26, 3) := by decide +kernel
theorem dX1_addLetter_28 : decode cX1_addLetter 28 = .ok (.return_, 1) := by decide +kernel
theorem dX1_empty_0 : decode cX1_empty 0 = .ok (.aload_n 0, 1) := by decide +kernel
theorem dX1_empty_1 : decode cX1_empty 1 = .ok (.iconst 0, 1) := by decide +kernel
theorem dX1_empty_2 : decode cX1_empty 2 = .ok (.putfield 26, 3) := by decide +kernel
theorem dX1_empty_5 : decode cX1_empty 5 = .ok (.return_, 1) := by decide +kernel
theorem dX1_wordOf_0 : decode cX1_wordOf 0 = .ok (.aload_n 0, 1) := by decide +kernel
theorem dX1_wordOf_1 : decode cX1_wordOf 1 = .ok (.getfield 20, 3) := by decide +kernel
theorem dX1_wordOf_4 : decode cX1_wordOf 4 = .ok (.iload_n 1, 1) := by decide +kernel
theorem dX1_wordOf_5 : decode cX1_wordOf 5 = .ok (.invokevirtual 40, 3) := by decide +kernel
theorem dX1_wordOf_8 : decode cX1_wordOf 8 = .ok (.ireturn, 1) := by decide +kernel
theorem dX1_numberOf_0 : decode cX1_numberOf 0 = .ok (.aload_n 0, 1) := by decide +kernel
theorem dX1_numberOf_1 : decode cX1_numberOf 1 = .ok (.getfield 23, 3) := by decide +kernel
theorem dX1_numberOf_4 : decode cX1_numberOf 4 = .ok (.iload_n 1, 1) := by decide +kernel
theorem dX1_numberOf_5 : decode cX1_numberOf 5 = .ok (.iconst 3, 1) := by decide +kernel
theorem dX1_numberOf_6 : decode cX1_numberOf 6 = .ok (.imul, 1) := by decide +kernel
theorem dX1_numberOf_7 : decode cX1_numberOf 7 = .ok (.iload_n 2, 1) := by decide +kernel
theorem dX1_numberOf_8 : decode cX1_numberOf 8 = .ok (.iadd, 1) := by decide +kernel
theorem dX1_numberOf_9 : decode cX1_numberOf 9 = .ok (.invokevirtual 40, 3) := by decide +kernel
theorem dX1_numberOf_12 : decode cX1_numberOf 12 = .ok (.ireturn, 1) := by decide +kernel
theorem dX1_readAll_0 : decode cX1_readAll 0 = .ok (.aload_n 0, 1) := by decide +kernel
theorem dX1_readAll_1 : decode cX1_readAll 1 = .ok (.iload_n 1, 1) := by decide +kernel
theorem dX1_readAll_2 : decode cX1_readAll 2 = .ok (.putfield 44, 3) := by decide +kernel
theorem dX1_readAll_5 : decode cX1_readAll 5 = .ok (.aload_n 0, 1) := by decide +kernel
theorem dX1_readAll_6 : decode cX1_readAll 6 = .ok (.iload_n 2, 1) := by decide +kernel
theorem dX1_readAll_7 : decode cX1_readAll 7 = .ok (.putfield 47, 3) := by decide +kernel
theorem dX1_readAll_10 : decode cX1_readAll 10 = .ok (.aload_n 0, 1) := by decide +kernel
theorem dX1_readAll_11 : decode cX1_readAll 11 = .ok (.iconst 0, 1) := by decide +kernel
theorem dX1_readAll_12 : decode cX1_readAll 12 = .ok (.putfield 50, 3) := by decide +kernel
theorem dX1_readAll_15 : decode cX1_readAll 15 = .ok (.aload_n 0, 1) := by decide +kernel
theorem dX1_readAll_16 : decode cX1_readAll 16 = .ok (.iconst 0, 1) := by decide +kernel
theorem dX1_readAll_17 : decode cX1_readAll 17 = .ok (.putfield 53, 3) := by decide +kernel
theorem dX1_readAll_20 : decode cX1_readAll 20 = .ok (.aload_n 0, 1) := by decide +kernel
theorem dX1_readAll_21 : decode cX1_readAll 21 = .ok (.invokevirtual 56, 3) := by decide +kernel
theorem dX1_readAll_24 : decode cX1_readAll 24 = .ok (.aload_n 0, 1) := by decide +kernel
theorem dX1_readAll_25 : decode cX1_readAll 25 = .ok (.invokevirtual 59, 3) := by decide +kernel
theorem dX1_readAll_28 : decode cX1_readAll 28 = .ok (.ifCond .ne 8, 3) := by decide +kernel
theorem dX1_readAll_31 : decode cX1_readAll 31 = .ok (.aload_n 0, 1) := by decide +kernel
theorem dX1_readAll_32 : decode cX1_readAll 32 = .ok (.getfield 63, 3) := by decide +kernel
theorem dX1_readAll_35 : decode cX1_readAll 35 = .ok (.ireturn, 1) := by decide +kernel
theorem dX1_readAll_36 : decode cX1_readAll 36 = .ok (.aload_n 0, 1) := by decide +kernel
theorem dX1_readAll_37 : decode cX1_readAll 37 = .ok (.dup, 1) := by decide +kernel
theorem dX1_readAll_38 : decode cX1_readAll 38 = .ok (.getfield 50, 3) := by decide +kernel
theorem dX1_readAll_41 : decode cX1_readAll 41 = .ok (.iconst 1, 1) := by decide +kernel
theorem dX1_readAll_42 : decode cX1_readAll 42 = .ok (.iadd, 1) := by decide +kernel
theorem dX1_readAll_43 : decode cX1_readAll 43 = .ok (.putfield 50, 3) := by decide +kernel
theorem dX1_readAll_46 : decode cX1_readAll 46 = .ok (.aload_n 0, 1) := by decide +kernel
theorem dX1_readAll_47 : decode cX1_readAll 47 = .ok (.invokevirtual 56, 3) := by decide +kernel
theorem dX1_readAll_50 : decode cX1_readAll 50 = .ok (.aload_n 0, 1) := by decide +kernel
theorem dX1_readAll_51 : decode cX1_readAll 51 = .ok (.getfield 63, 3) := by decide +kernel
theorem dX1_readAll_54 : decode cX1_readAll 54 = .ok (.aload_n 0, 1) := by decide +kernel
theorem dX1_readAll_55 : decode cX1_readAll 55 = .ok (.getfield 26, 3) := by decide +kernel
theorem dX1_readAll_58 : decode cX1_readAll 58 = .ok (.if_icmp .lt 5, 3) := by decide +kernel
theorem dX1_readAll_61 : decode cX1_readAll 61 = .ok (.iconst (-1), 1) := by decide +kernel
theorem dX1_readAll_62 : decode cX1_readAll 62 = .ok (.ireturn, 1) := by decide +kernel
theorem dX1_readAll_63 : decode cX1_readAll 63 = .ok (.aload_n 0, 1) := by decide +kernel
theorem dX1_readAll_64 : decode cX1_readAll 64 = .ok (.getfield 50, 3) := by decide +kernel
theorem dX1_readAll_67 : decode cX1_readAll 67 = .ok (.bipush 14, 2) := by decide +kernel
theorem dX1_readAll_69 : decode cX1_readAll 69 = .ok (.if_icmp .ge 19, 3) := by decide +kernel
theorem dX1_readAll_72 : decode cX1_readAll 72 = .ok (.aload_n 0, 1) := by decide +kernel
theorem dX1_readAll_73 : decode cX1_readAll 73 = .ok (.getfield 14, 3) := by decide +kernel
theorem dX1_readAll_76 : decode cX1_readAll 76 = .ok (.aload_n 0, 1) := by decide +kernel
theorem dX1_readAll_77 : decode cX1_readAll 77 = .ok (.getfield 63, 3) := by decide +kernel
theorem dX1_readAll_80 : decode cX1_readAll 80 = .ok (.invokevirtual 40, 3) := by decide +kernel
theorem dX1_readAll_83 : decode cX1_readAll 83 = .ok (.bipush 59, 2) := by decide +kernel
theorem dX1_readAll_85 : decode cX1_readAll 85 = .ok (.if_icmp .eq (-65), 3) := by decide +kernel
theorem dX1_readAll_88 : decode cX1_readAll 88 = .ok (.aload_n 0, 1) := by decide +kernel
theorem dX1_readAll_89 : decode cX1_readAll 89 = .ok (.getfield 63, 3) := by decide +kernel
theorem dX1_readAll_92 : decode cX1_readAll 92 = .ok (.ireturn, 1) := by decide +kernel
theorem dX1_readClause_0 : decode cX1_readClause 0 = .ok (.aload_n 0, 1) := by decide +kernel
theorem dX1_readClause_1 : decode cX1_readClause 1 = .ok (.invokevirtual 66, 3) := by decide +kernel
theorem dX1_readClause_4 : decode cX1_readClause 4 = .ok (.istore_n 1, 1) := by decide +kernel
theorem dX1_readClause_5 : decode cX1_readClause 5 = .ok (.aload_n 0, 1) := by decide +kernel
theorem dX1_readClause_6 : decode cX1_readClause 6 = .ok (.iload_n 1, 1) := by decide +kernel
theorem dX1_readClause_7 : decode cX1_readClause 7 = .ok (.invokevirtual 70, 3) := by decide +kernel
theorem dX1_readClause_10 : decode cX1_readClause 10 = .ok (.ifCond .ne 5, 3) := by decide +kernel
theorem dX1_readClause_13 : decode cX1_readClause 13 = .ok (.iconst 0, 1) := by decide +kernel
theorem dX1_readClause_14 : decode cX1_readClause 14 = .ok (.ireturn, 1) := by decide +kernel
theorem dX1_readClause_15 : decode cX1_readClause 15 = .ok (.aload_n 0, 1) := by decide +kernel
theorem dX1_readClause_16 : decode cX1_readClause 16 = .ok (.getfield 20, 3) := by decide +kernel
theorem dX1_readClause_19 : decode cX1_readClause 19 = .ok (.aload_n 0, 1) := by decide +kernel
theorem dX1_readClause_20 : decode cX1_readClause 20 = .ok (.getfield 50, 3) := by decide +kernel
theorem dX1_readClause_23 : decode cX1_readClause 23 = .ok (.iload_n 1, 1) := by decide +kernel
theorem dX1_readClause_24 : decode cX1_readClause 24 = .ok (.invokevirtual 30, 3) := by decide +kernel
theorem dX1_readClause_27 : decode cX1_readClause 27 = .ok (.aload_n 0, 1) := by decide +kernel
theorem dX1_readClause_28 : decode cX1_readClause 28 = .ok (.iload_n 1, 1) := by decide +kernel
theorem dX1_readClause_29 : decode cX1_readClause 29 = .ok (.invokevirtual 74, 3) := by decide +kernel
theorem dX1_readClause_32 : decode cX1_readClause 32 = .ok (.iload_n 1, 1) := by decide +kernel
theorem dX1_readClause_33 : decode cX1_readClause 33 = .ok (.lookupswitch 77 #[(4, 27), (6, 35)], 27) := by decide +kernel
theorem dX1_readClause_60 : decode cX1_readClause 60 = .ok (.aload_n 0, 1) := by decide +kernel
theorem dX1_readClause_61 : decode cX1_readClause 61 = .ok (.iconst 0, 1) := by decide +kernel
theorem dX1_readClause_62 : decode cX1_readClause 62 = .ok (.iconst 1, 1) := by decide +kernel
theorem dX1_readClause_63 : decode cX1_readClause 63 = .ok (.iconst 4, 1) := by decide +kernel
theorem dX1_readClause_64 : decode cX1_readClause 64 = .ok (.invokevirtual 77, 3) := by decide +kernel
theorem dX1_readClause_67 : decode cX1_readClause 67 = .ok (.ireturn, 1) := by decide +kernel
theorem dX1_readClause_68 : decode cX1_readClause 68 = .ok (.aload_n 0, 1) := by decide +kernel
theorem dX1_readClause_69 : decode cX1_readClause 69 = .ok (.iconst 0, 1) := by decide +kernel
theorem dX1_readClause_70 : decode cX1_readClause 70 = .ok (.iconst 0, 1) := by decide +kernel
theorem dX1_readClause_71 : decode cX1_readClause 71 = .ok (.aload_n 0, 1) := by decide +kernel
theorem dX1_readClause_72 : decode cX1_readClause 72 = .ok (.getfield 44, 3) := by decide +kernel
theorem dX1_readClause_75 : decode cX1_readClause 75 = .ok (.iconst 1, 1) := by decide +kernel
theorem dX1_readClause_76 : decode cX1_readClause 76 = .ok (.isub, 1) := by decide +kernel
theorem dX1_readClause_77 : decode cX1_readClause 77 = .ok (.invokevirtual 77, 3) := by decide +kernel
theorem dX1_readClause_80 : decode cX1_readClause 80 = .ok (.ifCond .eq 28, 3) := by decide +kernel
theorem dX1_readClause_83 : decode cX1_readClause 83 = .ok (.aload_n 0, 1) := by decide +kernel
theorem dX1_readClause_84 : decode cX1_readClause 84 = .ok (.iconst 1, 1) := by decide +kernel
theorem dX1_readClause_85 : decode cX1_readClause 85 = .ok (.iconst 0, 1) := by decide +kernel
theorem dX1_readClause_86 : decode cX1_readClause 86 = .ok (.iconst 5, 1) := by decide +kernel
theorem dX1_readClause_87 : decode cX1_readClause 87 = .ok (.invokevirtual 77, 3) := by decide +kernel
theorem dX1_readClause_90 : decode cX1_readClause 90 = .ok (.ifCond .eq 18, 3) := by decide +kernel
theorem dX1_readClause_93 : decode cX1_readClause 93 = .ok (.aload_n 0, 1) := by decide +kernel
theorem dX1_readClause_94 : decode cX1_readClause 94 = .ok (.iconst 2, 1) := by decide +kernel
theorem dX1_readClause_95 : decode cX1_readClause 95 = .ok (.iconst 0, 1) := by decide +kernel
theorem dX1_readClause_96 : decode cX1_readClause 96 = .ok (.bipush 9, 2) := by decide +kernel
theorem dX1_readClause_98 : decode cX1_readClause 98 = .ok (.invokevirtual 77, 3) := by decide +kernel
theorem dX1_readClause_101 : decode cX1_readClause 101 = .ok (.ifCond .eq 7, 3) := by decide +kernel
theorem dX1_readClause_104 : decode cX1_readClause 104 = .ok (.iconst 1, 1) := by decide +kernel
theorem dX1_readClause_105 : decode cX1_readClause 105 = .ok (.goto 4, 3) := by decide +kernel
theorem dX1_readClause_108 : decode cX1_readClause 108 = .ok (.iconst 0, 1) := by decide +kernel
theorem dX1_readClause_109 : decode cX1_readClause 109 = .ok (.ireturn, 1) := by decide +kernel
theorem dX1_readClause_110 : decode cX1_readClause 110 = .ok (.aload_n 0, 1) := by decide +kernel
theorem dX1_readClause_111 : decode cX1_readClause 111 = .ok (.iconst 0, 1) := by decide +kernel
theorem dX1_readClause_112 : decode cX1_readClause 112 = .ok (.iconst 0, 1) := by decide +kernel
theorem dX1_readClause_113 : decode cX1_readClause 113 = .ok (.bipush 63, 2) := by decide +kernel
theorem dX1_readClause_115 : decode cX1_readClause 115 = .ok (.invokevirtual 77, 3) := by decide +kernel
theorem dX1_readClause_118 : decode cX1_readClause 118 = .ok (.ireturn, 1) := by decide +kernel
theorem dX1_canStand_0 : decode cX1_canStand 0 = .ok (.iload_n 1, 1) := by decide +kernel
theorem dX1_canStand_1 : decode cX1_canStand 1 = .ok (.tableswitch 68 (-1) 6 #[47, 68, 68, 68, 68, 49, 53, 51], 47) := by decide +kernel
theorem dX1_canStand_48 : decode cX1_canStand 48 = .ok (.iconst 0, 1) := by decide +kernel
theorem dX1_canStand_49 : decode cX1_canStand 49 = .ok (.ireturn, 1) := by decide +kernel
theorem dX1_canStand_50 : decode cX1_canStand 50 = .ok (.iconst 1, 1) := by decide +kernel
theorem dX1_canStand_51 : decode cX1_canStand 51 = .ok (.ireturn, 1) := by decide +kernel
theorem dX1_canStand_52 : decode cX1_canStand 52 = .ok (.iconst 1, 1) := by decide +kernel
theorem dX1_canStand_53 : decode cX1_canStand 53 = .ok (.ireturn, 1) := by decide +kernel
theorem dX1_canStand_54 : decode cX1_canStand 54 = .ok (.aload_n 0, 1) := by decide +kernel
theorem dX1_canStand_55 : decode cX1_canStand 55 = .ok (.getfield 47, 3) := by decide +kernel
theorem dX1_canStand_58 : decode cX1_canStand 58 = .ok (.bipush 8, 2) := by decide +kernel
theorem dX1_canStand_60 : decode cX1_canStand 60 = .ok (.if_icmp .ge 7, 3) := by decide +kernel
theorem dX1_canStand_63 : decode cX1_canStand 63 = .ok (.iconst 1, 1) := by decide +kernel
theorem dX1_canStand_64 : decode cX1_canStand 64 = .ok (.goto 4, 3) := by decide +kernel
theorem dX1_canStand_67 : decode cX1_canStand 67 = .ok (.iconst 0, 1) := by decide +kernel
theorem dX1_canStand_68 : decode cX1_canStand 68 = .ok (.ireturn, 1) := by decide +kernel
theorem dX1_canStand_69 : decode cX1_canStand 69 = .ok (.aload_n 0, 1) := by decide +kernel
theorem dX1_canStand_70 : decode cX1_canStand 70 = .ok (.getfield 44, 3) := by decide +kernel
theorem dX1_canStand_73 : decode cX1_canStand 73 = .ok (.bipush 6, 2) := by decide +kernel
theorem dX1_canStand_75 : decode cX1_canStand 75 = .ok (.if_icmp .ge 7, 3) := by decide +kernel
theorem dX1_canStand_78 : decode cX1_canStand 78 = .ok (.iconst 1, 1) := by decide +kernel
theorem dX1_canStand_79 : decode cX1_canStand 79 = .ok (.goto 4, 3) := by decide +kernel
theorem dX1_canStand_82 : decode cX1_canStand 82 = .ok (.iconst 0, 1) := by decide +kernel
theorem dX1_canStand_83 : decode cX1_canStand 83 = .ok (.ireturn, 1) := by decide +kernel
theorem dX1_countIn_0 : decode cX1_countIn 0 = .ok (.iload_n 1, 1) := by decide +kernel
theorem dX1_countIn_1 : decode cX1_countIn 1 = .ok (.tableswitch 56 4 6 #[27, 43, 40], 27) := by decide +kernel
theorem dX1_countIn_28 : decode cX1_countIn 28 = .ok (.aload_n 0, 1) := by decide +kernel
theorem dX1_countIn_29 : decode cX1_countIn 29 = .ok (.iconst 0, 1) := by decide +kernel
theorem dX1_countIn_30 : decode cX1_countIn 30 = .ok (.putfield 44, 3) := by decide +kernel
theorem dX1_countIn_33 : decode cX1_countIn 33 = .ok (.aload_n 0, 1) := by decide +kernel
theorem dX1_countIn_34 : decode cX1_countIn 34 = .ok (.iconst 0, 1) := by decide +kernel
theorem dX1_countIn_35 : decode cX1_countIn 35 = .ok (.putfield 47, 3) := by decide +kernel
theorem dX1_countIn_38 : decode cX1_countIn 38 = .ok (.goto 29, 3) := by decide +kernel
theorem dX1_countIn_41 : decode cX1_countIn 41 = .ok (.goto 26, 3) := by decide +kernel
theorem dX1_countIn_44 : decode cX1_countIn 44 = .ok (.aload_n 0, 1) := by decide +kernel
theorem dX1_countIn_45 : decode cX1_countIn 45 = .ok (.dup, 1) := by decide +kernel
theorem dX1_countIn_46 : decode cX1_countIn 46 = .ok (.getfield 47, 3) := by decide +kernel
theorem dX1_countIn_49 : decode cX1_countIn 49 = .ok (.iconst 1, 1) := by decide +kernel
theorem dX1_countIn_50 : decode cX1_countIn 50 = .ok (.iadd, 1) := by decide +kernel
theorem dX1_countIn_51 : decode cX1_countIn 51 = .ok (.putfield 47, 3) := by decide +kernel
theorem dX1_countIn_54 : decode cX1_countIn 54 = .ok (.goto 13, 3) := by decide +kernel
theorem dX1_countIn_57 : decode cX1_countIn 57 = .ok (.aload_n 0, 1) := by decide +kernel
theorem dX1_countIn_58 : decode cX1_countIn 58 = .ok (.dup, 1) := by decide +kernel
theorem dX1_countIn_59 : decode cX1_countIn 59 = .ok (.getfield 44, 3) := by decide +kernel
theorem dX1_countIn_62 : decode cX1_countIn 62 = .ok (.iconst 1, 1) := by decide +kernel
theorem dX1_countIn_63 : decode cX1_countIn 63 = .ok (.iadd, 1) := by decide +kernel
theorem dX1_countIn_64 : decode cX1_countIn 64 = .ok (.putfield 44, 3) := by decide +kernel
theorem dX1_countIn_67 : decode cX1_countIn 67 = .ok (.return_, 1) := by decide +kernel
theorem dX1_readNumber_0 : decode cX1_readNumber 0 = .ok (.aload_n 0, 1) := by decide +kernel
theorem dX1_readNumber_1 : decode cX1_readNumber 1 = .ok (.invokevirtual 56, 3) := by decide +kernel
theorem dX1_readNumber_4 : decode cX1_readNumber 4 = .ok (.aload_n 0, 1) := by decide +kernel
theorem dX1_readNumber_5 : decode cX1_readNumber 5 = .ok (.invokevirtual 81, 3) := by decide +kernel
theorem dX1_readNumber_8 : decode cX1_readNumber 8 = .ok (.istore 4, 2) := by decide +kernel
theorem dX1_readNumber_10 : decode cX1_readNumber 10 = .ok (.iload 4, 2) := by decide +kernel
theorem dX1_readNumber_12 : decode cX1_readNumber 12 = .ok (.iload_n 2, 1) := by decide +kernel
theorem dX1_readNumber_13 : decode cX1_readNumber 13 = .ok (.if_icmp .lt 9, 3) := by decide +kernel
theorem dX1_readNumber_16 : decode cX1_readNumber 16 = .ok (.iload 4, 2) := by decide +kernel
theorem dX1_readNumber_18 : decode cX1_readNumber 18 = .ok (.iload_n 3, 1) := by decide +kernel
theorem dX1_readNumber_19 : decode cX1_readNumber 19 = .ok (.if_icmp .le 5, 3) := by decide +kernel
theorem dX1_readNumber_22 : decode cX1_readNumber 22 = .ok (.iconst 0, 1) := by decide +kernel
theorem dX1_readNumber_23 : decode cX1_readNumber 23 = .ok (.ireturn, 1) := by decide +kernel
theorem dX1_readNumber_24 : decode cX1_readNumber 24 = .ok (.aload_n 0, 1) := by decide +kernel
theorem dX1_readNumber_25 : decode cX1_readNumber 25 = .ok (.getfield 23, 3) := by decide +kernel
theorem dX1_readNumber_28 : decode cX1_readNumber 28 = .ok (.aload_n 0, 1) := by decide +kernel
theorem dX1_readNumber_29 : decode cX1_readNumber 29 = .ok (.getfield 50, 3) := by decide +kernel
theorem dX1_readNumber_32 : decode cX1_readNumber 32 = .ok (.iconst 3, 1) := by decide +kernel
theorem dX1_readNumber_33 : decode cX1_readNumber 33 = .ok (.imul, 1) := by decide +kernel
theorem dX1_readNumber_34 : decode cX1_readNumber 34 = .ok (.iload_n 1, 1) := by decide +kernel
theorem dX1_readNumber_35 : decode cX1_readNumber 35 = .ok (.iadd, 1) := by decide +kernel
theorem dX1_readNumber_36 : decode cX1_readNumber 36 = .ok (.iload 4, 2) := by decide +kernel
theorem dX1_readNumber_38 : decode cX1_readNumber 38 = .ok (.invokevirtual 30, 3) := by decide +kernel
theorem dX1_readNumber_41 : decode cX1_readNumber 41 = .ok (.iconst 1, 1) := by decide +kernel
theorem dX1_readNumber_42 : decode cX1_readNumber 42 = .ok (.ireturn, 1) := by decide +kernel
theorem dX1_step_0 : decode cX1_step 0 = .ok (.aload_n 0, 1) := by decide +kernel
theorem dX1_step_1 : decode cX1_step 1 = .ok (.aload_n 0, 1) := by decide +kernel
theorem dX1_step_2 : decode cX1_step 2 = .ok (.getfield 53, 3) := by decide +kernel
theorem dX1_step_5 : decode cX1_step 5 = .ok (.putfield 63, 3) := by decide +kernel
theorem dX1_step_8 : decode cX1_step 8 = .ok (.aload_n 0, 1) := by decide +kernel
theorem dX1_step_9 : decode cX1_step 9 = .ok (.getfield 63, 3) := by decide +kernel
theorem dX1_step_12 : decode cX1_step 12 = .ok (.aload_n 0, 1) := by decide +kernel
theorem dX1_step_13 : decode cX1_step 13 = .ok (.getfield 26, 3) := by decide +kernel
theorem dX1_step_16 : decode cX1_step 16 = .ok (.if_icmp .ge 32, 3) := by decide +kernel
theorem dX1_step_19 : decode cX1_step 19 = .ok (.aload_n 0, 1) := by decide +kernel
theorem dX1_step_20 : decode cX1_step 20 = .ok (.getfield 14, 3) := by decide +kernel
theorem dX1_step_23 : decode cX1_step 23 = .ok (.aload_n 0, 1) := by decide +kernel
theorem dX1_step_24 : decode cX1_step 24 = .ok (.getfield 63, 3) := by decide +kernel
theorem dX1_step_27 : decode cX1_step 27 = .ok (.invokevirtual 40, 3) := by decide +kernel
theorem dX1_step_30 : decode cX1_step 30 = .ok (.bipush 32, 2) := by decide +kernel
theorem dX1_step_32 : decode cX1_step 32 = .ok (.if_icmp .ne 16, 3) := by decide +kernel
theorem dX1_step_35 : decode cX1_step 35 = .ok (.aload_n 0, 1) := by decide +kernel
theorem dX1_step_36 : decode cX1_step 36 = .ok (.dup, 1) := by decide +kernel
theorem dX1_step_37 : decode cX1_step 37 = .ok (.getfield 63, 3) := by decide +kernel
theorem dX1_step_40 : decode cX1_step 40 = .ok (.iconst 1, 1) := by decide +kernel
theorem dX1_step_41 : decode cX1_step 41 = .ok (.iadd, 1) := by decide +kernel
theorem dX1_step_42 : decode cX1_step 42 = .ok (.putfield 63, 3) := by decide +kernel
theorem dX1_step_45 : decode cX1_step 45 = .ok (.goto (-37), 3) := by decide +kernel
theorem dX1_step_48 : decode cX1_step 48 = .ok (.aload_n 0, 1) := by decide +kernel
theorem dX1_step_49 : decode cX1_step 49 = .ok (.aload_n 0, 1) := by decide +kernel
theorem dX1_step_50 : decode cX1_step 50 = .ok (.getfield 26, 3) := by decide +kernel
theorem dX1_step_53 : decode cX1_step 53 = .ok (.aload_n 0, 1) := by decide +kernel
theorem dX1_step_54 : decode cX1_step 54 = .ok (.getfield 63, 3) := by decide +kernel
theorem dX1_step_57 : decode cX1_step 57 = .ok (.iconst 1, 1) := by decide +kernel
theorem dX1_step_58 : decode cX1_step 58 = .ok (.iadd, 1) := by decide +kernel
theorem dX1_step_59 : decode cX1_step 59 = .ok (.invokestatic 34, 3) := by decide +kernel
theorem dX1_step_62 : decode cX1_step 62 = .ok (.putfield 53, 3) := by decide +kernel
theorem dX1_step_65 : decode cX1_step 65 = .ok (.aload_n 0, 1) := by decide +kernel
theorem dX1_step_66 : decode cX1_step 66 = .ok (.aload_n 0, 1) := by decide +kernel
theorem dX1_step_67 : decode cX1_step 67 = .ok (.getfield 63, 3) := by decide +kernel
theorem dX1_step_70 : decode cX1_step 70 = .ok (.invokevirtual 84, 3) := by decide +kernel
theorem dX1_step_73 : decode cX1_step 73 = .ok (.istore_n 1, 1) := by decide +kernel
theorem dX1_step_74 : decode cX1_step 74 = .ok (.aload_n 0, 1) := by decide +kernel
theorem dX1_step_75 : decode cX1_step 75 = .ok (.getfield 53, 3) := by decide +kernel
theorem dX1_step_78 : decode cX1_step 78 = .ok (.aload_n 0, 1) := by decide +kernel
theorem dX1_step_79 : decode cX1_step 79 = .ok (.getfield 26, 3) := by decide +kernel
theorem dX1_step_82 : decode cX1_step 82 = .ok (.if_icmp .ge 32, 3) := by decide +kernel
theorem dX1_step_85 : decode cX1_step 85 = .ok (.iload_n 1, 1) := by decide +kernel
theorem dX1_step_86 : decode cX1_step 86 = .ok (.ifCond .eq 28, 3) := by decide +kernel
theorem dX1_step_89 : decode cX1_step 89 = .ok (.aload_n 0, 1) := by decide +kernel
theorem dX1_step_90 : decode cX1_step 90 = .ok (.aload_n 0, 1) := by decide +kernel
theorem dX1_step_91 : decode cX1_step 91 = .ok (.getfield 53, 3) := by decide +kernel
theorem dX1_step_94 : decode cX1_step 94 = .ok (.invokevirtual 84, 3) := by decide +kernel
theorem dX1_step_97 : decode cX1_step 97 = .ok (.iload_n 1, 1) := by decide +kernel
theorem dX1_step_98 : decode cX1_step 98 = .ok (.if_icmp .ne 16, 3) := by decide +kernel
theorem dX1_step_101 : decode cX1_step 101 = .ok (.aload_n 0, 1) := by decide +kernel
theorem dX1_step_102 : decode cX1_step 102 = .ok (.dup, 1) := by decide +kernel
theorem dX1_step_103 : decode cX1_step 103 = .ok (.getfield 53, 3) := by decide +kernel
theorem dX1_step_106 : decode cX1_step 106 = .ok (.iconst 1, 1) := by decide +kernel
theorem dX1_step_107 : decode cX1_step 107 = .ok (.iadd, 1) := by decide +kernel
theorem dX1_step_108 : decode cX1_step 108 = .ok (.putfield 53, 3) := by decide +kernel
theorem dX1_step_111 : decode cX1_step 111 = .ok (.goto (-37), 3) := by decide +kernel
theorem dX1_step_114 : decode cX1_step 114 = .ok (.return_, 1) := by decide +kernel
theorem dX1_sortAt_0 : decode cX1_sortAt 0 = .ok (.aload_n 0, 1) := by decide +kernel
theorem dX1_sortAt_1 : decode cX1_sortAt 1 = .ok (.getfield 14, 3) := by decide +kernel
theorem dX1_sortAt_4 : decode cX1_sortAt 4 = .ok (.iload_n 1, 1) := by decide +kernel
theorem dX1_sortAt_5 : decode cX1_sortAt 5 = .ok (.invokevirtual 40, 3) := by decide +kernel
theorem dX1_sortAt_8 : decode cX1_sortAt 8 = .ok (.istore_n 2, 1) := by decide +kernel
theorem dX1_sortAt_9 : decode cX1_sortAt 9 = .ok (.iload_n 2, 1) := by decide +kernel
theorem dX1_sortAt_10 : decode cX1_sortAt 10 = .ok (.bipush 97, 2) := by decide +kernel
theorem dX1_sortAt_12 : decode cX1_sortAt 12 = .ok (.if_icmp .lt 11, 3) := by decide +kernel
theorem dX1_sortAt_15 : decode cX1_sortAt 15 = .ok (.iload_n 2, 1) := by decide +kernel
theorem dX1_sortAt_16 : decode cX1_sortAt 16 = .ok (.bipush 122, 2) := by decide +kernel
theorem dX1_sortAt_18 : decode cX1_sortAt 18 = .ok (.if_icmp .gt 5, 3) := by decide +kernel
theorem dX1_sortAt_21 : decode cX1_sortAt 21 = .ok (.iconst 1, 1) := by decide +kernel
theorem dX1_sortAt_22 : decode cX1_sortAt 22 = .ok (.ireturn, 1) := by decide +kernel
theorem dX1_sortAt_23 : decode cX1_sortAt 23 = .ok (.iload_n 2, 1) := by decide +kernel
theorem dX1_sortAt_24 : decode cX1_sortAt 24 = .ok (.bipush 48, 2) := by decide +kernel
theorem dX1_sortAt_26 : decode cX1_sortAt 26 = .ok (.if_icmp .lt 13, 3) := by decide +kernel
theorem dX1_sortAt_29 : decode cX1_sortAt 29 = .ok (.iload_n 2, 1) := by decide +kernel
theorem dX1_sortAt_30 : decode cX1_sortAt 30 = .ok (.bipush 57, 2) := by decide +kernel
theorem dX1_sortAt_32 : decode cX1_sortAt 32 = .ok (.if_icmp .gt 7, 3) := by decide +kernel
theorem dX1_sortAt_35 : decode cX1_sortAt 35 = .ok (.iconst 2, 1) := by decide +kernel
theorem dX1_sortAt_36 : decode cX1_sortAt 36 = .ok (.goto 4, 3) := by decide +kernel
theorem dX1_sortAt_39 : decode cX1_sortAt 39 = .ok (.iconst 0, 1) := by decide +kernel
theorem dX1_sortAt_40 : decode cX1_sortAt 40 = .ok (.ireturn, 1) := by decide +kernel
theorem dX1_numberHere_0 : decode cX1_numberHere 0 = .ok (.aload_n 0, 1) := by decide +kernel
theorem dX1_numberHere_1 : decode cX1_numberHere 1 = .ok (.getfield 63, 3) := by decide +kernel
theorem dX1_numberHere_4 : decode cX1_numberHere 4 = .ok (.aload_n 0, 1) := by decide +kernel
theorem dX1_numberHere_5 : decode cX1_numberHere 5 = .ok (.getfield 26, 3) := by decide +kernel
theorem dX1_numberHere_8 : decode cX1_numberHere 8 = .ok (.if_icmp .ge 28, 3) := by decide +kernel
theorem dX1_numberHere_11 : decode cX1_numberHere 11 = .ok (.aload_n 0, 1) := by decide +kernel
theorem dX1_numberHere_12 : decode cX1_numberHere 12 = .ok (.aload_n 0, 1) := by decide +kernel
theorem dX1_numberHere_13 : decode cX1_numberHere 13 = .ok (.getfield 63, 3) := by decide +kernel
theorem dX1_numberHere_16 : decode cX1_numberHere 16 = .ok (.invokevirtual 84, 3) := by decide +kernel
theorem dX1_numberHere_19 : decode cX1_numberHere 19 = .ok (.iconst 2, 1) := by decide +kernel
theorem dX1_numberHere_20 : decode cX1_numberHere 20 = .ok (.if_icmp .ne 16, 3) := by decide +kernel
theorem dX1_numberHere_23 : decode cX1_numberHere 23 = .ok (.aload_n 0, 1) := by decide +kernel
theorem dX1_numberHere_24 : decode cX1_numberHere 24 = .ok (.getfield 53, 3) := by decide +kernel
theorem dX1_numberHere_27 : decode cX1_numberHere 27 = .ok (.aload_n 0, 1) := by decide +kernel
theorem dX1_numberHere_28 : decode cX1_numberHere 28 = .ok (.getfield 63, 3) := by decide +kernel
theorem dX1_numberHere_31 : decode cX1_numberHere 31 = .ok (.isub, 1) := by decide +kernel
theorem dX1_numberHere_32 : decode cX1_numberHere 32 = .ok (.iconst 2, 1) := by decide +kernel
theorem dX1_numberHere_33 : decode cX1_numberHere 33 = .ok (.if_icmp .le 5, 3) := by decide +kernel
theorem dX1_numberHere_36 : decode cX1_numberHere 36 = .ok (.iconst (-1), 1) := by decide +kernel
theorem dX1_numberHere_37 : decode cX1_numberHere 37 = .ok (.ireturn, 1) := by decide +kernel
theorem dX1_numberHere_38 : decode cX1_numberHere 38 = .ok (.iconst 0, 1) := by decide +kernel
theorem dX1_numberHere_39 : decode cX1_numberHere 39 = .ok (.istore_n 1, 1) := by decide +kernel
theorem dX1_numberHere_40 : decode cX1_numberHere 40 = .ok (.aload_n 0, 1) := by decide +kernel
theorem dX1_numberHere_41 : decode cX1_numberHere 41 = .ok (.getfield 63, 3) := by decide +kernel
theorem dX1_numberHere_44 : decode cX1_numberHere 44 = .ok (.istore_n 2, 1) := by decide +kernel
theorem dX1_numberHere_45 : decode cX1_numberHere 45 = .ok (.iload_n 2, 1) := by decide +kernel
theorem dX1_numberHere_46 : decode cX1_numberHere 46 = .ok (.aload_n 0, 1) := by decide +kernel
theorem dX1_numberHere_47 : decode cX1_numberHere 47 = .ok (.getfield 53, 3) := by decide +kernel
theorem dX1_numberHere_50 : decode cX1_numberHere 50 = .ok (.if_icmp .ge 26, 3) := by decide +kernel
theorem dX1_numberHere_53 : decode cX1_numberHere 53 = .ok (.iload_n 1, 1) := by decide +kernel
theorem dX1_numberHere_54 : decode cX1_numberHere 54 = .ok (.bipush 10, 2) := by decide +kernel
theorem dX1_numberHere_56 : decode cX1_numberHere 56 = .ok (.imul, 1) := by decide +kernel
theorem dX1_numberHere_57 : decode cX1_numberHere 57 = .ok (.aload_n 0, 1) := by decide +kernel
theorem dX1_numberHere_58 : decode cX1_numberHere 58 = .ok (.getfield 14, 3) := by decide +kernel
theorem dX1_numberHere_61 : decode cX1_numberHere 61 = .ok (.iload_n 2, 1) := by decide +kernel
theorem dX1_numberHere_62 : decode cX1_numberHere 62 = .ok (.invokevirtual 40, 3) := by decide +kernel
theorem dX1_numberHere_65 : decode cX1_numberHere 65 = .ok (.iadd, 1) := by decide +kernel
theorem dX1_numberHere_66 : decode cX1_numberHere 66 = .ok (.bipush 48, 2) := by decide +kernel
theorem dX1_numberHere_68 : decode cX1_numberHere 68 = .ok (.isub, 1) := by decide +kernel
theorem dX1_numberHere_69 : decode cX1_numberHere 69 = .ok (.istore_n 1, 1) := by decide +kernel
theorem dX1_numberHere_70 : decode cX1_numberHere 70 = .ok (.iinc 2 1, 3) := by decide +kernel
theorem dX1_numberHere_73 : decode cX1_numberHere 73 = .ok (.goto (-28), 3) := by decide +kernel
theorem dX1_numberHere_76 : decode cX1_numberHere 76 = .ok (.iload_n 1, 1) := by decide +kernel
theorem dX1_numberHere_77 : decode cX1_numberHere 77 = .ok (.ireturn, 1) := by decide +kernel
theorem dX1_wordHere_0 : decode cX1_wordHere 0 = .ok (.iconst 0, 1) := by decide +kernel
theorem dX1_wordHere_1 : decode cX1_wordHere 1 = .ok (.istore_n 1, 1) := by decide +kernel
theorem dX1_wordHere_2 : decode cX1_wordHere 2 = .ok (.iload_n 1, 1) := by decide +kernel
theorem dX1_wordHere_3 : decode cX1_wordHere 3 = .ok (.bipush 7, 2) := by decide +kernel
theorem dX1_wordHere_5 : decode cX1_wordHere 5 = .ok (.if_icmp .ge 22, 3) := by decide +kernel
theorem dX1_wordHere_8 : decode cX1_wordHere 8 = .ok (.aload_n 0, 1) := by decide +kernel
theorem dX1_wordHere_9 : decode cX1_wordHere 9 = .ok (.iload_n 1, 1) := by decide +kernel
theorem dX1_wordHere_10 : decode cX1_wordHere 10 = .ok (.invokestatic 87, 3) := by decide +kernel
theorem dX1_wordHere_13 : decode cX1_wordHere 13 = .ok (.invokevirtual 91, 3) := by decide +kernel
theorem dX1_wordHere_16 : decode cX1_wordHere 16 = .ok (.ifCond .eq 5, 3) := by decide +kernel
theorem dX1_wordHere_19 : decode cX1_wordHere 19 = .ok (.iload_n 1, 1) := by decide +kernel
theorem dX1_wordHere_20 : decode cX1_wordHere 20 = .ok (.ireturn, 1) := by decide +kernel
theorem dX1_wordHere_21 : decode cX1_wordHere 21 = .ok (.iinc 1 1, 3) := by decide +kernel
theorem dX1_wordHere_24 : decode cX1_wordHere 24 = .ok (.goto (-22), 3) := by decide +kernel
theorem dX1_wordHere_27 : decode cX1_wordHere 27 = .ok (.iconst (-1), 1) := by decide +kernel
theorem dX1_wordHere_28 : decode cX1_wordHere 28 = .ok (.ireturn, 1) := by decide +kernel
theorem dX1_isHere_0 : decode cX1_isHere 0 = .ok (.aload_n 0, 1) := by decide +kernel
theorem dX1_isHere_1 : decode cX1_isHere 1 = .ok (.getfield 53, 3) := by decide +kernel
theorem dX1_isHere_4 : decode cX1_isHere 4 = .ok (.aload_n 0, 1) := by decide +kernel
theorem dX1_isHere_5 : decode cX1_isHere 5 = .ok (.getfield 63, 3) := by decide +kernel
theorem dX1_isHere_8 : decode cX1_isHere 8 = .ok (.isub, 1) := by decide +kernel
theorem dX1_isHere_9 : decode cX1_isHere 9 = .ok (.aload_n 1, 1) := by decide +kernel
theorem dX1_isHere_10 : decode cX1_isHere 10 = .ok (.invokevirtual 95, 3) := by decide +kernel
theorem dX1_isHere_13 : decode cX1_isHere 13 = .ok (.if_icmp .eq 5, 3) := by decide +kernel
theorem dX1_isHere_16 : decode cX1_isHere 16 = .ok (.iconst 0, 1) := by decide +kernel
theorem dX1_isHere_17 : decode cX1_isHere 17 = .ok (.ireturn, 1) := by decide +kernel
theorem dX1_isHere_18 : decode cX1_isHere 18 = .ok (.iconst 0, 1) := by decide +kernel
theorem dX1_isHere_19 : decode cX1_isHere 19 = .ok (.istore_n 2, 1) := by decide +kernel
theorem dX1_isHere_20 : decode cX1_isHere 20 = .ok (.iload_n 2, 1) := by decide +kernel
theorem dX1_isHere_21 : decode cX1_isHere 21 = .ok (.aload_n 1, 1) := by decide +kernel
theorem dX1_isHere_22 : decode cX1_isHere 22 = .ok (.invokevirtual 95, 3) := by decide +kernel
theorem dX1_isHere_25 : decode cX1_isHere 25 = .ok (.if_icmp .ge 32, 3) := by decide +kernel
theorem dX1_isHere_28 : decode cX1_isHere 28 = .ok (.aload_n 0, 1) := by decide +kernel
theorem dX1_isHere_29 : decode cX1_isHere 29 = .ok (.getfield 14, 3) := by decide +kernel
theorem dX1_isHere_32 : decode cX1_isHere 32 = .ok (.aload_n 0, 1) := by decide +kernel
theorem dX1_isHere_33 : decode cX1_isHere 33 = .ok (.getfield 63, 3) := by decide +kernel
theorem dX1_isHere_36 : decode cX1_isHere 36 = .ok (.iload_n 2, 1) := by decide +kernel
theorem dX1_isHere_37 : decode cX1_isHere 37 = .ok (.iadd, 1) := by decide +kernel
theorem dX1_isHere_38 : decode cX1_isHere 38 = .ok (.invokevirtual 40, 3) := by decide +kernel
theorem dX1_isHere_41 : decode cX1_isHere 41 = .ok (.aload_n 1, 1) := by decide +kernel
theorem dX1_isHere_42 : decode cX1_isHere 42 = .ok (.iload_n 2, 1) := by decide +kernel
theorem dX1_isHere_43 : decode cX1_isHere 43 = .ok (.invokevirtual 99, 3) := by decide +kernel
theorem dX1_isHere_46 : decode cX1_isHere 46 = .ok (.if_icmp .eq 5, 3) := by decide +kernel
theorem dX1_isHere_49 : decode cX1_isHere 49 = .ok (.iconst 0, 1) := by decide +kernel
theorem dX1_isHere_50 : decode cX1_isHere 50 = .ok (.ireturn, 1) := by decide +kernel
theorem dX1_isHere_51 : decode cX1_isHere 51 = .ok (.iinc 2 1, 3) := by decide +kernel
theorem dX1_isHere_54 : decode cX1_isHere 54 = .ok (.goto (-34), 3) := by decide +kernel
theorem dX1_isHere_57 : decode cX1_isHere 57 = .ok (.iconst 1, 1) := by decide +kernel
theorem dX1_isHere_58 : decode cX1_isHere 58 = .ok (.ireturn, 1) := by decide +kernel
theorem dX1_spelling_0 : decode cX1_spelling 0 = .ok (.iload_n 0, 1) := by decide +kernel
theorem dX1_spelling_1 : decode cX1_spelling 1 = .ok (.tableswitch 57 0 5 #[39, 42, 45, 48, 51, 54], 39) := by decide +kernel
theorem dX1_spelling_40 : decode cX1_spelling 40 = .ok (.ldc 103, 2) := by decide +kernel
theorem dX1_spelling_42 : decode cX1_spelling 42 = .ok (.areturn, 1) := by decide +kernel
theorem dX1_spelling_43 : decode cX1_spelling 43 = .ok (.ldc 105, 2) := by decide +kernel
theorem dX1_spelling_45 : decode cX1_spelling 45 = .ok (.areturn, 1) := by decide +kernel
theorem dX1_spelling_46 : decode cX1_spelling 46 = .ok (.ldc 107, 2) := by decide +kernel
theorem dX1_spelling_48 : decode cX1_spelling 48 = .ok (.areturn, 1) := by decide +kernel
theorem dX1_spelling_49 : decode cX1_spelling 49 = .ok (.ldc 109, 2) := by decide +kernel
theorem dX1_spelling_51 : decode cX1_spelling 51 = .ok (.areturn, 1) := by decide +kernel
theorem dX1_spelling_52 : decode cX1_spelling 52 = .ok (.ldc 111, 2) := by decide +kernel
theorem dX1_spelling_54 : decode cX1_spelling 54 = .ok (.areturn, 1) := by decide +kernel
theorem dX1_spelling_55 : decode cX1_spelling 55 = .ok (.ldc 113, 2) := by decide +kernel
theorem dX1_spelling_57 : decode cX1_spelling 57 = .ok (.areturn, 1) := by decide +kernel
theorem dX1_spelling_58 : decode cX1_spelling 58 = .ok (.ldc 115, 2) := by decide +kernel
theorem dX1_spelling_60 : decode cX1_spelling 60 = .ok (.areturn, 1) := by decide +kernel
theorem dX2_init_0 : decode cX2_init 0 = .ok (.aload_n 0, 1) := by decide +kernel
theorem dX2_init_1 : decode cX2_init 1 = .ok (.invokespecial 1, 3) := by decide +kernel
theorem dX2_init_4 : decode cX2_init 4 = .ok (.aload_n 0, 1) := by decide +kernel
theorem dX2_init_5 : decode cX2_init 5 = .ok (.new 7, 3) := by decide +kernel
theorem dX2_init_8 : decode cX2_init 8 = .ok (.dup, 1) := by decide +kernel
theorem dX2_init_9 : decode cX2_init 9 = .ok (.iload_n 1, 1) := by decide +kernel
theorem dX2_init_10 : decode cX2_init 10 = .ok (.bipush 85, 2) := by decide +kernel
theorem dX2_init_12 : decode cX2_init 12 = .ok (.imul, 1) := by decide +kernel
theorem dX2_init_13 : decode cX2_init 13 = .ok (.invokespecial 11, 3) := by decide +kernel
theorem dX2_init_16 : decode cX2_init 16 = .ok (.putfield 14, 3) := by decide +kernel
theorem dX2_init_19 : decode cX2_init 19 = .ok (.return_, 1) := by decide +kernel
theorem dX2_store_0 : decode cX2_store 0 = .ok (.aload_n 0, 1) := by decide +kernel
theorem dX2_store_1 : decode cX2_store 1 = .ok (.getfield 14, 3) := by decide +kernel
theorem dX2_store_4 : decode cX2_store 4 = .ok (.aload_n 2, 1) := by decide +kernel
theorem dX2_store_5 : decode cX2_store 5 = .ok (.getfield 20, 3) := by decide +kernel
theorem dX2_store_8 : decode cX2_store 8 = .ok (.iconst 0, 1) := by decide +kernel
theorem dX2_store_9 : decode cX2_store 9 = .ok (.iload_n 1, 1) := by decide +kernel
theorem dX2_store_10 : decode cX2_store 10 = .ok (.bipush 85, 2) := by decide +kernel
theorem dX2_store_12 : decode cX2_store 12 = .ok (.imul, 1) := by decide +kernel
theorem dX2_store_13 : decode cX2_store 13 = .ok (.bipush 85, 2) := by decide +kernel
theorem dX2_store_15 : decode cX2_store 15 = .ok (.invokevirtual 21, 3) := by decide +kernel
theorem dX2_store_18 : decode cX2_store 18 = .ok (.return_, 1) := by decide +kernel
theorem dX2_fetch_0 : decode cX2_fetch 0 = .ok (.aload_n 2, 1) := by decide +kernel
theorem dX2_fetch_1 : decode cX2_fetch 1 = .ok (.getfield 20, 3) := by decide +kernel
theorem dX2_fetch_4 : decode cX2_fetch 4 = .ok (.aload_n 0, 1) := by decide +kernel
theorem dX2_fetch_5 : decode cX2_fetch 5 = .ok (.getfield 14, 3) := by decide +kernel
theorem dX2_fetch_8 : decode cX2_fetch 8 = .ok (.iload_n 1, 1) := by decide +kernel
theorem dX2_fetch_9 : decode cX2_fetch 9 = .ok (.bipush 85, 2) := by decide +kernel
theorem dX2_fetch_11 : decode cX2_fetch 11 = .ok (.imul, 1) := by decide +kernel
theorem dX2_fetch_12 : decode cX2_fetch 12 = .ok (.iconst 0, 1) := by decide +kernel
theorem dX2_fetch_13 : decode cX2_fetch 13 = .ok (.bipush 85, 2) := by decide +kernel
theorem dX2_fetch_15 : decode cX2_fetch 15 = .ok (.invokevirtual 21, 3) := by decide +kernel
theorem dX2_fetch_18 : decode cX2_fetch 18 = .ok (.return_, 1) := by decide +kernel
theorem dX3_init_0 : decode cX3_init 0 = .ok (.aload_n 0, 1) := by decide +kernel
theorem dX3_init_1 : decode cX3_init 1 = .ok (.invokespecial 3, 3) := by decide +kernel
theorem dX3_init_4 : decode cX3_init 4 = .ok (.aload_n 0, 1) := by decide +kernel
theorem dX3_init_5 : decode cX3_init 5 = .ok (.new 9, 3) := by decide +kernel
theorem dX3_init_8 : decode cX3_init 8 = .ok (.dup, 1) := by decide +kernel
theorem dX3_init_9 : decode cX3_init 9 = .ok (.bipush 6, 2) := by decide +kernel
theorem dX3_init_11 : decode cX3_init 11 = .ok (.invokespecial 11, 3) := by decide +kernel
theorem dX3_init_14 : decode cX3_init 14 = .ok (.putfield 14, 3) := by decide +kernel
theorem dX3_init_17 : decode cX3_init 17 = .ok (.aload_n 0, 1) := by decide +kernel
theorem dX3_init_18 : decode cX3_init 18 = .ok (.new 9, 3) := by decide +kernel
theorem dX3_init_21 : decode cX3_init 21 = .ok (.dup, 1) := by decide +kernel
theorem dX3_init_22 : decode cX3_init 22 = .ok (.bipush 6, 2) := by decide +kernel
theorem dX3_init_24 : decode cX3_init 24 = .ok (.invokespecial 11, 3) := by decide +kernel
theorem dX3_init_27 : decode cX3_init 27 = .ok (.putfield 20, 3) := by decide +kernel
theorem dX3_init_30 : decode cX3_init 30 = .ok (.aload_n 0, 1) := by decide +kernel
theorem dX3_init_31 : decode cX3_init 31 = .ok (.new 9, 3) := by decide +kernel
theorem dX3_init_34 : decode cX3_init 34 = .ok (.dup, 1) := by decide +kernel
theorem dX3_init_35 : decode cX3_init 35 = .ok (.bipush 6, 2) := by decide +kernel
theorem dX3_init_37 : decode cX3_init 37 = .ok (.invokespecial 11, 3) := by decide +kernel
theorem dX3_init_40 : decode cX3_init 40 = .ok (.putfield 23, 3) := by decide +kernel
theorem dX3_init_43 : decode cX3_init 43 = .ok (.return_, 1) := by decide +kernel
theorem dX3_add_0 : decode cX3_add 0 = .ok (.aload_n 0, 1) := by decide +kernel
theorem dX3_add_1 : decode cX3_add 1 = .ok (.getfield 14, 3) := by decide +kernel
theorem dX3_add_4 : decode cX3_add 4 = .ok (.aload_n 0, 1) := by decide +kernel
theorem dX3_add_5 : decode cX3_add 5 = .ok (.getfield 26, 3) := by decide +kernel
theorem dX3_add_8 : decode cX3_add 8 = .ok (.iload_n 1, 1) := by decide +kernel
theorem dX3_add_9 : decode cX3_add 9 = .ok (.invokevirtual 30, 3) := by decide +kernel
theorem dX3_add_12 : decode cX3_add 12 = .ok (.aload_n 0, 1) := by decide +kernel
theorem dX3_add_13 : decode cX3_add 13 = .ok (.getfield 20, 3) := by decide +kernel
theorem dX3_add_16 : decode cX3_add 16 = .ok (.aload_n 0, 1) := by decide +kernel
theorem dX3_add_17 : decode cX3_add 17 = .ok (.getfield 26, 3) := by decide +kernel
theorem dX3_add_20 : decode cX3_add 20 = .ok (.iload_n 2, 1) := by decide +kernel
theorem dX3_add_21 : decode cX3_add 21 = .ok (.invokevirtual 30, 3) := by decide +kernel
theorem dX3_add_24 : decode cX3_add 24 = .ok (.aload_n 0, 1) := by decide +kernel
theorem dX3_add_25 : decode cX3_add 25 = .ok (.getfield 23, 3) := by decide +kernel
theorem dX3_add_28 : decode cX3_add 28 = .ok (.aload_n 0, 1) := by decide +kernel
theorem dX3_add_29 : decode cX3_add 29 = .ok (.getfield 26, 3) := by decide +kernel
theorem dX3_add_32 : decode cX3_add 32 = .ok (.iload_n 3, 1) := by decide +kernel
theorem dX3_add_33 : decode cX3_add 33 = .ok (.invokevirtual 30, 3) := by decide +kernel
theorem dX3_add_36 : decode cX3_add 36 = .ok (.aload_n 0, 1) := by decide +kernel
theorem dX3_add_37 : decode cX3_add 37 = .ok (.bipush 6, 2) := by decide +kernel
theorem dX3_add_39 : decode cX3_add 39 = .ok (.aload_n 0, 1) := by decide +kernel
theorem dX3_add_40 : decode cX3_add 40 = .ok (.getfield 26, 3) := by decide +kernel
theorem dX3_add_43 : decode cX3_add 43 = .ok (.iconst 1, 1) := by decide +kernel
theorem dX3_add_44 : decode cX3_add 44 = .ok (.iadd, 1) := by decide +kernel
theorem dX3_add_45 : decode cX3_add 45 = .ok (.invokestatic 34, 3) := by decide +kernel
theorem dX3_add_48 : decode cX3_add 48 = .ok (.putfield 26, 3) := by decide +kernel
theorem dX3_add_51 : decode cX3_add 51 = .ok (.return_, 1) := by decide +kernel
theorem dX3_clear_0 : decode cX3_clear 0 = .ok (.aload_n 0, 1) := by decide +kernel
theorem dX3_clear_1 : decode cX3_clear 1 = .ok (.iconst 0, 1) := by decide +kernel
theorem dX3_clear_2 : decode cX3_clear 2 = .ok (.putfield 26, 3) := by decide +kernel
theorem dX3_clear_5 : decode cX3_clear 5 = .ok (.return_, 1) := by decide +kernel
theorem dX3_allTrueOf_0 : decode cX3_allTrueOf 0 = .ok (.iconst 0, 1) := by decide +kernel
theorem dX3_allTrueOf_1 : decode cX3_allTrueOf 1 = .ok (.istore_n 3, 1) := by decide +kernel
theorem dX3_allTrueOf_2 : decode cX3_allTrueOf 2 = .ok (.iload_n 3, 1) := by decide +kernel
theorem dX3_allTrueOf_3 : decode cX3_allTrueOf 3 = .ok (.aload_n 0, 1) := by decide +kernel
theorem dX3_allTrueOf_4 : decode cX3_allTrueOf 4 = .ok (.getfield 26, 3) := by decide +kernel
theorem dX3_allTrueOf_7 : decode cX3_allTrueOf 7 = .ok (.if_icmp .ge 43, 3) := by decide +kernel
theorem dX3_allTrueOf_10 : decode cX3_allTrueOf 10 = .ok (.aload_n 1, 1) := by decide +kernel
theorem dX3_allTrueOf_11 : decode cX3_allTrueOf 11 = .ok (.iload_n 2, 1) := by decide +kernel
theorem dX3_allTrueOf_12 : decode cX3_allTrueOf 12 = .ok (.aload_n 0, 1) := by decide +kernel
theorem dX3_allTrueOf_13 : decode cX3_allTrueOf 13 = .ok (.getfield 14, 3) := by decide +kernel
theorem dX3_allTrueOf_16 : decode cX3_allTrueOf 16 = .ok (.iload_n 3, 1) := by decide +kernel
theorem dX3_allTrueOf_17 : decode cX3_allTrueOf 17 = .ok (.invokevirtual 40, 3) := by decide +kernel
theorem dX3_allTrueOf_20 : decode cX3_allTrueOf 20 = .ok (.aload_n 0, 1) := by decide +kernel
theorem dX3_allTrueOf_21 : decode cX3_allTrueOf 21 = .ok (.getfield 20, 3) := by decide +kernel
theorem dX3_allTrueOf_24 : decode cX3_allTrueOf 24 = .ok (.iload_n 3, 1) := by decide +kernel
theorem dX3_allTrueOf_25 : decode cX3_allTrueOf 25 = .ok (.invokevirtual 40, 3) := by decide +kernel
theorem dX3_allTrueOf_28 : decode cX3_allTrueOf 28 = .ok (.invokevirtual 44, 3) := by decide +kernel
theorem dX3_allTrueOf_31 : decode cX3_allTrueOf 31 = .ok (.aload_n 0, 1) := by decide +kernel
theorem dX3_allTrueOf_32 : decode cX3_allTrueOf 32 = .ok (.getfield 23, 3) := by decide +kernel
theorem dX3_allTrueOf_35 : decode cX3_allTrueOf 35 = .ok (.iload_n 3, 1) := by decide +kernel
theorem dX3_allTrueOf_36 : decode cX3_allTrueOf 36 = .ok (.invokevirtual 40, 3) := by decide +kernel
theorem dX3_allTrueOf_39 : decode cX3_allTrueOf 39 = .ok (.if_icmp .eq 5, 3) := by decide +kernel
theorem dX3_allTrueOf_42 : decode cX3_allTrueOf 42 = .ok (.iconst 0, 1) := by decide +kernel
theorem dX3_allTrueOf_43 : decode cX3_allTrueOf 43 = .ok (.ireturn, 1) := by decide +kernel
theorem dX3_allTrueOf_44 : decode cX3_allTrueOf 44 = .ok (.iinc 3 1, 3) := by decide +kernel
theorem dX3_allTrueOf_47 : decode cX3_allTrueOf 47 = .ok (.goto (-45), 3) := by decide +kernel
theorem dX3_allTrueOf_50 : decode cX3_allTrueOf 50 = .ok (.iconst 1, 1) := by decide +kernel
theorem dX3_allTrueOf_51 : decode cX3_allTrueOf 51 = .ok (.ireturn, 1) := by decide +kernel
theorem dX4_init_0 : decode cX4_init 0 = .ok (.aload_n 0, 1) := by decide +kernel
theorem dX4_init_1 : decode cX4_init 1 = .ok (.invokespecial 5, 3) := by decide +kernel
theorem dX4_init_4 : decode cX4_init 4 = .ok (.aload_n 0, 1) := by decide +kernel
theorem dX4_init_5 : decode cX4_init 5 = .ok (.new 11, 3) := by decide +kernel
theorem dX4_init_8 : decode cX4_init 8 = .ok (.dup, 1) := by decide +kernel
theorem dX4_init_9 : decode cX4_init 9 = .ok (.bipush 85, 2) := by decide +kernel
theorem dX4_init_11 : decode cX4_init 11 = .ok (.invokespecial 13, 3) := by decide +kernel
theorem dX4_init_14 : decode cX4_init 14 = .ok (.putfield 16, 3) := by decide +kernel
theorem dX4_init_17 : decode cX4_init 17 = .ok (.return_, 1) := by decide +kernel
theorem dX4_startAfresh_0 : decode cX4_startAfresh 0 = .ok (.aload_n 0, 1) := by decide +kernel
theorem dX4_startAfresh_1 : decode cX4_startAfresh 1 = .ok (.getfield 16, 3) := by decide +kernel
theorem dX4_startAfresh_4 : decode cX4_startAfresh 4 = .ok (.invokevirtual 20, 3) := by decide +kernel
theorem dX4_startAfresh_7 : decode cX4_startAfresh 7 = .ok (.iconst 0, 1) := by decide +kernel
theorem dX4_startAfresh_8 : decode cX4_startAfresh 8 = .ok (.istore_n 2, 1) := by decide +kernel
theorem dX4_startAfresh_9 : decode cX4_startAfresh 9 = .ok (.iload_n 2, 1) := by decide +kernel
theorem dX4_startAfresh_10 : decode cX4_startAfresh 10 = .ok (.aload_n 1, 1) := by decide +kernel
theorem dX4_startAfresh_11 : decode cX4_startAfresh 11 = .ok (.getfield 23, 3) := by decide +kernel
theorem dX4_startAfresh_14 : decode cX4_startAfresh 14 = .ok (.if_icmp .ge 35, 3) := by decide +kernel
theorem dX4_startAfresh_17 : decode cX4_startAfresh 17 = .ok (.iconst 0, 1) := by decide +kernel
theorem dX4_startAfresh_18 : decode cX4_startAfresh 18 = .ok (.istore_n 3, 1) := by decide +kernel
theorem dX4_startAfresh_19 : decode cX4_startAfresh 19 = .ok (.iload_n 3, 1) := by decide +kernel
theorem dX4_startAfresh_20 : decode cX4_startAfresh 20 = .ok (.bipush 6, 2) := by decide +kernel
theorem dX4_startAfresh_22 : decode cX4_startAfresh 22 = .ok (.if_icmp .ge 21, 3) := by decide +kernel
theorem dX4_startAfresh_25 : decode cX4_startAfresh 25 = .ok (.aload_n 0, 1) := by decide +kernel
theorem dX4_startAfresh_26 : decode cX4_startAfresh 26 = .ok (.iload_n 2, 1) := by decide +kernel
theorem dX4_startAfresh_27 : decode cX4_startAfresh 27 = .ok (.iload_n 3, 1) := by decide +kernel
theorem dX4_startAfresh_28 : decode cX4_startAfresh 28 = .ok (.aload_n 1, 1) := by decide +kernel
theorem dX4_startAfresh_29 : decode cX4_startAfresh 29 = .ok (.iload_n 2, 1) := by decide +kernel
theorem dX4_startAfresh_30 : decode cX4_startAfresh 30 = .ok (.iload_n 3, 1) := by decide +kernel
theorem dX4_startAfresh_31 : decode cX4_startAfresh 31 = .ok (.invokevirtual 29, 3) := by decide +kernel
theorem dX4_startAfresh_34 : decode cX4_startAfresh 34 = .ok (.invokevirtual 33, 3) := by decide +kernel
theorem dX4_startAfresh_37 : decode cX4_startAfresh 37 = .ok (.iinc 3 1, 3) := by decide +kernel
theorem dX4_startAfresh_40 : decode cX4_startAfresh 40 = .ok (.goto (-21), 3) := by decide +kernel
theorem dX4_startAfresh_43 : decode cX4_startAfresh 43 = .ok (.iinc 2 1, 3) := by decide +kernel
theorem dX4_startAfresh_46 : decode cX4_startAfresh 46 = .ok (.goto (-37), 3) := by decide +kernel
theorem dX4_startAfresh_49 : decode cX4_startAfresh 49 = .ok (.return_, 1) := by decide +kernel
theorem dX4_date_0 : decode cX4_date 0 = .ok (.aload_n 0, 1) := by decide +kernel
theorem dX4_date_1 : decode cX4_date 1 = .ok (.getfield 16, 3) := by decide +kernel
theorem dX4_date_4 : decode cX4_date 4 = .ok (.iconst 0, 1) := by decide +kernel
theorem dX4_date_5 : decode cX4_date 5 = .ok (.invokevirtual 37, 3) := by decide +kernel
theorem dX4_date_8 : decode cX4_date 8 = .ok (.ireturn, 1) := by decide +kernel
theorem dX4_passDay_0 : decode cX4_passDay 0 = .ok (.aload_n 0, 1) := by decide +kernel
theorem dX4_passDay_1 : decode cX4_passDay 1 = .ok (.getfield 16, 3) := by decide +kernel
theorem dX4_passDay_4 : decode cX4_passDay 4 = .ok (.iconst 0, 1) := by decide +kernel
theorem dX4_passDay_5 : decode cX4_passDay 5 = .ok (.aload_n 0, 1) := by decide +kernel
theorem dX4_passDay_6 : decode cX4_passDay 6 = .ok (.invokevirtual 41, 3) := by decide +kernel
theorem dX4_passDay_9 : decode cX4_passDay 9 = .ok (.iconst 1, 1) := by decide +kernel
theorem dX4_passDay_10 : decode cX4_passDay 10 = .ok (.iadd, 1) := by decide +kernel
theorem dX4_passDay_11 : decode cX4_passDay 11 = .ok (.invokevirtual 45, 3) := by decide +kernel
theorem dX4_passDay_14 : decode cX4_passDay 14 = .ok (.iconst 0, 1) := by decide +kernel
theorem dX4_passDay_15 : decode cX4_passDay 15 = .ok (.istore_n 2, 1) := by decide +kernel
theorem dX4_passDay_16 : decode cX4_passDay 16 = .ok (.iload_n 2, 1) := by decide +kernel
theorem dX4_passDay_17 : decode cX4_passDay 17 = .ok (.iload_n 1, 1) := by decide +kernel
theorem dX4_passDay_18 : decode cX4_passDay 18 = .ok (.if_icmp .ge 42, 3) := by decide +kernel
theorem dX4_passDay_21 : decode cX4_passDay 21 = .ok (.iconst 0, 1) := by decide +kernel
theorem dX4_passDay_22 : decode cX4_passDay 22 = .ok (.istore_n 3, 1) := by decide +kernel
theorem dX4_passDay_23 : decode cX4_passDay 23 = .ok (.iload_n 3, 1) := by decide +kernel
theorem dX4_passDay_24 : decode cX4_passDay 24 = .ok (.bipush 6, 2) := by decide +kernel
theorem dX4_passDay_26 : decode cX4_passDay 26 = .ok (.if_icmp .ge 28, 3) := by decide +kernel
theorem dX4_passDay_29 : decode cX4_passDay 29 = .ok (.aload_n 0, 1) := by decide +kernel
theorem dX4_passDay_30 : decode cX4_passDay 30 = .ok (.iload_n 2, 1) := by decide +kernel
theorem dX4_passDay_31 : decode cX4_passDay 31 = .ok (.iload_n 3, 1) := by decide +kernel
theorem dX4_passDay_32 : decode cX4_passDay 32 = .ok (.bipush 9, 2) := by decide +kernel
theorem dX4_passDay_34 : decode cX4_passDay 34 = .ok (.aload_n 0, 1) := by decide +kernel
theorem dX4_passDay_35 : decode cX4_passDay 35 = .ok (.iload_n 2, 1) := by decide +kernel
theorem dX4_passDay_36 : decode cX4_passDay 36 = .ok (.iload_n 3, 1) := by decide +kernel
theorem dX4_passDay_37 : decode cX4_passDay 37 = .ok (.invokevirtual 49, 3) := by decide +kernel
theorem dX4_passDay_40 : decode cX4_passDay 40 = .ok (.iconst 1, 1) := by decide +kernel
theorem dX4_passDay_41 : decode cX4_passDay 41 = .ok (.iadd, 1) := by decide +kernel
theorem dX4_passDay_42 : decode cX4_passDay 42 = .ok (.invokestatic 52, 3) := by decide +kernel
theorem dX4_passDay_45 : decode cX4_passDay 45 = .ok (.invokevirtual 33, 3) := by decide +kernel
theorem dX4_passDay_48 : decode cX4_passDay 48 = .ok (.iinc 3 1, 3) := by decide +kernel
theorem dX4_passDay_51 : decode cX4_passDay 51 = .ok (.goto (-28), 3) := by decide +kernel
theorem dX4_passDay_54 : decode cX4_passDay 54 = .ok (.iinc 2 1, 3) := by decide +kernel
theorem dX4_passDay_57 : decode cX4_passDay 57 = .ok (.goto (-41), 3) := by decide +kernel
theorem dX4_passDay_60 : decode cX4_passDay 60 = .ok (.return_, 1) := by decide +kernel
theorem dX4_beardOn_0 : decode cX4_beardOn 0 = .ok (.aload_n 0, 1) := by decide +kernel
theorem dX4_beardOn_1 : decode cX4_beardOn 1 = .ok (.getfield 16, 3) := by decide +kernel
theorem dX4_beardOn_4 : decode cX4_beardOn 4 = .ok (.iconst 1, 1) := by decide +kernel
theorem dX4_beardOn_5 : decode cX4_beardOn 5 = .ok (.iload_n 1, 1) := by decide +kernel
theorem dX4_beardOn_6 : decode cX4_beardOn 6 = .ok (.bipush 6, 2) := by decide +kernel
theorem dX4_beardOn_8 : decode cX4_beardOn 8 = .ok (.imul, 1) := by decide +kernel
theorem dX4_beardOn_9 : decode cX4_beardOn 9 = .ok (.iadd, 1) := by decide +kernel
theorem dX4_beardOn_10 : decode cX4_beardOn 10 = .ok (.iload_n 2, 1) := by decide +kernel
theorem dX4_beardOn_11 : decode cX4_beardOn 11 = .ok (.iadd, 1) := by decide +kernel
theorem dX4_beardOn_12 : decode cX4_beardOn 12 = .ok (.invokevirtual 37, 3) := by decide +kernel
theorem dX4_beardOn_15 : decode cX4_beardOn 15 = .ok (.ireturn, 1) := by decide +kernel
theorem dX4_setBeard_0 : decode cX4_setBeard 0 = .ok (.aload_n 0, 1) := by decide +kernel
theorem dX4_setBeard_1 : decode cX4_setBeard 1 = .ok (.getfield 16, 3) := by decide +kernel
theorem dX4_setBeard_4 : decode cX4_setBeard 4 = .ok (.iconst 1, 1) := by decide +kernel
theorem dX4_setBeard_5 : decode cX4_setBeard 5 = .ok (.iload_n 1, 1) := by decide +kernel
theorem dX4_setBeard_6 : decode cX4_setBeard 6 = .ok (.bipush 6, 2) := by decide +kernel
theorem dX4_setBeard_8 : decode cX4_setBeard 8 = .ok (.imul, 1) := by decide +kernel
theorem dX4_setBeard_9 : decode cX4_setBeard 9 = .ok (.iadd, 1) := by decide +kernel
theorem dX4_setBeard_10 : decode cX4_setBeard 10 = .ok (.iload_n 2, 1) := by decide +kernel
theorem dX4_setBeard_11 : decode cX4_setBeard 11 = .ok (.iadd, 1) := by decide +kernel
theorem dX4_setBeard_12 : decode cX4_setBeard 12 = .ok (.iload_n 3, 1) := by decide +kernel
theorem dX4_setBeard_13 : decode cX4_setBeard 13 = .ok (.invokevirtual 45, 3) := by decide +kernel
theorem dX4_setBeard_16 : decode cX4_setBeard 16 = .ok (.return_, 1) := by decide +kernel
theorem dX4_beardsOf_0 : decode cX4_beardsOf 0 = .ok (.iconst 0, 1) := by decide +kernel
theorem dX4_beardsOf_1 : decode cX4_beardsOf 1 = .ok (.istore_n 2, 1) := by decide +kernel
theorem dX4_beardsOf_2 : decode cX4_beardsOf 2 = .ok (.iconst 0, 1) := by decide +kernel
theorem dX4_beardsOf_3 : decode cX4_beardsOf 3 = .ok (.istore_n 3, 1) := by decide +kernel
theorem dX4_beardsOf_4 : decode cX4_beardsOf 4 = .ok (.iload_n 3, 1) := by decide +kernel
theorem dX4_beardsOf_5 : decode cX4_beardsOf 5 = .ok (.bipush 6, 2) := by decide +kernel
theorem dX4_beardsOf_7 : decode cX4_beardsOf 7 = .ok (.if_icmp .ge 18, 3) := by decide +kernel
theorem dX4_beardsOf_10 : decode cX4_beardsOf 10 = .ok (.iload_n 2, 1) := by decide +kernel
theorem dX4_beardsOf_11 : decode cX4_beardsOf 11 = .ok (.aload_n 0, 1) := by decide +kernel
theorem dX4_beardsOf_12 : decode cX4_beardsOf 12 = .ok (.iload_n 1, 1) := by decide +kernel
theorem dX4_beardsOf_13 : decode cX4_beardsOf 13 = .ok (.iload_n 3, 1) := by decide +kernel
theorem dX4_beardsOf_14 : decode cX4_beardsOf 14 = .ok (.invokevirtual 49, 3) := by decide +kernel
theorem dX4_beardsOf_17 : decode cX4_beardsOf 17 = .ok (.iadd, 1) := by decide +kernel
theorem dX4_beardsOf_18 : decode cX4_beardsOf 18 = .ok (.istore_n 2, 1) := by decide +kernel
theorem dX4_beardsOf_19 : decode cX4_beardsOf 19 = .ok (.iinc 3 1, 3) := by decide +kernel
theorem dX4_beardsOf_22 : decode cX4_beardsOf 22 = .ok (.goto (-18), 3) := by decide +kernel
theorem dX4_beardsOf_25 : decode cX4_beardsOf 25 = .ok (.iload_n 2, 1) := by decide +kernel
theorem dX4_beardsOf_26 : decode cX4_beardsOf 26 = .ok (.ireturn, 1) := by decide +kernel
theorem dX4_bareStrips_0 : decode cX4_bareStrips 0 = .ok (.iconst 0, 1) := by decide +kernel
theorem dX4_bareStrips_1 : decode cX4_bareStrips 1 = .ok (.istore_n 2, 1) := by decide +kernel
theorem dX4_bareStrips_2 : decode cX4_bareStrips 2 = .ok (.iconst 0, 1) := by decide +kernel
theorem dX4_bareStrips_3 : decode cX4_bareStrips 3 = .ok (.istore_n 3, 1) := by decide +kernel
theorem dX4_bareStrips_4 : decode cX4_bareStrips 4 = .ok (.iload_n 3, 1) := by decide +kernel
theorem dX4_bareStrips_5 : decode cX4_bareStrips 5 = .ok (.bipush 6, 2) := by decide +kernel
theorem dX4_bareStrips_7 : decode cX4_bareStrips 7 = .ok (.if_icmp .ge 24, 3) := by decide +kernel
theorem dX4_bareStrips_10 : decode cX4_bareStrips 10 = .ok (.aload_n 0, 1) := by decide +kernel
theorem dX4_bareStrips_11 : decode cX4_bareStrips 11 = .ok (.iload_n 1, 1) := by decide +kernel
theorem dX4_bareStrips_12 : decode cX4_bareStrips 12 = .ok (.iload_n 3, 1) := by decide +kernel
theorem dX4_bareStrips_13 : decode cX4_bareStrips 13 = .ok (.invokevirtual 49, 3) := by decide +kernel
theorem dX4_bareStrips_16 : decode cX4_bareStrips 16 = .ok (.ifCond .ne 9, 3) := by decide +kernel
theorem dX4_bareStrips_19 : decode cX4_bareStrips 19 = .ok (.iload_n 2, 1) := by decide +kernel
theorem dX4_bareStrips_20 : decode cX4_bareStrips 20 = .ok (.iconst 1, 1) := by decide +kernel
theorem dX4_bareStrips_21 : decode cX4_bareStrips 21 = .ok (.iload_n 3, 1) := by decide +kernel
theorem dX4_bareStrips_22 : decode cX4_bareStrips 22 = .ok (.ishl, 1) := by decide +kernel
theorem dX4_bareStrips_23 : decode cX4_bareStrips 23 = .ok (.ior, 1) := by decide +kernel
theorem dX4_bareStrips_24 : decode cX4_bareStrips 24 = .ok (.istore_n 2, 1) := by decide +kernel
theorem dX4_bareStrips_25 : decode cX4_bareStrips 25 = .ok (.iinc 3 1, 3) := by decide +kernel
theorem dX4_bareStrips_28 : decode cX4_bareStrips 28 = .ok (.goto (-24), 3) := by decide +kernel
theorem dX4_bareStrips_31 : decode cX4_bareStrips 31 = .ok (.iload_n 2, 1) := by decide +kernel
theorem dX4_bareStrips_32 : decode cX4_bareStrips 32 = .ok (.ireturn, 1) := by decide +kernel
theorem dX4_stripsKnown_0 : decode cX4_stripsKnown 0 = .ok (.aload_n 0, 1) := by decide +kernel
theorem dX4_stripsKnown_1 : decode cX4_stripsKnown 1 = .ok (.getfield 16, 3) := by decide +kernel
theorem dX4_stripsKnown_4 : decode cX4_stripsKnown 4 = .ok (.bipush 37, 2) := by decide +kernel
theorem dX4_stripsKnown_6 : decode cX4_stripsKnown 6 = .ok (.iload_n 1, 1) := by decide +kernel
theorem dX4_stripsKnown_7 : decode cX4_stripsKnown 7 = .ok (.bipush 6, 2) := by decide +kernel
theorem dX4_stripsKnown_9 : decode cX4_stripsKnown 9 = .ok (.imul, 1) := by decide +kernel
theorem dX4_stripsKnown_10 : decode cX4_stripsKnown 10 = .ok (.iadd, 1) := by decide +kernel
theorem dX4_stripsKnown_11 : decode cX4_stripsKnown 11 = .ok (.iload_n 2, 1) := by decide +kernel
theorem dX4_stripsKnown_12 : decode cX4_stripsKnown 12 = .ok (.iadd, 1) := by decide +kernel
theorem dX4_stripsKnown_13 : decode cX4_stripsKnown 13 = .ok (.invokevirtual 37, 3) := by decide +kernel
theorem dX4_stripsKnown_16 : decode cX4_stripsKnown 16 = .ok (.ireturn, 1) := by decide +kernel
theorem dX4_partsKnown_0 : decode cX4_partsKnown 0 = .ok (.aload_n 0, 1) := by decide +kernel
theorem dX4_partsKnown_1 : decode cX4_partsKnown 1 = .ok (.getfield 16, 3) := by decide +kernel
theorem dX4_partsKnown_4 : decode cX4_partsKnown 4 = .ok (.bipush 61, 2) := by decide +kernel
theorem dX4_partsKnown_6 : decode cX4_partsKnown 6 = .ok (.iload_n 1, 1) := by decide +kernel
theorem dX4_partsKnown_7 : decode cX4_partsKnown 7 = .ok (.bipush 6, 2) := by decide +kernel
theorem dX4_partsKnown_9 : decode cX4_partsKnown 9 = .ok (.imul, 1) := by decide +kernel
theorem dX4_partsKnown_10 : decode cX4_partsKnown 10 = .ok (.iadd, 1) := by decide +kernel
theorem dX4_partsKnown_11 : decode cX4_partsKnown 11 = .ok (.iload_n 2, 1) := by decide +kernel
theorem dX4_partsKnown_12 : decode cX4_partsKnown 12 = .ok (.iadd, 1) := by decide +kernel
theorem dX4_partsKnown_13 : decode cX4_partsKnown 13 = .ok (.invokevirtual 37, 3) := by decide +kernel
theorem dX4_partsKnown_16 : decode cX4_partsKnown 16 = .ok (.ireturn, 1) := by decide +kernel
theorem dX4_setKnown_0 : decode cX4_setKnown 0 = .ok (.aload_n 0, 1) := by decide +kernel
theorem dX4_setKnown_1 : decode cX4_setKnown 1 = .ok (.getfield 16, 3) := by decide +kernel
theorem dX4_setKnown_4 : decode cX4_setKnown 4 = .ok (.bipush 37, 2) := by decide +kernel
theorem dX4_setKnown_6 : decode cX4_setKnown 6 = .ok (.iload_n 1, 1) := by decide +kernel
theorem dX4_setKnown_7 : decode cX4_setKnown 7 = .ok (.bipush 6, 2) := by decide +kernel
theorem dX4_setKnown_9 : decode cX4_setKnown 9 = .ok (.imul, 1) := by decide +kernel
theorem dX4_setKnown_10 : decode cX4_setKnown 10 = .ok (.iadd, 1) := by decide +kernel
theorem dX4_setKnown_11 : decode cX4_setKnown 11 = .ok (.iload_n 2, 1) := by decide +kernel
theorem dX4_setKnown_12 : decode cX4_setKnown 12 = .ok (.iadd, 1) := by decide +kernel
theorem dX4_setKnown_13 : decode cX4_setKnown 13 = .ok (.iload_n 3, 1) := by decide +kernel
theorem dX4_setKnown_14 : decode cX4_setKnown 14 = .ok (.invokevirtual 45, 3) := by decide +kernel
theorem dX4_setKnown_17 : decode cX4_setKnown 17 = .ok (.aload_n 0, 1) := by decide +kernel
theorem dX4_setKnown_18 : decode cX4_setKnown 18 = .ok (.getfield 16, 3) := by decide +kernel
theorem dX4_setKnown_21 : decode cX4_setKnown 21 = .ok (.bipush 61, 2) := by decide +kernel
theorem dX4_setKnown_23 : decode cX4_setKnown 23 = .ok (.iload_n 1, 1) := by decide +kernel
theorem dX4_setKnown_24 : decode cX4_setKnown 24 = .ok (.bipush 6, 2) := by decide +kernel
theorem dX4_setKnown_26 : decode cX4_setKnown 26 = .ok (.imul, 1) := by decide +kernel
theorem dX4_setKnown_27 : decode cX4_setKnown 27 = .ok (.iadd, 1) := by decide +kernel
theorem dX4_setKnown_28 : decode cX4_setKnown 28 = .ok (.iload_n 2, 1) := by decide +kernel
theorem dX4_setKnown_29 : decode cX4_setKnown 29 = .ok (.iadd, 1) := by decide +kernel
theorem dX4_setKnown_30 : decode cX4_setKnown 30 = .ok (.iload 4, 2) := by decide +kernel
theorem dX4_setKnown_32 : decode cX4_setKnown 32 = .ok (.invokevirtual 45, 3) := by decide +kernel
theorem dX4_setKnown_35 : decode cX4_setKnown 35 = .ok (.return_, 1) := by decide +kernel
theorem dX4_learn_0 : decode cX4_learn 0 = .ok (.aload_n 0, 1) := by decide +kernel
theorem dX4_learn_1 : decode cX4_learn 1 = .ok (.iload_n 1, 1) := by decide +kernel
theorem dX4_learn_2 : decode cX4_learn 2 = .ok (.iload_n 2, 1) := by decide +kernel
theorem dX4_learn_3 : decode cX4_learn 3 = .ok (.aload_n 0, 1) := by decide +kernel
theorem dX4_learn_4 : decode cX4_learn 4 = .ok (.iload_n 1, 1) := by decide +kernel
theorem dX4_learn_5 : decode cX4_learn 5 = .ok (.iload_n 2, 1) := by decide +kernel
theorem dX4_learn_6 : decode cX4_learn 6 = .ok (.invokevirtual 57, 3) := by decide +kernel
theorem dX4_learn_9 : decode cX4_learn 9 = .ok (.iload_n 3, 1) := by decide +kernel
theorem dX4_learn_10 : decode cX4_learn 10 = .ok (.ior, 1) := by decide +kernel
theorem dX4_learn_11 : decode cX4_learn 11 = .ok (.aload_n 0, 1) := by decide +kernel
theorem dX4_learn_12 : decode cX4_learn 12 = .ok (.iload_n 1, 1) := by decide +kernel
theorem dX4_learn_13 : decode cX4_learn 13 = .ok (.iload_n 2, 1) := by decide +kernel
theorem dX4_learn_14 : decode cX4_learn 14 = .ok (.invokevirtual 60, 3) := by decide +kernel
theorem dX4_learn_17 : decode cX4_learn 17 = .ok (.iload_n 3, 1) := by decide +kernel
theorem dX4_learn_18 : decode cX4_learn 18 = .ok (.iload 4, 2) := by decide +kernel
theorem dX4_learn_20 : decode cX4_learn 20 = .ok (.invokestatic 63, 3) := by decide +kernel
theorem dX4_learn_23 : decode cX4_learn 23 = .ok (.invokevirtual 67, 3) := by decide +kernel
theorem dX4_learn_26 : decode cX4_learn 26 = .ok (.return_, 1) := by decide +kernel
theorem dX5_init_0 : decode cX5_init 0 = .ok (.aload_n 0, 1) := by decide +kernel
theorem dX5_init_1 : decode cX5_init 1 = .ok (.invokespecial 3, 3) := by decide +kernel
theorem dX5_init_4 : decode cX5_init 4 = .ok (.aload_n 0, 1) := by decide +kernel
theorem dX5_init_5 : decode cX5_init 5 = .ok (.iconst 2, 1) := by decide +kernel
theorem dX5_init_6 : decode cX5_init 6 = .ok (.putfield 9, 3) := by decide +kernel
theorem dX5_init_9 : decode cX5_init 9 = .ok (.aload_n 0, 1) := by decide +kernel
theorem dX5_init_10 : decode cX5_init 10 = .ok (.new 15, 3) := by decide +kernel
theorem dX5_init_13 : decode cX5_init 13 = .ok (.dup, 1) := by decide +kernel
theorem dX5_init_14 : decode cX5_init 14 = .ok (.bipush 6, 2) := by decide +kernel
theorem dX5_init_16 : decode cX5_init 16 = .ok (.invokespecial 17, 3) := by decide +kernel
theorem dX5_init_19 : decode cX5_init 19 = .ok (.putfield 20, 3) := by decide +kernel
theorem dX5_init_22 : decode cX5_init 22 = .ok (.aload_n 0, 1) := by decide +kernel
theorem dX5_init_23 : decode cX5_init 23 = .ok (.new 15, 3) := by decide +kernel
theorem dX5_init_26 : decode cX5_init 26 = .ok (.dup, 1) := by decide +kernel
theorem dX5_init_27 : decode cX5_init 27 = .ok (.bipush 6, 2) := by decide +kernel
theorem dX5_init_29 : decode cX5_init 29 = .ok (.invokespecial 17, 3) := by decide +kernel
theorem dX5_init_32 : decode cX5_init 32 = .ok (.putfield 24, 3) := by decide +kernel
theorem dX5_init_35 : decode cX5_init 35 = .ok (.aload_n 0, 1) := by decide +kernel
theorem dX5_init_36 : decode cX5_init 36 = .ok (.new 15, 3) := by decide +kernel
theorem dX5_init_39 : decode cX5_init 39 = .ok (.dup, 1) := by decide +kernel
theorem dX5_init_40 : decode cX5_init 40 = .ok (.bipush 36, 2) := by decide +kernel
theorem dX5_init_42 : decode cX5_init 42 = .ok (.invokespecial 17, 3) := by decide +kernel
theorem dX5_init_45 : decode cX5_init 45 = .ok (.putfield 27, 3) := by decide +kernel
theorem dX5_init_48 : decode cX5_init 48 = .ok (.aload_n 0, 1) := by decide +kernel
theorem dX5_init_49 : decode cX5_init 49 = .ok (.new 15, 3) := by decide +kernel
theorem dX5_init_52 : decode cX5_init 52 = .ok (.dup, 1) := by decide +kernel
theorem dX5_init_53 : decode cX5_init 53 = .ok (.bipush 8, 2) := by decide +kernel
theorem dX5_init_55 : decode cX5_init 55 = .ok (.invokespecial 17, 3) := by decide +kernel
theorem dX5_init_58 : decode cX5_init 58 = .ok (.putfield 30, 3) := by decide +kernel
theorem dX5_init_61 : decode cX5_init 61 = .ok (.return_, 1) := by decide +kernel
theorem dX5_hear_0 : decode cX5_hear 0 = .ok (.iload_n 1, 1) := by decide +kernel
theorem dX5_hear_1 : decode cX5_hear 1 = .ok (.tableswitch 61 4 6 #[27, 35, 43], 27) := by decide +kernel
theorem dX5_hear_28 : decode cX5_hear 28 = .ok (.aload_n 0, 1) := by decide +kernel
theorem dX5_hear_29 : decode cX5_hear 29 = .ok (.iload_n 2, 1) := by decide +kernel
theorem dX5_hear_30 : decode cX5_hear 30 = .ok (.invokevirtual 33, 3) := by decide +kernel
theorem dX5_hear_33 : decode cX5_hear 33 = .ok (.goto 35, 3) := by decide +kernel
theorem dX5_hear_36 : decode cX5_hear 36 = .ok (.aload_n 0, 1) := by decide +kernel
theorem dX5_hear_37 : decode cX5_hear 37 = .ok (.iload_n 2, 1) := by decide +kernel
theorem dX5_hear_38 : decode cX5_hear 38 = .ok (.invokevirtual 36, 3) := by decide +kernel
theorem dX5_hear_41 : decode cX5_hear 41 = .ok (.goto 27, 3) := by decide +kernel
theorem dX5_hear_44 : decode cX5_hear 44 = .ok (.aload_n 0, 1) := by decide +kernel
theorem dX5_hear_45 : decode cX5_hear 45 = .ok (.getfield 27, 3) := by decide +kernel
theorem dX5_hear_48 : decode cX5_hear 48 = .ok (.iload_n 2, 1) := by decide +kernel
theorem dX5_hear_49 : decode cX5_hear 49 = .ok (.bipush 6, 2) := by decide +kernel
theorem dX5_hear_51 : decode cX5_hear 51 = .ok (.imul, 1) := by decide +kernel
theorem dX5_hear_52 : decode cX5_hear 52 = .ok (.iload_n 3, 1) := by decide +kernel
theorem dX5_hear_53 : decode cX5_hear 53 = .ok (.iadd, 1) := by decide +kernel
theorem dX5_hear_54 : decode cX5_hear 54 = .ok (.iload 4, 2) := by decide +kernel
theorem dX5_hear_56 : decode cX5_hear 56 = .ok (.invokevirtual 39, 3) := by decide +kernel
theorem dX5_hear_59 : decode cX5_hear 59 = .ok (.goto 9, 3) := by decide +kernel
theorem dX5_hear_62 : decode cX5_hear 62 = .ok (.aload_n 0, 1) := by decide +kernel
theorem dX5_hear_63 : decode cX5_hear 63 = .ok (.iload_n 1, 1) := by decide +kernel
theorem dX5_hear_64 : decode cX5_hear 64 = .ok (.iload_n 2, 1) := by decide +kernel
theorem dX5_hear_65 : decode cX5_hear 65 = .ok (.invokevirtual 43, 3) := by decide +kernel
theorem dX5_hear_68 : decode cX5_hear 68 = .ok (.return_, 1) := by decide +kernel
theorem dX5_found_0 : decode cX5_found 0 = .ok (.aload_n 0, 1) := by decide +kernel
theorem dX5_found_1 : decode cX5_found 1 = .ok (.iconst 1, 1) := by decide +kernel
theorem dX5_found_2 : decode cX5_found 2 = .ok (.iconst 4, 1) := by decide +kernel
theorem dX5_found_3 : decode cX5_found 3 = .ok (.iload_n 1, 1) := by decide +kernel
theorem dX5_found_4 : decode cX5_found 4 = .ok (.invokestatic 46, 3) := by decide +kernel
theorem dX5_found_7 : decode cX5_found 7 = .ok (.invokestatic 52, 3) := by decide +kernel
theorem dX5_found_10 : decode cX5_found 10 = .ok (.putfield 9, 3) := by decide +kernel
theorem dX5_found_13 : decode cX5_found 13 = .ok (.aload_n 0, 1) := by decide +kernel
theorem dX5_found_14 : decode cX5_found 14 = .ok (.iconst 0, 1) := by decide +kernel
theorem dX5_found_15 : decode cX5_found 15 = .ok (.putfield 55, 3) := by decide +kernel
theorem dX5_found_18 : decode cX5_found 18 = .ok (.aload_n 0, 1) := by decide +kernel
theorem dX5_found_19 : decode cX5_found 19 = .ok (.iconst 0, 1) := by decide +kernel
theorem dX5_found_20 : decode cX5_found 20 = .ok (.putfield 58, 3) := by decide +kernel
theorem dX5_found_23 : decode cX5_found 23 = .ok (.aload_n 0, 1) := by decide +kernel
theorem dX5_found_24 : decode cX5_found 24 = .ok (.getfield 27, 3) := by decide +kernel
theorem dX5_found_27 : decode cX5_found 27 = .ok (.invokevirtual 61, 3) := by decide +kernel
theorem dX5_found_30 : decode cX5_found 30 = .ok (.return_, 1) := by decide +kernel
theorem dX5_addPerson_0 : decode cX5_addPerson 0 = .ok (.aload_n 0, 1) := by decide +kernel
theorem dX5_addPerson_1 : decode cX5_addPerson 1 = .ok (.getfield 20, 3) := by decide +kernel
theorem dX5_addPerson_4 : decode cX5_addPerson 4 = .ok (.aload_n 0, 1) := by decide +kernel
theorem dX5_addPerson_5 : decode cX5_addPerson 5 = .ok (.getfield 55, 3) := by decide +kernel
theorem dX5_addPerson_8 : decode cX5_addPerson 8 = .ok (.iload_n 1, 1) := by decide +kernel
theorem dX5_addPerson_9 : decode cX5_addPerson 9 = .ok (.invokevirtual 39, 3) := by decide +kernel
theorem dX5_addPerson_12 : decode cX5_addPerson 12 = .ok (.aload_n 0, 1) := by decide +kernel
theorem dX5_addPerson_13 : decode cX5_addPerson 13 = .ok (.getfield 24, 3) := by decide +kernel
end
section
theorem dX5_addPerson_16 : decode cX5_addPerson 16 = .ok (.aload_n 0, 1) := by decide +kernel
theorem dX5_addPerson_17 : decode cX5_addPerson 17 = .ok (.getfield 55, 3) := by decide +kernel
theorem dX5_addPerson_20 : decode cX5_addPerson 20 = .ok (.iload_n 2, 1) := by decide +kernel
theorem dX5_addPerson_21 : decode cX5_addPerson 21 = .ok (.invokevirtual 39, 3) := by decide +kernel
theorem dX5_addPerson_24 : decode cX5_addPerson 24 = .ok (.aload_n 0, 1) := by decide +kernel
theorem dX5_addPerson_25 : decode cX5_addPerson 25 = .ok (.bipush 6, 2) := by decide +kernel
theorem dX5_addPerson_27 : decode cX5_addPerson 27 = .ok (.aload_n 0, 1) := by decide +kernel
theorem dX5_addPerson_28 : decode cX5_addPerson 28 = .ok (.getfield 55, 3) := by decide +kernel
theorem dX5_addPerson_31 : decode cX5_addPerson 31 = .ok (.iconst 1, 1) := by decide +kernel
theorem dX5_addPerson_32 : decode cX5_addPerson 32 = .ok (.iadd, 1) := by decide +kernel
theorem dX5_addPerson_33 : decode cX5_addPerson 33 = .ok (.invokestatic 46, 3) := by decide +kernel
theorem dX5_addPerson_36 : decode cX5_addPerson 36 = .ok (.putfield 55, 3) := by decide +kernel
theorem dX5_addPerson_39 : decode cX5_addPerson 39 = .ok (.return_, 1) := by decide +kernel
theorem dX5_addRumour_0 : decode cX5_addRumour 0 = .ok (.aload_n 0, 1) := by decide +kernel
theorem dX5_addRumour_1 : decode cX5_addRumour 1 = .ok (.getfield 30, 3) := by decide +kernel
theorem dX5_addRumour_4 : decode cX5_addRumour 4 = .ok (.aload_n 0, 1) := by decide +kernel
theorem dX5_addRumour_5 : decode cX5_addRumour 5 = .ok (.getfield 58, 3) := by decide +kernel
theorem dX5_addRumour_8 : decode cX5_addRumour 8 = .ok (.iload_n 1, 1) := by decide +kernel
theorem dX5_addRumour_9 : decode cX5_addRumour 9 = .ok (.invokevirtual 39, 3) := by decide +kernel
theorem dX5_addRumour_12 : decode cX5_addRumour 12 = .ok (.aload_n 0, 1) := by decide +kernel
theorem dX5_addRumour_13 : decode cX5_addRumour 13 = .ok (.bipush 8, 2) := by decide +kernel
theorem dX5_addRumour_15 : decode cX5_addRumour 15 = .ok (.aload_n 0, 1) := by decide +kernel
theorem dX5_addRumour_16 : decode cX5_addRumour 16 = .ok (.getfield 58, 3) := by decide +kernel
theorem dX5_addRumour_19 : decode cX5_addRumour 19 = .ok (.iconst 1, 1) := by decide +kernel
theorem dX5_addRumour_20 : decode cX5_addRumour 20 = .ok (.iadd, 1) := by decide +kernel
theorem dX5_addRumour_21 : decode cX5_addRumour 21 = .ok (.invokestatic 46, 3) := by decide +kernel
theorem dX5_addRumour_24 : decode cX5_addRumour 24 = .ok (.putfield 58, 3) := by decide +kernel
theorem dX5_addRumour_27 : decode cX5_addRumour 27 = .ok (.return_, 1) := by decide +kernel
theorem dX5_kindOf_0 : decode cX5_kindOf 0 = .ok (.aload_n 0, 1) := by decide +kernel
theorem dX5_kindOf_1 : decode cX5_kindOf 1 = .ok (.getfield 20, 3) := by decide +kernel
theorem dX5_kindOf_4 : decode cX5_kindOf 4 = .ok (.iload_n 1, 1) := by decide +kernel
theorem dX5_kindOf_5 : decode cX5_kindOf 5 = .ok (.invokevirtual 64, 3) := by decide +kernel
theorem dX5_kindOf_8 : decode cX5_kindOf 8 = .ok (.ireturn, 1) := by decide +kernel
theorem dX5_secretOf_0 : decode cX5_secretOf 0 = .ok (.aload_n 0, 1) := by decide +kernel
theorem dX5_secretOf_1 : decode cX5_secretOf 1 = .ok (.getfield 24, 3) := by decide +kernel
theorem dX5_secretOf_4 : decode cX5_secretOf 4 = .ok (.iload_n 1, 1) := by decide +kernel
theorem dX5_secretOf_5 : decode cX5_secretOf 5 = .ok (.invokevirtual 64, 3) := by decide +kernel
theorem dX5_secretOf_8 : decode cX5_secretOf 8 = .ok (.ireturn, 1) := by decide +kernel
theorem dX5_toldBeard_0 : decode cX5_toldBeard 0 = .ok (.aload_n 0, 1) := by decide +kernel
theorem dX5_toldBeard_1 : decode cX5_toldBeard 1 = .ok (.getfield 27, 3) := by decide +kernel
theorem dX5_toldBeard_4 : decode cX5_toldBeard 4 = .ok (.iload_n 1, 1) := by decide +kernel
theorem dX5_toldBeard_5 : decode cX5_toldBeard 5 = .ok (.bipush 6, 2) := by decide +kernel
theorem dX5_toldBeard_7 : decode cX5_toldBeard 7 = .ok (.imul, 1) := by decide +kernel
theorem dX5_toldBeard_8 : decode cX5_toldBeard 8 = .ok (.iload_n 2, 1) := by decide +kernel
theorem dX5_toldBeard_9 : decode cX5_toldBeard 9 = .ok (.iadd, 1) := by decide +kernel
theorem dX5_toldBeard_10 : decode cX5_toldBeard 10 = .ok (.invokevirtual 64, 3) := by decide +kernel
theorem dX5_toldBeard_13 : decode cX5_toldBeard 13 = .ok (.ireturn, 1) := by decide +kernel
theorem dX5_rumourNumber_0 : decode cX5_rumourNumber 0 = .ok (.aload_n 0, 1) := by decide +kernel
theorem dX5_rumourNumber_1 : decode cX5_rumourNumber 1 = .ok (.getfield 30, 3) := by decide +kernel
theorem dX5_rumourNumber_4 : decode cX5_rumourNumber 4 = .ok (.iload_n 1, 1) := by decide +kernel
theorem dX5_rumourNumber_5 : decode cX5_rumourNumber 5 = .ok (.invokevirtual 64, 3) := by decide +kernel
theorem dX5_rumourNumber_8 : decode cX5_rumourNumber 8 = .ok (.ireturn, 1) := by decide +kernel
theorem dX5_wouldTell_0 : decode cX5_wouldTell 0 = .ok (.aload_n 0, 1) := by decide +kernel
theorem dX5_wouldTell_1 : decode cX5_wouldTell 1 = .ok (.iload_n 1, 1) := by decide +kernel
theorem dX5_wouldTell_2 : decode cX5_wouldTell 2 = .ok (.invokevirtual 68, 3) := by decide +kernel
theorem dX5_wouldTell_5 : decode cX5_wouldTell 5 = .ok (.iload_n 2, 1) := by decide +kernel
theorem dX5_wouldTell_6 : decode cX5_wouldTell 6 = .ok (.iload_n 3, 1) := by decide +kernel
theorem dX5_wouldTell_7 : decode cX5_wouldTell 7 = .ok (.aload_n 0, 1) := by decide +kernel
theorem dX5_wouldTell_8 : decode cX5_wouldTell 8 = .ok (.iload_n 1, 1) := by decide +kernel
theorem dX5_wouldTell_9 : decode cX5_wouldTell 9 = .ok (.invokevirtual 71, 3) := by decide +kernel
theorem dX5_wouldTell_12 : decode cX5_wouldTell 12 = .ok (.iload_n 2, 1) := by decide +kernel
theorem dX5_wouldTell_13 : decode cX5_wouldTell 13 = .ok (.ishr, 1) := by decide +kernel
theorem dX5_wouldTell_14 : decode cX5_wouldTell 14 = .ok (.iconst 1, 1) := by decide +kernel
theorem dX5_wouldTell_15 : decode cX5_wouldTell 15 = .ok (.iand, 1) := by decide +kernel
theorem dX5_wouldTell_16 : decode cX5_wouldTell 16 = .ok (.invokestatic 74, 3) := by decide +kernel
theorem dX5_wouldTell_19 : decode cX5_wouldTell 19 = .ok (.ireturn, 1) := by decide +kernel
theorem dX5_fitting_0 : decode cX5_fitting 0 = .ok (.iconst 0, 1) := by decide +kernel
theorem dX5_fitting_1 : decode cX5_fitting 1 = .ok (.istore_n 3, 1) := by decide +kernel
theorem dX5_fitting_2 : decode cX5_fitting 2 = .ok (.iconst 0, 1) := by decide +kernel
theorem dX5_fitting_3 : decode cX5_fitting 3 = .ok (.istore 4, 2) := by decide +kernel
theorem dX5_fitting_5 : decode cX5_fitting 5 = .ok (.iload 4, 2) := by decide +kernel
theorem dX5_fitting_7 : decode cX5_fitting 7 = .ok (.aload_n 0, 1) := by decide +kernel
theorem dX5_fitting_8 : decode cX5_fitting 8 = .ok (.getfield 58, 3) := by decide +kernel
theorem dX5_fitting_11 : decode cX5_fitting 11 = .ok (.if_icmp .ge 29, 3) := by decide +kernel
theorem dX5_fitting_14 : decode cX5_fitting 14 = .ok (.aload_n 0, 1) := by decide +kernel
theorem dX5_fitting_15 : decode cX5_fitting 15 = .ok (.iload 4, 2) := by decide +kernel
theorem dX5_fitting_17 : decode cX5_fitting 17 = .ok (.invokevirtual 78, 3) := by decide +kernel
theorem dX5_fitting_20 : decode cX5_fitting 20 = .ok (.iload_n 2, 1) := by decide +kernel
theorem dX5_fitting_21 : decode cX5_fitting 21 = .ok (.ixor, 1) := by decide +kernel
theorem dX5_fitting_22 : decode cX5_fitting 22 = .ok (.iload_n 1, 1) := by decide +kernel
theorem dX5_fitting_23 : decode cX5_fitting 23 = .ok (.iand, 1) := by decide +kernel
theorem dX5_fitting_24 : decode cX5_fitting 24 = .ok (.ifCond .ne 10, 3) := by decide +kernel
theorem dX5_fitting_27 : decode cX5_fitting 27 = .ok (.iload_n 3, 1) := by decide +kernel
theorem dX5_fitting_28 : decode cX5_fitting 28 = .ok (.iconst 1, 1) := by decide +kernel
theorem dX5_fitting_29 : decode cX5_fitting 29 = .ok (.iload 4, 2) := by decide +kernel
theorem dX5_fitting_31 : decode cX5_fitting 31 = .ok (.ishl, 1) := by decide +kernel
theorem dX5_fitting_32 : decode cX5_fitting 32 = .ok (.ior, 1) := by decide +kernel
theorem dX5_fitting_33 : decode cX5_fitting 33 = .ok (.istore_n 3, 1) := by decide +kernel
theorem dX5_fitting_34 : decode cX5_fitting 34 = .ok (.iinc 4 1, 3) := by decide +kernel
theorem dX5_fitting_37 : decode cX5_fitting 37 = .ok (.goto (-32), 3) := by decide +kernel
theorem dX5_fitting_40 : decode cX5_fitting 40 = .ok (.iload_n 3, 1) := by decide +kernel
theorem dX5_fitting_41 : decode cX5_fitting 41 = .ok (.ireturn, 1) := by decide +kernel
theorem dX5_mostAlike_0 : decode cX5_mostAlike 0 = .ok (.iconst 0, 1) := by decide +kernel
theorem dX5_mostAlike_1 : decode cX5_mostAlike 1 = .ok (.istore_n 3, 1) := by decide +kernel
theorem dX5_mostAlike_2 : decode cX5_mostAlike 2 = .ok (.iconst 0, 1) := by decide +kernel
theorem dX5_mostAlike_3 : decode cX5_mostAlike 3 = .ok (.istore 4, 2) := by decide +kernel
theorem dX5_mostAlike_5 : decode cX5_mostAlike 5 = .ok (.iload 4, 2) := by decide +kernel
theorem dX5_mostAlike_7 : decode cX5_mostAlike 7 = .ok (.aload_n 0, 1) := by decide +kernel
theorem dX5_mostAlike_8 : decode cX5_mostAlike 8 = .ok (.getfield 58, 3) := by decide +kernel
theorem dX5_mostAlike_11 : decode cX5_mostAlike 11 = .ok (.if_icmp .ge 34, 3) := by decide +kernel
theorem dX5_mostAlike_14 : decode cX5_mostAlike 14 = .ok (.iload_n 1, 1) := by decide +kernel
theorem dX5_mostAlike_15 : decode cX5_mostAlike 15 = .ok (.iload 4, 2) := by decide +kernel
theorem dX5_mostAlike_17 : decode cX5_mostAlike 17 = .ok (.invokestatic 81, 3) := by decide +kernel
theorem dX5_mostAlike_20 : decode cX5_mostAlike 20 = .ok (.ifCond .eq 19, 3) := by decide +kernel
theorem dX5_mostAlike_23 : decode cX5_mostAlike 23 = .ok (.aload_n 0, 1) := by decide +kernel
theorem dX5_mostAlike_24 : decode cX5_mostAlike 24 = .ok (.iload 4, 2) := by decide +kernel
theorem dX5_mostAlike_26 : decode cX5_mostAlike 26 = .ok (.invokevirtual 78, 3) := by decide +kernel
theorem dX5_mostAlike_29 : decode cX5_mostAlike 29 = .ok (.iload_n 2, 1) := by decide +kernel
theorem dX5_mostAlike_30 : decode cX5_mostAlike 30 = .ok (.invokestatic 81, 3) := by decide +kernel
theorem dX5_mostAlike_33 : decode cX5_mostAlike 33 = .ok (.ifCond .eq 6, 3) := by decide +kernel
theorem dX5_mostAlike_36 : decode cX5_mostAlike 36 = .ok (.iinc 3 1, 3) := by decide +kernel
theorem dX5_mostAlike_39 : decode cX5_mostAlike 39 = .ok (.iinc 4 1, 3) := by decide +kernel
theorem dX5_mostAlike_42 : decode cX5_mostAlike 42 = .ok (.goto (-37), 3) := by decide +kernel
theorem dX5_mostAlike_45 : decode cX5_mostAlike 45 = .ok (.iload_n 3, 1) := by decide +kernel
theorem dX5_mostAlike_46 : decode cX5_mostAlike 46 = .ok (.iload_n 1, 1) := by decide +kernel
theorem dX5_mostAlike_47 : decode cX5_mostAlike 47 = .ok (.invokestatic 85, 3) := by decide +kernel
theorem dX5_mostAlike_50 : decode cX5_mostAlike 50 = .ok (.iload_n 3, 1) := by decide +kernel
theorem dX5_mostAlike_51 : decode cX5_mostAlike 51 = .ok (.isub, 1) := by decide +kernel
theorem dX5_mostAlike_52 : decode cX5_mostAlike 52 = .ok (.invokestatic 52, 3) := by decide +kernel
theorem dX5_mostAlike_55 : decode cX5_mostAlike 55 = .ok (.ireturn, 1) := by decide +kernel
theorem dX6_init_0 : decode cX6_init 0 = .ok (.aload_n 0, 1) := by decide +kernel
theorem dX6_init_1 : decode cX6_init 1 = .ok (.invokespecial 1, 3) := by decide +kernel
theorem dX6_init_4 : decode cX6_init 4 = .ok (.aload_n 0, 1) := by decide +kernel
theorem dX6_init_5 : decode cX6_init 5 = .ok (.new 7, 3) := by decide +kernel
theorem dX6_init_8 : decode cX6_init 8 = .ok (.dup, 1) := by decide +kernel
theorem dX6_init_9 : decode cX6_init 9 = .ok (.invokespecial 9, 3) := by decide +kernel
theorem dX6_init_12 : decode cX6_init 12 = .ok (.putfield 10, 3) := by decide +kernel
theorem dX6_init_15 : decode cX6_init 15 = .ok (.aload_n 0, 1) := by decide +kernel
theorem dX6_init_16 : decode cX6_init 16 = .ok (.new 16, 3) := by decide +kernel
theorem dX6_init_19 : decode cX6_init 19 = .ok (.dup, 1) := by decide +kernel
theorem dX6_init_20 : decode cX6_init 20 = .ok (.invokespecial 18, 3) := by decide +kernel
theorem dX6_init_23 : decode cX6_init 23 = .ok (.putfield 19, 3) := by decide +kernel
theorem dX6_init_26 : decode cX6_init 26 = .ok (.aload_n 0, 1) := by decide +kernel
theorem dX6_init_27 : decode cX6_init 27 = .ok (.new 23, 3) := by decide +kernel
theorem dX6_init_30 : decode cX6_init 30 = .ok (.dup, 1) := by decide +kernel
theorem dX6_init_31 : decode cX6_init 31 = .ok (.invokespecial 25, 3) := by decide +kernel
theorem dX6_init_34 : decode cX6_init 34 = .ok (.putfield 26, 3) := by decide +kernel
theorem dX6_init_37 : decode cX6_init 37 = .ok (.aload_n 0, 1) := by decide +kernel
theorem dX6_init_38 : decode cX6_init 38 = .ok (.new 30, 3) := by decide +kernel
theorem dX6_init_41 : decode cX6_init 41 = .ok (.dup, 1) := by decide +kernel
theorem dX6_init_42 : decode cX6_init 42 = .ok (.invokespecial 32, 3) := by decide +kernel
theorem dX6_init_45 : decode cX6_init 45 = .ok (.putfield 33, 3) := by decide +kernel
theorem dX6_init_48 : decode cX6_init 48 = .ok (.aload_n 0, 1) := by decide +kernel
theorem dX6_init_49 : decode cX6_init 49 = .ok (.new 37, 3) := by decide +kernel
theorem dX6_init_52 : decode cX6_init 52 = .ok (.dup, 1) := by decide +kernel
theorem dX6_init_53 : decode cX6_init 53 = .ok (.bipush 8, 2) := by decide +kernel
theorem dX6_init_55 : decode cX6_init 55 = .ok (.invokespecial 39, 3) := by decide +kernel
theorem dX6_init_58 : decode cX6_init 58 = .ok (.putfield 42, 3) := by decide +kernel
theorem dX6_init_61 : decode cX6_init 61 = .ok (.aload_n 0, 1) := by decide +kernel
theorem dX6_init_62 : decode cX6_init 62 = .ok (.new 37, 3) := by decide +kernel
theorem dX6_init_65 : decode cX6_init 65 = .ok (.dup, 1) := by decide +kernel
theorem dX6_init_66 : decode cX6_init 66 = .ok (.iconst 2, 1) := by decide +kernel
theorem dX6_init_67 : decode cX6_init 67 = .ok (.invokespecial 39, 3) := by decide +kernel
theorem dX6_init_70 : decode cX6_init 70 = .ok (.putfield 46, 3) := by decide +kernel
theorem dX6_init_73 : decode cX6_init 73 = .ok (.aload_n 0, 1) := by decide +kernel
theorem dX6_init_74 : decode cX6_init 74 = .ok (.iconst 0, 1) := by decide +kernel
theorem dX6_init_75 : decode cX6_init 75 = .ok (.putfield 49, 3) := by decide +kernel
theorem dX6_init_78 : decode cX6_init 78 = .ok (.aload_n 0, 1) := by decide +kernel
theorem dX6_init_79 : decode cX6_init 79 = .ok (.iconst 0, 1) := by decide +kernel
theorem dX6_init_80 : decode cX6_init 80 = .ok (.putfield 53, 3) := by decide +kernel
theorem dX6_init_83 : decode cX6_init 83 = .ok (.aload_n 0, 1) := by decide +kernel
theorem dX6_init_84 : decode cX6_init 84 = .ok (.iconst 0, 1) := by decide +kernel
theorem dX6_init_85 : decode cX6_init 85 = .ok (.putfield 56, 3) := by decide +kernel
theorem dX6_init_88 : decode cX6_init 88 = .ok (.return_, 1) := by decide +kernel
theorem dX6_write_0 : decode cX6_write 0 = .ok (.iload_n 1, 1) := by decide +kernel
theorem dX6_write_1 : decode cX6_write 1 = .ok (.ifCond .lt 10, 3) := by decide +kernel
theorem dX6_write_4 : decode cX6_write 4 = .ok (.iload_n 1, 1) := by decide +kernel
theorem dX6_write_5 : decode cX6_write 5 = .ok (.sipush 255, 3) := by decide +kernel
theorem dX6_write_8 : decode cX6_write 8 = .ok (.if_icmp .le 6, 3) := by decide +kernel
theorem dX6_write_11 : decode cX6_write 11 = .ok (.bipush (-3), 2) := by decide +kernel
theorem dX6_write_13 : decode cX6_write 13 = .ok (.ireturn, 1) := by decide +kernel
theorem dX6_write_14 : decode cX6_write 14 = .ok (.aload_n 0, 1) := by decide +kernel
theorem dX6_write_15 : decode cX6_write 15 = .ok (.getfield 10, 3) := by decide +kernel
theorem dX6_write_18 : decode cX6_write 18 = .ok (.getfield 59, 3) := by decide +kernel
theorem dX6_write_21 : decode cX6_write 21 = .ok (.sipush 160, 3) := by decide +kernel
theorem dX6_write_24 : decode cX6_write 24 = .ok (.if_icmp .lt 6, 3) := by decide +kernel
theorem dX6_write_27 : decode cX6_write 27 = .ok (.bipush (-5), 2) := by decide +kernel
theorem dX6_write_29 : decode cX6_write 29 = .ok (.ireturn, 1) := by decide +kernel
theorem dX6_write_30 : decode cX6_write 30 = .ok (.aload_n 0, 1) := by decide +kernel
theorem dX6_write_31 : decode cX6_write 31 = .ok (.getfield 10, 3) := by decide +kernel
theorem dX6_write_34 : decode cX6_write 34 = .ok (.iload_n 1, 1) := by decide +kernel
theorem dX6_write_35 : decode cX6_write 35 = .ok (.invokevirtual 62, 3) := by decide +kernel
theorem dX6_write_38 : decode cX6_write 38 = .ok (.aload_n 0, 1) := by decide +kernel
theorem dX6_write_39 : decode cX6_write 39 = .ok (.getfield 10, 3) := by decide +kernel
theorem dX6_write_42 : decode cX6_write 42 = .ok (.getfield 59, 3) := by decide +kernel
theorem dX6_write_45 : decode cX6_write 45 = .ok (.ireturn, 1) := by decide +kernel
theorem dX6_erase_0 : decode cX6_erase 0 = .ok (.aload_n 0, 1) := by decide +kernel
theorem dX6_erase_1 : decode cX6_erase 1 = .ok (.getfield 10, 3) := by decide +kernel
theorem dX6_erase_4 : decode cX6_erase 4 = .ok (.getfield 59, 3) := by decide +kernel
theorem dX6_erase_7 : decode cX6_erase 7 = .ok (.istore_n 1, 1) := by decide +kernel
theorem dX6_erase_8 : decode cX6_erase 8 = .ok (.aload_n 0, 1) := by decide +kernel
theorem dX6_erase_9 : decode cX6_erase 9 = .ok (.getfield 10, 3) := by decide +kernel
theorem dX6_erase_12 : decode cX6_erase 12 = .ok (.invokevirtual 65, 3) := by decide +kernel
theorem dX6_erase_15 : decode cX6_erase 15 = .ok (.iload_n 1, 1) := by decide +kernel
theorem dX6_erase_16 : decode cX6_erase 16 = .ok (.ireturn, 1) := by decide +kernel
theorem dX6_fault_0 : decode cX6_fault 0 = .ok (.aload_n 0, 1) := by decide +kernel
theorem dX6_fault_1 : decode cX6_fault 1 = .ok (.getfield 10, 3) := by decide +kernel
theorem dX6_fault_4 : decode cX6_fault 4 = .ok (.aload_n 0, 1) := by decide +kernel
theorem dX6_fault_5 : decode cX6_fault 5 = .ok (.getfield 19, 3) := by decide +kernel
theorem dX6_fault_8 : decode cX6_fault 8 = .ok (.getfield 68, 3) := by decide +kernel
theorem dX6_fault_11 : decode cX6_fault 11 = .ok (.aload_n 0, 1) := by decide +kernel
theorem dX6_fault_12 : decode cX6_fault 12 = .ok (.getfield 19, 3) := by decide +kernel
theorem dX6_fault_15 : decode cX6_fault 15 = .ok (.getfield 71, 3) := by decide +kernel
theorem dX6_fault_18 : decode cX6_fault 18 = .ok (.invokevirtual 74, 3) := by decide +kernel
theorem dX6_fault_21 : decode cX6_fault 21 = .ok (.ireturn, 1) := by decide +kernel
theorem dX6_town_0 : decode cX6_town 0 = .ok (.aload_n 0, 1) := by decide +kernel
theorem dX6_town_1 : decode cX6_town 1 = .ok (.getfield 10, 3) := by decide +kernel
theorem dX6_town_4 : decode cX6_town 4 = .ok (.aload_n 0, 1) := by decide +kernel
theorem dX6_town_5 : decode cX6_town 5 = .ok (.getfield 19, 3) := by decide +kernel
theorem dX6_town_8 : decode cX6_town 8 = .ok (.getfield 68, 3) := by decide +kernel
theorem dX6_town_11 : decode cX6_town 11 = .ok (.aload_n 0, 1) := by decide +kernel
theorem dX6_town_12 : decode cX6_town 12 = .ok (.getfield 19, 3) := by decide +kernel
theorem dX6_town_15 : decode cX6_town 15 = .ok (.getfield 71, 3) := by decide +kernel
theorem dX6_town_18 : decode cX6_town 18 = .ok (.invokevirtual 74, 3) := by decide +kernel
theorem dX6_town_21 : decode cX6_town 21 = .ok (.iconst (-1), 1) := by decide +kernel
theorem dX6_town_22 : decode cX6_town 22 = .ok (.if_icmp .eq 6, 3) := by decide +kernel
theorem dX6_town_25 : decode cX6_town 25 = .ok (.bipush (-4), 2) := by decide +kernel
theorem dX6_town_27 : decode cX6_town 27 = .ok (.ireturn, 1) := by decide +kernel
theorem dX6_town_28 : decode cX6_town 28 = .ok (.aload_n 0, 1) := by decide +kernel
theorem dX6_town_29 : decode cX6_town 29 = .ok (.getfield 10, 3) := by decide +kernel
theorem dX6_town_32 : decode cX6_town 32 = .ok (.getfield 78, 3) := by decide +kernel
theorem dX6_town_35 : decode cX6_town 35 = .ok (.istore_n 1, 1) := by decide +kernel
theorem dX6_town_36 : decode cX6_town 36 = .ok (.iconst 0, 1) := by decide +kernel
theorem dX6_town_37 : decode cX6_town 37 = .ok (.istore_n 2, 1) := by decide +kernel
theorem dX6_town_38 : decode cX6_town 38 = .ok (.iload_n 2, 1) := by decide +kernel
theorem dX6_town_39 : decode cX6_town 39 = .ok (.iload_n 1, 1) := by decide +kernel
theorem dX6_town_40 : decode cX6_town 40 = .ok (.if_icmp .ge 51, 3) := by decide +kernel
theorem dX6_town_43 : decode cX6_town 43 = .ok (.aload_n 0, 1) := by decide +kernel
theorem dX6_town_44 : decode cX6_town 44 = .ok (.getfield 19, 3) := by decide +kernel
theorem dX6_town_47 : decode cX6_town 47 = .ok (.aload_n 0, 1) := by decide +kernel
theorem dX6_town_48 : decode cX6_town 48 = .ok (.getfield 10, 3) := by decide +kernel
theorem dX6_town_51 : decode cX6_town 51 = .ok (.iload_n 2, 1) := by decide +kernel
theorem dX6_town_52 : decode cX6_town 52 = .ok (.invokevirtual 81, 3) := by decide +kernel
theorem dX6_town_55 : decode cX6_town 55 = .ok (.aload_n 0, 1) := by decide +kernel
theorem dX6_town_56 : decode cX6_town 56 = .ok (.getfield 10, 3) := by decide +kernel
theorem dX6_town_59 : decode cX6_town 59 = .ok (.iload_n 2, 1) := by decide +kernel
theorem dX6_town_60 : decode cX6_town 60 = .ok (.iconst 0, 1) := by decide +kernel
theorem dX6_town_61 : decode cX6_town 61 = .ok (.invokevirtual 85, 3) := by decide +kernel
theorem dX6_town_64 : decode cX6_town 64 = .ok (.aload_n 0, 1) := by decide +kernel
theorem dX6_town_65 : decode cX6_town 65 = .ok (.getfield 10, 3) := by decide +kernel
theorem dX6_town_68 : decode cX6_town 68 = .ok (.iload_n 2, 1) := by decide +kernel
theorem dX6_town_69 : decode cX6_town 69 = .ok (.iconst 1, 1) := by decide +kernel
theorem dX6_town_70 : decode cX6_town 70 = .ok (.invokevirtual 85, 3) := by decide +kernel
theorem dX6_town_73 : decode cX6_town 73 = .ok (.aload_n 0, 1) := by decide +kernel
theorem dX6_town_74 : decode cX6_town 74 = .ok (.getfield 10, 3) := by decide +kernel
theorem dX6_town_77 : decode cX6_town 77 = .ok (.iload_n 2, 1) := by decide +kernel
theorem dX6_town_78 : decode cX6_town 78 = .ok (.iconst 2, 1) := by decide +kernel
theorem dX6_town_79 : decode cX6_town 79 = .ok (.invokevirtual 85, 3) := by decide +kernel
theorem dX6_town_82 : decode cX6_town 82 = .ok (.invokevirtual 88, 3) := by decide +kernel
theorem dX6_town_85 : decode cX6_town 85 = .ok (.iinc 2 1, 3) := by decide +kernel
theorem dX6_town_88 : decode cX6_town 88 = .ok (.goto (-50), 3) := by decide +kernel
theorem dX6_town_91 : decode cX6_town 91 = .ok (.aload_n 0, 1) := by decide +kernel
theorem dX6_town_92 : decode cX6_town 92 = .ok (.getfield 10, 3) := by decide +kernel
theorem dX6_town_95 : decode cX6_town 95 = .ok (.invokevirtual 65, 3) := by decide +kernel
theorem dX6_town_98 : decode cX6_town 98 = .ok (.aload_n 0, 1) := by decide +kernel
theorem dX6_town_99 : decode cX6_town 99 = .ok (.getfield 26, 3) := by decide +kernel
theorem dX6_town_102 : decode cX6_town 102 = .ok (.aload_n 0, 1) := by decide +kernel
theorem dX6_town_103 : decode cX6_town 103 = .ok (.getfield 19, 3) := by decide +kernel
theorem dX6_town_106 : decode cX6_town 106 = .ok (.invokevirtual 92, 3) := by decide +kernel
theorem dX6_town_109 : decode cX6_town 109 = .ok (.aload_n 0, 1) := by decide +kernel
theorem dX6_town_110 : decode cX6_town 110 = .ok (.getfield 33, 3) := by decide +kernel
theorem dX6_town_113 : decode cX6_town 113 = .ok (.invokevirtual 96, 3) := by decide +kernel
theorem dX6_town_116 : decode cX6_town 116 = .ok (.aload_n 0, 1) := by decide +kernel
theorem dX6_town_117 : decode cX6_town 117 = .ok (.iconst 0, 1) := by decide +kernel
theorem dX6_town_118 : decode cX6_town 118 = .ok (.putfield 53, 3) := by decide +kernel
theorem dX6_town_121 : decode cX6_town 121 = .ok (.aload_n 0, 1) := by decide +kernel
theorem dX6_town_122 : decode cX6_town 122 = .ok (.iconst 0, 1) := by decide +kernel
theorem dX6_town_123 : decode cX6_town 123 = .ok (.putfield 56, 3) := by decide +kernel
theorem dX6_town_126 : decode cX6_town 126 = .ok (.iload_n 1, 1) := by decide +kernel
theorem dX6_town_127 : decode cX6_town 127 = .ok (.ireturn, 1) := by decide +kernel
theorem dX6_person_0 : decode cX6_person 0 = .ok (.aload_n 0, 1) := by decide +kernel
theorem dX6_person_1 : decode cX6_person 1 = .ok (.iload_n 1, 1) := by decide +kernel
theorem dX6_person_2 : decode cX6_person 2 = .ok (.invokevirtual 99, 3) := by decide +kernel
theorem dX6_person_5 : decode cX6_person 5 = .ok (.ifCond .ne 6, 3) := by decide +kernel
theorem dX6_person_8 : decode cX6_person 8 = .ok (.bipush (-2), 2) := by decide +kernel
theorem dX6_person_10 : decode cX6_person 10 = .ok (.ireturn, 1) := by decide +kernel
theorem dX6_person_11 : decode cX6_person 11 = .ok (.iload_n 2, 1) := by decide +kernel
theorem dX6_person_12 : decode cX6_person 12 = .ok (.tableswitch 68 0 3 #[32, 41, 50, 59], 32) := by decide +kernel
theorem dX6_person_44 : decode cX6_person 44 = .ok (.aload_n 0, 1) := by decide +kernel
theorem dX6_person_45 : decode cX6_person 45 = .ok (.getfield 19, 3) := by decide +kernel
theorem dX6_person_48 : decode cX6_person 48 = .ok (.iload_n 1, 1) := by decide +kernel
theorem dX6_person_49 : decode cX6_person 49 = .ok (.invokevirtual 103, 3) := by decide +kernel
theorem dX6_person_52 : decode cX6_person 52 = .ok (.ireturn, 1) := by decide +kernel
theorem dX6_person_53 : decode cX6_person 53 = .ok (.aload_n 0, 1) := by decide +kernel
theorem dX6_person_54 : decode cX6_person 54 = .ok (.getfield 19, 3) := by decide +kernel
theorem dX6_person_57 : decode cX6_person 57 = .ok (.iload_n 1, 1) := by decide +kernel
theorem dX6_person_58 : decode cX6_person 58 = .ok (.invokevirtual 106, 3) := by decide +kernel
theorem dX6_person_61 : decode cX6_person 61 = .ok (.ireturn, 1) := by decide +kernel
theorem dX6_person_62 : decode cX6_person 62 = .ok (.aload_n 0, 1) := by decide +kernel
theorem dX6_person_63 : decode cX6_person 63 = .ok (.getfield 26, 3) := by decide +kernel
theorem dX6_person_66 : decode cX6_person 66 = .ok (.iload_n 1, 1) := by decide +kernel
theorem dX6_person_67 : decode cX6_person 67 = .ok (.invokevirtual 109, 3) := by decide +kernel
theorem dX6_person_70 : decode cX6_person 70 = .ok (.ireturn, 1) := by decide +kernel
theorem dX6_person_71 : decode cX6_person 71 = .ok (.aload_n 0, 1) := by decide +kernel
theorem dX6_person_72 : decode cX6_person 72 = .ok (.getfield 26, 3) := by decide +kernel
theorem dX6_person_75 : decode cX6_person 75 = .ok (.iload_n 1, 1) := by decide +kernel
theorem dX6_person_76 : decode cX6_person 76 = .ok (.invokevirtual 112, 3) := by decide +kernel
theorem dX6_person_79 : decode cX6_person 79 = .ok (.ireturn, 1) := by decide +kernel
theorem dX6_person_80 : decode cX6_person 80 = .ok (.bipush (-3), 2) := by decide +kernel
theorem dX6_person_82 : decode cX6_person 82 = .ok (.ireturn, 1) := by decide +kernel
theorem dX6_beard_0 : decode cX6_beard 0 = .ok (.aload_n 0, 1) := by decide +kernel
theorem dX6_beard_1 : decode cX6_beard 1 = .ok (.iload_n 1, 1) := by decide +kernel
theorem dX6_beard_2 : decode cX6_beard 2 = .ok (.invokevirtual 99, 3) := by decide +kernel
theorem dX6_beard_5 : decode cX6_beard 5 = .ok (.ifCond .eq 10, 3) := by decide +kernel
theorem dX6_beard_8 : decode cX6_beard 8 = .ok (.iload_n 2, 1) := by decide +kernel
theorem dX6_beard_9 : decode cX6_beard 9 = .ok (.invokestatic 115, 3) := by decide +kernel
theorem dX6_beard_12 : decode cX6_beard 12 = .ok (.ifCond .ne 6, 3) := by decide +kernel
theorem dX6_beard_15 : decode cX6_beard 15 = .ok (.bipush (-2), 2) := by decide +kernel
theorem dX6_beard_17 : decode cX6_beard 17 = .ok (.ireturn, 1) := by decide +kernel
theorem dX6_beard_18 : decode cX6_beard 18 = .ok (.aload_n 0, 1) := by decide +kernel
theorem dX6_beard_19 : decode cX6_beard 19 = .ok (.getfield 26, 3) := by decide +kernel
theorem dX6_beard_22 : decode cX6_beard 22 = .ok (.iload_n 1, 1) := by decide +kernel
theorem dX6_beard_23 : decode cX6_beard 23 = .ok (.iload_n 2, 1) := by decide +kernel
theorem dX6_beard_24 : decode cX6_beard 24 = .ok (.invokevirtual 118, 3) := by decide +kernel
theorem dX6_beard_27 : decode cX6_beard 27 = .ok (.ireturn, 1) := by decide +kernel
theorem dX6_rumour_0 : decode cX6_rumour 0 = .ok (.aload_n 0, 1) := by decide +kernel
theorem dX6_rumour_1 : decode cX6_rumour 1 = .ok (.iload_n 1, 1) := by decide +kernel
theorem dX6_rumour_2 : decode cX6_rumour 2 = .ok (.invokevirtual 121, 3) := by decide +kernel
theorem dX6_rumour_5 : decode cX6_rumour 5 = .ok (.ifCond .ne 6, 3) := by decide +kernel
theorem dX6_rumour_8 : decode cX6_rumour 8 = .ok (.bipush (-2), 2) := by decide +kernel
theorem dX6_rumour_10 : decode cX6_rumour 10 = .ok (.ireturn, 1) := by decide +kernel
theorem dX6_rumour_11 : decode cX6_rumour 11 = .ok (.aload_n 0, 1) := by decide +kernel
theorem dX6_rumour_12 : decode cX6_rumour 12 = .ok (.getfield 19, 3) := by decide +kernel
theorem dX6_rumour_15 : decode cX6_rumour 15 = .ok (.iload_n 1, 1) := by decide +kernel
theorem dX6_rumour_16 : decode cX6_rumour 16 = .ok (.invokevirtual 124, 3) := by decide +kernel
theorem dX6_rumour_19 : decode cX6_rumour 19 = .ok (.ireturn, 1) := by decide +kernel
theorem dX6_knows_0 : decode cX6_knows 0 = .ok (.aload_n 0, 1) := by decide +kernel
theorem dX6_knows_1 : decode cX6_knows 1 = .ok (.iload_n 1, 1) := by decide +kernel
theorem dX6_knows_2 : decode cX6_knows 2 = .ok (.invokevirtual 127, 3) := by decide +kernel
theorem dX6_knows_5 : decode cX6_knows 5 = .ok (.ifCond .eq 11, 3) := by decide +kernel
theorem dX6_knows_8 : decode cX6_knows 8 = .ok (.aload_n 0, 1) := by decide +kernel
theorem dX6_knows_9 : decode cX6_knows 9 = .ok (.iload_n 2, 1) := by decide +kernel
theorem dX6_knows_10 : decode cX6_knows 10 = .ok (.invokevirtual 99, 3) := by decide +kernel
theorem dX6_knows_13 : decode cX6_knows 13 = .ok (.ifCond .ne 6, 3) := by decide +kernel
theorem dX6_knows_16 : decode cX6_knows 16 = .ok (.bipush (-2), 2) := by decide +kernel
theorem dX6_knows_18 : decode cX6_knows 18 = .ok (.ireturn, 1) := by decide +kernel
theorem dX6_knows_19 : decode cX6_knows 19 = .ok (.aload_n 0, 1) := by decide +kernel
theorem dX6_knows_20 : decode cX6_knows 20 = .ok (.getfield 26, 3) := by decide +kernel
theorem dX6_knows_23 : decode cX6_knows 23 = .ok (.iload_n 1, 1) := by decide +kernel
theorem dX6_knows_24 : decode cX6_knows 24 = .ok (.iload_n 2, 1) := by decide +kernel
theorem dX6_knows_25 : decode cX6_knows 25 = .ok (.invokevirtual 130, 3) := by decide +kernel
theorem dX6_knows_28 : decode cX6_knows 28 = .ok (.istore 4, 2) := by decide +kernel
theorem dX6_knows_30 : decode cX6_knows 30 = .ok (.aload_n 0, 1) := by decide +kernel
theorem dX6_knows_31 : decode cX6_knows 31 = .ok (.getfield 26, 3) := by decide +kernel
theorem dX6_knows_34 : decode cX6_knows 34 = .ok (.iload_n 1, 1) := by decide +kernel
theorem dX6_knows_35 : decode cX6_knows 35 = .ok (.iload_n 2, 1) := by decide +kernel
theorem dX6_knows_36 : decode cX6_knows 36 = .ok (.invokevirtual 133, 3) := by decide +kernel
theorem dX6_knows_39 : decode cX6_knows 39 = .ok (.istore 5, 2) := by decide +kernel
theorem dX6_knows_41 : decode cX6_knows 41 = .ok (.iload_n 3, 1) := by decide +kernel
theorem dX6_knows_42 : decode cX6_knows 42 = .ok (.tableswitch 44 0 2 #[26, 29, 32], 26) := by decide +kernel
theorem dX6_knows_68 : decode cX6_knows 68 = .ok (.iload 4, 2) := by decide +kernel
theorem dX6_knows_70 : decode cX6_knows 70 = .ok (.ireturn, 1) := by decide +kernel
theorem dX6_knows_71 : decode cX6_knows 71 = .ok (.iload 5, 2) := by decide +kernel
theorem dX6_knows_73 : decode cX6_knows 73 = .ok (.ireturn, 1) := by decide +kernel
theorem dX6_knows_74 : decode cX6_knows 74 = .ok (.aload_n 0, 1) := by decide +kernel
theorem dX6_knows_75 : decode cX6_knows 75 = .ok (.getfield 19, 3) := by decide +kernel
theorem dX6_knows_78 : decode cX6_knows 78 = .ok (.iload 4, 2) := by decide +kernel
theorem dX6_knows_80 : decode cX6_knows 80 = .ok (.iload 5, 2) := by decide +kernel
theorem dX6_knows_82 : decode cX6_knows 82 = .ok (.invokevirtual 136, 3) := by decide +kernel
theorem dX6_knows_85 : decode cX6_knows 85 = .ok (.ireturn, 1) := by decide +kernel
theorem dX6_knows_86 : decode cX6_knows 86 = .ok (.bipush (-3), 2) := by decide +kernel
theorem dX6_knows_88 : decode cX6_knows 88 = .ok (.ireturn, 1) := by decide +kernel
theorem dX6_as_0 : decode cX6_as 0 = .ok (.aload_n 0, 1) := by decide +kernel
theorem dX6_as_1 : decode cX6_as 1 = .ok (.iload_n 1, 1) := by decide +kernel
theorem dX6_as_2 : decode cX6_as 2 = .ok (.invokevirtual 99, 3) := by decide +kernel
theorem dX6_as_5 : decode cX6_as 5 = .ok (.ifCond .ne 6, 3) := by decide +kernel
theorem dX6_as_8 : decode cX6_as 8 = .ok (.bipush (-2), 2) := by decide +kernel
theorem dX6_as_10 : decode cX6_as 10 = .ok (.ireturn, 1) := by decide +kernel
theorem dX6_as_11 : decode cX6_as 11 = .ok (.iload_n 2, 1) := by decide +kernel
theorem dX6_as_12 : decode cX6_as 12 = .ok (.ifCond .lt 8, 3) := by decide +kernel
theorem dX6_as_15 : decode cX6_as 15 = .ok (.iload_n 2, 1) := by decide +kernel
theorem dX6_as_16 : decode cX6_as 16 = .ok (.iconst 4, 1) := by decide +kernel
theorem dX6_as_17 : decode cX6_as 17 = .ok (.if_icmp .le 6, 3) := by decide +kernel
theorem dX6_as_20 : decode cX6_as 20 = .ok (.bipush (-3), 2) := by decide +kernel
theorem dX6_as_22 : decode cX6_as 22 = .ok (.ireturn, 1) := by decide +kernel
theorem dX6_as_23 : decode cX6_as 23 = .ok (.aload_n 0, 1) := by decide +kernel
theorem dX6_as_24 : decode cX6_as 24 = .ok (.getfield 19, 3) := by decide +kernel
theorem dX6_as_27 : decode cX6_as 27 = .ok (.iload_n 1, 1) := by decide +kernel
theorem dX6_as_28 : decode cX6_as 28 = .ok (.invokevirtual 103, 3) := by decide +kernel
theorem dX6_as_31 : decode cX6_as 31 = .ok (.iload_n 2, 1) := by decide +kernel
theorem dX6_as_32 : decode cX6_as 32 = .ok (.invokestatic 139, 3) := by decide +kernel
theorem dX6_as_35 : decode cX6_as 35 = .ok (.ifCond .ne 6, 3) := by decide +kernel
theorem dX6_as_38 : decode cX6_as 38 = .ok (.bipush (-4), 2) := by decide +kernel
theorem dX6_as_40 : decode cX6_as 40 = .ok (.ireturn, 1) := by decide +kernel
theorem dX6_as_41 : decode cX6_as 41 = .ok (.aload_n 0, 1) := by decide +kernel
theorem dX6_as_42 : decode cX6_as 42 = .ok (.iload_n 1, 1) := by decide +kernel
theorem dX6_as_43 : decode cX6_as 43 = .ok (.iconst 2, 1) := by decide +kernel
theorem dX6_as_44 : decode cX6_as 44 = .ok (.invokevirtual 143, 3) := by decide +kernel
theorem dX6_as_47 : decode cX6_as 47 = .ok (.ireturn, 1) := by decide +kernel
theorem dX6_shave_0 : decode cX6_shave 0 = .ok (.aload_n 0, 1) := by decide +kernel
theorem dX6_shave_1 : decode cX6_shave 1 = .ok (.iload_n 1, 1) := by decide +kernel
theorem dX6_shave_2 : decode cX6_shave 2 = .ok (.invokevirtual 127, 3) := by decide +kernel
theorem dX6_shave_5 : decode cX6_shave 5 = .ok (.ifCond .eq 18, 3) := by decide +kernel
theorem dX6_shave_8 : decode cX6_shave 8 = .ok (.aload_n 0, 1) := by decide +kernel
theorem dX6_shave_9 : decode cX6_shave 9 = .ok (.iload_n 2, 1) := by decide +kernel
theorem dX6_shave_10 : decode cX6_shave 10 = .ok (.invokevirtual 99, 3) := by decide +kernel
theorem dX6_shave_13 : decode cX6_shave 13 = .ok (.ifCond .eq 10, 3) := by decide +kernel
theorem dX6_shave_16 : decode cX6_shave 16 = .ok (.iload_n 3, 1) := by decide +kernel
theorem dX6_shave_17 : decode cX6_shave 17 = .ok (.invokestatic 115, 3) := by decide +kernel
theorem dX6_shave_20 : decode cX6_shave 20 = .ok (.ifCond .ne 6, 3) := by decide +kernel
theorem dX6_shave_23 : decode cX6_shave 23 = .ok (.bipush (-2), 2) := by decide +kernel
theorem dX6_shave_25 : decode cX6_shave 25 = .ok (.ireturn, 1) := by decide +kernel
theorem dX6_shave_26 : decode cX6_shave 26 = .ok (.aload_n 0, 1) := by decide +kernel
theorem dX6_shave_27 : decode cX6_shave 27 = .ok (.invokevirtual 146, 3) := by decide +kernel
theorem dX6_shave_30 : decode cX6_shave 30 = .ok (.aload_n 0, 1) := by decide +kernel
theorem dX6_shave_31 : decode cX6_shave 31 = .ok (.iload_n 2, 1) := by decide +kernel
theorem dX6_shave_32 : decode cX6_shave 32 = .ok (.iload_n 3, 1) := by decide +kernel
theorem dX6_shave_33 : decode cX6_shave 33 = .ok (.invokevirtual 143, 3) := by decide +kernel
theorem dX6_shave_36 : decode cX6_shave 36 = .ok (.istore 4, 2) := by decide +kernel
theorem dX6_shave_38 : decode cX6_shave 38 = .ok (.iload 4, 2) := by decide +kernel
theorem dX6_shave_40 : decode cX6_shave 40 = .ok (.iconst (-1), 1) := by decide +kernel
theorem dX6_shave_41 : decode cX6_shave 41 = .ok (.if_icmp .eq 19, 3) := by decide +kernel
theorem dX6_shave_44 : decode cX6_shave 44 = .ok (.aload_n 0, 1) := by decide +kernel
theorem dX6_shave_45 : decode cX6_shave 45 = .ok (.getfield 26, 3) := by decide +kernel
theorem dX6_shave_48 : decode cX6_shave 48 = .ok (.iload_n 1, 1) := by decide +kernel
theorem dX6_shave_49 : decode cX6_shave 49 = .ok (.iload_n 2, 1) := by decide +kernel
theorem dX6_shave_50 : decode cX6_shave 50 = .ok (.iconst 1, 1) := by decide +kernel
theorem dX6_shave_51 : decode cX6_shave 51 = .ok (.iload_n 3, 1) := by decide +kernel
theorem dX6_shave_52 : decode cX6_shave 52 = .ok (.ishl, 1) := by decide +kernel
theorem dX6_shave_53 : decode cX6_shave 53 = .ok (.iload 4, 2) := by decide +kernel
theorem dX6_shave_55 : decode cX6_shave 55 = .ok (.iload_n 3, 1) := by decide +kernel
theorem dX6_shave_56 : decode cX6_shave 56 = .ok (.ishl, 1) := by decide +kernel
theorem dX6_shave_57 : decode cX6_shave 57 = .ok (.invokevirtual 149, 3) := by decide +kernel
theorem dX6_shave_60 : decode cX6_shave 60 = .ok (.aload_n 0, 1) := by decide +kernel
theorem dX6_shave_61 : decode cX6_shave 61 = .ok (.getfield 26, 3) := by decide +kernel
theorem dX6_shave_64 : decode cX6_shave 64 = .ok (.iload_n 2, 1) := by decide +kernel
theorem dX6_shave_65 : decode cX6_shave 65 = .ok (.iload_n 3, 1) := by decide +kernel
theorem dX6_shave_66 : decode cX6_shave 66 = .ok (.iconst 0, 1) := by decide +kernel
theorem dX6_shave_67 : decode cX6_shave 67 = .ok (.invokevirtual 152, 3) := by decide +kernel
theorem dX6_shave_70 : decode cX6_shave 70 = .ok (.iload 4, 2) := by decide +kernel
theorem dX6_shave_72 : decode cX6_shave 72 = .ok (.ireturn, 1) := by decide +kernel
theorem dX6_day_0 : decode cX6_day 0 = .ok (.aload_n 0, 1) := by decide +kernel
theorem dX6_day_1 : decode cX6_day 1 = .ok (.getfield 26, 3) := by decide +kernel
theorem dX6_day_4 : decode cX6_day 4 = .ok (.invokevirtual 156, 3) := by decide +kernel
theorem dX6_day_7 : decode cX6_day 7 = .ok (.sipush 999, 3) := by decide +kernel
theorem dX6_day_10 : decode cX6_day 10 = .ok (.if_icmp .lt 6, 3) := by decide +kernel
theorem dX6_day_13 : decode cX6_day 13 = .ok (.bipush (-5), 2) := by decide +kernel
theorem dX6_day_15 : decode cX6_day 15 = .ok (.ireturn, 1) := by decide +kernel
theorem dX6_day_16 : decode cX6_day 16 = .ok (.aload_n 0, 1) := by decide +kernel
theorem dX6_day_17 : decode cX6_day 17 = .ok (.invokevirtual 146, 3) := by decide +kernel
theorem dX6_day_20 : decode cX6_day 20 = .ok (.aload_n 0, 1) := by decide +kernel
theorem dX6_day_21 : decode cX6_day 21 = .ok (.getfield 26, 3) := by decide +kernel
theorem dX6_day_24 : decode cX6_day 24 = .ok (.aload_n 0, 1) := by decide +kernel
theorem dX6_day_25 : decode cX6_day 25 = .ok (.getfield 19, 3) := by decide +kernel
theorem dX6_day_28 : decode cX6_day 28 = .ok (.getfield 68, 3) := by decide +kernel
theorem dX6_day_31 : decode cX6_day 31 = .ok (.invokevirtual 160, 3) := by decide +kernel
theorem dX6_day_34 : decode cX6_day 34 = .ok (.aload_n 0, 1) := by decide +kernel
theorem dX6_day_35 : decode cX6_day 35 = .ok (.getfield 26, 3) := by decide +kernel
theorem dX6_day_38 : decode cX6_day 38 = .ok (.invokevirtual 156, 3) := by decide +kernel
theorem dX6_day_41 : decode cX6_day 41 = .ok (.ireturn, 1) := by decide +kernel
theorem dX6_talk_0 : decode cX6_talk 0 = .ok (.aload_n 0, 1) := by decide +kernel
theorem dX6_talk_1 : decode cX6_talk 1 = .ok (.iload_n 1, 1) := by decide +kernel
theorem dX6_talk_2 : decode cX6_talk 2 = .ok (.invokevirtual 127, 3) := by decide +kernel
theorem dX6_talk_5 : decode cX6_talk 5 = .ok (.ifCond .eq 24, 3) := by decide +kernel
theorem dX6_talk_8 : decode cX6_talk 8 = .ok (.aload_n 0, 1) := by decide +kernel
theorem dX6_talk_9 : decode cX6_talk 9 = .ok (.iload_n 2, 1) := by decide +kernel
theorem dX6_talk_10 : decode cX6_talk 10 = .ok (.invokevirtual 127, 3) := by decide +kernel
theorem dX6_talk_13 : decode cX6_talk 13 = .ok (.ifCond .eq 16, 3) := by decide +kernel
theorem dX6_talk_16 : decode cX6_talk 16 = .ok (.iload_n 1, 1) := by decide +kernel
theorem dX6_talk_17 : decode cX6_talk 17 = .ok (.iload_n 2, 1) := by decide +kernel
theorem dX6_talk_18 : decode cX6_talk 18 = .ok (.if_icmp .eq 11, 3) := by decide +kernel
theorem dX6_talk_21 : decode cX6_talk 21 = .ok (.aload_n 0, 1) := by decide +kernel
theorem dX6_talk_22 : decode cX6_talk 22 = .ok (.iload_n 3, 1) := by decide +kernel
theorem dX6_talk_23 : decode cX6_talk 23 = .ok (.invokevirtual 99, 3) := by decide +kernel
theorem dX6_talk_26 : decode cX6_talk 26 = .ok (.ifCond .ne 6, 3) := by decide +kernel
theorem dX6_talk_29 : decode cX6_talk 29 = .ok (.bipush (-2), 2) := by decide +kernel
theorem dX6_talk_31 : decode cX6_talk 31 = .ok (.ireturn, 1) := by decide +kernel
theorem dX6_talk_32 : decode cX6_talk 32 = .ok (.aload_n 0, 1) := by decide +kernel
theorem dX6_talk_33 : decode cX6_talk 33 = .ok (.invokevirtual 146, 3) := by decide +kernel
theorem dX6_talk_36 : decode cX6_talk 36 = .ok (.aload_n 0, 1) := by decide +kernel
theorem dX6_talk_37 : decode cX6_talk 37 = .ok (.getfield 26, 3) := by decide +kernel
theorem dX6_talk_40 : decode cX6_talk 40 = .ok (.iload_n 2, 1) := by decide +kernel
theorem dX6_talk_41 : decode cX6_talk 41 = .ok (.iload_n 3, 1) := by decide +kernel
theorem dX6_talk_42 : decode cX6_talk 42 = .ok (.aload_n 0, 1) := by decide +kernel
theorem dX6_talk_43 : decode cX6_talk 43 = .ok (.getfield 26, 3) := by decide +kernel
theorem dX6_talk_46 : decode cX6_talk 46 = .ok (.iload_n 1, 1) := by decide +kernel
theorem dX6_talk_47 : decode cX6_talk 47 = .ok (.iload_n 3, 1) := by decide +kernel
theorem dX6_talk_48 : decode cX6_talk 48 = .ok (.invokevirtual 130, 3) := by decide +kernel
theorem dX6_talk_51 : decode cX6_talk 51 = .ok (.aload_n 0, 1) := by decide +kernel
theorem dX6_talk_52 : decode cX6_talk 52 = .ok (.getfield 26, 3) := by decide +kernel
theorem dX6_talk_55 : decode cX6_talk 55 = .ok (.iload_n 1, 1) := by decide +kernel
theorem dX6_talk_56 : decode cX6_talk 56 = .ok (.iload_n 3, 1) := by decide +kernel
theorem dX6_talk_57 : decode cX6_talk 57 = .ok (.invokevirtual 133, 3) := by decide +kernel
theorem dX6_talk_60 : decode cX6_talk 60 = .ok (.invokevirtual 149, 3) := by decide +kernel
theorem dX6_talk_63 : decode cX6_talk 63 = .ok (.aload_n 0, 1) := by decide +kernel
theorem dX6_talk_64 : decode cX6_talk 64 = .ok (.getfield 26, 3) := by decide +kernel
theorem dX6_talk_67 : decode cX6_talk 67 = .ok (.iload_n 2, 1) := by decide +kernel
theorem dX6_talk_68 : decode cX6_talk 68 = .ok (.iload_n 3, 1) := by decide +kernel
theorem dX6_talk_69 : decode cX6_talk 69 = .ok (.invokevirtual 130, 3) := by decide +kernel
theorem dX6_talk_72 : decode cX6_talk 72 = .ok (.ireturn, 1) := by decide +kernel
theorem dX6_burn_0 : decode cX6_burn 0 = .ok (.aload_n 0, 1) := by decide +kernel
theorem dX6_burn_1 : decode cX6_burn 1 = .ok (.iload_n 1, 1) := by decide +kernel
theorem dX6_burn_2 : decode cX6_burn 2 = .ok (.invokevirtual 127, 3) := by decide +kernel
theorem dX6_burn_5 : decode cX6_burn 5 = .ok (.ifCond .eq 11, 3) := by decide +kernel
theorem dX6_burn_8 : decode cX6_burn 8 = .ok (.aload_n 0, 1) := by decide +kernel
theorem dX6_burn_9 : decode cX6_burn 9 = .ok (.iload_n 2, 1) := by decide +kernel
theorem dX6_burn_10 : decode cX6_burn 10 = .ok (.invokevirtual 99, 3) := by decide +kernel
theorem dX6_burn_13 : decode cX6_burn 13 = .ok (.ifCond .ne 6, 3) := by decide +kernel
theorem dX6_burn_16 : decode cX6_burn 16 = .ok (.bipush (-2), 2) := by decide +kernel
theorem dX6_burn_18 : decode cX6_burn 18 = .ok (.ireturn, 1) := by decide +kernel
theorem dX6_burn_19 : decode cX6_burn 19 = .ok (.aload_n 0, 1) := by decide +kernel
theorem dX6_burn_20 : decode cX6_burn 20 = .ok (.getfield 26, 3) := by decide +kernel
theorem dX6_burn_23 : decode cX6_burn 23 = .ok (.iload_n 1, 1) := by decide +kernel
theorem dX6_burn_24 : decode cX6_burn 24 = .ok (.iload_n 2, 1) := by decide +kernel
theorem dX6_burn_25 : decode cX6_burn 25 = .ok (.invokevirtual 130, 3) := by decide +kernel
theorem dX6_burn_28 : decode cX6_burn 28 = .ok (.invokestatic 163, 3) := by decide +kernel
theorem dX6_burn_31 : decode cX6_burn 31 = .ok (.istore_n 3, 1) := by decide +kernel
theorem dX6_burn_32 : decode cX6_burn 32 = .ok (.iload_n 3, 1) := by decide +kernel
theorem dX6_burn_33 : decode cX6_burn 33 = .ok (.ifCond .ne 6, 3) := by decide +kernel
theorem dX6_burn_36 : decode cX6_burn 36 = .ok (.bipush (-4), 2) := by decide +kernel
theorem dX6_burn_38 : decode cX6_burn 38 = .ok (.ireturn, 1) := by decide +kernel
theorem dX6_burn_39 : decode cX6_burn 39 = .ok (.aload_n 0, 1) := by decide +kernel
theorem dX6_burn_40 : decode cX6_burn 40 = .ok (.invokevirtual 146, 3) := by decide +kernel
theorem dX6_burn_43 : decode cX6_burn 43 = .ok (.aload_n 0, 1) := by decide +kernel
theorem dX6_burn_44 : decode cX6_burn 44 = .ok (.getfield 26, 3) := by decide +kernel
theorem dX6_burn_47 : decode cX6_burn 47 = .ok (.iload_n 1, 1) := by decide +kernel
theorem dX6_burn_48 : decode cX6_burn 48 = .ok (.iload_n 2, 1) := by decide +kernel
theorem dX6_burn_49 : decode cX6_burn 49 = .ok (.iconst 0, 1) := by decide +kernel
theorem dX6_burn_50 : decode cX6_burn 50 = .ok (.iconst 0, 1) := by decide +kernel
theorem dX6_burn_51 : decode cX6_burn 51 = .ok (.invokevirtual 168, 3) := by decide +kernel
theorem dX6_burn_54 : decode cX6_burn 54 = .ok (.iload_n 3, 1) := by decide +kernel
theorem dX6_burn_55 : decode cX6_burn 55 = .ok (.ireturn, 1) := by decide +kernel
theorem dX6_undo_0 : decode cX6_undo 0 = .ok (.aload_n 0, 1) := by decide +kernel
theorem dX6_undo_1 : decode cX6_undo 1 = .ok (.getfield 53, 3) := by decide +kernel
theorem dX6_undo_4 : decode cX6_undo 4 = .ok (.ifCond .gt 6, 3) := by decide +kernel
theorem dX6_undo_7 : decode cX6_undo 7 = .ok (.bipush (-4), 2) := by decide +kernel
theorem dX6_undo_9 : decode cX6_undo 9 = .ok (.ireturn, 1) := by decide +kernel
theorem dX6_undo_10 : decode cX6_undo 10 = .ok (.aload_n 0, 1) := by decide +kernel
theorem dX6_undo_11 : decode cX6_undo 11 = .ok (.getfield 42, 3) := by decide +kernel
theorem dX6_undo_14 : decode cX6_undo 14 = .ok (.aload_n 0, 1) := by decide +kernel
theorem dX6_undo_15 : decode cX6_undo 15 = .ok (.getfield 49, 3) := by decide +kernel
theorem dX6_undo_18 : decode cX6_undo 18 = .ok (.aload_n 0, 1) := by decide +kernel
theorem dX6_undo_19 : decode cX6_undo 19 = .ok (.getfield 26, 3) := by decide +kernel
theorem dX6_undo_22 : decode cX6_undo 22 = .ok (.invokevirtual 171, 3) := by decide +kernel
theorem dX6_undo_25 : decode cX6_undo 25 = .ok (.aload_n 0, 1) := by decide +kernel
theorem dX6_undo_26 : decode cX6_undo 26 = .ok (.aload_n 0, 1) := by decide +kernel
theorem dX6_undo_27 : decode cX6_undo 27 = .ok (.getfield 49, 3) := by decide +kernel
theorem dX6_undo_30 : decode cX6_undo 30 = .ok (.ifCond .ne 8, 3) := by decide +kernel
theorem dX6_undo_33 : decode cX6_undo 33 = .ok (.bipush 7, 2) := by decide +kernel
theorem dX6_undo_35 : decode cX6_undo 35 = .ok (.goto 9, 3) := by decide +kernel
theorem dX6_undo_38 : decode cX6_undo 38 = .ok (.aload_n 0, 1) := by decide +kernel
theorem dX6_undo_39 : decode cX6_undo 39 = .ok (.getfield 49, 3) := by decide +kernel
theorem dX6_undo_42 : decode cX6_undo 42 = .ok (.iconst 1, 1) := by decide +kernel
theorem dX6_undo_43 : decode cX6_undo 43 = .ok (.isub, 1) := by decide +kernel
theorem dX6_undo_44 : decode cX6_undo 44 = .ok (.putfield 49, 3) := by decide +kernel
theorem dX6_undo_47 : decode cX6_undo 47 = .ok (.aload_n 0, 1) := by decide +kernel
theorem dX6_undo_48 : decode cX6_undo 48 = .ok (.dup, 1) := by decide +kernel
theorem dX6_undo_49 : decode cX6_undo 49 = .ok (.getfield 53, 3) := by decide +kernel
theorem dX6_undo_52 : decode cX6_undo 52 = .ok (.iconst 1, 1) := by decide +kernel
theorem dX6_undo_53 : decode cX6_undo 53 = .ok (.isub, 1) := by decide +kernel
theorem dX6_undo_54 : decode cX6_undo 54 = .ok (.putfield 53, 3) := by decide +kernel
theorem dX6_undo_57 : decode cX6_undo 57 = .ok (.aload_n 0, 1) := by decide +kernel
theorem dX6_undo_58 : decode cX6_undo 58 = .ok (.getfield 53, 3) := by decide +kernel
theorem dX6_undo_61 : decode cX6_undo 61 = .ok (.ireturn, 1) := by decide +kernel
theorem dX6_keep_0 : decode cX6_keep 0 = .ok (.iload_n 1, 1) := by decide +kernel
theorem dX6_keep_1 : decode cX6_keep 1 = .ok (.ifCond .lt 8, 3) := by decide +kernel
theorem dX6_keep_4 : decode cX6_keep 4 = .ok (.iload_n 1, 1) := by decide +kernel
theorem dX6_keep_5 : decode cX6_keep 5 = .ok (.iconst 2, 1) := by decide +kernel
theorem dX6_keep_6 : decode cX6_keep 6 = .ok (.if_icmp .lt 6, 3) := by decide +kernel
theorem dX6_keep_9 : decode cX6_keep 9 = .ok (.bipush (-2), 2) := by decide +kernel
theorem dX6_keep_11 : decode cX6_keep 11 = .ok (.ireturn, 1) := by decide +kernel
theorem dX6_keep_12 : decode cX6_keep 12 = .ok (.aload_n 0, 1) := by decide +kernel
theorem dX6_keep_13 : decode cX6_keep 13 = .ok (.getfield 46, 3) := by decide +kernel
theorem dX6_keep_16 : decode cX6_keep 16 = .ok (.iload_n 1, 1) := by decide +kernel
theorem dX6_keep_17 : decode cX6_keep 17 = .ok (.aload_n 0, 1) := by decide +kernel
theorem dX6_keep_18 : decode cX6_keep 18 = .ok (.getfield 26, 3) := by decide +kernel
theorem dX6_keep_21 : decode cX6_keep 21 = .ok (.invokevirtual 175, 3) := by decide +kernel
theorem dX6_keep_24 : decode cX6_keep 24 = .ok (.aload_n 0, 1) := by decide +kernel
theorem dX6_keep_25 : decode cX6_keep 25 = .ok (.dup, 1) := by decide +kernel
theorem dX6_keep_26 : decode cX6_keep 26 = .ok (.getfield 56, 3) := by decide +kernel
theorem dX6_keep_29 : decode cX6_keep 29 = .ok (.iconst 1, 1) := by decide +kernel
theorem dX6_keep_30 : decode cX6_keep 30 = .ok (.iload_n 1, 1) := by decide +kernel
theorem dX6_keep_31 : decode cX6_keep 31 = .ok (.ishl, 1) := by decide +kernel
theorem dX6_keep_32 : decode cX6_keep 32 = .ok (.ior, 1) := by decide +kernel
theorem dX6_keep_33 : decode cX6_keep 33 = .ok (.putfield 56, 3) := by decide +kernel
theorem dX6_keep_36 : decode cX6_keep 36 = .ok (.aload_n 0, 1) := by decide +kernel
theorem dX6_keep_37 : decode cX6_keep 37 = .ok (.getfield 26, 3) := by decide +kernel
theorem dX6_keep_40 : decode cX6_keep 40 = .ok (.invokevirtual 156, 3) := by decide +kernel
theorem dX6_keep_43 : decode cX6_keep 43 = .ok (.ireturn, 1) := by decide +kernel
theorem dX6_back_0 : decode cX6_back 0 = .ok (.iload_n 1, 1) := by decide +kernel
theorem dX6_back_1 : decode cX6_back 1 = .ok (.ifCond .lt 8, 3) := by decide +kernel
theorem dX6_back_4 : decode cX6_back 4 = .ok (.iload_n 1, 1) := by decide +kernel
theorem dX6_back_5 : decode cX6_back 5 = .ok (.iconst 2, 1) := by decide +kernel
theorem dX6_back_6 : decode cX6_back 6 = .ok (.if_icmp .lt 6, 3) := by decide +kernel
theorem dX6_back_9 : decode cX6_back 9 = .ok (.bipush (-2), 2) := by decide +kernel
theorem dX6_back_11 : decode cX6_back 11 = .ok (.ireturn, 1) := by decide +kernel
theorem dX6_back_12 : decode cX6_back 12 = .ok (.aload_n 0, 1) := by decide +kernel
theorem dX6_back_13 : decode cX6_back 13 = .ok (.getfield 56, 3) := by decide +kernel
theorem dX6_back_16 : decode cX6_back 16 = .ok (.iload_n 1, 1) := by decide +kernel
theorem dX6_back_17 : decode cX6_back 17 = .ok (.invokestatic 178, 3) := by decide +kernel
theorem dX6_back_20 : decode cX6_back 20 = .ok (.ifCond .ne 6, 3) := by decide +kernel
theorem dX6_back_23 : decode cX6_back 23 = .ok (.bipush (-4), 2) := by decide +kernel
theorem dX6_back_25 : decode cX6_back 25 = .ok (.ireturn, 1) := by decide +kernel
theorem dX6_back_26 : decode cX6_back 26 = .ok (.aload_n 0, 1) := by decide +kernel
theorem dX6_back_27 : decode cX6_back 27 = .ok (.getfield 46, 3) := by decide +kernel
theorem dX6_back_30 : decode cX6_back 30 = .ok (.iload_n 1, 1) := by decide +kernel
theorem dX6_back_31 : decode cX6_back 31 = .ok (.aload_n 0, 1) := by decide +kernel
theorem dX6_back_32 : decode cX6_back 32 = .ok (.getfield 26, 3) := by decide +kernel
theorem dX6_back_35 : decode cX6_back 35 = .ok (.invokevirtual 171, 3) := by decide +kernel
theorem dX6_back_38 : decode cX6_back 38 = .ok (.aload_n 0, 1) := by decide +kernel
theorem dX6_back_39 : decode cX6_back 39 = .ok (.iconst 0, 1) := by decide +kernel
theorem dX6_back_40 : decode cX6_back 40 = .ok (.putfield 53, 3) := by decide +kernel
theorem dX6_back_43 : decode cX6_back 43 = .ok (.aload_n 0, 1) := by decide +kernel
theorem dX6_back_44 : decode cX6_back 44 = .ok (.getfield 26, 3) := by decide +kernel
theorem dX6_back_47 : decode cX6_back 47 = .ok (.invokevirtual 156, 3) := by decide +kernel
theorem dX6_back_50 : decode cX6_back 50 = .ok (.ireturn, 1) := by decide +kernel
theorem dX6_smooth_0 : decode cX6_smooth 0 = .ok (.aload_n 0, 1) := by decide +kernel
theorem dX6_smooth_1 : decode cX6_smooth 1 = .ok (.iload_n 1, 1) := by decide +kernel
theorem dX6_smooth_2 : decode cX6_smooth 2 = .ok (.invokevirtual 127, 3) := by decide +kernel
theorem dX6_smooth_5 : decode cX6_smooth 5 = .ok (.ifCond .eq 11, 3) := by decide +kernel
theorem dX6_smooth_8 : decode cX6_smooth 8 = .ok (.aload_n 0, 1) := by decide +kernel
theorem dX6_smooth_9 : decode cX6_smooth 9 = .ok (.iload_n 2, 1) := by decide +kernel
theorem dX6_smooth_10 : decode cX6_smooth 10 = .ok (.invokevirtual 99, 3) := by decide +kernel
theorem dX6_smooth_13 : decode cX6_smooth 13 = .ok (.ifCond .ne 6, 3) := by decide +kernel
theorem dX6_smooth_16 : decode cX6_smooth 16 = .ok (.bipush (-2), 2) := by decide +kernel
theorem dX6_smooth_18 : decode cX6_smooth 18 = .ok (.ireturn, 1) := by decide +kernel
theorem dX6_smooth_19 : decode cX6_smooth 19 = .ok (.iload_n 3, 1) := by decide +kernel
theorem dX6_smooth_20 : decode cX6_smooth 20 = .ok (.iconst 1, 1) := by decide +kernel
theorem dX6_smooth_21 : decode cX6_smooth 21 = .ok (.if_icmp .lt 9, 3) := by decide +kernel
theorem dX6_smooth_24 : decode cX6_smooth 24 = .ok (.iload_n 3, 1) := by decide +kernel
theorem dX6_smooth_25 : decode cX6_smooth 25 = .ok (.bipush 8, 2) := by decide +kernel
theorem dX6_smooth_27 : decode cX6_smooth 27 = .ok (.if_icmp .le 6, 3) := by decide +kernel
theorem dX6_smooth_30 : decode cX6_smooth 30 = .ok (.bipush (-3), 2) := by decide +kernel
theorem dX6_smooth_32 : decode cX6_smooth 32 = .ok (.ireturn, 1) := by decide +kernel
theorem dX6_smooth_33 : decode cX6_smooth 33 = .ok (.aload_n 0, 1) := by decide +kernel
theorem dX6_smooth_34 : decode cX6_smooth 34 = .ok (.iload_n 2, 1) := by decide +kernel
theorem dX6_smooth_35 : decode cX6_smooth 35 = .ok (.invokevirtual 181, 3) := by decide +kernel
theorem dX6_smooth_38 : decode cX6_smooth 38 = .ok (.istore 4, 2) := by decide +kernel
theorem dX6_smooth_40 : decode cX6_smooth 40 = .ok (.aload_n 0, 1) := by decide +kernel
theorem dX6_smooth_41 : decode cX6_smooth 41 = .ok (.iload_n 2, 1) := by decide +kernel
theorem dX6_smooth_42 : decode cX6_smooth 42 = .ok (.invokevirtual 184, 3) := by decide +kernel
theorem dX6_smooth_45 : decode cX6_smooth 45 = .ok (.istore 5, 2) := by decide +kernel
theorem dX6_smooth_47 : decode cX6_smooth 47 = .ok (.iconst (-1), 1) := by decide +kernel
theorem dX6_smooth_48 : decode cX6_smooth 48 = .ok (.istore 6, 2) := by decide +kernel
theorem dX6_smooth_50 : decode cX6_smooth 50 = .ok (.iconst (-1), 1) := by decide +kernel
theorem dX6_smooth_51 : decode cX6_smooth 51 = .ok (.istore 7, 2) := by decide +kernel
theorem dX6_smooth_53 : decode cX6_smooth 53 = .ok (.iconst 0, 1) := by decide +kernel
theorem dX6_smooth_54 : decode cX6_smooth 54 = .ok (.istore 8, 2) := by decide +kernel
theorem dX6_smooth_56 : decode cX6_smooth 56 = .ok (.iload 8, 2) := by decide +kernel
theorem dX6_smooth_58 : decode cX6_smooth 58 = .ok (.bipush 64, 2) := by decide +kernel
theorem dX6_smooth_60 : decode cX6_smooth 60 = .ok (.if_icmp .ge 48, 3) := by decide +kernel
theorem dX6_smooth_63 : decode cX6_smooth 63 = .ok (.iload 8, 2) := by decide +kernel
theorem dX6_smooth_65 : decode cX6_smooth 65 = .ok (.invokestatic 163, 3) := by decide +kernel
theorem dX6_smooth_68 : decode cX6_smooth 68 = .ok (.istore 9, 2) := by decide +kernel
theorem dX6_smooth_70 : decode cX6_smooth 70 = .ok (.iload 9, 2) := by decide +kernel
theorem dX6_smooth_72 : decode cX6_smooth 72 = .ok (.iload 7, 2) := by decide +kernel
theorem dX6_smooth_74 : decode cX6_smooth 74 = .ok (.if_icmp .le 28, 3) := by decide +kernel
theorem dX6_smooth_77 : decode cX6_smooth 77 = .ok (.aload_n 0, 1) := by decide +kernel
theorem dX6_smooth_78 : decode cX6_smooth 78 = .ok (.iload_n 1, 1) := by decide +kernel
theorem dX6_smooth_79 : decode cX6_smooth 79 = .ok (.iload_n 2, 1) := by decide +kernel
theorem dX6_smooth_80 : decode cX6_smooth 80 = .ok (.iload 8, 2) := by decide +kernel
theorem dX6_smooth_82 : decode cX6_smooth 82 = .ok (.iload 4, 2) := by decide +kernel
theorem dX6_smooth_84 : decode cX6_smooth 84 = .ok (.iand, 1) := by decide +kernel
theorem dX6_smooth_85 : decode cX6_smooth 85 = .ok (.iload 5, 2) := by decide +kernel
theorem dX6_smooth_87 : decode cX6_smooth 87 = .ok (.invokevirtual 187, 3) := by decide +kernel
theorem dX6_smooth_90 : decode cX6_smooth 90 = .ok (.iload_n 3, 1) := by decide +kernel
theorem dX6_smooth_91 : decode cX6_smooth 91 = .ok (.if_icmp .lt 11, 3) := by decide +kernel
theorem dX6_smooth_94 : decode cX6_smooth 94 = .ok (.iload 8, 2) := by decide +kernel
theorem dX6_smooth_96 : decode cX6_smooth 96 = .ok (.istore 6, 2) := by decide +kernel
theorem dX6_smooth_98 : decode cX6_smooth 98 = .ok (.iload 9, 2) := by decide +kernel
theorem dX6_smooth_100 : decode cX6_smooth 100 = .ok (.istore 7, 2) := by decide +kernel
theorem dX6_smooth_102 : decode cX6_smooth 102 = .ok (.iinc 8 1, 3) := by decide +kernel
theorem dX6_smooth_105 : decode cX6_smooth 105 = .ok (.goto (-49), 3) := by decide +kernel
theorem dX6_smooth_108 : decode cX6_smooth 108 = .ok (.iload 6, 2) := by decide +kernel
theorem dX6_smooth_110 : decode cX6_smooth 110 = .ok (.ireturn, 1) := by decide +kernel
theorem dX6_next_0 : decode cX6_next 0 = .ok (.aload_n 0, 1) := by decide +kernel
theorem dX6_next_1 : decode cX6_next 1 = .ok (.iload_n 1, 1) := by decide +kernel
theorem dX6_next_2 : decode cX6_next 2 = .ok (.invokevirtual 127, 3) := by decide +kernel
theorem dX6_next_5 : decode cX6_next 5 = .ok (.ifCond .eq 11, 3) := by decide +kernel
theorem dX6_next_8 : decode cX6_next 8 = .ok (.aload_n 0, 1) := by decide +kernel
theorem dX6_next_9 : decode cX6_next 9 = .ok (.iload_n 2, 1) := by decide +kernel
theorem dX6_next_10 : decode cX6_next 10 = .ok (.invokevirtual 99, 3) := by decide +kernel
theorem dX6_next_13 : decode cX6_next 13 = .ok (.ifCond .ne 6, 3) := by decide +kernel
theorem dX6_next_16 : decode cX6_next 16 = .ok (.bipush (-2), 2) := by decide +kernel
theorem dX6_next_18 : decode cX6_next 18 = .ok (.ireturn, 1) := by decide +kernel
theorem dX6_next_19 : decode cX6_next 19 = .ok (.aload_n 0, 1) := by decide +kernel
theorem dX6_next_20 : decode cX6_next 20 = .ok (.getfield 26, 3) := by decide +kernel
theorem dX6_next_23 : decode cX6_next 23 = .ok (.iload_n 1, 1) := by decide +kernel
theorem dX6_next_24 : decode cX6_next 24 = .ok (.iload_n 2, 1) := by decide +kernel
theorem dX6_next_25 : decode cX6_next 25 = .ok (.invokevirtual 130, 3) := by decide +kernel
theorem dX6_next_28 : decode cX6_next 28 = .ok (.istore_n 3, 1) := by decide +kernel
theorem dX6_next_29 : decode cX6_next 29 = .ok (.aload_n 0, 1) := by decide +kernel
theorem dX6_next_30 : decode cX6_next 30 = .ok (.getfield 19, 3) := by decide +kernel
theorem dX6_next_33 : decode cX6_next 33 = .ok (.iload_n 3, 1) := by decide +kernel
theorem dX6_next_34 : decode cX6_next 34 = .ok (.aload_n 0, 1) := by decide +kernel
theorem dX6_next_35 : decode cX6_next 35 = .ok (.getfield 26, 3) := by decide +kernel
theorem dX6_next_38 : decode cX6_next 38 = .ok (.iload_n 1, 1) := by decide +kernel
theorem dX6_next_39 : decode cX6_next 39 = .ok (.iload_n 2, 1) := by decide +kernel
theorem dX6_next_40 : decode cX6_next 40 = .ok (.invokevirtual 133, 3) := by decide +kernel
theorem dX6_next_43 : decode cX6_next 43 = .ok (.invokevirtual 136, 3) := by decide +kernel
theorem dX6_next_46 : decode cX6_next 46 = .ok (.istore 4, 2) := by decide +kernel
theorem dX6_next_48 : decode cX6_next 48 = .ok (.iload 4, 2) := by decide +kernel
theorem dX6_next_50 : decode cX6_next 50 = .ok (.ifCond .ne 5, 3) := by decide +kernel
theorem dX6_next_53 : decode cX6_next 53 = .ok (.iconst (-1), 1) := by decide +kernel
theorem dX6_next_54 : decode cX6_next 54 = .ok (.ireturn, 1) := by decide +kernel
theorem dX6_next_55 : decode cX6_next 55 = .ok (.iconst (-1), 1) := by decide +kernel
theorem dX6_next_56 : decode cX6_next 56 = .ok (.istore 5, 2) := by decide +kernel
theorem dX6_next_58 : decode cX6_next 58 = .ok (.bipush 9, 2) := by decide +kernel
theorem dX6_next_60 : decode cX6_next 60 = .ok (.istore 6, 2) := by decide +kernel
theorem dX6_next_62 : decode cX6_next 62 = .ok (.iconst 0, 1) := by decide +kernel
theorem dX6_next_63 : decode cX6_next 63 = .ok (.istore 7, 2) := by decide +kernel
theorem dX6_next_65 : decode cX6_next 65 = .ok (.iload 7, 2) := by decide +kernel
theorem dX6_next_67 : decode cX6_next 67 = .ok (.bipush 6, 2) := by decide +kernel
theorem dX6_next_69 : decode cX6_next 69 = .ok (.if_icmp .ge 46, 3) := by decide +kernel
theorem dX6_next_72 : decode cX6_next 72 = .ok (.aload_n 0, 1) := by decide +kernel
theorem dX6_next_73 : decode cX6_next 73 = .ok (.getfield 19, 3) := by decide +kernel
theorem dX6_next_76 : decode cX6_next 76 = .ok (.iload 4, 2) := by decide +kernel
theorem dX6_next_78 : decode cX6_next 78 = .ok (.iload 7, 2) := by decide +kernel
theorem dX6_next_80 : decode cX6_next 80 = .ok (.invokevirtual 191, 3) := by decide +kernel
theorem dX6_next_83 : decode cX6_next 83 = .ok (.istore 8, 2) := by decide +kernel
theorem dX6_next_85 : decode cX6_next 85 = .ok (.iload_n 3, 1) := by decide +kernel
theorem dX6_next_86 : decode cX6_next 86 = .ok (.iload 7, 2) := by decide +kernel
theorem dX6_next_88 : decode cX6_next 88 = .ok (.invokestatic 178, 3) := by decide +kernel
theorem dX6_next_91 : decode cX6_next 91 = .ok (.ifCond .ne 18, 3) := by decide +kernel
theorem dX6_next_94 : decode cX6_next 94 = .ok (.iload 8, 2) := by decide +kernel
theorem dX6_next_96 : decode cX6_next 96 = .ok (.iload 6, 2) := by decide +kernel
theorem dX6_next_98 : decode cX6_next 98 = .ok (.if_icmp .ge 11, 3) := by decide +kernel
theorem dX6_next_101 : decode cX6_next 101 = .ok (.iload 7, 2) := by decide +kernel
theorem dX6_next_103 : decode cX6_next 103 = .ok (.istore 5, 2) := by decide +kernel
theorem dX6_next_105 : decode cX6_next 105 = .ok (.iload 8, 2) := by decide +kernel
theorem dX6_next_107 : decode cX6_next 107 = .ok (.istore 6, 2) := by decide +kernel
theorem dX6_next_109 : decode cX6_next 109 = .ok (.iinc 7 1, 3) := by decide +kernel
theorem dX6_next_112 : decode cX6_next 112 = .ok (.goto (-47), 3) := by decide +kernel
theorem dX6_next_115 : decode cX6_next 115 = .ok (.iload 5, 2) := by decide +kernel
theorem dX6_next_117 : decode cX6_next 117 = .ok (.ireturn, 1) := by decide +kernel
theorem dX6_meet_0 : decode cX6_meet 0 = .ok (.aload_n 0, 1) := by decide +kernel
theorem dX6_meet_1 : decode cX6_meet 1 = .ok (.iload_n 1, 1) := by decide +kernel
theorem dX6_meet_2 : decode cX6_meet 2 = .ok (.invokevirtual 99, 3) := by decide +kernel
theorem dX6_meet_5 : decode cX6_meet 5 = .ok (.ifCond .eq 11, 3) := by decide +kernel
theorem dX6_meet_8 : decode cX6_meet 8 = .ok (.aload_n 0, 1) := by decide +kernel
theorem dX6_meet_9 : decode cX6_meet 9 = .ok (.iload_n 2, 1) := by decide +kernel
theorem dX6_meet_10 : decode cX6_meet 10 = .ok (.invokevirtual 121, 3) := by decide +kernel
theorem dX6_meet_13 : decode cX6_meet 13 = .ok (.ifCond .ne 6, 3) := by decide +kernel
theorem dX6_meet_16 : decode cX6_meet 16 = .ok (.bipush (-2), 2) := by decide +kernel
theorem dX6_meet_18 : decode cX6_meet 18 = .ok (.ireturn, 1) := by decide +kernel
theorem dX6_meet_19 : decode cX6_meet 19 = .ok (.iconst (-1), 1) := by decide +kernel
theorem dX6_meet_20 : decode cX6_meet 20 = .ok (.istore_n 3, 1) := by decide +kernel
theorem dX6_meet_21 : decode cX6_meet 21 = .ok (.iconst 5, 1) := by decide +kernel
theorem dX6_meet_22 : decode cX6_meet 22 = .ok (.istore 4, 2) := by decide +kernel
theorem dX6_meet_24 : decode cX6_meet 24 = .ok (.iconst 0, 1) := by decide +kernel
theorem dX6_meet_25 : decode cX6_meet 25 = .ok (.istore 5, 2) := by decide +kernel
theorem dX6_meet_27 : decode cX6_meet 27 = .ok (.iload 5, 2) := by decide +kernel
theorem dX6_meet_29 : decode cX6_meet 29 = .ok (.iconst 1, 1) := by decide +kernel
theorem dX6_meet_30 : decode cX6_meet 30 = .ok (.aload_n 0, 1) := by decide +kernel
theorem dX6_meet_31 : decode cX6_meet 31 = .ok (.getfield 19, 3) := by decide +kernel
theorem dX6_meet_34 : decode cX6_meet 34 = .ok (.getfield 194, 3) := by decide +kernel
theorem dX6_meet_37 : decode cX6_meet 37 = .ok (.ishl, 1) := by decide +kernel
theorem dX6_meet_38 : decode cX6_meet 38 = .ok (.if_icmp .ge 43, 3) := by decide +kernel
theorem dX6_meet_41 : decode cX6_meet 41 = .ok (.iload 5, 2) := by decide +kernel
theorem dX6_meet_43 : decode cX6_meet 43 = .ok (.invokestatic 163, 3) := by decide +kernel
theorem dX6_meet_46 : decode cX6_meet 46 = .ok (.istore 6, 2) := by decide +kernel
theorem dX6_meet_48 : decode cX6_meet 48 = .ok (.iload 6, 2) := by decide +kernel
theorem dX6_meet_50 : decode cX6_meet 50 = .ok (.iload 4, 2) := by decide +kernel
theorem dX6_meet_52 : decode cX6_meet 52 = .ok (.if_icmp .ge 23, 3) := by decide +kernel
theorem dX6_meet_55 : decode cX6_meet 55 = .ok (.aload_n 0, 1) := by decide +kernel
theorem dX6_meet_56 : decode cX6_meet 56 = .ok (.iload 5, 2) := by decide +kernel
theorem dX6_meet_58 : decode cX6_meet 58 = .ok (.iload_n 1, 1) := by decide +kernel
theorem dX6_meet_59 : decode cX6_meet 59 = .ok (.invokevirtual 197, 3) := by decide +kernel
theorem dX6_meet_62 : decode cX6_meet 62 = .ok (.iconst 1, 1) := by decide +kernel
theorem dX6_meet_63 : decode cX6_meet 63 = .ok (.iload_n 2, 1) := by decide +kernel
theorem dX6_meet_64 : decode cX6_meet 64 = .ok (.ishl, 1) := by decide +kernel
theorem dX6_meet_65 : decode cX6_meet 65 = .ok (.if_icmp .ne 10, 3) := by decide +kernel
theorem dX6_meet_68 : decode cX6_meet 68 = .ok (.iload 5, 2) := by decide +kernel
theorem dX6_meet_70 : decode cX6_meet 70 = .ok (.istore_n 3, 1) := by decide +kernel
theorem dX6_meet_71 : decode cX6_meet 71 = .ok (.iload 6, 2) := by decide +kernel
theorem dX6_meet_73 : decode cX6_meet 73 = .ok (.istore 4, 2) := by decide +kernel
theorem dX6_meet_75 : decode cX6_meet 75 = .ok (.iinc 5 1, 3) := by decide +kernel
theorem dX6_meet_78 : decode cX6_meet 78 = .ok (.goto (-51), 3) := by decide +kernel
theorem dX6_meet_81 : decode cX6_meet 81 = .ok (.iload_n 3, 1) := by decide +kernel
theorem dX6_meet_82 : decode cX6_meet 82 = .ok (.ireturn, 1) := by decide +kernel
theorem dX6_round_0 : decode cX6_round 0 = .ok (.aload_n 0, 1) := by decide +kernel
theorem dX6_round_1 : decode cX6_round 1 = .ok (.iload_n 1, 1) := by decide +kernel
theorem dX6_round_2 : decode cX6_round 2 = .ok (.invokevirtual 99, 3) := by decide +kernel
theorem dX6_round_5 : decode cX6_round 5 = .ok (.ifCond .eq 11, 3) := by decide +kernel
theorem dX6_round_8 : decode cX6_round 8 = .ok (.aload_n 0, 1) := by decide +kernel
theorem dX6_round_9 : decode cX6_round 9 = .ok (.iload_n 3, 1) := by decide +kernel
theorem dX6_round_10 : decode cX6_round 10 = .ok (.invokevirtual 127, 3) := by decide +kernel
theorem dX6_round_13 : decode cX6_round 13 = .ok (.ifCond .ne 6, 3) := by decide +kernel
theorem dX6_round_16 : decode cX6_round 16 = .ok (.bipush (-2), 2) := by decide +kernel
theorem dX6_round_18 : decode cX6_round 18 = .ok (.ireturn, 1) := by decide +kernel
theorem dX6_round_19 : decode cX6_round 19 = .ok (.iload_n 2, 1) := by decide +kernel
theorem dX6_round_20 : decode cX6_round 20 = .ok (.ifCond .lt 9, 3) := by decide +kernel
theorem dX6_round_23 : decode cX6_round 23 = .ok (.iload_n 2, 1) := by decide +kernel
theorem dX6_round_24 : decode cX6_round 24 = .ok (.bipush 6, 2) := by decide +kernel
theorem dX6_round_26 : decode cX6_round 26 = .ok (.if_icmp .lt 6, 3) := by decide +kernel
theorem dX6_round_29 : decode cX6_round 29 = .ok (.bipush (-3), 2) := by decide +kernel
theorem dX6_round_31 : decode cX6_round 31 = .ok (.ireturn, 1) := by decide +kernel
theorem dX6_round_32 : decode cX6_round 32 = .ok (.iconst 0, 1) := by decide +kernel
theorem dX6_round_33 : decode cX6_round 33 = .ok (.istore 4, 2) := by decide +kernel
theorem dX6_round_35 : decode cX6_round 35 = .ok (.iconst 0, 1) := by decide +kernel
theorem dX6_round_36 : decode cX6_round 36 = .ok (.istore 5, 2) := by decide +kernel
theorem dX6_round_38 : decode cX6_round 38 = .ok (.iload 5, 2) := by decide +kernel
theorem dX6_round_40 : decode cX6_round 40 = .ok (.bipush 6, 2) := by decide +kernel
theorem dX6_round_42 : decode cX6_round 42 = .ok (.if_icmp .ge 38, 3) := by decide +kernel
theorem dX6_round_45 : decode cX6_round 45 = .ok (.iload 5, 2) := by decide +kernel
theorem dX6_round_47 : decode cX6_round 47 = .ok (.iload_n 2, 1) := by decide +kernel
theorem dX6_round_48 : decode cX6_round 48 = .ok (.iadd, 1) := by decide +kernel
theorem dX6_round_49 : decode cX6_round 49 = .ok (.iconst 1, 1) := by decide +kernel
theorem dX6_round_50 : decode cX6_round 50 = .ok (.aload_n 0, 1) := by decide +kernel
theorem dX6_round_51 : decode cX6_round 51 = .ok (.getfield 19, 3) := by decide +kernel
theorem dX6_round_54 : decode cX6_round 54 = .ok (.getfield 194, 3) := by decide +kernel
theorem dX6_round_57 : decode cX6_round 57 = .ok (.invokestatic 200, 3) := by decide +kernel
theorem dX6_round_60 : decode cX6_round 60 = .ok (.irem, 1) := by decide +kernel
theorem dX6_round_61 : decode cX6_round 61 = .ok (.iload_n 3, 1) := by decide +kernel
theorem dX6_round_62 : decode cX6_round 62 = .ok (.if_icmp .ne 12, 3) := by decide +kernel
theorem dX6_round_65 : decode cX6_round 65 = .ok (.iload 4, 2) := by decide +kernel
theorem dX6_round_67 : decode cX6_round 67 = .ok (.iconst 1, 1) := by decide +kernel
theorem dX6_round_68 : decode cX6_round 68 = .ok (.iload 5, 2) := by decide +kernel
theorem dX6_round_70 : decode cX6_round 70 = .ok (.ishl, 1) := by decide +kernel
theorem dX6_round_71 : decode cX6_round 71 = .ok (.ior, 1) := by decide +kernel
theorem dX6_round_72 : decode cX6_round 72 = .ok (.istore 4, 2) := by decide +kernel
theorem dX6_round_74 : decode cX6_round 74 = .ok (.iinc 5 1, 3) := by decide +kernel
theorem dX6_round_77 : decode cX6_round 77 = .ok (.goto (-39), 3) := by decide +kernel
theorem dX6_round_80 : decode cX6_round 80 = .ok (.aload_n 0, 1) := by decide +kernel
theorem dX6_round_81 : decode cX6_round 81 = .ok (.iload_n 3, 1) := by decide +kernel
theorem dX6_round_82 : decode cX6_round 82 = .ok (.iload_n 1, 1) := by decide +kernel
theorem dX6_round_83 : decode cX6_round 83 = .ok (.iload 4, 2) := by decide +kernel
theorem dX6_round_85 : decode cX6_round 85 = .ok (.aload_n 0, 1) := by decide +kernel
theorem dX6_round_86 : decode cX6_round 86 = .ok (.iload_n 1, 1) := by decide +kernel
theorem dX6_round_87 : decode cX6_round 87 = .ok (.invokevirtual 181, 3) := by decide +kernel
theorem dX6_round_90 : decode cX6_round 90 = .ok (.iand, 1) := by decide +kernel
theorem dX6_round_91 : decode cX6_round 91 = .ok (.aload_n 0, 1) := by decide +kernel
theorem dX6_round_92 : decode cX6_round 92 = .ok (.iload_n 1, 1) := by decide +kernel
theorem dX6_round_93 : decode cX6_round 93 = .ok (.invokevirtual 184, 3) := by decide +kernel
theorem dX6_round_96 : decode cX6_round 96 = .ok (.invokevirtual 187, 3) := by decide +kernel
theorem dX6_round_99 : decode cX6_round 99 = .ok (.ireturn, 1) := by decide +kernel
theorem dX6_seen_0 : decode cX6_seen 0 = .ok (.iload_n 1, 1) := by decide +kernel
theorem dX6_seen_1 : decode cX6_seen 1 = .ok (.invokestatic 115, 3) := by decide +kernel
theorem dX6_seen_4 : decode cX6_seen 4 = .ok (.ifCond .ne 6, 3) := by decide +kernel
theorem dX6_seen_7 : decode cX6_seen 7 = .ok (.bipush (-2), 2) := by decide +kernel
theorem dX6_seen_9 : decode cX6_seen 9 = .ok (.ireturn, 1) := by decide +kernel
theorem dX6_seen_10 : decode cX6_seen 10 = .ok (.iload_n 2, 1) := by decide +kernel
theorem dX6_seen_11 : decode cX6_seen 11 = .ok (.ifCond .lt 9, 3) := by decide +kernel
theorem dX6_seen_14 : decode cX6_seen 14 = .ok (.iload_n 2, 1) := by decide +kernel
theorem dX6_seen_15 : decode cX6_seen 15 = .ok (.bipush 9, 2) := by decide +kernel
theorem dX6_seen_17 : decode cX6_seen 17 = .ok (.if_icmp .le 6, 3) := by decide +kernel
theorem dX6_seen_20 : decode cX6_seen 20 = .ok (.bipush (-3), 2) := by decide +kernel
theorem dX6_seen_22 : decode cX6_seen 22 = .ok (.ireturn, 1) := by decide +kernel
theorem dX6_seen_23 : decode cX6_seen 23 = .ok (.iload_n 3, 1) := by decide +kernel
theorem dX6_seen_24 : decode cX6_seen 24 = .ok (.ifCond .eq 16, 3) := by decide +kernel
theorem dX6_seen_27 : decode cX6_seen 27 = .ok (.iload_n 3, 1) := by decide +kernel
theorem dX6_seen_28 : decode cX6_seen 28 = .ok (.iconst 1, 1) := by decide +kernel
theorem dX6_seen_29 : decode cX6_seen 29 = .ok (.if_icmp .eq 11, 3) := by decide +kernel
theorem dX6_seen_32 : decode cX6_seen 32 = .ok (.iload_n 3, 1) := by decide +kernel
theorem dX6_seen_33 : decode cX6_seen 33 = .ok (.iconst (-1), 1) := by decide +kernel
theorem dX6_seen_34 : decode cX6_seen 34 = .ok (.if_icmp .eq 6, 3) := by decide +kernel
theorem dX6_seen_37 : decode cX6_seen 37 = .ok (.bipush (-3), 2) := by decide +kernel
theorem dX6_seen_39 : decode cX6_seen 39 = .ok (.ireturn, 1) := by decide +kernel
theorem dX6_seen_40 : decode cX6_seen 40 = .ok (.aload_n 0, 1) := by decide +kernel
theorem dX6_seen_41 : decode cX6_seen 41 = .ok (.getfield 33, 3) := by decide +kernel
theorem dX6_seen_44 : decode cX6_seen 44 = .ok (.getfield 205, 3) := by decide +kernel
theorem dX6_seen_47 : decode cX6_seen 47 = .ok (.bipush 6, 2) := by decide +kernel
theorem dX6_seen_49 : decode cX6_seen 49 = .ok (.if_icmp .lt 6, 3) := by decide +kernel
theorem dX6_seen_52 : decode cX6_seen 52 = .ok (.bipush (-5), 2) := by decide +kernel
theorem dX6_seen_54 : decode cX6_seen 54 = .ok (.ireturn, 1) := by decide +kernel
theorem dX6_seen_55 : decode cX6_seen 55 = .ok (.aload_n 0, 1) := by decide +kernel
theorem dX6_seen_56 : decode cX6_seen 56 = .ok (.getfield 33, 3) := by decide +kernel
theorem dX6_seen_59 : decode cX6_seen 59 = .ok (.iload_n 1, 1) := by decide +kernel
theorem dX6_seen_60 : decode cX6_seen 60 = .ok (.iload_n 2, 1) := by decide +kernel
theorem dX6_seen_61 : decode cX6_seen 61 = .ok (.iload_n 3, 1) := by decide +kernel
theorem dX6_seen_62 : decode cX6_seen 62 = .ok (.invokevirtual 208, 3) := by decide +kernel
theorem dX6_seen_65 : decode cX6_seen 65 = .ok (.aload_n 0, 1) := by decide +kernel
theorem dX6_seen_66 : decode cX6_seen 66 = .ok (.getfield 33, 3) := by decide +kernel
theorem dX6_seen_69 : decode cX6_seen 69 = .ok (.getfield 205, 3) := by decide +kernel
theorem dX6_seen_72 : decode cX6_seen 72 = .ok (.ireturn, 1) := by decide +kernel
theorem dX6_forget_0 : decode cX6_forget 0 = .ok (.aload_n 0, 1) := by decide +kernel
theorem dX6_forget_1 : decode cX6_forget 1 = .ok (.getfield 33, 3) := by decide +kernel
theorem dX6_forget_4 : decode cX6_forget 4 = .ok (.getfield 205, 3) := by decide +kernel
theorem dX6_forget_7 : decode cX6_forget 7 = .ok (.istore_n 1, 1) := by decide +kernel
theorem dX6_forget_8 : decode cX6_forget 8 = .ok (.aload_n 0, 1) := by decide +kernel
theorem dX6_forget_9 : decode cX6_forget 9 = .ok (.getfield 33, 3) := by decide +kernel
theorem dX6_forget_12 : decode cX6_forget 12 = .ok (.invokevirtual 96, 3) := by decide +kernel
theorem dX6_forget_15 : decode cX6_forget 15 = .ok (.iload_n 1, 1) := by decide +kernel
theorem dX6_forget_16 : decode cX6_forget 16 = .ok (.ireturn, 1) := by decide +kernel
theorem dX6_was_0 : decode cX6_was 0 = .ok (.iconst 0, 1) := by decide +kernel
theorem dX6_was_1 : decode cX6_was 1 = .ok (.istore_n 1, 1) := by decide +kernel
theorem dX6_was_2 : decode cX6_was 2 = .ok (.iconst 0, 1) := by decide +kernel
theorem dX6_was_3 : decode cX6_was 3 = .ok (.istore_n 2, 1) := by decide +kernel
theorem dX6_was_4 : decode cX6_was 4 = .ok (.iload_n 2, 1) := by decide +kernel
theorem dX6_was_5 : decode cX6_was 5 = .ok (.aload_n 0, 1) := by decide +kernel
theorem dX6_was_6 : decode cX6_was 6 = .ok (.getfield 19, 3) := by decide +kernel
theorem dX6_was_9 : decode cX6_was 9 = .ok (.getfield 68, 3) := by decide +kernel
theorem dX6_was_12 : decode cX6_was 12 = .ok (.if_icmp .ge 30, 3) := by decide +kernel
theorem dX6_was_15 : decode cX6_was 15 = .ok (.aload_n 0, 1) := by decide +kernel
theorem dX6_was_16 : decode cX6_was 16 = .ok (.getfield 33, 3) := by decide +kernel
theorem dX6_was_19 : decode cX6_was 19 = .ok (.aload_n 0, 1) := by decide +kernel
theorem dX6_was_20 : decode cX6_was 20 = .ok (.getfield 19, 3) := by decide +kernel
theorem dX6_was_23 : decode cX6_was 23 = .ok (.iload_n 2, 1) := by decide +kernel
theorem dX6_was_24 : decode cX6_was 24 = .ok (.invokevirtual 211, 3) := by decide +kernel
theorem dX6_was_27 : decode cX6_was 27 = .ok (.ifCond .eq 9, 3) := by decide +kernel
theorem dX6_was_30 : decode cX6_was 30 = .ok (.iload_n 1, 1) := by decide +kernel
theorem dX6_was_31 : decode cX6_was 31 = .ok (.iconst 1, 1) := by decide +kernel
theorem dX6_was_32 : decode cX6_was 32 = .ok (.iload_n 2, 1) := by decide +kernel
theorem dX6_was_33 : decode cX6_was 33 = .ok (.ishl, 1) := by decide +kernel
theorem dX6_was_34 : decode cX6_was 34 = .ok (.ior, 1) := by decide +kernel
theorem dX6_was_35 : decode cX6_was 35 = .ok (.istore_n 1, 1) := by decide +kernel
theorem dX6_was_36 : decode cX6_was 36 = .ok (.iinc 2 1, 3) := by decide +kernel
theorem dX6_was_39 : decode cX6_was 39 = .ok (.goto (-35), 3) := by decide +kernel
theorem dX6_was_42 : decode cX6_was 42 = .ok (.iload_n 1, 1) := by decide +kernel
theorem dX6_was_43 : decode cX6_was 43 = .ok (.ireturn, 1) := by decide +kernel
end
section
theorem dX6_stays_0 : decode cX6_stays 0 = .ok (.aload_n 0, 1) := by decide +kernel
theorem dX6_stays_1 : decode cX6_stays 1 = .ok (.iload_n 1, 1) := by decide +kernel
theorem dX6_stays_2 : decode cX6_stays 2 = .ok (.invokevirtual 127, 3) := by decide +kernel
theorem dX6_stays_5 : decode cX6_stays 5 = .ok (.ifCond .eq 11, 3) := by decide +kernel
theorem dX6_stays_8 : decode cX6_stays 8 = .ok (.aload_n 0, 1) := by decide +kernel
theorem dX6_stays_9 : decode cX6_stays 9 = .ok (.iload_n 2, 1) := by decide +kernel
theorem dX6_stays_10 : decode cX6_stays 10 = .ok (.invokevirtual 99, 3) := by decide +kernel
theorem dX6_stays_13 : decode cX6_stays 13 = .ok (.ifCond .ne 6, 3) := by decide +kernel
theorem dX6_stays_16 : decode cX6_stays 16 = .ok (.bipush (-2), 2) := by decide +kernel
theorem dX6_stays_18 : decode cX6_stays 18 = .ok (.ireturn, 1) := by decide +kernel
theorem dX6_stays_19 : decode cX6_stays 19 = .ok (.iload_n 3, 1) := by decide +kernel
theorem dX6_stays_20 : decode cX6_stays 20 = .ok (.ifCond .lt 20, 3) := by decide +kernel
theorem dX6_stays_23 : decode cX6_stays 23 = .ok (.iload_n 3, 1) := by decide +kernel
theorem dX6_stays_24 : decode cX6_stays 24 = .ok (.bipush 10, 2) := by decide +kernel
theorem dX6_stays_26 : decode cX6_stays 26 = .ok (.if_icmp .gt 14, 3) := by decide +kernel
theorem dX6_stays_29 : decode cX6_stays 29 = .ok (.iload 4, 2) := by decide +kernel
theorem dX6_stays_31 : decode cX6_stays 31 = .ok (.ifCond .lt 9, 3) := by decide +kernel
theorem dX6_stays_34 : decode cX6_stays 34 = .ok (.iload 4, 2) := by decide +kernel
theorem dX6_stays_36 : decode cX6_stays 36 = .ok (.iconst 1, 1) := by decide +kernel
theorem dX6_stays_37 : decode cX6_stays 37 = .ok (.if_icmp .le 6, 3) := by decide +kernel
theorem dX6_stays_40 : decode cX6_stays 40 = .ok (.bipush (-3), 2) := by decide +kernel
theorem dX6_stays_42 : decode cX6_stays 42 = .ok (.ireturn, 1) := by decide +kernel
theorem dX6_stays_43 : decode cX6_stays 43 = .ok (.aload_n 0, 1) := by decide +kernel
theorem dX6_stays_44 : decode cX6_stays 44 = .ok (.iload_n 2, 1) := by decide +kernel
theorem dX6_stays_45 : decode cX6_stays 45 = .ok (.invokevirtual 181, 3) := by decide +kernel
theorem dX6_stays_48 : decode cX6_stays 48 = .ok (.istore 5, 2) := by decide +kernel
theorem dX6_stays_50 : decode cX6_stays 50 = .ok (.aload_n 0, 1) := by decide +kernel
theorem dX6_stays_51 : decode cX6_stays 51 = .ok (.iload_n 2, 1) := by decide +kernel
theorem dX6_stays_52 : decode cX6_stays 52 = .ok (.invokevirtual 184, 3) := by decide +kernel
theorem dX6_stays_55 : decode cX6_stays 55 = .ok (.istore 6, 2) := by decide +kernel
theorem dX6_stays_57 : decode cX6_stays 57 = .ok (.iconst 0, 1) := by decide +kernel
theorem dX6_stays_58 : decode cX6_stays 58 = .ok (.istore 7, 2) := by decide +kernel
theorem dX6_stays_60 : decode cX6_stays 60 = .ok (.iconst 0, 1) := by decide +kernel
theorem dX6_stays_61 : decode cX6_stays 61 = .ok (.istore 8, 2) := by decide +kernel
theorem dX6_stays_63 : decode cX6_stays 63 = .ok (.iload 8, 2) := by decide +kernel
theorem dX6_stays_65 : decode cX6_stays 65 = .ok (.bipush 64, 2) := by decide +kernel
theorem dX6_stays_67 : decode cX6_stays 67 = .ok (.if_icmp .ge 37, 3) := by decide +kernel
theorem dX6_stays_70 : decode cX6_stays 70 = .ok (.aload_n 0, 1) := by decide +kernel
theorem dX6_stays_71 : decode cX6_stays 71 = .ok (.iload_n 1, 1) := by decide +kernel
theorem dX6_stays_72 : decode cX6_stays 72 = .ok (.iload_n 2, 1) := by decide +kernel
theorem dX6_stays_73 : decode cX6_stays 73 = .ok (.iload 8, 2) := by decide +kernel
theorem dX6_stays_75 : decode cX6_stays 75 = .ok (.iload 5, 2) := by decide +kernel
theorem dX6_stays_77 : decode cX6_stays 77 = .ok (.iand, 1) := by decide +kernel
theorem dX6_stays_78 : decode cX6_stays 78 = .ok (.iload 6, 2) := by decide +kernel
theorem dX6_stays_80 : decode cX6_stays 80 = .ok (.invokevirtual 187, 3) := by decide +kernel
theorem dX6_stays_83 : decode cX6_stays 83 = .ok (.iconst 2, 1) := by decide +kernel
theorem dX6_stays_84 : decode cX6_stays 84 = .ok (.if_icmp .lt 14, 3) := by decide +kernel
theorem dX6_stays_87 : decode cX6_stays 87 = .ok (.iload 7, 2) := by decide +kernel
theorem dX6_stays_89 : decode cX6_stays 89 = .ok (.iload 8, 2) := by decide +kernel
theorem dX6_stays_91 : decode cX6_stays 91 = .ok (.iload_n 3, 1) := by decide +kernel
theorem dX6_stays_92 : decode cX6_stays 92 = .ok (.invokestatic 215, 3) := by decide +kernel
theorem dX6_stays_95 : decode cX6_stays 95 = .ok (.iadd, 1) := by decide +kernel
theorem dX6_stays_96 : decode cX6_stays 96 = .ok (.istore 7, 2) := by decide +kernel
theorem dX6_stays_98 : decode cX6_stays 98 = .ok (.iinc 8 1, 3) := by decide +kernel
theorem dX6_stays_101 : decode cX6_stays 101 = .ok (.goto (-38), 3) := by decide +kernel
theorem dX6_stays_104 : decode cX6_stays 104 = .ok (.bipush 10, 2) := by decide +kernel
theorem dX6_stays_106 : decode cX6_stays 106 = .ok (.bipush 6, 2) := by decide +kernel
theorem dX6_stays_108 : decode cX6_stays 108 = .ok (.invokestatic 218, 3) := by decide +kernel
theorem dX6_stays_111 : decode cX6_stays 111 = .ok (.istore 8, 2) := by decide +kernel
theorem dX6_stays_113 : decode cX6_stays 113 = .ok (.iconst 1, 1) := by decide +kernel
theorem dX6_stays_114 : decode cX6_stays 114 = .ok (.iload 7, 2) := by decide +kernel
theorem dX6_stays_116 : decode cX6_stays 116 = .ok (.iload 8, 2) := by decide +kernel
theorem dX6_stays_118 : decode cX6_stays 118 = .ok (.invokestatic 221, 3) := by decide +kernel
theorem dX6_stays_121 : decode cX6_stays 121 = .ok (.invokestatic 200, 3) := by decide +kernel
theorem dX6_stays_124 : decode cX6_stays 124 = .ok (.istore 9, 2) := by decide +kernel
theorem dX6_stays_126 : decode cX6_stays 126 = .ok (.iload 4, 2) := by decide +kernel
theorem dX6_stays_128 : decode cX6_stays 128 = .ok (.ifCond .ne 11, 3) := by decide +kernel
theorem dX6_stays_131 : decode cX6_stays 131 = .ok (.iload 7, 2) := by decide +kernel
theorem dX6_stays_133 : decode cX6_stays 133 = .ok (.iload 9, 2) := by decide +kernel
theorem dX6_stays_135 : decode cX6_stays 135 = .ok (.idiv, 1) := by decide +kernel
theorem dX6_stays_136 : decode cX6_stays 136 = .ok (.goto 8, 3) := by decide +kernel
theorem dX6_stays_139 : decode cX6_stays 139 = .ok (.iload 8, 2) := by decide +kernel
theorem dX6_stays_141 : decode cX6_stays 141 = .ok (.iload 9, 2) := by decide +kernel
theorem dX6_stays_143 : decode cX6_stays 143 = .ok (.idiv, 1) := by decide +kernel
theorem dX6_stays_144 : decode cX6_stays 144 = .ok (.ireturn, 1) := by decide +kernel
theorem dX6_count_0 : decode cX6_count 0 = .ok (.iload_n 1, 1) := by decide +kernel
theorem dX6_count_1 : decode cX6_count 1 = .ok (.tableswitch 114 0 8 #[51, 59, 67, 75, 83, 88, 93, 101, 106], 51) := by decide +kernel
theorem dX6_count_52 : decode cX6_count 52 = .ok (.aload_n 0, 1) := by decide +kernel
theorem dX6_count_53 : decode cX6_count 53 = .ok (.getfield 19, 3) := by decide +kernel
theorem dX6_count_56 : decode cX6_count 56 = .ok (.getfield 194, 3) := by decide +kernel
theorem dX6_count_59 : decode cX6_count 59 = .ok (.ireturn, 1) := by decide +kernel
theorem dX6_count_60 : decode cX6_count 60 = .ok (.aload_n 0, 1) := by decide +kernel
theorem dX6_count_61 : decode cX6_count 61 = .ok (.getfield 19, 3) := by decide +kernel
theorem dX6_count_64 : decode cX6_count 64 = .ok (.getfield 68, 3) := by decide +kernel
theorem dX6_count_67 : decode cX6_count 67 = .ok (.ireturn, 1) := by decide +kernel
theorem dX6_count_68 : decode cX6_count 68 = .ok (.aload_n 0, 1) := by decide +kernel
theorem dX6_count_69 : decode cX6_count 69 = .ok (.getfield 19, 3) := by decide +kernel
theorem dX6_count_72 : decode cX6_count 72 = .ok (.getfield 71, 3) := by decide +kernel
theorem dX6_count_75 : decode cX6_count 75 = .ok (.ireturn, 1) := by decide +kernel
theorem dX6_count_76 : decode cX6_count 76 = .ok (.aload_n 0, 1) := by decide +kernel
theorem dX6_count_77 : decode cX6_count 77 = .ok (.getfield 26, 3) := by decide +kernel
theorem dX6_count_80 : decode cX6_count 80 = .ok (.invokevirtual 156, 3) := by decide +kernel
theorem dX6_count_83 : decode cX6_count 83 = .ok (.ireturn, 1) := by decide +kernel
theorem dX6_count_84 : decode cX6_count 84 = .ok (.aload_n 0, 1) := by decide +kernel
theorem dX6_count_85 : decode cX6_count 85 = .ok (.invokevirtual 224, 3) := by decide +kernel
theorem dX6_count_88 : decode cX6_count 88 = .ok (.ireturn, 1) := by decide +kernel
theorem dX6_count_89 : decode cX6_count 89 = .ok (.aload_n 0, 1) := by decide +kernel
theorem dX6_count_90 : decode cX6_count 90 = .ok (.invokevirtual 227, 3) := by decide +kernel
theorem dX6_count_93 : decode cX6_count 93 = .ok (.ireturn, 1) := by decide +kernel
theorem dX6_count_94 : decode cX6_count 94 = .ok (.aload_n 0, 1) := by decide +kernel
theorem dX6_count_95 : decode cX6_count 95 = .ok (.getfield 33, 3) := by decide +kernel
theorem dX6_count_98 : decode cX6_count 98 = .ok (.getfield 205, 3) := by decide +kernel
theorem dX6_count_101 : decode cX6_count 101 = .ok (.ireturn, 1) := by decide +kernel
theorem dX6_count_102 : decode cX6_count 102 = .ok (.aload_n 0, 1) := by decide +kernel
theorem dX6_count_103 : decode cX6_count 103 = .ok (.getfield 53, 3) := by decide +kernel
theorem dX6_count_106 : decode cX6_count 106 = .ok (.ireturn, 1) := by decide +kernel
theorem dX6_count_107 : decode cX6_count 107 = .ok (.aload_n 0, 1) := by decide +kernel
theorem dX6_count_108 : decode cX6_count 108 = .ok (.getfield 10, 3) := by decide +kernel
theorem dX6_count_111 : decode cX6_count 111 = .ok (.getfield 59, 3) := by decide +kernel
theorem dX6_count_114 : decode cX6_count 114 = .ok (.ireturn, 1) := by decide +kernel
theorem dX6_count_115 : decode cX6_count 115 = .ok (.bipush (-3), 2) := by decide +kernel
theorem dX6_count_117 : decode cX6_count 117 = .ok (.ireturn, 1) := by decide +kernel
theorem dX6_isPerson_0 : decode cX6_isPerson 0 = .ok (.iload_n 1, 1) := by decide +kernel
theorem dX6_isPerson_1 : decode cX6_isPerson 1 = .ok (.ifCond .lt 18, 3) := by decide +kernel
theorem dX6_isPerson_4 : decode cX6_isPerson 4 = .ok (.iload_n 1, 1) := by decide +kernel
theorem dX6_isPerson_5 : decode cX6_isPerson 5 = .ok (.aload_n 0, 1) := by decide +kernel
theorem dX6_isPerson_6 : decode cX6_isPerson 6 = .ok (.getfield 19, 3) := by decide +kernel
theorem dX6_isPerson_9 : decode cX6_isPerson 9 = .ok (.getfield 68, 3) := by decide +kernel
theorem dX6_isPerson_12 : decode cX6_isPerson 12 = .ok (.if_icmp .ge 7, 3) := by decide +kernel
theorem dX6_isPerson_15 : decode cX6_isPerson 15 = .ok (.iconst 1, 1) := by decide +kernel
theorem dX6_isPerson_16 : decode cX6_isPerson 16 = .ok (.goto 4, 3) := by decide +kernel
theorem dX6_isPerson_19 : decode cX6_isPerson 19 = .ok (.iconst 0, 1) := by decide +kernel
theorem dX6_isPerson_20 : decode cX6_isPerson 20 = .ok (.ireturn, 1) := by decide +kernel
theorem dX6_isBarber_0 : decode cX6_isBarber 0 = .ok (.iload_n 1, 1) := by decide +kernel
theorem dX6_isBarber_1 : decode cX6_isBarber 1 = .ok (.ifCond .lt 18, 3) := by decide +kernel
theorem dX6_isBarber_4 : decode cX6_isBarber 4 = .ok (.iload_n 1, 1) := by decide +kernel
theorem dX6_isBarber_5 : decode cX6_isBarber 5 = .ok (.aload_n 0, 1) := by decide +kernel
theorem dX6_isBarber_6 : decode cX6_isBarber 6 = .ok (.getfield 19, 3) := by decide +kernel
theorem dX6_isBarber_9 : decode cX6_isBarber 9 = .ok (.getfield 194, 3) := by decide +kernel
theorem dX6_isBarber_12 : decode cX6_isBarber 12 = .ok (.if_icmp .ge 7, 3) := by decide +kernel
theorem dX6_isBarber_15 : decode cX6_isBarber 15 = .ok (.iconst 1, 1) := by decide +kernel
theorem dX6_isBarber_16 : decode cX6_isBarber 16 = .ok (.goto 4, 3) := by decide +kernel
theorem dX6_isBarber_19 : decode cX6_isBarber 19 = .ok (.iconst 0, 1) := by decide +kernel
theorem dX6_isBarber_20 : decode cX6_isBarber 20 = .ok (.ireturn, 1) := by decide +kernel
theorem dX6_isRumour_0 : decode cX6_isRumour 0 = .ok (.iload_n 1, 1) := by decide +kernel
theorem dX6_isRumour_1 : decode cX6_isRumour 1 = .ok (.ifCond .lt 18, 3) := by decide +kernel
theorem dX6_isRumour_4 : decode cX6_isRumour 4 = .ok (.iload_n 1, 1) := by decide +kernel
theorem dX6_isRumour_5 : decode cX6_isRumour 5 = .ok (.aload_n 0, 1) := by decide +kernel
theorem dX6_isRumour_6 : decode cX6_isRumour 6 = .ok (.getfield 19, 3) := by decide +kernel
theorem dX6_isRumour_9 : decode cX6_isRumour 9 = .ok (.getfield 71, 3) := by decide +kernel
theorem dX6_isRumour_12 : decode cX6_isRumour 12 = .ok (.if_icmp .ge 7, 3) := by decide +kernel
theorem dX6_isRumour_15 : decode cX6_isRumour 15 = .ok (.iconst 1, 1) := by decide +kernel
theorem dX6_isRumour_16 : decode cX6_isRumour 16 = .ok (.goto 4, 3) := by decide +kernel
theorem dX6_isRumour_19 : decode cX6_isRumour 19 = .ok (.iconst 0, 1) := by decide +kernel
theorem dX6_isRumour_20 : decode cX6_isRumour 20 = .ok (.ireturn, 1) := by decide +kernel
theorem dX6_isStrip_0 : decode cX6_isStrip 0 = .ok (.iload_n 0, 1) := by decide +kernel
theorem dX6_isStrip_1 : decode cX6_isStrip 1 = .ok (.ifCond .lt 13, 3) := by decide +kernel
theorem dX6_isStrip_4 : decode cX6_isStrip 4 = .ok (.iload_n 0, 1) := by decide +kernel
theorem dX6_isStrip_5 : decode cX6_isStrip 5 = .ok (.bipush 6, 2) := by decide +kernel
theorem dX6_isStrip_7 : decode cX6_isStrip 7 = .ok (.if_icmp .ge 7, 3) := by decide +kernel
theorem dX6_isStrip_10 : decode cX6_isStrip 10 = .ok (.iconst 1, 1) := by decide +kernel
theorem dX6_isStrip_11 : decode cX6_isStrip 11 = .ok (.goto 4, 3) := by decide +kernel
theorem dX6_isStrip_14 : decode cX6_isStrip 14 = .ok (.iconst 0, 1) := by decide +kernel
theorem dX6_isStrip_15 : decode cX6_isStrip 15 = .ok (.ireturn, 1) := by decide +kernel
theorem dX6_isSuch_0 : decode cX6_isSuch 0 = .ok (.iload_n 1, 1) := by decide +kernel
theorem dX6_isSuch_1 : decode cX6_isSuch 1 = .ok (.ifCond .ne 5, 3) := by decide +kernel
theorem dX6_isSuch_4 : decode cX6_isSuch 4 = .ok (.iconst 1, 1) := by decide +kernel
theorem dX6_isSuch_5 : decode cX6_isSuch 5 = .ok (.ireturn, 1) := by decide +kernel
theorem dX6_isSuch_6 : decode cX6_isSuch 6 = .ok (.iload_n 1, 1) := by decide +kernel
theorem dX6_isSuch_7 : decode cX6_isSuch 7 = .ok (.iconst 1, 1) := by decide +kernel
theorem dX6_isSuch_8 : decode cX6_isSuch 8 = .ok (.if_icmp .ne 14, 3) := by decide +kernel
theorem dX6_isSuch_11 : decode cX6_isSuch 11 = .ok (.iload_n 0, 1) := by decide +kernel
theorem dX6_isSuch_12 : decode cX6_isSuch 12 = .ok (.iconst 3, 1) := by decide +kernel
theorem dX6_isSuch_13 : decode cX6_isSuch 13 = .ok (.if_icmp .eq 7, 3) := by decide +kernel
theorem dX6_isSuch_16 : decode cX6_isSuch 16 = .ok (.iconst 1, 1) := by decide +kernel
theorem dX6_isSuch_17 : decode cX6_isSuch 17 = .ok (.goto 4, 3) := by decide +kernel
theorem dX6_isSuch_20 : decode cX6_isSuch 20 = .ok (.iconst 0, 1) := by decide +kernel
theorem dX6_isSuch_21 : decode cX6_isSuch 21 = .ok (.ireturn, 1) := by decide +kernel
theorem dX6_isSuch_22 : decode cX6_isSuch 22 = .ok (.iload_n 0, 1) := by decide +kernel
theorem dX6_isSuch_23 : decode cX6_isSuch 23 = .ok (.iload_n 1, 1) := by decide +kernel
theorem dX6_isSuch_24 : decode cX6_isSuch 24 = .ok (.iconst 1, 1) := by decide +kernel
theorem dX6_isSuch_25 : decode cX6_isSuch 25 = .ok (.isub, 1) := by decide +kernel
theorem dX6_isSuch_26 : decode cX6_isSuch 26 = .ok (.if_icmp .ne 7, 3) := by decide +kernel
theorem dX6_isSuch_29 : decode cX6_isSuch 29 = .ok (.iconst 1, 1) := by decide +kernel
theorem dX6_isSuch_30 : decode cX6_isSuch 30 = .ok (.goto 4, 3) := by decide +kernel
theorem dX6_isSuch_33 : decode cX6_isSuch 33 = .ok (.iconst 0, 1) := by decide +kernel
theorem dX6_isSuch_34 : decode cX6_isSuch 34 = .ok (.ireturn, 1) := by decide +kernel
theorem dX6_allBeards_0 : decode cX6_allBeards 0 = .ok (.iconst 0, 1) := by decide +kernel
theorem dX6_allBeards_1 : decode cX6_allBeards 1 = .ok (.istore_n 1, 1) := by decide +kernel
theorem dX6_allBeards_2 : decode cX6_allBeards 2 = .ok (.iconst 0, 1) := by decide +kernel
theorem dX6_allBeards_3 : decode cX6_allBeards 3 = .ok (.istore_n 2, 1) := by decide +kernel
theorem dX6_allBeards_4 : decode cX6_allBeards 4 = .ok (.iload_n 2, 1) := by decide +kernel
theorem dX6_allBeards_5 : decode cX6_allBeards 5 = .ok (.aload_n 0, 1) := by decide +kernel
theorem dX6_allBeards_6 : decode cX6_allBeards 6 = .ok (.getfield 19, 3) := by decide +kernel
theorem dX6_allBeards_9 : decode cX6_allBeards 9 = .ok (.getfield 68, 3) := by decide +kernel
theorem dX6_allBeards_12 : decode cX6_allBeards 12 = .ok (.if_icmp .ge 20, 3) := by decide +kernel
theorem dX6_allBeards_15 : decode cX6_allBeards 15 = .ok (.iload_n 1, 1) := by decide +kernel
theorem dX6_allBeards_16 : decode cX6_allBeards 16 = .ok (.aload_n 0, 1) := by decide +kernel
theorem dX6_allBeards_17 : decode cX6_allBeards 17 = .ok (.getfield 26, 3) := by decide +kernel
theorem dX6_allBeards_20 : decode cX6_allBeards 20 = .ok (.iload_n 2, 1) := by decide +kernel
theorem dX6_allBeards_21 : decode cX6_allBeards 21 = .ok (.invokevirtual 112, 3) := by decide +kernel
theorem dX6_allBeards_24 : decode cX6_allBeards 24 = .ok (.iadd, 1) := by decide +kernel
theorem dX6_allBeards_25 : decode cX6_allBeards 25 = .ok (.istore_n 1, 1) := by decide +kernel
theorem dX6_allBeards_26 : decode cX6_allBeards 26 = .ok (.iinc 2 1, 3) := by decide +kernel
theorem dX6_allBeards_29 : decode cX6_allBeards 29 = .ok (.goto (-25), 3) := by decide +kernel
theorem dX6_allBeards_32 : decode cX6_allBeards 32 = .ok (.iload_n 1, 1) := by decide +kernel
theorem dX6_allBeards_33 : decode cX6_allBeards 33 = .ok (.ireturn, 1) := by decide +kernel
theorem dX6_allStripsKnown_0 : decode cX6_allStripsKnown 0 = .ok (.iconst 0, 1) := by decide +kernel
theorem dX6_allStripsKnown_1 : decode cX6_allStripsKnown 1 = .ok (.istore_n 1, 1) := by decide +kernel
theorem dX6_allStripsKnown_2 : decode cX6_allStripsKnown 2 = .ok (.iconst 0, 1) := by decide +kernel
theorem dX6_allStripsKnown_3 : decode cX6_allStripsKnown 3 = .ok (.istore_n 2, 1) := by decide +kernel
theorem dX6_allStripsKnown_4 : decode cX6_allStripsKnown 4 = .ok (.iload_n 2, 1) := by decide +kernel
theorem dX6_allStripsKnown_5 : decode cX6_allStripsKnown 5 = .ok (.aload_n 0, 1) := by decide +kernel
theorem dX6_allStripsKnown_6 : decode cX6_allStripsKnown 6 = .ok (.getfield 19, 3) := by decide +kernel
theorem dX6_allStripsKnown_9 : decode cX6_allStripsKnown 9 = .ok (.getfield 194, 3) := by decide +kernel
theorem dX6_allStripsKnown_12 : decode cX6_allStripsKnown 12 = .ok (.if_icmp .ge 43, 3) := by decide +kernel
theorem dX6_allStripsKnown_15 : decode cX6_allStripsKnown 15 = .ok (.iconst 0, 1) := by decide +kernel
theorem dX6_allStripsKnown_16 : decode cX6_allStripsKnown 16 = .ok (.istore_n 3, 1) := by decide +kernel
theorem dX6_allStripsKnown_17 : decode cX6_allStripsKnown 17 = .ok (.iload_n 3, 1) := by decide +kernel
theorem dX6_allStripsKnown_18 : decode cX6_allStripsKnown 18 = .ok (.aload_n 0, 1) := by decide +kernel
theorem dX6_allStripsKnown_19 : decode cX6_allStripsKnown 19 = .ok (.getfield 19, 3) := by decide +kernel
theorem dX6_allStripsKnown_22 : decode cX6_allStripsKnown 22 = .ok (.getfield 68, 3) := by decide +kernel
theorem dX6_allStripsKnown_25 : decode cX6_allStripsKnown 25 = .ok (.if_icmp .ge 24, 3) := by decide +kernel
theorem dX6_allStripsKnown_28 : decode cX6_allStripsKnown 28 = .ok (.iload_n 1, 1) := by decide +kernel
theorem dX6_allStripsKnown_29 : decode cX6_allStripsKnown 29 = .ok (.aload_n 0, 1) := by decide +kernel
theorem dX6_allStripsKnown_30 : decode cX6_allStripsKnown 30 = .ok (.getfield 26, 3) := by decide +kernel
theorem dX6_allStripsKnown_33 : decode cX6_allStripsKnown 33 = .ok (.iload_n 2, 1) := by decide +kernel
theorem dX6_allStripsKnown_34 : decode cX6_allStripsKnown 34 = .ok (.iload_n 3, 1) := by decide +kernel
theorem dX6_allStripsKnown_35 : decode cX6_allStripsKnown 35 = .ok (.invokevirtual 130, 3) := by decide +kernel
theorem dX6_allStripsKnown_38 : decode cX6_allStripsKnown 38 = .ok (.invokestatic 163, 3) := by decide +kernel
theorem dX6_allStripsKnown_41 : decode cX6_allStripsKnown 41 = .ok (.iadd, 1) := by decide +kernel
theorem dX6_allStripsKnown_42 : decode cX6_allStripsKnown 42 = .ok (.istore_n 1, 1) := by decide +kernel
theorem dX6_allStripsKnown_43 : decode cX6_allStripsKnown 43 = .ok (.iinc 3 1, 3) := by decide +kernel
theorem dX6_allStripsKnown_46 : decode cX6_allStripsKnown 46 = .ok (.goto (-29), 3) := by decide +kernel
theorem dX6_allStripsKnown_49 : decode cX6_allStripsKnown 49 = .ok (.iinc 2 1, 3) := by decide +kernel
theorem dX6_allStripsKnown_52 : decode cX6_allStripsKnown 52 = .ok (.goto (-48), 3) := by decide +kernel
theorem dX6_allStripsKnown_55 : decode cX6_allStripsKnown 55 = .ok (.iload_n 1, 1) := by decide +kernel
theorem dX6_allStripsKnown_56 : decode cX6_allStripsKnown 56 = .ok (.ireturn, 1) := by decide +kernel
theorem dX6_telling_0 : decode cX6_telling 0 = .ok (.iload_n 0, 1) := by decide +kernel
theorem dX6_telling_1 : decode cX6_telling 1 = .ok (.tableswitch 62 1 3 #[27, 38, 49], 27) := by decide +kernel
theorem dX6_telling_28 : decode cX6_telling 28 = .ok (.iload_n 2, 1) := by decide +kernel
theorem dX6_telling_29 : decode cX6_telling 29 = .ok (.iconst 3, 1) := by decide +kernel
theorem dX6_telling_30 : decode cX6_telling 30 = .ok (.if_icmp .ge 7, 3) := by decide +kernel
theorem dX6_telling_33 : decode cX6_telling 33 = .ok (.iconst (-1), 1) := by decide +kernel
theorem dX6_telling_34 : decode cX6_telling 34 = .ok (.goto 4, 3) := by decide +kernel
theorem dX6_telling_37 : decode cX6_telling 37 = .ok (.iload_n 3, 1) := by decide +kernel
theorem dX6_telling_38 : decode cX6_telling 38 = .ok (.ireturn, 1) := by decide +kernel
theorem dX6_telling_39 : decode cX6_telling 39 = .ok (.iload_n 1, 1) := by decide +kernel
theorem dX6_telling_40 : decode cX6_telling 40 = .ok (.iconst 2, 1) := by decide +kernel
theorem dX6_telling_41 : decode cX6_telling 41 = .ok (.if_icmp .ne 7, 3) := by decide +kernel
theorem dX6_telling_44 : decode cX6_telling 44 = .ok (.iconst (-1), 1) := by decide +kernel
theorem dX6_telling_45 : decode cX6_telling 45 = .ok (.goto 4, 3) := by decide +kernel
theorem dX6_telling_48 : decode cX6_telling 48 = .ok (.iload_n 3, 1) := by decide +kernel
theorem dX6_telling_49 : decode cX6_telling 49 = .ok (.ireturn, 1) := by decide +kernel
theorem dX6_telling_50 : decode cX6_telling 50 = .ok (.iload_n 2, 1) := by decide +kernel
theorem dX6_telling_51 : decode cX6_telling 51 = .ok (.iconst 5, 1) := by decide +kernel
theorem dX6_telling_52 : decode cX6_telling 52 = .ok (.if_icmp .ge 7, 3) := by decide +kernel
theorem dX6_telling_55 : decode cX6_telling 55 = .ok (.iload_n 3, 1) := by decide +kernel
theorem dX6_telling_56 : decode cX6_telling 56 = .ok (.goto 6, 3) := by decide +kernel
theorem dX6_telling_59 : decode cX6_telling 59 = .ok (.iconst 1, 1) := by decide +kernel
theorem dX6_telling_60 : decode cX6_telling 60 = .ok (.iload_n 3, 1) := by decide +kernel
theorem dX6_telling_61 : decode cX6_telling 61 = .ok (.isub, 1) := by decide +kernel
theorem dX6_telling_62 : decode cX6_telling 62 = .ok (.ireturn, 1) := by decide +kernel
theorem dX6_telling_63 : decode cX6_telling 63 = .ok (.iload_n 3, 1) := by decide +kernel
theorem dX6_telling_64 : decode cX6_telling 64 = .ok (.ireturn, 1) := by decide +kernel
theorem dX6_tellsNow_0 : decode cX6_tellsNow 0 = .ok (.aload_n 0, 1) := by decide +kernel
theorem dX6_tellsNow_1 : decode cX6_tellsNow 1 = .ok (.getfield 19, 3) := by decide +kernel
theorem dX6_tellsNow_4 : decode cX6_tellsNow 4 = .ok (.iload_n 1, 1) := by decide +kernel
theorem dX6_tellsNow_5 : decode cX6_tellsNow 5 = .ok (.iload_n 2, 1) := by decide +kernel
theorem dX6_tellsNow_6 : decode cX6_tellsNow 6 = .ok (.aload_n 0, 1) := by decide +kernel
theorem dX6_tellsNow_7 : decode cX6_tellsNow 7 = .ok (.getfield 26, 3) := by decide +kernel
theorem dX6_tellsNow_10 : decode cX6_tellsNow 10 = .ok (.iload_n 1, 1) := by decide +kernel
theorem dX6_tellsNow_11 : decode cX6_tellsNow 11 = .ok (.iload_n 2, 1) := by decide +kernel
theorem dX6_tellsNow_12 : decode cX6_tellsNow 12 = .ok (.invokevirtual 118, 3) := by decide +kernel
theorem dX6_tellsNow_15 : decode cX6_tellsNow 15 = .ok (.invokevirtual 230, 3) := by decide +kernel
theorem dX6_tellsNow_18 : decode cX6_tellsNow 18 = .ok (.ireturn, 1) := by decide +kernel
theorem dX6_stripsTelling_0 : decode cX6_stripsTelling 0 = .ok (.iconst 0, 1) := by decide +kernel
theorem dX6_stripsTelling_1 : decode cX6_stripsTelling 1 = .ok (.istore_n 2, 1) := by decide +kernel
theorem dX6_stripsTelling_2 : decode cX6_stripsTelling 2 = .ok (.iconst 0, 1) := by decide +kernel
theorem dX6_stripsTelling_3 : decode cX6_stripsTelling 3 = .ok (.istore_n 3, 1) := by decide +kernel
theorem dX6_stripsTelling_4 : decode cX6_stripsTelling 4 = .ok (.iload_n 3, 1) := by decide +kernel
theorem dX6_stripsTelling_5 : decode cX6_stripsTelling 5 = .ok (.bipush 6, 2) := by decide +kernel
theorem dX6_stripsTelling_7 : decode cX6_stripsTelling 7 = .ok (.if_icmp .ge 25, 3) := by decide +kernel
theorem dX6_stripsTelling_10 : decode cX6_stripsTelling 10 = .ok (.aload_n 0, 1) := by decide +kernel
theorem dX6_stripsTelling_11 : decode cX6_stripsTelling 11 = .ok (.iload_n 1, 1) := by decide +kernel
theorem dX6_stripsTelling_12 : decode cX6_stripsTelling 12 = .ok (.iload_n 3, 1) := by decide +kernel
theorem dX6_stripsTelling_13 : decode cX6_stripsTelling 13 = .ok (.invokevirtual 143, 3) := by decide +kernel
theorem dX6_stripsTelling_16 : decode cX6_stripsTelling 16 = .ok (.iconst (-1), 1) := by decide +kernel
theorem dX6_stripsTelling_17 : decode cX6_stripsTelling 17 = .ok (.if_icmp .eq 9, 3) := by decide +kernel
theorem dX6_stripsTelling_20 : decode cX6_stripsTelling 20 = .ok (.iload_n 2, 1) := by decide +kernel
theorem dX6_stripsTelling_21 : decode cX6_stripsTelling 21 = .ok (.iconst 1, 1) := by decide +kernel
theorem dX6_stripsTelling_22 : decode cX6_stripsTelling 22 = .ok (.iload_n 3, 1) := by decide +kernel
theorem dX6_stripsTelling_23 : decode cX6_stripsTelling 23 = .ok (.ishl, 1) := by decide +kernel
theorem dX6_stripsTelling_24 : decode cX6_stripsTelling 24 = .ok (.ior, 1) := by decide +kernel
theorem dX6_stripsTelling_25 : decode cX6_stripsTelling 25 = .ok (.istore_n 2, 1) := by decide +kernel
theorem dX6_stripsTelling_26 : decode cX6_stripsTelling 26 = .ok (.iinc 3 1, 3) := by decide +kernel
theorem dX6_stripsTelling_29 : decode cX6_stripsTelling 29 = .ok (.goto (-25), 3) := by decide +kernel
theorem dX6_stripsTelling_32 : decode cX6_stripsTelling 32 = .ok (.iload_n 2, 1) := by decide +kernel
theorem dX6_stripsTelling_33 : decode cX6_stripsTelling 33 = .ok (.ireturn, 1) := by decide +kernel
theorem dX6_partsTold_0 : decode cX6_partsTold 0 = .ok (.iconst 0, 1) := by decide +kernel
theorem dX6_partsTold_1 : decode cX6_partsTold 1 = .ok (.istore_n 2, 1) := by decide +kernel
theorem dX6_partsTold_2 : decode cX6_partsTold 2 = .ok (.iconst 0, 1) := by decide +kernel
theorem dX6_partsTold_3 : decode cX6_partsTold 3 = .ok (.istore_n 3, 1) := by decide +kernel
theorem dX6_partsTold_4 : decode cX6_partsTold 4 = .ok (.iload_n 3, 1) := by decide +kernel
theorem dX6_partsTold_5 : decode cX6_partsTold 5 = .ok (.bipush 6, 2) := by decide +kernel
theorem dX6_partsTold_7 : decode cX6_partsTold 7 = .ok (.if_icmp .ge 25, 3) := by decide +kernel
theorem dX6_partsTold_10 : decode cX6_partsTold 10 = .ok (.aload_n 0, 1) := by decide +kernel
theorem dX6_partsTold_11 : decode cX6_partsTold 11 = .ok (.iload_n 1, 1) := by decide +kernel
theorem dX6_partsTold_12 : decode cX6_partsTold 12 = .ok (.iload_n 3, 1) := by decide +kernel
theorem dX6_partsTold_13 : decode cX6_partsTold 13 = .ok (.invokevirtual 143, 3) := by decide +kernel
theorem dX6_partsTold_16 : decode cX6_partsTold 16 = .ok (.iconst 1, 1) := by decide +kernel
theorem dX6_partsTold_17 : decode cX6_partsTold 17 = .ok (.if_icmp .ne 9, 3) := by decide +kernel
theorem dX6_partsTold_20 : decode cX6_partsTold 20 = .ok (.iload_n 2, 1) := by decide +kernel
theorem dX6_partsTold_21 : decode cX6_partsTold 21 = .ok (.iconst 1, 1) := by decide +kernel
theorem dX6_partsTold_22 : decode cX6_partsTold 22 = .ok (.iload_n 3, 1) := by decide +kernel
theorem dX6_partsTold_23 : decode cX6_partsTold 23 = .ok (.ishl, 1) := by decide +kernel
theorem dX6_partsTold_24 : decode cX6_partsTold 24 = .ok (.ior, 1) := by decide +kernel
theorem dX6_partsTold_25 : decode cX6_partsTold 25 = .ok (.istore_n 2, 1) := by decide +kernel
theorem dX6_partsTold_26 : decode cX6_partsTold 26 = .ok (.iinc 3 1, 3) := by decide +kernel
theorem dX6_partsTold_29 : decode cX6_partsTold 29 = .ok (.goto (-25), 3) := by decide +kernel
theorem dX6_partsTold_32 : decode cX6_partsTold 32 = .ok (.iload_n 2, 1) := by decide +kernel
theorem dX6_partsTold_33 : decode cX6_partsTold 33 = .ok (.ireturn, 1) := by decide +kernel
theorem dX6_fittingBehind_0 : decode cX6_fittingBehind 0 = .ok (.aload_n 0, 1) := by decide +kernel
theorem dX6_fittingBehind_1 : decode cX6_fittingBehind 1 = .ok (.getfield 26, 3) := by decide +kernel
theorem dX6_fittingBehind_4 : decode cX6_fittingBehind 4 = .ok (.iload_n 1, 1) := by decide +kernel
theorem dX6_fittingBehind_5 : decode cX6_fittingBehind 5 = .ok (.iload_n 2, 1) := by decide +kernel
theorem dX6_fittingBehind_6 : decode cX6_fittingBehind 6 = .ok (.invokevirtual 130, 3) := by decide +kernel
theorem dX6_fittingBehind_9 : decode cX6_fittingBehind 9 = .ok (.iload_n 3, 1) := by decide +kernel
theorem dX6_fittingBehind_10 : decode cX6_fittingBehind 10 = .ok (.ior, 1) := by decide +kernel
theorem dX6_fittingBehind_11 : decode cX6_fittingBehind 11 = .ok (.istore 5, 2) := by decide +kernel
theorem dX6_fittingBehind_13 : decode cX6_fittingBehind 13 = .ok (.aload_n 0, 1) := by decide +kernel
theorem dX6_fittingBehind_14 : decode cX6_fittingBehind 14 = .ok (.getfield 26, 3) := by decide +kernel
theorem dX6_fittingBehind_17 : decode cX6_fittingBehind 17 = .ok (.iload_n 1, 1) := by decide +kernel
theorem dX6_fittingBehind_18 : decode cX6_fittingBehind 18 = .ok (.iload_n 2, 1) := by decide +kernel
theorem dX6_fittingBehind_19 : decode cX6_fittingBehind 19 = .ok (.invokevirtual 133, 3) := by decide +kernel
theorem dX6_fittingBehind_22 : decode cX6_fittingBehind 22 = .ok (.iload_n 3, 1) := by decide +kernel
theorem dX6_fittingBehind_23 : decode cX6_fittingBehind 23 = .ok (.iload 4, 2) := by decide +kernel
theorem dX6_fittingBehind_25 : decode cX6_fittingBehind 25 = .ok (.invokestatic 234, 3) := by decide +kernel
theorem dX6_fittingBehind_28 : decode cX6_fittingBehind 28 = .ok (.istore 6, 2) := by decide +kernel
theorem dX6_fittingBehind_30 : decode cX6_fittingBehind 30 = .ok (.aload_n 0, 1) := by decide +kernel
theorem dX6_fittingBehind_31 : decode cX6_fittingBehind 31 = .ok (.getfield 19, 3) := by decide +kernel
theorem dX6_fittingBehind_34 : decode cX6_fittingBehind 34 = .ok (.iload 5, 2) := by decide +kernel
theorem dX6_fittingBehind_36 : decode cX6_fittingBehind 36 = .ok (.iload 6, 2) := by decide +kernel
theorem dX6_fittingBehind_38 : decode cX6_fittingBehind 38 = .ok (.invokevirtual 136, 3) := by decide +kernel
theorem dX6_fittingBehind_41 : decode cX6_fittingBehind 41 = .ok (.invokestatic 163, 3) := by decide +kernel
theorem dX6_fittingBehind_44 : decode cX6_fittingBehind 44 = .ok (.ireturn, 1) := by decide +kernel
theorem dX6_fittingTogether_0 : decode cX6_fittingTogether 0 = .ok (.iconst 0, 1) := by decide +kernel
theorem dX6_fittingTogether_1 : decode cX6_fittingTogether 1 = .ok (.istore_n 3, 1) := by decide +kernel
theorem dX6_fittingTogether_2 : decode cX6_fittingTogether 2 = .ok (.iconst 0, 1) := by decide +kernel
theorem dX6_fittingTogether_3 : decode cX6_fittingTogether 3 = .ok (.istore 4, 2) := by decide +kernel
theorem dX6_fittingTogether_5 : decode cX6_fittingTogether 5 = .ok (.iconst 0, 1) := by decide +kernel
theorem dX6_fittingTogether_6 : decode cX6_fittingTogether 6 = .ok (.istore 5, 2) := by decide +kernel
theorem dX6_fittingTogether_8 : decode cX6_fittingTogether 8 = .ok (.iload 5, 2) := by decide +kernel
theorem dX6_fittingTogether_10 : decode cX6_fittingTogether 10 = .ok (.aload_n 0, 1) := by decide +kernel
theorem dX6_fittingTogether_11 : decode cX6_fittingTogether 11 = .ok (.getfield 19, 3) := by decide +kernel
theorem dX6_fittingTogether_14 : decode cX6_fittingTogether 14 = .ok (.getfield 194, 3) := by decide +kernel
theorem dX6_fittingTogether_17 : decode cX6_fittingTogether 17 = .ok (.if_icmp .ge 58, 3) := by decide +kernel
theorem dX6_fittingTogether_20 : decode cX6_fittingTogether 20 = .ok (.iload_n 1, 1) := by decide +kernel
theorem dX6_fittingTogether_21 : decode cX6_fittingTogether 21 = .ok (.iload 5, 2) := by decide +kernel
theorem dX6_fittingTogether_23 : decode cX6_fittingTogether 23 = .ok (.invokestatic 178, 3) := by decide +kernel
theorem dX6_fittingTogether_26 : decode cX6_fittingTogether 26 = .ok (.ifCond .eq 43, 3) := by decide +kernel
theorem dX6_fittingTogether_29 : decode cX6_fittingTogether 29 = .ok (.aload_n 0, 1) := by decide +kernel
theorem dX6_fittingTogether_30 : decode cX6_fittingTogether 30 = .ok (.getfield 26, 3) := by decide +kernel
theorem dX6_fittingTogether_33 : decode cX6_fittingTogether 33 = .ok (.iload 5, 2) := by decide +kernel
theorem dX6_fittingTogether_35 : decode cX6_fittingTogether 35 = .ok (.iload_n 2, 1) := by decide +kernel
theorem dX6_fittingTogether_36 : decode cX6_fittingTogether 36 = .ok (.invokevirtual 130, 3) := by decide +kernel
theorem dX6_fittingTogether_39 : decode cX6_fittingTogether 39 = .ok (.iload_n 3, 1) := by decide +kernel
theorem dX6_fittingTogether_40 : decode cX6_fittingTogether 40 = .ok (.iconst (-1), 1) := by decide +kernel
theorem dX6_fittingTogether_41 : decode cX6_fittingTogether 41 = .ok (.ixor, 1) := by decide +kernel
theorem dX6_fittingTogether_42 : decode cX6_fittingTogether 42 = .ok (.iand, 1) := by decide +kernel
theorem dX6_fittingTogether_43 : decode cX6_fittingTogether 43 = .ok (.istore 6, 2) := by decide +kernel
theorem dX6_fittingTogether_45 : decode cX6_fittingTogether 45 = .ok (.iload 4, 2) := by decide +kernel
theorem dX6_fittingTogether_47 : decode cX6_fittingTogether 47 = .ok (.iload 6, 2) := by decide +kernel
theorem dX6_fittingTogether_49 : decode cX6_fittingTogether 49 = .ok (.aload_n 0, 1) := by decide +kernel
theorem dX6_fittingTogether_50 : decode cX6_fittingTogether 50 = .ok (.getfield 26, 3) := by decide +kernel
theorem dX6_fittingTogether_53 : decode cX6_fittingTogether 53 = .ok (.iload 5, 2) := by decide +kernel
theorem dX6_fittingTogether_55 : decode cX6_fittingTogether 55 = .ok (.iload_n 2, 1) := by decide +kernel
theorem dX6_fittingTogether_56 : decode cX6_fittingTogether 56 = .ok (.invokevirtual 133, 3) := by decide +kernel
theorem dX6_fittingTogether_59 : decode cX6_fittingTogether 59 = .ok (.invokestatic 234, 3) := by decide +kernel
theorem dX6_fittingTogether_62 : decode cX6_fittingTogether 62 = .ok (.istore 4, 2) := by decide +kernel
theorem dX6_fittingTogether_64 : decode cX6_fittingTogether 64 = .ok (.iload_n 3, 1) := by decide +kernel
theorem dX6_fittingTogether_65 : decode cX6_fittingTogether 65 = .ok (.iload 6, 2) := by decide +kernel
theorem dX6_fittingTogether_67 : decode cX6_fittingTogether 67 = .ok (.ior, 1) := by decide +kernel
theorem dX6_fittingTogether_68 : decode cX6_fittingTogether 68 = .ok (.istore_n 3, 1) := by decide +kernel
theorem dX6_fittingTogether_69 : decode cX6_fittingTogether 69 = .ok (.iinc 5 1, 3) := by decide +kernel
theorem dX6_fittingTogether_72 : decode cX6_fittingTogether 72 = .ok (.goto (-64), 3) := by decide +kernel
theorem dX6_fittingTogether_75 : decode cX6_fittingTogether 75 = .ok (.aload_n 0, 1) := by decide +kernel
theorem dX6_fittingTogether_76 : decode cX6_fittingTogether 76 = .ok (.getfield 19, 3) := by decide +kernel
theorem dX6_fittingTogether_79 : decode cX6_fittingTogether 79 = .ok (.iload_n 3, 1) := by decide +kernel
theorem dX6_fittingTogether_80 : decode cX6_fittingTogether 80 = .ok (.iload 4, 2) := by decide +kernel
theorem dX6_fittingTogether_82 : decode cX6_fittingTogether 82 = .ok (.invokevirtual 136, 3) := by decide +kernel
theorem dX6_fittingTogether_85 : decode cX6_fittingTogether 85 = .ok (.ireturn, 1) := by decide +kernel
theorem dX6_rememberForUndo_0 : decode cX6_rememberForUndo 0 = .ok (.aload_n 0, 1) := by decide +kernel
theorem dX6_rememberForUndo_1 : decode cX6_rememberForUndo 1 = .ok (.aload_n 0, 1) := by decide +kernel
theorem dX6_rememberForUndo_2 : decode cX6_rememberForUndo 2 = .ok (.getfield 49, 3) := by decide +kernel
theorem dX6_rememberForUndo_5 : decode cX6_rememberForUndo 5 = .ok (.bipush 7, 2) := by decide +kernel
theorem dX6_rememberForUndo_7 : decode cX6_rememberForUndo 7 = .ok (.if_icmp .lt 7, 3) := by decide +kernel
theorem dX6_rememberForUndo_10 : decode cX6_rememberForUndo 10 = .ok (.iconst 0, 1) := by decide +kernel
theorem dX6_rememberForUndo_11 : decode cX6_rememberForUndo 11 = .ok (.goto 9, 3) := by decide +kernel
theorem dX6_rememberForUndo_14 : decode cX6_rememberForUndo 14 = .ok (.aload_n 0, 1) := by decide +kernel
theorem dX6_rememberForUndo_15 : decode cX6_rememberForUndo 15 = .ok (.getfield 49, 3) := by decide +kernel
theorem dX6_rememberForUndo_18 : decode cX6_rememberForUndo 18 = .ok (.iconst 1, 1) := by decide +kernel
theorem dX6_rememberForUndo_19 : decode cX6_rememberForUndo 19 = .ok (.iadd, 1) := by decide +kernel
theorem dX6_rememberForUndo_20 : decode cX6_rememberForUndo 20 = .ok (.putfield 49, 3) := by decide +kernel
theorem dX6_rememberForUndo_23 : decode cX6_rememberForUndo 23 = .ok (.aload_n 0, 1) := by decide +kernel
theorem dX6_rememberForUndo_24 : decode cX6_rememberForUndo 24 = .ok (.getfield 42, 3) := by decide +kernel
theorem dX6_rememberForUndo_27 : decode cX6_rememberForUndo 27 = .ok (.aload_n 0, 1) := by decide +kernel
theorem dX6_rememberForUndo_28 : decode cX6_rememberForUndo 28 = .ok (.getfield 49, 3) := by decide +kernel
theorem dX6_rememberForUndo_31 : decode cX6_rememberForUndo 31 = .ok (.aload_n 0, 1) := by decide +kernel
theorem dX6_rememberForUndo_32 : decode cX6_rememberForUndo 32 = .ok (.getfield 26, 3) := by decide +kernel
theorem dX6_rememberForUndo_35 : decode cX6_rememberForUndo 35 = .ok (.invokevirtual 175, 3) := by decide +kernel
theorem dX6_rememberForUndo_38 : decode cX6_rememberForUndo 38 = .ok (.aload_n 0, 1) := by decide +kernel
theorem dX6_rememberForUndo_39 : decode cX6_rememberForUndo 39 = .ok (.bipush 8, 2) := by decide +kernel
theorem dX6_rememberForUndo_41 : decode cX6_rememberForUndo 41 = .ok (.aload_n 0, 1) := by decide +kernel
theorem dX6_rememberForUndo_42 : decode cX6_rememberForUndo 42 = .ok (.getfield 53, 3) := by decide +kernel
theorem dX6_rememberForUndo_45 : decode cX6_rememberForUndo 45 = .ok (.iconst 1, 1) := by decide +kernel
theorem dX6_rememberForUndo_46 : decode cX6_rememberForUndo 46 = .ok (.iadd, 1) := by decide +kernel
theorem dX6_rememberForUndo_47 : decode cX6_rememberForUndo 47 = .ok (.invokestatic 237, 3) := by decide +kernel
theorem dX6_rememberForUndo_50 : decode cX6_rememberForUndo 50 = .ok (.putfield 53, 3) := by decide +kernel
theorem dX6_rememberForUndo_53 : decode cX6_rememberForUndo 53 = .ok (.return_, 1) := by decide +kernel
theorem dX6_has_0 : decode cX6_has 0 = .ok (.iload_n 0, 1) := by decide +kernel
theorem dX6_has_1 : decode cX6_has 1 = .ok (.iload_n 1, 1) := by decide +kernel
theorem dX6_has_2 : decode cX6_has 2 = .ok (.ishr, 1) := by decide +kernel
theorem dX6_has_3 : decode cX6_has 3 = .ok (.iconst 1, 1) := by decide +kernel
theorem dX6_has_4 : decode cX6_has 4 = .ok (.iand, 1) := by decide +kernel
theorem dX6_has_5 : decode cX6_has 5 = .ok (.iconst 1, 1) := by decide +kernel
theorem dX6_has_6 : decode cX6_has 6 = .ok (.if_icmp .ne 7, 3) := by decide +kernel
theorem dX6_has_9 : decode cX6_has 9 = .ok (.iconst 1, 1) := by decide +kernel
theorem dX6_has_10 : decode cX6_has 10 = .ok (.goto 4, 3) := by decide +kernel
theorem dX6_has_13 : decode cX6_has 13 = .ok (.iconst 0, 1) := by decide +kernel
theorem dX6_has_14 : decode cX6_has 14 = .ok (.ireturn, 1) := by decide +kernel
theorem dX6_replaced_0 : decode cX6_replaced 0 = .ok (.iload_n 0, 1) := by decide +kernel
theorem dX6_replaced_1 : decode cX6_replaced 1 = .ok (.iload_n 1, 1) := by decide +kernel
theorem dX6_replaced_2 : decode cX6_replaced 2 = .ok (.iconst (-1), 1) := by decide +kernel
theorem dX6_replaced_3 : decode cX6_replaced 3 = .ok (.ixor, 1) := by decide +kernel
theorem dX6_replaced_4 : decode cX6_replaced 4 = .ok (.iand, 1) := by decide +kernel
theorem dX6_replaced_5 : decode cX6_replaced 5 = .ok (.iload_n 2, 1) := by decide +kernel
theorem dX6_replaced_6 : decode cX6_replaced 6 = .ok (.iload_n 1, 1) := by decide +kernel
theorem dX6_replaced_7 : decode cX6_replaced 7 = .ok (.iand, 1) := by decide +kernel
theorem dX6_replaced_8 : decode cX6_replaced 8 = .ok (.ior, 1) := by decide +kernel
theorem dX6_replaced_9 : decode cX6_replaced 9 = .ok (.ireturn, 1) := by decide +kernel
theorem dX6_weight_0 : decode cX6_weight 0 = .ok (.iload_n 0, 1) := by decide +kernel
theorem dX6_weight_1 : decode cX6_weight 1 = .ok (.invokestatic 163, 3) := by decide +kernel
theorem dX6_weight_4 : decode cX6_weight 4 = .ok (.istore_n 2, 1) := by decide +kernel
theorem dX6_weight_5 : decode cX6_weight 5 = .ok (.iload_n 1, 1) := by decide +kernel
theorem dX6_weight_6 : decode cX6_weight 6 = .ok (.iload_n 2, 1) := by decide +kernel
theorem dX6_weight_7 : decode cX6_weight 7 = .ok (.invokestatic 218, 3) := by decide +kernel
theorem dX6_weight_10 : decode cX6_weight 10 = .ok (.bipush 10, 2) := by decide +kernel
theorem dX6_weight_12 : decode cX6_weight 12 = .ok (.iload_n 1, 1) := by decide +kernel
theorem dX6_weight_13 : decode cX6_weight 13 = .ok (.isub, 1) := by decide +kernel
theorem dX6_weight_14 : decode cX6_weight 14 = .ok (.bipush 6, 2) := by decide +kernel
theorem dX6_weight_16 : decode cX6_weight 16 = .ok (.iload_n 2, 1) := by decide +kernel
theorem dX6_weight_17 : decode cX6_weight 17 = .ok (.isub, 1) := by decide +kernel
theorem dX6_weight_18 : decode cX6_weight 18 = .ok (.invokestatic 218, 3) := by decide +kernel
theorem dX6_weight_21 : decode cX6_weight 21 = .ok (.imul, 1) := by decide +kernel
theorem dX6_weight_22 : decode cX6_weight 22 = .ok (.ireturn, 1) := by decide +kernel
theorem dX6_power_0 : decode cX6_power 0 = .ok (.iconst 1, 1) := by decide +kernel
theorem dX6_power_1 : decode cX6_power 1 = .ok (.istore_n 2, 1) := by decide +kernel
theorem dX6_power_2 : decode cX6_power 2 = .ok (.iconst 0, 1) := by decide +kernel
theorem dX6_power_3 : decode cX6_power 3 = .ok (.istore_n 3, 1) := by decide +kernel
theorem dX6_power_4 : decode cX6_power 4 = .ok (.iload_n 3, 1) := by decide +kernel
theorem dX6_power_5 : decode cX6_power 5 = .ok (.iload_n 1, 1) := by decide +kernel
theorem dX6_power_6 : decode cX6_power 6 = .ok (.if_icmp .ge 13, 3) := by decide +kernel
theorem dX6_power_9 : decode cX6_power 9 = .ok (.iload_n 2, 1) := by decide +kernel
theorem dX6_power_10 : decode cX6_power 10 = .ok (.iload_n 0, 1) := by decide +kernel
theorem dX6_power_11 : decode cX6_power 11 = .ok (.imul, 1) := by decide +kernel
theorem dX6_power_12 : decode cX6_power 12 = .ok (.istore_n 2, 1) := by decide +kernel
theorem dX6_power_13 : decode cX6_power 13 = .ok (.iinc 3 1, 3) := by decide +kernel
theorem dX6_power_16 : decode cX6_power 16 = .ok (.goto (-12), 3) := by decide +kernel
theorem dX6_power_19 : decode cX6_power 19 = .ok (.iload_n 2, 1) := by decide +kernel
theorem dX6_power_20 : decode cX6_power 20 = .ok (.ireturn, 1) := by decide +kernel
theorem dX6_commonDivisor_0 : decode cX6_commonDivisor 0 = .ok (.iload_n 0, 1) := by decide +kernel
theorem dX6_commonDivisor_1 : decode cX6_commonDivisor 1 = .ok (.istore_n 2, 1) := by decide +kernel
theorem dX6_commonDivisor_2 : decode cX6_commonDivisor 2 = .ok (.iload_n 1, 1) := by decide +kernel
theorem dX6_commonDivisor_3 : decode cX6_commonDivisor 3 = .ok (.istore_n 3, 1) := by decide +kernel
theorem dX6_commonDivisor_4 : decode cX6_commonDivisor 4 = .ok (.iconst 0, 1) := by decide +kernel
theorem dX6_commonDivisor_5 : decode cX6_commonDivisor 5 = .ok (.istore 4, 2) := by decide +kernel
theorem dX6_commonDivisor_7 : decode cX6_commonDivisor 7 = .ok (.iload 4, 2) := by decide +kernel
theorem dX6_commonDivisor_9 : decode cX6_commonDivisor 9 = .ok (.bipush 64, 2) := by decide +kernel
theorem dX6_commonDivisor_11 : decode cX6_commonDivisor 11 = .ok (.if_icmp .ge 23, 3) := by decide +kernel
theorem dX6_commonDivisor_14 : decode cX6_commonDivisor 14 = .ok (.iload_n 3, 1) := by decide +kernel
theorem dX6_commonDivisor_15 : decode cX6_commonDivisor 15 = .ok (.ifCond .eq 19, 3) := by decide +kernel
theorem dX6_commonDivisor_18 : decode cX6_commonDivisor 18 = .ok (.iload_n 2, 1) := by decide +kernel
theorem dX6_commonDivisor_19 : decode cX6_commonDivisor 19 = .ok (.iload_n 3, 1) := by decide +kernel
theorem dX6_commonDivisor_20 : decode cX6_commonDivisor 20 = .ok (.irem, 1) := by decide +kernel
theorem dX6_commonDivisor_21 : decode cX6_commonDivisor 21 = .ok (.istore 5, 2) := by decide +kernel
theorem dX6_commonDivisor_23 : decode cX6_commonDivisor 23 = .ok (.iload_n 3, 1) := by decide +kernel
theorem dX6_commonDivisor_24 : decode cX6_commonDivisor 24 = .ok (.istore_n 2, 1) := by decide +kernel
theorem dX6_commonDivisor_25 : decode cX6_commonDivisor 25 = .ok (.iload 5, 2) := by decide +kernel
theorem dX6_commonDivisor_27 : decode cX6_commonDivisor 27 = .ok (.istore_n 3, 1) := by decide +kernel
theorem dX6_commonDivisor_28 : decode cX6_commonDivisor 28 = .ok (.iinc 4 1, 3) := by decide +kernel
theorem dX6_commonDivisor_31 : decode cX6_commonDivisor 31 = .ok (.goto (-24), 3) := by decide +kernel
theorem dX6_commonDivisor_34 : decode cX6_commonDivisor 34 = .ok (.iload_n 2, 1) := by decide +kernel
theorem dX6_commonDivisor_35 : decode cX6_commonDivisor 35 = .ok (.ireturn, 1) := by decide +kernel
theorem dX7_init_0 : decode cX7_init 0 = .ok (.aload_n 0, 1) := by decide +kernel
theorem dX7_init_1 : decode cX7_init 1 = .ok (.invokespecial 1, 3) := by decide +kernel
theorem dX7_init_4 : decode cX7_init 4 = .ok (.aload_n 0, 1) := by decide +kernel
theorem dX7_init_5 : decode cX7_init 5 = .ok (.sipush 1020, 3) := by decide +kernel
theorem dX7_init_8 : decode cX7_init 8 = .ok (.newarray .int, 2) := by decide +kernel
theorem dX7_init_10 : decode cX7_init 10 = .ok (.putfield 7, 3) := by decide +kernel
theorem dX7_init_13 : decode cX7_init 13 = .ok (.aload_n 0, 1) := by decide +kernel
theorem dX7_init_14 : decode cX7_init 14 = .ok (.bipush 59, 2) := by decide +kernel
theorem dX7_init_16 : decode cX7_init 16 = .ok (.newarray .int, 2) := by decide +kernel
theorem dX7_init_18 : decode cX7_init 18 = .ok (.putfield 13, 3) := by decide +kernel
theorem dX7_init_21 : decode cX7_init 21 = .ok (.aload_n 0, 1) := by decide +kernel
theorem dX7_init_22 : decode cX7_init 22 = .ok (.bipush 59, 2) := by decide +kernel
theorem dX7_init_24 : decode cX7_init 24 = .ok (.newarray .int, 2) := by decide +kernel
theorem dX7_init_26 : decode cX7_init 26 = .ok (.putfield 16, 3) := by decide +kernel
theorem dX7_init_29 : decode cX7_init 29 = .ok (.aload_n 0, 1) := by decide +kernel
theorem dX7_init_30 : decode cX7_init 30 = .ok (.iconst 2, 1) := by decide +kernel
theorem dX7_init_31 : decode cX7_init 31 = .ok (.newarray .boolean, 2) := by decide +kernel
theorem dX7_init_33 : decode cX7_init 33 = .ok (.putfield 19, 3) := by decide +kernel
theorem dX7_init_36 : decode cX7_init 36 = .ok (.aload_n 0, 1) := by decide +kernel
theorem dX7_init_37 : decode cX7_init 37 = .ok (.sipush 160, 3) := by decide +kernel
theorem dX7_init_40 : decode cX7_init 40 = .ok (.newarray .int, 2) := by decide +kernel
theorem dX7_init_42 : decode cX7_init 42 = .ok (.putfield 23, 3) := by decide +kernel
theorem dX7_init_45 : decode cX7_init 45 = .ok (.aload_n 0, 1) := by decide +kernel
theorem dX7_init_46 : decode cX7_init 46 = .ok (.bipush 6, 2) := by decide +kernel
theorem dX7_init_48 : decode cX7_init 48 = .ok (.newarray .int, 2) := by decide +kernel
theorem dX7_init_50 : decode cX7_init 50 = .ok (.putfield 26, 3) := by decide +kernel
theorem dX7_init_53 : decode cX7_init 53 = .ok (.aload_n 0, 1) := by decide +kernel
theorem dX7_init_54 : decode cX7_init 54 = .ok (.bipush 6, 2) := by decide +kernel
theorem dX7_init_56 : decode cX7_init 56 = .ok (.newarray .int, 2) := by decide +kernel
theorem dX7_init_58 : decode cX7_init 58 = .ok (.putfield 29, 3) := by decide +kernel
theorem dX7_init_61 : decode cX7_init 61 = .ok (.aload_n 0, 1) := by decide +kernel
theorem dX7_init_62 : decode cX7_init 62 = .ok (.bipush 6, 2) := by decide +kernel
theorem dX7_init_64 : decode cX7_init 64 = .ok (.newarray .int, 2) := by decide +kernel
theorem dX7_init_66 : decode cX7_init 66 = .ok (.putfield 32, 3) := by decide +kernel
theorem dX7_init_69 : decode cX7_init 69 = .ok (.aload_n 0, 1) := by decide +kernel
theorem dX7_init_70 : decode cX7_init 70 = .ok (.getfield 13, 3) := by decide +kernel
theorem dX7_init_73 : decode cX7_init 73 = .ok (.iconst 0, 1) := by decide +kernel
theorem dX7_init_74 : decode cX7_init 74 = .ok (.iconst 2, 1) := by decide +kernel
theorem dX7_init_75 : decode cX7_init 75 = .ok (.iastore, 1) := by decide +kernel
theorem dX7_init_76 : decode cX7_init 76 = .ok (.return_, 1) := by decide +kernel
theorem dX7_in_0 : decode cX7_in 0 = .ok (.lload_n 0, 1) := by decide +kernel
theorem dX7_in_1 : decode cX7_in 1 = .ok (.lload_n 2, 1) := by decide +kernel
theorem dX7_in_2 : decode cX7_in 2 = .ok (.lcmp, 1) := by decide +kernel
theorem dX7_in_3 : decode cX7_in 3 = .ok (.ifCond .lt 14, 3) := by decide +kernel
theorem dX7_in_6 : decode cX7_in 6 = .ok (.lload_n 0, 1) := by decide +kernel
theorem dX7_in_7 : decode cX7_in 7 = .ok (.lload 4, 2) := by decide +kernel
theorem dX7_in_9 : decode cX7_in 9 = .ok (.lcmp, 1) := by decide +kernel
theorem dX7_in_10 : decode cX7_in 10 = .ok (.ifCond .gt 7, 3) := by decide +kernel
theorem dX7_in_13 : decode cX7_in 13 = .ok (.iconst 1, 1) := by decide +kernel
theorem dX7_in_14 : decode cX7_in 14 = .ok (.goto 4, 3) := by decide +kernel
theorem dX7_in_17 : decode cX7_in 17 = .ok (.iconst 0, 1) := by decide +kernel
theorem dX7_in_18 : decode cX7_in 18 = .ok (.ireturn, 1) := by decide +kernel
theorem dX7_has_0 : decode cX7_has 0 = .ok (.iload_n 0, 1) := by decide +kernel
theorem dX7_has_1 : decode cX7_has 1 = .ok (.iload_n 1, 1) := by decide +kernel
theorem dX7_has_2 : decode cX7_has 2 = .ok (.ishr, 1) := by decide +kernel
theorem dX7_has_3 : decode cX7_has 3 = .ok (.iconst 1, 1) := by decide +kernel
theorem dX7_has_4 : decode cX7_has 4 = .ok (.iand, 1) := by decide +kernel
theorem dX7_has_5 : decode cX7_has 5 = .ok (.iconst 1, 1) := by decide +kernel
theorem dX7_has_6 : decode cX7_has 6 = .ok (.if_icmp .ne 7, 3) := by decide +kernel
theorem dX7_has_9 : decode cX7_has 9 = .ok (.iconst 1, 1) := by decide +kernel
theorem dX7_has_10 : decode cX7_has 10 = .ok (.goto 4, 3) := by decide +kernel
theorem dX7_has_13 : decode cX7_has 13 = .ok (.iconst 0, 1) := by decide +kernel
theorem dX7_has_14 : decode cX7_has 14 = .ok (.ireturn, 1) := by decide +kernel
theorem dX7_ones_0 : decode cX7_ones 0 = .ok (.iconst 0, 1) := by decide +kernel
theorem dX7_ones_1 : decode cX7_ones 1 = .ok (.istore_n 1, 1) := by decide +kernel
theorem dX7_ones_2 : decode cX7_ones 2 = .ok (.iconst 0, 1) := by decide +kernel
theorem dX7_ones_3 : decode cX7_ones 3 = .ok (.istore_n 2, 1) := by decide +kernel
theorem dX7_ones_4 : decode cX7_ones 4 = .ok (.iload_n 2, 1) := by decide +kernel
theorem dX7_ones_5 : decode cX7_ones 5 = .ok (.bipush 6, 2) := by decide +kernel
theorem dX7_ones_7 : decode cX7_ones 7 = .ok (.if_icmp .ge 17, 3) := by decide +kernel
theorem dX7_ones_10 : decode cX7_ones 10 = .ok (.iload_n 1, 1) := by decide +kernel
theorem dX7_ones_11 : decode cX7_ones 11 = .ok (.iload_n 0, 1) := by decide +kernel
theorem dX7_ones_12 : decode cX7_ones 12 = .ok (.iload_n 2, 1) := by decide +kernel
theorem dX7_ones_13 : decode cX7_ones 13 = .ok (.ishr, 1) := by decide +kernel
theorem dX7_ones_14 : decode cX7_ones 14 = .ok (.iconst 1, 1) := by decide +kernel
theorem dX7_ones_15 : decode cX7_ones 15 = .ok (.iand, 1) := by decide +kernel
theorem dX7_ones_16 : decode cX7_ones 16 = .ok (.iadd, 1) := by decide +kernel
theorem dX7_ones_17 : decode cX7_ones 17 = .ok (.istore_n 1, 1) := by decide +kernel
theorem dX7_ones_18 : decode cX7_ones 18 = .ok (.iinc 2 1, 3) := by decide +kernel
theorem dX7_ones_21 : decode cX7_ones 21 = .ok (.goto (-17), 3) := by decide +kernel
theorem dX7_ones_24 : decode cX7_ones 24 = .ok (.iload_n 1, 1) := by decide +kernel
theorem dX7_ones_25 : decode cX7_ones 25 = .ok (.ireturn, 1) := by decide +kernel
theorem dX7_copy_0 : decode cX7_copy 0 = .ok (.iconst 0, 1) := by decide +kernel
theorem dX7_copy_1 : decode cX7_copy 1 = .ok (.istore_n 3, 1) := by decide +kernel
theorem dX7_copy_2 : decode cX7_copy 2 = .ok (.iload_n 3, 1) := by decide +kernel
theorem dX7_copy_3 : decode cX7_copy 3 = .ok (.bipush 85, 2) := by decide +kernel
theorem dX7_copy_5 : decode cX7_copy 5 = .ok (.if_icmp .ge 25, 3) := by decide +kernel
theorem dX7_copy_8 : decode cX7_copy 8 = .ok (.aload_n 0, 1) := by decide +kernel
theorem dX7_copy_9 : decode cX7_copy 9 = .ok (.getfield 7, 3) := by decide +kernel
theorem dX7_copy_12 : decode cX7_copy 12 = .ok (.iload_n 2, 1) := by decide +kernel
theorem dX7_copy_13 : decode cX7_copy 13 = .ok (.iload_n 3, 1) := by decide +kernel
theorem dX7_copy_14 : decode cX7_copy 14 = .ok (.iadd, 1) := by decide +kernel
theorem dX7_copy_15 : decode cX7_copy 15 = .ok (.aload_n 0, 1) := by decide +kernel
theorem dX7_copy_16 : decode cX7_copy 16 = .ok (.getfield 7, 3) := by decide +kernel
theorem dX7_copy_19 : decode cX7_copy 19 = .ok (.iload_n 1, 1) := by decide +kernel
theorem dX7_copy_20 : decode cX7_copy 20 = .ok (.iload_n 3, 1) := by decide +kernel
theorem dX7_copy_21 : decode cX7_copy 21 = .ok (.iadd, 1) := by decide +kernel
theorem dX7_copy_22 : decode cX7_copy 22 = .ok (.iaload, 1) := by decide +kernel
theorem dX7_copy_23 : decode cX7_copy 23 = .ok (.iastore, 1) := by decide +kernel
theorem dX7_copy_24 : decode cX7_copy 24 = .ok (.iinc 3 1, 3) := by decide +kernel
theorem dX7_copy_27 : decode cX7_copy 27 = .ok (.goto (-25), 3) := by decide +kernel
theorem dX7_copy_30 : decode cX7_copy 30 = .ok (.return_, 1) := by decide +kernel
theorem dX7_isPerson_0 : decode cX7_isPerson 0 = .ok (.iload_n 1, 1) := by decide +kernel
theorem dX7_isPerson_1 : decode cX7_isPerson 1 = .ok (.i2l, 1) := by decide +kernel
theorem dX7_isPerson_2 : decode cX7_isPerson 2 = .ok (.lconst 0, 1) := by decide +kernel
theorem dX7_isPerson_3 : decode cX7_isPerson 3 = .ok (.aload_n 0, 1) := by decide +kernel
theorem dX7_isPerson_4 : decode cX7_isPerson 4 = .ok (.getfield 13, 3) := by decide +kernel
theorem dX7_isPerson_7 : decode cX7_isPerson 7 = .ok (.iconst 1, 1) := by decide +kernel
theorem dX7_isPerson_8 : decode cX7_isPerson 8 = .ok (.iaload, 1) := by decide +kernel
theorem dX7_isPerson_9 : decode cX7_isPerson 9 = .ok (.iconst 1, 1) := by decide +kernel
theorem dX7_isPerson_10 : decode cX7_isPerson 10 = .ok (.isub, 1) := by decide +kernel
theorem dX7_isPerson_11 : decode cX7_isPerson 11 = .ok (.i2l, 1) := by decide +kernel
theorem dX7_isPerson_12 : decode cX7_isPerson 12 = .ok (.invokestatic 35, 3) := by decide +kernel
theorem dX7_isPerson_15 : decode cX7_isPerson 15 = .ok (.ireturn, 1) := by decide +kernel
theorem dX7_isBarber_0 : decode cX7_isBarber 0 = .ok (.iload_n 1, 1) := by decide +kernel
theorem dX7_isBarber_1 : decode cX7_isBarber 1 = .ok (.i2l, 1) := by decide +kernel
theorem dX7_isBarber_2 : decode cX7_isBarber 2 = .ok (.lconst 0, 1) := by decide +kernel
theorem dX7_isBarber_3 : decode cX7_isBarber 3 = .ok (.aload_n 0, 1) := by decide +kernel
theorem dX7_isBarber_4 : decode cX7_isBarber 4 = .ok (.getfield 13, 3) := by decide +kernel
theorem dX7_isBarber_7 : decode cX7_isBarber 7 = .ok (.iconst 0, 1) := by decide +kernel
theorem dX7_isBarber_8 : decode cX7_isBarber 8 = .ok (.iaload, 1) := by decide +kernel
theorem dX7_isBarber_9 : decode cX7_isBarber 9 = .ok (.iconst 1, 1) := by decide +kernel
theorem dX7_isBarber_10 : decode cX7_isBarber 10 = .ok (.isub, 1) := by decide +kernel
theorem dX7_isBarber_11 : decode cX7_isBarber 11 = .ok (.i2l, 1) := by decide +kernel
theorem dX7_isBarber_12 : decode cX7_isBarber 12 = .ok (.invokestatic 35, 3) := by decide +kernel
theorem dX7_isBarber_15 : decode cX7_isBarber 15 = .ok (.ireturn, 1) := by decide +kernel
theorem dX7_isRumour_0 : decode cX7_isRumour 0 = .ok (.iload_n 1, 1) := by decide +kernel
theorem dX7_isRumour_1 : decode cX7_isRumour 1 = .ok (.i2l, 1) := by decide +kernel
theorem dX7_isRumour_2 : decode cX7_isRumour 2 = .ok (.lconst 0, 1) := by decide +kernel
theorem dX7_isRumour_3 : decode cX7_isRumour 3 = .ok (.aload_n 0, 1) := by decide +kernel
theorem dX7_isRumour_4 : decode cX7_isRumour 4 = .ok (.getfield 13, 3) := by decide +kernel
theorem dX7_isRumour_7 : decode cX7_isRumour 7 = .ok (.iconst 2, 1) := by decide +kernel
theorem dX7_isRumour_8 : decode cX7_isRumour 8 = .ok (.iaload, 1) := by decide +kernel
theorem dX7_isRumour_9 : decode cX7_isRumour 9 = .ok (.iconst 1, 1) := by decide +kernel
theorem dX7_isRumour_10 : decode cX7_isRumour 10 = .ok (.isub, 1) := by decide +kernel
theorem dX7_isRumour_11 : decode cX7_isRumour 11 = .ok (.i2l, 1) := by decide +kernel
theorem dX7_isRumour_12 : decode cX7_isRumour 12 = .ok (.invokestatic 35, 3) := by decide +kernel
theorem dX7_isRumour_15 : decode cX7_isRumour 15 = .ok (.ireturn, 1) := by decide +kernel
theorem dX7_isStrip_0 : decode cX7_isStrip 0 = .ok (.iload_n 0, 1) := by decide +kernel
theorem dX7_isStrip_1 : decode cX7_isStrip 1 = .ok (.i2l, 1) := by decide +kernel
theorem dX7_isStrip_2 : decode cX7_isStrip 2 = .ok (.lconst 0, 1) := by decide +kernel
theorem dX7_isStrip_3 : decode cX7_isStrip 3 = .ok (.ldc2_w 39, 3) := by decide +kernel
theorem dX7_isStrip_6 : decode cX7_isStrip 6 = .ok (.invokestatic 35, 3) := by decide +kernel
theorem dX7_isStrip_9 : decode cX7_isStrip 9 = .ok (.ireturn, 1) := by decide +kernel
theorem dX7_write_0 : decode cX7_write 0 = .ok (.iload_n 1, 1) := by decide +kernel
theorem dX7_write_1 : decode cX7_write 1 = .ok (.i2l, 1) := by decide +kernel
theorem dX7_write_2 : decode cX7_write 2 = .ok (.lconst 0, 1) := by decide +kernel
theorem dX7_write_3 : decode cX7_write 3 = .ok (.ldc2_w 41, 3) := by decide +kernel
theorem dX7_write_6 : decode cX7_write 6 = .ok (.invokestatic 35, 3) := by decide +kernel
theorem dX7_write_9 : decode cX7_write 9 = .ok (.ifCond .ne 6, 3) := by decide +kernel
theorem dX7_write_12 : decode cX7_write 12 = .ok (.bipush (-3), 2) := by decide +kernel
theorem dX7_write_14 : decode cX7_write 14 = .ok (.ireturn, 1) := by decide +kernel
theorem dX7_write_15 : decode cX7_write 15 = .ok (.aload_n 0, 1) := by decide +kernel
theorem dX7_write_16 : decode cX7_write 16 = .ok (.getfield 43, 3) := by decide +kernel
theorem dX7_write_19 : decode cX7_write 19 = .ok (.sipush 160, 3) := by decide +kernel
theorem dX7_write_22 : decode cX7_write 22 = .ok (.if_icmp .ne 6, 3) := by decide +kernel
theorem dX7_write_25 : decode cX7_write 25 = .ok (.bipush (-5), 2) := by decide +kernel
theorem dX7_write_27 : decode cX7_write 27 = .ok (.ireturn, 1) := by decide +kernel
theorem dX7_write_28 : decode cX7_write 28 = .ok (.aload_n 0, 1) := by decide +kernel
theorem dX7_write_29 : decode cX7_write 29 = .ok (.getfield 23, 3) := by decide +kernel
theorem dX7_write_32 : decode cX7_write 32 = .ok (.aload_n 0, 1) := by decide +kernel
theorem dX7_write_33 : decode cX7_write 33 = .ok (.getfield 43, 3) := by decide +kernel
theorem dX7_write_36 : decode cX7_write 36 = .ok (.iload_n 1, 1) := by decide +kernel
theorem dX7_write_37 : decode cX7_write 37 = .ok (.iastore, 1) := by decide +kernel
theorem dX7_write_38 : decode cX7_write 38 = .ok (.aload_n 0, 1) := by decide +kernel
theorem dX7_write_39 : decode cX7_write 39 = .ok (.dup, 1) := by decide +kernel
theorem dX7_write_40 : decode cX7_write 40 = .ok (.getfield 43, 3) := by decide +kernel
theorem dX7_write_43 : decode cX7_write 43 = .ok (.iconst 1, 1) := by decide +kernel
theorem dX7_write_44 : decode cX7_write 44 = .ok (.iadd, 1) := by decide +kernel
theorem dX7_write_45 : decode cX7_write 45 = .ok (.putfield 43, 3) := by decide +kernel
theorem dX7_write_48 : decode cX7_write 48 = .ok (.aload_n 0, 1) := by decide +kernel
theorem dX7_write_49 : decode cX7_write 49 = .ok (.getfield 43, 3) := by decide +kernel
theorem dX7_write_52 : decode cX7_write 52 = .ok (.ireturn, 1) := by decide +kernel
theorem dX7_erase_0 : decode cX7_erase 0 = .ok (.aload_n 0, 1) := by decide +kernel
theorem dX7_erase_1 : decode cX7_erase 1 = .ok (.getfield 43, 3) := by decide +kernel
theorem dX7_erase_4 : decode cX7_erase 4 = .ok (.istore_n 1, 1) := by decide +kernel
theorem dX7_erase_5 : decode cX7_erase 5 = .ok (.aload_n 0, 1) := by decide +kernel
theorem dX7_erase_6 : decode cX7_erase 6 = .ok (.iconst 0, 1) := by decide +kernel
theorem dX7_erase_7 : decode cX7_erase 7 = .ok (.putfield 43, 3) := by decide +kernel
theorem dX7_erase_10 : decode cX7_erase 10 = .ok (.iload_n 1, 1) := by decide +kernel
theorem dX7_erase_11 : decode cX7_erase 11 = .ok (.ireturn, 1) := by decide +kernel
theorem dX7_letterAt_0 : decode cX7_letterAt 0 = .ok (.iload_n 1, 1) := by decide +kernel
theorem dX7_letterAt_1 : decode cX7_letterAt 1 = .ok (.aload_n 0, 1) := by decide +kernel
theorem dX7_letterAt_2 : decode cX7_letterAt 2 = .ok (.getfield 43, 3) := by decide +kernel
theorem dX7_letterAt_5 : decode cX7_letterAt 5 = .ok (.if_icmp .ge 12, 3) := by decide +kernel
theorem dX7_letterAt_8 : decode cX7_letterAt 8 = .ok (.aload_n 0, 1) := by decide +kernel
theorem dX7_letterAt_9 : decode cX7_letterAt 9 = .ok (.getfield 23, 3) := by decide +kernel
theorem dX7_letterAt_12 : decode cX7_letterAt 12 = .ok (.iload_n 1, 1) := by decide +kernel
theorem dX7_letterAt_13 : decode cX7_letterAt 13 = .ok (.iaload, 1) := by decide +kernel
theorem dX7_letterAt_14 : decode cX7_letterAt 14 = .ok (.goto 4, 3) := by decide +kernel
theorem dX7_letterAt_17 : decode cX7_letterAt 17 = .ok (.iconst (-1), 1) := by decide +kernel
theorem dX7_letterAt_18 : decode cX7_letterAt 18 = .ok (.ireturn, 1) := by decide +kernel
theorem dX7_isSmall_0 : decode cX7_isSmall 0 = .ok (.aload_n 0, 1) := by decide +kernel
theorem dX7_isSmall_1 : decode cX7_isSmall 1 = .ok (.iload_n 1, 1) := by decide +kernel
theorem dX7_isSmall_2 : decode cX7_isSmall 2 = .ok (.invokevirtual 47, 3) := by decide +kernel
theorem dX7_isSmall_5 : decode cX7_isSmall 5 = .ok (.i2l, 1) := by decide +kernel
theorem dX7_isSmall_6 : decode cX7_isSmall 6 = .ok (.ldc2_w 51, 3) := by decide +kernel
theorem dX7_isSmall_9 : decode cX7_isSmall 9 = .ok (.ldc2_w 53, 3) := by decide +kernel
theorem dX7_isSmall_12 : decode cX7_isSmall 12 = .ok (.invokestatic 35, 3) := by decide +kernel
theorem dX7_isSmall_15 : decode cX7_isSmall 15 = .ok (.ireturn, 1) := by decide +kernel
theorem dX7_isDigit_0 : decode cX7_isDigit 0 = .ok (.aload_n 0, 1) := by decide +kernel
theorem dX7_isDigit_1 : decode cX7_isDigit 1 = .ok (.iload_n 1, 1) := by decide +kernel
theorem dX7_isDigit_2 : decode cX7_isDigit 2 = .ok (.invokevirtual 47, 3) := by decide +kernel
theorem dX7_isDigit_5 : decode cX7_isDigit 5 = .ok (.i2l, 1) := by decide +kernel
theorem dX7_isDigit_6 : decode cX7_isDigit 6 = .ok (.ldc2_w 55, 3) := by decide +kernel
theorem dX7_isDigit_9 : decode cX7_isDigit 9 = .ok (.ldc2_w 57, 3) := by decide +kernel
theorem dX7_isDigit_12 : decode cX7_isDigit 12 = .ok (.invokestatic 35, 3) := by decide +kernel
theorem dX7_isDigit_15 : decode cX7_isDigit 15 = .ok (.ireturn, 1) := by decide +kernel
theorem dX7_begins_0 : decode cX7_begins 0 = .ok (.aload_n 0, 1) := by decide +kernel
theorem dX7_begins_1 : decode cX7_begins 1 = .ok (.aload_n 0, 1) := by decide +kernel
theorem dX7_begins_2 : decode cX7_begins 2 = .ok (.getfield 59, 3) := by decide +kernel
theorem dX7_begins_5 : decode cX7_begins 5 = .ok (.invokevirtual 47, 3) := by decide +kernel
theorem dX7_begins_8 : decode cX7_begins 8 = .ok (.bipush 32, 2) := by decide +kernel
theorem dX7_begins_10 : decode cX7_begins 10 = .ok (.if_icmp .ne 16, 3) := by decide +kernel
theorem dX7_begins_13 : decode cX7_begins 13 = .ok (.aload_n 0, 1) := by decide +kernel
theorem dX7_begins_14 : decode cX7_begins 14 = .ok (.dup, 1) := by decide +kernel
theorem dX7_begins_15 : decode cX7_begins 15 = .ok (.getfield 59, 3) := by decide +kernel
theorem dX7_begins_18 : decode cX7_begins 18 = .ok (.iconst 1, 1) := by decide +kernel
theorem dX7_begins_19 : decode cX7_begins 19 = .ok (.iadd, 1) := by decide +kernel
theorem dX7_begins_20 : decode cX7_begins 20 = .ok (.putfield 59, 3) := by decide +kernel
theorem dX7_begins_23 : decode cX7_begins 23 = .ok (.goto (-23), 3) := by decide +kernel
theorem dX7_begins_26 : decode cX7_begins 26 = .ok (.aload_n 0, 1) := by decide +kernel
theorem dX7_begins_27 : decode cX7_begins 27 = .ok (.aload_n 0, 1) := by decide +kernel
theorem dX7_begins_28 : decode cX7_begins 28 = .ok (.getfield 59, 3) := by decide +kernel
theorem dX7_begins_31 : decode cX7_begins 31 = .ok (.putfield 62, 3) := by decide +kernel
theorem dX7_begins_34 : decode cX7_begins 34 = .ok (.return_, 1) := by decide +kernel
theorem dX7_takesWord_0 : decode cX7_takesWord 0 = .ok (.aload_n 0, 1) := by decide +kernel
theorem dX7_takesWord_1 : decode cX7_takesWord 1 = .ok (.invokevirtual 65, 3) := by decide +kernel
theorem dX7_takesWord_4 : decode cX7_takesWord 4 = .ok (.aload_n 0, 1) := by decide +kernel
theorem dX7_takesWord_5 : decode cX7_takesWord 5 = .ok (.lconst 0, 1) := by decide +kernel
theorem dX7_takesWord_6 : decode cX7_takesWord 6 = .ok (.putfield 68, 3) := by decide +kernel
theorem dX7_takesWord_9 : decode cX7_takesWord 9 = .ok (.aload_n 0, 1) := by decide +kernel
theorem dX7_takesWord_10 : decode cX7_takesWord 10 = .ok (.aload_n 0, 1) := by decide +kernel
theorem dX7_takesWord_11 : decode cX7_takesWord 11 = .ok (.getfield 59, 3) := by decide +kernel
theorem dX7_takesWord_14 : decode cX7_takesWord 14 = .ok (.invokevirtual 72, 3) := by decide +kernel
theorem dX7_takesWord_17 : decode cX7_takesWord 17 = .ok (.ifCond .eq 55, 3) := by decide +kernel
theorem dX7_takesWord_20 : decode cX7_takesWord 20 = .ok (.aload_n 0, 1) := by decide +kernel
theorem dX7_takesWord_21 : decode cX7_takesWord 21 = .ok (.aload_n 0, 1) := by decide +kernel
theorem dX7_takesWord_22 : decode cX7_takesWord 22 = .ok (.getfield 59, 3) := by decide +kernel
theorem dX7_takesWord_25 : decode cX7_takesWord 25 = .ok (.aload_n 0, 1) := by decide +kernel
theorem dX7_takesWord_26 : decode cX7_takesWord 26 = .ok (.getfield 62, 3) := by decide +kernel
theorem dX7_takesWord_29 : decode cX7_takesWord 29 = .ok (.isub, 1) := by decide +kernel
theorem dX7_takesWord_30 : decode cX7_takesWord 30 = .ok (.bipush 8, 2) := by decide +kernel
theorem dX7_takesWord_32 : decode cX7_takesWord 32 = .ok (.if_icmp .ge 23, 3) := by decide +kernel
theorem dX7_takesWord_35 : decode cX7_takesWord 35 = .ok (.aload_n 0, 1) := by decide +kernel
theorem dX7_takesWord_36 : decode cX7_takesWord 36 = .ok (.getfield 68, 3) := by decide +kernel
theorem dX7_takesWord_39 : decode cX7_takesWord 39 = .ok (.bipush 8, 2) := by decide +kernel
theorem dX7_takesWord_41 : decode cX7_takesWord 41 = .ok (.lshl, 1) := by decide +kernel
theorem dX7_takesWord_42 : decode cX7_takesWord 42 = .ok (.aload_n 0, 1) := by decide +kernel
theorem dX7_takesWord_43 : decode cX7_takesWord 43 = .ok (.aload_n 0, 1) := by decide +kernel
theorem dX7_takesWord_44 : decode cX7_takesWord 44 = .ok (.getfield 59, 3) := by decide +kernel
theorem dX7_takesWord_47 : decode cX7_takesWord 47 = .ok (.invokevirtual 47, 3) := by decide +kernel
theorem dX7_takesWord_50 : decode cX7_takesWord 50 = .ok (.i2l, 1) := by decide +kernel
theorem dX7_takesWord_51 : decode cX7_takesWord 51 = .ok (.lor, 1) := by decide +kernel
theorem dX7_takesWord_52 : decode cX7_takesWord 52 = .ok (.goto 4, 3) := by decide +kernel
theorem dX7_takesWord_55 : decode cX7_takesWord 55 = .ok (.lconst 0, 1) := by decide +kernel
theorem dX7_takesWord_56 : decode cX7_takesWord 56 = .ok (.putfield 68, 3) := by decide +kernel
theorem dX7_takesWord_59 : decode cX7_takesWord 59 = .ok (.aload_n 0, 1) := by decide +kernel
theorem dX7_takesWord_60 : decode cX7_takesWord 60 = .ok (.dup, 1) := by decide +kernel
theorem dX7_takesWord_61 : decode cX7_takesWord 61 = .ok (.getfield 59, 3) := by decide +kernel
theorem dX7_takesWord_64 : decode cX7_takesWord 64 = .ok (.iconst 1, 1) := by decide +kernel
theorem dX7_takesWord_65 : decode cX7_takesWord 65 = .ok (.iadd, 1) := by decide +kernel
theorem dX7_takesWord_66 : decode cX7_takesWord 66 = .ok (.putfield 59, 3) := by decide +kernel
theorem dX7_takesWord_69 : decode cX7_takesWord 69 = .ok (.goto (-60), 3) := by decide +kernel
theorem dX7_takesWord_72 : decode cX7_takesWord 72 = .ok (.aload_n 0, 1) := by decide +kernel
theorem dX7_takesWord_73 : decode cX7_takesWord 73 = .ok (.aload_n 0, 1) := by decide +kernel
theorem dX7_takesWord_74 : decode cX7_takesWord 74 = .ok (.getfield 59, 3) := by decide +kernel
theorem dX7_takesWord_77 : decode cX7_takesWord 77 = .ok (.aload_n 0, 1) := by decide +kernel
theorem dX7_takesWord_78 : decode cX7_takesWord 78 = .ok (.getfield 62, 3) := by decide +kernel
theorem dX7_takesWord_81 : decode cX7_takesWord 81 = .ok (.isub, 1) := by decide +kernel
theorem dX7_takesWord_82 : decode cX7_takesWord 82 = .ok (.bipush 8, 2) := by decide +kernel
theorem dX7_takesWord_84 : decode cX7_takesWord 84 = .ok (.if_icmp .le 7, 3) := by decide +kernel
theorem dX7_takesWord_87 : decode cX7_takesWord 87 = .ok (.lconst 0, 1) := by decide +kernel
theorem dX7_takesWord_88 : decode cX7_takesWord 88 = .ok (.goto 7, 3) := by decide +kernel
theorem dX7_takesWord_91 : decode cX7_takesWord 91 = .ok (.aload_n 0, 1) := by decide +kernel
theorem dX7_takesWord_92 : decode cX7_takesWord 92 = .ok (.getfield 68, 3) := by decide +kernel
theorem dX7_takesWord_95 : decode cX7_takesWord 95 = .ok (.putfield 68, 3) := by decide +kernel
theorem dX7_takesWord_98 : decode cX7_takesWord 98 = .ok (.return_, 1) := by decide +kernel
theorem dX7_takesNumber_0 : decode cX7_takesNumber 0 = .ok (.aload_n 0, 1) := by decide +kernel
theorem dX7_takesNumber_1 : decode cX7_takesNumber 1 = .ok (.invokevirtual 65, 3) := by decide +kernel
theorem dX7_takesNumber_4 : decode cX7_takesNumber 4 = .ok (.aload_n 0, 1) := by decide +kernel
theorem dX7_takesNumber_5 : decode cX7_takesNumber 5 = .ok (.iconst 0, 1) := by decide +kernel
theorem dX7_takesNumber_6 : decode cX7_takesNumber 6 = .ok (.putfield 76, 3) := by decide +kernel
theorem dX7_takesNumber_9 : decode cX7_takesNumber 9 = .ok (.aload_n 0, 1) := by decide +kernel
theorem dX7_takesNumber_10 : decode cX7_takesNumber 10 = .ok (.aload_n 0, 1) := by decide +kernel
theorem dX7_takesNumber_11 : decode cX7_takesNumber 11 = .ok (.getfield 59, 3) := by decide +kernel
theorem dX7_takesNumber_14 : decode cX7_takesNumber 14 = .ok (.invokevirtual 79, 3) := by decide +kernel
theorem dX7_takesNumber_17 : decode cX7_takesNumber 17 = .ok (.ifCond .eq 55, 3) := by decide +kernel
theorem dX7_takesNumber_20 : decode cX7_takesNumber 20 = .ok (.aload_n 0, 1) := by decide +kernel
theorem dX7_takesNumber_21 : decode cX7_takesNumber 21 = .ok (.aload_n 0, 1) := by decide +kernel
theorem dX7_takesNumber_22 : decode cX7_takesNumber 22 = .ok (.getfield 76, 3) := by decide +kernel
theorem dX7_takesNumber_25 : decode cX7_takesNumber 25 = .ok (.sipush 1000, 3) := by decide +kernel
theorem dX7_takesNumber_28 : decode cX7_takesNumber 28 = .ok (.if_icmp .ge 25, 3) := by decide +kernel
theorem dX7_takesNumber_31 : decode cX7_takesNumber 31 = .ok (.bipush 10, 2) := by decide +kernel
theorem dX7_takesNumber_33 : decode cX7_takesNumber 33 = .ok (.aload_n 0, 1) := by decide +kernel
theorem dX7_takesNumber_34 : decode cX7_takesNumber 34 = .ok (.getfield 76, 3) := by decide +kernel
theorem dX7_takesNumber_37 : decode cX7_takesNumber 37 = .ok (.imul, 1) := by decide +kernel
theorem dX7_takesNumber_38 : decode cX7_takesNumber 38 = .ok (.aload_n 0, 1) := by decide +kernel
theorem dX7_takesNumber_39 : decode cX7_takesNumber 39 = .ok (.aload_n 0, 1) := by decide +kernel
theorem dX7_takesNumber_40 : decode cX7_takesNumber 40 = .ok (.getfield 59, 3) := by decide +kernel
theorem dX7_takesNumber_43 : decode cX7_takesNumber 43 = .ok (.invokevirtual 47, 3) := by decide +kernel
theorem dX7_takesNumber_46 : decode cX7_takesNumber 46 = .ok (.iadd, 1) := by decide +kernel
theorem dX7_takesNumber_47 : decode cX7_takesNumber 47 = .ok (.bipush 48, 2) := by decide +kernel
theorem dX7_takesNumber_49 : decode cX7_takesNumber 49 = .ok (.isub, 1) := by decide +kernel
theorem dX7_takesNumber_50 : decode cX7_takesNumber 50 = .ok (.goto 6, 3) := by decide +kernel
theorem dX7_takesNumber_53 : decode cX7_takesNumber 53 = .ok (.sipush 1000, 3) := by decide +kernel
theorem dX7_takesNumber_56 : decode cX7_takesNumber 56 = .ok (.putfield 76, 3) := by decide +kernel
theorem dX7_takesNumber_59 : decode cX7_takesNumber 59 = .ok (.aload_n 0, 1) := by decide +kernel
theorem dX7_takesNumber_60 : decode cX7_takesNumber 60 = .ok (.dup, 1) := by decide +kernel
theorem dX7_takesNumber_61 : decode cX7_takesNumber 61 = .ok (.getfield 59, 3) := by decide +kernel
theorem dX7_takesNumber_64 : decode cX7_takesNumber 64 = .ok (.iconst 1, 1) := by decide +kernel
theorem dX7_takesNumber_65 : decode cX7_takesNumber 65 = .ok (.iadd, 1) := by decide +kernel
theorem dX7_takesNumber_66 : decode cX7_takesNumber 66 = .ok (.putfield 59, 3) := by decide +kernel
theorem dX7_takesNumber_69 : decode cX7_takesNumber 69 = .ok (.goto (-60), 3) := by decide +kernel
theorem dX7_takesNumber_72 : decode cX7_takesNumber 72 = .ok (.aload_n 0, 1) := by decide +kernel
theorem dX7_takesNumber_73 : decode cX7_takesNumber 73 = .ok (.getfield 59, 3) := by decide +kernel
theorem dX7_takesNumber_76 : decode cX7_takesNumber 76 = .ok (.aload_n 0, 1) := by decide +kernel
theorem dX7_takesNumber_77 : decode cX7_takesNumber 77 = .ok (.getfield 62, 3) := by decide +kernel
theorem dX7_takesNumber_80 : decode cX7_takesNumber 80 = .ok (.if_icmp .le 35, 3) := by decide +kernel
theorem dX7_takesNumber_83 : decode cX7_takesNumber 83 = .ok (.aload_n 0, 1) := by decide +kernel
theorem dX7_takesNumber_84 : decode cX7_takesNumber 84 = .ok (.getfield 59, 3) := by decide +kernel
theorem dX7_takesNumber_87 : decode cX7_takesNumber 87 = .ok (.aload_n 0, 1) := by decide +kernel
theorem dX7_takesNumber_88 : decode cX7_takesNumber 88 = .ok (.getfield 62, 3) := by decide +kernel
theorem dX7_takesNumber_91 : decode cX7_takesNumber 91 = .ok (.isub, 1) := by decide +kernel
theorem dX7_takesNumber_92 : decode cX7_takesNumber 92 = .ok (.iconst 3, 1) := by decide +kernel
theorem dX7_takesNumber_93 : decode cX7_takesNumber 93 = .ok (.if_icmp .ge 22, 3) := by decide +kernel
theorem dX7_takesNumber_96 : decode cX7_takesNumber 96 = .ok (.aload_n 0, 1) := by decide +kernel
theorem dX7_takesNumber_97 : decode cX7_takesNumber 97 = .ok (.getfield 76, 3) := by decide +kernel
theorem dX7_takesNumber_100 : decode cX7_takesNumber 100 = .ok (.i2l, 1) := by decide +kernel
theorem dX7_takesNumber_101 : decode cX7_takesNumber 101 = .ok (.iload_n 1, 1) := by decide +kernel
theorem dX7_takesNumber_102 : decode cX7_takesNumber 102 = .ok (.i2l, 1) := by decide +kernel
theorem dX7_takesNumber_103 : decode cX7_takesNumber 103 = .ok (.iload_n 2, 1) := by decide +kernel
theorem dX7_takesNumber_104 : decode cX7_takesNumber 104 = .ok (.i2l, 1) := by decide +kernel
theorem dX7_takesNumber_105 : decode cX7_takesNumber 105 = .ok (.invokestatic 35, 3) := by decide +kernel
theorem dX7_takesNumber_108 : decode cX7_takesNumber 108 = .ok (.ifCond .eq 7, 3) := by decide +kernel
theorem dX7_takesNumber_111 : decode cX7_takesNumber 111 = .ok (.iconst 1, 1) := by decide +kernel
theorem dX7_takesNumber_112 : decode cX7_takesNumber 112 = .ok (.goto 4, 3) := by decide +kernel
theorem dX7_takesNumber_115 : decode cX7_takesNumber 115 = .ok (.iconst 0, 1) := by decide +kernel
theorem dX7_takesNumber_116 : decode cX7_takesNumber 116 = .ok (.ireturn, 1) := by decide +kernel
theorem dX7_takesOne_0 : decode cX7_takesOne 0 = .ok (.aload_n 0, 1) := by decide +kernel
theorem dX7_takesOne_1 : decode cX7_takesOne 1 = .ok (.getfield 16, 3) := by decide +kernel
theorem dX7_takesOne_4 : decode cX7_takesOne 4 = .ok (.iconst 1, 1) := by decide +kernel
theorem dX7_takesOne_5 : decode cX7_takesOne 5 = .ok (.iaload, 1) := by decide +kernel
theorem dX7_takesOne_6 : decode cX7_takesOne 6 = .ok (.bipush 6, 2) := by decide +kernel
theorem dX7_takesOne_8 : decode cX7_takesOne 8 = .ok (.if_icmp .eq 13, 3) := by decide +kernel
theorem dX7_takesOne_11 : decode cX7_takesOne 11 = .ok (.aload_n 0, 1) := by decide +kernel
theorem dX7_takesOne_12 : decode cX7_takesOne 12 = .ok (.iconst 0, 1) := by decide +kernel
theorem dX7_takesOne_13 : decode cX7_takesOne 13 = .ok (.bipush 63, 2) := by decide +kernel
theorem dX7_takesOne_15 : decode cX7_takesOne 15 = .ok (.invokevirtual 82, 3) := by decide +kernel
theorem dX7_takesOne_18 : decode cX7_takesOne 18 = .ok (.ifCond .ne 5, 3) := by decide +kernel
theorem dX7_takesOne_21 : decode cX7_takesOne 21 = .ok (.iconst 0, 1) := by decide +kernel
theorem dX7_takesOne_22 : decode cX7_takesOne 22 = .ok (.ireturn, 1) := by decide +kernel
theorem dX7_takesOne_23 : decode cX7_takesOne 23 = .ok (.aload_n 0, 1) := by decide +kernel
theorem dX7_takesOne_24 : decode cX7_takesOne 24 = .ok (.getfield 16, 3) := by decide +kernel
theorem dX7_takesOne_27 : decode cX7_takesOne 27 = .ok (.iconst 1, 1) := by decide +kernel
theorem dX7_takesOne_28 : decode cX7_takesOne 28 = .ok (.iaload, 1) := by decide +kernel
theorem dX7_takesOne_29 : decode cX7_takesOne 29 = .ok (.istore_n 2, 1) := by decide +kernel
theorem dX7_takesOne_30 : decode cX7_takesOne 30 = .ok (.aload_n 0, 1) := by decide +kernel
theorem dX7_takesOne_31 : decode cX7_takesOne 31 = .ok (.getfield 16, 3) := by decide +kernel
theorem dX7_takesOne_34 : decode cX7_takesOne 34 = .ok (.iconst 3, 1) := by decide +kernel
theorem dX7_takesOne_35 : decode cX7_takesOne 35 = .ok (.iload_n 2, 1) := by decide +kernel
theorem dX7_takesOne_36 : decode cX7_takesOne 36 = .ok (.iadd, 1) := by decide +kernel
theorem dX7_takesOne_37 : decode cX7_takesOne 37 = .ok (.iload_n 1, 1) := by decide +kernel
theorem dX7_takesOne_38 : decode cX7_takesOne 38 = .ok (.iastore, 1) := by decide +kernel
theorem dX7_takesOne_39 : decode cX7_takesOne 39 = .ok (.aload_n 0, 1) := by decide +kernel
theorem dX7_takesOne_40 : decode cX7_takesOne 40 = .ok (.getfield 16, 3) := by decide +kernel
theorem dX7_takesOne_43 : decode cX7_takesOne 43 = .ok (.bipush 9, 2) := by decide +kernel
theorem dX7_takesOne_45 : decode cX7_takesOne 45 = .ok (.iload_n 2, 1) := by decide +kernel
theorem dX7_takesOne_46 : decode cX7_takesOne 46 = .ok (.iadd, 1) := by decide +kernel
theorem dX7_takesOne_47 : decode cX7_takesOne 47 = .ok (.aload_n 0, 1) := by decide +kernel
theorem dX7_takesOne_48 : decode cX7_takesOne 48 = .ok (.getfield 76, 3) := by decide +kernel
theorem dX7_takesOne_51 : decode cX7_takesOne 51 = .ok (.iastore, 1) := by decide +kernel
theorem dX7_takesOne_52 : decode cX7_takesOne 52 = .ok (.iconst 0, 1) := by decide +kernel
theorem dX7_takesOne_53 : decode cX7_takesOne 53 = .ok (.istore_n 3, 1) := by decide +kernel
theorem dX7_takesOne_54 : decode cX7_takesOne 54 = .ok (.iload_n 3, 1) := by decide +kernel
theorem dX7_takesOne_55 : decode cX7_takesOne 55 = .ok (.bipush 6, 2) := by decide +kernel
theorem dX7_takesOne_57 : decode cX7_takesOne 57 = .ok (.if_icmp .ge 24, 3) := by decide +kernel
theorem dX7_takesOne_60 : decode cX7_takesOne 60 = .ok (.aload_n 0, 1) := by decide +kernel
theorem dX7_takesOne_61 : decode cX7_takesOne 61 = .ok (.getfield 16, 3) := by decide +kernel
theorem dX7_takesOne_64 : decode cX7_takesOne 64 = .ok (.bipush 15, 2) := by decide +kernel
theorem dX7_takesOne_66 : decode cX7_takesOne 66 = .ok (.bipush 6, 2) := by decide +kernel
theorem dX7_takesOne_68 : decode cX7_takesOne 68 = .ok (.iload_n 2, 1) := by decide +kernel
theorem dX7_takesOne_69 : decode cX7_takesOne 69 = .ok (.imul, 1) := by decide +kernel
theorem dX7_takesOne_70 : decode cX7_takesOne 70 = .ok (.iadd, 1) := by decide +kernel
theorem dX7_takesOne_71 : decode cX7_takesOne 71 = .ok (.iload_n 3, 1) := by decide +kernel
theorem dX7_takesOne_72 : decode cX7_takesOne 72 = .ok (.iadd, 1) := by decide +kernel
theorem dX7_takesOne_73 : decode cX7_takesOne 73 = .ok (.iconst 0, 1) := by decide +kernel
theorem dX7_takesOne_74 : decode cX7_takesOne 74 = .ok (.iastore, 1) := by decide +kernel
theorem dX7_takesOne_75 : decode cX7_takesOne 75 = .ok (.iinc 3 1, 3) := by decide +kernel
theorem dX7_takesOne_78 : decode cX7_takesOne 78 = .ok (.goto (-24), 3) := by decide +kernel
theorem dX7_takesOne_81 : decode cX7_takesOne 81 = .ok (.aload_n 0, 1) := by decide +kernel
theorem dX7_takesOne_82 : decode cX7_takesOne 82 = .ok (.getfield 16, 3) := by decide +kernel
theorem dX7_takesOne_85 : decode cX7_takesOne 85 = .ok (.iconst 1, 1) := by decide +kernel
theorem dX7_takesOne_86 : decode cX7_takesOne 86 = .ok (.dup2, 1) := by decide +kernel
theorem dX7_takesOne_87 : decode cX7_takesOne 87 = .ok (.iaload, 1) := by decide +kernel
theorem dX7_takesOne_88 : decode cX7_takesOne 88 = .ok (.iconst 1, 1) := by decide +kernel
theorem dX7_takesOne_89 : decode cX7_takesOne 89 = .ok (.iadd, 1) := by decide +kernel
theorem dX7_takesOne_90 : decode cX7_takesOne 90 = .ok (.iastore, 1) := by decide +kernel
theorem dX7_takesOne_91 : decode cX7_takesOne 91 = .ok (.iconst 1, 1) := by decide +kernel
theorem dX7_takesOne_92 : decode cX7_takesOne 92 = .ok (.ireturn, 1) := by decide +kernel
theorem dX7_takesTown_0 : decode cX7_takesTown 0 = .ok (.aload_n 0, 1) := by decide +kernel
theorem dX7_takesTown_1 : decode cX7_takesTown 1 = .ok (.iconst 1, 1) := by decide +kernel
theorem dX7_takesTown_2 : decode cX7_takesTown 2 = .ok (.iconst 4, 1) := by decide +kernel
theorem dX7_takesTown_3 : decode cX7_takesTown 3 = .ok (.invokevirtual 82, 3) := by decide +kernel
theorem dX7_takesTown_6 : decode cX7_takesTown 6 = .ok (.ifCond .ne 5, 3) := by decide +kernel
theorem dX7_takesTown_9 : decode cX7_takesTown 9 = .ok (.iconst 0, 1) := by decide +kernel
theorem dX7_takesTown_10 : decode cX7_takesTown 10 = .ok (.ireturn, 1) := by decide +kernel
theorem dX7_takesTown_11 : decode cX7_takesTown 11 = .ok (.aload_n 0, 1) := by decide +kernel
theorem dX7_takesTown_12 : decode cX7_takesTown 12 = .ok (.getfield 16, 3) := by decide +kernel
theorem dX7_takesTown_15 : decode cX7_takesTown 15 = .ok (.iconst 0, 1) := by decide +kernel
theorem dX7_takesTown_16 : decode cX7_takesTown 16 = .ok (.aload_n 0, 1) := by decide +kernel
theorem dX7_takesTown_17 : decode cX7_takesTown 17 = .ok (.getfield 76, 3) := by decide +kernel
theorem dX7_takesTown_20 : decode cX7_takesTown 20 = .ok (.iastore, 1) := by decide +kernel
theorem dX7_takesTown_21 : decode cX7_takesTown 21 = .ok (.aload_n 0, 1) := by decide +kernel
theorem dX7_takesTown_22 : decode cX7_takesTown 22 = .ok (.getfield 16, 3) := by decide +kernel
theorem dX7_takesTown_25 : decode cX7_takesTown 25 = .ok (.iconst 1, 1) := by decide +kernel
end
section
theorem dX7_takesTown_26 : decode cX7_takesTown 26 = .ok (.iconst 0, 1) := by decide +kernel
theorem dX7_takesTown_27 : decode cX7_takesTown 27 = .ok (.iastore, 1) := by decide +kernel
theorem dX7_takesTown_28 : decode cX7_takesTown 28 = .ok (.aload_n 0, 1) := by decide +kernel
theorem dX7_takesTown_29 : decode cX7_takesTown 29 = .ok (.getfield 16, 3) := by decide +kernel
theorem dX7_takesTown_32 : decode cX7_takesTown 32 = .ok (.iconst 2, 1) := by decide +kernel
theorem dX7_takesTown_33 : decode cX7_takesTown 33 = .ok (.iconst 0, 1) := by decide +kernel
theorem dX7_takesTown_34 : decode cX7_takesTown 34 = .ok (.iastore, 1) := by decide +kernel
theorem dX7_takesTown_35 : decode cX7_takesTown 35 = .ok (.iconst 1, 1) := by decide +kernel
theorem dX7_takesTown_36 : decode cX7_takesTown 36 = .ok (.ireturn, 1) := by decide +kernel
theorem dX7_takesRumour_0 : decode cX7_takesRumour 0 = .ok (.aload_n 0, 1) := by decide +kernel
theorem dX7_takesRumour_1 : decode cX7_takesRumour 1 = .ok (.getfield 16, 3) := by decide +kernel
theorem dX7_takesRumour_4 : decode cX7_takesRumour 4 = .ok (.iconst 2, 1) := by decide +kernel
theorem dX7_takesRumour_5 : decode cX7_takesRumour 5 = .ok (.iaload, 1) := by decide +kernel
theorem dX7_takesRumour_6 : decode cX7_takesRumour 6 = .ok (.bipush 8, 2) := by decide +kernel
theorem dX7_takesRumour_8 : decode cX7_takesRumour 8 = .ok (.if_icmp .eq 13, 3) := by decide +kernel
theorem dX7_takesRumour_11 : decode cX7_takesRumour 11 = .ok (.aload_n 0, 1) := by decide +kernel
theorem dX7_takesRumour_12 : decode cX7_takesRumour 12 = .ok (.iconst 0, 1) := by decide +kernel
theorem dX7_takesRumour_13 : decode cX7_takesRumour 13 = .ok (.bipush 63, 2) := by decide +kernel
theorem dX7_takesRumour_15 : decode cX7_takesRumour 15 = .ok (.invokevirtual 82, 3) := by decide +kernel
theorem dX7_takesRumour_18 : decode cX7_takesRumour 18 = .ok (.ifCond .ne 5, 3) := by decide +kernel
theorem dX7_takesRumour_21 : decode cX7_takesRumour 21 = .ok (.iconst 0, 1) := by decide +kernel
theorem dX7_takesRumour_22 : decode cX7_takesRumour 22 = .ok (.ireturn, 1) := by decide +kernel
theorem dX7_takesRumour_23 : decode cX7_takesRumour 23 = .ok (.aload_n 0, 1) := by decide +kernel
theorem dX7_takesRumour_24 : decode cX7_takesRumour 24 = .ok (.getfield 16, 3) := by decide +kernel
theorem dX7_takesRumour_27 : decode cX7_takesRumour 27 = .ok (.bipush 51, 2) := by decide +kernel
theorem dX7_takesRumour_29 : decode cX7_takesRumour 29 = .ok (.aload_n 0, 1) := by decide +kernel
theorem dX7_takesRumour_30 : decode cX7_takesRumour 30 = .ok (.getfield 16, 3) := by decide +kernel
theorem dX7_takesRumour_33 : decode cX7_takesRumour 33 = .ok (.iconst 2, 1) := by decide +kernel
theorem dX7_takesRumour_34 : decode cX7_takesRumour 34 = .ok (.iaload, 1) := by decide +kernel
theorem dX7_takesRumour_35 : decode cX7_takesRumour 35 = .ok (.iadd, 1) := by decide +kernel
theorem dX7_takesRumour_36 : decode cX7_takesRumour 36 = .ok (.aload_n 0, 1) := by decide +kernel
theorem dX7_takesRumour_37 : decode cX7_takesRumour 37 = .ok (.getfield 76, 3) := by decide +kernel
theorem dX7_takesRumour_40 : decode cX7_takesRumour 40 = .ok (.iastore, 1) := by decide +kernel
theorem dX7_takesRumour_41 : decode cX7_takesRumour 41 = .ok (.aload_n 0, 1) := by decide +kernel
theorem dX7_takesRumour_42 : decode cX7_takesRumour 42 = .ok (.getfield 16, 3) := by decide +kernel
theorem dX7_takesRumour_45 : decode cX7_takesRumour 45 = .ok (.iconst 2, 1) := by decide +kernel
theorem dX7_takesRumour_46 : decode cX7_takesRumour 46 = .ok (.dup2, 1) := by decide +kernel
theorem dX7_takesRumour_47 : decode cX7_takesRumour 47 = .ok (.iaload, 1) := by decide +kernel
theorem dX7_takesRumour_48 : decode cX7_takesRumour 48 = .ok (.iconst 1, 1) := by decide +kernel
theorem dX7_takesRumour_49 : decode cX7_takesRumour 49 = .ok (.iadd, 1) := by decide +kernel
theorem dX7_takesRumour_50 : decode cX7_takesRumour 50 = .ok (.iastore, 1) := by decide +kernel
theorem dX7_takesRumour_51 : decode cX7_takesRumour 51 = .ok (.iconst 1, 1) := by decide +kernel
theorem dX7_takesRumour_52 : decode cX7_takesRumour 52 = .ok (.ireturn, 1) := by decide +kernel
theorem dX7_takesBeard_0 : decode cX7_takesBeard 0 = .ok (.aload_n 0, 1) := by decide +kernel
theorem dX7_takesBeard_1 : decode cX7_takesBeard 1 = .ok (.iconst 0, 1) := by decide +kernel
theorem dX7_takesBeard_2 : decode cX7_takesBeard 2 = .ok (.aload_n 0, 1) := by decide +kernel
theorem dX7_takesBeard_3 : decode cX7_takesBeard 3 = .ok (.getfield 16, 3) := by decide +kernel
theorem dX7_takesBeard_6 : decode cX7_takesBeard 6 = .ok (.iconst 1, 1) := by decide +kernel
theorem dX7_takesBeard_7 : decode cX7_takesBeard 7 = .ok (.iaload, 1) := by decide +kernel
theorem dX7_takesBeard_8 : decode cX7_takesBeard 8 = .ok (.iconst 1, 1) := by decide +kernel
theorem dX7_takesBeard_9 : decode cX7_takesBeard 9 = .ok (.isub, 1) := by decide +kernel
theorem dX7_takesBeard_10 : decode cX7_takesBeard 10 = .ok (.invokevirtual 82, 3) := by decide +kernel
theorem dX7_takesBeard_13 : decode cX7_takesBeard 13 = .ok (.ifCond .ne 5, 3) := by decide +kernel
theorem dX7_takesBeard_16 : decode cX7_takesBeard 16 = .ok (.iconst 0, 1) := by decide +kernel
theorem dX7_takesBeard_17 : decode cX7_takesBeard 17 = .ok (.ireturn, 1) := by decide +kernel
theorem dX7_takesBeard_18 : decode cX7_takesBeard 18 = .ok (.aload_n 0, 1) := by decide +kernel
theorem dX7_takesBeard_19 : decode cX7_takesBeard 19 = .ok (.getfield 76, 3) := by decide +kernel
theorem dX7_takesBeard_22 : decode cX7_takesBeard 22 = .ok (.istore_n 1, 1) := by decide +kernel
theorem dX7_takesBeard_23 : decode cX7_takesBeard 23 = .ok (.aload_n 0, 1) := by decide +kernel
theorem dX7_takesBeard_24 : decode cX7_takesBeard 24 = .ok (.iconst 0, 1) := by decide +kernel
theorem dX7_takesBeard_25 : decode cX7_takesBeard 25 = .ok (.iconst 5, 1) := by decide +kernel
theorem dX7_takesBeard_26 : decode cX7_takesBeard 26 = .ok (.invokevirtual 82, 3) := by decide +kernel
theorem dX7_takesBeard_29 : decode cX7_takesBeard 29 = .ok (.ifCond .ne 5, 3) := by decide +kernel
theorem dX7_takesBeard_32 : decode cX7_takesBeard 32 = .ok (.iconst 0, 1) := by decide +kernel
theorem dX7_takesBeard_33 : decode cX7_takesBeard 33 = .ok (.ireturn, 1) := by decide +kernel
theorem dX7_takesBeard_34 : decode cX7_takesBeard 34 = .ok (.aload_n 0, 1) := by decide +kernel
theorem dX7_takesBeard_35 : decode cX7_takesBeard 35 = .ok (.getfield 76, 3) := by decide +kernel
theorem dX7_takesBeard_38 : decode cX7_takesBeard 38 = .ok (.istore_n 2, 1) := by decide +kernel
theorem dX7_takesBeard_39 : decode cX7_takesBeard 39 = .ok (.aload_n 0, 1) := by decide +kernel
theorem dX7_takesBeard_40 : decode cX7_takesBeard 40 = .ok (.iconst 0, 1) := by decide +kernel
theorem dX7_takesBeard_41 : decode cX7_takesBeard 41 = .ok (.bipush 9, 2) := by decide +kernel
theorem dX7_takesBeard_43 : decode cX7_takesBeard 43 = .ok (.invokevirtual 82, 3) := by decide +kernel
theorem dX7_takesBeard_46 : decode cX7_takesBeard 46 = .ok (.ifCond .ne 5, 3) := by decide +kernel
theorem dX7_takesBeard_49 : decode cX7_takesBeard 49 = .ok (.iconst 0, 1) := by decide +kernel
theorem dX7_takesBeard_50 : decode cX7_takesBeard 50 = .ok (.ireturn, 1) := by decide +kernel
theorem dX7_takesBeard_51 : decode cX7_takesBeard 51 = .ok (.aload_n 0, 1) := by decide +kernel
theorem dX7_takesBeard_52 : decode cX7_takesBeard 52 = .ok (.getfield 16, 3) := by decide +kernel
theorem dX7_takesBeard_55 : decode cX7_takesBeard 55 = .ok (.bipush 15, 2) := by decide +kernel
theorem dX7_takesBeard_57 : decode cX7_takesBeard 57 = .ok (.bipush 6, 2) := by decide +kernel
theorem dX7_takesBeard_59 : decode cX7_takesBeard 59 = .ok (.iload_n 1, 1) := by decide +kernel
theorem dX7_takesBeard_60 : decode cX7_takesBeard 60 = .ok (.imul, 1) := by decide +kernel
theorem dX7_takesBeard_61 : decode cX7_takesBeard 61 = .ok (.iadd, 1) := by decide +kernel
theorem dX7_takesBeard_62 : decode cX7_takesBeard 62 = .ok (.iload_n 2, 1) := by decide +kernel
theorem dX7_takesBeard_63 : decode cX7_takesBeard 63 = .ok (.iadd, 1) := by decide +kernel
theorem dX7_takesBeard_64 : decode cX7_takesBeard 64 = .ok (.aload_n 0, 1) := by decide +kernel
theorem dX7_takesBeard_65 : decode cX7_takesBeard 65 = .ok (.getfield 76, 3) := by decide +kernel
theorem dX7_takesBeard_68 : decode cX7_takesBeard 68 = .ok (.iastore, 1) := by decide +kernel
theorem dX7_takesBeard_69 : decode cX7_takesBeard 69 = .ok (.iconst 1, 1) := by decide +kernel
theorem dX7_takesBeard_70 : decode cX7_takesBeard 70 = .ok (.ireturn, 1) := by decide +kernel
theorem dX7_takesClause_0 : decode cX7_takesClause 0 = .ok (.aload_n 0, 1) := by decide +kernel
theorem dX7_takesClause_1 : decode cX7_takesClause 1 = .ok (.invokevirtual 86, 3) := by decide +kernel
theorem dX7_takesClause_4 : decode cX7_takesClause 4 = .ok (.aload_n 0, 1) := by decide +kernel
theorem dX7_takesClause_5 : decode cX7_takesClause 5 = .ok (.getfield 68, 3) := by decide +kernel
theorem dX7_takesClause_8 : decode cX7_takesClause 8 = .ok (.ldc2_w 89, 3) := by decide +kernel
theorem dX7_takesClause_11 : decode cX7_takesClause 11 = .ok (.lcmp, 1) := by decide +kernel
theorem dX7_takesClause_12 : decode cX7_takesClause 12 = .ok (.ifCond .ne 8, 3) := by decide +kernel
theorem dX7_takesClause_15 : decode cX7_takesClause 15 = .ok (.aload_n 0, 1) := by decide +kernel
theorem dX7_takesClause_16 : decode cX7_takesClause 16 = .ok (.invokevirtual 91, 3) := by decide +kernel
theorem dX7_takesClause_19 : decode cX7_takesClause 19 = .ok (.ireturn, 1) := by decide +kernel
theorem dX7_takesClause_20 : decode cX7_takesClause 20 = .ok (.aload_n 0, 1) := by decide +kernel
theorem dX7_takesClause_21 : decode cX7_takesClause 21 = .ok (.getfield 68, 3) := by decide +kernel
theorem dX7_takesClause_24 : decode cX7_takesClause 24 = .ok (.ldc2_w 95, 3) := by decide +kernel
theorem dX7_takesClause_27 : decode cX7_takesClause 27 = .ok (.lcmp, 1) := by decide +kernel
theorem dX7_takesClause_28 : decode cX7_takesClause 28 = .ok (.ifCond .ne 9, 3) := by decide +kernel
theorem dX7_takesClause_31 : decode cX7_takesClause 31 = .ok (.aload_n 0, 1) := by decide +kernel
theorem dX7_takesClause_32 : decode cX7_takesClause 32 = .ok (.iconst 0, 1) := by decide +kernel
theorem dX7_takesClause_33 : decode cX7_takesClause 33 = .ok (.invokevirtual 97, 3) := by decide +kernel
theorem dX7_takesClause_36 : decode cX7_takesClause 36 = .ok (.ireturn, 1) := by decide +kernel
theorem dX7_takesClause_37 : decode cX7_takesClause 37 = .ok (.aload_n 0, 1) := by decide +kernel
theorem dX7_takesClause_38 : decode cX7_takesClause 38 = .ok (.getfield 68, 3) := by decide +kernel
theorem dX7_takesClause_41 : decode cX7_takesClause 41 = .ok (.ldc2_w 100, 3) := by decide +kernel
theorem dX7_takesClause_44 : decode cX7_takesClause 44 = .ok (.lcmp, 1) := by decide +kernel
theorem dX7_takesClause_45 : decode cX7_takesClause 45 = .ok (.ifCond .ne 9, 3) := by decide +kernel
theorem dX7_takesClause_48 : decode cX7_takesClause 48 = .ok (.aload_n 0, 1) := by decide +kernel
theorem dX7_takesClause_49 : decode cX7_takesClause 49 = .ok (.iconst 1, 1) := by decide +kernel
theorem dX7_takesClause_50 : decode cX7_takesClause 50 = .ok (.invokevirtual 97, 3) := by decide +kernel
theorem dX7_takesClause_53 : decode cX7_takesClause 53 = .ok (.ireturn, 1) := by decide +kernel
theorem dX7_takesClause_54 : decode cX7_takesClause 54 = .ok (.aload_n 0, 1) := by decide +kernel
theorem dX7_takesClause_55 : decode cX7_takesClause 55 = .ok (.getfield 68, 3) := by decide +kernel
theorem dX7_takesClause_58 : decode cX7_takesClause 58 = .ok (.ldc2_w 102, 3) := by decide +kernel
theorem dX7_takesClause_61 : decode cX7_takesClause 61 = .ok (.lcmp, 1) := by decide +kernel
theorem dX7_takesClause_62 : decode cX7_takesClause 62 = .ok (.ifCond .ne 9, 3) := by decide +kernel
theorem dX7_takesClause_65 : decode cX7_takesClause 65 = .ok (.aload_n 0, 1) := by decide +kernel
theorem dX7_takesClause_66 : decode cX7_takesClause 66 = .ok (.iconst 2, 1) := by decide +kernel
theorem dX7_takesClause_67 : decode cX7_takesClause 67 = .ok (.invokevirtual 97, 3) := by decide +kernel
theorem dX7_takesClause_70 : decode cX7_takesClause 70 = .ok (.ireturn, 1) := by decide +kernel
theorem dX7_takesClause_71 : decode cX7_takesClause 71 = .ok (.aload_n 0, 1) := by decide +kernel
theorem dX7_takesClause_72 : decode cX7_takesClause 72 = .ok (.getfield 68, 3) := by decide +kernel
theorem dX7_takesClause_75 : decode cX7_takesClause 75 = .ok (.ldc2_w 104, 3) := by decide +kernel
theorem dX7_takesClause_78 : decode cX7_takesClause 78 = .ok (.lcmp, 1) := by decide +kernel
theorem dX7_takesClause_79 : decode cX7_takesClause 79 = .ok (.ifCond .ne 9, 3) := by decide +kernel
theorem dX7_takesClause_82 : decode cX7_takesClause 82 = .ok (.aload_n 0, 1) := by decide +kernel
theorem dX7_takesClause_83 : decode cX7_takesClause 83 = .ok (.iconst 3, 1) := by decide +kernel
theorem dX7_takesClause_84 : decode cX7_takesClause 84 = .ok (.invokevirtual 97, 3) := by decide +kernel
theorem dX7_takesClause_87 : decode cX7_takesClause 87 = .ok (.ireturn, 1) := by decide +kernel
theorem dX7_takesClause_88 : decode cX7_takesClause 88 = .ok (.aload_n 0, 1) := by decide +kernel
theorem dX7_takesClause_89 : decode cX7_takesClause 89 = .ok (.getfield 68, 3) := by decide +kernel
theorem dX7_takesClause_92 : decode cX7_takesClause 92 = .ok (.ldc2_w 106, 3) := by decide +kernel
theorem dX7_takesClause_95 : decode cX7_takesClause 95 = .ok (.lcmp, 1) := by decide +kernel
theorem dX7_takesClause_96 : decode cX7_takesClause 96 = .ok (.ifCond .ne 8, 3) := by decide +kernel
theorem dX7_takesClause_99 : decode cX7_takesClause 99 = .ok (.aload_n 0, 1) := by decide +kernel
theorem dX7_takesClause_100 : decode cX7_takesClause 100 = .ok (.invokevirtual 108, 3) := by decide +kernel
theorem dX7_takesClause_103 : decode cX7_takesClause 103 = .ok (.ireturn, 1) := by decide +kernel
theorem dX7_takesClause_104 : decode cX7_takesClause 104 = .ok (.aload_n 0, 1) := by decide +kernel
theorem dX7_takesClause_105 : decode cX7_takesClause 105 = .ok (.getfield 68, 3) := by decide +kernel
theorem dX7_takesClause_108 : decode cX7_takesClause 108 = .ok (.ldc2_w 111, 3) := by decide +kernel
theorem dX7_takesClause_111 : decode cX7_takesClause 111 = .ok (.lcmp, 1) := by decide +kernel
theorem dX7_takesClause_112 : decode cX7_takesClause 112 = .ok (.ifCond .ne 14, 3) := by decide +kernel
theorem dX7_takesClause_115 : decode cX7_takesClause 115 = .ok (.aload_n 0, 1) := by decide +kernel
theorem dX7_takesClause_116 : decode cX7_takesClause 116 = .ok (.invokevirtual 113, 3) := by decide +kernel
theorem dX7_takesClause_119 : decode cX7_takesClause 119 = .ok (.ifCond .eq 7, 3) := by decide +kernel
theorem dX7_takesClause_122 : decode cX7_takesClause 122 = .ok (.iconst 1, 1) := by decide +kernel
theorem dX7_takesClause_123 : decode cX7_takesClause 123 = .ok (.goto 4, 3) := by decide +kernel
theorem dX7_takesClause_126 : decode cX7_takesClause 126 = .ok (.iconst 0, 1) := by decide +kernel
theorem dX7_takesClause_127 : decode cX7_takesClause 127 = .ok (.ireturn, 1) := by decide +kernel
theorem dX7_reads_0 : decode cX7_reads 0 = .ok (.iconst 0, 1) := by decide +kernel
theorem dX7_reads_1 : decode cX7_reads 1 = .ok (.istore_n 1, 1) := by decide +kernel
theorem dX7_reads_2 : decode cX7_reads 2 = .ok (.iload_n 1, 1) := by decide +kernel
theorem dX7_reads_3 : decode cX7_reads 3 = .ok (.bipush 59, 2) := by decide +kernel
theorem dX7_reads_5 : decode cX7_reads 5 = .ok (.if_icmp .ge 21, 3) := by decide +kernel
theorem dX7_reads_8 : decode cX7_reads 8 = .ok (.aload_n 0, 1) := by decide +kernel
theorem dX7_reads_9 : decode cX7_reads 9 = .ok (.getfield 16, 3) := by decide +kernel
theorem dX7_reads_12 : decode cX7_reads 12 = .ok (.iload_n 1, 1) := by decide +kernel
theorem dX7_reads_13 : decode cX7_reads 13 = .ok (.aload_n 0, 1) := by decide +kernel
theorem dX7_reads_14 : decode cX7_reads 14 = .ok (.getfield 13, 3) := by decide +kernel
theorem dX7_reads_17 : decode cX7_reads 17 = .ok (.iload_n 1, 1) := by decide +kernel
theorem dX7_reads_18 : decode cX7_reads 18 = .ok (.iaload, 1) := by decide +kernel
theorem dX7_reads_19 : decode cX7_reads 19 = .ok (.iastore, 1) := by decide +kernel
theorem dX7_reads_20 : decode cX7_reads 20 = .ok (.iinc 1 1, 3) := by decide +kernel
theorem dX7_reads_23 : decode cX7_reads 23 = .ok (.goto (-21), 3) := by decide +kernel
theorem dX7_reads_26 : decode cX7_reads 26 = .ok (.aload_n 0, 1) := by decide +kernel
theorem dX7_reads_27 : decode cX7_reads 27 = .ok (.iconst 0, 1) := by decide +kernel
theorem dX7_reads_28 : decode cX7_reads 28 = .ok (.putfield 59, 3) := by decide +kernel
theorem dX7_reads_31 : decode cX7_reads 31 = .ok (.aload_n 0, 1) := by decide +kernel
theorem dX7_reads_32 : decode cX7_reads 32 = .ok (.iconst 0, 1) := by decide +kernel
theorem dX7_reads_33 : decode cX7_reads 33 = .ok (.putfield 116, 3) := by decide +kernel
theorem dX7_reads_36 : decode cX7_reads 36 = .ok (.aload_n 0, 1) := by decide +kernel
theorem dX7_reads_37 : decode cX7_reads 37 = .ok (.invokevirtual 119, 3) := by decide +kernel
theorem dX7_reads_40 : decode cX7_reads 40 = .ok (.ifCond .ne 8, 3) := by decide +kernel
theorem dX7_reads_43 : decode cX7_reads 43 = .ok (.aload_n 0, 1) := by decide +kernel
theorem dX7_reads_44 : decode cX7_reads 44 = .ok (.getfield 62, 3) := by decide +kernel
theorem dX7_reads_47 : decode cX7_reads 47 = .ok (.ireturn, 1) := by decide +kernel
theorem dX7_reads_48 : decode cX7_reads 48 = .ok (.aload_n 0, 1) := by decide +kernel
theorem dX7_reads_49 : decode cX7_reads 49 = .ok (.dup, 1) := by decide +kernel
theorem dX7_reads_50 : decode cX7_reads 50 = .ok (.getfield 116, 3) := by decide +kernel
theorem dX7_reads_53 : decode cX7_reads 53 = .ok (.iconst 1, 1) := by decide +kernel
theorem dX7_reads_54 : decode cX7_reads 54 = .ok (.iadd, 1) := by decide +kernel
theorem dX7_reads_55 : decode cX7_reads 55 = .ok (.putfield 116, 3) := by decide +kernel
theorem dX7_reads_58 : decode cX7_reads 58 = .ok (.aload_n 0, 1) := by decide +kernel
theorem dX7_reads_59 : decode cX7_reads 59 = .ok (.invokevirtual 65, 3) := by decide +kernel
theorem dX7_reads_62 : decode cX7_reads 62 = .ok (.aload_n 0, 1) := by decide +kernel
theorem dX7_reads_63 : decode cX7_reads 63 = .ok (.getfield 59, 3) := by decide +kernel
theorem dX7_reads_66 : decode cX7_reads 66 = .ok (.aload_n 0, 1) := by decide +kernel
theorem dX7_reads_67 : decode cX7_reads 67 = .ok (.getfield 43, 3) := by decide +kernel
theorem dX7_reads_70 : decode cX7_reads 70 = .ok (.if_icmp .ne 5, 3) := by decide +kernel
theorem dX7_reads_73 : decode cX7_reads 73 = .ok (.iconst (-1), 1) := by decide +kernel
theorem dX7_reads_74 : decode cX7_reads 74 = .ok (.ireturn, 1) := by decide +kernel
theorem dX7_reads_75 : decode cX7_reads 75 = .ok (.aload_n 0, 1) := by decide +kernel
theorem dX7_reads_76 : decode cX7_reads 76 = .ok (.aload_n 0, 1) := by decide +kernel
theorem dX7_reads_77 : decode cX7_reads 77 = .ok (.getfield 59, 3) := by decide +kernel
theorem dX7_reads_80 : decode cX7_reads 80 = .ok (.invokevirtual 47, 3) := by decide +kernel
theorem dX7_reads_83 : decode cX7_reads 83 = .ok (.bipush 59, 2) := by decide +kernel
theorem dX7_reads_85 : decode cX7_reads 85 = .ok (.if_icmp .ne 12, 3) := by decide +kernel
theorem dX7_reads_88 : decode cX7_reads 88 = .ok (.aload_n 0, 1) := by decide +kernel
theorem dX7_reads_89 : decode cX7_reads 89 = .ok (.getfield 116, 3) := by decide +kernel
theorem dX7_reads_92 : decode cX7_reads 92 = .ok (.bipush 14, 2) := by decide +kernel
theorem dX7_reads_94 : decode cX7_reads 94 = .ok (.if_icmp .ne 8, 3) := by decide +kernel
theorem dX7_reads_97 : decode cX7_reads 97 = .ok (.aload_n 0, 1) := by decide +kernel
theorem dX7_reads_98 : decode cX7_reads 98 = .ok (.getfield 62, 3) := by decide +kernel
theorem dX7_reads_101 : decode cX7_reads 101 = .ok (.ireturn, 1) := by decide +kernel
theorem dX7_reads_102 : decode cX7_reads 102 = .ok (.aload_n 0, 1) := by decide +kernel
theorem dX7_reads_103 : decode cX7_reads 103 = .ok (.dup, 1) := by decide +kernel
theorem dX7_reads_104 : decode cX7_reads 104 = .ok (.getfield 59, 3) := by decide +kernel
theorem dX7_reads_107 : decode cX7_reads 107 = .ok (.iconst 1, 1) := by decide +kernel
theorem dX7_reads_108 : decode cX7_reads 108 = .ok (.iadd, 1) := by decide +kernel
theorem dX7_reads_109 : decode cX7_reads 109 = .ok (.putfield 59, 3) := by decide +kernel
theorem dX7_reads_112 : decode cX7_reads 112 = .ok (.goto (-76), 3) := by decide +kernel
theorem dX7_fault_0 : decode cX7_fault 0 = .ok (.aload_n 0, 1) := by decide +kernel
theorem dX7_fault_1 : decode cX7_fault 1 = .ok (.invokevirtual 122, 3) := by decide +kernel
theorem dX7_fault_4 : decode cX7_fault 4 = .ok (.ireturn, 1) := by decide +kernel
theorem dX7_town_0 : decode cX7_town 0 = .ok (.aload_n 0, 1) := by decide +kernel
theorem dX7_town_1 : decode cX7_town 1 = .ok (.invokevirtual 122, 3) := by decide +kernel
theorem dX7_town_4 : decode cX7_town 4 = .ok (.iconst (-1), 1) := by decide +kernel
theorem dX7_town_5 : decode cX7_town 5 = .ok (.if_icmp .eq 6, 3) := by decide +kernel
theorem dX7_town_8 : decode cX7_town 8 = .ok (.bipush (-4), 2) := by decide +kernel
theorem dX7_town_10 : decode cX7_town 10 = .ok (.ireturn, 1) := by decide +kernel
theorem dX7_town_11 : decode cX7_town 11 = .ok (.aload_n 0, 1) := by decide +kernel
theorem dX7_town_12 : decode cX7_town 12 = .ok (.iconst 0, 1) := by decide +kernel
theorem dX7_town_13 : decode cX7_town 13 = .ok (.putfield 43, 3) := by decide +kernel
theorem dX7_town_16 : decode cX7_town 16 = .ok (.iconst 0, 1) := by decide +kernel
theorem dX7_town_17 : decode cX7_town 17 = .ok (.istore_n 1, 1) := by decide +kernel
theorem dX7_town_18 : decode cX7_town 18 = .ok (.iload_n 1, 1) := by decide +kernel
theorem dX7_town_19 : decode cX7_town 19 = .ok (.bipush 59, 2) := by decide +kernel
theorem dX7_town_21 : decode cX7_town 21 = .ok (.if_icmp .ge 21, 3) := by decide +kernel
theorem dX7_town_24 : decode cX7_town 24 = .ok (.aload_n 0, 1) := by decide +kernel
theorem dX7_town_25 : decode cX7_town 25 = .ok (.getfield 13, 3) := by decide +kernel
theorem dX7_town_28 : decode cX7_town 28 = .ok (.iload_n 1, 1) := by decide +kernel
theorem dX7_town_29 : decode cX7_town 29 = .ok (.aload_n 0, 1) := by decide +kernel
theorem dX7_town_30 : decode cX7_town 30 = .ok (.getfield 16, 3) := by decide +kernel
theorem dX7_town_33 : decode cX7_town 33 = .ok (.iload_n 1, 1) := by decide +kernel
theorem dX7_town_34 : decode cX7_town 34 = .ok (.iaload, 1) := by decide +kernel
theorem dX7_town_35 : decode cX7_town 35 = .ok (.iastore, 1) := by decide +kernel
theorem dX7_town_36 : decode cX7_town 36 = .ok (.iinc 1 1, 3) := by decide +kernel
theorem dX7_town_39 : decode cX7_town 39 = .ok (.goto (-21), 3) := by decide +kernel
theorem dX7_town_42 : decode cX7_town 42 = .ok (.iconst 0, 1) := by decide +kernel
theorem dX7_town_43 : decode cX7_town 43 = .ok (.istore_n 1, 1) := by decide +kernel
theorem dX7_town_44 : decode cX7_town 44 = .ok (.iload_n 1, 1) := by decide +kernel
theorem dX7_town_45 : decode cX7_town 45 = .ok (.bipush 85, 2) := by decide +kernel
theorem dX7_town_47 : decode cX7_town 47 = .ok (.if_icmp .ge 16, 3) := by decide +kernel
theorem dX7_town_50 : decode cX7_town 50 = .ok (.aload_n 0, 1) := by decide +kernel
theorem dX7_town_51 : decode cX7_town 51 = .ok (.getfield 7, 3) := by decide +kernel
theorem dX7_town_54 : decode cX7_town 54 = .ok (.iload_n 1, 1) := by decide +kernel
theorem dX7_town_55 : decode cX7_town 55 = .ok (.iconst 0, 1) := by decide +kernel
theorem dX7_town_56 : decode cX7_town 56 = .ok (.iastore, 1) := by decide +kernel
theorem dX7_town_57 : decode cX7_town 57 = .ok (.iinc 1 1, 3) := by decide +kernel
theorem dX7_town_60 : decode cX7_town 60 = .ok (.goto (-16), 3) := by decide +kernel
theorem dX7_town_63 : decode cX7_town 63 = .ok (.iconst 0, 1) := by decide +kernel
theorem dX7_town_64 : decode cX7_town 64 = .ok (.istore_n 1, 1) := by decide +kernel
theorem dX7_town_65 : decode cX7_town 65 = .ok (.iload_n 1, 1) := by decide +kernel
theorem dX7_town_66 : decode cX7_town 66 = .ok (.bipush 36, 2) := by decide +kernel
theorem dX7_town_68 : decode cX7_town 68 = .ok (.if_icmp .ge 26, 3) := by decide +kernel
theorem dX7_town_71 : decode cX7_town 71 = .ok (.aload_n 0, 1) := by decide +kernel
theorem dX7_town_72 : decode cX7_town 72 = .ok (.getfield 7, 3) := by decide +kernel
theorem dX7_town_75 : decode cX7_town 75 = .ok (.iconst 1, 1) := by decide +kernel
theorem dX7_town_76 : decode cX7_town 76 = .ok (.iload_n 1, 1) := by decide +kernel
theorem dX7_town_77 : decode cX7_town 77 = .ok (.iadd, 1) := by decide +kernel
theorem dX7_town_78 : decode cX7_town 78 = .ok (.aload_n 0, 1) := by decide +kernel
theorem dX7_town_79 : decode cX7_town 79 = .ok (.getfield 13, 3) := by decide +kernel
theorem dX7_town_82 : decode cX7_town 82 = .ok (.bipush 15, 2) := by decide +kernel
theorem dX7_town_84 : decode cX7_town 84 = .ok (.iload_n 1, 1) := by decide +kernel
theorem dX7_town_85 : decode cX7_town 85 = .ok (.iadd, 1) := by decide +kernel
theorem dX7_town_86 : decode cX7_town 86 = .ok (.iaload, 1) := by decide +kernel
theorem dX7_town_87 : decode cX7_town 87 = .ok (.iastore, 1) := by decide +kernel
theorem dX7_town_88 : decode cX7_town 88 = .ok (.iinc 1 1, 3) := by decide +kernel
theorem dX7_town_91 : decode cX7_town 91 = .ok (.goto (-26), 3) := by decide +kernel
theorem dX7_town_94 : decode cX7_town 94 = .ok (.aload_n 0, 1) := by decide +kernel
theorem dX7_town_95 : decode cX7_town 95 = .ok (.iconst 0, 1) := by decide +kernel
theorem dX7_town_96 : decode cX7_town 96 = .ok (.putfield 126, 3) := by decide +kernel
theorem dX7_town_99 : decode cX7_town 99 = .ok (.aload_n 0, 1) := by decide +kernel
theorem dX7_town_100 : decode cX7_town 100 = .ok (.iconst 0, 1) := by decide +kernel
theorem dX7_town_101 : decode cX7_town 101 = .ok (.putfield 129, 3) := by decide +kernel
theorem dX7_town_104 : decode cX7_town 104 = .ok (.aload_n 0, 1) := by decide +kernel
theorem dX7_town_105 : decode cX7_town 105 = .ok (.getfield 19, 3) := by decide +kernel
theorem dX7_town_108 : decode cX7_town 108 = .ok (.iconst 0, 1) := by decide +kernel
theorem dX7_town_109 : decode cX7_town 109 = .ok (.iconst 0, 1) := by decide +kernel
theorem dX7_town_110 : decode cX7_town 110 = .ok (.bastore, 1) := by decide +kernel
theorem dX7_town_111 : decode cX7_town 111 = .ok (.aload_n 0, 1) := by decide +kernel
theorem dX7_town_112 : decode cX7_town 112 = .ok (.getfield 19, 3) := by decide +kernel
theorem dX7_town_115 : decode cX7_town 115 = .ok (.iconst 1, 1) := by decide +kernel
theorem dX7_town_116 : decode cX7_town 116 = .ok (.iconst 0, 1) := by decide +kernel
theorem dX7_town_117 : decode cX7_town 117 = .ok (.bastore, 1) := by decide +kernel
theorem dX7_town_118 : decode cX7_town 118 = .ok (.aload_n 0, 1) := by decide +kernel
theorem dX7_town_119 : decode cX7_town 119 = .ok (.getfield 116, 3) := by decide +kernel
theorem dX7_town_122 : decode cX7_town 122 = .ok (.ireturn, 1) := by decide +kernel
theorem dX7_tells_0 : decode cX7_tells 0 = .ok (.aload_n 0, 1) := by decide +kernel
theorem dX7_tells_1 : decode cX7_tells 1 = .ok (.getfield 13, 3) := by decide +kernel
theorem dX7_tells_4 : decode cX7_tells 4 = .ok (.bipush 9, 2) := by decide +kernel
theorem dX7_tells_6 : decode cX7_tells 6 = .ok (.iload_n 1, 1) := by decide +kernel
theorem dX7_tells_7 : decode cX7_tells 7 = .ok (.iadd, 1) := by decide +kernel
theorem dX7_tells_8 : decode cX7_tells 8 = .ok (.iaload, 1) := by decide +kernel
theorem dX7_tells_9 : decode cX7_tells 9 = .ok (.iload_n 2, 1) := by decide +kernel
theorem dX7_tells_10 : decode cX7_tells 10 = .ok (.ishr, 1) := by decide +kernel
theorem dX7_tells_11 : decode cX7_tells 11 = .ok (.iconst 1, 1) := by decide +kernel
theorem dX7_tells_12 : decode cX7_tells 12 = .ok (.iand, 1) := by decide +kernel
theorem dX7_tells_13 : decode cX7_tells 13 = .ok (.istore 4, 2) := by decide +kernel
theorem dX7_tells_15 : decode cX7_tells 15 = .ok (.aload_n 0, 1) := by decide +kernel
theorem dX7_tells_16 : decode cX7_tells 16 = .ok (.getfield 13, 3) := by decide +kernel
theorem dX7_tells_19 : decode cX7_tells 19 = .ok (.iconst 3, 1) := by decide +kernel
theorem dX7_tells_20 : decode cX7_tells 20 = .ok (.iload_n 1, 1) := by decide +kernel
theorem dX7_tells_21 : decode cX7_tells 21 = .ok (.iadd, 1) := by decide +kernel
theorem dX7_tells_22 : decode cX7_tells 22 = .ok (.iaload, 1) := by decide +kernel
theorem dX7_tells_23 : decode cX7_tells 23 = .ok (.tableswitch 64 1 3 #[25, 37, 49], 25) := by decide +kernel
theorem dX7_tells_48 : decode cX7_tells 48 = .ok (.iload_n 3, 1) := by decide +kernel
theorem dX7_tells_49 : decode cX7_tells 49 = .ok (.iconst 3, 1) := by decide +kernel
theorem dX7_tells_50 : decode cX7_tells 50 = .ok (.if_icmp .ge 7, 3) := by decide +kernel
theorem dX7_tells_53 : decode cX7_tells 53 = .ok (.iconst (-1), 1) := by decide +kernel
theorem dX7_tells_54 : decode cX7_tells 54 = .ok (.goto 5, 3) := by decide +kernel
theorem dX7_tells_57 : decode cX7_tells 57 = .ok (.iload 4, 2) := by decide +kernel
theorem dX7_tells_59 : decode cX7_tells 59 = .ok (.ireturn, 1) := by decide +kernel
theorem dX7_tells_60 : decode cX7_tells 60 = .ok (.iload_n 2, 1) := by decide +kernel
theorem dX7_tells_61 : decode cX7_tells 61 = .ok (.iconst 2, 1) := by decide +kernel
theorem dX7_tells_62 : decode cX7_tells 62 = .ok (.if_icmp .ne 7, 3) := by decide +kernel
theorem dX7_tells_65 : decode cX7_tells 65 = .ok (.iconst (-1), 1) := by decide +kernel
theorem dX7_tells_66 : decode cX7_tells 66 = .ok (.goto 5, 3) := by decide +kernel
theorem dX7_tells_69 : decode cX7_tells 69 = .ok (.iload 4, 2) := by decide +kernel
theorem dX7_tells_71 : decode cX7_tells 71 = .ok (.ireturn, 1) := by decide +kernel
theorem dX7_tells_72 : decode cX7_tells 72 = .ok (.iload_n 3, 1) := by decide +kernel
theorem dX7_tells_73 : decode cX7_tells 73 = .ok (.iconst 5, 1) := by decide +kernel
theorem dX7_tells_74 : decode cX7_tells 74 = .ok (.if_icmp .ge 8, 3) := by decide +kernel
theorem dX7_tells_77 : decode cX7_tells 77 = .ok (.iload 4, 2) := by decide +kernel
theorem dX7_tells_79 : decode cX7_tells 79 = .ok (.goto 7, 3) := by decide +kernel
theorem dX7_tells_82 : decode cX7_tells 82 = .ok (.iconst 1, 1) := by decide +kernel
theorem dX7_tells_83 : decode cX7_tells 83 = .ok (.iload 4, 2) := by decide +kernel
theorem dX7_tells_85 : decode cX7_tells 85 = .ok (.isub, 1) := by decide +kernel
theorem dX7_tells_86 : decode cX7_tells 86 = .ok (.ireturn, 1) := by decide +kernel
theorem dX7_tells_87 : decode cX7_tells 87 = .ok (.iload 4, 2) := by decide +kernel
theorem dX7_tells_89 : decode cX7_tells 89 = .ok (.ireturn, 1) := by decide +kernel
theorem dX7_knowsPart_0 : decode cX7_knowsPart 0 = .ok (.bipush 6, 2) := by decide +kernel
theorem dX7_knowsPart_2 : decode cX7_knowsPart 2 = .ok (.iload_n 2, 1) := by decide +kernel
theorem dX7_knowsPart_3 : decode cX7_knowsPart 3 = .ok (.imul, 1) := by decide +kernel
theorem dX7_knowsPart_4 : decode cX7_knowsPart 4 = .ok (.iload_n 3, 1) := by decide +kernel
theorem dX7_knowsPart_5 : decode cX7_knowsPart 5 = .ok (.iadd, 1) := by decide +kernel
theorem dX7_knowsPart_6 : decode cX7_knowsPart 6 = .ok (.istore 6, 2) := by decide +kernel
theorem dX7_knowsPart_8 : decode cX7_knowsPart 8 = .ok (.aload_n 0, 1) := by decide +kernel
theorem dX7_knowsPart_9 : decode cX7_knowsPart 9 = .ok (.getfield 7, 3) := by decide +kernel
theorem dX7_knowsPart_12 : decode cX7_knowsPart 12 = .ok (.iload_n 1, 1) := by decide +kernel
theorem dX7_knowsPart_13 : decode cX7_knowsPart 13 = .ok (.bipush 37, 2) := by decide +kernel
theorem dX7_knowsPart_15 : decode cX7_knowsPart 15 = .ok (.iadd, 1) := by decide +kernel
theorem dX7_knowsPart_16 : decode cX7_knowsPart 16 = .ok (.iload 6, 2) := by decide +kernel
theorem dX7_knowsPart_18 : decode cX7_knowsPart 18 = .ok (.iadd, 1) := by decide +kernel
theorem dX7_knowsPart_19 : decode cX7_knowsPart 19 = .ok (.dup2, 1) := by decide +kernel
theorem dX7_knowsPart_20 : decode cX7_knowsPart 20 = .ok (.iaload, 1) := by decide +kernel
theorem dX7_knowsPart_21 : decode cX7_knowsPart 21 = .ok (.iconst 1, 1) := by decide +kernel
theorem dX7_knowsPart_22 : decode cX7_knowsPart 22 = .ok (.iload 4, 2) := by decide +kernel
theorem dX7_knowsPart_24 : decode cX7_knowsPart 24 = .ok (.ishl, 1) := by decide +kernel
theorem dX7_knowsPart_25 : decode cX7_knowsPart 25 = .ok (.ior, 1) := by decide +kernel
theorem dX7_knowsPart_26 : decode cX7_knowsPart 26 = .ok (.iastore, 1) := by decide +kernel
theorem dX7_knowsPart_27 : decode cX7_knowsPart 27 = .ok (.aload_n 0, 1) := by decide +kernel
theorem dX7_knowsPart_28 : decode cX7_knowsPart 28 = .ok (.getfield 7, 3) := by decide +kernel
theorem dX7_knowsPart_31 : decode cX7_knowsPart 31 = .ok (.iload_n 1, 1) := by decide +kernel
theorem dX7_knowsPart_32 : decode cX7_knowsPart 32 = .ok (.bipush 61, 2) := by decide +kernel
theorem dX7_knowsPart_34 : decode cX7_knowsPart 34 = .ok (.iadd, 1) := by decide +kernel
theorem dX7_knowsPart_35 : decode cX7_knowsPart 35 = .ok (.iload 6, 2) := by decide +kernel
theorem dX7_knowsPart_37 : decode cX7_knowsPart 37 = .ok (.iadd, 1) := by decide +kernel
theorem dX7_knowsPart_38 : decode cX7_knowsPart 38 = .ok (.iload 5, 2) := by decide +kernel
theorem dX7_knowsPart_40 : decode cX7_knowsPart 40 = .ok (.iconst 1, 1) := by decide +kernel
theorem dX7_knowsPart_41 : decode cX7_knowsPart 41 = .ok (.if_icmp .ne 23, 3) := by decide +kernel
theorem dX7_knowsPart_44 : decode cX7_knowsPart 44 = .ok (.aload_n 0, 1) := by decide +kernel
theorem dX7_knowsPart_45 : decode cX7_knowsPart 45 = .ok (.getfield 7, 3) := by decide +kernel
theorem dX7_knowsPart_48 : decode cX7_knowsPart 48 = .ok (.iload_n 1, 1) := by decide +kernel
theorem dX7_knowsPart_49 : decode cX7_knowsPart 49 = .ok (.bipush 61, 2) := by decide +kernel
theorem dX7_knowsPart_51 : decode cX7_knowsPart 51 = .ok (.iadd, 1) := by decide +kernel
theorem dX7_knowsPart_52 : decode cX7_knowsPart 52 = .ok (.iload 6, 2) := by decide +kernel
theorem dX7_knowsPart_54 : decode cX7_knowsPart 54 = .ok (.iadd, 1) := by decide +kernel
theorem dX7_knowsPart_55 : decode cX7_knowsPart 55 = .ok (.iaload, 1) := by decide +kernel
theorem dX7_knowsPart_56 : decode cX7_knowsPart 56 = .ok (.iconst 1, 1) := by decide +kernel
theorem dX7_knowsPart_57 : decode cX7_knowsPart 57 = .ok (.iload 4, 2) := by decide +kernel
theorem dX7_knowsPart_59 : decode cX7_knowsPart 59 = .ok (.ishl, 1) := by decide +kernel
theorem dX7_knowsPart_60 : decode cX7_knowsPart 60 = .ok (.ior, 1) := by decide +kernel
theorem dX7_knowsPart_61 : decode cX7_knowsPart 61 = .ok (.goto 22, 3) := by decide +kernel
theorem dX7_knowsPart_64 : decode cX7_knowsPart 64 = .ok (.aload_n 0, 1) := by decide +kernel
theorem dX7_knowsPart_65 : decode cX7_knowsPart 65 = .ok (.getfield 7, 3) := by decide +kernel
theorem dX7_knowsPart_68 : decode cX7_knowsPart 68 = .ok (.iload_n 1, 1) := by decide +kernel
theorem dX7_knowsPart_69 : decode cX7_knowsPart 69 = .ok (.bipush 61, 2) := by decide +kernel
theorem dX7_knowsPart_71 : decode cX7_knowsPart 71 = .ok (.iadd, 1) := by decide +kernel
theorem dX7_knowsPart_72 : decode cX7_knowsPart 72 = .ok (.iload 6, 2) := by decide +kernel
theorem dX7_knowsPart_74 : decode cX7_knowsPart 74 = .ok (.iadd, 1) := by decide +kernel
theorem dX7_knowsPart_75 : decode cX7_knowsPart 75 = .ok (.iaload, 1) := by decide +kernel
theorem dX7_knowsPart_76 : decode cX7_knowsPart 76 = .ok (.iconst 1, 1) := by decide +kernel
theorem dX7_knowsPart_77 : decode cX7_knowsPart 77 = .ok (.iload 4, 2) := by decide +kernel
theorem dX7_knowsPart_79 : decode cX7_knowsPart 79 = .ok (.ishl, 1) := by decide +kernel
theorem dX7_knowsPart_80 : decode cX7_knowsPart 80 = .ok (.iconst (-1), 1) := by decide +kernel
theorem dX7_knowsPart_81 : decode cX7_knowsPart 81 = .ok (.ixor, 1) := by decide +kernel
theorem dX7_knowsPart_82 : decode cX7_knowsPart 82 = .ok (.iand, 1) := by decide +kernel
theorem dX7_knowsPart_83 : decode cX7_knowsPart 83 = .ok (.iastore, 1) := by decide +kernel
theorem dX7_knowsPart_84 : decode cX7_knowsPart 84 = .ok (.return_, 1) := by decide +kernel
theorem dX7_shaves_0 : decode cX7_shaves 0 = .ok (.aload_n 0, 1) := by decide +kernel
theorem dX7_shaves_1 : decode cX7_shaves 1 = .ok (.iload_n 3, 1) := by decide +kernel
theorem dX7_shaves_2 : decode cX7_shaves 2 = .ok (.iload 4, 2) := by decide +kernel
theorem dX7_shaves_4 : decode cX7_shaves 4 = .ok (.aload_n 0, 1) := by decide +kernel
theorem dX7_shaves_5 : decode cX7_shaves 5 = .ok (.getfield 7, 3) := by decide +kernel
theorem dX7_shaves_8 : decode cX7_shaves 8 = .ok (.iload_n 1, 1) := by decide +kernel
theorem dX7_shaves_9 : decode cX7_shaves 9 = .ok (.iconst 1, 1) := by decide +kernel
theorem dX7_shaves_10 : decode cX7_shaves 10 = .ok (.iadd, 1) := by decide +kernel
theorem dX7_shaves_11 : decode cX7_shaves 11 = .ok (.bipush 6, 2) := by decide +kernel
theorem dX7_shaves_13 : decode cX7_shaves 13 = .ok (.iload_n 3, 1) := by decide +kernel
theorem dX7_shaves_14 : decode cX7_shaves 14 = .ok (.imul, 1) := by decide +kernel
theorem dX7_shaves_15 : decode cX7_shaves 15 = .ok (.iadd, 1) := by decide +kernel
theorem dX7_shaves_16 : decode cX7_shaves 16 = .ok (.iload 4, 2) := by decide +kernel
theorem dX7_shaves_18 : decode cX7_shaves 18 = .ok (.iadd, 1) := by decide +kernel
theorem dX7_shaves_19 : decode cX7_shaves 19 = .ok (.iaload, 1) := by decide +kernel
theorem dX7_shaves_20 : decode cX7_shaves 20 = .ok (.invokevirtual 132, 3) := by decide +kernel
theorem dX7_shaves_23 : decode cX7_shaves 23 = .ok (.istore 5, 2) := by decide +kernel
theorem dX7_shaves_25 : decode cX7_shaves 25 = .ok (.iload 5, 2) := by decide +kernel
theorem dX7_shaves_27 : decode cX7_shaves 27 = .ok (.iconst (-1), 1) := by decide +kernel
theorem dX7_shaves_28 : decode cX7_shaves 28 = .ok (.if_icmp .eq 14, 3) := by decide +kernel
theorem dX7_shaves_31 : decode cX7_shaves 31 = .ok (.aload_n 0, 1) := by decide +kernel
theorem dX7_shaves_32 : decode cX7_shaves 32 = .ok (.iload_n 1, 1) := by decide +kernel
theorem dX7_shaves_33 : decode cX7_shaves 33 = .ok (.iload_n 2, 1) := by decide +kernel
theorem dX7_shaves_34 : decode cX7_shaves 34 = .ok (.iload_n 3, 1) := by decide +kernel
theorem dX7_shaves_35 : decode cX7_shaves 35 = .ok (.iload 4, 2) := by decide +kernel
theorem dX7_shaves_37 : decode cX7_shaves 37 = .ok (.iload 5, 2) := by decide +kernel
theorem dX7_shaves_39 : decode cX7_shaves 39 = .ok (.invokevirtual 136, 3) := by decide +kernel
theorem dX7_shaves_42 : decode cX7_shaves 42 = .ok (.aload_n 0, 1) := by decide +kernel
theorem dX7_shaves_43 : decode cX7_shaves 43 = .ok (.getfield 7, 3) := by decide +kernel
theorem dX7_shaves_46 : decode cX7_shaves 46 = .ok (.iload_n 1, 1) := by decide +kernel
theorem dX7_shaves_47 : decode cX7_shaves 47 = .ok (.iconst 1, 1) := by decide +kernel
theorem dX7_shaves_48 : decode cX7_shaves 48 = .ok (.iadd, 1) := by decide +kernel
theorem dX7_shaves_49 : decode cX7_shaves 49 = .ok (.bipush 6, 2) := by decide +kernel
theorem dX7_shaves_51 : decode cX7_shaves 51 = .ok (.iload_n 3, 1) := by decide +kernel
theorem dX7_shaves_52 : decode cX7_shaves 52 = .ok (.imul, 1) := by decide +kernel
theorem dX7_shaves_53 : decode cX7_shaves 53 = .ok (.iadd, 1) := by decide +kernel
theorem dX7_shaves_54 : decode cX7_shaves 54 = .ok (.iload 4, 2) := by decide +kernel
theorem dX7_shaves_56 : decode cX7_shaves 56 = .ok (.iadd, 1) := by decide +kernel
theorem dX7_shaves_57 : decode cX7_shaves 57 = .ok (.iconst 0, 1) := by decide +kernel
theorem dX7_shaves_58 : decode cX7_shaves 58 = .ok (.iastore, 1) := by decide +kernel
theorem dX7_shaves_59 : decode cX7_shaves 59 = .ok (.iload 5, 2) := by decide +kernel
theorem dX7_shaves_61 : decode cX7_shaves 61 = .ok (.ireturn, 1) := by decide +kernel
theorem dX7_fitsBy_0 : decode cX7_fitsBy 0 = .ok (.iconst 0, 1) := by decide +kernel
theorem dX7_fitsBy_1 : decode cX7_fitsBy 1 = .ok (.istore_n 3, 1) := by decide +kernel
theorem dX7_fitsBy_2 : decode cX7_fitsBy 2 = .ok (.iconst 0, 1) := by decide +kernel
theorem dX7_fitsBy_3 : decode cX7_fitsBy 3 = .ok (.istore 4, 2) := by decide +kernel
theorem dX7_fitsBy_5 : decode cX7_fitsBy 5 = .ok (.iload 4, 2) := by decide +kernel
theorem dX7_fitsBy_7 : decode cX7_fitsBy 7 = .ok (.aload_n 0, 1) := by decide +kernel
theorem dX7_fitsBy_8 : decode cX7_fitsBy 8 = .ok (.getfield 13, 3) := by decide +kernel
theorem dX7_fitsBy_11 : decode cX7_fitsBy 11 = .ok (.iconst 2, 1) := by decide +kernel
theorem dX7_fitsBy_12 : decode cX7_fitsBy 12 = .ok (.iaload, 1) := by decide +kernel
theorem dX7_fitsBy_13 : decode cX7_fitsBy 13 = .ok (.if_icmp .ge 36, 3) := by decide +kernel
theorem dX7_fitsBy_16 : decode cX7_fitsBy 16 = .ok (.iload_n 3, 1) := by decide +kernel
theorem dX7_fitsBy_17 : decode cX7_fitsBy 17 = .ok (.aload_n 0, 1) := by decide +kernel
theorem dX7_fitsBy_18 : decode cX7_fitsBy 18 = .ok (.getfield 13, 3) := by decide +kernel
theorem dX7_fitsBy_21 : decode cX7_fitsBy 21 = .ok (.bipush 51, 2) := by decide +kernel
theorem dX7_fitsBy_23 : decode cX7_fitsBy 23 = .ok (.iload 4, 2) := by decide +kernel
theorem dX7_fitsBy_25 : decode cX7_fitsBy 25 = .ok (.iadd, 1) := by decide +kernel
theorem dX7_fitsBy_26 : decode cX7_fitsBy 26 = .ok (.iaload, 1) := by decide +kernel
theorem dX7_fitsBy_27 : decode cX7_fitsBy 27 = .ok (.iload_n 1, 1) := by decide +kernel
theorem dX7_fitsBy_28 : decode cX7_fitsBy 28 = .ok (.iand, 1) := by decide +kernel
theorem dX7_fitsBy_29 : decode cX7_fitsBy 29 = .ok (.iload_n 2, 1) := by decide +kernel
theorem dX7_fitsBy_30 : decode cX7_fitsBy 30 = .ok (.if_icmp .ne 10, 3) := by decide +kernel
theorem dX7_fitsBy_33 : decode cX7_fitsBy 33 = .ok (.iconst 1, 1) := by decide +kernel
theorem dX7_fitsBy_34 : decode cX7_fitsBy 34 = .ok (.iload 4, 2) := by decide +kernel
theorem dX7_fitsBy_36 : decode cX7_fitsBy 36 = .ok (.ishl, 1) := by decide +kernel
theorem dX7_fitsBy_37 : decode cX7_fitsBy 37 = .ok (.goto 4, 3) := by decide +kernel
theorem dX7_fitsBy_40 : decode cX7_fitsBy 40 = .ok (.iconst 0, 1) := by decide +kernel
theorem dX7_fitsBy_41 : decode cX7_fitsBy 41 = .ok (.ior, 1) := by decide +kernel
theorem dX7_fitsBy_42 : decode cX7_fitsBy 42 = .ok (.istore_n 3, 1) := by decide +kernel
theorem dX7_fitsBy_43 : decode cX7_fitsBy 43 = .ok (.iinc 4 1, 3) := by decide +kernel
theorem dX7_fitsBy_46 : decode cX7_fitsBy 46 = .ok (.goto (-41), 3) := by decide +kernel
theorem dX7_fitsBy_49 : decode cX7_fitsBy 49 = .ok (.iload_n 3, 1) := by decide +kernel
theorem dX7_fitsBy_50 : decode cX7_fitsBy 50 = .ok (.ireturn, 1) := by decide +kernel
theorem dX7_many_0 : decode cX7_many 0 = .ok (.iconst 0, 1) := by decide +kernel
theorem dX7_many_1 : decode cX7_many 1 = .ok (.istore_n 1, 1) := by decide +kernel
theorem dX7_many_2 : decode cX7_many 2 = .ok (.iconst 0, 1) := by decide +kernel
theorem dX7_many_3 : decode cX7_many 3 = .ok (.istore_n 2, 1) := by decide +kernel
theorem dX7_many_4 : decode cX7_many 4 = .ok (.iload_n 2, 1) := by decide +kernel
theorem dX7_many_5 : decode cX7_many 5 = .ok (.bipush 8, 2) := by decide +kernel
theorem dX7_many_7 : decode cX7_many 7 = .ok (.if_icmp .ge 17, 3) := by decide +kernel
theorem dX7_many_10 : decode cX7_many 10 = .ok (.iload_n 1, 1) := by decide +kernel
theorem dX7_many_11 : decode cX7_many 11 = .ok (.iload_n 0, 1) := by decide +kernel
theorem dX7_many_12 : decode cX7_many 12 = .ok (.iload_n 2, 1) := by decide +kernel
theorem dX7_many_13 : decode cX7_many 13 = .ok (.ishr, 1) := by decide +kernel
theorem dX7_many_14 : decode cX7_many 14 = .ok (.iconst 1, 1) := by decide +kernel
theorem dX7_many_15 : decode cX7_many 15 = .ok (.iand, 1) := by decide +kernel
theorem dX7_many_16 : decode cX7_many 16 = .ok (.iadd, 1) := by decide +kernel
theorem dX7_many_17 : decode cX7_many 17 = .ok (.istore_n 1, 1) := by decide +kernel
theorem dX7_many_18 : decode cX7_many 18 = .ok (.iinc 2 1, 3) := by decide +kernel
theorem dX7_many_21 : decode cX7_many 21 = .ok (.goto (-17), 3) := by decide +kernel
theorem dX7_many_24 : decode cX7_many 24 = .ok (.iload_n 1, 1) := by decide +kernel
theorem dX7_many_25 : decode cX7_many 25 = .ok (.ireturn, 1) := by decide +kernel
theorem dX7_fitsOf_0 : decode cX7_fitsOf 0 = .ok (.bipush 6, 2) := by decide +kernel
theorem dX7_fitsOf_2 : decode cX7_fitsOf 2 = .ok (.iload_n 2, 1) := by decide +kernel
theorem dX7_fitsOf_3 : decode cX7_fitsOf 3 = .ok (.imul, 1) := by decide +kernel
theorem dX7_fitsOf_4 : decode cX7_fitsOf 4 = .ok (.iload_n 3, 1) := by decide +kernel
theorem dX7_fitsOf_5 : decode cX7_fitsOf 5 = .ok (.iadd, 1) := by decide +kernel
theorem dX7_fitsOf_6 : decode cX7_fitsOf 6 = .ok (.istore 4, 2) := by decide +kernel
theorem dX7_fitsOf_8 : decode cX7_fitsOf 8 = .ok (.aload_n 0, 1) := by decide +kernel
theorem dX7_fitsOf_9 : decode cX7_fitsOf 9 = .ok (.aload_n 0, 1) := by decide +kernel
theorem dX7_fitsOf_10 : decode cX7_fitsOf 10 = .ok (.getfield 7, 3) := by decide +kernel
theorem dX7_fitsOf_13 : decode cX7_fitsOf 13 = .ok (.iload_n 1, 1) := by decide +kernel
theorem dX7_fitsOf_14 : decode cX7_fitsOf 14 = .ok (.bipush 37, 2) := by decide +kernel
theorem dX7_fitsOf_16 : decode cX7_fitsOf 16 = .ok (.iadd, 1) := by decide +kernel
theorem dX7_fitsOf_17 : decode cX7_fitsOf 17 = .ok (.iload 4, 2) := by decide +kernel
theorem dX7_fitsOf_19 : decode cX7_fitsOf 19 = .ok (.iadd, 1) := by decide +kernel
theorem dX7_fitsOf_20 : decode cX7_fitsOf 20 = .ok (.iaload, 1) := by decide +kernel
theorem dX7_fitsOf_21 : decode cX7_fitsOf 21 = .ok (.aload_n 0, 1) := by decide +kernel
theorem dX7_fitsOf_22 : decode cX7_fitsOf 22 = .ok (.getfield 7, 3) := by decide +kernel
theorem dX7_fitsOf_25 : decode cX7_fitsOf 25 = .ok (.iload_n 1, 1) := by decide +kernel
theorem dX7_fitsOf_26 : decode cX7_fitsOf 26 = .ok (.bipush 61, 2) := by decide +kernel
theorem dX7_fitsOf_28 : decode cX7_fitsOf 28 = .ok (.iadd, 1) := by decide +kernel
theorem dX7_fitsOf_29 : decode cX7_fitsOf 29 = .ok (.iload 4, 2) := by decide +kernel
theorem dX7_fitsOf_31 : decode cX7_fitsOf 31 = .ok (.iadd, 1) := by decide +kernel
theorem dX7_fitsOf_32 : decode cX7_fitsOf 32 = .ok (.iaload, 1) := by decide +kernel
theorem dX7_fitsOf_33 : decode cX7_fitsOf 33 = .ok (.invokevirtual 140, 3) := by decide +kernel
theorem dX7_fitsOf_36 : decode cX7_fitsOf 36 = .ok (.ireturn, 1) := by decide +kernel
theorem dX7_beardsOf_0 : decode cX7_beardsOf 0 = .ok (.iconst 0, 1) := by decide +kernel
theorem dX7_beardsOf_1 : decode cX7_beardsOf 1 = .ok (.istore_n 2, 1) := by decide +kernel
theorem dX7_beardsOf_2 : decode cX7_beardsOf 2 = .ok (.iconst 0, 1) := by decide +kernel
theorem dX7_beardsOf_3 : decode cX7_beardsOf 3 = .ok (.istore_n 3, 1) := by decide +kernel
theorem dX7_beardsOf_4 : decode cX7_beardsOf 4 = .ok (.iload_n 3, 1) := by decide +kernel
theorem dX7_beardsOf_5 : decode cX7_beardsOf 5 = .ok (.bipush 6, 2) := by decide +kernel
theorem dX7_beardsOf_7 : decode cX7_beardsOf 7 = .ok (.if_icmp .ge 25, 3) := by decide +kernel
theorem dX7_beardsOf_10 : decode cX7_beardsOf 10 = .ok (.iload_n 2, 1) := by decide +kernel
theorem dX7_beardsOf_11 : decode cX7_beardsOf 11 = .ok (.aload_n 0, 1) := by decide +kernel
theorem dX7_beardsOf_12 : decode cX7_beardsOf 12 = .ok (.getfield 7, 3) := by decide +kernel
theorem dX7_beardsOf_15 : decode cX7_beardsOf 15 = .ok (.iconst 1, 1) := by decide +kernel
theorem dX7_beardsOf_16 : decode cX7_beardsOf 16 = .ok (.bipush 6, 2) := by decide +kernel
theorem dX7_beardsOf_18 : decode cX7_beardsOf 18 = .ok (.iload_n 1, 1) := by decide +kernel
theorem dX7_beardsOf_19 : decode cX7_beardsOf 19 = .ok (.imul, 1) := by decide +kernel
theorem dX7_beardsOf_20 : decode cX7_beardsOf 20 = .ok (.iadd, 1) := by decide +kernel
theorem dX7_beardsOf_21 : decode cX7_beardsOf 21 = .ok (.iload_n 3, 1) := by decide +kernel
theorem dX7_beardsOf_22 : decode cX7_beardsOf 22 = .ok (.iadd, 1) := by decide +kernel
theorem dX7_beardsOf_23 : decode cX7_beardsOf 23 = .ok (.iaload, 1) := by decide +kernel
theorem dX7_beardsOf_24 : decode cX7_beardsOf 24 = .ok (.iadd, 1) := by decide +kernel
theorem dX7_beardsOf_25 : decode cX7_beardsOf 25 = .ok (.istore_n 2, 1) := by decide +kernel
theorem dX7_beardsOf_26 : decode cX7_beardsOf 26 = .ok (.iinc 3 1, 3) := by decide +kernel
theorem dX7_beardsOf_29 : decode cX7_beardsOf 29 = .ok (.goto (-25), 3) := by decide +kernel
theorem dX7_beardsOf_32 : decode cX7_beardsOf 32 = .ok (.iload_n 2, 1) := by decide +kernel
theorem dX7_beardsOf_33 : decode cX7_beardsOf 33 = .ok (.ireturn, 1) := by decide +kernel
theorem dX7_smoothOf_0 : decode cX7_smoothOf 0 = .ok (.iconst 0, 1) := by decide +kernel
theorem dX7_smoothOf_1 : decode cX7_smoothOf 1 = .ok (.istore_n 2, 1) := by decide +kernel
theorem dX7_smoothOf_2 : decode cX7_smoothOf 2 = .ok (.iconst 0, 1) := by decide +kernel
theorem dX7_smoothOf_3 : decode cX7_smoothOf 3 = .ok (.istore_n 3, 1) := by decide +kernel
theorem dX7_smoothOf_4 : decode cX7_smoothOf 4 = .ok (.iload_n 3, 1) := by decide +kernel
theorem dX7_smoothOf_5 : decode cX7_smoothOf 5 = .ok (.bipush 6, 2) := by decide +kernel
theorem dX7_smoothOf_7 : decode cX7_smoothOf 7 = .ok (.if_icmp .ge 35, 3) := by decide +kernel
theorem dX7_smoothOf_10 : decode cX7_smoothOf 10 = .ok (.iload_n 2, 1) := by decide +kernel
theorem dX7_smoothOf_11 : decode cX7_smoothOf 11 = .ok (.aload_n 0, 1) := by decide +kernel
theorem dX7_smoothOf_12 : decode cX7_smoothOf 12 = .ok (.getfield 7, 3) := by decide +kernel
theorem dX7_smoothOf_15 : decode cX7_smoothOf 15 = .ok (.iconst 1, 1) := by decide +kernel
theorem dX7_smoothOf_16 : decode cX7_smoothOf 16 = .ok (.bipush 6, 2) := by decide +kernel
theorem dX7_smoothOf_18 : decode cX7_smoothOf 18 = .ok (.iload_n 1, 1) := by decide +kernel
theorem dX7_smoothOf_19 : decode cX7_smoothOf 19 = .ok (.imul, 1) := by decide +kernel
theorem dX7_smoothOf_20 : decode cX7_smoothOf 20 = .ok (.iadd, 1) := by decide +kernel
theorem dX7_smoothOf_21 : decode cX7_smoothOf 21 = .ok (.iload_n 3, 1) := by decide +kernel
theorem dX7_smoothOf_22 : decode cX7_smoothOf 22 = .ok (.iadd, 1) := by decide +kernel
theorem dX7_smoothOf_23 : decode cX7_smoothOf 23 = .ok (.iaload, 1) := by decide +kernel
theorem dX7_smoothOf_24 : decode cX7_smoothOf 24 = .ok (.ifCond .ne 9, 3) := by decide +kernel
theorem dX7_smoothOf_27 : decode cX7_smoothOf 27 = .ok (.iconst 1, 1) := by decide +kernel
theorem dX7_smoothOf_28 : decode cX7_smoothOf 28 = .ok (.iload_n 3, 1) := by decide +kernel
theorem dX7_smoothOf_29 : decode cX7_smoothOf 29 = .ok (.ishl, 1) := by decide +kernel
theorem dX7_smoothOf_30 : decode cX7_smoothOf 30 = .ok (.goto 4, 3) := by decide +kernel
theorem dX7_smoothOf_33 : decode cX7_smoothOf 33 = .ok (.iconst 0, 1) := by decide +kernel
theorem dX7_smoothOf_34 : decode cX7_smoothOf 34 = .ok (.ior, 1) := by decide +kernel
theorem dX7_smoothOf_35 : decode cX7_smoothOf 35 = .ok (.istore_n 2, 1) := by decide +kernel
theorem dX7_smoothOf_36 : decode cX7_smoothOf 36 = .ok (.iinc 3 1, 3) := by decide +kernel
theorem dX7_smoothOf_39 : decode cX7_smoothOf 39 = .ok (.goto (-35), 3) := by decide +kernel
theorem dX7_smoothOf_42 : decode cX7_smoothOf 42 = .ok (.iload_n 2, 1) := by decide +kernel
theorem dX7_smoothOf_43 : decode cX7_smoothOf 43 = .ok (.ireturn, 1) := by decide +kernel
theorem dX7_person_0 : decode cX7_person 0 = .ok (.aload_n 0, 1) := by decide +kernel
theorem dX7_person_1 : decode cX7_person 1 = .ok (.iload_n 1, 1) := by decide +kernel
theorem dX7_person_2 : decode cX7_person 2 = .ok (.invokevirtual 144, 3) := by decide +kernel
theorem dX7_person_5 : decode cX7_person 5 = .ok (.ifCond .ne 6, 3) := by decide +kernel
theorem dX7_person_8 : decode cX7_person 8 = .ok (.bipush (-2), 2) := by decide +kernel
theorem dX7_person_10 : decode cX7_person 10 = .ok (.ireturn, 1) := by decide +kernel
theorem dX7_person_11 : decode cX7_person 11 = .ok (.iload_n 2, 1) := by decide +kernel
theorem dX7_person_12 : decode cX7_person 12 = .ok (.tableswitch 63 0 3 #[32, 41, 51, 57], 32) := by decide +kernel
theorem dX7_person_44 : decode cX7_person 44 = .ok (.aload_n 0, 1) := by decide +kernel
theorem dX7_person_45 : decode cX7_person 45 = .ok (.getfield 13, 3) := by decide +kernel
theorem dX7_person_48 : decode cX7_person 48 = .ok (.iconst 3, 1) := by decide +kernel
theorem dX7_person_49 : decode cX7_person 49 = .ok (.iload_n 1, 1) := by decide +kernel
theorem dX7_person_50 : decode cX7_person 50 = .ok (.iadd, 1) := by decide +kernel
theorem dX7_person_51 : decode cX7_person 51 = .ok (.iaload, 1) := by decide +kernel
theorem dX7_person_52 : decode cX7_person 52 = .ok (.ireturn, 1) := by decide +kernel
theorem dX7_person_53 : decode cX7_person 53 = .ok (.aload_n 0, 1) := by decide +kernel
theorem dX7_person_54 : decode cX7_person 54 = .ok (.getfield 13, 3) := by decide +kernel
theorem dX7_person_57 : decode cX7_person 57 = .ok (.bipush 9, 2) := by decide +kernel
theorem dX7_person_59 : decode cX7_person 59 = .ok (.iload_n 1, 1) := by decide +kernel
theorem dX7_person_60 : decode cX7_person 60 = .ok (.iadd, 1) := by decide +kernel
theorem dX7_person_61 : decode cX7_person 61 = .ok (.iaload, 1) := by decide +kernel
theorem dX7_person_62 : decode cX7_person 62 = .ok (.ireturn, 1) := by decide +kernel
theorem dX7_person_63 : decode cX7_person 63 = .ok (.aload_n 0, 1) := by decide +kernel
theorem dX7_person_64 : decode cX7_person 64 = .ok (.iload_n 1, 1) := by decide +kernel
theorem dX7_person_65 : decode cX7_person 65 = .ok (.invokevirtual 147, 3) := by decide +kernel
theorem dX7_person_68 : decode cX7_person 68 = .ok (.ireturn, 1) := by decide +kernel
theorem dX7_person_69 : decode cX7_person 69 = .ok (.aload_n 0, 1) := by decide +kernel
theorem dX7_person_70 : decode cX7_person 70 = .ok (.iload_n 1, 1) := by decide +kernel
theorem dX7_person_71 : decode cX7_person 71 = .ok (.invokevirtual 150, 3) := by decide +kernel
theorem dX7_person_74 : decode cX7_person 74 = .ok (.ireturn, 1) := by decide +kernel
theorem dX7_person_75 : decode cX7_person 75 = .ok (.bipush (-3), 2) := by decide +kernel
theorem dX7_person_77 : decode cX7_person 77 = .ok (.ireturn, 1) := by decide +kernel
theorem dX7_beard_0 : decode cX7_beard 0 = .ok (.aload_n 0, 1) := by decide +kernel
theorem dX7_beard_1 : decode cX7_beard 1 = .ok (.iload_n 1, 1) := by decide +kernel
theorem dX7_beard_2 : decode cX7_beard 2 = .ok (.invokevirtual 144, 3) := by decide +kernel
theorem dX7_beard_5 : decode cX7_beard 5 = .ok (.ifCond .eq 26, 3) := by decide +kernel
theorem dX7_beard_8 : decode cX7_beard 8 = .ok (.iload_n 2, 1) := by decide +kernel
theorem dX7_beard_9 : decode cX7_beard 9 = .ok (.invokestatic 153, 3) := by decide +kernel
theorem dX7_beard_12 : decode cX7_beard 12 = .ok (.ifCond .eq 19, 3) := by decide +kernel
theorem dX7_beard_15 : decode cX7_beard 15 = .ok (.aload_n 0, 1) := by decide +kernel
theorem dX7_beard_16 : decode cX7_beard 16 = .ok (.getfield 7, 3) := by decide +kernel
theorem dX7_beard_19 : decode cX7_beard 19 = .ok (.iconst 1, 1) := by decide +kernel
theorem dX7_beard_20 : decode cX7_beard 20 = .ok (.bipush 6, 2) := by decide +kernel
theorem dX7_beard_22 : decode cX7_beard 22 = .ok (.iload_n 1, 1) := by decide +kernel
theorem dX7_beard_23 : decode cX7_beard 23 = .ok (.imul, 1) := by decide +kernel
theorem dX7_beard_24 : decode cX7_beard 24 = .ok (.iadd, 1) := by decide +kernel
theorem dX7_beard_25 : decode cX7_beard 25 = .ok (.iload_n 2, 1) := by decide +kernel
theorem dX7_beard_26 : decode cX7_beard 26 = .ok (.iadd, 1) := by decide +kernel
theorem dX7_beard_27 : decode cX7_beard 27 = .ok (.iaload, 1) := by decide +kernel
theorem dX7_beard_28 : decode cX7_beard 28 = .ok (.goto 5, 3) := by decide +kernel
theorem dX7_beard_31 : decode cX7_beard 31 = .ok (.bipush (-2), 2) := by decide +kernel
theorem dX7_beard_33 : decode cX7_beard 33 = .ok (.ireturn, 1) := by decide +kernel
theorem dX7_rumour_0 : decode cX7_rumour 0 = .ok (.aload_n 0, 1) := by decide +kernel
theorem dX7_rumour_1 : decode cX7_rumour 1 = .ok (.iload_n 1, 1) := by decide +kernel
theorem dX7_rumour_2 : decode cX7_rumour 2 = .ok (.invokevirtual 156, 3) := by decide +kernel
theorem dX7_rumour_5 : decode cX7_rumour 5 = .ok (.ifCond .eq 15, 3) := by decide +kernel
theorem dX7_rumour_8 : decode cX7_rumour 8 = .ok (.aload_n 0, 1) := by decide +kernel
theorem dX7_rumour_9 : decode cX7_rumour 9 = .ok (.getfield 13, 3) := by decide +kernel
theorem dX7_rumour_12 : decode cX7_rumour 12 = .ok (.bipush 51, 2) := by decide +kernel
theorem dX7_rumour_14 : decode cX7_rumour 14 = .ok (.iload_n 1, 1) := by decide +kernel
theorem dX7_rumour_15 : decode cX7_rumour 15 = .ok (.iadd, 1) := by decide +kernel
theorem dX7_rumour_16 : decode cX7_rumour 16 = .ok (.iaload, 1) := by decide +kernel
theorem dX7_rumour_17 : decode cX7_rumour 17 = .ok (.goto 5, 3) := by decide +kernel
theorem dX7_rumour_20 : decode cX7_rumour 20 = .ok (.bipush (-2), 2) := by decide +kernel
theorem dX7_rumour_22 : decode cX7_rumour 22 = .ok (.ireturn, 1) := by decide +kernel
theorem dX7_knows_0 : decode cX7_knows 0 = .ok (.aload_n 0, 1) := by decide +kernel
theorem dX7_knows_1 : decode cX7_knows 1 = .ok (.iload_n 1, 1) := by decide +kernel
theorem dX7_knows_2 : decode cX7_knows 2 = .ok (.invokevirtual 159, 3) := by decide +kernel
theorem dX7_knows_5 : decode cX7_knows 5 = .ok (.ifCond .eq 11, 3) := by decide +kernel
theorem dX7_knows_8 : decode cX7_knows 8 = .ok (.aload_n 0, 1) := by decide +kernel
theorem dX7_knows_9 : decode cX7_knows 9 = .ok (.iload_n 2, 1) := by decide +kernel
theorem dX7_knows_10 : decode cX7_knows 10 = .ok (.invokevirtual 144, 3) := by decide +kernel
theorem dX7_knows_13 : decode cX7_knows 13 = .ok (.ifCond .ne 6, 3) := by decide +kernel
theorem dX7_knows_16 : decode cX7_knows 16 = .ok (.bipush (-2), 2) := by decide +kernel
theorem dX7_knows_18 : decode cX7_knows 18 = .ok (.ireturn, 1) := by decide +kernel
theorem dX7_knows_19 : decode cX7_knows 19 = .ok (.bipush 6, 2) := by decide +kernel
theorem dX7_knows_21 : decode cX7_knows 21 = .ok (.iload_n 1, 1) := by decide +kernel
theorem dX7_knows_22 : decode cX7_knows 22 = .ok (.imul, 1) := by decide +kernel
theorem dX7_knows_23 : decode cX7_knows 23 = .ok (.iload_n 2, 1) := by decide +kernel
theorem dX7_knows_24 : decode cX7_knows 24 = .ok (.iadd, 1) := by decide +kernel
theorem dX7_knows_25 : decode cX7_knows 25 = .ok (.istore 4, 2) := by decide +kernel
theorem dX7_knows_27 : decode cX7_knows 27 = .ok (.iload_n 3, 1) := by decide +kernel
theorem dX7_knows_28 : decode cX7_knows 28 = .ok (.ifCond .ne 16, 3) := by decide +kernel
theorem dX7_knows_31 : decode cX7_knows 31 = .ok (.aload_n 0, 1) := by decide +kernel
theorem dX7_knows_32 : decode cX7_knows 32 = .ok (.getfield 7, 3) := by decide +kernel
theorem dX7_knows_35 : decode cX7_knows 35 = .ok (.bipush 37, 2) := by decide +kernel
theorem dX7_knows_37 : decode cX7_knows 37 = .ok (.iload 4, 2) := by decide +kernel
theorem dX7_knows_39 : decode cX7_knows 39 = .ok (.iadd, 1) := by decide +kernel
theorem dX7_knows_40 : decode cX7_knows 40 = .ok (.iaload, 1) := by decide +kernel
theorem dX7_knows_41 : decode cX7_knows 41 = .ok (.goto 38, 3) := by decide +kernel
theorem dX7_knows_44 : decode cX7_knows 44 = .ok (.iload_n 3, 1) := by decide +kernel
theorem dX7_knows_45 : decode cX7_knows 45 = .ok (.iconst 1, 1) := by decide +kernel
theorem dX7_knows_46 : decode cX7_knows 46 = .ok (.if_icmp .ne 16, 3) := by decide +kernel
theorem dX7_knows_49 : decode cX7_knows 49 = .ok (.aload_n 0, 1) := by decide +kernel
theorem dX7_knows_50 : decode cX7_knows 50 = .ok (.getfield 7, 3) := by decide +kernel
theorem dX7_knows_53 : decode cX7_knows 53 = .ok (.bipush 61, 2) := by decide +kernel
theorem dX7_knows_55 : decode cX7_knows 55 = .ok (.iload 4, 2) := by decide +kernel
theorem dX7_knows_57 : decode cX7_knows 57 = .ok (.iadd, 1) := by decide +kernel
theorem dX7_knows_58 : decode cX7_knows 58 = .ok (.iaload, 1) := by decide +kernel
theorem dX7_knows_59 : decode cX7_knows 59 = .ok (.goto 20, 3) := by decide +kernel
theorem dX7_knows_62 : decode cX7_knows 62 = .ok (.iload_n 3, 1) := by decide +kernel
theorem dX7_knows_63 : decode cX7_knows 63 = .ok (.iconst 2, 1) := by decide +kernel
theorem dX7_knows_64 : decode cX7_knows 64 = .ok (.if_icmp .ne 13, 3) := by decide +kernel
theorem dX7_knows_67 : decode cX7_knows 67 = .ok (.aload_n 0, 1) := by decide +kernel
theorem dX7_knows_68 : decode cX7_knows 68 = .ok (.iconst 0, 1) := by decide +kernel
theorem dX7_knows_69 : decode cX7_knows 69 = .ok (.iload_n 1, 1) := by decide +kernel
theorem dX7_knows_70 : decode cX7_knows 70 = .ok (.iload_n 2, 1) := by decide +kernel
theorem dX7_knows_71 : decode cX7_knows 71 = .ok (.invokevirtual 162, 3) := by decide +kernel
theorem dX7_knows_74 : decode cX7_knows 74 = .ok (.goto 5, 3) := by decide +kernel
theorem dX7_knows_77 : decode cX7_knows 77 = .ok (.bipush (-3), 2) := by decide +kernel
theorem dX7_knows_79 : decode cX7_knows 79 = .ok (.ireturn, 1) := by decide +kernel
theorem dX7_as_0 : decode cX7_as 0 = .ok (.aload_n 0, 1) := by decide +kernel
theorem dX7_as_1 : decode cX7_as 1 = .ok (.iload_n 1, 1) := by decide +kernel
theorem dX7_as_2 : decode cX7_as 2 = .ok (.invokevirtual 144, 3) := by decide +kernel
theorem dX7_as_5 : decode cX7_as 5 = .ok (.ifCond .ne 6, 3) := by decide +kernel
theorem dX7_as_8 : decode cX7_as 8 = .ok (.bipush (-2), 2) := by decide +kernel
theorem dX7_as_10 : decode cX7_as 10 = .ok (.ireturn, 1) := by decide +kernel
theorem dX7_as_11 : decode cX7_as 11 = .ok (.iload_n 2, 1) := by decide +kernel
theorem dX7_as_12 : decode cX7_as 12 = .ok (.i2l, 1) := by decide +kernel
theorem dX7_as_13 : decode cX7_as 13 = .ok (.lconst 0, 1) := by decide +kernel
theorem dX7_as_14 : decode cX7_as 14 = .ok (.ldc2_w 165, 3) := by decide +kernel
theorem dX7_as_17 : decode cX7_as 17 = .ok (.invokestatic 35, 3) := by decide +kernel
theorem dX7_as_20 : decode cX7_as 20 = .ok (.ifCond .ne 6, 3) := by decide +kernel
theorem dX7_as_23 : decode cX7_as 23 = .ok (.bipush (-3), 2) := by decide +kernel
theorem dX7_as_25 : decode cX7_as 25 = .ok (.ireturn, 1) := by decide +kernel
theorem dX7_as_26 : decode cX7_as 26 = .ok (.aload_n 0, 1) := by decide +kernel
theorem dX7_as_27 : decode cX7_as 27 = .ok (.getfield 13, 3) := by decide +kernel
theorem dX7_as_30 : decode cX7_as 30 = .ok (.iconst 3, 1) := by decide +kernel
theorem dX7_as_31 : decode cX7_as 31 = .ok (.iload_n 1, 1) := by decide +kernel
theorem dX7_as_32 : decode cX7_as 32 = .ok (.iadd, 1) := by decide +kernel
theorem dX7_as_33 : decode cX7_as 33 = .ok (.iaload, 1) := by decide +kernel
theorem dX7_as_34 : decode cX7_as 34 = .ok (.iconst 1, 1) := by decide +kernel
theorem dX7_as_35 : decode cX7_as 35 = .ok (.iadd, 1) := by decide +kernel
theorem dX7_as_36 : decode cX7_as 36 = .ok (.istore_n 3, 1) := by decide +kernel
theorem dX7_as_37 : decode cX7_as 37 = .ok (.iload_n 2, 1) := by decide +kernel
theorem dX7_as_38 : decode cX7_as 38 = .ok (.ifCond .eq 18, 3) := by decide +kernel
theorem dX7_as_41 : decode cX7_as 41 = .ok (.iload_n 2, 1) := by decide +kernel
theorem dX7_as_42 : decode cX7_as 42 = .ok (.iload_n 3, 1) := by decide +kernel
theorem dX7_as_43 : decode cX7_as 43 = .ok (.if_icmp .eq 13, 3) := by decide +kernel
theorem dX7_as_46 : decode cX7_as 46 = .ok (.iload_n 2, 1) := by decide +kernel
theorem dX7_as_47 : decode cX7_as 47 = .ok (.iconst 1, 1) := by decide +kernel
theorem dX7_as_48 : decode cX7_as 48 = .ok (.if_icmp .ne 12, 3) := by decide +kernel
theorem dX7_as_51 : decode cX7_as 51 = .ok (.iload_n 3, 1) := by decide +kernel
theorem dX7_as_52 : decode cX7_as 52 = .ok (.iconst 4, 1) := by decide +kernel
theorem dX7_as_53 : decode cX7_as 53 = .ok (.if_icmp .ge 7, 3) := by decide +kernel
theorem dX7_as_56 : decode cX7_as 56 = .ok (.iconst 1, 1) := by decide +kernel
theorem dX7_as_57 : decode cX7_as 57 = .ok (.goto 4, 3) := by decide +kernel
theorem dX7_as_60 : decode cX7_as 60 = .ok (.iconst 0, 1) := by decide +kernel
theorem dX7_as_61 : decode cX7_as 61 = .ok (.istore 4, 2) := by decide +kernel
theorem dX7_as_63 : decode cX7_as 63 = .ok (.iload 4, 2) := by decide +kernel
theorem dX7_as_65 : decode cX7_as 65 = .ok (.ifCond .eq 25, 3) := by decide +kernel
theorem dX7_as_68 : decode cX7_as 68 = .ok (.aload_n 0, 1) := by decide +kernel
theorem dX7_as_69 : decode cX7_as 69 = .ok (.iload_n 1, 1) := by decide +kernel
theorem dX7_as_70 : decode cX7_as 70 = .ok (.iconst 2, 1) := by decide +kernel
theorem dX7_as_71 : decode cX7_as 71 = .ok (.aload_n 0, 1) := by decide +kernel
theorem dX7_as_72 : decode cX7_as 72 = .ok (.getfield 7, 3) := by decide +kernel
theorem dX7_as_75 : decode cX7_as 75 = .ok (.iconst 1, 1) := by decide +kernel
theorem dX7_as_76 : decode cX7_as 76 = .ok (.bipush 6, 2) := by decide +kernel
theorem dX7_as_78 : decode cX7_as 78 = .ok (.iload_n 1, 1) := by decide +kernel
theorem dX7_as_79 : decode cX7_as 79 = .ok (.imul, 1) := by decide +kernel
theorem dX7_as_80 : decode cX7_as 80 = .ok (.iadd, 1) := by decide +kernel
theorem dX7_as_81 : decode cX7_as 81 = .ok (.iconst 2, 1) := by decide +kernel
theorem dX7_as_82 : decode cX7_as 82 = .ok (.iadd, 1) := by decide +kernel
theorem dX7_as_83 : decode cX7_as 83 = .ok (.iaload, 1) := by decide +kernel
theorem dX7_as_84 : decode cX7_as 84 = .ok (.invokevirtual 132, 3) := by decide +kernel
theorem dX7_as_87 : decode cX7_as 87 = .ok (.goto 5, 3) := by decide +kernel
theorem dX7_as_90 : decode cX7_as 90 = .ok (.bipush (-4), 2) := by decide +kernel
theorem dX7_as_92 : decode cX7_as 92 = .ok (.ireturn, 1) := by decide +kernel
theorem dX7_minds_0 : decode cX7_minds 0 = .ok (.aload_n 0, 1) := by decide +kernel
theorem dX7_minds_1 : decode cX7_minds 1 = .ok (.getfield 129, 3) := by decide +kernel
theorem dX7_minds_4 : decode cX7_minds 4 = .ok (.bipush 8, 2) := by decide +kernel
theorem dX7_minds_6 : decode cX7_minds 6 = .ok (.if_icmp .ne 51, 3) := by decide +kernel
theorem dX7_minds_9 : decode cX7_minds 9 = .ok (.iconst 0, 1) := by decide +kernel
theorem dX7_minds_10 : decode cX7_minds 10 = .ok (.istore_n 1, 1) := by decide +kernel
theorem dX7_minds_11 : decode cX7_minds 11 = .ok (.iload_n 1, 1) := by decide +kernel
theorem dX7_minds_12 : decode cX7_minds 12 = .ok (.sipush 595, 3) := by decide +kernel
theorem dX7_minds_15 : decode cX7_minds 15 = .ok (.if_icmp .ge 32, 3) := by decide +kernel
theorem dX7_minds_18 : decode cX7_minds 18 = .ok (.aload_n 0, 1) := by decide +kernel
theorem dX7_minds_19 : decode cX7_minds 19 = .ok (.getfield 7, 3) := by decide +kernel
theorem dX7_minds_22 : decode cX7_minds 22 = .ok (.sipush 340, 3) := by decide +kernel
theorem dX7_minds_25 : decode cX7_minds 25 = .ok (.iload_n 1, 1) := by decide +kernel
theorem dX7_minds_26 : decode cX7_minds 26 = .ok (.iadd, 1) := by decide +kernel
theorem dX7_minds_27 : decode cX7_minds 27 = .ok (.aload_n 0, 1) := by decide +kernel
theorem dX7_minds_28 : decode cX7_minds 28 = .ok (.getfield 7, 3) := by decide +kernel
theorem dX7_minds_31 : decode cX7_minds 31 = .ok (.sipush 340, 3) := by decide +kernel
theorem dX7_minds_34 : decode cX7_minds 34 = .ok (.iload_n 1, 1) := by decide +kernel
theorem dX7_minds_35 : decode cX7_minds 35 = .ok (.iadd, 1) := by decide +kernel
theorem dX7_minds_36 : decode cX7_minds 36 = .ok (.bipush 85, 2) := by decide +kernel
theorem dX7_minds_38 : decode cX7_minds 38 = .ok (.iadd, 1) := by decide +kernel
theorem dX7_minds_39 : decode cX7_minds 39 = .ok (.iaload, 1) := by decide +kernel
theorem dX7_minds_40 : decode cX7_minds 40 = .ok (.iastore, 1) := by decide +kernel
theorem dX7_minds_41 : decode cX7_minds 41 = .ok (.iinc 1 1, 3) := by decide +kernel
theorem dX7_minds_44 : decode cX7_minds 44 = .ok (.goto (-33), 3) := by decide +kernel
theorem dX7_minds_47 : decode cX7_minds 47 = .ok (.aload_n 0, 1) := by decide +kernel
theorem dX7_minds_48 : decode cX7_minds 48 = .ok (.dup, 1) := by decide +kernel
theorem dX7_minds_49 : decode cX7_minds 49 = .ok (.getfield 129, 3) := by decide +kernel
theorem dX7_minds_52 : decode cX7_minds 52 = .ok (.iconst 1, 1) := by decide +kernel
theorem dX7_minds_53 : decode cX7_minds 53 = .ok (.isub, 1) := by decide +kernel
theorem dX7_minds_54 : decode cX7_minds 54 = .ok (.putfield 129, 3) := by decide +kernel
theorem dX7_minds_57 : decode cX7_minds 57 = .ok (.aload_n 0, 1) := by decide +kernel
theorem dX7_minds_58 : decode cX7_minds 58 = .ok (.iconst 0, 1) := by decide +kernel
theorem dX7_minds_59 : decode cX7_minds 59 = .ok (.sipush 340, 3) := by decide +kernel
theorem dX7_minds_62 : decode cX7_minds 62 = .ok (.bipush 85, 2) := by decide +kernel
theorem dX7_minds_64 : decode cX7_minds 64 = .ok (.aload_n 0, 1) := by decide +kernel
theorem dX7_minds_65 : decode cX7_minds 65 = .ok (.getfield 129, 3) := by decide +kernel
theorem dX7_minds_68 : decode cX7_minds 68 = .ok (.imul, 1) := by decide +kernel
theorem dX7_minds_69 : decode cX7_minds 69 = .ok (.iadd, 1) := by decide +kernel
theorem dX7_minds_70 : decode cX7_minds 70 = .ok (.invokevirtual 167, 3) := by decide +kernel
theorem dX7_minds_73 : decode cX7_minds 73 = .ok (.aload_n 0, 1) := by decide +kernel
theorem dX7_minds_74 : decode cX7_minds 74 = .ok (.dup, 1) := by decide +kernel
theorem dX7_minds_75 : decode cX7_minds 75 = .ok (.getfield 129, 3) := by decide +kernel
theorem dX7_minds_78 : decode cX7_minds 78 = .ok (.iconst 1, 1) := by decide +kernel
theorem dX7_minds_79 : decode cX7_minds 79 = .ok (.iadd, 1) := by decide +kernel
theorem dX7_minds_80 : decode cX7_minds 80 = .ok (.putfield 129, 3) := by decide +kernel
theorem dX7_minds_83 : decode cX7_minds 83 = .ok (.return_, 1) := by decide +kernel
theorem dX7_shave_0 : decode cX7_shave 0 = .ok (.aload_n 0, 1) := by decide +kernel
theorem dX7_shave_1 : decode cX7_shave 1 = .ok (.iload_n 1, 1) := by decide +kernel
theorem dX7_shave_2 : decode cX7_shave 2 = .ok (.invokevirtual 159, 3) := by decide +kernel
theorem dX7_shave_5 : decode cX7_shave 5 = .ok (.ifCond .eq 18, 3) := by decide +kernel
theorem dX7_shave_8 : decode cX7_shave 8 = .ok (.aload_n 0, 1) := by decide +kernel
theorem dX7_shave_9 : decode cX7_shave 9 = .ok (.iload_n 2, 1) := by decide +kernel
theorem dX7_shave_10 : decode cX7_shave 10 = .ok (.invokevirtual 144, 3) := by decide +kernel
theorem dX7_shave_13 : decode cX7_shave 13 = .ok (.ifCond .eq 10, 3) := by decide +kernel
theorem dX7_shave_16 : decode cX7_shave 16 = .ok (.iload_n 3, 1) := by decide +kernel
theorem dX7_shave_17 : decode cX7_shave 17 = .ok (.invokestatic 153, 3) := by decide +kernel
theorem dX7_shave_20 : decode cX7_shave 20 = .ok (.ifCond .ne 6, 3) := by decide +kernel
theorem dX7_shave_23 : decode cX7_shave 23 = .ok (.bipush (-2), 2) := by decide +kernel
theorem dX7_shave_25 : decode cX7_shave 25 = .ok (.ireturn, 1) := by decide +kernel
theorem dX7_shave_26 : decode cX7_shave 26 = .ok (.aload_n 0, 1) := by decide +kernel
theorem dX7_shave_27 : decode cX7_shave 27 = .ok (.invokevirtual 171, 3) := by decide +kernel
theorem dX7_shave_30 : decode cX7_shave 30 = .ok (.aload_n 0, 1) := by decide +kernel
theorem dX7_shave_31 : decode cX7_shave 31 = .ok (.iconst 0, 1) := by decide +kernel
theorem dX7_shave_32 : decode cX7_shave 32 = .ok (.iload_n 1, 1) := by decide +kernel
theorem dX7_shave_33 : decode cX7_shave 33 = .ok (.iload_n 2, 1) := by decide +kernel
theorem dX7_shave_34 : decode cX7_shave 34 = .ok (.iload_n 3, 1) := by decide +kernel
theorem dX7_shave_35 : decode cX7_shave 35 = .ok (.invokevirtual 174, 3) := by decide +kernel
theorem dX7_shave_38 : decode cX7_shave 38 = .ok (.ireturn, 1) := by decide +kernel
theorem dX7_day_0 : decode cX7_day 0 = .ok (.aload_n 0, 1) := by decide +kernel
theorem dX7_day_1 : decode cX7_day 1 = .ok (.getfield 7, 3) := by decide +kernel
theorem dX7_day_4 : decode cX7_day 4 = .ok (.iconst 0, 1) := by decide +kernel
theorem dX7_day_5 : decode cX7_day 5 = .ok (.iaload, 1) := by decide +kernel
theorem dX7_day_6 : decode cX7_day 6 = .ok (.sipush 999, 3) := by decide +kernel
theorem dX7_day_9 : decode cX7_day 9 = .ok (.if_icmp .ne 6, 3) := by decide +kernel
theorem dX7_day_12 : decode cX7_day 12 = .ok (.bipush (-5), 2) := by decide +kernel
theorem dX7_day_14 : decode cX7_day 14 = .ok (.ireturn, 1) := by decide +kernel
theorem dX7_day_15 : decode cX7_day 15 = .ok (.aload_n 0, 1) := by decide +kernel
theorem dX7_day_16 : decode cX7_day 16 = .ok (.invokevirtual 171, 3) := by decide +kernel
theorem dX7_day_19 : decode cX7_day 19 = .ok (.aload_n 0, 1) := by decide +kernel
theorem dX7_day_20 : decode cX7_day 20 = .ok (.getfield 7, 3) := by decide +kernel
theorem dX7_day_23 : decode cX7_day 23 = .ok (.iconst 0, 1) := by decide +kernel
theorem dX7_day_24 : decode cX7_day 24 = .ok (.dup2, 1) := by decide +kernel
theorem dX7_day_25 : decode cX7_day 25 = .ok (.iaload, 1) := by decide +kernel
theorem dX7_day_26 : decode cX7_day 26 = .ok (.iconst 1, 1) := by decide +kernel
theorem dX7_day_27 : decode cX7_day 27 = .ok (.iadd, 1) := by decide +kernel
theorem dX7_day_28 : decode cX7_day 28 = .ok (.iastore, 1) := by decide +kernel
theorem dX7_day_29 : decode cX7_day 29 = .ok (.iconst 0, 1) := by decide +kernel
theorem dX7_day_30 : decode cX7_day 30 = .ok (.istore_n 1, 1) := by decide +kernel
theorem dX7_day_31 : decode cX7_day 31 = .ok (.iload_n 1, 1) := by decide +kernel
theorem dX7_day_32 : decode cX7_day 32 = .ok (.bipush 6, 2) := by decide +kernel
theorem dX7_day_34 : decode cX7_day 34 = .ok (.aload_n 0, 1) := by decide +kernel
theorem dX7_day_35 : decode cX7_day 35 = .ok (.getfield 13, 3) := by decide +kernel
theorem dX7_day_38 : decode cX7_day 38 = .ok (.iconst 1, 1) := by decide +kernel
theorem dX7_day_39 : decode cX7_day 39 = .ok (.iaload, 1) := by decide +kernel
theorem dX7_day_40 : decode cX7_day 40 = .ok (.imul, 1) := by decide +kernel
theorem dX7_day_41 : decode cX7_day 41 = .ok (.if_icmp .ge 45, 3) := by decide +kernel
theorem dX7_day_44 : decode cX7_day 44 = .ok (.aload_n 0, 1) := by decide +kernel
theorem dX7_day_45 : decode cX7_day 45 = .ok (.getfield 7, 3) := by decide +kernel
theorem dX7_day_48 : decode cX7_day 48 = .ok (.iconst 1, 1) := by decide +kernel
theorem dX7_day_49 : decode cX7_day 49 = .ok (.iload_n 1, 1) := by decide +kernel
theorem dX7_day_50 : decode cX7_day 50 = .ok (.iadd, 1) := by decide +kernel
theorem dX7_day_51 : decode cX7_day 51 = .ok (.aload_n 0, 1) := by decide +kernel
theorem dX7_day_52 : decode cX7_day 52 = .ok (.getfield 7, 3) := by decide +kernel
theorem dX7_day_55 : decode cX7_day 55 = .ok (.iconst 1, 1) := by decide +kernel
theorem dX7_day_56 : decode cX7_day 56 = .ok (.iload_n 1, 1) := by decide +kernel
theorem dX7_day_57 : decode cX7_day 57 = .ok (.iadd, 1) := by decide +kernel
theorem dX7_day_58 : decode cX7_day 58 = .ok (.iaload, 1) := by decide +kernel
theorem dX7_day_59 : decode cX7_day 59 = .ok (.bipush 9, 2) := by decide +kernel
theorem dX7_day_61 : decode cX7_day 61 = .ok (.if_icmp .ge 16, 3) := by decide +kernel
theorem dX7_day_64 : decode cX7_day 64 = .ok (.aload_n 0, 1) := by decide +kernel
theorem dX7_day_65 : decode cX7_day 65 = .ok (.getfield 7, 3) := by decide +kernel
theorem dX7_day_68 : decode cX7_day 68 = .ok (.iconst 1, 1) := by decide +kernel
theorem dX7_day_69 : decode cX7_day 69 = .ok (.iload_n 1, 1) := by decide +kernel
theorem dX7_day_70 : decode cX7_day 70 = .ok (.iadd, 1) := by decide +kernel
theorem dX7_day_71 : decode cX7_day 71 = .ok (.iaload, 1) := by decide +kernel
theorem dX7_day_72 : decode cX7_day 72 = .ok (.iconst 1, 1) := by decide +kernel
theorem dX7_day_73 : decode cX7_day 73 = .ok (.iadd, 1) := by decide +kernel
theorem dX7_day_74 : decode cX7_day 74 = .ok (.goto 5, 3) := by decide +kernel
theorem dX7_day_77 : decode cX7_day 77 = .ok (.bipush 9, 2) := by decide +kernel
theorem dX7_day_79 : decode cX7_day 79 = .ok (.iastore, 1) := by decide +kernel
theorem dX7_day_80 : decode cX7_day 80 = .ok (.iinc 1 1, 3) := by decide +kernel
theorem dX7_day_83 : decode cX7_day 83 = .ok (.goto (-52), 3) := by decide +kernel
theorem dX7_day_86 : decode cX7_day 86 = .ok (.aload_n 0, 1) := by decide +kernel
theorem dX7_day_87 : decode cX7_day 87 = .ok (.getfield 7, 3) := by decide +kernel
theorem dX7_day_90 : decode cX7_day 90 = .ok (.iconst 0, 1) := by decide +kernel
theorem dX7_day_91 : decode cX7_day 91 = .ok (.iaload, 1) := by decide +kernel
theorem dX7_day_92 : decode cX7_day 92 = .ok (.ireturn, 1) := by decide +kernel
theorem dX7_talk_0 : decode cX7_talk 0 = .ok (.aload_n 0, 1) := by decide +kernel
theorem dX7_talk_1 : decode cX7_talk 1 = .ok (.iload_n 1, 1) := by decide +kernel
theorem dX7_talk_2 : decode cX7_talk 2 = .ok (.invokevirtual 159, 3) := by decide +kernel
theorem dX7_talk_5 : decode cX7_talk 5 = .ok (.ifCond .eq 24, 3) := by decide +kernel
theorem dX7_talk_8 : decode cX7_talk 8 = .ok (.aload_n 0, 1) := by decide +kernel
theorem dX7_talk_9 : decode cX7_talk 9 = .ok (.iload_n 2, 1) := by decide +kernel
theorem dX7_talk_10 : decode cX7_talk 10 = .ok (.invokevirtual 159, 3) := by decide +kernel
theorem dX7_talk_13 : decode cX7_talk 13 = .ok (.ifCond .eq 16, 3) := by decide +kernel
theorem dX7_talk_16 : decode cX7_talk 16 = .ok (.iload_n 1, 1) := by decide +kernel
theorem dX7_talk_17 : decode cX7_talk 17 = .ok (.iload_n 2, 1) := by decide +kernel
theorem dX7_talk_18 : decode cX7_talk 18 = .ok (.if_icmp .eq 11, 3) := by decide +kernel
theorem dX7_talk_21 : decode cX7_talk 21 = .ok (.aload_n 0, 1) := by decide +kernel
theorem dX7_talk_22 : decode cX7_talk 22 = .ok (.iload_n 3, 1) := by decide +kernel
theorem dX7_talk_23 : decode cX7_talk 23 = .ok (.invokevirtual 144, 3) := by decide +kernel
theorem dX7_talk_26 : decode cX7_talk 26 = .ok (.ifCond .ne 6, 3) := by decide +kernel
theorem dX7_talk_29 : decode cX7_talk 29 = .ok (.bipush (-2), 2) := by decide +kernel
theorem dX7_talk_31 : decode cX7_talk 31 = .ok (.ireturn, 1) := by decide +kernel
theorem dX7_talk_32 : decode cX7_talk 32 = .ok (.aload_n 0, 1) := by decide +kernel
theorem dX7_talk_33 : decode cX7_talk 33 = .ok (.invokevirtual 171, 3) := by decide +kernel
theorem dX7_talk_36 : decode cX7_talk 36 = .ok (.bipush 6, 2) := by decide +kernel
theorem dX7_talk_38 : decode cX7_talk 38 = .ok (.iload_n 1, 1) := by decide +kernel
theorem dX7_talk_39 : decode cX7_talk 39 = .ok (.imul, 1) := by decide +kernel
theorem dX7_talk_40 : decode cX7_talk 40 = .ok (.iload_n 3, 1) := by decide +kernel
theorem dX7_talk_41 : decode cX7_talk 41 = .ok (.iadd, 1) := by decide +kernel
theorem dX7_talk_42 : decode cX7_talk 42 = .ok (.istore 4, 2) := by decide +kernel
theorem dX7_talk_44 : decode cX7_talk 44 = .ok (.bipush 6, 2) := by decide +kernel
theorem dX7_talk_46 : decode cX7_talk 46 = .ok (.iload_n 2, 1) := by decide +kernel
theorem dX7_talk_47 : decode cX7_talk 47 = .ok (.imul, 1) := by decide +kernel
theorem dX7_talk_48 : decode cX7_talk 48 = .ok (.iload_n 3, 1) := by decide +kernel
theorem dX7_talk_49 : decode cX7_talk 49 = .ok (.iadd, 1) := by decide +kernel
theorem dX7_talk_50 : decode cX7_talk 50 = .ok (.istore 5, 2) := by decide +kernel
theorem dX7_talk_52 : decode cX7_talk 52 = .ok (.aload_n 0, 1) := by decide +kernel
theorem dX7_talk_53 : decode cX7_talk 53 = .ok (.getfield 7, 3) := by decide +kernel
theorem dX7_talk_56 : decode cX7_talk 56 = .ok (.bipush 61, 2) := by decide +kernel
theorem dX7_talk_58 : decode cX7_talk 58 = .ok (.iload 5, 2) := by decide +kernel
theorem dX7_talk_60 : decode cX7_talk 60 = .ok (.iadd, 1) := by decide +kernel
end
section
theorem dX7_talk_61 : decode cX7_talk 61 = .ok (.aload_n 0, 1) := by decide +kernel
theorem dX7_talk_62 : decode cX7_talk 62 = .ok (.getfield 7, 3) := by decide +kernel
theorem dX7_talk_65 : decode cX7_talk 65 = .ok (.bipush 61, 2) := by decide +kernel
theorem dX7_talk_67 : decode cX7_talk 67 = .ok (.iload 5, 2) := by decide +kernel
theorem dX7_talk_69 : decode cX7_talk 69 = .ok (.iadd, 1) := by decide +kernel
theorem dX7_talk_70 : decode cX7_talk 70 = .ok (.iaload, 1) := by decide +kernel
theorem dX7_talk_71 : decode cX7_talk 71 = .ok (.aload_n 0, 1) := by decide +kernel
theorem dX7_talk_72 : decode cX7_talk 72 = .ok (.getfield 7, 3) := by decide +kernel
theorem dX7_talk_75 : decode cX7_talk 75 = .ok (.bipush 37, 2) := by decide +kernel
theorem dX7_talk_77 : decode cX7_talk 77 = .ok (.iload 4, 2) := by decide +kernel
theorem dX7_talk_79 : decode cX7_talk 79 = .ok (.iadd, 1) := by decide +kernel
theorem dX7_talk_80 : decode cX7_talk 80 = .ok (.iaload, 1) := by decide +kernel
theorem dX7_talk_81 : decode cX7_talk 81 = .ok (.iconst (-1), 1) := by decide +kernel
theorem dX7_talk_82 : decode cX7_talk 82 = .ok (.ixor, 1) := by decide +kernel
theorem dX7_talk_83 : decode cX7_talk 83 = .ok (.iand, 1) := by decide +kernel
theorem dX7_talk_84 : decode cX7_talk 84 = .ok (.aload_n 0, 1) := by decide +kernel
theorem dX7_talk_85 : decode cX7_talk 85 = .ok (.getfield 7, 3) := by decide +kernel
theorem dX7_talk_88 : decode cX7_talk 88 = .ok (.bipush 61, 2) := by decide +kernel
theorem dX7_talk_90 : decode cX7_talk 90 = .ok (.iload 4, 2) := by decide +kernel
theorem dX7_talk_92 : decode cX7_talk 92 = .ok (.iadd, 1) := by decide +kernel
theorem dX7_talk_93 : decode cX7_talk 93 = .ok (.iaload, 1) := by decide +kernel
theorem dX7_talk_94 : decode cX7_talk 94 = .ok (.ior, 1) := by decide +kernel
theorem dX7_talk_95 : decode cX7_talk 95 = .ok (.iastore, 1) := by decide +kernel
theorem dX7_talk_96 : decode cX7_talk 96 = .ok (.aload_n 0, 1) := by decide +kernel
theorem dX7_talk_97 : decode cX7_talk 97 = .ok (.getfield 7, 3) := by decide +kernel
theorem dX7_talk_100 : decode cX7_talk 100 = .ok (.bipush 37, 2) := by decide +kernel
theorem dX7_talk_102 : decode cX7_talk 102 = .ok (.iload 5, 2) := by decide +kernel
theorem dX7_talk_104 : decode cX7_talk 104 = .ok (.iadd, 1) := by decide +kernel
theorem dX7_talk_105 : decode cX7_talk 105 = .ok (.dup2, 1) := by decide +kernel
theorem dX7_talk_106 : decode cX7_talk 106 = .ok (.iaload, 1) := by decide +kernel
theorem dX7_talk_107 : decode cX7_talk 107 = .ok (.aload_n 0, 1) := by decide +kernel
theorem dX7_talk_108 : decode cX7_talk 108 = .ok (.getfield 7, 3) := by decide +kernel
theorem dX7_talk_111 : decode cX7_talk 111 = .ok (.bipush 37, 2) := by decide +kernel
theorem dX7_talk_113 : decode cX7_talk 113 = .ok (.iload 4, 2) := by decide +kernel
theorem dX7_talk_115 : decode cX7_talk 115 = .ok (.iadd, 1) := by decide +kernel
theorem dX7_talk_116 : decode cX7_talk 116 = .ok (.iaload, 1) := by decide +kernel
theorem dX7_talk_117 : decode cX7_talk 117 = .ok (.ior, 1) := by decide +kernel
theorem dX7_talk_118 : decode cX7_talk 118 = .ok (.iastore, 1) := by decide +kernel
theorem dX7_talk_119 : decode cX7_talk 119 = .ok (.aload_n 0, 1) := by decide +kernel
theorem dX7_talk_120 : decode cX7_talk 120 = .ok (.getfield 7, 3) := by decide +kernel
theorem dX7_talk_123 : decode cX7_talk 123 = .ok (.bipush 37, 2) := by decide +kernel
theorem dX7_talk_125 : decode cX7_talk 125 = .ok (.iload 5, 2) := by decide +kernel
theorem dX7_talk_127 : decode cX7_talk 127 = .ok (.iadd, 1) := by decide +kernel
theorem dX7_talk_128 : decode cX7_talk 128 = .ok (.iaload, 1) := by decide +kernel
theorem dX7_talk_129 : decode cX7_talk 129 = .ok (.ireturn, 1) := by decide +kernel
theorem dX7_burn_0 : decode cX7_burn 0 = .ok (.aload_n 0, 1) := by decide +kernel
theorem dX7_burn_1 : decode cX7_burn 1 = .ok (.iload_n 1, 1) := by decide +kernel
theorem dX7_burn_2 : decode cX7_burn 2 = .ok (.invokevirtual 159, 3) := by decide +kernel
theorem dX7_burn_5 : decode cX7_burn 5 = .ok (.ifCond .eq 11, 3) := by decide +kernel
theorem dX7_burn_8 : decode cX7_burn 8 = .ok (.aload_n 0, 1) := by decide +kernel
theorem dX7_burn_9 : decode cX7_burn 9 = .ok (.iload_n 2, 1) := by decide +kernel
theorem dX7_burn_10 : decode cX7_burn 10 = .ok (.invokevirtual 144, 3) := by decide +kernel
theorem dX7_burn_13 : decode cX7_burn 13 = .ok (.ifCond .ne 6, 3) := by decide +kernel
theorem dX7_burn_16 : decode cX7_burn 16 = .ok (.bipush (-2), 2) := by decide +kernel
theorem dX7_burn_18 : decode cX7_burn 18 = .ok (.ireturn, 1) := by decide +kernel
theorem dX7_burn_19 : decode cX7_burn 19 = .ok (.bipush 6, 2) := by decide +kernel
theorem dX7_burn_21 : decode cX7_burn 21 = .ok (.iload_n 1, 1) := by decide +kernel
theorem dX7_burn_22 : decode cX7_burn 22 = .ok (.imul, 1) := by decide +kernel
theorem dX7_burn_23 : decode cX7_burn 23 = .ok (.iload_n 2, 1) := by decide +kernel
theorem dX7_burn_24 : decode cX7_burn 24 = .ok (.iadd, 1) := by decide +kernel
theorem dX7_burn_25 : decode cX7_burn 25 = .ok (.istore_n 3, 1) := by decide +kernel
theorem dX7_burn_26 : decode cX7_burn 26 = .ok (.aload_n 0, 1) := by decide +kernel
theorem dX7_burn_27 : decode cX7_burn 27 = .ok (.getfield 7, 3) := by decide +kernel
theorem dX7_burn_30 : decode cX7_burn 30 = .ok (.bipush 37, 2) := by decide +kernel
theorem dX7_burn_32 : decode cX7_burn 32 = .ok (.iload_n 3, 1) := by decide +kernel
theorem dX7_burn_33 : decode cX7_burn 33 = .ok (.iadd, 1) := by decide +kernel
theorem dX7_burn_34 : decode cX7_burn 34 = .ok (.iaload, 1) := by decide +kernel
theorem dX7_burn_35 : decode cX7_burn 35 = .ok (.invokestatic 178, 3) := by decide +kernel
theorem dX7_burn_38 : decode cX7_burn 38 = .ok (.istore 4, 2) := by decide +kernel
theorem dX7_burn_40 : decode cX7_burn 40 = .ok (.iload 4, 2) := by decide +kernel
theorem dX7_burn_42 : decode cX7_burn 42 = .ok (.ifCond .ne 6, 3) := by decide +kernel
theorem dX7_burn_45 : decode cX7_burn 45 = .ok (.bipush (-4), 2) := by decide +kernel
theorem dX7_burn_47 : decode cX7_burn 47 = .ok (.ireturn, 1) := by decide +kernel
theorem dX7_burn_48 : decode cX7_burn 48 = .ok (.aload_n 0, 1) := by decide +kernel
theorem dX7_burn_49 : decode cX7_burn 49 = .ok (.invokevirtual 171, 3) := by decide +kernel
theorem dX7_burn_52 : decode cX7_burn 52 = .ok (.aload_n 0, 1) := by decide +kernel
theorem dX7_burn_53 : decode cX7_burn 53 = .ok (.getfield 7, 3) := by decide +kernel
theorem dX7_burn_56 : decode cX7_burn 56 = .ok (.bipush 37, 2) := by decide +kernel
theorem dX7_burn_58 : decode cX7_burn 58 = .ok (.iload_n 3, 1) := by decide +kernel
theorem dX7_burn_59 : decode cX7_burn 59 = .ok (.iadd, 1) := by decide +kernel
theorem dX7_burn_60 : decode cX7_burn 60 = .ok (.iconst 0, 1) := by decide +kernel
theorem dX7_burn_61 : decode cX7_burn 61 = .ok (.iastore, 1) := by decide +kernel
theorem dX7_burn_62 : decode cX7_burn 62 = .ok (.aload_n 0, 1) := by decide +kernel
theorem dX7_burn_63 : decode cX7_burn 63 = .ok (.getfield 7, 3) := by decide +kernel
theorem dX7_burn_66 : decode cX7_burn 66 = .ok (.bipush 61, 2) := by decide +kernel
theorem dX7_burn_68 : decode cX7_burn 68 = .ok (.iload_n 3, 1) := by decide +kernel
theorem dX7_burn_69 : decode cX7_burn 69 = .ok (.iadd, 1) := by decide +kernel
theorem dX7_burn_70 : decode cX7_burn 70 = .ok (.iconst 0, 1) := by decide +kernel
theorem dX7_burn_71 : decode cX7_burn 71 = .ok (.iastore, 1) := by decide +kernel
theorem dX7_burn_72 : decode cX7_burn 72 = .ok (.iload 4, 2) := by decide +kernel
theorem dX7_burn_74 : decode cX7_burn 74 = .ok (.ireturn, 1) := by decide +kernel
theorem dX7_undo_0 : decode cX7_undo 0 = .ok (.aload_n 0, 1) := by decide +kernel
theorem dX7_undo_1 : decode cX7_undo 1 = .ok (.getfield 129, 3) := by decide +kernel
theorem dX7_undo_4 : decode cX7_undo 4 = .ok (.ifCond .ne 6, 3) := by decide +kernel
theorem dX7_undo_7 : decode cX7_undo 7 = .ok (.bipush (-4), 2) := by decide +kernel
theorem dX7_undo_9 : decode cX7_undo 9 = .ok (.ireturn, 1) := by decide +kernel
theorem dX7_undo_10 : decode cX7_undo 10 = .ok (.aload_n 0, 1) := by decide +kernel
theorem dX7_undo_11 : decode cX7_undo 11 = .ok (.dup, 1) := by decide +kernel
theorem dX7_undo_12 : decode cX7_undo 12 = .ok (.getfield 129, 3) := by decide +kernel
theorem dX7_undo_15 : decode cX7_undo 15 = .ok (.iconst 1, 1) := by decide +kernel
theorem dX7_undo_16 : decode cX7_undo 16 = .ok (.isub, 1) := by decide +kernel
theorem dX7_undo_17 : decode cX7_undo 17 = .ok (.putfield 129, 3) := by decide +kernel
theorem dX7_undo_20 : decode cX7_undo 20 = .ok (.aload_n 0, 1) := by decide +kernel
theorem dX7_undo_21 : decode cX7_undo 21 = .ok (.sipush 340, 3) := by decide +kernel
theorem dX7_undo_24 : decode cX7_undo 24 = .ok (.bipush 85, 2) := by decide +kernel
theorem dX7_undo_26 : decode cX7_undo 26 = .ok (.aload_n 0, 1) := by decide +kernel
theorem dX7_undo_27 : decode cX7_undo 27 = .ok (.getfield 129, 3) := by decide +kernel
theorem dX7_undo_30 : decode cX7_undo 30 = .ok (.imul, 1) := by decide +kernel
theorem dX7_undo_31 : decode cX7_undo 31 = .ok (.iadd, 1) := by decide +kernel
theorem dX7_undo_32 : decode cX7_undo 32 = .ok (.iconst 0, 1) := by decide +kernel
theorem dX7_undo_33 : decode cX7_undo 33 = .ok (.invokevirtual 167, 3) := by decide +kernel
theorem dX7_undo_36 : decode cX7_undo 36 = .ok (.aload_n 0, 1) := by decide +kernel
theorem dX7_undo_37 : decode cX7_undo 37 = .ok (.getfield 129, 3) := by decide +kernel
theorem dX7_undo_40 : decode cX7_undo 40 = .ok (.ireturn, 1) := by decide +kernel
theorem dX7_keep_0 : decode cX7_keep 0 = .ok (.iload_n 1, 1) := by decide +kernel
theorem dX7_keep_1 : decode cX7_keep 1 = .ok (.i2l, 1) := by decide +kernel
theorem dX7_keep_2 : decode cX7_keep 2 = .ok (.lconst 0, 1) := by decide +kernel
theorem dX7_keep_3 : decode cX7_keep 3 = .ok (.lconst 1, 1) := by decide +kernel
theorem dX7_keep_4 : decode cX7_keep 4 = .ok (.invokestatic 35, 3) := by decide +kernel
theorem dX7_keep_7 : decode cX7_keep 7 = .ok (.ifCond .ne 6, 3) := by decide +kernel
theorem dX7_keep_10 : decode cX7_keep 10 = .ok (.bipush (-2), 2) := by decide +kernel
theorem dX7_keep_12 : decode cX7_keep 12 = .ok (.ireturn, 1) := by decide +kernel
theorem dX7_keep_13 : decode cX7_keep 13 = .ok (.aload_n 0, 1) := by decide +kernel
theorem dX7_keep_14 : decode cX7_keep 14 = .ok (.iconst 0, 1) := by decide +kernel
theorem dX7_keep_15 : decode cX7_keep 15 = .ok (.bipush 85, 2) := by decide +kernel
theorem dX7_keep_17 : decode cX7_keep 17 = .ok (.bipush 85, 2) := by decide +kernel
theorem dX7_keep_19 : decode cX7_keep 19 = .ok (.iload_n 1, 1) := by decide +kernel
theorem dX7_keep_20 : decode cX7_keep 20 = .ok (.imul, 1) := by decide +kernel
theorem dX7_keep_21 : decode cX7_keep 21 = .ok (.iadd, 1) := by decide +kernel
theorem dX7_keep_22 : decode cX7_keep 22 = .ok (.invokevirtual 167, 3) := by decide +kernel
theorem dX7_keep_25 : decode cX7_keep 25 = .ok (.aload_n 0, 1) := by decide +kernel
theorem dX7_keep_26 : decode cX7_keep 26 = .ok (.getfield 19, 3) := by decide +kernel
theorem dX7_keep_29 : decode cX7_keep 29 = .ok (.iload_n 1, 1) := by decide +kernel
theorem dX7_keep_30 : decode cX7_keep 30 = .ok (.iconst 1, 1) := by decide +kernel
theorem dX7_keep_31 : decode cX7_keep 31 = .ok (.bastore, 1) := by decide +kernel
theorem dX7_keep_32 : decode cX7_keep 32 = .ok (.aload_n 0, 1) := by decide +kernel
theorem dX7_keep_33 : decode cX7_keep 33 = .ok (.getfield 7, 3) := by decide +kernel
theorem dX7_keep_36 : decode cX7_keep 36 = .ok (.iconst 0, 1) := by decide +kernel
theorem dX7_keep_37 : decode cX7_keep 37 = .ok (.iaload, 1) := by decide +kernel
theorem dX7_keep_38 : decode cX7_keep 38 = .ok (.ireturn, 1) := by decide +kernel
theorem dX7_back_0 : decode cX7_back 0 = .ok (.iload_n 1, 1) := by decide +kernel
theorem dX7_back_1 : decode cX7_back 1 = .ok (.i2l, 1) := by decide +kernel
theorem dX7_back_2 : decode cX7_back 2 = .ok (.lconst 0, 1) := by decide +kernel
theorem dX7_back_3 : decode cX7_back 3 = .ok (.lconst 1, 1) := by decide +kernel
theorem dX7_back_4 : decode cX7_back 4 = .ok (.invokestatic 35, 3) := by decide +kernel
theorem dX7_back_7 : decode cX7_back 7 = .ok (.ifCond .ne 6, 3) := by decide +kernel
theorem dX7_back_10 : decode cX7_back 10 = .ok (.bipush (-2), 2) := by decide +kernel
theorem dX7_back_12 : decode cX7_back 12 = .ok (.ireturn, 1) := by decide +kernel
theorem dX7_back_13 : decode cX7_back 13 = .ok (.aload_n 0, 1) := by decide +kernel
theorem dX7_back_14 : decode cX7_back 14 = .ok (.getfield 19, 3) := by decide +kernel
theorem dX7_back_17 : decode cX7_back 17 = .ok (.iload_n 1, 1) := by decide +kernel
theorem dX7_back_18 : decode cX7_back 18 = .ok (.baload, 1) := by decide +kernel
theorem dX7_back_19 : decode cX7_back 19 = .ok (.ifCond .ne 6, 3) := by decide +kernel
theorem dX7_back_22 : decode cX7_back 22 = .ok (.bipush (-4), 2) := by decide +kernel
theorem dX7_back_24 : decode cX7_back 24 = .ok (.ireturn, 1) := by decide +kernel
theorem dX7_back_25 : decode cX7_back 25 = .ok (.aload_n 0, 1) := by decide +kernel
theorem dX7_back_26 : decode cX7_back 26 = .ok (.bipush 85, 2) := by decide +kernel
theorem dX7_back_28 : decode cX7_back 28 = .ok (.bipush 85, 2) := by decide +kernel
theorem dX7_back_30 : decode cX7_back 30 = .ok (.iload_n 1, 1) := by decide +kernel
theorem dX7_back_31 : decode cX7_back 31 = .ok (.imul, 1) := by decide +kernel
theorem dX7_back_32 : decode cX7_back 32 = .ok (.iadd, 1) := by decide +kernel
theorem dX7_back_33 : decode cX7_back 33 = .ok (.iconst 0, 1) := by decide +kernel
theorem dX7_back_34 : decode cX7_back 34 = .ok (.invokevirtual 167, 3) := by decide +kernel
theorem dX7_back_37 : decode cX7_back 37 = .ok (.aload_n 0, 1) := by decide +kernel
theorem dX7_back_38 : decode cX7_back 38 = .ok (.iconst 0, 1) := by decide +kernel
theorem dX7_back_39 : decode cX7_back 39 = .ok (.putfield 129, 3) := by decide +kernel
theorem dX7_back_42 : decode cX7_back 42 = .ok (.aload_n 0, 1) := by decide +kernel
theorem dX7_back_43 : decode cX7_back 43 = .ok (.getfield 7, 3) := by decide +kernel
theorem dX7_back_46 : decode cX7_back 46 = .ok (.iconst 0, 1) := by decide +kernel
theorem dX7_back_47 : decode cX7_back 47 = .ok (.iaload, 1) := by decide +kernel
theorem dX7_back_48 : decode cX7_back 48 = .ok (.ireturn, 1) := by decide +kernel
theorem dX7_triesSet_0 : decode cX7_triesSet 0 = .ok (.aload_n 0, 1) := by decide +kernel
theorem dX7_triesSet_1 : decode cX7_triesSet 1 = .ok (.iconst 0, 1) := by decide +kernel
theorem dX7_triesSet_2 : decode cX7_triesSet 2 = .ok (.sipush 255, 3) := by decide +kernel
theorem dX7_triesSet_5 : decode cX7_triesSet 5 = .ok (.invokevirtual 167, 3) := by decide +kernel
theorem dX7_triesSet_8 : decode cX7_triesSet 8 = .ok (.iconst 0, 1) := by decide +kernel
theorem dX7_triesSet_9 : decode cX7_triesSet 9 = .ok (.istore 4, 2) := by decide +kernel
theorem dX7_triesSet_11 : decode cX7_triesSet 11 = .ok (.iload 4, 2) := by decide +kernel
theorem dX7_triesSet_13 : decode cX7_triesSet 13 = .ok (.bipush 6, 2) := by decide +kernel
theorem dX7_triesSet_15 : decode cX7_triesSet 15 = .ok (.if_icmp .ge 30, 3) := by decide +kernel
theorem dX7_triesSet_18 : decode cX7_triesSet 18 = .ok (.iload_n 3, 1) := by decide +kernel
theorem dX7_triesSet_19 : decode cX7_triesSet 19 = .ok (.iload 4, 2) := by decide +kernel
theorem dX7_triesSet_21 : decode cX7_triesSet 21 = .ok (.invokestatic 181, 3) := by decide +kernel
theorem dX7_triesSet_24 : decode cX7_triesSet 24 = .ok (.ifCond .eq 15, 3) := by decide +kernel
theorem dX7_triesSet_27 : decode cX7_triesSet 27 = .ok (.aload_n 0, 1) := by decide +kernel
theorem dX7_triesSet_28 : decode cX7_triesSet 28 = .ok (.sipush 255, 3) := by decide +kernel
theorem dX7_triesSet_31 : decode cX7_triesSet 31 = .ok (.iload_n 1, 1) := by decide +kernel
theorem dX7_triesSet_32 : decode cX7_triesSet 32 = .ok (.iload_n 2, 1) := by decide +kernel
theorem dX7_triesSet_33 : decode cX7_triesSet 33 = .ok (.iload 4, 2) := by decide +kernel
theorem dX7_triesSet_35 : decode cX7_triesSet 35 = .ok (.invokevirtual 174, 3) := by decide +kernel
theorem dX7_triesSet_38 : decode cX7_triesSet 38 = .ok (.pop, 1) := by decide +kernel
theorem dX7_triesSet_39 : decode cX7_triesSet 39 = .ok (.iinc 4 1, 3) := by decide +kernel
theorem dX7_triesSet_42 : decode cX7_triesSet 42 = .ok (.goto (-31), 3) := by decide +kernel
theorem dX7_triesSet_45 : decode cX7_triesSet 45 = .ok (.return_, 1) := by decide +kernel
theorem dX7_smooth_0 : decode cX7_smooth 0 = .ok (.aload_n 0, 1) := by decide +kernel
theorem dX7_smooth_1 : decode cX7_smooth 1 = .ok (.iload_n 1, 1) := by decide +kernel
theorem dX7_smooth_2 : decode cX7_smooth 2 = .ok (.invokevirtual 159, 3) := by decide +kernel
theorem dX7_smooth_5 : decode cX7_smooth 5 = .ok (.ifCond .eq 11, 3) := by decide +kernel
theorem dX7_smooth_8 : decode cX7_smooth 8 = .ok (.aload_n 0, 1) := by decide +kernel
theorem dX7_smooth_9 : decode cX7_smooth 9 = .ok (.iload_n 2, 1) := by decide +kernel
theorem dX7_smooth_10 : decode cX7_smooth 10 = .ok (.invokevirtual 144, 3) := by decide +kernel
theorem dX7_smooth_13 : decode cX7_smooth 13 = .ok (.ifCond .ne 6, 3) := by decide +kernel
theorem dX7_smooth_16 : decode cX7_smooth 16 = .ok (.bipush (-2), 2) := by decide +kernel
theorem dX7_smooth_18 : decode cX7_smooth 18 = .ok (.ireturn, 1) := by decide +kernel
theorem dX7_smooth_19 : decode cX7_smooth 19 = .ok (.iload_n 3, 1) := by decide +kernel
theorem dX7_smooth_20 : decode cX7_smooth 20 = .ok (.i2l, 1) := by decide +kernel
theorem dX7_smooth_21 : decode cX7_smooth 21 = .ok (.lconst 1, 1) := by decide +kernel
theorem dX7_smooth_22 : decode cX7_smooth 22 = .ok (.ldc2_w 184, 3) := by decide +kernel
theorem dX7_smooth_25 : decode cX7_smooth 25 = .ok (.invokestatic 35, 3) := by decide +kernel
theorem dX7_smooth_28 : decode cX7_smooth 28 = .ok (.ifCond .ne 6, 3) := by decide +kernel
theorem dX7_smooth_31 : decode cX7_smooth 31 = .ok (.bipush (-3), 2) := by decide +kernel
theorem dX7_smooth_33 : decode cX7_smooth 33 = .ok (.ireturn, 1) := by decide +kernel
theorem dX7_smooth_34 : decode cX7_smooth 34 = .ok (.iconst (-1), 1) := by decide +kernel
theorem dX7_smooth_35 : decode cX7_smooth 35 = .ok (.istore 4, 2) := by decide +kernel
theorem dX7_smooth_37 : decode cX7_smooth 37 = .ok (.iconst 0, 1) := by decide +kernel
theorem dX7_smooth_38 : decode cX7_smooth 38 = .ok (.istore 5, 2) := by decide +kernel
theorem dX7_smooth_40 : decode cX7_smooth 40 = .ok (.iload 5, 2) := by decide +kernel
theorem dX7_smooth_42 : decode cX7_smooth 42 = .ok (.bipush 64, 2) := by decide +kernel
theorem dX7_smooth_44 : decode cX7_smooth 44 = .ok (.if_icmp .ge 73, 3) := by decide +kernel
theorem dX7_smooth_47 : decode cX7_smooth 47 = .ok (.aload_n 0, 1) := by decide +kernel
theorem dX7_smooth_48 : decode cX7_smooth 48 = .ok (.iload_n 1, 1) := by decide +kernel
theorem dX7_smooth_49 : decode cX7_smooth 49 = .ok (.iload_n 2, 1) := by decide +kernel
theorem dX7_smooth_50 : decode cX7_smooth 50 = .ok (.iload 5, 2) := by decide +kernel
theorem dX7_smooth_52 : decode cX7_smooth 52 = .ok (.invokevirtual 186, 3) := by decide +kernel
theorem dX7_smooth_55 : decode cX7_smooth 55 = .ok (.aload_n 0, 1) := by decide +kernel
theorem dX7_smooth_56 : decode cX7_smooth 56 = .ok (.sipush 255, 3) := by decide +kernel
theorem dX7_smooth_59 : decode cX7_smooth 59 = .ok (.iload_n 1, 1) := by decide +kernel
theorem dX7_smooth_60 : decode cX7_smooth 60 = .ok (.iload_n 2, 1) := by decide +kernel
theorem dX7_smooth_61 : decode cX7_smooth 61 = .ok (.invokevirtual 162, 3) := by decide +kernel
theorem dX7_smooth_64 : decode cX7_smooth 64 = .ok (.invokestatic 190, 3) := by decide +kernel
theorem dX7_smooth_67 : decode cX7_smooth 67 = .ok (.iload_n 3, 1) := by decide +kernel
theorem dX7_smooth_68 : decode cX7_smooth 68 = .ok (.if_icmp .lt 7, 3) := by decide +kernel
theorem dX7_smooth_71 : decode cX7_smooth 71 = .ok (.iconst 1, 1) := by decide +kernel
theorem dX7_smooth_72 : decode cX7_smooth 72 = .ok (.goto 4, 3) := by decide +kernel
theorem dX7_smooth_75 : decode cX7_smooth 75 = .ok (.iconst 0, 1) := by decide +kernel
theorem dX7_smooth_76 : decode cX7_smooth 76 = .ok (.istore 6, 2) := by decide +kernel
theorem dX7_smooth_78 : decode cX7_smooth 78 = .ok (.iload 6, 2) := by decide +kernel
theorem dX7_smooth_80 : decode cX7_smooth 80 = .ok (.ifCond .eq 27, 3) := by decide +kernel
theorem dX7_smooth_83 : decode cX7_smooth 83 = .ok (.iload 4, 2) := by decide +kernel
theorem dX7_smooth_85 : decode cX7_smooth 85 = .ok (.iconst (-1), 1) := by decide +kernel
theorem dX7_smooth_86 : decode cX7_smooth 86 = .ok (.if_icmp .eq 16, 3) := by decide +kernel
theorem dX7_smooth_89 : decode cX7_smooth 89 = .ok (.iload 5, 2) := by decide +kernel
theorem dX7_smooth_91 : decode cX7_smooth 91 = .ok (.invokestatic 178, 3) := by decide +kernel
theorem dX7_smooth_94 : decode cX7_smooth 94 = .ok (.iload 4, 2) := by decide +kernel
theorem dX7_smooth_96 : decode cX7_smooth 96 = .ok (.invokestatic 178, 3) := by decide +kernel
theorem dX7_smooth_99 : decode cX7_smooth 99 = .ok (.if_icmp .le 8, 3) := by decide +kernel
theorem dX7_smooth_102 : decode cX7_smooth 102 = .ok (.iload 5, 2) := by decide +kernel
theorem dX7_smooth_104 : decode cX7_smooth 104 = .ok (.goto 5, 3) := by decide +kernel
theorem dX7_smooth_107 : decode cX7_smooth 107 = .ok (.iload 4, 2) := by decide +kernel
theorem dX7_smooth_109 : decode cX7_smooth 109 = .ok (.istore 4, 2) := by decide +kernel
theorem dX7_smooth_111 : decode cX7_smooth 111 = .ok (.iinc 5 1, 3) := by decide +kernel
theorem dX7_smooth_114 : decode cX7_smooth 114 = .ok (.goto (-74), 3) := by decide +kernel
theorem dX7_smooth_117 : decode cX7_smooth 117 = .ok (.iload 4, 2) := by decide +kernel
theorem dX7_smooth_119 : decode cX7_smooth 119 = .ok (.ireturn, 1) := by decide +kernel
theorem dX7_next_0 : decode cX7_next 0 = .ok (.aload_n 0, 1) := by decide +kernel
theorem dX7_next_1 : decode cX7_next 1 = .ok (.iload_n 1, 1) := by decide +kernel
theorem dX7_next_2 : decode cX7_next 2 = .ok (.invokevirtual 159, 3) := by decide +kernel
theorem dX7_next_5 : decode cX7_next 5 = .ok (.ifCond .eq 11, 3) := by decide +kernel
theorem dX7_next_8 : decode cX7_next 8 = .ok (.aload_n 0, 1) := by decide +kernel
theorem dX7_next_9 : decode cX7_next 9 = .ok (.iload_n 2, 1) := by decide +kernel
theorem dX7_next_10 : decode cX7_next 10 = .ok (.invokevirtual 144, 3) := by decide +kernel
theorem dX7_next_13 : decode cX7_next 13 = .ok (.ifCond .ne 6, 3) := by decide +kernel
theorem dX7_next_16 : decode cX7_next 16 = .ok (.bipush (-2), 2) := by decide +kernel
theorem dX7_next_18 : decode cX7_next 18 = .ok (.ireturn, 1) := by decide +kernel
theorem dX7_next_19 : decode cX7_next 19 = .ok (.aload_n 0, 1) := by decide +kernel
theorem dX7_next_20 : decode cX7_next 20 = .ok (.iconst 0, 1) := by decide +kernel
theorem dX7_next_21 : decode cX7_next 21 = .ok (.iload_n 1, 1) := by decide +kernel
theorem dX7_next_22 : decode cX7_next 22 = .ok (.iload_n 2, 1) := by decide +kernel
theorem dX7_next_23 : decode cX7_next 23 = .ok (.invokevirtual 162, 3) := by decide +kernel
theorem dX7_next_26 : decode cX7_next 26 = .ok (.istore_n 3, 1) := by decide +kernel
theorem dX7_next_27 : decode cX7_next 27 = .ok (.aload_n 0, 1) := by decide +kernel
theorem dX7_next_28 : decode cX7_next 28 = .ok (.getfield 7, 3) := by decide +kernel
theorem dX7_next_31 : decode cX7_next 31 = .ok (.bipush 37, 2) := by decide +kernel
theorem dX7_next_33 : decode cX7_next 33 = .ok (.bipush 6, 2) := by decide +kernel
theorem dX7_next_35 : decode cX7_next 35 = .ok (.iload_n 1, 1) := by decide +kernel
theorem dX7_next_36 : decode cX7_next 36 = .ok (.imul, 1) := by decide +kernel
theorem dX7_next_37 : decode cX7_next 37 = .ok (.iadd, 1) := by decide +kernel
theorem dX7_next_38 : decode cX7_next 38 = .ok (.iload_n 2, 1) := by decide +kernel
theorem dX7_next_39 : decode cX7_next 39 = .ok (.iadd, 1) := by decide +kernel
theorem dX7_next_40 : decode cX7_next 40 = .ok (.iaload, 1) := by decide +kernel
theorem dX7_next_41 : decode cX7_next 41 = .ok (.istore 4, 2) := by decide +kernel
theorem dX7_next_43 : decode cX7_next 43 = .ok (.iconst (-1), 1) := by decide +kernel
theorem dX7_next_44 : decode cX7_next 44 = .ok (.istore 5, 2) := by decide +kernel
theorem dX7_next_46 : decode cX7_next 46 = .ok (.bipush 9, 2) := by decide +kernel
theorem dX7_next_48 : decode cX7_next 48 = .ok (.istore 6, 2) := by decide +kernel
theorem dX7_next_50 : decode cX7_next 50 = .ok (.iconst 0, 1) := by decide +kernel
theorem dX7_next_51 : decode cX7_next 51 = .ok (.istore 7, 2) := by decide +kernel
theorem dX7_next_53 : decode cX7_next 53 = .ok (.iload 7, 2) := by decide +kernel
theorem dX7_next_55 : decode cX7_next 55 = .ok (.bipush 6, 2) := by decide +kernel
theorem dX7_next_57 : decode cX7_next 57 = .ok (.if_icmp .ge 151, 3) := by decide +kernel
theorem dX7_next_60 : decode cX7_next 60 = .ok (.iload_n 3, 1) := by decide +kernel
theorem dX7_next_61 : decode cX7_next 61 = .ok (.ifCond .eq 147, 3) := by decide +kernel
theorem dX7_next_64 : decode cX7_next 64 = .ok (.iconst 0, 1) := by decide +kernel
theorem dX7_next_65 : decode cX7_next 65 = .ok (.istore 8, 2) := by decide +kernel
theorem dX7_next_67 : decode cX7_next 67 = .ok (.iconst 0, 1) := by decide +kernel
theorem dX7_next_68 : decode cX7_next 68 = .ok (.istore 9, 2) := by decide +kernel
theorem dX7_next_70 : decode cX7_next 70 = .ok (.iload 9, 2) := by decide +kernel
theorem dX7_next_72 : decode cX7_next 72 = .ok (.aload_n 0, 1) := by decide +kernel
theorem dX7_next_73 : decode cX7_next 73 = .ok (.getfield 13, 3) := by decide +kernel
theorem dX7_next_76 : decode cX7_next 76 = .ok (.iconst 2, 1) := by decide +kernel
theorem dX7_next_77 : decode cX7_next 77 = .ok (.iaload, 1) := by decide +kernel
theorem dX7_next_78 : decode cX7_next 78 = .ok (.if_icmp .ge 46, 3) := by decide +kernel
theorem dX7_next_81 : decode cX7_next 81 = .ok (.iload 8, 2) := by decide +kernel
theorem dX7_next_83 : decode cX7_next 83 = .ok (.iload_n 3, 1) := by decide +kernel
theorem dX7_next_84 : decode cX7_next 84 = .ok (.iload 9, 2) := by decide +kernel
theorem dX7_next_86 : decode cX7_next 86 = .ok (.invokestatic 181, 3) := by decide +kernel
theorem dX7_next_89 : decode cX7_next 89 = .ok (.ifCond .eq 25, 3) := by decide +kernel
theorem dX7_next_92 : decode cX7_next 92 = .ok (.aload_n 0, 1) := by decide +kernel
theorem dX7_next_93 : decode cX7_next 93 = .ok (.getfield 13, 3) := by decide +kernel
theorem dX7_next_96 : decode cX7_next 96 = .ok (.bipush 51, 2) := by decide +kernel
theorem dX7_next_98 : decode cX7_next 98 = .ok (.iload 9, 2) := by decide +kernel
theorem dX7_next_100 : decode cX7_next 100 = .ok (.iadd, 1) := by decide +kernel
theorem dX7_next_101 : decode cX7_next 101 = .ok (.iaload, 1) := by decide +kernel
theorem dX7_next_102 : decode cX7_next 102 = .ok (.iload 7, 2) := by decide +kernel
theorem dX7_next_104 : decode cX7_next 104 = .ok (.invokestatic 181, 3) := by decide +kernel
theorem dX7_next_107 : decode cX7_next 107 = .ok (.ifCond .eq 7, 3) := by decide +kernel
theorem dX7_next_110 : decode cX7_next 110 = .ok (.iconst 1, 1) := by decide +kernel
theorem dX7_next_111 : decode cX7_next 111 = .ok (.goto 4, 3) := by decide +kernel
theorem dX7_next_114 : decode cX7_next 114 = .ok (.iconst 0, 1) := by decide +kernel
theorem dX7_next_115 : decode cX7_next 115 = .ok (.iadd, 1) := by decide +kernel
theorem dX7_next_116 : decode cX7_next 116 = .ok (.istore 8, 2) := by decide +kernel
theorem dX7_next_118 : decode cX7_next 118 = .ok (.iinc 9 1, 3) := by decide +kernel
theorem dX7_next_121 : decode cX7_next 121 = .ok (.goto (-51), 3) := by decide +kernel
theorem dX7_next_124 : decode cX7_next 124 = .ok (.iload 8, 2) := by decide +kernel
theorem dX7_next_126 : decode cX7_next 126 = .ok (.iload_n 3, 1) := by decide +kernel
theorem dX7_next_127 : decode cX7_next 127 = .ok (.invokestatic 190, 3) := by decide +kernel
theorem dX7_next_130 : decode cX7_next 130 = .ok (.iload 8, 2) := by decide +kernel
theorem dX7_next_132 : decode cX7_next 132 = .ok (.isub, 1) := by decide +kernel
theorem dX7_next_133 : decode cX7_next 133 = .ok (.if_icmp .le 8, 3) := by decide +kernel
theorem dX7_next_136 : decode cX7_next 136 = .ok (.iload 8, 2) := by decide +kernel
theorem dX7_next_138 : decode cX7_next 138 = .ok (.goto 10, 3) := by decide +kernel
theorem dX7_next_141 : decode cX7_next 141 = .ok (.iload_n 3, 1) := by decide +kernel
theorem dX7_next_142 : decode cX7_next 142 = .ok (.invokestatic 190, 3) := by decide +kernel
theorem dX7_next_145 : decode cX7_next 145 = .ok (.iload 8, 2) := by decide +kernel
theorem dX7_next_147 : decode cX7_next 147 = .ok (.isub, 1) := by decide +kernel
theorem dX7_next_148 : decode cX7_next 148 = .ok (.istore 9, 2) := by decide +kernel
theorem dX7_next_150 : decode cX7_next 150 = .ok (.iload 4, 2) := by decide +kernel
theorem dX7_next_152 : decode cX7_next 152 = .ok (.iload 7, 2) := by decide +kernel
theorem dX7_next_154 : decode cX7_next 154 = .ok (.invokestatic 181, 3) := by decide +kernel
theorem dX7_next_157 : decode cX7_next 157 = .ok (.ifCond .ne 14, 3) := by decide +kernel
theorem dX7_next_160 : decode cX7_next 160 = .ok (.iload 9, 2) := by decide +kernel
theorem dX7_next_162 : decode cX7_next 162 = .ok (.iload 6, 2) := by decide +kernel
theorem dX7_next_164 : decode cX7_next 164 = .ok (.if_icmp .ge 7, 3) := by decide +kernel
theorem dX7_next_167 : decode cX7_next 167 = .ok (.iconst 1, 1) := by decide +kernel
theorem dX7_next_168 : decode cX7_next 168 = .ok (.goto 4, 3) := by decide +kernel
theorem dX7_next_171 : decode cX7_next 171 = .ok (.iconst 0, 1) := by decide +kernel
theorem dX7_next_172 : decode cX7_next 172 = .ok (.istore 10, 2) := by decide +kernel
theorem dX7_next_174 : decode cX7_next 174 = .ok (.iload 10, 2) := by decide +kernel
theorem dX7_next_176 : decode cX7_next 176 = .ok (.ifCond .eq 8, 3) := by decide +kernel
theorem dX7_next_179 : decode cX7_next 179 = .ok (.iload 7, 2) := by decide +kernel
theorem dX7_next_181 : decode cX7_next 181 = .ok (.goto 5, 3) := by decide +kernel
theorem dX7_next_184 : decode cX7_next 184 = .ok (.iload 5, 2) := by decide +kernel
theorem dX7_next_186 : decode cX7_next 186 = .ok (.istore 5, 2) := by decide +kernel
theorem dX7_next_188 : decode cX7_next 188 = .ok (.iload 10, 2) := by decide +kernel
theorem dX7_next_190 : decode cX7_next 190 = .ok (.ifCond .eq 8, 3) := by decide +kernel
theorem dX7_next_193 : decode cX7_next 193 = .ok (.iload 9, 2) := by decide +kernel
theorem dX7_next_195 : decode cX7_next 195 = .ok (.goto 5, 3) := by decide +kernel
theorem dX7_next_198 : decode cX7_next 198 = .ok (.iload 6, 2) := by decide +kernel
theorem dX7_next_200 : decode cX7_next 200 = .ok (.istore 6, 2) := by decide +kernel
theorem dX7_next_202 : decode cX7_next 202 = .ok (.iinc 7 1, 3) := by decide +kernel
theorem dX7_next_205 : decode cX7_next 205 = .ok (.goto (-152), 3) := by decide +kernel
theorem dX7_next_208 : decode cX7_next 208 = .ok (.iload 5, 2) := by decide +kernel
theorem dX7_next_210 : decode cX7_next 210 = .ok (.ireturn, 1) := by decide +kernel
theorem dX7_meet_0 : decode cX7_meet 0 = .ok (.aload_n 0, 1) := by decide +kernel
theorem dX7_meet_1 : decode cX7_meet 1 = .ok (.iload_n 1, 1) := by decide +kernel
theorem dX7_meet_2 : decode cX7_meet 2 = .ok (.invokevirtual 144, 3) := by decide +kernel
theorem dX7_meet_5 : decode cX7_meet 5 = .ok (.ifCond .eq 11, 3) := by decide +kernel
theorem dX7_meet_8 : decode cX7_meet 8 = .ok (.aload_n 0, 1) := by decide +kernel
theorem dX7_meet_9 : decode cX7_meet 9 = .ok (.iload_n 2, 1) := by decide +kernel
theorem dX7_meet_10 : decode cX7_meet 10 = .ok (.invokevirtual 156, 3) := by decide +kernel
theorem dX7_meet_13 : decode cX7_meet 13 = .ok (.ifCond .ne 6, 3) := by decide +kernel
theorem dX7_meet_16 : decode cX7_meet 16 = .ok (.bipush (-2), 2) := by decide +kernel
theorem dX7_meet_18 : decode cX7_meet 18 = .ok (.ireturn, 1) := by decide +kernel
theorem dX7_meet_19 : decode cX7_meet 19 = .ok (.iconst (-1), 1) := by decide +kernel
theorem dX7_meet_20 : decode cX7_meet 20 = .ok (.istore_n 3, 1) := by decide +kernel
theorem dX7_meet_21 : decode cX7_meet 21 = .ok (.iconst 0, 1) := by decide +kernel
theorem dX7_meet_22 : decode cX7_meet 22 = .ok (.istore 4, 2) := by decide +kernel
theorem dX7_meet_24 : decode cX7_meet 24 = .ok (.iload 4, 2) := by decide +kernel
theorem dX7_meet_26 : decode cX7_meet 26 = .ok (.iconst 1, 1) := by decide +kernel
theorem dX7_meet_27 : decode cX7_meet 27 = .ok (.aload_n 0, 1) := by decide +kernel
theorem dX7_meet_28 : decode cX7_meet 28 = .ok (.getfield 13, 3) := by decide +kernel
theorem dX7_meet_31 : decode cX7_meet 31 = .ok (.iconst 0, 1) := by decide +kernel
theorem dX7_meet_32 : decode cX7_meet 32 = .ok (.iaload, 1) := by decide +kernel
theorem dX7_meet_33 : decode cX7_meet 33 = .ok (.ishl, 1) := by decide +kernel
theorem dX7_meet_34 : decode cX7_meet 34 = .ok (.if_icmp .ge 151, 3) := by decide +kernel
theorem dX7_meet_37 : decode cX7_meet 37 = .ok (.iconst 0, 1) := by decide +kernel
theorem dX7_meet_38 : decode cX7_meet 38 = .ok (.istore 5, 2) := by decide +kernel
theorem dX7_meet_40 : decode cX7_meet 40 = .ok (.iconst 0, 1) := by decide +kernel
theorem dX7_meet_41 : decode cX7_meet 41 = .ok (.istore 6, 2) := by decide +kernel
theorem dX7_meet_43 : decode cX7_meet 43 = .ok (.iconst 0, 1) := by decide +kernel
theorem dX7_meet_44 : decode cX7_meet 44 = .ok (.istore 7, 2) := by decide +kernel
theorem dX7_meet_46 : decode cX7_meet 46 = .ok (.iload 7, 2) := by decide +kernel
theorem dX7_meet_48 : decode cX7_meet 48 = .ok (.aload_n 0, 1) := by decide +kernel
theorem dX7_meet_49 : decode cX7_meet 49 = .ok (.getfield 13, 3) := by decide +kernel
theorem dX7_meet_52 : decode cX7_meet 52 = .ok (.iconst 0, 1) := by decide +kernel
theorem dX7_meet_53 : decode cX7_meet 53 = .ok (.iaload, 1) := by decide +kernel
theorem dX7_meet_54 : decode cX7_meet 54 = .ok (.if_icmp .ge 75, 3) := by decide +kernel
theorem dX7_meet_57 : decode cX7_meet 57 = .ok (.iload 4, 2) := by decide +kernel
theorem dX7_meet_59 : decode cX7_meet 59 = .ok (.iload 7, 2) := by decide +kernel
theorem dX7_meet_61 : decode cX7_meet 61 = .ok (.invokestatic 181, 3) := by decide +kernel
theorem dX7_meet_64 : decode cX7_meet 64 = .ok (.ifCond .eq 26, 3) := by decide +kernel
theorem dX7_meet_67 : decode cX7_meet 67 = .ok (.aload_n 0, 1) := by decide +kernel
theorem dX7_meet_68 : decode cX7_meet 68 = .ok (.getfield 7, 3) := by decide +kernel
theorem dX7_meet_71 : decode cX7_meet 71 = .ok (.bipush 37, 2) := by decide +kernel
theorem dX7_meet_73 : decode cX7_meet 73 = .ok (.bipush 6, 2) := by decide +kernel
theorem dX7_meet_75 : decode cX7_meet 75 = .ok (.iload 7, 2) := by decide +kernel
theorem dX7_meet_77 : decode cX7_meet 77 = .ok (.imul, 1) := by decide +kernel
theorem dX7_meet_78 : decode cX7_meet 78 = .ok (.iadd, 1) := by decide +kernel
theorem dX7_meet_79 : decode cX7_meet 79 = .ok (.iload_n 1, 1) := by decide +kernel
theorem dX7_meet_80 : decode cX7_meet 80 = .ok (.iadd, 1) := by decide +kernel
theorem dX7_meet_81 : decode cX7_meet 81 = .ok (.iaload, 1) := by decide +kernel
theorem dX7_meet_82 : decode cX7_meet 82 = .ok (.iload 5, 2) := by decide +kernel
theorem dX7_meet_84 : decode cX7_meet 84 = .ok (.iconst (-1), 1) := by decide +kernel
theorem dX7_meet_85 : decode cX7_meet 85 = .ok (.ixor, 1) := by decide +kernel
theorem dX7_meet_86 : decode cX7_meet 86 = .ok (.iand, 1) := by decide +kernel
theorem dX7_meet_87 : decode cX7_meet 87 = .ok (.goto 4, 3) := by decide +kernel
theorem dX7_meet_90 : decode cX7_meet 90 = .ok (.iconst 0, 1) := by decide +kernel
theorem dX7_meet_91 : decode cX7_meet 91 = .ok (.istore 8, 2) := by decide +kernel
theorem dX7_meet_93 : decode cX7_meet 93 = .ok (.iload 5, 2) := by decide +kernel
theorem dX7_meet_95 : decode cX7_meet 95 = .ok (.iload 8, 2) := by decide +kernel
theorem dX7_meet_97 : decode cX7_meet 97 = .ok (.ior, 1) := by decide +kernel
theorem dX7_meet_98 : decode cX7_meet 98 = .ok (.istore 5, 2) := by decide +kernel
theorem dX7_meet_100 : decode cX7_meet 100 = .ok (.iload 6, 2) := by decide +kernel
theorem dX7_meet_102 : decode cX7_meet 102 = .ok (.aload_n 0, 1) := by decide +kernel
theorem dX7_meet_103 : decode cX7_meet 103 = .ok (.getfield 7, 3) := by decide +kernel
theorem dX7_meet_106 : decode cX7_meet 106 = .ok (.bipush 61, 2) := by decide +kernel
theorem dX7_meet_108 : decode cX7_meet 108 = .ok (.bipush 6, 2) := by decide +kernel
theorem dX7_meet_110 : decode cX7_meet 110 = .ok (.iload 7, 2) := by decide +kernel
theorem dX7_meet_112 : decode cX7_meet 112 = .ok (.imul, 1) := by decide +kernel
theorem dX7_meet_113 : decode cX7_meet 113 = .ok (.iadd, 1) := by decide +kernel
theorem dX7_meet_114 : decode cX7_meet 114 = .ok (.iload_n 1, 1) := by decide +kernel
theorem dX7_meet_115 : decode cX7_meet 115 = .ok (.iadd, 1) := by decide +kernel
theorem dX7_meet_116 : decode cX7_meet 116 = .ok (.iaload, 1) := by decide +kernel
theorem dX7_meet_117 : decode cX7_meet 117 = .ok (.iload 8, 2) := by decide +kernel
theorem dX7_meet_119 : decode cX7_meet 119 = .ok (.iand, 1) := by decide +kernel
theorem dX7_meet_120 : decode cX7_meet 120 = .ok (.ior, 1) := by decide +kernel
theorem dX7_meet_121 : decode cX7_meet 121 = .ok (.istore 6, 2) := by decide +kernel
theorem dX7_meet_123 : decode cX7_meet 123 = .ok (.iinc 7 1, 3) := by decide +kernel
theorem dX7_meet_126 : decode cX7_meet 126 = .ok (.goto (-80), 3) := by decide +kernel
theorem dX7_meet_129 : decode cX7_meet 129 = .ok (.aload_n 0, 1) := by decide +kernel
theorem dX7_meet_130 : decode cX7_meet 130 = .ok (.iload 5, 2) := by decide +kernel
theorem dX7_meet_132 : decode cX7_meet 132 = .ok (.iload 6, 2) := by decide +kernel
theorem dX7_meet_134 : decode cX7_meet 134 = .ok (.invokevirtual 140, 3) := by decide +kernel
theorem dX7_meet_137 : decode cX7_meet 137 = .ok (.iconst 1, 1) := by decide +kernel
theorem dX7_meet_138 : decode cX7_meet 138 = .ok (.iload_n 2, 1) := by decide +kernel
theorem dX7_meet_139 : decode cX7_meet 139 = .ok (.ishl, 1) := by decide +kernel
theorem dX7_meet_140 : decode cX7_meet 140 = .ok (.if_icmp .ne 7, 3) := by decide +kernel
theorem dX7_meet_143 : decode cX7_meet 143 = .ok (.iconst 1, 1) := by decide +kernel
theorem dX7_meet_144 : decode cX7_meet 144 = .ok (.goto 4, 3) := by decide +kernel
theorem dX7_meet_147 : decode cX7_meet 147 = .ok (.iconst 0, 1) := by decide +kernel
theorem dX7_meet_148 : decode cX7_meet 148 = .ok (.istore 7, 2) := by decide +kernel
theorem dX7_meet_150 : decode cX7_meet 150 = .ok (.iload 7, 2) := by decide +kernel
theorem dX7_meet_152 : decode cX7_meet 152 = .ok (.ifCond .eq 25, 3) := by decide +kernel
theorem dX7_meet_155 : decode cX7_meet 155 = .ok (.iload_n 3, 1) := by decide +kernel
theorem dX7_meet_156 : decode cX7_meet 156 = .ok (.iconst (-1), 1) := by decide +kernel
theorem dX7_meet_157 : decode cX7_meet 157 = .ok (.if_icmp .eq 15, 3) := by decide +kernel
theorem dX7_meet_160 : decode cX7_meet 160 = .ok (.iload 4, 2) := by decide +kernel
theorem dX7_meet_162 : decode cX7_meet 162 = .ok (.invokestatic 178, 3) := by decide +kernel
theorem dX7_meet_165 : decode cX7_meet 165 = .ok (.iload_n 3, 1) := by decide +kernel
theorem dX7_meet_166 : decode cX7_meet 166 = .ok (.invokestatic 178, 3) := by decide +kernel
theorem dX7_meet_169 : decode cX7_meet 169 = .ok (.if_icmp .ge 8, 3) := by decide +kernel
theorem dX7_meet_172 : decode cX7_meet 172 = .ok (.iload 4, 2) := by decide +kernel
theorem dX7_meet_174 : decode cX7_meet 174 = .ok (.goto 4, 3) := by decide +kernel
theorem dX7_meet_177 : decode cX7_meet 177 = .ok (.iload_n 3, 1) := by decide +kernel
theorem dX7_meet_178 : decode cX7_meet 178 = .ok (.istore_n 3, 1) := by decide +kernel
theorem dX7_meet_179 : decode cX7_meet 179 = .ok (.iinc 4 1, 3) := by decide +kernel
theorem dX7_meet_182 : decode cX7_meet 182 = .ok (.goto (-158), 3) := by decide +kernel
theorem dX7_meet_185 : decode cX7_meet 185 = .ok (.iload_n 3, 1) := by decide +kernel
theorem dX7_meet_186 : decode cX7_meet 186 = .ok (.ireturn, 1) := by decide +kernel
theorem dX7_round_0 : decode cX7_round 0 = .ok (.aload_n 0, 1) := by decide +kernel
theorem dX7_round_1 : decode cX7_round 1 = .ok (.iload_n 1, 1) := by decide +kernel
theorem dX7_round_2 : decode cX7_round 2 = .ok (.invokevirtual 144, 3) := by decide +kernel
theorem dX7_round_5 : decode cX7_round 5 = .ok (.ifCond .eq 11, 3) := by decide +kernel
theorem dX7_round_8 : decode cX7_round 8 = .ok (.aload_n 0, 1) := by decide +kernel
theorem dX7_round_9 : decode cX7_round 9 = .ok (.iload_n 3, 1) := by decide +kernel
theorem dX7_round_10 : decode cX7_round 10 = .ok (.invokevirtual 159, 3) := by decide +kernel
theorem dX7_round_13 : decode cX7_round 13 = .ok (.ifCond .ne 6, 3) := by decide +kernel
theorem dX7_round_16 : decode cX7_round 16 = .ok (.bipush (-2), 2) := by decide +kernel
theorem dX7_round_18 : decode cX7_round 18 = .ok (.ireturn, 1) := by decide +kernel
theorem dX7_round_19 : decode cX7_round 19 = .ok (.iload_n 2, 1) := by decide +kernel
theorem dX7_round_20 : decode cX7_round 20 = .ok (.i2l, 1) := by decide +kernel
theorem dX7_round_21 : decode cX7_round 21 = .ok (.lconst 0, 1) := by decide +kernel
theorem dX7_round_22 : decode cX7_round 22 = .ok (.ldc2_w 39, 3) := by decide +kernel
theorem dX7_round_25 : decode cX7_round 25 = .ok (.invokestatic 35, 3) := by decide +kernel
theorem dX7_round_28 : decode cX7_round 28 = .ok (.ifCond .ne 6, 3) := by decide +kernel
theorem dX7_round_31 : decode cX7_round 31 = .ok (.bipush (-3), 2) := by decide +kernel
theorem dX7_round_33 : decode cX7_round 33 = .ok (.ireturn, 1) := by decide +kernel
theorem dX7_round_34 : decode cX7_round 34 = .ok (.aload_n 0, 1) := by decide +kernel
theorem dX7_round_35 : decode cX7_round 35 = .ok (.iconst 0, 1) := by decide +kernel
theorem dX7_round_36 : decode cX7_round 36 = .ok (.sipush 255, 3) := by decide +kernel
theorem dX7_round_39 : decode cX7_round 39 = .ok (.invokevirtual 167, 3) := by decide +kernel
theorem dX7_round_42 : decode cX7_round 42 = .ok (.iconst 0, 1) := by decide +kernel
theorem dX7_round_43 : decode cX7_round 43 = .ok (.istore 4, 2) := by decide +kernel
theorem dX7_round_45 : decode cX7_round 45 = .ok (.iload 4, 2) := by decide +kernel
theorem dX7_round_47 : decode cX7_round 47 = .ok (.bipush 6, 2) := by decide +kernel
theorem dX7_round_49 : decode cX7_round 49 = .ok (.if_icmp .ge 31, 3) := by decide +kernel
theorem dX7_round_52 : decode cX7_round 52 = .ok (.aload_n 0, 1) := by decide +kernel
theorem dX7_round_53 : decode cX7_round 53 = .ok (.sipush 255, 3) := by decide +kernel
theorem dX7_round_56 : decode cX7_round 56 = .ok (.iload 4, 2) := by decide +kernel
theorem dX7_round_58 : decode cX7_round 58 = .ok (.iload_n 2, 1) := by decide +kernel
theorem dX7_round_59 : decode cX7_round 59 = .ok (.iadd, 1) := by decide +kernel
theorem dX7_round_60 : decode cX7_round 60 = .ok (.aload_n 0, 1) := by decide +kernel
theorem dX7_round_61 : decode cX7_round 61 = .ok (.getfield 13, 3) := by decide +kernel
theorem dX7_round_64 : decode cX7_round 64 = .ok (.iconst 0, 1) := by decide +kernel
theorem dX7_round_65 : decode cX7_round 65 = .ok (.iaload, 1) := by decide +kernel
theorem dX7_round_66 : decode cX7_round 66 = .ok (.irem, 1) := by decide +kernel
theorem dX7_round_67 : decode cX7_round 67 = .ok (.iload_n 1, 1) := by decide +kernel
theorem dX7_round_68 : decode cX7_round 68 = .ok (.iload 4, 2) := by decide +kernel
theorem dX7_round_70 : decode cX7_round 70 = .ok (.invokevirtual 174, 3) := by decide +kernel
theorem dX7_round_73 : decode cX7_round 73 = .ok (.pop, 1) := by decide +kernel
theorem dX7_round_74 : decode cX7_round 74 = .ok (.iinc 4 1, 3) := by decide +kernel
theorem dX7_round_77 : decode cX7_round 77 = .ok (.goto (-32), 3) := by decide +kernel
theorem dX7_round_80 : decode cX7_round 80 = .ok (.aload_n 0, 1) := by decide +kernel
theorem dX7_round_81 : decode cX7_round 81 = .ok (.sipush 255, 3) := by decide +kernel
theorem dX7_round_84 : decode cX7_round 84 = .ok (.iload_n 3, 1) := by decide +kernel
theorem dX7_round_85 : decode cX7_round 85 = .ok (.iload_n 1, 1) := by decide +kernel
theorem dX7_round_86 : decode cX7_round 86 = .ok (.invokevirtual 162, 3) := by decide +kernel
theorem dX7_round_89 : decode cX7_round 89 = .ok (.invokestatic 190, 3) := by decide +kernel
theorem dX7_round_92 : decode cX7_round 92 = .ok (.ireturn, 1) := by decide +kernel
theorem dX7_seen_0 : decode cX7_seen 0 = .ok (.iload_n 1, 1) := by decide +kernel
theorem dX7_seen_1 : decode cX7_seen 1 = .ok (.invokestatic 153, 3) := by decide +kernel
theorem dX7_seen_4 : decode cX7_seen 4 = .ok (.ifCond .ne 6, 3) := by decide +kernel
theorem dX7_seen_7 : decode cX7_seen 7 = .ok (.bipush (-2), 2) := by decide +kernel
theorem dX7_seen_9 : decode cX7_seen 9 = .ok (.ireturn, 1) := by decide +kernel
theorem dX7_seen_10 : decode cX7_seen 10 = .ok (.iload_n 2, 1) := by decide +kernel
theorem dX7_seen_11 : decode cX7_seen 11 = .ok (.i2l, 1) := by decide +kernel
theorem dX7_seen_12 : decode cX7_seen 12 = .ok (.lconst 0, 1) := by decide +kernel
theorem dX7_seen_13 : decode cX7_seen 13 = .ok (.ldc2_w 193, 3) := by decide +kernel
theorem dX7_seen_16 : decode cX7_seen 16 = .ok (.invokestatic 35, 3) := by decide +kernel
theorem dX7_seen_19 : decode cX7_seen 19 = .ok (.ifCond .eq 15, 3) := by decide +kernel
theorem dX7_seen_22 : decode cX7_seen 22 = .ok (.iload_n 3, 1) := by decide +kernel
theorem dX7_seen_23 : decode cX7_seen 23 = .ok (.i2l, 1) := by decide +kernel
theorem dX7_seen_24 : decode cX7_seen 24 = .ok (.ldc2_w 195, 3) := by decide +kernel
theorem dX7_seen_27 : decode cX7_seen 27 = .ok (.lconst 1, 1) := by decide +kernel
theorem dX7_seen_28 : decode cX7_seen 28 = .ok (.invokestatic 35, 3) := by decide +kernel
theorem dX7_seen_31 : decode cX7_seen 31 = .ok (.ifCond .ne 6, 3) := by decide +kernel
theorem dX7_seen_34 : decode cX7_seen 34 = .ok (.bipush (-3), 2) := by decide +kernel
theorem dX7_seen_36 : decode cX7_seen 36 = .ok (.ireturn, 1) := by decide +kernel
theorem dX7_seen_37 : decode cX7_seen 37 = .ok (.aload_n 0, 1) := by decide +kernel
theorem dX7_seen_38 : decode cX7_seen 38 = .ok (.getfield 126, 3) := by decide +kernel
theorem dX7_seen_41 : decode cX7_seen 41 = .ok (.bipush 6, 2) := by decide +kernel
theorem dX7_seen_43 : decode cX7_seen 43 = .ok (.if_icmp .ne 6, 3) := by decide +kernel
theorem dX7_seen_46 : decode cX7_seen 46 = .ok (.bipush (-5), 2) := by decide +kernel
theorem dX7_seen_48 : decode cX7_seen 48 = .ok (.ireturn, 1) := by decide +kernel
theorem dX7_seen_49 : decode cX7_seen 49 = .ok (.aload_n 0, 1) := by decide +kernel
theorem dX7_seen_50 : decode cX7_seen 50 = .ok (.getfield 26, 3) := by decide +kernel
theorem dX7_seen_53 : decode cX7_seen 53 = .ok (.aload_n 0, 1) := by decide +kernel
theorem dX7_seen_54 : decode cX7_seen 54 = .ok (.getfield 126, 3) := by decide +kernel
theorem dX7_seen_57 : decode cX7_seen 57 = .ok (.iload_n 1, 1) := by decide +kernel
theorem dX7_seen_58 : decode cX7_seen 58 = .ok (.iastore, 1) := by decide +kernel
theorem dX7_seen_59 : decode cX7_seen 59 = .ok (.aload_n 0, 1) := by decide +kernel
theorem dX7_seen_60 : decode cX7_seen 60 = .ok (.getfield 29, 3) := by decide +kernel
theorem dX7_seen_63 : decode cX7_seen 63 = .ok (.aload_n 0, 1) := by decide +kernel
theorem dX7_seen_64 : decode cX7_seen 64 = .ok (.getfield 126, 3) := by decide +kernel
theorem dX7_seen_67 : decode cX7_seen 67 = .ok (.iload_n 2, 1) := by decide +kernel
theorem dX7_seen_68 : decode cX7_seen 68 = .ok (.iastore, 1) := by decide +kernel
theorem dX7_seen_69 : decode cX7_seen 69 = .ok (.aload_n 0, 1) := by decide +kernel
theorem dX7_seen_70 : decode cX7_seen 70 = .ok (.getfield 32, 3) := by decide +kernel
theorem dX7_seen_73 : decode cX7_seen 73 = .ok (.aload_n 0, 1) := by decide +kernel
theorem dX7_seen_74 : decode cX7_seen 74 = .ok (.getfield 126, 3) := by decide +kernel
theorem dX7_seen_77 : decode cX7_seen 77 = .ok (.iload_n 3, 1) := by decide +kernel
theorem dX7_seen_78 : decode cX7_seen 78 = .ok (.iastore, 1) := by decide +kernel
theorem dX7_seen_79 : decode cX7_seen 79 = .ok (.aload_n 0, 1) := by decide +kernel
theorem dX7_seen_80 : decode cX7_seen 80 = .ok (.dup, 1) := by decide +kernel
theorem dX7_seen_81 : decode cX7_seen 81 = .ok (.getfield 126, 3) := by decide +kernel
theorem dX7_seen_84 : decode cX7_seen 84 = .ok (.iconst 1, 1) := by decide +kernel
theorem dX7_seen_85 : decode cX7_seen 85 = .ok (.iadd, 1) := by decide +kernel
theorem dX7_seen_86 : decode cX7_seen 86 = .ok (.putfield 126, 3) := by decide +kernel
theorem dX7_seen_89 : decode cX7_seen 89 = .ok (.aload_n 0, 1) := by decide +kernel
theorem dX7_seen_90 : decode cX7_seen 90 = .ok (.getfield 126, 3) := by decide +kernel
theorem dX7_seen_93 : decode cX7_seen 93 = .ok (.ireturn, 1) := by decide +kernel
theorem dX7_forget_0 : decode cX7_forget 0 = .ok (.aload_n 0, 1) := by decide +kernel
theorem dX7_forget_1 : decode cX7_forget 1 = .ok (.getfield 126, 3) := by decide +kernel
theorem dX7_forget_4 : decode cX7_forget 4 = .ok (.istore_n 1, 1) := by decide +kernel
theorem dX7_forget_5 : decode cX7_forget 5 = .ok (.aload_n 0, 1) := by decide +kernel
theorem dX7_forget_6 : decode cX7_forget 6 = .ok (.iconst 0, 1) := by decide +kernel
theorem dX7_forget_7 : decode cX7_forget 7 = .ok (.putfield 126, 3) := by decide +kernel
theorem dX7_forget_10 : decode cX7_forget 10 = .ok (.iload_n 1, 1) := by decide +kernel
theorem dX7_forget_11 : decode cX7_forget 11 = .ok (.ireturn, 1) := by decide +kernel
theorem dX7_was_0 : decode cX7_was 0 = .ok (.iconst 0, 1) := by decide +kernel
theorem dX7_was_1 : decode cX7_was 1 = .ok (.istore_n 1, 1) := by decide +kernel
theorem dX7_was_2 : decode cX7_was 2 = .ok (.iconst 0, 1) := by decide +kernel
theorem dX7_was_3 : decode cX7_was 3 = .ok (.istore_n 2, 1) := by decide +kernel
theorem dX7_was_4 : decode cX7_was 4 = .ok (.iload_n 2, 1) := by decide +kernel
theorem dX7_was_5 : decode cX7_was 5 = .ok (.aload_n 0, 1) := by decide +kernel
theorem dX7_was_6 : decode cX7_was 6 = .ok (.getfield 13, 3) := by decide +kernel
theorem dX7_was_9 : decode cX7_was 9 = .ok (.iconst 1, 1) := by decide +kernel
theorem dX7_was_10 : decode cX7_was 10 = .ok (.iaload, 1) := by decide +kernel
theorem dX7_was_11 : decode cX7_was 11 = .ok (.if_icmp .ge 82, 3) := by decide +kernel
theorem dX7_was_14 : decode cX7_was 14 = .ok (.iconst 1, 1) := by decide +kernel
theorem dX7_was_15 : decode cX7_was 15 = .ok (.istore_n 3, 1) := by decide +kernel
theorem dX7_was_16 : decode cX7_was 16 = .ok (.iconst 0, 1) := by decide +kernel
theorem dX7_was_17 : decode cX7_was 17 = .ok (.istore 4, 2) := by decide +kernel
theorem dX7_was_19 : decode cX7_was 19 = .ok (.iload 4, 2) := by decide +kernel
theorem dX7_was_21 : decode cX7_was 21 = .ok (.aload_n 0, 1) := by decide +kernel
theorem dX7_was_22 : decode cX7_was 22 = .ok (.getfield 126, 3) := by decide +kernel
theorem dX7_was_25 : decode cX7_was 25 = .ok (.if_icmp .ge 48, 3) := by decide +kernel
theorem dX7_was_28 : decode cX7_was 28 = .ok (.iload_n 3, 1) := by decide +kernel
theorem dX7_was_29 : decode cX7_was 29 = .ok (.ifCond .eq 36, 3) := by decide +kernel
theorem dX7_was_32 : decode cX7_was 32 = .ok (.aload_n 0, 1) := by decide +kernel
theorem dX7_was_33 : decode cX7_was 33 = .ok (.iload_n 2, 1) := by decide +kernel
theorem dX7_was_34 : decode cX7_was 34 = .ok (.aload_n 0, 1) := by decide +kernel
theorem dX7_was_35 : decode cX7_was 35 = .ok (.getfield 26, 3) := by decide +kernel
theorem dX7_was_38 : decode cX7_was 38 = .ok (.iload 4, 2) := by decide +kernel
theorem dX7_was_40 : decode cX7_was 40 = .ok (.iaload, 1) := by decide +kernel
theorem dX7_was_41 : decode cX7_was 41 = .ok (.aload_n 0, 1) := by decide +kernel
theorem dX7_was_42 : decode cX7_was 42 = .ok (.getfield 29, 3) := by decide +kernel
theorem dX7_was_45 : decode cX7_was 45 = .ok (.iload 4, 2) := by decide +kernel
theorem dX7_was_47 : decode cX7_was 47 = .ok (.iaload, 1) := by decide +kernel
theorem dX7_was_48 : decode cX7_was 48 = .ok (.invokevirtual 132, 3) := by decide +kernel
theorem dX7_was_51 : decode cX7_was 51 = .ok (.aload_n 0, 1) := by decide +kernel
theorem dX7_was_52 : decode cX7_was 52 = .ok (.getfield 32, 3) := by decide +kernel
theorem dX7_was_55 : decode cX7_was 55 = .ok (.iload 4, 2) := by decide +kernel
theorem dX7_was_57 : decode cX7_was 57 = .ok (.iaload, 1) := by decide +kernel
theorem dX7_was_58 : decode cX7_was 58 = .ok (.if_icmp .ne 7, 3) := by decide +kernel
theorem dX7_was_61 : decode cX7_was 61 = .ok (.iconst 1, 1) := by decide +kernel
theorem dX7_was_62 : decode cX7_was 62 = .ok (.goto 4, 3) := by decide +kernel
theorem dX7_was_65 : decode cX7_was 65 = .ok (.iconst 0, 1) := by decide +kernel
theorem dX7_was_66 : decode cX7_was 66 = .ok (.istore_n 3, 1) := by decide +kernel
theorem dX7_was_67 : decode cX7_was 67 = .ok (.iinc 4 1, 3) := by decide +kernel
theorem dX7_was_70 : decode cX7_was 70 = .ok (.goto (-51), 3) := by decide +kernel
theorem dX7_was_73 : decode cX7_was 73 = .ok (.iload_n 1, 1) := by decide +kernel
theorem dX7_was_74 : decode cX7_was 74 = .ok (.iload_n 3, 1) := by decide +kernel
theorem dX7_was_75 : decode cX7_was 75 = .ok (.ifCond .eq 9, 3) := by decide +kernel
theorem dX7_was_78 : decode cX7_was 78 = .ok (.iconst 1, 1) := by decide +kernel
theorem dX7_was_79 : decode cX7_was 79 = .ok (.iload_n 2, 1) := by decide +kernel
theorem dX7_was_80 : decode cX7_was 80 = .ok (.ishl, 1) := by decide +kernel
theorem dX7_was_81 : decode cX7_was 81 = .ok (.goto 4, 3) := by decide +kernel
theorem dX7_was_84 : decode cX7_was 84 = .ok (.iconst 0, 1) := by decide +kernel
theorem dX7_was_85 : decode cX7_was 85 = .ok (.ior, 1) := by decide +kernel
theorem dX7_was_86 : decode cX7_was 86 = .ok (.istore_n 1, 1) := by decide +kernel
theorem dX7_was_87 : decode cX7_was 87 = .ok (.iinc 2 1, 3) := by decide +kernel
theorem dX7_was_90 : decode cX7_was 90 = .ok (.goto (-86), 3) := by decide +kernel
theorem dX7_was_93 : decode cX7_was 93 = .ok (.iload_n 1, 1) := by decide +kernel
theorem dX7_was_94 : decode cX7_was 94 = .ok (.ireturn, 1) := by decide +kernel
theorem dX7_stays_0 : decode cX7_stays 0 = .ok (.aload_n 0, 1) := by decide +kernel
theorem dX7_stays_1 : decode cX7_stays 1 = .ok (.iload_n 1, 1) := by decide +kernel
theorem dX7_stays_2 : decode cX7_stays 2 = .ok (.invokevirtual 159, 3) := by decide +kernel
theorem dX7_stays_5 : decode cX7_stays 5 = .ok (.ifCond .eq 11, 3) := by decide +kernel
theorem dX7_stays_8 : decode cX7_stays 8 = .ok (.aload_n 0, 1) := by decide +kernel
theorem dX7_stays_9 : decode cX7_stays 9 = .ok (.iload_n 2, 1) := by decide +kernel
theorem dX7_stays_10 : decode cX7_stays 10 = .ok (.invokevirtual 144, 3) := by decide +kernel
theorem dX7_stays_13 : decode cX7_stays 13 = .ok (.ifCond .ne 6, 3) := by decide +kernel
theorem dX7_stays_16 : decode cX7_stays 16 = .ok (.bipush (-2), 2) := by decide +kernel
theorem dX7_stays_18 : decode cX7_stays 18 = .ok (.ireturn, 1) := by decide +kernel
theorem dX7_stays_19 : decode cX7_stays 19 = .ok (.iload_n 3, 1) := by decide +kernel
theorem dX7_stays_20 : decode cX7_stays 20 = .ok (.i2l, 1) := by decide +kernel
theorem dX7_stays_21 : decode cX7_stays 21 = .ok (.lconst 0, 1) := by decide +kernel
theorem dX7_stays_22 : decode cX7_stays 22 = .ok (.ldc2_w 197, 3) := by decide +kernel
theorem dX7_stays_25 : decode cX7_stays 25 = .ok (.invokestatic 35, 3) := by decide +kernel
theorem dX7_stays_28 : decode cX7_stays 28 = .ok (.ifCond .eq 14, 3) := by decide +kernel
theorem dX7_stays_31 : decode cX7_stays 31 = .ok (.iload 4, 2) := by decide +kernel
theorem dX7_stays_33 : decode cX7_stays 33 = .ok (.i2l, 1) := by decide +kernel
theorem dX7_stays_34 : decode cX7_stays 34 = .ok (.lconst 0, 1) := by decide +kernel
theorem dX7_stays_35 : decode cX7_stays 35 = .ok (.lconst 1, 1) := by decide +kernel
theorem dX7_stays_36 : decode cX7_stays 36 = .ok (.invokestatic 35, 3) := by decide +kernel
theorem dX7_stays_39 : decode cX7_stays 39 = .ok (.ifCond .ne 6, 3) := by decide +kernel
theorem dX7_stays_42 : decode cX7_stays 42 = .ok (.bipush (-3), 2) := by decide +kernel
theorem dX7_stays_44 : decode cX7_stays 44 = .ok (.ireturn, 1) := by decide +kernel
theorem dX7_stays_45 : decode cX7_stays 45 = .ok (.iconst 0, 1) := by decide +kernel
theorem dX7_stays_46 : decode cX7_stays 46 = .ok (.istore 5, 2) := by decide +kernel
theorem dX7_stays_48 : decode cX7_stays 48 = .ok (.iconst 0, 1) := by decide +kernel
theorem dX7_stays_49 : decode cX7_stays 49 = .ok (.istore 6, 2) := by decide +kernel
theorem dX7_stays_51 : decode cX7_stays 51 = .ok (.iload 6, 2) := by decide +kernel
theorem dX7_stays_53 : decode cX7_stays 53 = .ok (.bipush 64, 2) := by decide +kernel
theorem dX7_stays_55 : decode cX7_stays 55 = .ok (.if_icmp .ge 86, 3) := by decide +kernel
theorem dX7_stays_58 : decode cX7_stays 58 = .ok (.iconst 1, 1) := by decide +kernel
theorem dX7_stays_59 : decode cX7_stays 59 = .ok (.istore 7, 2) := by decide +kernel
theorem dX7_stays_61 : decode cX7_stays 61 = .ok (.iconst 0, 1) := by decide +kernel
theorem dX7_stays_62 : decode cX7_stays 62 = .ok (.istore 8, 2) := by decide +kernel
theorem dX7_stays_64 : decode cX7_stays 64 = .ok (.iload 8, 2) := by decide +kernel
theorem dX7_stays_66 : decode cX7_stays 66 = .ok (.bipush 6, 2) := by decide +kernel
theorem dX7_stays_68 : decode cX7_stays 68 = .ok (.if_icmp .ge 32, 3) := by decide +kernel
theorem dX7_stays_71 : decode cX7_stays 71 = .ok (.iload 7, 2) := by decide +kernel
theorem dX7_stays_73 : decode cX7_stays 73 = .ok (.iload 6, 2) := by decide +kernel
theorem dX7_stays_75 : decode cX7_stays 75 = .ok (.iload 8, 2) := by decide +kernel
theorem dX7_stays_77 : decode cX7_stays 77 = .ok (.invokestatic 181, 3) := by decide +kernel
theorem dX7_stays_80 : decode cX7_stays 80 = .ok (.ifCond .eq 7, 3) := by decide +kernel
theorem dX7_stays_83 : decode cX7_stays 83 = .ok (.iload_n 3, 1) := by decide +kernel
theorem dX7_stays_84 : decode cX7_stays 84 = .ok (.goto 7, 3) := by decide +kernel
theorem dX7_stays_87 : decode cX7_stays 87 = .ok (.bipush 10, 2) := by decide +kernel
theorem dX7_stays_89 : decode cX7_stays 89 = .ok (.iload_n 3, 1) := by decide +kernel
theorem dX7_stays_90 : decode cX7_stays 90 = .ok (.isub, 1) := by decide +kernel
theorem dX7_stays_91 : decode cX7_stays 91 = .ok (.imul, 1) := by decide +kernel
theorem dX7_stays_92 : decode cX7_stays 92 = .ok (.istore 7, 2) := by decide +kernel
theorem dX7_stays_94 : decode cX7_stays 94 = .ok (.iinc 8 1, 3) := by decide +kernel
theorem dX7_stays_97 : decode cX7_stays 97 = .ok (.goto (-33), 3) := by decide +kernel
theorem dX7_stays_100 : decode cX7_stays 100 = .ok (.aload_n 0, 1) := by decide +kernel
theorem dX7_stays_101 : decode cX7_stays 101 = .ok (.iload_n 1, 1) := by decide +kernel
theorem dX7_stays_102 : decode cX7_stays 102 = .ok (.iload_n 2, 1) := by decide +kernel
theorem dX7_stays_103 : decode cX7_stays 103 = .ok (.iload 6, 2) := by decide +kernel
theorem dX7_stays_105 : decode cX7_stays 105 = .ok (.invokevirtual 186, 3) := by decide +kernel
theorem dX7_stays_108 : decode cX7_stays 108 = .ok (.iload 5, 2) := by decide +kernel
theorem dX7_stays_110 : decode cX7_stays 110 = .ok (.aload_n 0, 1) := by decide +kernel
theorem dX7_stays_111 : decode cX7_stays 111 = .ok (.sipush 255, 3) := by decide +kernel
theorem dX7_stays_114 : decode cX7_stays 114 = .ok (.iload_n 1, 1) := by decide +kernel
theorem dX7_stays_115 : decode cX7_stays 115 = .ok (.iload_n 2, 1) := by decide +kernel
theorem dX7_stays_116 : decode cX7_stays 116 = .ok (.invokevirtual 162, 3) := by decide +kernel
theorem dX7_stays_119 : decode cX7_stays 119 = .ok (.invokestatic 190, 3) := by decide +kernel
theorem dX7_stays_122 : decode cX7_stays 122 = .ok (.iconst 2, 1) := by decide +kernel
theorem dX7_stays_123 : decode cX7_stays 123 = .ok (.if_icmp .lt 8, 3) := by decide +kernel
theorem dX7_stays_126 : decode cX7_stays 126 = .ok (.iload 7, 2) := by decide +kernel
theorem dX7_stays_128 : decode cX7_stays 128 = .ok (.goto 4, 3) := by decide +kernel
theorem dX7_stays_131 : decode cX7_stays 131 = .ok (.iconst 0, 1) := by decide +kernel
theorem dX7_stays_132 : decode cX7_stays 132 = .ok (.iadd, 1) := by decide +kernel
theorem dX7_stays_133 : decode cX7_stays 133 = .ok (.istore 5, 2) := by decide +kernel
theorem dX7_stays_135 : decode cX7_stays 135 = .ok (.iinc 6 1, 3) := by decide +kernel
theorem dX7_stays_138 : decode cX7_stays 138 = .ok (.goto (-87), 3) := by decide +kernel
theorem dX7_stays_141 : decode cX7_stays 141 = .ok (.iload 5, 2) := by decide +kernel
theorem dX7_stays_143 : decode cX7_stays 143 = .ok (.istore 6, 2) := by decide +kernel
theorem dX7_stays_145 : decode cX7_stays 145 = .ok (.ldc 199, 2) := by decide +kernel
theorem dX7_stays_147 : decode cX7_stays 147 = .ok (.istore 7, 2) := by decide +kernel
theorem dX7_stays_149 : decode cX7_stays 149 = .ok (.iload 7, 2) := by decide +kernel
theorem dX7_stays_151 : decode cX7_stays 151 = .ok (.ifCond .eq 21, 3) := by decide +kernel
theorem dX7_stays_154 : decode cX7_stays 154 = .ok (.iload 6, 2) := by decide +kernel
theorem dX7_stays_156 : decode cX7_stays 156 = .ok (.iload 7, 2) := by decide +kernel
theorem dX7_stays_158 : decode cX7_stays 158 = .ok (.irem, 1) := by decide +kernel
theorem dX7_stays_159 : decode cX7_stays 159 = .ok (.istore 8, 2) := by decide +kernel
theorem dX7_stays_161 : decode cX7_stays 161 = .ok (.iload 7, 2) := by decide +kernel
theorem dX7_stays_163 : decode cX7_stays 163 = .ok (.istore 6, 2) := by decide +kernel
theorem dX7_stays_165 : decode cX7_stays 165 = .ok (.iload 8, 2) := by decide +kernel
theorem dX7_stays_167 : decode cX7_stays 167 = .ok (.istore 7, 2) := by decide +kernel
theorem dX7_stays_169 : decode cX7_stays 169 = .ok (.goto (-20), 3) := by decide +kernel
theorem dX7_stays_172 : decode cX7_stays 172 = .ok (.iload 4, 2) := by decide +kernel
theorem dX7_stays_174 : decode cX7_stays 174 = .ok (.ifCond .ne 11, 3) := by decide +kernel
theorem dX7_stays_177 : decode cX7_stays 177 = .ok (.iload 5, 2) := by decide +kernel
theorem dX7_stays_179 : decode cX7_stays 179 = .ok (.iload 6, 2) := by decide +kernel
theorem dX7_stays_181 : decode cX7_stays 181 = .ok (.idiv, 1) := by decide +kernel
theorem dX7_stays_182 : decode cX7_stays 182 = .ok (.goto 8, 3) := by decide +kernel
theorem dX7_stays_185 : decode cX7_stays 185 = .ok (.ldc 199, 2) := by decide +kernel
theorem dX7_stays_187 : decode cX7_stays 187 = .ok (.iload 6, 2) := by decide +kernel
theorem dX7_stays_189 : decode cX7_stays 189 = .ok (.idiv, 1) := by decide +kernel
theorem dX7_stays_190 : decode cX7_stays 190 = .ok (.ireturn, 1) := by decide +kernel
theorem dX7_beardsOfAll_0 : decode cX7_beardsOfAll 0 = .ok (.iconst 0, 1) := by decide +kernel
theorem dX7_beardsOfAll_1 : decode cX7_beardsOfAll 1 = .ok (.istore_n 1, 1) := by decide +kernel
theorem dX7_beardsOfAll_2 : decode cX7_beardsOfAll 2 = .ok (.iconst 0, 1) := by decide +kernel
theorem dX7_beardsOfAll_3 : decode cX7_beardsOfAll 3 = .ok (.istore_n 2, 1) := by decide +kernel
theorem dX7_beardsOfAll_4 : decode cX7_beardsOfAll 4 = .ok (.iload_n 2, 1) := by decide +kernel
theorem dX7_beardsOfAll_5 : decode cX7_beardsOfAll 5 = .ok (.aload_n 0, 1) := by decide +kernel
theorem dX7_beardsOfAll_6 : decode cX7_beardsOfAll 6 = .ok (.getfield 13, 3) := by decide +kernel
theorem dX7_beardsOfAll_9 : decode cX7_beardsOfAll 9 = .ok (.iconst 1, 1) := by decide +kernel
theorem dX7_beardsOfAll_10 : decode cX7_beardsOfAll 10 = .ok (.iaload, 1) := by decide +kernel
theorem dX7_beardsOfAll_11 : decode cX7_beardsOfAll 11 = .ok (.if_icmp .ge 17, 3) := by decide +kernel
theorem dX7_beardsOfAll_14 : decode cX7_beardsOfAll 14 = .ok (.iload_n 1, 1) := by decide +kernel
theorem dX7_beardsOfAll_15 : decode cX7_beardsOfAll 15 = .ok (.aload_n 0, 1) := by decide +kernel
theorem dX7_beardsOfAll_16 : decode cX7_beardsOfAll 16 = .ok (.iload_n 2, 1) := by decide +kernel
theorem dX7_beardsOfAll_17 : decode cX7_beardsOfAll 17 = .ok (.invokevirtual 150, 3) := by decide +kernel
theorem dX7_beardsOfAll_20 : decode cX7_beardsOfAll 20 = .ok (.iadd, 1) := by decide +kernel
theorem dX7_beardsOfAll_21 : decode cX7_beardsOfAll 21 = .ok (.istore_n 1, 1) := by decide +kernel
theorem dX7_beardsOfAll_22 : decode cX7_beardsOfAll 22 = .ok (.iinc 2 1, 3) := by decide +kernel
theorem dX7_beardsOfAll_25 : decode cX7_beardsOfAll 25 = .ok (.goto (-21), 3) := by decide +kernel
theorem dX7_beardsOfAll_28 : decode cX7_beardsOfAll 28 = .ok (.iload_n 1, 1) := by decide +kernel
theorem dX7_beardsOfAll_29 : decode cX7_beardsOfAll 29 = .ok (.ireturn, 1) := by decide +kernel
theorem dX7_knownOfAll_0 : decode cX7_knownOfAll 0 = .ok (.iconst 0, 1) := by decide +kernel
theorem dX7_knownOfAll_1 : decode cX7_knownOfAll 1 = .ok (.istore_n 1, 1) := by decide +kernel
theorem dX7_knownOfAll_2 : decode cX7_knownOfAll 2 = .ok (.iconst 0, 1) := by decide +kernel
theorem dX7_knownOfAll_3 : decode cX7_knownOfAll 3 = .ok (.istore_n 2, 1) := by decide +kernel
theorem dX7_knownOfAll_4 : decode cX7_knownOfAll 4 = .ok (.iload_n 2, 1) := by decide +kernel
theorem dX7_knownOfAll_5 : decode cX7_knownOfAll 5 = .ok (.bipush 24, 2) := by decide +kernel
theorem dX7_knownOfAll_7 : decode cX7_knownOfAll 7 = .ok (.if_icmp .ge 24, 3) := by decide +kernel
theorem dX7_knownOfAll_10 : decode cX7_knownOfAll 10 = .ok (.iload_n 1, 1) := by decide +kernel
theorem dX7_knownOfAll_11 : decode cX7_knownOfAll 11 = .ok (.aload_n 0, 1) := by decide +kernel
theorem dX7_knownOfAll_12 : decode cX7_knownOfAll 12 = .ok (.getfield 7, 3) := by decide +kernel
theorem dX7_knownOfAll_15 : decode cX7_knownOfAll 15 = .ok (.bipush 37, 2) := by decide +kernel
theorem dX7_knownOfAll_17 : decode cX7_knownOfAll 17 = .ok (.iload_n 2, 1) := by decide +kernel
theorem dX7_knownOfAll_18 : decode cX7_knownOfAll 18 = .ok (.iadd, 1) := by decide +kernel
theorem dX7_knownOfAll_19 : decode cX7_knownOfAll 19 = .ok (.iaload, 1) := by decide +kernel
theorem dX7_knownOfAll_20 : decode cX7_knownOfAll 20 = .ok (.invokestatic 178, 3) := by decide +kernel
theorem dX7_knownOfAll_23 : decode cX7_knownOfAll 23 = .ok (.iadd, 1) := by decide +kernel
theorem dX7_knownOfAll_24 : decode cX7_knownOfAll 24 = .ok (.istore_n 1, 1) := by decide +kernel
theorem dX7_knownOfAll_25 : decode cX7_knownOfAll 25 = .ok (.iinc 2 1, 3) := by decide +kernel
theorem dX7_knownOfAll_28 : decode cX7_knownOfAll 28 = .ok (.goto (-24), 3) := by decide +kernel
theorem dX7_knownOfAll_31 : decode cX7_knownOfAll 31 = .ok (.iload_n 1, 1) := by decide +kernel
theorem dX7_knownOfAll_32 : decode cX7_knownOfAll 32 = .ok (.ireturn, 1) := by decide +kernel
theorem dX7_count_0 : decode cX7_count 0 = .ok (.iload_n 1, 1) := by decide +kernel
theorem dX7_count_1 : decode cX7_count 1 = .ok (.tableswitch 104 0 8 #[51, 58, 65, 72, 79, 84, 89, 94, 99], 51) := by decide +kernel
theorem dX7_count_52 : decode cX7_count 52 = .ok (.aload_n 0, 1) := by decide +kernel
theorem dX7_count_53 : decode cX7_count 53 = .ok (.getfield 13, 3) := by decide +kernel
theorem dX7_count_56 : decode cX7_count 56 = .ok (.iconst 0, 1) := by decide +kernel
theorem dX7_count_57 : decode cX7_count 57 = .ok (.iaload, 1) := by decide +kernel
theorem dX7_count_58 : decode cX7_count 58 = .ok (.ireturn, 1) := by decide +kernel
theorem dX7_count_59 : decode cX7_count 59 = .ok (.aload_n 0, 1) := by decide +kernel
theorem dX7_count_60 : decode cX7_count 60 = .ok (.getfield 13, 3) := by decide +kernel
theorem dX7_count_63 : decode cX7_count 63 = .ok (.iconst 1, 1) := by decide +kernel
theorem dX7_count_64 : decode cX7_count 64 = .ok (.iaload, 1) := by decide +kernel
theorem dX7_count_65 : decode cX7_count 65 = .ok (.ireturn, 1) := by decide +kernel
theorem dX7_count_66 : decode cX7_count 66 = .ok (.aload_n 0, 1) := by decide +kernel
theorem dX7_count_67 : decode cX7_count 67 = .ok (.getfield 13, 3) := by decide +kernel
theorem dX7_count_70 : decode cX7_count 70 = .ok (.iconst 2, 1) := by decide +kernel
theorem dX7_count_71 : decode cX7_count 71 = .ok (.iaload, 1) := by decide +kernel
theorem dX7_count_72 : decode cX7_count 72 = .ok (.ireturn, 1) := by decide +kernel
theorem dX7_count_73 : decode cX7_count 73 = .ok (.aload_n 0, 1) := by decide +kernel
theorem dX7_count_74 : decode cX7_count 74 = .ok (.getfield 7, 3) := by decide +kernel
theorem dX7_count_77 : decode cX7_count 77 = .ok (.iconst 0, 1) := by decide +kernel
theorem dX7_count_78 : decode cX7_count 78 = .ok (.iaload, 1) := by decide +kernel
theorem dX7_count_79 : decode cX7_count 79 = .ok (.ireturn, 1) := by decide +kernel
theorem dX7_count_80 : decode cX7_count 80 = .ok (.aload_n 0, 1) := by decide +kernel
theorem dX7_count_81 : decode cX7_count 81 = .ok (.invokevirtual 200, 3) := by decide +kernel
theorem dX7_count_84 : decode cX7_count 84 = .ok (.ireturn, 1) := by decide +kernel
theorem dX7_count_85 : decode cX7_count 85 = .ok (.aload_n 0, 1) := by decide +kernel
theorem dX7_count_86 : decode cX7_count 86 = .ok (.invokevirtual 203, 3) := by decide +kernel
theorem dX7_count_89 : decode cX7_count 89 = .ok (.ireturn, 1) := by decide +kernel
theorem dX7_count_90 : decode cX7_count 90 = .ok (.aload_n 0, 1) := by decide +kernel
theorem dX7_count_91 : decode cX7_count 91 = .ok (.getfield 126, 3) := by decide +kernel
theorem dX7_count_94 : decode cX7_count 94 = .ok (.ireturn, 1) := by decide +kernel
theorem dX7_count_95 : decode cX7_count 95 = .ok (.aload_n 0, 1) := by decide +kernel
theorem dX7_count_96 : decode cX7_count 96 = .ok (.getfield 129, 3) := by decide +kernel
theorem dX7_count_99 : decode cX7_count 99 = .ok (.ireturn, 1) := by decide +kernel
theorem dX7_count_100 : decode cX7_count 100 = .ok (.aload_n 0, 1) := by decide +kernel
theorem dX7_count_101 : decode cX7_count 101 = .ok (.getfield 43, 3) := by decide +kernel
theorem dX7_count_104 : decode cX7_count 104 = .ok (.ireturn, 1) := by decide +kernel
theorem dX7_count_105 : decode cX7_count 105 = .ok (.bipush (-3), 2) := by decide +kernel
theorem dX7_count_107 : decode cX7_count 107 = .ok (.ireturn, 1) := by decide +kernel
theorem dJ6_bitCount_0f7a4_0 : decode cJ6_bitCount_0f7a4 0 = .ok (.iload_n 0, 1) := by decide +kernel
theorem dJ6_bitCount_0f7a4_1 : decode cJ6_bitCount_0f7a4 1 = .ok (.iload_n 0, 1) := by decide +kernel
theorem dJ6_bitCount_0f7a4_2 : decode cJ6_bitCount_0f7a4 2 = .ok (.iconst 1, 1) := by decide +kernel
theorem dJ6_bitCount_0f7a4_3 : decode cJ6_bitCount_0f7a4 3 = .ok (.iushr, 1) := by decide +kernel
theorem dJ6_bitCount_0f7a4_4 : decode cJ6_bitCount_0f7a4 4 = .ok (.ldc_w 265, 3) := by decide +kernel
theorem dJ6_bitCount_0f7a4_7 : decode cJ6_bitCount_0f7a4 7 = .ok (.iand, 1) := by decide +kernel
theorem dJ6_bitCount_0f7a4_8 : decode cJ6_bitCount_0f7a4 8 = .ok (.isub, 1) := by decide +kernel
theorem dJ6_bitCount_0f7a4_9 : decode cJ6_bitCount_0f7a4 9 = .ok (.istore_n 0, 1) := by decide +kernel
theorem dJ6_bitCount_0f7a4_10 : decode cJ6_bitCount_0f7a4 10 = .ok (.iload_n 0, 1) := by decide +kernel
theorem dJ6_bitCount_0f7a4_11 : decode cJ6_bitCount_0f7a4 11 = .ok (.ldc_w 266, 3) := by decide +kernel
theorem dJ6_bitCount_0f7a4_14 : decode cJ6_bitCount_0f7a4 14 = .ok (.iand, 1) := by decide +kernel
theorem dJ6_bitCount_0f7a4_15 : decode cJ6_bitCount_0f7a4 15 = .ok (.iload_n 0, 1) := by decide +kernel
theorem dJ6_bitCount_0f7a4_16 : decode cJ6_bitCount_0f7a4 16 = .ok (.iconst 2, 1) := by decide +kernel
theorem dJ6_bitCount_0f7a4_17 : decode cJ6_bitCount_0f7a4 17 = .ok (.iushr, 1) := by decide +kernel
theorem dJ6_bitCount_0f7a4_18 : decode cJ6_bitCount_0f7a4 18 = .ok (.ldc_w 266, 3) := by decide +kernel
theorem dJ6_bitCount_0f7a4_21 : decode cJ6_bitCount_0f7a4 21 = .ok (.iand, 1) := by decide +kernel
theorem dJ6_bitCount_0f7a4_22 : decode cJ6_bitCount_0f7a4 22 = .ok (.iadd, 1) := by decide +kernel
theorem dJ6_bitCount_0f7a4_23 : decode cJ6_bitCount_0f7a4 23 = .ok (.istore_n 0, 1) := by decide +kernel
theorem dJ6_bitCount_0f7a4_24 : decode cJ6_bitCount_0f7a4 24 = .ok (.iload_n 0, 1) := by decide +kernel
theorem dJ6_bitCount_0f7a4_25 : decode cJ6_bitCount_0f7a4 25 = .ok (.iload_n 0, 1) := by decide +kernel
theorem dJ6_bitCount_0f7a4_26 : decode cJ6_bitCount_0f7a4 26 = .ok (.iconst 4, 1) := by decide +kernel
theorem dJ6_bitCount_0f7a4_27 : decode cJ6_bitCount_0f7a4 27 = .ok (.iushr, 1) := by decide +kernel
theorem dJ6_bitCount_0f7a4_28 : decode cJ6_bitCount_0f7a4 28 = .ok (.iadd, 1) := by decide +kernel
theorem dJ6_bitCount_0f7a4_29 : decode cJ6_bitCount_0f7a4 29 = .ok (.ldc_w 267, 3) := by decide +kernel
theorem dJ6_bitCount_0f7a4_32 : decode cJ6_bitCount_0f7a4 32 = .ok (.iand, 1) := by decide +kernel
theorem dJ6_bitCount_0f7a4_33 : decode cJ6_bitCount_0f7a4 33 = .ok (.istore_n 0, 1) := by decide +kernel
theorem dJ6_bitCount_0f7a4_34 : decode cJ6_bitCount_0f7a4 34 = .ok (.iload_n 0, 1) := by decide +kernel
theorem dJ6_bitCount_0f7a4_35 : decode cJ6_bitCount_0f7a4 35 = .ok (.iload_n 0, 1) := by decide +kernel
theorem dJ6_bitCount_0f7a4_36 : decode cJ6_bitCount_0f7a4 36 = .ok (.bipush 8, 2) := by decide +kernel
theorem dJ6_bitCount_0f7a4_38 : decode cJ6_bitCount_0f7a4 38 = .ok (.iushr, 1) := by decide +kernel
theorem dJ6_bitCount_0f7a4_39 : decode cJ6_bitCount_0f7a4 39 = .ok (.iadd, 1) := by decide +kernel
theorem dJ6_bitCount_0f7a4_40 : decode cJ6_bitCount_0f7a4 40 = .ok (.istore_n 0, 1) := by decide +kernel
theorem dJ6_bitCount_0f7a4_41 : decode cJ6_bitCount_0f7a4 41 = .ok (.iload_n 0, 1) := by decide +kernel
theorem dJ6_bitCount_0f7a4_42 : decode cJ6_bitCount_0f7a4 42 = .ok (.iload_n 0, 1) := by decide +kernel
theorem dJ6_bitCount_0f7a4_43 : decode cJ6_bitCount_0f7a4 43 = .ok (.bipush 16, 2) := by decide +kernel
theorem dJ6_bitCount_0f7a4_45 : decode cJ6_bitCount_0f7a4 45 = .ok (.iushr, 1) := by decide +kernel
theorem dJ6_bitCount_0f7a4_46 : decode cJ6_bitCount_0f7a4 46 = .ok (.iadd, 1) := by decide +kernel
theorem dJ6_bitCount_0f7a4_47 : decode cJ6_bitCount_0f7a4 47 = .ok (.istore_n 0, 1) := by decide +kernel
theorem dJ6_bitCount_0f7a4_48 : decode cJ6_bitCount_0f7a4 48 = .ok (.iload_n 0, 1) := by decide +kernel
theorem dJ6_bitCount_0f7a4_49 : decode cJ6_bitCount_0f7a4 49 = .ok (.bipush 63, 2) := by decide +kernel
theorem dJ6_bitCount_0f7a4_51 : decode cJ6_bitCount_0f7a4 51 = .ok (.iand, 1) := by decide +kernel
theorem dJ6_bitCount_0f7a4_52 : decode cJ6_bitCount_0f7a4 52 = .ok (.ireturn, 1) := by decide +kernel
theorem dJ9_max_7cf53_0 : decode cJ9_max_7cf53 0 = .ok (.iload_n 0, 1) := by decide +kernel
theorem dJ9_max_7cf53_1 : decode cJ9_max_7cf53 1 = .ok (.iload_n 1, 1) := by decide +kernel
theorem dJ9_max_7cf53_2 : decode cJ9_max_7cf53 2 = .ok (.if_icmp .lt 7, 3) := by decide +kernel
theorem dJ9_max_7cf53_5 : decode cJ9_max_7cf53 5 = .ok (.iload_n 0, 1) := by decide +kernel
theorem dJ9_max_7cf53_6 : decode cJ9_max_7cf53 6 = .ok (.goto 4, 3) := by decide +kernel
theorem dJ9_max_7cf53_9 : decode cJ9_max_7cf53 9 = .ok (.iload_n 1, 1) := by decide +kernel
theorem dJ9_max_7cf53_10 : decode cJ9_max_7cf53 10 = .ok (.ireturn, 1) := by decide +kernel
theorem dJ9_min_7cf53_0 : decode cJ9_min_7cf53 0 = .ok (.iload_n 0, 1) := by decide +kernel
theorem dJ9_min_7cf53_1 : decode cJ9_min_7cf53 1 = .ok (.iload_n 1, 1) := by decide +kernel
theorem dJ9_min_7cf53_2 : decode cJ9_min_7cf53 2 = .ok (.if_icmp .gt 7, 3) := by decide +kernel
theorem dJ9_min_7cf53_5 : decode cJ9_min_7cf53 5 = .ok (.iload_n 0, 1) := by decide +kernel
theorem dJ9_min_7cf53_6 : decode cJ9_min_7cf53 6 = .ok (.goto 4, 3) := by decide +kernel
theorem dJ9_min_7cf53_9 : decode cJ9_min_7cf53 9 = .ok (.iload_n 1, 1) := by decide +kernel
theorem dJ9_min_7cf53_10 : decode cJ9_min_7cf53 10 = .ok (.ireturn, 1) := by decide +kernel
theorem dJ0_length_8abf5_0 : decode cJ0_length_8abf5 0 = .ok (.aload_n 0, 1) := by decide +kernel
theorem dJ0_length_8abf5_1 : decode cJ0_length_8abf5 1 = .ok (.getfield 9, 3) := by decide +kernel
theorem dJ0_length_8abf5_4 : decode cJ0_length_8abf5 4 = .ok (.arraylength, 1) := by decide +kernel
theorem dJ0_length_8abf5_5 : decode cJ0_length_8abf5 5 = .ok (.aload_n 0, 1) := by decide +kernel
theorem dJ0_length_8abf5_6 : decode cJ0_length_8abf5 6 = .ok (.invokevirtual 335, 3) := by decide +kernel
theorem dJ0_length_8abf5_9 : decode cJ0_length_8abf5 9 = .ok (.ishr, 1) := by decide +kernel
theorem dJ0_length_8abf5_10 : decode cJ0_length_8abf5 10 = .ok (.ireturn, 1) := by decide +kernel
theorem dJ0_charAt_5068e_0 : decode cJ0_charAt_5068e 0 = .ok (.aload_n 0, 1) := by decide +kernel
theorem dJ0_charAt_5068e_1 : decode cJ0_charAt_5068e 1 = .ok (.invokevirtual 492, 3) := by decide +kernel
theorem dJ0_charAt_5068e_4 : decode cJ0_charAt_5068e 4 = .ok (.ifCond .eq 12, 3) := by decide +kernel
theorem dJ0_charAt_5068e_7 : decode cJ0_charAt_5068e 7 = .ok (.aload_n 0, 1) := by decide +kernel
theorem dJ0_charAt_5068e_8 : decode cJ0_charAt_5068e 8 = .ok (.getfield 9, 3) := by decide +kernel
theorem dJ0_charAt_5068e_11 : decode cJ0_charAt_5068e 11 = .ok (.iload_n 1, 1) := by decide +kernel
theorem dJ0_charAt_5068e_12 : decode cJ0_charAt_5068e 12 = .ok (.invokestatic 495, 3) := by decide +kernel
theorem dJ0_charAt_5068e_15 : decode cJ0_charAt_5068e 15 = .ok (.ireturn, 1) := by decide +kernel
theorem dJ0_charAt_5068e_16 : decode cJ0_charAt_5068e 16 = .ok (.aload_n 0, 1) := by decide +kernel
theorem dJ0_charAt_5068e_17 : decode cJ0_charAt_5068e 17 = .ok (.getfield 9, 3) := by decide +kernel
theorem dJ0_charAt_5068e_20 : decode cJ0_charAt_5068e 20 = .ok (.iload_n 1, 1) := by decide +kernel
theorem dJ0_charAt_5068e_21 : decode cJ0_charAt_5068e 21 = .ok (.invokestatic 498, 3) := by decide +kernel
theorem dJ0_charAt_5068e_24 : decode cJ0_charAt_5068e 24 = .ok (.ireturn, 1) := by decide +kernel
theorem dJ0_coder_7d493_0 : decode cJ0_coder_7d493 0 = .ok (.getstatic 38, 3) := by decide +kernel
theorem dJ0_coder_7d493_3 : decode cJ0_coder_7d493 3 = .ok (.ifCond .eq 10, 3) := by decide +kernel
theorem dJ0_coder_7d493_6 : decode cJ0_coder_7d493 6 = .ok (.aload_n 0, 1) := by decide +kernel
theorem dJ0_coder_7d493_7 : decode cJ0_coder_7d493 7 = .ok (.getfield 15, 3) := by decide +kernel
theorem dJ0_coder_7d493_10 : decode cJ0_coder_7d493 10 = .ok (.goto 4, 3) := by decide +kernel
theorem dJ0_coder_7d493_13 : decode cJ0_coder_7d493 13 = .ok (.iconst 1, 1) := by decide +kernel
theorem dJ0_coder_7d493_14 : decode cJ0_coder_7d493 14 = .ok (.ireturn, 1) := by decide +kernel
theorem dJ0_isLatin1_aae02_0 : decode cJ0_isLatin1_aae02 0 = .ok (.getstatic 38, 3) := by decide +kernel
theorem dJ0_isLatin1_aae02_3 : decode cJ0_isLatin1_aae02 3 = .ok (.ifCond .eq 14, 3) := by decide +kernel
theorem dJ0_isLatin1_aae02_6 : decode cJ0_isLatin1_aae02 6 = .ok (.aload_n 0, 1) := by decide +kernel
theorem dJ0_isLatin1_aae02_7 : decode cJ0_isLatin1_aae02 7 = .ok (.getfield 15, 3) := by decide +kernel
end
section
theorem dJ0_isLatin1_aae02_10 : decode cJ0_isLatin1_aae02 10 = .ok (.ifCond .ne 7, 3) := by decide +kernel
theorem dJ0_isLatin1_aae02_13 : decode cJ0_isLatin1_aae02 13 = .ok (.iconst 1, 1) := by decide +kernel
theorem dJ0_isLatin1_aae02_14 : decode cJ0_isLatin1_aae02 14 = .ok (.goto 4, 3) := by decide +kernel
theorem dJ0_isLatin1_aae02_17 : decode cJ0_isLatin1_aae02 17 = .ok (.iconst 0, 1) := by decide +kernel
theorem dJ0_isLatin1_aae02_18 : decode cJ0_isLatin1_aae02 18 = .ok (.ireturn, 1) := by decide +kernel
theorem dJ0_checkIndex_df160_0 : decode cJ0_checkIndex_df160 0 = .ok (.iload_n 0, 1) := by decide +kernel
theorem dJ0_checkIndex_df160_1 : decode cJ0_checkIndex_df160 1 = .ok (.iload_n 1, 1) := by decide +kernel
theorem dJ0_checkIndex_df160_2 : decode cJ0_checkIndex_df160 2 = .ok (.getstatic 1053, 3) := by decide +kernel
theorem dJ0_checkIndex_df160_5 : decode cJ0_checkIndex_df160 5 = .ok (.invokestatic 1059, 3) := by decide +kernel
theorem dJ0_checkIndex_df160_8 : decode cJ0_checkIndex_df160 8 = .ok (.pop, 1) := by decide +kernel
theorem dJ0_checkIndex_df160_9 : decode cJ0_checkIndex_df160 9 = .ok (.return_, 1) := by decide +kernel
theorem dJ1_charAt_3b067_0 : decode cJ1_charAt_3b067 0 = .ok (.iload_n 1, 1) := by decide +kernel
theorem dJ1_charAt_3b067_1 : decode cJ1_charAt_3b067 1 = .ok (.aload_n 0, 1) := by decide +kernel
theorem dJ1_charAt_3b067_2 : decode cJ1_charAt_3b067 2 = .ok (.arraylength, 1) := by decide +kernel
theorem dJ1_charAt_3b067_3 : decode cJ1_charAt_3b067 3 = .ok (.invokestatic 9, 3) := by decide +kernel
theorem dJ1_charAt_3b067_6 : decode cJ1_charAt_3b067 6 = .ok (.aload_n 0, 1) := by decide +kernel
theorem dJ1_charAt_3b067_7 : decode cJ1_charAt_3b067 7 = .ok (.iload_n 1, 1) := by decide +kernel
theorem dJ1_charAt_3b067_8 : decode cJ1_charAt_3b067 8 = .ok (.baload, 1) := by decide +kernel
theorem dJ1_charAt_3b067_9 : decode cJ1_charAt_3b067 9 = .ok (.sipush 255, 3) := by decide +kernel
theorem dJ1_charAt_3b067_12 : decode cJ1_charAt_3b067 12 = .ok (.iand, 1) := by decide +kernel
theorem dJ1_charAt_3b067_13 : decode cJ1_charAt_3b067 13 = .ok (.i2c, 1) := by decide +kernel
theorem dJ1_charAt_3b067_14 : decode cJ1_charAt_3b067 14 = .ok (.ireturn, 1) := by decide +kernel
theorem dJ2_getChar_3b067_0 : decode cJ2_getChar_3b067 0 = .ok (.getstatic 44, 3) := by decide +kernel
theorem dJ2_getChar_3b067_3 : decode cJ2_getChar_3b067 3 = .ok (.ifCond .ne 25, 3) := by decide +kernel
theorem dJ2_getChar_3b067_6 : decode cJ2_getChar_3b067 6 = .ok (.iload_n 1, 1) := by decide +kernel
theorem dJ2_getChar_3b067_7 : decode cJ2_getChar_3b067 7 = .ok (.ifCond .lt 11, 3) := by decide +kernel
theorem dJ2_getChar_3b067_10 : decode cJ2_getChar_3b067 10 = .ok (.iload_n 1, 1) := by decide +kernel
theorem dJ2_getChar_3b067_11 : decode cJ2_getChar_3b067 11 = .ok (.aload_n 0, 1) := by decide +kernel
theorem dJ2_getChar_3b067_12 : decode cJ2_getChar_3b067 12 = .ok (.invokestatic 48, 3) := by decide +kernel
theorem dJ2_getChar_3b067_15 : decode cJ2_getChar_3b067 15 = .ok (.if_icmp .lt 13, 3) := by decide +kernel
theorem dJ2_getChar_3b067_18 : decode cJ2_getChar_3b067 18 = .ok (.new 52, 3) := by decide +kernel
theorem dJ2_getChar_3b067_21 : decode cJ2_getChar_3b067 21 = .ok (.dup, 1) := by decide +kernel
theorem dJ2_getChar_3b067_22 : decode cJ2_getChar_3b067 22 = .ok (.ldc 54, 2) := by decide +kernel
theorem dJ2_getChar_3b067_24 : decode cJ2_getChar_3b067 24 = .ok (.invokespecial 56, 3) := by decide +kernel
theorem dJ2_getChar_3b067_27 : decode cJ2_getChar_3b067 27 = .ok (.athrow, 1) := by decide +kernel
theorem dJ2_getChar_3b067_28 : decode cJ2_getChar_3b067 28 = .ok (.iload_n 1, 1) := by decide +kernel
theorem dJ2_getChar_3b067_29 : decode cJ2_getChar_3b067 29 = .ok (.iconst 1, 1) := by decide +kernel
theorem dJ2_getChar_3b067_30 : decode cJ2_getChar_3b067 30 = .ok (.ishl, 1) := by decide +kernel
theorem dJ2_getChar_3b067_31 : decode cJ2_getChar_3b067 31 = .ok (.istore_n 1, 1) := by decide +kernel
theorem dJ2_getChar_3b067_32 : decode cJ2_getChar_3b067 32 = .ok (.aload_n 0, 1) := by decide +kernel
theorem dJ2_getChar_3b067_33 : decode cJ2_getChar_3b067 33 = .ok (.iload_n 1, 1) := by decide +kernel
theorem dJ2_getChar_3b067_34 : decode cJ2_getChar_3b067 34 = .ok (.iinc 1 1, 3) := by decide +kernel
theorem dJ2_getChar_3b067_37 : decode cJ2_getChar_3b067 37 = .ok (.baload, 1) := by decide +kernel
theorem dJ2_getChar_3b067_38 : decode cJ2_getChar_3b067 38 = .ok (.sipush 255, 3) := by decide +kernel
theorem dJ2_getChar_3b067_41 : decode cJ2_getChar_3b067 41 = .ok (.iand, 1) := by decide +kernel
theorem dJ2_getChar_3b067_42 : decode cJ2_getChar_3b067 42 = .ok (.getstatic 59, 3) := by decide +kernel
theorem dJ2_getChar_3b067_45 : decode cJ2_getChar_3b067 45 = .ok (.ishl, 1) := by decide +kernel
theorem dJ2_getChar_3b067_46 : decode cJ2_getChar_3b067 46 = .ok (.aload_n 0, 1) := by decide +kernel
theorem dJ2_getChar_3b067_47 : decode cJ2_getChar_3b067 47 = .ok (.iload_n 1, 1) := by decide +kernel
theorem dJ2_getChar_3b067_48 : decode cJ2_getChar_3b067 48 = .ok (.baload, 1) := by decide +kernel
theorem dJ2_getChar_3b067_49 : decode cJ2_getChar_3b067 49 = .ok (.sipush 255, 3) := by decide +kernel
theorem dJ2_getChar_3b067_52 : decode cJ2_getChar_3b067 52 = .ok (.iand, 1) := by decide +kernel
theorem dJ2_getChar_3b067_53 : decode cJ2_getChar_3b067 53 = .ok (.getstatic 63, 3) := by decide +kernel
theorem dJ2_getChar_3b067_56 : decode cJ2_getChar_3b067 56 = .ok (.ishl, 1) := by decide +kernel
theorem dJ2_getChar_3b067_57 : decode cJ2_getChar_3b067 57 = .ok (.ior, 1) := by decide +kernel
theorem dJ2_getChar_3b067_58 : decode cJ2_getChar_3b067 58 = .ok (.i2c, 1) := by decide +kernel
theorem dJ2_getChar_3b067_59 : decode cJ2_getChar_3b067 59 = .ok (.ireturn, 1) := by decide +kernel
theorem dJ2_length_9d52b_0 : decode cJ2_length_9d52b 0 = .ok (.aload_n 0, 1) := by decide +kernel
theorem dJ2_length_9d52b_1 : decode cJ2_length_9d52b 1 = .ok (.arraylength, 1) := by decide +kernel
theorem dJ2_length_9d52b_2 : decode cJ2_length_9d52b 2 = .ok (.iconst 1, 1) := by decide +kernel
theorem dJ2_length_9d52b_3 : decode cJ2_length_9d52b 3 = .ok (.ishr, 1) := by decide +kernel
theorem dJ2_length_9d52b_4 : decode cJ2_length_9d52b 4 = .ok (.ireturn, 1) := by decide +kernel
theorem dJ2_charAt_3b067_0 : decode cJ2_charAt_3b067 0 = .ok (.iload_n 1, 1) := by decide +kernel
theorem dJ2_charAt_3b067_1 : decode cJ2_charAt_3b067 1 = .ok (.aload_n 0, 1) := by decide +kernel
theorem dJ2_charAt_3b067_2 : decode cJ2_charAt_3b067 2 = .ok (.invokestatic 67, 3) := by decide +kernel
theorem dJ2_charAt_3b067_5 : decode cJ2_charAt_3b067 5 = .ok (.aload_n 0, 1) := by decide +kernel
theorem dJ2_charAt_3b067_6 : decode cJ2_charAt_3b067 6 = .ok (.iload_n 1, 1) := by decide +kernel
theorem dJ2_charAt_3b067_7 : decode cJ2_charAt_3b067 7 = .ok (.invokestatic 71, 3) := by decide +kernel
theorem dJ2_charAt_3b067_10 : decode cJ2_charAt_3b067 10 = .ok (.ireturn, 1) := by decide +kernel
theorem dJ2_checkIndex_2214a_0 : decode cJ2_checkIndex_2214a 0 = .ok (.iload_n 0, 1) := by decide +kernel
theorem dJ2_checkIndex_2214a_1 : decode cJ2_checkIndex_2214a 1 = .ok (.aload_n 1, 1) := by decide +kernel
theorem dJ2_checkIndex_2214a_2 : decode cJ2_checkIndex_2214a 2 = .ok (.invokestatic 48, 3) := by decide +kernel
theorem dJ2_checkIndex_2214a_5 : decode cJ2_checkIndex_2214a 5 = .ok (.invokestatic 414, 3) := by decide +kernel
theorem dJ2_checkIndex_2214a_8 : decode cJ2_checkIndex_2214a 8 = .ok (.return_, 1) := by decide +kernel
theorem dJ3_checkIndex_8e157_0 : decode cJ3_checkIndex_8e157 0 = .ok (.iload_n 0, 1) := by decide +kernel
theorem dJ3_checkIndex_8e157_1 : decode cJ3_checkIndex_8e157 1 = .ok (.ifCond .lt 8, 3) := by decide +kernel
theorem dJ3_checkIndex_8e157_4 : decode cJ3_checkIndex_8e157 4 = .ok (.iload_n 0, 1) := by decide +kernel
theorem dJ3_checkIndex_8e157_5 : decode cJ3_checkIndex_8e157 5 = .ok (.iload_n 1, 1) := by decide +kernel
theorem dJ3_checkIndex_8e157_6 : decode cJ3_checkIndex_8e157 6 = .ok (.if_icmp .lt 10, 3) := by decide +kernel
theorem dJ3_checkIndex_8e157_9 : decode cJ3_checkIndex_8e157 9 = .ok (.aload_n 2, 1) := by decide +kernel
theorem dJ3_checkIndex_8e157_10 : decode cJ3_checkIndex_8e157 10 = .ok (.iload_n 0, 1) := by decide +kernel
theorem dJ3_checkIndex_8e157_11 : decode cJ3_checkIndex_8e157 11 = .ok (.iload_n 1, 1) := by decide +kernel
theorem dJ3_checkIndex_8e157_12 : decode cJ3_checkIndex_8e157 12 = .ok (.invokestatic 95, 3) := by decide +kernel
theorem dJ3_checkIndex_8e157_15 : decode cJ3_checkIndex_8e157 15 = .ok (.athrow, 1) := by decide +kernel
theorem dJ3_checkIndex_8e157_16 : decode cJ3_checkIndex_8e157 16 = .ok (.iload_n 0, 1) := by decide +kernel
theorem dJ3_checkIndex_8e157_17 : decode cJ3_checkIndex_8e157 17 = .ok (.ireturn, 1) := by decide +kernel
theorem dL_law_0 : decode cL_law 0 = .ok (.new 7, 3) := by decide +kernel
theorem dL_law_3 : decode cL_law 3 = .ok (.dup, 1) := by decide +kernel
theorem dL_law_4 : decode cL_law 4 = .ok (.invokespecial 9, 3) := by decide +kernel
theorem dL_law_7 : decode cL_law 7 = .ok (.astore_n 1, 1) := by decide +kernel
theorem dL_law_8 : decode cL_law 8 = .ok (.new 10, 3) := by decide +kernel
theorem dL_law_11 : decode cL_law 11 = .ok (.dup, 1) := by decide +kernel
theorem dL_law_12 : decode cL_law 12 = .ok (.invokespecial 12, 3) := by decide +kernel
theorem dL_law_15 : decode cL_law 15 = .ok (.astore_n 2, 1) := by decide +kernel
theorem dL_law_16 : decode cL_law 16 = .ok (.iconst 0, 1) := by decide +kernel
theorem dL_law_17 : decode cL_law 17 = .ok (.istore_n 3, 1) := by decide +kernel
theorem dL_law_18 : decode cL_law 18 = .ok (.iload_n 3, 1) := by decide +kernel
theorem dL_law_19 : decode cL_law 19 = .ok (.aload_n 0, 1) := by decide +kernel
theorem dL_law_20 : decode cL_law 20 = .ok (.arraylength, 1) := by decide +kernel
theorem dL_law_21 : decode cL_law 21 = .ok (.iconst 5, 1) := by decide +kernel
theorem dL_law_22 : decode cL_law 22 = .ok (.isub, 1) := by decide +kernel
theorem dL_law_23 : decode cL_law 23 = .ok (.if_icmp .gt 846, 3) := by decide +kernel
theorem dL_law_26 : decode cL_law 26 = .ok (.aload_n 0, 1) := by decide +kernel
theorem dL_law_27 : decode cL_law 27 = .ok (.iload_n 3, 1) := by decide +kernel
theorem dL_law_28 : decode cL_law 28 = .ok (.iaload, 1) := by decide +kernel
theorem dL_law_29 : decode cL_law 29 = .ok (.bipush 31, 2) := by decide +kernel
theorem dL_law_31 : decode cL_law 31 = .ok (.iand, 1) := by decide +kernel
theorem dL_law_32 : decode cL_law 32 = .ok (.tableswitch 831 0 24 #[116, 139, 152, 165, 178, 211, 244, 267, 310, 343, 386, 399, 442, 475, 488, 511, 534, 577, 610, 643, 686, 729, 742, 755, 808], 116) := by decide +kernel
theorem dL_law_148 : decode cL_law 148 = .ok (.aload_n 1, 1) := by decide +kernel
theorem dL_law_149 : decode cL_law 149 = .ok (.aload_n 0, 1) := by decide +kernel
theorem dL_law_150 : decode cL_law 150 = .ok (.iload_n 3, 1) := by decide +kernel
theorem dL_law_151 : decode cL_law 151 = .ok (.iconst 1, 1) := by decide +kernel
theorem dL_law_152 : decode cL_law 152 = .ok (.iadd, 1) := by decide +kernel
theorem dL_law_153 : decode cL_law 153 = .ok (.iaload, 1) := by decide +kernel
theorem dL_law_154 : decode cL_law 154 = .ok (.invokevirtual 13, 3) := by decide +kernel
theorem dL_law_157 : decode cL_law 157 = .ok (.aload_n 2, 1) := by decide +kernel
theorem dL_law_158 : decode cL_law 158 = .ok (.aload_n 0, 1) := by decide +kernel
theorem dL_law_159 : decode cL_law 159 = .ok (.iload_n 3, 1) := by decide +kernel
theorem dL_law_160 : decode cL_law 160 = .ok (.iconst 1, 1) := by decide +kernel
theorem dL_law_161 : decode cL_law 161 = .ok (.iadd, 1) := by decide +kernel
theorem dL_law_162 : decode cL_law 162 = .ok (.iaload, 1) := by decide +kernel
theorem dL_law_163 : decode cL_law 163 = .ok (.invokevirtual 17, 3) := by decide +kernel
theorem dL_law_166 : decode cL_law 166 = .ok (.if_icmp .eq 697, 3) := by decide +kernel
theorem dL_law_169 : decode cL_law 169 = .ok (.iconst 0, 1) := by decide +kernel
theorem dL_law_170 : decode cL_law 170 = .ok (.ireturn, 1) := by decide +kernel
theorem dL_law_171 : decode cL_law 171 = .ok (.aload_n 1, 1) := by decide +kernel
theorem dL_law_172 : decode cL_law 172 = .ok (.invokevirtual 18, 3) := by decide +kernel
theorem dL_law_175 : decode cL_law 175 = .ok (.aload_n 2, 1) := by decide +kernel
theorem dL_law_176 : decode cL_law 176 = .ok (.invokevirtual 22, 3) := by decide +kernel
theorem dL_law_179 : decode cL_law 179 = .ok (.if_icmp .eq 684, 3) := by decide +kernel
theorem dL_law_182 : decode cL_law 182 = .ok (.iconst 0, 1) := by decide +kernel
theorem dL_law_183 : decode cL_law 183 = .ok (.ireturn, 1) := by decide +kernel
theorem dL_law_184 : decode cL_law 184 = .ok (.aload_n 1, 1) := by decide +kernel
theorem dL_law_185 : decode cL_law 185 = .ok (.invokevirtual 23, 3) := by decide +kernel
theorem dL_law_188 : decode cL_law 188 = .ok (.aload_n 2, 1) := by decide +kernel
theorem dL_law_189 : decode cL_law 189 = .ok (.invokevirtual 26, 3) := by decide +kernel
theorem dL_law_192 : decode cL_law 192 = .ok (.if_icmp .eq 671, 3) := by decide +kernel
theorem dL_law_195 : decode cL_law 195 = .ok (.iconst 0, 1) := by decide +kernel
theorem dL_law_196 : decode cL_law 196 = .ok (.ireturn, 1) := by decide +kernel
theorem dL_law_197 : decode cL_law 197 = .ok (.aload_n 1, 1) := by decide +kernel
theorem dL_law_198 : decode cL_law 198 = .ok (.invokevirtual 27, 3) := by decide +kernel
theorem dL_law_201 : decode cL_law 201 = .ok (.aload_n 2, 1) := by decide +kernel
theorem dL_law_202 : decode cL_law 202 = .ok (.invokevirtual 30, 3) := by decide +kernel
theorem dL_law_205 : decode cL_law 205 = .ok (.if_icmp .eq 658, 3) := by decide +kernel
theorem dL_law_208 : decode cL_law 208 = .ok (.iconst 0, 1) := by decide +kernel
theorem dL_law_209 : decode cL_law 209 = .ok (.ireturn, 1) := by decide +kernel
theorem dL_law_210 : decode cL_law 210 = .ok (.aload_n 1, 1) := by decide +kernel
theorem dL_law_211 : decode cL_law 211 = .ok (.aload_n 0, 1) := by decide +kernel
theorem dL_law_212 : decode cL_law 212 = .ok (.iload_n 3, 1) := by decide +kernel
theorem dL_law_213 : decode cL_law 213 = .ok (.iconst 1, 1) := by decide +kernel
theorem dL_law_214 : decode cL_law 214 = .ok (.iadd, 1) := by decide +kernel
theorem dL_law_215 : decode cL_law 215 = .ok (.iaload, 1) := by decide +kernel
theorem dL_law_216 : decode cL_law 216 = .ok (.aload_n 0, 1) := by decide +kernel
theorem dL_law_217 : decode cL_law 217 = .ok (.iload_n 3, 1) := by decide +kernel
theorem dL_law_218 : decode cL_law 218 = .ok (.iconst 2, 1) := by decide +kernel
theorem dL_law_219 : decode cL_law 219 = .ok (.iadd, 1) := by decide +kernel
theorem dL_law_220 : decode cL_law 220 = .ok (.iaload, 1) := by decide +kernel
theorem dL_law_221 : decode cL_law 221 = .ok (.invokevirtual 31, 3) := by decide +kernel
theorem dL_law_224 : decode cL_law 224 = .ok (.aload_n 2, 1) := by decide +kernel
theorem dL_law_225 : decode cL_law 225 = .ok (.aload_n 0, 1) := by decide +kernel
theorem dL_law_226 : decode cL_law 226 = .ok (.iload_n 3, 1) := by decide +kernel
theorem dL_law_227 : decode cL_law 227 = .ok (.iconst 1, 1) := by decide +kernel
theorem dL_law_228 : decode cL_law 228 = .ok (.iadd, 1) := by decide +kernel
theorem dL_law_229 : decode cL_law 229 = .ok (.iaload, 1) := by decide +kernel
theorem dL_law_230 : decode cL_law 230 = .ok (.aload_n 0, 1) := by decide +kernel
theorem dL_law_231 : decode cL_law 231 = .ok (.iload_n 3, 1) := by decide +kernel
theorem dL_law_232 : decode cL_law 232 = .ok (.iconst 2, 1) := by decide +kernel
theorem dL_law_233 : decode cL_law 233 = .ok (.iadd, 1) := by decide +kernel
theorem dL_law_234 : decode cL_law 234 = .ok (.iaload, 1) := by decide +kernel
theorem dL_law_235 : decode cL_law 235 = .ok (.invokevirtual 35, 3) := by decide +kernel
theorem dL_law_238 : decode cL_law 238 = .ok (.if_icmp .eq 625, 3) := by decide +kernel
theorem dL_law_241 : decode cL_law 241 = .ok (.iconst 0, 1) := by decide +kernel
theorem dL_law_242 : decode cL_law 242 = .ok (.ireturn, 1) := by decide +kernel
theorem dL_law_243 : decode cL_law 243 = .ok (.aload_n 1, 1) := by decide +kernel
theorem dL_law_244 : decode cL_law 244 = .ok (.aload_n 0, 1) := by decide +kernel
theorem dL_law_245 : decode cL_law 245 = .ok (.iload_n 3, 1) := by decide +kernel
theorem dL_law_246 : decode cL_law 246 = .ok (.iconst 1, 1) := by decide +kernel
theorem dL_law_247 : decode cL_law 247 = .ok (.iadd, 1) := by decide +kernel
theorem dL_law_248 : decode cL_law 248 = .ok (.iaload, 1) := by decide +kernel
theorem dL_law_249 : decode cL_law 249 = .ok (.aload_n 0, 1) := by decide +kernel
theorem dL_law_250 : decode cL_law 250 = .ok (.iload_n 3, 1) := by decide +kernel
theorem dL_law_251 : decode cL_law 251 = .ok (.iconst 2, 1) := by decide +kernel
theorem dL_law_252 : decode cL_law 252 = .ok (.iadd, 1) := by decide +kernel
theorem dL_law_253 : decode cL_law 253 = .ok (.iaload, 1) := by decide +kernel
theorem dL_law_254 : decode cL_law 254 = .ok (.invokevirtual 36, 3) := by decide +kernel
theorem dL_law_257 : decode cL_law 257 = .ok (.aload_n 2, 1) := by decide +kernel
theorem dL_law_258 : decode cL_law 258 = .ok (.aload_n 0, 1) := by decide +kernel
theorem dL_law_259 : decode cL_law 259 = .ok (.iload_n 3, 1) := by decide +kernel
theorem dL_law_260 : decode cL_law 260 = .ok (.iconst 1, 1) := by decide +kernel
theorem dL_law_261 : decode cL_law 261 = .ok (.iadd, 1) := by decide +kernel
theorem dL_law_262 : decode cL_law 262 = .ok (.iaload, 1) := by decide +kernel
theorem dL_law_263 : decode cL_law 263 = .ok (.aload_n 0, 1) := by decide +kernel
theorem dL_law_264 : decode cL_law 264 = .ok (.iload_n 3, 1) := by decide +kernel
theorem dL_law_265 : decode cL_law 265 = .ok (.iconst 2, 1) := by decide +kernel
theorem dL_law_266 : decode cL_law 266 = .ok (.iadd, 1) := by decide +kernel
theorem dL_law_267 : decode cL_law 267 = .ok (.iaload, 1) := by decide +kernel
theorem dL_law_268 : decode cL_law 268 = .ok (.invokevirtual 39, 3) := by decide +kernel
theorem dL_law_271 : decode cL_law 271 = .ok (.if_icmp .eq 592, 3) := by decide +kernel
theorem dL_law_274 : decode cL_law 274 = .ok (.iconst 0, 1) := by decide +kernel
theorem dL_law_275 : decode cL_law 275 = .ok (.ireturn, 1) := by decide +kernel
theorem dL_law_276 : decode cL_law 276 = .ok (.aload_n 1, 1) := by decide +kernel
theorem dL_law_277 : decode cL_law 277 = .ok (.aload_n 0, 1) := by decide +kernel
theorem dL_law_278 : decode cL_law 278 = .ok (.iload_n 3, 1) := by decide +kernel
theorem dL_law_279 : decode cL_law 279 = .ok (.iconst 1, 1) := by decide +kernel
theorem dL_law_280 : decode cL_law 280 = .ok (.iadd, 1) := by decide +kernel
theorem dL_law_281 : decode cL_law 281 = .ok (.iaload, 1) := by decide +kernel
theorem dL_law_282 : decode cL_law 282 = .ok (.invokevirtual 40, 3) := by decide +kernel
theorem dL_law_285 : decode cL_law 285 = .ok (.aload_n 2, 1) := by decide +kernel
theorem dL_law_286 : decode cL_law 286 = .ok (.aload_n 0, 1) := by decide +kernel
theorem dL_law_287 : decode cL_law 287 = .ok (.iload_n 3, 1) := by decide +kernel
theorem dL_law_288 : decode cL_law 288 = .ok (.iconst 1, 1) := by decide +kernel
theorem dL_law_289 : decode cL_law 289 = .ok (.iadd, 1) := by decide +kernel
theorem dL_law_290 : decode cL_law 290 = .ok (.iaload, 1) := by decide +kernel
theorem dL_law_291 : decode cL_law 291 = .ok (.invokevirtual 43, 3) := by decide +kernel
theorem dL_law_294 : decode cL_law 294 = .ok (.if_icmp .eq 569, 3) := by decide +kernel
theorem dL_law_297 : decode cL_law 297 = .ok (.iconst 0, 1) := by decide +kernel
theorem dL_law_298 : decode cL_law 298 = .ok (.ireturn, 1) := by decide +kernel
theorem dL_law_299 : decode cL_law 299 = .ok (.aload_n 1, 1) := by decide +kernel
theorem dL_law_300 : decode cL_law 300 = .ok (.aload_n 0, 1) := by decide +kernel
theorem dL_law_301 : decode cL_law 301 = .ok (.iload_n 3, 1) := by decide +kernel
theorem dL_law_302 : decode cL_law 302 = .ok (.iconst 1, 1) := by decide +kernel
theorem dL_law_303 : decode cL_law 303 = .ok (.iadd, 1) := by decide +kernel
theorem dL_law_304 : decode cL_law 304 = .ok (.iaload, 1) := by decide +kernel
theorem dL_law_305 : decode cL_law 305 = .ok (.aload_n 0, 1) := by decide +kernel
theorem dL_law_306 : decode cL_law 306 = .ok (.iload_n 3, 1) := by decide +kernel
theorem dL_law_307 : decode cL_law 307 = .ok (.iconst 2, 1) := by decide +kernel
theorem dL_law_308 : decode cL_law 308 = .ok (.iadd, 1) := by decide +kernel
theorem dL_law_309 : decode cL_law 309 = .ok (.iaload, 1) := by decide +kernel
theorem dL_law_310 : decode cL_law 310 = .ok (.aload_n 0, 1) := by decide +kernel
theorem dL_law_311 : decode cL_law 311 = .ok (.iload_n 3, 1) := by decide +kernel
theorem dL_law_312 : decode cL_law 312 = .ok (.iconst 3, 1) := by decide +kernel
theorem dL_law_313 : decode cL_law 313 = .ok (.iadd, 1) := by decide +kernel
theorem dL_law_314 : decode cL_law 314 = .ok (.iaload, 1) := by decide +kernel
theorem dL_law_315 : decode cL_law 315 = .ok (.invokevirtual 44, 3) := by decide +kernel
theorem dL_law_318 : decode cL_law 318 = .ok (.aload_n 2, 1) := by decide +kernel
theorem dL_law_319 : decode cL_law 319 = .ok (.aload_n 0, 1) := by decide +kernel
theorem dL_law_320 : decode cL_law 320 = .ok (.iload_n 3, 1) := by decide +kernel
theorem dL_law_321 : decode cL_law 321 = .ok (.iconst 1, 1) := by decide +kernel
theorem dL_law_322 : decode cL_law 322 = .ok (.iadd, 1) := by decide +kernel
theorem dL_law_323 : decode cL_law 323 = .ok (.iaload, 1) := by decide +kernel
theorem dL_law_324 : decode cL_law 324 = .ok (.aload_n 0, 1) := by decide +kernel
theorem dL_law_325 : decode cL_law 325 = .ok (.iload_n 3, 1) := by decide +kernel
theorem dL_law_326 : decode cL_law 326 = .ok (.iconst 2, 1) := by decide +kernel
theorem dL_law_327 : decode cL_law 327 = .ok (.iadd, 1) := by decide +kernel
theorem dL_law_328 : decode cL_law 328 = .ok (.iaload, 1) := by decide +kernel
theorem dL_law_329 : decode cL_law 329 = .ok (.aload_n 0, 1) := by decide +kernel
theorem dL_law_330 : decode cL_law 330 = .ok (.iload_n 3, 1) := by decide +kernel
theorem dL_law_331 : decode cL_law 331 = .ok (.iconst 3, 1) := by decide +kernel
theorem dL_law_332 : decode cL_law 332 = .ok (.iadd, 1) := by decide +kernel
theorem dL_law_333 : decode cL_law 333 = .ok (.iaload, 1) := by decide +kernel
theorem dL_law_334 : decode cL_law 334 = .ok (.invokevirtual 48, 3) := by decide +kernel
theorem dL_law_337 : decode cL_law 337 = .ok (.if_icmp .eq 526, 3) := by decide +kernel
theorem dL_law_340 : decode cL_law 340 = .ok (.iconst 0, 1) := by decide +kernel
theorem dL_law_341 : decode cL_law 341 = .ok (.ireturn, 1) := by decide +kernel
theorem dL_law_342 : decode cL_law 342 = .ok (.aload_n 1, 1) := by decide +kernel
theorem dL_law_343 : decode cL_law 343 = .ok (.aload_n 0, 1) := by decide +kernel
theorem dL_law_344 : decode cL_law 344 = .ok (.iload_n 3, 1) := by decide +kernel
theorem dL_law_345 : decode cL_law 345 = .ok (.iconst 1, 1) := by decide +kernel
theorem dL_law_346 : decode cL_law 346 = .ok (.iadd, 1) := by decide +kernel
theorem dL_law_347 : decode cL_law 347 = .ok (.iaload, 1) := by decide +kernel
theorem dL_law_348 : decode cL_law 348 = .ok (.aload_n 0, 1) := by decide +kernel
theorem dL_law_349 : decode cL_law 349 = .ok (.iload_n 3, 1) := by decide +kernel
theorem dL_law_350 : decode cL_law 350 = .ok (.iconst 2, 1) := by decide +kernel
theorem dL_law_351 : decode cL_law 351 = .ok (.iadd, 1) := by decide +kernel
theorem dL_law_352 : decode cL_law 352 = .ok (.iaload, 1) := by decide +kernel
theorem dL_law_353 : decode cL_law 353 = .ok (.invokevirtual 49, 3) := by decide +kernel
theorem dL_law_356 : decode cL_law 356 = .ok (.aload_n 2, 1) := by decide +kernel
theorem dL_law_357 : decode cL_law 357 = .ok (.aload_n 0, 1) := by decide +kernel
theorem dL_law_358 : decode cL_law 358 = .ok (.iload_n 3, 1) := by decide +kernel
theorem dL_law_359 : decode cL_law 359 = .ok (.iconst 1, 1) := by decide +kernel
theorem dL_law_360 : decode cL_law 360 = .ok (.iadd, 1) := by decide +kernel
theorem dL_law_361 : decode cL_law 361 = .ok (.iaload, 1) := by decide +kernel
theorem dL_law_362 : decode cL_law 362 = .ok (.aload_n 0, 1) := by decide +kernel
theorem dL_law_363 : decode cL_law 363 = .ok (.iload_n 3, 1) := by decide +kernel
theorem dL_law_364 : decode cL_law 364 = .ok (.iconst 2, 1) := by decide +kernel
theorem dL_law_365 : decode cL_law 365 = .ok (.iadd, 1) := by decide +kernel
theorem dL_law_366 : decode cL_law 366 = .ok (.iaload, 1) := by decide +kernel
theorem dL_law_367 : decode cL_law 367 = .ok (.invokevirtual 52, 3) := by decide +kernel
theorem dL_law_370 : decode cL_law 370 = .ok (.if_icmp .eq 493, 3) := by decide +kernel
theorem dL_law_373 : decode cL_law 373 = .ok (.iconst 0, 1) := by decide +kernel
theorem dL_law_374 : decode cL_law 374 = .ok (.ireturn, 1) := by decide +kernel
theorem dL_law_375 : decode cL_law 375 = .ok (.aload_n 1, 1) := by decide +kernel
theorem dL_law_376 : decode cL_law 376 = .ok (.aload_n 0, 1) := by decide +kernel
theorem dL_law_377 : decode cL_law 377 = .ok (.iload_n 3, 1) := by decide +kernel
theorem dL_law_378 : decode cL_law 378 = .ok (.iconst 1, 1) := by decide +kernel
theorem dL_law_379 : decode cL_law 379 = .ok (.iadd, 1) := by decide +kernel
theorem dL_law_380 : decode cL_law 380 = .ok (.iaload, 1) := by decide +kernel
theorem dL_law_381 : decode cL_law 381 = .ok (.aload_n 0, 1) := by decide +kernel
theorem dL_law_382 : decode cL_law 382 = .ok (.iload_n 3, 1) := by decide +kernel
theorem dL_law_383 : decode cL_law 383 = .ok (.iconst 2, 1) := by decide +kernel
theorem dL_law_384 : decode cL_law 384 = .ok (.iadd, 1) := by decide +kernel
theorem dL_law_385 : decode cL_law 385 = .ok (.iaload, 1) := by decide +kernel
theorem dL_law_386 : decode cL_law 386 = .ok (.aload_n 0, 1) := by decide +kernel
theorem dL_law_387 : decode cL_law 387 = .ok (.iload_n 3, 1) := by decide +kernel
theorem dL_law_388 : decode cL_law 388 = .ok (.iconst 3, 1) := by decide +kernel
theorem dL_law_389 : decode cL_law 389 = .ok (.iadd, 1) := by decide +kernel
theorem dL_law_390 : decode cL_law 390 = .ok (.iaload, 1) := by decide +kernel
theorem dL_law_391 : decode cL_law 391 = .ok (.invokevirtual 53, 3) := by decide +kernel
theorem dL_law_394 : decode cL_law 394 = .ok (.aload_n 2, 1) := by decide +kernel
theorem dL_law_395 : decode cL_law 395 = .ok (.aload_n 0, 1) := by decide +kernel
theorem dL_law_396 : decode cL_law 396 = .ok (.iload_n 3, 1) := by decide +kernel
theorem dL_law_397 : decode cL_law 397 = .ok (.iconst 1, 1) := by decide +kernel
theorem dL_law_398 : decode cL_law 398 = .ok (.iadd, 1) := by decide +kernel
theorem dL_law_399 : decode cL_law 399 = .ok (.iaload, 1) := by decide +kernel
theorem dL_law_400 : decode cL_law 400 = .ok (.aload_n 0, 1) := by decide +kernel
theorem dL_law_401 : decode cL_law 401 = .ok (.iload_n 3, 1) := by decide +kernel
theorem dL_law_402 : decode cL_law 402 = .ok (.iconst 2, 1) := by decide +kernel
theorem dL_law_403 : decode cL_law 403 = .ok (.iadd, 1) := by decide +kernel
theorem dL_law_404 : decode cL_law 404 = .ok (.iaload, 1) := by decide +kernel
theorem dL_law_405 : decode cL_law 405 = .ok (.aload_n 0, 1) := by decide +kernel
theorem dL_law_406 : decode cL_law 406 = .ok (.iload_n 3, 1) := by decide +kernel
theorem dL_law_407 : decode cL_law 407 = .ok (.iconst 3, 1) := by decide +kernel
theorem dL_law_408 : decode cL_law 408 = .ok (.iadd, 1) := by decide +kernel
theorem dL_law_409 : decode cL_law 409 = .ok (.iaload, 1) := by decide +kernel
theorem dL_law_410 : decode cL_law 410 = .ok (.invokevirtual 56, 3) := by decide +kernel
theorem dL_law_413 : decode cL_law 413 = .ok (.if_icmp .eq 450, 3) := by decide +kernel
theorem dL_law_416 : decode cL_law 416 = .ok (.iconst 0, 1) := by decide +kernel
theorem dL_law_417 : decode cL_law 417 = .ok (.ireturn, 1) := by decide +kernel
theorem dL_law_418 : decode cL_law 418 = .ok (.aload_n 1, 1) := by decide +kernel
theorem dL_law_419 : decode cL_law 419 = .ok (.invokevirtual 57, 3) := by decide +kernel
theorem dL_law_422 : decode cL_law 422 = .ok (.aload_n 2, 1) := by decide +kernel
theorem dL_law_423 : decode cL_law 423 = .ok (.invokevirtual 60, 3) := by decide +kernel
theorem dL_law_426 : decode cL_law 426 = .ok (.if_icmp .eq 437, 3) := by decide +kernel
theorem dL_law_429 : decode cL_law 429 = .ok (.iconst 0, 1) := by decide +kernel
theorem dL_law_430 : decode cL_law 430 = .ok (.ireturn, 1) := by decide +kernel
theorem dL_law_431 : decode cL_law 431 = .ok (.aload_n 1, 1) := by decide +kernel
theorem dL_law_432 : decode cL_law 432 = .ok (.aload_n 0, 1) := by decide +kernel
theorem dL_law_433 : decode cL_law 433 = .ok (.iload_n 3, 1) := by decide +kernel
theorem dL_law_434 : decode cL_law 434 = .ok (.iconst 1, 1) := by decide +kernel
theorem dL_law_435 : decode cL_law 435 = .ok (.iadd, 1) := by decide +kernel
theorem dL_law_436 : decode cL_law 436 = .ok (.iaload, 1) := by decide +kernel
theorem dL_law_437 : decode cL_law 437 = .ok (.aload_n 0, 1) := by decide +kernel
theorem dL_law_438 : decode cL_law 438 = .ok (.iload_n 3, 1) := by decide +kernel
theorem dL_law_439 : decode cL_law 439 = .ok (.iconst 2, 1) := by decide +kernel
theorem dL_law_440 : decode cL_law 440 = .ok (.iadd, 1) := by decide +kernel
theorem dL_law_441 : decode cL_law 441 = .ok (.iaload, 1) := by decide +kernel
theorem dL_law_442 : decode cL_law 442 = .ok (.aload_n 0, 1) := by decide +kernel
theorem dL_law_443 : decode cL_law 443 = .ok (.iload_n 3, 1) := by decide +kernel
theorem dL_law_444 : decode cL_law 444 = .ok (.iconst 3, 1) := by decide +kernel
theorem dL_law_445 : decode cL_law 445 = .ok (.iadd, 1) := by decide +kernel
theorem dL_law_446 : decode cL_law 446 = .ok (.iaload, 1) := by decide +kernel
theorem dL_law_447 : decode cL_law 447 = .ok (.invokevirtual 61, 3) := by decide +kernel
theorem dL_law_450 : decode cL_law 450 = .ok (.aload_n 2, 1) := by decide +kernel
theorem dL_law_451 : decode cL_law 451 = .ok (.aload_n 0, 1) := by decide +kernel
theorem dL_law_452 : decode cL_law 452 = .ok (.iload_n 3, 1) := by decide +kernel
theorem dL_law_453 : decode cL_law 453 = .ok (.iconst 1, 1) := by decide +kernel
theorem dL_law_454 : decode cL_law 454 = .ok (.iadd, 1) := by decide +kernel
theorem dL_law_455 : decode cL_law 455 = .ok (.iaload, 1) := by decide +kernel
theorem dL_law_456 : decode cL_law 456 = .ok (.aload_n 0, 1) := by decide +kernel
theorem dL_law_457 : decode cL_law 457 = .ok (.iload_n 3, 1) := by decide +kernel
theorem dL_law_458 : decode cL_law 458 = .ok (.iconst 2, 1) := by decide +kernel
theorem dL_law_459 : decode cL_law 459 = .ok (.iadd, 1) := by decide +kernel
theorem dL_law_460 : decode cL_law 460 = .ok (.iaload, 1) := by decide +kernel
theorem dL_law_461 : decode cL_law 461 = .ok (.aload_n 0, 1) := by decide +kernel
theorem dL_law_462 : decode cL_law 462 = .ok (.iload_n 3, 1) := by decide +kernel
theorem dL_law_463 : decode cL_law 463 = .ok (.iconst 3, 1) := by decide +kernel
theorem dL_law_464 : decode cL_law 464 = .ok (.iadd, 1) := by decide +kernel
theorem dL_law_465 : decode cL_law 465 = .ok (.iaload, 1) := by decide +kernel
theorem dL_law_466 : decode cL_law 466 = .ok (.invokevirtual 64, 3) := by decide +kernel
theorem dL_law_469 : decode cL_law 469 = .ok (.if_icmp .eq 394, 3) := by decide +kernel
theorem dL_law_472 : decode cL_law 472 = .ok (.iconst 0, 1) := by decide +kernel
theorem dL_law_473 : decode cL_law 473 = .ok (.ireturn, 1) := by decide +kernel
theorem dL_law_474 : decode cL_law 474 = .ok (.aload_n 1, 1) := by decide +kernel
theorem dL_law_475 : decode cL_law 475 = .ok (.aload_n 0, 1) := by decide +kernel
theorem dL_law_476 : decode cL_law 476 = .ok (.iload_n 3, 1) := by decide +kernel
theorem dL_law_477 : decode cL_law 477 = .ok (.iconst 1, 1) := by decide +kernel
theorem dL_law_478 : decode cL_law 478 = .ok (.iadd, 1) := by decide +kernel
theorem dL_law_479 : decode cL_law 479 = .ok (.iaload, 1) := by decide +kernel
theorem dL_law_480 : decode cL_law 480 = .ok (.aload_n 0, 1) := by decide +kernel
theorem dL_law_481 : decode cL_law 481 = .ok (.iload_n 3, 1) := by decide +kernel
theorem dL_law_482 : decode cL_law 482 = .ok (.iconst 2, 1) := by decide +kernel
theorem dL_law_483 : decode cL_law 483 = .ok (.iadd, 1) := by decide +kernel
theorem dL_law_484 : decode cL_law 484 = .ok (.iaload, 1) := by decide +kernel
theorem dL_law_485 : decode cL_law 485 = .ok (.invokevirtual 65, 3) := by decide +kernel
theorem dL_law_488 : decode cL_law 488 = .ok (.aload_n 2, 1) := by decide +kernel
theorem dL_law_489 : decode cL_law 489 = .ok (.aload_n 0, 1) := by decide +kernel
theorem dL_law_490 : decode cL_law 490 = .ok (.iload_n 3, 1) := by decide +kernel
theorem dL_law_491 : decode cL_law 491 = .ok (.iconst 1, 1) := by decide +kernel
theorem dL_law_492 : decode cL_law 492 = .ok (.iadd, 1) := by decide +kernel
theorem dL_law_493 : decode cL_law 493 = .ok (.iaload, 1) := by decide +kernel
theorem dL_law_494 : decode cL_law 494 = .ok (.aload_n 0, 1) := by decide +kernel
theorem dL_law_495 : decode cL_law 495 = .ok (.iload_n 3, 1) := by decide +kernel
theorem dL_law_496 : decode cL_law 496 = .ok (.iconst 2, 1) := by decide +kernel
theorem dL_law_497 : decode cL_law 497 = .ok (.iadd, 1) := by decide +kernel
theorem dL_law_498 : decode cL_law 498 = .ok (.iaload, 1) := by decide +kernel
theorem dL_law_499 : decode cL_law 499 = .ok (.invokevirtual 68, 3) := by decide +kernel
theorem dL_law_502 : decode cL_law 502 = .ok (.if_icmp .eq 361, 3) := by decide +kernel
theorem dL_law_505 : decode cL_law 505 = .ok (.iconst 0, 1) := by decide +kernel
theorem dL_law_506 : decode cL_law 506 = .ok (.ireturn, 1) := by decide +kernel
theorem dL_law_507 : decode cL_law 507 = .ok (.aload_n 1, 1) := by decide +kernel
theorem dL_law_508 : decode cL_law 508 = .ok (.invokevirtual 69, 3) := by decide +kernel
theorem dL_law_511 : decode cL_law 511 = .ok (.aload_n 2, 1) := by decide +kernel
theorem dL_law_512 : decode cL_law 512 = .ok (.invokevirtual 72, 3) := by decide +kernel
theorem dL_law_515 : decode cL_law 515 = .ok (.if_icmp .eq 348, 3) := by decide +kernel
theorem dL_law_518 : decode cL_law 518 = .ok (.iconst 0, 1) := by decide +kernel
theorem dL_law_519 : decode cL_law 519 = .ok (.ireturn, 1) := by decide +kernel
theorem dL_law_520 : decode cL_law 520 = .ok (.aload_n 1, 1) := by decide +kernel
theorem dL_law_521 : decode cL_law 521 = .ok (.aload_n 0, 1) := by decide +kernel
theorem dL_law_522 : decode cL_law 522 = .ok (.iload_n 3, 1) := by decide +kernel
theorem dL_law_523 : decode cL_law 523 = .ok (.iconst 1, 1) := by decide +kernel
theorem dL_law_524 : decode cL_law 524 = .ok (.iadd, 1) := by decide +kernel
theorem dL_law_525 : decode cL_law 525 = .ok (.iaload, 1) := by decide +kernel
theorem dL_law_526 : decode cL_law 526 = .ok (.invokevirtual 73, 3) := by decide +kernel
theorem dL_law_529 : decode cL_law 529 = .ok (.aload_n 2, 1) := by decide +kernel
theorem dL_law_530 : decode cL_law 530 = .ok (.aload_n 0, 1) := by decide +kernel
theorem dL_law_531 : decode cL_law 531 = .ok (.iload_n 3, 1) := by decide +kernel
theorem dL_law_532 : decode cL_law 532 = .ok (.iconst 1, 1) := by decide +kernel
theorem dL_law_533 : decode cL_law 533 = .ok (.iadd, 1) := by decide +kernel
theorem dL_law_534 : decode cL_law 534 = .ok (.iaload, 1) := by decide +kernel
theorem dL_law_535 : decode cL_law 535 = .ok (.invokevirtual 76, 3) := by decide +kernel
theorem dL_law_538 : decode cL_law 538 = .ok (.if_icmp .eq 325, 3) := by decide +kernel
theorem dL_law_541 : decode cL_law 541 = .ok (.iconst 0, 1) := by decide +kernel
theorem dL_law_542 : decode cL_law 542 = .ok (.ireturn, 1) := by decide +kernel
theorem dL_law_543 : decode cL_law 543 = .ok (.aload_n 1, 1) := by decide +kernel
theorem dL_law_544 : decode cL_law 544 = .ok (.aload_n 0, 1) := by decide +kernel
theorem dL_law_545 : decode cL_law 545 = .ok (.iload_n 3, 1) := by decide +kernel
theorem dL_law_546 : decode cL_law 546 = .ok (.iconst 1, 1) := by decide +kernel
theorem dL_law_547 : decode cL_law 547 = .ok (.iadd, 1) := by decide +kernel
theorem dL_law_548 : decode cL_law 548 = .ok (.iaload, 1) := by decide +kernel
theorem dL_law_549 : decode cL_law 549 = .ok (.invokevirtual 77, 3) := by decide +kernel
theorem dL_law_552 : decode cL_law 552 = .ok (.aload_n 2, 1) := by decide +kernel
theorem dL_law_553 : decode cL_law 553 = .ok (.aload_n 0, 1) := by decide +kernel
theorem dL_law_554 : decode cL_law 554 = .ok (.iload_n 3, 1) := by decide +kernel
theorem dL_law_555 : decode cL_law 555 = .ok (.iconst 1, 1) := by decide +kernel
theorem dL_law_556 : decode cL_law 556 = .ok (.iadd, 1) := by decide +kernel
theorem dL_law_557 : decode cL_law 557 = .ok (.iaload, 1) := by decide +kernel
theorem dL_law_558 : decode cL_law 558 = .ok (.invokevirtual 80, 3) := by decide +kernel
theorem dL_law_561 : decode cL_law 561 = .ok (.if_icmp .eq 302, 3) := by decide +kernel
theorem dL_law_564 : decode cL_law 564 = .ok (.iconst 0, 1) := by decide +kernel
theorem dL_law_565 : decode cL_law 565 = .ok (.ireturn, 1) := by decide +kernel
theorem dL_law_566 : decode cL_law 566 = .ok (.aload_n 1, 1) := by decide +kernel
theorem dL_law_567 : decode cL_law 567 = .ok (.aload_n 0, 1) := by decide +kernel
theorem dL_law_568 : decode cL_law 568 = .ok (.iload_n 3, 1) := by decide +kernel
theorem dL_law_569 : decode cL_law 569 = .ok (.iconst 1, 1) := by decide +kernel
theorem dL_law_570 : decode cL_law 570 = .ok (.iadd, 1) := by decide +kernel
theorem dL_law_571 : decode cL_law 571 = .ok (.iaload, 1) := by decide +kernel
theorem dL_law_572 : decode cL_law 572 = .ok (.aload_n 0, 1) := by decide +kernel
theorem dL_law_573 : decode cL_law 573 = .ok (.iload_n 3, 1) := by decide +kernel
theorem dL_law_574 : decode cL_law 574 = .ok (.iconst 2, 1) := by decide +kernel
theorem dL_law_575 : decode cL_law 575 = .ok (.iadd, 1) := by decide +kernel
theorem dL_law_576 : decode cL_law 576 = .ok (.iaload, 1) := by decide +kernel
theorem dL_law_577 : decode cL_law 577 = .ok (.aload_n 0, 1) := by decide +kernel
theorem dL_law_578 : decode cL_law 578 = .ok (.iload_n 3, 1) := by decide +kernel
theorem dL_law_579 : decode cL_law 579 = .ok (.iconst 3, 1) := by decide +kernel
theorem dL_law_580 : decode cL_law 580 = .ok (.iadd, 1) := by decide +kernel
theorem dL_law_581 : decode cL_law 581 = .ok (.iaload, 1) := by decide +kernel
theorem dL_law_582 : decode cL_law 582 = .ok (.invokevirtual 81, 3) := by decide +kernel
theorem dL_law_585 : decode cL_law 585 = .ok (.aload_n 2, 1) := by decide +kernel
theorem dL_law_586 : decode cL_law 586 = .ok (.aload_n 0, 1) := by decide +kernel
theorem dL_law_587 : decode cL_law 587 = .ok (.iload_n 3, 1) := by decide +kernel
theorem dL_law_588 : decode cL_law 588 = .ok (.iconst 1, 1) := by decide +kernel
theorem dL_law_589 : decode cL_law 589 = .ok (.iadd, 1) := by decide +kernel
theorem dL_law_590 : decode cL_law 590 = .ok (.iaload, 1) := by decide +kernel
theorem dL_law_591 : decode cL_law 591 = .ok (.aload_n 0, 1) := by decide +kernel
theorem dL_law_592 : decode cL_law 592 = .ok (.iload_n 3, 1) := by decide +kernel
theorem dL_law_593 : decode cL_law 593 = .ok (.iconst 2, 1) := by decide +kernel
theorem dL_law_594 : decode cL_law 594 = .ok (.iadd, 1) := by decide +kernel
theorem dL_law_595 : decode cL_law 595 = .ok (.iaload, 1) := by decide +kernel
theorem dL_law_596 : decode cL_law 596 = .ok (.aload_n 0, 1) := by decide +kernel
theorem dL_law_597 : decode cL_law 597 = .ok (.iload_n 3, 1) := by decide +kernel
theorem dL_law_598 : decode cL_law 598 = .ok (.iconst 3, 1) := by decide +kernel
theorem dL_law_599 : decode cL_law 599 = .ok (.iadd, 1) := by decide +kernel
theorem dL_law_600 : decode cL_law 600 = .ok (.iaload, 1) := by decide +kernel
theorem dL_law_601 : decode cL_law 601 = .ok (.invokevirtual 84, 3) := by decide +kernel
theorem dL_law_604 : decode cL_law 604 = .ok (.if_icmp .eq 259, 3) := by decide +kernel
theorem dL_law_607 : decode cL_law 607 = .ok (.iconst 0, 1) := by decide +kernel
theorem dL_law_608 : decode cL_law 608 = .ok (.ireturn, 1) := by decide +kernel
theorem dL_law_609 : decode cL_law 609 = .ok (.aload_n 1, 1) := by decide +kernel
theorem dL_law_610 : decode cL_law 610 = .ok (.aload_n 0, 1) := by decide +kernel
theorem dL_law_611 : decode cL_law 611 = .ok (.iload_n 3, 1) := by decide +kernel
theorem dL_law_612 : decode cL_law 612 = .ok (.iconst 1, 1) := by decide +kernel
theorem dL_law_613 : decode cL_law 613 = .ok (.iadd, 1) := by decide +kernel
theorem dL_law_614 : decode cL_law 614 = .ok (.iaload, 1) := by decide +kernel
theorem dL_law_615 : decode cL_law 615 = .ok (.aload_n 0, 1) := by decide +kernel
theorem dL_law_616 : decode cL_law 616 = .ok (.iload_n 3, 1) := by decide +kernel
theorem dL_law_617 : decode cL_law 617 = .ok (.iconst 2, 1) := by decide +kernel
theorem dL_law_618 : decode cL_law 618 = .ok (.iadd, 1) := by decide +kernel
theorem dL_law_619 : decode cL_law 619 = .ok (.iaload, 1) := by decide +kernel
theorem dL_law_620 : decode cL_law 620 = .ok (.invokevirtual 85, 3) := by decide +kernel
theorem dL_law_623 : decode cL_law 623 = .ok (.aload_n 2, 1) := by decide +kernel
theorem dL_law_624 : decode cL_law 624 = .ok (.aload_n 0, 1) := by decide +kernel
theorem dL_law_625 : decode cL_law 625 = .ok (.iload_n 3, 1) := by decide +kernel
theorem dL_law_626 : decode cL_law 626 = .ok (.iconst 1, 1) := by decide +kernel
theorem dL_law_627 : decode cL_law 627 = .ok (.iadd, 1) := by decide +kernel
theorem dL_law_628 : decode cL_law 628 = .ok (.iaload, 1) := by decide +kernel
theorem dL_law_629 : decode cL_law 629 = .ok (.aload_n 0, 1) := by decide +kernel
theorem dL_law_630 : decode cL_law 630 = .ok (.iload_n 3, 1) := by decide +kernel
theorem dL_law_631 : decode cL_law 631 = .ok (.iconst 2, 1) := by decide +kernel
theorem dL_law_632 : decode cL_law 632 = .ok (.iadd, 1) := by decide +kernel
theorem dL_law_633 : decode cL_law 633 = .ok (.iaload, 1) := by decide +kernel
theorem dL_law_634 : decode cL_law 634 = .ok (.invokevirtual 88, 3) := by decide +kernel
theorem dL_law_637 : decode cL_law 637 = .ok (.if_icmp .eq 226, 3) := by decide +kernel
theorem dL_law_640 : decode cL_law 640 = .ok (.iconst 0, 1) := by decide +kernel
theorem dL_law_641 : decode cL_law 641 = .ok (.ireturn, 1) := by decide +kernel
theorem dL_law_642 : decode cL_law 642 = .ok (.aload_n 1, 1) := by decide +kernel
theorem dL_law_643 : decode cL_law 643 = .ok (.aload_n 0, 1) := by decide +kernel
theorem dL_law_644 : decode cL_law 644 = .ok (.iload_n 3, 1) := by decide +kernel
theorem dL_law_645 : decode cL_law 645 = .ok (.iconst 1, 1) := by decide +kernel
theorem dL_law_646 : decode cL_law 646 = .ok (.iadd, 1) := by decide +kernel
theorem dL_law_647 : decode cL_law 647 = .ok (.iaload, 1) := by decide +kernel
theorem dL_law_648 : decode cL_law 648 = .ok (.aload_n 0, 1) := by decide +kernel
theorem dL_law_649 : decode cL_law 649 = .ok (.iload_n 3, 1) := by decide +kernel
theorem dL_law_650 : decode cL_law 650 = .ok (.iconst 2, 1) := by decide +kernel
theorem dL_law_651 : decode cL_law 651 = .ok (.iadd, 1) := by decide +kernel
theorem dL_law_652 : decode cL_law 652 = .ok (.iaload, 1) := by decide +kernel
theorem dL_law_653 : decode cL_law 653 = .ok (.invokevirtual 89, 3) := by decide +kernel
theorem dL_law_656 : decode cL_law 656 = .ok (.aload_n 2, 1) := by decide +kernel
theorem dL_law_657 : decode cL_law 657 = .ok (.aload_n 0, 1) := by decide +kernel
theorem dL_law_658 : decode cL_law 658 = .ok (.iload_n 3, 1) := by decide +kernel
theorem dL_law_659 : decode cL_law 659 = .ok (.iconst 1, 1) := by decide +kernel
theorem dL_law_660 : decode cL_law 660 = .ok (.iadd, 1) := by decide +kernel
theorem dL_law_661 : decode cL_law 661 = .ok (.iaload, 1) := by decide +kernel
theorem dL_law_662 : decode cL_law 662 = .ok (.aload_n 0, 1) := by decide +kernel
theorem dL_law_663 : decode cL_law 663 = .ok (.iload_n 3, 1) := by decide +kernel
theorem dL_law_664 : decode cL_law 664 = .ok (.iconst 2, 1) := by decide +kernel
theorem dL_law_665 : decode cL_law 665 = .ok (.iadd, 1) := by decide +kernel
theorem dL_law_666 : decode cL_law 666 = .ok (.iaload, 1) := by decide +kernel
theorem dL_law_667 : decode cL_law 667 = .ok (.invokevirtual 92, 3) := by decide +kernel
theorem dL_law_670 : decode cL_law 670 = .ok (.if_icmp .eq 193, 3) := by decide +kernel
theorem dL_law_673 : decode cL_law 673 = .ok (.iconst 0, 1) := by decide +kernel
theorem dL_law_674 : decode cL_law 674 = .ok (.ireturn, 1) := by decide +kernel
theorem dL_law_675 : decode cL_law 675 = .ok (.aload_n 1, 1) := by decide +kernel
theorem dL_law_676 : decode cL_law 676 = .ok (.aload_n 0, 1) := by decide +kernel
theorem dL_law_677 : decode cL_law 677 = .ok (.iload_n 3, 1) := by decide +kernel
theorem dL_law_678 : decode cL_law 678 = .ok (.iconst 1, 1) := by decide +kernel
theorem dL_law_679 : decode cL_law 679 = .ok (.iadd, 1) := by decide +kernel
theorem dL_law_680 : decode cL_law 680 = .ok (.iaload, 1) := by decide +kernel
theorem dL_law_681 : decode cL_law 681 = .ok (.aload_n 0, 1) := by decide +kernel
theorem dL_law_682 : decode cL_law 682 = .ok (.iload_n 3, 1) := by decide +kernel
theorem dL_law_683 : decode cL_law 683 = .ok (.iconst 2, 1) := by decide +kernel
theorem dL_law_684 : decode cL_law 684 = .ok (.iadd, 1) := by decide +kernel
theorem dL_law_685 : decode cL_law 685 = .ok (.iaload, 1) := by decide +kernel
theorem dL_law_686 : decode cL_law 686 = .ok (.aload_n 0, 1) := by decide +kernel
theorem dL_law_687 : decode cL_law 687 = .ok (.iload_n 3, 1) := by decide +kernel
theorem dL_law_688 : decode cL_law 688 = .ok (.iconst 3, 1) := by decide +kernel
theorem dL_law_689 : decode cL_law 689 = .ok (.iadd, 1) := by decide +kernel
theorem dL_law_690 : decode cL_law 690 = .ok (.iaload, 1) := by decide +kernel
theorem dL_law_691 : decode cL_law 691 = .ok (.invokevirtual 93, 3) := by decide +kernel
theorem dL_law_694 : decode cL_law 694 = .ok (.aload_n 2, 1) := by decide +kernel
theorem dL_law_695 : decode cL_law 695 = .ok (.aload_n 0, 1) := by decide +kernel
theorem dL_law_696 : decode cL_law 696 = .ok (.iload_n 3, 1) := by decide +kernel
theorem dL_law_697 : decode cL_law 697 = .ok (.iconst 1, 1) := by decide +kernel
theorem dL_law_698 : decode cL_law 698 = .ok (.iadd, 1) := by decide +kernel
theorem dL_law_699 : decode cL_law 699 = .ok (.iaload, 1) := by decide +kernel
theorem dL_law_700 : decode cL_law 700 = .ok (.aload_n 0, 1) := by decide +kernel
theorem dL_law_701 : decode cL_law 701 = .ok (.iload_n 3, 1) := by decide +kernel
theorem dL_law_702 : decode cL_law 702 = .ok (.iconst 2, 1) := by decide +kernel
theorem dL_law_703 : decode cL_law 703 = .ok (.iadd, 1) := by decide +kernel
theorem dL_law_704 : decode cL_law 704 = .ok (.iaload, 1) := by decide +kernel
theorem dL_law_705 : decode cL_law 705 = .ok (.aload_n 0, 1) := by decide +kernel
theorem dL_law_706 : decode cL_law 706 = .ok (.iload_n 3, 1) := by decide +kernel
theorem dL_law_707 : decode cL_law 707 = .ok (.iconst 3, 1) := by decide +kernel
theorem dL_law_708 : decode cL_law 708 = .ok (.iadd, 1) := by decide +kernel
theorem dL_law_709 : decode cL_law 709 = .ok (.iaload, 1) := by decide +kernel
theorem dL_law_710 : decode cL_law 710 = .ok (.invokevirtual 96, 3) := by decide +kernel
theorem dL_law_713 : decode cL_law 713 = .ok (.if_icmp .eq 150, 3) := by decide +kernel
theorem dL_law_716 : decode cL_law 716 = .ok (.iconst 0, 1) := by decide +kernel
theorem dL_law_717 : decode cL_law 717 = .ok (.ireturn, 1) := by decide +kernel
theorem dL_law_718 : decode cL_law 718 = .ok (.aload_n 1, 1) := by decide +kernel
theorem dL_law_719 : decode cL_law 719 = .ok (.aload_n 0, 1) := by decide +kernel
theorem dL_law_720 : decode cL_law 720 = .ok (.iload_n 3, 1) := by decide +kernel
theorem dL_law_721 : decode cL_law 721 = .ok (.iconst 1, 1) := by decide +kernel
theorem dL_law_722 : decode cL_law 722 = .ok (.iadd, 1) := by decide +kernel
theorem dL_law_723 : decode cL_law 723 = .ok (.iaload, 1) := by decide +kernel
theorem dL_law_724 : decode cL_law 724 = .ok (.aload_n 0, 1) := by decide +kernel
theorem dL_law_725 : decode cL_law 725 = .ok (.iload_n 3, 1) := by decide +kernel
theorem dL_law_726 : decode cL_law 726 = .ok (.iconst 2, 1) := by decide +kernel
theorem dL_law_727 : decode cL_law 727 = .ok (.iadd, 1) := by decide +kernel
theorem dL_law_728 : decode cL_law 728 = .ok (.iaload, 1) := by decide +kernel
theorem dL_law_729 : decode cL_law 729 = .ok (.aload_n 0, 1) := by decide +kernel
theorem dL_law_730 : decode cL_law 730 = .ok (.iload_n 3, 1) := by decide +kernel
theorem dL_law_731 : decode cL_law 731 = .ok (.iconst 3, 1) := by decide +kernel
theorem dL_law_732 : decode cL_law 732 = .ok (.iadd, 1) := by decide +kernel
theorem dL_law_733 : decode cL_law 733 = .ok (.iaload, 1) := by decide +kernel
theorem dL_law_734 : decode cL_law 734 = .ok (.invokevirtual 97, 3) := by decide +kernel
theorem dL_law_737 : decode cL_law 737 = .ok (.aload_n 2, 1) := by decide +kernel
theorem dL_law_738 : decode cL_law 738 = .ok (.aload_n 0, 1) := by decide +kernel
theorem dL_law_739 : decode cL_law 739 = .ok (.iload_n 3, 1) := by decide +kernel
theorem dL_law_740 : decode cL_law 740 = .ok (.iconst 1, 1) := by decide +kernel
theorem dL_law_741 : decode cL_law 741 = .ok (.iadd, 1) := by decide +kernel
theorem dL_law_742 : decode cL_law 742 = .ok (.iaload, 1) := by decide +kernel
theorem dL_law_743 : decode cL_law 743 = .ok (.aload_n 0, 1) := by decide +kernel
theorem dL_law_744 : decode cL_law 744 = .ok (.iload_n 3, 1) := by decide +kernel
theorem dL_law_745 : decode cL_law 745 = .ok (.iconst 2, 1) := by decide +kernel
theorem dL_law_746 : decode cL_law 746 = .ok (.iadd, 1) := by decide +kernel
theorem dL_law_747 : decode cL_law 747 = .ok (.iaload, 1) := by decide +kernel
theorem dL_law_748 : decode cL_law 748 = .ok (.aload_n 0, 1) := by decide +kernel
theorem dL_law_749 : decode cL_law 749 = .ok (.iload_n 3, 1) := by decide +kernel
theorem dL_law_750 : decode cL_law 750 = .ok (.iconst 3, 1) := by decide +kernel
theorem dL_law_751 : decode cL_law 751 = .ok (.iadd, 1) := by decide +kernel
theorem dL_law_752 : decode cL_law 752 = .ok (.iaload, 1) := by decide +kernel
theorem dL_law_753 : decode cL_law 753 = .ok (.invokevirtual 100, 3) := by decide +kernel
theorem dL_law_756 : decode cL_law 756 = .ok (.if_icmp .eq 107, 3) := by decide +kernel
theorem dL_law_759 : decode cL_law 759 = .ok (.iconst 0, 1) := by decide +kernel
theorem dL_law_760 : decode cL_law 760 = .ok (.ireturn, 1) := by decide +kernel
theorem dL_law_761 : decode cL_law 761 = .ok (.aload_n 1, 1) := by decide +kernel
theorem dL_law_762 : decode cL_law 762 = .ok (.invokevirtual 101, 3) := by decide +kernel
theorem dL_law_765 : decode cL_law 765 = .ok (.aload_n 2, 1) := by decide +kernel
theorem dL_law_766 : decode cL_law 766 = .ok (.invokevirtual 104, 3) := by decide +kernel
theorem dL_law_769 : decode cL_law 769 = .ok (.if_icmp .eq 94, 3) := by decide +kernel
theorem dL_law_772 : decode cL_law 772 = .ok (.iconst 0, 1) := by decide +kernel
theorem dL_law_773 : decode cL_law 773 = .ok (.ireturn, 1) := by decide +kernel
theorem dL_law_774 : decode cL_law 774 = .ok (.aload_n 1, 1) := by decide +kernel
theorem dL_law_775 : decode cL_law 775 = .ok (.invokevirtual 105, 3) := by decide +kernel
theorem dL_law_778 : decode cL_law 778 = .ok (.aload_n 2, 1) := by decide +kernel
theorem dL_law_779 : decode cL_law 779 = .ok (.invokevirtual 108, 3) := by decide +kernel
theorem dL_law_782 : decode cL_law 782 = .ok (.if_icmp .eq 81, 3) := by decide +kernel
theorem dL_law_785 : decode cL_law 785 = .ok (.iconst 0, 1) := by decide +kernel
theorem dL_law_786 : decode cL_law 786 = .ok (.ireturn, 1) := by decide +kernel
theorem dL_law_787 : decode cL_law 787 = .ok (.aload_n 1, 1) := by decide +kernel
theorem dL_law_788 : decode cL_law 788 = .ok (.aload_n 0, 1) := by decide +kernel
theorem dL_law_789 : decode cL_law 789 = .ok (.iload_n 3, 1) := by decide +kernel
theorem dL_law_790 : decode cL_law 790 = .ok (.iconst 1, 1) := by decide +kernel
theorem dL_law_791 : decode cL_law 791 = .ok (.iadd, 1) := by decide +kernel
theorem dL_law_792 : decode cL_law 792 = .ok (.iaload, 1) := by decide +kernel
theorem dL_law_793 : decode cL_law 793 = .ok (.aload_n 0, 1) := by decide +kernel
theorem dL_law_794 : decode cL_law 794 = .ok (.iload_n 3, 1) := by decide +kernel
theorem dL_law_795 : decode cL_law 795 = .ok (.iconst 2, 1) := by decide +kernel
theorem dL_law_796 : decode cL_law 796 = .ok (.iadd, 1) := by decide +kernel
theorem dL_law_797 : decode cL_law 797 = .ok (.iaload, 1) := by decide +kernel
theorem dL_law_798 : decode cL_law 798 = .ok (.aload_n 0, 1) := by decide +kernel
theorem dL_law_799 : decode cL_law 799 = .ok (.iload_n 3, 1) := by decide +kernel
theorem dL_law_800 : decode cL_law 800 = .ok (.iconst 3, 1) := by decide +kernel
theorem dL_law_801 : decode cL_law 801 = .ok (.iadd, 1) := by decide +kernel
theorem dL_law_802 : decode cL_law 802 = .ok (.iaload, 1) := by decide +kernel
theorem dL_law_803 : decode cL_law 803 = .ok (.aload_n 0, 1) := by decide +kernel
theorem dL_law_804 : decode cL_law 804 = .ok (.iload_n 3, 1) := by decide +kernel
theorem dL_law_805 : decode cL_law 805 = .ok (.iconst 4, 1) := by decide +kernel
theorem dL_law_806 : decode cL_law 806 = .ok (.iadd, 1) := by decide +kernel
theorem dL_law_807 : decode cL_law 807 = .ok (.iaload, 1) := by decide +kernel
theorem dL_law_808 : decode cL_law 808 = .ok (.invokevirtual 109, 3) := by decide +kernel
theorem dL_law_811 : decode cL_law 811 = .ok (.aload_n 2, 1) := by decide +kernel
theorem dL_law_812 : decode cL_law 812 = .ok (.aload_n 0, 1) := by decide +kernel
theorem dL_law_813 : decode cL_law 813 = .ok (.iload_n 3, 1) := by decide +kernel
theorem dL_law_814 : decode cL_law 814 = .ok (.iconst 1, 1) := by decide +kernel
theorem dL_law_815 : decode cL_law 815 = .ok (.iadd, 1) := by decide +kernel
theorem dL_law_816 : decode cL_law 816 = .ok (.iaload, 1) := by decide +kernel
theorem dL_law_817 : decode cL_law 817 = .ok (.aload_n 0, 1) := by decide +kernel
theorem dL_law_818 : decode cL_law 818 = .ok (.iload_n 3, 1) := by decide +kernel
theorem dL_law_819 : decode cL_law 819 = .ok (.iconst 2, 1) := by decide +kernel
theorem dL_law_820 : decode cL_law 820 = .ok (.iadd, 1) := by decide +kernel
theorem dL_law_821 : decode cL_law 821 = .ok (.iaload, 1) := by decide +kernel
theorem dL_law_822 : decode cL_law 822 = .ok (.aload_n 0, 1) := by decide +kernel
theorem dL_law_823 : decode cL_law 823 = .ok (.iload_n 3, 1) := by decide +kernel
theorem dL_law_824 : decode cL_law 824 = .ok (.iconst 3, 1) := by decide +kernel
theorem dL_law_825 : decode cL_law 825 = .ok (.iadd, 1) := by decide +kernel
theorem dL_law_826 : decode cL_law 826 = .ok (.iaload, 1) := by decide +kernel
theorem dL_law_827 : decode cL_law 827 = .ok (.aload_n 0, 1) := by decide +kernel
theorem dL_law_828 : decode cL_law 828 = .ok (.iload_n 3, 1) := by decide +kernel
theorem dL_law_829 : decode cL_law 829 = .ok (.iconst 4, 1) := by decide +kernel
theorem dL_law_830 : decode cL_law 830 = .ok (.iadd, 1) := by decide +kernel
theorem dL_law_831 : decode cL_law 831 = .ok (.iaload, 1) := by decide +kernel
theorem dL_law_832 : decode cL_law 832 = .ok (.invokevirtual 113, 3) := by decide +kernel
theorem dL_law_835 : decode cL_law 835 = .ok (.if_icmp .eq 28, 3) := by decide +kernel
theorem dL_law_838 : decode cL_law 838 = .ok (.iconst 0, 1) := by decide +kernel
theorem dL_law_839 : decode cL_law 839 = .ok (.ireturn, 1) := by decide +kernel
theorem dL_law_840 : decode cL_law 840 = .ok (.aload_n 1, 1) := by decide +kernel
theorem dL_law_841 : decode cL_law 841 = .ok (.aload_n 0, 1) := by decide +kernel
theorem dL_law_842 : decode cL_law 842 = .ok (.iload_n 3, 1) := by decide +kernel
theorem dL_law_843 : decode cL_law 843 = .ok (.iconst 1, 1) := by decide +kernel
theorem dL_law_844 : decode cL_law 844 = .ok (.iadd, 1) := by decide +kernel
theorem dL_law_845 : decode cL_law 845 = .ok (.iaload, 1) := by decide +kernel
theorem dL_law_846 : decode cL_law 846 = .ok (.invokevirtual 114, 3) := by decide +kernel
theorem dL_law_849 : decode cL_law 849 = .ok (.aload_n 2, 1) := by decide +kernel
theorem dL_law_850 : decode cL_law 850 = .ok (.aload_n 0, 1) := by decide +kernel
theorem dL_law_851 : decode cL_law 851 = .ok (.iload_n 3, 1) := by decide +kernel
theorem dL_law_852 : decode cL_law 852 = .ok (.iconst 1, 1) := by decide +kernel
theorem dL_law_853 : decode cL_law 853 = .ok (.iadd, 1) := by decide +kernel
theorem dL_law_854 : decode cL_law 854 = .ok (.iaload, 1) := by decide +kernel
theorem dL_law_855 : decode cL_law 855 = .ok (.invokevirtual 117, 3) := by decide +kernel
theorem dL_law_858 : decode cL_law 858 = .ok (.if_icmp .eq 5, 3) := by decide +kernel
theorem dL_law_861 : decode cL_law 861 = .ok (.iconst 0, 1) := by decide +kernel
theorem dL_law_862 : decode cL_law 862 = .ok (.ireturn, 1) := by decide +kernel
theorem dL_law_863 : decode cL_law 863 = .ok (.iinc 3 5, 3) := by decide +kernel
theorem dL_law_866 : decode cL_law 866 = .ok (.goto (-848), 3) := by decide +kernel
theorem dL_law_869 : decode cL_law 869 = .ok (.iconst 1, 1) := by decide +kernel
theorem dL_law_870 : decode cL_law 870 = .ok (.ireturn, 1) := by decide +kernel
end
section
/-! what a method's contract asks and answers, where it makes nothing: cells in, cells out, an answer -/
abbrev kE : Type := (Nat → Prop) → State → Prop
def kT : kE := fun _ _ => True
/-- a demand on the surroundings that frames don't touch -/
def kBl (E : kE) : Prop := ∀ (A : Nat → Prop) (u U : State), u.vm = U.vm → u.heap = U.heap → E A u → E A U
/-- what a caller has gives what the callee asks -/
def kOk (E0 E : kE) : Prop := ∀ (A0 A : Nat → Prop) (s U : State), E0 A0 s → s.heap.size ≤ U.heap.size → (∀ q : Nat, q < s.heap.size → ¬ A0 q → U.heap[q]? = s.heap[q]?) → (∀ q, A q → A0 q) → s.WarmedH U.vm → E A U
theorem kBl_T : kBl kT := fun _ _ _ _ _ _ => trivial
theorem kOk_T {E0 : kE} : kOk E0 kT := fun _ _ _ _ _ _ _ _ _ => trivial
def kPc (D : va_G) (tys : List (ClassId × FieldType)) (E : kE) (w : va_W) (sz : Nat) : State → Prop := fun U => U.heap.size = sz ∧ va_P D vwCl w U.heap ∧ va_K D vwCl tys U ∧ va_D (fun _ => True) w ∧ E (va_A w sz) U
def CI (l : Launch) (D : va_G) (tys : List (ClassId × FieldType)) (E : kE) (y : MethodName) (ws : List Cond) (rm : Room) (av : List Value) (w w' : va_W) (r : Int32) : Prop :=
  ∀ sz : Nat, Met l y ws rm (va_Pc av (kPc D tys E w sz)) (va_Qi (fun (r' : Int32) (_ : Unit) => r' = r) (fun _ t => va_P D vwCl w' t.heap) (va_A w sz)) 0 0 (va_A w sz)
def CV (l : Launch) (D : va_G) (tys : List (ClassId × FieldType)) (E : kE) (y : MethodName) (ws : List Cond) (rm : Room) (av : List Value) (w w' : va_W) : Prop :=
  ∀ sz : Nat, Met l y ws rm (va_Pc av (kPc D tys E w sz)) (va_Qv (fun (_ : Unit) => True) (fun _ t => va_P D vwCl w' t.heap) (va_A w sz)) 0 0 (va_A w sz)
theorem CI.of {l : Launch} {D : va_G} {tys : List (ClassId × FieldType)} {E : kE} {y : MethodName} {ws ws' : List Cond} {rm : Room} {av : List Value} {w w' : va_W} {r : Int32} {cc : ByteArray} {maxL : Nat} {ty : FieldType}
    (hy : plainName y.cls = true) (hw : ws = Cond.code y cc maxL (some ty) :: ws') (hz : (lg_sl av).length ≤ maxL) (hn : narrow ty (.int r) = .int r)
    (body : ∀ (p : Program) (e : Env) (s : State) (m : MethodId) (args : Array Value) (below : List Frame) (meth : Method) (c : Code) (A : Nat → Prop) (Q : State → Prop) (ls : Array Slot), p.tables.exec = Jvm.exec → c.code = cc → c.maxLocals = maxL → (∀ w ∈ ws, w.before args s = true) → s.vm.findClass y.cls = some m.cls → (∀ q : Nat, s.heap.size ≤ q → A q) → va_P D vwCl w s.heap → va_K D vwCl tys s → va_D A w → E A s → lv_has ls maxL (lv_args 0 av) →
      (∀ (H : Heap) (locs : List Loc) (ls : Array Slot) (pc : Nat), va_P D vwCl w' H → va_S A s.heap H locs → decode cc pc = .ok (.ireturn, 1) → W p l e rm s m args below meth c H locs 0 0 Q (F0 m pc ls [.int r])) →
      W p l e rm s m args below meth c s.heap [] 0 0 Q (F0 m 0 ls [])) : CI l D tys E y ws rm av w w' r := by
  intro sz
  refine Met.ofW (cc := cc) (maxL := maxL) (ret := some ty) hy hw ?_
  intro p e s m args below meth c s₁ B hml hv
  obtain ⟨rfl, hsz0, hP, hK, hD0, hE⟩ := hv
  subst hsz0
  rw [lg_entry_eq]
  refine body p e s m av.toArray below meth c (va_A w s.heap.size) _ _ B.exec B.bytes hml (atoms_spec (ws := ws) B.pre) (findClass_of_methodNamed B.named) (fun q h => Or.inr h) hP hK hD0.self hE (lv_entry av hz) ?_
  intro H locs ls pc hP' hS hdg
  exact W.zret B.exec B.bytes B.returns hn (fun t ht hW => ⟨⟨r, (), rfl, rfl, by show va_P D vwCl w' t.heap; rw [ht]; exact hP'⟩, hS.F ht⟩) hS.2.2 hdg
theorem CV.of {l : Launch} {D : va_G} {tys : List (ClassId × FieldType)} {E : kE} {y : MethodName} {ws ws' : List Cond} {rm : Room} {av : List Value} {w w' : va_W} {cc : ByteArray} {maxL : Nat}
    (hy : plainName y.cls = true) (hw : ws = Cond.code y cc maxL none :: ws') (hz : (lg_sl av).length ≤ maxL)
    (body : ∀ (p : Program) (e : Env) (s : State) (m : MethodId) (args : Array Value) (below : List Frame) (meth : Method) (c : Code) (A : Nat → Prop) (Q : State → Prop) (ls : Array Slot), p.tables.exec = Jvm.exec → c.code = cc → c.maxLocals = maxL → (∀ w ∈ ws, w.before args s = true) → s.vm.findClass y.cls = some m.cls → (∀ q : Nat, s.heap.size ≤ q → A q) → va_P D vwCl w s.heap → va_K D vwCl tys s → va_D A w → E A s → lv_has ls maxL (lv_args 0 av) →
      (∀ (H : Heap) (locs : List Loc) (ls : Array Slot) (pc : Nat), va_P D vwCl w' H → va_S A s.heap H locs → decode cc pc = .ok (.return_, 1) → W p l e rm s m args below meth c H locs 0 0 Q (F0 m pc ls [])) →
      W p l e rm s m args below meth c s.heap [] 0 0 Q (F0 m 0 ls [])) : CV l D tys E y ws rm av w w' := by
  intro sz
  refine Met.ofW (cc := cc) (maxL := maxL) (ret := none) hy hw ?_
  intro p e s m args below meth c s₁ B hml hv
  obtain ⟨rfl, hsz0, hP, hK, hD0, hE⟩ := hv
  subst hsz0
  rw [lg_entry_eq]
  refine body p e s m av.toArray below meth c (va_A w s.heap.size) _ _ B.exec B.bytes hml (atoms_spec (ws := ws) B.pre) (findClass_of_methodNamed B.named) (fun q h => Or.inr h) hP hK hD0.self hE (lv_entry av hz) ?_
  intro H locs ls pc hP' hS hdg
  exact W.vret B.exec B.bytes B.returns (fun t ht hW => ⟨⟨(), rfl, trivial, by show va_P D vwCl w' t.heap; rw [ht]; exact hP'⟩, hS.F ht⟩) hS.2.2 hdg
/-- how a callee's cells w lie in the caller's W0, and what W1 is behind it -/
def kCut (W0 w w' W1 wr : va_W) (isC isR isN as : List Nat) : Prop :=
  isC.map (fun i => W0[i]?) = w.map some ∧ isR.map (fun i => W0[i]?) = wr.map some ∧ (w.map (·.1) = as ∧ w'.map (·.1) = as) ∧ isN.map (fun i => (wr ++ w')[i]?) = W1.map some
def kNd (isC isR isN : List Nat) : Bool := va_nd isC && (va_nd isR && (va_nd isN && isR.all (fun i => decide (i ∉ isC))))
theorem kfilter {W0 w : va_W} {is : List Nat} (h : is.map (fun i => W0[i]?) = w.map some) : is.filterMap (fun i => W0[i]?) = w := by
  have h1 : is.filterMap (fun i => W0[i]?) = (is.map (fun i => W0[i]?)).filterMap id := by rw [List.filterMap_map]; rfl
  rw [h1, h, List.filterMap_map]
  simp
theorem kD_same {A : Nat → Prop} {w w' : va_W} (h : va_D A w) (e : w'.map (·.1) = w.map (·.1)) : va_D A w' := by
  have key : ∀ (k : Nat) (q : Nat × va_E), w'[k]? = some q → ∃ q0, w[k]? = some q0 ∧ q0.1 = q.1 := by
    intro k q hk
    have h1 : (w'.map (·.1))[k]? = some q.1 := by rw [List.getElem?_map, hk]; rfl
    rw [e, List.getElem?_map] at h1
    cases hw : w[k]? with
    | none => rw [hw] at h1; cases h1
    | some q0 => rw [hw] at h1; exact ⟨q0, rfl, Option.some.inj h1⟩
  refine ⟨fun i j p q hi hj hpq => ?_, fun k q hk => ?_⟩
  · obtain ⟨p0, a1, a2⟩ := key i p hi
    obtain ⟨q0, b1, b2⟩ := key j q hj
    exact h.1 i j p0 q0 a1 b1 (by rw [a2, b2, hpq])
  · obtain ⟨q0, b1, b2⟩ := key k q hk
    rw [← b2]
    exact h.2 k q0 b1
section KC
variable {p : Program} {l : Launch} {e : Env} {R : Room} {s : State} {m : MethodId} {args : Array Value} {below : List Frame} {meth : Method} {c : Code} {H : Heap} {locs : List Loc} {Q : State → Prop}
variable {D : va_G} {tys : List (ClassId × FieldType)} {E0 E : kE} {A0 : Nat → Prop} {W0 W1 w w' wr : va_W} {cc bytes : ByteArray} {nL n index maxL pc ci q0 b : Nat} {own C : String} {y : MethodName} {ret : Option FieldType} {ws Ts : List Cond} {rm : Room} {As rest st : List Value} {ls : Array Slot} {fs : List Value} {k : vw_C} {isC isR isN as : List Nat} {r : Int32}
theorem kpre (hsz : s.heap.size ≤ H.size) (hPc : va_P D vwCl w H) (hK : va_K D vwCl tys s) (hDc : va_D A0 w) (hS : va_S A0 s.heap H locs) (hF : ∀ q, va_A w H.size q → A0 q) (hE : E0 A0 s) (ok : kOk E0 E) (U : State) (hU : U.heap = H) (hW : s.WarmedH U.vm) : kPc D tys E w H.size U :=
  ⟨by rw [hU], by rw [hU]; exact hPc, va_K.moved hW.alike hK, hDc.weaken (fun _ _ _ _ => trivial), ok A0 _ s U hE (by rw [hU]; exact hsz) (fun q h1 h2 => by rw [hU]; exact hS.2.1 q h1 h2) hF hW⟩
theorem kblind {av : List Value} {sz : Nat} (bl : kBl E) : FrameBlind (va_Pc av (kPc D tys E w sz)) := fun a U g mk q => by
  obtain ⟨q0, q1, qP, qK, qD, qE⟩ := q
  exact ⟨q0, q1, qP, va_K.moved (u := U) (U := U.calling g mk a) (Vm.Alike.refl U.vm) qK, qD, bl _ U (U.calling g mk a) rfl rfl qE⟩
/-- behind a call: the caller's world, whole -/
theorem kafter {H1 : Heap} (hP : va_P D vwCl W0 H) (hD : va_D A0 W0) (cut : kCut W0 w w' W1 wr isC isR isN as) (nd : kNd isC isR isN = true) (hk : ∀ q : Nat, q < H.size → ¬ va_A w H.size q → H1[q]? = H[q]?) (hF : ∀ q, va_A w H.size q → A0 q) (hP1 : va_P D vwCl w' H1) (hDc : va_D A0 w) : va_P D vwCl W1 H1 ∧ va_D A0 W1 := by
  simp only [kNd, Bool.and_eq_true, List.all_eq_true, decide_eq_true_eq] at nd
  obtain ⟨c1, c2, c3, c4⟩ := cut
  have hD1 : va_D (va_A w H.size) w' := kD_same hDc.self (c3.2.trans c3.1.symm)
  obtain ⟨hP', hD'⟩ := va_join hP hD isC isR c1 c2 nd.2.1 nd.2.2.2 hk hF hP1 hD1
  exact ⟨hP'.sub isN (kfilter c4), hD'.sub isN nd.2.2.1 c4⟩
/-- a call of a method that answers an int -/
theorem kvi (S : CallFix p m c cc nL s args Ts own) (hP : va_P D vwCl W0 H) (hK : va_K D vwCl tys s) (hD : va_D A0 W0) (hS : va_S A0 s.heap H locs) (hA : ∀ q : Nat, s.heap.size ≤ q → A0 q) (hE : E0 A0 s)
    (hC : CI l D tys E y ws rm (.ref b :: As) w w' r) (cw : CallW R s args own C index y bytes maxL ret ws rm 0 0 n) (bl : kBl E) (ok : kOk E0 E)
    (W1 : va_W) (cut : kCut W0 w w' W1 wr isC isR isN as) (nd : kNd isC isR isN = true) (hc : vwCl[ci]? = some k) (he : w[q0]? = some (b, .inr (ci, fs))) (hkc : k.1 = C)
    (hn : As.length = n) (hsize : ls.size = nL) (hst : st = As.reverse ++ .ref b :: rest) (hW : (rest.map fun v => v.category).sum ≤ 8) (hdg : decode cc pc = .ok (.invokevirtual index, 3))
    (kk : ∀ (H1 : Heap) (locs1 : List Loc), va_P D vwCl W1 H1 → va_D A0 W1 → va_S A0 s.heap H1 locs1 → W p l e R s m args below meth c H1 locs1 0 0 Q (F0 m (pc + 3) ls (.int r :: rest))) : W p l e R s m args below meth c H locs 0 0 Q (F0 m pc ls st) := by
  obtain ⟨hx, hb, hml, hown, hts⟩ := S
  have c1 := cut.1
  have nd' := nd
  simp only [kNd, Bool.and_eq_true] at nd'
  have hPc : va_P D vwCl w H := hP.sub isC (kfilter c1)
  have hDc : va_D A0 w := hD.sub isC nd'.1 c1
  have hF : ∀ q, va_A w H.size q → A0 q := va_free hD hS hA isC c1
  refine va_calli (va_runV (As := As) (rest := rest) ⟨hx, hb, hml, hown, hts⟩ (hC H.size) cw ⟨kblind bl, by rw [← hkc]; exact va_recv hK hPc hc he, fun U hU hW => ⟨rfl, kpre hS.1 hPc hK hDc hS hF hE ok U hU hW⟩⟩ rfl hn hsize hst (lv_room hW) hdg ⟨Nat.zero_le _, Nat.zero_le _⟩) hS (fun q _ h => hF q h) hF (fun r1 u t H1 locs1 ht hvm hw hB hz1 hk1 hS1 => ?_)
  subst hw
  rw [ht] at hB
  obtain ⟨hP', hD'⟩ := kafter hP hD cut nd hk1 hF hB hDc
  exact kk H1 locs1 hP' hD' hS1
/-- a call of a method that answers nothing -/
theorem kvv (S : CallFix p m c cc nL s args Ts own) (hP : va_P D vwCl W0 H) (hK : va_K D vwCl tys s) (hD : va_D A0 W0) (hS : va_S A0 s.heap H locs) (hA : ∀ q : Nat, s.heap.size ≤ q → A0 q) (hE : E0 A0 s)
    (hC : CV l D tys E y ws rm (.ref b :: As) w w') (cw : CallW R s args own C index y bytes maxL ret ws rm 0 0 n) (bl : kBl E) (ok : kOk E0 E)
    (W1 : va_W) (cut : kCut W0 w w' W1 wr isC isR isN as) (nd : kNd isC isR isN = true) (hc : vwCl[ci]? = some k) (he : w[q0]? = some (b, .inr (ci, fs))) (hkc : k.1 = C)
    (hn : As.length = n) (hsize : ls.size = nL) (hst : st = As.reverse ++ .ref b :: rest) (hW : (rest.map fun v => v.category).sum ≤ 8) (hdg : decode cc pc = .ok (.invokevirtual index, 3))
    (kk : ∀ (H1 : Heap) (locs1 : List Loc), va_P D vwCl W1 H1 → va_D A0 W1 → va_S A0 s.heap H1 locs1 → W p l e R s m args below meth c H1 locs1 0 0 Q (F0 m (pc + 3) ls rest)) : W p l e R s m args below meth c H locs 0 0 Q (F0 m pc ls st) := by
  obtain ⟨hx, hb, hml, hown, hts⟩ := S
  have c1 := cut.1
  have nd' := nd
  simp only [kNd, Bool.and_eq_true] at nd'
  have hPc : va_P D vwCl w H := hP.sub isC (kfilter c1)
  have hDc : va_D A0 w := hD.sub isC nd'.1 c1
  have hF : ∀ q, va_A w H.size q → A0 q := va_free hD hS hA isC c1
  refine va_callv (va_runV (As := As) (rest := rest) ⟨hx, hb, hml, hown, hts⟩ (hC H.size) cw ⟨kblind bl, by rw [← hkc]; exact va_recv hK hPc hc he, fun U hU hW => ⟨rfl, kpre hS.1 hPc hK hDc hS hF hE ok U hU hW⟩⟩ rfl hn hsize hst (lv_room hW) hdg ⟨Nat.zero_le _, Nat.zero_le _⟩) hS (fun q _ h => hF q h) hF (fun u t H1 locs1 ht hvm hw hB hz1 hk1 hS1 => ?_)
  rw [ht] at hB
  obtain ⟨hP', hD'⟩ := kafter hP hD cut nd hk1 hF hB hDc
  exact kk H1 locs1 hP' hD' hS1
/-- a call of a static method that touches no cell -/
theorem ksi (S : CallFix p m c cc nL s args Ts own) (hP : va_P D vwCl W0 H) (hK : va_K D vwCl tys s) (hD : va_D A0 W0) (hS : va_S A0 s.heap H locs) (hA : ∀ q : Nat, s.heap.size ≤ q → A0 q) (hE : E0 A0 s)
    (hC : CI l D tys E y ws rm As [] [] r) (cw : CallB R s args own index y bytes maxL ret ws rm 0 0 n ∧ (Cond.static y).before args s = true) (bl : kBl E) (ok : kOk E0 E)
    (hn : As.length = n) (hsize : ls.size = nL) (hst : st = As.reverse ++ rest) (hW : (rest.map fun v => v.category).sum ≤ 8) (hdg : decode cc pc = .ok (.invokestatic index, 3))
    (kk : ∀ (H1 : Heap) (locs1 : List Loc), va_P D vwCl W0 H1 → va_D A0 W0 → va_S A0 s.heap H1 locs1 → W p l e R s m args below meth c H1 locs1 0 0 Q (F0 m (pc + 3) ls (.int r :: rest))) : W p l e R s m args below meth c H locs 0 0 Q (F0 m pc ls st) := by
  obtain ⟨hx, hb, hml, hown, hts⟩ := S
  have hPc : va_P D vwCl [] H := fun k q h => by simp at h
  have hDc : va_D A0 [] := ⟨fun i j p q h => by simp at h, fun k q h => by simp at h⟩
  have hF : ∀ q, va_A [] H.size q → A0 q := va_free hD hS hA [] rfl
  refine va_calli (va_runS (As := As) (rest := rest) ⟨hx, hb, hml, hown, hts⟩ (hC H.size) cw ⟨kblind bl, fun U hU hW => ⟨rfl, kpre hS.1 hPc hK hDc hS hF hE ok U hU hW⟩⟩ rfl hn hsize hst (lv_room hW) hdg ⟨Nat.zero_le _, Nat.zero_le _⟩) hS (fun q _ h => hF q h) hF (fun r1 u t H1 locs1 ht hvm hw hB hz1 hk1 hS1 => ?_)
  subst hw
  exact kk H1 locs1 (hP.kept (fun k q hq => hk1 q.1 ((hP k q hq).lt) (fun h => by
    rcases h with ⟨k2, e2, h⟩ | h
    · simp at h
    · exact absurd ((hP k q hq).lt) (by omega)))) hD hS1
/-- the same, of a nest mate -/
theorem kni {host : String} (S : CallFix p m c cc nL s args Ts own) (hP : va_P D vwCl W0 H) (hK : va_K D vwCl tys s) (hD : va_D A0 W0) (hS : va_S A0 s.heap H locs) (hA : ∀ q : Nat, s.heap.size ≤ q → A0 q) (hE : E0 A0 s)
    (hC : CI l D tys E y ws rm As [] [] r) (cw : va_CN R s args own index y host bytes maxL ret ws rm 0 0 n ∧ (Cond.static y).before args s = true ∧ True) (bl : kBl E) (ok : kOk E0 E)
    (hn : As.length = n) (hsize : ls.size = nL) (hst : st = As.reverse ++ rest) (hW : (rest.map fun v => v.category).sum ≤ 8) (hdg : decode cc pc = .ok (.invokestatic index, 3))
    (kk : ∀ (H1 : Heap) (locs1 : List Loc), va_P D vwCl W0 H1 → va_D A0 W0 → va_S A0 s.heap H1 locs1 → W p l e R s m args below meth c H1 locs1 0 0 Q (F0 m (pc + 3) ls (.int r :: rest))) : W p l e R s m args below meth c H locs 0 0 Q (F0 m pc ls st) := by
  obtain ⟨hx, hb, hml, hown, hts⟩ := S
  have hPc : va_P D vwCl [] H := fun k q h => by simp at h
  have hDc : va_D A0 [] := ⟨fun i j p q h => by simp at h, fun k q h => by simp at h⟩
  have hF : ∀ q, va_A [] H.size q → A0 q := va_free hD hS hA [] rfl
  refine va_calli (va_runSN (As := As) (rest := rest) ⟨hx, hb, hml, hown, hts⟩ (hC H.size) cw ⟨kblind bl, fun U hU hW => ⟨rfl, kpre hS.1 hPc hK hDc hS hF hE ok U hU hW⟩⟩ rfl hn hsize hst (lv_room hW) hdg ⟨Nat.zero_le _, Nat.zero_le _⟩) hS (fun q _ h => hF q h) hF (fun r1 u t H1 locs1 ht hvm hw hB hz1 hk1 hS1 => ?_)
  subst hw
  exact kk H1 locs1 (hP.kept (fun k q hq => hk1 q.1 ((hP k q hq).lt) (fun h => by
    rcases h with ⟨k2, e2, h⟩ | h
    · simp at h
    · exact absurd ((hP k q hq).lt) (by omega)))) hD hS1
end KC
/-! numbers -/
theorem kle_clamp (x : Int32) : x ≤ nI x.toNatClampNeg := by
  rw [Int32.le_iff_toInt_le]
  have h : x.toNatClampNeg < 2 ^ 31 := by
    have := Int32.toInt_lt x
    show x.toInt.toNat < 2 ^ 31
    omega
  rw [nI_toInt h]
  show x.toInt ≤ ((x.toInt.toNat : Nat) : Int)
  omega
theorem klt_clamp {x : Int32} {i : Nat} (h : i < x.toNatClampNeg) : ¬ x ≤ nI i := by
  rw [Int32.le_iff_toInt_le]
  have h1 := Int32.toInt_lt x
  have h2 : i < x.toInt.toNat := h
  rw [nI_toInt (by omega)]
  omega
/-- a number between bounds -/
def kb (x : Int32) (lo hi : Nat) : Prop := ∃ a : Nat, lo ≤ a ∧ a < hi ∧ x = nI a
theorem kb.lit (a : Nat) : kb (nI a) a (a + 1) := ⟨a, Nat.le_refl _, Nat.lt_succ_self _, rfl⟩
theorem kb.add {x y : Int32} {l1 h1 l2 h2 : Nat} (hx : kb x l1 h1) (hy : kb y l2 h2) : kb (x + y) (l1 + l2) (h1 + h2 - 1) := by
  obtain ⟨a, a1, a2, rfl⟩ := hx
  obtain ⟨b, b1, b2, rfl⟩ := hy
  exact ⟨a + b, by omega, by omega, nI_add a b⟩
theorem kb.mul {x y : Int32} {l1 h1 c : Nat} (hx : x = nI c) (hy : kb y l1 h1) : kb (x * y) (c * l1) (c * (h1 - 1) + 1) := by
  subst hx
  obtain ⟨b, b1, b2, rfl⟩ := hy
  refine ⟨c * b, Nat.mul_le_mul_left c b1, ?_, ?_⟩
  · have : c * b ≤ c * (h1 - 1) := Nat.mul_le_mul_left c (by omega)
    omega
  · show Int32.ofNat c * Int32.ofNat b = Int32.ofNat (c * b)
    exact (Int32.ofNat_mul c b).symm
theorem kb.in {x : Int32} {lo hi n : Nat} (h : kb x lo hi) (hn : hi ≤ n) (hs : n < 2147483648) : vp_in x n := by
  obtain ⟨a, a1, a2, rfl⟩ := h
  exact vp_in_nI (by omega) hs
theorem kb.wide {x : Int32} {l1 h1 l2 h2 : Nat} (h : kb x l1 h1) (hl : l2 ≤ l1) (hh : h1 ≤ h2) : kb x l2 h2 := by
  obtain ⟨a, a1, a2, rfl⟩ := h
  exact ⟨a, by omega, by omega, rfl⟩
theorem kb.of_in {x : Int32} {n : Nat} (h : vp_in x n) (hn : n < 2147483648) : kb x 0 n := by
  obtain ⟨j, h1, h2⟩ := vp_in_of h hn
  exact ⟨j, Nat.zero_le _, h1, h2⟩
/-- n steps -/
def lp {α : Type} (f : Nat → α → α) (a : α) : Nat → α
  | 0 => a
  | n + 1 => f n (lp f a n)
end
section
theorem kin_1 : ∀ w ∈ wsL_law_r1, w ∈ wsL_law := fun _ h => List.mem_append_left _ (List.mem_append_left _ (List.mem_append_left _ (List.mem_append_left _ (List.mem_append_left _ (List.mem_append_left _ (List.mem_append_left _ (List.mem_append_left _ (List.mem_append_left _ (List.mem_append_left _ h)))))))))
theorem kin_2 : ∀ w ∈ wsL_law_r2, w ∈ wsL_law := fun _ h => List.mem_append_left _ (List.mem_append_left _ (List.mem_append_left _ (List.mem_append_left _ (List.mem_append_left _ (List.mem_append_left _ (List.mem_append_left _ (List.mem_append_left _ (List.mem_append_left _ (List.mem_append_right _ (List.mem_append_left _ h))))))))))
theorem kin_3 : ∀ w ∈ wsL_law_r3, w ∈ wsL_law := fun _ h => List.mem_append_left _ (List.mem_append_left _ (List.mem_append_left _ (List.mem_append_left _ (List.mem_append_left _ (List.mem_append_left _ (List.mem_append_left _ (List.mem_append_left _ (List.mem_append_left _ (List.mem_append_right _ (List.mem_append_right _ (List.mem_append_left _ h)))))))))))
theorem kin_4 : ∀ w ∈ wsL_law_r4, w ∈ wsL_law := fun _ h => List.mem_append_left _ (List.mem_append_left _ (List.mem_append_left _ (List.mem_append_left _ (List.mem_append_left _ (List.mem_append_left _ (List.mem_append_left _ (List.mem_append_left _ (List.mem_append_left _ (List.mem_append_right _ (List.mem_append_right _ (List.mem_append_right _ (List.mem_append_left _ h))))))))))))
theorem kin_5 : ∀ w ∈ wsL_law_r5, w ∈ wsL_law := fun _ h => List.mem_append_left _ (List.mem_append_left _ (List.mem_append_left _ (List.mem_append_left _ (List.mem_append_left _ (List.mem_append_left _ (List.mem_append_left _ (List.mem_append_left _ (List.mem_append_left _ (List.mem_append_right _ (List.mem_append_right _ (List.mem_append_right _ (List.mem_append_right _ (List.mem_append_left _ h)))))))))))))
theorem kin_6 : ∀ w ∈ wsL_law_r6, w ∈ wsL_law := fun _ h => List.mem_append_left _ (List.mem_append_left _ (List.mem_append_left _ (List.mem_append_left _ (List.mem_append_left _ (List.mem_append_left _ (List.mem_append_left _ (List.mem_append_left _ (List.mem_append_left _ (List.mem_append_right _ (List.mem_append_right _ (List.mem_append_right _ (List.mem_append_right _ (List.mem_append_right _ (List.mem_append_left _ h))))))))))))))
theorem kin_7 : ∀ w ∈ wsL_law_r7, w ∈ wsL_law := fun _ h => List.mem_append_left _ (List.mem_append_left _ (List.mem_append_left _ (List.mem_append_left _ (List.mem_append_left _ (List.mem_append_left _ (List.mem_append_left _ (List.mem_append_left _ (List.mem_append_left _ (List.mem_append_right _ (List.mem_append_right _ (List.mem_append_right _ (List.mem_append_right _ (List.mem_append_right _ (List.mem_append_right _ (List.mem_append_left _ h)))))))))))))))
theorem kin_8 : ∀ w ∈ wsL_law_r8, w ∈ wsL_law := fun _ h => List.mem_append_left _ (List.mem_append_left _ (List.mem_append_left _ (List.mem_append_left _ (List.mem_append_left _ (List.mem_append_left _ (List.mem_append_left _ (List.mem_append_left _ (List.mem_append_left _ (List.mem_append_right _ (List.mem_append_right _ (List.mem_append_right _ (List.mem_append_right _ (List.mem_append_right _ (List.mem_append_right _ (List.mem_append_right _ (List.mem_append_left _ h))))))))))))))))
theorem kin_9 : ∀ w ∈ wsL_law_r9, w ∈ wsL_law := fun _ h => List.mem_append_left _ (List.mem_append_left _ (List.mem_append_left _ (List.mem_append_left _ (List.mem_append_left _ (List.mem_append_left _ (List.mem_append_left _ (List.mem_append_left _ (List.mem_append_left _ (List.mem_append_right _ (List.mem_append_right _ (List.mem_append_right _ (List.mem_append_right _ (List.mem_append_right _ (List.mem_append_right _ (List.mem_append_right _ (List.mem_append_right _ (List.mem_append_left _ h)))))))))))))))))
theorem kin_10 : ∀ w ∈ wsL_law_r10, w ∈ wsL_law := fun _ h => List.mem_append_left _ (List.mem_append_left _ (List.mem_append_left _ (List.mem_append_left _ (List.mem_append_left _ (List.mem_append_left _ (List.mem_append_left _ (List.mem_append_left _ (List.mem_append_left _ (List.mem_append_right _ (List.mem_append_right _ (List.mem_append_right _ (List.mem_append_right _ (List.mem_append_right _ (List.mem_append_right _ (List.mem_append_right _ (List.mem_append_right _ (List.mem_append_right _ (List.mem_append_left _ h))))))))))))))))))
theorem kin_11 : ∀ w ∈ wsL_law_r11, w ∈ wsL_law := fun _ h => List.mem_append_left _ (List.mem_append_left _ (List.mem_append_left _ (List.mem_append_left _ (List.mem_append_left _ (List.mem_append_left _ (List.mem_append_left _ (List.mem_append_left _ (List.mem_append_left _ (List.mem_append_right _ (List.mem_append_right _ (List.mem_append_right _ (List.mem_append_right _ (List.mem_append_right _ (List.mem_append_right _ (List.mem_append_right _ (List.mem_append_right _ (List.mem_append_right _ (List.mem_append_right _ (List.mem_append_left _ h)))))))))))))))))))
theorem kin_12 : ∀ w ∈ wsL_law_r12, w ∈ wsL_law := fun _ h => List.mem_append_left _ (List.mem_append_left _ (List.mem_append_left _ (List.mem_append_left _ (List.mem_append_left _ (List.mem_append_left _ (List.mem_append_left _ (List.mem_append_left _ (List.mem_append_left _ (List.mem_append_right _ (List.mem_append_right _ (List.mem_append_right _ (List.mem_append_right _ (List.mem_append_right _ (List.mem_append_right _ (List.mem_append_right _ (List.mem_append_right _ (List.mem_append_right _ (List.mem_append_right _ (List.mem_append_right _ (List.mem_append_left _ h))))))))))))))))))))
theorem kin_13 : ∀ w ∈ wsL_law_r13, w ∈ wsL_law := fun _ h => List.mem_append_left _ (List.mem_append_left _ (List.mem_append_left _ (List.mem_append_left _ (List.mem_append_left _ (List.mem_append_left _ (List.mem_append_left _ (List.mem_append_left _ (List.mem_append_left _ (List.mem_append_right _ (List.mem_append_right _ (List.mem_append_right _ (List.mem_append_right _ (List.mem_append_right _ (List.mem_append_right _ (List.mem_append_right _ (List.mem_append_right _ (List.mem_append_right _ (List.mem_append_right _ (List.mem_append_right _ (List.mem_append_right _ (List.mem_append_left _ h)))))))))))))))))))))
theorem kin_14 : ∀ w ∈ wsL_law_r14, w ∈ wsL_law := fun _ h => List.mem_append_left _ (List.mem_append_left _ (List.mem_append_left _ (List.mem_append_left _ (List.mem_append_left _ (List.mem_append_left _ (List.mem_append_left _ (List.mem_append_left _ (List.mem_append_left _ (List.mem_append_right _ (List.mem_append_right _ (List.mem_append_right _ (List.mem_append_right _ (List.mem_append_right _ (List.mem_append_right _ (List.mem_append_right _ (List.mem_append_right _ (List.mem_append_right _ (List.mem_append_right _ (List.mem_append_right _ (List.mem_append_right _ (List.mem_append_right _ (List.mem_append_left _ h))))))))))))))))))))))
theorem kin_15 : ∀ w ∈ wsL_law_r15, w ∈ wsL_law := fun _ h => List.mem_append_left _ (List.mem_append_left _ (List.mem_append_left _ (List.mem_append_left _ (List.mem_append_left _ (List.mem_append_left _ (List.mem_append_left _ (List.mem_append_left _ (List.mem_append_left _ (List.mem_append_right _ (List.mem_append_right _ (List.mem_append_right _ (List.mem_append_right _ (List.mem_append_right _ (List.mem_append_right _ (List.mem_append_right _ (List.mem_append_right _ (List.mem_append_right _ (List.mem_append_right _ (List.mem_append_right _ (List.mem_append_right _ (List.mem_append_right _ (List.mem_append_right _ (List.mem_append_left _ h)))))))))))))))))))))))
theorem kin_16 : ∀ w ∈ wsL_law_r16, w ∈ wsL_law := fun _ h => List.mem_append_left _ (List.mem_append_left _ (List.mem_append_left _ (List.mem_append_left _ (List.mem_append_left _ (List.mem_append_left _ (List.mem_append_left _ (List.mem_append_left _ (List.mem_append_left _ (List.mem_append_right _ (List.mem_append_right _ (List.mem_append_right _ (List.mem_append_right _ (List.mem_append_right _ (List.mem_append_right _ (List.mem_append_right _ (List.mem_append_right _ (List.mem_append_right _ (List.mem_append_right _ (List.mem_append_right _ (List.mem_append_right _ (List.mem_append_right _ (List.mem_append_right _ (List.mem_append_right _ (List.mem_append_left _ h))))))))))))))))))))))))
theorem kin_17 : ∀ w ∈ wsL_law_r17, w ∈ wsL_law := fun _ h => List.mem_append_left _ (List.mem_append_left _ (List.mem_append_left _ (List.mem_append_left _ (List.mem_append_left _ (List.mem_append_left _ (List.mem_append_left _ (List.mem_append_left _ (List.mem_append_left _ (List.mem_append_right _ (List.mem_append_right _ (List.mem_append_right _ (List.mem_append_right _ (List.mem_append_right _ (List.mem_append_right _ (List.mem_append_right _ (List.mem_append_right _ (List.mem_append_right _ (List.mem_append_right _ (List.mem_append_right _ (List.mem_append_right _ (List.mem_append_right _ (List.mem_append_right _ (List.mem_append_right _ (List.mem_append_right _ (List.mem_append_left _ h)))))))))))))))))))))))))
theorem kin_18 : ∀ w ∈ wsL_law_r18, w ∈ wsL_law := fun _ h => List.mem_append_left _ (List.mem_append_left _ (List.mem_append_left _ (List.mem_append_left _ (List.mem_append_left _ (List.mem_append_left _ (List.mem_append_left _ (List.mem_append_left _ (List.mem_append_left _ (List.mem_append_right _ (List.mem_append_right _ (List.mem_append_right _ (List.mem_append_right _ (List.mem_append_right _ (List.mem_append_right _ (List.mem_append_right _ (List.mem_append_right _ (List.mem_append_right _ (List.mem_append_right _ (List.mem_append_right _ (List.mem_append_right _ (List.mem_append_right _ (List.mem_append_right _ (List.mem_append_right _ (List.mem_append_right _ (List.mem_append_right _ (List.mem_append_left _ h))))))))))))))))))))))))))
theorem kin_19 : ∀ w ∈ wsL_law_r19, w ∈ wsL_law := fun _ h => List.mem_append_left _ (List.mem_append_left _ (List.mem_append_left _ (List.mem_append_left _ (List.mem_append_left _ (List.mem_append_left _ (List.mem_append_left _ (List.mem_append_left _ (List.mem_append_left _ (List.mem_append_right _ (List.mem_append_right _ (List.mem_append_right _ (List.mem_append_right _ (List.mem_append_right _ (List.mem_append_right _ (List.mem_append_right _ (List.mem_append_right _ (List.mem_append_right _ (List.mem_append_right _ (List.mem_append_right _ (List.mem_append_right _ (List.mem_append_right _ (List.mem_append_right _ (List.mem_append_right _ (List.mem_append_right _ (List.mem_append_right _ (List.mem_append_right _ (List.mem_append_left _ h)))))))))))))))))))))))))))
theorem kin_20 : ∀ w ∈ wsL_law_r20, w ∈ wsL_law := fun _ h => List.mem_append_left _ (List.mem_append_left _ (List.mem_append_left _ (List.mem_append_left _ (List.mem_append_left _ (List.mem_append_left _ (List.mem_append_left _ (List.mem_append_left _ (List.mem_append_left _ (List.mem_append_right _ (List.mem_append_right _ (List.mem_append_right _ (List.mem_append_right _ (List.mem_append_right _ (List.mem_append_right _ (List.mem_append_right _ (List.mem_append_right _ (List.mem_append_right _ (List.mem_append_right _ (List.mem_append_right _ (List.mem_append_right _ (List.mem_append_right _ (List.mem_append_right _ (List.mem_append_right _ (List.mem_append_right _ (List.mem_append_right _ (List.mem_append_right _ (List.mem_append_right _ (List.mem_append_left _ h))))))))))))))))))))))))))))
theorem kin_21 : ∀ w ∈ wsL_law_r21, w ∈ wsL_law := fun _ h => List.mem_append_left _ (List.mem_append_left _ (List.mem_append_left _ (List.mem_append_left _ (List.mem_append_left _ (List.mem_append_left _ (List.mem_append_left _ (List.mem_append_left _ (List.mem_append_left _ (List.mem_append_right _ (List.mem_append_right _ (List.mem_append_right _ (List.mem_append_right _ (List.mem_append_right _ (List.mem_append_right _ (List.mem_append_right _ (List.mem_append_right _ (List.mem_append_right _ (List.mem_append_right _ (List.mem_append_right _ (List.mem_append_right _ (List.mem_append_right _ (List.mem_append_right _ (List.mem_append_right _ (List.mem_append_right _ (List.mem_append_right _ (List.mem_append_right _ (List.mem_append_right _ (List.mem_append_right _ (List.mem_append_left _ h)))))))))))))))))))))))))))))
theorem kin_22 : ∀ w ∈ wsL_law_r22, w ∈ wsL_law := fun _ h => List.mem_append_left _ (List.mem_append_left _ (List.mem_append_left _ (List.mem_append_left _ (List.mem_append_left _ (List.mem_append_left _ (List.mem_append_left _ (List.mem_append_left _ (List.mem_append_left _ (List.mem_append_right _ (List.mem_append_right _ (List.mem_append_right _ (List.mem_append_right _ (List.mem_append_right _ (List.mem_append_right _ (List.mem_append_right _ (List.mem_append_right _ (List.mem_append_right _ (List.mem_append_right _ (List.mem_append_right _ (List.mem_append_right _ (List.mem_append_right _ (List.mem_append_right _ (List.mem_append_right _ (List.mem_append_right _ (List.mem_append_right _ (List.mem_append_right _ (List.mem_append_right _ (List.mem_append_right _ (List.mem_append_right _ (List.mem_append_left _ h))))))))))))))))))))))))))))))
theorem kin_23 : ∀ w ∈ wsL_law_r23, w ∈ wsL_law := fun _ h => List.mem_append_left _ (List.mem_append_left _ (List.mem_append_left _ (List.mem_append_left _ (List.mem_append_left _ (List.mem_append_left _ (List.mem_append_left _ (List.mem_append_left _ (List.mem_append_left _ (List.mem_append_right _ (List.mem_append_right _ (List.mem_append_right _ (List.mem_append_right _ (List.mem_append_right _ (List.mem_append_right _ (List.mem_append_right _ (List.mem_append_right _ (List.mem_append_right _ (List.mem_append_right _ (List.mem_append_right _ (List.mem_append_right _ (List.mem_append_right _ (List.mem_append_right _ (List.mem_append_right _ (List.mem_append_right _ (List.mem_append_right _ (List.mem_append_right _ (List.mem_append_right _ (List.mem_append_right _ (List.mem_append_right _ (List.mem_append_right _ (List.mem_append_left _ h)))))))))))))))))))))))))))))))
theorem kin_24 : ∀ w ∈ wsL_law_r24, w ∈ wsL_law := fun _ h => List.mem_append_left _ (List.mem_append_left _ (List.mem_append_left _ (List.mem_append_left _ (List.mem_append_left _ (List.mem_append_left _ (List.mem_append_left _ (List.mem_append_left _ (List.mem_append_left _ (List.mem_append_right _ (List.mem_append_right _ (List.mem_append_right _ (List.mem_append_right _ (List.mem_append_right _ (List.mem_append_right _ (List.mem_append_right _ (List.mem_append_right _ (List.mem_append_right _ (List.mem_append_right _ (List.mem_append_right _ (List.mem_append_right _ (List.mem_append_right _ (List.mem_append_right _ (List.mem_append_right _ (List.mem_append_right _ (List.mem_append_right _ (List.mem_append_right _ (List.mem_append_right _ (List.mem_append_right _ (List.mem_append_right _ (List.mem_append_right _ (List.mem_append_right _ (List.mem_append_left _ h))))))))))))))))))))))))))))))))
theorem kin_25 : ∀ w ∈ wsL_law_r25, w ∈ wsL_law := fun _ h => List.mem_append_left _ (List.mem_append_left _ (List.mem_append_left _ (List.mem_append_left _ (List.mem_append_left _ (List.mem_append_left _ (List.mem_append_left _ (List.mem_append_left _ (List.mem_append_left _ (List.mem_append_right _ (List.mem_append_right _ (List.mem_append_right _ (List.mem_append_right _ (List.mem_append_right _ (List.mem_append_right _ (List.mem_append_right _ (List.mem_append_right _ (List.mem_append_right _ (List.mem_append_right _ (List.mem_append_right _ (List.mem_append_right _ (List.mem_append_right _ (List.mem_append_right _ (List.mem_append_right _ (List.mem_append_right _ (List.mem_append_right _ (List.mem_append_right _ (List.mem_append_right _ (List.mem_append_right _ (List.mem_append_right _ (List.mem_append_right _ (List.mem_append_right _ (List.mem_append_right _ (List.mem_append_left _ h)))))))))))))))))))))))))))))))))
theorem kin_26 : ∀ w ∈ wsL_law_r26, w ∈ wsL_law := fun _ h => List.mem_append_left _ (List.mem_append_left _ (List.mem_append_left _ (List.mem_append_left _ (List.mem_append_left _ (List.mem_append_left _ (List.mem_append_left _ (List.mem_append_left _ (List.mem_append_left _ (List.mem_append_right _ (List.mem_append_right _ (List.mem_append_right _ (List.mem_append_right _ (List.mem_append_right _ (List.mem_append_right _ (List.mem_append_right _ (List.mem_append_right _ (List.mem_append_right _ (List.mem_append_right _ (List.mem_append_right _ (List.mem_append_right _ (List.mem_append_right _ (List.mem_append_right _ (List.mem_append_right _ (List.mem_append_right _ (List.mem_append_right _ (List.mem_append_right _ (List.mem_append_right _ (List.mem_append_right _ (List.mem_append_right _ (List.mem_append_right _ (List.mem_append_right _ (List.mem_append_right _ (List.mem_append_right _ (List.mem_append_left _ h))))))))))))))))))))))))))))))))))
theorem kin_27 : ∀ w ∈ wsL_law_r27, w ∈ wsL_law := fun _ h => List.mem_append_left _ (List.mem_append_left _ (List.mem_append_left _ (List.mem_append_left _ (List.mem_append_left _ (List.mem_append_left _ (List.mem_append_left _ (List.mem_append_left _ (List.mem_append_left _ (List.mem_append_right _ (List.mem_append_right _ (List.mem_append_right _ (List.mem_append_right _ (List.mem_append_right _ (List.mem_append_right _ (List.mem_append_right _ (List.mem_append_right _ (List.mem_append_right _ (List.mem_append_right _ (List.mem_append_right _ (List.mem_append_right _ (List.mem_append_right _ (List.mem_append_right _ (List.mem_append_right _ (List.mem_append_right _ (List.mem_append_right _ (List.mem_append_right _ (List.mem_append_right _ (List.mem_append_right _ (List.mem_append_right _ (List.mem_append_right _ (List.mem_append_right _ (List.mem_append_right _ (List.mem_append_right _ (List.mem_append_right _ (List.mem_append_left _ h)))))))))))))))))))))))))))))))))))
theorem kin_28 : ∀ w ∈ wsL_law_r28, w ∈ wsL_law := fun _ h => List.mem_append_left _ (List.mem_append_left _ (List.mem_append_left _ (List.mem_append_left _ (List.mem_append_left _ (List.mem_append_left _ (List.mem_append_left _ (List.mem_append_left _ (List.mem_append_left _ (List.mem_append_right _ (List.mem_append_right _ (List.mem_append_right _ (List.mem_append_right _ (List.mem_append_right _ (List.mem_append_right _ (List.mem_append_right _ (List.mem_append_right _ (List.mem_append_right _ (List.mem_append_right _ (List.mem_append_right _ (List.mem_append_right _ (List.mem_append_right _ (List.mem_append_right _ (List.mem_append_right _ (List.mem_append_right _ (List.mem_append_right _ (List.mem_append_right _ (List.mem_append_right _ (List.mem_append_right _ (List.mem_append_right _ (List.mem_append_right _ (List.mem_append_right _ (List.mem_append_right _ (List.mem_append_right _ (List.mem_append_right _ (List.mem_append_right _ (List.mem_append_left _ h))))))))))))))))))))))))))))))))))))
theorem kin_29 : ∀ w ∈ wsL_law_r29, w ∈ wsL_law := fun _ h => List.mem_append_left _ (List.mem_append_left _ (List.mem_append_left _ (List.mem_append_left _ (List.mem_append_left _ (List.mem_append_left _ (List.mem_append_left _ (List.mem_append_left _ (List.mem_append_left _ (List.mem_append_right _ (List.mem_append_right _ (List.mem_append_right _ (List.mem_append_right _ (List.mem_append_right _ (List.mem_append_right _ (List.mem_append_right _ (List.mem_append_right _ (List.mem_append_right _ (List.mem_append_right _ (List.mem_append_right _ (List.mem_append_right _ (List.mem_append_right _ (List.mem_append_right _ (List.mem_append_right _ (List.mem_append_right _ (List.mem_append_right _ (List.mem_append_right _ (List.mem_append_right _ (List.mem_append_right _ (List.mem_append_right _ (List.mem_append_right _ (List.mem_append_right _ (List.mem_append_right _ (List.mem_append_right _ (List.mem_append_right _ (List.mem_append_right _ (List.mem_append_right _ (List.mem_append_left _ h)))))))))))))))))))))))))))))))))))))
theorem kin_30 : ∀ w ∈ wsL_law_r30, w ∈ wsL_law := fun _ h => List.mem_append_left _ (List.mem_append_left _ (List.mem_append_left _ (List.mem_append_left _ (List.mem_append_left _ (List.mem_append_left _ (List.mem_append_left _ (List.mem_append_left _ (List.mem_append_left _ (List.mem_append_right _ (List.mem_append_right _ (List.mem_append_right _ (List.mem_append_right _ (List.mem_append_right _ (List.mem_append_right _ (List.mem_append_right _ (List.mem_append_right _ (List.mem_append_right _ (List.mem_append_right _ (List.mem_append_right _ (List.mem_append_right _ (List.mem_append_right _ (List.mem_append_right _ (List.mem_append_right _ (List.mem_append_right _ (List.mem_append_right _ (List.mem_append_right _ (List.mem_append_right _ (List.mem_append_right _ (List.mem_append_right _ (List.mem_append_right _ (List.mem_append_right _ (List.mem_append_right _ (List.mem_append_right _ (List.mem_append_right _ (List.mem_append_right _ (List.mem_append_right _ (List.mem_append_right _ (List.mem_append_left _ h))))))))))))))))))))))))))))))))))))))
theorem kin_31 : ∀ w ∈ wsL_law_r31, w ∈ wsL_law := fun _ h => List.mem_append_left _ (List.mem_append_left _ (List.mem_append_left _ (List.mem_append_left _ (List.mem_append_left _ (List.mem_append_left _ (List.mem_append_left _ (List.mem_append_left _ (List.mem_append_left _ (List.mem_append_right _ (List.mem_append_right _ (List.mem_append_right _ (List.mem_append_right _ (List.mem_append_right _ (List.mem_append_right _ (List.mem_append_right _ (List.mem_append_right _ (List.mem_append_right _ (List.mem_append_right _ (List.mem_append_right _ (List.mem_append_right _ (List.mem_append_right _ (List.mem_append_right _ (List.mem_append_right _ (List.mem_append_right _ (List.mem_append_right _ (List.mem_append_right _ (List.mem_append_right _ (List.mem_append_right _ (List.mem_append_right _ (List.mem_append_right _ (List.mem_append_right _ (List.mem_append_right _ (List.mem_append_right _ (List.mem_append_right _ (List.mem_append_right _ (List.mem_append_right _ (List.mem_append_right _ (List.mem_append_right _ (List.mem_append_left _ h)))))))))))))))))))))))))))))))))))))))
theorem kin_32 : ∀ w ∈ wsL_law_r32, w ∈ wsL_law := fun _ h => List.mem_append_left _ (List.mem_append_left _ (List.mem_append_left _ (List.mem_append_left _ (List.mem_append_left _ (List.mem_append_left _ (List.mem_append_left _ (List.mem_append_left _ (List.mem_append_left _ (List.mem_append_right _ (List.mem_append_right _ (List.mem_append_right _ (List.mem_append_right _ (List.mem_append_right _ (List.mem_append_right _ (List.mem_append_right _ (List.mem_append_right _ (List.mem_append_right _ (List.mem_append_right _ (List.mem_append_right _ (List.mem_append_right _ (List.mem_append_right _ (List.mem_append_right _ (List.mem_append_right _ (List.mem_append_right _ (List.mem_append_right _ (List.mem_append_right _ (List.mem_append_right _ (List.mem_append_right _ (List.mem_append_right _ (List.mem_append_right _ (List.mem_append_right _ (List.mem_append_right _ (List.mem_append_right _ (List.mem_append_right _ (List.mem_append_right _ (List.mem_append_right _ (List.mem_append_right _ (List.mem_append_right _ (List.mem_append_right _ (List.mem_append_left _ h))))))))))))))))))))))))))))))))))))))))
theorem kin_33 : ∀ w ∈ wsL_law_r33, w ∈ wsL_law := fun _ h => List.mem_append_left _ (List.mem_append_left _ (List.mem_append_left _ (List.mem_append_left _ (List.mem_append_left _ (List.mem_append_left _ (List.mem_append_left _ (List.mem_append_left _ (List.mem_append_left _ (List.mem_append_right _ (List.mem_append_right _ (List.mem_append_right _ (List.mem_append_right _ (List.mem_append_right _ (List.mem_append_right _ (List.mem_append_right _ (List.mem_append_right _ (List.mem_append_right _ (List.mem_append_right _ (List.mem_append_right _ (List.mem_append_right _ (List.mem_append_right _ (List.mem_append_right _ (List.mem_append_right _ (List.mem_append_right _ (List.mem_append_right _ (List.mem_append_right _ (List.mem_append_right _ (List.mem_append_right _ (List.mem_append_right _ (List.mem_append_right _ (List.mem_append_right _ (List.mem_append_right _ (List.mem_append_right _ (List.mem_append_right _ (List.mem_append_right _ (List.mem_append_right _ (List.mem_append_right _ (List.mem_append_right _ (List.mem_append_right _ (List.mem_append_right _ (List.mem_append_left _ h)))))))))))))))))))))))))))))))))))))))))
theorem kin_34 : ∀ w ∈ wsL_law_r34, w ∈ wsL_law := fun _ h => List.mem_append_left _ (List.mem_append_left _ (List.mem_append_left _ (List.mem_append_left _ (List.mem_append_left _ (List.mem_append_left _ (List.mem_append_left _ (List.mem_append_left _ (List.mem_append_left _ (List.mem_append_right _ (List.mem_append_right _ (List.mem_append_right _ (List.mem_append_right _ (List.mem_append_right _ (List.mem_append_right _ (List.mem_append_right _ (List.mem_append_right _ (List.mem_append_right _ (List.mem_append_right _ (List.mem_append_right _ (List.mem_append_right _ (List.mem_append_right _ (List.mem_append_right _ (List.mem_append_right _ (List.mem_append_right _ (List.mem_append_right _ (List.mem_append_right _ (List.mem_append_right _ (List.mem_append_right _ (List.mem_append_right _ (List.mem_append_right _ (List.mem_append_right _ (List.mem_append_right _ (List.mem_append_right _ (List.mem_append_right _ (List.mem_append_right _ (List.mem_append_right _ (List.mem_append_right _ (List.mem_append_right _ (List.mem_append_right _ (List.mem_append_right _ (List.mem_append_right _ (h))))))))))))))))))))))))))))))))))))))))))
theorem kw {args : Array Value} {s : State} {ch : List Cond} {w : Cond} (hts : ∀ w ∈ wsL_law, w.before args s = true) (hc : ∀ w ∈ ch, w ∈ wsL_law) (i : Nat) (h : ch[i]? = some w) : w.before args s = true := hts w (hc w (List.mem_of_getElem? h))
set_option maxRecDepth 100000 in
theorem kgood_all : wsL_law.all goodWord = true := by decide +kernel
theorem kgood {y : MethodName} {bytes : ByteArray} {maxL : Nat} {ret : Option FieldType} (h : Cond.code y bytes maxL ret ∈ wsL_law) : GoodIn wsL_law (.code y bytes maxL ret :: wsL_law) := by
  have key : ∀ w ∈ wsL_law, w ∈ wsL_law ∧ ((w.onTables && w.keeps) = true ∨ ∃ ty, w = .arrayClass ty) := fun w hw => ⟨hw, good_of_word (List.all_eq_true.mp kgood_all w hw)⟩
  intro w hw
  rcases List.mem_cons.mp hw with rfl | hw
  · exact key _ h
  · exact key w hw
/-- a method's own words among the law's: an instance method, a static one -/
def kMeth (y : MethodName) (bytes : ByteArray) (maxL : Nat) (ret : Option FieldType) (n : Nat) : Prop := Cond.instanceMethod y ∈ wsL_law ∧ Cond.selects y.cls y y ∈ wsL_law ∧ Cond.initialized y.cls ∈ wsL_law ∧ Cond.code y bytes maxL ret ∈ wsL_law ∧ (y.cls ≠ "java/lang/invoke/MethodHandle" ∧ y.cls ≠ "java/lang/invoke/VarHandle" ∧ (parseMethodDescriptor y.desc).map (fun d => d.parameters.length) = some n)
def kMetS (y : MethodName) (bytes : ByteArray) (maxL : Nat) (ret : Option FieldType) (n : Nat) : Prop := Cond.static y ∈ wsL_law ∧ Cond.initialized y.cls ∈ wsL_law ∧ Cond.code y bytes maxL ret ∈ wsL_law ∧ (y.cls ≠ "java/lang/invoke/MethodHandle" ∧ y.cls ≠ "java/lang/invoke/VarHandle" ∧ (parseMethodDescriptor y.desc).map (fun d => d.parameters.length) = some n)
theorem kcv {R rm : Room} {s : State} {args : Array Value} {own : String} {index n : Nat} {y : MethodName} {bytes : ByteArray} {maxL : Nat} {ret : Option FieldType} (hts : ∀ w ∈ wsL_law, w.before args s = true) (M : kMeth y bytes maxL ret n) (hl : Cond.methodLink own index y ∈ wsL_law) (hz : rm.cells = 0 ∧ rm.slots = 0) (hR : rm.frames + 1 ≤ R.frames ∧ 8 + (maxL + 11) + rm.locals ≤ R.locals) : CallW R s args own y.cls index y bytes maxL ret (.code y bytes maxL ret :: wsL_law) rm 0 0 n :=
  ⟨callB_of (ws' := wsL_law) n hts (kgood M.2.2.2.1) rfl hz.1 hz.2 (hts _ M.2.2.1) (hts _ hl) M.2.2.2.2 hR, hts _ M.1, hts _ M.2.1⟩
theorem kcs {R rm : Room} {s : State} {args : Array Value} {own : String} {index n : Nat} {y : MethodName} {bytes : ByteArray} {maxL : Nat} {ret : Option FieldType} (hts : ∀ w ∈ wsL_law, w.before args s = true) (M : kMetS y bytes maxL ret n) (hl : Cond.methodLink own index y ∈ wsL_law) (hz : rm.cells = 0 ∧ rm.slots = 0) (hR : rm.frames + 1 ≤ R.frames ∧ 8 + (maxL + 11) + rm.locals ≤ R.locals) : CallB R s args own index y bytes maxL ret (.code y bytes maxL ret :: wsL_law) rm 0 0 n ∧ (Cond.static y).before args s = true :=
  ⟨callB_of (ws' := wsL_law) n hts (kgood M.2.2.1) rfl hz.1 hz.2 (hts _ M.2.1) (hts _ hl) M.2.2.2 hR, hts _ M.1⟩
theorem kcn {R rm : Room} {s : State} {args : Array Value} {own host : String} {index n : Nat} {y : MethodName} {bytes : ByteArray} {maxL : Nat} {ret : Option FieldType} (hts : ∀ w ∈ wsL_law, w.before args s = true) (M : kMetS y bytes maxL ret n) (hl : va_Nw (.methodLinkNest own index y host) s) (hz : rm.cells = 0 ∧ rm.slots = 0) (hR : rm.frames + 1 ≤ R.frames ∧ 8 + (maxL + 11) + rm.locals ≤ R.locals) : va_CN R s args own index y host bytes maxL ret (.code y bytes maxL ret :: wsL_law) rm 0 0 n ∧ (Cond.static y).before args s = true ∧ True :=
  ⟨va_cnB (ws' := wsL_law) n hts (kgood M.2.2.1) rfl hz.1 hz.2 hl (hts _ M.2.1) M.2.2.2 hR, hts _ M.1, trivial⟩
/-- the array classes: of ints, of booleans -/
abbrev kTy (cI cZ : ClassId) : List (ClassId × FieldType) := [(cI, .int), (cZ, .boolean)]
theorem kM_X6_write : kMeth yX6_write cX6_write 2 (some .int) 1 := ⟨(kin_5 _ (List.mem_of_getElem? (i := 8) rfl)), (kin_5 _ (List.mem_of_getElem? (i := 9) rfl)), (kin_1 _ (List.mem_of_getElem? (i := 2) rfl)), (kin_5 _ (List.mem_of_getElem? (i := 10) rfl)), by decide +kernel⟩
theorem kM_X1_addLetter : kMeth yX1_addLetter cX1_addLetter 2 none 1 := ⟨(kin_5 _ (List.mem_of_getElem? (i := 13) rfl)), (kin_5 _ (List.mem_of_getElem? (i := 14) rfl)), (kin_1 _ (List.mem_of_getElem? (i := 14) rfl)), (kin_5 _ (List.mem_of_getElem? (i := 15) rfl)), by decide +kernel⟩
theorem kM_X0_put : kMeth yX0_put cX0_put 3 none 2 := ⟨(kin_5 _ (List.mem_of_getElem? (i := 21) rfl)), (kin_5 _ (List.mem_of_getElem? (i := 22) rfl)), (kin_2 _ (List.mem_of_getElem? (i := 18) rfl)), (kin_5 _ (List.mem_of_getElem? (i := 23) rfl)), by decide +kernel⟩
theorem kM_X7_write : kMeth yX7_write cX7_write 2 (some .int) 1 := ⟨(kin_6 _ (List.mem_of_getElem? (i := 1) rfl)), (kin_6 _ (List.mem_of_getElem? (i := 2) rfl)), (kin_1 _ (List.mem_of_getElem? (i := 5) rfl)), (kin_6 _ (List.mem_of_getElem? (i := 3) rfl)), by decide +kernel⟩
theorem kM_X7_in : kMetS yX7_in cX7_in 6 (some .boolean) 3 := ⟨(kin_6 _ (List.mem_of_getElem? (i := 7) rfl)), (kin_1 _ (List.mem_of_getElem? (i := 5) rfl)), (kin_6 _ (List.mem_of_getElem? (i := 8) rfl)), by decide +kernel⟩
theorem kM_X6_erase : kMeth yX6_erase cX6_erase 2 (some .int) 0 := ⟨(kin_6 _ (List.mem_of_getElem? (i := 10) rfl)), (kin_6 _ (List.mem_of_getElem? (i := 11) rfl)), (kin_1 _ (List.mem_of_getElem? (i := 2) rfl)), (kin_6 _ (List.mem_of_getElem? (i := 12) rfl)), by decide +kernel⟩
theorem kM_X1_empty : kMeth yX1_empty cX1_empty 1 none 0 := ⟨(kin_6 _ (List.mem_of_getElem? (i := 14) rfl)), (kin_6 _ (List.mem_of_getElem? (i := 15) rfl)), (kin_1 _ (List.mem_of_getElem? (i := 14) rfl)), (kin_6 _ (List.mem_of_getElem? (i := 16) rfl)), by decide +kernel⟩
theorem kM_X7_erase : kMeth yX7_erase cX7_erase 2 (some .int) 0 := ⟨(kin_6 _ (List.mem_of_getElem? (i := 18) rfl)), (kin_6 _ (List.mem_of_getElem? (i := 19) rfl)), (kin_1 _ (List.mem_of_getElem? (i := 5) rfl)), (kin_6 _ (List.mem_of_getElem? (i := 20) rfl)), by decide +kernel⟩
theorem kM_X6_fault : kMeth yX6_fault cX6_fault 1 (some .int) 0 := ⟨(kin_6 _ (List.mem_of_getElem? (i := 22) rfl)), (kin_6 _ (List.mem_of_getElem? (i := 23) rfl)), (kin_1 _ (List.mem_of_getElem? (i := 2) rfl)), (kin_7 _ (List.mem_of_getElem? (i := 0) rfl)), by decide +kernel⟩
theorem kM_X1_readAll : kMeth yX1_readAll cX1_readAll 3 (some .int) 2 := ⟨(kin_7 _ (List.mem_of_getElem? (i := 4) rfl)), (kin_7 _ (List.mem_of_getElem? (i := 5) rfl)), (kin_1 _ (List.mem_of_getElem? (i := 14) rfl)), (kin_7 _ (List.mem_of_getElem? (i := 6) rfl)), by decide +kernel⟩
theorem kM_X1_step : kMeth yX1_step cX1_step 2 none 0 := ⟨(kin_7 _ (List.mem_of_getElem? (i := 13) rfl)), (kin_7 _ (List.mem_of_getElem? (i := 14) rfl)), (kin_1 _ (List.mem_of_getElem? (i := 14) rfl)), (kin_7 _ (List.mem_of_getElem? (i := 15) rfl)), by decide +kernel⟩
theorem kM_X0_at : kMeth yX0_at cX0_at 2 (some .int) 1 := ⟨(kin_7 _ (List.mem_of_getElem? (i := 17) rfl)), (kin_7 _ (List.mem_of_getElem? (i := 18) rfl)), (kin_2 _ (List.mem_of_getElem? (i := 18) rfl)), (kin_7 _ (List.mem_of_getElem? (i := 19) rfl)), by decide +kernel⟩
theorem kM_X1_sortAt : kMeth yX1_sortAt cX1_sortAt 3 (some .int) 1 := ⟨(kin_7 _ (List.mem_of_getElem? (i := 21) rfl)), (kin_7 _ (List.mem_of_getElem? (i := 22) rfl)), (kin_1 _ (List.mem_of_getElem? (i := 14) rfl)), (kin_7 _ (List.mem_of_getElem? (i := 23) rfl)), by decide +kernel⟩
theorem kM_X1_readClause : kMeth yX1_readClause cX1_readClause 2 (some .boolean) 0 := ⟨(kin_8 _ (List.mem_of_getElem? (i := 1) rfl)), (kin_8 _ (List.mem_of_getElem? (i := 2) rfl)), (kin_1 _ (List.mem_of_getElem? (i := 14) rfl)), (kin_8 _ (List.mem_of_getElem? (i := 3) rfl)), by decide +kernel⟩
theorem kM_X1_wordHere : kMeth yX1_wordHere cX1_wordHere 2 (some .int) 0 := ⟨(kin_8 _ (List.mem_of_getElem? (i := 5) rfl)), (kin_8 _ (List.mem_of_getElem? (i := 6) rfl)), (kin_1 _ (List.mem_of_getElem? (i := 14) rfl)), (kin_8 _ (List.mem_of_getElem? (i := 7) rfl)), by decide +kernel⟩
theorem kM_X1_spelling : kMetS yX1_spelling cX1_spelling 1 (some (.object "java/lang/String")) 1 := ⟨(kin_8 _ (List.mem_of_getElem? (i := 9) rfl)), (kin_1 _ (List.mem_of_getElem? (i := 14) rfl)), (kin_8 _ (List.mem_of_getElem? (i := 10) rfl)), by decide +kernel⟩
theorem kM_X1_isHere : kMeth yX1_isHere cX1_isHere 3 (some .boolean) 1 := ⟨(kin_8 _ (List.mem_of_getElem? (i := 12) rfl)), (kin_8 _ (List.mem_of_getElem? (i := 13) rfl)), (kin_1 _ (List.mem_of_getElem? (i := 14) rfl)), (kin_8 _ (List.mem_of_getElem? (i := 14) rfl)), by decide +kernel⟩
theorem kM_J0_length_8abf5 : kMeth yJ0_length_8abf5 cJ0_length_8abf5 1 (some .int) 0 := ⟨(kin_8 _ (List.mem_of_getElem? (i := 16) rfl)), (kin_8 _ (List.mem_of_getElem? (i := 17) rfl)), (kin_8 _ (List.mem_of_getElem? (i := 18) rfl)), (kin_8 _ (List.mem_of_getElem? (i := 19) rfl)), by decide +kernel⟩
theorem kM_J0_coder_7d493 : kMeth yJ0_coder_7d493 cJ0_coder_7d493 1 (some .byte) 0 := ⟨(kin_8 _ (List.mem_of_getElem? (i := 22) rfl)), (kin_8 _ (List.mem_of_getElem? (i := 23) rfl)), (kin_8 _ (List.mem_of_getElem? (i := 18) rfl)), (kin_9 _ (List.mem_of_getElem? (i := 0) rfl)), by decide +kernel⟩
theorem kM_J0_charAt_5068e : kMeth yJ0_charAt_5068e cJ0_charAt_5068e 2 (some .char) 1 := ⟨(kin_9 _ (List.mem_of_getElem? (i := 4) rfl)), (kin_9 _ (List.mem_of_getElem? (i := 5) rfl)), (kin_8 _ (List.mem_of_getElem? (i := 18) rfl)), (kin_9 _ (List.mem_of_getElem? (i := 6) rfl)), by decide +kernel⟩
theorem kM_J0_isLatin1_aae02 : kMeth yJ0_isLatin1_aae02 cJ0_isLatin1_aae02 1 (some .boolean) 0 := ⟨(kin_9 _ (List.mem_of_getElem? (i := 8) rfl)), (kin_9 _ (List.mem_of_getElem? (i := 9) rfl)), (kin_8 _ (List.mem_of_getElem? (i := 18) rfl)), (kin_9 _ (List.mem_of_getElem? (i := 10) rfl)), by decide +kernel⟩
theorem kM_J1_charAt_3b067 : kMetS yJ1_charAt_3b067 cJ1_charAt_3b067 2 (some .char) 2 := ⟨(kin_9 _ (List.mem_of_getElem? (i := 12) rfl)), (kin_9 _ (List.mem_of_getElem? (i := 13) rfl)), (kin_9 _ (List.mem_of_getElem? (i := 14) rfl)), by decide +kernel⟩
theorem kM_J0_checkIndex_df160 : kMetS yJ0_checkIndex_df160 cJ0_checkIndex_df160 2 none 2 := ⟨(kin_9 _ (List.mem_of_getElem? (i := 16) rfl)), (kin_8 _ (List.mem_of_getElem? (i := 18) rfl)), (kin_9 _ (List.mem_of_getElem? (i := 17) rfl)), by decide +kernel⟩
theorem kM_J3_checkIndex_8e157 : kMetS yJ3_checkIndex_8e157 cJ3_checkIndex_8e157 3 (some .int) 3 := ⟨(kin_9 _ (List.mem_of_getElem? (i := 20) rfl)), (kin_9 _ (List.mem_of_getElem? (i := 21) rfl)), (kin_9 _ (List.mem_of_getElem? (i := 22) rfl)), by decide +kernel⟩
theorem kM_J2_charAt_3b067 : kMetS yJ2_charAt_3b067 cJ2_charAt_3b067 2 (some .char) 2 := ⟨(kin_10 _ (List.mem_of_getElem? (i := 0) rfl)), (kin_10 _ (List.mem_of_getElem? (i := 1) rfl)), (kin_10 _ (List.mem_of_getElem? (i := 2) rfl)), by decide +kernel⟩
theorem kM_J2_checkIndex_2214a : kMetS yJ2_checkIndex_2214a cJ2_checkIndex_2214a 2 none 2 := ⟨(kin_10 _ (List.mem_of_getElem? (i := 4) rfl)), (kin_10 _ (List.mem_of_getElem? (i := 1) rfl)), (kin_10 _ (List.mem_of_getElem? (i := 5) rfl)), by decide +kernel⟩
theorem kM_J2_length_9d52b : kMetS yJ2_length_9d52b cJ2_length_9d52b 1 (some .int) 1 := ⟨(kin_10 _ (List.mem_of_getElem? (i := 7) rfl)), (kin_10 _ (List.mem_of_getElem? (i := 1) rfl)), (kin_10 _ (List.mem_of_getElem? (i := 8) rfl)), by decide +kernel⟩
theorem kM_J2_getChar_3b067 : kMetS yJ2_getChar_3b067 cJ2_getChar_3b067 2 (some .char) 2 := ⟨(kin_10 _ (List.mem_of_getElem? (i := 11) rfl)), (kin_10 _ (List.mem_of_getElem? (i := 1) rfl)), (kin_10 _ (List.mem_of_getElem? (i := 12) rfl)), by decide +kernel⟩
theorem kM_X1_canStand : kMeth yX1_canStand cX1_canStand 2 (some .boolean) 1 := ⟨(kin_10 _ (List.mem_of_getElem? (i := 17) rfl)), (kin_10 _ (List.mem_of_getElem? (i := 18) rfl)), (kin_1 _ (List.mem_of_getElem? (i := 14) rfl)), (kin_10 _ (List.mem_of_getElem? (i := 19) rfl)), by decide +kernel⟩
theorem kM_X1_countIn : kMeth yX1_countIn cX1_countIn 2 none 1 := ⟨(kin_10 _ (List.mem_of_getElem? (i := 21) rfl)), (kin_10 _ (List.mem_of_getElem? (i := 22) rfl)), (kin_1 _ (List.mem_of_getElem? (i := 14) rfl)), (kin_10 _ (List.mem_of_getElem? (i := 23) rfl)), by decide +kernel⟩
theorem kM_X1_readNumber : kMeth yX1_readNumber cX1_readNumber 5 (some .boolean) 3 := ⟨(kin_11 _ (List.mem_of_getElem? (i := 1) rfl)), (kin_11 _ (List.mem_of_getElem? (i := 2) rfl)), (kin_1 _ (List.mem_of_getElem? (i := 14) rfl)), (kin_11 _ (List.mem_of_getElem? (i := 3) rfl)), by decide +kernel⟩
theorem kM_X1_numberHere : kMeth yX1_numberHere cX1_numberHere 3 (some .int) 0 := ⟨(kin_11 _ (List.mem_of_getElem? (i := 5) rfl)), (kin_11 _ (List.mem_of_getElem? (i := 6) rfl)), (kin_1 _ (List.mem_of_getElem? (i := 14) rfl)), (kin_11 _ (List.mem_of_getElem? (i := 7) rfl)), by decide +kernel⟩
theorem kM_X7_fault : kMeth yX7_fault cX7_fault 1 (some .int) 0 := ⟨(kin_11 _ (List.mem_of_getElem? (i := 9) rfl)), (kin_11 _ (List.mem_of_getElem? (i := 10) rfl)), (kin_1 _ (List.mem_of_getElem? (i := 5) rfl)), (kin_11 _ (List.mem_of_getElem? (i := 11) rfl)), by decide +kernel⟩
theorem kM_X7_reads : kMeth yX7_reads cX7_reads 2 (some .int) 0 := ⟨(kin_11 _ (List.mem_of_getElem? (i := 13) rfl)), (kin_11 _ (List.mem_of_getElem? (i := 14) rfl)), (kin_1 _ (List.mem_of_getElem? (i := 5) rfl)), (kin_11 _ (List.mem_of_getElem? (i := 15) rfl)), by decide +kernel⟩
theorem kM_X7_takesClause : kMeth yX7_takesClause cX7_takesClause 1 (some .boolean) 0 := ⟨(kin_11 _ (List.mem_of_getElem? (i := 20) rfl)), (kin_11 _ (List.mem_of_getElem? (i := 21) rfl)), (kin_1 _ (List.mem_of_getElem? (i := 5) rfl)), (kin_11 _ (List.mem_of_getElem? (i := 22) rfl)), by decide +kernel⟩
theorem kM_X7_takesWord : kMeth yX7_takesWord cX7_takesWord 1 none 0 := ⟨(kin_12 _ (List.mem_of_getElem? (i := 8) rfl)), (kin_12 _ (List.mem_of_getElem? (i := 9) rfl)), (kin_1 _ (List.mem_of_getElem? (i := 5) rfl)), (kin_12 _ (List.mem_of_getElem? (i := 10) rfl)), by decide +kernel⟩
theorem kM_X7_begins : kMeth yX7_begins cX7_begins 1 none 0 := ⟨(kin_12 _ (List.mem_of_getElem? (i := 12) rfl)), (kin_12 _ (List.mem_of_getElem? (i := 13) rfl)), (kin_1 _ (List.mem_of_getElem? (i := 5) rfl)), (kin_12 _ (List.mem_of_getElem? (i := 14) rfl)), by decide +kernel⟩
theorem kM_X7_letterAt : kMeth yX7_letterAt cX7_letterAt 2 (some .int) 1 := ⟨(kin_12 _ (List.mem_of_getElem? (i := 16) rfl)), (kin_12 _ (List.mem_of_getElem? (i := 17) rfl)), (kin_1 _ (List.mem_of_getElem? (i := 5) rfl)), (kin_12 _ (List.mem_of_getElem? (i := 18) rfl)), by decide +kernel⟩
theorem kM_X7_isSmall : kMeth yX7_isSmall cX7_isSmall 2 (some .boolean) 1 := ⟨(kin_12 _ (List.mem_of_getElem? (i := 20) rfl)), (kin_12 _ (List.mem_of_getElem? (i := 21) rfl)), (kin_1 _ (List.mem_of_getElem? (i := 5) rfl)), (kin_12 _ (List.mem_of_getElem? (i := 22) rfl)), by decide +kernel⟩
theorem kM_X7_takesTown : kMeth yX7_takesTown cX7_takesTown 1 (some .boolean) 0 := ⟨(kin_13 _ (List.mem_of_getElem? (i := 2) rfl)), (kin_13 _ (List.mem_of_getElem? (i := 3) rfl)), (kin_1 _ (List.mem_of_getElem? (i := 5) rfl)), (kin_13 _ (List.mem_of_getElem? (i := 4) rfl)), by decide +kernel⟩
theorem kM_X7_takesNumber : kMeth yX7_takesNumber cX7_takesNumber 3 (some .boolean) 2 := ⟨(kin_13 _ (List.mem_of_getElem? (i := 7) rfl)), (kin_13 _ (List.mem_of_getElem? (i := 8) rfl)), (kin_1 _ (List.mem_of_getElem? (i := 5) rfl)), (kin_13 _ (List.mem_of_getElem? (i := 9) rfl)), by decide +kernel⟩
theorem kM_X7_isDigit : kMeth yX7_isDigit cX7_isDigit 2 (some .boolean) 1 := ⟨(kin_13 _ (List.mem_of_getElem? (i := 11) rfl)), (kin_13 _ (List.mem_of_getElem? (i := 12) rfl)), (kin_1 _ (List.mem_of_getElem? (i := 5) rfl)), (kin_13 _ (List.mem_of_getElem? (i := 13) rfl)), by decide +kernel⟩
theorem kM_X7_takesOne : kMeth yX7_takesOne cX7_takesOne 4 (some .boolean) 1 := ⟨(kin_13 _ (List.mem_of_getElem? (i := 17) rfl)), (kin_13 _ (List.mem_of_getElem? (i := 18) rfl)), (kin_1 _ (List.mem_of_getElem? (i := 5) rfl)), (kin_13 _ (List.mem_of_getElem? (i := 19) rfl)), by decide +kernel⟩
theorem kM_X7_takesRumour : kMeth yX7_takesRumour cX7_takesRumour 1 (some .boolean) 0 := ⟨(kin_13 _ (List.mem_of_getElem? (i := 21) rfl)), (kin_13 _ (List.mem_of_getElem? (i := 22) rfl)), (kin_1 _ (List.mem_of_getElem? (i := 5) rfl)), (kin_13 _ (List.mem_of_getElem? (i := 23) rfl)), by decide +kernel⟩
theorem kM_X7_takesBeard : kMeth yX7_takesBeard cX7_takesBeard 3 (some .boolean) 0 := ⟨(kin_14 _ (List.mem_of_getElem? (i := 1) rfl)), (kin_14 _ (List.mem_of_getElem? (i := 2) rfl)), (kin_1 _ (List.mem_of_getElem? (i := 5) rfl)), (kin_14 _ (List.mem_of_getElem? (i := 3) rfl)), by decide +kernel⟩
theorem kM_X6_town : kMeth yX6_town cX6_town 3 (some .int) 0 := ⟨(kin_14 _ (List.mem_of_getElem? (i := 5) rfl)), (kin_14 _ (List.mem_of_getElem? (i := 6) rfl)), (kin_1 _ (List.mem_of_getElem? (i := 2) rfl)), (kin_14 _ (List.mem_of_getElem? (i := 7) rfl)), by decide +kernel⟩
theorem kM_X1_wordOf : kMeth yX1_wordOf cX1_wordOf 2 (some .int) 1 := ⟨(kin_14 _ (List.mem_of_getElem? (i := 10) rfl)), (kin_14 _ (List.mem_of_getElem? (i := 11) rfl)), (kin_1 _ (List.mem_of_getElem? (i := 14) rfl)), (kin_14 _ (List.mem_of_getElem? (i := 12) rfl)), by decide +kernel⟩
theorem kM_X1_numberOf : kMeth yX1_numberOf cX1_numberOf 3 (some .int) 2 := ⟨(kin_14 _ (List.mem_of_getElem? (i := 14) rfl)), (kin_14 _ (List.mem_of_getElem? (i := 15) rfl)), (kin_1 _ (List.mem_of_getElem? (i := 14) rfl)), (kin_14 _ (List.mem_of_getElem? (i := 16) rfl)), by decide +kernel⟩
theorem kM_X5_hear : kMeth yX5_hear cX5_hear 5 none 4 := ⟨(kin_14 _ (List.mem_of_getElem? (i := 18) rfl)), (kin_14 _ (List.mem_of_getElem? (i := 19) rfl)), (kin_1 _ (List.mem_of_getElem? (i := 18) rfl)), (kin_14 _ (List.mem_of_getElem? (i := 20) rfl)), by decide +kernel⟩
theorem kM_X5_found : kMeth yX5_found cX5_found 2 none 1 := ⟨(kin_14 _ (List.mem_of_getElem? (i := 22) rfl)), (kin_14 _ (List.mem_of_getElem? (i := 23) rfl)), (kin_1 _ (List.mem_of_getElem? (i := 18) rfl)), (kin_15 _ (List.mem_of_getElem? (i := 0) rfl)), by decide +kernel⟩
theorem kM_X0_zero : kMeth yX0_zero cX0_zero 2 none 0 := ⟨(kin_15 _ (List.mem_of_getElem? (i := 6) rfl)), (kin_15 _ (List.mem_of_getElem? (i := 7) rfl)), (kin_2 _ (List.mem_of_getElem? (i := 18) rfl)), (kin_15 _ (List.mem_of_getElem? (i := 8) rfl)), by decide +kernel⟩
theorem kM_X5_addRumour : kMeth yX5_addRumour cX5_addRumour 2 none 1 := ⟨(kin_15 _ (List.mem_of_getElem? (i := 10) rfl)), (kin_15 _ (List.mem_of_getElem? (i := 11) rfl)), (kin_1 _ (List.mem_of_getElem? (i := 18) rfl)), (kin_15 _ (List.mem_of_getElem? (i := 12) rfl)), by decide +kernel⟩
theorem kM_X5_addPerson : kMeth yX5_addPerson cX5_addPerson 3 none 2 := ⟨(kin_15 _ (List.mem_of_getElem? (i := 15) rfl)), (kin_15 _ (List.mem_of_getElem? (i := 16) rfl)), (kin_1 _ (List.mem_of_getElem? (i := 18) rfl)), (kin_15 _ (List.mem_of_getElem? (i := 17) rfl)), by decide +kernel⟩
theorem kM_X4_startAfresh : kMeth yX4_startAfresh cX4_startAfresh 4 none 1 := ⟨(kin_15 _ (List.mem_of_getElem? (i := 19) rfl)), (kin_15 _ (List.mem_of_getElem? (i := 20) rfl)), (kin_1 _ (List.mem_of_getElem? (i := 22) rfl)), (kin_15 _ (List.mem_of_getElem? (i := 21) rfl)), by decide +kernel⟩
theorem kM_X5_toldBeard : kMeth yX5_toldBeard cX5_toldBeard 3 (some .int) 2 := ⟨(kin_16 _ (List.mem_of_getElem? (i := 1) rfl)), (kin_16 _ (List.mem_of_getElem? (i := 2) rfl)), (kin_1 _ (List.mem_of_getElem? (i := 18) rfl)), (kin_16 _ (List.mem_of_getElem? (i := 3) rfl)), by decide +kernel⟩
theorem kM_X4_setBeard : kMeth yX4_setBeard cX4_setBeard 4 none 3 := ⟨(kin_16 _ (List.mem_of_getElem? (i := 6) rfl)), (kin_16 _ (List.mem_of_getElem? (i := 7) rfl)), (kin_1 _ (List.mem_of_getElem? (i := 22) rfl)), (kin_16 _ (List.mem_of_getElem? (i := 8) rfl)), by decide +kernel⟩
theorem kM_X3_clear : kMeth yX3_clear cX3_clear 1 none 0 := ⟨(kin_16 _ (List.mem_of_getElem? (i := 11) rfl)), (kin_16 _ (List.mem_of_getElem? (i := 12) rfl)), (kin_2 _ (List.mem_of_getElem? (i := 2) rfl)), (kin_16 _ (List.mem_of_getElem? (i := 13) rfl)), by decide +kernel⟩
theorem kM_X7_town : kMeth yX7_town cX7_town 2 (some .int) 0 := ⟨(kin_16 _ (List.mem_of_getElem? (i := 16) rfl)), (kin_16 _ (List.mem_of_getElem? (i := 17) rfl)), (kin_1 _ (List.mem_of_getElem? (i := 5) rfl)), (kin_16 _ (List.mem_of_getElem? (i := 18) rfl)), by decide +kernel⟩
theorem kM_X6_person : kMeth yX6_person cX6_person 3 (some .int) 2 := ⟨(kin_16 _ (List.mem_of_getElem? (i := 22) rfl)), (kin_16 _ (List.mem_of_getElem? (i := 23) rfl)), (kin_1 _ (List.mem_of_getElem? (i := 2) rfl)), (kin_17 _ (List.mem_of_getElem? (i := 0) rfl)), by decide +kernel⟩
theorem kM_X6_isPerson : kMeth yX6_isPerson cX6_isPerson 2 (some .boolean) 1 := ⟨(kin_17 _ (List.mem_of_getElem? (i := 2) rfl)), (kin_17 _ (List.mem_of_getElem? (i := 3) rfl)), (kin_1 _ (List.mem_of_getElem? (i := 2) rfl)), (kin_17 _ (List.mem_of_getElem? (i := 4) rfl)), by decide +kernel⟩
theorem kM_X5_kindOf : kMeth yX5_kindOf cX5_kindOf 2 (some .int) 1 := ⟨(kin_17 _ (List.mem_of_getElem? (i := 6) rfl)), (kin_17 _ (List.mem_of_getElem? (i := 7) rfl)), (kin_1 _ (List.mem_of_getElem? (i := 18) rfl)), (kin_17 _ (List.mem_of_getElem? (i := 8) rfl)), by decide +kernel⟩
theorem kM_X5_secretOf : kMeth yX5_secretOf cX5_secretOf 2 (some .int) 1 := ⟨(kin_17 _ (List.mem_of_getElem? (i := 10) rfl)), (kin_17 _ (List.mem_of_getElem? (i := 11) rfl)), (kin_1 _ (List.mem_of_getElem? (i := 18) rfl)), (kin_17 _ (List.mem_of_getElem? (i := 12) rfl)), by decide +kernel⟩
theorem kM_X4_bareStrips : kMeth yX4_bareStrips cX4_bareStrips 4 (some .int) 1 := ⟨(kin_17 _ (List.mem_of_getElem? (i := 14) rfl)), (kin_17 _ (List.mem_of_getElem? (i := 15) rfl)), (kin_1 _ (List.mem_of_getElem? (i := 22) rfl)), (kin_17 _ (List.mem_of_getElem? (i := 16) rfl)), by decide +kernel⟩
theorem kM_X4_beardOn : kMeth yX4_beardOn cX4_beardOn 3 (some .int) 2 := ⟨(kin_17 _ (List.mem_of_getElem? (i := 18) rfl)), (kin_17 _ (List.mem_of_getElem? (i := 19) rfl)), (kin_1 _ (List.mem_of_getElem? (i := 22) rfl)), (kin_17 _ (List.mem_of_getElem? (i := 20) rfl)), by decide +kernel⟩
theorem kM_X4_beardsOf : kMeth yX4_beardsOf cX4_beardsOf 4 (some .int) 1 := ⟨(kin_17 _ (List.mem_of_getElem? (i := 23) rfl)), (kin_18 _ (List.mem_of_getElem? (i := 0) rfl)), (kin_1 _ (List.mem_of_getElem? (i := 22) rfl)), (kin_18 _ (List.mem_of_getElem? (i := 1) rfl)), by decide +kernel⟩
theorem kM_X7_person : kMeth yX7_person cX7_person 3 (some .int) 2 := ⟨(kin_18 _ (List.mem_of_getElem? (i := 3) rfl)), (kin_18 _ (List.mem_of_getElem? (i := 4) rfl)), (kin_1 _ (List.mem_of_getElem? (i := 5) rfl)), (kin_18 _ (List.mem_of_getElem? (i := 5) rfl)), by decide +kernel⟩
theorem kM_X7_isPerson : kMeth yX7_isPerson cX7_isPerson 2 (some .boolean) 1 := ⟨(kin_18 _ (List.mem_of_getElem? (i := 7) rfl)), (kin_18 _ (List.mem_of_getElem? (i := 8) rfl)), (kin_1 _ (List.mem_of_getElem? (i := 5) rfl)), (kin_18 _ (List.mem_of_getElem? (i := 9) rfl)), by decide +kernel⟩
theorem kM_X7_smoothOf : kMeth yX7_smoothOf cX7_smoothOf 4 (some .int) 1 := ⟨(kin_18 _ (List.mem_of_getElem? (i := 11) rfl)), (kin_18 _ (List.mem_of_getElem? (i := 12) rfl)), (kin_1 _ (List.mem_of_getElem? (i := 5) rfl)), (kin_18 _ (List.mem_of_getElem? (i := 13) rfl)), by decide +kernel⟩
theorem kM_X7_beardsOf : kMeth yX7_beardsOf cX7_beardsOf 4 (some .int) 1 := ⟨(kin_18 _ (List.mem_of_getElem? (i := 15) rfl)), (kin_18 _ (List.mem_of_getElem? (i := 16) rfl)), (kin_1 _ (List.mem_of_getElem? (i := 5) rfl)), (kin_18 _ (List.mem_of_getElem? (i := 17) rfl)), by decide +kernel⟩
theorem kM_X6_beard : kMeth yX6_beard cX6_beard 3 (some .int) 2 := ⟨(kin_18 _ (List.mem_of_getElem? (i := 19) rfl)), (kin_18 _ (List.mem_of_getElem? (i := 20) rfl)), (kin_1 _ (List.mem_of_getElem? (i := 2) rfl)), (kin_18 _ (List.mem_of_getElem? (i := 21) rfl)), by decide +kernel⟩
theorem kM_X6_isStrip : kMetS yX6_isStrip cX6_isStrip 1 (some .boolean) 1 := ⟨(kin_18 _ (List.mem_of_getElem? (i := 23) rfl)), (kin_1 _ (List.mem_of_getElem? (i := 2) rfl)), (kin_19 _ (List.mem_of_getElem? (i := 0) rfl)), by decide +kernel⟩
theorem kM_X7_beard : kMeth yX7_beard cX7_beard 3 (some .int) 2 := ⟨(kin_19 _ (List.mem_of_getElem? (i := 3) rfl)), (kin_19 _ (List.mem_of_getElem? (i := 4) rfl)), (kin_1 _ (List.mem_of_getElem? (i := 5) rfl)), (kin_19 _ (List.mem_of_getElem? (i := 5) rfl)), by decide +kernel⟩
theorem kM_X7_isStrip : kMetS yX7_isStrip cX7_isStrip 1 (some .boolean) 1 := ⟨(kin_19 _ (List.mem_of_getElem? (i := 7) rfl)), (kin_1 _ (List.mem_of_getElem? (i := 5) rfl)), (kin_19 _ (List.mem_of_getElem? (i := 8) rfl)), by decide +kernel⟩
theorem kM_X6_rumour : kMeth yX6_rumour cX6_rumour 2 (some .int) 1 := ⟨(kin_19 _ (List.mem_of_getElem? (i := 11) rfl)), (kin_19 _ (List.mem_of_getElem? (i := 12) rfl)), (kin_1 _ (List.mem_of_getElem? (i := 2) rfl)), (kin_19 _ (List.mem_of_getElem? (i := 13) rfl)), by decide +kernel⟩
theorem kM_X6_isRumour : kMeth yX6_isRumour cX6_isRumour 2 (some .boolean) 1 := ⟨(kin_19 _ (List.mem_of_getElem? (i := 15) rfl)), (kin_19 _ (List.mem_of_getElem? (i := 16) rfl)), (kin_1 _ (List.mem_of_getElem? (i := 2) rfl)), (kin_19 _ (List.mem_of_getElem? (i := 17) rfl)), by decide +kernel⟩
theorem kM_X5_rumourNumber : kMeth yX5_rumourNumber cX5_rumourNumber 2 (some .int) 1 := ⟨(kin_19 _ (List.mem_of_getElem? (i := 19) rfl)), (kin_19 _ (List.mem_of_getElem? (i := 20) rfl)), (kin_1 _ (List.mem_of_getElem? (i := 18) rfl)), (kin_19 _ (List.mem_of_getElem? (i := 21) rfl)), by decide +kernel⟩
theorem kM_X7_rumour : kMeth yX7_rumour cX7_rumour 2 (some .int) 1 := ⟨(kin_19 _ (List.mem_of_getElem? (i := 23) rfl)), (kin_20 _ (List.mem_of_getElem? (i := 0) rfl)), (kin_1 _ (List.mem_of_getElem? (i := 5) rfl)), (kin_20 _ (List.mem_of_getElem? (i := 1) rfl)), by decide +kernel⟩
theorem kM_X7_isRumour : kMeth yX7_isRumour cX7_isRumour 2 (some .boolean) 1 := ⟨(kin_20 _ (List.mem_of_getElem? (i := 3) rfl)), (kin_20 _ (List.mem_of_getElem? (i := 4) rfl)), (kin_1 _ (List.mem_of_getElem? (i := 5) rfl)), (kin_20 _ (List.mem_of_getElem? (i := 5) rfl)), by decide +kernel⟩
theorem kM_X6_knows : kMeth yX6_knows cX6_knows 6 (some .int) 3 := ⟨(kin_20 _ (List.mem_of_getElem? (i := 7) rfl)), (kin_20 _ (List.mem_of_getElem? (i := 8) rfl)), (kin_1 _ (List.mem_of_getElem? (i := 2) rfl)), (kin_20 _ (List.mem_of_getElem? (i := 9) rfl)), by decide +kernel⟩
theorem kM_X6_isBarber : kMeth yX6_isBarber cX6_isBarber 2 (some .boolean) 1 := ⟨(kin_20 _ (List.mem_of_getElem? (i := 11) rfl)), (kin_20 _ (List.mem_of_getElem? (i := 12) rfl)), (kin_1 _ (List.mem_of_getElem? (i := 2) rfl)), (kin_20 _ (List.mem_of_getElem? (i := 13) rfl)), by decide +kernel⟩
theorem kM_X4_stripsKnown : kMeth yX4_stripsKnown cX4_stripsKnown 3 (some .int) 2 := ⟨(kin_20 _ (List.mem_of_getElem? (i := 16) rfl)), (kin_20 _ (List.mem_of_getElem? (i := 17) rfl)), (kin_1 _ (List.mem_of_getElem? (i := 22) rfl)), (kin_20 _ (List.mem_of_getElem? (i := 18) rfl)), by decide +kernel⟩
theorem kM_X4_partsKnown : kMeth yX4_partsKnown cX4_partsKnown 3 (some .int) 2 := ⟨(kin_20 _ (List.mem_of_getElem? (i := 20) rfl)), (kin_20 _ (List.mem_of_getElem? (i := 21) rfl)), (kin_1 _ (List.mem_of_getElem? (i := 22) rfl)), (kin_20 _ (List.mem_of_getElem? (i := 22) rfl)), by decide +kernel⟩
theorem kM_X5_fitting : kMeth yX5_fitting cX5_fitting 5 (some .int) 2 := ⟨(kin_21 _ (List.mem_of_getElem? (i := 0) rfl)), (kin_21 _ (List.mem_of_getElem? (i := 1) rfl)), (kin_1 _ (List.mem_of_getElem? (i := 18) rfl)), (kin_21 _ (List.mem_of_getElem? (i := 2) rfl)), by decide +kernel⟩
theorem kM_X7_knows : kMeth yX7_knows cX7_knows 5 (some .int) 3 := ⟨(kin_21 _ (List.mem_of_getElem? (i := 5) rfl)), (kin_21 _ (List.mem_of_getElem? (i := 6) rfl)), (kin_1 _ (List.mem_of_getElem? (i := 5) rfl)), (kin_21 _ (List.mem_of_getElem? (i := 7) rfl)), by decide +kernel⟩
theorem kM_X7_isBarber : kMeth yX7_isBarber cX7_isBarber 2 (some .boolean) 1 := ⟨(kin_21 _ (List.mem_of_getElem? (i := 9) rfl)), (kin_21 _ (List.mem_of_getElem? (i := 10) rfl)), (kin_1 _ (List.mem_of_getElem? (i := 5) rfl)), (kin_21 _ (List.mem_of_getElem? (i := 11) rfl)), by decide +kernel⟩
theorem kM_X7_fitsOf : kMeth yX7_fitsOf cX7_fitsOf 5 (some .int) 3 := ⟨(kin_21 _ (List.mem_of_getElem? (i := 13) rfl)), (kin_21 _ (List.mem_of_getElem? (i := 14) rfl)), (kin_1 _ (List.mem_of_getElem? (i := 5) rfl)), (kin_21 _ (List.mem_of_getElem? (i := 15) rfl)), by decide +kernel⟩
theorem kM_X7_fitsBy : kMeth yX7_fitsBy cX7_fitsBy 5 (some .int) 2 := ⟨(kin_21 _ (List.mem_of_getElem? (i := 17) rfl)), (kin_21 _ (List.mem_of_getElem? (i := 18) rfl)), (kin_1 _ (List.mem_of_getElem? (i := 5) rfl)), (kin_21 _ (List.mem_of_getElem? (i := 19) rfl)), by decide +kernel⟩
theorem kM_X6_as : kMeth yX6_as cX6_as 3 (some .int) 2 := ⟨(kin_21 _ (List.mem_of_getElem? (i := 21) rfl)), (kin_21 _ (List.mem_of_getElem? (i := 22) rfl)), (kin_1 _ (List.mem_of_getElem? (i := 2) rfl)), (kin_21 _ (List.mem_of_getElem? (i := 23) rfl)), by decide +kernel⟩
theorem kM_X6_isSuch : kMetS yX6_isSuch cX6_isSuch 2 (some .boolean) 2 := ⟨(kin_22 _ (List.mem_of_getElem? (i := 1) rfl)), (kin_1 _ (List.mem_of_getElem? (i := 2) rfl)), (kin_22 _ (List.mem_of_getElem? (i := 2) rfl)), by decide +kernel⟩
theorem kM_X6_tellsNow : kMeth yX6_tellsNow cX6_tellsNow 3 (some .int) 2 := ⟨(kin_22 _ (List.mem_of_getElem? (i := 4) rfl)), (kin_22 _ (List.mem_of_getElem? (i := 5) rfl)), (kin_1 _ (List.mem_of_getElem? (i := 2) rfl)), (kin_22 _ (List.mem_of_getElem? (i := 6) rfl)), by decide +kernel⟩
theorem kM_X5_wouldTell : kMeth yX5_wouldTell cX5_wouldTell 4 (some .int) 3 := ⟨(kin_22 _ (List.mem_of_getElem? (i := 8) rfl)), (kin_22 _ (List.mem_of_getElem? (i := 9) rfl)), (kin_1 _ (List.mem_of_getElem? (i := 18) rfl)), (kin_22 _ (List.mem_of_getElem? (i := 10) rfl)), by decide +kernel⟩
theorem kM_X6_telling : kMetS yX6_telling cX6_telling 4 (some .int) 4 := ⟨(kin_22 _ (List.mem_of_getElem? (i := 13) rfl)), (kin_1 _ (List.mem_of_getElem? (i := 2) rfl)), (kin_22 _ (List.mem_of_getElem? (i := 14) rfl)), by decide +kernel⟩
theorem kM_X7_as : kMeth yX7_as cX7_as 5 (some .int) 2 := ⟨(kin_22 _ (List.mem_of_getElem? (i := 16) rfl)), (kin_22 _ (List.mem_of_getElem? (i := 17) rfl)), (kin_1 _ (List.mem_of_getElem? (i := 5) rfl)), (kin_22 _ (List.mem_of_getElem? (i := 18) rfl)), by decide +kernel⟩
theorem kM_X7_tells : kMeth yX7_tells cX7_tells 5 (some .int) 3 := ⟨(kin_22 _ (List.mem_of_getElem? (i := 21) rfl)), (kin_22 _ (List.mem_of_getElem? (i := 22) rfl)), (kin_1 _ (List.mem_of_getElem? (i := 5) rfl)), (kin_22 _ (List.mem_of_getElem? (i := 23) rfl)), by decide +kernel⟩
theorem kM_X6_shave : kMeth yX6_shave cX6_shave 5 (some .int) 3 := ⟨(kin_23 _ (List.mem_of_getElem? (i := 1) rfl)), (kin_23 _ (List.mem_of_getElem? (i := 2) rfl)), (kin_1 _ (List.mem_of_getElem? (i := 2) rfl)), (kin_23 _ (List.mem_of_getElem? (i := 3) rfl)), by decide +kernel⟩
theorem kM_X6_rememberForUndo : kMeth yX6_rememberForUndo cX6_rememberForUndo 1 none 0 := ⟨(kin_23 _ (List.mem_of_getElem? (i := 5) rfl)), (kin_23 _ (List.mem_of_getElem? (i := 6) rfl)), (kin_1 _ (List.mem_of_getElem? (i := 2) rfl)), (kin_23 _ (List.mem_of_getElem? (i := 7) rfl)), by decide +kernel⟩
theorem kM_X2_store : kMeth yX2_store cX2_store 3 none 2 := ⟨(kin_23 _ (List.mem_of_getElem? (i := 10) rfl)), (kin_23 _ (List.mem_of_getElem? (i := 11) rfl)), (kin_2 _ (List.mem_of_getElem? (i := 6) rfl)), (kin_23 _ (List.mem_of_getElem? (i := 12) rfl)), by decide +kernel⟩
theorem kM_X0_take : kMeth yX0_take cX0_take 5 none 4 := ⟨(kin_23 _ (List.mem_of_getElem? (i := 15) rfl)), (kin_23 _ (List.mem_of_getElem? (i := 16) rfl)), (kin_2 _ (List.mem_of_getElem? (i := 18) rfl)), (kin_23 _ (List.mem_of_getElem? (i := 17) rfl)), by decide +kernel⟩
theorem kM_X4_learn : kMeth yX4_learn cX4_learn 5 none 4 := ⟨(kin_23 _ (List.mem_of_getElem? (i := 23) rfl)), (kin_24 _ (List.mem_of_getElem? (i := 0) rfl)), (kin_1 _ (List.mem_of_getElem? (i := 22) rfl)), (kin_24 _ (List.mem_of_getElem? (i := 1) rfl)), by decide +kernel⟩
theorem kM_X6_replaced : kMetS yX6_replaced cX6_replaced 3 (some .int) 3 := ⟨(kin_24 _ (List.mem_of_getElem? (i := 4) rfl)), (kin_1 _ (List.mem_of_getElem? (i := 2) rfl)), (kin_24 _ (List.mem_of_getElem? (i := 5) rfl)), by decide +kernel⟩
theorem kM_X4_setKnown : kMeth yX4_setKnown cX4_setKnown 5 none 4 := ⟨(kin_24 _ (List.mem_of_getElem? (i := 7) rfl)), (kin_24 _ (List.mem_of_getElem? (i := 8) rfl)), (kin_1 _ (List.mem_of_getElem? (i := 22) rfl)), (kin_24 _ (List.mem_of_getElem? (i := 9) rfl)), by decide +kernel⟩
theorem kM_X7_shave : kMeth yX7_shave cX7_shave 4 (some .int) 3 := ⟨(kin_24 _ (List.mem_of_getElem? (i := 12) rfl)), (kin_24 _ (List.mem_of_getElem? (i := 13) rfl)), (kin_1 _ (List.mem_of_getElem? (i := 5) rfl)), (kin_24 _ (List.mem_of_getElem? (i := 14) rfl)), by decide +kernel⟩
theorem kM_X7_minds : kMeth yX7_minds cX7_minds 2 none 0 := ⟨(kin_24 _ (List.mem_of_getElem? (i := 16) rfl)), (kin_24 _ (List.mem_of_getElem? (i := 17) rfl)), (kin_1 _ (List.mem_of_getElem? (i := 5) rfl)), (kin_24 _ (List.mem_of_getElem? (i := 18) rfl)), by decide +kernel⟩
theorem kM_X7_copy : kMeth yX7_copy cX7_copy 4 none 2 := ⟨(kin_24 _ (List.mem_of_getElem? (i := 20) rfl)), (kin_24 _ (List.mem_of_getElem? (i := 21) rfl)), (kin_1 _ (List.mem_of_getElem? (i := 5) rfl)), (kin_24 _ (List.mem_of_getElem? (i := 22) rfl)), by decide +kernel⟩
theorem kM_X7_shaves : kMeth yX7_shaves cX7_shaves 6 (some .int) 4 := ⟨(kin_25 _ (List.mem_of_getElem? (i := 0) rfl)), (kin_25 _ (List.mem_of_getElem? (i := 1) rfl)), (kin_1 _ (List.mem_of_getElem? (i := 5) rfl)), (kin_25 _ (List.mem_of_getElem? (i := 2) rfl)), by decide +kernel⟩
theorem kM_X7_knowsPart : kMeth yX7_knowsPart cX7_knowsPart 7 none 5 := ⟨(kin_25 _ (List.mem_of_getElem? (i := 4) rfl)), (kin_25 _ (List.mem_of_getElem? (i := 5) rfl)), (kin_1 _ (List.mem_of_getElem? (i := 5) rfl)), (kin_25 _ (List.mem_of_getElem? (i := 6) rfl)), by decide +kernel⟩
theorem kM_X6_day : kMeth yX6_day cX6_day 1 (some .int) 0 := ⟨(kin_25 _ (List.mem_of_getElem? (i := 8) rfl)), (kin_25 _ (List.mem_of_getElem? (i := 9) rfl)), (kin_1 _ (List.mem_of_getElem? (i := 2) rfl)), (kin_25 _ (List.mem_of_getElem? (i := 10) rfl)), by decide +kernel⟩
theorem kM_X4_date : kMeth yX4_date cX4_date 1 (some .int) 0 := ⟨(kin_25 _ (List.mem_of_getElem? (i := 12) rfl)), (kin_25 _ (List.mem_of_getElem? (i := 13) rfl)), (kin_1 _ (List.mem_of_getElem? (i := 22) rfl)), (kin_25 _ (List.mem_of_getElem? (i := 14) rfl)), by decide +kernel⟩
theorem kM_X4_passDay : kMeth yX4_passDay cX4_passDay 4 none 1 := ⟨(kin_25 _ (List.mem_of_getElem? (i := 16) rfl)), (kin_25 _ (List.mem_of_getElem? (i := 17) rfl)), (kin_1 _ (List.mem_of_getElem? (i := 22) rfl)), (kin_25 _ (List.mem_of_getElem? (i := 18) rfl)), by decide +kernel⟩
theorem kM_X7_day : kMeth yX7_day cX7_day 2 (some .int) 0 := ⟨(kin_25 _ (List.mem_of_getElem? (i := 22) rfl)), (kin_25 _ (List.mem_of_getElem? (i := 23) rfl)), (kin_1 _ (List.mem_of_getElem? (i := 5) rfl)), (kin_26 _ (List.mem_of_getElem? (i := 0) rfl)), by decide +kernel⟩
theorem kM_X6_talk : kMeth yX6_talk cX6_talk 4 (some .int) 3 := ⟨(kin_26 _ (List.mem_of_getElem? (i := 2) rfl)), (kin_26 _ (List.mem_of_getElem? (i := 3) rfl)), (kin_1 _ (List.mem_of_getElem? (i := 2) rfl)), (kin_26 _ (List.mem_of_getElem? (i := 4) rfl)), by decide +kernel⟩
theorem kM_X7_talk : kMeth yX7_talk cX7_talk 6 (some .int) 3 := ⟨(kin_26 _ (List.mem_of_getElem? (i := 6) rfl)), (kin_26 _ (List.mem_of_getElem? (i := 7) rfl)), (kin_1 _ (List.mem_of_getElem? (i := 5) rfl)), (kin_26 _ (List.mem_of_getElem? (i := 8) rfl)), by decide +kernel⟩
theorem kM_X6_burn : kMeth yX6_burn cX6_burn 4 (some .int) 2 := ⟨(kin_26 _ (List.mem_of_getElem? (i := 10) rfl)), (kin_26 _ (List.mem_of_getElem? (i := 11) rfl)), (kin_1 _ (List.mem_of_getElem? (i := 2) rfl)), (kin_26 _ (List.mem_of_getElem? (i := 12) rfl)), by decide +kernel⟩
theorem kM_J6_bitCount_0f7a4 : kMetS yJ6_bitCount_0f7a4 cJ6_bitCount_0f7a4 1 (some .int) 1 := ⟨(kin_26 _ (List.mem_of_getElem? (i := 14) rfl)), (kin_26 _ (List.mem_of_getElem? (i := 15) rfl)), (kin_26 _ (List.mem_of_getElem? (i := 16) rfl)), by decide +kernel⟩
theorem kM_X7_burn : kMeth yX7_burn cX7_burn 5 (some .int) 2 := ⟨(kin_26 _ (List.mem_of_getElem? (i := 22) rfl)), (kin_26 _ (List.mem_of_getElem? (i := 23) rfl)), (kin_1 _ (List.mem_of_getElem? (i := 5) rfl)), (kin_27 _ (List.mem_of_getElem? (i := 0) rfl)), by decide +kernel⟩
theorem kM_X7_ones : kMetS yX7_ones cX7_ones 3 (some .int) 1 := ⟨(kin_27 _ (List.mem_of_getElem? (i := 2) rfl)), (kin_1 _ (List.mem_of_getElem? (i := 5) rfl)), (kin_27 _ (List.mem_of_getElem? (i := 3) rfl)), by decide +kernel⟩
theorem kM_X6_undo : kMeth yX6_undo cX6_undo 1 (some .int) 0 := ⟨(kin_27 _ (List.mem_of_getElem? (i := 5) rfl)), (kin_27 _ (List.mem_of_getElem? (i := 6) rfl)), (kin_1 _ (List.mem_of_getElem? (i := 2) rfl)), (kin_27 _ (List.mem_of_getElem? (i := 7) rfl)), by decide +kernel⟩
theorem kM_X2_fetch : kMeth yX2_fetch cX2_fetch 3 none 2 := ⟨(kin_27 _ (List.mem_of_getElem? (i := 9) rfl)), (kin_27 _ (List.mem_of_getElem? (i := 10) rfl)), (kin_2 _ (List.mem_of_getElem? (i := 6) rfl)), (kin_27 _ (List.mem_of_getElem? (i := 11) rfl)), by decide +kernel⟩
theorem kM_X7_undo : kMeth yX7_undo cX7_undo 1 (some .int) 0 := ⟨(kin_27 _ (List.mem_of_getElem? (i := 13) rfl)), (kin_27 _ (List.mem_of_getElem? (i := 14) rfl)), (kin_1 _ (List.mem_of_getElem? (i := 5) rfl)), (kin_27 _ (List.mem_of_getElem? (i := 15) rfl)), by decide +kernel⟩
theorem kM_X6_keep : kMeth yX6_keep cX6_keep 2 (some .int) 1 := ⟨(kin_27 _ (List.mem_of_getElem? (i := 17) rfl)), (kin_27 _ (List.mem_of_getElem? (i := 18) rfl)), (kin_1 _ (List.mem_of_getElem? (i := 2) rfl)), (kin_27 _ (List.mem_of_getElem? (i := 19) rfl)), by decide +kernel⟩
theorem kM_X7_keep : kMeth yX7_keep cX7_keep 2 (some .int) 1 := ⟨(kin_27 _ (List.mem_of_getElem? (i := 21) rfl)), (kin_27 _ (List.mem_of_getElem? (i := 22) rfl)), (kin_1 _ (List.mem_of_getElem? (i := 5) rfl)), (kin_27 _ (List.mem_of_getElem? (i := 23) rfl)), by decide +kernel⟩
theorem kM_X6_back : kMeth yX6_back cX6_back 2 (some .int) 1 := ⟨(kin_28 _ (List.mem_of_getElem? (i := 1) rfl)), (kin_28 _ (List.mem_of_getElem? (i := 2) rfl)), (kin_1 _ (List.mem_of_getElem? (i := 2) rfl)), (kin_28 _ (List.mem_of_getElem? (i := 3) rfl)), by decide +kernel⟩
theorem kM_X6_has : kMetS yX6_has cX6_has 2 (some .boolean) 2 := ⟨(kin_28 _ (List.mem_of_getElem? (i := 5) rfl)), (kin_1 _ (List.mem_of_getElem? (i := 2) rfl)), (kin_28 _ (List.mem_of_getElem? (i := 6) rfl)), by decide +kernel⟩
theorem kM_X7_back : kMeth yX7_back cX7_back 2 (some .int) 1 := ⟨(kin_28 _ (List.mem_of_getElem? (i := 8) rfl)), (kin_28 _ (List.mem_of_getElem? (i := 9) rfl)), (kin_1 _ (List.mem_of_getElem? (i := 5) rfl)), (kin_28 _ (List.mem_of_getElem? (i := 10) rfl)), by decide +kernel⟩
theorem kM_X6_smooth : kMeth yX6_smooth cX6_smooth 10 (some .int) 3 := ⟨(kin_28 _ (List.mem_of_getElem? (i := 12) rfl)), (kin_28 _ (List.mem_of_getElem? (i := 13) rfl)), (kin_1 _ (List.mem_of_getElem? (i := 2) rfl)), (kin_28 _ (List.mem_of_getElem? (i := 14) rfl)), by decide +kernel⟩
theorem kM_X6_stripsTelling : kMeth yX6_stripsTelling cX6_stripsTelling 4 (some .int) 1 := ⟨(kin_28 _ (List.mem_of_getElem? (i := 16) rfl)), (kin_28 _ (List.mem_of_getElem? (i := 17) rfl)), (kin_1 _ (List.mem_of_getElem? (i := 2) rfl)), (kin_28 _ (List.mem_of_getElem? (i := 18) rfl)), by decide +kernel⟩
theorem kM_X6_partsTold : kMeth yX6_partsTold cX6_partsTold 4 (some .int) 1 := ⟨(kin_28 _ (List.mem_of_getElem? (i := 20) rfl)), (kin_28 _ (List.mem_of_getElem? (i := 21) rfl)), (kin_1 _ (List.mem_of_getElem? (i := 2) rfl)), (kin_28 _ (List.mem_of_getElem? (i := 22) rfl)), by decide +kernel⟩
theorem kM_X6_fittingBehind : kMeth yX6_fittingBehind cX6_fittingBehind 7 (some .int) 4 := ⟨(kin_29 _ (List.mem_of_getElem? (i := 0) rfl)), (kin_29 _ (List.mem_of_getElem? (i := 1) rfl)), (kin_1 _ (List.mem_of_getElem? (i := 2) rfl)), (kin_29 _ (List.mem_of_getElem? (i := 2) rfl)), by decide +kernel⟩
theorem kM_X7_smooth : kMeth yX7_smooth cX7_smooth 7 (some .int) 3 := ⟨(kin_29 _ (List.mem_of_getElem? (i := 5) rfl)), (kin_29 _ (List.mem_of_getElem? (i := 6) rfl)), (kin_1 _ (List.mem_of_getElem? (i := 5) rfl)), (kin_29 _ (List.mem_of_getElem? (i := 7) rfl)), by decide +kernel⟩
theorem kM_X7_triesSet : kMeth yX7_triesSet cX7_triesSet 5 none 3 := ⟨(kin_29 _ (List.mem_of_getElem? (i := 10) rfl)), (kin_29 _ (List.mem_of_getElem? (i := 11) rfl)), (kin_1 _ (List.mem_of_getElem? (i := 5) rfl)), (kin_29 _ (List.mem_of_getElem? (i := 12) rfl)), by decide +kernel⟩
theorem kM_X7_has : kMetS yX7_has cX7_has 2 (some .boolean) 2 := ⟨(kin_29 _ (List.mem_of_getElem? (i := 14) rfl)), (kin_1 _ (List.mem_of_getElem? (i := 5) rfl)), (kin_29 _ (List.mem_of_getElem? (i := 15) rfl)), by decide +kernel⟩
theorem kM_X7_many : kMetS yX7_many cX7_many 3 (some .int) 1 := ⟨(kin_29 _ (List.mem_of_getElem? (i := 17) rfl)), (kin_1 _ (List.mem_of_getElem? (i := 5) rfl)), (kin_29 _ (List.mem_of_getElem? (i := 18) rfl)), by decide +kernel⟩
theorem kM_X6_next : kMeth yX6_next cX6_next 9 (some .int) 2 := ⟨(kin_29 _ (List.mem_of_getElem? (i := 20) rfl)), (kin_29 _ (List.mem_of_getElem? (i := 21) rfl)), (kin_1 _ (List.mem_of_getElem? (i := 2) rfl)), (kin_29 _ (List.mem_of_getElem? (i := 22) rfl)), by decide +kernel⟩
theorem kM_X5_mostAlike : kMeth yX5_mostAlike cX5_mostAlike 5 (some .int) 2 := ⟨(kin_30 _ (List.mem_of_getElem? (i := 0) rfl)), (kin_30 _ (List.mem_of_getElem? (i := 1) rfl)), (kin_1 _ (List.mem_of_getElem? (i := 18) rfl)), (kin_30 _ (List.mem_of_getElem? (i := 2) rfl)), by decide +kernel⟩
theorem kM_X7_next : kMeth yX7_next cX7_next 11 (some .int) 2 := ⟨(kin_30 _ (List.mem_of_getElem? (i := 5) rfl)), (kin_30 _ (List.mem_of_getElem? (i := 6) rfl)), (kin_1 _ (List.mem_of_getElem? (i := 5) rfl)), (kin_30 _ (List.mem_of_getElem? (i := 7) rfl)), by decide +kernel⟩
theorem kM_X6_meet : kMeth yX6_meet cX6_meet 7 (some .int) 2 := ⟨(kin_30 _ (List.mem_of_getElem? (i := 9) rfl)), (kin_30 _ (List.mem_of_getElem? (i := 10) rfl)), (kin_1 _ (List.mem_of_getElem? (i := 2) rfl)), (kin_30 _ (List.mem_of_getElem? (i := 11) rfl)), by decide +kernel⟩
theorem kM_X6_fittingTogether : kMeth yX6_fittingTogether cX6_fittingTogether 7 (some .int) 2 := ⟨(kin_30 _ (List.mem_of_getElem? (i := 13) rfl)), (kin_30 _ (List.mem_of_getElem? (i := 14) rfl)), (kin_1 _ (List.mem_of_getElem? (i := 2) rfl)), (kin_30 _ (List.mem_of_getElem? (i := 15) rfl)), by decide +kernel⟩
theorem kM_X7_meet : kMeth yX7_meet cX7_meet 9 (some .int) 2 := ⟨(kin_30 _ (List.mem_of_getElem? (i := 17) rfl)), (kin_30 _ (List.mem_of_getElem? (i := 18) rfl)), (kin_1 _ (List.mem_of_getElem? (i := 5) rfl)), (kin_30 _ (List.mem_of_getElem? (i := 19) rfl)), by decide +kernel⟩
theorem kM_X6_round : kMeth yX6_round cX6_round 6 (some .int) 3 := ⟨(kin_30 _ (List.mem_of_getElem? (i := 21) rfl)), (kin_30 _ (List.mem_of_getElem? (i := 22) rfl)), (kin_1 _ (List.mem_of_getElem? (i := 2) rfl)), (kin_30 _ (List.mem_of_getElem? (i := 23) rfl)), by decide +kernel⟩
theorem kM_X7_round : kMeth yX7_round cX7_round 5 (some .int) 3 := ⟨(kin_31 _ (List.mem_of_getElem? (i := 2) rfl)), (kin_31 _ (List.mem_of_getElem? (i := 3) rfl)), (kin_1 _ (List.mem_of_getElem? (i := 5) rfl)), (kin_31 _ (List.mem_of_getElem? (i := 4) rfl)), by decide +kernel⟩
theorem kM_X6_seen : kMeth yX6_seen cX6_seen 4 (some .int) 3 := ⟨(kin_31 _ (List.mem_of_getElem? (i := 6) rfl)), (kin_31 _ (List.mem_of_getElem? (i := 7) rfl)), (kin_1 _ (List.mem_of_getElem? (i := 2) rfl)), (kin_31 _ (List.mem_of_getElem? (i := 8) rfl)), by decide +kernel⟩
theorem kM_X3_add : kMeth yX3_add cX3_add 4 none 3 := ⟨(kin_31 _ (List.mem_of_getElem? (i := 11) rfl)), (kin_31 _ (List.mem_of_getElem? (i := 12) rfl)), (kin_2 _ (List.mem_of_getElem? (i := 2) rfl)), (kin_31 _ (List.mem_of_getElem? (i := 13) rfl)), by decide +kernel⟩
theorem kM_X7_seen : kMeth yX7_seen cX7_seen 4 (some .int) 3 := ⟨(kin_31 _ (List.mem_of_getElem? (i := 17) rfl)), (kin_31 _ (List.mem_of_getElem? (i := 18) rfl)), (kin_1 _ (List.mem_of_getElem? (i := 5) rfl)), (kin_31 _ (List.mem_of_getElem? (i := 19) rfl)), by decide +kernel⟩
theorem kM_X6_forget : kMeth yX6_forget cX6_forget 2 (some .int) 0 := ⟨(kin_31 _ (List.mem_of_getElem? (i := 23) rfl)), (kin_32 _ (List.mem_of_getElem? (i := 0) rfl)), (kin_1 _ (List.mem_of_getElem? (i := 2) rfl)), (kin_32 _ (List.mem_of_getElem? (i := 1) rfl)), by decide +kernel⟩
theorem kM_X7_forget : kMeth yX7_forget cX7_forget 2 (some .int) 0 := ⟨(kin_32 _ (List.mem_of_getElem? (i := 3) rfl)), (kin_32 _ (List.mem_of_getElem? (i := 4) rfl)), (kin_1 _ (List.mem_of_getElem? (i := 5) rfl)), (kin_32 _ (List.mem_of_getElem? (i := 5) rfl)), by decide +kernel⟩
theorem kM_X6_was : kMeth yX6_was cX6_was 3 (some .int) 0 := ⟨(kin_32 _ (List.mem_of_getElem? (i := 7) rfl)), (kin_32 _ (List.mem_of_getElem? (i := 8) rfl)), (kin_1 _ (List.mem_of_getElem? (i := 2) rfl)), (kin_32 _ (List.mem_of_getElem? (i := 9) rfl)), by decide +kernel⟩
theorem kM_X3_allTrueOf : kMeth yX3_allTrueOf cX3_allTrueOf 4 (some .boolean) 2 := ⟨(kin_32 _ (List.mem_of_getElem? (i := 11) rfl)), (kin_32 _ (List.mem_of_getElem? (i := 12) rfl)), (kin_2 _ (List.mem_of_getElem? (i := 2) rfl)), (kin_32 _ (List.mem_of_getElem? (i := 13) rfl)), by decide +kernel⟩
theorem kM_X7_was : kMeth yX7_was cX7_was 5 (some .int) 0 := ⟨(kin_32 _ (List.mem_of_getElem? (i := 17) rfl)), (kin_32 _ (List.mem_of_getElem? (i := 18) rfl)), (kin_1 _ (List.mem_of_getElem? (i := 5) rfl)), (kin_32 _ (List.mem_of_getElem? (i := 19) rfl)), by decide +kernel⟩
theorem kM_X6_stays : kMeth yX6_stays cX6_stays 10 (some .int) 4 := ⟨(kin_32 _ (List.mem_of_getElem? (i := 21) rfl)), (kin_32 _ (List.mem_of_getElem? (i := 22) rfl)), (kin_1 _ (List.mem_of_getElem? (i := 2) rfl)), (kin_32 _ (List.mem_of_getElem? (i := 23) rfl)), by decide +kernel⟩
theorem kM_X6_weight : kMetS yX6_weight cX6_weight 3 (some .int) 2 := ⟨(kin_33 _ (List.mem_of_getElem? (i := 1) rfl)), (kin_1 _ (List.mem_of_getElem? (i := 2) rfl)), (kin_33 _ (List.mem_of_getElem? (i := 2) rfl)), by decide +kernel⟩
theorem kM_X6_power : kMetS yX6_power cX6_power 4 (some .int) 2 := ⟨(kin_33 _ (List.mem_of_getElem? (i := 4) rfl)), (kin_1 _ (List.mem_of_getElem? (i := 2) rfl)), (kin_33 _ (List.mem_of_getElem? (i := 5) rfl)), by decide +kernel⟩
theorem kM_X6_commonDivisor : kMetS yX6_commonDivisor cX6_commonDivisor 6 (some .int) 2 := ⟨(kin_33 _ (List.mem_of_getElem? (i := 7) rfl)), (kin_1 _ (List.mem_of_getElem? (i := 2) rfl)), (kin_33 _ (List.mem_of_getElem? (i := 8) rfl)), by decide +kernel⟩
theorem kM_X7_stays : kMeth yX7_stays cX7_stays 9 (some .int) 4 := ⟨(kin_33 _ (List.mem_of_getElem? (i := 10) rfl)), (kin_33 _ (List.mem_of_getElem? (i := 11) rfl)), (kin_1 _ (List.mem_of_getElem? (i := 5) rfl)), (kin_33 _ (List.mem_of_getElem? (i := 12) rfl)), by decide +kernel⟩
theorem kM_X6_count : kMeth yX6_count cX6_count 2 (some .int) 1 := ⟨(kin_33 _ (List.mem_of_getElem? (i := 16) rfl)), (kin_33 _ (List.mem_of_getElem? (i := 17) rfl)), (kin_1 _ (List.mem_of_getElem? (i := 2) rfl)), (kin_33 _ (List.mem_of_getElem? (i := 18) rfl)), by decide +kernel⟩
theorem kM_X6_allBeards : kMeth yX6_allBeards cX6_allBeards 3 (some .int) 0 := ⟨(kin_33 _ (List.mem_of_getElem? (i := 20) rfl)), (kin_33 _ (List.mem_of_getElem? (i := 21) rfl)), (kin_1 _ (List.mem_of_getElem? (i := 2) rfl)), (kin_33 _ (List.mem_of_getElem? (i := 22) rfl)), by decide +kernel⟩
theorem kM_X6_allStripsKnown : kMeth yX6_allStripsKnown cX6_allStripsKnown 4 (some .int) 0 := ⟨(kin_34 _ (List.mem_of_getElem? (i := 0) rfl)), (kin_34 _ (List.mem_of_getElem? (i := 1) rfl)), (kin_1 _ (List.mem_of_getElem? (i := 2) rfl)), (kin_34 _ (List.mem_of_getElem? (i := 2) rfl)), by decide +kernel⟩
theorem kM_X7_count : kMeth yX7_count cX7_count 2 (some .int) 1 := ⟨(kin_34 _ (List.mem_of_getElem? (i := 4) rfl)), (kin_34 _ (List.mem_of_getElem? (i := 5) rfl)), (kin_1 _ (List.mem_of_getElem? (i := 5) rfl)), (kin_34 _ (List.mem_of_getElem? (i := 6) rfl)), by decide +kernel⟩
theorem kM_X7_beardsOfAll : kMeth yX7_beardsOfAll cX7_beardsOfAll 3 (some .int) 0 := ⟨(kin_34 _ (List.mem_of_getElem? (i := 8) rfl)), (kin_34 _ (List.mem_of_getElem? (i := 9) rfl)), (kin_1 _ (List.mem_of_getElem? (i := 5) rfl)), (kin_34 _ (List.mem_of_getElem? (i := 10) rfl)), by decide +kernel⟩
theorem kM_X7_knownOfAll : kMeth yX7_knownOfAll cX7_knownOfAll 3 (some .int) 0 := ⟨(kin_34 _ (List.mem_of_getElem? (i := 12) rfl)), (kin_34 _ (List.mem_of_getElem? (i := 13) rfl)), (kin_1 _ (List.mem_of_getElem? (i := 5) rfl)), (kin_34 _ (List.mem_of_getElem? (i := 14) rfl)), by decide +kernel⟩
end
section
/-! the surroundings of the class's methods: nest mates' links, the strings, two statics of the JDK -/
def kSi : Nat → Nat := fun i => [103, 105, 107, 109, 111, 113, 115].getD i 0
def kSt : Nat → String := fun i => ["plain", "bailed", "reserved", "nicked", "town", "rumour", "beard"].getD i ""
def kSl : List Nat := [5, 6, 8, 6, 4, 6, 5]
def kSb : List (List Int32) := [[112, 108, 97, 105, 110], [98, 97, 105, 108, 101, 100], [114, 101, 115, 101, 114, 118, 101, 100], [110, 105, 99, 107, 101, 100], [116, 111, 119, 110], [114, 117, 109, 111, 117, 114], [98, 101, 97, 114, 100]]
def kG (adK adV : Nat → Nat) : kE := fun A U =>
  (va_Nw (.methodLinkNest RX5 74 yX6_telling "RazorTalk") U ∧ va_Nw (.methodLinkNest RX5 81 yX6_has "RazorTalk") U ∧ va_Nw (.methodLinkNest RX4 63 yX6_replaced "RazorTalk") U) ∧
  vk_S 7 kSl kSb adK adV A U U.heap ∧ (∀ i, i < 7 → vk_R RX1 (kSi i) (kSt i) (adK i) U) ∧
  va_Z "java/lang/String" "COMPACT_STRINGS" "Z" (.int 1) A U U.heap ∧ va_Zq "jdk/internal/util/Preconditions" "SIOOBE_FORMATTER" "Ljava/util/function/BiFunction;" A U U.heap
theorem kAlike {u U : State} (h : u.vm = U.vm) : u.vm.Alike U.vm := by rw [h]; exact Vm.Alike.refl _
theorem kBl_G {adK adV : Nat → Nat} : kBl (kG adK adV) := by
  intro A u U hvm hh h
  obtain ⟨⟨n1, n2, n3⟩, h2, h3, h4, h5⟩ := h
  refine ⟨⟨va_Nw.same rfl hvm n1, va_Nw.same rfl hvm n2, va_Nw.same rfl hvm n3⟩, ?_, fun i hi => vk_R.same hvm.symm (h3 i hi), ?_, ?_⟩
  · rw [← hh]; exact vk_S.moved (kAlike hvm) h2
  · rw [← hh]; exact va_Z.moved (kAlike hvm) h4
  · rw [← hh]; exact va_Zq.moved (kAlike hvm) h5
theorem kOk_G {adK adV : Nat → Nat} : kOk (kG adK adV) (kG adK adV) := by
  intro A0 A s U h hsz hk hA hW
  obtain ⟨⟨n1, n2, n3⟩, h2, h3, h4, h5⟩ := h
  exact ⟨⟨va_Nw.warmM hW n1, va_Nw.warmM hW n2, va_Nw.warmM hW n3⟩, vk_S.moved hW.alike ((h2.kept hk).narrow hA), fun i hi => vk_R.warm hW (h3 i hi), va_Z.moved hW.alike ((h4.kept hk).narrow hA), va_Zq.moved hW.alike ((h5.kept hk).narrow hA)⟩
/-! the class's cells: addresses q 0 .. q 32 -/
abbrev wR (cI : ClassId) (h a n : Nat) (f : Nat → Int32) : va_W := [(h, .inr (0, [.ref a])), (a, .inl (cI, n, .inl f))]
abbrev wRT (q : Nat → Nat) (lat und kpl : Int32) : va_W := [(q 0, .inr (6, [.ref (q 1), .ref (q 8), .ref (q 17), .ref (q 20), .ref (q 27), .ref (q 30), .int lat, .int und, .int kpl]))]
abbrev wScr (cI : ClassId) (q : Nat → Nat) (len ncl spe sru sbe sen : Int32) (lets wrds nums : Nat → Int32) : va_W := [(q 1, .inr (1, [.ref (q 2), .ref (q 4), .ref (q 6), .int len, .int ncl, .int spe, .int sru, .int sbe, .int sen])), (q 2, .inr (0, [.ref (q 3)])), (q 3, .inl (cI, 160, .inl lets)), (q 4, .inr (0, [.ref (q 5)])), (q 5, .inl (cI, 14, .inl wrds)), (q 6, .inr (0, [.ref (q 7)])), (q 7, .inl (cI, 42, .inl nums))]
abbrev wTown (cI : ClassId) (q : Nat → Nat) (tb tp tr : Int32) (knd sec brd rms : Nat → Int32) : va_W := [(q 8, .inr (5, [.int tb, .int tp, .int tr, .ref (q 9), .ref (q 11), .ref (q 13), .ref (q 15)])), (q 9, .inr (0, [.ref (q 10)])), (q 10, .inl (cI, 6, .inl knd)), (q 11, .inr (0, [.ref (q 12)])), (q 12, .inl (cI, 6, .inl sec)), (q 13, .inr (0, [.ref (q 14)])), (q 14, .inl (cI, 36, .inl brd)), (q 15, .inr (0, [.ref (q 16)])), (q 16, .inl (cI, 8, .inl rms))]
abbrev wStd (cI : ClassId) (q : Nat → Nat) (std : Nat → Int32) : va_W := [(q 17, .inr (4, [.ref (q 18)])), (q 18, .inr (0, [.ref (q 19)])), (q 19, .inl (cI, 85, .inl std))]
abbrev wSee (cI : ClassId) (q : Nat → Nat) (sn : Int32) (ss sb sp : Nat → Int32) : va_W := [(q 20, .inr (3, [.int sn, .ref (q 21), .ref (q 23), .ref (q 25)])), (q 21, .inr (0, [.ref (q 22)])), (q 22, .inl (cI, 6, .inl ss)), (q 23, .inr (0, [.ref (q 24)])), (q 24, .inl (cI, 6, .inl sb)), (q 25, .inr (0, [.ref (q 26)])), (q 26, .inl (cI, 6, .inl sp))]
abbrev wShf (cI : ClassId) (b r a n : Nat) (f : Nat → Int32) : va_W := [(b, .inr (2, [.ref r])), (r, .inr (0, [.ref a])), (a, .inl (cI, n, .inl f))]
abbrev wC (cI : ClassId) (q : Nat → Nat) (lat und kpl len ncl spe sru sbe sen : Int32) (lets wrds nums : Nat → Int32) (tb tp tr : Int32) (knd sec brd rms std : Nat → Int32) (sn : Int32) (ss sb sp past kept : Nat → Int32) : va_W :=
  wRT q lat und kpl ++ (wScr cI q len ncl spe sru sbe sen lets wrds nums ++ (wTown cI q tb tp tr knd sec brd rms ++ (wStd cI q std ++ (wSee cI q sn ss sb sp ++ (wShf cI (q 27) (q 28) (q 29) 680 past ++ wShf cI (q 30) (q 31) (q 32) 170 kept)))))
/-! the reference's cells: addresses u 0 .. u 8 -/
abbrev wM (cI cZ : ClassId) (u : Nat → Nat) (w told read isK : Nat → Int32) (undoes : Int32) (text : Nat → Int32) (texted seen : Int32) (seS seB seP : Nat → Int32) (at_ start clauses number : Int32) (word : Int64) : va_W :=
  [(u 0, .inr (7, [.ref (u 1), .ref (u 2), .ref (u 3), .ref (u 4), .int undoes, .ref (u 5), .int texted, .int seen, .ref (u 6), .ref (u 7), .ref (u 8), .int at_, .int start, .int clauses, .int number, .long word])), (u 1, .inl (cI, 1020, .inl w)), (u 2, .inl (cI, 59, .inl told)), (u 3, .inl (cI, 59, .inl read)), (u 4, .inl (cZ, 2, .inl isK)), (u 5, .inl (cI, 160, .inl text)), (u 6, .inl (cI, 6, .inl seS)), (u 7, .inl (cI, 6, .inl seB)), (u 8, .inl (cI, 6, .inl seP))]
/-! in-range of what was tested -/
theorem kin_of {x : Int32} {n : Nat} (h1 : ¬ x < 0) (h2 : ¬ nI n ≤ x) (hn : n < 2147483648) : vp_in x n := by
  obtain ⟨j, hj, rfl⟩ := nI_of h1
  rcases Nat.lt_or_ge j n with h | h
  · exact vp_in_nI h hn
  · exact absurd (nI_le h hj) h2
theorem kneI {x k : Int32} (h : ¬ x = k) : x.toInt ≠ k.toInt := fun e => h (Int32.toInt_inj.mp e)
def kushr (x y : Int32) : Int32 := (x.toUInt32 >>> (y.toUInt32 &&& Int32.toUInt32 31)).toInt32
theorem kb.ne0 {x : Int32} {lo hi : Nat} (h : kb x lo hi) (h0 : 0 < lo) (hs : hi < 2147483648) : ¬ x = 0 := by
  obtain ⟨a, a1, a2, rfl⟩ := h
  exact nI_ne0 (by omega) (by omega)
theorem knlt {x : Int32} (h : 0 ≤ x) : ¬ x < 0 := Int32.not_lt.mpr h
theorem kle_of {x y : Int32} (h : ¬ y < x) : x ≤ y := Int32.not_lt.mp h
theorem ktake {x len : Int32} {n : Nat} (hx : ¬ x < 0) (hl : 0 ≤ len) (h : x ≤ nI n - len) (hn : n < 2147483648) : x.toNatClampNeg + len.toNatClampNeg ≤ n := by
  obtain ⟨a, ha, rfl⟩ := nI_of hx
  obtain ⟨b, hb, rfl⟩ := nI_of (knlt hl)
  rw [nI_clamp ha, nI_clamp hb]
  rw [Int32.le_iff_toInt_le, Int32.toInt_sub, nI_toInt ha, nI_toInt hb, nI_toInt hn] at h
  rw [Int.bmod_eq_of_le (by omega) (by omega)] at h
  omega
end
section
def v_X0_at_1_0 (n : Nat) (f : Nat → Int32) (place : Int32) : Int32 := if place < 0 then 0 else (if (nI n) ≤ place then 0 else (f place.toNatClampNeg))
def f_X0_at (n : Nat) (f : Nat → Int32) (place : Int32) : Int32 := (v_X0_at_1_0 n f place)
abbrev rm_X0_at : Room := { frames := 0, cells := 0, slots := 0, locals := 0 }
set_option maxRecDepth 100000 in
set_option maxHeartbeats 4000000 in
theorem k_X0_at (l : Launch) (D : va_G) (cI cZ : ClassId) (adK adV : Nat → Nat) (h : Nat) (a : Nat) (n : Nat) (f : Nat → Int32) (place : Int32) (hn : n < 2147483648) : CI l D (kTy cI cZ) (kG adK adV) yX0_at (.code yX0_at cX0_at 2 (some .int) :: wsL_law) rm_X0_at [.ref h, .int place] (wR cI h a n f) (wR cI h a n f) (f_X0_at n f place) := by
  refine CI.of (cc := cX0_at) (maxL := 2) (ty := .int) (by decide) rfl (Nat.le_of_ble_eq_true rfl) rfl ?_
  intro p e s m args below meth c A Q ls hx hb hml hts0 hown hA hP hK hD hE hl hret
  have hts : ∀ w ∈ wsL_law, w.before args s = true := fun w h => hts0 w (List.mem_cons_of_mem _ h)
  clear hts0
  have hown : s.vm.findClass RX0 = some m.cls := hown
  have hl : lv_has ls 2 [(0, .ref h), (1, .int place)] := hl
  have hS : va_S A s.heap s.heap [] := va_S.rf
  revert hP hS
  suffices hgo : ∀ (H : Heap) (locs : List Loc), va_P D vwCl (wR cI h a n f) H → va_S A s.heap H locs → W p l e rm_X0_at s m args below meth c H locs 0 0 Q (F0 m 0 ls []) from fun a b => hgo _ _ a b
  intro H locs hP hS
  refine lv_iload_n hx hb dX0_at_0 rfl (lv_at hl 1 rfl) ?_
  have J1 : ∀ (H : Heap) (locs : List Loc) (ls : Array Slot), va_P D vwCl (wR cI h a n f) H → va_D A (wR cI h a n f) → va_S A s.heap H locs → lv_has ls 2 [(0, .ref h), (1, .int place)] → W p l e rm_X0_at s m args below meth c H locs 0 0 Q (F0 m 23 ls [.int (v_X0_at_1_0 n f place)]) := by
    intro H locs ls hP hD hS hl
    have hf : (f_X0_at n f place) = (v_X0_at_1_0 n f place) := rfl
    rw [hf] at hret
    exact hret _ _ _ _ hP hS dX0_at_23
  refine lv_if_lt (tgt := 22) hx hb dX0_at_1 (by decide) (fun c_1 => ?_) (fun c_1 => ?_)
  · skip
    refine lv_iconst (v := 0) hx hb dX0_at_22 (by decide) ?_
    rw [show (v_X0_at_1_0 n f place) = 0 from (if_pos c_1)] at J1
    exact J1 _ _ _ hP hD hS (lv_sub hl [0, 1] rfl)
  · skip
    refine lv_iload_n hx hb dX0_at_4 rfl (lv_at hl 1 rfl) ?_
    refine lv_aload_n hx hb dX0_at_5 rfl (lv_at hl 0 rfl) ?_
    refine va_get (D := D) (ci := 0) (v := .ref a) (C := RX0) (T := TX0) (N := 1) hx hb hts inlX0 hown hK hP 0 rfl rfl 0 (by decide) (kw hts kin_3 7 rfl) (fun _ h9 => h9) rfl dX0_at_6 ?_
    refine va_alen (cA := cI) (v := (nI n)) (ty := .int) (x := (n, .inl f)) hx hb hK hP 1 0 rfl rfl rfl dX0_at_9 ?_
    refine lv_icmp_ge (tgt := 22) hx hb dX0_at_10 (by decide) (fun c_10 => ?_) (fun c_10 => ?_)
    · skip
      refine lv_iconst (v := 0) hx hb dX0_at_22 (by decide) ?_
      rw [show (v_X0_at_1_0 n f place) = 0 from ((if_neg c_1).trans (if_pos c_10))] at J1
      exact J1 _ _ _ hP hD hS (lv_sub hl [0, 1] rfl)
    · skip
      refine lv_aload_n hx hb dX0_at_13 rfl (lv_at hl 0 rfl) ?_
      refine va_get (D := D) (ci := 0) (v := .ref a) (C := RX0) (T := TX0) (N := 1) hx hb hts inlX0 hown hK hP 0 rfl rfl 0 (by decide) (kw hts kin_3 7 rfl) (fun _ h9 => h9) rfl dX0_at_14 ?_
      refine lv_iload_n hx hb dX0_at_17 rfl (lv_at hl 1 rfl) ?_
      refine va_iald (cA := cI) (n := n) (f := f) hx hb hK hP 1 0 rfl rfl (kin_of c_1 c_10 hn) dX0_at_18 ?_
      refine lv_goto (tgt := 23) hx hb dX0_at_19 (by decide) ?_
      rw [show (v_X0_at_1_0 n f place) = (f place.toNatClampNeg) from ((if_neg c_1).trans (if_neg c_10))] at J1
      exact J1 _ _ _ hP hD hS (lv_sub hl [0, 1] rfl)
def v_X0_put_1_0 (n : Nat) (f : Nat → Int32) (place : Int32) (number : Int32) : Nat → Int32 := if place < 0 then f else (if (nI n) ≤ place then f else (upd f place.toNatClampNeg number))
def f_X0_put (n : Nat) (f : Nat → Int32) (place : Int32) (number : Int32) : (Nat → Int32) := (v_X0_put_1_0 n f place number)
abbrev rm_X0_put : Room := { frames := 0, cells := 0, slots := 0, locals := 0 }
set_option maxRecDepth 100000 in
set_option maxHeartbeats 4000000 in
theorem k_X0_put (l : Launch) (D : va_G) (cI cZ : ClassId) (adK adV : Nat → Nat) (h : Nat) (a : Nat) (n : Nat) (f : Nat → Int32) (place : Int32) (number : Int32) (hn : n < 2147483648) : CV l D (kTy cI cZ) (kG adK adV) yX0_put (.code yX0_put cX0_put 3 none :: wsL_law) rm_X0_put [.ref h, .int place, .int number] (wR cI h a n f) (wR cI h a n (f_X0_put n f place number)) := by
  refine CV.of (cc := cX0_put) (maxL := 3) (by decide) rfl (Nat.le_of_ble_eq_true rfl) ?_
  intro p e s m args below meth c A Q ls hx hb hml hts0 hown hA hP hK hD hE hl hret
  have hts : ∀ w ∈ wsL_law, w.before args s = true := fun w h => hts0 w (List.mem_cons_of_mem _ h)
  clear hts0
  have hown : s.vm.findClass RX0 = some m.cls := hown
  have hl : lv_has ls 3 [(0, .ref h), (1, .int place), (2, .int number)] := hl
  have hS : va_S A s.heap s.heap [] := va_S.rf
  revert hP hS
  suffices hgo : ∀ (H : Heap) (locs : List Loc), va_P D vwCl (wR cI h a n f) H → va_S A s.heap H locs → W p l e rm_X0_put s m args below meth c H locs 0 0 Q (F0 m 0 ls []) from fun a b => hgo _ _ a b
  intro H locs hP hS
  refine lv_iload_n hx hb dX0_put_0 rfl (lv_at hl 1 rfl) ?_
  have J1 : ∀ (H : Heap) (locs : List Loc) (ls : Array Slot), va_P D vwCl (wR cI h a n (v_X0_put_1_0 n f place number)) H → va_D A (wR cI h a n (v_X0_put_1_0 n f place number)) → va_S A s.heap H locs → lv_has ls 3 [(0, .ref h), (1, .int place), (2, .int number)] → W p l e rm_X0_put s m args below meth c H locs 0 0 Q (F0 m 20 ls []) := by
    intro H locs ls hP hD hS hl
    have hf : (f_X0_put n f place number) = (v_X0_put_1_0 n f place number) := rfl
    rw [hf] at hret
    exact hret _ _ _ _ hP hS dX0_put_20
  refine lv_if_lt (tgt := 20) hx hb dX0_put_1 (by decide) (fun c_1 => ?_) (fun c_1 => ?_)
  · skip
    rw [show (v_X0_put_1_0 n f place number) = f from (if_pos c_1)] at J1
    exact J1 _ _ _ hP hD hS (lv_sub hl [0, 1, 2] rfl)
  · skip
    refine lv_iload_n hx hb dX0_put_4 rfl (lv_at hl 1 rfl) ?_
    refine lv_aload_n hx hb dX0_put_5 rfl (lv_at hl 0 rfl) ?_
    refine va_get (D := D) (ci := 0) (v := .ref a) (C := RX0) (T := TX0) (N := 1) hx hb hts inlX0 hown hK hP 0 rfl rfl 0 (by decide) (kw hts kin_3 7 rfl) (fun _ h9 => h9) rfl dX0_put_6 ?_
    refine va_alen (cA := cI) (v := (nI n)) (ty := .int) (x := (n, .inl f)) hx hb hK hP 1 0 rfl rfl rfl dX0_put_9 ?_
    refine lv_icmp_ge (tgt := 20) hx hb dX0_put_10 (by decide) (fun c_10 => ?_) (fun c_10 => ?_)
    · skip
      rw [show (v_X0_put_1_0 n f place number) = f from ((if_neg c_1).trans (if_pos c_10))] at J1
      exact J1 _ _ _ hP hD hS (lv_sub hl [0, 1, 2] rfl)
    · skip
      refine lv_aload_n hx hb dX0_put_13 rfl (lv_at hl 0 rfl) ?_
      refine va_get (D := D) (ci := 0) (v := .ref a) (C := RX0) (T := TX0) (N := 1) hx hb hts inlX0 hown hK hP 0 rfl rfl 0 (by decide) (kw hts kin_3 7 rfl) (fun _ h9 => h9) rfl dX0_put_14 ?_
      refine lv_iload_n hx hb dX0_put_17 rfl (lv_at hl 1 rfl) ?_
      refine lv_iload_n hx hb dX0_put_18 rfl (lv_at hl 2 rfl) ?_
      refine va_iast (cA := cI) (n := n) (f := f) hx hb hK hP hD hS 1 0 rfl rfl (kin_of c_1 c_10 hn) dX0_put_19 (fun H locs hP hD hS => ?_)
      have hP : va_P D vwCl (wR cI h a n (upd f place.toNatClampNeg number)) H := hP
      have hD : va_D A (wR cI h a n (upd f place.toNatClampNeg number)) := hD
      rw [show (v_X0_put_1_0 n f place number) = (upd f place.toNatClampNeg number) from ((if_neg c_1).trans (if_neg c_10))] at J1
      exact J1 _ _ _ hP hD hS (lv_sub hl [0, 1, 2] rfl)
def nx_X0_zero_2 (i : Nat) (y2_f : Nat → Int32) : (Nat → Int32) := (upd y2_f ((nI i).toNatClampNeg) 0)
def x_X0_zero_2 (n : Nat) (f : Nat → Int32) : (Nat → Int32) := lp (fun iz z => nx_X0_zero_2 iz z) f n
def f_X0_zero (n : Nat) (f : Nat → Int32) : (Nat → Int32) := (x_X0_zero_2 n f)
abbrev rm_X0_zero : Room := { frames := 0, cells := 0, slots := 0, locals := 0 }
set_option maxRecDepth 100000 in
set_option maxHeartbeats 4000000 in
theorem k_X0_zero (l : Launch) (D : va_G) (cI cZ : ClassId) (adK adV : Nat → Nat) (h : Nat) (a : Nat) (n : Nat) (f : Nat → Int32) (hn : n < 2147483648) : CV l D (kTy cI cZ) (kG adK adV) yX0_zero (.code yX0_zero cX0_zero 2 none :: wsL_law) rm_X0_zero [.ref h] (wR cI h a n f) (wR cI h a n (f_X0_zero n f)) := by
  refine CV.of (cc := cX0_zero) (maxL := 2) (by decide) rfl (Nat.le_of_ble_eq_true rfl) ?_
  intro p e s m args below meth c A Q ls hx hb hml hts0 hown hA hP hK hD hE hl hret
  have hts : ∀ w ∈ wsL_law, w.before args s = true := fun w h => hts0 w (List.mem_cons_of_mem _ h)
  clear hts0
  have hown : s.vm.findClass RX0 = some m.cls := hown
  have hl : lv_has ls 2 [(0, .ref h)] := hl
  have hS : va_S A s.heap s.heap [] := va_S.rf
  revert hP hS
  suffices hgo : ∀ (H : Heap) (locs : List Loc), va_P D vwCl (wR cI h a n f) H → va_S A s.heap H locs → W p l e rm_X0_zero s m args below meth c H locs 0 0 Q (F0 m 0 ls []) from fun a b => hgo _ _ a b
  intro H locs hP hS
  refine lv_iconst (v := 0) hx hb dX0_zero_0 (by decide) ?_
  refine lv_istore_n (lv' := [(1, .int 0), (0, .ref h)]) hx hb dX0_zero_1 rfl hl (by decide) rfl (fun ls hl => ?_)
  have lp2 : ∀ (k2 i : Nat) (y2_f : Nat → Int32), i + k2 = n → y2_f = lp (fun iz z => nx_X0_zero_2 iz z) f i → ∀ (H : Heap) (locs : List Loc) (ls : Array Slot), va_P D vwCl (wR cI h a n y2_f) H → va_D A (wR cI h a n y2_f) → va_S A s.heap H locs → lv_has ls 2 [(0, .ref h), (1, .int (nI i))] → W p l e rm_X0_zero s m args below meth c H locs 0 0 Q (F0 m 2 ls []) := by
    intro k2
    induction k2 with
    | zero =>
      intro i y2_f hi2 ea2 H locs ls hP hD hS hl
      have hi2 : n = i := by omega
      subst hi2
      have ea2 : y2_f = (x_X0_zero_2 n f) := ea2
      subst ea2
      refine lv_iload_n hx hb dX0_zero_2 rfl (lv_at hl 1 rfl) ?_
      refine lv_aload_n hx hb dX0_zero_3 rfl (lv_at hl 0 rfl) ?_
      refine va_get (D := D) (ci := 0) (v := .ref a) (C := RX0) (T := TX0) (N := 1) hx hb hts inlX0 hown hK hP 0 rfl rfl 0 (by decide) (kw hts kin_3 7 rfl) (fun _ h9 => h9) rfl dX0_zero_4 ?_
      refine va_alen (cA := cI) (v := (nI n)) (ty := .int) (x := (n, .inl (x_X0_zero_2 n f))) hx hb hK hP 1 0 rfl rfl rfl dX0_zero_7 ?_
      refine lv_icmp_ge (tgt := 24) hx hb dX0_zero_8 (by decide) (fun _ => ?_) (fun c_8 => absurd (nI_le (Nat.le_refl _) hn) c_8)
      have hf : (f_X0_zero n f) = (x_X0_zero_2 n f) := rfl
      rw [hf] at hret
      exact hret _ _ _ _ hP hS dX0_zero_24
    | succ k2 ih2 =>
      intro i y2_f hi2 ea2 H locs ls hP hD hS hl
      have hlt2 : i < n := by omega
      refine lv_iload_n hx hb dX0_zero_2 rfl (lv_at hl 1 rfl) ?_
      refine lv_aload_n hx hb dX0_zero_3 rfl (lv_at hl 0 rfl) ?_
      refine va_get (D := D) (ci := 0) (v := .ref a) (C := RX0) (T := TX0) (N := 1) hx hb hts inlX0 hown hK hP 0 rfl rfl 0 (by decide) (kw hts kin_3 7 rfl) (fun _ h9 => h9) rfl dX0_zero_4 ?_
      refine va_alen (cA := cI) (v := (nI n)) (ty := .int) (x := (n, .inl y2_f)) hx hb hK hP 1 0 rfl rfl rfl dX0_zero_7 ?_
      refine lv_icmp_ge (tgt := 24) hx hb dX0_zero_8 (by decide) (fun c_8 => absurd c_8 (nI_ge hlt2 hn)) (fun _ => ?_)
      refine lv_aload_n hx hb dX0_zero_11 rfl (lv_at hl 0 rfl) ?_
      refine va_get (D := D) (ci := 0) (v := .ref a) (C := RX0) (T := TX0) (N := 1) hx hb hts inlX0 hown hK hP 0 rfl rfl 0 (by decide) (kw hts kin_3 7 rfl) (fun _ h9 => h9) rfl dX0_zero_12 ?_
      refine lv_iload_n hx hb dX0_zero_15 rfl (lv_at hl 1 rfl) ?_
      refine lv_iconst (v := 0) hx hb dX0_zero_16 (by decide) ?_
      refine va_iast (cA := cI) (n := n) (f := y2_f) hx hb hK hP hD hS 1 0 rfl rfl (vp_in_nI hlt2 hn) dX0_zero_17 (fun H locs hP hD hS => ?_)
      have hP : va_P D vwCl (wR cI h a n (upd y2_f ((nI i).toNatClampNeg) 0)) H := hP
      have hD : va_D A (wR cI h a n (upd y2_f ((nI i).toNatClampNeg) 0)) := hD
      refine lv_iinc (v := (nI (i + 1))) (lv' := [(1, .int (nI (i + 1))), (0, .ref h)]) hx hb dX0_zero_18 hl (k := 1) rfl (nI_1 i) (by decide) rfl (fun ls hl => ?_)
      refine lv_goto (tgt := 2) hx hb dX0_zero_21 (by decide) ?_
      have hb2 : nx_X0_zero_2 i y2_f = (upd y2_f ((nI i).toNatClampNeg) 0) := rfl
      exact ih2 (i + 1) (upd y2_f ((nI i).toNatClampNeg) 0) (by omega) (hb2.symm.trans (congrArg ((fun iz z => nx_X0_zero_2 iz z) i) ea2)) _ _ _ hP hD hS (lv_sub hl [1, 0] rfl)
  exact lp2 n 0 f (Nat.zero_add _) rfl _ _ _ hP hD hS (lv_sub hl [1, 0] rfl)
def f_X0_take (n : Nat) (n1 : Nat) (f : Nat → Int32) (g : Nat → Int32) (begin_ : Int32) (place : Int32) (length : Int32) : (Nat → Int32) := if begin_ < 0 then f else (if place < 0 then f else (if 0 ≤ length then (if ((nI n1) - length) < begin_ then f else (if place ≤ ((nI n) - length) then (va_cpy g f begin_.toNatClampNeg place.toNatClampNeg length.toNatClampNeg) else f)) else f))
abbrev rm_X0_take : Room := { frames := 1, cells := 0, slots := 0, locals := 60 }
set_option maxRecDepth 100000 in
set_option maxHeartbeats 4000000 in
theorem k_X0_take (l : Launch) (D : va_G) (cI cZ : ClassId) (adK adV : Nat → Nat) (h : Nat) (a : Nat) (n : Nat) (h1 : Nat) (a1 : Nat) (n1 : Nat) (f : Nat → Int32) (g : Nat → Int32) (begin_ : Int32) (place : Int32) (length : Int32) (hn : n < 2147483648) (hn1 : n1 < 2147483648) : CV l D (kTy cI cZ) (kG adK adV) yX0_take (.code yX0_take cX0_take 5 none :: wsL_law) rm_X0_take [.ref h, .ref h1, .int begin_, .int place, .int length] (wR cI h a n f ++ wR cI h1 a1 n1 g) (wR cI h a n (f_X0_take n n1 f g begin_ place length) ++ wR cI h1 a1 n1 g) := by
  refine CV.of (cc := cX0_take) (maxL := 5) (by decide) rfl (Nat.le_of_ble_eq_true rfl) ?_
  intro p e s m args below meth c A Q ls hx hb hml hts0 hown hA hP hK hD hE hl hret
  have hts : ∀ w ∈ wsL_law, w.before args s = true := fun w h => hts0 w (List.mem_cons_of_mem _ h)
  clear hts0
  have hown : s.vm.findClass RX0 = some m.cls := hown
  have hl : lv_has ls 5 [(0, .ref h), (1, .ref h1), (2, .int begin_), (3, .int place), (4, .int length)] := hl
  have hS : va_S A s.heap s.heap [] := va_S.rf
  revert hP hS
  suffices hgo : ∀ (H : Heap) (locs : List Loc), va_P D vwCl (wR cI h a n f ++ wR cI h1 a1 n1 g) H → va_S A s.heap H locs → W p l e rm_X0_take s m args below meth c H locs 0 0 Q (F0 m 0 ls []) from fun a b => hgo _ _ a b
  intro H locs hP hS
  refine lv_iload_n hx hb dX0_take_0 rfl (lv_at hl 2 rfl) ?_
  refine lv_if_lt (tgt := 13) hx hb dX0_take_1 (by decide) (fun c_1 => ?_) (fun c_1 => ?_)
  · skip
    have hf : (f_X0_take n n1 f g begin_ place length) = f := (if_pos c_1)
    rw [hf] at hret
    exact hret _ _ _ _ hP hS dX0_take_13
  · skip
    refine lv_iload_n hx hb dX0_take_4 rfl (lv_at hl 3 rfl) ?_
    refine lv_if_lt (tgt := 13) hx hb dX0_take_5 (by decide) (fun c_5 => ?_) (fun c_5 => ?_)
    · skip
      have hf : (f_X0_take n n1 f g begin_ place length) = f := ((if_neg c_1).trans (if_pos c_5))
      rw [hf] at hret
      exact hret _ _ _ _ hP hS dX0_take_13
    · skip
      refine lv_iload hx hb dX0_take_8 (lv_at hl 4 rfl) ?_
      refine lv_if_ge (tgt := 14) hx hb dX0_take_10 (by decide) (fun c_10 => ?_) (fun c_10 => ?_)
      · skip
        refine lv_iload_n hx hb dX0_take_14 rfl (lv_at hl 2 rfl) ?_
        refine lv_aload_n hx hb dX0_take_15 rfl (lv_at hl 1 rfl) ?_
        refine va_get (D := D) (ci := 0) (v := .ref a1) (C := RX0) (T := TX0) (N := 1) hx hb hts inlX0 hown hK hP 2 rfl rfl 0 (by decide) (kw hts kin_3 7 rfl) (fun _ h9 => h9) rfl dX0_take_16 ?_
        refine va_alen (cA := cI) (v := (nI n1)) (ty := .int) (x := (n1, .inl g)) hx hb hK hP 3 0 rfl rfl rfl dX0_take_19 ?_
        refine lv_iload hx hb dX0_take_20 (lv_at hl 4 rfl) ?_
        refine lv_isub hx hb dX0_take_22 ?_
        refine lv_icmp_gt (tgt := 38) hx hb dX0_take_23 (by decide) (fun c_23 => ?_) (fun c_23 => ?_)
        · skip
          have hf : (f_X0_take n n1 f g begin_ place length) = f := ((if_neg c_1).trans ((if_neg c_5).trans ((if_pos c_10).trans (if_pos c_23))))
          rw [hf] at hret
          exact hret _ _ _ _ hP hS dX0_take_38
        · skip
          refine lv_iload_n hx hb dX0_take_26 rfl (lv_at hl 3 rfl) ?_
          refine lv_aload_n hx hb dX0_take_27 rfl (lv_at hl 0 rfl) ?_
          refine va_get (D := D) (ci := 0) (v := .ref a) (C := RX0) (T := TX0) (N := 1) hx hb hts inlX0 hown hK hP 0 rfl rfl 0 (by decide) (kw hts kin_3 7 rfl) (fun _ h9 => h9) rfl dX0_take_28 ?_
          refine va_alen (cA := cI) (v := (nI n)) (ty := .int) (x := (n, .inl f)) hx hb hK hP 1 0 rfl rfl rfl dX0_take_31 ?_
          refine lv_iload hx hb dX0_take_32 (lv_at hl 4 rfl) ?_
          refine lv_isub hx hb dX0_take_34 ?_
          refine lv_icmp_le (tgt := 39) hx hb dX0_take_35 (by decide) (fun c_35 => ?_) (fun c_35 => ?_)
          · skip
            refine lv_aload_n hx hb dX0_take_39 rfl (lv_at hl 1 rfl) ?_
            refine va_get (D := D) (ci := 0) (v := .ref a1) (C := RX0) (T := TX0) (N := 1) hx hb hts inlX0 hown hK hP 2 rfl rfl 0 (by decide) (kw hts kin_3 7 rfl) (fun _ h9 => h9) rfl dX0_take_40 ?_
            refine lv_iload_n hx hb dX0_take_43 rfl (lv_at hl 2 rfl) ?_
            refine lv_aload_n hx hb dX0_take_44 rfl (lv_at hl 0 rfl) ?_
            refine va_get (D := D) (ci := 0) (v := .ref a) (C := RX0) (T := TX0) (N := 1) hx hb hts inlX0 hown hK hP 0 rfl rfl 0 (by decide) (kw hts kin_3 7 rfl) (fun _ h9 => h9) rfl dX0_take_45 ?_
            refine lv_iload_n hx hb dX0_take_48 rfl (lv_at hl 3 rfl) ?_
            refine lv_iload hx hb dX0_take_49 (lv_at hl 4 rfl) ?_
            refine va_copyi (ty := .int) hx hb (hml.trans hl.1.symm) hown (kw hts kin_23 18 rfl) (kw hts kin_23 19 rfl) (kw hts kin_23 20 rfl) (kw hts kin_23 21 rfl) hK hP hD hS 3 1 0 0 rfl rfl rfl rfl rfl c_1 c_5 (knlt c_10) (ktake c_1 c_10 (kle_of c_23) hn1) (ktake c_5 c_10 c_35 hn) (fun _ _ => rfl) (Nat.le_of_ble_eq_true rfl) (Nat.le_of_ble_eq_true rfl) dX0_take_51 (fun H locs hP hD hS => ?_)
            have hP : va_P D vwCl (wR cI h a n (va_cpy g f begin_.toNatClampNeg place.toNatClampNeg length.toNatClampNeg) ++ wR cI h1 a1 n1 g) H := hP
            have hD : va_D A (wR cI h a n (va_cpy g f begin_.toNatClampNeg place.toNatClampNeg length.toNatClampNeg) ++ wR cI h1 a1 n1 g) := hD
            have hf : (f_X0_take n n1 f g begin_ place length) = (va_cpy g f begin_.toNatClampNeg place.toNatClampNeg length.toNatClampNeg) := ((if_neg c_1).trans ((if_neg c_5).trans ((if_pos c_10).trans ((if_neg c_23).trans (if_pos c_35)))))
            rw [hf] at hret
            exact hret _ _ _ _ hP hS dX0_take_54
          · skip
            have hf : (f_X0_take n n1 f g begin_ place length) = f := ((if_neg c_1).trans ((if_neg c_5).trans ((if_pos c_10).trans ((if_neg c_23).trans (if_neg c_35)))))
            rw [hf] at hret
            exact hret _ _ _ _ hP hS dX0_take_38
      · skip
        have hf : (f_X0_take n n1 f g begin_ place length) = f := ((if_neg c_1).trans ((if_neg c_5).trans (if_neg c_10)))
        rw [hf] at hret
        exact hret _ _ _ _ hP hS dX0_take_13
end
section
def f_J6_bitCount_0f7a4 (x : Int32) : Int32 := ((((((((x - ((kushr x 1) &&& 1431655765)) &&& 858993459) + ((kushr (x - ((kushr x 1) &&& 1431655765)) 2) &&& 858993459)) + (kushr (((x - ((kushr x 1) &&& 1431655765)) &&& 858993459) + ((kushr (x - ((kushr x 1) &&& 1431655765)) 2) &&& 858993459)) 4)) &&& 252645135) + (kushr (((((x - ((kushr x 1) &&& 1431655765)) &&& 858993459) + ((kushr (x - ((kushr x 1) &&& 1431655765)) 2) &&& 858993459)) + (kushr (((x - ((kushr x 1) &&& 1431655765)) &&& 858993459) + ((kushr (x - ((kushr x 1) &&& 1431655765)) 2) &&& 858993459)) 4)) &&& 252645135) 8)) + (kushr ((((((x - ((kushr x 1) &&& 1431655765)) &&& 858993459) + ((kushr (x - ((kushr x 1) &&& 1431655765)) 2) &&& 858993459)) + (kushr (((x - ((kushr x 1) &&& 1431655765)) &&& 858993459) + ((kushr (x - ((kushr x 1) &&& 1431655765)) 2) &&& 858993459)) 4)) &&& 252645135) + (kushr (((((x - ((kushr x 1) &&& 1431655765)) &&& 858993459) + ((kushr (x - ((kushr x 1) &&& 1431655765)) 2) &&& 858993459)) + (kushr (((x - ((kushr x 1) &&& 1431655765)) &&& 858993459) + ((kushr (x - ((kushr x 1) &&& 1431655765)) 2) &&& 858993459)) 4)) &&& 252645135) 8)) 16)) &&& 63)
abbrev rm_J6_bitCount_0f7a4 : Room := { frames := 0, cells := 0, slots := 0, locals := 0 }
set_option maxRecDepth 100000 in
set_option maxHeartbeats 4000000 in
theorem k_J6_bitCount_0f7a4 (l : Launch) (D : va_G) (cI cZ : ClassId) (adK adV : Nat → Nat) (x : Int32) : CI l D (kTy cI cZ) (kG adK adV) yJ6_bitCount_0f7a4 (.code yJ6_bitCount_0f7a4 cJ6_bitCount_0f7a4 1 (some .int) :: wsL_law) rm_J6_bitCount_0f7a4 [.int x] [] [] (f_J6_bitCount_0f7a4 x) := by
  refine CI.of (cc := cJ6_bitCount_0f7a4) (maxL := 1) (ty := .int) (by decide) rfl (Nat.le_of_ble_eq_true rfl) rfl ?_
  intro p e s m args below meth c A Q ls hx hb hml hts0 hown hA hP hK hD hE hl hret
  have hts : ∀ w ∈ wsL_law, w.before args s = true := fun w h => hts0 w (List.mem_cons_of_mem _ h)
  clear hts0
  have hown : s.vm.findClass RJ6 = some m.cls := hown
  have hl : lv_has ls 1 [(0, .int x)] := hl
  have hS : va_S A s.heap s.heap [] := va_S.rf
  revert hP hS
  suffices hgo : ∀ (H : Heap) (locs : List Loc), va_P D vwCl [] H → va_S A s.heap H locs → W p l e rm_J6_bitCount_0f7a4 s m args below meth c H locs 0 0 Q (F0 m 0 ls []) from fun a b => hgo _ _ a b
  intro H locs hP hS
  refine lv_iload_n hx hb dJ6_bitCount_0f7a4_0 rfl (lv_at hl 0 rfl) ?_
  refine lv_iload_n hx hb dJ6_bitCount_0f7a4_1 rfl (lv_at hl 0 rfl) ?_
  refine lv_iconst (v := 1) hx hb dJ6_bitCount_0f7a4_2 (by decide) ?_
  refine lv_iushr (v := (kushr x 1)) hx hb dJ6_bitCount_0f7a4_3 rfl ?_
  refine lv_ldcw (v := 1431655765) hx hb hown (kw hts kin_26 17 rfl) dJ6_bitCount_0f7a4_4 ?_
  refine lv_iand hx hb dJ6_bitCount_0f7a4_7 ?_
  refine lv_isub hx hb dJ6_bitCount_0f7a4_8 ?_
  refine lv_istore_n (lv' := [(0, .int (x - ((kushr x 1) &&& 1431655765)))]) hx hb dJ6_bitCount_0f7a4_9 rfl hl (by decide) rfl (fun ls hl => ?_)
  refine lv_iload_n hx hb dJ6_bitCount_0f7a4_10 rfl (lv_at hl 0 rfl) ?_
  refine lv_ldcw (v := 858993459) hx hb hown (kw hts kin_26 18 rfl) dJ6_bitCount_0f7a4_11 ?_
  refine lv_iand hx hb dJ6_bitCount_0f7a4_14 ?_
  refine lv_iload_n hx hb dJ6_bitCount_0f7a4_15 rfl (lv_at hl 0 rfl) ?_
  refine lv_iconst (v := 2) hx hb dJ6_bitCount_0f7a4_16 (by decide) ?_
  refine lv_iushr (v := (kushr (x - ((kushr x 1) &&& 1431655765)) 2)) hx hb dJ6_bitCount_0f7a4_17 rfl ?_
  refine lv_ldcw (v := 858993459) hx hb hown (kw hts kin_26 18 rfl) dJ6_bitCount_0f7a4_18 ?_
  refine lv_iand hx hb dJ6_bitCount_0f7a4_21 ?_
  refine lv_iadd hx hb dJ6_bitCount_0f7a4_22 ?_
  refine lv_istore_n (lv' := [(0, .int (((x - ((kushr x 1) &&& 1431655765)) &&& 858993459) + ((kushr (x - ((kushr x 1) &&& 1431655765)) 2) &&& 858993459)))]) hx hb dJ6_bitCount_0f7a4_23 rfl hl (by decide) rfl (fun ls hl => ?_)
  refine lv_iload_n hx hb dJ6_bitCount_0f7a4_24 rfl (lv_at hl 0 rfl) ?_
  refine lv_iload_n hx hb dJ6_bitCount_0f7a4_25 rfl (lv_at hl 0 rfl) ?_
  refine lv_iconst (v := 4) hx hb dJ6_bitCount_0f7a4_26 (by decide) ?_
  refine lv_iushr (v := (kushr (((x - ((kushr x 1) &&& 1431655765)) &&& 858993459) + ((kushr (x - ((kushr x 1) &&& 1431655765)) 2) &&& 858993459)) 4)) hx hb dJ6_bitCount_0f7a4_27 rfl ?_
  refine lv_iadd hx hb dJ6_bitCount_0f7a4_28 ?_
  refine lv_ldcw (v := 252645135) hx hb hown (kw hts kin_26 19 rfl) dJ6_bitCount_0f7a4_29 ?_
  refine lv_iand hx hb dJ6_bitCount_0f7a4_32 ?_
  refine lv_istore_n (lv' := [(0, .int (((((x - ((kushr x 1) &&& 1431655765)) &&& 858993459) + ((kushr (x - ((kushr x 1) &&& 1431655765)) 2) &&& 858993459)) + (kushr (((x - ((kushr x 1) &&& 1431655765)) &&& 858993459) + ((kushr (x - ((kushr x 1) &&& 1431655765)) 2) &&& 858993459)) 4)) &&& 252645135))]) hx hb dJ6_bitCount_0f7a4_33 rfl hl (by decide) rfl (fun ls hl => ?_)
  refine lv_iload_n hx hb dJ6_bitCount_0f7a4_34 rfl (lv_at hl 0 rfl) ?_
  refine lv_iload_n hx hb dJ6_bitCount_0f7a4_35 rfl (lv_at hl 0 rfl) ?_
  refine lv_bipush (v := 8) hx hb dJ6_bitCount_0f7a4_36 (by decide) ?_
  refine lv_iushr (v := (kushr (((((x - ((kushr x 1) &&& 1431655765)) &&& 858993459) + ((kushr (x - ((kushr x 1) &&& 1431655765)) 2) &&& 858993459)) + (kushr (((x - ((kushr x 1) &&& 1431655765)) &&& 858993459) + ((kushr (x - ((kushr x 1) &&& 1431655765)) 2) &&& 858993459)) 4)) &&& 252645135) 8)) hx hb dJ6_bitCount_0f7a4_38 rfl ?_
  refine lv_iadd hx hb dJ6_bitCount_0f7a4_39 ?_
  refine lv_istore_n (lv' := [(0, .int ((((((x - ((kushr x 1) &&& 1431655765)) &&& 858993459) + ((kushr (x - ((kushr x 1) &&& 1431655765)) 2) &&& 858993459)) + (kushr (((x - ((kushr x 1) &&& 1431655765)) &&& 858993459) + ((kushr (x - ((kushr x 1) &&& 1431655765)) 2) &&& 858993459)) 4)) &&& 252645135) + (kushr (((((x - ((kushr x 1) &&& 1431655765)) &&& 858993459) + ((kushr (x - ((kushr x 1) &&& 1431655765)) 2) &&& 858993459)) + (kushr (((x - ((kushr x 1) &&& 1431655765)) &&& 858993459) + ((kushr (x - ((kushr x 1) &&& 1431655765)) 2) &&& 858993459)) 4)) &&& 252645135) 8)))]) hx hb dJ6_bitCount_0f7a4_40 rfl hl (by decide) rfl (fun ls hl => ?_)
  refine lv_iload_n hx hb dJ6_bitCount_0f7a4_41 rfl (lv_at hl 0 rfl) ?_
  refine lv_iload_n hx hb dJ6_bitCount_0f7a4_42 rfl (lv_at hl 0 rfl) ?_
  refine lv_bipush (v := 16) hx hb dJ6_bitCount_0f7a4_43 (by decide) ?_
  refine lv_iushr (v := (kushr ((((((x - ((kushr x 1) &&& 1431655765)) &&& 858993459) + ((kushr (x - ((kushr x 1) &&& 1431655765)) 2) &&& 858993459)) + (kushr (((x - ((kushr x 1) &&& 1431655765)) &&& 858993459) + ((kushr (x - ((kushr x 1) &&& 1431655765)) 2) &&& 858993459)) 4)) &&& 252645135) + (kushr (((((x - ((kushr x 1) &&& 1431655765)) &&& 858993459) + ((kushr (x - ((kushr x 1) &&& 1431655765)) 2) &&& 858993459)) + (kushr (((x - ((kushr x 1) &&& 1431655765)) &&& 858993459) + ((kushr (x - ((kushr x 1) &&& 1431655765)) 2) &&& 858993459)) 4)) &&& 252645135) 8)) 16)) hx hb dJ6_bitCount_0f7a4_45 rfl ?_
  refine lv_iadd hx hb dJ6_bitCount_0f7a4_46 ?_
  refine lv_istore_n (lv' := [(0, .int (((((((x - ((kushr x 1) &&& 1431655765)) &&& 858993459) + ((kushr (x - ((kushr x 1) &&& 1431655765)) 2) &&& 858993459)) + (kushr (((x - ((kushr x 1) &&& 1431655765)) &&& 858993459) + ((kushr (x - ((kushr x 1) &&& 1431655765)) 2) &&& 858993459)) 4)) &&& 252645135) + (kushr (((((x - ((kushr x 1) &&& 1431655765)) &&& 858993459) + ((kushr (x - ((kushr x 1) &&& 1431655765)) 2) &&& 858993459)) + (kushr (((x - ((kushr x 1) &&& 1431655765)) &&& 858993459) + ((kushr (x - ((kushr x 1) &&& 1431655765)) 2) &&& 858993459)) 4)) &&& 252645135) 8)) + (kushr ((((((x - ((kushr x 1) &&& 1431655765)) &&& 858993459) + ((kushr (x - ((kushr x 1) &&& 1431655765)) 2) &&& 858993459)) + (kushr (((x - ((kushr x 1) &&& 1431655765)) &&& 858993459) + ((kushr (x - ((kushr x 1) &&& 1431655765)) 2) &&& 858993459)) 4)) &&& 252645135) + (kushr (((((x - ((kushr x 1) &&& 1431655765)) &&& 858993459) + ((kushr (x - ((kushr x 1) &&& 1431655765)) 2) &&& 858993459)) + (kushr (((x - ((kushr x 1) &&& 1431655765)) &&& 858993459) + ((kushr (x - ((kushr x 1) &&& 1431655765)) 2) &&& 858993459)) 4)) &&& 252645135) 8)) 16)))]) hx hb dJ6_bitCount_0f7a4_47 rfl hl (by decide) rfl (fun ls hl => ?_)
  refine lv_iload_n hx hb dJ6_bitCount_0f7a4_48 rfl (lv_at hl 0 rfl) ?_
  refine lv_bipush (v := 63) hx hb dJ6_bitCount_0f7a4_49 (by decide) ?_
  refine lv_iand hx hb dJ6_bitCount_0f7a4_51 ?_
  have hf : (f_J6_bitCount_0f7a4 x) = ((((((((x - ((kushr x 1) &&& 1431655765)) &&& 858993459) + ((kushr (x - ((kushr x 1) &&& 1431655765)) 2) &&& 858993459)) + (kushr (((x - ((kushr x 1) &&& 1431655765)) &&& 858993459) + ((kushr (x - ((kushr x 1) &&& 1431655765)) 2) &&& 858993459)) 4)) &&& 252645135) + (kushr (((((x - ((kushr x 1) &&& 1431655765)) &&& 858993459) + ((kushr (x - ((kushr x 1) &&& 1431655765)) 2) &&& 858993459)) + (kushr (((x - ((kushr x 1) &&& 1431655765)) &&& 858993459) + ((kushr (x - ((kushr x 1) &&& 1431655765)) 2) &&& 858993459)) 4)) &&& 252645135) 8)) + (kushr ((((((x - ((kushr x 1) &&& 1431655765)) &&& 858993459) + ((kushr (x - ((kushr x 1) &&& 1431655765)) 2) &&& 858993459)) + (kushr (((x - ((kushr x 1) &&& 1431655765)) &&& 858993459) + ((kushr (x - ((kushr x 1) &&& 1431655765)) 2) &&& 858993459)) 4)) &&& 252645135) + (kushr (((((x - ((kushr x 1) &&& 1431655765)) &&& 858993459) + ((kushr (x - ((kushr x 1) &&& 1431655765)) 2) &&& 858993459)) + (kushr (((x - ((kushr x 1) &&& 1431655765)) &&& 858993459) + ((kushr (x - ((kushr x 1) &&& 1431655765)) 2) &&& 858993459)) 4)) &&& 252645135) 8)) 16)) &&& 63) := rfl
  rw [hf] at hret
  exact hret _ _ _ _ hP hS dJ6_bitCount_0f7a4_52
def v_X6_isStrip_1_0 (strip : Int32) : Int32 := if strip < 0 then 0 else (if 6 ≤ strip then 0 else 1)
def f_X6_isStrip (strip : Int32) : Int32 := (v_X6_isStrip_1_0 strip)
abbrev rm_X6_isStrip : Room := { frames := 0, cells := 0, slots := 0, locals := 0 }
set_option maxRecDepth 100000 in
set_option maxHeartbeats 4000000 in
theorem k_X6_isStrip (l : Launch) (D : va_G) (cI cZ : ClassId) (adK adV : Nat → Nat) (strip : Int32) : CI l D (kTy cI cZ) (kG adK adV) yX6_isStrip (.code yX6_isStrip cX6_isStrip 1 (some .boolean) :: wsL_law) rm_X6_isStrip [.int strip] [] [] (f_X6_isStrip strip) := by
  refine CI.of (cc := cX6_isStrip) (maxL := 1) (ty := .boolean) (by decide) rfl (Nat.le_of_ble_eq_true rfl) (by simp only [v_X6_isStrip_1_0, f_X6_isStrip]; (repeat' split) <;> rfl) ?_
  intro p e s m args below meth c A Q ls hx hb hml hts0 hown hA hP hK hD hE hl hret
  have hts : ∀ w ∈ wsL_law, w.before args s = true := fun w h => hts0 w (List.mem_cons_of_mem _ h)
  clear hts0
  have hown : s.vm.findClass RX6 = some m.cls := hown
  have hl : lv_has ls 1 [(0, .int strip)] := hl
  have hS : va_S A s.heap s.heap [] := va_S.rf
  revert hP hS
  suffices hgo : ∀ (H : Heap) (locs : List Loc), va_P D vwCl [] H → va_S A s.heap H locs → W p l e rm_X6_isStrip s m args below meth c H locs 0 0 Q (F0 m 0 ls []) from fun a b => hgo _ _ a b
  intro H locs hP hS
  refine lv_iload_n hx hb dX6_isStrip_0 rfl (lv_at hl 0 rfl) ?_
  have J1 : ∀ (H : Heap) (locs : List Loc) (ls : Array Slot), va_P D vwCl [] H → va_D A [] → va_S A s.heap H locs → lv_has ls 1 [(0, .int strip)] → W p l e rm_X6_isStrip s m args below meth c H locs 0 0 Q (F0 m 15 ls [.int (v_X6_isStrip_1_0 strip)]) := by
    intro H locs ls hP hD hS hl
    have hf : (f_X6_isStrip strip) = (v_X6_isStrip_1_0 strip) := rfl
    rw [hf] at hret
    exact hret _ _ _ _ hP hS dX6_isStrip_15
  refine lv_if_lt (tgt := 14) hx hb dX6_isStrip_1 (by decide) (fun c_1 => ?_) (fun c_1 => ?_)
  · skip
    refine lv_iconst (v := 0) hx hb dX6_isStrip_14 (by decide) ?_
    rw [show (v_X6_isStrip_1_0 strip) = 0 from (if_pos c_1)] at J1
    exact J1 _ _ _ hP hD hS (lv_sub hl [0] rfl)
  · skip
    refine lv_iload_n hx hb dX6_isStrip_4 rfl (lv_at hl 0 rfl) ?_
    refine lv_bipush (v := 6) hx hb dX6_isStrip_5 (by decide) ?_
    refine lv_icmp_ge (tgt := 14) hx hb dX6_isStrip_7 (by decide) (fun c_7 => ?_) (fun c_7 => ?_)
    · skip
      refine lv_iconst (v := 0) hx hb dX6_isStrip_14 (by decide) ?_
      rw [show (v_X6_isStrip_1_0 strip) = 0 from ((if_neg c_1).trans (if_pos c_7))] at J1
      exact J1 _ _ _ hP hD hS (lv_sub hl [0] rfl)
    · skip
      refine lv_iconst (v := 1) hx hb dX6_isStrip_10 (by decide) ?_
      refine lv_goto (tgt := 15) hx hb dX6_isStrip_11 (by decide) ?_
      rw [show (v_X6_isStrip_1_0 strip) = 1 from ((if_neg c_1).trans (if_neg c_7))] at J1
      exact J1 _ _ _ hP hD hS (lv_sub hl [0] rfl)
def v_X6_isSuch_26_0 (kind : Int32) (taken : Int32) : Int32 := if kind = (taken - 1) then 1 else 0
def v_X6_isSuch_13_0 (kind : Int32) : Int32 := if kind = 3 then 0 else 1
def f_X6_isSuch (kind : Int32) (taken : Int32) : Int32 := if taken = 0 then 1 else (if taken = 1 then (v_X6_isSuch_13_0 kind) else (v_X6_isSuch_26_0 kind taken))
abbrev rm_X6_isSuch : Room := { frames := 0, cells := 0, slots := 0, locals := 0 }
set_option maxRecDepth 100000 in
set_option maxHeartbeats 4000000 in
theorem k_X6_isSuch (l : Launch) (D : va_G) (cI cZ : ClassId) (adK adV : Nat → Nat) (kind : Int32) (taken : Int32) : CI l D (kTy cI cZ) (kG adK adV) yX6_isSuch (.code yX6_isSuch cX6_isSuch 2 (some .boolean) :: wsL_law) rm_X6_isSuch [.int kind, .int taken] [] [] (f_X6_isSuch kind taken) := by
  refine CI.of (cc := cX6_isSuch) (maxL := 2) (ty := .boolean) (by decide) rfl (Nat.le_of_ble_eq_true rfl) (by simp only [v_X6_isSuch_26_0, v_X6_isSuch_13_0, f_X6_isSuch]; (repeat' split) <;> rfl) ?_
  intro p e s m args below meth c A Q ls hx hb hml hts0 hown hA hP hK hD hE hl hret
  have hts : ∀ w ∈ wsL_law, w.before args s = true := fun w h => hts0 w (List.mem_cons_of_mem _ h)
  clear hts0
  have hown : s.vm.findClass RX6 = some m.cls := hown
  have hl : lv_has ls 2 [(0, .int kind), (1, .int taken)] := hl
  have hS : va_S A s.heap s.heap [] := va_S.rf
  revert hP hS
  suffices hgo : ∀ (H : Heap) (locs : List Loc), va_P D vwCl [] H → va_S A s.heap H locs → W p l e rm_X6_isSuch s m args below meth c H locs 0 0 Q (F0 m 0 ls []) from fun a b => hgo _ _ a b
  intro H locs hP hS
  refine lv_iload_n hx hb dX6_isSuch_0 rfl (lv_at hl 1 rfl) ?_
  refine lv_if_ne (tgt := 6) hx hb dX6_isSuch_1 (by decide) (fun c_1 => ?_) (fun c_1 => ?_)
  · skip
    refine lv_iload_n hx hb dX6_isSuch_6 rfl (lv_at hl 1 rfl) ?_
    refine lv_iconst (v := 1) hx hb dX6_isSuch_7 (by decide) ?_
    refine lv_icmp_ne (tgt := 22) hx hb dX6_isSuch_8 (by decide) (fun c_8 => ?_) (fun c_8 => ?_)
    · skip
      refine lv_iload_n hx hb dX6_isSuch_22 rfl (lv_at hl 0 rfl) ?_
      refine lv_iload_n hx hb dX6_isSuch_23 rfl (lv_at hl 1 rfl) ?_
      refine lv_iconst (v := 1) hx hb dX6_isSuch_24 (by decide) ?_
      refine lv_isub hx hb dX6_isSuch_25 ?_
      have J26 : ∀ (H : Heap) (locs : List Loc) (ls : Array Slot), va_P D vwCl [] H → va_D A [] → va_S A s.heap H locs → lv_has ls 2 [(0, .int kind), (1, .int taken)] → W p l e rm_X6_isSuch s m args below meth c H locs 0 0 Q (F0 m 34 ls [.int (v_X6_isSuch_26_0 kind taken)]) := by
        intro H locs ls hP hD hS hl
        have hf : (f_X6_isSuch kind taken) = (v_X6_isSuch_26_0 kind taken) := ((if_neg c_1).trans (if_neg c_8))
        rw [hf] at hret
        exact hret _ _ _ _ hP hS dX6_isSuch_34
      refine lv_icmp_ne (tgt := 33) hx hb dX6_isSuch_26 (by decide) (fun c_26 => ?_) (fun c_26 => ?_)
      · skip
        refine lv_iconst (v := 0) hx hb dX6_isSuch_33 (by decide) ?_
        rw [show (v_X6_isSuch_26_0 kind taken) = 0 from (if_neg c_26)] at J26
        exact J26 _ _ _ hP hD hS (lv_sub hl [0, 1] rfl)
      · skip
        refine lv_iconst (v := 1) hx hb dX6_isSuch_29 (by decide) ?_
        refine lv_goto (tgt := 34) hx hb dX6_isSuch_30 (by decide) ?_
        rw [show (v_X6_isSuch_26_0 kind taken) = 1 from (if_pos c_26)] at J26
        exact J26 _ _ _ hP hD hS (lv_sub hl [0, 1] rfl)
    · skip
      refine lv_iload_n hx hb dX6_isSuch_11 rfl (lv_at hl 0 rfl) ?_
      refine lv_iconst (v := 3) hx hb dX6_isSuch_12 (by decide) ?_
      have J13 : ∀ (H : Heap) (locs : List Loc) (ls : Array Slot), va_P D vwCl [] H → va_D A [] → va_S A s.heap H locs → lv_has ls 2 [(0, .int kind), (1, .int taken)] → W p l e rm_X6_isSuch s m args below meth c H locs 0 0 Q (F0 m 21 ls [.int (v_X6_isSuch_13_0 kind)]) := by
        intro H locs ls hP hD hS hl
        have hf : (f_X6_isSuch kind taken) = (v_X6_isSuch_13_0 kind) := ((if_neg c_1).trans (if_pos c_8))
        rw [hf] at hret
        exact hret _ _ _ _ hP hS dX6_isSuch_21
      refine lv_icmp_eq (tgt := 20) hx hb dX6_isSuch_13 (by decide) (fun c_13 => ?_) (fun c_13 => ?_)
      · skip
        refine lv_iconst (v := 0) hx hb dX6_isSuch_20 (by decide) ?_
        rw [show (v_X6_isSuch_13_0 kind) = 0 from (if_pos c_13)] at J13
        exact J13 _ _ _ hP hD hS (lv_sub hl [0, 1] rfl)
      · skip
        refine lv_iconst (v := 1) hx hb dX6_isSuch_16 (by decide) ?_
        refine lv_goto (tgt := 21) hx hb dX6_isSuch_17 (by decide) ?_
        rw [show (v_X6_isSuch_13_0 kind) = 1 from (if_neg c_13)] at J13
        exact J13 _ _ _ hP hD hS (lv_sub hl [0, 1] rfl)
  · skip
    refine lv_iconst (v := 1) hx hb dX6_isSuch_4 (by decide) ?_
    have hf : (f_X6_isSuch kind taken) = 1 := (if_pos c_1)
    rw [hf] at hret
    exact hret _ _ _ _ hP hS dX6_isSuch_5
def v_X6_telling_30_0 (beard : Int32) (part : Int32) : Int32 := if 3 ≤ beard then part else (-1)
def v_X6_telling_41_0 (strip : Int32) (part : Int32) : Int32 := if strip = 2 then (-1) else part
def v_X6_telling_52_0 (beard : Int32) (part : Int32) : Int32 := if 5 ≤ beard then (1 - part) else part
def f_X6_telling (kind : Int32) (strip : Int32) (beard : Int32) (part : Int32) : Int32 := if kind = 1 then (v_X6_telling_30_0 beard part) else (if kind = 2 then (v_X6_telling_41_0 strip part) else (if kind = 3 then (v_X6_telling_52_0 beard part) else part))
abbrev rm_X6_telling : Room := { frames := 0, cells := 0, slots := 0, locals := 0 }
set_option maxRecDepth 100000 in
set_option maxHeartbeats 4000000 in
theorem k_X6_telling (l : Launch) (D : va_G) (cI cZ : ClassId) (adK adV : Nat → Nat) (kind : Int32) (strip : Int32) (beard : Int32) (part : Int32) : CI l D (kTy cI cZ) (kG adK adV) yX6_telling (.code yX6_telling cX6_telling 4 (some .int) :: wsL_law) rm_X6_telling [.int kind, .int strip, .int beard, .int part] [] [] (f_X6_telling kind strip beard part) := by
  refine CI.of (cc := cX6_telling) (maxL := 4) (ty := .int) (by decide) rfl (Nat.le_of_ble_eq_true rfl) rfl ?_
  intro p e s m args below meth c A Q ls hx hb hml hts0 hown hA hP hK hD hE hl hret
  have hts : ∀ w ∈ wsL_law, w.before args s = true := fun w h => hts0 w (List.mem_cons_of_mem _ h)
  clear hts0
  have hown : s.vm.findClass RX6 = some m.cls := hown
  have hl : lv_has ls 4 [(0, .int kind), (1, .int strip), (2, .int beard), (3, .int part)] := hl
  have hS : va_S A s.heap s.heap [] := va_S.rf
  revert hP hS
  suffices hgo : ∀ (H : Heap) (locs : List Loc), va_P D vwCl [] H → va_S A s.heap H locs → W p l e rm_X6_telling s m args below meth c H locs 0 0 Q (F0 m 0 ls []) from fun a b => hgo _ _ a b
  intro H locs hP hS
  refine lv_iload_n hx hb dX6_telling_0 rfl (lv_at hl 0 rfl) ?_
  by_cases c_1_0 : kind = 1
  · skip
    refine lv_tableIn (off := 27) (tgt := 28) hx hb dX6_telling_1 (by rw [c_1_0]; decide) (by rw [c_1_0]; decide) (by rw [c_1_0]; rfl) (by decide) ?_
    refine lv_iload_n hx hb dX6_telling_28 rfl (lv_at hl 2 rfl) ?_
    refine lv_iconst (v := 3) hx hb dX6_telling_29 (by decide) ?_
    have J30 : ∀ (H : Heap) (locs : List Loc) (ls : Array Slot), va_P D vwCl [] H → va_D A [] → va_S A s.heap H locs → lv_has ls 4 [(0, .int kind), (1, .int strip), (2, .int beard), (3, .int part)] → W p l e rm_X6_telling s m args below meth c H locs 0 0 Q (F0 m 38 ls [.int (v_X6_telling_30_0 beard part)]) := by
      intro H locs ls hP hD hS hl
      have hf : (f_X6_telling kind strip beard part) = (v_X6_telling_30_0 beard part) := (if_pos c_1_0)
      rw [hf] at hret
      exact hret _ _ _ _ hP hS dX6_telling_38
    refine lv_icmp_ge (tgt := 37) hx hb dX6_telling_30 (by decide) (fun c_30 => ?_) (fun c_30 => ?_)
    · skip
      refine lv_iload_n hx hb dX6_telling_37 rfl (lv_at hl 3 rfl) ?_
      rw [show (v_X6_telling_30_0 beard part) = part from (if_pos c_30)] at J30
      exact J30 _ _ _ hP hD hS (lv_sub hl [0, 1, 2, 3] rfl)
    · skip
      refine lv_iconst (v := (-1)) hx hb dX6_telling_33 (by decide) ?_
      refine lv_goto (tgt := 38) hx hb dX6_telling_34 (by decide) ?_
      rw [show (v_X6_telling_30_0 beard part) = (-1) from (if_neg c_30)] at J30
      exact J30 _ _ _ hP hD hS (lv_sub hl [0, 1, 2, 3] rfl)
  · skip
    by_cases c_1_1 : kind = 2
    · skip
      refine lv_tableIn (off := 38) (tgt := 39) hx hb dX6_telling_1 (by rw [c_1_1]; decide) (by rw [c_1_1]; decide) (by rw [c_1_1]; rfl) (by decide) ?_
      refine lv_iload_n hx hb dX6_telling_39 rfl (lv_at hl 1 rfl) ?_
      refine lv_iconst (v := 2) hx hb dX6_telling_40 (by decide) ?_
      have J41 : ∀ (H : Heap) (locs : List Loc) (ls : Array Slot), va_P D vwCl [] H → va_D A [] → va_S A s.heap H locs → lv_has ls 4 [(0, .int kind), (1, .int strip), (2, .int beard), (3, .int part)] → W p l e rm_X6_telling s m args below meth c H locs 0 0 Q (F0 m 49 ls [.int (v_X6_telling_41_0 strip part)]) := by
        intro H locs ls hP hD hS hl
        have hf : (f_X6_telling kind strip beard part) = (v_X6_telling_41_0 strip part) := ((if_neg c_1_0).trans (if_pos c_1_1))
        rw [hf] at hret
        exact hret _ _ _ _ hP hS dX6_telling_49
      refine lv_icmp_ne (tgt := 48) hx hb dX6_telling_41 (by decide) (fun c_41 => ?_) (fun c_41 => ?_)
      · skip
        refine lv_iload_n hx hb dX6_telling_48 rfl (lv_at hl 3 rfl) ?_
        rw [show (v_X6_telling_41_0 strip part) = part from (if_neg c_41)] at J41
        exact J41 _ _ _ hP hD hS (lv_sub hl [0, 1, 2, 3] rfl)
      · skip
        refine lv_iconst (v := (-1)) hx hb dX6_telling_44 (by decide) ?_
        refine lv_goto (tgt := 49) hx hb dX6_telling_45 (by decide) ?_
        rw [show (v_X6_telling_41_0 strip part) = (-1) from (if_pos c_41)] at J41
        exact J41 _ _ _ hP hD hS (lv_sub hl [0, 1, 2, 3] rfl)
    · skip
      by_cases c_1_2 : kind = 3
      · skip
        refine lv_tableIn (off := 49) (tgt := 50) hx hb dX6_telling_1 (by rw [c_1_2]; decide) (by rw [c_1_2]; decide) (by rw [c_1_2]; rfl) (by decide) ?_
        refine lv_iload_n hx hb dX6_telling_50 rfl (lv_at hl 2 rfl) ?_
        refine lv_iconst (v := 5) hx hb dX6_telling_51 (by decide) ?_
        have J52 : ∀ (H : Heap) (locs : List Loc) (ls : Array Slot), va_P D vwCl [] H → va_D A [] → va_S A s.heap H locs → lv_has ls 4 [(0, .int kind), (1, .int strip), (2, .int beard), (3, .int part)] → W p l e rm_X6_telling s m args below meth c H locs 0 0 Q (F0 m 62 ls [.int (v_X6_telling_52_0 beard part)]) := by
          intro H locs ls hP hD hS hl
          have hf : (f_X6_telling kind strip beard part) = (v_X6_telling_52_0 beard part) := ((if_neg c_1_0).trans ((if_neg c_1_1).trans (if_pos c_1_2)))
          rw [hf] at hret
          exact hret _ _ _ _ hP hS dX6_telling_62
        refine lv_icmp_ge (tgt := 59) hx hb dX6_telling_52 (by decide) (fun c_52 => ?_) (fun c_52 => ?_)
        · skip
          refine lv_iconst (v := 1) hx hb dX6_telling_59 (by decide) ?_
          refine lv_iload_n hx hb dX6_telling_60 rfl (lv_at hl 3 rfl) ?_
          refine lv_isub hx hb dX6_telling_61 ?_
          rw [show (v_X6_telling_52_0 beard part) = (1 - part) from (if_pos c_52)] at J52
          exact J52 _ _ _ hP hD hS (lv_sub hl [0, 1, 2, 3] rfl)
        · skip
          refine lv_iload_n hx hb dX6_telling_55 rfl (lv_at hl 3 rfl) ?_
          refine lv_goto (tgt := 62) hx hb dX6_telling_56 (by decide) ?_
          rw [show (v_X6_telling_52_0 beard part) = part from (if_neg c_52)] at J52
          exact J52 _ _ _ hP hD hS (lv_sub hl [0, 1, 2, 3] rfl)
      · skip
        have htab : kind.toInt < 1 ∨ 3 < kind.toInt := by
          have a0 : kind.toInt ≠ 1 := kneI c_1_0
          have a1 : kind.toInt ≠ 2 := kneI c_1_1
          have a2 : kind.toInt ≠ 3 := kneI c_1_2
          omega
        refine lv_tableOut (tgt := 63) hx hb dX6_telling_1 htab (by decide) ?_
        refine lv_iload_n hx hb dX6_telling_63 rfl (lv_at hl 3 rfl) ?_
        have hf : (f_X6_telling kind strip beard part) = part := ((if_neg c_1_0).trans ((if_neg c_1_1).trans (if_neg c_1_2)))
        rw [hf] at hret
        exact hret _ _ _ _ hP hS dX6_telling_64
def v_X6_has_6_0 (bits : Int32) (place : Int32) : Int32 := if ((bits >>> (place &&& 31)) &&& 1) = 1 then 1 else 0
def f_X6_has (bits : Int32) (place : Int32) : Int32 := (v_X6_has_6_0 bits place)
abbrev rm_X6_has : Room := { frames := 0, cells := 0, slots := 0, locals := 0 }
set_option maxRecDepth 100000 in
set_option maxHeartbeats 4000000 in
theorem k_X6_has (l : Launch) (D : va_G) (cI cZ : ClassId) (adK adV : Nat → Nat) (bits : Int32) (place : Int32) : CI l D (kTy cI cZ) (kG adK adV) yX6_has (.code yX6_has cX6_has 2 (some .boolean) :: wsL_law) rm_X6_has [.int bits, .int place] [] [] (f_X6_has bits place) := by
  refine CI.of (cc := cX6_has) (maxL := 2) (ty := .boolean) (by decide) rfl (Nat.le_of_ble_eq_true rfl) (by simp only [v_X6_has_6_0, f_X6_has]; (repeat' split) <;> rfl) ?_
  intro p e s m args below meth c A Q ls hx hb hml hts0 hown hA hP hK hD hE hl hret
  have hts : ∀ w ∈ wsL_law, w.before args s = true := fun w h => hts0 w (List.mem_cons_of_mem _ h)
  clear hts0
  have hown : s.vm.findClass RX6 = some m.cls := hown
  have hl : lv_has ls 2 [(0, .int bits), (1, .int place)] := hl
  have hS : va_S A s.heap s.heap [] := va_S.rf
  revert hP hS
  suffices hgo : ∀ (H : Heap) (locs : List Loc), va_P D vwCl [] H → va_S A s.heap H locs → W p l e rm_X6_has s m args below meth c H locs 0 0 Q (F0 m 0 ls []) from fun a b => hgo _ _ a b
  intro H locs hP hS
  refine lv_iload_n hx hb dX6_has_0 rfl (lv_at hl 0 rfl) ?_
  refine lv_iload_n hx hb dX6_has_1 rfl (lv_at hl 1 rfl) ?_
  refine lv_ishr hx hb dX6_has_2 ?_
  refine lv_iconst (v := 1) hx hb dX6_has_3 (by decide) ?_
  refine lv_iand hx hb dX6_has_4 ?_
  refine lv_iconst (v := 1) hx hb dX6_has_5 (by decide) ?_
  have J6 : ∀ (H : Heap) (locs : List Loc) (ls : Array Slot), va_P D vwCl [] H → va_D A [] → va_S A s.heap H locs → lv_has ls 2 [(0, .int bits), (1, .int place)] → W p l e rm_X6_has s m args below meth c H locs 0 0 Q (F0 m 14 ls [.int (v_X6_has_6_0 bits place)]) := by
    intro H locs ls hP hD hS hl
    have hf : (f_X6_has bits place) = (v_X6_has_6_0 bits place) := rfl
    rw [hf] at hret
    exact hret _ _ _ _ hP hS dX6_has_14
  refine lv_icmp_ne (tgt := 13) hx hb dX6_has_6 (by decide) (fun c_6 => ?_) (fun c_6 => ?_)
  · skip
    refine lv_iconst (v := 0) hx hb dX6_has_13 (by decide) ?_
    rw [show (v_X6_has_6_0 bits place) = 0 from (if_neg c_6)] at J6
    exact J6 _ _ _ hP hD hS (lv_sub hl [0, 1] rfl)
  · skip
    refine lv_iconst (v := 1) hx hb dX6_has_9 (by decide) ?_
    refine lv_goto (tgt := 14) hx hb dX6_has_10 (by decide) ?_
    rw [show (v_X6_has_6_0 bits place) = 1 from (if_pos c_6)] at J6
    exact J6 _ _ _ hP hD hS (lv_sub hl [0, 1] rfl)
def f_X6_replaced (bits : Int32) (places : Int32) (by_ : Int32) : Int32 := ((bits &&& (places ^^^ (-1))) ||| (by_ &&& places))
abbrev rm_X6_replaced : Room := { frames := 0, cells := 0, slots := 0, locals := 0 }
set_option maxRecDepth 100000 in
set_option maxHeartbeats 4000000 in
theorem k_X6_replaced (l : Launch) (D : va_G) (cI cZ : ClassId) (adK adV : Nat → Nat) (bits : Int32) (places : Int32) (by_ : Int32) : CI l D (kTy cI cZ) (kG adK adV) yX6_replaced (.code yX6_replaced cX6_replaced 3 (some .int) :: wsL_law) rm_X6_replaced [.int bits, .int places, .int by_] [] [] (f_X6_replaced bits places by_) := by
  refine CI.of (cc := cX6_replaced) (maxL := 3) (ty := .int) (by decide) rfl (Nat.le_of_ble_eq_true rfl) rfl ?_
  intro p e s m args below meth c A Q ls hx hb hml hts0 hown hA hP hK hD hE hl hret
  have hts : ∀ w ∈ wsL_law, w.before args s = true := fun w h => hts0 w (List.mem_cons_of_mem _ h)
  clear hts0
  have hown : s.vm.findClass RX6 = some m.cls := hown
  have hl : lv_has ls 3 [(0, .int bits), (1, .int places), (2, .int by_)] := hl
  have hS : va_S A s.heap s.heap [] := va_S.rf
  revert hP hS
  suffices hgo : ∀ (H : Heap) (locs : List Loc), va_P D vwCl [] H → va_S A s.heap H locs → W p l e rm_X6_replaced s m args below meth c H locs 0 0 Q (F0 m 0 ls []) from fun a b => hgo _ _ a b
  intro H locs hP hS
  refine lv_iload_n hx hb dX6_replaced_0 rfl (lv_at hl 0 rfl) ?_
  refine lv_iload_n hx hb dX6_replaced_1 rfl (lv_at hl 1 rfl) ?_
  refine lv_iconst (v := (-1)) hx hb dX6_replaced_2 (by decide) ?_
  refine lv_ixor hx hb dX6_replaced_3 ?_
  refine lv_iand hx hb dX6_replaced_4 ?_
  refine lv_iload_n hx hb dX6_replaced_5 rfl (lv_at hl 2 rfl) ?_
  refine lv_iload_n hx hb dX6_replaced_6 rfl (lv_at hl 1 rfl) ?_
  refine lv_iand hx hb dX6_replaced_7 ?_
  refine lv_ior hx hb dX6_replaced_8 ?_
  have hf : (f_X6_replaced bits places by_) = ((bits &&& (places ^^^ (-1))) ||| (by_ &&& places)) := rfl
  rw [hf] at hret
  exact hret _ _ _ _ hP hS dX6_replaced_9
def nx_X6_power_4 (base : Int32) (i : Nat) (x4_2 : Int32) : Int32 := (x4_2 * base)
def x_X6_power_4 (base : Int32) (exponent : Int32) : Int32 := lp (fun iz z => nx_X6_power_4 base iz z) 1 exponent.toNatClampNeg
def f_X6_power (base : Int32) (exponent : Int32) : Int32 := (x_X6_power_4 base exponent)
abbrev rm_X6_power : Room := { frames := 0, cells := 0, slots := 0, locals := 0 }
set_option maxRecDepth 100000 in
set_option maxHeartbeats 4000000 in
theorem k_X6_power (l : Launch) (D : va_G) (cI cZ : ClassId) (adK adV : Nat → Nat) (base : Int32) (exponent : Int32) : CI l D (kTy cI cZ) (kG adK adV) yX6_power (.code yX6_power cX6_power 4 (some .int) :: wsL_law) rm_X6_power [.int base, .int exponent] [] [] (f_X6_power base exponent) := by
  refine CI.of (cc := cX6_power) (maxL := 4) (ty := .int) (by decide) rfl (Nat.le_of_ble_eq_true rfl) rfl ?_
  intro p e s m args below meth c A Q ls hx hb hml hts0 hown hA hP hK hD hE hl hret
  have hts : ∀ w ∈ wsL_law, w.before args s = true := fun w h => hts0 w (List.mem_cons_of_mem _ h)
  clear hts0
  have hown : s.vm.findClass RX6 = some m.cls := hown
  have hl : lv_has ls 4 [(0, .int base), (1, .int exponent)] := hl
  have hS : va_S A s.heap s.heap [] := va_S.rf
  revert hP hS
  suffices hgo : ∀ (H : Heap) (locs : List Loc), va_P D vwCl [] H → va_S A s.heap H locs → W p l e rm_X6_power s m args below meth c H locs 0 0 Q (F0 m 0 ls []) from fun a b => hgo _ _ a b
  intro H locs hP hS
  refine lv_iconst (v := 1) hx hb dX6_power_0 (by decide) ?_
  refine lv_istore_n (lv' := [(2, .int 1), (0, .int base), (1, .int exponent)]) hx hb dX6_power_1 rfl hl (by decide) rfl (fun ls hl => ?_)
  refine lv_iconst (v := 0) hx hb dX6_power_2 (by decide) ?_
  refine lv_istore_n (lv' := [(3, .int 0), (2, .int 1), (0, .int base), (1, .int exponent)]) hx hb dX6_power_3 rfl hl (by decide) rfl (fun ls hl => ?_)
  have lp4 : ∀ (k4 i : Nat) (x4_2 : Int32), i + k4 = exponent.toNatClampNeg → x4_2 = lp (fun iz z => nx_X6_power_4 base iz z) 1 i → ∀ (H : Heap) (locs : List Loc) (ls : Array Slot), va_P D vwCl [] H → va_D A [] → va_S A s.heap H locs → lv_has ls 4 [(0, .int base), (1, .int exponent), (2, .int x4_2), (3, .int (nI i))] → W p l e rm_X6_power s m args below meth c H locs 0 0 Q (F0 m 4 ls []) := by
    intro k4
    induction k4 with
    | zero =>
      intro i x4_2 hi4 ea4 H locs ls hP hD hS hl
      have hi4 : exponent.toNatClampNeg = i := by omega
      subst hi4
      have ea4 : x4_2 = (x_X6_power_4 base exponent) := ea4
      subst ea4
      refine lv_iload_n hx hb dX6_power_4 rfl (lv_at hl 3 rfl) ?_
      refine lv_iload_n hx hb dX6_power_5 rfl (lv_at hl 1 rfl) ?_
      refine lv_icmp_ge (tgt := 19) hx hb dX6_power_6 (by decide) (fun _ => ?_) (fun c_6 => absurd (kle_clamp _) c_6)
      refine lv_iload_n hx hb dX6_power_19 rfl (lv_at hl 2 rfl) ?_
      have hf : (f_X6_power base exponent) = (x_X6_power_4 base exponent) := rfl
      rw [hf] at hret
      exact hret _ _ _ _ hP hS dX6_power_20
    | succ k4 ih4 =>
      intro i x4_2 hi4 ea4 H locs ls hP hD hS hl
      have hlt4 : i < exponent.toNatClampNeg := by omega
      refine lv_iload_n hx hb dX6_power_4 rfl (lv_at hl 3 rfl) ?_
      refine lv_iload_n hx hb dX6_power_5 rfl (lv_at hl 1 rfl) ?_
      refine lv_icmp_ge (tgt := 19) hx hb dX6_power_6 (by decide) (fun c_6 => absurd c_6 (klt_clamp hlt4)) (fun _ => ?_)
      refine lv_iload_n hx hb dX6_power_9 rfl (lv_at hl 2 rfl) ?_
      refine lv_iload_n hx hb dX6_power_10 rfl (lv_at hl 0 rfl) ?_
      refine lv_imul hx hb dX6_power_11 ?_
      refine lv_istore_n (lv' := [(2, .int (x4_2 * base)), (0, .int base), (1, .int exponent), (3, .int (nI i))]) hx hb dX6_power_12 rfl hl (by decide) rfl (fun ls hl => ?_)
      refine lv_iinc (v := (nI (i + 1))) (lv' := [(3, .int (nI (i + 1))), (2, .int (x4_2 * base)), (0, .int base), (1, .int exponent)]) hx hb dX6_power_13 hl (k := 3) rfl (nI_1 i) (by decide) rfl (fun ls hl => ?_)
      refine lv_goto (tgt := 4) hx hb dX6_power_16 (by decide) ?_
      have hb4 : nx_X6_power_4 base i x4_2 = (x4_2 * base) := rfl
      exact ih4 (i + 1) (x4_2 * base) (by omega) (hb4.symm.trans (congrArg ((fun iz z => nx_X6_power_4 base iz z) i) ea4)) _ _ _ hP hD hS (lv_sub hl [2, 3, 1, 0] rfl)
  exact lp4 exponent.toNatClampNeg 0 1 (Nat.zero_add _) rfl _ _ _ hP hD hS (lv_sub hl [2, 3, 1, 0] rfl)
def f_X6_weight (set_ : Int32) (qq : Int32) : Int32 := ((f_X6_power qq (f_J6_bitCount_0f7a4 set_)) * (f_X6_power (10 - qq) (6 - (f_J6_bitCount_0f7a4 set_))))
abbrev rm_X6_weight : Room := { frames := 1, cells := 0, slots := 0, locals := 23 }
set_option maxRecDepth 100000 in
set_option maxHeartbeats 4000000 in
theorem k_X6_weight (l : Launch) (D : va_G) (cI cZ : ClassId) (adK adV : Nat → Nat) (set_ : Int32) (qq : Int32) : CI l D (kTy cI cZ) (kG adK adV) yX6_weight (.code yX6_weight cX6_weight 3 (some .int) :: wsL_law) rm_X6_weight [.int set_, .int qq] [] [] (f_X6_weight set_ qq) := by
  refine CI.of (cc := cX6_weight) (maxL := 3) (ty := .int) (by decide) rfl (Nat.le_of_ble_eq_true rfl) rfl ?_
  intro p e s m args below meth c A Q ls hx hb hml hts0 hown hA hP hK hD hE hl hret
  have hts : ∀ w ∈ wsL_law, w.before args s = true := fun w h => hts0 w (List.mem_cons_of_mem _ h)
  clear hts0
  have hown : s.vm.findClass RX6 = some m.cls := hown
  have hl : lv_has ls 3 [(0, .int set_), (1, .int qq)] := hl
  have hS : va_S A s.heap s.heap [] := va_S.rf
  revert hP hS
  suffices hgo : ∀ (H : Heap) (locs : List Loc), va_P D vwCl [] H → va_S A s.heap H locs → W p l e rm_X6_weight s m args below meth c H locs 0 0 Q (F0 m 0 ls []) from fun a b => hgo _ _ a b
  intro H locs hP hS
  refine lv_iload_n hx hb dX6_weight_0 rfl (lv_at hl 0 rfl) ?_
  refine ksi (As := [.int set_]) (rest := []) ⟨hx, hb, hml, hown, hts⟩ hP hK hD hS hA hE (k_J6_bitCount_0f7a4 l D cI cZ adK adV set_) (kcs hts kM_J6_bitCount_0f7a4 (kin_26 _ (List.mem_of_getElem? (i := 13) rfl)) ⟨rfl, rfl⟩ ⟨Nat.le_of_ble_eq_true rfl, Nat.le_of_ble_eq_true rfl⟩) kBl_G kOk_G rfl hl.1 rfl (Nat.le_of_ble_eq_true rfl) dX6_weight_1 (fun H locs hP hD hS => ?_)
  refine lv_istore_n (lv' := [(2, .int (f_J6_bitCount_0f7a4 set_)), (0, .int set_), (1, .int qq)]) hx hb dX6_weight_4 rfl hl (by decide) rfl (fun ls hl => ?_)
  refine lv_iload_n hx hb dX6_weight_5 rfl (lv_at hl 2 rfl) ?_
  refine lv_iload_n hx hb dX6_weight_6 rfl (lv_at hl 0 rfl) ?_
  refine ksi (As := [.int qq, .int (f_J6_bitCount_0f7a4 set_)]) (rest := []) ⟨hx, hb, hml, hown, hts⟩ hP hK hD hS hA hE (k_X6_power l D cI cZ adK adV qq (f_J6_bitCount_0f7a4 set_)) (kcs hts kM_X6_power (kin_33 _ (List.mem_of_getElem? (i := 3) rfl)) ⟨rfl, rfl⟩ ⟨Nat.le_of_ble_eq_true rfl, Nat.le_of_ble_eq_true rfl⟩) kBl_G kOk_G rfl hl.1 rfl (Nat.le_of_ble_eq_true rfl) dX6_weight_7 (fun H locs hP hD hS => ?_)
  refine lv_bipush (v := 10) hx hb dX6_weight_10 (by decide) ?_
  refine lv_iload_n hx hb dX6_weight_12 rfl (lv_at hl 2 rfl) ?_
  refine lv_isub hx hb dX6_weight_13 ?_
  refine lv_bipush (v := 6) hx hb dX6_weight_14 (by decide) ?_
  refine lv_iload_n hx hb dX6_weight_16 rfl (lv_at hl 0 rfl) ?_
  refine lv_isub hx hb dX6_weight_17 ?_
  refine ksi (As := [.int (10 - qq), .int (6 - (f_J6_bitCount_0f7a4 set_))]) (rest := [.int (f_X6_power qq (f_J6_bitCount_0f7a4 set_))]) ⟨hx, hb, hml, hown, hts⟩ hP hK hD hS hA hE (k_X6_power l D cI cZ adK adV (10 - qq) (6 - (f_J6_bitCount_0f7a4 set_))) (kcs hts kM_X6_power (kin_33 _ (List.mem_of_getElem? (i := 3) rfl)) ⟨rfl, rfl⟩ ⟨Nat.le_of_ble_eq_true rfl, Nat.le_of_ble_eq_true rfl⟩) kBl_G kOk_G rfl hl.1 rfl (Nat.le_of_ble_eq_true rfl) dX6_weight_18 (fun H locs hP hD hS => ?_)
  refine lv_imul hx hb dX6_weight_21 ?_
  have hf : (f_X6_weight set_ qq) = ((f_X6_power qq (f_J6_bitCount_0f7a4 set_)) * (f_X6_power (10 - qq) (6 - (f_J6_bitCount_0f7a4 set_)))) := rfl
  rw [hf] at hret
  exact hret _ _ _ _ hP hS dX6_weight_22
end
section
def f_X5_kindOf (knd : Nat → Int32) (person : Int32) : Int32 := (f_X0_at 6 knd person)
abbrev rm_X5_kindOf : Room := { frames := 1, cells := 0, slots := 0, locals := 21 }
set_option maxRecDepth 100000 in
set_option maxHeartbeats 4000000 in
theorem k_X5_kindOf (l : Launch) (D : va_G) (cI cZ : ClassId) (adK adV : Nat → Nat) (q : Nat → Nat) (tb : Int32) (tp : Int32) (tr : Int32) (knd : Nat → Int32) (sec : Nat → Int32) (brd : Nat → Int32) (rms : Nat → Int32) (person : Int32) : CI l D (kTy cI cZ) (kG adK adV) yX5_kindOf (.code yX5_kindOf cX5_kindOf 2 (some .int) :: wsL_law) rm_X5_kindOf [.ref (q 8), .int person] (wTown cI q tb tp tr knd sec brd rms) (wTown cI q tb tp tr knd sec brd rms) (f_X5_kindOf knd person) := by
  refine CI.of (cc := cX5_kindOf) (maxL := 2) (ty := .int) (by decide) rfl (Nat.le_of_ble_eq_true rfl) rfl ?_
  intro p e s m args below meth c A Q ls hx hb hml hts0 hown hA hP hK hD hE hl hret
  have hts : ∀ w ∈ wsL_law, w.before args s = true := fun w h => hts0 w (List.mem_cons_of_mem _ h)
  clear hts0
  have hown : s.vm.findClass RX5 = some m.cls := hown
  have hl : lv_has ls 2 [(0, .ref (q 8)), (1, .int person)] := hl
  have hS : va_S A s.heap s.heap [] := va_S.rf
  revert hP hS
  suffices hgo : ∀ (H : Heap) (locs : List Loc), va_P D vwCl (wTown cI q tb tp tr knd sec brd rms) H → va_S A s.heap H locs → W p l e rm_X5_kindOf s m args below meth c H locs 0 0 Q (F0 m 0 ls []) from fun a b => hgo _ _ a b
  intro H locs hP hS
  refine lv_aload_n hx hb dX5_kindOf_0 rfl (lv_at hl 0 rfl) ?_
  refine va_get (D := D) (ci := 5) (v := .ref (q 9)) (C := RX5) (T := TX5) (N := 7) hx hb hts inlX5 hown hK hP 0 rfl rfl 3 (by decide) (kw hts kin_3 14 rfl) (fun _ h9 => h9) rfl dX5_kindOf_1 ?_
  refine lv_iload_n hx hb dX5_kindOf_4 rfl (lv_at hl 1 rfl) ?_
  refine kvi (As := [.int person]) (rest := []) (isC := [1, 2]) (isR := [0, 3, 4, 5, 6, 7, 8]) (isN := [0, 7, 8, 1, 2, 3, 4, 5, 6]) (as := [q 9, q 10]) (wr := ([0, 3, 4, 5, 6, 7, 8] : List Nat).filterMap (fun i => (wTown cI q tb tp tr knd sec brd rms)[i]?)) (q0 := 0) (ci := 0) ⟨hx, hb, hml, hown, hts⟩ hP hK hD hS hA hE (k_X0_at l D cI cZ adK adV (q 9) (q 10) 6 knd person (by decide)) (kcv hts kM_X0_at (kin_16 _ (List.mem_of_getElem? (i := 4) rfl)) ⟨rfl, rfl⟩ ⟨Nat.le_of_ble_eq_true rfl, Nat.le_of_ble_eq_true rfl⟩) kBl_G kOk_G (wTown cI q tb tp tr knd sec brd rms) ⟨rfl, rfl, ⟨rfl, rfl⟩, rfl⟩ (by decide +kernel) rfl rfl rfl rfl hl.1 rfl (Nat.le_of_ble_eq_true rfl) dX5_kindOf_5 (fun H locs hP hD hS => ?_)
  have hf : (f_X5_kindOf knd person) = (f_X0_at 6 knd person) := rfl
  rw [hf] at hret
  exact hret _ _ _ _ hP hS dX5_kindOf_8
def f_X5_secretOf (sec : Nat → Int32) (person : Int32) : Int32 := (f_X0_at 6 sec person)
abbrev rm_X5_secretOf : Room := { frames := 1, cells := 0, slots := 0, locals := 21 }
set_option maxRecDepth 100000 in
set_option maxHeartbeats 4000000 in
theorem k_X5_secretOf (l : Launch) (D : va_G) (cI cZ : ClassId) (adK adV : Nat → Nat) (q : Nat → Nat) (tb : Int32) (tp : Int32) (tr : Int32) (knd : Nat → Int32) (sec : Nat → Int32) (brd : Nat → Int32) (rms : Nat → Int32) (person : Int32) : CI l D (kTy cI cZ) (kG adK adV) yX5_secretOf (.code yX5_secretOf cX5_secretOf 2 (some .int) :: wsL_law) rm_X5_secretOf [.ref (q 8), .int person] (wTown cI q tb tp tr knd sec brd rms) (wTown cI q tb tp tr knd sec brd rms) (f_X5_secretOf sec person) := by
  refine CI.of (cc := cX5_secretOf) (maxL := 2) (ty := .int) (by decide) rfl (Nat.le_of_ble_eq_true rfl) rfl ?_
  intro p e s m args below meth c A Q ls hx hb hml hts0 hown hA hP hK hD hE hl hret
  have hts : ∀ w ∈ wsL_law, w.before args s = true := fun w h => hts0 w (List.mem_cons_of_mem _ h)
  clear hts0
  have hown : s.vm.findClass RX5 = some m.cls := hown
  have hl : lv_has ls 2 [(0, .ref (q 8)), (1, .int person)] := hl
  have hS : va_S A s.heap s.heap [] := va_S.rf
  revert hP hS
  suffices hgo : ∀ (H : Heap) (locs : List Loc), va_P D vwCl (wTown cI q tb tp tr knd sec brd rms) H → va_S A s.heap H locs → W p l e rm_X5_secretOf s m args below meth c H locs 0 0 Q (F0 m 0 ls []) from fun a b => hgo _ _ a b
  intro H locs hP hS
  refine lv_aload_n hx hb dX5_secretOf_0 rfl (lv_at hl 0 rfl) ?_
  refine va_get (D := D) (ci := 5) (v := .ref (q 11)) (C := RX5) (T := TX5) (N := 7) hx hb hts inlX5 hown hK hP 0 rfl rfl 4 (by decide) (kw hts kin_3 15 rfl) (fun _ h9 => h9) rfl dX5_secretOf_1 ?_
  refine lv_iload_n hx hb dX5_secretOf_4 rfl (lv_at hl 1 rfl) ?_
  refine kvi (As := [.int person]) (rest := []) (isC := [3, 4]) (isR := [0, 1, 2, 5, 6, 7, 8]) (isN := [0, 1, 2, 7, 8, 3, 4, 5, 6]) (as := [q 11, q 12]) (wr := ([0, 1, 2, 5, 6, 7, 8] : List Nat).filterMap (fun i => (wTown cI q tb tp tr knd sec brd rms)[i]?)) (q0 := 0) (ci := 0) ⟨hx, hb, hml, hown, hts⟩ hP hK hD hS hA hE (k_X0_at l D cI cZ adK adV (q 11) (q 12) 6 sec person (by decide)) (kcv hts kM_X0_at (kin_16 _ (List.mem_of_getElem? (i := 4) rfl)) ⟨rfl, rfl⟩ ⟨Nat.le_of_ble_eq_true rfl, Nat.le_of_ble_eq_true rfl⟩) kBl_G kOk_G (wTown cI q tb tp tr knd sec brd rms) ⟨rfl, rfl, ⟨rfl, rfl⟩, rfl⟩ (by decide +kernel) rfl rfl rfl rfl hl.1 rfl (Nat.le_of_ble_eq_true rfl) dX5_secretOf_5 (fun H locs hP hD hS => ?_)
  have hf : (f_X5_secretOf sec person) = (f_X0_at 6 sec person) := rfl
  rw [hf] at hret
  exact hret _ _ _ _ hP hS dX5_secretOf_8
def f_X5_toldBeard (brd : Nat → Int32) (person : Int32) (strip : Int32) : Int32 := (f_X0_at 36 brd ((person * 6) + strip))
abbrev rm_X5_toldBeard : Room := { frames := 1, cells := 0, slots := 0, locals := 21 }
set_option maxRecDepth 100000 in
set_option maxHeartbeats 4000000 in
theorem k_X5_toldBeard (l : Launch) (D : va_G) (cI cZ : ClassId) (adK adV : Nat → Nat) (q : Nat → Nat) (tb : Int32) (tp : Int32) (tr : Int32) (knd : Nat → Int32) (sec : Nat → Int32) (brd : Nat → Int32) (rms : Nat → Int32) (person : Int32) (strip : Int32) : CI l D (kTy cI cZ) (kG adK adV) yX5_toldBeard (.code yX5_toldBeard cX5_toldBeard 3 (some .int) :: wsL_law) rm_X5_toldBeard [.ref (q 8), .int person, .int strip] (wTown cI q tb tp tr knd sec brd rms) (wTown cI q tb tp tr knd sec brd rms) (f_X5_toldBeard brd person strip) := by
  refine CI.of (cc := cX5_toldBeard) (maxL := 3) (ty := .int) (by decide) rfl (Nat.le_of_ble_eq_true rfl) rfl ?_
  intro p e s m args below meth c A Q ls hx hb hml hts0 hown hA hP hK hD hE hl hret
  have hts : ∀ w ∈ wsL_law, w.before args s = true := fun w h => hts0 w (List.mem_cons_of_mem _ h)
  clear hts0
  have hown : s.vm.findClass RX5 = some m.cls := hown
  have hl : lv_has ls 3 [(0, .ref (q 8)), (1, .int person), (2, .int strip)] := hl
  have hS : va_S A s.heap s.heap [] := va_S.rf
  revert hP hS
  suffices hgo : ∀ (H : Heap) (locs : List Loc), va_P D vwCl (wTown cI q tb tp tr knd sec brd rms) H → va_S A s.heap H locs → W p l e rm_X5_toldBeard s m args below meth c H locs 0 0 Q (F0 m 0 ls []) from fun a b => hgo _ _ a b
  intro H locs hP hS
  refine lv_aload_n hx hb dX5_toldBeard_0 rfl (lv_at hl 0 rfl) ?_
  refine va_get (D := D) (ci := 5) (v := .ref (q 13)) (C := RX5) (T := TX5) (N := 7) hx hb hts inlX5 hown hK hP 0 rfl rfl 5 (by decide) (kw hts kin_3 16 rfl) (fun _ h9 => h9) rfl dX5_toldBeard_1 ?_
  refine lv_iload_n hx hb dX5_toldBeard_4 rfl (lv_at hl 1 rfl) ?_
  refine lv_bipush (v := 6) hx hb dX5_toldBeard_5 (by decide) ?_
  refine lv_imul hx hb dX5_toldBeard_7 ?_
  refine lv_iload_n hx hb dX5_toldBeard_8 rfl (lv_at hl 2 rfl) ?_
  refine lv_iadd hx hb dX5_toldBeard_9 ?_
  refine kvi (As := [.int ((person * 6) + strip)]) (rest := []) (isC := [5, 6]) (isR := [0, 1, 2, 3, 4, 7, 8]) (isN := [0, 1, 2, 3, 4, 7, 8, 5, 6]) (as := [q 13, q 14]) (wr := ([0, 1, 2, 3, 4, 7, 8] : List Nat).filterMap (fun i => (wTown cI q tb tp tr knd sec brd rms)[i]?)) (q0 := 0) (ci := 0) ⟨hx, hb, hml, hown, hts⟩ hP hK hD hS hA hE (k_X0_at l D cI cZ adK adV (q 13) (q 14) 36 brd ((person * 6) + strip) (by decide)) (kcv hts kM_X0_at (kin_16 _ (List.mem_of_getElem? (i := 4) rfl)) ⟨rfl, rfl⟩ ⟨Nat.le_of_ble_eq_true rfl, Nat.le_of_ble_eq_true rfl⟩) kBl_G kOk_G (wTown cI q tb tp tr knd sec brd rms) ⟨rfl, rfl, ⟨rfl, rfl⟩, rfl⟩ (by decide +kernel) rfl rfl rfl rfl hl.1 rfl (Nat.le_of_ble_eq_true rfl) dX5_toldBeard_10 (fun H locs hP hD hS => ?_)
  have hf : (f_X5_toldBeard brd person strip) = (f_X0_at 36 brd ((person * 6) + strip)) := rfl
  rw [hf] at hret
  exact hret _ _ _ _ hP hS dX5_toldBeard_13
def f_X5_rumourNumber (rms : Nat → Int32) (rumour : Int32) : Int32 := (f_X0_at 8 rms rumour)
abbrev rm_X5_rumourNumber : Room := { frames := 1, cells := 0, slots := 0, locals := 21 }
set_option maxRecDepth 100000 in
set_option maxHeartbeats 4000000 in
theorem k_X5_rumourNumber (l : Launch) (D : va_G) (cI cZ : ClassId) (adK adV : Nat → Nat) (q : Nat → Nat) (tb : Int32) (tp : Int32) (tr : Int32) (knd : Nat → Int32) (sec : Nat → Int32) (brd : Nat → Int32) (rms : Nat → Int32) (rumour : Int32) : CI l D (kTy cI cZ) (kG adK adV) yX5_rumourNumber (.code yX5_rumourNumber cX5_rumourNumber 2 (some .int) :: wsL_law) rm_X5_rumourNumber [.ref (q 8), .int rumour] (wTown cI q tb tp tr knd sec brd rms) (wTown cI q tb tp tr knd sec brd rms) (f_X5_rumourNumber rms rumour) := by
  refine CI.of (cc := cX5_rumourNumber) (maxL := 2) (ty := .int) (by decide) rfl (Nat.le_of_ble_eq_true rfl) rfl ?_
  intro p e s m args below meth c A Q ls hx hb hml hts0 hown hA hP hK hD hE hl hret
  have hts : ∀ w ∈ wsL_law, w.before args s = true := fun w h => hts0 w (List.mem_cons_of_mem _ h)
  clear hts0
  have hown : s.vm.findClass RX5 = some m.cls := hown
  have hl : lv_has ls 2 [(0, .ref (q 8)), (1, .int rumour)] := hl
  have hS : va_S A s.heap s.heap [] := va_S.rf
  revert hP hS
  suffices hgo : ∀ (H : Heap) (locs : List Loc), va_P D vwCl (wTown cI q tb tp tr knd sec brd rms) H → va_S A s.heap H locs → W p l e rm_X5_rumourNumber s m args below meth c H locs 0 0 Q (F0 m 0 ls []) from fun a b => hgo _ _ a b
  intro H locs hP hS
  refine lv_aload_n hx hb dX5_rumourNumber_0 rfl (lv_at hl 0 rfl) ?_
  refine va_get (D := D) (ci := 5) (v := .ref (q 15)) (C := RX5) (T := TX5) (N := 7) hx hb hts inlX5 hown hK hP 0 rfl rfl 6 (by decide) (kw hts kin_3 17 rfl) (fun _ h9 => h9) rfl dX5_rumourNumber_1 ?_
  refine lv_iload_n hx hb dX5_rumourNumber_4 rfl (lv_at hl 1 rfl) ?_
  refine kvi (As := [.int rumour]) (rest := []) (isC := [7, 8]) (isR := [0, 1, 2, 3, 4, 5, 6]) (isN := [0, 1, 2, 3, 4, 5, 6, 7, 8]) (as := [q 15, q 16]) (wr := ([0, 1, 2, 3, 4, 5, 6] : List Nat).filterMap (fun i => (wTown cI q tb tp tr knd sec brd rms)[i]?)) (q0 := 0) (ci := 0) ⟨hx, hb, hml, hown, hts⟩ hP hK hD hS hA hE (k_X0_at l D cI cZ adK adV (q 15) (q 16) 8 rms rumour (by decide)) (kcv hts kM_X0_at (kin_16 _ (List.mem_of_getElem? (i := 4) rfl)) ⟨rfl, rfl⟩ ⟨Nat.le_of_ble_eq_true rfl, Nat.le_of_ble_eq_true rfl⟩) kBl_G kOk_G (wTown cI q tb tp tr knd sec brd rms) ⟨rfl, rfl, ⟨rfl, rfl⟩, rfl⟩ (by decide +kernel) rfl rfl rfl rfl hl.1 rfl (Nat.le_of_ble_eq_true rfl) dX5_rumourNumber_5 (fun H locs hP hD hS => ?_)
  have hf : (f_X5_rumourNumber rms rumour) = (f_X0_at 8 rms rumour) := rfl
  rw [hf] at hret
  exact hret _ _ _ _ hP hS dX5_rumourNumber_8
def f_X5_wouldTell (knd : Nat → Int32) (sec : Nat → Int32) (person : Int32) (strip : Int32) (beard : Int32) : Int32 := (f_X6_telling (f_X5_kindOf knd person) strip beard (((f_X5_secretOf sec person) >>> (strip &&& 31)) &&& 1))
abbrev rm_X5_wouldTell : Room := { frames := 2, cells := 0, slots := 0, locals := 42 }
set_option maxRecDepth 100000 in
set_option maxHeartbeats 4000000 in
theorem k_X5_wouldTell (l : Launch) (D : va_G) (cI cZ : ClassId) (adK adV : Nat → Nat) (q : Nat → Nat) (tb : Int32) (tp : Int32) (tr : Int32) (knd : Nat → Int32) (sec : Nat → Int32) (brd : Nat → Int32) (rms : Nat → Int32) (person : Int32) (strip : Int32) (beard : Int32) : CI l D (kTy cI cZ) (kG adK adV) yX5_wouldTell (.code yX5_wouldTell cX5_wouldTell 4 (some .int) :: wsL_law) rm_X5_wouldTell [.ref (q 8), .int person, .int strip, .int beard] (wTown cI q tb tp tr knd sec brd rms) (wTown cI q tb tp tr knd sec brd rms) (f_X5_wouldTell knd sec person strip beard) := by
  refine CI.of (cc := cX5_wouldTell) (maxL := 4) (ty := .int) (by decide) rfl (Nat.le_of_ble_eq_true rfl) rfl ?_
  intro p e s m args below meth c A Q ls hx hb hml hts0 hown hA hP hK hD hE hl hret
  have hts : ∀ w ∈ wsL_law, w.before args s = true := fun w h => hts0 w (List.mem_cons_of_mem _ h)
  clear hts0
  have hown : s.vm.findClass RX5 = some m.cls := hown
  have hl : lv_has ls 4 [(0, .ref (q 8)), (1, .int person), (2, .int strip), (3, .int beard)] := hl
  have hS : va_S A s.heap s.heap [] := va_S.rf
  revert hP hS
  suffices hgo : ∀ (H : Heap) (locs : List Loc), va_P D vwCl (wTown cI q tb tp tr knd sec brd rms) H → va_S A s.heap H locs → W p l e rm_X5_wouldTell s m args below meth c H locs 0 0 Q (F0 m 0 ls []) from fun a b => hgo _ _ a b
  intro H locs hP hS
  refine lv_aload_n hx hb dX5_wouldTell_0 rfl (lv_at hl 0 rfl) ?_
  refine lv_iload_n hx hb dX5_wouldTell_1 rfl (lv_at hl 1 rfl) ?_
  refine kvi (As := [.int person]) (rest := []) (isC := [0, 1, 2, 3, 4, 5, 6, 7, 8]) (isR := []) (isN := [0, 1, 2, 3, 4, 5, 6, 7, 8]) (as := [q 8, q 9, q 10, q 11, q 12, q 13, q 14, q 15, q 16]) (wr := ([] : List Nat).filterMap (fun i => (wTown cI q tb tp tr knd sec brd rms)[i]?)) (q0 := 0) (ci := 5) ⟨hx, hb, hml, hown, hts⟩ hP hK hD hS hA hE (k_X5_kindOf l D cI cZ adK adV q tb tp tr knd sec brd rms person) (kcv hts kM_X5_kindOf (kin_22 _ (List.mem_of_getElem? (i := 11) rfl)) ⟨rfl, rfl⟩ ⟨Nat.le_of_ble_eq_true rfl, Nat.le_of_ble_eq_true rfl⟩) kBl_G kOk_G (wTown cI q tb tp tr knd sec brd rms) ⟨rfl, rfl, ⟨rfl, rfl⟩, rfl⟩ (by decide +kernel) rfl rfl rfl rfl hl.1 rfl (Nat.le_of_ble_eq_true rfl) dX5_wouldTell_2 (fun H locs hP hD hS => ?_)
  refine lv_iload_n hx hb dX5_wouldTell_5 rfl (lv_at hl 2 rfl) ?_
  refine lv_iload_n hx hb dX5_wouldTell_6 rfl (lv_at hl 3 rfl) ?_
  refine lv_aload_n hx hb dX5_wouldTell_7 rfl (lv_at hl 0 rfl) ?_
  refine lv_iload_n hx hb dX5_wouldTell_8 rfl (lv_at hl 1 rfl) ?_
  refine kvi (As := [.int person]) (rest := [.int beard, .int strip, .int (f_X5_kindOf knd person)]) (isC := [0, 1, 2, 3, 4, 5, 6, 7, 8]) (isR := []) (isN := [0, 1, 2, 3, 4, 5, 6, 7, 8]) (as := [q 8, q 9, q 10, q 11, q 12, q 13, q 14, q 15, q 16]) (wr := ([] : List Nat).filterMap (fun i => (wTown cI q tb tp tr knd sec brd rms)[i]?)) (q0 := 0) (ci := 5) ⟨hx, hb, hml, hown, hts⟩ hP hK hD hS hA hE (k_X5_secretOf l D cI cZ adK adV q tb tp tr knd sec brd rms person) (kcv hts kM_X5_secretOf (kin_22 _ (List.mem_of_getElem? (i := 12) rfl)) ⟨rfl, rfl⟩ ⟨Nat.le_of_ble_eq_true rfl, Nat.le_of_ble_eq_true rfl⟩) kBl_G kOk_G (wTown cI q tb tp tr knd sec brd rms) ⟨rfl, rfl, ⟨rfl, rfl⟩, rfl⟩ (by decide +kernel) rfl rfl rfl rfl hl.1 rfl (Nat.le_of_ble_eq_true rfl) dX5_wouldTell_9 (fun H locs hP hD hS => ?_)
  refine lv_iload_n hx hb dX5_wouldTell_12 rfl (lv_at hl 2 rfl) ?_
  refine lv_ishr hx hb dX5_wouldTell_13 ?_
  refine lv_iconst (v := 1) hx hb dX5_wouldTell_14 (by decide) ?_
  refine lv_iand hx hb dX5_wouldTell_15 ?_
  refine kni (As := [.int (f_X5_kindOf knd person), .int strip, .int beard, .int (((f_X5_secretOf sec person) >>> (strip &&& 31)) &&& 1)]) (rest := []) ⟨hx, hb, hml, hown, hts⟩ hP hK hD hS hA hE (k_X6_telling l D cI cZ adK adV (f_X5_kindOf knd person) strip beard (((f_X5_secretOf sec person) >>> (strip &&& 31)) &&& 1)) (kcn hts kM_X6_telling hE.1.1 ⟨rfl, rfl⟩ ⟨Nat.le_of_ble_eq_true rfl, Nat.le_of_ble_eq_true rfl⟩) kBl_G kOk_G rfl hl.1 rfl (Nat.le_of_ble_eq_true rfl) dX5_wouldTell_16 (fun H locs hP hD hS => ?_)
  have hf : (f_X5_wouldTell knd sec person strip beard) = (f_X6_telling (f_X5_kindOf knd person) strip beard (((f_X5_secretOf sec person) >>> (strip &&& 31)) &&& 1)) := rfl
  rw [hf] at hret
  exact hret _ _ _ _ hP hS dX5_wouldTell_19
def v_X5_fitting_24_0 (rms : Nat → Int32) (known : Int32) (parts_ : Int32) (i : Nat) (x5_3 : Int32) : Int32 := if (((f_X5_rumourNumber rms (nI i)) ^^^ parts_) &&& known) = 0 then (x5_3 ||| (1 <<< ((nI i) &&& 31))) else x5_3
def nx_X5_fitting_5 (rms : Nat → Int32) (known : Int32) (parts_ : Int32) (i : Nat) (x5_3 : Int32) : Int32 := (v_X5_fitting_24_0 rms known parts_ i x5_3)
def x_X5_fitting_5 (tr : Int32) (rms : Nat → Int32) (known : Int32) (parts_ : Int32) : Int32 := lp (fun iz z => nx_X5_fitting_5 rms known parts_ iz z) 0 tr.toNatClampNeg
def f_X5_fitting (tr : Int32) (rms : Nat → Int32) (known : Int32) (parts_ : Int32) : Int32 := (x_X5_fitting_5 tr rms known parts_)
abbrev rm_X5_fitting : Room := { frames := 2, cells := 0, slots := 0, locals := 42 }
set_option maxRecDepth 100000 in
set_option maxHeartbeats 4000000 in
theorem k_X5_fitting (l : Launch) (D : va_G) (cI cZ : ClassId) (adK adV : Nat → Nat) (q : Nat → Nat) (tb : Int32) (tp : Int32) (tr : Int32) (knd : Nat → Int32) (sec : Nat → Int32) (brd : Nat → Int32) (rms : Nat → Int32) (known : Int32) (parts_ : Int32) : CI l D (kTy cI cZ) (kG adK adV) yX5_fitting (.code yX5_fitting cX5_fitting 5 (some .int) :: wsL_law) rm_X5_fitting [.ref (q 8), .int known, .int parts_] (wTown cI q tb tp tr knd sec brd rms) (wTown cI q tb tp tr knd sec brd rms) (f_X5_fitting tr rms known parts_) := by
  refine CI.of (cc := cX5_fitting) (maxL := 5) (ty := .int) (by decide) rfl (Nat.le_of_ble_eq_true rfl) rfl ?_
  intro p e s m args below meth c A Q ls hx hb hml hts0 hown hA hP hK hD hE hl hret
  have hts : ∀ w ∈ wsL_law, w.before args s = true := fun w h => hts0 w (List.mem_cons_of_mem _ h)
  clear hts0
  have hown : s.vm.findClass RX5 = some m.cls := hown
  have hl : lv_has ls 5 [(0, .ref (q 8)), (1, .int known), (2, .int parts_)] := hl
  have hS : va_S A s.heap s.heap [] := va_S.rf
  revert hP hS
  suffices hgo : ∀ (H : Heap) (locs : List Loc), va_P D vwCl (wTown cI q tb tp tr knd sec brd rms) H → va_S A s.heap H locs → W p l e rm_X5_fitting s m args below meth c H locs 0 0 Q (F0 m 0 ls []) from fun a b => hgo _ _ a b
  intro H locs hP hS
  refine lv_iconst (v := 0) hx hb dX5_fitting_0 (by decide) ?_
  refine lv_istore_n (lv' := [(3, .int 0), (0, .ref (q 8)), (1, .int known), (2, .int parts_)]) hx hb dX5_fitting_1 rfl hl (by decide) rfl (fun ls hl => ?_)
  refine lv_iconst (v := 0) hx hb dX5_fitting_2 (by decide) ?_
  refine lv_istore (lv' := [(4, .int 0), (3, .int 0), (0, .ref (q 8)), (1, .int known), (2, .int parts_)]) hx hb dX5_fitting_3 hl (by decide) rfl (fun ls hl => ?_)
  have lp5 : ∀ (k5 i : Nat) (x5_3 : Int32), i + k5 = tr.toNatClampNeg → x5_3 = lp (fun iz z => nx_X5_fitting_5 rms known parts_ iz z) 0 i → ∀ (H : Heap) (locs : List Loc) (ls : Array Slot), va_P D vwCl (wTown cI q tb tp tr knd sec brd rms) H → va_D A (wTown cI q tb tp tr knd sec brd rms) → va_S A s.heap H locs → lv_has ls 5 [(0, .ref (q 8)), (1, .int known), (2, .int parts_), (3, .int x5_3), (4, .int (nI i))] → W p l e rm_X5_fitting s m args below meth c H locs 0 0 Q (F0 m 5 ls []) := by
    intro k5
    induction k5 with
    | zero =>
      intro i x5_3 hi5 ea5 H locs ls hP hD hS hl
      have hi5 : tr.toNatClampNeg = i := by omega
      subst hi5
      have ea5 : x5_3 = (x_X5_fitting_5 tr rms known parts_) := ea5
      subst ea5
      refine lv_iload hx hb dX5_fitting_5 (lv_at hl 4 rfl) ?_
      refine lv_aload_n hx hb dX5_fitting_7 rfl (lv_at hl 0 rfl) ?_
      refine va_get (D := D) (ci := 5) (v := .int tr) (C := RX5) (T := TX5) (N := 7) hx hb hts inlX5 hown hK hP 0 rfl rfl 2 (by decide) (kw hts kin_15 4 rfl) (fun _ h9 => h9) rfl dX5_fitting_8 ?_
      refine lv_icmp_ge (tgt := 40) hx hb dX5_fitting_11 (by decide) (fun _ => ?_) (fun c_11 => absurd (kle_clamp _) c_11)
      refine lv_iload_n hx hb dX5_fitting_40 rfl (lv_at hl 3 rfl) ?_
      have hf : (f_X5_fitting tr rms known parts_) = (x_X5_fitting_5 tr rms known parts_) := rfl
      rw [hf] at hret
      exact hret _ _ _ _ hP hS dX5_fitting_41
    | succ k5 ih5 =>
      intro i x5_3 hi5 ea5 H locs ls hP hD hS hl
      have hlt5 : i < tr.toNatClampNeg := by omega
      refine lv_iload hx hb dX5_fitting_5 (lv_at hl 4 rfl) ?_
      refine lv_aload_n hx hb dX5_fitting_7 rfl (lv_at hl 0 rfl) ?_
      refine va_get (D := D) (ci := 5) (v := .int tr) (C := RX5) (T := TX5) (N := 7) hx hb hts inlX5 hown hK hP 0 rfl rfl 2 (by decide) (kw hts kin_15 4 rfl) (fun _ h9 => h9) rfl dX5_fitting_8 ?_
      refine lv_icmp_ge (tgt := 40) hx hb dX5_fitting_11 (by decide) (fun c_11 => absurd c_11 (klt_clamp hlt5)) (fun _ => ?_)
      refine lv_aload_n hx hb dX5_fitting_14 rfl (lv_at hl 0 rfl) ?_
      refine lv_iload hx hb dX5_fitting_15 (lv_at hl 4 rfl) ?_
      refine kvi (As := [.int (nI i)]) (rest := []) (isC := [0, 1, 2, 3, 4, 5, 6, 7, 8]) (isR := []) (isN := [0, 1, 2, 3, 4, 5, 6, 7, 8]) (as := [q 8, q 9, q 10, q 11, q 12, q 13, q 14, q 15, q 16]) (wr := ([] : List Nat).filterMap (fun i => (wTown cI q tb tp tr knd sec brd rms)[i]?)) (q0 := 0) (ci := 5) ⟨hx, hb, hml, hown, hts⟩ hP hK hD hS hA hE (k_X5_rumourNumber l D cI cZ adK adV q tb tp tr knd sec brd rms (nI i)) (kcv hts kM_X5_rumourNumber (kin_21 _ (List.mem_of_getElem? (i := 3) rfl)) ⟨rfl, rfl⟩ ⟨Nat.le_of_ble_eq_true rfl, Nat.le_of_ble_eq_true rfl⟩) kBl_G kOk_G (wTown cI q tb tp tr knd sec brd rms) ⟨rfl, rfl, ⟨rfl, rfl⟩, rfl⟩ (by decide +kernel) rfl rfl rfl rfl hl.1 rfl (Nat.le_of_ble_eq_true rfl) dX5_fitting_17 (fun H locs hP hD hS => ?_)
      refine lv_iload_n hx hb dX5_fitting_20 rfl (lv_at hl 2 rfl) ?_
      refine lv_ixor hx hb dX5_fitting_21 ?_
      refine lv_iload_n hx hb dX5_fitting_22 rfl (lv_at hl 1 rfl) ?_
      refine lv_iand hx hb dX5_fitting_23 ?_
      have J24 : ∀ (H : Heap) (locs : List Loc) (ls : Array Slot), va_P D vwCl (wTown cI q tb tp tr knd sec brd rms) H → va_D A (wTown cI q tb tp tr knd sec brd rms) → va_S A s.heap H locs → lv_has ls 5 [(0, .ref (q 8)), (1, .int known), (2, .int parts_), (3, .int (v_X5_fitting_24_0 rms known parts_ i x5_3)), (4, .int (nI i))] → W p l e rm_X5_fitting s m args below meth c H locs 0 0 Q (F0 m 34 ls []) := by
        intro H locs ls hP hD hS hl
        refine lv_iinc (v := (nI (i + 1))) (lv' := [(4, .int (nI (i + 1))), (0, .ref (q 8)), (1, .int known), (2, .int parts_), (3, .int (v_X5_fitting_24_0 rms known parts_ i x5_3))]) hx hb dX5_fitting_34 hl (k := 4) rfl (nI_1 i) (by decide) rfl (fun ls hl => ?_)
        refine lv_goto (tgt := 5) hx hb dX5_fitting_37 (by decide) ?_
        have hb5 : nx_X5_fitting_5 rms known parts_ i x5_3 = (v_X5_fitting_24_0 rms known parts_ i x5_3) := rfl
        exact ih5 (i + 1) (v_X5_fitting_24_0 rms known parts_ i x5_3) (by omega) (hb5.symm.trans (congrArg ((fun iz z => nx_X5_fitting_5 rms known parts_ iz z) i) ea5)) _ _ _ hP hD hS (lv_sub hl [1, 2, 3, 4, 0] rfl)
      refine lv_if_ne (tgt := 34) hx hb dX5_fitting_24 (by decide) (fun c_24 => ?_) (fun c_24 => ?_)
      · skip
        rw [show (v_X5_fitting_24_0 rms known parts_ i x5_3) = x5_3 from (if_neg c_24)] at J24
        exact J24 _ _ _ hP hD hS (lv_sub hl [0, 1, 2, 3, 4] rfl)
      · skip
        refine lv_iload_n hx hb dX5_fitting_27 rfl (lv_at hl 3 rfl) ?_
        refine lv_iconst (v := 1) hx hb dX5_fitting_28 (by decide) ?_
        refine lv_iload hx hb dX5_fitting_29 (lv_at hl 4 rfl) ?_
        refine lv_ishl hx hb dX5_fitting_31 ?_
        refine lv_ior hx hb dX5_fitting_32 ?_
        refine lv_istore_n (lv' := [(3, .int (x5_3 ||| (1 <<< ((nI i) &&& 31)))), (0, .ref (q 8)), (1, .int known), (2, .int parts_), (4, .int (nI i))]) hx hb dX5_fitting_33 rfl hl (by decide) rfl (fun ls hl => ?_)
        rw [show (v_X5_fitting_24_0 rms known parts_ i x5_3) = (x5_3 ||| (1 <<< ((nI i) &&& 31))) from (if_pos c_24)] at J24
        exact J24 _ _ _ hP hD hS (lv_sub hl [1, 2, 3, 0, 4] rfl)
  exact lp5 tr.toNatClampNeg 0 0 (Nat.zero_add _) rfl _ _ _ hP hD hS (lv_sub hl [2, 3, 4, 1, 0] rfl)
def v_X5_mostAlike_20_0 (rms : Nat → Int32) (some_ : Int32) (strip : Int32) (i : Nat) (x5_3 : Int32) : Int32 := if (f_X6_has some_ (nI i)) = 0 then x5_3 else (if (f_X6_has (f_X5_rumourNumber rms (nI i)) strip) = 0 then x5_3 else (x5_3 + 1))
def nx_X5_mostAlike_5 (rms : Nat → Int32) (some_ : Int32) (strip : Int32) (i : Nat) (x5_3 : Int32) : Int32 := (v_X5_mostAlike_20_0 rms some_ strip i x5_3)
def x_X5_mostAlike_5 (tr : Int32) (rms : Nat → Int32) (some_ : Int32) (strip : Int32) : Int32 := lp (fun iz z => nx_X5_mostAlike_5 rms some_ strip iz z) 0 tr.toNatClampNeg
def f_X5_mostAlike (tr : Int32) (rms : Nat → Int32) (some_ : Int32) (strip : Int32) : Int32 := (if (x_X5_mostAlike_5 tr rms some_ strip) < ((f_J6_bitCount_0f7a4 some_) - (x_X5_mostAlike_5 tr rms some_ strip)) then ((f_J6_bitCount_0f7a4 some_) - (x_X5_mostAlike_5 tr rms some_ strip)) else (x_X5_mostAlike_5 tr rms some_ strip))
abbrev rm_X5_mostAlike : Room := { frames := 2, cells := 0, slots := 0, locals := 42 }
set_option maxRecDepth 100000 in
set_option maxHeartbeats 4000000 in
theorem k_X5_mostAlike (l : Launch) (D : va_G) (cI cZ : ClassId) (adK adV : Nat → Nat) (q : Nat → Nat) (tb : Int32) (tp : Int32) (tr : Int32) (knd : Nat → Int32) (sec : Nat → Int32) (brd : Nat → Int32) (rms : Nat → Int32) (some_ : Int32) (strip : Int32) : CI l D (kTy cI cZ) (kG adK adV) yX5_mostAlike (.code yX5_mostAlike cX5_mostAlike 5 (some .int) :: wsL_law) rm_X5_mostAlike [.ref (q 8), .int some_, .int strip] (wTown cI q tb tp tr knd sec brd rms) (wTown cI q tb tp tr knd sec brd rms) (f_X5_mostAlike tr rms some_ strip) := by
  refine CI.of (cc := cX5_mostAlike) (maxL := 5) (ty := .int) (by decide) rfl (Nat.le_of_ble_eq_true rfl) rfl ?_
  intro p e s m args below meth c A Q ls hx hb hml hts0 hown hA hP hK hD hE hl hret
  have hts : ∀ w ∈ wsL_law, w.before args s = true := fun w h => hts0 w (List.mem_cons_of_mem _ h)
  clear hts0
  have hown : s.vm.findClass RX5 = some m.cls := hown
  have hl : lv_has ls 5 [(0, .ref (q 8)), (1, .int some_), (2, .int strip)] := hl
  have hS : va_S A s.heap s.heap [] := va_S.rf
  revert hP hS
  suffices hgo : ∀ (H : Heap) (locs : List Loc), va_P D vwCl (wTown cI q tb tp tr knd sec brd rms) H → va_S A s.heap H locs → W p l e rm_X5_mostAlike s m args below meth c H locs 0 0 Q (F0 m 0 ls []) from fun a b => hgo _ _ a b
  intro H locs hP hS
  refine lv_iconst (v := 0) hx hb dX5_mostAlike_0 (by decide) ?_
  refine lv_istore_n (lv' := [(3, .int 0), (0, .ref (q 8)), (1, .int some_), (2, .int strip)]) hx hb dX5_mostAlike_1 rfl hl (by decide) rfl (fun ls hl => ?_)
  refine lv_iconst (v := 0) hx hb dX5_mostAlike_2 (by decide) ?_
  refine lv_istore (lv' := [(4, .int 0), (3, .int 0), (0, .ref (q 8)), (1, .int some_), (2, .int strip)]) hx hb dX5_mostAlike_3 hl (by decide) rfl (fun ls hl => ?_)
  have lp5 : ∀ (k5 i : Nat) (x5_3 : Int32), i + k5 = tr.toNatClampNeg → x5_3 = lp (fun iz z => nx_X5_mostAlike_5 rms some_ strip iz z) 0 i → ∀ (H : Heap) (locs : List Loc) (ls : Array Slot), va_P D vwCl (wTown cI q tb tp tr knd sec brd rms) H → va_D A (wTown cI q tb tp tr knd sec brd rms) → va_S A s.heap H locs → lv_has ls 5 [(0, .ref (q 8)), (1, .int some_), (2, .int strip), (3, .int x5_3), (4, .int (nI i))] → W p l e rm_X5_mostAlike s m args below meth c H locs 0 0 Q (F0 m 5 ls []) := by
    intro k5
    induction k5 with
    | zero =>
      intro i x5_3 hi5 ea5 H locs ls hP hD hS hl
      have hi5 : tr.toNatClampNeg = i := by omega
      subst hi5
      have ea5 : x5_3 = (x_X5_mostAlike_5 tr rms some_ strip) := ea5
      subst ea5
      refine lv_iload hx hb dX5_mostAlike_5 (lv_at hl 4 rfl) ?_
      refine lv_aload_n hx hb dX5_mostAlike_7 rfl (lv_at hl 0 rfl) ?_
      refine va_get (D := D) (ci := 5) (v := .int tr) (C := RX5) (T := TX5) (N := 7) hx hb hts inlX5 hown hK hP 0 rfl rfl 2 (by decide) (kw hts kin_15 4 rfl) (fun _ h9 => h9) rfl dX5_mostAlike_8 ?_
      refine lv_icmp_ge (tgt := 45) hx hb dX5_mostAlike_11 (by decide) (fun _ => ?_) (fun c_11 => absurd (kle_clamp _) c_11)
      refine lv_iload_n hx hb dX5_mostAlike_45 rfl (lv_at hl 3 rfl) ?_
      refine lv_iload_n hx hb dX5_mostAlike_46 rfl (lv_at hl 1 rfl) ?_
      refine ksi (As := [.int some_]) (rest := [.int (x_X5_mostAlike_5 tr rms some_ strip)]) ⟨hx, hb, hml, hown, hts⟩ hP hK hD hS hA hE (k_J6_bitCount_0f7a4 l D cI cZ adK adV some_) (kcs hts kM_J6_bitCount_0f7a4 (kin_30 _ (List.mem_of_getElem? (i := 3) rfl)) ⟨rfl, rfl⟩ ⟨Nat.le_of_ble_eq_true rfl, Nat.le_of_ble_eq_true rfl⟩) kBl_G kOk_G rfl hl.1 rfl (Nat.le_of_ble_eq_true rfl) dX5_mostAlike_47 (fun H locs hP hD hS => ?_)
      refine lv_iload_n hx hb dX5_mostAlike_50 rfl (lv_at hl 3 rfl) ?_
      refine lv_isub hx hb dX5_mostAlike_51 ?_
      refine va_mmax hx hb (hml.trans hl.1.symm) hown (kw hts kin_15 2 rfl) (kw hts kin_3 3 rfl) (kw hts kin_3 4 rfl) (kw hts kin_3 5 rfl) (Nat.le_of_ble_eq_true rfl) (Nat.le_of_ble_eq_true rfl) (Nat.zero_le _) (Nat.zero_le _) dX5_mostAlike_52 ?_
      have hf : (f_X5_mostAlike tr rms some_ strip) = (if (x_X5_mostAlike_5 tr rms some_ strip) < ((f_J6_bitCount_0f7a4 some_) - (x_X5_mostAlike_5 tr rms some_ strip)) then ((f_J6_bitCount_0f7a4 some_) - (x_X5_mostAlike_5 tr rms some_ strip)) else (x_X5_mostAlike_5 tr rms some_ strip)) := rfl
      rw [hf] at hret
      exact hret _ _ _ _ hP hS dX5_mostAlike_55
    | succ k5 ih5 =>
      intro i x5_3 hi5 ea5 H locs ls hP hD hS hl
      have hlt5 : i < tr.toNatClampNeg := by omega
      refine lv_iload hx hb dX5_mostAlike_5 (lv_at hl 4 rfl) ?_
      refine lv_aload_n hx hb dX5_mostAlike_7 rfl (lv_at hl 0 rfl) ?_
      refine va_get (D := D) (ci := 5) (v := .int tr) (C := RX5) (T := TX5) (N := 7) hx hb hts inlX5 hown hK hP 0 rfl rfl 2 (by decide) (kw hts kin_15 4 rfl) (fun _ h9 => h9) rfl dX5_mostAlike_8 ?_
      refine lv_icmp_ge (tgt := 45) hx hb dX5_mostAlike_11 (by decide) (fun c_11 => absurd c_11 (klt_clamp hlt5)) (fun _ => ?_)
      refine lv_iload_n hx hb dX5_mostAlike_14 rfl (lv_at hl 1 rfl) ?_
      refine lv_iload hx hb dX5_mostAlike_15 (lv_at hl 4 rfl) ?_
      refine kni (As := [.int some_, .int (nI i)]) (rest := []) ⟨hx, hb, hml, hown, hts⟩ hP hK hD hS hA hE (k_X6_has l D cI cZ adK adV some_ (nI i)) (kcn hts kM_X6_has hE.1.2.1 ⟨rfl, rfl⟩ ⟨Nat.le_of_ble_eq_true rfl, Nat.le_of_ble_eq_true rfl⟩) kBl_G kOk_G rfl hl.1 rfl (Nat.le_of_ble_eq_true rfl) dX5_mostAlike_17 (fun H locs hP hD hS => ?_)
      have J20 : ∀ (H : Heap) (locs : List Loc) (ls : Array Slot), va_P D vwCl (wTown cI q tb tp tr knd sec brd rms) H → va_D A (wTown cI q tb tp tr knd sec brd rms) → va_S A s.heap H locs → lv_has ls 5 [(0, .ref (q 8)), (1, .int some_), (2, .int strip), (3, .int (v_X5_mostAlike_20_0 rms some_ strip i x5_3)), (4, .int (nI i))] → W p l e rm_X5_mostAlike s m args below meth c H locs 0 0 Q (F0 m 39 ls []) := by
        intro H locs ls hP hD hS hl
        refine lv_iinc (v := (nI (i + 1))) (lv' := [(4, .int (nI (i + 1))), (0, .ref (q 8)), (1, .int some_), (2, .int strip), (3, .int (v_X5_mostAlike_20_0 rms some_ strip i x5_3))]) hx hb dX5_mostAlike_39 hl (k := 4) rfl (nI_1 i) (by decide) rfl (fun ls hl => ?_)
        refine lv_goto (tgt := 5) hx hb dX5_mostAlike_42 (by decide) ?_
        have hb5 : nx_X5_mostAlike_5 rms some_ strip i x5_3 = (v_X5_mostAlike_20_0 rms some_ strip i x5_3) := rfl
        exact ih5 (i + 1) (v_X5_mostAlike_20_0 rms some_ strip i x5_3) (by omega) (hb5.symm.trans (congrArg ((fun iz z => nx_X5_mostAlike_5 rms some_ strip iz z) i) ea5)) _ _ _ hP hD hS (lv_sub hl [1, 2, 3, 4, 0] rfl)
      refine lv_if_eq (tgt := 39) hx hb dX5_mostAlike_20 (by decide) (fun c_20 => ?_) (fun c_20 => ?_)
      · skip
        rw [show (v_X5_mostAlike_20_0 rms some_ strip i x5_3) = x5_3 from (if_pos c_20)] at J20
        exact J20 _ _ _ hP hD hS (lv_sub hl [0, 1, 2, 3, 4] rfl)
      · skip
        refine lv_aload_n hx hb dX5_mostAlike_23 rfl (lv_at hl 0 rfl) ?_
        refine lv_iload hx hb dX5_mostAlike_24 (lv_at hl 4 rfl) ?_
        refine kvi (As := [.int (nI i)]) (rest := []) (isC := [0, 1, 2, 3, 4, 5, 6, 7, 8]) (isR := []) (isN := [0, 1, 2, 3, 4, 5, 6, 7, 8]) (as := [q 8, q 9, q 10, q 11, q 12, q 13, q 14, q 15, q 16]) (wr := ([] : List Nat).filterMap (fun i => (wTown cI q tb tp tr knd sec brd rms)[i]?)) (q0 := 0) (ci := 5) ⟨hx, hb, hml, hown, hts⟩ hP hK hD hS hA hE (k_X5_rumourNumber l D cI cZ adK adV q tb tp tr knd sec brd rms (nI i)) (kcv hts kM_X5_rumourNumber (kin_21 _ (List.mem_of_getElem? (i := 3) rfl)) ⟨rfl, rfl⟩ ⟨Nat.le_of_ble_eq_true rfl, Nat.le_of_ble_eq_true rfl⟩) kBl_G kOk_G (wTown cI q tb tp tr knd sec brd rms) ⟨rfl, rfl, ⟨rfl, rfl⟩, rfl⟩ (by decide +kernel) rfl rfl rfl rfl hl.1 rfl (Nat.le_of_ble_eq_true rfl) dX5_mostAlike_26 (fun H locs hP hD hS => ?_)
        refine lv_iload_n hx hb dX5_mostAlike_29 rfl (lv_at hl 2 rfl) ?_
        refine kni (As := [.int (f_X5_rumourNumber rms (nI i)), .int strip]) (rest := []) ⟨hx, hb, hml, hown, hts⟩ hP hK hD hS hA hE (k_X6_has l D cI cZ adK adV (f_X5_rumourNumber rms (nI i)) strip) (kcn hts kM_X6_has hE.1.2.1 ⟨rfl, rfl⟩ ⟨Nat.le_of_ble_eq_true rfl, Nat.le_of_ble_eq_true rfl⟩) kBl_G kOk_G rfl hl.1 rfl (Nat.le_of_ble_eq_true rfl) dX5_mostAlike_30 (fun H locs hP hD hS => ?_)
        refine lv_if_eq (tgt := 39) hx hb dX5_mostAlike_33 (by decide) (fun c_33 => ?_) (fun c_33 => ?_)
        · skip
          rw [show (v_X5_mostAlike_20_0 rms some_ strip i x5_3) = x5_3 from ((if_neg c_20).trans (if_pos c_33))] at J20
          exact J20 _ _ _ hP hD hS (lv_sub hl [0, 1, 2, 3, 4] rfl)
        · skip
          refine lv_iinc (v := (x5_3 + 1)) (lv' := [(3, .int (x5_3 + 1)), (0, .ref (q 8)), (1, .int some_), (2, .int strip), (4, .int (nI i))]) hx hb dX5_mostAlike_36 hl (k := 3) rfl rfl (by decide) rfl (fun ls hl => ?_)
          rw [show (v_X5_mostAlike_20_0 rms some_ strip i x5_3) = (x5_3 + 1) from ((if_neg c_20).trans (if_neg c_33))] at J20
          exact J20 _ _ _ hP hD hS (lv_sub hl [1, 2, 3, 0, 4] rfl)
  exact lp5 tr.toNatClampNeg 0 0 (Nat.zero_add _) rfl _ _ _ hP hD hS (lv_sub hl [2, 3, 4, 1, 0] rfl)
def f_X5_found (brd : Nat → Int32) (howMany : Int32) : Int32 × Int32 × Int32 × (Nat → Int32) := ((if 1 < (if howMany < 4 then howMany else 4) then (if howMany < 4 then howMany else 4) else 1), 0, 0, (f_X0_zero 36 brd))
abbrev rm_X5_found : Room := { frames := 1, cells := 0, slots := 0, locals := 21 }
set_option maxRecDepth 100000 in
set_option maxHeartbeats 4000000 in
theorem k_X5_found (l : Launch) (D : va_G) (cI cZ : ClassId) (adK adV : Nat → Nat) (q : Nat → Nat) (tb : Int32) (tp : Int32) (tr : Int32) (knd : Nat → Int32) (sec : Nat → Int32) (brd : Nat → Int32) (rms : Nat → Int32) (howMany : Int32) : CV l D (kTy cI cZ) (kG adK adV) yX5_found (.code yX5_found cX5_found 2 none :: wsL_law) rm_X5_found [.ref (q 8), .int howMany] (wTown cI q tb tp tr knd sec brd rms) (wTown cI q ((f_X5_found brd howMany).1) ((f_X5_found brd howMany).2.1) ((f_X5_found brd howMany).2.2.1) knd sec ((f_X5_found brd howMany).2.2.2) rms) := by
  refine CV.of (cc := cX5_found) (maxL := 2) (by decide) rfl (Nat.le_of_ble_eq_true rfl) ?_
  intro p e s m args below meth c A Q ls hx hb hml hts0 hown hA hP hK hD hE hl hret
  have hts : ∀ w ∈ wsL_law, w.before args s = true := fun w h => hts0 w (List.mem_cons_of_mem _ h)
  clear hts0
  have hown : s.vm.findClass RX5 = some m.cls := hown
  have hl : lv_has ls 2 [(0, .ref (q 8)), (1, .int howMany)] := hl
  have hS : va_S A s.heap s.heap [] := va_S.rf
  revert hP hS
  suffices hgo : ∀ (H : Heap) (locs : List Loc), va_P D vwCl (wTown cI q tb tp tr knd sec brd rms) H → va_S A s.heap H locs → W p l e rm_X5_found s m args below meth c H locs 0 0 Q (F0 m 0 ls []) from fun a b => hgo _ _ a b
  intro H locs hP hS
  refine lv_aload_n hx hb dX5_found_0 rfl (lv_at hl 0 rfl) ?_
  refine lv_iconst (v := 1) hx hb dX5_found_1 (by decide) ?_
  refine lv_iconst (v := 4) hx hb dX5_found_2 (by decide) ?_
  refine lv_iload_n hx hb dX5_found_3 rfl (lv_at hl 1 rfl) ?_
  refine va_mmin hx hb (hml.trans hl.1.symm) hown (kw hts kin_15 1 rfl) (kw hts kin_5 18 rfl) (kw hts kin_3 4 rfl) (kw hts kin_5 19 rfl) (Nat.le_of_ble_eq_true rfl) (Nat.le_of_ble_eq_true rfl) (Nat.zero_le _) (Nat.zero_le _) dX5_found_4 ?_
  refine va_mmax hx hb (hml.trans hl.1.symm) hown (kw hts kin_15 2 rfl) (kw hts kin_3 3 rfl) (kw hts kin_3 4 rfl) (kw hts kin_3 5 rfl) (Nat.le_of_ble_eq_true rfl) (Nat.le_of_ble_eq_true rfl) (Nat.zero_le _) (Nat.zero_le _) dX5_found_7 ?_
  refine va_put (D := D) (ci := 5) (v := .int (if 1 < (if howMany < 4 then howMany else 4) then (if howMany < 4 then howMany else 4) else 1)) (ty := .int) (C := RX5) (T := TX5) (N := 7) hx hb hts inlX5 tyX5 tyX5_ok nmX5 hown hK hP hD hS 0 rfl rfl 0 (by decide) (kw hts kin_3 12 rfl) (fun _ h9 => h9) rfl (by decide +kernel) rfl rfl (Nat.le_of_ble_eq_true rfl) dX5_found_10 (fun H locs hP hD hS => ?_)
  have hP : va_P D vwCl (wTown cI q (if 1 < (if howMany < 4 then howMany else 4) then (if howMany < 4 then howMany else 4) else 1) tp tr knd sec brd rms) H := hP
  have hD : va_D A (wTown cI q (if 1 < (if howMany < 4 then howMany else 4) then (if howMany < 4 then howMany else 4) else 1) tp tr knd sec brd rms) := hD
  refine lv_aload_n hx hb dX5_found_13 rfl (lv_at hl 0 rfl) ?_
  refine lv_iconst (v := 0) hx hb dX5_found_14 (by decide) ?_
  refine va_put (D := D) (ci := 5) (v := .int 0) (ty := .int) (C := RX5) (T := TX5) (N := 7) hx hb hts inlX5 tyX5 tyX5_ok nmX5 hown hK hP hD hS 0 rfl rfl 1 (by decide) (kw hts kin_15 3 rfl) (fun _ h9 => h9) rfl (by decide +kernel) rfl rfl (Nat.le_of_ble_eq_true rfl) dX5_found_15 (fun H locs hP hD hS => ?_)
  have hP : va_P D vwCl (wTown cI q (if 1 < (if howMany < 4 then howMany else 4) then (if howMany < 4 then howMany else 4) else 1) 0 tr knd sec brd rms) H := hP
  have hD : va_D A (wTown cI q (if 1 < (if howMany < 4 then howMany else 4) then (if howMany < 4 then howMany else 4) else 1) 0 tr knd sec brd rms) := hD
  refine lv_aload_n hx hb dX5_found_18 rfl (lv_at hl 0 rfl) ?_
  refine lv_iconst (v := 0) hx hb dX5_found_19 (by decide) ?_
  refine va_put (D := D) (ci := 5) (v := .int 0) (ty := .int) (C := RX5) (T := TX5) (N := 7) hx hb hts inlX5 tyX5 tyX5_ok nmX5 hown hK hP hD hS 0 rfl rfl 2 (by decide) (kw hts kin_15 4 rfl) (fun _ h9 => h9) rfl (by decide +kernel) rfl rfl (Nat.le_of_ble_eq_true rfl) dX5_found_20 (fun H locs hP hD hS => ?_)
  have hP : va_P D vwCl (wTown cI q (if 1 < (if howMany < 4 then howMany else 4) then (if howMany < 4 then howMany else 4) else 1) 0 0 knd sec brd rms) H := hP
  have hD : va_D A (wTown cI q (if 1 < (if howMany < 4 then howMany else 4) then (if howMany < 4 then howMany else 4) else 1) 0 0 knd sec brd rms) := hD
  refine lv_aload_n hx hb dX5_found_23 rfl (lv_at hl 0 rfl) ?_
  refine va_get (D := D) (ci := 5) (v := .ref (q 13)) (C := RX5) (T := TX5) (N := 7) hx hb hts inlX5 hown hK hP 0 rfl rfl 5 (by decide) (kw hts kin_3 16 rfl) (fun _ h9 => h9) rfl dX5_found_24 ?_
  refine kvv (As := []) (rest := []) (isC := [5, 6]) (isR := [0, 1, 2, 3, 4, 7, 8]) (isN := [0, 1, 2, 3, 4, 7, 8, 5, 6]) (as := [q 13, q 14]) (wr := ([0, 1, 2, 3, 4, 7, 8] : List Nat).filterMap (fun i => (wTown cI q (if 1 < (if howMany < 4 then howMany else 4) then (if howMany < 4 then howMany else 4) else 1) 0 0 knd sec brd rms)[i]?)) (q0 := 0) (ci := 0) ⟨hx, hb, hml, hown, hts⟩ hP hK hD hS hA hE (k_X0_zero l D cI cZ adK adV (q 13) (q 14) 36 brd (by decide)) (kcv hts kM_X0_zero (kin_15 _ (List.mem_of_getElem? (i := 5) rfl)) ⟨rfl, rfl⟩ ⟨Nat.le_of_ble_eq_true rfl, Nat.le_of_ble_eq_true rfl⟩) kBl_G kOk_G (wTown cI q (if 1 < (if howMany < 4 then howMany else 4) then (if howMany < 4 then howMany else 4) else 1) 0 0 knd sec (f_X0_zero 36 brd) rms) ⟨rfl, rfl, ⟨rfl, rfl⟩, rfl⟩ (by decide +kernel) rfl rfl rfl rfl hl.1 rfl (Nat.le_of_ble_eq_true rfl) dX5_found_27 (fun H locs hP hD hS => ?_)
  have hf : (f_X5_found brd howMany) = ((if 1 < (if howMany < 4 then howMany else 4) then (if howMany < 4 then howMany else 4) else 1), 0, 0, (f_X0_zero 36 brd)) := rfl
  rw [hf] at hret
  exact hret _ _ _ _ hP hS dX5_found_30
def f_X5_addPerson (tp : Int32) (knd : Nat → Int32) (sec : Nat → Int32) (kind : Int32) (secret : Int32) : Int32 × (Nat → Int32) × (Nat → Int32) := ((if (tp + 1) < 6 then (tp + 1) else 6), (f_X0_put 6 knd tp kind), (f_X0_put 6 sec tp secret))
abbrev rm_X5_addPerson : Room := { frames := 1, cells := 0, slots := 0, locals := 22 }
set_option maxRecDepth 100000 in
set_option maxHeartbeats 4000000 in
theorem k_X5_addPerson (l : Launch) (D : va_G) (cI cZ : ClassId) (adK adV : Nat → Nat) (q : Nat → Nat) (tb : Int32) (tp : Int32) (tr : Int32) (knd : Nat → Int32) (sec : Nat → Int32) (brd : Nat → Int32) (rms : Nat → Int32) (kind : Int32) (secret : Int32) : CV l D (kTy cI cZ) (kG adK adV) yX5_addPerson (.code yX5_addPerson cX5_addPerson 3 none :: wsL_law) rm_X5_addPerson [.ref (q 8), .int kind, .int secret] (wTown cI q tb tp tr knd sec brd rms) (wTown cI q tb ((f_X5_addPerson tp knd sec kind secret).1) tr ((f_X5_addPerson tp knd sec kind secret).2.1) ((f_X5_addPerson tp knd sec kind secret).2.2) brd rms) := by
  refine CV.of (cc := cX5_addPerson) (maxL := 3) (by decide) rfl (Nat.le_of_ble_eq_true rfl) ?_
  intro p e s m args below meth c A Q ls hx hb hml hts0 hown hA hP hK hD hE hl hret
  have hts : ∀ w ∈ wsL_law, w.before args s = true := fun w h => hts0 w (List.mem_cons_of_mem _ h)
  clear hts0
  have hown : s.vm.findClass RX5 = some m.cls := hown
  have hl : lv_has ls 3 [(0, .ref (q 8)), (1, .int kind), (2, .int secret)] := hl
  have hS : va_S A s.heap s.heap [] := va_S.rf
  revert hP hS
  suffices hgo : ∀ (H : Heap) (locs : List Loc), va_P D vwCl (wTown cI q tb tp tr knd sec brd rms) H → va_S A s.heap H locs → W p l e rm_X5_addPerson s m args below meth c H locs 0 0 Q (F0 m 0 ls []) from fun a b => hgo _ _ a b
  intro H locs hP hS
  refine lv_aload_n hx hb dX5_addPerson_0 rfl (lv_at hl 0 rfl) ?_
  refine va_get (D := D) (ci := 5) (v := .ref (q 9)) (C := RX5) (T := TX5) (N := 7) hx hb hts inlX5 hown hK hP 0 rfl rfl 3 (by decide) (kw hts kin_3 14 rfl) (fun _ h9 => h9) rfl dX5_addPerson_1 ?_
  refine lv_aload_n hx hb dX5_addPerson_4 rfl (lv_at hl 0 rfl) ?_
  refine va_get (D := D) (ci := 5) (v := .int tp) (C := RX5) (T := TX5) (N := 7) hx hb hts inlX5 hown hK hP 0 rfl rfl 1 (by decide) (kw hts kin_15 3 rfl) (fun _ h9 => h9) rfl dX5_addPerson_5 ?_
  refine lv_iload_n hx hb dX5_addPerson_8 rfl (lv_at hl 1 rfl) ?_
  refine kvv (As := [.int tp, .int kind]) (rest := []) (isC := [1, 2]) (isR := [0, 3, 4, 5, 6, 7, 8]) (isN := [0, 7, 8, 1, 2, 3, 4, 5, 6]) (as := [q 9, q 10]) (wr := ([0, 3, 4, 5, 6, 7, 8] : List Nat).filterMap (fun i => (wTown cI q tb tp tr knd sec brd rms)[i]?)) (q0 := 0) (ci := 0) ⟨hx, hb, hml, hown, hts⟩ hP hK hD hS hA hE (k_X0_put l D cI cZ adK adV (q 9) (q 10) 6 knd tp kind (by decide)) (kcv hts kM_X0_put (kin_15 _ (List.mem_of_getElem? (i := 13) rfl)) ⟨rfl, rfl⟩ ⟨Nat.le_of_ble_eq_true rfl, Nat.le_of_ble_eq_true rfl⟩) kBl_G kOk_G (wTown cI q tb tp tr (f_X0_put 6 knd tp kind) sec brd rms) ⟨rfl, rfl, ⟨rfl, rfl⟩, rfl⟩ (by decide +kernel) rfl rfl rfl rfl hl.1 rfl (Nat.le_of_ble_eq_true rfl) dX5_addPerson_9 (fun H locs hP hD hS => ?_)
  refine lv_aload_n hx hb dX5_addPerson_12 rfl (lv_at hl 0 rfl) ?_
  refine va_get (D := D) (ci := 5) (v := .ref (q 11)) (C := RX5) (T := TX5) (N := 7) hx hb hts inlX5 hown hK hP 0 rfl rfl 4 (by decide) (kw hts kin_3 15 rfl) (fun _ h9 => h9) rfl dX5_addPerson_13 ?_
  refine lv_aload_n hx hb dX5_addPerson_16 rfl (lv_at hl 0 rfl) ?_
  refine va_get (D := D) (ci := 5) (v := .int tp) (C := RX5) (T := TX5) (N := 7) hx hb hts inlX5 hown hK hP 0 rfl rfl 1 (by decide) (kw hts kin_15 3 rfl) (fun _ h9 => h9) rfl dX5_addPerson_17 ?_
  refine lv_iload_n hx hb dX5_addPerson_20 rfl (lv_at hl 2 rfl) ?_
  refine kvv (As := [.int tp, .int secret]) (rest := []) (isC := [3, 4]) (isR := [0, 1, 2, 5, 6, 7, 8]) (isN := [0, 1, 2, 7, 8, 3, 4, 5, 6]) (as := [q 11, q 12]) (wr := ([0, 1, 2, 5, 6, 7, 8] : List Nat).filterMap (fun i => (wTown cI q tb tp tr (f_X0_put 6 knd tp kind) sec brd rms)[i]?)) (q0 := 0) (ci := 0) ⟨hx, hb, hml, hown, hts⟩ hP hK hD hS hA hE (k_X0_put l D cI cZ adK adV (q 11) (q 12) 6 sec tp secret (by decide)) (kcv hts kM_X0_put (kin_15 _ (List.mem_of_getElem? (i := 13) rfl)) ⟨rfl, rfl⟩ ⟨Nat.le_of_ble_eq_true rfl, Nat.le_of_ble_eq_true rfl⟩) kBl_G kOk_G (wTown cI q tb tp tr (f_X0_put 6 knd tp kind) (f_X0_put 6 sec tp secret) brd rms) ⟨rfl, rfl, ⟨rfl, rfl⟩, rfl⟩ (by decide +kernel) rfl rfl rfl rfl hl.1 rfl (Nat.le_of_ble_eq_true rfl) dX5_addPerson_21 (fun H locs hP hD hS => ?_)
  refine lv_aload_n hx hb dX5_addPerson_24 rfl (lv_at hl 0 rfl) ?_
  refine lv_bipush (v := 6) hx hb dX5_addPerson_25 (by decide) ?_
  refine lv_aload_n hx hb dX5_addPerson_27 rfl (lv_at hl 0 rfl) ?_
  refine va_get (D := D) (ci := 5) (v := .int tp) (C := RX5) (T := TX5) (N := 7) hx hb hts inlX5 hown hK hP 0 rfl rfl 1 (by decide) (kw hts kin_15 3 rfl) (fun _ h9 => h9) rfl dX5_addPerson_28 ?_
  refine lv_iconst (v := 1) hx hb dX5_addPerson_31 (by decide) ?_
  refine lv_iadd hx hb dX5_addPerson_32 ?_
  refine va_mmin hx hb (hml.trans hl.1.symm) hown (kw hts kin_15 1 rfl) (kw hts kin_5 18 rfl) (kw hts kin_3 4 rfl) (kw hts kin_5 19 rfl) (Nat.le_of_ble_eq_true rfl) (Nat.le_of_ble_eq_true rfl) (Nat.zero_le _) (Nat.zero_le _) dX5_addPerson_33 ?_
  refine va_put (D := D) (ci := 5) (v := .int (if (tp + 1) < 6 then (tp + 1) else 6)) (ty := .int) (C := RX5) (T := TX5) (N := 7) hx hb hts inlX5 tyX5 tyX5_ok nmX5 hown hK hP hD hS 0 rfl rfl 1 (by decide) (kw hts kin_15 3 rfl) (fun _ h9 => h9) rfl (by decide +kernel) rfl rfl (Nat.le_of_ble_eq_true rfl) dX5_addPerson_36 (fun H locs hP hD hS => ?_)
  have hP : va_P D vwCl (wTown cI q tb (if (tp + 1) < 6 then (tp + 1) else 6) tr (f_X0_put 6 knd tp kind) (f_X0_put 6 sec tp secret) brd rms) H := hP
  have hD : va_D A (wTown cI q tb (if (tp + 1) < 6 then (tp + 1) else 6) tr (f_X0_put 6 knd tp kind) (f_X0_put 6 sec tp secret) brd rms) := hD
  have hf : (f_X5_addPerson tp knd sec kind secret) = ((if (tp + 1) < 6 then (tp + 1) else 6), (f_X0_put 6 knd tp kind), (f_X0_put 6 sec tp secret)) := rfl
  rw [hf] at hret
  exact hret _ _ _ _ hP hS dX5_addPerson_39
def f_X5_addRumour (tr : Int32) (rms : Nat → Int32) (number : Int32) : Int32 × (Nat → Int32) := ((if (tr + 1) < 8 then (tr + 1) else 8), (f_X0_put 8 rms tr number))
abbrev rm_X5_addRumour : Room := { frames := 1, cells := 0, slots := 0, locals := 22 }
set_option maxRecDepth 100000 in
set_option maxHeartbeats 4000000 in
theorem k_X5_addRumour (l : Launch) (D : va_G) (cI cZ : ClassId) (adK adV : Nat → Nat) (q : Nat → Nat) (tb : Int32) (tp : Int32) (tr : Int32) (knd : Nat → Int32) (sec : Nat → Int32) (brd : Nat → Int32) (rms : Nat → Int32) (number : Int32) : CV l D (kTy cI cZ) (kG adK adV) yX5_addRumour (.code yX5_addRumour cX5_addRumour 2 none :: wsL_law) rm_X5_addRumour [.ref (q 8), .int number] (wTown cI q tb tp tr knd sec brd rms) (wTown cI q tb tp ((f_X5_addRumour tr rms number).1) knd sec brd ((f_X5_addRumour tr rms number).2)) := by
  refine CV.of (cc := cX5_addRumour) (maxL := 2) (by decide) rfl (Nat.le_of_ble_eq_true rfl) ?_
  intro p e s m args below meth c A Q ls hx hb hml hts0 hown hA hP hK hD hE hl hret
  have hts : ∀ w ∈ wsL_law, w.before args s = true := fun w h => hts0 w (List.mem_cons_of_mem _ h)
  clear hts0
  have hown : s.vm.findClass RX5 = some m.cls := hown
  have hl : lv_has ls 2 [(0, .ref (q 8)), (1, .int number)] := hl
  have hS : va_S A s.heap s.heap [] := va_S.rf
  revert hP hS
  suffices hgo : ∀ (H : Heap) (locs : List Loc), va_P D vwCl (wTown cI q tb tp tr knd sec brd rms) H → va_S A s.heap H locs → W p l e rm_X5_addRumour s m args below meth c H locs 0 0 Q (F0 m 0 ls []) from fun a b => hgo _ _ a b
  intro H locs hP hS
  refine lv_aload_n hx hb dX5_addRumour_0 rfl (lv_at hl 0 rfl) ?_
  refine va_get (D := D) (ci := 5) (v := .ref (q 15)) (C := RX5) (T := TX5) (N := 7) hx hb hts inlX5 hown hK hP 0 rfl rfl 6 (by decide) (kw hts kin_3 17 rfl) (fun _ h9 => h9) rfl dX5_addRumour_1 ?_
  refine lv_aload_n hx hb dX5_addRumour_4 rfl (lv_at hl 0 rfl) ?_
  refine va_get (D := D) (ci := 5) (v := .int tr) (C := RX5) (T := TX5) (N := 7) hx hb hts inlX5 hown hK hP 0 rfl rfl 2 (by decide) (kw hts kin_15 4 rfl) (fun _ h9 => h9) rfl dX5_addRumour_5 ?_
  refine lv_iload_n hx hb dX5_addRumour_8 rfl (lv_at hl 1 rfl) ?_
  refine kvv (As := [.int tr, .int number]) (rest := []) (isC := [7, 8]) (isR := [0, 1, 2, 3, 4, 5, 6]) (isN := [0, 1, 2, 3, 4, 5, 6, 7, 8]) (as := [q 15, q 16]) (wr := ([0, 1, 2, 3, 4, 5, 6] : List Nat).filterMap (fun i => (wTown cI q tb tp tr knd sec brd rms)[i]?)) (q0 := 0) (ci := 0) ⟨hx, hb, hml, hown, hts⟩ hP hK hD hS hA hE (k_X0_put l D cI cZ adK adV (q 15) (q 16) 8 rms tr number (by decide)) (kcv hts kM_X0_put (kin_15 _ (List.mem_of_getElem? (i := 13) rfl)) ⟨rfl, rfl⟩ ⟨Nat.le_of_ble_eq_true rfl, Nat.le_of_ble_eq_true rfl⟩) kBl_G kOk_G (wTown cI q tb tp tr knd sec brd (f_X0_put 8 rms tr number)) ⟨rfl, rfl, ⟨rfl, rfl⟩, rfl⟩ (by decide +kernel) rfl rfl rfl rfl hl.1 rfl (Nat.le_of_ble_eq_true rfl) dX5_addRumour_9 (fun H locs hP hD hS => ?_)
  refine lv_aload_n hx hb dX5_addRumour_12 rfl (lv_at hl 0 rfl) ?_
  refine lv_bipush (v := 8) hx hb dX5_addRumour_13 (by decide) ?_
  refine lv_aload_n hx hb dX5_addRumour_15 rfl (lv_at hl 0 rfl) ?_
  refine va_get (D := D) (ci := 5) (v := .int tr) (C := RX5) (T := TX5) (N := 7) hx hb hts inlX5 hown hK hP 0 rfl rfl 2 (by decide) (kw hts kin_15 4 rfl) (fun _ h9 => h9) rfl dX5_addRumour_16 ?_
  refine lv_iconst (v := 1) hx hb dX5_addRumour_19 (by decide) ?_
  refine lv_iadd hx hb dX5_addRumour_20 ?_
  refine va_mmin hx hb (hml.trans hl.1.symm) hown (kw hts kin_15 1 rfl) (kw hts kin_5 18 rfl) (kw hts kin_3 4 rfl) (kw hts kin_5 19 rfl) (Nat.le_of_ble_eq_true rfl) (Nat.le_of_ble_eq_true rfl) (Nat.zero_le _) (Nat.zero_le _) dX5_addRumour_21 ?_
  refine va_put (D := D) (ci := 5) (v := .int (if (tr + 1) < 8 then (tr + 1) else 8)) (ty := .int) (C := RX5) (T := TX5) (N := 7) hx hb hts inlX5 tyX5 tyX5_ok nmX5 hown hK hP hD hS 0 rfl rfl 2 (by decide) (kw hts kin_15 4 rfl) (fun _ h9 => h9) rfl (by decide +kernel) rfl rfl (Nat.le_of_ble_eq_true rfl) dX5_addRumour_24 (fun H locs hP hD hS => ?_)
  have hP : va_P D vwCl (wTown cI q tb tp (if (tr + 1) < 8 then (tr + 1) else 8) knd sec brd (f_X0_put 8 rms tr number)) H := hP
  have hD : va_D A (wTown cI q tb tp (if (tr + 1) < 8 then (tr + 1) else 8) knd sec brd (f_X0_put 8 rms tr number)) := hD
  have hf : (f_X5_addRumour tr rms number) = ((if (tr + 1) < 8 then (tr + 1) else 8), (f_X0_put 8 rms tr number)) := rfl
  rw [hf] at hret
  exact hret _ _ _ _ hP hS dX5_addRumour_27
def v_X5_hear_1_0 (tb : Int32) (brd : Nat → Int32) (word : Int32) (first : Int32) : Int32 := if word = 4 then ((f_X5_found brd first).1) else (if word = 5 then tb else (if word = 6 then tb else tb))
def v_X5_hear_1_1 (tp : Int32) (knd : Nat → Int32) (sec : Nat → Int32) (brd : Nat → Int32) (word : Int32) (first : Int32) : Int32 := if word = 4 then ((f_X5_found brd first).2.1) else (if word = 5 then tp else (if word = 6 then tp else ((f_X5_addPerson tp knd sec word first).1)))
def v_X5_hear_1_2 (tr : Int32) (brd : Nat → Int32) (rms : Nat → Int32) (word : Int32) (first : Int32) : Int32 := if word = 4 then ((f_X5_found brd first).2.2.1) else (if word = 5 then ((f_X5_addRumour tr rms first).1) else (if word = 6 then tr else tr))
def v_X5_hear_1_3 (tp : Int32) (knd : Nat → Int32) (sec : Nat → Int32) (word : Int32) (first : Int32) : Nat → Int32 := if word = 4 then knd else (if word = 5 then knd else (if word = 6 then knd else ((f_X5_addPerson tp knd sec word first).2.1)))
def v_X5_hear_1_4 (tp : Int32) (knd : Nat → Int32) (sec : Nat → Int32) (word : Int32) (first : Int32) : Nat → Int32 := if word = 4 then sec else (if word = 5 then sec else (if word = 6 then sec else ((f_X5_addPerson tp knd sec word first).2.2)))
def v_X5_hear_1_5 (brd : Nat → Int32) (word : Int32) (first : Int32) (second : Int32) (third : Int32) : Nat → Int32 := if word = 4 then ((f_X5_found brd first).2.2.2) else (if word = 5 then brd else (if word = 6 then (f_X0_put 36 brd ((first * 6) + second) third) else brd))
def v_X5_hear_1_6 (tr : Int32) (rms : Nat → Int32) (word : Int32) (first : Int32) : Nat → Int32 := if word = 4 then rms else (if word = 5 then ((f_X5_addRumour tr rms first).2) else (if word = 6 then rms else rms))
def f_X5_hear (tb : Int32) (tp : Int32) (tr : Int32) (knd : Nat → Int32) (sec : Nat → Int32) (brd : Nat → Int32) (rms : Nat → Int32) (word : Int32) (first : Int32) (second : Int32) (third : Int32) : Int32 × Int32 × Int32 × (Nat → Int32) × (Nat → Int32) × (Nat → Int32) × (Nat → Int32) := ((v_X5_hear_1_0 tb brd word first), (v_X5_hear_1_1 tp knd sec brd word first), (v_X5_hear_1_2 tr brd rms word first), (v_X5_hear_1_3 tp knd sec word first), (v_X5_hear_1_4 tp knd sec word first), (v_X5_hear_1_5 brd word first second third), (v_X5_hear_1_6 tr rms word first))
abbrev rm_X5_hear : Room := { frames := 2, cells := 0, slots := 0, locals := 44 }
set_option maxRecDepth 100000 in
set_option maxHeartbeats 4000000 in
theorem k_X5_hear (l : Launch) (D : va_G) (cI cZ : ClassId) (adK adV : Nat → Nat) (q : Nat → Nat) (tb : Int32) (tp : Int32) (tr : Int32) (knd : Nat → Int32) (sec : Nat → Int32) (brd : Nat → Int32) (rms : Nat → Int32) (word : Int32) (first : Int32) (second : Int32) (third : Int32) : CV l D (kTy cI cZ) (kG adK adV) yX5_hear (.code yX5_hear cX5_hear 5 none :: wsL_law) rm_X5_hear [.ref (q 8), .int word, .int first, .int second, .int third] (wTown cI q tb tp tr knd sec brd rms) (wTown cI q ((f_X5_hear tb tp tr knd sec brd rms word first second third).1) ((f_X5_hear tb tp tr knd sec brd rms word first second third).2.1) ((f_X5_hear tb tp tr knd sec brd rms word first second third).2.2.1) ((f_X5_hear tb tp tr knd sec brd rms word first second third).2.2.2.1) ((f_X5_hear tb tp tr knd sec brd rms word first second third).2.2.2.2.1) ((f_X5_hear tb tp tr knd sec brd rms word first second third).2.2.2.2.2.1) ((f_X5_hear tb tp tr knd sec brd rms word first second third).2.2.2.2.2.2)) := by
  refine CV.of (cc := cX5_hear) (maxL := 5) (by decide) rfl (Nat.le_of_ble_eq_true rfl) ?_
  intro p e s m args below meth c A Q ls hx hb hml hts0 hown hA hP hK hD hE hl hret
  have hts : ∀ w ∈ wsL_law, w.before args s = true := fun w h => hts0 w (List.mem_cons_of_mem _ h)
  clear hts0
  have hown : s.vm.findClass RX5 = some m.cls := hown
  have hl : lv_has ls 5 [(0, .ref (q 8)), (1, .int word), (2, .int first), (3, .int second), (4, .int third)] := hl
  have hS : va_S A s.heap s.heap [] := va_S.rf
  revert hP hS
  suffices hgo : ∀ (H : Heap) (locs : List Loc), va_P D vwCl (wTown cI q tb tp tr knd sec brd rms) H → va_S A s.heap H locs → W p l e rm_X5_hear s m args below meth c H locs 0 0 Q (F0 m 0 ls []) from fun a b => hgo _ _ a b
  intro H locs hP hS
  refine lv_iload_n hx hb dX5_hear_0 rfl (lv_at hl 1 rfl) ?_
  have J1 : ∀ (H : Heap) (locs : List Loc) (ls : Array Slot), va_P D vwCl (wTown cI q (v_X5_hear_1_0 tb brd word first) (v_X5_hear_1_1 tp knd sec brd word first) (v_X5_hear_1_2 tr brd rms word first) (v_X5_hear_1_3 tp knd sec word first) (v_X5_hear_1_4 tp knd sec word first) (v_X5_hear_1_5 brd word first second third) (v_X5_hear_1_6 tr rms word first)) H → va_D A (wTown cI q (v_X5_hear_1_0 tb brd word first) (v_X5_hear_1_1 tp knd sec brd word first) (v_X5_hear_1_2 tr brd rms word first) (v_X5_hear_1_3 tp knd sec word first) (v_X5_hear_1_4 tp knd sec word first) (v_X5_hear_1_5 brd word first second third) (v_X5_hear_1_6 tr rms word first)) → va_S A s.heap H locs → lv_has ls 5 [(0, .ref (q 8)), (1, .int word), (2, .int first), (3, .int second), (4, .int third)] → W p l e rm_X5_hear s m args below meth c H locs 0 0 Q (F0 m 68 ls []) := by
    intro H locs ls hP hD hS hl
    have hf : (f_X5_hear tb tp tr knd sec brd rms word first second third) = ((v_X5_hear_1_0 tb brd word first), (v_X5_hear_1_1 tp knd sec brd word first), (v_X5_hear_1_2 tr brd rms word first), (v_X5_hear_1_3 tp knd sec word first), (v_X5_hear_1_4 tp knd sec word first), (v_X5_hear_1_5 brd word first second third), (v_X5_hear_1_6 tr rms word first)) := rfl
    rw [hf] at hret
    exact hret _ _ _ _ hP hS dX5_hear_68
  by_cases c_1_0 : word = 4
  · skip
    refine lv_tableIn (off := 27) (tgt := 28) hx hb dX5_hear_1 (by rw [c_1_0]; decide) (by rw [c_1_0]; decide) (by rw [c_1_0]; rfl) (by decide) ?_
    refine lv_aload_n hx hb dX5_hear_28 rfl (lv_at hl 0 rfl) ?_
    refine lv_iload_n hx hb dX5_hear_29 rfl (lv_at hl 2 rfl) ?_
    refine kvv (As := [.int first]) (rest := []) (isC := [0, 1, 2, 3, 4, 5, 6, 7, 8]) (isR := []) (isN := [0, 1, 2, 3, 4, 5, 6, 7, 8]) (as := [q 8, q 9, q 10, q 11, q 12, q 13, q 14, q 15, q 16]) (wr := ([] : List Nat).filterMap (fun i => (wTown cI q tb tp tr knd sec brd rms)[i]?)) (q0 := 0) (ci := 5) ⟨hx, hb, hml, hown, hts⟩ hP hK hD hS hA hE (k_X5_found l D cI cZ adK adV q tb tp tr knd sec brd rms first) (kcv hts kM_X5_found (kin_14 _ (List.mem_of_getElem? (i := 21) rfl)) ⟨rfl, rfl⟩ ⟨Nat.le_of_ble_eq_true rfl, Nat.le_of_ble_eq_true rfl⟩) kBl_G kOk_G (wTown cI q ((f_X5_found brd first).1) ((f_X5_found brd first).2.1) ((f_X5_found brd first).2.2.1) knd sec ((f_X5_found brd first).2.2.2) rms) ⟨rfl, rfl, ⟨rfl, rfl⟩, rfl⟩ (by decide +kernel) rfl rfl rfl rfl hl.1 rfl (Nat.le_of_ble_eq_true rfl) dX5_hear_30 (fun H locs hP hD hS => ?_)
    refine lv_goto (tgt := 68) hx hb dX5_hear_33 (by decide) ?_
    rw [show (v_X5_hear_1_0 tb brd word first) = (f_X5_found brd first).1 from (if_pos c_1_0)] at J1
    rw [show (v_X5_hear_1_1 tp knd sec brd word first) = (f_X5_found brd first).2.1 from (if_pos c_1_0)] at J1
    rw [show (v_X5_hear_1_2 tr brd rms word first) = (f_X5_found brd first).2.2.1 from (if_pos c_1_0)] at J1
    rw [show (v_X5_hear_1_3 tp knd sec word first) = knd from (if_pos c_1_0)] at J1
    rw [show (v_X5_hear_1_4 tp knd sec word first) = sec from (if_pos c_1_0)] at J1
    rw [show (v_X5_hear_1_5 brd word first second third) = (f_X5_found brd first).2.2.2 from (if_pos c_1_0)] at J1
    rw [show (v_X5_hear_1_6 tr rms word first) = rms from (if_pos c_1_0)] at J1
    exact J1 _ _ _ hP hD hS (lv_sub hl [0, 1, 2, 3, 4] rfl)
  · skip
    by_cases c_1_1 : word = 5
    · skip
      refine lv_tableIn (off := 35) (tgt := 36) hx hb dX5_hear_1 (by rw [c_1_1]; decide) (by rw [c_1_1]; decide) (by rw [c_1_1]; rfl) (by decide) ?_
      refine lv_aload_n hx hb dX5_hear_36 rfl (lv_at hl 0 rfl) ?_
      refine lv_iload_n hx hb dX5_hear_37 rfl (lv_at hl 2 rfl) ?_
      refine kvv (As := [.int first]) (rest := []) (isC := [0, 1, 2, 3, 4, 5, 6, 7, 8]) (isR := []) (isN := [0, 1, 2, 3, 4, 5, 6, 7, 8]) (as := [q 8, q 9, q 10, q 11, q 12, q 13, q 14, q 15, q 16]) (wr := ([] : List Nat).filterMap (fun i => (wTown cI q tb tp tr knd sec brd rms)[i]?)) (q0 := 0) (ci := 5) ⟨hx, hb, hml, hown, hts⟩ hP hK hD hS hA hE (k_X5_addRumour l D cI cZ adK adV q tb tp tr knd sec brd rms first) (kcv hts kM_X5_addRumour (kin_15 _ (List.mem_of_getElem? (i := 9) rfl)) ⟨rfl, rfl⟩ ⟨Nat.le_of_ble_eq_true rfl, Nat.le_of_ble_eq_true rfl⟩) kBl_G kOk_G (wTown cI q tb tp ((f_X5_addRumour tr rms first).1) knd sec brd ((f_X5_addRumour tr rms first).2)) ⟨rfl, rfl, ⟨rfl, rfl⟩, rfl⟩ (by decide +kernel) rfl rfl rfl rfl hl.1 rfl (Nat.le_of_ble_eq_true rfl) dX5_hear_38 (fun H locs hP hD hS => ?_)
      refine lv_goto (tgt := 68) hx hb dX5_hear_41 (by decide) ?_
      rw [show (v_X5_hear_1_0 tb brd word first) = tb from ((if_neg c_1_0).trans (if_pos c_1_1))] at J1
      rw [show (v_X5_hear_1_1 tp knd sec brd word first) = tp from ((if_neg c_1_0).trans (if_pos c_1_1))] at J1
      rw [show (v_X5_hear_1_2 tr brd rms word first) = (f_X5_addRumour tr rms first).1 from ((if_neg c_1_0).trans (if_pos c_1_1))] at J1
      rw [show (v_X5_hear_1_3 tp knd sec word first) = knd from ((if_neg c_1_0).trans (if_pos c_1_1))] at J1
      rw [show (v_X5_hear_1_4 tp knd sec word first) = sec from ((if_neg c_1_0).trans (if_pos c_1_1))] at J1
      rw [show (v_X5_hear_1_5 brd word first second third) = brd from ((if_neg c_1_0).trans (if_pos c_1_1))] at J1
      rw [show (v_X5_hear_1_6 tr rms word first) = (f_X5_addRumour tr rms first).2 from ((if_neg c_1_0).trans (if_pos c_1_1))] at J1
      exact J1 _ _ _ hP hD hS (lv_sub hl [0, 1, 2, 3, 4] rfl)
    · skip
      by_cases c_1_2 : word = 6
      · skip
        refine lv_tableIn (off := 43) (tgt := 44) hx hb dX5_hear_1 (by rw [c_1_2]; decide) (by rw [c_1_2]; decide) (by rw [c_1_2]; rfl) (by decide) ?_
        refine lv_aload_n hx hb dX5_hear_44 rfl (lv_at hl 0 rfl) ?_
        refine va_get (D := D) (ci := 5) (v := .ref (q 13)) (C := RX5) (T := TX5) (N := 7) hx hb hts inlX5 hown hK hP 0 rfl rfl 5 (by decide) (kw hts kin_3 16 rfl) (fun _ h9 => h9) rfl dX5_hear_45 ?_
        refine lv_iload_n hx hb dX5_hear_48 rfl (lv_at hl 2 rfl) ?_
        refine lv_bipush (v := 6) hx hb dX5_hear_49 (by decide) ?_
        refine lv_imul hx hb dX5_hear_51 ?_
        refine lv_iload_n hx hb dX5_hear_52 rfl (lv_at hl 3 rfl) ?_
        refine lv_iadd hx hb dX5_hear_53 ?_
        refine lv_iload hx hb dX5_hear_54 (lv_at hl 4 rfl) ?_
        refine kvv (As := [.int ((first * 6) + second), .int third]) (rest := []) (isC := [5, 6]) (isR := [0, 1, 2, 3, 4, 7, 8]) (isN := [0, 1, 2, 3, 4, 7, 8, 5, 6]) (as := [q 13, q 14]) (wr := ([0, 1, 2, 3, 4, 7, 8] : List Nat).filterMap (fun i => (wTown cI q tb tp tr knd sec brd rms)[i]?)) (q0 := 0) (ci := 0) ⟨hx, hb, hml, hown, hts⟩ hP hK hD hS hA hE (k_X0_put l D cI cZ adK adV (q 13) (q 14) 36 brd ((first * 6) + second) third (by decide)) (kcv hts kM_X0_put (kin_15 _ (List.mem_of_getElem? (i := 13) rfl)) ⟨rfl, rfl⟩ ⟨Nat.le_of_ble_eq_true rfl, Nat.le_of_ble_eq_true rfl⟩) kBl_G kOk_G (wTown cI q tb tp tr knd sec (f_X0_put 36 brd ((first * 6) + second) third) rms) ⟨rfl, rfl, ⟨rfl, rfl⟩, rfl⟩ (by decide +kernel) rfl rfl rfl rfl hl.1 rfl (Nat.le_of_ble_eq_true rfl) dX5_hear_56 (fun H locs hP hD hS => ?_)
        refine lv_goto (tgt := 68) hx hb dX5_hear_59 (by decide) ?_
        rw [show (v_X5_hear_1_0 tb brd word first) = tb from ((if_neg c_1_0).trans ((if_neg c_1_1).trans (if_pos c_1_2)))] at J1
        rw [show (v_X5_hear_1_1 tp knd sec brd word first) = tp from ((if_neg c_1_0).trans ((if_neg c_1_1).trans (if_pos c_1_2)))] at J1
        rw [show (v_X5_hear_1_2 tr brd rms word first) = tr from ((if_neg c_1_0).trans ((if_neg c_1_1).trans (if_pos c_1_2)))] at J1
        rw [show (v_X5_hear_1_3 tp knd sec word first) = knd from ((if_neg c_1_0).trans ((if_neg c_1_1).trans (if_pos c_1_2)))] at J1
        rw [show (v_X5_hear_1_4 tp knd sec word first) = sec from ((if_neg c_1_0).trans ((if_neg c_1_1).trans (if_pos c_1_2)))] at J1
        rw [show (v_X5_hear_1_5 brd word first second third) = (f_X0_put 36 brd ((first * 6) + second) third) from ((if_neg c_1_0).trans ((if_neg c_1_1).trans (if_pos c_1_2)))] at J1
        rw [show (v_X5_hear_1_6 tr rms word first) = rms from ((if_neg c_1_0).trans ((if_neg c_1_1).trans (if_pos c_1_2)))] at J1
        exact J1 _ _ _ hP hD hS (lv_sub hl [0, 1, 2, 3, 4] rfl)
      · skip
        have htab : word.toInt < 4 ∨ 6 < word.toInt := by
          have a0 : word.toInt ≠ 4 := kneI c_1_0
          have a1 : word.toInt ≠ 5 := kneI c_1_1
          have a2 : word.toInt ≠ 6 := kneI c_1_2
          omega
        refine lv_tableOut (tgt := 62) hx hb dX5_hear_1 htab (by decide) ?_
        refine lv_aload_n hx hb dX5_hear_62 rfl (lv_at hl 0 rfl) ?_
        refine lv_iload_n hx hb dX5_hear_63 rfl (lv_at hl 1 rfl) ?_
        refine lv_iload_n hx hb dX5_hear_64 rfl (lv_at hl 2 rfl) ?_
        refine kvv (As := [.int word, .int first]) (rest := []) (isC := [0, 1, 2, 3, 4, 5, 6, 7, 8]) (isR := []) (isN := [0, 1, 2, 3, 4, 5, 6, 7, 8]) (as := [q 8, q 9, q 10, q 11, q 12, q 13, q 14, q 15, q 16]) (wr := ([] : List Nat).filterMap (fun i => (wTown cI q tb tp tr knd sec brd rms)[i]?)) (q0 := 0) (ci := 5) ⟨hx, hb, hml, hown, hts⟩ hP hK hD hS hA hE (k_X5_addPerson l D cI cZ adK adV q tb tp tr knd sec brd rms word first) (kcv hts kM_X5_addPerson (kin_15 _ (List.mem_of_getElem? (i := 14) rfl)) ⟨rfl, rfl⟩ ⟨Nat.le_of_ble_eq_true rfl, Nat.le_of_ble_eq_true rfl⟩) kBl_G kOk_G (wTown cI q tb ((f_X5_addPerson tp knd sec word first).1) tr ((f_X5_addPerson tp knd sec word first).2.1) ((f_X5_addPerson tp knd sec word first).2.2) brd rms) ⟨rfl, rfl, ⟨rfl, rfl⟩, rfl⟩ (by decide +kernel) rfl rfl rfl rfl hl.1 rfl (Nat.le_of_ble_eq_true rfl) dX5_hear_65 (fun H locs hP hD hS => ?_)
        rw [show (v_X5_hear_1_0 tb brd word first) = tb from ((if_neg c_1_0).trans ((if_neg c_1_1).trans (if_neg c_1_2)))] at J1
        rw [show (v_X5_hear_1_1 tp knd sec brd word first) = (f_X5_addPerson tp knd sec word first).1 from ((if_neg c_1_0).trans ((if_neg c_1_1).trans (if_neg c_1_2)))] at J1
        rw [show (v_X5_hear_1_2 tr brd rms word first) = tr from ((if_neg c_1_0).trans ((if_neg c_1_1).trans (if_neg c_1_2)))] at J1
        rw [show (v_X5_hear_1_3 tp knd sec word first) = (f_X5_addPerson tp knd sec word first).2.1 from ((if_neg c_1_0).trans ((if_neg c_1_1).trans (if_neg c_1_2)))] at J1
        rw [show (v_X5_hear_1_4 tp knd sec word first) = (f_X5_addPerson tp knd sec word first).2.2 from ((if_neg c_1_0).trans ((if_neg c_1_1).trans (if_neg c_1_2)))] at J1
        rw [show (v_X5_hear_1_5 brd word first second third) = brd from ((if_neg c_1_0).trans ((if_neg c_1_1).trans (if_neg c_1_2)))] at J1
        rw [show (v_X5_hear_1_6 tr rms word first) = rms from ((if_neg c_1_0).trans ((if_neg c_1_1).trans (if_neg c_1_2)))] at J1
        exact J1 _ _ _ hP hD hS (lv_sub hl [0, 1, 2, 3, 4] rfl)
end
section
def f_X4_date (std : Nat → Int32) : Int32 := (f_X0_at 85 std 0)
abbrev rm_X4_date : Room := { frames := 1, cells := 0, slots := 0, locals := 21 }
set_option maxRecDepth 100000 in
set_option maxHeartbeats 4000000 in
theorem k_X4_date (l : Launch) (D : va_G) (cI cZ : ClassId) (adK adV : Nat → Nat) (q : Nat → Nat) (std : Nat → Int32) : CI l D (kTy cI cZ) (kG adK adV) yX4_date (.code yX4_date cX4_date 1 (some .int) :: wsL_law) rm_X4_date [.ref (q 17)] (wStd cI q std) (wStd cI q std) (f_X4_date std) := by
  refine CI.of (cc := cX4_date) (maxL := 1) (ty := .int) (by decide) rfl (Nat.le_of_ble_eq_true rfl) rfl ?_
  intro p e s m args below meth c A Q ls hx hb hml hts0 hown hA hP hK hD hE hl hret
  have hts : ∀ w ∈ wsL_law, w.before args s = true := fun w h => hts0 w (List.mem_cons_of_mem _ h)
  clear hts0
  have hown : s.vm.findClass RX4 = some m.cls := hown
  have hl : lv_has ls 1 [(0, .ref (q 17))] := hl
  have hS : va_S A s.heap s.heap [] := va_S.rf
  revert hP hS
  suffices hgo : ∀ (H : Heap) (locs : List Loc), va_P D vwCl (wStd cI q std) H → va_S A s.heap H locs → W p l e rm_X4_date s m args below meth c H locs 0 0 Q (F0 m 0 ls []) from fun a b => hgo _ _ a b
  intro H locs hP hS
  refine lv_aload_n hx hb dX4_date_0 rfl (lv_at hl 0 rfl) ?_
  refine va_get (D := D) (ci := 4) (v := .ref (q 18)) (C := RX4) (T := TX4) (N := 1) hx hb hts inlX4 hown hK hP 0 rfl rfl 0 (by decide) (kw hts kin_4 0 rfl) (fun _ h9 => h9) rfl dX4_date_1 ?_
  refine lv_iconst (v := 0) hx hb dX4_date_4 (by decide) ?_
  refine kvi (As := [.int 0]) (rest := []) (isC := [1, 2]) (isR := [0]) (isN := [0, 1, 2]) (as := [q 18, q 19]) (wr := ([0] : List Nat).filterMap (fun i => (wStd cI q std)[i]?)) (q0 := 0) (ci := 0) ⟨hx, hb, hml, hown, hts⟩ hP hK hD hS hA hE (k_X0_at l D cI cZ adK adV (q 18) (q 19) 85 std 0 (by decide)) (kcv hts kM_X0_at (kin_17 _ (List.mem_of_getElem? (i := 21) rfl)) ⟨rfl, rfl⟩ ⟨Nat.le_of_ble_eq_true rfl, Nat.le_of_ble_eq_true rfl⟩) kBl_G kOk_G (wStd cI q std) ⟨rfl, rfl, ⟨rfl, rfl⟩, rfl⟩ (by decide +kernel) rfl rfl rfl rfl hl.1 rfl (Nat.le_of_ble_eq_true rfl) dX4_date_5 (fun H locs hP hD hS => ?_)
  have hf : (f_X4_date std) = (f_X0_at 85 std 0) := rfl
  rw [hf] at hret
  exact hret _ _ _ _ hP hS dX4_date_8
def f_X4_beardOn (std : Nat → Int32) (person : Int32) (strip : Int32) : Int32 := (f_X0_at 85 std ((1 + (person * 6)) + strip))
abbrev rm_X4_beardOn : Room := { frames := 1, cells := 0, slots := 0, locals := 21 }
set_option maxRecDepth 100000 in
set_option maxHeartbeats 4000000 in
theorem k_X4_beardOn (l : Launch) (D : va_G) (cI cZ : ClassId) (adK adV : Nat → Nat) (q : Nat → Nat) (std : Nat → Int32) (person : Int32) (strip : Int32) : CI l D (kTy cI cZ) (kG adK adV) yX4_beardOn (.code yX4_beardOn cX4_beardOn 3 (some .int) :: wsL_law) rm_X4_beardOn [.ref (q 17), .int person, .int strip] (wStd cI q std) (wStd cI q std) (f_X4_beardOn std person strip) := by
  refine CI.of (cc := cX4_beardOn) (maxL := 3) (ty := .int) (by decide) rfl (Nat.le_of_ble_eq_true rfl) rfl ?_
  intro p e s m args below meth c A Q ls hx hb hml hts0 hown hA hP hK hD hE hl hret
  have hts : ∀ w ∈ wsL_law, w.before args s = true := fun w h => hts0 w (List.mem_cons_of_mem _ h)
  clear hts0
  have hown : s.vm.findClass RX4 = some m.cls := hown
  have hl : lv_has ls 3 [(0, .ref (q 17)), (1, .int person), (2, .int strip)] := hl
  have hS : va_S A s.heap s.heap [] := va_S.rf
  revert hP hS
  suffices hgo : ∀ (H : Heap) (locs : List Loc), va_P D vwCl (wStd cI q std) H → va_S A s.heap H locs → W p l e rm_X4_beardOn s m args below meth c H locs 0 0 Q (F0 m 0 ls []) from fun a b => hgo _ _ a b
  intro H locs hP hS
  refine lv_aload_n hx hb dX4_beardOn_0 rfl (lv_at hl 0 rfl) ?_
  refine va_get (D := D) (ci := 4) (v := .ref (q 18)) (C := RX4) (T := TX4) (N := 1) hx hb hts inlX4 hown hK hP 0 rfl rfl 0 (by decide) (kw hts kin_4 0 rfl) (fun _ h9 => h9) rfl dX4_beardOn_1 ?_
  refine lv_iconst (v := 1) hx hb dX4_beardOn_4 (by decide) ?_
  refine lv_iload_n hx hb dX4_beardOn_5 rfl (lv_at hl 1 rfl) ?_
  refine lv_bipush (v := 6) hx hb dX4_beardOn_6 (by decide) ?_
  refine lv_imul hx hb dX4_beardOn_8 ?_
  refine lv_iadd hx hb dX4_beardOn_9 ?_
  refine lv_iload_n hx hb dX4_beardOn_10 rfl (lv_at hl 2 rfl) ?_
  refine lv_iadd hx hb dX4_beardOn_11 ?_
  refine kvi (As := [.int ((1 + (person * 6)) + strip)]) (rest := []) (isC := [1, 2]) (isR := [0]) (isN := [0, 1, 2]) (as := [q 18, q 19]) (wr := ([0] : List Nat).filterMap (fun i => (wStd cI q std)[i]?)) (q0 := 0) (ci := 0) ⟨hx, hb, hml, hown, hts⟩ hP hK hD hS hA hE (k_X0_at l D cI cZ adK adV (q 18) (q 19) 85 std ((1 + (person * 6)) + strip) (by decide)) (kcv hts kM_X0_at (kin_17 _ (List.mem_of_getElem? (i := 21) rfl)) ⟨rfl, rfl⟩ ⟨Nat.le_of_ble_eq_true rfl, Nat.le_of_ble_eq_true rfl⟩) kBl_G kOk_G (wStd cI q std) ⟨rfl, rfl, ⟨rfl, rfl⟩, rfl⟩ (by decide +kernel) rfl rfl rfl rfl hl.1 rfl (Nat.le_of_ble_eq_true rfl) dX4_beardOn_12 (fun H locs hP hD hS => ?_)
  have hf : (f_X4_beardOn std person strip) = (f_X0_at 85 std ((1 + (person * 6)) + strip)) := rfl
  rw [hf] at hret
  exact hret _ _ _ _ hP hS dX4_beardOn_15
def f_X4_setBeard (std : Nat → Int32) (person : Int32) (strip : Int32) (beard : Int32) : (Nat → Int32) := (f_X0_put 85 std ((1 + (person * 6)) + strip) beard)
abbrev rm_X4_setBeard : Room := { frames := 1, cells := 0, slots := 0, locals := 22 }
set_option maxRecDepth 100000 in
set_option maxHeartbeats 4000000 in
theorem k_X4_setBeard (l : Launch) (D : va_G) (cI cZ : ClassId) (adK adV : Nat → Nat) (q : Nat → Nat) (std : Nat → Int32) (person : Int32) (strip : Int32) (beard : Int32) : CV l D (kTy cI cZ) (kG adK adV) yX4_setBeard (.code yX4_setBeard cX4_setBeard 4 none :: wsL_law) rm_X4_setBeard [.ref (q 17), .int person, .int strip, .int beard] (wStd cI q std) (wStd cI q (f_X4_setBeard std person strip beard)) := by
  refine CV.of (cc := cX4_setBeard) (maxL := 4) (by decide) rfl (Nat.le_of_ble_eq_true rfl) ?_
  intro p e s m args below meth c A Q ls hx hb hml hts0 hown hA hP hK hD hE hl hret
  have hts : ∀ w ∈ wsL_law, w.before args s = true := fun w h => hts0 w (List.mem_cons_of_mem _ h)
  clear hts0
  have hown : s.vm.findClass RX4 = some m.cls := hown
  have hl : lv_has ls 4 [(0, .ref (q 17)), (1, .int person), (2, .int strip), (3, .int beard)] := hl
  have hS : va_S A s.heap s.heap [] := va_S.rf
  revert hP hS
  suffices hgo : ∀ (H : Heap) (locs : List Loc), va_P D vwCl (wStd cI q std) H → va_S A s.heap H locs → W p l e rm_X4_setBeard s m args below meth c H locs 0 0 Q (F0 m 0 ls []) from fun a b => hgo _ _ a b
  intro H locs hP hS
  refine lv_aload_n hx hb dX4_setBeard_0 rfl (lv_at hl 0 rfl) ?_
  refine va_get (D := D) (ci := 4) (v := .ref (q 18)) (C := RX4) (T := TX4) (N := 1) hx hb hts inlX4 hown hK hP 0 rfl rfl 0 (by decide) (kw hts kin_4 0 rfl) (fun _ h9 => h9) rfl dX4_setBeard_1 ?_
  refine lv_iconst (v := 1) hx hb dX4_setBeard_4 (by decide) ?_
  refine lv_iload_n hx hb dX4_setBeard_5 rfl (lv_at hl 1 rfl) ?_
  refine lv_bipush (v := 6) hx hb dX4_setBeard_6 (by decide) ?_
  refine lv_imul hx hb dX4_setBeard_8 ?_
  refine lv_iadd hx hb dX4_setBeard_9 ?_
  refine lv_iload_n hx hb dX4_setBeard_10 rfl (lv_at hl 2 rfl) ?_
  refine lv_iadd hx hb dX4_setBeard_11 ?_
  refine lv_iload_n hx hb dX4_setBeard_12 rfl (lv_at hl 3 rfl) ?_
  refine kvv (As := [.int ((1 + (person * 6)) + strip), .int beard]) (rest := []) (isC := [1, 2]) (isR := [0]) (isN := [0, 1, 2]) (as := [q 18, q 19]) (wr := ([0] : List Nat).filterMap (fun i => (wStd cI q std)[i]?)) (q0 := 0) (ci := 0) ⟨hx, hb, hml, hown, hts⟩ hP hK hD hS hA hE (k_X0_put l D cI cZ adK adV (q 18) (q 19) 85 std ((1 + (person * 6)) + strip) beard (by decide)) (kcv hts kM_X0_put (kin_16 _ (List.mem_of_getElem? (i := 9) rfl)) ⟨rfl, rfl⟩ ⟨Nat.le_of_ble_eq_true rfl, Nat.le_of_ble_eq_true rfl⟩) kBl_G kOk_G (wStd cI q (f_X0_put 85 std ((1 + (person * 6)) + strip) beard)) ⟨rfl, rfl, ⟨rfl, rfl⟩, rfl⟩ (by decide +kernel) rfl rfl rfl rfl hl.1 rfl (Nat.le_of_ble_eq_true rfl) dX4_setBeard_13 (fun H locs hP hD hS => ?_)
  have hf : (f_X4_setBeard std person strip beard) = (f_X0_put 85 std ((1 + (person * 6)) + strip) beard) := rfl
  rw [hf] at hret
  exact hret _ _ _ _ hP hS dX4_setBeard_16
def nx_X4_beardsOf_4 (std : Nat → Int32) (person : Int32) (i : Nat) (x4_2 : Int32) : Int32 := (x4_2 + (f_X4_beardOn std person (nI i)))
def x_X4_beardsOf_4 (std : Nat → Int32) (person : Int32) : Int32 := lp (fun iz z => nx_X4_beardsOf_4 std person iz z) 0 6
def f_X4_beardsOf (std : Nat → Int32) (person : Int32) : Int32 := (x_X4_beardsOf_4 std person)
abbrev rm_X4_beardsOf : Room := { frames := 2, cells := 0, slots := 0, locals := 43 }
set_option maxRecDepth 100000 in
set_option maxHeartbeats 4000000 in
theorem k_X4_beardsOf (l : Launch) (D : va_G) (cI cZ : ClassId) (adK adV : Nat → Nat) (q : Nat → Nat) (std : Nat → Int32) (person : Int32) : CI l D (kTy cI cZ) (kG adK adV) yX4_beardsOf (.code yX4_beardsOf cX4_beardsOf 4 (some .int) :: wsL_law) rm_X4_beardsOf [.ref (q 17), .int person] (wStd cI q std) (wStd cI q std) (f_X4_beardsOf std person) := by
  refine CI.of (cc := cX4_beardsOf) (maxL := 4) (ty := .int) (by decide) rfl (Nat.le_of_ble_eq_true rfl) rfl ?_
  intro p e s m args below meth c A Q ls hx hb hml hts0 hown hA hP hK hD hE hl hret
  have hts : ∀ w ∈ wsL_law, w.before args s = true := fun w h => hts0 w (List.mem_cons_of_mem _ h)
  clear hts0
  have hown : s.vm.findClass RX4 = some m.cls := hown
  have hl : lv_has ls 4 [(0, .ref (q 17)), (1, .int person)] := hl
  have hS : va_S A s.heap s.heap [] := va_S.rf
  revert hP hS
  suffices hgo : ∀ (H : Heap) (locs : List Loc), va_P D vwCl (wStd cI q std) H → va_S A s.heap H locs → W p l e rm_X4_beardsOf s m args below meth c H locs 0 0 Q (F0 m 0 ls []) from fun a b => hgo _ _ a b
  intro H locs hP hS
  refine lv_iconst (v := 0) hx hb dX4_beardsOf_0 (by decide) ?_
  refine lv_istore_n (lv' := [(2, .int 0), (0, .ref (q 17)), (1, .int person)]) hx hb dX4_beardsOf_1 rfl hl (by decide) rfl (fun ls hl => ?_)
  refine lv_iconst (v := 0) hx hb dX4_beardsOf_2 (by decide) ?_
  refine lv_istore_n (lv' := [(3, .int 0), (2, .int 0), (0, .ref (q 17)), (1, .int person)]) hx hb dX4_beardsOf_3 rfl hl (by decide) rfl (fun ls hl => ?_)
  have lp4 : ∀ (k4 i : Nat) (x4_2 : Int32), i + k4 = 6 → x4_2 = lp (fun iz z => nx_X4_beardsOf_4 std person iz z) 0 i → ∀ (H : Heap) (locs : List Loc) (ls : Array Slot), va_P D vwCl (wStd cI q std) H → va_D A (wStd cI q std) → va_S A s.heap H locs → lv_has ls 4 [(0, .ref (q 17)), (1, .int person), (2, .int x4_2), (3, .int (nI i))] → W p l e rm_X4_beardsOf s m args below meth c H locs 0 0 Q (F0 m 4 ls []) := by
    intro k4
    induction k4 with
    | zero =>
      intro i x4_2 hi4 ea4 H locs ls hP hD hS hl
      have hi4 : 6 = i := by omega
      subst hi4
      have ea4 : x4_2 = (x_X4_beardsOf_4 std person) := ea4
      subst ea4
      refine lv_iload_n hx hb dX4_beardsOf_4 rfl (lv_at hl 3 rfl) ?_
      refine lv_bipush (v := 6) hx hb dX4_beardsOf_5 (by decide) ?_
      refine lv_icmp_ge (tgt := 25) hx hb dX4_beardsOf_7 (by decide) (fun _ => ?_) (fun c_7 => absurd (nI_le (Nat.le_refl _) (by decide)) c_7)
      refine lv_iload_n hx hb dX4_beardsOf_25 rfl (lv_at hl 2 rfl) ?_
      have hf : (f_X4_beardsOf std person) = (x_X4_beardsOf_4 std person) := rfl
      rw [hf] at hret
      exact hret _ _ _ _ hP hS dX4_beardsOf_26
    | succ k4 ih4 =>
      intro i x4_2 hi4 ea4 H locs ls hP hD hS hl
      have hlt4 : i < 6 := by omega
      refine lv_iload_n hx hb dX4_beardsOf_4 rfl (lv_at hl 3 rfl) ?_
      refine lv_bipush (v := 6) hx hb dX4_beardsOf_5 (by decide) ?_
      refine lv_icmp_ge (tgt := 25) hx hb dX4_beardsOf_7 (by decide) (fun c_7 => absurd c_7 (nI_ge hlt4 (by decide))) (fun _ => ?_)
      refine lv_iload_n hx hb dX4_beardsOf_10 rfl (lv_at hl 2 rfl) ?_
      refine lv_aload_n hx hb dX4_beardsOf_11 rfl (lv_at hl 0 rfl) ?_
      refine lv_iload_n hx hb dX4_beardsOf_12 rfl (lv_at hl 1 rfl) ?_
      refine lv_iload_n hx hb dX4_beardsOf_13 rfl (lv_at hl 3 rfl) ?_
      refine kvi (As := [.int person, .int (nI i)]) (rest := [.int x4_2]) (isC := [0, 1, 2]) (isR := []) (isN := [0, 1, 2]) (as := [q 17, q 18, q 19]) (wr := ([] : List Nat).filterMap (fun i => (wStd cI q std)[i]?)) (q0 := 0) (ci := 4) ⟨hx, hb, hml, hown, hts⟩ hP hK hD hS hA hE (k_X4_beardOn l D cI cZ adK adV q std person (nI i)) (kcv hts kM_X4_beardOn (kin_17 _ (List.mem_of_getElem? (i := 17) rfl)) ⟨rfl, rfl⟩ ⟨Nat.le_of_ble_eq_true rfl, Nat.le_of_ble_eq_true rfl⟩) kBl_G kOk_G (wStd cI q std) ⟨rfl, rfl, ⟨rfl, rfl⟩, rfl⟩ (by decide +kernel) rfl rfl rfl rfl hl.1 rfl (Nat.le_of_ble_eq_true rfl) dX4_beardsOf_14 (fun H locs hP hD hS => ?_)
      refine lv_iadd hx hb dX4_beardsOf_17 ?_
      refine lv_istore_n (lv' := [(2, .int (x4_2 + (f_X4_beardOn std person (nI i)))), (0, .ref (q 17)), (1, .int person), (3, .int (nI i))]) hx hb dX4_beardsOf_18 rfl hl (by decide) rfl (fun ls hl => ?_)
      refine lv_iinc (v := (nI (i + 1))) (lv' := [(3, .int (nI (i + 1))), (2, .int (x4_2 + (f_X4_beardOn std person (nI i)))), (0, .ref (q 17)), (1, .int person)]) hx hb dX4_beardsOf_19 hl (k := 3) rfl (nI_1 i) (by decide) rfl (fun ls hl => ?_)
      refine lv_goto (tgt := 4) hx hb dX4_beardsOf_22 (by decide) ?_
      have hb4 : nx_X4_beardsOf_4 std person i x4_2 = (x4_2 + (f_X4_beardOn std person (nI i))) := rfl
      exact ih4 (i + 1) (x4_2 + (f_X4_beardOn std person (nI i))) (by omega) (hb4.symm.trans (congrArg ((fun iz z => nx_X4_beardsOf_4 std person iz z) i) ea4)) _ _ _ hP hD hS (lv_sub hl [2, 3, 1, 0] rfl)
  exact lp4 6 0 0 (Nat.zero_add _) rfl _ _ _ hP hD hS (lv_sub hl [2, 3, 1, 0] rfl)
def v_X4_bareStrips_16_0 (std : Nat → Int32) (person : Int32) (i : Nat) (x4_2 : Int32) : Int32 := if (f_X4_beardOn std person (nI i)) = 0 then (x4_2 ||| (1 <<< ((nI i) &&& 31))) else x4_2
def nx_X4_bareStrips_4 (std : Nat → Int32) (person : Int32) (i : Nat) (x4_2 : Int32) : Int32 := (v_X4_bareStrips_16_0 std person i x4_2)
def x_X4_bareStrips_4 (std : Nat → Int32) (person : Int32) : Int32 := lp (fun iz z => nx_X4_bareStrips_4 std person iz z) 0 6
def f_X4_bareStrips (std : Nat → Int32) (person : Int32) : Int32 := (x_X4_bareStrips_4 std person)
abbrev rm_X4_bareStrips : Room := { frames := 2, cells := 0, slots := 0, locals := 43 }
set_option maxRecDepth 100000 in
set_option maxHeartbeats 4000000 in
theorem k_X4_bareStrips (l : Launch) (D : va_G) (cI cZ : ClassId) (adK adV : Nat → Nat) (q : Nat → Nat) (std : Nat → Int32) (person : Int32) : CI l D (kTy cI cZ) (kG adK adV) yX4_bareStrips (.code yX4_bareStrips cX4_bareStrips 4 (some .int) :: wsL_law) rm_X4_bareStrips [.ref (q 17), .int person] (wStd cI q std) (wStd cI q std) (f_X4_bareStrips std person) := by
  refine CI.of (cc := cX4_bareStrips) (maxL := 4) (ty := .int) (by decide) rfl (Nat.le_of_ble_eq_true rfl) rfl ?_
  intro p e s m args below meth c A Q ls hx hb hml hts0 hown hA hP hK hD hE hl hret
  have hts : ∀ w ∈ wsL_law, w.before args s = true := fun w h => hts0 w (List.mem_cons_of_mem _ h)
  clear hts0
  have hown : s.vm.findClass RX4 = some m.cls := hown
  have hl : lv_has ls 4 [(0, .ref (q 17)), (1, .int person)] := hl
  have hS : va_S A s.heap s.heap [] := va_S.rf
  revert hP hS
  suffices hgo : ∀ (H : Heap) (locs : List Loc), va_P D vwCl (wStd cI q std) H → va_S A s.heap H locs → W p l e rm_X4_bareStrips s m args below meth c H locs 0 0 Q (F0 m 0 ls []) from fun a b => hgo _ _ a b
  intro H locs hP hS
  refine lv_iconst (v := 0) hx hb dX4_bareStrips_0 (by decide) ?_
  refine lv_istore_n (lv' := [(2, .int 0), (0, .ref (q 17)), (1, .int person)]) hx hb dX4_bareStrips_1 rfl hl (by decide) rfl (fun ls hl => ?_)
  refine lv_iconst (v := 0) hx hb dX4_bareStrips_2 (by decide) ?_
  refine lv_istore_n (lv' := [(3, .int 0), (2, .int 0), (0, .ref (q 17)), (1, .int person)]) hx hb dX4_bareStrips_3 rfl hl (by decide) rfl (fun ls hl => ?_)
  have lp4 : ∀ (k4 i : Nat) (x4_2 : Int32), i + k4 = 6 → x4_2 = lp (fun iz z => nx_X4_bareStrips_4 std person iz z) 0 i → ∀ (H : Heap) (locs : List Loc) (ls : Array Slot), va_P D vwCl (wStd cI q std) H → va_D A (wStd cI q std) → va_S A s.heap H locs → lv_has ls 4 [(0, .ref (q 17)), (1, .int person), (2, .int x4_2), (3, .int (nI i))] → W p l e rm_X4_bareStrips s m args below meth c H locs 0 0 Q (F0 m 4 ls []) := by
    intro k4
    induction k4 with
    | zero =>
      intro i x4_2 hi4 ea4 H locs ls hP hD hS hl
      have hi4 : 6 = i := by omega
      subst hi4
      have ea4 : x4_2 = (x_X4_bareStrips_4 std person) := ea4
      subst ea4
      refine lv_iload_n hx hb dX4_bareStrips_4 rfl (lv_at hl 3 rfl) ?_
      refine lv_bipush (v := 6) hx hb dX4_bareStrips_5 (by decide) ?_
      refine lv_icmp_ge (tgt := 31) hx hb dX4_bareStrips_7 (by decide) (fun _ => ?_) (fun c_7 => absurd (nI_le (Nat.le_refl _) (by decide)) c_7)
      refine lv_iload_n hx hb dX4_bareStrips_31 rfl (lv_at hl 2 rfl) ?_
      have hf : (f_X4_bareStrips std person) = (x_X4_bareStrips_4 std person) := rfl
      rw [hf] at hret
      exact hret _ _ _ _ hP hS dX4_bareStrips_32
    | succ k4 ih4 =>
      intro i x4_2 hi4 ea4 H locs ls hP hD hS hl
      have hlt4 : i < 6 := by omega
      refine lv_iload_n hx hb dX4_bareStrips_4 rfl (lv_at hl 3 rfl) ?_
      refine lv_bipush (v := 6) hx hb dX4_bareStrips_5 (by decide) ?_
      refine lv_icmp_ge (tgt := 31) hx hb dX4_bareStrips_7 (by decide) (fun c_7 => absurd c_7 (nI_ge hlt4 (by decide))) (fun _ => ?_)
      refine lv_aload_n hx hb dX4_bareStrips_10 rfl (lv_at hl 0 rfl) ?_
      refine lv_iload_n hx hb dX4_bareStrips_11 rfl (lv_at hl 1 rfl) ?_
      refine lv_iload_n hx hb dX4_bareStrips_12 rfl (lv_at hl 3 rfl) ?_
      refine kvi (As := [.int person, .int (nI i)]) (rest := []) (isC := [0, 1, 2]) (isR := []) (isN := [0, 1, 2]) (as := [q 17, q 18, q 19]) (wr := ([] : List Nat).filterMap (fun i => (wStd cI q std)[i]?)) (q0 := 0) (ci := 4) ⟨hx, hb, hml, hown, hts⟩ hP hK hD hS hA hE (k_X4_beardOn l D cI cZ adK adV q std person (nI i)) (kcv hts kM_X4_beardOn (kin_17 _ (List.mem_of_getElem? (i := 17) rfl)) ⟨rfl, rfl⟩ ⟨Nat.le_of_ble_eq_true rfl, Nat.le_of_ble_eq_true rfl⟩) kBl_G kOk_G (wStd cI q std) ⟨rfl, rfl, ⟨rfl, rfl⟩, rfl⟩ (by decide +kernel) rfl rfl rfl rfl hl.1 rfl (Nat.le_of_ble_eq_true rfl) dX4_bareStrips_13 (fun H locs hP hD hS => ?_)
      have J16 : ∀ (H : Heap) (locs : List Loc) (ls : Array Slot), va_P D vwCl (wStd cI q std) H → va_D A (wStd cI q std) → va_S A s.heap H locs → lv_has ls 4 [(0, .ref (q 17)), (1, .int person), (2, .int (v_X4_bareStrips_16_0 std person i x4_2)), (3, .int (nI i))] → W p l e rm_X4_bareStrips s m args below meth c H locs 0 0 Q (F0 m 25 ls []) := by
        intro H locs ls hP hD hS hl
        refine lv_iinc (v := (nI (i + 1))) (lv' := [(3, .int (nI (i + 1))), (0, .ref (q 17)), (1, .int person), (2, .int (v_X4_bareStrips_16_0 std person i x4_2))]) hx hb dX4_bareStrips_25 hl (k := 3) rfl (nI_1 i) (by decide) rfl (fun ls hl => ?_)
        refine lv_goto (tgt := 4) hx hb dX4_bareStrips_28 (by decide) ?_
        have hb4 : nx_X4_bareStrips_4 std person i x4_2 = (v_X4_bareStrips_16_0 std person i x4_2) := rfl
        exact ih4 (i + 1) (v_X4_bareStrips_16_0 std person i x4_2) (by omega) (hb4.symm.trans (congrArg ((fun iz z => nx_X4_bareStrips_4 std person iz z) i) ea4)) _ _ _ hP hD hS (lv_sub hl [1, 2, 3, 0] rfl)
      refine lv_if_ne (tgt := 25) hx hb dX4_bareStrips_16 (by decide) (fun c_16 => ?_) (fun c_16 => ?_)
      · skip
        rw [show (v_X4_bareStrips_16_0 std person i x4_2) = x4_2 from (if_neg c_16)] at J16
        exact J16 _ _ _ hP hD hS (lv_sub hl [0, 1, 2, 3] rfl)
      · skip
        refine lv_iload_n hx hb dX4_bareStrips_19 rfl (lv_at hl 2 rfl) ?_
        refine lv_iconst (v := 1) hx hb dX4_bareStrips_20 (by decide) ?_
        refine lv_iload_n hx hb dX4_bareStrips_21 rfl (lv_at hl 3 rfl) ?_
        refine lv_ishl hx hb dX4_bareStrips_22 ?_
        refine lv_ior hx hb dX4_bareStrips_23 ?_
        refine lv_istore_n (lv' := [(2, .int (x4_2 ||| (1 <<< ((nI i) &&& 31)))), (0, .ref (q 17)), (1, .int person), (3, .int (nI i))]) hx hb dX4_bareStrips_24 rfl hl (by decide) rfl (fun ls hl => ?_)
        rw [show (v_X4_bareStrips_16_0 std person i x4_2) = (x4_2 ||| (1 <<< ((nI i) &&& 31))) from (if_pos c_16)] at J16
        exact J16 _ _ _ hP hD hS (lv_sub hl [1, 2, 0, 3] rfl)
  exact lp4 6 0 0 (Nat.zero_add _) rfl _ _ _ hP hD hS (lv_sub hl [2, 3, 1, 0] rfl)
def f_X4_stripsKnown (std : Nat → Int32) (barber : Int32) (person : Int32) : Int32 := (f_X0_at 85 std ((37 + (barber * 6)) + person))
abbrev rm_X4_stripsKnown : Room := { frames := 1, cells := 0, slots := 0, locals := 21 }
set_option maxRecDepth 100000 in
set_option maxHeartbeats 4000000 in
theorem k_X4_stripsKnown (l : Launch) (D : va_G) (cI cZ : ClassId) (adK adV : Nat → Nat) (q : Nat → Nat) (std : Nat → Int32) (barber : Int32) (person : Int32) : CI l D (kTy cI cZ) (kG adK adV) yX4_stripsKnown (.code yX4_stripsKnown cX4_stripsKnown 3 (some .int) :: wsL_law) rm_X4_stripsKnown [.ref (q 17), .int barber, .int person] (wStd cI q std) (wStd cI q std) (f_X4_stripsKnown std barber person) := by
  refine CI.of (cc := cX4_stripsKnown) (maxL := 3) (ty := .int) (by decide) rfl (Nat.le_of_ble_eq_true rfl) rfl ?_
  intro p e s m args below meth c A Q ls hx hb hml hts0 hown hA hP hK hD hE hl hret
  have hts : ∀ w ∈ wsL_law, w.before args s = true := fun w h => hts0 w (List.mem_cons_of_mem _ h)
  clear hts0
  have hown : s.vm.findClass RX4 = some m.cls := hown
  have hl : lv_has ls 3 [(0, .ref (q 17)), (1, .int barber), (2, .int person)] := hl
  have hS : va_S A s.heap s.heap [] := va_S.rf
  revert hP hS
  suffices hgo : ∀ (H : Heap) (locs : List Loc), va_P D vwCl (wStd cI q std) H → va_S A s.heap H locs → W p l e rm_X4_stripsKnown s m args below meth c H locs 0 0 Q (F0 m 0 ls []) from fun a b => hgo _ _ a b
  intro H locs hP hS
  refine lv_aload_n hx hb dX4_stripsKnown_0 rfl (lv_at hl 0 rfl) ?_
  refine va_get (D := D) (ci := 4) (v := .ref (q 18)) (C := RX4) (T := TX4) (N := 1) hx hb hts inlX4 hown hK hP 0 rfl rfl 0 (by decide) (kw hts kin_4 0 rfl) (fun _ h9 => h9) rfl dX4_stripsKnown_1 ?_
  refine lv_bipush (v := 37) hx hb dX4_stripsKnown_4 (by decide) ?_
  refine lv_iload_n hx hb dX4_stripsKnown_6 rfl (lv_at hl 1 rfl) ?_
  refine lv_bipush (v := 6) hx hb dX4_stripsKnown_7 (by decide) ?_
  refine lv_imul hx hb dX4_stripsKnown_9 ?_
  refine lv_iadd hx hb dX4_stripsKnown_10 ?_
  refine lv_iload_n hx hb dX4_stripsKnown_11 rfl (lv_at hl 2 rfl) ?_
  refine lv_iadd hx hb dX4_stripsKnown_12 ?_
  refine kvi (As := [.int ((37 + (barber * 6)) + person)]) (rest := []) (isC := [1, 2]) (isR := [0]) (isN := [0, 1, 2]) (as := [q 18, q 19]) (wr := ([0] : List Nat).filterMap (fun i => (wStd cI q std)[i]?)) (q0 := 0) (ci := 0) ⟨hx, hb, hml, hown, hts⟩ hP hK hD hS hA hE (k_X0_at l D cI cZ adK adV (q 18) (q 19) 85 std ((37 + (barber * 6)) + person) (by decide)) (kcv hts kM_X0_at (kin_17 _ (List.mem_of_getElem? (i := 21) rfl)) ⟨rfl, rfl⟩ ⟨Nat.le_of_ble_eq_true rfl, Nat.le_of_ble_eq_true rfl⟩) kBl_G kOk_G (wStd cI q std) ⟨rfl, rfl, ⟨rfl, rfl⟩, rfl⟩ (by decide +kernel) rfl rfl rfl rfl hl.1 rfl (Nat.le_of_ble_eq_true rfl) dX4_stripsKnown_13 (fun H locs hP hD hS => ?_)
  have hf : (f_X4_stripsKnown std barber person) = (f_X0_at 85 std ((37 + (barber * 6)) + person)) := rfl
  rw [hf] at hret
  exact hret _ _ _ _ hP hS dX4_stripsKnown_16
def f_X4_partsKnown (std : Nat → Int32) (barber : Int32) (person : Int32) : Int32 := (f_X0_at 85 std ((61 + (barber * 6)) + person))
abbrev rm_X4_partsKnown : Room := { frames := 1, cells := 0, slots := 0, locals := 21 }
set_option maxRecDepth 100000 in
set_option maxHeartbeats 4000000 in
theorem k_X4_partsKnown (l : Launch) (D : va_G) (cI cZ : ClassId) (adK adV : Nat → Nat) (q : Nat → Nat) (std : Nat → Int32) (barber : Int32) (person : Int32) : CI l D (kTy cI cZ) (kG adK adV) yX4_partsKnown (.code yX4_partsKnown cX4_partsKnown 3 (some .int) :: wsL_law) rm_X4_partsKnown [.ref (q 17), .int barber, .int person] (wStd cI q std) (wStd cI q std) (f_X4_partsKnown std barber person) := by
  refine CI.of (cc := cX4_partsKnown) (maxL := 3) (ty := .int) (by decide) rfl (Nat.le_of_ble_eq_true rfl) rfl ?_
  intro p e s m args below meth c A Q ls hx hb hml hts0 hown hA hP hK hD hE hl hret
  have hts : ∀ w ∈ wsL_law, w.before args s = true := fun w h => hts0 w (List.mem_cons_of_mem _ h)
  clear hts0
  have hown : s.vm.findClass RX4 = some m.cls := hown
  have hl : lv_has ls 3 [(0, .ref (q 17)), (1, .int barber), (2, .int person)] := hl
  have hS : va_S A s.heap s.heap [] := va_S.rf
  revert hP hS
  suffices hgo : ∀ (H : Heap) (locs : List Loc), va_P D vwCl (wStd cI q std) H → va_S A s.heap H locs → W p l e rm_X4_partsKnown s m args below meth c H locs 0 0 Q (F0 m 0 ls []) from fun a b => hgo _ _ a b
  intro H locs hP hS
  refine lv_aload_n hx hb dX4_partsKnown_0 rfl (lv_at hl 0 rfl) ?_
  refine va_get (D := D) (ci := 4) (v := .ref (q 18)) (C := RX4) (T := TX4) (N := 1) hx hb hts inlX4 hown hK hP 0 rfl rfl 0 (by decide) (kw hts kin_4 0 rfl) (fun _ h9 => h9) rfl dX4_partsKnown_1 ?_
  refine lv_bipush (v := 61) hx hb dX4_partsKnown_4 (by decide) ?_
  refine lv_iload_n hx hb dX4_partsKnown_6 rfl (lv_at hl 1 rfl) ?_
  refine lv_bipush (v := 6) hx hb dX4_partsKnown_7 (by decide) ?_
  refine lv_imul hx hb dX4_partsKnown_9 ?_
  refine lv_iadd hx hb dX4_partsKnown_10 ?_
  refine lv_iload_n hx hb dX4_partsKnown_11 rfl (lv_at hl 2 rfl) ?_
  refine lv_iadd hx hb dX4_partsKnown_12 ?_
  refine kvi (As := [.int ((61 + (barber * 6)) + person)]) (rest := []) (isC := [1, 2]) (isR := [0]) (isN := [0, 1, 2]) (as := [q 18, q 19]) (wr := ([0] : List Nat).filterMap (fun i => (wStd cI q std)[i]?)) (q0 := 0) (ci := 0) ⟨hx, hb, hml, hown, hts⟩ hP hK hD hS hA hE (k_X0_at l D cI cZ adK adV (q 18) (q 19) 85 std ((61 + (barber * 6)) + person) (by decide)) (kcv hts kM_X0_at (kin_17 _ (List.mem_of_getElem? (i := 21) rfl)) ⟨rfl, rfl⟩ ⟨Nat.le_of_ble_eq_true rfl, Nat.le_of_ble_eq_true rfl⟩) kBl_G kOk_G (wStd cI q std) ⟨rfl, rfl, ⟨rfl, rfl⟩, rfl⟩ (by decide +kernel) rfl rfl rfl rfl hl.1 rfl (Nat.le_of_ble_eq_true rfl) dX4_partsKnown_13 (fun H locs hP hD hS => ?_)
  have hf : (f_X4_partsKnown std barber person) = (f_X0_at 85 std ((61 + (barber * 6)) + person)) := rfl
  rw [hf] at hret
  exact hret _ _ _ _ hP hS dX4_partsKnown_16
def f_X4_setKnown (std : Nat → Int32) (barber : Int32) (person : Int32) (strips : Int32) (parts_ : Int32) : (Nat → Int32) := (f_X0_put 85 (f_X0_put 85 std ((37 + (barber * 6)) + person) strips) ((61 + (barber * 6)) + person) parts_)
abbrev rm_X4_setKnown : Room := { frames := 1, cells := 0, slots := 0, locals := 22 }
set_option maxRecDepth 100000 in
set_option maxHeartbeats 4000000 in
theorem k_X4_setKnown (l : Launch) (D : va_G) (cI cZ : ClassId) (adK adV : Nat → Nat) (q : Nat → Nat) (std : Nat → Int32) (barber : Int32) (person : Int32) (strips : Int32) (parts_ : Int32) : CV l D (kTy cI cZ) (kG adK adV) yX4_setKnown (.code yX4_setKnown cX4_setKnown 5 none :: wsL_law) rm_X4_setKnown [.ref (q 17), .int barber, .int person, .int strips, .int parts_] (wStd cI q std) (wStd cI q (f_X4_setKnown std barber person strips parts_)) := by
  refine CV.of (cc := cX4_setKnown) (maxL := 5) (by decide) rfl (Nat.le_of_ble_eq_true rfl) ?_
  intro p e s m args below meth c A Q ls hx hb hml hts0 hown hA hP hK hD hE hl hret
  have hts : ∀ w ∈ wsL_law, w.before args s = true := fun w h => hts0 w (List.mem_cons_of_mem _ h)
  clear hts0
  have hown : s.vm.findClass RX4 = some m.cls := hown
  have hl : lv_has ls 5 [(0, .ref (q 17)), (1, .int barber), (2, .int person), (3, .int strips), (4, .int parts_)] := hl
  have hS : va_S A s.heap s.heap [] := va_S.rf
  revert hP hS
  suffices hgo : ∀ (H : Heap) (locs : List Loc), va_P D vwCl (wStd cI q std) H → va_S A s.heap H locs → W p l e rm_X4_setKnown s m args below meth c H locs 0 0 Q (F0 m 0 ls []) from fun a b => hgo _ _ a b
  intro H locs hP hS
  refine lv_aload_n hx hb dX4_setKnown_0 rfl (lv_at hl 0 rfl) ?_
  refine va_get (D := D) (ci := 4) (v := .ref (q 18)) (C := RX4) (T := TX4) (N := 1) hx hb hts inlX4 hown hK hP 0 rfl rfl 0 (by decide) (kw hts kin_4 0 rfl) (fun _ h9 => h9) rfl dX4_setKnown_1 ?_
  refine lv_bipush (v := 37) hx hb dX4_setKnown_4 (by decide) ?_
  refine lv_iload_n hx hb dX4_setKnown_6 rfl (lv_at hl 1 rfl) ?_
  refine lv_bipush (v := 6) hx hb dX4_setKnown_7 (by decide) ?_
  refine lv_imul hx hb dX4_setKnown_9 ?_
  refine lv_iadd hx hb dX4_setKnown_10 ?_
  refine lv_iload_n hx hb dX4_setKnown_11 rfl (lv_at hl 2 rfl) ?_
  refine lv_iadd hx hb dX4_setKnown_12 ?_
  refine lv_iload_n hx hb dX4_setKnown_13 rfl (lv_at hl 3 rfl) ?_
  refine kvv (As := [.int ((37 + (barber * 6)) + person), .int strips]) (rest := []) (isC := [1, 2]) (isR := [0]) (isN := [0, 1, 2]) (as := [q 18, q 19]) (wr := ([0] : List Nat).filterMap (fun i => (wStd cI q std)[i]?)) (q0 := 0) (ci := 0) ⟨hx, hb, hml, hown, hts⟩ hP hK hD hS hA hE (k_X0_put l D cI cZ adK adV (q 18) (q 19) 85 std ((37 + (barber * 6)) + person) strips (by decide)) (kcv hts kM_X0_put (kin_16 _ (List.mem_of_getElem? (i := 9) rfl)) ⟨rfl, rfl⟩ ⟨Nat.le_of_ble_eq_true rfl, Nat.le_of_ble_eq_true rfl⟩) kBl_G kOk_G (wStd cI q (f_X0_put 85 std ((37 + (barber * 6)) + person) strips)) ⟨rfl, rfl, ⟨rfl, rfl⟩, rfl⟩ (by decide +kernel) rfl rfl rfl rfl hl.1 rfl (Nat.le_of_ble_eq_true rfl) dX4_setKnown_14 (fun H locs hP hD hS => ?_)
  refine lv_aload_n hx hb dX4_setKnown_17 rfl (lv_at hl 0 rfl) ?_
  refine va_get (D := D) (ci := 4) (v := .ref (q 18)) (C := RX4) (T := TX4) (N := 1) hx hb hts inlX4 hown hK hP 0 rfl rfl 0 (by decide) (kw hts kin_4 0 rfl) (fun _ h9 => h9) rfl dX4_setKnown_18 ?_
  refine lv_bipush (v := 61) hx hb dX4_setKnown_21 (by decide) ?_
  refine lv_iload_n hx hb dX4_setKnown_23 rfl (lv_at hl 1 rfl) ?_
  refine lv_bipush (v := 6) hx hb dX4_setKnown_24 (by decide) ?_
  refine lv_imul hx hb dX4_setKnown_26 ?_
  refine lv_iadd hx hb dX4_setKnown_27 ?_
  refine lv_iload_n hx hb dX4_setKnown_28 rfl (lv_at hl 2 rfl) ?_
  refine lv_iadd hx hb dX4_setKnown_29 ?_
  refine lv_iload hx hb dX4_setKnown_30 (lv_at hl 4 rfl) ?_
  refine kvv (As := [.int ((61 + (barber * 6)) + person), .int parts_]) (rest := []) (isC := [1, 2]) (isR := [0]) (isN := [0, 1, 2]) (as := [q 18, q 19]) (wr := ([0] : List Nat).filterMap (fun i => (wStd cI q (f_X0_put 85 std ((37 + (barber * 6)) + person) strips))[i]?)) (q0 := 0) (ci := 0) ⟨hx, hb, hml, hown, hts⟩ hP hK hD hS hA hE (k_X0_put l D cI cZ adK adV (q 18) (q 19) 85 (f_X0_put 85 std ((37 + (barber * 6)) + person) strips) ((61 + (barber * 6)) + person) parts_ (by decide)) (kcv hts kM_X0_put (kin_16 _ (List.mem_of_getElem? (i := 9) rfl)) ⟨rfl, rfl⟩ ⟨Nat.le_of_ble_eq_true rfl, Nat.le_of_ble_eq_true rfl⟩) kBl_G kOk_G (wStd cI q (f_X0_put 85 (f_X0_put 85 std ((37 + (barber * 6)) + person) strips) ((61 + (barber * 6)) + person) parts_)) ⟨rfl, rfl, ⟨rfl, rfl⟩, rfl⟩ (by decide +kernel) rfl rfl rfl rfl hl.1 rfl (Nat.le_of_ble_eq_true rfl) dX4_setKnown_32 (fun H locs hP hD hS => ?_)
  have hf : (f_X4_setKnown std barber person strips parts_) = (f_X0_put 85 (f_X0_put 85 std ((37 + (barber * 6)) + person) strips) ((61 + (barber * 6)) + person) parts_) := rfl
  rw [hf] at hret
  exact hret _ _ _ _ hP hS dX4_setKnown_35
def f_X4_learn (std : Nat → Int32) (barber : Int32) (person : Int32) (strips : Int32) (parts_ : Int32) : (Nat → Int32) := (f_X4_setKnown std barber person ((f_X4_stripsKnown std barber person) ||| strips) (f_X6_replaced (f_X4_partsKnown std barber person) strips parts_))
abbrev rm_X4_learn : Room := { frames := 2, cells := 0, slots := 0, locals := 46 }
set_option maxRecDepth 100000 in
set_option maxHeartbeats 4000000 in
theorem k_X4_learn (l : Launch) (D : va_G) (cI cZ : ClassId) (adK adV : Nat → Nat) (q : Nat → Nat) (std : Nat → Int32) (barber : Int32) (person : Int32) (strips : Int32) (parts_ : Int32) : CV l D (kTy cI cZ) (kG adK adV) yX4_learn (.code yX4_learn cX4_learn 5 none :: wsL_law) rm_X4_learn [.ref (q 17), .int barber, .int person, .int strips, .int parts_] (wStd cI q std) (wStd cI q (f_X4_learn std barber person strips parts_)) := by
  refine CV.of (cc := cX4_learn) (maxL := 5) (by decide) rfl (Nat.le_of_ble_eq_true rfl) ?_
  intro p e s m args below meth c A Q ls hx hb hml hts0 hown hA hP hK hD hE hl hret
  have hts : ∀ w ∈ wsL_law, w.before args s = true := fun w h => hts0 w (List.mem_cons_of_mem _ h)
  clear hts0
  have hown : s.vm.findClass RX4 = some m.cls := hown
  have hl : lv_has ls 5 [(0, .ref (q 17)), (1, .int barber), (2, .int person), (3, .int strips), (4, .int parts_)] := hl
  have hS : va_S A s.heap s.heap [] := va_S.rf
  revert hP hS
  suffices hgo : ∀ (H : Heap) (locs : List Loc), va_P D vwCl (wStd cI q std) H → va_S A s.heap H locs → W p l e rm_X4_learn s m args below meth c H locs 0 0 Q (F0 m 0 ls []) from fun a b => hgo _ _ a b
  intro H locs hP hS
  refine lv_aload_n hx hb dX4_learn_0 rfl (lv_at hl 0 rfl) ?_
  refine lv_iload_n hx hb dX4_learn_1 rfl (lv_at hl 1 rfl) ?_
  refine lv_iload_n hx hb dX4_learn_2 rfl (lv_at hl 2 rfl) ?_
  refine lv_aload_n hx hb dX4_learn_3 rfl (lv_at hl 0 rfl) ?_
  refine lv_iload_n hx hb dX4_learn_4 rfl (lv_at hl 1 rfl) ?_
  refine lv_iload_n hx hb dX4_learn_5 rfl (lv_at hl 2 rfl) ?_
  refine kvi (As := [.int barber, .int person]) (rest := [.int person, .int barber, .ref (q 17)]) (isC := [0, 1, 2]) (isR := []) (isN := [0, 1, 2]) (as := [q 17, q 18, q 19]) (wr := ([] : List Nat).filterMap (fun i => (wStd cI q std)[i]?)) (q0 := 0) (ci := 4) ⟨hx, hb, hml, hown, hts⟩ hP hK hD hS hA hE (k_X4_stripsKnown l D cI cZ adK adV q std barber person) (kcv hts kM_X4_stripsKnown (kin_24 _ (List.mem_of_getElem? (i := 2) rfl)) ⟨rfl, rfl⟩ ⟨Nat.le_of_ble_eq_true rfl, Nat.le_of_ble_eq_true rfl⟩) kBl_G kOk_G (wStd cI q std) ⟨rfl, rfl, ⟨rfl, rfl⟩, rfl⟩ (by decide +kernel) rfl rfl rfl rfl hl.1 rfl (Nat.le_of_ble_eq_true rfl) dX4_learn_6 (fun H locs hP hD hS => ?_)
  refine lv_iload_n hx hb dX4_learn_9 rfl (lv_at hl 3 rfl) ?_
  refine lv_ior hx hb dX4_learn_10 ?_
  refine lv_aload_n hx hb dX4_learn_11 rfl (lv_at hl 0 rfl) ?_
  refine lv_iload_n hx hb dX4_learn_12 rfl (lv_at hl 1 rfl) ?_
  refine lv_iload_n hx hb dX4_learn_13 rfl (lv_at hl 2 rfl) ?_
  refine kvi (As := [.int barber, .int person]) (rest := [.int ((f_X4_stripsKnown std barber person) ||| strips), .int person, .int barber, .ref (q 17)]) (isC := [0, 1, 2]) (isR := []) (isN := [0, 1, 2]) (as := [q 17, q 18, q 19]) (wr := ([] : List Nat).filterMap (fun i => (wStd cI q std)[i]?)) (q0 := 0) (ci := 4) ⟨hx, hb, hml, hown, hts⟩ hP hK hD hS hA hE (k_X4_partsKnown l D cI cZ adK adV q std barber person) (kcv hts kM_X4_partsKnown (kin_24 _ (List.mem_of_getElem? (i := 3) rfl)) ⟨rfl, rfl⟩ ⟨Nat.le_of_ble_eq_true rfl, Nat.le_of_ble_eq_true rfl⟩) kBl_G kOk_G (wStd cI q std) ⟨rfl, rfl, ⟨rfl, rfl⟩, rfl⟩ (by decide +kernel) rfl rfl rfl rfl hl.1 rfl (Nat.le_of_ble_eq_true rfl) dX4_learn_14 (fun H locs hP hD hS => ?_)
  refine lv_iload_n hx hb dX4_learn_17 rfl (lv_at hl 3 rfl) ?_
  refine lv_iload hx hb dX4_learn_18 (lv_at hl 4 rfl) ?_
  refine kni (As := [.int (f_X4_partsKnown std barber person), .int strips, .int parts_]) (rest := [.int ((f_X4_stripsKnown std barber person) ||| strips), .int person, .int barber, .ref (q 17)]) ⟨hx, hb, hml, hown, hts⟩ hP hK hD hS hA hE (k_X6_replaced l D cI cZ adK adV (f_X4_partsKnown std barber person) strips parts_) (kcn hts kM_X6_replaced hE.1.2.2 ⟨rfl, rfl⟩ ⟨Nat.le_of_ble_eq_true rfl, Nat.le_of_ble_eq_true rfl⟩) kBl_G kOk_G rfl hl.1 rfl (Nat.le_of_ble_eq_true rfl) dX4_learn_20 (fun H locs hP hD hS => ?_)
  refine kvv (As := [.int barber, .int person, .int ((f_X4_stripsKnown std barber person) ||| strips), .int (f_X6_replaced (f_X4_partsKnown std barber person) strips parts_)]) (rest := []) (isC := [0, 1, 2]) (isR := []) (isN := [0, 1, 2]) (as := [q 17, q 18, q 19]) (wr := ([] : List Nat).filterMap (fun i => (wStd cI q std)[i]?)) (q0 := 0) (ci := 4) ⟨hx, hb, hml, hown, hts⟩ hP hK hD hS hA hE (k_X4_setKnown l D cI cZ adK adV q std barber person ((f_X4_stripsKnown std barber person) ||| strips) (f_X6_replaced (f_X4_partsKnown std barber person) strips parts_)) (kcv hts kM_X4_setKnown (kin_24 _ (List.mem_of_getElem? (i := 6) rfl)) ⟨rfl, rfl⟩ ⟨Nat.le_of_ble_eq_true rfl, Nat.le_of_ble_eq_true rfl⟩) kBl_G kOk_G (wStd cI q (f_X4_setKnown std barber person ((f_X4_stripsKnown std barber person) ||| strips) (f_X6_replaced (f_X4_partsKnown std barber person) strips parts_))) ⟨rfl, rfl, ⟨rfl, rfl⟩, rfl⟩ (by decide +kernel) rfl rfl rfl rfl hl.1 rfl (Nat.le_of_ble_eq_true rfl) dX4_learn_23 (fun H locs hP hD hS => ?_)
  have hf : (f_X4_learn std barber person strips parts_) = (f_X4_setKnown std barber person ((f_X4_stripsKnown std barber person) ||| strips) (f_X6_replaced (f_X4_partsKnown std barber person) strips parts_)) := rfl
  rw [hf] at hret
  exact hret _ _ _ _ hP hS dX4_learn_26
def nx_X4_passDay_23 (i : Nat) (i1 : Nat) (y23_std : Nat → Int32) : (Nat → Int32) := (f_X4_setBeard y23_std (nI i) (nI i1) (if ((f_X4_beardOn y23_std (nI i) (nI i1)) + 1) < 9 then ((f_X4_beardOn y23_std (nI i) (nI i1)) + 1) else 9))
def x_X4_passDay_23 (i : Nat) (y16_std : Nat → Int32) : (Nat → Int32) := lp (fun iz z => nx_X4_passDay_23 i iz z) y16_std 6
def nx_X4_passDay_16 (i : Nat) (y16_std : Nat → Int32) : (Nat → Int32) := (x_X4_passDay_23 i y16_std)
def x_X4_passDay_16 (std : Nat → Int32) (people : Int32) : (Nat → Int32) := lp (fun iz z => nx_X4_passDay_16 iz z) (f_X0_put 85 std 0 ((f_X4_date std) + 1)) people.toNatClampNeg
def f_X4_passDay (std : Nat → Int32) (people : Int32) : (Nat → Int32) := (x_X4_passDay_16 std people)
abbrev rm_X4_passDay : Room := { frames := 2, cells := 0, slots := 0, locals := 45 }
set_option maxRecDepth 100000 in
set_option maxHeartbeats 4000000 in
theorem k_X4_passDay (l : Launch) (D : va_G) (cI cZ : ClassId) (adK adV : Nat → Nat) (q : Nat → Nat) (std : Nat → Int32) (people : Int32) : CV l D (kTy cI cZ) (kG adK adV) yX4_passDay (.code yX4_passDay cX4_passDay 4 none :: wsL_law) rm_X4_passDay [.ref (q 17), .int people] (wStd cI q std) (wStd cI q (f_X4_passDay std people)) := by
  refine CV.of (cc := cX4_passDay) (maxL := 4) (by decide) rfl (Nat.le_of_ble_eq_true rfl) ?_
  intro p e s m args below meth c A Q ls hx hb hml hts0 hown hA hP hK hD hE hl hret
  have hts : ∀ w ∈ wsL_law, w.before args s = true := fun w h => hts0 w (List.mem_cons_of_mem _ h)
  clear hts0
  have hown : s.vm.findClass RX4 = some m.cls := hown
  have hl : lv_has ls 4 [(0, .ref (q 17)), (1, .int people)] := hl
  have hS : va_S A s.heap s.heap [] := va_S.rf
  revert hP hS
  suffices hgo : ∀ (H : Heap) (locs : List Loc), va_P D vwCl (wStd cI q std) H → va_S A s.heap H locs → W p l e rm_X4_passDay s m args below meth c H locs 0 0 Q (F0 m 0 ls []) from fun a b => hgo _ _ a b
  intro H locs hP hS
  refine lv_aload_n hx hb dX4_passDay_0 rfl (lv_at hl 0 rfl) ?_
  refine va_get (D := D) (ci := 4) (v := .ref (q 18)) (C := RX4) (T := TX4) (N := 1) hx hb hts inlX4 hown hK hP 0 rfl rfl 0 (by decide) (kw hts kin_4 0 rfl) (fun _ h9 => h9) rfl dX4_passDay_1 ?_
  refine lv_iconst (v := 0) hx hb dX4_passDay_4 (by decide) ?_
  refine lv_aload_n hx hb dX4_passDay_5 rfl (lv_at hl 0 rfl) ?_
  refine kvi (As := []) (rest := [.int 0, .ref (q 18)]) (isC := [0, 1, 2]) (isR := []) (isN := [0, 1, 2]) (as := [q 17, q 18, q 19]) (wr := ([] : List Nat).filterMap (fun i => (wStd cI q std)[i]?)) (q0 := 0) (ci := 4) ⟨hx, hb, hml, hown, hts⟩ hP hK hD hS hA hE (k_X4_date l D cI cZ adK adV q std) (kcv hts kM_X4_date (kin_25 _ (List.mem_of_getElem? (i := 20) rfl)) ⟨rfl, rfl⟩ ⟨Nat.le_of_ble_eq_true rfl, Nat.le_of_ble_eq_true rfl⟩) kBl_G kOk_G (wStd cI q std) ⟨rfl, rfl, ⟨rfl, rfl⟩, rfl⟩ (by decide +kernel) rfl rfl rfl rfl hl.1 rfl (Nat.le_of_ble_eq_true rfl) dX4_passDay_6 (fun H locs hP hD hS => ?_)
  refine lv_iconst (v := 1) hx hb dX4_passDay_9 (by decide) ?_
  refine lv_iadd hx hb dX4_passDay_10 ?_
  refine kvv (As := [.int 0, .int ((f_X4_date std) + 1)]) (rest := []) (isC := [1, 2]) (isR := [0]) (isN := [0, 1, 2]) (as := [q 18, q 19]) (wr := ([0] : List Nat).filterMap (fun i => (wStd cI q std)[i]?)) (q0 := 0) (ci := 0) ⟨hx, hb, hml, hown, hts⟩ hP hK hD hS hA hE (k_X0_put l D cI cZ adK adV (q 18) (q 19) 85 std 0 ((f_X4_date std) + 1) (by decide)) (kcv hts kM_X0_put (kin_16 _ (List.mem_of_getElem? (i := 9) rfl)) ⟨rfl, rfl⟩ ⟨Nat.le_of_ble_eq_true rfl, Nat.le_of_ble_eq_true rfl⟩) kBl_G kOk_G (wStd cI q (f_X0_put 85 std 0 ((f_X4_date std) + 1))) ⟨rfl, rfl, ⟨rfl, rfl⟩, rfl⟩ (by decide +kernel) rfl rfl rfl rfl hl.1 rfl (Nat.le_of_ble_eq_true rfl) dX4_passDay_11 (fun H locs hP hD hS => ?_)
  refine lv_iconst (v := 0) hx hb dX4_passDay_14 (by decide) ?_
  refine lv_istore_n (lv' := [(2, .int 0), (0, .ref (q 17)), (1, .int people)]) hx hb dX4_passDay_15 rfl hl (by decide) rfl (fun ls hl => ?_)
  have lp16 : ∀ (k16 i : Nat) (y16_std : Nat → Int32), i + k16 = people.toNatClampNeg → y16_std = lp (fun iz z => nx_X4_passDay_16 iz z) (f_X0_put 85 std 0 ((f_X4_date std) + 1)) i → ∀ (H : Heap) (locs : List Loc) (ls : Array Slot), va_P D vwCl (wStd cI q y16_std) H → va_D A (wStd cI q y16_std) → va_S A s.heap H locs → lv_has ls 4 [(0, .ref (q 17)), (1, .int people), (2, .int (nI i))] → W p l e rm_X4_passDay s m args below meth c H locs 0 0 Q (F0 m 16 ls []) := by
    intro k16
    induction k16 with
    | zero =>
      intro i y16_std hi16 ea16 H locs ls hP hD hS hl
      have hi16 : people.toNatClampNeg = i := by omega
      subst hi16
      have ea16 : y16_std = (x_X4_passDay_16 std people) := ea16
      subst ea16
      refine lv_iload_n hx hb dX4_passDay_16 rfl (lv_at hl 2 rfl) ?_
      refine lv_iload_n hx hb dX4_passDay_17 rfl (lv_at hl 1 rfl) ?_
      refine lv_icmp_ge (tgt := 60) hx hb dX4_passDay_18 (by decide) (fun _ => ?_) (fun c_18 => absurd (kle_clamp _) c_18)
      have hf : (f_X4_passDay std people) = (x_X4_passDay_16 std people) := rfl
      rw [hf] at hret
      exact hret _ _ _ _ hP hS dX4_passDay_60
    | succ k16 ih16 =>
      intro i y16_std hi16 ea16 H locs ls hP hD hS hl
      have hlt16 : i < people.toNatClampNeg := by omega
      refine lv_iload_n hx hb dX4_passDay_16 rfl (lv_at hl 2 rfl) ?_
      refine lv_iload_n hx hb dX4_passDay_17 rfl (lv_at hl 1 rfl) ?_
      refine lv_icmp_ge (tgt := 60) hx hb dX4_passDay_18 (by decide) (fun c_18 => absurd c_18 (klt_clamp hlt16)) (fun _ => ?_)
      refine lv_iconst (v := 0) hx hb dX4_passDay_21 (by decide) ?_
      refine lv_istore_n (lv' := [(3, .int 0), (0, .ref (q 17)), (1, .int people), (2, .int (nI i))]) hx hb dX4_passDay_22 rfl hl (by decide) rfl (fun ls hl => ?_)
      have lp23 : ∀ (k23 i1 : Nat) (y23_std : Nat → Int32), i1 + k23 = 6 → y23_std = lp (fun iz z => nx_X4_passDay_23 i iz z) y16_std i1 → ∀ (H : Heap) (locs : List Loc) (ls : Array Slot), va_P D vwCl (wStd cI q y23_std) H → va_D A (wStd cI q y23_std) → va_S A s.heap H locs → lv_has ls 4 [(0, .ref (q 17)), (1, .int people), (2, .int (nI i)), (3, .int (nI i1))] → W p l e rm_X4_passDay s m args below meth c H locs 0 0 Q (F0 m 23 ls []) := by
        intro k23
        induction k23 with
        | zero =>
          intro i1 y23_std hi23 ea23 H locs ls hP hD hS hl
          have hi23 : 6 = i1 := by omega
          subst hi23
          have ea23 : y23_std = (x_X4_passDay_23 i y16_std) := ea23
          subst ea23
          refine lv_iload_n hx hb dX4_passDay_23 rfl (lv_at hl 3 rfl) ?_
          refine lv_bipush (v := 6) hx hb dX4_passDay_24 (by decide) ?_
          refine lv_icmp_ge (tgt := 54) hx hb dX4_passDay_26 (by decide) (fun _ => ?_) (fun c_26 => absurd (nI_le (Nat.le_refl _) (by decide)) c_26)
          refine lv_iinc (v := (nI (i + 1))) (lv' := [(2, .int (nI (i + 1))), (0, .ref (q 17)), (1, .int people), (3, .int (nI 6))]) hx hb dX4_passDay_54 hl (k := 2) rfl (nI_1 i) (by decide) rfl (fun ls hl => ?_)
          refine lv_goto (tgt := 16) hx hb dX4_passDay_57 (by decide) ?_
          have hb16 : nx_X4_passDay_16 i y16_std = (x_X4_passDay_23 i y16_std) := rfl
          exact ih16 (i + 1) (x_X4_passDay_23 i y16_std) (by omega) (hb16.symm.trans (congrArg ((fun iz z => nx_X4_passDay_16 iz z) i) ea16)) _ _ _ hP hD hS (lv_sub hl [1, 2, 0] rfl)
        | succ k23 ih23 =>
          intro i1 y23_std hi23 ea23 H locs ls hP hD hS hl
          have hlt23 : i1 < 6 := by omega
          refine lv_iload_n hx hb dX4_passDay_23 rfl (lv_at hl 3 rfl) ?_
          refine lv_bipush (v := 6) hx hb dX4_passDay_24 (by decide) ?_
          refine lv_icmp_ge (tgt := 54) hx hb dX4_passDay_26 (by decide) (fun c_26 => absurd c_26 (nI_ge hlt23 (by decide))) (fun _ => ?_)
          refine lv_aload_n hx hb dX4_passDay_29 rfl (lv_at hl 0 rfl) ?_
          refine lv_iload_n hx hb dX4_passDay_30 rfl (lv_at hl 2 rfl) ?_
          refine lv_iload_n hx hb dX4_passDay_31 rfl (lv_at hl 3 rfl) ?_
          refine lv_bipush (v := 9) hx hb dX4_passDay_32 (by decide) ?_
          refine lv_aload_n hx hb dX4_passDay_34 rfl (lv_at hl 0 rfl) ?_
          refine lv_iload_n hx hb dX4_passDay_35 rfl (lv_at hl 2 rfl) ?_
          refine lv_iload_n hx hb dX4_passDay_36 rfl (lv_at hl 3 rfl) ?_
          refine kvi (As := [.int (nI i), .int (nI i1)]) (rest := [.int 9, .int (nI i1), .int (nI i), .ref (q 17)]) (isC := [0, 1, 2]) (isR := []) (isN := [0, 1, 2]) (as := [q 17, q 18, q 19]) (wr := ([] : List Nat).filterMap (fun i => (wStd cI q y23_std)[i]?)) (q0 := 0) (ci := 4) ⟨hx, hb, hml, hown, hts⟩ hP hK hD hS hA hE (k_X4_beardOn l D cI cZ adK adV q y23_std (nI i) (nI i1)) (kcv hts kM_X4_beardOn (kin_17 _ (List.mem_of_getElem? (i := 17) rfl)) ⟨rfl, rfl⟩ ⟨Nat.le_of_ble_eq_true rfl, Nat.le_of_ble_eq_true rfl⟩) kBl_G kOk_G (wStd cI q y23_std) ⟨rfl, rfl, ⟨rfl, rfl⟩, rfl⟩ (by decide +kernel) rfl rfl rfl rfl hl.1 rfl (Nat.le_of_ble_eq_true rfl) dX4_passDay_37 (fun H locs hP hD hS => ?_)
          refine lv_iconst (v := 1) hx hb dX4_passDay_40 (by decide) ?_
          refine lv_iadd hx hb dX4_passDay_41 ?_
          refine va_mmin hx hb (hml.trans hl.1.symm) hown (kw hts kin_25 19 rfl) (kw hts kin_5 18 rfl) (kw hts kin_3 4 rfl) (kw hts kin_5 19 rfl) (Nat.le_of_ble_eq_true rfl) (Nat.le_of_ble_eq_true rfl) (Nat.zero_le _) (Nat.zero_le _) dX4_passDay_42 ?_
          refine kvv (As := [.int (nI i), .int (nI i1), .int (if ((f_X4_beardOn y23_std (nI i) (nI i1)) + 1) < 9 then ((f_X4_beardOn y23_std (nI i) (nI i1)) + 1) else 9)]) (rest := []) (isC := [0, 1, 2]) (isR := []) (isN := [0, 1, 2]) (as := [q 17, q 18, q 19]) (wr := ([] : List Nat).filterMap (fun i => (wStd cI q y23_std)[i]?)) (q0 := 0) (ci := 4) ⟨hx, hb, hml, hown, hts⟩ hP hK hD hS hA hE (k_X4_setBeard l D cI cZ adK adV q y23_std (nI i) (nI i1) (if ((f_X4_beardOn y23_std (nI i) (nI i1)) + 1) < 9 then ((f_X4_beardOn y23_std (nI i) (nI i1)) + 1) else 9)) (kcv hts kM_X4_setBeard (kin_16 _ (List.mem_of_getElem? (i := 5) rfl)) ⟨rfl, rfl⟩ ⟨Nat.le_of_ble_eq_true rfl, Nat.le_of_ble_eq_true rfl⟩) kBl_G kOk_G (wStd cI q (f_X4_setBeard y23_std (nI i) (nI i1) (if ((f_X4_beardOn y23_std (nI i) (nI i1)) + 1) < 9 then ((f_X4_beardOn y23_std (nI i) (nI i1)) + 1) else 9))) ⟨rfl, rfl, ⟨rfl, rfl⟩, rfl⟩ (by decide +kernel) rfl rfl rfl rfl hl.1 rfl (Nat.le_of_ble_eq_true rfl) dX4_passDay_45 (fun H locs hP hD hS => ?_)
          refine lv_iinc (v := (nI (i1 + 1))) (lv' := [(3, .int (nI (i1 + 1))), (0, .ref (q 17)), (1, .int people), (2, .int (nI i))]) hx hb dX4_passDay_48 hl (k := 3) rfl (nI_1 i1) (by decide) rfl (fun ls hl => ?_)
          refine lv_goto (tgt := 23) hx hb dX4_passDay_51 (by decide) ?_
          have hb23 : nx_X4_passDay_23 i i1 y23_std = (f_X4_setBeard y23_std (nI i) (nI i1) (if ((f_X4_beardOn y23_std (nI i) (nI i1)) + 1) < 9 then ((f_X4_beardOn y23_std (nI i) (nI i1)) + 1) else 9)) := rfl
          exact ih23 (i1 + 1) (f_X4_setBeard y23_std (nI i) (nI i1) (if ((f_X4_beardOn y23_std (nI i) (nI i1)) + 1) < 9 then ((f_X4_beardOn y23_std (nI i) (nI i1)) + 1) else 9)) (by omega) (hb23.symm.trans (congrArg ((fun iz z => nx_X4_passDay_23 i iz z) i1) ea23)) _ _ _ hP hD hS (lv_sub hl [1, 2, 3, 0] rfl)
      exact lp23 6 0 y16_std (Nat.zero_add _) rfl _ _ _ hP hD hS (lv_sub hl [1, 2, 3, 0] rfl)
  exact lp16 people.toNatClampNeg 0 (f_X0_put 85 std 0 ((f_X4_date std) + 1)) (Nat.zero_add _) rfl _ _ _ hP hD hS (lv_sub hl [1, 2, 0] rfl)
def nx_X4_startAfresh_19 (brd : Nat → Int32) (i : Nat) (i1 : Nat) (y19_std : Nat → Int32) : (Nat → Int32) := (f_X4_setBeard y19_std (nI i) (nI i1) (f_X5_toldBeard brd (nI i) (nI i1)))
def x_X4_startAfresh_19 (brd : Nat → Int32) (i : Nat) (y9_std : Nat → Int32) : (Nat → Int32) := lp (fun iz z => nx_X4_startAfresh_19 brd i iz z) y9_std 6
def nx_X4_startAfresh_9 (brd : Nat → Int32) (i : Nat) (y9_std : Nat → Int32) : (Nat → Int32) := (x_X4_startAfresh_19 brd i y9_std)
def x_X4_startAfresh_9 (std : Nat → Int32) (tp : Int32) (brd : Nat → Int32) : (Nat → Int32) := lp (fun iz z => nx_X4_startAfresh_9 brd iz z) (f_X0_zero 85 std) tp.toNatClampNeg
def f_X4_startAfresh (std : Nat → Int32) (tp : Int32) (brd : Nat → Int32) : (Nat → Int32) := (x_X4_startAfresh_9 std tp brd)
abbrev rm_X4_startAfresh : Room := { frames := 2, cells := 0, slots := 0, locals := 45 }
set_option maxRecDepth 100000 in
set_option maxHeartbeats 4000000 in
theorem k_X4_startAfresh (l : Launch) (D : va_G) (cI cZ : ClassId) (adK adV : Nat → Nat) (q : Nat → Nat) (std : Nat → Int32) (tb : Int32) (tp : Int32) (tr : Int32) (knd : Nat → Int32) (sec : Nat → Int32) (brd : Nat → Int32) (rms : Nat → Int32) : CV l D (kTy cI cZ) (kG adK adV) yX4_startAfresh (.code yX4_startAfresh cX4_startAfresh 4 none :: wsL_law) rm_X4_startAfresh [.ref (q 17), .ref (q 8)] (wStd cI q std ++ wTown cI q tb tp tr knd sec brd rms) (wStd cI q (f_X4_startAfresh std tp brd) ++ wTown cI q tb tp tr knd sec brd rms) := by
  refine CV.of (cc := cX4_startAfresh) (maxL := 4) (by decide) rfl (Nat.le_of_ble_eq_true rfl) ?_
  intro p e s m args below meth c A Q ls hx hb hml hts0 hown hA hP hK hD hE hl hret
  have hts : ∀ w ∈ wsL_law, w.before args s = true := fun w h => hts0 w (List.mem_cons_of_mem _ h)
  clear hts0
  have hown : s.vm.findClass RX4 = some m.cls := hown
  have hl : lv_has ls 4 [(0, .ref (q 17)), (1, .ref (q 8))] := hl
  have hS : va_S A s.heap s.heap [] := va_S.rf
  revert hP hS
  suffices hgo : ∀ (H : Heap) (locs : List Loc), va_P D vwCl (wStd cI q std ++ wTown cI q tb tp tr knd sec brd rms) H → va_S A s.heap H locs → W p l e rm_X4_startAfresh s m args below meth c H locs 0 0 Q (F0 m 0 ls []) from fun a b => hgo _ _ a b
  intro H locs hP hS
  refine lv_aload_n hx hb dX4_startAfresh_0 rfl (lv_at hl 0 rfl) ?_
  refine va_get (D := D) (ci := 4) (v := .ref (q 18)) (C := RX4) (T := TX4) (N := 1) hx hb hts inlX4 hown hK hP 0 rfl rfl 0 (by decide) (kw hts kin_4 0 rfl) (fun _ h9 => h9) rfl dX4_startAfresh_1 ?_
  refine kvv (As := []) (rest := []) (isC := [1, 2]) (isR := [0, 3, 4, 5, 6, 7, 8, 9, 10, 11]) (isN := [0, 10, 11, 1, 2, 3, 4, 5, 6, 7, 8, 9]) (as := [q 18, q 19]) (wr := ([0, 3, 4, 5, 6, 7, 8, 9, 10, 11] : List Nat).filterMap (fun i => (wStd cI q std ++ wTown cI q tb tp tr knd sec brd rms)[i]?)) (q0 := 0) (ci := 0) ⟨hx, hb, hml, hown, hts⟩ hP hK hD hS hA hE (k_X0_zero l D cI cZ adK adV (q 18) (q 19) 85 std (by decide)) (kcv hts kM_X0_zero (kin_15 _ (List.mem_of_getElem? (i := 23) rfl)) ⟨rfl, rfl⟩ ⟨Nat.le_of_ble_eq_true rfl, Nat.le_of_ble_eq_true rfl⟩) kBl_G kOk_G (wStd cI q (f_X0_zero 85 std) ++ wTown cI q tb tp tr knd sec brd rms) ⟨rfl, rfl, ⟨rfl, rfl⟩, rfl⟩ (by decide +kernel) rfl rfl rfl rfl hl.1 rfl (Nat.le_of_ble_eq_true rfl) dX4_startAfresh_4 (fun H locs hP hD hS => ?_)
  refine lv_iconst (v := 0) hx hb dX4_startAfresh_7 (by decide) ?_
  refine lv_istore_n (lv' := [(2, .int 0), (0, .ref (q 17)), (1, .ref (q 8))]) hx hb dX4_startAfresh_8 rfl hl (by decide) rfl (fun ls hl => ?_)
  have lp9 : ∀ (k9 i : Nat) (y9_std : Nat → Int32), i + k9 = tp.toNatClampNeg → y9_std = lp (fun iz z => nx_X4_startAfresh_9 brd iz z) (f_X0_zero 85 std) i → ∀ (H : Heap) (locs : List Loc) (ls : Array Slot), va_P D vwCl (wStd cI q y9_std ++ wTown cI q tb tp tr knd sec brd rms) H → va_D A (wStd cI q y9_std ++ wTown cI q tb tp tr knd sec brd rms) → va_S A s.heap H locs → lv_has ls 4 [(0, .ref (q 17)), (1, .ref (q 8)), (2, .int (nI i))] → W p l e rm_X4_startAfresh s m args below meth c H locs 0 0 Q (F0 m 9 ls []) := by
    intro k9
    induction k9 with
    | zero =>
      intro i y9_std hi9 ea9 H locs ls hP hD hS hl
      have hi9 : tp.toNatClampNeg = i := by omega
      subst hi9
      have ea9 : y9_std = (x_X4_startAfresh_9 std tp brd) := ea9
      subst ea9
      refine lv_iload_n hx hb dX4_startAfresh_9 rfl (lv_at hl 2 rfl) ?_
      refine lv_aload_n hx hb dX4_startAfresh_10 rfl (lv_at hl 1 rfl) ?_
      refine va_get (D := D) (ci := 5) (v := .int tp) (C := RX5) (T := TX5) (N := 7) hx hb hts inlX5 hown hK hP 3 rfl rfl 1 (by decide) (kw hts kin_15 22 rfl) (fun _ h9 => h9) rfl dX4_startAfresh_11 ?_
      refine lv_icmp_ge (tgt := 49) hx hb dX4_startAfresh_14 (by decide) (fun _ => ?_) (fun c_14 => absurd (kle_clamp _) c_14)
      have hf : (f_X4_startAfresh std tp brd) = (x_X4_startAfresh_9 std tp brd) := rfl
      rw [hf] at hret
      exact hret _ _ _ _ hP hS dX4_startAfresh_49
    | succ k9 ih9 =>
      intro i y9_std hi9 ea9 H locs ls hP hD hS hl
      have hlt9 : i < tp.toNatClampNeg := by omega
      refine lv_iload_n hx hb dX4_startAfresh_9 rfl (lv_at hl 2 rfl) ?_
      refine lv_aload_n hx hb dX4_startAfresh_10 rfl (lv_at hl 1 rfl) ?_
      refine va_get (D := D) (ci := 5) (v := .int tp) (C := RX5) (T := TX5) (N := 7) hx hb hts inlX5 hown hK hP 3 rfl rfl 1 (by decide) (kw hts kin_15 22 rfl) (fun _ h9 => h9) rfl dX4_startAfresh_11 ?_
      refine lv_icmp_ge (tgt := 49) hx hb dX4_startAfresh_14 (by decide) (fun c_14 => absurd c_14 (klt_clamp hlt9)) (fun _ => ?_)
      refine lv_iconst (v := 0) hx hb dX4_startAfresh_17 (by decide) ?_
      refine lv_istore_n (lv' := [(3, .int 0), (0, .ref (q 17)), (1, .ref (q 8)), (2, .int (nI i))]) hx hb dX4_startAfresh_18 rfl hl (by decide) rfl (fun ls hl => ?_)
      have lp19 : ∀ (k19 i1 : Nat) (y19_std : Nat → Int32), i1 + k19 = 6 → y19_std = lp (fun iz z => nx_X4_startAfresh_19 brd i iz z) y9_std i1 → ∀ (H : Heap) (locs : List Loc) (ls : Array Slot), va_P D vwCl (wStd cI q y19_std ++ wTown cI q tb tp tr knd sec brd rms) H → va_D A (wStd cI q y19_std ++ wTown cI q tb tp tr knd sec brd rms) → va_S A s.heap H locs → lv_has ls 4 [(0, .ref (q 17)), (1, .ref (q 8)), (2, .int (nI i)), (3, .int (nI i1))] → W p l e rm_X4_startAfresh s m args below meth c H locs 0 0 Q (F0 m 19 ls []) := by
        intro k19
        induction k19 with
        | zero =>
          intro i1 y19_std hi19 ea19 H locs ls hP hD hS hl
          have hi19 : 6 = i1 := by omega
          subst hi19
          have ea19 : y19_std = (x_X4_startAfresh_19 brd i y9_std) := ea19
          subst ea19
          refine lv_iload_n hx hb dX4_startAfresh_19 rfl (lv_at hl 3 rfl) ?_
          refine lv_bipush (v := 6) hx hb dX4_startAfresh_20 (by decide) ?_
          refine lv_icmp_ge (tgt := 43) hx hb dX4_startAfresh_22 (by decide) (fun _ => ?_) (fun c_22 => absurd (nI_le (Nat.le_refl _) (by decide)) c_22)
          refine lv_iinc (v := (nI (i + 1))) (lv' := [(2, .int (nI (i + 1))), (0, .ref (q 17)), (1, .ref (q 8)), (3, .int (nI 6))]) hx hb dX4_startAfresh_43 hl (k := 2) rfl (nI_1 i) (by decide) rfl (fun ls hl => ?_)
          refine lv_goto (tgt := 9) hx hb dX4_startAfresh_46 (by decide) ?_
          have hb9 : nx_X4_startAfresh_9 brd i y9_std = (x_X4_startAfresh_19 brd i y9_std) := rfl
          exact ih9 (i + 1) (x_X4_startAfresh_19 brd i y9_std) (by omega) (hb9.symm.trans (congrArg ((fun iz z => nx_X4_startAfresh_9 brd iz z) i) ea9)) _ _ _ hP hD hS (lv_sub hl [1, 2, 0] rfl)
        | succ k19 ih19 =>
          intro i1 y19_std hi19 ea19 H locs ls hP hD hS hl
          have hlt19 : i1 < 6 := by omega
          refine lv_iload_n hx hb dX4_startAfresh_19 rfl (lv_at hl 3 rfl) ?_
          refine lv_bipush (v := 6) hx hb dX4_startAfresh_20 (by decide) ?_
          refine lv_icmp_ge (tgt := 43) hx hb dX4_startAfresh_22 (by decide) (fun c_22 => absurd c_22 (nI_ge hlt19 (by decide))) (fun _ => ?_)
          refine lv_aload_n hx hb dX4_startAfresh_25 rfl (lv_at hl 0 rfl) ?_
          refine lv_iload_n hx hb dX4_startAfresh_26 rfl (lv_at hl 2 rfl) ?_
          refine lv_iload_n hx hb dX4_startAfresh_27 rfl (lv_at hl 3 rfl) ?_
          refine lv_aload_n hx hb dX4_startAfresh_28 rfl (lv_at hl 1 rfl) ?_
          refine lv_iload_n hx hb dX4_startAfresh_29 rfl (lv_at hl 2 rfl) ?_
          refine lv_iload_n hx hb dX4_startAfresh_30 rfl (lv_at hl 3 rfl) ?_
          refine kvi (As := [.int (nI i), .int (nI i1)]) (rest := [.int (nI i1), .int (nI i), .ref (q 17)]) (isC := [3, 4, 5, 6, 7, 8, 9, 10, 11]) (isR := [0, 1, 2]) (isN := [0, 1, 2, 3, 4, 5, 6, 7, 8, 9, 10, 11]) (as := [q 8, q 9, q 10, q 11, q 12, q 13, q 14, q 15, q 16]) (wr := ([0, 1, 2] : List Nat).filterMap (fun i => (wStd cI q y19_std ++ wTown cI q tb tp tr knd sec brd rms)[i]?)) (q0 := 0) (ci := 5) ⟨hx, hb, hml, hown, hts⟩ hP hK hD hS hA hE (k_X5_toldBeard l D cI cZ adK adV q tb tp tr knd sec brd rms (nI i) (nI i1)) (kcv hts kM_X5_toldBeard (kin_16 _ (List.mem_of_getElem? (i := 0) rfl)) ⟨rfl, rfl⟩ ⟨Nat.le_of_ble_eq_true rfl, Nat.le_of_ble_eq_true rfl⟩) kBl_G kOk_G (wStd cI q y19_std ++ wTown cI q tb tp tr knd sec brd rms) ⟨rfl, rfl, ⟨rfl, rfl⟩, rfl⟩ (by decide +kernel) rfl rfl rfl rfl hl.1 rfl (Nat.le_of_ble_eq_true rfl) dX4_startAfresh_31 (fun H locs hP hD hS => ?_)
          refine kvv (As := [.int (nI i), .int (nI i1), .int (f_X5_toldBeard brd (nI i) (nI i1))]) (rest := []) (isC := [0, 1, 2]) (isR := [3, 4, 5, 6, 7, 8, 9, 10, 11]) (isN := [9, 10, 11, 0, 1, 2, 3, 4, 5, 6, 7, 8]) (as := [q 17, q 18, q 19]) (wr := ([3, 4, 5, 6, 7, 8, 9, 10, 11] : List Nat).filterMap (fun i => (wStd cI q y19_std ++ wTown cI q tb tp tr knd sec brd rms)[i]?)) (q0 := 0) (ci := 4) ⟨hx, hb, hml, hown, hts⟩ hP hK hD hS hA hE (k_X4_setBeard l D cI cZ adK adV q y19_std (nI i) (nI i1) (f_X5_toldBeard brd (nI i) (nI i1))) (kcv hts kM_X4_setBeard (kin_16 _ (List.mem_of_getElem? (i := 5) rfl)) ⟨rfl, rfl⟩ ⟨Nat.le_of_ble_eq_true rfl, Nat.le_of_ble_eq_true rfl⟩) kBl_G kOk_G (wStd cI q (f_X4_setBeard y19_std (nI i) (nI i1) (f_X5_toldBeard brd (nI i) (nI i1))) ++ wTown cI q tb tp tr knd sec brd rms) ⟨rfl, rfl, ⟨rfl, rfl⟩, rfl⟩ (by decide +kernel) rfl rfl rfl rfl hl.1 rfl (Nat.le_of_ble_eq_true rfl) dX4_startAfresh_34 (fun H locs hP hD hS => ?_)
          refine lv_iinc (v := (nI (i1 + 1))) (lv' := [(3, .int (nI (i1 + 1))), (0, .ref (q 17)), (1, .ref (q 8)), (2, .int (nI i))]) hx hb dX4_startAfresh_37 hl (k := 3) rfl (nI_1 i1) (by decide) rfl (fun ls hl => ?_)
          refine lv_goto (tgt := 19) hx hb dX4_startAfresh_40 (by decide) ?_
          have hb19 : nx_X4_startAfresh_19 brd i i1 y19_std = (f_X4_setBeard y19_std (nI i) (nI i1) (f_X5_toldBeard brd (nI i) (nI i1))) := rfl
          exact ih19 (i1 + 1) (f_X4_setBeard y19_std (nI i) (nI i1) (f_X5_toldBeard brd (nI i) (nI i1))) (by omega) (hb19.symm.trans (congrArg ((fun iz z => nx_X4_startAfresh_19 brd i iz z) i1) ea19)) _ _ _ hP hD hS (lv_sub hl [1, 2, 3, 0] rfl)
      exact lp19 6 0 y9_std (Nat.zero_add _) rfl _ _ _ hP hD hS (lv_sub hl [1, 2, 3, 0] rfl)
  exact lp9 tp.toNatClampNeg 0 (f_X0_zero 85 std) (Nat.zero_add _) rfl _ _ _ hP hD hS (lv_sub hl [1, 2, 0] rfl)
def f_X2_store (n : Nat) (f : Nat → Int32) (std : Nat → Int32) (place : Int32) : (Nat → Int32) := (f_X0_take n 85 f std 0 (place * 85) 85)
abbrev rm_X2_store : Room := { frames := 2, cells := 0, slots := 0, locals := 84 }
set_option maxRecDepth 100000 in
set_option maxHeartbeats 4000000 in
theorem k_X2_store (l : Launch) (D : va_G) (cI cZ : ClassId) (adK adV : Nat → Nat) (b : Nat) (r : Nat) (a : Nat) (n : Nat) (q : Nat → Nat) (f : Nat → Int32) (std : Nat → Int32) (place : Int32) (hn : n < 2147483648) : CV l D (kTy cI cZ) (kG adK adV) yX2_store (.code yX2_store cX2_store 3 none :: wsL_law) rm_X2_store [.ref b, .int place, .ref (q 17)] (wShf cI b r a n f ++ wStd cI q std) (wShf cI b r a n (f_X2_store n f std place) ++ wStd cI q std) := by
  refine CV.of (cc := cX2_store) (maxL := 3) (by decide) rfl (Nat.le_of_ble_eq_true rfl) ?_
  intro p e s m args below meth c A Q ls hx hb hml hts0 hown hA hP hK hD hE hl hret
  have hts : ∀ w ∈ wsL_law, w.before args s = true := fun w h => hts0 w (List.mem_cons_of_mem _ h)
  clear hts0
  have hown : s.vm.findClass RX2 = some m.cls := hown
  have hl : lv_has ls 3 [(0, .ref b), (1, .int place), (2, .ref (q 17))] := hl
  have hS : va_S A s.heap s.heap [] := va_S.rf
  revert hP hS
  suffices hgo : ∀ (H : Heap) (locs : List Loc), va_P D vwCl (wShf cI b r a n f ++ wStd cI q std) H → va_S A s.heap H locs → W p l e rm_X2_store s m args below meth c H locs 0 0 Q (F0 m 0 ls []) from fun a b => hgo _ _ a b
  intro H locs hP hS
  refine lv_aload_n hx hb dX2_store_0 rfl (lv_at hl 0 rfl) ?_
  refine va_get (D := D) (ci := 2) (v := .ref r) (C := RX2) (T := TX2) (N := 1) hx hb hts inlX2 hown hK hP 0 rfl rfl 0 (by decide) (kw hts kin_4 16 rfl) (fun _ h9 => h9) rfl dX2_store_1 ?_
  refine lv_aload_n hx hb dX2_store_4 rfl (lv_at hl 2 rfl) ?_
  refine va_get (D := D) (ci := 4) (v := .ref (q 18)) (C := RX4) (T := TX4) (N := 1) hx hb hts inlX4 hown hK hP 3 rfl rfl 0 (by decide) (kw hts kin_23 13 rfl) (fun _ h9 => h9) rfl dX2_store_5 ?_
  refine lv_iconst (v := 0) hx hb dX2_store_8 (by decide) ?_
  refine lv_iload_n hx hb dX2_store_9 rfl (lv_at hl 1 rfl) ?_
  refine lv_bipush (v := 85) hx hb dX2_store_10 (by decide) ?_
  refine lv_imul hx hb dX2_store_12 ?_
  refine lv_bipush (v := 85) hx hb dX2_store_13 (by decide) ?_
  refine kvv (As := [.ref (q 18), .int 0, .int (place * 85), .int 85]) (rest := []) (isC := [1, 2, 4, 5]) (isR := [0, 3]) (isN := [0, 2, 3, 1, 4, 5]) (as := [r, a, q 18, q 19]) (wr := ([0, 3] : List Nat).filterMap (fun i => (wShf cI b r a n f ++ wStd cI q std)[i]?)) (q0 := 0) (ci := 0) ⟨hx, hb, hml, hown, hts⟩ hP hK hD hS hA hE (k_X0_take l D cI cZ adK adV r a n (q 18) (q 19) 85 f std 0 (place * 85) 85 hn (by decide)) (kcv hts kM_X0_take (kin_23 _ (List.mem_of_getElem? (i := 14) rfl)) ⟨rfl, rfl⟩ ⟨Nat.le_of_ble_eq_true rfl, Nat.le_of_ble_eq_true rfl⟩) kBl_G kOk_G (wShf cI b r a n (f_X0_take n 85 f std 0 (place * 85) 85) ++ wStd cI q std) ⟨rfl, rfl, ⟨rfl, rfl⟩, rfl⟩ (by decide +kernel) rfl rfl rfl rfl hl.1 rfl (Nat.le_of_ble_eq_true rfl) dX2_store_15 (fun H locs hP hD hS => ?_)
  have hf : (f_X2_store n f std place) = (f_X0_take n 85 f std 0 (place * 85) 85) := rfl
  rw [hf] at hret
  exact hret _ _ _ _ hP hS dX2_store_18
def f_X2_fetch (n : Nat) (f : Nat → Int32) (std : Nat → Int32) (place : Int32) : (Nat → Int32) := (f_X0_take 85 n std f (place * 85) 0 85)
abbrev rm_X2_fetch : Room := { frames := 2, cells := 0, slots := 0, locals := 84 }
set_option maxRecDepth 100000 in
set_option maxHeartbeats 4000000 in
theorem k_X2_fetch (l : Launch) (D : va_G) (cI cZ : ClassId) (adK adV : Nat → Nat) (b : Nat) (r : Nat) (a : Nat) (n : Nat) (q : Nat → Nat) (f : Nat → Int32) (std : Nat → Int32) (place : Int32) (hn : n < 2147483648) : CV l D (kTy cI cZ) (kG adK adV) yX2_fetch (.code yX2_fetch cX2_fetch 3 none :: wsL_law) rm_X2_fetch [.ref b, .int place, .ref (q 17)] (wShf cI b r a n f ++ wStd cI q std) (wShf cI b r a n f ++ wStd cI q (f_X2_fetch n f std place)) := by
  refine CV.of (cc := cX2_fetch) (maxL := 3) (by decide) rfl (Nat.le_of_ble_eq_true rfl) ?_
  intro p e s m args below meth c A Q ls hx hb hml hts0 hown hA hP hK hD hE hl hret
  have hts : ∀ w ∈ wsL_law, w.before args s = true := fun w h => hts0 w (List.mem_cons_of_mem _ h)
  clear hts0
  have hown : s.vm.findClass RX2 = some m.cls := hown
  have hl : lv_has ls 3 [(0, .ref b), (1, .int place), (2, .ref (q 17))] := hl
  have hS : va_S A s.heap s.heap [] := va_S.rf
  revert hP hS
  suffices hgo : ∀ (H : Heap) (locs : List Loc), va_P D vwCl (wShf cI b r a n f ++ wStd cI q std) H → va_S A s.heap H locs → W p l e rm_X2_fetch s m args below meth c H locs 0 0 Q (F0 m 0 ls []) from fun a b => hgo _ _ a b
  intro H locs hP hS
  refine lv_aload_n hx hb dX2_fetch_0 rfl (lv_at hl 2 rfl) ?_
  refine va_get (D := D) (ci := 4) (v := .ref (q 18)) (C := RX4) (T := TX4) (N := 1) hx hb hts inlX4 hown hK hP 3 rfl rfl 0 (by decide) (kw hts kin_23 13 rfl) (fun _ h9 => h9) rfl dX2_fetch_1 ?_
  refine lv_aload_n hx hb dX2_fetch_4 rfl (lv_at hl 0 rfl) ?_
  refine va_get (D := D) (ci := 2) (v := .ref r) (C := RX2) (T := TX2) (N := 1) hx hb hts inlX2 hown hK hP 0 rfl rfl 0 (by decide) (kw hts kin_4 16 rfl) (fun _ h9 => h9) rfl dX2_fetch_5 ?_
  refine lv_iload_n hx hb dX2_fetch_8 rfl (lv_at hl 1 rfl) ?_
  refine lv_bipush (v := 85) hx hb dX2_fetch_9 (by decide) ?_
  refine lv_imul hx hb dX2_fetch_11 ?_
  refine lv_iconst (v := 0) hx hb dX2_fetch_12 (by decide) ?_
  refine lv_bipush (v := 85) hx hb dX2_fetch_13 (by decide) ?_
  refine kvv (As := [.ref r, .int (place * 85), .int 0, .int 85]) (rest := []) (isC := [4, 5, 1, 2]) (isR := [0, 3]) (isN := [0, 4, 5, 1, 2, 3]) (as := [q 18, q 19, r, a]) (wr := ([0, 3] : List Nat).filterMap (fun i => (wShf cI b r a n f ++ wStd cI q std)[i]?)) (q0 := 0) (ci := 0) ⟨hx, hb, hml, hown, hts⟩ hP hK hD hS hA hE (k_X0_take l D cI cZ adK adV (q 18) (q 19) 85 r a n std f (place * 85) 0 85 (by decide) hn) (kcv hts kM_X0_take (kin_23 _ (List.mem_of_getElem? (i := 14) rfl)) ⟨rfl, rfl⟩ ⟨Nat.le_of_ble_eq_true rfl, Nat.le_of_ble_eq_true rfl⟩) kBl_G kOk_G (wShf cI b r a n f ++ wStd cI q (f_X0_take 85 n std f (place * 85) 0 85)) ⟨rfl, rfl, ⟨rfl, rfl⟩, rfl⟩ (by decide +kernel) rfl rfl rfl rfl hl.1 rfl (Nat.le_of_ble_eq_true rfl) dX2_fetch_15 (fun H locs hP hD hS => ?_)
  have hf : (f_X2_fetch n f std place) = (f_X0_take 85 n std f (place * 85) 0 85) := rfl
  rw [hf] at hret
  exact hret _ _ _ _ hP hS dX2_fetch_18
def f_X3_add (sn : Int32) (ss : Nat → Int32) (sb : Nat → Int32) (sp : Nat → Int32) (strip : Int32) (beard : Int32) (part : Int32) : Int32 × (Nat → Int32) × (Nat → Int32) × (Nat → Int32) := ((if (sn + 1) < 6 then (sn + 1) else 6), (f_X0_put 6 ss sn strip), (f_X0_put 6 sb sn beard), (f_X0_put 6 sp sn part))
abbrev rm_X3_add : Room := { frames := 1, cells := 0, slots := 0, locals := 22 }
set_option maxRecDepth 100000 in
set_option maxHeartbeats 4000000 in
theorem k_X3_add (l : Launch) (D : va_G) (cI cZ : ClassId) (adK adV : Nat → Nat) (q : Nat → Nat) (sn : Int32) (ss : Nat → Int32) (sb : Nat → Int32) (sp : Nat → Int32) (strip : Int32) (beard : Int32) (part : Int32) : CV l D (kTy cI cZ) (kG adK adV) yX3_add (.code yX3_add cX3_add 4 none :: wsL_law) rm_X3_add [.ref (q 20), .int strip, .int beard, .int part] (wSee cI q sn ss sb sp) (wSee cI q ((f_X3_add sn ss sb sp strip beard part).1) ((f_X3_add sn ss sb sp strip beard part).2.1) ((f_X3_add sn ss sb sp strip beard part).2.2.1) ((f_X3_add sn ss sb sp strip beard part).2.2.2)) := by
  refine CV.of (cc := cX3_add) (maxL := 4) (by decide) rfl (Nat.le_of_ble_eq_true rfl) ?_
  intro p e s m args below meth c A Q ls hx hb hml hts0 hown hA hP hK hD hE hl hret
  have hts : ∀ w ∈ wsL_law, w.before args s = true := fun w h => hts0 w (List.mem_cons_of_mem _ h)
  clear hts0
  have hown : s.vm.findClass RX3 = some m.cls := hown
  have hl : lv_has ls 4 [(0, .ref (q 20)), (1, .int strip), (2, .int beard), (3, .int part)] := hl
  have hS : va_S A s.heap s.heap [] := va_S.rf
  revert hP hS
  suffices hgo : ∀ (H : Heap) (locs : List Loc), va_P D vwCl (wSee cI q sn ss sb sp) H → va_S A s.heap H locs → W p l e rm_X3_add s m args below meth c H locs 0 0 Q (F0 m 0 ls []) from fun a b => hgo _ _ a b
  intro H locs hP hS
  refine lv_aload_n hx hb dX3_add_0 rfl (lv_at hl 0 rfl) ?_
  refine va_get (D := D) (ci := 3) (v := .ref (q 21)) (C := RX3) (T := TX3) (N := 4) hx hb hts inlX3 hown hK hP 0 rfl rfl 1 (by decide) (kw hts kin_4 7 rfl) (fun _ h9 => h9) rfl dX3_add_1 ?_
  refine lv_aload_n hx hb dX3_add_4 rfl (lv_at hl 0 rfl) ?_
  refine va_get (D := D) (ci := 3) (v := .int sn) (C := RX3) (T := TX3) (N := 4) hx hb hts inlX3 hown hK hP 0 rfl rfl 0 (by decide) (kw hts kin_16 14 rfl) (fun _ h9 => h9) rfl dX3_add_5 ?_
  refine lv_iload_n hx hb dX3_add_8 rfl (lv_at hl 1 rfl) ?_
  refine kvv (As := [.int sn, .int strip]) (rest := []) (isC := [1, 2]) (isR := [0, 3, 4, 5, 6]) (isN := [0, 5, 6, 1, 2, 3, 4]) (as := [q 21, q 22]) (wr := ([0, 3, 4, 5, 6] : List Nat).filterMap (fun i => (wSee cI q sn ss sb sp)[i]?)) (q0 := 0) (ci := 0) ⟨hx, hb, hml, hown, hts⟩ hP hK hD hS hA hE (k_X0_put l D cI cZ adK adV (q 21) (q 22) 6 ss sn strip (by decide)) (kcv hts kM_X0_put (kin_31 _ (List.mem_of_getElem? (i := 15) rfl)) ⟨rfl, rfl⟩ ⟨Nat.le_of_ble_eq_true rfl, Nat.le_of_ble_eq_true rfl⟩) kBl_G kOk_G (wSee cI q sn (f_X0_put 6 ss sn strip) sb sp) ⟨rfl, rfl, ⟨rfl, rfl⟩, rfl⟩ (by decide +kernel) rfl rfl rfl rfl hl.1 rfl (Nat.le_of_ble_eq_true rfl) dX3_add_9 (fun H locs hP hD hS => ?_)
  refine lv_aload_n hx hb dX3_add_12 rfl (lv_at hl 0 rfl) ?_
  refine va_get (D := D) (ci := 3) (v := .ref (q 23)) (C := RX3) (T := TX3) (N := 4) hx hb hts inlX3 hown hK hP 0 rfl rfl 2 (by decide) (kw hts kin_4 8 rfl) (fun _ h9 => h9) rfl dX3_add_13 ?_
  refine lv_aload_n hx hb dX3_add_16 rfl (lv_at hl 0 rfl) ?_
  refine va_get (D := D) (ci := 3) (v := .int sn) (C := RX3) (T := TX3) (N := 4) hx hb hts inlX3 hown hK hP 0 rfl rfl 0 (by decide) (kw hts kin_16 14 rfl) (fun _ h9 => h9) rfl dX3_add_17 ?_
  refine lv_iload_n hx hb dX3_add_20 rfl (lv_at hl 2 rfl) ?_
  refine kvv (As := [.int sn, .int beard]) (rest := []) (isC := [3, 4]) (isR := [0, 1, 2, 5, 6]) (isN := [0, 1, 2, 5, 6, 3, 4]) (as := [q 23, q 24]) (wr := ([0, 1, 2, 5, 6] : List Nat).filterMap (fun i => (wSee cI q sn (f_X0_put 6 ss sn strip) sb sp)[i]?)) (q0 := 0) (ci := 0) ⟨hx, hb, hml, hown, hts⟩ hP hK hD hS hA hE (k_X0_put l D cI cZ adK adV (q 23) (q 24) 6 sb sn beard (by decide)) (kcv hts kM_X0_put (kin_31 _ (List.mem_of_getElem? (i := 15) rfl)) ⟨rfl, rfl⟩ ⟨Nat.le_of_ble_eq_true rfl, Nat.le_of_ble_eq_true rfl⟩) kBl_G kOk_G (wSee cI q sn (f_X0_put 6 ss sn strip) (f_X0_put 6 sb sn beard) sp) ⟨rfl, rfl, ⟨rfl, rfl⟩, rfl⟩ (by decide +kernel) rfl rfl rfl rfl hl.1 rfl (Nat.le_of_ble_eq_true rfl) dX3_add_21 (fun H locs hP hD hS => ?_)
  refine lv_aload_n hx hb dX3_add_24 rfl (lv_at hl 0 rfl) ?_
  refine va_get (D := D) (ci := 3) (v := .ref (q 25)) (C := RX3) (T := TX3) (N := 4) hx hb hts inlX3 hown hK hP 0 rfl rfl 3 (by decide) (kw hts kin_4 9 rfl) (fun _ h9 => h9) rfl dX3_add_25 ?_
  refine lv_aload_n hx hb dX3_add_28 rfl (lv_at hl 0 rfl) ?_
  refine va_get (D := D) (ci := 3) (v := .int sn) (C := RX3) (T := TX3) (N := 4) hx hb hts inlX3 hown hK hP 0 rfl rfl 0 (by decide) (kw hts kin_16 14 rfl) (fun _ h9 => h9) rfl dX3_add_29 ?_
  refine lv_iload_n hx hb dX3_add_32 rfl (lv_at hl 3 rfl) ?_
  refine kvv (As := [.int sn, .int part]) (rest := []) (isC := [5, 6]) (isR := [0, 1, 2, 3, 4]) (isN := [0, 1, 2, 3, 4, 5, 6]) (as := [q 25, q 26]) (wr := ([0, 1, 2, 3, 4] : List Nat).filterMap (fun i => (wSee cI q sn (f_X0_put 6 ss sn strip) (f_X0_put 6 sb sn beard) sp)[i]?)) (q0 := 0) (ci := 0) ⟨hx, hb, hml, hown, hts⟩ hP hK hD hS hA hE (k_X0_put l D cI cZ adK adV (q 25) (q 26) 6 sp sn part (by decide)) (kcv hts kM_X0_put (kin_31 _ (List.mem_of_getElem? (i := 15) rfl)) ⟨rfl, rfl⟩ ⟨Nat.le_of_ble_eq_true rfl, Nat.le_of_ble_eq_true rfl⟩) kBl_G kOk_G (wSee cI q sn (f_X0_put 6 ss sn strip) (f_X0_put 6 sb sn beard) (f_X0_put 6 sp sn part)) ⟨rfl, rfl, ⟨rfl, rfl⟩, rfl⟩ (by decide +kernel) rfl rfl rfl rfl hl.1 rfl (Nat.le_of_ble_eq_true rfl) dX3_add_33 (fun H locs hP hD hS => ?_)
  refine lv_aload_n hx hb dX3_add_36 rfl (lv_at hl 0 rfl) ?_
  refine lv_bipush (v := 6) hx hb dX3_add_37 (by decide) ?_
  refine lv_aload_n hx hb dX3_add_39 rfl (lv_at hl 0 rfl) ?_
  refine va_get (D := D) (ci := 3) (v := .int sn) (C := RX3) (T := TX3) (N := 4) hx hb hts inlX3 hown hK hP 0 rfl rfl 0 (by decide) (kw hts kin_16 14 rfl) (fun _ h9 => h9) rfl dX3_add_40 ?_
  refine lv_iconst (v := 1) hx hb dX3_add_43 (by decide) ?_
  refine lv_iadd hx hb dX3_add_44 ?_
  refine va_mmin hx hb (hml.trans hl.1.symm) hown (kw hts kin_31 14 rfl) (kw hts kin_5 18 rfl) (kw hts kin_3 4 rfl) (kw hts kin_5 19 rfl) (Nat.le_of_ble_eq_true rfl) (Nat.le_of_ble_eq_true rfl) (Nat.zero_le _) (Nat.zero_le _) dX3_add_45 ?_
  refine va_put (D := D) (ci := 3) (v := .int (if (sn + 1) < 6 then (sn + 1) else 6)) (ty := .int) (C := RX3) (T := TX3) (N := 4) hx hb hts inlX3 tyX3 tyX3_ok nmX3 hown hK hP hD hS 0 rfl rfl 0 (by decide) (kw hts kin_16 14 rfl) (fun _ h9 => h9) rfl (by decide +kernel) rfl rfl (Nat.le_of_ble_eq_true rfl) dX3_add_48 (fun H locs hP hD hS => ?_)
  have hP : va_P D vwCl (wSee cI q (if (sn + 1) < 6 then (sn + 1) else 6) (f_X0_put 6 ss sn strip) (f_X0_put 6 sb sn beard) (f_X0_put 6 sp sn part)) H := hP
  have hD : va_D A (wSee cI q (if (sn + 1) < 6 then (sn + 1) else 6) (f_X0_put 6 ss sn strip) (f_X0_put 6 sb sn beard) (f_X0_put 6 sp sn part)) := hD
  have hf : (f_X3_add sn ss sb sp strip beard part) = ((if (sn + 1) < 6 then (sn + 1) else 6), (f_X0_put 6 ss sn strip), (f_X0_put 6 sb sn beard), (f_X0_put 6 sp sn part)) := rfl
  rw [hf] at hret
  exact hret _ _ _ _ hP hS dX3_add_51
def f_X3_clear : Int32 := 0
abbrev rm_X3_clear : Room := { frames := 0, cells := 0, slots := 0, locals := 0 }
set_option maxRecDepth 100000 in
set_option maxHeartbeats 4000000 in
theorem k_X3_clear (l : Launch) (D : va_G) (cI cZ : ClassId) (adK adV : Nat → Nat) (q : Nat → Nat) (sn : Int32) (ss : Nat → Int32) (sb : Nat → Int32) (sp : Nat → Int32) : CV l D (kTy cI cZ) (kG adK adV) yX3_clear (.code yX3_clear cX3_clear 1 none :: wsL_law) rm_X3_clear [.ref (q 20)] (wSee cI q sn ss sb sp) (wSee cI q f_X3_clear ss sb sp) := by
  refine CV.of (cc := cX3_clear) (maxL := 1) (by decide) rfl (Nat.le_of_ble_eq_true rfl) ?_
  intro p e s m args below meth c A Q ls hx hb hml hts0 hown hA hP hK hD hE hl hret
  have hts : ∀ w ∈ wsL_law, w.before args s = true := fun w h => hts0 w (List.mem_cons_of_mem _ h)
  clear hts0
  have hown : s.vm.findClass RX3 = some m.cls := hown
  have hl : lv_has ls 1 [(0, .ref (q 20))] := hl
  have hS : va_S A s.heap s.heap [] := va_S.rf
  revert hP hS
  suffices hgo : ∀ (H : Heap) (locs : List Loc), va_P D vwCl (wSee cI q sn ss sb sp) H → va_S A s.heap H locs → W p l e rm_X3_clear s m args below meth c H locs 0 0 Q (F0 m 0 ls []) from fun a b => hgo _ _ a b
  intro H locs hP hS
  refine lv_aload_n hx hb dX3_clear_0 rfl (lv_at hl 0 rfl) ?_
  refine lv_iconst (v := 0) hx hb dX3_clear_1 (by decide) ?_
  refine va_put (D := D) (ci := 3) (v := .int 0) (ty := .int) (C := RX3) (T := TX3) (N := 4) hx hb hts inlX3 tyX3 tyX3_ok nmX3 hown hK hP hD hS 0 rfl rfl 0 (by decide) (kw hts kin_16 14 rfl) (fun _ h9 => h9) rfl (by decide +kernel) rfl rfl (Nat.le_of_ble_eq_true rfl) dX3_clear_2 (fun H locs hP hD hS => ?_)
  have hP : va_P D vwCl (wSee cI q 0 ss sb sp) H := hP
  have hD : va_D A (wSee cI q 0 ss sb sp) := hD
  have hf : f_X3_clear = 0 := rfl
  rw [hf] at hret
  exact hret _ _ _ _ hP hS dX3_clear_5
end
