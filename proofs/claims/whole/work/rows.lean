section
-- PART A of the skeleton, and the claim's printed names (kit starting texts), taken over by wip/whole/gen.py
-- ===== PART A: goes FIRST, ahead of the names: the tables' words, and 'selects' of the private methods out of them =====
/-- a private method of a class that the tables say can be made, by its rows of tables_1 -/
def lw_okq (q : MethodName × Nat) : Prop := (q.1.cls ≠ "java/lang/invoke/MethodHandle" ∧ q.1.cls ≠ "java/lang/invoke/VarHandle") ∧ Cond.instantiable q.1.cls q.2 ∈ tables_1 ∧ Cond.privateMethod q.1 ∈ tables_1 ∧ Cond.instanceMethod q.1 ∈ tables_1
theorem lw_p0 : lw_okq (⟨"ClipBureau", "someoneIsShort", "(LClipBureau$Ledger;)Z"⟩, 5) := ⟨⟨by decide +kernel, by decide +kernel⟩, List.mem_of_getElem? (i := 17) (by decide +kernel), List.mem_of_getElem? (i := 137) (by decide +kernel), List.mem_of_getElem? (i := 138) (by decide +kernel)⟩
theorem lw_p1 : lw_okq (⟨"ClipBureau", "bestFit", "(LClipBureau$Ledger;I)I"⟩, 5) := ⟨⟨by decide +kernel, by decide +kernel⟩, List.mem_of_getElem? (i := 17) (by decide +kernel), List.mem_of_getElem? (i := 141) (by decide +kernel), List.mem_of_getElem? (i := 142) (by decide +kernel)⟩
theorem lw_p2 : lw_okq (⟨"ClipBureau", "scoreFor", "(LClipBureau$Ledger;II)I"⟩, 5) := ⟨⟨by decide +kernel, by decide +kernel⟩, List.mem_of_getElem? (i := 17) (by decide +kernel), List.mem_of_getElem? (i := 145) (by decide +kernel), List.mem_of_getElem? (i := 146) (by decide +kernel)⟩
theorem lw_p3 : lw_okq (⟨"ClipBureau", "isFit", "(LClipBureau$Ledger;III)Z"⟩, 5) := ⟨⟨by decide +kernel, by decide +kernel⟩, List.mem_of_getElem? (i := 17) (by decide +kernel), List.mem_of_getElem? (i := 167) (by decide +kernel), List.mem_of_getElem? (i := 168) (by decide +kernel)⟩
theorem lw_p4 : lw_okq (⟨"ClipBureau", "priceFor", "(LClipBureau$Ledger;II)I"⟩, 5) := ⟨⟨by decide +kernel, by decide +kernel⟩, List.mem_of_getElem? (i := 17) (by decide +kernel), List.mem_of_getElem? (i := 175) (by decide +kernel), List.mem_of_getElem? (i := 176) (by decide +kernel)⟩
theorem lw_p5 : lw_okq (⟨"ClipBureau", "playRounds", "(LClipBureau$Ledger;I)V"⟩, 5) := ⟨⟨by decide +kernel, by decide +kernel⟩, List.mem_of_getElem? (i := 17) (by decide +kernel), List.mem_of_getElem? (i := 179) (by decide +kernel), List.mem_of_getElem? (i := 180) (by decide +kernel)⟩
theorem lw_p6 : lw_okq (⟨"ClipBureau", "sendTo", "(LClipBureau$Ledger;I)I"⟩, 5) := ⟨⟨by decide +kernel, by decide +kernel⟩, List.mem_of_getElem? (i := 17) (by decide +kernel), List.mem_of_getElem? (i := 183) (by decide +kernel), List.mem_of_getElem? (i := 184) (by decide +kernel)⟩
theorem lw_p7 : lw_okq (⟨"ClipBureau", "tellOfAll", "(I)I"⟩, 5) := ⟨⟨by decide +kernel, by decide +kernel⟩, List.mem_of_getElem? (i := 17) (by decide +kernel), List.mem_of_getElem? (i := 218) (by decide +kernel), List.mem_of_getElem? (i := 219) (by decide +kernel)⟩
theorem lw_p8 : lw_okq (⟨"ClipBureau", "mixArticle", "(JI)J"⟩, 5) := ⟨⟨by decide +kernel, by decide +kernel⟩, List.mem_of_getElem? (i := 17) (by decide +kernel), List.mem_of_getElem? (i := 234) (by decide +kernel), List.mem_of_getElem? (i := 235) (by decide +kernel)⟩
theorem lw_p9 : lw_okq (⟨"ClipBureau", "tellOfArticle", "(II)I"⟩, 5) := ⟨⟨by decide +kernel, by decide +kernel⟩, List.mem_of_getElem? (i := 17) (by decide +kernel), List.mem_of_getElem? (i := 238) (by decide +kernel), List.mem_of_getElem? (i := 239) (by decide +kernel)⟩
theorem lw_p10 : lw_okq (⟨"ClipBureau", "mixClient", "(JI)J"⟩, 5) := ⟨⟨by decide +kernel, by decide +kernel⟩, List.mem_of_getElem? (i := 17) (by decide +kernel), List.mem_of_getElem? (i := 251) (by decide +kernel), List.mem_of_getElem? (i := 252) (by decide +kernel)⟩
theorem lw_p11 : lw_okq (⟨"ClipBureau", "tellOfClient", "(II)I"⟩, 5) := ⟨⟨by decide +kernel, by decide +kernel⟩, List.mem_of_getElem? (i := 17) (by decide +kernel), List.mem_of_getElem? (i := 255) (by decide +kernel), List.mem_of_getElem? (i := 256) (by decide +kernel)⟩
theorem lw_p12 : lw_okq (⟨"ClipBureau", "fitArticles", "(I)I"⟩, 5) := ⟨⟨by decide +kernel, by decide +kernel⟩, List.mem_of_getElem? (i := 17) (by decide +kernel), List.mem_of_getElem? (i := 260) (by decide +kernel), List.mem_of_getElem? (i := 261) (by decide +kernel)⟩
theorem lw_p13 : lw_okq (⟨"java/lang/Throwable", "fillInStackTrace", "(I)Ljava/lang/Throwable;"⟩, 6) := ⟨⟨by decide +kernel, by decide +kernel⟩, List.mem_of_getElem? (i := 313) (by decide +kernel), List.mem_of_getElem? (i := 311) (by decide +kernel), List.mem_of_getElem? (i := 312) (by decide +kernel)⟩
theorem lw_p14 : lw_okq (⟨"ClipBureau$Press", "recountArticle", "(I)V"⟩, 6) := ⟨⟨by decide +kernel, by decide +kernel⟩, List.mem_of_getElem? (i := 25) (by decide +kernel), List.mem_of_getElem? (i := 352) (by decide +kernel), List.mem_of_getElem? (i := 353) (by decide +kernel)⟩
theorem lw_p15 : lw_okq (⟨"ClipBureau$Press", "stemOfWord", "(I)I"⟩, 6) := ⟨⟨by decide +kernel, by decide +kernel⟩, List.mem_of_getElem? (i := 25) (by decide +kernel), List.mem_of_getElem? (i := 356) (by decide +kernel), List.mem_of_getElem? (i := 357) (by decide +kernel)⟩
def lw_privs_1 : List (MethodName × Nat) := [(⟨"ClipBureau", "someoneIsShort", "(LClipBureau$Ledger;)Z"⟩, 5), (⟨"ClipBureau", "bestFit", "(LClipBureau$Ledger;I)I"⟩, 5), (⟨"ClipBureau", "scoreFor", "(LClipBureau$Ledger;II)I"⟩, 5), (⟨"ClipBureau", "isFit", "(LClipBureau$Ledger;III)Z"⟩, 5), (⟨"ClipBureau", "priceFor", "(LClipBureau$Ledger;II)I"⟩, 5), (⟨"ClipBureau", "playRounds", "(LClipBureau$Ledger;I)V"⟩, 5), (⟨"ClipBureau", "sendTo", "(LClipBureau$Ledger;I)I"⟩, 5), (⟨"ClipBureau", "tellOfAll", "(I)I"⟩, 5), (⟨"ClipBureau", "mixArticle", "(JI)J"⟩, 5), (⟨"ClipBureau", "tellOfArticle", "(II)I"⟩, 5), (⟨"ClipBureau", "mixClient", "(JI)J"⟩, 5), (⟨"ClipBureau", "tellOfClient", "(II)I"⟩, 5), (⟨"ClipBureau", "fitArticles", "(I)I"⟩, 5), (⟨"java/lang/Throwable", "fillInStackTrace", "(I)Ljava/lang/Throwable;"⟩, 6), (⟨"ClipBureau$Press", "recountArticle", "(I)V"⟩, 6), (⟨"ClipBureau$Press", "stemOfWord", "(I)I"⟩, 6)]
theorem lw_r1 : ∀ q ∈ lw_privs_1, lw_okq q := List.forall_mem_cons.mpr ⟨lw_p0, List.forall_mem_cons.mpr ⟨lw_p1, List.forall_mem_cons.mpr ⟨lw_p2, List.forall_mem_cons.mpr ⟨lw_p3, List.forall_mem_cons.mpr ⟨lw_p4, List.forall_mem_cons.mpr ⟨lw_p5, List.forall_mem_cons.mpr ⟨lw_p6, List.forall_mem_cons.mpr ⟨lw_p7, List.forall_mem_cons.mpr ⟨lw_p8, List.forall_mem_cons.mpr ⟨lw_p9, List.forall_mem_cons.mpr ⟨lw_p10, List.forall_mem_cons.mpr ⟨lw_p11, List.forall_mem_cons.mpr ⟨lw_p12, List.forall_mem_cons.mpr ⟨lw_p13, List.forall_mem_cons.mpr ⟨lw_p14, List.forall_mem_cons.mpr ⟨lw_p15, fun _ h => absurd h List.not_mem_nil⟩⟩⟩⟩⟩⟩⟩⟩⟩⟩⟩⟩⟩⟩⟩⟩
theorem lw_p16 : lw_okq (⟨"ClipBureau", "checkArticle", "(I)V"⟩, 5) := ⟨⟨by decide +kernel, by decide +kernel⟩, List.mem_of_getElem? (i := 17) (by decide +kernel), List.mem_of_getElem? (i := 391) (by decide +kernel), List.mem_of_getElem? (i := 392) (by decide +kernel)⟩
theorem lw_p17 : lw_okq (⟨"ClipBureau", "checkClient", "(I)V"⟩, 5) := ⟨⟨by decide +kernel, by decide +kernel⟩, List.mem_of_getElem? (i := 17) (by decide +kernel), List.mem_of_getElem? (i := 443) (by decide +kernel), List.mem_of_getElem? (i := 444) (by decide +kernel)⟩
theorem lw_p18 : lw_okq (⟨"ClipBureau", "fitArticleAt", "(II)I"⟩, 5) := ⟨⟨by decide +kernel, by decide +kernel⟩, List.mem_of_getElem? (i := 17) (by decide +kernel), List.mem_of_getElem? (i := 558) (by decide +kernel), List.mem_of_getElem? (i := 559) (by decide +kernel)⟩
theorem lw_p19 : lw_okq (⟨"ClipBureau", "fitArticlesAhead", "(III)I"⟩, 5) := ⟨⟨by decide +kernel, by decide +kernel⟩, List.mem_of_getElem? (i := 17) (by decide +kernel), List.mem_of_getElem? (i := 562) (by decide +kernel), List.mem_of_getElem? (i := 563) (by decide +kernel)⟩
theorem lw_p20 : lw_okq (⟨"ClipBureau", "topScoreWith", "(II)I"⟩, 5) := ⟨⟨by decide +kernel, by decide +kernel⟩, List.mem_of_getElem? (i := 17) (by decide +kernel), List.mem_of_getElem? (i := 584) (by decide +kernel), List.mem_of_getElem? (i := 585) (by decide +kernel)⟩
theorem lw_p21 : lw_okq (⟨"ClipBureauModel", "fail", "(I)I"⟩, 7) := ⟨⟨by decide +kernel, by decide +kernel⟩, List.mem_of_getElem? (i := 597) (by decide +kernel), List.mem_of_getElem? (i := 642) (by decide +kernel), List.mem_of_getElem? (i := 643) (by decide +kernel)⟩
theorem lw_p22 : lw_okq (⟨"ClipBureauModel", "isArticle", "(I)Z"⟩, 7) := ⟨⟨by decide +kernel, by decide +kernel⟩, List.mem_of_getElem? (i := 597) (by decide +kernel), List.mem_of_getElem? (i := 654) (by decide +kernel), List.mem_of_getElem? (i := 655) (by decide +kernel)⟩
theorem lw_p23 : lw_okq (⟨"ClipBureauModel", "ar", "(II)I"⟩, 7) := ⟨⟨by decide +kernel, by decide +kernel⟩, List.mem_of_getElem? (i := 597) (by decide +kernel), List.mem_of_getElem? (i := 658) (by decide +kernel), List.mem_of_getElem? (i := 659) (by decide +kernel)⟩
theorem lw_p24 : lw_okq (⟨"ClipBureauModel", "put", "(III)V"⟩, 7) := ⟨⟨by decide +kernel, by decide +kernel⟩, List.mem_of_getElem? (i := 597) (by decide +kernel), List.mem_of_getElem? (i := 671) (by decide +kernel), List.mem_of_getElem? (i := 672) (by decide +kernel)⟩
theorem lw_p25 : lw_okq (⟨"ClipBureauModel", "isClient", "(I)Z"⟩, 7) := ⟨⟨by decide +kernel, by decide +kernel⟩, List.mem_of_getElem? (i := 597) (by decide +kernel), List.mem_of_getElem? (i := 679) (by decide +kernel), List.mem_of_getElem? (i := 680) (by decide +kernel)⟩
theorem lw_p26 : lw_okq (⟨"ClipBureauModel", "cl", "(II)I"⟩, 7) := ⟨⟨by decide +kernel, by decide +kernel⟩, List.mem_of_getElem? (i := 597) (by decide +kernel), List.mem_of_getElem? (i := 683) (by decide +kernel), List.mem_of_getElem? (i := 684) (by decide +kernel)⟩
theorem lw_p27 : lw_okq (⟨"ClipBureauModel", "wish", "(II)I"⟩, 7) := ⟨⟨by decide +kernel, by decide +kernel⟩, List.mem_of_getElem? (i := 597) (by decide +kernel), List.mem_of_getElem? (i := 687) (by decide +kernel), List.mem_of_getElem? (i := 688) (by decide +kernel)⟩
theorem lw_p28 : lw_okq (⟨"ClipBureauModel", "sendTo", "(I)I"⟩, 7) := ⟨⟨by decide +kernel, by decide +kernel⟩, List.mem_of_getElem? (i := 597) (by decide +kernel), List.mem_of_getElem? (i := 708) (by decide +kernel), List.mem_of_getElem? (i := 709) (by decide +kernel)⟩
theorem lw_p29 : lw_okq (⟨"ClipBureauModel", "fitAt", "(II)I"⟩, 7) := ⟨⟨by decide +kernel, by decide +kernel⟩, List.mem_of_getElem? (i := 597) (by decide +kernel), List.mem_of_getElem? (i := 712) (by decide +kernel), List.mem_of_getElem? (i := 713) (by decide +kernel)⟩
theorem lw_p30 : lw_okq (⟨"ClipBureauModel", "isFit", "(II)Z"⟩, 7) := ⟨⟨by decide +kernel, by decide +kernel⟩, List.mem_of_getElem? (i := 597) (by decide +kernel), List.mem_of_getElem? (i := 716) (by decide +kernel), List.mem_of_getElem? (i := 717) (by decide +kernel)⟩
theorem lw_p31 : lw_okq (⟨"ClipBureauModel", "scored", "(II)I"⟩, 7) := ⟨⟨by decide +kernel, by decide +kernel⟩, List.mem_of_getElem? (i := 597) (by decide +kernel), List.mem_of_getElem? (i := 720) (by decide +kernel), List.mem_of_getElem? (i := 721) (by decide +kernel)⟩
def lw_privs_2 : List (MethodName × Nat) := [(⟨"ClipBureau", "checkArticle", "(I)V"⟩, 5), (⟨"ClipBureau", "checkClient", "(I)V"⟩, 5), (⟨"ClipBureau", "fitArticleAt", "(II)I"⟩, 5), (⟨"ClipBureau", "fitArticlesAhead", "(III)I"⟩, 5), (⟨"ClipBureau", "topScoreWith", "(II)I"⟩, 5), (⟨"ClipBureauModel", "fail", "(I)I"⟩, 7), (⟨"ClipBureauModel", "isArticle", "(I)Z"⟩, 7), (⟨"ClipBureauModel", "ar", "(II)I"⟩, 7), (⟨"ClipBureauModel", "put", "(III)V"⟩, 7), (⟨"ClipBureauModel", "isClient", "(I)Z"⟩, 7), (⟨"ClipBureauModel", "cl", "(II)I"⟩, 7), (⟨"ClipBureauModel", "wish", "(II)I"⟩, 7), (⟨"ClipBureauModel", "sendTo", "(I)I"⟩, 7), (⟨"ClipBureauModel", "fitAt", "(II)I"⟩, 7), (⟨"ClipBureauModel", "isFit", "(II)Z"⟩, 7), (⟨"ClipBureauModel", "scored", "(II)I"⟩, 7)]
theorem lw_r2 : ∀ q ∈ lw_privs_2, lw_okq q := List.forall_mem_cons.mpr ⟨lw_p16, List.forall_mem_cons.mpr ⟨lw_p17, List.forall_mem_cons.mpr ⟨lw_p18, List.forall_mem_cons.mpr ⟨lw_p19, List.forall_mem_cons.mpr ⟨lw_p20, List.forall_mem_cons.mpr ⟨lw_p21, List.forall_mem_cons.mpr ⟨lw_p22, List.forall_mem_cons.mpr ⟨lw_p23, List.forall_mem_cons.mpr ⟨lw_p24, List.forall_mem_cons.mpr ⟨lw_p25, List.forall_mem_cons.mpr ⟨lw_p26, List.forall_mem_cons.mpr ⟨lw_p27, List.forall_mem_cons.mpr ⟨lw_p28, List.forall_mem_cons.mpr ⟨lw_p29, List.forall_mem_cons.mpr ⟨lw_p30, List.forall_mem_cons.mpr ⟨lw_p31, fun _ h => absurd h List.not_mem_nil⟩⟩⟩⟩⟩⟩⟩⟩⟩⟩⟩⟩⟩⟩⟩⟩
theorem lw_p32 : lw_okq (⟨"ClipBureauModel", "times", "(II)I"⟩, 7) := ⟨⟨by decide +kernel, by decide +kernel⟩, List.mem_of_getElem? (i := 597) (by decide +kernel), List.mem_of_getElem? (i := 724) (by decide +kernel), List.mem_of_getElem? (i := 725) (by decide +kernel)⟩
theorem lw_p33 : lw_okq (⟨"ClipBureauModel", "rare", "(I)I"⟩, 7) := ⟨⟨by decide +kernel, by decide +kernel⟩, List.mem_of_getElem? (i := 597) (by decide +kernel), List.mem_of_getElem? (i := 728) (by decide +kernel), List.mem_of_getElem? (i := 729) (by decide +kernel)⟩
theorem lw_p34 : lw_okq (⟨"ClipBureauModel", "price", "(II)I"⟩, 7) := ⟨⟨by decide +kernel, by decide +kernel⟩, List.mem_of_getElem? (i := 597) (by decide +kernel), List.mem_of_getElem? (i := 733) (by decide +kernel), List.mem_of_getElem? (i := 734) (by decide +kernel)⟩
theorem lw_p35 : lw_okq (⟨"ClipBureauModel", "roundsOn", "(I)I"⟩, 7) := ⟨⟨by decide +kernel, by decide +kernel⟩, List.mem_of_getElem? (i := 597) (by decide +kernel), List.mem_of_getElem? (i := 741) (by decide +kernel), List.mem_of_getElem? (i := 742) (by decide +kernel)⟩
theorem lw_p36 : lw_okq (⟨"ClipBureauModel", "roundOn", "()I"⟩, 7) := ⟨⟨by decide +kernel, by decide +kernel⟩, List.mem_of_getElem? (i := 597) (by decide +kernel), List.mem_of_getElem? (i := 745) (by decide +kernel), List.mem_of_getElem? (i := 746) (by decide +kernel)⟩
theorem lw_p37 : lw_okq (⟨"ClipBureauModel", "articleTold", "(II)I"⟩, 7) := ⟨⟨by decide +kernel, by decide +kernel⟩, List.mem_of_getElem? (i := 597) (by decide +kernel), List.mem_of_getElem? (i := 753) (by decide +kernel), List.mem_of_getElem? (i := 754) (by decide +kernel)⟩
theorem lw_p38 : lw_okq (⟨"ClipBureauModel", "stemsOf", "(I)I"⟩, 7) := ⟨⟨by decide +kernel, by decide +kernel⟩, List.mem_of_getElem? (i := 597) (by decide +kernel), List.mem_of_getElem? (i := 757) (by decide +kernel), List.mem_of_getElem? (i := 758) (by decide +kernel)⟩
theorem lw_p39 : lw_okq (⟨"ClipBureauModel", "sentTo", "(I)I"⟩, 7) := ⟨⟨by decide +kernel, by decide +kernel⟩, List.mem_of_getElem? (i := 597) (by decide +kernel), List.mem_of_getElem? (i := 761) (by decide +kernel), List.mem_of_getElem? (i := 762) (by decide +kernel)⟩
theorem lw_p40 : lw_okq (⟨"ClipBureauModel", "clientTold", "(II)I"⟩, 7) := ⟨⟨by decide +kernel, by decide +kernel⟩, List.mem_of_getElem? (i := 597) (by decide +kernel), List.mem_of_getElem? (i := 773) (by decide +kernel), List.mem_of_getElem? (i := 774) (by decide +kernel)⟩
theorem lw_p41 : lw_okq (⟨"ClipBureauModel", "sent", "(I)I"⟩, 7) := ⟨⟨by decide +kernel, by decide +kernel⟩, List.mem_of_getElem? (i := 597) (by decide +kernel), List.mem_of_getElem? (i := 777) (by decide +kernel), List.mem_of_getElem? (i := 778) (by decide +kernel)⟩
theorem lw_p42 : lw_okq (⟨"ClipBureauModel", "fits", "(I)I"⟩, 7) := ⟨⟨by decide +kernel, by decide +kernel⟩, List.mem_of_getElem? (i := 597) (by decide +kernel), List.mem_of_getElem? (i := 781) (by decide +kernel), List.mem_of_getElem? (i := 782) (by decide +kernel)⟩
theorem lw_p43 : lw_okq (⟨"ClipBureauModel", "counted", "(I)I"⟩, 7) := ⟨⟨by decide +kernel, by decide +kernel⟩, List.mem_of_getElem? (i := 597) (by decide +kernel), List.mem_of_getElem? (i := 793) (by decide +kernel), List.mem_of_getElem? (i := 794) (by decide +kernel)⟩
theorem lw_p44 : lw_okq (⟨"ClipBureauModel", "bringBack", "([I[II)V"⟩, 7) := ⟨⟨by decide +kernel, by decide +kernel⟩, List.mem_of_getElem? (i := 597) (by decide +kernel), List.mem_of_getElem? (i := 828) (by decide +kernel), List.mem_of_getElem? (i := 829) (by decide +kernel)⟩
theorem lw_p45 : lw_okq (⟨"ClipBureauModel", "isShort", "()Z"⟩, 7) := ⟨⟨by decide +kernel, by decide +kernel⟩, List.mem_of_getElem? (i := 597) (by decide +kernel), List.mem_of_getElem? (i := 836) (by decide +kernel), List.mem_of_getElem? (i := 837) (by decide +kernel)⟩
def lw_privs_3 : List (MethodName × Nat) := [(⟨"ClipBureauModel", "times", "(II)I"⟩, 7), (⟨"ClipBureauModel", "rare", "(I)I"⟩, 7), (⟨"ClipBureauModel", "price", "(II)I"⟩, 7), (⟨"ClipBureauModel", "roundsOn", "(I)I"⟩, 7), (⟨"ClipBureauModel", "roundOn", "()I"⟩, 7), (⟨"ClipBureauModel", "articleTold", "(II)I"⟩, 7), (⟨"ClipBureauModel", "stemsOf", "(I)I"⟩, 7), (⟨"ClipBureauModel", "sentTo", "(I)I"⟩, 7), (⟨"ClipBureauModel", "clientTold", "(II)I"⟩, 7), (⟨"ClipBureauModel", "sent", "(I)I"⟩, 7), (⟨"ClipBureauModel", "fits", "(I)I"⟩, 7), (⟨"ClipBureauModel", "counted", "(I)I"⟩, 7), (⟨"ClipBureauModel", "bringBack", "([I[II)V"⟩, 7), (⟨"ClipBureauModel", "isShort", "()Z"⟩, 7)]
theorem lw_r3 : ∀ q ∈ lw_privs_3, lw_okq q := List.forall_mem_cons.mpr ⟨lw_p32, List.forall_mem_cons.mpr ⟨lw_p33, List.forall_mem_cons.mpr ⟨lw_p34, List.forall_mem_cons.mpr ⟨lw_p35, List.forall_mem_cons.mpr ⟨lw_p36, List.forall_mem_cons.mpr ⟨lw_p37, List.forall_mem_cons.mpr ⟨lw_p38, List.forall_mem_cons.mpr ⟨lw_p39, List.forall_mem_cons.mpr ⟨lw_p40, List.forall_mem_cons.mpr ⟨lw_p41, List.forall_mem_cons.mpr ⟨lw_p42, List.forall_mem_cons.mpr ⟨lw_p43, List.forall_mem_cons.mpr ⟨lw_p44, List.forall_mem_cons.mpr ⟨lw_p45, fun _ h => absurd h List.not_mem_nil⟩⟩⟩⟩⟩⟩⟩⟩⟩⟩⟩⟩⟩⟩
def lw_privs : List (MethodName × Nat) := lw_privs_1 ++ (lw_privs_2 ++ (lw_privs_3))
def lw_tbl : List Cond := k2_sels lw_privs ++ tables_1
theorem lw_privs_ok : ∀ q ∈ lw_privs, lw_okq q := by
  show ∀ q ∈ lw_privs_1 ++ (lw_privs_2 ++ (lw_privs_3)), lw_okq q
  exact List.forall_mem_append.mpr ⟨lw_r1, List.forall_mem_append.mpr ⟨lw_r2, lw_r3⟩⟩
/-- the streams that the claim lets the run draw from -/
abbrev lw_cs : List Choice := [Jvm.Choice.named "NaN.bits"]
theorem lw_bits : nanBits ∈ lw_cs := by first | decide | exact List.mem_cons_self | simp [lw_cs, nanBits]
/-! ===== BEGIN words of one list among another's, by their places ===== -/
theorem goodIn_r {big : List Cond} (ws : List Cond) (ps : List Nat) (hp : ws = ps.filterMap (fun i => big[i]?)) (h : ws.all goodWord = true) : GoodIn big ws := by
  intro w hw
  have h1 := List.all_eq_true.mp h w hw
  rw [hp] at hw
  obtain ⟨i, -, hi⟩ := List.mem_filterMap.mp hw
  have hm : w ∈ big := by first | exact List.mem_of_getElem? hi | exact List.getElem?_mem hi
  exact ⟨hm, good_of_word h1⟩
theorem goodIn_app {big a b : List Cond} (ha : GoodIn big a) (hb : GoodIn big b) : GoodIn big (a ++ b) := fun w h => (List.mem_append.mp h).elim (ha w) (hb w)
theorem goodIn_ca {big a b : List Cond} {c : Cond} (ha : GoodIn big (c :: a)) (hb : GoodIn big b) : GoodIn big (c :: (a ++ b)) := fun w h => (List.mem_cons.mp h).elim (fun e => ha w (List.mem_cons.mpr (Or.inl e))) (fun h => (List.mem_append.mp h).elim (fun h => ha w (List.mem_cons.mpr (Or.inr h))) (hb w))
theorem goodIn_sub {big ws : List Cond} (hm : ∀ w ∈ ws, w ∈ big) (h : ws.all goodWord = true) : GoodIn big ws := fun w hw => ⟨hm w hw, good_of_word (List.all_eq_true.mp h w hw)⟩
/-! ===== END ===== -/

def va_AOA (ty : FieldType) (U : State) : Prop := (Cond.arrayOver (.array ty)).before #[] U = true
theorem va_AOA.use {ty : FieldType} {A : Array Value} {U : State} (h : va_AOA ty U) : (Cond.arrayOver (.array ty)).before A U = true := h
/-! ===== BEGIN new T[n][m]: the outer array a place, the inner ones among the pooled ===== -/
/-- f, but v at every address of l -/
def vr_up {α : Type} (f : Nat → α) (l : List Nat) (v : α) : Nat → α := fun a => if a ∈ l then v else f a
theorem vr_up_in {α : Type} {f : Nat → α} {l : List Nat} {v : α} {a : Nat} (h : a ∈ l) : vr_up f l v a = v := if_pos h
theorem vr_up_ne {α : Type} {f : Nat → α} {l : List Nat} {v : α} {a : Nat} (h : a ∉ l) : vr_up f l v a = f a := if_neg h
theorem vr_rows {L l : List Nat} {f : Nat → va_E} {e : va_E} (h : ∀ a, a ∈ l → a ∉ L) : va_pl L f ++ l.map (fun a => (a, e)) = va_pl (L ++ l) (vr_up f l e) := by
  unfold va_pl
  rw [List.map_append]
  congr 1
  · apply List.map_congr_left
    intro a ha
    rw [vr_up_ne (fun q => h a q ha)]
  · apply List.map_congr_left
    intro a ha
    rw [vr_up_in ha]
theorem vr_lay {X rows : va_W} {x : Nat × va_E} {pl : va_W} {D : va_G} {cl : List vw_C} {H : Heap} (hP : va_P D cl (((X ++ pl) ++ [x]) ++ rows) H) : va_P D cl ((X ++ [x]) ++ (pl ++ rows)) H := by
  rw [List.append_assoc (X ++ pl)] at hP
  have h := va_P.swap hP
  rw [← List.append_assoc X] at h
  have h2 := va_P.swap h
  rw [List.append_assoc (X ++ [x])] at h2
  exact h2
theorem vr_layD {X rows : va_W} {x : Nat × va_E} {pl : va_W} {A : Nat → Prop} (hD : va_D A (((X ++ pl) ++ [x]) ++ rows)) : va_D A ((X ++ [x]) ++ (pl ++ rows)) := by
  rw [List.append_assoc (X ++ pl)] at hD
  have h := va_D.swap hD
  rw [← List.append_assoc X] at h
  have h2 := va_D.swap h
  rw [List.append_assoc (X ++ [x])] at h2
  exact h2
theorem vr_outer (c : ClassId) (N h0 : Nat) : ∀ i : Nat, Jvm.Free.Multi.outerC c N h0 i = arrV c N (fun j => va_rf (if j < i then some (h0 + 1 + j) else none))
  | 0 => by
    show ({ cls := c, slots := Array.replicate N .null, vm := .none } : Cell) = _
    rw [arrV_new]
    refine congrArg (arrV c N) (funext fun j => ?_)
    simp [va_rf]
  | i + 1 => by
    show (Jvm.Free.Multi.outerC c N h0 i).setSlot i (.ref (h0 + 1 + i)) = _
    rw [vr_outer c N h0 i, arrV_store]
    refine congrArg (arrV c N) (funext fun j => ?_)
    by_cases e : j = i
    · subst e
      simp [updV, va_rf]
    · by_cases h : j < i
      · simp [updV, e, h, Nat.lt_succ_of_lt h]
      · simp [updV, e, h, show ¬ j < i + 1 by omega]
section VGM
variable {p : Program} {l : Launch} {e : Env} {R : Room} {s : State} {m : MethodId} {args : Array Value} {below : List Frame} {meth : Method} {c : Code} {H : Heap} {locs : List Loc} {cells slots : Nat} {Q : State → Prop}
variable {cc : ByteArray} {pc : Nat} {ls : Array Slot} {rest : List Value} {D : va_G} {cl : List vw_C} {A : Nat → Prop} {a : Nat} {tys : List (ClassId × FieldType)} {ws : va_W} {H0 : Heap}
theorem va_mna {X : va_W} {L : List Nat} {f : Nat → va_E} {cc : ByteArray} (hexec : p.tables.exec = Jvm.exec) (hb : c.code = cc) {own : String} {index : Nat} {ty : FieldType} {cy : ClassId} (hown : s.vm.findClass own = some m.cls) (hclink : (Cond.classLink own index ("[" ++ (FieldType.array ty).toString)).before args s = true) (hover : va_AOA ty s) (harr : (Cond.arrayClass ty).before args s = true) (hcy : s.vm.findClass (FieldType.array ty).toString = some cy)
    (hK : va_K D cl tys s) (hP : va_P D cl (X ++ va_pl L f) H) (hD : va_D A (X ++ va_pl L f)) (hS : va_S A H0 H locs) (hA : ∀ q, H0.size ≤ q → A q) {n k : Int32} {N' K' : Nat} {z : vp_A} (hn : ¬ n < 0) (hk : ¬ k < 0) (hN : n.toNatClampNeg = N') (hM : k.toNatClampNeg = K')
    (hb1 : N' * 4 ≤ 536870912) (hb2 : K' * componentBytes ty ≤ 536870912) (hb3 : K' ≤ 536870912) (hdf : fits ty (defaultValue ty) = true) (hdd : (defaultValue ty).isDefault = true) (hcells : cells + (1 + N') ≤ R.cells) (hslots : slots + (N' + N' * K') ≤ R.slots) (hz : ∀ c : ClassId, Jvm.Free.Multi.innerC c K' (defaultValue ty) = vp_cell c z) (hdg : decode cc pc = .ok (.multianewarray index 2, 4))
    (kk : ∀ (q : Nat) (r : Nat → Nat) (cA : ClassId) (H1 : Heap), (∀ i j : Nat, i < N' → j < N' → r i = r j → i = j) → (∀ i : Nat, i < N' → r i ∉ L) → va_K D cl (tys ++ [(cA, .array ty)]) s →
      va_P D cl ((X ++ [(q, .inl (cA, N', .inr (.inr (.inr (.inr (fun i => if i < N' then some (r i) else none))))))]) ++ va_pl (L ++ (List.range N').map r) (vr_up f ((List.range N').map r) (.inl (cy, z)))) H1 → va_D A ((X ++ [(q, .inl (cA, N', .inr (.inr (.inr (.inr (fun i => if i < N' then some (r i) else none))))))]) ++ va_pl (L ++ (List.range N').map r) (vr_up f ((List.range N').map r) (.inl (cy, z)))) → va_S A H0 H1 locs →
      W p l e R s m args below meth c H1 locs (cells + 1 + N') (slots + N' + N' * K') Q (F0 m (pc + 4) ls (.ref q :: rest))) : W p l e R s m args below meth c H locs cells slots Q (F0 m pc ls (.int k :: .int n :: rest)) := by
  subst hN
  subst hM
  intro T hT Xs
  obtain ⟨vm₁, cA, comp, -, fA, fC, hO, -, X', step⟩ := Xs.multianewarray2F hexec hown hclink (va_AOA.use hover) harr (g := F0 m pc ls (.int k :: .int n :: rest)) rfl (by rw [hb]; exact hdg) rfl hn hk hb1 hb2 hb3 hdf hdd hcells hslots
  have ec : some cy = some comp := hcy.symm.trans fC
  cases ec
  generalize hF : Jvm.Free.Multi.fill (T.setVm vm₁) cA cy n.toNatClampNeg k.toNatClampNeg (defaultValue ty) n.toNatClampNeg = F at X' step
  have hTh : (T.setVm vm₁).heap = H := hT
  obtain ⟨f1, f2, -, -⟩ := Jvm.Free.Multi.fill_facts (T.setVm vm₁) cA cy n.toNatClampNeg k.toNatClampNeg (defaultValue ty) n.toNatClampNeg
  rw [hF, hTh] at f1 f2
  have hold : ∀ x : Nat, x < H.size → F.heap[x]? = H[x]? := fun x hx => by
    have := Jvm.Free.Multi.fill_old (T.setVm vm₁) cA cy n.toNatClampNeg k.toNatClampNeg (defaultValue ty) (a := x) (by rw [hTh]; exact hx) n.toNatClampNeg
    rw [hF, hTh] at this
    exact this
  have hrow : ∀ j : Nat, j < n.toNatClampNeg → F.heap[H.size + 1 + j]? = some (vp_cell cy z) := fun j hj => by
    have := Jvm.Free.Multi.fill_inner (T.setVm vm₁) cA cy n.toNatClampNeg k.toNatClampNeg (defaultValue ty) n.toNatClampNeg j hj
    rw [hF, hTh, hz] at this
    exact this
  have hout : Jvm.Free.Multi.outerC cA n.toNatClampNeg H.size n.toNatClampNeg = vp_cell cA (n.toNatClampNeg, .inr (.inr (.inr (.inr (fun i => if i < n.toNatClampNeg then some (H.size + 1 + i) else none))))) := by
    rw [vp_cell_q]
    exact vr_outer cA n.toNatClampNeg H.size n.toNatClampNeg
  rw [hout] at f2
  have hlt : ∀ a, a ∈ L → a < H.size := fun a ha => by
    obtain ⟨k9, hk9⟩ := va_pl_get (X := X) (f := f) ha
    exact (hP k9 _ hk9).lt
  have hnl : ∀ i : Nat, i < n.toNatClampNeg → H.size + 1 + i ∉ L := fun i _ h => by
    have := hlt _ h
    omega
  have hnm : ∀ a, a ∈ (List.range n.toNatClampNeg).map (fun i => H.size + 1 + i) → a ∉ L := fun a ha h => by
    obtain ⟨i, -, rfl⟩ := List.mem_map.mp ha
    have := hlt _ h
    omega
  have hP0 : va_P D cl (X ++ va_pl L f) F.heap := hP.kept (fun k9 x hx => hold x.1 ((hP k9 x hx).lt))
  have hP1 : va_P D cl ((X ++ va_pl L f) ++ [(H.size, .inl (cA, n.toNatClampNeg, .inr (.inr (.inr (.inr (fun i => if i < n.toNatClampNeg then some (H.size + 1 + i) else none))))))]) F.heap := hP0.app (fun k9 x hx => by
    have h0 : k9 < 1 := (List.getElem?_eq_some_iff.mp hx).1
    rw [show k9 = 0 by omega] at hx
    cases hx
    exact f2)
  have hP2 : va_P D cl (((X ++ va_pl L f) ++ [(H.size, .inl (cA, n.toNatClampNeg, .inr (.inr (.inr (.inr (fun i => if i < n.toNatClampNeg then some (H.size + 1 + i) else none))))))]) ++ ((List.range n.toNatClampNeg).map (fun i => H.size + 1 + i)).map (fun a => (a, .inl (cy, z)))) F.heap := hP1.app (fun k9 x hx => by
    obtain ⟨a, ha, rfl⟩ := List.mem_map.mp (List.mem_of_getElem? hx)
    obtain ⟨i, hi, rfl⟩ := List.mem_map.mp ha
    exact hrow i (List.mem_range.mp hi))
  have hD2 : va_D A (((X ++ va_pl L f) ++ [(H.size, .inl (cA, n.toNatClampNeg, .inr (.inr (.inr (.inr (fun i => if i < n.toNatClampNeg then some (H.size + 1 + i) else none))))))]) ++ ((List.range n.toNatClampNeg).map (fun i => H.size + 1 + i)).map (fun a => (a, .inl (cy, z)))) := by
    have hD1 := hD.push (e := .inl (cA, n.toNatClampNeg, .inr (.inr (.inr (.inr (fun i => if i < n.toNatClampNeg then some (H.size + 1 + i) else none)))))) hP rfl (hA _ hS.1)
    generalize hW1 : (X ++ va_pl L f) ++ [(H.size, .inl (cA, n.toNatClampNeg, .inr (.inr (.inr (.inr (fun i => if i < n.toNatClampNeg then some (H.size + 1 + i) else none))))))] = W1 at hD1 hP1 ⊢
    have hle : ∀ (k9 : Nat) (x : Nat × va_E), W1[k9]? = some x → x.1 ≤ H.size := fun k9 x hx => by
      rw [← hW1] at hx
      by_cases hl : k9 < (X ++ va_pl L f).length
      · rw [List.getElem?_append_left hl] at hx
        exact Nat.le_of_lt ((hP k9 x hx).lt)
      · rw [List.getElem?_append_right (by omega)] at hx
        have h0 : k9 - (X ++ va_pl L f).length < 1 := (List.getElem?_eq_some_iff.mp hx).1
        rw [show k9 - (X ++ va_pl L f).length = 0 by omega] at hx
        cases hx
        exact Nat.le_refl _
    have hr : ∀ (k9 : Nat) (x : Nat × va_E), (((List.range n.toNatClampNeg).map (fun i => H.size + 1 + i)).map (fun a => ((a, .inl (cy, z)) : Nat × va_E)))[k9]? = some x → x.1 = H.size + 1 + k9 := fun k9 x hx => by
      rw [List.getElem?_map, List.getElem?_map] at hx
      by_cases h9 : k9 < n.toNatClampNeg
      · rw [List.getElem?_range h9] at hx
        cases hx
        rfl
      · have hn0 : (List.range n.toNatClampNeg)[k9]? = none := List.getElem?_eq_none (by rw [List.length_range]; omega)
        rw [hn0] at hx
        cases hx
    refine ⟨fun i j x y hi hj hxy => ?_, fun k9 x hx => ?_⟩
    · by_cases h1 : i < W1.length <;> by_cases h2 : j < W1.length
      · rw [List.getElem?_append_left h1] at hi
        rw [List.getElem?_append_left h2] at hj
        exact hD1.1 i j x y hi hj hxy
      · rw [List.getElem?_append_left h1] at hi
        rw [List.getElem?_append_right (by omega)] at hj
        have := hle _ _ hi
        have := hr _ _ hj
        omega
      · rw [List.getElem?_append_right (by omega)] at hi
        rw [List.getElem?_append_left h2] at hj
        have := hle _ _ hj
        have := hr _ _ hi
        omega
      · rw [List.getElem?_append_right (by omega)] at hi hj
        have := hr _ _ hi
        have := hr _ _ hj
        omega
    · by_cases h1 : k9 < W1.length
      · rw [List.getElem?_append_left h1] at hx
        exact hD1.2 k9 x hx
      · rw [List.getElem?_append_right (by omega)] at hx
        have := hr _ _ hx
        exact hA _ (by have := hS.1; omega)
  have hAr : ArrOfT s cA (.array ty) := fun N9 z9 => by
    obtain ⟨-, k9, hk9, cm9, hkk9⟩ := (hO 0 0 0).1
    exact ⟨(fun q hq => by cases hq), k9, hk9, cm9, hkk9⟩
  have hK2 : va_K D cl (tys ++ [(cA, .array ty)]) s := ⟨hK.1, fun k9 x hx => by
    by_cases hl : k9 < tys.length
    · rw [List.getElem?_append_left hl] at hx
      exact hK.2 k9 x hx
    · rw [List.getElem?_append_right (by omega)] at hx
      have h0 : k9 - tys.length < 1 := (List.getElem?_eq_some_iff.mp hx).1
      rw [show k9 - tys.length = 0 by omega] at hx
      cases hx
      exact ⟨hAr, fA⟩⟩
  obtain ⟨t, a1, b1⟩ := kk H.size (fun i => H.size + 1 + i) cA F.heap (fun i j _ _ h => by have h9 : H.size + 1 + i = H.size + 1 + j := h; omega) hnl hK2 (by rw [← vr_rows hnm]; exact vr_lay hP2) (by rw [← vr_rows hnm]; exact vr_layD hD2) ⟨by rw [f1]; have := hS.1; omega, fun x h1 h2 => (hold x (Nat.lt_of_lt_of_le h1 hS.1)).trans (hS.2.1 x h1 h2), hS.2.2⟩ F rfl X'
  refine ⟨t, step t ?_, b1⟩
  have e : T.heap.size = H.size := by rw [hT]
  rw [e]
  exact a1
end VGM
/-! ===== END ===== -/

/-! ===== BEGIN exceptions that leave a method, and their catching by the caller (launches without stack traces) ===== -/
section VXA
/-! The laws vx_back, vx_callV, vx_callS, vx_callSW, vx_throw0, vx_throwS follow proofs of the library, with one case more: JvmDerived/Free/Laws.lean (Back.of_free), Shelf42/LK1.lean (callV, callS), Shelf/KitTraced.lean (throwNew0V, throwNewS). -/
/-- where a method has thrown q: the class by its name, the cell, what was written, the world -/
def vx_T (XC : String → State → State → Prop) (st : State) (q : Addr) (t : State) (mc ms : Nat) (free : Addr → Prop) : Prop :=
  ∃ (E : String) (ce : Cell) (L : List Loc), XC E st t ∧ t.heap[q]? = some ce ∧ ce.vm = .none ∧ st.vm.findClass E = some ce.cls ∧ st.WarmedH t.vm ∧ st.sameButNew ({ t with vm := st.vm } : State) L mc ms ∧ ∀ z ∈ L, free z.base
def vx_Q (Qc : Array Value → State → Outcome → State → Prop) (XC : String → State → State → Prop) (mc ms : Nat) (free : Addr → Prop) : Array Value → State → Outcome → State → Prop := fun a st o t =>
  (Qc a st o t ∧ ∃ L, FrameEnd st o t L mc ms ∧ ∀ q ∈ L, free q.base) ∨ ∃ q, o = .threw q ∧ vx_T XC st q t mc ms free
/-- a callee that returns or throws -/
def vx_Met (l : Launch) (y : MethodName) (ws : List Cond) (rm : Room) (Pc : Array Value → State → Prop) (Qc : Array Value → State → Outcome → State → Prop) (XC : String → State → State → Prop) (mc ms : Nat) (free : Addr → Prop) : Prop :=
  MetFree l y (headSpec ws rm) Pc (fun _ _ _ _ _ => True) (vx_Q Qc XC mc ms free)
def vx_Post (XC : String → State → State → Prop) (mc ms : Nat) (free : Addr → Prop) : Pt → Array Value → Addr → Pt → Prop := fun A a q B =>
  ∃ (g : JFrame) (mk : MethodId) (t : State) (L : List Loc) (E : String) (ce : Cell), B.U.heap = t.heap ∧ B.U.vm = t.vm ∧ XC E (A.U.calling g mk a) t ∧ t.heap[q]? = some ce ∧ ce.vm = .none ∧ A.U.vm.findClass E = some ce.cls ∧ B.locs = A.locs ++ L ∧ (∀ z ∈ L, free z.base) ∧ B.cells = A.cells + mc ∧ B.slots = A.slots + ms
def vx_Back (l : Launch) (R : Room) (p : Program) (e : Env) (below : List Frame) (s : State) (sargs : Array Value) (y : MethodName) (len W9 : Nat)
    (Pre : Pt → Array Value → Prop) (Post : Pt → Array Value → Option Value → Pt → Prop) (PostX : Pt → Array Value → Addr → Pt → Prop) : Prop :=
  ∀ (m : MethodId) (meth : Method) (c : Code) (A : Pt) (g : JFrame) (ig : Instr) (mk : MethodId) (a : Array Value),
    Stand p l e R s m sargs below meth c A.U A.locs A.cells A.slots → g.method = m → g.locals.size = c.maxLocals → decode c.code g.pc = .ok (ig, len) →
    2 * g.monitorRoom + (g.stack.map fun v => v.category).sum ≤ W9 → A.U.methodNamed? y = some mk → Pre A a →
    (∃ (v : Option Value) (B : Pt), Stand p l e R s m sargs below meth c B.U B.locs B.cells B.slots ∧ Post A a v B ∧
      Steps p.tables e below (doInvoke e (A.U.setTop g) [] mk a).1 (B.U.setTop { g with pc := g.pc + len, stack := v.toList ++ g.stack })) ∨
    (∃ (q : Addr) (B : Pt), Stand p l e R s m sargs below meth c B.U B.locs B.cells B.slots ∧ PostX A a q B ∧
      Steps p.tables e below (doInvoke e (A.U.setTop g) [] mk a).1 ((B.U.setTop g).pushFrame (.throwing q)))
section Payer
variable {l : Launch} {R : Room} {p : Program} {e : Env} {below : List Frame} {s : State} {sargs : Array Value} {y : MethodName} {len W9 : Nat}
theorem vx_back {ws : List Cond} {rm : Room} {Pc : Array Value → State → Prop} {Qc : Array Value → State → Outcome → State → Prop} {XC : String → State → State → Prop} {mc ms : Nat} {free : Addr → Prop} {bytes : ByteArray} {maxL : Nat} {ret : Option FieldType}
    (hM : vx_Met l y ws rm Pc Qc XC mc ms free) (hblind : FrameBlind Pc) (hrc : rm.cells = mc) (hrs : rm.slots = ms)
    (hframes : rm.frames + 1 ≤ R.frames) (hlocals : W9 + (maxL + 11) + rm.locals ≤ R.locals)
    (hws : ∀ w ∈ ws, ∀ a' U, s.WarmedH U.vm → w.before a' U = true) (hcode : Cond.code y bytes maxL ret ∈ ws) (hinit : ∀ a' U, s.WarmedH U.vm → (Cond.initialized y.cls).before a' U = true) :
    vx_Back l R p e below s sargs y len W9 (PreOf R mc ms Pc) (PostOf Qc mc ms free) (vx_Post XC mc ms free) := by
  intro m meth c A g ig mk a X hg hsize hdg hW hn hp
  have h1 : (headSpec ws rm).pre.before a A.U = true := atoms_intro fun w hw => hws w hw _ _ X.warmed
  have h2 : (Cond.code y bytes maxL ret).before a A.U = true := hws _ hcode _ _ X.warmed
  have h3 : (Cond.initialized y.cls).before a A.U = true := hinit _ _ X.warmed
  have h4 : A.cells + (headSpec ws rm).room.cells ≤ R.cells := by rw [show (headSpec ws rm).room.cells = mc from hrc]; exact hp.1
  have h5 : A.slots + (headSpec ws rm).room.slots ≤ R.slots := by rw [show (headSpec ws rm).room.slots = ms from hrs]; exact hp.2.1
  have hPc : Pc a (A.U.calling g mk a) := hblind _ _ _ _ hp.2.2
  obtain ⟨U, Ls, c0, s0⟩ := A
  dsimp only [Pt.U, Pt.locs, Pt.cells, Pt.slots] at h1 h2 h3 h4 h5 X hn hPc ⊢
  obtain ⟨methY, cY, hmY, hcY, -, hlY, -, -, -, -⟩ := Cond.code_spec hn h2
  obtain ⟨kY, hkY, -⟩ := className_of_methodNamed hn
  have hinitY : kY.init = .initialized := Cond.initialized_spec (findClass_of_methodNamed hn) hkY h3
  have h : At U g.method c below := by rw [hg]; exact X.here
  have hlocals9 : W9 + (maxL + 11) + (headSpec ws rm).room.locals ≤ R.locals := hlocals
  have happ : (headSpec ws rm).appliesLoose y e.platform (U.calling g mk a) = true :=
    Spec.appliesLoose_calling (g := g) h hdg hn hkY hinitY
      (X.room_calling (g := g) (R' := (headSpec ws rm).room) hsize hmY hcY hframes (by rw [hlY]; omega) h4 h5) h1
  obtain ⟨mid, hmid⟩ := h.above
  have hfr : (U.setTop g).frames = (.java g :: mid) ++ below := by rw [State.frames_setTop' g h.top, hmid]; rfl
  obtain ⟨o, s₂, hsteps, -, hend, hq⟩ := Steps.callFree hM p X.admits X.cas X.clock (acts := []) hfr happ hPc trivial
  have hq' : vx_Q Qc XC mc ms free a (U.calling g mk a) o s₂ := hq
  rw [State.frames_setTop' g h.top] at hend
  obtain ⟨g₀, hg0⟩ := Option.isSome_iff_exists.mp h.top
  obtain ⟨r, hr⟩ := State.topJava?_eq_some.mp hg0
  have hr' : (({ U with heap := s₂.heap, slotsUsed := s₂.slotsUsed } : State).setVm s₂.vm).frames = .java g₀ :: r := hr
  rcases hq' with ⟨hqc, L, hfe, hL⟩ | ⟨q, rfl, E, ce, L, hx, hce, hcv, hcl, hW₂, hsm, hL⟩
  · obtain ⟨⟨v, rfl⟩, hW₂, e2, q2, q3, q4, q5, q6⟩ := id hfe
    have e3 : s₂ = ({ (U.calling g mk a).setFrames s₂.frames with heap := s₂.heap, slotsUsed := s₂.slotsUsed } : State).setVm s₂.vm := by
      have : s₂ = ({ s₂ with vm := (U.calling g mk a).vm } : State).setVm s₂.vm := rfl
      rw [e2] at this
      exact this
    obtain ⟨c₂, i₂, len₂, hc₂, hd₂, hf₂⟩ := hend
    have hW' : U.WarmedH s₂.vm := hW₂
    have hcc : c₂ = c := by
      have h1 : s₂.code? g.method = U.code? g.method := by
        rw [State.code?_eq, State.code?_eq, hW'.alike.method?]
      exact Option.some.inj (hc₂.symm.trans (h1.trans h.code))
    subst hcc
    have hlen : len₂ = len := by rw [hdg] at hd₂; cases hd₂; rfl
    subst hlen
    have hs₂ : s₂ = (({ U with heap := s₂.heap, slotsUsed := s₂.slotsUsed } : State).setVm s₂.vm).setTop { g with pc := g.pc + len₂, stack := v.toList ++ g.stack } := by
      refine e3.trans ?_
      rw [hf₂, State.calling_eq h.top, State.setFrames_setFrames, State.setTop_of_frames _ hr', hr]
      rfl
    have hsame : U.sameButNew ({ U with heap := s₂.heap, slotsUsed := s₂.slotsUsed } : State) L mc ms := by
      refine ⟨?_, q2, q3, q4, q5, q6⟩
      obtain ⟨t, ht, -⟩ := State.frames_cons hr
      show ({ U with heap := s₂.heap, slotsUsed := s₂.slotsUsed } : State) = { U.setFrames U.frames with heap := s₂.heap, slotsUsed := s₂.slotsUsed }
      rw [State.setFrames_self ht]
    subst hg
    refine Or.inl ⟨v, ⟨(({ U with heap := s₂.heap, slotsUsed := s₂.slotsUsed } : State).setVm s₂.vm), Ls ++ L, c0 + mc, s0 + ms⟩,
      ⟨X.admits, X.cas, X.clock, X.frames, X.room, X.hears, X.method, X.code, (X.here.setHeapUsed s₂.heap s₂.slotsUsed).setVm hW'.alike, X.tail, State.WarmedH.trans X.warmed hW', X.limits, X.bytes, X.same.trans (hsame.setVm s.vm)⟩,
      ⟨g, mk, s₂, L, rfl, rfl, hqc, rfl, hL, rfl, rfl⟩, ?_⟩
    show Steps p.tables e below _ ((({ U with heap := s₂.heap, slotsUsed := s₂.slotsUsed } : State).setVm s₂.vm).setTop { g with pc := g.pc + len₂, stack := v.toList ++ g.stack })
    rw [← hs₂]
    exact hsteps
  · obtain ⟨e2, q2, q3, q4, q5, q6⟩ := id hsm
    have e3 : s₂ = ({ (U.calling g mk a).setFrames s₂.frames with heap := s₂.heap, slotsUsed := s₂.slotsUsed } : State).setVm s₂.vm := by
      have : s₂ = ({ s₂ with vm := (U.calling g mk a).vm } : State).setVm s₂.vm := rfl
      rw [e2] at this
      exact this
    have hf₂ : s₂.frames = .throwing q :: .java g :: U.frames.tail := hend
    have hW' : U.WarmedH s₂.vm := hW₂
    have hs₂ : s₂ = ((({ U with heap := s₂.heap, slotsUsed := s₂.slotsUsed } : State).setVm s₂.vm).setTop g).pushFrame (.throwing q) := by
      refine e3.trans ?_
      rw [hf₂, State.calling_eq h.top, State.setFrames_setFrames, State.pushFrame, State.frames_setTop _ hr', State.setTop_of_frames _ hr', State.setFrames_setFrames, hr]
      rfl
    have hsame : U.sameButNew ({ U with heap := s₂.heap, slotsUsed := s₂.slotsUsed } : State) L mc ms := by
      refine ⟨?_, q2, q3, q4, q5, q6⟩
      obtain ⟨t, ht, -⟩ := State.frames_cons hr
      show ({ U with heap := s₂.heap, slotsUsed := s₂.slotsUsed } : State) = { U.setFrames U.frames with heap := s₂.heap, slotsUsed := s₂.slotsUsed }
      rw [State.setFrames_self ht]
    subst hg
    refine Or.inr ⟨q, ⟨(({ U with heap := s₂.heap, slotsUsed := s₂.slotsUsed } : State).setVm s₂.vm), Ls ++ L, c0 + mc, s0 + ms⟩,
      ⟨X.admits, X.cas, X.clock, X.frames, X.room, X.hears, X.method, X.code, (X.here.setHeapUsed s₂.heap s₂.slotsUsed).setVm hW'.alike, X.tail, State.WarmedH.trans X.warmed hW', X.limits, X.bytes, X.same.trans (hsame.setVm s.vm)⟩,
      ⟨g, mk, s₂, L, E, ce, rfl, rfl, hx, hce, hcv, hcl, rfl, hL, rfl, rfl⟩, ?_⟩
    show Steps p.tables e below _ (((({ U with heap := s₂.heap, slotsUsed := s₂.slotsUsed } : State).setVm s₂.vm).setTop g).pushFrame (.throwing q))
    rw [← hs₂]
    exact hsteps
end Payer
section Calls
variable {p : Program} {l : Launch} {e : Env} {R : Room} {s : State} {m : MethodId} {args : Array Value} {below : List Frame} {meth : Method} {c : Code} {T : State} {locs : List Loc} {cells slots : Nat}
theorem vx_callV (X : Stand p l e R s m args below meth c T locs cells slots) (hexec : p.tables.exec = Jvm.exec) {own C : String} {index : Nat} {y : MethodName} {bytes : ByteArray} {maxL : Nat} {ret : Option FieldType}
    (hown : s.vm.findClass own = some m.cls) (hlink : (Cond.methodLink own index y).before args s = true) (hinst : (Cond.instanceMethod y).before args s = true) (hsel : (Cond.selects C y y).before args s = true)
    (hcode : (Cond.code y bytes maxL ret).before args s = true) (hy : y.cls ≠ "java/lang/invoke/MethodHandle" ∧ y.cls ≠ "java/lang/invoke/VarHandle")
    {W9 : Nat} {Pre : Pt → Array Value → Prop} {Post : Pt → Array Value → Option Value → Pt → Prop} {PostX : Pt → Array Value → Addr → Pt → Prop} (hK : vx_Back l R p e below s args y 3 W9 Pre Post PostX)
    {b : Addr} {cellB : Cell} (hcell : T.heap[b]? = some cellB) (hobj : cellB.vm.isStatics = false) (hcls : s.vm.findClass C = some cellB.cls)
    {g : JFrame} (hg : g.method = m) (hsize : g.locals.size = c.maxLocals) {argsL rest : List Value} (hlen : ∀ sig, parseMethodDescriptor y.desc = some sig → argsL.length = sig.parameters.length)
    (hstack : g.stack = argsL.reverse ++ .ref b :: rest) (hW : 2 * g.monitorRoom + (rest.map fun v => v.category).sum ≤ W9) (hdg : decode c.code g.pc = .ok (.invokevirtual index, 3))
    (hpre : ∀ vm₁, s.WarmedH vm₁ → Pre ⟨T.setVm vm₁, locs, cells, slots⟩ (Value.ref b :: argsL).toArray) :
    (∃ (v : Option Value) (vm₁ : Vm) (B : Pt), s.WarmedH vm₁ ∧ Stand p l e R s m args below meth c B.U B.locs B.cells B.slots ∧ Post ⟨T.setVm vm₁, locs, cells, slots⟩ (Value.ref b :: argsL).toArray v B ∧
      ∀ target, Steps p.tables e below (B.U.setTop { g with pc := g.pc + 3, stack := v.toList ++ rest }) target → Steps p.tables e below (T.setTop g) target) ∨
    (∃ (q : Addr) (vm₁ : Vm) (B : Pt), s.WarmedH vm₁ ∧ Stand p l e R s m args below meth c B.U B.locs B.cells B.slots ∧ PostX ⟨T.setVm vm₁, locs, cells, slots⟩ (Value.ref b :: argsL).toArray q B ∧
      Steps p.tables e below (T.setTop g) ((B.U.setTop { g with stack := rest }).pushFrame (.throwing q))) := by
  obtain ⟨mk, methM, hnamed, hmethM, hstM, habM⟩ := Cond.instanceMethod_spec hinst
  obtain ⟨methM', cM, hmethM', -, -, -, -, -, -, hsigM⟩ := Cond.code_spec hnamed hcode
  cases hmethM.symm.trans hmethM'
  obtain ⟨c2, r2, m2, q1, q2, q3, q4, kP, hkP, hkPi⟩ := Cond.selects_spec hsel
  cases hcls.symm.trans q1
  cases (State.methodFound?_of_named hnamed hy).symm.trans q2
  cases hnamed.symm.trans q3
  have hselP : selectMethod e.platform s.vm cellB.cls mk = .method mk := by rw [Launch.admits_selectMethod X.admits]; exact q4
  obtain ⟨vm₁, X₁, hstep₁⟩ := X.invokevirtual hexec hown hlink hnamed hmethM hstM hkP hkPi hy (a := b) (cell := cellB) hcell
    (fun z h => by rw [h] at hobj; cases hobj) hselP hmethM habM hkP hkPi (g := g) hg (argsL := argsL) (rest := rest) (hlen _ hsigM) hstack hdg
  rcases hK m meth c ⟨T.setVm vm₁, locs, cells, slots⟩ { g with stack := rest } (.invokevirtual index) mk (Value.ref b :: argsL).toArray X₁ hg hsize hdg hW (X₁.named hnamed) (hpre vm₁ X₁.warmed) with ⟨v, B, X', hpost, hsteps⟩ | ⟨q, B, X', hpost, hsteps⟩
  · exact Or.inl ⟨v, vm₁, B, X₁.warmed, X', hpost, fun target h => hstep₁ _ fun acts => by rw [doInvoke_state]; exact hsteps.trans h⟩
  · exact Or.inr ⟨q, vm₁, B, X₁.warmed, X', hpost, hstep₁ _ fun acts => by rw [doInvoke_state]; exact hsteps⟩
theorem vx_callS (X : Stand p l e R s m args below meth c T locs cells slots) (hexec : p.tables.exec = Jvm.exec) {own : String} {index : Nat} {y : MethodName} {bytes : ByteArray} {maxL : Nat} {ret : Option FieldType}
    (hown : s.vm.findClass own = some m.cls) (hlink : (Cond.methodLink own index y).before args s = true) (hstat : (Cond.static y).before args s = true) (hinit : (Cond.initialized y.cls).before args s = true)
    (hcode : (Cond.code y bytes maxL ret).before args s = true) (hy : y.cls ≠ "java/lang/invoke/MethodHandle" ∧ y.cls ≠ "java/lang/invoke/VarHandle")
    {W9 : Nat} {Pre : Pt → Array Value → Prop} {Post : Pt → Array Value → Option Value → Pt → Prop} {PostX : Pt → Array Value → Addr → Pt → Prop} (hK : vx_Back l R p e below s args y 3 W9 Pre Post PostX)
    {g : JFrame} (hg : g.method = m) (hsize : g.locals.size = c.maxLocals) {argsL rest : List Value} (hlen : ∀ sig, parseMethodDescriptor y.desc = some sig → argsL.length = sig.parameters.length)
    (hstack : g.stack = argsL.reverse ++ rest) (hW : 2 * g.monitorRoom + (rest.map fun v => v.category).sum ≤ W9) (hdg : decode c.code g.pc = .ok (.invokestatic index, 3))
    (hpre : ∀ vm₁, s.WarmedH vm₁ → Pre ⟨T.setVm vm₁, locs, cells, slots⟩ argsL.toArray) :
    (∃ (v : Option Value) (vm₁ : Vm) (B : Pt), s.WarmedH vm₁ ∧ Stand p l e R s m args below meth c B.U B.locs B.cells B.slots ∧ Post ⟨T.setVm vm₁, locs, cells, slots⟩ argsL.toArray v B ∧
      ∀ target, Steps p.tables e below (B.U.setTop { g with pc := g.pc + 3, stack := v.toList ++ rest }) target → Steps p.tables e below (T.setTop g) target) ∨
    (∃ (q : Addr) (vm₁ : Vm) (B : Pt), s.WarmedH vm₁ ∧ Stand p l e R s m args below meth c B.U B.locs B.cells B.slots ∧ PostX ⟨T.setVm vm₁, locs, cells, slots⟩ argsL.toArray q B ∧
      Steps p.tables e below (T.setTop g) ((B.U.setTop { g with stack := rest }).pushFrame (.throwing q))) := by
  obtain ⟨mk, hnamed⟩ := Cond.code_named hcode
  obtain ⟨methM, cM, hmethM, -, -, -, -, -, -, hsigM⟩ := Cond.code_spec hnamed hcode
  have hstatic : methM.isStatic = true := Cond.static_spec hnamed hmethM hstat
  obtain ⟨kP, hkP, -⟩ := className_of_methodNamed hnamed
  have hinitP : kP.init = .initialized := Cond.initialized_spec (findClass_of_methodNamed hnamed) hkP hinit
  obtain ⟨vm₁, X₁, hstep₁⟩ := X.invokestatic hexec hown hlink hnamed hmethM hstatic hkP hinitP hy (g := g) hg (argsL := argsL) (rest := rest) (hlen _ hsigM) hstack hdg
  rcases hK m meth c ⟨T.setVm vm₁, locs, cells, slots⟩ { g with stack := rest } (.invokestatic index) mk argsL.toArray X₁ hg hsize hdg hW (X₁.named hnamed) (hpre vm₁ X₁.warmed) with ⟨v, B, X', hpost, hsteps⟩ | ⟨q, B, X', hpost, hsteps⟩
  · exact Or.inl ⟨v, vm₁, B, X₁.warmed, X', hpost, fun target h => hstep₁ _ fun acts => by rw [doInvoke_state]; exact hsteps.trans h⟩
  · exact Or.inr ⟨q, vm₁, B, X₁.warmed, X', hpost, hstep₁ _ fun acts => by rw [doInvoke_state]; exact hsteps⟩
end Calls
theorem vx_cls {s : State} {T : State} {vm₁ : Vm} {E : String} {k : ClassId} (hW : s.WarmedH vm₁) (h : (T.setVm vm₁).vm.findClass E = some k) : s.vm.findClass E = some k := by
  have h1 : vm₁.findClass E = some k := h
  rw [hW.alike.findClass] at h1
  exact h1
/-- the method's frame g, with q thrown over it -/
def vx_W (p : Program) (l : Launch) (e : Env) (R : Room) (s : State) (m : MethodId) (args : Array Value) (below : List Frame) (meth : Method) (c : Code) (H : Heap) (locs : List Loc) (cells slots : Nat) (Q : State → Prop) (g : JFrame) (q : Addr) : Prop :=
  ∀ T : State, T.heap = H → Stand p l e R s m args below meth c T locs cells slots → ∃ t, Steps p.tables e below ((T.setTop g).pushFrame (.throwing q)) t ∧ Q t
def vx_Run (p : Program) (l : Launch) (e : Env) (R : Room) (s : State) (m : MethodId) (args : Array Value) (below : List Frame) (meth : Method) (c : Code) (H : Heap) (locs : List Loc) (cells slots mc ms : Nat) (g : JFrame) (rest : List Value) (Qa : State → Outcome → State → Prop) (XC : String → State → State → Prop) (free : Addr → Prop) : Prop :=
  ∀ T : State, T.heap = H → Stand p l e R s m args below meth c T locs cells slots →
    (∃ (v : Option Value) (st₀ t T' : State) (L : List Loc), st₀.heap = H ∧ Stand p l e R s m args below meth c T' (locs ++ L) (cells + mc) (slots + ms) ∧ (∀ q ∈ L, free q.base) ∧ T'.heap = t.heap ∧ T'.vm = t.vm ∧ Qa st₀ (.returned v) t ∧
      Goes p e below T g T' { g with pc := g.pc + 3, stack := v.toList ++ rest }) ∨
    (∃ (q : Addr) (st₀ t T' : State) (L : List Loc) (E : String) (ce : Cell), st₀.heap = H ∧ Stand p l e R s m args below meth c T' (locs ++ L) (cells + mc) (slots + ms) ∧ (∀ z ∈ L, free z.base) ∧ T'.heap = t.heap ∧ T'.vm = t.vm ∧ XC E st₀ t ∧ t.heap[q]? = some ce ∧ ce.vm = .none ∧ s.vm.findClass E = some ce.cls ∧
      Steps p.tables e below (T.setTop g) ((T'.setTop { g with stack := rest }).pushFrame (.throwing q)))
def vx_X {S : Type} (px : S → Prop) (B : String → S → State → Prop) (A : Nat → Prop) : String → State → State → Prop := fun E st t => ∃ u : S, px u ∧ B E u t ∧ va_F A st t
section Runs
variable {p : Program} {l : Launch} {e : Env} {R : Room} {s : State} {m : MethodId} {args : Array Value} {below : List Frame} {meth : Method} {c : Code} {H : Heap} {locs : List Loc} {cells slots : Nat}
variable {y : MethodName} {bytes cc : ByteArray} {maxL nL mc ms n index : Nat} {ret : Option FieldType} {ws : List Cond} {rm : Room} {Pc : Array Value → State → Prop} {Qc : Array Value → State → Outcome → State → Prop} {XC : String → State → State → Prop} {free : Addr → Prop} {Ts : List Cond} {own C : String} {b : Addr} {As rest : List Value} {g : JFrame}
theorem vx_callBack (cb : CallB R s args own index y bytes maxL ret ws rm mc ms n) (hM : vx_Met l y ws rm Pc Qc XC mc ms free) (hbl : FrameBlind Pc) : vx_Back l R p e below s args y 3 8 (PreOf R mc ms Pc) (PostOf Qc mc ms free) (vx_Post XC mc ms free) := by
  obtain ⟨hrc, hrs, hfr, hlo, hws, hcw, -, hini, -⟩ := cb
  exact vx_back (bytes := bytes) (maxL := maxL) (ret := ret) hM hbl hrc hrs hfr hlo hws hcw (fun a' U hW => word_at hW (Or.inl (by first | rfl | simp [Cond.onTables, Cond.keeps, Cond.steady])) hini)
theorem vx_runV (S : CallFix p m c cc nL s args Ts own) (hM : vx_Met l y ws rm Pc Qc XC mc ms free) (cw : CallW R s args own C index y bytes maxL ret ws rm mc ms n) (hp : PreV s H C b Pc As)
    (hg : g.method = m) (hn : As.length = n) (hsize : g.locals.size = nL) (hstack : g.stack = As.reverse ++ .ref b :: rest) (hW : 2 * g.monitorRoom + (rest.map fun v => v.category).sum ≤ 8) (hdg : decode cc g.pc = .ok (.invokevirtual index, 3)) (hf : cells + mc ≤ R.cells ∧ slots + ms ≤ R.slots) :
    vx_Run p l e R s m args below meth c H locs cells slots mc ms g rest (Qc (Value.ref b :: As).toArray) XC free := by
  have hK : vx_Back l R p e below s args y 3 8 (PreOf R mc ms Pc) (PostOf Qc mc ms free) (vx_Post XC mc ms free) := vx_callBack cw.1 hM hp.1
  obtain ⟨⟨-, -, -, -, -, -, hcode, -, hy, hlen, hl⟩, hin, hse⟩ := cw
  obtain ⟨hx, hb, hml, ho, -⟩ := S
  obtain ⟨-, ⟨cellB, hcB, hoB, hclB⟩, hPc⟩ := hp
  intro T hT X
  rcases vx_callV X hx (C := C) (bytes := bytes) (maxL := maxL) (ret := ret) ho hl hin hse hcode hy hK (by rw [hT]; exact hcB) hoB hclB hg (hsize.trans hml.symm) (argsL := As) (rest := rest) (fun sig h => hn.trans (hlen sig h)) hstack hW (by rw [hb]; exact hdg)
    (fun vm₁ hW₁ => ⟨hf.1, hf.2, hPc (T.setVm vm₁) hT hW₁⟩) with ⟨v, vm₁, ⟨U', l2, c2, s2⟩, hW₁, X', ⟨g', mk, t, L, e1, e2, hq, h1, hL, h2, h3⟩, st⟩ | ⟨q, vm₁, ⟨U', l2, c2, s2⟩, hW₁, X', ⟨g', mk, t, L, E, ce, e1, e2, hq, hce, hcv, hcl, h1, hL, h2, h3⟩, st⟩
  · dsimp only [Pt.U, Pt.locs, Pt.cells, Pt.slots] at X' e1 e2 h1 h2 h3 st
    subst h1; subst h2; subst h3
    exact Or.inl ⟨v, (T.setVm vm₁).calling g' mk (Value.ref b :: As).toArray, t, U', L, hT, X', hL, e1, e2, hq, st⟩
  · dsimp only [Pt.U, Pt.locs, Pt.cells, Pt.slots] at X' e1 e2 h1 h2 h3 st hcl
    subst h1; subst h2; subst h3
    exact Or.inr ⟨q, (T.setVm vm₁).calling g' mk (Value.ref b :: As).toArray, t, U', L, E, ce, hT, X', hL, e1, e2, hq, hce, hcv, vx_cls hW₁ hcl, st⟩
theorem vx_runS (S : CallFix p m c cc nL s args Ts own) (hM : vx_Met l y ws rm Pc Qc XC mc ms free) (cw : CallB R s args own index y bytes maxL ret ws rm mc ms n ∧ (Cond.static y).before args s = true) (hp : PreS s H Pc As)
    (hg : g.method = m) (hn : As.length = n) (hsize : g.locals.size = nL) (hstack : g.stack = As.reverse ++ rest) (hW : 2 * g.monitorRoom + (rest.map fun v => v.category).sum ≤ 8) (hdg : decode cc g.pc = .ok (.invokestatic index, 3)) (hf : cells + mc ≤ R.cells ∧ slots + ms ≤ R.slots) :
    vx_Run p l e R s m args below meth c H locs cells slots mc ms g rest (Qc As.toArray) XC free := by
  have hK : vx_Back l R p e below s args y 3 8 (PreOf R mc ms Pc) (PostOf Qc mc ms free) (vx_Post XC mc ms free) := vx_callBack cw.1 hM hp.1
  obtain ⟨⟨-, -, -, -, -, -, hcode, hini, hy, hlen, hl⟩, hstt⟩ := cw
  obtain ⟨hx, hb, hml, ho, -⟩ := S
  intro T hT X
  rcases vx_callS X hx (bytes := bytes) (maxL := maxL) (ret := ret) ho hl hstt hini hcode hy hK hg (hsize.trans hml.symm) (argsL := As) (rest := rest) (fun sig h => hn.trans (hlen sig h)) hstack hW (by rw [hb]; exact hdg)
    (fun vm₁ hW₁ => ⟨hf.1, hf.2, hp.2 (T.setVm vm₁) hT hW₁⟩) with ⟨v, vm₁, ⟨U', l2, c2, s2⟩, hW₁, X', ⟨g', mk, t, L, e1, e2, hq, h1, hL, h2, h3⟩, st⟩ | ⟨q, vm₁, ⟨U', l2, c2, s2⟩, hW₁, X', ⟨g', mk, t, L, E, ce, e1, e2, hq, hce, hcv, hcl, h1, hL, h2, h3⟩, st⟩
  · dsimp only [Pt.U, Pt.locs, Pt.cells, Pt.slots] at X' e1 e2 h1 h2 h3 st
    subst h1; subst h2; subst h3
    exact Or.inl ⟨v, (T.setVm vm₁).calling g' mk As.toArray, t, U', L, hT, X', hL, e1, e2, hq, st⟩
  · dsimp only [Pt.U, Pt.locs, Pt.cells, Pt.slots] at X' e1 e2 h1 h2 h3 st hcl
    subst h1; subst h2; subst h3
    exact Or.inr ⟨q, (T.setVm vm₁).calling g' mk As.toArray, t, U', L, E, ce, hT, X', hL, e1, e2, hq, hce, hcv, vx_cls hW₁ hcl, st⟩
end Runs
section Rows
variable {p : Program} {l : Launch} {e : Env} {R : Room} {s : State} {m : MethodId} {args : Array Value} {below : List Frame} {meth : Method} {c : Code} {H : Heap} {locs : List Loc} {cells slots : Nat} {Q : State → Prop}
variable {mc ms : Nat} {free : Addr → Prop} {A0 A1 : Nat → Prop} {H0 : Heap} {a : Array Value} {pc : Nat} {ls : Array Slot} {st0 rest : List Value}
theorem vx_keep {st₀ t T' : State} {L : List Loc} (h0 : st₀.heap = H) (e1 : T'.heap = t.heap) (hS : va_S A0 H0 H locs) (hA : ∀ q, q < H.size → A1 q → A0 q) (hf : ∀ q, free q → A0 q) (hL : ∀ q ∈ L, free q.base) (hF : va_F A1 st₀ t) :
    H.size ≤ T'.heap.size ∧ (∀ q : Nat, q < H.size → ¬ A1 q → T'.heap[q]? = H[q]?) ∧ va_S A0 H0 T'.heap (locs ++ L) := by
  obtain ⟨hz, hk⟩ := hF
  rw [h0] at hz hk
  exact ⟨by rw [e1]; exact hz, fun q h1 h2 => by rw [e1]; exact hk q h1 h2,
    ⟨Nat.le_trans hS.1 (by rw [e1]; exact hz), fun q h1 h2 => by rw [e1, hk q (Nat.lt_of_lt_of_le h1 hS.1) (fun z => h2 (hA q (Nat.lt_of_lt_of_le h1 hS.1) z))]; exact hS.2.1 q h1 h2, fun q hq => by
      rcases List.mem_append.mp hq with h | h
      · exact hS.2.2 q h
      · exact hf _ (hL q h)⟩⟩
theorem vx_calli {S SX : Type} {post : Int32 → S → Prop} {px : SX → Prop} {B : S → State → Prop} {BX : String → SX → State → Prop} {AX : Nat → Prop} (hr : vx_Run p l e R s m args below meth c H locs cells slots mc ms (F0 m pc ls st0) rest (va_Qi post B A1 a) (vx_X px BX AX) free) (hS : va_S A0 H0 H locs) (hA : ∀ q, q < H.size → A1 q → A0 q) (hf : ∀ q, free q → A0 q) (hAX : ∀ q, q < H.size → AX q → A0 q)
    (kx : ∀ (E : String) (ce : Cell) (q9 : Addr) (u : SX) (t : State) (H1 : Heap) (locs1 : List Loc), t.heap = H1 → s.vm.Alike t.vm → px u → BX E u t → H.size ≤ H1.size → (∀ q : Nat, q < H.size → ¬ AX q → H1[q]? = H[q]?) → va_S A0 H0 H1 locs1 → H1[q9]? = some ce → ce.vm = .none → s.vm.findClass E = some ce.cls → vx_W p l e R s m args below meth c H1 locs1 (cells + mc) (slots + ms) Q (F0 m pc ls rest) q9)
    (kk : ∀ (r : Int32) (u : S) (t : State) (H1 : Heap) (locs1 : List Loc), t.heap = H1 → s.vm.Alike t.vm → post r u → B u t → H.size ≤ H1.size → (∀ q : Nat, q < H.size → ¬ A1 q → H1[q]? = H[q]?) → va_S A0 H0 H1 locs1 → W p l e R s m args below meth c H1 locs1 (cells + mc) (slots + ms) Q (F0 m (pc + 3) ls (.int r :: rest))) : W p l e R s m args below meth c H locs cells slots Q (F0 m pc ls st0) := by
  intro T hT X
  rcases hr T hT X with ⟨v, st₀, t, T', L, h0, X', hL, e1, e2, ⟨⟨r, u, hv, hp, hb⟩, hF⟩, st⟩ | ⟨q, st₀, t, T', L, E, ce, h0, X', hL, e1, e2, ⟨u, hp, hb, hF⟩, hce, hcv, hcl, st⟩
  · cases hv
    obtain ⟨k1, k2, k3⟩ := vx_keep h0 e1 hS hA hf hL hF
    obtain ⟨t2, a1, b1⟩ := kk r u t T'.heap (locs ++ L) e1.symm (by rw [← e2]; exact X'.warmed.alike) hp hb k1 k2 k3 T' rfl X'
    exact ⟨t2, st t2 a1, b1⟩
  · obtain ⟨k1, k2, k3⟩ := vx_keep h0 e1 hS hAX hf hL hF
    obtain ⟨t2, a1, b1⟩ := kx E ce q u t T'.heap (locs ++ L) e1.symm (by rw [← e2]; exact X'.warmed.alike) hp hb k1 k2 k3 (by rw [e1]; exact hce) hcv hcl T' rfl X'
    exact ⟨t2, st.trans a1, b1⟩
theorem vx_calll {S SX : Type} {post : Int64 → S → Prop} {px : SX → Prop} {B : S → State → Prop} {BX : String → SX → State → Prop} {AX : Nat → Prop} (hr : vx_Run p l e R s m args below meth c H locs cells slots mc ms (F0 m pc ls st0) rest (va_Ql post B A1 a) (vx_X px BX AX) free) (hS : va_S A0 H0 H locs) (hA : ∀ q, q < H.size → A1 q → A0 q) (hf : ∀ q, free q → A0 q) (hAX : ∀ q, q < H.size → AX q → A0 q)
    (kx : ∀ (E : String) (ce : Cell) (q9 : Addr) (u : SX) (t : State) (H1 : Heap) (locs1 : List Loc), t.heap = H1 → s.vm.Alike t.vm → px u → BX E u t → H.size ≤ H1.size → (∀ q : Nat, q < H.size → ¬ AX q → H1[q]? = H[q]?) → va_S A0 H0 H1 locs1 → H1[q9]? = some ce → ce.vm = .none → s.vm.findClass E = some ce.cls → vx_W p l e R s m args below meth c H1 locs1 (cells + mc) (slots + ms) Q (F0 m pc ls rest) q9)
    (kk : ∀ (r : Int64) (u : S) (t : State) (H1 : Heap) (locs1 : List Loc), t.heap = H1 → s.vm.Alike t.vm → post r u → B u t → H.size ≤ H1.size → (∀ q : Nat, q < H.size → ¬ A1 q → H1[q]? = H[q]?) → va_S A0 H0 H1 locs1 → W p l e R s m args below meth c H1 locs1 (cells + mc) (slots + ms) Q (F0 m (pc + 3) ls (.long r :: rest))) : W p l e R s m args below meth c H locs cells slots Q (F0 m pc ls st0) := by
  intro T hT X
  rcases hr T hT X with ⟨v, st₀, t, T', L, h0, X', hL, e1, e2, ⟨⟨r, u, hv, hp, hb⟩, hF⟩, st⟩ | ⟨q, st₀, t, T', L, E, ce, h0, X', hL, e1, e2, ⟨u, hp, hb, hF⟩, hce, hcv, hcl, st⟩
  · cases hv
    obtain ⟨k1, k2, k3⟩ := vx_keep h0 e1 hS hA hf hL hF
    obtain ⟨t2, a1, b1⟩ := kk r u t T'.heap (locs ++ L) e1.symm (by rw [← e2]; exact X'.warmed.alike) hp hb k1 k2 k3 T' rfl X'
    exact ⟨t2, st t2 a1, b1⟩
  · obtain ⟨k1, k2, k3⟩ := vx_keep h0 e1 hS hAX hf hL hF
    obtain ⟨t2, a1, b1⟩ := kx E ce q u t T'.heap (locs ++ L) e1.symm (by rw [← e2]; exact X'.warmed.alike) hp hb k1 k2 k3 (by rw [e1]; exact hce) hcv hcl T' rfl X'
    exact ⟨t2, st.trans a1, b1⟩
theorem vx_callf {S SX : Type} {post : UInt32 → S → Prop} {px : SX → Prop} {B : S → State → Prop} {BX : String → SX → State → Prop} {AX : Nat → Prop} (hr : vx_Run p l e R s m args below meth c H locs cells slots mc ms (F0 m pc ls st0) rest (va_Qf post B A1 a) (vx_X px BX AX) free) (hS : va_S A0 H0 H locs) (hA : ∀ q, q < H.size → A1 q → A0 q) (hf : ∀ q, free q → A0 q) (hAX : ∀ q, q < H.size → AX q → A0 q)
    (kx : ∀ (E : String) (ce : Cell) (q9 : Addr) (u : SX) (t : State) (H1 : Heap) (locs1 : List Loc), t.heap = H1 → s.vm.Alike t.vm → px u → BX E u t → H.size ≤ H1.size → (∀ q : Nat, q < H.size → ¬ AX q → H1[q]? = H[q]?) → va_S A0 H0 H1 locs1 → H1[q9]? = some ce → ce.vm = .none → s.vm.findClass E = some ce.cls → vx_W p l e R s m args below meth c H1 locs1 (cells + mc) (slots + ms) Q (F0 m pc ls rest) q9)
    (kk : ∀ (r : UInt32) (u : S) (t : State) (H1 : Heap) (locs1 : List Loc), t.heap = H1 → s.vm.Alike t.vm → post r u → B u t → H.size ≤ H1.size → (∀ q : Nat, q < H.size → ¬ A1 q → H1[q]? = H[q]?) → va_S A0 H0 H1 locs1 → W p l e R s m args below meth c H1 locs1 (cells + mc) (slots + ms) Q (F0 m (pc + 3) ls (.float r :: rest))) : W p l e R s m args below meth c H locs cells slots Q (F0 m pc ls st0) := by
  intro T hT X
  rcases hr T hT X with ⟨v, st₀, t, T', L, h0, X', hL, e1, e2, ⟨⟨r, u, hv, hp, hb⟩, hF⟩, st⟩ | ⟨q, st₀, t, T', L, E, ce, h0, X', hL, e1, e2, ⟨u, hp, hb, hF⟩, hce, hcv, hcl, st⟩
  · cases hv
    obtain ⟨k1, k2, k3⟩ := vx_keep h0 e1 hS hA hf hL hF
    obtain ⟨t2, a1, b1⟩ := kk r u t T'.heap (locs ++ L) e1.symm (by rw [← e2]; exact X'.warmed.alike) hp hb k1 k2 k3 T' rfl X'
    exact ⟨t2, st t2 a1, b1⟩
  · obtain ⟨k1, k2, k3⟩ := vx_keep h0 e1 hS hAX hf hL hF
    obtain ⟨t2, a1, b1⟩ := kx E ce q u t T'.heap (locs ++ L) e1.symm (by rw [← e2]; exact X'.warmed.alike) hp hb k1 k2 k3 (by rw [e1]; exact hce) hcv hcl T' rfl X'
    exact ⟨t2, st.trans a1, b1⟩
theorem vx_calld {S SX : Type} {post : UInt64 → S → Prop} {px : SX → Prop} {B : S → State → Prop} {BX : String → SX → State → Prop} {AX : Nat → Prop} (hr : vx_Run p l e R s m args below meth c H locs cells slots mc ms (F0 m pc ls st0) rest (va_Qd post B A1 a) (vx_X px BX AX) free) (hS : va_S A0 H0 H locs) (hA : ∀ q, q < H.size → A1 q → A0 q) (hf : ∀ q, free q → A0 q) (hAX : ∀ q, q < H.size → AX q → A0 q)
    (kx : ∀ (E : String) (ce : Cell) (q9 : Addr) (u : SX) (t : State) (H1 : Heap) (locs1 : List Loc), t.heap = H1 → s.vm.Alike t.vm → px u → BX E u t → H.size ≤ H1.size → (∀ q : Nat, q < H.size → ¬ AX q → H1[q]? = H[q]?) → va_S A0 H0 H1 locs1 → H1[q9]? = some ce → ce.vm = .none → s.vm.findClass E = some ce.cls → vx_W p l e R s m args below meth c H1 locs1 (cells + mc) (slots + ms) Q (F0 m pc ls rest) q9)
    (kk : ∀ (r : UInt64) (u : S) (t : State) (H1 : Heap) (locs1 : List Loc), t.heap = H1 → s.vm.Alike t.vm → post r u → B u t → H.size ≤ H1.size → (∀ q : Nat, q < H.size → ¬ A1 q → H1[q]? = H[q]?) → va_S A0 H0 H1 locs1 → W p l e R s m args below meth c H1 locs1 (cells + mc) (slots + ms) Q (F0 m (pc + 3) ls (.double r :: rest))) : W p l e R s m args below meth c H locs cells slots Q (F0 m pc ls st0) := by
  intro T hT X
  rcases hr T hT X with ⟨v, st₀, t, T', L, h0, X', hL, e1, e2, ⟨⟨r, u, hv, hp, hb⟩, hF⟩, st⟩ | ⟨q, st₀, t, T', L, E, ce, h0, X', hL, e1, e2, ⟨u, hp, hb, hF⟩, hce, hcv, hcl, st⟩
  · cases hv
    obtain ⟨k1, k2, k3⟩ := vx_keep h0 e1 hS hA hf hL hF
    obtain ⟨t2, a1, b1⟩ := kk r u t T'.heap (locs ++ L) e1.symm (by rw [← e2]; exact X'.warmed.alike) hp hb k1 k2 k3 T' rfl X'
    exact ⟨t2, st t2 a1, b1⟩
  · obtain ⟨k1, k2, k3⟩ := vx_keep h0 e1 hS hAX hf hL hF
    obtain ⟨t2, a1, b1⟩ := kx E ce q u t T'.heap (locs ++ L) e1.symm (by rw [← e2]; exact X'.warmed.alike) hp hb k1 k2 k3 (by rw [e1]; exact hce) hcv hcl T' rfl X'
    exact ⟨t2, st.trans a1, b1⟩
theorem vx_callv {S SX : Type} {post : S → Prop} {px : SX → Prop} {B : S → State → Prop} {BX : String → SX → State → Prop} {AX : Nat → Prop} (hr : vx_Run p l e R s m args below meth c H locs cells slots mc ms (F0 m pc ls st0) rest (va_Qv post B A1 a) (vx_X px BX AX) free) (hS : va_S A0 H0 H locs) (hA : ∀ q, q < H.size → A1 q → A0 q) (hf : ∀ q, free q → A0 q) (hAX : ∀ q, q < H.size → AX q → A0 q)
    (kx : ∀ (E : String) (ce : Cell) (q9 : Addr) (u : SX) (t : State) (H1 : Heap) (locs1 : List Loc), t.heap = H1 → s.vm.Alike t.vm → px u → BX E u t → H.size ≤ H1.size → (∀ q : Nat, q < H.size → ¬ AX q → H1[q]? = H[q]?) → va_S A0 H0 H1 locs1 → H1[q9]? = some ce → ce.vm = .none → s.vm.findClass E = some ce.cls → vx_W p l e R s m args below meth c H1 locs1 (cells + mc) (slots + ms) Q (F0 m pc ls rest) q9)
    (kk : ∀ (u : S) (t : State) (H1 : Heap) (locs1 : List Loc), t.heap = H1 → s.vm.Alike t.vm → post u → B u t → H.size ≤ H1.size → (∀ q : Nat, q < H.size → ¬ A1 q → H1[q]? = H[q]?) → va_S A0 H0 H1 locs1 → W p l e R s m args below meth c H1 locs1 (cells + mc) (slots + ms) Q (F0 m (pc + 3) ls (rest))) : W p l e R s m args below meth c H locs cells slots Q (F0 m pc ls st0) := by
  intro T hT X
  rcases hr T hT X with ⟨v, st₀, t, T', L, h0, X', hL, e1, e2, ⟨⟨u, hv, hp, hb⟩, hF⟩, st⟩ | ⟨q, st₀, t, T', L, E, ce, h0, X', hL, e1, e2, ⟨u, hp, hb, hF⟩, hce, hcv, hcl, st⟩
  · cases hv
    obtain ⟨k1, k2, k3⟩ := vx_keep h0 e1 hS hA hf hL hF
    obtain ⟨t2, a1, b1⟩ := kk u t T'.heap (locs ++ L) e1.symm (by rw [← e2]; exact X'.warmed.alike) hp hb k1 k2 k3 T' rfl X'
    exact ⟨t2, st t2 a1, b1⟩
  · obtain ⟨k1, k2, k3⟩ := vx_keep h0 e1 hS hAX hf hL hF
    obtain ⟨t2, a1, b1⟩ := kx E ce q u t T'.heap (locs ++ L) e1.symm (by rw [← e2]; exact X'.warmed.alike) hp hb k1 k2 k3 (by rw [e1]; exact hce) hcv hcl T' rfl X'
    exact ⟨t2, st.trans a1, b1⟩
/-- caught by the row x of this method's table; the rows ahead don't take it -/
theorem vx_catch {own name : String} {E : String} {ce : Cell} {q : Addr} (hown : s.vm.findClass own = some m.cls) (pre : List ExceptionTableEntry) (x : ExceptionTableEntry) (suf : List ExceptionTableEntry) (hsplit : c.exceptionTable.toList = pre ++ x :: suf)
    (hpass : ∀ z ∈ pre, covers z pc = false ∨ (z.catchType ≠ 0 ∧ ∃ nm : String, (Cond.classLink own z.catchType nm).before args s = true ∧ va_Nc E nm s)) (hx : covers x pc = true) (h0 : x.catchType ≠ 0)
    (hlink : (Cond.classLink own x.catchType name).before args s = true) (hcast : (Cond.castable E name).before args s = true) (hcell : H[q]? = some ce) (hv : ce.vm = .none) (hcl : s.vm.findClass E = some ce.cls)
    (kk : W p l e R s m args below meth c H locs cells slots Q (F0 m x.handlerPc ls [.ref q])) : vx_W p l e R s m args below meth c H locs cells slots Q (F0 m pc ls rest) q := by
  intro T hT X
  have hpl : e.platform.magicAccessors = ({} : Platform).magicAccessors := by rw [X.admits.platform]
  obtain ⟨c3, c4, hc3, hc4, hasg⟩ := Cond.castable_spec hcast
  cases Option.some.inj (hc3.symm.trans hcl)
  obtain ⟨c5, hc5, hcl5⟩ := Cond.classLink_spec hown hlink e.platform hpl
  cases Option.some.inj (hc4.symm.trans hc5)
  obtain ⟨vm', X', st⟩ := X.thenCaughtThrough q (g := F0 m pc ls rest) rfl (Steps.refl _) (by rw [hT]; exact hcell) (by rw [hv]; rfl) (by obtain ⟨k9, h9, -⟩ := Vm.findClass_spec hcl; exact ⟨k9, h9⟩) pre x suf hsplit
    (fun z hz => by
      rcases hpass z hz with h | ⟨hz0, nm, hl1, hn1⟩
      · exact Or.inl h
      · obtain ⟨c6, hc6, hcl6⟩ := Cond.classLink_spec hown hl1 e.platform hpl
        obtain ⟨a8, b8, h1, h2, h3⟩ := hn1
        cases Option.some.inj (h1.symm.trans hcl)
        cases Option.some.inj (h2.symm.trans hc6)
        exact Or.inr ⟨hz0, _, hcl6, h3⟩) hx (Or.inr ⟨h0, c4, hcl5, hasg⟩)
  obtain ⟨t, a1, b1⟩ := kk (T.setVm vm') hT X'
  exact ⟨t, st.trans a1, b1⟩
end Rows
section Ends
variable {p : Program} {l : Launch} {e : Env} {R : Room} {s : State} {m : MethodId} {args : Array Value} {below : List Frame} {meth : Method} {c : Code} {H : Heap} {locs : List Loc} {cells slots : Nat} {Q : State → Prop}
variable {mc ms : Nat} {free : Addr → Prop} {A0 A1 : Nat → Prop} {H0 : Heap} {a : Array Value} {ls : Array Slot} {st0 rest : List Value}
variable {Qc : Array Value → State → Outcome → State → Prop} {XC : String → State → State → Prop}
/-- what a body that may throw owes at its end -/
def vx_MQ (below : List Frame) (Qc : Array Value → State → Outcome → State → Prop) (XC : String → State → State → Prop) (a : Array Value) (s : State) (mc ms : Nat) (free : Addr → Prop) : State → Prop := fun t =>
  ∃ o, t.status = .running ∧ Ended t below o ∧ vx_Q Qc XC mc ms free a s o t
theorem vx_ret {g : JFrame} {mc ms : Nat} (k : W p l e R s m args below meth c H locs cells slots (MQ below Qc args s mc ms free) g) : W p l e R s m args below meth c H locs cells slots (vx_MQ below Qc XC args s mc ms free) g := by
  intro T hT X
  obtain ⟨t, a1, o, b1, b2, b3, b4⟩ := k T hT X
  exact ⟨t, a1, o, b1, b2, Or.inl ⟨b3, b4⟩⟩
/-- not caught here: it goes on to the caller -/
theorem vx_widen {g : JFrame} {q : Addr} {k n : Nat} (h1 : cells ≤ k) (h2 : slots ≤ n) (kk : vx_W p l e R s m args below meth c H locs k n Q g q) : vx_W p l e R s m args below meth c H locs cells slots Q g q := fun T hT X => kk T hT (stand_widen X h1 h2)
theorem vx_out {pc : Nat} {E : String} {ce : Cell} {q : Addr} {mc ms : Nat} (hout : ∀ x ∈ c.exceptionTable.toList, covers x pc = false) (hlocks : meth.locks = false) (hcell : H[q]? = some ce) (hv : ce.vm = .none) (hcl : s.vm.findClass E = some ce.cls)
    (hx : ∀ t : State, t.heap = H → s.vm.Alike t.vm → XC E s t) (hf : ∀ z ∈ locs, free z.base) (hc : cells ≤ mc) (hs : slots ≤ ms) :
    vx_W p l e R s m args below meth c H locs cells slots (vx_MQ below Qc XC args s mc ms free) (F0 m pc ls rest) q := by
  intro T hT X
  obtain ⟨st1, hrun, hend, hW, hsm⟩ := X.leaveThrown q (g := F0 m pc ls rest) rfl rfl rfl hout hlocks
  have hcell9 : (T.setFrames (.throwing q :: below)).heap[q]? = some ce := by
    show T.heap[q]? = some ce
    rw [hT]; exact hcell
  exact ⟨_, st1, .threw q, hrun, hend, Or.inr ⟨q, rfl, E, ce, locs, hx _ hT hW.alike, hcell9, hv, hcl, hW, hsm.mono hc hs, hf⟩⟩
theorem vx_frame {U : State} {k n : Nat} (h : s.sameButNew ({ U with vm := s.vm } : State) locs k n) : s.heap.size ≤ U.heap.size ∧ ∀ q : Nat, q < s.heap.size → (∀ z ∈ locs, z.base ≠ q) → U.heap[q]? = s.heap[q]? := by
  obtain ⟨-, h2, -, -, -, h6⟩ := h
  refine ⟨h2, fun q hq hz => ?_⟩
  obtain ⟨c9, e1, e2, e3, e4⟩ := h6 q _ (Array.getElem?_eq_getElem hq)
  have hs : c9.slots = (s.heap[q]).slots := Array.ext_getElem? fun i => e4 i fun hm => hz _ hm rfl
  have h9 : c9 = s.heap[q] := by
    rw [hs] at e2
    exact e2
  have e5 : U.heap[q]? = some c9 := e1
  rw [e5, h9, Array.getElem?_eq_getElem hq]
/-- the words of a throw but the four that speak of the heap -/
def vx_no (w : Cond) : Bool := decide (w ≠ .isRef (.static Bundle.tN "UNASSIGNED_STACK" Bundle.steD)) && decide (w ≠ .isRef (.static Bundle.tN "SUPPRESSED_SENTINEL" Bundle.listD)) && decide (w ≠ .laysStatic Bundle.tN "UNASSIGNED_STACK" Bundle.steD) && decide (w ≠ .laysStatic Bundle.tN "SUPPRESSED_SENTINEL" Bundle.listD)
def vx_at0 (own : String) (ic : Nat) (X : String) (names : List String) : List Cond := (Bundle.ownAtoms0 own ic X names).filter vx_no
def vx_atS (own : String) (ic : Nat) (X : String) (names : List String) : List Cond := (Bundle.ownAtoms own ic X names).filter vx_no
/-- a word that the tables alone decide, or a good one -/
def vx_ot (w : Cond) : Bool := w.onTables || goodWord w
theorem vx_ot_at {args a' : Array Value} {s U : State} {w : Cond} (hW : s.WarmedH U.vm) (hvm : s.vm = U.vm) (hg : vx_ot w = true) (h : w.before args s = true) : w.before a' U = true := by
  simp only [vx_ot, Bool.or_eq_true] at hg
  rcases hg with hg | hg
  · exact va_tabs hg hvm h
  · exact word_at hW (good_of_word hg) h
/-- a list's words: the good ones out of the method's own list, the others by premises of their own -/
theorem vx_hat {args : Array Value} {s : State} {L B : List Cond} (h1 : ∀ w ∈ L.filter goodWord, w.before args s = true) (h2 : ∀ w ∈ L.filter (fun w => !goodWord w), w ∈ B) (h3 : ∀ w ∈ B, w.before args s = true) : ∀ w ∈ L, w.before args s = true := by
  intro w hw
  by_cases g : goodWord w = true
  · exact h1 w (List.mem_filter.mpr ⟨hw, g⟩)
  · refine h3 w (h2 w (List.mem_filter.mpr ⟨hw, ?_⟩))
    show (!goodWord w) = true
    cases hgw : goodWord w
    · rfl
    · exact absurd hgw g
theorem vx_c {args : Array Value} {s : State} {w : Cond} {B : List Cond} (h : w.before args s = true) (t : ∀ w ∈ B, w.before args s = true) : ∀ w' ∈ w :: B, w'.before args s = true := fun w' h' => (List.mem_cons.mp h').elim (fun e => by rw [e]; exact h) (t w')
theorem vx_n {args : Array Value} {s : State} : ∀ w ∈ ([] : List Cond), w.before args s = true := fun _ h => nomatch h
theorem vx_own {args : Array Value} {s : State} {L : List Cond} (h1 : ∀ w ∈ L.filter vx_no, w.before args s = true)
    (hU : (Cond.isRef (.static Bundle.tN "UNASSIGNED_STACK" Bundle.steD)).before args s = true) (hN : (Cond.isRef (.static Bundle.tN "SUPPRESSED_SENTINEL" Bundle.listD)).before args s = true)
    (lU : (Cond.laysStatic Bundle.tN "UNASSIGNED_STACK" Bundle.steD).before args s = true) (lN : (Cond.laysStatic Bundle.tN "SUPPRESSED_SENTINEL" Bundle.listD).before args s = true) : ∀ w ∈ L, w.before args s = true := by
  intro w hw
  by_cases e1 : w = .isRef (.static Bundle.tN "UNASSIGNED_STACK" Bundle.steD)
  · rw [e1]; exact hU
  · by_cases e2 : w = .isRef (.static Bundle.tN "SUPPRESSED_SENTINEL" Bundle.listD)
    · rw [e2]; exact hN
    · by_cases e3 : w = .laysStatic Bundle.tN "UNASSIGNED_STACK" Bundle.steD
      · rw [e3]; exact lU
      · by_cases e4 : w = .laysStatic Bundle.tN "SUPPRESSED_SENTINEL" Bundle.listD
        · rw [e4]; exact lN
        · exact h1 w (List.mem_filter.mpr ⟨hw, by unfold vx_no; rw [decide_eq_true e1, decide_eq_true e2, decide_eq_true e3, decide_eq_true e4]; rfl⟩)
/-- where a static field lies, its class's statics cell in H -/
def vx_L (C n d : String) (A : Nat → Prop) (U : State) (H : Heap) : Prop := ∃ (c : ClassId) (k : Class) (i : Nat) (f : Field) (a : Nat) (cell : Cell), U.vm.findClass C = some c ∧ U.fieldFound? C n d = some (c, k, i, f) ∧ f.isStatic = true ∧ k.statics = some a ∧ H[a]? = some cell ∧ cell.vm.isStatics = true ∧ cell.cls = c ∧ f.slot < cell.slots.size ∧ k.staticTypes[f.slot]? = some f.type ∧ ¬ A a
theorem vx_L.moved {C n d : String} {A : Nat → Prop} {u U : State} {H : Heap} (hvm : u.vm.Alike U.vm) (h : vx_L C n d A u H) : vx_L C n d A U H := by
  obtain ⟨c, k, i, f, a, cell, h1, h2, h3, h4, h5, h6, h7, h8, h9, h10⟩ := h
  obtain ⟨k', hi', he⟩ := State.fieldFound?_setVm hvm h2
  exact ⟨c, k', i, f, a, cell, by rw [hvm.findClass]; exact h1, hi', h3, by rw [he]; exact h4, h5, h6, h7, h8, by rw [he]; exact h9, h10⟩
theorem vx_L.kept {C n d : String} {A : Nat → Prop} {U : State} {H H1 : Heap} (h : vx_L C n d A U H) (hq : ∀ a : Nat, a < H.size → ¬ A a → H1[a]? = H[a]?) : vx_L C n d A U H1 := by
  obtain ⟨c, k, i, f, a, cell, h1, h2, h3, h4, h5, h6, h7, h8, h9, h10⟩ := h
  exact ⟨c, k, i, f, a, cell, h1, h2, h3, h4, by rw [hq a (Array.getElem?_eq_some_iff.mp h5).1 h10]; exact h5, h6, h7, h8, h9, h10⟩
theorem vx_L.narrow {C n d : String} {A B : Nat → Prop} {U : State} {H : Heap} (h : vx_L C n d A U H) (hAB : ∀ q, B q → A q) : vx_L C n d B U H := by
  obtain ⟨c, k, i, f, a, cell, h1, h2, h3, h4, h5, h6, h7, h8, h9, h10⟩ := h
  exact ⟨c, k, i, f, a, cell, h1, h2, h3, h4, h5, h6, h7, h8, h9, fun z => h10 (hAB _ z)⟩
theorem vx_L.word {C n d : String} {A : Nat → Prop} {s : State} {args : Array Value} (h : vx_L C n d A s s.heap) : (Cond.laysStatic C n d).before args s = true := by
  obtain ⟨c, k, i, f, a, cell, h1, h2, h3, h4, h5, h6, h7, h8, h9, -⟩ := h
  show (Cond.laysStatic C n d).holds args s none s [] = true
  exact Cond.laysStatic_of h1 h2 h3 h4 h5 h6 h7 h8 h9
/-- .. and what it holds: null or some reference -/
def vx_Zq (C n d : String) (A : Nat → Prop) (U : State) (H : Heap) : Prop := va_Zq C n d A U H ∧ vx_L C n d A U H
theorem vx_Zq.moved {C n d : String} {A : Nat → Prop} {u U : State} {H : Heap} (hvm : u.vm.Alike U.vm) (h : vx_Zq C n d A u H) : vx_Zq C n d A U H := ⟨va_Zq.moved hvm h.1, vx_L.moved hvm h.2⟩
theorem vx_Zq.kept {C n d : String} {A : Nat → Prop} {U : State} {H H1 : Heap} (h : vx_Zq C n d A U H) (hq : ∀ a : Nat, a < H.size → ¬ A a → H1[a]? = H[a]?) : vx_Zq C n d A U H1 := ⟨va_Zq.kept h.1 hq, vx_L.kept h.2 hq⟩
theorem vx_Zq.narrow {C n d : String} {A B : Nat → Prop} {U : State} {H : Heap} (h : vx_Zq C n d A U H) (hAB : ∀ q, B q → A q) : vx_Zq C n d B U H := ⟨va_Zq.narrow h.1 hAB, vx_L.narrow h.2 hAB⟩
theorem vx_Zqof {args : Array Value} {s : State} {C n d : String} {A : Nat → Prop} (hl : (Cond.laysStatic C n d).before args s = true) (hini : (Cond.initialized C).before args s = true) (h : (Cond.isRef (.static C n d)).before args s = true) (hA : ∀ a : Nat, a < s.heap.size → ¬ A a) : vx_Zq C n d A s s.heap := by
  refine ⟨va_Zqof hl hini h hA, ?_⟩
  obtain ⟨c, k, i, f, a, cell, h1, h2, h3, h4, h5, h6, h7, h8, h9⟩ := Cond.laysStatic_spec hl
  exact ⟨c, k, i, f, a, cell, h1, h2, h3, h4, h5, h6, h7, h8, h9, hA a (Array.getElem?_eq_some_iff.mp h5).1⟩
theorem vx_isRef {C n d : String} {v : Value} {A : Nat → Prop} {s : State} {args : Array Value} (h : va_Z C n d v A s s.heap) (hv : v.isRef = true) : (Cond.isRef (.static C n d)).before args s = true := by
  obtain ⟨cf, kf, fi, f, a, cell, h1, h2, h3, h4, h5, h6, h7, -⟩ := h
  have he : (Term.static C n d).eval args s none [] s = some v := by
    simp [Term.eval, State.fieldNamed?, h1, h2, h4, h5, h6, h7]
  simp only [Cond.before, Cond.holds, Cond.value, he]
  cases v <;> simp_all [Value.isRef]
theorem vx_isRefq {C n d : String} {A : Nat → Prop} {s : State} {args : Array Value} (h : va_Zq C n d A s s.heap) : (Cond.isRef (.static C n d)).before args s = true := by
  rcases h with h | ⟨t, h⟩
  · exact vx_isRef h rfl
  · exact vx_isRef h rfl
/-- the same frame, seen from here: as if the method were called anew in this heap -/
theorem vx_rebase {T : State} (X : Stand p l e R s m args below meth c T locs cells slots) {R' : Room} (hf : R'.frames ≤ R.frames) (hl : R'.locals ≤ R.locals) (hc : cells + R'.cells ≤ R.cells) (hs : slots + R'.slots ≤ R.slots) :
    Stand p l e R' ((T.setVm s.vm).setFrames (.invoking m args :: below)) m args below meth c T [] 0 0 := by
  have htop : (T.setVm s.vm).topJava?.isSome := X.here.top
  have hF : ((T.setVm s.vm).setFrames (.invoking m args :: below)).frames = .invoking m args :: below := State.frames_setFrames _ (State.cur_lt_of_top htop)
  obtain ⟨g₀, hg0⟩ := Option.isSome_iff_exists.mp htop
  obtain ⟨r, hr⟩ := State.topJava?_eq_some.mp hg0
  have hl9 : e.platform.stackLimits (T.setVm s.vm).me = e.platform.stackLimits s.me := X.limits
  have hb9 : (T.setVm s.vm).me.stackBytes = s.me.stackBytes := X.bytes
  refine ⟨X.admits, X.cas, X.clock, hF, ?_, X.hears, X.method, X.code, X.here, X.tail, X.warmed, ?_, ?_, ?_⟩
  · have h := X.room
    have hU : ((T.setVm s.vm).setFrames (.invoking m args :: below)).localsInUse = s.localsInUse := by
      rw [State.localsInUse_invoking hF (meth := meth) (c := c) X.method X.code, State.localsInUse_invoking X.frames X.method X.code]
    simp only [State.hasRoom, Bool.and_eq_true, decide_eq_true_eq] at h ⊢
    obtain ⟨⟨⟨⟨h1, h2, h3, h4, h5, h6⟩, h7⟩, h8⟩, h9⟩ := h
    rw [X.frames, List.length_cons] at h2 h3
    have q1 := X.heapSize
    have q2 := X.used
    simp only [hF, hU, List.length_cons, State.stackLimits_setFrames, State.stackBytes_setFrames, hl9, hb9]
    refine ⟨⟨⟨⟨by omega, by omega, by omega, by omega, by omega, h6⟩, ?_⟩, ?_⟩, X.book⟩
    · show T.heap.size + R'.cells ≤ e.platform.maxCells
      omega
    · show T.slotsUsed + R'.slots ≤ e.platform.maxSlots
      omega
  · rw [State.stackLimits_setFrames]; rfl
  · rw [State.stackBytes_setFrames]; rfl
  · refine ⟨?_, Nat.le_refl _, Nat.le_refl _, ?_, ?_, fun a c9 h9 => ⟨c9, h9, rfl, rfl, fun _ _ => rfl⟩⟩
    · obtain ⟨t, ht, -⟩ := State.frames_cons hr
      show T.setVm s.vm = { ((T.setVm s.vm).setFrames (.invoking m args :: below)).setFrames (T.setVm s.vm).frames with heap := T.heap, slotsUsed := T.slotsUsed }
      rw [State.setFrames_setFrames, State.setFrames_self ht]
      rfl
    · show T.slotsUsed = T.slotsUsed + ((T.heap.toList.drop T.heap.size).map (·.slots.size)).sum
      rw [List.drop_eq_nil_of_le (Nat.le_of_eq Array.length_toList)]
      rfl
    · show ((T.heap.toList.drop T.heap.size).map (·.slots.size)).sum ≤ 0
      rw [List.drop_eq_nil_of_le (Nat.le_of_eq Array.length_toList)]
      exact Nat.le_refl _
/-- 'throw new E()': new; dup; invokespecial; athrow -/
theorem vx_throw0 {cc : ByteArray} {pc : Nat} (hexec : p.tables.exec = Jvm.exec) (hb : c.code = cc) (hl : l.stackTraces = false) {own cls : String} {names : List String} {ik ic mc ms : Nat} {A : Nat → Prop}
    (hown : s.vm.findClass own = some m.cls) (hcls : Bundle.fit cls = true) (hnames : ∀ n ∈ names, Bundle.fit n = true)
    (hk : (Cond.classLink own ik cls).before args s = true) (hini : (Cond.initialized cls).before args s = true) (hat : ∀ w ∈ vx_at0 own ic cls names, w.before args s = true)
    (hgood : ∀ w ∈ Cond.classLink own ik cls :: Cond.initialized cls :: vx_at0 own ic cls names, vx_ot w = true)
    (hU : vx_Zq Bundle.tN "UNASSIGNED_STACK" Bundle.steD A s s.heap) (hN : vx_Zq Bundle.tN "SUPPRESSED_SENTINEL" Bundle.listD A s s.heap) (hS : va_S A s.heap H locs) (hsize : ls.size = c.maxLocals)
    (d0 : decode cc pc = .ok (.new ik, 3)) (d3 : decode cc (pc + 3) = .ok (.dup, 1)) (d4 : decode cc (pc + 4) = .ok (.invokespecial ic, 3)) (d7 : decode cc (pc + 7) = .ok (.athrow, 1))
    (hout : ∀ x ∈ c.exceptionTable.toList, covers x (pc + 7) = false)
    (hRframes : names.length + 3 < R.frames) (hRlocals : (rest.map fun v => v.category).sum + (13 * (names.length + 1) + 42) ≤ R.locals) (hRcells : cells + 1 ≤ R.cells) (hRslots : slots + 6 ≤ R.slots) (hlocks : meth.locks = false)
    (hx : ∀ t : State, s.vm.Alike t.vm → H.size ≤ t.heap.size → (∀ q : Nat, q < H.size → t.heap[q]? = H[q]?) → XC cls s t)
    (hf : ∀ z ∈ locs, free z.base) (hc : cells + 1 ≤ mc) (hs : slots + 6 ≤ ms) :
    W p l e R s m args below meth c H locs cells slots (vx_MQ below Qc XC args s mc ms free) (F0 m pc ls rest) := by
  intro T hT X
  have htr : e.platform.stackTraces = false := (show e.platform.stackTraces = l.stackTraces by rw [X.admits.platform]).trans hl
  have Y := vx_rebase X (R' := { frames := R.frames, locals := R.locals, cells := 1, slots := 6 }) (Nat.le_refl _) (Nat.le_refl _) hRcells hRslots
  obtain ⟨s', hA⟩ : ∃ z, z = (T.setVm s.vm).setFrames (.invoking m args :: below) := ⟨_, rfl⟩
  rw [← hA] at Y
  have hvm : s'.vm = s.vm := by rw [hA]; rfl
  have hhp : s'.heap = H := by rw [hA]; exact hT
  have hW0 : s.WarmedH s'.vm := by rw [hvm]; exact State.WarmedH.refl s
  have hat' : ∀ w ∈ vx_at0 own ic cls names, w.before args s' = true := fun w hw => vx_ot_at hW0 hvm.symm (hgood w (List.mem_cons_of_mem _ (List.mem_cons_of_mem _ hw))) (hat w hw)
  have hk' : (Cond.classLink own ik cls).before args s' = true := vx_ot_at hW0 hvm.symm (hgood _ List.mem_cons_self) hk
  have hini' : (Cond.initialized cls).before args s' = true := vx_ot_at hW0 hvm.symm (hgood _ (List.mem_cons_of_mem _ List.mem_cons_self)) hini
  have hU' : vx_Zq Bundle.tN "UNASSIGNED_STACK" Bundle.steD A s' s'.heap := by rw [hhp]; exact vx_Zq.moved hW0.alike (hU.kept hS.2.1)
  have hN' : vx_Zq Bundle.tN "SUPPRESSED_SENTINEL" Bundle.listD A s' s'.heap := by rw [hhp]; exact vx_Zq.moved hW0.alike (hN.kept hS.2.1)
  have h : ∀ w ∈ Bundle.ownAtoms0 own ic cls names, w.before args s' = true := vx_own hat' (vx_isRefq hU'.1) (vx_isRefq hN'.1) hU'.2.word hN'.2.word
  have hown' : s'.vm.findClass own = some m.cls := by rw [hvm]; exact hown
  have hins : (Cond.instantiable cls 6).before args s' = true := h _ (by simp [Bundle.ownAtoms0])
  obtain ⟨vm₁, cX, kX, hfX, hkX, -, -, X₁, st1⟩ := Y.newCold hexec (own := own) (C := cls) (index := ik) (n := 6) hown' hk' hins hini'
    (g := F0 m pc ls rest) rfl (by rw [hb]; exact d0) (Nat.le_refl _) (Nat.le_refl _)
  generalize hT1 : (T.setVm vm₁).pushCell { cls := cX, slots := kX.instanceTypes.map defaultValue, vm := .none } = T1 at X₁ st1
  have hcat : (Value.ref T.heap.size).category = 1 := rfl
  have hcellA : T1.heap[T.heap.size]? = some (freshCell cX kX) := by rw [← hT1]; exact State.heap_pushCell_size _ _
  have d3' : decode c.code (pc + 3) = .ok (.dup, 1) := by rw [hb]; exact d3
  obtain ⟨U, hsteps, hrun, hend, hW, hsame, ce, hce, hO⟩ := X₁.ctorThrow0 hexec htr (own := own) (cls := cls) (names := names) (ic := ic) hown' hcls hnames h (fun x hx => nomatch hx) hfX hkX hcellA (by rw [hhp, hT]; exact Nat.le_refl _)
    (g := { method := m, pc := pc + 4, locals := ls, stack := .ref T.heap.size :: .ref T.heap.size :: rest, locked := none }) rfl hsize rfl rfl (rest := rest) rfl
    (by rw [hb]; exact d4) (by rw [hb]; exact d7) hout hRframes (by simp only [List.map_cons, List.sum_cons, hcat]; omega) hlocks
  obtain ⟨f1, f2⟩ := vx_frame hsame
  rw [hhp] at f1 f2
  have hWs : s.WarmedH U.vm := State.WarmedH.trans hW0 hW
  have hcl : s.vm.findClass cls = some ce.cls := by
    have h9 := hO.cls
    rw [hvm] at h9
    exact h9
  have hall : s.sameButNew ({ U with vm := s.vm } : State) locs mc ms := by
    subst hA
    obtain ⟨e1, e2⟩ := hsame
    rw [State.setFrames_setFrames] at e1
    have h2 : (T.setVm s.vm).sameButNew ({ U with vm := s.vm } : State) [] (0 + 1) (0 + 6) := ⟨e1, e2⟩
    have h3 := X.same.trans h2
    rw [List.append_nil] at h3
    exact h3.mono hc hs
  refine ⟨U, ?_, .threw T.heap.size, hrun, hend, Or.inr ⟨T.heap.size, rfl, cls, ce, locs, hx U hWs.alike f1 (fun q hq => f2 q hq (fun z hz => nomatch hz)), hce, hO.vm, hcl, hWs, hall, hf⟩⟩
  refine st1 _ ?_
  show Steps p.tables e below (T1.setTop { method := m, pc := pc + 3, locals := ls, stack := .ref T.heap.size :: rest, locked := none }) _
  jvm_step X₁.here [X₁.here.top, hexec, d3', Value.category]
  exact hsteps
/-- 'throw new E("text")': new; dup; ldc; invokespecial; athrow -/
theorem vx_throwS {cc : ByteArray} {pc : Nat} (hexec : p.tables.exec = Jvm.exec) (hb : c.code = cc) (hl : l.stackTraces = false) {own cls text : String} {names : List String} {ik is ic mc ms sa : Nat} {A : Nat → Prop}
    (hown : s.vm.findClass own = some m.cls) (hcls : Bundle.fit cls = true) (hnames : ∀ n ∈ names, Bundle.fit n = true)
    (hk : (Cond.classLink own ik cls).before args s = true) (hini : (Cond.initialized cls).before args s = true) (hstr : vk_R own is text sa s) (hat : ∀ w ∈ vx_atS own ic cls names, w.before args s = true)
    (hgood : ∀ w ∈ Cond.classLink own ik cls :: Cond.initialized cls :: vx_atS own ic cls names, vx_ot w = true)
    (hU : vx_Zq Bundle.tN "UNASSIGNED_STACK" Bundle.steD A s s.heap) (hN : vx_Zq Bundle.tN "SUPPRESSED_SENTINEL" Bundle.listD A s s.heap) (hS : va_S A s.heap H locs) (hsize : ls.size = c.maxLocals)
    (d0 : decode cc pc = .ok (.new ik, 3)) (d3 : decode cc (pc + 3) = .ok (.dup, 1)) (d4 : decode cc (pc + 4) = .ok (.ldc is, 2)) (d6 : decode cc (pc + 6) = .ok (.invokespecial ic, 3)) (d9 : decode cc (pc + 9) = .ok (.athrow, 1))
    (hout : ∀ x ∈ c.exceptionTable.toList, covers x (pc + 9) = false)
    (hRframes : names.length + 3 < R.frames) (hRlocals : (rest.map fun v => v.category).sum + (13 * (names.length + 1) + 43) ≤ R.locals) (hRcells : cells + 1 ≤ R.cells) (hRslots : slots + 6 ≤ R.slots) (hlocks : meth.locks = false)
    (hx : ∀ t : State, s.vm.Alike t.vm → H.size ≤ t.heap.size → (∀ q : Nat, q < H.size → t.heap[q]? = H[q]?) → XC cls s t)
    (hf : ∀ z ∈ locs, free z.base) (hc : cells + 1 ≤ mc) (hs : slots + 6 ≤ ms) :
    W p l e R s m args below meth c H locs cells slots (vx_MQ below Qc XC args s mc ms free) (F0 m pc ls rest) := by
  intro T hT X
  have htr : e.platform.stackTraces = false := (show e.platform.stackTraces = l.stackTraces by rw [X.admits.platform]).trans hl
  have Y := vx_rebase X (R' := { frames := R.frames, locals := R.locals, cells := 1, slots := 6 }) (Nat.le_refl _) (Nat.le_refl _) hRcells hRslots
  obtain ⟨s', hA⟩ : ∃ z, z = (T.setVm s.vm).setFrames (.invoking m args :: below) := ⟨_, rfl⟩
  rw [← hA] at Y
  have hvm : s'.vm = s.vm := by rw [hA]; rfl
  have hhp : s'.heap = H := by rw [hA]; exact hT
  have hW0 : s.WarmedH s'.vm := by rw [hvm]; exact State.WarmedH.refl s
  have hat' : ∀ w ∈ vx_atS own ic cls names, w.before args s' = true := fun w hw => vx_ot_at hW0 hvm.symm (hgood w (List.mem_cons_of_mem _ (List.mem_cons_of_mem _ hw))) (hat w hw)
  have hk' : (Cond.classLink own ik cls).before args s' = true := vx_ot_at hW0 hvm.symm (hgood _ List.mem_cons_self) hk
  have hini' : (Cond.initialized cls).before args s' = true := vx_ot_at hW0 hvm.symm (hgood _ (List.mem_cons_of_mem _ List.mem_cons_self)) hini
  have hU' : vx_Zq Bundle.tN "UNASSIGNED_STACK" Bundle.steD A s' s'.heap := by rw [hhp]; exact vx_Zq.moved hW0.alike (hU.kept hS.2.1)
  have hN' : vx_Zq Bundle.tN "SUPPRESSED_SENTINEL" Bundle.listD A s' s'.heap := by rw [hhp]; exact vx_Zq.moved hW0.alike (hN.kept hS.2.1)
  have h : ∀ w ∈ Bundle.ownAtoms own ic cls names, w.before args s' = true := vx_own hat' (vx_isRefq hU'.1) (vx_isRefq hN'.1) hU'.2.word hN'.2.word
  have hown' : s'.vm.findClass own = some m.cls := by rw [hvm]; exact hown
  have hins : (Cond.instantiable cls 6).before args s' = true := h _ (by simp [Bundle.ownAtoms])
  obtain ⟨vm₁, cX, kX, hfX, hkX, -, -, X₁, st1⟩ := Y.newCold hexec (own := own) (C := cls) (index := ik) (n := 6) hown' hk' hins hini'
    (g := F0 m pc ls rest) rfl (by rw [hb]; exact d0) (Nat.le_refl _) (Nat.le_refl _)
  generalize hT1 : (T.setVm vm₁).pushCell { cls := cX, slots := kX.instanceTypes.map defaultValue, vm := .none } = T1 at X₁ st1
  have hcat : (Value.ref T.heap.size).category = 1 := rfl
  have hcellA : T1.heap[T.heap.size]? = some (freshCell cX kX) := by rw [← hT1]; exact State.heap_pushCell_size _ _
  have d3' : decode c.code (pc + 3) = .ok (.dup, 1) := by rw [hb]; exact d3
  have d4' : decode c.code (pc + 4) = .ok (.ldc is, 2) := by rw [hb]; exact d4
  have hstr' : vk_R own is text sa s' := vk_R.warm hW0 hstr
  obtain ⟨U, hsteps, hrun, hend, hW, hsame, ce, hce, hO⟩ := X₁.ctorThrowS hexec htr (own := own) (cls := cls) (names := names) (ic := ic) hown' hcls hnames h (fun x hx => nomatch hx) hfX hkX hcellA (by rw [hhp, hT]; exact Nat.le_refl _) (msg := .ref sa) rfl
    (g := { method := m, pc := pc + 6, locals := ls, stack := .ref sa :: .ref T.heap.size :: .ref T.heap.size :: rest, locked := none }) rfl hsize rfl rfl (rest := rest) rfl
    (by rw [hb]; exact d6) (by rw [hb]; exact d9) hout hRframes (by simp only [List.map_cons, List.sum_cons, hcat]; omega) hlocks
  obtain ⟨f1, f2⟩ := vx_frame hsame
  rw [hhp] at f1 f2
  have hWs : s.WarmedH U.vm := State.WarmedH.trans hW0 hW
  have hcl : s.vm.findClass cls = some ce.cls := by
    have h9 := hO.cls
    rw [hvm] at h9
    exact h9
  have hall : s.sameButNew ({ U with vm := s.vm } : State) locs mc ms := by
    subst hA
    obtain ⟨e1, e2⟩ := hsame
    rw [State.setFrames_setFrames] at e1
    have h2 : (T.setVm s.vm).sameButNew ({ U with vm := s.vm } : State) [] (0 + 1) (0 + 6) := ⟨e1, e2⟩
    have h3 := X.same.trans h2
    rw [List.append_nil] at h3
    exact h3.mono hc hs
  refine ⟨U, ?_, .threw T.heap.size, hrun, hend, Or.inr ⟨T.heap.size, rfl, cls, ce, locs, hx U hWs.alike f1 (fun q hq => f2 q hq (fun z hz => nomatch hz)), hce, hO.vm, hcl, hWs, hall, hf⟩⟩
  refine st1 _ ?_
  show Steps p.tables e below (T1.setTop { method := m, pc := pc + 3, locals := ls, stack := .ref T.heap.size :: rest, locked := none }) _
  jvm_step X₁.here [X₁.here.top, hexec, d3', Value.category]
  exact X₁.ldcString hexec (own := own) (text := text) (index := is) (a := sa) hown' hstr'.1 hstr'.2
    (g := { method := m, pc := pc + 4, locals := ls, stack := .ref T.heap.size :: .ref T.heap.size :: rest, locked := none }) rfl d4' _ hsteps
/-- 'throw new E("text")', the text by a wide index -/
theorem vx_throwSW {cc : ByteArray} {pc : Nat} (hexec : p.tables.exec = Jvm.exec) (hb : c.code = cc) (hl : l.stackTraces = false) {own cls text : String} {names : List String} {ik is ic mc ms sa : Nat} {A : Nat → Prop}
    (hown : s.vm.findClass own = some m.cls) (hcls : Bundle.fit cls = true) (hnames : ∀ n ∈ names, Bundle.fit n = true)
    (hk : (Cond.classLink own ik cls).before args s = true) (hini : (Cond.initialized cls).before args s = true) (hstr : vk_R own is text sa s) (hat : ∀ w ∈ vx_atS own ic cls names, w.before args s = true)
    (hgood : ∀ w ∈ Cond.classLink own ik cls :: Cond.initialized cls :: vx_atS own ic cls names, vx_ot w = true)
    (hU : vx_Zq Bundle.tN "UNASSIGNED_STACK" Bundle.steD A s s.heap) (hN : vx_Zq Bundle.tN "SUPPRESSED_SENTINEL" Bundle.listD A s s.heap) (hS : va_S A s.heap H locs) (hsize : ls.size = c.maxLocals)
    (d0 : decode cc pc = .ok (.new ik, 3)) (d3 : decode cc (pc + 3) = .ok (.dup, 1)) (d4 : decode cc (pc + 4) = .ok (.ldc_w is, 3)) (d7 : decode cc (pc + 7) = .ok (.invokespecial ic, 3)) (d10 : decode cc (pc + 10) = .ok (.athrow, 1))
    (hout : ∀ x ∈ c.exceptionTable.toList, covers x (pc + 10) = false)
    (hRframes : names.length + 3 < R.frames) (hRlocals : (rest.map fun v => v.category).sum + (13 * (names.length + 1) + 43) ≤ R.locals) (hRcells : cells + 1 ≤ R.cells) (hRslots : slots + 6 ≤ R.slots) (hlocks : meth.locks = false)
    (hx : ∀ t : State, s.vm.Alike t.vm → H.size ≤ t.heap.size → (∀ q : Nat, q < H.size → t.heap[q]? = H[q]?) → XC cls s t)
    (hf : ∀ z ∈ locs, free z.base) (hc : cells + 1 ≤ mc) (hs : slots + 6 ≤ ms) :
    W p l e R s m args below meth c H locs cells slots (vx_MQ below Qc XC args s mc ms free) (F0 m pc ls rest) := by
  intro T hT X
  have htr : e.platform.stackTraces = false := (show e.platform.stackTraces = l.stackTraces by rw [X.admits.platform]).trans hl
  have Y := vx_rebase X (R' := { frames := R.frames, locals := R.locals, cells := 1, slots := 6 }) (Nat.le_refl _) (Nat.le_refl _) hRcells hRslots
  obtain ⟨s', hA⟩ : ∃ z, z = (T.setVm s.vm).setFrames (.invoking m args :: below) := ⟨_, rfl⟩
  rw [← hA] at Y
  have hvm : s'.vm = s.vm := by rw [hA]; rfl
  have hhp : s'.heap = H := by rw [hA]; exact hT
  have hW0 : s.WarmedH s'.vm := by rw [hvm]; exact State.WarmedH.refl s
  have hat' : ∀ w ∈ vx_atS own ic cls names, w.before args s' = true := fun w hw => vx_ot_at hW0 hvm.symm (hgood w (List.mem_cons_of_mem _ (List.mem_cons_of_mem _ hw))) (hat w hw)
  have hk' : (Cond.classLink own ik cls).before args s' = true := vx_ot_at hW0 hvm.symm (hgood _ List.mem_cons_self) hk
  have hini' : (Cond.initialized cls).before args s' = true := vx_ot_at hW0 hvm.symm (hgood _ (List.mem_cons_of_mem _ List.mem_cons_self)) hini
  have hU' : vx_Zq Bundle.tN "UNASSIGNED_STACK" Bundle.steD A s' s'.heap := by rw [hhp]; exact vx_Zq.moved hW0.alike (hU.kept hS.2.1)
  have hN' : vx_Zq Bundle.tN "SUPPRESSED_SENTINEL" Bundle.listD A s' s'.heap := by rw [hhp]; exact vx_Zq.moved hW0.alike (hN.kept hS.2.1)
  have h : ∀ w ∈ Bundle.ownAtoms own ic cls names, w.before args s' = true := vx_own hat' (vx_isRefq hU'.1) (vx_isRefq hN'.1) hU'.2.word hN'.2.word
  have hown' : s'.vm.findClass own = some m.cls := by rw [hvm]; exact hown
  have hins : (Cond.instantiable cls 6).before args s' = true := h _ (by simp [Bundle.ownAtoms])
  obtain ⟨vm₁, cX, kX, hfX, hkX, -, -, X₁, st1⟩ := Y.newCold hexec (own := own) (C := cls) (index := ik) (n := 6) hown' hk' hins hini'
    (g := F0 m pc ls rest) rfl (by rw [hb]; exact d0) (Nat.le_refl _) (Nat.le_refl _)
  generalize hT1 : (T.setVm vm₁).pushCell { cls := cX, slots := kX.instanceTypes.map defaultValue, vm := .none } = T1 at X₁ st1
  have hcat : (Value.ref T.heap.size).category = 1 := rfl
  have hcellA : T1.heap[T.heap.size]? = some (freshCell cX kX) := by rw [← hT1]; exact State.heap_pushCell_size _ _
  have d3' : decode c.code (pc + 3) = .ok (.dup, 1) := by rw [hb]; exact d3
  have d4' : decode c.code (pc + 4) = .ok (.ldc_w is, 3) := by rw [hb]; exact d4
  have hstr' : vk_R own is text sa s' := vk_R.warm hW0 hstr
  obtain ⟨U, hsteps, hrun, hend, hW, hsame, ce, hce, hO⟩ := X₁.ctorThrowS hexec htr (own := own) (cls := cls) (names := names) (ic := ic) hown' hcls hnames h (fun x hx => nomatch hx) hfX hkX hcellA (by rw [hhp, hT]; exact Nat.le_refl _) (msg := .ref sa) rfl
    (g := { method := m, pc := pc + 7, locals := ls, stack := .ref sa :: .ref T.heap.size :: .ref T.heap.size :: rest, locked := none }) rfl hsize rfl rfl (rest := rest) rfl
    (by rw [hb]; exact d7) (by rw [hb]; exact d10) hout hRframes (by simp only [List.map_cons, List.sum_cons, hcat]; omega) hlocks
  obtain ⟨f1, f2⟩ := vx_frame hsame
  rw [hhp] at f1 f2
  have hWs : s.WarmedH U.vm := State.WarmedH.trans hW0 hW
  have hcl : s.vm.findClass cls = some ce.cls := by
    have h9 := hO.cls
    rw [hvm] at h9
    exact h9
  have hall : s.sameButNew ({ U with vm := s.vm } : State) locs mc ms := by
    subst hA
    obtain ⟨e1, e2⟩ := hsame
    rw [State.setFrames_setFrames] at e1
    have h2 : (T.setVm s.vm).sameButNew ({ U with vm := s.vm } : State) [] (0 + 1) (0 + 6) := ⟨e1, e2⟩
    have h3 := X.same.trans h2
    rw [List.append_nil] at h3
    exact h3.mono hc hs
  refine ⟨U, ?_, .threw T.heap.size, hrun, hend, Or.inr ⟨T.heap.size, rfl, cls, ce, locs, hx U hWs.alike f1 (fun q hq => f2 q hq (fun z hz => nomatch hz)), hce, hO.vm, hcl, hWs, hall, hf⟩⟩
  refine st1 _ ?_
  show Steps p.tables e below (T1.setTop { method := m, pc := pc + 3, locals := ls, stack := .ref T.heap.size :: rest, locked := none }) _
  jvm_step X₁.here [X₁.here.top, hexec, d3', Value.category]
  exact X₁.ldcStringW hexec (own := own) (text := text) (index := is) (a := sa) hown' hstr'.1 hstr'.2
    (g := { method := m, pc := pc + 4, locals := ls, stack := .ref T.heap.size :: .ref T.heap.size :: rest, locked := none }) rfl d4' _ hsteps
end Ends
section Bodies
variable {l : Launch}
theorem vx_ofW {y : MethodName} {ws ws' : List Cond} {rm : Room} {Pc : Array Value → State → Prop} {Qc : Array Value → State → Outcome → State → Prop} {XC : String → State → State → Prop} {mc ms : Nat} {free : Addr → Prop} {cc : ByteArray} {maxL : Nat} {ret : Option FieldType}
    (hy : plainName y.cls = true) (hw : ws = Cond.code y cc maxL ret :: ws')
    (body : ∀ p e s m args below meth c s₁, BodyLoose p l y (headSpec ws rm) cc maxL ret e s m args below meth c s₁ → c.maxLocals = maxL → (∀ x ∈ c.exceptionTable.toList, False) → Pc args s →
      W p l e (headSpec ws rm).room s m args below meth c s.heap [] 0 0 (vx_MQ below Qc XC args s mc ms free) (entryFrame m args maxL)) : vx_Met l y ws rm Pc Qc XC mc ms free := by
  refine MetFree.of_bodyS (code := cc) (maxLocals := maxL) (ret := ret) hy ?_ ?_
  · intro args s m h hn
    obtain ⟨meth, c, h1, h2, h3, h4, h5, h6, -, -⟩ := Cond.code_spec hn (atoms_spec (ws := ws) h _ (by rw [hw]; exact List.mem_cons_self))
    exact ⟨meth, c, h1, h2, h3, h4, h5, h6⟩
  · intro p e s m args below meth c s₁ B hml hP _
    have hh0 : s₁.heap = s.heap := by rw [B.state]; rfl
    have ht : ∀ x ∈ c.exceptionTable.toList, False := by
      obtain ⟨meth9, c9, h1, h2, -, -, -, -, h7, -⟩ := Cond.code_spec B.named (atoms_spec (ws := ws) B.pre _ (by rw [hw]; exact List.mem_cons_self))
      cases Option.some.inj (h1.symm.trans B.method)
      cases Option.some.inj (h2.symm.trans (Stand.of_body B).code)
      intro x hx
      rw [Array.isEmpty_iff.mp h7] at hx
      cases hx
    obtain ⟨t, a1, o, b1, b2, b3⟩ := body p e s m args below meth c s₁ B hml ht hP s₁ hh0 (Stand.of_body B)
    exact ⟨t, o, a1, b1, b2, b3⟩
/-- the table of a body with handlers -/
theorem vx_table {p : Program} {x y : MethodName} {S : Spec} {cc bytes : ByteArray} {maxL maxL' : Nat} {ret ret' : Option FieldType} {e : Env} {s s₁ : State} {m : MethodId} {args : Array Value} {below : List Frame} {meth : Method} {c : Code} {hh : List (Nat × Nat × Nat × Nat)}
    (B : BodyLoose p l y S cc maxL ret e s m args below meth c s₁) (h : (Cond.codeWith y bytes maxL' ret' hh).before args s = true) : c.exceptionTable.toList = tableOf hh := by
  obtain ⟨m9, meth9, c9, hn9, h1, h2, -, -, h6, -⟩ := Cond.codeWith_spec h
  cases Option.some.inj (hn9.symm.trans B.named)
  cases Option.some.inj (h1.symm.trans B.method)
  cases Option.some.inj (h2.symm.trans (Stand.of_body B).code)
  rw [← h6, table_eq]
end Bodies
end VXA
/-! ===== END ===== -/
/-! ===== BEGIN a static call of a method with an exception table ===== -/
section VXS
variable {p : Program} {l : Launch} {e : Env} {R : Room} {s : State} {m : MethodId} {args : Array Value} {below : List Frame} {meth : Method} {c : Code} {T : State} {H : Heap} {locs : List Loc} {cells slots : Nat}
abbrev vx_CSW (R : Room) (s : State) (args : Array Value) (own : String) (index : Nat) (y : MethodName) (bytes : ByteArray) (maxL : Nat) (ret : Option FieldType) (hh : List (Nat × Nat × Nat × Nat)) (ws : List Cond) (rm : Room) (mc ms n : Nat) : Prop :=
  (rm.cells = mc ∧ rm.slots = ms ∧ rm.frames + 1 ≤ R.frames ∧ 8 + (maxL + 11) + rm.locals ≤ R.locals ∧ (∀ w ∈ ws, ∀ (a' : Array Value) (U : State), s.WarmedH U.vm → w.before a' U = true) ∧ Cond.codeWith y bytes maxL ret hh ∈ ws) ∧
  (Cond.codeWith y bytes maxL ret hh).before args s = true ∧ (Cond.initialized y.cls).before args s = true ∧ (y.cls ≠ "java/lang/invoke/MethodHandle" ∧ y.cls ≠ "java/lang/invoke/VarHandle") ∧
  (∀ sig, parseMethodDescriptor y.desc = some sig → n = sig.parameters.length) ∧ (Cond.methodLink own index y).before args s = true ∧ (Cond.static y).before args s = true
theorem vx_cwSW {own : String} {index maxL mc ms : Nat} {y : MethodName} {bytes : ByteArray} {ret : Option FieldType} {hh : List (Nat × Nat × Nat × Nat)} {Ts ws ws' : List Cond} {rm : Room} (n : Nat) (ht : ∀ w ∈ Ts, w.before args s = true) (hT : GoodIn Ts (va_wsS own index y ws)) (hw : ws = Cond.codeWith y bytes maxL ret hh :: ws') (hrc : rm.cells = mc) (hrs : rm.slots = ms)
    (hd : y.cls ≠ "java/lang/invoke/MethodHandle" ∧ y.cls ≠ "java/lang/invoke/VarHandle" ∧ (parseMethodDescriptor y.desc).map (fun d => d.parameters.length) = some n) (hR : rm.frames + 1 ≤ R.frames ∧ 8 + (maxL + 11) + rm.locals ≤ R.locals) :
    vx_CSW R s args own index y bytes maxL ret hh ws rm mc ms n := by
  have ok : ∀ w ∈ va_wsS own index y ws, w.before args s = true := fun w h => ht w (hT w h).1
  have hG : GoodIn Ts ws := fun w h => hT w (by unfold va_wsS; exact List.mem_append_right _ h)
  have hc : Cond.codeWith y bytes maxL ret hh ∈ ws := by rw [hw]; exact List.mem_cons_self
  refine ⟨⟨hrc, hrs, hR.1, hR.2, pay_in ht hG, hc⟩, ht _ (hG _ hc).1, ok _ (by simp [va_wsS]), ⟨hd.1, hd.2.1⟩, fun sig h => ?_, ok _ (by simp [va_wsS]), ok _ (by simp [va_wsS])⟩
  have h2 := hd.2.2
  rw [h] at h2
  exact (Option.some.inj h2).symm
theorem vx_callSW (X : Stand p l e R s m args below meth c T locs cells slots) (hexec : p.tables.exec = Jvm.exec) {own : String} {index : Nat} {y : MethodName} {bytes : ByteArray} {maxL : Nat} {ret : Option FieldType} {hh : List (Nat × Nat × Nat × Nat)}
    (hown : s.vm.findClass own = some m.cls) (hlink : (Cond.methodLink own index y).before args s = true) (hstat : (Cond.static y).before args s = true) (hinit : (Cond.initialized y.cls).before args s = true)
    (hcode : (Cond.codeWith y bytes maxL ret hh).before args s = true) (hy : y.cls ≠ "java/lang/invoke/MethodHandle" ∧ y.cls ≠ "java/lang/invoke/VarHandle")
    {W9 : Nat} {Pre : Pt → Array Value → Prop} {Post : Pt → Array Value → Option Value → Pt → Prop} (hK : Back l R p e below s args y 3 W9 Pre Post)
    {g : JFrame} (hg : g.method = m) (hsize : g.locals.size = c.maxLocals) {argsL rest : List Value} (hlen : ∀ sig, parseMethodDescriptor y.desc = some sig → argsL.length = sig.parameters.length)
    (hstack : g.stack = argsL.reverse ++ rest) (hW : 2 * g.monitorRoom + (rest.map fun v => v.category).sum ≤ W9) (hdg : decode c.code g.pc = .ok (.invokestatic index, 3))
    (hpre : ∀ vm₁, s.WarmedH vm₁ → Pre ⟨T.setVm vm₁, locs, cells, slots⟩ argsL.toArray) :
    ∃ (v : Option Value) (vm₁ : Vm) (B : Pt), s.WarmedH vm₁ ∧ Stand p l e R s m args below meth c B.U B.locs B.cells B.slots ∧ Post ⟨T.setVm vm₁, locs, cells, slots⟩ argsL.toArray v B ∧
      ∀ target, Steps p.tables e below (B.U.setTop { g with pc := g.pc + 3, stack := v.toList ++ rest }) target → Steps p.tables e below (T.setTop g) target := by
  obtain ⟨mk, methM, cM, hnamed, hmethM, -, -, -, -, -, -, hsigM⟩ := Cond.codeWith_spec hcode
  have hstatic : methM.isStatic = true := Cond.static_spec hnamed hmethM hstat
  obtain ⟨kP, hkP, -⟩ := className_of_methodNamed hnamed
  have hinitP : kP.init = .initialized := Cond.initialized_spec (findClass_of_methodNamed hnamed) hkP hinit
  obtain ⟨vm₁, X₁, hstep₁⟩ := X.invokestatic hexec hown hlink hnamed hmethM hstatic hkP hinitP hy (g := g) hg (argsL := argsL) (rest := rest) (hlen _ hsigM) hstack hdg
  obtain ⟨v, B, X', hpost, hsteps⟩ := hK m meth c ⟨T.setVm vm₁, locs, cells, slots⟩ { g with stack := rest } (.invokestatic index) mk argsL.toArray X₁ hg hsize hdg hW (X₁.named hnamed) (hpre vm₁ X₁.warmed)
  exact ⟨v, vm₁, B, X₁.warmed, X', hpost, fun target h => hstep₁ _ fun acts => by rw [doInvoke_state]; exact hsteps.trans h⟩
theorem vx_runSW {y : MethodName} {bytes cc : ByteArray} {maxL nL mc ms n index : Nat} {ret : Option FieldType} {hh : List (Nat × Nat × Nat × Nat)} {ws : List Cond} {rm : Room} {Pc : Array Value → State → Prop} {Qc : Array Value → State → Outcome → State → Prop} {free : Addr → Prop} {Ts : List Cond} {own : String} {As rest : List Value} {g : JFrame}
    (S : CallFix p m c cc nL s args Ts own) (hM : Met l y ws rm Pc Qc mc ms free) (cw : vx_CSW R s args own index y bytes maxL ret hh ws rm mc ms n) (hp : PreS s H Pc As)
    (hg : g.method = m) (hn : As.length = n) (hsize : g.locals.size = nL) (hstack : g.stack = As.reverse ++ rest) (hW : 2 * g.monitorRoom + (rest.map fun v => v.category).sum ≤ 8) (hdg : decode cc g.pc = .ok (.invokestatic index, 3)) (hf : cells + mc ≤ R.cells ∧ slots + ms ≤ R.slots) :
    va_Run p l e R s m args below meth c H locs cells slots mc ms g rest (Qc As.toArray) (free) := by
  obtain ⟨⟨hrc, hrs, hfr, hlo, hws, hcw⟩, hcode, hini, hy, hlen, hl, hstt⟩ := cw
  have hK : Back l R p e below s args y 3 8 (PreOf R mc ms Pc) (PostOf Qc mc ms free) := va_backW (hh := hh) (bytes := bytes) (maxL := maxL) (ret := ret) hM hp.1 hrc hrs hfr hlo hws hcw (fun a' U hW => word_at hW (Or.inl (by first | rfl | simp [Cond.onTables, Cond.keeps, Cond.steady])) hini)
  obtain ⟨hx, hb, hml, ho, -⟩ := S
  intro T hT X
  obtain ⟨v, vm₁, ⟨U', l2, c2, s2⟩, hW₁, X', ⟨g', mk, t, L, e1, e2, hq, h1, hL, h2, h3⟩, st⟩ := vx_callSW X hx (hh := hh) (bytes := bytes) (maxL := maxL) (ret := ret) ho hl hstt hini hcode hy hK hg (hsize.trans hml.symm) (argsL := As) (rest := rest) (fun sig h => hn.trans (hlen sig h)) hstack hW (by rw [hb]; exact hdg)
    (fun vm₁ hW₁ => ⟨hf.1, hf.2, hp.2 (T.setVm vm₁) hT hW₁⟩)
  dsimp only [Pt.U, Pt.locs, Pt.cells, Pt.slots] at X' e1 e2 h1 h2 h3 st
  subst h1; subst h2; subst h3
  exact ⟨v, (T.setVm vm₁).calling g' mk As.toArray, t, U', L, hT, X', hL, e1, e2, hq, st⟩
/-- not caught here, past rows that name other classes: it goes on to the caller -/
theorem vx_outP {p : Program} {l : Launch} {e : Env} {R : Room} {s : State} {m : MethodId} {args : Array Value} {below : List Frame} {meth : Method} {c : Code} {H : Heap} {locs : List Loc} {cells slots : Nat} {free : Addr → Prop} {ls : Array Slot} {rest : List Value} {Qc : Array Value → State → Outcome → State → Prop} {XC : String → State → State → Prop}
    {pc : Nat} {own E : String} {ce : Cell} {q : Addr} {mc ms : Nat} (hown : s.vm.findClass own = some m.cls) (hlocks : meth.locks = false)
    (hpass : ∀ z ∈ c.exceptionTable.toList, covers z pc = false ∨ (z.catchType ≠ 0 ∧ ∃ nm : String, (Cond.classLink own z.catchType nm).before args s = true ∧ va_Nc E nm s)) (hcell : H[q]? = some ce) (hv : ce.vm = .none) (hcl : s.vm.findClass E = some ce.cls)
    (hx : ∀ t : State, t.heap = H → s.vm.Alike t.vm → XC E s t) (hf : ∀ z ∈ locs, free z.base) (hc : cells ≤ mc) (hs : slots ≤ ms) :
    vx_W p l e R s m args below meth c H locs cells slots (vx_MQ below Qc XC args s mc ms free) (F0 m pc ls rest) q := by
  intro T hT X
  have hpl : e.platform.magicAccessors = ({} : Platform).magicAccessors := by rw [X.admits.platform]
  obtain ⟨vm', hW', X', st⟩ := X.outThrough hlocks q (g := F0 m pc ls rest) rfl rfl rfl (cell := ce) (by rw [hT]; exact hcell) (by rw [hv]; rfl)
    (by obtain ⟨k9, h9, -⟩ := Vm.findClass_spec hcl; exact ⟨k9, h9⟩) (fun z hz => by
      rcases hpass z hz with h | ⟨hz0, nm, hl1, hn1⟩
      · exact Or.inl h
      · obtain ⟨c6, hc6, hcl6⟩ := Cond.classLink_spec hown hl1 e.platform hpl
        obtain ⟨a8, b8, h1, h2, h3⟩ := hn1
        cases Option.some.inj (h1.symm.trans hcl)
        cases Option.some.inj (h2.symm.trans hc6)
        exact Or.inr ⟨hz0, _, hcl6, h3⟩)
  obtain ⟨g₀, hfr⟩ := X'.frames_eq
  have hcell9 : ((T.setVm vm').setFrames (.throwing q :: below)).heap[q]? = some ce := by
    show T.heap[q]? = some ce
    rw [hT]; exact hcell
  have hend : Ended ((T.setVm vm').setFrames (.throwing q :: below)) below (.threw q) := State.frames_setFrames _ (State.cur_lt_of_frames hfr)
  refine ⟨(T.setVm vm').setFrames (.throwing q :: below), ?_, .threw q, X'.here.running, hend, Or.inr ⟨q, rfl, E, ce, locs, hx _ hT (X'.ends _).1.alike, hcell9, hv, hcl, (X'.ends _).1, (X'.ends _).2.mono hc hs, hf⟩⟩
  rw [X.pushThrowing_eq]
  exact st
/-- a thing of a world lies in the heap -/
theorem vx_lt {D : va_G} {cl : List vw_C} {ws : va_W} {H1 : Heap} (h : va_P D cl ws H1) {k : Nat} {q : Nat × va_E} (hk : ws[k]? = some q) : q.1 < H1.size := (h k q hk).lt
end VXS
/-! ===== END ===== -/
/-! ===== BEGIN methods with a table of their own: called by a name, returning or throwing ===== -/
section VXH
/-! vx_backW, vx_callVX, vx_callSX, vx_callVW, vx_runVW, vx_runVX, vx_runSX, vx_ofWH follow the same proofs as their sisters above (Free/Laws.lean, Shelf42/LK1.lean); vx_outP calls Shelf42/NT130.lean (outThrough). -/
section
variable {l : Launch} {R : Room} {p : Program} {e : Env} {below : List Frame} {s : State} {sargs : Array Value} {y : MethodName} {len W9 : Nat}
theorem vx_backW {ws : List Cond} {rm : Room} {Pc : Array Value → State → Prop} {Qc : Array Value → State → Outcome → State → Prop} {XC : String → State → State → Prop} {mc ms : Nat} {free : Addr → Prop} {bytes : ByteArray} {maxL : Nat} {ret : Option FieldType} {hh : List (Nat × Nat × Nat × Nat)}
    (hM : vx_Met l y ws rm Pc Qc XC mc ms free) (hblind : FrameBlind Pc) (hrc : rm.cells = mc) (hrs : rm.slots = ms)
    (hframes : rm.frames + 1 ≤ R.frames) (hlocals : W9 + (maxL + 11) + rm.locals ≤ R.locals)
    (hws : ∀ w ∈ ws, ∀ a' U, s.WarmedH U.vm → w.before a' U = true) (hcode : Cond.codeWith y bytes maxL ret hh ∈ ws) (hinit : ∀ a' U, s.WarmedH U.vm → (Cond.initialized y.cls).before a' U = true) :
    vx_Back l R p e below s sargs y len W9 (PreOf R mc ms Pc) (PostOf Qc mc ms free) (vx_Post XC mc ms free) := by
  intro m meth c A g ig mk a X hg hsize hdg hW hn hp
  have h1 : (headSpec ws rm).pre.before a A.U = true := atoms_intro fun w hw => hws w hw _ _ X.warmed
  have h2 : (Cond.codeWith y bytes maxL ret hh).before a A.U = true := hws _ hcode _ _ X.warmed
  have h3 : (Cond.initialized y.cls).before a A.U = true := hinit _ _ X.warmed
  have h4 : A.cells + (headSpec ws rm).room.cells ≤ R.cells := by rw [show (headSpec ws rm).room.cells = mc from hrc]; exact hp.1
  have h5 : A.slots + (headSpec ws rm).room.slots ≤ R.slots := by rw [show (headSpec ws rm).room.slots = ms from hrs]; exact hp.2.1
  have hPc : Pc a (A.U.calling g mk a) := hblind _ _ _ _ hp.2.2
  obtain ⟨U, Ls, c0, s0⟩ := A
  dsimp only [Pt.U, Pt.locs, Pt.cells, Pt.slots] at h1 h2 h3 h4 h5 X hn hPc ⊢
  obtain ⟨m9, methY, cY, hn9, hmY, hcY, -, hlY, -⟩ := Cond.codeWith_spec h2
  cases Option.some.inj (hn9.symm.trans hn)
  obtain ⟨kY, hkY, -⟩ := className_of_methodNamed hn
  have hinitY : kY.init = .initialized := Cond.initialized_spec (findClass_of_methodNamed hn) hkY h3
  have h : At U g.method c below := by rw [hg]; exact X.here
  have hlocals9 : W9 + (maxL + 11) + (headSpec ws rm).room.locals ≤ R.locals := hlocals
  have happ : (headSpec ws rm).appliesLoose y e.platform (U.calling g mk a) = true :=
    Spec.appliesLoose_calling (g := g) h hdg hn hkY hinitY
      (X.room_calling (g := g) (R' := (headSpec ws rm).room) hsize hmY hcY hframes (by rw [hlY]; omega) h4 h5) h1
  obtain ⟨mid, hmid⟩ := h.above
  have hfr : (U.setTop g).frames = (.java g :: mid) ++ below := by rw [State.frames_setTop' g h.top, hmid]; rfl
  obtain ⟨o, s₂, hsteps, -, hend, hq⟩ := Steps.callFree hM p X.admits X.cas X.clock (acts := []) hfr happ hPc trivial
  have hq' : vx_Q Qc XC mc ms free a (U.calling g mk a) o s₂ := hq
  rw [State.frames_setTop' g h.top] at hend
  obtain ⟨g₀, hg0⟩ := Option.isSome_iff_exists.mp h.top
  obtain ⟨r, hr⟩ := State.topJava?_eq_some.mp hg0
  have hr' : (({ U with heap := s₂.heap, slotsUsed := s₂.slotsUsed } : State).setVm s₂.vm).frames = .java g₀ :: r := hr
  rcases hq' with ⟨hqc, L, hfe, hL⟩ | ⟨q, rfl, E, ce, L, hx, hce, hcv, hcl, hW₂, hsm, hL⟩
  · obtain ⟨⟨v, rfl⟩, hW₂, e2, q2, q3, q4, q5, q6⟩ := id hfe
    have e3 : s₂ = ({ (U.calling g mk a).setFrames s₂.frames with heap := s₂.heap, slotsUsed := s₂.slotsUsed } : State).setVm s₂.vm := by
      have : s₂ = ({ s₂ with vm := (U.calling g mk a).vm } : State).setVm s₂.vm := rfl
      rw [e2] at this
      exact this
    obtain ⟨c₂, i₂, len₂, hc₂, hd₂, hf₂⟩ := hend
    have hW' : U.WarmedH s₂.vm := hW₂
    have hcc : c₂ = c := by
      have h1 : s₂.code? g.method = U.code? g.method := by
        rw [State.code?_eq, State.code?_eq, hW'.alike.method?]
      exact Option.some.inj (hc₂.symm.trans (h1.trans h.code))
    subst hcc
    have hlen : len₂ = len := by rw [hdg] at hd₂; cases hd₂; rfl
    subst hlen
    have hs₂ : s₂ = (({ U with heap := s₂.heap, slotsUsed := s₂.slotsUsed } : State).setVm s₂.vm).setTop { g with pc := g.pc + len₂, stack := v.toList ++ g.stack } := by
      refine e3.trans ?_
      rw [hf₂, State.calling_eq h.top, State.setFrames_setFrames, State.setTop_of_frames _ hr', hr]
      rfl
    have hsame : U.sameButNew ({ U with heap := s₂.heap, slotsUsed := s₂.slotsUsed } : State) L mc ms := by
      refine ⟨?_, q2, q3, q4, q5, q6⟩
      obtain ⟨t, ht, -⟩ := State.frames_cons hr
      show ({ U with heap := s₂.heap, slotsUsed := s₂.slotsUsed } : State) = { U.setFrames U.frames with heap := s₂.heap, slotsUsed := s₂.slotsUsed }
      rw [State.setFrames_self ht]
    subst hg
    refine Or.inl ⟨v, ⟨(({ U with heap := s₂.heap, slotsUsed := s₂.slotsUsed } : State).setVm s₂.vm), Ls ++ L, c0 + mc, s0 + ms⟩,
      ⟨X.admits, X.cas, X.clock, X.frames, X.room, X.hears, X.method, X.code, (X.here.setHeapUsed s₂.heap s₂.slotsUsed).setVm hW'.alike, X.tail, State.WarmedH.trans X.warmed hW', X.limits, X.bytes, X.same.trans (hsame.setVm s.vm)⟩,
      ⟨g, mk, s₂, L, rfl, rfl, hqc, rfl, hL, rfl, rfl⟩, ?_⟩
    show Steps p.tables e below _ ((({ U with heap := s₂.heap, slotsUsed := s₂.slotsUsed } : State).setVm s₂.vm).setTop { g with pc := g.pc + len₂, stack := v.toList ++ g.stack })
    rw [← hs₂]
    exact hsteps
  · obtain ⟨e2, q2, q3, q4, q5, q6⟩ := id hsm
    have e3 : s₂ = ({ (U.calling g mk a).setFrames s₂.frames with heap := s₂.heap, slotsUsed := s₂.slotsUsed } : State).setVm s₂.vm := by
      have : s₂ = ({ s₂ with vm := (U.calling g mk a).vm } : State).setVm s₂.vm := rfl
      rw [e2] at this
      exact this
    have hf₂ : s₂.frames = .throwing q :: .java g :: U.frames.tail := hend
    have hW' : U.WarmedH s₂.vm := hW₂
    have hs₂ : s₂ = ((({ U with heap := s₂.heap, slotsUsed := s₂.slotsUsed } : State).setVm s₂.vm).setTop g).pushFrame (.throwing q) := by
      refine e3.trans ?_
      rw [hf₂, State.calling_eq h.top, State.setFrames_setFrames, State.pushFrame, State.frames_setTop _ hr', State.setTop_of_frames _ hr', State.setFrames_setFrames, hr]
      rfl
    have hsame : U.sameButNew ({ U with heap := s₂.heap, slotsUsed := s₂.slotsUsed } : State) L mc ms := by
      refine ⟨?_, q2, q3, q4, q5, q6⟩
      obtain ⟨t, ht, -⟩ := State.frames_cons hr
      show ({ U with heap := s₂.heap, slotsUsed := s₂.slotsUsed } : State) = { U.setFrames U.frames with heap := s₂.heap, slotsUsed := s₂.slotsUsed }
      rw [State.setFrames_self ht]
    subst hg
    refine Or.inr ⟨q, ⟨(({ U with heap := s₂.heap, slotsUsed := s₂.slotsUsed } : State).setVm s₂.vm), Ls ++ L, c0 + mc, s0 + ms⟩,
      ⟨X.admits, X.cas, X.clock, X.frames, X.room, X.hears, X.method, X.code, (X.here.setHeapUsed s₂.heap s₂.slotsUsed).setVm hW'.alike, X.tail, State.WarmedH.trans X.warmed hW', X.limits, X.bytes, X.same.trans (hsame.setVm s.vm)⟩,
      ⟨g, mk, s₂, L, E, ce, rfl, rfl, hx, hce, hcv, hcl, rfl, hL, rfl, rfl⟩, ?_⟩
    show Steps p.tables e below _ (((({ U with heap := s₂.heap, slotsUsed := s₂.slotsUsed } : State).setVm s₂.vm).setTop g).pushFrame (.throwing q))
    rw [← hs₂]
    exact hsteps
end
variable {p : Program} {l : Launch} {e : Env} {R : Room} {s : State} {m : MethodId} {args : Array Value} {below : List Frame} {meth : Method} {c : Code} {T : State} {H : Heap} {locs : List Loc} {cells slots : Nat}
theorem vx_callVX (X : Stand p l e R s m args below meth c T locs cells slots) (hexec : p.tables.exec = Jvm.exec) {own C : String} {index : Nat} {y : MethodName} {bytes : ByteArray} {maxL : Nat} {ret : Option FieldType} {hh : List (Nat × Nat × Nat × Nat)}
    (hown : s.vm.findClass own = some m.cls) (hlink : (Cond.methodLink own index y).before args s = true) (hinst : (Cond.instanceMethod y).before args s = true) (hsel : (Cond.selects C y y).before args s = true)
    (hcode : (Cond.codeWith y bytes maxL ret hh).before args s = true) (hy : y.cls ≠ "java/lang/invoke/MethodHandle" ∧ y.cls ≠ "java/lang/invoke/VarHandle")
    {W9 : Nat} {Pre : Pt → Array Value → Prop} {Post : Pt → Array Value → Option Value → Pt → Prop} {PostX : Pt → Array Value → Addr → Pt → Prop} (hK : vx_Back l R p e below s args y 3 W9 Pre Post PostX)
    {b : Addr} {cellB : Cell} (hcell : T.heap[b]? = some cellB) (hobj : cellB.vm.isStatics = false) (hcls : s.vm.findClass C = some cellB.cls)
    {g : JFrame} (hg : g.method = m) (hsize : g.locals.size = c.maxLocals) {argsL rest : List Value} (hlen : ∀ sig, parseMethodDescriptor y.desc = some sig → argsL.length = sig.parameters.length)
    (hstack : g.stack = argsL.reverse ++ .ref b :: rest) (hW : 2 * g.monitorRoom + (rest.map fun v => v.category).sum ≤ W9) (hdg : decode c.code g.pc = .ok (.invokevirtual index, 3))
    (hpre : ∀ vm₁, s.WarmedH vm₁ → Pre ⟨T.setVm vm₁, locs, cells, slots⟩ (Value.ref b :: argsL).toArray) :
    (∃ (v : Option Value) (vm₁ : Vm) (B : Pt), s.WarmedH vm₁ ∧ Stand p l e R s m args below meth c B.U B.locs B.cells B.slots ∧ Post ⟨T.setVm vm₁, locs, cells, slots⟩ (Value.ref b :: argsL).toArray v B ∧
      ∀ target, Steps p.tables e below (B.U.setTop { g with pc := g.pc + 3, stack := v.toList ++ rest }) target → Steps p.tables e below (T.setTop g) target) ∨
    (∃ (q : Addr) (vm₁ : Vm) (B : Pt), s.WarmedH vm₁ ∧ Stand p l e R s m args below meth c B.U B.locs B.cells B.slots ∧ PostX ⟨T.setVm vm₁, locs, cells, slots⟩ (Value.ref b :: argsL).toArray q B ∧
      Steps p.tables e below (T.setTop g) ((B.U.setTop { g with stack := rest }).pushFrame (.throwing q))) := by
  obtain ⟨mk, methM, hnamed, hmethM, hstM, habM⟩ := Cond.instanceMethod_spec hinst
  obtain ⟨m8, methM', cM, hn8, hmethM', -, -, -, -, -, -, hsigM⟩ := Cond.codeWith_spec hcode
  cases Option.some.inj (hn8.symm.trans hnamed)
  cases hmethM.symm.trans hmethM'
  obtain ⟨c2, r2, m2, q1, q2, q3, q4, kP, hkP, hkPi⟩ := Cond.selects_spec hsel
  cases hcls.symm.trans q1
  cases (State.methodFound?_of_named hnamed hy).symm.trans q2
  cases hnamed.symm.trans q3
  have hselP : selectMethod e.platform s.vm cellB.cls mk = .method mk := by rw [Launch.admits_selectMethod X.admits]; exact q4
  obtain ⟨vm₁, X₁, hstep₁⟩ := X.invokevirtual hexec hown hlink hnamed hmethM hstM hkP hkPi hy (a := b) (cell := cellB) hcell
    (fun z h => by rw [h] at hobj; cases hobj) hselP hmethM habM hkP hkPi (g := g) hg (argsL := argsL) (rest := rest) (hlen _ hsigM) hstack hdg
  rcases hK m meth c ⟨T.setVm vm₁, locs, cells, slots⟩ { g with stack := rest } (.invokevirtual index) mk (Value.ref b :: argsL).toArray X₁ hg hsize hdg hW (X₁.named hnamed) (hpre vm₁ X₁.warmed) with ⟨v, B, X', hpost, hsteps⟩ | ⟨q, B, X', hpost, hsteps⟩
  · exact Or.inl ⟨v, vm₁, B, X₁.warmed, X', hpost, fun target h => hstep₁ _ fun acts => by rw [doInvoke_state]; exact hsteps.trans h⟩
  · exact Or.inr ⟨q, vm₁, B, X₁.warmed, X', hpost, hstep₁ _ fun acts => by rw [doInvoke_state]; exact hsteps⟩
theorem vx_callSX (X : Stand p l e R s m args below meth c T locs cells slots) (hexec : p.tables.exec = Jvm.exec) {own : String} {index : Nat} {y : MethodName} {bytes : ByteArray} {maxL : Nat} {ret : Option FieldType} {hh : List (Nat × Nat × Nat × Nat)}
    (hown : s.vm.findClass own = some m.cls) (hlink : (Cond.methodLink own index y).before args s = true) (hstat : (Cond.static y).before args s = true) (hinit : (Cond.initialized y.cls).before args s = true)
    (hcode : (Cond.codeWith y bytes maxL ret hh).before args s = true) (hy : y.cls ≠ "java/lang/invoke/MethodHandle" ∧ y.cls ≠ "java/lang/invoke/VarHandle")
    {W9 : Nat} {Pre : Pt → Array Value → Prop} {Post : Pt → Array Value → Option Value → Pt → Prop} {PostX : Pt → Array Value → Addr → Pt → Prop} (hK : vx_Back l R p e below s args y 3 W9 Pre Post PostX)
    {g : JFrame} (hg : g.method = m) (hsize : g.locals.size = c.maxLocals) {argsL rest : List Value} (hlen : ∀ sig, parseMethodDescriptor y.desc = some sig → argsL.length = sig.parameters.length)
    (hstack : g.stack = argsL.reverse ++ rest) (hW : 2 * g.monitorRoom + (rest.map fun v => v.category).sum ≤ W9) (hdg : decode c.code g.pc = .ok (.invokestatic index, 3))
    (hpre : ∀ vm₁, s.WarmedH vm₁ → Pre ⟨T.setVm vm₁, locs, cells, slots⟩ argsL.toArray) :
    (∃ (v : Option Value) (vm₁ : Vm) (B : Pt), s.WarmedH vm₁ ∧ Stand p l e R s m args below meth c B.U B.locs B.cells B.slots ∧ Post ⟨T.setVm vm₁, locs, cells, slots⟩ argsL.toArray v B ∧
      ∀ target, Steps p.tables e below (B.U.setTop { g with pc := g.pc + 3, stack := v.toList ++ rest }) target → Steps p.tables e below (T.setTop g) target) ∨
    (∃ (q : Addr) (vm₁ : Vm) (B : Pt), s.WarmedH vm₁ ∧ Stand p l e R s m args below meth c B.U B.locs B.cells B.slots ∧ PostX ⟨T.setVm vm₁, locs, cells, slots⟩ argsL.toArray q B ∧
      Steps p.tables e below (T.setTop g) ((B.U.setTop { g with stack := rest }).pushFrame (.throwing q))) := by
  obtain ⟨mk, methM, cM, hnamed, hmethM, -, -, -, -, -, -, hsigM⟩ := Cond.codeWith_spec hcode
  have hstatic : methM.isStatic = true := Cond.static_spec hnamed hmethM hstat
  obtain ⟨kP, hkP, -⟩ := className_of_methodNamed hnamed
  have hinitP : kP.init = .initialized := Cond.initialized_spec (findClass_of_methodNamed hnamed) hkP hinit
  obtain ⟨vm₁, X₁, hstep₁⟩ := X.invokestatic hexec hown hlink hnamed hmethM hstatic hkP hinitP hy (g := g) hg (argsL := argsL) (rest := rest) (hlen _ hsigM) hstack hdg
  rcases hK m meth c ⟨T.setVm vm₁, locs, cells, slots⟩ { g with stack := rest } (.invokestatic index) mk argsL.toArray X₁ hg hsize hdg hW (X₁.named hnamed) (hpre vm₁ X₁.warmed) with ⟨v, B, X', hpost, hsteps⟩ | ⟨q, B, X', hpost, hsteps⟩
  · exact Or.inl ⟨v, vm₁, B, X₁.warmed, X', hpost, fun target h => hstep₁ _ fun acts => by rw [doInvoke_state]; exact hsteps.trans h⟩
  · exact Or.inr ⟨q, vm₁, B, X₁.warmed, X', hpost, hstep₁ _ fun acts => by rw [doInvoke_state]; exact hsteps⟩
theorem vx_callVW (X : Stand p l e R s m args below meth c T locs cells slots) (hexec : p.tables.exec = Jvm.exec) {own C : String} {index : Nat} {y : MethodName} {bytes : ByteArray} {maxL : Nat} {ret : Option FieldType} {hh : List (Nat × Nat × Nat × Nat)}
    (hown : s.vm.findClass own = some m.cls) (hlink : (Cond.methodLink own index y).before args s = true) (hinst : (Cond.instanceMethod y).before args s = true) (hsel : (Cond.selects C y y).before args s = true)
    (hcode : (Cond.codeWith y bytes maxL ret hh).before args s = true) (hy : y.cls ≠ "java/lang/invoke/MethodHandle" ∧ y.cls ≠ "java/lang/invoke/VarHandle")
    {W9 : Nat} {Pre : Pt → Array Value → Prop} {Post : Pt → Array Value → Option Value → Pt → Prop} (hK : Back l R p e below s args y 3 W9 Pre Post)
    {b : Addr} {cellB : Cell} (hcell : T.heap[b]? = some cellB) (hobj : cellB.vm.isStatics = false) (hcls : s.vm.findClass C = some cellB.cls)
    {g : JFrame} (hg : g.method = m) (hsize : g.locals.size = c.maxLocals) {argsL rest : List Value} (hlen : ∀ sig, parseMethodDescriptor y.desc = some sig → argsL.length = sig.parameters.length)
    (hstack : g.stack = argsL.reverse ++ .ref b :: rest) (hW : 2 * g.monitorRoom + (rest.map fun v => v.category).sum ≤ W9) (hdg : decode c.code g.pc = .ok (.invokevirtual index, 3))
    (hpre : ∀ vm₁, s.WarmedH vm₁ → Pre ⟨T.setVm vm₁, locs, cells, slots⟩ (Value.ref b :: argsL).toArray) :
    ∃ (v : Option Value) (vm₁ : Vm) (B : Pt), s.WarmedH vm₁ ∧ Stand p l e R s m args below meth c B.U B.locs B.cells B.slots ∧ Post ⟨T.setVm vm₁, locs, cells, slots⟩ (Value.ref b :: argsL).toArray v B ∧
      ∀ target, Steps p.tables e below (B.U.setTop { g with pc := g.pc + 3, stack := v.toList ++ rest }) target → Steps p.tables e below (T.setTop g) target := by
  obtain ⟨mk, methM, hnamed, hmethM, hstM, habM⟩ := Cond.instanceMethod_spec hinst
  obtain ⟨m8, methM', cM, hn8, hmethM', -, -, -, -, -, -, hsigM⟩ := Cond.codeWith_spec hcode
  cases Option.some.inj (hn8.symm.trans hnamed)
  cases hmethM.symm.trans hmethM'
  obtain ⟨c2, r2, m2, q1, q2, q3, q4, kP, hkP, hkPi⟩ := Cond.selects_spec hsel
  cases hcls.symm.trans q1
  cases (State.methodFound?_of_named hnamed hy).symm.trans q2
  cases hnamed.symm.trans q3
  have hselP : selectMethod e.platform s.vm cellB.cls mk = .method mk := by rw [Launch.admits_selectMethod X.admits]; exact q4
  obtain ⟨vm₁, X₁, hstep₁⟩ := X.invokevirtual hexec hown hlink hnamed hmethM hstM hkP hkPi hy (a := b) (cell := cellB) hcell
    (fun z h => by rw [h] at hobj; cases hobj) hselP hmethM habM hkP hkPi (g := g) hg (argsL := argsL) (rest := rest) (hlen _ hsigM) hstack hdg
  obtain ⟨v, B, X', hpost, hsteps⟩ := hK m meth c ⟨T.setVm vm₁, locs, cells, slots⟩ { g with stack := rest } (.invokevirtual index) mk (Value.ref b :: argsL).toArray X₁ hg hsize hdg hW (X₁.named hnamed) (hpre vm₁ X₁.warmed)
  exact ⟨v, vm₁, B, X₁.warmed, X', hpost, fun target h => hstep₁ _ fun acts => by rw [doInvoke_state]; exact hsteps.trans h⟩
abbrev vx_CVW (R : Room) (s : State) (args : Array Value) (own C : String) (index : Nat) (y : MethodName) (bytes : ByteArray) (maxL : Nat) (ret : Option FieldType) (hh : List (Nat × Nat × Nat × Nat)) (ws : List Cond) (rm : Room) (mc ms n : Nat) : Prop :=
  (rm.cells = mc ∧ rm.slots = ms ∧ rm.frames + 1 ≤ R.frames ∧ 8 + (maxL + 11) + rm.locals ≤ R.locals ∧ (∀ w ∈ ws, ∀ (a' : Array Value) (U : State), s.WarmedH U.vm → w.before a' U = true) ∧ Cond.codeWith y bytes maxL ret hh ∈ ws) ∧
  (Cond.codeWith y bytes maxL ret hh).before args s = true ∧ (Cond.initialized y.cls).before args s = true ∧ (y.cls ≠ "java/lang/invoke/MethodHandle" ∧ y.cls ≠ "java/lang/invoke/VarHandle") ∧
  (∀ sig, parseMethodDescriptor y.desc = some sig → n = sig.parameters.length) ∧ (Cond.methodLink own index y).before args s = true ∧ (Cond.instanceMethod y).before args s = true ∧ (Cond.selects C y y).before args s = true
theorem vx_cwVW {own C : String} {index maxL mc ms : Nat} {y : MethodName} {bytes : ByteArray} {ret : Option FieldType} {hh : List (Nat × Nat × Nat × Nat)} {Ts ws ws' : List Cond} {rm : Room} (n : Nat) (ht : ∀ w ∈ Ts, w.before args s = true) (hT : GoodIn Ts (wsV own index C y ws)) (hw : ws = Cond.codeWith y bytes maxL ret hh :: ws') (hrc : rm.cells = mc) (hrs : rm.slots = ms)
    (hd : y.cls = C ∧ y.cls ≠ "java/lang/invoke/MethodHandle" ∧ y.cls ≠ "java/lang/invoke/VarHandle" ∧ (parseMethodDescriptor y.desc).map (fun d => d.parameters.length) = some n) (hR : rm.frames + 1 ≤ R.frames ∧ 8 + (maxL + 11) + rm.locals ≤ R.locals) :
    vx_CVW R s args own C index y bytes maxL ret hh ws rm mc ms n := by
  obtain ⟨hC, hd⟩ := hd
  subst hC
  have ok : ∀ w ∈ wsV own index y.cls y ws, w.before args s = true := fun w h => ht w (hT w h).1
  have hG : GoodIn Ts ws := fun w h => hT w (by unfold wsV; exact List.mem_append_right _ h)
  have hc : Cond.codeWith y bytes maxL ret hh ∈ ws := by rw [hw]; exact List.mem_cons_self
  refine ⟨⟨hrc, hrs, hR.1, hR.2, pay_in ht hG, hc⟩, ht _ (hG _ hc).1, ok _ (by simp [wsV]), ⟨hd.1, hd.2.1⟩, fun sig h => ?_, ok _ (by simp [wsV]), ok _ (by simp [wsV]), ok _ (by simp [wsV])⟩
  have h2 := hd.2.2
  rw [h] at h2
  exact (Option.some.inj h2).symm
theorem vx_runVW {y : MethodName} {bytes cc : ByteArray} {maxL nL mc ms n index : Nat} {ret : Option FieldType} {hh : List (Nat × Nat × Nat × Nat)} {ws : List Cond} {rm : Room} {Pc : Array Value → State → Prop} {Qc : Array Value → State → Outcome → State → Prop} {free : Addr → Prop} {Ts : List Cond} {own C : String} {b : Addr} {As rest : List Value} {g : JFrame}
    (S : CallFix p m c cc nL s args Ts own) (hM : Met l y ws rm Pc Qc mc ms free) (cw : vx_CVW R s args own C index y bytes maxL ret hh ws rm mc ms n) (hp : PreV s H C b Pc As)
    (hg : g.method = m) (hn : As.length = n) (hsize : g.locals.size = nL) (hstack : g.stack = As.reverse ++ .ref b :: rest) (hW : 2 * g.monitorRoom + (rest.map fun v => v.category).sum ≤ 8) (hdg : decode cc g.pc = .ok (.invokevirtual index, 3)) (hf : cells + mc ≤ R.cells ∧ slots + ms ≤ R.slots) :
    va_Run p l e R s m args below meth c H locs cells slots mc ms g rest (Qc (Value.ref b :: As).toArray) free := by
  obtain ⟨⟨hrc, hrs, hfr, hlo, hws, hcw⟩, hcode, hini, hy, hlen, hl, hin, hse⟩ := cw
  have hK : Back l R p e below s args y 3 8 (PreOf R mc ms Pc) (PostOf Qc mc ms free) := va_backW (hh := hh) (bytes := bytes) (maxL := maxL) (ret := ret) hM hp.1 hrc hrs hfr hlo hws hcw (fun a' U hW => word_at hW (Or.inl (by first | rfl | simp [Cond.onTables, Cond.keeps, Cond.steady])) hini)
  obtain ⟨hx, hb, hml, ho, -⟩ := S
  obtain ⟨-, ⟨cellB, hcB, hoB, hclB⟩, hPc⟩ := hp
  intro T hT X
  obtain ⟨v, vm₁, ⟨U', l2, c2, s2⟩, hW₁, X', ⟨g', mk, t, L, e1, e2, hq, h1, hL, h2, h3⟩, st⟩ := vx_callVW X hx (C := C) (hh := hh) (bytes := bytes) (maxL := maxL) (ret := ret) ho hl hin hse hcode hy hK (by rw [hT]; exact hcB) hoB hclB hg (hsize.trans hml.symm) (argsL := As) (rest := rest) (fun sig h => hn.trans (hlen sig h)) hstack hW (by rw [hb]; exact hdg)
    (fun vm₁ hW₁ => ⟨hf.1, hf.2, hPc (T.setVm vm₁) hT hW₁⟩)
  dsimp only [Pt.U, Pt.locs, Pt.cells, Pt.slots] at X' e1 e2 h1 h2 h3 st
  subst h1; subst h2; subst h3
  exact ⟨v, (T.setVm vm₁).calling g' mk (Value.ref b :: As).toArray, t, U', L, hT, X', hL, e1, e2, hq, st⟩
section
variable {y : MethodName} {bytes cc : ByteArray} {maxL nL mc ms n index : Nat} {ret : Option FieldType} {ws : List Cond} {rm : Room} {Pc : Array Value → State → Prop} {Qc : Array Value → State → Outcome → State → Prop} {XC : String → State → State → Prop} {free : Addr → Prop} {Ts : List Cond} {own C : String} {b : Addr} {As rest : List Value} {g : JFrame}
theorem vx_runVX {hh : List (Nat × Nat × Nat × Nat)} (S : CallFix p m c cc nL s args Ts own) (hM : vx_Met l y ws rm Pc Qc XC mc ms free) (cw : vx_CVW R s args own C index y bytes maxL ret hh ws rm mc ms n) (hp : PreV s H C b Pc As)
    (hg : g.method = m) (hn : As.length = n) (hsize : g.locals.size = nL) (hstack : g.stack = As.reverse ++ .ref b :: rest) (hW : 2 * g.monitorRoom + (rest.map fun v => v.category).sum ≤ 8) (hdg : decode cc g.pc = .ok (.invokevirtual index, 3)) (hf : cells + mc ≤ R.cells ∧ slots + ms ≤ R.slots) :
    vx_Run p l e R s m args below meth c H locs cells slots mc ms g rest (Qc (Value.ref b :: As).toArray) XC free := by
  obtain ⟨⟨hrc, hrs, hfr, hlo, hws, hcw⟩, hcode, hini, hy, hlen, hl, hin, hse⟩ := cw
  have hK : vx_Back l R p e below s args y 3 8 (PreOf R mc ms Pc) (PostOf Qc mc ms free) (vx_Post XC mc ms free) := vx_backW (hh := hh) (bytes := bytes) (maxL := maxL) (ret := ret) hM hp.1 hrc hrs hfr hlo hws hcw (fun a' U hW => word_at hW (Or.inl (by first | rfl | simp [Cond.onTables, Cond.keeps, Cond.steady])) hini)
  obtain ⟨hx, hb, hml, ho, -⟩ := S
  obtain ⟨-, ⟨cellB, hcB, hoB, hclB⟩, hPc⟩ := hp
  intro T hT X
  rcases vx_callVX X hx (C := C) (hh := hh) (bytes := bytes) (maxL := maxL) (ret := ret) ho hl hin hse hcode hy hK (by rw [hT]; exact hcB) hoB hclB hg (hsize.trans hml.symm) (argsL := As) (rest := rest) (fun sig h => hn.trans (hlen sig h)) hstack hW (by rw [hb]; exact hdg)
    (fun vm₁ hW₁ => ⟨hf.1, hf.2, hPc (T.setVm vm₁) hT hW₁⟩) with ⟨v, vm₁, ⟨U', l2, c2, s2⟩, hW₁, X', ⟨g', mk, t, L, e1, e2, hq, h1, hL, h2, h3⟩, st⟩ | ⟨q, vm₁, ⟨U', l2, c2, s2⟩, hW₁, X', ⟨g', mk, t, L, E, ce, e1, e2, hq, hce, hcv, hcl, h1, hL, h2, h3⟩, st⟩
  · dsimp only [Pt.U, Pt.locs, Pt.cells, Pt.slots] at X' e1 e2 h1 h2 h3 st
    subst h1; subst h2; subst h3
    exact Or.inl ⟨v, (T.setVm vm₁).calling g' mk (Value.ref b :: As).toArray, t, U', L, hT, X', hL, e1, e2, hq, st⟩
  · dsimp only [Pt.U, Pt.locs, Pt.cells, Pt.slots] at X' e1 e2 h1 h2 h3 st hcl
    subst h1; subst h2; subst h3
    exact Or.inr ⟨q, (T.setVm vm₁).calling g' mk (Value.ref b :: As).toArray, t, U', L, E, ce, hT, X', hL, e1, e2, hq, hce, hcv, vx_cls hW₁ hcl, st⟩
theorem vx_runSX {hh : List (Nat × Nat × Nat × Nat)} (S : CallFix p m c cc nL s args Ts own) (hM : vx_Met l y ws rm Pc Qc XC mc ms free) (cw : vx_CSW R s args own index y bytes maxL ret hh ws rm mc ms n) (hp : PreS s H Pc As)
    (hg : g.method = m) (hn : As.length = n) (hsize : g.locals.size = nL) (hstack : g.stack = As.reverse ++ rest) (hW : 2 * g.monitorRoom + (rest.map fun v => v.category).sum ≤ 8) (hdg : decode cc g.pc = .ok (.invokestatic index, 3)) (hf : cells + mc ≤ R.cells ∧ slots + ms ≤ R.slots) :
    vx_Run p l e R s m args below meth c H locs cells slots mc ms g rest (Qc As.toArray) XC free := by
  obtain ⟨⟨hrc, hrs, hfr, hlo, hws, hcw⟩, hcode, hini, hy, hlen, hl, hstt⟩ := cw
  have hK : vx_Back l R p e below s args y 3 8 (PreOf R mc ms Pc) (PostOf Qc mc ms free) (vx_Post XC mc ms free) := vx_backW (hh := hh) (bytes := bytes) (maxL := maxL) (ret := ret) hM hp.1 hrc hrs hfr hlo hws hcw (fun a' U hW => word_at hW (Or.inl (by first | rfl | simp [Cond.onTables, Cond.keeps, Cond.steady])) hini)
  obtain ⟨hx, hb, hml, ho, -⟩ := S
  intro T hT X
  rcases vx_callSX X hx (hh := hh) (bytes := bytes) (maxL := maxL) (ret := ret) ho hl hstt hini hcode hy hK hg (hsize.trans hml.symm) (argsL := As) (rest := rest) (fun sig h => hn.trans (hlen sig h)) hstack hW (by rw [hb]; exact hdg)
    (fun vm₁ hW₁ => ⟨hf.1, hf.2, hp.2 (T.setVm vm₁) hT hW₁⟩) with ⟨v, vm₁, ⟨U', l2, c2, s2⟩, hW₁, X', ⟨g', mk, t, L, e1, e2, hq, h1, hL, h2, h3⟩, st⟩ | ⟨q, vm₁, ⟨U', l2, c2, s2⟩, hW₁, X', ⟨g', mk, t, L, E, ce, e1, e2, hq, hce, hcv, hcl, h1, hL, h2, h3⟩, st⟩
  · dsimp only [Pt.U, Pt.locs, Pt.cells, Pt.slots] at X' e1 e2 h1 h2 h3 st
    subst h1; subst h2; subst h3
    exact Or.inl ⟨v, (T.setVm vm₁).calling g' mk As.toArray, t, U', L, hT, X', hL, e1, e2, hq, st⟩
  · dsimp only [Pt.U, Pt.locs, Pt.cells, Pt.slots] at X' e1 e2 h1 h2 h3 st hcl
    subst h1; subst h2; subst h3
    exact Or.inr ⟨q, (T.setVm vm₁).calling g' mk As.toArray, t, U', L, E, ce, hT, X', hL, e1, e2, hq, hce, hcv, vx_cls hW₁ hcl, st⟩
end
end VXH
theorem vx_ofWH {l : Launch} {y : MethodName} {ws ws' : List Cond} {rm : Room} {Pc : Array Value → State → Prop} {Qc : Array Value → State → Outcome → State → Prop} {XC : String → State → State → Prop} {mc ms : Nat} {free : Addr → Prop} {cc : ByteArray} {maxL : Nat} {ret : Option FieldType} {hh : List (Nat × Nat × Nat × Nat)}
    (hy : plainName y.cls = true) (hw : ws = Cond.codeWith y cc maxL ret hh :: ws')
    (body : ∀ p e s m args below meth c s₁, BodyLoose p l y (headSpec ws rm) cc maxL ret e s m args below meth c s₁ → c.maxLocals = maxL → Pc args s →
      W p l e (headSpec ws rm).room s m args below meth c s.heap [] 0 0 (vx_MQ below Qc XC args s mc ms free) (entryFrame m args maxL)) : vx_Met l y ws rm Pc Qc XC mc ms free := by
  refine MetFree.of_bodyS (code := cc) (maxLocals := maxL) (ret := ret) hy ?_ ?_
  · intro args s m h hn
    obtain ⟨m9, meth, c, hn9, h1, h2, h3, h4, -, h5, h6, -⟩ := Cond.codeWith_spec (atoms_spec (ws := ws) h _ (by rw [hw]; exact List.mem_cons_self))
    cases hn.symm.trans hn9
    exact ⟨meth, c, h1, h2, h3, h4, h5, h6⟩
  · intro p e s m args below meth c s₁ B hml hP _
    have hh0 : s₁.heap = s.heap := by rw [B.state]; rfl
    obtain ⟨t, a1, o, b1, b2, b3⟩ := body p e s m args below meth c s₁ B hml hP s₁ hh0 (Stand.of_body B)
    exact ⟨t, o, a1, b1, b2, b3⟩
/-! ===== END ===== -/

def RX0 : String := "ClipBureau$Ledger"
def TX0 : u_T := fun k => match k with
  | 0 => ("ClipBureau$Ledger", "ages", "[I", true)
  | 1 => ("ClipBureau$Ledger", "coins", "[I", true)
  | 2 => ("ClipBureau$Ledger", "paid", "[I", true)
  | 3 => ("ClipBureau$Ledger", "sent", "[I", true)
  | _ => ("ClipBureau$Ledger", "rounds", "I", false)
def tyX0 : Nat → FieldType := fun k => match k with
  | 0 => .array .int
  | 1 => .array .int
  | 2 => .array .int
  | 3 => .array .int
  | _ => .int
abbrev wsX00 : List Cond := u_ws RX0 TX0 5
theorem nmX0 : ∀ a, a < 5 → ∀ b, b < 5 → a ≠ b → (TX0 a).2.1 ≠ (TX0 b).2.1 := by decide +kernel
theorem tyX0_ok : ∀ k, k < 5 → parseFieldDescriptor (TX0 k).2.2.1 = some (tyX0 k) := by decide +kernel
abbrev cX0_init : ByteArray := prog_2_method_1_code
def yX0_init : MethodName := ⟨RX0, "<init>", "()V"⟩
abbrev cX0_copyFrom : ByteArray := prog_2_method_2_code
def yX0_copyFrom : MethodName := ⟨RX0, "copyFrom", "(LClipBureau$Ledger;)V"⟩
abbrev cX0_wasSent : ByteArray := prog_2_method_3_code
def yX0_wasSent : MethodName := ⟨RX0, "wasSent", "(II)Z"⟩
abbrev cX0_book : ByteArray := prog_2_method_4_code
def yX0_book : MethodName := ⟨RX0, "book", "(III)V"⟩
abbrev cX0_growOlder : ByteArray := prog_2_method_5_code
def yX0_growOlder : MethodName := ⟨RX0, "growOlder", "(I)V"⟩
abbrev cX0_receivers : ByteArray := prog_2_method_6_code
def yX0_receivers : MethodName := ⟨RX0, "receivers", "(I)I"⟩
abbrev cX0_sentInAll : ByteArray := prog_2_method_7_code
def yX0_sentInAll : MethodName := ⟨RX0, "sentInAll", "()I"⟩
abbrev cX0_paidInAll : ByteArray := prog_2_method_8_code
def yX0_paidInAll : MethodName := ⟨RX0, "paidInAll", "()I"⟩
def RX1 : String := "ClipBureau$Orders"
def TX1 : u_T := fun k => match k with
  | 0 => ("ClipBureau$Orders", "wants", "[[I", true)
  | 1 => ("ClipBureau$Orders", "sizes", "[I", true)
  | 2 => ("ClipBureau$Orders", "bars", "[I", true)
  | _ => ("ClipBureau$Orders", "clients", "I", false)
def tyX1 : Nat → FieldType := fun k => match k with
  | 0 => .array (.array .int)
  | 1 => .array .int
  | 2 => .array .int
  | _ => .int
abbrev wsX10 : List Cond := u_ws RX1 TX1 4
theorem nmX1 : ∀ a, a < 4 → ∀ b, b < 4 → a ≠ b → (TX1 a).2.1 ≠ (TX1 b).2.1 := by decide +kernel
theorem tyX1_ok : ∀ k, k < 4 → parseFieldDescriptor (TX1 k).2.2.1 = some (tyX1 k) := by decide +kernel
abbrev cX1_init : ByteArray := prog_3_method_1_code
def yX1_init : MethodName := ⟨RX1, "<init>", "()V"⟩
abbrev cX1_placeOf : ByteArray := prog_3_method_2_code
def yX1_placeOf : MethodName := ⟨RX1, "placeOf", "(II)I"⟩
def RX2 : String := "ClipBureau$Press"
def TX2 : u_T := fun k => match k with
  | 0 => ("ClipBureau$Press", "stems", "[I", true)
  | 1 => ("ClipBureau$Press", "words", "[[I", true)
  | 2 => ("ClipBureau$Press", "lengths", "[I", true)
  | 3 => ("ClipBureau$Press", "times", "[[I", true)
  | 4 => ("ClipBureau$Press", "holders", "[I", true)
  | _ => ("ClipBureau$Press", "articles", "I", false)
def tyX2 : Nat → FieldType := fun k => match k with
  | 0 => .array .int
  | 1 => .array (.array .int)
  | 2 => .array .int
  | 3 => .array (.array .int)
  | 4 => .array .int
  | _ => .int
abbrev wsX20 : List Cond := u_ws RX2 TX2 6
theorem nmX2 : ∀ a, a < 6 → ∀ b, b < 6 → a ≠ b → (TX2 a).2.1 ≠ (TX2 b).2.1 := by decide +kernel
theorem tyX2_ok : ∀ k, k < 6 → parseFieldDescriptor (TX2 k).2.2.1 = some (tyX2 k) := by decide +kernel
abbrev cX2_init : ByteArray := prog_4_method_1_code
def yX2_init : MethodName := ⟨RX2, "<init>", "()V"⟩
abbrev cX2_recount : ByteArray := prog_4_method_2_code
def yX2_recount : MethodName := ⟨RX2, "recount", "()V"⟩
abbrev cX2_recountArticle : ByteArray := prog_4_method_3_code
def yX2_recountArticle : MethodName := ⟨RX2, "recountArticle", "(I)V"⟩
abbrev cX2_stemOfWord : ByteArray := prog_4_method_4_code
def yX2_stemOfWord : MethodName := ⟨RX2, "stemOfWord", "(I)I"⟩
abbrev cX2_rarityOf : ByteArray := prog_4_method_5_code
def yX2_rarityOf : MethodName := ⟨RX2, "rarityOf", "(I)I"⟩
abbrev cX2_timesOf : ByteArray := prog_4_method_6_code
def yX2_timesOf : MethodName := ⟨RX2, "timesOf", "(II)I"⟩
abbrev cX2_scoreOf : ByteArray := prog_4_method_7_code
def yX2_scoreOf : MethodName := ⟨RX2, "scoreOf", "(I[III)I"⟩
abbrev cX2_stemsOf : ByteArray := prog_4_method_8_code
def yX2_stemsOf : MethodName := ⟨RX2, "stemsOf", "(I)I"⟩
abbrev cX2_stemsInAll : ByteArray := prog_4_method_9_code
def yX2_stemsInAll : MethodName := ⟨RX2, "stemsInAll", "()I"⟩
abbrev cX2_wordsInAll : ByteArray := prog_4_method_10_code
def yX2_wordsInAll : MethodName := ⟨RX2, "wordsInAll", "()I"⟩
abbrev cX2_shared : ByteArray := prog_4_method_11_code
def yX2_shared : MethodName := ⟨RX2, "shared", "(II)I"⟩
def RX3 : String := "ClipBureau"
def TX3 : u_T := fun k => match k with
  | 0 => ("ClipBureau", "press", "LClipBureau$Press;", true)
  | 1 => ("ClipBureau", "orders", "LClipBureau$Orders;", true)
  | 2 => ("ClipBureau", "now", "LClipBureau$Ledger;", true)
  | 3 => ("ClipBureau", "later", "LClipBureau$Ledger;", true)
  | _ => ("ClipBureau", "tryout", "[I", true)
def tyX3 : Nat → FieldType := fun k => match k with
  | 0 => .object "ClipBureau$Press"
  | 1 => .object "ClipBureau$Orders"
  | 2 => .object "ClipBureau$Ledger"
  | 3 => .object "ClipBureau$Ledger"
  | _ => .array .int
abbrev wsX30 : List Cond := u_ws RX3 TX3 5
theorem nmX3 : ∀ a, a < 5 → ∀ b, b < 5 → a ≠ b → (TX3 a).2.1 ≠ (TX3 b).2.1 := by decide +kernel
theorem tyX3_ok : ∀ k, k < 5 → parseFieldDescriptor (TX3 k).2.2.1 = some (tyX3 k) := by decide +kernel
abbrev cX3_init : ByteArray := prog_1_method_1_code
def yX3_init : MethodName := ⟨RX3, "<init>", "()V"⟩
abbrev cX3_setStem : ByteArray := prog_1_method_2_code
def yX3_setStem : MethodName := ⟨RX3, "setStem", "(II)I"⟩
abbrev cX3_print : ByteArray := prog_1_method_3_code
def yX3_print : MethodName := ⟨RX3, "print", "()I"⟩
abbrev cX3_write : ByteArray := prog_1_method_4_code
def yX3_write : MethodName := ⟨RX3, "write", "(II)I"⟩
abbrev cX3_strike : ByteArray := prog_1_method_5_code
def yX3_strike : MethodName := ⟨RX3, "strike", "(II)I"⟩
abbrev cX3_client : ByteArray := prog_1_method_6_code
def yX3_client : MethodName := ⟨RX3, "client", "(I)I"⟩
abbrev cX3_want : ByteArray := prog_1_method_7_code
def yX3_want : MethodName := ⟨RX3, "want", "(II)I"⟩
abbrev cX3_drop : ByteArray := prog_1_method_8_code
def yX3_drop : MethodName := ⟨RX3, "drop", "(II)I"⟩
abbrev cX3_setBar : ByteArray := prog_1_method_9_code
def yX3_setBar : MethodName := ⟨RX3, "setBar", "(II)I"⟩
abbrev cX3_pay : ByteArray := prog_1_method_10_code
def yX3_pay : MethodName := ⟨RX3, "pay", "(II)I"⟩
abbrev cX3_send : ByteArray := prog_1_method_11_code
def yX3_send : MethodName := ⟨RX3, "send", "(I)I"⟩
abbrev cX3_pass : ByteArray := prog_1_method_12_code
def yX3_pass : MethodName := ⟨RX3, "pass", "(I)I"⟩
abbrev cX3_told : ByteArray := prog_1_method_13_code
def yX3_told : MethodName := ⟨RX3, "told", "(II)I"⟩
abbrev cX3_word : ByteArray := prog_1_method_14_code
def yX3_word : MethodName := ⟨RX3, "word", "(II)I"⟩
abbrev cX3_about : ByteArray := prog_1_method_15_code
def yX3_about : MethodName := ⟨RX3, "about", "(II)I"⟩
abbrev cX3_stem : ByteArray := prog_1_method_16_code
def yX3_stem : MethodName := ⟨RX3, "stem", "(II)I"⟩
abbrev cX3_count : ByteArray := prog_1_method_17_code
def yX3_count : MethodName := ⟨RX3, "count", "(I)I"⟩
abbrev cX3_rarity : ByteArray := prog_1_method_18_code
def yX3_rarity : MethodName := ⟨RX3, "rarity", "(I)I"⟩
abbrev cX3_score : ByteArray := prog_1_method_19_code
def yX3_score : MethodName := ⟨RX3, "score", "(II)I"⟩
abbrev cX3_fit : ByteArray := prog_1_method_20_code
def yX3_fit : MethodName := ⟨RX3, "fit", "(II)I"⟩
abbrev cX3_alike : ByteArray := prog_1_method_21_code
def yX3_alike : MethodName := ⟨RX3, "alike", "(II)I"⟩
abbrev cX3_advise : ByteArray := prog_1_method_22_code
def yX3_advise : MethodName := ⟨RX3, "advise", "(I)I"⟩
abbrev cX3_foresee : ByteArray := prog_1_method_23_code
def yX3_foresee : MethodName := ⟨RX3, "foresee", "(II)I"⟩
abbrev cX3_until : ByteArray := prog_1_method_24_code
def yX3_until : MethodName := ⟨RX3, "until", "()I"⟩
abbrev cX3_mean : ByteArray := prog_1_method_25_code
def yX3_mean : MethodName := ⟨RX3, "mean", "()D"⟩
abbrev cX3_digest : ByteArray := prog_1_method_26_code
def yX3_digest : MethodName := ⟨RX3, "digest", "()J"⟩
abbrev cX3_mixArticle : ByteArray := prog_1_method_27_code
def yX3_mixArticle : MethodName := ⟨RX3, "mixArticle", "(JI)J"⟩
abbrev cX3_mixClient : ByteArray := prog_1_method_28_code
def yX3_mixClient : MethodName := ⟨RX3, "mixClient", "(JI)J"⟩
abbrev cX3_mix : ByteArray := prog_1_method_29_code
def yX3_mix : MethodName := ⟨RX3, "mix", "(JI)J"⟩
abbrev cX3_checkWord : ByteArray := prog_1_method_30_code
def yX3_checkWord : MethodName := ⟨RX3, "checkWord", "(I)V"⟩
abbrev cX3_checkStem : ByteArray := prog_1_method_31_code
def yX3_checkStem : MethodName := ⟨RX3, "checkStem", "(I)V"⟩
abbrev cX3_checkArticle : ByteArray := prog_1_method_32_code
def yX3_checkArticle : MethodName := ⟨RX3, "checkArticle", "(I)V"⟩
abbrev cX3_checkClient : ByteArray := prog_1_method_33_code
def yX3_checkClient : MethodName := ⟨RX3, "checkClient", "(I)V"⟩
abbrev cX3_checkPlace : ByteArray := prog_1_method_34_code
def yX3_checkPlace : MethodName := ⟨RX3, "checkPlace", "(II)V"⟩
abbrev cX3_checkWhat : ByteArray := prog_1_method_35_code
def yX3_checkWhat : MethodName := ⟨RX3, "checkWhat", "(II)V"⟩
abbrev cX3_checkRounds : ByteArray := prog_1_method_36_code
def yX3_checkRounds : MethodName := ⟨RX3, "checkRounds", "(I)V"⟩
abbrev cX3_tellOfArticle : ByteArray := prog_1_method_37_code
def yX3_tellOfArticle : MethodName := ⟨RX3, "tellOfArticle", "(II)I"⟩
abbrev cX3_tellOfClient : ByteArray := prog_1_method_38_code
def yX3_tellOfClient : MethodName := ⟨RX3, "tellOfClient", "(II)I"⟩
abbrev cX3_tellOfAll : ByteArray := prog_1_method_39_code
def yX3_tellOfAll : MethodName := ⟨RX3, "tellOfAll", "(I)I"⟩
abbrev cX3_scoreFor : ByteArray := prog_1_method_40_code
def yX3_scoreFor : MethodName := ⟨RX3, "scoreFor", "(LClipBureau$Ledger;II)I"⟩
abbrev cX3_isFit : ByteArray := prog_1_method_41_code
def yX3_isFit : MethodName := ⟨RX3, "isFit", "(LClipBureau$Ledger;III)Z"⟩
abbrev cX3_fitArticles : ByteArray := prog_1_method_42_code
def yX3_fitArticles : MethodName := ⟨RX3, "fitArticles", "(I)I"⟩
abbrev cX3_bestFit : ByteArray := prog_1_method_43_code
def yX3_bestFit : MethodName := ⟨RX3, "bestFit", "(LClipBureau$Ledger;I)I"⟩
abbrev cX3_fitArticleAt : ByteArray := prog_1_method_44_code
def yX3_fitArticleAt : MethodName := ⟨RX3, "fitArticleAt", "(II)I"⟩
abbrev cX3_fitArticlesAhead : ByteArray := prog_1_method_45_code
def yX3_fitArticlesAhead : MethodName := ⟨RX3, "fitArticlesAhead", "(III)I"⟩
abbrev cX3_topScoreWith : ByteArray := prog_1_method_46_code
def yX3_topScoreWith : MethodName := ⟨RX3, "topScoreWith", "(II)I"⟩
abbrev cX3_priceFor : ByteArray := prog_1_method_47_code
def yX3_priceFor : MethodName := ⟨RX3, "priceFor", "(LClipBureau$Ledger;II)I"⟩
abbrev cX3_sendTo : ByteArray := prog_1_method_48_code
def yX3_sendTo : MethodName := ⟨RX3, "sendTo", "(LClipBureau$Ledger;I)I"⟩
abbrev cX3_playRounds : ByteArray := prog_1_method_49_code
def yX3_playRounds : MethodName := ⟨RX3, "playRounds", "(LClipBureau$Ledger;I)V"⟩
abbrev cX3_someoneIsShort : ByteArray := prog_1_method_50_code
def yX3_someoneIsShort : MethodName := ⟨RX3, "someoneIsShort", "(LClipBureau$Ledger;)Z"⟩
abbrev cX3_removeAt : ByteArray := prog_1_method_51_code
def yX3_removeAt : MethodName := ⟨RX3, "removeAt", "([III)I"⟩
def RX4 : String := "ClipBureauModel"
def TX4 : u_T := fun k => match k with
  | 0 => ("ClipBureauModel", "thrown", "I", false)
  | 1 => ("ClipBureauModel", "articles", "I", false)
  | 2 => ("ClipBureauModel", "clients", "I", false)
  | 3 => ("ClipBureauModel", "rounds", "I", false)
  | 4 => ("ClipBureauModel", "stems", "[I", true)
  | 5 => ("ClipBureauModel", "papers", "[I", true)
  | _ => ("ClipBureauModel", "people", "[I", true)
def tyX4 : Nat → FieldType := fun k => match k with
  | 0 => .int
  | 1 => .int
  | 2 => .int
  | 3 => .int
  | 4 => .array .int
  | 5 => .array .int
  | _ => .array .int
abbrev wsX40 : List Cond := u_ws RX4 TX4 7
theorem nmX4 : ∀ a, a < 7 → ∀ b, b < 7 → a ≠ b → (TX4 a).2.1 ≠ (TX4 b).2.1 := by decide +kernel
theorem tyX4_ok : ∀ k, k < 7 → parseFieldDescriptor (TX4 k).2.2.1 = some (tyX4 k) := by decide +kernel
abbrev cX4_init : ByteArray := prog_6_method_1_code
def yX4_init : MethodName := ⟨RX4, "<init>", "()V"⟩
abbrev cX4_thrown : ByteArray := prog_6_method_2_code
def yX4_thrown : MethodName := ⟨RX4, "thrown", "()I"⟩
abbrev cX4_fail : ByteArray := prog_6_method_3_code
def yX4_fail : MethodName := ⟨RX4, "fail", "(I)I"⟩
abbrev cX4_isIn : ByteArray := prog_6_method_4_code
def yX4_isIn : MethodName := ⟨RX4, "isIn", "(III)Z"⟩
abbrev cX4_isArticle : ByteArray := prog_6_method_5_code
def yX4_isArticle : MethodName := ⟨RX4, "isArticle", "(I)Z"⟩
abbrev cX4_isClient : ByteArray := prog_6_method_6_code
def yX4_isClient : MethodName := ⟨RX4, "isClient", "(I)Z"⟩
abbrev cX4_isStem : ByteArray := prog_6_method_7_code
def yX4_isStem : MethodName := ⟨RX4, "isStem", "(I)Z"⟩
abbrev cX4_isWord : ByteArray := prog_6_method_8_code
def yX4_isWord : MethodName := ⟨RX4, "isWord", "(I)Z"⟩
abbrev cX4_ar : ByteArray := prog_6_method_9_code
def yX4_ar : MethodName := ⟨RX4, "ar", "(II)I"⟩
abbrev cX4_cl : ByteArray := prog_6_method_10_code
def yX4_cl : MethodName := ⟨RX4, "cl", "(II)I"⟩
abbrev cX4_put : ByteArray := prog_6_method_11_code
def yX4_put : MethodName := ⟨RX4, "put", "(III)V"⟩
abbrev cX4_setStem : ByteArray := prog_6_method_12_code
def yX4_setStem : MethodName := ⟨RX4, "setStem", "(II)I"⟩
abbrev cX4_print : ByteArray := prog_6_method_13_code
def yX4_print : MethodName := ⟨RX4, "print", "()I"⟩
abbrev cX4_write : ByteArray := prog_6_method_14_code
def yX4_write : MethodName := ⟨RX4, "write", "(II)I"⟩
abbrev cX4_strike : ByteArray := prog_6_method_15_code
def yX4_strike : MethodName := ⟨RX4, "strike", "(II)I"⟩
abbrev cX4_client : ByteArray := prog_6_method_16_code
def yX4_client : MethodName := ⟨RX4, "client", "(I)I"⟩
abbrev cX4_wish : ByteArray := prog_6_method_17_code
def yX4_wish : MethodName := ⟨RX4, "wish", "(II)I"⟩
abbrev cX4_want : ByteArray := prog_6_method_18_code
def yX4_want : MethodName := ⟨RX4, "want", "(II)I"⟩
abbrev cX4_drop : ByteArray := prog_6_method_19_code
def yX4_drop : MethodName := ⟨RX4, "drop", "(II)I"⟩
abbrev cX4_setBar : ByteArray := prog_6_method_20_code
def yX4_setBar : MethodName := ⟨RX4, "setBar", "(II)I"⟩
abbrev cX4_pay : ByteArray := prog_6_method_21_code
def yX4_pay : MethodName := ⟨RX4, "pay", "(II)I"⟩
abbrev cX4_times : ByteArray := prog_6_method_22_code
def yX4_times : MethodName := ⟨RX4, "times", "(II)I"⟩
abbrev cX4_rare : ByteArray := prog_6_method_23_code
def yX4_rare : MethodName := ⟨RX4, "rare", "(I)I"⟩
abbrev cX4_scored : ByteArray := prog_6_method_24_code
def yX4_scored : MethodName := ⟨RX4, "scored", "(II)I"⟩
abbrev cX4_isFit : ByteArray := prog_6_method_25_code
def yX4_isFit : MethodName := ⟨RX4, "isFit", "(II)Z"⟩
abbrev cX4_fitAt : ByteArray := prog_6_method_26_code
def yX4_fitAt : MethodName := ⟨RX4, "fitAt", "(II)I"⟩
abbrev cX4_fits : ByteArray := prog_6_method_27_code
def yX4_fits : MethodName := ⟨RX4, "fits", "(I)I"⟩
abbrev cX4_price : ByteArray := prog_6_method_28_code
def yX4_price : MethodName := ⟨RX4, "price", "(II)I"⟩
abbrev cX4_sendTo : ByteArray := prog_6_method_29_code
def yX4_sendTo : MethodName := ⟨RX4, "sendTo", "(I)I"⟩
abbrev cX4_send : ByteArray := prog_6_method_30_code
def yX4_send : MethodName := ⟨RX4, "send", "(I)I"⟩
abbrev cX4_roundOn : ByteArray := prog_6_method_31_code
def yX4_roundOn : MethodName := ⟨RX4, "roundOn", "()I"⟩
abbrev cX4_roundsOn : ByteArray := prog_6_method_32_code
def yX4_roundsOn : MethodName := ⟨RX4, "roundsOn", "(I)I"⟩
abbrev cX4_pass : ByteArray := prog_6_method_33_code
def yX4_pass : MethodName := ⟨RX4, "pass", "(I)I"⟩
abbrev cX4_stemsOf : ByteArray := prog_6_method_34_code
def yX4_stemsOf : MethodName := ⟨RX4, "stemsOf", "(I)I"⟩
abbrev cX4_sentTo : ByteArray := prog_6_method_35_code
def yX4_sentTo : MethodName := ⟨RX4, "sentTo", "(I)I"⟩
abbrev cX4_articleTold : ByteArray := prog_6_method_36_code
def yX4_articleTold : MethodName := ⟨RX4, "articleTold", "(II)I"⟩
abbrev cX4_told : ByteArray := prog_6_method_37_code
def yX4_told : MethodName := ⟨RX4, "told", "(II)I"⟩
abbrev cX4_word : ByteArray := prog_6_method_38_code
def yX4_word : MethodName := ⟨RX4, "word", "(II)I"⟩
abbrev cX4_sent : ByteArray := prog_6_method_39_code
def yX4_sent : MethodName := ⟨RX4, "sent", "(I)I"⟩
abbrev cX4_clientTold : ByteArray := prog_6_method_40_code
def yX4_clientTold : MethodName := ⟨RX4, "clientTold", "(II)I"⟩
abbrev cX4_about : ByteArray := prog_6_method_41_code
def yX4_about : MethodName := ⟨RX4, "about", "(II)I"⟩
abbrev cX4_stem : ByteArray := prog_6_method_42_code
def yX4_stem : MethodName := ⟨RX4, "stem", "(II)I"⟩
abbrev cX4_counted : ByteArray := prog_6_method_43_code
def yX4_counted : MethodName := ⟨RX4, "counted", "(I)I"⟩
abbrev cX4_count : ByteArray := prog_6_method_44_code
def yX4_count : MethodName := ⟨RX4, "count", "(I)I"⟩
abbrev cX4_rarity : ByteArray := prog_6_method_45_code
def yX4_rarity : MethodName := ⟨RX4, "rarity", "(I)I"⟩
abbrev cX4_score : ByteArray := prog_6_method_46_code
def yX4_score : MethodName := ⟨RX4, "score", "(II)I"⟩
abbrev cX4_fit : ByteArray := prog_6_method_47_code
def yX4_fit : MethodName := ⟨RX4, "fit", "(II)I"⟩
abbrev cX4_alike : ByteArray := prog_6_method_48_code
def yX4_alike : MethodName := ⟨RX4, "alike", "(II)I"⟩
abbrev cX4_advise : ByteArray := prog_6_method_49_code
def yX4_advise : MethodName := ⟨RX4, "advise", "(I)I"⟩
abbrev cX4_bringBack : ByteArray := prog_6_method_50_code
def yX4_bringBack : MethodName := ⟨RX4, "bringBack", "([I[II)V"⟩
abbrev cX4_foresee : ByteArray := prog_6_method_51_code
def yX4_foresee : MethodName := ⟨RX4, "foresee", "(II)I"⟩
abbrev cX4_isShort : ByteArray := prog_6_method_52_code
def yX4_isShort : MethodName := ⟨RX4, "isShort", "()Z"⟩
abbrev cX4_until : ByteArray := prog_6_method_53_code
def yX4_until : MethodName := ⟨RX4, "until", "()I"⟩
abbrev cX4_mean : ByteArray := prog_6_method_54_code
def yX4_mean : MethodName := ⟨RX4, "mean", "()D"⟩
abbrev cX4_digest : ByteArray := prog_6_method_55_code
def yX4_digest : MethodName := ⟨RX4, "digest", "()J"⟩
def RJx145de : String := "java/io/Serializable"
def RJx8e188 : String := "java/lang/Cloneable"
def RJ6 : String := "java/lang/Integer"
abbrev cJ6_bitCount_0f7a4 : ByteArray := prog_12_method_49_code
def yJ6_bitCount_0f7a4 : MethodName := ⟨RJ6, "bitCount", "(I)I"⟩
def RJ9 : String := "java/lang/Math"
abbrev cJ9_max_7cf53 : ByteArray := prog_13_method_65_code
def yJ9_max_7cf53 : MethodName := ⟨RJ9, "max", "(II)I"⟩
abbrev cJ9_min_7cf53 : ByteArray := prog_13_method_69_code
def yJ9_min_7cf53 : MethodName := ⟨RJ9, "min", "(II)I"⟩
def RJ0 : String := "java/lang/String"
def RJ10 : String := "java/lang/System"
def RJ7 : String := "java/util/Arrays"
abbrev cJ7_fill_53178 : ByteArray := prog_18_method_103_code
def yJ7_fill_53178 : MethodName := ⟨RJ7, "fill", "([II)V"⟩
def RL : String := "ClipBureauLaw"
abbrev cL_setStem : ByteArray := method_3_code
def yL_setStem : MethodName := ⟨RL, "setStem", "(LClipBureau;II[J)I"⟩
abbrev cL_print : ByteArray := method_4_code
def yL_print : MethodName := ⟨RL, "print", "(LClipBureau;[J)I"⟩
abbrev cL_write : ByteArray := method_5_code
def yL_write : MethodName := ⟨RL, "write", "(LClipBureau;II[J)I"⟩
abbrev cL_strike : ByteArray := method_6_code
def yL_strike : MethodName := ⟨RL, "strike", "(LClipBureau;II[J)I"⟩
abbrev cL_client : ByteArray := method_7_code
def yL_client : MethodName := ⟨RL, "client", "(LClipBureau;I[J)I"⟩
abbrev cL_want : ByteArray := method_8_code
def yL_want : MethodName := ⟨RL, "want", "(LClipBureau;II[J)I"⟩
abbrev cL_drop : ByteArray := method_9_code
def yL_drop : MethodName := ⟨RL, "drop", "(LClipBureau;II[J)I"⟩
abbrev cL_setBar : ByteArray := method_10_code
def yL_setBar : MethodName := ⟨RL, "setBar", "(LClipBureau;II[J)I"⟩
abbrev cL_pay : ByteArray := method_11_code
def yL_pay : MethodName := ⟨RL, "pay", "(LClipBureau;II[J)I"⟩
abbrev cL_send : ByteArray := method_12_code
def yL_send : MethodName := ⟨RL, "send", "(LClipBureau;I[J)I"⟩
abbrev cL_pass : ByteArray := method_13_code
def yL_pass : MethodName := ⟨RL, "pass", "(LClipBureau;I[J)I"⟩
abbrev cL_told : ByteArray := method_14_code
def yL_told : MethodName := ⟨RL, "told", "(LClipBureau;II[J)I"⟩
abbrev cL_word : ByteArray := method_15_code
def yL_word : MethodName := ⟨RL, "word", "(LClipBureau;II[J)I"⟩
abbrev cL_about : ByteArray := method_16_code
def yL_about : MethodName := ⟨RL, "about", "(LClipBureau;II[J)I"⟩
abbrev cL_stem : ByteArray := method_17_code
def yL_stem : MethodName := ⟨RL, "stem", "(LClipBureau;II[J)I"⟩
abbrev cL_count : ByteArray := method_18_code
def yL_count : MethodName := ⟨RL, "count", "(LClipBureau;I[J)I"⟩
abbrev cL_rarity : ByteArray := method_19_code
def yL_rarity : MethodName := ⟨RL, "rarity", "(LClipBureau;I[J)I"⟩
abbrev cL_score : ByteArray := method_20_code
def yL_score : MethodName := ⟨RL, "score", "(LClipBureau;II[J)I"⟩
abbrev cL_fit : ByteArray := method_21_code
def yL_fit : MethodName := ⟨RL, "fit", "(LClipBureau;II[J)I"⟩
abbrev cL_alike : ByteArray := method_22_code
def yL_alike : MethodName := ⟨RL, "alike", "(LClipBureau;II[J)I"⟩
abbrev cL_advise : ByteArray := method_23_code
def yL_advise : MethodName := ⟨RL, "advise", "(LClipBureau;I[J)I"⟩
abbrev cL_foresee : ByteArray := method_24_code
def yL_foresee : MethodName := ⟨RL, "foresee", "(LClipBureau;II[J)I"⟩
abbrev cL_law : ByteArray := code
def yL_law : MethodName := ⟨RL, "law", "([I)Z"⟩
abbrev vwCl : List vw_C := [(RX0, TX0, 5), (RX1, TX1, 4), (RX2, TX2, 6), (RX3, TX3, 5), (RX4, TX4, 7)]
end
section
-- printed by wip/whole/gen.py: methods, instructions, links
abbrev dp_I : Type := Nat × Jvm.ClassFile.Instr × Nat
def dp_t0 : List dp_I := [(0, .aload_n 1, 1), (1, .getfield 9, 3), (4, .iconst 0, 1), (5, .aload_n 0, 1), (6, .getfield 9, 3), (9, .iconst 0, 1), (10, .bipush 16, 2), (12, .invokestatic 24, 3), (15, .aload_n 1, 1), (16, .getfield 15, 3), (19, .iconst 0, 1), (20, .aload_n 0, 1), (21, .getfield 15, 3), (24, .iconst 0, 1), (25, .bipush 6, 2), (27, .invokestatic 24, 3), (30, .aload_n 1, 1), (31, .getfield 18, 3), (34, .iconst 0, 1), (35, .aload_n 0, 1), (36, .getfield 18, 3), (39, .iconst 0, 1), (40, .bipush 6, 2), (42, .invokestatic 24, 3), (45, .aload_n 1, 1), (46, .getfield 21, 3), (49, .iconst 0, 1), (50, .aload_n 0, 1), (51, .getfield 21, 3), (54, .iconst 0, 1), (55, .bipush 6, 2), (57, .invokestatic 24, 3), (60, .aload_n 0, 1), (61, .aload_n 1, 1), (62, .getfield 30, 3), (65, .putfield 30, 3), (68, .return_, 1)]
def dp_t1 : List dp_I := [(0, .aload_n 0, 1), (1, .getfield 21, 3), (4, .iload_n 1, 1), (5, .iaload, 1), (6, .iload_n 2, 1), (7, .ishr, 1), (8, .iconst 1, 1), (9, .iand, 1), (10, .iconst 1, 1), (11, .if_icmp .ne 7, 3), (14, .iconst 1, 1), (15, .goto 4, 3), (18, .iconst 0, 1), (19, .ireturn, 1)]
def dp_t2 : List dp_I := [(0, .aload_n 0, 1), (1, .getfield 15, 3), (4, .iload_n 1, 1), (5, .dup2, 1), (6, .iaload, 1), (7, .iload_n 3, 1), (8, .isub, 1), (9, .iastore, 1), (10, .aload_n 0, 1), (11, .getfield 18, 3), (14, .iload_n 1, 1), (15, .dup2, 1), (16, .iaload, 1), (17, .iload_n 3, 1), (18, .iadd, 1), (19, .iastore, 1), (20, .aload_n 0, 1), (21, .getfield 21, 3), (24, .iload_n 1, 1), (25, .dup2, 1), (26, .iaload, 1), (27, .iconst 1, 1), (28, .iload_n 2, 1), (29, .ishl, 1), (30, .ior, 1), (31, .iastore, 1), (32, .return_, 1)]
def dp_t3 : List dp_I := [(0, .iconst 0, 1), (1, .istore_n 2, 1), (2, .iload_n 2, 1), (3, .iload_n 1, 1), (4, .if_icmp .ge 19, 3), (7, .aload_n 0, 1), (8, .getfield 9, 3), (11, .iload_n 2, 1), (12, .dup2, 1), (13, .iaload, 1), (14, .iconst 1, 1), (15, .iadd, 1), (16, .iastore, 1), (17, .iinc 2 1, 3), (20, .goto (-18), 3), (23, .aload_n 0, 1), (24, .dup, 1), (25, .getfield 30, 3), (28, .iconst 1, 1), (29, .iadd, 1), (30, .putfield 30, 3), (33, .return_, 1)]
def dp_t4 : List dp_I := [(0, .iconst 0, 1), (1, .istore_n 2, 1), (2, .iconst 0, 1), (3, .istore_n 3, 1), (4, .iload_n 3, 1), (5, .bipush 6, 2), (7, .if_icmp .ge 21, 3), (10, .aload_n 0, 1), (11, .iload_n 3, 1), (12, .iload_n 1, 1), (13, .invokevirtual 34, 3), (16, .ifCond .eq 6, 3), (19, .iinc 2 1, 3), (22, .iinc 3 1, 3), (25, .goto (-21), 3), (28, .iload_n 2, 1), (29, .ireturn, 1)]
def dp_t5 : List dp_I := [(0, .iconst 0, 1), (1, .istore_n 1, 1), (2, .iconst 0, 1), (3, .istore_n 2, 1), (4, .iload_n 2, 1), (5, .bipush 6, 2), (7, .if_icmp .ge 21, 3), (10, .iload_n 1, 1), (11, .aload_n 0, 1), (12, .getfield 21, 3), (15, .iload_n 2, 1), (16, .iaload, 1), (17, .invokestatic 38, 3), (20, .iadd, 1), (21, .istore_n 1, 1), (22, .iinc 2 1, 3), (25, .goto (-21), 3), (28, .iload_n 1, 1), (29, .ireturn, 1)]
def dp_t6 : List dp_I := [(0, .iconst 0, 1), (1, .istore_n 1, 1), (2, .iconst 0, 1), (3, .istore_n 2, 1), (4, .iload_n 2, 1), (5, .bipush 6, 2), (7, .if_icmp .ge 18, 3), (10, .iload_n 1, 1), (11, .aload_n 0, 1), (12, .getfield 18, 3), (15, .iload_n 2, 1), (16, .iaload, 1), (17, .iadd, 1), (18, .istore_n 1, 1), (19, .iinc 2 1, 3), (22, .goto (-18), 3), (25, .iload_n 1, 1), (26, .ireturn, 1)]
def dp_t7 : List dp_I := [(0, .iconst 0, 1), (1, .istore_n 3, 1), (2, .iload_n 3, 1), (3, .aload_n 0, 1), (4, .getfield 16, 3), (7, .iload_n 1, 1), (8, .iaload, 1), (9, .if_icmp .ge 23, 3), (12, .aload_n 0, 1), (13, .getfield 11, 3), (16, .iload_n 1, 1), (17, .aaload, 1), (18, .iload_n 3, 1), (19, .iaload, 1), (20, .iload_n 2, 1), (21, .if_icmp .ne 5, 3), (24, .iload_n 3, 1), (25, .ireturn, 1), (26, .iinc 3 1, 3), (29, .goto (-27), 3), (32, .iconst (-1), 1), (33, .ireturn, 1)]
def dp_t8 : List dp_I := [(0, .aload_n 0, 1), (1, .getfield 26, 3), (4, .iconst 0, 1), (5, .invokestatic 29, 3), (8, .iconst 0, 1), (9, .istore_n 1, 1), (10, .iload_n 1, 1), (11, .aload_n 0, 1), (12, .getfield 35, 3), (15, .if_icmp .ge 14, 3), (18, .aload_n 0, 1), (19, .iload_n 1, 1), (20, .invokevirtual 39, 3), (23, .iinc 1 1, 3), (26, .goto (-16), 3), (29, .return_, 1)]
def dp_t9 : List dp_I := [(0, .aload_n 0, 1), (1, .getfield 23, 3), (4, .iload_n 1, 1), (5, .aaload, 1), (6, .astore_n 2, 1), (7, .aload_n 2, 1), (8, .iconst 0, 1), (9, .invokestatic 29, 3), (12, .iconst 0, 1), (13, .istore_n 3, 1), (14, .iload_n 3, 1), (15, .aload_n 0, 1), (16, .getfield 20, 3), (19, .iload_n 1, 1), (20, .iaload, 1), (21, .if_icmp .ge 43, 3), (24, .aload_n 0, 1), (25, .aload_n 0, 1), (26, .getfield 17, 3), (29, .iload_n 1, 1), (30, .aaload, 1), (31, .iload_n 3, 1), (32, .iaload, 1), (33, .invokevirtual 43, 3), (36, .istore 4, 2), (38, .iload 4, 2), (40, .ifCond .lt 18, 3), (43, .iload 4, 2), (45, .bipush 20, 2), (47, .if_icmp .ge 11, 3), (50, .aload_n 2, 1), (51, .iload 4, 2), (53, .dup2, 1), (54, .iaload, 1), (55, .iconst 1, 1), (56, .iadd, 1), (57, .iastore, 1), (58, .iinc 3 1, 3), (61, .goto (-47), 3), (64, .iconst 0, 1), (65, .istore_n 3, 1), (66, .iload_n 3, 1), (67, .bipush 20, 2), (69, .if_icmp .ge 25, 3), (72, .aload_n 2, 1), (73, .iload_n 3, 1), (74, .iaload, 1), (75, .ifCond .le 13, 3), (78, .aload_n 0, 1), (79, .getfield 26, 3), (82, .iload_n 3, 1), (83, .dup2, 1), (84, .iaload, 1), (85, .iconst 1, 1), (86, .iadd, 1), (87, .iastore, 1), (88, .iinc 3 1, 3), (91, .goto (-25), 3), (94, .return_, 1)]
def dp_t10 : List dp_I := [(0, .iload_n 1, 1), (1, .ifCond .lt 9, 3), (4, .iload_n 1, 1), (5, .bipush 40, 2), (7, .if_icmp .lt 7, 3), (10, .iconst (-1), 1), (11, .goto 9, 3), (14, .aload_n 0, 1), (15, .getfield 9, 3), (18, .iload_n 1, 1), (19, .iaload, 1), (20, .ireturn, 1)]
def dp_t11 : List dp_I := [(0, .iload_n 1, 1), (1, .ifCond .lt 9, 3), (4, .iload_n 1, 1), (5, .bipush 20, 2), (7, .if_icmp .lt 7, 3), (10, .iconst 0, 1), (11, .goto 9, 3), (14, .aload_n 0, 1), (15, .getfield 26, 3), (18, .iload_n 1, 1), (19, .iaload, 1), (20, .istore_n 2, 1), (21, .bipush 10, 2), (23, .aload_n 0, 1), (24, .getfield 35, 3), (27, .iconst 1, 1), (28, .iadd, 1), (29, .imul, 1), (30, .iload_n 2, 1), (31, .iconst 1, 1), (32, .iadd, 1), (33, .idiv, 1), (34, .ireturn, 1)]
def dp_t12 : List dp_I := [(0, .iload_n 2, 1), (1, .ifCond .lt 9, 3), (4, .iload_n 2, 1), (5, .bipush 20, 2), (7, .if_icmp .lt 7, 3), (10, .iconst 0, 1), (11, .goto 11, 3), (14, .aload_n 0, 1), (15, .getfield 23, 3), (18, .iload_n 1, 1), (19, .aaload, 1), (20, .iload_n 2, 1), (21, .iaload, 1), (22, .ireturn, 1)]
def dp_t13 : List dp_I := [(0, .iconst 0, 1), (1, .istore 5, 2), (3, .iconst 0, 1), (4, .istore 6, 2), (6, .iconst 0, 1), (7, .istore 7, 2), (9, .iload 7, 2), (11, .iload_n 3, 1), (12, .if_icmp .ge 48, 3), (15, .aload_n 0, 1), (16, .iload_n 1, 1), (17, .aload_n 2, 1), (18, .iload 7, 2), (20, .iaload, 1), (21, .invokevirtual 47, 3), (24, .istore 8, 2), (26, .iload 8, 2), (28, .ifCond .le 26, 3), (31, .iinc 6 1, 3), (34, .iload 5, 2), (36, .iload 8, 2), (38, .iconst 3, 1), (39, .invokestatic 51, 3), (42, .aload_n 0, 1), (43, .aload_n 2, 1), (44, .iload 7, 2), (46, .iaload, 1), (47, .invokevirtual 56, 3), (50, .imul, 1), (51, .iadd, 1), (52, .istore 5, 2), (54, .iinc 7 1, 3), (57, .goto (-48), 3), (60, .iload_n 3, 1), (61, .iconst 2, 1), (62, .if_icmp .lt 18, 3), (65, .iload 6, 2), (67, .iload_n 3, 1), (68, .if_icmp .ne 12, 3), (71, .iload 5, 2), (73, .iload 5, 2), (75, .iconst 2, 1), (76, .idiv, 1), (77, .iadd, 1), (78, .istore 5, 2), (80, .iload 5, 2), (82, .iconst 3, 1), (83, .iload 4, 2), (85, .imul, 1), (86, .isub, 1), (87, .iconst 0, 1), (88, .invokestatic 59, 3), (91, .ireturn, 1)]
def dp_t14 : List dp_I := [(0, .iconst 0, 1), (1, .istore_n 2, 1), (2, .iconst 0, 1), (3, .istore_n 3, 1), (4, .iload_n 3, 1), (5, .bipush 20, 2), (7, .if_icmp .ge 23, 3), (10, .aload_n 0, 1), (11, .getfield 23, 3), (14, .iload_n 1, 1), (15, .aaload, 1), (16, .iload_n 3, 1), (17, .iaload, 1), (18, .ifCond .le 6, 3), (21, .iinc 2 1, 3), (24, .iinc 3 1, 3), (27, .goto (-23), 3), (30, .iload_n 2, 1), (31, .ireturn, 1)]
def dp_t15 : List dp_I := [(0, .iconst 0, 1), (1, .istore_n 1, 1), (2, .iconst 0, 1), (3, .istore_n 2, 1), (4, .iload_n 2, 1), (5, .bipush 20, 2), (7, .if_icmp .ge 21, 3), (10, .aload_n 0, 1), (11, .getfield 26, 3), (14, .iload_n 2, 1), (15, .iaload, 1), (16, .ifCond .le 6, 3), (19, .iinc 1 1, 3), (22, .iinc 2 1, 3), (25, .goto (-21), 3), (28, .iload_n 1, 1), (29, .ireturn, 1)]
def dp_t16 : List dp_I := [(0, .iconst 0, 1), (1, .istore_n 1, 1), (2, .iconst 0, 1), (3, .istore_n 2, 1), (4, .iload_n 2, 1), (5, .aload_n 0, 1), (6, .getfield 35, 3), (9, .if_icmp .ge 18, 3), (12, .iload_n 1, 1), (13, .aload_n 0, 1), (14, .getfield 20, 3), (17, .iload_n 2, 1), (18, .iaload, 1), (19, .iadd, 1), (20, .istore_n 1, 1), (21, .iinc 2 1, 3), (24, .goto (-20), 3), (27, .iload_n 1, 1), (28, .ireturn, 1)]
def dp_t17 : List dp_I := [(0, .iconst 0, 1), (1, .istore_n 3, 1), (2, .iconst 0, 1), (3, .istore 4, 2), (5, .iload 4, 2), (7, .bipush 20, 2), (9, .if_icmp .ge 33, 3), (12, .iload_n 3, 1), (13, .aload_n 0, 1), (14, .getfield 23, 3), (17, .iload_n 1, 1), (18, .aaload, 1), (19, .iload 4, 2), (21, .iaload, 1), (22, .aload_n 0, 1), (23, .getfield 23, 3), (26, .iload_n 2, 1), (27, .aaload, 1), (28, .iload 4, 2), (30, .iaload, 1), (31, .invokestatic 51, 3), (34, .iadd, 1), (35, .istore_n 3, 1), (36, .iinc 4 1, 3), (39, .goto (-34), 3), (42, .iload_n 3, 1), (43, .ireturn, 1)]
def dp_t18 : List dp_I := [(0, .iload_n 1, 1), (1, .invokestatic 37, 3), (4, .iload_n 2, 1), (5, .invokestatic 41, 3), (8, .aload_n 0, 1), (9, .getfield 10, 3), (12, .getfield 44, 3), (15, .iload_n 1, 1), (16, .iaload, 1), (17, .istore_n 3, 1), (18, .aload_n 0, 1), (19, .getfield 10, 3), (22, .getfield 44, 3), (25, .iload_n 1, 1), (26, .iload_n 2, 1), (27, .iastore, 1), (28, .aload_n 0, 1), (29, .getfield 10, 3), (32, .invokevirtual 47, 3), (35, .iload_n 3, 1), (36, .ireturn, 1)]
def dp_t19 : List dp_I := [(0, .aload_n 0, 1), (1, .getfield 10, 3), (4, .getfield 50, 3), (7, .bipush 16, 2), (9, .if_icmp .lt 13, 3), (12, .new 54, 3), (15, .dup, 1), (16, .ldc 56, 2), (18, .invokespecial 58, 3), (21, .athrow, 1), (22, .aload_n 0, 1), (23, .getfield 10, 3), (26, .dup, 1), (27, .getfield 50, 3), (30, .iconst 1, 1), (31, .iadd, 1), (32, .putfield 50, 3), (35, .aload_n 0, 1), (36, .getfield 10, 3), (39, .getfield 50, 3), (42, .iconst 1, 1), (43, .isub, 1), (44, .ireturn, 1)]
def dp_t20 : List dp_I := [(0, .aload_n 0, 1), (1, .iload_n 1, 1), (2, .invokevirtual 61, 3), (5, .iload_n 2, 1), (6, .invokestatic 37, 3), (9, .aload_n 0, 1), (10, .getfield 10, 3), (13, .getfield 64, 3), (16, .iload_n 1, 1), (17, .iaload, 1), (18, .istore_n 3, 1), (19, .iload_n 3, 1), (20, .bipush 12, 2), (22, .if_icmp .lt 13, 3), (25, .new 54, 3), (28, .dup, 1), (29, .ldc 67, 2), (31, .invokespecial 58, 3), (34, .athrow, 1), (35, .aload_n 0, 1), (36, .getfield 10, 3), (39, .getfield 69, 3), (42, .iload_n 1, 1), (43, .aaload, 1), (44, .iload_n 3, 1), (45, .iload_n 2, 1), (46, .iastore, 1), (47, .aload_n 0, 1), (48, .getfield 10, 3), (51, .getfield 64, 3), (54, .iload_n 1, 1), (55, .iload_n 3, 1), (56, .iconst 1, 1), (57, .iadd, 1), (58, .iastore, 1), (59, .aload_n 0, 1), (60, .getfield 10, 3), (63, .invokevirtual 47, 3), (66, .iload_n 3, 1), (67, .iconst 1, 1), (68, .iadd, 1), (69, .ireturn, 1)]
def dp_t21 : List dp_I := [(0, .aload_n 0, 1), (1, .iload_n 1, 1), (2, .invokevirtual 61, 3), (5, .iload_n 2, 1), (6, .aload_n 0, 1), (7, .getfield 10, 3), (10, .getfield 64, 3), (13, .iload_n 1, 1), (14, .iaload, 1), (15, .invokestatic 73, 3), (18, .aload_n 0, 1), (19, .getfield 10, 3), (22, .getfield 69, 3), (25, .iload_n 1, 1), (26, .aaload, 1), (27, .iload_n 2, 1), (28, .iaload, 1), (29, .istore_n 3, 1), (30, .aload_n 0, 1), (31, .getfield 10, 3), (34, .getfield 64, 3), (37, .iload_n 1, 1), (38, .aload_n 0, 1), (39, .getfield 10, 3), (42, .getfield 69, 3), (45, .iload_n 1, 1), (46, .aaload, 1), (47, .aload_n 0, 1), (48, .getfield 10, 3), (51, .getfield 64, 3), (54, .iload_n 1, 1), (55, .iaload, 1), (56, .iload_n 2, 1), (57, .invokestatic 77, 3), (60, .iastore, 1), (61, .aload_n 0, 1), (62, .getfield 10, 3), (65, .invokevirtual 47, 3), (68, .iload_n 3, 1), (69, .ireturn, 1)]
def dp_t22 : List dp_I := [(0, .iload_n 1, 1), (1, .ifCond .lt 10, 3), (4, .iload_n 1, 1), (5, .sipush 999, 3), (8, .if_icmp .le 13, 3), (11, .new 81, 3), (14, .dup, 1), (15, .ldc 83, 2), (17, .invokespecial 85, 3), (20, .athrow, 1), (21, .aload_n 0, 1), (22, .getfield 19, 3), (25, .getfield 86, 3), (28, .istore_n 2, 1), (29, .iload_n 2, 1), (30, .bipush 6, 2), (32, .if_icmp .lt 13, 3), (35, .new 54, 3), (38, .dup, 1), (39, .ldc 89, 2), (41, .invokespecial 58, 3), (44, .athrow, 1), (45, .aload_n 0, 1), (46, .getfield 26, 3), (49, .getfield 91, 3), (52, .iload_n 2, 1), (53, .iload_n 1, 1), (54, .iastore, 1), (55, .aload_n 0, 1), (56, .getfield 19, 3), (59, .iload_n 2, 1), (60, .iconst 1, 1), (61, .iadd, 1), (62, .putfield 86, 3), (65, .iload_n 2, 1), (66, .ireturn, 1)]
def dp_t23 : List dp_I := [(0, .aload_n 0, 1), (1, .iload_n 1, 1), (2, .invokevirtual 94, 3), (5, .iload_n 2, 1), (6, .invokestatic 41, 3), (9, .aload_n 0, 1), (10, .getfield 19, 3), (13, .getfield 97, 3), (16, .iload_n 1, 1), (17, .iaload, 1), (18, .istore_n 3, 1), (19, .iload_n 3, 1), (20, .iconst 5, 1), (21, .if_icmp .lt 13, 3), (24, .new 54, 3), (27, .dup, 1), (28, .ldc 100, 2), (30, .invokespecial 58, 3), (33, .athrow, 1), (34, .aload_n 0, 1), (35, .getfield 19, 3), (38, .iload_n 1, 1), (39, .iload_n 2, 1), (40, .invokevirtual 102, 3), (43, .iconst (-1), 1), (44, .if_icmp .eq 13, 3), (47, .new 54, 3), (50, .dup, 1), (51, .ldc 106, 2), (53, .invokespecial 58, 3), (56, .athrow, 1), (57, .aload_n 0, 1), (58, .getfield 19, 3), (61, .getfield 108, 3), (64, .iload_n 1, 1), (65, .aaload, 1), (66, .iload_n 3, 1), (67, .iload_n 2, 1), (68, .iastore, 1), (69, .aload_n 0, 1), (70, .getfield 19, 3), (73, .getfield 97, 3), (76, .iload_n 1, 1), (77, .iload_n 3, 1), (78, .iconst 1, 1), (79, .iadd, 1), (80, .iastore, 1), (81, .iload_n 3, 1), (82, .iconst 1, 1), (83, .iadd, 1), (84, .ireturn, 1)]
def dp_t24 : List dp_I := [(0, .aload_n 0, 1), (1, .iload_n 1, 1), (2, .invokevirtual 94, 3), (5, .iload_n 2, 1), (6, .invokestatic 41, 3), (9, .aload_n 0, 1), (10, .getfield 19, 3), (13, .iload_n 1, 1), (14, .iload_n 2, 1), (15, .invokevirtual 102, 3), (18, .istore_n 3, 1), (19, .iload_n 3, 1), (20, .iconst (-1), 1), (21, .if_icmp .ne 13, 3), (24, .new 54, 3), (27, .dup, 1), (28, .ldc 111, 2), (30, .invokespecial 58, 3), (33, .athrow, 1), (34, .aload_n 0, 1), (35, .getfield 19, 3), (38, .getfield 97, 3), (41, .iload_n 1, 1), (42, .aload_n 0, 1), (43, .getfield 19, 3), (46, .getfield 108, 3), (49, .iload_n 1, 1), (50, .aaload, 1), (51, .aload_n 0, 1), (52, .getfield 19, 3), (55, .getfield 97, 3), (58, .iload_n 1, 1), (59, .iaload, 1), (60, .iload_n 3, 1), (61, .invokestatic 77, 3), (64, .iastore, 1), (65, .iload_n 3, 1), (66, .ireturn, 1)]
def dp_t25 : List dp_I := [(0, .aload_n 0, 1), (1, .iload_n 1, 1), (2, .invokevirtual 94, 3), (5, .iload_n 2, 1), (6, .ifCond .lt 10, 3), (9, .iload_n 2, 1), (10, .sipush 999, 3), (13, .if_icmp .le 13, 3), (16, .new 81, 3), (19, .dup, 1), (20, .ldc 113, 2), (22, .invokespecial 85, 3), (25, .athrow, 1), (26, .aload_n 0, 1), (27, .getfield 19, 3), (30, .getfield 115, 3), (33, .iload_n 1, 1), (34, .iaload, 1), (35, .istore_n 3, 1), (36, .aload_n 0, 1), (37, .getfield 19, 3), (40, .getfield 115, 3), (43, .iload_n 1, 1), (44, .iload_n 2, 1), (45, .iastore, 1), (46, .iload_n 3, 1), (47, .ireturn, 1)]
def dp_t26 : List dp_I := [(0, .aload_n 0, 1), (1, .iload_n 1, 1), (2, .invokevirtual 94, 3), (5, .iload_n 2, 1), (6, .iconst 1, 1), (7, .if_icmp .lt 10, 3), (10, .iload_n 2, 1), (11, .sipush 999, 3), (14, .if_icmp .le 13, 3), (17, .new 81, 3), (20, .dup, 1), (21, .ldc 118, 2), (23, .invokespecial 85, 3), (26, .athrow, 1), (27, .aload_n 0, 1), (28, .getfield 26, 3), (31, .getfield 91, 3), (34, .iload_n 1, 1), (35, .aload_n 0, 1), (36, .getfield 26, 3), (39, .getfield 91, 3), (42, .iload_n 1, 1), (43, .iaload, 1), (44, .iload_n 2, 1), (45, .iadd, 1), (46, .sipush 9999, 3), (49, .invokestatic 120, 3), (52, .iastore, 1), (53, .aload_n 0, 1), (54, .getfield 26, 3), (57, .getfield 91, 3), (60, .iload_n 1, 1), (61, .iaload, 1), (62, .ireturn, 1)]
def dp_t27 : List dp_I := [(0, .aload_n 0, 1), (1, .iload_n 1, 1), (2, .invokevirtual 94, 3), (5, .aload_n 0, 1), (6, .aload_n 0, 1), (7, .getfield 26, 3), (10, .iload_n 1, 1), (11, .invokevirtual 125, 3), (14, .ireturn, 1)]
def dp_t28 : List dp_I := [(0, .iload_n 1, 1), (1, .invokestatic 129, 3), (4, .aload_n 0, 1), (5, .getfield 26, 3), (8, .invokevirtual 132, 3), (11, .istore_n 2, 1), (12, .aload_n 0, 1), (13, .aload_n 0, 1), (14, .getfield 26, 3), (17, .iload_n 1, 1), (18, .invokevirtual 136, 3), (21, .aload_n 0, 1), (22, .getfield 26, 3), (25, .invokevirtual 132, 3), (28, .iload_n 2, 1), (29, .isub, 1), (30, .ireturn, 1)]
def dp_t29 : List dp_I := [(0, .aload_n 0, 1), (1, .iload_n 1, 1), (2, .invokevirtual 61, 3), (5, .iload_n 2, 1), (6, .iconst 4, 1), (7, .invokestatic 140, 3), (10, .aload_n 0, 1), (11, .iload_n 1, 1), (12, .iload_n 2, 1), (13, .invokevirtual 143, 3), (16, .ireturn, 1)]
def dp_t30 : List dp_I := [(0, .aload_n 0, 1), (1, .iload_n 1, 1), (2, .invokevirtual 61, 3), (5, .iload_n 2, 1), (6, .aload_n 0, 1), (7, .getfield 10, 3), (10, .getfield 64, 3), (13, .iload_n 1, 1), (14, .iaload, 1), (15, .invokestatic 73, 3), (18, .aload_n 0, 1), (19, .getfield 10, 3), (22, .getfield 69, 3), (25, .iload_n 1, 1), (26, .aaload, 1), (27, .iload_n 2, 1), (28, .iaload, 1), (29, .ireturn, 1)]
def dp_t31 : List dp_I := [(0, .aload_n 0, 1), (1, .iload_n 1, 1), (2, .invokevirtual 94, 3), (5, .iload_n 2, 1), (6, .bipush 6, 2), (8, .invokestatic 140, 3), (11, .aload_n 0, 1), (12, .iload_n 1, 1), (13, .iload_n 2, 1), (14, .invokevirtual 146, 3), (17, .ireturn, 1)]
def dp_t32 : List dp_I := [(0, .aload_n 0, 1), (1, .iload_n 1, 1), (2, .invokevirtual 94, 3), (5, .iload_n 2, 1), (6, .aload_n 0, 1), (7, .getfield 19, 3), (10, .getfield 97, 3), (13, .iload_n 1, 1), (14, .iaload, 1), (15, .invokestatic 73, 3), (18, .aload_n 0, 1), (19, .getfield 19, 3), (22, .getfield 108, 3), (25, .iload_n 1, 1), (26, .aaload, 1), (27, .iload_n 2, 1), (28, .iaload, 1), (29, .ireturn, 1)]
def dp_t33 : List dp_I := [(0, .iload_n 1, 1), (1, .bipush 7, 2), (3, .invokestatic 140, 3), (6, .aload_n 0, 1), (7, .iload_n 1, 1), (8, .invokevirtual 149, 3), (11, .ireturn, 1)]
def dp_t34 : List dp_I := [(0, .iload_n 1, 1), (1, .invokestatic 41, 3), (4, .aload_n 0, 1), (5, .getfield 10, 3), (8, .iload_n 1, 1), (9, .invokevirtual 153, 3), (12, .ireturn, 1)]
def dp_t35 : List dp_I := [(0, .aload_n 0, 1), (1, .iload_n 1, 1), (2, .invokevirtual 94, 3), (5, .aload_n 0, 1), (6, .iload_n 2, 1), (7, .invokevirtual 61, 3), (10, .aload_n 0, 1), (11, .aload_n 0, 1), (12, .getfield 26, 3), (15, .iload_n 1, 1), (16, .iload_n 2, 1), (17, .invokevirtual 156, 3), (20, .ireturn, 1)]
def dp_t36 : List dp_I := [(0, .aload_n 0, 1), (1, .iload_n 1, 1), (2, .invokevirtual 94, 3), (5, .iload_n 2, 1), (6, .aload_n 0, 1), (7, .iload_n 1, 1), (8, .invokevirtual 160, 3), (11, .invokestatic 73, 3), (14, .aload_n 0, 1), (15, .iload_n 1, 1), (16, .iload_n 2, 1), (17, .invokevirtual 163, 3), (20, .ireturn, 1)]
def dp_t37 : List dp_I := [(0, .aload_n 0, 1), (1, .iload_n 1, 1), (2, .invokevirtual 61, 3), (5, .aload_n 0, 1), (6, .iload_n 2, 1), (7, .invokevirtual 61, 3), (10, .aload_n 0, 1), (11, .getfield 10, 3), (14, .getfield 64, 3), (17, .iload_n 1, 1), (18, .iaload, 1), (19, .aload_n 0, 1), (20, .getfield 10, 3), (23, .getfield 64, 3), (26, .iload_n 2, 1), (27, .iaload, 1), (28, .iadd, 1), (29, .istore_n 3, 1), (30, .iload_n 3, 1), (31, .ifCond .gt 5, 3), (34, .iconst 0, 1), (35, .ireturn, 1), (36, .iconst 2, 1), (37, .aload_n 0, 1), (38, .getfield 10, 3), (41, .iload_n 1, 1), (42, .iload_n 2, 1), (43, .invokevirtual 166, 3), (46, .imul, 1), (47, .bipush 100, 2), (49, .imul, 1), (50, .iload_n 3, 1), (51, .idiv, 1), (52, .ireturn, 1)]
def dp_t38 : List dp_I := [(0, .aload_n 0, 1), (1, .iload_n 1, 1), (2, .invokevirtual 94, 3), (5, .iconst (-1), 1), (6, .istore_n 2, 1), (7, .iconst (-1), 1), (8, .istore_n 3, 1), (9, .iconst 0, 1), (10, .istore 4, 2), (12, .iload 4, 2), (14, .bipush 20, 2), (16, .if_icmp .ge 30, 3), (19, .aload_n 0, 1), (20, .iload_n 1, 1), (21, .iload 4, 2), (23, .invokevirtual 169, 3), (26, .istore 5, 2), (28, .iload 5, 2), (30, .iload_n 3, 1), (31, .if_icmp .le 9, 3), (34, .iload 5, 2), (36, .istore_n 3, 1), (37, .iload 4, 2), (39, .istore_n 2, 1), (40, .iinc 4 1, 3), (43, .goto (-31), 3), (46, .iload_n 2, 1), (47, .ireturn, 1)]
def dp_t39 : List dp_I := [(0, .iload_n 1, 1), (1, .invokestatic 129, 3), (4, .aload_n 0, 1), (5, .iload_n 2, 1), (6, .invokevirtual 94, 3), (9, .aload_n 0, 1), (10, .getfield 30, 3), (13, .aload_n 0, 1), (14, .getfield 26, 3), (17, .invokevirtual 172, 3), (20, .aload_n 0, 1), (21, .aload_n 0, 1), (22, .getfield 30, 3), (25, .iload_n 1, 1), (26, .invokevirtual 136, 3), (29, .aload_n 0, 1), (30, .getfield 30, 3), (33, .getfield 91, 3), (36, .iload_n 2, 1), (37, .iaload, 1), (38, .ireturn, 1)]
def dp_t40 : List dp_I := [(0, .aload_n 0, 1), (1, .getfield 30, 3), (4, .aload_n 0, 1), (5, .getfield 26, 3), (8, .invokevirtual 172, 3), (11, .iconst 0, 1), (12, .istore_n 1, 1), (13, .iload_n 1, 1), (14, .bipush 40, 2), (16, .if_icmp .ge 31, 3), (19, .aload_n 0, 1), (20, .aload_n 0, 1), (21, .getfield 30, 3), (24, .invokevirtual 176, 3), (27, .ifCond .eq 5, 3), (30, .iload_n 1, 1), (31, .ireturn, 1), (32, .aload_n 0, 1), (33, .aload_n 0, 1), (34, .getfield 30, 3), (37, .iconst 1, 1), (38, .invokevirtual 136, 3), (41, .iinc 1 1, 3), (44, .goto (-31), 3), (47, .aload_n 0, 1), (48, .aload_n 0, 1), (49, .getfield 30, 3), (52, .invokevirtual 176, 3), (55, .ifCond .eq 8, 3), (58, .bipush 40, 2), (60, .goto 4, 3), (63, .iconst (-1), 1), (64, .ireturn, 1)]
def dp_t41 : List dp_I := [(0, .aload_n 0, 1), (1, .getfield 26, 3), (4, .invokevirtual 132, 3), (7, .istore_n 1, 1), (8, .iload_n 1, 1), (9, .ifCond .gt 5, 3), (12, .dconst 0, 1), (13, .dreturn, 1), (14, .aload_n 0, 1), (15, .getfield 26, 3), (18, .invokevirtual 180, 3), (21, .i2d, 1), (22, .iload_n 1, 1), (23, .i2d, 1), (24, .ddiv, 1), (25, .dreturn, 1)]
def dp_t42 : List dp_I := [(0, .ldc2_w 183, 3), (3, .lstore_n 1, 1), (4, .iconst 0, 1), (5, .istore_n 3, 1), (6, .iload_n 3, 1), (7, .bipush 7, 2), (9, .if_icmp .ge 19, 3), (12, .lload_n 1, 1), (13, .aload_n 0, 1), (14, .iload_n 3, 1), (15, .invokevirtual 149, 3), (18, .invokestatic 185, 3), (21, .lstore_n 1, 1), (22, .iinc 3 1, 3), (25, .goto (-19), 3), (28, .iconst 0, 1), (29, .istore_n 3, 1), (30, .iload_n 3, 1), (31, .bipush 40, 2), (33, .if_icmp .ge 23, 3), (36, .lload_n 1, 1), (37, .aload_n 0, 1), (38, .getfield 10, 3), (41, .getfield 44, 3), (44, .iload_n 3, 1), (45, .iaload, 1), (46, .invokestatic 185, 3), (49, .lstore_n 1, 1), (50, .iinc 3 1, 3), (53, .goto (-23), 3), (56, .iconst 0, 1), (57, .istore_n 3, 1), (58, .iload_n 3, 1), (59, .aload_n 0, 1), (60, .getfield 10, 3), (63, .getfield 50, 3), (66, .if_icmp .ge 16, 3), (69, .aload_n 0, 1), (70, .lload_n 1, 1), (71, .iload_n 3, 1), (72, .invokevirtual 189, 3), (75, .lstore_n 1, 1), (76, .iinc 3 1, 3), (79, .goto (-21), 3), (82, .iconst 0, 1), (83, .istore_n 3, 1), (84, .iload_n 3, 1), (85, .aload_n 0, 1), (86, .getfield 19, 3), (89, .getfield 86, 3), (92, .if_icmp .ge 16, 3), (95, .aload_n 0, 1), (96, .lload_n 1, 1), (97, .iload_n 3, 1), (98, .invokevirtual 192, 3), (101, .lstore_n 1, 1), (102, .iinc 3 1, 3), (105, .goto (-21), 3), (108, .lload_n 1, 1), (109, .lreturn, 1)]
def dp_t43 : List dp_I := [(0, .lload_n 1, 1), (1, .lstore 4, 2), (3, .iconst 0, 1), (4, .istore 6, 2), (6, .iload 6, 2), (8, .iconst 4, 1), (9, .if_icmp .ge 23, 3), (12, .lload 4, 2), (14, .aload_n 0, 1), (15, .iload_n 3, 1), (16, .iload 6, 2), (18, .invokevirtual 143, 3), (21, .invokestatic 185, 3), (24, .lstore 4, 2), (26, .iinc 6 1, 3), (29, .goto (-23), 3), (32, .iconst 0, 1), (33, .istore 6, 2), (35, .iload 6, 2), (37, .aload_n 0, 1), (38, .getfield 10, 3), (41, .getfield 64, 3), (44, .iload_n 3, 1), (45, .iaload, 1), (46, .if_icmp .ge 28, 3), (49, .lload 4, 2), (51, .aload_n 0, 1), (52, .getfield 10, 3), (55, .getfield 69, 3), (58, .iload_n 3, 1), (59, .aaload, 1), (60, .iload 6, 2), (62, .iaload, 1), (63, .invokestatic 185, 3), (66, .lstore 4, 2), (68, .iinc 6 1, 3), (71, .goto (-36), 3), (74, .lload 4, 2), (76, .lreturn, 1)]
def dp_t44 : List dp_I := [(0, .lload_n 1, 1), (1, .lstore 4, 2), (3, .iconst 0, 1), (4, .istore 6, 2), (6, .iload 6, 2), (8, .bipush 6, 2), (10, .if_icmp .ge 23, 3), (13, .lload 4, 2), (15, .aload_n 0, 1), (16, .iload_n 3, 1), (17, .iload 6, 2), (19, .invokevirtual 146, 3), (22, .invokestatic 185, 3), (25, .lstore 4, 2), (27, .iinc 6 1, 3), (30, .goto (-24), 3), (33, .iconst 0, 1), (34, .istore 6, 2), (36, .iload 6, 2), (38, .aload_n 0, 1), (39, .getfield 19, 3), (42, .getfield 97, 3), (45, .iload_n 3, 1), (46, .iaload, 1), (47, .if_icmp .ge 28, 3), (50, .lload 4, 2), (52, .aload_n 0, 1), (53, .getfield 19, 3), (56, .getfield 108, 3), (59, .iload_n 3, 1), (60, .aaload, 1), (61, .iload 6, 2), (63, .iaload, 1), (64, .invokestatic 185, 3), (67, .lstore 4, 2), (69, .iinc 6 1, 3), (72, .goto (-36), 3), (75, .iconst 0, 1), (76, .istore 6, 2), (78, .iload 6, 2), (80, .aload_n 0, 1), (81, .getfield 10, 3), (84, .getfield 50, 3), (87, .if_icmp .ge 27, 3), (90, .lload 4, 2), (92, .aload_n 0, 1), (93, .aload_n 0, 1), (94, .getfield 26, 3), (97, .iload_n 3, 1), (98, .iload 6, 2), (100, .invokevirtual 156, 3), (103, .invokestatic 185, 3), (106, .lstore 4, 2), (108, .iinc 6 1, 3), (111, .goto (-33), 3), (114, .lload 4, 2), (116, .lreturn, 1)]
def dp_t45 : List dp_I := [(0, .lload_n 0, 1), (1, .ldc2_w 195, 3), (4, .lmul, 1), (5, .iload_n 2, 1), (6, .i2l, 1), (7, .ladd, 1), (8, .lreturn, 1)]
def dp_t46 : List dp_I := [(0, .iload_n 0, 1), (1, .ifCond .lt 9, 3), (4, .iload_n 0, 1), (5, .bipush 40, 2), (7, .if_icmp .lt 13, 3), (10, .new 197, 3), (13, .dup, 1), (14, .ldc 199, 2), (16, .invokespecial 201, 3), (19, .athrow, 1), (20, .return_, 1)]
def dp_t47 : List dp_I := [(0, .iload_n 0, 1), (1, .ifCond .lt 9, 3), (4, .iload_n 0, 1), (5, .bipush 20, 2), (7, .if_icmp .lt 13, 3), (10, .new 197, 3), (13, .dup, 1), (14, .ldc 202, 2), (16, .invokespecial 201, 3), (19, .athrow, 1), (20, .return_, 1)]
def dp_t48 : List dp_I := [(0, .iload_n 1, 1), (1, .ifCond .lt 14, 3), (4, .iload_n 1, 1), (5, .aload_n 0, 1), (6, .getfield 10, 3), (9, .getfield 50, 3), (12, .if_icmp .lt 13, 3), (15, .new 197, 3), (18, .dup, 1), (19, .ldc 204, 2), (21, .invokespecial 201, 3), (24, .athrow, 1), (25, .return_, 1)]
def dp_t49 : List dp_I := [(0, .iload_n 1, 1), (1, .ifCond .lt 14, 3), (4, .iload_n 1, 1), (5, .aload_n 0, 1), (6, .getfield 19, 3), (9, .getfield 86, 3), (12, .if_icmp .lt 13, 3), (15, .new 197, 3), (18, .dup, 1), (19, .ldc 206, 2), (21, .invokespecial 201, 3), (24, .athrow, 1), (25, .return_, 1)]
def dp_t50 : List dp_I := [(0, .iload_n 0, 1), (1, .ifCond .lt 8, 3), (4, .iload_n 0, 1), (5, .iload_n 1, 1), (6, .if_icmp .lt 13, 3), (9, .new 197, 3), (12, .dup, 1), (13, .ldc 208, 2), (15, .invokespecial 201, 3), (18, .athrow, 1), (19, .return_, 1)]
def dp_t51 : List dp_I := [(0, .iload_n 0, 1), (1, .ifCond .lt 8, 3), (4, .iload_n 0, 1), (5, .iload_n 1, 1), (6, .if_icmp .lt 13, 3), (9, .new 197, 3), (12, .dup, 1), (13, .ldc 210, 2), (15, .invokespecial 201, 3), (18, .athrow, 1), (19, .return_, 1)]
def dp_t52 : List dp_I := [(0, .iload_n 0, 1), (1, .iconst 1, 1), (2, .if_icmp .lt 9, 3), (5, .iload_n 0, 1), (6, .bipush 30, 2), (8, .if_icmp .le 13, 3), (11, .new 81, 3), (14, .dup, 1), (15, .ldc 212, 2), (17, .invokespecial 85, 3), (20, .athrow, 1), (21, .return_, 1)]
def dp_t53 : List dp_I := [(0, .iload_n 2, 1), (1, .tableswitch 56 0 2 #[27, 37, 46], 27), (28, .aload_n 0, 1), (29, .getfield 10, 3), (32, .getfield 64, 3), (35, .iload_n 1, 1), (36, .iaload, 1), (37, .ireturn, 1), (38, .aload_n 0, 1), (39, .getfield 10, 3), (42, .iload_n 1, 1), (43, .invokevirtual 214, 3), (46, .ireturn, 1), (47, .aload_n 0, 1), (48, .getfield 26, 3), (51, .getfield 217, 3), (54, .iload_n 1, 1), (55, .iaload, 1), (56, .ireturn, 1), (57, .aload_n 0, 1), (58, .getfield 26, 3), (61, .iload_n 1, 1), (62, .invokevirtual 220, 3), (65, .ireturn, 1)]
def dp_t54 : List dp_I := [(0, .iload_n 2, 1), (1, .tableswitch 88 0 4 #[35, 45, 55, 65, 78], 35), (36, .aload_n 0, 1), (37, .getfield 26, 3), (40, .getfield 91, 3), (43, .iload_n 1, 1), (44, .iaload, 1), (45, .ireturn, 1), (46, .aload_n 0, 1), (47, .getfield 19, 3), (50, .getfield 97, 3), (53, .iload_n 1, 1), (54, .iaload, 1), (55, .ireturn, 1), (56, .aload_n 0, 1), (57, .getfield 19, 3), (60, .getfield 115, 3), (63, .iload_n 1, 1), (64, .iaload, 1), (65, .ireturn, 1), (66, .aload_n 0, 1), (67, .getfield 26, 3), (70, .getfield 223, 3), (73, .iload_n 1, 1), (74, .iaload, 1), (75, .invokestatic 226, 3), (78, .ireturn, 1), (79, .aload_n 0, 1), (80, .getfield 26, 3), (83, .getfield 231, 3), (86, .iload_n 1, 1), (87, .iaload, 1), (88, .ireturn, 1), (89, .aload_n 0, 1), (90, .iload_n 1, 1), (91, .invokevirtual 160, 3), (94, .ireturn, 1)]
def dp_t55 : List dp_I := [(0, .iload_n 1, 1), (1, .tableswitch 87 0 5 #[39, 47, 55, 63, 71, 79], 39), (40, .aload_n 0, 1), (41, .getfield 10, 3), (44, .getfield 50, 3), (47, .ireturn, 1), (48, .aload_n 0, 1), (49, .getfield 19, 3), (52, .getfield 86, 3), (55, .ireturn, 1), (56, .aload_n 0, 1), (57, .getfield 10, 3), (60, .invokevirtual 234, 3), (63, .ireturn, 1), (64, .aload_n 0, 1), (65, .getfield 10, 3), (68, .invokevirtual 237, 3), (71, .ireturn, 1), (72, .aload_n 0, 1), (73, .getfield 26, 3), (76, .getfield 240, 3), (79, .ireturn, 1), (80, .aload_n 0, 1), (81, .getfield 26, 3), (84, .invokevirtual 132, 3), (87, .ireturn, 1), (88, .aload_n 0, 1), (89, .getfield 26, 3), (92, .invokevirtual 180, 3), (95, .ireturn, 1)]
def dp_t56 : List dp_I := [(0, .aload_n 0, 1), (1, .getfield 10, 3), (4, .iload_n 3, 1), (5, .aload_n 0, 1), (6, .getfield 19, 3), (9, .getfield 108, 3), (12, .iload_n 2, 1), (13, .aaload, 1), (14, .aload_n 0, 1), (15, .getfield 19, 3), (18, .getfield 97, 3), (21, .iload_n 2, 1), (22, .iaload, 1), (23, .aload_n 1, 1), (24, .getfield 217, 3), (27, .iload_n 3, 1), (28, .iaload, 1), (29, .invokevirtual 243, 3), (32, .ireturn, 1)]
def dp_t57 : List dp_I := [(0, .iload 4, 2), (2, .aload_n 0, 1), (3, .getfield 19, 3), (6, .getfield 115, 3), (9, .iload_n 2, 1), (10, .iaload, 1), (11, .if_icmp .lt 16, 3), (14, .aload_n 1, 1), (15, .iload_n 2, 1), (16, .iload_n 3, 1), (17, .invokevirtual 247, 3), (20, .ifCond .ne 7, 3), (23, .iconst 1, 1), (24, .goto 4, 3), (27, .iconst 0, 1), (28, .ireturn, 1)]
def dp_t58 : List dp_I := [(0, .iconst 0, 1), (1, .istore_n 2, 1), (2, .iconst 0, 1), (3, .istore_n 3, 1), (4, .iload_n 3, 1), (5, .aload_n 0, 1), (6, .getfield 10, 3), (9, .getfield 50, 3), (12, .if_icmp .ge 39, 3), (15, .aload_n 0, 1), (16, .aload_n 0, 1), (17, .getfield 26, 3), (20, .iload_n 1, 1), (21, .iload_n 3, 1), (22, .invokevirtual 156, 3), (25, .istore 4, 2), (27, .aload_n 0, 1), (28, .aload_n 0, 1), (29, .getfield 26, 3), (32, .iload_n 1, 1), (33, .iload_n 3, 1), (34, .iload 4, 2), (36, .invokevirtual 251, 3), (39, .ifCond .eq 6, 3), (42, .iinc 2 1, 3), (45, .iinc 3 1, 3), (48, .goto (-44), 3), (51, .iload_n 2, 1), (52, .ireturn, 1)]
def dp_t59 : List dp_I := [(0, .iconst (-1), 1), (1, .istore_n 3, 1), (2, .iconst (-1), 1), (3, .istore 4, 2), (5, .iconst 0, 1), (6, .istore 5, 2), (8, .iload 5, 2), (10, .aload_n 0, 1), (11, .getfield 10, 3), (14, .getfield 50, 3), (17, .if_icmp .ge 46, 3), (20, .aload_n 0, 1), (21, .aload_n 1, 1), (22, .iload_n 2, 1), (23, .iload 5, 2), (25, .invokevirtual 156, 3), (28, .istore 6, 2), (30, .iload 6, 2), (32, .iload 4, 2), (34, .if_icmp .le 23, 3), (37, .aload_n 0, 1), (38, .aload_n 1, 1), (39, .iload_n 2, 1), (40, .iload 5, 2), (42, .iload 6, 2), (44, .invokevirtual 251, 3), (47, .ifCond .eq 10, 3), (50, .iload 6, 2), (52, .istore 4, 2), (54, .iload 5, 2), (56, .istore_n 3, 1), (57, .iinc 5 1, 3), (60, .goto (-52), 3), (63, .iload_n 3, 1), (64, .ireturn, 1)]
def dp_t60 : List dp_I := [(0, .iconst 0, 1), (1, .istore_n 3, 1), (2, .iload_n 3, 1), (3, .aload_n 0, 1), (4, .getfield 10, 3), (7, .getfield 50, 3), (10, .if_icmp .ge 50, 3), (13, .aload_n 0, 1), (14, .aload_n 0, 1), (15, .getfield 26, 3), (18, .iload_n 1, 1), (19, .iload_n 3, 1), (20, .invokevirtual 156, 3), (23, .istore 4, 2), (25, .aload_n 0, 1), (26, .aload_n 0, 1), (27, .getfield 26, 3), (30, .iload_n 1, 1), (31, .iload_n 3, 1), (32, .iload 4, 2), (34, .invokevirtual 251, 3), (37, .ifCond .eq 17, 3), (40, .aload_n 0, 1), (41, .iload_n 1, 1), (42, .iload_n 3, 1), (43, .iload 4, 2), (45, .invokevirtual 255, 3), (48, .iload_n 2, 1), (49, .if_icmp .ne 5, 3), (52, .iload_n 3, 1), (53, .ireturn, 1), (54, .iinc 3 1, 3), (57, .goto (-55), 3), (60, .iconst (-1), 1), (61, .ireturn, 1)]
def dp_t61 : List dp_I := [(0, .iconst 0, 1), (1, .istore 4, 2), (3, .iconst 0, 1), (4, .istore 5, 2), (6, .iload 5, 2), (8, .aload_n 0, 1), (9, .getfield 10, 3), (12, .getfield 50, 3), (15, .if_icmp .ge 71, 3), (18, .aload_n 0, 1), (19, .aload_n 0, 1), (20, .getfield 26, 3), (23, .iload_n 1, 1), (24, .iload 5, 2), (26, .invokevirtual 156, 3), (29, .istore 6, 2), (31, .iload 6, 2), (33, .iload_n 3, 1), (34, .if_icmp .gt 15, 3), (37, .iload 6, 2), (39, .iload_n 3, 1), (40, .if_icmp .ne 13, 3), (43, .iload 5, 2), (45, .iload_n 2, 1), (46, .if_icmp .ge 7, 3), (49, .iconst 1, 1), (50, .goto 4, 3), (53, .iconst 0, 1), (54, .istore 7, 2), (56, .iload 7, 2), (58, .ifCond .eq 22, 3), (61, .aload_n 0, 1), (62, .aload_n 0, 1), (63, .getfield 26, 3), (66, .iload_n 1, 1), (67, .iload 5, 2), (69, .iload 6, 2), (71, .invokevirtual 251, 3), (74, .ifCond .eq 6, 3), (77, .iinc 4 1, 3), (80, .iinc 5 1, 3), (83, .goto (-77), 3), (86, .iload 4, 2), (88, .ireturn, 1)]
def dp_t62 : List dp_I := [(0, .aload_n 0, 1), (1, .getfield 19, 3), (4, .getfield 97, 3), (7, .iload_n 1, 1), (8, .iaload, 1), (9, .istore_n 3, 1), (10, .iload_n 3, 1), (11, .iconst 5, 1), (12, .if_icmp .ge 16, 3), (15, .aload_n 0, 1), (16, .getfield 19, 3), (19, .iload_n 1, 1), (20, .iload_n 2, 1), (21, .invokevirtual 102, 3), (24, .iconst (-1), 1), (25, .if_icmp .eq 5, 3), (28, .iconst (-1), 1), (29, .ireturn, 1), (30, .aload_n 0, 1), (31, .getfield 19, 3), (34, .getfield 108, 3), (37, .iload_n 1, 1), (38, .aaload, 1), (39, .iconst 0, 1), (40, .aload_n 0, 1), (41, .getfield 33, 3), (44, .iconst 0, 1), (45, .iload_n 3, 1), (46, .invokestatic 259, 3), (49, .aload_n 0, 1), (50, .getfield 33, 3), (53, .iload_n 3, 1), (54, .iload_n 2, 1), (55, .iastore, 1), (56, .iconst (-1), 1), (57, .istore 4, 2), (59, .iconst 0, 1), (60, .istore 5, 2), (62, .iload 5, 2), (64, .aload_n 0, 1), (65, .getfield 10, 3), (68, .getfield 50, 3), (71, .if_icmp .ge 62, 3), (74, .aload_n 0, 1), (75, .getfield 10, 3), (78, .iload 5, 2), (80, .aload_n 0, 1), (81, .getfield 33, 3), (84, .iload_n 3, 1), (85, .iconst 1, 1), (86, .iadd, 1), (87, .aload_n 0, 1), (88, .getfield 26, 3), (91, .getfield 217, 3), (94, .iload 5, 2), (96, .iaload, 1), (97, .invokevirtual 243, 3), (100, .istore 6, 2), (102, .aload_n 0, 1), (103, .aload_n 0, 1), (104, .getfield 26, 3), (107, .iload_n 1, 1), (108, .iload 5, 2), (110, .iload 6, 2), (112, .invokevirtual 251, 3), (115, .ifCond .eq 12, 3), (118, .iload 4, 2), (120, .iload 6, 2), (122, .invokestatic 265, 3), (125, .istore 4, 2), (127, .iinc 5 1, 3), (130, .goto (-68), 3), (133, .iload 4, 2), (135, .ireturn, 1)]
def dp_t63 : List dp_I := [(0, .iconst 2, 1), (1, .aload_n 0, 1), (2, .aload_n 1, 1), (3, .iload_n 2, 1), (4, .iload_n 3, 1), (5, .invokevirtual 156, 3), (8, .bipush 20, 2), (10, .idiv, 1), (11, .iadd, 1), (12, .ireturn, 1)]
def dp_t64 : List dp_I := [(0, .aload_n 0, 1), (1, .aload_n 1, 1), (2, .iload_n 2, 1), (3, .invokevirtual 268, 3), (6, .istore_n 3, 1), (7, .iload_n 3, 1), (8, .iconst (-1), 1), (9, .if_icmp .ne 5, 3), (12, .iconst (-1), 1), (13, .ireturn, 1), (14, .aload_n 0, 1), (15, .aload_n 1, 1), (16, .iload_n 2, 1), (17, .iload_n 3, 1), (18, .invokevirtual 271, 3), (21, .istore 4, 2), (23, .aload_n 1, 1), (24, .getfield 91, 3), (27, .iload_n 2, 1), (28, .iaload, 1), (29, .iload 4, 2), (31, .if_icmp .ge 5, 3), (34, .iconst (-1), 1), (35, .ireturn, 1), (36, .aload_n 1, 1), (37, .iload_n 2, 1), (38, .iload_n 3, 1), (39, .iload 4, 2), (41, .invokevirtual 274, 3), (44, .iload_n 3, 1), (45, .ireturn, 1)]
def dp_t65 : List dp_I := [(0, .iconst 0, 1), (1, .istore_n 3, 1), (2, .iload_n 3, 1), (3, .iload_n 2, 1), (4, .if_icmp .ge 57, 3), (7, .iconst 0, 1), (8, .istore 4, 2), (10, .iload 4, 2), (12, .aload_n 0, 1), (13, .getfield 19, 3), (16, .getfield 86, 3), (19, .if_icmp .ge 25, 3), (22, .aload_n 0, 1), (23, .aload_n 1, 1), (24, .iload 4, 2), (26, .invokevirtual 125, 3), (29, .pop, 1), (30, .aload_n 0, 1), (31, .aload_n 1, 1), (32, .iload 4, 2), (34, .invokevirtual 125, 3), (37, .pop, 1), (38, .iinc 4 1, 3), (41, .goto (-31), 3), (44, .aload_n 1, 1), (45, .aload_n 0, 1), (46, .getfield 10, 3), (49, .getfield 50, 3), (52, .invokevirtual 278, 3), (55, .iinc 3 1, 3), (58, .goto (-56), 3), (61, .return_, 1)]
def dp_t66 : List dp_I := [(0, .iconst 0, 1), (1, .istore_n 2, 1), (2, .iload_n 2, 1), (3, .aload_n 0, 1), (4, .getfield 19, 3), (7, .getfield 86, 3), (10, .if_icmp .ge 39, 3), (13, .aload_n 0, 1), (14, .aload_n 1, 1), (15, .iload_n 2, 1), (16, .invokevirtual 268, 3), (19, .istore_n 3, 1), (20, .iload_n 3, 1), (21, .iconst (-1), 1), (22, .if_icmp .eq 21, 3), (25, .aload_n 0, 1), (26, .aload_n 1, 1), (27, .iload_n 2, 1), (28, .iload_n 3, 1), (29, .invokevirtual 271, 3), (32, .aload_n 1, 1), (33, .getfield 91, 3), (36, .iload_n 2, 1), (37, .iaload, 1), (38, .if_icmp .le 5, 3), (41, .iconst 1, 1), (42, .ireturn, 1), (43, .iinc 2 1, 3), (46, .goto (-44), 3), (49, .iconst 0, 1), (50, .ireturn, 1)]
def dp_t67 : List dp_I := [(0, .iload_n 2, 1), (1, .istore_n 3, 1), (2, .iload_n 3, 1), (3, .iconst 1, 1), (4, .iadd, 1), (5, .iload_n 1, 1), (6, .if_icmp .ge 17, 3), (9, .aload_n 0, 1), (10, .iload_n 3, 1), (11, .aload_n 0, 1), (12, .iload_n 3, 1), (13, .iconst 1, 1), (14, .iadd, 1), (15, .iaload, 1), (16, .iastore, 1), (17, .iinc 3 1, 3), (20, .goto (-18), 3), (23, .iload_n 1, 1), (24, .iconst 1, 1), (25, .isub, 1), (26, .ireturn, 1)]
def dp_t68 : List dp_I := [(0, .aload_n 0, 1), (1, .getfield 19, 3), (4, .ireturn, 1)]
def dp_t69 : List dp_I := [(0, .aload_n 0, 1), (1, .iload_n 1, 1), (2, .putfield 19, 3), (5, .iconst 0, 1), (6, .ireturn, 1)]
def dp_t70 : List dp_I := [(0, .iload_n 0, 1), (1, .iload_n 1, 1), (2, .if_icmp .lt 12, 3), (5, .iload_n 0, 1), (6, .iload_n 2, 1), (7, .if_icmp .gt 7, 3), (10, .iconst 1, 1), (11, .goto 4, 3), (14, .iconst 0, 1), (15, .ireturn, 1)]
def dp_t71 : List dp_I := [(0, .iload_n 1, 1), (1, .iconst 0, 1), (2, .aload_n 0, 1), (3, .getfield 23, 3), (6, .iconst 1, 1), (7, .isub, 1), (8, .invokestatic 26, 3), (11, .ireturn, 1)]
def dp_t72 : List dp_I := [(0, .iload_n 1, 1), (1, .iconst 0, 1), (2, .aload_n 0, 1), (3, .getfield 30, 3), (6, .iconst 1, 1), (7, .isub, 1), (8, .invokestatic 26, 3), (11, .ireturn, 1)]
def dp_t73 : List dp_I := [(0, .iload_n 0, 1), (1, .iconst 0, 1), (2, .bipush 19, 2), (4, .invokestatic 26, 3), (7, .ireturn, 1)]
def dp_t74 : List dp_I := [(0, .iload_n 0, 1), (1, .iconst 0, 1), (2, .bipush 39, 2), (4, .invokestatic 26, 3), (7, .ireturn, 1)]
def dp_t75 : List dp_I := [(0, .aload_n 0, 1), (1, .getfield 13, 3), (4, .bipush 14, 2), (6, .iload_n 1, 1), (7, .imul, 1), (8, .iload_n 2, 1), (9, .iadd, 1), (10, .iaload, 1), (11, .ireturn, 1)]
def dp_t76 : List dp_I := [(0, .aload_n 0, 1), (1, .getfield 16, 3), (4, .bipush 10, 2), (6, .iload_n 1, 1), (7, .imul, 1), (8, .iload_n 2, 1), (9, .iadd, 1), (10, .iaload, 1), (11, .ireturn, 1)]
def dp_t77 : List dp_I := [(0, .aload_n 0, 1), (1, .getfield 16, 3), (4, .bipush 10, 2), (6, .iload_n 1, 1), (7, .imul, 1), (8, .iload_n 2, 1), (9, .iadd, 1), (10, .iload_n 3, 1), (11, .iastore, 1), (12, .return_, 1)]
def dp_t78 : List dp_I := [(0, .aload_n 0, 1), (1, .iconst 0, 1), (2, .putfield 19, 3), (5, .iload_n 1, 1), (6, .invokestatic 33, 3), (9, .ifCond .eq 10, 3), (12, .iload_n 2, 1), (13, .invokestatic 37, 3), (16, .ifCond .ne 9, 3), (19, .aload_n 0, 1), (20, .iconst 1, 1), (21, .invokevirtual 40, 3), (24, .ireturn, 1), (25, .aload_n 0, 1), (26, .getfield 9, 3), (29, .iload_n 1, 1), (30, .iaload, 1), (31, .istore_n 3, 1), (32, .aload_n 0, 1), (33, .getfield 9, 3), (36, .iload_n 1, 1), (37, .iload_n 2, 1), (38, .iastore, 1), (39, .iload_n 3, 1), (40, .ireturn, 1)]
def dp_t79 : List dp_I := [(0, .aload_n 0, 1), (1, .iconst 0, 1), (2, .putfield 19, 3), (5, .aload_n 0, 1), (6, .getfield 23, 3), (9, .bipush 16, 2), (11, .if_icmp .ne 9, 3), (14, .aload_n 0, 1), (15, .iconst 1, 1), (16, .invokevirtual 40, 3), (19, .ireturn, 1), (20, .aload_n 0, 1), (21, .dup, 1), (22, .getfield 23, 3), (25, .iconst 1, 1), (26, .iadd, 1), (27, .putfield 23, 3), (30, .aload_n 0, 1), (31, .getfield 23, 3), (34, .iconst 1, 1), (35, .isub, 1), (36, .ireturn, 1)]
def dp_t80 : List dp_I := [(0, .aload_n 0, 1), (1, .iconst 0, 1), (2, .putfield 19, 3), (5, .aload_n 0, 1), (6, .iload_n 1, 1), (7, .invokevirtual 44, 3), (10, .ifCond .eq 10, 3), (13, .iload_n 2, 1), (14, .invokestatic 33, 3), (17, .ifCond .ne 9, 3), (20, .aload_n 0, 1), (21, .iconst 1, 1), (22, .invokevirtual 40, 3), (25, .ireturn, 1), (26, .aload_n 0, 1), (27, .iload_n 1, 1), (28, .iconst 0, 1), (29, .invokevirtual 47, 3), (32, .istore_n 3, 1), (33, .iload_n 3, 1), (34, .bipush 12, 2), (36, .if_icmp .ne 9, 3), (39, .aload_n 0, 1), (40, .iconst 2, 1), (41, .invokevirtual 40, 3), (44, .ireturn, 1), (45, .aload_n 0, 1), (46, .getfield 13, 3), (49, .bipush 14, 2), (51, .iload_n 1, 1), (52, .imul, 1), (53, .iconst 2, 1), (54, .iadd, 1), (55, .iload_n 3, 1), (56, .iadd, 1), (57, .iload_n 2, 1), (58, .iastore, 1), (59, .aload_n 0, 1), (60, .getfield 13, 3), (63, .bipush 14, 2), (65, .iload_n 1, 1), (66, .imul, 1), (67, .iconst 0, 1), (68, .iadd, 1), (69, .iload_n 3, 1), (70, .iconst 1, 1), (71, .iadd, 1), (72, .iastore, 1), (73, .iload_n 3, 1), (74, .iconst 1, 1), (75, .iadd, 1), (76, .ireturn, 1)]
def dp_t81 : List dp_I := [(0, .aload_n 0, 1), (1, .iconst 0, 1), (2, .putfield 19, 3), (5, .aload_n 0, 1), (6, .iload_n 1, 1), (7, .invokevirtual 44, 3), (10, .ifCond .eq 19, 3), (13, .iload_n 2, 1), (14, .iconst 0, 1), (15, .aload_n 0, 1), (16, .iload_n 1, 1), (17, .iconst 0, 1), (18, .invokevirtual 47, 3), (21, .iconst 1, 1), (22, .isub, 1), (23, .invokestatic 26, 3), (26, .ifCond .ne 9, 3), (29, .aload_n 0, 1), (30, .iconst 1, 1), (31, .invokevirtual 40, 3), (34, .ireturn, 1), (35, .aload_n 0, 1), (36, .iload_n 1, 1), (37, .iconst 2, 1), (38, .iload_n 2, 1), (39, .iadd, 1), (40, .invokevirtual 47, 3), (43, .istore_n 3, 1), (44, .aload_n 0, 1), (45, .iload_n 1, 1), (46, .iconst 0, 1), (47, .invokevirtual 47, 3), (50, .iconst 1, 1), (51, .isub, 1), (52, .istore 4, 2), (54, .bipush 14, 2), (56, .iload_n 1, 1), (57, .imul, 1), (58, .iconst 2, 1), (59, .iadd, 1), (60, .iload_n 2, 1), (61, .iadd, 1), (62, .istore 5, 2), (64, .aload_n 0, 1), (65, .getfield 13, 3), (68, .iload 5, 2), (70, .iconst 1, 1), (71, .iadd, 1), (72, .aload_n 0, 1), (73, .getfield 13, 3), (76, .iload 5, 2), (78, .iload 4, 2), (80, .iload_n 2, 1), (81, .isub, 1), (82, .invokestatic 51, 3), (85, .aload_n 0, 1), (86, .getfield 13, 3), (89, .bipush 14, 2), (91, .iload_n 1, 1), (92, .imul, 1), (93, .iconst 0, 1), (94, .iadd, 1), (95, .iload 4, 2), (97, .iastore, 1), (98, .iload_n 3, 1), (99, .ireturn, 1)]
def dp_t82 : List dp_I := [(0, .aload_n 0, 1), (1, .iconst 0, 1), (2, .putfield 19, 3), (5, .iload_n 1, 1), (6, .iconst 0, 1), (7, .sipush 999, 3), (10, .invokestatic 26, 3), (13, .ifCond .ne 9, 3), (16, .aload_n 0, 1), (17, .iconst 1, 1), (18, .invokevirtual 40, 3), (21, .ireturn, 1), (22, .aload_n 0, 1), (23, .getfield 30, 3), (26, .bipush 6, 2), (28, .if_icmp .ne 9, 3), (31, .aload_n 0, 1), (32, .iconst 2, 1), (33, .invokevirtual 40, 3), (36, .ireturn, 1), (37, .aload_n 0, 1), (38, .aload_n 0, 1), (39, .getfield 30, 3), (42, .iconst 0, 1), (43, .iload_n 1, 1), (44, .invokevirtual 57, 3), (47, .aload_n 0, 1), (48, .aload_n 0, 1), (49, .getfield 30, 3), (52, .iconst 2, 1), (53, .bipush 20, 2), (55, .invokevirtual 57, 3), (58, .aload_n 0, 1), (59, .dup, 1), (60, .getfield 30, 3), (63, .iconst 1, 1), (64, .iadd, 1), (65, .putfield 30, 3), (68, .aload_n 0, 1), (69, .getfield 30, 3), (72, .iconst 1, 1), (73, .isub, 1), (74, .ireturn, 1)]
def dp_t83 : List dp_I := [(0, .iconst 0, 1), (1, .istore_n 3, 1), (2, .iload_n 3, 1), (3, .aload_n 0, 1), (4, .iload_n 1, 1), (5, .iconst 1, 1), (6, .invokevirtual 61, 3), (9, .if_icmp .ge 23, 3), (12, .aload_n 0, 1), (13, .iload_n 1, 1), (14, .iconst 5, 1), (15, .iload_n 3, 1), (16, .iadd, 1), (17, .invokevirtual 61, 3), (20, .iload_n 2, 1), (21, .if_icmp .ne 5, 3), (24, .iload_n 3, 1), (25, .ireturn, 1), (26, .iinc 3 1, 3), (29, .goto (-27), 3), (32, .iconst (-1), 1), (33, .ireturn, 1)]
def dp_t84 : List dp_I := [(0, .aload_n 0, 1), (1, .iconst 0, 1), (2, .putfield 19, 3), (5, .aload_n 0, 1), (6, .iload_n 1, 1), (7, .invokevirtual 64, 3), (10, .ifCond .eq 10, 3), (13, .iload_n 2, 1), (14, .invokestatic 37, 3), (17, .ifCond .ne 9, 3), (20, .aload_n 0, 1), (21, .iconst 1, 1), (22, .invokevirtual 40, 3), (25, .ireturn, 1), (26, .aload_n 0, 1), (27, .iload_n 1, 1), (28, .iconst 1, 1), (29, .invokevirtual 61, 3), (32, .istore_n 3, 1), (33, .iload_n 3, 1), (34, .iconst 5, 1), (35, .if_icmp .eq 13, 3), (38, .aload_n 0, 1), (39, .iload_n 1, 1), (40, .iload_n 2, 1), (41, .invokevirtual 67, 3), (44, .iconst (-1), 1), (45, .if_icmp .eq 9, 3), (48, .aload_n 0, 1), (49, .iconst 2, 1), (50, .invokevirtual 40, 3), (53, .ireturn, 1), (54, .aload_n 0, 1), (55, .iload_n 1, 1), (56, .iconst 5, 1), (57, .iload_n 3, 1), (58, .iadd, 1), (59, .iload_n 2, 1), (60, .invokevirtual 57, 3), (63, .aload_n 0, 1), (64, .iload_n 1, 1), (65, .iconst 1, 1), (66, .iload_n 3, 1), (67, .iconst 1, 1), (68, .iadd, 1), (69, .invokevirtual 57, 3), (72, .iload_n 3, 1), (73, .iconst 1, 1), (74, .iadd, 1), (75, .ireturn, 1)]
def dp_t85 : List dp_I := [(0, .aload_n 0, 1), (1, .iconst 0, 1), (2, .putfield 19, 3), (5, .aload_n 0, 1), (6, .iload_n 1, 1), (7, .invokevirtual 64, 3), (10, .ifCond .eq 10, 3), (13, .iload_n 2, 1), (14, .invokestatic 37, 3), (17, .ifCond .ne 9, 3), (20, .aload_n 0, 1), (21, .iconst 1, 1), (22, .invokevirtual 40, 3), (25, .ireturn, 1), (26, .aload_n 0, 1), (27, .iload_n 1, 1), (28, .iload_n 2, 1), (29, .invokevirtual 67, 3), (32, .istore_n 3, 1), (33, .iload_n 3, 1), (34, .iconst (-1), 1), (35, .if_icmp .ne 9, 3), (38, .aload_n 0, 1), (39, .iconst 2, 1), (40, .invokevirtual 40, 3), (43, .ireturn, 1), (44, .aload_n 0, 1), (45, .iload_n 1, 1), (46, .iconst 1, 1), (47, .invokevirtual 61, 3), (50, .iconst 1, 1), (51, .isub, 1), (52, .istore 4, 2), (54, .bipush 10, 2), (56, .iload_n 1, 1), (57, .imul, 1), (58, .iconst 5, 1), (59, .iadd, 1), (60, .iload_n 3, 1), (61, .iadd, 1), (62, .istore 5, 2), (64, .aload_n 0, 1), (65, .getfield 16, 3), (68, .iload 5, 2), (70, .iconst 1, 1), (71, .iadd, 1), (72, .aload_n 0, 1), (73, .getfield 16, 3), (76, .iload 5, 2), (78, .iload 4, 2), (80, .iload_n 3, 1), (81, .isub, 1), (82, .invokestatic 51, 3), (85, .aload_n 0, 1), (86, .iload_n 1, 1), (87, .iconst 1, 1), (88, .iload 4, 2), (90, .invokevirtual 57, 3), (93, .iload_n 3, 1), (94, .ireturn, 1)]
def dp_t86 : List dp_I := [(0, .aload_n 0, 1), (1, .iconst 0, 1), (2, .putfield 19, 3), (5, .aload_n 0, 1), (6, .iload_n 1, 1), (7, .invokevirtual 64, 3), (10, .ifCond .ne 9, 3), (13, .aload_n 0, 1), (14, .iconst 1, 1), (15, .invokevirtual 40, 3), (18, .ireturn, 1), (19, .iload_n 2, 1), (20, .iconst 0, 1), (21, .sipush 999, 3), (24, .invokestatic 26, 3), (27, .ifCond .ne 9, 3), (30, .aload_n 0, 1), (31, .iconst 2, 1), (32, .invokevirtual 40, 3), (35, .ireturn, 1), (36, .aload_n 0, 1), (37, .iload_n 1, 1), (38, .iconst 2, 1), (39, .invokevirtual 61, 3), (42, .istore_n 3, 1), (43, .aload_n 0, 1), (44, .iload_n 1, 1), (45, .iconst 2, 1), (46, .iload_n 2, 1), (47, .invokevirtual 57, 3), (50, .iload_n 3, 1), (51, .ireturn, 1)]
def dp_t87 : List dp_I := [(0, .aload_n 0, 1), (1, .iconst 0, 1), (2, .putfield 19, 3), (5, .aload_n 0, 1), (6, .iload_n 1, 1), (7, .invokevirtual 64, 3), (10, .ifCond .ne 9, 3), (13, .aload_n 0, 1), (14, .iconst 1, 1), (15, .invokevirtual 40, 3), (18, .ireturn, 1), (19, .iload_n 2, 1), (20, .iconst 1, 1), (21, .sipush 999, 3), (24, .invokestatic 26, 3), (27, .ifCond .ne 9, 3), (30, .aload_n 0, 1), (31, .iconst 2, 1), (32, .invokevirtual 40, 3), (35, .ireturn, 1), (36, .aload_n 0, 1), (37, .iload_n 1, 1), (38, .iconst 0, 1), (39, .sipush 9999, 3), (42, .aload_n 0, 1), (43, .iload_n 1, 1), (44, .iconst 0, 1), (45, .invokevirtual 61, 3), (48, .iload_n 2, 1), (49, .iadd, 1), (50, .invokestatic 70, 3), (53, .invokevirtual 57, 3), (56, .aload_n 0, 1), (57, .iload_n 1, 1), (58, .iconst 0, 1), (59, .invokevirtual 61, 3), (62, .ireturn, 1)]
def dp_t88 : List dp_I := [(0, .iconst 0, 1), (1, .istore_n 3, 1), (2, .iconst 0, 1), (3, .istore 4, 2), (5, .iload 4, 2), (7, .aload_n 0, 1), (8, .iload_n 1, 1), (9, .iconst 0, 1), (10, .invokevirtual 47, 3), (13, .if_icmp .ge 35, 3), (16, .iload_n 3, 1), (17, .aload_n 0, 1), (18, .getfield 9, 3), (21, .aload_n 0, 1), (22, .iload_n 1, 1), (23, .iconst 2, 1), (24, .iload 4, 2), (26, .iadd, 1), (27, .invokevirtual 47, 3), (30, .iaload, 1), (31, .iload_n 2, 1), (32, .if_icmp .ne 7, 3), (35, .iconst 1, 1), (36, .goto 4, 3), (39, .iconst 0, 1), (40, .iadd, 1), (41, .istore_n 3, 1), (42, .iinc 4 1, 3), (45, .goto (-40), 3), (48, .iload_n 3, 1), (49, .ireturn, 1)]
def dp_t89 : List dp_I := [(0, .iconst 0, 1), (1, .istore_n 2, 1), (2, .iconst 0, 1), (3, .istore_n 3, 1), (4, .iload_n 3, 1), (5, .aload_n 0, 1), (6, .getfield 23, 3), (9, .if_icmp .ge 26, 3), (12, .iload_n 2, 1), (13, .aload_n 0, 1), (14, .iload_n 3, 1), (15, .iload_n 1, 1), (16, .invokevirtual 75, 3), (19, .ifCond .le 7, 3), (22, .iconst 1, 1), (23, .goto 4, 3), (26, .iconst 0, 1), (27, .iadd, 1), (28, .istore_n 2, 1), (29, .iinc 3 1, 3), (32, .goto (-28), 3), (35, .bipush 10, 2), (37, .aload_n 0, 1), (38, .getfield 23, 3), (41, .iconst 1, 1), (42, .iadd, 1), (43, .imul, 1), (44, .iload_n 2, 1), (45, .iconst 1, 1), (46, .iadd, 1), (47, .idiv, 1), (48, .ireturn, 1)]
def dp_t90 : List dp_I := [(0, .iconst 0, 1), (1, .istore_n 3, 1), (2, .iconst 0, 1), (3, .istore 4, 2), (5, .iconst 0, 1), (6, .istore 5, 2), (8, .iload 5, 2), (10, .aload_n 0, 1), (11, .iload_n 1, 1), (12, .iconst 1, 1), (13, .invokevirtual 61, 3), (16, .if_icmp .ge 60, 3), (19, .aload_n 0, 1), (20, .iload_n 1, 1), (21, .iconst 5, 1), (22, .iload 5, 2), (24, .iadd, 1), (25, .invokevirtual 61, 3), (28, .istore 6, 2), (30, .aload_n 0, 1), (31, .iload_n 2, 1), (32, .iload 6, 2), (34, .invokevirtual 75, 3), (37, .istore 7, 2), (39, .iload 4, 2), (41, .iload 7, 2), (43, .ifCond .le 7, 3), (46, .iconst 1, 1), (47, .goto 4, 3), (50, .iconst 0, 1), (51, .iadd, 1), (52, .istore 4, 2), (54, .iload_n 3, 1), (55, .iconst 3, 1), (56, .iload 7, 2), (58, .invokestatic 70, 3), (61, .aload_n 0, 1), (62, .iload 6, 2), (64, .invokevirtual 78, 3), (67, .imul, 1), (68, .iadd, 1), (69, .istore_n 3, 1), (70, .iinc 5 1, 3), (73, .goto (-65), 3), (76, .iload 4, 2), (78, .iconst 2, 1), (79, .if_icmp .lt 20, 3), (82, .iload 4, 2), (84, .aload_n 0, 1), (85, .iload_n 1, 1), (86, .iconst 1, 1), (87, .invokevirtual 61, 3), (90, .if_icmp .ne 9, 3), (93, .iload_n 3, 1), (94, .iload_n 3, 1), (95, .iconst 2, 1), (96, .idiv, 1), (97, .iadd, 1), (98, .istore_n 3, 1), (99, .iconst 0, 1), (100, .iload_n 3, 1), (101, .iconst 3, 1), (102, .aload_n 0, 1), (103, .iload_n 2, 1), (104, .iconst 1, 1), (105, .invokevirtual 47, 3), (108, .imul, 1), (109, .isub, 1), (110, .invokestatic 81, 3), (113, .ireturn, 1)]
def dp_t91 : List dp_I := [(0, .aload_n 0, 1), (1, .iload_n 1, 1), (2, .iconst 4, 1), (3, .invokevirtual 61, 3), (6, .iload_n 2, 1), (7, .ishr, 1), (8, .iconst 1, 1), (9, .iand, 1), (10, .ifCond .ne 22, 3), (13, .aload_n 0, 1), (14, .iload_n 1, 1), (15, .iload_n 2, 1), (16, .invokevirtual 84, 3), (19, .aload_n 0, 1), (20, .iload_n 1, 1), (21, .iconst 2, 1), (22, .invokevirtual 61, 3), (25, .if_icmp .lt 7, 3), (28, .iconst 1, 1), (29, .goto 4, 3), (32, .iconst 0, 1), (33, .ireturn, 1)]
def dp_t92 : List dp_I := [(0, .iconst 0, 1), (1, .istore_n 3, 1), (2, .iload_n 3, 1), (3, .aload_n 0, 1), (4, .getfield 23, 3), (7, .if_icmp .ge 108, 3), (10, .aload_n 0, 1), (11, .iload_n 1, 1), (12, .iload_n 3, 1), (13, .invokevirtual 87, 3), (16, .ifCond .ne 6, 3), (19, .goto 90, 3), (22, .iconst 0, 1), (23, .istore 4, 2), (25, .iconst 0, 1), (26, .istore 5, 2), (28, .iload 5, 2), (30, .aload_n 0, 1), (31, .getfield 23, 3), (34, .if_icmp .ge 67, 3), (37, .iload 4, 2), (39, .aload_n 0, 1), (40, .iload_n 1, 1), (41, .iload 5, 2), (43, .invokevirtual 87, 3), (46, .ifCond .eq 45, 3), (49, .aload_n 0, 1), (50, .iload_n 1, 1), (51, .iload 5, 2), (53, .invokevirtual 84, 3), (56, .aload_n 0, 1), (57, .iload_n 1, 1), (58, .iload_n 3, 1), (59, .invokevirtual 84, 3), (62, .if_icmp .gt 25, 3), (65, .aload_n 0, 1), (66, .iload_n 1, 1), (67, .iload 5, 2), (69, .invokevirtual 84, 3), (72, .aload_n 0, 1), (73, .iload_n 1, 1), (74, .iload_n 3, 1), (75, .invokevirtual 84, 3), (78, .if_icmp .ne 13, 3), (81, .iload 5, 2), (83, .iload_n 3, 1), (84, .if_icmp .ge 7, 3), (87, .iconst 1, 1), (88, .goto 4, 3), (91, .iconst 0, 1), (92, .iadd, 1), (93, .istore 4, 2), (95, .iinc 5 1, 3), (98, .goto (-70), 3), (101, .iload 4, 2), (103, .iload_n 2, 1), (104, .if_icmp .ne 5, 3), (107, .iload_n 3, 1), (108, .ireturn, 1), (109, .iinc 3 1, 3), (112, .goto (-110), 3), (115, .iconst (-1), 1), (116, .ireturn, 1)]
def dp_t93 : List dp_I := [(0, .iconst 0, 1), (1, .istore_n 2, 1), (2, .iconst 0, 1), (3, .istore_n 3, 1), (4, .iload_n 3, 1), (5, .aload_n 0, 1), (6, .getfield 23, 3), (9, .if_icmp .ge 26, 3), (12, .iload_n 2, 1), (13, .aload_n 0, 1), (14, .iload_n 1, 1), (15, .iload_n 3, 1), (16, .invokevirtual 87, 3), (19, .ifCond .eq 7, 3), (22, .iconst 1, 1), (23, .goto 4, 3), (26, .iconst 0, 1), (27, .iadd, 1), (28, .istore_n 2, 1), (29, .iinc 3 1, 3), (32, .goto (-28), 3), (35, .iload_n 2, 1), (36, .ireturn, 1)]
def dp_t94 : List dp_I := [(0, .iconst 2, 1), (1, .aload_n 0, 1), (2, .iload_n 1, 1), (3, .iload_n 2, 1), (4, .invokevirtual 84, 3), (7, .bipush 20, 2), (9, .idiv, 1), (10, .iadd, 1), (11, .ireturn, 1)]
def dp_t95 : List dp_I := [(0, .aload_n 0, 1), (1, .iload_n 1, 1), (2, .iconst 0, 1), (3, .invokevirtual 91, 3), (6, .istore_n 2, 1), (7, .iload_n 2, 1), (8, .iconst (-1), 1), (9, .if_icmp .eq 18, 3), (12, .aload_n 0, 1), (13, .iload_n 1, 1), (14, .iload_n 2, 1), (15, .invokevirtual 94, 3), (18, .aload_n 0, 1), (19, .iload_n 1, 1), (20, .iconst 0, 1), (21, .invokevirtual 61, 3), (24, .if_icmp .le 5, 3), (27, .iconst (-1), 1), (28, .ireturn, 1), (29, .aload_n 0, 1), (30, .iload_n 1, 1), (31, .iload_n 2, 1), (32, .invokevirtual 94, 3), (35, .istore_n 3, 1), (36, .aload_n 0, 1), (37, .iload_n 1, 1), (38, .iconst 0, 1), (39, .aload_n 0, 1), (40, .iload_n 1, 1), (41, .iconst 0, 1), (42, .invokevirtual 61, 3), (45, .iload_n 3, 1), (46, .isub, 1), (47, .invokevirtual 57, 3), (50, .aload_n 0, 1), (51, .iload_n 1, 1), (52, .iconst 3, 1), (53, .aload_n 0, 1), (54, .iload_n 1, 1), (55, .iconst 3, 1), (56, .invokevirtual 61, 3), (59, .iload_n 3, 1), (60, .iadd, 1), (61, .invokevirtual 57, 3), (64, .aload_n 0, 1), (65, .iload_n 1, 1), (66, .iconst 4, 1), (67, .aload_n 0, 1), (68, .iload_n 1, 1), (69, .iconst 4, 1), (70, .invokevirtual 61, 3), (73, .iconst 1, 1), (74, .iload_n 2, 1), (75, .ishl, 1), (76, .ior, 1), (77, .invokevirtual 57, 3), (80, .iload_n 2, 1), (81, .ireturn, 1)]
def dp_t96 : List dp_I := [(0, .aload_n 0, 1), (1, .iconst 0, 1), (2, .putfield 19, 3), (5, .aload_n 0, 1), (6, .iload_n 1, 1), (7, .invokevirtual 64, 3), (10, .ifCond .eq 11, 3), (13, .aload_n 0, 1), (14, .iload_n 1, 1), (15, .invokevirtual 97, 3), (18, .goto 8, 3), (21, .aload_n 0, 1), (22, .iconst 1, 1), (23, .invokevirtual 40, 3), (26, .ireturn, 1)]
def dp_t97 : List dp_I := [(0, .iconst 0, 1), (1, .istore_n 1, 1), (2, .iconst 0, 1), (3, .istore_n 2, 1), (4, .iload_n 2, 1), (5, .iconst 2, 1), (6, .aload_n 0, 1), (7, .getfield 30, 3), (10, .imul, 1), (11, .if_icmp .ge 28, 3), (14, .iload_n 1, 1), (15, .aload_n 0, 1), (16, .iload_n 2, 1), (17, .iconst 2, 1), (18, .idiv, 1), (19, .invokevirtual 97, 3), (22, .iconst (-1), 1), (23, .if_icmp .ne 7, 3), (26, .iconst 0, 1), (27, .goto 4, 3), (30, .iconst 1, 1), (31, .iadd, 1), (32, .istore_n 1, 1), (33, .iinc 2 1, 3), (36, .goto (-32), 3), (39, .iconst 0, 1), (40, .istore_n 2, 1), (41, .iload_n 2, 1), (42, .aload_n 0, 1), (43, .getfield 23, 3), (46, .if_icmp .ge 24, 3), (49, .aload_n 0, 1), (50, .getfield 13, 3), (53, .bipush 14, 2), (55, .iload_n 2, 1), (56, .imul, 1), (57, .iconst 1, 1), (58, .iadd, 1), (59, .dup2, 1), (60, .iaload, 1), (61, .iconst 1, 1), (62, .iadd, 1), (63, .iastore, 1), (64, .iinc 2 1, 3), (67, .goto (-26), 3), (70, .aload_n 0, 1), (71, .dup, 1), (72, .getfield 100, 3), (75, .iconst 1, 1), (76, .iadd, 1), (77, .putfield 100, 3), (80, .iload_n 1, 1), (81, .ireturn, 1)]
def dp_t98 : List dp_I := [(0, .iconst 0, 1), (1, .istore_n 2, 1), (2, .iconst 0, 1), (3, .istore_n 3, 1), (4, .iload_n 3, 1), (5, .iload_n 1, 1), (6, .if_icmp .ge 16, 3), (9, .iload_n 2, 1), (10, .aload_n 0, 1), (11, .invokevirtual 103, 3), (14, .iadd, 1), (15, .istore_n 2, 1), (16, .iinc 3 1, 3), (19, .goto (-15), 3), (22, .iload_n 2, 1), (23, .ireturn, 1)]
def dp_t99 : List dp_I := [(0, .aload_n 0, 1), (1, .iconst 0, 1), (2, .putfield 19, 3), (5, .iload_n 1, 1), (6, .iconst 1, 1), (7, .bipush 30, 2), (9, .invokestatic 26, 3), (12, .ifCond .eq 11, 3), (15, .aload_n 0, 1), (16, .iload_n 1, 1), (17, .invokevirtual 107, 3), (20, .goto 8, 3), (23, .aload_n 0, 1), (24, .iconst 1, 1), (25, .invokevirtual 40, 3), (28, .ireturn, 1)]
def dp_t100 : List dp_I := [(0, .iconst 0, 1), (1, .istore_n 2, 1), (2, .iconst 0, 1), (3, .istore_n 3, 1), (4, .iload_n 3, 1), (5, .bipush 20, 2), (7, .if_icmp .ge 26, 3), (10, .iload_n 2, 1), (11, .aload_n 0, 1), (12, .iload_n 1, 1), (13, .iload_n 3, 1), (14, .invokevirtual 75, 3), (17, .ifCond .le 7, 3), (20, .iconst 1, 1), (21, .goto 4, 3), (24, .iconst 0, 1), (25, .iadd, 1), (26, .istore_n 2, 1), (27, .iinc 3 1, 3), (30, .goto (-26), 3), (33, .iload_n 2, 1), (34, .ireturn, 1)]
def dp_t101 : List dp_I := [(0, .iconst 0, 1), (1, .istore_n 2, 1), (2, .iconst 0, 1), (3, .istore_n 3, 1), (4, .iload_n 3, 1), (5, .aload_n 0, 1), (6, .getfield 30, 3), (9, .if_icmp .ge 22, 3), (12, .iload_n 2, 1), (13, .aload_n 0, 1), (14, .iload_n 3, 1), (15, .iconst 4, 1), (16, .invokevirtual 61, 3), (19, .iload_n 1, 1), (20, .ishr, 1), (21, .iconst 1, 1), (22, .iand, 1), (23, .iadd, 1), (24, .istore_n 2, 1), (25, .iinc 3 1, 3), (28, .goto (-24), 3), (31, .iload_n 2, 1), (32, .ireturn, 1)]
def dp_t102 : List dp_I := [(0, .iload_n 2, 1), (1, .ifCond .ne 12, 3), (4, .aload_n 0, 1), (5, .iload_n 1, 1), (6, .iconst 0, 1), (7, .invokevirtual 47, 3), (10, .goto 35, 3), (13, .iload_n 2, 1), (14, .iconst 1, 1), (15, .if_icmp .ne 11, 3), (18, .aload_n 0, 1), (19, .iload_n 1, 1), (20, .invokevirtual 110, 3), (23, .goto 22, 3), (26, .iload_n 2, 1), (27, .iconst 2, 1), (28, .if_icmp .ne 12, 3), (31, .aload_n 0, 1), (32, .iload_n 1, 1), (33, .iconst 1, 1), (34, .invokevirtual 47, 3), (37, .goto 8, 3), (40, .aload_n 0, 1), (41, .iload_n 1, 1), (42, .invokevirtual 113, 3), (45, .ireturn, 1)]
def dp_t103 : List dp_I := [(0, .aload_n 0, 1), (1, .iconst 0, 1), (2, .putfield 19, 3), (5, .aload_n 0, 1), (6, .iload_n 1, 1), (7, .invokevirtual 44, 3), (10, .ifCond .eq 21, 3), (13, .iload_n 2, 1), (14, .iconst 0, 1), (15, .iconst 3, 1), (16, .invokestatic 26, 3), (19, .ifCond .eq 12, 3), (22, .aload_n 0, 1), (23, .iload_n 1, 1), (24, .iload_n 2, 1), (25, .invokevirtual 116, 3), (28, .goto 8, 3), (31, .aload_n 0, 1), (32, .iconst 1, 1), (33, .invokevirtual 40, 3), (36, .ireturn, 1)]
def dp_t104 : List dp_I := [(0, .aload_n 0, 1), (1, .iconst 0, 1), (2, .putfield 19, 3), (5, .aload_n 0, 1), (6, .iload_n 1, 1), (7, .invokevirtual 44, 3), (10, .ifCond .eq 30, 3), (13, .iload_n 2, 1), (14, .iconst 0, 1), (15, .aload_n 0, 1), (16, .iload_n 1, 1), (17, .iconst 0, 1), (18, .invokevirtual 47, 3), (21, .iconst 1, 1), (22, .isub, 1), (23, .invokestatic 26, 3), (26, .ifCond .eq 14, 3), (29, .aload_n 0, 1), (30, .iload_n 1, 1), (31, .iconst 2, 1), (32, .iload_n 2, 1), (33, .iadd, 1), (34, .invokevirtual 47, 3), (37, .goto 8, 3), (40, .aload_n 0, 1), (41, .iconst 1, 1), (42, .invokevirtual 40, 3), (45, .ireturn, 1)]
def dp_t105 : List dp_I := [(0, .iconst 0, 1), (1, .istore_n 2, 1), (2, .iconst 0, 1), (3, .istore_n 3, 1), (4, .iload_n 3, 1), (5, .aload_n 0, 1), (6, .getfield 23, 3), (9, .if_icmp .ge 22, 3), (12, .iload_n 2, 1), (13, .aload_n 0, 1), (14, .iload_n 1, 1), (15, .iconst 4, 1), (16, .invokevirtual 61, 3), (19, .iload_n 3, 1), (20, .ishr, 1), (21, .iconst 1, 1), (22, .iand, 1), (23, .iadd, 1), (24, .istore_n 2, 1), (25, .iinc 3 1, 3), (28, .goto (-24), 3), (31, .iload_n 2, 1), (32, .ireturn, 1)]
def dp_t106 : List dp_I := [(0, .iload_n 2, 1), (1, .tableswitch 69 0 4 #[35, 42, 49, 56, 62], 35), (36, .aload_n 0, 1), (37, .iload_n 1, 1), (38, .iconst 0, 1), (39, .invokevirtual 61, 3), (42, .ireturn, 1), (43, .aload_n 0, 1), (44, .iload_n 1, 1), (45, .iconst 1, 1), (46, .invokevirtual 61, 3), (49, .ireturn, 1), (50, .aload_n 0, 1), (51, .iload_n 1, 1), (52, .iconst 2, 1), (53, .invokevirtual 61, 3), (56, .ireturn, 1), (57, .aload_n 0, 1), (58, .iload_n 1, 1), (59, .invokevirtual 119, 3), (62, .ireturn, 1), (63, .aload_n 0, 1), (64, .iload_n 1, 1), (65, .iconst 3, 1), (66, .invokevirtual 61, 3), (69, .ireturn, 1), (70, .aload_n 0, 1), (71, .iload_n 1, 1), (72, .invokevirtual 122, 3), (75, .ireturn, 1)]
def dp_t107 : List dp_I := [(0, .aload_n 0, 1), (1, .iconst 0, 1), (2, .putfield 19, 3), (5, .aload_n 0, 1), (6, .iload_n 1, 1), (7, .invokevirtual 64, 3), (10, .ifCond .eq 21, 3), (13, .iload_n 2, 1), (14, .iconst 0, 1), (15, .iconst 5, 1), (16, .invokestatic 26, 3), (19, .ifCond .eq 12, 3), (22, .aload_n 0, 1), (23, .iload_n 1, 1), (24, .iload_n 2, 1), (25, .invokevirtual 125, 3), (28, .goto 8, 3), (31, .aload_n 0, 1), (32, .iconst 1, 1), (33, .invokevirtual 40, 3), (36, .ireturn, 1)]
def dp_t108 : List dp_I := [(0, .aload_n 0, 1), (1, .iconst 0, 1), (2, .putfield 19, 3), (5, .aload_n 0, 1), (6, .iload_n 1, 1), (7, .invokevirtual 64, 3), (10, .ifCond .eq 30, 3), (13, .iload_n 2, 1), (14, .iconst 0, 1), (15, .aload_n 0, 1), (16, .iload_n 1, 1), (17, .iconst 1, 1), (18, .invokevirtual 61, 3), (21, .iconst 1, 1), (22, .isub, 1), (23, .invokestatic 26, 3), (26, .ifCond .eq 14, 3), (29, .aload_n 0, 1), (30, .iload_n 1, 1), (31, .iconst 5, 1), (32, .iload_n 2, 1), (33, .iadd, 1), (34, .invokevirtual 61, 3), (37, .goto 8, 3), (40, .aload_n 0, 1), (41, .iconst 1, 1), (42, .invokevirtual 40, 3), (45, .ireturn, 1)]
def dp_t109 : List dp_I := [(0, .iconst 0, 1), (1, .istore_n 2, 1), (2, .iload_n 1, 1), (3, .tableswitch 167 0 5 #[37, 42, 47, 74, 136, 141], 37), (40, .aload_n 0, 1), (41, .getfield 23, 3), (44, .ireturn, 1), (45, .aload_n 0, 1), (46, .getfield 30, 3), (49, .ireturn, 1), (50, .iconst 0, 1), (51, .istore_n 3, 1), (52, .iload_n 3, 1), (53, .aload_n 0, 1), (54, .getfield 23, 3), (57, .if_icmp .ge 18, 3), (60, .iload_n 2, 1), (61, .aload_n 0, 1), (62, .iload_n 3, 1), (63, .iconst 0, 1), (64, .invokevirtual 47, 3), (67, .iadd, 1), (68, .istore_n 2, 1), (69, .iinc 3 1, 3), (72, .goto (-20), 3), (75, .iload_n 2, 1), (76, .ireturn, 1), (77, .iconst 0, 1), (78, .istore_n 3, 1), (79, .iload_n 3, 1), (80, .bipush 20, 2), (82, .if_icmp .ge 55, 3), (85, .iconst 0, 1), (86, .istore 4, 2), (88, .iconst 0, 1), (89, .istore 5, 2), (91, .iload 5, 2), (93, .aload_n 0, 1), (94, .getfield 23, 3), (97, .if_icmp .ge 21, 3), (100, .iload 4, 2), (102, .aload_n 0, 1), (103, .iload 5, 2), (105, .iload_n 3, 1), (106, .invokevirtual 75, 3), (109, .iadd, 1), (110, .istore 4, 2), (112, .iinc 5 1, 3), (115, .goto (-24), 3), (118, .iload_n 2, 1), (119, .iload 4, 2), (121, .ifCond .le 7, 3), (124, .iconst 1, 1), (125, .goto 4, 3), (128, .iconst 0, 1), (129, .iadd, 1), (130, .istore_n 2, 1), (131, .iinc 3 1, 3), (134, .goto (-55), 3), (137, .iload_n 2, 1), (138, .ireturn, 1), (139, .aload_n 0, 1), (140, .getfield 100, 3), (143, .ireturn, 1), (144, .iconst 0, 1), (145, .istore_n 3, 1), (146, .iload_n 3, 1), (147, .aload_n 0, 1), (148, .getfield 30, 3), (151, .if_icmp .ge 17, 3), (154, .iload_n 2, 1), (155, .aload_n 0, 1), (156, .iload_n 3, 1), (157, .invokevirtual 119, 3), (160, .iadd, 1), (161, .istore_n 2, 1), (162, .iinc 3 1, 3), (165, .goto (-19), 3), (168, .iload_n 2, 1), (169, .ireturn, 1), (170, .iconst 0, 1), (171, .istore_n 3, 1), (172, .iload_n 3, 1), (173, .aload_n 0, 1), (174, .getfield 30, 3), (177, .if_icmp .ge 18, 3), (180, .iload_n 2, 1), (181, .aload_n 0, 1), (182, .iload_n 3, 1), (183, .iconst 3, 1), (184, .invokevirtual 61, 3), (187, .iadd, 1), (188, .istore_n 2, 1), (189, .iinc 3 1, 3), (192, .goto (-20), 3), (195, .iload_n 2, 1), (196, .ireturn, 1)]
def dp_t110 : List dp_I := [(0, .aload_n 0, 1), (1, .iconst 0, 1), (2, .putfield 19, 3), (5, .iload_n 1, 1), (6, .iconst 0, 1), (7, .bipush 6, 2), (9, .invokestatic 26, 3), (12, .ifCond .eq 11, 3), (15, .aload_n 0, 1), (16, .iload_n 1, 1), (17, .invokevirtual 128, 3), (20, .goto 8, 3), (23, .aload_n 0, 1), (24, .iconst 1, 1), (25, .invokevirtual 40, 3), (28, .ireturn, 1)]
def dp_t111 : List dp_I := [(0, .aload_n 0, 1), (1, .iconst 0, 1), (2, .putfield 19, 3), (5, .iload_n 1, 1), (6, .invokestatic 37, 3), (9, .ifCond .eq 11, 3), (12, .aload_n 0, 1), (13, .iload_n 1, 1), (14, .invokevirtual 78, 3), (17, .goto 8, 3), (20, .aload_n 0, 1), (21, .iconst 1, 1), (22, .invokevirtual 40, 3), (25, .ireturn, 1)]
def dp_t112 : List dp_I := [(0, .aload_n 0, 1), (1, .iconst 0, 1), (2, .putfield 19, 3), (5, .aload_n 0, 1), (6, .iload_n 1, 1), (7, .invokevirtual 64, 3), (10, .ifCond .eq 20, 3), (13, .aload_n 0, 1), (14, .iload_n 2, 1), (15, .invokevirtual 44, 3), (18, .ifCond .eq 12, 3), (21, .aload_n 0, 1), (22, .iload_n 1, 1), (23, .iload_n 2, 1), (24, .invokevirtual 84, 3), (27, .goto 8, 3), (30, .aload_n 0, 1), (31, .iconst 1, 1), (32, .invokevirtual 40, 3), (35, .ireturn, 1)]
def dp_t113 : List dp_I := [(0, .aload_n 0, 1), (1, .iconst 0, 1), (2, .putfield 19, 3), (5, .aload_n 0, 1), (6, .iload_n 1, 1), (7, .invokevirtual 64, 3), (10, .ifCond .eq 27, 3), (13, .iload_n 2, 1), (14, .iconst 0, 1), (15, .aload_n 0, 1), (16, .iload_n 1, 1), (17, .invokevirtual 122, 3), (20, .iconst 1, 1), (21, .isub, 1), (22, .invokestatic 26, 3), (25, .ifCond .eq 12, 3), (28, .aload_n 0, 1), (29, .iload_n 1, 1), (30, .iload_n 2, 1), (31, .invokevirtual 91, 3), (34, .goto 8, 3), (37, .aload_n 0, 1), (38, .iconst 1, 1), (39, .invokevirtual 40, 3), (42, .ireturn, 1)]
def dp_t114 : List dp_I := [(0, .aload_n 0, 1), (1, .iconst 0, 1), (2, .putfield 19, 3), (5, .aload_n 0, 1), (6, .iload_n 1, 1), (7, .invokevirtual 44, 3), (10, .ifCond .eq 11, 3), (13, .aload_n 0, 1), (14, .iload_n 2, 1), (15, .invokevirtual 44, 3), (18, .ifCond .ne 9, 3), (21, .aload_n 0, 1), (22, .iconst 1, 1), (23, .invokevirtual 40, 3), (26, .ireturn, 1), (27, .aload_n 0, 1), (28, .iload_n 1, 1), (29, .iconst 0, 1), (30, .invokevirtual 47, 3), (33, .aload_n 0, 1), (34, .iload_n 2, 1), (35, .iconst 0, 1), (36, .invokevirtual 47, 3), (39, .iadd, 1), (40, .istore_n 3, 1), (41, .iconst 0, 1), (42, .istore 4, 2), (44, .iconst 0, 1), (45, .istore 5, 2), (47, .iload 5, 2), (49, .bipush 20, 2), (51, .if_icmp .ge 33, 3), (54, .iload 4, 2), (56, .iconst 2, 1), (57, .aload_n 0, 1), (58, .iload_n 1, 1), (59, .iload 5, 2), (61, .invokevirtual 75, 3), (64, .aload_n 0, 1), (65, .iload_n 2, 1), (66, .iload 5, 2), (68, .invokevirtual 75, 3), (71, .invokestatic 70, 3), (74, .imul, 1), (75, .iadd, 1), (76, .istore 4, 2), (78, .iinc 5 1, 3), (81, .goto (-34), 3), (84, .iload_n 3, 1), (85, .ifCond .ne 7, 3), (88, .iconst 0, 1), (89, .goto 10, 3), (92, .bipush 100, 2), (94, .iload 4, 2), (96, .imul, 1), (97, .iload_n 3, 1), (98, .idiv, 1), (99, .ireturn, 1)]
def dp_t115 : List dp_I := [(0, .aload_n 0, 1), (1, .iconst 0, 1), (2, .putfield 19, 3), (5, .aload_n 0, 1), (6, .iload_n 1, 1), (7, .invokevirtual 64, 3), (10, .ifCond .ne 9, 3), (13, .aload_n 0, 1), (14, .iconst 1, 1), (15, .invokevirtual 40, 3), (18, .ireturn, 1), (19, .aload_n 0, 1), (20, .iload_n 1, 1), (21, .iconst 1, 1), (22, .invokevirtual 61, 3), (25, .istore_n 2, 1), (26, .iload_n 2, 1), (27, .iconst 5, 1), (28, .if_icmp .ne 5, 3), (31, .iconst (-1), 1), (32, .ireturn, 1), (33, .iconst (-1), 1), (34, .istore_n 3, 1), (35, .iconst (-1), 1), (36, .istore 4, 2), (38, .iconst 0, 1), (39, .istore 5, 2), (41, .iload 5, 2), (43, .bipush 20, 2), (45, .if_icmp .ge 93, 3), (48, .aload_n 0, 1), (49, .iload_n 1, 1), (50, .iload 5, 2), (52, .invokevirtual 67, 3), (55, .iconst (-1), 1), (56, .if_icmp .eq 6, 3), (59, .goto 73, 3), (62, .aload_n 0, 1), (63, .iload_n 1, 1), (64, .iconst 5, 1), (65, .iload_n 2, 1), (66, .iadd, 1), (67, .iload 5, 2), (69, .invokevirtual 57, 3), (72, .aload_n 0, 1), (73, .iload_n 1, 1), (74, .iconst 1, 1), (75, .iload_n 2, 1), (76, .iconst 1, 1), (77, .iadd, 1), (78, .invokevirtual 57, 3), (81, .aload_n 0, 1), (82, .iload_n 1, 1), (83, .iconst 0, 1), (84, .invokevirtual 91, 3), (87, .iconst (-1), 1), (88, .if_icmp .ne 7, 3), (91, .iconst (-1), 1), (92, .goto 14, 3), (95, .aload_n 0, 1), (96, .iload_n 1, 1), (97, .aload_n 0, 1), (98, .iload_n 1, 1), (99, .iconst 0, 1), (100, .invokevirtual 91, 3), (103, .invokevirtual 84, 3), (106, .istore 6, 2), (108, .aload_n 0, 1), (109, .iload_n 1, 1), (110, .iconst 1, 1), (111, .iload_n 2, 1), (112, .invokevirtual 57, 3), (115, .iload 6, 2), (117, .iload 4, 2), (119, .if_icmp .gt 6, 3), (122, .goto 10, 3), (125, .iload 5, 2), (127, .istore_n 3, 1), (128, .iload 6, 2), (130, .istore 4, 2), (132, .iinc 5 1, 3), (135, .goto (-94), 3), (138, .iload_n 3, 1), (139, .ireturn, 1)]
def dp_t116 : List dp_I := [(0, .aload_n 1, 1), (1, .iconst 0, 1), (2, .aload_n 0, 1), (3, .getfield 13, 3), (6, .iconst 0, 1), (7, .aload_n 0, 1), (8, .getfield 13, 3), (11, .arraylength, 1), (12, .invokestatic 51, 3), (15, .aload_n 2, 1), (16, .iconst 0, 1), (17, .aload_n 0, 1), (18, .getfield 16, 3), (21, .iconst 0, 1), (22, .aload_n 0, 1), (23, .getfield 16, 3), (26, .arraylength, 1), (27, .invokestatic 51, 3), (30, .aload_n 0, 1), (31, .iload_n 3, 1), (32, .putfield 100, 3), (35, .return_, 1)]
def dp_t117 : List dp_I := [(0, .aload_n 0, 1), (1, .iconst 0, 1), (2, .putfield 19, 3), (5, .iload_n 1, 1), (6, .iconst 1, 1), (7, .bipush 30, 2), (9, .invokestatic 26, 3), (12, .ifCond .ne 9, 3), (15, .aload_n 0, 1), (16, .iconst 1, 1), (17, .invokevirtual 40, 3), (20, .ireturn, 1), (21, .aload_n 0, 1), (22, .iload_n 2, 1), (23, .invokevirtual 64, 3), (26, .ifCond .ne 9, 3), (29, .aload_n 0, 1), (30, .iconst 2, 1), (31, .invokevirtual 40, 3), (34, .ireturn, 1), (35, .aload_n 0, 1), (36, .getfield 13, 3), (39, .invokevirtual 131, 3), (42, .checkcast 132, 3), (45, .astore_n 3, 1), (46, .aload_n 0, 1), (47, .getfield 16, 3), (50, .invokevirtual 131, 3), (53, .checkcast 132, 3), (56, .astore 4, 2), (58, .aload_n 0, 1), (59, .getfield 100, 3), (62, .istore 5, 2), (64, .aload_n 0, 1), (65, .iload_n 1, 1), (66, .invokevirtual 107, 3), (69, .pop, 1), (70, .aload_n 0, 1), (71, .iload_n 2, 1), (72, .iconst 0, 1), (73, .invokevirtual 61, 3), (76, .istore 6, 2), (78, .aload_n 0, 1), (79, .aload_n 3, 1), (80, .aload 4, 2), (82, .iload 5, 2), (84, .invokevirtual 136, 3), (87, .iload 6, 2), (89, .ireturn, 1)]
def dp_t118 : List dp_I := [(0, .iconst 0, 1), (1, .istore_n 1, 1), (2, .iload_n 1, 1), (3, .aload_n 0, 1), (4, .getfield 30, 3), (7, .if_icmp .ge 41, 3), (10, .aload_n 0, 1), (11, .iload_n 1, 1), (12, .iconst 0, 1), (13, .invokevirtual 91, 3), (16, .iconst (-1), 1), (17, .if_icmp .eq 25, 3), (20, .aload_n 0, 1), (21, .iload_n 1, 1), (22, .aload_n 0, 1), (23, .iload_n 1, 1), (24, .iconst 0, 1), (25, .invokevirtual 91, 3), (28, .invokevirtual 94, 3), (31, .aload_n 0, 1), (32, .iload_n 1, 1), (33, .iconst 0, 1), (34, .invokevirtual 61, 3), (37, .if_icmp .le 5, 3), (40, .iconst 1, 1), (41, .ireturn, 1), (42, .iinc 1 1, 3), (45, .goto (-43), 3), (48, .iconst 0, 1), (49, .ireturn, 1)]
def dp_t119 : List dp_I := [(0, .aload_n 0, 1), (1, .iconst 0, 1), (2, .putfield 19, 3), (5, .aload_n 0, 1), (6, .getfield 13, 3), (9, .invokevirtual 131, 3), (12, .checkcast 132, 3), (15, .astore_n 1, 1), (16, .aload_n 0, 1), (17, .getfield 16, 3), (20, .invokevirtual 131, 3), (23, .checkcast 132, 3), (26, .astore_n 2, 1), (27, .aload_n 0, 1), (28, .getfield 100, 3), (31, .istore_n 3, 1), (32, .iconst 0, 1), (33, .istore 4, 2), (35, .iload 4, 2), (37, .bipush 40, 2), (39, .if_icmp .gt 21, 3), (42, .aload_n 0, 1), (43, .invokevirtual 140, 3), (46, .ifCond .ne 14, 3), (49, .aload_n 0, 1), (50, .invokevirtual 103, 3), (53, .pop, 1), (54, .iinc 4 1, 3), (57, .goto (-22), 3), (60, .aload_n 0, 1), (61, .aload_n 1, 1), (62, .aload_n 2, 1), (63, .iload_n 3, 1), (64, .invokevirtual 136, 3), (67, .iload 4, 2), (69, .bipush 40, 2), (71, .if_icmp .le 7, 3), (74, .iconst (-1), 1), (75, .goto 5, 3), (78, .iload 4, 2), (80, .ireturn, 1)]
def dp_t120 : List dp_I := [(0, .aload_n 0, 1), (1, .iconst 0, 1), (2, .putfield 19, 3), (5, .aload_n 0, 1), (6, .iconst 5, 1), (7, .invokevirtual 128, 3), (10, .ifCond .ne 7, 3), (13, .dconst 0, 1), (14, .goto 17, 3), (17, .aload_n 0, 1), (18, .bipush 6, 2), (20, .invokevirtual 128, 3), (23, .i2d, 1), (24, .aload_n 0, 1), (25, .iconst 5, 1), (26, .invokevirtual 128, 3), (29, .i2d, 1), (30, .ddiv, 1), (31, .dreturn, 1)]
def dp_t121 : List dp_I := [(0, .aload_n 0, 1), (1, .iconst 0, 1), (2, .putfield 19, 3), (5, .ldc2_w 144, 3), (8, .lstore_n 1, 1), (9, .iconst 0, 1), (10, .istore_n 3, 1), (11, .iload_n 3, 1), (12, .bipush 7, 2), (14, .if_icmp .ge 22, 3), (17, .lload_n 1, 1), (18, .ldc2_w 146, 3), (21, .lmul, 1), (22, .aload_n 0, 1), (23, .iload_n 3, 1), (24, .invokevirtual 128, 3), (27, .i2l, 1), (28, .ladd, 1), (29, .lstore_n 1, 1), (30, .iinc 3 1, 3), (33, .goto (-22), 3), (36, .aload_n 0, 1), (37, .getfield 9, 3), (40, .astore_n 3, 1), (41, .aload_n 3, 1), (42, .arraylength, 1), (43, .istore 4, 2), (45, .iconst 0, 1), (46, .istore 5, 2), (48, .iload 5, 2), (50, .iload 4, 2), (52, .if_icmp .ge 25, 3), (55, .aload_n 3, 1), (56, .iload 5, 2), (58, .iaload, 1), (59, .istore 6, 2), (61, .lload_n 1, 1), (62, .ldc2_w 146, 3), (65, .lmul, 1), (66, .iload 6, 2), (68, .i2l, 1), (69, .ladd, 1), (70, .lstore_n 1, 1), (71, .iinc 5 1, 3), (74, .goto (-26), 3), (77, .iconst 0, 1), (78, .istore_n 3, 1), (79, .iload_n 3, 1), (80, .aload_n 0, 1), (81, .getfield 23, 3), (84, .if_icmp .ge 76, 3), (87, .iconst 0, 1), (88, .istore 4, 2), (90, .iload 4, 2), (92, .iconst 4, 1), (93, .if_icmp .ge 24, 3), (96, .lload_n 1, 1), (97, .ldc2_w 146, 3), (100, .lmul, 1), (101, .aload_n 0, 1), (102, .iload_n 3, 1), (103, .iload 4, 2), (105, .invokevirtual 116, 3), (108, .i2l, 1), (109, .ladd, 1), (110, .lstore_n 1, 1), (111, .iinc 4 1, 3), (114, .goto (-24), 3), (117, .iconst 0, 1), (118, .istore 4, 2), (120, .iload 4, 2), (122, .aload_n 0, 1), (123, .iload_n 3, 1), (124, .iconst 0, 1), (125, .invokevirtual 47, 3), (128, .if_icmp .ge 26, 3), (131, .lload_n 1, 1), (132, .ldc2_w 146, 3), (135, .lmul, 1), (136, .aload_n 0, 1), (137, .iload_n 3, 1), (138, .iconst 2, 1), (139, .iload 4, 2), (141, .iadd, 1), (142, .invokevirtual 47, 3), (145, .i2l, 1), (146, .ladd, 1), (147, .lstore_n 1, 1), (148, .iinc 4 1, 3), (151, .goto (-31), 3), (154, .iinc 3 1, 3), (157, .goto (-78), 3), (160, .iconst 0, 1), (161, .istore_n 3, 1), (162, .iload_n 3, 1), (163, .aload_n 0, 1), (164, .getfield 30, 3), (167, .if_icmp .ge 110, 3), (170, .iconst 0, 1), (171, .istore 4, 2), (173, .iload 4, 2), (175, .bipush 6, 2), (177, .if_icmp .ge 24, 3), (180, .lload_n 1, 1), (181, .ldc2_w 146, 3), (184, .lmul, 1), (185, .aload_n 0, 1), (186, .iload_n 3, 1), (187, .iload 4, 2), (189, .invokevirtual 125, 3), (192, .i2l, 1), (193, .ladd, 1), (194, .lstore_n 1, 1), (195, .iinc 4 1, 3), (198, .goto (-25), 3), (201, .iconst 0, 1), (202, .istore 4, 2), (204, .iload 4, 2), (206, .aload_n 0, 1), (207, .iload_n 3, 1), (208, .iconst 1, 1), (209, .invokevirtual 61, 3), (212, .if_icmp .ge 26, 3), (215, .lload_n 1, 1), (216, .ldc2_w 146, 3), (219, .lmul, 1), (220, .aload_n 0, 1), (221, .iload_n 3, 1), (222, .iconst 5, 1), (223, .iload 4, 2), (225, .iadd, 1), (226, .invokevirtual 61, 3), (229, .i2l, 1), (230, .ladd, 1), (231, .lstore_n 1, 1), (232, .iinc 4 1, 3), (235, .goto (-31), 3), (238, .iconst 0, 1), (239, .istore 4, 2), (241, .iload 4, 2), (243, .aload_n 0, 1), (244, .getfield 23, 3), (247, .if_icmp .ge 24, 3), (250, .lload_n 1, 1), (251, .ldc2_w 146, 3), (254, .lmul, 1), (255, .aload_n 0, 1), (256, .iload_n 3, 1), (257, .iload 4, 2), (259, .invokevirtual 84, 3), (262, .i2l, 1), (263, .ladd, 1), (264, .lstore_n 1, 1), (265, .iinc 4 1, 3), (268, .goto (-27), 3), (271, .iinc 3 1, 3), (274, .goto (-112), 3), (277, .lload_n 1, 1), (278, .lreturn, 1)]
def dp_t122 : List dp_I := [(0, .iload_n 0, 1), (1, .iload_n 0, 1), (2, .iconst 1, 1), (3, .iushr, 1), (4, .ldc_w 265, 3), (7, .iand, 1), (8, .isub, 1), (9, .istore_n 0, 1), (10, .iload_n 0, 1), (11, .ldc_w 266, 3), (14, .iand, 1), (15, .iload_n 0, 1), (16, .iconst 2, 1), (17, .iushr, 1), (18, .ldc_w 266, 3), (21, .iand, 1), (22, .iadd, 1), (23, .istore_n 0, 1), (24, .iload_n 0, 1), (25, .iload_n 0, 1), (26, .iconst 4, 1), (27, .iushr, 1), (28, .iadd, 1), (29, .ldc_w 267, 3), (32, .iand, 1), (33, .istore_n 0, 1), (34, .iload_n 0, 1), (35, .iload_n 0, 1), (36, .bipush 8, 2), (38, .iushr, 1), (39, .iadd, 1), (40, .istore_n 0, 1), (41, .iload_n 0, 1), (42, .iload_n 0, 1), (43, .bipush 16, 2), (45, .iushr, 1), (46, .iadd, 1), (47, .istore_n 0, 1), (48, .iload_n 0, 1), (49, .bipush 63, 2), (51, .iand, 1), (52, .ireturn, 1)]
def dp_t123 : List dp_I := [(0, .iconst 0, 1), (1, .istore_n 2, 1), (2, .aload_n 0, 1), (3, .arraylength, 1), (4, .istore_n 3, 1), (5, .iload_n 2, 1), (6, .iload_n 3, 1), (7, .if_icmp .ge 13, 3), (10, .aload_n 0, 1), (11, .iload_n 2, 1), (12, .iload_n 1, 1), (13, .iastore, 1), (14, .iinc 2 1, 3), (17, .goto (-12), 3), (20, .return_, 1)]
def dp_t124 : List dp_I := [(0, .aload_n 3, 1), (1, .iconst 0, 1), (2, .aload_n 0, 1), (3, .iload_n 1, 1), (4, .iload_n 2, 1), (5, .invokevirtual 7, 3), (8, .i2l, 1), (9, .lastore, 1), (10, .goto 7, 3), (13, .astore 4, 2), (15, .iconst 1, 1), (16, .ireturn, 1), (17, .iconst 0, 1), (18, .ireturn, 1)]
def dp_t125 : List dp_I := [(0, .aload_n 1, 1), (1, .iconst 0, 1), (2, .aload_n 0, 1), (3, .invokevirtual 15, 3), (6, .i2l, 1), (7, .lastore, 1), (8, .goto 6, 3), (11, .astore_n 2, 1), (12, .iconst 1, 1), (13, .ireturn, 1), (14, .iconst 0, 1), (15, .ireturn, 1)]
def dp_t126 : List dp_I := [(0, .aload_n 3, 1), (1, .iconst 0, 1), (2, .aload_n 0, 1), (3, .iload_n 1, 1), (4, .iload_n 2, 1), (5, .invokevirtual 21, 3), (8, .i2l, 1), (9, .lastore, 1), (10, .goto 11, 3), (13, .astore 4, 2), (15, .iconst 1, 1), (16, .ireturn, 1), (17, .astore 4, 2), (19, .iconst 2, 1), (20, .ireturn, 1), (21, .iconst 0, 1), (22, .ireturn, 1)]
def dp_t127 : List dp_I := [(0, .aload_n 3, 1), (1, .iconst 0, 1), (2, .aload_n 0, 1), (3, .iload_n 1, 1), (4, .iload_n 2, 1), (5, .invokevirtual 24, 3), (8, .i2l, 1), (9, .lastore, 1), (10, .goto 7, 3), (13, .astore 4, 2), (15, .iconst 1, 1), (16, .ireturn, 1), (17, .iconst 0, 1), (18, .ireturn, 1)]
def dp_t128 : List dp_I := [(0, .aload_n 2, 1), (1, .iconst 0, 1), (2, .aload_n 0, 1), (3, .iload_n 1, 1), (4, .invokevirtual 27, 3), (7, .i2l, 1), (8, .lastore, 1), (9, .goto 9, 3), (12, .astore_n 3, 1), (13, .iconst 1, 1), (14, .ireturn, 1), (15, .astore_n 3, 1), (16, .iconst 2, 1), (17, .ireturn, 1), (18, .iconst 0, 1), (19, .ireturn, 1)]
def dp_t129 : List dp_I := [(0, .aload_n 3, 1), (1, .iconst 0, 1), (2, .aload_n 0, 1), (3, .iload_n 1, 1), (4, .iload_n 2, 1), (5, .invokevirtual 33, 3), (8, .i2l, 1), (9, .lastore, 1), (10, .goto 11, 3), (13, .astore 4, 2), (15, .iconst 1, 1), (16, .ireturn, 1), (17, .astore 4, 2), (19, .iconst 2, 1), (20, .ireturn, 1), (21, .iconst 0, 1), (22, .ireturn, 1)]
def dp_t130 : List dp_I := [(0, .aload_n 3, 1), (1, .iconst 0, 1), (2, .aload_n 0, 1), (3, .iload_n 1, 1), (4, .iload_n 2, 1), (5, .invokevirtual 36, 3), (8, .i2l, 1), (9, .lastore, 1), (10, .goto 11, 3), (13, .astore 4, 2), (15, .iconst 1, 1), (16, .ireturn, 1), (17, .astore 4, 2), (19, .iconst 2, 1), (20, .ireturn, 1), (21, .iconst 0, 1), (22, .ireturn, 1)]
def dp_t131 : List dp_I := [(0, .aload_n 3, 1), (1, .iconst 0, 1), (2, .aload_n 0, 1), (3, .iload_n 1, 1), (4, .iload_n 2, 1), (5, .invokevirtual 39, 3), (8, .i2l, 1), (9, .lastore, 1), (10, .goto 11, 3), (13, .astore 4, 2), (15, .iconst 1, 1), (16, .ireturn, 1), (17, .astore 4, 2), (19, .iconst 2, 1), (20, .ireturn, 1), (21, .iconst 0, 1), (22, .ireturn, 1)]
def dp_t132 : List dp_I := [(0, .aload_n 3, 1), (1, .iconst 0, 1), (2, .aload_n 0, 1), (3, .iload_n 1, 1), (4, .iload_n 2, 1), (5, .invokevirtual 42, 3), (8, .i2l, 1), (9, .lastore, 1), (10, .goto 11, 3), (13, .astore 4, 2), (15, .iconst 1, 1), (16, .ireturn, 1), (17, .astore 4, 2), (19, .iconst 2, 1), (20, .ireturn, 1), (21, .iconst 0, 1), (22, .ireturn, 1)]
def dp_t133 : List dp_I := [(0, .aload_n 2, 1), (1, .iconst 0, 1), (2, .aload_n 0, 1), (3, .iload_n 1, 1), (4, .invokevirtual 45, 3), (7, .i2l, 1), (8, .lastore, 1), (9, .goto 6, 3), (12, .astore_n 3, 1), (13, .iconst 1, 1), (14, .ireturn, 1), (15, .iconst 0, 1), (16, .ireturn, 1)]
def dp_t134 : List dp_I := [(0, .aload_n 2, 1), (1, .iconst 0, 1), (2, .aload_n 0, 1), (3, .iload_n 1, 1), (4, .invokevirtual 48, 3), (7, .i2l, 1), (8, .lastore, 1), (9, .goto 6, 3), (12, .astore_n 3, 1), (13, .iconst 1, 1), (14, .ireturn, 1), (15, .iconst 0, 1), (16, .ireturn, 1)]
def dp_t135 : List dp_I := [(0, .aload_n 3, 1), (1, .iconst 0, 1), (2, .aload_n 0, 1), (3, .iload_n 1, 1), (4, .iload_n 2, 1), (5, .invokevirtual 51, 3), (8, .i2l, 1), (9, .lastore, 1), (10, .goto 7, 3), (13, .astore 4, 2), (15, .iconst 1, 1), (16, .ireturn, 1), (17, .iconst 0, 1), (18, .ireturn, 1)]
def dp_t136 : List dp_I := [(0, .aload_n 3, 1), (1, .iconst 0, 1), (2, .aload_n 0, 1), (3, .iload_n 1, 1), (4, .iload_n 2, 1), (5, .invokevirtual 54, 3), (8, .i2l, 1), (9, .lastore, 1), (10, .goto 7, 3), (13, .astore 4, 2), (15, .iconst 1, 1), (16, .ireturn, 1), (17, .iconst 0, 1), (18, .ireturn, 1)]
def dp_t137 : List dp_I := [(0, .aload_n 3, 1), (1, .iconst 0, 1), (2, .aload_n 0, 1), (3, .iload_n 1, 1), (4, .iload_n 2, 1), (5, .invokevirtual 57, 3), (8, .i2l, 1), (9, .lastore, 1), (10, .goto 7, 3), (13, .astore 4, 2), (15, .iconst 1, 1), (16, .ireturn, 1), (17, .iconst 0, 1), (18, .ireturn, 1)]
def dp_t138 : List dp_I := [(0, .aload_n 3, 1), (1, .iconst 0, 1), (2, .aload_n 0, 1), (3, .iload_n 1, 1), (4, .iload_n 2, 1), (5, .invokevirtual 60, 3), (8, .i2l, 1), (9, .lastore, 1), (10, .goto 7, 3), (13, .astore 4, 2), (15, .iconst 1, 1), (16, .ireturn, 1), (17, .iconst 0, 1), (18, .ireturn, 1)]
def dp_t139 : List dp_I := [(0, .aload_n 2, 1), (1, .iconst 0, 1), (2, .aload_n 0, 1), (3, .iload_n 1, 1), (4, .invokevirtual 63, 3), (7, .i2l, 1), (8, .lastore, 1), (9, .goto 6, 3), (12, .astore_n 3, 1), (13, .iconst 1, 1), (14, .ireturn, 1), (15, .iconst 0, 1), (16, .ireturn, 1)]
def dp_t140 : List dp_I := [(0, .aload_n 2, 1), (1, .iconst 0, 1), (2, .aload_n 0, 1), (3, .iload_n 1, 1), (4, .invokevirtual 66, 3), (7, .i2l, 1), (8, .lastore, 1), (9, .goto 6, 3), (12, .astore_n 3, 1), (13, .iconst 1, 1), (14, .ireturn, 1), (15, .iconst 0, 1), (16, .ireturn, 1)]
def dp_t141 : List dp_I := [(0, .aload_n 3, 1), (1, .iconst 0, 1), (2, .aload_n 0, 1), (3, .iload_n 1, 1), (4, .iload_n 2, 1), (5, .invokevirtual 69, 3), (8, .i2l, 1), (9, .lastore, 1), (10, .goto 7, 3), (13, .astore 4, 2), (15, .iconst 1, 1), (16, .ireturn, 1), (17, .iconst 0, 1), (18, .ireturn, 1)]
def dp_t142 : List dp_I := [(0, .aload_n 3, 1), (1, .iconst 0, 1), (2, .aload_n 0, 1), (3, .iload_n 1, 1), (4, .iload_n 2, 1), (5, .invokevirtual 72, 3), (8, .i2l, 1), (9, .lastore, 1), (10, .goto 7, 3), (13, .astore 4, 2), (15, .iconst 1, 1), (16, .ireturn, 1), (17, .iconst 0, 1), (18, .ireturn, 1)]
def dp_t143 : List dp_I := [(0, .aload_n 3, 1), (1, .iconst 0, 1), (2, .aload_n 0, 1), (3, .iload_n 1, 1), (4, .iload_n 2, 1), (5, .invokevirtual 75, 3), (8, .i2l, 1), (9, .lastore, 1), (10, .goto 7, 3), (13, .astore 4, 2), (15, .iconst 1, 1), (16, .ireturn, 1), (17, .iconst 0, 1), (18, .ireturn, 1)]
def dp_t144 : List dp_I := [(0, .aload_n 2, 1), (1, .iconst 0, 1), (2, .aload_n 0, 1), (3, .iload_n 1, 1), (4, .invokevirtual 78, 3), (7, .i2l, 1), (8, .lastore, 1), (9, .goto 6, 3), (12, .astore_n 3, 1), (13, .iconst 1, 1), (14, .ireturn, 1), (15, .iconst 0, 1), (16, .ireturn, 1)]
def dp_t145 : List dp_I := [(0, .aload_n 3, 1), (1, .iconst 0, 1), (2, .aload_n 0, 1), (3, .iload_n 1, 1), (4, .iload_n 2, 1), (5, .invokevirtual 81, 3), (8, .i2l, 1), (9, .lastore, 1), (10, .goto 11, 3), (13, .astore 4, 2), (15, .iconst 1, 1), (16, .ireturn, 1), (17, .astore 4, 2), (19, .iconst 2, 1), (20, .ireturn, 1), (21, .iconst 0, 1), (22, .ireturn, 1)]
def dp_t146 : List dp_I := [(0, .new 8, 3), (3, .dup, 1), (4, .invokespecial 84, 3), (7, .astore_n 1, 1), (8, .new 85, 3), (11, .dup, 1), (12, .invokespecial 87, 3), (15, .astore_n 2, 1), (16, .iconst 1, 1), (17, .newarray .long, 2), (19, .astore_n 3, 1), (20, .iconst 0, 1), (21, .istore 4, 2), (23, .iload 4, 2), (25, .aload_n 0, 1), (26, .arraylength, 1), (27, .iconst 3, 1), (28, .isub, 1), (29, .if_icmp .gt 1597, 3), (32, .aload_n 0, 1), (33, .iload 4, 2), (35, .iaload, 1), (36, .bipush 31, 2), (38, .iand, 1), (39, .tableswitch 1581 0 24 #[113, 181, 225, 293, 361, 417, 485, 553, 621, 689, 745, 801, 869, 937, 1005, 1073, 1129, 1185, 1253, 1321, 1389, 1445, 1513, 1526, 1567], 113), (152, .aload_n 1, 1), (153, .aload_n 0, 1), (154, .iload 4, 2), (156, .iconst 1, 1), (157, .iadd, 1), (158, .iaload, 1), (159, .aload_n 0, 1), (160, .iload 4, 2), (162, .iconst 2, 1), (163, .iadd, 1), (164, .iaload, 1), (165, .aload_n 3, 1), (166, .invokestatic 88, 3), (169, .istore 5, 2), (171, .aload_n 2, 1), (172, .aload_n 0, 1), (173, .iload 4, 2), (175, .iconst 1, 1), (176, .iadd, 1), (177, .iaload, 1), (178, .aload_n 0, 1), (179, .iload 4, 2), (181, .iconst 2, 1), (182, .iadd, 1), (183, .iaload, 1), (184, .invokevirtual 93, 3), (187, .istore 6, 2), (189, .aload_n 2, 1), (190, .invokevirtual 94, 3), (193, .iload 5, 2), (195, .if_icmp .eq 5, 3), (198, .iconst 0, 1), (199, .ireturn, 1), (200, .iload 5, 2), (202, .ifCond .ne 15, 3), (205, .aload_n 3, 1), (206, .iconst 0, 1), (207, .laload, 1), (208, .iload 6, 2), (210, .i2l, 1), (211, .lcmp, 1), (212, .ifCond .eq 5, 3), (215, .iconst 0, 1), (216, .ireturn, 1), (217, .goto 1403, 3), (220, .aload_n 1, 1), (221, .aload_n 3, 1), (222, .invokestatic 97, 3), (225, .istore 5, 2), (227, .aload_n 2, 1), (228, .invokevirtual 100, 3), (231, .istore 6, 2), (233, .aload_n 2, 1), (234, .invokevirtual 94, 3), (237, .iload 5, 2), (239, .if_icmp .eq 5, 3), (242, .iconst 0, 1), (243, .ireturn, 1), (244, .iload 5, 2), (246, .ifCond .ne 15, 3), (249, .aload_n 3, 1), (250, .iconst 0, 1), (251, .laload, 1), (252, .iload 6, 2), (254, .i2l, 1), (255, .lcmp, 1), (256, .ifCond .eq 5, 3), (259, .iconst 0, 1), (260, .ireturn, 1), (261, .goto 1359, 3), (264, .aload_n 1, 1), (265, .aload_n 0, 1), (266, .iload 4, 2), (268, .iconst 1, 1), (269, .iadd, 1), (270, .iaload, 1), (271, .aload_n 0, 1), (272, .iload 4, 2), (274, .iconst 2, 1), (275, .iadd, 1), (276, .iaload, 1), (277, .aload_n 3, 1), (278, .invokestatic 101, 3), (281, .istore 5, 2), (283, .aload_n 2, 1), (284, .aload_n 0, 1), (285, .iload 4, 2), (287, .iconst 1, 1), (288, .iadd, 1), (289, .iaload, 1), (290, .aload_n 0, 1), (291, .iload 4, 2), (293, .iconst 2, 1), (294, .iadd, 1), (295, .iaload, 1), (296, .invokevirtual 103, 3), (299, .istore 6, 2), (301, .aload_n 2, 1), (302, .invokevirtual 94, 3), (305, .iload 5, 2), (307, .if_icmp .eq 5, 3), (310, .iconst 0, 1), (311, .ireturn, 1), (312, .iload 5, 2), (314, .ifCond .ne 15, 3), (317, .aload_n 3, 1), (318, .iconst 0, 1), (319, .laload, 1), (320, .iload 6, 2), (322, .i2l, 1), (323, .lcmp, 1), (324, .ifCond .eq 5, 3), (327, .iconst 0, 1), (328, .ireturn, 1), (329, .goto 1291, 3), (332, .aload_n 1, 1), (333, .aload_n 0, 1), (334, .iload 4, 2), (336, .iconst 1, 1), (337, .iadd, 1), (338, .iaload, 1), (339, .aload_n 0, 1), (340, .iload 4, 2), (342, .iconst 2, 1), (343, .iadd, 1), (344, .iaload, 1), (345, .aload_n 3, 1), (346, .invokestatic 104, 3), (349, .istore 5, 2), (351, .aload_n 2, 1), (352, .aload_n 0, 1), (353, .iload 4, 2), (355, .iconst 1, 1), (356, .iadd, 1), (357, .iaload, 1), (358, .aload_n 0, 1), (359, .iload 4, 2), (361, .iconst 2, 1), (362, .iadd, 1), (363, .iaload, 1), (364, .invokevirtual 106, 3), (367, .istore 6, 2), (369, .aload_n 2, 1), (370, .invokevirtual 94, 3), (373, .iload 5, 2), (375, .if_icmp .eq 5, 3), (378, .iconst 0, 1), (379, .ireturn, 1), (380, .iload 5, 2), (382, .ifCond .ne 15, 3), (385, .aload_n 3, 1), (386, .iconst 0, 1), (387, .laload, 1), (388, .iload 6, 2), (390, .i2l, 1), (391, .lcmp, 1), (392, .ifCond .eq 5, 3), (395, .iconst 0, 1), (396, .ireturn, 1), (397, .goto 1223, 3), (400, .aload_n 1, 1), (401, .aload_n 0, 1), (402, .iload 4, 2), (404, .iconst 1, 1), (405, .iadd, 1), (406, .iaload, 1), (407, .aload_n 3, 1), (408, .invokestatic 107, 3), (411, .istore 5, 2), (413, .aload_n 2, 1), (414, .aload_n 0, 1), (415, .iload 4, 2), (417, .iconst 1, 1), (418, .iadd, 1), (419, .iaload, 1), (420, .invokevirtual 110, 3), (423, .istore 6, 2), (425, .aload_n 2, 1), (426, .invokevirtual 94, 3), (429, .iload 5, 2), (431, .if_icmp .eq 5, 3), (434, .iconst 0, 1), (435, .ireturn, 1), (436, .iload 5, 2), (438, .ifCond .ne 15, 3), (441, .aload_n 3, 1), (442, .iconst 0, 1), (443, .laload, 1), (444, .iload 6, 2), (446, .i2l, 1), (447, .lcmp, 1), (448, .ifCond .eq 5, 3), (451, .iconst 0, 1), (452, .ireturn, 1), (453, .goto 1167, 3), (456, .aload_n 1, 1), (457, .aload_n 0, 1), (458, .iload 4, 2), (460, .iconst 1, 1), (461, .iadd, 1), (462, .iaload, 1), (463, .aload_n 0, 1), (464, .iload 4, 2), (466, .iconst 2, 1), (467, .iadd, 1), (468, .iaload, 1), (469, .aload_n 3, 1), (470, .invokestatic 111, 3), (473, .istore 5, 2), (475, .aload_n 2, 1), (476, .aload_n 0, 1), (477, .iload 4, 2), (479, .iconst 1, 1), (480, .iadd, 1), (481, .iaload, 1), (482, .aload_n 0, 1), (483, .iload 4, 2), (485, .iconst 2, 1), (486, .iadd, 1), (487, .iaload, 1), (488, .invokevirtual 113, 3), (491, .istore 6, 2), (493, .aload_n 2, 1), (494, .invokevirtual 94, 3), (497, .iload 5, 2), (499, .if_icmp .eq 5, 3), (502, .iconst 0, 1), (503, .ireturn, 1), (504, .iload 5, 2), (506, .ifCond .ne 15, 3), (509, .aload_n 3, 1), (510, .iconst 0, 1), (511, .laload, 1), (512, .iload 6, 2), (514, .i2l, 1), (515, .lcmp, 1), (516, .ifCond .eq 5, 3), (519, .iconst 0, 1), (520, .ireturn, 1), (521, .goto 1099, 3), (524, .aload_n 1, 1), (525, .aload_n 0, 1), (526, .iload 4, 2), (528, .iconst 1, 1), (529, .iadd, 1), (530, .iaload, 1), (531, .aload_n 0, 1), (532, .iload 4, 2), (534, .iconst 2, 1), (535, .iadd, 1), (536, .iaload, 1), (537, .aload_n 3, 1), (538, .invokestatic 114, 3), (541, .istore 5, 2), (543, .aload_n 2, 1), (544, .aload_n 0, 1), (545, .iload 4, 2), (547, .iconst 1, 1), (548, .iadd, 1), (549, .iaload, 1), (550, .aload_n 0, 1), (551, .iload 4, 2), (553, .iconst 2, 1), (554, .iadd, 1), (555, .iaload, 1), (556, .invokevirtual 116, 3), (559, .istore 6, 2), (561, .aload_n 2, 1), (562, .invokevirtual 94, 3), (565, .iload 5, 2), (567, .if_icmp .eq 5, 3), (570, .iconst 0, 1), (571, .ireturn, 1), (572, .iload 5, 2), (574, .ifCond .ne 15, 3), (577, .aload_n 3, 1), (578, .iconst 0, 1), (579, .laload, 1), (580, .iload 6, 2), (582, .i2l, 1), (583, .lcmp, 1), (584, .ifCond .eq 5, 3), (587, .iconst 0, 1), (588, .ireturn, 1), (589, .goto 1031, 3), (592, .aload_n 1, 1), (593, .aload_n 0, 1), (594, .iload 4, 2), (596, .iconst 1, 1), (597, .iadd, 1), (598, .iaload, 1), (599, .aload_n 0, 1), (600, .iload 4, 2), (602, .iconst 2, 1), (603, .iadd, 1), (604, .iaload, 1), (605, .aload_n 3, 1), (606, .invokestatic 117, 3), (609, .istore 5, 2), (611, .aload_n 2, 1), (612, .aload_n 0, 1), (613, .iload 4, 2), (615, .iconst 1, 1), (616, .iadd, 1), (617, .iaload, 1), (618, .aload_n 0, 1), (619, .iload 4, 2), (621, .iconst 2, 1), (622, .iadd, 1), (623, .iaload, 1), (624, .invokevirtual 119, 3), (627, .istore 6, 2), (629, .aload_n 2, 1), (630, .invokevirtual 94, 3), (633, .iload 5, 2), (635, .if_icmp .eq 5, 3), (638, .iconst 0, 1), (639, .ireturn, 1), (640, .iload 5, 2), (642, .ifCond .ne 15, 3), (645, .aload_n 3, 1), (646, .iconst 0, 1), (647, .laload, 1), (648, .iload 6, 2), (650, .i2l, 1), (651, .lcmp, 1), (652, .ifCond .eq 5, 3), (655, .iconst 0, 1), (656, .ireturn, 1), (657, .goto 963, 3), (660, .aload_n 1, 1), (661, .aload_n 0, 1), (662, .iload 4, 2), (664, .iconst 1, 1), (665, .iadd, 1), (666, .iaload, 1), (667, .aload_n 0, 1), (668, .iload 4, 2), (670, .iconst 2, 1), (671, .iadd, 1), (672, .iaload, 1), (673, .aload_n 3, 1), (674, .invokestatic 120, 3), (677, .istore 5, 2), (679, .aload_n 2, 1), (680, .aload_n 0, 1), (681, .iload 4, 2), (683, .iconst 1, 1), (684, .iadd, 1), (685, .iaload, 1), (686, .aload_n 0, 1), (687, .iload 4, 2), (689, .iconst 2, 1), (690, .iadd, 1), (691, .iaload, 1), (692, .invokevirtual 122, 3), (695, .istore 6, 2), (697, .aload_n 2, 1), (698, .invokevirtual 94, 3), (701, .iload 5, 2), (703, .if_icmp .eq 5, 3), (706, .iconst 0, 1), (707, .ireturn, 1), (708, .iload 5, 2), (710, .ifCond .ne 15, 3), (713, .aload_n 3, 1), (714, .iconst 0, 1), (715, .laload, 1), (716, .iload 6, 2), (718, .i2l, 1), (719, .lcmp, 1), (720, .ifCond .eq 5, 3), (723, .iconst 0, 1), (724, .ireturn, 1), (725, .goto 895, 3), (728, .aload_n 1, 1), (729, .aload_n 0, 1), (730, .iload 4, 2), (732, .iconst 1, 1), (733, .iadd, 1), (734, .iaload, 1), (735, .aload_n 3, 1), (736, .invokestatic 123, 3), (739, .istore 5, 2), (741, .aload_n 2, 1), (742, .aload_n 0, 1), (743, .iload 4, 2), (745, .iconst 1, 1), (746, .iadd, 1), (747, .iaload, 1), (748, .invokevirtual 125, 3), (751, .istore 6, 2), (753, .aload_n 2, 1), (754, .invokevirtual 94, 3), (757, .iload 5, 2), (759, .if_icmp .eq 5, 3), (762, .iconst 0, 1), (763, .ireturn, 1), (764, .iload 5, 2), (766, .ifCond .ne 15, 3), (769, .aload_n 3, 1), (770, .iconst 0, 1), (771, .laload, 1), (772, .iload 6, 2), (774, .i2l, 1), (775, .lcmp, 1), (776, .ifCond .eq 5, 3), (779, .iconst 0, 1), (780, .ireturn, 1), (781, .goto 839, 3), (784, .aload_n 1, 1), (785, .aload_n 0, 1), (786, .iload 4, 2), (788, .iconst 1, 1), (789, .iadd, 1), (790, .iaload, 1), (791, .aload_n 3, 1), (792, .invokestatic 126, 3), (795, .istore 5, 2), (797, .aload_n 2, 1), (798, .aload_n 0, 1), (799, .iload 4, 2), (801, .iconst 1, 1), (802, .iadd, 1), (803, .iaload, 1), (804, .invokevirtual 128, 3), (807, .istore 6, 2), (809, .aload_n 2, 1), (810, .invokevirtual 94, 3), (813, .iload 5, 2), (815, .if_icmp .eq 5, 3), (818, .iconst 0, 1), (819, .ireturn, 1), (820, .iload 5, 2), (822, .ifCond .ne 15, 3), (825, .aload_n 3, 1), (826, .iconst 0, 1), (827, .laload, 1), (828, .iload 6, 2), (830, .i2l, 1), (831, .lcmp, 1), (832, .ifCond .eq 5, 3), (835, .iconst 0, 1), (836, .ireturn, 1), (837, .goto 783, 3), (840, .aload_n 1, 1), (841, .aload_n 0, 1), (842, .iload 4, 2), (844, .iconst 1, 1), (845, .iadd, 1), (846, .iaload, 1), (847, .aload_n 0, 1), (848, .iload 4, 2), (850, .iconst 2, 1), (851, .iadd, 1), (852, .iaload, 1), (853, .aload_n 3, 1), (854, .invokestatic 129, 3), (857, .istore 5, 2), (859, .aload_n 2, 1), (860, .aload_n 0, 1), (861, .iload 4, 2), (863, .iconst 1, 1), (864, .iadd, 1), (865, .iaload, 1), (866, .aload_n 0, 1), (867, .iload 4, 2), (869, .iconst 2, 1), (870, .iadd, 1), (871, .iaload, 1), (872, .invokevirtual 131, 3), (875, .istore 6, 2), (877, .aload_n 2, 1), (878, .invokevirtual 94, 3), (881, .iload 5, 2), (883, .if_icmp .eq 5, 3), (886, .iconst 0, 1), (887, .ireturn, 1), (888, .iload 5, 2), (890, .ifCond .ne 15, 3), (893, .aload_n 3, 1), (894, .iconst 0, 1), (895, .laload, 1), (896, .iload 6, 2), (898, .i2l, 1), (899, .lcmp, 1), (900, .ifCond .eq 5, 3), (903, .iconst 0, 1), (904, .ireturn, 1), (905, .goto 715, 3), (908, .aload_n 1, 1), (909, .aload_n 0, 1), (910, .iload 4, 2), (912, .iconst 1, 1), (913, .iadd, 1), (914, .iaload, 1), (915, .aload_n 0, 1), (916, .iload 4, 2), (918, .iconst 2, 1), (919, .iadd, 1), (920, .iaload, 1), (921, .aload_n 3, 1), (922, .invokestatic 132, 3), (925, .istore 5, 2), (927, .aload_n 2, 1), (928, .aload_n 0, 1), (929, .iload 4, 2), (931, .iconst 1, 1), (932, .iadd, 1), (933, .iaload, 1), (934, .aload_n 0, 1), (935, .iload 4, 2), (937, .iconst 2, 1), (938, .iadd, 1), (939, .iaload, 1), (940, .invokevirtual 134, 3), (943, .istore 6, 2), (945, .aload_n 2, 1), (946, .invokevirtual 94, 3), (949, .iload 5, 2), (951, .if_icmp .eq 5, 3), (954, .iconst 0, 1), (955, .ireturn, 1), (956, .iload 5, 2), (958, .ifCond .ne 15, 3), (961, .aload_n 3, 1), (962, .iconst 0, 1), (963, .laload, 1), (964, .iload 6, 2), (966, .i2l, 1), (967, .lcmp, 1), (968, .ifCond .eq 5, 3), (971, .iconst 0, 1), (972, .ireturn, 1), (973, .goto 647, 3), (976, .aload_n 1, 1), (977, .aload_n 0, 1), (978, .iload 4, 2), (980, .iconst 1, 1), (981, .iadd, 1), (982, .iaload, 1), (983, .aload_n 0, 1), (984, .iload 4, 2), (986, .iconst 2, 1), (987, .iadd, 1), (988, .iaload, 1), (989, .aload_n 3, 1), (990, .invokestatic 135, 3), (993, .istore 5, 2), (995, .aload_n 2, 1), (996, .aload_n 0, 1), (997, .iload 4, 2), (999, .iconst 1, 1), (1000, .iadd, 1), (1001, .iaload, 1), (1002, .aload_n 0, 1), (1003, .iload 4, 2), (1005, .iconst 2, 1), (1006, .iadd, 1), (1007, .iaload, 1), (1008, .invokevirtual 137, 3), (1011, .istore 6, 2), (1013, .aload_n 2, 1), (1014, .invokevirtual 94, 3), (1017, .iload 5, 2), (1019, .if_icmp .eq 5, 3), (1022, .iconst 0, 1), (1023, .ireturn, 1), (1024, .iload 5, 2), (1026, .ifCond .ne 15, 3), (1029, .aload_n 3, 1), (1030, .iconst 0, 1), (1031, .laload, 1), (1032, .iload 6, 2), (1034, .i2l, 1), (1035, .lcmp, 1), (1036, .ifCond .eq 5, 3), (1039, .iconst 0, 1), (1040, .ireturn, 1), (1041, .goto 579, 3), (1044, .aload_n 1, 1), (1045, .aload_n 0, 1), (1046, .iload 4, 2), (1048, .iconst 1, 1), (1049, .iadd, 1), (1050, .iaload, 1), (1051, .aload_n 0, 1), (1052, .iload 4, 2), (1054, .iconst 2, 1), (1055, .iadd, 1), (1056, .iaload, 1), (1057, .aload_n 3, 1), (1058, .invokestatic 138, 3), (1061, .istore 5, 2), (1063, .aload_n 2, 1), (1064, .aload_n 0, 1), (1065, .iload 4, 2), (1067, .iconst 1, 1), (1068, .iadd, 1), (1069, .iaload, 1), (1070, .aload_n 0, 1), (1071, .iload 4, 2), (1073, .iconst 2, 1), (1074, .iadd, 1), (1075, .iaload, 1), (1076, .invokevirtual 140, 3), (1079, .istore 6, 2), (1081, .aload_n 2, 1), (1082, .invokevirtual 94, 3), (1085, .iload 5, 2), (1087, .if_icmp .eq 5, 3), (1090, .iconst 0, 1), (1091, .ireturn, 1), (1092, .iload 5, 2), (1094, .ifCond .ne 15, 3), (1097, .aload_n 3, 1), (1098, .iconst 0, 1), (1099, .laload, 1), (1100, .iload 6, 2), (1102, .i2l, 1), (1103, .lcmp, 1), (1104, .ifCond .eq 5, 3), (1107, .iconst 0, 1), (1108, .ireturn, 1), (1109, .goto 511, 3), (1112, .aload_n 1, 1), (1113, .aload_n 0, 1), (1114, .iload 4, 2), (1116, .iconst 1, 1), (1117, .iadd, 1), (1118, .iaload, 1), (1119, .aload_n 3, 1), (1120, .invokestatic 141, 3), (1123, .istore 5, 2), (1125, .aload_n 2, 1), (1126, .aload_n 0, 1), (1127, .iload 4, 2), (1129, .iconst 1, 1), (1130, .iadd, 1), (1131, .iaload, 1), (1132, .invokevirtual 143, 3), (1135, .istore 6, 2), (1137, .aload_n 2, 1), (1138, .invokevirtual 94, 3), (1141, .iload 5, 2), (1143, .if_icmp .eq 5, 3), (1146, .iconst 0, 1), (1147, .ireturn, 1), (1148, .iload 5, 2), (1150, .ifCond .ne 15, 3), (1153, .aload_n 3, 1), (1154, .iconst 0, 1), (1155, .laload, 1), (1156, .iload 6, 2), (1158, .i2l, 1), (1159, .lcmp, 1), (1160, .ifCond .eq 5, 3), (1163, .iconst 0, 1), (1164, .ireturn, 1), (1165, .goto 455, 3), (1168, .aload_n 1, 1), (1169, .aload_n 0, 1), (1170, .iload 4, 2), (1172, .iconst 1, 1), (1173, .iadd, 1), (1174, .iaload, 1), (1175, .aload_n 3, 1), (1176, .invokestatic 144, 3), (1179, .istore 5, 2), (1181, .aload_n 2, 1), (1182, .aload_n 0, 1), (1183, .iload 4, 2), (1185, .iconst 1, 1), (1186, .iadd, 1), (1187, .iaload, 1), (1188, .invokevirtual 146, 3), (1191, .istore 6, 2), (1193, .aload_n 2, 1), (1194, .invokevirtual 94, 3), (1197, .iload 5, 2), (1199, .if_icmp .eq 5, 3), (1202, .iconst 0, 1), (1203, .ireturn, 1), (1204, .iload 5, 2), (1206, .ifCond .ne 15, 3), (1209, .aload_n 3, 1), (1210, .iconst 0, 1), (1211, .laload, 1), (1212, .iload 6, 2), (1214, .i2l, 1), (1215, .lcmp, 1), (1216, .ifCond .eq 5, 3), (1219, .iconst 0, 1), (1220, .ireturn, 1), (1221, .goto 399, 3), (1224, .aload_n 1, 1), (1225, .aload_n 0, 1), (1226, .iload 4, 2), (1228, .iconst 1, 1), (1229, .iadd, 1), (1230, .iaload, 1), (1231, .aload_n 0, 1), (1232, .iload 4, 2), (1234, .iconst 2, 1), (1235, .iadd, 1), (1236, .iaload, 1), (1237, .aload_n 3, 1), (1238, .invokestatic 147, 3), (1241, .istore 5, 2), (1243, .aload_n 2, 1), (1244, .aload_n 0, 1), (1245, .iload 4, 2), (1247, .iconst 1, 1), (1248, .iadd, 1), (1249, .iaload, 1), (1250, .aload_n 0, 1), (1251, .iload 4, 2), (1253, .iconst 2, 1), (1254, .iadd, 1), (1255, .iaload, 1), (1256, .invokevirtual 149, 3), (1259, .istore 6, 2), (1261, .aload_n 2, 1), (1262, .invokevirtual 94, 3), (1265, .iload 5, 2), (1267, .if_icmp .eq 5, 3), (1270, .iconst 0, 1), (1271, .ireturn, 1), (1272, .iload 5, 2), (1274, .ifCond .ne 15, 3), (1277, .aload_n 3, 1), (1278, .iconst 0, 1), (1279, .laload, 1), (1280, .iload 6, 2), (1282, .i2l, 1), (1283, .lcmp, 1), (1284, .ifCond .eq 5, 3), (1287, .iconst 0, 1), (1288, .ireturn, 1), (1289, .goto 331, 3), (1292, .aload_n 1, 1), (1293, .aload_n 0, 1), (1294, .iload 4, 2), (1296, .iconst 1, 1), (1297, .iadd, 1), (1298, .iaload, 1), (1299, .aload_n 0, 1), (1300, .iload 4, 2), (1302, .iconst 2, 1), (1303, .iadd, 1), (1304, .iaload, 1), (1305, .aload_n 3, 1), (1306, .invokestatic 150, 3), (1309, .istore 5, 2), (1311, .aload_n 2, 1), (1312, .aload_n 0, 1), (1313, .iload 4, 2), (1315, .iconst 1, 1), (1316, .iadd, 1), (1317, .iaload, 1), (1318, .aload_n 0, 1), (1319, .iload 4, 2), (1321, .iconst 2, 1), (1322, .iadd, 1), (1323, .iaload, 1), (1324, .invokevirtual 152, 3), (1327, .istore 6, 2), (1329, .aload_n 2, 1), (1330, .invokevirtual 94, 3), (1333, .iload 5, 2), (1335, .if_icmp .eq 5, 3), (1338, .iconst 0, 1), (1339, .ireturn, 1), (1340, .iload 5, 2), (1342, .ifCond .ne 15, 3), (1345, .aload_n 3, 1), (1346, .iconst 0, 1), (1347, .laload, 1), (1348, .iload 6, 2), (1350, .i2l, 1), (1351, .lcmp, 1), (1352, .ifCond .eq 5, 3), (1355, .iconst 0, 1), (1356, .ireturn, 1), (1357, .goto 263, 3), (1360, .aload_n 1, 1), (1361, .aload_n 0, 1), (1362, .iload 4, 2), (1364, .iconst 1, 1), (1365, .iadd, 1), (1366, .iaload, 1), (1367, .aload_n 0, 1), (1368, .iload 4, 2), (1370, .iconst 2, 1), (1371, .iadd, 1), (1372, .iaload, 1), (1373, .aload_n 3, 1), (1374, .invokestatic 153, 3), (1377, .istore 5, 2), (1379, .aload_n 2, 1), (1380, .aload_n 0, 1), (1381, .iload 4, 2), (1383, .iconst 1, 1), (1384, .iadd, 1), (1385, .iaload, 1), (1386, .aload_n 0, 1), (1387, .iload 4, 2), (1389, .iconst 2, 1), (1390, .iadd, 1), (1391, .iaload, 1), (1392, .invokevirtual 155, 3), (1395, .istore 6, 2), (1397, .aload_n 2, 1), (1398, .invokevirtual 94, 3), (1401, .iload 5, 2), (1403, .if_icmp .eq 5, 3), (1406, .iconst 0, 1), (1407, .ireturn, 1), (1408, .iload 5, 2), (1410, .ifCond .ne 15, 3), (1413, .aload_n 3, 1), (1414, .iconst 0, 1), (1415, .laload, 1), (1416, .iload 6, 2), (1418, .i2l, 1), (1419, .lcmp, 1), (1420, .ifCond .eq 5, 3), (1423, .iconst 0, 1), (1424, .ireturn, 1), (1425, .goto 195, 3), (1428, .aload_n 1, 1), (1429, .aload_n 0, 1), (1430, .iload 4, 2), (1432, .iconst 1, 1), (1433, .iadd, 1), (1434, .iaload, 1), (1435, .aload_n 3, 1), (1436, .invokestatic 156, 3), (1439, .istore 5, 2), (1441, .aload_n 2, 1), (1442, .aload_n 0, 1), (1443, .iload 4, 2), (1445, .iconst 1, 1), (1446, .iadd, 1), (1447, .iaload, 1), (1448, .invokevirtual 158, 3), (1451, .istore 6, 2), (1453, .aload_n 2, 1), (1454, .invokevirtual 94, 3), (1457, .iload 5, 2), (1459, .if_icmp .eq 5, 3), (1462, .iconst 0, 1), (1463, .ireturn, 1), (1464, .iload 5, 2), (1466, .ifCond .ne 15, 3), (1469, .aload_n 3, 1), (1470, .iconst 0, 1), (1471, .laload, 1), (1472, .iload 6, 2), (1474, .i2l, 1), (1475, .lcmp, 1), (1476, .ifCond .eq 5, 3), (1479, .iconst 0, 1), (1480, .ireturn, 1), (1481, .goto 139, 3), (1484, .aload_n 1, 1), (1485, .aload_n 0, 1), (1486, .iload 4, 2), (1488, .iconst 1, 1), (1489, .iadd, 1), (1490, .iaload, 1), (1491, .aload_n 0, 1), (1492, .iload 4, 2), (1494, .iconst 2, 1), (1495, .iadd, 1), (1496, .iaload, 1), (1497, .aload_n 3, 1), (1498, .invokestatic 159, 3), (1501, .istore 5, 2), (1503, .aload_n 2, 1), (1504, .aload_n 0, 1), (1505, .iload 4, 2), (1507, .iconst 1, 1), (1508, .iadd, 1), (1509, .iaload, 1), (1510, .aload_n 0, 1), (1511, .iload 4, 2), (1513, .iconst 2, 1), (1514, .iadd, 1), (1515, .iaload, 1), (1516, .invokevirtual 161, 3), (1519, .istore 6, 2), (1521, .aload_n 2, 1), (1522, .invokevirtual 94, 3), (1525, .iload 5, 2), (1527, .if_icmp .eq 5, 3), (1530, .iconst 0, 1), (1531, .ireturn, 1), (1532, .iload 5, 2), (1534, .ifCond .ne 15, 3), (1537, .aload_n 3, 1), (1538, .iconst 0, 1), (1539, .laload, 1), (1540, .iload 6, 2), (1542, .i2l, 1), (1543, .lcmp, 1), (1544, .ifCond .eq 5, 3), (1547, .iconst 0, 1), (1548, .ireturn, 1), (1549, .goto 71, 3), (1552, .aload_n 1, 1), (1553, .invokevirtual 162, 3), (1556, .aload_n 2, 1), (1557, .invokevirtual 165, 3), (1560, .if_icmp .eq 60, 3), (1563, .iconst 0, 1), (1564, .ireturn, 1), (1565, .aload_n 1, 1), (1566, .invokevirtual 166, 3), (1569, .dstore 5, 2), (1571, .aload_n 2, 1), (1572, .invokevirtual 170, 3), (1575, .dstore 7, 2), (1577, .dload 5, 2), (1579, .dload 7, 2), (1581, .dcmp .l, 1), (1582, .ifCond .eq 21, 3), (1585, .dload 5, 2), (1587, .dload 5, 2), (1589, .dcmp .l, 1), (1590, .ifCond .eq 11, 3), (1593, .dload 7, 2), (1595, .dload 7, 2), (1597, .dcmp .l, 1), (1598, .ifCond .ne 5, 3), (1601, .iconst 0, 1), (1602, .ireturn, 1), (1603, .goto 17, 3), (1606, .aload_n 1, 1), (1607, .invokevirtual 171, 3), (1610, .aload_n 2, 1), (1611, .invokevirtual 175, 3), (1614, .lcmp, 1), (1615, .ifCond .eq 5, 3), (1618, .iconst 0, 1), (1619, .ireturn, 1), (1620, .iinc 4 3, 3), (1623, .goto (-1600), 3), (1626, .iconst 1, 1), (1627, .ireturn, 1)]
abbrev dp_E : Type := MethodName × ByteArray × Nat × Nat × Nat × Nat × Bool × List (Nat × Nat × Nat × Nat) × List dp_I × Nat × Nat
def dp_e0 : dp_E := (⟨"", "", ""⟩, ⟨#[]⟩, 0, 0, 0, 0, false, [], [], 0, 0)
def dp_mt0 : List dp_E := [(yX0_copyFrom, cX0_copyFrom, 2, 0, 0, 2, false, [], dp_t0, 0, 0),
  (yX0_wasSent, cX0_wasSent, 3, 0, 4, 3, false, [], dp_t1, 0, 0),
  (yX0_book, cX0_book, 4, 0, 0, 4, false, [], dp_t2, 0, 0),
  (yX0_growOlder, cX0_growOlder, 3, 0, 0, 2, false, [], dp_t3, 0, 0),
  (yX0_receivers, cX0_receivers, 4, 0, 1, 2, false, [], dp_t4, 0, 0),
  (yX0_sentInAll, cX0_sentInAll, 3, 0, 1, 1, false, [], dp_t5, 0, 0),
  (yX0_paidInAll, cX0_paidInAll, 3, 0, 1, 1, false, [], dp_t6, 0, 0),
  (yX1_placeOf, cX1_placeOf, 4, 1, 1, 3, false, [], dp_t7, 0, 0),
  (yX2_recount, cX2_recount, 2, 2, 0, 1, false, [], dp_t8, 0, 0),
  (yX2_recountArticle, cX2_recountArticle, 5, 2, 0, 2, false, [], dp_t9, 0, 0),
  (yX2_stemOfWord, cX2_stemOfWord, 2, 2, 1, 2, false, [], dp_t10, 0, 0),
  (yX2_rarityOf, cX2_rarityOf, 3, 2, 1, 2, false, [], dp_t11, 0, 0),
  (yX2_timesOf, cX2_timesOf, 3, 2, 1, 3, false, [], dp_t12, 0, 0),
  (yX2_scoreOf, cX2_scoreOf, 9, 2, 1, 5, false, [], dp_t13, 0, 0),
  (yX2_stemsOf, cX2_stemsOf, 4, 2, 1, 2, false, [], dp_t14, 0, 0),
  (yX2_stemsInAll, cX2_stemsInAll, 3, 2, 1, 1, false, [], dp_t15, 0, 0),
  (yX2_wordsInAll, cX2_wordsInAll, 3, 2, 1, 1, false, [], dp_t16, 0, 0),
  (yX2_shared, cX2_shared, 5, 2, 1, 3, false, [], dp_t17, 0, 0),
  (yX3_setStem, cX3_setStem, 4, 3, 1, 3, false, [], dp_t18, 2, 12),
  (yX3_print, cX3_print, 1, 3, 1, 1, false, [], dp_t19, 1, 6),
  (yX3_write, cX3_write, 4, 3, 1, 3, false, [], dp_t20, 3, 18),
  (yX3_strike, cX3_strike, 4, 3, 1, 3, false, [], dp_t21, 2, 12),
  (yX3_client, cX3_client, 3, 3, 1, 2, false, [], dp_t22, 2, 12),
  (yX3_want, cX3_want, 4, 3, 1, 3, false, [], dp_t23, 4, 24),
  (yX3_drop, cX3_drop, 4, 3, 1, 3, false, [], dp_t24, 3, 18),
  (yX3_setBar, cX3_setBar, 4, 3, 1, 3, false, [], dp_t25, 2, 12),
  (yX3_pay, cX3_pay, 3, 3, 1, 3, false, [], dp_t26, 2, 12),
  (yX3_send, cX3_send, 2, 3, 1, 2, false, [], dp_t27, 1, 6),
  (yX3_pass, cX3_pass, 3, 3, 1, 2, false, [], dp_t28, 1, 6),
  (yX3_told, cX3_told, 3, 3, 1, 3, false, [], dp_t29, 2, 12)]
def dp_mt1 : List dp_E := [(yX3_word, cX3_word, 3, 3, 1, 3, false, [], dp_t30, 2, 12),
  (yX3_about, cX3_about, 3, 3, 1, 3, false, [], dp_t31, 2, 12),
  (yX3_stem, cX3_stem, 3, 3, 1, 3, false, [], dp_t32, 2, 12),
  (yX3_count, cX3_count, 2, 3, 1, 2, false, [], dp_t33, 1, 6),
  (yX3_rarity, cX3_rarity, 2, 3, 1, 2, false, [], dp_t34, 1, 6),
  (yX3_score, cX3_score, 3, 3, 1, 3, false, [], dp_t35, 2, 12),
  (yX3_fit, cX3_fit, 3, 3, 1, 3, false, [], dp_t36, 2, 12),
  (yX3_alike, cX3_alike, 4, 3, 1, 3, false, [], dp_t37, 2, 12),
  (yX3_advise, cX3_advise, 6, 3, 1, 2, false, [], dp_t38, 1, 6),
  (yX3_foresee, cX3_foresee, 3, 3, 1, 3, false, [], dp_t39, 2, 12),
  (yX3_until, cX3_until, 2, 3, 1, 1, false, [], dp_t40, 0, 0),
  (yX3_mean, cX3_mean, 2, 3, 3, 1, false, [], dp_t41, 0, 0),
  (yX3_digest, cX3_digest, 4, 3, 2, 1, false, [], dp_t42, 0, 0),
  (yX3_mixArticle, cX3_mixArticle, 7, 3, 2, 3, false, [], dp_t43, 0, 0),
  (yX3_mixClient, cX3_mixClient, 7, 3, 2, 3, false, [], dp_t44, 0, 0),
  (yX3_mix, cX3_mix, 3, 3, 2, 2, true, [], dp_t45, 0, 0),
  (yX3_checkWord, cX3_checkWord, 1, 3, 0, 1, true, [], dp_t46, 1, 6),
  (yX3_checkStem, cX3_checkStem, 1, 3, 0, 1, true, [], dp_t47, 1, 6),
  (yX3_checkArticle, cX3_checkArticle, 2, 3, 0, 2, false, [], dp_t48, 1, 6),
  (yX3_checkClient, cX3_checkClient, 2, 3, 0, 2, false, [], dp_t49, 1, 6),
  (yX3_checkPlace, cX3_checkPlace, 2, 3, 0, 2, true, [], dp_t50, 1, 6),
  (yX3_checkWhat, cX3_checkWhat, 2, 3, 0, 2, true, [], dp_t51, 1, 6),
  (yX3_checkRounds, cX3_checkRounds, 1, 3, 0, 1, true, [], dp_t52, 1, 6),
  (yX3_tellOfArticle, cX3_tellOfArticle, 3, 3, 1, 3, false, [], dp_t53, 0, 0),
  (yX3_tellOfClient, cX3_tellOfClient, 3, 3, 1, 3, false, [], dp_t54, 0, 0),
  (yX3_tellOfAll, cX3_tellOfAll, 2, 3, 1, 2, false, [], dp_t55, 0, 0),
  (yX3_scoreFor, cX3_scoreFor, 4, 3, 1, 4, false, [], dp_t56, 0, 0),
  (yX3_isFit, cX3_isFit, 5, 3, 4, 5, false, [], dp_t57, 0, 0),
  (yX3_fitArticles, cX3_fitArticles, 5, 3, 1, 2, false, [], dp_t58, 0, 0),
  (yX3_bestFit, cX3_bestFit, 7, 3, 1, 3, false, [], dp_t59, 0, 0)]
def dp_mt2 : List dp_E := [(yX3_fitArticleAt, cX3_fitArticleAt, 5, 3, 1, 3, false, [], dp_t60, 0, 0),
  (yX3_fitArticlesAhead, cX3_fitArticlesAhead, 8, 3, 1, 4, false, [], dp_t61, 0, 0),
  (yX3_topScoreWith, cX3_topScoreWith, 7, 3, 1, 3, false, [], dp_t62, 0, 0),
  (yX3_priceFor, cX3_priceFor, 4, 3, 1, 4, false, [], dp_t63, 0, 0),
  (yX3_sendTo, cX3_sendTo, 5, 3, 1, 3, false, [], dp_t64, 0, 0),
  (yX3_playRounds, cX3_playRounds, 5, 3, 0, 3, false, [], dp_t65, 0, 0),
  (yX3_someoneIsShort, cX3_someoneIsShort, 4, 3, 4, 2, false, [], dp_t66, 0, 0),
  (yX3_removeAt, cX3_removeAt, 4, 3, 1, 3, true, [], dp_t67, 0, 0),
  (yX4_thrown, cX4_thrown, 1, 4, 1, 1, false, [], dp_t68, 0, 0),
  (yX4_fail, cX4_fail, 2, 4, 1, 2, false, [], dp_t69, 0, 0),
  (yX4_isIn, cX4_isIn, 3, 4, 4, 3, true, [], dp_t70, 0, 0),
  (yX4_isArticle, cX4_isArticle, 2, 4, 4, 2, false, [], dp_t71, 0, 0),
  (yX4_isClient, cX4_isClient, 2, 4, 4, 2, false, [], dp_t72, 0, 0),
  (yX4_isStem, cX4_isStem, 1, 4, 4, 1, true, [], dp_t73, 0, 0),
  (yX4_isWord, cX4_isWord, 1, 4, 4, 1, true, [], dp_t74, 0, 0),
  (yX4_ar, cX4_ar, 3, 4, 1, 3, false, [], dp_t75, 0, 0),
  (yX4_cl, cX4_cl, 3, 4, 1, 3, false, [], dp_t76, 0, 0),
  (yX4_put, cX4_put, 4, 4, 0, 4, false, [], dp_t77, 0, 0),
  (yX4_setStem, cX4_setStem, 4, 4, 1, 3, false, [], dp_t78, 0, 0),
  (yX4_print, cX4_print, 1, 4, 1, 1, false, [], dp_t79, 0, 0),
  (yX4_write, cX4_write, 4, 4, 1, 3, false, [], dp_t80, 0, 0),
  (yX4_strike, cX4_strike, 6, 4, 1, 3, false, [], dp_t81, 0, 0),
  (yX4_client, cX4_client, 2, 4, 1, 2, false, [], dp_t82, 0, 0),
  (yX4_wish, cX4_wish, 4, 4, 1, 3, false, [], dp_t83, 0, 0),
  (yX4_want, cX4_want, 4, 4, 1, 3, false, [], dp_t84, 0, 0),
  (yX4_drop, cX4_drop, 6, 4, 1, 3, false, [], dp_t85, 0, 0),
  (yX4_setBar, cX4_setBar, 4, 4, 1, 3, false, [], dp_t86, 0, 0),
  (yX4_pay, cX4_pay, 3, 4, 1, 3, false, [], dp_t87, 0, 0),
  (yX4_times, cX4_times, 5, 4, 1, 3, false, [], dp_t88, 0, 0),
  (yX4_rare, cX4_rare, 4, 4, 1, 2, false, [], dp_t89, 0, 0)]
def dp_mt3 : List dp_E := [(yX4_scored, cX4_scored, 8, 4, 1, 3, false, [], dp_t90, 0, 0),
  (yX4_isFit, cX4_isFit, 3, 4, 4, 3, false, [], dp_t91, 0, 0),
  (yX4_fitAt, cX4_fitAt, 6, 4, 1, 3, false, [], dp_t92, 0, 0),
  (yX4_fits, cX4_fits, 4, 4, 1, 2, false, [], dp_t93, 0, 0),
  (yX4_price, cX4_price, 3, 4, 1, 3, false, [], dp_t94, 0, 0),
  (yX4_sendTo, cX4_sendTo, 4, 4, 1, 2, false, [], dp_t95, 0, 0),
  (yX4_send, cX4_send, 2, 4, 1, 2, false, [], dp_t96, 0, 0),
  (yX4_roundOn, cX4_roundOn, 3, 4, 1, 1, false, [], dp_t97, 0, 0),
  (yX4_roundsOn, cX4_roundsOn, 4, 4, 1, 2, false, [], dp_t98, 0, 0),
  (yX4_pass, cX4_pass, 2, 4, 1, 2, false, [], dp_t99, 0, 0),
  (yX4_stemsOf, cX4_stemsOf, 4, 4, 1, 2, false, [], dp_t100, 0, 0),
  (yX4_sentTo, cX4_sentTo, 4, 4, 1, 2, false, [], dp_t101, 0, 0),
  (yX4_articleTold, cX4_articleTold, 3, 4, 1, 3, false, [], dp_t102, 0, 0),
  (yX4_told, cX4_told, 3, 4, 1, 3, false, [], dp_t103, 0, 0),
  (yX4_word, cX4_word, 3, 4, 1, 3, false, [], dp_t104, 0, 0),
  (yX4_sent, cX4_sent, 4, 4, 1, 2, false, [], dp_t105, 0, 0),
  (yX4_clientTold, cX4_clientTold, 3, 4, 1, 3, false, [], dp_t106, 0, 0),
  (yX4_about, cX4_about, 3, 4, 1, 3, false, [], dp_t107, 0, 0),
  (yX4_stem, cX4_stem, 3, 4, 1, 3, false, [], dp_t108, 0, 0),
  (yX4_counted, cX4_counted, 6, 4, 1, 2, false, [], dp_t109, 0, 0),
  (yX4_count, cX4_count, 2, 4, 1, 2, false, [], dp_t110, 0, 0),
  (yX4_rarity, cX4_rarity, 2, 4, 1, 2, false, [], dp_t111, 0, 0),
  (yX4_score, cX4_score, 3, 4, 1, 3, false, [], dp_t112, 0, 0),
  (yX4_fit, cX4_fit, 3, 4, 1, 3, false, [], dp_t113, 0, 0),
  (yX4_alike, cX4_alike, 6, 4, 1, 3, false, [], dp_t114, 0, 0),
  (yX4_advise, cX4_advise, 7, 4, 1, 2, false, [], dp_t115, 0, 0),
  (yX4_bringBack, cX4_bringBack, 4, 4, 0, 4, false, [], dp_t116, 0, 0),
  (yX4_foresee, cX4_foresee, 7, 4, 1, 3, false, [], dp_t117, 2, 448),
  (yX4_isShort, cX4_isShort, 2, 4, 4, 1, false, [], dp_t118, 0, 0),
  (yX4_until, cX4_until, 5, 4, 1, 1, false, [], dp_t119, 2, 448)]
def dp_mt4 : List dp_E := [(yX4_mean, cX4_mean, 1, 4, 3, 1, false, [], dp_t120, 0, 0),
  (yX4_digest, cX4_digest, 7, 4, 2, 1, false, [], dp_t121, 0, 0),
  (yJ6_bitCount_0f7a4, cJ6_bitCount_0f7a4, 1, 6, 1, 1, true, [], dp_t122, 0, 0),
  (yJ7_fill_53178, cJ7_fill_53178, 4, 7, 0, 2, true, [], dp_t123, 0, 0),
  (yL_setStem, cL_setStem, 5, 5, 1, 4, true, [(0, 10, 13, 13)], dp_t124, 2, 12),
  (yL_print, cL_print, 3, 5, 1, 2, true, [(0, 8, 11, 19)], dp_t125, 1, 6),
  (yL_write, cL_write, 5, 5, 1, 4, true, [(0, 10, 13, 13), (0, 10, 17, 19)], dp_t126, 3, 18),
  (yL_strike, cL_strike, 5, 5, 1, 4, true, [(0, 10, 13, 13)], dp_t127, 2, 12),
  (yL_client, cL_client, 4, 5, 1, 3, true, [(0, 9, 12, 31), (0, 9, 15, 19)], dp_t128, 2, 12),
  (yL_want, cL_want, 5, 5, 1, 4, true, [(0, 10, 13, 13), (0, 10, 17, 19)], dp_t129, 4, 24),
  (yL_drop, cL_drop, 5, 5, 1, 4, true, [(0, 10, 13, 13), (0, 10, 17, 19)], dp_t130, 3, 18),
  (yL_setBar, cL_setBar, 5, 5, 1, 4, true, [(0, 10, 13, 13), (0, 10, 17, 31)], dp_t131, 2, 12),
  (yL_pay, cL_pay, 5, 5, 1, 4, true, [(0, 10, 13, 13), (0, 10, 17, 31)], dp_t132, 2, 12),
  (yL_send, cL_send, 4, 5, 1, 3, true, [(0, 9, 12, 13)], dp_t133, 1, 6),
  (yL_pass, cL_pass, 4, 5, 1, 3, true, [(0, 9, 12, 31)], dp_t134, 1, 6),
  (yL_told, cL_told, 5, 5, 1, 4, true, [(0, 10, 13, 13)], dp_t135, 2, 12),
  (yL_word, cL_word, 5, 5, 1, 4, true, [(0, 10, 13, 13)], dp_t136, 2, 12),
  (yL_about, cL_about, 5, 5, 1, 4, true, [(0, 10, 13, 13)], dp_t137, 2, 12),
  (yL_stem, cL_stem, 5, 5, 1, 4, true, [(0, 10, 13, 13)], dp_t138, 2, 12),
  (yL_count, cL_count, 4, 5, 1, 3, true, [(0, 9, 12, 13)], dp_t139, 1, 6),
  (yL_rarity, cL_rarity, 4, 5, 1, 3, true, [(0, 9, 12, 13)], dp_t140, 1, 6),
  (yL_score, cL_score, 5, 5, 1, 4, true, [(0, 10, 13, 13)], dp_t141, 2, 12),
  (yL_fit, cL_fit, 5, 5, 1, 4, true, [(0, 10, 13, 13)], dp_t142, 2, 12),
  (yL_alike, cL_alike, 5, 5, 1, 4, true, [(0, 10, 13, 13)], dp_t143, 2, 12),
  (yL_advise, cL_advise, 4, 5, 1, 3, true, [(0, 9, 12, 13)], dp_t144, 1, 6),
  (yL_foresee, cL_foresee, 5, 5, 1, 4, true, [(0, 10, 13, 31), (0, 10, 17, 13)], dp_t145, 2, 12),
  (yL_law, cL_law, 9, 5, 4, 1, true, [], dp_t146, 601024, 7293034)]
def dp_mt : List dp_E := dp_mt0 ++ (dp_mt1 ++ (dp_mt2 ++ (dp_mt3 ++ (dp_mt4))))
def dp_owns : List String := [RX0, RX1, RX2, RX3, RX4, RL, RJ6, RJ7]
def dp_fl : List (Nat × Nat × Nat × Nat) := [(2, 9, 2, 0), (3, 44, 2, 0), (2, 17, 2, 1), (3, 69, 2, 1), (2, 20, 2, 2), (3, 64, 2, 2), (2, 23, 2, 3), (2, 26, 2, 4), (2, 35, 2, 5), (3, 50, 2, 5), (1, 11, 1, 0), (3, 108, 1, 0), (1, 16, 1, 1), (3, 97, 1, 1), (1, 20, 1, 2), (3, 115, 1, 2), (3, 86, 1, 3), (0, 9, 0, 0), (3, 217, 0, 0), (0, 15, 0, 1), (3, 91, 0, 1), (0, 18, 0, 2), (3, 231, 0, 2), (0, 21, 0, 3), (3, 223, 0, 3), (0, 30, 0, 4), (3, 240, 0, 4), (3, 10, 3, 0), (3, 19, 3, 1), (3, 26, 3, 2), (3, 30, 3, 3), (3, 33, 3, 4), (4, 19, 4, 0), (4, 23, 4, 1), (4, 30, 4, 2), (4, 100, 4, 3), (4, 9, 4, 4), (4, 13, 4, 5), (4, 16, 4, 6)]
def dp_ml : List (Nat × Nat × Nat) := [(1, 23, 123), (5, 162, 40), (3, 172, 0), (3, 176, 66), (3, 268, 59), (3, 156, 56), (3, 243, 13), (2, 47, 12), (2, 56, 11), (3, 251, 57), (3, 247, 1), (3, 271, 63), (3, 136, 65), (3, 125, 64), (3, 274, 2), (3, 278, 3), (5, 166, 41), (3, 132, 5), (0, 38, 122), (3, 180, 6), (5, 171, 42), (3, 149, 55), (3, 234, 16), (3, 237, 15), (3, 185, 45), (3, 189, 43), (3, 143, 53), (3, 214, 14), (3, 220, 4), (0, 34, 1), (3, 192, 44), (3, 146, 54), (3, 226, 122), (3, 160, 58), (5, 88, 124), (5, 7, 18), (3, 37, 46), (3, 41, 47), (3, 47, 8), (2, 29, 123), (2, 39, 9), (2, 43, 10), (5, 97, 125), (5, 15, 19), (5, 101, 126), (5, 21, 20), (3, 61, 48), (5, 104, 127), (5, 24, 21), (3, 73, 50), (3, 77, 67), (5, 107, 128), (5, 27, 22), (5, 111, 129), (5, 33, 23), (3, 94, 49), (3, 102, 7), (5, 114, 130), (5, 36, 24), (5, 117, 131), (5, 39, 25), (5, 120, 132), (5, 42, 26), (5, 123, 133), (5, 45, 27), (5, 126, 134), (5, 48, 28), (3, 129, 52), (5, 129, 135), (5, 51, 29), (3, 140, 51), (5, 132, 136), (5, 54, 30), (5, 135, 137), (5, 57, 31), (5, 138, 138), (5, 60, 32), (5, 141, 139), (5, 63, 33), (5, 144, 140), (5, 66, 34), (3, 153, 11), (5, 147, 141), (5, 69, 35), (5, 150, 142), (5, 72, 36), (3, 163, 60), (3, 255, 61), (5, 153, 143), (5, 75, 37), (3, 166, 17), (5, 156, 144), (5, 78, 38), (3, 169, 62), (5, 159, 145), (5, 81, 39), (5, 94, 68), (5, 93, 78), (4, 33, 74), (4, 26, 70), (4, 37, 73), (4, 40, 69), (5, 100, 79), (5, 103, 80), (4, 44, 71), (4, 47, 75), (5, 106, 81), (5, 110, 82), (4, 57, 77), (5, 113, 84), (4, 64, 72), (4, 61, 76), (4, 67, 83), (5, 116, 85), (5, 119, 86), (5, 122, 87), (5, 125, 96), (4, 97, 95), (4, 91, 92), (4, 87, 91), (4, 84, 90), (4, 75, 88), (4, 78, 89), (4, 94, 94), (5, 128, 99), (4, 107, 98), (4, 103, 97), (5, 131, 103), (4, 116, 102), (4, 110, 100), (4, 113, 101), (5, 134, 104), (5, 137, 107), (4, 125, 106), (4, 119, 105), (4, 122, 93), (5, 140, 108), (5, 143, 110), (4, 128, 109), (5, 146, 111), (5, 149, 112), (5, 152, 113), (5, 155, 114), (5, 158, 115), (5, 161, 117), (4, 136, 116), (5, 165, 119), (4, 140, 118), (5, 170, 120), (5, 175, 121)]
def dp_nl : List (Nat × Nat × Nat) := [(0, 24, 202), (2, 51, 200), (2, 59, 201), (3, 120, 200), (3, 259, 202), (3, 265, 201), (4, 51, 202), (4, 70, 200), (4, 81, 201), (4, 131, 203)]
def dp_cl : List (Nat × Nat × Int64) := [(3, 183, 1451), (3, 195, 31), (4, 144, 1451), (4, 146, 31)]
def dp_ci : List (Nat × Nat × Int32) := [(6, 265, 1431655765), (6, 266, 858993459), (6, 267, 252645135)]
def dp_st : List (Nat × Nat × String) := [(3, 199, "words are 0 to 39"), (3, 202, "stems are 0 to 19"), (3, 56, "there are 16 articles"), (3, 204, "no such article"), (3, 67, "the article has 12 words"), (3, 208, "no such place"), (3, 83, "coins are 0 to 999"), (3, 89, "there are 6 clients"), (3, 206, "no such client"), (3, 100, "the client wants 5 stems"), (3, 106, "the client wants this stem already"), (3, 111, "the client does not want this stem"), (3, 113, "a bar is 0 to 999"), (3, 118, "coins to pay are 1 to 999"), (3, 212, "rounds are 1 to 30"), (3, 210, "nothing is told under this number")]
def dp_x0 : List Cond := [.static Lib.Math.min.name, .initialized "java/lang/Math", .code Lib.Math.min.name Lib.Math.min.code 2 (some .int), .static Lib.Math.max.name, .code Lib.Math.max.name Lib.Math.max.code 2 (some .int), .native arraycopyName, .static arraycopyName, .initialized "java/lang/System", .sameMethod "[I" "java/lang/Object" "clone" "()Ljava/lang/Object;", .native ⟨"java/lang/Object", "clone", "()Ljava/lang/Object;"⟩, .instanceMethod ⟨"java/lang/Object", "clone", "()Ljava/lang/Object;"⟩, .selects "[I" ⟨"[I", "clone", "()Ljava/lang/Object;"⟩ ⟨"java/lang/Object", "clone", "()Ljava/lang/Object;"⟩, .classLink RX4 132 "[I"]
def dp_x1 : List Cond := [.classLink RX3 197 "java/lang/IndexOutOfBoundsException", .initialized "java/lang/IndexOutOfBoundsException", .classLink RL 13 "java/lang/IndexOutOfBoundsException", .classLink RX3 54 "java/lang/IllegalStateException", .initialized "java/lang/IllegalStateException", .classLink RL 19 "java/lang/IllegalStateException", .classLink RX3 81 "java/lang/IllegalArgumentException", .initialized "java/lang/IllegalArgumentException", .classLink RL 31 "java/lang/IllegalArgumentException"]
def dp_nam : List String := ["java/lang/RuntimeException", "java/lang/Exception"]
def dp_exn : Nat → String
  | 0 => "java/lang/IndexOutOfBoundsException"
  | 1 => "java/lang/IllegalStateException"
  | _ => "java/lang/IllegalArgumentException"
def dp_exk : Nat → Nat
  | 0 => 197
  | 1 => 54
  | _ => 81
def dp_exc : Nat → Nat
  | 0 => 201
  | 1 => 58
  | _ => 85
def dp_x2 : List Cond := ((vx_atS RX3 (dp_exc 0) (dp_exn 0) dp_nam).filter goodWord) ++ (((vx_atS RX3 (dp_exc 1) (dp_exn 1) dp_nam).filter goodWord) ++ ((vx_atS RX3 (dp_exc 2) (dp_exn 2) dp_nam).filter goodWord))
def dp_o (k : Nat) : String := dp_owns.getD k ""
def dp_e (y : Nat) : dp_E := dp_mt.getD y dp_e0
def dp_nm (y : Nat) : MethodName := (dp_e y).1
def dp_by (y : Nat) : ByteArray := (dp_e y).2.1
def dp_mL (y : Nat) : Nat := (dp_e y).2.2.1
def dp_ow (y : Nat) : Nat := (dp_e y).2.2.2.1
def dp_rk (y : Nat) : Nat := (dp_e y).2.2.2.2.1
def dp_na (y : Nat) : Nat := (dp_e y).2.2.2.2.2.1
def dp_sta (y : Nat) : Bool := (dp_e y).2.2.2.2.2.2.1
def dp_hh (y : Nat) : List (Nat × Nat × Nat × Nat) := (dp_e y).2.2.2.2.2.2.2.1
def dp_tl (y : Nat) : List dp_I := (dp_e y).2.2.2.2.2.2.2.2.1
def dp_mc (y : Nat) : Nat := (dp_e y).2.2.2.2.2.2.2.2.2.1
def dp_ms (y : Nat) : Nat := (dp_e y).2.2.2.2.2.2.2.2.2.2
def dp_rt (y : Nat) : Option FieldType := match dp_rk y with
  | 0 => none
  | 1 => some .int
  | 2 => some .long
  | 3 => some .double
  | _ => some .boolean
def dp_lk : List dp_I → Nat → Jvm.ClassFile.Instr × Nat
  | [], _ => (.nop, 0)
  | (a, i) :: t, pc => if a = pc then i else dp_lk t pc
def dp_tab (y pc : Nat) : Jvm.ClassFile.Instr × Nat := dp_lk (dp_tl y) pc
def dp_TT (ci k : Nat) : String × String × String × Bool := (vwCl.getD ci (RX0, TX0, 5)).2.1 k
def dp_codeW (y : Nat) : Cond := if (dp_hh y).isEmpty then .code (dp_nm y) (dp_by y) (dp_mL y) (dp_rt y) else .codeWith (dp_nm y) (dp_by y) (dp_mL y) (dp_rt y) (dp_hh y)
def dp_kindW (y : Nat) : Cond := if dp_sta y then .static (dp_nm y) else .instanceMethod (dp_nm y)
def dp_selW (y : Nat) : Cond := .selects (dp_nm y).cls (dp_nm y) (dp_nm y)
def dp_linkW (e : Nat × Nat × Nat) : Cond := .methodLink (dp_o e.1) e.2.1 (dp_nm e.2.2)
def dp_natN : Nat → MethodName
  | 200 => Lib.Math.min.name
  | 201 => Lib.Math.max.name
  | 202 => arraycopyName
  | _ => ⟨"[I", "clone", "()Ljava/lang/Object;"⟩
def dp_linkN (e : Nat × Nat × Nat) : Cond := .methodLink (dp_o e.1) e.2.1 (dp_natN e.2.2)
def dp_fieldW (e : Nat × Nat × Nat × Nat) : Cond := .fieldLink (dp_o e.1) e.2.1 (dp_TT e.2.2.1 e.2.2.2).1 (dp_TT e.2.2.1 e.2.2.2).2.1 (dp_TT e.2.2.1 e.2.2.2).2.2.1
def dp_ids : List Nat := List.range 146
def dp_vids : List Nat := [0, 1, 2, 3, 4, 5, 6, 7, 8, 9, 10, 11, 12, 13, 14, 15, 16, 17, 18, 19, 20, 21, 22, 23, 24, 25, 26, 27, 28, 29, 30, 31, 32, 33, 34, 35, 36, 37, 38, 39, 40, 41, 42, 43, 44, 48, 49, 53, 54, 55, 56, 57, 58, 59, 60, 61, 62, 63, 64, 65, 66, 68, 69, 71, 72, 75, 76, 77, 78, 79, 80, 81, 82, 83, 84, 85, 86, 87, 88, 89, 90, 91, 92, 93, 94, 95, 96, 97, 98, 99, 100, 101, 102, 103, 104, 105, 106, 107, 108, 109, 110, 111, 112, 113, 114, 115, 116, 117, 118, 119, 120, 121]
def dp_n1 : List Cond := dp_ids.map dp_kindW ++ (dp_ml.map dp_linkW ++ dp_nl.map dp_linkN)
def dp_n2 : List Cond := dp_fl.map dp_fieldW ++ (dp_vids.map dp_selW ++ (dp_owns.map Cond.initialized ++ (wsX00 ++ (wsX10 ++ (wsX20 ++ (wsX30 ++ wsX40))))))
def dp_n3 : List Cond := dp_cl.map (fun e => Cond.constantLong (dp_o e.1) e.2.1 e.2.2) ++ (dp_ci.map (fun e => Cond.constant (dp_o e.1) e.2.1 e.2.2) ++ (dp_x0 ++ dp_x1))
def dp_cw0 : List Cond := [.code yX0_copyFrom cX0_copyFrom 2 none, .code yX0_wasSent cX0_wasSent 3 (some .boolean), .code yX0_book cX0_book 4 none, .code yX0_growOlder cX0_growOlder 3 none, .code yX0_receivers cX0_receivers 4 (some .int), .code yX0_sentInAll cX0_sentInAll 3 (some .int), .code yX0_paidInAll cX0_paidInAll 3 (some .int), .code yX1_placeOf cX1_placeOf 4 (some .int), .code yX2_recount cX2_recount 2 none, .code yX2_recountArticle cX2_recountArticle 5 none, .code yX2_stemOfWord cX2_stemOfWord 2 (some .int), .code yX2_rarityOf cX2_rarityOf 3 (some .int), .code yX2_timesOf cX2_timesOf 3 (some .int), .code yX2_scoreOf cX2_scoreOf 9 (some .int), .code yX2_stemsOf cX2_stemsOf 4 (some .int), .code yX2_stemsInAll cX2_stemsInAll 3 (some .int), .code yX2_wordsInAll cX2_wordsInAll 3 (some .int), .code yX2_shared cX2_shared 5 (some .int), .code yX3_setStem cX3_setStem 4 (some .int), .code yX3_print cX3_print 1 (some .int), .code yX3_write cX3_write 4 (some .int), .code yX3_strike cX3_strike 4 (some .int), .code yX3_client cX3_client 3 (some .int), .code yX3_want cX3_want 4 (some .int), .code yX3_drop cX3_drop 4 (some .int)]
set_option maxRecDepth 100000 in
set_option maxHeartbeats 4000000 in
theorem dp_cw0_in : dp_cw0 = ([178, 219, 235, 239, 294, 247, 257, 497, 395, 400, 404, 208, 201, 197, 290, 274, 270, 621, 316, 412, 435, 448, 463, 487, 505] : List Nat).filterMap (fun i => lw_tbl[i]?) := rfl
set_option maxRecDepth 100000 in
set_option maxHeartbeats 4000000 in
theorem dp_cw0_is : (List.range' 0 25).map dp_codeW = dp_cw0 := rfl
set_option maxRecDepth 100000 in
theorem dp_cw0_good : dp_cw0.all goodWord = true := by decide +kernel
def dp_cw1 : List Cond := [.code yX3_setBar cX3_setBar 4 (some .int), .code yX3_pay cX3_pay 3 (some .int), .code yX3_send cX3_send 2 (some .int), .code yX3_pass cX3_pass 3 (some .int), .code yX3_told cX3_told 3 (some .int), .code yX3_word cX3_word 3 (some .int), .code yX3_about cX3_about 3 (some .int), .code yX3_stem cX3_stem 3 (some .int), .code yX3_count cX3_count 2 (some .int), .code yX3_rarity cX3_rarity 2 (some .int), .code yX3_score cX3_score 3 (some .int), .code yX3_fit cX3_fit 3 (some .int), .code yX3_alike cX3_alike 4 (some .int), .code yX3_advise cX3_advise 6 (some .int), .code yX3_foresee cX3_foresee 3 (some .int), .code yX3_until cX3_until 2 (some .int), .code yX3_mean cX3_mean 2 (some .double), .code yX3_digest cX3_digest 4 (some .long), .code yX3_mixArticle cX3_mixArticle 7 (some .long), .code yX3_mixClient cX3_mixClient 7 (some .long), .code yX3_mix cX3_mix 3 (some .long), .code yX3_checkWord cX3_checkWord 1 none, .code yX3_checkStem cX3_checkStem 1 none, .code yX3_checkArticle cX3_checkArticle 2 none, .code yX3_checkClient cX3_checkClient 2 none]
set_option maxRecDepth 100000 in
set_option maxHeartbeats 4000000 in
theorem dp_cw1_in : dp_cw1 = ([513, 521, 530, 537, 548, 559, 566, 573, 580, 587, 595, 602, 617, 628, 641, 174, 243, 261, 282, 299, 277, 319, 390, 439, 491] : List Nat).filterMap (fun i => lw_tbl[i]?) := rfl
set_option maxRecDepth 100000 in
set_option maxHeartbeats 4000000 in
theorem dp_cw1_is : (List.range' 25 25).map dp_codeW = dp_cw1 := rfl
set_option maxRecDepth 100000 in
theorem dp_cw1_good : dp_cw1.all goodWord = true := by decide +kernel
def dp_cw2 : List Cond := [.code yX3_checkPlace cX3_checkPlace 2 none, .code yX3_checkWhat cX3_checkWhat 2 none, .code yX3_checkRounds cX3_checkRounds 1 none, .code yX3_tellOfArticle cX3_tellOfArticle 3 (some .int), .code yX3_tellOfClient cX3_tellOfClient 3 (some .int), .code yX3_tellOfAll cX3_tellOfAll 2 (some .int), .code yX3_scoreFor cX3_scoreFor 4 (some .int), .code yX3_isFit cX3_isFit 5 (some .boolean), .code yX3_fitArticles cX3_fitArticles 5 (some .int), .code yX3_bestFit cX3_bestFit 7 (some .int), .code yX3_fitArticleAt cX3_fitArticleAt 5 (some .int), .code yX3_fitArticlesAhead cX3_fitArticlesAhead 8 (some .int), .code yX3_topScoreWith cX3_topScoreWith 7 (some .int), .code yX3_priceFor cX3_priceFor 4 (some .int), .code yX3_sendTo cX3_sendTo 5 (some .int), .code yX3_playRounds cX3_playRounds 5 none, .code yX3_someoneIsShort cX3_someoneIsShort 4 (some .boolean), .code yX3_removeAt cX3_removeAt 4 (some .int), .code yX4_thrown cX4_thrown 1 (some .int), .code yX4_fail cX4_fail 2 (some .int), .code yX4_isIn cX4_isIn 3 (some .boolean), .code yX4_isArticle cX4_isArticle 2 (some .boolean), .code yX4_isClient cX4_isClient 2 (some .boolean), .code yX4_isStem cX4_isStem 1 (some .boolean), .code yX4_isWord cX4_isWord 1 (some .boolean)]
set_option maxRecDepth 100000 in
set_option maxHeartbeats 4000000 in
theorem dp_cw2_in : dp_cw2 = ([451, 551, 540, 286, 303, 266, 193, 215, 308, 189, 606, 610, 632, 223, 231, 227, 185, 455, 673, 690, 683, 702, 727, 686, 680] : List Nat).filterMap (fun i => lw_tbl[i]?) := rfl
set_option maxRecDepth 100000 in
set_option maxHeartbeats 4000000 in
theorem dp_cw2_is : (List.range' 50 25).map dp_codeW = dp_cw2 := rfl
set_option maxRecDepth 100000 in
theorem dp_cw2_good : dp_cw2.all goodWord = true := by decide +kernel
def dp_cw3 : List Cond := [.code yX4_ar cX4_ar 3 (some .int), .code yX4_cl cX4_cl 3 (some .int), .code yX4_put cX4_put 4 none, .code yX4_setStem cX4_setStem 4 (some .int), .code yX4_print cX4_print 1 (some .int), .code yX4_write cX4_write 4 (some .int), .code yX4_strike cX4_strike 6 (some .int), .code yX4_client cX4_client 2 (some .int), .code yX4_wish cX4_wish 4 (some .int), .code yX4_want cX4_want 4 (some .int), .code yX4_drop cX4_drop 6 (some .int), .code yX4_setBar cX4_setBar 4 (some .int), .code yX4_pay cX4_pay 3 (some .int), .code yX4_times cX4_times 5 (some .int), .code yX4_rare cX4_rare 4 (some .int), .code yX4_scored cX4_scored 8 (some .int), .code yX4_isFit cX4_isFit 3 (some .boolean), .code yX4_fitAt cX4_fitAt 6 (some .int), .code yX4_fits cX4_fits 4 (some .int), .code yX4_price cX4_price 3 (some .int), .code yX4_sendTo cX4_sendTo 4 (some .int), .code yX4_send cX4_send 2 (some .int), .code yX4_roundOn cX4_roundOn 3 (some .int), .code yX4_roundsOn cX4_roundsOn 4 (some .int), .code yX4_pass cX4_pass 2 (some .int)]
set_option maxRecDepth 100000 in
set_option maxHeartbeats 4000000 in
theorem dp_cw3_in : dp_cw3 = ([706, 731, 719, 677, 694, 698, 710, 715, 735, 723, 739, 743, 747, 772, 776, 768, 764, 760, 829, 781, 756, 752, 793, 789, 785] : List Nat).filterMap (fun i => lw_tbl[i]?) := rfl
set_option maxRecDepth 100000 in
set_option maxHeartbeats 4000000 in
theorem dp_cw3_is : (List.range' 75 25).map dp_codeW = dp_cw3 := rfl
set_option maxRecDepth 100000 in
theorem dp_cw3_good : dp_cw3.all goodWord = true := by decide +kernel
def dp_cw4 : List Cond := [.code yX4_stemsOf cX4_stemsOf 4 (some .int), .code yX4_sentTo cX4_sentTo 4 (some .int), .code yX4_articleTold cX4_articleTold 3 (some .int), .code yX4_told cX4_told 3 (some .int), .code yX4_word cX4_word 3 (some .int), .code yX4_sent cX4_sent 4 (some .int), .code yX4_clientTold cX4_clientTold 3 (some .int), .code yX4_about cX4_about 3 (some .int), .code yX4_stem cX4_stem 3 (some .int), .code yX4_counted cX4_counted 6 (some .int), .code yX4_count cX4_count 2 (some .int), .code yX4_rarity cX4_rarity 2 (some .int), .code yX4_score cX4_score 3 (some .int), .code yX4_fit cX4_fit 3 (some .int), .code yX4_alike cX4_alike 6 (some .int), .code yX4_advise cX4_advise 7 (some .int), .code yX4_bringBack cX4_bringBack 4 none, .code yX4_foresee cX4_foresee 7 (some .int), .code yX4_isShort cX4_isShort 2 (some .boolean), .code yX4_until cX4_until 5 (some .int), .code yX4_mean cX4_mean 1 (some .double), .code yX4_digest cX4_digest 7 (some .long), .code yJ6_bitCount_0f7a4 cJ6_bitCount_0f7a4 1 (some .int), .code yJ7_fill_53178 cJ7_fill_53178 4 none, .codeWith yL_setStem cL_setStem 5 (some .int) [(0, 10, 13, 13)]]
set_option maxRecDepth 100000 in
set_option maxHeartbeats 4000000 in
theorem dp_cw4_in : dp_cw4 = ([805, 809, 801, 797, 813, 825, 821, 817, 833, 841, 837, 845, 849, 853, 857, 861, 876, 865, 884, 880, 888, 892, 250, 111, 311] : List Nat).filterMap (fun i => lw_tbl[i]?) := rfl
set_option maxRecDepth 100000 in
set_option maxHeartbeats 4000000 in
theorem dp_cw4_is : (List.range' 100 25).map dp_codeW = dp_cw4 := rfl
set_option maxRecDepth 100000 in
theorem dp_cw4_good : dp_cw4.all goodWord = true := by decide +kernel
def dp_cw5 : List Cond := [.codeWith yL_print cL_print 3 (some .int) [(0, 8, 11, 19)], .codeWith yL_write cL_write 5 (some .int) [(0, 10, 13, 13), (0, 10, 17, 19)], .codeWith yL_strike cL_strike 5 (some .int) [(0, 10, 13, 13)], .codeWith yL_client cL_client 4 (some .int) [(0, 9, 12, 31), (0, 9, 15, 19)], .codeWith yL_want cL_want 5 (some .int) [(0, 10, 13, 13), (0, 10, 17, 19)], .codeWith yL_drop cL_drop 5 (some .int) [(0, 10, 13, 13), (0, 10, 17, 19)], .codeWith yL_setBar cL_setBar 5 (some .int) [(0, 10, 13, 13), (0, 10, 17, 31)], .codeWith yL_pay cL_pay 5 (some .int) [(0, 10, 13, 13), (0, 10, 17, 31)], .codeWith yL_send cL_send 4 (some .int) [(0, 9, 12, 13)], .codeWith yL_pass cL_pass 4 (some .int) [(0, 9, 12, 31)], .codeWith yL_told cL_told 5 (some .int) [(0, 10, 13, 13)], .codeWith yL_word cL_word 5 (some .int) [(0, 10, 13, 13)], .codeWith yL_about cL_about 5 (some .int) [(0, 10, 13, 13)], .codeWith yL_stem cL_stem 5 (some .int) [(0, 10, 13, 13)], .codeWith yL_count cL_count 4 (some .int) [(0, 9, 12, 13)], .codeWith yL_rarity cL_rarity 4 (some .int) [(0, 9, 12, 13)], .codeWith yL_score cL_score 5 (some .int) [(0, 10, 13, 13)], .codeWith yL_fit cL_fit 5 (some .int) [(0, 10, 13, 13)], .codeWith yL_alike cL_alike 5 (some .int) [(0, 10, 13, 13)], .codeWith yL_advise cL_advise 4 (some .int) [(0, 9, 12, 13)], .codeWith yL_foresee cL_foresee 5 (some .int) [(0, 10, 13, 31), (0, 10, 17, 13)]]
set_option maxRecDepth 100000 in
set_option maxHeartbeats 4000000 in
theorem dp_cw5_in : dp_cw5 = ([407, 431, 444, 458, 483, 501, 509, 517, 526, 533, 544, 555, 562, 569, 576, 583, 591, 598, 613, 624, 637] : List Nat).filterMap (fun i => lw_tbl[i]?) := rfl
set_option maxRecDepth 100000 in
set_option maxHeartbeats 4000000 in
theorem dp_cw5_is : (List.range' 125 21).map dp_codeW = dp_cw5 := rfl
set_option maxRecDepth 100000 in
theorem dp_cw5_good : dp_cw5.all goodWord = true := by decide +kernel
set_option maxRecDepth 100000 in
set_option maxHeartbeats 4000000 in
theorem dp_n1_in : dp_n1 = ([176, 217, 233, 237, 292, 245, 255, 495, 393, 399, 403, 206, 199, 195, 288, 272, 268, 619, 314, 410, 433, 446, 461, 485, 503, 511, 519, 528, 535, 546, 557, 564, 571, 578, 585, 593, 600, 615, 626, 639, 172, 241, 259, 281, 298, 276, 318, 389, 438, 490, 450, 550, 539, 285, 302, 265, 192, 214, 307, 188, 605, 609, 631, 222, 230, 226, 184, 454, 671, 689, 682, 701, 726, 685, 679, 705, 730, 718, 675, 692, 696, 708, 713, 734, 721, 737, 741, 745, 771, 775, 767, 763, 759, 828, 780, 755, 750, 792, 788, 783, 804, 808, 800, 795, 811, 824, 820, 815, 831, 840, 835, 843, 847, 851, 855, 859, 875, 863, 883, 878, 886, 890, 249, 110, 310, 406, 430, 443, 457, 482, 500, 508, 516, 525, 532, 543, 554, 561, 568, 575, 582, 590, 597, 612, 623, 636, 109, 171, 175, 182, 186, 190, 194, 198, 205, 212, 216, 220, 224, 228, 232, 236, 240, 244, 248, 254, 258, 263, 267, 271, 275, 279, 283, 287, 291, 295, 296, 300, 304, 305, 309, 313, 317, 388, 392, 396, 397, 401, 405, 409, 429, 432, 436, 442, 445, 449, 453, 456, 460, 481, 484, 488, 494, 499, 502, 507, 510, 515, 518, 524, 527, 531, 534, 538, 542, 545, 549, 553, 556, 560, 563, 567, 570, 574, 577, 581, 584, 588, 589, 592, 596, 599, 603, 607, 611, 614, 618, 622, 625, 629, 635, 638, 670, 674, 678, 681, 684, 687, 691, 695, 699, 703, 707, 712, 716, 720, 724, 728, 732, 736, 740, 744, 749, 753, 757, 761, 765, 769, 773, 778, 782, 786, 790, 794, 798, 802, 806, 810, 814, 818, 822, 826, 830, 834, 838, 842, 846, 850, 854, 858, 862, 873, 877, 881, 885, 889, 179, 202, 209, 523, 633, 634, 711, 748, 777, 866] : List Nat).filterMap (fun i => lw_tbl[i]?) := by decide +kernel
set_option maxRecDepth 100000 in
theorem dp_n1_good : dp_n1.all goodWord = true := by decide +kernel
set_option maxRecDepth 100000 in
set_option maxHeartbeats 4000000 in
theorem dp_n2_in : dp_n2 = ([78, 79, 80, 81, 82, 83, 84, 85, 86, 87, 112, 113, 114, 115, 116, 117, 118, 134, 135, 136, 137, 138, 139, 140, 141, 142, 143, 155, 156, 157, 158, 159, 648, 649, 650, 651, 652, 653, 654, 177, 218, 234, 238, 293, 246, 256, 496, 394, 14, 15, 207, 200, 196, 289, 273, 269, 620, 315, 411, 434, 447, 462, 486, 504, 512, 520, 529, 536, 547, 558, 565, 572, 579, 586, 594, 601, 616, 627, 640, 173, 242, 260, 8, 10, 16, 17, 9, 11, 7, 2, 3, 12, 1, 18, 19, 20, 4, 6, 5, 0, 672, 21, 22, 25, 23, 26, 24, 676, 693, 697, 709, 714, 27, 722, 738, 742, 746, 32, 33, 31, 30, 29, 42, 34, 28, 751, 36, 35, 784, 38, 39, 37, 796, 812, 41, 40, 816, 832, 43, 836, 844, 848, 852, 856, 860, 44, 864, 45, 879, 887, 891, 51, 49, 48, 47, 52, 46, 61, 50, 144, 146, 148, 150, 152, 119, 121, 123, 125, 88, 90, 92, 94, 96, 98, 160, 162, 164, 166, 168, 655, 657, 659, 661, 663, 665, 667] : List Nat).filterMap (fun i => lw_tbl[i]?) := by decide +kernel
set_option maxRecDepth 100000 in
theorem dp_n2_good : dp_n2.all goodWord = true := by decide +kernel
set_option maxRecDepth 100000 in
set_option maxHeartbeats 4000000 in
theorem dp_n3_in : dp_n3 = ([262, 278, 893, 894, 251, 252, 253, 203, 60, 204, 210, 211, 181, 180, 58, 867, 868, 869, 870, 872, 320, 56, 312, 413, 57, 408, 464, 59, 459] : List Nat).filterMap (fun i => lw_tbl[i]?) := rfl
set_option maxRecDepth 100000 in
theorem dp_n3_good : dp_n3.all goodWord = true := by decide +kernel
set_option maxRecDepth 100000 in
set_option maxHeartbeats 4000000 in
theorem dp_x2_in : dp_x2 = ([53, 342, 351, 355, 358, 360, 343, 344, 68, 69, 345, 350, 356, 376, 332, 377, 334, 378, 336, 346, 348, 338, 372, 373, 375, 338, 363, 364, 365, 366, 366, 367, 368, 369, 369, 370, 371, 372, 362, 321, 329, 330, 331, 333, 335, 337, 341, 340, 339, 53, 342, 351, 355, 358, 360, 343, 344, 68, 69, 345, 350, 356, 376, 332, 377, 334, 378, 336, 346, 348, 338, 372, 373, 375, 338, 424, 425, 426, 366, 366, 367, 368, 369, 369, 370, 371, 372, 423, 414, 416, 354, 417, 418, 419, 420, 341, 340, 421, 53, 342, 351, 355, 358, 360, 343, 344, 68, 69, 345, 350, 356, 376, 332, 377, 334, 378, 336, 346, 348, 338, 372, 373, 375, 338, 475, 476, 477, 366, 366, 367, 368, 369, 369, 370, 371, 372, 474, 465, 467, 353, 468, 469, 470, 471, 341, 340, 472] : List Nat).filterMap (fun i => lw_tbl[i]?) := rfl
set_option maxRecDepth 100000 in
theorem dp_x2_good : dp_x2.all goodWord = true := by decide +kernel
end
section
/-! What the tables say of the code, by the kernel. -/
def dp_il : Jvm.ClassFile.Instr → Nat
  | .aload _ | .iload _ | .lload _ | .dload _ | .istore _ | .astore _ | .lstore _ | .dstore _ | .bipush _ | .ldc _ | .newarray _ => 2
  | .sipush _ | .ldc_w _ | .ldc2_w _ | .iinc _ _ | .ifCond _ _ | .if_icmp _ _ | .goto _ | .getfield _ | .putfield _ | .invokevirtual _ | .invokestatic _ | .invokespecial _ | .new _ | .checkcast _ => 3
  | _ => 1
def dp_ec : Nat → Nat
  | 197 => 0
  | 54 => 1
  | 81 => 2
  | _ => 99
def dp_npat (tl : List dp_I) (pc i : Nat) : Bool :=
  decide (dp_lk tl (pc + 3) = (.dup, 1)) && (match dp_lk tl (pc + 4) with
    | (.ldc is, 2) => dp_st.any (fun e => e.1 == 3 && e.2.1 == is)
    | _ => false) && decide (dp_lk tl (pc + 6) = (.invokespecial (dp_exc (dp_ec i)), 3)) && decide (dp_lk tl (pc + 9) = (.athrow, 1))
def dp_jok (tl : List dp_I) (mL pc : Nat) : Jvm.ClassFile.Instr → Bool
  | .goto off => decide (0 ≤ (pc : Int) + off)
  | .ifCond _ off => decide (0 ≤ (pc : Int) + off)
  | .if_icmp _ off => decide (0 ≤ (pc : Int) + off)
  | .tableswitch d lo hi offs => decide (0 ≤ (pc : Int) + d) && offs.toList.all (fun o => decide (0 ≤ (pc : Int) + o)) && decide (hi + 1 = lo + (offs.toList.length : Int))
  | .istore k => decide (k < mL)
  | .astore k => decide (k < mL)
  | .iinc k _ => decide (k < mL)
  | .istore_n k => decide (k.val < mL)
  | .astore_n k => decide (k.val < mL)
  | .lstore k => decide (k + 1 < mL)
  | .dstore k => decide (k + 1 < mL)
  | .lstore_n k => decide (k.val + 1 < mL)
  | .new i => dp_ec i == 99 || dp_npat tl pc i
  | _ => true
def dp_isT : Jvm.ClassFile.Instr → Bool
  | .tableswitch .. => true
  | _ => false
def dp_cke (y : Nat) (e : dp_I) : Bool := decide (decode (dp_by y) e.1 = .ok e.2) && (dp_isT e.2.1 || e.2.2 == dp_il e.2.1) && dp_jok (dp_tl y) (dp_mL y) e.1 e.2.1
def dp_chk (y : Nat) : Bool := (dp_tl y).all (dp_cke y)
set_option maxRecDepth 100000 in
set_option maxHeartbeats 4000000 in
theorem dp_chk_0 : (List.range' 0 25).all dp_chk = true := by decide +kernel
set_option maxRecDepth 100000 in
set_option maxHeartbeats 4000000 in
theorem dp_chk_1 : (List.range' 25 25).all dp_chk = true := by decide +kernel
set_option maxRecDepth 100000 in
set_option maxHeartbeats 4000000 in
theorem dp_chk_2 : (List.range' 50 35).all dp_chk = true := by decide +kernel
set_option maxRecDepth 100000 in
set_option maxHeartbeats 4000000 in
theorem dp_chk_3 : (List.range' 85 35).all dp_chk = true := by decide +kernel
set_option maxRecDepth 100000 in
set_option maxHeartbeats 4000000 in
theorem dp_chk_4 : (List.range' 120 26).all dp_chk = true := by decide +kernel
set_option maxRecDepth 100000 in
set_option maxHeartbeats 4000000 in
theorem dp_chl_0 : (((dp_tl 146).drop 0).take 75).all (dp_cke 146) = true := by decide +kernel
set_option maxRecDepth 100000 in
set_option maxHeartbeats 4000000 in
theorem dp_chl_1 : (((dp_tl 146).drop 75).take 75).all (dp_cke 146) = true := by decide +kernel
set_option maxRecDepth 100000 in
set_option maxHeartbeats 4000000 in
theorem dp_chl_2 : (((dp_tl 146).drop 150).take 75).all (dp_cke 146) = true := by decide +kernel
set_option maxRecDepth 100000 in
set_option maxHeartbeats 4000000 in
theorem dp_chl_3 : (((dp_tl 146).drop 225).take 75).all (dp_cke 146) = true := by decide +kernel
set_option maxRecDepth 100000 in
set_option maxHeartbeats 4000000 in
theorem dp_chl_4 : (((dp_tl 146).drop 300).take 75).all (dp_cke 146) = true := by decide +kernel
set_option maxRecDepth 100000 in
set_option maxHeartbeats 4000000 in
theorem dp_chl_5 : (((dp_tl 146).drop 375).take 75).all (dp_cke 146) = true := by decide +kernel
set_option maxRecDepth 100000 in
set_option maxHeartbeats 4000000 in
theorem dp_chl_6 : (((dp_tl 146).drop 450).take 75).all (dp_cke 146) = true := by decide +kernel
set_option maxRecDepth 100000 in
set_option maxHeartbeats 4000000 in
theorem dp_chl_7 : (((dp_tl 146).drop 525).take 75).all (dp_cke 146) = true := by decide +kernel
set_option maxRecDepth 100000 in
set_option maxHeartbeats 4000000 in
theorem dp_chl_8 : (((dp_tl 146).drop 600).take 75).all (dp_cke 146) = true := by decide +kernel
set_option maxRecDepth 100000 in
set_option maxHeartbeats 4000000 in
theorem dp_chl_9 : (((dp_tl 146).drop 675).take 75).all (dp_cke 146) = true := by decide +kernel
set_option maxRecDepth 100000 in
set_option maxHeartbeats 4000000 in
theorem dp_chl_10 : (((dp_tl 146).drop 750).take 75).all (dp_cke 146) = true := by decide +kernel
set_option maxRecDepth 100000 in
set_option maxHeartbeats 4000000 in
theorem dp_chl_11 : (((dp_tl 146).drop 825).take 75).all (dp_cke 146) = true := by decide +kernel
set_option maxRecDepth 100000 in
set_option maxHeartbeats 4000000 in
theorem dp_chl_12 : (((dp_tl 146).drop 900).take 75).all (dp_cke 146) = true := by decide +kernel
theorem dp_chl_t {y : Nat} {l : List dp_I} {k : Nat} (h : (l.take k).all (dp_cke y) = true) (h2 : (l.drop k).all (dp_cke y) = true) : l.all (dp_cke y) = true := by
  rw [← List.take_append_drop k l, List.all_append, h, h2]; rfl
theorem dp_chl_d {y : Nat} {l : List dp_I} {a b : Nat} (h : ((l.drop a).take b).all (dp_cke y) = true) (h2 : (l.drop (a + b)).all (dp_cke y) = true) : (l.drop a).all (dp_cke y) = true :=
  dp_chl_t (k := b) h (by rw [List.drop_drop]; exact h2)
set_option maxRecDepth 100000 in
set_option maxHeartbeats 4000000 in
theorem dp_chl_end : ((dp_tl 146).drop 975).all (dp_cke 146) = true := by decide +kernel
theorem dp_chk_9 : dp_chk 146 = true := by
  have h := dp_chl_d (a := 0) (b := 75) dp_chl_0 (dp_chl_d (a := 75) (b := 75) dp_chl_1 (dp_chl_d (a := 150) (b := 75) dp_chl_2 (dp_chl_d (a := 225) (b := 75) dp_chl_3 (dp_chl_d (a := 300) (b := 75) dp_chl_4 (dp_chl_d (a := 375) (b := 75) dp_chl_5 (dp_chl_d (a := 450) (b := 75) dp_chl_6 (dp_chl_d (a := 525) (b := 75) dp_chl_7 (dp_chl_d (a := 600) (b := 75) dp_chl_8 (dp_chl_d (a := 675) (b := 75) dp_chl_9 (dp_chl_d (a := 750) (b := 75) dp_chl_10 (dp_chl_d (a := 825) (b := 75) dp_chl_11 (dp_chl_d (a := 900) (b := 75) dp_chl_12 (dp_chl_end)))))))))))))
  rw [List.drop_zero] at h
  exact h
theorem dp_chk_ok {y : Nat} (hy : y < 147) : dp_chk y = true := by
  rcases Nat.lt_or_ge y 25 with h | h
  · exact List.all_eq_true.mp dp_chk_0 y (List.mem_range'_1.mpr (by omega))
  rcases Nat.lt_or_ge y 50 with h2 | h2
  · exact List.all_eq_true.mp dp_chk_1 y (List.mem_range'_1.mpr (by omega))
  rcases Nat.lt_or_ge y 85 with h3 | h3
  · exact List.all_eq_true.mp dp_chk_2 y (List.mem_range'_1.mpr (by omega))
  rcases Nat.lt_or_ge y 120 with h4 | h4
  · exact List.all_eq_true.mp dp_chk_3 y (List.mem_range'_1.mpr (by omega))
  rcases Nat.lt_or_ge y 146 with h5 | h5
  · exact List.all_eq_true.mp dp_chk_4 y (List.mem_range'_1.mpr (by omega))
  · rw [show y = 146 by omega]; exact dp_chk_9
theorem dp_lk_or : ∀ (tl : List dp_I) (pc : Nat), dp_lk tl pc = (.nop, 0) ∨ (pc, dp_lk tl pc) ∈ tl
  | [], _ => Or.inl rfl
  | (a, i) :: t, pc => by
    unfold dp_lk
    by_cases h : a = pc
    · rw [if_pos h, h]
      exact Or.inr List.mem_cons_self
    · rw [if_neg h]
      rcases dp_lk_or t pc with h | h
      · exact Or.inl h
      · exact Or.inr (List.mem_cons_of_mem _ h)
theorem dp_dec {y : Nat} (hy : y < 147) (pc : Nat) : dp_tab y pc = (.nop, 0) ∨ (decode (dp_by y) pc = .ok (dp_tab y pc) ∧ (dp_isT (dp_tab y pc).1 = true ∨ (dp_tab y pc).2 = dp_il (dp_tab y pc).1) ∧ dp_jok (dp_tl y) (dp_mL y) pc (dp_tab y pc).1 = true) := by
  rcases dp_lk_or (dp_tl y) pc with h | h
  · exact Or.inl h
  · have h1 := List.all_eq_true.mp (dp_chk_ok hy) _ h
    simp only [dp_cke, Bool.and_eq_true, decide_eq_true_eq, Bool.or_eq_true, beq_iff_eq] at h1
    exact Or.inr ⟨h1.1.1, h1.1.2, h1.2⟩
end
section
/-! A deep semantics of the claim's own methods over a memory of ints by handles: what a method does, as a predicate transformer, with no machine in it. Part 04 shows it sound over the machine. -/
abbrev dp_M : Type := Nat → Nat → Int32
abbrev dp_L : Type := List (Option Value)
abbrev dp_R : Type := Option Value ⊕ Nat
abbrev dp_Q : Type := dp_R → dp_M → Int64 → Prop
abbrev dp_K : Type := Nat → dp_L → List Value → Nat → Nat → Nat → dp_M → Int64 → Prop
abbrev dp_X : Type := Nat × (Nat → Int32)
abbrev dp_C : Type := Nat → List Value → Nat → dp_M → Int64 → dp_Q → Prop
def dp_up (M : dp_M) (h k : Nat) (x : Int32) : dp_M := fun a j => if a = h ∧ j = k then x else M a j
def dp_row (M : dp_M) (h : Nat) (f : Nat → Int32) : dp_M := fun a j => if a = h then f j else M a j
/-- the objects: their kind (by vwCl) and fields -/
def dp_obj (M : dp_M) : Nat → Option (Nat × List Value)
  | 0 => some (3, [.ref 1, .ref 2, .ref 3, .ref 4, .ref 5])
  | 1 => some (2, [.ref 6, .ref 7, .ref 8, .ref 9, .ref 10, .int (M 1 5)])
  | 2 => some (1, [.ref 11, .ref 12, .ref 13, .int (M 2 3)])
  | 3 => some (0, [.ref 14, .ref 15, .ref 16, .ref 17, .int (M 3 4)])
  | 4 => some (0, [.ref 18, .ref 19, .ref 20, .ref 21, .int (M 4 4)])
  | 22 => some (4, [.int (M 22 0), .int (M 22 1), .int (M 22 2), .int (M 22 3), .ref 23, .ref 24, .ref 25])
  | _ => none
def dp_isA (h : Nat) : Bool := !(h == 0 || h == 1 || h == 2 || h == 3 || h == 4 || h == 22 || h == 7 || h == 9 || h == 11 || h == 26)
def dp_len (h : Nat) : Nat :=
  if h < 27 then (if h = 5 then 5 else if h = 6 ∨ h = 23 then 40 else if h = 8 ∨ h = 14 ∨ h = 18 then 16 else if h = 10 then 20 else if h = 24 then 224 else if h = 25 then 60 else 6)
  else if h < 43 then 12 else if h < 59 then 20 else if h < 65 then 5 else if h = 65 then 224 else 60
-- readers of stacks and locals
def dp_p1 (st : List Value) (f : Value → List Value → Prop) : Prop := match st with
  | v :: r => f v r
  | _ => False
def dp_pi (st : List Value) (f : Int32 → List Value → Prop) : Prop := match st with
  | .int x :: r => f x r
  | _ => False
def dp_pj (st : List Value) (f : Int64 → List Value → Prop) : Prop := match st with
  | .long x :: r => f x r
  | _ => False
def dp_pd (st : List Value) (f : UInt64 → List Value → Prop) : Prop := match st with
  | .double x :: r => f x r
  | _ => False
def dp_pr (st : List Value) (f : Nat → List Value → Prop) : Prop := match st with
  | .ref x :: r => f x r
  | _ => False
def dp_gt : dp_L → Nat → Option Value
  | [], _ => none
  | a :: _, 0 => a
  | _ :: t, i + 1 => dp_gt t i
def dp_li (L : dp_L) (i : Nat) (f : Int32 → Prop) : Prop := match dp_gt L i with
  | some (.int x) => f x
  | _ => False
def dp_lj (L : dp_L) (i : Nat) (f : Int64 → Prop) : Prop := match dp_gt L i with
  | some (.long x) => f x
  | _ => False
def dp_ld (L : dp_L) (i : Nat) (f : UInt64 → Prop) : Prop := match dp_gt L i with
  | some (.double x) => f x
  | _ => False
def dp_lr (L : dp_L) (i : Nat) (f : Nat → Prop) : Prop := match dp_gt L i with
  | some (.ref x) => f x
  | _ => False
def dp_c2 : Option Value → Option Value
  | some (.long _) => none
  | some (.double _) => none
  | a => a
/-- store a value of one slot -/
def dp_s1 : dp_L → Nat → Value → dp_L
  | [], _, _ => []
  | _ :: t, 0, v => some v :: t
  | a :: t, 1, v => dp_c2 a :: dp_s1 t 0 v
  | a :: t, i + 2, v => a :: dp_s1 t (i + 1) v
/-- store a value of two slots -/
def dp_h0 : dp_L → dp_L
  | [] => []
  | _ :: t => none :: t
def dp_s2 : dp_L → Nat → Value → dp_L
  | [], _, _ => []
  | _ :: t, 0, v => some v :: dp_h0 t
  | a :: t, 1, v => dp_c2 a :: dp_s2 t 0 v
  | a :: t, i + 2, v => a :: dp_s2 t (i + 1) v
def dp_msk : List Bool → dp_L → dp_L
  | _, [] => []
  | [], t => t
  | b :: bs, a :: t => (if b then a else none) :: dp_msk bs t
def dp_f4 (k : Fin 4) : Nat := k.val
def dp_kI (n : Int) : Int32 := Int32.ofInt n
def dp_kB (n : Int) : Int32 := (Int8.ofInt n).toInt32
def dp_kS (n : Int) : Int32 := (Int16.ofInt n).toInt32
def dp_jt (pc : Nat) (off : Int) : Nat := ((pc : Int) + off).toNat
def dp_br (p A B : Prop) : Prop := (p → A) ∧ (¬ p → B)
def dp_lo {α : Type} : List (Nat × Nat × α) → Nat → Nat → Option α
  | [], _, _ => none
  | (a, b, x) :: t, o, i => if a = o ∧ b = i then some x else dp_lo t o i
def dp_fld (o i : Nat) : Option (Nat × Nat) := dp_lo (dp_fl.map fun e => (e.1, e.2.1, e.2.2)) o i
def dp_iv (o i : Nat) : Option (Nat × Nat × Nat × Nat × Bool × Nat × Nat) := (dp_lo dp_ml o i).map fun z => (z, dp_na z, dp_mc z, dp_ms z, dp_sta z, dp_ow z, dp_mL z)
/-- the slots of arguments -/
def dp_asz : List Value → Nat
  | [] => 0
  | .long _ :: t => dp_asz t + 2
  | .double _ :: t => dp_asz t + 2
  | _ :: t => dp_asz t + 1
def dp_nat (o i : Nat) : Option Nat := dp_lo dp_nl o i
def dp_gtv : List Value → Nat → Option Value
  | [], _ => none
  | a :: _, 0 => some a
  | _ :: t, i + 1 => dp_gtv t i
def dp_get (M : dp_M) (h : Nat) (e : Option (Nat × Nat)) (f : Value → Prop) : Prop := match e with
  | some (ci, k) => (match dp_obj M h with
    | some q => q.1 = ci ∧ (match dp_gtv q.2 k with
      | some v => f v
      | none => False)
    | none => False)
  | none => False
def dp_put (M : dp_M) (h : Nat) (e : Option (Nat × Nat)) (f : Nat → Prop) : Prop := match e with
  | some (ci, k) => (match dp_obj M h with
    | some q => q.1 = ci ∧ (match dp_gtv q.2 k with
      | some (.int _) => f k
      | _ => False)
    | none => False)
  | none => False
def dp_ald (X : dp_X) (n : Nat) (M : dp_M) (h : Nat) (i : Int32) (f : Int32 → Prop) : Prop := (h = 1000 ∧ vp_in i X.1 ∧ f (X.2 i.toNatClampNeg)) ∨ (h ≠ 1000 ∧ dp_isA h = true ∧ h < n ∧ vp_in i (dp_len h) ∧ f (M h i.toNatClampNeg))
def dp_aln (X : dp_X) (n : Nat) (h : Nat) (f : Nat → Prop) : Prop := (h = 1000 ∧ f X.1) ∨ (h ≠ 1000 ∧ dp_isA h = true ∧ h < n ∧ f (dp_len h))
def dp_aal (h : Nat) (i : Int32) (f : Nat → Prop) : Prop := match h with
  | 7 => vp_in i 16 ∧ f (27 + i.toNatClampNeg)
  | 9 => vp_in i 16 ∧ f (43 + i.toNatClampNeg)
  | 11 => vp_in i 6 ∧ f (59 + i.toNatClampNeg)
  | _ => False
def dp_take : Nat → List Value → List Value → (List Value → List Value → Prop) → Prop
  | 0, st, acc, f => f acc st
  | _ + 1, [], _, _ => False
  | k + 1, v :: st, acc, f => dp_take k st (v :: acc) f
def dp_hk : Nat → Nat
  | 13 => 0
  | 19 => 1
  | 31 => 2
  | _ => 99
def dp_hf : List (Nat × Nat × Nat × Nat) → Nat → Nat → Option Nat
  | [], _, _ => none
  | (a, b, h, k) :: t, pc, E => if (a ≤ pc ∧ pc < b) ∧ dp_hk k = E then some h else dp_hf t pc E
def dp_hdl (y : Nat) (Q : dp_Q) (K : dp_K) (E pc : Nat) (L : dp_L) (n c q : Nat) (M : dp_M) (o : Int64) : Prop := match dp_hf (dp_hh y) pc E with
  | some h => K h (L.map fun _ => none) [.ref 9999] n c q M o
  | none => Q (.inr E) M o ∧ c ≤ dp_mc y ∧ q ≤ dp_ms y
/-- behind a call -/
def dp_aft (y : Nat) (Q : dp_Q) (K : dp_K) (pc : Nat) (L : dp_L) (r : List Value) (n c q : Nat) : dp_Q := fun res M o => match res with
  | .inl none => K (pc + 3) L r n c q M o
  | .inl (some v) => K (pc + 3) L (v :: r) n c q M o
  | .inr E => dp_hdl y Q K E pc L n c q M o
/-- the receiver of a call -/
def dp_rcv (n : Nat) (M : dp_M) (as : List Value) (o : Nat) : Prop := match as with
  | .ref h :: _ => h < n ∧ (match dp_obj M h with
    | some q => q.1 = o
    | none => False)
  | _ => False
def dp_inv (call : dp_C) (y : Nat) (Q : dp_Q) (K : dp_K) (pc : Nat) (L : dp_L) (st : List Value) (n c q : Nat) (M : dp_M) (o : Int64) (s : Bool) : Option (Nat × Nat × Nat × Nat × Bool × Nat × Nat) → Prop
  | some (z, na, mc, ms, sta, ow, mL) => dp_take na st [] fun as r => sta = s ∧ 65 ≤ n ∧ dp_asz as ≤ mL ∧ r.length ≤ 4 ∧ c + mc ≤ dp_mc y ∧ q + ms ≤ dp_ms y ∧ (s = true ∨ dp_rcv n M as ow) ∧ call z as n M o (dp_aft y Q K pc L r n (c + mc) (q + ms))
  | none => False
def dp_cpyr (n : Nat) (M : dp_M) (h1 h2 : Nat) (sp dp k : Int32) (P : Prop) : Prop := dp_isA h1 = true ∧ dp_isA h2 = true ∧ h1 < n ∧ h2 < n ∧ ¬ sp < 0 ∧ ¬ dp < 0 ∧ ¬ k < 0 ∧ sp.toNatClampNeg + k.toNatClampNeg ≤ dp_len h1 ∧ dp.toNatClampNeg + k.toNatClampNeg ≤ dp_len h2 ∧ P
def dp_natw (y : Nat) (K : dp_K) (pc : Nat) (L : dp_L) (st : List Value) (n c q : Nat) (M : dp_M) (o : Int64) : Option Nat → Prop
  | some 200 => dp_pi st fun b r => dp_pi r fun a r => r.length ≤ 4 ∧ c ≤ dp_mc y ∧ q ≤ dp_ms y ∧ K (pc + 3) L (.int (if b < a then b else a) :: r) n c q M o
  | some 201 => dp_pi st fun b r => dp_pi r fun a r => r.length ≤ 4 ∧ c ≤ dp_mc y ∧ q ≤ dp_ms y ∧ K (pc + 3) L (.int (if a < b then b else a) :: r) n c q M o
  | some 202 => dp_pi st fun k r => dp_pi r fun dp r => dp_pr r fun h2 r => dp_pi r fun sp r => dp_pr r fun h1 r => r.length ≤ 4 ∧ dp_cpyr n M h1 h2 sp dp k (K (pc + 3) L r n c q (dp_row M h2 (va_cpy (M h1) (M h2) sp.toNatClampNeg dp.toNatClampNeg k.toNatClampNeg)) o)
  | _ => False
def dp_nrv (n : Nat) : Value → Bool
  | .ref k => k != n
  | _ => true
def dp_nrl (n : Nat) : dp_L → Bool
  | [] => true
  | some v :: t => dp_nrv n v && dp_nrl n t
  | none :: t => dp_nrl n t
def dp_nrs (n : Nat) : List Value → Bool
  | [] => true
  | v :: t => dp_nrv n v && dp_nrs n t
def dp_cln (y : Nat) (K : dp_K) (pc : Nat) (L : dp_L) (st : List Value) (n c q : Nat) (M : dp_M) (o : Int64) : Option Nat → Prop
  | some 203 => dp_pr st fun h r => r.length ≤ 4 ∧ dp_isA h = true ∧ h < n ∧ 65 ≤ n ∧ n < 999 ∧ dp_len n = dp_len h ∧ c + 1 ≤ dp_mc y ∧ q + dp_len h ≤ dp_ms y ∧ dp_nrl n L = true ∧ dp_nrs n r = true ∧ K (pc + 3) L (.ref n :: r) (n + 1) (c + 1) (q + dp_len h) (dp_row M n (M h)) o
  | _ => False
def dp_ts (x : Int32) : Int → List Int → (Int → Prop) → Prop
  | _, [], _ => True
  | lo, o :: t, F => (x.toInt = lo → F o) ∧ dp_ts x (lo + 1) t F
def dp_thr (d y : Nat) (Q : dp_Q) (st : List Value) (c q : Nat) (M : dp_M) (o : Int64) (E : Nat) : Prop := 6 ≤ d ∧ st.length ≤ 4 ∧ c + 1 ≤ dp_mc y ∧ q + 6 ≤ dp_ms y ∧ Q (.inr E) M o
def dp_new (i : Nat) (f : Nat → Prop) : Prop := match i with
  | 197 => f 0
  | 54 => f 1
  | 81 => f 2
  | _ => False
def dp_rz (k : Nat) (x : Int32) : Prop := match k with
  | 1 => True
  | 4 => x = 0 ∨ x = 1
  | _ => False
def dp_opt {α : Type} (e : Option α) (f : α → Prop) : Prop := match e with
  | some v => f v
  | none => False
/-- one instruction -/
def dp_wp (X : dp_X) (call : dp_C) (d y : Nat) (Q : dp_Q) (K : dp_K) (pc : Nat) (L : dp_L) (st : List Value) (n c q : Nat) (M : dp_M) (o : Int64) : Jvm.ClassFile.Instr → Prop
  | .aload_n k => dp_lr L (dp_f4 k) fun h => K (pc + 1) L (.ref h :: st) n c q M o
  | .aload k => dp_lr L k fun h => K (pc + 2) L (.ref h :: st) n c q M o
  | .iload_n k => dp_li L (dp_f4 k) fun x => K (pc + 1) L (.int x :: st) n c q M o
  | .iload k => dp_li L k fun x => K (pc + 2) L (.int x :: st) n c q M o
  | .lload_n k => dp_lj L (dp_f4 k) fun x => K (pc + 1) L (.long x :: st) n c q M o
  | .lload k => dp_lj L k fun x => K (pc + 2) L (.long x :: st) n c q M o
  | .dload k => dp_ld L k fun x => K (pc + 2) L (.double x :: st) n c q M o
  | .iconst v => K (pc + 1) L (.int (dp_kI v) :: st) n c q M o
  | .bipush v => K (pc + 2) L (.int (dp_kB v) :: st) n c q M o
  | .sipush v => K (pc + 3) L (.int (dp_kS v) :: st) n c q M o
  | .ldc_w i => dp_opt (dp_lo dp_ci (dp_ow y) i) fun v => K (pc + 3) L (.int v :: st) n c q M o
  | .ldc2_w i => dp_opt (dp_lo dp_cl (dp_ow y) i) fun v => K (pc + 3) L (.long v :: st) n c q M o
  | .dconst v => v = 0 ∧ K (pc + 1) L (.double FP.dconst0 :: st) n c q M o
  | .istore_n k => dp_pi st fun x r => K (pc + 1) (dp_s1 L (dp_f4 k) (.int x)) r n c q M o
  | .istore k => dp_pi st fun x r => K (pc + 2) (dp_s1 L k (.int x)) r n c q M o
  | .lstore_n k => dp_pj st fun x r => K (pc + 1) (dp_s2 L (dp_f4 k) (.long x)) r n c q M o
  | .lstore k => dp_pj st fun x r => K (pc + 2) (dp_s2 L k (.long x)) r n c q M o
  | .dstore k => dp_pd st fun x r => K (pc + 2) (dp_s2 L k (.double x)) r n c q M o
  | .astore_n k => dp_pr st fun x r => K (pc + 1) (dp_s1 L (dp_f4 k) (.ref x)) r n c q M o
  | .astore k => dp_pr st fun x r => K (pc + 2) (dp_s1 L k (.ref x)) r n c q M o
  | .iinc i v => dp_li L i fun x => K (pc + 3) (dp_s1 L i (.int (x + dp_kI v))) st n c q M o
  | .iadd => dp_pi st fun b r => dp_pi r fun a r => K (pc + 1) L (.int (a + b) :: r) n c q M o
  | .isub => dp_pi st fun b r => dp_pi r fun a r => K (pc + 1) L (.int (a - b) :: r) n c q M o
  | .imul => dp_pi st fun b r => dp_pi r fun a r => K (pc + 1) L (.int (a * b) :: r) n c q M o
  | .idiv => dp_pi st fun b r => dp_pi r fun a r => ¬ b = 0 ∧ K (pc + 1) L (.int (a / b) :: r) n c q M o
  | .iand => dp_pi st fun b r => dp_pi r fun a r => K (pc + 1) L (.int (a &&& b) :: r) n c q M o
  | .ior => dp_pi st fun b r => dp_pi r fun a r => K (pc + 1) L (.int (a ||| b) :: r) n c q M o
  | .ishl => dp_pi st fun b r => dp_pi r fun a r => K (pc + 1) L (.int (a <<< (b &&& 31)) :: r) n c q M o
  | .ishr => dp_pi st fun b r => dp_pi r fun a r => K (pc + 1) L (.int (a >>> (b &&& 31)) :: r) n c q M o
  | .iushr => dp_pi st fun b r => dp_pi r fun a r => K (pc + 1) L (.int (a.toUInt32 >>> (b.toUInt32 &&& Int32.toUInt32 31)).toInt32 :: r) n c q M o
  | .i2l => dp_pi st fun a r => K (pc + 1) L (.long a.toInt64 :: r) n c q M o
  | .i2d => dp_pi st fun a r => K (pc + 1) L (.double (FP.i2d a) :: r) n c q M o
  | .ladd => dp_pj st fun b r => dp_pj r fun a r => K (pc + 1) L (.long (a + b) :: r) n c q M o
  | .lmul => dp_pj st fun b r => dp_pj r fun a r => K (pc + 1) L (.long (a * b) :: r) n c q M o
  | .lcmp => dp_pj st fun b r => dp_pj r fun a r => K (pc + 1) L (.int (lg_cmp a b) :: r) n c q M o
  | .ddiv => dp_pd st fun b r => dp_pd r fun a r => vf_n64 (FP.ddiv a b) ∧ K (pc + 1) L (.double (FP.ddiv a b) :: r) n c q M o
  | .dcmp e => dp_pd st fun b r => dp_pd r fun a r => K (pc + 1) L (.int (Op.cmpValue (FP.dcmp a b) e) :: r) n c q M o
  | .ifCond .eq off => dp_pi st fun x r => dp_br (x = 0) (K (dp_jt pc off) L r n c q M o) (K (pc + 3) L r n c q M o)
  | .ifCond .ne off => dp_pi st fun x r => dp_br (x = 0) (K (pc + 3) L r n c q M o) (K (dp_jt pc off) L r n c q M o)
  | .ifCond .lt off => dp_pi st fun x r => dp_br (x < 0) (K (dp_jt pc off) L r n c q M o) (K (pc + 3) L r n c q M o)
  | .ifCond .ge off => dp_pi st fun x r => dp_br (x < 0) (K (pc + 3) L r n c q M o) (K (dp_jt pc off) L r n c q M o)
  | .ifCond .gt off => dp_pi st fun x r => dp_br (0 < x) (K (dp_jt pc off) L r n c q M o) (K (pc + 3) L r n c q M o)
  | .ifCond .le off => dp_pi st fun x r => dp_br (0 < x) (K (pc + 3) L r n c q M o) (K (dp_jt pc off) L r n c q M o)
  | .if_icmp .eq off => dp_pi st fun b r => dp_pi r fun a r => dp_br (a = b) (K (dp_jt pc off) L r n c q M o) (K (pc + 3) L r n c q M o)
  | .if_icmp .ne off => dp_pi st fun b r => dp_pi r fun a r => dp_br (a = b) (K (pc + 3) L r n c q M o) (K (dp_jt pc off) L r n c q M o)
  | .if_icmp .lt off => dp_pi st fun b r => dp_pi r fun a r => dp_br (a < b) (K (dp_jt pc off) L r n c q M o) (K (pc + 3) L r n c q M o)
  | .if_icmp .ge off => dp_pi st fun b r => dp_pi r fun a r => dp_br (a < b) (K (pc + 3) L r n c q M o) (K (dp_jt pc off) L r n c q M o)
  | .if_icmp .gt off => dp_pi st fun b r => dp_pi r fun a r => dp_br (b < a) (K (dp_jt pc off) L r n c q M o) (K (pc + 3) L r n c q M o)
  | .if_icmp .le off => dp_pi st fun b r => dp_pi r fun a r => dp_br (b < a) (K (pc + 3) L r n c q M o) (K (dp_jt pc off) L r n c q M o)
  | .goto off => K (dp_jt pc off) L st n c q M o
  | .tableswitch dflt lo hi offs => dp_pi st fun x r => (x.toInt < lo ∨ hi < x.toInt → K (dp_jt pc dflt) L r n c q M o) ∧ dp_ts x lo offs.toList fun off => K (dp_jt pc off) L r n c q M o
  | .getfield i => dp_pr st fun h r => h < n ∧ dp_get M h (dp_fld (dp_ow y) i) fun v => K (pc + 3) L (v :: r) n c q M o
  | .putfield i => dp_pi st fun x r => dp_pr r fun h r => h < n ∧ dp_put M h (dp_fld (dp_ow y) i) fun k => K (pc + 3) L r n c q (dp_up M h k x) o
  | .iaload => dp_pi st fun i r => dp_pr r fun h r => dp_ald X n M h i fun x => K (pc + 1) L (.int x :: r) n c q M o
  | .iastore => dp_pi st fun x r => dp_pi r fun i r => dp_pr r fun h r => dp_isA h = true ∧ h < n ∧ vp_in i (dp_len h) ∧ K (pc + 1) L r n c q (dp_up M h i.toNatClampNeg x) o
  | .laload => dp_pi st fun i r => dp_pr r fun h r => h = 26 ∧ 26 < n ∧ vp_in i 1 ∧ K (pc + 1) L (.long o :: r) n c q M o
  | .lastore => dp_pj st fun x r => dp_pi r fun i r => dp_pr r fun h r => h = 26 ∧ 26 < n ∧ vp_in i 1 ∧ K (pc + 1) L r n c q M x
  | .aaload => dp_pi st fun i r => dp_pr r fun h r => h < n ∧ dp_aal h i fun a => K (pc + 1) L (.ref a :: r) n c q M o
  | .arraylength => dp_pr st fun h r => dp_aln X n h fun k => K (pc + 1) L (.int (nI k) :: r) n c q M o
  | .dup => dp_p1 st fun v r => v.category = 1 ∧ K (pc + 1) L (v :: v :: r) n c q M o
  | .dup2 => dp_p1 st fun v r => dp_p1 r fun w r => v.category = 1 ∧ w.category = 1 ∧ K (pc + 1) L (v :: w :: v :: w :: r) n c q M o
  | .pop => dp_p1 st fun v r => v.category = 1 ∧ K (pc + 1) L r n c q M o
  | .return_ => st = [] ∧ dp_rk y = 0 ∧ c ≤ dp_mc y ∧ q ≤ dp_ms y ∧ Q (.inl none) M o
  | .ireturn => dp_pi st fun x r => r = [] ∧ dp_rz (dp_rk y) x ∧ c ≤ dp_mc y ∧ q ≤ dp_ms y ∧ Q (.inl (some (.int x))) M o
  | .lreturn => dp_pj st fun x r => r = [] ∧ dp_rk y = 2 ∧ c ≤ dp_mc y ∧ q ≤ dp_ms y ∧ Q (.inl (some (.long x))) M o
  | .dreturn => dp_pd st fun x r => r = [] ∧ dp_rk y = 3 ∧ c ≤ dp_mc y ∧ q ≤ dp_ms y ∧ Q (.inl (some (.double x))) M o
  | .checkcast i => dp_pr st fun h r => i = 132 ∧ dp_ow y = 4 ∧ dp_isA h = true ∧ h < n ∧ K (pc + 3) L (.ref h :: r) n c q M o
  | .invokevirtual i => dp_inv call y Q K pc L st n c q M o false (dp_iv (dp_ow y) i) ∨ (dp_ow y = 4 ∧ dp_cln y K pc L st n c q M o (dp_nat (dp_ow y) i))
  | .invokestatic i => dp_inv call y Q K pc L st n c q M o true (dp_iv (dp_ow y) i) ∨ dp_natw y K pc L st n c q M o (dp_nat (dp_ow y) i)
  | .new i => dp_ow y = 3 ∧ dp_new i fun E => dp_thr d y Q st c q M o E
  | _ => False
/-- K is closed under a method's instructions, and under forgetting of locals -/
def dp_clo (X : dp_X) (call : dp_C) (d y : Nat) (Q : dp_Q) (K : dp_K) : Prop :=
  (∀ pc L st n c q M o, dp_wp X call d y Q K pc L st n c q M o (dp_tab y pc).1 → K pc L st n c q M o) ∧ (∀ b pc L st n c q M o, K pc (dp_msk b L) st n c q M o → K pc L st n c q M o)
def dp_args : Nat → List Value → dp_L
  | m, [] => List.replicate m none
  | m, .long x :: t => some (.long x) :: none :: dp_args (m - 2) t
  | m, .double x :: t => some (.double x) :: none :: dp_args (m - 2) t
  | m, v :: t => some v :: dp_args (m - 1) t
/-- what a method does, with calls at most d deep -/
def dp_run (X : dp_X) : Nat → dp_C
  | 0 => fun _ _ _ _ _ _ => False
  | d + 1 => fun y as n M o Q => ∀ K : dp_K, dp_clo X (dp_run X d) (d + 1) y Q K → K 0 (dp_args (dp_mL y) as) [] n 0 0 M o
end
section
/-! The world: the claim's cells by handles, over the heap; and what is fixed around it. -/
abbrev dp_G : Type := va_G × ClassId × ClassId × ClassId
def dp_cv (ad : Nat → Nat) : Value → Value
  | .ref k => .ref (ad k)
  | v => v
theorem dp_cv_cat (ad : Nat → Nat) (v : Value) : (dp_cv ad v).category = v.category := by cases v <;> rfl
def dp_out (ad : Nat → Nat) (k N : Nat) : Nat → Option Nat := fun j => if j < N then some (ad (k + j)) else none
def dp_cel (g : dp_G) (ad : Nat → Nat) (M : dp_M) (o : Int64) (h : Nat) : va_E := match dp_obj M h with
  | some q => .inr (q.1, q.2.map (dp_cv ad))
  | none => if h = 7 then .inl (g.2.2.2, 16, .inr (.inr (.inr (.inr (dp_out ad 27 16))))) else if h = 9 then .inl (g.2.2.2, 16, .inr (.inr (.inr (.inr (dp_out ad 43 16)))))
    else if h = 11 then .inl (g.2.2.2, 6, .inr (.inr (.inr (.inr (dp_out ad 59 6))))) else if h = 26 then .inl (g.2.2.1, 1, .inr (.inl fun j => if j = 0 then o else 0)) else .inl (g.2.1, dp_len h, .inl (M h))
def dp_wl (g : dp_G) (ad : Nat → Nat) (n : Nat) (M : dp_M) (o : Int64) : va_W := (List.range n).map fun h => (ad h, dp_cel g ad M o h)
theorem dp_isA_or (h : Nat) : dp_isA h = true ∨ h = 0 ∨ h = 1 ∨ h = 2 ∨ h = 3 ∨ h = 4 ∨ h = 22 ∨ h = 7 ∨ h = 9 ∨ h = 11 ∨ h = 26 := by
  simp only [dp_isA, Bool.not_eq_true', Bool.or_eq_false_iff, beq_eq_false_iff_ne]
  omega
theorem dp_obj_A {M : dp_M} {h : Nat} (hA : dp_isA h = true) : dp_obj M h = none := by
  unfold dp_obj
  split <;> first | rfl | (exfalso; revert hA; decide)
theorem dp_cel_A {g : dp_G} {ad : Nat → Nat} {M : dp_M} {o : Int64} {h : Nat} (hA : dp_isA h = true) : dp_cel g ad M o h = .inl (g.2.1, dp_len h, .inl (M h)) := by
  have hn : h ≠ 7 ∧ h ≠ 9 ∧ h ≠ 11 ∧ h ≠ 26 := by
    refine ⟨?_, ?_, ?_, ?_⟩ <;> (intro e; subst e; revert hA; decide)
  unfold dp_cel
  rw [dp_obj_A hA]
  simp only [hn.1, hn.2.1, hn.2.2.1, hn.2.2.2, if_false]
theorem dp_cel_ext {g : dp_G} {ad : Nat → Nat} {M M' : dp_M} {o o' : Int64} {h : Nat} (e : ∀ j, M h j = M' h j) (eo : h = 26 → o = o') : dp_cel g ad M o h = dp_cel g ad M' o' h := by
  rcases dp_isA_or h with hA | rfl | rfl | rfl | rfl | rfl | rfl | rfl | rfl | rfl | rfl
  · rw [dp_cel_A hA, dp_cel_A hA, show M h = M' h from funext e]
  · rfl
  · simp only [dp_cel, dp_obj, e 5]
  · simp only [dp_cel, dp_obj, e 3]
  · simp only [dp_cel, dp_obj, e 4]
  · simp only [dp_cel, dp_obj, e 4]
  · simp only [dp_cel, dp_obj, e 0, e 1, e 2, e 3]
  · rfl
  · rfl
  · rfl
  · obtain rfl := eo rfl
    rfl
/-- other addresses, the same at all handles below 65 and at h -/
theorem dp_cel_ad {g : dp_G} {ad ad' : Nat → Nat} {M : dp_M} {o : Int64} {h : Nat} (e : ∀ k, k < 65 → ad' k = ad k) : dp_cel g ad' M o h = dp_cel g ad M o h := by
  have eo : ∀ k N : Nat, k + N ≤ 65 → dp_out ad' k N = dp_out ad k N := fun k N hk => by
    funext j
    unfold dp_out
    by_cases hj : j < N
    · rw [if_pos hj, if_pos hj, e (k + j) (by omega)]
    · rw [if_neg hj, if_neg hj]
  rcases dp_isA_or h with hA | rfl | rfl | rfl | rfl | rfl | rfl | rfl | rfl | rfl | rfl
  · rw [dp_cel_A hA, dp_cel_A hA]
  all_goals first
    | (simp only [dp_cel, dp_obj, List.map, dp_cv, e 1 (by omega), e 2 (by omega), e 3 (by omega), e 4 (by omega), e 5 (by omega), e 6 (by omega), e 7 (by omega), e 8 (by omega), e 9 (by omega), e 10 (by omega), e 11 (by omega), e 12 (by omega), e 13 (by omega), e 14 (by omega), e 15 (by omega), e 16 (by omega), e 17 (by omega), e 18 (by omega), e 19 (by omega), e 20 (by omega), e 21 (by omega), e 23 (by omega), e 24 (by omega), e 25 (by omega)]; done)
    | (simp only [dp_cel, dp_obj, eo 27 16 (by omega), eo 43 16 (by omega), eo 59 6 (by omega)]; done)
    | rfl
theorem dp_wl_at {g : dp_G} {ad : Nat → Nat} {n : Nat} {M : dp_M} {o : Int64} {h : Nat} (hh : h < n) : (dp_wl g ad n M o)[h]? = some (ad h, dp_cel g ad M o h) := by
  unfold dp_wl
  rw [List.getElem?_map, List.getElem?_range hh]
  rfl
theorem dp_wl_A {g : dp_G} {ad : Nat → Nat} {n : Nat} {M : dp_M} {o : Int64} {h : Nat} (hh : h < n) (hA : dp_isA h = true) : (dp_wl g ad n M o)[h]? = some (ad h, .inl (g.2.1, dp_len h, .inl (M h))) := by
  rw [dp_wl_at hh, dp_cel_A hA]
theorem dp_wl_len {g : dp_G} {ad : Nat → Nat} {n : Nat} {M : dp_M} {o : Int64} : (dp_wl g ad n M o).length = n := by simp [dp_wl]
theorem dp_wl_get {g : dp_G} {ad : Nat → Nat} {n : Nat} {M : dp_M} {o : Int64} {k : Nat} {q : Nat × va_E} (hk : (dp_wl g ad n M o)[k]? = some q) : k < n ∧ q = (ad k, dp_cel g ad M o k) := by
  have hl := (List.getElem?_eq_some_iff.mp hk).1
  rw [dp_wl_len] at hl
  rw [dp_wl_at hl] at hk
  exact ⟨hl, (Option.some.inj hk).symm⟩
theorem dp_set {g : dp_G} {ad : Nat → Nat} {n : Nat} {M M' : dp_M} {o o' : Int64} {h : Nat} {e : va_E} (he : e = dp_cel g ad M' o' h) (hk : ∀ j, j ≠ h → dp_cel g ad M o j = dp_cel g ad M' o' j) : (dp_wl g ad n M o).set h (ad h, e) = dp_wl g ad n M' o' := by
  apply List.ext_getElem?
  intro j
  by_cases hj : j < n
  · rw [dp_wl_at hj]
    by_cases hjh : j = h
    · subst hjh
      rw [List.getElem?_set_self (by rw [dp_wl_len]; exact hj), he]
    · rw [List.getElem?_set_ne (Ne.symm hjh), dp_wl_at hj, hk j hjh]
  · rw [List.getElem?_eq_none (by rw [List.length_set, dp_wl_len]; omega), List.getElem?_eq_none (by rw [dp_wl_len]; omega)]
theorem dp_row_s (M : dp_M) (h : Nat) (f : Nat → Int32) : dp_row M h f h = f := by funext j; simp [dp_row]
theorem dp_row_n (M : dp_M) {h a : Nat} (f : Nat → Int32) (ha : a ≠ h) : dp_row M h f a = M a := by funext j; simp [dp_row, ha]
theorem dp_set_A {g : dp_G} {ad : Nat → Nat} {n : Nat} {M : dp_M} {o : Int64} {h : Nat} {f : Nat → Int32} (hA : dp_isA h = true) : (dp_wl g ad n M o).set h (ad h, .inl (g.2.1, dp_len h, .inl f)) = dp_wl g ad n (dp_row M h f) o :=
  dp_set (by rw [dp_cel_A hA, dp_row_s]) (fun j hj => dp_cel_ext (fun i => by rw [dp_row_n M f hj]) (fun _ => rfl))
theorem dp_up_row (M : dp_M) (h k : Nat) (x : Int32) : dp_row M h (upd (M h) k x) = dp_up M h k x := by
  funext a j
  unfold dp_row dp_up upd
  by_cases ha : a = h
  · subst ha
    by_cases hj : j = k <;> simp [hj]
  · simp [ha]
theorem dp_gtv_get : ∀ (l : List Value) (k : Nat) (v : Value), dp_gtv l k = some v → l[k]? = some v
  | [], _, _, h => by cases h
  | a :: t, 0, v, h => by simpa [dp_gtv] using h
  | a :: t, k + 1, v, h => by
    rw [List.getElem?_cons_succ]
    exact dp_gtv_get t k v h
/-- a field of an object is set -/
theorem dp_set_F {g : dp_G} {ad : Nat → Nat} {n : Nat} {M : dp_M} {o : Int64} {h k : Nat} {q : Nat × List Value} {x w : Int32} (hq : dp_obj M h = some q) (hk : dp_gtv q.2 k = some (.int w)) : (dp_wl g ad n M o).set h (ad h, .inr (q.1, (q.2.map (dp_cv ad)).set k (.int x))) = dp_wl g ad n (dp_up M h k x) o := by
  refine dp_set ?_ (fun j hj => dp_cel_ext (fun i => by unfold dp_up; rw [if_neg (fun z => hj z.1)]) (fun _ => rfl))
  rcases dp_isA_or h with hA | rfl | rfl | rfl | rfl | rfl | rfl | rfl | rfl | rfl | rfl
  · rw [dp_obj_A hA] at hq; cases hq
  · cases hq
    match k, hk with
    | 0, hk => cases hk
    | 1, hk => cases hk
    | 2, hk => cases hk
    | 3, hk => cases hk
    | 4, hk => cases hk
    | k + 5, hk => cases hk
  · cases hq
    match k, hk with
    | 0, hk => cases hk
    | 1, hk => cases hk
    | 2, hk => cases hk
    | 3, hk => cases hk
    | 4, hk => cases hk
    | 5, hk => rfl
    | k + 6, hk => cases hk
  · cases hq
    match k, hk with
    | 0, hk => cases hk
    | 1, hk => cases hk
    | 2, hk => cases hk
    | 3, hk => rfl
    | k + 4, hk => cases hk
  · cases hq
    match k, hk with
    | 0, hk => cases hk
    | 1, hk => cases hk
    | 2, hk => cases hk
    | 3, hk => cases hk
    | 4, hk => rfl
    | k + 5, hk => cases hk
  · cases hq
    match k, hk with
    | 0, hk => cases hk
    | 1, hk => cases hk
    | 2, hk => cases hk
    | 3, hk => cases hk
    | 4, hk => rfl
    | k + 5, hk => cases hk
  · cases hq
    match k, hk with
    | 0, hk => rfl
    | 1, hk => rfl
    | 2, hk => rfl
    | 3, hk => rfl
    | 4, hk => cases hk
    | 5, hk => cases hk
    | 6, hk => cases hk
    | k + 7, hk => cases hk
  all_goals cases hq
theorem dp_set_O {g : dp_G} {ad : Nat → Nat} {n : Nat} {M : dp_M} {o x : Int64} {f : Nat → Int64} (hf : f = fun j => if j = 0 then x else 0) : (dp_wl g ad n M o).set 26 (ad 26, .inl (g.2.2.1, 1, .inr (.inl f))) = dp_wl g ad n M x :=
  dp_set (by rw [hf]; rfl) (fun j hj => dp_cel_ext (fun i => rfl) (fun h => absurd h hj))
-- locals
def dp_LH (ls : Array Slot) (nL : Nat) (ad : Nat → Nat) (L : dp_L) : Prop := ls.size = nL ∧ lv_wf ls ∧ ∀ (i : Nat) (v : Value), dp_gt L i = some v → ls[i]? = some (.val (dp_cv ad v))
def dp_as (ad : Nat → Nat) : Nat → dp_L → List (Nat × Value)
  | _, [] => []
  | i, some v :: t => (i, dp_cv ad v) :: dp_as ad (i + 1) t
  | i, none :: t => dp_as ad (i + 1) t
theorem dp_as_in (ad : Nat → Nat) : ∀ (L : dp_L) (i j : Nat) (v : Value), dp_gt L j = some v → (i + j, dp_cv ad v) ∈ dp_as ad i L
  | [], _, _, _, h => by cases h
  | some w :: t, i, 0, v, h => by
    cases h
    exact List.mem_cons_self
  | none :: t, i, 0, v, h => by cases h
  | some w :: t, i, j + 1, v, h => by
    have := dp_as_in ad t (i + 1) j v h
    rw [show i + (j + 1) = i + 1 + j by omega]
    exact List.mem_cons_of_mem _ this
  | none :: t, i, j + 1, v, h => by
    have := dp_as_in ad t (i + 1) j v h
    rw [show i + (j + 1) = i + 1 + j by omega]
    exact this
theorem dp_as_out (ad : Nat → Nat) : ∀ (L : dp_L) (i : Nat) (p : Nat × Value), p ∈ dp_as ad i L → ∃ j v, dp_gt L j = some v ∧ p = (i + j, dp_cv ad v)
  | [], _, _, h => by cases h
  | some w :: t, i, p, h => by
    rcases List.mem_cons.mp h with rfl | h
    · exact ⟨0, w, rfl, rfl⟩
    · obtain ⟨j, v, h1, h2⟩ := dp_as_out ad t (i + 1) p h
      exact ⟨j + 1, v, h1, by rw [h2, show i + 1 + j = i + (j + 1) by omega]⟩
  | none :: t, i, p, h => by
    obtain ⟨j, v, h1, h2⟩ := dp_as_out ad t (i + 1) p h
    exact ⟨j + 1, v, h1, by rw [h2, show i + 1 + j = i + (j + 1) by omega]⟩
theorem dp_LH.has {ls : Array Slot} {nL : Nat} {ad : Nat → Nat} {L : dp_L} (h : dp_LH ls nL ad L) : lv_has ls nL (dp_as ad 0 L) := by
  refine ⟨h.1, h.2.1, fun p hp => ?_⟩
  obtain ⟨j, v, h1, rfl⟩ := dp_as_out ad L 0 p hp
  have := h.2.2 j v h1
  simpa using this
theorem dp_LH.of {ls : Array Slot} {nL : Nat} {ad : Nat → Nat} {L : dp_L} {l : List (Nat × Value)} (h : lv_has ls nL l) (hl : ∀ j v, dp_gt L j = some v → (j, dp_cv ad v) ∈ l) : dp_LH ls nL ad L :=
  ⟨h.1, h.2.1, fun i v hi => h.2.2 _ (hl i v hi)⟩
theorem dp_s1_gt : ∀ (L : dp_L) (i : Nat) (v : Value) (j : Nat) (w : Value), dp_gt (dp_s1 L i v) j = some w → (j = i ∧ w = v) ∨ (j ≠ i ∧ dp_gt L j = some w ∧ ¬ (j + 1 = i ∧ w.category = 2))
  | [], _, _, _, _, h => by cases h
  | a :: t, 0, v, 0, w, h => by cases h; exact Or.inl ⟨rfl, rfl⟩
  | a :: t, 0, v, j + 1, w, h => Or.inr ⟨by omega, h, by omega⟩
  | a :: t, 1, v, 0, w, h => by
    refine Or.inr ⟨by omega, ?_, ?_⟩
    · have h : dp_c2 a = some w := h
      unfold dp_c2 at h
      split at h <;> first | (cases h; done) | exact h
    · have h : dp_c2 a = some w := h
      unfold dp_c2 at h
      rintro ⟨-, h2⟩
      split at h
      · cases h
      · cases h
      · rename_i n1 n2
        cases w <;> first | (cases h2; done) | exact n1 _ h | exact n2 _ h
  | a :: t, 1, v, j + 1, w, h => by
    have h : dp_gt (dp_s1 t 0 v) j = some w := h
    rcases dp_s1_gt t 0 v j w h with ⟨h1, h2⟩ | ⟨h1, h2, h3⟩
    · exact Or.inl ⟨by omega, h2⟩
    · exact Or.inr ⟨by omega, h2, by omega⟩
  | a :: t, i + 2, v, 0, w, h => Or.inr ⟨by omega, h, by omega⟩
  | a :: t, i + 2, v, j + 1, w, h => by
    have h : dp_gt (dp_s1 t (i + 1) v) j = some w := h
    rcases dp_s1_gt t (i + 1) v j w h with ⟨h1, h2⟩ | ⟨h1, h2, h3⟩
    · exact Or.inl ⟨by omega, h2⟩
    · exact Or.inr ⟨by omega, h2, fun z => h3 ⟨by omega, z.2⟩⟩
theorem dp_s2_gt : ∀ (L : dp_L) (i : Nat) (v : Value) (j : Nat) (w : Value), dp_gt (dp_s2 L i v) j = some w → (j = i ∧ w = v) ∨ (j ≠ i ∧ j ≠ i + 1 ∧ dp_gt L j = some w ∧ ¬ (j + 1 = i ∧ w.category = 2))
  | [], _, _, _, _, h => by cases h
  | a :: t, 0, v, 0, w, h => by cases h; exact Or.inl ⟨rfl, rfl⟩
  | [a], 0, v, j + 1, w, h => by cases h
  | a :: b :: t, 0, v, 1, w, h => by cases h
  | a :: b :: t, 0, v, j + 2, w, h => Or.inr ⟨by omega, by omega, h, by omega⟩
  | a :: t, 1, v, 0, w, h => by
    refine Or.inr ⟨by omega, by omega, ?_, ?_⟩
    · have h : dp_c2 a = some w := h
      unfold dp_c2 at h
      split at h <;> first | (cases h; done) | exact h
    · have h : dp_c2 a = some w := h
      unfold dp_c2 at h
      rintro ⟨-, h2⟩
      split at h
      · cases h
      · cases h
      · rename_i n1 n2
        cases w <;> first | (cases h2; done) | exact n1 _ h | exact n2 _ h
  | a :: t, 1, v, j + 1, w, h => by
    have h : dp_gt (dp_s2 t 0 v) j = some w := h
    rcases dp_s2_gt t 0 v j w h with ⟨h1, h2⟩ | ⟨h1, h1', h2, h3⟩
    · exact Or.inl ⟨by omega, h2⟩
    · exact Or.inr ⟨by omega, by omega, h2, by omega⟩
  | a :: t, i + 2, v, 0, w, h => Or.inr ⟨by omega, by omega, h, by omega⟩
  | a :: t, i + 2, v, j + 1, w, h => by
    have h : dp_gt (dp_s2 t (i + 1) v) j = some w := h
    rcases dp_s2_gt t (i + 1) v j w h with ⟨h1, h2⟩ | ⟨h1, h1', h2, h3⟩
    · exact Or.inl ⟨by omega, h2⟩
    · exact Or.inr ⟨by omega, by omega, h2, fun z => h3 ⟨by omega, z.2⟩⟩
theorem dp_LH.s1 {ls' : Array Slot} {nL : Nat} {ad : Nat → Nat} {L : dp_L} {i : Nat} {v v' : Value} (hv : v' = dp_cv ad v) (h' : lv_has ls' nL ((i, v') :: (dp_as ad 0 L).filter (fun q => !(q.1 == i) && !(q.1 + 1 == i && q.2.category == 2)))) : dp_LH ls' nL ad (dp_s1 L i v) := by
  subst hv
  refine dp_LH.of h' fun j w hw => ?_
  rcases dp_s1_gt L i v j w hw with ⟨rfl, rfl⟩ | ⟨h1, h2, h3⟩
  · exact List.mem_cons_self
  · refine List.mem_cons_of_mem _ (List.mem_filter.mpr ⟨by simpa using dp_as_in ad L 0 j w h2, ?_⟩)
    simp only [dp_cv_cat, Bool.and_eq_true, Bool.not_eq_true', beq_eq_false_iff_ne, Bool.and_eq_false_iff]
    refine ⟨h1, ?_⟩
    by_cases hj : j + 1 = i
    · exact Or.inr (fun z => h3 ⟨hj, z⟩)
    · exact Or.inl hj
theorem dp_LH.s2 {ls' : Array Slot} {nL : Nat} {ad : Nat → Nat} {L : dp_L} {i : Nat} {v v' : Value} (hv : v' = dp_cv ad v) (h' : lv_has ls' nL ((i, v') :: (dp_as ad 0 L).filter (fun q => !(q.1 == i) && (!(q.1 == i + 1) && !(q.1 + 1 == i && q.2.category == 2))))) : dp_LH ls' nL ad (dp_s2 L i v) := by
  subst hv
  refine dp_LH.of h' fun j w hw => ?_
  rcases dp_s2_gt L i v j w hw with ⟨rfl, rfl⟩ | ⟨h1, h1', h2, h3⟩
  · exact List.mem_cons_self
  · refine List.mem_cons_of_mem _ (List.mem_filter.mpr ⟨by simpa using dp_as_in ad L 0 j w h2, ?_⟩)
    simp only [dp_cv_cat, Bool.and_eq_true, Bool.not_eq_true', beq_eq_false_iff_ne, Bool.and_eq_false_iff]
    refine ⟨h1, h1', ?_⟩
    by_cases hj : j + 1 = i
    · exact Or.inr (fun z => h3 ⟨hj, z⟩)
    · exact Or.inl hj
theorem dp_msk_gt : ∀ (b : List Bool) (L : dp_L) (i : Nat) (v : Value), dp_gt (dp_msk b L) i = some v → dp_gt L i = some v
  | [], [], _, _, h => h
  | [], _ :: _, _, _, h => h
  | _ :: _, [], _, _, h => h
  | true :: bs, a :: t, 0, v, h => h
  | false :: bs, a :: t, 0, v, h => by cases h
  | c :: bs, a :: t, i + 1, v, h => dp_msk_gt bs t i v h
theorem dp_none_gt : ∀ (L : dp_L) (i : Nat), dp_gt (L.map fun _ => none) i = none
  | [], _ => rfl
  | _ :: _, 0 => rfl
  | _ :: t, i + 1 => dp_none_gt t i
-- what is fixed around the world
def dp_bw : List Cond := [.declares (Bundle.initS "java/lang/RuntimeException"), .declares (Bundle.initS "java/lang/Exception"), .declares (Bundle.initS "java/lang/Throwable"), .castable (dp_exn 0) (dp_exn 0), .castable (dp_exn 1) (dp_exn 1), .castable (dp_exn 2) (dp_exn 2), .castable "[I" "java/lang/Cloneable"]
def dp_nc : List (String × String) := [(dp_exn 0, dp_exn 1), (dp_exn 0, dp_exn 2), (dp_exn 1, dp_exn 0), (dp_exn 1, dp_exn 2), (dp_exn 2, dp_exn 0), (dp_exn 2, dp_exn 1)]
def dp_GF (g : dp_G) (X : dp_X) (b : Nat) (A : Nat → Prop) (U : State) : Prop :=
  va_K g.1 vwCl [(g.2.1, .int), (g.2.2.1, .long), (g.2.2.2, .array .int)] U ∧ vx_Zq Bundle.tN "UNASSIGNED_STACK" Bundle.steD A U U.heap ∧ vx_Zq Bundle.tN "SUPPRESSED_SENTINEL" Bundle.listD A U U.heap ∧
  va_X b X.1 X.2 U U.heap ∧ b < U.heap.size ∧ ¬ A b ∧ (∀ w ∈ dp_bw, va_Nw w U) ∧ (∀ e ∈ dp_nc, va_Nc e.1 e.2 U) ∧ (∀ e ∈ dp_st, ∃ a, vk_R (dp_o e.1) e.2.1 e.2.2 a U) ∧ ∀ q, U.heap.size ≤ q → A q
theorem dp_bw_warm {s U : State} (hW : s.WarmedH U.vm) (h : ∀ w ∈ dp_bw, va_Nw w s) : ∀ w ∈ dp_bw, va_Nw w U := by
  intro w hw
  have h1 := h w hw
  simp only [dp_bw, List.mem_cons, List.not_mem_nil, or_false] at hw
  rcases hw with rfl | rfl | rfl | rfl | rfl | rfl | rfl
  · exact va_Nw.warmD hW h1
  · exact va_Nw.warmD hW h1
  · exact va_Nw.warmD hW h1
  · exact va_Nw.warmC hW h1
  · exact va_Nw.warmC hW h1
  · exact va_Nw.warmC hW h1
  · exact va_Nw.warmC hW h1
theorem dp_GF.go {g : dp_G} {X : dp_X} {b : Nat} {A : Nat → Prop} {s U : State} {H : Heap} {locs : List Loc} (h : dp_GF g X b A s) (hW : s.WarmedH U.vm) (hU : U.heap = H) (hS : va_S A s.heap H locs) : dp_GF g X b A U := by
  obtain ⟨h1, h2, h3, h4, h5, h6, h7, h8, h9, h10⟩ := h
  have hk : ∀ a : Nat, a < s.heap.size → ¬ A a → U.heap[a]? = s.heap[a]? := fun a ha hn => by rw [hU]; exact hS.2.1 a ha hn
  refine ⟨va_K.moved hW.alike h1, (vx_Zq.moved hW.alike h2).kept hk, (vx_Zq.moved hW.alike h3).kept hk, va_X.moved hW.alike (h4.kept (hk b h5 h6)), by rw [hU]; exact Nat.lt_of_lt_of_le h5 hS.1, h6, dp_bw_warm hW h7, fun e he => va_Nc.moved hW.alike (h8 e he), fun e he => ?_, fun q hq => h10 q (Nat.le_trans hS.1 (by rw [← hU]; exact hq))⟩
  obtain ⟨a, ha⟩ := h9 e he
  exact ⟨a, vk_R.warm hW ha⟩
/-- a call begins -/
theorem dp_GF.call {g : dp_G} {X : dp_X} {b : Nat} {A : Nat → Prop} {U : State} {f : JFrame} {mk : MethodId} {a : Array Value} (h : dp_GF g X b A U) : dp_GF g X b A (U.calling f mk a) := by
  obtain ⟨h1, h2, h3, h4, h5, h6, h7, h8, h9, h10⟩ := h
  refine ⟨va_K.moved (u := U) (U := U.calling f mk a) (Vm.Alike.refl U.vm) h1, vx_Zq.moved (u := U) (U := U.calling f mk a) (Vm.Alike.refl U.vm) h2, vx_Zq.moved (u := U) (U := U.calling f mk a) (Vm.Alike.refl U.vm) h3, va_X.moved (u := U) (U := U.calling f mk a) (Vm.Alike.refl U.vm) h4, h5, h6, fun w hw => va_Nw.same (u := U) (List.all_eq_true.mp (show dp_bw.all Cond.onTables = true by decide +kernel) w hw) rfl (h7 w hw), fun e he => va_Nc.moved (u := U) (U := U.calling f mk a) (Vm.Alike.refl U.vm) (h8 e he), fun e he => ?_, h10⟩
  obtain ⟨q, hq⟩ := h9 e he
  exact ⟨q, vk_R.same (u := U) rfl hq⟩
end
section
/-! the words that the methods need, and their facts -/
-- words
def dp_wc : List Cond := dp_cw0 ++ (dp_cw1 ++ (dp_cw2 ++ (dp_cw3 ++ (dp_cw4 ++ dp_cw5))))
def dp_wd : List Cond := dp_wc ++ (dp_n1 ++ (dp_n2 ++ (dp_n3 ++ dp_x2)))
def dp_gw (w : Cond) : Prop := w ∈ lw_tbl ∧ ((w.onTables && w.keeps) = true ∨ ∃ ty, w = .arrayClass ty)
theorem dp_gw_of {l : List Cond} {ix : List Nat} (h1 : l = ix.filterMap (fun i => lw_tbl[i]?)) (h2 : l.all goodWord = true) : ∀ w ∈ l, dp_gw w := by
  intro w hw
  refine ⟨?_, good_of_word (List.all_eq_true.mp h2 w hw)⟩
  rw [h1] at hw
  obtain ⟨i, -, hi⟩ := List.mem_filterMap.mp hw
  exact List.mem_of_getElem? hi
theorem dp_wd_good : ∀ w ∈ dp_wd, dp_gw w := by
  intro w hw
  simp only [dp_wd, dp_wc, List.mem_append] at hw
  rcases hw with (h | h | h | h | h | h) | h | h | h | h
  · exact dp_gw_of dp_cw0_in dp_cw0_good w h
  · exact dp_gw_of dp_cw1_in dp_cw1_good w h
  · exact dp_gw_of dp_cw2_in dp_cw2_good w h
  · exact dp_gw_of dp_cw3_in dp_cw3_good w h
  · exact dp_gw_of dp_cw4_in dp_cw4_good w h
  · exact dp_gw_of dp_cw5_in dp_cw5_good w h
  · exact dp_gw_of dp_n1_in dp_n1_good w h
  · exact dp_gw_of dp_n2_in dp_n2_good w h
  · exact dp_gw_of dp_n3_in dp_n3_good w h
  · exact dp_gw_of dp_x2_in dp_x2_good w h
theorem dp_wd_code {z : Nat} (hz : z < 146) : dp_codeW z ∈ dp_wd := by
  have key : ∀ {a k : Nat} {l : List Cond}, (List.range' a k).map dp_codeW = l → a ≤ z → z < a + k → dp_codeW z ∈ l := fun e h1 h2 => by
    rw [← e]; exact List.mem_map.mpr ⟨z, List.mem_range'_1.mpr ⟨h1, h2⟩, rfl⟩
  simp only [dp_wd, dp_wc, List.mem_append]
  rcases Nat.lt_or_ge z 25 with h | h
  · exact Or.inl (Or.inl (key dp_cw0_is (by omega) (by omega)))
  rcases Nat.lt_or_ge z 50 with h | h
  · exact Or.inl (Or.inr (Or.inl (key dp_cw1_is (by omega) (by omega))))
  rcases Nat.lt_or_ge z 75 with h | h
  · exact Or.inl (Or.inr (Or.inr (Or.inl (key dp_cw2_is (by omega) (by omega)))))
  rcases Nat.lt_or_ge z 100 with h | h
  · exact Or.inl (Or.inr (Or.inr (Or.inr (Or.inl (key dp_cw3_is (by omega) (by omega))))))
  rcases Nat.lt_or_ge z 125 with h | h
  · exact Or.inl (Or.inr (Or.inr (Or.inr (Or.inr (Or.inl (key dp_cw4_is (by omega) (by omega)))))))
  · exact Or.inl (Or.inr (Or.inr (Or.inr (Or.inr (Or.inr (key dp_cw5_is (by omega) (by omega)))))))
theorem dp_wd_kind {z : Nat} (hz : z < 146) : dp_kindW z ∈ dp_wd := by
  simp only [dp_wd, dp_n1, List.mem_append]
  exact Or.inr (Or.inl (Or.inl (List.mem_map.mpr ⟨z, List.mem_range.mpr hz, rfl⟩)))
theorem dp_wd_link {e : Nat × Nat × Nat} (he : e ∈ dp_ml) : dp_linkW e ∈ dp_wd := by
  simp only [dp_wd, dp_n1, List.mem_append]
  exact Or.inr (Or.inl (Or.inr (Or.inl (List.mem_map.mpr ⟨e, he, rfl⟩))))
theorem dp_wd_nat {e : Nat × Nat × Nat} (he : e ∈ dp_nl) : dp_linkN e ∈ dp_wd := by
  simp only [dp_wd, dp_n1, List.mem_append]
  exact Or.inr (Or.inl (Or.inr (Or.inr (List.mem_map.mpr ⟨e, he, rfl⟩))))
theorem dp_wd_field {e : Nat × Nat × Nat × Nat} (he : e ∈ dp_fl) : dp_fieldW e ∈ dp_wd := by
  simp only [dp_wd, dp_n2, List.mem_append]
  exact Or.inr (Or.inr (Or.inl (Or.inl (List.mem_map.mpr ⟨e, he, rfl⟩))))
theorem dp_wd_sel {z : Nat} (he : z ∈ dp_vids) : dp_selW z ∈ dp_wd := by
  simp only [dp_wd, dp_n2, List.mem_append]
  exact Or.inr (Or.inr (Or.inl (Or.inr (Or.inl (List.mem_map.mpr ⟨z, he, rfl⟩)))))
theorem dp_wd_init {k : Nat} (hk : k < 8) : Cond.initialized (dp_o k) ∈ dp_wd := by
  simp only [dp_wd, dp_n2, List.mem_append]
  refine Or.inr (Or.inr (Or.inl (Or.inr (Or.inr (Or.inl (List.mem_map.mpr ⟨dp_o k, ?_, rfl⟩))))))
  unfold dp_o
  rw [List.getD_eq_getElem?_getD, List.getElem?_eq_getElem (show k < dp_owns.length from hk)]
  exact List.getElem_mem _
theorem dp_wd_lays {c : Nat} {q : vw_C} (hc : vwCl[c]? = some q) : ∀ w ∈ u_ws q.1 q.2.1 q.2.2, w ∈ dp_wd := by
  intro w hw
  simp only [dp_wd, dp_n2, List.mem_append]
  refine Or.inr (Or.inr (Or.inl (Or.inr (Or.inr (Or.inr ?_)))))
  match c, hc with
  | 0, hc => cases hc; exact Or.inl hw
  | 1, hc => cases hc; exact Or.inr (Or.inl hw)
  | 2, hc => cases hc; exact Or.inr (Or.inr (Or.inl hw))
  | 3, hc => cases hc; exact Or.inr (Or.inr (Or.inr (Or.inl hw)))
  | 4, hc => cases hc; exact Or.inr (Or.inr (Or.inr (Or.inr hw)))
  | c + 5, hc => simp [vwCl] at hc
theorem dp_wd_cl {e : Nat × Nat × Int64} (he : e ∈ dp_cl) : Cond.constantLong (dp_o e.1) e.2.1 e.2.2 ∈ dp_wd := by
  simp only [dp_wd, dp_n3, List.mem_append]
  exact Or.inr (Or.inr (Or.inr (Or.inl (Or.inl (List.mem_map.mpr ⟨e, he, rfl⟩)))))
theorem dp_wd_ci {e : Nat × Nat × Int32} (he : e ∈ dp_ci) : Cond.constant (dp_o e.1) e.2.1 e.2.2 ∈ dp_wd := by
  simp only [dp_wd, dp_n3, List.mem_append]
  exact Or.inr (Or.inr (Or.inr (Or.inl (Or.inr (Or.inl (List.mem_map.mpr ⟨e, he, rfl⟩))))))
theorem dp_wd_x0 {w : Cond} (k : Nat) (h : dp_x0[k]? = some w) : w ∈ dp_wd := by
  simp only [dp_wd, dp_n3, List.mem_append]
  exact Or.inr (Or.inr (Or.inr (Or.inl (Or.inr (Or.inr (Or.inl (List.mem_of_getElem? h)))))))
theorem dp_wd_x1 {w : Cond} (k : Nat) (h : dp_x1[k]? = some w) : w ∈ dp_wd := by
  simp only [dp_wd, dp_n3, List.mem_append]
  exact Or.inr (Or.inr (Or.inr (Or.inl (Or.inr (Or.inr (Or.inr (List.mem_of_getElem? h)))))))
theorem dp_wd_x2 {w : Cond} (h : w ∈ dp_x2) : w ∈ dp_wd := by
  simp only [dp_wd, List.mem_append]
  exact Or.inr (Or.inr (Or.inr (Or.inr h)))
theorem dp_lo_in {α : Type} : ∀ (l : List (Nat × Nat × α)) (o i : Nat) (x : α), dp_lo l o i = some x → (o, i, x) ∈ l
  | [], _, _, _, h => by cases h
  | (a, b, y) :: t, o, i, x, h => by
    unfold dp_lo at h
    by_cases hc : a = o ∧ b = i
    · rw [if_pos hc] at h
      cases h
      rw [hc.1, hc.2]
      exact List.mem_cons_self
    · rw [if_neg hc] at h
      exact List.mem_cons_of_mem _ (dp_lo_in t o i x h)
theorem dp_fld_in {o i ci k : Nat} (h : dp_fld o i = some (ci, k)) : (o, i, ci, k) ∈ dp_fl := by
  have h1 := dp_lo_in _ o i _ h
  obtain ⟨⟨a, b, c, d⟩, he, h2⟩ := List.mem_map.mp h1
  cases h2
  exact he
-- methods
def dp_zok (z : Nat) : Bool := decide ((dp_nm z).cls ≠ "java/lang/invoke/MethodHandle") && decide ((dp_nm z).cls ≠ "java/lang/invoke/VarHandle") && plainName (dp_nm z).cls && decide ((dp_nm z).cls = dp_o (dp_ow z)) &&
  decide ((parseMethodDescriptor (dp_nm z).desc).map (fun d => d.parameters.length) = some (dp_na z - (if dp_sta z then 0 else 1))) && decide (dp_mL z ≤ 9) && decide (dp_ow z < 8) && (dp_sta z || (decide (z ∈ dp_vids) && (dp_hh z).isEmpty && decide (1 ≤ dp_na z)))
set_option maxRecDepth 100000 in
set_option maxHeartbeats 4000000 in
theorem dp_zok_all : (List.range 147).all dp_zok = true := by decide +kernel
theorem dp_zok_spec {z : Nat} (hz : z < 147) : (dp_nm z).cls ≠ "java/lang/invoke/MethodHandle" ∧ (dp_nm z).cls ≠ "java/lang/invoke/VarHandle" ∧ plainName (dp_nm z).cls = true ∧ (dp_nm z).cls = dp_o (dp_ow z) ∧
    (parseMethodDescriptor (dp_nm z).desc).map (fun d => d.parameters.length) = some (dp_na z - (if dp_sta z then 0 else 1)) ∧ dp_mL z ≤ 9 ∧ dp_ow z < 8 ∧ (dp_sta z = true ∨ (z ∈ dp_vids ∧ (dp_hh z).isEmpty = true ∧ 1 ≤ dp_na z)) := by
  have h := List.all_eq_true.mp dp_zok_all z (List.mem_range.mpr hz)
  simp only [dp_zok, Bool.and_eq_true, Bool.or_eq_true, decide_eq_true_eq] at h
  obtain ⟨⟨⟨⟨⟨⟨⟨h1, h2⟩, h3⟩, h4⟩, h5⟩, h6⟩, h7⟩, h8⟩ := h
  refine ⟨h1, h2, h3, h4, h5, h6, h7, ?_⟩
  rcases h8 with h8 | ⟨⟨h8, h9⟩, h10⟩
  · exact Or.inl h8
  · exact Or.inr ⟨h8, h9, h10⟩
theorem dp_ml_lt : ∀ e ∈ dp_ml, e.2.2 < 146 := by decide +kernel
set_option maxRecDepth 100000 in
theorem dp_fl_ok : ∀ e ∈ dp_fl, e.1 < 8 ∧ e.2.2.1 < 5 ∧ e.2.2.2 < (vwCl.getD e.2.2.1 (RX0, TX0, 5)).2.2 ∧ (dp_TT e.2.2.1 e.2.2.2).1 = (vwCl.getD e.2.2.1 (RX0, TX0, 5)).1 := by decide +kernel
end
section
/-! The deep semantics is sound over the machine: one instruction. -/
abbrev dp_rm (z d : Nat) : Room := { frames := d, cells := dp_mc z, slots := dp_ms z, locals := 28 * d + 60 }
def dp_Qc (g : dp_G) (A : Nat → Prop) (ad : Nat → Nat) (n : Nat) (Q : dp_Q) : Array Value → State → Outcome → State → Prop := fun _ st oc t =>
  (∃ (v : Option Value) (M : dp_M) (o : Int64), oc = .returned v ∧ (∀ ad' : Nat → Nat, v.map (dp_cv ad') = v) ∧ Q (.inl v) M o ∧ va_P g.1 vwCl (dp_wl g ad n M o) t.heap ∧ va_D A (dp_wl g ad n M o)) ∧ va_F A st t
def dp_XC (g : dp_G) (A : Nat → Prop) (ad : Nat → Nat) (n : Nat) (Q : dp_Q) : String → State → State → Prop := fun E st t =>
  (∃ (k : Nat) (M : dp_M) (o : Int64), E = dp_exn k ∧ k ≤ 2 ∧ Q (.inr k) M o ∧ va_P g.1 vwCl (dp_wl g ad n M o) t.heap ∧ va_D A (dp_wl g ad n M o)) ∧ va_F A st t
def dp_Pc (g : dp_G) (X : dp_X) (b : Nat) (A : Nat → Prop) (ad : Nat → Nat) (n : Nat) (M : dp_M) (o : Int64) : State → Prop := fun U =>
  dp_GF g X b A U ∧ va_P g.1 vwCl (dp_wl g ad n M o) U.heap ∧ va_D A (dp_wl g ad n M o)
/-- what a call asks of its method -/
def dp_Mt (l : Launch) (g : dp_G) (X : dp_X) (b : Nat) (A : Nat → Prop) (d : Nat) : dp_C := fun z as n M o Q =>
  65 ≤ n → n < 1000 → dp_asz as ≤ dp_mL z → ∀ ad : Nat → Nat, ad 1000 = b → vx_Met l (dp_nm z) (dp_codeW z :: dp_wd) (dp_rm z d) (va_Pc (as.map (dp_cv ad)) (dp_Pc g X b A ad n M o)) (dp_Qc g A ad n Q) (dp_XC g A ad n Q) (dp_mc z) (dp_ms z) A
def dp_isr (y pc : Nat) (v : Option Value) : Prop :=
  (decode (dp_by y) pc = .ok (.return_, 1) ∧ v = none ∧ dp_rk y = 0) ∨ (∃ x : Int32, decode (dp_by y) pc = .ok (.ireturn, 1) ∧ v = some (.int x) ∧ dp_rz (dp_rk y) x) ∨
  (∃ x : Int64, decode (dp_by y) pc = .ok (.lreturn, 1) ∧ v = some (.long x) ∧ dp_rk y = 2) ∨ (∃ x : UInt64, decode (dp_by y) pc = .ok (.dreturn, 1) ∧ v = some (.double x) ∧ dp_rk y = 3)
section DPS
variable {p : Program} {l : Launch} {e : Env} {R : Room} {s : State} {m : MethodId} {args : Array Value} {below : List Frame} {meth : Method} {c : Code} {Qm : State → Prop}
variable {g : dp_G} {X : dp_X} {b : Nat} {A : Nat → Prop} {y d n0 : Nat} {ad0 : Nat → Nat} {Q : dp_Q}
def dp_KW (p : Program) (l : Launch) (e : Env) (R : Room) (s : State) (m : MethodId) (args : Array Value) (below : List Frame) (meth : Method) (c : Code) (Qm : State → Prop) (g : dp_G) (b : Nat) (A : Nat → Prop) (nL n0 : Nat) (ad0 : Nat → Nat) : dp_K := fun pc L st n cc q M o =>
  (n0 ≤ n ∧ n < 1000) → ∀ (ad : Nat → Nat) (H : Heap) (locs : List Loc) (ls : Array Slot), (∀ k, k < n0 → ad k = ad0 k) → ad 1000 = b → dp_LH ls nL ad L → va_P g.1 vwCl (dp_wl g ad n M o) H → va_D A (dp_wl g ad n M o) → va_S A s.heap H locs →
    W p l e R s m args below meth c H locs cc q Qm (F0 m pc ls (st.map (dp_cv ad)))
/-- what a body stands on -/
def dp_Cx (p : Program) (l : Launch) (R : Room) (s : State) (m : MethodId) (args : Array Value) (c : Code) (g : dp_G) (X : dp_X) (b : Nat) (A : Nat → Prop) (y d : Nat) : Prop :=
  p.tables.exec = Jvm.exec ∧ c.code = dp_by y ∧ c.maxLocals = dp_mL y ∧ s.vm.findClass (dp_o (dp_ow y)) = some m.cls ∧ (∀ w ∈ dp_wd, w.before args s = true) ∧ l.stackTraces = false ∧
  c.exceptionTable.toList = tableOf (dp_hh y) ∧ 1 ≤ d ∧ d ≤ R.frames ∧ 28 * d + 60 ≤ R.locals ∧ R.cells = dp_mc y ∧ R.slots = dp_ms y ∧ y < 147 ∧ dp_GF g X b A s
/-- a return -/
def dp_En (p : Program) (l : Launch) (e : Env) (R : Room) (s : State) (m : MethodId) (args : Array Value) (below : List Frame) (meth : Method) (c : Code) (Qm : State → Prop) (g : dp_G) (b : Nat) (A : Nat → Prop) (y n0 : Nat) (ad0 : Nat → Nat) (Q : dp_Q) : Prop :=
  ∀ (v : Option Value) (pc n cc q : Nat) (M : dp_M) (o : Int64) (ad : Nat → Nat) (H : Heap) (locs : List Loc) (ls : Array Slot), n0 ≤ n → (∀ k, k < n0 → ad k = ad0 k) → va_P g.1 vwCl (dp_wl g ad n M o) H → va_D A (dp_wl g ad n M o) → va_S A s.heap H locs →
    dp_isr y pc v → cc ≤ dp_mc y → q ≤ dp_ms y → Q (.inl v) M o → W p l e R s m args below meth c H locs cc q Qm (F0 m pc ls v.toList)
/-- an exception of a callee leaves -/
def dp_Ex (p : Program) (l : Launch) (e : Env) (R : Room) (s : State) (m : MethodId) (args : Array Value) (below : List Frame) (meth : Method) (c : Code) (Qm : State → Prop) (g : dp_G) (b : Nat) (A : Nat → Prop) (y n0 : Nat) (ad0 : Nat → Nat) (Q : dp_Q) : Prop :=
  ∀ (k pc n cc q : Nat) (M : dp_M) (o : Int64) (ad : Nat → Nat) (H : Heap) (locs : List Loc) (ls : Array Slot) (st : List Value) (ce : Cell) (q9 : Addr), n0 ≤ n → (∀ k, k < n0 → ad k = ad0 k) → va_P g.1 vwCl (dp_wl g ad n M o) H → va_D A (dp_wl g ad n M o) → va_S A s.heap H locs →
    dp_hf (dp_hh y) pc k = none → k ≤ 2 → H[q9]? = some ce → ce.vm = .none → s.vm.findClass (dp_exn k) = some ce.cls → cc ≤ dp_mc y → q ≤ dp_ms y → Q (.inr k) M o → vx_W p l e R s m args below meth c H locs cc q Qm (F0 m pc ls st) q9
/-- a throw here -/
def dp_Nw (p : Program) (l : Launch) (e : Env) (R : Room) (s : State) (m : MethodId) (args : Array Value) (below : List Frame) (meth : Method) (c : Code) (Qm : State → Prop) (g : dp_G) (b : Nat) (A : Nat → Prop) (y d n0 : Nat) (ad0 : Nat → Nat) (Q : dp_Q) : Prop :=
  ∀ (i pc n cc q : Nat) (M : dp_M) (o : Int64) (ad : Nat → Nat) (H : Heap) (locs : List Loc) (ls : Array Slot) (st : List Value), n0 ≤ n → (∀ k, k < n0 → ad k = ad0 k) → ls.size = dp_mL y → va_P g.1 vwCl (dp_wl g ad n M o) H → va_D A (dp_wl g ad n M o) → va_S A s.heap H locs →
    decode (dp_by y) pc = .ok (.new i, 3) → dp_npat (dp_tl y) pc i = true → dp_ow y = 3 → dp_ec i ≤ 2 → dp_exk (dp_ec i) = i → dp_thr d y Q st cc q M o (dp_ec i) → W p l e R s m args below meth c H locs cc q Qm (F0 m pc ls (st.map (dp_cv ad)))
theorem dp_jt_eq {pc : Nat} {off : Int} (h : 0 ≤ (pc : Int) + off) : (pc : Int) + off = ((dp_jt pc off : Nat) : Int) := by
  unfold dp_jt
  omega
theorem dp_sum_le (ad : Nat → Nat) : ∀ (r : List Value), ((r.map (dp_cv ad)).map fun v => v.category).sum ≤ 2 * r.length
  | [] => Nat.le_refl _
  | v :: t => by
    have h1 := dp_sum_le ad t
    have h2 : (dp_cv ad v).category ≤ 2 := by
      rcases lv_cat (dp_cv ad v) with h | h <;> omega
    simp only [List.map_cons, List.sum_cons, List.length_cons]
    omega
theorem dp_KW.msk {b9 : List Bool} {pc : Nat} {L : dp_L} {st : List Value} {n cc q nL : Nat} {M : dp_M} {o : Int64} (h : dp_KW p l e R s m args below meth c Qm g b A nL n0 ad0 pc (dp_msk b9 L) st n cc q M o) : dp_KW p l e R s m args below meth c Qm g b A nL n0 ad0 pc L st n cc q M o :=
  fun h0 ad H locs ls h1 h2 h3 h4 h5 h6 => h h0 ad H locs ls h1 h2 ⟨h3.1, h3.2.1, fun i v hi => h3.2.2 i v (dp_msk_gt b9 L i v hi)⟩ h4 h5 h6
-- loads
theorem dp_li_of {L : dp_L} {i : Nat} {f : Int32 → Prop} (h : dp_li L i f) : ∃ x, dp_gt L i = some (.int x) ∧ f x := by
  unfold dp_li at h
  split at h
  · rename_i x hx
    exact ⟨x, hx, h⟩
  · exact h.elim
theorem dp_lj_of {L : dp_L} {i : Nat} {f : Int64 → Prop} (h : dp_lj L i f) : ∃ x, dp_gt L i = some (.long x) ∧ f x := by
  unfold dp_lj at h
  split at h
  · rename_i x hx
    exact ⟨x, hx, h⟩
  · exact h.elim
theorem dp_ld_of {L : dp_L} {i : Nat} {f : UInt64 → Prop} (h : dp_ld L i f) : ∃ x, dp_gt L i = some (.double x) ∧ f x := by
  unfold dp_ld at h
  split at h
  · rename_i x hx
    exact ⟨x, hx, h⟩
  · exact h.elim
theorem dp_lr_of {L : dp_L} {i : Nat} {f : Nat → Prop} (h : dp_lr L i f) : ∃ x, dp_gt L i = some (.ref x) ∧ f x := by
  unfold dp_lr at h
  split at h
  · rename_i x hx
    exact ⟨x, hx, h⟩
  · exact h.elim
theorem dp_p1_of {st : List Value} {f : Value → List Value → Prop} (h : dp_p1 st f) : ∃ v r, st = v :: r ∧ f v r := by
  unfold dp_p1 at h
  split at h
  · exact ⟨_, _, rfl, h⟩
  · exact h.elim
theorem dp_pi_of {st : List Value} {f : Int32 → List Value → Prop} (h : dp_pi st f) : ∃ x r, st = .int x :: r ∧ f x r := by
  unfold dp_pi at h
  split at h
  · exact ⟨_, _, rfl, h⟩
  · exact h.elim
theorem dp_pj_of {st : List Value} {f : Int64 → List Value → Prop} (h : dp_pj st f) : ∃ x r, st = .long x :: r ∧ f x r := by
  unfold dp_pj at h
  split at h
  · exact ⟨_, _, rfl, h⟩
  · exact h.elim
theorem dp_pd_of {st : List Value} {f : UInt64 → List Value → Prop} (h : dp_pd st f) : ∃ x r, st = .double x :: r ∧ f x r := by
  unfold dp_pd at h
  split at h
  · exact ⟨_, _, rfl, h⟩
  · exact h.elim
theorem dp_pr_of {st : List Value} {f : Nat → List Value → Prop} (h : dp_pr st f) : ∃ x r, st = .ref x :: r ∧ f x r := by
  unfold dp_pr at h
  split at h
  · exact ⟨_, _, rfl, h⟩
  · exact h.elim
theorem dp_opt_of {α : Type} {e : Option α} {f : α → Prop} (h : dp_opt e f) : ∃ x, e = some x ∧ f x := by
  unfold dp_opt at h
  split at h
  · exact ⟨_, rfl, h⟩
  · exact h.elim
theorem dp_get_of {M : dp_M} {h : Nat} {e : Option (Nat × Nat)} {f : Value → Prop} (hh : dp_get M h e f) : ∃ ci k fs v, e = some (ci, k) ∧ dp_obj M h = some (ci, fs) ∧ dp_gtv fs k = some v ∧ f v := by
  unfold dp_get at hh
  split at hh
  · split at hh
    · rename_i ci k x9 q hq
      obtain ⟨h1, h2⟩ := hh
      split at h2
      · rename_i v hv
        exact ⟨ci, k, q.2, v, rfl, by rw [hq, ← h1], hv, h2⟩
      · exact h2.elim
    · exact hh.elim
  · exact hh.elim
theorem dp_put_of {M : dp_M} {h : Nat} {e : Option (Nat × Nat)} {f : Nat → Prop} (hh : dp_put M h e f) : ∃ ci k fs w, e = some (ci, k) ∧ dp_obj M h = some (ci, fs) ∧ dp_gtv fs k = some (.int w) ∧ f k := by
  unfold dp_put at hh
  split at hh
  · split at hh
    · rename_i ci k x9 q hq
      obtain ⟨h1, h2⟩ := hh
      split at h2
      · rename_i w hw
        exact ⟨ci, k, q.2, w, rfl, by rw [hq, ← h1], hw, h2⟩
      · exact h2.elim
    · exact hh.elim
  · exact hh.elim
theorem dp_cel_O {ad : Nat → Nat} {M : dp_M} {o : Int64} {h : Nat} {q : Nat × List Value} (hq : dp_obj M h = some q) : dp_cel g ad M o h = .inr (q.1, q.2.map (dp_cv ad)) := by
  unfold dp_cel
  rw [hq]
theorem dp_ts_of {x : Int32} : ∀ {lo : Int} {os : List Int} {F : Int → Prop} (i : Nat) (h : dp_ts x lo os F) (hx : x.toInt = lo + i) (hi : i < os.length), ∃ o, os[i]? = some o ∧ F o
  | lo, [], F, i, h, hx, hi => absurd hi (Nat.not_lt_zero _)
  | lo, o :: t, F, 0, h, hx, hi => ⟨o, rfl, h.1 (by simpa using hx)⟩
  | lo, o :: t, F, i + 1, h, hx, hi => by
    obtain ⟨z, h1, h2⟩ := dp_ts_of (lo := lo + 1) (os := t) i h.2 (by rw [hx]; push_cast; omega) (by simpa using hi)
    exact ⟨z, by rw [List.getElem?_cons_succ]; exact h1, h2⟩
end DPS
end
section
/-! Calls, throws and handlers in the deep semantics, over the machine. -/
theorem dp_take_of : ∀ (k : Nat) (st acc : List Value) (f : List Value → List Value → Prop), dp_take k st acc f → ∃ t r, t.length = k ∧ st = t ++ r ∧ f (t.reverse ++ acc) r
  | 0, st, acc, f, h => ⟨[], st, rfl, rfl, h⟩
  | k + 1, [], acc, f, h => h.elim
  | k + 1, v :: st, acc, f, h => by
    obtain ⟨t, r, h1, h2, h3⟩ := dp_take_of k st (v :: acc) f h
    refine ⟨v :: t, r, by rw [List.length_cons, h1], by rw [h2]; rfl, ?_⟩
    rw [List.reverse_cons, List.append_assoc]
    exact h3
def dp_hho (y : Nat) : Bool := (dp_hh y).all (fun e => decide (e.2.2.2 = 13 ∨ e.2.2.2 = 19 ∨ e.2.2.2 = 31)) && ((dp_hh y).isEmpty || decide (dp_ow y = 5))
set_option maxRecDepth 100000 in
theorem dp_hho_all : (List.range 147).all dp_hho = true := by decide +kernel
theorem dp_hho_spec {y : Nat} (hy : y < 147) {e : Nat × Nat × Nat × Nat} (he : e ∈ dp_hh y) : (e.2.2.2 = 13 ∨ e.2.2.2 = 19 ∨ e.2.2.2 = 31) ∧ dp_ow y = 5 := by
  have h := List.all_eq_true.mp dp_hho_all y (List.mem_range.mpr hy)
  simp only [dp_hho, Bool.and_eq_true, Bool.or_eq_true, decide_eq_true_eq] at h
  refine ⟨of_decide_eq_true (List.all_eq_true.mp h.1 e he), ?_⟩
  rcases h.2 with h2 | h2
  · rw [List.isEmpty_iff.mp h2] at he
    cases he
  · exact h2
theorem dp_hf_some : ∀ (hh : List (Nat × Nat × Nat × Nat)) (pc k h : Nat), dp_hf hh pc k = some h → ∃ pre x suf, hh = pre ++ x :: suf ∧ x.2.2.1 = h ∧ (x.1 ≤ pc ∧ pc < x.2.1) ∧ dp_hk x.2.2.2 = k ∧ ∀ z ∈ pre, ¬ (z.1 ≤ pc ∧ pc < z.2.1) ∨ dp_hk z.2.2.2 ≠ k
  | [], _, _, _, h => by cases h
  | (a, b, h0, ct) :: t, pc, k, h, hh => by
    unfold dp_hf at hh
    by_cases hc : (a ≤ pc ∧ pc < b) ∧ dp_hk ct = k
    · rw [if_pos hc] at hh
      cases hh
      exact ⟨[], (a, b, h0, ct), t, rfl, rfl, hc.1, hc.2, fun z hz => by cases hz⟩
    · rw [if_neg hc] at hh
      obtain ⟨pre, x, suf, e1, e2, e3, e4, e5⟩ := dp_hf_some t pc k h hh
      refine ⟨(a, b, h0, ct) :: pre, x, suf, by rw [e1]; rfl, e2, e3, e4, fun z hz => ?_⟩
      rcases List.mem_cons.mp hz with rfl | hz
      · by_cases h9 : a ≤ pc ∧ pc < b
        · exact Or.inr (fun q => hc ⟨h9, q⟩)
        · exact Or.inl h9
      · exact e5 z hz
theorem dp_hf_none : ∀ (hh : List (Nat × Nat × Nat × Nat)) (pc k : Nat), dp_hf hh pc k = none → ∀ z ∈ hh, ¬ (z.1 ≤ pc ∧ pc < z.2.1) ∨ dp_hk z.2.2.2 ≠ k
  | [], _, _, _, z, hz => by cases hz
  | (a, b, h0, ct) :: t, pc, k, hh, z, hz => by
    unfold dp_hf at hh
    by_cases hc : (a ≤ pc ∧ pc < b) ∧ dp_hk ct = k
    · rw [if_pos hc] at hh
      cases hh
    · rw [if_neg hc] at hh
      rcases List.mem_cons.mp hz with rfl | hz
      · by_cases h9 : a ≤ pc ∧ pc < b
        · exact Or.inr (fun q => hc ⟨h9, q⟩)
        · exact Or.inl h9
      · exact dp_hf_none t pc k hh z hz
theorem dp_nc_of {s : State} (h : ∀ e ∈ dp_nc, va_Nc e.1 e.2 s) {j k : Nat} (hj : j ≤ 2) (hk : k ≤ 2) (hjk : j ≠ k) : va_Nc (dp_exn j) (dp_exn k) s := by
  have : (dp_exn j, dp_exn k) ∈ dp_nc := by
    rcases (by omega : j = 0 ∨ j = 1 ∨ j = 2) with rfl | rfl | rfl <;> rcases (by omega : k = 0 ∨ k = 1 ∨ k = 2) with rfl | rfl | rfl <;> first | (exact absurd rfl hjk) | (simp [dp_nc])
  exact h _ this
section DPC
variable {p : Program} {l : Launch} {e : Env} {R : Room} {s : State} {m : MethodId} {args : Array Value} {below : List Frame} {meth : Method} {c : Code} {Qm : State → Prop}
variable {g : dp_G} {X : dp_X} {b : Nat} {A : Nat → Prop} {y d n0 : Nat} {ad0 : Nat → Nat} {Q : dp_Q}
/-- a handler of this method, and its class's word -/
theorem dp_hword (hts : ∀ w ∈ dp_wd, w.before args s = true) {ct : Nat} (h : ct = 13 ∨ ct = 19 ∨ ct = 31) : (Cond.classLink RL ct (dp_exn (dp_hk ct))).before args s = true ∧ dp_hk ct ≤ 2 ∧ ct ≠ 0 := by
  rcases h with rfl | rfl | rfl
  · exact ⟨hts _ (dp_wd_x1 2 rfl), by decide, by decide⟩
  · exact ⟨hts _ (dp_wd_x1 5 rfl), by decide, by decide⟩
  · exact ⟨hts _ (dp_wd_x1 8 rfl), by decide, by decide⟩
theorem dp_hpass (C : dp_Cx p l R s m args c g X b A y d) {pc k : Nat} (hk : k ≤ 2) {hs : List (Nat × Nat × Nat × Nat)} (hin : ∀ z ∈ hs, z ∈ dp_hh y) (h : ∀ z ∈ hs, ¬ (z.1 ≤ pc ∧ pc < z.2.1) ∨ dp_hk z.2.2.2 ≠ k) :
    ∀ z ∈ tableOf hs, covers z pc = false ∨ (z.catchType ≠ 0 ∧ ∃ nm : String, (Cond.classLink (dp_o (dp_ow y)) z.catchType nm).before args s = true ∧ va_Nc (dp_exn k) nm s) := by
  obtain ⟨hx, hb, hml, hown, hts, htr, htab, hd1, hfr, hlo, hRc, hRs, hy, hG⟩ := C
  intro z hz
  obtain ⟨q, hq, rfl⟩ := List.mem_map.mp hz
  obtain ⟨h1, h2⟩ := dp_hho_spec hy (hin q hq)
  obtain ⟨w1, w2, w3⟩ := dp_hword hts h1
  rcases h q hq with h9 | h9
  · left
    simp only [covers, Bool.and_eq_false_iff, decide_eq_false_iff_not]
    by_cases h8 : q.1 ≤ pc
    · exact Or.inr (fun h7 => h9 ⟨h8, h7⟩)
    · exact Or.inl h8
  · right
    refine ⟨w3, dp_exn (dp_hk q.2.2.2), ?_, dp_nc_of hG.2.2.2.2.2.2.2.1 hk w2 (fun z => h9 z.symm)⟩
    rw [h2]
    exact w1
theorem dp_hdl_ok (C : dp_Cx p l R s m args c g X b A y d) (hX : dp_Ex p l e R s m args below meth c Qm g b A y n0 ad0 Q) {k pc n cc q : Nat} {L : dp_L} {M : dp_M} {o : Int64} {ad : Nat → Nat} {H : Heap} {locs : List Loc} {ls : Array Slot} {st : List Value} {ce : Cell} {q9 : Addr}
    (h0 : n0 ≤ n ∧ n < 1000) (h1 : ∀ k, k < n0 → ad k = ad0 k) (h2 : ad 1000 = b) (h3 : dp_LH ls (dp_mL y) ad L) (h4 : va_P g.1 vwCl (dp_wl g ad n M o) H) (h5 : va_D A (dp_wl g ad n M o)) (h6 : va_S A s.heap H locs)
    (hk : k ≤ 2) (hcell : H[q9]? = some ce) (hv : ce.vm = .none) (hcl : s.vm.findClass (dp_exn k) = some ce.cls)
    (h : dp_hdl y Q (dp_KW p l e R s m args below meth c Qm g b A (dp_mL y) n0 ad0) k pc L n cc q M o) : vx_W p l e R s m args below meth c H locs cc q Qm (F0 m pc ls st) q9 := by
  unfold dp_hdl at h
  cases hf : dp_hf (dp_hh y) pc k with
  | none =>
    rw [hf] at h
    exact hX k pc n cc q M o ad H locs ls st ce q9 h0.1 h1 h4 h5 h6 hf hk hcell hv hcl h.2.1 h.2.2 h.1
  | some hp =>
    rw [hf] at h
    obtain ⟨pre, x, suf, e1, e2, e3, e4, e5⟩ := dp_hf_some _ _ _ _ hf
    have C' := C
    obtain ⟨hx, hb, hml, hown, hts, htr, htab, hd1, hfr, hlo, hRc, hRs, hy, hG⟩ := C
    have hxin : x ∈ dp_hh y := by rw [e1]; exact List.mem_append_right _ List.mem_cons_self
    obtain ⟨g1, g2⟩ := dp_hho_spec hy hxin
    obtain ⟨w1, w2, w3⟩ := dp_hword hts g1
    refine vx_catch (own := dp_o (dp_ow y)) (name := dp_exn (dp_hk x.2.2.2)) (E := dp_exn k) (ce := ce) hown (tableOf pre) ⟨x.1, x.2.1, x.2.2.1, x.2.2.2⟩ (tableOf suf) ?_ ?_ ?_ w3 (by rw [g2]; exact w1) ?_ hcell hv hcl ?_
    · rw [htab, e1]
      unfold tableOf
      rw [List.map_append]
      rfl
    · exact dp_hpass C' hk (fun z hz => by rw [e1]; exact List.mem_append_left _ hz) e5
    · simp only [covers, Bool.and_eq_true, decide_eq_true_eq]
      exact e3
    · rw [e4]
      have hbw := hG.2.2.2.2.2.2.1
      rcases (by omega : k = 0 ∨ k = 1 ∨ k = 2) with rfl | rfl | rfl
      · exact va_Nw.use rfl (hbw _ (by simp [dp_bw]))
      · exact va_Nw.use rfl (hbw _ (by simp [dp_bw]))
      · exact va_Nw.use rfl (hbw _ (by simp [dp_bw]))
    · show W p l e R s m args below meth c H locs cc q Qm (F0 m x.2.2.1 ls [.ref q9])
      rw [e2]
      have hne : ∀ j, j < n → (fun k => if k = 9999 then q9 else ad k) j = ad j := fun j hj => if_neg (by have := h0.2; omega)
      have hw : dp_wl g (fun k => if k = 9999 then q9 else ad k) n M o = dp_wl g ad n M o := by
        unfold dp_wl
        apply List.map_congr_left
        intro j hj
        rw [dp_cel_ad (ad := ad) (fun k hk => if_neg (by omega))]
        rw [hne j (List.mem_range.mp hj)]
      have := h h0 (fun k => if k = 9999 then q9 else ad k) H locs ls (fun k hk => by rw [← h1 k hk]; exact if_neg (by have := h0.1; have := h0.2; omega)) (by rw [← h2]; rfl) ⟨h3.1, h3.2.1, fun i v hi => by rw [dp_none_gt] at hi; cases hi⟩ (by rw [hw]; exact h4) (by rw [hw]; exact h5) h6
      exact this
theorem dp_ran {n cc q mc ms pc : Nat} {ad : Nat → Nat} {Q' : dp_Q} {a : Array Value} {H : Heap} {locs : List Loc} {ls : Array Slot} {st0 rest : List Value}
    (hr : vx_Run p l e R s m args below meth c H locs cc q mc ms (F0 m pc ls st0) rest (dp_Qc g A ad n Q' a) (dp_XC g A ad n Q') A) (hS : va_S A s.heap H locs)
    (kk : ∀ (v : Option Value) (M : dp_M) (o : Int64) (H1 : Heap) (locs1 : List Loc), (∀ ad' : Nat → Nat, v.map (dp_cv ad') = v) → Q' (.inl v) M o → va_P g.1 vwCl (dp_wl g ad n M o) H1 → va_D A (dp_wl g ad n M o) → va_S A s.heap H1 locs1 → W p l e R s m args below meth c H1 locs1 (cc + mc) (q + ms) Qm (F0 m (pc + 3) ls (v.toList ++ rest)))
    (kx : ∀ (k : Nat) (M : dp_M) (o : Int64) (ce : Cell) (q9 : Addr) (H1 : Heap) (locs1 : List Loc), k ≤ 2 → Q' (.inr k) M o → va_P g.1 vwCl (dp_wl g ad n M o) H1 → va_D A (dp_wl g ad n M o) → va_S A s.heap H1 locs1 → H1[q9]? = some ce → ce.vm = .none → s.vm.findClass (dp_exn k) = some ce.cls → vx_W p l e R s m args below meth c H1 locs1 (cc + mc) (q + ms) Qm (F0 m pc ls rest) q9) :
    W p l e R s m args below meth c H locs cc q Qm (F0 m pc ls st0) := by
  intro T hT X'
  rcases hr T hT X' with ⟨v, st₀, t, T', L, h0, X', hL, e1, e2, ⟨⟨v', M, o, hv, hnr, hq, hp, hd⟩, hF⟩, st⟩ | ⟨q9, st₀, t, T', L, E, ce, h0, X', hL, e1, e2, ⟨⟨k, M, o, hE, hk, hq, hp, hd⟩, hF⟩, hce, hcv, hcl, st⟩
  · cases hv
    obtain ⟨k1, k2, k3⟩ := vx_keep h0 e1 hS (fun _ _ h => h) (fun _ h => h) hL hF
    obtain ⟨t2, a1, b1⟩ := kk v M o T'.heap (locs ++ L) hnr hq (by rw [e1]; exact hp) hd k3 T' rfl X'
    exact ⟨t2, st t2 a1, b1⟩
  · obtain ⟨k1, k2, k3⟩ := vx_keep h0 e1 hS (fun _ _ h => h) (fun _ h => h) hL hF
    obtain ⟨t2, a1, b1⟩ := kx k M o ce q9 T'.heap (locs ++ L) hk hq (by rw [e1]; exact hp) hd k3 (by rw [e1]; exact hce) hcv (by rw [← hE]; exact hcl) T' rfl X'
    exact ⟨t2, st.trans a1, b1⟩
theorem dp_iv_of {o i : Nat} {f : Option (Nat × Nat × Nat × Nat × Bool × Nat × Nat) → Prop} (hn : ¬ f none) (h : f (dp_iv o i)) : ∃ z, (o, i, z) ∈ dp_ml ∧ z < 146 ∧ f (some (z, dp_na z, dp_mc z, dp_ms z, dp_sta z, dp_ow z, dp_mL z)) := by
  unfold dp_iv at h
  cases hz : dp_lo dp_ml o i with
  | none => rw [hz] at h; exact absurd h hn
  | some z =>
    rw [hz] at h
    exact ⟨z, dp_lo_in _ _ _ _ hz, dp_ml_lt _ (dp_lo_in _ _ _ _ hz), h⟩
theorem dp_cl5 {M : dp_M} {h ci : Nat} {fs : List Value} (hq : dp_obj M h = some (ci, fs)) : ∃ q, vwCl[ci]? = some q ∧ q.1 = dp_o ci := by
  rcases dp_isA_or h with hA | rfl | rfl | rfl | rfl | rfl | rfl | rfl | rfl | rfl | rfl
  · rw [dp_obj_A hA] at hq; cases hq
  all_goals first | (cases hq; exact ⟨_, rfl, rfl⟩) | cases hq
theorem dp_blind {ad : Nat → Nat} {n : Nat} {M : dp_M} {o : Int64} {av : List Value} : FrameBlind (va_Pc av (dp_Pc g X b A ad n M o)) := fun a U f mk h => ⟨h.1, h.2.1.call, h.2.2.1, h.2.2.2⟩
theorem dp_codeE {z : Nat} (h : (dp_hh z).isEmpty = true) : dp_codeW z = .code (dp_nm z) (dp_by z) (dp_mL z) (dp_rt z) := by
  unfold dp_codeW
  rw [h]
  rfl
theorem dp_codeH {z : Nat} (h : (dp_hh z).isEmpty = false) : dp_codeW z = .codeWith (dp_nm z) (dp_by z) (dp_mL z) (dp_rt z) (dp_hh z) := by
  unfold dp_codeW
  rw [h]
  rfl
theorem dp_goodz {z : Nat} (hz : z < 146) : GoodIn dp_wd (dp_codeW z :: dp_wd) := fun w hw => by
  rcases List.mem_cons.mp hw with rfl | hw
  · exact ⟨dp_wd_code hz, (dp_wd_good _ (dp_wd_code hz)).2⟩
  · exact ⟨hw, (dp_wd_good _ hw).2⟩
theorem dp_rmle {d' d z : Nat} (hd : d = d' + 1) (hfr : d ≤ R.frames) (hlo : 28 * d + 60 ≤ R.locals) (hm : dp_mL z ≤ 9) : (dp_rm z d').frames + 1 ≤ R.frames ∧ 8 + (dp_mL z + 11) + (dp_rm z d').locals ≤ R.locals := by
  subst hd
  refine ⟨hfr, ?_⟩
  show 8 + (dp_mL z + 11) + (28 * d' + 60) ≤ R.locals
  omega
/-- a call of a method, static or not -/
theorem dp_inv_ok {call : dp_C} {d' : Nat} (C : dp_Cx p l R s m args c g X b A y d) (hdd : d = d' + 1) (hX : dp_Ex p l e R s m args below meth c Qm g b A y n0 ad0 Q) (hC : ∀ z as n M o Q', z < 146 → call z as n M o Q' → dp_Mt l g X b A d' z as n M o Q')
    {i pc n cc q : Nat} {L : dp_L} {st : List Value} {M : dp_M} {o : Int64} {sb : Bool} (hdec : decode (dp_by y) pc = .ok (if sb then .invokestatic i else .invokevirtual i, 3)) 
    (h : dp_inv call y Q (dp_KW p l e R s m args below meth c Qm g b A (dp_mL y) n0 ad0) pc L st n cc q M o sb (dp_iv (dp_ow y) i)) : dp_KW p l e R s m args below meth c Qm g b A (dp_mL y) n0 ad0 pc L st n cc q M o := by
  intro h0 ad H locs ls h1 h2 h3 h4 h5 h6
  obtain ⟨z, hmem, hz, h⟩ := dp_iv_of (f := fun z => dp_inv call y Q (dp_KW p l e R s m args below meth c Qm g b A (dp_mL y) n0 ad0) pc L st n cc q M o sb z) (fun h => h) h
  obtain ⟨t, r, ht, rfl, hsta, h65, hasz, hrl, hmc, hms, hrcv, hcall⟩ := dp_take_of _ _ _ _ h
  rw [List.append_nil] at hrcv hcall hasz
  have C' := C
  obtain ⟨hx, hb, hml, hown, hts, htr, htab, hd1, hfr, hlo, hRc, hRs, hy, hG⟩ := C
  obtain ⟨z1, z2, z3, z4, z5, z6, z7, z8⟩ := dp_zok_spec (z := z) (by omega)
  have hM := hC z _ n M o _ hz hcall h65 h0.2 hasz ad h2
  have hPre : ∀ U : State, U.heap = H → s.WarmedH U.vm → dp_Pc g X b A ad n M o U := fun U hU hW => ⟨hG.go hW hU h6, by rw [hU]; exact h4, h5⟩
  have hlink : (Cond.methodLink (dp_o (dp_ow y)) i (dp_nm z)).before args s = true := hts _ (dp_wd_link hmem)
  have hini : (Cond.initialized (dp_nm z).cls).before args s = true := by rw [z4]; exact hts _ (dp_wd_init z7)
  have hkind := hts _ (dp_wd_kind hz)
  have hrs : ((r.map (dp_cv ad)).map fun v => v.category).sum ≤ 8 := Nat.le_trans (dp_sum_le ad r) (by omega)
  have hsum : cc + dp_mc z ≤ R.cells ∧ q + dp_ms z ≤ R.slots := by rw [hRc, hRs]; exact ⟨hmc, hms⟩
  have hstk : (t ++ r).map (dp_cv ad) = ((t.reverse).map (dp_cv ad)).reverse ++ r.map (dp_cv ad) := by rw [List.map_append, ← List.map_reverse, List.reverse_reverse]
  have fin : ∀ {a : Array Value}, vx_Run p l e R s m args below meth c H locs cc q (dp_mc z) (dp_ms z) (F0 m pc ls ((t ++ r).map (dp_cv ad))) (r.map (dp_cv ad)) (dp_Qc g A ad n (dp_aft y Q (dp_KW p l e R s m args below meth c Qm g b A (dp_mL y) n0 ad0) pc L r n (cc + dp_mc z) (q + dp_ms z)) a) (dp_XC g A ad n (dp_aft y Q (dp_KW p l e R s m args below meth c Qm g b A (dp_mL y) n0 ad0) pc L r n (cc + dp_mc z) (q + dp_ms z))) A →
      W p l e R s m args below meth c H locs cc q Qm (F0 m pc ls ((t ++ r).map (dp_cv ad))) := fun hr => dp_ran hr h6
    (fun v M1 o1 H1 locs1 hnr hq hp hd hS => by
      cases v with
      | none => exact hq h0 ad H1 locs1 ls h1 h2 h3 hp hd hS
      | some v =>
        have := hq h0 ad H1 locs1 ls h1 h2 h3 hp hd hS
        rw [List.map_cons, show dp_cv ad v = v from Option.some.inj (hnr ad)] at this
        exact this)
    (fun k M1 o1 ce q9 H1 locs1 hk hq hp hd hS hce hcv hcl => dp_hdl_ok C' hX h0 h1 h2 h3 hp hd hS hk hce hcv hcl hq)
  by_cases hsb : sb = true
  · subst hsb
    have hst : dp_sta z = true := hsta
    have hstat : (Cond.static (dp_nm z)).before args s = true := by
      unfold dp_kindW at hkind
      rw [hst] at hkind
      exact hkind
    have hlen : t.reverse.length = dp_na z := by rw [List.length_reverse, ht]
    rw [hst] at z5
    cases he : (dp_hh z).isEmpty with
    | true =>
      refine fin (vx_runS (nL := dp_mL y) (As := (t.reverse).map (dp_cv ad)) (Ts := dp_wd) (n := dp_na z) (g := F0 m pc ls ((t ++ r).map (dp_cv ad))) ⟨hx, hb, hml, hown, hts⟩ hM ⟨callB_of (ws' := dp_wd) (bytes := dp_by z) (maxL := dp_mL z) (ret := dp_rt z) (dp_na z) hts (dp_goodz hz) (by rw [dp_codeE he]) rfl rfl hini hlink ⟨z1, z2, z5⟩ (dp_rmle hdd hfr hlo z6), hstat⟩ ⟨dp_blind, fun U hU hW => ⟨rfl, hPre U hU hW⟩⟩ rfl (by rw [List.length_map, hlen]) (h3.1) hstk (lv_room hrs) hdec hsum)
    | false =>
      have hG2 : GoodIn dp_wd (va_wsS (dp_o (dp_ow y)) i (dp_nm z) (dp_codeW z :: dp_wd)) := fun w hw => by
        unfold va_wsS at hw
        rcases List.mem_append.mp hw with hw | hw
        · simp only [List.mem_cons, List.not_mem_nil, or_false] at hw
          rcases hw with rfl | rfl | rfl
          · exact ⟨dp_wd_link hmem, (dp_wd_good _ (dp_wd_link hmem)).2⟩
          · have h9 := dp_wd_kind hz
            unfold dp_kindW at h9
            rw [hst] at h9
            exact ⟨h9, (dp_wd_good _ h9).2⟩
          · rw [z4]
            exact ⟨dp_wd_init z7, (dp_wd_good _ (dp_wd_init z7)).2⟩
        · exact dp_goodz hz w hw
      refine fin (vx_runSX (nL := dp_mL y) (As := (t.reverse).map (dp_cv ad)) (Ts := dp_wd) (n := dp_na z) (g := F0 m pc ls ((t ++ r).map (dp_cv ad))) ⟨hx, hb, hml, hown, hts⟩ hM (vx_cwSW (ws' := dp_wd) (dp_na z) hts hG2 (by rw [dp_codeH he]) rfl rfl ⟨z1, z2, z5⟩ (dp_rmle hdd hfr hlo z6)) ⟨dp_blind, fun U hU hW => ⟨rfl, hPre U hU hW⟩⟩ rfl (by rw [List.length_map, hlen]) (h3.1) hstk (lv_room hrs) hdec hsum)
  · have hsb : sb = false := by simpa using hsb
    subst hsb
    have hst : dp_sta z = false := hsta
    rcases z8 with z8 | ⟨z8, z9, z10⟩
    · rw [hst] at z8; cases z8
    rcases hrcv with hrcv | hrcv
    · cases hrcv
    obtain ⟨hh, as', fs, hrev, hhn, hobj⟩ : ∃ hh as' fs, t.reverse = .ref hh :: as' ∧ hh < n ∧ dp_obj M hh = some (dp_ow z, fs) := by
      unfold dp_rcv at hrcv
      split at hrcv
      · rename_i hh as' hr
        obtain ⟨q1, q2⟩ := hrcv
        split at q2
        · rename_i q hq
          exact ⟨hh, as', q.2, hr, q1, by rw [hq, ← q2]⟩
        · exact q2.elim
      · exact hrcv.elim
    obtain ⟨qc, hqc, hqn⟩ := dp_cl5 hobj
    have hcell := va_recv (q := qc) hG.1 h4 hqc (by rw [dp_wl_at hhn, dp_cel_O hobj])
    rw [hqn, ← z4] at hcell
    have hrev2 : t = as'.reverse ++ [.ref hh] := by rw [← List.reverse_reverse t, hrev, List.reverse_cons]
    have hstk2 : (t ++ r).map (dp_cv ad) = (as'.map (dp_cv ad)).reverse ++ .ref (ad hh) :: r.map (dp_cv ad) := by
      rw [hrev2, List.append_assoc, List.map_append, ← List.map_reverse]
      rfl
    have hlen : (as'.map (dp_cv ad)).length = dp_na z - 1 := by
      have : t.reverse.length = dp_na z := by rw [List.length_reverse, ht]
      rw [hrev, List.length_cons] at this
      rw [List.length_map]
      omega
    rw [hst] at z5
    rw [hrev] at hM
    have hinst : (Cond.instanceMethod (dp_nm z)).before args s = true := by
      unfold dp_kindW at hkind
      rw [hst] at hkind
      exact hkind
    exact fin (vx_runV (nL := dp_mL y) (C := (dp_nm z).cls) (b := ad hh) (As := as'.map (dp_cv ad)) (Ts := dp_wd) (n := dp_na z - 1) (g := F0 m pc ls ((t ++ r).map (dp_cv ad))) ⟨hx, hb, hml, hown, hts⟩ hM ⟨callB_of (ws' := dp_wd) (bytes := dp_by z) (maxL := dp_mL z) (ret := dp_rt z) (dp_na z - 1) hts (dp_goodz hz) (by rw [dp_codeE z9]) rfl rfl hini hlink ⟨z1, z2, z5⟩ (dp_rmle hdd hfr hlo z6), hinst, hts _ (dp_wd_sel z8)⟩ ⟨dp_blind, hcell, fun U hU hW => ⟨rfl, hPre U hU hW⟩⟩ rfl hlen (h3.1) hstk2 (lv_room hrs) hdec hsum)
end DPC
end
section
/-! One instruction of the deep semantics, over the machine. -/
section DPT
variable {p : Program} {l : Launch} {e : Env} {R : Room} {s : State} {m : MethodId} {args : Array Value} {below : List Frame} {meth : Method} {c : Code} {Qm : State → Prop}
variable {g : dp_G} {X : dp_X} {b : Nat} {A : Nat → Prop} {y d n0 : Nat} {ad0 : Nat → Nat} {Q : dp_Q}
theorem dp_nat_of {o i : Nat} {f : Option Nat → Prop} (hn : ¬ f none) (h : f (dp_nat o i)) : ∃ z, (o, i, z) ∈ dp_nl ∧ f (some z) := by
  unfold dp_nat at h
  cases hz : dp_lo dp_nl o i with
  | none => rw [hz] at h; exact absurd h hn
  | some z =>
    rw [hz] at h
    exact ⟨z, dp_lo_in _ _ _ _ hz, h⟩
theorem dp_natw_ok (C : dp_Cx p l R s m args c g X b A y d) {i pc n cc q : Nat} {L : dp_L} {st : List Value} {M : dp_M} {o : Int64} (hd : decode (dp_by y) pc = .ok (.invokestatic i, 3))
    (h : dp_natw y (dp_KW p l e R s m args below meth c Qm g b A (dp_mL y) n0 ad0) pc L st n cc q M o (dp_nat (dp_ow y) i)) : dp_KW p l e R s m args below meth c Qm g b A (dp_mL y) n0 ad0 pc L st n cc q M o := by
  obtain ⟨z, hmem, h⟩ := dp_nat_of (f := fun z => dp_natw y (dp_KW p l e R s m args below meth c Qm g b A (dp_mL y) n0 ad0) pc L st n cc q M o z) (fun h => h) h
  obtain ⟨hx, hb, hml, hown, hts, htr, htab, hd1, hfr, hlo, hRc, hRs, hy, hG⟩ := C
  intro h0 ad H locs ls h1 h2 h3 h4 h5 h6
  have hw := hts _ (dp_wd_nat hmem)
  unfold dp_linkN at hw
  have hml' : c.maxLocals = ls.size := by rw [hml, h3.1]
  have hfr1 : 1 ≤ R.frames := Nat.le_trans hd1 hfr
  have hloc : ∀ (r : List Value) (k : Nat), r.length ≤ 4 → k ≤ 80 → ((r.map (dp_cv ad)).map fun v => v.category).sum + k ≤ R.locals := fun r k hr hk => by
    have := dp_sum_le ad r
    omega
  by_cases hz0 : z = 200
  · subst hz0
    obtain ⟨v, r, rfl, k1⟩ := dp_pi_of h
    obtain ⟨u, r, rfl, hr, hcc, hqq, k2⟩ := dp_pi_of k1
    exact va_mmin hx hb hml' hown hw (hts _ (dp_wd_x0 0 rfl)) (hts _ (dp_wd_x0 1 rfl)) (hts _ (dp_wd_x0 2 rfl)) hfr1 (hloc r 13 hr (by omega)) (by rw [hRc]; exact hcc) (by rw [hRs]; exact hqq) hd (k2 h0 ad H locs ls h1 h2 h3 h4 h5 h6)
  by_cases hz1 : z = 201
  · subst hz1
    obtain ⟨v, r, rfl, k1⟩ := dp_pi_of h
    obtain ⟨u, r, rfl, hr, hcc, hqq, k2⟩ := dp_pi_of k1
    exact va_mmax hx hb hml' hown hw (hts _ (dp_wd_x0 3 rfl)) (hts _ (dp_wd_x0 1 rfl)) (hts _ (dp_wd_x0 4 rfl)) hfr1 (hloc r 13 hr (by omega)) (by rw [hRc]; exact hcc) (by rw [hRs]; exact hqq) hd (k2 h0 ad H locs ls h1 h2 h3 h4 h5 h6)
  by_cases hz2 : z = 202
  · subst hz2
    obtain ⟨k, r, rfl, k1⟩ := dp_pi_of h
    obtain ⟨dp, r, rfl, k2⟩ := dp_pi_of k1
    obtain ⟨a2, r, rfl, k3⟩ := dp_pr_of k2
    obtain ⟨sp, r, rfl, k4⟩ := dp_pi_of k3
    obtain ⟨a1, r, rfl, hr, q1, q2, q3, q4, q5, q6, q7, q8, q9, k5⟩ := dp_pr_of k4
    exact va_copyi hx hb hml' hown hw (hts _ (dp_wd_x0 5 rfl)) (hts _ (dp_wd_x0 6 rfl)) (hts _ (dp_wd_x0 7 rfl)) hG.1 h4 h5 h6 a1 a2 0 0 (dp_wl_A q3 q1) (dp_wl_A q4 q2) rfl rfl rfl q5 q6 q7 q8 q9 (fun _ _ => rfl) hfr1 (hloc r _ hr (by decide)) hd (fun H1 locs1 g1 g2 g3 => by
      rw [dp_set_A q2] at g1 g2
      exact k5 h0 ad H1 locs1 ls h1 h2 h3 g1 g2 g3)
  exfalso
  unfold dp_natw at h
  split at h
  · rename_i hq; exact hz0 (Option.some.inj hq)
  · rename_i hq; exact hz1 (Option.some.inj hq)
  · rename_i hq; exact hz2 (Option.some.inj hq)
  · exact h
theorem dp_nrl_of {n : Nat} : ∀ {L : dp_L} {i : Nat} {v : Value}, dp_nrl n L = true → dp_gt L i = some v → dp_nrv n v = true
  | [], _, _, _, h => by cases h
  | some w :: t, 0, v, h, hi => by
    cases hi
    simp only [dp_nrl, Bool.and_eq_true] at h
    exact h.1
  | none :: t, 0, v, h, hi => by cases hi
  | some w :: t, i + 1, v, h, hi => by
    simp only [dp_nrl, Bool.and_eq_true] at h
    exact dp_nrl_of h.2 hi
  | none :: t, i + 1, v, h, hi => dp_nrl_of (L := t) h hi
theorem dp_nrv_cv {n q9 : Nat} {ad : Nat → Nat} {v : Value} (h : dp_nrv n v = true) : dp_cv (fun k => if k = n then q9 else ad k) v = dp_cv ad v := by
  cases v <;> first | rfl | skip
  rename_i k
  have : k ≠ n := by simpa [dp_nrv] using h
  show Value.ref (if k = n then q9 else ad k) = Value.ref (ad k)
  rw [if_neg this]
theorem dp_nrs_cv {n q9 : Nat} {ad : Nat → Nat} : ∀ {r : List Value}, dp_nrs n r = true → r.map (dp_cv (fun k => if k = n then q9 else ad k)) = r.map (dp_cv ad)
  | [], _ => rfl
  | v :: t, h => by
    simp only [dp_nrs, Bool.and_eq_true] at h
    rw [List.map_cons, List.map_cons, dp_nrv_cv h.1, dp_nrs_cv h.2]
theorem dp_wl_push {n q9 : Nat} {ad : Nat → Nat} {M : dp_M} {o : Int64} {f : Nat → Int32} (hn : 65 ≤ n) (hA : dp_isA n = true) : dp_wl g ad n M o ++ [(q9, .inl (g.2.1, dp_len n, .inl f))] = dp_wl g (fun k => if k = n then q9 else ad k) (n + 1) (dp_row M n f) o := by
  unfold dp_wl
  rw [List.range_succ, List.map_append]
  congr 1
  · apply List.map_congr_left
    intro j hj
    have hj := List.mem_range.mp hj
    have e1 : dp_cel g (fun k => if k = n then q9 else ad k) (dp_row M n f) o j = dp_cel g ad M o j := by
      rw [dp_cel_ad (ad := ad) (fun k hk => if_neg (by omega))]
      exact dp_cel_ext (fun i => by rw [dp_row_n M f (by omega)]) (fun _ => rfl)
    rw [e1]
    simp only [show j ≠ n by omega, if_false]
  · simp only [List.map_cons, List.map_nil, if_true]
    rw [dp_cel_A hA, dp_row_s]
theorem dp_cln_ok (C : dp_Cx p l R s m args c g X b A y d) {i pc n cc q : Nat} {L : dp_L} {st : List Value} {M : dp_M} {o : Int64} (hd : decode (dp_by y) pc = .ok (.invokevirtual i, 3)) (ho : dp_ow y = 4)
    (h : dp_cln y (dp_KW p l e R s m args below meth c Qm g b A (dp_mL y) n0 ad0) pc L st n cc q M o (dp_nat (dp_ow y) i)) : dp_KW p l e R s m args below meth c Qm g b A (dp_mL y) n0 ad0 pc L st n cc q M o := by
  obtain ⟨z, hmem, h⟩ := dp_nat_of (f := fun z => dp_cln y (dp_KW p l e R s m args below meth c Qm g b A (dp_mL y) n0 ad0) pc L st n cc q M o z) (fun h => h) h
  obtain ⟨hx, hb, hml, hown, hts, htr, htab, hd1, hfr, hlo, hRc, hRs, hy, hG⟩ := C
  intro h0 ad H locs ls h1 h2 h3 h4 h5 h6
  have hw := hts _ (dp_wd_nat hmem)
  unfold dp_linkN at hw
  have hml' : c.maxLocals = ls.size := by rw [hml, h3.1]
  have hfr1 : 1 ≤ R.frames := Nat.le_trans hd1 hfr
  by_cases hz0 : z = 203
  · subst hz0
    obtain ⟨a1, r, rfl, hr, q1, q2, q3, q4, q5, q6, q7, q8, q9, k1⟩ := dp_pr_of h
    have hbw := hG.2.2.2.2.2.2.1
    have hAn : dp_isA n = true := by
      simp only [dp_isA, Bool.not_eq_true', Bool.or_eq_false_iff, beq_eq_false_iff_ne]
      omega
    have hname : s.vm.findClass "[I" = some g.2.1 := (hG.1.2 0 _ rfl).2
    refine va_clone (ad := "[I") hx hb hml' hown hw (hts _ (dp_wd_x0 8 rfl)) (hts _ (dp_wd_x0 9 rfl)) (hts _ (dp_wd_x0 10 rfl)) (hts _ (dp_wd_x0 11 rfl)) (hbw _ (by simp [dp_bw])) hG.1 h4 h5 h6 hG.2.2.2.2.2.2.2.2.2 a1 0 (dp_wl_A q2 q1) rfl hname ?_ hfr1 ?_ (by rw [hRc]; exact q6) (by rw [hRs]; exact q7) hd (fun qa H1 g0 g1 g2 g3 => ?_)
    · intro i v hv
      have hlt : i < dp_len a1 := by
        have h9 := (Array.getElem?_eq_some_iff.mp hv).1
        rw [vp_cell_i, arrV_size] at h9
        exact h9
      rw [vp_cell_i, arrV_read _ _ hlt] at hv
      cases hv
      rfl
    · have := dp_sum_le ad r
      omega
    · rw [← q5, dp_wl_push q3 hAn] at g1 g2
      have h3' : dp_LH ls (dp_mL y) (fun k => if k = n then qa else ad k) L := ⟨h3.1, h3.2.1, fun i v hi => by rw [dp_nrv_cv (dp_nrl_of q8 hi)]; exact h3.2.2 i v hi⟩
      have := k1 ⟨by omega, by omega⟩ (fun k => if k = n then qa else ad k) H1 locs ls (fun k hk => by rw [← h1 k hk]; exact if_neg (by omega)) (by rw [← h2]; exact if_neg (by omega)) h3' g1 g2 g3
      rw [List.map_cons, dp_nrs_cv q9] at this
      have e9 : dp_cv (fun k => if k = n then qa else ad k) (.ref n) = .ref qa := by
        show Value.ref (if n = n then qa else ad n) = Value.ref qa
        rw [if_pos rfl]
      rw [e9] at this
      exact this
  · exfalso
    unfold dp_cln at h
    split at h
    · rename_i hq; exact hz0 (Option.some.inj hq)
    · exact h
theorem dp_aald (hx : p.tables.exec = Jvm.exec) {cc : ByteArray} (hb : c.code = cc) {pc : Nat} {ls : Array Slot} {rest : List Value} {D : va_G} {cl : List vw_C} {a : Nat} {tys : List (ClassId × FieldType)} {ws : va_W} {H : Heap} {locs : List Loc} {cells slots : Nat} (hK : va_K D cl tys s) (hP : va_P D cl ws H) (q0 t0 : Nat) {cA : ClassId} {n : Nat} {f : Nat → Option Nat} (ha : ws[q0]? = some (a, .inl (cA, n, .inr (.inr (.inr (.inr f)))))) (ht : tys[t0]? = some (cA, .array .int)) {i : Int32} (hin : vp_in i n) (hdg : decode cc pc = .ok (.aaload, 1))
    (kk : W p l e R s m args below meth c H locs cells slots Qm (F0 m (pc + 1) ls (va_rf (f i.toNatClampNeg) :: rest))) : W p l e R s m args below meth c H locs cells slots Qm (F0 m pc ls (.int i :: .ref a :: rest)) := by
  have hlt : i.toNatClampNeg < n := Nat.not_le.mp fun q => hin (Or.inr q)
  exact W.aald (v := va_rf (f i.toNatClampNeg)) (ty := .array .int) hx hb (hP q0 _ ha) ((hK.2 t0 _ ht).1 n (fun j => va_rf (f j))) rfl (fun q => by cases q) (by show ¬ (i < 0 ∨ (arrV _ _ _).slots.size ≤ _); rw [arrV_size]; exact hin) (by show (arrV _ _ _).slots[_]? = _; rw [arrV_read _ _ hlt]) rfl rfl hdg kk
theorem dp_clT {ci : Nat} (hci : ci < 5) : vwCl[ci]? = some (vwCl.getD ci (RX0, TX0, 5)) := by
  rw [List.getD_eq_getElem?_getD, List.getElem?_eq_getElem (show ci < vwCl.length from hci)]
  rfl
/-- the facts of a class's fields -/
theorem dp_clF {ci : Nat} {q : vw_C} (hq : vwCl[ci]? = some q) : ∃ ty0 : Nat → FieldType, (∀ k, k < q.2.2 → parseFieldDescriptor (q.2.1 k).2.2.1 = some (ty0 k)) ∧ (∀ a, a < q.2.2 → ∀ b, b < q.2.2 → a ≠ b → (q.2.1 a).2.1 ≠ (q.2.1 b).2.1) := by
  match ci, hq with
  | 0, hq => cases hq; exact ⟨tyX0, tyX0_ok, nmX0⟩
  | 1, hq => cases hq; exact ⟨tyX1, tyX1_ok, nmX1⟩
  | 2, hq => cases hq; exact ⟨tyX2, tyX2_ok, nmX2⟩
  | 3, hq => cases hq; exact ⟨tyX3, tyX3_ok, nmX3⟩
  | 4, hq => cases hq; exact ⟨tyX4, tyX4_ok, nmX4⟩
  | c + 5, hq => simp [vwCl] at hq
theorem dp_objint {M : dp_M} {h ci k : Nat} {fs : List Value} {w : Int32} (hq : dp_obj M h = some (ci, fs)) (hk : dp_gtv fs k = some (.int w)) : ci < 5 ∧ k < (vwCl.getD ci (RX0, TX0, 5)).2.2 ∧ ((vwCl.getD ci (RX0, TX0, 5)).2.1 k).2.2.2 = false ∧ parseFieldDescriptor ((vwCl.getD ci (RX0, TX0, 5)).2.1 k).2.2.1 = some .int ∧ k < fs.length := by
  rcases dp_isA_or h with hA | rfl | rfl | rfl | rfl | rfl | rfl | rfl | rfl | rfl | rfl
  · rw [dp_obj_A hA] at hq; cases hq
  · cases hq
    match k, hk with
    | 0, hk => cases hk
    | 1, hk => cases hk
    | 2, hk => cases hk
    | 3, hk => cases hk
    | 4, hk => cases hk
    | k + 5, hk => cases hk
  · cases hq
    match k, hk with
    | 0, hk => cases hk
    | 1, hk => cases hk
    | 2, hk => cases hk
    | 3, hk => cases hk
    | 4, hk => cases hk
    | 5, hk => exact ⟨by decide, by decide, rfl, tyX2_ok 5 (by decide), by simp⟩
    | k + 6, hk => cases hk
  · cases hq
    match k, hk with
    | 0, hk => cases hk
    | 1, hk => cases hk
    | 2, hk => cases hk
    | 3, hk => exact ⟨by decide, by decide, rfl, tyX1_ok 3 (by decide), by simp⟩
    | k + 4, hk => cases hk
  · cases hq
    match k, hk with
    | 0, hk => cases hk
    | 1, hk => cases hk
    | 2, hk => cases hk
    | 3, hk => cases hk
    | 4, hk => exact ⟨by decide, by decide, rfl, tyX0_ok 4 (by decide), by simp⟩
    | k + 5, hk => cases hk
  · cases hq
    match k, hk with
    | 0, hk => cases hk
    | 1, hk => cases hk
    | 2, hk => cases hk
    | 3, hk => cases hk
    | 4, hk => exact ⟨by decide, by decide, rfl, tyX0_ok 4 (by decide), by simp⟩
    | k + 5, hk => cases hk
  · cases hq
    match k, hk with
    | 0, hk => exact ⟨by decide, by decide, rfl, tyX4_ok 0 (by decide), by simp⟩
    | 1, hk => exact ⟨by decide, by decide, rfl, tyX4_ok 1 (by decide), by simp⟩
    | 2, hk => exact ⟨by decide, by decide, rfl, tyX4_ok 2 (by decide), by simp⟩
    | 3, hk => exact ⟨by decide, by decide, rfl, tyX4_ok 3 (by decide), by simp⟩
    | 4, hk => cases hk
    | 5, hk => cases hk
    | 6, hk => cases hk
    | k + 7, hk => cases hk
  all_goals cases hq
end DPT
end
section
/-! Every instruction of the deep semantics, over the machine. -/
section DPU
variable {p : Program} {l : Launch} {e : Env} {R : Room} {s : State} {m : MethodId} {args : Array Value} {below : List Frame} {meth : Method} {c : Code} {Qm : State → Prop}
variable {g : dp_G} {X : dp_X} {b : Nat} {A : Nat → Prop} {y d n0 : Nat} {ad0 : Nat → Nat} {Q : dp_Q}
theorem dp_ec_of {i : Nat} {f : Nat → Prop} (h : dp_new i f) : f (dp_ec i) ∧ dp_ec i ≤ 2 ∧ dp_exk (dp_ec i) = i := by
  unfold dp_new at h
  split at h
  · exact ⟨h, by decide, rfl⟩
  · exact ⟨h, by decide, rfl⟩
  · exact ⟨h, by decide, rfl⟩
  · exact h.elim
theorem dp_outA {ad : Nat → Nat} {k N : Nat} {i : Int32} (h : vp_in i N) : va_rf (dp_out ad k N i.toNatClampNeg) = .ref (ad (k + i.toNatClampNeg)) := by
  have hlt : i.toNatClampNeg < N := Nat.not_le.mp fun q => h (Or.inr q)
  unfold dp_out
  rw [if_pos hlt]
  rfl
set_option maxHeartbeats 4000000 in
theorem dp_step {call : dp_C} {d' : Nat} (C : dp_Cx p l R s m args c g X b A y d) (hdd : d = d' + 1) (hE : dp_En p l e R s m args below meth c Qm g b A y n0 ad0 Q) (hX : dp_Ex p l e R s m args below meth c Qm g b A y n0 ad0 Q) (hN : dp_Nw p l e R s m args below meth c Qm g b A y d n0 ad0 Q)
    (hC : ∀ z as n M o Q', z < 146 → call z as n M o Q' → dp_Mt l g X b A d' z as n M o Q')
    {pc n cc q : Nat} {L : dp_L} {st : List Value} {M : dp_M} {o : Int64}
    (h : dp_wp X call d y Q (dp_KW p l e R s m args below meth c Qm g b A (dp_mL y) n0 ad0) pc L st n cc q M o (dp_tab y pc).1) : dp_KW p l e R s m args below meth c Qm g b A (dp_mL y) n0 ad0 pc L st n cc q M o := by
  have C' := C
  obtain ⟨hx, hb, hml, hown, hts, htr, htab, hd1, hfr, hlo, hRc, hRs, hy, hG⟩ := C
  rcases dp_dec hy pc with e0 | ⟨hd, hl, hj⟩
  · rw [e0] at h
    exact h.elim
  generalize dp_tab y pc = ii at h hd hl hj
  obtain ⟨i, len⟩ := ii
  dsimp only at h hl hj
  cases i with
  | aload_n k =>
    obtain rfl := hl.resolve_left (fun z => by cases z)
    intro h0 ad H locs ls h1 h2 h3 h4 h5 h6
    obtain ⟨x, hx1, hk⟩ := dp_lr_of h
    exact lv_aload_n hx hb hd rfl (h3.2.2 _ _ hx1) (hk h0 ad H locs ls h1 h2 h3 h4 h5 h6)
  | aload k =>
    obtain rfl := hl.resolve_left (fun z => by cases z)
    intro h0 ad H locs ls h1 h2 h3 h4 h5 h6
    obtain ⟨x, hx1, hk⟩ := dp_lr_of h
    exact lv_aload hx hb hd (h3.2.2 _ _ hx1) (hk h0 ad H locs ls h1 h2 h3 h4 h5 h6)
  | iload_n k =>
    obtain rfl := hl.resolve_left (fun z => by cases z)
    intro h0 ad H locs ls h1 h2 h3 h4 h5 h6
    obtain ⟨x, hx1, hk⟩ := dp_li_of h
    exact lv_iload_n hx hb hd rfl (h3.2.2 _ _ hx1) (hk h0 ad H locs ls h1 h2 h3 h4 h5 h6)
  | iload k =>
    obtain rfl := hl.resolve_left (fun z => by cases z)
    intro h0 ad H locs ls h1 h2 h3 h4 h5 h6
    obtain ⟨x, hx1, hk⟩ := dp_li_of h
    exact lv_iload hx hb hd (h3.2.2 _ _ hx1) (hk h0 ad H locs ls h1 h2 h3 h4 h5 h6)
  | lload_n k =>
    obtain rfl := hl.resolve_left (fun z => by cases z)
    intro h0 ad H locs ls h1 h2 h3 h4 h5 h6
    obtain ⟨x, hx1, hk⟩ := dp_lj_of h
    exact lv_lload_n hx hb hd rfl (h3.2.2 _ _ hx1) (hk h0 ad H locs ls h1 h2 h3 h4 h5 h6)
  | lload k =>
    obtain rfl := hl.resolve_left (fun z => by cases z)
    intro h0 ad H locs ls h1 h2 h3 h4 h5 h6
    obtain ⟨x, hx1, hk⟩ := dp_lj_of h
    exact lv_lload hx hb hd (h3.2.2 _ _ hx1) (hk h0 ad H locs ls h1 h2 h3 h4 h5 h6)
  | dload k =>
    obtain rfl := hl.resolve_left (fun z => by cases z)
    intro h0 ad H locs ls h1 h2 h3 h4 h5 h6
    obtain ⟨x, hx1, hk⟩ := dp_ld_of h
    exact lv_dload hx hb hd (h3.2.2 _ _ hx1) (hk h0 ad H locs ls h1 h2 h3 h4 h5 h6)
  | iconst v =>
    obtain rfl := hl.resolve_left (fun z => by cases z)
    intro h0 ad H locs ls h1 h2 h3 h4 h5 h6
    exact lv_iconst hx hb hd rfl (h h0 ad H locs ls h1 h2 h3 h4 h5 h6)
  | bipush v =>
    obtain rfl := hl.resolve_left (fun z => by cases z)
    intro h0 ad H locs ls h1 h2 h3 h4 h5 h6
    exact lv_bipush hx hb hd rfl (h h0 ad H locs ls h1 h2 h3 h4 h5 h6)
  | sipush v =>
    obtain rfl := hl.resolve_left (fun z => by cases z)
    intro h0 ad H locs ls h1 h2 h3 h4 h5 h6
    exact lv_sipush hx hb hd rfl (h h0 ad H locs ls h1 h2 h3 h4 h5 h6)
  | ldc_w i =>
    obtain rfl := hl.resolve_left (fun z => by cases z)
    intro h0 ad H locs ls h1 h2 h3 h4 h5 h6
    obtain ⟨v, hv, hk⟩ := dp_opt_of h
    exact lv_ldcw hx hb hown (hts _ (dp_wd_ci (dp_lo_in _ _ _ _ hv))) hd (hk h0 ad H locs ls h1 h2 h3 h4 h5 h6)
  | ldc2_w i =>
    obtain rfl := hl.resolve_left (fun z => by cases z)
    intro h0 ad H locs ls h1 h2 h3 h4 h5 h6
    obtain ⟨v, hv, hk⟩ := dp_opt_of h
    exact lv_ldc2 hx hb hown (hts _ (dp_wd_cl (dp_lo_in _ _ _ _ hv))) hd (hk h0 ad H locs ls h1 h2 h3 h4 h5 h6)
  | dconst v =>
    obtain rfl := hl.resolve_left (fun z => by cases z)
    intro h0 ad H locs ls h1 h2 h3 h4 h5 h6
    obtain ⟨rfl, hk⟩ := h
    exact lv_dconst0 hx hb hd (hk h0 ad H locs ls h1 h2 h3 h4 h5 h6)
  | istore_n k =>
    obtain rfl := hl.resolve_left (fun z => by cases z)
    intro h0 ad H locs ls h1 h2 h3 h4 h5 h6
    obtain ⟨x, r, rfl, hk⟩ := dp_pi_of h
    exact lv_istore_n hx hb hd rfl h3.has (of_decide_eq_true hj) rfl (fun ls' hl' => hk h0 ad H locs ls' h1 h2 (dp_LH.s1 rfl hl') h4 h5 h6)
  | istore k =>
    obtain rfl := hl.resolve_left (fun z => by cases z)
    intro h0 ad H locs ls h1 h2 h3 h4 h5 h6
    obtain ⟨x, r, rfl, hk⟩ := dp_pi_of h
    exact lv_istore hx hb hd h3.has (of_decide_eq_true hj) rfl (fun ls' hl' => hk h0 ad H locs ls' h1 h2 (dp_LH.s1 rfl hl') h4 h5 h6)
  | lstore_n k =>
    obtain rfl := hl.resolve_left (fun z => by cases z)
    intro h0 ad H locs ls h1 h2 h3 h4 h5 h6
    obtain ⟨x, r, rfl, hk⟩ := dp_pj_of h
    exact lv_lstore_n hx hb hd rfl h3.has (of_decide_eq_true hj) rfl (fun ls' hl' => hk h0 ad H locs ls' h1 h2 (dp_LH.s2 rfl hl') h4 h5 h6)
  | lstore k =>
    obtain rfl := hl.resolve_left (fun z => by cases z)
    intro h0 ad H locs ls h1 h2 h3 h4 h5 h6
    obtain ⟨x, r, rfl, hk⟩ := dp_pj_of h
    exact lv_lstore hx hb hd h3.has (of_decide_eq_true hj) rfl (fun ls' hl' => hk h0 ad H locs ls' h1 h2 (dp_LH.s2 rfl hl') h4 h5 h6)
  | dstore k =>
    obtain rfl := hl.resolve_left (fun z => by cases z)
    intro h0 ad H locs ls h1 h2 h3 h4 h5 h6
    obtain ⟨x, r, rfl, hk⟩ := dp_pd_of h
    exact lv_dstore hx hb hd h3.has (of_decide_eq_true hj) rfl (fun ls' hl' => hk h0 ad H locs ls' h1 h2 (dp_LH.s2 rfl hl') h4 h5 h6)
  | astore_n k =>
    obtain rfl := hl.resolve_left (fun z => by cases z)
    intro h0 ad H locs ls h1 h2 h3 h4 h5 h6
    obtain ⟨x, r, rfl, hk⟩ := dp_pr_of h
    exact lv_astore_n hx hb hd rfl h3.has (of_decide_eq_true hj) rfl (fun ls' hl' => hk h0 ad H locs ls' h1 h2 (dp_LH.s1 rfl hl') h4 h5 h6)
  | astore k =>
    obtain rfl := hl.resolve_left (fun z => by cases z)
    intro h0 ad H locs ls h1 h2 h3 h4 h5 h6
    obtain ⟨x, r, rfl, hk⟩ := dp_pr_of h
    exact lv_astore hx hb hd h3.has (of_decide_eq_true hj) rfl (fun ls' hl' => hk h0 ad H locs ls' h1 h2 (dp_LH.s1 rfl hl') h4 h5 h6)
  | iinc i v =>
    obtain rfl := hl.resolve_left (fun z => by cases z)
    intro h0 ad H locs ls h1 h2 h3 h4 h5 h6
    obtain ⟨x, hx1, hk⟩ := dp_li_of h
    obtain ⟨k9, hk9⟩ := List.getElem?_of_mem (dp_as_in ad L 0 i _ hx1)
    rw [Nat.zero_add] at hk9
    exact lv_iinc hx hb hd h3.has hk9 rfl (of_decide_eq_true hj) rfl (fun ls' hl' => hk h0 ad H locs ls' h1 h2 (dp_LH.s1 rfl hl') h4 h5 h6)
  | iadd =>
    obtain rfl := hl.resolve_left (fun z => by cases z)
    intro h0 ad H locs ls h1 h2 h3 h4 h5 h6
    obtain ⟨x, r, rfl, k1⟩ := dp_pi_of h
    obtain ⟨z, r, rfl, hk⟩ := dp_pi_of k1
    exact lv_iadd hx hb hd (hk h0 ad H locs ls h1 h2 h3 h4 h5 h6)
  | isub =>
    obtain rfl := hl.resolve_left (fun z => by cases z)
    intro h0 ad H locs ls h1 h2 h3 h4 h5 h6
    obtain ⟨x, r, rfl, k1⟩ := dp_pi_of h
    obtain ⟨z, r, rfl, hk⟩ := dp_pi_of k1
    exact lv_isub hx hb hd (hk h0 ad H locs ls h1 h2 h3 h4 h5 h6)
  | imul =>
    obtain rfl := hl.resolve_left (fun z => by cases z)
    intro h0 ad H locs ls h1 h2 h3 h4 h5 h6
    obtain ⟨x, r, rfl, k1⟩ := dp_pi_of h
    obtain ⟨z, r, rfl, hk⟩ := dp_pi_of k1
    exact lv_imul hx hb hd (hk h0 ad H locs ls h1 h2 h3 h4 h5 h6)
  | iand =>
    obtain rfl := hl.resolve_left (fun z => by cases z)
    intro h0 ad H locs ls h1 h2 h3 h4 h5 h6
    obtain ⟨x, r, rfl, k1⟩ := dp_pi_of h
    obtain ⟨z, r, rfl, hk⟩ := dp_pi_of k1
    exact lv_iand hx hb hd (hk h0 ad H locs ls h1 h2 h3 h4 h5 h6)
  | ior =>
    obtain rfl := hl.resolve_left (fun z => by cases z)
    intro h0 ad H locs ls h1 h2 h3 h4 h5 h6
    obtain ⟨x, r, rfl, k1⟩ := dp_pi_of h
    obtain ⟨z, r, rfl, hk⟩ := dp_pi_of k1
    exact lv_ior hx hb hd (hk h0 ad H locs ls h1 h2 h3 h4 h5 h6)
  | ishl =>
    obtain rfl := hl.resolve_left (fun z => by cases z)
    intro h0 ad H locs ls h1 h2 h3 h4 h5 h6
    obtain ⟨x, r, rfl, k1⟩ := dp_pi_of h
    obtain ⟨z, r, rfl, hk⟩ := dp_pi_of k1
    exact lv_ishl hx hb hd (hk h0 ad H locs ls h1 h2 h3 h4 h5 h6)
  | ishr =>
    obtain rfl := hl.resolve_left (fun z => by cases z)
    intro h0 ad H locs ls h1 h2 h3 h4 h5 h6
    obtain ⟨x, r, rfl, k1⟩ := dp_pi_of h
    obtain ⟨z, r, rfl, hk⟩ := dp_pi_of k1
    exact lv_ishr hx hb hd (hk h0 ad H locs ls h1 h2 h3 h4 h5 h6)
  | iushr =>
    obtain rfl := hl.resolve_left (fun z => by cases z)
    intro h0 ad H locs ls h1 h2 h3 h4 h5 h6
    obtain ⟨x, r, rfl, k1⟩ := dp_pi_of h
    obtain ⟨z, r, rfl, hk⟩ := dp_pi_of k1
    exact lv_iushr hx hb hd rfl (hk h0 ad H locs ls h1 h2 h3 h4 h5 h6)
  | idiv =>
    obtain rfl := hl.resolve_left (fun z => by cases z)
    intro h0 ad H locs ls h1 h2 h3 h4 h5 h6
    obtain ⟨x, r, rfl, k1⟩ := dp_pi_of h
    obtain ⟨z, r, rfl, hne, hk⟩ := dp_pi_of k1
    exact lv_idiv hx hb hd hne (hk h0 ad H locs ls h1 h2 h3 h4 h5 h6)
  | i2l =>
    obtain rfl := hl.resolve_left (fun z => by cases z)
    intro h0 ad H locs ls h1 h2 h3 h4 h5 h6
    obtain ⟨x, r, rfl, hk⟩ := dp_pi_of h
    exact lv_i2l hx hb hd rfl (hk h0 ad H locs ls h1 h2 h3 h4 h5 h6)
  | i2d =>
    obtain rfl := hl.resolve_left (fun z => by cases z)
    intro h0 ad H locs ls h1 h2 h3 h4 h5 h6
    obtain ⟨x, r, rfl, hk⟩ := dp_pi_of h
    exact lv_i2d hx hb hd (hk h0 ad H locs ls h1 h2 h3 h4 h5 h6)
  | ladd =>
    obtain rfl := hl.resolve_left (fun z => by cases z)
    intro h0 ad H locs ls h1 h2 h3 h4 h5 h6
    obtain ⟨x, r, rfl, k1⟩ := dp_pj_of h
    obtain ⟨z, r, rfl, hk⟩ := dp_pj_of k1
    exact lv_ladd hx hb hd (hk h0 ad H locs ls h1 h2 h3 h4 h5 h6)
  | lmul =>
    obtain rfl := hl.resolve_left (fun z => by cases z)
    intro h0 ad H locs ls h1 h2 h3 h4 h5 h6
    obtain ⟨x, r, rfl, k1⟩ := dp_pj_of h
    obtain ⟨z, r, rfl, hk⟩ := dp_pj_of k1
    exact lv_lmul hx hb hd (hk h0 ad H locs ls h1 h2 h3 h4 h5 h6)
  | lcmp =>
    obtain rfl := hl.resolve_left (fun z => by cases z)
    intro h0 ad H locs ls h1 h2 h3 h4 h5 h6
    obtain ⟨x, r, rfl, k1⟩ := dp_pj_of h
    obtain ⟨z, r, rfl, hk⟩ := dp_pj_of k1
    exact W.lcmp hx hb hd (hk h0 ad H locs ls h1 h2 h3 h4 h5 h6)
  | ddiv =>
    obtain rfl := hl.resolve_left (fun z => by cases z)
    intro h0 ad H locs ls h1 h2 h3 h4 h5 h6
    obtain ⟨x, r, rfl, k1⟩ := dp_pd_of h
    obtain ⟨z, r, rfl, hne, hk⟩ := dp_pd_of k1
    exact lv_ddiv hx hb hd hne (hk h0 ad H locs ls h1 h2 h3 h4 h5 h6)
  | dcmp w =>
    obtain rfl := hl.resolve_left (fun z => by cases z)
    intro h0 ad H locs ls h1 h2 h3 h4 h5 h6
    obtain ⟨x, r, rfl, k1⟩ := dp_pd_of h
    obtain ⟨z, r, rfl, hk⟩ := dp_pd_of k1
    exact lv_dcmp hx hb hd (hk h0 ad H locs ls h1 h2 h3 h4 h5 h6)
  | ifCond cnd off =>
    obtain rfl := hl.resolve_left (fun z => by cases z)
    intro h0 ad H locs ls h1 h2 h3 h4 h5 h6
    cases cnd with
    | eq =>
      obtain ⟨x, r, rfl, k1⟩ := dp_pi_of h
      exact lv_if_eq hx hb hd (dp_jt_eq (of_decide_eq_true hj)) (fun w => k1.1 w h0 ad H locs ls h1 h2 h3 h4 h5 h6) (fun w => k1.2 w h0 ad H locs ls h1 h2 h3 h4 h5 h6)
    | ne =>
      obtain ⟨x, r, rfl, k1⟩ := dp_pi_of h
      exact lv_if_ne hx hb hd (dp_jt_eq (of_decide_eq_true hj)) (fun w => k1.2 w h0 ad H locs ls h1 h2 h3 h4 h5 h6) (fun w => k1.1 w h0 ad H locs ls h1 h2 h3 h4 h5 h6)
    | lt =>
      obtain ⟨x, r, rfl, k1⟩ := dp_pi_of h
      exact lv_if_lt hx hb hd (dp_jt_eq (of_decide_eq_true hj)) (fun w => k1.1 w h0 ad H locs ls h1 h2 h3 h4 h5 h6) (fun w => k1.2 w h0 ad H locs ls h1 h2 h3 h4 h5 h6)
    | ge =>
      obtain ⟨x, r, rfl, k1⟩ := dp_pi_of h
      exact lv_if_ge hx hb hd (dp_jt_eq (of_decide_eq_true hj)) (fun w => k1.2 (Int32.not_lt.mpr w) h0 ad H locs ls h1 h2 h3 h4 h5 h6) (fun w => k1.1 (Int32.not_le.mp w) h0 ad H locs ls h1 h2 h3 h4 h5 h6)
    | gt =>
      obtain ⟨x, r, rfl, k1⟩ := dp_pi_of h
      exact lv_if_gt hx hb hd (dp_jt_eq (of_decide_eq_true hj)) (fun w => k1.1 w h0 ad H locs ls h1 h2 h3 h4 h5 h6) (fun w => k1.2 w h0 ad H locs ls h1 h2 h3 h4 h5 h6)
    | le =>
      obtain ⟨x, r, rfl, k1⟩ := dp_pi_of h
      exact lv_if_le hx hb hd (dp_jt_eq (of_decide_eq_true hj)) (fun w => k1.2 (Int32.not_lt.mpr w) h0 ad H locs ls h1 h2 h3 h4 h5 h6) (fun w => k1.1 (Int32.not_le.mp w) h0 ad H locs ls h1 h2 h3 h4 h5 h6)
  | if_icmp cnd off =>
    obtain rfl := hl.resolve_left (fun z => by cases z)
    intro h0 ad H locs ls h1 h2 h3 h4 h5 h6
    cases cnd with
    | eq =>
      obtain ⟨x, r, rfl, k1⟩ := dp_pi_of h
      obtain ⟨z, r, rfl, k2⟩ := dp_pi_of k1
      exact lv_icmp_eq hx hb hd (dp_jt_eq (of_decide_eq_true hj)) (fun w => k2.1 w h0 ad H locs ls h1 h2 h3 h4 h5 h6) (fun w => k2.2 w h0 ad H locs ls h1 h2 h3 h4 h5 h6)
    | ne =>
      obtain ⟨x, r, rfl, k1⟩ := dp_pi_of h
      obtain ⟨z, r, rfl, k2⟩ := dp_pi_of k1
      exact lv_icmp_ne hx hb hd (dp_jt_eq (of_decide_eq_true hj)) (fun w => k2.2 w h0 ad H locs ls h1 h2 h3 h4 h5 h6) (fun w => k2.1 w h0 ad H locs ls h1 h2 h3 h4 h5 h6)
    | lt =>
      obtain ⟨x, r, rfl, k1⟩ := dp_pi_of h
      obtain ⟨z, r, rfl, k2⟩ := dp_pi_of k1
      exact lv_icmp_lt hx hb hd (dp_jt_eq (of_decide_eq_true hj)) (fun w => k2.1 w h0 ad H locs ls h1 h2 h3 h4 h5 h6) (fun w => k2.2 w h0 ad H locs ls h1 h2 h3 h4 h5 h6)
    | ge =>
      obtain ⟨x, r, rfl, k1⟩ := dp_pi_of h
      obtain ⟨z, r, rfl, k2⟩ := dp_pi_of k1
      exact lv_icmp_ge hx hb hd (dp_jt_eq (of_decide_eq_true hj)) (fun w => k2.2 (Int32.not_lt.mpr w) h0 ad H locs ls h1 h2 h3 h4 h5 h6) (fun w => k2.1 (Int32.not_le.mp w) h0 ad H locs ls h1 h2 h3 h4 h5 h6)
    | gt =>
      obtain ⟨x, r, rfl, k1⟩ := dp_pi_of h
      obtain ⟨z, r, rfl, k2⟩ := dp_pi_of k1
      exact lv_icmp_gt hx hb hd (dp_jt_eq (of_decide_eq_true hj)) (fun w => k2.1 w h0 ad H locs ls h1 h2 h3 h4 h5 h6) (fun w => k2.2 w h0 ad H locs ls h1 h2 h3 h4 h5 h6)
    | le =>
      obtain ⟨x, r, rfl, k1⟩ := dp_pi_of h
      obtain ⟨z, r, rfl, k2⟩ := dp_pi_of k1
      exact lv_icmp_le hx hb hd (dp_jt_eq (of_decide_eq_true hj)) (fun w => k2.2 (Int32.not_lt.mpr w) h0 ad H locs ls h1 h2 h3 h4 h5 h6) (fun w => k2.1 (Int32.not_le.mp w) h0 ad H locs ls h1 h2 h3 h4 h5 h6)
  | goto off =>
    obtain rfl := hl.resolve_left (fun z => by cases z)
    intro h0 ad H locs ls h1 h2 h3 h4 h5 h6
    exact lv_goto hx hb hd (dp_jt_eq (of_decide_eq_true hj)) (h h0 ad H locs ls h1 h2 h3 h4 h5 h6)
  | tableswitch dflt lo hi offs =>
    intro h0 ad H locs ls h1 h2 h3 h4 h5 h6
    obtain ⟨x, r, rfl, k1, k2⟩ := dp_pi_of h
    simp only [dp_jok, Bool.and_eq_true, decide_eq_true_eq] at hj
    obtain ⟨⟨j1, j2⟩, j3⟩ := hj
    by_cases hlo9 : x.toInt < lo ∨ hi < x.toInt
    · exact lv_tableOut hx hb hd hlo9 (dp_jt_eq j1) (k1 hlo9 h0 ad H locs ls h1 h2 h3 h4 h5 h6)
    · obtain ⟨n1, n2⟩ := not_or.mp hlo9
      obtain ⟨off, f1, f2⟩ := dp_ts_of (x.toInt - lo).toNat k2 (by omega) (by omega)
      have f3 : offs[(x.toInt - lo).toNat]? = some off := by rw [← Array.getElem?_toList]; exact f1
      have f4 := List.all_eq_true.mp j2 off (List.mem_of_getElem? f1)
      exact lv_tableIn hx hb hd n1 n2 f3 (dp_jt_eq (of_decide_eq_true f4)) (f2 h0 ad H locs ls h1 h2 h3 h4 h5 h6)
  | getfield i =>
    obtain rfl := hl.resolve_left (fun z => by cases z)
    intro h0 ad H locs ls h1 h2 h3 h4 h5 h6
    obtain ⟨hh, r, rfl, hhn, k1⟩ := dp_pr_of h
    obtain ⟨ci, k, fs, v, g1, g2, g3, g4⟩ := dp_get_of k1
    have hm := dp_fld_in g1
    obtain ⟨f1, f2, f3, f4⟩ := dp_fl_ok _ hm
    have hcl := dp_clT f2
    have hlk := hts _ (dp_wd_field hm)
    unfold dp_fieldW at hlk
    rw [f4] at hlk
    refine va_get (C := (vwCl.getD ci (RX0, TX0, 5)).1) (T := (vwCl.getD ci (RX0, TX0, 5)).2.1) (N := (vwCl.getD ci (RX0, TX0, 5)).2.2) (ref := (vwCl.getD ci (RX0, TX0, 5)).1) (v := dp_cv ad v) hx hb hts (dp_wd_lays hcl) hown hG.1 h4 hh (by rw [dp_wl_at hhn, dp_cel_O g2]) hcl k f3 hlk (fun x9 h9 => by rw [← f4]; exact h9) (by rw [List.getElem?_map, dp_gtv_get _ _ _ g3]; rfl) hd ?_
    exact g4 h0 ad H locs ls h1 h2 h3 h4 h5 h6
  | putfield i =>
    obtain rfl := hl.resolve_left (fun z => by cases z)
    intro h0 ad H locs ls h1 h2 h3 h4 h5 h6
    obtain ⟨x, r, rfl, k0⟩ := dp_pi_of h
    obtain ⟨hh, r, rfl, hhn, k1⟩ := dp_pr_of k0
    obtain ⟨ci, k, fs, w, g1, g2, g3, g4⟩ := dp_put_of k1
    have hm := dp_fld_in g1
    obtain ⟨f1, f2, f3, f4⟩ := dp_fl_ok _ hm
    have hcl := dp_clT f2
    obtain ⟨ty0, t1, t2⟩ := dp_clF hcl
    obtain ⟨q1, q2, q3, q4, q5⟩ := dp_objint g2 g3
    have hlk := hts _ (dp_wd_field hm)
    unfold dp_fieldW at hlk
    rw [f4] at hlk
    refine va_put (C := (vwCl.getD ci (RX0, TX0, 5)).1) (T := (vwCl.getD ci (RX0, TX0, 5)).2.1) (N := (vwCl.getD ci (RX0, TX0, 5)).2.2) (ref := (vwCl.getD ci (RX0, TX0, 5)).1) (v := .int x) (ty := .int) hx hb hts (dp_wd_lays hcl) ty0 t1 t2 hown hG.1 h4 h5 h6 hh (by rw [dp_wl_at hhn, dp_cel_O g2]) hcl k f3 hlk (fun x9 h9 => by rw [← f4]; exact h9) q3 q4 rfl rfl (by rw [List.length_map]; exact q5) hd (fun H1 locs1 e1 e2 e3 => ?_)
    rw [dp_set_F g2 g3] at e1 e2
    exact g4 h0 ad H1 locs1 ls h1 h2 h3 e1 e2 e3
  | iaload =>
    obtain rfl := hl.resolve_left (fun z => by cases z)
    intro h0 ad H locs ls h1 h2 h3 h4 h5 h6
    obtain ⟨i, r, rfl, k1⟩ := dp_pi_of h
    obtain ⟨hh, r, rfl, k2⟩ := dp_pr_of k1
    rcases k2 with ⟨rfl, q1, q2⟩ | ⟨q0, q1, q2, q3, q4⟩
    · have hX9 := hG.2.2.2
      have := va_sld hx hb hX9.1 hX9.2.1 hX9.2.2.1 h6 q1 hd (q2 h0 ad H locs ls h1 h2 h3 h4 h5 h6)
      rw [← h2] at this
      exact this
    · exact va_iald hx hb hG.1 h4 hh 0 (dp_wl_A q2 q1) rfl q3 hd (q4 h0 ad H locs ls h1 h2 h3 h4 h5 h6)
  | iastore =>
    obtain rfl := hl.resolve_left (fun z => by cases z)
    intro h0 ad H locs ls h1 h2 h3 h4 h5 h6
    obtain ⟨x, r, rfl, k0⟩ := dp_pi_of h
    obtain ⟨i, r, rfl, k1⟩ := dp_pi_of k0
    obtain ⟨hh, r, rfl, q1, q2, q3, q4⟩ := dp_pr_of k1
    refine va_iast hx hb hG.1 h4 h5 h6 hh 0 (dp_wl_A q2 q1) rfl q3 hd (fun H1 locs1 e1 e2 e3 => ?_)
    rw [dp_set_A q1, dp_up_row] at e1 e2
    exact q4 h0 ad H1 locs1 ls h1 h2 h3 e1 e2 e3
  | laload =>
    obtain rfl := hl.resolve_left (fun z => by cases z)
    intro h0 ad H locs ls h1 h2 h3 h4 h5 h6
    obtain ⟨i, r, rfl, k1⟩ := dp_pi_of h
    obtain ⟨hh, r, rfl, rfl, q2, q3, q4⟩ := dp_pr_of k1
    have hz : i.toNatClampNeg = 0 := by have := Nat.not_le.mp (fun z => q3 (Or.inr z)); omega
    refine va_lald (f := fun j => if j = 0 then o else 0) hx hb hG.1 h4 26 1 (dp_wl_at q2) rfl q3 hd ?_
    rw [hz]
    exact q4 h0 ad H locs ls h1 h2 h3 h4 h5 h6
  | lastore =>
    obtain rfl := hl.resolve_left (fun z => by cases z)
    intro h0 ad H locs ls h1 h2 h3 h4 h5 h6
    obtain ⟨x, r, rfl, k0⟩ := dp_pj_of h
    obtain ⟨i, r, rfl, k1⟩ := dp_pi_of k0
    obtain ⟨hh, r, rfl, rfl, q2, q3, q4⟩ := dp_pr_of k1
    refine va_last hx hb hG.1 h4 h5 h6 26 1 (f := fun j => if j = 0 then o else 0) (dp_wl_at q2) rfl q3 hd (fun H1 locs1 e1 e2 e3 => ?_)
    have hz : i.toNatClampNeg = 0 := by have := Nat.not_le.mp (fun z => q3 (Or.inr z)); omega
    rw [dp_set_O (x := x) (by funext j; rw [hz]; by_cases hj : j = 0 <;> simp [vp_updL, hj])] at e1 e2
    exact q4 h0 ad H1 locs1 ls h1 h2 h3 e1 e2 e3
  | aaload =>
    obtain rfl := hl.resolve_left (fun z => by cases z)
    intro h0 ad H locs ls h1 h2 h3 h4 h5 h6
    obtain ⟨i, r, rfl, k1⟩ := dp_pi_of h
    obtain ⟨hh, r, rfl, hhn, k2⟩ := dp_pr_of k1
    unfold dp_aal at k2
    split at k2
    · exact dp_aald hx hb hG.1 h4 7 2 (dp_wl_at hhn) rfl k2.1 hd (by rw [dp_outA k2.1]; exact k2.2 h0 ad H locs ls h1 h2 h3 h4 h5 h6)
    · exact dp_aald hx hb hG.1 h4 9 2 (dp_wl_at hhn) rfl k2.1 hd (by rw [dp_outA k2.1]; exact k2.2 h0 ad H locs ls h1 h2 h3 h4 h5 h6)
    · exact dp_aald hx hb hG.1 h4 11 2 (dp_wl_at hhn) rfl k2.1 hd (by rw [dp_outA k2.1]; exact k2.2 h0 ad H locs ls h1 h2 h3 h4 h5 h6)
    · exact k2.elim
  | arraylength =>
    obtain rfl := hl.resolve_left (fun z => by cases z)
    intro h0 ad H locs ls h1 h2 h3 h4 h5 h6
    obtain ⟨hh, r, rfl, k2⟩ := dp_pr_of h
    rcases k2 with ⟨rfl, q2⟩ | ⟨q0, q1, q2, q4⟩
    · have hX9 := hG.2.2.2
      have := va_slen hx hb hX9.1 hX9.2.1 hX9.2.2.1 h6 hd (q2 h0 ad H locs ls h1 h2 h3 h4 h5 h6)
      rw [← h2] at this
      exact this
    · exact va_alen hx hb hG.1 h4 hh 0 (dp_wl_A q2 q1) rfl rfl hd (q4 h0 ad H locs ls h1 h2 h3 h4 h5 h6)
  | dup =>
    obtain rfl := hl.resolve_left (fun z => by cases z)
    intro h0 ad H locs ls h1 h2 h3 h4 h5 h6
    obtain ⟨v, r, rfl, q1, q2⟩ := dp_p1_of h
    exact lv_dup hx hb hd (by rw [dp_cv_cat]; exact q1) (q2 h0 ad H locs ls h1 h2 h3 h4 h5 h6)
  | dup2 =>
    obtain rfl := hl.resolve_left (fun z => by cases z)
    intro h0 ad H locs ls h1 h2 h3 h4 h5 h6
    obtain ⟨v, r, rfl, k1⟩ := dp_p1_of h
    obtain ⟨w, r, rfl, q1, q2, q3⟩ := dp_p1_of k1
    exact lv_dup2_11 hx hb hd (by rw [dp_cv_cat]; exact q1) (by rw [dp_cv_cat]; exact q2) (q3 h0 ad H locs ls h1 h2 h3 h4 h5 h6)
  | pop =>
    obtain rfl := hl.resolve_left (fun z => by cases z)
    intro h0 ad H locs ls h1 h2 h3 h4 h5 h6
    obtain ⟨v, r, rfl, q1, q2⟩ := dp_p1_of h
    exact lv_pop hx hb hd (by rw [dp_cv_cat]; exact q1) (q2 h0 ad H locs ls h1 h2 h3 h4 h5 h6)
  | return_ =>
    obtain rfl := hl.resolve_left (fun z => by cases z)
    intro h0 ad H locs ls h1 h2 h3 h4 h5 h6
    obtain ⟨rfl, q1, q2, q3, q4⟩ := h
    exact hE none pc n cc q M o ad H locs ls h0.1 h1 h4 h5 h6 (Or.inl ⟨hd, rfl, q1⟩) q2 q3 q4
  | ireturn =>
    obtain rfl := hl.resolve_left (fun z => by cases z)
    intro h0 ad H locs ls h1 h2 h3 h4 h5 h6
    obtain ⟨x, r, rfl, rfl, q1, q2, q3, q4⟩ := dp_pi_of h
    exact hE (some (.int x)) pc n cc q M o ad H locs ls h0.1 h1 h4 h5 h6 (Or.inr (Or.inl ⟨x, hd, rfl, q1⟩)) q2 q3 q4
  | lreturn =>
    obtain rfl := hl.resolve_left (fun z => by cases z)
    intro h0 ad H locs ls h1 h2 h3 h4 h5 h6
    obtain ⟨x, r, rfl, rfl, q1, q2, q3, q4⟩ := dp_pj_of h
    exact hE (some (.long x)) pc n cc q M o ad H locs ls h0.1 h1 h4 h5 h6 (Or.inr (Or.inr (Or.inl ⟨x, hd, rfl, q1⟩))) q2 q3 q4
  | dreturn =>
    obtain rfl := hl.resolve_left (fun z => by cases z)
    intro h0 ad H locs ls h1 h2 h3 h4 h5 h6
    obtain ⟨x, r, rfl, rfl, q1, q2, q3, q4⟩ := dp_pd_of h
    exact hE (some (.double x)) pc n cc q M o ad H locs ls h0.1 h1 h4 h5 h6 (Or.inr (Or.inr (Or.inr ⟨x, hd, rfl, q1⟩))) q2 q3 q4
  | checkcast i =>
    obtain rfl := hl.resolve_left (fun z => by cases z)
    intro h0 ad H locs ls h1 h2 h3 h4 h5 h6
    obtain ⟨hh, r, rfl, rfl, q1, q2, q3, q4⟩ := dp_pr_of h
    have hw := hts _ (dp_wd_x0 12 rfl)
    rw [q1] at hown
    exact va_castA hx hb hown hw h4 hh (dp_wl_A q3 q2) (hG.1.2 0 _ rfl).2 hd (q4 h0 ad H locs ls h1 h2 h3 h4 h5 h6)
  | invokevirtual i =>
    obtain rfl := hl.resolve_left (fun z => by cases z)
    rcases h with h | ⟨ho, h⟩
    · exact dp_inv_ok C' hdd hX hC (sb := false) hd h
    · exact dp_cln_ok C' hd ho h
  | invokestatic i =>
    obtain rfl := hl.resolve_left (fun z => by cases z)
    rcases h with h | h
    · exact dp_inv_ok C' hdd hX hC (sb := true) hd h
    · exact dp_natw_ok C' hd h
  | new i =>
    obtain rfl := hl.resolve_left (fun z => by cases z)
    intro h0 ad H locs ls h1 h2 h3 h4 h5 h6
    obtain ⟨ho, h⟩ := h
    obtain ⟨q1, q2, q3⟩ := dp_ec_of h
    simp only [dp_jok, Bool.or_eq_true, beq_iff_eq] at hj
    rcases hj with hj | hj
    · omega
    · exact hN i pc n cc q M o ad H locs ls st h0.1 h1 h3.1 h4 h5 h6 hd hj ho q2 q3 q1
  | _ => exact h.elim
end DPU
end
section
theorem dp_zz : True := trivial
end
