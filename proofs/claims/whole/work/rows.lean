section
-- ===== PART A: goes FIRST, ahead of the names: the tables' words, and 'selects' of the private methods out of them =====
/-- a private method of a class that the tables say can be made, by its rows of tables_1 -/
def lw_okq (q : MethodName × Nat) : Prop := (q.1.cls ≠ "java/lang/invoke/MethodHandle" ∧ q.1.cls ≠ "java/lang/invoke/VarHandle") ∧ Cond.instantiable q.1.cls q.2 ∈ tables_1 ∧ Cond.privateMethod q.1 ∈ tables_1 ∧ Cond.instanceMethod q.1 ∈ tables_1
theorem lw_p0 : lw_okq (⟨"java/util/ArrayList", "add", "(Ljava/lang/Object;[Ljava/lang/Object;I)V"⟩, 3) := ⟨⟨by decide +kernel, by decide +kernel⟩, List.mem_of_getElem? (i := 160) (by decide +kernel), List.mem_of_getElem? (i := 192) (by decide +kernel), List.mem_of_getElem? (i := 193) (by decide +kernel)⟩
theorem lw_p1 : lw_okq (⟨"java/util/ArrayList", "grow", "()[Ljava/lang/Object;"⟩, 3) := ⟨⟨by decide +kernel, by decide +kernel⟩, List.mem_of_getElem? (i := 160) (by decide +kernel), List.mem_of_getElem? (i := 196) (by decide +kernel), List.mem_of_getElem? (i := 197) (by decide +kernel)⟩
theorem lw_p2 : lw_okq (⟨"java/util/ArrayList", "grow", "(I)[Ljava/lang/Object;"⟩, 3) := ⟨⟨by decide +kernel, by decide +kernel⟩, List.mem_of_getElem? (i := 160) (by decide +kernel), List.mem_of_getElem? (i := 200) (by decide +kernel), List.mem_of_getElem? (i := 201) (by decide +kernel)⟩
theorem lw_p3 : lw_okq (⟨"SlantSlate", "errorIndex", "()I"⟩, 15) := ⟨⟨by decide +kernel, by decide +kernel⟩, List.mem_of_getElem? (i := 31) (by decide +kernel), List.mem_of_getElem? (i := 306) (by decide +kernel), List.mem_of_getElem? (i := 307) (by decide +kernel)⟩
theorem lw_p4 : lw_okq (⟨"SlantSlate", "codeAt", "(I)I"⟩, 15) := ⟨⟨by decide +kernel, by decide +kernel⟩, List.mem_of_getElem? (i := 31) (by decide +kernel), List.mem_of_getElem? (i := 310) (by decide +kernel), List.mem_of_getElem? (i := 311) (by decide +kernel)⟩
theorem lw_p5 : lw_okq (⟨"SlantSlate", "bestQuestion", "()I"⟩, 15) := ⟨⟨by decide +kernel, by decide +kernel⟩, List.mem_of_getElem? (i := 31) (by decide +kernel), List.mem_of_getElem? (i := 371) (by decide +kernel), List.mem_of_getElem? (i := 372) (by decide +kernel)⟩
theorem lw_p6 : lw_okq (⟨"SlantSlate", "headsLeft", "(I)I"⟩, 15) := ⟨⟨by decide +kernel, by decide +kernel⟩, List.mem_of_getElem? (i := 31) (by decide +kernel), List.mem_of_getElem? (i := 379) (by decide +kernel), List.mem_of_getElem? (i := 380) (by decide +kernel)⟩
theorem lw_p7 : lw_okq (⟨"SlantSlate", "leftCode", "(I)J"⟩, 15) := ⟨⟨by decide +kernel, by decide +kernel⟩, List.mem_of_getElem? (i := 31) (by decide +kernel), List.mem_of_getElem? (i := 383) (by decide +kernel), List.mem_of_getElem? (i := 384) (by decide +kernel)⟩
theorem lw_p8 : lw_okq (⟨"SlantSlate", "rankAmongAll", "(I)I"⟩, 15) := ⟨⟨by decide +kernel, by decide +kernel⟩, List.mem_of_getElem? (i := 31) (by decide +kernel), List.mem_of_getElem? (i := 387) (by decide +kernel), List.mem_of_getElem? (i := 388) (by decide +kernel)⟩
theorem lw_p9 : lw_okq (⟨"SlantSlate", "mostLeftBehind", "(I)I"⟩, 15) := ⟨⟨by decide +kernel, by decide +kernel⟩, List.mem_of_getElem? (i := 31) (by decide +kernel), List.mem_of_getElem? (i := 405) (by decide +kernel), List.mem_of_getElem? (i := 406) (by decide +kernel)⟩
theorem lw_p10 : lw_okq (⟨"SlantSlate", "leftIf", "(II)I"⟩, 15) := ⟨⟨by decide +kernel, by decide +kernel⟩, List.mem_of_getElem? (i := 31) (by decide +kernel), List.mem_of_getElem? (i := 409) (by decide +kernel), List.mem_of_getElem? (i := 410) (by decide +kernel)⟩
theorem lw_p11 : lw_okq (⟨"SlantSlate", "fits", "(JI)Z"⟩, 15) := ⟨⟨by decide +kernel, by decide +kernel⟩, List.mem_of_getElem? (i := 31) (by decide +kernel), List.mem_of_getElem? (i := 417) (by decide +kernel), List.mem_of_getElem? (i := 418) (by decide +kernel)⟩
theorem lw_p12 : lw_okq (⟨"SlantSlate", "kindsToAdd", "()I"⟩, 15) := ⟨⟨by decide +kernel, by decide +kernel⟩, List.mem_of_getElem? (i := 31) (by decide +kernel), List.mem_of_getElem? (i := 434) (by decide +kernel), List.mem_of_getElem? (i := 435) (by decide +kernel)⟩
theorem lw_p13 : lw_okq (⟨"SlantSlate$Readings", "setForcedHeads", "()Z"⟩, 5) := ⟨⟨by decide +kernel, by decide +kernel⟩, List.mem_of_getElem? (i := 62) (by decide +kernel), List.mem_of_getElem? (i := 456) (by decide +kernel), List.mem_of_getElem? (i := 457) (by decide +kernel)⟩
theorem lw_p14 : lw_okq (⟨"SlantSlate$Readings", "kindAt", "(I)I"⟩, 5) := ⟨⟨by decide +kernel, by decide +kernel⟩, List.mem_of_getElem? (i := 62) (by decide +kernel), List.mem_of_getElem? (i := 460) (by decide +kernel), List.mem_of_getElem? (i := 461) (by decide +kernel)⟩
theorem lw_p15 : lw_okq (⟨"SlantSlate$Readings", "hangNoun", "(I)Z"⟩, 5) := ⟨⟨by decide +kernel, by decide +kernel⟩, List.mem_of_getElem? (i := 62) (by decide +kernel), List.mem_of_getElem? (i := 470) (by decide +kernel), List.mem_of_getElem? (i := 471) (by decide +kernel)⟩
def lw_privs_1 : List (MethodName × Nat) := [(⟨"java/util/ArrayList", "add", "(Ljava/lang/Object;[Ljava/lang/Object;I)V"⟩, 3), (⟨"java/util/ArrayList", "grow", "()[Ljava/lang/Object;"⟩, 3), (⟨"java/util/ArrayList", "grow", "(I)[Ljava/lang/Object;"⟩, 3), (⟨"SlantSlate", "errorIndex", "()I"⟩, 15), (⟨"SlantSlate", "codeAt", "(I)I"⟩, 15), (⟨"SlantSlate", "bestQuestion", "()I"⟩, 15), (⟨"SlantSlate", "headsLeft", "(I)I"⟩, 15), (⟨"SlantSlate", "leftCode", "(I)J"⟩, 15), (⟨"SlantSlate", "rankAmongAll", "(I)I"⟩, 15), (⟨"SlantSlate", "mostLeftBehind", "(I)I"⟩, 15), (⟨"SlantSlate", "leftIf", "(II)I"⟩, 15), (⟨"SlantSlate", "fits", "(JI)Z"⟩, 15), (⟨"SlantSlate", "kindsToAdd", "()I"⟩, 15), (⟨"SlantSlate$Readings", "setForcedHeads", "()Z"⟩, 5), (⟨"SlantSlate$Readings", "kindAt", "(I)I"⟩, 5), (⟨"SlantSlate$Readings", "hangNoun", "(I)Z"⟩, 5)]
theorem lw_r1 : ∀ q ∈ lw_privs_1, lw_okq q := List.forall_mem_cons.mpr ⟨lw_p0, List.forall_mem_cons.mpr ⟨lw_p1, List.forall_mem_cons.mpr ⟨lw_p2, List.forall_mem_cons.mpr ⟨lw_p3, List.forall_mem_cons.mpr ⟨lw_p4, List.forall_mem_cons.mpr ⟨lw_p5, List.forall_mem_cons.mpr ⟨lw_p6, List.forall_mem_cons.mpr ⟨lw_p7, List.forall_mem_cons.mpr ⟨lw_p8, List.forall_mem_cons.mpr ⟨lw_p9, List.forall_mem_cons.mpr ⟨lw_p10, List.forall_mem_cons.mpr ⟨lw_p11, List.forall_mem_cons.mpr ⟨lw_p12, List.forall_mem_cons.mpr ⟨lw_p13, List.forall_mem_cons.mpr ⟨lw_p14, List.forall_mem_cons.mpr ⟨lw_p15, fun _ h => absurd h List.not_mem_nil⟩⟩⟩⟩⟩⟩⟩⟩⟩⟩⟩⟩⟩⟩⟩⟩
theorem lw_p16 : lw_okq (⟨"SlantSlate$Readings", "setHead", "(II)V"⟩, 5) := ⟨⟨by decide +kernel, by decide +kernel⟩, List.mem_of_getElem? (i := 62) (by decide +kernel), List.mem_of_getElem? (i := 474) (by decide +kernel), List.mem_of_getElem? (i := 475) (by decide +kernel)⟩
theorem lw_p17 : lw_okq (⟨"SlantSlate$Readings", "hangFrom", "(I)V"⟩, 5) := ⟨⟨by decide +kernel, by decide +kernel⟩, List.mem_of_getElem? (i := 62) (by decide +kernel), List.mem_of_getElem? (i := 478) (by decide +kernel), List.mem_of_getElem? (i := 479) (by decide +kernel)⟩
theorem lw_p18 : lw_okq (⟨"SlantSlate$Readings", "pushReading", "()V"⟩, 5) := ⟨⟨by decide +kernel, by decide +kernel⟩, List.mem_of_getElem? (i := 62) (by decide +kernel), List.mem_of_getElem? (i := 482) (by decide +kernel), List.mem_of_getElem? (i := 483) (by decide +kernel)⟩
theorem lw_p19 : lw_okq (⟨"SlantSlate$Readings", "headAt", "(I)I"⟩, 5) := ⟨⟨by decide +kernel, by decide +kernel⟩, List.mem_of_getElem? (i := 62) (by decide +kernel), List.mem_of_getElem? (i := 486) (by decide +kernel), List.mem_of_getElem? (i := 487) (by decide +kernel)⟩
theorem lw_p20 : lw_okq (⟨"SlantSlate$Readings", "openBehind", "(I)I"⟩, 5) := ⟨⟨by decide +kernel, by decide +kernel⟩, List.mem_of_getElem? (i := 62) (by decide +kernel), List.mem_of_getElem? (i := 490) (by decide +kernel), List.mem_of_getElem? (i := 491) (by decide +kernel)⟩
theorem lw_p21 : lw_okq (⟨"SlantSlate$Readings", "canHold", "(II)Z"⟩, 5) := ⟨⟨by decide +kernel, by decide +kernel⟩, List.mem_of_getElem? (i := 62) (by decide +kernel), List.mem_of_getElem? (i := 494) (by decide +kernel), List.mem_of_getElem? (i := 495) (by decide +kernel)⟩
theorem lw_p22 : lw_okq (⟨"SlantSlate$Readings", "isJoined", "(II)Z"⟩, 5) := ⟨⟨by decide +kernel, by decide +kernel⟩, List.mem_of_getElem? (i := 62) (by decide +kernel), List.mem_of_getElem? (i := 498) (by decide +kernel), List.mem_of_getElem? (i := 499) (by decide +kernel)⟩
theorem lw_p23 : lw_okq (⟨"SlantSlate", "share", "()D"⟩, 15) := ⟨⟨by decide +kernel, by decide +kernel⟩, List.mem_of_getElem? (i := 31) (by decide +kernel), List.mem_of_getElem? (i := 506) (by decide +kernel), List.mem_of_getElem? (i := 507) (by decide +kernel)⟩
theorem lw_p24 : lw_okq (⟨"SlantSlate", "number", "(I)I"⟩, 15) := ⟨⟨by decide +kernel, by decide +kernel⟩, List.mem_of_getElem? (i := 31) (by decide +kernel), List.mem_of_getElem? (i := 516) (by decide +kernel), List.mem_of_getElem? (i := 517) (by decide +kernel)⟩
theorem lw_p25 : lw_okq (⟨"SlantSlate", "openWords", "()I"⟩, 15) := ⟨⟨by decide +kernel, by decide +kernel⟩, List.mem_of_getElem? (i := 31) (by decide +kernel), List.mem_of_getElem? (i := 537) (by decide +kernel), List.mem_of_getElem? (i := 538) (by decide +kernel)⟩
theorem lw_p26 : lw_okq (⟨"SlantSlate", "digestWords", "(J)J"⟩, 15) := ⟨⟨by decide +kernel, by decide +kernel⟩, List.mem_of_getElem? (i := 31) (by decide +kernel), List.mem_of_getElem? (i := 547) (by decide +kernel), List.mem_of_getElem? (i := 548) (by decide +kernel)⟩
theorem lw_p27 : lw_okq (⟨"SlantSlate", "wordProperty", "(II)I"⟩, 15) := ⟨⟨by decide +kernel, by decide +kernel⟩, List.mem_of_getElem? (i := 31) (by decide +kernel), List.mem_of_getElem? (i := 551) (by decide +kernel), List.mem_of_getElem? (i := 552) (by decide +kernel)⟩
theorem lw_p28 : lw_okq (⟨"SlantSlate$Drawing", "isWord", "(I)Z"⟩, 8) := ⟨⟨by decide +kernel, by decide +kernel⟩, List.mem_of_getElem? (i := 123) (by decide +kernel), List.mem_of_getElem? (i := 560) (by decide +kernel), List.mem_of_getElem? (i := 561) (by decide +kernel)⟩
theorem lw_p29 : lw_okq (⟨"SlantSlate", "digestReadings", "(J)J"⟩, 15) := ⟨⟨by decide +kernel, by decide +kernel⟩, List.mem_of_getElem? (i := 31) (by decide +kernel), List.mem_of_getElem? (i := 564) (by decide +kernel), List.mem_of_getElem? (i := 565) (by decide +kernel)⟩
theorem lw_p30 : lw_okq (⟨"SlantSlate", "readingProperty", "(II)I"⟩, 15) := ⟨⟨by decide +kernel, by decide +kernel⟩, List.mem_of_getElem? (i := 31) (by decide +kernel), List.mem_of_getElem? (i := 568) (by decide +kernel), List.mem_of_getElem? (i := 569) (by decide +kernel)⟩
theorem lw_p31 : lw_okq (⟨"SlantSlate$Drawing", "levelOf", "(I)I"⟩, 8) := ⟨⟨by decide +kernel, by decide +kernel⟩, List.mem_of_getElem? (i := 123) (by decide +kernel), List.mem_of_getElem? (i := 583) (by decide +kernel), List.mem_of_getElem? (i := 584) (by decide +kernel)⟩
def lw_privs_2 : List (MethodName × Nat) := [(⟨"SlantSlate$Readings", "setHead", "(II)V"⟩, 5), (⟨"SlantSlate$Readings", "hangFrom", "(I)V"⟩, 5), (⟨"SlantSlate$Readings", "pushReading", "()V"⟩, 5), (⟨"SlantSlate$Readings", "headAt", "(I)I"⟩, 5), (⟨"SlantSlate$Readings", "openBehind", "(I)I"⟩, 5), (⟨"SlantSlate$Readings", "canHold", "(II)Z"⟩, 5), (⟨"SlantSlate$Readings", "isJoined", "(II)Z"⟩, 5), (⟨"SlantSlate", "share", "()D"⟩, 15), (⟨"SlantSlate", "number", "(I)I"⟩, 15), (⟨"SlantSlate", "openWords", "()I"⟩, 15), (⟨"SlantSlate", "digestWords", "(J)J"⟩, 15), (⟨"SlantSlate", "wordProperty", "(II)I"⟩, 15), (⟨"SlantSlate$Drawing", "isWord", "(I)Z"⟩, 8), (⟨"SlantSlate", "digestReadings", "(J)J"⟩, 15), (⟨"SlantSlate", "readingProperty", "(II)I"⟩, 15), (⟨"SlantSlate$Drawing", "levelOf", "(I)I"⟩, 8)]
theorem lw_r2 : ∀ q ∈ lw_privs_2, lw_okq q := List.forall_mem_cons.mpr ⟨lw_p16, List.forall_mem_cons.mpr ⟨lw_p17, List.forall_mem_cons.mpr ⟨lw_p18, List.forall_mem_cons.mpr ⟨lw_p19, List.forall_mem_cons.mpr ⟨lw_p20, List.forall_mem_cons.mpr ⟨lw_p21, List.forall_mem_cons.mpr ⟨lw_p22, List.forall_mem_cons.mpr ⟨lw_p23, List.forall_mem_cons.mpr ⟨lw_p24, List.forall_mem_cons.mpr ⟨lw_p25, List.forall_mem_cons.mpr ⟨lw_p26, List.forall_mem_cons.mpr ⟨lw_p27, List.forall_mem_cons.mpr ⟨lw_p28, List.forall_mem_cons.mpr ⟨lw_p29, List.forall_mem_cons.mpr ⟨lw_p30, List.forall_mem_cons.mpr ⟨lw_p31, fun _ h => absurd h List.not_mem_nil⟩⟩⟩⟩⟩⟩⟩⟩⟩⟩⟩⟩⟩⟩⟩⟩
theorem lw_p32 : lw_okq (⟨"SlantSlate$Drawing", "readAlong", "(II)V"⟩, 8) := ⟨⟨by decide +kernel, by decide +kernel⟩, List.mem_of_getElem? (i := 123) (by decide +kernel), List.mem_of_getElem? (i := 590) (by decide +kernel), List.mem_of_getElem? (i := 591) (by decide +kernel)⟩
theorem lw_p33 : lw_okq (⟨"SlantSlate", "digestParts", "(J)J"⟩, 15) := ⟨⟨by decide +kernel, by decide +kernel⟩, List.mem_of_getElem? (i := 31) (by decide +kernel), List.mem_of_getElem? (i := 606) (by decide +kernel), List.mem_of_getElem? (i := 607) (by decide +kernel)⟩
theorem lw_p34 : lw_okq (⟨"SlantSlate", "needKind", "(I)V"⟩, 15) := ⟨⟨by decide +kernel, by decide +kernel⟩, List.mem_of_getElem? (i := 31) (by decide +kernel), List.mem_of_getElem? (i := 625) (by decide +kernel), List.mem_of_getElem? (i := 626) (by decide +kernel)⟩
theorem lw_p35 : lw_okq (⟨"java/lang/Throwable", "fillInStackTrace", "(I)Ljava/lang/Throwable;"⟩, 6) := ⟨⟨by decide +kernel, by decide +kernel⟩, List.mem_of_getElem? (i := 667) (by decide +kernel), List.mem_of_getElem? (i := 665) (by decide +kernel), List.mem_of_getElem? (i := 666) (by decide +kernel)⟩
theorem lw_p36 : lw_okq (⟨"SlantSlate", "saveState", "()V"⟩, 15) := ⟨⟨by decide +kernel, by decide +kernel⟩, List.mem_of_getElem? (i := 31) (by decide +kernel), List.mem_of_getElem? (i := 712) (by decide +kernel), List.mem_of_getElem? (i := 713) (by decide +kernel)⟩
theorem lw_p37 : lw_okq (⟨"java/util/ArrayList", "fastRemove", "([Ljava/lang/Object;I)V"⟩, 3) := ⟨⟨by decide +kernel, by decide +kernel⟩, List.mem_of_getElem? (i := 160) (by decide +kernel), List.mem_of_getElem? (i := 732) (by decide +kernel), List.mem_of_getElem? (i := 733) (by decide +kernel)⟩
theorem lw_p38 : lw_okq (⟨"SlantSlate", "beginSentence", "()I"⟩, 15) := ⟨⟨by decide +kernel, by decide +kernel⟩, List.mem_of_getElem? (i := 31) (by decide +kernel), List.mem_of_getElem? (i := 750) (by decide +kernel), List.mem_of_getElem? (i := 751) (by decide +kernel)⟩
theorem lw_p39 : lw_okq (⟨"SlantSlate", "tellReadings", "()V"⟩, 15) := ⟨⟨by decide +kernel, by decide +kernel⟩, List.mem_of_getElem? (i := 31) (by decide +kernel), List.mem_of_getElem? (i := 762) (by decide +kernel), List.mem_of_getElem? (i := 763) (by decide +kernel)⟩
theorem lw_p40 : lw_okq (⟨"SlantSlate$Parts", "nameWays", "(LSlantSlate$State;II)I"⟩, 7) := ⟨⟨by decide +kernel, by decide +kernel⟩, List.mem_of_getElem? (i := 85) (by decide +kernel), List.mem_of_getElem? (i := 771) (by decide +kernel), List.mem_of_getElem? (i := 772) (by decide +kernel)⟩
theorem lw_p41 : lw_okq (⟨"SlantSlate$Parts", "groupWays", "(LSlantSlate$State;II)I"⟩, 7) := ⟨⟨by decide +kernel, by decide +kernel⟩, List.mem_of_getElem? (i := 85) (by decide +kernel), List.mem_of_getElem? (i := 785) (by decide +kernel), List.mem_of_getElem? (i := 786) (by decide +kernel)⟩
theorem lw_p42 : lw_okq (⟨"SlantSlate$Parts", "phraseRowWays", "(II)I"⟩, 7) := ⟨⟨by decide +kernel, by decide +kernel⟩, List.mem_of_getElem? (i := 85) (by decide +kernel), List.mem_of_getElem? (i := 789) (by decide +kernel), List.mem_of_getElem? (i := 790) (by decide +kernel)⟩
theorem lw_p43 : lw_okq (⟨"SlantSlate$Parts", "hangingWays", "(LSlantSlate$State;II)I"⟩, 7) := ⟨⟨by decide +kernel, by decide +kernel⟩, List.mem_of_getElem? (i := 85) (by decide +kernel), List.mem_of_getElem? (i := 793) (by decide +kernel), List.mem_of_getElem? (i := 794) (by decide +kernel)⟩
theorem lw_p44 : lw_okq (⟨"SlantSlate$Parts", "clauseWays", "(LSlantSlate$State;II)I"⟩, 7) := ⟨⟨by decide +kernel, by decide +kernel⟩, List.mem_of_getElem? (i := 85) (by decide +kernel), List.mem_of_getElem? (i := 797) (by decide +kernel), List.mem_of_getElem? (i := 798) (by decide +kernel)⟩
theorem lw_p45 : lw_okq (⟨"SlantSlate$Parts", "verbTailWays", "(LSlantSlate$State;II)I"⟩, 7) := ⟨⟨by decide +kernel, by decide +kernel⟩, List.mem_of_getElem? (i := 85) (by decide +kernel), List.mem_of_getElem? (i := 801) (by decide +kernel), List.mem_of_getElem? (i := 802) (by decide +kernel)⟩
theorem lw_p46 : lw_okq (⟨"SlantSlate", "tellLeft", "()V"⟩, 15) := ⟨⟨by decide +kernel, by decide +kernel⟩, List.mem_of_getElem? (i := 31) (by decide +kernel), List.mem_of_getElem? (i := 805) (by decide +kernel), List.mem_of_getElem? (i := 806) (by decide +kernel)⟩
theorem lw_p47 : lw_okq (⟨"SlantSlate", "drawAgain", "()V"⟩, 15) := ⟨⟨by decide +kernel, by decide +kernel⟩, List.mem_of_getElem? (i := 31) (by decide +kernel), List.mem_of_getElem? (i := 809) (by decide +kernel), List.mem_of_getElem? (i := 810) (by decide +kernel)⟩
def lw_privs_3 : List (MethodName × Nat) := [(⟨"SlantSlate$Drawing", "readAlong", "(II)V"⟩, 8), (⟨"SlantSlate", "digestParts", "(J)J"⟩, 15), (⟨"SlantSlate", "needKind", "(I)V"⟩, 15), (⟨"java/lang/Throwable", "fillInStackTrace", "(I)Ljava/lang/Throwable;"⟩, 6), (⟨"SlantSlate", "saveState", "()V"⟩, 15), (⟨"java/util/ArrayList", "fastRemove", "([Ljava/lang/Object;I)V"⟩, 3), (⟨"SlantSlate", "beginSentence", "()I"⟩, 15), (⟨"SlantSlate", "tellReadings", "()V"⟩, 15), (⟨"SlantSlate$Parts", "nameWays", "(LSlantSlate$State;II)I"⟩, 7), (⟨"SlantSlate$Parts", "groupWays", "(LSlantSlate$State;II)I"⟩, 7), (⟨"SlantSlate$Parts", "phraseRowWays", "(II)I"⟩, 7), (⟨"SlantSlate$Parts", "hangingWays", "(LSlantSlate$State;II)I"⟩, 7), (⟨"SlantSlate$Parts", "clauseWays", "(LSlantSlate$State;II)I"⟩, 7), (⟨"SlantSlate$Parts", "verbTailWays", "(LSlantSlate$State;II)I"⟩, 7), (⟨"SlantSlate", "tellLeft", "()V"⟩, 15), (⟨"SlantSlate", "drawAgain", "()V"⟩, 15)]
theorem lw_r3 : ∀ q ∈ lw_privs_3, lw_okq q := List.forall_mem_cons.mpr ⟨lw_p32, List.forall_mem_cons.mpr ⟨lw_p33, List.forall_mem_cons.mpr ⟨lw_p34, List.forall_mem_cons.mpr ⟨lw_p35, List.forall_mem_cons.mpr ⟨lw_p36, List.forall_mem_cons.mpr ⟨lw_p37, List.forall_mem_cons.mpr ⟨lw_p38, List.forall_mem_cons.mpr ⟨lw_p39, List.forall_mem_cons.mpr ⟨lw_p40, List.forall_mem_cons.mpr ⟨lw_p41, List.forall_mem_cons.mpr ⟨lw_p42, List.forall_mem_cons.mpr ⟨lw_p43, List.forall_mem_cons.mpr ⟨lw_p44, List.forall_mem_cons.mpr ⟨lw_p45, List.forall_mem_cons.mpr ⟨lw_p46, List.forall_mem_cons.mpr ⟨lw_p47, fun _ h => absurd h List.not_mem_nil⟩⟩⟩⟩⟩⟩⟩⟩⟩⟩⟩⟩⟩⟩⟩⟩
theorem lw_p48 : lw_okq (⟨"SlantSlate", "needWord", "(I)V"⟩, 15) := ⟨⟨by decide +kernel, by decide +kernel⟩, List.mem_of_getElem? (i := 31) (by decide +kernel), List.mem_of_getElem? (i := 821) (by decide +kernel), List.mem_of_getElem? (i := 822) (by decide +kernel)⟩
theorem lw_p49 : lw_okq (⟨"SlantSlate", "needHead", "(II)V"⟩, 15) := ⟨⟨by decide +kernel, by decide +kernel⟩, List.mem_of_getElem? (i := 31) (by decide +kernel), List.mem_of_getElem? (i := 864) (by decide +kernel), List.mem_of_getElem? (i := 865) (by decide +kernel)⟩
theorem lw_p50 : lw_okq (⟨"SlantSlate", "beginHeads", "()I"⟩, 15) := ⟨⟨by decide +kernel, by decide +kernel⟩, List.mem_of_getElem? (i := 31) (by decide +kernel), List.mem_of_getElem? (i := 874) (by decide +kernel), List.mem_of_getElem? (i := 875) (by decide +kernel)⟩
theorem lw_p51 : lw_okq (⟨"SlantSlate", "needReading", "(I)V"⟩, 15) := ⟨⟨by decide +kernel, by decide +kernel⟩, List.mem_of_getElem? (i := 31) (by decide +kernel), List.mem_of_getElem? (i := 892) (by decide +kernel), List.mem_of_getElem? (i := 893) (by decide +kernel)⟩
theorem lw_p52 : lw_okq (⟨"SlantSlate", "flattestRank", "()I"⟩, 15) := ⟨⟨by decide +kernel, by decide +kernel⟩, List.mem_of_getElem? (i := 31) (by decide +kernel), List.mem_of_getElem? (i := 905) (by decide +kernel), List.mem_of_getElem? (i := 906) (by decide +kernel)⟩
theorem lw_p53 : lw_okq (⟨"SlantSlate", "pushCode", "(I)V"⟩, 15) := ⟨⟨by decide +kernel, by decide +kernel⟩, List.mem_of_getElem? (i := 31) (by decide +kernel), List.mem_of_getElem? (i := 918) (by decide +kernel), List.mem_of_getElem? (i := 919) (by decide +kernel)⟩
theorem lw_p54 : lw_okq (⟨"SlantSlate", "needSlot", "(I)V"⟩, 15) := ⟨⟨by decide +kernel, by decide +kernel⟩, List.mem_of_getElem? (i := 31) (by decide +kernel), List.mem_of_getElem? (i := 956) (by decide +kernel), List.mem_of_getElem? (i := 957) (by decide +kernel)⟩
theorem lw_p55 : lw_okq (⟨"SlantSlate", "needAsked", "(II)V"⟩, 15) := ⟨⟨by decide +kernel, by decide +kernel⟩, List.mem_of_getElem? (i := 31) (by decide +kernel), List.mem_of_getElem? (i := 988) (by decide +kernel), List.mem_of_getElem? (i := 989) (by decide +kernel)⟩
theorem lw_p56 : lw_okq (⟨"SlantSlateModel", "fails", "(I)I"⟩, 26) := ⟨⟨by decide +kernel, by decide +kernel⟩, List.mem_of_getElem? (i := 1022) (by decide +kernel), List.mem_of_getElem? (i := 1118) (by decide +kernel), List.mem_of_getElem? (i := 1119) (by decide +kernel)⟩
theorem lw_p57 : lw_okq (⟨"SlantSlateModel", "saves", "()V"⟩, 26) := ⟨⟨by decide +kernel, by decide +kernel⟩, List.mem_of_getElem? (i := 1022) (by decide +kernel), List.mem_of_getElem? (i := 1122) (by decide +kernel), List.mem_of_getElem? (i := 1123) (by decide +kernel)⟩
theorem lw_p58 : lw_okq (⟨"SlantSlateModel", "begins", "()I"⟩, 26) := ⟨⟨by decide +kernel, by decide +kernel⟩, List.mem_of_getElem? (i := 1022) (by decide +kernel), List.mem_of_getElem? (i := 1126) (by decide +kernel), List.mem_of_getElem? (i := 1127) (by decide +kernel)⟩
theorem lw_p59 : lw_okq (⟨"SlantSlateModel", "laysAll", "()V"⟩, 26) := ⟨⟨by decide +kernel, by decide +kernel⟩, List.mem_of_getElem? (i := 1022) (by decide +kernel), List.mem_of_getElem? (i := 1130) (by decide +kernel), List.mem_of_getElem? (i := 1131) (by decide +kernel)⟩
theorem lw_p60 : lw_okq (⟨"SlantSlateModel", "reads", "()I"⟩, 26) := ⟨⟨by decide +kernel, by decide +kernel⟩, List.mem_of_getElem? (i := 1022) (by decide +kernel), List.mem_of_getElem? (i := 1134) (by decide +kernel), List.mem_of_getElem? (i := 1135) (by decide +kernel)⟩
theorem lw_p61 : lw_okq (⟨"SlantSlateModel", "opens", "(III)V"⟩, 26) := ⟨⟨by decide +kernel, by decide +kernel⟩, List.mem_of_getElem? (i := 1022) (by decide +kernel), List.mem_of_getElem? (i := 1138) (by decide +kernel), List.mem_of_getElem? (i := 1139) (by decide +kernel)⟩
theorem lw_p62 : lw_okq (⟨"SlantSlateModel", "takes", "(I)Z"⟩, 26) := ⟨⟨by decide +kernel, by decide +kernel⟩, List.mem_of_getElem? (i := 1022) (by decide +kernel), List.mem_of_getElem? (i := 1142) (by decide +kernel), List.mem_of_getElem? (i := 1143) (by decide +kernel)⟩
theorem lw_p63 : lw_okq (⟨"SlantSlateModel", "kind", "(I)I"⟩, 26) := ⟨⟨by decide +kernel, by decide +kernel⟩, List.mem_of_getElem? (i := 1022) (by decide +kernel), List.mem_of_getElem? (i := 1146) (by decide +kernel), List.mem_of_getElem? (i := 1147) (by decide +kernel)⟩
def lw_privs_4 : List (MethodName × Nat) := [(⟨"SlantSlate", "needWord", "(I)V"⟩, 15), (⟨"SlantSlate", "needHead", "(II)V"⟩, 15), (⟨"SlantSlate", "beginHeads", "()I"⟩, 15), (⟨"SlantSlate", "needReading", "(I)V"⟩, 15), (⟨"SlantSlate", "flattestRank", "()I"⟩, 15), (⟨"SlantSlate", "pushCode", "(I)V"⟩, 15), (⟨"SlantSlate", "needSlot", "(I)V"⟩, 15), (⟨"SlantSlate", "needAsked", "(II)V"⟩, 15), (⟨"SlantSlateModel", "fails", "(I)I"⟩, 26), (⟨"SlantSlateModel", "saves", "()V"⟩, 26), (⟨"SlantSlateModel", "begins", "()I"⟩, 26), (⟨"SlantSlateModel", "laysAll", "()V"⟩, 26), (⟨"SlantSlateModel", "reads", "()I"⟩, 26), (⟨"SlantSlateModel", "opens", "(III)V"⟩, 26), (⟨"SlantSlateModel", "takes", "(I)Z"⟩, 26), (⟨"SlantSlateModel", "kind", "(I)I"⟩, 26)]
theorem lw_r4 : ∀ q ∈ lw_privs_4, lw_okq q := List.forall_mem_cons.mpr ⟨lw_p48, List.forall_mem_cons.mpr ⟨lw_p49, List.forall_mem_cons.mpr ⟨lw_p50, List.forall_mem_cons.mpr ⟨lw_p51, List.forall_mem_cons.mpr ⟨lw_p52, List.forall_mem_cons.mpr ⟨lw_p53, List.forall_mem_cons.mpr ⟨lw_p54, List.forall_mem_cons.mpr ⟨lw_p55, List.forall_mem_cons.mpr ⟨lw_p56, List.forall_mem_cons.mpr ⟨lw_p57, List.forall_mem_cons.mpr ⟨lw_p58, List.forall_mem_cons.mpr ⟨lw_p59, List.forall_mem_cons.mpr ⟨lw_p60, List.forall_mem_cons.mpr ⟨lw_p61, List.forall_mem_cons.mpr ⟨lw_p62, List.forall_mem_cons.mpr ⟨lw_p63, fun _ h => absurd h List.not_mem_nil⟩⟩⟩⟩⟩⟩⟩⟩⟩⟩⟩⟩⟩⟩⟩⟩
theorem lw_p64 : lw_okq (⟨"SlantSlateModel", "takesNoun", "(I)Z"⟩, 26) := ⟨⟨by decide +kernel, by decide +kernel⟩, List.mem_of_getElem? (i := 1022) (by decide +kernel), List.mem_of_getElem? (i := 1150) (by decide +kernel), List.mem_of_getElem? (i := 1151) (by decide +kernel)⟩
theorem lw_p65 : lw_okq (⟨"SlantSlateModel", "wantsName", "()Z"⟩, 26) := ⟨⟨by decide +kernel, by decide +kernel⟩, List.mem_of_getElem? (i := 1022) (by decide +kernel), List.mem_of_getElem? (i := 1154) (by decide +kernel), List.mem_of_getElem? (i := 1155) (by decide +kernel)⟩
theorem lw_p66 : lw_okq (⟨"SlantSlateModel", "takesVerb", "(I)Z"⟩, 26) := ⟨⟨by decide +kernel, by decide +kernel⟩, List.mem_of_getElem? (i := 1022) (by decide +kernel), List.mem_of_getElem? (i := 1158) (by decide +kernel), List.mem_of_getElem? (i := 1159) (by decide +kernel)⟩
theorem lw_p67 : lw_okq (⟨"SlantSlateModel", "takesAdjective", "(I)Z"⟩, 26) := ⟨⟨by decide +kernel, by decide +kernel⟩, List.mem_of_getElem? (i := 1022) (by decide +kernel), List.mem_of_getElem? (i := 1162) (by decide +kernel), List.mem_of_getElem? (i := 1163) (by decide +kernel)⟩
theorem lw_p68 : lw_okq (⟨"SlantSlateModel", "takesOpener", "(I)Z"⟩, 26) := ⟨⟨by decide +kernel, by decide +kernel⟩, List.mem_of_getElem? (i := 1022) (by decide +kernel), List.mem_of_getElem? (i := 1166) (by decide +kernel), List.mem_of_getElem? (i := 1167) (by decide +kernel)⟩
theorem lw_p69 : lw_okq (⟨"SlantSlateModel", "takesHanging", "(I)Z"⟩, 26) := ⟨⟨by decide +kernel, by decide +kernel⟩, List.mem_of_getElem? (i := 1022) (by decide +kernel), List.mem_of_getElem? (i := 1170) (by decide +kernel), List.mem_of_getElem? (i := 1171) (by decide +kernel)⟩
theorem lw_p70 : lw_okq (⟨"SlantSlateModel", "chosen", "(I)I"⟩, 26) := ⟨⟨by decide +kernel, by decide +kernel⟩, List.mem_of_getElem? (i := 1022) (by decide +kernel), List.mem_of_getElem? (i := 1174) (by decide +kernel), List.mem_of_getElem? (i := 1175) (by decide +kernel)⟩
theorem lw_p71 : lw_okq (⟨"SlantSlateModel", "isComplete", "(I)Z"⟩, 26) := ⟨⟨by decide +kernel, by decide +kernel⟩, List.mem_of_getElem? (i := 1022) (by decide +kernel), List.mem_of_getElem? (i := 1178) (by decide +kernel), List.mem_of_getElem? (i := 1179) (by decide +kernel)⟩
theorem lw_p72 : lw_okq (⟨"SlantSlateModel", "canHold", "(II)Z"⟩, 26) := ⟨⟨by decide +kernel, by decide +kernel⟩, List.mem_of_getElem? (i := 1022) (by decide +kernel), List.mem_of_getElem? (i := 1182) (by decide +kernel), List.mem_of_getElem? (i := 1183) (by decide +kernel)⟩
theorem lw_p73 : lw_okq (⟨"SlantSlateModel", "isWhole", "()Z"⟩, 26) := ⟨⟨by decide +kernel, by decide +kernel⟩, List.mem_of_getElem? (i := 1022) (by decide +kernel), List.mem_of_getElem? (i := 1186) (by decide +kernel), List.mem_of_getElem? (i := 1187) (by decide +kernel)⟩
theorem lw_p74 : lw_okq (⟨"SlantSlateModel", "laysReading", "()V"⟩, 26) := ⟨⟨by decide +kernel, by decide +kernel⟩, List.mem_of_getElem? (i := 1022) (by decide +kernel), List.mem_of_getElem? (i := 1190) (by decide +kernel), List.mem_of_getElem? (i := 1191) (by decide +kernel)⟩
theorem lw_p75 : lw_okq (⟨"SlantSlateModel", "isAhead", "(I)Z"⟩, 26) := ⟨⟨by decide +kernel, by decide +kernel⟩, List.mem_of_getElem? (i := 1022) (by decide +kernel), List.mem_of_getElem? (i := 1194) (by decide +kernel), List.mem_of_getElem? (i := 1195) (by decide +kernel)⟩
theorem lw_p76 : lw_okq (⟨"SlantSlateModel", "choosesNext", "(I)Z"⟩, 26) := ⟨⟨by decide +kernel, by decide +kernel⟩, List.mem_of_getElem? (i := 1022) (by decide +kernel), List.mem_of_getElem? (i := 1198) (by decide +kernel), List.mem_of_getElem? (i := 1199) (by decide +kernel)⟩
theorem lw_p77 : lw_okq (⟨"SlantSlateModel", "isLeft", "(II)Z"⟩, 26) := ⟨⟨by decide +kernel, by decide +kernel⟩, List.mem_of_getElem? (i := 1022) (by decide +kernel), List.mem_of_getElem? (i := 1202) (by decide +kernel), List.mem_of_getElem? (i := 1203) (by decide +kernel)⟩
theorem lw_p78 : lw_okq (⟨"SlantSlateModel", "isWord", "(I)Z"⟩, 26) := ⟨⟨by decide +kernel, by decide +kernel⟩, List.mem_of_getElem? (i := 1022) (by decide +kernel), List.mem_of_getElem? (i := 1210) (by decide +kernel), List.mem_of_getElem? (i := 1211) (by decide +kernel)⟩
theorem lw_p79 : lw_okq (⟨"SlantSlateModel", "isHead", "(II)Z"⟩, 26) := ⟨⟨by decide +kernel, by decide +kernel⟩, List.mem_of_getElem? (i := 1022) (by decide +kernel), List.mem_of_getElem? (i := 1222) (by decide +kernel), List.mem_of_getElem? (i := 1223) (by decide +kernel)⟩
def lw_privs_5 : List (MethodName × Nat) := [(⟨"SlantSlateModel", "takesNoun", "(I)Z"⟩, 26), (⟨"SlantSlateModel", "wantsName", "()Z"⟩, 26), (⟨"SlantSlateModel", "takesVerb", "(I)Z"⟩, 26), (⟨"SlantSlateModel", "takesAdjective", "(I)Z"⟩, 26), (⟨"SlantSlateModel", "takesOpener", "(I)Z"⟩, 26), (⟨"SlantSlateModel", "takesHanging", "(I)Z"⟩, 26), (⟨"SlantSlateModel", "chosen", "(I)I"⟩, 26), (⟨"SlantSlateModel", "isComplete", "(I)Z"⟩, 26), (⟨"SlantSlateModel", "canHold", "(II)Z"⟩, 26), (⟨"SlantSlateModel", "isWhole", "()Z"⟩, 26), (⟨"SlantSlateModel", "laysReading", "()V"⟩, 26), (⟨"SlantSlateModel", "isAhead", "(I)Z"⟩, 26), (⟨"SlantSlateModel", "choosesNext", "(I)Z"⟩, 26), (⟨"SlantSlateModel", "isLeft", "(II)Z"⟩, 26), (⟨"SlantSlateModel", "isWord", "(I)Z"⟩, 26), (⟨"SlantSlateModel", "isHead", "(II)Z"⟩, 26)]
theorem lw_r5 : ∀ q ∈ lw_privs_5, lw_okq q := List.forall_mem_cons.mpr ⟨lw_p64, List.forall_mem_cons.mpr ⟨lw_p65, List.forall_mem_cons.mpr ⟨lw_p66, List.forall_mem_cons.mpr ⟨lw_p67, List.forall_mem_cons.mpr ⟨lw_p68, List.forall_mem_cons.mpr ⟨lw_p69, List.forall_mem_cons.mpr ⟨lw_p70, List.forall_mem_cons.mpr ⟨lw_p71, List.forall_mem_cons.mpr ⟨lw_p72, List.forall_mem_cons.mpr ⟨lw_p73, List.forall_mem_cons.mpr ⟨lw_p74, List.forall_mem_cons.mpr ⟨lw_p75, List.forall_mem_cons.mpr ⟨lw_p76, List.forall_mem_cons.mpr ⟨lw_p77, List.forall_mem_cons.mpr ⟨lw_p78, List.forall_mem_cons.mpr ⟨lw_p79, fun _ h => absurd h List.not_mem_nil⟩⟩⟩⟩⟩⟩⟩⟩⟩⟩⟩⟩⟩⟩⟩⟩
theorem lw_p80 : lw_okq (⟨"SlantSlateModel", "leftBy", "(II)I"⟩, 26) := ⟨⟨by decide +kernel, by decide +kernel⟩, List.mem_of_getElem? (i := 1022) (by decide +kernel), List.mem_of_getElem? (i := 1226) (by decide +kernel), List.mem_of_getElem? (i := 1227) (by decide +kernel)⟩
theorem lw_p81 : lw_okq (⟨"SlantSlateModel", "head", "(II)I"⟩, 26) := ⟨⟨by decide +kernel, by decide +kernel⟩, List.mem_of_getElem? (i := 1022) (by decide +kernel), List.mem_of_getElem? (i := 1230) (by decide +kernel), List.mem_of_getElem? (i := 1231) (by decide +kernel)⟩
theorem lw_p82 : lw_okq (⟨"SlantSlateModel", "height", "(I)I"⟩, 26) := ⟨⟨by decide +kernel, by decide +kernel⟩, List.mem_of_getElem? (i := 1022) (by decide +kernel), List.mem_of_getElem? (i := 1242) (by decide +kernel), List.mem_of_getElem? (i := 1243) (by decide +kernel)⟩
theorem lw_p83 : lw_okq (⟨"SlantSlateModel", "level", "(II)I"⟩, 26) := ⟨⟨by decide +kernel, by decide +kernel⟩, List.mem_of_getElem? (i := 1022) (by decide +kernel), List.mem_of_getElem? (i := 1246) (by decide +kernel), List.mem_of_getElem? (i := 1247) (by decide +kernel)⟩
theorem lw_p84 : lw_okq (⟨"SlantSlateModel", "step", "(II)I"⟩, 26) := ⟨⟨by decide +kernel, by decide +kernel⟩, List.mem_of_getElem? (i := 1022) (by decide +kernel), List.mem_of_getElem? (i := 1250) (by decide +kernel), List.mem_of_getElem? (i := 1251) (by decide +kernel)⟩
theorem lw_p85 : lw_okq (⟨"SlantSlateModel", "heldBy", "(II)I"⟩, 26) := ⟨⟨by decide +kernel, by decide +kernel⟩, List.mem_of_getElem? (i := 1022) (by decide +kernel), List.mem_of_getElem? (i := 1254) (by decide +kernel), List.mem_of_getElem? (i := 1255) (by decide +kernel)⟩
theorem lw_p86 : lw_okq (⟨"SlantSlateModel", "errorAt", "()I"⟩, 26) := ⟨⟨by decide +kernel, by decide +kernel⟩, List.mem_of_getElem? (i := 1022) (by decide +kernel), List.mem_of_getElem? (i := 1274) (by decide +kernel), List.mem_of_getElem? (i := 1275) (by decide +kernel)⟩
theorem lw_p87 : lw_okq (⟨"SlantSlateModel", "tellsWord", "(II)I"⟩, 26) := ⟨⟨by decide +kernel, by decide +kernel⟩, List.mem_of_getElem? (i := 1022) (by decide +kernel), List.mem_of_getElem? (i := 1308) (by decide +kernel), List.mem_of_getElem? (i := 1309) (by decide +kernel)⟩
theorem lw_p88 : lw_okq (⟨"SlantSlateModel", "drawn", "()I"⟩, 26) := ⟨⟨by decide +kernel, by decide +kernel⟩, List.mem_of_getElem? (i := 1022) (by decide +kernel), List.mem_of_getElem? (i := 1312) (by decide +kernel), List.mem_of_getElem? (i := 1313) (by decide +kernel)⟩
theorem lw_p89 : lw_okq (⟨"SlantSlateModel", "headsOf", "(IZ)I"⟩, 26) := ⟨⟨by decide +kernel, by decide +kernel⟩, List.mem_of_getElem? (i := 1022) (by decide +kernel), List.mem_of_getElem? (i := 1316) (by decide +kernel), List.mem_of_getElem? (i := 1317) (by decide +kernel)⟩
theorem lw_p90 : lw_okq (⟨"SlantSlateModel", "haveHead", "(II)I"⟩, 26) := ⟨⟨by decide +kernel, by decide +kernel⟩, List.mem_of_getElem? (i := 1022) (by decide +kernel), List.mem_of_getElem? (i := 1320) (by decide +kernel), List.mem_of_getElem? (i := 1321) (by decide +kernel)⟩
theorem lw_p91 : lw_okq (⟨"SlantSlateModel", "tellsDrawn", "(III)I"⟩, 26) := ⟨⟨by decide +kernel, by decide +kernel⟩, List.mem_of_getElem? (i := 1022) (by decide +kernel), List.mem_of_getElem? (i := 1324) (by decide +kernel), List.mem_of_getElem? (i := 1325) (by decide +kernel)⟩
theorem lw_p92 : lw_okq (⟨"SlantSlateModel", "holds", "(II)I"⟩, 26) := ⟨⟨by decide +kernel, by decide +kernel⟩, List.mem_of_getElem? (i := 1022) (by decide +kernel), List.mem_of_getElem? (i := 1328) (by decide +kernel), List.mem_of_getElem? (i := 1329) (by decide +kernel)⟩
theorem lw_p93 : lw_okq (⟨"SlantSlateModel", "tellsReading", "(II)I"⟩, 26) := ⟨⟨by decide +kernel, by decide +kernel⟩, List.mem_of_getElem? (i := 1022) (by decide +kernel), List.mem_of_getElem? (i := 1336) (by decide +kernel), List.mem_of_getElem? (i := 1337) (by decide +kernel)⟩
theorem lw_p94 : lw_okq (⟨"SlantSlateModel", "wordsOf", "(I)I"⟩, 26) := ⟨⟨by decide +kernel, by decide +kernel⟩, List.mem_of_getElem? (i := 1022) (by decide +kernel), List.mem_of_getElem? (i := 1340) (by decide +kernel), List.mem_of_getElem? (i := 1341) (by decide +kernel)⟩
theorem lw_p95 : lw_okq (⟨"SlantSlateModel", "mostHeld", "(I)I"⟩, 26) := ⟨⟨by decide +kernel, by decide +kernel⟩, List.mem_of_getElem? (i := 1022) (by decide +kernel), List.mem_of_getElem? (i := 1344) (by decide +kernel), List.mem_of_getElem? (i := 1345) (by decide +kernel)⟩
def lw_privs_6 : List (MethodName × Nat) := [(⟨"SlantSlateModel", "leftBy", "(II)I"⟩, 26), (⟨"SlantSlateModel", "head", "(II)I"⟩, 26), (⟨"SlantSlateModel", "height", "(I)I"⟩, 26), (⟨"SlantSlateModel", "level", "(II)I"⟩, 26), (⟨"SlantSlateModel", "step", "(II)I"⟩, 26), (⟨"SlantSlateModel", "heldBy", "(II)I"⟩, 26), (⟨"SlantSlateModel", "errorAt", "()I"⟩, 26), (⟨"SlantSlateModel", "tellsWord", "(II)I"⟩, 26), (⟨"SlantSlateModel", "drawn", "()I"⟩, 26), (⟨"SlantSlateModel", "headsOf", "(IZ)I"⟩, 26), (⟨"SlantSlateModel", "haveHead", "(II)I"⟩, 26), (⟨"SlantSlateModel", "tellsDrawn", "(III)I"⟩, 26), (⟨"SlantSlateModel", "holds", "(II)I"⟩, 26), (⟨"SlantSlateModel", "tellsReading", "(II)I"⟩, 26), (⟨"SlantSlateModel", "wordsOf", "(I)I"⟩, 26), (⟨"SlantSlateModel", "mostHeld", "(I)I"⟩, 26)]
theorem lw_r6 : ∀ q ∈ lw_privs_6, lw_okq q := List.forall_mem_cons.mpr ⟨lw_p80, List.forall_mem_cons.mpr ⟨lw_p81, List.forall_mem_cons.mpr ⟨lw_p82, List.forall_mem_cons.mpr ⟨lw_p83, List.forall_mem_cons.mpr ⟨lw_p84, List.forall_mem_cons.mpr ⟨lw_p85, List.forall_mem_cons.mpr ⟨lw_p86, List.forall_mem_cons.mpr ⟨lw_p87, List.forall_mem_cons.mpr ⟨lw_p88, List.forall_mem_cons.mpr ⟨lw_p89, List.forall_mem_cons.mpr ⟨lw_p90, List.forall_mem_cons.mpr ⟨lw_p91, List.forall_mem_cons.mpr ⟨lw_p92, List.forall_mem_cons.mpr ⟨lw_p93, List.forall_mem_cons.mpr ⟨lw_p94, List.forall_mem_cons.mpr ⟨lw_p95, fun _ h => absurd h List.not_mem_nil⟩⟩⟩⟩⟩⟩⟩⟩⟩⟩⟩⟩⟩⟩⟩⟩
theorem lw_p96 : lw_okq (⟨"SlantSlateModel", "tellsCount", "(I)I"⟩, 26) := ⟨⟨by decide +kernel, by decide +kernel⟩, List.mem_of_getElem? (i := 1022) (by decide +kernel), List.mem_of_getElem? (i := 1352) (by decide +kernel), List.mem_of_getElem? (i := 1353) (by decide +kernel)⟩
theorem lw_p97 : lw_okq (⟨"SlantSlateModel", "allByParts", "()I"⟩, 26) := ⟨⟨by decide +kernel, by decide +kernel⟩, List.mem_of_getElem? (i := 1022) (by decide +kernel), List.mem_of_getElem? (i := 1356) (by decide +kernel), List.mem_of_getElem? (i := 1357) (by decide +kernel)⟩
theorem lw_p98 : lw_okq (⟨"SlantSlateModel", "laysSpans", "()V"⟩, 26) := ⟨⟨by decide +kernel, by decide +kernel⟩, List.mem_of_getElem? (i := 1022) (by decide +kernel), List.mem_of_getElem? (i := 1360) (by decide +kernel), List.mem_of_getElem? (i := 1361) (by decide +kernel)⟩
theorem lw_p99 : lw_okq (⟨"SlantSlateModel", "laysSpan", "(II)V"⟩, 26) := ⟨⟨by decide +kernel, by decide +kernel⟩, List.mem_of_getElem? (i := 1022) (by decide +kernel), List.mem_of_getElem? (i := 1364) (by decide +kernel), List.mem_of_getElem? (i := 1365) (by decide +kernel)⟩
theorem lw_p100 : lw_okq (⟨"SlantSlateModel", "rowsOf", "(IIZ)I"⟩, 26) := ⟨⟨by decide +kernel, by decide +kernel⟩, List.mem_of_getElem? (i := 1022) (by decide +kernel), List.mem_of_getElem? (i := 1371) (by decide +kernel), List.mem_of_getElem? (i := 1372) (by decide +kernel)⟩
theorem lw_p101 : lw_okq (⟨"SlantSlateModel", "namesOf", "(II)I"⟩, 26) := ⟨⟨by decide +kernel, by decide +kernel⟩, List.mem_of_getElem? (i := 1022) (by decide +kernel), List.mem_of_getElem? (i := 1375) (by decide +kernel), List.mem_of_getElem? (i := 1376) (by decide +kernel)⟩
theorem lw_p102 : lw_okq (⟨"SlantSlateModel", "groupsOf", "(II)I"⟩, 26) := ⟨⟨by decide +kernel, by decide +kernel⟩, List.mem_of_getElem? (i := 1022) (by decide +kernel), List.mem_of_getElem? (i := 1379) (by decide +kernel), List.mem_of_getElem? (i := 1380) (by decide +kernel)⟩
theorem lw_p103 : lw_okq (⟨"SlantSlateModel", "clausesOf", "(II)I"⟩, 26) := ⟨⟨by decide +kernel, by decide +kernel⟩, List.mem_of_getElem? (i := 1022) (by decide +kernel), List.mem_of_getElem? (i := 1383) (by decide +kernel), List.mem_of_getElem? (i := 1384) (by decide +kernel)⟩
theorem lw_p104 : lw_okq (⟨"SlantSlateModel", "restsOf", "(II)I"⟩, 26) := ⟨⟨by decide +kernel, by decide +kernel⟩, List.mem_of_getElem? (i := 1022) (by decide +kernel), List.mem_of_getElem? (i := 1387) (by decide +kernel), List.mem_of_getElem? (i := 1388) (by decide +kernel)⟩
theorem lw_p105 : lw_okq (⟨"SlantSlateModel", "fixedWords", "()I"⟩, 26) := ⟨⟨by decide +kernel, by decide +kernel⟩, List.mem_of_getElem? (i := 1022) (by decide +kernel), List.mem_of_getElem? (i := 1391) (by decide +kernel), List.mem_of_getElem? (i := 1392) (by decide +kernel)⟩
theorem lw_p106 : lw_okq (⟨"SlantSlateModel", "wordsWith", "(Z)I"⟩, 26) := ⟨⟨by decide +kernel, by decide +kernel⟩, List.mem_of_getElem? (i := 1022) (by decide +kernel), List.mem_of_getElem? (i := 1395) (by decide +kernel), List.mem_of_getElem? (i := 1396) (by decide +kernel)⟩
theorem lw_p107 : lw_okq (⟨"SlantSlateModel", "partOf", "(III)I"⟩, 26) := ⟨⟨by decide +kernel, by decide +kernel⟩, List.mem_of_getElem? (i := 1022) (by decide +kernel), List.mem_of_getElem? (i := 1403) (by decide +kernel), List.mem_of_getElem? (i := 1404) (by decide +kernel)⟩
theorem lw_p108 : lw_okq (⟨"SlantSlateModel", "asked", "()I"⟩, 26) := ⟨⟨by decide +kernel, by decide +kernel⟩, List.mem_of_getElem? (i := 1022) (by decide +kernel), List.mem_of_getElem? (i := 1415) (by decide +kernel), List.mem_of_getElem? (i := 1416) (by decide +kernel)⟩
theorem lw_p109 : lw_okq (⟨"SlantSlateModel", "addable", "()I"⟩, 26) := ⟨⟨by decide +kernel, by decide +kernel⟩, List.mem_of_getElem? (i := 1022) (by decide +kernel), List.mem_of_getElem? (i := 1423) (by decide +kernel), List.mem_of_getElem? (i := 1424) (by decide +kernel)⟩
theorem lw_p110 : lw_okq (⟨"SlantSlateModel", "sure", "()D"⟩, 26) := ⟨⟨by decide +kernel, by decide +kernel⟩, List.mem_of_getElem? (i := 1022) (by decide +kernel), List.mem_of_getElem? (i := 1431) (by decide +kernel), List.mem_of_getElem? (i := 1432) (by decide +kernel)⟩
theorem lw_p111 : lw_okq (⟨"SlantSlateModel", "hashes", "(J)V"⟩, 26) := ⟨⟨by decide +kernel, by decide +kernel⟩, List.mem_of_getElem? (i := 1022) (by decide +kernel), List.mem_of_getElem? (i := 1440) (by decide +kernel), List.mem_of_getElem? (i := 1441) (by decide +kernel)⟩
def lw_privs_7 : List (MethodName × Nat) := [(⟨"SlantSlateModel", "tellsCount", "(I)I"⟩, 26), (⟨"SlantSlateModel", "allByParts", "()I"⟩, 26), (⟨"SlantSlateModel", "laysSpans", "()V"⟩, 26), (⟨"SlantSlateModel", "laysSpan", "(II)V"⟩, 26), (⟨"SlantSlateModel", "rowsOf", "(IIZ)I"⟩, 26), (⟨"SlantSlateModel", "namesOf", "(II)I"⟩, 26), (⟨"SlantSlateModel", "groupsOf", "(II)I"⟩, 26), (⟨"SlantSlateModel", "clausesOf", "(II)I"⟩, 26), (⟨"SlantSlateModel", "restsOf", "(II)I"⟩, 26), (⟨"SlantSlateModel", "fixedWords", "()I"⟩, 26), (⟨"SlantSlateModel", "wordsWith", "(Z)I"⟩, 26), (⟨"SlantSlateModel", "partOf", "(III)I"⟩, 26), (⟨"SlantSlateModel", "asked", "()I"⟩, 26), (⟨"SlantSlateModel", "addable", "()I"⟩, 26), (⟨"SlantSlateModel", "sure", "()D"⟩, 26), (⟨"SlantSlateModel", "hashes", "(J)V"⟩, 26)]
theorem lw_r7 : ∀ q ∈ lw_privs_7, lw_okq q := List.forall_mem_cons.mpr ⟨lw_p96, List.forall_mem_cons.mpr ⟨lw_p97, List.forall_mem_cons.mpr ⟨lw_p98, List.forall_mem_cons.mpr ⟨lw_p99, List.forall_mem_cons.mpr ⟨lw_p100, List.forall_mem_cons.mpr ⟨lw_p101, List.forall_mem_cons.mpr ⟨lw_p102, List.forall_mem_cons.mpr ⟨lw_p103, List.forall_mem_cons.mpr ⟨lw_p104, List.forall_mem_cons.mpr ⟨lw_p105, List.forall_mem_cons.mpr ⟨lw_p106, List.forall_mem_cons.mpr ⟨lw_p107, List.forall_mem_cons.mpr ⟨lw_p108, List.forall_mem_cons.mpr ⟨lw_p109, List.forall_mem_cons.mpr ⟨lw_p110, List.forall_mem_cons.mpr ⟨lw_p111, fun _ h => absurd h List.not_mem_nil⟩⟩⟩⟩⟩⟩⟩⟩⟩⟩⟩⟩⟩⟩⟩⟩
theorem lw_p112 : lw_okq (⟨"SlantSlateModel", "hashesParts", "()V"⟩, 26) := ⟨⟨by decide +kernel, by decide +kernel⟩, List.mem_of_getElem? (i := 1022) (by decide +kernel), List.mem_of_getElem? (i := 1445) (by decide +kernel), List.mem_of_getElem? (i := 1446) (by decide +kernel)⟩
def lw_privs_8 : List (MethodName × Nat) := [(⟨"SlantSlateModel", "hashesParts", "()V"⟩, 26)]
theorem lw_r8 : ∀ q ∈ lw_privs_8, lw_okq q := List.forall_mem_cons.mpr ⟨lw_p112, fun _ h => absurd h List.not_mem_nil⟩
def lw_privs : List (MethodName × Nat) := lw_privs_1 ++ (lw_privs_2 ++ (lw_privs_3 ++ (lw_privs_4 ++ (lw_privs_5 ++ (lw_privs_6 ++ (lw_privs_7 ++ (lw_privs_8)))))))
def lw_tbl : List Cond := k2_sels lw_privs ++ tables_1
theorem lw_privs_ok : ∀ q ∈ lw_privs, lw_okq q := by
  show ∀ q ∈ lw_privs_1 ++ (lw_privs_2 ++ (lw_privs_3 ++ (lw_privs_4 ++ (lw_privs_5 ++ (lw_privs_6 ++ (lw_privs_7 ++ (lw_privs_8))))))), lw_okq q
  exact List.forall_mem_append.mpr ⟨lw_r1, List.forall_mem_append.mpr ⟨lw_r2, List.forall_mem_append.mpr ⟨lw_r3, List.forall_mem_append.mpr ⟨lw_r4, List.forall_mem_append.mpr ⟨lw_r5, List.forall_mem_append.mpr ⟨lw_r6, List.forall_mem_append.mpr ⟨lw_r7, lw_r8⟩⟩⟩⟩⟩⟩⟩
/-- the streams that the claim lets the run draw from -/
abbrev lw_cs : List Choice := [Jvm.Choice.named "NaN.bits"]
theorem lw_bits : nanBits ∈ lw_cs := by first | decide | exact List.mem_cons_self | simp [lw_cs, nanBits]
-- ===== end of PART A; then your names; then what follows =====
end
section
/-! ===== BEGIN words of one list among another's, by their places ===== -/
theorem goodIn_r {big : List Cond} (ws : List Cond) (ps : List Nat) (hp : ws = ps.filterMap (fun i => big[i]?)) (h : ws.all goodWord = true) : GoodIn big ws := by
  intro w hw
  have h1 := List.all_eq_true.mp h w hw
  rw [hp] at hw
  obtain ⟨i, -, hi⟩ := List.mem_filterMap.mp hw
  have hm : w ∈ big := by first | exact List.mem_of_getElem? hi | exact List.getElem?_mem hi
  exact ⟨hm, good_of_word h1⟩
theorem goodIn_app {big a b : List Cond} (ha : GoodIn big a) (hb : GoodIn big b) : GoodIn big (a ++ b) := fun w h => (List.mem_append.mp h).elim (ha w) (hb w)
theorem goodIn_ca {big a b : List Cond} {c : Cond} (ha : GoodIn big (c :: a)) (hb : GoodIn big b) : GoodIn big (c :: (a ++ b)) := fun w h => (List.mem_cons.mp h).elim (fun e => ha w (List.mem_cons.mpr (Or.inl e))) (fun h => (List.mem_append.mp h).elim (fun h => ha w (List.mem_cons.mpr (Or.inr h))) (hb w))
theorem goodIn_sub {big ws : List Cond} (hm : ∀ w ∈ ws, w ∈ big) (h : ws.all goodWord = true) : GoodIn big ws := fun w hw => ⟨hm w hw, good_of_word (List.all_eq_true.mp h w hw)⟩
/-! ===== END ===== -/

/-! ===== BEGIN exceptions that leave a method, and their catching by the caller (launches without stack traces) ===== -/
section VXA
/-! The laws vx_back, vx_callV, vx_callS, vx_callSW, vx_throw0, vx_throwS follow proofs of the library, with one case more: JvmDerived/Free/Laws.lean (Back.of_free), Shelf42/LK1.lean (callV, callS), Shelf/KitTraced.lean (throwNew0V, throwNewS). -/
/-- where a method has thrown q: the class by its name, the cell, what was written, the world -/
def vx_T (XC : String → State → State → Prop) (st : State) (q : Addr) (t : State) (mc ms : Nat) (free : Addr → Prop) : Prop :=
  ∃ (E : String) (ce : Cell) (L : List Loc), XC E st t ∧ t.heap[q]? = some ce ∧ ce.vm = .none ∧ st.vm.findClass E = some ce.cls ∧ st.WarmedH t.vm ∧ st.sameButNew ({ t with vm := st.vm } : State) L mc ms ∧ ∀ z ∈ L, free z.base
def vx_Q (Qc : Array Value → State → Outcome → State → Prop) (XC : String → State → State → Prop) (mc ms : Nat) (free : Addr → Prop) : Array Value → State → Outcome → State → Prop := fun a st o t =>
  (Qc a st o t ∧ ∃ L, FrameEnd st o t L mc ms ∧ ∀ q ∈ L, free q.base) ∨ ∃ q, o = .threw q ∧ vx_T XC st q t mc ms free
/-- a callee that returns or throws -/
def vx_Met (l : Launch) (y : MethodName) (ws : List Cond) (rm : Room) (Pc : Array Value → State → Prop) (Qc : Array Value → State → Outcome → State → Prop) (XC : String → State → State → Prop) (mc ms : Nat) (free : Addr → Prop) : Prop :=
  MetFree l y (headSpec ws rm) Pc (fun _ _ _ _ _ => True) (vx_Q Qc XC mc ms free)
def vx_Post (XC : String → State → State → Prop) (mc ms : Nat) (free : Addr → Prop) : Pt → Array Value → Addr → Pt → Prop := fun A a q B =>
  ∃ (g : JFrame) (mk : MethodId) (t : State) (L : List Loc) (E : String) (ce : Cell), B.U.heap = t.heap ∧ B.U.vm = t.vm ∧ XC E (A.U.calling g mk a) t ∧ t.heap[q]? = some ce ∧ ce.vm = .none ∧ A.U.vm.findClass E = some ce.cls ∧ B.locs = A.locs ++ L ∧ (∀ z ∈ L, free z.base) ∧ B.cells = A.cells + mc ∧ B.slots = A.slots + ms
def vx_Back (l : Launch) (R : Room) (p : Program) (e : Env) (below : List Frame) (s : State) (sargs : Array Value) (y : MethodName) (len W9 : Nat)
    (Pre : Pt → Array Value → Prop) (Post : Pt → Array Value → Option Value → Pt → Prop) (PostX : Pt → Array Value → Addr → Pt → Prop) : Prop :=
  ∀ (m : MethodId) (meth : Method) (c : Code) (A : Pt) (g : JFrame) (ig : Instr) (mk : MethodId) (a : Array Value),
    Stand p l e R s m sargs below meth c A.U A.locs A.cells A.slots → g.method = m → g.locals.size = c.maxLocals → decode c.code g.pc = .ok (ig, len) →
    2 * g.monitorRoom + (g.stack.map fun v => v.category).sum ≤ W9 → A.U.methodNamed? y = some mk → Pre A a →
    (∃ (v : Option Value) (B : Pt), Stand p l e R s m sargs below meth c B.U B.locs B.cells B.slots ∧ Post A a v B ∧
      Steps p.tables e below (doInvoke e (A.U.setTop g) [] mk a).1 (B.U.setTop { g with pc := g.pc + len, stack := v.toList ++ g.stack })) ∨
    (∃ (q : Addr) (B : Pt), Stand p l e R s m sargs below meth c B.U B.locs B.cells B.slots ∧ PostX A a q B ∧
      Steps p.tables e below (doInvoke e (A.U.setTop g) [] mk a).1 ((B.U.setTop g).pushFrame (.throwing q)))
section Payer
variable {l : Launch} {R : Room} {p : Program} {e : Env} {below : List Frame} {s : State} {sargs : Array Value} {y : MethodName} {len W9 : Nat}
theorem vx_back {ws : List Cond} {rm : Room} {Pc : Array Value → State → Prop} {Qc : Array Value → State → Outcome → State → Prop} {XC : String → State → State → Prop} {mc ms : Nat} {free : Addr → Prop} {bytes : ByteArray} {maxL : Nat} {ret : Option FieldType}
    (hM : vx_Met l y ws rm Pc Qc XC mc ms free) (hblind : FrameBlind Pc) (hrc : rm.cells = mc) (hrs : rm.slots = ms)
    (hframes : rm.frames + 1 ≤ R.frames) (hlocals : W9 + (maxL + 11) + rm.locals ≤ R.locals)
    (hws : ∀ w ∈ ws, ∀ a' U, s.WarmedH U.vm → w.before a' U = true) (hcode : Cond.code y bytes maxL ret ∈ ws) (hinit : ∀ a' U, s.WarmedH U.vm → (Cond.initialized y.cls).before a' U = true) :
    vx_Back l R p e below s sargs y len W9 (PreOf R mc ms Pc) (PostOf Qc mc ms free) (vx_Post XC mc ms free) := by
  intro m meth c A g ig mk a X hg hsize hdg hW hn hp
  have h1 : (headSpec ws rm).pre.before a A.U = true := atoms_intro fun w hw => hws w hw _ _ X.warmed
  have h2 : (Cond.code y bytes maxL ret).before a A.U = true := hws _ hcode _ _ X.warmed
  have h3 : (Cond.initialized y.cls).before a A.U = true := hinit _ _ X.warmed
  have h4 : A.cells + (headSpec ws rm).room.cells ≤ R.cells := by rw [show (headSpec ws rm).room.cells = mc from hrc]; exact hp.1
  have h5 : A.slots + (headSpec ws rm).room.slots ≤ R.slots := by rw [show (headSpec ws rm).room.slots = ms from hrs]; exact hp.2.1
  have hPc : Pc a (A.U.calling g mk a) := hblind _ _ _ _ hp.2.2
  obtain ⟨U, Ls, c0, s0⟩ := A
  dsimp only [Pt.U, Pt.locs, Pt.cells, Pt.slots] at h1 h2 h3 h4 h5 X hn hPc ⊢
  obtain ⟨methY, cY, hmY, hcY, -, hlY, -, -, -, -⟩ := Cond.code_spec hn h2
  obtain ⟨kY, hkY, -⟩ := className_of_methodNamed hn
  have hinitY : kY.init = .initialized := Cond.initialized_spec (findClass_of_methodNamed hn) hkY h3
  have h : At U g.method c below := by rw [hg]; exact X.here
  have hlocals9 : W9 + (maxL + 11) + (headSpec ws rm).room.locals ≤ R.locals := hlocals
  have happ : (headSpec ws rm).appliesLoose y e.platform (U.calling g mk a) = true :=
    Spec.appliesLoose_calling (g := g) h hdg hn hkY hinitY
      (X.room_calling (g := g) (R' := (headSpec ws rm).room) hsize hmY hcY hframes (by rw [hlY]; omega) h4 h5) h1
  obtain ⟨mid, hmid⟩ := h.above
  have hfr : (U.setTop g).frames = (.java g :: mid) ++ below := by rw [State.frames_setTop' g h.top, hmid]; rfl
  obtain ⟨o, s₂, hsteps, -, hend, hq⟩ := Steps.callFree hM p X.admits X.cas X.clock (acts := []) hfr happ hPc trivial
  have hq' : vx_Q Qc XC mc ms free a (U.calling g mk a) o s₂ := hq
  rw [State.frames_setTop' g h.top] at hend
  obtain ⟨g₀, hg0⟩ := Option.isSome_iff_exists.mp h.top
  obtain ⟨r, hr⟩ := State.topJava?_eq_some.mp hg0
  have hr' : (({ U with heap := s₂.heap, slotsUsed := s₂.slotsUsed } : State).setVm s₂.vm).frames = .java g₀ :: r := hr
  rcases hq' with ⟨hqc, L, hfe, hL⟩ | ⟨q, rfl, E, ce, L, hx, hce, hcv, hcl, hW₂, hsm, hL⟩
  · obtain ⟨⟨v, rfl⟩, hW₂, e2, q2, q3, q4, q5, q6⟩ := id hfe
    have e3 : s₂ = ({ (U.calling g mk a).setFrames s₂.frames with heap := s₂.heap, slotsUsed := s₂.slotsUsed } : State).setVm s₂.vm := by
      have : s₂ = ({ s₂ with vm := (U.calling g mk a).vm } : State).setVm s₂.vm := rfl
      rw [e2] at this
      exact this
    obtain ⟨c₂, i₂, len₂, hc₂, hd₂, hf₂⟩ := hend
    have hW' : U.WarmedH s₂.vm := hW₂
    have hcc : c₂ = c := by
      have h1 : s₂.code? g.method = U.code? g.method := by
        rw [State.code?_eq, State.code?_eq, hW'.alike.method?]
      exact Option.some.inj (hc₂.symm.trans (h1.trans h.code))
    subst hcc
    have hlen : len₂ = len := by rw [hdg] at hd₂; cases hd₂; rfl
    subst hlen
    have hs₂ : s₂ = (({ U with heap := s₂.heap, slotsUsed := s₂.slotsUsed } : State).setVm s₂.vm).setTop { g with pc := g.pc + len₂, stack := v.toList ++ g.stack } := by
      refine e3.trans ?_
      rw [hf₂, State.calling_eq h.top, State.setFrames_setFrames, State.setTop_of_frames _ hr', hr]
      rfl
    have hsame : U.sameButNew ({ U with heap := s₂.heap, slotsUsed := s₂.slotsUsed } : State) L mc ms := by
      refine ⟨?_, q2, q3, q4, q5, q6⟩
      obtain ⟨t, ht, -⟩ := State.frames_cons hr
      show ({ U with heap := s₂.heap, slotsUsed := s₂.slotsUsed } : State) = { U.setFrames U.frames with heap := s₂.heap, slotsUsed := s₂.slotsUsed }
      rw [State.setFrames_self ht]
    subst hg
    refine Or.inl ⟨v, ⟨(({ U with heap := s₂.heap, slotsUsed := s₂.slotsUsed } : State).setVm s₂.vm), Ls ++ L, c0 + mc, s0 + ms⟩,
      ⟨X.admits, X.cas, X.clock, X.frames, X.room, X.hears, X.method, X.code, (X.here.setHeapUsed s₂.heap s₂.slotsUsed).setVm hW'.alike, X.tail, State.WarmedH.trans X.warmed hW', X.limits, X.bytes, X.same.trans (hsame.setVm s.vm)⟩,
      ⟨g, mk, s₂, L, rfl, rfl, hqc, rfl, hL, rfl, rfl⟩, ?_⟩
    show Steps p.tables e below _ ((({ U with heap := s₂.heap, slotsUsed := s₂.slotsUsed } : State).setVm s₂.vm).setTop { g with pc := g.pc + len₂, stack := v.toList ++ g.stack })
    rw [← hs₂]
    exact hsteps
  · obtain ⟨e2, q2, q3, q4, q5, q6⟩ := id hsm
    have e3 : s₂ = ({ (U.calling g mk a).setFrames s₂.frames with heap := s₂.heap, slotsUsed := s₂.slotsUsed } : State).setVm s₂.vm := by
      have : s₂ = ({ s₂ with vm := (U.calling g mk a).vm } : State).setVm s₂.vm := rfl
      rw [e2] at this
      exact this
    have hf₂ : s₂.frames = .throwing q :: .java g :: U.frames.tail := hend
    have hW' : U.WarmedH s₂.vm := hW₂
    have hs₂ : s₂ = ((({ U with heap := s₂.heap, slotsUsed := s₂.slotsUsed } : State).setVm s₂.vm).setTop g).pushFrame (.throwing q) := by
      refine e3.trans ?_
      rw [hf₂, State.calling_eq h.top, State.setFrames_setFrames, State.pushFrame, State.frames_setTop _ hr', State.setTop_of_frames _ hr', State.setFrames_setFrames, hr]
      rfl
    have hsame : U.sameButNew ({ U with heap := s₂.heap, slotsUsed := s₂.slotsUsed } : State) L mc ms := by
      refine ⟨?_, q2, q3, q4, q5, q6⟩
      obtain ⟨t, ht, -⟩ := State.frames_cons hr
      show ({ U with heap := s₂.heap, slotsUsed := s₂.slotsUsed } : State) = { U.setFrames U.frames with heap := s₂.heap, slotsUsed := s₂.slotsUsed }
      rw [State.setFrames_self ht]
    subst hg
    refine Or.inr ⟨q, ⟨(({ U with heap := s₂.heap, slotsUsed := s₂.slotsUsed } : State).setVm s₂.vm), Ls ++ L, c0 + mc, s0 + ms⟩,
      ⟨X.admits, X.cas, X.clock, X.frames, X.room, X.hears, X.method, X.code, (X.here.setHeapUsed s₂.heap s₂.slotsUsed).setVm hW'.alike, X.tail, State.WarmedH.trans X.warmed hW', X.limits, X.bytes, X.same.trans (hsame.setVm s.vm)⟩,
      ⟨g, mk, s₂, L, E, ce, rfl, rfl, hx, hce, hcv, hcl, rfl, hL, rfl, rfl⟩, ?_⟩
    show Steps p.tables e below _ (((({ U with heap := s₂.heap, slotsUsed := s₂.slotsUsed } : State).setVm s₂.vm).setTop g).pushFrame (.throwing q))
    rw [← hs₂]
    exact hsteps
end Payer
section Calls
variable {p : Program} {l : Launch} {e : Env} {R : Room} {s : State} {m : MethodId} {args : Array Value} {below : List Frame} {meth : Method} {c : Code} {T : State} {locs : List Loc} {cells slots : Nat}
theorem vx_callV (X : Stand p l e R s m args below meth c T locs cells slots) (hexec : p.tables.exec = Jvm.exec) {own C : String} {index : Nat} {y : MethodName} {bytes : ByteArray} {maxL : Nat} {ret : Option FieldType}
    (hown : s.vm.findClass own = some m.cls) (hlink : (Cond.methodLink own index y).before args s = true) (hinst : (Cond.instanceMethod y).before args s = true) (hsel : (Cond.selects C y y).before args s = true)
    (hcode : (Cond.code y bytes maxL ret).before args s = true) (hy : y.cls ≠ "java/lang/invoke/MethodHandle" ∧ y.cls ≠ "java/lang/invoke/VarHandle")
    {W9 : Nat} {Pre : Pt → Array Value → Prop} {Post : Pt → Array Value → Option Value → Pt → Prop} {PostX : Pt → Array Value → Addr → Pt → Prop} (hK : vx_Back l R p e below s args y 3 W9 Pre Post PostX)
    {b : Addr} {cellB : Cell} (hcell : T.heap[b]? = some cellB) (hobj : cellB.vm.isStatics = false) (hcls : s.vm.findClass C = some cellB.cls)
    {g : JFrame} (hg : g.method = m) (hsize : g.locals.size = c.maxLocals) {argsL rest : List Value} (hlen : ∀ sig, parseMethodDescriptor y.desc = some sig → argsL.length = sig.parameters.length)
    (hstack : g.stack = argsL.reverse ++ .ref b :: rest) (hW : 2 * g.monitorRoom + (rest.map fun v => v.category).sum ≤ W9) (hdg : decode c.code g.pc = .ok (.invokevirtual index, 3))
    (hpre : ∀ vm₁, s.WarmedH vm₁ → Pre ⟨T.setVm vm₁, locs, cells, slots⟩ (Value.ref b :: argsL).toArray) :
    (∃ (v : Option Value) (vm₁ : Vm) (B : Pt), s.WarmedH vm₁ ∧ Stand p l e R s m args below meth c B.U B.locs B.cells B.slots ∧ Post ⟨T.setVm vm₁, locs, cells, slots⟩ (Value.ref b :: argsL).toArray v B ∧
      ∀ target, Steps p.tables e below (B.U.setTop { g with pc := g.pc + 3, stack := v.toList ++ rest }) target → Steps p.tables e below (T.setTop g) target) ∨
    (∃ (q : Addr) (vm₁ : Vm) (B : Pt), s.WarmedH vm₁ ∧ Stand p l e R s m args below meth c B.U B.locs B.cells B.slots ∧ PostX ⟨T.setVm vm₁, locs, cells, slots⟩ (Value.ref b :: argsL).toArray q B ∧
      Steps p.tables e below (T.setTop g) ((B.U.setTop { g with stack := rest }).pushFrame (.throwing q))) := by
  obtain ⟨mk, methM, hnamed, hmethM, hstM, habM⟩ := Cond.instanceMethod_spec hinst
  obtain ⟨methM', cM, hmethM', -, -, -, -, -, -, hsigM⟩ := Cond.code_spec hnamed hcode
  cases hmethM.symm.trans hmethM'
  obtain ⟨c2, r2, m2, q1, q2, q3, q4, kP, hkP, hkPi⟩ := Cond.selects_spec hsel
  cases hcls.symm.trans q1
  cases (State.methodFound?_of_named hnamed hy).symm.trans q2
  cases hnamed.symm.trans q3
  have hselP : selectMethod e.platform s.vm cellB.cls mk = .method mk := by rw [Launch.admits_selectMethod X.admits]; exact q4
  obtain ⟨vm₁, X₁, hstep₁⟩ := X.invokevirtual hexec hown hlink hnamed hmethM hstM hkP hkPi hy (a := b) (cell := cellB) hcell
    (fun z h => by rw [h] at hobj; cases hobj) hselP hmethM habM hkP hkPi (g := g) hg (argsL := argsL) (rest := rest) (hlen _ hsigM) hstack hdg
  rcases hK m meth c ⟨T.setVm vm₁, locs, cells, slots⟩ { g with stack := rest } (.invokevirtual index) mk (Value.ref b :: argsL).toArray X₁ hg hsize hdg hW (X₁.named hnamed) (hpre vm₁ X₁.warmed) with ⟨v, B, X', hpost, hsteps⟩ | ⟨q, B, X', hpost, hsteps⟩
  · exact Or.inl ⟨v, vm₁, B, X₁.warmed, X', hpost, fun target h => hstep₁ _ fun acts => by rw [doInvoke_state]; exact hsteps.trans h⟩
  · exact Or.inr ⟨q, vm₁, B, X₁.warmed, X', hpost, hstep₁ _ fun acts => by rw [doInvoke_state]; exact hsteps⟩
theorem vx_callS (X : Stand p l e R s m args below meth c T locs cells slots) (hexec : p.tables.exec = Jvm.exec) {own : String} {index : Nat} {y : MethodName} {bytes : ByteArray} {maxL : Nat} {ret : Option FieldType}
    (hown : s.vm.findClass own = some m.cls) (hlink : (Cond.methodLink own index y).before args s = true) (hstat : (Cond.static y).before args s = true) (hinit : (Cond.initialized y.cls).before args s = true)
    (hcode : (Cond.code y bytes maxL ret).before args s = true) (hy : y.cls ≠ "java/lang/invoke/MethodHandle" ∧ y.cls ≠ "java/lang/invoke/VarHandle")
    {W9 : Nat} {Pre : Pt → Array Value → Prop} {Post : Pt → Array Value → Option Value → Pt → Prop} {PostX : Pt → Array Value → Addr → Pt → Prop} (hK : vx_Back l R p e below s args y 3 W9 Pre Post PostX)
    {g : JFrame} (hg : g.method = m) (hsize : g.locals.size = c.maxLocals) {argsL rest : List Value} (hlen : ∀ sig, parseMethodDescriptor y.desc = some sig → argsL.length = sig.parameters.length)
    (hstack : g.stack = argsL.reverse ++ rest) (hW : 2 * g.monitorRoom + (rest.map fun v => v.category).sum ≤ W9) (hdg : decode c.code g.pc = .ok (.invokestatic index, 3))
    (hpre : ∀ vm₁, s.WarmedH vm₁ → Pre ⟨T.setVm vm₁, locs, cells, slots⟩ argsL.toArray) :
    (∃ (v : Option Value) (vm₁ : Vm) (B : Pt), s.WarmedH vm₁ ∧ Stand p l e R s m args below meth c B.U B.locs B.cells B.slots ∧ Post ⟨T.setVm vm₁, locs, cells, slots⟩ argsL.toArray v B ∧
      ∀ target, Steps p.tables e below (B.U.setTop { g with pc := g.pc + 3, stack := v.toList ++ rest }) target → Steps p.tables e below (T.setTop g) target) ∨
    (∃ (q : Addr) (vm₁ : Vm) (B : Pt), s.WarmedH vm₁ ∧ Stand p l e R s m args below meth c B.U B.locs B.cells B.slots ∧ PostX ⟨T.setVm vm₁, locs, cells, slots⟩ argsL.toArray q B ∧
      Steps p.tables e below (T.setTop g) ((B.U.setTop { g with stack := rest }).pushFrame (.throwing q))) := by
  obtain ⟨mk, hnamed⟩ := Cond.code_named hcode
  obtain ⟨methM, cM, hmethM, -, -, -, -, -, -, hsigM⟩ := Cond.code_spec hnamed hcode
  have hstatic : methM.isStatic = true := Cond.static_spec hnamed hmethM hstat
  obtain ⟨kP, hkP, -⟩ := className_of_methodNamed hnamed
  have hinitP : kP.init = .initialized := Cond.initialized_spec (findClass_of_methodNamed hnamed) hkP hinit
  obtain ⟨vm₁, X₁, hstep₁⟩ := X.invokestatic hexec hown hlink hnamed hmethM hstatic hkP hinitP hy (g := g) hg (argsL := argsL) (rest := rest) (hlen _ hsigM) hstack hdg
  rcases hK m meth c ⟨T.setVm vm₁, locs, cells, slots⟩ { g with stack := rest } (.invokestatic index) mk argsL.toArray X₁ hg hsize hdg hW (X₁.named hnamed) (hpre vm₁ X₁.warmed) with ⟨v, B, X', hpost, hsteps⟩ | ⟨q, B, X', hpost, hsteps⟩
  · exact Or.inl ⟨v, vm₁, B, X₁.warmed, X', hpost, fun target h => hstep₁ _ fun acts => by rw [doInvoke_state]; exact hsteps.trans h⟩
  · exact Or.inr ⟨q, vm₁, B, X₁.warmed, X', hpost, hstep₁ _ fun acts => by rw [doInvoke_state]; exact hsteps⟩
end Calls
theorem vx_cls {s : State} {T : State} {vm₁ : Vm} {E : String} {k : ClassId} (hW : s.WarmedH vm₁) (h : (T.setVm vm₁).vm.findClass E = some k) : s.vm.findClass E = some k := by
  have h1 : vm₁.findClass E = some k := h
  rw [hW.alike.findClass] at h1
  exact h1
/-- the method's frame g, with q thrown over it -/
def vx_W (p : Program) (l : Launch) (e : Env) (R : Room) (s : State) (m : MethodId) (args : Array Value) (below : List Frame) (meth : Method) (c : Code) (H : Heap) (locs : List Loc) (cells slots : Nat) (Q : State → Prop) (g : JFrame) (q : Addr) : Prop :=
  ∀ T : State, T.heap = H → Stand p l e R s m args below meth c T locs cells slots → ∃ t, Steps p.tables e below ((T.setTop g).pushFrame (.throwing q)) t ∧ Q t
def vx_Run (p : Program) (l : Launch) (e : Env) (R : Room) (s : State) (m : MethodId) (args : Array Value) (below : List Frame) (meth : Method) (c : Code) (H : Heap) (locs : List Loc) (cells slots mc ms : Nat) (g : JFrame) (rest : List Value) (Qa : State → Outcome → State → Prop) (XC : String → State → State → Prop) (free : Addr → Prop) : Prop :=
  ∀ T : State, T.heap = H → Stand p l e R s m args below meth c T locs cells slots →
    (∃ (v : Option Value) (st₀ t T' : State) (L : List Loc), st₀.heap = H ∧ Stand p l e R s m args below meth c T' (locs ++ L) (cells + mc) (slots + ms) ∧ (∀ q ∈ L, free q.base) ∧ T'.heap = t.heap ∧ T'.vm = t.vm ∧ Qa st₀ (.returned v) t ∧
      Goes p e below T g T' { g with pc := g.pc + 3, stack := v.toList ++ rest }) ∨
    (∃ (q : Addr) (st₀ t T' : State) (L : List Loc) (E : String) (ce : Cell), st₀.heap = H ∧ Stand p l e R s m args below meth c T' (locs ++ L) (cells + mc) (slots + ms) ∧ (∀ z ∈ L, free z.base) ∧ T'.heap = t.heap ∧ T'.vm = t.vm ∧ XC E st₀ t ∧ t.heap[q]? = some ce ∧ ce.vm = .none ∧ s.vm.findClass E = some ce.cls ∧
      Steps p.tables e below (T.setTop g) ((T'.setTop { g with stack := rest }).pushFrame (.throwing q)))
def vx_X {S : Type} (px : S → Prop) (B : String → S → State → Prop) (A : Nat → Prop) : String → State → State → Prop := fun E st t => ∃ u : S, px u ∧ B E u t ∧ va_F A st t
section Runs
variable {p : Program} {l : Launch} {e : Env} {R : Room} {s : State} {m : MethodId} {args : Array Value} {below : List Frame} {meth : Method} {c : Code} {H : Heap} {locs : List Loc} {cells slots : Nat}
variable {y : MethodName} {bytes cc : ByteArray} {maxL nL mc ms n index : Nat} {ret : Option FieldType} {ws : List Cond} {rm : Room} {Pc : Array Value → State → Prop} {Qc : Array Value → State → Outcome → State → Prop} {XC : String → State → State → Prop} {free : Addr → Prop} {Ts : List Cond} {own C : String} {b : Addr} {As rest : List Value} {g : JFrame}
theorem vx_callBack (cb : CallB R s args own index y bytes maxL ret ws rm mc ms n) (hM : vx_Met l y ws rm Pc Qc XC mc ms free) (hbl : FrameBlind Pc) : vx_Back l R p e below s args y 3 8 (PreOf R mc ms Pc) (PostOf Qc mc ms free) (vx_Post XC mc ms free) := by
  obtain ⟨hrc, hrs, hfr, hlo, hws, hcw, -, hini, -⟩ := cb
  exact vx_back (bytes := bytes) (maxL := maxL) (ret := ret) hM hbl hrc hrs hfr hlo hws hcw (fun a' U hW => word_at hW (Or.inl (by first | rfl | simp [Cond.onTables, Cond.keeps, Cond.steady])) hini)
theorem vx_runV (S : CallFix p m c cc nL s args Ts own) (hM : vx_Met l y ws rm Pc Qc XC mc ms free) (cw : CallW R s args own C index y bytes maxL ret ws rm mc ms n) (hp : PreV s H C b Pc As)
    (hg : g.method = m) (hn : As.length = n) (hsize : g.locals.size = nL) (hstack : g.stack = As.reverse ++ .ref b :: rest) (hW : 2 * g.monitorRoom + (rest.map fun v => v.category).sum ≤ 8) (hdg : decode cc g.pc = .ok (.invokevirtual index, 3)) (hf : cells + mc ≤ R.cells ∧ slots + ms ≤ R.slots) :
    vx_Run p l e R s m args below meth c H locs cells slots mc ms g rest (Qc (Value.ref b :: As).toArray) XC free := by
  have hK : vx_Back l R p e below s args y 3 8 (PreOf R mc ms Pc) (PostOf Qc mc ms free) (vx_Post XC mc ms free) := vx_callBack cw.1 hM hp.1
  obtain ⟨⟨-, -, -, -, -, -, hcode, -, hy, hlen, hl⟩, hin, hse⟩ := cw
  obtain ⟨hx, hb, hml, ho, -⟩ := S
  obtain ⟨-, ⟨cellB, hcB, hoB, hclB⟩, hPc⟩ := hp
  intro T hT X
  rcases vx_callV X hx (C := C) (bytes := bytes) (maxL := maxL) (ret := ret) ho hl hin hse hcode hy hK (by rw [hT]; exact hcB) hoB hclB hg (hsize.trans hml.symm) (argsL := As) (rest := rest) (fun sig h => hn.trans (hlen sig h)) hstack hW (by rw [hb]; exact hdg)
    (fun vm₁ hW₁ => ⟨hf.1, hf.2, hPc (T.setVm vm₁) hT hW₁⟩) with ⟨v, vm₁, ⟨U', l2, c2, s2⟩, hW₁, X', ⟨g', mk, t, L, e1, e2, hq, h1, hL, h2, h3⟩, st⟩ | ⟨q, vm₁, ⟨U', l2, c2, s2⟩, hW₁, X', ⟨g', mk, t, L, E, ce, e1, e2, hq, hce, hcv, hcl, h1, hL, h2, h3⟩, st⟩
  · dsimp only [Pt.U, Pt.locs, Pt.cells, Pt.slots] at X' e1 e2 h1 h2 h3 st
    subst h1; subst h2; subst h3
    exact Or.inl ⟨v, (T.setVm vm₁).calling g' mk (Value.ref b :: As).toArray, t, U', L, hT, X', hL, e1, e2, hq, st⟩
  · dsimp only [Pt.U, Pt.locs, Pt.cells, Pt.slots] at X' e1 e2 h1 h2 h3 st hcl
    subst h1; subst h2; subst h3
    exact Or.inr ⟨q, (T.setVm vm₁).calling g' mk (Value.ref b :: As).toArray, t, U', L, E, ce, hT, X', hL, e1, e2, hq, hce, hcv, vx_cls hW₁ hcl, st⟩
theorem vx_runS (S : CallFix p m c cc nL s args Ts own) (hM : vx_Met l y ws rm Pc Qc XC mc ms free) (cw : CallB R s args own index y bytes maxL ret ws rm mc ms n ∧ (Cond.static y).before args s = true) (hp : PreS s H Pc As)
    (hg : g.method = m) (hn : As.length = n) (hsize : g.locals.size = nL) (hstack : g.stack = As.reverse ++ rest) (hW : 2 * g.monitorRoom + (rest.map fun v => v.category).sum ≤ 8) (hdg : decode cc g.pc = .ok (.invokestatic index, 3)) (hf : cells + mc ≤ R.cells ∧ slots + ms ≤ R.slots) :
    vx_Run p l e R s m args below meth c H locs cells slots mc ms g rest (Qc As.toArray) XC free := by
  have hK : vx_Back l R p e below s args y 3 8 (PreOf R mc ms Pc) (PostOf Qc mc ms free) (vx_Post XC mc ms free) := vx_callBack cw.1 hM hp.1
  obtain ⟨⟨-, -, -, -, -, -, hcode, hini, hy, hlen, hl⟩, hstt⟩ := cw
  obtain ⟨hx, hb, hml, ho, -⟩ := S
  intro T hT X
  rcases vx_callS X hx (bytes := bytes) (maxL := maxL) (ret := ret) ho hl hstt hini hcode hy hK hg (hsize.trans hml.symm) (argsL := As) (rest := rest) (fun sig h => hn.trans (hlen sig h)) hstack hW (by rw [hb]; exact hdg)
    (fun vm₁ hW₁ => ⟨hf.1, hf.2, hp.2 (T.setVm vm₁) hT hW₁⟩) with ⟨v, vm₁, ⟨U', l2, c2, s2⟩, hW₁, X', ⟨g', mk, t, L, e1, e2, hq, h1, hL, h2, h3⟩, st⟩ | ⟨q, vm₁, ⟨U', l2, c2, s2⟩, hW₁, X', ⟨g', mk, t, L, E, ce, e1, e2, hq, hce, hcv, hcl, h1, hL, h2, h3⟩, st⟩
  · dsimp only [Pt.U, Pt.locs, Pt.cells, Pt.slots] at X' e1 e2 h1 h2 h3 st
    subst h1; subst h2; subst h3
    exact Or.inl ⟨v, (T.setVm vm₁).calling g' mk As.toArray, t, U', L, hT, X', hL, e1, e2, hq, st⟩
  · dsimp only [Pt.U, Pt.locs, Pt.cells, Pt.slots] at X' e1 e2 h1 h2 h3 st hcl
    subst h1; subst h2; subst h3
    exact Or.inr ⟨q, (T.setVm vm₁).calling g' mk As.toArray, t, U', L, E, ce, hT, X', hL, e1, e2, hq, hce, hcv, vx_cls hW₁ hcl, st⟩
end Runs
section Rows
variable {p : Program} {l : Launch} {e : Env} {R : Room} {s : State} {m : MethodId} {args : Array Value} {below : List Frame} {meth : Method} {c : Code} {H : Heap} {locs : List Loc} {cells slots : Nat} {Q : State → Prop}
variable {mc ms : Nat} {free : Addr → Prop} {A0 A1 : Nat → Prop} {H0 : Heap} {a : Array Value} {pc : Nat} {ls : Array Slot} {st0 rest : List Value}
theorem vx_keep {st₀ t T' : State} {L : List Loc} (h0 : st₀.heap = H) (e1 : T'.heap = t.heap) (hS : va_S A0 H0 H locs) (hA : ∀ q, q < H.size → A1 q → A0 q) (hf : ∀ q, free q → A0 q) (hL : ∀ q ∈ L, free q.base) (hF : va_F A1 st₀ t) :
    H.size ≤ T'.heap.size ∧ (∀ q : Nat, q < H.size → ¬ A1 q → T'.heap[q]? = H[q]?) ∧ va_S A0 H0 T'.heap (locs ++ L) := by
  obtain ⟨hz, hk⟩ := hF
  rw [h0] at hz hk
  exact ⟨by rw [e1]; exact hz, fun q h1 h2 => by rw [e1]; exact hk q h1 h2,
    ⟨Nat.le_trans hS.1 (by rw [e1]; exact hz), fun q h1 h2 => by rw [e1, hk q (Nat.lt_of_lt_of_le h1 hS.1) (fun z => h2 (hA q (Nat.lt_of_lt_of_le h1 hS.1) z))]; exact hS.2.1 q h1 h2, fun q hq => by
      rcases List.mem_append.mp hq with h | h
      · exact hS.2.2 q h
      · exact hf _ (hL q h)⟩⟩
theorem vx_calli {S SX : Type} {post : Int32 → S → Prop} {px : SX → Prop} {B : S → State → Prop} {BX : String → SX → State → Prop} {AX : Nat → Prop} (hr : vx_Run p l e R s m args below meth c H locs cells slots mc ms (F0 m pc ls st0) rest (va_Qi post B A1 a) (vx_X px BX AX) free) (hS : va_S A0 H0 H locs) (hA : ∀ q, q < H.size → A1 q → A0 q) (hf : ∀ q, free q → A0 q) (hAX : ∀ q, q < H.size → AX q → A0 q)
    (kx : ∀ (E : String) (ce : Cell) (q9 : Addr) (u : SX) (t : State) (H1 : Heap) (locs1 : List Loc), t.heap = H1 → s.vm.Alike t.vm → px u → BX E u t → H.size ≤ H1.size → (∀ q : Nat, q < H.size → ¬ AX q → H1[q]? = H[q]?) → va_S A0 H0 H1 locs1 → H1[q9]? = some ce → ce.vm = .none → s.vm.findClass E = some ce.cls → vx_W p l e R s m args below meth c H1 locs1 (cells + mc) (slots + ms) Q (F0 m pc ls rest) q9)
    (kk : ∀ (r : Int32) (u : S) (t : State) (H1 : Heap) (locs1 : List Loc), t.heap = H1 → s.vm.Alike t.vm → post r u → B u t → H.size ≤ H1.size → (∀ q : Nat, q < H.size → ¬ A1 q → H1[q]? = H[q]?) → va_S A0 H0 H1 locs1 → W p l e R s m args below meth c H1 locs1 (cells + mc) (slots + ms) Q (F0 m (pc + 3) ls (.int r :: rest))) : W p l e R s m args below meth c H locs cells slots Q (F0 m pc ls st0) := by
  intro T hT X
  rcases hr T hT X with ⟨v, st₀, t, T', L, h0, X', hL, e1, e2, ⟨⟨r, u, hv, hp, hb⟩, hF⟩, st⟩ | ⟨q, st₀, t, T', L, E, ce, h0, X', hL, e1, e2, ⟨u, hp, hb, hF⟩, hce, hcv, hcl, st⟩
  · cases hv
    obtain ⟨k1, k2, k3⟩ := vx_keep h0 e1 hS hA hf hL hF
    obtain ⟨t2, a1, b1⟩ := kk r u t T'.heap (locs ++ L) e1.symm (by rw [← e2]; exact X'.warmed.alike) hp hb k1 k2 k3 T' rfl X'
    exact ⟨t2, st t2 a1, b1⟩
  · obtain ⟨k1, k2, k3⟩ := vx_keep h0 e1 hS hAX hf hL hF
    obtain ⟨t2, a1, b1⟩ := kx E ce q u t T'.heap (locs ++ L) e1.symm (by rw [← e2]; exact X'.warmed.alike) hp hb k1 k2 k3 (by rw [e1]; exact hce) hcv hcl T' rfl X'
    exact ⟨t2, st.trans a1, b1⟩
theorem vx_calll {S SX : Type} {post : Int64 → S → Prop} {px : SX → Prop} {B : S → State → Prop} {BX : String → SX → State → Prop} {AX : Nat → Prop} (hr : vx_Run p l e R s m args below meth c H locs cells slots mc ms (F0 m pc ls st0) rest (va_Ql post B A1 a) (vx_X px BX AX) free) (hS : va_S A0 H0 H locs) (hA : ∀ q, q < H.size → A1 q → A0 q) (hf : ∀ q, free q → A0 q) (hAX : ∀ q, q < H.size → AX q → A0 q)
    (kx : ∀ (E : String) (ce : Cell) (q9 : Addr) (u : SX) (t : State) (H1 : Heap) (locs1 : List Loc), t.heap = H1 → s.vm.Alike t.vm → px u → BX E u t → H.size ≤ H1.size → (∀ q : Nat, q < H.size → ¬ AX q → H1[q]? = H[q]?) → va_S A0 H0 H1 locs1 → H1[q9]? = some ce → ce.vm = .none → s.vm.findClass E = some ce.cls → vx_W p l e R s m args below meth c H1 locs1 (cells + mc) (slots + ms) Q (F0 m pc ls rest) q9)
    (kk : ∀ (r : Int64) (u : S) (t : State) (H1 : Heap) (locs1 : List Loc), t.heap = H1 → s.vm.Alike t.vm → post r u → B u t → H.size ≤ H1.size → (∀ q : Nat, q < H.size → ¬ A1 q → H1[q]? = H[q]?) → va_S A0 H0 H1 locs1 → W p l e R s m args below meth c H1 locs1 (cells + mc) (slots + ms) Q (F0 m (pc + 3) ls (.long r :: rest))) : W p l e R s m args below meth c H locs cells slots Q (F0 m pc ls st0) := by
  intro T hT X
  rcases hr T hT X with ⟨v, st₀, t, T', L, h0, X', hL, e1, e2, ⟨⟨r, u, hv, hp, hb⟩, hF⟩, st⟩ | ⟨q, st₀, t, T', L, E, ce, h0, X', hL, e1, e2, ⟨u, hp, hb, hF⟩, hce, hcv, hcl, st⟩
  · cases hv
    obtain ⟨k1, k2, k3⟩ := vx_keep h0 e1 hS hA hf hL hF
    obtain ⟨t2, a1, b1⟩ := kk r u t T'.heap (locs ++ L) e1.symm (by rw [← e2]; exact X'.warmed.alike) hp hb k1 k2 k3 T' rfl X'
    exact ⟨t2, st t2 a1, b1⟩
  · obtain ⟨k1, k2, k3⟩ := vx_keep h0 e1 hS hAX hf hL hF
    obtain ⟨t2, a1, b1⟩ := kx E ce q u t T'.heap (locs ++ L) e1.symm (by rw [← e2]; exact X'.warmed.alike) hp hb k1 k2 k3 (by rw [e1]; exact hce) hcv hcl T' rfl X'
    exact ⟨t2, st.trans a1, b1⟩
theorem vx_callf {S SX : Type} {post : UInt32 → S → Prop} {px : SX → Prop} {B : S → State → Prop} {BX : String → SX → State → Prop} {AX : Nat → Prop} (hr : vx_Run p l e R s m args below meth c H locs cells slots mc ms (F0 m pc ls st0) rest (va_Qf post B A1 a) (vx_X px BX AX) free) (hS : va_S A0 H0 H locs) (hA : ∀ q, q < H.size → A1 q → A0 q) (hf : ∀ q, free q → A0 q) (hAX : ∀ q, q < H.size → AX q → A0 q)
    (kx : ∀ (E : String) (ce : Cell) (q9 : Addr) (u : SX) (t : State) (H1 : Heap) (locs1 : List Loc), t.heap = H1 → s.vm.Alike t.vm → px u → BX E u t → H.size ≤ H1.size → (∀ q : Nat, q < H.size → ¬ AX q → H1[q]? = H[q]?) → va_S A0 H0 H1 locs1 → H1[q9]? = some ce → ce.vm = .none → s.vm.findClass E = some ce.cls → vx_W p l e R s m args below meth c H1 locs1 (cells + mc) (slots + ms) Q (F0 m pc ls rest) q9)
    (kk : ∀ (r : UInt32) (u : S) (t : State) (H1 : Heap) (locs1 : List Loc), t.heap = H1 → s.vm.Alike t.vm → post r u → B u t → H.size ≤ H1.size → (∀ q : Nat, q < H.size → ¬ A1 q → H1[q]? = H[q]?) → va_S A0 H0 H1 locs1 → W p l e R s m args below meth c H1 locs1 (cells + mc) (slots + ms) Q (F0 m (pc + 3) ls (.float r :: rest))) : W p l e R s m args below meth c H locs cells slots Q (F0 m pc ls st0) := by
  intro T hT X
  rcases hr T hT X with ⟨v, st₀, t, T', L, h0, X', hL, e1, e2, ⟨⟨r, u, hv, hp, hb⟩, hF⟩, st⟩ | ⟨q, st₀, t, T', L, E, ce, h0, X', hL, e1, e2, ⟨u, hp, hb, hF⟩, hce, hcv, hcl, st⟩
  · cases hv
    obtain ⟨k1, k2, k3⟩ := vx_keep h0 e1 hS hA hf hL hF
    obtain ⟨t2, a1, b1⟩ := kk r u t T'.heap (locs ++ L) e1.symm (by rw [← e2]; exact X'.warmed.alike) hp hb k1 k2 k3 T' rfl X'
    exact ⟨t2, st t2 a1, b1⟩
  · obtain ⟨k1, k2, k3⟩ := vx_keep h0 e1 hS hAX hf hL hF
    obtain ⟨t2, a1, b1⟩ := kx E ce q u t T'.heap (locs ++ L) e1.symm (by rw [← e2]; exact X'.warmed.alike) hp hb k1 k2 k3 (by rw [e1]; exact hce) hcv hcl T' rfl X'
    exact ⟨t2, st.trans a1, b1⟩
theorem vx_calld {S SX : Type} {post : UInt64 → S → Prop} {px : SX → Prop} {B : S → State → Prop} {BX : String → SX → State → Prop} {AX : Nat → Prop} (hr : vx_Run p l e R s m args below meth c H locs cells slots mc ms (F0 m pc ls st0) rest (va_Qd post B A1 a) (vx_X px BX AX) free) (hS : va_S A0 H0 H locs) (hA : ∀ q, q < H.size → A1 q → A0 q) (hf : ∀ q, free q → A0 q) (hAX : ∀ q, q < H.size → AX q → A0 q)
    (kx : ∀ (E : String) (ce : Cell) (q9 : Addr) (u : SX) (t : State) (H1 : Heap) (locs1 : List Loc), t.heap = H1 → s.vm.Alike t.vm → px u → BX E u t → H.size ≤ H1.size → (∀ q : Nat, q < H.size → ¬ AX q → H1[q]? = H[q]?) → va_S A0 H0 H1 locs1 → H1[q9]? = some ce → ce.vm = .none → s.vm.findClass E = some ce.cls → vx_W p l e R s m args below meth c H1 locs1 (cells + mc) (slots + ms) Q (F0 m pc ls rest) q9)
    (kk : ∀ (r : UInt64) (u : S) (t : State) (H1 : Heap) (locs1 : List Loc), t.heap = H1 → s.vm.Alike t.vm → post r u → B u t → H.size ≤ H1.size → (∀ q : Nat, q < H.size → ¬ A1 q → H1[q]? = H[q]?) → va_S A0 H0 H1 locs1 → W p l e R s m args below meth c H1 locs1 (cells + mc) (slots + ms) Q (F0 m (pc + 3) ls (.double r :: rest))) : W p l e R s m args below meth c H locs cells slots Q (F0 m pc ls st0) := by
  intro T hT X
  rcases hr T hT X with ⟨v, st₀, t, T', L, h0, X', hL, e1, e2, ⟨⟨r, u, hv, hp, hb⟩, hF⟩, st⟩ | ⟨q, st₀, t, T', L, E, ce, h0, X', hL, e1, e2, ⟨u, hp, hb, hF⟩, hce, hcv, hcl, st⟩
  · cases hv
    obtain ⟨k1, k2, k3⟩ := vx_keep h0 e1 hS hA hf hL hF
    obtain ⟨t2, a1, b1⟩ := kk r u t T'.heap (locs ++ L) e1.symm (by rw [← e2]; exact X'.warmed.alike) hp hb k1 k2 k3 T' rfl X'
    exact ⟨t2, st t2 a1, b1⟩
  · obtain ⟨k1, k2, k3⟩ := vx_keep h0 e1 hS hAX hf hL hF
    obtain ⟨t2, a1, b1⟩ := kx E ce q u t T'.heap (locs ++ L) e1.symm (by rw [← e2]; exact X'.warmed.alike) hp hb k1 k2 k3 (by rw [e1]; exact hce) hcv hcl T' rfl X'
    exact ⟨t2, st.trans a1, b1⟩
theorem vx_callv {S SX : Type} {post : S → Prop} {px : SX → Prop} {B : S → State → Prop} {BX : String → SX → State → Prop} {AX : Nat → Prop} (hr : vx_Run p l e R s m args below meth c H locs cells slots mc ms (F0 m pc ls st0) rest (va_Qv post B A1 a) (vx_X px BX AX) free) (hS : va_S A0 H0 H locs) (hA : ∀ q, q < H.size → A1 q → A0 q) (hf : ∀ q, free q → A0 q) (hAX : ∀ q, q < H.size → AX q → A0 q)
    (kx : ∀ (E : String) (ce : Cell) (q9 : Addr) (u : SX) (t : State) (H1 : Heap) (locs1 : List Loc), t.heap = H1 → s.vm.Alike t.vm → px u → BX E u t → H.size ≤ H1.size → (∀ q : Nat, q < H.size → ¬ AX q → H1[q]? = H[q]?) → va_S A0 H0 H1 locs1 → H1[q9]? = some ce → ce.vm = .none → s.vm.findClass E = some ce.cls → vx_W p l e R s m args below meth c H1 locs1 (cells + mc) (slots + ms) Q (F0 m pc ls rest) q9)
    (kk : ∀ (u : S) (t : State) (H1 : Heap) (locs1 : List Loc), t.heap = H1 → s.vm.Alike t.vm → post u → B u t → H.size ≤ H1.size → (∀ q : Nat, q < H.size → ¬ A1 q → H1[q]? = H[q]?) → va_S A0 H0 H1 locs1 → W p l e R s m args below meth c H1 locs1 (cells + mc) (slots + ms) Q (F0 m (pc + 3) ls (rest))) : W p l e R s m args below meth c H locs cells slots Q (F0 m pc ls st0) := by
  intro T hT X
  rcases hr T hT X with ⟨v, st₀, t, T', L, h0, X', hL, e1, e2, ⟨⟨u, hv, hp, hb⟩, hF⟩, st⟩ | ⟨q, st₀, t, T', L, E, ce, h0, X', hL, e1, e2, ⟨u, hp, hb, hF⟩, hce, hcv, hcl, st⟩
  · cases hv
    obtain ⟨k1, k2, k3⟩ := vx_keep h0 e1 hS hA hf hL hF
    obtain ⟨t2, a1, b1⟩ := kk u t T'.heap (locs ++ L) e1.symm (by rw [← e2]; exact X'.warmed.alike) hp hb k1 k2 k3 T' rfl X'
    exact ⟨t2, st t2 a1, b1⟩
  · obtain ⟨k1, k2, k3⟩ := vx_keep h0 e1 hS hAX hf hL hF
    obtain ⟨t2, a1, b1⟩ := kx E ce q u t T'.heap (locs ++ L) e1.symm (by rw [← e2]; exact X'.warmed.alike) hp hb k1 k2 k3 (by rw [e1]; exact hce) hcv hcl T' rfl X'
    exact ⟨t2, st.trans a1, b1⟩
/-- caught by the row x of this method's table; the rows ahead don't take it -/
theorem vx_catch {own name : String} {E : String} {ce : Cell} {q : Addr} (hown : s.vm.findClass own = some m.cls) (pre : List ExceptionTableEntry) (x : ExceptionTableEntry) (suf : List ExceptionTableEntry) (hsplit : c.exceptionTable.toList = pre ++ x :: suf)
    (hpass : ∀ z ∈ pre, covers z pc = false ∨ (z.catchType ≠ 0 ∧ ∃ nm : String, (Cond.classLink own z.catchType nm).before args s = true ∧ va_Nc E nm s)) (hx : covers x pc = true) (h0 : x.catchType ≠ 0)
    (hlink : (Cond.classLink own x.catchType name).before args s = true) (hcast : (Cond.castable E name).before args s = true) (hcell : H[q]? = some ce) (hv : ce.vm = .none) (hcl : s.vm.findClass E = some ce.cls)
    (kk : W p l e R s m args below meth c H locs cells slots Q (F0 m x.handlerPc ls [.ref q])) : vx_W p l e R s m args below meth c H locs cells slots Q (F0 m pc ls rest) q := by
  intro T hT X
  have hpl : e.platform.magicAccessors = ({} : Platform).magicAccessors := by rw [X.admits.platform]
  obtain ⟨c3, c4, hc3, hc4, hasg⟩ := Cond.castable_spec hcast
  cases Option.some.inj (hc3.symm.trans hcl)
  obtain ⟨c5, hc5, hcl5⟩ := Cond.classLink_spec hown hlink e.platform hpl
  cases Option.some.inj (hc4.symm.trans hc5)
  obtain ⟨vm', X', st⟩ := X.thenCaughtThrough q (g := F0 m pc ls rest) rfl (Steps.refl _) (by rw [hT]; exact hcell) (by rw [hv]; rfl) (by obtain ⟨k9, h9, -⟩ := Vm.findClass_spec hcl; exact ⟨k9, h9⟩) pre x suf hsplit
    (fun z hz => by
      rcases hpass z hz with h | ⟨hz0, nm, hl1, hn1⟩
      · exact Or.inl h
      · obtain ⟨c6, hc6, hcl6⟩ := Cond.classLink_spec hown hl1 e.platform hpl
        obtain ⟨a8, b8, h1, h2, h3⟩ := hn1
        cases Option.some.inj (h1.symm.trans hcl)
        cases Option.some.inj (h2.symm.trans hc6)
        exact Or.inr ⟨hz0, _, hcl6, h3⟩) hx (Or.inr ⟨h0, c4, hcl5, hasg⟩)
  obtain ⟨t, a1, b1⟩ := kk (T.setVm vm') hT X'
  exact ⟨t, st.trans a1, b1⟩
end Rows
section Ends
variable {p : Program} {l : Launch} {e : Env} {R : Room} {s : State} {m : MethodId} {args : Array Value} {below : List Frame} {meth : Method} {c : Code} {H : Heap} {locs : List Loc} {cells slots : Nat} {Q : State → Prop}
variable {mc ms : Nat} {free : Addr → Prop} {A0 A1 : Nat → Prop} {H0 : Heap} {a : Array Value} {ls : Array Slot} {st0 rest : List Value}
variable {Qc : Array Value → State → Outcome → State → Prop} {XC : String → State → State → Prop}
/-- what a body that may throw owes at its end -/
def vx_MQ (below : List Frame) (Qc : Array Value → State → Outcome → State → Prop) (XC : String → State → State → Prop) (a : Array Value) (s : State) (mc ms : Nat) (free : Addr → Prop) : State → Prop := fun t =>
  ∃ o, t.status = .running ∧ Ended t below o ∧ vx_Q Qc XC mc ms free a s o t
theorem vx_ret {g : JFrame} {mc ms : Nat} (k : W p l e R s m args below meth c H locs cells slots (MQ below Qc args s mc ms free) g) : W p l e R s m args below meth c H locs cells slots (vx_MQ below Qc XC args s mc ms free) g := by
  intro T hT X
  obtain ⟨t, a1, o, b1, b2, b3, b4⟩ := k T hT X
  exact ⟨t, a1, o, b1, b2, Or.inl ⟨b3, b4⟩⟩
/-- not caught here: it goes on to the caller -/
theorem vx_widen {g : JFrame} {q : Addr} {k n : Nat} (h1 : cells ≤ k) (h2 : slots ≤ n) (kk : vx_W p l e R s m args below meth c H locs k n Q g q) : vx_W p l e R s m args below meth c H locs cells slots Q g q := fun T hT X => kk T hT (stand_widen X h1 h2)
theorem vx_out {pc : Nat} {E : String} {ce : Cell} {q : Addr} {mc ms : Nat} (hout : ∀ x ∈ c.exceptionTable.toList, covers x pc = false) (hlocks : meth.locks = false) (hcell : H[q]? = some ce) (hv : ce.vm = .none) (hcl : s.vm.findClass E = some ce.cls)
    (hx : ∀ t : State, t.heap = H → s.vm.Alike t.vm → XC E s t) (hf : ∀ z ∈ locs, free z.base) (hc : cells ≤ mc) (hs : slots ≤ ms) :
    vx_W p l e R s m args below meth c H locs cells slots (vx_MQ below Qc XC args s mc ms free) (F0 m pc ls rest) q := by
  intro T hT X
  obtain ⟨st1, hrun, hend, hW, hsm⟩ := X.leaveThrown q (g := F0 m pc ls rest) rfl rfl rfl hout hlocks
  have hcell9 : (T.setFrames (.throwing q :: below)).heap[q]? = some ce := by
    show T.heap[q]? = some ce
    rw [hT]; exact hcell
  exact ⟨_, st1, .threw q, hrun, hend, Or.inr ⟨q, rfl, E, ce, locs, hx _ hT hW.alike, hcell9, hv, hcl, hW, hsm.mono hc hs, hf⟩⟩
theorem vx_frame {U : State} {k n : Nat} (h : s.sameButNew ({ U with vm := s.vm } : State) locs k n) : s.heap.size ≤ U.heap.size ∧ ∀ q : Nat, q < s.heap.size → (∀ z ∈ locs, z.base ≠ q) → U.heap[q]? = s.heap[q]? := by
  obtain ⟨-, h2, -, -, -, h6⟩ := h
  refine ⟨h2, fun q hq hz => ?_⟩
  obtain ⟨c9, e1, e2, e3, e4⟩ := h6 q _ (Array.getElem?_eq_getElem hq)
  have hs : c9.slots = (s.heap[q]).slots := Array.ext_getElem? fun i => e4 i fun hm => hz _ hm rfl
  have h9 : c9 = s.heap[q] := by
    rw [hs] at e2
    exact e2
  have e5 : U.heap[q]? = some c9 := e1
  rw [e5, h9, Array.getElem?_eq_getElem hq]
/-- the words of a throw but the four that speak of the heap -/
def vx_no (w : Cond) : Bool := decide (w ≠ .isRef (.static Bundle.tN "UNASSIGNED_STACK" Bundle.steD)) && decide (w ≠ .isRef (.static Bundle.tN "SUPPRESSED_SENTINEL" Bundle.listD)) && decide (w ≠ .laysStatic Bundle.tN "UNASSIGNED_STACK" Bundle.steD) && decide (w ≠ .laysStatic Bundle.tN "SUPPRESSED_SENTINEL" Bundle.listD)
def vx_at0 (own : String) (ic : Nat) (X : String) (names : List String) : List Cond := (Bundle.ownAtoms0 own ic X names).filter vx_no
def vx_atS (own : String) (ic : Nat) (X : String) (names : List String) : List Cond := (Bundle.ownAtoms own ic X names).filter vx_no
/-- a word that the tables alone decide, or a good one -/
def vx_ot (w : Cond) : Bool := w.onTables || goodWord w
theorem vx_ot_at {args a' : Array Value} {s U : State} {w : Cond} (hW : s.WarmedH U.vm) (hvm : s.vm = U.vm) (hg : vx_ot w = true) (h : w.before args s = true) : w.before a' U = true := by
  simp only [vx_ot, Bool.or_eq_true] at hg
  rcases hg with hg | hg
  · exact va_tabs hg hvm h
  · exact word_at hW (good_of_word hg) h
/-- a list's words: the good ones out of the method's own list, the others by premises of their own -/
theorem vx_hat {args : Array Value} {s : State} {L B : List Cond} (h1 : ∀ w ∈ L.filter goodWord, w.before args s = true) (h2 : ∀ w ∈ L.filter (fun w => !goodWord w), w ∈ B) (h3 : ∀ w ∈ B, w.before args s = true) : ∀ w ∈ L, w.before args s = true := by
  intro w hw
  by_cases g : goodWord w = true
  · exact h1 w (List.mem_filter.mpr ⟨hw, g⟩)
  · refine h3 w (h2 w (List.mem_filter.mpr ⟨hw, ?_⟩))
    show (!goodWord w) = true
    cases hgw : goodWord w
    · rfl
    · exact absurd hgw g
theorem vx_c {args : Array Value} {s : State} {w : Cond} {B : List Cond} (h : w.before args s = true) (t : ∀ w ∈ B, w.before args s = true) : ∀ w' ∈ w :: B, w'.before args s = true := fun w' h' => (List.mem_cons.mp h').elim (fun e => by rw [e]; exact h) (t w')
theorem vx_n {args : Array Value} {s : State} : ∀ w ∈ ([] : List Cond), w.before args s = true := fun _ h => nomatch h
theorem vx_own {args : Array Value} {s : State} {L : List Cond} (h1 : ∀ w ∈ L.filter vx_no, w.before args s = true)
    (hU : (Cond.isRef (.static Bundle.tN "UNASSIGNED_STACK" Bundle.steD)).before args s = true) (hN : (Cond.isRef (.static Bundle.tN "SUPPRESSED_SENTINEL" Bundle.listD)).before args s = true)
    (lU : (Cond.laysStatic Bundle.tN "UNASSIGNED_STACK" Bundle.steD).before args s = true) (lN : (Cond.laysStatic Bundle.tN "SUPPRESSED_SENTINEL" Bundle.listD).before args s = true) : ∀ w ∈ L, w.before args s = true := by
  intro w hw
  by_cases e1 : w = .isRef (.static Bundle.tN "UNASSIGNED_STACK" Bundle.steD)
  · rw [e1]; exact hU
  · by_cases e2 : w = .isRef (.static Bundle.tN "SUPPRESSED_SENTINEL" Bundle.listD)
    · rw [e2]; exact hN
    · by_cases e3 : w = .laysStatic Bundle.tN "UNASSIGNED_STACK" Bundle.steD
      · rw [e3]; exact lU
      · by_cases e4 : w = .laysStatic Bundle.tN "SUPPRESSED_SENTINEL" Bundle.listD
        · rw [e4]; exact lN
        · exact h1 w (List.mem_filter.mpr ⟨hw, by unfold vx_no; rw [decide_eq_true e1, decide_eq_true e2, decide_eq_true e3, decide_eq_true e4]; rfl⟩)
/-- where a static field lies, its class's statics cell in H -/
def vx_L (C n d : String) (A : Nat → Prop) (U : State) (H : Heap) : Prop := ∃ (c : ClassId) (k : Class) (i : Nat) (f : Field) (a : Nat) (cell : Cell), U.vm.findClass C = some c ∧ U.fieldFound? C n d = some (c, k, i, f) ∧ f.isStatic = true ∧ k.statics = some a ∧ H[a]? = some cell ∧ cell.vm.isStatics = true ∧ cell.cls = c ∧ f.slot < cell.slots.size ∧ k.staticTypes[f.slot]? = some f.type ∧ ¬ A a
theorem vx_L.moved {C n d : String} {A : Nat → Prop} {u U : State} {H : Heap} (hvm : u.vm.Alike U.vm) (h : vx_L C n d A u H) : vx_L C n d A U H := by
  obtain ⟨c, k, i, f, a, cell, h1, h2, h3, h4, h5, h6, h7, h8, h9, h10⟩ := h
  obtain ⟨k', hi', he⟩ := State.fieldFound?_setVm hvm h2
  exact ⟨c, k', i, f, a, cell, by rw [hvm.findClass]; exact h1, hi', h3, by rw [he]; exact h4, h5, h6, h7, h8, by rw [he]; exact h9, h10⟩
theorem vx_L.kept {C n d : String} {A : Nat → Prop} {U : State} {H H1 : Heap} (h : vx_L C n d A U H) (hq : ∀ a : Nat, a < H.size → ¬ A a → H1[a]? = H[a]?) : vx_L C n d A U H1 := by
  obtain ⟨c, k, i, f, a, cell, h1, h2, h3, h4, h5, h6, h7, h8, h9, h10⟩ := h
  exact ⟨c, k, i, f, a, cell, h1, h2, h3, h4, by rw [hq a (Array.getElem?_eq_some_iff.mp h5).1 h10]; exact h5, h6, h7, h8, h9, h10⟩
theorem vx_L.narrow {C n d : String} {A B : Nat → Prop} {U : State} {H : Heap} (h : vx_L C n d A U H) (hAB : ∀ q, B q → A q) : vx_L C n d B U H := by
  obtain ⟨c, k, i, f, a, cell, h1, h2, h3, h4, h5, h6, h7, h8, h9, h10⟩ := h
  exact ⟨c, k, i, f, a, cell, h1, h2, h3, h4, h5, h6, h7, h8, h9, fun z => h10 (hAB _ z)⟩
theorem vx_L.word {C n d : String} {A : Nat → Prop} {s : State} {args : Array Value} (h : vx_L C n d A s s.heap) : (Cond.laysStatic C n d).before args s = true := by
  obtain ⟨c, k, i, f, a, cell, h1, h2, h3, h4, h5, h6, h7, h8, h9, -⟩ := h
  show (Cond.laysStatic C n d).holds args s none s [] = true
  exact Cond.laysStatic_of h1 h2 h3 h4 h5 h6 h7 h8 h9
/-- .. and what it holds: null or some reference -/
def vx_Zq (C n d : String) (A : Nat → Prop) (U : State) (H : Heap) : Prop := va_Zq C n d A U H ∧ vx_L C n d A U H
theorem vx_Zq.moved {C n d : String} {A : Nat → Prop} {u U : State} {H : Heap} (hvm : u.vm.Alike U.vm) (h : vx_Zq C n d A u H) : vx_Zq C n d A U H := ⟨va_Zq.moved hvm h.1, vx_L.moved hvm h.2⟩
theorem vx_Zq.kept {C n d : String} {A : Nat → Prop} {U : State} {H H1 : Heap} (h : vx_Zq C n d A U H) (hq : ∀ a : Nat, a < H.size → ¬ A a → H1[a]? = H[a]?) : vx_Zq C n d A U H1 := ⟨va_Zq.kept h.1 hq, vx_L.kept h.2 hq⟩
theorem vx_Zq.narrow {C n d : String} {A B : Nat → Prop} {U : State} {H : Heap} (h : vx_Zq C n d A U H) (hAB : ∀ q, B q → A q) : vx_Zq C n d B U H := ⟨va_Zq.narrow h.1 hAB, vx_L.narrow h.2 hAB⟩
theorem vx_Zqof {args : Array Value} {s : State} {C n d : String} {A : Nat → Prop} (hl : (Cond.laysStatic C n d).before args s = true) (hini : (Cond.initialized C).before args s = true) (h : (Cond.isRef (.static C n d)).before args s = true) (hA : ∀ a : Nat, a < s.heap.size → ¬ A a) : vx_Zq C n d A s s.heap := by
  refine ⟨va_Zqof hl hini h hA, ?_⟩
  obtain ⟨c, k, i, f, a, cell, h1, h2, h3, h4, h5, h6, h7, h8, h9⟩ := Cond.laysStatic_spec hl
  exact ⟨c, k, i, f, a, cell, h1, h2, h3, h4, h5, h6, h7, h8, h9, hA a (Array.getElem?_eq_some_iff.mp h5).1⟩
theorem vx_isRef {C n d : String} {v : Value} {A : Nat → Prop} {s : State} {args : Array Value} (h : va_Z C n d v A s s.heap) (hv : v.isRef = true) : (Cond.isRef (.static C n d)).before args s = true := by
  obtain ⟨cf, kf, fi, f, a, cell, h1, h2, h3, h4, h5, h6, h7, -⟩ := h
  have he : (Term.static C n d).eval args s none [] s = some v := by
    simp [Term.eval, State.fieldNamed?, h1, h2, h4, h5, h6, h7]
  simp only [Cond.before, Cond.holds, Cond.value, he]
  cases v <;> simp_all [Value.isRef]
theorem vx_isRefq {C n d : String} {A : Nat → Prop} {s : State} {args : Array Value} (h : va_Zq C n d A s s.heap) : (Cond.isRef (.static C n d)).before args s = true := by
  rcases h with h | ⟨t, h⟩
  · exact vx_isRef h rfl
  · exact vx_isRef h rfl
/-- the same frame, seen from here: as if the method were called anew in this heap -/
theorem vx_rebase {T : State} (X : Stand p l e R s m args below meth c T locs cells slots) {R' : Room} (hf : R'.frames ≤ R.frames) (hl : R'.locals ≤ R.locals) (hc : cells + R'.cells ≤ R.cells) (hs : slots + R'.slots ≤ R.slots) :
    Stand p l e R' ((T.setVm s.vm).setFrames (.invoking m args :: below)) m args below meth c T [] 0 0 := by
  have htop : (T.setVm s.vm).topJava?.isSome := X.here.top
  have hF : ((T.setVm s.vm).setFrames (.invoking m args :: below)).frames = .invoking m args :: below := State.frames_setFrames _ (State.cur_lt_of_top htop)
  obtain ⟨g₀, hg0⟩ := Option.isSome_iff_exists.mp htop
  obtain ⟨r, hr⟩ := State.topJava?_eq_some.mp hg0
  have hl9 : e.platform.stackLimits (T.setVm s.vm).me = e.platform.stackLimits s.me := X.limits
  have hb9 : (T.setVm s.vm).me.stackBytes = s.me.stackBytes := X.bytes
  refine ⟨X.admits, X.cas, X.clock, hF, ?_, X.hears, X.method, X.code, X.here, X.tail, X.warmed, ?_, ?_, ?_⟩
  · have h := X.room
    have hU : ((T.setVm s.vm).setFrames (.invoking m args :: below)).localsInUse = s.localsInUse := by
      rw [State.localsInUse_invoking hF (meth := meth) (c := c) X.method X.code, State.localsInUse_invoking X.frames X.method X.code]
    simp only [State.hasRoom, Bool.and_eq_true, decide_eq_true_eq] at h ⊢
    obtain ⟨⟨⟨⟨h1, h2, h3, h4, h5, h6⟩, h7⟩, h8⟩, h9⟩ := h
    rw [X.frames, List.length_cons] at h2 h3
    have q1 := X.heapSize
    have q2 := X.used
    simp only [hF, hU, List.length_cons, State.stackLimits_setFrames, State.stackBytes_setFrames, hl9, hb9]
    refine ⟨⟨⟨⟨by omega, by omega, by omega, by omega, by omega, h6⟩, ?_⟩, ?_⟩, X.book⟩
    · show T.heap.size + R'.cells ≤ e.platform.maxCells
      omega
    · show T.slotsUsed + R'.slots ≤ e.platform.maxSlots
      omega
  · rw [State.stackLimits_setFrames]; rfl
  · rw [State.stackBytes_setFrames]; rfl
  · refine ⟨?_, Nat.le_refl _, Nat.le_refl _, ?_, ?_, fun a c9 h9 => ⟨c9, h9, rfl, rfl, fun _ _ => rfl⟩⟩
    · obtain ⟨t, ht, -⟩ := State.frames_cons hr
      show T.setVm s.vm = { ((T.setVm s.vm).setFrames (.invoking m args :: below)).setFrames (T.setVm s.vm).frames with heap := T.heap, slotsUsed := T.slotsUsed }
      rw [State.setFrames_setFrames, State.setFrames_self ht]
      rfl
    · show T.slotsUsed = T.slotsUsed + ((T.heap.toList.drop T.heap.size).map (·.slots.size)).sum
      rw [List.drop_eq_nil_of_le (Nat.le_of_eq Array.length_toList)]
      rfl
    · show ((T.heap.toList.drop T.heap.size).map (·.slots.size)).sum ≤ 0
      rw [List.drop_eq_nil_of_le (Nat.le_of_eq Array.length_toList)]
      exact Nat.le_refl _
/-- 'throw new E()': new; dup; invokespecial; athrow -/
theorem vx_throw0 {cc : ByteArray} {pc : Nat} (hexec : p.tables.exec = Jvm.exec) (hb : c.code = cc) (hl : l.stackTraces = false) {own cls : String} {names : List String} {ik ic mc ms : Nat} {A : Nat → Prop}
    (hown : s.vm.findClass own = some m.cls) (hcls : Bundle.fit cls = true) (hnames : ∀ n ∈ names, Bundle.fit n = true)
    (hk : (Cond.classLink own ik cls).before args s = true) (hini : (Cond.initialized cls).before args s = true) (hat : ∀ w ∈ vx_at0 own ic cls names, w.before args s = true)
    (hgood : ∀ w ∈ Cond.classLink own ik cls :: Cond.initialized cls :: vx_at0 own ic cls names, vx_ot w = true)
    (hU : vx_Zq Bundle.tN "UNASSIGNED_STACK" Bundle.steD A s s.heap) (hN : vx_Zq Bundle.tN "SUPPRESSED_SENTINEL" Bundle.listD A s s.heap) (hS : va_S A s.heap H locs) (hsize : ls.size = c.maxLocals)
    (d0 : decode cc pc = .ok (.new ik, 3)) (d3 : decode cc (pc + 3) = .ok (.dup, 1)) (d4 : decode cc (pc + 4) = .ok (.invokespecial ic, 3)) (d7 : decode cc (pc + 7) = .ok (.athrow, 1))
    (hout : ∀ x ∈ c.exceptionTable.toList, covers x (pc + 7) = false)
    (hRframes : names.length + 3 < R.frames) (hRlocals : (rest.map fun v => v.category).sum + (13 * (names.length + 1) + 42) ≤ R.locals) (hRcells : cells + 1 ≤ R.cells) (hRslots : slots + 6 ≤ R.slots) (hlocks : meth.locks = false)
    (hx : ∀ t : State, s.vm.Alike t.vm → H.size ≤ t.heap.size → (∀ q : Nat, q < H.size → t.heap[q]? = H[q]?) → XC cls s t)
    (hf : ∀ z ∈ locs, free z.base) (hc : cells + 1 ≤ mc) (hs : slots + 6 ≤ ms) :
    W p l e R s m args below meth c H locs cells slots (vx_MQ below Qc XC args s mc ms free) (F0 m pc ls rest) := by
  intro T hT X
  have htr : e.platform.stackTraces = false := (show e.platform.stackTraces = l.stackTraces by rw [X.admits.platform]).trans hl
  have Y := vx_rebase X (R' := { frames := R.frames, locals := R.locals, cells := 1, slots := 6 }) (Nat.le_refl _) (Nat.le_refl _) hRcells hRslots
  obtain ⟨s', hA⟩ : ∃ z, z = (T.setVm s.vm).setFrames (.invoking m args :: below) := ⟨_, rfl⟩
  rw [← hA] at Y
  have hvm : s'.vm = s.vm := by rw [hA]; rfl
  have hhp : s'.heap = H := by rw [hA]; exact hT
  have hW0 : s.WarmedH s'.vm := by rw [hvm]; exact State.WarmedH.refl s
  have hat' : ∀ w ∈ vx_at0 own ic cls names, w.before args s' = true := fun w hw => vx_ot_at hW0 hvm.symm (hgood w (List.mem_cons_of_mem _ (List.mem_cons_of_mem _ hw))) (hat w hw)
  have hk' : (Cond.classLink own ik cls).before args s' = true := vx_ot_at hW0 hvm.symm (hgood _ List.mem_cons_self) hk
  have hini' : (Cond.initialized cls).before args s' = true := vx_ot_at hW0 hvm.symm (hgood _ (List.mem_cons_of_mem _ List.mem_cons_self)) hini
  have hU' : vx_Zq Bundle.tN "UNASSIGNED_STACK" Bundle.steD A s' s'.heap := by rw [hhp]; exact vx_Zq.moved hW0.alike (hU.kept hS.2.1)
  have hN' : vx_Zq Bundle.tN "SUPPRESSED_SENTINEL" Bundle.listD A s' s'.heap := by rw [hhp]; exact vx_Zq.moved hW0.alike (hN.kept hS.2.1)
  have h : ∀ w ∈ Bundle.ownAtoms0 own ic cls names, w.before args s' = true := vx_own hat' (vx_isRefq hU'.1) (vx_isRefq hN'.1) hU'.2.word hN'.2.word
  have hown' : s'.vm.findClass own = some m.cls := by rw [hvm]; exact hown
  have hins : (Cond.instantiable cls 6).before args s' = true := h _ (by simp [Bundle.ownAtoms0])
  obtain ⟨vm₁, cX, kX, hfX, hkX, -, -, X₁, st1⟩ := Y.newCold hexec (own := own) (C := cls) (index := ik) (n := 6) hown' hk' hins hini'
    (g := F0 m pc ls rest) rfl (by rw [hb]; exact d0) (Nat.le_refl _) (Nat.le_refl _)
  generalize hT1 : (T.setVm vm₁).pushCell { cls := cX, slots := kX.instanceTypes.map defaultValue, vm := .none } = T1 at X₁ st1
  have hcat : (Value.ref T.heap.size).category = 1 := rfl
  have hcellA : T1.heap[T.heap.size]? = some (freshCell cX kX) := by rw [← hT1]; exact State.heap_pushCell_size _ _
  have d3' : decode c.code (pc + 3) = .ok (.dup, 1) := by rw [hb]; exact d3
  obtain ⟨U, hsteps, hrun, hend, hW, hsame, ce, hce, hO⟩ := X₁.ctorThrow0 hexec htr (own := own) (cls := cls) (names := names) (ic := ic) hown' hcls hnames h (fun x hx => nomatch hx) hfX hkX hcellA (by rw [hhp, hT]; exact Nat.le_refl _)
    (g := { method := m, pc := pc + 4, locals := ls, stack := .ref T.heap.size :: .ref T.heap.size :: rest, locked := none }) rfl hsize rfl rfl (rest := rest) rfl
    (by rw [hb]; exact d4) (by rw [hb]; exact d7) hout hRframes (by simp only [List.map_cons, List.sum_cons, hcat]; omega) hlocks
  obtain ⟨f1, f2⟩ := vx_frame hsame
  rw [hhp] at f1 f2
  have hWs : s.WarmedH U.vm := State.WarmedH.trans hW0 hW
  have hcl : s.vm.findClass cls = some ce.cls := by
    have h9 := hO.cls
    rw [hvm] at h9
    exact h9
  have hall : s.sameButNew ({ U with vm := s.vm } : State) locs mc ms := by
    subst hA
    obtain ⟨e1, e2⟩ := hsame
    rw [State.setFrames_setFrames] at e1
    have h2 : (T.setVm s.vm).sameButNew ({ U with vm := s.vm } : State) [] (0 + 1) (0 + 6) := ⟨e1, e2⟩
    have h3 := X.same.trans h2
    rw [List.append_nil] at h3
    exact h3.mono hc hs
  refine ⟨U, ?_, .threw T.heap.size, hrun, hend, Or.inr ⟨T.heap.size, rfl, cls, ce, locs, hx U hWs.alike f1 (fun q hq => f2 q hq (fun z hz => nomatch hz)), hce, hO.vm, hcl, hWs, hall, hf⟩⟩
  refine st1 _ ?_
  show Steps p.tables e below (T1.setTop { method := m, pc := pc + 3, locals := ls, stack := .ref T.heap.size :: rest, locked := none }) _
  jvm_step X₁.here [X₁.here.top, hexec, d3', Value.category]
  exact hsteps
/-- 'throw new E("text")': new; dup; ldc; invokespecial; athrow -/
theorem vx_throwS {cc : ByteArray} {pc : Nat} (hexec : p.tables.exec = Jvm.exec) (hb : c.code = cc) (hl : l.stackTraces = false) {own cls text : String} {names : List String} {ik is ic mc ms sa : Nat} {A : Nat → Prop}
    (hown : s.vm.findClass own = some m.cls) (hcls : Bundle.fit cls = true) (hnames : ∀ n ∈ names, Bundle.fit n = true)
    (hk : (Cond.classLink own ik cls).before args s = true) (hini : (Cond.initialized cls).before args s = true) (hstr : vk_R own is text sa s) (hat : ∀ w ∈ vx_atS own ic cls names, w.before args s = true)
    (hgood : ∀ w ∈ Cond.classLink own ik cls :: Cond.initialized cls :: vx_atS own ic cls names, vx_ot w = true)
    (hU : vx_Zq Bundle.tN "UNASSIGNED_STACK" Bundle.steD A s s.heap) (hN : vx_Zq Bundle.tN "SUPPRESSED_SENTINEL" Bundle.listD A s s.heap) (hS : va_S A s.heap H locs) (hsize : ls.size = c.maxLocals)
    (d0 : decode cc pc = .ok (.new ik, 3)) (d3 : decode cc (pc + 3) = .ok (.dup, 1)) (d4 : decode cc (pc + 4) = .ok (.ldc is, 2)) (d6 : decode cc (pc + 6) = .ok (.invokespecial ic, 3)) (d9 : decode cc (pc + 9) = .ok (.athrow, 1))
    (hout : ∀ x ∈ c.exceptionTable.toList, covers x (pc + 9) = false)
    (hRframes : names.length + 3 < R.frames) (hRlocals : (rest.map fun v => v.category).sum + (13 * (names.length + 1) + 43) ≤ R.locals) (hRcells : cells + 1 ≤ R.cells) (hRslots : slots + 6 ≤ R.slots) (hlocks : meth.locks = false)
    (hx : ∀ t : State, s.vm.Alike t.vm → H.size ≤ t.heap.size → (∀ q : Nat, q < H.size → t.heap[q]? = H[q]?) → XC cls s t)
    (hf : ∀ z ∈ locs, free z.base) (hc : cells + 1 ≤ mc) (hs : slots + 6 ≤ ms) :
    W p l e R s m args below meth c H locs cells slots (vx_MQ below Qc XC args s mc ms free) (F0 m pc ls rest) := by
  intro T hT X
  have htr : e.platform.stackTraces = false := (show e.platform.stackTraces = l.stackTraces by rw [X.admits.platform]).trans hl
  have Y := vx_rebase X (R' := { frames := R.frames, locals := R.locals, cells := 1, slots := 6 }) (Nat.le_refl _) (Nat.le_refl _) hRcells hRslots
  obtain ⟨s', hA⟩ : ∃ z, z = (T.setVm s.vm).setFrames (.invoking m args :: below) := ⟨_, rfl⟩
  rw [← hA] at Y
  have hvm : s'.vm = s.vm := by rw [hA]; rfl
  have hhp : s'.heap = H := by rw [hA]; exact hT
  have hW0 : s.WarmedH s'.vm := by rw [hvm]; exact State.WarmedH.refl s
  have hat' : ∀ w ∈ vx_atS own ic cls names, w.before args s' = true := fun w hw => vx_ot_at hW0 hvm.symm (hgood w (List.mem_cons_of_mem _ (List.mem_cons_of_mem _ hw))) (hat w hw)
  have hk' : (Cond.classLink own ik cls).before args s' = true := vx_ot_at hW0 hvm.symm (hgood _ List.mem_cons_self) hk
  have hini' : (Cond.initialized cls).before args s' = true := vx_ot_at hW0 hvm.symm (hgood _ (List.mem_cons_of_mem _ List.mem_cons_self)) hini
  have hU' : vx_Zq Bundle.tN "UNASSIGNED_STACK" Bundle.steD A s' s'.heap := by rw [hhp]; exact vx_Zq.moved hW0.alike (hU.kept hS.2.1)
  have hN' : vx_Zq Bundle.tN "SUPPRESSED_SENTINEL" Bundle.listD A s' s'.heap := by rw [hhp]; exact vx_Zq.moved hW0.alike (hN.kept hS.2.1)
  have h : ∀ w ∈ Bundle.ownAtoms own ic cls names, w.before args s' = true := vx_own hat' (vx_isRefq hU'.1) (vx_isRefq hN'.1) hU'.2.word hN'.2.word
  have hown' : s'.vm.findClass own = some m.cls := by rw [hvm]; exact hown
  have hins : (Cond.instantiable cls 6).before args s' = true := h _ (by simp [Bundle.ownAtoms])
  obtain ⟨vm₁, cX, kX, hfX, hkX, -, -, X₁, st1⟩ := Y.newCold hexec (own := own) (C := cls) (index := ik) (n := 6) hown' hk' hins hini'
    (g := F0 m pc ls rest) rfl (by rw [hb]; exact d0) (Nat.le_refl _) (Nat.le_refl _)
  generalize hT1 : (T.setVm vm₁).pushCell { cls := cX, slots := kX.instanceTypes.map defaultValue, vm := .none } = T1 at X₁ st1
  have hcat : (Value.ref T.heap.size).category = 1 := rfl
  have hcellA : T1.heap[T.heap.size]? = some (freshCell cX kX) := by rw [← hT1]; exact State.heap_pushCell_size _ _
  have d3' : decode c.code (pc + 3) = .ok (.dup, 1) := by rw [hb]; exact d3
  have d4' : decode c.code (pc + 4) = .ok (.ldc is, 2) := by rw [hb]; exact d4
  have hstr' : vk_R own is text sa s' := vk_R.warm hW0 hstr
  obtain ⟨U, hsteps, hrun, hend, hW, hsame, ce, hce, hO⟩ := X₁.ctorThrowS hexec htr (own := own) (cls := cls) (names := names) (ic := ic) hown' hcls hnames h (fun x hx => nomatch hx) hfX hkX hcellA (by rw [hhp, hT]; exact Nat.le_refl _) (msg := .ref sa) rfl
    (g := { method := m, pc := pc + 6, locals := ls, stack := .ref sa :: .ref T.heap.size :: .ref T.heap.size :: rest, locked := none }) rfl hsize rfl rfl (rest := rest) rfl
    (by rw [hb]; exact d6) (by rw [hb]; exact d9) hout hRframes (by simp only [List.map_cons, List.sum_cons, hcat]; omega) hlocks
  obtain ⟨f1, f2⟩ := vx_frame hsame
  rw [hhp] at f1 f2
  have hWs : s.WarmedH U.vm := State.WarmedH.trans hW0 hW
  have hcl : s.vm.findClass cls = some ce.cls := by
    have h9 := hO.cls
    rw [hvm] at h9
    exact h9
  have hall : s.sameButNew ({ U with vm := s.vm } : State) locs mc ms := by
    subst hA
    obtain ⟨e1, e2⟩ := hsame
    rw [State.setFrames_setFrames] at e1
    have h2 : (T.setVm s.vm).sameButNew ({ U with vm := s.vm } : State) [] (0 + 1) (0 + 6) := ⟨e1, e2⟩
    have h3 := X.same.trans h2
    rw [List.append_nil] at h3
    exact h3.mono hc hs
  refine ⟨U, ?_, .threw T.heap.size, hrun, hend, Or.inr ⟨T.heap.size, rfl, cls, ce, locs, hx U hWs.alike f1 (fun q hq => f2 q hq (fun z hz => nomatch hz)), hce, hO.vm, hcl, hWs, hall, hf⟩⟩
  refine st1 _ ?_
  show Steps p.tables e below (T1.setTop { method := m, pc := pc + 3, locals := ls, stack := .ref T.heap.size :: rest, locked := none }) _
  jvm_step X₁.here [X₁.here.top, hexec, d3', Value.category]
  exact X₁.ldcString hexec (own := own) (text := text) (index := is) (a := sa) hown' hstr'.1 hstr'.2
    (g := { method := m, pc := pc + 4, locals := ls, stack := .ref T.heap.size :: .ref T.heap.size :: rest, locked := none }) rfl d4' _ hsteps
/-- 'throw new E("text")', the text by a wide index -/
theorem vx_throwSW {cc : ByteArray} {pc : Nat} (hexec : p.tables.exec = Jvm.exec) (hb : c.code = cc) (hl : l.stackTraces = false) {own cls text : String} {names : List String} {ik is ic mc ms sa : Nat} {A : Nat → Prop}
    (hown : s.vm.findClass own = some m.cls) (hcls : Bundle.fit cls = true) (hnames : ∀ n ∈ names, Bundle.fit n = true)
    (hk : (Cond.classLink own ik cls).before args s = true) (hini : (Cond.initialized cls).before args s = true) (hstr : vk_R own is text sa s) (hat : ∀ w ∈ vx_atS own ic cls names, w.before args s = true)
    (hgood : ∀ w ∈ Cond.classLink own ik cls :: Cond.initialized cls :: vx_atS own ic cls names, vx_ot w = true)
    (hU : vx_Zq Bundle.tN "UNASSIGNED_STACK" Bundle.steD A s s.heap) (hN : vx_Zq Bundle.tN "SUPPRESSED_SENTINEL" Bundle.listD A s s.heap) (hS : va_S A s.heap H locs) (hsize : ls.size = c.maxLocals)
    (d0 : decode cc pc = .ok (.new ik, 3)) (d3 : decode cc (pc + 3) = .ok (.dup, 1)) (d4 : decode cc (pc + 4) = .ok (.ldc_w is, 3)) (d7 : decode cc (pc + 7) = .ok (.invokespecial ic, 3)) (d10 : decode cc (pc + 10) = .ok (.athrow, 1))
    (hout : ∀ x ∈ c.exceptionTable.toList, covers x (pc + 10) = false)
    (hRframes : names.length + 3 < R.frames) (hRlocals : (rest.map fun v => v.category).sum + (13 * (names.length + 1) + 43) ≤ R.locals) (hRcells : cells + 1 ≤ R.cells) (hRslots : slots + 6 ≤ R.slots) (hlocks : meth.locks = false)
    (hx : ∀ t : State, s.vm.Alike t.vm → H.size ≤ t.heap.size → (∀ q : Nat, q < H.size → t.heap[q]? = H[q]?) → XC cls s t)
    (hf : ∀ z ∈ locs, free z.base) (hc : cells + 1 ≤ mc) (hs : slots + 6 ≤ ms) :
    W p l e R s m args below meth c H locs cells slots (vx_MQ below Qc XC args s mc ms free) (F0 m pc ls rest) := by
  intro T hT X
  have htr : e.platform.stackTraces = false := (show e.platform.stackTraces = l.stackTraces by rw [X.admits.platform]).trans hl
  have Y := vx_rebase X (R' := { frames := R.frames, locals := R.locals, cells := 1, slots := 6 }) (Nat.le_refl _) (Nat.le_refl _) hRcells hRslots
  obtain ⟨s', hA⟩ : ∃ z, z = (T.setVm s.vm).setFrames (.invoking m args :: below) := ⟨_, rfl⟩
  rw [← hA] at Y
  have hvm : s'.vm = s.vm := by rw [hA]; rfl
  have hhp : s'.heap = H := by rw [hA]; exact hT
  have hW0 : s.WarmedH s'.vm := by rw [hvm]; exact State.WarmedH.refl s
  have hat' : ∀ w ∈ vx_atS own ic cls names, w.before args s' = true := fun w hw => vx_ot_at hW0 hvm.symm (hgood w (List.mem_cons_of_mem _ (List.mem_cons_of_mem _ hw))) (hat w hw)
  have hk' : (Cond.classLink own ik cls).before args s' = true := vx_ot_at hW0 hvm.symm (hgood _ List.mem_cons_self) hk
  have hini' : (Cond.initialized cls).before args s' = true := vx_ot_at hW0 hvm.symm (hgood _ (List.mem_cons_of_mem _ List.mem_cons_self)) hini
  have hU' : vx_Zq Bundle.tN "UNASSIGNED_STACK" Bundle.steD A s' s'.heap := by rw [hhp]; exact vx_Zq.moved hW0.alike (hU.kept hS.2.1)
  have hN' : vx_Zq Bundle.tN "SUPPRESSED_SENTINEL" Bundle.listD A s' s'.heap := by rw [hhp]; exact vx_Zq.moved hW0.alike (hN.kept hS.2.1)
  have h : ∀ w ∈ Bundle.ownAtoms own ic cls names, w.before args s' = true := vx_own hat' (vx_isRefq hU'.1) (vx_isRefq hN'.1) hU'.2.word hN'.2.word
  have hown' : s'.vm.findClass own = some m.cls := by rw [hvm]; exact hown
  have hins : (Cond.instantiable cls 6).before args s' = true := h _ (by simp [Bundle.ownAtoms])
  obtain ⟨vm₁, cX, kX, hfX, hkX, -, -, X₁, st1⟩ := Y.newCold hexec (own := own) (C := cls) (index := ik) (n := 6) hown' hk' hins hini'
    (g := F0 m pc ls rest) rfl (by rw [hb]; exact d0) (Nat.le_refl _) (Nat.le_refl _)
  generalize hT1 : (T.setVm vm₁).pushCell { cls := cX, slots := kX.instanceTypes.map defaultValue, vm := .none } = T1 at X₁ st1
  have hcat : (Value.ref T.heap.size).category = 1 := rfl
  have hcellA : T1.heap[T.heap.size]? = some (freshCell cX kX) := by rw [← hT1]; exact State.heap_pushCell_size _ _
  have d3' : decode c.code (pc + 3) = .ok (.dup, 1) := by rw [hb]; exact d3
  have d4' : decode c.code (pc + 4) = .ok (.ldc_w is, 3) := by rw [hb]; exact d4
  have hstr' : vk_R own is text sa s' := vk_R.warm hW0 hstr
  obtain ⟨U, hsteps, hrun, hend, hW, hsame, ce, hce, hO⟩ := X₁.ctorThrowS hexec htr (own := own) (cls := cls) (names := names) (ic := ic) hown' hcls hnames h (fun x hx => nomatch hx) hfX hkX hcellA (by rw [hhp, hT]; exact Nat.le_refl _) (msg := .ref sa) rfl
    (g := { method := m, pc := pc + 7, locals := ls, stack := .ref sa :: .ref T.heap.size :: .ref T.heap.size :: rest, locked := none }) rfl hsize rfl rfl (rest := rest) rfl
    (by rw [hb]; exact d7) (by rw [hb]; exact d10) hout hRframes (by simp only [List.map_cons, List.sum_cons, hcat]; omega) hlocks
  obtain ⟨f1, f2⟩ := vx_frame hsame
  rw [hhp] at f1 f2
  have hWs : s.WarmedH U.vm := State.WarmedH.trans hW0 hW
  have hcl : s.vm.findClass cls = some ce.cls := by
    have h9 := hO.cls
    rw [hvm] at h9
    exact h9
  have hall : s.sameButNew ({ U with vm := s.vm } : State) locs mc ms := by
    subst hA
    obtain ⟨e1, e2⟩ := hsame
    rw [State.setFrames_setFrames] at e1
    have h2 : (T.setVm s.vm).sameButNew ({ U with vm := s.vm } : State) [] (0 + 1) (0 + 6) := ⟨e1, e2⟩
    have h3 := X.same.trans h2
    rw [List.append_nil] at h3
    exact h3.mono hc hs
  refine ⟨U, ?_, .threw T.heap.size, hrun, hend, Or.inr ⟨T.heap.size, rfl, cls, ce, locs, hx U hWs.alike f1 (fun q hq => f2 q hq (fun z hz => nomatch hz)), hce, hO.vm, hcl, hWs, hall, hf⟩⟩
  refine st1 _ ?_
  show Steps p.tables e below (T1.setTop { method := m, pc := pc + 3, locals := ls, stack := .ref T.heap.size :: rest, locked := none }) _
  jvm_step X₁.here [X₁.here.top, hexec, d3', Value.category]
  exact X₁.ldcStringW hexec (own := own) (text := text) (index := is) (a := sa) hown' hstr'.1 hstr'.2
    (g := { method := m, pc := pc + 4, locals := ls, stack := .ref T.heap.size :: .ref T.heap.size :: rest, locked := none }) rfl d4' _ hsteps
end Ends
section Bodies
variable {l : Launch}
theorem vx_ofW {y : MethodName} {ws ws' : List Cond} {rm : Room} {Pc : Array Value → State → Prop} {Qc : Array Value → State → Outcome → State → Prop} {XC : String → State → State → Prop} {mc ms : Nat} {free : Addr → Prop} {cc : ByteArray} {maxL : Nat} {ret : Option FieldType}
    (hy : plainName y.cls = true) (hw : ws = Cond.code y cc maxL ret :: ws')
    (body : ∀ p e s m args below meth c s₁, BodyLoose p l y (headSpec ws rm) cc maxL ret e s m args below meth c s₁ → c.maxLocals = maxL → (∀ x ∈ c.exceptionTable.toList, False) → Pc args s →
      W p l e (headSpec ws rm).room s m args below meth c s.heap [] 0 0 (vx_MQ below Qc XC args s mc ms free) (entryFrame m args maxL)) : vx_Met l y ws rm Pc Qc XC mc ms free := by
  refine MetFree.of_bodyS (code := cc) (maxLocals := maxL) (ret := ret) hy ?_ ?_
  · intro args s m h hn
    obtain ⟨meth, c, h1, h2, h3, h4, h5, h6, -, -⟩ := Cond.code_spec hn (atoms_spec (ws := ws) h _ (by rw [hw]; exact List.mem_cons_self))
    exact ⟨meth, c, h1, h2, h3, h4, h5, h6⟩
  · intro p e s m args below meth c s₁ B hml hP _
    have hh0 : s₁.heap = s.heap := by rw [B.state]; rfl
    have ht : ∀ x ∈ c.exceptionTable.toList, False := by
      obtain ⟨meth9, c9, h1, h2, -, -, -, -, h7, -⟩ := Cond.code_spec B.named (atoms_spec (ws := ws) B.pre _ (by rw [hw]; exact List.mem_cons_self))
      cases Option.some.inj (h1.symm.trans B.method)
      cases Option.some.inj (h2.symm.trans (Stand.of_body B).code)
      intro x hx
      rw [Array.isEmpty_iff.mp h7] at hx
      cases hx
    obtain ⟨t, a1, o, b1, b2, b3⟩ := body p e s m args below meth c s₁ B hml ht hP s₁ hh0 (Stand.of_body B)
    exact ⟨t, o, a1, b1, b2, b3⟩
/-- the table of a body with handlers -/
theorem vx_table {p : Program} {x y : MethodName} {S : Spec} {cc bytes : ByteArray} {maxL maxL' : Nat} {ret ret' : Option FieldType} {e : Env} {s s₁ : State} {m : MethodId} {args : Array Value} {below : List Frame} {meth : Method} {c : Code} {hh : List (Nat × Nat × Nat × Nat)}
    (B : BodyLoose p l y S cc maxL ret e s m args below meth c s₁) (h : (Cond.codeWith y bytes maxL' ret' hh).before args s = true) : c.exceptionTable.toList = tableOf hh := by
  obtain ⟨m9, meth9, c9, hn9, h1, h2, -, -, h6, -⟩ := Cond.codeWith_spec h
  cases Option.some.inj (hn9.symm.trans B.named)
  cases Option.some.inj (h1.symm.trans B.method)
  cases Option.some.inj (h2.symm.trans (Stand.of_body B).code)
  rw [← h6, table_eq]
end Bodies
end VXA
/-! ===== END ===== -/
/-! ===== BEGIN a static call of a method with an exception table ===== -/
section VXS
variable {p : Program} {l : Launch} {e : Env} {R : Room} {s : State} {m : MethodId} {args : Array Value} {below : List Frame} {meth : Method} {c : Code} {T : State} {H : Heap} {locs : List Loc} {cells slots : Nat}
abbrev vx_CSW (R : Room) (s : State) (args : Array Value) (own : String) (index : Nat) (y : MethodName) (bytes : ByteArray) (maxL : Nat) (ret : Option FieldType) (hh : List (Nat × Nat × Nat × Nat)) (ws : List Cond) (rm : Room) (mc ms n : Nat) : Prop :=
  (rm.cells = mc ∧ rm.slots = ms ∧ rm.frames + 1 ≤ R.frames ∧ 8 + (maxL + 11) + rm.locals ≤ R.locals ∧ (∀ w ∈ ws, ∀ (a' : Array Value) (U : State), s.WarmedH U.vm → w.before a' U = true) ∧ Cond.codeWith y bytes maxL ret hh ∈ ws) ∧
  (Cond.codeWith y bytes maxL ret hh).before args s = true ∧ (Cond.initialized y.cls).before args s = true ∧ (y.cls ≠ "java/lang/invoke/MethodHandle" ∧ y.cls ≠ "java/lang/invoke/VarHandle") ∧
  (∀ sig, parseMethodDescriptor y.desc = some sig → n = sig.parameters.length) ∧ (Cond.methodLink own index y).before args s = true ∧ (Cond.static y).before args s = true
theorem vx_cwSW {own : String} {index maxL mc ms : Nat} {y : MethodName} {bytes : ByteArray} {ret : Option FieldType} {hh : List (Nat × Nat × Nat × Nat)} {Ts ws ws' : List Cond} {rm : Room} (n : Nat) (ht : ∀ w ∈ Ts, w.before args s = true) (hT : GoodIn Ts (va_wsS own index y ws)) (hw : ws = Cond.codeWith y bytes maxL ret hh :: ws') (hrc : rm.cells = mc) (hrs : rm.slots = ms)
    (hd : y.cls ≠ "java/lang/invoke/MethodHandle" ∧ y.cls ≠ "java/lang/invoke/VarHandle" ∧ (parseMethodDescriptor y.desc).map (fun d => d.parameters.length) = some n) (hR : rm.frames + 1 ≤ R.frames ∧ 8 + (maxL + 11) + rm.locals ≤ R.locals) :
    vx_CSW R s args own index y bytes maxL ret hh ws rm mc ms n := by
  have ok : ∀ w ∈ va_wsS own index y ws, w.before args s = true := fun w h => ht w (hT w h).1
  have hG : GoodIn Ts ws := fun w h => hT w (by unfold va_wsS; exact List.mem_append_right _ h)
  have hc : Cond.codeWith y bytes maxL ret hh ∈ ws := by rw [hw]; exact List.mem_cons_self
  refine ⟨⟨hrc, hrs, hR.1, hR.2, pay_in ht hG, hc⟩, ht _ (hG _ hc).1, ok _ (by simp [va_wsS]), ⟨hd.1, hd.2.1⟩, fun sig h => ?_, ok _ (by simp [va_wsS]), ok _ (by simp [va_wsS])⟩
  have h2 := hd.2.2
  rw [h] at h2
  exact (Option.some.inj h2).symm
theorem vx_callSW (X : Stand p l e R s m args below meth c T locs cells slots) (hexec : p.tables.exec = Jvm.exec) {own : String} {index : Nat} {y : MethodName} {bytes : ByteArray} {maxL : Nat} {ret : Option FieldType} {hh : List (Nat × Nat × Nat × Nat)}
    (hown : s.vm.findClass own = some m.cls) (hlink : (Cond.methodLink own index y).before args s = true) (hstat : (Cond.static y).before args s = true) (hinit : (Cond.initialized y.cls).before args s = true)
    (hcode : (Cond.codeWith y bytes maxL ret hh).before args s = true) (hy : y.cls ≠ "java/lang/invoke/MethodHandle" ∧ y.cls ≠ "java/lang/invoke/VarHandle")
    {W9 : Nat} {Pre : Pt → Array Value → Prop} {Post : Pt → Array Value → Option Value → Pt → Prop} (hK : Back l R p e below s args y 3 W9 Pre Post)
    {g : JFrame} (hg : g.method = m) (hsize : g.locals.size = c.maxLocals) {argsL rest : List Value} (hlen : ∀ sig, parseMethodDescriptor y.desc = some sig → argsL.length = sig.parameters.length)
    (hstack : g.stack = argsL.reverse ++ rest) (hW : 2 * g.monitorRoom + (rest.map fun v => v.category).sum ≤ W9) (hdg : decode c.code g.pc = .ok (.invokestatic index, 3))
    (hpre : ∀ vm₁, s.WarmedH vm₁ → Pre ⟨T.setVm vm₁, locs, cells, slots⟩ argsL.toArray) :
    ∃ (v : Option Value) (vm₁ : Vm) (B : Pt), s.WarmedH vm₁ ∧ Stand p l e R s m args below meth c B.U B.locs B.cells B.slots ∧ Post ⟨T.setVm vm₁, locs, cells, slots⟩ argsL.toArray v B ∧
      ∀ target, Steps p.tables e below (B.U.setTop { g with pc := g.pc + 3, stack := v.toList ++ rest }) target → Steps p.tables e below (T.setTop g) target := by
  obtain ⟨mk, methM, cM, hnamed, hmethM, -, -, -, -, -, -, hsigM⟩ := Cond.codeWith_spec hcode
  have hstatic : methM.isStatic = true := Cond.static_spec hnamed hmethM hstat
  obtain ⟨kP, hkP, -⟩ := className_of_methodNamed hnamed
  have hinitP : kP.init = .initialized := Cond.initialized_spec (findClass_of_methodNamed hnamed) hkP hinit
  obtain ⟨vm₁, X₁, hstep₁⟩ := X.invokestatic hexec hown hlink hnamed hmethM hstatic hkP hinitP hy (g := g) hg (argsL := argsL) (rest := rest) (hlen _ hsigM) hstack hdg
  obtain ⟨v, B, X', hpost, hsteps⟩ := hK m meth c ⟨T.setVm vm₁, locs, cells, slots⟩ { g with stack := rest } (.invokestatic index) mk argsL.toArray X₁ hg hsize hdg hW (X₁.named hnamed) (hpre vm₁ X₁.warmed)
  exact ⟨v, vm₁, B, X₁.warmed, X', hpost, fun target h => hstep₁ _ fun acts => by rw [doInvoke_state]; exact hsteps.trans h⟩
theorem vx_runSW {y : MethodName} {bytes cc : ByteArray} {maxL nL mc ms n index : Nat} {ret : Option FieldType} {hh : List (Nat × Nat × Nat × Nat)} {ws : List Cond} {rm : Room} {Pc : Array Value → State → Prop} {Qc : Array Value → State → Outcome → State → Prop} {free : Addr → Prop} {Ts : List Cond} {own : String} {As rest : List Value} {g : JFrame}
    (S : CallFix p m c cc nL s args Ts own) (hM : Met l y ws rm Pc Qc mc ms free) (cw : vx_CSW R s args own index y bytes maxL ret hh ws rm mc ms n) (hp : PreS s H Pc As)
    (hg : g.method = m) (hn : As.length = n) (hsize : g.locals.size = nL) (hstack : g.stack = As.reverse ++ rest) (hW : 2 * g.monitorRoom + (rest.map fun v => v.category).sum ≤ 8) (hdg : decode cc g.pc = .ok (.invokestatic index, 3)) (hf : cells + mc ≤ R.cells ∧ slots + ms ≤ R.slots) :
    va_Run p l e R s m args below meth c H locs cells slots mc ms g rest (Qc As.toArray) (free) := by
  obtain ⟨⟨hrc, hrs, hfr, hlo, hws, hcw⟩, hcode, hini, hy, hlen, hl, hstt⟩ := cw
  have hK : Back l R p e below s args y 3 8 (PreOf R mc ms Pc) (PostOf Qc mc ms free) := va_backW (hh := hh) (bytes := bytes) (maxL := maxL) (ret := ret) hM hp.1 hrc hrs hfr hlo hws hcw (fun a' U hW => word_at hW (Or.inl (by first | rfl | simp [Cond.onTables, Cond.keeps, Cond.steady])) hini)
  obtain ⟨hx, hb, hml, ho, -⟩ := S
  intro T hT X
  obtain ⟨v, vm₁, ⟨U', l2, c2, s2⟩, hW₁, X', ⟨g', mk, t, L, e1, e2, hq, h1, hL, h2, h3⟩, st⟩ := vx_callSW X hx (hh := hh) (bytes := bytes) (maxL := maxL) (ret := ret) ho hl hstt hini hcode hy hK hg (hsize.trans hml.symm) (argsL := As) (rest := rest) (fun sig h => hn.trans (hlen sig h)) hstack hW (by rw [hb]; exact hdg)
    (fun vm₁ hW₁ => ⟨hf.1, hf.2, hp.2 (T.setVm vm₁) hT hW₁⟩)
  dsimp only [Pt.U, Pt.locs, Pt.cells, Pt.slots] at X' e1 e2 h1 h2 h3 st
  subst h1; subst h2; subst h3
  exact ⟨v, (T.setVm vm₁).calling g' mk As.toArray, t, U', L, hT, X', hL, e1, e2, hq, st⟩
/-- not caught here, past rows that name other classes: it goes on to the caller -/
theorem vx_outP {p : Program} {l : Launch} {e : Env} {R : Room} {s : State} {m : MethodId} {args : Array Value} {below : List Frame} {meth : Method} {c : Code} {H : Heap} {locs : List Loc} {cells slots : Nat} {free : Addr → Prop} {ls : Array Slot} {rest : List Value} {Qc : Array Value → State → Outcome → State → Prop} {XC : String → State → State → Prop}
    {pc : Nat} {own E : String} {ce : Cell} {q : Addr} {mc ms : Nat} (hown : s.vm.findClass own = some m.cls) (hlocks : meth.locks = false)
    (hpass : ∀ z ∈ c.exceptionTable.toList, covers z pc = false ∨ (z.catchType ≠ 0 ∧ ∃ nm : String, (Cond.classLink own z.catchType nm).before args s = true ∧ va_Nc E nm s)) (hcell : H[q]? = some ce) (hv : ce.vm = .none) (hcl : s.vm.findClass E = some ce.cls)
    (hx : ∀ t : State, t.heap = H → s.vm.Alike t.vm → XC E s t) (hf : ∀ z ∈ locs, free z.base) (hc : cells ≤ mc) (hs : slots ≤ ms) :
    vx_W p l e R s m args below meth c H locs cells slots (vx_MQ below Qc XC args s mc ms free) (F0 m pc ls rest) q := by
  intro T hT X
  have hpl : e.platform.magicAccessors = ({} : Platform).magicAccessors := by rw [X.admits.platform]
  obtain ⟨vm', hW', X', st⟩ := X.outThrough hlocks q (g := F0 m pc ls rest) rfl rfl rfl (cell := ce) (by rw [hT]; exact hcell) (by rw [hv]; rfl)
    (by obtain ⟨k9, h9, -⟩ := Vm.findClass_spec hcl; exact ⟨k9, h9⟩) (fun z hz => by
      rcases hpass z hz with h | ⟨hz0, nm, hl1, hn1⟩
      · exact Or.inl h
      · obtain ⟨c6, hc6, hcl6⟩ := Cond.classLink_spec hown hl1 e.platform hpl
        obtain ⟨a8, b8, h1, h2, h3⟩ := hn1
        cases Option.some.inj (h1.symm.trans hcl)
        cases Option.some.inj (h2.symm.trans hc6)
        exact Or.inr ⟨hz0, _, hcl6, h3⟩)
  obtain ⟨g₀, hfr⟩ := X'.frames_eq
  have hcell9 : ((T.setVm vm').setFrames (.throwing q :: below)).heap[q]? = some ce := by
    show T.heap[q]? = some ce
    rw [hT]; exact hcell
  have hend : Ended ((T.setVm vm').setFrames (.throwing q :: below)) below (.threw q) := State.frames_setFrames _ (State.cur_lt_of_frames hfr)
  refine ⟨(T.setVm vm').setFrames (.throwing q :: below), ?_, .threw q, X'.here.running, hend, Or.inr ⟨q, rfl, E, ce, locs, hx _ hT (X'.ends _).1.alike, hcell9, hv, hcl, (X'.ends _).1, (X'.ends _).2.mono hc hs, hf⟩⟩
  rw [X.pushThrowing_eq]
  exact st
/-- a thing of a world lies in the heap -/
theorem vx_lt {D : va_G} {cl : List vw_C} {ws : va_W} {H1 : Heap} (h : va_P D cl ws H1) {k : Nat} {q : Nat × va_E} (hk : ws[k]? = some q) : q.1 < H1.size := (h k q hk).lt
end VXS
/-! ===== END ===== -/
/-! ===== BEGIN methods with a table of their own: called by a name, returning or throwing ===== -/
section VXH
/-! vx_backW, vx_callVX, vx_callSX, vx_callVW, vx_runVW, vx_runVX, vx_runSX, vx_ofWH follow the same proofs as their sisters above (Free/Laws.lean, Shelf42/LK1.lean); vx_outP calls Shelf42/NT130.lean (outThrough). -/
section
variable {l : Launch} {R : Room} {p : Program} {e : Env} {below : List Frame} {s : State} {sargs : Array Value} {y : MethodName} {len W9 : Nat}
theorem vx_backW {ws : List Cond} {rm : Room} {Pc : Array Value → State → Prop} {Qc : Array Value → State → Outcome → State → Prop} {XC : String → State → State → Prop} {mc ms : Nat} {free : Addr → Prop} {bytes : ByteArray} {maxL : Nat} {ret : Option FieldType} {hh : List (Nat × Nat × Nat × Nat)}
    (hM : vx_Met l y ws rm Pc Qc XC mc ms free) (hblind : FrameBlind Pc) (hrc : rm.cells = mc) (hrs : rm.slots = ms)
    (hframes : rm.frames + 1 ≤ R.frames) (hlocals : W9 + (maxL + 11) + rm.locals ≤ R.locals)
    (hws : ∀ w ∈ ws, ∀ a' U, s.WarmedH U.vm → w.before a' U = true) (hcode : Cond.codeWith y bytes maxL ret hh ∈ ws) (hinit : ∀ a' U, s.WarmedH U.vm → (Cond.initialized y.cls).before a' U = true) :
    vx_Back l R p e below s sargs y len W9 (PreOf R mc ms Pc) (PostOf Qc mc ms free) (vx_Post XC mc ms free) := by
  intro m meth c A g ig mk a X hg hsize hdg hW hn hp
  have h1 : (headSpec ws rm).pre.before a A.U = true := atoms_intro fun w hw => hws w hw _ _ X.warmed
  have h2 : (Cond.codeWith y bytes maxL ret hh).before a A.U = true := hws _ hcode _ _ X.warmed
  have h3 : (Cond.initialized y.cls).before a A.U = true := hinit _ _ X.warmed
  have h4 : A.cells + (headSpec ws rm).room.cells ≤ R.cells := by rw [show (headSpec ws rm).room.cells = mc from hrc]; exact hp.1
  have h5 : A.slots + (headSpec ws rm).room.slots ≤ R.slots := by rw [show (headSpec ws rm).room.slots = ms from hrs]; exact hp.2.1
  have hPc : Pc a (A.U.calling g mk a) := hblind _ _ _ _ hp.2.2
  obtain ⟨U, Ls, c0, s0⟩ := A
  dsimp only [Pt.U, Pt.locs, Pt.cells, Pt.slots] at h1 h2 h3 h4 h5 X hn hPc ⊢
  obtain ⟨m9, methY, cY, hn9, hmY, hcY, -, hlY, -⟩ := Cond.codeWith_spec h2
  cases Option.some.inj (hn9.symm.trans hn)
  obtain ⟨kY, hkY, -⟩ := className_of_methodNamed hn
  have hinitY : kY.init = .initialized := Cond.initialized_spec (findClass_of_methodNamed hn) hkY h3
  have h : At U g.method c below := by rw [hg]; exact X.here
  have hlocals9 : W9 + (maxL + 11) + (headSpec ws rm).room.locals ≤ R.locals := hlocals
  have happ : (headSpec ws rm).appliesLoose y e.platform (U.calling g mk a) = true :=
    Spec.appliesLoose_calling (g := g) h hdg hn hkY hinitY
      (X.room_calling (g := g) (R' := (headSpec ws rm).room) hsize hmY hcY hframes (by rw [hlY]; omega) h4 h5) h1
  obtain ⟨mid, hmid⟩ := h.above
  have hfr : (U.setTop g).frames = (.java g :: mid) ++ below := by rw [State.frames_setTop' g h.top, hmid]; rfl
  obtain ⟨o, s₂, hsteps, -, hend, hq⟩ := Steps.callFree hM p X.admits X.cas X.clock (acts := []) hfr happ hPc trivial
  have hq' : vx_Q Qc XC mc ms free a (U.calling g mk a) o s₂ := hq
  rw [State.frames_setTop' g h.top] at hend
  obtain ⟨g₀, hg0⟩ := Option.isSome_iff_exists.mp h.top
  obtain ⟨r, hr⟩ := State.topJava?_eq_some.mp hg0
  have hr' : (({ U with heap := s₂.heap, slotsUsed := s₂.slotsUsed } : State).setVm s₂.vm).frames = .java g₀ :: r := hr
  rcases hq' with ⟨hqc, L, hfe, hL⟩ | ⟨q, rfl, E, ce, L, hx, hce, hcv, hcl, hW₂, hsm, hL⟩
  · obtain ⟨⟨v, rfl⟩, hW₂, e2, q2, q3, q4, q5, q6⟩ := id hfe
    have e3 : s₂ = ({ (U.calling g mk a).setFrames s₂.frames with heap := s₂.heap, slotsUsed := s₂.slotsUsed } : State).setVm s₂.vm := by
      have : s₂ = ({ s₂ with vm := (U.calling g mk a).vm } : State).setVm s₂.vm := rfl
      rw [e2] at this
      exact this
    obtain ⟨c₂, i₂, len₂, hc₂, hd₂, hf₂⟩ := hend
    have hW' : U.WarmedH s₂.vm := hW₂
    have hcc : c₂ = c := by
      have h1 : s₂.code? g.method = U.code? g.method := by
        rw [State.code?_eq, State.code?_eq, hW'.alike.method?]
      exact Option.some.inj (hc₂.symm.trans (h1.trans h.code))
    subst hcc
    have hlen : len₂ = len := by rw [hdg] at hd₂; cases hd₂; rfl
    subst hlen
    have hs₂ : s₂ = (({ U with heap := s₂.heap, slotsUsed := s₂.slotsUsed } : State).setVm s₂.vm).setTop { g with pc := g.pc + len₂, stack := v.toList ++ g.stack } := by
      refine e3.trans ?_
      rw [hf₂, State.calling_eq h.top, State.setFrames_setFrames, State.setTop_of_frames _ hr', hr]
      rfl
    have hsame : U.sameButNew ({ U with heap := s₂.heap, slotsUsed := s₂.slotsUsed } : State) L mc ms := by
      refine ⟨?_, q2, q3, q4, q5, q6⟩
      obtain ⟨t, ht, -⟩ := State.frames_cons hr
      show ({ U with heap := s₂.heap, slotsUsed := s₂.slotsUsed } : State) = { U.setFrames U.frames with heap := s₂.heap, slotsUsed := s₂.slotsUsed }
      rw [State.setFrames_self ht]
    subst hg
    refine Or.inl ⟨v, ⟨(({ U with heap := s₂.heap, slotsUsed := s₂.slotsUsed } : State).setVm s₂.vm), Ls ++ L, c0 + mc, s0 + ms⟩,
      ⟨X.admits, X.cas, X.clock, X.frames, X.room, X.hears, X.method, X.code, (X.here.setHeapUsed s₂.heap s₂.slotsUsed).setVm hW'.alike, X.tail, State.WarmedH.trans X.warmed hW', X.limits, X.bytes, X.same.trans (hsame.setVm s.vm)⟩,
      ⟨g, mk, s₂, L, rfl, rfl, hqc, rfl, hL, rfl, rfl⟩, ?_⟩
    show Steps p.tables e below _ ((({ U with heap := s₂.heap, slotsUsed := s₂.slotsUsed } : State).setVm s₂.vm).setTop { g with pc := g.pc + len₂, stack := v.toList ++ g.stack })
    rw [← hs₂]
    exact hsteps
  · obtain ⟨e2, q2, q3, q4, q5, q6⟩ := id hsm
    have e3 : s₂ = ({ (U.calling g mk a).setFrames s₂.frames with heap := s₂.heap, slotsUsed := s₂.slotsUsed } : State).setVm s₂.vm := by
      have : s₂ = ({ s₂ with vm := (U.calling g mk a).vm } : State).setVm s₂.vm := rfl
      rw [e2] at this
      exact this
    have hf₂ : s₂.frames = .throwing q :: .java g :: U.frames.tail := hend
    have hW' : U.WarmedH s₂.vm := hW₂
    have hs₂ : s₂ = ((({ U with heap := s₂.heap, slotsUsed := s₂.slotsUsed } : State).setVm s₂.vm).setTop g).pushFrame (.throwing q) := by
      refine e3.trans ?_
      rw [hf₂, State.calling_eq h.top, State.setFrames_setFrames, State.pushFrame, State.frames_setTop _ hr', State.setTop_of_frames _ hr', State.setFrames_setFrames, hr]
      rfl
    have hsame : U.sameButNew ({ U with heap := s₂.heap, slotsUsed := s₂.slotsUsed } : State) L mc ms := by
      refine ⟨?_, q2, q3, q4, q5, q6⟩
      obtain ⟨t, ht, -⟩ := State.frames_cons hr
      show ({ U with heap := s₂.heap, slotsUsed := s₂.slotsUsed } : State) = { U.setFrames U.frames with heap := s₂.heap, slotsUsed := s₂.slotsUsed }
      rw [State.setFrames_self ht]
    subst hg
    refine Or.inr ⟨q, ⟨(({ U with heap := s₂.heap, slotsUsed := s₂.slotsUsed } : State).setVm s₂.vm), Ls ++ L, c0 + mc, s0 + ms⟩,
      ⟨X.admits, X.cas, X.clock, X.frames, X.room, X.hears, X.method, X.code, (X.here.setHeapUsed s₂.heap s₂.slotsUsed).setVm hW'.alike, X.tail, State.WarmedH.trans X.warmed hW', X.limits, X.bytes, X.same.trans (hsame.setVm s.vm)⟩,
      ⟨g, mk, s₂, L, E, ce, rfl, rfl, hx, hce, hcv, hcl, rfl, hL, rfl, rfl⟩, ?_⟩
    show Steps p.tables e below _ (((({ U with heap := s₂.heap, slotsUsed := s₂.slotsUsed } : State).setVm s₂.vm).setTop g).pushFrame (.throwing q))
    rw [← hs₂]
    exact hsteps
end
variable {p : Program} {l : Launch} {e : Env} {R : Room} {s : State} {m : MethodId} {args : Array Value} {below : List Frame} {meth : Method} {c : Code} {T : State} {H : Heap} {locs : List Loc} {cells slots : Nat}
theorem vx_callVX (X : Stand p l e R s m args below meth c T locs cells slots) (hexec : p.tables.exec = Jvm.exec) {own C : String} {index : Nat} {y : MethodName} {bytes : ByteArray} {maxL : Nat} {ret : Option FieldType} {hh : List (Nat × Nat × Nat × Nat)}
    (hown : s.vm.findClass own = some m.cls) (hlink : (Cond.methodLink own index y).before args s = true) (hinst : (Cond.instanceMethod y).before args s = true) (hsel : (Cond.selects C y y).before args s = true)
    (hcode : (Cond.codeWith y bytes maxL ret hh).before args s = true) (hy : y.cls ≠ "java/lang/invoke/MethodHandle" ∧ y.cls ≠ "java/lang/invoke/VarHandle")
    {W9 : Nat} {Pre : Pt → Array Value → Prop} {Post : Pt → Array Value → Option Value → Pt → Prop} {PostX : Pt → Array Value → Addr → Pt → Prop} (hK : vx_Back l R p e below s args y 3 W9 Pre Post PostX)
    {b : Addr} {cellB : Cell} (hcell : T.heap[b]? = some cellB) (hobj : cellB.vm.isStatics = false) (hcls : s.vm.findClass C = some cellB.cls)
    {g : JFrame} (hg : g.method = m) (hsize : g.locals.size = c.maxLocals) {argsL rest : List Value} (hlen : ∀ sig, parseMethodDescriptor y.desc = some sig → argsL.length = sig.parameters.length)
    (hstack : g.stack = argsL.reverse ++ .ref b :: rest) (hW : 2 * g.monitorRoom + (rest.map fun v => v.category).sum ≤ W9) (hdg : decode c.code g.pc = .ok (.invokevirtual index, 3))
    (hpre : ∀ vm₁, s.WarmedH vm₁ → Pre ⟨T.setVm vm₁, locs, cells, slots⟩ (Value.ref b :: argsL).toArray) :
    (∃ (v : Option Value) (vm₁ : Vm) (B : Pt), s.WarmedH vm₁ ∧ Stand p l e R s m args below meth c B.U B.locs B.cells B.slots ∧ Post ⟨T.setVm vm₁, locs, cells, slots⟩ (Value.ref b :: argsL).toArray v B ∧
      ∀ target, Steps p.tables e below (B.U.setTop { g with pc := g.pc + 3, stack := v.toList ++ rest }) target → Steps p.tables e below (T.setTop g) target) ∨
    (∃ (q : Addr) (vm₁ : Vm) (B : Pt), s.WarmedH vm₁ ∧ Stand p l e R s m args below meth c B.U B.locs B.cells B.slots ∧ PostX ⟨T.setVm vm₁, locs, cells, slots⟩ (Value.ref b :: argsL).toArray q B ∧
      Steps p.tables e below (T.setTop g) ((B.U.setTop { g with stack := rest }).pushFrame (.throwing q))) := by
  obtain ⟨mk, methM, hnamed, hmethM, hstM, habM⟩ := Cond.instanceMethod_spec hinst
  obtain ⟨m8, methM', cM, hn8, hmethM', -, -, -, -, -, -, hsigM⟩ := Cond.codeWith_spec hcode
  cases Option.some.inj (hn8.symm.trans hnamed)
  cases hmethM.symm.trans hmethM'
  obtain ⟨c2, r2, m2, q1, q2, q3, q4, kP, hkP, hkPi⟩ := Cond.selects_spec hsel
  cases hcls.symm.trans q1
  cases (State.methodFound?_of_named hnamed hy).symm.trans q2
  cases hnamed.symm.trans q3
  have hselP : selectMethod e.platform s.vm cellB.cls mk = .method mk := by rw [Launch.admits_selectMethod X.admits]; exact q4
  obtain ⟨vm₁, X₁, hstep₁⟩ := X.invokevirtual hexec hown hlink hnamed hmethM hstM hkP hkPi hy (a := b) (cell := cellB) hcell
    (fun z h => by rw [h] at hobj; cases hobj) hselP hmethM habM hkP hkPi (g := g) hg (argsL := argsL) (rest := rest) (hlen _ hsigM) hstack hdg
  rcases hK m meth c ⟨T.setVm vm₁, locs, cells, slots⟩ { g with stack := rest } (.invokevirtual index) mk (Value.ref b :: argsL).toArray X₁ hg hsize hdg hW (X₁.named hnamed) (hpre vm₁ X₁.warmed) with ⟨v, B, X', hpost, hsteps⟩ | ⟨q, B, X', hpost, hsteps⟩
  · exact Or.inl ⟨v, vm₁, B, X₁.warmed, X', hpost, fun target h => hstep₁ _ fun acts => by rw [doInvoke_state]; exact hsteps.trans h⟩
  · exact Or.inr ⟨q, vm₁, B, X₁.warmed, X', hpost, hstep₁ _ fun acts => by rw [doInvoke_state]; exact hsteps⟩
theorem vx_callSX (X : Stand p l e R s m args below meth c T locs cells slots) (hexec : p.tables.exec = Jvm.exec) {own : String} {index : Nat} {y : MethodName} {bytes : ByteArray} {maxL : Nat} {ret : Option FieldType} {hh : List (Nat × Nat × Nat × Nat)}
    (hown : s.vm.findClass own = some m.cls) (hlink : (Cond.methodLink own index y).before args s = true) (hstat : (Cond.static y).before args s = true) (hinit : (Cond.initialized y.cls).before args s = true)
    (hcode : (Cond.codeWith y bytes maxL ret hh).before args s = true) (hy : y.cls ≠ "java/lang/invoke/MethodHandle" ∧ y.cls ≠ "java/lang/invoke/VarHandle")
    {W9 : Nat} {Pre : Pt → Array Value → Prop} {Post : Pt → Array Value → Option Value → Pt → Prop} {PostX : Pt → Array Value → Addr → Pt → Prop} (hK : vx_Back l R p e below s args y 3 W9 Pre Post PostX)
    {g : JFrame} (hg : g.method = m) (hsize : g.locals.size = c.maxLocals) {argsL rest : List Value} (hlen : ∀ sig, parseMethodDescriptor y.desc = some sig → argsL.length = sig.parameters.length)
    (hstack : g.stack = argsL.reverse ++ rest) (hW : 2 * g.monitorRoom + (rest.map fun v => v.category).sum ≤ W9) (hdg : decode c.code g.pc = .ok (.invokestatic index, 3))
    (hpre : ∀ vm₁, s.WarmedH vm₁ → Pre ⟨T.setVm vm₁, locs, cells, slots⟩ argsL.toArray) :
    (∃ (v : Option Value) (vm₁ : Vm) (B : Pt), s.WarmedH vm₁ ∧ Stand p l e R s m args below meth c B.U B.locs B.cells B.slots ∧ Post ⟨T.setVm vm₁, locs, cells, slots⟩ argsL.toArray v B ∧
      ∀ target, Steps p.tables e below (B.U.setTop { g with pc := g.pc + 3, stack := v.toList ++ rest }) target → Steps p.tables e below (T.setTop g) target) ∨
    (∃ (q : Addr) (vm₁ : Vm) (B : Pt), s.WarmedH vm₁ ∧ Stand p l e R s m args below meth c B.U B.locs B.cells B.slots ∧ PostX ⟨T.setVm vm₁, locs, cells, slots⟩ argsL.toArray q B ∧
      Steps p.tables e below (T.setTop g) ((B.U.setTop { g with stack := rest }).pushFrame (.throwing q))) := by
  obtain ⟨mk, methM, cM, hnamed, hmethM, -, -, -, -, -, -, hsigM⟩ := Cond.codeWith_spec hcode
  have hstatic : methM.isStatic = true := Cond.static_spec hnamed hmethM hstat
  obtain ⟨kP, hkP, -⟩ := className_of_methodNamed hnamed
  have hinitP : kP.init = .initialized := Cond.initialized_spec (findClass_of_methodNamed hnamed) hkP hinit
  obtain ⟨vm₁, X₁, hstep₁⟩ := X.invokestatic hexec hown hlink hnamed hmethM hstatic hkP hinitP hy (g := g) hg (argsL := argsL) (rest := rest) (hlen _ hsigM) hstack hdg
  rcases hK m meth c ⟨T.setVm vm₁, locs, cells, slots⟩ { g with stack := rest } (.invokestatic index) mk argsL.toArray X₁ hg hsize hdg hW (X₁.named hnamed) (hpre vm₁ X₁.warmed) with ⟨v, B, X', hpost, hsteps⟩ | ⟨q, B, X', hpost, hsteps⟩
  · exact Or.inl ⟨v, vm₁, B, X₁.warmed, X', hpost, fun target h => hstep₁ _ fun acts => by rw [doInvoke_state]; exact hsteps.trans h⟩
  · exact Or.inr ⟨q, vm₁, B, X₁.warmed, X', hpost, hstep₁ _ fun acts => by rw [doInvoke_state]; exact hsteps⟩
theorem vx_callVW (X : Stand p l e R s m args below meth c T locs cells slots) (hexec : p.tables.exec = Jvm.exec) {own C : String} {index : Nat} {y : MethodName} {bytes : ByteArray} {maxL : Nat} {ret : Option FieldType} {hh : List (Nat × Nat × Nat × Nat)}
    (hown : s.vm.findClass own = some m.cls) (hlink : (Cond.methodLink own index y).before args s = true) (hinst : (Cond.instanceMethod y).before args s = true) (hsel : (Cond.selects C y y).before args s = true)
    (hcode : (Cond.codeWith y bytes maxL ret hh).before args s = true) (hy : y.cls ≠ "java/lang/invoke/MethodHandle" ∧ y.cls ≠ "java/lang/invoke/VarHandle")
    {W9 : Nat} {Pre : Pt → Array Value → Prop} {Post : Pt → Array Value → Option Value → Pt → Prop} (hK : Back l R p e below s args y 3 W9 Pre Post)
    {b : Addr} {cellB : Cell} (hcell : T.heap[b]? = some cellB) (hobj : cellB.vm.isStatics = false) (hcls : s.vm.findClass C = some cellB.cls)
    {g : JFrame} (hg : g.method = m) (hsize : g.locals.size = c.maxLocals) {argsL rest : List Value} (hlen : ∀ sig, parseMethodDescriptor y.desc = some sig → argsL.length = sig.parameters.length)
    (hstack : g.stack = argsL.reverse ++ .ref b :: rest) (hW : 2 * g.monitorRoom + (rest.map fun v => v.category).sum ≤ W9) (hdg : decode c.code g.pc = .ok (.invokevirtual index, 3))
    (hpre : ∀ vm₁, s.WarmedH vm₁ → Pre ⟨T.setVm vm₁, locs, cells, slots⟩ (Value.ref b :: argsL).toArray) :
    ∃ (v : Option Value) (vm₁ : Vm) (B : Pt), s.WarmedH vm₁ ∧ Stand p l e R s m args below meth c B.U B.locs B.cells B.slots ∧ Post ⟨T.setVm vm₁, locs, cells, slots⟩ (Value.ref b :: argsL).toArray v B ∧
      ∀ target, Steps p.tables e below (B.U.setTop { g with pc := g.pc + 3, stack := v.toList ++ rest }) target → Steps p.tables e below (T.setTop g) target := by
  obtain ⟨mk, methM, hnamed, hmethM, hstM, habM⟩ := Cond.instanceMethod_spec hinst
  obtain ⟨m8, methM', cM, hn8, hmethM', -, -, -, -, -, -, hsigM⟩ := Cond.codeWith_spec hcode
  cases Option.some.inj (hn8.symm.trans hnamed)
  cases hmethM.symm.trans hmethM'
  obtain ⟨c2, r2, m2, q1, q2, q3, q4, kP, hkP, hkPi⟩ := Cond.selects_spec hsel
  cases hcls.symm.trans q1
  cases (State.methodFound?_of_named hnamed hy).symm.trans q2
  cases hnamed.symm.trans q3
  have hselP : selectMethod e.platform s.vm cellB.cls mk = .method mk := by rw [Launch.admits_selectMethod X.admits]; exact q4
  obtain ⟨vm₁, X₁, hstep₁⟩ := X.invokevirtual hexec hown hlink hnamed hmethM hstM hkP hkPi hy (a := b) (cell := cellB) hcell
    (fun z h => by rw [h] at hobj; cases hobj) hselP hmethM habM hkP hkPi (g := g) hg (argsL := argsL) (rest := rest) (hlen _ hsigM) hstack hdg
  obtain ⟨v, B, X', hpost, hsteps⟩ := hK m meth c ⟨T.setVm vm₁, locs, cells, slots⟩ { g with stack := rest } (.invokevirtual index) mk (Value.ref b :: argsL).toArray X₁ hg hsize hdg hW (X₁.named hnamed) (hpre vm₁ X₁.warmed)
  exact ⟨v, vm₁, B, X₁.warmed, X', hpost, fun target h => hstep₁ _ fun acts => by rw [doInvoke_state]; exact hsteps.trans h⟩
abbrev vx_CVW (R : Room) (s : State) (args : Array Value) (own C : String) (index : Nat) (y : MethodName) (bytes : ByteArray) (maxL : Nat) (ret : Option FieldType) (hh : List (Nat × Nat × Nat × Nat)) (ws : List Cond) (rm : Room) (mc ms n : Nat) : Prop :=
  (rm.cells = mc ∧ rm.slots = ms ∧ rm.frames + 1 ≤ R.frames ∧ 8 + (maxL + 11) + rm.locals ≤ R.locals ∧ (∀ w ∈ ws, ∀ (a' : Array Value) (U : State), s.WarmedH U.vm → w.before a' U = true) ∧ Cond.codeWith y bytes maxL ret hh ∈ ws) ∧
  (Cond.codeWith y bytes maxL ret hh).before args s = true ∧ (Cond.initialized y.cls).before args s = true ∧ (y.cls ≠ "java/lang/invoke/MethodHandle" ∧ y.cls ≠ "java/lang/invoke/VarHandle") ∧
  (∀ sig, parseMethodDescriptor y.desc = some sig → n = sig.parameters.length) ∧ (Cond.methodLink own index y).before args s = true ∧ (Cond.instanceMethod y).before args s = true ∧ (Cond.selects C y y).before args s = true
theorem vx_cwVW {own C : String} {index maxL mc ms : Nat} {y : MethodName} {bytes : ByteArray} {ret : Option FieldType} {hh : List (Nat × Nat × Nat × Nat)} {Ts ws ws' : List Cond} {rm : Room} (n : Nat) (ht : ∀ w ∈ Ts, w.before args s = true) (hT : GoodIn Ts (wsV own index C y ws)) (hw : ws = Cond.codeWith y bytes maxL ret hh :: ws') (hrc : rm.cells = mc) (hrs : rm.slots = ms)
    (hd : y.cls = C ∧ y.cls ≠ "java/lang/invoke/MethodHandle" ∧ y.cls ≠ "java/lang/invoke/VarHandle" ∧ (parseMethodDescriptor y.desc).map (fun d => d.parameters.length) = some n) (hR : rm.frames + 1 ≤ R.frames ∧ 8 + (maxL + 11) + rm.locals ≤ R.locals) :
    vx_CVW R s args own C index y bytes maxL ret hh ws rm mc ms n := by
  obtain ⟨hC, hd⟩ := hd
  subst hC
  have ok : ∀ w ∈ wsV own index y.cls y ws, w.before args s = true := fun w h => ht w (hT w h).1
  have hG : GoodIn Ts ws := fun w h => hT w (by unfold wsV; exact List.mem_append_right _ h)
  have hc : Cond.codeWith y bytes maxL ret hh ∈ ws := by rw [hw]; exact List.mem_cons_self
  refine ⟨⟨hrc, hrs, hR.1, hR.2, pay_in ht hG, hc⟩, ht _ (hG _ hc).1, ok _ (by simp [wsV]), ⟨hd.1, hd.2.1⟩, fun sig h => ?_, ok _ (by simp [wsV]), ok _ (by simp [wsV]), ok _ (by simp [wsV])⟩
  have h2 := hd.2.2
  rw [h] at h2
  exact (Option.some.inj h2).symm
theorem vx_runVW {y : MethodName} {bytes cc : ByteArray} {maxL nL mc ms n index : Nat} {ret : Option FieldType} {hh : List (Nat × Nat × Nat × Nat)} {ws : List Cond} {rm : Room} {Pc : Array Value → State → Prop} {Qc : Array Value → State → Outcome → State → Prop} {free : Addr → Prop} {Ts : List Cond} {own C : String} {b : Addr} {As rest : List Value} {g : JFrame}
    (S : CallFix p m c cc nL s args Ts own) (hM : Met l y ws rm Pc Qc mc ms free) (cw : vx_CVW R s args own C index y bytes maxL ret hh ws rm mc ms n) (hp : PreV s H C b Pc As)
    (hg : g.method = m) (hn : As.length = n) (hsize : g.locals.size = nL) (hstack : g.stack = As.reverse ++ .ref b :: rest) (hW : 2 * g.monitorRoom + (rest.map fun v => v.category).sum ≤ 8) (hdg : decode cc g.pc = .ok (.invokevirtual index, 3)) (hf : cells + mc ≤ R.cells ∧ slots + ms ≤ R.slots) :
    va_Run p l e R s m args below meth c H locs cells slots mc ms g rest (Qc (Value.ref b :: As).toArray) free := by
  obtain ⟨⟨hrc, hrs, hfr, hlo, hws, hcw⟩, hcode, hini, hy, hlen, hl, hin, hse⟩ := cw
  have hK : Back l R p e below s args y 3 8 (PreOf R mc ms Pc) (PostOf Qc mc ms free) := va_backW (hh := hh) (bytes := bytes) (maxL := maxL) (ret := ret) hM hp.1 hrc hrs hfr hlo hws hcw (fun a' U hW => word_at hW (Or.inl (by first | rfl | simp [Cond.onTables, Cond.keeps, Cond.steady])) hini)
  obtain ⟨hx, hb, hml, ho, -⟩ := S
  obtain ⟨-, ⟨cellB, hcB, hoB, hclB⟩, hPc⟩ := hp
  intro T hT X
  obtain ⟨v, vm₁, ⟨U', l2, c2, s2⟩, hW₁, X', ⟨g', mk, t, L, e1, e2, hq, h1, hL, h2, h3⟩, st⟩ := vx_callVW X hx (C := C) (hh := hh) (bytes := bytes) (maxL := maxL) (ret := ret) ho hl hin hse hcode hy hK (by rw [hT]; exact hcB) hoB hclB hg (hsize.trans hml.symm) (argsL := As) (rest := rest) (fun sig h => hn.trans (hlen sig h)) hstack hW (by rw [hb]; exact hdg)
    (fun vm₁ hW₁ => ⟨hf.1, hf.2, hPc (T.setVm vm₁) hT hW₁⟩)
  dsimp only [Pt.U, Pt.locs, Pt.cells, Pt.slots] at X' e1 e2 h1 h2 h3 st
  subst h1; subst h2; subst h3
  exact ⟨v, (T.setVm vm₁).calling g' mk (Value.ref b :: As).toArray, t, U', L, hT, X', hL, e1, e2, hq, st⟩
section
variable {y : MethodName} {bytes cc : ByteArray} {maxL nL mc ms n index : Nat} {ret : Option FieldType} {ws : List Cond} {rm : Room} {Pc : Array Value → State → Prop} {Qc : Array Value → State → Outcome → State → Prop} {XC : String → State → State → Prop} {free : Addr → Prop} {Ts : List Cond} {own C : String} {b : Addr} {As rest : List Value} {g : JFrame}
theorem vx_runVX {hh : List (Nat × Nat × Nat × Nat)} (S : CallFix p m c cc nL s args Ts own) (hM : vx_Met l y ws rm Pc Qc XC mc ms free) (cw : vx_CVW R s args own C index y bytes maxL ret hh ws rm mc ms n) (hp : PreV s H C b Pc As)
    (hg : g.method = m) (hn : As.length = n) (hsize : g.locals.size = nL) (hstack : g.stack = As.reverse ++ .ref b :: rest) (hW : 2 * g.monitorRoom + (rest.map fun v => v.category).sum ≤ 8) (hdg : decode cc g.pc = .ok (.invokevirtual index, 3)) (hf : cells + mc ≤ R.cells ∧ slots + ms ≤ R.slots) :
    vx_Run p l e R s m args below meth c H locs cells slots mc ms g rest (Qc (Value.ref b :: As).toArray) XC free := by
  obtain ⟨⟨hrc, hrs, hfr, hlo, hws, hcw⟩, hcode, hini, hy, hlen, hl, hin, hse⟩ := cw
  have hK : vx_Back l R p e below s args y 3 8 (PreOf R mc ms Pc) (PostOf Qc mc ms free) (vx_Post XC mc ms free) := vx_backW (hh := hh) (bytes := bytes) (maxL := maxL) (ret := ret) hM hp.1 hrc hrs hfr hlo hws hcw (fun a' U hW => word_at hW (Or.inl (by first | rfl | simp [Cond.onTables, Cond.keeps, Cond.steady])) hini)
  obtain ⟨hx, hb, hml, ho, -⟩ := S
  obtain ⟨-, ⟨cellB, hcB, hoB, hclB⟩, hPc⟩ := hp
  intro T hT X
  rcases vx_callVX X hx (C := C) (hh := hh) (bytes := bytes) (maxL := maxL) (ret := ret) ho hl hin hse hcode hy hK (by rw [hT]; exact hcB) hoB hclB hg (hsize.trans hml.symm) (argsL := As) (rest := rest) (fun sig h => hn.trans (hlen sig h)) hstack hW (by rw [hb]; exact hdg)
    (fun vm₁ hW₁ => ⟨hf.1, hf.2, hPc (T.setVm vm₁) hT hW₁⟩) with ⟨v, vm₁, ⟨U', l2, c2, s2⟩, hW₁, X', ⟨g', mk, t, L, e1, e2, hq, h1, hL, h2, h3⟩, st⟩ | ⟨q, vm₁, ⟨U', l2, c2, s2⟩, hW₁, X', ⟨g', mk, t, L, E, ce, e1, e2, hq, hce, hcv, hcl, h1, hL, h2, h3⟩, st⟩
  · dsimp only [Pt.U, Pt.locs, Pt.cells, Pt.slots] at X' e1 e2 h1 h2 h3 st
    subst h1; subst h2; subst h3
    exact Or.inl ⟨v, (T.setVm vm₁).calling g' mk (Value.ref b :: As).toArray, t, U', L, hT, X', hL, e1, e2, hq, st⟩
  · dsimp only [Pt.U, Pt.locs, Pt.cells, Pt.slots] at X' e1 e2 h1 h2 h3 st hcl
    subst h1; subst h2; subst h3
    exact Or.inr ⟨q, (T.setVm vm₁).calling g' mk (Value.ref b :: As).toArray, t, U', L, E, ce, hT, X', hL, e1, e2, hq, hce, hcv, vx_cls hW₁ hcl, st⟩
theorem vx_runSX {hh : List (Nat × Nat × Nat × Nat)} (S : CallFix p m c cc nL s args Ts own) (hM : vx_Met l y ws rm Pc Qc XC mc ms free) (cw : vx_CSW R s args own index y bytes maxL ret hh ws rm mc ms n) (hp : PreS s H Pc As)
    (hg : g.method = m) (hn : As.length = n) (hsize : g.locals.size = nL) (hstack : g.stack = As.reverse ++ rest) (hW : 2 * g.monitorRoom + (rest.map fun v => v.category).sum ≤ 8) (hdg : decode cc g.pc = .ok (.invokestatic index, 3)) (hf : cells + mc ≤ R.cells ∧ slots + ms ≤ R.slots) :
    vx_Run p l e R s m args below meth c H locs cells slots mc ms g rest (Qc As.toArray) XC free := by
  obtain ⟨⟨hrc, hrs, hfr, hlo, hws, hcw⟩, hcode, hini, hy, hlen, hl, hstt⟩ := cw
  have hK : vx_Back l R p e below s args y 3 8 (PreOf R mc ms Pc) (PostOf Qc mc ms free) (vx_Post XC mc ms free) := vx_backW (hh := hh) (bytes := bytes) (maxL := maxL) (ret := ret) hM hp.1 hrc hrs hfr hlo hws hcw (fun a' U hW => word_at hW (Or.inl (by first | rfl | simp [Cond.onTables, Cond.keeps, Cond.steady])) hini)
  obtain ⟨hx, hb, hml, ho, -⟩ := S
  intro T hT X
  rcases vx_callSX X hx (hh := hh) (bytes := bytes) (maxL := maxL) (ret := ret) ho hl hstt hini hcode hy hK hg (hsize.trans hml.symm) (argsL := As) (rest := rest) (fun sig h => hn.trans (hlen sig h)) hstack hW (by rw [hb]; exact hdg)
    (fun vm₁ hW₁ => ⟨hf.1, hf.2, hp.2 (T.setVm vm₁) hT hW₁⟩) with ⟨v, vm₁, ⟨U', l2, c2, s2⟩, hW₁, X', ⟨g', mk, t, L, e1, e2, hq, h1, hL, h2, h3⟩, st⟩ | ⟨q, vm₁, ⟨U', l2, c2, s2⟩, hW₁, X', ⟨g', mk, t, L, E, ce, e1, e2, hq, hce, hcv, hcl, h1, hL, h2, h3⟩, st⟩
  · dsimp only [Pt.U, Pt.locs, Pt.cells, Pt.slots] at X' e1 e2 h1 h2 h3 st
    subst h1; subst h2; subst h3
    exact Or.inl ⟨v, (T.setVm vm₁).calling g' mk As.toArray, t, U', L, hT, X', hL, e1, e2, hq, st⟩
  · dsimp only [Pt.U, Pt.locs, Pt.cells, Pt.slots] at X' e1 e2 h1 h2 h3 st hcl
    subst h1; subst h2; subst h3
    exact Or.inr ⟨q, (T.setVm vm₁).calling g' mk As.toArray, t, U', L, E, ce, hT, X', hL, e1, e2, hq, hce, hcv, vx_cls hW₁ hcl, st⟩
end
end VXH
theorem vx_ofWH {l : Launch} {y : MethodName} {ws ws' : List Cond} {rm : Room} {Pc : Array Value → State → Prop} {Qc : Array Value → State → Outcome → State → Prop} {XC : String → State → State → Prop} {mc ms : Nat} {free : Addr → Prop} {cc : ByteArray} {maxL : Nat} {ret : Option FieldType} {hh : List (Nat × Nat × Nat × Nat)}
    (hy : plainName y.cls = true) (hw : ws = Cond.codeWith y cc maxL ret hh :: ws')
    (body : ∀ p e s m args below meth c s₁, BodyLoose p l y (headSpec ws rm) cc maxL ret e s m args below meth c s₁ → c.maxLocals = maxL → Pc args s →
      W p l e (headSpec ws rm).room s m args below meth c s.heap [] 0 0 (vx_MQ below Qc XC args s mc ms free) (entryFrame m args maxL)) : vx_Met l y ws rm Pc Qc XC mc ms free := by
  refine MetFree.of_bodyS (code := cc) (maxLocals := maxL) (ret := ret) hy ?_ ?_
  · intro args s m h hn
    obtain ⟨m9, meth, c, hn9, h1, h2, h3, h4, -, h5, h6, -⟩ := Cond.codeWith_spec (atoms_spec (ws := ws) h _ (by rw [hw]; exact List.mem_cons_self))
    cases hn.symm.trans hn9
    exact ⟨meth, c, h1, h2, h3, h4, h5, h6⟩
  · intro p e s m args below meth c s₁ B hml hP _
    have hh0 : s₁.heap = s.heap := by rw [B.state]; rfl
    obtain ⟨t, a1, o, b1, b2, b3⟩ := body p e s m args below meth c s₁ B hml hP s₁ hh0 (Stand.of_body B)
    exact ⟨t, o, a1, b1, b2, b3⟩
/-! ===== END ===== -/

/-! ===== BEGIN printed: names, fields, word lists, decode rows ===== -/
end
section
def RX0 : String := "SlantSlate$Drawing"
def TX0 : u_T := fun k => match k with
  | 0 => ("SlantSlate$Drawing", "kinds", "[I", true)
  | 1 => ("SlantSlate$Drawing", "heads", "[I", true)
  | 2 => ("SlantSlate$Drawing", "ways", "[I", true)
  | 3 => ("SlantSlate$Drawing", "levels", "[I", true)
  | 4 => ("SlantSlate$Drawing", "loads", "[I", true)
  | 5 => ("SlantSlate$Drawing", "turns", "[I", true)
  | 6 => ("SlantSlate$Drawing", "size", "I", false)
  | _ => ("SlantSlate$Drawing", "turn", "I", false)
def tyX0 : Nat → FieldType := fun k => match k with
  | 0 => .array .int
  | 1 => .array .int
  | 2 => .array .int
  | 3 => .array .int
  | 4 => .array .int
  | 5 => .array .int
  | 6 => .int
  | _ => .int
theorem nmX0 : ∀ a, a < 8 → ∀ b, b < 8 → a ≠ b → (TX0 a).2.1 ≠ (TX0 b).2.1 := by decide +kernel
theorem tyX0_ok : ∀ k, k < 8 → parseFieldDescriptor (TX0 k).2.2.1 = some (tyX0 k) := by decide +kernel
abbrev cX0_init : ByteArray := prog_2_method_1_code
def yX0_init : MethodName := ⟨RX0, "<init>", "()V"⟩
abbrev cX0_trace : ByteArray := prog_2_method_2_code
def yX0_trace : MethodName := ⟨RX0, "trace", "(LSlantSlate$State;J)V"⟩
abbrev cX0_property : ByteArray := prog_2_method_3_code
def yX0_property : MethodName := ⟨RX0, "property", "(II)I"⟩
abbrev cX0_wordAtTurn : ByteArray := prog_2_method_4_code
def yX0_wordAtTurn : MethodName := ⟨RX0, "wordAtTurn", "(I)I"⟩
abbrev cX0_height : ByteArray := prog_2_method_5_code
def yX0_height : MethodName := ⟨RX0, "height", "()I"⟩
abbrev cX0_wordsOfKind : ByteArray := prog_2_method_6_code
def yX0_wordsOfKind : MethodName := ⟨RX0, "wordsOfKind", "(I)I"⟩
abbrev cX0_wordsHeld : ByteArray := prog_2_method_7_code
def yX0_wordsHeld : MethodName := ⟨RX0, "wordsHeld", "(I)I"⟩
abbrev cX0_greatestLoad : ByteArray := prog_2_method_8_code
def yX0_greatestLoad : MethodName := ⟨RX0, "greatestLoad", "()I"⟩
abbrev cX0_isWord : ByteArray := prog_2_method_9_code
def yX0_isWord : MethodName := ⟨RX0, "isWord", "(I)Z"⟩
abbrev cX0_wayOf : ByteArray := prog_2_method_10_code
def yX0_wayOf : MethodName := ⟨RX0, "wayOf", "(IIII)I"⟩
abbrev cX0_levelOf : ByteArray := prog_2_method_11_code
def yX0_levelOf : MethodName := ⟨RX0, "levelOf", "(I)I"⟩
abbrev cX0_riseOf : ByteArray := prog_2_method_12_code
def yX0_riseOf : MethodName := ⟨RX0, "riseOf", "(II)I"⟩
abbrev cX0_readAlong : ByteArray := prog_2_method_13_code
def yX0_readAlong : MethodName := ⟨RX0, "readAlong", "(II)V"⟩
def RX1 : String := "SlantSlate$Grid"
def TX1 : u_T := fun k => match k with
  | _ => ("SlantSlate$Grid", "cells", "[I", true)
def tyX1 : Nat → FieldType := fun k => match k with
  | _ => .array .int
theorem nmX1 : ∀ a, a < 1 → ∀ b, b < 1 → a ≠ b → (TX1 a).2.1 ≠ (TX1 b).2.1 := by decide +kernel
theorem tyX1_ok : ∀ k, k < 1 → parseFieldDescriptor (TX1 k).2.2.1 = some (tyX1 k) := by decide +kernel
abbrev cX1_init : ByteArray := prog_3_method_1_code
def yX1_init : MethodName := ⟨RX1, "<init>", "()V"⟩
abbrev cX1_at : ByteArray := prog_3_method_2_code
def yX1_at : MethodName := ⟨RX1, "at", "(II)I"⟩
abbrev cX1_atOrEmpty : ByteArray := prog_3_method_3_code
def yX1_atOrEmpty : MethodName := ⟨RX1, "atOrEmpty", "(II)I"⟩
abbrev cX1_put : ByteArray := prog_3_method_4_code
def yX1_put : MethodName := ⟨RX1, "put", "(III)V"⟩
def RX2 : String := "SlantSlate$Parts"
def TX2 : u_T := fun k => match k with
  | 0 => ("SlantSlate$Parts", "names", "LSlantSlate$Grid;", true)
  | 1 => ("SlantSlate$Parts", "groups", "LSlantSlate$Grid;", true)
  | 2 => ("SlantSlate$Parts", "phrases", "LSlantSlate$Grid;", true)
  | 3 => ("SlantSlate$Parts", "clauses", "LSlantSlate$Grid;", true)
  | 4 => ("SlantSlate$Parts", "hangings", "LSlantSlate$Grid;", true)
  | 5 => ("SlantSlate$Parts", "phraseRows", "LSlantSlate$Grid;", true)
  | _ => ("SlantSlate$Parts", "verbTails", "LSlantSlate$Grid;", true)
def tyX2 : Nat → FieldType := fun k => match k with
  | 0 => .object "SlantSlate$Grid"
  | 1 => .object "SlantSlate$Grid"
  | 2 => .object "SlantSlate$Grid"
  | 3 => .object "SlantSlate$Grid"
  | 4 => .object "SlantSlate$Grid"
  | 5 => .object "SlantSlate$Grid"
  | _ => .object "SlantSlate$Grid"
theorem nmX2 : ∀ a, a < 7 → ∀ b, b < 7 → a ≠ b → (TX2 a).2.1 ≠ (TX2 b).2.1 := by decide +kernel
theorem tyX2_ok : ∀ k, k < 7 → parseFieldDescriptor (TX2 k).2.2.1 = some (tyX2 k) := by decide +kernel
abbrev cX2_init : ByteArray := prog_4_method_1_code
def yX2_init : MethodName := ⟨RX2, "<init>", "()V"⟩
abbrev cX2_ways : ByteArray := prog_4_method_2_code
def yX2_ways : MethodName := ⟨RX2, "ways", "(III)I"⟩
abbrev cX2_tell : ByteArray := prog_4_method_3_code
def yX2_tell : MethodName := ⟨RX2, "tell", "(LSlantSlate$State;)V"⟩
abbrev cX2_nameWays : ByteArray := prog_4_method_4_code
def yX2_nameWays : MethodName := ⟨RX2, "nameWays", "(LSlantSlate$State;II)I"⟩
abbrev cX2_groupWays : ByteArray := prog_4_method_5_code
def yX2_groupWays : MethodName := ⟨RX2, "groupWays", "(LSlantSlate$State;II)I"⟩
abbrev cX2_phraseRowWays : ByteArray := prog_4_method_6_code
def yX2_phraseRowWays : MethodName := ⟨RX2, "phraseRowWays", "(II)I"⟩
abbrev cX2_hangingWays : ByteArray := prog_4_method_7_code
def yX2_hangingWays : MethodName := ⟨RX2, "hangingWays", "(LSlantSlate$State;II)I"⟩
abbrev cX2_clauseWays : ByteArray := prog_4_method_8_code
def yX2_clauseWays : MethodName := ⟨RX2, "clauseWays", "(LSlantSlate$State;II)I"⟩
abbrev cX2_verbTailWays : ByteArray := prog_4_method_9_code
def yX2_verbTailWays : MethodName := ⟨RX2, "verbTailWays", "(LSlantSlate$State;II)I"⟩
def RX3 : String := "SlantSlate$Readings"
def TX3 : u_T := fun k => match k with
  | 0 => ("SlantSlate$Readings", "codes", "[J", true)
  | 1 => ("SlantSlate$Readings", "total", "I", false)
  | 2 => ("SlantSlate$Readings", "kinds", "[I", true)
  | 3 => ("SlantSlate$Readings", "heads", "[I", true)
  | _ => ("SlantSlate$Readings", "size", "I", false)
def tyX3 : Nat → FieldType := fun k => match k with
  | 0 => .array .long
  | 1 => .int
  | 2 => .array .int
  | 3 => .array .int
  | _ => .int
theorem nmX3 : ∀ a, a < 5 → ∀ b, b < 5 → a ≠ b → (TX3 a).2.1 ≠ (TX3 b).2.1 := by decide +kernel
theorem tyX3_ok : ∀ k, k < 5 → parseFieldDescriptor (TX3 k).2.2.1 = some (tyX3 k) := by decide +kernel
abbrev cX3_init : ByteArray := prog_5_method_1_code
def yX3_init : MethodName := ⟨RX3, "<init>", "()V"⟩
abbrev cX3_total : ByteArray := prog_5_method_2_code
def yX3_total : MethodName := ⟨RX3, "total", "()I"⟩
abbrev cX3_codeAt : ByteArray := prog_5_method_3_code
def yX3_codeAt : MethodName := ⟨RX3, "codeAt", "(I)J"⟩
abbrev cX3_headIn : ByteArray := prog_5_method_4_code
def yX3_headIn : MethodName := ⟨RX3, "headIn", "(JI)I"⟩
abbrev cX3_tell : ByteArray := prog_5_method_5_code
def yX3_tell : MethodName := ⟨RX3, "tell", "(LSlantSlate$State;)V"⟩
abbrev cX3_kindAt : ByteArray := prog_5_method_6_code
def yX3_kindAt : MethodName := ⟨RX3, "kindAt", "(I)I"⟩
abbrev cX3_headAt : ByteArray := prog_5_method_7_code
def yX3_headAt : MethodName := ⟨RX3, "headAt", "(I)I"⟩
abbrev cX3_setHead : ByteArray := prog_5_method_8_code
def yX3_setHead : MethodName := ⟨RX3, "setHead", "(II)V"⟩
abbrev cX3_setForcedHeads : ByteArray := prog_5_method_9_code
def yX3_setForcedHeads : MethodName := ⟨RX3, "setForcedHeads", "()Z"⟩
abbrev cX3_hangNoun : ByteArray := prog_5_method_10_code
def yX3_hangNoun : MethodName := ⟨RX3, "hangNoun", "(I)Z"⟩
abbrev cX3_followersOf : ByteArray := prog_5_method_11_code
def yX3_followersOf : MethodName := ⟨RX3, "followersOf", "(I)I"⟩
abbrev cX3_inMask : ByteArray := prog_5_method_12_code
def yX3_inMask : MethodName := ⟨RX3, "inMask", "(II)Z"⟩
abbrev cX3_hangFrom : ByteArray := prog_5_method_13_code
def yX3_hangFrom : MethodName := ⟨RX3, "hangFrom", "(I)V"⟩
abbrev cX3_openBehind : ByteArray := prog_5_method_14_code
def yX3_openBehind : MethodName := ⟨RX3, "openBehind", "(I)I"⟩
abbrev cX3_canHold : ByteArray := prog_5_method_15_code
def yX3_canHold : MethodName := ⟨RX3, "canHold", "(II)Z"⟩
abbrev cX3_isJoined : ByteArray := prog_5_method_16_code
def yX3_isJoined : MethodName := ⟨RX3, "isJoined", "(II)Z"⟩
abbrev cX3_pushReading : ByteArray := prog_5_method_17_code
def yX3_pushReading : MethodName := ⟨RX3, "pushReading", "()V"⟩
def RX4 : String := "SlantSlate$State"
def TX4 : u_T := fun k => match k with
  | 0 => ("SlantSlate$State", "kinds", "[I", true)
  | 1 => ("SlantSlate$State", "fixed", "[I", true)
  | 2 => ("SlantSlate$State", "size", "I", false)
  | _ => ("SlantSlate$State", "drawn", "I", false)
def tyX4 : Nat → FieldType := fun k => match k with
  | 0 => .array .int
  | 1 => .array .int
  | 2 => .int
  | _ => .int
theorem nmX4 : ∀ a, a < 4 → ∀ b, b < 4 → a ≠ b → (TX4 a).2.1 ≠ (TX4 b).2.1 := by decide +kernel
theorem tyX4_ok : ∀ k, k < 4 → parseFieldDescriptor (TX4 k).2.2.1 = some (tyX4 k) := by decide +kernel
abbrev cX4_init : ByteArray := prog_6_method_1_code
def yX4_init : MethodName := ⟨RX4, "<init>", "()V"⟩
abbrev cX4_take : ByteArray := prog_6_method_2_code
def yX4_take : MethodName := ⟨RX4, "take", "(LSlantSlate$State;)V"⟩
abbrev cX4_size : ByteArray := prog_6_method_3_code
def yX4_size : MethodName := ⟨RX4, "size", "()I"⟩
abbrev cX4_has : ByteArray := prog_6_method_4_code
def yX4_has : MethodName := ⟨RX4, "has", "(I)Z"⟩
abbrev cX4_kindAt : ByteArray := prog_6_method_5_code
def yX4_kindAt : MethodName := ⟨RX4, "kindAt", "(I)I"⟩
abbrev cX4_fixedAt : ByteArray := prog_6_method_6_code
def yX4_fixedAt : MethodName := ⟨RX4, "fixedAt", "(I)I"⟩
abbrev cX4_drawn : ByteArray := prog_6_method_7_code
def yX4_drawn : MethodName := ⟨RX4, "drawn", "()I"⟩
abbrev cX4_fixedWords : ByteArray := prog_6_method_8_code
def yX4_fixedWords : MethodName := ⟨RX4, "fixedWords", "()I"⟩
abbrev cX4_clearWords : ByteArray := prog_6_method_9_code
def yX4_clearWords : MethodName := ⟨RX4, "clearWords", "()V"⟩
abbrev cX4_pushWord : ByteArray := prog_6_method_10_code
def yX4_pushWord : MethodName := ⟨RX4, "pushWord", "(I)V"⟩
abbrev cX4_dropWord : ByteArray := prog_6_method_11_code
def yX4_dropWord : MethodName := ⟨RX4, "dropWord", "(I)V"⟩
abbrev cX4_setKind : ByteArray := prog_6_method_12_code
def yX4_setKind : MethodName := ⟨RX4, "setKind", "(II)V"⟩
abbrev cX4_setFixed : ByteArray := prog_6_method_13_code
def yX4_setFixed : MethodName := ⟨RX4, "setFixed", "(II)V"⟩
abbrev cX4_loosenAll : ByteArray := prog_6_method_14_code
def yX4_loosenAll : MethodName := ⟨RX4, "loosenAll", "()V"⟩
abbrev cX4_setDrawn : ByteArray := prog_6_method_15_code
def yX4_setDrawn : MethodName := ⟨RX4, "setDrawn", "(I)V"⟩
def RX5 : String := "SlantSlate$States"
def TX5 : u_T := fun k => match k with
  | _ => ("SlantSlate$States", "row", "Ljava/util/ArrayList;", true)
def tyX5 : Nat → FieldType := fun k => match k with
  | _ => .object "java/util/ArrayList"
theorem nmX5 : ∀ a, a < 1 → ∀ b, b < 1 → a ≠ b → (TX5 a).2.1 ≠ (TX5 b).2.1 := by decide +kernel
theorem tyX5_ok : ∀ k, k < 1 → parseFieldDescriptor (TX5 k).2.2.1 = some (tyX5 k) := by decide +kernel
abbrev cX5_init : ByteArray := prog_7_method_1_code
def yX5_init : MethodName := ⟨RX5, "<init>", "(I)V"⟩
abbrev cX5_put : ByteArray := prog_7_method_2_code
def yX5_put : MethodName := ⟨RX5, "put", "(ILSlantSlate$State;)V"⟩
abbrev cX5_copyTo : ByteArray := prog_7_method_3_code
def yX5_copyTo : MethodName := ⟨RX5, "copyTo", "(ILSlantSlate$State;)V"⟩
abbrev cX5_turnFirst : ByteArray := prog_7_method_4_code
def yX5_turnFirst : MethodName := ⟨RX5, "turnFirst", "()V"⟩
def RX6 : String := "SlantSlate"
def TX6 : u_T := fun k => match k with
  | 0 => ("SlantSlate", "state", "LSlantSlate$State;", true)
  | 1 => ("SlantSlate", "readings", "LSlantSlate$Readings;", true)
  | 2 => ("SlantSlate", "parts", "LSlantSlate$Parts;", true)
  | 3 => ("SlantSlate", "left", "[I", true)
  | 4 => ("SlantSlate", "leftCount", "I", false)
  | 5 => ("SlantSlate", "drawn", "LSlantSlate$Drawing;", true)
  | 6 => ("SlantSlate", "other", "LSlantSlate$Drawing;", true)
  | 7 => ("SlantSlate", "trial", "LSlantSlate$State;", true)
  | 8 => ("SlantSlate", "trialReadings", "LSlantSlate$Readings;", true)
  | 9 => ("SlantSlate", "saved", "LSlantSlate$States;", true)
  | 10 => ("SlantSlate", "savedCount", "I", false)
  | 11 => ("SlantSlate", "slots", "LSlantSlate$States;", true)
  | 12 => ("SlantSlate", "slotFilled", "[Z", true)
  | 13 => ("SlantSlate", "buffer", "[I", true)
  | _ => ("SlantSlate", "bufferLength", "I", false)
def tyX6 : Nat → FieldType := fun k => match k with
  | 0 => .object "SlantSlate$State"
  | 1 => .object "SlantSlate$Readings"
  | 2 => .object "SlantSlate$Parts"
  | 3 => .array .int
  | 4 => .int
  | 5 => .object "SlantSlate$Drawing"
  | 6 => .object "SlantSlate$Drawing"
  | 7 => .object "SlantSlate$State"
  | 8 => .object "SlantSlate$Readings"
  | 9 => .object "SlantSlate$States"
  | 10 => .int
  | 11 => .object "SlantSlate$States"
  | 12 => .array .boolean
  | 13 => .array .int
  | _ => .int
theorem nmX6 : ∀ a, a < 15 → ∀ b, b < 15 → a ≠ b → (TX6 a).2.1 ≠ (TX6 b).2.1 := by decide +kernel
theorem tyX6_ok : ∀ k, k < 15 → parseFieldDescriptor (TX6 k).2.2.1 = some (tyX6 k) := by decide +kernel
abbrev cX6_init : ByteArray := prog_1_method_1_code
def yX6_init : MethodName := ⟨RX6, "<init>", "()V"⟩
abbrev cX6_add : ByteArray := prog_1_method_2_code
def yX6_add : MethodName := ⟨RX6, "add", "(I)I"⟩
abbrev cX6_change : ByteArray := prog_1_method_3_code
def yX6_change : MethodName := ⟨RX6, "change", "(II)I"⟩
abbrev cX6_wipe : ByteArray := prog_1_method_4_code
def yX6_wipe : MethodName := ⟨RX6, "wipe", "(I)I"⟩
abbrev cX6_fix : ByteArray := prog_1_method_5_code
def yX6_fix : MethodName := ⟨RX6, "fix", "(II)I"⟩
abbrev cX6_loosen : ByteArray := prog_1_method_6_code
def yX6_loosen : MethodName := ⟨RX6, "loosen", "(I)I"⟩
abbrev cX6_draw : ByteArray := prog_1_method_7_code
def yX6_draw : MethodName := ⟨RX6, "draw", "(I)I"⟩
abbrev cX6_flatten : ByteArray := prog_1_method_8_code
def yX6_flatten : MethodName := ⟨RX6, "flatten", "()I"⟩
abbrev cX6_append : ByteArray := prog_1_method_9_code
def yX6_append : MethodName := ⟨RX6, "append", "(I)I"⟩
abbrev cX6_clearBuffer : ByteArray := prog_1_method_10_code
def yX6_clearBuffer : MethodName := ⟨RX6, "clearBuffer", "()I"⟩
abbrev cX6_firstError : ByteArray := prog_1_method_11_code
def yX6_firstError : MethodName := ⟨RX6, "firstError", "()I"⟩
abbrev cX6_load : ByteArray := prog_1_method_12_code
def yX6_load : MethodName := ⟨RX6, "load", "()I"⟩
abbrev cX6_write : ByteArray := prog_1_method_13_code
def yX6_write : MethodName := ⟨RX6, "write", "()I"⟩
abbrev cX6_keep : ByteArray := prog_1_method_14_code
def yX6_keep : MethodName := ⟨RX6, "keep", "(I)I"⟩
abbrev cX6_goBack : ByteArray := prog_1_method_15_code
def yX6_goBack : MethodName := ⟨RX6, "goBack", "(I)I"⟩
abbrev cX6_undo : ByteArray := prog_1_method_16_code
def yX6_undo : MethodName := ⟨RX6, "undo", "()I"⟩
abbrev cX6_wordOf : ByteArray := prog_1_method_17_code
def yX6_wordOf : MethodName := ⟨RX6, "wordOf", "(II)I"⟩
abbrev cX6_readingOf : ByteArray := prog_1_method_18_code
def yX6_readingOf : MethodName := ⟨RX6, "readingOf", "(II)I"⟩
abbrev cX6_count : ByteArray := prog_1_method_19_code
def yX6_count : MethodName := ⟨RX6, "count", "(I)I"⟩
abbrev cX6_part : ByteArray := prog_1_method_20_code
def yX6_part : MethodName := ⟨RX6, "part", "(III)I"⟩
abbrev cX6_ifFixed : ByteArray := prog_1_method_21_code
def yX6_ifFixed : MethodName := ⟨RX6, "ifFixed", "(II)I"⟩
abbrev cX6_question : ByteArray := prog_1_method_22_code
def yX6_question : MethodName := ⟨RX6, "question", "()I"⟩
abbrev cX6_next : ByteArray := prog_1_method_23_code
def yX6_next : MethodName := ⟨RX6, "next", "()I"⟩
abbrev cX6_sureShare : ByteArray := prog_1_method_24_code
def yX6_sureShare : MethodName := ⟨RX6, "sureShare", "()D"⟩
abbrev cX6_digest : ByteArray := prog_1_method_25_code
def yX6_digest : MethodName := ⟨RX6, "digest", "()J"⟩
abbrev cX6_needKind : ByteArray := prog_1_method_26_code
def yX6_needKind : MethodName := ⟨RX6, "needKind", "(I)V"⟩
abbrev cX6_needWord : ByteArray := prog_1_method_27_code
def yX6_needWord : MethodName := ⟨RX6, "needWord", "(I)V"⟩
abbrev cX6_needHead : ByteArray := prog_1_method_28_code
def yX6_needHead : MethodName := ⟨RX6, "needHead", "(II)V"⟩
abbrev cX6_needReading : ByteArray := prog_1_method_29_code
def yX6_needReading : MethodName := ⟨RX6, "needReading", "(I)V"⟩
abbrev cX6_needSlot : ByteArray := prog_1_method_30_code
def yX6_needSlot : MethodName := ⟨RX6, "needSlot", "(I)V"⟩
abbrev cX6_needAsked : ByteArray := prog_1_method_31_code
def yX6_needAsked : MethodName := ⟨RX6, "needAsked", "(II)V"⟩
abbrev cX6_saveState : ByteArray := prog_1_method_32_code
def yX6_saveState : MethodName := ⟨RX6, "saveState", "()V"⟩
abbrev cX6_beginSentence : ByteArray := prog_1_method_33_code
def yX6_beginSentence : MethodName := ⟨RX6, "beginSentence", "()I"⟩
abbrev cX6_beginHeads : ByteArray := prog_1_method_34_code
def yX6_beginHeads : MethodName := ⟨RX6, "beginHeads", "()I"⟩
abbrev cX6_tellReadings : ByteArray := prog_1_method_35_code
def yX6_tellReadings : MethodName := ⟨RX6, "tellReadings", "()V"⟩
abbrev cX6_tellLeft : ByteArray := prog_1_method_36_code
def yX6_tellLeft : MethodName := ⟨RX6, "tellLeft", "()V"⟩
abbrev cX6_drawAgain : ByteArray := prog_1_method_37_code
def yX6_drawAgain : MethodName := ⟨RX6, "drawAgain", "()V"⟩
abbrev cX6_fits : ByteArray := prog_1_method_38_code
def yX6_fits : MethodName := ⟨RX6, "fits", "(JI)Z"⟩
abbrev cX6_rankAmongAll : ByteArray := prog_1_method_39_code
def yX6_rankAmongAll : MethodName := ⟨RX6, "rankAmongAll", "(I)I"⟩
abbrev cX6_leftCode : ByteArray := prog_1_method_40_code
def yX6_leftCode : MethodName := ⟨RX6, "leftCode", "(I)J"⟩
abbrev cX6_flattestRank : ByteArray := prog_1_method_41_code
def yX6_flattestRank : MethodName := ⟨RX6, "flattestRank", "()I"⟩
abbrev cX6_pushCode : ByteArray := prog_1_method_42_code
def yX6_pushCode : MethodName := ⟨RX6, "pushCode", "(I)V"⟩
abbrev cX6_codeAt : ByteArray := prog_1_method_43_code
def yX6_codeAt : MethodName := ⟨RX6, "codeAt", "(I)I"⟩
abbrev cX6_errorIndex : ByteArray := prog_1_method_44_code
def yX6_errorIndex : MethodName := ⟨RX6, "errorIndex", "()I"⟩
abbrev cX6_kindOfLetter : ByteArray := prog_1_method_45_code
def yX6_kindOfLetter : MethodName := ⟨RX6, "kindOfLetter", "(I)I"⟩
abbrev cX6_letterOfKind : ByteArray := prog_1_method_46_code
def yX6_letterOfKind : MethodName := ⟨RX6, "letterOfKind", "(I)I"⟩
abbrev cX6_wordProperty : ByteArray := prog_1_method_47_code
def yX6_wordProperty : MethodName := ⟨RX6, "wordProperty", "(II)I"⟩
abbrev cX6_readingProperty : ByteArray := prog_1_method_48_code
def yX6_readingProperty : MethodName := ⟨RX6, "readingProperty", "(II)I"⟩
abbrev cX6_number : ByteArray := prog_1_method_49_code
def yX6_number : MethodName := ⟨RX6, "number", "(I)I"⟩
abbrev cX6_leftIf : ByteArray := prog_1_method_50_code
def yX6_leftIf : MethodName := ⟨RX6, "leftIf", "(II)I"⟩
abbrev cX6_headsLeft : ByteArray := prog_1_method_51_code
def yX6_headsLeft : MethodName := ⟨RX6, "headsLeft", "(I)I"⟩
abbrev cX6_openWords : ByteArray := prog_1_method_52_code
def yX6_openWords : MethodName := ⟨RX6, "openWords", "()I"⟩
abbrev cX6_bestQuestion : ByteArray := prog_1_method_53_code
def yX6_bestQuestion : MethodName := ⟨RX6, "bestQuestion", "()I"⟩
abbrev cX6_mostLeftBehind : ByteArray := prog_1_method_54_code
def yX6_mostLeftBehind : MethodName := ⟨RX6, "mostLeftBehind", "(I)I"⟩
abbrev cX6_share : ByteArray := prog_1_method_55_code
def yX6_share : MethodName := ⟨RX6, "share", "()D"⟩
abbrev cX6_kindsToAdd : ByteArray := prog_1_method_56_code
def yX6_kindsToAdd : MethodName := ⟨RX6, "kindsToAdd", "()I"⟩
abbrev cX6_digestWords : ByteArray := prog_1_method_57_code
def yX6_digestWords : MethodName := ⟨RX6, "digestWords", "(J)J"⟩
abbrev cX6_digestReadings : ByteArray := prog_1_method_58_code
def yX6_digestReadings : MethodName := ⟨RX6, "digestReadings", "(J)J"⟩
abbrev cX6_digestParts : ByteArray := prog_1_method_59_code
def yX6_digestParts : MethodName := ⟨RX6, "digestParts", "(J)J"⟩
abbrev cX6_bitsOfShare : ByteArray := prog_1_method_60_code
def yX6_bitsOfShare : MethodName := ⟨RX6, "bitsOfShare", "(D)J"⟩
def RX7 : String := "SlantSlateModel"
def TX7 : u_T := fun k => match k with
  | 0 => ("SlantSlateModel", "thrown", "I", false)
  | 1 => ("SlantSlateModel", "s", "[I", true)
  | 2 => ("SlantSlateModel", "saved", "[I", true)
  | 3 => ("SlantSlateModel", "savedMany", "I", false)
  | 4 => ("SlantSlateModel", "slots", "[I", true)
  | 5 => ("SlantSlateModel", "hasSlot", "[Z", true)
  | 6 => ("SlantSlateModel", "buffer", "[I", true)
  | 7 => ("SlantSlateModel", "length", "I", false)
  | 8 => ("SlantSlateModel", "open", "[I", true)
  | 9 => ("SlantSlateModel", "word", "[I", true)
  | 10 => ("SlantSlateModel", "more", "[I", true)
  | 11 => ("SlantSlateModel", "depth", "I", false)
  | 12 => ("SlantSlateModel", "choices", "[I", true)
  | 13 => ("SlantSlateModel", "can", "[I", true)
  | 14 => ("SlantSlateModel", "heads", "[I", true)
  | 15 => ("SlantSlateModel", "all", "[I", true)
  | 16 => ("SlantSlateModel", "allMany", "I", false)
  | 17 => ("SlantSlateModel", "left", "[I", true)
  | 18 => ("SlantSlateModel", "leftMany", "I", false)
  | 19 => ("SlantSlateModel", "phraseRows", "[I", true)
  | 20 => ("SlantSlateModel", "names", "[I", true)
  | 21 => ("SlantSlateModel", "groups", "[I", true)
  | 22 => ("SlantSlateModel", "phrases", "[I", true)
  | 23 => ("SlantSlateModel", "hangings", "[I", true)
  | 24 => ("SlantSlateModel", "clauses", "[I", true)
  | _ => ("SlantSlateModel", "hash", "J", false)
def tyX7 : Nat → FieldType := fun k => match k with
  | 0 => .int
  | 1 => .array .int
  | 2 => .array .int
  | 3 => .int
  | 4 => .array .int
  | 5 => .array .boolean
  | 6 => .array .int
  | 7 => .int
  | 8 => .array .int
  | 9 => .array .int
  | 10 => .array .int
  | 11 => .int
  | 12 => .array .int
  | 13 => .array .int
  | 14 => .array .int
  | 15 => .array .int
  | 16 => .int
  | 17 => .array .int
  | 18 => .int
  | 19 => .array .int
  | 20 => .array .int
  | 21 => .array .int
  | 22 => .array .int
  | 23 => .array .int
  | 24 => .array .int
  | _ => .long
theorem nmX7 : ∀ a, a < 26 → ∀ b, b < 26 → a ≠ b → (TX7 a).2.1 ≠ (TX7 b).2.1 := by decide +kernel
theorem tyX7_ok : ∀ k, k < 26 → parseFieldDescriptor (TX7 k).2.2.1 = some (tyX7 k) := by decide +kernel
abbrev cX7_init : ByteArray := prog_9_method_1_code
def yX7_init : MethodName := ⟨RX7, "<init>", "()V"⟩
abbrev cX7_thrown : ByteArray := prog_9_method_2_code
def yX7_thrown : MethodName := ⟨RX7, "thrown", "()I"⟩
abbrev cX7_in : ByteArray := prog_9_method_3_code
def yX7_in : MethodName := ⟨RX7, "in", "(III)Z"⟩
abbrev cX7_fails : ByteArray := prog_9_method_4_code
def yX7_fails : MethodName := ⟨RX7, "fails", "(I)I"⟩
abbrev cX7_kind : ByteArray := prog_9_method_5_code
def yX7_kind : MethodName := ⟨RX7, "kind", "(I)I"⟩
abbrev cX7_isWord : ByteArray := prog_9_method_6_code
def yX7_isWord : MethodName := ⟨RX7, "isWord", "(I)Z"⟩
abbrev cX7_saves : ByteArray := prog_9_method_7_code
def yX7_saves : MethodName := ⟨RX7, "saves", "()V"⟩
abbrev cX7_opens : ByteArray := prog_9_method_8_code
def yX7_opens : MethodName := ⟨RX7, "opens", "(III)V"⟩
abbrev cX7_isComplete : ByteArray := prog_9_method_9_code
def yX7_isComplete : MethodName := ⟨RX7, "isComplete", "(I)Z"⟩
abbrev cX7_canHold : ByteArray := prog_9_method_10_code
def yX7_canHold : MethodName := ⟨RX7, "canHold", "(II)Z"⟩
abbrev cX7_chosen : ByteArray := prog_9_method_11_code
def yX7_chosen : MethodName := ⟨RX7, "chosen", "(I)I"⟩
abbrev cX7_wantsName : ByteArray := prog_9_method_12_code
def yX7_wantsName : MethodName := ⟨RX7, "wantsName", "()Z"⟩
abbrev cX7_takesAdjective : ByteArray := prog_9_method_13_code
def yX7_takesAdjective : MethodName := ⟨RX7, "takesAdjective", "(I)Z"⟩
abbrev cX7_takesNoun : ByteArray := prog_9_method_14_code
def yX7_takesNoun : MethodName := ⟨RX7, "takesNoun", "(I)Z"⟩
abbrev cX7_takesVerb : ByteArray := prog_9_method_15_code
def yX7_takesVerb : MethodName := ⟨RX7, "takesVerb", "(I)Z"⟩
abbrev cX7_takesHanging : ByteArray := prog_9_method_16_code
def yX7_takesHanging : MethodName := ⟨RX7, "takesHanging", "(I)Z"⟩
abbrev cX7_takesOpener : ByteArray := prog_9_method_17_code
def yX7_takesOpener : MethodName := ⟨RX7, "takesOpener", "(I)Z"⟩
abbrev cX7_takes : ByteArray := prog_9_method_18_code
def yX7_takes : MethodName := ⟨RX7, "takes", "(I)Z"⟩
abbrev cX7_reads : ByteArray := prog_9_method_19_code
def yX7_reads : MethodName := ⟨RX7, "reads", "()I"⟩
abbrev cX7_isWhole : ByteArray := prog_9_method_20_code
def yX7_isWhole : MethodName := ⟨RX7, "isWhole", "()Z"⟩
abbrev cX7_isAhead : ByteArray := prog_9_method_21_code
def yX7_isAhead : MethodName := ⟨RX7, "isAhead", "(I)Z"⟩
abbrev cX7_laysReading : ByteArray := prog_9_method_22_code
def yX7_laysReading : MethodName := ⟨RX7, "laysReading", "()V"⟩
abbrev cX7_choosesNext : ByteArray := prog_9_method_23_code
def yX7_choosesNext : MethodName := ⟨RX7, "choosesNext", "(I)Z"⟩
abbrev cX7_isLeft : ByteArray := prog_9_method_24_code
def yX7_isLeft : MethodName := ⟨RX7, "isLeft", "(II)Z"⟩
abbrev cX7_laysAll : ByteArray := prog_9_method_25_code
def yX7_laysAll : MethodName := ⟨RX7, "laysAll", "()V"⟩
abbrev cX7_head : ByteArray := prog_9_method_26_code
def yX7_head : MethodName := ⟨RX7, "head", "(II)I"⟩
abbrev cX7_heldBy : ByteArray := prog_9_method_27_code
def yX7_heldBy : MethodName := ⟨RX7, "heldBy", "(II)I"⟩
abbrev cX7_step : ByteArray := prog_9_method_28_code
def yX7_step : MethodName := ⟨RX7, "step", "(II)I"⟩
abbrev cX7_level : ByteArray := prog_9_method_29_code
def yX7_level : MethodName := ⟨RX7, "level", "(II)I"⟩
abbrev cX7_height : ByteArray := prog_9_method_30_code
def yX7_height : MethodName := ⟨RX7, "height", "(I)I"⟩
abbrev cX7_holds : ByteArray := prog_9_method_31_code
def yX7_holds : MethodName := ⟨RX7, "holds", "(II)I"⟩
abbrev cX7_span : ByteArray := prog_9_method_32_code
def yX7_span : MethodName := ⟨RX7, "span", "(II)I"⟩
abbrev cX7_rowsOf : ByteArray := prog_9_method_33_code
def yX7_rowsOf : MethodName := ⟨RX7, "rowsOf", "(IIZ)I"⟩
abbrev cX7_namesOf : ByteArray := prog_9_method_34_code
def yX7_namesOf : MethodName := ⟨RX7, "namesOf", "(II)I"⟩
abbrev cX7_groupsOf : ByteArray := prog_9_method_35_code
def yX7_groupsOf : MethodName := ⟨RX7, "groupsOf", "(II)I"⟩
abbrev cX7_restsOf : ByteArray := prog_9_method_36_code
def yX7_restsOf : MethodName := ⟨RX7, "restsOf", "(II)I"⟩
abbrev cX7_clausesOf : ByteArray := prog_9_method_37_code
def yX7_clausesOf : MethodName := ⟨RX7, "clausesOf", "(II)I"⟩
abbrev cX7_laysSpan : ByteArray := prog_9_method_38_code
def yX7_laysSpan : MethodName := ⟨RX7, "laysSpan", "(II)V"⟩
abbrev cX7_laysSpans : ByteArray := prog_9_method_39_code
def yX7_laysSpans : MethodName := ⟨RX7, "laysSpans", "()V"⟩
abbrev cX7_partOf : ByteArray := prog_9_method_40_code
def yX7_partOf : MethodName := ⟨RX7, "partOf", "(III)I"⟩
abbrev cX7_allByParts : ByteArray := prog_9_method_41_code
def yX7_allByParts : MethodName := ⟨RX7, "allByParts", "()I"⟩
abbrev cX7_begins : ByteArray := prog_9_method_42_code
def yX7_begins : MethodName := ⟨RX7, "begins", "()I"⟩
abbrev cX7_add : ByteArray := prog_9_method_43_code
def yX7_add : MethodName := ⟨RX7, "add", "(I)I"⟩
abbrev cX7_change : ByteArray := prog_9_method_44_code
def yX7_change : MethodName := ⟨RX7, "change", "(II)I"⟩
abbrev cX7_wipe : ByteArray := prog_9_method_45_code
def yX7_wipe : MethodName := ⟨RX7, "wipe", "(I)I"⟩
abbrev cX7_isHead : ByteArray := prog_9_method_46_code
def yX7_isHead : MethodName := ⟨RX7, "isHead", "(II)Z"⟩
abbrev cX7_leftBy : ByteArray := prog_9_method_47_code
def yX7_leftBy : MethodName := ⟨RX7, "leftBy", "(II)I"⟩
abbrev cX7_fix : ByteArray := prog_9_method_48_code
def yX7_fix : MethodName := ⟨RX7, "fix", "(II)I"⟩
abbrev cX7_loosen : ByteArray := prog_9_method_49_code
def yX7_loosen : MethodName := ⟨RX7, "loosen", "(I)I"⟩
abbrev cX7_draw : ByteArray := prog_9_method_50_code
def yX7_draw : MethodName := ⟨RX7, "draw", "(I)I"⟩
abbrev cX7_flatten : ByteArray := prog_9_method_51_code
def yX7_flatten : MethodName := ⟨RX7, "flatten", "()I"⟩
abbrev cX7_append : ByteArray := prog_9_method_52_code
def yX7_append : MethodName := ⟨RX7, "append", "(I)I"⟩
abbrev cX7_clearBuffer : ByteArray := prog_9_method_53_code
def yX7_clearBuffer : MethodName := ⟨RX7, "clearBuffer", "()I"⟩
abbrev cX7_letterOf : ByteArray := prog_9_method_54_code
def yX7_letterOf : MethodName := ⟨RX7, "letterOf", "(I)I"⟩
abbrev cX7_kindOf : ByteArray := prog_9_method_55_code
def yX7_kindOf : MethodName := ⟨RX7, "kindOf", "(I)I"⟩
abbrev cX7_errorAt : ByteArray := prog_9_method_56_code
def yX7_errorAt : MethodName := ⟨RX7, "errorAt", "()I"⟩
abbrev cX7_firstError : ByteArray := prog_9_method_57_code
def yX7_firstError : MethodName := ⟨RX7, "firstError", "()I"⟩
abbrev cX7_load : ByteArray := prog_9_method_58_code
def yX7_load : MethodName := ⟨RX7, "load", "()I"⟩
abbrev cX7_write : ByteArray := prog_9_method_59_code
def yX7_write : MethodName := ⟨RX7, "write", "()I"⟩
abbrev cX7_keep : ByteArray := prog_9_method_60_code
def yX7_keep : MethodName := ⟨RX7, "keep", "(I)I"⟩
abbrev cX7_goBack : ByteArray := prog_9_method_61_code
def yX7_goBack : MethodName := ⟨RX7, "goBack", "(I)I"⟩
abbrev cX7_undo : ByteArray := prog_9_method_62_code
def yX7_undo : MethodName := ⟨RX7, "undo", "()I"⟩
abbrev cX7_haveHead : ByteArray := prog_9_method_63_code
def yX7_haveHead : MethodName := ⟨RX7, "haveHead", "(II)I"⟩
abbrev cX7_headsOf : ByteArray := prog_9_method_64_code
def yX7_headsOf : MethodName := ⟨RX7, "headsOf", "(IZ)I"⟩
abbrev cX7_drawn : ByteArray := prog_9_method_65_code
def yX7_drawn : MethodName := ⟨RX7, "drawn", "()I"⟩
abbrev cX7_tellsWord : ByteArray := prog_9_method_66_code
def yX7_tellsWord : MethodName := ⟨RX7, "tellsWord", "(II)I"⟩
abbrev cX7_tellsDrawn : ByteArray := prog_9_method_67_code
def yX7_tellsDrawn : MethodName := ⟨RX7, "tellsDrawn", "(III)I"⟩
abbrev cX7_wordOf : ByteArray := prog_9_method_68_code
def yX7_wordOf : MethodName := ⟨RX7, "wordOf", "(II)I"⟩
abbrev cX7_wordsOf : ByteArray := prog_9_method_69_code
def yX7_wordsOf : MethodName := ⟨RX7, "wordsOf", "(I)I"⟩
abbrev cX7_mostHeld : ByteArray := prog_9_method_70_code
def yX7_mostHeld : MethodName := ⟨RX7, "mostHeld", "(I)I"⟩
abbrev cX7_tellsReading : ByteArray := prog_9_method_71_code
def yX7_tellsReading : MethodName := ⟨RX7, "tellsReading", "(II)I"⟩
abbrev cX7_readingOf : ByteArray := prog_9_method_72_code
def yX7_readingOf : MethodName := ⟨RX7, "readingOf", "(II)I"⟩
abbrev cX7_fixedWords : ByteArray := prog_9_method_73_code
def yX7_fixedWords : MethodName := ⟨RX7, "fixedWords", "()I"⟩
abbrev cX7_wordsWith : ByteArray := prog_9_method_74_code
def yX7_wordsWith : MethodName := ⟨RX7, "wordsWith", "(Z)I"⟩
abbrev cX7_tellsCount : ByteArray := prog_9_method_75_code
def yX7_tellsCount : MethodName := ⟨RX7, "tellsCount", "(I)I"⟩
abbrev cX7_count : ByteArray := prog_9_method_76_code
def yX7_count : MethodName := ⟨RX7, "count", "(I)I"⟩
abbrev cX7_part : ByteArray := prog_9_method_77_code
def yX7_part : MethodName := ⟨RX7, "part", "(III)I"⟩
abbrev cX7_ifFixed : ByteArray := prog_9_method_78_code
def yX7_ifFixed : MethodName := ⟨RX7, "ifFixed", "(II)I"⟩
abbrev cX7_asked : ByteArray := prog_9_method_79_code
def yX7_asked : MethodName := ⟨RX7, "asked", "()I"⟩
abbrev cX7_question : ByteArray := prog_9_method_80_code
def yX7_question : MethodName := ⟨RX7, "question", "()I"⟩
abbrev cX7_addable : ByteArray := prog_9_method_81_code
def yX7_addable : MethodName := ⟨RX7, "addable", "()I"⟩
abbrev cX7_next : ByteArray := prog_9_method_82_code
def yX7_next : MethodName := ⟨RX7, "next", "()I"⟩
abbrev cX7_sure : ByteArray := prog_9_method_83_code
def yX7_sure : MethodName := ⟨RX7, "sure", "()D"⟩
abbrev cX7_sureShare : ByteArray := prog_9_method_84_code
def yX7_sureShare : MethodName := ⟨RX7, "sureShare", "()D"⟩
abbrev cX7_hashes : ByteArray := prog_9_method_85_code
def yX7_hashes : MethodName := ⟨RX7, "hashes", "(J)V"⟩
abbrev cX7_hashesParts : ByteArray := prog_9_method_86_code
def yX7_hashesParts : MethodName := ⟨RX7, "hashesParts", "()V"⟩
abbrev cX7_digest : ByteArray := prog_9_method_87_code
def yX7_digest : MethodName := ⟨RX7, "digest", "()J"⟩
def RJx145de : String := "java/io/Serializable"
def TJx145de : u_T := fun k => match k with
  | _ => ("", "", "", false)
def tyJx145de : Nat → FieldType := fun k => match k with
  | _ => .int
theorem nmJx145de : ∀ a, a < 0 → ∀ b, b < 0 → a ≠ b → (TJx145de a).2.1 ≠ (TJx145de b).2.1 := by decide +kernel
theorem tyJx145de_ok : ∀ k, k < 0 → parseFieldDescriptor (TJx145de k).2.2.1 = some (tyJx145de k) := by decide +kernel
def RJx9f9b0 : String := "java/lang/CharSequence"
def TJx9f9b0 : u_T := fun k => match k with
  | _ => ("", "", "", false)
def tyJx9f9b0 : Nat → FieldType := fun k => match k with
  | _ => .int
theorem nmJx9f9b0 : ∀ a, a < 0 → ∀ b, b < 0 → a ≠ b → (TJx9f9b0 a).2.1 ≠ (TJx9f9b0 b).2.1 := by decide +kernel
theorem tyJx9f9b0_ok : ∀ k, k < 0 → parseFieldDescriptor (TJx9f9b0 k).2.2.1 = some (tyJx9f9b0 k) := by decide +kernel
def RJx8e188 : String := "java/lang/Cloneable"
def TJx8e188 : u_T := fun k => match k with
  | _ => ("", "", "", false)
def tyJx8e188 : Nat → FieldType := fun k => match k with
  | _ => .int
theorem nmJx8e188 : ∀ a, a < 0 → ∀ b, b < 0 → a ≠ b → (TJx8e188 a).2.1 ≠ (TJx8e188 b).2.1 := by decide +kernel
theorem tyJx8e188_ok : ∀ k, k < 0 → parseFieldDescriptor (TJx8e188 k).2.2.1 = some (tyJx8e188 k) := by decide +kernel
def RJxb160c : String := "java/lang/Comparable"
def TJxb160c : u_T := fun k => match k with
  | _ => ("", "", "", false)
def tyJxb160c : Nat → FieldType := fun k => match k with
  | _ => .int
theorem nmJxb160c : ∀ a, a < 0 → ∀ b, b < 0 → a ≠ b → (TJxb160c a).2.1 ≠ (TJxb160c b).2.1 := by decide +kernel
theorem tyJxb160c_ok : ∀ k, k < 0 → parseFieldDescriptor (TJxb160c k).2.2.1 = some (tyJxb160c k) := by decide +kernel
def RJxe99ae : String := "java/lang/Double"
def TJxe99ae : u_T := fun k => match k with
  | _ => ("", "", "", false)
def tyJxe99ae : Nat → FieldType := fun k => match k with
  | _ => .int
theorem nmJxe99ae : ∀ a, a < 0 → ∀ b, b < 0 → a ≠ b → (TJxe99ae a).2.1 ≠ (TJxe99ae b).2.1 := by decide +kernel
theorem tyJxe99ae_ok : ∀ k, k < 0 → parseFieldDescriptor (TJxe99ae k).2.2.1 = some (tyJxe99ae k) := by decide +kernel
abbrev cJxe99ae_isNaN_b9ae7 : ByteArray := prog_14_method_6_code
def yJxe99ae_isNaN_b9ae7 : MethodName := ⟨RJxe99ae, "isNaN", "(D)Z"⟩
abbrev cJxe99ae_doubleToLongBits_ccdee : ByteArray := prog_14_method_23_code
def yJxe99ae_doubleToLongBits_ccdee : MethodName := ⟨RJxe99ae, "doubleToLongBits", "(D)J"⟩
def RJ6 : String := "java/lang/Integer"
def TJ6 : u_T := fun k => match k with
  | _ => ("", "", "", false)
def tyJ6 : Nat → FieldType := fun k => match k with
  | _ => .int
theorem nmJ6 : ∀ a, a < 0 → ∀ b, b < 0 → a ≠ b → (TJ6 a).2.1 ≠ (TJ6 b).2.1 := by decide +kernel
theorem tyJ6_ok : ∀ k, k < 0 → parseFieldDescriptor (TJ6 k).2.2.1 = some (tyJ6 k) := by decide +kernel
abbrev cJ6_bitCount_0f7a4 : ByteArray := prog_19_method_49_code
def yJ6_bitCount_0f7a4 : MethodName := ⟨RJ6, "bitCount", "(I)I"⟩
def RJxab1ab : String := "java/lang/Iterable"
def TJxab1ab : u_T := fun k => match k with
  | _ => ("", "", "", false)
def tyJxab1ab : Nat → FieldType := fun k => match k with
  | _ => .int
theorem nmJxab1ab : ∀ a, a < 0 → ∀ b, b < 0 → a ≠ b → (TJxab1ab a).2.1 ≠ (TJxab1ab b).2.1 := by decide +kernel
theorem tyJxab1ab_ok : ∀ k, k < 0 → parseFieldDescriptor (TJxab1ab k).2.2.1 = some (tyJxab1ab k) := by decide +kernel
def RJ9 : String := "java/lang/Math"
def TJ9 : u_T := fun k => match k with
  | _ => ("", "", "", false)
def tyJ9 : Nat → FieldType := fun k => match k with
  | _ => .int
theorem nmJ9 : ∀ a, a < 0 → ∀ b, b < 0 → a ≠ b → (TJ9 a).2.1 ≠ (TJ9 b).2.1 := by decide +kernel
theorem tyJ9_ok : ∀ k, k < 0 → parseFieldDescriptor (TJ9 k).2.2.1 = some (tyJ9 k) := by decide +kernel
abbrev cJ9_max_7cf53 : ByteArray := prog_21_method_65_code
def yJ9_max_7cf53 : MethodName := ⟨RJ9, "max", "(II)I"⟩
abbrev cJ9_min_7cf53 : ByteArray := prog_21_method_69_code
def yJ9_min_7cf53 : MethodName := ⟨RJ9, "min", "(II)I"⟩
def RJxd2413 : String := "java/lang/Number"
def TJxd2413 : u_T := fun k => match k with
  | _ => ("", "", "", false)
def tyJxd2413 : Nat → FieldType := fun k => match k with
  | _ => .int
theorem nmJxd2413 : ∀ a, a < 0 → ∀ b, b < 0 → a ≠ b → (TJxd2413 a).2.1 ≠ (TJxd2413 b).2.1 := by decide +kernel
theorem tyJxd2413_ok : ∀ k, k < 0 → parseFieldDescriptor (TJxd2413 k).2.2.1 = some (tyJxd2413 k) := by decide +kernel
def RJ0 : String := "java/lang/String"
def TJ0 : u_T := fun k => match k with
  | _ => ("", "", "", false)
def tyJ0 : Nat → FieldType := fun k => match k with
  | _ => .int
theorem nmJ0 : ∀ a, a < 0 → ∀ b, b < 0 → a ≠ b → (TJ0 a).2.1 ≠ (TJ0 b).2.1 := by decide +kernel
theorem tyJ0_ok : ∀ k, k < 0 → parseFieldDescriptor (TJ0 k).2.2.1 = some (tyJ0 k) := by decide +kernel
abbrev cJ0_length_8abf5 : ByteArray := prog_24_method_54_code
def yJ0_length_8abf5 : MethodName := ⟨RJ0, "length", "()I"⟩
abbrev cJ0_charAt_5068e : ByteArray := prog_24_method_56_code
def yJ0_charAt_5068e : MethodName := ⟨RJ0, "charAt", "(I)C"⟩
abbrev cJ0_coder_7d493 : ByteArray := prog_24_method_152_code
def yJ0_coder_7d493 : MethodName := ⟨RJ0, "coder", "()B"⟩
abbrev cJ0_isLatin1_aae02 : ByteArray := prog_24_method_154_code
def yJ0_isLatin1_aae02 : MethodName := ⟨RJ0, "isLatin1", "()Z"⟩
abbrev cJ0_checkIndex_df160 : ByteArray := prog_24_method_155_code
def yJ0_checkIndex_df160 : MethodName := ⟨RJ0, "checkIndex", "(II)V"⟩
def RJ1 : String := "java/lang/StringLatin1"
def TJ1 : u_T := fun k => match k with
  | _ => ("", "", "", false)
def tyJ1 : Nat → FieldType := fun k => match k with
  | _ => .int
theorem nmJ1 : ∀ a, a < 0 → ∀ b, b < 0 → a ≠ b → (TJ1 a).2.1 ≠ (TJ1 b).2.1 := by decide +kernel
theorem tyJ1_ok : ∀ k, k < 0 → parseFieldDescriptor (TJ1 k).2.2.1 = some (tyJ1 k) := by decide +kernel
abbrev cJ1_charAt_3b067 : ByteArray := prog_25_method_2_code
def yJ1_charAt_3b067 : MethodName := ⟨RJ1, "charAt", "([BI)C"⟩
def RJ2 : String := "java/lang/StringUTF16"
def TJ2 : u_T := fun k => match k with
  | _ => ("", "", "", false)
def tyJ2 : Nat → FieldType := fun k => match k with
  | _ => .int
theorem nmJ2 : ∀ a, a < 0 → ∀ b, b < 0 → a ≠ b → (TJ2 a).2.1 ≠ (TJ2 b).2.1 := by decide +kernel
theorem tyJ2_ok : ∀ k, k < 0 → parseFieldDescriptor (TJ2 k).2.2.1 = some (tyJ2 k) := by decide +kernel
abbrev cJ2_getChar_3b067 : ByteArray := prog_26_method_5_code
def yJ2_getChar_3b067 : MethodName := ⟨RJ2, "getChar", "([BI)C"⟩
abbrev cJ2_length_9d52b : ByteArray := prog_26_method_6_code
def yJ2_length_9d52b : MethodName := ⟨RJ2, "length", "([B)I"⟩
abbrev cJ2_charAt_3b067 : ByteArray := prog_26_method_83_code
def yJ2_charAt_3b067 : MethodName := ⟨RJ2, "charAt", "([BI)C"⟩
abbrev cJ2_checkIndex_2214a : ByteArray := prog_26_method_91_code
def yJ2_checkIndex_2214a : MethodName := ⟨RJ2, "checkIndex", "(I[B)V"⟩
def RJ10 : String := "java/lang/System"
def TJ10 : u_T := fun k => match k with
  | _ => ("", "", "", false)
def tyJ10 : Nat → FieldType := fun k => match k with
  | _ => .int
theorem nmJ10 : ∀ a, a < 0 → ∀ b, b < 0 → a ≠ b → (TJ10 a).2.1 ≠ (TJ10 b).2.1 := by decide +kernel
theorem tyJ10_ok : ∀ k, k < 0 → parseFieldDescriptor (TJ10 k).2.2.1 = some (tyJ10 k) := by decide +kernel
def RJxfd54e : String := "java/lang/constant/Constable"
def TJxfd54e : u_T := fun k => match k with
  | _ => ("", "", "", false)
def tyJxfd54e : Nat → FieldType := fun k => match k with
  | _ => .int
theorem nmJxfd54e : ∀ a, a < 0 → ∀ b, b < 0 → a ≠ b → (TJxfd54e a).2.1 ≠ (TJxfd54e b).2.1 := by decide +kernel
theorem tyJxfd54e_ok : ∀ k, k < 0 → parseFieldDescriptor (TJxfd54e k).2.2.1 = some (tyJxfd54e k) := by decide +kernel
def RJx3cf43 : String := "java/lang/constant/ConstantDesc"
def TJx3cf43 : u_T := fun k => match k with
  | _ => ("", "", "", false)
def tyJx3cf43 : Nat → FieldType := fun k => match k with
  | _ => .int
theorem nmJx3cf43 : ∀ a, a < 0 → ∀ b, b < 0 → a ≠ b → (TJx3cf43 a).2.1 ≠ (TJx3cf43 b).2.1 := by decide +kernel
theorem tyJx3cf43_ok : ∀ k, k < 0 → parseFieldDescriptor (TJx3cf43 k).2.2.1 = some (tyJx3cf43 k) := by decide +kernel
def RJxa1e45 : String := "java/util/AbstractCollection"
def TJxa1e45 : u_T := fun k => match k with
  | _ => ("", "", "", false)
def tyJxa1e45 : Nat → FieldType := fun k => match k with
  | _ => .int
theorem nmJxa1e45 : ∀ a, a < 0 → ∀ b, b < 0 → a ≠ b → (TJxa1e45 a).2.1 ≠ (TJxa1e45 b).2.1 := by decide +kernel
theorem tyJxa1e45_ok : ∀ k, k < 0 → parseFieldDescriptor (TJxa1e45 k).2.2.1 = some (tyJxa1e45 k) := by decide +kernel
abbrev cJxa1e45_init_da8c8 : ByteArray := prog_31_method_1_code
def yJxa1e45_init_da8c8 : MethodName := ⟨RJxa1e45, "<init>", "()V"⟩
def RJxc12de : String := "java/util/AbstractList"
def TJxc12de : u_T := fun k => match k with
  | _ => ("", "", "", false)
def tyJxc12de : Nat → FieldType := fun k => match k with
  | _ => .int
theorem nmJxc12de : ∀ a, a < 0 → ∀ b, b < 0 → a ≠ b → (TJxc12de a).2.1 ≠ (TJxc12de b).2.1 := by decide +kernel
theorem tyJxc12de_ok : ∀ k, k < 0 → parseFieldDescriptor (TJxc12de k).2.2.1 = some (tyJxc12de k) := by decide +kernel
abbrev cJxc12de_init_da8c8 : ByteArray := prog_32_method_1_code
def yJxc12de_init_da8c8 : MethodName := ⟨RJxc12de, "<init>", "()V"⟩
def RJx4a65c : String := "java/util/ArrayList"
def TJx4a65c : u_T := fun k => match k with
  | 0 => ("java/util/AbstractList", "modCount", "I", false)
  | 1 => ("java/util/ArrayList", "elementData", "[Ljava/lang/Object;", false)
  | _ => ("java/util/ArrayList", "size", "I", false)
def tyJx4a65c : Nat → FieldType := fun k => match k with
  | 0 => .int
  | 1 => .array (.object "java/lang/Object")
  | _ => .int
theorem nmJx4a65c : ∀ a, a < 3 → ∀ b, b < 3 → a ≠ b → (TJx4a65c a).2.1 ≠ (TJx4a65c b).2.1 := by decide +kernel
theorem tyJx4a65c_ok : ∀ k, k < 3 → parseFieldDescriptor (TJx4a65c k).2.2.1 = some (tyJx4a65c k) := by decide +kernel
abbrev cJx4a65c_init_da8c8 : ByteArray := prog_33_method_2_code
def yJx4a65c_init_da8c8 : MethodName := ⟨RJx4a65c, "<init>", "()V"⟩
abbrev cJx4a65c_grow_92f84 : ByteArray := prog_33_method_6_code
def yJx4a65c_grow_92f84 : MethodName := ⟨RJx4a65c, "grow", "(I)[Ljava/lang/Object;"⟩
abbrev cJx4a65c_grow_d5877 : ByteArray := prog_33_method_7_code
def yJx4a65c_grow_d5877 : MethodName := ⟨RJx4a65c, "grow", "()[Ljava/lang/Object;"⟩
abbrev cJx4a65c_size_8abf5 : ByteArray := prog_33_method_8_code
def yJx4a65c_size_8abf5 : MethodName := ⟨RJx4a65c, "size", "()I"⟩
abbrev cJx4a65c_elementData_915e3 : ByteArray := prog_33_method_18_code
def yJx4a65c_elementData_915e3 : MethodName := ⟨RJx4a65c, "elementData", "(I)Ljava/lang/Object;"⟩
abbrev cJx4a65c_get_915e3 : ByteArray := prog_33_method_20_code
def yJx4a65c_get_915e3 : MethodName := ⟨RJx4a65c, "get", "(I)Ljava/lang/Object;"⟩
abbrev cJx4a65c_add_72be8 : ByteArray := prog_33_method_24_code
def yJx4a65c_add_72be8 : MethodName := ⟨RJx4a65c, "add", "(Ljava/lang/Object;[Ljava/lang/Object;I)V"⟩
abbrev cJx4a65c_add_9ea2d : ByteArray := prog_33_method_25_code
def yJx4a65c_add_9ea2d : MethodName := ⟨RJx4a65c, "add", "(Ljava/lang/Object;)Z"⟩
abbrev cJx4a65c_remove_915e3 : ByteArray := prog_33_method_29_code
def yJx4a65c_remove_915e3 : MethodName := ⟨RJx4a65c, "remove", "(I)Ljava/lang/Object;"⟩
abbrev cJx4a65c_fastRemove_b59b0 : ByteArray := prog_33_method_39_code
def yJx4a65c_fastRemove_b59b0 : MethodName := ⟨RJx4a65c, "fastRemove", "([Ljava/lang/Object;I)V"⟩
def RJ7 : String := "java/util/Arrays"
def TJ7 : u_T := fun k => match k with
  | _ => ("", "", "", false)
def tyJ7 : Nat → FieldType := fun k => match k with
  | _ => .int
theorem nmJ7 : ∀ a, a < 0 → ∀ b, b < 0 → a ≠ b → (TJ7 a).2.1 ≠ (TJ7 b).2.1 := by decide +kernel
theorem tyJ7_ok : ∀ k, k < 0 → parseFieldDescriptor (TJ7 k).2.2.1 = some (tyJ7 k) := by decide +kernel
abbrev cJ7_fill_53178 : ByteArray := prog_34_method_103_code
def yJ7_fill_53178 : MethodName := ⟨RJ7, "fill", "([II)V"⟩
abbrev cJ7_copyOf_1904c : ByteArray := prog_34_method_119_code
def yJ7_copyOf_1904c : MethodName := ⟨RJ7, "copyOf", "([Ljava/lang/Object;I)[Ljava/lang/Object;"⟩
abbrev cJ7_copyOf_6403c : ByteArray := prog_34_method_120_code
def yJ7_copyOf_6403c : MethodName := ⟨RJ7, "copyOf", "([Ljava/lang/Object;ILjava/lang/Class;)[Ljava/lang/Object;"⟩
def RJx5ef63 : String := "java/util/Collection"
def TJx5ef63 : u_T := fun k => match k with
  | _ => ("", "", "", false)
def tyJx5ef63 : Nat → FieldType := fun k => match k with
  | _ => .int
theorem nmJx5ef63 : ∀ a, a < 0 → ∀ b, b < 0 → a ≠ b → (TJx5ef63 a).2.1 ≠ (TJx5ef63 b).2.1 := by decide +kernel
theorem tyJx5ef63_ok : ∀ k, k < 0 → parseFieldDescriptor (TJx5ef63 k).2.2.1 = some (tyJx5ef63 k) := by decide +kernel
def RJxbd725 : String := "java/util/List"
def TJxbd725 : u_T := fun k => match k with
  | _ => ("", "", "", false)
def tyJxbd725 : Nat → FieldType := fun k => match k with
  | _ => .int
theorem nmJxbd725 : ∀ a, a < 0 → ∀ b, b < 0 → a ≠ b → (TJxbd725 a).2.1 ≠ (TJxbd725 b).2.1 := by decide +kernel
theorem tyJxbd725_ok : ∀ k, k < 0 → parseFieldDescriptor (TJxbd725 k).2.2.1 = some (tyJxbd725 k) := by decide +kernel
def RJ15 : String := "java/util/Objects"
def TJ15 : u_T := fun k => match k with
  | _ => ("", "", "", false)
def tyJ15 : Nat → FieldType := fun k => match k with
  | _ => .int
theorem nmJ15 : ∀ a, a < 0 → ∀ b, b < 0 → a ≠ b → (TJ15 a).2.1 ≠ (TJ15 b).2.1 := by decide +kernel
theorem tyJ15_ok : ∀ k, k < 0 → parseFieldDescriptor (TJ15 k).2.2.1 = some (tyJ15 k) := by decide +kernel
abbrev cJ15_checkIndex_7cf53 : ByteArray := prog_37_method_17_code
def yJ15_checkIndex_7cf53 : MethodName := ⟨RJ15, "checkIndex", "(II)I"⟩
def RJxf0a74 : String := "java/util/RandomAccess"
def TJxf0a74 : u_T := fun k => match k with
  | _ => ("", "", "", false)
def tyJxf0a74 : Nat → FieldType := fun k => match k with
  | _ => .int
theorem nmJxf0a74 : ∀ a, a < 0 → ∀ b, b < 0 → a ≠ b → (TJxf0a74 a).2.1 ≠ (TJxf0a74 b).2.1 := by decide +kernel
theorem tyJxf0a74_ok : ∀ k, k < 0 → parseFieldDescriptor (TJxf0a74 k).2.2.1 = some (tyJxf0a74 k) := by decide +kernel
def RJxa66e6 : String := "java/util/SequencedCollection"
def TJxa66e6 : u_T := fun k => match k with
  | _ => ("", "", "", false)
def tyJxa66e6 : Nat → FieldType := fun k => match k with
  | _ => .int
theorem nmJxa66e6 : ∀ a, a < 0 → ∀ b, b < 0 → a ≠ b → (TJxa66e6 a).2.1 ≠ (TJxa66e6 b).2.1 := by decide +kernel
theorem tyJxa66e6_ok : ∀ k, k < 0 → parseFieldDescriptor (TJxa66e6 k).2.2.1 = some (tyJxa66e6 k) := by decide +kernel
def RJ8 : String := "jdk/internal/util/ArraysSupport"
def TJ8 : u_T := fun k => match k with
  | _ => ("", "", "", false)
def tyJ8 : Nat → FieldType := fun k => match k with
  | _ => .int
theorem nmJ8 : ∀ a, a < 0 → ∀ b, b < 0 → a ≠ b → (TJ8 a).2.1 ≠ (TJ8 b).2.1 := by decide +kernel
theorem tyJ8_ok : ∀ k, k < 0 → parseFieldDescriptor (TJ8 k).2.2.1 = some (tyJ8 k) := by decide +kernel
abbrev cJ8_newLength_cabcc : ByteArray := prog_40_method_27_code
def yJ8_newLength_cabcc : MethodName := ⟨RJ8, "newLength", "(III)I"⟩
abbrev cJ8_hugeLength_7cf53 : ByteArray := prog_40_method_28_code
def yJ8_hugeLength_7cf53 : MethodName := ⟨RJ8, "hugeLength", "(II)I"⟩
def RJ3 : String := "jdk/internal/util/Preconditions"
def TJ3 : u_T := fun k => match k with
  | _ => ("", "", "", false)
def tyJ3 : Nat → FieldType := fun k => match k with
  | _ => .int
theorem nmJ3 : ∀ a, a < 0 → ∀ b, b < 0 → a ≠ b → (TJ3 a).2.1 ≠ (TJ3 b).2.1 := by decide +kernel
theorem tyJ3_ok : ∀ k, k < 0 → parseFieldDescriptor (TJ3 k).2.2.1 = some (tyJ3 k) := by decide +kernel
abbrev cJ3_checkIndex_8e157 : ByteArray := prog_41_method_11_code
def yJ3_checkIndex_8e157 : MethodName := ⟨RJ3, "checkIndex", "(IILjava/util/function/BiFunction;)I"⟩
def RL : String := "SlantSlateLaw"
abbrev cL_add : ByteArray := method_3_code
def yL_add : MethodName := ⟨RL, "add", "(LSlantSlate;I[J)I"⟩
abbrev cL_change : ByteArray := method_4_code
def yL_change : MethodName := ⟨RL, "change", "(LSlantSlate;II[J)I"⟩
abbrev cL_wipe : ByteArray := method_5_code
def yL_wipe : MethodName := ⟨RL, "wipe", "(LSlantSlate;I[J)I"⟩
abbrev cL_fix : ByteArray := method_6_code
def yL_fix : MethodName := ⟨RL, "fix", "(LSlantSlate;II[J)I"⟩
abbrev cL_loosen : ByteArray := method_7_code
def yL_loosen : MethodName := ⟨RL, "loosen", "(LSlantSlate;I[J)I"⟩
abbrev cL_draw : ByteArray := method_8_code
def yL_draw : MethodName := ⟨RL, "draw", "(LSlantSlate;I[J)I"⟩
abbrev cL_flatten : ByteArray := method_9_code
def yL_flatten : MethodName := ⟨RL, "flatten", "(LSlantSlate;[J)I"⟩
abbrev cL_append : ByteArray := method_10_code
def yL_append : MethodName := ⟨RL, "append", "(LSlantSlate;I[J)I"⟩
abbrev cL_load : ByteArray := method_11_code
def yL_load : MethodName := ⟨RL, "load", "(LSlantSlate;[J)I"⟩
abbrev cL_write : ByteArray := method_12_code
def yL_write : MethodName := ⟨RL, "write", "(LSlantSlate;[J)I"⟩
abbrev cL_keep : ByteArray := method_13_code
def yL_keep : MethodName := ⟨RL, "keep", "(LSlantSlate;I[J)I"⟩
abbrev cL_goBack : ByteArray := method_14_code
def yL_goBack : MethodName := ⟨RL, "goBack", "(LSlantSlate;I[J)I"⟩
abbrev cL_undo : ByteArray := method_15_code
def yL_undo : MethodName := ⟨RL, "undo", "(LSlantSlate;[J)I"⟩
abbrev cL_wordOf : ByteArray := method_16_code
def yL_wordOf : MethodName := ⟨RL, "wordOf", "(LSlantSlate;II[J)I"⟩
abbrev cL_readingOf : ByteArray := method_17_code
def yL_readingOf : MethodName := ⟨RL, "readingOf", "(LSlantSlate;II[J)I"⟩
abbrev cL_count : ByteArray := method_18_code
def yL_count : MethodName := ⟨RL, "count", "(LSlantSlate;I[J)I"⟩
abbrev cL_part : ByteArray := method_19_code
def yL_part : MethodName := ⟨RL, "part", "(LSlantSlate;III[J)I"⟩
abbrev cL_ifFixed : ByteArray := method_20_code
def yL_ifFixed : MethodName := ⟨RL, "ifFixed", "(LSlantSlate;II[J)I"⟩
abbrev cL_law : ByteArray := code
def yL_law : MethodName := ⟨RL, "law", "([I)Z"⟩
abbrev vwCl : List vw_C := [(RJx4a65c, TJx4a65c, 3), (RX0, TX0, 8), (RX1, TX1, 1), (RX2, TX2, 7), (RX3, TX3, 5), (RX4, TX4, 4), (RX5, TX5, 1), (RX6, TX6, 15), (RX7, TX7, 26)]
end
section
theorem dJxe99ae_isNaN_b9ae7_0 : decode cJxe99ae_isNaN_b9ae7 0 = .ok (.dload_n 0, 1) := by decide +kernel
theorem dJxe99ae_isNaN_b9ae7_1 : decode cJxe99ae_isNaN_b9ae7 1 = .ok (.dload_n 0, 1) := by decide +kernel
theorem dJxe99ae_isNaN_b9ae7_2 : decode cJxe99ae_isNaN_b9ae7 2 = .ok (.dcmp .l, 1) := by decide +kernel
theorem dJxe99ae_isNaN_b9ae7_3 : decode cJxe99ae_isNaN_b9ae7 3 = .ok (.ifCond .eq 7, 3) := by decide +kernel
theorem dJxe99ae_isNaN_b9ae7_6 : decode cJxe99ae_isNaN_b9ae7 6 = .ok (.iconst 1, 1) := by decide +kernel
theorem dJxe99ae_isNaN_b9ae7_7 : decode cJxe99ae_isNaN_b9ae7 7 = .ok (.goto 4, 3) := by decide +kernel
theorem dJxe99ae_isNaN_b9ae7_10 : decode cJxe99ae_isNaN_b9ae7 10 = .ok (.iconst 0, 1) := by decide +kernel
theorem dJxe99ae_isNaN_b9ae7_11 : decode cJxe99ae_isNaN_b9ae7 11 = .ok (.ireturn, 1) := by decide +kernel
theorem dJxe99ae_doubleToLongBits_ccdee_0 : decode cJxe99ae_doubleToLongBits_ccdee 0 = .ok (.dload_n 0, 1) := by decide +kernel
theorem dJxe99ae_doubleToLongBits_ccdee_1 : decode cJxe99ae_doubleToLongBits_ccdee 1 = .ok (.invokestatic 122, 3) := by decide +kernel
theorem dJxe99ae_doubleToLongBits_ccdee_4 : decode cJxe99ae_doubleToLongBits_ccdee 4 = .ok (.ifCond .ne 8, 3) := by decide +kernel
theorem dJxe99ae_doubleToLongBits_ccdee_7 : decode cJxe99ae_doubleToLongBits_ccdee 7 = .ok (.dload_n 0, 1) := by decide +kernel
theorem dJxe99ae_doubleToLongBits_ccdee_8 : decode cJxe99ae_doubleToLongBits_ccdee 8 = .ok (.invokestatic 134, 3) := by decide +kernel
theorem dJxe99ae_doubleToLongBits_ccdee_11 : decode cJxe99ae_doubleToLongBits_ccdee 11 = .ok (.lreturn, 1) := by decide +kernel
theorem dJxe99ae_doubleToLongBits_ccdee_12 : decode cJxe99ae_doubleToLongBits_ccdee 12 = .ok (.ldc2_w 137, 3) := by decide +kernel
theorem dJxe99ae_doubleToLongBits_ccdee_15 : decode cJxe99ae_doubleToLongBits_ccdee 15 = .ok (.lreturn, 1) := by decide +kernel
theorem dJ6_bitCount_0f7a4_0 : decode cJ6_bitCount_0f7a4 0 = .ok (.iload_n 0, 1) := by decide +kernel
theorem dJ6_bitCount_0f7a4_1 : decode cJ6_bitCount_0f7a4 1 = .ok (.iload_n 0, 1) := by decide +kernel
theorem dJ6_bitCount_0f7a4_2 : decode cJ6_bitCount_0f7a4 2 = .ok (.iconst 1, 1) := by decide +kernel
theorem dJ6_bitCount_0f7a4_3 : decode cJ6_bitCount_0f7a4 3 = .ok (.iushr, 1) := by decide +kernel
theorem dJ6_bitCount_0f7a4_4 : decode cJ6_bitCount_0f7a4 4 = .ok (.ldc_w 265, 3) := by decide +kernel
theorem dJ6_bitCount_0f7a4_7 : decode cJ6_bitCount_0f7a4 7 = .ok (.iand, 1) := by decide +kernel
theorem dJ6_bitCount_0f7a4_8 : decode cJ6_bitCount_0f7a4 8 = .ok (.isub, 1) := by decide +kernel
theorem dJ6_bitCount_0f7a4_9 : decode cJ6_bitCount_0f7a4 9 = .ok (.istore_n 0, 1) := by decide +kernel
theorem dJ6_bitCount_0f7a4_10 : decode cJ6_bitCount_0f7a4 10 = .ok (.iload_n 0, 1) := by decide +kernel
theorem dJ6_bitCount_0f7a4_11 : decode cJ6_bitCount_0f7a4 11 = .ok (.ldc_w 266, 3) := by decide +kernel
theorem dJ6_bitCount_0f7a4_14 : decode cJ6_bitCount_0f7a4 14 = .ok (.iand, 1) := by decide +kernel
theorem dJ6_bitCount_0f7a4_15 : decode cJ6_bitCount_0f7a4 15 = .ok (.iload_n 0, 1) := by decide +kernel
theorem dJ6_bitCount_0f7a4_16 : decode cJ6_bitCount_0f7a4 16 = .ok (.iconst 2, 1) := by decide +kernel
theorem dJ6_bitCount_0f7a4_17 : decode cJ6_bitCount_0f7a4 17 = .ok (.iushr, 1) := by decide +kernel
theorem dJ6_bitCount_0f7a4_18 : decode cJ6_bitCount_0f7a4 18 = .ok (.ldc_w 266, 3) := by decide +kernel
theorem dJ6_bitCount_0f7a4_21 : decode cJ6_bitCount_0f7a4 21 = .ok (.iand, 1) := by decide +kernel
theorem dJ6_bitCount_0f7a4_22 : decode cJ6_bitCount_0f7a4 22 = .ok (.iadd, 1) := by decide +kernel
theorem dJ6_bitCount_0f7a4_23 : decode cJ6_bitCount_0f7a4 23 = .ok (.istore_n 0, 1) := by decide +kernel
theorem dJ6_bitCount_0f7a4_24 : decode cJ6_bitCount_0f7a4 24 = .ok (.iload_n 0, 1) := by decide +kernel
theorem dJ6_bitCount_0f7a4_25 : decode cJ6_bitCount_0f7a4 25 = .ok (.iload_n 0, 1) := by decide +kernel
theorem dJ6_bitCount_0f7a4_26 : decode cJ6_bitCount_0f7a4 26 = .ok (.iconst 4, 1) := by decide +kernel
theorem dJ6_bitCount_0f7a4_27 : decode cJ6_bitCount_0f7a4 27 = .ok (.iushr, 1) := by decide +kernel
theorem dJ6_bitCount_0f7a4_28 : decode cJ6_bitCount_0f7a4 28 = .ok (.iadd, 1) := by decide +kernel
theorem dJ6_bitCount_0f7a4_29 : decode cJ6_bitCount_0f7a4 29 = .ok (.ldc_w 267, 3) := by decide +kernel
theorem dJ6_bitCount_0f7a4_32 : decode cJ6_bitCount_0f7a4 32 = .ok (.iand, 1) := by decide +kernel
theorem dJ6_bitCount_0f7a4_33 : decode cJ6_bitCount_0f7a4 33 = .ok (.istore_n 0, 1) := by decide +kernel
theorem dJ6_bitCount_0f7a4_34 : decode cJ6_bitCount_0f7a4 34 = .ok (.iload_n 0, 1) := by decide +kernel
theorem dJ6_bitCount_0f7a4_35 : decode cJ6_bitCount_0f7a4 35 = .ok (.iload_n 0, 1) := by decide +kernel
theorem dJ6_bitCount_0f7a4_36 : decode cJ6_bitCount_0f7a4 36 = .ok (.bipush 8, 2) := by decide +kernel
theorem dJ6_bitCount_0f7a4_38 : decode cJ6_bitCount_0f7a4 38 = .ok (.iushr, 1) := by decide +kernel
theorem dJ6_bitCount_0f7a4_39 : decode cJ6_bitCount_0f7a4 39 = .ok (.iadd, 1) := by decide +kernel
theorem dJ6_bitCount_0f7a4_40 : decode cJ6_bitCount_0f7a4 40 = .ok (.istore_n 0, 1) := by decide +kernel
theorem dJ6_bitCount_0f7a4_41 : decode cJ6_bitCount_0f7a4 41 = .ok (.iload_n 0, 1) := by decide +kernel
theorem dJ6_bitCount_0f7a4_42 : decode cJ6_bitCount_0f7a4 42 = .ok (.iload_n 0, 1) := by decide +kernel
theorem dJ6_bitCount_0f7a4_43 : decode cJ6_bitCount_0f7a4 43 = .ok (.bipush 16, 2) := by decide +kernel
theorem dJ6_bitCount_0f7a4_45 : decode cJ6_bitCount_0f7a4 45 = .ok (.iushr, 1) := by decide +kernel
theorem dJ6_bitCount_0f7a4_46 : decode cJ6_bitCount_0f7a4 46 = .ok (.iadd, 1) := by decide +kernel
theorem dJ6_bitCount_0f7a4_47 : decode cJ6_bitCount_0f7a4 47 = .ok (.istore_n 0, 1) := by decide +kernel
theorem dJ6_bitCount_0f7a4_48 : decode cJ6_bitCount_0f7a4 48 = .ok (.iload_n 0, 1) := by decide +kernel
theorem dJ6_bitCount_0f7a4_49 : decode cJ6_bitCount_0f7a4 49 = .ok (.bipush 63, 2) := by decide +kernel
theorem dJ6_bitCount_0f7a4_51 : decode cJ6_bitCount_0f7a4 51 = .ok (.iand, 1) := by decide +kernel
theorem dJ6_bitCount_0f7a4_52 : decode cJ6_bitCount_0f7a4 52 = .ok (.ireturn, 1) := by decide +kernel
theorem dJ9_max_7cf53_0 : decode cJ9_max_7cf53 0 = .ok (.iload_n 0, 1) := by decide +kernel
theorem dJ9_max_7cf53_1 : decode cJ9_max_7cf53 1 = .ok (.iload_n 1, 1) := by decide +kernel
theorem dJ9_max_7cf53_2 : decode cJ9_max_7cf53 2 = .ok (.if_icmp .lt 7, 3) := by decide +kernel
theorem dJ9_max_7cf53_5 : decode cJ9_max_7cf53 5 = .ok (.iload_n 0, 1) := by decide +kernel
theorem dJ9_max_7cf53_6 : decode cJ9_max_7cf53 6 = .ok (.goto 4, 3) := by decide +kernel
theorem dJ9_max_7cf53_9 : decode cJ9_max_7cf53 9 = .ok (.iload_n 1, 1) := by decide +kernel
theorem dJ9_max_7cf53_10 : decode cJ9_max_7cf53 10 = .ok (.ireturn, 1) := by decide +kernel
theorem dJ9_min_7cf53_0 : decode cJ9_min_7cf53 0 = .ok (.iload_n 0, 1) := by decide +kernel
theorem dJ9_min_7cf53_1 : decode cJ9_min_7cf53 1 = .ok (.iload_n 1, 1) := by decide +kernel
theorem dJ9_min_7cf53_2 : decode cJ9_min_7cf53 2 = .ok (.if_icmp .gt 7, 3) := by decide +kernel
theorem dJ9_min_7cf53_5 : decode cJ9_min_7cf53 5 = .ok (.iload_n 0, 1) := by decide +kernel
theorem dJ9_min_7cf53_6 : decode cJ9_min_7cf53 6 = .ok (.goto 4, 3) := by decide +kernel
theorem dJ9_min_7cf53_9 : decode cJ9_min_7cf53 9 = .ok (.iload_n 1, 1) := by decide +kernel
theorem dJ9_min_7cf53_10 : decode cJ9_min_7cf53 10 = .ok (.ireturn, 1) := by decide +kernel
theorem dJ0_length_8abf5_0 : decode cJ0_length_8abf5 0 = .ok (.aload_n 0, 1) := by decide +kernel
theorem dJ0_length_8abf5_1 : decode cJ0_length_8abf5 1 = .ok (.getfield 9, 3) := by decide +kernel
theorem dJ0_length_8abf5_4 : decode cJ0_length_8abf5 4 = .ok (.arraylength, 1) := by decide +kernel
theorem dJ0_length_8abf5_5 : decode cJ0_length_8abf5 5 = .ok (.aload_n 0, 1) := by decide +kernel
theorem dJ0_length_8abf5_6 : decode cJ0_length_8abf5 6 = .ok (.invokevirtual 335, 3) := by decide +kernel
theorem dJ0_length_8abf5_9 : decode cJ0_length_8abf5 9 = .ok (.ishr, 1) := by decide +kernel
theorem dJ0_length_8abf5_10 : decode cJ0_length_8abf5 10 = .ok (.ireturn, 1) := by decide +kernel
theorem dJ0_charAt_5068e_0 : decode cJ0_charAt_5068e 0 = .ok (.aload_n 0, 1) := by decide +kernel
theorem dJ0_charAt_5068e_1 : decode cJ0_charAt_5068e 1 = .ok (.invokevirtual 492, 3) := by decide +kernel
theorem dJ0_charAt_5068e_4 : decode cJ0_charAt_5068e 4 = .ok (.ifCond .eq 12, 3) := by decide +kernel
theorem dJ0_charAt_5068e_7 : decode cJ0_charAt_5068e 7 = .ok (.aload_n 0, 1) := by decide +kernel
theorem dJ0_charAt_5068e_8 : decode cJ0_charAt_5068e 8 = .ok (.getfield 9, 3) := by decide +kernel
theorem dJ0_charAt_5068e_11 : decode cJ0_charAt_5068e 11 = .ok (.iload_n 1, 1) := by decide +kernel
theorem dJ0_charAt_5068e_12 : decode cJ0_charAt_5068e 12 = .ok (.invokestatic 495, 3) := by decide +kernel
theorem dJ0_charAt_5068e_15 : decode cJ0_charAt_5068e 15 = .ok (.ireturn, 1) := by decide +kernel
theorem dJ0_charAt_5068e_16 : decode cJ0_charAt_5068e 16 = .ok (.aload_n 0, 1) := by decide +kernel
theorem dJ0_charAt_5068e_17 : decode cJ0_charAt_5068e 17 = .ok (.getfield 9, 3) := by decide +kernel
theorem dJ0_charAt_5068e_20 : decode cJ0_charAt_5068e 20 = .ok (.iload_n 1, 1) := by decide +kernel
theorem dJ0_charAt_5068e_21 : decode cJ0_charAt_5068e 21 = .ok (.invokestatic 498, 3) := by decide +kernel
theorem dJ0_charAt_5068e_24 : decode cJ0_charAt_5068e 24 = .ok (.ireturn, 1) := by decide +kernel
theorem dJ0_coder_7d493_0 : decode cJ0_coder_7d493 0 = .ok (.getstatic 38, 3) := by decide +kernel
theorem dJ0_coder_7d493_3 : decode cJ0_coder_7d493 3 = .ok (.ifCond .eq 10, 3) := by decide +kernel
theorem dJ0_coder_7d493_6 : decode cJ0_coder_7d493 6 = .ok (.aload_n 0, 1) := by decide +kernel
theorem dJ0_coder_7d493_7 : decode cJ0_coder_7d493 7 = .ok (.getfield 15, 3) := by decide +kernel
theorem dJ0_coder_7d493_10 : decode cJ0_coder_7d493 10 = .ok (.goto 4, 3) := by decide +kernel
theorem dJ0_coder_7d493_13 : decode cJ0_coder_7d493 13 = .ok (.iconst 1, 1) := by decide +kernel
theorem dJ0_coder_7d493_14 : decode cJ0_coder_7d493 14 = .ok (.ireturn, 1) := by decide +kernel
theorem dJ0_isLatin1_aae02_0 : decode cJ0_isLatin1_aae02 0 = .ok (.getstatic 38, 3) := by decide +kernel
theorem dJ0_isLatin1_aae02_3 : decode cJ0_isLatin1_aae02 3 = .ok (.ifCond .eq 14, 3) := by decide +kernel
theorem dJ0_isLatin1_aae02_6 : decode cJ0_isLatin1_aae02 6 = .ok (.aload_n 0, 1) := by decide +kernel
theorem dJ0_isLatin1_aae02_7 : decode cJ0_isLatin1_aae02 7 = .ok (.getfield 15, 3) := by decide +kernel
theorem dJ0_isLatin1_aae02_10 : decode cJ0_isLatin1_aae02 10 = .ok (.ifCond .ne 7, 3) := by decide +kernel
theorem dJ0_isLatin1_aae02_13 : decode cJ0_isLatin1_aae02 13 = .ok (.iconst 1, 1) := by decide +kernel
theorem dJ0_isLatin1_aae02_14 : decode cJ0_isLatin1_aae02 14 = .ok (.goto 4, 3) := by decide +kernel
theorem dJ0_isLatin1_aae02_17 : decode cJ0_isLatin1_aae02 17 = .ok (.iconst 0, 1) := by decide +kernel
theorem dJ0_isLatin1_aae02_18 : decode cJ0_isLatin1_aae02 18 = .ok (.ireturn, 1) := by decide +kernel
theorem dJ0_checkIndex_df160_0 : decode cJ0_checkIndex_df160 0 = .ok (.iload_n 0, 1) := by decide +kernel
theorem dJ0_checkIndex_df160_1 : decode cJ0_checkIndex_df160 1 = .ok (.iload_n 1, 1) := by decide +kernel
theorem dJ0_checkIndex_df160_2 : decode cJ0_checkIndex_df160 2 = .ok (.getstatic 1053, 3) := by decide +kernel
theorem dJ0_checkIndex_df160_5 : decode cJ0_checkIndex_df160 5 = .ok (.invokestatic 1059, 3) := by decide +kernel
theorem dJ0_checkIndex_df160_8 : decode cJ0_checkIndex_df160 8 = .ok (.pop, 1) := by decide +kernel
theorem dJ0_checkIndex_df160_9 : decode cJ0_checkIndex_df160 9 = .ok (.return_, 1) := by decide +kernel
theorem dJ1_charAt_3b067_0 : decode cJ1_charAt_3b067 0 = .ok (.iload_n 1, 1) := by decide +kernel
theorem dJ1_charAt_3b067_1 : decode cJ1_charAt_3b067 1 = .ok (.aload_n 0, 1) := by decide +kernel
theorem dJ1_charAt_3b067_2 : decode cJ1_charAt_3b067 2 = .ok (.arraylength, 1) := by decide +kernel
theorem dJ1_charAt_3b067_3 : decode cJ1_charAt_3b067 3 = .ok (.invokestatic 9, 3) := by decide +kernel
theorem dJ1_charAt_3b067_6 : decode cJ1_charAt_3b067 6 = .ok (.aload_n 0, 1) := by decide +kernel
theorem dJ1_charAt_3b067_7 : decode cJ1_charAt_3b067 7 = .ok (.iload_n 1, 1) := by decide +kernel
theorem dJ1_charAt_3b067_8 : decode cJ1_charAt_3b067 8 = .ok (.baload, 1) := by decide +kernel
theorem dJ1_charAt_3b067_9 : decode cJ1_charAt_3b067 9 = .ok (.sipush 255, 3) := by decide +kernel
theorem dJ1_charAt_3b067_12 : decode cJ1_charAt_3b067 12 = .ok (.iand, 1) := by decide +kernel
theorem dJ1_charAt_3b067_13 : decode cJ1_charAt_3b067 13 = .ok (.i2c, 1) := by decide +kernel
theorem dJ1_charAt_3b067_14 : decode cJ1_charAt_3b067 14 = .ok (.ireturn, 1) := by decide +kernel
theorem dJ2_getChar_3b067_0 : decode cJ2_getChar_3b067 0 = .ok (.getstatic 44, 3) := by decide +kernel
theorem dJ2_getChar_3b067_3 : decode cJ2_getChar_3b067 3 = .ok (.ifCond .ne 25, 3) := by decide +kernel
theorem dJ2_getChar_3b067_6 : decode cJ2_getChar_3b067 6 = .ok (.iload_n 1, 1) := by decide +kernel
theorem dJ2_getChar_3b067_7 : decode cJ2_getChar_3b067 7 = .ok (.ifCond .lt 11, 3) := by decide +kernel
theorem dJ2_getChar_3b067_10 : decode cJ2_getChar_3b067 10 = .ok (.iload_n 1, 1) := by decide +kernel
theorem dJ2_getChar_3b067_11 : decode cJ2_getChar_3b067 11 = .ok (.aload_n 0, 1) := by decide +kernel
theorem dJ2_getChar_3b067_12 : decode cJ2_getChar_3b067 12 = .ok (.invokestatic 48, 3) := by decide +kernel
theorem dJ2_getChar_3b067_15 : decode cJ2_getChar_3b067 15 = .ok (.if_icmp .lt 13, 3) := by decide +kernel
theorem dJ2_getChar_3b067_18 : decode cJ2_getChar_3b067 18 = .ok (.new 52, 3) := by decide +kernel
theorem dJ2_getChar_3b067_21 : decode cJ2_getChar_3b067 21 = .ok (.dup, 1) := by decide +kernel
theorem dJ2_getChar_3b067_22 : decode cJ2_getChar_3b067 22 = .ok (.ldc 54, 2) := by decide +kernel
theorem dJ2_getChar_3b067_24 : decode cJ2_getChar_3b067 24 = .ok (.invokespecial 56, 3) := by decide +kernel
theorem dJ2_getChar_3b067_27 : decode cJ2_getChar_3b067 27 = .ok (.athrow, 1) := by decide +kernel
theorem dJ2_getChar_3b067_28 : decode cJ2_getChar_3b067 28 = .ok (.iload_n 1, 1) := by decide +kernel
theorem dJ2_getChar_3b067_29 : decode cJ2_getChar_3b067 29 = .ok (.iconst 1, 1) := by decide +kernel
theorem dJ2_getChar_3b067_30 : decode cJ2_getChar_3b067 30 = .ok (.ishl, 1) := by decide +kernel
theorem dJ2_getChar_3b067_31 : decode cJ2_getChar_3b067 31 = .ok (.istore_n 1, 1) := by decide +kernel
theorem dJ2_getChar_3b067_32 : decode cJ2_getChar_3b067 32 = .ok (.aload_n 0, 1) := by decide +kernel
theorem dJ2_getChar_3b067_33 : decode cJ2_getChar_3b067 33 = .ok (.iload_n 1, 1) := by decide +kernel
theorem dJ2_getChar_3b067_34 : decode cJ2_getChar_3b067 34 = .ok (.iinc 1 1, 3) := by decide +kernel
theorem dJ2_getChar_3b067_37 : decode cJ2_getChar_3b067 37 = .ok (.baload, 1) := by decide +kernel
theorem dJ2_getChar_3b067_38 : decode cJ2_getChar_3b067 38 = .ok (.sipush 255, 3) := by decide +kernel
theorem dJ2_getChar_3b067_41 : decode cJ2_getChar_3b067 41 = .ok (.iand, 1) := by decide +kernel
theorem dJ2_getChar_3b067_42 : decode cJ2_getChar_3b067 42 = .ok (.getstatic 59, 3) := by decide +kernel
theorem dJ2_getChar_3b067_45 : decode cJ2_getChar_3b067 45 = .ok (.ishl, 1) := by decide +kernel
theorem dJ2_getChar_3b067_46 : decode cJ2_getChar_3b067 46 = .ok (.aload_n 0, 1) := by decide +kernel
theorem dJ2_getChar_3b067_47 : decode cJ2_getChar_3b067 47 = .ok (.iload_n 1, 1) := by decide +kernel
theorem dJ2_getChar_3b067_48 : decode cJ2_getChar_3b067 48 = .ok (.baload, 1) := by decide +kernel
theorem dJ2_getChar_3b067_49 : decode cJ2_getChar_3b067 49 = .ok (.sipush 255, 3) := by decide +kernel
theorem dJ2_getChar_3b067_52 : decode cJ2_getChar_3b067 52 = .ok (.iand, 1) := by decide +kernel
theorem dJ2_getChar_3b067_53 : decode cJ2_getChar_3b067 53 = .ok (.getstatic 63, 3) := by decide +kernel
theorem dJ2_getChar_3b067_56 : decode cJ2_getChar_3b067 56 = .ok (.ishl, 1) := by decide +kernel
theorem dJ2_getChar_3b067_57 : decode cJ2_getChar_3b067 57 = .ok (.ior, 1) := by decide +kernel
theorem dJ2_getChar_3b067_58 : decode cJ2_getChar_3b067 58 = .ok (.i2c, 1) := by decide +kernel
theorem dJ2_getChar_3b067_59 : decode cJ2_getChar_3b067 59 = .ok (.ireturn, 1) := by decide +kernel
theorem dJ2_length_9d52b_0 : decode cJ2_length_9d52b 0 = .ok (.aload_n 0, 1) := by decide +kernel
theorem dJ2_length_9d52b_1 : decode cJ2_length_9d52b 1 = .ok (.arraylength, 1) := by decide +kernel
theorem dJ2_length_9d52b_2 : decode cJ2_length_9d52b 2 = .ok (.iconst 1, 1) := by decide +kernel
theorem dJ2_length_9d52b_3 : decode cJ2_length_9d52b 3 = .ok (.ishr, 1) := by decide +kernel
theorem dJ2_length_9d52b_4 : decode cJ2_length_9d52b 4 = .ok (.ireturn, 1) := by decide +kernel
theorem dJ2_charAt_3b067_0 : decode cJ2_charAt_3b067 0 = .ok (.iload_n 1, 1) := by decide +kernel
theorem dJ2_charAt_3b067_1 : decode cJ2_charAt_3b067 1 = .ok (.aload_n 0, 1) := by decide +kernel
theorem dJ2_charAt_3b067_2 : decode cJ2_charAt_3b067 2 = .ok (.invokestatic 67, 3) := by decide +kernel
theorem dJ2_charAt_3b067_5 : decode cJ2_charAt_3b067 5 = .ok (.aload_n 0, 1) := by decide +kernel
theorem dJ2_charAt_3b067_6 : decode cJ2_charAt_3b067 6 = .ok (.iload_n 1, 1) := by decide +kernel
theorem dJ2_charAt_3b067_7 : decode cJ2_charAt_3b067 7 = .ok (.invokestatic 71, 3) := by decide +kernel
theorem dJ2_charAt_3b067_10 : decode cJ2_charAt_3b067 10 = .ok (.ireturn, 1) := by decide +kernel
theorem dJ2_checkIndex_2214a_0 : decode cJ2_checkIndex_2214a 0 = .ok (.iload_n 0, 1) := by decide +kernel
theorem dJ2_checkIndex_2214a_1 : decode cJ2_checkIndex_2214a 1 = .ok (.aload_n 1, 1) := by decide +kernel
theorem dJ2_checkIndex_2214a_2 : decode cJ2_checkIndex_2214a 2 = .ok (.invokestatic 48, 3) := by decide +kernel
theorem dJ2_checkIndex_2214a_5 : decode cJ2_checkIndex_2214a 5 = .ok (.invokestatic 414, 3) := by decide +kernel
theorem dJ2_checkIndex_2214a_8 : decode cJ2_checkIndex_2214a 8 = .ok (.return_, 1) := by decide +kernel
theorem dJxa1e45_init_da8c8_0 : decode cJxa1e45_init_da8c8 0 = .ok (.aload_n 0, 1) := by decide +kernel
theorem dJxa1e45_init_da8c8_1 : decode cJxa1e45_init_da8c8 1 = .ok (.invokespecial 1, 3) := by decide +kernel
theorem dJxa1e45_init_da8c8_4 : decode cJxa1e45_init_da8c8 4 = .ok (.return_, 1) := by decide +kernel
theorem dJxc12de_init_da8c8_0 : decode cJxc12de_init_da8c8 0 = .ok (.aload_n 0, 1) := by decide +kernel
theorem dJxc12de_init_da8c8_1 : decode cJxc12de_init_da8c8 1 = .ok (.invokespecial 1, 3) := by decide +kernel
theorem dJxc12de_init_da8c8_4 : decode cJxc12de_init_da8c8 4 = .ok (.aload_n 0, 1) := by decide +kernel
theorem dJxc12de_init_da8c8_5 : decode cJxc12de_init_da8c8 5 = .ok (.iconst 0, 1) := by decide +kernel
theorem dJxc12de_init_da8c8_6 : decode cJxc12de_init_da8c8 6 = .ok (.putfield 7, 3) := by decide +kernel
theorem dJxc12de_init_da8c8_9 : decode cJxc12de_init_da8c8 9 = .ok (.return_, 1) := by decide +kernel
theorem dJx4a65c_init_da8c8_0 : decode cJx4a65c_init_da8c8 0 = .ok (.aload_n 0, 1) := by decide +kernel
theorem dJx4a65c_init_da8c8_1 : decode cJx4a65c_init_da8c8 1 = .ok (.invokespecial 1, 3) := by decide +kernel
theorem dJx4a65c_init_da8c8_4 : decode cJx4a65c_init_da8c8 4 = .ok (.aload_n 0, 1) := by decide +kernel
theorem dJx4a65c_init_da8c8_5 : decode cJx4a65c_init_da8c8 5 = .ok (.getstatic 39, 3) := by decide +kernel
theorem dJx4a65c_init_da8c8_8 : decode cJx4a65c_init_da8c8 8 = .ok (.putfield 9, 3) := by decide +kernel
theorem dJx4a65c_init_da8c8_11 : decode cJx4a65c_init_da8c8 11 = .ok (.return_, 1) := by decide +kernel
theorem dJx4a65c_grow_92f84_0 : decode cJx4a65c_grow_92f84 0 = .ok (.aload_n 0, 1) := by decide +kernel
theorem dJx4a65c_grow_92f84_1 : decode cJx4a65c_grow_92f84 1 = .ok (.getfield 9, 3) := by decide +kernel
theorem dJx4a65c_grow_92f84_4 : decode cJx4a65c_grow_92f84 4 = .ok (.arraylength, 1) := by decide +kernel
theorem dJx4a65c_grow_92f84_5 : decode cJx4a65c_grow_92f84 5 = .ok (.istore_n 2, 1) := by decide +kernel
theorem dJx4a65c_grow_92f84_6 : decode cJx4a65c_grow_92f84 6 = .ok (.iload_n 2, 1) := by decide +kernel
theorem dJx4a65c_grow_92f84_7 : decode cJx4a65c_grow_92f84 7 = .ok (.ifCond .gt 13, 3) := by decide +kernel
theorem dJx4a65c_grow_92f84_10 : decode cJx4a65c_grow_92f84 10 = .ok (.aload_n 0, 1) := by decide +kernel
theorem dJx4a65c_grow_92f84_11 : decode cJx4a65c_grow_92f84 11 = .ok (.getfield 9, 3) := by decide +kernel
theorem dJx4a65c_grow_92f84_14 : decode cJx4a65c_grow_92f84 14 = .ok (.getstatic 39, 3) := by decide +kernel
theorem dJx4a65c_grow_92f84_17 : decode cJx4a65c_grow_92f84 17 = .ok (.if_acmp .eq 28, 3) := by decide +kernel
theorem dJx4a65c_grow_92f84_20 : decode cJx4a65c_grow_92f84 20 = .ok (.iload_n 2, 1) := by decide +kernel
theorem dJx4a65c_grow_92f84_21 : decode cJx4a65c_grow_92f84 21 = .ok (.iload_n 1, 1) := by decide +kernel
theorem dJx4a65c_grow_92f84_22 : decode cJx4a65c_grow_92f84 22 = .ok (.iload_n 2, 1) := by decide +kernel
theorem dJx4a65c_grow_92f84_23 : decode cJx4a65c_grow_92f84 23 = .ok (.isub, 1) := by decide +kernel
theorem dJx4a65c_grow_92f84_24 : decode cJx4a65c_grow_92f84 24 = .ok (.iload_n 2, 1) := by decide +kernel
theorem dJx4a65c_grow_92f84_25 : decode cJx4a65c_grow_92f84 25 = .ok (.iconst 1, 1) := by decide +kernel
theorem dJx4a65c_grow_92f84_26 : decode cJx4a65c_grow_92f84 26 = .ok (.ishr, 1) := by decide +kernel
theorem dJx4a65c_grow_92f84_27 : decode cJx4a65c_grow_92f84 27 = .ok (.invokestatic 73, 3) := by decide +kernel
theorem dJx4a65c_grow_92f84_30 : decode cJx4a65c_grow_92f84 30 = .ok (.istore_n 3, 1) := by decide +kernel
theorem dJx4a65c_grow_92f84_31 : decode cJx4a65c_grow_92f84 31 = .ok (.aload_n 0, 1) := by decide +kernel
theorem dJx4a65c_grow_92f84_32 : decode cJx4a65c_grow_92f84 32 = .ok (.aload_n 0, 1) := by decide +kernel
theorem dJx4a65c_grow_92f84_33 : decode cJx4a65c_grow_92f84 33 = .ok (.getfield 9, 3) := by decide +kernel
theorem dJx4a65c_grow_92f84_36 : decode cJx4a65c_grow_92f84 36 = .ok (.iload_n 3, 1) := by decide +kernel
theorem dJx4a65c_grow_92f84_37 : decode cJx4a65c_grow_92f84 37 = .ok (.invokestatic 66, 3) := by decide +kernel
theorem dJx4a65c_grow_92f84_40 : decode cJx4a65c_grow_92f84 40 = .ok (.dup_x1, 1) := by decide +kernel
theorem dJx4a65c_grow_92f84_41 : decode cJx4a65c_grow_92f84 41 = .ok (.putfield 9, 3) := by decide +kernel
theorem dJx4a65c_grow_92f84_44 : decode cJx4a65c_grow_92f84 44 = .ok (.areturn, 1) := by decide +kernel
theorem dJx4a65c_grow_92f84_45 : decode cJx4a65c_grow_92f84 45 = .ok (.aload_n 0, 1) := by decide +kernel
theorem dJx4a65c_grow_92f84_46 : decode cJx4a65c_grow_92f84 46 = .ok (.bipush 10, 2) := by decide +kernel
theorem dJx4a65c_grow_92f84_48 : decode cJx4a65c_grow_92f84 48 = .ok (.iload_n 1, 1) := by decide +kernel
theorem dJx4a65c_grow_92f84_49 : decode cJx4a65c_grow_92f84 49 = .ok (.invokestatic 79, 3) := by decide +kernel
theorem dJx4a65c_grow_92f84_52 : decode cJx4a65c_grow_92f84 52 = .ok (.anewarray 7, 3) := by decide +kernel
theorem dJx4a65c_grow_92f84_55 : decode cJx4a65c_grow_92f84 55 = .ok (.dup_x1, 1) := by decide +kernel
theorem dJx4a65c_grow_92f84_56 : decode cJx4a65c_grow_92f84 56 = .ok (.putfield 9, 3) := by decide +kernel
theorem dJx4a65c_grow_92f84_59 : decode cJx4a65c_grow_92f84 59 = .ok (.areturn, 1) := by decide +kernel
theorem dJx4a65c_grow_d5877_0 : decode cJx4a65c_grow_d5877 0 = .ok (.aload_n 0, 1) := by decide +kernel
theorem dJx4a65c_grow_d5877_1 : decode cJx4a65c_grow_d5877 1 = .ok (.aload_n 0, 1) := by decide +kernel
theorem dJx4a65c_grow_d5877_2 : decode cJx4a65c_grow_d5877 2 = .ok (.getfield 48, 3) := by decide +kernel
theorem dJx4a65c_grow_d5877_5 : decode cJx4a65c_grow_d5877 5 = .ok (.iconst 1, 1) := by decide +kernel
theorem dJx4a65c_grow_d5877_6 : decode cJx4a65c_grow_d5877 6 = .ok (.iadd, 1) := by decide +kernel
theorem dJx4a65c_grow_d5877_7 : decode cJx4a65c_grow_d5877 7 = .ok (.invokevirtual 69, 3) := by decide +kernel
theorem dJx4a65c_grow_d5877_10 : decode cJx4a65c_grow_d5877 10 = .ok (.areturn, 1) := by decide +kernel
theorem dJx4a65c_size_8abf5_0 : decode cJx4a65c_size_8abf5 0 = .ok (.aload_n 0, 1) := by decide +kernel
theorem dJx4a65c_size_8abf5_1 : decode cJx4a65c_size_8abf5 1 = .ok (.getfield 48, 3) := by decide +kernel
theorem dJx4a65c_size_8abf5_4 : decode cJx4a65c_size_8abf5 4 = .ok (.ireturn, 1) := by decide +kernel
theorem dJx4a65c_elementData_915e3_0 : decode cJx4a65c_elementData_915e3 0 = .ok (.aload_n 0, 1) := by decide +kernel
theorem dJx4a65c_elementData_915e3_1 : decode cJx4a65c_elementData_915e3 1 = .ok (.getfield 9, 3) := by decide +kernel
theorem dJx4a65c_elementData_915e3_4 : decode cJx4a65c_elementData_915e3 4 = .ok (.iload_n 1, 1) := by decide +kernel
theorem dJx4a65c_elementData_915e3_5 : decode cJx4a65c_elementData_915e3 5 = .ok (.aaload, 1) := by decide +kernel
theorem dJx4a65c_elementData_915e3_6 : decode cJx4a65c_elementData_915e3 6 = .ok (.areturn, 1) := by decide +kernel
theorem dJx4a65c_get_915e3_0 : decode cJx4a65c_get_915e3 0 = .ok (.iload_n 1, 1) := by decide +kernel
theorem dJx4a65c_get_915e3_1 : decode cJx4a65c_get_915e3 1 = .ok (.aload_n 0, 1) := by decide +kernel
theorem dJx4a65c_get_915e3_2 : decode cJx4a65c_get_915e3 2 = .ok (.getfield 48, 3) := by decide +kernel
theorem dJx4a65c_get_915e3_5 : decode cJx4a65c_get_915e3 5 = .ok (.invokestatic 118, 3) := by decide +kernel
theorem dJx4a65c_get_915e3_8 : decode cJx4a65c_get_915e3 8 = .ok (.pop, 1) := by decide +kernel
theorem dJx4a65c_get_915e3_9 : decode cJx4a65c_get_915e3 9 = .ok (.aload_n 0, 1) := by decide +kernel
theorem dJx4a65c_get_915e3_10 : decode cJx4a65c_get_915e3 10 = .ok (.iload_n 1, 1) := by decide +kernel
theorem dJx4a65c_get_915e3_11 : decode cJx4a65c_get_915e3 11 = .ok (.invokevirtual 123, 3) := by decide +kernel
theorem dJx4a65c_get_915e3_14 : decode cJx4a65c_get_915e3 14 = .ok (.areturn, 1) := by decide +kernel
theorem dJx4a65c_add_72be8_0 : decode cJx4a65c_add_72be8 0 = .ok (.iload_n 3, 1) := by decide +kernel
theorem dJx4a65c_add_72be8_1 : decode cJx4a65c_add_72be8 1 = .ok (.aload_n 2, 1) := by decide +kernel
theorem dJx4a65c_add_72be8_2 : decode cJx4a65c_add_72be8 2 = .ok (.arraylength, 1) := by decide +kernel
theorem dJx4a65c_add_72be8_3 : decode cJx4a65c_add_72be8 3 = .ok (.if_icmp .ne 8, 3) := by decide +kernel
theorem dJx4a65c_add_72be8_6 : decode cJx4a65c_add_72be8 6 = .ok (.aload_n 0, 1) := by decide +kernel
theorem dJx4a65c_add_72be8_7 : decode cJx4a65c_add_72be8 7 = .ok (.invokevirtual 129, 3) := by decide +kernel
theorem dJx4a65c_add_72be8_10 : decode cJx4a65c_add_72be8 10 = .ok (.astore_n 2, 1) := by decide +kernel
theorem dJx4a65c_add_72be8_11 : decode cJx4a65c_add_72be8 11 = .ok (.aload_n 2, 1) := by decide +kernel
theorem dJx4a65c_add_72be8_12 : decode cJx4a65c_add_72be8 12 = .ok (.iload_n 3, 1) := by decide +kernel
theorem dJx4a65c_add_72be8_13 : decode cJx4a65c_add_72be8 13 = .ok (.aload_n 1, 1) := by decide +kernel
theorem dJx4a65c_add_72be8_14 : decode cJx4a65c_add_72be8 14 = .ok (.aastore, 1) := by decide +kernel
theorem dJx4a65c_add_72be8_15 : decode cJx4a65c_add_72be8 15 = .ok (.aload_n 0, 1) := by decide +kernel
theorem dJx4a65c_add_72be8_16 : decode cJx4a65c_add_72be8 16 = .ok (.iload_n 3, 1) := by decide +kernel
theorem dJx4a65c_add_72be8_17 : decode cJx4a65c_add_72be8 17 = .ok (.iconst 1, 1) := by decide +kernel
theorem dJx4a65c_add_72be8_18 : decode cJx4a65c_add_72be8 18 = .ok (.iadd, 1) := by decide +kernel
theorem dJx4a65c_add_72be8_19 : decode cJx4a65c_add_72be8 19 = .ok (.putfield 48, 3) := by decide +kernel
theorem dJx4a65c_add_72be8_22 : decode cJx4a65c_add_72be8 22 = .ok (.return_, 1) := by decide +kernel
theorem dJx4a65c_add_9ea2d_0 : decode cJx4a65c_add_9ea2d 0 = .ok (.aload_n 0, 1) := by decide +kernel
theorem dJx4a65c_add_9ea2d_1 : decode cJx4a65c_add_9ea2d 1 = .ok (.dup, 1) := by decide +kernel
theorem dJx4a65c_add_9ea2d_2 : decode cJx4a65c_add_9ea2d 2 = .ok (.getfield 63, 3) := by decide +kernel
theorem dJx4a65c_add_9ea2d_5 : decode cJx4a65c_add_9ea2d 5 = .ok (.iconst 1, 1) := by decide +kernel
theorem dJx4a65c_add_9ea2d_6 : decode cJx4a65c_add_9ea2d 6 = .ok (.iadd, 1) := by decide +kernel
theorem dJx4a65c_add_9ea2d_7 : decode cJx4a65c_add_9ea2d 7 = .ok (.putfield 63, 3) := by decide +kernel
theorem dJx4a65c_add_9ea2d_10 : decode cJx4a65c_add_9ea2d 10 = .ok (.aload_n 0, 1) := by decide +kernel
theorem dJx4a65c_add_9ea2d_11 : decode cJx4a65c_add_9ea2d 11 = .ok (.aload_n 1, 1) := by decide +kernel
theorem dJx4a65c_add_9ea2d_12 : decode cJx4a65c_add_9ea2d 12 = .ok (.aload_n 0, 1) := by decide +kernel
theorem dJx4a65c_add_9ea2d_13 : decode cJx4a65c_add_9ea2d 13 = .ok (.getfield 9, 3) := by decide +kernel
theorem dJx4a65c_add_9ea2d_16 : decode cJx4a65c_add_9ea2d 16 = .ok (.aload_n 0, 1) := by decide +kernel
theorem dJx4a65c_add_9ea2d_17 : decode cJx4a65c_add_9ea2d 17 = .ok (.getfield 48, 3) := by decide +kernel
theorem dJx4a65c_add_9ea2d_20 : decode cJx4a65c_add_9ea2d 20 = .ok (.invokevirtual 131, 3) := by decide +kernel
theorem dJx4a65c_add_9ea2d_23 : decode cJx4a65c_add_9ea2d 23 = .ok (.iconst 1, 1) := by decide +kernel
theorem dJx4a65c_add_9ea2d_24 : decode cJx4a65c_add_9ea2d 24 = .ok (.ireturn, 1) := by decide +kernel
theorem dJx4a65c_remove_915e3_0 : decode cJx4a65c_remove_915e3 0 = .ok (.iload_n 1, 1) := by decide +kernel
theorem dJx4a65c_remove_915e3_1 : decode cJx4a65c_remove_915e3 1 = .ok (.aload_n 0, 1) := by decide +kernel
theorem dJx4a65c_remove_915e3_2 : decode cJx4a65c_remove_915e3 2 = .ok (.getfield 48, 3) := by decide +kernel
theorem dJx4a65c_remove_915e3_5 : decode cJx4a65c_remove_915e3 5 = .ok (.invokestatic 118, 3) := by decide +kernel
theorem dJx4a65c_remove_915e3_8 : decode cJx4a65c_remove_915e3 8 = .ok (.pop, 1) := by decide +kernel
theorem dJx4a65c_remove_915e3_9 : decode cJx4a65c_remove_915e3 9 = .ok (.aload_n 0, 1) := by decide +kernel
theorem dJx4a65c_remove_915e3_10 : decode cJx4a65c_remove_915e3 10 = .ok (.getfield 9, 3) := by decide +kernel
theorem dJx4a65c_remove_915e3_13 : decode cJx4a65c_remove_915e3 13 = .ok (.astore_n 2, 1) := by decide +kernel
theorem dJx4a65c_remove_915e3_14 : decode cJx4a65c_remove_915e3 14 = .ok (.aload_n 2, 1) := by decide +kernel
theorem dJx4a65c_remove_915e3_15 : decode cJx4a65c_remove_915e3 15 = .ok (.iload_n 1, 1) := by decide +kernel
theorem dJx4a65c_remove_915e3_16 : decode cJx4a65c_remove_915e3 16 = .ok (.aaload, 1) := by decide +kernel
theorem dJx4a65c_remove_915e3_17 : decode cJx4a65c_remove_915e3 17 = .ok (.astore_n 3, 1) := by decide +kernel
theorem dJx4a65c_remove_915e3_18 : decode cJx4a65c_remove_915e3 18 = .ok (.aload_n 0, 1) := by decide +kernel
theorem dJx4a65c_remove_915e3_19 : decode cJx4a65c_remove_915e3 19 = .ok (.aload_n 2, 1) := by decide +kernel
theorem dJx4a65c_remove_915e3_20 : decode cJx4a65c_remove_915e3 20 = .ok (.iload_n 1, 1) := by decide +kernel
theorem dJx4a65c_remove_915e3_21 : decode cJx4a65c_remove_915e3 21 = .ok (.invokevirtual 144, 3) := by decide +kernel
theorem dJx4a65c_remove_915e3_24 : decode cJx4a65c_remove_915e3 24 = .ok (.aload_n 3, 1) := by decide +kernel
theorem dJx4a65c_remove_915e3_25 : decode cJx4a65c_remove_915e3 25 = .ok (.areturn, 1) := by decide +kernel
theorem dJx4a65c_fastRemove_b59b0_0 : decode cJx4a65c_fastRemove_b59b0 0 = .ok (.aload_n 0, 1) := by decide +kernel
theorem dJx4a65c_fastRemove_b59b0_1 : decode cJx4a65c_fastRemove_b59b0 1 = .ok (.dup, 1) := by decide +kernel
theorem dJx4a65c_fastRemove_b59b0_2 : decode cJx4a65c_fastRemove_b59b0 2 = .ok (.getfield 63, 3) := by decide +kernel
theorem dJx4a65c_fastRemove_b59b0_5 : decode cJx4a65c_fastRemove_b59b0 5 = .ok (.iconst 1, 1) := by decide +kernel
theorem dJx4a65c_fastRemove_b59b0_6 : decode cJx4a65c_fastRemove_b59b0 6 = .ok (.iadd, 1) := by decide +kernel
theorem dJx4a65c_fastRemove_b59b0_7 : decode cJx4a65c_fastRemove_b59b0 7 = .ok (.putfield 63, 3) := by decide +kernel
theorem dJx4a65c_fastRemove_b59b0_10 : decode cJx4a65c_fastRemove_b59b0 10 = .ok (.aload_n 0, 1) := by decide +kernel
theorem dJx4a65c_fastRemove_b59b0_11 : decode cJx4a65c_fastRemove_b59b0 11 = .ok (.getfield 48, 3) := by decide +kernel
theorem dJx4a65c_fastRemove_b59b0_14 : decode cJx4a65c_fastRemove_b59b0 14 = .ok (.iconst 1, 1) := by decide +kernel
theorem dJx4a65c_fastRemove_b59b0_15 : decode cJx4a65c_fastRemove_b59b0 15 = .ok (.isub, 1) := by decide +kernel
theorem dJx4a65c_fastRemove_b59b0_16 : decode cJx4a65c_fastRemove_b59b0 16 = .ok (.dup, 1) := by decide +kernel
theorem dJx4a65c_fastRemove_b59b0_17 : decode cJx4a65c_fastRemove_b59b0 17 = .ok (.istore_n 3, 1) := by decide +kernel
theorem dJx4a65c_fastRemove_b59b0_18 : decode cJx4a65c_fastRemove_b59b0 18 = .ok (.iload_n 2, 1) := by decide +kernel
theorem dJx4a65c_fastRemove_b59b0_19 : decode cJx4a65c_fastRemove_b59b0 19 = .ok (.if_icmp .le 15, 3) := by decide +kernel
theorem dJx4a65c_fastRemove_b59b0_22 : decode cJx4a65c_fastRemove_b59b0 22 = .ok (.aload_n 1, 1) := by decide +kernel
theorem dJx4a65c_fastRemove_b59b0_23 : decode cJx4a65c_fastRemove_b59b0 23 = .ok (.iload_n 2, 1) := by decide +kernel
theorem dJx4a65c_fastRemove_b59b0_24 : decode cJx4a65c_fastRemove_b59b0 24 = .ok (.iconst 1, 1) := by decide +kernel
theorem dJx4a65c_fastRemove_b59b0_25 : decode cJx4a65c_fastRemove_b59b0 25 = .ok (.iadd, 1) := by decide +kernel
theorem dJx4a65c_fastRemove_b59b0_26 : decode cJx4a65c_fastRemove_b59b0 26 = .ok (.aload_n 1, 1) := by decide +kernel
theorem dJx4a65c_fastRemove_b59b0_27 : decode cJx4a65c_fastRemove_b59b0 27 = .ok (.iload_n 2, 1) := by decide +kernel
theorem dJx4a65c_fastRemove_b59b0_28 : decode cJx4a65c_fastRemove_b59b0 28 = .ok (.iload_n 3, 1) := by decide +kernel
theorem dJx4a65c_fastRemove_b59b0_29 : decode cJx4a65c_fastRemove_b59b0 29 = .ok (.iload_n 2, 1) := by decide +kernel
theorem dJx4a65c_fastRemove_b59b0_30 : decode cJx4a65c_fastRemove_b59b0 30 = .ok (.isub, 1) := by decide +kernel
theorem dJx4a65c_fastRemove_b59b0_31 : decode cJx4a65c_fastRemove_b59b0 31 = .ok (.invokestatic 112, 3) := by decide +kernel
theorem dJx4a65c_fastRemove_b59b0_34 : decode cJx4a65c_fastRemove_b59b0 34 = .ok (.aload_n 1, 1) := by decide +kernel
theorem dJx4a65c_fastRemove_b59b0_35 : decode cJx4a65c_fastRemove_b59b0 35 = .ok (.aload_n 0, 1) := by decide +kernel
theorem dJx4a65c_fastRemove_b59b0_36 : decode cJx4a65c_fastRemove_b59b0 36 = .ok (.iload_n 3, 1) := by decide +kernel
theorem dJx4a65c_fastRemove_b59b0_37 : decode cJx4a65c_fastRemove_b59b0 37 = .ok (.dup_x1, 1) := by decide +kernel
theorem dJx4a65c_fastRemove_b59b0_38 : decode cJx4a65c_fastRemove_b59b0 38 = .ok (.putfield 48, 3) := by decide +kernel
theorem dJx4a65c_fastRemove_b59b0_41 : decode cJx4a65c_fastRemove_b59b0 41 = .ok (.aconst_null, 1) := by decide +kernel
theorem dJx4a65c_fastRemove_b59b0_42 : decode cJx4a65c_fastRemove_b59b0 42 = .ok (.aastore, 1) := by decide +kernel
theorem dJx4a65c_fastRemove_b59b0_43 : decode cJx4a65c_fastRemove_b59b0 43 = .ok (.return_, 1) := by decide +kernel
theorem dJ7_fill_53178_0 : decode cJ7_fill_53178 0 = .ok (.iconst 0, 1) := by decide +kernel
theorem dJ7_fill_53178_1 : decode cJ7_fill_53178 1 = .ok (.istore_n 2, 1) := by decide +kernel
theorem dJ7_fill_53178_2 : decode cJ7_fill_53178 2 = .ok (.aload_n 0, 1) := by decide +kernel
theorem dJ7_fill_53178_3 : decode cJ7_fill_53178 3 = .ok (.arraylength, 1) := by decide +kernel
theorem dJ7_fill_53178_4 : decode cJ7_fill_53178 4 = .ok (.istore_n 3, 1) := by decide +kernel
theorem dJ7_fill_53178_5 : decode cJ7_fill_53178 5 = .ok (.iload_n 2, 1) := by decide +kernel
theorem dJ7_fill_53178_6 : decode cJ7_fill_53178 6 = .ok (.iload_n 3, 1) := by decide +kernel
theorem dJ7_fill_53178_7 : decode cJ7_fill_53178 7 = .ok (.if_icmp .ge 13, 3) := by decide +kernel
theorem dJ7_fill_53178_10 : decode cJ7_fill_53178 10 = .ok (.aload_n 0, 1) := by decide +kernel
theorem dJ7_fill_53178_11 : decode cJ7_fill_53178 11 = .ok (.iload_n 2, 1) := by decide +kernel
theorem dJ7_fill_53178_12 : decode cJ7_fill_53178 12 = .ok (.iload_n 1, 1) := by decide +kernel
theorem dJ7_fill_53178_13 : decode cJ7_fill_53178 13 = .ok (.iastore, 1) := by decide +kernel
theorem dJ7_fill_53178_14 : decode cJ7_fill_53178 14 = .ok (.iinc 2 1, 3) := by decide +kernel
theorem dJ7_fill_53178_17 : decode cJ7_fill_53178 17 = .ok (.goto (-12), 3) := by decide +kernel
theorem dJ7_fill_53178_20 : decode cJ7_fill_53178 20 = .ok (.return_, 1) := by decide +kernel
theorem dJ7_copyOf_1904c_0 : decode cJ7_copyOf_1904c 0 = .ok (.aload_n 0, 1) := by decide +kernel
theorem dJ7_copyOf_1904c_1 : decode cJ7_copyOf_1904c 1 = .ok (.iload_n 1, 1) := by decide +kernel
theorem dJ7_copyOf_1904c_2 : decode cJ7_copyOf_1904c 2 = .ok (.aload_n 0, 1) := by decide +kernel
theorem dJ7_copyOf_1904c_3 : decode cJ7_copyOf_1904c 3 = .ok (.invokevirtual 86, 3) := by decide +kernel
theorem dJ7_copyOf_1904c_6 : decode cJ7_copyOf_1904c 6 = .ok (.invokestatic 300, 3) := by decide +kernel
theorem dJ7_copyOf_1904c_9 : decode cJ7_copyOf_1904c 9 = .ok (.areturn, 1) := by decide +kernel
theorem dJ7_copyOf_6403c_0 : decode cJ7_copyOf_6403c 0 = .ok (.aload_n 2, 1) := by decide +kernel
theorem dJ7_copyOf_6403c_1 : decode cJ7_copyOf_6403c 1 = .ok (.ldc 110, 2) := by decide +kernel
theorem dJ7_copyOf_6403c_3 : decode cJ7_copyOf_6403c 3 = .ok (.if_acmp .ne 10, 3) := by decide +kernel
theorem dJ7_copyOf_6403c_6 : decode cJ7_copyOf_6403c 6 = .ok (.iload_n 1, 1) := by decide +kernel
theorem dJ7_copyOf_6403c_7 : decode cJ7_copyOf_6403c 7 = .ok (.anewarray 2, 3) := by decide +kernel
theorem dJ7_copyOf_6403c_10 : decode cJ7_copyOf_6403c 10 = .ok (.goto 14, 3) := by decide +kernel
theorem dJ7_copyOf_6403c_13 : decode cJ7_copyOf_6403c 13 = .ok (.aload_n 2, 1) := by decide +kernel
theorem dJ7_copyOf_6403c_14 : decode cJ7_copyOf_6403c 14 = .ok (.invokevirtual 90, 3) := by decide +kernel
theorem dJ7_copyOf_6403c_17 : decode cJ7_copyOf_6403c 17 = .ok (.iload_n 1, 1) := by decide +kernel
theorem dJ7_copyOf_6403c_18 : decode cJ7_copyOf_6403c 18 = .ok (.invokestatic 95, 3) := by decide +kernel
theorem dJ7_copyOf_6403c_21 : decode cJ7_copyOf_6403c 21 = .ok (.checkcast 110, 3) := by decide +kernel
theorem dJ7_copyOf_6403c_24 : decode cJ7_copyOf_6403c 24 = .ok (.astore_n 3, 1) := by decide +kernel
theorem dJ7_copyOf_6403c_25 : decode cJ7_copyOf_6403c 25 = .ok (.aload_n 0, 1) := by decide +kernel
theorem dJ7_copyOf_6403c_26 : decode cJ7_copyOf_6403c 26 = .ok (.iconst 0, 1) := by decide +kernel
theorem dJ7_copyOf_6403c_27 : decode cJ7_copyOf_6403c 27 = .ok (.aload_n 3, 1) := by decide +kernel
theorem dJ7_copyOf_6403c_28 : decode cJ7_copyOf_6403c 28 = .ok (.iconst 0, 1) := by decide +kernel
theorem dJ7_copyOf_6403c_29 : decode cJ7_copyOf_6403c 29 = .ok (.aload_n 0, 1) := by decide +kernel
theorem dJ7_copyOf_6403c_30 : decode cJ7_copyOf_6403c 30 = .ok (.arraylength, 1) := by decide +kernel
theorem dJ7_copyOf_6403c_31 : decode cJ7_copyOf_6403c 31 = .ok (.iload_n 1, 1) := by decide +kernel
theorem dJ7_copyOf_6403c_32 : decode cJ7_copyOf_6403c 32 = .ok (.invokestatic 304, 3) := by decide +kernel
theorem dJ7_copyOf_6403c_35 : decode cJ7_copyOf_6403c 35 = .ok (.invokestatic 150, 3) := by decide +kernel
theorem dJ7_copyOf_6403c_38 : decode cJ7_copyOf_6403c 38 = .ok (.aload_n 3, 1) := by decide +kernel
theorem dJ7_copyOf_6403c_39 : decode cJ7_copyOf_6403c 39 = .ok (.areturn, 1) := by decide +kernel
theorem dJ15_checkIndex_7cf53_0 : decode cJ15_checkIndex_7cf53 0 = .ok (.iload_n 0, 1) := by decide +kernel
theorem dJ15_checkIndex_7cf53_1 : decode cJ15_checkIndex_7cf53 1 = .ok (.iload_n 1, 1) := by decide +kernel
theorem dJ15_checkIndex_7cf53_2 : decode cJ15_checkIndex_7cf53 2 = .ok (.aconst_null, 1) := by decide +kernel
theorem dJ15_checkIndex_7cf53_3 : decode cJ15_checkIndex_7cf53 3 = .ok (.invokestatic 105, 3) := by decide +kernel
theorem dJ15_checkIndex_7cf53_6 : decode cJ15_checkIndex_7cf53 6 = .ok (.ireturn, 1) := by decide +kernel
theorem dJ8_newLength_cabcc_0 : decode cJ8_newLength_cabcc 0 = .ok (.iload_n 0, 1) := by decide +kernel
theorem dJ8_newLength_cabcc_1 : decode cJ8_newLength_cabcc 1 = .ok (.iload_n 1, 1) := by decide +kernel
theorem dJ8_newLength_cabcc_2 : decode cJ8_newLength_cabcc 2 = .ok (.iload_n 2, 1) := by decide +kernel
theorem dJ8_newLength_cabcc_3 : decode cJ8_newLength_cabcc 3 = .ok (.invokestatic 194, 3) := by decide +kernel
theorem dJ8_newLength_cabcc_6 : decode cJ8_newLength_cabcc 6 = .ok (.iadd, 1) := by decide +kernel
theorem dJ8_newLength_cabcc_7 : decode cJ8_newLength_cabcc 7 = .ok (.istore_n 3, 1) := by decide +kernel
theorem dJ8_newLength_cabcc_8 : decode cJ8_newLength_cabcc 8 = .ok (.iconst 0, 1) := by decide +kernel
theorem dJ8_newLength_cabcc_9 : decode cJ8_newLength_cabcc 9 = .ok (.iload_n 3, 1) := by decide +kernel
theorem dJ8_newLength_cabcc_10 : decode cJ8_newLength_cabcc 10 = .ok (.if_icmp .ge 11, 3) := by decide +kernel
theorem dJ8_newLength_cabcc_13 : decode cJ8_newLength_cabcc 13 = .ok (.iload_n 3, 1) := by decide +kernel
theorem dJ8_newLength_cabcc_14 : decode cJ8_newLength_cabcc 14 = .ok (.ldc 200, 2) := by decide +kernel
theorem dJ8_newLength_cabcc_16 : decode cJ8_newLength_cabcc 16 = .ok (.if_icmp .gt 5, 3) := by decide +kernel
theorem dJ8_newLength_cabcc_19 : decode cJ8_newLength_cabcc 19 = .ok (.iload_n 3, 1) := by decide +kernel
theorem dJ8_newLength_cabcc_20 : decode cJ8_newLength_cabcc 20 = .ok (.ireturn, 1) := by decide +kernel
theorem dJ8_newLength_cabcc_21 : decode cJ8_newLength_cabcc 21 = .ok (.iload_n 0, 1) := by decide +kernel
theorem dJ8_newLength_cabcc_22 : decode cJ8_newLength_cabcc 22 = .ok (.iload_n 1, 1) := by decide +kernel
theorem dJ8_newLength_cabcc_23 : decode cJ8_newLength_cabcc 23 = .ok (.invokestatic 201, 3) := by decide +kernel
theorem dJ8_newLength_cabcc_26 : decode cJ8_newLength_cabcc 26 = .ok (.ireturn, 1) := by decide +kernel
theorem dJ8_hugeLength_7cf53_0 : decode cJ8_hugeLength_7cf53 0 = .ok (.iload_n 0, 1) := by decide +kernel
theorem dJ8_hugeLength_7cf53_1 : decode cJ8_hugeLength_7cf53 1 = .ok (.iload_n 1, 1) := by decide +kernel
theorem dJ8_hugeLength_7cf53_2 : decode cJ8_hugeLength_7cf53 2 = .ok (.iadd, 1) := by decide +kernel
theorem dJ8_hugeLength_7cf53_3 : decode cJ8_hugeLength_7cf53 3 = .ok (.istore_n 2, 1) := by decide +kernel
theorem dJ8_hugeLength_7cf53_4 : decode cJ8_hugeLength_7cf53 4 = .ok (.iload_n 2, 1) := by decide +kernel
theorem dJ8_hugeLength_7cf53_5 : decode cJ8_hugeLength_7cf53 5 = .ok (.ifCond .ge 44, 3) := by decide +kernel
theorem dJ8_hugeLength_7cf53_8 : decode cJ8_hugeLength_7cf53 8 = .ok (.new 204, 3) := by decide +kernel
theorem dJ8_hugeLength_7cf53_11 : decode cJ8_hugeLength_7cf53 11 = .ok (.dup, 1) := by decide +kernel
theorem dJ8_hugeLength_7cf53_12 : decode cJ8_hugeLength_7cf53 12 = .ok (.new 89, 3) := by decide +kernel
theorem dJ8_hugeLength_7cf53_15 : decode cJ8_hugeLength_7cf53 15 = .ok (.dup, 1) := by decide +kernel
theorem dJ8_hugeLength_7cf53_16 : decode cJ8_hugeLength_7cf53 16 = .ok (.invokespecial 91, 3) := by decide +kernel
theorem dJ8_hugeLength_7cf53_19 : decode cJ8_hugeLength_7cf53 19 = .ok (.ldc 206, 2) := by decide +kernel
theorem dJ8_hugeLength_7cf53_21 : decode cJ8_hugeLength_7cf53 21 = .ok (.invokevirtual 94, 3) := by decide +kernel
theorem dJ8_hugeLength_7cf53_24 : decode cJ8_hugeLength_7cf53 24 = .ok (.iload_n 0, 1) := by decide +kernel
theorem dJ8_hugeLength_7cf53_25 : decode cJ8_hugeLength_7cf53 25 = .ok (.invokevirtual 98, 3) := by decide +kernel
theorem dJ8_hugeLength_7cf53_28 : decode cJ8_hugeLength_7cf53 28 = .ok (.ldc 208, 2) := by decide +kernel
theorem dJ8_hugeLength_7cf53_30 : decode cJ8_hugeLength_7cf53 30 = .ok (.invokevirtual 94, 3) := by decide +kernel
theorem dJ8_hugeLength_7cf53_33 : decode cJ8_hugeLength_7cf53 33 = .ok (.iload_n 1, 1) := by decide +kernel
theorem dJ8_hugeLength_7cf53_34 : decode cJ8_hugeLength_7cf53 34 = .ok (.invokevirtual 98, 3) := by decide +kernel
theorem dJ8_hugeLength_7cf53_37 : decode cJ8_hugeLength_7cf53 37 = .ok (.ldc 210, 2) := by decide +kernel
theorem dJ8_hugeLength_7cf53_39 : decode cJ8_hugeLength_7cf53 39 = .ok (.invokevirtual 94, 3) := by decide +kernel
theorem dJ8_hugeLength_7cf53_42 : decode cJ8_hugeLength_7cf53 42 = .ok (.invokevirtual 101, 3) := by decide +kernel
theorem dJ8_hugeLength_7cf53_45 : decode cJ8_hugeLength_7cf53 45 = .ok (.invokespecial 212, 3) := by decide +kernel
theorem dJ8_hugeLength_7cf53_48 : decode cJ8_hugeLength_7cf53 48 = .ok (.athrow, 1) := by decide +kernel
theorem dJ8_hugeLength_7cf53_49 : decode cJ8_hugeLength_7cf53 49 = .ok (.iload_n 2, 1) := by decide +kernel
theorem dJ8_hugeLength_7cf53_50 : decode cJ8_hugeLength_7cf53 50 = .ok (.ldc 200, 2) := by decide +kernel
theorem dJ8_hugeLength_7cf53_52 : decode cJ8_hugeLength_7cf53 52 = .ok (.if_icmp .gt 6, 3) := by decide +kernel
theorem dJ8_hugeLength_7cf53_55 : decode cJ8_hugeLength_7cf53 55 = .ok (.ldc 200, 2) := by decide +kernel
theorem dJ8_hugeLength_7cf53_57 : decode cJ8_hugeLength_7cf53 57 = .ok (.ireturn, 1) := by decide +kernel
theorem dJ8_hugeLength_7cf53_58 : decode cJ8_hugeLength_7cf53 58 = .ok (.iload_n 2, 1) := by decide +kernel
theorem dJ8_hugeLength_7cf53_59 : decode cJ8_hugeLength_7cf53 59 = .ok (.ireturn, 1) := by decide +kernel
theorem dJ3_checkIndex_8e157_0 : decode cJ3_checkIndex_8e157 0 = .ok (.iload_n 0, 1) := by decide +kernel
theorem dJ3_checkIndex_8e157_1 : decode cJ3_checkIndex_8e157 1 = .ok (.ifCond .lt 8, 3) := by decide +kernel
theorem dJ3_checkIndex_8e157_4 : decode cJ3_checkIndex_8e157 4 = .ok (.iload_n 0, 1) := by decide +kernel
theorem dJ3_checkIndex_8e157_5 : decode cJ3_checkIndex_8e157 5 = .ok (.iload_n 1, 1) := by decide +kernel
theorem dJ3_checkIndex_8e157_6 : decode cJ3_checkIndex_8e157 6 = .ok (.if_icmp .lt 10, 3) := by decide +kernel
theorem dJ3_checkIndex_8e157_9 : decode cJ3_checkIndex_8e157 9 = .ok (.aload_n 2, 1) := by decide +kernel
theorem dJ3_checkIndex_8e157_10 : decode cJ3_checkIndex_8e157 10 = .ok (.iload_n 0, 1) := by decide +kernel
theorem dJ3_checkIndex_8e157_11 : decode cJ3_checkIndex_8e157 11 = .ok (.iload_n 1, 1) := by decide +kernel
theorem dJ3_checkIndex_8e157_12 : decode cJ3_checkIndex_8e157 12 = .ok (.invokestatic 95, 3) := by decide +kernel
theorem dJ3_checkIndex_8e157_15 : decode cJ3_checkIndex_8e157 15 = .ok (.athrow, 1) := by decide +kernel
theorem dJ3_checkIndex_8e157_16 : decode cJ3_checkIndex_8e157 16 = .ok (.iload_n 0, 1) := by decide +kernel
theorem dJ3_checkIndex_8e157_17 : decode cJ3_checkIndex_8e157 17 = .ok (.ireturn, 1) := by decide +kernel
end
section
theorem dX0_init_0 : decode cX0_init 0 = .ok (.aload_n 0, 1) := by decide +kernel
theorem dX0_init_1 : decode cX0_init 1 = .ok (.invokespecial 3, 3) := by decide +kernel
theorem dX0_init_4 : decode cX0_init 4 = .ok (.aload_n 0, 1) := by decide +kernel
theorem dX0_init_5 : decode cX0_init 5 = .ok (.bipush 12, 2) := by decide +kernel
theorem dX0_init_7 : decode cX0_init 7 = .ok (.newarray .int, 2) := by decide +kernel
theorem dX0_init_9 : decode cX0_init 9 = .ok (.putfield 9, 3) := by decide +kernel
theorem dX0_init_12 : decode cX0_init 12 = .ok (.aload_n 0, 1) := by decide +kernel
theorem dX0_init_13 : decode cX0_init 13 = .ok (.bipush 12, 2) := by decide +kernel
theorem dX0_init_15 : decode cX0_init 15 = .ok (.newarray .int, 2) := by decide +kernel
theorem dX0_init_17 : decode cX0_init 17 = .ok (.putfield 15, 3) := by decide +kernel
theorem dX0_init_20 : decode cX0_init 20 = .ok (.aload_n 0, 1) := by decide +kernel
theorem dX0_init_21 : decode cX0_init 21 = .ok (.bipush 12, 2) := by decide +kernel
theorem dX0_init_23 : decode cX0_init 23 = .ok (.newarray .int, 2) := by decide +kernel
theorem dX0_init_25 : decode cX0_init 25 = .ok (.putfield 18, 3) := by decide +kernel
theorem dX0_init_28 : decode cX0_init 28 = .ok (.aload_n 0, 1) := by decide +kernel
theorem dX0_init_29 : decode cX0_init 29 = .ok (.bipush 12, 2) := by decide +kernel
theorem dX0_init_31 : decode cX0_init 31 = .ok (.newarray .int, 2) := by decide +kernel
theorem dX0_init_33 : decode cX0_init 33 = .ok (.putfield 21, 3) := by decide +kernel
theorem dX0_init_36 : decode cX0_init 36 = .ok (.aload_n 0, 1) := by decide +kernel
theorem dX0_init_37 : decode cX0_init 37 = .ok (.bipush 12, 2) := by decide +kernel
theorem dX0_init_39 : decode cX0_init 39 = .ok (.newarray .int, 2) := by decide +kernel
theorem dX0_init_41 : decode cX0_init 41 = .ok (.putfield 24, 3) := by decide +kernel
theorem dX0_init_44 : decode cX0_init 44 = .ok (.aload_n 0, 1) := by decide +kernel
theorem dX0_init_45 : decode cX0_init 45 = .ok (.bipush 12, 2) := by decide +kernel
theorem dX0_init_47 : decode cX0_init 47 = .ok (.newarray .int, 2) := by decide +kernel
theorem dX0_init_49 : decode cX0_init 49 = .ok (.putfield 27, 3) := by decide +kernel
theorem dX0_init_52 : decode cX0_init 52 = .ok (.aload_n 0, 1) := by decide +kernel
theorem dX0_init_53 : decode cX0_init 53 = .ok (.iconst 0, 1) := by decide +kernel
theorem dX0_init_54 : decode cX0_init 54 = .ok (.putfield 30, 3) := by decide +kernel
theorem dX0_init_57 : decode cX0_init 57 = .ok (.aload_n 0, 1) := by decide +kernel
theorem dX0_init_58 : decode cX0_init 58 = .ok (.iconst 0, 1) := by decide +kernel
theorem dX0_init_59 : decode cX0_init 59 = .ok (.putfield 34, 3) := by decide +kernel
theorem dX0_init_62 : decode cX0_init 62 = .ok (.return_, 1) := by decide +kernel
theorem dX0_trace_0 : decode cX0_trace 0 = .ok (.aload_n 0, 1) := by decide +kernel
theorem dX0_trace_1 : decode cX0_trace 1 = .ok (.aload_n 1, 1) := by decide +kernel
theorem dX0_trace_2 : decode cX0_trace 2 = .ok (.invokevirtual 37, 3) := by decide +kernel
theorem dX0_trace_5 : decode cX0_trace 5 = .ok (.bipush 12, 2) := by decide +kernel
theorem dX0_trace_7 : decode cX0_trace 7 = .ok (.invokestatic 42, 3) := by decide +kernel
theorem dX0_trace_10 : decode cX0_trace 10 = .ok (.putfield 30, 3) := by decide +kernel
theorem dX0_trace_13 : decode cX0_trace 13 = .ok (.aload_n 0, 1) := by decide +kernel
theorem dX0_trace_14 : decode cX0_trace 14 = .ok (.getfield 24, 3) := by decide +kernel
theorem dX0_trace_17 : decode cX0_trace 17 = .ok (.iconst 0, 1) := by decide +kernel
theorem dX0_trace_18 : decode cX0_trace 18 = .ok (.invokestatic 48, 3) := by decide +kernel
theorem dX0_trace_21 : decode cX0_trace 21 = .ok (.iconst (-1), 1) := by decide +kernel
theorem dX0_trace_22 : decode cX0_trace 22 = .ok (.istore 4, 2) := by decide +kernel
theorem dX0_trace_24 : decode cX0_trace 24 = .ok (.iconst 0, 1) := by decide +kernel
theorem dX0_trace_25 : decode cX0_trace 25 = .ok (.istore 5, 2) := by decide +kernel
theorem dX0_trace_27 : decode cX0_trace 27 = .ok (.iload 5, 2) := by decide +kernel
theorem dX0_trace_29 : decode cX0_trace 29 = .ok (.aload_n 0, 1) := by decide +kernel
theorem dX0_trace_30 : decode cX0_trace 30 = .ok (.getfield 30, 3) := by decide +kernel
theorem dX0_trace_33 : decode cX0_trace 33 = .ok (.if_icmp .ge 92, 3) := by decide +kernel
theorem dX0_trace_36 : decode cX0_trace 36 = .ok (.lload_n 2, 1) := by decide +kernel
theorem dX0_trace_37 : decode cX0_trace 37 = .ok (.iload 5, 2) := by decide +kernel
theorem dX0_trace_39 : decode cX0_trace 39 = .ok (.invokestatic 54, 3) := by decide +kernel
theorem dX0_trace_42 : decode cX0_trace 42 = .ok (.istore 6, 2) := by decide +kernel
theorem dX0_trace_44 : decode cX0_trace 44 = .ok (.aload_n 0, 1) := by decide +kernel
theorem dX0_trace_45 : decode cX0_trace 45 = .ok (.getfield 9, 3) := by decide +kernel
theorem dX0_trace_48 : decode cX0_trace 48 = .ok (.iload 5, 2) := by decide +kernel
theorem dX0_trace_50 : decode cX0_trace 50 = .ok (.aload_n 1, 1) := by decide +kernel
theorem dX0_trace_51 : decode cX0_trace 51 = .ok (.iload 5, 2) := by decide +kernel
theorem dX0_trace_53 : decode cX0_trace 53 = .ok (.invokevirtual 60, 3) := by decide +kernel
theorem dX0_trace_56 : decode cX0_trace 56 = .ok (.iastore, 1) := by decide +kernel
theorem dX0_trace_57 : decode cX0_trace 57 = .ok (.aload_n 0, 1) := by decide +kernel
theorem dX0_trace_58 : decode cX0_trace 58 = .ok (.getfield 15, 3) := by decide +kernel
theorem dX0_trace_61 : decode cX0_trace 61 = .ok (.iload 5, 2) := by decide +kernel
theorem dX0_trace_63 : decode cX0_trace 63 = .ok (.iload 6, 2) := by decide +kernel
theorem dX0_trace_65 : decode cX0_trace 65 = .ok (.iastore, 1) := by decide +kernel
theorem dX0_trace_66 : decode cX0_trace 66 = .ok (.aload_n 0, 1) := by decide +kernel
theorem dX0_trace_67 : decode cX0_trace 67 = .ok (.getfield 18, 3) := by decide +kernel
theorem dX0_trace_70 : decode cX0_trace 70 = .ok (.iload 5, 2) := by decide +kernel
theorem dX0_trace_72 : decode cX0_trace 72 = .ok (.iload 5, 2) := by decide +kernel
theorem dX0_trace_74 : decode cX0_trace 74 = .ok (.aload_n 1, 1) := by decide +kernel
theorem dX0_trace_75 : decode cX0_trace 75 = .ok (.iload 5, 2) := by decide +kernel
theorem dX0_trace_77 : decode cX0_trace 77 = .ok (.invokevirtual 60, 3) := by decide +kernel
theorem dX0_trace_80 : decode cX0_trace 80 = .ok (.iload 6, 2) := by decide +kernel
theorem dX0_trace_82 : decode cX0_trace 82 = .ok (.aload_n 1, 1) := by decide +kernel
theorem dX0_trace_83 : decode cX0_trace 83 = .ok (.iload 6, 2) := by decide +kernel
theorem dX0_trace_85 : decode cX0_trace 85 = .ok (.invokevirtual 60, 3) := by decide +kernel
theorem dX0_trace_88 : decode cX0_trace 88 = .ok (.invokestatic 64, 3) := by decide +kernel
theorem dX0_trace_91 : decode cX0_trace 91 = .ok (.iastore, 1) := by decide +kernel
theorem dX0_trace_92 : decode cX0_trace 92 = .ok (.aload_n 0, 1) := by decide +kernel
theorem dX0_trace_93 : decode cX0_trace 93 = .ok (.iload 6, 2) := by decide +kernel
theorem dX0_trace_95 : decode cX0_trace 95 = .ok (.invokevirtual 68, 3) := by decide +kernel
theorem dX0_trace_98 : decode cX0_trace 98 = .ok (.ifCond .eq 17, 3) := by decide +kernel
theorem dX0_trace_101 : decode cX0_trace 101 = .ok (.aload_n 0, 1) := by decide +kernel
theorem dX0_trace_102 : decode cX0_trace 102 = .ok (.getfield 24, 3) := by decide +kernel
theorem dX0_trace_105 : decode cX0_trace 105 = .ok (.iload 6, 2) := by decide +kernel
theorem dX0_trace_107 : decode cX0_trace 107 = .ok (.dup2, 1) := by decide +kernel
theorem dX0_trace_108 : decode cX0_trace 108 = .ok (.iaload, 1) := by decide +kernel
theorem dX0_trace_109 : decode cX0_trace 109 = .ok (.iconst 1, 1) := by decide +kernel
theorem dX0_trace_110 : decode cX0_trace 110 = .ok (.iadd, 1) := by decide +kernel
theorem dX0_trace_111 : decode cX0_trace 111 = .ok (.iastore, 1) := by decide +kernel
theorem dX0_trace_112 : decode cX0_trace 112 = .ok (.goto 7, 3) := by decide +kernel
theorem dX0_trace_115 : decode cX0_trace 115 = .ok (.iload 5, 2) := by decide +kernel
theorem dX0_trace_117 : decode cX0_trace 117 = .ok (.istore 4, 2) := by decide +kernel
theorem dX0_trace_119 : decode cX0_trace 119 = .ok (.iinc 5 1, 3) := by decide +kernel
theorem dX0_trace_122 : decode cX0_trace 122 = .ok (.goto (-95), 3) := by decide +kernel
theorem dX0_trace_125 : decode cX0_trace 125 = .ok (.iconst 0, 1) := by decide +kernel
theorem dX0_trace_126 : decode cX0_trace 126 = .ok (.istore 5, 2) := by decide +kernel
theorem dX0_trace_128 : decode cX0_trace 128 = .ok (.iload 5, 2) := by decide +kernel
theorem dX0_trace_130 : decode cX0_trace 130 = .ok (.aload_n 0, 1) := by decide +kernel
theorem dX0_trace_131 : decode cX0_trace 131 = .ok (.getfield 30, 3) := by decide +kernel
theorem dX0_trace_134 : decode cX0_trace 134 = .ok (.if_icmp .ge 22, 3) := by decide +kernel
theorem dX0_trace_137 : decode cX0_trace 137 = .ok (.aload_n 0, 1) := by decide +kernel
theorem dX0_trace_138 : decode cX0_trace 138 = .ok (.getfield 21, 3) := by decide +kernel
theorem dX0_trace_141 : decode cX0_trace 141 = .ok (.iload 5, 2) := by decide +kernel
theorem dX0_trace_143 : decode cX0_trace 143 = .ok (.aload_n 0, 1) := by decide +kernel
theorem dX0_trace_144 : decode cX0_trace 144 = .ok (.iload 5, 2) := by decide +kernel
theorem dX0_trace_146 : decode cX0_trace 146 = .ok (.invokevirtual 72, 3) := by decide +kernel
theorem dX0_trace_149 : decode cX0_trace 149 = .ok (.iastore, 1) := by decide +kernel
theorem dX0_trace_150 : decode cX0_trace 150 = .ok (.iinc 5 1, 3) := by decide +kernel
theorem dX0_trace_153 : decode cX0_trace 153 = .ok (.goto (-25), 3) := by decide +kernel
theorem dX0_trace_156 : decode cX0_trace 156 = .ok (.aload_n 0, 1) := by decide +kernel
theorem dX0_trace_157 : decode cX0_trace 157 = .ok (.iconst 0, 1) := by decide +kernel
theorem dX0_trace_158 : decode cX0_trace 158 = .ok (.putfield 34, 3) := by decide +kernel
theorem dX0_trace_161 : decode cX0_trace 161 = .ok (.aload_n 0, 1) := by decide +kernel
theorem dX0_trace_162 : decode cX0_trace 162 = .ok (.iload 4, 2) := by decide +kernel
theorem dX0_trace_164 : decode cX0_trace 164 = .ok (.iconst 0, 1) := by decide +kernel
theorem dX0_trace_165 : decode cX0_trace 165 = .ok (.invokevirtual 75, 3) := by decide +kernel
theorem dX0_trace_168 : decode cX0_trace 168 = .ok (.return_, 1) := by decide +kernel
theorem dX0_property_0 : decode cX0_property 0 = .ok (.aload_n 0, 1) := by decide +kernel
theorem dX0_property_1 : decode cX0_property 1 = .ok (.iload_n 1, 1) := by decide +kernel
theorem dX0_property_2 : decode cX0_property 2 = .ok (.invokevirtual 68, 3) := by decide +kernel
theorem dX0_property_5 : decode cX0_property 5 = .ok (.ifCond .ne 5, 3) := by decide +kernel
theorem dX0_property_8 : decode cX0_property 8 = .ok (.iconst (-1), 1) := by decide +kernel
theorem dX0_property_9 : decode cX0_property 9 = .ok (.ireturn, 1) := by decide +kernel
theorem dX0_property_10 : decode cX0_property 10 = .ok (.iload_n 2, 1) := by decide +kernel
theorem dX0_property_11 : decode cX0_property 11 = .ok (.tableswitch 60 1 4 #[29, 36, 43, 53], 29) := by decide +kernel
theorem dX0_property_40 : decode cX0_property 40 = .ok (.aload_n 0, 1) := by decide +kernel
theorem dX0_property_41 : decode cX0_property 41 = .ok (.getfield 15, 3) := by decide +kernel
theorem dX0_property_44 : decode cX0_property 44 = .ok (.iload_n 1, 1) := by decide +kernel
theorem dX0_property_45 : decode cX0_property 45 = .ok (.iaload, 1) := by decide +kernel
theorem dX0_property_46 : decode cX0_property 46 = .ok (.ireturn, 1) := by decide +kernel
theorem dX0_property_47 : decode cX0_property 47 = .ok (.aload_n 0, 1) := by decide +kernel
theorem dX0_property_48 : decode cX0_property 48 = .ok (.getfield 18, 3) := by decide +kernel
theorem dX0_property_51 : decode cX0_property 51 = .ok (.iload_n 1, 1) := by decide +kernel
theorem dX0_property_52 : decode cX0_property 52 = .ok (.iaload, 1) := by decide +kernel
theorem dX0_property_53 : decode cX0_property 53 = .ok (.ireturn, 1) := by decide +kernel
theorem dX0_property_54 : decode cX0_property 54 = .ok (.aload_n 0, 1) := by decide +kernel
theorem dX0_property_55 : decode cX0_property 55 = .ok (.getfield 21, 3) := by decide +kernel
theorem dX0_property_58 : decode cX0_property 58 = .ok (.iload_n 1, 1) := by decide +kernel
theorem dX0_property_59 : decode cX0_property 59 = .ok (.iaload, 1) := by decide +kernel
theorem dX0_property_60 : decode cX0_property 60 = .ok (.bipush 20, 2) := by decide +kernel
theorem dX0_property_62 : decode cX0_property 62 = .ok (.iadd, 1) := by decide +kernel
theorem dX0_property_63 : decode cX0_property 63 = .ok (.ireturn, 1) := by decide +kernel
theorem dX0_property_64 : decode cX0_property 64 = .ok (.aload_n 0, 1) := by decide +kernel
theorem dX0_property_65 : decode cX0_property 65 = .ok (.getfield 24, 3) := by decide +kernel
theorem dX0_property_68 : decode cX0_property 68 = .ok (.iload_n 1, 1) := by decide +kernel
theorem dX0_property_69 : decode cX0_property 69 = .ok (.iaload, 1) := by decide +kernel
theorem dX0_property_70 : decode cX0_property 70 = .ok (.ireturn, 1) := by decide +kernel
theorem dX0_property_71 : decode cX0_property 71 = .ok (.aload_n 0, 1) := by decide +kernel
theorem dX0_property_72 : decode cX0_property 72 = .ok (.getfield 27, 3) := by decide +kernel
theorem dX0_property_75 : decode cX0_property 75 = .ok (.iload_n 1, 1) := by decide +kernel
theorem dX0_property_76 : decode cX0_property 76 = .ok (.iaload, 1) := by decide +kernel
theorem dX0_property_77 : decode cX0_property 77 = .ok (.ireturn, 1) := by decide +kernel
theorem dX0_wordAtTurn_0 : decode cX0_wordAtTurn 0 = .ok (.iconst 0, 1) := by decide +kernel
theorem dX0_wordAtTurn_1 : decode cX0_wordAtTurn 1 = .ok (.istore_n 2, 1) := by decide +kernel
theorem dX0_wordAtTurn_2 : decode cX0_wordAtTurn 2 = .ok (.iload_n 2, 1) := by decide +kernel
theorem dX0_wordAtTurn_3 : decode cX0_wordAtTurn 3 = .ok (.aload_n 0, 1) := by decide +kernel
theorem dX0_wordAtTurn_4 : decode cX0_wordAtTurn 4 = .ok (.getfield 30, 3) := by decide +kernel
theorem dX0_wordAtTurn_7 : decode cX0_wordAtTurn 7 = .ok (.if_icmp .ge 21, 3) := by decide +kernel
theorem dX0_wordAtTurn_10 : decode cX0_wordAtTurn 10 = .ok (.aload_n 0, 1) := by decide +kernel
theorem dX0_wordAtTurn_11 : decode cX0_wordAtTurn 11 = .ok (.getfield 27, 3) := by decide +kernel
theorem dX0_wordAtTurn_14 : decode cX0_wordAtTurn 14 = .ok (.iload_n 2, 1) := by decide +kernel
theorem dX0_wordAtTurn_15 : decode cX0_wordAtTurn 15 = .ok (.iaload, 1) := by decide +kernel
theorem dX0_wordAtTurn_16 : decode cX0_wordAtTurn 16 = .ok (.iload_n 1, 1) := by decide +kernel
theorem dX0_wordAtTurn_17 : decode cX0_wordAtTurn 17 = .ok (.if_icmp .ne 5, 3) := by decide +kernel
theorem dX0_wordAtTurn_20 : decode cX0_wordAtTurn 20 = .ok (.iload_n 2, 1) := by decide +kernel
theorem dX0_wordAtTurn_21 : decode cX0_wordAtTurn 21 = .ok (.ireturn, 1) := by decide +kernel
theorem dX0_wordAtTurn_22 : decode cX0_wordAtTurn 22 = .ok (.iinc 2 1, 3) := by decide +kernel
theorem dX0_wordAtTurn_25 : decode cX0_wordAtTurn 25 = .ok (.goto (-23), 3) := by decide +kernel
theorem dX0_wordAtTurn_28 : decode cX0_wordAtTurn 28 = .ok (.iconst (-1), 1) := by decide +kernel
theorem dX0_wordAtTurn_29 : decode cX0_wordAtTurn 29 = .ok (.ireturn, 1) := by decide +kernel
theorem dX0_height_0 : decode cX0_height 0 = .ok (.iconst 0, 1) := by decide +kernel
theorem dX0_height_1 : decode cX0_height 1 = .ok (.istore_n 1, 1) := by decide +kernel
theorem dX0_height_2 : decode cX0_height 2 = .ok (.iconst 0, 1) := by decide +kernel
theorem dX0_height_3 : decode cX0_height 3 = .ok (.istore_n 2, 1) := by decide +kernel
theorem dX0_height_4 : decode cX0_height 4 = .ok (.iconst 0, 1) := by decide +kernel
theorem dX0_height_5 : decode cX0_height 5 = .ok (.istore_n 3, 1) := by decide +kernel
theorem dX0_height_6 : decode cX0_height 6 = .ok (.iload_n 3, 1) := by decide +kernel
theorem dX0_height_7 : decode cX0_height 7 = .ok (.aload_n 0, 1) := by decide +kernel
theorem dX0_height_8 : decode cX0_height 8 = .ok (.getfield 30, 3) := by decide +kernel
theorem dX0_height_11 : decode cX0_height 11 = .ok (.if_icmp .ge 31, 3) := by decide +kernel
theorem dX0_height_14 : decode cX0_height 14 = .ok (.iload_n 1, 1) := by decide +kernel
theorem dX0_height_15 : decode cX0_height 15 = .ok (.aload_n 0, 1) := by decide +kernel
theorem dX0_height_16 : decode cX0_height 16 = .ok (.getfield 21, 3) := by decide +kernel
theorem dX0_height_19 : decode cX0_height 19 = .ok (.iload_n 3, 1) := by decide +kernel
theorem dX0_height_20 : decode cX0_height 20 = .ok (.iaload, 1) := by decide +kernel
theorem dX0_height_21 : decode cX0_height 21 = .ok (.invokestatic 42, 3) := by decide +kernel
theorem dX0_height_24 : decode cX0_height 24 = .ok (.istore_n 1, 1) := by decide +kernel
theorem dX0_height_25 : decode cX0_height 25 = .ok (.iload_n 2, 1) := by decide +kernel
theorem dX0_height_26 : decode cX0_height 26 = .ok (.aload_n 0, 1) := by decide +kernel
theorem dX0_height_27 : decode cX0_height 27 = .ok (.getfield 21, 3) := by decide +kernel
theorem dX0_height_30 : decode cX0_height 30 = .ok (.iload_n 3, 1) := by decide +kernel
theorem dX0_height_31 : decode cX0_height 31 = .ok (.iaload, 1) := by decide +kernel
theorem dX0_height_32 : decode cX0_height 32 = .ok (.invokestatic 79, 3) := by decide +kernel
theorem dX0_height_35 : decode cX0_height 35 = .ok (.istore_n 2, 1) := by decide +kernel
theorem dX0_height_36 : decode cX0_height 36 = .ok (.iinc 3 1, 3) := by decide +kernel
theorem dX0_height_39 : decode cX0_height 39 = .ok (.goto (-33), 3) := by decide +kernel
theorem dX0_height_42 : decode cX0_height 42 = .ok (.iload_n 2, 1) := by decide +kernel
theorem dX0_height_43 : decode cX0_height 43 = .ok (.iload_n 1, 1) := by decide +kernel
theorem dX0_height_44 : decode cX0_height 44 = .ok (.isub, 1) := by decide +kernel
theorem dX0_height_45 : decode cX0_height 45 = .ok (.iconst 1, 1) := by decide +kernel
theorem dX0_height_46 : decode cX0_height 46 = .ok (.iadd, 1) := by decide +kernel
theorem dX0_height_47 : decode cX0_height 47 = .ok (.ireturn, 1) := by decide +kernel
theorem dX0_wordsOfKind_0 : decode cX0_wordsOfKind 0 = .ok (.iconst 0, 1) := by decide +kernel
theorem dX0_wordsOfKind_1 : decode cX0_wordsOfKind 1 = .ok (.istore_n 2, 1) := by decide +kernel
theorem dX0_wordsOfKind_2 : decode cX0_wordsOfKind 2 = .ok (.iconst 0, 1) := by decide +kernel
theorem dX0_wordsOfKind_3 : decode cX0_wordsOfKind 3 = .ok (.istore_n 3, 1) := by decide +kernel
theorem dX0_wordsOfKind_4 : decode cX0_wordsOfKind 4 = .ok (.iload_n 3, 1) := by decide +kernel
theorem dX0_wordsOfKind_5 : decode cX0_wordsOfKind 5 = .ok (.aload_n 0, 1) := by decide +kernel
theorem dX0_wordsOfKind_6 : decode cX0_wordsOfKind 6 = .ok (.getfield 30, 3) := by decide +kernel
theorem dX0_wordsOfKind_9 : decode cX0_wordsOfKind 9 = .ok (.if_icmp .ge 22, 3) := by decide +kernel
theorem dX0_wordsOfKind_12 : decode cX0_wordsOfKind 12 = .ok (.aload_n 0, 1) := by decide +kernel
theorem dX0_wordsOfKind_13 : decode cX0_wordsOfKind 13 = .ok (.getfield 9, 3) := by decide +kernel
theorem dX0_wordsOfKind_16 : decode cX0_wordsOfKind 16 = .ok (.iload_n 3, 1) := by decide +kernel
theorem dX0_wordsOfKind_17 : decode cX0_wordsOfKind 17 = .ok (.iaload, 1) := by decide +kernel
theorem dX0_wordsOfKind_18 : decode cX0_wordsOfKind 18 = .ok (.iload_n 1, 1) := by decide +kernel
theorem dX0_wordsOfKind_19 : decode cX0_wordsOfKind 19 = .ok (.if_icmp .ne 6, 3) := by decide +kernel
theorem dX0_wordsOfKind_22 : decode cX0_wordsOfKind 22 = .ok (.iinc 2 1, 3) := by decide +kernel
theorem dX0_wordsOfKind_25 : decode cX0_wordsOfKind 25 = .ok (.iinc 3 1, 3) := by decide +kernel
theorem dX0_wordsOfKind_28 : decode cX0_wordsOfKind 28 = .ok (.goto (-24), 3) := by decide +kernel
theorem dX0_wordsOfKind_31 : decode cX0_wordsOfKind 31 = .ok (.iload_n 2, 1) := by decide +kernel
theorem dX0_wordsOfKind_32 : decode cX0_wordsOfKind 32 = .ok (.ireturn, 1) := by decide +kernel
theorem dX0_wordsHeld_0 : decode cX0_wordsHeld 0 = .ok (.iconst 0, 1) := by decide +kernel
theorem dX0_wordsHeld_1 : decode cX0_wordsHeld 1 = .ok (.istore_n 2, 1) := by decide +kernel
theorem dX0_wordsHeld_2 : decode cX0_wordsHeld 2 = .ok (.iconst 0, 1) := by decide +kernel
theorem dX0_wordsHeld_3 : decode cX0_wordsHeld 3 = .ok (.istore_n 3, 1) := by decide +kernel
theorem dX0_wordsHeld_4 : decode cX0_wordsHeld 4 = .ok (.iload_n 3, 1) := by decide +kernel
theorem dX0_wordsHeld_5 : decode cX0_wordsHeld 5 = .ok (.aload_n 0, 1) := by decide +kernel
theorem dX0_wordsHeld_6 : decode cX0_wordsHeld 6 = .ok (.getfield 30, 3) := by decide +kernel
theorem dX0_wordsHeld_9 : decode cX0_wordsHeld 9 = .ok (.if_icmp .ge 22, 3) := by decide +kernel
theorem dX0_wordsHeld_12 : decode cX0_wordsHeld 12 = .ok (.aload_n 0, 1) := by decide +kernel
theorem dX0_wordsHeld_13 : decode cX0_wordsHeld 13 = .ok (.getfield 18, 3) := by decide +kernel
theorem dX0_wordsHeld_16 : decode cX0_wordsHeld 16 = .ok (.iload_n 3, 1) := by decide +kernel
theorem dX0_wordsHeld_17 : decode cX0_wordsHeld 17 = .ok (.iaload, 1) := by decide +kernel
theorem dX0_wordsHeld_18 : decode cX0_wordsHeld 18 = .ok (.iload_n 1, 1) := by decide +kernel
theorem dX0_wordsHeld_19 : decode cX0_wordsHeld 19 = .ok (.if_icmp .ne 6, 3) := by decide +kernel
theorem dX0_wordsHeld_22 : decode cX0_wordsHeld 22 = .ok (.iinc 2 1, 3) := by decide +kernel
theorem dX0_wordsHeld_25 : decode cX0_wordsHeld 25 = .ok (.iinc 3 1, 3) := by decide +kernel
theorem dX0_wordsHeld_28 : decode cX0_wordsHeld 28 = .ok (.goto (-24), 3) := by decide +kernel
theorem dX0_wordsHeld_31 : decode cX0_wordsHeld 31 = .ok (.iload_n 2, 1) := by decide +kernel
theorem dX0_wordsHeld_32 : decode cX0_wordsHeld 32 = .ok (.ireturn, 1) := by decide +kernel
theorem dX0_greatestLoad_0 : decode cX0_greatestLoad 0 = .ok (.iconst 0, 1) := by decide +kernel
theorem dX0_greatestLoad_1 : decode cX0_greatestLoad 1 = .ok (.istore_n 1, 1) := by decide +kernel
theorem dX0_greatestLoad_2 : decode cX0_greatestLoad 2 = .ok (.iconst 0, 1) := by decide +kernel
theorem dX0_greatestLoad_3 : decode cX0_greatestLoad 3 = .ok (.istore_n 2, 1) := by decide +kernel
theorem dX0_greatestLoad_4 : decode cX0_greatestLoad 4 = .ok (.iload_n 2, 1) := by decide +kernel
theorem dX0_greatestLoad_5 : decode cX0_greatestLoad 5 = .ok (.aload_n 0, 1) := by decide +kernel
theorem dX0_greatestLoad_6 : decode cX0_greatestLoad 6 = .ok (.getfield 30, 3) := by decide +kernel
theorem dX0_greatestLoad_9 : decode cX0_greatestLoad 9 = .ok (.if_icmp .ge 20, 3) := by decide +kernel
theorem dX0_greatestLoad_12 : decode cX0_greatestLoad 12 = .ok (.iload_n 1, 1) := by decide +kernel
theorem dX0_greatestLoad_13 : decode cX0_greatestLoad 13 = .ok (.aload_n 0, 1) := by decide +kernel
theorem dX0_greatestLoad_14 : decode cX0_greatestLoad 14 = .ok (.getfield 24, 3) := by decide +kernel
theorem dX0_greatestLoad_17 : decode cX0_greatestLoad 17 = .ok (.iload_n 2, 1) := by decide +kernel
theorem dX0_greatestLoad_18 : decode cX0_greatestLoad 18 = .ok (.iaload, 1) := by decide +kernel
theorem dX0_greatestLoad_19 : decode cX0_greatestLoad 19 = .ok (.invokestatic 79, 3) := by decide +kernel
theorem dX0_greatestLoad_22 : decode cX0_greatestLoad 22 = .ok (.istore_n 1, 1) := by decide +kernel
theorem dX0_greatestLoad_23 : decode cX0_greatestLoad 23 = .ok (.iinc 2 1, 3) := by decide +kernel
theorem dX0_greatestLoad_26 : decode cX0_greatestLoad 26 = .ok (.goto (-22), 3) := by decide +kernel
theorem dX0_greatestLoad_29 : decode cX0_greatestLoad 29 = .ok (.iload_n 1, 1) := by decide +kernel
theorem dX0_greatestLoad_30 : decode cX0_greatestLoad 30 = .ok (.ireturn, 1) := by decide +kernel
theorem dX0_isWord_0 : decode cX0_isWord 0 = .ok (.iload_n 1, 1) := by decide +kernel
theorem dX0_isWord_1 : decode cX0_isWord 1 = .ok (.ifCond .lt 21, 3) := by decide +kernel
theorem dX0_isWord_4 : decode cX0_isWord 4 = .ok (.iload_n 1, 1) := by decide +kernel
theorem dX0_isWord_5 : decode cX0_isWord 5 = .ok (.aload_n 0, 1) := by decide +kernel
theorem dX0_isWord_6 : decode cX0_isWord 6 = .ok (.getfield 30, 3) := by decide +kernel
theorem dX0_isWord_9 : decode cX0_isWord 9 = .ok (.if_icmp .ge 13, 3) := by decide +kernel
theorem dX0_isWord_12 : decode cX0_isWord 12 = .ok (.iload_n 1, 1) := by decide +kernel
theorem dX0_isWord_13 : decode cX0_isWord 13 = .ok (.bipush 12, 2) := by decide +kernel
theorem dX0_isWord_15 : decode cX0_isWord 15 = .ok (.if_icmp .ge 7, 3) := by decide +kernel
theorem dX0_isWord_18 : decode cX0_isWord 18 = .ok (.iconst 1, 1) := by decide +kernel
theorem dX0_isWord_19 : decode cX0_isWord 19 = .ok (.goto 4, 3) := by decide +kernel
theorem dX0_isWord_22 : decode cX0_isWord 22 = .ok (.iconst 0, 1) := by decide +kernel
theorem dX0_isWord_23 : decode cX0_isWord 23 = .ok (.ireturn, 1) := by decide +kernel
theorem dX0_wayOf_0 : decode cX0_wayOf 0 = .ok (.iload_n 2, 1) := by decide +kernel
theorem dX0_wayOf_1 : decode cX0_wayOf 1 = .ok (.iconst (-1), 1) := by decide +kernel
theorem dX0_wayOf_2 : decode cX0_wayOf 2 = .ok (.if_icmp .ne 5, 3) := by decide +kernel
theorem dX0_wayOf_5 : decode cX0_wayOf 5 = .ok (.iconst 0, 1) := by decide +kernel
theorem dX0_wayOf_6 : decode cX0_wayOf 6 = .ok (.ireturn, 1) := by decide +kernel
theorem dX0_wayOf_7 : decode cX0_wayOf 7 = .ok (.iload_n 1, 1) := by decide +kernel
theorem dX0_wayOf_8 : decode cX0_wayOf 8 = .ok (.tableswitch 76 0 6 #[44, 74, 76, 76, 76, 72, 74], 44) := by decide +kernel
theorem dX0_wayOf_52 : decode cX0_wayOf 52 = .ok (.iload_n 3, 1) := by decide +kernel
theorem dX0_wayOf_53 : decode cX0_wayOf 53 = .ok (.iconst 1, 1) := by decide +kernel
theorem dX0_wayOf_54 : decode cX0_wayOf 54 = .ok (.if_icmp .ne 14, 3) := by decide +kernel
theorem dX0_wayOf_57 : decode cX0_wayOf 57 = .ok (.iload_n 0, 1) := by decide +kernel
theorem dX0_wayOf_58 : decode cX0_wayOf 58 = .ok (.iload_n 2, 1) := by decide +kernel
theorem dX0_wayOf_59 : decode cX0_wayOf 59 = .ok (.if_icmp .ge 7, 3) := by decide +kernel
theorem dX0_wayOf_62 : decode cX0_wayOf 62 = .ok (.iconst 1, 1) := by decide +kernel
theorem dX0_wayOf_63 : decode cX0_wayOf 63 = .ok (.goto 4, 3) := by decide +kernel
theorem dX0_wayOf_66 : decode cX0_wayOf 66 = .ok (.iconst 2, 1) := by decide +kernel
theorem dX0_wayOf_67 : decode cX0_wayOf 67 = .ok (.ireturn, 1) := by decide +kernel
theorem dX0_wayOf_68 : decode cX0_wayOf 68 = .ok (.iload_n 3, 1) := by decide +kernel
theorem dX0_wayOf_69 : decode cX0_wayOf 69 = .ok (.iconst 5, 1) := by decide +kernel
theorem dX0_wayOf_70 : decode cX0_wayOf 70 = .ok (.if_icmp .ne 7, 3) := by decide +kernel
theorem dX0_wayOf_73 : decode cX0_wayOf 73 = .ok (.iconst 4, 1) := by decide +kernel
theorem dX0_wayOf_74 : decode cX0_wayOf 74 = .ok (.goto 5, 3) := by decide +kernel
theorem dX0_wayOf_77 : decode cX0_wayOf 77 = .ok (.bipush 6, 2) := by decide +kernel
theorem dX0_wayOf_79 : decode cX0_wayOf 79 = .ok (.ireturn, 1) := by decide +kernel
theorem dX0_wayOf_80 : decode cX0_wayOf 80 = .ok (.iconst 4, 1) := by decide +kernel
theorem dX0_wayOf_81 : decode cX0_wayOf 81 = .ok (.ireturn, 1) := by decide +kernel
theorem dX0_wayOf_82 : decode cX0_wayOf 82 = .ok (.iconst 5, 1) := by decide +kernel
theorem dX0_wayOf_83 : decode cX0_wayOf 83 = .ok (.ireturn, 1) := by decide +kernel
theorem dX0_wayOf_84 : decode cX0_wayOf 84 = .ok (.iconst 3, 1) := by decide +kernel
theorem dX0_wayOf_85 : decode cX0_wayOf 85 = .ok (.ireturn, 1) := by decide +kernel
theorem dX0_levelOf_0 : decode cX0_levelOf 0 = .ok (.iconst 0, 1) := by decide +kernel
theorem dX0_levelOf_1 : decode cX0_levelOf 1 = .ok (.istore_n 2, 1) := by decide +kernel
theorem dX0_levelOf_2 : decode cX0_levelOf 2 = .ok (.iload_n 1, 1) := by decide +kernel
theorem dX0_levelOf_3 : decode cX0_levelOf 3 = .ok (.istore_n 3, 1) := by decide +kernel
theorem dX0_levelOf_4 : decode cX0_levelOf 4 = .ok (.iconst 0, 1) := by decide +kernel
theorem dX0_levelOf_5 : decode cX0_levelOf 5 = .ok (.istore 4, 2) := by decide +kernel
theorem dX0_levelOf_7 : decode cX0_levelOf 7 = .ok (.iload 4, 2) := by decide +kernel
theorem dX0_levelOf_9 : decode cX0_levelOf 9 = .ok (.bipush 12, 2) := by decide +kernel
theorem dX0_levelOf_11 : decode cX0_levelOf 11 = .ok (.if_icmp .ge 42, 3) := by decide +kernel
theorem dX0_levelOf_14 : decode cX0_levelOf 14 = .ok (.aload_n 0, 1) := by decide +kernel
theorem dX0_levelOf_15 : decode cX0_levelOf 15 = .ok (.iload_n 3, 1) := by decide +kernel
theorem dX0_levelOf_16 : decode cX0_levelOf 16 = .ok (.invokevirtual 68, 3) := by decide +kernel
theorem dX0_levelOf_19 : decode cX0_levelOf 19 = .ok (.ifCond .eq 34, 3) := by decide +kernel
theorem dX0_levelOf_22 : decode cX0_levelOf 22 = .ok (.iload_n 2, 1) := by decide +kernel
theorem dX0_levelOf_23 : decode cX0_levelOf 23 = .ok (.aload_n 0, 1) := by decide +kernel
theorem dX0_levelOf_24 : decode cX0_levelOf 24 = .ok (.getfield 18, 3) := by decide +kernel
theorem dX0_levelOf_27 : decode cX0_levelOf 27 = .ok (.iload_n 3, 1) := by decide +kernel
theorem dX0_levelOf_28 : decode cX0_levelOf 28 = .ok (.iaload, 1) := by decide +kernel
theorem dX0_levelOf_29 : decode cX0_levelOf 29 = .ok (.aload_n 0, 1) := by decide +kernel
theorem dX0_levelOf_30 : decode cX0_levelOf 30 = .ok (.getfield 9, 3) := by decide +kernel
theorem dX0_levelOf_33 : decode cX0_levelOf 33 = .ok (.iload_n 3, 1) := by decide +kernel
theorem dX0_levelOf_34 : decode cX0_levelOf 34 = .ok (.iaload, 1) := by decide +kernel
theorem dX0_levelOf_35 : decode cX0_levelOf 35 = .ok (.invokestatic 82, 3) := by decide +kernel
theorem dX0_levelOf_38 : decode cX0_levelOf 38 = .ok (.iadd, 1) := by decide +kernel
theorem dX0_levelOf_39 : decode cX0_levelOf 39 = .ok (.istore_n 2, 1) := by decide +kernel
theorem dX0_levelOf_40 : decode cX0_levelOf 40 = .ok (.aload_n 0, 1) := by decide +kernel
theorem dX0_levelOf_41 : decode cX0_levelOf 41 = .ok (.getfield 15, 3) := by decide +kernel
theorem dX0_levelOf_44 : decode cX0_levelOf 44 = .ok (.iload_n 3, 1) := by decide +kernel
theorem dX0_levelOf_45 : decode cX0_levelOf 45 = .ok (.iaload, 1) := by decide +kernel
theorem dX0_levelOf_46 : decode cX0_levelOf 46 = .ok (.istore_n 3, 1) := by decide +kernel
theorem dX0_levelOf_47 : decode cX0_levelOf 47 = .ok (.iinc 4 1, 3) := by decide +kernel
theorem dX0_levelOf_50 : decode cX0_levelOf 50 = .ok (.goto (-43), 3) := by decide +kernel
theorem dX0_levelOf_53 : decode cX0_levelOf 53 = .ok (.iload_n 2, 1) := by decide +kernel
theorem dX0_levelOf_54 : decode cX0_levelOf 54 = .ok (.ireturn, 1) := by decide +kernel
theorem dX0_riseOf_0 : decode cX0_riseOf 0 = .ok (.iload_n 0, 1) := by decide +kernel
theorem dX0_riseOf_1 : decode cX0_riseOf 1 = .ok (.tableswitch 45 3 6 #[31, 45, 33, 31], 31) := by decide +kernel
theorem dX0_riseOf_32 : decode cX0_riseOf 32 = .ok (.iconst (-1), 1) := by decide +kernel
theorem dX0_riseOf_33 : decode cX0_riseOf 33 = .ok (.ireturn, 1) := by decide +kernel
theorem dX0_riseOf_34 : decode cX0_riseOf 34 = .ok (.iload_n 1, 1) := by decide +kernel
theorem dX0_riseOf_35 : decode cX0_riseOf 35 = .ok (.bipush 6, 2) := by decide +kernel
theorem dX0_riseOf_37 : decode cX0_riseOf 37 = .ok (.if_icmp .ne 7, 3) := by decide +kernel
theorem dX0_riseOf_40 : decode cX0_riseOf 40 = .ok (.iconst 1, 1) := by decide +kernel
theorem dX0_riseOf_41 : decode cX0_riseOf 41 = .ok (.goto 4, 3) := by decide +kernel
theorem dX0_riseOf_44 : decode cX0_riseOf 44 = .ok (.iconst 0, 1) := by decide +kernel
theorem dX0_riseOf_45 : decode cX0_riseOf 45 = .ok (.ireturn, 1) := by decide +kernel
theorem dX0_riseOf_46 : decode cX0_riseOf 46 = .ok (.iconst 0, 1) := by decide +kernel
theorem dX0_riseOf_47 : decode cX0_riseOf 47 = .ok (.ireturn, 1) := by decide +kernel
theorem dX0_readAlong_0 : decode cX0_readAlong 0 = .ok (.aload_n 0, 1) := by decide +kernel
theorem dX0_readAlong_1 : decode cX0_readAlong 1 = .ok (.iload_n 1, 1) := by decide +kernel
theorem dX0_readAlong_2 : decode cX0_readAlong 2 = .ok (.invokevirtual 68, 3) := by decide +kernel
theorem dX0_readAlong_5 : decode cX0_readAlong 5 = .ok (.ifCond .eq 9, 3) := by decide +kernel
theorem dX0_readAlong_8 : decode cX0_readAlong 8 = .ok (.iload_n 2, 1) := by decide +kernel
theorem dX0_readAlong_9 : decode cX0_readAlong 9 = .ok (.bipush 12, 2) := by decide +kernel
theorem dX0_readAlong_11 : decode cX0_readAlong 11 = .ok (.if_icmp .le 4, 3) := by decide +kernel
theorem dX0_readAlong_14 : decode cX0_readAlong 14 = .ok (.return_, 1) := by decide +kernel
theorem dX0_readAlong_15 : decode cX0_readAlong 15 = .ok (.iconst 0, 1) := by decide +kernel
theorem dX0_readAlong_16 : decode cX0_readAlong 16 = .ok (.istore_n 3, 1) := by decide +kernel
theorem dX0_readAlong_17 : decode cX0_readAlong 17 = .ok (.iload_n 3, 1) := by decide +kernel
theorem dX0_readAlong_18 : decode cX0_readAlong 18 = .ok (.iload_n 1, 1) := by decide +kernel
theorem dX0_readAlong_19 : decode cX0_readAlong 19 = .ok (.if_icmp .ge 27, 3) := by decide +kernel
theorem dX0_readAlong_22 : decode cX0_readAlong 22 = .ok (.aload_n 0, 1) := by decide +kernel
theorem dX0_readAlong_23 : decode cX0_readAlong 23 = .ok (.getfield 15, 3) := by decide +kernel
theorem dX0_readAlong_26 : decode cX0_readAlong 26 = .ok (.iload_n 3, 1) := by decide +kernel
theorem dX0_readAlong_27 : decode cX0_readAlong 27 = .ok (.iaload, 1) := by decide +kernel
theorem dX0_readAlong_28 : decode cX0_readAlong 28 = .ok (.iload_n 1, 1) := by decide +kernel
theorem dX0_readAlong_29 : decode cX0_readAlong 29 = .ok (.if_icmp .ne 11, 3) := by decide +kernel
theorem dX0_readAlong_32 : decode cX0_readAlong 32 = .ok (.aload_n 0, 1) := by decide +kernel
theorem dX0_readAlong_33 : decode cX0_readAlong 33 = .ok (.iload_n 3, 1) := by decide +kernel
theorem dX0_readAlong_34 : decode cX0_readAlong 34 = .ok (.iload_n 2, 1) := by decide +kernel
theorem dX0_readAlong_35 : decode cX0_readAlong 35 = .ok (.iconst 1, 1) := by decide +kernel
theorem dX0_readAlong_36 : decode cX0_readAlong 36 = .ok (.iadd, 1) := by decide +kernel
theorem dX0_readAlong_37 : decode cX0_readAlong 37 = .ok (.invokevirtual 75, 3) := by decide +kernel
theorem dX0_readAlong_40 : decode cX0_readAlong 40 = .ok (.iinc 3 1, 3) := by decide +kernel
theorem dX0_readAlong_43 : decode cX0_readAlong 43 = .ok (.goto (-26), 3) := by decide +kernel
theorem dX0_readAlong_46 : decode cX0_readAlong 46 = .ok (.aload_n 0, 1) := by decide +kernel
theorem dX0_readAlong_47 : decode cX0_readAlong 47 = .ok (.getfield 27, 3) := by decide +kernel
theorem dX0_readAlong_50 : decode cX0_readAlong 50 = .ok (.iload_n 1, 1) := by decide +kernel
theorem dX0_readAlong_51 : decode cX0_readAlong 51 = .ok (.aload_n 0, 1) := by decide +kernel
theorem dX0_readAlong_52 : decode cX0_readAlong 52 = .ok (.getfield 34, 3) := by decide +kernel
theorem dX0_readAlong_55 : decode cX0_readAlong 55 = .ok (.iastore, 1) := by decide +kernel
theorem dX0_readAlong_56 : decode cX0_readAlong 56 = .ok (.aload_n 0, 1) := by decide +kernel
theorem dX0_readAlong_57 : decode cX0_readAlong 57 = .ok (.dup, 1) := by decide +kernel
theorem dX0_readAlong_58 : decode cX0_readAlong 58 = .ok (.getfield 34, 3) := by decide +kernel
theorem dX0_readAlong_61 : decode cX0_readAlong 61 = .ok (.iconst 1, 1) := by decide +kernel
theorem dX0_readAlong_62 : decode cX0_readAlong 62 = .ok (.iadd, 1) := by decide +kernel
theorem dX0_readAlong_63 : decode cX0_readAlong 63 = .ok (.putfield 34, 3) := by decide +kernel
theorem dX0_readAlong_66 : decode cX0_readAlong 66 = .ok (.iload_n 1, 1) := by decide +kernel
theorem dX0_readAlong_67 : decode cX0_readAlong 67 = .ok (.iconst 1, 1) := by decide +kernel
theorem dX0_readAlong_68 : decode cX0_readAlong 68 = .ok (.iadd, 1) := by decide +kernel
theorem dX0_readAlong_69 : decode cX0_readAlong 69 = .ok (.istore_n 3, 1) := by decide +kernel
theorem dX0_readAlong_70 : decode cX0_readAlong 70 = .ok (.iload_n 3, 1) := by decide +kernel
theorem dX0_readAlong_71 : decode cX0_readAlong 71 = .ok (.aload_n 0, 1) := by decide +kernel
theorem dX0_readAlong_72 : decode cX0_readAlong 72 = .ok (.getfield 30, 3) := by decide +kernel
theorem dX0_readAlong_75 : decode cX0_readAlong 75 = .ok (.if_icmp .ge 27, 3) := by decide +kernel
theorem dX0_readAlong_78 : decode cX0_readAlong 78 = .ok (.aload_n 0, 1) := by decide +kernel
theorem dX0_readAlong_79 : decode cX0_readAlong 79 = .ok (.getfield 15, 3) := by decide +kernel
theorem dX0_readAlong_82 : decode cX0_readAlong 82 = .ok (.iload_n 3, 1) := by decide +kernel
theorem dX0_readAlong_83 : decode cX0_readAlong 83 = .ok (.iaload, 1) := by decide +kernel
theorem dX0_readAlong_84 : decode cX0_readAlong 84 = .ok (.iload_n 1, 1) := by decide +kernel
theorem dX0_readAlong_85 : decode cX0_readAlong 85 = .ok (.if_icmp .ne 11, 3) := by decide +kernel
theorem dX0_readAlong_88 : decode cX0_readAlong 88 = .ok (.aload_n 0, 1) := by decide +kernel
theorem dX0_readAlong_89 : decode cX0_readAlong 89 = .ok (.iload_n 3, 1) := by decide +kernel
theorem dX0_readAlong_90 : decode cX0_readAlong 90 = .ok (.iload_n 2, 1) := by decide +kernel
theorem dX0_readAlong_91 : decode cX0_readAlong 91 = .ok (.iconst 1, 1) := by decide +kernel
theorem dX0_readAlong_92 : decode cX0_readAlong 92 = .ok (.iadd, 1) := by decide +kernel
theorem dX0_readAlong_93 : decode cX0_readAlong 93 = .ok (.invokevirtual 75, 3) := by decide +kernel
theorem dX0_readAlong_96 : decode cX0_readAlong 96 = .ok (.iinc 3 1, 3) := by decide +kernel
theorem dX0_readAlong_99 : decode cX0_readAlong 99 = .ok (.goto (-29), 3) := by decide +kernel
theorem dX0_readAlong_102 : decode cX0_readAlong 102 = .ok (.return_, 1) := by decide +kernel
theorem dX1_init_0 : decode cX1_init 0 = .ok (.aload_n 0, 1) := by decide +kernel
theorem dX1_init_1 : decode cX1_init 1 = .ok (.invokespecial 3, 3) := by decide +kernel
theorem dX1_init_4 : decode cX1_init 4 = .ok (.aload_n 0, 1) := by decide +kernel
theorem dX1_init_5 : decode cX1_init 5 = .ok (.sipush 169, 3) := by decide +kernel
theorem dX1_init_8 : decode cX1_init 8 = .ok (.newarray .int, 2) := by decide +kernel
theorem dX1_init_10 : decode cX1_init 10 = .ok (.putfield 11, 3) := by decide +kernel
theorem dX1_init_13 : decode cX1_init 13 = .ok (.return_, 1) := by decide +kernel
theorem dX1_at_0 : decode cX1_at 0 = .ok (.iload_n 1, 1) := by decide +kernel
theorem dX1_at_1 : decode cX1_at 1 = .ok (.ifCond .lt 33, 3) := by decide +kernel
theorem dX1_at_4 : decode cX1_at 4 = .ok (.iload_n 1, 1) := by decide +kernel
theorem dX1_at_5 : decode cX1_at 5 = .ok (.bipush 13, 2) := by decide +kernel
theorem dX1_at_7 : decode cX1_at 7 = .ok (.if_icmp .ge 27, 3) := by decide +kernel
theorem dX1_at_10 : decode cX1_at 10 = .ok (.iload_n 2, 1) := by decide +kernel
theorem dX1_at_11 : decode cX1_at 11 = .ok (.ifCond .lt 23, 3) := by decide +kernel
theorem dX1_at_14 : decode cX1_at 14 = .ok (.iload_n 2, 1) := by decide +kernel
theorem dX1_at_15 : decode cX1_at 15 = .ok (.bipush 13, 2) := by decide +kernel
theorem dX1_at_17 : decode cX1_at 17 = .ok (.if_icmp .ge 17, 3) := by decide +kernel
theorem dX1_at_20 : decode cX1_at 20 = .ok (.aload_n 0, 1) := by decide +kernel
theorem dX1_at_21 : decode cX1_at 21 = .ok (.getfield 11, 3) := by decide +kernel
theorem dX1_at_24 : decode cX1_at 24 = .ok (.iload_n 1, 1) := by decide +kernel
theorem dX1_at_25 : decode cX1_at 25 = .ok (.bipush 13, 2) := by decide +kernel
theorem dX1_at_27 : decode cX1_at 27 = .ok (.imul, 1) := by decide +kernel
theorem dX1_at_28 : decode cX1_at 28 = .ok (.iload_n 2, 1) := by decide +kernel
theorem dX1_at_29 : decode cX1_at 29 = .ok (.iadd, 1) := by decide +kernel
theorem dX1_at_30 : decode cX1_at 30 = .ok (.iaload, 1) := by decide +kernel
theorem dX1_at_31 : decode cX1_at 31 = .ok (.goto 4, 3) := by decide +kernel
theorem dX1_at_34 : decode cX1_at 34 = .ok (.iconst 0, 1) := by decide +kernel
theorem dX1_at_35 : decode cX1_at 35 = .ok (.ireturn, 1) := by decide +kernel
theorem dX1_atOrEmpty_0 : decode cX1_atOrEmpty 0 = .ok (.iload_n 1, 1) := by decide +kernel
theorem dX1_atOrEmpty_1 : decode cX1_atOrEmpty 1 = .ok (.iload_n 2, 1) := by decide +kernel
theorem dX1_atOrEmpty_2 : decode cX1_atOrEmpty 2 = .ok (.if_icmp .ne 7, 3) := by decide +kernel
theorem dX1_atOrEmpty_5 : decode cX1_atOrEmpty 5 = .ok (.iconst 1, 1) := by decide +kernel
theorem dX1_atOrEmpty_6 : decode cX1_atOrEmpty 6 = .ok (.goto 9, 3) := by decide +kernel
theorem dX1_atOrEmpty_9 : decode cX1_atOrEmpty 9 = .ok (.aload_n 0, 1) := by decide +kernel
theorem dX1_atOrEmpty_10 : decode cX1_atOrEmpty 10 = .ok (.iload_n 1, 1) := by decide +kernel
theorem dX1_atOrEmpty_11 : decode cX1_atOrEmpty 11 = .ok (.iload_n 2, 1) := by decide +kernel
theorem dX1_atOrEmpty_12 : decode cX1_atOrEmpty 12 = .ok (.invokevirtual 15, 3) := by decide +kernel
theorem dX1_atOrEmpty_15 : decode cX1_atOrEmpty 15 = .ok (.ireturn, 1) := by decide +kernel
theorem dX1_put_0 : decode cX1_put 0 = .ok (.iload_n 1, 1) := by decide +kernel
theorem dX1_put_1 : decode cX1_put 1 = .ok (.ifCond .lt 31, 3) := by decide +kernel
theorem dX1_put_4 : decode cX1_put 4 = .ok (.iload_n 1, 1) := by decide +kernel
theorem dX1_put_5 : decode cX1_put 5 = .ok (.bipush 13, 2) := by decide +kernel
theorem dX1_put_7 : decode cX1_put 7 = .ok (.if_icmp .ge 25, 3) := by decide +kernel
theorem dX1_put_10 : decode cX1_put 10 = .ok (.iload_n 2, 1) := by decide +kernel
theorem dX1_put_11 : decode cX1_put 11 = .ok (.ifCond .lt 21, 3) := by decide +kernel
theorem dX1_put_14 : decode cX1_put 14 = .ok (.iload_n 2, 1) := by decide +kernel
theorem dX1_put_15 : decode cX1_put 15 = .ok (.bipush 13, 2) := by decide +kernel
theorem dX1_put_17 : decode cX1_put 17 = .ok (.if_icmp .ge 15, 3) := by decide +kernel
theorem dX1_put_20 : decode cX1_put 20 = .ok (.aload_n 0, 1) := by decide +kernel
theorem dX1_put_21 : decode cX1_put 21 = .ok (.getfield 11, 3) := by decide +kernel
theorem dX1_put_24 : decode cX1_put 24 = .ok (.iload_n 1, 1) := by decide +kernel
theorem dX1_put_25 : decode cX1_put 25 = .ok (.bipush 13, 2) := by decide +kernel
theorem dX1_put_27 : decode cX1_put 27 = .ok (.imul, 1) := by decide +kernel
theorem dX1_put_28 : decode cX1_put 28 = .ok (.iload_n 2, 1) := by decide +kernel
theorem dX1_put_29 : decode cX1_put 29 = .ok (.iadd, 1) := by decide +kernel
theorem dX1_put_30 : decode cX1_put 30 = .ok (.iload_n 3, 1) := by decide +kernel
theorem dX1_put_31 : decode cX1_put 31 = .ok (.iastore, 1) := by decide +kernel
theorem dX1_put_32 : decode cX1_put 32 = .ok (.return_, 1) := by decide +kernel
theorem dX2_init_0 : decode cX2_init 0 = .ok (.aload_n 0, 1) := by decide +kernel
theorem dX2_init_1 : decode cX2_init 1 = .ok (.invokespecial 3, 3) := by decide +kernel
theorem dX2_init_4 : decode cX2_init 4 = .ok (.aload_n 0, 1) := by decide +kernel
theorem dX2_init_5 : decode cX2_init 5 = .ok (.new 9, 3) := by decide +kernel
theorem dX2_init_8 : decode cX2_init 8 = .ok (.dup, 1) := by decide +kernel
theorem dX2_init_9 : decode cX2_init 9 = .ok (.invokespecial 11, 3) := by decide +kernel
theorem dX2_init_12 : decode cX2_init 12 = .ok (.putfield 12, 3) := by decide +kernel
theorem dX2_init_15 : decode cX2_init 15 = .ok (.aload_n 0, 1) := by decide +kernel
theorem dX2_init_16 : decode cX2_init 16 = .ok (.new 9, 3) := by decide +kernel
theorem dX2_init_19 : decode cX2_init 19 = .ok (.dup, 1) := by decide +kernel
theorem dX2_init_20 : decode cX2_init 20 = .ok (.invokespecial 11, 3) := by decide +kernel
theorem dX2_init_23 : decode cX2_init 23 = .ok (.putfield 18, 3) := by decide +kernel
theorem dX2_init_26 : decode cX2_init 26 = .ok (.aload_n 0, 1) := by decide +kernel
theorem dX2_init_27 : decode cX2_init 27 = .ok (.new 9, 3) := by decide +kernel
theorem dX2_init_30 : decode cX2_init 30 = .ok (.dup, 1) := by decide +kernel
theorem dX2_init_31 : decode cX2_init 31 = .ok (.invokespecial 11, 3) := by decide +kernel
theorem dX2_init_34 : decode cX2_init 34 = .ok (.putfield 21, 3) := by decide +kernel
theorem dX2_init_37 : decode cX2_init 37 = .ok (.aload_n 0, 1) := by decide +kernel
theorem dX2_init_38 : decode cX2_init 38 = .ok (.new 9, 3) := by decide +kernel
theorem dX2_init_41 : decode cX2_init 41 = .ok (.dup, 1) := by decide +kernel
theorem dX2_init_42 : decode cX2_init 42 = .ok (.invokespecial 11, 3) := by decide +kernel
theorem dX2_init_45 : decode cX2_init 45 = .ok (.putfield 24, 3) := by decide +kernel
theorem dX2_init_48 : decode cX2_init 48 = .ok (.aload_n 0, 1) := by decide +kernel
theorem dX2_init_49 : decode cX2_init 49 = .ok (.new 9, 3) := by decide +kernel
theorem dX2_init_52 : decode cX2_init 52 = .ok (.dup, 1) := by decide +kernel
theorem dX2_init_53 : decode cX2_init 53 = .ok (.invokespecial 11, 3) := by decide +kernel
theorem dX2_init_56 : decode cX2_init 56 = .ok (.putfield 27, 3) := by decide +kernel
theorem dX2_init_59 : decode cX2_init 59 = .ok (.aload_n 0, 1) := by decide +kernel
theorem dX2_init_60 : decode cX2_init 60 = .ok (.new 9, 3) := by decide +kernel
theorem dX2_init_63 : decode cX2_init 63 = .ok (.dup, 1) := by decide +kernel
theorem dX2_init_64 : decode cX2_init 64 = .ok (.invokespecial 11, 3) := by decide +kernel
theorem dX2_init_67 : decode cX2_init 67 = .ok (.putfield 30, 3) := by decide +kernel
theorem dX2_init_70 : decode cX2_init 70 = .ok (.aload_n 0, 1) := by decide +kernel
theorem dX2_init_71 : decode cX2_init 71 = .ok (.new 9, 3) := by decide +kernel
theorem dX2_init_74 : decode cX2_init 74 = .ok (.dup, 1) := by decide +kernel
theorem dX2_init_75 : decode cX2_init 75 = .ok (.invokespecial 11, 3) := by decide +kernel
theorem dX2_init_78 : decode cX2_init 78 = .ok (.putfield 33, 3) := by decide +kernel
theorem dX2_init_81 : decode cX2_init 81 = .ok (.return_, 1) := by decide +kernel
theorem dX2_ways_0 : decode cX2_ways 0 = .ok (.iload_n 1, 1) := by decide +kernel
theorem dX2_ways_1 : decode cX2_ways 1 = .ok (.iload_n 2, 1) := by decide +kernel
theorem dX2_ways_2 : decode cX2_ways 2 = .ok (.if_icmp .lt 5, 3) := by decide +kernel
theorem dX2_ways_5 : decode cX2_ways 5 = .ok (.iconst 0, 1) := by decide +kernel
theorem dX2_ways_6 : decode cX2_ways 6 = .ok (.ireturn, 1) := by decide +kernel
theorem dX2_ways_7 : decode cX2_ways 7 = .ok (.iload_n 3, 1) := by decide +kernel
theorem dX2_ways_8 : decode cX2_ways 8 = .ok (.tableswitch 72 0 3 #[32, 42, 52, 62], 32) := by decide +kernel
theorem dX2_ways_40 : decode cX2_ways 40 = .ok (.aload_n 0, 1) := by decide +kernel
theorem dX2_ways_41 : decode cX2_ways 41 = .ok (.getfield 12, 3) := by decide +kernel
theorem dX2_ways_44 : decode cX2_ways 44 = .ok (.iload_n 1, 1) := by decide +kernel
theorem dX2_ways_45 : decode cX2_ways 45 = .ok (.iload_n 2, 1) := by decide +kernel
theorem dX2_ways_46 : decode cX2_ways 46 = .ok (.invokevirtual 36, 3) := by decide +kernel
theorem dX2_ways_49 : decode cX2_ways 49 = .ok (.ireturn, 1) := by decide +kernel
theorem dX2_ways_50 : decode cX2_ways 50 = .ok (.aload_n 0, 1) := by decide +kernel
theorem dX2_ways_51 : decode cX2_ways 51 = .ok (.getfield 18, 3) := by decide +kernel
theorem dX2_ways_54 : decode cX2_ways 54 = .ok (.iload_n 1, 1) := by decide +kernel
theorem dX2_ways_55 : decode cX2_ways 55 = .ok (.iload_n 2, 1) := by decide +kernel
theorem dX2_ways_56 : decode cX2_ways 56 = .ok (.invokevirtual 36, 3) := by decide +kernel
theorem dX2_ways_59 : decode cX2_ways 59 = .ok (.ireturn, 1) := by decide +kernel
theorem dX2_ways_60 : decode cX2_ways 60 = .ok (.aload_n 0, 1) := by decide +kernel
theorem dX2_ways_61 : decode cX2_ways 61 = .ok (.getfield 21, 3) := by decide +kernel
theorem dX2_ways_64 : decode cX2_ways 64 = .ok (.iload_n 1, 1) := by decide +kernel
theorem dX2_ways_65 : decode cX2_ways 65 = .ok (.iload_n 2, 1) := by decide +kernel
theorem dX2_ways_66 : decode cX2_ways 66 = .ok (.invokevirtual 36, 3) := by decide +kernel
theorem dX2_ways_69 : decode cX2_ways 69 = .ok (.ireturn, 1) := by decide +kernel
theorem dX2_ways_70 : decode cX2_ways 70 = .ok (.aload_n 0, 1) := by decide +kernel
theorem dX2_ways_71 : decode cX2_ways 71 = .ok (.getfield 24, 3) := by decide +kernel
theorem dX2_ways_74 : decode cX2_ways 74 = .ok (.iload_n 1, 1) := by decide +kernel
theorem dX2_ways_75 : decode cX2_ways 75 = .ok (.iload_n 2, 1) := by decide +kernel
theorem dX2_ways_76 : decode cX2_ways 76 = .ok (.invokevirtual 36, 3) := by decide +kernel
theorem dX2_ways_79 : decode cX2_ways 79 = .ok (.ireturn, 1) := by decide +kernel
theorem dX2_ways_80 : decode cX2_ways 80 = .ok (.aload_n 0, 1) := by decide +kernel
theorem dX2_ways_81 : decode cX2_ways 81 = .ok (.getfield 27, 3) := by decide +kernel
theorem dX2_ways_84 : decode cX2_ways 84 = .ok (.iload_n 1, 1) := by decide +kernel
theorem dX2_ways_85 : decode cX2_ways 85 = .ok (.iload_n 2, 1) := by decide +kernel
theorem dX2_ways_86 : decode cX2_ways 86 = .ok (.invokevirtual 36, 3) := by decide +kernel
theorem dX2_ways_89 : decode cX2_ways 89 = .ok (.ireturn, 1) := by decide +kernel
theorem dX2_tell_0 : decode cX2_tell 0 = .ok (.aload_n 1, 1) := by decide +kernel
theorem dX2_tell_1 : decode cX2_tell 1 = .ok (.invokevirtual 40, 3) := by decide +kernel
theorem dX2_tell_4 : decode cX2_tell 4 = .ok (.iconst 1, 1) := by decide +kernel
theorem dX2_tell_5 : decode cX2_tell 5 = .ok (.isub, 1) := by decide +kernel
theorem dX2_tell_6 : decode cX2_tell 6 = .ok (.istore_n 2, 1) := by decide +kernel
theorem dX2_tell_7 : decode cX2_tell 7 = .ok (.iload_n 2, 1) := by decide +kernel
theorem dX2_tell_8 : decode cX2_tell 8 = .ok (.ifCond .lt 155, 3) := by decide +kernel
theorem dX2_tell_11 : decode cX2_tell 11 = .ok (.iload_n 2, 1) := by decide +kernel
theorem dX2_tell_12 : decode cX2_tell 12 = .ok (.iconst 1, 1) := by decide +kernel
theorem dX2_tell_13 : decode cX2_tell 13 = .ok (.iadd, 1) := by decide +kernel
theorem dX2_tell_14 : decode cX2_tell 14 = .ok (.istore_n 3, 1) := by decide +kernel
theorem dX2_tell_15 : decode cX2_tell 15 = .ok (.iload_n 3, 1) := by decide +kernel
theorem dX2_tell_16 : decode cX2_tell 16 = .ok (.aload_n 1, 1) := by decide +kernel
theorem dX2_tell_17 : decode cX2_tell 17 = .ok (.invokevirtual 40, 3) := by decide +kernel
theorem dX2_tell_20 : decode cX2_tell 20 = .ok (.if_icmp .gt 137, 3) := by decide +kernel
theorem dX2_tell_23 : decode cX2_tell 23 = .ok (.aload_n 0, 1) := by decide +kernel
theorem dX2_tell_24 : decode cX2_tell 24 = .ok (.getfield 12, 3) := by decide +kernel
theorem dX2_tell_27 : decode cX2_tell 27 = .ok (.iload_n 2, 1) := by decide +kernel
theorem dX2_tell_28 : decode cX2_tell 28 = .ok (.iload_n 3, 1) := by decide +kernel
theorem dX2_tell_29 : decode cX2_tell 29 = .ok (.aload_n 0, 1) := by decide +kernel
theorem dX2_tell_30 : decode cX2_tell 30 = .ok (.aload_n 1, 1) := by decide +kernel
theorem dX2_tell_31 : decode cX2_tell 31 = .ok (.iload_n 2, 1) := by decide +kernel
theorem dX2_tell_32 : decode cX2_tell 32 = .ok (.iload_n 3, 1) := by decide +kernel
theorem dX2_tell_33 : decode cX2_tell 33 = .ok (.invokevirtual 46, 3) := by decide +kernel
theorem dX2_tell_36 : decode cX2_tell 36 = .ok (.invokevirtual 50, 3) := by decide +kernel
theorem dX2_tell_39 : decode cX2_tell 39 = .ok (.aload_n 0, 1) := by decide +kernel
theorem dX2_tell_40 : decode cX2_tell 40 = .ok (.getfield 18, 3) := by decide +kernel
theorem dX2_tell_43 : decode cX2_tell 43 = .ok (.iload_n 2, 1) := by decide +kernel
theorem dX2_tell_44 : decode cX2_tell 44 = .ok (.iload_n 3, 1) := by decide +kernel
theorem dX2_tell_45 : decode cX2_tell 45 = .ok (.aload_n 0, 1) := by decide +kernel
theorem dX2_tell_46 : decode cX2_tell 46 = .ok (.aload_n 1, 1) := by decide +kernel
theorem dX2_tell_47 : decode cX2_tell 47 = .ok (.iload_n 2, 1) := by decide +kernel
theorem dX2_tell_48 : decode cX2_tell 48 = .ok (.iload_n 3, 1) := by decide +kernel
theorem dX2_tell_49 : decode cX2_tell 49 = .ok (.invokevirtual 54, 3) := by decide +kernel
theorem dX2_tell_52 : decode cX2_tell 52 = .ok (.invokevirtual 50, 3) := by decide +kernel
theorem dX2_tell_55 : decode cX2_tell 55 = .ok (.aload_n 0, 1) := by decide +kernel
theorem dX2_tell_56 : decode cX2_tell 56 = .ok (.getfield 21, 3) := by decide +kernel
theorem dX2_tell_59 : decode cX2_tell 59 = .ok (.iload_n 2, 1) := by decide +kernel
theorem dX2_tell_60 : decode cX2_tell 60 = .ok (.iload_n 3, 1) := by decide +kernel
theorem dX2_tell_61 : decode cX2_tell 61 = .ok (.aload_n 1, 1) := by decide +kernel
theorem dX2_tell_62 : decode cX2_tell 62 = .ok (.iload_n 2, 1) := by decide +kernel
theorem dX2_tell_63 : decode cX2_tell 63 = .ok (.invokevirtual 57, 3) := by decide +kernel
theorem dX2_tell_66 : decode cX2_tell 66 = .ok (.iconst 4, 1) := by decide +kernel
theorem dX2_tell_67 : decode cX2_tell 67 = .ok (.if_icmp .ne 17, 3) := by decide +kernel
theorem dX2_tell_70 : decode cX2_tell 70 = .ok (.aload_n 0, 1) := by decide +kernel
theorem dX2_tell_71 : decode cX2_tell 71 = .ok (.getfield 18, 3) := by decide +kernel
theorem dX2_tell_74 : decode cX2_tell 74 = .ok (.iload_n 2, 1) := by decide +kernel
theorem dX2_tell_75 : decode cX2_tell 75 = .ok (.iconst 1, 1) := by decide +kernel
theorem dX2_tell_76 : decode cX2_tell 76 = .ok (.iadd, 1) := by decide +kernel
theorem dX2_tell_77 : decode cX2_tell 77 = .ok (.iload_n 3, 1) := by decide +kernel
theorem dX2_tell_78 : decode cX2_tell 78 = .ok (.invokevirtual 36, 3) := by decide +kernel
theorem dX2_tell_81 : decode cX2_tell 81 = .ok (.goto 4, 3) := by decide +kernel
theorem dX2_tell_84 : decode cX2_tell 84 = .ok (.iconst 0, 1) := by decide +kernel
theorem dX2_tell_85 : decode cX2_tell 85 = .ok (.invokevirtual 50, 3) := by decide +kernel
theorem dX2_tell_88 : decode cX2_tell 88 = .ok (.aload_n 0, 1) := by decide +kernel
theorem dX2_tell_89 : decode cX2_tell 89 = .ok (.getfield 30, 3) := by decide +kernel
theorem dX2_tell_92 : decode cX2_tell 92 = .ok (.iload_n 2, 1) := by decide +kernel
theorem dX2_tell_93 : decode cX2_tell 93 = .ok (.iload_n 3, 1) := by decide +kernel
theorem dX2_tell_94 : decode cX2_tell 94 = .ok (.aload_n 0, 1) := by decide +kernel
theorem dX2_tell_95 : decode cX2_tell 95 = .ok (.iload_n 2, 1) := by decide +kernel
theorem dX2_tell_96 : decode cX2_tell 96 = .ok (.iload_n 3, 1) := by decide +kernel
theorem dX2_tell_97 : decode cX2_tell 97 = .ok (.invokevirtual 61, 3) := by decide +kernel
theorem dX2_tell_100 : decode cX2_tell 100 = .ok (.invokevirtual 50, 3) := by decide +kernel
theorem dX2_tell_103 : decode cX2_tell 103 = .ok (.aload_n 0, 1) := by decide +kernel
theorem dX2_tell_104 : decode cX2_tell 104 = .ok (.getfield 27, 3) := by decide +kernel
theorem dX2_tell_107 : decode cX2_tell 107 = .ok (.iload_n 2, 1) := by decide +kernel
theorem dX2_tell_108 : decode cX2_tell 108 = .ok (.iload_n 3, 1) := by decide +kernel
theorem dX2_tell_109 : decode cX2_tell 109 = .ok (.aload_n 0, 1) := by decide +kernel
theorem dX2_tell_110 : decode cX2_tell 110 = .ok (.aload_n 1, 1) := by decide +kernel
theorem dX2_tell_111 : decode cX2_tell 111 = .ok (.iload_n 2, 1) := by decide +kernel
theorem dX2_tell_112 : decode cX2_tell 112 = .ok (.iload_n 3, 1) := by decide +kernel
theorem dX2_tell_113 : decode cX2_tell 113 = .ok (.invokevirtual 64, 3) := by decide +kernel
theorem dX2_tell_116 : decode cX2_tell 116 = .ok (.invokevirtual 50, 3) := by decide +kernel
theorem dX2_tell_119 : decode cX2_tell 119 = .ok (.aload_n 0, 1) := by decide +kernel
theorem dX2_tell_120 : decode cX2_tell 120 = .ok (.getfield 24, 3) := by decide +kernel
theorem dX2_tell_123 : decode cX2_tell 123 = .ok (.iload_n 2, 1) := by decide +kernel
theorem dX2_tell_124 : decode cX2_tell 124 = .ok (.iload_n 3, 1) := by decide +kernel
theorem dX2_tell_125 : decode cX2_tell 125 = .ok (.aload_n 0, 1) := by decide +kernel
theorem dX2_tell_126 : decode cX2_tell 126 = .ok (.aload_n 1, 1) := by decide +kernel
theorem dX2_tell_127 : decode cX2_tell 127 = .ok (.iload_n 2, 1) := by decide +kernel
theorem dX2_tell_128 : decode cX2_tell 128 = .ok (.iload_n 3, 1) := by decide +kernel
theorem dX2_tell_129 : decode cX2_tell 129 = .ok (.invokevirtual 67, 3) := by decide +kernel
theorem dX2_tell_132 : decode cX2_tell 132 = .ok (.invokevirtual 50, 3) := by decide +kernel
theorem dX2_tell_135 : decode cX2_tell 135 = .ok (.aload_n 0, 1) := by decide +kernel
theorem dX2_tell_136 : decode cX2_tell 136 = .ok (.getfield 33, 3) := by decide +kernel
theorem dX2_tell_139 : decode cX2_tell 139 = .ok (.iload_n 2, 1) := by decide +kernel
theorem dX2_tell_140 : decode cX2_tell 140 = .ok (.iload_n 3, 1) := by decide +kernel
theorem dX2_tell_141 : decode cX2_tell 141 = .ok (.aload_n 0, 1) := by decide +kernel
theorem dX2_tell_142 : decode cX2_tell 142 = .ok (.aload_n 1, 1) := by decide +kernel
theorem dX2_tell_143 : decode cX2_tell 143 = .ok (.iload_n 2, 1) := by decide +kernel
theorem dX2_tell_144 : decode cX2_tell 144 = .ok (.iload_n 3, 1) := by decide +kernel
theorem dX2_tell_145 : decode cX2_tell 145 = .ok (.invokevirtual 70, 3) := by decide +kernel
theorem dX2_tell_148 : decode cX2_tell 148 = .ok (.invokevirtual 50, 3) := by decide +kernel
theorem dX2_tell_151 : decode cX2_tell 151 = .ok (.iinc 3 1, 3) := by decide +kernel
theorem dX2_tell_154 : decode cX2_tell 154 = .ok (.goto (-139), 3) := by decide +kernel
theorem dX2_tell_157 : decode cX2_tell 157 = .ok (.iinc 2 (-1), 3) := by decide +kernel
theorem dX2_tell_160 : decode cX2_tell 160 = .ok (.goto (-153), 3) := by decide +kernel
theorem dX2_tell_163 : decode cX2_tell 163 = .ok (.return_, 1) := by decide +kernel
theorem dX2_nameWays_0 : decode cX2_nameWays 0 = .ok (.aload_n 1, 1) := by decide +kernel
theorem dX2_nameWays_1 : decode cX2_nameWays 1 = .ok (.iload_n 2, 1) := by decide +kernel
theorem dX2_nameWays_2 : decode cX2_nameWays 2 = .ok (.invokevirtual 57, 3) := by decide +kernel
theorem dX2_nameWays_5 : decode cX2_nameWays 5 = .ok (.lookupswitch 51 #[(0, 39), (2, 27)], 27) := by decide +kernel
theorem dX2_nameWays_32 : decode cX2_nameWays 32 = .ok (.aload_n 0, 1) := by decide +kernel
theorem dX2_nameWays_33 : decode cX2_nameWays 33 = .ok (.getfield 12, 3) := by decide +kernel
theorem dX2_nameWays_36 : decode cX2_nameWays 36 = .ok (.iload_n 2, 1) := by decide +kernel
theorem dX2_nameWays_37 : decode cX2_nameWays 37 = .ok (.iconst 1, 1) := by decide +kernel
theorem dX2_nameWays_38 : decode cX2_nameWays 38 = .ok (.iadd, 1) := by decide +kernel
theorem dX2_nameWays_39 : decode cX2_nameWays 39 = .ok (.iload_n 3, 1) := by decide +kernel
theorem dX2_nameWays_40 : decode cX2_nameWays 40 = .ok (.invokevirtual 36, 3) := by decide +kernel
theorem dX2_nameWays_43 : decode cX2_nameWays 43 = .ok (.ireturn, 1) := by decide +kernel
theorem dX2_nameWays_44 : decode cX2_nameWays 44 = .ok (.aload_n 0, 1) := by decide +kernel
theorem dX2_nameWays_45 : decode cX2_nameWays 45 = .ok (.getfield 30, 3) := by decide +kernel
theorem dX2_nameWays_48 : decode cX2_nameWays 48 = .ok (.iload_n 2, 1) := by decide +kernel
theorem dX2_nameWays_49 : decode cX2_nameWays 49 = .ok (.iconst 1, 1) := by decide +kernel
theorem dX2_nameWays_50 : decode cX2_nameWays 50 = .ok (.iadd, 1) := by decide +kernel
theorem dX2_nameWays_51 : decode cX2_nameWays 51 = .ok (.iload_n 3, 1) := by decide +kernel
theorem dX2_nameWays_52 : decode cX2_nameWays 52 = .ok (.invokevirtual 73, 3) := by decide +kernel
theorem dX2_nameWays_55 : decode cX2_nameWays 55 = .ok (.ireturn, 1) := by decide +kernel
theorem dX2_nameWays_56 : decode cX2_nameWays 56 = .ok (.iconst 0, 1) := by decide +kernel
theorem dX2_nameWays_57 : decode cX2_nameWays 57 = .ok (.ireturn, 1) := by decide +kernel
theorem dX2_groupWays_0 : decode cX2_groupWays 0 = .ok (.aload_n 0, 1) := by decide +kernel
theorem dX2_groupWays_1 : decode cX2_groupWays 1 = .ok (.getfield 12, 3) := by decide +kernel
theorem dX2_groupWays_4 : decode cX2_groupWays 4 = .ok (.iload_n 2, 1) := by decide +kernel
theorem dX2_groupWays_5 : decode cX2_groupWays 5 = .ok (.iload_n 3, 1) := by decide +kernel
theorem dX2_groupWays_6 : decode cX2_groupWays 6 = .ok (.invokevirtual 36, 3) := by decide +kernel
theorem dX2_groupWays_9 : decode cX2_groupWays 9 = .ok (.istore 4, 2) := by decide +kernel
theorem dX2_groupWays_11 : decode cX2_groupWays 11 = .ok (.iload_n 2, 1) := by decide +kernel
theorem dX2_groupWays_12 : decode cX2_groupWays 12 = .ok (.iconst 1, 1) := by decide +kernel
theorem dX2_groupWays_13 : decode cX2_groupWays 13 = .ok (.iadd, 1) := by decide +kernel
theorem dX2_groupWays_14 : decode cX2_groupWays 14 = .ok (.istore 5, 2) := by decide +kernel
theorem dX2_groupWays_16 : decode cX2_groupWays 16 = .ok (.iload 5, 2) := by decide +kernel
theorem dX2_groupWays_18 : decode cX2_groupWays 18 = .ok (.iload_n 3, 1) := by decide +kernel
theorem dX2_groupWays_19 : decode cX2_groupWays 19 = .ok (.if_icmp .ge 47, 3) := by decide +kernel
theorem dX2_groupWays_22 : decode cX2_groupWays 22 = .ok (.aload_n 1, 1) := by decide +kernel
theorem dX2_groupWays_23 : decode cX2_groupWays 23 = .ok (.iload 5, 2) := by decide +kernel
theorem dX2_groupWays_25 : decode cX2_groupWays 25 = .ok (.invokevirtual 57, 3) := by decide +kernel
theorem dX2_groupWays_28 : decode cX2_groupWays 28 = .ok (.iconst 5, 1) := by decide +kernel
theorem dX2_groupWays_29 : decode cX2_groupWays 29 = .ok (.if_icmp .ne 31, 3) := by decide +kernel
theorem dX2_groupWays_32 : decode cX2_groupWays 32 = .ok (.iload 4, 2) := by decide +kernel
theorem dX2_groupWays_34 : decode cX2_groupWays 34 = .ok (.aload_n 0, 1) := by decide +kernel
theorem dX2_groupWays_35 : decode cX2_groupWays 35 = .ok (.getfield 12, 3) := by decide +kernel
theorem dX2_groupWays_38 : decode cX2_groupWays 38 = .ok (.iload_n 2, 1) := by decide +kernel
theorem dX2_groupWays_39 : decode cX2_groupWays 39 = .ok (.iload 5, 2) := by decide +kernel
theorem dX2_groupWays_41 : decode cX2_groupWays 41 = .ok (.invokevirtual 36, 3) := by decide +kernel
theorem dX2_groupWays_44 : decode cX2_groupWays 44 = .ok (.aload_n 0, 1) := by decide +kernel
theorem dX2_groupWays_45 : decode cX2_groupWays 45 = .ok (.getfield 12, 3) := by decide +kernel
theorem dX2_groupWays_48 : decode cX2_groupWays 48 = .ok (.iload 5, 2) := by decide +kernel
theorem dX2_groupWays_50 : decode cX2_groupWays 50 = .ok (.iconst 1, 1) := by decide +kernel
theorem dX2_groupWays_51 : decode cX2_groupWays 51 = .ok (.iadd, 1) := by decide +kernel
theorem dX2_groupWays_52 : decode cX2_groupWays 52 = .ok (.iload_n 3, 1) := by decide +kernel
theorem dX2_groupWays_53 : decode cX2_groupWays 53 = .ok (.invokevirtual 36, 3) := by decide +kernel
theorem dX2_groupWays_56 : decode cX2_groupWays 56 = .ok (.imul, 1) := by decide +kernel
theorem dX2_groupWays_57 : decode cX2_groupWays 57 = .ok (.iadd, 1) := by decide +kernel
theorem dX2_groupWays_58 : decode cX2_groupWays 58 = .ok (.istore 4, 2) := by decide +kernel
theorem dX2_groupWays_60 : decode cX2_groupWays 60 = .ok (.iinc 5 1, 3) := by decide +kernel
theorem dX2_groupWays_63 : decode cX2_groupWays 63 = .ok (.goto (-47), 3) := by decide +kernel
theorem dX2_groupWays_66 : decode cX2_groupWays 66 = .ok (.iload 4, 2) := by decide +kernel
theorem dX2_groupWays_68 : decode cX2_groupWays 68 = .ok (.ireturn, 1) := by decide +kernel
theorem dX2_phraseRowWays_0 : decode cX2_phraseRowWays 0 = .ok (.iconst 0, 1) := by decide +kernel
theorem dX2_phraseRowWays_1 : decode cX2_phraseRowWays 1 = .ok (.istore_n 3, 1) := by decide +kernel
theorem dX2_phraseRowWays_2 : decode cX2_phraseRowWays 2 = .ok (.iload_n 1, 1) := by decide +kernel
theorem dX2_phraseRowWays_3 : decode cX2_phraseRowWays 3 = .ok (.iconst 1, 1) := by decide +kernel
theorem dX2_phraseRowWays_4 : decode cX2_phraseRowWays 4 = .ok (.iadd, 1) := by decide +kernel
theorem dX2_phraseRowWays_5 : decode cX2_phraseRowWays 5 = .ok (.istore 4, 2) := by decide +kernel
theorem dX2_phraseRowWays_7 : decode cX2_phraseRowWays 7 = .ok (.iload 4, 2) := by decide +kernel
theorem dX2_phraseRowWays_9 : decode cX2_phraseRowWays 9 = .ok (.iload_n 2, 1) := by decide +kernel
theorem dX2_phraseRowWays_10 : decode cX2_phraseRowWays 10 = .ok (.if_icmp .gt 33, 3) := by decide +kernel
theorem dX2_phraseRowWays_13 : decode cX2_phraseRowWays 13 = .ok (.iload_n 3, 1) := by decide +kernel
theorem dX2_phraseRowWays_14 : decode cX2_phraseRowWays 14 = .ok (.aload_n 0, 1) := by decide +kernel
theorem dX2_phraseRowWays_15 : decode cX2_phraseRowWays 15 = .ok (.getfield 21, 3) := by decide +kernel
theorem dX2_phraseRowWays_18 : decode cX2_phraseRowWays 18 = .ok (.iload_n 1, 1) := by decide +kernel
theorem dX2_phraseRowWays_19 : decode cX2_phraseRowWays 19 = .ok (.iload 4, 2) := by decide +kernel
theorem dX2_phraseRowWays_21 : decode cX2_phraseRowWays 21 = .ok (.invokevirtual 36, 3) := by decide +kernel
theorem dX2_phraseRowWays_24 : decode cX2_phraseRowWays 24 = .ok (.aload_n 0, 1) := by decide +kernel
theorem dX2_phraseRowWays_25 : decode cX2_phraseRowWays 25 = .ok (.getfield 30, 3) := by decide +kernel
theorem dX2_phraseRowWays_28 : decode cX2_phraseRowWays 28 = .ok (.iload 4, 2) := by decide +kernel
theorem dX2_phraseRowWays_30 : decode cX2_phraseRowWays 30 = .ok (.iload_n 2, 1) := by decide +kernel
theorem dX2_phraseRowWays_31 : decode cX2_phraseRowWays 31 = .ok (.invokevirtual 73, 3) := by decide +kernel
theorem dX2_phraseRowWays_34 : decode cX2_phraseRowWays 34 = .ok (.imul, 1) := by decide +kernel
theorem dX2_phraseRowWays_35 : decode cX2_phraseRowWays 35 = .ok (.iadd, 1) := by decide +kernel
theorem dX2_phraseRowWays_36 : decode cX2_phraseRowWays 36 = .ok (.istore_n 3, 1) := by decide +kernel
theorem dX2_phraseRowWays_37 : decode cX2_phraseRowWays 37 = .ok (.iinc 4 1, 3) := by decide +kernel
theorem dX2_phraseRowWays_40 : decode cX2_phraseRowWays 40 = .ok (.goto (-33), 3) := by decide +kernel
theorem dX2_phraseRowWays_43 : decode cX2_phraseRowWays 43 = .ok (.iload_n 3, 1) := by decide +kernel
theorem dX2_phraseRowWays_44 : decode cX2_phraseRowWays 44 = .ok (.ireturn, 1) := by decide +kernel
theorem dX2_hangingWays_0 : decode cX2_hangingWays 0 = .ok (.aload_n 1, 1) := by decide +kernel
theorem dX2_hangingWays_1 : decode cX2_hangingWays 1 = .ok (.iload_n 2, 1) := by decide +kernel
theorem dX2_hangingWays_2 : decode cX2_hangingWays 2 = .ok (.invokevirtual 57, 3) := by decide +kernel
theorem dX2_hangingWays_5 : decode cX2_hangingWays 5 = .ok (.iconst 3, 1) := by decide +kernel
theorem dX2_hangingWays_6 : decode cX2_hangingWays 6 = .ok (.if_icmp .ne 17, 3) := by decide +kernel
theorem dX2_hangingWays_9 : decode cX2_hangingWays 9 = .ok (.aload_n 0, 1) := by decide +kernel
theorem dX2_hangingWays_10 : decode cX2_hangingWays 10 = .ok (.getfield 27, 3) := by decide +kernel
theorem dX2_hangingWays_13 : decode cX2_hangingWays 13 = .ok (.iload_n 2, 1) := by decide +kernel
theorem dX2_hangingWays_14 : decode cX2_hangingWays 14 = .ok (.iconst 1, 1) := by decide +kernel
theorem dX2_hangingWays_15 : decode cX2_hangingWays 15 = .ok (.iadd, 1) := by decide +kernel
theorem dX2_hangingWays_16 : decode cX2_hangingWays 16 = .ok (.iload_n 3, 1) := by decide +kernel
theorem dX2_hangingWays_17 : decode cX2_hangingWays 17 = .ok (.invokevirtual 73, 3) := by decide +kernel
theorem dX2_hangingWays_20 : decode cX2_hangingWays 20 = .ok (.goto 4, 3) := by decide +kernel
theorem dX2_hangingWays_23 : decode cX2_hangingWays 23 = .ok (.iconst 0, 1) := by decide +kernel
theorem dX2_hangingWays_24 : decode cX2_hangingWays 24 = .ok (.istore 4, 2) := by decide +kernel
theorem dX2_hangingWays_26 : decode cX2_hangingWays 26 = .ok (.iload_n 2, 1) := by decide +kernel
theorem dX2_hangingWays_27 : decode cX2_hangingWays 27 = .ok (.iconst 1, 1) := by decide +kernel
theorem dX2_hangingWays_28 : decode cX2_hangingWays 28 = .ok (.iadd, 1) := by decide +kernel
theorem dX2_hangingWays_29 : decode cX2_hangingWays 29 = .ok (.istore 5, 2) := by decide +kernel
theorem dX2_hangingWays_31 : decode cX2_hangingWays 31 = .ok (.iload 5, 2) := by decide +kernel
theorem dX2_hangingWays_33 : decode cX2_hangingWays 33 = .ok (.iload_n 3, 1) := by decide +kernel
theorem dX2_hangingWays_34 : decode cX2_hangingWays 34 = .ok (.if_icmp .gt 35, 3) := by decide +kernel
theorem dX2_hangingWays_37 : decode cX2_hangingWays 37 = .ok (.iload 4, 2) := by decide +kernel
theorem dX2_hangingWays_39 : decode cX2_hangingWays 39 = .ok (.aload_n 0, 1) := by decide +kernel
theorem dX2_hangingWays_40 : decode cX2_hangingWays 40 = .ok (.getfield 21, 3) := by decide +kernel
theorem dX2_hangingWays_43 : decode cX2_hangingWays 43 = .ok (.iload_n 2, 1) := by decide +kernel
theorem dX2_hangingWays_44 : decode cX2_hangingWays 44 = .ok (.iload 5, 2) := by decide +kernel
theorem dX2_hangingWays_46 : decode cX2_hangingWays 46 = .ok (.invokevirtual 36, 3) := by decide +kernel
theorem dX2_hangingWays_49 : decode cX2_hangingWays 49 = .ok (.aload_n 0, 1) := by decide +kernel
theorem dX2_hangingWays_50 : decode cX2_hangingWays 50 = .ok (.getfield 27, 3) := by decide +kernel
theorem dX2_hangingWays_53 : decode cX2_hangingWays 53 = .ok (.iload 5, 2) := by decide +kernel
theorem dX2_hangingWays_55 : decode cX2_hangingWays 55 = .ok (.iload_n 3, 1) := by decide +kernel
theorem dX2_hangingWays_56 : decode cX2_hangingWays 56 = .ok (.invokevirtual 73, 3) := by decide +kernel
theorem dX2_hangingWays_59 : decode cX2_hangingWays 59 = .ok (.imul, 1) := by decide +kernel
theorem dX2_hangingWays_60 : decode cX2_hangingWays 60 = .ok (.iadd, 1) := by decide +kernel
theorem dX2_hangingWays_61 : decode cX2_hangingWays 61 = .ok (.istore 4, 2) := by decide +kernel
theorem dX2_hangingWays_63 : decode cX2_hangingWays 63 = .ok (.iinc 5 1, 3) := by decide +kernel
theorem dX2_hangingWays_66 : decode cX2_hangingWays 66 = .ok (.goto (-35), 3) := by decide +kernel
theorem dX2_hangingWays_69 : decode cX2_hangingWays 69 = .ok (.iload 4, 2) := by decide +kernel
theorem dX2_hangingWays_71 : decode cX2_hangingWays 71 = .ok (.ireturn, 1) := by decide +kernel
theorem dX2_clauseWays_0 : decode cX2_clauseWays 0 = .ok (.iconst 0, 1) := by decide +kernel
theorem dX2_clauseWays_1 : decode cX2_clauseWays 1 = .ok (.istore 4, 2) := by decide +kernel
theorem dX2_clauseWays_3 : decode cX2_clauseWays 3 = .ok (.iload_n 2, 1) := by decide +kernel
theorem dX2_clauseWays_4 : decode cX2_clauseWays 4 = .ok (.iconst 1, 1) := by decide +kernel
theorem dX2_clauseWays_5 : decode cX2_clauseWays 5 = .ok (.iadd, 1) := by decide +kernel
theorem dX2_clauseWays_6 : decode cX2_clauseWays 6 = .ok (.istore 5, 2) := by decide +kernel
theorem dX2_clauseWays_8 : decode cX2_clauseWays 8 = .ok (.iload 5, 2) := by decide +kernel
theorem dX2_clauseWays_10 : decode cX2_clauseWays 10 = .ok (.iload_n 3, 1) := by decide +kernel
theorem dX2_clauseWays_11 : decode cX2_clauseWays 11 = .ok (.if_icmp .ge 47, 3) := by decide +kernel
theorem dX2_clauseWays_14 : decode cX2_clauseWays 14 = .ok (.aload_n 1, 1) := by decide +kernel
theorem dX2_clauseWays_15 : decode cX2_clauseWays 15 = .ok (.iload 5, 2) := by decide +kernel
theorem dX2_clauseWays_17 : decode cX2_clauseWays 17 = .ok (.invokevirtual 57, 3) := by decide +kernel
theorem dX2_clauseWays_20 : decode cX2_clauseWays 20 = .ok (.iconst 1, 1) := by decide +kernel
theorem dX2_clauseWays_21 : decode cX2_clauseWays 21 = .ok (.if_icmp .ne 31, 3) := by decide +kernel
theorem dX2_clauseWays_24 : decode cX2_clauseWays 24 = .ok (.iload 4, 2) := by decide +kernel
theorem dX2_clauseWays_26 : decode cX2_clauseWays 26 = .ok (.aload_n 0, 1) := by decide +kernel
theorem dX2_clauseWays_27 : decode cX2_clauseWays 27 = .ok (.getfield 18, 3) := by decide +kernel
theorem dX2_clauseWays_30 : decode cX2_clauseWays 30 = .ok (.iload_n 2, 1) := by decide +kernel
theorem dX2_clauseWays_31 : decode cX2_clauseWays 31 = .ok (.iload 5, 2) := by decide +kernel
theorem dX2_clauseWays_33 : decode cX2_clauseWays 33 = .ok (.invokevirtual 36, 3) := by decide +kernel
theorem dX2_clauseWays_36 : decode cX2_clauseWays 36 = .ok (.aload_n 0, 1) := by decide +kernel
theorem dX2_clauseWays_37 : decode cX2_clauseWays 37 = .ok (.getfield 33, 3) := by decide +kernel
theorem dX2_clauseWays_40 : decode cX2_clauseWays 40 = .ok (.iload 5, 2) := by decide +kernel
theorem dX2_clauseWays_42 : decode cX2_clauseWays 42 = .ok (.iconst 1, 1) := by decide +kernel
theorem dX2_clauseWays_43 : decode cX2_clauseWays 43 = .ok (.iadd, 1) := by decide +kernel
theorem dX2_clauseWays_44 : decode cX2_clauseWays 44 = .ok (.iload_n 3, 1) := by decide +kernel
theorem dX2_clauseWays_45 : decode cX2_clauseWays 45 = .ok (.invokevirtual 73, 3) := by decide +kernel
theorem dX2_clauseWays_48 : decode cX2_clauseWays 48 = .ok (.imul, 1) := by decide +kernel
theorem dX2_clauseWays_49 : decode cX2_clauseWays 49 = .ok (.iadd, 1) := by decide +kernel
theorem dX2_clauseWays_50 : decode cX2_clauseWays 50 = .ok (.istore 4, 2) := by decide +kernel
theorem dX2_clauseWays_52 : decode cX2_clauseWays 52 = .ok (.iinc 5 1, 3) := by decide +kernel
theorem dX2_clauseWays_55 : decode cX2_clauseWays 55 = .ok (.goto (-47), 3) := by decide +kernel
theorem dX2_clauseWays_58 : decode cX2_clauseWays 58 = .ok (.iload 4, 2) := by decide +kernel
theorem dX2_clauseWays_60 : decode cX2_clauseWays 60 = .ok (.ireturn, 1) := by decide +kernel
theorem dX2_verbTailWays_0 : decode cX2_verbTailWays 0 = .ok (.aload_n 0, 1) := by decide +kernel
theorem dX2_verbTailWays_1 : decode cX2_verbTailWays 1 = .ok (.getfield 27, 3) := by decide +kernel
theorem dX2_verbTailWays_4 : decode cX2_verbTailWays 4 = .ok (.iload_n 2, 1) := by decide +kernel
theorem dX2_verbTailWays_5 : decode cX2_verbTailWays 5 = .ok (.iload_n 3, 1) := by decide +kernel
theorem dX2_verbTailWays_6 : decode cX2_verbTailWays 6 = .ok (.invokevirtual 36, 3) := by decide +kernel
theorem dX2_verbTailWays_9 : decode cX2_verbTailWays 9 = .ok (.istore 4, 2) := by decide +kernel
theorem dX2_verbTailWays_11 : decode cX2_verbTailWays 11 = .ok (.iload_n 2, 1) := by decide +kernel
theorem dX2_verbTailWays_12 : decode cX2_verbTailWays 12 = .ok (.iconst 1, 1) := by decide +kernel
theorem dX2_verbTailWays_13 : decode cX2_verbTailWays 13 = .ok (.iadd, 1) := by decide +kernel
theorem dX2_verbTailWays_14 : decode cX2_verbTailWays 14 = .ok (.istore 5, 2) := by decide +kernel
theorem dX2_verbTailWays_16 : decode cX2_verbTailWays 16 = .ok (.iload 5, 2) := by decide +kernel
theorem dX2_verbTailWays_18 : decode cX2_verbTailWays 18 = .ok (.iload_n 3, 1) := by decide +kernel
theorem dX2_verbTailWays_19 : decode cX2_verbTailWays 19 = .ok (.if_icmp .gt 66, 3) := by decide +kernel
theorem dX2_verbTailWays_22 : decode cX2_verbTailWays 22 = .ok (.aload_n 0, 1) := by decide +kernel
theorem dX2_verbTailWays_23 : decode cX2_verbTailWays 23 = .ok (.getfield 18, 3) := by decide +kernel
theorem dX2_verbTailWays_26 : decode cX2_verbTailWays 26 = .ok (.iload_n 2, 1) := by decide +kernel
theorem dX2_verbTailWays_27 : decode cX2_verbTailWays 27 = .ok (.iload 5, 2) := by decide +kernel
theorem dX2_verbTailWays_29 : decode cX2_verbTailWays 29 = .ok (.invokevirtual 36, 3) := by decide +kernel
theorem dX2_verbTailWays_32 : decode cX2_verbTailWays 32 = .ok (.istore 6, 2) := by decide +kernel
theorem dX2_verbTailWays_34 : decode cX2_verbTailWays 34 = .ok (.aload_n 1, 1) := by decide +kernel
theorem dX2_verbTailWays_35 : decode cX2_verbTailWays 35 = .ok (.iload_n 2, 1) := by decide +kernel
theorem dX2_verbTailWays_36 : decode cX2_verbTailWays 36 = .ok (.invokevirtual 57, 3) := by decide +kernel
theorem dX2_verbTailWays_39 : decode cX2_verbTailWays 39 = .ok (.bipush 6, 2) := by decide +kernel
theorem dX2_verbTailWays_41 : decode cX2_verbTailWays 41 = .ok (.if_icmp .ne 20, 3) := by decide +kernel
theorem dX2_verbTailWays_44 : decode cX2_verbTailWays 44 = .ok (.iload 6, 2) := by decide +kernel
theorem dX2_verbTailWays_46 : decode cX2_verbTailWays 46 = .ok (.aload_n 0, 1) := by decide +kernel
theorem dX2_verbTailWays_47 : decode cX2_verbTailWays 47 = .ok (.getfield 24, 3) := by decide +kernel
theorem dX2_verbTailWays_50 : decode cX2_verbTailWays 50 = .ok (.iload_n 2, 1) := by decide +kernel
theorem dX2_verbTailWays_51 : decode cX2_verbTailWays 51 = .ok (.iconst 1, 1) := by decide +kernel
theorem dX2_verbTailWays_52 : decode cX2_verbTailWays 52 = .ok (.iadd, 1) := by decide +kernel
theorem dX2_verbTailWays_53 : decode cX2_verbTailWays 53 = .ok (.iload 5, 2) := by decide +kernel
theorem dX2_verbTailWays_55 : decode cX2_verbTailWays 55 = .ok (.invokevirtual 36, 3) := by decide +kernel
theorem dX2_verbTailWays_58 : decode cX2_verbTailWays 58 = .ok (.iadd, 1) := by decide +kernel
theorem dX2_verbTailWays_59 : decode cX2_verbTailWays 59 = .ok (.istore 6, 2) := by decide +kernel
theorem dX2_verbTailWays_61 : decode cX2_verbTailWays 61 = .ok (.iload 4, 2) := by decide +kernel
theorem dX2_verbTailWays_63 : decode cX2_verbTailWays 63 = .ok (.iload 6, 2) := by decide +kernel
theorem dX2_verbTailWays_65 : decode cX2_verbTailWays 65 = .ok (.aload_n 0, 1) := by decide +kernel
theorem dX2_verbTailWays_66 : decode cX2_verbTailWays 66 = .ok (.getfield 27, 3) := by decide +kernel
theorem dX2_verbTailWays_69 : decode cX2_verbTailWays 69 = .ok (.iload 5, 2) := by decide +kernel
theorem dX2_verbTailWays_71 : decode cX2_verbTailWays 71 = .ok (.iload_n 3, 1) := by decide +kernel
theorem dX2_verbTailWays_72 : decode cX2_verbTailWays 72 = .ok (.invokevirtual 73, 3) := by decide +kernel
theorem dX2_verbTailWays_75 : decode cX2_verbTailWays 75 = .ok (.imul, 1) := by decide +kernel
theorem dX2_verbTailWays_76 : decode cX2_verbTailWays 76 = .ok (.iadd, 1) := by decide +kernel
theorem dX2_verbTailWays_77 : decode cX2_verbTailWays 77 = .ok (.istore 4, 2) := by decide +kernel
theorem dX2_verbTailWays_79 : decode cX2_verbTailWays 79 = .ok (.iinc 5 1, 3) := by decide +kernel
theorem dX2_verbTailWays_82 : decode cX2_verbTailWays 82 = .ok (.goto (-66), 3) := by decide +kernel
theorem dX2_verbTailWays_85 : decode cX2_verbTailWays 85 = .ok (.iload 4, 2) := by decide +kernel
theorem dX2_verbTailWays_87 : decode cX2_verbTailWays 87 = .ok (.ireturn, 1) := by decide +kernel
theorem dX3_init_0 : decode cX3_init 0 = .ok (.aload_n 0, 1) := by decide +kernel
theorem dX3_init_1 : decode cX3_init 1 = .ok (.invokespecial 3, 3) := by decide +kernel
theorem dX3_init_4 : decode cX3_init 4 = .ok (.aload_n 0, 1) := by decide +kernel
theorem dX3_init_5 : decode cX3_init 5 = .ok (.bipush 42, 2) := by decide +kernel
theorem dX3_init_7 : decode cX3_init 7 = .ok (.newarray .long, 2) := by decide +kernel
theorem dX3_init_9 : decode cX3_init 9 = .ok (.putfield 9, 3) := by decide +kernel
theorem dX3_init_12 : decode cX3_init 12 = .ok (.aload_n 0, 1) := by decide +kernel
theorem dX3_init_13 : decode cX3_init 13 = .ok (.iconst 0, 1) := by decide +kernel
theorem dX3_init_14 : decode cX3_init 14 = .ok (.putfield 15, 3) := by decide +kernel
theorem dX3_init_17 : decode cX3_init 17 = .ok (.aload_n 0, 1) := by decide +kernel
theorem dX3_init_18 : decode cX3_init 18 = .ok (.bipush 12, 2) := by decide +kernel
theorem dX3_init_20 : decode cX3_init 20 = .ok (.newarray .int, 2) := by decide +kernel
theorem dX3_init_22 : decode cX3_init 22 = .ok (.putfield 19, 3) := by decide +kernel
theorem dX3_init_25 : decode cX3_init 25 = .ok (.aload_n 0, 1) := by decide +kernel
theorem dX3_init_26 : decode cX3_init 26 = .ok (.bipush 12, 2) := by decide +kernel
theorem dX3_init_28 : decode cX3_init 28 = .ok (.newarray .int, 2) := by decide +kernel
theorem dX3_init_30 : decode cX3_init 30 = .ok (.putfield 23, 3) := by decide +kernel
theorem dX3_init_33 : decode cX3_init 33 = .ok (.aload_n 0, 1) := by decide +kernel
theorem dX3_init_34 : decode cX3_init 34 = .ok (.iconst 0, 1) := by decide +kernel
theorem dX3_init_35 : decode cX3_init 35 = .ok (.putfield 26, 3) := by decide +kernel
theorem dX3_init_38 : decode cX3_init 38 = .ok (.return_, 1) := by decide +kernel
theorem dX3_total_0 : decode cX3_total 0 = .ok (.aload_n 0, 1) := by decide +kernel
theorem dX3_total_1 : decode cX3_total 1 = .ok (.getfield 15, 3) := by decide +kernel
theorem dX3_total_4 : decode cX3_total 4 = .ok (.ireturn, 1) := by decide +kernel
theorem dX3_codeAt_0 : decode cX3_codeAt 0 = .ok (.iload_n 1, 1) := by decide +kernel
theorem dX3_codeAt_1 : decode cX3_codeAt 1 = .ok (.ifCond .lt 21, 3) := by decide +kernel
theorem dX3_codeAt_4 : decode cX3_codeAt 4 = .ok (.iload_n 1, 1) := by decide +kernel
theorem dX3_codeAt_5 : decode cX3_codeAt 5 = .ok (.aload_n 0, 1) := by decide +kernel
theorem dX3_codeAt_6 : decode cX3_codeAt 6 = .ok (.getfield 9, 3) := by decide +kernel
theorem dX3_codeAt_9 : decode cX3_codeAt 9 = .ok (.arraylength, 1) := by decide +kernel
theorem dX3_codeAt_10 : decode cX3_codeAt 10 = .ok (.if_icmp .ge 12, 3) := by decide +kernel
theorem dX3_codeAt_13 : decode cX3_codeAt 13 = .ok (.aload_n 0, 1) := by decide +kernel
theorem dX3_codeAt_14 : decode cX3_codeAt 14 = .ok (.getfield 9, 3) := by decide +kernel
theorem dX3_codeAt_17 : decode cX3_codeAt 17 = .ok (.iload_n 1, 1) := by decide +kernel
theorem dX3_codeAt_18 : decode cX3_codeAt 18 = .ok (.laload, 1) := by decide +kernel
theorem dX3_codeAt_19 : decode cX3_codeAt 19 = .ok (.goto 4, 3) := by decide +kernel
theorem dX3_codeAt_22 : decode cX3_codeAt 22 = .ok (.lconst 0, 1) := by decide +kernel
theorem dX3_codeAt_23 : decode cX3_codeAt 23 = .ok (.lreturn, 1) := by decide +kernel
theorem dX3_headIn_0 : decode cX3_headIn 0 = .ok (.lload_n 0, 1) := by decide +kernel
theorem dX3_headIn_1 : decode cX3_headIn 1 = .ok (.iconst 4, 1) := by decide +kernel
theorem dX3_headIn_2 : decode cX3_headIn 2 = .ok (.iload_n 2, 1) := by decide +kernel
theorem dX3_headIn_3 : decode cX3_headIn 3 = .ok (.imul, 1) := by decide +kernel
theorem dX3_headIn_4 : decode cX3_headIn 4 = .ok (.lushr, 1) := by decide +kernel
theorem dX3_headIn_5 : decode cX3_headIn 5 = .ok (.ldc2_w 29, 3) := by decide +kernel
theorem dX3_headIn_8 : decode cX3_headIn 8 = .ok (.land, 1) := by decide +kernel
theorem dX3_headIn_9 : decode cX3_headIn 9 = .ok (.l2i, 1) := by decide +kernel
theorem dX3_headIn_10 : decode cX3_headIn 10 = .ok (.iconst 1, 1) := by decide +kernel
theorem dX3_headIn_11 : decode cX3_headIn 11 = .ok (.isub, 1) := by decide +kernel
theorem dX3_headIn_12 : decode cX3_headIn 12 = .ok (.ireturn, 1) := by decide +kernel
theorem dX3_tell_0 : decode cX3_tell 0 = .ok (.aload_n 0, 1) := by decide +kernel
theorem dX3_tell_1 : decode cX3_tell 1 = .ok (.aload_n 1, 1) := by decide +kernel
theorem dX3_tell_2 : decode cX3_tell 2 = .ok (.invokevirtual 31, 3) := by decide +kernel
theorem dX3_tell_5 : decode cX3_tell 5 = .ok (.putfield 26, 3) := by decide +kernel
theorem dX3_tell_8 : decode cX3_tell 8 = .ok (.iconst 0, 1) := by decide +kernel
theorem dX3_tell_9 : decode cX3_tell 9 = .ok (.istore_n 2, 1) := by decide +kernel
theorem dX3_tell_10 : decode cX3_tell 10 = .ok (.iload_n 2, 1) := by decide +kernel
theorem dX3_tell_11 : decode cX3_tell 11 = .ok (.aload_n 0, 1) := by decide +kernel
theorem dX3_tell_12 : decode cX3_tell 12 = .ok (.getfield 26, 3) := by decide +kernel
theorem dX3_tell_15 : decode cX3_tell 15 = .ok (.if_icmp .ge 29, 3) := by decide +kernel
theorem dX3_tell_18 : decode cX3_tell 18 = .ok (.iload_n 2, 1) := by decide +kernel
theorem dX3_tell_19 : decode cX3_tell 19 = .ok (.aload_n 0, 1) := by decide +kernel
theorem dX3_tell_20 : decode cX3_tell 20 = .ok (.getfield 19, 3) := by decide +kernel
theorem dX3_tell_23 : decode cX3_tell 23 = .ok (.arraylength, 1) := by decide +kernel
theorem dX3_tell_24 : decode cX3_tell 24 = .ok (.if_icmp .ge 20, 3) := by decide +kernel
theorem dX3_tell_27 : decode cX3_tell 27 = .ok (.aload_n 0, 1) := by decide +kernel
theorem dX3_tell_28 : decode cX3_tell 28 = .ok (.getfield 19, 3) := by decide +kernel
theorem dX3_tell_31 : decode cX3_tell 31 = .ok (.iload_n 2, 1) := by decide +kernel
theorem dX3_tell_32 : decode cX3_tell 32 = .ok (.aload_n 1, 1) := by decide +kernel
theorem dX3_tell_33 : decode cX3_tell 33 = .ok (.iload_n 2, 1) := by decide +kernel
theorem dX3_tell_34 : decode cX3_tell 34 = .ok (.invokevirtual 36, 3) := by decide +kernel
theorem dX3_tell_37 : decode cX3_tell 37 = .ok (.iastore, 1) := by decide +kernel
theorem dX3_tell_38 : decode cX3_tell 38 = .ok (.iinc 2 1, 3) := by decide +kernel
theorem dX3_tell_41 : decode cX3_tell 41 = .ok (.goto (-31), 3) := by decide +kernel
theorem dX3_tell_44 : decode cX3_tell 44 = .ok (.aload_n 0, 1) := by decide +kernel
theorem dX3_tell_45 : decode cX3_tell 45 = .ok (.iconst 0, 1) := by decide +kernel
theorem dX3_tell_46 : decode cX3_tell 46 = .ok (.putfield 15, 3) := by decide +kernel
theorem dX3_tell_49 : decode cX3_tell 49 = .ok (.aload_n 0, 1) := by decide +kernel
theorem dX3_tell_50 : decode cX3_tell 50 = .ok (.invokevirtual 40, 3) := by decide +kernel
theorem dX3_tell_53 : decode cX3_tell 53 = .ok (.ifCond .eq 8, 3) := by decide +kernel
theorem dX3_tell_56 : decode cX3_tell 56 = .ok (.aload_n 0, 1) := by decide +kernel
theorem dX3_tell_57 : decode cX3_tell 57 = .ok (.iconst 0, 1) := by decide +kernel
theorem dX3_tell_58 : decode cX3_tell 58 = .ok (.invokevirtual 44, 3) := by decide +kernel
theorem dX3_tell_61 : decode cX3_tell 61 = .ok (.return_, 1) := by decide +kernel
theorem dX3_kindAt_0 : decode cX3_kindAt 0 = .ok (.iload_n 1, 1) := by decide +kernel
theorem dX3_kindAt_1 : decode cX3_kindAt 1 = .ok (.ifCond .lt 29, 3) := by decide +kernel
theorem dX3_kindAt_4 : decode cX3_kindAt 4 = .ok (.iload_n 1, 1) := by decide +kernel
theorem dX3_kindAt_5 : decode cX3_kindAt 5 = .ok (.aload_n 0, 1) := by decide +kernel
theorem dX3_kindAt_6 : decode cX3_kindAt 6 = .ok (.getfield 26, 3) := by decide +kernel
theorem dX3_kindAt_9 : decode cX3_kindAt 9 = .ok (.if_icmp .ge 21, 3) := by decide +kernel
theorem dX3_kindAt_12 : decode cX3_kindAt 12 = .ok (.iload_n 1, 1) := by decide +kernel
theorem dX3_kindAt_13 : decode cX3_kindAt 13 = .ok (.aload_n 0, 1) := by decide +kernel
theorem dX3_kindAt_14 : decode cX3_kindAt 14 = .ok (.getfield 19, 3) := by decide +kernel
theorem dX3_kindAt_17 : decode cX3_kindAt 17 = .ok (.arraylength, 1) := by decide +kernel
theorem dX3_kindAt_18 : decode cX3_kindAt 18 = .ok (.if_icmp .ge 12, 3) := by decide +kernel
theorem dX3_kindAt_21 : decode cX3_kindAt 21 = .ok (.aload_n 0, 1) := by decide +kernel
theorem dX3_kindAt_22 : decode cX3_kindAt 22 = .ok (.getfield 19, 3) := by decide +kernel
theorem dX3_kindAt_25 : decode cX3_kindAt 25 = .ok (.iload_n 1, 1) := by decide +kernel
theorem dX3_kindAt_26 : decode cX3_kindAt 26 = .ok (.iaload, 1) := by decide +kernel
theorem dX3_kindAt_27 : decode cX3_kindAt 27 = .ok (.goto 5, 3) := by decide +kernel
theorem dX3_kindAt_30 : decode cX3_kindAt 30 = .ok (.bipush 6, 2) := by decide +kernel
theorem dX3_kindAt_32 : decode cX3_kindAt 32 = .ok (.ireturn, 1) := by decide +kernel
theorem dX3_headAt_0 : decode cX3_headAt 0 = .ok (.iload_n 1, 1) := by decide +kernel
theorem dX3_headAt_1 : decode cX3_headAt 1 = .ok (.ifCond .lt 21, 3) := by decide +kernel
theorem dX3_headAt_4 : decode cX3_headAt 4 = .ok (.iload_n 1, 1) := by decide +kernel
theorem dX3_headAt_5 : decode cX3_headAt 5 = .ok (.aload_n 0, 1) := by decide +kernel
theorem dX3_headAt_6 : decode cX3_headAt 6 = .ok (.getfield 23, 3) := by decide +kernel
theorem dX3_headAt_9 : decode cX3_headAt 9 = .ok (.arraylength, 1) := by decide +kernel
theorem dX3_headAt_10 : decode cX3_headAt 10 = .ok (.if_icmp .ge 12, 3) := by decide +kernel
theorem dX3_headAt_13 : decode cX3_headAt 13 = .ok (.aload_n 0, 1) := by decide +kernel
theorem dX3_headAt_14 : decode cX3_headAt 14 = .ok (.getfield 23, 3) := by decide +kernel
theorem dX3_headAt_17 : decode cX3_headAt 17 = .ok (.iload_n 1, 1) := by decide +kernel
theorem dX3_headAt_18 : decode cX3_headAt 18 = .ok (.iaload, 1) := by decide +kernel
theorem dX3_headAt_19 : decode cX3_headAt 19 = .ok (.goto 4, 3) := by decide +kernel
theorem dX3_headAt_22 : decode cX3_headAt 22 = .ok (.iconst (-1), 1) := by decide +kernel
theorem dX3_headAt_23 : decode cX3_headAt 23 = .ok (.ireturn, 1) := by decide +kernel
theorem dX3_setHead_0 : decode cX3_setHead 0 = .ok (.iload_n 1, 1) := by decide +kernel
theorem dX3_setHead_1 : decode cX3_setHead 1 = .ok (.ifCond .lt 19, 3) := by decide +kernel
theorem dX3_setHead_4 : decode cX3_setHead 4 = .ok (.iload_n 1, 1) := by decide +kernel
theorem dX3_setHead_5 : decode cX3_setHead 5 = .ok (.aload_n 0, 1) := by decide +kernel
theorem dX3_setHead_6 : decode cX3_setHead 6 = .ok (.getfield 23, 3) := by decide +kernel
theorem dX3_setHead_9 : decode cX3_setHead 9 = .ok (.arraylength, 1) := by decide +kernel
theorem dX3_setHead_10 : decode cX3_setHead 10 = .ok (.if_icmp .ge 10, 3) := by decide +kernel
theorem dX3_setHead_13 : decode cX3_setHead 13 = .ok (.aload_n 0, 1) := by decide +kernel
theorem dX3_setHead_14 : decode cX3_setHead 14 = .ok (.getfield 23, 3) := by decide +kernel
theorem dX3_setHead_17 : decode cX3_setHead 17 = .ok (.iload_n 1, 1) := by decide +kernel
theorem dX3_setHead_18 : decode cX3_setHead 18 = .ok (.iload_n 2, 1) := by decide +kernel
theorem dX3_setHead_19 : decode cX3_setHead 19 = .ok (.iastore, 1) := by decide +kernel
theorem dX3_setHead_20 : decode cX3_setHead 20 = .ok (.return_, 1) := by decide +kernel
theorem dX3_setForcedHeads_0 : decode cX3_setForcedHeads 0 = .ok (.iconst (-1), 1) := by decide +kernel
theorem dX3_setForcedHeads_1 : decode cX3_setForcedHeads 1 = .ok (.istore_n 1, 1) := by decide +kernel
theorem dX3_setForcedHeads_2 : decode cX3_setForcedHeads 2 = .ok (.iconst (-1), 1) := by decide +kernel
theorem dX3_setForcedHeads_3 : decode cX3_setForcedHeads 3 = .ok (.istore_n 2, 1) := by decide +kernel
theorem dX3_setForcedHeads_4 : decode cX3_setForcedHeads 4 = .ok (.iconst 0, 1) := by decide +kernel
theorem dX3_setForcedHeads_5 : decode cX3_setForcedHeads 5 = .ok (.istore_n 3, 1) := by decide +kernel
theorem dX3_setForcedHeads_6 : decode cX3_setForcedHeads 6 = .ok (.iload_n 3, 1) := by decide +kernel
theorem dX3_setForcedHeads_7 : decode cX3_setForcedHeads 7 = .ok (.aload_n 0, 1) := by decide +kernel
theorem dX3_setForcedHeads_8 : decode cX3_setForcedHeads 8 = .ok (.getfield 26, 3) := by decide +kernel
theorem dX3_setForcedHeads_11 : decode cX3_setForcedHeads 11 = .ok (.if_icmp .ge 121, 3) := by decide +kernel
theorem dX3_setForcedHeads_14 : decode cX3_setForcedHeads 14 = .ok (.aload_n 0, 1) := by decide +kernel
theorem dX3_setForcedHeads_15 : decode cX3_setForcedHeads 15 = .ok (.iload_n 3, 1) := by decide +kernel
theorem dX3_setForcedHeads_16 : decode cX3_setForcedHeads 16 = .ok (.iconst 1, 1) := by decide +kernel
theorem dX3_setForcedHeads_17 : decode cX3_setForcedHeads 17 = .ok (.isub, 1) := by decide +kernel
theorem dX3_setForcedHeads_18 : decode cX3_setForcedHeads 18 = .ok (.invokevirtual 48, 3) := by decide +kernel
theorem dX3_setForcedHeads_21 : decode cX3_setForcedHeads 21 = .ok (.invokestatic 49, 3) := by decide +kernel
theorem dX3_setForcedHeads_24 : decode cX3_setForcedHeads 24 = .ok (.aload_n 0, 1) := by decide +kernel
theorem dX3_setForcedHeads_25 : decode cX3_setForcedHeads 25 = .ok (.iload_n 3, 1) := by decide +kernel
theorem dX3_setForcedHeads_26 : decode cX3_setForcedHeads 26 = .ok (.invokevirtual 48, 3) := by decide +kernel
theorem dX3_setForcedHeads_29 : decode cX3_setForcedHeads 29 = .ok (.invokestatic 52, 3) := by decide +kernel
theorem dX3_setForcedHeads_32 : decode cX3_setForcedHeads 32 = .ok (.ifCond .ne 5, 3) := by decide +kernel
theorem dX3_setForcedHeads_35 : decode cX3_setForcedHeads 35 = .ok (.iconst 0, 1) := by decide +kernel
theorem dX3_setForcedHeads_36 : decode cX3_setForcedHeads 36 = .ok (.ireturn, 1) := by decide +kernel
theorem dX3_setForcedHeads_37 : decode cX3_setForcedHeads 37 = .ok (.aload_n 0, 1) := by decide +kernel
theorem dX3_setForcedHeads_38 : decode cX3_setForcedHeads 38 = .ok (.iload_n 3, 1) := by decide +kernel
theorem dX3_setForcedHeads_39 : decode cX3_setForcedHeads 39 = .ok (.invokevirtual 48, 3) := by decide +kernel
theorem dX3_setForcedHeads_42 : decode cX3_setForcedHeads 42 = .ok (.lookupswitch 84 #[(0, 34), (1, 47), (6, 71)], 34) := by decide +kernel
theorem dX3_setForcedHeads_76 : decode cX3_setForcedHeads 76 = .ok (.aload_n 0, 1) := by decide +kernel
theorem dX3_setForcedHeads_77 : decode cX3_setForcedHeads 77 = .ok (.iload_n 3, 1) := by decide +kernel
theorem dX3_setForcedHeads_78 : decode cX3_setForcedHeads 78 = .ok (.invokevirtual 56, 3) := by decide +kernel
theorem dX3_setForcedHeads_81 : decode cX3_setForcedHeads 81 = .ok (.ifCond .eq 45, 3) := by decide +kernel
theorem dX3_setForcedHeads_84 : decode cX3_setForcedHeads 84 = .ok (.iload_n 3, 1) := by decide +kernel
theorem dX3_setForcedHeads_85 : decode cX3_setForcedHeads 85 = .ok (.istore_n 2, 1) := by decide +kernel
theorem dX3_setForcedHeads_86 : decode cX3_setForcedHeads 86 = .ok (.goto 40, 3) := by decide +kernel
theorem dX3_setForcedHeads_89 : decode cX3_setForcedHeads 89 = .ok (.iload_n 2, 1) := by decide +kernel
theorem dX3_setForcedHeads_90 : decode cX3_setForcedHeads 90 = .ok (.iconst (-1), 1) := by decide +kernel
theorem dX3_setForcedHeads_91 : decode cX3_setForcedHeads 91 = .ok (.if_icmp .ne 5, 3) := by decide +kernel
theorem dX3_setForcedHeads_94 : decode cX3_setForcedHeads 94 = .ok (.iconst 0, 1) := by decide +kernel
theorem dX3_setForcedHeads_95 : decode cX3_setForcedHeads 95 = .ok (.ireturn, 1) := by decide +kernel
theorem dX3_setForcedHeads_96 : decode cX3_setForcedHeads 96 = .ok (.aload_n 0, 1) := by decide +kernel
theorem dX3_setForcedHeads_97 : decode cX3_setForcedHeads 97 = .ok (.iload_n 2, 1) := by decide +kernel
theorem dX3_setForcedHeads_98 : decode cX3_setForcedHeads 98 = .ok (.iload_n 3, 1) := by decide +kernel
theorem dX3_setForcedHeads_99 : decode cX3_setForcedHeads 99 = .ok (.invokevirtual 60, 3) := by decide +kernel
theorem dX3_setForcedHeads_102 : decode cX3_setForcedHeads 102 = .ok (.aload_n 0, 1) := by decide +kernel
theorem dX3_setForcedHeads_103 : decode cX3_setForcedHeads 103 = .ok (.iload_n 3, 1) := by decide +kernel
theorem dX3_setForcedHeads_104 : decode cX3_setForcedHeads 104 = .ok (.iload_n 1, 1) := by decide +kernel
theorem dX3_setForcedHeads_105 : decode cX3_setForcedHeads 105 = .ok (.invokevirtual 60, 3) := by decide +kernel
theorem dX3_setForcedHeads_108 : decode cX3_setForcedHeads 108 = .ok (.iconst (-1), 1) := by decide +kernel
theorem dX3_setForcedHeads_109 : decode cX3_setForcedHeads 109 = .ok (.istore_n 2, 1) := by decide +kernel
theorem dX3_setForcedHeads_110 : decode cX3_setForcedHeads 110 = .ok (.goto 16, 3) := by decide +kernel
theorem dX3_setForcedHeads_113 : decode cX3_setForcedHeads 113 = .ok (.aload_n 0, 1) := by decide +kernel
theorem dX3_setForcedHeads_114 : decode cX3_setForcedHeads 114 = .ok (.iload_n 3, 1) := by decide +kernel
theorem dX3_setForcedHeads_115 : decode cX3_setForcedHeads 115 = .ok (.iload_n 3, 1) := by decide +kernel
theorem dX3_setForcedHeads_116 : decode cX3_setForcedHeads 116 = .ok (.iconst 1, 1) := by decide +kernel
theorem dX3_setForcedHeads_117 : decode cX3_setForcedHeads 117 = .ok (.isub, 1) := by decide +kernel
theorem dX3_setForcedHeads_118 : decode cX3_setForcedHeads 118 = .ok (.invokevirtual 60, 3) := by decide +kernel
theorem dX3_setForcedHeads_121 : decode cX3_setForcedHeads 121 = .ok (.iload_n 3, 1) := by decide +kernel
theorem dX3_setForcedHeads_122 : decode cX3_setForcedHeads 122 = .ok (.istore_n 1, 1) := by decide +kernel
theorem dX3_setForcedHeads_123 : decode cX3_setForcedHeads 123 = .ok (.goto 3, 3) := by decide +kernel
theorem dX3_setForcedHeads_126 : decode cX3_setForcedHeads 126 = .ok (.iinc 3 1, 3) := by decide +kernel
theorem dX3_setForcedHeads_129 : decode cX3_setForcedHeads 129 = .ok (.goto (-123), 3) := by decide +kernel
theorem dX3_setForcedHeads_132 : decode cX3_setForcedHeads 132 = .ok (.aload_n 0, 1) := by decide +kernel
theorem dX3_setForcedHeads_133 : decode cX3_setForcedHeads 133 = .ok (.getfield 26, 3) := by decide +kernel
theorem dX3_setForcedHeads_136 : decode cX3_setForcedHeads 136 = .ok (.ifCond .le 30, 3) := by decide +kernel
theorem dX3_setForcedHeads_139 : decode cX3_setForcedHeads 139 = .ok (.iload_n 2, 1) := by decide +kernel
theorem dX3_setForcedHeads_140 : decode cX3_setForcedHeads 140 = .ok (.iconst (-1), 1) := by decide +kernel
theorem dX3_setForcedHeads_141 : decode cX3_setForcedHeads 141 = .ok (.if_icmp .ne 25, 3) := by decide +kernel
theorem dX3_setForcedHeads_144 : decode cX3_setForcedHeads 144 = .ok (.bipush 11, 2) := by decide +kernel
theorem dX3_setForcedHeads_146 : decode cX3_setForcedHeads 146 = .ok (.aload_n 0, 1) := by decide +kernel
theorem dX3_setForcedHeads_147 : decode cX3_setForcedHeads 147 = .ok (.aload_n 0, 1) := by decide +kernel
theorem dX3_setForcedHeads_148 : decode cX3_setForcedHeads 148 = .ok (.getfield 26, 3) := by decide +kernel
theorem dX3_setForcedHeads_151 : decode cX3_setForcedHeads 151 = .ok (.iconst 1, 1) := by decide +kernel
theorem dX3_setForcedHeads_152 : decode cX3_setForcedHeads 152 = .ok (.isub, 1) := by decide +kernel
theorem dX3_setForcedHeads_153 : decode cX3_setForcedHeads 153 = .ok (.invokevirtual 48, 3) := by decide +kernel
theorem dX3_setForcedHeads_156 : decode cX3_setForcedHeads 156 = .ok (.invokestatic 52, 3) := by decide +kernel
theorem dX3_setForcedHeads_159 : decode cX3_setForcedHeads 159 = .ok (.ifCond .eq 7, 3) := by decide +kernel
theorem dX3_setForcedHeads_162 : decode cX3_setForcedHeads 162 = .ok (.iconst 1, 1) := by decide +kernel
theorem dX3_setForcedHeads_163 : decode cX3_setForcedHeads 163 = .ok (.goto 4, 3) := by decide +kernel
theorem dX3_setForcedHeads_166 : decode cX3_setForcedHeads 166 = .ok (.iconst 0, 1) := by decide +kernel
theorem dX3_setForcedHeads_167 : decode cX3_setForcedHeads 167 = .ok (.ireturn, 1) := by decide +kernel
theorem dX3_hangNoun_0 : decode cX3_hangNoun 0 = .ok (.iload_n 1, 1) := by decide +kernel
theorem dX3_hangNoun_1 : decode cX3_hangNoun 1 = .ok (.iconst 1, 1) := by decide +kernel
theorem dX3_hangNoun_2 : decode cX3_hangNoun 2 = .ok (.isub, 1) := by decide +kernel
theorem dX3_hangNoun_3 : decode cX3_hangNoun 3 = .ok (.istore_n 2, 1) := by decide +kernel
theorem dX3_hangNoun_4 : decode cX3_hangNoun 4 = .ok (.iload_n 2, 1) := by decide +kernel
theorem dX3_hangNoun_5 : decode cX3_hangNoun 5 = .ok (.ifCond .lt 24, 3) := by decide +kernel
theorem dX3_hangNoun_8 : decode cX3_hangNoun 8 = .ok (.aload_n 0, 1) := by decide +kernel
theorem dX3_hangNoun_9 : decode cX3_hangNoun 9 = .ok (.iload_n 2, 1) := by decide +kernel
theorem dX3_hangNoun_10 : decode cX3_hangNoun 10 = .ok (.invokevirtual 48, 3) := by decide +kernel
theorem dX3_hangNoun_13 : decode cX3_hangNoun 13 = .ok (.iconst 2, 1) := by decide +kernel
theorem dX3_hangNoun_14 : decode cX3_hangNoun 14 = .ok (.if_icmp .ne 15, 3) := by decide +kernel
theorem dX3_hangNoun_17 : decode cX3_hangNoun 17 = .ok (.aload_n 0, 1) := by decide +kernel
theorem dX3_hangNoun_18 : decode cX3_hangNoun 18 = .ok (.iload_n 2, 1) := by decide +kernel
theorem dX3_hangNoun_19 : decode cX3_hangNoun 19 = .ok (.iload_n 1, 1) := by decide +kernel
theorem dX3_hangNoun_20 : decode cX3_hangNoun 20 = .ok (.invokevirtual 60, 3) := by decide +kernel
theorem dX3_hangNoun_23 : decode cX3_hangNoun 23 = .ok (.iinc 2 (-1), 3) := by decide +kernel
theorem dX3_hangNoun_26 : decode cX3_hangNoun 26 = .ok (.goto (-22), 3) := by decide +kernel
theorem dX3_hangNoun_29 : decode cX3_hangNoun 29 = .ok (.aload_n 0, 1) := by decide +kernel
theorem dX3_hangNoun_30 : decode cX3_hangNoun 30 = .ok (.iload_n 1, 1) := by decide +kernel
theorem dX3_hangNoun_31 : decode cX3_hangNoun 31 = .ok (.iload_n 2, 1) := by decide +kernel
theorem dX3_hangNoun_32 : decode cX3_hangNoun 32 = .ok (.invokevirtual 60, 3) := by decide +kernel
theorem dX3_hangNoun_35 : decode cX3_hangNoun 35 = .ok (.aload_n 0, 1) := by decide +kernel
theorem dX3_hangNoun_36 : decode cX3_hangNoun 36 = .ok (.iload_n 2, 1) := by decide +kernel
theorem dX3_hangNoun_37 : decode cX3_hangNoun 37 = .ok (.invokevirtual 48, 3) := by decide +kernel
theorem dX3_hangNoun_40 : decode cX3_hangNoun 40 = .ok (.bipush 6, 2) := by decide +kernel
theorem dX3_hangNoun_42 : decode cX3_hangNoun 42 = .ok (.if_icmp .ne 7, 3) := by decide +kernel
theorem dX3_hangNoun_45 : decode cX3_hangNoun 45 = .ok (.iconst 1, 1) := by decide +kernel
theorem dX3_hangNoun_46 : decode cX3_hangNoun 46 = .ok (.goto 4, 3) := by decide +kernel
theorem dX3_hangNoun_49 : decode cX3_hangNoun 49 = .ok (.iconst 0, 1) := by decide +kernel
theorem dX3_hangNoun_50 : decode cX3_hangNoun 50 = .ok (.ireturn, 1) := by decide +kernel
theorem dX3_followersOf_0 : decode cX3_followersOf 0 = .ok (.iload_n 0, 1) := by decide +kernel
theorem dX3_followersOf_1 : decode cX3_followersOf 1 = .ok (.tableswitch 40 0 3 #[31, 34, 40, 37], 31) := by decide +kernel
theorem dX3_followersOf_32 : decode cX3_followersOf 32 = .ok (.bipush 58, 2) := by decide +kernel
theorem dX3_followersOf_34 : decode cX3_followersOf 34 = .ok (.ireturn, 1) := by decide +kernel
theorem dX3_followersOf_35 : decode cX3_followersOf 35 = .ok (.bipush 93, 2) := by decide +kernel
theorem dX3_followersOf_37 : decode cX3_followersOf 37 = .ok (.ireturn, 1) := by decide +kernel
theorem dX3_followersOf_38 : decode cX3_followersOf 38 = .ok (.bipush 24, 2) := by decide +kernel
theorem dX3_followersOf_40 : decode cX3_followersOf 40 = .ok (.ireturn, 1) := by decide +kernel
theorem dX3_followersOf_41 : decode cX3_followersOf 41 = .ok (.iconst 5, 1) := by decide +kernel
theorem dX3_followersOf_42 : decode cX3_followersOf 42 = .ok (.ireturn, 1) := by decide +kernel
theorem dX3_inMask_0 : decode cX3_inMask 0 = .ok (.iload_n 0, 1) := by decide +kernel
theorem dX3_inMask_1 : decode cX3_inMask 1 = .ok (.iload_n 1, 1) := by decide +kernel
theorem dX3_inMask_2 : decode cX3_inMask 2 = .ok (.ishr, 1) := by decide +kernel
theorem dX3_inMask_3 : decode cX3_inMask 3 = .ok (.iconst 1, 1) := by decide +kernel
theorem dX3_inMask_4 : decode cX3_inMask 4 = .ok (.iand, 1) := by decide +kernel
theorem dX3_inMask_5 : decode cX3_inMask 5 = .ok (.ifCond .eq 7, 3) := by decide +kernel
theorem dX3_inMask_8 : decode cX3_inMask 8 = .ok (.iconst 1, 1) := by decide +kernel
theorem dX3_inMask_9 : decode cX3_inMask 9 = .ok (.goto 4, 3) := by decide +kernel
theorem dX3_inMask_12 : decode cX3_inMask 12 = .ok (.iconst 0, 1) := by decide +kernel
theorem dX3_inMask_13 : decode cX3_inMask 13 = .ok (.ireturn, 1) := by decide +kernel
theorem dX3_hangFrom_0 : decode cX3_hangFrom 0 = .ok (.iload_n 1, 1) := by decide +kernel
theorem dX3_hangFrom_1 : decode cX3_hangFrom 1 = .ok (.aload_n 0, 1) := by decide +kernel
theorem dX3_hangFrom_2 : decode cX3_hangFrom 2 = .ok (.getfield 26, 3) := by decide +kernel
theorem dX3_hangFrom_5 : decode cX3_hangFrom 5 = .ok (.if_icmp .ge 9, 3) := by decide +kernel
theorem dX3_hangFrom_8 : decode cX3_hangFrom 8 = .ok (.iload_n 1, 1) := by decide +kernel
theorem dX3_hangFrom_9 : decode cX3_hangFrom 9 = .ok (.bipush 12, 2) := by decide +kernel
theorem dX3_hangFrom_11 : decode cX3_hangFrom 11 = .ok (.if_icmp .lt 8, 3) := by decide +kernel
theorem dX3_hangFrom_14 : decode cX3_hangFrom 14 = .ok (.aload_n 0, 1) := by decide +kernel
theorem dX3_hangFrom_15 : decode cX3_hangFrom 15 = .ok (.invokevirtual 64, 3) := by decide +kernel
theorem dX3_hangFrom_18 : decode cX3_hangFrom 18 = .ok (.return_, 1) := by decide +kernel
theorem dX3_hangFrom_19 : decode cX3_hangFrom 19 = .ok (.bipush 56, 2) := by decide +kernel
theorem dX3_hangFrom_21 : decode cX3_hangFrom 21 = .ok (.aload_n 0, 1) := by decide +kernel
theorem dX3_hangFrom_22 : decode cX3_hangFrom 22 = .ok (.iload_n 1, 1) := by decide +kernel
theorem dX3_hangFrom_23 : decode cX3_hangFrom 23 = .ok (.invokevirtual 48, 3) := by decide +kernel
theorem dX3_hangFrom_26 : decode cX3_hangFrom 26 = .ok (.invokestatic 52, 3) := by decide +kernel
theorem dX3_hangFrom_29 : decode cX3_hangFrom 29 = .ok (.ifCond .ne 11, 3) := by decide +kernel
theorem dX3_hangFrom_32 : decode cX3_hangFrom 32 = .ok (.aload_n 0, 1) := by decide +kernel
theorem dX3_hangFrom_33 : decode cX3_hangFrom 33 = .ok (.iload_n 1, 1) := by decide +kernel
theorem dX3_hangFrom_34 : decode cX3_hangFrom 34 = .ok (.iconst 1, 1) := by decide +kernel
theorem dX3_hangFrom_35 : decode cX3_hangFrom 35 = .ok (.iadd, 1) := by decide +kernel
theorem dX3_hangFrom_36 : decode cX3_hangFrom 36 = .ok (.invokevirtual 44, 3) := by decide +kernel
theorem dX3_hangFrom_39 : decode cX3_hangFrom 39 = .ok (.return_, 1) := by decide +kernel
theorem dX3_hangFrom_40 : decode cX3_hangFrom 40 = .ok (.aload_n 0, 1) := by decide +kernel
theorem dX3_hangFrom_41 : decode cX3_hangFrom 41 = .ok (.iload_n 1, 1) := by decide +kernel
theorem dX3_hangFrom_42 : decode cX3_hangFrom 42 = .ok (.iconst 1, 1) := by decide +kernel
theorem dX3_hangFrom_43 : decode cX3_hangFrom 43 = .ok (.isub, 1) := by decide +kernel
theorem dX3_hangFrom_44 : decode cX3_hangFrom 44 = .ok (.invokevirtual 67, 3) := by decide +kernel
theorem dX3_hangFrom_47 : decode cX3_hangFrom 47 = .ok (.istore_n 2, 1) := by decide +kernel
theorem dX3_hangFrom_48 : decode cX3_hangFrom 48 = .ok (.iconst 0, 1) := by decide +kernel
theorem dX3_hangFrom_49 : decode cX3_hangFrom 49 = .ok (.istore_n 3, 1) := by decide +kernel
theorem dX3_hangFrom_50 : decode cX3_hangFrom 50 = .ok (.iload_n 3, 1) := by decide +kernel
theorem dX3_hangFrom_51 : decode cX3_hangFrom 51 = .ok (.iload_n 1, 1) := by decide +kernel
theorem dX3_hangFrom_52 : decode cX3_hangFrom 52 = .ok (.if_icmp .ge 39, 3) := by decide +kernel
theorem dX3_hangFrom_55 : decode cX3_hangFrom 55 = .ok (.iload_n 2, 1) := by decide +kernel
theorem dX3_hangFrom_56 : decode cX3_hangFrom 56 = .ok (.iload_n 3, 1) := by decide +kernel
theorem dX3_hangFrom_57 : decode cX3_hangFrom 57 = .ok (.invokestatic 52, 3) := by decide +kernel
theorem dX3_hangFrom_60 : decode cX3_hangFrom 60 = .ok (.ifCond .eq 25, 3) := by decide +kernel
theorem dX3_hangFrom_63 : decode cX3_hangFrom 63 = .ok (.aload_n 0, 1) := by decide +kernel
theorem dX3_hangFrom_64 : decode cX3_hangFrom 64 = .ok (.iload_n 3, 1) := by decide +kernel
theorem dX3_hangFrom_65 : decode cX3_hangFrom 65 = .ok (.iload_n 1, 1) := by decide +kernel
theorem dX3_hangFrom_66 : decode cX3_hangFrom 66 = .ok (.invokevirtual 70, 3) := by decide +kernel
theorem dX3_hangFrom_69 : decode cX3_hangFrom 69 = .ok (.ifCond .eq 16, 3) := by decide +kernel
theorem dX3_hangFrom_72 : decode cX3_hangFrom 72 = .ok (.aload_n 0, 1) := by decide +kernel
theorem dX3_hangFrom_73 : decode cX3_hangFrom 73 = .ok (.iload_n 1, 1) := by decide +kernel
theorem dX3_hangFrom_74 : decode cX3_hangFrom 74 = .ok (.iload_n 3, 1) := by decide +kernel
theorem dX3_hangFrom_75 : decode cX3_hangFrom 75 = .ok (.invokevirtual 60, 3) := by decide +kernel
theorem dX3_hangFrom_78 : decode cX3_hangFrom 78 = .ok (.aload_n 0, 1) := by decide +kernel
theorem dX3_hangFrom_79 : decode cX3_hangFrom 79 = .ok (.iload_n 1, 1) := by decide +kernel
theorem dX3_hangFrom_80 : decode cX3_hangFrom 80 = .ok (.iconst 1, 1) := by decide +kernel
theorem dX3_hangFrom_81 : decode cX3_hangFrom 81 = .ok (.iadd, 1) := by decide +kernel
theorem dX3_hangFrom_82 : decode cX3_hangFrom 82 = .ok (.invokevirtual 44, 3) := by decide +kernel
theorem dX3_hangFrom_85 : decode cX3_hangFrom 85 = .ok (.iinc 3 1, 3) := by decide +kernel
theorem dX3_hangFrom_88 : decode cX3_hangFrom 88 = .ok (.goto (-38), 3) := by decide +kernel
theorem dX3_hangFrom_91 : decode cX3_hangFrom 91 = .ok (.return_, 1) := by decide +kernel
theorem dX3_openBehind_0 : decode cX3_openBehind 0 = .ok (.iconst 0, 1) := by decide +kernel
theorem dX3_openBehind_1 : decode cX3_openBehind 1 = .ok (.istore_n 2, 1) := by decide +kernel
theorem dX3_openBehind_2 : decode cX3_openBehind 2 = .ok (.iload_n 1, 1) := by decide +kernel
theorem dX3_openBehind_3 : decode cX3_openBehind 3 = .ok (.istore_n 3, 1) := by decide +kernel
theorem dX3_openBehind_4 : decode cX3_openBehind 4 = .ok (.iconst 0, 1) := by decide +kernel
theorem dX3_openBehind_5 : decode cX3_openBehind 5 = .ok (.istore 4, 2) := by decide +kernel
theorem dX3_openBehind_7 : decode cX3_openBehind 7 = .ok (.iload 4, 2) := by decide +kernel
theorem dX3_openBehind_9 : decode cX3_openBehind 9 = .ok (.bipush 12, 2) := by decide +kernel
theorem dX3_openBehind_11 : decode cX3_openBehind 11 = .ok (.if_icmp .ge 38, 3) := by decide +kernel
theorem dX3_openBehind_14 : decode cX3_openBehind 14 = .ok (.iload_n 3, 1) := by decide +kernel
theorem dX3_openBehind_15 : decode cX3_openBehind 15 = .ok (.ifCond .lt 34, 3) := by decide +kernel
theorem dX3_openBehind_18 : decode cX3_openBehind 18 = .ok (.iload_n 2, 1) := by decide +kernel
theorem dX3_openBehind_19 : decode cX3_openBehind 19 = .ok (.iconst 1, 1) := by decide +kernel
theorem dX3_openBehind_20 : decode cX3_openBehind 20 = .ok (.iload_n 3, 1) := by decide +kernel
theorem dX3_openBehind_21 : decode cX3_openBehind 21 = .ok (.ishl, 1) := by decide +kernel
theorem dX3_openBehind_22 : decode cX3_openBehind 22 = .ok (.ior, 1) := by decide +kernel
theorem dX3_openBehind_23 : decode cX3_openBehind 23 = .ok (.istore_n 2, 1) := by decide +kernel
theorem dX3_openBehind_24 : decode cX3_openBehind 24 = .ok (.aload_n 0, 1) := by decide +kernel
theorem dX3_openBehind_25 : decode cX3_openBehind 25 = .ok (.iload_n 3, 1) := by decide +kernel
theorem dX3_openBehind_26 : decode cX3_openBehind 26 = .ok (.invokevirtual 73, 3) := by decide +kernel
theorem dX3_openBehind_29 : decode cX3_openBehind 29 = .ok (.iload_n 3, 1) := by decide +kernel
theorem dX3_openBehind_30 : decode cX3_openBehind 30 = .ok (.if_icmp .ge 11, 3) := by decide +kernel
theorem dX3_openBehind_33 : decode cX3_openBehind 33 = .ok (.aload_n 0, 1) := by decide +kernel
theorem dX3_openBehind_34 : decode cX3_openBehind 34 = .ok (.iload_n 3, 1) := by decide +kernel
theorem dX3_openBehind_35 : decode cX3_openBehind 35 = .ok (.invokevirtual 73, 3) := by decide +kernel
theorem dX3_openBehind_38 : decode cX3_openBehind 38 = .ok (.goto 4, 3) := by decide +kernel
theorem dX3_openBehind_41 : decode cX3_openBehind 41 = .ok (.iconst (-1), 1) := by decide +kernel
theorem dX3_openBehind_42 : decode cX3_openBehind 42 = .ok (.istore_n 3, 1) := by decide +kernel
theorem dX3_openBehind_43 : decode cX3_openBehind 43 = .ok (.iinc 4 1, 3) := by decide +kernel
theorem dX3_openBehind_46 : decode cX3_openBehind 46 = .ok (.goto (-39), 3) := by decide +kernel
theorem dX3_openBehind_49 : decode cX3_openBehind 49 = .ok (.iload_n 2, 1) := by decide +kernel
theorem dX3_openBehind_50 : decode cX3_openBehind 50 = .ok (.ireturn, 1) := by decide +kernel
theorem dX3_canHold_0 : decode cX3_canHold 0 = .ok (.aload_n 0, 1) := by decide +kernel
theorem dX3_canHold_1 : decode cX3_canHold 1 = .ok (.iload_n 2, 1) := by decide +kernel
theorem dX3_canHold_2 : decode cX3_canHold 2 = .ok (.invokevirtual 48, 3) := by decide +kernel
theorem dX3_canHold_5 : decode cX3_canHold 5 = .ok (.istore_n 3, 1) := by decide +kernel
theorem dX3_canHold_6 : decode cX3_canHold 6 = .ok (.aload_n 0, 1) := by decide +kernel
theorem dX3_canHold_7 : decode cX3_canHold 7 = .ok (.iload_n 1, 1) := by decide +kernel
theorem dX3_canHold_8 : decode cX3_canHold 8 = .ok (.invokevirtual 48, 3) := by decide +kernel
theorem dX3_canHold_11 : decode cX3_canHold 11 = .ok (.iconst 1, 1) := by decide +kernel
theorem dX3_canHold_12 : decode cX3_canHold 12 = .ok (.if_icmp .ne 14, 3) := by decide +kernel
theorem dX3_canHold_15 : decode cX3_canHold 15 = .ok (.iload_n 3, 1) := by decide +kernel
theorem dX3_canHold_16 : decode cX3_canHold 16 = .ok (.iconst 5, 1) := by decide +kernel
theorem dX3_canHold_17 : decode cX3_canHold 17 = .ok (.if_icmp .eq 7, 3) := by decide +kernel
theorem dX3_canHold_20 : decode cX3_canHold 20 = .ok (.iconst 1, 1) := by decide +kernel
theorem dX3_canHold_21 : decode cX3_canHold 21 = .ok (.goto 4, 3) := by decide +kernel
theorem dX3_canHold_24 : decode cX3_canHold 24 = .ok (.iconst 0, 1) := by decide +kernel
theorem dX3_canHold_25 : decode cX3_canHold 25 = .ok (.ireturn, 1) := by decide +kernel
theorem dX3_canHold_26 : decode cX3_canHold 26 = .ok (.aload_n 0, 1) := by decide +kernel
theorem dX3_canHold_27 : decode cX3_canHold 27 = .ok (.iload_n 1, 1) := by decide +kernel
theorem dX3_canHold_28 : decode cX3_canHold 28 = .ok (.invokevirtual 48, 3) := by decide +kernel
theorem dX3_canHold_31 : decode cX3_canHold 31 = .ok (.ifCond .ne 17, 3) := by decide +kernel
theorem dX3_canHold_34 : decode cX3_canHold 34 = .ok (.iload_n 3, 1) := by decide +kernel
theorem dX3_canHold_35 : decode cX3_canHold 35 = .ok (.iconst 3, 1) := by decide +kernel
theorem dX3_canHold_36 : decode cX3_canHold 36 = .ok (.if_icmp .eq 12, 3) := by decide +kernel
theorem dX3_canHold_39 : decode cX3_canHold 39 = .ok (.aload_n 0, 1) := by decide +kernel
theorem dX3_canHold_40 : decode cX3_canHold 40 = .ok (.iload_n 1, 1) := by decide +kernel
theorem dX3_canHold_41 : decode cX3_canHold 41 = .ok (.iload_n 2, 1) := by decide +kernel
theorem dX3_canHold_42 : decode cX3_canHold 42 = .ok (.invokevirtual 76, 3) := by decide +kernel
theorem dX3_canHold_45 : decode cX3_canHold 45 = .ok (.ifCond .eq 5, 3) := by decide +kernel
theorem dX3_canHold_48 : decode cX3_canHold 48 = .ok (.iconst 0, 1) := by decide +kernel
theorem dX3_canHold_49 : decode cX3_canHold 49 = .ok (.ireturn, 1) := by decide +kernel
theorem dX3_canHold_50 : decode cX3_canHold 50 = .ok (.iload_n 3, 1) := by decide +kernel
theorem dX3_canHold_51 : decode cX3_canHold 51 = .ok (.iconst 4, 1) := by decide +kernel
theorem dX3_canHold_52 : decode cX3_canHold 52 = .ok (.if_icmp .eq 16, 3) := by decide +kernel
theorem dX3_canHold_55 : decode cX3_canHold 55 = .ok (.aload_n 0, 1) := by decide +kernel
theorem dX3_canHold_56 : decode cX3_canHold 56 = .ok (.aload_n 0, 1) := by decide +kernel
theorem dX3_canHold_57 : decode cX3_canHold 57 = .ok (.iload_n 1, 1) := by decide +kernel
theorem dX3_canHold_58 : decode cX3_canHold 58 = .ok (.invokevirtual 73, 3) := by decide +kernel
theorem dX3_canHold_61 : decode cX3_canHold 61 = .ok (.invokevirtual 48, 3) := by decide +kernel
theorem dX3_canHold_64 : decode cX3_canHold 64 = .ok (.iconst 5, 1) := by decide +kernel
theorem dX3_canHold_65 : decode cX3_canHold 65 = .ok (.if_icmp .eq 7, 3) := by decide +kernel
theorem dX3_canHold_68 : decode cX3_canHold 68 = .ok (.iconst 1, 1) := by decide +kernel
theorem dX3_canHold_69 : decode cX3_canHold 69 = .ok (.goto 4, 3) := by decide +kernel
theorem dX3_canHold_72 : decode cX3_canHold 72 = .ok (.iconst 0, 1) := by decide +kernel
theorem dX3_canHold_73 : decode cX3_canHold 73 = .ok (.ireturn, 1) := by decide +kernel
theorem dX3_isJoined_0 : decode cX3_isJoined 0 = .ok (.iload_n 1, 1) := by decide +kernel
theorem dX3_isJoined_1 : decode cX3_isJoined 1 = .ok (.iconst 1, 1) := by decide +kernel
theorem dX3_isJoined_2 : decode cX3_isJoined 2 = .ok (.iadd, 1) := by decide +kernel
theorem dX3_isJoined_3 : decode cX3_isJoined 3 = .ok (.istore_n 3, 1) := by decide +kernel
theorem dX3_isJoined_4 : decode cX3_isJoined 4 = .ok (.iload_n 3, 1) := by decide +kernel
theorem dX3_isJoined_5 : decode cX3_isJoined 5 = .ok (.iload_n 2, 1) := by decide +kernel
theorem dX3_isJoined_6 : decode cX3_isJoined 6 = .ok (.if_icmp .ge 29, 3) := by decide +kernel
theorem dX3_isJoined_9 : decode cX3_isJoined 9 = .ok (.aload_n 0, 1) := by decide +kernel
theorem dX3_isJoined_10 : decode cX3_isJoined 10 = .ok (.iload_n 3, 1) := by decide +kernel
theorem dX3_isJoined_11 : decode cX3_isJoined 11 = .ok (.invokevirtual 48, 3) := by decide +kernel
theorem dX3_isJoined_14 : decode cX3_isJoined 14 = .ok (.iconst 5, 1) := by decide +kernel
theorem dX3_isJoined_15 : decode cX3_isJoined 15 = .ok (.if_icmp .ne 14, 3) := by decide +kernel
theorem dX3_isJoined_18 : decode cX3_isJoined 18 = .ok (.aload_n 0, 1) := by decide +kernel
theorem dX3_isJoined_19 : decode cX3_isJoined 19 = .ok (.iload_n 3, 1) := by decide +kernel
theorem dX3_isJoined_20 : decode cX3_isJoined 20 = .ok (.invokevirtual 73, 3) := by decide +kernel
theorem dX3_isJoined_23 : decode cX3_isJoined 23 = .ok (.iload_n 1, 1) := by decide +kernel
theorem dX3_isJoined_24 : decode cX3_isJoined 24 = .ok (.if_icmp .ne 5, 3) := by decide +kernel
theorem dX3_isJoined_27 : decode cX3_isJoined 27 = .ok (.iconst 1, 1) := by decide +kernel
theorem dX3_isJoined_28 : decode cX3_isJoined 28 = .ok (.ireturn, 1) := by decide +kernel
theorem dX3_isJoined_29 : decode cX3_isJoined 29 = .ok (.iinc 3 1, 3) := by decide +kernel
theorem dX3_isJoined_32 : decode cX3_isJoined 32 = .ok (.goto (-28), 3) := by decide +kernel
theorem dX3_isJoined_35 : decode cX3_isJoined 35 = .ok (.iconst 0, 1) := by decide +kernel
theorem dX3_isJoined_36 : decode cX3_isJoined 36 = .ok (.ireturn, 1) := by decide +kernel
theorem dX3_pushReading_0 : decode cX3_pushReading 0 = .ok (.aload_n 0, 1) := by decide +kernel
theorem dX3_pushReading_1 : decode cX3_pushReading 1 = .ok (.getfield 15, 3) := by decide +kernel
theorem dX3_pushReading_4 : decode cX3_pushReading 4 = .ok (.aload_n 0, 1) := by decide +kernel
theorem dX3_pushReading_5 : decode cX3_pushReading 5 = .ok (.getfield 9, 3) := by decide +kernel
theorem dX3_pushReading_8 : decode cX3_pushReading 8 = .ok (.arraylength, 1) := by decide +kernel
theorem dX3_pushReading_9 : decode cX3_pushReading 9 = .ok (.if_icmp .ge 56, 3) := by decide +kernel
theorem dX3_pushReading_12 : decode cX3_pushReading 12 = .ok (.lconst 0, 1) := by decide +kernel
theorem dX3_pushReading_13 : decode cX3_pushReading 13 = .ok (.lstore_n 1, 1) := by decide +kernel
theorem dX3_pushReading_14 : decode cX3_pushReading 14 = .ok (.iconst 0, 1) := by decide +kernel
theorem dX3_pushReading_15 : decode cX3_pushReading 15 = .ok (.istore_n 3, 1) := by decide +kernel
theorem dX3_pushReading_16 : decode cX3_pushReading 16 = .ok (.iload_n 3, 1) := by decide +kernel
theorem dX3_pushReading_17 : decode cX3_pushReading 17 = .ok (.aload_n 0, 1) := by decide +kernel
theorem dX3_pushReading_18 : decode cX3_pushReading 18 = .ok (.getfield 26, 3) := by decide +kernel
theorem dX3_pushReading_21 : decode cX3_pushReading 21 = .ok (.if_icmp .ge 24, 3) := by decide +kernel
theorem dX3_pushReading_24 : decode cX3_pushReading 24 = .ok (.lload_n 1, 1) := by decide +kernel
theorem dX3_pushReading_25 : decode cX3_pushReading 25 = .ok (.aload_n 0, 1) := by decide +kernel
theorem dX3_pushReading_26 : decode cX3_pushReading 26 = .ok (.iload_n 3, 1) := by decide +kernel
theorem dX3_pushReading_27 : decode cX3_pushReading 27 = .ok (.invokevirtual 73, 3) := by decide +kernel
theorem dX3_pushReading_30 : decode cX3_pushReading 30 = .ok (.iconst 1, 1) := by decide +kernel
theorem dX3_pushReading_31 : decode cX3_pushReading 31 = .ok (.iadd, 1) := by decide +kernel
theorem dX3_pushReading_32 : decode cX3_pushReading 32 = .ok (.i2l, 1) := by decide +kernel
theorem dX3_pushReading_33 : decode cX3_pushReading 33 = .ok (.iconst 4, 1) := by decide +kernel
theorem dX3_pushReading_34 : decode cX3_pushReading 34 = .ok (.iload_n 3, 1) := by decide +kernel
theorem dX3_pushReading_35 : decode cX3_pushReading 35 = .ok (.imul, 1) := by decide +kernel
theorem dX3_pushReading_36 : decode cX3_pushReading 36 = .ok (.lshl, 1) := by decide +kernel
theorem dX3_pushReading_37 : decode cX3_pushReading 37 = .ok (.lor, 1) := by decide +kernel
theorem dX3_pushReading_38 : decode cX3_pushReading 38 = .ok (.lstore_n 1, 1) := by decide +kernel
theorem dX3_pushReading_39 : decode cX3_pushReading 39 = .ok (.iinc 3 1, 3) := by decide +kernel
theorem dX3_pushReading_42 : decode cX3_pushReading 42 = .ok (.goto (-26), 3) := by decide +kernel
theorem dX3_pushReading_45 : decode cX3_pushReading 45 = .ok (.aload_n 0, 1) := by decide +kernel
theorem dX3_pushReading_46 : decode cX3_pushReading 46 = .ok (.getfield 9, 3) := by decide +kernel
theorem dX3_pushReading_49 : decode cX3_pushReading 49 = .ok (.aload_n 0, 1) := by decide +kernel
theorem dX3_pushReading_50 : decode cX3_pushReading 50 = .ok (.getfield 15, 3) := by decide +kernel
theorem dX3_pushReading_53 : decode cX3_pushReading 53 = .ok (.lload_n 1, 1) := by decide +kernel
theorem dX3_pushReading_54 : decode cX3_pushReading 54 = .ok (.lastore, 1) := by decide +kernel
theorem dX3_pushReading_55 : decode cX3_pushReading 55 = .ok (.aload_n 0, 1) := by decide +kernel
theorem dX3_pushReading_56 : decode cX3_pushReading 56 = .ok (.dup, 1) := by decide +kernel
theorem dX3_pushReading_57 : decode cX3_pushReading 57 = .ok (.getfield 15, 3) := by decide +kernel
theorem dX3_pushReading_60 : decode cX3_pushReading 60 = .ok (.iconst 1, 1) := by decide +kernel
theorem dX3_pushReading_61 : decode cX3_pushReading 61 = .ok (.iadd, 1) := by decide +kernel
theorem dX3_pushReading_62 : decode cX3_pushReading 62 = .ok (.putfield 15, 3) := by decide +kernel
theorem dX3_pushReading_65 : decode cX3_pushReading 65 = .ok (.return_, 1) := by decide +kernel
theorem dX4_init_0 : decode cX4_init 0 = .ok (.aload_n 0, 1) := by decide +kernel
theorem dX4_init_1 : decode cX4_init 1 = .ok (.invokespecial 3, 3) := by decide +kernel
theorem dX4_init_4 : decode cX4_init 4 = .ok (.aload_n 0, 1) := by decide +kernel
theorem dX4_init_5 : decode cX4_init 5 = .ok (.bipush 12, 2) := by decide +kernel
theorem dX4_init_7 : decode cX4_init 7 = .ok (.newarray .int, 2) := by decide +kernel
theorem dX4_init_9 : decode cX4_init 9 = .ok (.putfield 9, 3) := by decide +kernel
theorem dX4_init_12 : decode cX4_init 12 = .ok (.aload_n 0, 1) := by decide +kernel
theorem dX4_init_13 : decode cX4_init 13 = .ok (.bipush 12, 2) := by decide +kernel
theorem dX4_init_15 : decode cX4_init 15 = .ok (.newarray .int, 2) := by decide +kernel
theorem dX4_init_17 : decode cX4_init 17 = .ok (.putfield 15, 3) := by decide +kernel
theorem dX4_init_20 : decode cX4_init 20 = .ok (.aload_n 0, 1) := by decide +kernel
theorem dX4_init_21 : decode cX4_init 21 = .ok (.iconst 0, 1) := by decide +kernel
theorem dX4_init_22 : decode cX4_init 22 = .ok (.putfield 18, 3) := by decide +kernel
theorem dX4_init_25 : decode cX4_init 25 = .ok (.aload_n 0, 1) := by decide +kernel
theorem dX4_init_26 : decode cX4_init 26 = .ok (.iconst 0, 1) := by decide +kernel
theorem dX4_init_27 : decode cX4_init 27 = .ok (.putfield 22, 3) := by decide +kernel
theorem dX4_init_30 : decode cX4_init 30 = .ok (.aload_n 0, 1) := by decide +kernel
theorem dX4_init_31 : decode cX4_init 31 = .ok (.getfield 15, 3) := by decide +kernel
theorem dX4_init_34 : decode cX4_init 34 = .ok (.bipush (-2), 2) := by decide +kernel
theorem dX4_init_36 : decode cX4_init 36 = .ok (.invokestatic 25, 3) := by decide +kernel
theorem dX4_init_39 : decode cX4_init 39 = .ok (.return_, 1) := by decide +kernel
theorem dX4_take_0 : decode cX4_take 0 = .ok (.aload_n 1, 1) := by decide +kernel
theorem dX4_take_1 : decode cX4_take 1 = .ok (.getfield 9, 3) := by decide +kernel
theorem dX4_take_4 : decode cX4_take 4 = .ok (.iconst 0, 1) := by decide +kernel
theorem dX4_take_5 : decode cX4_take 5 = .ok (.aload_n 0, 1) := by decide +kernel
theorem dX4_take_6 : decode cX4_take 6 = .ok (.getfield 9, 3) := by decide +kernel
theorem dX4_take_9 : decode cX4_take 9 = .ok (.iconst 0, 1) := by decide +kernel
theorem dX4_take_10 : decode cX4_take 10 = .ok (.bipush 12, 2) := by decide +kernel
theorem dX4_take_12 : decode cX4_take 12 = .ok (.invokestatic 31, 3) := by decide +kernel
theorem dX4_take_15 : decode cX4_take 15 = .ok (.aload_n 1, 1) := by decide +kernel
theorem dX4_take_16 : decode cX4_take 16 = .ok (.getfield 15, 3) := by decide +kernel
theorem dX4_take_19 : decode cX4_take 19 = .ok (.iconst 0, 1) := by decide +kernel
theorem dX4_take_20 : decode cX4_take 20 = .ok (.aload_n 0, 1) := by decide +kernel
theorem dX4_take_21 : decode cX4_take 21 = .ok (.getfield 15, 3) := by decide +kernel
theorem dX4_take_24 : decode cX4_take 24 = .ok (.iconst 0, 1) := by decide +kernel
theorem dX4_take_25 : decode cX4_take 25 = .ok (.bipush 12, 2) := by decide +kernel
theorem dX4_take_27 : decode cX4_take 27 = .ok (.invokestatic 31, 3) := by decide +kernel
theorem dX4_take_30 : decode cX4_take 30 = .ok (.aload_n 0, 1) := by decide +kernel
theorem dX4_take_31 : decode cX4_take 31 = .ok (.aload_n 1, 1) := by decide +kernel
theorem dX4_take_32 : decode cX4_take 32 = .ok (.getfield 18, 3) := by decide +kernel
theorem dX4_take_35 : decode cX4_take 35 = .ok (.putfield 18, 3) := by decide +kernel
theorem dX4_take_38 : decode cX4_take 38 = .ok (.aload_n 0, 1) := by decide +kernel
theorem dX4_take_39 : decode cX4_take 39 = .ok (.aload_n 1, 1) := by decide +kernel
theorem dX4_take_40 : decode cX4_take 40 = .ok (.getfield 22, 3) := by decide +kernel
theorem dX4_take_43 : decode cX4_take 43 = .ok (.putfield 22, 3) := by decide +kernel
theorem dX4_take_46 : decode cX4_take 46 = .ok (.return_, 1) := by decide +kernel
theorem dX4_size_0 : decode cX4_size 0 = .ok (.aload_n 0, 1) := by decide +kernel
theorem dX4_size_1 : decode cX4_size 1 = .ok (.getfield 18, 3) := by decide +kernel
theorem dX4_size_4 : decode cX4_size 4 = .ok (.ireturn, 1) := by decide +kernel
theorem dX4_has_0 : decode cX4_has 0 = .ok (.iload_n 1, 1) := by decide +kernel
theorem dX4_has_1 : decode cX4_has 1 = .ok (.ifCond .lt 21, 3) := by decide +kernel
theorem dX4_has_4 : decode cX4_has 4 = .ok (.iload_n 1, 1) := by decide +kernel
theorem dX4_has_5 : decode cX4_has 5 = .ok (.aload_n 0, 1) := by decide +kernel
theorem dX4_has_6 : decode cX4_has 6 = .ok (.getfield 18, 3) := by decide +kernel
theorem dX4_has_9 : decode cX4_has 9 = .ok (.if_icmp .ge 13, 3) := by decide +kernel
theorem dX4_has_12 : decode cX4_has 12 = .ok (.iload_n 1, 1) := by decide +kernel
theorem dX4_has_13 : decode cX4_has 13 = .ok (.bipush 12, 2) := by decide +kernel
theorem dX4_has_15 : decode cX4_has 15 = .ok (.if_icmp .ge 7, 3) := by decide +kernel
theorem dX4_has_18 : decode cX4_has 18 = .ok (.iconst 1, 1) := by decide +kernel
theorem dX4_has_19 : decode cX4_has 19 = .ok (.goto 4, 3) := by decide +kernel
theorem dX4_has_22 : decode cX4_has 22 = .ok (.iconst 0, 1) := by decide +kernel
theorem dX4_has_23 : decode cX4_has 23 = .ok (.ireturn, 1) := by decide +kernel
theorem dX4_kindAt_0 : decode cX4_kindAt 0 = .ok (.aload_n 0, 1) := by decide +kernel
theorem dX4_kindAt_1 : decode cX4_kindAt 1 = .ok (.iload_n 1, 1) := by decide +kernel
theorem dX4_kindAt_2 : decode cX4_kindAt 2 = .ok (.invokevirtual 37, 3) := by decide +kernel
theorem dX4_kindAt_5 : decode cX4_kindAt 5 = .ok (.ifCond .eq 12, 3) := by decide +kernel
theorem dX4_kindAt_8 : decode cX4_kindAt 8 = .ok (.aload_n 0, 1) := by decide +kernel
theorem dX4_kindAt_9 : decode cX4_kindAt 9 = .ok (.getfield 9, 3) := by decide +kernel
theorem dX4_kindAt_12 : decode cX4_kindAt 12 = .ok (.iload_n 1, 1) := by decide +kernel
theorem dX4_kindAt_13 : decode cX4_kindAt 13 = .ok (.iaload, 1) := by decide +kernel
theorem dX4_kindAt_14 : decode cX4_kindAt 14 = .ok (.goto 4, 3) := by decide +kernel
theorem dX4_kindAt_17 : decode cX4_kindAt 17 = .ok (.iconst (-1), 1) := by decide +kernel
theorem dX4_kindAt_18 : decode cX4_kindAt 18 = .ok (.ireturn, 1) := by decide +kernel
theorem dX4_fixedAt_0 : decode cX4_fixedAt 0 = .ok (.aload_n 0, 1) := by decide +kernel
theorem dX4_fixedAt_1 : decode cX4_fixedAt 1 = .ok (.iload_n 1, 1) := by decide +kernel
theorem dX4_fixedAt_2 : decode cX4_fixedAt 2 = .ok (.invokevirtual 37, 3) := by decide +kernel
theorem dX4_fixedAt_5 : decode cX4_fixedAt 5 = .ok (.ifCond .eq 12, 3) := by decide +kernel
theorem dX4_fixedAt_8 : decode cX4_fixedAt 8 = .ok (.aload_n 0, 1) := by decide +kernel
theorem dX4_fixedAt_9 : decode cX4_fixedAt 9 = .ok (.getfield 15, 3) := by decide +kernel
theorem dX4_fixedAt_12 : decode cX4_fixedAt 12 = .ok (.iload_n 1, 1) := by decide +kernel
theorem dX4_fixedAt_13 : decode cX4_fixedAt 13 = .ok (.iaload, 1) := by decide +kernel
theorem dX4_fixedAt_14 : decode cX4_fixedAt 14 = .ok (.goto 5, 3) := by decide +kernel
theorem dX4_fixedAt_17 : decode cX4_fixedAt 17 = .ok (.bipush (-2), 2) := by decide +kernel
theorem dX4_fixedAt_19 : decode cX4_fixedAt 19 = .ok (.ireturn, 1) := by decide +kernel
theorem dX4_drawn_0 : decode cX4_drawn 0 = .ok (.aload_n 0, 1) := by decide +kernel
theorem dX4_drawn_1 : decode cX4_drawn 1 = .ok (.getfield 22, 3) := by decide +kernel
theorem dX4_drawn_4 : decode cX4_drawn 4 = .ok (.ireturn, 1) := by decide +kernel
theorem dX4_fixedWords_0 : decode cX4_fixedWords 0 = .ok (.iconst 0, 1) := by decide +kernel
theorem dX4_fixedWords_1 : decode cX4_fixedWords 1 = .ok (.istore_n 1, 1) := by decide +kernel
theorem dX4_fixedWords_2 : decode cX4_fixedWords 2 = .ok (.iconst 0, 1) := by decide +kernel
theorem dX4_fixedWords_3 : decode cX4_fixedWords 3 = .ok (.istore_n 2, 1) := by decide +kernel
theorem dX4_fixedWords_4 : decode cX4_fixedWords 4 = .ok (.iload_n 2, 1) := by decide +kernel
theorem dX4_fixedWords_5 : decode cX4_fixedWords 5 = .ok (.aload_n 0, 1) := by decide +kernel
theorem dX4_fixedWords_6 : decode cX4_fixedWords 6 = .ok (.getfield 18, 3) := by decide +kernel
theorem dX4_fixedWords_9 : decode cX4_fixedWords 9 = .ok (.if_icmp .ge 22, 3) := by decide +kernel
theorem dX4_fixedWords_12 : decode cX4_fixedWords 12 = .ok (.aload_n 0, 1) := by decide +kernel
theorem dX4_fixedWords_13 : decode cX4_fixedWords 13 = .ok (.iload_n 2, 1) := by decide +kernel
theorem dX4_fixedWords_14 : decode cX4_fixedWords 14 = .ok (.invokevirtual 41, 3) := by decide +kernel
theorem dX4_fixedWords_17 : decode cX4_fixedWords 17 = .ok (.bipush (-2), 2) := by decide +kernel
theorem dX4_fixedWords_19 : decode cX4_fixedWords 19 = .ok (.if_icmp .eq 6, 3) := by decide +kernel
theorem dX4_fixedWords_22 : decode cX4_fixedWords 22 = .ok (.iinc 1 1, 3) := by decide +kernel
theorem dX4_fixedWords_25 : decode cX4_fixedWords 25 = .ok (.iinc 2 1, 3) := by decide +kernel
theorem dX4_fixedWords_28 : decode cX4_fixedWords 28 = .ok (.goto (-24), 3) := by decide +kernel
theorem dX4_fixedWords_31 : decode cX4_fixedWords 31 = .ok (.iload_n 1, 1) := by decide +kernel
theorem dX4_fixedWords_32 : decode cX4_fixedWords 32 = .ok (.ireturn, 1) := by decide +kernel
theorem dX4_clearWords_0 : decode cX4_clearWords 0 = .ok (.aload_n 0, 1) := by decide +kernel
theorem dX4_clearWords_1 : decode cX4_clearWords 1 = .ok (.iconst 0, 1) := by decide +kernel
theorem dX4_clearWords_2 : decode cX4_clearWords 2 = .ok (.putfield 18, 3) := by decide +kernel
theorem dX4_clearWords_5 : decode cX4_clearWords 5 = .ok (.return_, 1) := by decide +kernel
theorem dX4_pushWord_0 : decode cX4_pushWord 0 = .ok (.aload_n 0, 1) := by decide +kernel
theorem dX4_pushWord_1 : decode cX4_pushWord 1 = .ok (.getfield 18, 3) := by decide +kernel
theorem dX4_pushWord_4 : decode cX4_pushWord 4 = .ok (.bipush 12, 2) := by decide +kernel
theorem dX4_pushWord_6 : decode cX4_pushWord 6 = .ok (.if_icmp .ge 23, 3) := by decide +kernel
theorem dX4_pushWord_9 : decode cX4_pushWord 9 = .ok (.aload_n 0, 1) := by decide +kernel
theorem dX4_pushWord_10 : decode cX4_pushWord 10 = .ok (.getfield 9, 3) := by decide +kernel
theorem dX4_pushWord_13 : decode cX4_pushWord 13 = .ok (.aload_n 0, 1) := by decide +kernel
theorem dX4_pushWord_14 : decode cX4_pushWord 14 = .ok (.getfield 18, 3) := by decide +kernel
theorem dX4_pushWord_17 : decode cX4_pushWord 17 = .ok (.iload_n 1, 1) := by decide +kernel
theorem dX4_pushWord_18 : decode cX4_pushWord 18 = .ok (.iastore, 1) := by decide +kernel
theorem dX4_pushWord_19 : decode cX4_pushWord 19 = .ok (.aload_n 0, 1) := by decide +kernel
theorem dX4_pushWord_20 : decode cX4_pushWord 20 = .ok (.dup, 1) := by decide +kernel
theorem dX4_pushWord_21 : decode cX4_pushWord 21 = .ok (.getfield 18, 3) := by decide +kernel
theorem dX4_pushWord_24 : decode cX4_pushWord 24 = .ok (.iconst 1, 1) := by decide +kernel
theorem dX4_pushWord_25 : decode cX4_pushWord 25 = .ok (.iadd, 1) := by decide +kernel
theorem dX4_pushWord_26 : decode cX4_pushWord 26 = .ok (.putfield 18, 3) := by decide +kernel
theorem dX4_pushWord_29 : decode cX4_pushWord 29 = .ok (.return_, 1) := by decide +kernel
theorem dX4_dropWord_0 : decode cX4_dropWord 0 = .ok (.aload_n 0, 1) := by decide +kernel
theorem dX4_dropWord_1 : decode cX4_dropWord 1 = .ok (.iload_n 1, 1) := by decide +kernel
theorem dX4_dropWord_2 : decode cX4_dropWord 2 = .ok (.invokevirtual 37, 3) := by decide +kernel
theorem dX4_dropWord_5 : decode cX4_dropWord 5 = .ok (.ifCond .eq 36, 3) := by decide +kernel
theorem dX4_dropWord_8 : decode cX4_dropWord 8 = .ok (.aload_n 0, 1) := by decide +kernel
theorem dX4_dropWord_9 : decode cX4_dropWord 9 = .ok (.getfield 9, 3) := by decide +kernel
theorem dX4_dropWord_12 : decode cX4_dropWord 12 = .ok (.iload_n 1, 1) := by decide +kernel
theorem dX4_dropWord_13 : decode cX4_dropWord 13 = .ok (.iconst 1, 1) := by decide +kernel
theorem dX4_dropWord_14 : decode cX4_dropWord 14 = .ok (.iadd, 1) := by decide +kernel
theorem dX4_dropWord_15 : decode cX4_dropWord 15 = .ok (.aload_n 0, 1) := by decide +kernel
theorem dX4_dropWord_16 : decode cX4_dropWord 16 = .ok (.getfield 9, 3) := by decide +kernel
theorem dX4_dropWord_19 : decode cX4_dropWord 19 = .ok (.iload_n 1, 1) := by decide +kernel
theorem dX4_dropWord_20 : decode cX4_dropWord 20 = .ok (.aload_n 0, 1) := by decide +kernel
theorem dX4_dropWord_21 : decode cX4_dropWord 21 = .ok (.getfield 18, 3) := by decide +kernel
theorem dX4_dropWord_24 : decode cX4_dropWord 24 = .ok (.iload_n 1, 1) := by decide +kernel
theorem dX4_dropWord_25 : decode cX4_dropWord 25 = .ok (.isub, 1) := by decide +kernel
theorem dX4_dropWord_26 : decode cX4_dropWord 26 = .ok (.iconst 1, 1) := by decide +kernel
theorem dX4_dropWord_27 : decode cX4_dropWord 27 = .ok (.isub, 1) := by decide +kernel
theorem dX4_dropWord_28 : decode cX4_dropWord 28 = .ok (.invokestatic 31, 3) := by decide +kernel
theorem dX4_dropWord_31 : decode cX4_dropWord 31 = .ok (.aload_n 0, 1) := by decide +kernel
theorem dX4_dropWord_32 : decode cX4_dropWord 32 = .ok (.dup, 1) := by decide +kernel
theorem dX4_dropWord_33 : decode cX4_dropWord 33 = .ok (.getfield 18, 3) := by decide +kernel
theorem dX4_dropWord_36 : decode cX4_dropWord 36 = .ok (.iconst 1, 1) := by decide +kernel
theorem dX4_dropWord_37 : decode cX4_dropWord 37 = .ok (.isub, 1) := by decide +kernel
theorem dX4_dropWord_38 : decode cX4_dropWord 38 = .ok (.putfield 18, 3) := by decide +kernel
theorem dX4_dropWord_41 : decode cX4_dropWord 41 = .ok (.return_, 1) := by decide +kernel
theorem dX4_setKind_0 : decode cX4_setKind 0 = .ok (.aload_n 0, 1) := by decide +kernel
theorem dX4_setKind_1 : decode cX4_setKind 1 = .ok (.iload_n 1, 1) := by decide +kernel
theorem dX4_setKind_2 : decode cX4_setKind 2 = .ok (.invokevirtual 37, 3) := by decide +kernel
theorem dX4_setKind_5 : decode cX4_setKind 5 = .ok (.ifCond .eq 10, 3) := by decide +kernel
theorem dX4_setKind_8 : decode cX4_setKind 8 = .ok (.aload_n 0, 1) := by decide +kernel
theorem dX4_setKind_9 : decode cX4_setKind 9 = .ok (.getfield 9, 3) := by decide +kernel
theorem dX4_setKind_12 : decode cX4_setKind 12 = .ok (.iload_n 1, 1) := by decide +kernel
theorem dX4_setKind_13 : decode cX4_setKind 13 = .ok (.iload_n 2, 1) := by decide +kernel
theorem dX4_setKind_14 : decode cX4_setKind 14 = .ok (.iastore, 1) := by decide +kernel
theorem dX4_setKind_15 : decode cX4_setKind 15 = .ok (.return_, 1) := by decide +kernel
theorem dX4_setFixed_0 : decode cX4_setFixed 0 = .ok (.aload_n 0, 1) := by decide +kernel
theorem dX4_setFixed_1 : decode cX4_setFixed 1 = .ok (.iload_n 1, 1) := by decide +kernel
theorem dX4_setFixed_2 : decode cX4_setFixed 2 = .ok (.invokevirtual 37, 3) := by decide +kernel
theorem dX4_setFixed_5 : decode cX4_setFixed 5 = .ok (.ifCond .eq 10, 3) := by decide +kernel
theorem dX4_setFixed_8 : decode cX4_setFixed 8 = .ok (.aload_n 0, 1) := by decide +kernel
theorem dX4_setFixed_9 : decode cX4_setFixed 9 = .ok (.getfield 15, 3) := by decide +kernel
theorem dX4_setFixed_12 : decode cX4_setFixed 12 = .ok (.iload_n 1, 1) := by decide +kernel
theorem dX4_setFixed_13 : decode cX4_setFixed 13 = .ok (.iload_n 2, 1) := by decide +kernel
theorem dX4_setFixed_14 : decode cX4_setFixed 14 = .ok (.iastore, 1) := by decide +kernel
theorem dX4_setFixed_15 : decode cX4_setFixed 15 = .ok (.return_, 1) := by decide +kernel
theorem dX4_loosenAll_0 : decode cX4_loosenAll 0 = .ok (.aload_n 0, 1) := by decide +kernel
theorem dX4_loosenAll_1 : decode cX4_loosenAll 1 = .ok (.getfield 15, 3) := by decide +kernel
theorem dX4_loosenAll_4 : decode cX4_loosenAll 4 = .ok (.bipush (-2), 2) := by decide +kernel
theorem dX4_loosenAll_6 : decode cX4_loosenAll 6 = .ok (.invokestatic 25, 3) := by decide +kernel
theorem dX4_loosenAll_9 : decode cX4_loosenAll 9 = .ok (.return_, 1) := by decide +kernel
theorem dX4_setDrawn_0 : decode cX4_setDrawn 0 = .ok (.aload_n 0, 1) := by decide +kernel
theorem dX4_setDrawn_1 : decode cX4_setDrawn 1 = .ok (.iload_n 1, 1) := by decide +kernel
theorem dX4_setDrawn_2 : decode cX4_setDrawn 2 = .ok (.putfield 22, 3) := by decide +kernel
theorem dX4_setDrawn_5 : decode cX4_setDrawn 5 = .ok (.return_, 1) := by decide +kernel
theorem dX5_init_0 : decode cX5_init 0 = .ok (.aload_n 0, 1) := by decide +kernel
theorem dX5_init_1 : decode cX5_init 1 = .ok (.invokespecial 1, 3) := by decide +kernel
theorem dX5_init_4 : decode cX5_init 4 = .ok (.aload_n 0, 1) := by decide +kernel
theorem dX5_init_5 : decode cX5_init 5 = .ok (.new 7, 3) := by decide +kernel
theorem dX5_init_8 : decode cX5_init 8 = .ok (.dup, 1) := by decide +kernel
theorem dX5_init_9 : decode cX5_init 9 = .ok (.invokespecial 9, 3) := by decide +kernel
theorem dX5_init_12 : decode cX5_init 12 = .ok (.putfield 10, 3) := by decide +kernel
theorem dX5_init_15 : decode cX5_init 15 = .ok (.iconst 0, 1) := by decide +kernel
theorem dX5_init_16 : decode cX5_init 16 = .ok (.istore_n 2, 1) := by decide +kernel
theorem dX5_init_17 : decode cX5_init 17 = .ok (.iload_n 2, 1) := by decide +kernel
theorem dX5_init_18 : decode cX5_init 18 = .ok (.iload_n 1, 1) := by decide +kernel
theorem dX5_init_19 : decode cX5_init 19 = .ok (.if_icmp .ge 24, 3) := by decide +kernel
theorem dX5_init_22 : decode cX5_init 22 = .ok (.aload_n 0, 1) := by decide +kernel
theorem dX5_init_23 : decode cX5_init 23 = .ok (.getfield 10, 3) := by decide +kernel
theorem dX5_init_26 : decode cX5_init 26 = .ok (.new 16, 3) := by decide +kernel
theorem dX5_init_29 : decode cX5_init 29 = .ok (.dup, 1) := by decide +kernel
theorem dX5_init_30 : decode cX5_init 30 = .ok (.invokespecial 18, 3) := by decide +kernel
theorem dX5_init_33 : decode cX5_init 33 = .ok (.invokevirtual 19, 3) := by decide +kernel
theorem dX5_init_36 : decode cX5_init 36 = .ok (.pop, 1) := by decide +kernel
theorem dX5_init_37 : decode cX5_init 37 = .ok (.iinc 2 1, 3) := by decide +kernel
theorem dX5_init_40 : decode cX5_init 40 = .ok (.goto (-23), 3) := by decide +kernel
theorem dX5_init_43 : decode cX5_init 43 = .ok (.return_, 1) := by decide +kernel
theorem dX5_put_0 : decode cX5_put 0 = .ok (.iload_n 1, 1) := by decide +kernel
theorem dX5_put_1 : decode cX5_put 1 = .ok (.ifCond .lt 29, 3) := by decide +kernel
theorem dX5_put_4 : decode cX5_put 4 = .ok (.iload_n 1, 1) := by decide +kernel
theorem dX5_put_5 : decode cX5_put 5 = .ok (.aload_n 0, 1) := by decide +kernel
theorem dX5_put_6 : decode cX5_put 6 = .ok (.getfield 10, 3) := by decide +kernel
theorem dX5_put_9 : decode cX5_put 9 = .ok (.invokevirtual 23, 3) := by decide +kernel
theorem dX5_put_12 : decode cX5_put 12 = .ok (.if_icmp .ge 18, 3) := by decide +kernel
theorem dX5_put_15 : decode cX5_put 15 = .ok (.aload_n 0, 1) := by decide +kernel
theorem dX5_put_16 : decode cX5_put 16 = .ok (.getfield 10, 3) := by decide +kernel
theorem dX5_put_19 : decode cX5_put 19 = .ok (.iload_n 1, 1) := by decide +kernel
theorem dX5_put_20 : decode cX5_put 20 = .ok (.invokevirtual 27, 3) := by decide +kernel
theorem dX5_put_23 : decode cX5_put 23 = .ok (.checkcast 16, 3) := by decide +kernel
theorem dX5_put_26 : decode cX5_put 26 = .ok (.aload_n 2, 1) := by decide +kernel
theorem dX5_put_27 : decode cX5_put 27 = .ok (.invokevirtual 31, 3) := by decide +kernel
theorem dX5_put_30 : decode cX5_put 30 = .ok (.return_, 1) := by decide +kernel
theorem dX5_copyTo_0 : decode cX5_copyTo 0 = .ok (.iload_n 1, 1) := by decide +kernel
theorem dX5_copyTo_1 : decode cX5_copyTo 1 = .ok (.ifCond .lt 29, 3) := by decide +kernel
theorem dX5_copyTo_4 : decode cX5_copyTo 4 = .ok (.iload_n 1, 1) := by decide +kernel
theorem dX5_copyTo_5 : decode cX5_copyTo 5 = .ok (.aload_n 0, 1) := by decide +kernel
theorem dX5_copyTo_6 : decode cX5_copyTo 6 = .ok (.getfield 10, 3) := by decide +kernel
theorem dX5_copyTo_9 : decode cX5_copyTo 9 = .ok (.invokevirtual 23, 3) := by decide +kernel
theorem dX5_copyTo_12 : decode cX5_copyTo 12 = .ok (.if_icmp .ge 18, 3) := by decide +kernel
theorem dX5_copyTo_15 : decode cX5_copyTo 15 = .ok (.aload_n 2, 1) := by decide +kernel
theorem dX5_copyTo_16 : decode cX5_copyTo 16 = .ok (.aload_n 0, 1) := by decide +kernel
theorem dX5_copyTo_17 : decode cX5_copyTo 17 = .ok (.getfield 10, 3) := by decide +kernel
theorem dX5_copyTo_20 : decode cX5_copyTo 20 = .ok (.iload_n 1, 1) := by decide +kernel
theorem dX5_copyTo_21 : decode cX5_copyTo 21 = .ok (.invokevirtual 27, 3) := by decide +kernel
theorem dX5_copyTo_24 : decode cX5_copyTo 24 = .ok (.checkcast 16, 3) := by decide +kernel
theorem dX5_copyTo_27 : decode cX5_copyTo 27 = .ok (.invokevirtual 31, 3) := by decide +kernel
theorem dX5_copyTo_30 : decode cX5_copyTo 30 = .ok (.return_, 1) := by decide +kernel
theorem dX5_turnFirst_0 : decode cX5_turnFirst 0 = .ok (.aload_n 0, 1) := by decide +kernel
theorem dX5_turnFirst_1 : decode cX5_turnFirst 1 = .ok (.getfield 10, 3) := by decide +kernel
theorem dX5_turnFirst_4 : decode cX5_turnFirst 4 = .ok (.invokevirtual 23, 3) := by decide +kernel
theorem dX5_turnFirst_7 : decode cX5_turnFirst 7 = .ok (.ifCond .le 22, 3) := by decide +kernel
theorem dX5_turnFirst_10 : decode cX5_turnFirst 10 = .ok (.aload_n 0, 1) := by decide +kernel
theorem dX5_turnFirst_11 : decode cX5_turnFirst 11 = .ok (.getfield 10, 3) := by decide +kernel
theorem dX5_turnFirst_14 : decode cX5_turnFirst 14 = .ok (.aload_n 0, 1) := by decide +kernel
theorem dX5_turnFirst_15 : decode cX5_turnFirst 15 = .ok (.getfield 10, 3) := by decide +kernel
theorem dX5_turnFirst_18 : decode cX5_turnFirst 18 = .ok (.iconst 0, 1) := by decide +kernel
theorem dX5_turnFirst_19 : decode cX5_turnFirst 19 = .ok (.invokevirtual 35, 3) := by decide +kernel
theorem dX5_turnFirst_22 : decode cX5_turnFirst 22 = .ok (.checkcast 16, 3) := by decide +kernel
theorem dX5_turnFirst_25 : decode cX5_turnFirst 25 = .ok (.invokevirtual 19, 3) := by decide +kernel
theorem dX5_turnFirst_28 : decode cX5_turnFirst 28 = .ok (.pop, 1) := by decide +kernel
theorem dX5_turnFirst_29 : decode cX5_turnFirst 29 = .ok (.return_, 1) := by decide +kernel
end
section
theorem dX6_init_0 : decode cX6_init 0 = .ok (.aload_n 0, 1) := by decide +kernel
theorem dX6_init_1 : decode cX6_init 1 = .ok (.invokespecial 3, 3) := by decide +kernel
theorem dX6_init_4 : decode cX6_init 4 = .ok (.aload_n 0, 1) := by decide +kernel
theorem dX6_init_5 : decode cX6_init 5 = .ok (.new 9, 3) := by decide +kernel
theorem dX6_init_8 : decode cX6_init 8 = .ok (.dup, 1) := by decide +kernel
theorem dX6_init_9 : decode cX6_init 9 = .ok (.invokespecial 11, 3) := by decide +kernel
theorem dX6_init_12 : decode cX6_init 12 = .ok (.putfield 12, 3) := by decide +kernel
theorem dX6_init_15 : decode cX6_init 15 = .ok (.aload_n 0, 1) := by decide +kernel
theorem dX6_init_16 : decode cX6_init 16 = .ok (.new 16, 3) := by decide +kernel
theorem dX6_init_19 : decode cX6_init 19 = .ok (.dup, 1) := by decide +kernel
theorem dX6_init_20 : decode cX6_init 20 = .ok (.invokespecial 18, 3) := by decide +kernel
theorem dX6_init_23 : decode cX6_init 23 = .ok (.putfield 19, 3) := by decide +kernel
theorem dX6_init_26 : decode cX6_init 26 = .ok (.aload_n 0, 1) := by decide +kernel
theorem dX6_init_27 : decode cX6_init 27 = .ok (.new 23, 3) := by decide +kernel
theorem dX6_init_30 : decode cX6_init 30 = .ok (.dup, 1) := by decide +kernel
theorem dX6_init_31 : decode cX6_init 31 = .ok (.invokespecial 25, 3) := by decide +kernel
theorem dX6_init_34 : decode cX6_init 34 = .ok (.putfield 26, 3) := by decide +kernel
theorem dX6_init_37 : decode cX6_init 37 = .ok (.aload_n 0, 1) := by decide +kernel
theorem dX6_init_38 : decode cX6_init 38 = .ok (.bipush 42, 2) := by decide +kernel
theorem dX6_init_40 : decode cX6_init 40 = .ok (.newarray .int, 2) := by decide +kernel
theorem dX6_init_42 : decode cX6_init 42 = .ok (.putfield 30, 3) := by decide +kernel
theorem dX6_init_45 : decode cX6_init 45 = .ok (.aload_n 0, 1) := by decide +kernel
theorem dX6_init_46 : decode cX6_init 46 = .ok (.iconst 0, 1) := by decide +kernel
theorem dX6_init_47 : decode cX6_init 47 = .ok (.putfield 34, 3) := by decide +kernel
theorem dX6_init_50 : decode cX6_init 50 = .ok (.aload_n 0, 1) := by decide +kernel
theorem dX6_init_51 : decode cX6_init 51 = .ok (.new 38, 3) := by decide +kernel
theorem dX6_init_54 : decode cX6_init 54 = .ok (.dup, 1) := by decide +kernel
theorem dX6_init_55 : decode cX6_init 55 = .ok (.invokespecial 40, 3) := by decide +kernel
theorem dX6_init_58 : decode cX6_init 58 = .ok (.putfield 41, 3) := by decide +kernel
theorem dX6_init_61 : decode cX6_init 61 = .ok (.aload_n 0, 1) := by decide +kernel
theorem dX6_init_62 : decode cX6_init 62 = .ok (.new 38, 3) := by decide +kernel
theorem dX6_init_65 : decode cX6_init 65 = .ok (.dup, 1) := by decide +kernel
theorem dX6_init_66 : decode cX6_init 66 = .ok (.invokespecial 40, 3) := by decide +kernel
theorem dX6_init_69 : decode cX6_init 69 = .ok (.putfield 45, 3) := by decide +kernel
theorem dX6_init_72 : decode cX6_init 72 = .ok (.aload_n 0, 1) := by decide +kernel
theorem dX6_init_73 : decode cX6_init 73 = .ok (.new 9, 3) := by decide +kernel
theorem dX6_init_76 : decode cX6_init 76 = .ok (.dup, 1) := by decide +kernel
theorem dX6_init_77 : decode cX6_init 77 = .ok (.invokespecial 11, 3) := by decide +kernel
theorem dX6_init_80 : decode cX6_init 80 = .ok (.putfield 48, 3) := by decide +kernel
theorem dX6_init_83 : decode cX6_init 83 = .ok (.aload_n 0, 1) := by decide +kernel
theorem dX6_init_84 : decode cX6_init 84 = .ok (.new 16, 3) := by decide +kernel
theorem dX6_init_87 : decode cX6_init 87 = .ok (.dup, 1) := by decide +kernel
theorem dX6_init_88 : decode cX6_init 88 = .ok (.invokespecial 18, 3) := by decide +kernel
theorem dX6_init_91 : decode cX6_init 91 = .ok (.putfield 51, 3) := by decide +kernel
theorem dX6_init_94 : decode cX6_init 94 = .ok (.aload_n 0, 1) := by decide +kernel
theorem dX6_init_95 : decode cX6_init 95 = .ok (.new 54, 3) := by decide +kernel
theorem dX6_init_98 : decode cX6_init 98 = .ok (.dup, 1) := by decide +kernel
theorem dX6_init_99 : decode cX6_init 99 = .ok (.bipush 6, 2) := by decide +kernel
theorem dX6_init_101 : decode cX6_init 101 = .ok (.invokespecial 56, 3) := by decide +kernel
theorem dX6_init_104 : decode cX6_init 104 = .ok (.putfield 59, 3) := by decide +kernel
theorem dX6_init_107 : decode cX6_init 107 = .ok (.aload_n 0, 1) := by decide +kernel
theorem dX6_init_108 : decode cX6_init 108 = .ok (.iconst 0, 1) := by decide +kernel
theorem dX6_init_109 : decode cX6_init 109 = .ok (.putfield 63, 3) := by decide +kernel
theorem dX6_init_112 : decode cX6_init 112 = .ok (.aload_n 0, 1) := by decide +kernel
theorem dX6_init_113 : decode cX6_init 113 = .ok (.new 54, 3) := by decide +kernel
theorem dX6_init_116 : decode cX6_init 116 = .ok (.dup, 1) := by decide +kernel
theorem dX6_init_117 : decode cX6_init 117 = .ok (.iconst 2, 1) := by decide +kernel
theorem dX6_init_118 : decode cX6_init 118 = .ok (.invokespecial 56, 3) := by decide +kernel
theorem dX6_init_121 : decode cX6_init 121 = .ok (.putfield 66, 3) := by decide +kernel
theorem dX6_init_124 : decode cX6_init 124 = .ok (.aload_n 0, 1) := by decide +kernel
theorem dX6_init_125 : decode cX6_init 125 = .ok (.iconst 2, 1) := by decide +kernel
theorem dX6_init_126 : decode cX6_init 126 = .ok (.newarray .boolean, 2) := by decide +kernel
theorem dX6_init_128 : decode cX6_init 128 = .ok (.putfield 69, 3) := by decide +kernel
theorem dX6_init_131 : decode cX6_init 131 = .ok (.aload_n 0, 1) := by decide +kernel
theorem dX6_init_132 : decode cX6_init 132 = .ok (.bipush 20, 2) := by decide +kernel
theorem dX6_init_134 : decode cX6_init 134 = .ok (.newarray .int, 2) := by decide +kernel
theorem dX6_init_136 : decode cX6_init 136 = .ok (.putfield 73, 3) := by decide +kernel
theorem dX6_init_139 : decode cX6_init 139 = .ok (.aload_n 0, 1) := by decide +kernel
theorem dX6_init_140 : decode cX6_init 140 = .ok (.iconst 0, 1) := by decide +kernel
theorem dX6_init_141 : decode cX6_init 141 = .ok (.putfield 76, 3) := by decide +kernel
theorem dX6_init_144 : decode cX6_init 144 = .ok (.return_, 1) := by decide +kernel
theorem dX6_add_0 : decode cX6_add 0 = .ok (.aload_n 0, 1) := by decide +kernel
theorem dX6_add_1 : decode cX6_add 1 = .ok (.iload_n 1, 1) := by decide +kernel
theorem dX6_add_2 : decode cX6_add 2 = .ok (.invokevirtual 79, 3) := by decide +kernel
theorem dX6_add_5 : decode cX6_add 5 = .ok (.aload_n 0, 1) := by decide +kernel
theorem dX6_add_6 : decode cX6_add 6 = .ok (.getfield 12, 3) := by decide +kernel
theorem dX6_add_9 : decode cX6_add 9 = .ok (.invokevirtual 82, 3) := by decide +kernel
theorem dX6_add_12 : decode cX6_add 12 = .ok (.bipush 12, 2) := by decide +kernel
theorem dX6_add_14 : decode cX6_add 14 = .ok (.if_icmp .lt 13, 3) := by decide +kernel
theorem dX6_add_17 : decode cX6_add 17 = .ok (.new 86, 3) := by decide +kernel
theorem dX6_add_20 : decode cX6_add 20 = .ok (.dup, 1) := by decide +kernel
theorem dX6_add_21 : decode cX6_add 21 = .ok (.ldc 88, 2) := by decide +kernel
theorem dX6_add_23 : decode cX6_add 23 = .ok (.invokespecial 90, 3) := by decide +kernel
theorem dX6_add_26 : decode cX6_add 26 = .ok (.athrow, 1) := by decide +kernel
theorem dX6_add_27 : decode cX6_add 27 = .ok (.aload_n 0, 1) := by decide +kernel
theorem dX6_add_28 : decode cX6_add 28 = .ok (.invokevirtual 93, 3) := by decide +kernel
theorem dX6_add_31 : decode cX6_add 31 = .ok (.aload_n 0, 1) := by decide +kernel
theorem dX6_add_32 : decode cX6_add 32 = .ok (.getfield 12, 3) := by decide +kernel
theorem dX6_add_35 : decode cX6_add 35 = .ok (.iload_n 1, 1) := by decide +kernel
theorem dX6_add_36 : decode cX6_add 36 = .ok (.invokevirtual 96, 3) := by decide +kernel
theorem dX6_add_39 : decode cX6_add 39 = .ok (.aload_n 0, 1) := by decide +kernel
theorem dX6_add_40 : decode cX6_add 40 = .ok (.invokevirtual 99, 3) := by decide +kernel
theorem dX6_add_43 : decode cX6_add 43 = .ok (.ireturn, 1) := by decide +kernel
theorem dX6_change_0 : decode cX6_change 0 = .ok (.aload_n 0, 1) := by decide +kernel
theorem dX6_change_1 : decode cX6_change 1 = .ok (.iload_n 1, 1) := by decide +kernel
theorem dX6_change_2 : decode cX6_change 2 = .ok (.invokevirtual 102, 3) := by decide +kernel
theorem dX6_change_5 : decode cX6_change 5 = .ok (.aload_n 0, 1) := by decide +kernel
theorem dX6_change_6 : decode cX6_change 6 = .ok (.iload_n 2, 1) := by decide +kernel
theorem dX6_change_7 : decode cX6_change 7 = .ok (.invokevirtual 79, 3) := by decide +kernel
theorem dX6_change_10 : decode cX6_change 10 = .ok (.aload_n 0, 1) := by decide +kernel
theorem dX6_change_11 : decode cX6_change 11 = .ok (.invokevirtual 93, 3) := by decide +kernel
theorem dX6_change_14 : decode cX6_change 14 = .ok (.aload_n 0, 1) := by decide +kernel
theorem dX6_change_15 : decode cX6_change 15 = .ok (.getfield 12, 3) := by decide +kernel
theorem dX6_change_18 : decode cX6_change 18 = .ok (.iload_n 1, 1) := by decide +kernel
theorem dX6_change_19 : decode cX6_change 19 = .ok (.iload_n 2, 1) := by decide +kernel
theorem dX6_change_20 : decode cX6_change 20 = .ok (.invokevirtual 105, 3) := by decide +kernel
theorem dX6_change_23 : decode cX6_change 23 = .ok (.aload_n 0, 1) := by decide +kernel
theorem dX6_change_24 : decode cX6_change 24 = .ok (.invokevirtual 99, 3) := by decide +kernel
theorem dX6_change_27 : decode cX6_change 27 = .ok (.ireturn, 1) := by decide +kernel
theorem dX6_wipe_0 : decode cX6_wipe 0 = .ok (.aload_n 0, 1) := by decide +kernel
theorem dX6_wipe_1 : decode cX6_wipe 1 = .ok (.iload_n 1, 1) := by decide +kernel
theorem dX6_wipe_2 : decode cX6_wipe 2 = .ok (.invokevirtual 102, 3) := by decide +kernel
theorem dX6_wipe_5 : decode cX6_wipe 5 = .ok (.aload_n 0, 1) := by decide +kernel
theorem dX6_wipe_6 : decode cX6_wipe 6 = .ok (.invokevirtual 93, 3) := by decide +kernel
theorem dX6_wipe_9 : decode cX6_wipe 9 = .ok (.aload_n 0, 1) := by decide +kernel
theorem dX6_wipe_10 : decode cX6_wipe 10 = .ok (.getfield 12, 3) := by decide +kernel
theorem dX6_wipe_13 : decode cX6_wipe 13 = .ok (.iload_n 1, 1) := by decide +kernel
theorem dX6_wipe_14 : decode cX6_wipe 14 = .ok (.invokevirtual 109, 3) := by decide +kernel
theorem dX6_wipe_17 : decode cX6_wipe 17 = .ok (.aload_n 0, 1) := by decide +kernel
theorem dX6_wipe_18 : decode cX6_wipe 18 = .ok (.invokevirtual 99, 3) := by decide +kernel
theorem dX6_wipe_21 : decode cX6_wipe 21 = .ok (.ireturn, 1) := by decide +kernel
theorem dX6_fix_0 : decode cX6_fix 0 = .ok (.aload_n 0, 1) := by decide +kernel
theorem dX6_fix_1 : decode cX6_fix 1 = .ok (.iload_n 1, 1) := by decide +kernel
theorem dX6_fix_2 : decode cX6_fix 2 = .ok (.invokevirtual 102, 3) := by decide +kernel
theorem dX6_fix_5 : decode cX6_fix 5 = .ok (.aload_n 0, 1) := by decide +kernel
theorem dX6_fix_6 : decode cX6_fix 6 = .ok (.iload_n 1, 1) := by decide +kernel
theorem dX6_fix_7 : decode cX6_fix 7 = .ok (.iload_n 2, 1) := by decide +kernel
theorem dX6_fix_8 : decode cX6_fix 8 = .ok (.invokevirtual 112, 3) := by decide +kernel
theorem dX6_fix_11 : decode cX6_fix 11 = .ok (.aload_n 0, 1) := by decide +kernel
theorem dX6_fix_12 : decode cX6_fix 12 = .ok (.iload_n 1, 1) := by decide +kernel
theorem dX6_fix_13 : decode cX6_fix 13 = .ok (.iload_n 2, 1) := by decide +kernel
theorem dX6_fix_14 : decode cX6_fix 14 = .ok (.invokevirtual 115, 3) := by decide +kernel
theorem dX6_fix_17 : decode cX6_fix 17 = .ok (.ifCond .ne 13, 3) := by decide +kernel
theorem dX6_fix_20 : decode cX6_fix 20 = .ok (.new 86, 3) := by decide +kernel
theorem dX6_fix_23 : decode cX6_fix 23 = .ok (.dup, 1) := by decide +kernel
theorem dX6_fix_24 : decode cX6_fix 24 = .ok (.ldc 119, 2) := by decide +kernel
theorem dX6_fix_26 : decode cX6_fix 26 = .ok (.invokespecial 90, 3) := by decide +kernel
theorem dX6_fix_29 : decode cX6_fix 29 = .ok (.athrow, 1) := by decide +kernel
theorem dX6_fix_30 : decode cX6_fix 30 = .ok (.aload_n 0, 1) := by decide +kernel
theorem dX6_fix_31 : decode cX6_fix 31 = .ok (.invokevirtual 93, 3) := by decide +kernel
theorem dX6_fix_34 : decode cX6_fix 34 = .ok (.aload_n 0, 1) := by decide +kernel
theorem dX6_fix_35 : decode cX6_fix 35 = .ok (.getfield 12, 3) := by decide +kernel
theorem dX6_fix_38 : decode cX6_fix 38 = .ok (.iload_n 1, 1) := by decide +kernel
theorem dX6_fix_39 : decode cX6_fix 39 = .ok (.iload_n 2, 1) := by decide +kernel
theorem dX6_fix_40 : decode cX6_fix 40 = .ok (.invokevirtual 121, 3) := by decide +kernel
theorem dX6_fix_43 : decode cX6_fix 43 = .ok (.aload_n 0, 1) := by decide +kernel
theorem dX6_fix_44 : decode cX6_fix 44 = .ok (.invokevirtual 124, 3) := by decide +kernel
theorem dX6_fix_47 : decode cX6_fix 47 = .ok (.ireturn, 1) := by decide +kernel
theorem dX6_loosen_0 : decode cX6_loosen 0 = .ok (.aload_n 0, 1) := by decide +kernel
theorem dX6_loosen_1 : decode cX6_loosen 1 = .ok (.iload_n 1, 1) := by decide +kernel
theorem dX6_loosen_2 : decode cX6_loosen 2 = .ok (.invokevirtual 102, 3) := by decide +kernel
theorem dX6_loosen_5 : decode cX6_loosen 5 = .ok (.aload_n 0, 1) := by decide +kernel
theorem dX6_loosen_6 : decode cX6_loosen 6 = .ok (.invokevirtual 93, 3) := by decide +kernel
theorem dX6_loosen_9 : decode cX6_loosen 9 = .ok (.aload_n 0, 1) := by decide +kernel
theorem dX6_loosen_10 : decode cX6_loosen 10 = .ok (.getfield 12, 3) := by decide +kernel
theorem dX6_loosen_13 : decode cX6_loosen 13 = .ok (.iload_n 1, 1) := by decide +kernel
theorem dX6_loosen_14 : decode cX6_loosen 14 = .ok (.bipush (-2), 2) := by decide +kernel
theorem dX6_loosen_16 : decode cX6_loosen 16 = .ok (.invokevirtual 121, 3) := by decide +kernel
theorem dX6_loosen_19 : decode cX6_loosen 19 = .ok (.aload_n 0, 1) := by decide +kernel
theorem dX6_loosen_20 : decode cX6_loosen 20 = .ok (.invokevirtual 124, 3) := by decide +kernel
theorem dX6_loosen_23 : decode cX6_loosen 23 = .ok (.ireturn, 1) := by decide +kernel
theorem dX6_draw_0 : decode cX6_draw 0 = .ok (.aload_n 0, 1) := by decide +kernel
theorem dX6_draw_1 : decode cX6_draw 1 = .ok (.iload_n 1, 1) := by decide +kernel
theorem dX6_draw_2 : decode cX6_draw 2 = .ok (.invokevirtual 127, 3) := by decide +kernel
theorem dX6_draw_5 : decode cX6_draw 5 = .ok (.aload_n 0, 1) := by decide +kernel
theorem dX6_draw_6 : decode cX6_draw 6 = .ok (.invokevirtual 93, 3) := by decide +kernel
theorem dX6_draw_9 : decode cX6_draw 9 = .ok (.aload_n 0, 1) := by decide +kernel
theorem dX6_draw_10 : decode cX6_draw 10 = .ok (.getfield 12, 3) := by decide +kernel
theorem dX6_draw_13 : decode cX6_draw 13 = .ok (.iload_n 1, 1) := by decide +kernel
theorem dX6_draw_14 : decode cX6_draw 14 = .ok (.invokevirtual 130, 3) := by decide +kernel
theorem dX6_draw_17 : decode cX6_draw 17 = .ok (.aload_n 0, 1) := by decide +kernel
theorem dX6_draw_18 : decode cX6_draw 18 = .ok (.invokevirtual 133, 3) := by decide +kernel
theorem dX6_draw_21 : decode cX6_draw 21 = .ok (.aload_n 0, 1) := by decide +kernel
theorem dX6_draw_22 : decode cX6_draw 22 = .ok (.getfield 41, 3) := by decide +kernel
theorem dX6_draw_25 : decode cX6_draw 25 = .ok (.invokevirtual 136, 3) := by decide +kernel
theorem dX6_draw_28 : decode cX6_draw 28 = .ok (.ireturn, 1) := by decide +kernel
theorem dX6_flatten_0 : decode cX6_flatten 0 = .ok (.aload_n 0, 1) := by decide +kernel
theorem dX6_flatten_1 : decode cX6_flatten 1 = .ok (.getfield 34, 3) := by decide +kernel
theorem dX6_flatten_4 : decode cX6_flatten 4 = .ok (.ifCond .ne 13, 3) := by decide +kernel
theorem dX6_flatten_7 : decode cX6_flatten 7 = .ok (.new 86, 3) := by decide +kernel
theorem dX6_flatten_10 : decode cX6_flatten 10 = .ok (.dup, 1) := by decide +kernel
theorem dX6_flatten_11 : decode cX6_flatten 11 = .ok (.ldc 139, 2) := by decide +kernel
theorem dX6_flatten_13 : decode cX6_flatten 13 = .ok (.invokespecial 90, 3) := by decide +kernel
theorem dX6_flatten_16 : decode cX6_flatten 16 = .ok (.athrow, 1) := by decide +kernel
theorem dX6_flatten_17 : decode cX6_flatten 17 = .ok (.aload_n 0, 1) := by decide +kernel
theorem dX6_flatten_18 : decode cX6_flatten 18 = .ok (.invokevirtual 141, 3) := by decide +kernel
theorem dX6_flatten_21 : decode cX6_flatten 21 = .ok (.istore_n 1, 1) := by decide +kernel
theorem dX6_flatten_22 : decode cX6_flatten 22 = .ok (.aload_n 0, 1) := by decide +kernel
theorem dX6_flatten_23 : decode cX6_flatten 23 = .ok (.invokevirtual 93, 3) := by decide +kernel
theorem dX6_flatten_26 : decode cX6_flatten 26 = .ok (.aload_n 0, 1) := by decide +kernel
theorem dX6_flatten_27 : decode cX6_flatten 27 = .ok (.getfield 12, 3) := by decide +kernel
theorem dX6_flatten_30 : decode cX6_flatten 30 = .ok (.iload_n 1, 1) := by decide +kernel
theorem dX6_flatten_31 : decode cX6_flatten 31 = .ok (.invokevirtual 130, 3) := by decide +kernel
theorem dX6_flatten_34 : decode cX6_flatten 34 = .ok (.aload_n 0, 1) := by decide +kernel
theorem dX6_flatten_35 : decode cX6_flatten 35 = .ok (.invokevirtual 133, 3) := by decide +kernel
theorem dX6_flatten_38 : decode cX6_flatten 38 = .ok (.iload_n 1, 1) := by decide +kernel
theorem dX6_flatten_39 : decode cX6_flatten 39 = .ok (.ireturn, 1) := by decide +kernel
theorem dX6_append_0 : decode cX6_append 0 = .ok (.iload_n 1, 1) := by decide +kernel
theorem dX6_append_1 : decode cX6_append 1 = .ok (.bipush 33, 2) := by decide +kernel
theorem dX6_append_3 : decode cX6_append 3 = .ok (.if_icmp .lt 9, 3) := by decide +kernel
theorem dX6_append_6 : decode cX6_append 6 = .ok (.iload_n 1, 1) := by decide +kernel
theorem dX6_append_7 : decode cX6_append 7 = .ok (.bipush 126, 2) := by decide +kernel
theorem dX6_append_9 : decode cX6_append 9 = .ok (.if_icmp .le 13, 3) := by decide +kernel
theorem dX6_append_12 : decode cX6_append 12 = .ok (.new 144, 3) := by decide +kernel
theorem dX6_append_15 : decode cX6_append 15 = .ok (.dup, 1) := by decide +kernel
theorem dX6_append_16 : decode cX6_append 16 = .ok (.ldc 146, 2) := by decide +kernel
theorem dX6_append_18 : decode cX6_append 18 = .ok (.invokespecial 148, 3) := by decide +kernel
theorem dX6_append_21 : decode cX6_append 21 = .ok (.athrow, 1) := by decide +kernel
theorem dX6_append_22 : decode cX6_append 22 = .ok (.aload_n 0, 1) := by decide +kernel
theorem dX6_append_23 : decode cX6_append 23 = .ok (.getfield 76, 3) := by decide +kernel
theorem dX6_append_26 : decode cX6_append 26 = .ok (.bipush 20, 2) := by decide +kernel
theorem dX6_append_28 : decode cX6_append 28 = .ok (.if_icmp .lt 13, 3) := by decide +kernel
theorem dX6_append_31 : decode cX6_append 31 = .ok (.new 86, 3) := by decide +kernel
theorem dX6_append_34 : decode cX6_append 34 = .ok (.dup, 1) := by decide +kernel
theorem dX6_append_35 : decode cX6_append 35 = .ok (.ldc 149, 2) := by decide +kernel
theorem dX6_append_37 : decode cX6_append 37 = .ok (.invokespecial 90, 3) := by decide +kernel
theorem dX6_append_40 : decode cX6_append 40 = .ok (.athrow, 1) := by decide +kernel
theorem dX6_append_41 : decode cX6_append 41 = .ok (.aload_n 0, 1) := by decide +kernel
theorem dX6_append_42 : decode cX6_append 42 = .ok (.iload_n 1, 1) := by decide +kernel
theorem dX6_append_43 : decode cX6_append 43 = .ok (.invokevirtual 151, 3) := by decide +kernel
theorem dX6_append_46 : decode cX6_append 46 = .ok (.aload_n 0, 1) := by decide +kernel
theorem dX6_append_47 : decode cX6_append 47 = .ok (.getfield 76, 3) := by decide +kernel
theorem dX6_append_50 : decode cX6_append 50 = .ok (.ireturn, 1) := by decide +kernel
theorem dX6_clearBuffer_0 : decode cX6_clearBuffer 0 = .ok (.aload_n 0, 1) := by decide +kernel
theorem dX6_clearBuffer_1 : decode cX6_clearBuffer 1 = .ok (.getfield 76, 3) := by decide +kernel
theorem dX6_clearBuffer_4 : decode cX6_clearBuffer 4 = .ok (.istore_n 1, 1) := by decide +kernel
theorem dX6_clearBuffer_5 : decode cX6_clearBuffer 5 = .ok (.aload_n 0, 1) := by decide +kernel
theorem dX6_clearBuffer_6 : decode cX6_clearBuffer 6 = .ok (.iconst 0, 1) := by decide +kernel
theorem dX6_clearBuffer_7 : decode cX6_clearBuffer 7 = .ok (.putfield 76, 3) := by decide +kernel
theorem dX6_clearBuffer_10 : decode cX6_clearBuffer 10 = .ok (.iload_n 1, 1) := by decide +kernel
theorem dX6_clearBuffer_11 : decode cX6_clearBuffer 11 = .ok (.ireturn, 1) := by decide +kernel
theorem dX6_firstError_0 : decode cX6_firstError 0 = .ok (.aload_n 0, 1) := by decide +kernel
theorem dX6_firstError_1 : decode cX6_firstError 1 = .ok (.invokevirtual 154, 3) := by decide +kernel
theorem dX6_firstError_4 : decode cX6_firstError 4 = .ok (.ireturn, 1) := by decide +kernel
theorem dX6_load_0 : decode cX6_load 0 = .ok (.aload_n 0, 1) := by decide +kernel
theorem dX6_load_1 : decode cX6_load 1 = .ok (.getfield 76, 3) := by decide +kernel
theorem dX6_load_4 : decode cX6_load 4 = .ok (.ifCond .eq 14, 3) := by decide +kernel
theorem dX6_load_7 : decode cX6_load 7 = .ok (.aload_n 0, 1) := by decide +kernel
theorem dX6_load_8 : decode cX6_load 8 = .ok (.invokevirtual 154, 3) := by decide +kernel
theorem dX6_load_11 : decode cX6_load 11 = .ok (.aload_n 0, 1) := by decide +kernel
theorem dX6_load_12 : decode cX6_load 12 = .ok (.getfield 76, 3) := by decide +kernel
theorem dX6_load_15 : decode cX6_load 15 = .ok (.if_icmp .ge 13, 3) := by decide +kernel
theorem dX6_load_18 : decode cX6_load 18 = .ok (.new 144, 3) := by decide +kernel
theorem dX6_load_21 : decode cX6_load 21 = .ok (.dup, 1) := by decide +kernel
theorem dX6_load_22 : decode cX6_load 22 = .ok (.ldc 157, 2) := by decide +kernel
theorem dX6_load_24 : decode cX6_load 24 = .ok (.invokespecial 148, 3) := by decide +kernel
theorem dX6_load_27 : decode cX6_load 27 = .ok (.athrow, 1) := by decide +kernel
theorem dX6_load_28 : decode cX6_load 28 = .ok (.aload_n 0, 1) := by decide +kernel
theorem dX6_load_29 : decode cX6_load 29 = .ok (.invokevirtual 93, 3) := by decide +kernel
theorem dX6_load_32 : decode cX6_load 32 = .ok (.aload_n 0, 1) := by decide +kernel
theorem dX6_load_33 : decode cX6_load 33 = .ok (.getfield 12, 3) := by decide +kernel
theorem dX6_load_36 : decode cX6_load 36 = .ok (.invokevirtual 159, 3) := by decide +kernel
theorem dX6_load_39 : decode cX6_load 39 = .ok (.iconst 0, 1) := by decide +kernel
theorem dX6_load_40 : decode cX6_load 40 = .ok (.istore_n 1, 1) := by decide +kernel
theorem dX6_load_41 : decode cX6_load 41 = .ok (.iload_n 1, 1) := by decide +kernel
theorem dX6_load_42 : decode cX6_load 42 = .ok (.aload_n 0, 1) := by decide +kernel
theorem dX6_load_43 : decode cX6_load 43 = .ok (.getfield 76, 3) := by decide +kernel
theorem dX6_load_46 : decode cX6_load 46 = .ok (.if_icmp .ge 24, 3) := by decide +kernel
theorem dX6_load_49 : decode cX6_load 49 = .ok (.aload_n 0, 1) := by decide +kernel
theorem dX6_load_50 : decode cX6_load 50 = .ok (.getfield 12, 3) := by decide +kernel
theorem dX6_load_53 : decode cX6_load 53 = .ok (.aload_n 0, 1) := by decide +kernel
theorem dX6_load_54 : decode cX6_load 54 = .ok (.iload_n 1, 1) := by decide +kernel
theorem dX6_load_55 : decode cX6_load 55 = .ok (.invokevirtual 162, 3) := by decide +kernel
theorem dX6_load_58 : decode cX6_load 58 = .ok (.invokestatic 166, 3) := by decide +kernel
theorem dX6_load_61 : decode cX6_load 61 = .ok (.invokevirtual 96, 3) := by decide +kernel
theorem dX6_load_64 : decode cX6_load 64 = .ok (.iinc 1 1, 3) := by decide +kernel
theorem dX6_load_67 : decode cX6_load 67 = .ok (.goto (-26), 3) := by decide +kernel
theorem dX6_load_70 : decode cX6_load 70 = .ok (.aload_n 0, 1) := by decide +kernel
theorem dX6_load_71 : decode cX6_load 71 = .ok (.iconst 0, 1) := by decide +kernel
theorem dX6_load_72 : decode cX6_load 72 = .ok (.putfield 76, 3) := by decide +kernel
theorem dX6_load_75 : decode cX6_load 75 = .ok (.aload_n 0, 1) := by decide +kernel
theorem dX6_load_76 : decode cX6_load 76 = .ok (.invokevirtual 99, 3) := by decide +kernel
theorem dX6_load_79 : decode cX6_load 79 = .ok (.ireturn, 1) := by decide +kernel
theorem dX6_write_0 : decode cX6_write 0 = .ok (.aload_n 0, 1) := by decide +kernel
theorem dX6_write_1 : decode cX6_write 1 = .ok (.getfield 34, 3) := by decide +kernel
theorem dX6_write_4 : decode cX6_write 4 = .ok (.ifCond .ne 13, 3) := by decide +kernel
theorem dX6_write_7 : decode cX6_write 7 = .ok (.new 86, 3) := by decide +kernel
theorem dX6_write_10 : decode cX6_write 10 = .ok (.dup, 1) := by decide +kernel
theorem dX6_write_11 : decode cX6_write 11 = .ok (.ldc 169, 2) := by decide +kernel
theorem dX6_write_13 : decode cX6_write 13 = .ok (.invokespecial 90, 3) := by decide +kernel
theorem dX6_write_16 : decode cX6_write 16 = .ok (.athrow, 1) := by decide +kernel
theorem dX6_write_17 : decode cX6_write 17 = .ok (.aload_n 0, 1) := by decide +kernel
theorem dX6_write_18 : decode cX6_write 18 = .ok (.iconst 0, 1) := by decide +kernel
theorem dX6_write_19 : decode cX6_write 19 = .ok (.putfield 76, 3) := by decide +kernel
theorem dX6_write_22 : decode cX6_write 22 = .ok (.iconst 0, 1) := by decide +kernel
theorem dX6_write_23 : decode cX6_write 23 = .ok (.istore_n 1, 1) := by decide +kernel
theorem dX6_write_24 : decode cX6_write 24 = .ok (.iload_n 1, 1) := by decide +kernel
theorem dX6_write_25 : decode cX6_write 25 = .ok (.aload_n 0, 1) := by decide +kernel
theorem dX6_write_26 : decode cX6_write 26 = .ok (.getfield 12, 3) := by decide +kernel
theorem dX6_write_29 : decode cX6_write 29 = .ok (.invokevirtual 82, 3) := by decide +kernel
theorem dX6_write_32 : decode cX6_write 32 = .ok (.if_icmp .ge 31, 3) := by decide +kernel
theorem dX6_write_35 : decode cX6_write 35 = .ok (.aload_n 0, 1) := by decide +kernel
theorem dX6_write_36 : decode cX6_write 36 = .ok (.aload_n 0, 1) := by decide +kernel
theorem dX6_write_37 : decode cX6_write 37 = .ok (.getfield 12, 3) := by decide +kernel
theorem dX6_write_40 : decode cX6_write 40 = .ok (.aload_n 0, 1) := by decide +kernel
theorem dX6_write_41 : decode cX6_write 41 = .ok (.getfield 41, 3) := by decide +kernel
theorem dX6_write_44 : decode cX6_write 44 = .ok (.iload_n 1, 1) := by decide +kernel
theorem dX6_write_45 : decode cX6_write 45 = .ok (.invokevirtual 171, 3) := by decide +kernel
theorem dX6_write_48 : decode cX6_write 48 = .ok (.invokevirtual 174, 3) := by decide +kernel
theorem dX6_write_51 : decode cX6_write 51 = .ok (.invokestatic 177, 3) := by decide +kernel
theorem dX6_write_54 : decode cX6_write 54 = .ok (.invokevirtual 151, 3) := by decide +kernel
theorem dX6_write_57 : decode cX6_write 57 = .ok (.iinc 1 1, 3) := by decide +kernel
theorem dX6_write_60 : decode cX6_write 60 = .ok (.goto (-36), 3) := by decide +kernel
theorem dX6_write_63 : decode cX6_write 63 = .ok (.aload_n 0, 1) := by decide +kernel
theorem dX6_write_64 : decode cX6_write 64 = .ok (.getfield 76, 3) := by decide +kernel
theorem dX6_write_67 : decode cX6_write 67 = .ok (.ireturn, 1) := by decide +kernel
theorem dX6_keep_0 : decode cX6_keep 0 = .ok (.aload_n 0, 1) := by decide +kernel
theorem dX6_keep_1 : decode cX6_keep 1 = .ok (.iload_n 1, 1) := by decide +kernel
theorem dX6_keep_2 : decode cX6_keep 2 = .ok (.invokevirtual 180, 3) := by decide +kernel
theorem dX6_keep_5 : decode cX6_keep 5 = .ok (.aload_n 0, 1) := by decide +kernel
theorem dX6_keep_6 : decode cX6_keep 6 = .ok (.getfield 66, 3) := by decide +kernel
theorem dX6_keep_9 : decode cX6_keep 9 = .ok (.iload_n 1, 1) := by decide +kernel
theorem dX6_keep_10 : decode cX6_keep 10 = .ok (.aload_n 0, 1) := by decide +kernel
theorem dX6_keep_11 : decode cX6_keep 11 = .ok (.getfield 12, 3) := by decide +kernel
theorem dX6_keep_14 : decode cX6_keep 14 = .ok (.invokevirtual 183, 3) := by decide +kernel
theorem dX6_keep_17 : decode cX6_keep 17 = .ok (.aload_n 0, 1) := by decide +kernel
theorem dX6_keep_18 : decode cX6_keep 18 = .ok (.getfield 69, 3) := by decide +kernel
theorem dX6_keep_21 : decode cX6_keep 21 = .ok (.iload_n 1, 1) := by decide +kernel
theorem dX6_keep_22 : decode cX6_keep 22 = .ok (.iconst 1, 1) := by decide +kernel
theorem dX6_keep_23 : decode cX6_keep 23 = .ok (.bastore, 1) := by decide +kernel
theorem dX6_keep_24 : decode cX6_keep 24 = .ok (.aload_n 0, 1) := by decide +kernel
theorem dX6_keep_25 : decode cX6_keep 25 = .ok (.getfield 12, 3) := by decide +kernel
theorem dX6_keep_28 : decode cX6_keep 28 = .ok (.invokevirtual 82, 3) := by decide +kernel
theorem dX6_keep_31 : decode cX6_keep 31 = .ok (.ireturn, 1) := by decide +kernel
theorem dX6_goBack_0 : decode cX6_goBack 0 = .ok (.aload_n 0, 1) := by decide +kernel
theorem dX6_goBack_1 : decode cX6_goBack 1 = .ok (.iload_n 1, 1) := by decide +kernel
theorem dX6_goBack_2 : decode cX6_goBack 2 = .ok (.invokevirtual 180, 3) := by decide +kernel
theorem dX6_goBack_5 : decode cX6_goBack 5 = .ok (.aload_n 0, 1) := by decide +kernel
theorem dX6_goBack_6 : decode cX6_goBack 6 = .ok (.getfield 69, 3) := by decide +kernel
theorem dX6_goBack_9 : decode cX6_goBack 9 = .ok (.iload_n 1, 1) := by decide +kernel
theorem dX6_goBack_10 : decode cX6_goBack 10 = .ok (.baload, 1) := by decide +kernel
theorem dX6_goBack_11 : decode cX6_goBack 11 = .ok (.ifCond .ne 13, 3) := by decide +kernel
theorem dX6_goBack_14 : decode cX6_goBack 14 = .ok (.new 86, 3) := by decide +kernel
theorem dX6_goBack_17 : decode cX6_goBack 17 = .ok (.dup, 1) := by decide +kernel
theorem dX6_goBack_18 : decode cX6_goBack 18 = .ok (.ldc 187, 2) := by decide +kernel
theorem dX6_goBack_20 : decode cX6_goBack 20 = .ok (.invokespecial 90, 3) := by decide +kernel
theorem dX6_goBack_23 : decode cX6_goBack 23 = .ok (.athrow, 1) := by decide +kernel
theorem dX6_goBack_24 : decode cX6_goBack 24 = .ok (.aload_n 0, 1) := by decide +kernel
theorem dX6_goBack_25 : decode cX6_goBack 25 = .ok (.invokevirtual 93, 3) := by decide +kernel
theorem dX6_goBack_28 : decode cX6_goBack 28 = .ok (.aload_n 0, 1) := by decide +kernel
theorem dX6_goBack_29 : decode cX6_goBack 29 = .ok (.getfield 66, 3) := by decide +kernel
theorem dX6_goBack_32 : decode cX6_goBack 32 = .ok (.iload_n 1, 1) := by decide +kernel
theorem dX6_goBack_33 : decode cX6_goBack 33 = .ok (.aload_n 0, 1) := by decide +kernel
theorem dX6_goBack_34 : decode cX6_goBack 34 = .ok (.getfield 12, 3) := by decide +kernel
theorem dX6_goBack_37 : decode cX6_goBack 37 = .ok (.invokevirtual 189, 3) := by decide +kernel
theorem dX6_goBack_40 : decode cX6_goBack 40 = .ok (.aload_n 0, 1) := by decide +kernel
theorem dX6_goBack_41 : decode cX6_goBack 41 = .ok (.invokevirtual 192, 3) := by decide +kernel
theorem dX6_goBack_44 : decode cX6_goBack 44 = .ok (.aload_n 0, 1) := by decide +kernel
theorem dX6_goBack_45 : decode cX6_goBack 45 = .ok (.getfield 12, 3) := by decide +kernel
theorem dX6_goBack_48 : decode cX6_goBack 48 = .ok (.invokevirtual 82, 3) := by decide +kernel
theorem dX6_goBack_51 : decode cX6_goBack 51 = .ok (.ireturn, 1) := by decide +kernel
theorem dX6_undo_0 : decode cX6_undo 0 = .ok (.aload_n 0, 1) := by decide +kernel
theorem dX6_undo_1 : decode cX6_undo 1 = .ok (.getfield 63, 3) := by decide +kernel
theorem dX6_undo_4 : decode cX6_undo 4 = .ok (.ifCond .ne 13, 3) := by decide +kernel
theorem dX6_undo_7 : decode cX6_undo 7 = .ok (.new 86, 3) := by decide +kernel
theorem dX6_undo_10 : decode cX6_undo 10 = .ok (.dup, 1) := by decide +kernel
theorem dX6_undo_11 : decode cX6_undo 11 = .ok (.ldc 195, 2) := by decide +kernel
theorem dX6_undo_13 : decode cX6_undo 13 = .ok (.invokespecial 90, 3) := by decide +kernel
theorem dX6_undo_16 : decode cX6_undo 16 = .ok (.athrow, 1) := by decide +kernel
theorem dX6_undo_17 : decode cX6_undo 17 = .ok (.aload_n 0, 1) := by decide +kernel
theorem dX6_undo_18 : decode cX6_undo 18 = .ok (.dup, 1) := by decide +kernel
theorem dX6_undo_19 : decode cX6_undo 19 = .ok (.getfield 63, 3) := by decide +kernel
theorem dX6_undo_22 : decode cX6_undo 22 = .ok (.iconst 1, 1) := by decide +kernel
theorem dX6_undo_23 : decode cX6_undo 23 = .ok (.isub, 1) := by decide +kernel
theorem dX6_undo_24 : decode cX6_undo 24 = .ok (.putfield 63, 3) := by decide +kernel
theorem dX6_undo_27 : decode cX6_undo 27 = .ok (.aload_n 0, 1) := by decide +kernel
theorem dX6_undo_28 : decode cX6_undo 28 = .ok (.getfield 59, 3) := by decide +kernel
theorem dX6_undo_31 : decode cX6_undo 31 = .ok (.aload_n 0, 1) := by decide +kernel
theorem dX6_undo_32 : decode cX6_undo 32 = .ok (.getfield 63, 3) := by decide +kernel
theorem dX6_undo_35 : decode cX6_undo 35 = .ok (.aload_n 0, 1) := by decide +kernel
theorem dX6_undo_36 : decode cX6_undo 36 = .ok (.getfield 12, 3) := by decide +kernel
theorem dX6_undo_39 : decode cX6_undo 39 = .ok (.invokevirtual 189, 3) := by decide +kernel
theorem dX6_undo_42 : decode cX6_undo 42 = .ok (.aload_n 0, 1) := by decide +kernel
theorem dX6_undo_43 : decode cX6_undo 43 = .ok (.invokevirtual 192, 3) := by decide +kernel
theorem dX6_undo_46 : decode cX6_undo 46 = .ok (.aload_n 0, 1) := by decide +kernel
theorem dX6_undo_47 : decode cX6_undo 47 = .ok (.getfield 63, 3) := by decide +kernel
theorem dX6_undo_50 : decode cX6_undo 50 = .ok (.ireturn, 1) := by decide +kernel
theorem dX6_wordOf_0 : decode cX6_wordOf 0 = .ok (.aload_n 0, 1) := by decide +kernel
theorem dX6_wordOf_1 : decode cX6_wordOf 1 = .ok (.iload_n 1, 1) := by decide +kernel
theorem dX6_wordOf_2 : decode cX6_wordOf 2 = .ok (.invokevirtual 102, 3) := by decide +kernel
theorem dX6_wordOf_5 : decode cX6_wordOf 5 = .ok (.aload_n 0, 1) := by decide +kernel
theorem dX6_wordOf_6 : decode cX6_wordOf 6 = .ok (.iload_n 2, 1) := by decide +kernel
theorem dX6_wordOf_7 : decode cX6_wordOf 7 = .ok (.bipush 7, 2) := by decide +kernel
theorem dX6_wordOf_9 : decode cX6_wordOf 9 = .ok (.invokevirtual 197, 3) := by decide +kernel
theorem dX6_wordOf_12 : decode cX6_wordOf 12 = .ok (.aload_n 0, 1) := by decide +kernel
theorem dX6_wordOf_13 : decode cX6_wordOf 13 = .ok (.iload_n 1, 1) := by decide +kernel
theorem dX6_wordOf_14 : decode cX6_wordOf 14 = .ok (.iload_n 2, 1) := by decide +kernel
theorem dX6_wordOf_15 : decode cX6_wordOf 15 = .ok (.invokevirtual 200, 3) := by decide +kernel
theorem dX6_wordOf_18 : decode cX6_wordOf 18 = .ok (.ireturn, 1) := by decide +kernel
theorem dX6_readingOf_0 : decode cX6_readingOf 0 = .ok (.aload_n 0, 1) := by decide +kernel
theorem dX6_readingOf_1 : decode cX6_readingOf 1 = .ok (.iload_n 1, 1) := by decide +kernel
theorem dX6_readingOf_2 : decode cX6_readingOf 2 = .ok (.invokevirtual 127, 3) := by decide +kernel
theorem dX6_readingOf_5 : decode cX6_readingOf 5 = .ok (.aload_n 0, 1) := by decide +kernel
theorem dX6_readingOf_6 : decode cX6_readingOf 6 = .ok (.iload_n 2, 1) := by decide +kernel
theorem dX6_readingOf_7 : decode cX6_readingOf 7 = .ok (.iconst 5, 1) := by decide +kernel
theorem dX6_readingOf_8 : decode cX6_readingOf 8 = .ok (.invokevirtual 197, 3) := by decide +kernel
theorem dX6_readingOf_11 : decode cX6_readingOf 11 = .ok (.aload_n 0, 1) := by decide +kernel
theorem dX6_readingOf_12 : decode cX6_readingOf 12 = .ok (.iload_n 1, 1) := by decide +kernel
theorem dX6_readingOf_13 : decode cX6_readingOf 13 = .ok (.iload_n 2, 1) := by decide +kernel
theorem dX6_readingOf_14 : decode cX6_readingOf 14 = .ok (.invokevirtual 203, 3) := by decide +kernel
theorem dX6_readingOf_17 : decode cX6_readingOf 17 = .ok (.ireturn, 1) := by decide +kernel
theorem dX6_count_0 : decode cX6_count 0 = .ok (.aload_n 0, 1) := by decide +kernel
theorem dX6_count_1 : decode cX6_count 1 = .ok (.iload_n 1, 1) := by decide +kernel
theorem dX6_count_2 : decode cX6_count 2 = .ok (.bipush 8, 2) := by decide +kernel
theorem dX6_count_4 : decode cX6_count 4 = .ok (.invokevirtual 197, 3) := by decide +kernel
theorem dX6_count_7 : decode cX6_count 7 = .ok (.aload_n 0, 1) := by decide +kernel
theorem dX6_count_8 : decode cX6_count 8 = .ok (.iload_n 1, 1) := by decide +kernel
theorem dX6_count_9 : decode cX6_count 9 = .ok (.invokevirtual 206, 3) := by decide +kernel
theorem dX6_count_12 : decode cX6_count 12 = .ok (.ireturn, 1) := by decide +kernel
theorem dX6_part_0 : decode cX6_part 0 = .ok (.iload_n 1, 1) := by decide +kernel
theorem dX6_part_1 : decode cX6_part 1 = .ok (.ifCond .lt 19, 3) := by decide +kernel
theorem dX6_part_4 : decode cX6_part 4 = .ok (.iload_n 2, 1) := by decide +kernel
theorem dX6_part_5 : decode cX6_part 5 = .ok (.iload_n 1, 1) := by decide +kernel
theorem dX6_part_6 : decode cX6_part 6 = .ok (.if_icmp .le 14, 3) := by decide +kernel
theorem dX6_part_9 : decode cX6_part 9 = .ok (.iload_n 2, 1) := by decide +kernel
theorem dX6_part_10 : decode cX6_part 10 = .ok (.aload_n 0, 1) := by decide +kernel
theorem dX6_part_11 : decode cX6_part 11 = .ok (.getfield 12, 3) := by decide +kernel
theorem dX6_part_14 : decode cX6_part 14 = .ok (.invokevirtual 82, 3) := by decide +kernel
theorem dX6_part_17 : decode cX6_part 17 = .ok (.if_icmp .le 13, 3) := by decide +kernel
theorem dX6_part_20 : decode cX6_part 20 = .ok (.new 209, 3) := by decide +kernel
theorem dX6_part_23 : decode cX6_part 23 = .ok (.dup, 1) := by decide +kernel
theorem dX6_part_24 : decode cX6_part 24 = .ok (.ldc 211, 2) := by decide +kernel
theorem dX6_part_26 : decode cX6_part 26 = .ok (.invokespecial 213, 3) := by decide +kernel
theorem dX6_part_29 : decode cX6_part 29 = .ok (.athrow, 1) := by decide +kernel
theorem dX6_part_30 : decode cX6_part 30 = .ok (.aload_n 0, 1) := by decide +kernel
theorem dX6_part_31 : decode cX6_part 31 = .ok (.iload_n 3, 1) := by decide +kernel
theorem dX6_part_32 : decode cX6_part 32 = .ok (.iconst 4, 1) := by decide +kernel
theorem dX6_part_33 : decode cX6_part 33 = .ok (.invokevirtual 197, 3) := by decide +kernel
theorem dX6_part_36 : decode cX6_part 36 = .ok (.aload_n 0, 1) := by decide +kernel
theorem dX6_part_37 : decode cX6_part 37 = .ok (.getfield 26, 3) := by decide +kernel
theorem dX6_part_40 : decode cX6_part 40 = .ok (.iload_n 1, 1) := by decide +kernel
theorem dX6_part_41 : decode cX6_part 41 = .ok (.iload_n 2, 1) := by decide +kernel
theorem dX6_part_42 : decode cX6_part 42 = .ok (.iload_n 3, 1) := by decide +kernel
theorem dX6_part_43 : decode cX6_part 43 = .ok (.invokevirtual 214, 3) := by decide +kernel
theorem dX6_part_46 : decode cX6_part 46 = .ok (.ireturn, 1) := by decide +kernel
theorem dX6_ifFixed_0 : decode cX6_ifFixed 0 = .ok (.aload_n 0, 1) := by decide +kernel
theorem dX6_ifFixed_1 : decode cX6_ifFixed 1 = .ok (.iload_n 1, 1) := by decide +kernel
theorem dX6_ifFixed_2 : decode cX6_ifFixed 2 = .ok (.invokevirtual 102, 3) := by decide +kernel
theorem dX6_ifFixed_5 : decode cX6_ifFixed 5 = .ok (.aload_n 0, 1) := by decide +kernel
theorem dX6_ifFixed_6 : decode cX6_ifFixed 6 = .ok (.iload_n 1, 1) := by decide +kernel
theorem dX6_ifFixed_7 : decode cX6_ifFixed 7 = .ok (.iload_n 2, 1) := by decide +kernel
theorem dX6_ifFixed_8 : decode cX6_ifFixed 8 = .ok (.invokevirtual 112, 3) := by decide +kernel
theorem dX6_ifFixed_11 : decode cX6_ifFixed 11 = .ok (.aload_n 0, 1) := by decide +kernel
theorem dX6_ifFixed_12 : decode cX6_ifFixed 12 = .ok (.iload_n 1, 1) := by decide +kernel
theorem dX6_ifFixed_13 : decode cX6_ifFixed 13 = .ok (.iload_n 2, 1) := by decide +kernel
theorem dX6_ifFixed_14 : decode cX6_ifFixed 14 = .ok (.invokevirtual 115, 3) := by decide +kernel
theorem dX6_ifFixed_17 : decode cX6_ifFixed 17 = .ok (.ireturn, 1) := by decide +kernel
theorem dX6_question_0 : decode cX6_question 0 = .ok (.aload_n 0, 1) := by decide +kernel
theorem dX6_question_1 : decode cX6_question 1 = .ok (.invokevirtual 218, 3) := by decide +kernel
theorem dX6_question_4 : decode cX6_question 4 = .ok (.ireturn, 1) := by decide +kernel
theorem dX6_next_0 : decode cX6_next 0 = .ok (.aload_n 0, 1) := by decide +kernel
theorem dX6_next_1 : decode cX6_next 1 = .ok (.invokevirtual 221, 3) := by decide +kernel
theorem dX6_next_4 : decode cX6_next 4 = .ok (.ireturn, 1) := by decide +kernel
theorem dX6_sureShare_0 : decode cX6_sureShare 0 = .ok (.aload_n 0, 1) := by decide +kernel
theorem dX6_sureShare_1 : decode cX6_sureShare 1 = .ok (.invokevirtual 224, 3) := by decide +kernel
theorem dX6_sureShare_4 : decode cX6_sureShare 4 = .ok (.dreturn, 1) := by decide +kernel
theorem dX6_digest_0 : decode cX6_digest 0 = .ok (.ldc2_w 228, 3) := by decide +kernel
theorem dX6_digest_3 : decode cX6_digest 3 = .ok (.lstore_n 1, 1) := by decide +kernel
theorem dX6_digest_4 : decode cX6_digest 4 = .ok (.iconst 0, 1) := by decide +kernel
theorem dX6_digest_5 : decode cX6_digest 5 = .ok (.istore_n 3, 1) := by decide +kernel
theorem dX6_digest_6 : decode cX6_digest 6 = .ok (.iload_n 3, 1) := by decide +kernel
theorem dX6_digest_7 : decode cX6_digest 7 = .ok (.bipush 8, 2) := by decide +kernel
theorem dX6_digest_9 : decode cX6_digest 9 = .ok (.if_icmp .gt 22, 3) := by decide +kernel
theorem dX6_digest_12 : decode cX6_digest 12 = .ok (.ldc2_w 230, 3) := by decide +kernel
theorem dX6_digest_15 : decode cX6_digest 15 = .ok (.lload_n 1, 1) := by decide +kernel
theorem dX6_digest_16 : decode cX6_digest 16 = .ok (.lmul, 1) := by decide +kernel
theorem dX6_digest_17 : decode cX6_digest 17 = .ok (.aload_n 0, 1) := by decide +kernel
theorem dX6_digest_18 : decode cX6_digest 18 = .ok (.iload_n 3, 1) := by decide +kernel
theorem dX6_digest_19 : decode cX6_digest 19 = .ok (.invokevirtual 206, 3) := by decide +kernel
theorem dX6_digest_22 : decode cX6_digest 22 = .ok (.i2l, 1) := by decide +kernel
theorem dX6_digest_23 : decode cX6_digest 23 = .ok (.ladd, 1) := by decide +kernel
theorem dX6_digest_24 : decode cX6_digest 24 = .ok (.lstore_n 1, 1) := by decide +kernel
theorem dX6_digest_25 : decode cX6_digest 25 = .ok (.iinc 3 1, 3) := by decide +kernel
theorem dX6_digest_28 : decode cX6_digest 28 = .ok (.goto (-22), 3) := by decide +kernel
theorem dX6_digest_31 : decode cX6_digest 31 = .ok (.aload_n 0, 1) := by decide +kernel
theorem dX6_digest_32 : decode cX6_digest 32 = .ok (.lload_n 1, 1) := by decide +kernel
theorem dX6_digest_33 : decode cX6_digest 33 = .ok (.invokevirtual 232, 3) := by decide +kernel
theorem dX6_digest_36 : decode cX6_digest 36 = .ok (.lstore_n 1, 1) := by decide +kernel
theorem dX6_digest_37 : decode cX6_digest 37 = .ok (.aload_n 0, 1) := by decide +kernel
theorem dX6_digest_38 : decode cX6_digest 38 = .ok (.lload_n 1, 1) := by decide +kernel
theorem dX6_digest_39 : decode cX6_digest 39 = .ok (.invokevirtual 236, 3) := by decide +kernel
theorem dX6_digest_42 : decode cX6_digest 42 = .ok (.lstore_n 1, 1) := by decide +kernel
theorem dX6_digest_43 : decode cX6_digest 43 = .ok (.aload_n 0, 1) := by decide +kernel
theorem dX6_digest_44 : decode cX6_digest 44 = .ok (.lload_n 1, 1) := by decide +kernel
theorem dX6_digest_45 : decode cX6_digest 45 = .ok (.invokevirtual 239, 3) := by decide +kernel
theorem dX6_digest_48 : decode cX6_digest 48 = .ok (.lstore_n 1, 1) := by decide +kernel
theorem dX6_digest_49 : decode cX6_digest 49 = .ok (.ldc2_w 230, 3) := by decide +kernel
theorem dX6_digest_52 : decode cX6_digest 52 = .ok (.lload_n 1, 1) := by decide +kernel
theorem dX6_digest_53 : decode cX6_digest 53 = .ok (.lmul, 1) := by decide +kernel
theorem dX6_digest_54 : decode cX6_digest 54 = .ok (.aload_n 0, 1) := by decide +kernel
theorem dX6_digest_55 : decode cX6_digest 55 = .ok (.invokevirtual 218, 3) := by decide +kernel
theorem dX6_digest_58 : decode cX6_digest 58 = .ok (.i2l, 1) := by decide +kernel
theorem dX6_digest_59 : decode cX6_digest 59 = .ok (.ladd, 1) := by decide +kernel
theorem dX6_digest_60 : decode cX6_digest 60 = .ok (.lstore_n 1, 1) := by decide +kernel
theorem dX6_digest_61 : decode cX6_digest 61 = .ok (.ldc2_w 230, 3) := by decide +kernel
theorem dX6_digest_64 : decode cX6_digest 64 = .ok (.lload_n 1, 1) := by decide +kernel
theorem dX6_digest_65 : decode cX6_digest 65 = .ok (.lmul, 1) := by decide +kernel
theorem dX6_digest_66 : decode cX6_digest 66 = .ok (.aload_n 0, 1) := by decide +kernel
theorem dX6_digest_67 : decode cX6_digest 67 = .ok (.invokevirtual 221, 3) := by decide +kernel
theorem dX6_digest_70 : decode cX6_digest 70 = .ok (.i2l, 1) := by decide +kernel
theorem dX6_digest_71 : decode cX6_digest 71 = .ok (.ladd, 1) := by decide +kernel
theorem dX6_digest_72 : decode cX6_digest 72 = .ok (.lstore_n 1, 1) := by decide +kernel
theorem dX6_digest_73 : decode cX6_digest 73 = .ok (.ldc2_w 230, 3) := by decide +kernel
theorem dX6_digest_76 : decode cX6_digest 76 = .ok (.lload_n 1, 1) := by decide +kernel
theorem dX6_digest_77 : decode cX6_digest 77 = .ok (.lmul, 1) := by decide +kernel
theorem dX6_digest_78 : decode cX6_digest 78 = .ok (.aload_n 0, 1) := by decide +kernel
theorem dX6_digest_79 : decode cX6_digest 79 = .ok (.invokevirtual 224, 3) := by decide +kernel
theorem dX6_digest_82 : decode cX6_digest 82 = .ok (.invokestatic 242, 3) := by decide +kernel
theorem dX6_digest_85 : decode cX6_digest 85 = .ok (.ladd, 1) := by decide +kernel
theorem dX6_digest_86 : decode cX6_digest 86 = .ok (.lstore_n 1, 1) := by decide +kernel
theorem dX6_digest_87 : decode cX6_digest 87 = .ok (.iconst 0, 1) := by decide +kernel
theorem dX6_digest_88 : decode cX6_digest 88 = .ok (.istore_n 3, 1) := by decide +kernel
theorem dX6_digest_89 : decode cX6_digest 89 = .ok (.iload_n 3, 1) := by decide +kernel
theorem dX6_digest_90 : decode cX6_digest 90 = .ok (.iconst 2, 1) := by decide +kernel
theorem dX6_digest_91 : decode cX6_digest 91 = .ok (.if_icmp .ge 31, 3) := by decide +kernel
theorem dX6_digest_94 : decode cX6_digest 94 = .ok (.ldc2_w 230, 3) := by decide +kernel
theorem dX6_digest_97 : decode cX6_digest 97 = .ok (.lload_n 1, 1) := by decide +kernel
theorem dX6_digest_98 : decode cX6_digest 98 = .ok (.lmul, 1) := by decide +kernel
theorem dX6_digest_99 : decode cX6_digest 99 = .ok (.aload_n 0, 1) := by decide +kernel
theorem dX6_digest_100 : decode cX6_digest 100 = .ok (.getfield 69, 3) := by decide +kernel
theorem dX6_digest_103 : decode cX6_digest 103 = .ok (.iload_n 3, 1) := by decide +kernel
theorem dX6_digest_104 : decode cX6_digest 104 = .ok (.baload, 1) := by decide +kernel
theorem dX6_digest_105 : decode cX6_digest 105 = .ok (.ifCond .eq 7, 3) := by decide +kernel
theorem dX6_digest_108 : decode cX6_digest 108 = .ok (.iconst 1, 1) := by decide +kernel
theorem dX6_digest_109 : decode cX6_digest 109 = .ok (.goto 4, 3) := by decide +kernel
theorem dX6_digest_112 : decode cX6_digest 112 = .ok (.iconst 0, 1) := by decide +kernel
theorem dX6_digest_113 : decode cX6_digest 113 = .ok (.i2l, 1) := by decide +kernel
theorem dX6_digest_114 : decode cX6_digest 114 = .ok (.ladd, 1) := by decide +kernel
theorem dX6_digest_115 : decode cX6_digest 115 = .ok (.lstore_n 1, 1) := by decide +kernel
theorem dX6_digest_116 : decode cX6_digest 116 = .ok (.iinc 3 1, 3) := by decide +kernel
theorem dX6_digest_119 : decode cX6_digest 119 = .ok (.goto (-30), 3) := by decide +kernel
theorem dX6_digest_122 : decode cX6_digest 122 = .ok (.ldc2_w 230, 3) := by decide +kernel
theorem dX6_digest_125 : decode cX6_digest 125 = .ok (.lload_n 1, 1) := by decide +kernel
theorem dX6_digest_126 : decode cX6_digest 126 = .ok (.lmul, 1) := by decide +kernel
theorem dX6_digest_127 : decode cX6_digest 127 = .ok (.aload_n 0, 1) := by decide +kernel
theorem dX6_digest_128 : decode cX6_digest 128 = .ok (.getfield 76, 3) := by decide +kernel
theorem dX6_digest_131 : decode cX6_digest 131 = .ok (.i2l, 1) := by decide +kernel
theorem dX6_digest_132 : decode cX6_digest 132 = .ok (.ladd, 1) := by decide +kernel
theorem dX6_digest_133 : decode cX6_digest 133 = .ok (.lstore_n 1, 1) := by decide +kernel
theorem dX6_digest_134 : decode cX6_digest 134 = .ok (.iconst 0, 1) := by decide +kernel
theorem dX6_digest_135 : decode cX6_digest 135 = .ok (.istore_n 3, 1) := by decide +kernel
theorem dX6_digest_136 : decode cX6_digest 136 = .ok (.iload_n 3, 1) := by decide +kernel
theorem dX6_digest_137 : decode cX6_digest 137 = .ok (.aload_n 0, 1) := by decide +kernel
theorem dX6_digest_138 : decode cX6_digest 138 = .ok (.getfield 76, 3) := by decide +kernel
theorem dX6_digest_141 : decode cX6_digest 141 = .ok (.if_icmp .ge 22, 3) := by decide +kernel
theorem dX6_digest_144 : decode cX6_digest 144 = .ok (.ldc2_w 230, 3) := by decide +kernel
theorem dX6_digest_147 : decode cX6_digest 147 = .ok (.lload_n 1, 1) := by decide +kernel
theorem dX6_digest_148 : decode cX6_digest 148 = .ok (.lmul, 1) := by decide +kernel
theorem dX6_digest_149 : decode cX6_digest 149 = .ok (.aload_n 0, 1) := by decide +kernel
theorem dX6_digest_150 : decode cX6_digest 150 = .ok (.iload_n 3, 1) := by decide +kernel
theorem dX6_digest_151 : decode cX6_digest 151 = .ok (.invokevirtual 162, 3) := by decide +kernel
theorem dX6_digest_154 : decode cX6_digest 154 = .ok (.i2l, 1) := by decide +kernel
theorem dX6_digest_155 : decode cX6_digest 155 = .ok (.ladd, 1) := by decide +kernel
theorem dX6_digest_156 : decode cX6_digest 156 = .ok (.lstore_n 1, 1) := by decide +kernel
theorem dX6_digest_157 : decode cX6_digest 157 = .ok (.iinc 3 1, 3) := by decide +kernel
theorem dX6_digest_160 : decode cX6_digest 160 = .ok (.goto (-24), 3) := by decide +kernel
theorem dX6_digest_163 : decode cX6_digest 163 = .ok (.lload_n 1, 1) := by decide +kernel
theorem dX6_digest_164 : decode cX6_digest 164 = .ok (.lreturn, 1) := by decide +kernel
theorem dX6_needKind_0 : decode cX6_needKind 0 = .ok (.iload_n 1, 1) := by decide +kernel
theorem dX6_needKind_1 : decode cX6_needKind 1 = .ok (.ifCond .lt 9, 3) := by decide +kernel
theorem dX6_needKind_4 : decode cX6_needKind 4 = .ok (.iload_n 1, 1) := by decide +kernel
theorem dX6_needKind_5 : decode cX6_needKind 5 = .ok (.bipush 7, 2) := by decide +kernel
theorem dX6_needKind_7 : decode cX6_needKind 7 = .ok (.if_icmp .lt 13, 3) := by decide +kernel
theorem dX6_needKind_10 : decode cX6_needKind 10 = .ok (.new 144, 3) := by decide +kernel
theorem dX6_needKind_13 : decode cX6_needKind 13 = .ok (.dup, 1) := by decide +kernel
theorem dX6_needKind_14 : decode cX6_needKind 14 = .ok (.ldc 246, 2) := by decide +kernel
theorem dX6_needKind_16 : decode cX6_needKind 16 = .ok (.invokespecial 148, 3) := by decide +kernel
theorem dX6_needKind_19 : decode cX6_needKind 19 = .ok (.athrow, 1) := by decide +kernel
theorem dX6_needKind_20 : decode cX6_needKind 20 = .ok (.return_, 1) := by decide +kernel
theorem dX6_needWord_0 : decode cX6_needWord 0 = .ok (.aload_n 0, 1) := by decide +kernel
theorem dX6_needWord_1 : decode cX6_needWord 1 = .ok (.getfield 12, 3) := by decide +kernel
theorem dX6_needWord_4 : decode cX6_needWord 4 = .ok (.iload_n 1, 1) := by decide +kernel
theorem dX6_needWord_5 : decode cX6_needWord 5 = .ok (.invokevirtual 248, 3) := by decide +kernel
theorem dX6_needWord_8 : decode cX6_needWord 8 = .ok (.ifCond .ne 13, 3) := by decide +kernel
theorem dX6_needWord_11 : decode cX6_needWord 11 = .ok (.new 209, 3) := by decide +kernel
theorem dX6_needWord_14 : decode cX6_needWord 14 = .ok (.dup, 1) := by decide +kernel
theorem dX6_needWord_15 : decode cX6_needWord 15 = .ok (.ldc 252, 2) := by decide +kernel
theorem dX6_needWord_17 : decode cX6_needWord 17 = .ok (.invokespecial 213, 3) := by decide +kernel
theorem dX6_needWord_20 : decode cX6_needWord 20 = .ok (.athrow, 1) := by decide +kernel
theorem dX6_needWord_21 : decode cX6_needWord 21 = .ok (.return_, 1) := by decide +kernel
theorem dX6_needHead_0 : decode cX6_needHead 0 = .ok (.iload_n 2, 1) := by decide +kernel
theorem dX6_needHead_1 : decode cX6_needHead 1 = .ok (.iload_n 1, 1) := by decide +kernel
theorem dX6_needHead_2 : decode cX6_needHead 2 = .ok (.if_icmp .eq 19, 3) := by decide +kernel
theorem dX6_needHead_5 : decode cX6_needHead 5 = .ok (.iload_n 2, 1) := by decide +kernel
theorem dX6_needHead_6 : decode cX6_needHead 6 = .ok (.iconst (-1), 1) := by decide +kernel
theorem dX6_needHead_7 : decode cX6_needHead 7 = .ok (.if_icmp .eq 24, 3) := by decide +kernel
theorem dX6_needHead_10 : decode cX6_needHead 10 = .ok (.aload_n 0, 1) := by decide +kernel
theorem dX6_needHead_11 : decode cX6_needHead 11 = .ok (.getfield 12, 3) := by decide +kernel
theorem dX6_needHead_14 : decode cX6_needHead 14 = .ok (.iload_n 2, 1) := by decide +kernel
theorem dX6_needHead_15 : decode cX6_needHead 15 = .ok (.invokevirtual 248, 3) := by decide +kernel
theorem dX6_needHead_18 : decode cX6_needHead 18 = .ok (.ifCond .ne 13, 3) := by decide +kernel
theorem dX6_needHead_21 : decode cX6_needHead 21 = .ok (.new 209, 3) := by decide +kernel
theorem dX6_needHead_24 : decode cX6_needHead 24 = .ok (.dup, 1) := by decide +kernel
theorem dX6_needHead_25 : decode cX6_needHead 25 = .ok (.ldc 254, 2) := by decide +kernel
theorem dX6_needHead_27 : decode cX6_needHead 27 = .ok (.invokespecial 213, 3) := by decide +kernel
theorem dX6_needHead_30 : decode cX6_needHead 30 = .ok (.athrow, 1) := by decide +kernel
theorem dX6_needHead_31 : decode cX6_needHead 31 = .ok (.return_, 1) := by decide +kernel
theorem dX6_needReading_0 : decode cX6_needReading 0 = .ok (.iload_n 1, 1) := by decide +kernel
theorem dX6_needReading_1 : decode cX6_needReading 1 = .ok (.ifCond .lt 11, 3) := by decide +kernel
theorem dX6_needReading_4 : decode cX6_needReading 4 = .ok (.iload_n 1, 1) := by decide +kernel
theorem dX6_needReading_5 : decode cX6_needReading 5 = .ok (.aload_n 0, 1) := by decide +kernel
theorem dX6_needReading_6 : decode cX6_needReading 6 = .ok (.getfield 34, 3) := by decide +kernel
theorem dX6_needReading_9 : decode cX6_needReading 9 = .ok (.if_icmp .lt 14, 3) := by decide +kernel
theorem dX6_needReading_12 : decode cX6_needReading 12 = .ok (.new 209, 3) := by decide +kernel
theorem dX6_needReading_15 : decode cX6_needReading 15 = .ok (.dup, 1) := by decide +kernel
theorem dX6_needReading_16 : decode cX6_needReading 16 = .ok (.ldc_w 256, 3) := by decide +kernel
theorem dX6_needReading_19 : decode cX6_needReading 19 = .ok (.invokespecial 213, 3) := by decide +kernel
theorem dX6_needReading_22 : decode cX6_needReading 22 = .ok (.athrow, 1) := by decide +kernel
theorem dX6_needReading_23 : decode cX6_needReading 23 = .ok (.return_, 1) := by decide +kernel
theorem dX6_needSlot_0 : decode cX6_needSlot 0 = .ok (.iload_n 1, 1) := by decide +kernel
theorem dX6_needSlot_1 : decode cX6_needSlot 1 = .ok (.ifCond .lt 8, 3) := by decide +kernel
theorem dX6_needSlot_4 : decode cX6_needSlot 4 = .ok (.iload_n 1, 1) := by decide +kernel
theorem dX6_needSlot_5 : decode cX6_needSlot 5 = .ok (.iconst 2, 1) := by decide +kernel
theorem dX6_needSlot_6 : decode cX6_needSlot 6 = .ok (.if_icmp .lt 14, 3) := by decide +kernel
theorem dX6_needSlot_9 : decode cX6_needSlot 9 = .ok (.new 144, 3) := by decide +kernel
theorem dX6_needSlot_12 : decode cX6_needSlot 12 = .ok (.dup, 1) := by decide +kernel
theorem dX6_needSlot_13 : decode cX6_needSlot 13 = .ok (.ldc_w 258, 3) := by decide +kernel
theorem dX6_needSlot_16 : decode cX6_needSlot 16 = .ok (.invokespecial 148, 3) := by decide +kernel
theorem dX6_needSlot_19 : decode cX6_needSlot 19 = .ok (.athrow, 1) := by decide +kernel
theorem dX6_needSlot_20 : decode cX6_needSlot 20 = .ok (.return_, 1) := by decide +kernel
theorem dX6_needAsked_0 : decode cX6_needAsked 0 = .ok (.iload_n 1, 1) := by decide +kernel
theorem dX6_needAsked_1 : decode cX6_needAsked 1 = .ok (.ifCond .lt 8, 3) := by decide +kernel
theorem dX6_needAsked_4 : decode cX6_needAsked 4 = .ok (.iload_n 1, 1) := by decide +kernel
theorem dX6_needAsked_5 : decode cX6_needAsked 5 = .ok (.iload_n 2, 1) := by decide +kernel
theorem dX6_needAsked_6 : decode cX6_needAsked 6 = .ok (.if_icmp .le 14, 3) := by decide +kernel
theorem dX6_needAsked_9 : decode cX6_needAsked 9 = .ok (.new 144, 3) := by decide +kernel
theorem dX6_needAsked_12 : decode cX6_needAsked 12 = .ok (.dup, 1) := by decide +kernel
theorem dX6_needAsked_13 : decode cX6_needAsked 13 = .ok (.ldc_w 260, 3) := by decide +kernel
theorem dX6_needAsked_16 : decode cX6_needAsked 16 = .ok (.invokespecial 148, 3) := by decide +kernel
theorem dX6_needAsked_19 : decode cX6_needAsked 19 = .ok (.athrow, 1) := by decide +kernel
theorem dX6_needAsked_20 : decode cX6_needAsked 20 = .ok (.return_, 1) := by decide +kernel
theorem dX6_saveState_0 : decode cX6_saveState 0 = .ok (.aload_n 0, 1) := by decide +kernel
theorem dX6_saveState_1 : decode cX6_saveState 1 = .ok (.getfield 63, 3) := by decide +kernel
theorem dX6_saveState_4 : decode cX6_saveState 4 = .ok (.bipush 6, 2) := by decide +kernel
theorem dX6_saveState_6 : decode cX6_saveState 6 = .ok (.if_icmp .ne 20, 3) := by decide +kernel
theorem dX6_saveState_9 : decode cX6_saveState 9 = .ok (.aload_n 0, 1) := by decide +kernel
theorem dX6_saveState_10 : decode cX6_saveState 10 = .ok (.getfield 59, 3) := by decide +kernel
theorem dX6_saveState_13 : decode cX6_saveState 13 = .ok (.invokevirtual 262, 3) := by decide +kernel
theorem dX6_saveState_16 : decode cX6_saveState 16 = .ok (.aload_n 0, 1) := by decide +kernel
theorem dX6_saveState_17 : decode cX6_saveState 17 = .ok (.dup, 1) := by decide +kernel
theorem dX6_saveState_18 : decode cX6_saveState 18 = .ok (.getfield 63, 3) := by decide +kernel
theorem dX6_saveState_21 : decode cX6_saveState 21 = .ok (.iconst 1, 1) := by decide +kernel
theorem dX6_saveState_22 : decode cX6_saveState 22 = .ok (.isub, 1) := by decide +kernel
theorem dX6_saveState_23 : decode cX6_saveState 23 = .ok (.putfield 63, 3) := by decide +kernel
theorem dX6_saveState_26 : decode cX6_saveState 26 = .ok (.aload_n 0, 1) := by decide +kernel
theorem dX6_saveState_27 : decode cX6_saveState 27 = .ok (.getfield 59, 3) := by decide +kernel
theorem dX6_saveState_30 : decode cX6_saveState 30 = .ok (.aload_n 0, 1) := by decide +kernel
theorem dX6_saveState_31 : decode cX6_saveState 31 = .ok (.getfield 63, 3) := by decide +kernel
theorem dX6_saveState_34 : decode cX6_saveState 34 = .ok (.aload_n 0, 1) := by decide +kernel
theorem dX6_saveState_35 : decode cX6_saveState 35 = .ok (.getfield 12, 3) := by decide +kernel
theorem dX6_saveState_38 : decode cX6_saveState 38 = .ok (.invokevirtual 183, 3) := by decide +kernel
theorem dX6_saveState_41 : decode cX6_saveState 41 = .ok (.aload_n 0, 1) := by decide +kernel
theorem dX6_saveState_42 : decode cX6_saveState 42 = .ok (.dup, 1) := by decide +kernel
theorem dX6_saveState_43 : decode cX6_saveState 43 = .ok (.getfield 63, 3) := by decide +kernel
theorem dX6_saveState_46 : decode cX6_saveState 46 = .ok (.iconst 1, 1) := by decide +kernel
theorem dX6_saveState_47 : decode cX6_saveState 47 = .ok (.iadd, 1) := by decide +kernel
theorem dX6_saveState_48 : decode cX6_saveState 48 = .ok (.putfield 63, 3) := by decide +kernel
theorem dX6_saveState_51 : decode cX6_saveState 51 = .ok (.return_, 1) := by decide +kernel
theorem dX6_beginSentence_0 : decode cX6_beginSentence 0 = .ok (.aload_n 0, 1) := by decide +kernel
theorem dX6_beginSentence_1 : decode cX6_beginSentence 1 = .ok (.getfield 12, 3) := by decide +kernel
theorem dX6_beginSentence_4 : decode cX6_beginSentence 4 = .ok (.invokevirtual 265, 3) := by decide +kernel
theorem dX6_beginSentence_7 : decode cX6_beginSentence 7 = .ok (.aload_n 0, 1) := by decide +kernel
theorem dX6_beginSentence_8 : decode cX6_beginSentence 8 = .ok (.getfield 12, 3) := by decide +kernel
theorem dX6_beginSentence_11 : decode cX6_beginSentence 11 = .ok (.iconst 0, 1) := by decide +kernel
theorem dX6_beginSentence_12 : decode cX6_beginSentence 12 = .ok (.invokevirtual 130, 3) := by decide +kernel
theorem dX6_beginSentence_15 : decode cX6_beginSentence 15 = .ok (.aload_n 0, 1) := by decide +kernel
theorem dX6_beginSentence_16 : decode cX6_beginSentence 16 = .ok (.invokevirtual 192, 3) := by decide +kernel
theorem dX6_beginSentence_19 : decode cX6_beginSentence 19 = .ok (.aload_n 0, 1) := by decide +kernel
theorem dX6_beginSentence_20 : decode cX6_beginSentence 20 = .ok (.getfield 19, 3) := by decide +kernel
theorem dX6_beginSentence_23 : decode cX6_beginSentence 23 = .ok (.invokevirtual 268, 3) := by decide +kernel
theorem dX6_beginSentence_26 : decode cX6_beginSentence 26 = .ok (.ireturn, 1) := by decide +kernel
theorem dX6_beginHeads_0 : decode cX6_beginHeads 0 = .ok (.aload_n 0, 1) := by decide +kernel
theorem dX6_beginHeads_1 : decode cX6_beginHeads 1 = .ok (.getfield 12, 3) := by decide +kernel
theorem dX6_beginHeads_4 : decode cX6_beginHeads 4 = .ok (.iconst 0, 1) := by decide +kernel
theorem dX6_beginHeads_5 : decode cX6_beginHeads 5 = .ok (.invokevirtual 130, 3) := by decide +kernel
theorem dX6_beginHeads_8 : decode cX6_beginHeads 8 = .ok (.aload_n 0, 1) := by decide +kernel
theorem dX6_beginHeads_9 : decode cX6_beginHeads 9 = .ok (.invokevirtual 271, 3) := by decide +kernel
theorem dX6_beginHeads_12 : decode cX6_beginHeads 12 = .ok (.aload_n 0, 1) := by decide +kernel
theorem dX6_beginHeads_13 : decode cX6_beginHeads 13 = .ok (.invokevirtual 133, 3) := by decide +kernel
theorem dX6_beginHeads_16 : decode cX6_beginHeads 16 = .ok (.aload_n 0, 1) := by decide +kernel
theorem dX6_beginHeads_17 : decode cX6_beginHeads 17 = .ok (.getfield 34, 3) := by decide +kernel
theorem dX6_beginHeads_20 : decode cX6_beginHeads 20 = .ok (.ireturn, 1) := by decide +kernel
theorem dX6_tellReadings_0 : decode cX6_tellReadings 0 = .ok (.aload_n 0, 1) := by decide +kernel
theorem dX6_tellReadings_1 : decode cX6_tellReadings 1 = .ok (.getfield 19, 3) := by decide +kernel
theorem dX6_tellReadings_4 : decode cX6_tellReadings 4 = .ok (.aload_n 0, 1) := by decide +kernel
theorem dX6_tellReadings_5 : decode cX6_tellReadings 5 = .ok (.getfield 12, 3) := by decide +kernel
theorem dX6_tellReadings_8 : decode cX6_tellReadings 8 = .ok (.invokevirtual 274, 3) := by decide +kernel
theorem dX6_tellReadings_11 : decode cX6_tellReadings 11 = .ok (.aload_n 0, 1) := by decide +kernel
theorem dX6_tellReadings_12 : decode cX6_tellReadings 12 = .ok (.getfield 26, 3) := by decide +kernel
theorem dX6_tellReadings_15 : decode cX6_tellReadings 15 = .ok (.aload_n 0, 1) := by decide +kernel
theorem dX6_tellReadings_16 : decode cX6_tellReadings 16 = .ok (.getfield 12, 3) := by decide +kernel
theorem dX6_tellReadings_19 : decode cX6_tellReadings 19 = .ok (.invokevirtual 278, 3) := by decide +kernel
theorem dX6_tellReadings_22 : decode cX6_tellReadings 22 = .ok (.aload_n 0, 1) := by decide +kernel
theorem dX6_tellReadings_23 : decode cX6_tellReadings 23 = .ok (.invokevirtual 271, 3) := by decide +kernel
theorem dX6_tellReadings_26 : decode cX6_tellReadings 26 = .ok (.aload_n 0, 1) := by decide +kernel
theorem dX6_tellReadings_27 : decode cX6_tellReadings 27 = .ok (.invokevirtual 133, 3) := by decide +kernel
theorem dX6_tellReadings_30 : decode cX6_tellReadings 30 = .ok (.return_, 1) := by decide +kernel
theorem dX6_tellLeft_0 : decode cX6_tellLeft 0 = .ok (.aload_n 0, 1) := by decide +kernel
theorem dX6_tellLeft_1 : decode cX6_tellLeft 1 = .ok (.iconst 0, 1) := by decide +kernel
theorem dX6_tellLeft_2 : decode cX6_tellLeft 2 = .ok (.putfield 34, 3) := by decide +kernel
theorem dX6_tellLeft_5 : decode cX6_tellLeft 5 = .ok (.iconst 0, 1) := by decide +kernel
theorem dX6_tellLeft_6 : decode cX6_tellLeft 6 = .ok (.istore_n 1, 1) := by decide +kernel
theorem dX6_tellLeft_7 : decode cX6_tellLeft 7 = .ok (.iload_n 1, 1) := by decide +kernel
theorem dX6_tellLeft_8 : decode cX6_tellLeft 8 = .ok (.aload_n 0, 1) := by decide +kernel
theorem dX6_tellLeft_9 : decode cX6_tellLeft 9 = .ok (.getfield 19, 3) := by decide +kernel
theorem dX6_tellLeft_12 : decode cX6_tellLeft 12 = .ok (.invokevirtual 268, 3) := by decide +kernel
theorem dX6_tellLeft_15 : decode cX6_tellLeft 15 = .ok (.if_icmp .ge 57, 3) := by decide +kernel
theorem dX6_tellLeft_18 : decode cX6_tellLeft 18 = .ok (.aload_n 0, 1) := by decide +kernel
theorem dX6_tellLeft_19 : decode cX6_tellLeft 19 = .ok (.getfield 34, 3) := by decide +kernel
theorem dX6_tellLeft_22 : decode cX6_tellLeft 22 = .ok (.aload_n 0, 1) := by decide +kernel
theorem dX6_tellLeft_23 : decode cX6_tellLeft 23 = .ok (.getfield 30, 3) := by decide +kernel
theorem dX6_tellLeft_26 : decode cX6_tellLeft 26 = .ok (.arraylength, 1) := by decide +kernel
theorem dX6_tellLeft_27 : decode cX6_tellLeft 27 = .ok (.if_icmp .ge 39, 3) := by decide +kernel
theorem dX6_tellLeft_30 : decode cX6_tellLeft 30 = .ok (.aload_n 0, 1) := by decide +kernel
theorem dX6_tellLeft_31 : decode cX6_tellLeft 31 = .ok (.aload_n 0, 1) := by decide +kernel
theorem dX6_tellLeft_32 : decode cX6_tellLeft 32 = .ok (.getfield 19, 3) := by decide +kernel
theorem dX6_tellLeft_35 : decode cX6_tellLeft 35 = .ok (.iload_n 1, 1) := by decide +kernel
theorem dX6_tellLeft_36 : decode cX6_tellLeft 36 = .ok (.invokevirtual 279, 3) := by decide +kernel
theorem dX6_tellLeft_39 : decode cX6_tellLeft 39 = .ok (.iconst (-1), 1) := by decide +kernel
theorem dX6_tellLeft_40 : decode cX6_tellLeft 40 = .ok (.invokevirtual 282, 3) := by decide +kernel
theorem dX6_tellLeft_43 : decode cX6_tellLeft 43 = .ok (.ifCond .eq 23, 3) := by decide +kernel
theorem dX6_tellLeft_46 : decode cX6_tellLeft 46 = .ok (.aload_n 0, 1) := by decide +kernel
theorem dX6_tellLeft_47 : decode cX6_tellLeft 47 = .ok (.getfield 30, 3) := by decide +kernel
theorem dX6_tellLeft_50 : decode cX6_tellLeft 50 = .ok (.aload_n 0, 1) := by decide +kernel
theorem dX6_tellLeft_51 : decode cX6_tellLeft 51 = .ok (.getfield 34, 3) := by decide +kernel
theorem dX6_tellLeft_54 : decode cX6_tellLeft 54 = .ok (.iload_n 1, 1) := by decide +kernel
theorem dX6_tellLeft_55 : decode cX6_tellLeft 55 = .ok (.iastore, 1) := by decide +kernel
theorem dX6_tellLeft_56 : decode cX6_tellLeft 56 = .ok (.aload_n 0, 1) := by decide +kernel
theorem dX6_tellLeft_57 : decode cX6_tellLeft 57 = .ok (.dup, 1) := by decide +kernel
theorem dX6_tellLeft_58 : decode cX6_tellLeft 58 = .ok (.getfield 34, 3) := by decide +kernel
theorem dX6_tellLeft_61 : decode cX6_tellLeft 61 = .ok (.iconst 1, 1) := by decide +kernel
theorem dX6_tellLeft_62 : decode cX6_tellLeft 62 = .ok (.iadd, 1) := by decide +kernel
theorem dX6_tellLeft_63 : decode cX6_tellLeft 63 = .ok (.putfield 34, 3) := by decide +kernel
theorem dX6_tellLeft_66 : decode cX6_tellLeft 66 = .ok (.iinc 1 1, 3) := by decide +kernel
theorem dX6_tellLeft_69 : decode cX6_tellLeft 69 = .ok (.goto (-62), 3) := by decide +kernel
theorem dX6_tellLeft_72 : decode cX6_tellLeft 72 = .ok (.return_, 1) := by decide +kernel
theorem dX6_drawAgain_0 : decode cX6_drawAgain 0 = .ok (.aload_n 0, 1) := by decide +kernel
theorem dX6_drawAgain_1 : decode cX6_drawAgain 1 = .ok (.getfield 12, 3) := by decide +kernel
theorem dX6_drawAgain_4 : decode cX6_drawAgain 4 = .ok (.invokevirtual 286, 3) := by decide +kernel
theorem dX6_drawAgain_7 : decode cX6_drawAgain 7 = .ok (.aload_n 0, 1) := by decide +kernel
theorem dX6_drawAgain_8 : decode cX6_drawAgain 8 = .ok (.getfield 34, 3) := by decide +kernel
theorem dX6_drawAgain_11 : decode cX6_drawAgain 11 = .ok (.if_icmp .ge 25, 3) := by decide +kernel
theorem dX6_drawAgain_14 : decode cX6_drawAgain 14 = .ok (.aload_n 0, 1) := by decide +kernel
theorem dX6_drawAgain_15 : decode cX6_drawAgain 15 = .ok (.getfield 41, 3) := by decide +kernel
theorem dX6_drawAgain_18 : decode cX6_drawAgain 18 = .ok (.aload_n 0, 1) := by decide +kernel
theorem dX6_drawAgain_19 : decode cX6_drawAgain 19 = .ok (.getfield 12, 3) := by decide +kernel
theorem dX6_drawAgain_22 : decode cX6_drawAgain 22 = .ok (.aload_n 0, 1) := by decide +kernel
theorem dX6_drawAgain_23 : decode cX6_drawAgain 23 = .ok (.aload_n 0, 1) := by decide +kernel
theorem dX6_drawAgain_24 : decode cX6_drawAgain 24 = .ok (.getfield 12, 3) := by decide +kernel
theorem dX6_drawAgain_27 : decode cX6_drawAgain 27 = .ok (.invokevirtual 286, 3) := by decide +kernel
theorem dX6_drawAgain_30 : decode cX6_drawAgain 30 = .ok (.invokevirtual 288, 3) := by decide +kernel
theorem dX6_drawAgain_33 : decode cX6_drawAgain 33 = .ok (.invokevirtual 291, 3) := by decide +kernel
theorem dX6_drawAgain_36 : decode cX6_drawAgain 36 = .ok (.return_, 1) := by decide +kernel
theorem dX6_fits_0 : decode cX6_fits 0 = .ok (.iconst 0, 1) := by decide +kernel
theorem dX6_fits_1 : decode cX6_fits 1 = .ok (.istore 4, 2) := by decide +kernel
theorem dX6_fits_3 : decode cX6_fits 3 = .ok (.iload 4, 2) := by decide +kernel
theorem dX6_fits_5 : decode cX6_fits 5 = .ok (.aload_n 0, 1) := by decide +kernel
theorem dX6_fits_6 : decode cX6_fits 6 = .ok (.getfield 12, 3) := by decide +kernel
theorem dX6_fits_9 : decode cX6_fits 9 = .ok (.invokevirtual 82, 3) := by decide +kernel
theorem dX6_fits_12 : decode cX6_fits 12 = .ok (.if_icmp .ge 46, 3) := by decide +kernel
theorem dX6_fits_15 : decode cX6_fits 15 = .ok (.aload_n 0, 1) := by decide +kernel
theorem dX6_fits_16 : decode cX6_fits 16 = .ok (.getfield 12, 3) := by decide +kernel
theorem dX6_fits_19 : decode cX6_fits 19 = .ok (.iload 4, 2) := by decide +kernel
theorem dX6_fits_21 : decode cX6_fits 21 = .ok (.invokevirtual 295, 3) := by decide +kernel
theorem dX6_fits_24 : decode cX6_fits 24 = .ok (.istore 5, 2) := by decide +kernel
theorem dX6_fits_26 : decode cX6_fits 26 = .ok (.iload 4, 2) := by decide +kernel
theorem dX6_fits_28 : decode cX6_fits 28 = .ok (.iload_n 3, 1) := by decide +kernel
theorem dX6_fits_29 : decode cX6_fits 29 = .ok (.if_icmp .eq 23, 3) := by decide +kernel
theorem dX6_fits_32 : decode cX6_fits 32 = .ok (.iload 5, 2) := by decide +kernel
theorem dX6_fits_34 : decode cX6_fits 34 = .ok (.bipush (-2), 2) := by decide +kernel
theorem dX6_fits_36 : decode cX6_fits 36 = .ok (.if_icmp .eq 16, 3) := by decide +kernel
theorem dX6_fits_39 : decode cX6_fits 39 = .ok (.iload 5, 2) := by decide +kernel
theorem dX6_fits_41 : decode cX6_fits 41 = .ok (.lload_n 1, 1) := by decide +kernel
theorem dX6_fits_42 : decode cX6_fits 42 = .ok (.iload 4, 2) := by decide +kernel
theorem dX6_fits_44 : decode cX6_fits 44 = .ok (.invokestatic 298, 3) := by decide +kernel
theorem dX6_fits_47 : decode cX6_fits 47 = .ok (.if_icmp .eq 5, 3) := by decide +kernel
theorem dX6_fits_50 : decode cX6_fits 50 = .ok (.iconst 0, 1) := by decide +kernel
theorem dX6_fits_51 : decode cX6_fits 51 = .ok (.ireturn, 1) := by decide +kernel
theorem dX6_fits_52 : decode cX6_fits 52 = .ok (.iinc 4 1, 3) := by decide +kernel
theorem dX6_fits_55 : decode cX6_fits 55 = .ok (.goto (-52), 3) := by decide +kernel
theorem dX6_fits_58 : decode cX6_fits 58 = .ok (.iconst 1, 1) := by decide +kernel
theorem dX6_fits_59 : decode cX6_fits 59 = .ok (.ireturn, 1) := by decide +kernel
theorem dX6_rankAmongAll_0 : decode cX6_rankAmongAll 0 = .ok (.iload_n 1, 1) := by decide +kernel
theorem dX6_rankAmongAll_1 : decode cX6_rankAmongAll 1 = .ok (.ifCond .lt 29, 3) := by decide +kernel
theorem dX6_rankAmongAll_4 : decode cX6_rankAmongAll 4 = .ok (.iload_n 1, 1) := by decide +kernel
theorem dX6_rankAmongAll_5 : decode cX6_rankAmongAll 5 = .ok (.aload_n 0, 1) := by decide +kernel
theorem dX6_rankAmongAll_6 : decode cX6_rankAmongAll 6 = .ok (.getfield 34, 3) := by decide +kernel
theorem dX6_rankAmongAll_9 : decode cX6_rankAmongAll 9 = .ok (.if_icmp .ge 21, 3) := by decide +kernel
theorem dX6_rankAmongAll_12 : decode cX6_rankAmongAll 12 = .ok (.iload_n 1, 1) := by decide +kernel
theorem dX6_rankAmongAll_13 : decode cX6_rankAmongAll 13 = .ok (.aload_n 0, 1) := by decide +kernel
theorem dX6_rankAmongAll_14 : decode cX6_rankAmongAll 14 = .ok (.getfield 30, 3) := by decide +kernel
theorem dX6_rankAmongAll_17 : decode cX6_rankAmongAll 17 = .ok (.arraylength, 1) := by decide +kernel
theorem dX6_rankAmongAll_18 : decode cX6_rankAmongAll 18 = .ok (.if_icmp .ge 12, 3) := by decide +kernel
theorem dX6_rankAmongAll_21 : decode cX6_rankAmongAll 21 = .ok (.aload_n 0, 1) := by decide +kernel
theorem dX6_rankAmongAll_22 : decode cX6_rankAmongAll 22 = .ok (.getfield 30, 3) := by decide +kernel
theorem dX6_rankAmongAll_25 : decode cX6_rankAmongAll 25 = .ok (.iload_n 1, 1) := by decide +kernel
theorem dX6_rankAmongAll_26 : decode cX6_rankAmongAll 26 = .ok (.iaload, 1) := by decide +kernel
theorem dX6_rankAmongAll_27 : decode cX6_rankAmongAll 27 = .ok (.goto 4, 3) := by decide +kernel
theorem dX6_rankAmongAll_30 : decode cX6_rankAmongAll 30 = .ok (.iconst 0, 1) := by decide +kernel
theorem dX6_rankAmongAll_31 : decode cX6_rankAmongAll 31 = .ok (.ireturn, 1) := by decide +kernel
theorem dX6_leftCode_0 : decode cX6_leftCode 0 = .ok (.aload_n 0, 1) := by decide +kernel
theorem dX6_leftCode_1 : decode cX6_leftCode 1 = .ok (.getfield 19, 3) := by decide +kernel
theorem dX6_leftCode_4 : decode cX6_leftCode 4 = .ok (.aload_n 0, 1) := by decide +kernel
theorem dX6_leftCode_5 : decode cX6_leftCode 5 = .ok (.iload_n 1, 1) := by decide +kernel
theorem dX6_leftCode_6 : decode cX6_leftCode 6 = .ok (.invokevirtual 302, 3) := by decide +kernel
theorem dX6_leftCode_9 : decode cX6_leftCode 9 = .ok (.invokevirtual 279, 3) := by decide +kernel
theorem dX6_leftCode_12 : decode cX6_leftCode 12 = .ok (.lreturn, 1) := by decide +kernel
theorem dX6_flattestRank_0 : decode cX6_flattestRank 0 = .ok (.iconst 0, 1) := by decide +kernel
theorem dX6_flattestRank_1 : decode cX6_flattestRank 1 = .ok (.istore_n 1, 1) := by decide +kernel
theorem dX6_flattestRank_2 : decode cX6_flattestRank 2 = .ok (.bipush 13, 2) := by decide +kernel
theorem dX6_flattestRank_4 : decode cX6_flattestRank 4 = .ok (.istore_n 2, 1) := by decide +kernel
theorem dX6_flattestRank_5 : decode cX6_flattestRank 5 = .ok (.iconst 0, 1) := by decide +kernel
theorem dX6_flattestRank_6 : decode cX6_flattestRank 6 = .ok (.istore_n 3, 1) := by decide +kernel
theorem dX6_flattestRank_7 : decode cX6_flattestRank 7 = .ok (.iload_n 3, 1) := by decide +kernel
theorem dX6_flattestRank_8 : decode cX6_flattestRank 8 = .ok (.aload_n 0, 1) := by decide +kernel
theorem dX6_flattestRank_9 : decode cX6_flattestRank 9 = .ok (.getfield 34, 3) := by decide +kernel
theorem dX6_flattestRank_12 : decode cX6_flattestRank 12 = .ok (.if_icmp .ge 46, 3) := by decide +kernel
theorem dX6_flattestRank_15 : decode cX6_flattestRank 15 = .ok (.aload_n 0, 1) := by decide +kernel
theorem dX6_flattestRank_16 : decode cX6_flattestRank 16 = .ok (.getfield 45, 3) := by decide +kernel
theorem dX6_flattestRank_19 : decode cX6_flattestRank 19 = .ok (.aload_n 0, 1) := by decide +kernel
theorem dX6_flattestRank_20 : decode cX6_flattestRank 20 = .ok (.getfield 12, 3) := by decide +kernel
theorem dX6_flattestRank_23 : decode cX6_flattestRank 23 = .ok (.aload_n 0, 1) := by decide +kernel
theorem dX6_flattestRank_24 : decode cX6_flattestRank 24 = .ok (.iload_n 3, 1) := by decide +kernel
theorem dX6_flattestRank_25 : decode cX6_flattestRank 25 = .ok (.invokevirtual 288, 3) := by decide +kernel
theorem dX6_flattestRank_28 : decode cX6_flattestRank 28 = .ok (.invokevirtual 291, 3) := by decide +kernel
theorem dX6_flattestRank_31 : decode cX6_flattestRank 31 = .ok (.aload_n 0, 1) := by decide +kernel
theorem dX6_flattestRank_32 : decode cX6_flattestRank 32 = .ok (.getfield 45, 3) := by decide +kernel
theorem dX6_flattestRank_35 : decode cX6_flattestRank 35 = .ok (.invokevirtual 136, 3) := by decide +kernel
theorem dX6_flattestRank_38 : decode cX6_flattestRank 38 = .ok (.iload_n 2, 1) := by decide +kernel
theorem dX6_flattestRank_39 : decode cX6_flattestRank 39 = .ok (.if_icmp .ge 13, 3) := by decide +kernel
theorem dX6_flattestRank_42 : decode cX6_flattestRank 42 = .ok (.aload_n 0, 1) := by decide +kernel
theorem dX6_flattestRank_43 : decode cX6_flattestRank 43 = .ok (.getfield 45, 3) := by decide +kernel
theorem dX6_flattestRank_46 : decode cX6_flattestRank 46 = .ok (.invokevirtual 136, 3) := by decide +kernel
theorem dX6_flattestRank_49 : decode cX6_flattestRank 49 = .ok (.istore_n 2, 1) := by decide +kernel
theorem dX6_flattestRank_50 : decode cX6_flattestRank 50 = .ok (.iload_n 3, 1) := by decide +kernel
theorem dX6_flattestRank_51 : decode cX6_flattestRank 51 = .ok (.istore_n 1, 1) := by decide +kernel
theorem dX6_flattestRank_52 : decode cX6_flattestRank 52 = .ok (.iinc 3 1, 3) := by decide +kernel
theorem dX6_flattestRank_55 : decode cX6_flattestRank 55 = .ok (.goto (-48), 3) := by decide +kernel
theorem dX6_flattestRank_58 : decode cX6_flattestRank 58 = .ok (.iload_n 1, 1) := by decide +kernel
theorem dX6_flattestRank_59 : decode cX6_flattestRank 59 = .ok (.ireturn, 1) := by decide +kernel
theorem dX6_pushCode_0 : decode cX6_pushCode 0 = .ok (.aload_n 0, 1) := by decide +kernel
theorem dX6_pushCode_1 : decode cX6_pushCode 1 = .ok (.getfield 76, 3) := by decide +kernel
theorem dX6_pushCode_4 : decode cX6_pushCode 4 = .ok (.aload_n 0, 1) := by decide +kernel
theorem dX6_pushCode_5 : decode cX6_pushCode 5 = .ok (.getfield 73, 3) := by decide +kernel
theorem dX6_pushCode_8 : decode cX6_pushCode 8 = .ok (.arraylength, 1) := by decide +kernel
theorem dX6_pushCode_9 : decode cX6_pushCode 9 = .ok (.if_icmp .ge 23, 3) := by decide +kernel
theorem dX6_pushCode_12 : decode cX6_pushCode 12 = .ok (.aload_n 0, 1) := by decide +kernel
theorem dX6_pushCode_13 : decode cX6_pushCode 13 = .ok (.getfield 73, 3) := by decide +kernel
theorem dX6_pushCode_16 : decode cX6_pushCode 16 = .ok (.aload_n 0, 1) := by decide +kernel
theorem dX6_pushCode_17 : decode cX6_pushCode 17 = .ok (.getfield 76, 3) := by decide +kernel
theorem dX6_pushCode_20 : decode cX6_pushCode 20 = .ok (.iload_n 1, 1) := by decide +kernel
theorem dX6_pushCode_21 : decode cX6_pushCode 21 = .ok (.iastore, 1) := by decide +kernel
theorem dX6_pushCode_22 : decode cX6_pushCode 22 = .ok (.aload_n 0, 1) := by decide +kernel
theorem dX6_pushCode_23 : decode cX6_pushCode 23 = .ok (.dup, 1) := by decide +kernel
theorem dX6_pushCode_24 : decode cX6_pushCode 24 = .ok (.getfield 76, 3) := by decide +kernel
theorem dX6_pushCode_27 : decode cX6_pushCode 27 = .ok (.iconst 1, 1) := by decide +kernel
theorem dX6_pushCode_28 : decode cX6_pushCode 28 = .ok (.iadd, 1) := by decide +kernel
theorem dX6_pushCode_29 : decode cX6_pushCode 29 = .ok (.putfield 76, 3) := by decide +kernel
theorem dX6_pushCode_32 : decode cX6_pushCode 32 = .ok (.return_, 1) := by decide +kernel
theorem dX6_codeAt_0 : decode cX6_codeAt 0 = .ok (.iload_n 1, 1) := by decide +kernel
theorem dX6_codeAt_1 : decode cX6_codeAt 1 = .ok (.ifCond .lt 21, 3) := by decide +kernel
theorem dX6_codeAt_4 : decode cX6_codeAt 4 = .ok (.iload_n 1, 1) := by decide +kernel
theorem dX6_codeAt_5 : decode cX6_codeAt 5 = .ok (.aload_n 0, 1) := by decide +kernel
theorem dX6_codeAt_6 : decode cX6_codeAt 6 = .ok (.getfield 73, 3) := by decide +kernel
theorem dX6_codeAt_9 : decode cX6_codeAt 9 = .ok (.arraylength, 1) := by decide +kernel
theorem dX6_codeAt_10 : decode cX6_codeAt 10 = .ok (.if_icmp .ge 12, 3) := by decide +kernel
theorem dX6_codeAt_13 : decode cX6_codeAt 13 = .ok (.aload_n 0, 1) := by decide +kernel
theorem dX6_codeAt_14 : decode cX6_codeAt 14 = .ok (.getfield 73, 3) := by decide +kernel
theorem dX6_codeAt_17 : decode cX6_codeAt 17 = .ok (.iload_n 1, 1) := by decide +kernel
theorem dX6_codeAt_18 : decode cX6_codeAt 18 = .ok (.iaload, 1) := by decide +kernel
theorem dX6_codeAt_19 : decode cX6_codeAt 19 = .ok (.goto 4, 3) := by decide +kernel
theorem dX6_codeAt_22 : decode cX6_codeAt 22 = .ok (.iconst 0, 1) := by decide +kernel
theorem dX6_codeAt_23 : decode cX6_codeAt 23 = .ok (.ireturn, 1) := by decide +kernel
theorem dX6_errorIndex_0 : decode cX6_errorIndex 0 = .ok (.iconst 0, 1) := by decide +kernel
theorem dX6_errorIndex_1 : decode cX6_errorIndex 1 = .ok (.istore_n 1, 1) := by decide +kernel
theorem dX6_errorIndex_2 : decode cX6_errorIndex 2 = .ok (.iload_n 1, 1) := by decide +kernel
theorem dX6_errorIndex_3 : decode cX6_errorIndex 3 = .ok (.aload_n 0, 1) := by decide +kernel
theorem dX6_errorIndex_4 : decode cX6_errorIndex 4 = .ok (.getfield 76, 3) := by decide +kernel
theorem dX6_errorIndex_7 : decode cX6_errorIndex 7 = .ok (.if_icmp .ge 29, 3) := by decide +kernel
theorem dX6_errorIndex_10 : decode cX6_errorIndex 10 = .ok (.iload_n 1, 1) := by decide +kernel
theorem dX6_errorIndex_11 : decode cX6_errorIndex 11 = .ok (.bipush 12, 2) := by decide +kernel
theorem dX6_errorIndex_13 : decode cX6_errorIndex 13 = .ok (.if_icmp .ge 15, 3) := by decide +kernel
theorem dX6_errorIndex_16 : decode cX6_errorIndex 16 = .ok (.aload_n 0, 1) := by decide +kernel
theorem dX6_errorIndex_17 : decode cX6_errorIndex 17 = .ok (.iload_n 1, 1) := by decide +kernel
theorem dX6_errorIndex_18 : decode cX6_errorIndex 18 = .ok (.invokevirtual 162, 3) := by decide +kernel
theorem dX6_errorIndex_21 : decode cX6_errorIndex 21 = .ok (.invokestatic 166, 3) := by decide +kernel
theorem dX6_errorIndex_24 : decode cX6_errorIndex 24 = .ok (.iconst (-1), 1) := by decide +kernel
theorem dX6_errorIndex_25 : decode cX6_errorIndex 25 = .ok (.if_icmp .ne 5, 3) := by decide +kernel
theorem dX6_errorIndex_28 : decode cX6_errorIndex 28 = .ok (.iload_n 1, 1) := by decide +kernel
theorem dX6_errorIndex_29 : decode cX6_errorIndex 29 = .ok (.ireturn, 1) := by decide +kernel
theorem dX6_errorIndex_30 : decode cX6_errorIndex 30 = .ok (.iinc 1 1, 3) := by decide +kernel
theorem dX6_errorIndex_33 : decode cX6_errorIndex 33 = .ok (.goto (-31), 3) := by decide +kernel
theorem dX6_errorIndex_36 : decode cX6_errorIndex 36 = .ok (.aload_n 0, 1) := by decide +kernel
theorem dX6_errorIndex_37 : decode cX6_errorIndex 37 = .ok (.getfield 76, 3) := by decide +kernel
theorem dX6_errorIndex_40 : decode cX6_errorIndex 40 = .ok (.ireturn, 1) := by decide +kernel
theorem dX6_kindOfLetter_0 : decode cX6_kindOfLetter 0 = .ok (.iconst 0, 1) := by decide +kernel
theorem dX6_kindOfLetter_1 : decode cX6_kindOfLetter 1 = .ok (.istore_n 1, 1) := by decide +kernel
theorem dX6_kindOfLetter_2 : decode cX6_kindOfLetter 2 = .ok (.iload_n 1, 1) := by decide +kernel
theorem dX6_kindOfLetter_3 : decode cX6_kindOfLetter 3 = .ok (.ldc_w 305, 3) := by decide +kernel
theorem dX6_kindOfLetter_6 : decode cX6_kindOfLetter 6 = .ok (.invokevirtual 307, 3) := by decide +kernel
theorem dX6_kindOfLetter_9 : decode cX6_kindOfLetter 9 = .ok (.if_icmp .ge 22, 3) := by decide +kernel
theorem dX6_kindOfLetter_12 : decode cX6_kindOfLetter 12 = .ok (.ldc_w 305, 3) := by decide +kernel
theorem dX6_kindOfLetter_15 : decode cX6_kindOfLetter 15 = .ok (.iload_n 1, 1) := by decide +kernel
theorem dX6_kindOfLetter_16 : decode cX6_kindOfLetter 16 = .ok (.invokevirtual 312, 3) := by decide +kernel
theorem dX6_kindOfLetter_19 : decode cX6_kindOfLetter 19 = .ok (.iload_n 0, 1) := by decide +kernel
theorem dX6_kindOfLetter_20 : decode cX6_kindOfLetter 20 = .ok (.if_icmp .ne 5, 3) := by decide +kernel
theorem dX6_kindOfLetter_23 : decode cX6_kindOfLetter 23 = .ok (.iload_n 1, 1) := by decide +kernel
theorem dX6_kindOfLetter_24 : decode cX6_kindOfLetter 24 = .ok (.ireturn, 1) := by decide +kernel
theorem dX6_kindOfLetter_25 : decode cX6_kindOfLetter 25 = .ok (.iinc 1 1, 3) := by decide +kernel
theorem dX6_kindOfLetter_28 : decode cX6_kindOfLetter 28 = .ok (.goto (-26), 3) := by decide +kernel
theorem dX6_kindOfLetter_31 : decode cX6_kindOfLetter 31 = .ok (.iconst (-1), 1) := by decide +kernel
theorem dX6_kindOfLetter_32 : decode cX6_kindOfLetter 32 = .ok (.ireturn, 1) := by decide +kernel
theorem dX6_letterOfKind_0 : decode cX6_letterOfKind 0 = .ok (.iload_n 0, 1) := by decide +kernel
theorem dX6_letterOfKind_1 : decode cX6_letterOfKind 1 = .ok (.ifCond .lt 23, 3) := by decide +kernel
theorem dX6_letterOfKind_4 : decode cX6_letterOfKind 4 = .ok (.iload_n 0, 1) := by decide +kernel
theorem dX6_letterOfKind_5 : decode cX6_letterOfKind 5 = .ok (.ldc_w 305, 3) := by decide +kernel
theorem dX6_letterOfKind_8 : decode cX6_letterOfKind 8 = .ok (.invokevirtual 307, 3) := by decide +kernel
theorem dX6_letterOfKind_11 : decode cX6_letterOfKind 11 = .ok (.if_icmp .ge 13, 3) := by decide +kernel
theorem dX6_letterOfKind_14 : decode cX6_letterOfKind 14 = .ok (.ldc_w 305, 3) := by decide +kernel
theorem dX6_letterOfKind_17 : decode cX6_letterOfKind 17 = .ok (.iload_n 0, 1) := by decide +kernel
theorem dX6_letterOfKind_18 : decode cX6_letterOfKind 18 = .ok (.invokevirtual 312, 3) := by decide +kernel
theorem dX6_letterOfKind_21 : decode cX6_letterOfKind 21 = .ok (.goto 4, 3) := by decide +kernel
theorem dX6_letterOfKind_24 : decode cX6_letterOfKind 24 = .ok (.iconst 0, 1) := by decide +kernel
theorem dX6_letterOfKind_25 : decode cX6_letterOfKind 25 = .ok (.ireturn, 1) := by decide +kernel
theorem dX6_wordProperty_0 : decode cX6_wordProperty 0 = .ok (.iload_n 2, 1) := by decide +kernel
theorem dX6_wordProperty_1 : decode cX6_wordProperty 1 = .ok (.lookupswitch 69 #[(0, 35), (6, 44), (7, 63)], 35) := by decide +kernel
theorem dX6_wordProperty_36 : decode cX6_wordProperty 36 = .ok (.aload_n 0, 1) := by decide +kernel
theorem dX6_wordProperty_37 : decode cX6_wordProperty 37 = .ok (.getfield 12, 3) := by decide +kernel
theorem dX6_wordProperty_40 : decode cX6_wordProperty 40 = .ok (.iload_n 1, 1) := by decide +kernel
theorem dX6_wordProperty_41 : decode cX6_wordProperty 41 = .ok (.invokevirtual 174, 3) := by decide +kernel
theorem dX6_wordProperty_44 : decode cX6_wordProperty 44 = .ok (.ireturn, 1) := by decide +kernel
theorem dX6_wordProperty_45 : decode cX6_wordProperty 45 = .ok (.aload_n 0, 1) := by decide +kernel
theorem dX6_wordProperty_46 : decode cX6_wordProperty 46 = .ok (.getfield 12, 3) := by decide +kernel
theorem dX6_wordProperty_49 : decode cX6_wordProperty 49 = .ok (.iload_n 1, 1) := by decide +kernel
theorem dX6_wordProperty_50 : decode cX6_wordProperty 50 = .ok (.invokevirtual 295, 3) := by decide +kernel
theorem dX6_wordProperty_53 : decode cX6_wordProperty 53 = .ok (.bipush (-2), 2) := by decide +kernel
theorem dX6_wordProperty_55 : decode cX6_wordProperty 55 = .ok (.if_icmp .ne 7, 3) := by decide +kernel
theorem dX6_wordProperty_58 : decode cX6_wordProperty 58 = .ok (.iconst 0, 1) := by decide +kernel
theorem dX6_wordProperty_59 : decode cX6_wordProperty 59 = .ok (.goto 4, 3) := by decide +kernel
theorem dX6_wordProperty_62 : decode cX6_wordProperty 62 = .ok (.iconst 1, 1) := by decide +kernel
theorem dX6_wordProperty_63 : decode cX6_wordProperty 63 = .ok (.ireturn, 1) := by decide +kernel
theorem dX6_wordProperty_64 : decode cX6_wordProperty 64 = .ok (.aload_n 0, 1) := by decide +kernel
theorem dX6_wordProperty_65 : decode cX6_wordProperty 65 = .ok (.iload_n 1, 1) := by decide +kernel
theorem dX6_wordProperty_66 : decode cX6_wordProperty 66 = .ok (.invokevirtual 316, 3) := by decide +kernel
theorem dX6_wordProperty_69 : decode cX6_wordProperty 69 = .ok (.ireturn, 1) := by decide +kernel
theorem dX6_wordProperty_70 : decode cX6_wordProperty 70 = .ok (.aload_n 0, 1) := by decide +kernel
theorem dX6_wordProperty_71 : decode cX6_wordProperty 71 = .ok (.getfield 34, 3) := by decide +kernel
theorem dX6_wordProperty_74 : decode cX6_wordProperty 74 = .ok (.ifCond .ne 7, 3) := by decide +kernel
theorem dX6_wordProperty_77 : decode cX6_wordProperty 77 = .ok (.iconst (-1), 1) := by decide +kernel
theorem dX6_wordProperty_78 : decode cX6_wordProperty 78 = .ok (.goto 12, 3) := by decide +kernel
theorem dX6_wordProperty_81 : decode cX6_wordProperty 81 = .ok (.aload_n 0, 1) := by decide +kernel
theorem dX6_wordProperty_82 : decode cX6_wordProperty 82 = .ok (.getfield 41, 3) := by decide +kernel
theorem dX6_wordProperty_85 : decode cX6_wordProperty 85 = .ok (.iload_n 1, 1) := by decide +kernel
theorem dX6_wordProperty_86 : decode cX6_wordProperty 86 = .ok (.iload_n 2, 1) := by decide +kernel
theorem dX6_wordProperty_87 : decode cX6_wordProperty 87 = .ok (.invokevirtual 319, 3) := by decide +kernel
theorem dX6_wordProperty_90 : decode cX6_wordProperty 90 = .ok (.ireturn, 1) := by decide +kernel
theorem dX6_readingProperty_0 : decode cX6_readingProperty 0 = .ok (.aload_n 0, 1) := by decide +kernel
theorem dX6_readingProperty_1 : decode cX6_readingProperty 1 = .ok (.getfield 45, 3) := by decide +kernel
theorem dX6_readingProperty_4 : decode cX6_readingProperty 4 = .ok (.aload_n 0, 1) := by decide +kernel
theorem dX6_readingProperty_5 : decode cX6_readingProperty 5 = .ok (.getfield 12, 3) := by decide +kernel
theorem dX6_readingProperty_8 : decode cX6_readingProperty 8 = .ok (.aload_n 0, 1) := by decide +kernel
theorem dX6_readingProperty_9 : decode cX6_readingProperty 9 = .ok (.iload_n 1, 1) := by decide +kernel
theorem dX6_readingProperty_10 : decode cX6_readingProperty 10 = .ok (.invokevirtual 288, 3) := by decide +kernel
theorem dX6_readingProperty_13 : decode cX6_readingProperty 13 = .ok (.invokevirtual 291, 3) := by decide +kernel
theorem dX6_readingProperty_16 : decode cX6_readingProperty 16 = .ok (.iload_n 2, 1) := by decide +kernel
theorem dX6_readingProperty_17 : decode cX6_readingProperty 17 = .ok (.tableswitch 78 0 4 #[35, 43, 52, 61, 70], 35) := by decide +kernel
theorem dX6_readingProperty_52 : decode cX6_readingProperty 52 = .ok (.aload_n 0, 1) := by decide +kernel
theorem dX6_readingProperty_53 : decode cX6_readingProperty 53 = .ok (.getfield 45, 3) := by decide +kernel
theorem dX6_readingProperty_56 : decode cX6_readingProperty 56 = .ok (.invokevirtual 136, 3) := by decide +kernel
theorem dX6_readingProperty_59 : decode cX6_readingProperty 59 = .ok (.ireturn, 1) := by decide +kernel
theorem dX6_readingProperty_60 : decode cX6_readingProperty 60 = .ok (.aload_n 0, 1) := by decide +kernel
theorem dX6_readingProperty_61 : decode cX6_readingProperty 61 = .ok (.getfield 45, 3) := by decide +kernel
theorem dX6_readingProperty_64 : decode cX6_readingProperty 64 = .ok (.iconst 1, 1) := by decide +kernel
theorem dX6_readingProperty_65 : decode cX6_readingProperty 65 = .ok (.invokevirtual 322, 3) := by decide +kernel
theorem dX6_readingProperty_68 : decode cX6_readingProperty 68 = .ok (.ireturn, 1) := by decide +kernel
theorem dX6_readingProperty_69 : decode cX6_readingProperty 69 = .ok (.aload_n 0, 1) := by decide +kernel
theorem dX6_readingProperty_70 : decode cX6_readingProperty 70 = .ok (.getfield 45, 3) := by decide +kernel
theorem dX6_readingProperty_73 : decode cX6_readingProperty 73 = .ok (.iconst 3, 1) := by decide +kernel
theorem dX6_readingProperty_74 : decode cX6_readingProperty 74 = .ok (.invokevirtual 325, 3) := by decide +kernel
theorem dX6_readingProperty_77 : decode cX6_readingProperty 77 = .ok (.ireturn, 1) := by decide +kernel
theorem dX6_readingProperty_78 : decode cX6_readingProperty 78 = .ok (.aload_n 0, 1) := by decide +kernel
theorem dX6_readingProperty_79 : decode cX6_readingProperty 79 = .ok (.getfield 45, 3) := by decide +kernel
theorem dX6_readingProperty_82 : decode cX6_readingProperty 82 = .ok (.iconst 5, 1) := by decide +kernel
theorem dX6_readingProperty_83 : decode cX6_readingProperty 83 = .ok (.invokevirtual 322, 3) := by decide +kernel
theorem dX6_readingProperty_86 : decode cX6_readingProperty 86 = .ok (.ireturn, 1) := by decide +kernel
theorem dX6_readingProperty_87 : decode cX6_readingProperty 87 = .ok (.aload_n 0, 1) := by decide +kernel
theorem dX6_readingProperty_88 : decode cX6_readingProperty 88 = .ok (.getfield 45, 3) := by decide +kernel
theorem dX6_readingProperty_91 : decode cX6_readingProperty 91 = .ok (.invokevirtual 328, 3) := by decide +kernel
theorem dX6_readingProperty_94 : decode cX6_readingProperty 94 = .ok (.ireturn, 1) := by decide +kernel
theorem dX6_readingProperty_95 : decode cX6_readingProperty 95 = .ok (.aload_n 0, 1) := by decide +kernel
theorem dX6_readingProperty_96 : decode cX6_readingProperty 96 = .ok (.iload_n 1, 1) := by decide +kernel
theorem dX6_readingProperty_97 : decode cX6_readingProperty 97 = .ok (.invokevirtual 302, 3) := by decide +kernel
theorem dX6_readingProperty_100 : decode cX6_readingProperty 100 = .ok (.ireturn, 1) := by decide +kernel
theorem dX6_number_0 : decode cX6_number 0 = .ok (.iload_n 1, 1) := by decide +kernel
theorem dX6_number_1 : decode cX6_number 1 = .ok (.tableswitch 136 0 7 #[47, 55, 63, 80, 85, 104, 112, 117], 47) := by decide +kernel
theorem dX6_number_48 : decode cX6_number 48 = .ok (.aload_n 0, 1) := by decide +kernel
theorem dX6_number_49 : decode cX6_number 49 = .ok (.getfield 12, 3) := by decide +kernel
theorem dX6_number_52 : decode cX6_number 52 = .ok (.invokevirtual 82, 3) := by decide +kernel
theorem dX6_number_55 : decode cX6_number 55 = .ok (.ireturn, 1) := by decide +kernel
theorem dX6_number_56 : decode cX6_number 56 = .ok (.aload_n 0, 1) := by decide +kernel
theorem dX6_number_57 : decode cX6_number 57 = .ok (.getfield 19, 3) := by decide +kernel
theorem dX6_number_60 : decode cX6_number 60 = .ok (.invokevirtual 268, 3) := by decide +kernel
theorem dX6_number_63 : decode cX6_number 63 = .ok (.ireturn, 1) := by decide +kernel
theorem dX6_number_64 : decode cX6_number 64 = .ok (.aload_n 0, 1) := by decide +kernel
theorem dX6_number_65 : decode cX6_number 65 = .ok (.getfield 26, 3) := by decide +kernel
theorem dX6_number_68 : decode cX6_number 68 = .ok (.iconst 0, 1) := by decide +kernel
theorem dX6_number_69 : decode cX6_number 69 = .ok (.aload_n 0, 1) := by decide +kernel
theorem dX6_number_70 : decode cX6_number 70 = .ok (.getfield 12, 3) := by decide +kernel
theorem dX6_number_73 : decode cX6_number 73 = .ok (.invokevirtual 82, 3) := by decide +kernel
theorem dX6_number_76 : decode cX6_number 76 = .ok (.iconst 3, 1) := by decide +kernel
theorem dX6_number_77 : decode cX6_number 77 = .ok (.invokevirtual 214, 3) := by decide +kernel
theorem dX6_number_80 : decode cX6_number 80 = .ok (.ireturn, 1) := by decide +kernel
theorem dX6_number_81 : decode cX6_number 81 = .ok (.aload_n 0, 1) := by decide +kernel
theorem dX6_number_82 : decode cX6_number 82 = .ok (.getfield 34, 3) := by decide +kernel
theorem dX6_number_85 : decode cX6_number 85 = .ok (.ireturn, 1) := by decide +kernel
theorem dX6_number_86 : decode cX6_number 86 = .ok (.aload_n 0, 1) := by decide +kernel
theorem dX6_number_87 : decode cX6_number 87 = .ok (.getfield 34, 3) := by decide +kernel
theorem dX6_number_90 : decode cX6_number 90 = .ok (.ifCond .ne 7, 3) := by decide +kernel
theorem dX6_number_93 : decode cX6_number 93 = .ok (.iconst (-1), 1) := by decide +kernel
theorem dX6_number_94 : decode cX6_number 94 = .ok (.goto 10, 3) := by decide +kernel
theorem dX6_number_97 : decode cX6_number 97 = .ok (.aload_n 0, 1) := by decide +kernel
theorem dX6_number_98 : decode cX6_number 98 = .ok (.getfield 12, 3) := by decide +kernel
theorem dX6_number_101 : decode cX6_number 101 = .ok (.invokevirtual 286, 3) := by decide +kernel
theorem dX6_number_104 : decode cX6_number 104 = .ok (.ireturn, 1) := by decide +kernel
theorem dX6_number_105 : decode cX6_number 105 = .ok (.aload_n 0, 1) := by decide +kernel
theorem dX6_number_106 : decode cX6_number 106 = .ok (.getfield 12, 3) := by decide +kernel
theorem dX6_number_109 : decode cX6_number 109 = .ok (.invokevirtual 331, 3) := by decide +kernel
theorem dX6_number_112 : decode cX6_number 112 = .ok (.ireturn, 1) := by decide +kernel
theorem dX6_number_113 : decode cX6_number 113 = .ok (.aload_n 0, 1) := by decide +kernel
theorem dX6_number_114 : decode cX6_number 114 = .ok (.invokevirtual 334, 3) := by decide +kernel
theorem dX6_number_117 : decode cX6_number 117 = .ok (.ireturn, 1) := by decide +kernel
theorem dX6_number_118 : decode cX6_number 118 = .ok (.aload_n 0, 1) := by decide +kernel
theorem dX6_number_119 : decode cX6_number 119 = .ok (.getfield 34, 3) := by decide +kernel
theorem dX6_number_122 : decode cX6_number 122 = .ok (.ifCond .ne 7, 3) := by decide +kernel
theorem dX6_number_125 : decode cX6_number 125 = .ok (.iconst 0, 1) := by decide +kernel
theorem dX6_number_126 : decode cX6_number 126 = .ok (.goto 10, 3) := by decide +kernel
theorem dX6_number_129 : decode cX6_number 129 = .ok (.aload_n 0, 1) := by decide +kernel
theorem dX6_number_130 : decode cX6_number 130 = .ok (.getfield 41, 3) := by decide +kernel
theorem dX6_number_133 : decode cX6_number 133 = .ok (.invokevirtual 136, 3) := by decide +kernel
theorem dX6_number_136 : decode cX6_number 136 = .ok (.ireturn, 1) := by decide +kernel
theorem dX6_number_137 : decode cX6_number 137 = .ok (.aload_n 0, 1) := by decide +kernel
theorem dX6_number_138 : decode cX6_number 138 = .ok (.getfield 63, 3) := by decide +kernel
theorem dX6_number_141 : decode cX6_number 141 = .ok (.ireturn, 1) := by decide +kernel
theorem dX6_leftIf_0 : decode cX6_leftIf 0 = .ok (.iconst 0, 1) := by decide +kernel
theorem dX6_leftIf_1 : decode cX6_leftIf 1 = .ok (.istore_n 3, 1) := by decide +kernel
theorem dX6_leftIf_2 : decode cX6_leftIf 2 = .ok (.iconst 0, 1) := by decide +kernel
theorem dX6_leftIf_3 : decode cX6_leftIf 3 = .ok (.istore 4, 2) := by decide +kernel
theorem dX6_leftIf_5 : decode cX6_leftIf 5 = .ok (.iload 4, 2) := by decide +kernel
theorem dX6_leftIf_7 : decode cX6_leftIf 7 = .ok (.aload_n 0, 1) := by decide +kernel
theorem dX6_leftIf_8 : decode cX6_leftIf 8 = .ok (.getfield 19, 3) := by decide +kernel
theorem dX6_leftIf_11 : decode cX6_leftIf 11 = .ok (.invokevirtual 268, 3) := by decide +kernel
theorem dX6_leftIf_14 : decode cX6_leftIf 14 = .ok (.if_icmp .ge 43, 3) := by decide +kernel
theorem dX6_leftIf_17 : decode cX6_leftIf 17 = .ok (.aload_n 0, 1) := by decide +kernel
theorem dX6_leftIf_18 : decode cX6_leftIf 18 = .ok (.getfield 19, 3) := by decide +kernel
theorem dX6_leftIf_21 : decode cX6_leftIf 21 = .ok (.iload 4, 2) := by decide +kernel
theorem dX6_leftIf_23 : decode cX6_leftIf 23 = .ok (.invokevirtual 279, 3) := by decide +kernel
theorem dX6_leftIf_26 : decode cX6_leftIf 26 = .ok (.lstore 5, 2) := by decide +kernel
theorem dX6_leftIf_28 : decode cX6_leftIf 28 = .ok (.lload 5, 2) := by decide +kernel
theorem dX6_leftIf_30 : decode cX6_leftIf 30 = .ok (.iload_n 1, 1) := by decide +kernel
theorem dX6_leftIf_31 : decode cX6_leftIf 31 = .ok (.invokestatic 298, 3) := by decide +kernel
theorem dX6_leftIf_34 : decode cX6_leftIf 34 = .ok (.iload_n 2, 1) := by decide +kernel
theorem dX6_leftIf_35 : decode cX6_leftIf 35 = .ok (.if_icmp .ne 16, 3) := by decide +kernel
theorem dX6_leftIf_38 : decode cX6_leftIf 38 = .ok (.aload_n 0, 1) := by decide +kernel
theorem dX6_leftIf_39 : decode cX6_leftIf 39 = .ok (.lload 5, 2) := by decide +kernel
theorem dX6_leftIf_41 : decode cX6_leftIf 41 = .ok (.iload_n 1, 1) := by decide +kernel
theorem dX6_leftIf_42 : decode cX6_leftIf 42 = .ok (.invokevirtual 282, 3) := by decide +kernel
theorem dX6_leftIf_45 : decode cX6_leftIf 45 = .ok (.ifCond .eq 6, 3) := by decide +kernel
theorem dX6_leftIf_48 : decode cX6_leftIf 48 = .ok (.iinc 3 1, 3) := by decide +kernel
theorem dX6_leftIf_51 : decode cX6_leftIf 51 = .ok (.iinc 4 1, 3) := by decide +kernel
theorem dX6_leftIf_54 : decode cX6_leftIf 54 = .ok (.goto (-49), 3) := by decide +kernel
theorem dX6_leftIf_57 : decode cX6_leftIf 57 = .ok (.iload_n 3, 1) := by decide +kernel
theorem dX6_leftIf_58 : decode cX6_leftIf 58 = .ok (.ireturn, 1) := by decide +kernel
theorem dX6_headsLeft_0 : decode cX6_headsLeft 0 = .ok (.iconst 0, 1) := by decide +kernel
theorem dX6_headsLeft_1 : decode cX6_headsLeft 1 = .ok (.istore_n 2, 1) := by decide +kernel
theorem dX6_headsLeft_2 : decode cX6_headsLeft 2 = .ok (.iconst 0, 1) := by decide +kernel
theorem dX6_headsLeft_3 : decode cX6_headsLeft 3 = .ok (.istore_n 3, 1) := by decide +kernel
theorem dX6_headsLeft_4 : decode cX6_headsLeft 4 = .ok (.iload_n 3, 1) := by decide +kernel
theorem dX6_headsLeft_5 : decode cX6_headsLeft 5 = .ok (.aload_n 0, 1) := by decide +kernel
theorem dX6_headsLeft_6 : decode cX6_headsLeft 6 = .ok (.getfield 34, 3) := by decide +kernel
theorem dX6_headsLeft_9 : decode cX6_headsLeft 9 = .ok (.if_icmp .ge 25, 3) := by decide +kernel
theorem dX6_headsLeft_12 : decode cX6_headsLeft 12 = .ok (.iload_n 2, 1) := by decide +kernel
theorem dX6_headsLeft_13 : decode cX6_headsLeft 13 = .ok (.iconst 1, 1) := by decide +kernel
theorem dX6_headsLeft_14 : decode cX6_headsLeft 14 = .ok (.aload_n 0, 1) := by decide +kernel
theorem dX6_headsLeft_15 : decode cX6_headsLeft 15 = .ok (.iload_n 3, 1) := by decide +kernel
theorem dX6_headsLeft_16 : decode cX6_headsLeft 16 = .ok (.invokevirtual 288, 3) := by decide +kernel
theorem dX6_headsLeft_19 : decode cX6_headsLeft 19 = .ok (.iload_n 1, 1) := by decide +kernel
theorem dX6_headsLeft_20 : decode cX6_headsLeft 20 = .ok (.invokestatic 298, 3) := by decide +kernel
theorem dX6_headsLeft_23 : decode cX6_headsLeft 23 = .ok (.iconst 1, 1) := by decide +kernel
theorem dX6_headsLeft_24 : decode cX6_headsLeft 24 = .ok (.iadd, 1) := by decide +kernel
theorem dX6_headsLeft_25 : decode cX6_headsLeft 25 = .ok (.ishl, 1) := by decide +kernel
theorem dX6_headsLeft_26 : decode cX6_headsLeft 26 = .ok (.ior, 1) := by decide +kernel
theorem dX6_headsLeft_27 : decode cX6_headsLeft 27 = .ok (.istore_n 2, 1) := by decide +kernel
theorem dX6_headsLeft_28 : decode cX6_headsLeft 28 = .ok (.iinc 3 1, 3) := by decide +kernel
theorem dX6_headsLeft_31 : decode cX6_headsLeft 31 = .ok (.goto (-27), 3) := by decide +kernel
theorem dX6_headsLeft_34 : decode cX6_headsLeft 34 = .ok (.iload_n 2, 1) := by decide +kernel
theorem dX6_headsLeft_35 : decode cX6_headsLeft 35 = .ok (.invokestatic 337, 3) := by decide +kernel
theorem dX6_headsLeft_38 : decode cX6_headsLeft 38 = .ok (.ireturn, 1) := by decide +kernel
theorem dX6_openWords_0 : decode cX6_openWords 0 = .ok (.iconst 0, 1) := by decide +kernel
theorem dX6_openWords_1 : decode cX6_openWords 1 = .ok (.istore_n 1, 1) := by decide +kernel
theorem dX6_openWords_2 : decode cX6_openWords 2 = .ok (.iconst 0, 1) := by decide +kernel
theorem dX6_openWords_3 : decode cX6_openWords 3 = .ok (.istore_n 2, 1) := by decide +kernel
theorem dX6_openWords_4 : decode cX6_openWords 4 = .ok (.iload_n 2, 1) := by decide +kernel
theorem dX6_openWords_5 : decode cX6_openWords 5 = .ok (.aload_n 0, 1) := by decide +kernel
theorem dX6_openWords_6 : decode cX6_openWords 6 = .ok (.getfield 12, 3) := by decide +kernel
theorem dX6_openWords_9 : decode cX6_openWords 9 = .ok (.invokevirtual 82, 3) := by decide +kernel
theorem dX6_openWords_12 : decode cX6_openWords 12 = .ok (.if_icmp .ge 21, 3) := by decide +kernel
theorem dX6_openWords_15 : decode cX6_openWords 15 = .ok (.aload_n 0, 1) := by decide +kernel
theorem dX6_openWords_16 : decode cX6_openWords 16 = .ok (.iload_n 2, 1) := by decide +kernel
theorem dX6_openWords_17 : decode cX6_openWords 17 = .ok (.invokevirtual 316, 3) := by decide +kernel
theorem dX6_openWords_20 : decode cX6_openWords 20 = .ok (.iconst 1, 1) := by decide +kernel
theorem dX6_openWords_21 : decode cX6_openWords 21 = .ok (.if_icmp .le 6, 3) := by decide +kernel
theorem dX6_openWords_24 : decode cX6_openWords 24 = .ok (.iinc 1 1, 3) := by decide +kernel
theorem dX6_openWords_27 : decode cX6_openWords 27 = .ok (.iinc 2 1, 3) := by decide +kernel
theorem dX6_openWords_30 : decode cX6_openWords 30 = .ok (.goto (-26), 3) := by decide +kernel
theorem dX6_openWords_33 : decode cX6_openWords 33 = .ok (.iload_n 1, 1) := by decide +kernel
theorem dX6_openWords_34 : decode cX6_openWords 34 = .ok (.ireturn, 1) := by decide +kernel
theorem dX6_bestQuestion_0 : decode cX6_bestQuestion 0 = .ok (.iconst (-1), 1) := by decide +kernel
theorem dX6_bestQuestion_1 : decode cX6_bestQuestion 1 = .ok (.istore_n 1, 1) := by decide +kernel
theorem dX6_bestQuestion_2 : decode cX6_bestQuestion 2 = .ok (.bipush 43, 2) := by decide +kernel
theorem dX6_bestQuestion_4 : decode cX6_bestQuestion 4 = .ok (.istore_n 2, 1) := by decide +kernel
theorem dX6_bestQuestion_5 : decode cX6_bestQuestion 5 = .ok (.iconst 0, 1) := by decide +kernel
theorem dX6_bestQuestion_6 : decode cX6_bestQuestion 6 = .ok (.istore_n 3, 1) := by decide +kernel
theorem dX6_bestQuestion_7 : decode cX6_bestQuestion 7 = .ok (.iload_n 3, 1) := by decide +kernel
theorem dX6_bestQuestion_8 : decode cX6_bestQuestion 8 = .ok (.aload_n 0, 1) := by decide +kernel
theorem dX6_bestQuestion_9 : decode cX6_bestQuestion 9 = .ok (.getfield 12, 3) := by decide +kernel
theorem dX6_bestQuestion_12 : decode cX6_bestQuestion 12 = .ok (.invokevirtual 82, 3) := by decide +kernel
theorem dX6_bestQuestion_15 : decode cX6_bestQuestion 15 = .ok (.if_icmp .ge 35, 3) := by decide +kernel
theorem dX6_bestQuestion_18 : decode cX6_bestQuestion 18 = .ok (.aload_n 0, 1) := by decide +kernel
theorem dX6_bestQuestion_19 : decode cX6_bestQuestion 19 = .ok (.iload_n 3, 1) := by decide +kernel
theorem dX6_bestQuestion_20 : decode cX6_bestQuestion 20 = .ok (.invokevirtual 316, 3) := by decide +kernel
theorem dX6_bestQuestion_23 : decode cX6_bestQuestion 23 = .ok (.iconst 1, 1) := by decide +kernel
theorem dX6_bestQuestion_24 : decode cX6_bestQuestion 24 = .ok (.if_icmp .le 20, 3) := by decide +kernel
theorem dX6_bestQuestion_27 : decode cX6_bestQuestion 27 = .ok (.aload_n 0, 1) := by decide +kernel
theorem dX6_bestQuestion_28 : decode cX6_bestQuestion 28 = .ok (.iload_n 3, 1) := by decide +kernel
theorem dX6_bestQuestion_29 : decode cX6_bestQuestion 29 = .ok (.invokevirtual 342, 3) := by decide +kernel
theorem dX6_bestQuestion_32 : decode cX6_bestQuestion 32 = .ok (.iload_n 2, 1) := by decide +kernel
theorem dX6_bestQuestion_33 : decode cX6_bestQuestion 33 = .ok (.if_icmp .ge 11, 3) := by decide +kernel
theorem dX6_bestQuestion_36 : decode cX6_bestQuestion 36 = .ok (.aload_n 0, 1) := by decide +kernel
theorem dX6_bestQuestion_37 : decode cX6_bestQuestion 37 = .ok (.iload_n 3, 1) := by decide +kernel
theorem dX6_bestQuestion_38 : decode cX6_bestQuestion 38 = .ok (.invokevirtual 342, 3) := by decide +kernel
theorem dX6_bestQuestion_41 : decode cX6_bestQuestion 41 = .ok (.istore_n 2, 1) := by decide +kernel
theorem dX6_bestQuestion_42 : decode cX6_bestQuestion 42 = .ok (.iload_n 3, 1) := by decide +kernel
theorem dX6_bestQuestion_43 : decode cX6_bestQuestion 43 = .ok (.istore_n 1, 1) := by decide +kernel
theorem dX6_bestQuestion_44 : decode cX6_bestQuestion 44 = .ok (.iinc 3 1, 3) := by decide +kernel
theorem dX6_bestQuestion_47 : decode cX6_bestQuestion 47 = .ok (.goto (-40), 3) := by decide +kernel
theorem dX6_bestQuestion_50 : decode cX6_bestQuestion 50 = .ok (.iload_n 1, 1) := by decide +kernel
theorem dX6_bestQuestion_51 : decode cX6_bestQuestion 51 = .ok (.ireturn, 1) := by decide +kernel
theorem dX6_mostLeftBehind_0 : decode cX6_mostLeftBehind 0 = .ok (.iconst 0, 1) := by decide +kernel
theorem dX6_mostLeftBehind_1 : decode cX6_mostLeftBehind 1 = .ok (.istore_n 2, 1) := by decide +kernel
theorem dX6_mostLeftBehind_2 : decode cX6_mostLeftBehind 2 = .ok (.iconst (-1), 1) := by decide +kernel
theorem dX6_mostLeftBehind_3 : decode cX6_mostLeftBehind 3 = .ok (.istore_n 3, 1) := by decide +kernel
theorem dX6_mostLeftBehind_4 : decode cX6_mostLeftBehind 4 = .ok (.iload_n 3, 1) := by decide +kernel
theorem dX6_mostLeftBehind_5 : decode cX6_mostLeftBehind 5 = .ok (.aload_n 0, 1) := by decide +kernel
theorem dX6_mostLeftBehind_6 : decode cX6_mostLeftBehind 6 = .ok (.getfield 12, 3) := by decide +kernel
theorem dX6_mostLeftBehind_9 : decode cX6_mostLeftBehind 9 = .ok (.invokevirtual 82, 3) := by decide +kernel
theorem dX6_mostLeftBehind_12 : decode cX6_mostLeftBehind 12 = .ok (.if_icmp .ge 20, 3) := by decide +kernel
theorem dX6_mostLeftBehind_15 : decode cX6_mostLeftBehind 15 = .ok (.iload_n 2, 1) := by decide +kernel
theorem dX6_mostLeftBehind_16 : decode cX6_mostLeftBehind 16 = .ok (.aload_n 0, 1) := by decide +kernel
theorem dX6_mostLeftBehind_17 : decode cX6_mostLeftBehind 17 = .ok (.iload_n 1, 1) := by decide +kernel
theorem dX6_mostLeftBehind_18 : decode cX6_mostLeftBehind 18 = .ok (.iload_n 3, 1) := by decide +kernel
theorem dX6_mostLeftBehind_19 : decode cX6_mostLeftBehind 19 = .ok (.invokevirtual 115, 3) := by decide +kernel
theorem dX6_mostLeftBehind_22 : decode cX6_mostLeftBehind 22 = .ok (.invokestatic 345, 3) := by decide +kernel
theorem dX6_mostLeftBehind_25 : decode cX6_mostLeftBehind 25 = .ok (.istore_n 2, 1) := by decide +kernel
theorem dX6_mostLeftBehind_26 : decode cX6_mostLeftBehind 26 = .ok (.iinc 3 1, 3) := by decide +kernel
theorem dX6_mostLeftBehind_29 : decode cX6_mostLeftBehind 29 = .ok (.goto (-25), 3) := by decide +kernel
theorem dX6_mostLeftBehind_32 : decode cX6_mostLeftBehind 32 = .ok (.iload_n 2, 1) := by decide +kernel
theorem dX6_mostLeftBehind_33 : decode cX6_mostLeftBehind 33 = .ok (.ireturn, 1) := by decide +kernel
theorem dX6_share_0 : decode cX6_share 0 = .ok (.aload_n 0, 1) := by decide +kernel
theorem dX6_share_1 : decode cX6_share 1 = .ok (.getfield 12, 3) := by decide +kernel
theorem dX6_share_4 : decode cX6_share 4 = .ok (.invokevirtual 82, 3) := by decide +kernel
theorem dX6_share_7 : decode cX6_share 7 = .ok (.istore_n 1, 1) := by decide +kernel
theorem dX6_share_8 : decode cX6_share 8 = .ok (.iload_n 1, 1) := by decide +kernel
theorem dX6_share_9 : decode cX6_share 9 = .ok (.ifCond .ne 5, 3) := by decide +kernel
theorem dX6_share_12 : decode cX6_share 12 = .ok (.dconst 1, 1) := by decide +kernel
theorem dX6_share_13 : decode cX6_share 13 = .ok (.dreturn, 1) := by decide +kernel
theorem dX6_share_14 : decode cX6_share 14 = .ok (.iconst 0, 1) := by decide +kernel
theorem dX6_share_15 : decode cX6_share 15 = .ok (.istore_n 2, 1) := by decide +kernel
theorem dX6_share_16 : decode cX6_share 16 = .ok (.iconst 0, 1) := by decide +kernel
theorem dX6_share_17 : decode cX6_share 17 = .ok (.istore_n 3, 1) := by decide +kernel
theorem dX6_share_18 : decode cX6_share 18 = .ok (.iload_n 3, 1) := by decide +kernel
theorem dX6_share_19 : decode cX6_share 19 = .ok (.iload_n 1, 1) := by decide +kernel
theorem dX6_share_20 : decode cX6_share 20 = .ok (.if_icmp .ge 21, 3) := by decide +kernel
theorem dX6_share_23 : decode cX6_share 23 = .ok (.aload_n 0, 1) := by decide +kernel
theorem dX6_share_24 : decode cX6_share 24 = .ok (.iload_n 3, 1) := by decide +kernel
theorem dX6_share_25 : decode cX6_share 25 = .ok (.invokevirtual 316, 3) := by decide +kernel
theorem dX6_share_28 : decode cX6_share 28 = .ok (.iconst 1, 1) := by decide +kernel
theorem dX6_share_29 : decode cX6_share 29 = .ok (.if_icmp .ne 6, 3) := by decide +kernel
theorem dX6_share_32 : decode cX6_share 32 = .ok (.iinc 2 1, 3) := by decide +kernel
theorem dX6_share_35 : decode cX6_share 35 = .ok (.iinc 3 1, 3) := by decide +kernel
theorem dX6_share_38 : decode cX6_share 38 = .ok (.goto (-20), 3) := by decide +kernel
theorem dX6_share_41 : decode cX6_share 41 = .ok (.iload_n 2, 1) := by decide +kernel
theorem dX6_share_42 : decode cX6_share 42 = .ok (.i2d, 1) := by decide +kernel
theorem dX6_share_43 : decode cX6_share 43 = .ok (.iload_n 1, 1) := by decide +kernel
theorem dX6_share_44 : decode cX6_share 44 = .ok (.i2d, 1) := by decide +kernel
theorem dX6_share_45 : decode cX6_share 45 = .ok (.ddiv, 1) := by decide +kernel
theorem dX6_share_46 : decode cX6_share 46 = .ok (.dreturn, 1) := by decide +kernel
theorem dX6_kindsToAdd_0 : decode cX6_kindsToAdd 0 = .ok (.aload_n 0, 1) := by decide +kernel
theorem dX6_kindsToAdd_1 : decode cX6_kindsToAdd 1 = .ok (.getfield 12, 3) := by decide +kernel
theorem dX6_kindsToAdd_4 : decode cX6_kindsToAdd 4 = .ok (.invokevirtual 82, 3) := by decide +kernel
theorem dX6_kindsToAdd_7 : decode cX6_kindsToAdd 7 = .ok (.bipush 12, 2) := by decide +kernel
theorem dX6_kindsToAdd_9 : decode cX6_kindsToAdd 9 = .ok (.if_icmp .lt 5, 3) := by decide +kernel
theorem dX6_kindsToAdd_12 : decode cX6_kindsToAdd 12 = .ok (.iconst 0, 1) := by decide +kernel
theorem dX6_kindsToAdd_13 : decode cX6_kindsToAdd 13 = .ok (.ireturn, 1) := by decide +kernel
theorem dX6_kindsToAdd_14 : decode cX6_kindsToAdd 14 = .ok (.iconst 0, 1) := by decide +kernel
theorem dX6_kindsToAdd_15 : decode cX6_kindsToAdd 15 = .ok (.istore_n 1, 1) := by decide +kernel
theorem dX6_kindsToAdd_16 : decode cX6_kindsToAdd 16 = .ok (.iconst 0, 1) := by decide +kernel
theorem dX6_kindsToAdd_17 : decode cX6_kindsToAdd 17 = .ok (.istore_n 2, 1) := by decide +kernel
theorem dX6_kindsToAdd_18 : decode cX6_kindsToAdd 18 = .ok (.iload_n 2, 1) := by decide +kernel
theorem dX6_kindsToAdd_19 : decode cX6_kindsToAdd 19 = .ok (.bipush 7, 2) := by decide +kernel
theorem dX6_kindsToAdd_21 : decode cX6_kindsToAdd 21 = .ok (.if_icmp .ge 55, 3) := by decide +kernel
theorem dX6_kindsToAdd_24 : decode cX6_kindsToAdd 24 = .ok (.aload_n 0, 1) := by decide +kernel
theorem dX6_kindsToAdd_25 : decode cX6_kindsToAdd 25 = .ok (.getfield 48, 3) := by decide +kernel
theorem dX6_kindsToAdd_28 : decode cX6_kindsToAdd 28 = .ok (.aload_n 0, 1) := by decide +kernel
theorem dX6_kindsToAdd_29 : decode cX6_kindsToAdd 29 = .ok (.getfield 12, 3) := by decide +kernel
theorem dX6_kindsToAdd_32 : decode cX6_kindsToAdd 32 = .ok (.invokevirtual 350, 3) := by decide +kernel
theorem dX6_kindsToAdd_35 : decode cX6_kindsToAdd 35 = .ok (.aload_n 0, 1) := by decide +kernel
theorem dX6_kindsToAdd_36 : decode cX6_kindsToAdd 36 = .ok (.getfield 48, 3) := by decide +kernel
theorem dX6_kindsToAdd_39 : decode cX6_kindsToAdd 39 = .ok (.iload_n 2, 1) := by decide +kernel
theorem dX6_kindsToAdd_40 : decode cX6_kindsToAdd 40 = .ok (.invokevirtual 96, 3) := by decide +kernel
theorem dX6_kindsToAdd_43 : decode cX6_kindsToAdd 43 = .ok (.aload_n 0, 1) := by decide +kernel
theorem dX6_kindsToAdd_44 : decode cX6_kindsToAdd 44 = .ok (.getfield 51, 3) := by decide +kernel
theorem dX6_kindsToAdd_47 : decode cX6_kindsToAdd 47 = .ok (.aload_n 0, 1) := by decide +kernel
theorem dX6_kindsToAdd_48 : decode cX6_kindsToAdd 48 = .ok (.getfield 48, 3) := by decide +kernel
theorem dX6_kindsToAdd_51 : decode cX6_kindsToAdd 51 = .ok (.invokevirtual 274, 3) := by decide +kernel
theorem dX6_kindsToAdd_54 : decode cX6_kindsToAdd 54 = .ok (.aload_n 0, 1) := by decide +kernel
theorem dX6_kindsToAdd_55 : decode cX6_kindsToAdd 55 = .ok (.getfield 51, 3) := by decide +kernel
theorem dX6_kindsToAdd_58 : decode cX6_kindsToAdd 58 = .ok (.invokevirtual 268, 3) := by decide +kernel
theorem dX6_kindsToAdd_61 : decode cX6_kindsToAdd 61 = .ok (.ifCond .le 9, 3) := by decide +kernel
theorem dX6_kindsToAdd_64 : decode cX6_kindsToAdd 64 = .ok (.iload_n 1, 1) := by decide +kernel
theorem dX6_kindsToAdd_65 : decode cX6_kindsToAdd 65 = .ok (.iconst 1, 1) := by decide +kernel
theorem dX6_kindsToAdd_66 : decode cX6_kindsToAdd 66 = .ok (.iload_n 2, 1) := by decide +kernel
theorem dX6_kindsToAdd_67 : decode cX6_kindsToAdd 67 = .ok (.ishl, 1) := by decide +kernel
theorem dX6_kindsToAdd_68 : decode cX6_kindsToAdd 68 = .ok (.ior, 1) := by decide +kernel
theorem dX6_kindsToAdd_69 : decode cX6_kindsToAdd 69 = .ok (.istore_n 1, 1) := by decide +kernel
theorem dX6_kindsToAdd_70 : decode cX6_kindsToAdd 70 = .ok (.iinc 2 1, 3) := by decide +kernel
theorem dX6_kindsToAdd_73 : decode cX6_kindsToAdd 73 = .ok (.goto (-55), 3) := by decide +kernel
theorem dX6_kindsToAdd_76 : decode cX6_kindsToAdd 76 = .ok (.iload_n 1, 1) := by decide +kernel
theorem dX6_kindsToAdd_77 : decode cX6_kindsToAdd 77 = .ok (.ireturn, 1) := by decide +kernel
theorem dX6_digestWords_0 : decode cX6_digestWords 0 = .ok (.lload_n 1, 1) := by decide +kernel
theorem dX6_digestWords_1 : decode cX6_digestWords 1 = .ok (.lstore_n 3, 1) := by decide +kernel
theorem dX6_digestWords_2 : decode cX6_digestWords 2 = .ok (.iconst 0, 1) := by decide +kernel
theorem dX6_digestWords_3 : decode cX6_digestWords 3 = .ok (.istore 5, 2) := by decide +kernel
theorem dX6_digestWords_5 : decode cX6_digestWords 5 = .ok (.iload 5, 2) := by decide +kernel
theorem dX6_digestWords_7 : decode cX6_digestWords 7 = .ok (.aload_n 0, 1) := by decide +kernel
theorem dX6_digestWords_8 : decode cX6_digestWords 8 = .ok (.getfield 12, 3) := by decide +kernel
theorem dX6_digestWords_11 : decode cX6_digestWords 11 = .ok (.invokevirtual 82, 3) := by decide +kernel
theorem dX6_digestWords_14 : decode cX6_digestWords 14 = .ok (.if_icmp .ge 41, 3) := by decide +kernel
theorem dX6_digestWords_17 : decode cX6_digestWords 17 = .ok (.iconst 0, 1) := by decide +kernel
theorem dX6_digestWords_18 : decode cX6_digestWords 18 = .ok (.istore 6, 2) := by decide +kernel
theorem dX6_digestWords_20 : decode cX6_digestWords 20 = .ok (.iload 6, 2) := by decide +kernel
theorem dX6_digestWords_22 : decode cX6_digestWords 22 = .ok (.bipush 7, 2) := by decide +kernel
theorem dX6_digestWords_24 : decode cX6_digestWords 24 = .ok (.if_icmp .gt 25, 3) := by decide +kernel
theorem dX6_digestWords_27 : decode cX6_digestWords 27 = .ok (.ldc2_w 230, 3) := by decide +kernel
theorem dX6_digestWords_30 : decode cX6_digestWords 30 = .ok (.lload_n 3, 1) := by decide +kernel
theorem dX6_digestWords_31 : decode cX6_digestWords 31 = .ok (.lmul, 1) := by decide +kernel
theorem dX6_digestWords_32 : decode cX6_digestWords 32 = .ok (.aload_n 0, 1) := by decide +kernel
theorem dX6_digestWords_33 : decode cX6_digestWords 33 = .ok (.iload 5, 2) := by decide +kernel
theorem dX6_digestWords_35 : decode cX6_digestWords 35 = .ok (.iload 6, 2) := by decide +kernel
theorem dX6_digestWords_37 : decode cX6_digestWords 37 = .ok (.invokevirtual 200, 3) := by decide +kernel
theorem dX6_digestWords_40 : decode cX6_digestWords 40 = .ok (.i2l, 1) := by decide +kernel
theorem dX6_digestWords_41 : decode cX6_digestWords 41 = .ok (.ladd, 1) := by decide +kernel
theorem dX6_digestWords_42 : decode cX6_digestWords 42 = .ok (.lstore_n 3, 1) := by decide +kernel
theorem dX6_digestWords_43 : decode cX6_digestWords 43 = .ok (.iinc 6 1, 3) := by decide +kernel
theorem dX6_digestWords_46 : decode cX6_digestWords 46 = .ok (.goto (-26), 3) := by decide +kernel
theorem dX6_digestWords_49 : decode cX6_digestWords 49 = .ok (.iinc 5 1, 3) := by decide +kernel
theorem dX6_digestWords_52 : decode cX6_digestWords 52 = .ok (.goto (-47), 3) := by decide +kernel
theorem dX6_digestWords_55 : decode cX6_digestWords 55 = .ok (.lload_n 3, 1) := by decide +kernel
theorem dX6_digestWords_56 : decode cX6_digestWords 56 = .ok (.lreturn, 1) := by decide +kernel
theorem dX6_digestReadings_0 : decode cX6_digestReadings 0 = .ok (.lload_n 1, 1) := by decide +kernel
theorem dX6_digestReadings_1 : decode cX6_digestReadings 1 = .ok (.lstore_n 3, 1) := by decide +kernel
theorem dX6_digestReadings_2 : decode cX6_digestReadings 2 = .ok (.iconst 0, 1) := by decide +kernel
theorem dX6_digestReadings_3 : decode cX6_digestReadings 3 = .ok (.istore 5, 2) := by decide +kernel
theorem dX6_digestReadings_5 : decode cX6_digestReadings 5 = .ok (.iload 5, 2) := by decide +kernel
theorem dX6_digestReadings_7 : decode cX6_digestReadings 7 = .ok (.aload_n 0, 1) := by decide +kernel
theorem dX6_digestReadings_8 : decode cX6_digestReadings 8 = .ok (.getfield 34, 3) := by decide +kernel
theorem dX6_digestReadings_11 : decode cX6_digestReadings 11 = .ok (.if_icmp .ge 47, 3) := by decide +kernel
theorem dX6_digestReadings_14 : decode cX6_digestReadings 14 = .ok (.iload 5, 2) := by decide +kernel
theorem dX6_digestReadings_16 : decode cX6_digestReadings 16 = .ok (.bipush 10, 2) := by decide +kernel
theorem dX6_digestReadings_18 : decode cX6_digestReadings 18 = .ok (.if_icmp .ge 40, 3) := by decide +kernel
theorem dX6_digestReadings_21 : decode cX6_digestReadings 21 = .ok (.iconst 0, 1) := by decide +kernel
theorem dX6_digestReadings_22 : decode cX6_digestReadings 22 = .ok (.istore 6, 2) := by decide +kernel
theorem dX6_digestReadings_24 : decode cX6_digestReadings 24 = .ok (.iload 6, 2) := by decide +kernel
theorem dX6_digestReadings_26 : decode cX6_digestReadings 26 = .ok (.iconst 5, 1) := by decide +kernel
theorem dX6_digestReadings_27 : decode cX6_digestReadings 27 = .ok (.if_icmp .gt 25, 3) := by decide +kernel
theorem dX6_digestReadings_30 : decode cX6_digestReadings 30 = .ok (.ldc2_w 230, 3) := by decide +kernel
theorem dX6_digestReadings_33 : decode cX6_digestReadings 33 = .ok (.lload_n 3, 1) := by decide +kernel
theorem dX6_digestReadings_34 : decode cX6_digestReadings 34 = .ok (.lmul, 1) := by decide +kernel
theorem dX6_digestReadings_35 : decode cX6_digestReadings 35 = .ok (.aload_n 0, 1) := by decide +kernel
theorem dX6_digestReadings_36 : decode cX6_digestReadings 36 = .ok (.iload 5, 2) := by decide +kernel
theorem dX6_digestReadings_38 : decode cX6_digestReadings 38 = .ok (.iload 6, 2) := by decide +kernel
theorem dX6_digestReadings_40 : decode cX6_digestReadings 40 = .ok (.invokevirtual 203, 3) := by decide +kernel
theorem dX6_digestReadings_43 : decode cX6_digestReadings 43 = .ok (.i2l, 1) := by decide +kernel
theorem dX6_digestReadings_44 : decode cX6_digestReadings 44 = .ok (.ladd, 1) := by decide +kernel
theorem dX6_digestReadings_45 : decode cX6_digestReadings 45 = .ok (.lstore_n 3, 1) := by decide +kernel
theorem dX6_digestReadings_46 : decode cX6_digestReadings 46 = .ok (.iinc 6 1, 3) := by decide +kernel
theorem dX6_digestReadings_49 : decode cX6_digestReadings 49 = .ok (.goto (-25), 3) := by decide +kernel
theorem dX6_digestReadings_52 : decode cX6_digestReadings 52 = .ok (.iinc 5 1, 3) := by decide +kernel
theorem dX6_digestReadings_55 : decode cX6_digestReadings 55 = .ok (.goto (-50), 3) := by decide +kernel
theorem dX6_digestReadings_58 : decode cX6_digestReadings 58 = .ok (.lload_n 3, 1) := by decide +kernel
theorem dX6_digestReadings_59 : decode cX6_digestReadings 59 = .ok (.lreturn, 1) := by decide +kernel
theorem dX6_digestParts_0 : decode cX6_digestParts 0 = .ok (.lload_n 1, 1) := by decide +kernel
theorem dX6_digestParts_1 : decode cX6_digestParts 1 = .ok (.lstore_n 3, 1) := by decide +kernel
theorem dX6_digestParts_2 : decode cX6_digestParts 2 = .ok (.iconst 0, 1) := by decide +kernel
theorem dX6_digestParts_3 : decode cX6_digestParts 3 = .ok (.istore 5, 2) := by decide +kernel
theorem dX6_digestParts_5 : decode cX6_digestParts 5 = .ok (.iload 5, 2) := by decide +kernel
theorem dX6_digestParts_7 : decode cX6_digestParts 7 = .ok (.aload_n 0, 1) := by decide +kernel
theorem dX6_digestParts_8 : decode cX6_digestParts 8 = .ok (.getfield 12, 3) := by decide +kernel
theorem dX6_digestParts_11 : decode cX6_digestParts 11 = .ok (.invokevirtual 82, 3) := by decide +kernel
theorem dX6_digestParts_14 : decode cX6_digestParts 14 = .ok (.if_icmp .ge 46, 3) := by decide +kernel
theorem dX6_digestParts_17 : decode cX6_digestParts 17 = .ok (.iconst 0, 1) := by decide +kernel
theorem dX6_digestParts_18 : decode cX6_digestParts 18 = .ok (.istore 6, 2) := by decide +kernel
theorem dX6_digestParts_20 : decode cX6_digestParts 20 = .ok (.iload 6, 2) := by decide +kernel
theorem dX6_digestParts_22 : decode cX6_digestParts 22 = .ok (.iconst 4, 1) := by decide +kernel
theorem dX6_digestParts_23 : decode cX6_digestParts 23 = .ok (.if_icmp .gt 31, 3) := by decide +kernel
theorem dX6_digestParts_26 : decode cX6_digestParts 26 = .ok (.ldc2_w 230, 3) := by decide +kernel
theorem dX6_digestParts_29 : decode cX6_digestParts 29 = .ok (.lload_n 3, 1) := by decide +kernel
theorem dX6_digestParts_30 : decode cX6_digestParts 30 = .ok (.lmul, 1) := by decide +kernel
theorem dX6_digestParts_31 : decode cX6_digestParts 31 = .ok (.aload_n 0, 1) := by decide +kernel
theorem dX6_digestParts_32 : decode cX6_digestParts 32 = .ok (.getfield 26, 3) := by decide +kernel
theorem dX6_digestParts_35 : decode cX6_digestParts 35 = .ok (.iconst 0, 1) := by decide +kernel
theorem dX6_digestParts_36 : decode cX6_digestParts 36 = .ok (.iload 5, 2) := by decide +kernel
theorem dX6_digestParts_38 : decode cX6_digestParts 38 = .ok (.iconst 1, 1) := by decide +kernel
theorem dX6_digestParts_39 : decode cX6_digestParts 39 = .ok (.iadd, 1) := by decide +kernel
theorem dX6_digestParts_40 : decode cX6_digestParts 40 = .ok (.iload 6, 2) := by decide +kernel
theorem dX6_digestParts_42 : decode cX6_digestParts 42 = .ok (.invokevirtual 214, 3) := by decide +kernel
theorem dX6_digestParts_45 : decode cX6_digestParts 45 = .ok (.i2l, 1) := by decide +kernel
theorem dX6_digestParts_46 : decode cX6_digestParts 46 = .ok (.ladd, 1) := by decide +kernel
theorem dX6_digestParts_47 : decode cX6_digestParts 47 = .ok (.lstore_n 3, 1) := by decide +kernel
theorem dX6_digestParts_48 : decode cX6_digestParts 48 = .ok (.iinc 6 1, 3) := by decide +kernel
theorem dX6_digestParts_51 : decode cX6_digestParts 51 = .ok (.goto (-31), 3) := by decide +kernel
theorem dX6_digestParts_54 : decode cX6_digestParts 54 = .ok (.iinc 5 1, 3) := by decide +kernel
theorem dX6_digestParts_57 : decode cX6_digestParts 57 = .ok (.goto (-52), 3) := by decide +kernel
theorem dX6_digestParts_60 : decode cX6_digestParts 60 = .ok (.lload_n 3, 1) := by decide +kernel
theorem dX6_digestParts_61 : decode cX6_digestParts 61 = .ok (.lreturn, 1) := by decide +kernel
theorem dX6_bitsOfShare_0 : decode cX6_bitsOfShare 0 = .ok (.dload_n 0, 1) := by decide +kernel
theorem dX6_bitsOfShare_1 : decode cX6_bitsOfShare 1 = .ok (.dconst 0, 1) := by decide +kernel
theorem dX6_bitsOfShare_2 : decode cX6_bitsOfShare 2 = .ok (.dcmp .l, 1) := by decide +kernel
theorem dX6_bitsOfShare_3 : decode cX6_bitsOfShare 3 = .ok (.ifCond .gt 5, 3) := by decide +kernel
theorem dX6_bitsOfShare_6 : decode cX6_bitsOfShare 6 = .ok (.lconst 0, 1) := by decide +kernel
theorem dX6_bitsOfShare_7 : decode cX6_bitsOfShare 7 = .ok (.lreturn, 1) := by decide +kernel
theorem dX6_bitsOfShare_8 : decode cX6_bitsOfShare 8 = .ok (.dload_n 0, 1) := by decide +kernel
theorem dX6_bitsOfShare_9 : decode cX6_bitsOfShare 9 = .ok (.dstore_n 2, 1) := by decide +kernel
theorem dX6_bitsOfShare_10 : decode cX6_bitsOfShare 10 = .ok (.ldc2_w 353, 3) := by decide +kernel
theorem dX6_bitsOfShare_13 : decode cX6_bitsOfShare 13 = .ok (.lstore 4, 2) := by decide +kernel
theorem dX6_bitsOfShare_15 : decode cX6_bitsOfShare 15 = .ok (.iconst 0, 1) := by decide +kernel
theorem dX6_bitsOfShare_16 : decode cX6_bitsOfShare 16 = .ok (.istore 6, 2) := by decide +kernel
theorem dX6_bitsOfShare_18 : decode cX6_bitsOfShare 18 = .ok (.iload 6, 2) := by decide +kernel
theorem dX6_bitsOfShare_20 : decode cX6_bitsOfShare 20 = .ok (.bipush 64, 2) := by decide +kernel
theorem dX6_bitsOfShare_22 : decode cX6_bitsOfShare 22 = .ok (.if_icmp .ge 27, 3) := by decide +kernel
theorem dX6_bitsOfShare_25 : decode cX6_bitsOfShare 25 = .ok (.dload_n 2, 1) := by decide +kernel
theorem dX6_bitsOfShare_26 : decode cX6_bitsOfShare 26 = .ok (.dconst 1, 1) := by decide +kernel
theorem dX6_bitsOfShare_27 : decode cX6_bitsOfShare 27 = .ok (.dcmp .g, 1) := by decide +kernel
theorem dX6_bitsOfShare_28 : decode cX6_bitsOfShare 28 = .ok (.ifCond .ge 21, 3) := by decide +kernel
theorem dX6_bitsOfShare_31 : decode cX6_bitsOfShare 31 = .ok (.dload_n 2, 1) := by decide +kernel
theorem dX6_bitsOfShare_32 : decode cX6_bitsOfShare 32 = .ok (.ldc2_w 355, 3) := by decide +kernel
theorem dX6_bitsOfShare_35 : decode cX6_bitsOfShare 35 = .ok (.dmul, 1) := by decide +kernel
theorem dX6_bitsOfShare_36 : decode cX6_bitsOfShare 36 = .ok (.dstore_n 2, 1) := by decide +kernel
theorem dX6_bitsOfShare_37 : decode cX6_bitsOfShare 37 = .ok (.lload 4, 2) := by decide +kernel
theorem dX6_bitsOfShare_39 : decode cX6_bitsOfShare 39 = .ok (.lconst 1, 1) := by decide +kernel
theorem dX6_bitsOfShare_40 : decode cX6_bitsOfShare 40 = .ok (.lsub, 1) := by decide +kernel
theorem dX6_bitsOfShare_41 : decode cX6_bitsOfShare 41 = .ok (.lstore 4, 2) := by decide +kernel
theorem dX6_bitsOfShare_43 : decode cX6_bitsOfShare 43 = .ok (.iinc 6 1, 3) := by decide +kernel
theorem dX6_bitsOfShare_46 : decode cX6_bitsOfShare 46 = .ok (.goto (-28), 3) := by decide +kernel
theorem dX6_bitsOfShare_49 : decode cX6_bitsOfShare 49 = .ok (.lload 4, 2) := by decide +kernel
theorem dX6_bitsOfShare_51 : decode cX6_bitsOfShare 51 = .ok (.bipush 52, 2) := by decide +kernel
theorem dX6_bitsOfShare_53 : decode cX6_bitsOfShare 53 = .ok (.lshl, 1) := by decide +kernel
theorem dX6_bitsOfShare_54 : decode cX6_bitsOfShare 54 = .ok (.dload_n 2, 1) := by decide +kernel
theorem dX6_bitsOfShare_55 : decode cX6_bitsOfShare 55 = .ok (.dconst 1, 1) := by decide +kernel
theorem dX6_bitsOfShare_56 : decode cX6_bitsOfShare 56 = .ok (.dsub, 1) := by decide +kernel
theorem dX6_bitsOfShare_57 : decode cX6_bitsOfShare 57 = .ok (.ldc2_w 357, 3) := by decide +kernel
theorem dX6_bitsOfShare_60 : decode cX6_bitsOfShare 60 = .ok (.dmul, 1) := by decide +kernel
theorem dX6_bitsOfShare_61 : decode cX6_bitsOfShare 61 = .ok (.d2l, 1) := by decide +kernel
theorem dX6_bitsOfShare_62 : decode cX6_bitsOfShare 62 = .ok (.ladd, 1) := by decide +kernel
theorem dX6_bitsOfShare_63 : decode cX6_bitsOfShare 63 = .ok (.lreturn, 1) := by decide +kernel
end
section
theorem dX7_init_0 : decode cX7_init 0 = .ok (.aload_n 0, 1) := by decide +kernel
theorem dX7_init_1 : decode cX7_init 1 = .ok (.invokespecial 1, 3) := by decide +kernel
theorem dX7_init_4 : decode cX7_init 4 = .ok (.aload_n 0, 1) := by decide +kernel
theorem dX7_init_5 : decode cX7_init 5 = .ok (.bipush 26, 2) := by decide +kernel
theorem dX7_init_7 : decode cX7_init 7 = .ok (.newarray .int, 2) := by decide +kernel
theorem dX7_init_9 : decode cX7_init 9 = .ok (.putfield 7, 3) := by decide +kernel
theorem dX7_init_12 : decode cX7_init 12 = .ok (.aload_n 0, 1) := by decide +kernel
theorem dX7_init_13 : decode cX7_init 13 = .ok (.sipush 156, 3) := by decide +kernel
theorem dX7_init_16 : decode cX7_init 16 = .ok (.newarray .int, 2) := by decide +kernel
theorem dX7_init_18 : decode cX7_init 18 = .ok (.putfield 13, 3) := by decide +kernel
theorem dX7_init_21 : decode cX7_init 21 = .ok (.aload_n 0, 1) := by decide +kernel
theorem dX7_init_22 : decode cX7_init 22 = .ok (.bipush 52, 2) := by decide +kernel
theorem dX7_init_24 : decode cX7_init 24 = .ok (.newarray .int, 2) := by decide +kernel
theorem dX7_init_26 : decode cX7_init 26 = .ok (.putfield 16, 3) := by decide +kernel
theorem dX7_init_29 : decode cX7_init 29 = .ok (.aload_n 0, 1) := by decide +kernel
theorem dX7_init_30 : decode cX7_init 30 = .ok (.iconst 2, 1) := by decide +kernel
theorem dX7_init_31 : decode cX7_init 31 = .ok (.newarray .boolean, 2) := by decide +kernel
theorem dX7_init_33 : decode cX7_init 33 = .ok (.putfield 19, 3) := by decide +kernel
theorem dX7_init_36 : decode cX7_init 36 = .ok (.aload_n 0, 1) := by decide +kernel
theorem dX7_init_37 : decode cX7_init 37 = .ok (.bipush 20, 2) := by decide +kernel
theorem dX7_init_39 : decode cX7_init 39 = .ok (.newarray .int, 2) := by decide +kernel
theorem dX7_init_41 : decode cX7_init 41 = .ok (.putfield 23, 3) := by decide +kernel
theorem dX7_init_44 : decode cX7_init 44 = .ok (.aload_n 0, 1) := by decide +kernel
theorem dX7_init_45 : decode cX7_init 45 = .ok (.bipush 16, 2) := by decide +kernel
theorem dX7_init_47 : decode cX7_init 47 = .ok (.newarray .int, 2) := by decide +kernel
theorem dX7_init_49 : decode cX7_init 49 = .ok (.putfield 26, 3) := by decide +kernel
theorem dX7_init_52 : decode cX7_init 52 = .ok (.aload_n 0, 1) := by decide +kernel
theorem dX7_init_53 : decode cX7_init 53 = .ok (.bipush 16, 2) := by decide +kernel
theorem dX7_init_55 : decode cX7_init 55 = .ok (.newarray .int, 2) := by decide +kernel
theorem dX7_init_57 : decode cX7_init 57 = .ok (.putfield 29, 3) := by decide +kernel
theorem dX7_init_60 : decode cX7_init 60 = .ok (.aload_n 0, 1) := by decide +kernel
theorem dX7_init_61 : decode cX7_init 61 = .ok (.bipush 16, 2) := by decide +kernel
theorem dX7_init_63 : decode cX7_init 63 = .ok (.newarray .int, 2) := by decide +kernel
theorem dX7_init_65 : decode cX7_init 65 = .ok (.putfield 32, 3) := by decide +kernel
theorem dX7_init_68 : decode cX7_init 68 = .ok (.aload_n 0, 1) := by decide +kernel
theorem dX7_init_69 : decode cX7_init 69 = .ok (.bipush 12, 2) := by decide +kernel
theorem dX7_init_71 : decode cX7_init 71 = .ok (.newarray .int, 2) := by decide +kernel
theorem dX7_init_73 : decode cX7_init 73 = .ok (.putfield 35, 3) := by decide +kernel
theorem dX7_init_76 : decode cX7_init 76 = .ok (.aload_n 0, 1) := by decide +kernel
theorem dX7_init_77 : decode cX7_init 77 = .ok (.bipush 12, 2) := by decide +kernel
theorem dX7_init_79 : decode cX7_init 79 = .ok (.newarray .int, 2) := by decide +kernel
theorem dX7_init_81 : decode cX7_init 81 = .ok (.putfield 38, 3) := by decide +kernel
theorem dX7_init_84 : decode cX7_init 84 = .ok (.aload_n 0, 1) := by decide +kernel
theorem dX7_init_85 : decode cX7_init 85 = .ok (.bipush 12, 2) := by decide +kernel
theorem dX7_init_87 : decode cX7_init 87 = .ok (.newarray .int, 2) := by decide +kernel
theorem dX7_init_89 : decode cX7_init 89 = .ok (.putfield 41, 3) := by decide +kernel
theorem dX7_init_92 : decode cX7_init 92 = .ok (.aload_n 0, 1) := by decide +kernel
theorem dX7_init_93 : decode cX7_init 93 = .ok (.sipush 4800, 3) := by decide +kernel
theorem dX7_init_96 : decode cX7_init 96 = .ok (.newarray .int, 2) := by decide +kernel
theorem dX7_init_98 : decode cX7_init 98 = .ok (.putfield 44, 3) := by decide +kernel
theorem dX7_init_101 : decode cX7_init 101 = .ok (.aload_n 0, 1) := by decide +kernel
theorem dX7_init_102 : decode cX7_init 102 = .ok (.sipush 400, 3) := by decide +kernel
theorem dX7_init_105 : decode cX7_init 105 = .ok (.newarray .int, 2) := by decide +kernel
theorem dX7_init_107 : decode cX7_init 107 = .ok (.putfield 47, 3) := by decide +kernel
theorem dX7_init_110 : decode cX7_init 110 = .ok (.aload_n 0, 1) := by decide +kernel
theorem dX7_init_111 : decode cX7_init 111 = .ok (.sipush 169, 3) := by decide +kernel
theorem dX7_init_114 : decode cX7_init 114 = .ok (.newarray .int, 2) := by decide +kernel
theorem dX7_init_116 : decode cX7_init 116 = .ok (.putfield 50, 3) := by decide +kernel
theorem dX7_init_119 : decode cX7_init 119 = .ok (.aload_n 0, 1) := by decide +kernel
theorem dX7_init_120 : decode cX7_init 120 = .ok (.sipush 169, 3) := by decide +kernel
theorem dX7_init_123 : decode cX7_init 123 = .ok (.newarray .int, 2) := by decide +kernel
theorem dX7_init_125 : decode cX7_init 125 = .ok (.putfield 53, 3) := by decide +kernel
theorem dX7_init_128 : decode cX7_init 128 = .ok (.aload_n 0, 1) := by decide +kernel
theorem dX7_init_129 : decode cX7_init 129 = .ok (.sipush 169, 3) := by decide +kernel
theorem dX7_init_132 : decode cX7_init 132 = .ok (.newarray .int, 2) := by decide +kernel
theorem dX7_init_134 : decode cX7_init 134 = .ok (.putfield 56, 3) := by decide +kernel
theorem dX7_init_137 : decode cX7_init 137 = .ok (.aload_n 0, 1) := by decide +kernel
theorem dX7_init_138 : decode cX7_init 138 = .ok (.sipush 169, 3) := by decide +kernel
theorem dX7_init_141 : decode cX7_init 141 = .ok (.newarray .int, 2) := by decide +kernel
theorem dX7_init_143 : decode cX7_init 143 = .ok (.putfield 59, 3) := by decide +kernel
theorem dX7_init_146 : decode cX7_init 146 = .ok (.aload_n 0, 1) := by decide +kernel
theorem dX7_init_147 : decode cX7_init 147 = .ok (.sipush 169, 3) := by decide +kernel
theorem dX7_init_150 : decode cX7_init 150 = .ok (.newarray .int, 2) := by decide +kernel
theorem dX7_init_152 : decode cX7_init 152 = .ok (.putfield 62, 3) := by decide +kernel
theorem dX7_init_155 : decode cX7_init 155 = .ok (.aload_n 0, 1) := by decide +kernel
theorem dX7_init_156 : decode cX7_init 156 = .ok (.sipush 169, 3) := by decide +kernel
theorem dX7_init_159 : decode cX7_init 159 = .ok (.newarray .int, 2) := by decide +kernel
theorem dX7_init_161 : decode cX7_init 161 = .ok (.putfield 65, 3) := by decide +kernel
theorem dX7_init_164 : decode cX7_init 164 = .ok (.aload_n 0, 1) := by decide +kernel
theorem dX7_init_165 : decode cX7_init 165 = .ok (.iconst 0, 1) := by decide +kernel
theorem dX7_init_166 : decode cX7_init 166 = .ok (.putfield 68, 3) := by decide +kernel
theorem dX7_init_169 : decode cX7_init 169 = .ok (.aload_n 0, 1) := by decide +kernel
theorem dX7_init_170 : decode cX7_init 170 = .ok (.getfield 7, 3) := by decide +kernel
theorem dX7_init_173 : decode cX7_init 173 = .ok (.iconst 1, 1) := by decide +kernel
theorem dX7_init_174 : decode cX7_init 174 = .ok (.iconst 0, 1) := by decide +kernel
theorem dX7_init_175 : decode cX7_init 175 = .ok (.iastore, 1) := by decide +kernel
theorem dX7_init_176 : decode cX7_init 176 = .ok (.return_, 1) := by decide +kernel
theorem dX7_thrown_0 : decode cX7_thrown 0 = .ok (.aload_n 0, 1) := by decide +kernel
theorem dX7_thrown_1 : decode cX7_thrown 1 = .ok (.getfield 68, 3) := by decide +kernel
theorem dX7_thrown_4 : decode cX7_thrown 4 = .ok (.ireturn, 1) := by decide +kernel
theorem dX7_in_0 : decode cX7_in 0 = .ok (.iload_n 0, 1) := by decide +kernel
theorem dX7_in_1 : decode cX7_in 1 = .ok (.iload_n 1, 1) := by decide +kernel
theorem dX7_in_2 : decode cX7_in 2 = .ok (.if_icmp .lt 12, 3) := by decide +kernel
theorem dX7_in_5 : decode cX7_in 5 = .ok (.iload_n 0, 1) := by decide +kernel
theorem dX7_in_6 : decode cX7_in 6 = .ok (.iload_n 2, 1) := by decide +kernel
theorem dX7_in_7 : decode cX7_in 7 = .ok (.if_icmp .gt 7, 3) := by decide +kernel
theorem dX7_in_10 : decode cX7_in 10 = .ok (.iconst 1, 1) := by decide +kernel
theorem dX7_in_11 : decode cX7_in 11 = .ok (.goto 4, 3) := by decide +kernel
theorem dX7_in_14 : decode cX7_in 14 = .ok (.iconst 0, 1) := by decide +kernel
theorem dX7_in_15 : decode cX7_in 15 = .ok (.ireturn, 1) := by decide +kernel
theorem dX7_fails_0 : decode cX7_fails 0 = .ok (.aload_n 0, 1) := by decide +kernel
theorem dX7_fails_1 : decode cX7_fails 1 = .ok (.iload_n 1, 1) := by decide +kernel
theorem dX7_fails_2 : decode cX7_fails 2 = .ok (.putfield 68, 3) := by decide +kernel
theorem dX7_fails_5 : decode cX7_fails 5 = .ok (.iconst 0, 1) := by decide +kernel
theorem dX7_fails_6 : decode cX7_fails 6 = .ok (.ireturn, 1) := by decide +kernel
theorem dX7_kind_0 : decode cX7_kind 0 = .ok (.aload_n 0, 1) := by decide +kernel
theorem dX7_kind_1 : decode cX7_kind 1 = .ok (.getfield 7, 3) := by decide +kernel
theorem dX7_kind_4 : decode cX7_kind 4 = .ok (.iconst 2, 1) := by decide +kernel
theorem dX7_kind_5 : decode cX7_kind 5 = .ok (.iload_n 1, 1) := by decide +kernel
theorem dX7_kind_6 : decode cX7_kind 6 = .ok (.iadd, 1) := by decide +kernel
theorem dX7_kind_7 : decode cX7_kind 7 = .ok (.iaload, 1) := by decide +kernel
theorem dX7_kind_8 : decode cX7_kind 8 = .ok (.ireturn, 1) := by decide +kernel
theorem dX7_isWord_0 : decode cX7_isWord 0 = .ok (.iload_n 1, 1) := by decide +kernel
theorem dX7_isWord_1 : decode cX7_isWord 1 = .ok (.iconst 0, 1) := by decide +kernel
theorem dX7_isWord_2 : decode cX7_isWord 2 = .ok (.aload_n 0, 1) := by decide +kernel
theorem dX7_isWord_3 : decode cX7_isWord 3 = .ok (.getfield 7, 3) := by decide +kernel
theorem dX7_isWord_6 : decode cX7_isWord 6 = .ok (.iconst 0, 1) := by decide +kernel
theorem dX7_isWord_7 : decode cX7_isWord 7 = .ok (.iaload, 1) := by decide +kernel
theorem dX7_isWord_8 : decode cX7_isWord 8 = .ok (.iconst 1, 1) := by decide +kernel
theorem dX7_isWord_9 : decode cX7_isWord 9 = .ok (.isub, 1) := by decide +kernel
theorem dX7_isWord_10 : decode cX7_isWord 10 = .ok (.invokestatic 72, 3) := by decide +kernel
theorem dX7_isWord_13 : decode cX7_isWord 13 = .ok (.ireturn, 1) := by decide +kernel
theorem dX7_saves_0 : decode cX7_saves 0 = .ok (.aload_n 0, 1) := by decide +kernel
theorem dX7_saves_1 : decode cX7_saves 1 = .ok (.getfield 76, 3) := by decide +kernel
theorem dX7_saves_4 : decode cX7_saves 4 = .ok (.bipush 6, 2) := by decide +kernel
theorem dX7_saves_6 : decode cX7_saves 6 = .ok (.if_icmp .ne 43, 3) := by decide +kernel
theorem dX7_saves_9 : decode cX7_saves 9 = .ok (.iconst 0, 1) := by decide +kernel
theorem dX7_saves_10 : decode cX7_saves 10 = .ok (.istore_n 1, 1) := by decide +kernel
theorem dX7_saves_11 : decode cX7_saves 11 = .ok (.iload_n 1, 1) := by decide +kernel
theorem dX7_saves_12 : decode cX7_saves 12 = .ok (.sipush 130, 3) := by decide +kernel
theorem dX7_saves_15 : decode cX7_saves 15 = .ok (.if_icmp .ge 24, 3) := by decide +kernel
theorem dX7_saves_18 : decode cX7_saves 18 = .ok (.aload_n 0, 1) := by decide +kernel
theorem dX7_saves_19 : decode cX7_saves 19 = .ok (.getfield 13, 3) := by decide +kernel
theorem dX7_saves_22 : decode cX7_saves 22 = .ok (.iload_n 1, 1) := by decide +kernel
theorem dX7_saves_23 : decode cX7_saves 23 = .ok (.aload_n 0, 1) := by decide +kernel
theorem dX7_saves_24 : decode cX7_saves 24 = .ok (.getfield 13, 3) := by decide +kernel
theorem dX7_saves_27 : decode cX7_saves 27 = .ok (.iload_n 1, 1) := by decide +kernel
theorem dX7_saves_28 : decode cX7_saves 28 = .ok (.bipush 26, 2) := by decide +kernel
theorem dX7_saves_30 : decode cX7_saves 30 = .ok (.iadd, 1) := by decide +kernel
theorem dX7_saves_31 : decode cX7_saves 31 = .ok (.iaload, 1) := by decide +kernel
theorem dX7_saves_32 : decode cX7_saves 32 = .ok (.iastore, 1) := by decide +kernel
theorem dX7_saves_33 : decode cX7_saves 33 = .ok (.iinc 1 1, 3) := by decide +kernel
theorem dX7_saves_36 : decode cX7_saves 36 = .ok (.goto (-25), 3) := by decide +kernel
theorem dX7_saves_39 : decode cX7_saves 39 = .ok (.aload_n 0, 1) := by decide +kernel
theorem dX7_saves_40 : decode cX7_saves 40 = .ok (.dup, 1) := by decide +kernel
theorem dX7_saves_41 : decode cX7_saves 41 = .ok (.getfield 76, 3) := by decide +kernel
theorem dX7_saves_44 : decode cX7_saves 44 = .ok (.iconst 1, 1) := by decide +kernel
theorem dX7_saves_45 : decode cX7_saves 45 = .ok (.isub, 1) := by decide +kernel
theorem dX7_saves_46 : decode cX7_saves 46 = .ok (.putfield 76, 3) := by decide +kernel
theorem dX7_saves_49 : decode cX7_saves 49 = .ok (.iconst 0, 1) := by decide +kernel
theorem dX7_saves_50 : decode cX7_saves 50 = .ok (.istore_n 1, 1) := by decide +kernel
theorem dX7_saves_51 : decode cX7_saves 51 = .ok (.iload_n 1, 1) := by decide +kernel
theorem dX7_saves_52 : decode cX7_saves 52 = .ok (.bipush 26, 2) := by decide +kernel
theorem dX7_saves_54 : decode cX7_saves 54 = .ok (.if_icmp .ge 29, 3) := by decide +kernel
theorem dX7_saves_57 : decode cX7_saves 57 = .ok (.aload_n 0, 1) := by decide +kernel
theorem dX7_saves_58 : decode cX7_saves 58 = .ok (.getfield 13, 3) := by decide +kernel
theorem dX7_saves_61 : decode cX7_saves 61 = .ok (.bipush 26, 2) := by decide +kernel
theorem dX7_saves_63 : decode cX7_saves 63 = .ok (.aload_n 0, 1) := by decide +kernel
theorem dX7_saves_64 : decode cX7_saves 64 = .ok (.getfield 76, 3) := by decide +kernel
theorem dX7_saves_67 : decode cX7_saves 67 = .ok (.imul, 1) := by decide +kernel
theorem dX7_saves_68 : decode cX7_saves 68 = .ok (.iload_n 1, 1) := by decide +kernel
theorem dX7_saves_69 : decode cX7_saves 69 = .ok (.iadd, 1) := by decide +kernel
theorem dX7_saves_70 : decode cX7_saves 70 = .ok (.aload_n 0, 1) := by decide +kernel
theorem dX7_saves_71 : decode cX7_saves 71 = .ok (.getfield 7, 3) := by decide +kernel
theorem dX7_saves_74 : decode cX7_saves 74 = .ok (.iload_n 1, 1) := by decide +kernel
theorem dX7_saves_75 : decode cX7_saves 75 = .ok (.iaload, 1) := by decide +kernel
theorem dX7_saves_76 : decode cX7_saves 76 = .ok (.iastore, 1) := by decide +kernel
theorem dX7_saves_77 : decode cX7_saves 77 = .ok (.iinc 1 1, 3) := by decide +kernel
theorem dX7_saves_80 : decode cX7_saves 80 = .ok (.goto (-29), 3) := by decide +kernel
theorem dX7_saves_83 : decode cX7_saves 83 = .ok (.aload_n 0, 1) := by decide +kernel
theorem dX7_saves_84 : decode cX7_saves 84 = .ok (.dup, 1) := by decide +kernel
theorem dX7_saves_85 : decode cX7_saves 85 = .ok (.getfield 76, 3) := by decide +kernel
theorem dX7_saves_88 : decode cX7_saves 88 = .ok (.iconst 1, 1) := by decide +kernel
theorem dX7_saves_89 : decode cX7_saves 89 = .ok (.iadd, 1) := by decide +kernel
theorem dX7_saves_90 : decode cX7_saves 90 = .ok (.putfield 76, 3) := by decide +kernel
theorem dX7_saves_93 : decode cX7_saves 93 = .ok (.return_, 1) := by decide +kernel
theorem dX7_opens_0 : decode cX7_opens 0 = .ok (.aload_n 0, 1) := by decide +kernel
theorem dX7_opens_1 : decode cX7_opens 1 = .ok (.getfield 26, 3) := by decide +kernel
theorem dX7_opens_4 : decode cX7_opens 4 = .ok (.aload_n 0, 1) := by decide +kernel
theorem dX7_opens_5 : decode cX7_opens 5 = .ok (.getfield 79, 3) := by decide +kernel
theorem dX7_opens_8 : decode cX7_opens 8 = .ok (.iload_n 1, 1) := by decide +kernel
theorem dX7_opens_9 : decode cX7_opens 9 = .ok (.iastore, 1) := by decide +kernel
theorem dX7_opens_10 : decode cX7_opens 10 = .ok (.aload_n 0, 1) := by decide +kernel
theorem dX7_opens_11 : decode cX7_opens 11 = .ok (.getfield 29, 3) := by decide +kernel
theorem dX7_opens_14 : decode cX7_opens 14 = .ok (.aload_n 0, 1) := by decide +kernel
theorem dX7_opens_15 : decode cX7_opens 15 = .ok (.getfield 79, 3) := by decide +kernel
theorem dX7_opens_18 : decode cX7_opens 18 = .ok (.iload_n 2, 1) := by decide +kernel
theorem dX7_opens_19 : decode cX7_opens 19 = .ok (.iastore, 1) := by decide +kernel
theorem dX7_opens_20 : decode cX7_opens 20 = .ok (.aload_n 0, 1) := by decide +kernel
theorem dX7_opens_21 : decode cX7_opens 21 = .ok (.getfield 32, 3) := by decide +kernel
theorem dX7_opens_24 : decode cX7_opens 24 = .ok (.aload_n 0, 1) := by decide +kernel
theorem dX7_opens_25 : decode cX7_opens 25 = .ok (.getfield 79, 3) := by decide +kernel
theorem dX7_opens_28 : decode cX7_opens 28 = .ok (.iload_n 3, 1) := by decide +kernel
theorem dX7_opens_29 : decode cX7_opens 29 = .ok (.iastore, 1) := by decide +kernel
theorem dX7_opens_30 : decode cX7_opens 30 = .ok (.aload_n 0, 1) := by decide +kernel
theorem dX7_opens_31 : decode cX7_opens 31 = .ok (.dup, 1) := by decide +kernel
theorem dX7_opens_32 : decode cX7_opens 32 = .ok (.getfield 79, 3) := by decide +kernel
theorem dX7_opens_35 : decode cX7_opens 35 = .ok (.iconst 1, 1) := by decide +kernel
theorem dX7_opens_36 : decode cX7_opens 36 = .ok (.iadd, 1) := by decide +kernel
theorem dX7_opens_37 : decode cX7_opens 37 = .ok (.putfield 79, 3) := by decide +kernel
theorem dX7_opens_40 : decode cX7_opens 40 = .ok (.return_, 1) := by decide +kernel
theorem dX7_isComplete_0 : decode cX7_isComplete 0 = .ok (.aload_n 0, 1) := by decide +kernel
theorem dX7_isComplete_1 : decode cX7_isComplete 1 = .ok (.getfield 26, 3) := by decide +kernel
theorem dX7_isComplete_4 : decode cX7_isComplete 4 = .ok (.iload_n 1, 1) := by decide +kernel
theorem dX7_isComplete_5 : decode cX7_isComplete 5 = .ok (.iaload, 1) := by decide +kernel
theorem dX7_isComplete_6 : decode cX7_isComplete 6 = .ok (.iconst 5, 1) := by decide +kernel
theorem dX7_isComplete_7 : decode cX7_isComplete 7 = .ok (.if_icmp .eq 23, 3) := by decide +kernel
theorem dX7_isComplete_10 : decode cX7_isComplete 10 = .ok (.aload_n 0, 1) := by decide +kernel
theorem dX7_isComplete_11 : decode cX7_isComplete 11 = .ok (.getfield 26, 3) := by decide +kernel
theorem dX7_isComplete_14 : decode cX7_isComplete 14 = .ok (.iload_n 1, 1) := by decide +kernel
theorem dX7_isComplete_15 : decode cX7_isComplete 15 = .ok (.iaload, 1) := by decide +kernel
theorem dX7_isComplete_16 : decode cX7_isComplete 16 = .ok (.iconst 2, 1) := by decide +kernel
theorem dX7_isComplete_17 : decode cX7_isComplete 17 = .ok (.if_icmp .eq 13, 3) := by decide +kernel
theorem dX7_isComplete_20 : decode cX7_isComplete 20 = .ok (.aload_n 0, 1) := by decide +kernel
theorem dX7_isComplete_21 : decode cX7_isComplete 21 = .ok (.getfield 26, 3) := by decide +kernel
theorem dX7_isComplete_24 : decode cX7_isComplete 24 = .ok (.iload_n 1, 1) := by decide +kernel
theorem dX7_isComplete_25 : decode cX7_isComplete 25 = .ok (.iaload, 1) := by decide +kernel
theorem dX7_isComplete_26 : decode cX7_isComplete 26 = .ok (.iconst 3, 1) := by decide +kernel
theorem dX7_isComplete_27 : decode cX7_isComplete 27 = .ok (.if_icmp .ne 7, 3) := by decide +kernel
theorem dX7_isComplete_30 : decode cX7_isComplete 30 = .ok (.iconst 1, 1) := by decide +kernel
theorem dX7_isComplete_31 : decode cX7_isComplete 31 = .ok (.goto 4, 3) := by decide +kernel
theorem dX7_isComplete_34 : decode cX7_isComplete 34 = .ok (.iconst 0, 1) := by decide +kernel
theorem dX7_isComplete_35 : decode cX7_isComplete 35 = .ok (.ireturn, 1) := by decide +kernel
theorem dX7_canHold_0 : decode cX7_canHold 0 = .ok (.iload_n 2, 1) := by decide +kernel
theorem dX7_canHold_1 : decode cX7_canHold 1 = .ok (.iconst 5, 1) := by decide +kernel
theorem dX7_canHold_2 : decode cX7_canHold 2 = .ok (.if_icmp .ne 29, 3) := by decide +kernel
theorem dX7_canHold_5 : decode cX7_canHold 5 = .ok (.aload_n 0, 1) := by decide +kernel
theorem dX7_canHold_6 : decode cX7_canHold 6 = .ok (.getfield 26, 3) := by decide +kernel
theorem dX7_canHold_9 : decode cX7_canHold 9 = .ok (.iload_n 1, 1) := by decide +kernel
theorem dX7_canHold_10 : decode cX7_canHold 10 = .ok (.iaload, 1) := by decide +kernel
theorem dX7_canHold_11 : decode cX7_canHold 11 = .ok (.iconst 5, 1) := by decide +kernel
theorem dX7_canHold_12 : decode cX7_canHold 12 = .ok (.if_icmp .ne 17, 3) := by decide +kernel
theorem dX7_canHold_15 : decode cX7_canHold 15 = .ok (.aload_n 0, 1) := by decide +kernel
theorem dX7_canHold_16 : decode cX7_canHold 16 = .ok (.getfield 32, 3) := by decide +kernel
theorem dX7_canHold_19 : decode cX7_canHold 19 = .ok (.iload_n 1, 1) := by decide +kernel
theorem dX7_canHold_20 : decode cX7_canHold 20 = .ok (.iaload, 1) := by decide +kernel
theorem dX7_canHold_21 : decode cX7_canHold 21 = .ok (.iconst 1, 1) := by decide +kernel
theorem dX7_canHold_22 : decode cX7_canHold 22 = .ok (.if_icmp .ne 7, 3) := by decide +kernel
theorem dX7_canHold_25 : decode cX7_canHold 25 = .ok (.iconst 1, 1) := by decide +kernel
theorem dX7_canHold_26 : decode cX7_canHold 26 = .ok (.goto 4, 3) := by decide +kernel
theorem dX7_canHold_29 : decode cX7_canHold 29 = .ok (.iconst 0, 1) := by decide +kernel
theorem dX7_canHold_30 : decode cX7_canHold 30 = .ok (.ireturn, 1) := by decide +kernel
theorem dX7_canHold_31 : decode cX7_canHold 31 = .ok (.aload_n 0, 1) := by decide +kernel
theorem dX7_canHold_32 : decode cX7_canHold 32 = .ok (.getfield 26, 3) := by decide +kernel
theorem dX7_canHold_35 : decode cX7_canHold 35 = .ok (.iload_n 1, 1) := by decide +kernel
theorem dX7_canHold_36 : decode cX7_canHold 36 = .ok (.iaload, 1) := by decide +kernel
theorem dX7_canHold_37 : decode cX7_canHold 37 = .ok (.iconst 5, 1) := by decide +kernel
theorem dX7_canHold_38 : decode cX7_canHold 38 = .ok (.if_icmp .ne 8, 3) := by decide +kernel
theorem dX7_canHold_41 : decode cX7_canHold 41 = .ok (.iload_n 2, 1) := by decide +kernel
theorem dX7_canHold_42 : decode cX7_canHold 42 = .ok (.iconst 4, 1) := by decide +kernel
theorem dX7_canHold_43 : decode cX7_canHold 43 = .ok (.if_icmp .ne 7, 3) := by decide +kernel
theorem dX7_canHold_46 : decode cX7_canHold 46 = .ok (.iconst 1, 1) := by decide +kernel
theorem dX7_canHold_47 : decode cX7_canHold 47 = .ok (.goto 4, 3) := by decide +kernel
theorem dX7_canHold_50 : decode cX7_canHold 50 = .ok (.iconst 0, 1) := by decide +kernel
theorem dX7_canHold_51 : decode cX7_canHold 51 = .ok (.ireturn, 1) := by decide +kernel
theorem dX7_chosen_0 : decode cX7_chosen 0 = .ok (.iconst 0, 1) := by decide +kernel
theorem dX7_chosen_1 : decode cX7_chosen 1 = .ok (.istore_n 2, 1) := by decide +kernel
theorem dX7_chosen_2 : decode cX7_chosen 2 = .ok (.iconst (-1), 1) := by decide +kernel
theorem dX7_chosen_3 : decode cX7_chosen 3 = .ok (.istore_n 3, 1) := by decide +kernel
theorem dX7_chosen_4 : decode cX7_chosen 4 = .ok (.aload_n 0, 1) := by decide +kernel
theorem dX7_chosen_5 : decode cX7_chosen 5 = .ok (.getfield 79, 3) := by decide +kernel
theorem dX7_chosen_8 : decode cX7_chosen 8 = .ok (.iconst 1, 1) := by decide +kernel
theorem dX7_chosen_9 : decode cX7_chosen 9 = .ok (.isub, 1) := by decide +kernel
theorem dX7_chosen_10 : decode cX7_chosen 10 = .ok (.istore 4, 2) := by decide +kernel
theorem dX7_chosen_12 : decode cX7_chosen 12 = .ok (.iload 4, 2) := by decide +kernel
theorem dX7_chosen_14 : decode cX7_chosen 14 = .ok (.ifCond .lt 52, 3) := by decide +kernel
theorem dX7_chosen_17 : decode cX7_chosen 17 = .ok (.aload_n 0, 1) := by decide +kernel
theorem dX7_chosen_18 : decode cX7_chosen 18 = .ok (.iload 4, 2) := by decide +kernel
theorem dX7_chosen_20 : decode cX7_chosen 20 = .ok (.invokevirtual 82, 3) := by decide +kernel
theorem dX7_chosen_23 : decode cX7_chosen 23 = .ok (.ifCond .eq 43, 3) := by decide +kernel
theorem dX7_chosen_26 : decode cX7_chosen 26 = .ok (.aload_n 0, 1) := by decide +kernel
theorem dX7_chosen_27 : decode cX7_chosen 27 = .ok (.iload 4, 2) := by decide +kernel
theorem dX7_chosen_29 : decode cX7_chosen 29 = .ok (.aload_n 0, 1) := by decide +kernel
theorem dX7_chosen_30 : decode cX7_chosen 30 = .ok (.iload_n 1, 1) := by decide +kernel
theorem dX7_chosen_31 : decode cX7_chosen 31 = .ok (.invokevirtual 86, 3) := by decide +kernel
theorem dX7_chosen_34 : decode cX7_chosen 34 = .ok (.invokevirtual 90, 3) := by decide +kernel
theorem dX7_chosen_37 : decode cX7_chosen 37 = .ok (.ifCond .eq 23, 3) := by decide +kernel
theorem dX7_chosen_40 : decode cX7_chosen 40 = .ok (.iload_n 2, 1) := by decide +kernel
theorem dX7_chosen_41 : decode cX7_chosen 41 = .ok (.aload_n 0, 1) := by decide +kernel
theorem dX7_chosen_42 : decode cX7_chosen 42 = .ok (.getfield 35, 3) := by decide +kernel
theorem dX7_chosen_45 : decode cX7_chosen 45 = .ok (.iload_n 1, 1) := by decide +kernel
theorem dX7_chosen_46 : decode cX7_chosen 46 = .ok (.iaload, 1) := by decide +kernel
theorem dX7_chosen_47 : decode cX7_chosen 47 = .ok (.if_icmp .ne 8, 3) := by decide +kernel
theorem dX7_chosen_50 : decode cX7_chosen 50 = .ok (.iload 4, 2) := by decide +kernel
theorem dX7_chosen_52 : decode cX7_chosen 52 = .ok (.goto 4, 3) := by decide +kernel
theorem dX7_chosen_55 : decode cX7_chosen 55 = .ok (.iload_n 3, 1) := by decide +kernel
theorem dX7_chosen_56 : decode cX7_chosen 56 = .ok (.istore_n 3, 1) := by decide +kernel
theorem dX7_chosen_57 : decode cX7_chosen 57 = .ok (.iinc 2 1, 3) := by decide +kernel
theorem dX7_chosen_60 : decode cX7_chosen 60 = .ok (.iinc 4 (-1), 3) := by decide +kernel
theorem dX7_chosen_63 : decode cX7_chosen 63 = .ok (.goto (-51), 3) := by decide +kernel
theorem dX7_chosen_66 : decode cX7_chosen 66 = .ok (.aload_n 0, 1) := by decide +kernel
theorem dX7_chosen_67 : decode cX7_chosen 67 = .ok (.getfield 38, 3) := by decide +kernel
theorem dX7_chosen_70 : decode cX7_chosen 70 = .ok (.iload_n 1, 1) := by decide +kernel
theorem dX7_chosen_71 : decode cX7_chosen 71 = .ok (.iload_n 2, 1) := by decide +kernel
theorem dX7_chosen_72 : decode cX7_chosen 72 = .ok (.iastore, 1) := by decide +kernel
theorem dX7_chosen_73 : decode cX7_chosen 73 = .ok (.iload_n 3, 1) := by decide +kernel
theorem dX7_chosen_74 : decode cX7_chosen 74 = .ok (.ireturn, 1) := by decide +kernel
theorem dX7_wantsName_0 : decode cX7_wantsName 0 = .ok (.aload_n 0, 1) := by decide +kernel
theorem dX7_wantsName_1 : decode cX7_wantsName 1 = .ok (.getfield 26, 3) := by decide +kernel
theorem dX7_wantsName_4 : decode cX7_wantsName 4 = .ok (.aload_n 0, 1) := by decide +kernel
theorem dX7_wantsName_5 : decode cX7_wantsName 5 = .ok (.getfield 79, 3) := by decide +kernel
theorem dX7_wantsName_8 : decode cX7_wantsName 8 = .ok (.iconst 1, 1) := by decide +kernel
theorem dX7_wantsName_9 : decode cX7_wantsName 9 = .ok (.isub, 1) := by decide +kernel
theorem dX7_wantsName_10 : decode cX7_wantsName 10 = .ok (.iaload, 1) := by decide +kernel
theorem dX7_wantsName_11 : decode cX7_wantsName 11 = .ok (.istore_n 1, 1) := by decide +kernel
theorem dX7_wantsName_12 : decode cX7_wantsName 12 = .ok (.iload_n 1, 1) := by decide +kernel
theorem dX7_wantsName_13 : decode cX7_wantsName 13 = .ok (.ifCond .eq 20, 3) := by decide +kernel
theorem dX7_wantsName_16 : decode cX7_wantsName 16 = .ok (.iload_n 1, 1) := by decide +kernel
theorem dX7_wantsName_17 : decode cX7_wantsName 17 = .ok (.iconst 2, 1) := by decide +kernel
theorem dX7_wantsName_18 : decode cX7_wantsName 18 = .ok (.if_icmp .eq 15, 3) := by decide +kernel
theorem dX7_wantsName_21 : decode cX7_wantsName 21 = .ok (.iload_n 1, 1) := by decide +kernel
theorem dX7_wantsName_22 : decode cX7_wantsName 22 = .ok (.bipush 7, 2) := by decide +kernel
theorem dX7_wantsName_24 : decode cX7_wantsName 24 = .ok (.if_icmp .eq 9, 3) := by decide +kernel
theorem dX7_wantsName_27 : decode cX7_wantsName 27 = .ok (.iload_n 1, 1) := by decide +kernel
theorem dX7_wantsName_28 : decode cX7_wantsName 28 = .ok (.bipush 6, 2) := by decide +kernel
theorem dX7_wantsName_30 : decode cX7_wantsName 30 = .ok (.if_icmp .ne 7, 3) := by decide +kernel
theorem dX7_wantsName_33 : decode cX7_wantsName 33 = .ok (.iconst 1, 1) := by decide +kernel
theorem dX7_wantsName_34 : decode cX7_wantsName 34 = .ok (.goto 4, 3) := by decide +kernel
theorem dX7_wantsName_37 : decode cX7_wantsName 37 = .ok (.iconst 0, 1) := by decide +kernel
theorem dX7_wantsName_38 : decode cX7_wantsName 38 = .ok (.ireturn, 1) := by decide +kernel
theorem dX7_takesAdjective_0 : decode cX7_takesAdjective 0 = .ok (.aload_n 0, 1) := by decide +kernel
theorem dX7_takesAdjective_1 : decode cX7_takesAdjective 1 = .ok (.getfield 26, 3) := by decide +kernel
theorem dX7_takesAdjective_4 : decode cX7_takesAdjective 4 = .ok (.aload_n 0, 1) := by decide +kernel
theorem dX7_takesAdjective_5 : decode cX7_takesAdjective 5 = .ok (.getfield 79, 3) := by decide +kernel
theorem dX7_takesAdjective_8 : decode cX7_takesAdjective 8 = .ok (.iconst 1, 1) := by decide +kernel
theorem dX7_takesAdjective_9 : decode cX7_takesAdjective 9 = .ok (.isub, 1) := by decide +kernel
theorem dX7_takesAdjective_10 : decode cX7_takesAdjective 10 = .ok (.iaload, 1) := by decide +kernel
theorem dX7_takesAdjective_11 : decode cX7_takesAdjective 11 = .ok (.iconst 4, 1) := by decide +kernel
theorem dX7_takesAdjective_12 : decode cX7_takesAdjective 12 = .ok (.if_icmp .ne 5, 3) := by decide +kernel
theorem dX7_takesAdjective_15 : decode cX7_takesAdjective 15 = .ok (.iconst 1, 1) := by decide +kernel
theorem dX7_takesAdjective_16 : decode cX7_takesAdjective 16 = .ok (.ireturn, 1) := by decide +kernel
theorem dX7_takesAdjective_17 : decode cX7_takesAdjective 17 = .ok (.aload_n 0, 1) := by decide +kernel
theorem dX7_takesAdjective_18 : decode cX7_takesAdjective 18 = .ok (.invokevirtual 94, 3) := by decide +kernel
theorem dX7_takesAdjective_21 : decode cX7_takesAdjective 21 = .ok (.ifCond .ne 5, 3) := by decide +kernel
theorem dX7_takesAdjective_24 : decode cX7_takesAdjective 24 = .ok (.iconst 0, 1) := by decide +kernel
theorem dX7_takesAdjective_25 : decode cX7_takesAdjective 25 = .ok (.ireturn, 1) := by decide +kernel
theorem dX7_takesAdjective_26 : decode cX7_takesAdjective 26 = .ok (.aload_n 0, 1) := by decide +kernel
theorem dX7_takesAdjective_27 : decode cX7_takesAdjective 27 = .ok (.iconst 4, 1) := by decide +kernel
theorem dX7_takesAdjective_28 : decode cX7_takesAdjective 28 = .ok (.iload_n 1, 1) := by decide +kernel
theorem dX7_takesAdjective_29 : decode cX7_takesAdjective 29 = .ok (.iconst 0, 1) := by decide +kernel
theorem dX7_takesAdjective_30 : decode cX7_takesAdjective 30 = .ok (.invokevirtual 98, 3) := by decide +kernel
theorem dX7_takesAdjective_33 : decode cX7_takesAdjective 33 = .ok (.iconst 1, 1) := by decide +kernel
theorem dX7_takesAdjective_34 : decode cX7_takesAdjective 34 = .ok (.ireturn, 1) := by decide +kernel
theorem dX7_takesNoun_0 : decode cX7_takesNoun 0 = .ok (.iload_n 1, 1) := by decide +kernel
theorem dX7_takesNoun_1 : decode cX7_takesNoun 1 = .ok (.istore_n 2, 1) := by decide +kernel
theorem dX7_takesNoun_2 : decode cX7_takesNoun 2 = .ok (.aload_n 0, 1) := by decide +kernel
theorem dX7_takesNoun_3 : decode cX7_takesNoun 3 = .ok (.getfield 26, 3) := by decide +kernel
theorem dX7_takesNoun_6 : decode cX7_takesNoun 6 = .ok (.aload_n 0, 1) := by decide +kernel
theorem dX7_takesNoun_7 : decode cX7_takesNoun 7 = .ok (.getfield 79, 3) := by decide +kernel
theorem dX7_takesNoun_10 : decode cX7_takesNoun 10 = .ok (.iconst 1, 1) := by decide +kernel
theorem dX7_takesNoun_11 : decode cX7_takesNoun 11 = .ok (.isub, 1) := by decide +kernel
theorem dX7_takesNoun_12 : decode cX7_takesNoun 12 = .ok (.iaload, 1) := by decide +kernel
theorem dX7_takesNoun_13 : decode cX7_takesNoun 13 = .ok (.iconst 4, 1) := by decide +kernel
theorem dX7_takesNoun_14 : decode cX7_takesNoun 14 = .ok (.if_icmp .ne 23, 3) := by decide +kernel
theorem dX7_takesNoun_17 : decode cX7_takesNoun 17 = .ok (.aload_n 0, 1) := by decide +kernel
theorem dX7_takesNoun_18 : decode cX7_takesNoun 18 = .ok (.dup, 1) := by decide +kernel
theorem dX7_takesNoun_19 : decode cX7_takesNoun 19 = .ok (.getfield 79, 3) := by decide +kernel
theorem dX7_takesNoun_22 : decode cX7_takesNoun 22 = .ok (.iconst 1, 1) := by decide +kernel
theorem dX7_takesNoun_23 : decode cX7_takesNoun 23 = .ok (.isub, 1) := by decide +kernel
theorem dX7_takesNoun_24 : decode cX7_takesNoun 24 = .ok (.putfield 79, 3) := by decide +kernel
theorem dX7_takesNoun_27 : decode cX7_takesNoun 27 = .ok (.aload_n 0, 1) := by decide +kernel
theorem dX7_takesNoun_28 : decode cX7_takesNoun 28 = .ok (.getfield 29, 3) := by decide +kernel
theorem dX7_takesNoun_31 : decode cX7_takesNoun 31 = .ok (.aload_n 0, 1) := by decide +kernel
theorem dX7_takesNoun_32 : decode cX7_takesNoun 32 = .ok (.getfield 79, 3) := by decide +kernel
theorem dX7_takesNoun_35 : decode cX7_takesNoun 35 = .ok (.iaload, 1) := by decide +kernel
theorem dX7_takesNoun_36 : decode cX7_takesNoun 36 = .ok (.istore_n 2, 1) := by decide +kernel
theorem dX7_takesNoun_37 : decode cX7_takesNoun 37 = .ok (.aload_n 0, 1) := by decide +kernel
theorem dX7_takesNoun_38 : decode cX7_takesNoun 38 = .ok (.invokevirtual 94, 3) := by decide +kernel
theorem dX7_takesNoun_41 : decode cX7_takesNoun 41 = .ok (.ifCond .ne 5, 3) := by decide +kernel
theorem dX7_takesNoun_44 : decode cX7_takesNoun 44 = .ok (.iconst 0, 1) := by decide +kernel
theorem dX7_takesNoun_45 : decode cX7_takesNoun 45 = .ok (.ireturn, 1) := by decide +kernel
theorem dX7_takesNoun_46 : decode cX7_takesNoun 46 = .ok (.iload_n 2, 1) := by decide +kernel
theorem dX7_takesNoun_47 : decode cX7_takesNoun 47 = .ok (.istore_n 3, 1) := by decide +kernel
theorem dX7_takesNoun_48 : decode cX7_takesNoun 48 = .ok (.iload_n 3, 1) := by decide +kernel
theorem dX7_takesNoun_49 : decode cX7_takesNoun 49 = .ok (.iload_n 1, 1) := by decide +kernel
theorem dX7_takesNoun_50 : decode cX7_takesNoun 50 = .ok (.if_icmp .ge 16, 3) := by decide +kernel
theorem dX7_takesNoun_53 : decode cX7_takesNoun 53 = .ok (.aload_n 0, 1) := by decide +kernel
theorem dX7_takesNoun_54 : decode cX7_takesNoun 54 = .ok (.getfield 41, 3) := by decide +kernel
theorem dX7_takesNoun_57 : decode cX7_takesNoun 57 = .ok (.iload_n 3, 1) := by decide +kernel
theorem dX7_takesNoun_58 : decode cX7_takesNoun 58 = .ok (.iload_n 1, 1) := by decide +kernel
theorem dX7_takesNoun_59 : decode cX7_takesNoun 59 = .ok (.iastore, 1) := by decide +kernel
theorem dX7_takesNoun_60 : decode cX7_takesNoun 60 = .ok (.iinc 3 1, 3) := by decide +kernel
theorem dX7_takesNoun_63 : decode cX7_takesNoun 63 = .ok (.goto (-15), 3) := by decide +kernel
theorem dX7_takesNoun_66 : decode cX7_takesNoun 66 = .ok (.aload_n 0, 1) := by decide +kernel
theorem dX7_takesNoun_67 : decode cX7_takesNoun 67 = .ok (.getfield 79, 3) := by decide +kernel
theorem dX7_takesNoun_70 : decode cX7_takesNoun 70 = .ok (.iconst 1, 1) := by decide +kernel
theorem dX7_takesNoun_71 : decode cX7_takesNoun 71 = .ok (.isub, 1) := by decide +kernel
theorem dX7_takesNoun_72 : decode cX7_takesNoun 72 = .ok (.istore_n 3, 1) := by decide +kernel
theorem dX7_takesNoun_73 : decode cX7_takesNoun 73 = .ok (.aload_n 0, 1) := by decide +kernel
theorem dX7_takesNoun_74 : decode cX7_takesNoun 74 = .ok (.getfield 26, 3) := by decide +kernel
theorem dX7_takesNoun_77 : decode cX7_takesNoun 77 = .ok (.iload_n 3, 1) := by decide +kernel
theorem dX7_takesNoun_78 : decode cX7_takesNoun 78 = .ok (.iaload, 1) := by decide +kernel
theorem dX7_takesNoun_79 : decode cX7_takesNoun 79 = .ok (.ifCond .ne 27, 3) := by decide +kernel
theorem dX7_takesNoun_82 : decode cX7_takesNoun 82 = .ok (.aload_n 0, 1) := by decide +kernel
theorem dX7_takesNoun_83 : decode cX7_takesNoun 83 = .ok (.getfield 26, 3) := by decide +kernel
theorem dX7_takesNoun_86 : decode cX7_takesNoun 86 = .ok (.iload_n 3, 1) := by decide +kernel
theorem dX7_takesNoun_87 : decode cX7_takesNoun 87 = .ok (.iconst 1, 1) := by decide +kernel
theorem dX7_takesNoun_88 : decode cX7_takesNoun 88 = .ok (.iastore, 1) := by decide +kernel
theorem dX7_takesNoun_89 : decode cX7_takesNoun 89 = .ok (.aload_n 0, 1) := by decide +kernel
theorem dX7_takesNoun_90 : decode cX7_takesNoun 90 = .ok (.getfield 29, 3) := by decide +kernel
theorem dX7_takesNoun_93 : decode cX7_takesNoun 93 = .ok (.iload_n 3, 1) := by decide +kernel
theorem dX7_takesNoun_94 : decode cX7_takesNoun 94 = .ok (.iload_n 1, 1) := by decide +kernel
theorem dX7_takesNoun_95 : decode cX7_takesNoun 95 = .ok (.iastore, 1) := by decide +kernel
theorem dX7_takesNoun_96 : decode cX7_takesNoun 96 = .ok (.aload_n 0, 1) := by decide +kernel
theorem dX7_takesNoun_97 : decode cX7_takesNoun 97 = .ok (.iconst 5, 1) := by decide +kernel
theorem dX7_takesNoun_98 : decode cX7_takesNoun 98 = .ok (.iload_n 1, 1) := by decide +kernel
theorem dX7_takesNoun_99 : decode cX7_takesNoun 99 = .ok (.iconst 1, 1) := by decide +kernel
theorem dX7_takesNoun_100 : decode cX7_takesNoun 100 = .ok (.invokevirtual 98, 3) := by decide +kernel
theorem dX7_takesNoun_103 : decode cX7_takesNoun 103 = .ok (.goto 90, 3) := by decide +kernel
theorem dX7_takesNoun_106 : decode cX7_takesNoun 106 = .ok (.aload_n 0, 1) := by decide +kernel
theorem dX7_takesNoun_107 : decode cX7_takesNoun 107 = .ok (.getfield 26, 3) := by decide +kernel
theorem dX7_takesNoun_110 : decode cX7_takesNoun 110 = .ok (.iload_n 3, 1) := by decide +kernel
theorem dX7_takesNoun_111 : decode cX7_takesNoun 111 = .ok (.iaload, 1) := by decide +kernel
theorem dX7_takesNoun_112 : decode cX7_takesNoun 112 = .ok (.iconst 2, 1) := by decide +kernel
theorem dX7_takesNoun_113 : decode cX7_takesNoun 113 = .ok (.if_icmp .ne 32, 3) := by decide +kernel
theorem dX7_takesNoun_116 : decode cX7_takesNoun 116 = .ok (.aload_n 0, 1) := by decide +kernel
theorem dX7_takesNoun_117 : decode cX7_takesNoun 117 = .ok (.getfield 41, 3) := by decide +kernel
theorem dX7_takesNoun_120 : decode cX7_takesNoun 120 = .ok (.iload_n 1, 1) := by decide +kernel
theorem dX7_takesNoun_121 : decode cX7_takesNoun 121 = .ok (.aload_n 0, 1) := by decide +kernel
theorem dX7_takesNoun_122 : decode cX7_takesNoun 122 = .ok (.getfield 29, 3) := by decide +kernel
theorem dX7_takesNoun_125 : decode cX7_takesNoun 125 = .ok (.iload_n 3, 1) := by decide +kernel
theorem dX7_takesNoun_126 : decode cX7_takesNoun 126 = .ok (.iaload, 1) := by decide +kernel
theorem dX7_takesNoun_127 : decode cX7_takesNoun 127 = .ok (.iastore, 1) := by decide +kernel
theorem dX7_takesNoun_128 : decode cX7_takesNoun 128 = .ok (.aload_n 0, 1) := by decide +kernel
theorem dX7_takesNoun_129 : decode cX7_takesNoun 129 = .ok (.getfield 26, 3) := by decide +kernel
theorem dX7_takesNoun_132 : decode cX7_takesNoun 132 = .ok (.iload_n 3, 1) := by decide +kernel
theorem dX7_takesNoun_133 : decode cX7_takesNoun 133 = .ok (.iconst 3, 1) := by decide +kernel
theorem dX7_takesNoun_134 : decode cX7_takesNoun 134 = .ok (.iastore, 1) := by decide +kernel
theorem dX7_takesNoun_135 : decode cX7_takesNoun 135 = .ok (.aload_n 0, 1) := by decide +kernel
theorem dX7_takesNoun_136 : decode cX7_takesNoun 136 = .ok (.iconst 5, 1) := by decide +kernel
theorem dX7_takesNoun_137 : decode cX7_takesNoun 137 = .ok (.iload_n 1, 1) := by decide +kernel
theorem dX7_takesNoun_138 : decode cX7_takesNoun 138 = .ok (.iconst 1, 1) := by decide +kernel
theorem dX7_takesNoun_139 : decode cX7_takesNoun 139 = .ok (.invokevirtual 98, 3) := by decide +kernel
theorem dX7_takesNoun_142 : decode cX7_takesNoun 142 = .ok (.goto 51, 3) := by decide +kernel
theorem dX7_takesNoun_145 : decode cX7_takesNoun 145 = .ok (.aload_n 0, 1) := by decide +kernel
theorem dX7_takesNoun_146 : decode cX7_takesNoun 146 = .ok (.getfield 41, 3) := by decide +kernel
theorem dX7_takesNoun_149 : decode cX7_takesNoun 149 = .ok (.iload_n 1, 1) := by decide +kernel
theorem dX7_takesNoun_150 : decode cX7_takesNoun 150 = .ok (.aload_n 0, 1) := by decide +kernel
theorem dX7_takesNoun_151 : decode cX7_takesNoun 151 = .ok (.getfield 29, 3) := by decide +kernel
theorem dX7_takesNoun_154 : decode cX7_takesNoun 154 = .ok (.iload_n 3, 1) := by decide +kernel
theorem dX7_takesNoun_155 : decode cX7_takesNoun 155 = .ok (.iaload, 1) := by decide +kernel
theorem dX7_takesNoun_156 : decode cX7_takesNoun 156 = .ok (.iastore, 1) := by decide +kernel
theorem dX7_takesNoun_157 : decode cX7_takesNoun 157 = .ok (.aload_n 0, 1) := by decide +kernel
theorem dX7_takesNoun_158 : decode cX7_takesNoun 158 = .ok (.getfield 32, 3) := by decide +kernel
theorem dX7_takesNoun_161 : decode cX7_takesNoun 161 = .ok (.iload_n 3, 1) := by decide +kernel
theorem dX7_takesNoun_162 : decode cX7_takesNoun 162 = .ok (.aload_n 0, 1) := by decide +kernel
theorem dX7_takesNoun_163 : decode cX7_takesNoun 163 = .ok (.getfield 26, 3) := by decide +kernel
theorem dX7_takesNoun_166 : decode cX7_takesNoun 166 = .ok (.iload_n 3, 1) := by decide +kernel
theorem dX7_takesNoun_167 : decode cX7_takesNoun 167 = .ok (.iaload, 1) := by decide +kernel
theorem dX7_takesNoun_168 : decode cX7_takesNoun 168 = .ok (.bipush 7, 2) := by decide +kernel
theorem dX7_takesNoun_170 : decode cX7_takesNoun 170 = .ok (.if_icmp .ne 7, 3) := by decide +kernel
theorem dX7_takesNoun_173 : decode cX7_takesNoun 173 = .ok (.iconst 1, 1) := by decide +kernel
theorem dX7_takesNoun_174 : decode cX7_takesNoun 174 = .ok (.goto 4, 3) := by decide +kernel
theorem dX7_takesNoun_177 : decode cX7_takesNoun 177 = .ok (.iconst 0, 1) := by decide +kernel
theorem dX7_takesNoun_178 : decode cX7_takesNoun 178 = .ok (.iastore, 1) := by decide +kernel
theorem dX7_takesNoun_179 : decode cX7_takesNoun 179 = .ok (.aload_n 0, 1) := by decide +kernel
theorem dX7_takesNoun_180 : decode cX7_takesNoun 180 = .ok (.getfield 26, 3) := by decide +kernel
theorem dX7_takesNoun_183 : decode cX7_takesNoun 183 = .ok (.iload_n 3, 1) := by decide +kernel
theorem dX7_takesNoun_184 : decode cX7_takesNoun 184 = .ok (.iconst 5, 1) := by decide +kernel
theorem dX7_takesNoun_185 : decode cX7_takesNoun 185 = .ok (.iastore, 1) := by decide +kernel
theorem dX7_takesNoun_186 : decode cX7_takesNoun 186 = .ok (.aload_n 0, 1) := by decide +kernel
theorem dX7_takesNoun_187 : decode cX7_takesNoun 187 = .ok (.getfield 29, 3) := by decide +kernel
theorem dX7_takesNoun_190 : decode cX7_takesNoun 190 = .ok (.iload_n 3, 1) := by decide +kernel
theorem dX7_takesNoun_191 : decode cX7_takesNoun 191 = .ok (.iload_n 1, 1) := by decide +kernel
theorem dX7_takesNoun_192 : decode cX7_takesNoun 192 = .ok (.iastore, 1) := by decide +kernel
theorem dX7_takesNoun_193 : decode cX7_takesNoun 193 = .ok (.iconst 1, 1) := by decide +kernel
theorem dX7_takesNoun_194 : decode cX7_takesNoun 194 = .ok (.ireturn, 1) := by decide +kernel
theorem dX7_takesVerb_0 : decode cX7_takesVerb 0 = .ok (.aload_n 0, 1) := by decide +kernel
theorem dX7_takesVerb_1 : decode cX7_takesVerb 1 = .ok (.getfield 79, 3) := by decide +kernel
theorem dX7_takesVerb_4 : decode cX7_takesVerb 4 = .ok (.iconst 1, 1) := by decide +kernel
theorem dX7_takesVerb_5 : decode cX7_takesVerb 5 = .ok (.isub, 1) := by decide +kernel
theorem dX7_takesVerb_6 : decode cX7_takesVerb 6 = .ok (.istore_n 2, 1) := by decide +kernel
theorem dX7_takesVerb_7 : decode cX7_takesVerb 7 = .ok (.iload_n 2, 1) := by decide +kernel
theorem dX7_takesVerb_8 : decode cX7_takesVerb 8 = .ok (.ifCond .lt 19, 3) := by decide +kernel
theorem dX7_takesVerb_11 : decode cX7_takesVerb 11 = .ok (.aload_n 0, 1) := by decide +kernel
theorem dX7_takesVerb_12 : decode cX7_takesVerb 12 = .ok (.getfield 26, 3) := by decide +kernel
theorem dX7_takesVerb_15 : decode cX7_takesVerb 15 = .ok (.iload_n 2, 1) := by decide +kernel
theorem dX7_takesVerb_16 : decode cX7_takesVerb 16 = .ok (.iaload, 1) := by decide +kernel
theorem dX7_takesVerb_17 : decode cX7_takesVerb 17 = .ok (.iconst 5, 1) := by decide +kernel
theorem dX7_takesVerb_18 : decode cX7_takesVerb 18 = .ok (.if_icmp .ne 9, 3) := by decide +kernel
theorem dX7_takesVerb_21 : decode cX7_takesVerb 21 = .ok (.iinc 2 (-1), 3) := by decide +kernel
theorem dX7_takesVerb_24 : decode cX7_takesVerb 24 = .ok (.goto (-17), 3) := by decide +kernel
theorem dX7_takesVerb_27 : decode cX7_takesVerb 27 = .ok (.iload_n 2, 1) := by decide +kernel
theorem dX7_takesVerb_28 : decode cX7_takesVerb 28 = .ok (.ifCond .lt 13, 3) := by decide +kernel
theorem dX7_takesVerb_31 : decode cX7_takesVerb 31 = .ok (.aload_n 0, 1) := by decide +kernel
theorem dX7_takesVerb_32 : decode cX7_takesVerb 32 = .ok (.getfield 26, 3) := by decide +kernel
theorem dX7_takesVerb_35 : decode cX7_takesVerb 35 = .ok (.iload_n 2, 1) := by decide +kernel
theorem dX7_takesVerb_36 : decode cX7_takesVerb 36 = .ok (.iaload, 1) := by decide +kernel
theorem dX7_takesVerb_37 : decode cX7_takesVerb 37 = .ok (.iconst 1, 1) := by decide +kernel
theorem dX7_takesVerb_38 : decode cX7_takesVerb 38 = .ok (.if_icmp .eq 5, 3) := by decide +kernel
theorem dX7_takesVerb_41 : decode cX7_takesVerb 41 = .ok (.iconst 0, 1) := by decide +kernel
theorem dX7_takesVerb_42 : decode cX7_takesVerb 42 = .ok (.ireturn, 1) := by decide +kernel
theorem dX7_takesVerb_43 : decode cX7_takesVerb 43 = .ok (.aload_n 0, 1) := by decide +kernel
theorem dX7_takesVerb_44 : decode cX7_takesVerb 44 = .ok (.getfield 41, 3) := by decide +kernel
theorem dX7_takesVerb_47 : decode cX7_takesVerb 47 = .ok (.aload_n 0, 1) := by decide +kernel
theorem dX7_takesVerb_48 : decode cX7_takesVerb 48 = .ok (.getfield 29, 3) := by decide +kernel
theorem dX7_takesVerb_51 : decode cX7_takesVerb 51 = .ok (.iload_n 2, 1) := by decide +kernel
theorem dX7_takesVerb_52 : decode cX7_takesVerb 52 = .ok (.iaload, 1) := by decide +kernel
theorem dX7_takesVerb_53 : decode cX7_takesVerb 53 = .ok (.iload_n 1, 1) := by decide +kernel
theorem dX7_takesVerb_54 : decode cX7_takesVerb 54 = .ok (.iastore, 1) := by decide +kernel
theorem dX7_takesVerb_55 : decode cX7_takesVerb 55 = .ok (.aload_n 0, 1) := by decide +kernel
theorem dX7_takesVerb_56 : decode cX7_takesVerb 56 = .ok (.getfield 41, 3) := by decide +kernel
theorem dX7_takesVerb_59 : decode cX7_takesVerb 59 = .ok (.iload_n 1, 1) := by decide +kernel
theorem dX7_takesVerb_60 : decode cX7_takesVerb 60 = .ok (.aload_n 0, 1) := by decide +kernel
theorem dX7_takesVerb_61 : decode cX7_takesVerb 61 = .ok (.getfield 32, 3) := by decide +kernel
theorem dX7_takesVerb_64 : decode cX7_takesVerb 64 = .ok (.iload_n 2, 1) := by decide +kernel
theorem dX7_takesVerb_65 : decode cX7_takesVerb 65 = .ok (.iaload, 1) := by decide +kernel
theorem dX7_takesVerb_66 : decode cX7_takesVerb 66 = .ok (.iastore, 1) := by decide +kernel
theorem dX7_takesVerb_67 : decode cX7_takesVerb 67 = .ok (.aload_n 0, 1) := by decide +kernel
theorem dX7_takesVerb_68 : decode cX7_takesVerb 68 = .ok (.getfield 26, 3) := by decide +kernel
theorem dX7_takesVerb_71 : decode cX7_takesVerb 71 = .ok (.iload_n 2, 1) := by decide +kernel
theorem dX7_takesVerb_72 : decode cX7_takesVerb 72 = .ok (.iconst 2, 1) := by decide +kernel
theorem dX7_takesVerb_73 : decode cX7_takesVerb 73 = .ok (.iastore, 1) := by decide +kernel
theorem dX7_takesVerb_74 : decode cX7_takesVerb 74 = .ok (.aload_n 0, 1) := by decide +kernel
theorem dX7_takesVerb_75 : decode cX7_takesVerb 75 = .ok (.getfield 29, 3) := by decide +kernel
theorem dX7_takesVerb_78 : decode cX7_takesVerb 78 = .ok (.iload_n 2, 1) := by decide +kernel
theorem dX7_takesVerb_79 : decode cX7_takesVerb 79 = .ok (.iload_n 1, 1) := by decide +kernel
theorem dX7_takesVerb_80 : decode cX7_takesVerb 80 = .ok (.iastore, 1) := by decide +kernel
theorem dX7_takesVerb_81 : decode cX7_takesVerb 81 = .ok (.aload_n 0, 1) := by decide +kernel
theorem dX7_takesVerb_82 : decode cX7_takesVerb 82 = .ok (.iload_n 2, 1) := by decide +kernel
theorem dX7_takesVerb_83 : decode cX7_takesVerb 83 = .ok (.iconst 1, 1) := by decide +kernel
theorem dX7_takesVerb_84 : decode cX7_takesVerb 84 = .ok (.iadd, 1) := by decide +kernel
theorem dX7_takesVerb_85 : decode cX7_takesVerb 85 = .ok (.putfield 79, 3) := by decide +kernel
theorem dX7_takesVerb_88 : decode cX7_takesVerb 88 = .ok (.iconst 1, 1) := by decide +kernel
theorem dX7_takesVerb_89 : decode cX7_takesVerb 89 = .ok (.ireturn, 1) := by decide +kernel
theorem dX7_takesHanging_0 : decode cX7_takesHanging 0 = .ok (.aload_n 0, 1) := by decide +kernel
theorem dX7_takesHanging_1 : decode cX7_takesHanging 1 = .ok (.iload_n 1, 1) := by decide +kernel
theorem dX7_takesHanging_2 : decode cX7_takesHanging 2 = .ok (.invokevirtual 102, 3) := by decide +kernel
theorem dX7_takesHanging_5 : decode cX7_takesHanging 5 = .ok (.istore_n 2, 1) := by decide +kernel
theorem dX7_takesHanging_6 : decode cX7_takesHanging 6 = .ok (.iload_n 2, 1) := by decide +kernel
theorem dX7_takesHanging_7 : decode cX7_takesHanging 7 = .ok (.iconst (-1), 1) := by decide +kernel
theorem dX7_takesHanging_8 : decode cX7_takesHanging 8 = .ok (.if_icmp .ne 5, 3) := by decide +kernel
theorem dX7_takesHanging_11 : decode cX7_takesHanging 11 = .ok (.iconst 0, 1) := by decide +kernel
theorem dX7_takesHanging_12 : decode cX7_takesHanging 12 = .ok (.ireturn, 1) := by decide +kernel
theorem dX7_takesHanging_13 : decode cX7_takesHanging 13 = .ok (.aload_n 0, 1) := by decide +kernel
theorem dX7_takesHanging_14 : decode cX7_takesHanging 14 = .ok (.iload_n 2, 1) := by decide +kernel
theorem dX7_takesHanging_15 : decode cX7_takesHanging 15 = .ok (.iconst 1, 1) := by decide +kernel
theorem dX7_takesHanging_16 : decode cX7_takesHanging 16 = .ok (.iadd, 1) := by decide +kernel
theorem dX7_takesHanging_17 : decode cX7_takesHanging 17 = .ok (.putfield 79, 3) := by decide +kernel
theorem dX7_takesHanging_20 : decode cX7_takesHanging 20 = .ok (.aload_n 0, 1) := by decide +kernel
theorem dX7_takesHanging_21 : decode cX7_takesHanging 21 = .ok (.getfield 41, 3) := by decide +kernel
theorem dX7_takesHanging_24 : decode cX7_takesHanging 24 = .ok (.iload_n 1, 1) := by decide +kernel
theorem dX7_takesHanging_25 : decode cX7_takesHanging 25 = .ok (.aload_n 0, 1) := by decide +kernel
theorem dX7_takesHanging_26 : decode cX7_takesHanging 26 = .ok (.getfield 29, 3) := by decide +kernel
theorem dX7_takesHanging_29 : decode cX7_takesHanging 29 = .ok (.iload_n 2, 1) := by decide +kernel
theorem dX7_takesHanging_30 : decode cX7_takesHanging 30 = .ok (.iaload, 1) := by decide +kernel
theorem dX7_takesHanging_31 : decode cX7_takesHanging 31 = .ok (.iastore, 1) := by decide +kernel
theorem dX7_takesHanging_32 : decode cX7_takesHanging 32 = .ok (.aload_n 0, 1) := by decide +kernel
theorem dX7_takesHanging_33 : decode cX7_takesHanging 33 = .ok (.getfield 26, 3) := by decide +kernel
theorem dX7_takesHanging_36 : decode cX7_takesHanging 36 = .ok (.iload_n 2, 1) := by decide +kernel
theorem dX7_takesHanging_37 : decode cX7_takesHanging 37 = .ok (.aload_n 0, 1) := by decide +kernel
theorem dX7_takesHanging_38 : decode cX7_takesHanging 38 = .ok (.getfield 26, 3) := by decide +kernel
theorem dX7_takesHanging_41 : decode cX7_takesHanging 41 = .ok (.iload_n 2, 1) := by decide +kernel
theorem dX7_takesHanging_42 : decode cX7_takesHanging 42 = .ok (.iaload, 1) := by decide +kernel
theorem dX7_takesHanging_43 : decode cX7_takesHanging 43 = .ok (.iconst 2, 1) := by decide +kernel
theorem dX7_takesHanging_44 : decode cX7_takesHanging 44 = .ok (.if_icmp .ne 7, 3) := by decide +kernel
theorem dX7_takesHanging_47 : decode cX7_takesHanging 47 = .ok (.iconst 3, 1) := by decide +kernel
theorem dX7_takesHanging_48 : decode cX7_takesHanging 48 = .ok (.goto 9, 3) := by decide +kernel
theorem dX7_takesHanging_51 : decode cX7_takesHanging 51 = .ok (.aload_n 0, 1) := by decide +kernel
theorem dX7_takesHanging_52 : decode cX7_takesHanging 52 = .ok (.getfield 26, 3) := by decide +kernel
theorem dX7_takesHanging_55 : decode cX7_takesHanging 55 = .ok (.iload_n 2, 1) := by decide +kernel
theorem dX7_takesHanging_56 : decode cX7_takesHanging 56 = .ok (.iaload, 1) := by decide +kernel
theorem dX7_takesHanging_57 : decode cX7_takesHanging 57 = .ok (.iastore, 1) := by decide +kernel
theorem dX7_takesHanging_58 : decode cX7_takesHanging 58 = .ok (.aload_n 0, 1) := by decide +kernel
theorem dX7_takesHanging_59 : decode cX7_takesHanging 59 = .ok (.iload_n 1, 1) := by decide +kernel
theorem dX7_takesHanging_60 : decode cX7_takesHanging 60 = .ok (.invokevirtual 86, 3) := by decide +kernel
theorem dX7_takesHanging_63 : decode cX7_takesHanging 63 = .ok (.iconst 4, 1) := by decide +kernel
theorem dX7_takesHanging_64 : decode cX7_takesHanging 64 = .ok (.if_icmp .ne 14, 3) := by decide +kernel
theorem dX7_takesHanging_67 : decode cX7_takesHanging 67 = .ok (.aload_n 0, 1) := by decide +kernel
theorem dX7_takesHanging_68 : decode cX7_takesHanging 68 = .ok (.bipush 7, 2) := by decide +kernel
theorem dX7_takesHanging_70 : decode cX7_takesHanging 70 = .ok (.iload_n 1, 1) := by decide +kernel
theorem dX7_takesHanging_71 : decode cX7_takesHanging 71 = .ok (.iconst 0, 1) := by decide +kernel
theorem dX7_takesHanging_72 : decode cX7_takesHanging 72 = .ok (.invokevirtual 98, 3) := by decide +kernel
theorem dX7_takesHanging_75 : decode cX7_takesHanging 75 = .ok (.goto 27, 3) := by decide +kernel
theorem dX7_takesHanging_78 : decode cX7_takesHanging 78 = .ok (.aload_n 0, 1) := by decide +kernel
theorem dX7_takesHanging_79 : decode cX7_takesHanging 79 = .ok (.iload_n 1, 1) := by decide +kernel
theorem dX7_takesHanging_80 : decode cX7_takesHanging 80 = .ok (.invokevirtual 86, 3) := by decide +kernel
theorem dX7_takesHanging_83 : decode cX7_takesHanging 83 = .ok (.iconst 5, 1) := by decide +kernel
theorem dX7_takesHanging_84 : decode cX7_takesHanging 84 = .ok (.if_icmp .ne 18, 3) := by decide +kernel
theorem dX7_takesHanging_87 : decode cX7_takesHanging 87 = .ok (.aload_n 0, 1) := by decide +kernel
theorem dX7_takesHanging_88 : decode cX7_takesHanging 88 = .ok (.getfield 26, 3) := by decide +kernel
theorem dX7_takesHanging_91 : decode cX7_takesHanging 91 = .ok (.iload_n 2, 1) := by decide +kernel
theorem dX7_takesHanging_92 : decode cX7_takesHanging 92 = .ok (.bipush 6, 2) := by decide +kernel
theorem dX7_takesHanging_94 : decode cX7_takesHanging 94 = .ok (.iastore, 1) := by decide +kernel
theorem dX7_takesHanging_95 : decode cX7_takesHanging 95 = .ok (.aload_n 0, 1) := by decide +kernel
theorem dX7_takesHanging_96 : decode cX7_takesHanging 96 = .ok (.getfield 29, 3) := by decide +kernel
theorem dX7_takesHanging_99 : decode cX7_takesHanging 99 = .ok (.iload_n 2, 1) := by decide +kernel
theorem dX7_takesHanging_100 : decode cX7_takesHanging 100 = .ok (.iload_n 1, 1) := by decide +kernel
theorem dX7_takesHanging_101 : decode cX7_takesHanging 101 = .ok (.iastore, 1) := by decide +kernel
theorem dX7_takesHanging_102 : decode cX7_takesHanging 102 = .ok (.iconst 1, 1) := by decide +kernel
theorem dX7_takesHanging_103 : decode cX7_takesHanging 103 = .ok (.ireturn, 1) := by decide +kernel
theorem dX7_takesOpener_0 : decode cX7_takesOpener 0 = .ok (.aload_n 0, 1) := by decide +kernel
theorem dX7_takesOpener_1 : decode cX7_takesOpener 1 = .ok (.getfield 79, 3) := by decide +kernel
theorem dX7_takesOpener_4 : decode cX7_takesOpener 4 = .ok (.iconst 1, 1) := by decide +kernel
theorem dX7_takesOpener_5 : decode cX7_takesOpener 5 = .ok (.isub, 1) := by decide +kernel
theorem dX7_takesOpener_6 : decode cX7_takesOpener 6 = .ok (.istore_n 2, 1) := by decide +kernel
theorem dX7_takesOpener_7 : decode cX7_takesOpener 7 = .ok (.aload_n 0, 1) := by decide +kernel
theorem dX7_takesOpener_8 : decode cX7_takesOpener 8 = .ok (.getfield 26, 3) := by decide +kernel
theorem dX7_takesOpener_11 : decode cX7_takesOpener 11 = .ok (.iload_n 2, 1) := by decide +kernel
theorem dX7_takesOpener_12 : decode cX7_takesOpener 12 = .ok (.iaload, 1) := by decide +kernel
theorem dX7_takesOpener_13 : decode cX7_takesOpener 13 = .ok (.iconst 2, 1) := by decide +kernel
theorem dX7_takesOpener_14 : decode cX7_takesOpener 14 = .ok (.if_icmp .eq 5, 3) := by decide +kernel
theorem dX7_takesOpener_17 : decode cX7_takesOpener 17 = .ok (.iconst 0, 1) := by decide +kernel
theorem dX7_takesOpener_18 : decode cX7_takesOpener 18 = .ok (.ireturn, 1) := by decide +kernel
theorem dX7_takesOpener_19 : decode cX7_takesOpener 19 = .ok (.aload_n 0, 1) := by decide +kernel
theorem dX7_takesOpener_20 : decode cX7_takesOpener 20 = .ok (.getfield 41, 3) := by decide +kernel
theorem dX7_takesOpener_23 : decode cX7_takesOpener 23 = .ok (.iload_n 1, 1) := by decide +kernel
theorem dX7_takesOpener_24 : decode cX7_takesOpener 24 = .ok (.aload_n 0, 1) := by decide +kernel
theorem dX7_takesOpener_25 : decode cX7_takesOpener 25 = .ok (.getfield 29, 3) := by decide +kernel
theorem dX7_takesOpener_28 : decode cX7_takesOpener 28 = .ok (.iload_n 2, 1) := by decide +kernel
theorem dX7_takesOpener_29 : decode cX7_takesOpener 29 = .ok (.iaload, 1) := by decide +kernel
theorem dX7_takesOpener_30 : decode cX7_takesOpener 30 = .ok (.iastore, 1) := by decide +kernel
theorem dX7_takesOpener_31 : decode cX7_takesOpener 31 = .ok (.aload_n 0, 1) := by decide +kernel
theorem dX7_takesOpener_32 : decode cX7_takesOpener 32 = .ok (.getfield 26, 3) := by decide +kernel
theorem dX7_takesOpener_35 : decode cX7_takesOpener 35 = .ok (.iload_n 2, 1) := by decide +kernel
theorem dX7_takesOpener_36 : decode cX7_takesOpener 36 = .ok (.iconst 3, 1) := by decide +kernel
theorem dX7_takesOpener_37 : decode cX7_takesOpener 37 = .ok (.iastore, 1) := by decide +kernel
theorem dX7_takesOpener_38 : decode cX7_takesOpener 38 = .ok (.aload_n 0, 1) := by decide +kernel
theorem dX7_takesOpener_39 : decode cX7_takesOpener 39 = .ok (.iconst 0, 1) := by decide +kernel
theorem dX7_takesOpener_40 : decode cX7_takesOpener 40 = .ok (.iconst 0, 1) := by decide +kernel
theorem dX7_takesOpener_41 : decode cX7_takesOpener 41 = .ok (.iload_n 1, 1) := by decide +kernel
theorem dX7_takesOpener_42 : decode cX7_takesOpener 42 = .ok (.invokevirtual 98, 3) := by decide +kernel
theorem dX7_takesOpener_45 : decode cX7_takesOpener 45 = .ok (.iconst 1, 1) := by decide +kernel
theorem dX7_takesOpener_46 : decode cX7_takesOpener 46 = .ok (.ireturn, 1) := by decide +kernel
theorem dX7_takes_0 : decode cX7_takes 0 = .ok (.aload_n 0, 1) := by decide +kernel
theorem dX7_takes_1 : decode cX7_takes 1 = .ok (.getfield 38, 3) := by decide +kernel
theorem dX7_takes_4 : decode cX7_takes 4 = .ok (.iload_n 1, 1) := by decide +kernel
theorem dX7_takes_5 : decode cX7_takes 5 = .ok (.iconst 1, 1) := by decide +kernel
theorem dX7_takes_6 : decode cX7_takes 6 = .ok (.iastore, 1) := by decide +kernel
theorem dX7_takes_7 : decode cX7_takes 7 = .ok (.aload_n 0, 1) := by decide +kernel
theorem dX7_takes_8 : decode cX7_takes 8 = .ok (.iload_n 1, 1) := by decide +kernel
theorem dX7_takes_9 : decode cX7_takes 9 = .ok (.invokevirtual 86, 3) := by decide +kernel
theorem dX7_takes_12 : decode cX7_takes 12 = .ok (.tableswitch 68 0 6 #[44, 50, 56, 68, 68, 68, 62], 44) := by decide +kernel
theorem dX7_takes_56 : decode cX7_takes 56 = .ok (.aload_n 0, 1) := by decide +kernel
theorem dX7_takes_57 : decode cX7_takes 57 = .ok (.iload_n 1, 1) := by decide +kernel
theorem dX7_takes_58 : decode cX7_takes 58 = .ok (.invokevirtual 105, 3) := by decide +kernel
theorem dX7_takes_61 : decode cX7_takes 61 = .ok (.ireturn, 1) := by decide +kernel
theorem dX7_takes_62 : decode cX7_takes 62 = .ok (.aload_n 0, 1) := by decide +kernel
theorem dX7_takes_63 : decode cX7_takes 63 = .ok (.iload_n 1, 1) := by decide +kernel
theorem dX7_takes_64 : decode cX7_takes 64 = .ok (.invokevirtual 108, 3) := by decide +kernel
theorem dX7_takes_67 : decode cX7_takes 67 = .ok (.ireturn, 1) := by decide +kernel
theorem dX7_takes_68 : decode cX7_takes 68 = .ok (.aload_n 0, 1) := by decide +kernel
theorem dX7_takes_69 : decode cX7_takes 69 = .ok (.iload_n 1, 1) := by decide +kernel
theorem dX7_takes_70 : decode cX7_takes 70 = .ok (.invokevirtual 111, 3) := by decide +kernel
theorem dX7_takes_73 : decode cX7_takes 73 = .ok (.ireturn, 1) := by decide +kernel
theorem dX7_takes_74 : decode cX7_takes 74 = .ok (.aload_n 0, 1) := by decide +kernel
theorem dX7_takes_75 : decode cX7_takes 75 = .ok (.iload_n 1, 1) := by decide +kernel
theorem dX7_takes_76 : decode cX7_takes 76 = .ok (.invokevirtual 114, 3) := by decide +kernel
theorem dX7_takes_79 : decode cX7_takes 79 = .ok (.ireturn, 1) := by decide +kernel
theorem dX7_takes_80 : decode cX7_takes 80 = .ok (.aload_n 0, 1) := by decide +kernel
theorem dX7_takes_81 : decode cX7_takes 81 = .ok (.iload_n 1, 1) := by decide +kernel
theorem dX7_takes_82 : decode cX7_takes 82 = .ok (.invokevirtual 117, 3) := by decide +kernel
theorem dX7_takes_85 : decode cX7_takes 85 = .ok (.ireturn, 1) := by decide +kernel
theorem dX7_reads_0 : decode cX7_reads 0 = .ok (.aload_n 0, 1) := by decide +kernel
theorem dX7_reads_1 : decode cX7_reads 1 = .ok (.iconst 0, 1) := by decide +kernel
theorem dX7_reads_2 : decode cX7_reads 2 = .ok (.putfield 79, 3) := by decide +kernel
theorem dX7_reads_5 : decode cX7_reads 5 = .ok (.aload_n 0, 1) := by decide +kernel
theorem dX7_reads_6 : decode cX7_reads 6 = .ok (.iconst 0, 1) := by decide +kernel
theorem dX7_reads_7 : decode cX7_reads 7 = .ok (.iconst 0, 1) := by decide +kernel
theorem dX7_reads_8 : decode cX7_reads 8 = .ok (.iconst (-1), 1) := by decide +kernel
theorem dX7_reads_9 : decode cX7_reads 9 = .ok (.invokevirtual 98, 3) := by decide +kernel
theorem dX7_reads_12 : decode cX7_reads 12 = .ok (.iconst 0, 1) := by decide +kernel
theorem dX7_reads_13 : decode cX7_reads 13 = .ok (.istore_n 1, 1) := by decide +kernel
theorem dX7_reads_14 : decode cX7_reads 14 = .ok (.iload_n 1, 1) := by decide +kernel
theorem dX7_reads_15 : decode cX7_reads 15 = .ok (.aload_n 0, 1) := by decide +kernel
theorem dX7_reads_16 : decode cX7_reads 16 = .ok (.getfield 7, 3) := by decide +kernel
theorem dX7_reads_19 : decode cX7_reads 19 = .ok (.iconst 0, 1) := by decide +kernel
theorem dX7_reads_20 : decode cX7_reads 20 = .ok (.iaload, 1) := by decide +kernel
theorem dX7_reads_21 : decode cX7_reads 21 = .ok (.if_icmp .ge 17, 3) := by decide +kernel
theorem dX7_reads_24 : decode cX7_reads 24 = .ok (.aload_n 0, 1) := by decide +kernel
theorem dX7_reads_25 : decode cX7_reads 25 = .ok (.iload_n 1, 1) := by decide +kernel
theorem dX7_reads_26 : decode cX7_reads 26 = .ok (.invokevirtual 120, 3) := by decide +kernel
theorem dX7_reads_29 : decode cX7_reads 29 = .ok (.ifCond .eq 9, 3) := by decide +kernel
theorem dX7_reads_32 : decode cX7_reads 32 = .ok (.iinc 1 1, 3) := by decide +kernel
theorem dX7_reads_35 : decode cX7_reads 35 = .ok (.goto (-21), 3) := by decide +kernel
theorem dX7_reads_38 : decode cX7_reads 38 = .ok (.iload_n 1, 1) := by decide +kernel
theorem dX7_reads_39 : decode cX7_reads 39 = .ok (.ireturn, 1) := by decide +kernel
theorem dX7_isWhole_0 : decode cX7_isWhole 0 = .ok (.aload_n 0, 1) := by decide +kernel
theorem dX7_isWhole_1 : decode cX7_isWhole 1 = .ok (.getfield 7, 3) := by decide +kernel
theorem dX7_isWhole_4 : decode cX7_isWhole 4 = .ok (.iconst 0, 1) := by decide +kernel
theorem dX7_isWhole_5 : decode cX7_isWhole 5 = .ok (.iaload, 1) := by decide +kernel
theorem dX7_isWhole_6 : decode cX7_isWhole 6 = .ok (.ifCond .le 7, 3) := by decide +kernel
theorem dX7_isWhole_9 : decode cX7_isWhole 9 = .ok (.iconst 1, 1) := by decide +kernel
theorem dX7_isWhole_10 : decode cX7_isWhole 10 = .ok (.goto 4, 3) := by decide +kernel
theorem dX7_isWhole_13 : decode cX7_isWhole 13 = .ok (.iconst 0, 1) := by decide +kernel
theorem dX7_isWhole_14 : decode cX7_isWhole 14 = .ok (.istore_n 1, 1) := by decide +kernel
theorem dX7_isWhole_15 : decode cX7_isWhole 15 = .ok (.iconst 0, 1) := by decide +kernel
theorem dX7_isWhole_16 : decode cX7_isWhole 16 = .ok (.istore_n 2, 1) := by decide +kernel
theorem dX7_isWhole_17 : decode cX7_isWhole 17 = .ok (.iload_n 2, 1) := by decide +kernel
theorem dX7_isWhole_18 : decode cX7_isWhole 18 = .ok (.aload_n 0, 1) := by decide +kernel
theorem dX7_isWhole_19 : decode cX7_isWhole 19 = .ok (.getfield 79, 3) := by decide +kernel
theorem dX7_isWhole_22 : decode cX7_isWhole 22 = .ok (.if_icmp .ge 27, 3) := by decide +kernel
theorem dX7_isWhole_25 : decode cX7_isWhole 25 = .ok (.iload_n 1, 1) := by decide +kernel
theorem dX7_isWhole_26 : decode cX7_isWhole 26 = .ok (.ifCond .eq 15, 3) := by decide +kernel
theorem dX7_isWhole_29 : decode cX7_isWhole 29 = .ok (.aload_n 0, 1) := by decide +kernel
theorem dX7_isWhole_30 : decode cX7_isWhole 30 = .ok (.iload_n 2, 1) := by decide +kernel
theorem dX7_isWhole_31 : decode cX7_isWhole 31 = .ok (.invokevirtual 82, 3) := by decide +kernel
theorem dX7_isWhole_34 : decode cX7_isWhole 34 = .ok (.ifCond .eq 7, 3) := by decide +kernel
theorem dX7_isWhole_37 : decode cX7_isWhole 37 = .ok (.iconst 1, 1) := by decide +kernel
theorem dX7_isWhole_38 : decode cX7_isWhole 38 = .ok (.goto 4, 3) := by decide +kernel
theorem dX7_isWhole_41 : decode cX7_isWhole 41 = .ok (.iconst 0, 1) := by decide +kernel
theorem dX7_isWhole_42 : decode cX7_isWhole 42 = .ok (.istore_n 1, 1) := by decide +kernel
theorem dX7_isWhole_43 : decode cX7_isWhole 43 = .ok (.iinc 2 1, 3) := by decide +kernel
theorem dX7_isWhole_46 : decode cX7_isWhole 46 = .ok (.goto (-29), 3) := by decide +kernel
theorem dX7_isWhole_49 : decode cX7_isWhole 49 = .ok (.iload_n 1, 1) := by decide +kernel
theorem dX7_isWhole_50 : decode cX7_isWhole 50 = .ok (.ireturn, 1) := by decide +kernel
theorem dX7_isAhead_0 : decode cX7_isAhead 0 = .ok (.iconst 0, 1) := by decide +kernel
theorem dX7_isAhead_1 : decode cX7_isAhead 1 = .ok (.istore_n 2, 1) := by decide +kernel
theorem dX7_isAhead_2 : decode cX7_isAhead 2 = .ok (.iload_n 2, 1) := by decide +kernel
theorem dX7_isAhead_3 : decode cX7_isAhead 3 = .ok (.aload_n 0, 1) := by decide +kernel
theorem dX7_isAhead_4 : decode cX7_isAhead 4 = .ok (.getfield 7, 3) := by decide +kernel
theorem dX7_isAhead_7 : decode cX7_isAhead 7 = .ok (.iconst 0, 1) := by decide +kernel
theorem dX7_isAhead_8 : decode cX7_isAhead 8 = .ok (.iaload, 1) := by decide +kernel
theorem dX7_isAhead_9 : decode cX7_isAhead 9 = .ok (.if_icmp .ge 47, 3) := by decide +kernel
theorem dX7_isAhead_12 : decode cX7_isAhead 12 = .ok (.aload_n 0, 1) := by decide +kernel
theorem dX7_isAhead_13 : decode cX7_isAhead 13 = .ok (.getfield 44, 3) := by decide +kernel
theorem dX7_isAhead_16 : decode cX7_isAhead 16 = .ok (.bipush 12, 2) := by decide +kernel
theorem dX7_isAhead_18 : decode cX7_isAhead 18 = .ok (.iload_n 1, 1) := by decide +kernel
theorem dX7_isAhead_19 : decode cX7_isAhead 19 = .ok (.imul, 1) := by decide +kernel
theorem dX7_isAhead_20 : decode cX7_isAhead 20 = .ok (.iload_n 2, 1) := by decide +kernel
theorem dX7_isAhead_21 : decode cX7_isAhead 21 = .ok (.iadd, 1) := by decide +kernel
theorem dX7_isAhead_22 : decode cX7_isAhead 22 = .ok (.iaload, 1) := by decide +kernel
theorem dX7_isAhead_23 : decode cX7_isAhead 23 = .ok (.istore_n 3, 1) := by decide +kernel
theorem dX7_isAhead_24 : decode cX7_isAhead 24 = .ok (.aload_n 0, 1) := by decide +kernel
theorem dX7_isAhead_25 : decode cX7_isAhead 25 = .ok (.getfield 41, 3) := by decide +kernel
theorem dX7_isAhead_28 : decode cX7_isAhead 28 = .ok (.iload_n 2, 1) := by decide +kernel
theorem dX7_isAhead_29 : decode cX7_isAhead 29 = .ok (.iaload, 1) := by decide +kernel
theorem dX7_isAhead_30 : decode cX7_isAhead 30 = .ok (.iload_n 3, 1) := by decide +kernel
theorem dX7_isAhead_31 : decode cX7_isAhead 31 = .ok (.if_icmp .eq 19, 3) := by decide +kernel
theorem dX7_isAhead_34 : decode cX7_isAhead 34 = .ok (.aload_n 0, 1) := by decide +kernel
theorem dX7_isAhead_35 : decode cX7_isAhead 35 = .ok (.getfield 41, 3) := by decide +kernel
theorem dX7_isAhead_38 : decode cX7_isAhead 38 = .ok (.iload_n 2, 1) := by decide +kernel
theorem dX7_isAhead_39 : decode cX7_isAhead 39 = .ok (.iaload, 1) := by decide +kernel
theorem dX7_isAhead_40 : decode cX7_isAhead 40 = .ok (.iload_n 3, 1) := by decide +kernel
theorem dX7_isAhead_41 : decode cX7_isAhead 41 = .ok (.if_icmp .ge 7, 3) := by decide +kernel
theorem dX7_isAhead_44 : decode cX7_isAhead 44 = .ok (.iconst 1, 1) := by decide +kernel
theorem dX7_isAhead_45 : decode cX7_isAhead 45 = .ok (.goto 4, 3) := by decide +kernel
theorem dX7_isAhead_48 : decode cX7_isAhead 48 = .ok (.iconst 0, 1) := by decide +kernel
theorem dX7_isAhead_49 : decode cX7_isAhead 49 = .ok (.ireturn, 1) := by decide +kernel
theorem dX7_isAhead_50 : decode cX7_isAhead 50 = .ok (.iinc 2 1, 3) := by decide +kernel
theorem dX7_isAhead_53 : decode cX7_isAhead 53 = .ok (.goto (-51), 3) := by decide +kernel
theorem dX7_isAhead_56 : decode cX7_isAhead 56 = .ok (.iconst 0, 1) := by decide +kernel
theorem dX7_isAhead_57 : decode cX7_isAhead 57 = .ok (.ireturn, 1) := by decide +kernel
theorem dX7_laysReading_0 : decode cX7_laysReading 0 = .ok (.aload_n 0, 1) := by decide +kernel
theorem dX7_laysReading_1 : decode cX7_laysReading 1 = .ok (.getfield 123, 3) := by decide +kernel
theorem dX7_laysReading_4 : decode cX7_laysReading 4 = .ok (.sipush 400, 3) := by decide +kernel
theorem dX7_laysReading_7 : decode cX7_laysReading 7 = .ok (.if_icmp .ge 10, 3) := by decide +kernel
theorem dX7_laysReading_10 : decode cX7_laysReading 10 = .ok (.aload_n 0, 1) := by decide +kernel
theorem dX7_laysReading_11 : decode cX7_laysReading 11 = .ok (.getfield 123, 3) := by decide +kernel
theorem dX7_laysReading_14 : decode cX7_laysReading 14 = .ok (.goto 6, 3) := by decide +kernel
theorem dX7_laysReading_17 : decode cX7_laysReading 17 = .ok (.sipush 399, 3) := by decide +kernel
theorem dX7_laysReading_20 : decode cX7_laysReading 20 = .ok (.istore_n 1, 1) := by decide +kernel
theorem dX7_laysReading_21 : decode cX7_laysReading 21 = .ok (.iload_n 1, 1) := by decide +kernel
theorem dX7_laysReading_22 : decode cX7_laysReading 22 = .ok (.ifCond .le 57, 3) := by decide +kernel
theorem dX7_laysReading_25 : decode cX7_laysReading 25 = .ok (.aload_n 0, 1) := by decide +kernel
theorem dX7_laysReading_26 : decode cX7_laysReading 26 = .ok (.iload_n 1, 1) := by decide +kernel
theorem dX7_laysReading_27 : decode cX7_laysReading 27 = .ok (.iconst 1, 1) := by decide +kernel
theorem dX7_laysReading_28 : decode cX7_laysReading 28 = .ok (.isub, 1) := by decide +kernel
theorem dX7_laysReading_29 : decode cX7_laysReading 29 = .ok (.invokevirtual 126, 3) := by decide +kernel
theorem dX7_laysReading_32 : decode cX7_laysReading 32 = .ok (.ifCond .eq 47, 3) := by decide +kernel
theorem dX7_laysReading_35 : decode cX7_laysReading 35 = .ok (.iconst 0, 1) := by decide +kernel
theorem dX7_laysReading_36 : decode cX7_laysReading 36 = .ok (.istore_n 2, 1) := by decide +kernel
theorem dX7_laysReading_37 : decode cX7_laysReading 37 = .ok (.iload_n 2, 1) := by decide +kernel
theorem dX7_laysReading_38 : decode cX7_laysReading 38 = .ok (.bipush 12, 2) := by decide +kernel
theorem dX7_laysReading_40 : decode cX7_laysReading 40 = .ok (.if_icmp .ge 33, 3) := by decide +kernel
theorem dX7_laysReading_43 : decode cX7_laysReading 43 = .ok (.aload_n 0, 1) := by decide +kernel
theorem dX7_laysReading_44 : decode cX7_laysReading 44 = .ok (.getfield 44, 3) := by decide +kernel
theorem dX7_laysReading_47 : decode cX7_laysReading 47 = .ok (.bipush 12, 2) := by decide +kernel
theorem dX7_laysReading_49 : decode cX7_laysReading 49 = .ok (.iload_n 1, 1) := by decide +kernel
theorem dX7_laysReading_50 : decode cX7_laysReading 50 = .ok (.imul, 1) := by decide +kernel
theorem dX7_laysReading_51 : decode cX7_laysReading 51 = .ok (.iload_n 2, 1) := by decide +kernel
theorem dX7_laysReading_52 : decode cX7_laysReading 52 = .ok (.iadd, 1) := by decide +kernel
theorem dX7_laysReading_53 : decode cX7_laysReading 53 = .ok (.aload_n 0, 1) := by decide +kernel
theorem dX7_laysReading_54 : decode cX7_laysReading 54 = .ok (.getfield 44, 3) := by decide +kernel
theorem dX7_laysReading_57 : decode cX7_laysReading 57 = .ok (.bipush 12, 2) := by decide +kernel
theorem dX7_laysReading_59 : decode cX7_laysReading 59 = .ok (.iload_n 1, 1) := by decide +kernel
theorem dX7_laysReading_60 : decode cX7_laysReading 60 = .ok (.iconst 1, 1) := by decide +kernel
theorem dX7_laysReading_61 : decode cX7_laysReading 61 = .ok (.isub, 1) := by decide +kernel
theorem dX7_laysReading_62 : decode cX7_laysReading 62 = .ok (.imul, 1) := by decide +kernel
theorem dX7_laysReading_63 : decode cX7_laysReading 63 = .ok (.iload_n 2, 1) := by decide +kernel
theorem dX7_laysReading_64 : decode cX7_laysReading 64 = .ok (.iadd, 1) := by decide +kernel
theorem dX7_laysReading_65 : decode cX7_laysReading 65 = .ok (.iaload, 1) := by decide +kernel
theorem dX7_laysReading_66 : decode cX7_laysReading 66 = .ok (.iastore, 1) := by decide +kernel
theorem dX7_laysReading_67 : decode cX7_laysReading 67 = .ok (.iinc 2 1, 3) := by decide +kernel
theorem dX7_laysReading_70 : decode cX7_laysReading 70 = .ok (.goto (-33), 3) := by decide +kernel
theorem dX7_laysReading_73 : decode cX7_laysReading 73 = .ok (.iinc 1 (-1), 3) := by decide +kernel
theorem dX7_laysReading_76 : decode cX7_laysReading 76 = .ok (.goto (-55), 3) := by decide +kernel
theorem dX7_laysReading_79 : decode cX7_laysReading 79 = .ok (.iconst 0, 1) := by decide +kernel
theorem dX7_laysReading_80 : decode cX7_laysReading 80 = .ok (.istore_n 2, 1) := by decide +kernel
theorem dX7_laysReading_81 : decode cX7_laysReading 81 = .ok (.iload_n 2, 1) := by decide +kernel
theorem dX7_laysReading_82 : decode cX7_laysReading 82 = .ok (.bipush 12, 2) := by decide +kernel
theorem dX7_laysReading_84 : decode cX7_laysReading 84 = .ok (.if_icmp .ge 40, 3) := by decide +kernel
theorem dX7_laysReading_87 : decode cX7_laysReading 87 = .ok (.aload_n 0, 1) := by decide +kernel
theorem dX7_laysReading_88 : decode cX7_laysReading 88 = .ok (.getfield 44, 3) := by decide +kernel
theorem dX7_laysReading_91 : decode cX7_laysReading 91 = .ok (.bipush 12, 2) := by decide +kernel
theorem dX7_laysReading_93 : decode cX7_laysReading 93 = .ok (.iload_n 1, 1) := by decide +kernel
theorem dX7_laysReading_94 : decode cX7_laysReading 94 = .ok (.imul, 1) := by decide +kernel
theorem dX7_laysReading_95 : decode cX7_laysReading 95 = .ok (.iload_n 2, 1) := by decide +kernel
theorem dX7_laysReading_96 : decode cX7_laysReading 96 = .ok (.iadd, 1) := by decide +kernel
theorem dX7_laysReading_97 : decode cX7_laysReading 97 = .ok (.iload_n 2, 1) := by decide +kernel
theorem dX7_laysReading_98 : decode cX7_laysReading 98 = .ok (.aload_n 0, 1) := by decide +kernel
theorem dX7_laysReading_99 : decode cX7_laysReading 99 = .ok (.getfield 7, 3) := by decide +kernel
theorem dX7_laysReading_102 : decode cX7_laysReading 102 = .ok (.iconst 0, 1) := by decide +kernel
theorem dX7_laysReading_103 : decode cX7_laysReading 103 = .ok (.iaload, 1) := by decide +kernel
theorem dX7_laysReading_104 : decode cX7_laysReading 104 = .ok (.if_icmp .ge 12, 3) := by decide +kernel
theorem dX7_laysReading_107 : decode cX7_laysReading 107 = .ok (.aload_n 0, 1) := by decide +kernel
theorem dX7_laysReading_108 : decode cX7_laysReading 108 = .ok (.getfield 41, 3) := by decide +kernel
theorem dX7_laysReading_111 : decode cX7_laysReading 111 = .ok (.iload_n 2, 1) := by decide +kernel
theorem dX7_laysReading_112 : decode cX7_laysReading 112 = .ok (.iaload, 1) := by decide +kernel
theorem dX7_laysReading_113 : decode cX7_laysReading 113 = .ok (.goto 4, 3) := by decide +kernel
theorem dX7_laysReading_116 : decode cX7_laysReading 116 = .ok (.iconst 0, 1) := by decide +kernel
theorem dX7_laysReading_117 : decode cX7_laysReading 117 = .ok (.iastore, 1) := by decide +kernel
theorem dX7_laysReading_118 : decode cX7_laysReading 118 = .ok (.iinc 2 1, 3) := by decide +kernel
theorem dX7_laysReading_121 : decode cX7_laysReading 121 = .ok (.goto (-40), 3) := by decide +kernel
theorem dX7_laysReading_124 : decode cX7_laysReading 124 = .ok (.aload_n 0, 1) := by decide +kernel
theorem dX7_laysReading_125 : decode cX7_laysReading 125 = .ok (.dup, 1) := by decide +kernel
theorem dX7_laysReading_126 : decode cX7_laysReading 126 = .ok (.getfield 123, 3) := by decide +kernel
theorem dX7_laysReading_129 : decode cX7_laysReading 129 = .ok (.aload_n 0, 1) := by decide +kernel
theorem dX7_laysReading_130 : decode cX7_laysReading 130 = .ok (.getfield 123, 3) := by decide +kernel
theorem dX7_laysReading_133 : decode cX7_laysReading 133 = .ok (.sipush 400, 3) := by decide +kernel
theorem dX7_laysReading_136 : decode cX7_laysReading 136 = .ok (.if_icmp .ge 7, 3) := by decide +kernel
theorem dX7_laysReading_139 : decode cX7_laysReading 139 = .ok (.iconst 1, 1) := by decide +kernel
theorem dX7_laysReading_140 : decode cX7_laysReading 140 = .ok (.goto 4, 3) := by decide +kernel
theorem dX7_laysReading_143 : decode cX7_laysReading 143 = .ok (.iconst 0, 1) := by decide +kernel
theorem dX7_laysReading_144 : decode cX7_laysReading 144 = .ok (.iadd, 1) := by decide +kernel
theorem dX7_laysReading_145 : decode cX7_laysReading 145 = .ok (.putfield 123, 3) := by decide +kernel
theorem dX7_laysReading_148 : decode cX7_laysReading 148 = .ok (.return_, 1) := by decide +kernel
theorem dX7_choosesNext_0 : decode cX7_choosesNext 0 = .ok (.iload_n 1, 1) := by decide +kernel
theorem dX7_choosesNext_1 : decode cX7_choosesNext 1 = .ok (.aload_n 0, 1) := by decide +kernel
theorem dX7_choosesNext_2 : decode cX7_choosesNext 2 = .ok (.getfield 7, 3) := by decide +kernel
theorem dX7_choosesNext_5 : decode cX7_choosesNext 5 = .ok (.iconst 0, 1) := by decide +kernel
theorem dX7_choosesNext_6 : decode cX7_choosesNext 6 = .ok (.iaload, 1) := by decide +kernel
theorem dX7_choosesNext_7 : decode cX7_choosesNext 7 = .ok (.if_icmp .ge 9, 3) := by decide +kernel
theorem dX7_choosesNext_10 : decode cX7_choosesNext 10 = .ok (.iload_n 1, 1) := by decide +kernel
theorem dX7_choosesNext_11 : decode cX7_choosesNext 11 = .ok (.iconst 1, 1) := by decide +kernel
theorem dX7_choosesNext_12 : decode cX7_choosesNext 12 = .ok (.isub, 1) := by decide +kernel
theorem dX7_choosesNext_13 : decode cX7_choosesNext 13 = .ok (.goto 11, 3) := by decide +kernel
theorem dX7_choosesNext_16 : decode cX7_choosesNext 16 = .ok (.aload_n 0, 1) := by decide +kernel
theorem dX7_choosesNext_17 : decode cX7_choosesNext 17 = .ok (.getfield 7, 3) := by decide +kernel
theorem dX7_choosesNext_20 : decode cX7_choosesNext 20 = .ok (.iconst 0, 1) := by decide +kernel
theorem dX7_choosesNext_21 : decode cX7_choosesNext 21 = .ok (.iaload, 1) := by decide +kernel
theorem dX7_choosesNext_22 : decode cX7_choosesNext 22 = .ok (.iconst 1, 1) := by decide +kernel
theorem dX7_choosesNext_23 : decode cX7_choosesNext 23 = .ok (.isub, 1) := by decide +kernel
theorem dX7_choosesNext_24 : decode cX7_choosesNext 24 = .ok (.istore_n 2, 1) := by decide +kernel
theorem dX7_choosesNext_25 : decode cX7_choosesNext 25 = .ok (.iload_n 2, 1) := by decide +kernel
theorem dX7_choosesNext_26 : decode cX7_choosesNext 26 = .ok (.ifCond .lt 26, 3) := by decide +kernel
theorem dX7_choosesNext_29 : decode cX7_choosesNext 29 = .ok (.aload_n 0, 1) := by decide +kernel
theorem dX7_choosesNext_30 : decode cX7_choosesNext 30 = .ok (.getfield 35, 3) := by decide +kernel
theorem dX7_choosesNext_33 : decode cX7_choosesNext 33 = .ok (.iload_n 2, 1) := by decide +kernel
theorem dX7_choosesNext_34 : decode cX7_choosesNext 34 = .ok (.iaload, 1) := by decide +kernel
theorem dX7_choosesNext_35 : decode cX7_choosesNext 35 = .ok (.iconst 1, 1) := by decide +kernel
theorem dX7_choosesNext_36 : decode cX7_choosesNext 36 = .ok (.iadd, 1) := by decide +kernel
theorem dX7_choosesNext_37 : decode cX7_choosesNext 37 = .ok (.aload_n 0, 1) := by decide +kernel
theorem dX7_choosesNext_38 : decode cX7_choosesNext 38 = .ok (.getfield 38, 3) := by decide +kernel
theorem dX7_choosesNext_41 : decode cX7_choosesNext 41 = .ok (.iload_n 2, 1) := by decide +kernel
theorem dX7_choosesNext_42 : decode cX7_choosesNext 42 = .ok (.iaload, 1) := by decide +kernel
theorem dX7_choosesNext_43 : decode cX7_choosesNext 43 = .ok (.if_icmp .lt 9, 3) := by decide +kernel
theorem dX7_choosesNext_46 : decode cX7_choosesNext 46 = .ok (.iinc 2 (-1), 3) := by decide +kernel
theorem dX7_choosesNext_49 : decode cX7_choosesNext 49 = .ok (.goto (-24), 3) := by decide +kernel
theorem dX7_choosesNext_52 : decode cX7_choosesNext 52 = .ok (.iload_n 2, 1) := by decide +kernel
theorem dX7_choosesNext_53 : decode cX7_choosesNext 53 = .ok (.ifCond .ge 5, 3) := by decide +kernel
theorem dX7_choosesNext_56 : decode cX7_choosesNext 56 = .ok (.iconst 0, 1) := by decide +kernel
theorem dX7_choosesNext_57 : decode cX7_choosesNext 57 = .ok (.ireturn, 1) := by decide +kernel
theorem dX7_choosesNext_58 : decode cX7_choosesNext 58 = .ok (.aload_n 0, 1) := by decide +kernel
theorem dX7_choosesNext_59 : decode cX7_choosesNext 59 = .ok (.getfield 35, 3) := by decide +kernel
theorem dX7_choosesNext_62 : decode cX7_choosesNext 62 = .ok (.iload_n 2, 1) := by decide +kernel
theorem dX7_choosesNext_63 : decode cX7_choosesNext 63 = .ok (.dup2, 1) := by decide +kernel
theorem dX7_choosesNext_64 : decode cX7_choosesNext 64 = .ok (.iaload, 1) := by decide +kernel
theorem dX7_choosesNext_65 : decode cX7_choosesNext 65 = .ok (.iconst 1, 1) := by decide +kernel
theorem dX7_choosesNext_66 : decode cX7_choosesNext 66 = .ok (.iadd, 1) := by decide +kernel
theorem dX7_choosesNext_67 : decode cX7_choosesNext 67 = .ok (.iastore, 1) := by decide +kernel
theorem dX7_choosesNext_68 : decode cX7_choosesNext 68 = .ok (.iload_n 2, 1) := by decide +kernel
theorem dX7_choosesNext_69 : decode cX7_choosesNext 69 = .ok (.iconst 1, 1) := by decide +kernel
theorem dX7_choosesNext_70 : decode cX7_choosesNext 70 = .ok (.iadd, 1) := by decide +kernel
theorem dX7_choosesNext_71 : decode cX7_choosesNext 71 = .ok (.istore_n 3, 1) := by decide +kernel
theorem dX7_choosesNext_72 : decode cX7_choosesNext 72 = .ok (.iload_n 3, 1) := by decide +kernel
theorem dX7_choosesNext_73 : decode cX7_choosesNext 73 = .ok (.bipush 12, 2) := by decide +kernel
theorem dX7_choosesNext_75 : decode cX7_choosesNext 75 = .ok (.if_icmp .ge 16, 3) := by decide +kernel
theorem dX7_choosesNext_78 : decode cX7_choosesNext 78 = .ok (.aload_n 0, 1) := by decide +kernel
theorem dX7_choosesNext_79 : decode cX7_choosesNext 79 = .ok (.getfield 35, 3) := by decide +kernel
theorem dX7_choosesNext_82 : decode cX7_choosesNext 82 = .ok (.iload_n 3, 1) := by decide +kernel
theorem dX7_choosesNext_83 : decode cX7_choosesNext 83 = .ok (.iconst 0, 1) := by decide +kernel
theorem dX7_choosesNext_84 : decode cX7_choosesNext 84 = .ok (.iastore, 1) := by decide +kernel
theorem dX7_choosesNext_85 : decode cX7_choosesNext 85 = .ok (.iinc 3 1, 3) := by decide +kernel
theorem dX7_choosesNext_88 : decode cX7_choosesNext 88 = .ok (.goto (-16), 3) := by decide +kernel
theorem dX7_choosesNext_91 : decode cX7_choosesNext 91 = .ok (.iconst 1, 1) := by decide +kernel
theorem dX7_choosesNext_92 : decode cX7_choosesNext 92 = .ok (.ireturn, 1) := by decide +kernel
theorem dX7_isLeft_0 : decode cX7_isLeft 0 = .ok (.iconst 1, 1) := by decide +kernel
theorem dX7_isLeft_1 : decode cX7_isLeft 1 = .ok (.istore_n 3, 1) := by decide +kernel
theorem dX7_isLeft_2 : decode cX7_isLeft 2 = .ok (.iconst 0, 1) := by decide +kernel
theorem dX7_isLeft_3 : decode cX7_isLeft 3 = .ok (.istore 4, 2) := by decide +kernel
theorem dX7_isLeft_5 : decode cX7_isLeft 5 = .ok (.iload 4, 2) := by decide +kernel
theorem dX7_isLeft_7 : decode cX7_isLeft 7 = .ok (.aload_n 0, 1) := by decide +kernel
theorem dX7_isLeft_8 : decode cX7_isLeft 8 = .ok (.getfield 7, 3) := by decide +kernel
theorem dX7_isLeft_11 : decode cX7_isLeft 11 = .ok (.iconst 0, 1) := by decide +kernel
theorem dX7_isLeft_12 : decode cX7_isLeft 12 = .ok (.iaload, 1) := by decide +kernel
theorem dX7_isLeft_13 : decode cX7_isLeft 13 = .ok (.if_icmp .ge 77, 3) := by decide +kernel
theorem dX7_isLeft_16 : decode cX7_isLeft 16 = .ok (.aload_n 0, 1) := by decide +kernel
theorem dX7_isLeft_17 : decode cX7_isLeft 17 = .ok (.getfield 7, 3) := by decide +kernel
theorem dX7_isLeft_20 : decode cX7_isLeft 20 = .ok (.bipush 14, 2) := by decide +kernel
theorem dX7_isLeft_22 : decode cX7_isLeft 22 = .ok (.iload 4, 2) := by decide +kernel
theorem dX7_isLeft_24 : decode cX7_isLeft 24 = .ok (.iadd, 1) := by decide +kernel
theorem dX7_isLeft_25 : decode cX7_isLeft 25 = .ok (.iaload, 1) := by decide +kernel
theorem dX7_isLeft_26 : decode cX7_isLeft 26 = .ok (.ifCond .le 13, 3) := by decide +kernel
theorem dX7_isLeft_29 : decode cX7_isLeft 29 = .ok (.iload 4, 2) := by decide +kernel
theorem dX7_isLeft_31 : decode cX7_isLeft 31 = .ok (.iload_n 2, 1) := by decide +kernel
theorem dX7_isLeft_32 : decode cX7_isLeft 32 = .ok (.if_icmp .eq 7, 3) := by decide +kernel
theorem dX7_isLeft_35 : decode cX7_isLeft 35 = .ok (.iconst 1, 1) := by decide +kernel
theorem dX7_isLeft_36 : decode cX7_isLeft 36 = .ok (.goto 4, 3) := by decide +kernel
theorem dX7_isLeft_39 : decode cX7_isLeft 39 = .ok (.iconst 0, 1) := by decide +kernel
theorem dX7_isLeft_40 : decode cX7_isLeft 40 = .ok (.istore 5, 2) := by decide +kernel
theorem dX7_isLeft_42 : decode cX7_isLeft 42 = .ok (.iload_n 3, 1) := by decide +kernel
theorem dX7_isLeft_43 : decode cX7_isLeft 43 = .ok (.ifCond .eq 39, 3) := by decide +kernel
theorem dX7_isLeft_46 : decode cX7_isLeft 46 = .ok (.iload 5, 2) := by decide +kernel
theorem dX7_isLeft_48 : decode cX7_isLeft 48 = .ok (.ifCond .eq 30, 3) := by decide +kernel
theorem dX7_isLeft_51 : decode cX7_isLeft 51 = .ok (.aload_n 0, 1) := by decide +kernel
theorem dX7_isLeft_52 : decode cX7_isLeft 52 = .ok (.getfield 44, 3) := by decide +kernel
theorem dX7_isLeft_55 : decode cX7_isLeft 55 = .ok (.bipush 12, 2) := by decide +kernel
theorem dX7_isLeft_57 : decode cX7_isLeft 57 = .ok (.iload_n 1, 1) := by decide +kernel
theorem dX7_isLeft_58 : decode cX7_isLeft 58 = .ok (.imul, 1) := by decide +kernel
theorem dX7_isLeft_59 : decode cX7_isLeft 59 = .ok (.iload 4, 2) := by decide +kernel
theorem dX7_isLeft_61 : decode cX7_isLeft 61 = .ok (.iadd, 1) := by decide +kernel
theorem dX7_isLeft_62 : decode cX7_isLeft 62 = .ok (.iaload, 1) := by decide +kernel
theorem dX7_isLeft_63 : decode cX7_isLeft 63 = .ok (.aload_n 0, 1) := by decide +kernel
theorem dX7_isLeft_64 : decode cX7_isLeft 64 = .ok (.getfield 7, 3) := by decide +kernel
theorem dX7_isLeft_67 : decode cX7_isLeft 67 = .ok (.bipush 14, 2) := by decide +kernel
theorem dX7_isLeft_69 : decode cX7_isLeft 69 = .ok (.iload 4, 2) := by decide +kernel
theorem dX7_isLeft_71 : decode cX7_isLeft 71 = .ok (.iadd, 1) := by decide +kernel
theorem dX7_isLeft_72 : decode cX7_isLeft 72 = .ok (.iaload, 1) := by decide +kernel
theorem dX7_isLeft_73 : decode cX7_isLeft 73 = .ok (.iconst 2, 1) := by decide +kernel
theorem dX7_isLeft_74 : decode cX7_isLeft 74 = .ok (.isub, 1) := by decide +kernel
theorem dX7_isLeft_75 : decode cX7_isLeft 75 = .ok (.if_icmp .ne 7, 3) := by decide +kernel
theorem dX7_isLeft_78 : decode cX7_isLeft 78 = .ok (.iconst 1, 1) := by decide +kernel
theorem dX7_isLeft_79 : decode cX7_isLeft 79 = .ok (.goto 4, 3) := by decide +kernel
theorem dX7_isLeft_82 : decode cX7_isLeft 82 = .ok (.iconst 0, 1) := by decide +kernel
theorem dX7_isLeft_83 : decode cX7_isLeft 83 = .ok (.istore_n 3, 1) := by decide +kernel
theorem dX7_isLeft_84 : decode cX7_isLeft 84 = .ok (.iinc 4 1, 3) := by decide +kernel
theorem dX7_isLeft_87 : decode cX7_isLeft 87 = .ok (.goto (-82), 3) := by decide +kernel
theorem dX7_isLeft_90 : decode cX7_isLeft 90 = .ok (.iload_n 3, 1) := by decide +kernel
theorem dX7_isLeft_91 : decode cX7_isLeft 91 = .ok (.ireturn, 1) := by decide +kernel
theorem dX7_laysAll_0 : decode cX7_laysAll 0 = .ok (.aload_n 0, 1) := by decide +kernel
theorem dX7_laysAll_1 : decode cX7_laysAll 1 = .ok (.iconst 0, 1) := by decide +kernel
theorem dX7_laysAll_2 : decode cX7_laysAll 2 = .ok (.putfield 123, 3) := by decide +kernel
theorem dX7_laysAll_5 : decode cX7_laysAll 5 = .ok (.iconst 0, 1) := by decide +kernel
theorem dX7_laysAll_6 : decode cX7_laysAll 6 = .ok (.istore_n 1, 1) := by decide +kernel
theorem dX7_laysAll_7 : decode cX7_laysAll 7 = .ok (.iload_n 1, 1) := by decide +kernel
theorem dX7_laysAll_8 : decode cX7_laysAll 8 = .ok (.bipush 12, 2) := by decide +kernel
theorem dX7_laysAll_10 : decode cX7_laysAll 10 = .ok (.if_icmp .ge 16, 3) := by decide +kernel
theorem dX7_laysAll_13 : decode cX7_laysAll 13 = .ok (.aload_n 0, 1) := by decide +kernel
theorem dX7_laysAll_14 : decode cX7_laysAll 14 = .ok (.getfield 35, 3) := by decide +kernel
theorem dX7_laysAll_17 : decode cX7_laysAll 17 = .ok (.iload_n 1, 1) := by decide +kernel
theorem dX7_laysAll_18 : decode cX7_laysAll 18 = .ok (.iconst 0, 1) := by decide +kernel
theorem dX7_laysAll_19 : decode cX7_laysAll 19 = .ok (.iastore, 1) := by decide +kernel
theorem dX7_laysAll_20 : decode cX7_laysAll 20 = .ok (.iinc 1 1, 3) := by decide +kernel
theorem dX7_laysAll_23 : decode cX7_laysAll 23 = .ok (.goto (-16), 3) := by decide +kernel
theorem dX7_laysAll_26 : decode cX7_laysAll 26 = .ok (.iconst 1, 1) := by decide +kernel
theorem dX7_laysAll_27 : decode cX7_laysAll 27 = .ok (.istore_n 1, 1) := by decide +kernel
theorem dX7_laysAll_28 : decode cX7_laysAll 28 = .ok (.iload_n 1, 1) := by decide +kernel
theorem dX7_laysAll_29 : decode cX7_laysAll 29 = .ok (.ifCond .eq 38, 3) := by decide +kernel
theorem dX7_laysAll_32 : decode cX7_laysAll 32 = .ok (.aload_n 0, 1) := by decide +kernel
theorem dX7_laysAll_33 : decode cX7_laysAll 33 = .ok (.invokevirtual 129, 3) := by decide +kernel
theorem dX7_laysAll_36 : decode cX7_laysAll 36 = .ok (.istore_n 2, 1) := by decide +kernel
theorem dX7_laysAll_37 : decode cX7_laysAll 37 = .ok (.iload_n 2, 1) := by decide +kernel
theorem dX7_laysAll_38 : decode cX7_laysAll 38 = .ok (.aload_n 0, 1) := by decide +kernel
theorem dX7_laysAll_39 : decode cX7_laysAll 39 = .ok (.getfield 7, 3) := by decide +kernel
theorem dX7_laysAll_42 : decode cX7_laysAll 42 = .ok (.iconst 0, 1) := by decide +kernel
theorem dX7_laysAll_43 : decode cX7_laysAll 43 = .ok (.iaload, 1) := by decide +kernel
theorem dX7_laysAll_44 : decode cX7_laysAll 44 = .ok (.if_icmp .ne 14, 3) := by decide +kernel
theorem dX7_laysAll_47 : decode cX7_laysAll 47 = .ok (.aload_n 0, 1) := by decide +kernel
theorem dX7_laysAll_48 : decode cX7_laysAll 48 = .ok (.invokevirtual 133, 3) := by decide +kernel
theorem dX7_laysAll_51 : decode cX7_laysAll 51 = .ok (.ifCond .eq 7, 3) := by decide +kernel
theorem dX7_laysAll_54 : decode cX7_laysAll 54 = .ok (.aload_n 0, 1) := by decide +kernel
theorem dX7_laysAll_55 : decode cX7_laysAll 55 = .ok (.invokevirtual 136, 3) := by decide +kernel
theorem dX7_laysAll_58 : decode cX7_laysAll 58 = .ok (.aload_n 0, 1) := by decide +kernel
theorem dX7_laysAll_59 : decode cX7_laysAll 59 = .ok (.iload_n 2, 1) := by decide +kernel
theorem dX7_laysAll_60 : decode cX7_laysAll 60 = .ok (.invokevirtual 139, 3) := by decide +kernel
theorem dX7_laysAll_63 : decode cX7_laysAll 63 = .ok (.istore_n 1, 1) := by decide +kernel
theorem dX7_laysAll_64 : decode cX7_laysAll 64 = .ok (.goto (-36), 3) := by decide +kernel
theorem dX7_laysAll_67 : decode cX7_laysAll 67 = .ok (.aload_n 0, 1) := by decide +kernel
theorem dX7_laysAll_68 : decode cX7_laysAll 68 = .ok (.iconst 0, 1) := by decide +kernel
theorem dX7_laysAll_69 : decode cX7_laysAll 69 = .ok (.putfield 142, 3) := by decide +kernel
theorem dX7_laysAll_72 : decode cX7_laysAll 72 = .ok (.iconst 0, 1) := by decide +kernel
theorem dX7_laysAll_73 : decode cX7_laysAll 73 = .ok (.istore_n 2, 1) := by decide +kernel
theorem dX7_laysAll_74 : decode cX7_laysAll 74 = .ok (.iload_n 2, 1) := by decide +kernel
theorem dX7_laysAll_75 : decode cX7_laysAll 75 = .ok (.aload_n 0, 1) := by decide +kernel
theorem dX7_laysAll_76 : decode cX7_laysAll 76 = .ok (.getfield 123, 3) := by decide +kernel
theorem dX7_laysAll_79 : decode cX7_laysAll 79 = .ok (.if_icmp .ge 38, 3) := by decide +kernel
theorem dX7_laysAll_82 : decode cX7_laysAll 82 = .ok (.aload_n 0, 1) := by decide +kernel
theorem dX7_laysAll_83 : decode cX7_laysAll 83 = .ok (.iload_n 2, 1) := by decide +kernel
theorem dX7_laysAll_84 : decode cX7_laysAll 84 = .ok (.iconst (-1), 1) := by decide +kernel
theorem dX7_laysAll_85 : decode cX7_laysAll 85 = .ok (.invokevirtual 145, 3) := by decide +kernel
theorem dX7_laysAll_88 : decode cX7_laysAll 88 = .ok (.ifCond .eq 23, 3) := by decide +kernel
theorem dX7_laysAll_91 : decode cX7_laysAll 91 = .ok (.aload_n 0, 1) := by decide +kernel
theorem dX7_laysAll_92 : decode cX7_laysAll 92 = .ok (.getfield 47, 3) := by decide +kernel
theorem dX7_laysAll_95 : decode cX7_laysAll 95 = .ok (.aload_n 0, 1) := by decide +kernel
theorem dX7_laysAll_96 : decode cX7_laysAll 96 = .ok (.getfield 142, 3) := by decide +kernel
theorem dX7_laysAll_99 : decode cX7_laysAll 99 = .ok (.iload_n 2, 1) := by decide +kernel
theorem dX7_laysAll_100 : decode cX7_laysAll 100 = .ok (.iastore, 1) := by decide +kernel
theorem dX7_laysAll_101 : decode cX7_laysAll 101 = .ok (.aload_n 0, 1) := by decide +kernel
theorem dX7_laysAll_102 : decode cX7_laysAll 102 = .ok (.dup, 1) := by decide +kernel
theorem dX7_laysAll_103 : decode cX7_laysAll 103 = .ok (.getfield 142, 3) := by decide +kernel
theorem dX7_laysAll_106 : decode cX7_laysAll 106 = .ok (.iconst 1, 1) := by decide +kernel
theorem dX7_laysAll_107 : decode cX7_laysAll 107 = .ok (.iadd, 1) := by decide +kernel
theorem dX7_laysAll_108 : decode cX7_laysAll 108 = .ok (.putfield 142, 3) := by decide +kernel
theorem dX7_laysAll_111 : decode cX7_laysAll 111 = .ok (.iinc 2 1, 3) := by decide +kernel
theorem dX7_laysAll_114 : decode cX7_laysAll 114 = .ok (.goto (-40), 3) := by decide +kernel
theorem dX7_laysAll_117 : decode cX7_laysAll 117 = .ok (.return_, 1) := by decide +kernel
theorem dX7_head_0 : decode cX7_head 0 = .ok (.aload_n 0, 1) := by decide +kernel
theorem dX7_head_1 : decode cX7_head 1 = .ok (.getfield 44, 3) := by decide +kernel
theorem dX7_head_4 : decode cX7_head 4 = .ok (.bipush 12, 2) := by decide +kernel
theorem dX7_head_6 : decode cX7_head 6 = .ok (.iload_n 1, 1) := by decide +kernel
theorem dX7_head_7 : decode cX7_head 7 = .ok (.imul, 1) := by decide +kernel
theorem dX7_head_8 : decode cX7_head 8 = .ok (.iload_n 2, 1) := by decide +kernel
theorem dX7_head_9 : decode cX7_head 9 = .ok (.iadd, 1) := by decide +kernel
theorem dX7_head_10 : decode cX7_head 10 = .ok (.iaload, 1) := by decide +kernel
theorem dX7_head_11 : decode cX7_head 11 = .ok (.ireturn, 1) := by decide +kernel
theorem dX7_heldBy_0 : decode cX7_heldBy 0 = .ok (.aload_n 0, 1) := by decide +kernel
theorem dX7_heldBy_1 : decode cX7_heldBy 1 = .ok (.iload_n 1, 1) := by decide +kernel
theorem dX7_heldBy_2 : decode cX7_heldBy 2 = .ok (.iload_n 2, 1) := by decide +kernel
theorem dX7_heldBy_3 : decode cX7_heldBy 3 = .ok (.invokevirtual 148, 3) := by decide +kernel
theorem dX7_heldBy_6 : decode cX7_heldBy 6 = .ok (.istore_n 3, 1) := by decide +kernel
theorem dX7_heldBy_7 : decode cX7_heldBy 7 = .ok (.iload_n 3, 1) := by decide +kernel
theorem dX7_heldBy_8 : decode cX7_heldBy 8 = .ok (.iconst (-1), 1) := by decide +kernel
theorem dX7_heldBy_9 : decode cX7_heldBy 9 = .ok (.if_icmp .ne 5, 3) := by decide +kernel
theorem dX7_heldBy_12 : decode cX7_heldBy 12 = .ok (.iconst 0, 1) := by decide +kernel
theorem dX7_heldBy_13 : decode cX7_heldBy 13 = .ok (.ireturn, 1) := by decide +kernel
theorem dX7_heldBy_14 : decode cX7_heldBy 14 = .ok (.aload_n 0, 1) := by decide +kernel
theorem dX7_heldBy_15 : decode cX7_heldBy 15 = .ok (.iload_n 2, 1) := by decide +kernel
theorem dX7_heldBy_16 : decode cX7_heldBy 16 = .ok (.invokevirtual 86, 3) := by decide +kernel
theorem dX7_heldBy_19 : decode cX7_heldBy 19 = .ok (.tableswitch 83 0 6 #[41, 79, 83, 83, 83, 81, 79], 41) := by decide +kernel
theorem dX7_heldBy_60 : decode cX7_heldBy 60 = .ok (.aload_n 0, 1) := by decide +kernel
theorem dX7_heldBy_61 : decode cX7_heldBy 61 = .ok (.iload_n 3, 1) := by decide +kernel
theorem dX7_heldBy_62 : decode cX7_heldBy 62 = .ok (.invokevirtual 86, 3) := by decide +kernel
theorem dX7_heldBy_65 : decode cX7_heldBy 65 = .ok (.iconst 5, 1) := by decide +kernel
theorem dX7_heldBy_66 : decode cX7_heldBy 66 = .ok (.if_icmp .ne 7, 3) := by decide +kernel
theorem dX7_heldBy_69 : decode cX7_heldBy 69 = .ok (.iconst 4, 1) := by decide +kernel
theorem dX7_heldBy_70 : decode cX7_heldBy 70 = .ok (.goto 27, 3) := by decide +kernel
theorem dX7_heldBy_73 : decode cX7_heldBy 73 = .ok (.aload_n 0, 1) := by decide +kernel
theorem dX7_heldBy_74 : decode cX7_heldBy 74 = .ok (.iload_n 3, 1) := by decide +kernel
theorem dX7_heldBy_75 : decode cX7_heldBy 75 = .ok (.invokevirtual 86, 3) := by decide +kernel
theorem dX7_heldBy_78 : decode cX7_heldBy 78 = .ok (.iconst 4, 1) := by decide +kernel
theorem dX7_heldBy_79 : decode cX7_heldBy 79 = .ok (.if_icmp .ne 8, 3) := by decide +kernel
theorem dX7_heldBy_82 : decode cX7_heldBy 82 = .ok (.bipush 6, 2) := by decide +kernel
theorem dX7_heldBy_84 : decode cX7_heldBy 84 = .ok (.goto 13, 3) := by decide +kernel
theorem dX7_heldBy_87 : decode cX7_heldBy 87 = .ok (.iload_n 2, 1) := by decide +kernel
theorem dX7_heldBy_88 : decode cX7_heldBy 88 = .ok (.iload_n 3, 1) := by decide +kernel
theorem dX7_heldBy_89 : decode cX7_heldBy 89 = .ok (.if_icmp .ge 7, 3) := by decide +kernel
theorem dX7_heldBy_92 : decode cX7_heldBy 92 = .ok (.iconst 1, 1) := by decide +kernel
theorem dX7_heldBy_93 : decode cX7_heldBy 93 = .ok (.goto 4, 3) := by decide +kernel
theorem dX7_heldBy_96 : decode cX7_heldBy 96 = .ok (.iconst 2, 1) := by decide +kernel
theorem dX7_heldBy_97 : decode cX7_heldBy 97 = .ok (.ireturn, 1) := by decide +kernel
theorem dX7_heldBy_98 : decode cX7_heldBy 98 = .ok (.iconst 5, 1) := by decide +kernel
theorem dX7_heldBy_99 : decode cX7_heldBy 99 = .ok (.ireturn, 1) := by decide +kernel
theorem dX7_heldBy_100 : decode cX7_heldBy 100 = .ok (.iconst 4, 1) := by decide +kernel
theorem dX7_heldBy_101 : decode cX7_heldBy 101 = .ok (.ireturn, 1) := by decide +kernel
theorem dX7_heldBy_102 : decode cX7_heldBy 102 = .ok (.iconst 3, 1) := by decide +kernel
theorem dX7_heldBy_103 : decode cX7_heldBy 103 = .ok (.ireturn, 1) := by decide +kernel
theorem dX7_step_0 : decode cX7_step 0 = .ok (.aload_n 0, 1) := by decide +kernel
theorem dX7_step_1 : decode cX7_step 1 = .ok (.iload_n 1, 1) := by decide +kernel
theorem dX7_step_2 : decode cX7_step 2 = .ok (.iload_n 2, 1) := by decide +kernel
theorem dX7_step_3 : decode cX7_step 3 = .ok (.invokevirtual 152, 3) := by decide +kernel
theorem dX7_step_6 : decode cX7_step 6 = .ok (.istore_n 3, 1) := by decide +kernel
theorem dX7_step_7 : decode cX7_step 7 = .ok (.iload_n 3, 1) := by decide +kernel
theorem dX7_step_8 : decode cX7_step 8 = .ok (.iconst 3, 1) := by decide +kernel
theorem dX7_step_9 : decode cX7_step 9 = .ok (.if_icmp .eq 9, 3) := by decide +kernel
theorem dX7_step_12 : decode cX7_step 12 = .ok (.iload_n 3, 1) := by decide +kernel
theorem dX7_step_13 : decode cX7_step 13 = .ok (.bipush 6, 2) := by decide +kernel
theorem dX7_step_15 : decode cX7_step 15 = .ok (.if_icmp .ne 7, 3) := by decide +kernel
theorem dX7_step_18 : decode cX7_step 18 = .ok (.iconst (-1), 1) := by decide +kernel
theorem dX7_step_19 : decode cX7_step 19 = .ok (.goto 18, 3) := by decide +kernel
theorem dX7_step_22 : decode cX7_step 22 = .ok (.aload_n 0, 1) := by decide +kernel
theorem dX7_step_23 : decode cX7_step 23 = .ok (.iload_n 2, 1) := by decide +kernel
theorem dX7_step_24 : decode cX7_step 24 = .ok (.invokevirtual 86, 3) := by decide +kernel
theorem dX7_step_27 : decode cX7_step 27 = .ok (.bipush 6, 2) := by decide +kernel
theorem dX7_step_29 : decode cX7_step 29 = .ok (.if_icmp .ne 7, 3) := by decide +kernel
theorem dX7_step_32 : decode cX7_step 32 = .ok (.iconst 1, 1) := by decide +kernel
theorem dX7_step_33 : decode cX7_step 33 = .ok (.goto 4, 3) := by decide +kernel
theorem dX7_step_36 : decode cX7_step 36 = .ok (.iconst 0, 1) := by decide +kernel
theorem dX7_step_37 : decode cX7_step 37 = .ok (.ireturn, 1) := by decide +kernel
theorem dX7_level_0 : decode cX7_level 0 = .ok (.iconst 0, 1) := by decide +kernel
theorem dX7_level_1 : decode cX7_level 1 = .ok (.istore_n 3, 1) := by decide +kernel
theorem dX7_level_2 : decode cX7_level 2 = .ok (.iload_n 2, 1) := by decide +kernel
theorem dX7_level_3 : decode cX7_level 3 = .ok (.istore 4, 2) := by decide +kernel
theorem dX7_level_5 : decode cX7_level 5 = .ok (.aload_n 0, 1) := by decide +kernel
theorem dX7_level_6 : decode cX7_level 6 = .ok (.iload_n 1, 1) := by decide +kernel
theorem dX7_level_7 : decode cX7_level 7 = .ok (.iload 4, 2) := by decide +kernel
theorem dX7_level_9 : decode cX7_level 9 = .ok (.invokevirtual 148, 3) := by decide +kernel
theorem dX7_level_12 : decode cX7_level 12 = .ok (.iconst (-1), 1) := by decide +kernel
theorem dX7_level_13 : decode cX7_level 13 = .ok (.if_icmp .eq 25, 3) := by decide +kernel
theorem dX7_level_16 : decode cX7_level 16 = .ok (.iload_n 3, 1) := by decide +kernel
theorem dX7_level_17 : decode cX7_level 17 = .ok (.aload_n 0, 1) := by decide +kernel
theorem dX7_level_18 : decode cX7_level 18 = .ok (.iload_n 1, 1) := by decide +kernel
theorem dX7_level_19 : decode cX7_level 19 = .ok (.iload 4, 2) := by decide +kernel
theorem dX7_level_21 : decode cX7_level 21 = .ok (.invokevirtual 155, 3) := by decide +kernel
theorem dX7_level_24 : decode cX7_level 24 = .ok (.iadd, 1) := by decide +kernel
theorem dX7_level_25 : decode cX7_level 25 = .ok (.istore_n 3, 1) := by decide +kernel
theorem dX7_level_26 : decode cX7_level 26 = .ok (.aload_n 0, 1) := by decide +kernel
theorem dX7_level_27 : decode cX7_level 27 = .ok (.iload_n 1, 1) := by decide +kernel
theorem dX7_level_28 : decode cX7_level 28 = .ok (.iload 4, 2) := by decide +kernel
theorem dX7_level_30 : decode cX7_level 30 = .ok (.invokevirtual 148, 3) := by decide +kernel
theorem dX7_level_33 : decode cX7_level 33 = .ok (.istore 4, 2) := by decide +kernel
theorem dX7_level_35 : decode cX7_level 35 = .ok (.goto (-30), 3) := by decide +kernel
theorem dX7_level_38 : decode cX7_level 38 = .ok (.iload_n 3, 1) := by decide +kernel
theorem dX7_level_39 : decode cX7_level 39 = .ok (.ireturn, 1) := by decide +kernel
theorem dX7_height_0 : decode cX7_height 0 = .ok (.iconst 0, 1) := by decide +kernel
theorem dX7_height_1 : decode cX7_height 1 = .ok (.istore_n 2, 1) := by decide +kernel
theorem dX7_height_2 : decode cX7_height 2 = .ok (.iconst 0, 1) := by decide +kernel
theorem dX7_height_3 : decode cX7_height 3 = .ok (.istore_n 3, 1) := by decide +kernel
theorem dX7_height_4 : decode cX7_height 4 = .ok (.iconst 0, 1) := by decide +kernel
theorem dX7_height_5 : decode cX7_height 5 = .ok (.istore 4, 2) := by decide +kernel
theorem dX7_height_7 : decode cX7_height 7 = .ok (.iload 4, 2) := by decide +kernel
theorem dX7_height_9 : decode cX7_height 9 = .ok (.aload_n 0, 1) := by decide +kernel
theorem dX7_height_10 : decode cX7_height 10 = .ok (.getfield 7, 3) := by decide +kernel
theorem dX7_height_13 : decode cX7_height 13 = .ok (.iconst 0, 1) := by decide +kernel
theorem dX7_height_14 : decode cX7_height 14 = .ok (.iaload, 1) := by decide +kernel
theorem dX7_height_15 : decode cX7_height 15 = .ok (.if_icmp .ge 44, 3) := by decide +kernel
theorem dX7_height_18 : decode cX7_height 18 = .ok (.aload_n 0, 1) := by decide +kernel
theorem dX7_height_19 : decode cX7_height 19 = .ok (.iload_n 1, 1) := by decide +kernel
theorem dX7_height_20 : decode cX7_height 20 = .ok (.iload 4, 2) := by decide +kernel
theorem dX7_height_22 : decode cX7_height 22 = .ok (.invokevirtual 158, 3) := by decide +kernel
theorem dX7_height_25 : decode cX7_height 25 = .ok (.istore 5, 2) := by decide +kernel
theorem dX7_height_27 : decode cX7_height 27 = .ok (.iload 5, 2) := by decide +kernel
theorem dX7_height_29 : decode cX7_height 29 = .ok (.iload_n 2, 1) := by decide +kernel
theorem dX7_height_30 : decode cX7_height 30 = .ok (.if_icmp .ge 8, 3) := by decide +kernel
theorem dX7_height_33 : decode cX7_height 33 = .ok (.iload 5, 2) := by decide +kernel
theorem dX7_height_35 : decode cX7_height 35 = .ok (.goto 4, 3) := by decide +kernel
theorem dX7_height_38 : decode cX7_height 38 = .ok (.iload_n 2, 1) := by decide +kernel
theorem dX7_height_39 : decode cX7_height 39 = .ok (.istore_n 2, 1) := by decide +kernel
theorem dX7_height_40 : decode cX7_height 40 = .ok (.iload 5, 2) := by decide +kernel
theorem dX7_height_42 : decode cX7_height 42 = .ok (.iload_n 3, 1) := by decide +kernel
theorem dX7_height_43 : decode cX7_height 43 = .ok (.if_icmp .le 8, 3) := by decide +kernel
theorem dX7_height_46 : decode cX7_height 46 = .ok (.iload 5, 2) := by decide +kernel
theorem dX7_height_48 : decode cX7_height 48 = .ok (.goto 4, 3) := by decide +kernel
theorem dX7_height_51 : decode cX7_height 51 = .ok (.iload_n 3, 1) := by decide +kernel
theorem dX7_height_52 : decode cX7_height 52 = .ok (.istore_n 3, 1) := by decide +kernel
theorem dX7_height_53 : decode cX7_height 53 = .ok (.iinc 4 1, 3) := by decide +kernel
theorem dX7_height_56 : decode cX7_height 56 = .ok (.goto (-49), 3) := by decide +kernel
theorem dX7_height_59 : decode cX7_height 59 = .ok (.iload_n 3, 1) := by decide +kernel
theorem dX7_height_60 : decode cX7_height 60 = .ok (.iload_n 2, 1) := by decide +kernel
theorem dX7_height_61 : decode cX7_height 61 = .ok (.isub, 1) := by decide +kernel
theorem dX7_height_62 : decode cX7_height 62 = .ok (.iconst 1, 1) := by decide +kernel
theorem dX7_height_63 : decode cX7_height 63 = .ok (.iadd, 1) := by decide +kernel
theorem dX7_height_64 : decode cX7_height 64 = .ok (.ireturn, 1) := by decide +kernel
theorem dX7_holds_0 : decode cX7_holds 0 = .ok (.iconst 0, 1) := by decide +kernel
theorem dX7_holds_1 : decode cX7_holds 1 = .ok (.istore_n 3, 1) := by decide +kernel
theorem dX7_holds_2 : decode cX7_holds 2 = .ok (.iconst 0, 1) := by decide +kernel
theorem dX7_holds_3 : decode cX7_holds 3 = .ok (.istore 4, 2) := by decide +kernel
theorem dX7_holds_5 : decode cX7_holds 5 = .ok (.iload 4, 2) := by decide +kernel
theorem dX7_holds_7 : decode cX7_holds 7 = .ok (.aload_n 0, 1) := by decide +kernel
theorem dX7_holds_8 : decode cX7_holds 8 = .ok (.getfield 7, 3) := by decide +kernel
theorem dX7_holds_11 : decode cX7_holds 11 = .ok (.iconst 0, 1) := by decide +kernel
theorem dX7_holds_12 : decode cX7_holds 12 = .ok (.iaload, 1) := by decide +kernel
theorem dX7_holds_13 : decode cX7_holds 13 = .ok (.if_icmp .ge 28, 3) := by decide +kernel
theorem dX7_holds_16 : decode cX7_holds 16 = .ok (.iload_n 3, 1) := by decide +kernel
theorem dX7_holds_17 : decode cX7_holds 17 = .ok (.aload_n 0, 1) := by decide +kernel
theorem dX7_holds_18 : decode cX7_holds 18 = .ok (.iload_n 1, 1) := by decide +kernel
theorem dX7_holds_19 : decode cX7_holds 19 = .ok (.iload 4, 2) := by decide +kernel
theorem dX7_holds_21 : decode cX7_holds 21 = .ok (.invokevirtual 148, 3) := by decide +kernel
theorem dX7_holds_24 : decode cX7_holds 24 = .ok (.iload_n 2, 1) := by decide +kernel
theorem dX7_holds_25 : decode cX7_holds 25 = .ok (.if_icmp .ne 7, 3) := by decide +kernel
theorem dX7_holds_28 : decode cX7_holds 28 = .ok (.iconst 1, 1) := by decide +kernel
theorem dX7_holds_29 : decode cX7_holds 29 = .ok (.goto 4, 3) := by decide +kernel
theorem dX7_holds_32 : decode cX7_holds 32 = .ok (.iconst 0, 1) := by decide +kernel
theorem dX7_holds_33 : decode cX7_holds 33 = .ok (.iadd, 1) := by decide +kernel
theorem dX7_holds_34 : decode cX7_holds 34 = .ok (.istore_n 3, 1) := by decide +kernel
theorem dX7_holds_35 : decode cX7_holds 35 = .ok (.iinc 4 1, 3) := by decide +kernel
theorem dX7_holds_38 : decode cX7_holds 38 = .ok (.goto (-33), 3) := by decide +kernel
theorem dX7_holds_41 : decode cX7_holds 41 = .ok (.iload_n 3, 1) := by decide +kernel
theorem dX7_holds_42 : decode cX7_holds 42 = .ok (.ireturn, 1) := by decide +kernel
theorem dX7_span_0 : decode cX7_span 0 = .ok (.bipush 13, 2) := by decide +kernel
theorem dX7_span_2 : decode cX7_span 2 = .ok (.iload_n 0, 1) := by decide +kernel
theorem dX7_span_3 : decode cX7_span 3 = .ok (.imul, 1) := by decide +kernel
theorem dX7_span_4 : decode cX7_span 4 = .ok (.iload_n 1, 1) := by decide +kernel
theorem dX7_span_5 : decode cX7_span 5 = .ok (.iadd, 1) := by decide +kernel
theorem dX7_span_6 : decode cX7_span 6 = .ok (.ireturn, 1) := by decide +kernel
theorem dX7_rowsOf_0 : decode cX7_rowsOf 0 = .ok (.iload_n 1, 1) := by decide +kernel
theorem dX7_rowsOf_1 : decode cX7_rowsOf 1 = .ok (.iload_n 2, 1) := by decide +kernel
theorem dX7_rowsOf_2 : decode cX7_rowsOf 2 = .ok (.if_icmp .ne 5, 3) := by decide +kernel
theorem dX7_rowsOf_5 : decode cX7_rowsOf 5 = .ok (.iconst 1, 1) := by decide +kernel
theorem dX7_rowsOf_6 : decode cX7_rowsOf 6 = .ok (.ireturn, 1) := by decide +kernel
theorem dX7_rowsOf_7 : decode cX7_rowsOf 7 = .ok (.iload_n 3, 1) := by decide +kernel
theorem dX7_rowsOf_8 : decode cX7_rowsOf 8 = .ok (.ifCond .eq 27, 3) := by decide +kernel
theorem dX7_rowsOf_11 : decode cX7_rowsOf 11 = .ok (.aload_n 0, 1) := by decide +kernel
theorem dX7_rowsOf_12 : decode cX7_rowsOf 12 = .ok (.iload_n 1, 1) := by decide +kernel
theorem dX7_rowsOf_13 : decode cX7_rowsOf 13 = .ok (.invokevirtual 86, 3) := by decide +kernel
theorem dX7_rowsOf_16 : decode cX7_rowsOf 16 = .ok (.iconst 3, 1) := by decide +kernel
theorem dX7_rowsOf_17 : decode cX7_rowsOf 17 = .ok (.if_icmp .ne 18, 3) := by decide +kernel
theorem dX7_rowsOf_20 : decode cX7_rowsOf 20 = .ok (.aload_n 0, 1) := by decide +kernel
theorem dX7_rowsOf_21 : decode cX7_rowsOf 21 = .ok (.getfield 62, 3) := by decide +kernel
theorem dX7_rowsOf_24 : decode cX7_rowsOf 24 = .ok (.iload_n 1, 1) := by decide +kernel
theorem dX7_rowsOf_25 : decode cX7_rowsOf 25 = .ok (.iconst 1, 1) := by decide +kernel
theorem dX7_rowsOf_26 : decode cX7_rowsOf 26 = .ok (.iadd, 1) := by decide +kernel
theorem dX7_rowsOf_27 : decode cX7_rowsOf 27 = .ok (.iload_n 2, 1) := by decide +kernel
theorem dX7_rowsOf_28 : decode cX7_rowsOf 28 = .ok (.invokestatic 161, 3) := by decide +kernel
theorem dX7_rowsOf_31 : decode cX7_rowsOf 31 = .ok (.iaload, 1) := by decide +kernel
theorem dX7_rowsOf_32 : decode cX7_rowsOf 32 = .ok (.goto 4, 3) := by decide +kernel
theorem dX7_rowsOf_35 : decode cX7_rowsOf 35 = .ok (.iconst 0, 1) := by decide +kernel
theorem dX7_rowsOf_36 : decode cX7_rowsOf 36 = .ok (.istore 4, 2) := by decide +kernel
theorem dX7_rowsOf_38 : decode cX7_rowsOf 38 = .ok (.iload_n 1, 1) := by decide +kernel
theorem dX7_rowsOf_39 : decode cX7_rowsOf 39 = .ok (.iconst 1, 1) := by decide +kernel
theorem dX7_rowsOf_40 : decode cX7_rowsOf 40 = .ok (.iadd, 1) := by decide +kernel
theorem dX7_rowsOf_41 : decode cX7_rowsOf 41 = .ok (.istore 5, 2) := by decide +kernel
theorem dX7_rowsOf_43 : decode cX7_rowsOf 43 = .ok (.iload 5, 2) := by decide +kernel
theorem dX7_rowsOf_45 : decode cX7_rowsOf 45 = .ok (.iload_n 2, 1) := by decide +kernel
theorem dX7_rowsOf_46 : decode cX7_rowsOf 46 = .ok (.if_icmp .gt 59, 3) := by decide +kernel
theorem dX7_rowsOf_49 : decode cX7_rowsOf 49 = .ok (.iload_n 3, 1) := by decide +kernel
theorem dX7_rowsOf_50 : decode cX7_rowsOf 50 = .ok (.ifCond .eq 17, 3) := by decide +kernel
theorem dX7_rowsOf_53 : decode cX7_rowsOf 53 = .ok (.aload_n 0, 1) := by decide +kernel
theorem dX7_rowsOf_54 : decode cX7_rowsOf 54 = .ok (.getfield 62, 3) := by decide +kernel
theorem dX7_rowsOf_57 : decode cX7_rowsOf 57 = .ok (.iload 5, 2) := by decide +kernel
theorem dX7_rowsOf_59 : decode cX7_rowsOf 59 = .ok (.iload_n 2, 1) := by decide +kernel
theorem dX7_rowsOf_60 : decode cX7_rowsOf 60 = .ok (.invokestatic 161, 3) := by decide +kernel
theorem dX7_rowsOf_63 : decode cX7_rowsOf 63 = .ok (.iaload, 1) := by decide +kernel
theorem dX7_rowsOf_64 : decode cX7_rowsOf 64 = .ok (.goto 14, 3) := by decide +kernel
theorem dX7_rowsOf_67 : decode cX7_rowsOf 67 = .ok (.aload_n 0, 1) := by decide +kernel
theorem dX7_rowsOf_68 : decode cX7_rowsOf 68 = .ok (.getfield 50, 3) := by decide +kernel
theorem dX7_rowsOf_71 : decode cX7_rowsOf 71 = .ok (.iload 5, 2) := by decide +kernel
theorem dX7_rowsOf_73 : decode cX7_rowsOf 73 = .ok (.iload_n 2, 1) := by decide +kernel
theorem dX7_rowsOf_74 : decode cX7_rowsOf 74 = .ok (.invokestatic 161, 3) := by decide +kernel
theorem dX7_rowsOf_77 : decode cX7_rowsOf 77 = .ok (.iaload, 1) := by decide +kernel
theorem dX7_rowsOf_78 : decode cX7_rowsOf 78 = .ok (.istore 6, 2) := by decide +kernel
theorem dX7_rowsOf_80 : decode cX7_rowsOf 80 = .ok (.iload 4, 2) := by decide +kernel
theorem dX7_rowsOf_82 : decode cX7_rowsOf 82 = .ok (.aload_n 0, 1) := by decide +kernel
theorem dX7_rowsOf_83 : decode cX7_rowsOf 83 = .ok (.getfield 59, 3) := by decide +kernel
theorem dX7_rowsOf_86 : decode cX7_rowsOf 86 = .ok (.iload_n 1, 1) := by decide +kernel
theorem dX7_rowsOf_87 : decode cX7_rowsOf 87 = .ok (.iload 5, 2) := by decide +kernel
theorem dX7_rowsOf_89 : decode cX7_rowsOf 89 = .ok (.invokestatic 161, 3) := by decide +kernel
theorem dX7_rowsOf_92 : decode cX7_rowsOf 92 = .ok (.iaload, 1) := by decide +kernel
theorem dX7_rowsOf_93 : decode cX7_rowsOf 93 = .ok (.iload 6, 2) := by decide +kernel
theorem dX7_rowsOf_95 : decode cX7_rowsOf 95 = .ok (.imul, 1) := by decide +kernel
theorem dX7_rowsOf_96 : decode cX7_rowsOf 96 = .ok (.iadd, 1) := by decide +kernel
theorem dX7_rowsOf_97 : decode cX7_rowsOf 97 = .ok (.istore 4, 2) := by decide +kernel
theorem dX7_rowsOf_99 : decode cX7_rowsOf 99 = .ok (.iinc 5 1, 3) := by decide +kernel
theorem dX7_rowsOf_102 : decode cX7_rowsOf 102 = .ok (.goto (-59), 3) := by decide +kernel
theorem dX7_rowsOf_105 : decode cX7_rowsOf 105 = .ok (.iload 4, 2) := by decide +kernel
theorem dX7_rowsOf_107 : decode cX7_rowsOf 107 = .ok (.ireturn, 1) := by decide +kernel
theorem dX7_namesOf_0 : decode cX7_namesOf 0 = .ok (.iload_n 1, 1) := by decide +kernel
theorem dX7_namesOf_1 : decode cX7_namesOf 1 = .ok (.iload_n 2, 1) := by decide +kernel
theorem dX7_namesOf_2 : decode cX7_namesOf 2 = .ok (.if_icmp .ne 5, 3) := by decide +kernel
theorem dX7_namesOf_5 : decode cX7_namesOf 5 = .ok (.iconst 0, 1) := by decide +kernel
theorem dX7_namesOf_6 : decode cX7_namesOf 6 = .ok (.ireturn, 1) := by decide +kernel
theorem dX7_namesOf_7 : decode cX7_namesOf 7 = .ok (.aload_n 0, 1) := by decide +kernel
theorem dX7_namesOf_8 : decode cX7_namesOf 8 = .ok (.iload_n 1, 1) := by decide +kernel
theorem dX7_namesOf_9 : decode cX7_namesOf 9 = .ok (.invokevirtual 86, 3) := by decide +kernel
theorem dX7_namesOf_12 : decode cX7_namesOf 12 = .ok (.ifCond .ne 18, 3) := by decide +kernel
theorem dX7_namesOf_15 : decode cX7_namesOf 15 = .ok (.aload_n 0, 1) := by decide +kernel
theorem dX7_namesOf_16 : decode cX7_namesOf 16 = .ok (.getfield 50, 3) := by decide +kernel
theorem dX7_namesOf_19 : decode cX7_namesOf 19 = .ok (.iload_n 1, 1) := by decide +kernel
theorem dX7_namesOf_20 : decode cX7_namesOf 20 = .ok (.iconst 1, 1) := by decide +kernel
theorem dX7_namesOf_21 : decode cX7_namesOf 21 = .ok (.iadd, 1) := by decide +kernel
theorem dX7_namesOf_22 : decode cX7_namesOf 22 = .ok (.iload_n 2, 1) := by decide +kernel
theorem dX7_namesOf_23 : decode cX7_namesOf 23 = .ok (.invokestatic 161, 3) := by decide +kernel
theorem dX7_namesOf_26 : decode cX7_namesOf 26 = .ok (.iaload, 1) := by decide +kernel
theorem dX7_namesOf_27 : decode cX7_namesOf 27 = .ok (.goto 28, 3) := by decide +kernel
theorem dX7_namesOf_30 : decode cX7_namesOf 30 = .ok (.aload_n 0, 1) := by decide +kernel
theorem dX7_namesOf_31 : decode cX7_namesOf 31 = .ok (.iload_n 1, 1) := by decide +kernel
theorem dX7_namesOf_32 : decode cX7_namesOf 32 = .ok (.invokevirtual 86, 3) := by decide +kernel
theorem dX7_namesOf_35 : decode cX7_namesOf 35 = .ok (.iconst 2, 1) := by decide +kernel
theorem dX7_namesOf_36 : decode cX7_namesOf 36 = .ok (.if_icmp .ne 18, 3) := by decide +kernel
theorem dX7_namesOf_39 : decode cX7_namesOf 39 = .ok (.aload_n 0, 1) := by decide +kernel
theorem dX7_namesOf_40 : decode cX7_namesOf 40 = .ok (.getfield 53, 3) := by decide +kernel
theorem dX7_namesOf_43 : decode cX7_namesOf 43 = .ok (.iload_n 1, 1) := by decide +kernel
theorem dX7_namesOf_44 : decode cX7_namesOf 44 = .ok (.iconst 1, 1) := by decide +kernel
theorem dX7_namesOf_45 : decode cX7_namesOf 45 = .ok (.iadd, 1) := by decide +kernel
theorem dX7_namesOf_46 : decode cX7_namesOf 46 = .ok (.iload_n 2, 1) := by decide +kernel
theorem dX7_namesOf_47 : decode cX7_namesOf 47 = .ok (.invokestatic 161, 3) := by decide +kernel
theorem dX7_namesOf_50 : decode cX7_namesOf 50 = .ok (.iaload, 1) := by decide +kernel
theorem dX7_namesOf_51 : decode cX7_namesOf 51 = .ok (.goto 4, 3) := by decide +kernel
theorem dX7_namesOf_54 : decode cX7_namesOf 54 = .ok (.iconst 0, 1) := by decide +kernel
theorem dX7_namesOf_55 : decode cX7_namesOf 55 = .ok (.ireturn, 1) := by decide +kernel
theorem dX7_groupsOf_0 : decode cX7_groupsOf 0 = .ok (.aload_n 0, 1) := by decide +kernel
theorem dX7_groupsOf_1 : decode cX7_groupsOf 1 = .ok (.getfield 53, 3) := by decide +kernel
theorem dX7_groupsOf_4 : decode cX7_groupsOf 4 = .ok (.iload_n 1, 1) := by decide +kernel
theorem dX7_groupsOf_5 : decode cX7_groupsOf 5 = .ok (.iload_n 2, 1) := by decide +kernel
theorem dX7_groupsOf_6 : decode cX7_groupsOf 6 = .ok (.invokestatic 161, 3) := by decide +kernel
theorem dX7_groupsOf_9 : decode cX7_groupsOf 9 = .ok (.iaload, 1) := by decide +kernel
theorem dX7_groupsOf_10 : decode cX7_groupsOf 10 = .ok (.istore_n 3, 1) := by decide +kernel
theorem dX7_groupsOf_11 : decode cX7_groupsOf 11 = .ok (.iload_n 1, 1) := by decide +kernel
theorem dX7_groupsOf_12 : decode cX7_groupsOf 12 = .ok (.iconst 1, 1) := by decide +kernel
theorem dX7_groupsOf_13 : decode cX7_groupsOf 13 = .ok (.iadd, 1) := by decide +kernel
theorem dX7_groupsOf_14 : decode cX7_groupsOf 14 = .ok (.istore 4, 2) := by decide +kernel
theorem dX7_groupsOf_16 : decode cX7_groupsOf 16 = .ok (.iload 4, 2) := by decide +kernel
theorem dX7_groupsOf_18 : decode cX7_groupsOf 18 = .ok (.iload_n 2, 1) := by decide +kernel
theorem dX7_groupsOf_19 : decode cX7_groupsOf 19 = .ok (.if_icmp .ge 51, 3) := by decide +kernel
theorem dX7_groupsOf_22 : decode cX7_groupsOf 22 = .ok (.iload_n 3, 1) := by decide +kernel
theorem dX7_groupsOf_23 : decode cX7_groupsOf 23 = .ok (.aload_n 0, 1) := by decide +kernel
theorem dX7_groupsOf_24 : decode cX7_groupsOf 24 = .ok (.iload 4, 2) := by decide +kernel
theorem dX7_groupsOf_26 : decode cX7_groupsOf 26 = .ok (.invokevirtual 86, 3) := by decide +kernel
theorem dX7_groupsOf_29 : decode cX7_groupsOf 29 = .ok (.iconst 5, 1) := by decide +kernel
theorem dX7_groupsOf_30 : decode cX7_groupsOf 30 = .ok (.if_icmp .ne 31, 3) := by decide +kernel
theorem dX7_groupsOf_33 : decode cX7_groupsOf 33 = .ok (.aload_n 0, 1) := by decide +kernel
theorem dX7_groupsOf_34 : decode cX7_groupsOf 34 = .ok (.getfield 53, 3) := by decide +kernel
theorem dX7_groupsOf_37 : decode cX7_groupsOf 37 = .ok (.iload_n 1, 1) := by decide +kernel
theorem dX7_groupsOf_38 : decode cX7_groupsOf 38 = .ok (.iload 4, 2) := by decide +kernel
theorem dX7_groupsOf_40 : decode cX7_groupsOf 40 = .ok (.invokestatic 161, 3) := by decide +kernel
theorem dX7_groupsOf_43 : decode cX7_groupsOf 43 = .ok (.iaload, 1) := by decide +kernel
theorem dX7_groupsOf_44 : decode cX7_groupsOf 44 = .ok (.aload_n 0, 1) := by decide +kernel
theorem dX7_groupsOf_45 : decode cX7_groupsOf 45 = .ok (.getfield 53, 3) := by decide +kernel
theorem dX7_groupsOf_48 : decode cX7_groupsOf 48 = .ok (.iload 4, 2) := by decide +kernel
theorem dX7_groupsOf_50 : decode cX7_groupsOf 50 = .ok (.iconst 1, 1) := by decide +kernel
theorem dX7_groupsOf_51 : decode cX7_groupsOf 51 = .ok (.iadd, 1) := by decide +kernel
theorem dX7_groupsOf_52 : decode cX7_groupsOf 52 = .ok (.iload_n 2, 1) := by decide +kernel
theorem dX7_groupsOf_53 : decode cX7_groupsOf 53 = .ok (.invokestatic 161, 3) := by decide +kernel
theorem dX7_groupsOf_56 : decode cX7_groupsOf 56 = .ok (.iaload, 1) := by decide +kernel
theorem dX7_groupsOf_57 : decode cX7_groupsOf 57 = .ok (.imul, 1) := by decide +kernel
theorem dX7_groupsOf_58 : decode cX7_groupsOf 58 = .ok (.goto 4, 3) := by decide +kernel
theorem dX7_groupsOf_61 : decode cX7_groupsOf 61 = .ok (.iconst 0, 1) := by decide +kernel
theorem dX7_groupsOf_62 : decode cX7_groupsOf 62 = .ok (.iadd, 1) := by decide +kernel
theorem dX7_groupsOf_63 : decode cX7_groupsOf 63 = .ok (.istore_n 3, 1) := by decide +kernel
theorem dX7_groupsOf_64 : decode cX7_groupsOf 64 = .ok (.iinc 4 1, 3) := by decide +kernel
theorem dX7_groupsOf_67 : decode cX7_groupsOf 67 = .ok (.goto (-51), 3) := by decide +kernel
theorem dX7_groupsOf_70 : decode cX7_groupsOf 70 = .ok (.iload_n 3, 1) := by decide +kernel
theorem dX7_groupsOf_71 : decode cX7_groupsOf 71 = .ok (.ireturn, 1) := by decide +kernel
theorem dX7_restsOf_0 : decode cX7_restsOf 0 = .ok (.aload_n 0, 1) := by decide +kernel
theorem dX7_restsOf_1 : decode cX7_restsOf 1 = .ok (.getfield 62, 3) := by decide +kernel
theorem dX7_restsOf_4 : decode cX7_restsOf 4 = .ok (.iload_n 1, 1) := by decide +kernel
theorem dX7_restsOf_5 : decode cX7_restsOf 5 = .ok (.iload_n 2, 1) := by decide +kernel
theorem dX7_restsOf_6 : decode cX7_restsOf 6 = .ok (.invokestatic 161, 3) := by decide +kernel
theorem dX7_restsOf_9 : decode cX7_restsOf 9 = .ok (.iaload, 1) := by decide +kernel
theorem dX7_restsOf_10 : decode cX7_restsOf 10 = .ok (.istore_n 3, 1) := by decide +kernel
theorem dX7_restsOf_11 : decode cX7_restsOf 11 = .ok (.iload_n 1, 1) := by decide +kernel
theorem dX7_restsOf_12 : decode cX7_restsOf 12 = .ok (.iconst 1, 1) := by decide +kernel
theorem dX7_restsOf_13 : decode cX7_restsOf 13 = .ok (.iadd, 1) := by decide +kernel
theorem dX7_restsOf_14 : decode cX7_restsOf 14 = .ok (.istore 4, 2) := by decide +kernel
theorem dX7_restsOf_16 : decode cX7_restsOf 16 = .ok (.iload 4, 2) := by decide +kernel
theorem dX7_restsOf_18 : decode cX7_restsOf 18 = .ok (.iload_n 2, 1) := by decide +kernel
theorem dX7_restsOf_19 : decode cX7_restsOf 19 = .ok (.if_icmp .gt 67, 3) := by decide +kernel
theorem dX7_restsOf_22 : decode cX7_restsOf 22 = .ok (.aload_n 0, 1) := by decide +kernel
theorem dX7_restsOf_23 : decode cX7_restsOf 23 = .ok (.getfield 56, 3) := by decide +kernel
theorem dX7_restsOf_26 : decode cX7_restsOf 26 = .ok (.iload_n 1, 1) := by decide +kernel
theorem dX7_restsOf_27 : decode cX7_restsOf 27 = .ok (.iload 4, 2) := by decide +kernel
theorem dX7_restsOf_29 : decode cX7_restsOf 29 = .ok (.invokestatic 161, 3) := by decide +kernel
theorem dX7_restsOf_32 : decode cX7_restsOf 32 = .ok (.iaload, 1) := by decide +kernel
theorem dX7_restsOf_33 : decode cX7_restsOf 33 = .ok (.aload_n 0, 1) := by decide +kernel
theorem dX7_restsOf_34 : decode cX7_restsOf 34 = .ok (.iload_n 1, 1) := by decide +kernel
theorem dX7_restsOf_35 : decode cX7_restsOf 35 = .ok (.invokevirtual 86, 3) := by decide +kernel
theorem dX7_restsOf_38 : decode cX7_restsOf 38 = .ok (.bipush 6, 2) := by decide +kernel
theorem dX7_restsOf_40 : decode cX7_restsOf 40 = .ok (.if_icmp .ne 19, 3) := by decide +kernel
theorem dX7_restsOf_43 : decode cX7_restsOf 43 = .ok (.aload_n 0, 1) := by decide +kernel
theorem dX7_restsOf_44 : decode cX7_restsOf 44 = .ok (.getfield 65, 3) := by decide +kernel
theorem dX7_restsOf_47 : decode cX7_restsOf 47 = .ok (.iload_n 1, 1) := by decide +kernel
theorem dX7_restsOf_48 : decode cX7_restsOf 48 = .ok (.iconst 1, 1) := by decide +kernel
theorem dX7_restsOf_49 : decode cX7_restsOf 49 = .ok (.iadd, 1) := by decide +kernel
theorem dX7_restsOf_50 : decode cX7_restsOf 50 = .ok (.iload 4, 2) := by decide +kernel
theorem dX7_restsOf_52 : decode cX7_restsOf 52 = .ok (.invokestatic 161, 3) := by decide +kernel
theorem dX7_restsOf_55 : decode cX7_restsOf 55 = .ok (.iaload, 1) := by decide +kernel
theorem dX7_restsOf_56 : decode cX7_restsOf 56 = .ok (.goto 4, 3) := by decide +kernel
theorem dX7_restsOf_59 : decode cX7_restsOf 59 = .ok (.iconst 0, 1) := by decide +kernel
theorem dX7_restsOf_60 : decode cX7_restsOf 60 = .ok (.iadd, 1) := by decide +kernel
theorem dX7_restsOf_61 : decode cX7_restsOf 61 = .ok (.istore 5, 2) := by decide +kernel
theorem dX7_restsOf_63 : decode cX7_restsOf 63 = .ok (.iload_n 3, 1) := by decide +kernel
theorem dX7_restsOf_64 : decode cX7_restsOf 64 = .ok (.iload 5, 2) := by decide +kernel
theorem dX7_restsOf_66 : decode cX7_restsOf 66 = .ok (.aload_n 0, 1) := by decide +kernel
theorem dX7_restsOf_67 : decode cX7_restsOf 67 = .ok (.getfield 62, 3) := by decide +kernel
theorem dX7_restsOf_70 : decode cX7_restsOf 70 = .ok (.iload 4, 2) := by decide +kernel
theorem dX7_restsOf_72 : decode cX7_restsOf 72 = .ok (.iload_n 2, 1) := by decide +kernel
theorem dX7_restsOf_73 : decode cX7_restsOf 73 = .ok (.invokestatic 161, 3) := by decide +kernel
theorem dX7_restsOf_76 : decode cX7_restsOf 76 = .ok (.iaload, 1) := by decide +kernel
theorem dX7_restsOf_77 : decode cX7_restsOf 77 = .ok (.imul, 1) := by decide +kernel
theorem dX7_restsOf_78 : decode cX7_restsOf 78 = .ok (.iadd, 1) := by decide +kernel
theorem dX7_restsOf_79 : decode cX7_restsOf 79 = .ok (.istore_n 3, 1) := by decide +kernel
theorem dX7_restsOf_80 : decode cX7_restsOf 80 = .ok (.iinc 4 1, 3) := by decide +kernel
theorem dX7_restsOf_83 : decode cX7_restsOf 83 = .ok (.goto (-67), 3) := by decide +kernel
theorem dX7_restsOf_86 : decode cX7_restsOf 86 = .ok (.iload_n 3, 1) := by decide +kernel
theorem dX7_restsOf_87 : decode cX7_restsOf 87 = .ok (.ireturn, 1) := by decide +kernel
theorem dX7_clausesOf_0 : decode cX7_clausesOf 0 = .ok (.iconst 0, 1) := by decide +kernel
theorem dX7_clausesOf_1 : decode cX7_clausesOf 1 = .ok (.istore_n 3, 1) := by decide +kernel
theorem dX7_clausesOf_2 : decode cX7_clausesOf 2 = .ok (.iload_n 1, 1) := by decide +kernel
theorem dX7_clausesOf_3 : decode cX7_clausesOf 3 = .ok (.iconst 1, 1) := by decide +kernel
theorem dX7_clausesOf_4 : decode cX7_clausesOf 4 = .ok (.iadd, 1) := by decide +kernel
theorem dX7_clausesOf_5 : decode cX7_clausesOf 5 = .ok (.istore 4, 2) := by decide +kernel
theorem dX7_clausesOf_7 : decode cX7_clausesOf 7 = .ok (.iload 4, 2) := by decide +kernel
theorem dX7_clausesOf_9 : decode cX7_clausesOf 9 = .ok (.iload_n 2, 1) := by decide +kernel
theorem dX7_clausesOf_10 : decode cX7_clausesOf 10 = .ok (.if_icmp .ge 47, 3) := by decide +kernel
theorem dX7_clausesOf_13 : decode cX7_clausesOf 13 = .ok (.iload_n 3, 1) := by decide +kernel
theorem dX7_clausesOf_14 : decode cX7_clausesOf 14 = .ok (.aload_n 0, 1) := by decide +kernel
theorem dX7_clausesOf_15 : decode cX7_clausesOf 15 = .ok (.iload 4, 2) := by decide +kernel
theorem dX7_clausesOf_17 : decode cX7_clausesOf 17 = .ok (.invokevirtual 86, 3) := by decide +kernel
theorem dX7_clausesOf_20 : decode cX7_clausesOf 20 = .ok (.iconst 1, 1) := by decide +kernel
theorem dX7_clausesOf_21 : decode cX7_clausesOf 21 = .ok (.if_icmp .ne 27, 3) := by decide +kernel
theorem dX7_clausesOf_24 : decode cX7_clausesOf 24 = .ok (.aload_n 0, 1) := by decide +kernel
theorem dX7_clausesOf_25 : decode cX7_clausesOf 25 = .ok (.getfield 56, 3) := by decide +kernel
theorem dX7_clausesOf_28 : decode cX7_clausesOf 28 = .ok (.iload_n 1, 1) := by decide +kernel
theorem dX7_clausesOf_29 : decode cX7_clausesOf 29 = .ok (.iload 4, 2) := by decide +kernel
theorem dX7_clausesOf_31 : decode cX7_clausesOf 31 = .ok (.invokestatic 161, 3) := by decide +kernel
theorem dX7_clausesOf_34 : decode cX7_clausesOf 34 = .ok (.iaload, 1) := by decide +kernel
theorem dX7_clausesOf_35 : decode cX7_clausesOf 35 = .ok (.aload_n 0, 1) := by decide +kernel
theorem dX7_clausesOf_36 : decode cX7_clausesOf 36 = .ok (.iload 4, 2) := by decide +kernel
theorem dX7_clausesOf_38 : decode cX7_clausesOf 38 = .ok (.iconst 1, 1) := by decide +kernel
theorem dX7_clausesOf_39 : decode cX7_clausesOf 39 = .ok (.iadd, 1) := by decide +kernel
theorem dX7_clausesOf_40 : decode cX7_clausesOf 40 = .ok (.iload_n 2, 1) := by decide +kernel
theorem dX7_clausesOf_41 : decode cX7_clausesOf 41 = .ok (.invokevirtual 164, 3) := by decide +kernel
theorem dX7_clausesOf_44 : decode cX7_clausesOf 44 = .ok (.imul, 1) := by decide +kernel
theorem dX7_clausesOf_45 : decode cX7_clausesOf 45 = .ok (.goto 4, 3) := by decide +kernel
theorem dX7_clausesOf_48 : decode cX7_clausesOf 48 = .ok (.iconst 0, 1) := by decide +kernel
theorem dX7_clausesOf_49 : decode cX7_clausesOf 49 = .ok (.iadd, 1) := by decide +kernel
theorem dX7_clausesOf_50 : decode cX7_clausesOf 50 = .ok (.istore_n 3, 1) := by decide +kernel
theorem dX7_clausesOf_51 : decode cX7_clausesOf 51 = .ok (.iinc 4 1, 3) := by decide +kernel
theorem dX7_clausesOf_54 : decode cX7_clausesOf 54 = .ok (.goto (-47), 3) := by decide +kernel
theorem dX7_clausesOf_57 : decode cX7_clausesOf 57 = .ok (.iload_n 3, 1) := by decide +kernel
theorem dX7_clausesOf_58 : decode cX7_clausesOf 58 = .ok (.ireturn, 1) := by decide +kernel
theorem dX7_laysSpan_0 : decode cX7_laysSpan 0 = .ok (.iload_n 1, 1) := by decide +kernel
theorem dX7_laysSpan_1 : decode cX7_laysSpan 1 = .ok (.iload_n 2, 1) := by decide +kernel
theorem dX7_laysSpan_2 : decode cX7_laysSpan 2 = .ok (.invokestatic 161, 3) := by decide +kernel
theorem dX7_laysSpan_5 : decode cX7_laysSpan 5 = .ok (.istore_n 3, 1) := by decide +kernel
theorem dX7_laysSpan_6 : decode cX7_laysSpan 6 = .ok (.aload_n 0, 1) := by decide +kernel
theorem dX7_laysSpan_7 : decode cX7_laysSpan 7 = .ok (.getfield 59, 3) := by decide +kernel
theorem dX7_laysSpan_10 : decode cX7_laysSpan 10 = .ok (.iload_n 3, 1) := by decide +kernel
theorem dX7_laysSpan_11 : decode cX7_laysSpan 11 = .ok (.iload_n 1, 1) := by decide +kernel
theorem dX7_laysSpan_12 : decode cX7_laysSpan 12 = .ok (.iload_n 2, 1) := by decide +kernel
theorem dX7_laysSpan_13 : decode cX7_laysSpan 13 = .ok (.if_icmp .ge 27, 3) := by decide +kernel
theorem dX7_laysSpan_16 : decode cX7_laysSpan 16 = .ok (.aload_n 0, 1) := by decide +kernel
theorem dX7_laysSpan_17 : decode cX7_laysSpan 17 = .ok (.iload_n 1, 1) := by decide +kernel
theorem dX7_laysSpan_18 : decode cX7_laysSpan 18 = .ok (.invokevirtual 86, 3) := by decide +kernel
theorem dX7_laysSpan_21 : decode cX7_laysSpan 21 = .ok (.iconst 4, 1) := by decide +kernel
theorem dX7_laysSpan_22 : decode cX7_laysSpan 22 = .ok (.if_icmp .ne 18, 3) := by decide +kernel
theorem dX7_laysSpan_25 : decode cX7_laysSpan 25 = .ok (.aload_n 0, 1) := by decide +kernel
theorem dX7_laysSpan_26 : decode cX7_laysSpan 26 = .ok (.getfield 56, 3) := by decide +kernel
theorem dX7_laysSpan_29 : decode cX7_laysSpan 29 = .ok (.iload_n 1, 1) := by decide +kernel
theorem dX7_laysSpan_30 : decode cX7_laysSpan 30 = .ok (.iconst 1, 1) := by decide +kernel
theorem dX7_laysSpan_31 : decode cX7_laysSpan 31 = .ok (.iadd, 1) := by decide +kernel
theorem dX7_laysSpan_32 : decode cX7_laysSpan 32 = .ok (.iload_n 2, 1) := by decide +kernel
theorem dX7_laysSpan_33 : decode cX7_laysSpan 33 = .ok (.invokestatic 161, 3) := by decide +kernel
theorem dX7_laysSpan_36 : decode cX7_laysSpan 36 = .ok (.iaload, 1) := by decide +kernel
theorem dX7_laysSpan_37 : decode cX7_laysSpan 37 = .ok (.goto 4, 3) := by decide +kernel
theorem dX7_laysSpan_40 : decode cX7_laysSpan 40 = .ok (.iconst 0, 1) := by decide +kernel
theorem dX7_laysSpan_41 : decode cX7_laysSpan 41 = .ok (.iastore, 1) := by decide +kernel
theorem dX7_laysSpan_42 : decode cX7_laysSpan 42 = .ok (.aload_n 0, 1) := by decide +kernel
theorem dX7_laysSpan_43 : decode cX7_laysSpan 43 = .ok (.getfield 50, 3) := by decide +kernel
theorem dX7_laysSpan_46 : decode cX7_laysSpan 46 = .ok (.iload_n 3, 1) := by decide +kernel
theorem dX7_laysSpan_47 : decode cX7_laysSpan 47 = .ok (.aload_n 0, 1) := by decide +kernel
theorem dX7_laysSpan_48 : decode cX7_laysSpan 48 = .ok (.iload_n 1, 1) := by decide +kernel
theorem dX7_laysSpan_49 : decode cX7_laysSpan 49 = .ok (.iload_n 2, 1) := by decide +kernel
theorem dX7_laysSpan_50 : decode cX7_laysSpan 50 = .ok (.iconst 0, 1) := by decide +kernel
theorem dX7_laysSpan_51 : decode cX7_laysSpan 51 = .ok (.invokevirtual 167, 3) := by decide +kernel
theorem dX7_laysSpan_54 : decode cX7_laysSpan 54 = .ok (.iastore, 1) := by decide +kernel
theorem dX7_laysSpan_55 : decode cX7_laysSpan 55 = .ok (.aload_n 0, 1) := by decide +kernel
theorem dX7_laysSpan_56 : decode cX7_laysSpan 56 = .ok (.getfield 62, 3) := by decide +kernel
theorem dX7_laysSpan_59 : decode cX7_laysSpan 59 = .ok (.iload_n 3, 1) := by decide +kernel
theorem dX7_laysSpan_60 : decode cX7_laysSpan 60 = .ok (.aload_n 0, 1) := by decide +kernel
theorem dX7_laysSpan_61 : decode cX7_laysSpan 61 = .ok (.iload_n 1, 1) := by decide +kernel
theorem dX7_laysSpan_62 : decode cX7_laysSpan 62 = .ok (.iload_n 2, 1) := by decide +kernel
theorem dX7_laysSpan_63 : decode cX7_laysSpan 63 = .ok (.iconst 1, 1) := by decide +kernel
theorem dX7_laysSpan_64 : decode cX7_laysSpan 64 = .ok (.invokevirtual 167, 3) := by decide +kernel
theorem dX7_laysSpan_67 : decode cX7_laysSpan 67 = .ok (.iastore, 1) := by decide +kernel
theorem dX7_laysSpan_68 : decode cX7_laysSpan 68 = .ok (.aload_n 0, 1) := by decide +kernel
theorem dX7_laysSpan_69 : decode cX7_laysSpan 69 = .ok (.getfield 53, 3) := by decide +kernel
theorem dX7_laysSpan_72 : decode cX7_laysSpan 72 = .ok (.iload_n 3, 1) := by decide +kernel
theorem dX7_laysSpan_73 : decode cX7_laysSpan 73 = .ok (.aload_n 0, 1) := by decide +kernel
theorem dX7_laysSpan_74 : decode cX7_laysSpan 74 = .ok (.iload_n 1, 1) := by decide +kernel
theorem dX7_laysSpan_75 : decode cX7_laysSpan 75 = .ok (.iload_n 2, 1) := by decide +kernel
theorem dX7_laysSpan_76 : decode cX7_laysSpan 76 = .ok (.invokevirtual 171, 3) := by decide +kernel
theorem dX7_laysSpan_79 : decode cX7_laysSpan 79 = .ok (.iastore, 1) := by decide +kernel
theorem dX7_laysSpan_80 : decode cX7_laysSpan 80 = .ok (.aload_n 0, 1) := by decide +kernel
theorem dX7_laysSpan_81 : decode cX7_laysSpan 81 = .ok (.getfield 56, 3) := by decide +kernel
theorem dX7_laysSpan_84 : decode cX7_laysSpan 84 = .ok (.iload_n 3, 1) := by decide +kernel
theorem dX7_laysSpan_85 : decode cX7_laysSpan 85 = .ok (.aload_n 0, 1) := by decide +kernel
theorem dX7_laysSpan_86 : decode cX7_laysSpan 86 = .ok (.iload_n 1, 1) := by decide +kernel
theorem dX7_laysSpan_87 : decode cX7_laysSpan 87 = .ok (.iload_n 2, 1) := by decide +kernel
theorem dX7_laysSpan_88 : decode cX7_laysSpan 88 = .ok (.invokevirtual 174, 3) := by decide +kernel
theorem dX7_laysSpan_91 : decode cX7_laysSpan 91 = .ok (.iastore, 1) := by decide +kernel
theorem dX7_laysSpan_92 : decode cX7_laysSpan 92 = .ok (.aload_n 0, 1) := by decide +kernel
theorem dX7_laysSpan_93 : decode cX7_laysSpan 93 = .ok (.getfield 65, 3) := by decide +kernel
theorem dX7_laysSpan_96 : decode cX7_laysSpan 96 = .ok (.iload_n 3, 1) := by decide +kernel
theorem dX7_laysSpan_97 : decode cX7_laysSpan 97 = .ok (.aload_n 0, 1) := by decide +kernel
theorem dX7_laysSpan_98 : decode cX7_laysSpan 98 = .ok (.iload_n 1, 1) := by decide +kernel
theorem dX7_laysSpan_99 : decode cX7_laysSpan 99 = .ok (.iload_n 2, 1) := by decide +kernel
theorem dX7_laysSpan_100 : decode cX7_laysSpan 100 = .ok (.invokevirtual 177, 3) := by decide +kernel
theorem dX7_laysSpan_103 : decode cX7_laysSpan 103 = .ok (.iastore, 1) := by decide +kernel
theorem dX7_laysSpan_104 : decode cX7_laysSpan 104 = .ok (.return_, 1) := by decide +kernel
theorem dX7_laysSpans_0 : decode cX7_laysSpans 0 = .ok (.iconst 0, 1) := by decide +kernel
theorem dX7_laysSpans_1 : decode cX7_laysSpans 1 = .ok (.istore_n 1, 1) := by decide +kernel
theorem dX7_laysSpans_2 : decode cX7_laysSpans 2 = .ok (.iload_n 1, 1) := by decide +kernel
theorem dX7_laysSpans_3 : decode cX7_laysSpans 3 = .ok (.aload_n 0, 1) := by decide +kernel
theorem dX7_laysSpans_4 : decode cX7_laysSpans 4 = .ok (.getfield 7, 3) := by decide +kernel
theorem dX7_laysSpans_7 : decode cX7_laysSpans 7 = .ok (.iconst 0, 1) := by decide +kernel
theorem dX7_laysSpans_8 : decode cX7_laysSpans 8 = .ok (.iaload, 1) := by decide +kernel
theorem dX7_laysSpans_9 : decode cX7_laysSpans 9 = .ok (.if_icmp .gt 37, 3) := by decide +kernel
theorem dX7_laysSpans_12 : decode cX7_laysSpans 12 = .ok (.iconst 0, 1) := by decide +kernel
theorem dX7_laysSpans_13 : decode cX7_laysSpans 13 = .ok (.istore_n 2, 1) := by decide +kernel
theorem dX7_laysSpans_14 : decode cX7_laysSpans 14 = .ok (.iload_n 2, 1) := by decide +kernel
theorem dX7_laysSpans_15 : decode cX7_laysSpans 15 = .ok (.iload_n 1, 1) := by decide +kernel
theorem dX7_laysSpans_16 : decode cX7_laysSpans 16 = .ok (.iadd, 1) := by decide +kernel
theorem dX7_laysSpans_17 : decode cX7_laysSpans 17 = .ok (.aload_n 0, 1) := by decide +kernel
theorem dX7_laysSpans_18 : decode cX7_laysSpans 18 = .ok (.getfield 7, 3) := by decide +kernel
theorem dX7_laysSpans_21 : decode cX7_laysSpans 21 = .ok (.iconst 0, 1) := by decide +kernel
theorem dX7_laysSpans_22 : decode cX7_laysSpans 22 = .ok (.iaload, 1) := by decide +kernel
theorem dX7_laysSpans_23 : decode cX7_laysSpans 23 = .ok (.if_icmp .gt 17, 3) := by decide +kernel
theorem dX7_laysSpans_26 : decode cX7_laysSpans 26 = .ok (.aload_n 0, 1) := by decide +kernel
theorem dX7_laysSpans_27 : decode cX7_laysSpans 27 = .ok (.iload_n 2, 1) := by decide +kernel
theorem dX7_laysSpans_28 : decode cX7_laysSpans 28 = .ok (.iload_n 2, 1) := by decide +kernel
theorem dX7_laysSpans_29 : decode cX7_laysSpans 29 = .ok (.iload_n 1, 1) := by decide +kernel
theorem dX7_laysSpans_30 : decode cX7_laysSpans 30 = .ok (.iadd, 1) := by decide +kernel
theorem dX7_laysSpans_31 : decode cX7_laysSpans 31 = .ok (.invokevirtual 180, 3) := by decide +kernel
theorem dX7_laysSpans_34 : decode cX7_laysSpans 34 = .ok (.iinc 2 1, 3) := by decide +kernel
theorem dX7_laysSpans_37 : decode cX7_laysSpans 37 = .ok (.goto (-23), 3) := by decide +kernel
theorem dX7_laysSpans_40 : decode cX7_laysSpans 40 = .ok (.iinc 1 1, 3) := by decide +kernel
theorem dX7_laysSpans_43 : decode cX7_laysSpans 43 = .ok (.goto (-41), 3) := by decide +kernel
theorem dX7_laysSpans_46 : decode cX7_laysSpans 46 = .ok (.return_, 1) := by decide +kernel
theorem dX7_partOf_0 : decode cX7_partOf 0 = .ok (.iload_n 1, 1) := by decide +kernel
theorem dX7_partOf_1 : decode cX7_partOf 1 = .ok (.iload_n 2, 1) := by decide +kernel
theorem dX7_partOf_2 : decode cX7_partOf 2 = .ok (.invokestatic 161, 3) := by decide +kernel
theorem dX7_partOf_5 : decode cX7_partOf 5 = .ok (.istore 4, 2) := by decide +kernel
theorem dX7_partOf_7 : decode cX7_partOf 7 = .ok (.iload_n 3, 1) := by decide +kernel
theorem dX7_partOf_8 : decode cX7_partOf 8 = .ok (.tableswitch 64 0 3 #[32, 40, 48, 56], 32) := by decide +kernel
theorem dX7_partOf_40 : decode cX7_partOf 40 = .ok (.aload_n 0, 1) := by decide +kernel
theorem dX7_partOf_41 : decode cX7_partOf 41 = .ok (.getfield 53, 3) := by decide +kernel
theorem dX7_partOf_44 : decode cX7_partOf 44 = .ok (.iload 4, 2) := by decide +kernel
theorem dX7_partOf_46 : decode cX7_partOf 46 = .ok (.iaload, 1) := by decide +kernel
theorem dX7_partOf_47 : decode cX7_partOf 47 = .ok (.ireturn, 1) := by decide +kernel
theorem dX7_partOf_48 : decode cX7_partOf 48 = .ok (.aload_n 0, 1) := by decide +kernel
theorem dX7_partOf_49 : decode cX7_partOf 49 = .ok (.getfield 56, 3) := by decide +kernel
theorem dX7_partOf_52 : decode cX7_partOf 52 = .ok (.iload 4, 2) := by decide +kernel
theorem dX7_partOf_54 : decode cX7_partOf 54 = .ok (.iaload, 1) := by decide +kernel
theorem dX7_partOf_55 : decode cX7_partOf 55 = .ok (.ireturn, 1) := by decide +kernel
theorem dX7_partOf_56 : decode cX7_partOf 56 = .ok (.aload_n 0, 1) := by decide +kernel
theorem dX7_partOf_57 : decode cX7_partOf 57 = .ok (.getfield 59, 3) := by decide +kernel
theorem dX7_partOf_60 : decode cX7_partOf 60 = .ok (.iload 4, 2) := by decide +kernel
theorem dX7_partOf_62 : decode cX7_partOf 62 = .ok (.iaload, 1) := by decide +kernel
theorem dX7_partOf_63 : decode cX7_partOf 63 = .ok (.ireturn, 1) := by decide +kernel
theorem dX7_partOf_64 : decode cX7_partOf 64 = .ok (.aload_n 0, 1) := by decide +kernel
theorem dX7_partOf_65 : decode cX7_partOf 65 = .ok (.getfield 65, 3) := by decide +kernel
theorem dX7_partOf_68 : decode cX7_partOf 68 = .ok (.iload 4, 2) := by decide +kernel
theorem dX7_partOf_70 : decode cX7_partOf 70 = .ok (.iaload, 1) := by decide +kernel
theorem dX7_partOf_71 : decode cX7_partOf 71 = .ok (.ireturn, 1) := by decide +kernel
theorem dX7_partOf_72 : decode cX7_partOf 72 = .ok (.aload_n 0, 1) := by decide +kernel
theorem dX7_partOf_73 : decode cX7_partOf 73 = .ok (.getfield 62, 3) := by decide +kernel
theorem dX7_partOf_76 : decode cX7_partOf 76 = .ok (.iload 4, 2) := by decide +kernel
theorem dX7_partOf_78 : decode cX7_partOf 78 = .ok (.iaload, 1) := by decide +kernel
theorem dX7_partOf_79 : decode cX7_partOf 79 = .ok (.ireturn, 1) := by decide +kernel
theorem dX7_allByParts_0 : decode cX7_allByParts 0 = .ok (.aload_n 0, 1) := by decide +kernel
theorem dX7_allByParts_1 : decode cX7_allByParts 1 = .ok (.invokevirtual 184, 3) := by decide +kernel
theorem dX7_allByParts_4 : decode cX7_allByParts 4 = .ok (.aload_n 0, 1) := by decide +kernel
theorem dX7_allByParts_5 : decode cX7_allByParts 5 = .ok (.getfield 7, 3) := by decide +kernel
theorem dX7_allByParts_8 : decode cX7_allByParts 8 = .ok (.iconst 0, 1) := by decide +kernel
theorem dX7_allByParts_9 : decode cX7_allByParts 9 = .ok (.iaload, 1) := by decide +kernel
theorem dX7_allByParts_10 : decode cX7_allByParts 10 = .ok (.ifCond .ne 7, 3) := by decide +kernel
theorem dX7_allByParts_13 : decode cX7_allByParts 13 = .ok (.iconst 0, 1) := by decide +kernel
theorem dX7_allByParts_14 : decode cX7_allByParts 14 = .ok (.goto 18, 3) := by decide +kernel
theorem dX7_allByParts_17 : decode cX7_allByParts 17 = .ok (.aload_n 0, 1) := by decide +kernel
theorem dX7_allByParts_18 : decode cX7_allByParts 18 = .ok (.getfield 65, 3) := by decide +kernel
theorem dX7_allByParts_21 : decode cX7_allByParts 21 = .ok (.iconst 0, 1) := by decide +kernel
theorem dX7_allByParts_22 : decode cX7_allByParts 22 = .ok (.aload_n 0, 1) := by decide +kernel
theorem dX7_allByParts_23 : decode cX7_allByParts 23 = .ok (.getfield 7, 3) := by decide +kernel
theorem dX7_allByParts_26 : decode cX7_allByParts 26 = .ok (.iconst 0, 1) := by decide +kernel
theorem dX7_allByParts_27 : decode cX7_allByParts 27 = .ok (.iaload, 1) := by decide +kernel
theorem dX7_allByParts_28 : decode cX7_allByParts 28 = .ok (.invokestatic 161, 3) := by decide +kernel
theorem dX7_allByParts_31 : decode cX7_allByParts 31 = .ok (.iaload, 1) := by decide +kernel
theorem dX7_allByParts_32 : decode cX7_allByParts 32 = .ok (.ireturn, 1) := by decide +kernel
theorem dX7_begins_0 : decode cX7_begins 0 = .ok (.aload_n 0, 1) := by decide +kernel
theorem dX7_begins_1 : decode cX7_begins 1 = .ok (.getfield 7, 3) := by decide +kernel
theorem dX7_begins_4 : decode cX7_begins 4 = .ok (.iconst 1, 1) := by decide +kernel
theorem dX7_begins_5 : decode cX7_begins 5 = .ok (.iconst 0, 1) := by decide +kernel
theorem dX7_begins_6 : decode cX7_begins 6 = .ok (.iastore, 1) := by decide +kernel
theorem dX7_begins_7 : decode cX7_begins 7 = .ok (.iconst 0, 1) := by decide +kernel
theorem dX7_begins_8 : decode cX7_begins 8 = .ok (.istore_n 1, 1) := by decide +kernel
theorem dX7_begins_9 : decode cX7_begins 9 = .ok (.iload_n 1, 1) := by decide +kernel
theorem dX7_begins_10 : decode cX7_begins 10 = .ok (.bipush 12, 2) := by decide +kernel
theorem dX7_begins_12 : decode cX7_begins 12 = .ok (.if_icmp .ge 19, 3) := by decide +kernel
theorem dX7_begins_15 : decode cX7_begins 15 = .ok (.aload_n 0, 1) := by decide +kernel
theorem dX7_begins_16 : decode cX7_begins 16 = .ok (.getfield 7, 3) := by decide +kernel
theorem dX7_begins_19 : decode cX7_begins 19 = .ok (.bipush 14, 2) := by decide +kernel
theorem dX7_begins_21 : decode cX7_begins 21 = .ok (.iload_n 1, 1) := by decide +kernel
theorem dX7_begins_22 : decode cX7_begins 22 = .ok (.iadd, 1) := by decide +kernel
theorem dX7_begins_23 : decode cX7_begins 23 = .ok (.iconst 0, 1) := by decide +kernel
theorem dX7_begins_24 : decode cX7_begins 24 = .ok (.iastore, 1) := by decide +kernel
theorem dX7_begins_25 : decode cX7_begins 25 = .ok (.iinc 1 1, 3) := by decide +kernel
theorem dX7_begins_28 : decode cX7_begins 28 = .ok (.goto (-19), 3) := by decide +kernel
theorem dX7_begins_31 : decode cX7_begins 31 = .ok (.aload_n 0, 1) := by decide +kernel
theorem dX7_begins_32 : decode cX7_begins 32 = .ok (.invokevirtual 187, 3) := by decide +kernel
theorem dX7_begins_35 : decode cX7_begins 35 = .ok (.aload_n 0, 1) := by decide +kernel
theorem dX7_begins_36 : decode cX7_begins 36 = .ok (.getfield 123, 3) := by decide +kernel
theorem dX7_begins_39 : decode cX7_begins 39 = .ok (.ireturn, 1) := by decide +kernel
theorem dX7_add_0 : decode cX7_add 0 = .ok (.aload_n 0, 1) := by decide +kernel
theorem dX7_add_1 : decode cX7_add 1 = .ok (.iconst 0, 1) := by decide +kernel
theorem dX7_add_2 : decode cX7_add 2 = .ok (.putfield 68, 3) := by decide +kernel
theorem dX7_add_5 : decode cX7_add 5 = .ok (.iload_n 1, 1) := by decide +kernel
theorem dX7_add_6 : decode cX7_add 6 = .ok (.iconst 0, 1) := by decide +kernel
theorem dX7_add_7 : decode cX7_add 7 = .ok (.bipush 6, 2) := by decide +kernel
theorem dX7_add_9 : decode cX7_add 9 = .ok (.invokestatic 72, 3) := by decide +kernel
theorem dX7_add_12 : decode cX7_add 12 = .ok (.ifCond .ne 9, 3) := by decide +kernel
theorem dX7_add_15 : decode cX7_add 15 = .ok (.aload_n 0, 1) := by decide +kernel
theorem dX7_add_16 : decode cX7_add 16 = .ok (.iconst 1, 1) := by decide +kernel
theorem dX7_add_17 : decode cX7_add 17 = .ok (.invokevirtual 190, 3) := by decide +kernel
theorem dX7_add_20 : decode cX7_add 20 = .ok (.ireturn, 1) := by decide +kernel
theorem dX7_add_21 : decode cX7_add 21 = .ok (.aload_n 0, 1) := by decide +kernel
theorem dX7_add_22 : decode cX7_add 22 = .ok (.getfield 7, 3) := by decide +kernel
theorem dX7_add_25 : decode cX7_add 25 = .ok (.iconst 0, 1) := by decide +kernel
theorem dX7_add_26 : decode cX7_add 26 = .ok (.iaload, 1) := by decide +kernel
theorem dX7_add_27 : decode cX7_add 27 = .ok (.bipush 12, 2) := by decide +kernel
theorem dX7_add_29 : decode cX7_add 29 = .ok (.if_icmp .ne 9, 3) := by decide +kernel
theorem dX7_add_32 : decode cX7_add 32 = .ok (.aload_n 0, 1) := by decide +kernel
theorem dX7_add_33 : decode cX7_add 33 = .ok (.iconst 2, 1) := by decide +kernel
theorem dX7_add_34 : decode cX7_add 34 = .ok (.invokevirtual 190, 3) := by decide +kernel
theorem dX7_add_37 : decode cX7_add 37 = .ok (.ireturn, 1) := by decide +kernel
theorem dX7_add_38 : decode cX7_add 38 = .ok (.aload_n 0, 1) := by decide +kernel
theorem dX7_add_39 : decode cX7_add 39 = .ok (.invokevirtual 193, 3) := by decide +kernel
theorem dX7_add_42 : decode cX7_add 42 = .ok (.aload_n 0, 1) := by decide +kernel
theorem dX7_add_43 : decode cX7_add 43 = .ok (.getfield 7, 3) := by decide +kernel
theorem dX7_add_46 : decode cX7_add 46 = .ok (.iconst 2, 1) := by decide +kernel
theorem dX7_add_47 : decode cX7_add 47 = .ok (.aload_n 0, 1) := by decide +kernel
theorem dX7_add_48 : decode cX7_add 48 = .ok (.getfield 7, 3) := by decide +kernel
theorem dX7_add_51 : decode cX7_add 51 = .ok (.iconst 0, 1) := by decide +kernel
theorem dX7_add_52 : decode cX7_add 52 = .ok (.iaload, 1) := by decide +kernel
theorem dX7_add_53 : decode cX7_add 53 = .ok (.iadd, 1) := by decide +kernel
theorem dX7_add_54 : decode cX7_add 54 = .ok (.iload_n 1, 1) := by decide +kernel
theorem dX7_add_55 : decode cX7_add 55 = .ok (.iastore, 1) := by decide +kernel
theorem dX7_add_56 : decode cX7_add 56 = .ok (.aload_n 0, 1) := by decide +kernel
theorem dX7_add_57 : decode cX7_add 57 = .ok (.getfield 7, 3) := by decide +kernel
theorem dX7_add_60 : decode cX7_add 60 = .ok (.iconst 0, 1) := by decide +kernel
theorem dX7_add_61 : decode cX7_add 61 = .ok (.dup2, 1) := by decide +kernel
theorem dX7_add_62 : decode cX7_add 62 = .ok (.iaload, 1) := by decide +kernel
theorem dX7_add_63 : decode cX7_add 63 = .ok (.iconst 1, 1) := by decide +kernel
theorem dX7_add_64 : decode cX7_add 64 = .ok (.iadd, 1) := by decide +kernel
theorem dX7_add_65 : decode cX7_add 65 = .ok (.iastore, 1) := by decide +kernel
theorem dX7_add_66 : decode cX7_add 66 = .ok (.aload_n 0, 1) := by decide +kernel
theorem dX7_add_67 : decode cX7_add 67 = .ok (.invokevirtual 196, 3) := by decide +kernel
theorem dX7_add_70 : decode cX7_add 70 = .ok (.ireturn, 1) := by decide +kernel
theorem dX7_change_0 : decode cX7_change 0 = .ok (.aload_n 0, 1) := by decide +kernel
theorem dX7_change_1 : decode cX7_change 1 = .ok (.iconst 0, 1) := by decide +kernel
theorem dX7_change_2 : decode cX7_change 2 = .ok (.putfield 68, 3) := by decide +kernel
theorem dX7_change_5 : decode cX7_change 5 = .ok (.aload_n 0, 1) := by decide +kernel
theorem dX7_change_6 : decode cX7_change 6 = .ok (.iload_n 1, 1) := by decide +kernel
theorem dX7_change_7 : decode cX7_change 7 = .ok (.invokevirtual 199, 3) := by decide +kernel
theorem dX7_change_10 : decode cX7_change 10 = .ok (.ifCond .ne 9, 3) := by decide +kernel
theorem dX7_change_13 : decode cX7_change 13 = .ok (.aload_n 0, 1) := by decide +kernel
theorem dX7_change_14 : decode cX7_change 14 = .ok (.iconst 1, 1) := by decide +kernel
theorem dX7_change_15 : decode cX7_change 15 = .ok (.invokevirtual 190, 3) := by decide +kernel
theorem dX7_change_18 : decode cX7_change 18 = .ok (.ireturn, 1) := by decide +kernel
theorem dX7_change_19 : decode cX7_change 19 = .ok (.iload_n 2, 1) := by decide +kernel
theorem dX7_change_20 : decode cX7_change 20 = .ok (.iconst 0, 1) := by decide +kernel
theorem dX7_change_21 : decode cX7_change 21 = .ok (.bipush 6, 2) := by decide +kernel
theorem dX7_change_23 : decode cX7_change 23 = .ok (.invokestatic 72, 3) := by decide +kernel
theorem dX7_change_26 : decode cX7_change 26 = .ok (.ifCond .ne 9, 3) := by decide +kernel
theorem dX7_change_29 : decode cX7_change 29 = .ok (.aload_n 0, 1) := by decide +kernel
theorem dX7_change_30 : decode cX7_change 30 = .ok (.iconst 2, 1) := by decide +kernel
theorem dX7_change_31 : decode cX7_change 31 = .ok (.invokevirtual 190, 3) := by decide +kernel
theorem dX7_change_34 : decode cX7_change 34 = .ok (.ireturn, 1) := by decide +kernel
theorem dX7_change_35 : decode cX7_change 35 = .ok (.aload_n 0, 1) := by decide +kernel
theorem dX7_change_36 : decode cX7_change 36 = .ok (.invokevirtual 193, 3) := by decide +kernel
theorem dX7_change_39 : decode cX7_change 39 = .ok (.aload_n 0, 1) := by decide +kernel
theorem dX7_change_40 : decode cX7_change 40 = .ok (.getfield 7, 3) := by decide +kernel
theorem dX7_change_43 : decode cX7_change 43 = .ok (.iconst 2, 1) := by decide +kernel
theorem dX7_change_44 : decode cX7_change 44 = .ok (.iload_n 1, 1) := by decide +kernel
theorem dX7_change_45 : decode cX7_change 45 = .ok (.iadd, 1) := by decide +kernel
theorem dX7_change_46 : decode cX7_change 46 = .ok (.iload_n 2, 1) := by decide +kernel
theorem dX7_change_47 : decode cX7_change 47 = .ok (.iastore, 1) := by decide +kernel
theorem dX7_change_48 : decode cX7_change 48 = .ok (.aload_n 0, 1) := by decide +kernel
theorem dX7_change_49 : decode cX7_change 49 = .ok (.invokevirtual 196, 3) := by decide +kernel
theorem dX7_change_52 : decode cX7_change 52 = .ok (.ireturn, 1) := by decide +kernel
theorem dX7_wipe_0 : decode cX7_wipe 0 = .ok (.aload_n 0, 1) := by decide +kernel
theorem dX7_wipe_1 : decode cX7_wipe 1 = .ok (.iconst 0, 1) := by decide +kernel
theorem dX7_wipe_2 : decode cX7_wipe 2 = .ok (.putfield 68, 3) := by decide +kernel
theorem dX7_wipe_5 : decode cX7_wipe 5 = .ok (.aload_n 0, 1) := by decide +kernel
theorem dX7_wipe_6 : decode cX7_wipe 6 = .ok (.iload_n 1, 1) := by decide +kernel
theorem dX7_wipe_7 : decode cX7_wipe 7 = .ok (.invokevirtual 199, 3) := by decide +kernel
theorem dX7_wipe_10 : decode cX7_wipe 10 = .ok (.ifCond .ne 9, 3) := by decide +kernel
theorem dX7_wipe_13 : decode cX7_wipe 13 = .ok (.aload_n 0, 1) := by decide +kernel
theorem dX7_wipe_14 : decode cX7_wipe 14 = .ok (.iconst 1, 1) := by decide +kernel
theorem dX7_wipe_15 : decode cX7_wipe 15 = .ok (.invokevirtual 190, 3) := by decide +kernel
theorem dX7_wipe_18 : decode cX7_wipe 18 = .ok (.ireturn, 1) := by decide +kernel
theorem dX7_wipe_19 : decode cX7_wipe 19 = .ok (.aload_n 0, 1) := by decide +kernel
theorem dX7_wipe_20 : decode cX7_wipe 20 = .ok (.invokevirtual 193, 3) := by decide +kernel
theorem dX7_wipe_23 : decode cX7_wipe 23 = .ok (.aload_n 0, 1) := by decide +kernel
theorem dX7_wipe_24 : decode cX7_wipe 24 = .ok (.getfield 7, 3) := by decide +kernel
theorem dX7_wipe_27 : decode cX7_wipe 27 = .ok (.iconst 0, 1) := by decide +kernel
theorem dX7_wipe_28 : decode cX7_wipe 28 = .ok (.dup2, 1) := by decide +kernel
theorem dX7_wipe_29 : decode cX7_wipe 29 = .ok (.iaload, 1) := by decide +kernel
theorem dX7_wipe_30 : decode cX7_wipe 30 = .ok (.iconst 1, 1) := by decide +kernel
theorem dX7_wipe_31 : decode cX7_wipe 31 = .ok (.isub, 1) := by decide +kernel
theorem dX7_wipe_32 : decode cX7_wipe 32 = .ok (.iastore, 1) := by decide +kernel
theorem dX7_wipe_33 : decode cX7_wipe 33 = .ok (.iload_n 1, 1) := by decide +kernel
theorem dX7_wipe_34 : decode cX7_wipe 34 = .ok (.istore_n 2, 1) := by decide +kernel
theorem dX7_wipe_35 : decode cX7_wipe 35 = .ok (.iload_n 2, 1) := by decide +kernel
theorem dX7_wipe_36 : decode cX7_wipe 36 = .ok (.aload_n 0, 1) := by decide +kernel
theorem dX7_wipe_37 : decode cX7_wipe 37 = .ok (.getfield 7, 3) := by decide +kernel
theorem dX7_wipe_40 : decode cX7_wipe 40 = .ok (.iconst 0, 1) := by decide +kernel
theorem dX7_wipe_41 : decode cX7_wipe 41 = .ok (.iaload, 1) := by decide +kernel
theorem dX7_wipe_42 : decode cX7_wipe 42 = .ok (.if_icmp .ge 27, 3) := by decide +kernel
theorem dX7_wipe_45 : decode cX7_wipe 45 = .ok (.aload_n 0, 1) := by decide +kernel
theorem dX7_wipe_46 : decode cX7_wipe 46 = .ok (.getfield 7, 3) := by decide +kernel
theorem dX7_wipe_49 : decode cX7_wipe 49 = .ok (.iconst 2, 1) := by decide +kernel
theorem dX7_wipe_50 : decode cX7_wipe 50 = .ok (.iload_n 2, 1) := by decide +kernel
theorem dX7_wipe_51 : decode cX7_wipe 51 = .ok (.iadd, 1) := by decide +kernel
theorem dX7_wipe_52 : decode cX7_wipe 52 = .ok (.aload_n 0, 1) := by decide +kernel
theorem dX7_wipe_53 : decode cX7_wipe 53 = .ok (.getfield 7, 3) := by decide +kernel
theorem dX7_wipe_56 : decode cX7_wipe 56 = .ok (.iconst 2, 1) := by decide +kernel
theorem dX7_wipe_57 : decode cX7_wipe 57 = .ok (.iload_n 2, 1) := by decide +kernel
theorem dX7_wipe_58 : decode cX7_wipe 58 = .ok (.iadd, 1) := by decide +kernel
theorem dX7_wipe_59 : decode cX7_wipe 59 = .ok (.iconst 1, 1) := by decide +kernel
theorem dX7_wipe_60 : decode cX7_wipe 60 = .ok (.iadd, 1) := by decide +kernel
theorem dX7_wipe_61 : decode cX7_wipe 61 = .ok (.iaload, 1) := by decide +kernel
theorem dX7_wipe_62 : decode cX7_wipe 62 = .ok (.iastore, 1) := by decide +kernel
theorem dX7_wipe_63 : decode cX7_wipe 63 = .ok (.iinc 2 1, 3) := by decide +kernel
theorem dX7_wipe_66 : decode cX7_wipe 66 = .ok (.goto (-31), 3) := by decide +kernel
theorem dX7_wipe_69 : decode cX7_wipe 69 = .ok (.aload_n 0, 1) := by decide +kernel
theorem dX7_wipe_70 : decode cX7_wipe 70 = .ok (.getfield 7, 3) := by decide +kernel
theorem dX7_wipe_73 : decode cX7_wipe 73 = .ok (.iconst 2, 1) := by decide +kernel
theorem dX7_wipe_74 : decode cX7_wipe 74 = .ok (.aload_n 0, 1) := by decide +kernel
theorem dX7_wipe_75 : decode cX7_wipe 75 = .ok (.getfield 7, 3) := by decide +kernel
theorem dX7_wipe_78 : decode cX7_wipe 78 = .ok (.iconst 0, 1) := by decide +kernel
theorem dX7_wipe_79 : decode cX7_wipe 79 = .ok (.iaload, 1) := by decide +kernel
theorem dX7_wipe_80 : decode cX7_wipe 80 = .ok (.iadd, 1) := by decide +kernel
theorem dX7_wipe_81 : decode cX7_wipe 81 = .ok (.iconst 0, 1) := by decide +kernel
theorem dX7_wipe_82 : decode cX7_wipe 82 = .ok (.iastore, 1) := by decide +kernel
theorem dX7_wipe_83 : decode cX7_wipe 83 = .ok (.aload_n 0, 1) := by decide +kernel
theorem dX7_wipe_84 : decode cX7_wipe 84 = .ok (.invokevirtual 196, 3) := by decide +kernel
theorem dX7_wipe_87 : decode cX7_wipe 87 = .ok (.ireturn, 1) := by decide +kernel
theorem dX7_isHead_0 : decode cX7_isHead 0 = .ok (.iload_n 2, 1) := by decide +kernel
theorem dX7_isHead_1 : decode cX7_isHead 1 = .ok (.iconst (-1), 1) := by decide +kernel
theorem dX7_isHead_2 : decode cX7_isHead 2 = .ok (.aload_n 0, 1) := by decide +kernel
theorem dX7_isHead_3 : decode cX7_isHead 3 = .ok (.getfield 7, 3) := by decide +kernel
theorem dX7_isHead_6 : decode cX7_isHead 6 = .ok (.iconst 0, 1) := by decide +kernel
theorem dX7_isHead_7 : decode cX7_isHead 7 = .ok (.iaload, 1) := by decide +kernel
theorem dX7_isHead_8 : decode cX7_isHead 8 = .ok (.iconst 1, 1) := by decide +kernel
theorem dX7_isHead_9 : decode cX7_isHead 9 = .ok (.isub, 1) := by decide +kernel
theorem dX7_isHead_10 : decode cX7_isHead 10 = .ok (.invokestatic 72, 3) := by decide +kernel
theorem dX7_isHead_13 : decode cX7_isHead 13 = .ok (.ifCond .eq 12, 3) := by decide +kernel
theorem dX7_isHead_16 : decode cX7_isHead 16 = .ok (.iload_n 2, 1) := by decide +kernel
theorem dX7_isHead_17 : decode cX7_isHead 17 = .ok (.iload_n 1, 1) := by decide +kernel
theorem dX7_isHead_18 : decode cX7_isHead 18 = .ok (.if_icmp .eq 7, 3) := by decide +kernel
theorem dX7_isHead_21 : decode cX7_isHead 21 = .ok (.iconst 1, 1) := by decide +kernel
theorem dX7_isHead_22 : decode cX7_isHead 22 = .ok (.goto 4, 3) := by decide +kernel
theorem dX7_isHead_25 : decode cX7_isHead 25 = .ok (.iconst 0, 1) := by decide +kernel
theorem dX7_isHead_26 : decode cX7_isHead 26 = .ok (.ireturn, 1) := by decide +kernel
theorem dX7_leftBy_0 : decode cX7_leftBy 0 = .ok (.iconst 0, 1) := by decide +kernel
theorem dX7_leftBy_1 : decode cX7_leftBy 1 = .ok (.istore_n 3, 1) := by decide +kernel
theorem dX7_leftBy_2 : decode cX7_leftBy 2 = .ok (.iconst 0, 1) := by decide +kernel
theorem dX7_leftBy_3 : decode cX7_leftBy 3 = .ok (.istore 4, 2) := by decide +kernel
theorem dX7_leftBy_5 : decode cX7_leftBy 5 = .ok (.iload 4, 2) := by decide +kernel
theorem dX7_leftBy_7 : decode cX7_leftBy 7 = .ok (.aload_n 0, 1) := by decide +kernel
theorem dX7_leftBy_8 : decode cX7_leftBy 8 = .ok (.getfield 123, 3) := by decide +kernel
theorem dX7_leftBy_11 : decode cX7_leftBy 11 = .ok (.if_icmp .ge 38, 3) := by decide +kernel
theorem dX7_leftBy_14 : decode cX7_leftBy 14 = .ok (.iload_n 3, 1) := by decide +kernel
theorem dX7_leftBy_15 : decode cX7_leftBy 15 = .ok (.aload_n 0, 1) := by decide +kernel
theorem dX7_leftBy_16 : decode cX7_leftBy 16 = .ok (.iload 4, 2) := by decide +kernel
theorem dX7_leftBy_18 : decode cX7_leftBy 18 = .ok (.iload_n 1, 1) := by decide +kernel
theorem dX7_leftBy_19 : decode cX7_leftBy 19 = .ok (.invokevirtual 145, 3) := by decide +kernel
theorem dX7_leftBy_22 : decode cX7_leftBy 22 = .ok (.ifCond .eq 18, 3) := by decide +kernel
theorem dX7_leftBy_25 : decode cX7_leftBy 25 = .ok (.aload_n 0, 1) := by decide +kernel
theorem dX7_leftBy_26 : decode cX7_leftBy 26 = .ok (.iload 4, 2) := by decide +kernel
theorem dX7_leftBy_28 : decode cX7_leftBy 28 = .ok (.iload_n 1, 1) := by decide +kernel
theorem dX7_leftBy_29 : decode cX7_leftBy 29 = .ok (.invokevirtual 148, 3) := by decide +kernel
theorem dX7_leftBy_32 : decode cX7_leftBy 32 = .ok (.iload_n 2, 1) := by decide +kernel
theorem dX7_leftBy_33 : decode cX7_leftBy 33 = .ok (.if_icmp .ne 7, 3) := by decide +kernel
theorem dX7_leftBy_36 : decode cX7_leftBy 36 = .ok (.iconst 1, 1) := by decide +kernel
theorem dX7_leftBy_37 : decode cX7_leftBy 37 = .ok (.goto 4, 3) := by decide +kernel
theorem dX7_leftBy_40 : decode cX7_leftBy 40 = .ok (.iconst 0, 1) := by decide +kernel
theorem dX7_leftBy_41 : decode cX7_leftBy 41 = .ok (.iadd, 1) := by decide +kernel
theorem dX7_leftBy_42 : decode cX7_leftBy 42 = .ok (.istore_n 3, 1) := by decide +kernel
theorem dX7_leftBy_43 : decode cX7_leftBy 43 = .ok (.iinc 4 1, 3) := by decide +kernel
theorem dX7_leftBy_46 : decode cX7_leftBy 46 = .ok (.goto (-41), 3) := by decide +kernel
theorem dX7_leftBy_49 : decode cX7_leftBy 49 = .ok (.iload_n 3, 1) := by decide +kernel
theorem dX7_leftBy_50 : decode cX7_leftBy 50 = .ok (.ireturn, 1) := by decide +kernel
theorem dX7_fix_0 : decode cX7_fix 0 = .ok (.aload_n 0, 1) := by decide +kernel
theorem dX7_fix_1 : decode cX7_fix 1 = .ok (.iconst 0, 1) := by decide +kernel
theorem dX7_fix_2 : decode cX7_fix 2 = .ok (.putfield 68, 3) := by decide +kernel
theorem dX7_fix_5 : decode cX7_fix 5 = .ok (.aload_n 0, 1) := by decide +kernel
theorem dX7_fix_6 : decode cX7_fix 6 = .ok (.iload_n 1, 1) := by decide +kernel
theorem dX7_fix_7 : decode cX7_fix 7 = .ok (.invokevirtual 199, 3) := by decide +kernel
theorem dX7_fix_10 : decode cX7_fix 10 = .ok (.ifCond .eq 12, 3) := by decide +kernel
theorem dX7_fix_13 : decode cX7_fix 13 = .ok (.aload_n 0, 1) := by decide +kernel
theorem dX7_fix_14 : decode cX7_fix 14 = .ok (.iload_n 1, 1) := by decide +kernel
theorem dX7_fix_15 : decode cX7_fix 15 = .ok (.iload_n 2, 1) := by decide +kernel
theorem dX7_fix_16 : decode cX7_fix 16 = .ok (.invokevirtual 202, 3) := by decide +kernel
theorem dX7_fix_19 : decode cX7_fix 19 = .ok (.ifCond .ne 9, 3) := by decide +kernel
theorem dX7_fix_22 : decode cX7_fix 22 = .ok (.aload_n 0, 1) := by decide +kernel
theorem dX7_fix_23 : decode cX7_fix 23 = .ok (.iconst 1, 1) := by decide +kernel
theorem dX7_fix_24 : decode cX7_fix 24 = .ok (.invokevirtual 190, 3) := by decide +kernel
theorem dX7_fix_27 : decode cX7_fix 27 = .ok (.ireturn, 1) := by decide +kernel
theorem dX7_fix_28 : decode cX7_fix 28 = .ok (.aload_n 0, 1) := by decide +kernel
theorem dX7_fix_29 : decode cX7_fix 29 = .ok (.invokevirtual 187, 3) := by decide +kernel
theorem dX7_fix_32 : decode cX7_fix 32 = .ok (.aload_n 0, 1) := by decide +kernel
theorem dX7_fix_33 : decode cX7_fix 33 = .ok (.iload_n 1, 1) := by decide +kernel
theorem dX7_fix_34 : decode cX7_fix 34 = .ok (.iload_n 2, 1) := by decide +kernel
theorem dX7_fix_35 : decode cX7_fix 35 = .ok (.invokevirtual 205, 3) := by decide +kernel
theorem dX7_fix_38 : decode cX7_fix 38 = .ok (.istore_n 3, 1) := by decide +kernel
theorem dX7_fix_39 : decode cX7_fix 39 = .ok (.iload_n 3, 1) := by decide +kernel
theorem dX7_fix_40 : decode cX7_fix 40 = .ok (.ifCond .ne 9, 3) := by decide +kernel
theorem dX7_fix_43 : decode cX7_fix 43 = .ok (.aload_n 0, 1) := by decide +kernel
theorem dX7_fix_44 : decode cX7_fix 44 = .ok (.iconst 2, 1) := by decide +kernel
theorem dX7_fix_45 : decode cX7_fix 45 = .ok (.invokevirtual 190, 3) := by decide +kernel
theorem dX7_fix_48 : decode cX7_fix 48 = .ok (.ireturn, 1) := by decide +kernel
theorem dX7_fix_49 : decode cX7_fix 49 = .ok (.aload_n 0, 1) := by decide +kernel
theorem dX7_fix_50 : decode cX7_fix 50 = .ok (.invokevirtual 193, 3) := by decide +kernel
theorem dX7_fix_53 : decode cX7_fix 53 = .ok (.aload_n 0, 1) := by decide +kernel
theorem dX7_fix_54 : decode cX7_fix 54 = .ok (.getfield 7, 3) := by decide +kernel
theorem dX7_fix_57 : decode cX7_fix 57 = .ok (.bipush 14, 2) := by decide +kernel
theorem dX7_fix_59 : decode cX7_fix 59 = .ok (.iload_n 1, 1) := by decide +kernel
theorem dX7_fix_60 : decode cX7_fix 60 = .ok (.iadd, 1) := by decide +kernel
theorem dX7_fix_61 : decode cX7_fix 61 = .ok (.iload_n 2, 1) := by decide +kernel
theorem dX7_fix_62 : decode cX7_fix 62 = .ok (.iconst 2, 1) := by decide +kernel
theorem dX7_fix_63 : decode cX7_fix 63 = .ok (.iadd, 1) := by decide +kernel
theorem dX7_fix_64 : decode cX7_fix 64 = .ok (.iastore, 1) := by decide +kernel
theorem dX7_fix_65 : decode cX7_fix 65 = .ok (.aload_n 0, 1) := by decide +kernel
theorem dX7_fix_66 : decode cX7_fix 66 = .ok (.getfield 7, 3) := by decide +kernel
theorem dX7_fix_69 : decode cX7_fix 69 = .ok (.iconst 1, 1) := by decide +kernel
theorem dX7_fix_70 : decode cX7_fix 70 = .ok (.iconst 0, 1) := by decide +kernel
theorem dX7_fix_71 : decode cX7_fix 71 = .ok (.iastore, 1) := by decide +kernel
theorem dX7_fix_72 : decode cX7_fix 72 = .ok (.iload_n 3, 1) := by decide +kernel
theorem dX7_fix_73 : decode cX7_fix 73 = .ok (.ireturn, 1) := by decide +kernel
theorem dX7_loosen_0 : decode cX7_loosen 0 = .ok (.aload_n 0, 1) := by decide +kernel
theorem dX7_loosen_1 : decode cX7_loosen 1 = .ok (.iconst 0, 1) := by decide +kernel
theorem dX7_loosen_2 : decode cX7_loosen 2 = .ok (.putfield 68, 3) := by decide +kernel
theorem dX7_loosen_5 : decode cX7_loosen 5 = .ok (.aload_n 0, 1) := by decide +kernel
theorem dX7_loosen_6 : decode cX7_loosen 6 = .ok (.iload_n 1, 1) := by decide +kernel
theorem dX7_loosen_7 : decode cX7_loosen 7 = .ok (.invokevirtual 199, 3) := by decide +kernel
theorem dX7_loosen_10 : decode cX7_loosen 10 = .ok (.ifCond .ne 9, 3) := by decide +kernel
theorem dX7_loosen_13 : decode cX7_loosen 13 = .ok (.aload_n 0, 1) := by decide +kernel
theorem dX7_loosen_14 : decode cX7_loosen 14 = .ok (.iconst 1, 1) := by decide +kernel
theorem dX7_loosen_15 : decode cX7_loosen 15 = .ok (.invokevirtual 190, 3) := by decide +kernel
theorem dX7_loosen_18 : decode cX7_loosen 18 = .ok (.ireturn, 1) := by decide +kernel
theorem dX7_loosen_19 : decode cX7_loosen 19 = .ok (.aload_n 0, 1) := by decide +kernel
theorem dX7_loosen_20 : decode cX7_loosen 20 = .ok (.invokevirtual 193, 3) := by decide +kernel
theorem dX7_loosen_23 : decode cX7_loosen 23 = .ok (.aload_n 0, 1) := by decide +kernel
theorem dX7_loosen_24 : decode cX7_loosen 24 = .ok (.getfield 7, 3) := by decide +kernel
theorem dX7_loosen_27 : decode cX7_loosen 27 = .ok (.bipush 14, 2) := by decide +kernel
theorem dX7_loosen_29 : decode cX7_loosen 29 = .ok (.iload_n 1, 1) := by decide +kernel
theorem dX7_loosen_30 : decode cX7_loosen 30 = .ok (.iadd, 1) := by decide +kernel
theorem dX7_loosen_31 : decode cX7_loosen 31 = .ok (.iconst 0, 1) := by decide +kernel
theorem dX7_loosen_32 : decode cX7_loosen 32 = .ok (.iastore, 1) := by decide +kernel
theorem dX7_loosen_33 : decode cX7_loosen 33 = .ok (.aload_n 0, 1) := by decide +kernel
theorem dX7_loosen_34 : decode cX7_loosen 34 = .ok (.getfield 7, 3) := by decide +kernel
theorem dX7_loosen_37 : decode cX7_loosen 37 = .ok (.iconst 1, 1) := by decide +kernel
theorem dX7_loosen_38 : decode cX7_loosen 38 = .ok (.iconst 0, 1) := by decide +kernel
theorem dX7_loosen_39 : decode cX7_loosen 39 = .ok (.iastore, 1) := by decide +kernel
theorem dX7_loosen_40 : decode cX7_loosen 40 = .ok (.aload_n 0, 1) := by decide +kernel
theorem dX7_loosen_41 : decode cX7_loosen 41 = .ok (.invokevirtual 187, 3) := by decide +kernel
theorem dX7_loosen_44 : decode cX7_loosen 44 = .ok (.aload_n 0, 1) := by decide +kernel
theorem dX7_loosen_45 : decode cX7_loosen 45 = .ok (.getfield 142, 3) := by decide +kernel
theorem dX7_loosen_48 : decode cX7_loosen 48 = .ok (.ireturn, 1) := by decide +kernel
theorem dX7_draw_0 : decode cX7_draw 0 = .ok (.aload_n 0, 1) := by decide +kernel
theorem dX7_draw_1 : decode cX7_draw 1 = .ok (.iconst 0, 1) := by decide +kernel
theorem dX7_draw_2 : decode cX7_draw 2 = .ok (.putfield 68, 3) := by decide +kernel
theorem dX7_draw_5 : decode cX7_draw 5 = .ok (.aload_n 0, 1) := by decide +kernel
theorem dX7_draw_6 : decode cX7_draw 6 = .ok (.invokevirtual 187, 3) := by decide +kernel
theorem dX7_draw_9 : decode cX7_draw 9 = .ok (.iload_n 1, 1) := by decide +kernel
theorem dX7_draw_10 : decode cX7_draw 10 = .ok (.iconst 0, 1) := by decide +kernel
theorem dX7_draw_11 : decode cX7_draw 11 = .ok (.aload_n 0, 1) := by decide +kernel
theorem dX7_draw_12 : decode cX7_draw 12 = .ok (.getfield 142, 3) := by decide +kernel
theorem dX7_draw_15 : decode cX7_draw 15 = .ok (.iconst 1, 1) := by decide +kernel
theorem dX7_draw_16 : decode cX7_draw 16 = .ok (.isub, 1) := by decide +kernel
theorem dX7_draw_17 : decode cX7_draw 17 = .ok (.invokestatic 72, 3) := by decide +kernel
theorem dX7_draw_20 : decode cX7_draw 20 = .ok (.ifCond .ne 9, 3) := by decide +kernel
theorem dX7_draw_23 : decode cX7_draw 23 = .ok (.aload_n 0, 1) := by decide +kernel
theorem dX7_draw_24 : decode cX7_draw 24 = .ok (.iconst 1, 1) := by decide +kernel
theorem dX7_draw_25 : decode cX7_draw 25 = .ok (.invokevirtual 190, 3) := by decide +kernel
theorem dX7_draw_28 : decode cX7_draw 28 = .ok (.ireturn, 1) := by decide +kernel
theorem dX7_draw_29 : decode cX7_draw 29 = .ok (.aload_n 0, 1) := by decide +kernel
theorem dX7_draw_30 : decode cX7_draw 30 = .ok (.invokevirtual 193, 3) := by decide +kernel
theorem dX7_draw_33 : decode cX7_draw 33 = .ok (.aload_n 0, 1) := by decide +kernel
theorem dX7_draw_34 : decode cX7_draw 34 = .ok (.getfield 7, 3) := by decide +kernel
theorem dX7_draw_37 : decode cX7_draw 37 = .ok (.iconst 1, 1) := by decide +kernel
theorem dX7_draw_38 : decode cX7_draw 38 = .ok (.iload_n 1, 1) := by decide +kernel
theorem dX7_draw_39 : decode cX7_draw 39 = .ok (.iastore, 1) := by decide +kernel
theorem dX7_draw_40 : decode cX7_draw 40 = .ok (.aload_n 0, 1) := by decide +kernel
theorem dX7_draw_41 : decode cX7_draw 41 = .ok (.aload_n 0, 1) := by decide +kernel
theorem dX7_draw_42 : decode cX7_draw 42 = .ok (.getfield 47, 3) := by decide +kernel
theorem dX7_draw_45 : decode cX7_draw 45 = .ok (.iload_n 1, 1) := by decide +kernel
theorem dX7_draw_46 : decode cX7_draw 46 = .ok (.iaload, 1) := by decide +kernel
theorem dX7_draw_47 : decode cX7_draw 47 = .ok (.invokevirtual 208, 3) := by decide +kernel
theorem dX7_draw_50 : decode cX7_draw 50 = .ok (.ireturn, 1) := by decide +kernel
theorem dX7_flatten_0 : decode cX7_flatten 0 = .ok (.aload_n 0, 1) := by decide +kernel
theorem dX7_flatten_1 : decode cX7_flatten 1 = .ok (.iconst 0, 1) := by decide +kernel
theorem dX7_flatten_2 : decode cX7_flatten 2 = .ok (.putfield 68, 3) := by decide +kernel
theorem dX7_flatten_5 : decode cX7_flatten 5 = .ok (.aload_n 0, 1) := by decide +kernel
theorem dX7_flatten_6 : decode cX7_flatten 6 = .ok (.invokevirtual 187, 3) := by decide +kernel
theorem dX7_flatten_9 : decode cX7_flatten 9 = .ok (.aload_n 0, 1) := by decide +kernel
theorem dX7_flatten_10 : decode cX7_flatten 10 = .ok (.getfield 142, 3) := by decide +kernel
theorem dX7_flatten_13 : decode cX7_flatten 13 = .ok (.ifCond .ne 9, 3) := by decide +kernel
theorem dX7_flatten_16 : decode cX7_flatten 16 = .ok (.aload_n 0, 1) := by decide +kernel
theorem dX7_flatten_17 : decode cX7_flatten 17 = .ok (.iconst 1, 1) := by decide +kernel
theorem dX7_flatten_18 : decode cX7_flatten 18 = .ok (.invokevirtual 190, 3) := by decide +kernel
theorem dX7_flatten_21 : decode cX7_flatten 21 = .ok (.ireturn, 1) := by decide +kernel
theorem dX7_flatten_22 : decode cX7_flatten 22 = .ok (.aload_n 0, 1) := by decide +kernel
theorem dX7_flatten_23 : decode cX7_flatten 23 = .ok (.invokevirtual 193, 3) := by decide +kernel
theorem dX7_flatten_26 : decode cX7_flatten 26 = .ok (.iconst 0, 1) := by decide +kernel
theorem dX7_flatten_27 : decode cX7_flatten 27 = .ok (.istore_n 1, 1) := by decide +kernel
theorem dX7_flatten_28 : decode cX7_flatten 28 = .ok (.iconst 1, 1) := by decide +kernel
theorem dX7_flatten_29 : decode cX7_flatten 29 = .ok (.istore_n 2, 1) := by decide +kernel
theorem dX7_flatten_30 : decode cX7_flatten 30 = .ok (.iload_n 2, 1) := by decide +kernel
theorem dX7_flatten_31 : decode cX7_flatten 31 = .ok (.aload_n 0, 1) := by decide +kernel
theorem dX7_flatten_32 : decode cX7_flatten 32 = .ok (.getfield 142, 3) := by decide +kernel
theorem dX7_flatten_35 : decode cX7_flatten 35 = .ok (.if_icmp .ge 38, 3) := by decide +kernel
theorem dX7_flatten_38 : decode cX7_flatten 38 = .ok (.aload_n 0, 1) := by decide +kernel
theorem dX7_flatten_39 : decode cX7_flatten 39 = .ok (.aload_n 0, 1) := by decide +kernel
theorem dX7_flatten_40 : decode cX7_flatten 40 = .ok (.getfield 47, 3) := by decide +kernel
theorem dX7_flatten_43 : decode cX7_flatten 43 = .ok (.iload_n 2, 1) := by decide +kernel
theorem dX7_flatten_44 : decode cX7_flatten 44 = .ok (.iaload, 1) := by decide +kernel
theorem dX7_flatten_45 : decode cX7_flatten 45 = .ok (.invokevirtual 208, 3) := by decide +kernel
theorem dX7_flatten_48 : decode cX7_flatten 48 = .ok (.aload_n 0, 1) := by decide +kernel
theorem dX7_flatten_49 : decode cX7_flatten 49 = .ok (.aload_n 0, 1) := by decide +kernel
theorem dX7_flatten_50 : decode cX7_flatten 50 = .ok (.getfield 47, 3) := by decide +kernel
theorem dX7_flatten_53 : decode cX7_flatten 53 = .ok (.iload_n 1, 1) := by decide +kernel
theorem dX7_flatten_54 : decode cX7_flatten 54 = .ok (.iaload, 1) := by decide +kernel
theorem dX7_flatten_55 : decode cX7_flatten 55 = .ok (.invokevirtual 208, 3) := by decide +kernel
theorem dX7_flatten_58 : decode cX7_flatten 58 = .ok (.if_icmp .ge 7, 3) := by decide +kernel
theorem dX7_flatten_61 : decode cX7_flatten 61 = .ok (.iload_n 2, 1) := by decide +kernel
theorem dX7_flatten_62 : decode cX7_flatten 62 = .ok (.goto 4, 3) := by decide +kernel
theorem dX7_flatten_65 : decode cX7_flatten 65 = .ok (.iload_n 1, 1) := by decide +kernel
theorem dX7_flatten_66 : decode cX7_flatten 66 = .ok (.istore_n 1, 1) := by decide +kernel
theorem dX7_flatten_67 : decode cX7_flatten 67 = .ok (.iinc 2 1, 3) := by decide +kernel
theorem dX7_flatten_70 : decode cX7_flatten 70 = .ok (.goto (-40), 3) := by decide +kernel
theorem dX7_flatten_73 : decode cX7_flatten 73 = .ok (.aload_n 0, 1) := by decide +kernel
theorem dX7_flatten_74 : decode cX7_flatten 74 = .ok (.getfield 7, 3) := by decide +kernel
theorem dX7_flatten_77 : decode cX7_flatten 77 = .ok (.iconst 1, 1) := by decide +kernel
theorem dX7_flatten_78 : decode cX7_flatten 78 = .ok (.iload_n 1, 1) := by decide +kernel
theorem dX7_flatten_79 : decode cX7_flatten 79 = .ok (.iastore, 1) := by decide +kernel
theorem dX7_flatten_80 : decode cX7_flatten 80 = .ok (.iload_n 1, 1) := by decide +kernel
theorem dX7_flatten_81 : decode cX7_flatten 81 = .ok (.ireturn, 1) := by decide +kernel
theorem dX7_append_0 : decode cX7_append 0 = .ok (.aload_n 0, 1) := by decide +kernel
theorem dX7_append_1 : decode cX7_append 1 = .ok (.iconst 0, 1) := by decide +kernel
theorem dX7_append_2 : decode cX7_append 2 = .ok (.putfield 68, 3) := by decide +kernel
theorem dX7_append_5 : decode cX7_append 5 = .ok (.iload_n 1, 1) := by decide +kernel
theorem dX7_append_6 : decode cX7_append 6 = .ok (.bipush 33, 2) := by decide +kernel
theorem dX7_append_8 : decode cX7_append 8 = .ok (.bipush 126, 2) := by decide +kernel
theorem dX7_append_10 : decode cX7_append 10 = .ok (.invokestatic 72, 3) := by decide +kernel
theorem dX7_append_13 : decode cX7_append 13 = .ok (.ifCond .ne 9, 3) := by decide +kernel
theorem dX7_append_16 : decode cX7_append 16 = .ok (.aload_n 0, 1) := by decide +kernel
theorem dX7_append_17 : decode cX7_append 17 = .ok (.iconst 1, 1) := by decide +kernel
theorem dX7_append_18 : decode cX7_append 18 = .ok (.invokevirtual 190, 3) := by decide +kernel
theorem dX7_append_21 : decode cX7_append 21 = .ok (.ireturn, 1) := by decide +kernel
theorem dX7_append_22 : decode cX7_append 22 = .ok (.aload_n 0, 1) := by decide +kernel
theorem dX7_append_23 : decode cX7_append 23 = .ok (.getfield 211, 3) := by decide +kernel
theorem dX7_append_26 : decode cX7_append 26 = .ok (.bipush 20, 2) := by decide +kernel
theorem dX7_append_28 : decode cX7_append 28 = .ok (.if_icmp .ne 9, 3) := by decide +kernel
theorem dX7_append_31 : decode cX7_append 31 = .ok (.aload_n 0, 1) := by decide +kernel
theorem dX7_append_32 : decode cX7_append 32 = .ok (.iconst 2, 1) := by decide +kernel
theorem dX7_append_33 : decode cX7_append 33 = .ok (.invokevirtual 190, 3) := by decide +kernel
theorem dX7_append_36 : decode cX7_append 36 = .ok (.ireturn, 1) := by decide +kernel
theorem dX7_append_37 : decode cX7_append 37 = .ok (.aload_n 0, 1) := by decide +kernel
theorem dX7_append_38 : decode cX7_append 38 = .ok (.getfield 23, 3) := by decide +kernel
theorem dX7_append_41 : decode cX7_append 41 = .ok (.aload_n 0, 1) := by decide +kernel
theorem dX7_append_42 : decode cX7_append 42 = .ok (.getfield 211, 3) := by decide +kernel
theorem dX7_append_45 : decode cX7_append 45 = .ok (.iload_n 1, 1) := by decide +kernel
theorem dX7_append_46 : decode cX7_append 46 = .ok (.iastore, 1) := by decide +kernel
theorem dX7_append_47 : decode cX7_append 47 = .ok (.aload_n 0, 1) := by decide +kernel
theorem dX7_append_48 : decode cX7_append 48 = .ok (.dup, 1) := by decide +kernel
theorem dX7_append_49 : decode cX7_append 49 = .ok (.getfield 211, 3) := by decide +kernel
theorem dX7_append_52 : decode cX7_append 52 = .ok (.iconst 1, 1) := by decide +kernel
theorem dX7_append_53 : decode cX7_append 53 = .ok (.iadd, 1) := by decide +kernel
theorem dX7_append_54 : decode cX7_append 54 = .ok (.putfield 211, 3) := by decide +kernel
theorem dX7_append_57 : decode cX7_append 57 = .ok (.aload_n 0, 1) := by decide +kernel
theorem dX7_append_58 : decode cX7_append 58 = .ok (.getfield 211, 3) := by decide +kernel
theorem dX7_append_61 : decode cX7_append 61 = .ok (.ireturn, 1) := by decide +kernel
theorem dX7_clearBuffer_0 : decode cX7_clearBuffer 0 = .ok (.aload_n 0, 1) := by decide +kernel
theorem dX7_clearBuffer_1 : decode cX7_clearBuffer 1 = .ok (.iconst 0, 1) := by decide +kernel
theorem dX7_clearBuffer_2 : decode cX7_clearBuffer 2 = .ok (.putfield 68, 3) := by decide +kernel
theorem dX7_clearBuffer_5 : decode cX7_clearBuffer 5 = .ok (.aload_n 0, 1) := by decide +kernel
theorem dX7_clearBuffer_6 : decode cX7_clearBuffer 6 = .ok (.getfield 211, 3) := by decide +kernel
theorem dX7_clearBuffer_9 : decode cX7_clearBuffer 9 = .ok (.istore_n 1, 1) := by decide +kernel
theorem dX7_clearBuffer_10 : decode cX7_clearBuffer 10 = .ok (.aload_n 0, 1) := by decide +kernel
theorem dX7_clearBuffer_11 : decode cX7_clearBuffer 11 = .ok (.iconst 0, 1) := by decide +kernel
theorem dX7_clearBuffer_12 : decode cX7_clearBuffer 12 = .ok (.putfield 211, 3) := by decide +kernel
theorem dX7_clearBuffer_15 : decode cX7_clearBuffer 15 = .ok (.iload_n 1, 1) := by decide +kernel
theorem dX7_clearBuffer_16 : decode cX7_clearBuffer 16 = .ok (.ireturn, 1) := by decide +kernel
theorem dX7_letterOf_0 : decode cX7_letterOf 0 = .ok (.iload_n 0, 1) := by decide +kernel
theorem dX7_letterOf_1 : decode cX7_letterOf 1 = .ok (.tableswitch 57 0 5 #[39, 42, 45, 48, 51, 54], 39) := by decide +kernel
theorem dX7_letterOf_40 : decode cX7_letterOf 40 = .ok (.bipush 110, 2) := by decide +kernel
theorem dX7_letterOf_42 : decode cX7_letterOf 42 = .ok (.ireturn, 1) := by decide +kernel
theorem dX7_letterOf_43 : decode cX7_letterOf 43 = .ok (.bipush 118, 2) := by decide +kernel
theorem dX7_letterOf_45 : decode cX7_letterOf 45 = .ok (.ireturn, 1) := by decide +kernel
theorem dX7_letterOf_46 : decode cX7_letterOf 46 = .ok (.bipush 97, 2) := by decide +kernel
theorem dX7_letterOf_48 : decode cX7_letterOf 48 = .ok (.ireturn, 1) := by decide +kernel
theorem dX7_letterOf_49 : decode cX7_letterOf 49 = .ok (.bipush 100, 2) := by decide +kernel
theorem dX7_letterOf_51 : decode cX7_letterOf 51 = .ok (.ireturn, 1) := by decide +kernel
theorem dX7_letterOf_52 : decode cX7_letterOf 52 = .ok (.bipush 112, 2) := by decide +kernel
theorem dX7_letterOf_54 : decode cX7_letterOf 54 = .ok (.ireturn, 1) := by decide +kernel
theorem dX7_letterOf_55 : decode cX7_letterOf 55 = .ok (.bipush 99, 2) := by decide +kernel
theorem dX7_letterOf_57 : decode cX7_letterOf 57 = .ok (.ireturn, 1) := by decide +kernel
theorem dX7_letterOf_58 : decode cX7_letterOf 58 = .ok (.bipush 116, 2) := by decide +kernel
theorem dX7_letterOf_60 : decode cX7_letterOf 60 = .ok (.ireturn, 1) := by decide +kernel
theorem dX7_kindOf_0 : decode cX7_kindOf 0 = .ok (.iconst (-1), 1) := by decide +kernel
theorem dX7_kindOf_1 : decode cX7_kindOf 1 = .ok (.istore_n 1, 1) := by decide +kernel
theorem dX7_kindOf_2 : decode cX7_kindOf 2 = .ok (.iconst 0, 1) := by decide +kernel
theorem dX7_kindOf_3 : decode cX7_kindOf 3 = .ok (.istore_n 2, 1) := by decide +kernel
theorem dX7_kindOf_4 : decode cX7_kindOf 4 = .ok (.iload_n 2, 1) := by decide +kernel
theorem dX7_kindOf_5 : decode cX7_kindOf 5 = .ok (.bipush 7, 2) := by decide +kernel
theorem dX7_kindOf_7 : decode cX7_kindOf 7 = .ok (.if_icmp .ge 23, 3) := by decide +kernel
theorem dX7_kindOf_10 : decode cX7_kindOf 10 = .ok (.iload_n 2, 1) := by decide +kernel
theorem dX7_kindOf_11 : decode cX7_kindOf 11 = .ok (.invokestatic 214, 3) := by decide +kernel
theorem dX7_kindOf_14 : decode cX7_kindOf 14 = .ok (.iload_n 0, 1) := by decide +kernel
theorem dX7_kindOf_15 : decode cX7_kindOf 15 = .ok (.if_icmp .ne 7, 3) := by decide +kernel
theorem dX7_kindOf_18 : decode cX7_kindOf 18 = .ok (.iload_n 2, 1) := by decide +kernel
theorem dX7_kindOf_19 : decode cX7_kindOf 19 = .ok (.goto 4, 3) := by decide +kernel
theorem dX7_kindOf_22 : decode cX7_kindOf 22 = .ok (.iload_n 1, 1) := by decide +kernel
theorem dX7_kindOf_23 : decode cX7_kindOf 23 = .ok (.istore_n 1, 1) := by decide +kernel
theorem dX7_kindOf_24 : decode cX7_kindOf 24 = .ok (.iinc 2 1, 3) := by decide +kernel
theorem dX7_kindOf_27 : decode cX7_kindOf 27 = .ok (.goto (-23), 3) := by decide +kernel
theorem dX7_kindOf_30 : decode cX7_kindOf 30 = .ok (.iload_n 1, 1) := by decide +kernel
theorem dX7_kindOf_31 : decode cX7_kindOf 31 = .ok (.ireturn, 1) := by decide +kernel
theorem dX7_errorAt_0 : decode cX7_errorAt 0 = .ok (.iconst 0, 1) := by decide +kernel
theorem dX7_errorAt_1 : decode cX7_errorAt 1 = .ok (.istore_n 1, 1) := by decide +kernel
theorem dX7_errorAt_2 : decode cX7_errorAt 2 = .ok (.iload_n 1, 1) := by decide +kernel
theorem dX7_errorAt_3 : decode cX7_errorAt 3 = .ok (.aload_n 0, 1) := by decide +kernel
theorem dX7_errorAt_4 : decode cX7_errorAt 4 = .ok (.getfield 211, 3) := by decide +kernel
theorem dX7_errorAt_7 : decode cX7_errorAt 7 = .ok (.if_icmp .ge 28, 3) := by decide +kernel
theorem dX7_errorAt_10 : decode cX7_errorAt 10 = .ok (.iload_n 1, 1) := by decide +kernel
theorem dX7_errorAt_11 : decode cX7_errorAt 11 = .ok (.bipush 12, 2) := by decide +kernel
theorem dX7_errorAt_13 : decode cX7_errorAt 13 = .ok (.if_icmp .ge 22, 3) := by decide +kernel
theorem dX7_errorAt_16 : decode cX7_errorAt 16 = .ok (.aload_n 0, 1) := by decide +kernel
theorem dX7_errorAt_17 : decode cX7_errorAt 17 = .ok (.getfield 23, 3) := by decide +kernel
theorem dX7_errorAt_20 : decode cX7_errorAt 20 = .ok (.iload_n 1, 1) := by decide +kernel
theorem dX7_errorAt_21 : decode cX7_errorAt 21 = .ok (.iaload, 1) := by decide +kernel
theorem dX7_errorAt_22 : decode cX7_errorAt 22 = .ok (.invokestatic 217, 3) := by decide +kernel
theorem dX7_errorAt_25 : decode cX7_errorAt 25 = .ok (.iconst (-1), 1) := by decide +kernel
theorem dX7_errorAt_26 : decode cX7_errorAt 26 = .ok (.if_icmp .eq 9, 3) := by decide +kernel
theorem dX7_errorAt_29 : decode cX7_errorAt 29 = .ok (.iinc 1 1, 3) := by decide +kernel
theorem dX7_errorAt_32 : decode cX7_errorAt 32 = .ok (.goto (-30), 3) := by decide +kernel
theorem dX7_errorAt_35 : decode cX7_errorAt 35 = .ok (.iload_n 1, 1) := by decide +kernel
theorem dX7_errorAt_36 : decode cX7_errorAt 36 = .ok (.ireturn, 1) := by decide +kernel
theorem dX7_firstError_0 : decode cX7_firstError 0 = .ok (.aload_n 0, 1) := by decide +kernel
theorem dX7_firstError_1 : decode cX7_firstError 1 = .ok (.iconst 0, 1) := by decide +kernel
theorem dX7_firstError_2 : decode cX7_firstError 2 = .ok (.putfield 68, 3) := by decide +kernel
theorem dX7_firstError_5 : decode cX7_firstError 5 = .ok (.aload_n 0, 1) := by decide +kernel
theorem dX7_firstError_6 : decode cX7_firstError 6 = .ok (.invokevirtual 220, 3) := by decide +kernel
theorem dX7_firstError_9 : decode cX7_firstError 9 = .ok (.ireturn, 1) := by decide +kernel
theorem dX7_load_0 : decode cX7_load 0 = .ok (.aload_n 0, 1) := by decide +kernel
theorem dX7_load_1 : decode cX7_load 1 = .ok (.iconst 0, 1) := by decide +kernel
theorem dX7_load_2 : decode cX7_load 2 = .ok (.putfield 68, 3) := by decide +kernel
theorem dX7_load_5 : decode cX7_load 5 = .ok (.aload_n 0, 1) := by decide +kernel
theorem dX7_load_6 : decode cX7_load 6 = .ok (.getfield 211, 3) := by decide +kernel
theorem dX7_load_9 : decode cX7_load 9 = .ok (.ifCond .eq 14, 3) := by decide +kernel
theorem dX7_load_12 : decode cX7_load 12 = .ok (.aload_n 0, 1) := by decide +kernel
theorem dX7_load_13 : decode cX7_load 13 = .ok (.invokevirtual 220, 3) := by decide +kernel
theorem dX7_load_16 : decode cX7_load 16 = .ok (.aload_n 0, 1) := by decide +kernel
theorem dX7_load_17 : decode cX7_load 17 = .ok (.getfield 211, 3) := by decide +kernel
theorem dX7_load_20 : decode cX7_load 20 = .ok (.if_icmp .ge 9, 3) := by decide +kernel
theorem dX7_load_23 : decode cX7_load 23 = .ok (.aload_n 0, 1) := by decide +kernel
theorem dX7_load_24 : decode cX7_load 24 = .ok (.iconst 1, 1) := by decide +kernel
theorem dX7_load_25 : decode cX7_load 25 = .ok (.invokevirtual 190, 3) := by decide +kernel
theorem dX7_load_28 : decode cX7_load 28 = .ok (.ireturn, 1) := by decide +kernel
theorem dX7_load_29 : decode cX7_load 29 = .ok (.aload_n 0, 1) := by decide +kernel
theorem dX7_load_30 : decode cX7_load 30 = .ok (.invokevirtual 193, 3) := by decide +kernel
theorem dX7_load_33 : decode cX7_load 33 = .ok (.aload_n 0, 1) := by decide +kernel
theorem dX7_load_34 : decode cX7_load 34 = .ok (.getfield 7, 3) := by decide +kernel
theorem dX7_load_37 : decode cX7_load 37 = .ok (.iconst 0, 1) := by decide +kernel
theorem dX7_load_38 : decode cX7_load 38 = .ok (.aload_n 0, 1) := by decide +kernel
theorem dX7_load_39 : decode cX7_load 39 = .ok (.getfield 211, 3) := by decide +kernel
theorem dX7_load_42 : decode cX7_load 42 = .ok (.iastore, 1) := by decide +kernel
theorem dX7_load_43 : decode cX7_load 43 = .ok (.iconst 0, 1) := by decide +kernel
theorem dX7_load_44 : decode cX7_load 44 = .ok (.istore_n 1, 1) := by decide +kernel
theorem dX7_load_45 : decode cX7_load 45 = .ok (.iload_n 1, 1) := by decide +kernel
theorem dX7_load_46 : decode cX7_load 46 = .ok (.bipush 12, 2) := by decide +kernel
theorem dX7_load_48 : decode cX7_load 48 = .ok (.if_icmp .ge 38, 3) := by decide +kernel
theorem dX7_load_51 : decode cX7_load 51 = .ok (.aload_n 0, 1) := by decide +kernel
theorem dX7_load_52 : decode cX7_load 52 = .ok (.getfield 7, 3) := by decide +kernel
theorem dX7_load_55 : decode cX7_load 55 = .ok (.iconst 2, 1) := by decide +kernel
theorem dX7_load_56 : decode cX7_load 56 = .ok (.iload_n 1, 1) := by decide +kernel
theorem dX7_load_57 : decode cX7_load 57 = .ok (.iadd, 1) := by decide +kernel
theorem dX7_load_58 : decode cX7_load 58 = .ok (.iload_n 1, 1) := by decide +kernel
theorem dX7_load_59 : decode cX7_load 59 = .ok (.aload_n 0, 1) := by decide +kernel
theorem dX7_load_60 : decode cX7_load 60 = .ok (.getfield 211, 3) := by decide +kernel
theorem dX7_load_63 : decode cX7_load 63 = .ok (.if_icmp .ge 15, 3) := by decide +kernel
theorem dX7_load_66 : decode cX7_load 66 = .ok (.aload_n 0, 1) := by decide +kernel
theorem dX7_load_67 : decode cX7_load 67 = .ok (.getfield 23, 3) := by decide +kernel
theorem dX7_load_70 : decode cX7_load 70 = .ok (.iload_n 1, 1) := by decide +kernel
theorem dX7_load_71 : decode cX7_load 71 = .ok (.iaload, 1) := by decide +kernel
theorem dX7_load_72 : decode cX7_load 72 = .ok (.invokestatic 217, 3) := by decide +kernel
theorem dX7_load_75 : decode cX7_load 75 = .ok (.goto 4, 3) := by decide +kernel
theorem dX7_load_78 : decode cX7_load 78 = .ok (.iconst 0, 1) := by decide +kernel
theorem dX7_load_79 : decode cX7_load 79 = .ok (.iastore, 1) := by decide +kernel
theorem dX7_load_80 : decode cX7_load 80 = .ok (.iinc 1 1, 3) := by decide +kernel
theorem dX7_load_83 : decode cX7_load 83 = .ok (.goto (-38), 3) := by decide +kernel
theorem dX7_load_86 : decode cX7_load 86 = .ok (.aload_n 0, 1) := by decide +kernel
theorem dX7_load_87 : decode cX7_load 87 = .ok (.iconst 0, 1) := by decide +kernel
theorem dX7_load_88 : decode cX7_load 88 = .ok (.putfield 211, 3) := by decide +kernel
theorem dX7_load_91 : decode cX7_load 91 = .ok (.aload_n 0, 1) := by decide +kernel
theorem dX7_load_92 : decode cX7_load 92 = .ok (.invokevirtual 196, 3) := by decide +kernel
theorem dX7_load_95 : decode cX7_load 95 = .ok (.ireturn, 1) := by decide +kernel
theorem dX7_write_0 : decode cX7_write 0 = .ok (.aload_n 0, 1) := by decide +kernel
theorem dX7_write_1 : decode cX7_write 1 = .ok (.iconst 0, 1) := by decide +kernel
theorem dX7_write_2 : decode cX7_write 2 = .ok (.putfield 68, 3) := by decide +kernel
theorem dX7_write_5 : decode cX7_write 5 = .ok (.aload_n 0, 1) := by decide +kernel
theorem dX7_write_6 : decode cX7_write 6 = .ok (.invokevirtual 187, 3) := by decide +kernel
theorem dX7_write_9 : decode cX7_write 9 = .ok (.aload_n 0, 1) := by decide +kernel
theorem dX7_write_10 : decode cX7_write 10 = .ok (.getfield 142, 3) := by decide +kernel
theorem dX7_write_13 : decode cX7_write 13 = .ok (.ifCond .ne 9, 3) := by decide +kernel
theorem dX7_write_16 : decode cX7_write 16 = .ok (.aload_n 0, 1) := by decide +kernel
theorem dX7_write_17 : decode cX7_write 17 = .ok (.iconst 1, 1) := by decide +kernel
theorem dX7_write_18 : decode cX7_write 18 = .ok (.invokevirtual 190, 3) := by decide +kernel
theorem dX7_write_21 : decode cX7_write 21 = .ok (.ireturn, 1) := by decide +kernel
theorem dX7_write_22 : decode cX7_write 22 = .ok (.aload_n 0, 1) := by decide +kernel
theorem dX7_write_23 : decode cX7_write 23 = .ok (.aload_n 0, 1) := by decide +kernel
theorem dX7_write_24 : decode cX7_write 24 = .ok (.getfield 7, 3) := by decide +kernel
theorem dX7_write_27 : decode cX7_write 27 = .ok (.iconst 0, 1) := by decide +kernel
theorem dX7_write_28 : decode cX7_write 28 = .ok (.iaload, 1) := by decide +kernel
theorem dX7_write_29 : decode cX7_write 29 = .ok (.putfield 211, 3) := by decide +kernel
theorem dX7_write_32 : decode cX7_write 32 = .ok (.iconst 0, 1) := by decide +kernel
theorem dX7_write_33 : decode cX7_write 33 = .ok (.istore_n 1, 1) := by decide +kernel
theorem dX7_write_34 : decode cX7_write 34 = .ok (.iload_n 1, 1) := by decide +kernel
theorem dX7_write_35 : decode cX7_write 35 = .ok (.aload_n 0, 1) := by decide +kernel
theorem dX7_write_36 : decode cX7_write 36 = .ok (.getfield 211, 3) := by decide +kernel
theorem dX7_write_39 : decode cX7_write 39 = .ok (.if_icmp .ge 23, 3) := by decide +kernel
theorem dX7_write_42 : decode cX7_write 42 = .ok (.aload_n 0, 1) := by decide +kernel
theorem dX7_write_43 : decode cX7_write 43 = .ok (.getfield 23, 3) := by decide +kernel
theorem dX7_write_46 : decode cX7_write 46 = .ok (.iload_n 1, 1) := by decide +kernel
theorem dX7_write_47 : decode cX7_write 47 = .ok (.aload_n 0, 1) := by decide +kernel
theorem dX7_write_48 : decode cX7_write 48 = .ok (.iload_n 1, 1) := by decide +kernel
theorem dX7_write_49 : decode cX7_write 49 = .ok (.invokevirtual 86, 3) := by decide +kernel
theorem dX7_write_52 : decode cX7_write 52 = .ok (.invokestatic 214, 3) := by decide +kernel
theorem dX7_write_55 : decode cX7_write 55 = .ok (.iastore, 1) := by decide +kernel
theorem dX7_write_56 : decode cX7_write 56 = .ok (.iinc 1 1, 3) := by decide +kernel
theorem dX7_write_59 : decode cX7_write 59 = .ok (.goto (-25), 3) := by decide +kernel
theorem dX7_write_62 : decode cX7_write 62 = .ok (.aload_n 0, 1) := by decide +kernel
theorem dX7_write_63 : decode cX7_write 63 = .ok (.getfield 211, 3) := by decide +kernel
theorem dX7_write_66 : decode cX7_write 66 = .ok (.ireturn, 1) := by decide +kernel
theorem dX7_keep_0 : decode cX7_keep 0 = .ok (.aload_n 0, 1) := by decide +kernel
theorem dX7_keep_1 : decode cX7_keep 1 = .ok (.iconst 0, 1) := by decide +kernel
theorem dX7_keep_2 : decode cX7_keep 2 = .ok (.putfield 68, 3) := by decide +kernel
theorem dX7_keep_5 : decode cX7_keep 5 = .ok (.iload_n 1, 1) := by decide +kernel
theorem dX7_keep_6 : decode cX7_keep 6 = .ok (.iconst 0, 1) := by decide +kernel
theorem dX7_keep_7 : decode cX7_keep 7 = .ok (.iconst 1, 1) := by decide +kernel
theorem dX7_keep_8 : decode cX7_keep 8 = .ok (.invokestatic 72, 3) := by decide +kernel
theorem dX7_keep_11 : decode cX7_keep 11 = .ok (.ifCond .ne 9, 3) := by decide +kernel
theorem dX7_keep_14 : decode cX7_keep 14 = .ok (.aload_n 0, 1) := by decide +kernel
theorem dX7_keep_15 : decode cX7_keep 15 = .ok (.iconst 1, 1) := by decide +kernel
theorem dX7_keep_16 : decode cX7_keep 16 = .ok (.invokevirtual 190, 3) := by decide +kernel
theorem dX7_keep_19 : decode cX7_keep 19 = .ok (.ireturn, 1) := by decide +kernel
theorem dX7_keep_20 : decode cX7_keep 20 = .ok (.iconst 0, 1) := by decide +kernel
theorem dX7_keep_21 : decode cX7_keep 21 = .ok (.istore_n 2, 1) := by decide +kernel
theorem dX7_keep_22 : decode cX7_keep 22 = .ok (.iload_n 2, 1) := by decide +kernel
theorem dX7_keep_23 : decode cX7_keep 23 = .ok (.bipush 26, 2) := by decide +kernel
theorem dX7_keep_25 : decode cX7_keep 25 = .ok (.if_icmp .ge 26, 3) := by decide +kernel
theorem dX7_keep_28 : decode cX7_keep 28 = .ok (.aload_n 0, 1) := by decide +kernel
theorem dX7_keep_29 : decode cX7_keep 29 = .ok (.getfield 16, 3) := by decide +kernel
theorem dX7_keep_32 : decode cX7_keep 32 = .ok (.bipush 26, 2) := by decide +kernel
theorem dX7_keep_34 : decode cX7_keep 34 = .ok (.iload_n 1, 1) := by decide +kernel
theorem dX7_keep_35 : decode cX7_keep 35 = .ok (.imul, 1) := by decide +kernel
theorem dX7_keep_36 : decode cX7_keep 36 = .ok (.iload_n 2, 1) := by decide +kernel
theorem dX7_keep_37 : decode cX7_keep 37 = .ok (.iadd, 1) := by decide +kernel
theorem dX7_keep_38 : decode cX7_keep 38 = .ok (.aload_n 0, 1) := by decide +kernel
theorem dX7_keep_39 : decode cX7_keep 39 = .ok (.getfield 7, 3) := by decide +kernel
theorem dX7_keep_42 : decode cX7_keep 42 = .ok (.iload_n 2, 1) := by decide +kernel
theorem dX7_keep_43 : decode cX7_keep 43 = .ok (.iaload, 1) := by decide +kernel
theorem dX7_keep_44 : decode cX7_keep 44 = .ok (.iastore, 1) := by decide +kernel
theorem dX7_keep_45 : decode cX7_keep 45 = .ok (.iinc 2 1, 3) := by decide +kernel
theorem dX7_keep_48 : decode cX7_keep 48 = .ok (.goto (-26), 3) := by decide +kernel
theorem dX7_keep_51 : decode cX7_keep 51 = .ok (.aload_n 0, 1) := by decide +kernel
theorem dX7_keep_52 : decode cX7_keep 52 = .ok (.getfield 19, 3) := by decide +kernel
theorem dX7_keep_55 : decode cX7_keep 55 = .ok (.iload_n 1, 1) := by decide +kernel
theorem dX7_keep_56 : decode cX7_keep 56 = .ok (.iconst 1, 1) := by decide +kernel
theorem dX7_keep_57 : decode cX7_keep 57 = .ok (.bastore, 1) := by decide +kernel
theorem dX7_keep_58 : decode cX7_keep 58 = .ok (.aload_n 0, 1) := by decide +kernel
theorem dX7_keep_59 : decode cX7_keep 59 = .ok (.getfield 7, 3) := by decide +kernel
theorem dX7_keep_62 : decode cX7_keep 62 = .ok (.iconst 0, 1) := by decide +kernel
theorem dX7_keep_63 : decode cX7_keep 63 = .ok (.iaload, 1) := by decide +kernel
theorem dX7_keep_64 : decode cX7_keep 64 = .ok (.ireturn, 1) := by decide +kernel
theorem dX7_goBack_0 : decode cX7_goBack 0 = .ok (.aload_n 0, 1) := by decide +kernel
theorem dX7_goBack_1 : decode cX7_goBack 1 = .ok (.iconst 0, 1) := by decide +kernel
theorem dX7_goBack_2 : decode cX7_goBack 2 = .ok (.putfield 68, 3) := by decide +kernel
theorem dX7_goBack_5 : decode cX7_goBack 5 = .ok (.iload_n 1, 1) := by decide +kernel
theorem dX7_goBack_6 : decode cX7_goBack 6 = .ok (.iconst 0, 1) := by decide +kernel
theorem dX7_goBack_7 : decode cX7_goBack 7 = .ok (.iconst 1, 1) := by decide +kernel
theorem dX7_goBack_8 : decode cX7_goBack 8 = .ok (.invokestatic 72, 3) := by decide +kernel
theorem dX7_goBack_11 : decode cX7_goBack 11 = .ok (.ifCond .ne 9, 3) := by decide +kernel
theorem dX7_goBack_14 : decode cX7_goBack 14 = .ok (.aload_n 0, 1) := by decide +kernel
theorem dX7_goBack_15 : decode cX7_goBack 15 = .ok (.iconst 1, 1) := by decide +kernel
theorem dX7_goBack_16 : decode cX7_goBack 16 = .ok (.invokevirtual 190, 3) := by decide +kernel
theorem dX7_goBack_19 : decode cX7_goBack 19 = .ok (.ireturn, 1) := by decide +kernel
theorem dX7_goBack_20 : decode cX7_goBack 20 = .ok (.aload_n 0, 1) := by decide +kernel
theorem dX7_goBack_21 : decode cX7_goBack 21 = .ok (.getfield 19, 3) := by decide +kernel
theorem dX7_goBack_24 : decode cX7_goBack 24 = .ok (.iload_n 1, 1) := by decide +kernel
theorem dX7_goBack_25 : decode cX7_goBack 25 = .ok (.baload, 1) := by decide +kernel
theorem dX7_goBack_26 : decode cX7_goBack 26 = .ok (.ifCond .ne 9, 3) := by decide +kernel
theorem dX7_goBack_29 : decode cX7_goBack 29 = .ok (.aload_n 0, 1) := by decide +kernel
theorem dX7_goBack_30 : decode cX7_goBack 30 = .ok (.iconst 2, 1) := by decide +kernel
theorem dX7_goBack_31 : decode cX7_goBack 31 = .ok (.invokevirtual 190, 3) := by decide +kernel
theorem dX7_goBack_34 : decode cX7_goBack 34 = .ok (.ireturn, 1) := by decide +kernel
theorem dX7_goBack_35 : decode cX7_goBack 35 = .ok (.aload_n 0, 1) := by decide +kernel
theorem dX7_goBack_36 : decode cX7_goBack 36 = .ok (.invokevirtual 193, 3) := by decide +kernel
theorem dX7_goBack_39 : decode cX7_goBack 39 = .ok (.iconst 0, 1) := by decide +kernel
theorem dX7_goBack_40 : decode cX7_goBack 40 = .ok (.istore_n 2, 1) := by decide +kernel
theorem dX7_goBack_41 : decode cX7_goBack 41 = .ok (.iload_n 2, 1) := by decide +kernel
theorem dX7_goBack_42 : decode cX7_goBack 42 = .ok (.bipush 26, 2) := by decide +kernel
theorem dX7_goBack_44 : decode cX7_goBack 44 = .ok (.if_icmp .ge 26, 3) := by decide +kernel
theorem dX7_goBack_47 : decode cX7_goBack 47 = .ok (.aload_n 0, 1) := by decide +kernel
theorem dX7_goBack_48 : decode cX7_goBack 48 = .ok (.getfield 7, 3) := by decide +kernel
theorem dX7_goBack_51 : decode cX7_goBack 51 = .ok (.iload_n 2, 1) := by decide +kernel
theorem dX7_goBack_52 : decode cX7_goBack 52 = .ok (.aload_n 0, 1) := by decide +kernel
theorem dX7_goBack_53 : decode cX7_goBack 53 = .ok (.getfield 16, 3) := by decide +kernel
theorem dX7_goBack_56 : decode cX7_goBack 56 = .ok (.bipush 26, 2) := by decide +kernel
theorem dX7_goBack_58 : decode cX7_goBack 58 = .ok (.iload_n 1, 1) := by decide +kernel
theorem dX7_goBack_59 : decode cX7_goBack 59 = .ok (.imul, 1) := by decide +kernel
theorem dX7_goBack_60 : decode cX7_goBack 60 = .ok (.iload_n 2, 1) := by decide +kernel
theorem dX7_goBack_61 : decode cX7_goBack 61 = .ok (.iadd, 1) := by decide +kernel
theorem dX7_goBack_62 : decode cX7_goBack 62 = .ok (.iaload, 1) := by decide +kernel
theorem dX7_goBack_63 : decode cX7_goBack 63 = .ok (.iastore, 1) := by decide +kernel
theorem dX7_goBack_64 : decode cX7_goBack 64 = .ok (.iinc 2 1, 3) := by decide +kernel
theorem dX7_goBack_67 : decode cX7_goBack 67 = .ok (.goto (-26), 3) := by decide +kernel
theorem dX7_goBack_70 : decode cX7_goBack 70 = .ok (.aload_n 0, 1) := by decide +kernel
theorem dX7_goBack_71 : decode cX7_goBack 71 = .ok (.getfield 7, 3) := by decide +kernel
theorem dX7_goBack_74 : decode cX7_goBack 74 = .ok (.iconst 0, 1) := by decide +kernel
theorem dX7_goBack_75 : decode cX7_goBack 75 = .ok (.iaload, 1) := by decide +kernel
theorem dX7_goBack_76 : decode cX7_goBack 76 = .ok (.ireturn, 1) := by decide +kernel
theorem dX7_undo_0 : decode cX7_undo 0 = .ok (.aload_n 0, 1) := by decide +kernel
theorem dX7_undo_1 : decode cX7_undo 1 = .ok (.iconst 0, 1) := by decide +kernel
theorem dX7_undo_2 : decode cX7_undo 2 = .ok (.putfield 68, 3) := by decide +kernel
theorem dX7_undo_5 : decode cX7_undo 5 = .ok (.aload_n 0, 1) := by decide +kernel
theorem dX7_undo_6 : decode cX7_undo 6 = .ok (.getfield 76, 3) := by decide +kernel
theorem dX7_undo_9 : decode cX7_undo 9 = .ok (.ifCond .ne 9, 3) := by decide +kernel
theorem dX7_undo_12 : decode cX7_undo 12 = .ok (.aload_n 0, 1) := by decide +kernel
theorem dX7_undo_13 : decode cX7_undo 13 = .ok (.iconst 1, 1) := by decide +kernel
theorem dX7_undo_14 : decode cX7_undo 14 = .ok (.invokevirtual 190, 3) := by decide +kernel
theorem dX7_undo_17 : decode cX7_undo 17 = .ok (.ireturn, 1) := by decide +kernel
theorem dX7_undo_18 : decode cX7_undo 18 = .ok (.aload_n 0, 1) := by decide +kernel
theorem dX7_undo_19 : decode cX7_undo 19 = .ok (.dup, 1) := by decide +kernel
theorem dX7_undo_20 : decode cX7_undo 20 = .ok (.getfield 76, 3) := by decide +kernel
theorem dX7_undo_23 : decode cX7_undo 23 = .ok (.iconst 1, 1) := by decide +kernel
theorem dX7_undo_24 : decode cX7_undo 24 = .ok (.isub, 1) := by decide +kernel
theorem dX7_undo_25 : decode cX7_undo 25 = .ok (.putfield 76, 3) := by decide +kernel
theorem dX7_undo_28 : decode cX7_undo 28 = .ok (.iconst 0, 1) := by decide +kernel
theorem dX7_undo_29 : decode cX7_undo 29 = .ok (.istore_n 1, 1) := by decide +kernel
theorem dX7_undo_30 : decode cX7_undo 30 = .ok (.iload_n 1, 1) := by decide +kernel
theorem dX7_undo_31 : decode cX7_undo 31 = .ok (.bipush 26, 2) := by decide +kernel
theorem dX7_undo_33 : decode cX7_undo 33 = .ok (.if_icmp .ge 29, 3) := by decide +kernel
theorem dX7_undo_36 : decode cX7_undo 36 = .ok (.aload_n 0, 1) := by decide +kernel
theorem dX7_undo_37 : decode cX7_undo 37 = .ok (.getfield 7, 3) := by decide +kernel
theorem dX7_undo_40 : decode cX7_undo 40 = .ok (.iload_n 1, 1) := by decide +kernel
theorem dX7_undo_41 : decode cX7_undo 41 = .ok (.aload_n 0, 1) := by decide +kernel
theorem dX7_undo_42 : decode cX7_undo 42 = .ok (.getfield 13, 3) := by decide +kernel
theorem dX7_undo_45 : decode cX7_undo 45 = .ok (.bipush 26, 2) := by decide +kernel
theorem dX7_undo_47 : decode cX7_undo 47 = .ok (.aload_n 0, 1) := by decide +kernel
theorem dX7_undo_48 : decode cX7_undo 48 = .ok (.getfield 76, 3) := by decide +kernel
theorem dX7_undo_51 : decode cX7_undo 51 = .ok (.imul, 1) := by decide +kernel
theorem dX7_undo_52 : decode cX7_undo 52 = .ok (.iload_n 1, 1) := by decide +kernel
theorem dX7_undo_53 : decode cX7_undo 53 = .ok (.iadd, 1) := by decide +kernel
theorem dX7_undo_54 : decode cX7_undo 54 = .ok (.iaload, 1) := by decide +kernel
theorem dX7_undo_55 : decode cX7_undo 55 = .ok (.iastore, 1) := by decide +kernel
theorem dX7_undo_56 : decode cX7_undo 56 = .ok (.iinc 1 1, 3) := by decide +kernel
theorem dX7_undo_59 : decode cX7_undo 59 = .ok (.goto (-29), 3) := by decide +kernel
theorem dX7_undo_62 : decode cX7_undo 62 = .ok (.aload_n 0, 1) := by decide +kernel
theorem dX7_undo_63 : decode cX7_undo 63 = .ok (.getfield 76, 3) := by decide +kernel
theorem dX7_undo_66 : decode cX7_undo 66 = .ok (.ireturn, 1) := by decide +kernel
theorem dX7_haveHead_0 : decode cX7_haveHead 0 = .ok (.iconst 0, 1) := by decide +kernel
theorem dX7_haveHead_1 : decode cX7_haveHead 1 = .ok (.istore_n 3, 1) := by decide +kernel
theorem dX7_haveHead_2 : decode cX7_haveHead 2 = .ok (.iconst 0, 1) := by decide +kernel
theorem dX7_haveHead_3 : decode cX7_haveHead 3 = .ok (.istore 4, 2) := by decide +kernel
theorem dX7_haveHead_5 : decode cX7_haveHead 5 = .ok (.iload 4, 2) := by decide +kernel
theorem dX7_haveHead_7 : decode cX7_haveHead 7 = .ok (.aload_n 0, 1) := by decide +kernel
theorem dX7_haveHead_8 : decode cX7_haveHead 8 = .ok (.getfield 142, 3) := by decide +kernel
theorem dX7_haveHead_11 : decode cX7_haveHead 11 = .ok (.if_icmp .ge 33, 3) := by decide +kernel
theorem dX7_haveHead_14 : decode cX7_haveHead 14 = .ok (.iload_n 3, 1) := by decide +kernel
theorem dX7_haveHead_15 : decode cX7_haveHead 15 = .ok (.aload_n 0, 1) := by decide +kernel
theorem dX7_haveHead_16 : decode cX7_haveHead 16 = .ok (.aload_n 0, 1) := by decide +kernel
theorem dX7_haveHead_17 : decode cX7_haveHead 17 = .ok (.getfield 47, 3) := by decide +kernel
theorem dX7_haveHead_20 : decode cX7_haveHead 20 = .ok (.iload 4, 2) := by decide +kernel
theorem dX7_haveHead_22 : decode cX7_haveHead 22 = .ok (.iaload, 1) := by decide +kernel
theorem dX7_haveHead_23 : decode cX7_haveHead 23 = .ok (.iload_n 1, 1) := by decide +kernel
theorem dX7_haveHead_24 : decode cX7_haveHead 24 = .ok (.invokevirtual 148, 3) := by decide +kernel
theorem dX7_haveHead_27 : decode cX7_haveHead 27 = .ok (.iload_n 2, 1) := by decide +kernel
theorem dX7_haveHead_28 : decode cX7_haveHead 28 = .ok (.if_icmp .ne 7, 3) := by decide +kernel
theorem dX7_haveHead_31 : decode cX7_haveHead 31 = .ok (.iconst 1, 1) := by decide +kernel
theorem dX7_haveHead_32 : decode cX7_haveHead 32 = .ok (.goto 4, 3) := by decide +kernel
theorem dX7_haveHead_35 : decode cX7_haveHead 35 = .ok (.iconst 0, 1) := by decide +kernel
theorem dX7_haveHead_36 : decode cX7_haveHead 36 = .ok (.iadd, 1) := by decide +kernel
theorem dX7_haveHead_37 : decode cX7_haveHead 37 = .ok (.istore_n 3, 1) := by decide +kernel
theorem dX7_haveHead_38 : decode cX7_haveHead 38 = .ok (.iinc 4 1, 3) := by decide +kernel
theorem dX7_haveHead_41 : decode cX7_haveHead 41 = .ok (.goto (-36), 3) := by decide +kernel
theorem dX7_haveHead_44 : decode cX7_haveHead 44 = .ok (.iload_n 3, 1) := by decide +kernel
theorem dX7_haveHead_45 : decode cX7_haveHead 45 = .ok (.ireturn, 1) := by decide +kernel
theorem dX7_headsOf_0 : decode cX7_headsOf 0 = .ok (.iconst 0, 1) := by decide +kernel
theorem dX7_headsOf_1 : decode cX7_headsOf 1 = .ok (.istore_n 3, 1) := by decide +kernel
theorem dX7_headsOf_2 : decode cX7_headsOf 2 = .ok (.iconst 0, 1) := by decide +kernel
theorem dX7_headsOf_3 : decode cX7_headsOf 3 = .ok (.istore 4, 2) := by decide +kernel
theorem dX7_headsOf_5 : decode cX7_headsOf 5 = .ok (.iconst (-1), 1) := by decide +kernel
theorem dX7_headsOf_6 : decode cX7_headsOf 6 = .ok (.istore 5, 2) := by decide +kernel
theorem dX7_headsOf_8 : decode cX7_headsOf 8 = .ok (.iload 5, 2) := by decide +kernel
theorem dX7_headsOf_10 : decode cX7_headsOf 10 = .ok (.aload_n 0, 1) := by decide +kernel
theorem dX7_headsOf_11 : decode cX7_headsOf 11 = .ok (.getfield 7, 3) := by decide +kernel
theorem dX7_headsOf_14 : decode cX7_headsOf 14 = .ok (.iconst 0, 1) := by decide +kernel
theorem dX7_headsOf_15 : decode cX7_headsOf 15 = .ok (.iaload, 1) := by decide +kernel
theorem dX7_headsOf_16 : decode cX7_headsOf 16 = .ok (.if_icmp .ge 47, 3) := by decide +kernel
theorem dX7_headsOf_19 : decode cX7_headsOf 19 = .ok (.aload_n 0, 1) := by decide +kernel
theorem dX7_headsOf_20 : decode cX7_headsOf 20 = .ok (.iload_n 1, 1) := by decide +kernel
theorem dX7_headsOf_21 : decode cX7_headsOf 21 = .ok (.iload 5, 2) := by decide +kernel
theorem dX7_headsOf_23 : decode cX7_headsOf 23 = .ok (.invokevirtual 223, 3) := by decide +kernel
theorem dX7_headsOf_26 : decode cX7_headsOf 26 = .ok (.istore 6, 2) := by decide +kernel
theorem dX7_headsOf_28 : decode cX7_headsOf 28 = .ok (.iload_n 3, 1) := by decide +kernel
theorem dX7_headsOf_29 : decode cX7_headsOf 29 = .ok (.iload 6, 2) := by decide +kernel
theorem dX7_headsOf_31 : decode cX7_headsOf 31 = .ok (.ifCond .le 7, 3) := by decide +kernel
theorem dX7_headsOf_34 : decode cX7_headsOf 34 = .ok (.iconst 1, 1) := by decide +kernel
theorem dX7_headsOf_35 : decode cX7_headsOf 35 = .ok (.goto 4, 3) := by decide +kernel
theorem dX7_headsOf_38 : decode cX7_headsOf 38 = .ok (.iconst 0, 1) := by decide +kernel
theorem dX7_headsOf_39 : decode cX7_headsOf 39 = .ok (.iadd, 1) := by decide +kernel
theorem dX7_headsOf_40 : decode cX7_headsOf 40 = .ok (.istore_n 3, 1) := by decide +kernel
theorem dX7_headsOf_41 : decode cX7_headsOf 41 = .ok (.iload 6, 2) := by decide +kernel
theorem dX7_headsOf_43 : decode cX7_headsOf 43 = .ok (.iload 4, 2) := by decide +kernel
theorem dX7_headsOf_45 : decode cX7_headsOf 45 = .ok (.if_icmp .le 8, 3) := by decide +kernel
theorem dX7_headsOf_48 : decode cX7_headsOf 48 = .ok (.iload 6, 2) := by decide +kernel
theorem dX7_headsOf_50 : decode cX7_headsOf 50 = .ok (.goto 5, 3) := by decide +kernel
theorem dX7_headsOf_53 : decode cX7_headsOf 53 = .ok (.iload 4, 2) := by decide +kernel
theorem dX7_headsOf_55 : decode cX7_headsOf 55 = .ok (.istore 4, 2) := by decide +kernel
theorem dX7_headsOf_57 : decode cX7_headsOf 57 = .ok (.iinc 5 1, 3) := by decide +kernel
theorem dX7_headsOf_60 : decode cX7_headsOf 60 = .ok (.goto (-52), 3) := by decide +kernel
theorem dX7_headsOf_63 : decode cX7_headsOf 63 = .ok (.iload_n 2, 1) := by decide +kernel
theorem dX7_headsOf_64 : decode cX7_headsOf 64 = .ok (.ifCond .eq 8, 3) := by decide +kernel
theorem dX7_headsOf_67 : decode cX7_headsOf 67 = .ok (.iload 4, 2) := by decide +kernel
theorem dX7_headsOf_69 : decode cX7_headsOf 69 = .ok (.goto 4, 3) := by decide +kernel
theorem dX7_headsOf_72 : decode cX7_headsOf 72 = .ok (.iload_n 3, 1) := by decide +kernel
theorem dX7_headsOf_73 : decode cX7_headsOf 73 = .ok (.ireturn, 1) := by decide +kernel
theorem dX7_drawn_0 : decode cX7_drawn 0 = .ok (.aload_n 0, 1) := by decide +kernel
theorem dX7_drawn_1 : decode cX7_drawn 1 = .ok (.getfield 142, 3) := by decide +kernel
theorem dX7_drawn_4 : decode cX7_drawn 4 = .ok (.ifCond .ne 7, 3) := by decide +kernel
theorem dX7_drawn_7 : decode cX7_drawn 7 = .ok (.iconst (-1), 1) := by decide +kernel
theorem dX7_drawn_8 : decode cX7_drawn 8 = .ok (.goto 14, 3) := by decide +kernel
theorem dX7_drawn_11 : decode cX7_drawn 11 = .ok (.aload_n 0, 1) := by decide +kernel
theorem dX7_drawn_12 : decode cX7_drawn 12 = .ok (.getfield 47, 3) := by decide +kernel
theorem dX7_drawn_15 : decode cX7_drawn 15 = .ok (.aload_n 0, 1) := by decide +kernel
theorem dX7_drawn_16 : decode cX7_drawn 16 = .ok (.getfield 7, 3) := by decide +kernel
theorem dX7_drawn_19 : decode cX7_drawn 19 = .ok (.iconst 1, 1) := by decide +kernel
theorem dX7_drawn_20 : decode cX7_drawn 20 = .ok (.iaload, 1) := by decide +kernel
theorem dX7_drawn_21 : decode cX7_drawn 21 = .ok (.iaload, 1) := by decide +kernel
theorem dX7_drawn_22 : decode cX7_drawn 22 = .ok (.ireturn, 1) := by decide +kernel
theorem dX7_tellsWord_0 : decode cX7_tellsWord 0 = .ok (.aload_n 0, 1) := by decide +kernel
theorem dX7_tellsWord_1 : decode cX7_tellsWord 1 = .ok (.invokevirtual 226, 3) := by decide +kernel
theorem dX7_tellsWord_4 : decode cX7_tellsWord 4 = .ok (.istore_n 3, 1) := by decide +kernel
theorem dX7_tellsWord_5 : decode cX7_tellsWord 5 = .ok (.iload_n 2, 1) := by decide +kernel
theorem dX7_tellsWord_6 : decode cX7_tellsWord 6 = .ok (.lookupswitch 65 #[(0, 34), (6, 40), (7, 58)], 34) := by decide +kernel
theorem dX7_tellsWord_40 : decode cX7_tellsWord 40 = .ok (.aload_n 0, 1) := by decide +kernel
theorem dX7_tellsWord_41 : decode cX7_tellsWord 41 = .ok (.iload_n 1, 1) := by decide +kernel
theorem dX7_tellsWord_42 : decode cX7_tellsWord 42 = .ok (.invokevirtual 86, 3) := by decide +kernel
theorem dX7_tellsWord_45 : decode cX7_tellsWord 45 = .ok (.ireturn, 1) := by decide +kernel
theorem dX7_tellsWord_46 : decode cX7_tellsWord 46 = .ok (.aload_n 0, 1) := by decide +kernel
theorem dX7_tellsWord_47 : decode cX7_tellsWord 47 = .ok (.getfield 7, 3) := by decide +kernel
theorem dX7_tellsWord_50 : decode cX7_tellsWord 50 = .ok (.bipush 14, 2) := by decide +kernel
theorem dX7_tellsWord_52 : decode cX7_tellsWord 52 = .ok (.iload_n 1, 1) := by decide +kernel
theorem dX7_tellsWord_53 : decode cX7_tellsWord 53 = .ok (.iadd, 1) := by decide +kernel
theorem dX7_tellsWord_54 : decode cX7_tellsWord 54 = .ok (.iaload, 1) := by decide +kernel
theorem dX7_tellsWord_55 : decode cX7_tellsWord 55 = .ok (.ifCond .le 7, 3) := by decide +kernel
theorem dX7_tellsWord_58 : decode cX7_tellsWord 58 = .ok (.iconst 1, 1) := by decide +kernel
theorem dX7_tellsWord_59 : decode cX7_tellsWord 59 = .ok (.goto 4, 3) := by decide +kernel
theorem dX7_tellsWord_62 : decode cX7_tellsWord 62 = .ok (.iconst 0, 1) := by decide +kernel
theorem dX7_tellsWord_63 : decode cX7_tellsWord 63 = .ok (.ireturn, 1) := by decide +kernel
theorem dX7_tellsWord_64 : decode cX7_tellsWord 64 = .ok (.aload_n 0, 1) := by decide +kernel
theorem dX7_tellsWord_65 : decode cX7_tellsWord 65 = .ok (.iload_n 1, 1) := by decide +kernel
theorem dX7_tellsWord_66 : decode cX7_tellsWord 66 = .ok (.iconst 0, 1) := by decide +kernel
theorem dX7_tellsWord_67 : decode cX7_tellsWord 67 = .ok (.invokevirtual 229, 3) := by decide +kernel
theorem dX7_tellsWord_70 : decode cX7_tellsWord 70 = .ok (.ireturn, 1) := by decide +kernel
theorem dX7_tellsWord_71 : decode cX7_tellsWord 71 = .ok (.iload_n 3, 1) := by decide +kernel
theorem dX7_tellsWord_72 : decode cX7_tellsWord 72 = .ok (.iconst (-1), 1) := by decide +kernel
theorem dX7_tellsWord_73 : decode cX7_tellsWord 73 = .ok (.if_icmp .ne 7, 3) := by decide +kernel
theorem dX7_tellsWord_76 : decode cX7_tellsWord 76 = .ok (.iconst (-1), 1) := by decide +kernel
theorem dX7_tellsWord_77 : decode cX7_tellsWord 77 = .ok (.goto 10, 3) := by decide +kernel
theorem dX7_tellsWord_80 : decode cX7_tellsWord 80 = .ok (.aload_n 0, 1) := by decide +kernel
theorem dX7_tellsWord_81 : decode cX7_tellsWord 81 = .ok (.iload_n 3, 1) := by decide +kernel
theorem dX7_tellsWord_82 : decode cX7_tellsWord 82 = .ok (.iload_n 1, 1) := by decide +kernel
theorem dX7_tellsWord_83 : decode cX7_tellsWord 83 = .ok (.iload_n 2, 1) := by decide +kernel
theorem dX7_tellsWord_84 : decode cX7_tellsWord 84 = .ok (.invokevirtual 233, 3) := by decide +kernel
theorem dX7_tellsWord_87 : decode cX7_tellsWord 87 = .ok (.ireturn, 1) := by decide +kernel
theorem dX7_tellsDrawn_0 : decode cX7_tellsDrawn 0 = .ok (.iload_n 3, 1) := by decide +kernel
theorem dX7_tellsDrawn_1 : decode cX7_tellsDrawn 1 = .ok (.tableswitch 62 1 4 #[31, 38, 45, 55], 31) := by decide +kernel
theorem dX7_tellsDrawn_32 : decode cX7_tellsDrawn 32 = .ok (.aload_n 0, 1) := by decide +kernel
theorem dX7_tellsDrawn_33 : decode cX7_tellsDrawn 33 = .ok (.iload_n 1, 1) := by decide +kernel
theorem dX7_tellsDrawn_34 : decode cX7_tellsDrawn 34 = .ok (.iload_n 2, 1) := by decide +kernel
theorem dX7_tellsDrawn_35 : decode cX7_tellsDrawn 35 = .ok (.invokevirtual 148, 3) := by decide +kernel
theorem dX7_tellsDrawn_38 : decode cX7_tellsDrawn 38 = .ok (.ireturn, 1) := by decide +kernel
theorem dX7_tellsDrawn_39 : decode cX7_tellsDrawn 39 = .ok (.aload_n 0, 1) := by decide +kernel
theorem dX7_tellsDrawn_40 : decode cX7_tellsDrawn 40 = .ok (.iload_n 1, 1) := by decide +kernel
theorem dX7_tellsDrawn_41 : decode cX7_tellsDrawn 41 = .ok (.iload_n 2, 1) := by decide +kernel
theorem dX7_tellsDrawn_42 : decode cX7_tellsDrawn 42 = .ok (.invokevirtual 152, 3) := by decide +kernel
theorem dX7_tellsDrawn_45 : decode cX7_tellsDrawn 45 = .ok (.ireturn, 1) := by decide +kernel
theorem dX7_tellsDrawn_46 : decode cX7_tellsDrawn 46 = .ok (.aload_n 0, 1) := by decide +kernel
theorem dX7_tellsDrawn_47 : decode cX7_tellsDrawn 47 = .ok (.iload_n 1, 1) := by decide +kernel
theorem dX7_tellsDrawn_48 : decode cX7_tellsDrawn 48 = .ok (.iload_n 2, 1) := by decide +kernel
theorem dX7_tellsDrawn_49 : decode cX7_tellsDrawn 49 = .ok (.invokevirtual 158, 3) := by decide +kernel
theorem dX7_tellsDrawn_52 : decode cX7_tellsDrawn 52 = .ok (.bipush 20, 2) := by decide +kernel
theorem dX7_tellsDrawn_54 : decode cX7_tellsDrawn 54 = .ok (.iadd, 1) := by decide +kernel
theorem dX7_tellsDrawn_55 : decode cX7_tellsDrawn 55 = .ok (.ireturn, 1) := by decide +kernel
theorem dX7_tellsDrawn_56 : decode cX7_tellsDrawn 56 = .ok (.aload_n 0, 1) := by decide +kernel
theorem dX7_tellsDrawn_57 : decode cX7_tellsDrawn 57 = .ok (.iload_n 1, 1) := by decide +kernel
theorem dX7_tellsDrawn_58 : decode cX7_tellsDrawn 58 = .ok (.iload_n 2, 1) := by decide +kernel
theorem dX7_tellsDrawn_59 : decode cX7_tellsDrawn 59 = .ok (.invokevirtual 237, 3) := by decide +kernel
theorem dX7_tellsDrawn_62 : decode cX7_tellsDrawn 62 = .ok (.ireturn, 1) := by decide +kernel
theorem dX7_tellsDrawn_63 : decode cX7_tellsDrawn 63 = .ok (.iload_n 2, 1) := by decide +kernel
theorem dX7_tellsDrawn_64 : decode cX7_tellsDrawn 64 = .ok (.ireturn, 1) := by decide +kernel
theorem dX7_wordOf_0 : decode cX7_wordOf 0 = .ok (.aload_n 0, 1) := by decide +kernel
theorem dX7_wordOf_1 : decode cX7_wordOf 1 = .ok (.iconst 0, 1) := by decide +kernel
theorem dX7_wordOf_2 : decode cX7_wordOf 2 = .ok (.putfield 68, 3) := by decide +kernel
theorem dX7_wordOf_5 : decode cX7_wordOf 5 = .ok (.aload_n 0, 1) := by decide +kernel
theorem dX7_wordOf_6 : decode cX7_wordOf 6 = .ok (.iload_n 1, 1) := by decide +kernel
theorem dX7_wordOf_7 : decode cX7_wordOf 7 = .ok (.invokevirtual 199, 3) := by decide +kernel
theorem dX7_wordOf_10 : decode cX7_wordOf 10 = .ok (.ifCond .ne 9, 3) := by decide +kernel
theorem dX7_wordOf_13 : decode cX7_wordOf 13 = .ok (.aload_n 0, 1) := by decide +kernel
theorem dX7_wordOf_14 : decode cX7_wordOf 14 = .ok (.iconst 1, 1) := by decide +kernel
theorem dX7_wordOf_15 : decode cX7_wordOf 15 = .ok (.invokevirtual 190, 3) := by decide +kernel
theorem dX7_wordOf_18 : decode cX7_wordOf 18 = .ok (.ireturn, 1) := by decide +kernel
theorem dX7_wordOf_19 : decode cX7_wordOf 19 = .ok (.iload_n 2, 1) := by decide +kernel
theorem dX7_wordOf_20 : decode cX7_wordOf 20 = .ok (.iconst 0, 1) := by decide +kernel
theorem dX7_wordOf_21 : decode cX7_wordOf 21 = .ok (.bipush 7, 2) := by decide +kernel
theorem dX7_wordOf_23 : decode cX7_wordOf 23 = .ok (.invokestatic 72, 3) := by decide +kernel
theorem dX7_wordOf_26 : decode cX7_wordOf 26 = .ok (.ifCond .ne 9, 3) := by decide +kernel
theorem dX7_wordOf_29 : decode cX7_wordOf 29 = .ok (.aload_n 0, 1) := by decide +kernel
theorem dX7_wordOf_30 : decode cX7_wordOf 30 = .ok (.iconst 2, 1) := by decide +kernel
theorem dX7_wordOf_31 : decode cX7_wordOf 31 = .ok (.invokevirtual 190, 3) := by decide +kernel
theorem dX7_wordOf_34 : decode cX7_wordOf 34 = .ok (.ireturn, 1) := by decide +kernel
theorem dX7_wordOf_35 : decode cX7_wordOf 35 = .ok (.aload_n 0, 1) := by decide +kernel
theorem dX7_wordOf_36 : decode cX7_wordOf 36 = .ok (.invokevirtual 187, 3) := by decide +kernel
theorem dX7_wordOf_39 : decode cX7_wordOf 39 = .ok (.aload_n 0, 1) := by decide +kernel
theorem dX7_wordOf_40 : decode cX7_wordOf 40 = .ok (.iload_n 1, 1) := by decide +kernel
theorem dX7_wordOf_41 : decode cX7_wordOf 41 = .ok (.iload_n 2, 1) := by decide +kernel
theorem dX7_wordOf_42 : decode cX7_wordOf 42 = .ok (.invokevirtual 240, 3) := by decide +kernel
theorem dX7_wordOf_45 : decode cX7_wordOf 45 = .ok (.ireturn, 1) := by decide +kernel
theorem dX7_wordsOf_0 : decode cX7_wordsOf 0 = .ok (.iconst 0, 1) := by decide +kernel
theorem dX7_wordsOf_1 : decode cX7_wordsOf 1 = .ok (.istore_n 2, 1) := by decide +kernel
theorem dX7_wordsOf_2 : decode cX7_wordsOf 2 = .ok (.iconst 0, 1) := by decide +kernel
theorem dX7_wordsOf_3 : decode cX7_wordsOf 3 = .ok (.istore_n 3, 1) := by decide +kernel
theorem dX7_wordsOf_4 : decode cX7_wordsOf 4 = .ok (.iload_n 3, 1) := by decide +kernel
theorem dX7_wordsOf_5 : decode cX7_wordsOf 5 = .ok (.aload_n 0, 1) := by decide +kernel
theorem dX7_wordsOf_6 : decode cX7_wordsOf 6 = .ok (.getfield 7, 3) := by decide +kernel
theorem dX7_wordsOf_9 : decode cX7_wordsOf 9 = .ok (.iconst 0, 1) := by decide +kernel
theorem dX7_wordsOf_10 : decode cX7_wordsOf 10 = .ok (.iaload, 1) := by decide +kernel
theorem dX7_wordsOf_11 : decode cX7_wordsOf 11 = .ok (.if_icmp .ge 26, 3) := by decide +kernel
theorem dX7_wordsOf_14 : decode cX7_wordsOf 14 = .ok (.iload_n 2, 1) := by decide +kernel
theorem dX7_wordsOf_15 : decode cX7_wordsOf 15 = .ok (.aload_n 0, 1) := by decide +kernel
theorem dX7_wordsOf_16 : decode cX7_wordsOf 16 = .ok (.iload_n 3, 1) := by decide +kernel
theorem dX7_wordsOf_17 : decode cX7_wordsOf 17 = .ok (.invokevirtual 86, 3) := by decide +kernel
theorem dX7_wordsOf_20 : decode cX7_wordsOf 20 = .ok (.iload_n 1, 1) := by decide +kernel
theorem dX7_wordsOf_21 : decode cX7_wordsOf 21 = .ok (.if_icmp .ne 7, 3) := by decide +kernel
theorem dX7_wordsOf_24 : decode cX7_wordsOf 24 = .ok (.iconst 1, 1) := by decide +kernel
theorem dX7_wordsOf_25 : decode cX7_wordsOf 25 = .ok (.goto 4, 3) := by decide +kernel
theorem dX7_wordsOf_28 : decode cX7_wordsOf 28 = .ok (.iconst 0, 1) := by decide +kernel
theorem dX7_wordsOf_29 : decode cX7_wordsOf 29 = .ok (.iadd, 1) := by decide +kernel
theorem dX7_wordsOf_30 : decode cX7_wordsOf 30 = .ok (.istore_n 2, 1) := by decide +kernel
theorem dX7_wordsOf_31 : decode cX7_wordsOf 31 = .ok (.iinc 3 1, 3) := by decide +kernel
theorem dX7_wordsOf_34 : decode cX7_wordsOf 34 = .ok (.goto (-30), 3) := by decide +kernel
theorem dX7_wordsOf_37 : decode cX7_wordsOf 37 = .ok (.iload_n 2, 1) := by decide +kernel
theorem dX7_wordsOf_38 : decode cX7_wordsOf 38 = .ok (.ireturn, 1) := by decide +kernel
theorem dX7_mostHeld_0 : decode cX7_mostHeld 0 = .ok (.iconst 0, 1) := by decide +kernel
theorem dX7_mostHeld_1 : decode cX7_mostHeld 1 = .ok (.istore_n 2, 1) := by decide +kernel
theorem dX7_mostHeld_2 : decode cX7_mostHeld 2 = .ok (.iconst 0, 1) := by decide +kernel
theorem dX7_mostHeld_3 : decode cX7_mostHeld 3 = .ok (.istore_n 3, 1) := by decide +kernel
theorem dX7_mostHeld_4 : decode cX7_mostHeld 4 = .ok (.iload_n 3, 1) := by decide +kernel
theorem dX7_mostHeld_5 : decode cX7_mostHeld 5 = .ok (.aload_n 0, 1) := by decide +kernel
theorem dX7_mostHeld_6 : decode cX7_mostHeld 6 = .ok (.getfield 7, 3) := by decide +kernel
theorem dX7_mostHeld_9 : decode cX7_mostHeld 9 = .ok (.iconst 0, 1) := by decide +kernel
theorem dX7_mostHeld_10 : decode cX7_mostHeld 10 = .ok (.iaload, 1) := by decide +kernel
theorem dX7_mostHeld_11 : decode cX7_mostHeld 11 = .ok (.if_icmp .ge 30, 3) := by decide +kernel
theorem dX7_mostHeld_14 : decode cX7_mostHeld 14 = .ok (.aload_n 0, 1) := by decide +kernel
theorem dX7_mostHeld_15 : decode cX7_mostHeld 15 = .ok (.iload_n 1, 1) := by decide +kernel
theorem dX7_mostHeld_16 : decode cX7_mostHeld 16 = .ok (.iload_n 3, 1) := by decide +kernel
theorem dX7_mostHeld_17 : decode cX7_mostHeld 17 = .ok (.invokevirtual 237, 3) := by decide +kernel
theorem dX7_mostHeld_20 : decode cX7_mostHeld 20 = .ok (.istore 4, 2) := by decide +kernel
theorem dX7_mostHeld_22 : decode cX7_mostHeld 22 = .ok (.iload 4, 2) := by decide +kernel
theorem dX7_mostHeld_24 : decode cX7_mostHeld 24 = .ok (.iload_n 2, 1) := by decide +kernel
theorem dX7_mostHeld_25 : decode cX7_mostHeld 25 = .ok (.if_icmp .le 8, 3) := by decide +kernel
theorem dX7_mostHeld_28 : decode cX7_mostHeld 28 = .ok (.iload 4, 2) := by decide +kernel
theorem dX7_mostHeld_30 : decode cX7_mostHeld 30 = .ok (.goto 4, 3) := by decide +kernel
theorem dX7_mostHeld_33 : decode cX7_mostHeld 33 = .ok (.iload_n 2, 1) := by decide +kernel
theorem dX7_mostHeld_34 : decode cX7_mostHeld 34 = .ok (.istore_n 2, 1) := by decide +kernel
theorem dX7_mostHeld_35 : decode cX7_mostHeld 35 = .ok (.iinc 3 1, 3) := by decide +kernel
theorem dX7_mostHeld_38 : decode cX7_mostHeld 38 = .ok (.goto (-34), 3) := by decide +kernel
theorem dX7_mostHeld_41 : decode cX7_mostHeld 41 = .ok (.iload_n 2, 1) := by decide +kernel
theorem dX7_mostHeld_42 : decode cX7_mostHeld 42 = .ok (.ireturn, 1) := by decide +kernel
theorem dX7_tellsReading_0 : decode cX7_tellsReading 0 = .ok (.aload_n 0, 1) := by decide +kernel
theorem dX7_tellsReading_1 : decode cX7_tellsReading 1 = .ok (.getfield 47, 3) := by decide +kernel
theorem dX7_tellsReading_4 : decode cX7_tellsReading 4 = .ok (.iload_n 1, 1) := by decide +kernel
theorem dX7_tellsReading_5 : decode cX7_tellsReading 5 = .ok (.iaload, 1) := by decide +kernel
theorem dX7_tellsReading_6 : decode cX7_tellsReading 6 = .ok (.istore_n 3, 1) := by decide +kernel
theorem dX7_tellsReading_7 : decode cX7_tellsReading 7 = .ok (.iload_n 2, 1) := by decide +kernel
theorem dX7_tellsReading_8 : decode cX7_tellsReading 8 = .ok (.tableswitch 78 0 4 #[36, 42, 48, 66, 72], 36) := by decide +kernel
theorem dX7_tellsReading_44 : decode cX7_tellsReading 44 = .ok (.aload_n 0, 1) := by decide +kernel
theorem dX7_tellsReading_45 : decode cX7_tellsReading 45 = .ok (.iload_n 3, 1) := by decide +kernel
theorem dX7_tellsReading_46 : decode cX7_tellsReading 46 = .ok (.invokevirtual 208, 3) := by decide +kernel
theorem dX7_tellsReading_49 : decode cX7_tellsReading 49 = .ok (.ireturn, 1) := by decide +kernel
theorem dX7_tellsReading_50 : decode cX7_tellsReading 50 = .ok (.aload_n 0, 1) := by decide +kernel
theorem dX7_tellsReading_51 : decode cX7_tellsReading 51 = .ok (.iconst 1, 1) := by decide +kernel
theorem dX7_tellsReading_52 : decode cX7_tellsReading 52 = .ok (.invokevirtual 243, 3) := by decide +kernel
theorem dX7_tellsReading_55 : decode cX7_tellsReading 55 = .ok (.ireturn, 1) := by decide +kernel
theorem dX7_tellsReading_56 : decode cX7_tellsReading 56 = .ok (.aload_n 0, 1) := by decide +kernel
theorem dX7_tellsReading_57 : decode cX7_tellsReading 57 = .ok (.iconst 2, 1) := by decide +kernel
theorem dX7_tellsReading_58 : decode cX7_tellsReading 58 = .ok (.invokevirtual 243, 3) := by decide +kernel
theorem dX7_tellsReading_61 : decode cX7_tellsReading 61 = .ok (.aload_n 0, 1) := by decide +kernel
theorem dX7_tellsReading_62 : decode cX7_tellsReading 62 = .ok (.iconst 3, 1) := by decide +kernel
theorem dX7_tellsReading_63 : decode cX7_tellsReading 63 = .ok (.invokevirtual 243, 3) := by decide +kernel
theorem dX7_tellsReading_66 : decode cX7_tellsReading 66 = .ok (.iadd, 1) := by decide +kernel
theorem dX7_tellsReading_67 : decode cX7_tellsReading 67 = .ok (.aload_n 0, 1) := by decide +kernel
theorem dX7_tellsReading_68 : decode cX7_tellsReading 68 = .ok (.iconst 4, 1) := by decide +kernel
theorem dX7_tellsReading_69 : decode cX7_tellsReading 69 = .ok (.invokevirtual 243, 3) := by decide +kernel
theorem dX7_tellsReading_72 : decode cX7_tellsReading 72 = .ok (.iadd, 1) := by decide +kernel
theorem dX7_tellsReading_73 : decode cX7_tellsReading 73 = .ok (.ireturn, 1) := by decide +kernel
theorem dX7_tellsReading_74 : decode cX7_tellsReading 74 = .ok (.aload_n 0, 1) := by decide +kernel
theorem dX7_tellsReading_75 : decode cX7_tellsReading 75 = .ok (.iconst 5, 1) := by decide +kernel
theorem dX7_tellsReading_76 : decode cX7_tellsReading 76 = .ok (.invokevirtual 243, 3) := by decide +kernel
theorem dX7_tellsReading_79 : decode cX7_tellsReading 79 = .ok (.ireturn, 1) := by decide +kernel
theorem dX7_tellsReading_80 : decode cX7_tellsReading 80 = .ok (.aload_n 0, 1) := by decide +kernel
theorem dX7_tellsReading_81 : decode cX7_tellsReading 81 = .ok (.iload_n 3, 1) := by decide +kernel
theorem dX7_tellsReading_82 : decode cX7_tellsReading 82 = .ok (.invokevirtual 246, 3) := by decide +kernel
theorem dX7_tellsReading_85 : decode cX7_tellsReading 85 = .ok (.ireturn, 1) := by decide +kernel
theorem dX7_tellsReading_86 : decode cX7_tellsReading 86 = .ok (.iload_n 3, 1) := by decide +kernel
theorem dX7_tellsReading_87 : decode cX7_tellsReading 87 = .ok (.ireturn, 1) := by decide +kernel
theorem dX7_readingOf_0 : decode cX7_readingOf 0 = .ok (.aload_n 0, 1) := by decide +kernel
theorem dX7_readingOf_1 : decode cX7_readingOf 1 = .ok (.iconst 0, 1) := by decide +kernel
theorem dX7_readingOf_2 : decode cX7_readingOf 2 = .ok (.putfield 68, 3) := by decide +kernel
theorem dX7_readingOf_5 : decode cX7_readingOf 5 = .ok (.aload_n 0, 1) := by decide +kernel
theorem dX7_readingOf_6 : decode cX7_readingOf 6 = .ok (.invokevirtual 187, 3) := by decide +kernel
theorem dX7_readingOf_9 : decode cX7_readingOf 9 = .ok (.iload_n 1, 1) := by decide +kernel
theorem dX7_readingOf_10 : decode cX7_readingOf 10 = .ok (.iconst 0, 1) := by decide +kernel
theorem dX7_readingOf_11 : decode cX7_readingOf 11 = .ok (.aload_n 0, 1) := by decide +kernel
theorem dX7_readingOf_12 : decode cX7_readingOf 12 = .ok (.getfield 142, 3) := by decide +kernel
theorem dX7_readingOf_15 : decode cX7_readingOf 15 = .ok (.iconst 1, 1) := by decide +kernel
theorem dX7_readingOf_16 : decode cX7_readingOf 16 = .ok (.isub, 1) := by decide +kernel
theorem dX7_readingOf_17 : decode cX7_readingOf 17 = .ok (.invokestatic 72, 3) := by decide +kernel
theorem dX7_readingOf_20 : decode cX7_readingOf 20 = .ok (.ifCond .ne 9, 3) := by decide +kernel
theorem dX7_readingOf_23 : decode cX7_readingOf 23 = .ok (.aload_n 0, 1) := by decide +kernel
theorem dX7_readingOf_24 : decode cX7_readingOf 24 = .ok (.iconst 1, 1) := by decide +kernel
theorem dX7_readingOf_25 : decode cX7_readingOf 25 = .ok (.invokevirtual 190, 3) := by decide +kernel
theorem dX7_readingOf_28 : decode cX7_readingOf 28 = .ok (.ireturn, 1) := by decide +kernel
theorem dX7_readingOf_29 : decode cX7_readingOf 29 = .ok (.iload_n 2, 1) := by decide +kernel
theorem dX7_readingOf_30 : decode cX7_readingOf 30 = .ok (.iconst 0, 1) := by decide +kernel
theorem dX7_readingOf_31 : decode cX7_readingOf 31 = .ok (.iconst 5, 1) := by decide +kernel
theorem dX7_readingOf_32 : decode cX7_readingOf 32 = .ok (.invokestatic 72, 3) := by decide +kernel
theorem dX7_readingOf_35 : decode cX7_readingOf 35 = .ok (.ifCond .eq 12, 3) := by decide +kernel
theorem dX7_readingOf_38 : decode cX7_readingOf 38 = .ok (.aload_n 0, 1) := by decide +kernel
theorem dX7_readingOf_39 : decode cX7_readingOf 39 = .ok (.iload_n 1, 1) := by decide +kernel
theorem dX7_readingOf_40 : decode cX7_readingOf 40 = .ok (.iload_n 2, 1) := by decide +kernel
theorem dX7_readingOf_41 : decode cX7_readingOf 41 = .ok (.invokevirtual 249, 3) := by decide +kernel
theorem dX7_readingOf_44 : decode cX7_readingOf 44 = .ok (.goto 8, 3) := by decide +kernel
theorem dX7_readingOf_47 : decode cX7_readingOf 47 = .ok (.aload_n 0, 1) := by decide +kernel
theorem dX7_readingOf_48 : decode cX7_readingOf 48 = .ok (.iconst 2, 1) := by decide +kernel
theorem dX7_readingOf_49 : decode cX7_readingOf 49 = .ok (.invokevirtual 190, 3) := by decide +kernel
theorem dX7_readingOf_52 : decode cX7_readingOf 52 = .ok (.ireturn, 1) := by decide +kernel
theorem dX7_fixedWords_0 : decode cX7_fixedWords 0 = .ok (.iconst 0, 1) := by decide +kernel
theorem dX7_fixedWords_1 : decode cX7_fixedWords 1 = .ok (.istore_n 1, 1) := by decide +kernel
theorem dX7_fixedWords_2 : decode cX7_fixedWords 2 = .ok (.iconst 0, 1) := by decide +kernel
theorem dX7_fixedWords_3 : decode cX7_fixedWords 3 = .ok (.istore_n 2, 1) := by decide +kernel
theorem dX7_fixedWords_4 : decode cX7_fixedWords 4 = .ok (.iload_n 2, 1) := by decide +kernel
theorem dX7_fixedWords_5 : decode cX7_fixedWords 5 = .ok (.aload_n 0, 1) := by decide +kernel
theorem dX7_fixedWords_6 : decode cX7_fixedWords 6 = .ok (.getfield 7, 3) := by decide +kernel
theorem dX7_fixedWords_9 : decode cX7_fixedWords 9 = .ok (.iconst 0, 1) := by decide +kernel
theorem dX7_fixedWords_10 : decode cX7_fixedWords 10 = .ok (.iaload, 1) := by decide +kernel
theorem dX7_fixedWords_11 : decode cX7_fixedWords 11 = .ok (.if_icmp .ge 29, 3) := by decide +kernel
theorem dX7_fixedWords_14 : decode cX7_fixedWords 14 = .ok (.iload_n 1, 1) := by decide +kernel
theorem dX7_fixedWords_15 : decode cX7_fixedWords 15 = .ok (.aload_n 0, 1) := by decide +kernel
theorem dX7_fixedWords_16 : decode cX7_fixedWords 16 = .ok (.getfield 7, 3) := by decide +kernel
theorem dX7_fixedWords_19 : decode cX7_fixedWords 19 = .ok (.bipush 14, 2) := by decide +kernel
theorem dX7_fixedWords_21 : decode cX7_fixedWords 21 = .ok (.iload_n 2, 1) := by decide +kernel
theorem dX7_fixedWords_22 : decode cX7_fixedWords 22 = .ok (.iadd, 1) := by decide +kernel
theorem dX7_fixedWords_23 : decode cX7_fixedWords 23 = .ok (.iaload, 1) := by decide +kernel
theorem dX7_fixedWords_24 : decode cX7_fixedWords 24 = .ok (.ifCond .le 7, 3) := by decide +kernel
theorem dX7_fixedWords_27 : decode cX7_fixedWords 27 = .ok (.iconst 1, 1) := by decide +kernel
theorem dX7_fixedWords_28 : decode cX7_fixedWords 28 = .ok (.goto 4, 3) := by decide +kernel
theorem dX7_fixedWords_31 : decode cX7_fixedWords 31 = .ok (.iconst 0, 1) := by decide +kernel
theorem dX7_fixedWords_32 : decode cX7_fixedWords 32 = .ok (.iadd, 1) := by decide +kernel
theorem dX7_fixedWords_33 : decode cX7_fixedWords 33 = .ok (.istore_n 1, 1) := by decide +kernel
theorem dX7_fixedWords_34 : decode cX7_fixedWords 34 = .ok (.iinc 2 1, 3) := by decide +kernel
theorem dX7_fixedWords_37 : decode cX7_fixedWords 37 = .ok (.goto (-33), 3) := by decide +kernel
theorem dX7_fixedWords_40 : decode cX7_fixedWords 40 = .ok (.iload_n 1, 1) := by decide +kernel
theorem dX7_fixedWords_41 : decode cX7_fixedWords 41 = .ok (.ireturn, 1) := by decide +kernel
theorem dX7_wordsWith_0 : decode cX7_wordsWith 0 = .ok (.iconst 0, 1) := by decide +kernel
theorem dX7_wordsWith_1 : decode cX7_wordsWith 1 = .ok (.istore_n 2, 1) := by decide +kernel
theorem dX7_wordsWith_2 : decode cX7_wordsWith 2 = .ok (.iconst 0, 1) := by decide +kernel
theorem dX7_wordsWith_3 : decode cX7_wordsWith 3 = .ok (.istore_n 3, 1) := by decide +kernel
theorem dX7_wordsWith_4 : decode cX7_wordsWith 4 = .ok (.iload_n 3, 1) := by decide +kernel
theorem dX7_wordsWith_5 : decode cX7_wordsWith 5 = .ok (.aload_n 0, 1) := by decide +kernel
theorem dX7_wordsWith_6 : decode cX7_wordsWith 6 = .ok (.getfield 7, 3) := by decide +kernel
theorem dX7_wordsWith_9 : decode cX7_wordsWith 9 = .ok (.iconst 0, 1) := by decide +kernel
theorem dX7_wordsWith_10 : decode cX7_wordsWith 10 = .ok (.iaload, 1) := by decide +kernel
theorem dX7_wordsWith_11 : decode cX7_wordsWith 11 = .ok (.if_icmp .ge 45, 3) := by decide +kernel
theorem dX7_wordsWith_14 : decode cX7_wordsWith 14 = .ok (.aload_n 0, 1) := by decide +kernel
theorem dX7_wordsWith_15 : decode cX7_wordsWith 15 = .ok (.iload_n 3, 1) := by decide +kernel
theorem dX7_wordsWith_16 : decode cX7_wordsWith 16 = .ok (.iconst 0, 1) := by decide +kernel
theorem dX7_wordsWith_17 : decode cX7_wordsWith 17 = .ok (.invokevirtual 229, 3) := by decide +kernel
theorem dX7_wordsWith_20 : decode cX7_wordsWith 20 = .ok (.istore 4, 2) := by decide +kernel
theorem dX7_wordsWith_22 : decode cX7_wordsWith 22 = .ok (.iload_n 2, 1) := by decide +kernel
theorem dX7_wordsWith_23 : decode cX7_wordsWith 23 = .ok (.iload_n 1, 1) := by decide +kernel
theorem dX7_wordsWith_24 : decode cX7_wordsWith 24 = .ok (.ifCond .eq 9, 3) := by decide +kernel
theorem dX7_wordsWith_27 : decode cX7_wordsWith 27 = .ok (.iload 4, 2) := by decide +kernel
theorem dX7_wordsWith_29 : decode cX7_wordsWith 29 = .ok (.iconst 1, 1) := by decide +kernel
theorem dX7_wordsWith_30 : decode cX7_wordsWith 30 = .ok (.if_icmp .gt 13, 3) := by decide +kernel
theorem dX7_wordsWith_33 : decode cX7_wordsWith 33 = .ok (.iload_n 1, 1) := by decide +kernel
theorem dX7_wordsWith_34 : decode cX7_wordsWith 34 = .ok (.ifCond .ne 13, 3) := by decide +kernel
theorem dX7_wordsWith_37 : decode cX7_wordsWith 37 = .ok (.iload 4, 2) := by decide +kernel
theorem dX7_wordsWith_39 : decode cX7_wordsWith 39 = .ok (.iconst 1, 1) := by decide +kernel
theorem dX7_wordsWith_40 : decode cX7_wordsWith 40 = .ok (.if_icmp .ne 7, 3) := by decide +kernel
theorem dX7_wordsWith_43 : decode cX7_wordsWith 43 = .ok (.iconst 1, 1) := by decide +kernel
theorem dX7_wordsWith_44 : decode cX7_wordsWith 44 = .ok (.goto 4, 3) := by decide +kernel
theorem dX7_wordsWith_47 : decode cX7_wordsWith 47 = .ok (.iconst 0, 1) := by decide +kernel
theorem dX7_wordsWith_48 : decode cX7_wordsWith 48 = .ok (.iadd, 1) := by decide +kernel
theorem dX7_wordsWith_49 : decode cX7_wordsWith 49 = .ok (.istore_n 2, 1) := by decide +kernel
theorem dX7_wordsWith_50 : decode cX7_wordsWith 50 = .ok (.iinc 3 1, 3) := by decide +kernel
theorem dX7_wordsWith_53 : decode cX7_wordsWith 53 = .ok (.goto (-49), 3) := by decide +kernel
theorem dX7_wordsWith_56 : decode cX7_wordsWith 56 = .ok (.iload_n 2, 1) := by decide +kernel
theorem dX7_wordsWith_57 : decode cX7_wordsWith 57 = .ok (.ireturn, 1) := by decide +kernel
theorem dX7_tellsCount_0 : decode cX7_tellsCount 0 = .ok (.iload_n 1, 1) := by decide +kernel
theorem dX7_tellsCount_1 : decode cX7_tellsCount 1 = .ok (.tableswitch 118 0 7 #[47, 54, 59, 64, 69, 87, 92, 98], 47) := by decide +kernel
theorem dX7_tellsCount_48 : decode cX7_tellsCount 48 = .ok (.aload_n 0, 1) := by decide +kernel
theorem dX7_tellsCount_49 : decode cX7_tellsCount 49 = .ok (.getfield 7, 3) := by decide +kernel
theorem dX7_tellsCount_52 : decode cX7_tellsCount 52 = .ok (.iconst 0, 1) := by decide +kernel
theorem dX7_tellsCount_53 : decode cX7_tellsCount 53 = .ok (.iaload, 1) := by decide +kernel
theorem dX7_tellsCount_54 : decode cX7_tellsCount 54 = .ok (.ireturn, 1) := by decide +kernel
theorem dX7_tellsCount_55 : decode cX7_tellsCount 55 = .ok (.aload_n 0, 1) := by decide +kernel
theorem dX7_tellsCount_56 : decode cX7_tellsCount 56 = .ok (.getfield 123, 3) := by decide +kernel
theorem dX7_tellsCount_59 : decode cX7_tellsCount 59 = .ok (.ireturn, 1) := by decide +kernel
theorem dX7_tellsCount_60 : decode cX7_tellsCount 60 = .ok (.aload_n 0, 1) := by decide +kernel
theorem dX7_tellsCount_61 : decode cX7_tellsCount 61 = .ok (.invokevirtual 252, 3) := by decide +kernel
theorem dX7_tellsCount_64 : decode cX7_tellsCount 64 = .ok (.ireturn, 1) := by decide +kernel
theorem dX7_tellsCount_65 : decode cX7_tellsCount 65 = .ok (.aload_n 0, 1) := by decide +kernel
theorem dX7_tellsCount_66 : decode cX7_tellsCount 66 = .ok (.getfield 142, 3) := by decide +kernel
theorem dX7_tellsCount_69 : decode cX7_tellsCount 69 = .ok (.ireturn, 1) := by decide +kernel
theorem dX7_tellsCount_70 : decode cX7_tellsCount 70 = .ok (.aload_n 0, 1) := by decide +kernel
theorem dX7_tellsCount_71 : decode cX7_tellsCount 71 = .ok (.getfield 142, 3) := by decide +kernel
theorem dX7_tellsCount_74 : decode cX7_tellsCount 74 = .ok (.ifCond .ne 7, 3) := by decide +kernel
theorem dX7_tellsCount_77 : decode cX7_tellsCount 77 = .ok (.iconst (-1), 1) := by decide +kernel
theorem dX7_tellsCount_78 : decode cX7_tellsCount 78 = .ok (.goto 9, 3) := by decide +kernel
theorem dX7_tellsCount_81 : decode cX7_tellsCount 81 = .ok (.aload_n 0, 1) := by decide +kernel
theorem dX7_tellsCount_82 : decode cX7_tellsCount 82 = .ok (.getfield 7, 3) := by decide +kernel
theorem dX7_tellsCount_85 : decode cX7_tellsCount 85 = .ok (.iconst 1, 1) := by decide +kernel
theorem dX7_tellsCount_86 : decode cX7_tellsCount 86 = .ok (.iaload, 1) := by decide +kernel
theorem dX7_tellsCount_87 : decode cX7_tellsCount 87 = .ok (.ireturn, 1) := by decide +kernel
theorem dX7_tellsCount_88 : decode cX7_tellsCount 88 = .ok (.aload_n 0, 1) := by decide +kernel
theorem dX7_tellsCount_89 : decode cX7_tellsCount 89 = .ok (.invokevirtual 255, 3) := by decide +kernel
theorem dX7_tellsCount_92 : decode cX7_tellsCount 92 = .ok (.ireturn, 1) := by decide +kernel
theorem dX7_tellsCount_93 : decode cX7_tellsCount 93 = .ok (.aload_n 0, 1) := by decide +kernel
theorem dX7_tellsCount_94 : decode cX7_tellsCount 94 = .ok (.iconst 1, 1) := by decide +kernel
theorem dX7_tellsCount_95 : decode cX7_tellsCount 95 = .ok (.invokevirtual 258, 3) := by decide +kernel
theorem dX7_tellsCount_98 : decode cX7_tellsCount 98 = .ok (.ireturn, 1) := by decide +kernel
theorem dX7_tellsCount_99 : decode cX7_tellsCount 99 = .ok (.aload_n 0, 1) := by decide +kernel
theorem dX7_tellsCount_100 : decode cX7_tellsCount 100 = .ok (.getfield 142, 3) := by decide +kernel
theorem dX7_tellsCount_103 : decode cX7_tellsCount 103 = .ok (.ifCond .ne 7, 3) := by decide +kernel
theorem dX7_tellsCount_106 : decode cX7_tellsCount 106 = .ok (.iconst 0, 1) := by decide +kernel
theorem dX7_tellsCount_107 : decode cX7_tellsCount 107 = .ok (.goto 11, 3) := by decide +kernel
theorem dX7_tellsCount_110 : decode cX7_tellsCount 110 = .ok (.aload_n 0, 1) := by decide +kernel
theorem dX7_tellsCount_111 : decode cX7_tellsCount 111 = .ok (.aload_n 0, 1) := by decide +kernel
theorem dX7_tellsCount_112 : decode cX7_tellsCount 112 = .ok (.invokevirtual 226, 3) := by decide +kernel
theorem dX7_tellsCount_115 : decode cX7_tellsCount 115 = .ok (.invokevirtual 208, 3) := by decide +kernel
theorem dX7_tellsCount_118 : decode cX7_tellsCount 118 = .ok (.ireturn, 1) := by decide +kernel
theorem dX7_tellsCount_119 : decode cX7_tellsCount 119 = .ok (.aload_n 0, 1) := by decide +kernel
theorem dX7_tellsCount_120 : decode cX7_tellsCount 120 = .ok (.getfield 76, 3) := by decide +kernel
theorem dX7_tellsCount_123 : decode cX7_tellsCount 123 = .ok (.ireturn, 1) := by decide +kernel
theorem dX7_count_0 : decode cX7_count 0 = .ok (.aload_n 0, 1) := by decide +kernel
theorem dX7_count_1 : decode cX7_count 1 = .ok (.iconst 0, 1) := by decide +kernel
theorem dX7_count_2 : decode cX7_count 2 = .ok (.putfield 68, 3) := by decide +kernel
theorem dX7_count_5 : decode cX7_count 5 = .ok (.aload_n 0, 1) := by decide +kernel
theorem dX7_count_6 : decode cX7_count 6 = .ok (.invokevirtual 187, 3) := by decide +kernel
theorem dX7_count_9 : decode cX7_count 9 = .ok (.iload_n 1, 1) := by decide +kernel
theorem dX7_count_10 : decode cX7_count 10 = .ok (.iconst 0, 1) := by decide +kernel
theorem dX7_count_11 : decode cX7_count 11 = .ok (.bipush 8, 2) := by decide +kernel
theorem dX7_count_13 : decode cX7_count 13 = .ok (.invokestatic 72, 3) := by decide +kernel
theorem dX7_count_16 : decode cX7_count 16 = .ok (.ifCond .eq 11, 3) := by decide +kernel
theorem dX7_count_19 : decode cX7_count 19 = .ok (.aload_n 0, 1) := by decide +kernel
theorem dX7_count_20 : decode cX7_count 20 = .ok (.iload_n 1, 1) := by decide +kernel
theorem dX7_count_21 : decode cX7_count 21 = .ok (.invokevirtual 262, 3) := by decide +kernel
theorem dX7_count_24 : decode cX7_count 24 = .ok (.goto 8, 3) := by decide +kernel
theorem dX7_count_27 : decode cX7_count 27 = .ok (.aload_n 0, 1) := by decide +kernel
theorem dX7_count_28 : decode cX7_count 28 = .ok (.iconst 1, 1) := by decide +kernel
theorem dX7_count_29 : decode cX7_count 29 = .ok (.invokevirtual 190, 3) := by decide +kernel
theorem dX7_count_32 : decode cX7_count 32 = .ok (.ireturn, 1) := by decide +kernel
theorem dX7_part_0 : decode cX7_part 0 = .ok (.aload_n 0, 1) := by decide +kernel
theorem dX7_part_1 : decode cX7_part 1 = .ok (.iconst 0, 1) := by decide +kernel
theorem dX7_part_2 : decode cX7_part 2 = .ok (.putfield 68, 3) := by decide +kernel
theorem dX7_part_5 : decode cX7_part 5 = .ok (.iload_n 1, 1) := by decide +kernel
theorem dX7_part_6 : decode cX7_part 6 = .ok (.ifCond .lt 18, 3) := by decide +kernel
theorem dX7_part_9 : decode cX7_part 9 = .ok (.iload_n 2, 1) := by decide +kernel
theorem dX7_part_10 : decode cX7_part 10 = .ok (.iload_n 1, 1) := by decide +kernel
theorem dX7_part_11 : decode cX7_part 11 = .ok (.if_icmp .le 13, 3) := by decide +kernel
theorem dX7_part_14 : decode cX7_part 14 = .ok (.iload_n 2, 1) := by decide +kernel
theorem dX7_part_15 : decode cX7_part 15 = .ok (.aload_n 0, 1) := by decide +kernel
theorem dX7_part_16 : decode cX7_part 16 = .ok (.getfield 7, 3) := by decide +kernel
theorem dX7_part_19 : decode cX7_part 19 = .ok (.iconst 0, 1) := by decide +kernel
theorem dX7_part_20 : decode cX7_part 20 = .ok (.iaload, 1) := by decide +kernel
theorem dX7_part_21 : decode cX7_part 21 = .ok (.if_icmp .le 9, 3) := by decide +kernel
theorem dX7_part_24 : decode cX7_part 24 = .ok (.aload_n 0, 1) := by decide +kernel
theorem dX7_part_25 : decode cX7_part 25 = .ok (.iconst 1, 1) := by decide +kernel
theorem dX7_part_26 : decode cX7_part 26 = .ok (.invokevirtual 190, 3) := by decide +kernel
theorem dX7_part_29 : decode cX7_part 29 = .ok (.ireturn, 1) := by decide +kernel
theorem dX7_part_30 : decode cX7_part 30 = .ok (.aload_n 0, 1) := by decide +kernel
theorem dX7_part_31 : decode cX7_part 31 = .ok (.invokevirtual 184, 3) := by decide +kernel
theorem dX7_part_34 : decode cX7_part 34 = .ok (.iload_n 3, 1) := by decide +kernel
theorem dX7_part_35 : decode cX7_part 35 = .ok (.iconst 0, 1) := by decide +kernel
theorem dX7_part_36 : decode cX7_part 36 = .ok (.iconst 4, 1) := by decide +kernel
theorem dX7_part_37 : decode cX7_part 37 = .ok (.invokestatic 72, 3) := by decide +kernel
theorem dX7_part_40 : decode cX7_part 40 = .ok (.ifCond .eq 13, 3) := by decide +kernel
theorem dX7_part_43 : decode cX7_part 43 = .ok (.aload_n 0, 1) := by decide +kernel
theorem dX7_part_44 : decode cX7_part 44 = .ok (.iload_n 1, 1) := by decide +kernel
theorem dX7_part_45 : decode cX7_part 45 = .ok (.iload_n 2, 1) := by decide +kernel
theorem dX7_part_46 : decode cX7_part 46 = .ok (.iload_n 3, 1) := by decide +kernel
theorem dX7_part_47 : decode cX7_part 47 = .ok (.invokevirtual 265, 3) := by decide +kernel
theorem dX7_part_50 : decode cX7_part 50 = .ok (.goto 8, 3) := by decide +kernel
theorem dX7_part_53 : decode cX7_part 53 = .ok (.aload_n 0, 1) := by decide +kernel
theorem dX7_part_54 : decode cX7_part 54 = .ok (.iconst 2, 1) := by decide +kernel
theorem dX7_part_55 : decode cX7_part 55 = .ok (.invokevirtual 190, 3) := by decide +kernel
theorem dX7_part_58 : decode cX7_part 58 = .ok (.ireturn, 1) := by decide +kernel
theorem dX7_ifFixed_0 : decode cX7_ifFixed 0 = .ok (.aload_n 0, 1) := by decide +kernel
theorem dX7_ifFixed_1 : decode cX7_ifFixed 1 = .ok (.iconst 0, 1) := by decide +kernel
theorem dX7_ifFixed_2 : decode cX7_ifFixed 2 = .ok (.putfield 68, 3) := by decide +kernel
theorem dX7_ifFixed_5 : decode cX7_ifFixed 5 = .ok (.aload_n 0, 1) := by decide +kernel
theorem dX7_ifFixed_6 : decode cX7_ifFixed 6 = .ok (.iload_n 1, 1) := by decide +kernel
theorem dX7_ifFixed_7 : decode cX7_ifFixed 7 = .ok (.invokevirtual 199, 3) := by decide +kernel
theorem dX7_ifFixed_10 : decode cX7_ifFixed 10 = .ok (.ifCond .eq 12, 3) := by decide +kernel
theorem dX7_ifFixed_13 : decode cX7_ifFixed 13 = .ok (.aload_n 0, 1) := by decide +kernel
theorem dX7_ifFixed_14 : decode cX7_ifFixed 14 = .ok (.iload_n 1, 1) := by decide +kernel
theorem dX7_ifFixed_15 : decode cX7_ifFixed 15 = .ok (.iload_n 2, 1) := by decide +kernel
theorem dX7_ifFixed_16 : decode cX7_ifFixed 16 = .ok (.invokevirtual 202, 3) := by decide +kernel
theorem dX7_ifFixed_19 : decode cX7_ifFixed 19 = .ok (.ifCond .ne 9, 3) := by decide +kernel
theorem dX7_ifFixed_22 : decode cX7_ifFixed 22 = .ok (.aload_n 0, 1) := by decide +kernel
theorem dX7_ifFixed_23 : decode cX7_ifFixed 23 = .ok (.iconst 1, 1) := by decide +kernel
theorem dX7_ifFixed_24 : decode cX7_ifFixed 24 = .ok (.invokevirtual 190, 3) := by decide +kernel
theorem dX7_ifFixed_27 : decode cX7_ifFixed 27 = .ok (.ireturn, 1) := by decide +kernel
theorem dX7_ifFixed_28 : decode cX7_ifFixed 28 = .ok (.aload_n 0, 1) := by decide +kernel
theorem dX7_ifFixed_29 : decode cX7_ifFixed 29 = .ok (.invokevirtual 187, 3) := by decide +kernel
theorem dX7_ifFixed_32 : decode cX7_ifFixed 32 = .ok (.aload_n 0, 1) := by decide +kernel
theorem dX7_ifFixed_33 : decode cX7_ifFixed 33 = .ok (.iload_n 1, 1) := by decide +kernel
theorem dX7_ifFixed_34 : decode cX7_ifFixed 34 = .ok (.iload_n 2, 1) := by decide +kernel
theorem dX7_ifFixed_35 : decode cX7_ifFixed 35 = .ok (.invokevirtual 205, 3) := by decide +kernel
theorem dX7_ifFixed_38 : decode cX7_ifFixed 38 = .ok (.ireturn, 1) := by decide +kernel
theorem dX7_asked_0 : decode cX7_asked 0 = .ok (.iconst (-1), 1) := by decide +kernel
theorem dX7_asked_1 : decode cX7_asked 1 = .ok (.istore_n 1, 1) := by decide +kernel
theorem dX7_asked_2 : decode cX7_asked 2 = .ok (.iconst 0, 1) := by decide +kernel
theorem dX7_asked_3 : decode cX7_asked 3 = .ok (.istore_n 2, 1) := by decide +kernel
theorem dX7_asked_4 : decode cX7_asked 4 = .ok (.iconst 0, 1) := by decide +kernel
theorem dX7_asked_5 : decode cX7_asked 5 = .ok (.istore_n 3, 1) := by decide +kernel
theorem dX7_asked_6 : decode cX7_asked 6 = .ok (.iload_n 3, 1) := by decide +kernel
theorem dX7_asked_7 : decode cX7_asked 7 = .ok (.aload_n 0, 1) := by decide +kernel
theorem dX7_asked_8 : decode cX7_asked 8 = .ok (.getfield 7, 3) := by decide +kernel
theorem dX7_asked_11 : decode cX7_asked 11 = .ok (.iconst 0, 1) := by decide +kernel
theorem dX7_asked_12 : decode cX7_asked 12 = .ok (.iaload, 1) := by decide +kernel
theorem dX7_asked_13 : decode cX7_asked 13 = .ok (.if_icmp .ge 68, 3) := by decide +kernel
theorem dX7_asked_16 : decode cX7_asked 16 = .ok (.aload_n 0, 1) := by decide +kernel
theorem dX7_asked_17 : decode cX7_asked 17 = .ok (.iload_n 3, 1) := by decide +kernel
theorem dX7_asked_18 : decode cX7_asked 18 = .ok (.iconst 1, 1) := by decide +kernel
theorem dX7_asked_19 : decode cX7_asked 19 = .ok (.invokevirtual 229, 3) := by decide +kernel
theorem dX7_asked_22 : decode cX7_asked 22 = .ok (.istore 4, 2) := by decide +kernel
theorem dX7_asked_24 : decode cX7_asked 24 = .ok (.aload_n 0, 1) := by decide +kernel
theorem dX7_asked_25 : decode cX7_asked 25 = .ok (.iload_n 3, 1) := by decide +kernel
theorem dX7_asked_26 : decode cX7_asked 26 = .ok (.iconst 0, 1) := by decide +kernel
theorem dX7_asked_27 : decode cX7_asked 27 = .ok (.invokevirtual 229, 3) := by decide +kernel
theorem dX7_asked_30 : decode cX7_asked 30 = .ok (.iconst 1, 1) := by decide +kernel
theorem dX7_asked_31 : decode cX7_asked 31 = .ok (.if_icmp .le 18, 3) := by decide +kernel
theorem dX7_asked_34 : decode cX7_asked 34 = .ok (.iload_n 1, 1) := by decide +kernel
theorem dX7_asked_35 : decode cX7_asked 35 = .ok (.iconst (-1), 1) := by decide +kernel
theorem dX7_asked_36 : decode cX7_asked 36 = .ok (.if_icmp .eq 9, 3) := by decide +kernel
theorem dX7_asked_39 : decode cX7_asked 39 = .ok (.iload 4, 2) := by decide +kernel
theorem dX7_asked_41 : decode cX7_asked 41 = .ok (.iload_n 2, 1) := by decide +kernel
theorem dX7_asked_42 : decode cX7_asked 42 = .ok (.if_icmp .ge 7, 3) := by decide +kernel
theorem dX7_asked_45 : decode cX7_asked 45 = .ok (.iconst 1, 1) := by decide +kernel
theorem dX7_asked_46 : decode cX7_asked 46 = .ok (.goto 4, 3) := by decide +kernel
theorem dX7_asked_49 : decode cX7_asked 49 = .ok (.iconst 0, 1) := by decide +kernel
theorem dX7_asked_50 : decode cX7_asked 50 = .ok (.istore 5, 2) := by decide +kernel
theorem dX7_asked_52 : decode cX7_asked 52 = .ok (.iload 5, 2) := by decide +kernel
theorem dX7_asked_54 : decode cX7_asked 54 = .ok (.ifCond .eq 7, 3) := by decide +kernel
theorem dX7_asked_57 : decode cX7_asked 57 = .ok (.iload_n 3, 1) := by decide +kernel
theorem dX7_asked_58 : decode cX7_asked 58 = .ok (.goto 4, 3) := by decide +kernel
theorem dX7_asked_61 : decode cX7_asked 61 = .ok (.iload_n 1, 1) := by decide +kernel
theorem dX7_asked_62 : decode cX7_asked 62 = .ok (.istore_n 1, 1) := by decide +kernel
theorem dX7_asked_63 : decode cX7_asked 63 = .ok (.iload 5, 2) := by decide +kernel
theorem dX7_asked_65 : decode cX7_asked 65 = .ok (.ifCond .eq 8, 3) := by decide +kernel
theorem dX7_asked_68 : decode cX7_asked 68 = .ok (.iload 4, 2) := by decide +kernel
theorem dX7_asked_70 : decode cX7_asked 70 = .ok (.goto 4, 3) := by decide +kernel
theorem dX7_asked_73 : decode cX7_asked 73 = .ok (.iload_n 2, 1) := by decide +kernel
theorem dX7_asked_74 : decode cX7_asked 74 = .ok (.istore_n 2, 1) := by decide +kernel
theorem dX7_asked_75 : decode cX7_asked 75 = .ok (.iinc 3 1, 3) := by decide +kernel
theorem dX7_asked_78 : decode cX7_asked 78 = .ok (.goto (-72), 3) := by decide +kernel
theorem dX7_asked_81 : decode cX7_asked 81 = .ok (.iload_n 1, 1) := by decide +kernel
theorem dX7_asked_82 : decode cX7_asked 82 = .ok (.ireturn, 1) := by decide +kernel
theorem dX7_question_0 : decode cX7_question 0 = .ok (.aload_n 0, 1) := by decide +kernel
theorem dX7_question_1 : decode cX7_question 1 = .ok (.iconst 0, 1) := by decide +kernel
theorem dX7_question_2 : decode cX7_question 2 = .ok (.putfield 68, 3) := by decide +kernel
theorem dX7_question_5 : decode cX7_question 5 = .ok (.aload_n 0, 1) := by decide +kernel
theorem dX7_question_6 : decode cX7_question 6 = .ok (.invokevirtual 187, 3) := by decide +kernel
theorem dX7_question_9 : decode cX7_question 9 = .ok (.aload_n 0, 1) := by decide +kernel
theorem dX7_question_10 : decode cX7_question 10 = .ok (.invokevirtual 268, 3) := by decide +kernel
theorem dX7_question_13 : decode cX7_question 13 = .ok (.ireturn, 1) := by decide +kernel
theorem dX7_addable_0 : decode cX7_addable 0 = .ok (.aload_n 0, 1) := by decide +kernel
theorem dX7_addable_1 : decode cX7_addable 1 = .ok (.getfield 7, 3) := by decide +kernel
theorem dX7_addable_4 : decode cX7_addable 4 = .ok (.iconst 0, 1) := by decide +kernel
theorem dX7_addable_5 : decode cX7_addable 5 = .ok (.iaload, 1) := by decide +kernel
theorem dX7_addable_6 : decode cX7_addable 6 = .ok (.bipush 12, 2) := by decide +kernel
theorem dX7_addable_8 : decode cX7_addable 8 = .ok (.if_icmp .ne 5, 3) := by decide +kernel
theorem dX7_addable_11 : decode cX7_addable 11 = .ok (.iconst 0, 1) := by decide +kernel
theorem dX7_addable_12 : decode cX7_addable 12 = .ok (.ireturn, 1) := by decide +kernel
theorem dX7_addable_13 : decode cX7_addable 13 = .ok (.iconst 0, 1) := by decide +kernel
theorem dX7_addable_14 : decode cX7_addable 14 = .ok (.istore_n 1, 1) := by decide +kernel
theorem dX7_addable_15 : decode cX7_addable 15 = .ok (.aload_n 0, 1) := by decide +kernel
theorem dX7_addable_16 : decode cX7_addable 16 = .ok (.getfield 7, 3) := by decide +kernel
theorem dX7_addable_19 : decode cX7_addable 19 = .ok (.iconst 0, 1) := by decide +kernel
theorem dX7_addable_20 : decode cX7_addable 20 = .ok (.dup2, 1) := by decide +kernel
theorem dX7_addable_21 : decode cX7_addable 21 = .ok (.iaload, 1) := by decide +kernel
theorem dX7_addable_22 : decode cX7_addable 22 = .ok (.iconst 1, 1) := by decide +kernel
theorem dX7_addable_23 : decode cX7_addable 23 = .ok (.iadd, 1) := by decide +kernel
theorem dX7_addable_24 : decode cX7_addable 24 = .ok (.iastore, 1) := by decide +kernel
theorem dX7_addable_25 : decode cX7_addable 25 = .ok (.iconst 0, 1) := by decide +kernel
theorem dX7_addable_26 : decode cX7_addable 26 = .ok (.istore_n 2, 1) := by decide +kernel
theorem dX7_addable_27 : decode cX7_addable 27 = .ok (.iload_n 2, 1) := by decide +kernel
theorem dX7_addable_28 : decode cX7_addable 28 = .ok (.bipush 7, 2) := by decide +kernel
theorem dX7_addable_30 : decode cX7_addable 30 = .ok (.if_icmp .ge 42, 3) := by decide +kernel
theorem dX7_addable_33 : decode cX7_addable 33 = .ok (.aload_n 0, 1) := by decide +kernel
theorem dX7_addable_34 : decode cX7_addable 34 = .ok (.getfield 7, 3) := by decide +kernel
theorem dX7_addable_37 : decode cX7_addable 37 = .ok (.iconst 2, 1) := by decide +kernel
theorem dX7_addable_38 : decode cX7_addable 38 = .ok (.aload_n 0, 1) := by decide +kernel
theorem dX7_addable_39 : decode cX7_addable 39 = .ok (.getfield 7, 3) := by decide +kernel
theorem dX7_addable_42 : decode cX7_addable 42 = .ok (.iconst 0, 1) := by decide +kernel
theorem dX7_addable_43 : decode cX7_addable 43 = .ok (.iaload, 1) := by decide +kernel
theorem dX7_addable_44 : decode cX7_addable 44 = .ok (.iadd, 1) := by decide +kernel
theorem dX7_addable_45 : decode cX7_addable 45 = .ok (.iconst 1, 1) := by decide +kernel
theorem dX7_addable_46 : decode cX7_addable 46 = .ok (.isub, 1) := by decide +kernel
theorem dX7_addable_47 : decode cX7_addable 47 = .ok (.iload_n 2, 1) := by decide +kernel
theorem dX7_addable_48 : decode cX7_addable 48 = .ok (.iastore, 1) := by decide +kernel
theorem dX7_addable_49 : decode cX7_addable 49 = .ok (.iload_n 1, 1) := by decide +kernel
theorem dX7_addable_50 : decode cX7_addable 50 = .ok (.aload_n 0, 1) := by decide +kernel
theorem dX7_addable_51 : decode cX7_addable 51 = .ok (.invokevirtual 252, 3) := by decide +kernel
theorem dX7_addable_54 : decode cX7_addable 54 = .ok (.ifCond .le 9, 3) := by decide +kernel
theorem dX7_addable_57 : decode cX7_addable 57 = .ok (.iconst 1, 1) := by decide +kernel
theorem dX7_addable_58 : decode cX7_addable 58 = .ok (.iload_n 2, 1) := by decide +kernel
theorem dX7_addable_59 : decode cX7_addable 59 = .ok (.ishl, 1) := by decide +kernel
theorem dX7_addable_60 : decode cX7_addable 60 = .ok (.goto 4, 3) := by decide +kernel
theorem dX7_addable_63 : decode cX7_addable 63 = .ok (.iconst 0, 1) := by decide +kernel
theorem dX7_addable_64 : decode cX7_addable 64 = .ok (.ior, 1) := by decide +kernel
theorem dX7_addable_65 : decode cX7_addable 65 = .ok (.istore_n 1, 1) := by decide +kernel
theorem dX7_addable_66 : decode cX7_addable 66 = .ok (.iinc 2 1, 3) := by decide +kernel
theorem dX7_addable_69 : decode cX7_addable 69 = .ok (.goto (-42), 3) := by decide +kernel
theorem dX7_addable_72 : decode cX7_addable 72 = .ok (.aload_n 0, 1) := by decide +kernel
theorem dX7_addable_73 : decode cX7_addable 73 = .ok (.getfield 7, 3) := by decide +kernel
theorem dX7_addable_76 : decode cX7_addable 76 = .ok (.iconst 2, 1) := by decide +kernel
theorem dX7_addable_77 : decode cX7_addable 77 = .ok (.aload_n 0, 1) := by decide +kernel
theorem dX7_addable_78 : decode cX7_addable 78 = .ok (.getfield 7, 3) := by decide +kernel
theorem dX7_addable_81 : decode cX7_addable 81 = .ok (.iconst 0, 1) := by decide +kernel
theorem dX7_addable_82 : decode cX7_addable 82 = .ok (.iaload, 1) := by decide +kernel
theorem dX7_addable_83 : decode cX7_addable 83 = .ok (.iadd, 1) := by decide +kernel
theorem dX7_addable_84 : decode cX7_addable 84 = .ok (.iconst 1, 1) := by decide +kernel
theorem dX7_addable_85 : decode cX7_addable 85 = .ok (.isub, 1) := by decide +kernel
theorem dX7_addable_86 : decode cX7_addable 86 = .ok (.iconst 0, 1) := by decide +kernel
theorem dX7_addable_87 : decode cX7_addable 87 = .ok (.iastore, 1) := by decide +kernel
theorem dX7_addable_88 : decode cX7_addable 88 = .ok (.aload_n 0, 1) := by decide +kernel
theorem dX7_addable_89 : decode cX7_addable 89 = .ok (.getfield 7, 3) := by decide +kernel
theorem dX7_addable_92 : decode cX7_addable 92 = .ok (.iconst 0, 1) := by decide +kernel
theorem dX7_addable_93 : decode cX7_addable 93 = .ok (.dup2, 1) := by decide +kernel
theorem dX7_addable_94 : decode cX7_addable 94 = .ok (.iaload, 1) := by decide +kernel
theorem dX7_addable_95 : decode cX7_addable 95 = .ok (.iconst 1, 1) := by decide +kernel
theorem dX7_addable_96 : decode cX7_addable 96 = .ok (.isub, 1) := by decide +kernel
theorem dX7_addable_97 : decode cX7_addable 97 = .ok (.iastore, 1) := by decide +kernel
theorem dX7_addable_98 : decode cX7_addable 98 = .ok (.iload_n 1, 1) := by decide +kernel
theorem dX7_addable_99 : decode cX7_addable 99 = .ok (.ireturn, 1) := by decide +kernel
theorem dX7_next_0 : decode cX7_next 0 = .ok (.aload_n 0, 1) := by decide +kernel
theorem dX7_next_1 : decode cX7_next 1 = .ok (.iconst 0, 1) := by decide +kernel
theorem dX7_next_2 : decode cX7_next 2 = .ok (.putfield 68, 3) := by decide +kernel
theorem dX7_next_5 : decode cX7_next 5 = .ok (.aload_n 0, 1) := by decide +kernel
theorem dX7_next_6 : decode cX7_next 6 = .ok (.invokevirtual 271, 3) := by decide +kernel
theorem dX7_next_9 : decode cX7_next 9 = .ok (.ireturn, 1) := by decide +kernel
theorem dX7_sure_0 : decode cX7_sure 0 = .ok (.aload_n 0, 1) := by decide +kernel
theorem dX7_sure_1 : decode cX7_sure 1 = .ok (.getfield 7, 3) := by decide +kernel
theorem dX7_sure_4 : decode cX7_sure 4 = .ok (.iconst 0, 1) := by decide +kernel
theorem dX7_sure_5 : decode cX7_sure 5 = .ok (.iaload, 1) := by decide +kernel
theorem dX7_sure_6 : decode cX7_sure 6 = .ok (.ifCond .ne 7, 3) := by decide +kernel
theorem dX7_sure_9 : decode cX7_sure 9 = .ok (.dconst 1, 1) := by decide +kernel
theorem dX7_sure_10 : decode cX7_sure 10 = .ok (.goto 17, 3) := by decide +kernel
theorem dX7_sure_13 : decode cX7_sure 13 = .ok (.aload_n 0, 1) := by decide +kernel
theorem dX7_sure_14 : decode cX7_sure 14 = .ok (.iconst 0, 1) := by decide +kernel
theorem dX7_sure_15 : decode cX7_sure 15 = .ok (.invokevirtual 258, 3) := by decide +kernel
theorem dX7_sure_18 : decode cX7_sure 18 = .ok (.i2d, 1) := by decide +kernel
theorem dX7_sure_19 : decode cX7_sure 19 = .ok (.aload_n 0, 1) := by decide +kernel
theorem dX7_sure_20 : decode cX7_sure 20 = .ok (.getfield 7, 3) := by decide +kernel
theorem dX7_sure_23 : decode cX7_sure 23 = .ok (.iconst 0, 1) := by decide +kernel
theorem dX7_sure_24 : decode cX7_sure 24 = .ok (.iaload, 1) := by decide +kernel
theorem dX7_sure_25 : decode cX7_sure 25 = .ok (.i2d, 1) := by decide +kernel
theorem dX7_sure_26 : decode cX7_sure 26 = .ok (.ddiv, 1) := by decide +kernel
theorem dX7_sure_27 : decode cX7_sure 27 = .ok (.dreturn, 1) := by decide +kernel
theorem dX7_sureShare_0 : decode cX7_sureShare 0 = .ok (.aload_n 0, 1) := by decide +kernel
theorem dX7_sureShare_1 : decode cX7_sureShare 1 = .ok (.iconst 0, 1) := by decide +kernel
theorem dX7_sureShare_2 : decode cX7_sureShare 2 = .ok (.putfield 68, 3) := by decide +kernel
theorem dX7_sureShare_5 : decode cX7_sureShare 5 = .ok (.aload_n 0, 1) := by decide +kernel
theorem dX7_sureShare_6 : decode cX7_sureShare 6 = .ok (.invokevirtual 187, 3) := by decide +kernel
theorem dX7_sureShare_9 : decode cX7_sureShare 9 = .ok (.aload_n 0, 1) := by decide +kernel
theorem dX7_sureShare_10 : decode cX7_sureShare 10 = .ok (.invokevirtual 274, 3) := by decide +kernel
theorem dX7_sureShare_13 : decode cX7_sureShare 13 = .ok (.dreturn, 1) := by decide +kernel
theorem dX7_hashes_0 : decode cX7_hashes 0 = .ok (.aload_n 0, 1) := by decide +kernel
theorem dX7_hashes_1 : decode cX7_hashes 1 = .ok (.ldc2_w 278, 3) := by decide +kernel
theorem dX7_hashes_4 : decode cX7_hashes 4 = .ok (.aload_n 0, 1) := by decide +kernel
theorem dX7_hashes_5 : decode cX7_hashes 5 = .ok (.getfield 280, 3) := by decide +kernel
theorem dX7_hashes_8 : decode cX7_hashes 8 = .ok (.lmul, 1) := by decide +kernel
theorem dX7_hashes_9 : decode cX7_hashes 9 = .ok (.lload_n 1, 1) := by decide +kernel
theorem dX7_hashes_10 : decode cX7_hashes 10 = .ok (.ladd, 1) := by decide +kernel
theorem dX7_hashes_11 : decode cX7_hashes 11 = .ok (.putfield 280, 3) := by decide +kernel
theorem dX7_hashes_14 : decode cX7_hashes 14 = .ok (.return_, 1) := by decide +kernel
theorem dX7_hashesParts_0 : decode cX7_hashesParts 0 = .ok (.aload_n 0, 1) := by decide +kernel
theorem dX7_hashesParts_1 : decode cX7_hashesParts 1 = .ok (.invokevirtual 184, 3) := by decide +kernel
theorem dX7_hashesParts_4 : decode cX7_hashesParts 4 = .ok (.iconst 0, 1) := by decide +kernel
theorem dX7_hashesParts_5 : decode cX7_hashesParts 5 = .ok (.istore_n 1, 1) := by decide +kernel
theorem dX7_hashesParts_6 : decode cX7_hashesParts 6 = .ok (.iload_n 1, 1) := by decide +kernel
theorem dX7_hashesParts_7 : decode cX7_hashesParts 7 = .ok (.aload_n 0, 1) := by decide +kernel
theorem dX7_hashesParts_8 : decode cX7_hashesParts 8 = .ok (.getfield 7, 3) := by decide +kernel
theorem dX7_hashesParts_11 : decode cX7_hashesParts 11 = .ok (.iconst 0, 1) := by decide +kernel
theorem dX7_hashesParts_12 : decode cX7_hashesParts 12 = .ok (.iaload, 1) := by decide +kernel
theorem dX7_hashesParts_13 : decode cX7_hashesParts 13 = .ok (.if_icmp .ge 36, 3) := by decide +kernel
theorem dX7_hashesParts_16 : decode cX7_hashesParts 16 = .ok (.iconst 0, 1) := by decide +kernel
theorem dX7_hashesParts_17 : decode cX7_hashesParts 17 = .ok (.istore_n 2, 1) := by decide +kernel
theorem dX7_hashesParts_18 : decode cX7_hashesParts 18 = .ok (.iload_n 2, 1) := by decide +kernel
theorem dX7_hashesParts_19 : decode cX7_hashesParts 19 = .ok (.iconst 5, 1) := by decide +kernel
theorem dX7_hashesParts_20 : decode cX7_hashesParts 20 = .ok (.if_icmp .ge 23, 3) := by decide +kernel
theorem dX7_hashesParts_23 : decode cX7_hashesParts 23 = .ok (.aload_n 0, 1) := by decide +kernel
theorem dX7_hashesParts_24 : decode cX7_hashesParts 24 = .ok (.aload_n 0, 1) := by decide +kernel
theorem dX7_hashesParts_25 : decode cX7_hashesParts 25 = .ok (.iconst 0, 1) := by decide +kernel
theorem dX7_hashesParts_26 : decode cX7_hashesParts 26 = .ok (.iload_n 1, 1) := by decide +kernel
theorem dX7_hashesParts_27 : decode cX7_hashesParts 27 = .ok (.iconst 1, 1) := by decide +kernel
theorem dX7_hashesParts_28 : decode cX7_hashesParts 28 = .ok (.iadd, 1) := by decide +kernel
theorem dX7_hashesParts_29 : decode cX7_hashesParts 29 = .ok (.iload_n 2, 1) := by decide +kernel
theorem dX7_hashesParts_30 : decode cX7_hashesParts 30 = .ok (.invokevirtual 265, 3) := by decide +kernel
theorem dX7_hashesParts_33 : decode cX7_hashesParts 33 = .ok (.i2l, 1) := by decide +kernel
theorem dX7_hashesParts_34 : decode cX7_hashesParts 34 = .ok (.invokevirtual 284, 3) := by decide +kernel
theorem dX7_hashesParts_37 : decode cX7_hashesParts 37 = .ok (.iinc 2 1, 3) := by decide +kernel
theorem dX7_hashesParts_40 : decode cX7_hashesParts 40 = .ok (.goto (-22), 3) := by decide +kernel
theorem dX7_hashesParts_43 : decode cX7_hashesParts 43 = .ok (.iinc 1 1, 3) := by decide +kernel
theorem dX7_hashesParts_46 : decode cX7_hashesParts 46 = .ok (.goto (-40), 3) := by decide +kernel
theorem dX7_hashesParts_49 : decode cX7_hashesParts 49 = .ok (.return_, 1) := by decide +kernel
theorem dX7_digest_0 : decode cX7_digest 0 = .ok (.aload_n 0, 1) := by decide +kernel
theorem dX7_digest_1 : decode cX7_digest 1 = .ok (.iconst 0, 1) := by decide +kernel
theorem dX7_digest_2 : decode cX7_digest 2 = .ok (.putfield 68, 3) := by decide +kernel
theorem dX7_digest_5 : decode cX7_digest 5 = .ok (.aload_n 0, 1) := by decide +kernel
theorem dX7_digest_6 : decode cX7_digest 6 = .ok (.ldc2_w 288, 3) := by decide +kernel
theorem dX7_digest_9 : decode cX7_digest 9 = .ok (.putfield 280, 3) := by decide +kernel
theorem dX7_digest_12 : decode cX7_digest 12 = .ok (.aload_n 0, 1) := by decide +kernel
theorem dX7_digest_13 : decode cX7_digest 13 = .ok (.invokevirtual 187, 3) := by decide +kernel
theorem dX7_digest_16 : decode cX7_digest 16 = .ok (.iconst 0, 1) := by decide +kernel
theorem dX7_digest_17 : decode cX7_digest 17 = .ok (.istore_n 1, 1) := by decide +kernel
theorem dX7_digest_18 : decode cX7_digest 18 = .ok (.iload_n 1, 1) := by decide +kernel
theorem dX7_digest_19 : decode cX7_digest 19 = .ok (.bipush 9, 2) := by decide +kernel
theorem dX7_digest_21 : decode cX7_digest 21 = .ok (.if_icmp .ge 19, 3) := by decide +kernel
theorem dX7_digest_24 : decode cX7_digest 24 = .ok (.aload_n 0, 1) := by decide +kernel
theorem dX7_digest_25 : decode cX7_digest 25 = .ok (.aload_n 0, 1) := by decide +kernel
theorem dX7_digest_26 : decode cX7_digest 26 = .ok (.iload_n 1, 1) := by decide +kernel
theorem dX7_digest_27 : decode cX7_digest 27 = .ok (.invokevirtual 262, 3) := by decide +kernel
theorem dX7_digest_30 : decode cX7_digest 30 = .ok (.i2l, 1) := by decide +kernel
theorem dX7_digest_31 : decode cX7_digest 31 = .ok (.invokevirtual 284, 3) := by decide +kernel
theorem dX7_digest_34 : decode cX7_digest 34 = .ok (.iinc 1 1, 3) := by decide +kernel
theorem dX7_digest_37 : decode cX7_digest 37 = .ok (.goto (-19), 3) := by decide +kernel
theorem dX7_digest_40 : decode cX7_digest 40 = .ok (.iconst 0, 1) := by decide +kernel
theorem dX7_digest_41 : decode cX7_digest 41 = .ok (.istore_n 1, 1) := by decide +kernel
theorem dX7_digest_42 : decode cX7_digest 42 = .ok (.iload_n 1, 1) := by decide +kernel
theorem dX7_digest_43 : decode cX7_digest 43 = .ok (.bipush 8, 2) := by decide +kernel
theorem dX7_digest_45 : decode cX7_digest 45 = .ok (.aload_n 0, 1) := by decide +kernel
theorem dX7_digest_46 : decode cX7_digest 46 = .ok (.getfield 7, 3) := by decide +kernel
theorem dX7_digest_49 : decode cX7_digest 49 = .ok (.iconst 0, 1) := by decide +kernel
theorem dX7_digest_50 : decode cX7_digest 50 = .ok (.iaload, 1) := by decide +kernel
theorem dX7_digest_51 : decode cX7_digest 51 = .ok (.imul, 1) := by decide +kernel
theorem dX7_digest_52 : decode cX7_digest 52 = .ok (.if_icmp .ge 26, 3) := by decide +kernel
theorem dX7_digest_55 : decode cX7_digest 55 = .ok (.aload_n 0, 1) := by decide +kernel
theorem dX7_digest_56 : decode cX7_digest 56 = .ok (.aload_n 0, 1) := by decide +kernel
theorem dX7_digest_57 : decode cX7_digest 57 = .ok (.iload_n 1, 1) := by decide +kernel
theorem dX7_digest_58 : decode cX7_digest 58 = .ok (.bipush 8, 2) := by decide +kernel
theorem dX7_digest_60 : decode cX7_digest 60 = .ok (.idiv, 1) := by decide +kernel
theorem dX7_digest_61 : decode cX7_digest 61 = .ok (.iload_n 1, 1) := by decide +kernel
theorem dX7_digest_62 : decode cX7_digest 62 = .ok (.bipush 8, 2) := by decide +kernel
theorem dX7_digest_64 : decode cX7_digest 64 = .ok (.irem, 1) := by decide +kernel
theorem dX7_digest_65 : decode cX7_digest 65 = .ok (.invokevirtual 240, 3) := by decide +kernel
theorem dX7_digest_68 : decode cX7_digest 68 = .ok (.i2l, 1) := by decide +kernel
theorem dX7_digest_69 : decode cX7_digest 69 = .ok (.invokevirtual 284, 3) := by decide +kernel
theorem dX7_digest_72 : decode cX7_digest 72 = .ok (.iinc 1 1, 3) := by decide +kernel
theorem dX7_digest_75 : decode cX7_digest 75 = .ok (.goto (-33), 3) := by decide +kernel
theorem dX7_digest_78 : decode cX7_digest 78 = .ok (.iconst 0, 1) := by decide +kernel
theorem dX7_digest_79 : decode cX7_digest 79 = .ok (.istore_n 1, 1) := by decide +kernel
theorem dX7_digest_80 : decode cX7_digest 80 = .ok (.iload_n 1, 1) := by decide +kernel
theorem dX7_digest_81 : decode cX7_digest 81 = .ok (.bipush 6, 2) := by decide +kernel
theorem dX7_digest_83 : decode cX7_digest 83 = .ok (.aload_n 0, 1) := by decide +kernel
theorem dX7_digest_84 : decode cX7_digest 84 = .ok (.getfield 142, 3) := by decide +kernel
theorem dX7_digest_87 : decode cX7_digest 87 = .ok (.imul, 1) := by decide +kernel
theorem dX7_digest_88 : decode cX7_digest 88 = .ok (.if_icmp .ge 32, 3) := by decide +kernel
theorem dX7_digest_91 : decode cX7_digest 91 = .ok (.iload_n 1, 1) := by decide +kernel
theorem dX7_digest_92 : decode cX7_digest 92 = .ok (.bipush 60, 2) := by decide +kernel
theorem dX7_digest_94 : decode cX7_digest 94 = .ok (.if_icmp .ge 26, 3) := by decide +kernel
theorem dX7_digest_97 : decode cX7_digest 97 = .ok (.aload_n 0, 1) := by decide +kernel
theorem dX7_digest_98 : decode cX7_digest 98 = .ok (.aload_n 0, 1) := by decide +kernel
theorem dX7_digest_99 : decode cX7_digest 99 = .ok (.iload_n 1, 1) := by decide +kernel
theorem dX7_digest_100 : decode cX7_digest 100 = .ok (.bipush 6, 2) := by decide +kernel
theorem dX7_digest_102 : decode cX7_digest 102 = .ok (.idiv, 1) := by decide +kernel
theorem dX7_digest_103 : decode cX7_digest 103 = .ok (.iload_n 1, 1) := by decide +kernel
theorem dX7_digest_104 : decode cX7_digest 104 = .ok (.bipush 6, 2) := by decide +kernel
theorem dX7_digest_106 : decode cX7_digest 106 = .ok (.irem, 1) := by decide +kernel
theorem dX7_digest_107 : decode cX7_digest 107 = .ok (.invokevirtual 249, 3) := by decide +kernel
theorem dX7_digest_110 : decode cX7_digest 110 = .ok (.i2l, 1) := by decide +kernel
theorem dX7_digest_111 : decode cX7_digest 111 = .ok (.invokevirtual 284, 3) := by decide +kernel
theorem dX7_digest_114 : decode cX7_digest 114 = .ok (.iinc 1 1, 3) := by decide +kernel
theorem dX7_digest_117 : decode cX7_digest 117 = .ok (.goto (-37), 3) := by decide +kernel
theorem dX7_digest_120 : decode cX7_digest 120 = .ok (.aload_n 0, 1) := by decide +kernel
theorem dX7_digest_121 : decode cX7_digest 121 = .ok (.invokevirtual 290, 3) := by decide +kernel
theorem dX7_digest_124 : decode cX7_digest 124 = .ok (.aload_n 0, 1) := by decide +kernel
theorem dX7_digest_125 : decode cX7_digest 125 = .ok (.aload_n 0, 1) := by decide +kernel
theorem dX7_digest_126 : decode cX7_digest 126 = .ok (.invokevirtual 268, 3) := by decide +kernel
theorem dX7_digest_129 : decode cX7_digest 129 = .ok (.i2l, 1) := by decide +kernel
theorem dX7_digest_130 : decode cX7_digest 130 = .ok (.invokevirtual 284, 3) := by decide +kernel
theorem dX7_digest_133 : decode cX7_digest 133 = .ok (.aload_n 0, 1) := by decide +kernel
theorem dX7_digest_134 : decode cX7_digest 134 = .ok (.aload_n 0, 1) := by decide +kernel
theorem dX7_digest_135 : decode cX7_digest 135 = .ok (.invokevirtual 271, 3) := by decide +kernel
theorem dX7_digest_138 : decode cX7_digest 138 = .ok (.i2l, 1) := by decide +kernel
theorem dX7_digest_139 : decode cX7_digest 139 = .ok (.invokevirtual 284, 3) := by decide +kernel
theorem dX7_digest_142 : decode cX7_digest 142 = .ok (.aload_n 0, 1) := by decide +kernel
theorem dX7_digest_143 : decode cX7_digest 143 = .ok (.aload_n 0, 1) := by decide +kernel
theorem dX7_digest_144 : decode cX7_digest 144 = .ok (.invokevirtual 274, 3) := by decide +kernel
theorem dX7_digest_147 : decode cX7_digest 147 = .ok (.invokestatic 293, 3) := by decide +kernel
theorem dX7_digest_150 : decode cX7_digest 150 = .ok (.invokevirtual 284, 3) := by decide +kernel
theorem dX7_digest_153 : decode cX7_digest 153 = .ok (.aload_n 0, 1) := by decide +kernel
theorem dX7_digest_154 : decode cX7_digest 154 = .ok (.aload_n 0, 1) := by decide +kernel
theorem dX7_digest_155 : decode cX7_digest 155 = .ok (.getfield 19, 3) := by decide +kernel
theorem dX7_digest_158 : decode cX7_digest 158 = .ok (.iconst 0, 1) := by decide +kernel
theorem dX7_digest_159 : decode cX7_digest 159 = .ok (.baload, 1) := by decide +kernel
theorem dX7_digest_160 : decode cX7_digest 160 = .ok (.ifCond .eq 7, 3) := by decide +kernel
theorem dX7_digest_163 : decode cX7_digest 163 = .ok (.lconst 1, 1) := by decide +kernel
theorem dX7_digest_164 : decode cX7_digest 164 = .ok (.goto 4, 3) := by decide +kernel
theorem dX7_digest_167 : decode cX7_digest 167 = .ok (.lconst 0, 1) := by decide +kernel
theorem dX7_digest_168 : decode cX7_digest 168 = .ok (.invokevirtual 284, 3) := by decide +kernel
theorem dX7_digest_171 : decode cX7_digest 171 = .ok (.aload_n 0, 1) := by decide +kernel
theorem dX7_digest_172 : decode cX7_digest 172 = .ok (.aload_n 0, 1) := by decide +kernel
theorem dX7_digest_173 : decode cX7_digest 173 = .ok (.getfield 19, 3) := by decide +kernel
theorem dX7_digest_176 : decode cX7_digest 176 = .ok (.iconst 1, 1) := by decide +kernel
theorem dX7_digest_177 : decode cX7_digest 177 = .ok (.baload, 1) := by decide +kernel
theorem dX7_digest_178 : decode cX7_digest 178 = .ok (.ifCond .eq 7, 3) := by decide +kernel
theorem dX7_digest_181 : decode cX7_digest 181 = .ok (.lconst 1, 1) := by decide +kernel
theorem dX7_digest_182 : decode cX7_digest 182 = .ok (.goto 4, 3) := by decide +kernel
theorem dX7_digest_185 : decode cX7_digest 185 = .ok (.lconst 0, 1) := by decide +kernel
theorem dX7_digest_186 : decode cX7_digest 186 = .ok (.invokevirtual 284, 3) := by decide +kernel
theorem dX7_digest_189 : decode cX7_digest 189 = .ok (.aload_n 0, 1) := by decide +kernel
theorem dX7_digest_190 : decode cX7_digest 190 = .ok (.aload_n 0, 1) := by decide +kernel
theorem dX7_digest_191 : decode cX7_digest 191 = .ok (.getfield 211, 3) := by decide +kernel
theorem dX7_digest_194 : decode cX7_digest 194 = .ok (.i2l, 1) := by decide +kernel
theorem dX7_digest_195 : decode cX7_digest 195 = .ok (.invokevirtual 284, 3) := by decide +kernel
theorem dX7_digest_198 : decode cX7_digest 198 = .ok (.iconst 0, 1) := by decide +kernel
theorem dX7_digest_199 : decode cX7_digest 199 = .ok (.istore_n 1, 1) := by decide +kernel
theorem dX7_digest_200 : decode cX7_digest 200 = .ok (.iload_n 1, 1) := by decide +kernel
theorem dX7_digest_201 : decode cX7_digest 201 = .ok (.aload_n 0, 1) := by decide +kernel
theorem dX7_digest_202 : decode cX7_digest 202 = .ok (.getfield 211, 3) := by decide +kernel
theorem dX7_digest_205 : decode cX7_digest 205 = .ok (.if_icmp .ge 20, 3) := by decide +kernel
theorem dX7_digest_208 : decode cX7_digest 208 = .ok (.aload_n 0, 1) := by decide +kernel
theorem dX7_digest_209 : decode cX7_digest 209 = .ok (.aload_n 0, 1) := by decide +kernel
theorem dX7_digest_210 : decode cX7_digest 210 = .ok (.getfield 23, 3) := by decide +kernel
theorem dX7_digest_213 : decode cX7_digest 213 = .ok (.iload_n 1, 1) := by decide +kernel
theorem dX7_digest_214 : decode cX7_digest 214 = .ok (.iaload, 1) := by decide +kernel
theorem dX7_digest_215 : decode cX7_digest 215 = .ok (.i2l, 1) := by decide +kernel
theorem dX7_digest_216 : decode cX7_digest 216 = .ok (.invokevirtual 284, 3) := by decide +kernel
theorem dX7_digest_219 : decode cX7_digest 219 = .ok (.iinc 1 1, 3) := by decide +kernel
theorem dX7_digest_222 : decode cX7_digest 222 = .ok (.goto (-22), 3) := by decide +kernel
theorem dX7_digest_225 : decode cX7_digest 225 = .ok (.aload_n 0, 1) := by decide +kernel
theorem dX7_digest_226 : decode cX7_digest 226 = .ok (.getfield 280, 3) := by decide +kernel
theorem dX7_digest_229 : decode cX7_digest 229 = .ok (.lreturn, 1) := by decide +kernel
end
section
theorem dL_add_0 : decode cL_add 0 = .ok (.aload_n 2, 1) := by decide +kernel
theorem dL_add_1 : decode cL_add 1 = .ok (.iconst 0, 1) := by decide +kernel
theorem dL_add_2 : decode cL_add 2 = .ok (.aload_n 0, 1) := by decide +kernel
theorem dL_add_3 : decode cL_add 3 = .ok (.iload_n 1, 1) := by decide +kernel
theorem dL_add_4 : decode cL_add 4 = .ok (.invokevirtual 7, 3) := by decide +kernel
theorem dL_add_7 : decode cL_add 7 = .ok (.i2l, 1) := by decide +kernel
theorem dL_add_8 : decode cL_add 8 = .ok (.lastore, 1) := by decide +kernel
theorem dL_add_9 : decode cL_add 9 = .ok (.goto 9, 3) := by decide +kernel
theorem dL_add_12 : decode cL_add 12 = .ok (.astore_n 3, 1) := by decide +kernel
theorem dL_add_13 : decode cL_add 13 = .ok (.iconst 1, 1) := by decide +kernel
theorem dL_add_14 : decode cL_add 14 = .ok (.ireturn, 1) := by decide +kernel
theorem dL_add_15 : decode cL_add 15 = .ok (.astore_n 3, 1) := by decide +kernel
theorem dL_add_16 : decode cL_add 16 = .ok (.iconst 2, 1) := by decide +kernel
theorem dL_add_17 : decode cL_add 17 = .ok (.ireturn, 1) := by decide +kernel
theorem dL_add_18 : decode cL_add 18 = .ok (.iconst 0, 1) := by decide +kernel
theorem dL_add_19 : decode cL_add 19 = .ok (.ireturn, 1) := by decide +kernel
theorem dL_change_0 : decode cL_change 0 = .ok (.aload_n 3, 1) := by decide +kernel
theorem dL_change_1 : decode cL_change 1 = .ok (.iconst 0, 1) := by decide +kernel
theorem dL_change_2 : decode cL_change 2 = .ok (.aload_n 0, 1) := by decide +kernel
theorem dL_change_3 : decode cL_change 3 = .ok (.iload_n 1, 1) := by decide +kernel
theorem dL_change_4 : decode cL_change 4 = .ok (.iload_n 2, 1) := by decide +kernel
theorem dL_change_5 : decode cL_change 5 = .ok (.invokevirtual 17, 3) := by decide +kernel
theorem dL_change_8 : decode cL_change 8 = .ok (.i2l, 1) := by decide +kernel
theorem dL_change_9 : decode cL_change 9 = .ok (.lastore, 1) := by decide +kernel
theorem dL_change_10 : decode cL_change 10 = .ok (.goto 11, 3) := by decide +kernel
theorem dL_change_13 : decode cL_change 13 = .ok (.astore 4, 2) := by decide +kernel
theorem dL_change_15 : decode cL_change 15 = .ok (.iconst 1, 1) := by decide +kernel
theorem dL_change_16 : decode cL_change 16 = .ok (.ireturn, 1) := by decide +kernel
theorem dL_change_17 : decode cL_change 17 = .ok (.astore 4, 2) := by decide +kernel
theorem dL_change_19 : decode cL_change 19 = .ok (.iconst 2, 1) := by decide +kernel
theorem dL_change_20 : decode cL_change 20 = .ok (.ireturn, 1) := by decide +kernel
theorem dL_change_21 : decode cL_change 21 = .ok (.iconst 0, 1) := by decide +kernel
theorem dL_change_22 : decode cL_change 22 = .ok (.ireturn, 1) := by decide +kernel
theorem dL_wipe_0 : decode cL_wipe 0 = .ok (.aload_n 2, 1) := by decide +kernel
theorem dL_wipe_1 : decode cL_wipe 1 = .ok (.iconst 0, 1) := by decide +kernel
theorem dL_wipe_2 : decode cL_wipe 2 = .ok (.aload_n 0, 1) := by decide +kernel
theorem dL_wipe_3 : decode cL_wipe 3 = .ok (.iload_n 1, 1) := by decide +kernel
theorem dL_wipe_4 : decode cL_wipe 4 = .ok (.invokevirtual 23, 3) := by decide +kernel
theorem dL_wipe_7 : decode cL_wipe 7 = .ok (.i2l, 1) := by decide +kernel
theorem dL_wipe_8 : decode cL_wipe 8 = .ok (.lastore, 1) := by decide +kernel
theorem dL_wipe_9 : decode cL_wipe 9 = .ok (.goto 6, 3) := by decide +kernel
theorem dL_wipe_12 : decode cL_wipe 12 = .ok (.astore_n 3, 1) := by decide +kernel
theorem dL_wipe_13 : decode cL_wipe 13 = .ok (.iconst 1, 1) := by decide +kernel
theorem dL_wipe_14 : decode cL_wipe 14 = .ok (.ireturn, 1) := by decide +kernel
theorem dL_wipe_15 : decode cL_wipe 15 = .ok (.iconst 0, 1) := by decide +kernel
theorem dL_wipe_16 : decode cL_wipe 16 = .ok (.ireturn, 1) := by decide +kernel
theorem dL_fix_0 : decode cL_fix 0 = .ok (.aload_n 3, 1) := by decide +kernel
theorem dL_fix_1 : decode cL_fix 1 = .ok (.iconst 0, 1) := by decide +kernel
theorem dL_fix_2 : decode cL_fix 2 = .ok (.aload_n 0, 1) := by decide +kernel
theorem dL_fix_3 : decode cL_fix 3 = .ok (.iload_n 1, 1) := by decide +kernel
theorem dL_fix_4 : decode cL_fix 4 = .ok (.iload_n 2, 1) := by decide +kernel
theorem dL_fix_5 : decode cL_fix 5 = .ok (.invokevirtual 26, 3) := by decide +kernel
theorem dL_fix_8 : decode cL_fix 8 = .ok (.i2l, 1) := by decide +kernel
theorem dL_fix_9 : decode cL_fix 9 = .ok (.lastore, 1) := by decide +kernel
theorem dL_fix_10 : decode cL_fix 10 = .ok (.goto 11, 3) := by decide +kernel
theorem dL_fix_13 : decode cL_fix 13 = .ok (.astore 4, 2) := by decide +kernel
theorem dL_fix_15 : decode cL_fix 15 = .ok (.iconst 1, 1) := by decide +kernel
theorem dL_fix_16 : decode cL_fix 16 = .ok (.ireturn, 1) := by decide +kernel
theorem dL_fix_17 : decode cL_fix 17 = .ok (.astore 4, 2) := by decide +kernel
theorem dL_fix_19 : decode cL_fix 19 = .ok (.iconst 2, 1) := by decide +kernel
theorem dL_fix_20 : decode cL_fix 20 = .ok (.ireturn, 1) := by decide +kernel
theorem dL_fix_21 : decode cL_fix 21 = .ok (.iconst 0, 1) := by decide +kernel
theorem dL_fix_22 : decode cL_fix 22 = .ok (.ireturn, 1) := by decide +kernel
theorem dL_loosen_0 : decode cL_loosen 0 = .ok (.aload_n 2, 1) := by decide +kernel
theorem dL_loosen_1 : decode cL_loosen 1 = .ok (.iconst 0, 1) := by decide +kernel
theorem dL_loosen_2 : decode cL_loosen 2 = .ok (.aload_n 0, 1) := by decide +kernel
theorem dL_loosen_3 : decode cL_loosen 3 = .ok (.iload_n 1, 1) := by decide +kernel
theorem dL_loosen_4 : decode cL_loosen 4 = .ok (.invokevirtual 29, 3) := by decide +kernel
theorem dL_loosen_7 : decode cL_loosen 7 = .ok (.i2l, 1) := by decide +kernel
theorem dL_loosen_8 : decode cL_loosen 8 = .ok (.lastore, 1) := by decide +kernel
theorem dL_loosen_9 : decode cL_loosen 9 = .ok (.goto 6, 3) := by decide +kernel
theorem dL_loosen_12 : decode cL_loosen 12 = .ok (.astore_n 3, 1) := by decide +kernel
theorem dL_loosen_13 : decode cL_loosen 13 = .ok (.iconst 1, 1) := by decide +kernel
theorem dL_loosen_14 : decode cL_loosen 14 = .ok (.ireturn, 1) := by decide +kernel
theorem dL_loosen_15 : decode cL_loosen 15 = .ok (.iconst 0, 1) := by decide +kernel
theorem dL_loosen_16 : decode cL_loosen 16 = .ok (.ireturn, 1) := by decide +kernel
theorem dL_draw_0 : decode cL_draw 0 = .ok (.aload_n 2, 1) := by decide +kernel
theorem dL_draw_1 : decode cL_draw 1 = .ok (.iconst 0, 1) := by decide +kernel
theorem dL_draw_2 : decode cL_draw 2 = .ok (.aload_n 0, 1) := by decide +kernel
theorem dL_draw_3 : decode cL_draw 3 = .ok (.iload_n 1, 1) := by decide +kernel
theorem dL_draw_4 : decode cL_draw 4 = .ok (.invokevirtual 32, 3) := by decide +kernel
theorem dL_draw_7 : decode cL_draw 7 = .ok (.i2l, 1) := by decide +kernel
theorem dL_draw_8 : decode cL_draw 8 = .ok (.lastore, 1) := by decide +kernel
theorem dL_draw_9 : decode cL_draw 9 = .ok (.goto 6, 3) := by decide +kernel
theorem dL_draw_12 : decode cL_draw 12 = .ok (.astore_n 3, 1) := by decide +kernel
theorem dL_draw_13 : decode cL_draw 13 = .ok (.iconst 1, 1) := by decide +kernel
theorem dL_draw_14 : decode cL_draw 14 = .ok (.ireturn, 1) := by decide +kernel
theorem dL_draw_15 : decode cL_draw 15 = .ok (.iconst 0, 1) := by decide +kernel
theorem dL_draw_16 : decode cL_draw 16 = .ok (.ireturn, 1) := by decide +kernel
theorem dL_flatten_0 : decode cL_flatten 0 = .ok (.aload_n 1, 1) := by decide +kernel
theorem dL_flatten_1 : decode cL_flatten 1 = .ok (.iconst 0, 1) := by decide +kernel
theorem dL_flatten_2 : decode cL_flatten 2 = .ok (.aload_n 0, 1) := by decide +kernel
theorem dL_flatten_3 : decode cL_flatten 3 = .ok (.invokevirtual 35, 3) := by decide +kernel
theorem dL_flatten_6 : decode cL_flatten 6 = .ok (.i2l, 1) := by decide +kernel
theorem dL_flatten_7 : decode cL_flatten 7 = .ok (.lastore, 1) := by decide +kernel
theorem dL_flatten_8 : decode cL_flatten 8 = .ok (.goto 6, 3) := by decide +kernel
theorem dL_flatten_11 : decode cL_flatten 11 = .ok (.astore_n 2, 1) := by decide +kernel
theorem dL_flatten_12 : decode cL_flatten 12 = .ok (.iconst 1, 1) := by decide +kernel
theorem dL_flatten_13 : decode cL_flatten 13 = .ok (.ireturn, 1) := by decide +kernel
theorem dL_flatten_14 : decode cL_flatten 14 = .ok (.iconst 0, 1) := by decide +kernel
theorem dL_flatten_15 : decode cL_flatten 15 = .ok (.ireturn, 1) := by decide +kernel
theorem dL_append_0 : decode cL_append 0 = .ok (.aload_n 2, 1) := by decide +kernel
theorem dL_append_1 : decode cL_append 1 = .ok (.iconst 0, 1) := by decide +kernel
theorem dL_append_2 : decode cL_append 2 = .ok (.aload_n 0, 1) := by decide +kernel
theorem dL_append_3 : decode cL_append 3 = .ok (.iload_n 1, 1) := by decide +kernel
theorem dL_append_4 : decode cL_append 4 = .ok (.invokevirtual 39, 3) := by decide +kernel
theorem dL_append_7 : decode cL_append 7 = .ok (.i2l, 1) := by decide +kernel
theorem dL_append_8 : decode cL_append 8 = .ok (.lastore, 1) := by decide +kernel
theorem dL_append_9 : decode cL_append 9 = .ok (.goto 9, 3) := by decide +kernel
theorem dL_append_12 : decode cL_append 12 = .ok (.astore_n 3, 1) := by decide +kernel
theorem dL_append_13 : decode cL_append 13 = .ok (.iconst 1, 1) := by decide +kernel
theorem dL_append_14 : decode cL_append 14 = .ok (.ireturn, 1) := by decide +kernel
theorem dL_append_15 : decode cL_append 15 = .ok (.astore_n 3, 1) := by decide +kernel
theorem dL_append_16 : decode cL_append 16 = .ok (.iconst 2, 1) := by decide +kernel
theorem dL_append_17 : decode cL_append 17 = .ok (.ireturn, 1) := by decide +kernel
theorem dL_append_18 : decode cL_append 18 = .ok (.iconst 0, 1) := by decide +kernel
theorem dL_append_19 : decode cL_append 19 = .ok (.ireturn, 1) := by decide +kernel
theorem dL_load_0 : decode cL_load 0 = .ok (.aload_n 1, 1) := by decide +kernel
theorem dL_load_1 : decode cL_load 1 = .ok (.iconst 0, 1) := by decide +kernel
theorem dL_load_2 : decode cL_load 2 = .ok (.aload_n 0, 1) := by decide +kernel
theorem dL_load_3 : decode cL_load 3 = .ok (.invokevirtual 42, 3) := by decide +kernel
theorem dL_load_6 : decode cL_load 6 = .ok (.i2l, 1) := by decide +kernel
theorem dL_load_7 : decode cL_load 7 = .ok (.lastore, 1) := by decide +kernel
theorem dL_load_8 : decode cL_load 8 = .ok (.goto 6, 3) := by decide +kernel
theorem dL_load_11 : decode cL_load 11 = .ok (.astore_n 2, 1) := by decide +kernel
theorem dL_load_12 : decode cL_load 12 = .ok (.iconst 1, 1) := by decide +kernel
theorem dL_load_13 : decode cL_load 13 = .ok (.ireturn, 1) := by decide +kernel
theorem dL_load_14 : decode cL_load 14 = .ok (.iconst 0, 1) := by decide +kernel
theorem dL_load_15 : decode cL_load 15 = .ok (.ireturn, 1) := by decide +kernel
theorem dL_write_0 : decode cL_write 0 = .ok (.aload_n 1, 1) := by decide +kernel
theorem dL_write_1 : decode cL_write 1 = .ok (.iconst 0, 1) := by decide +kernel
theorem dL_write_2 : decode cL_write 2 = .ok (.aload_n 0, 1) := by decide +kernel
theorem dL_write_3 : decode cL_write 3 = .ok (.invokevirtual 45, 3) := by decide +kernel
theorem dL_write_6 : decode cL_write 6 = .ok (.i2l, 1) := by decide +kernel
theorem dL_write_7 : decode cL_write 7 = .ok (.lastore, 1) := by decide +kernel
theorem dL_write_8 : decode cL_write 8 = .ok (.goto 6, 3) := by decide +kernel
theorem dL_write_11 : decode cL_write 11 = .ok (.astore_n 2, 1) := by decide +kernel
theorem dL_write_12 : decode cL_write 12 = .ok (.iconst 1, 1) := by decide +kernel
theorem dL_write_13 : decode cL_write 13 = .ok (.ireturn, 1) := by decide +kernel
theorem dL_write_14 : decode cL_write 14 = .ok (.iconst 0, 1) := by decide +kernel
theorem dL_write_15 : decode cL_write 15 = .ok (.ireturn, 1) := by decide +kernel
theorem dL_keep_0 : decode cL_keep 0 = .ok (.aload_n 2, 1) := by decide +kernel
theorem dL_keep_1 : decode cL_keep 1 = .ok (.iconst 0, 1) := by decide +kernel
theorem dL_keep_2 : decode cL_keep 2 = .ok (.aload_n 0, 1) := by decide +kernel
theorem dL_keep_3 : decode cL_keep 3 = .ok (.iload_n 1, 1) := by decide +kernel
theorem dL_keep_4 : decode cL_keep 4 = .ok (.invokevirtual 48, 3) := by decide +kernel
theorem dL_keep_7 : decode cL_keep 7 = .ok (.i2l, 1) := by decide +kernel
theorem dL_keep_8 : decode cL_keep 8 = .ok (.lastore, 1) := by decide +kernel
theorem dL_keep_9 : decode cL_keep 9 = .ok (.goto 6, 3) := by decide +kernel
theorem dL_keep_12 : decode cL_keep 12 = .ok (.astore_n 3, 1) := by decide +kernel
theorem dL_keep_13 : decode cL_keep 13 = .ok (.iconst 1, 1) := by decide +kernel
theorem dL_keep_14 : decode cL_keep 14 = .ok (.ireturn, 1) := by decide +kernel
theorem dL_keep_15 : decode cL_keep 15 = .ok (.iconst 0, 1) := by decide +kernel
theorem dL_keep_16 : decode cL_keep 16 = .ok (.ireturn, 1) := by decide +kernel
theorem dL_goBack_0 : decode cL_goBack 0 = .ok (.aload_n 2, 1) := by decide +kernel
theorem dL_goBack_1 : decode cL_goBack 1 = .ok (.iconst 0, 1) := by decide +kernel
theorem dL_goBack_2 : decode cL_goBack 2 = .ok (.aload_n 0, 1) := by decide +kernel
theorem dL_goBack_3 : decode cL_goBack 3 = .ok (.iload_n 1, 1) := by decide +kernel
theorem dL_goBack_4 : decode cL_goBack 4 = .ok (.invokevirtual 51, 3) := by decide +kernel
theorem dL_goBack_7 : decode cL_goBack 7 = .ok (.i2l, 1) := by decide +kernel
theorem dL_goBack_8 : decode cL_goBack 8 = .ok (.lastore, 1) := by decide +kernel
theorem dL_goBack_9 : decode cL_goBack 9 = .ok (.goto 9, 3) := by decide +kernel
theorem dL_goBack_12 : decode cL_goBack 12 = .ok (.astore_n 3, 1) := by decide +kernel
theorem dL_goBack_13 : decode cL_goBack 13 = .ok (.iconst 1, 1) := by decide +kernel
theorem dL_goBack_14 : decode cL_goBack 14 = .ok (.ireturn, 1) := by decide +kernel
theorem dL_goBack_15 : decode cL_goBack 15 = .ok (.astore_n 3, 1) := by decide +kernel
theorem dL_goBack_16 : decode cL_goBack 16 = .ok (.iconst 2, 1) := by decide +kernel
theorem dL_goBack_17 : decode cL_goBack 17 = .ok (.ireturn, 1) := by decide +kernel
theorem dL_goBack_18 : decode cL_goBack 18 = .ok (.iconst 0, 1) := by decide +kernel
theorem dL_goBack_19 : decode cL_goBack 19 = .ok (.ireturn, 1) := by decide +kernel
theorem dL_undo_0 : decode cL_undo 0 = .ok (.aload_n 1, 1) := by decide +kernel
theorem dL_undo_1 : decode cL_undo 1 = .ok (.iconst 0, 1) := by decide +kernel
theorem dL_undo_2 : decode cL_undo 2 = .ok (.aload_n 0, 1) := by decide +kernel
theorem dL_undo_3 : decode cL_undo 3 = .ok (.invokevirtual 54, 3) := by decide +kernel
theorem dL_undo_6 : decode cL_undo 6 = .ok (.i2l, 1) := by decide +kernel
theorem dL_undo_7 : decode cL_undo 7 = .ok (.lastore, 1) := by decide +kernel
theorem dL_undo_8 : decode cL_undo 8 = .ok (.goto 6, 3) := by decide +kernel
theorem dL_undo_11 : decode cL_undo 11 = .ok (.astore_n 2, 1) := by decide +kernel
theorem dL_undo_12 : decode cL_undo 12 = .ok (.iconst 1, 1) := by decide +kernel
theorem dL_undo_13 : decode cL_undo 13 = .ok (.ireturn, 1) := by decide +kernel
theorem dL_undo_14 : decode cL_undo 14 = .ok (.iconst 0, 1) := by decide +kernel
theorem dL_undo_15 : decode cL_undo 15 = .ok (.ireturn, 1) := by decide +kernel
theorem dL_wordOf_0 : decode cL_wordOf 0 = .ok (.aload_n 3, 1) := by decide +kernel
theorem dL_wordOf_1 : decode cL_wordOf 1 = .ok (.iconst 0, 1) := by decide +kernel
theorem dL_wordOf_2 : decode cL_wordOf 2 = .ok (.aload_n 0, 1) := by decide +kernel
theorem dL_wordOf_3 : decode cL_wordOf 3 = .ok (.iload_n 1, 1) := by decide +kernel
theorem dL_wordOf_4 : decode cL_wordOf 4 = .ok (.iload_n 2, 1) := by decide +kernel
theorem dL_wordOf_5 : decode cL_wordOf 5 = .ok (.invokevirtual 57, 3) := by decide +kernel
theorem dL_wordOf_8 : decode cL_wordOf 8 = .ok (.i2l, 1) := by decide +kernel
theorem dL_wordOf_9 : decode cL_wordOf 9 = .ok (.lastore, 1) := by decide +kernel
theorem dL_wordOf_10 : decode cL_wordOf 10 = .ok (.goto 11, 3) := by decide +kernel
theorem dL_wordOf_13 : decode cL_wordOf 13 = .ok (.astore 4, 2) := by decide +kernel
theorem dL_wordOf_15 : decode cL_wordOf 15 = .ok (.iconst 1, 1) := by decide +kernel
theorem dL_wordOf_16 : decode cL_wordOf 16 = .ok (.ireturn, 1) := by decide +kernel
theorem dL_wordOf_17 : decode cL_wordOf 17 = .ok (.astore 4, 2) := by decide +kernel
theorem dL_wordOf_19 : decode cL_wordOf 19 = .ok (.iconst 2, 1) := by decide +kernel
theorem dL_wordOf_20 : decode cL_wordOf 20 = .ok (.ireturn, 1) := by decide +kernel
theorem dL_wordOf_21 : decode cL_wordOf 21 = .ok (.iconst 0, 1) := by decide +kernel
theorem dL_wordOf_22 : decode cL_wordOf 22 = .ok (.ireturn, 1) := by decide +kernel
theorem dL_readingOf_0 : decode cL_readingOf 0 = .ok (.aload_n 3, 1) := by decide +kernel
theorem dL_readingOf_1 : decode cL_readingOf 1 = .ok (.iconst 0, 1) := by decide +kernel
theorem dL_readingOf_2 : decode cL_readingOf 2 = .ok (.aload_n 0, 1) := by decide +kernel
theorem dL_readingOf_3 : decode cL_readingOf 3 = .ok (.iload_n 1, 1) := by decide +kernel
theorem dL_readingOf_4 : decode cL_readingOf 4 = .ok (.iload_n 2, 1) := by decide +kernel
theorem dL_readingOf_5 : decode cL_readingOf 5 = .ok (.invokevirtual 60, 3) := by decide +kernel
theorem dL_readingOf_8 : decode cL_readingOf 8 = .ok (.i2l, 1) := by decide +kernel
theorem dL_readingOf_9 : decode cL_readingOf 9 = .ok (.lastore, 1) := by decide +kernel
theorem dL_readingOf_10 : decode cL_readingOf 10 = .ok (.goto 11, 3) := by decide +kernel
theorem dL_readingOf_13 : decode cL_readingOf 13 = .ok (.astore 4, 2) := by decide +kernel
theorem dL_readingOf_15 : decode cL_readingOf 15 = .ok (.iconst 1, 1) := by decide +kernel
theorem dL_readingOf_16 : decode cL_readingOf 16 = .ok (.ireturn, 1) := by decide +kernel
theorem dL_readingOf_17 : decode cL_readingOf 17 = .ok (.astore 4, 2) := by decide +kernel
theorem dL_readingOf_19 : decode cL_readingOf 19 = .ok (.iconst 2, 1) := by decide +kernel
theorem dL_readingOf_20 : decode cL_readingOf 20 = .ok (.ireturn, 1) := by decide +kernel
theorem dL_readingOf_21 : decode cL_readingOf 21 = .ok (.iconst 0, 1) := by decide +kernel
theorem dL_readingOf_22 : decode cL_readingOf 22 = .ok (.ireturn, 1) := by decide +kernel
theorem dL_count_0 : decode cL_count 0 = .ok (.aload_n 2, 1) := by decide +kernel
theorem dL_count_1 : decode cL_count 1 = .ok (.iconst 0, 1) := by decide +kernel
theorem dL_count_2 : decode cL_count 2 = .ok (.aload_n 0, 1) := by decide +kernel
theorem dL_count_3 : decode cL_count 3 = .ok (.iload_n 1, 1) := by decide +kernel
theorem dL_count_4 : decode cL_count 4 = .ok (.invokevirtual 63, 3) := by decide +kernel
theorem dL_count_7 : decode cL_count 7 = .ok (.i2l, 1) := by decide +kernel
theorem dL_count_8 : decode cL_count 8 = .ok (.lastore, 1) := by decide +kernel
theorem dL_count_9 : decode cL_count 9 = .ok (.goto 6, 3) := by decide +kernel
theorem dL_count_12 : decode cL_count 12 = .ok (.astore_n 3, 1) := by decide +kernel
theorem dL_count_13 : decode cL_count 13 = .ok (.iconst 1, 1) := by decide +kernel
theorem dL_count_14 : decode cL_count 14 = .ok (.ireturn, 1) := by decide +kernel
theorem dL_count_15 : decode cL_count 15 = .ok (.iconst 0, 1) := by decide +kernel
theorem dL_count_16 : decode cL_count 16 = .ok (.ireturn, 1) := by decide +kernel
theorem dL_part_0 : decode cL_part 0 = .ok (.aload 4, 2) := by decide +kernel
theorem dL_part_2 : decode cL_part 2 = .ok (.iconst 0, 1) := by decide +kernel
theorem dL_part_3 : decode cL_part 3 = .ok (.aload_n 0, 1) := by decide +kernel
theorem dL_part_4 : decode cL_part 4 = .ok (.iload_n 1, 1) := by decide +kernel
theorem dL_part_5 : decode cL_part 5 = .ok (.iload_n 2, 1) := by decide +kernel
theorem dL_part_6 : decode cL_part 6 = .ok (.iload_n 3, 1) := by decide +kernel
theorem dL_part_7 : decode cL_part 7 = .ok (.invokevirtual 66, 3) := by decide +kernel
theorem dL_part_10 : decode cL_part 10 = .ok (.i2l, 1) := by decide +kernel
theorem dL_part_11 : decode cL_part 11 = .ok (.lastore, 1) := by decide +kernel
theorem dL_part_12 : decode cL_part 12 = .ok (.goto 11, 3) := by decide +kernel
theorem dL_part_15 : decode cL_part 15 = .ok (.astore 5, 2) := by decide +kernel
theorem dL_part_17 : decode cL_part 17 = .ok (.iconst 1, 1) := by decide +kernel
theorem dL_part_18 : decode cL_part 18 = .ok (.ireturn, 1) := by decide +kernel
theorem dL_part_19 : decode cL_part 19 = .ok (.astore 5, 2) := by decide +kernel
theorem dL_part_21 : decode cL_part 21 = .ok (.iconst 2, 1) := by decide +kernel
theorem dL_part_22 : decode cL_part 22 = .ok (.ireturn, 1) := by decide +kernel
theorem dL_part_23 : decode cL_part 23 = .ok (.iconst 0, 1) := by decide +kernel
theorem dL_part_24 : decode cL_part 24 = .ok (.ireturn, 1) := by decide +kernel
theorem dL_ifFixed_0 : decode cL_ifFixed 0 = .ok (.aload_n 3, 1) := by decide +kernel
theorem dL_ifFixed_1 : decode cL_ifFixed 1 = .ok (.iconst 0, 1) := by decide +kernel
theorem dL_ifFixed_2 : decode cL_ifFixed 2 = .ok (.aload_n 0, 1) := by decide +kernel
theorem dL_ifFixed_3 : decode cL_ifFixed 3 = .ok (.iload_n 1, 1) := by decide +kernel
theorem dL_ifFixed_4 : decode cL_ifFixed 4 = .ok (.iload_n 2, 1) := by decide +kernel
theorem dL_ifFixed_5 : decode cL_ifFixed 5 = .ok (.invokevirtual 70, 3) := by decide +kernel
theorem dL_ifFixed_8 : decode cL_ifFixed 8 = .ok (.i2l, 1) := by decide +kernel
theorem dL_ifFixed_9 : decode cL_ifFixed 9 = .ok (.lastore, 1) := by decide +kernel
theorem dL_ifFixed_10 : decode cL_ifFixed 10 = .ok (.goto 7, 3) := by decide +kernel
theorem dL_ifFixed_13 : decode cL_ifFixed 13 = .ok (.astore 4, 2) := by decide +kernel
theorem dL_ifFixed_15 : decode cL_ifFixed 15 = .ok (.iconst 1, 1) := by decide +kernel
theorem dL_ifFixed_16 : decode cL_ifFixed 16 = .ok (.ireturn, 1) := by decide +kernel
theorem dL_ifFixed_17 : decode cL_ifFixed 17 = .ok (.iconst 0, 1) := by decide +kernel
theorem dL_ifFixed_18 : decode cL_ifFixed 18 = .ok (.ireturn, 1) := by decide +kernel
theorem dL_law_0 : decode cL_law 0 = .ok (.new 8, 3) := by decide +kernel
theorem dL_law_3 : decode cL_law 3 = .ok (.dup, 1) := by decide +kernel
theorem dL_law_4 : decode cL_law 4 = .ok (.invokespecial 73, 3) := by decide +kernel
theorem dL_law_7 : decode cL_law 7 = .ok (.astore_n 1, 1) := by decide +kernel
theorem dL_law_8 : decode cL_law 8 = .ok (.new 74, 3) := by decide +kernel
theorem dL_law_11 : decode cL_law 11 = .ok (.dup, 1) := by decide +kernel
theorem dL_law_12 : decode cL_law 12 = .ok (.invokespecial 76, 3) := by decide +kernel
theorem dL_law_15 : decode cL_law 15 = .ok (.astore_n 2, 1) := by decide +kernel
theorem dL_law_16 : decode cL_law 16 = .ok (.iconst 1, 1) := by decide +kernel
theorem dL_law_17 : decode cL_law 17 = .ok (.newarray .long, 2) := by decide +kernel
theorem dL_law_19 : decode cL_law 19 = .ok (.astore_n 3, 1) := by decide +kernel
theorem dL_law_20 : decode cL_law 20 = .ok (.iconst 0, 1) := by decide +kernel
theorem dL_law_21 : decode cL_law 21 = .ok (.istore 4, 2) := by decide +kernel
theorem dL_law_23 : decode cL_law 23 = .ok (.iload 4, 2) := by decide +kernel
theorem dL_law_25 : decode cL_law 25 = .ok (.aload_n 0, 1) := by decide +kernel
theorem dL_law_26 : decode cL_law 26 = .ok (.arraylength, 1) := by decide +kernel
theorem dL_law_27 : decode cL_law 27 = .ok (.iconst 4, 1) := by decide +kernel
theorem dL_law_28 : decode cL_law 28 = .ok (.isub, 1) := by decide +kernel
theorem dL_law_29 : decode cL_law 29 = .ok (.if_icmp .gt 1276, 3) := by decide +kernel
theorem dL_law_32 : decode cL_law 32 = .ok (.aload_n 0, 1) := by decide +kernel
theorem dL_law_33 : decode cL_law 33 = .ok (.iload 4, 2) := by decide +kernel
theorem dL_law_35 : decode cL_law 35 = .ok (.iaload, 1) := by decide +kernel
theorem dL_law_36 : decode cL_law 36 = .ok (.bipush 31, 2) := by decide +kernel
theorem dL_law_38 : decode cL_law 38 = .ok (.iand, 1) := by decide +kernel
theorem dL_law_39 : decode cL_law 39 = .ok (.tableswitch 1260 0 23 #[109, 165, 233, 289, 357, 413, 469, 513, 569, 582, 595, 639, 683, 739, 795, 839, 907, 975, 1031, 1111, 1179, 1192, 1205, 1246], 109) := by decide +kernel
theorem dL_law_148 : decode cL_law 148 = .ok (.aload_n 1, 1) := by decide +kernel
theorem dL_law_149 : decode cL_law 149 = .ok (.aload_n 0, 1) := by decide +kernel
theorem dL_law_150 : decode cL_law 150 = .ok (.iload 4, 2) := by decide +kernel
theorem dL_law_152 : decode cL_law 152 = .ok (.iconst 1, 1) := by decide +kernel
theorem dL_law_153 : decode cL_law 153 = .ok (.iadd, 1) := by decide +kernel
theorem dL_law_154 : decode cL_law 154 = .ok (.iaload, 1) := by decide +kernel
theorem dL_law_155 : decode cL_law 155 = .ok (.aload_n 3, 1) := by decide +kernel
theorem dL_law_156 : decode cL_law 156 = .ok (.invokestatic 77, 3) := by decide +kernel
theorem dL_law_159 : decode cL_law 159 = .ok (.istore 5, 2) := by decide +kernel
theorem dL_law_161 : decode cL_law 161 = .ok (.aload_n 2, 1) := by decide +kernel
theorem dL_law_162 : decode cL_law 162 = .ok (.aload_n 0, 1) := by decide +kernel
theorem dL_law_163 : decode cL_law 163 = .ok (.iload 4, 2) := by decide +kernel
theorem dL_law_165 : decode cL_law 165 = .ok (.iconst 1, 1) := by decide +kernel
theorem dL_law_166 : decode cL_law 166 = .ok (.iadd, 1) := by decide +kernel
theorem dL_law_167 : decode cL_law 167 = .ok (.iaload, 1) := by decide +kernel
theorem dL_law_168 : decode cL_law 168 = .ok (.invokevirtual 82, 3) := by decide +kernel
theorem dL_law_171 : decode cL_law 171 = .ok (.istore 6, 2) := by decide +kernel
theorem dL_law_173 : decode cL_law 173 = .ok (.aload_n 2, 1) := by decide +kernel
theorem dL_law_174 : decode cL_law 174 = .ok (.invokevirtual 83, 3) := by decide +kernel
theorem dL_law_177 : decode cL_law 177 = .ok (.iload 5, 2) := by decide +kernel
theorem dL_law_179 : decode cL_law 179 = .ok (.if_icmp .eq 5, 3) := by decide +kernel
theorem dL_law_182 : decode cL_law 182 = .ok (.iconst 0, 1) := by decide +kernel
theorem dL_law_183 : decode cL_law 183 = .ok (.ireturn, 1) := by decide +kernel
theorem dL_law_184 : decode cL_law 184 = .ok (.iload 5, 2) := by decide +kernel
theorem dL_law_186 : decode cL_law 186 = .ok (.ifCond .ne 15, 3) := by decide +kernel
theorem dL_law_189 : decode cL_law 189 = .ok (.aload_n 3, 1) := by decide +kernel
theorem dL_law_190 : decode cL_law 190 = .ok (.iconst 0, 1) := by decide +kernel
theorem dL_law_191 : decode cL_law 191 = .ok (.laload, 1) := by decide +kernel
theorem dL_law_192 : decode cL_law 192 = .ok (.iload 6, 2) := by decide +kernel
theorem dL_law_194 : decode cL_law 194 = .ok (.i2l, 1) := by decide +kernel
theorem dL_law_195 : decode cL_law 195 = .ok (.lcmp, 1) := by decide +kernel
theorem dL_law_196 : decode cL_law 196 = .ok (.ifCond .eq 5, 3) := by decide +kernel
theorem dL_law_199 : decode cL_law 199 = .ok (.iconst 0, 1) := by decide +kernel
theorem dL_law_200 : decode cL_law 200 = .ok (.ireturn, 1) := by decide +kernel
theorem dL_law_201 : decode cL_law 201 = .ok (.goto 1098, 3) := by decide +kernel
theorem dL_law_204 : decode cL_law 204 = .ok (.aload_n 1, 1) := by decide +kernel
theorem dL_law_205 : decode cL_law 205 = .ok (.aload_n 0, 1) := by decide +kernel
theorem dL_law_206 : decode cL_law 206 = .ok (.iload 4, 2) := by decide +kernel
theorem dL_law_208 : decode cL_law 208 = .ok (.iconst 1, 1) := by decide +kernel
theorem dL_law_209 : decode cL_law 209 = .ok (.iadd, 1) := by decide +kernel
theorem dL_law_210 : decode cL_law 210 = .ok (.iaload, 1) := by decide +kernel
theorem dL_law_211 : decode cL_law 211 = .ok (.aload_n 0, 1) := by decide +kernel
theorem dL_law_212 : decode cL_law 212 = .ok (.iload 4, 2) := by decide +kernel
theorem dL_law_214 : decode cL_law 214 = .ok (.iconst 2, 1) := by decide +kernel
theorem dL_law_215 : decode cL_law 215 = .ok (.iadd, 1) := by decide +kernel
theorem dL_law_216 : decode cL_law 216 = .ok (.iaload, 1) := by decide +kernel
theorem dL_law_217 : decode cL_law 217 = .ok (.aload_n 3, 1) := by decide +kernel
theorem dL_law_218 : decode cL_law 218 = .ok (.invokestatic 86, 3) := by decide +kernel
theorem dL_law_221 : decode cL_law 221 = .ok (.istore 5, 2) := by decide +kernel
theorem dL_law_223 : decode cL_law 223 = .ok (.aload_n 2, 1) := by decide +kernel
theorem dL_law_224 : decode cL_law 224 = .ok (.aload_n 0, 1) := by decide +kernel
theorem dL_law_225 : decode cL_law 225 = .ok (.iload 4, 2) := by decide +kernel
theorem dL_law_227 : decode cL_law 227 = .ok (.iconst 1, 1) := by decide +kernel
theorem dL_law_228 : decode cL_law 228 = .ok (.iadd, 1) := by decide +kernel
theorem dL_law_229 : decode cL_law 229 = .ok (.iaload, 1) := by decide +kernel
theorem dL_law_230 : decode cL_law 230 = .ok (.aload_n 0, 1) := by decide +kernel
theorem dL_law_231 : decode cL_law 231 = .ok (.iload 4, 2) := by decide +kernel
theorem dL_law_233 : decode cL_law 233 = .ok (.iconst 2, 1) := by decide +kernel
theorem dL_law_234 : decode cL_law 234 = .ok (.iadd, 1) := by decide +kernel
theorem dL_law_235 : decode cL_law 235 = .ok (.iaload, 1) := by decide +kernel
theorem dL_law_236 : decode cL_law 236 = .ok (.invokevirtual 89, 3) := by decide +kernel
theorem dL_law_239 : decode cL_law 239 = .ok (.istore 6, 2) := by decide +kernel
theorem dL_law_241 : decode cL_law 241 = .ok (.aload_n 2, 1) := by decide +kernel
theorem dL_law_242 : decode cL_law 242 = .ok (.invokevirtual 83, 3) := by decide +kernel
theorem dL_law_245 : decode cL_law 245 = .ok (.iload 5, 2) := by decide +kernel
theorem dL_law_247 : decode cL_law 247 = .ok (.if_icmp .eq 5, 3) := by decide +kernel
theorem dL_law_250 : decode cL_law 250 = .ok (.iconst 0, 1) := by decide +kernel
theorem dL_law_251 : decode cL_law 251 = .ok (.ireturn, 1) := by decide +kernel
theorem dL_law_252 : decode cL_law 252 = .ok (.iload 5, 2) := by decide +kernel
theorem dL_law_254 : decode cL_law 254 = .ok (.ifCond .ne 15, 3) := by decide +kernel
theorem dL_law_257 : decode cL_law 257 = .ok (.aload_n 3, 1) := by decide +kernel
theorem dL_law_258 : decode cL_law 258 = .ok (.iconst 0, 1) := by decide +kernel
theorem dL_law_259 : decode cL_law 259 = .ok (.laload, 1) := by decide +kernel
theorem dL_law_260 : decode cL_law 260 = .ok (.iload 6, 2) := by decide +kernel
theorem dL_law_262 : decode cL_law 262 = .ok (.i2l, 1) := by decide +kernel
theorem dL_law_263 : decode cL_law 263 = .ok (.lcmp, 1) := by decide +kernel
theorem dL_law_264 : decode cL_law 264 = .ok (.ifCond .eq 5, 3) := by decide +kernel
theorem dL_law_267 : decode cL_law 267 = .ok (.iconst 0, 1) := by decide +kernel
theorem dL_law_268 : decode cL_law 268 = .ok (.ireturn, 1) := by decide +kernel
theorem dL_law_269 : decode cL_law 269 = .ok (.goto 1030, 3) := by decide +kernel
theorem dL_law_272 : decode cL_law 272 = .ok (.aload_n 1, 1) := by decide +kernel
theorem dL_law_273 : decode cL_law 273 = .ok (.aload_n 0, 1) := by decide +kernel
theorem dL_law_274 : decode cL_law 274 = .ok (.iload 4, 2) := by decide +kernel
theorem dL_law_276 : decode cL_law 276 = .ok (.iconst 1, 1) := by decide +kernel
theorem dL_law_277 : decode cL_law 277 = .ok (.iadd, 1) := by decide +kernel
theorem dL_law_278 : decode cL_law 278 = .ok (.iaload, 1) := by decide +kernel
theorem dL_law_279 : decode cL_law 279 = .ok (.aload_n 3, 1) := by decide +kernel
theorem dL_law_280 : decode cL_law 280 = .ok (.invokestatic 90, 3) := by decide +kernel
theorem dL_law_283 : decode cL_law 283 = .ok (.istore 5, 2) := by decide +kernel
theorem dL_law_285 : decode cL_law 285 = .ok (.aload_n 2, 1) := by decide +kernel
theorem dL_law_286 : decode cL_law 286 = .ok (.aload_n 0, 1) := by decide +kernel
theorem dL_law_287 : decode cL_law 287 = .ok (.iload 4, 2) := by decide +kernel
theorem dL_law_289 : decode cL_law 289 = .ok (.iconst 1, 1) := by decide +kernel
theorem dL_law_290 : decode cL_law 290 = .ok (.iadd, 1) := by decide +kernel
theorem dL_law_291 : decode cL_law 291 = .ok (.iaload, 1) := by decide +kernel
theorem dL_law_292 : decode cL_law 292 = .ok (.invokevirtual 92, 3) := by decide +kernel
theorem dL_law_295 : decode cL_law 295 = .ok (.istore 6, 2) := by decide +kernel
theorem dL_law_297 : decode cL_law 297 = .ok (.aload_n 2, 1) := by decide +kernel
theorem dL_law_298 : decode cL_law 298 = .ok (.invokevirtual 83, 3) := by decide +kernel
theorem dL_law_301 : decode cL_law 301 = .ok (.iload 5, 2) := by decide +kernel
theorem dL_law_303 : decode cL_law 303 = .ok (.if_icmp .eq 5, 3) := by decide +kernel
theorem dL_law_306 : decode cL_law 306 = .ok (.iconst 0, 1) := by decide +kernel
theorem dL_law_307 : decode cL_law 307 = .ok (.ireturn, 1) := by decide +kernel
theorem dL_law_308 : decode cL_law 308 = .ok (.iload 5, 2) := by decide +kernel
theorem dL_law_310 : decode cL_law 310 = .ok (.ifCond .ne 15, 3) := by decide +kernel
theorem dL_law_313 : decode cL_law 313 = .ok (.aload_n 3, 1) := by decide +kernel
theorem dL_law_314 : decode cL_law 314 = .ok (.iconst 0, 1) := by decide +kernel
theorem dL_law_315 : decode cL_law 315 = .ok (.laload, 1) := by decide +kernel
theorem dL_law_316 : decode cL_law 316 = .ok (.iload 6, 2) := by decide +kernel
theorem dL_law_318 : decode cL_law 318 = .ok (.i2l, 1) := by decide +kernel
theorem dL_law_319 : decode cL_law 319 = .ok (.lcmp, 1) := by decide +kernel
theorem dL_law_320 : decode cL_law 320 = .ok (.ifCond .eq 5, 3) := by decide +kernel
theorem dL_law_323 : decode cL_law 323 = .ok (.iconst 0, 1) := by decide +kernel
theorem dL_law_324 : decode cL_law 324 = .ok (.ireturn, 1) := by decide +kernel
theorem dL_law_325 : decode cL_law 325 = .ok (.goto 974, 3) := by decide +kernel
theorem dL_law_328 : decode cL_law 328 = .ok (.aload_n 1, 1) := by decide +kernel
theorem dL_law_329 : decode cL_law 329 = .ok (.aload_n 0, 1) := by decide +kernel
theorem dL_law_330 : decode cL_law 330 = .ok (.iload 4, 2) := by decide +kernel
theorem dL_law_332 : decode cL_law 332 = .ok (.iconst 1, 1) := by decide +kernel
theorem dL_law_333 : decode cL_law 333 = .ok (.iadd, 1) := by decide +kernel
theorem dL_law_334 : decode cL_law 334 = .ok (.iaload, 1) := by decide +kernel
theorem dL_law_335 : decode cL_law 335 = .ok (.aload_n 0, 1) := by decide +kernel
theorem dL_law_336 : decode cL_law 336 = .ok (.iload 4, 2) := by decide +kernel
theorem dL_law_338 : decode cL_law 338 = .ok (.iconst 2, 1) := by decide +kernel
theorem dL_law_339 : decode cL_law 339 = .ok (.iadd, 1) := by decide +kernel
theorem dL_law_340 : decode cL_law 340 = .ok (.iaload, 1) := by decide +kernel
theorem dL_law_341 : decode cL_law 341 = .ok (.aload_n 3, 1) := by decide +kernel
theorem dL_law_342 : decode cL_law 342 = .ok (.invokestatic 93, 3) := by decide +kernel
theorem dL_law_345 : decode cL_law 345 = .ok (.istore 5, 2) := by decide +kernel
theorem dL_law_347 : decode cL_law 347 = .ok (.aload_n 2, 1) := by decide +kernel
theorem dL_law_348 : decode cL_law 348 = .ok (.aload_n 0, 1) := by decide +kernel
theorem dL_law_349 : decode cL_law 349 = .ok (.iload 4, 2) := by decide +kernel
theorem dL_law_351 : decode cL_law 351 = .ok (.iconst 1, 1) := by decide +kernel
theorem dL_law_352 : decode cL_law 352 = .ok (.iadd, 1) := by decide +kernel
theorem dL_law_353 : decode cL_law 353 = .ok (.iaload, 1) := by decide +kernel
theorem dL_law_354 : decode cL_law 354 = .ok (.aload_n 0, 1) := by decide +kernel
theorem dL_law_355 : decode cL_law 355 = .ok (.iload 4, 2) := by decide +kernel
theorem dL_law_357 : decode cL_law 357 = .ok (.iconst 2, 1) := by decide +kernel
theorem dL_law_358 : decode cL_law 358 = .ok (.iadd, 1) := by decide +kernel
theorem dL_law_359 : decode cL_law 359 = .ok (.iaload, 1) := by decide +kernel
theorem dL_law_360 : decode cL_law 360 = .ok (.invokevirtual 95, 3) := by decide +kernel
theorem dL_law_363 : decode cL_law 363 = .ok (.istore 6, 2) := by decide +kernel
theorem dL_law_365 : decode cL_law 365 = .ok (.aload_n 2, 1) := by decide +kernel
theorem dL_law_366 : decode cL_law 366 = .ok (.invokevirtual 83, 3) := by decide +kernel
theorem dL_law_369 : decode cL_law 369 = .ok (.iload 5, 2) := by decide +kernel
theorem dL_law_371 : decode cL_law 371 = .ok (.if_icmp .eq 5, 3) := by decide +kernel
theorem dL_law_374 : decode cL_law 374 = .ok (.iconst 0, 1) := by decide +kernel
theorem dL_law_375 : decode cL_law 375 = .ok (.ireturn, 1) := by decide +kernel
theorem dL_law_376 : decode cL_law 376 = .ok (.iload 5, 2) := by decide +kernel
theorem dL_law_378 : decode cL_law 378 = .ok (.ifCond .ne 15, 3) := by decide +kernel
theorem dL_law_381 : decode cL_law 381 = .ok (.aload_n 3, 1) := by decide +kernel
theorem dL_law_382 : decode cL_law 382 = .ok (.iconst 0, 1) := by decide +kernel
theorem dL_law_383 : decode cL_law 383 = .ok (.laload, 1) := by decide +kernel
theorem dL_law_384 : decode cL_law 384 = .ok (.iload 6, 2) := by decide +kernel
theorem dL_law_386 : decode cL_law 386 = .ok (.i2l, 1) := by decide +kernel
theorem dL_law_387 : decode cL_law 387 = .ok (.lcmp, 1) := by decide +kernel
theorem dL_law_388 : decode cL_law 388 = .ok (.ifCond .eq 5, 3) := by decide +kernel
theorem dL_law_391 : decode cL_law 391 = .ok (.iconst 0, 1) := by decide +kernel
theorem dL_law_392 : decode cL_law 392 = .ok (.ireturn, 1) := by decide +kernel
theorem dL_law_393 : decode cL_law 393 = .ok (.goto 906, 3) := by decide +kernel
theorem dL_law_396 : decode cL_law 396 = .ok (.aload_n 1, 1) := by decide +kernel
theorem dL_law_397 : decode cL_law 397 = .ok (.aload_n 0, 1) := by decide +kernel
theorem dL_law_398 : decode cL_law 398 = .ok (.iload 4, 2) := by decide +kernel
theorem dL_law_400 : decode cL_law 400 = .ok (.iconst 1, 1) := by decide +kernel
theorem dL_law_401 : decode cL_law 401 = .ok (.iadd, 1) := by decide +kernel
theorem dL_law_402 : decode cL_law 402 = .ok (.iaload, 1) := by decide +kernel
theorem dL_law_403 : decode cL_law 403 = .ok (.aload_n 3, 1) := by decide +kernel
theorem dL_law_404 : decode cL_law 404 = .ok (.invokestatic 96, 3) := by decide +kernel
theorem dL_law_407 : decode cL_law 407 = .ok (.istore 5, 2) := by decide +kernel
theorem dL_law_409 : decode cL_law 409 = .ok (.aload_n 2, 1) := by decide +kernel
theorem dL_law_410 : decode cL_law 410 = .ok (.aload_n 0, 1) := by decide +kernel
theorem dL_law_411 : decode cL_law 411 = .ok (.iload 4, 2) := by decide +kernel
theorem dL_law_413 : decode cL_law 413 = .ok (.iconst 1, 1) := by decide +kernel
theorem dL_law_414 : decode cL_law 414 = .ok (.iadd, 1) := by decide +kernel
theorem dL_law_415 : decode cL_law 415 = .ok (.iaload, 1) := by decide +kernel
theorem dL_law_416 : decode cL_law 416 = .ok (.invokevirtual 98, 3) := by decide +kernel
theorem dL_law_419 : decode cL_law 419 = .ok (.istore 6, 2) := by decide +kernel
theorem dL_law_421 : decode cL_law 421 = .ok (.aload_n 2, 1) := by decide +kernel
theorem dL_law_422 : decode cL_law 422 = .ok (.invokevirtual 83, 3) := by decide +kernel
theorem dL_law_425 : decode cL_law 425 = .ok (.iload 5, 2) := by decide +kernel
theorem dL_law_427 : decode cL_law 427 = .ok (.if_icmp .eq 5, 3) := by decide +kernel
theorem dL_law_430 : decode cL_law 430 = .ok (.iconst 0, 1) := by decide +kernel
theorem dL_law_431 : decode cL_law 431 = .ok (.ireturn, 1) := by decide +kernel
theorem dL_law_432 : decode cL_law 432 = .ok (.iload 5, 2) := by decide +kernel
theorem dL_law_434 : decode cL_law 434 = .ok (.ifCond .ne 15, 3) := by decide +kernel
theorem dL_law_437 : decode cL_law 437 = .ok (.aload_n 3, 1) := by decide +kernel
theorem dL_law_438 : decode cL_law 438 = .ok (.iconst 0, 1) := by decide +kernel
theorem dL_law_439 : decode cL_law 439 = .ok (.laload, 1) := by decide +kernel
theorem dL_law_440 : decode cL_law 440 = .ok (.iload 6, 2) := by decide +kernel
theorem dL_law_442 : decode cL_law 442 = .ok (.i2l, 1) := by decide +kernel
theorem dL_law_443 : decode cL_law 443 = .ok (.lcmp, 1) := by decide +kernel
theorem dL_law_444 : decode cL_law 444 = .ok (.ifCond .eq 5, 3) := by decide +kernel
theorem dL_law_447 : decode cL_law 447 = .ok (.iconst 0, 1) := by decide +kernel
theorem dL_law_448 : decode cL_law 448 = .ok (.ireturn, 1) := by decide +kernel
theorem dL_law_449 : decode cL_law 449 = .ok (.goto 850, 3) := by decide +kernel
theorem dL_law_452 : decode cL_law 452 = .ok (.aload_n 1, 1) := by decide +kernel
theorem dL_law_453 : decode cL_law 453 = .ok (.aload_n 0, 1) := by decide +kernel
theorem dL_law_454 : decode cL_law 454 = .ok (.iload 4, 2) := by decide +kernel
theorem dL_law_456 : decode cL_law 456 = .ok (.iconst 1, 1) := by decide +kernel
theorem dL_law_457 : decode cL_law 457 = .ok (.iadd, 1) := by decide +kernel
theorem dL_law_458 : decode cL_law 458 = .ok (.iaload, 1) := by decide +kernel
theorem dL_law_459 : decode cL_law 459 = .ok (.aload_n 3, 1) := by decide +kernel
theorem dL_law_460 : decode cL_law 460 = .ok (.invokestatic 99, 3) := by decide +kernel
theorem dL_law_463 : decode cL_law 463 = .ok (.istore 5, 2) := by decide +kernel
theorem dL_law_465 : decode cL_law 465 = .ok (.aload_n 2, 1) := by decide +kernel
theorem dL_law_466 : decode cL_law 466 = .ok (.aload_n 0, 1) := by decide +kernel
theorem dL_law_467 : decode cL_law 467 = .ok (.iload 4, 2) := by decide +kernel
theorem dL_law_469 : decode cL_law 469 = .ok (.iconst 1, 1) := by decide +kernel
theorem dL_law_470 : decode cL_law 470 = .ok (.iadd, 1) := by decide +kernel
theorem dL_law_471 : decode cL_law 471 = .ok (.iaload, 1) := by decide +kernel
theorem dL_law_472 : decode cL_law 472 = .ok (.invokevirtual 101, 3) := by decide +kernel
theorem dL_law_475 : decode cL_law 475 = .ok (.istore 6, 2) := by decide +kernel
theorem dL_law_477 : decode cL_law 477 = .ok (.aload_n 2, 1) := by decide +kernel
theorem dL_law_478 : decode cL_law 478 = .ok (.invokevirtual 83, 3) := by decide +kernel
theorem dL_law_481 : decode cL_law 481 = .ok (.iload 5, 2) := by decide +kernel
theorem dL_law_483 : decode cL_law 483 = .ok (.if_icmp .eq 5, 3) := by decide +kernel
theorem dL_law_486 : decode cL_law 486 = .ok (.iconst 0, 1) := by decide +kernel
theorem dL_law_487 : decode cL_law 487 = .ok (.ireturn, 1) := by decide +kernel
theorem dL_law_488 : decode cL_law 488 = .ok (.iload 5, 2) := by decide +kernel
theorem dL_law_490 : decode cL_law 490 = .ok (.ifCond .ne 15, 3) := by decide +kernel
theorem dL_law_493 : decode cL_law 493 = .ok (.aload_n 3, 1) := by decide +kernel
theorem dL_law_494 : decode cL_law 494 = .ok (.iconst 0, 1) := by decide +kernel
theorem dL_law_495 : decode cL_law 495 = .ok (.laload, 1) := by decide +kernel
theorem dL_law_496 : decode cL_law 496 = .ok (.iload 6, 2) := by decide +kernel
theorem dL_law_498 : decode cL_law 498 = .ok (.i2l, 1) := by decide +kernel
theorem dL_law_499 : decode cL_law 499 = .ok (.lcmp, 1) := by decide +kernel
theorem dL_law_500 : decode cL_law 500 = .ok (.ifCond .eq 5, 3) := by decide +kernel
theorem dL_law_503 : decode cL_law 503 = .ok (.iconst 0, 1) := by decide +kernel
theorem dL_law_504 : decode cL_law 504 = .ok (.ireturn, 1) := by decide +kernel
theorem dL_law_505 : decode cL_law 505 = .ok (.goto 794, 3) := by decide +kernel
theorem dL_law_508 : decode cL_law 508 = .ok (.aload_n 1, 1) := by decide +kernel
theorem dL_law_509 : decode cL_law 509 = .ok (.aload_n 3, 1) := by decide +kernel
theorem dL_law_510 : decode cL_law 510 = .ok (.invokestatic 102, 3) := by decide +kernel
theorem dL_law_513 : decode cL_law 513 = .ok (.istore 5, 2) := by decide +kernel
theorem dL_law_515 : decode cL_law 515 = .ok (.aload_n 2, 1) := by decide +kernel
theorem dL_law_516 : decode cL_law 516 = .ok (.invokevirtual 105, 3) := by decide +kernel
theorem dL_law_519 : decode cL_law 519 = .ok (.istore 6, 2) := by decide +kernel
theorem dL_law_521 : decode cL_law 521 = .ok (.aload_n 2, 1) := by decide +kernel
theorem dL_law_522 : decode cL_law 522 = .ok (.invokevirtual 83, 3) := by decide +kernel
theorem dL_law_525 : decode cL_law 525 = .ok (.iload 5, 2) := by decide +kernel
theorem dL_law_527 : decode cL_law 527 = .ok (.if_icmp .eq 5, 3) := by decide +kernel
theorem dL_law_530 : decode cL_law 530 = .ok (.iconst 0, 1) := by decide +kernel
theorem dL_law_531 : decode cL_law 531 = .ok (.ireturn, 1) := by decide +kernel
theorem dL_law_532 : decode cL_law 532 = .ok (.iload 5, 2) := by decide +kernel
theorem dL_law_534 : decode cL_law 534 = .ok (.ifCond .ne 15, 3) := by decide +kernel
theorem dL_law_537 : decode cL_law 537 = .ok (.aload_n 3, 1) := by decide +kernel
theorem dL_law_538 : decode cL_law 538 = .ok (.iconst 0, 1) := by decide +kernel
theorem dL_law_539 : decode cL_law 539 = .ok (.laload, 1) := by decide +kernel
theorem dL_law_540 : decode cL_law 540 = .ok (.iload 6, 2) := by decide +kernel
theorem dL_law_542 : decode cL_law 542 = .ok (.i2l, 1) := by decide +kernel
theorem dL_law_543 : decode cL_law 543 = .ok (.lcmp, 1) := by decide +kernel
theorem dL_law_544 : decode cL_law 544 = .ok (.ifCond .eq 5, 3) := by decide +kernel
theorem dL_law_547 : decode cL_law 547 = .ok (.iconst 0, 1) := by decide +kernel
theorem dL_law_548 : decode cL_law 548 = .ok (.ireturn, 1) := by decide +kernel
theorem dL_law_549 : decode cL_law 549 = .ok (.goto 750, 3) := by decide +kernel
theorem dL_law_552 : decode cL_law 552 = .ok (.aload_n 1, 1) := by decide +kernel
theorem dL_law_553 : decode cL_law 553 = .ok (.aload_n 0, 1) := by decide +kernel
theorem dL_law_554 : decode cL_law 554 = .ok (.iload 4, 2) := by decide +kernel
theorem dL_law_556 : decode cL_law 556 = .ok (.iconst 1, 1) := by decide +kernel
theorem dL_law_557 : decode cL_law 557 = .ok (.iadd, 1) := by decide +kernel
theorem dL_law_558 : decode cL_law 558 = .ok (.iaload, 1) := by decide +kernel
theorem dL_law_559 : decode cL_law 559 = .ok (.aload_n 3, 1) := by decide +kernel
theorem dL_law_560 : decode cL_law 560 = .ok (.invokestatic 106, 3) := by decide +kernel
theorem dL_law_563 : decode cL_law 563 = .ok (.istore 5, 2) := by decide +kernel
theorem dL_law_565 : decode cL_law 565 = .ok (.aload_n 2, 1) := by decide +kernel
theorem dL_law_566 : decode cL_law 566 = .ok (.aload_n 0, 1) := by decide +kernel
theorem dL_law_567 : decode cL_law 567 = .ok (.iload 4, 2) := by decide +kernel
theorem dL_law_569 : decode cL_law 569 = .ok (.iconst 1, 1) := by decide +kernel
theorem dL_law_570 : decode cL_law 570 = .ok (.iadd, 1) := by decide +kernel
theorem dL_law_571 : decode cL_law 571 = .ok (.iaload, 1) := by decide +kernel
theorem dL_law_572 : decode cL_law 572 = .ok (.invokevirtual 108, 3) := by decide +kernel
theorem dL_law_575 : decode cL_law 575 = .ok (.istore 6, 2) := by decide +kernel
theorem dL_law_577 : decode cL_law 577 = .ok (.aload_n 2, 1) := by decide +kernel
theorem dL_law_578 : decode cL_law 578 = .ok (.invokevirtual 83, 3) := by decide +kernel
theorem dL_law_581 : decode cL_law 581 = .ok (.iload 5, 2) := by decide +kernel
theorem dL_law_583 : decode cL_law 583 = .ok (.if_icmp .eq 5, 3) := by decide +kernel
theorem dL_law_586 : decode cL_law 586 = .ok (.iconst 0, 1) := by decide +kernel
theorem dL_law_587 : decode cL_law 587 = .ok (.ireturn, 1) := by decide +kernel
theorem dL_law_588 : decode cL_law 588 = .ok (.iload 5, 2) := by decide +kernel
theorem dL_law_590 : decode cL_law 590 = .ok (.ifCond .ne 15, 3) := by decide +kernel
theorem dL_law_593 : decode cL_law 593 = .ok (.aload_n 3, 1) := by decide +kernel
theorem dL_law_594 : decode cL_law 594 = .ok (.iconst 0, 1) := by decide +kernel
theorem dL_law_595 : decode cL_law 595 = .ok (.laload, 1) := by decide +kernel
theorem dL_law_596 : decode cL_law 596 = .ok (.iload 6, 2) := by decide +kernel
theorem dL_law_598 : decode cL_law 598 = .ok (.i2l, 1) := by decide +kernel
theorem dL_law_599 : decode cL_law 599 = .ok (.lcmp, 1) := by decide +kernel
theorem dL_law_600 : decode cL_law 600 = .ok (.ifCond .eq 5, 3) := by decide +kernel
theorem dL_law_603 : decode cL_law 603 = .ok (.iconst 0, 1) := by decide +kernel
theorem dL_law_604 : decode cL_law 604 = .ok (.ireturn, 1) := by decide +kernel
theorem dL_law_605 : decode cL_law 605 = .ok (.goto 694, 3) := by decide +kernel
theorem dL_law_608 : decode cL_law 608 = .ok (.aload_n 1, 1) := by decide +kernel
theorem dL_law_609 : decode cL_law 609 = .ok (.invokevirtual 109, 3) := by decide +kernel
theorem dL_law_612 : decode cL_law 612 = .ok (.aload_n 2, 1) := by decide +kernel
theorem dL_law_613 : decode cL_law 613 = .ok (.invokevirtual 112, 3) := by decide +kernel
theorem dL_law_616 : decode cL_law 616 = .ok (.if_icmp .eq 683, 3) := by decide +kernel
theorem dL_law_619 : decode cL_law 619 = .ok (.iconst 0, 1) := by decide +kernel
theorem dL_law_620 : decode cL_law 620 = .ok (.ireturn, 1) := by decide +kernel
theorem dL_law_621 : decode cL_law 621 = .ok (.aload_n 1, 1) := by decide +kernel
theorem dL_law_622 : decode cL_law 622 = .ok (.invokevirtual 113, 3) := by decide +kernel
theorem dL_law_625 : decode cL_law 625 = .ok (.aload_n 2, 1) := by decide +kernel
theorem dL_law_626 : decode cL_law 626 = .ok (.invokevirtual 116, 3) := by decide +kernel
theorem dL_law_629 : decode cL_law 629 = .ok (.if_icmp .eq 670, 3) := by decide +kernel
theorem dL_law_632 : decode cL_law 632 = .ok (.iconst 0, 1) := by decide +kernel
theorem dL_law_633 : decode cL_law 633 = .ok (.ireturn, 1) := by decide +kernel
theorem dL_law_634 : decode cL_law 634 = .ok (.aload_n 1, 1) := by decide +kernel
theorem dL_law_635 : decode cL_law 635 = .ok (.aload_n 3, 1) := by decide +kernel
theorem dL_law_636 : decode cL_law 636 = .ok (.invokestatic 117, 3) := by decide +kernel
theorem dL_law_639 : decode cL_law 639 = .ok (.istore 5, 2) := by decide +kernel
theorem dL_law_641 : decode cL_law 641 = .ok (.aload_n 2, 1) := by decide +kernel
theorem dL_law_642 : decode cL_law 642 = .ok (.invokevirtual 119, 3) := by decide +kernel
theorem dL_law_645 : decode cL_law 645 = .ok (.istore 6, 2) := by decide +kernel
theorem dL_law_647 : decode cL_law 647 = .ok (.aload_n 2, 1) := by decide +kernel
theorem dL_law_648 : decode cL_law 648 = .ok (.invokevirtual 83, 3) := by decide +kernel
theorem dL_law_651 : decode cL_law 651 = .ok (.iload 5, 2) := by decide +kernel
theorem dL_law_653 : decode cL_law 653 = .ok (.if_icmp .eq 5, 3) := by decide +kernel
theorem dL_law_656 : decode cL_law 656 = .ok (.iconst 0, 1) := by decide +kernel
theorem dL_law_657 : decode cL_law 657 = .ok (.ireturn, 1) := by decide +kernel
theorem dL_law_658 : decode cL_law 658 = .ok (.iload 5, 2) := by decide +kernel
theorem dL_law_660 : decode cL_law 660 = .ok (.ifCond .ne 15, 3) := by decide +kernel
theorem dL_law_663 : decode cL_law 663 = .ok (.aload_n 3, 1) := by decide +kernel
theorem dL_law_664 : decode cL_law 664 = .ok (.iconst 0, 1) := by decide +kernel
theorem dL_law_665 : decode cL_law 665 = .ok (.laload, 1) := by decide +kernel
theorem dL_law_666 : decode cL_law 666 = .ok (.iload 6, 2) := by decide +kernel
theorem dL_law_668 : decode cL_law 668 = .ok (.i2l, 1) := by decide +kernel
theorem dL_law_669 : decode cL_law 669 = .ok (.lcmp, 1) := by decide +kernel
theorem dL_law_670 : decode cL_law 670 = .ok (.ifCond .eq 5, 3) := by decide +kernel
theorem dL_law_673 : decode cL_law 673 = .ok (.iconst 0, 1) := by decide +kernel
theorem dL_law_674 : decode cL_law 674 = .ok (.ireturn, 1) := by decide +kernel
theorem dL_law_675 : decode cL_law 675 = .ok (.goto 624, 3) := by decide +kernel
theorem dL_law_678 : decode cL_law 678 = .ok (.aload_n 1, 1) := by decide +kernel
theorem dL_law_679 : decode cL_law 679 = .ok (.aload_n 3, 1) := by decide +kernel
theorem dL_law_680 : decode cL_law 680 = .ok (.invokestatic 120, 3) := by decide +kernel
theorem dL_law_683 : decode cL_law 683 = .ok (.istore 5, 2) := by decide +kernel
theorem dL_law_685 : decode cL_law 685 = .ok (.aload_n 2, 1) := by decide +kernel
theorem dL_law_686 : decode cL_law 686 = .ok (.invokevirtual 122, 3) := by decide +kernel
theorem dL_law_689 : decode cL_law 689 = .ok (.istore 6, 2) := by decide +kernel
theorem dL_law_691 : decode cL_law 691 = .ok (.aload_n 2, 1) := by decide +kernel
theorem dL_law_692 : decode cL_law 692 = .ok (.invokevirtual 83, 3) := by decide +kernel
theorem dL_law_695 : decode cL_law 695 = .ok (.iload 5, 2) := by decide +kernel
theorem dL_law_697 : decode cL_law 697 = .ok (.if_icmp .eq 5, 3) := by decide +kernel
theorem dL_law_700 : decode cL_law 700 = .ok (.iconst 0, 1) := by decide +kernel
theorem dL_law_701 : decode cL_law 701 = .ok (.ireturn, 1) := by decide +kernel
theorem dL_law_702 : decode cL_law 702 = .ok (.iload 5, 2) := by decide +kernel
theorem dL_law_704 : decode cL_law 704 = .ok (.ifCond .ne 15, 3) := by decide +kernel
theorem dL_law_707 : decode cL_law 707 = .ok (.aload_n 3, 1) := by decide +kernel
theorem dL_law_708 : decode cL_law 708 = .ok (.iconst 0, 1) := by decide +kernel
theorem dL_law_709 : decode cL_law 709 = .ok (.laload, 1) := by decide +kernel
theorem dL_law_710 : decode cL_law 710 = .ok (.iload 6, 2) := by decide +kernel
theorem dL_law_712 : decode cL_law 712 = .ok (.i2l, 1) := by decide +kernel
theorem dL_law_713 : decode cL_law 713 = .ok (.lcmp, 1) := by decide +kernel
theorem dL_law_714 : decode cL_law 714 = .ok (.ifCond .eq 5, 3) := by decide +kernel
theorem dL_law_717 : decode cL_law 717 = .ok (.iconst 0, 1) := by decide +kernel
theorem dL_law_718 : decode cL_law 718 = .ok (.ireturn, 1) := by decide +kernel
theorem dL_law_719 : decode cL_law 719 = .ok (.goto 580, 3) := by decide +kernel
theorem dL_law_722 : decode cL_law 722 = .ok (.aload_n 1, 1) := by decide +kernel
theorem dL_law_723 : decode cL_law 723 = .ok (.aload_n 0, 1) := by decide +kernel
theorem dL_law_724 : decode cL_law 724 = .ok (.iload 4, 2) := by decide +kernel
theorem dL_law_726 : decode cL_law 726 = .ok (.iconst 1, 1) := by decide +kernel
theorem dL_law_727 : decode cL_law 727 = .ok (.iadd, 1) := by decide +kernel
theorem dL_law_728 : decode cL_law 728 = .ok (.iaload, 1) := by decide +kernel
theorem dL_law_729 : decode cL_law 729 = .ok (.aload_n 3, 1) := by decide +kernel
theorem dL_law_730 : decode cL_law 730 = .ok (.invokestatic 123, 3) := by decide +kernel
theorem dL_law_733 : decode cL_law 733 = .ok (.istore 5, 2) := by decide +kernel
theorem dL_law_735 : decode cL_law 735 = .ok (.aload_n 2, 1) := by decide +kernel
theorem dL_law_736 : decode cL_law 736 = .ok (.aload_n 0, 1) := by decide +kernel
theorem dL_law_737 : decode cL_law 737 = .ok (.iload 4, 2) := by decide +kernel
theorem dL_law_739 : decode cL_law 739 = .ok (.iconst 1, 1) := by decide +kernel
theorem dL_law_740 : decode cL_law 740 = .ok (.iadd, 1) := by decide +kernel
theorem dL_law_741 : decode cL_law 741 = .ok (.iaload, 1) := by decide +kernel
theorem dL_law_742 : decode cL_law 742 = .ok (.invokevirtual 125, 3) := by decide +kernel
theorem dL_law_745 : decode cL_law 745 = .ok (.istore 6, 2) := by decide +kernel
theorem dL_law_747 : decode cL_law 747 = .ok (.aload_n 2, 1) := by decide +kernel
theorem dL_law_748 : decode cL_law 748 = .ok (.invokevirtual 83, 3) := by decide +kernel
theorem dL_law_751 : decode cL_law 751 = .ok (.iload 5, 2) := by decide +kernel
theorem dL_law_753 : decode cL_law 753 = .ok (.if_icmp .eq 5, 3) := by decide +kernel
theorem dL_law_756 : decode cL_law 756 = .ok (.iconst 0, 1) := by decide +kernel
theorem dL_law_757 : decode cL_law 757 = .ok (.ireturn, 1) := by decide +kernel
theorem dL_law_758 : decode cL_law 758 = .ok (.iload 5, 2) := by decide +kernel
theorem dL_law_760 : decode cL_law 760 = .ok (.ifCond .ne 15, 3) := by decide +kernel
theorem dL_law_763 : decode cL_law 763 = .ok (.aload_n 3, 1) := by decide +kernel
theorem dL_law_764 : decode cL_law 764 = .ok (.iconst 0, 1) := by decide +kernel
theorem dL_law_765 : decode cL_law 765 = .ok (.laload, 1) := by decide +kernel
theorem dL_law_766 : decode cL_law 766 = .ok (.iload 6, 2) := by decide +kernel
theorem dL_law_768 : decode cL_law 768 = .ok (.i2l, 1) := by decide +kernel
theorem dL_law_769 : decode cL_law 769 = .ok (.lcmp, 1) := by decide +kernel
theorem dL_law_770 : decode cL_law 770 = .ok (.ifCond .eq 5, 3) := by decide +kernel
theorem dL_law_773 : decode cL_law 773 = .ok (.iconst 0, 1) := by decide +kernel
theorem dL_law_774 : decode cL_law 774 = .ok (.ireturn, 1) := by decide +kernel
theorem dL_law_775 : decode cL_law 775 = .ok (.goto 524, 3) := by decide +kernel
theorem dL_law_778 : decode cL_law 778 = .ok (.aload_n 1, 1) := by decide +kernel
theorem dL_law_779 : decode cL_law 779 = .ok (.aload_n 0, 1) := by decide +kernel
theorem dL_law_780 : decode cL_law 780 = .ok (.iload 4, 2) := by decide +kernel
theorem dL_law_782 : decode cL_law 782 = .ok (.iconst 1, 1) := by decide +kernel
theorem dL_law_783 : decode cL_law 783 = .ok (.iadd, 1) := by decide +kernel
theorem dL_law_784 : decode cL_law 784 = .ok (.iaload, 1) := by decide +kernel
theorem dL_law_785 : decode cL_law 785 = .ok (.aload_n 3, 1) := by decide +kernel
theorem dL_law_786 : decode cL_law 786 = .ok (.invokestatic 126, 3) := by decide +kernel
theorem dL_law_789 : decode cL_law 789 = .ok (.istore 5, 2) := by decide +kernel
theorem dL_law_791 : decode cL_law 791 = .ok (.aload_n 2, 1) := by decide +kernel
theorem dL_law_792 : decode cL_law 792 = .ok (.aload_n 0, 1) := by decide +kernel
theorem dL_law_793 : decode cL_law 793 = .ok (.iload 4, 2) := by decide +kernel
theorem dL_law_795 : decode cL_law 795 = .ok (.iconst 1, 1) := by decide +kernel
theorem dL_law_796 : decode cL_law 796 = .ok (.iadd, 1) := by decide +kernel
theorem dL_law_797 : decode cL_law 797 = .ok (.iaload, 1) := by decide +kernel
theorem dL_law_798 : decode cL_law 798 = .ok (.invokevirtual 128, 3) := by decide +kernel
theorem dL_law_801 : decode cL_law 801 = .ok (.istore 6, 2) := by decide +kernel
theorem dL_law_803 : decode cL_law 803 = .ok (.aload_n 2, 1) := by decide +kernel
theorem dL_law_804 : decode cL_law 804 = .ok (.invokevirtual 83, 3) := by decide +kernel
theorem dL_law_807 : decode cL_law 807 = .ok (.iload 5, 2) := by decide +kernel
theorem dL_law_809 : decode cL_law 809 = .ok (.if_icmp .eq 5, 3) := by decide +kernel
theorem dL_law_812 : decode cL_law 812 = .ok (.iconst 0, 1) := by decide +kernel
theorem dL_law_813 : decode cL_law 813 = .ok (.ireturn, 1) := by decide +kernel
theorem dL_law_814 : decode cL_law 814 = .ok (.iload 5, 2) := by decide +kernel
theorem dL_law_816 : decode cL_law 816 = .ok (.ifCond .ne 15, 3) := by decide +kernel
theorem dL_law_819 : decode cL_law 819 = .ok (.aload_n 3, 1) := by decide +kernel
theorem dL_law_820 : decode cL_law 820 = .ok (.iconst 0, 1) := by decide +kernel
theorem dL_law_821 : decode cL_law 821 = .ok (.laload, 1) := by decide +kernel
theorem dL_law_822 : decode cL_law 822 = .ok (.iload 6, 2) := by decide +kernel
theorem dL_law_824 : decode cL_law 824 = .ok (.i2l, 1) := by decide +kernel
theorem dL_law_825 : decode cL_law 825 = .ok (.lcmp, 1) := by decide +kernel
theorem dL_law_826 : decode cL_law 826 = .ok (.ifCond .eq 5, 3) := by decide +kernel
theorem dL_law_829 : decode cL_law 829 = .ok (.iconst 0, 1) := by decide +kernel
theorem dL_law_830 : decode cL_law 830 = .ok (.ireturn, 1) := by decide +kernel
theorem dL_law_831 : decode cL_law 831 = .ok (.goto 468, 3) := by decide +kernel
theorem dL_law_834 : decode cL_law 834 = .ok (.aload_n 1, 1) := by decide +kernel
theorem dL_law_835 : decode cL_law 835 = .ok (.aload_n 3, 1) := by decide +kernel
theorem dL_law_836 : decode cL_law 836 = .ok (.invokestatic 129, 3) := by decide +kernel
theorem dL_law_839 : decode cL_law 839 = .ok (.istore 5, 2) := by decide +kernel
theorem dL_law_841 : decode cL_law 841 = .ok (.aload_n 2, 1) := by decide +kernel
theorem dL_law_842 : decode cL_law 842 = .ok (.invokevirtual 131, 3) := by decide +kernel
theorem dL_law_845 : decode cL_law 845 = .ok (.istore 6, 2) := by decide +kernel
theorem dL_law_847 : decode cL_law 847 = .ok (.aload_n 2, 1) := by decide +kernel
theorem dL_law_848 : decode cL_law 848 = .ok (.invokevirtual 83, 3) := by decide +kernel
theorem dL_law_851 : decode cL_law 851 = .ok (.iload 5, 2) := by decide +kernel
theorem dL_law_853 : decode cL_law 853 = .ok (.if_icmp .eq 5, 3) := by decide +kernel
theorem dL_law_856 : decode cL_law 856 = .ok (.iconst 0, 1) := by decide +kernel
theorem dL_law_857 : decode cL_law 857 = .ok (.ireturn, 1) := by decide +kernel
theorem dL_law_858 : decode cL_law 858 = .ok (.iload 5, 2) := by decide +kernel
theorem dL_law_860 : decode cL_law 860 = .ok (.ifCond .ne 15, 3) := by decide +kernel
theorem dL_law_863 : decode cL_law 863 = .ok (.aload_n 3, 1) := by decide +kernel
theorem dL_law_864 : decode cL_law 864 = .ok (.iconst 0, 1) := by decide +kernel
theorem dL_law_865 : decode cL_law 865 = .ok (.laload, 1) := by decide +kernel
theorem dL_law_866 : decode cL_law 866 = .ok (.iload 6, 2) := by decide +kernel
theorem dL_law_868 : decode cL_law 868 = .ok (.i2l, 1) := by decide +kernel
theorem dL_law_869 : decode cL_law 869 = .ok (.lcmp, 1) := by decide +kernel
theorem dL_law_870 : decode cL_law 870 = .ok (.ifCond .eq 5, 3) := by decide +kernel
theorem dL_law_873 : decode cL_law 873 = .ok (.iconst 0, 1) := by decide +kernel
theorem dL_law_874 : decode cL_law 874 = .ok (.ireturn, 1) := by decide +kernel
theorem dL_law_875 : decode cL_law 875 = .ok (.goto 424, 3) := by decide +kernel
theorem dL_law_878 : decode cL_law 878 = .ok (.aload_n 1, 1) := by decide +kernel
theorem dL_law_879 : decode cL_law 879 = .ok (.aload_n 0, 1) := by decide +kernel
theorem dL_law_880 : decode cL_law 880 = .ok (.iload 4, 2) := by decide +kernel
theorem dL_law_882 : decode cL_law 882 = .ok (.iconst 1, 1) := by decide +kernel
theorem dL_law_883 : decode cL_law 883 = .ok (.iadd, 1) := by decide +kernel
theorem dL_law_884 : decode cL_law 884 = .ok (.iaload, 1) := by decide +kernel
theorem dL_law_885 : decode cL_law 885 = .ok (.aload_n 0, 1) := by decide +kernel
theorem dL_law_886 : decode cL_law 886 = .ok (.iload 4, 2) := by decide +kernel
theorem dL_law_888 : decode cL_law 888 = .ok (.iconst 2, 1) := by decide +kernel
theorem dL_law_889 : decode cL_law 889 = .ok (.iadd, 1) := by decide +kernel
theorem dL_law_890 : decode cL_law 890 = .ok (.iaload, 1) := by decide +kernel
theorem dL_law_891 : decode cL_law 891 = .ok (.aload_n 3, 1) := by decide +kernel
theorem dL_law_892 : decode cL_law 892 = .ok (.invokestatic 132, 3) := by decide +kernel
theorem dL_law_895 : decode cL_law 895 = .ok (.istore 5, 2) := by decide +kernel
theorem dL_law_897 : decode cL_law 897 = .ok (.aload_n 2, 1) := by decide +kernel
theorem dL_law_898 : decode cL_law 898 = .ok (.aload_n 0, 1) := by decide +kernel
theorem dL_law_899 : decode cL_law 899 = .ok (.iload 4, 2) := by decide +kernel
theorem dL_law_901 : decode cL_law 901 = .ok (.iconst 1, 1) := by decide +kernel
theorem dL_law_902 : decode cL_law 902 = .ok (.iadd, 1) := by decide +kernel
theorem dL_law_903 : decode cL_law 903 = .ok (.iaload, 1) := by decide +kernel
theorem dL_law_904 : decode cL_law 904 = .ok (.aload_n 0, 1) := by decide +kernel
theorem dL_law_905 : decode cL_law 905 = .ok (.iload 4, 2) := by decide +kernel
theorem dL_law_907 : decode cL_law 907 = .ok (.iconst 2, 1) := by decide +kernel
theorem dL_law_908 : decode cL_law 908 = .ok (.iadd, 1) := by decide +kernel
theorem dL_law_909 : decode cL_law 909 = .ok (.iaload, 1) := by decide +kernel
theorem dL_law_910 : decode cL_law 910 = .ok (.invokevirtual 134, 3) := by decide +kernel
theorem dL_law_913 : decode cL_law 913 = .ok (.istore 6, 2) := by decide +kernel
theorem dL_law_915 : decode cL_law 915 = .ok (.aload_n 2, 1) := by decide +kernel
theorem dL_law_916 : decode cL_law 916 = .ok (.invokevirtual 83, 3) := by decide +kernel
theorem dL_law_919 : decode cL_law 919 = .ok (.iload 5, 2) := by decide +kernel
theorem dL_law_921 : decode cL_law 921 = .ok (.if_icmp .eq 5, 3) := by decide +kernel
theorem dL_law_924 : decode cL_law 924 = .ok (.iconst 0, 1) := by decide +kernel
theorem dL_law_925 : decode cL_law 925 = .ok (.ireturn, 1) := by decide +kernel
theorem dL_law_926 : decode cL_law 926 = .ok (.iload 5, 2) := by decide +kernel
theorem dL_law_928 : decode cL_law 928 = .ok (.ifCond .ne 15, 3) := by decide +kernel
theorem dL_law_931 : decode cL_law 931 = .ok (.aload_n 3, 1) := by decide +kernel
theorem dL_law_932 : decode cL_law 932 = .ok (.iconst 0, 1) := by decide +kernel
theorem dL_law_933 : decode cL_law 933 = .ok (.laload, 1) := by decide +kernel
theorem dL_law_934 : decode cL_law 934 = .ok (.iload 6, 2) := by decide +kernel
theorem dL_law_936 : decode cL_law 936 = .ok (.i2l, 1) := by decide +kernel
theorem dL_law_937 : decode cL_law 937 = .ok (.lcmp, 1) := by decide +kernel
theorem dL_law_938 : decode cL_law 938 = .ok (.ifCond .eq 5, 3) := by decide +kernel
theorem dL_law_941 : decode cL_law 941 = .ok (.iconst 0, 1) := by decide +kernel
theorem dL_law_942 : decode cL_law 942 = .ok (.ireturn, 1) := by decide +kernel
theorem dL_law_943 : decode cL_law 943 = .ok (.goto 356, 3) := by decide +kernel
theorem dL_law_946 : decode cL_law 946 = .ok (.aload_n 1, 1) := by decide +kernel
theorem dL_law_947 : decode cL_law 947 = .ok (.aload_n 0, 1) := by decide +kernel
theorem dL_law_948 : decode cL_law 948 = .ok (.iload 4, 2) := by decide +kernel
theorem dL_law_950 : decode cL_law 950 = .ok (.iconst 1, 1) := by decide +kernel
theorem dL_law_951 : decode cL_law 951 = .ok (.iadd, 1) := by decide +kernel
theorem dL_law_952 : decode cL_law 952 = .ok (.iaload, 1) := by decide +kernel
theorem dL_law_953 : decode cL_law 953 = .ok (.aload_n 0, 1) := by decide +kernel
theorem dL_law_954 : decode cL_law 954 = .ok (.iload 4, 2) := by decide +kernel
theorem dL_law_956 : decode cL_law 956 = .ok (.iconst 2, 1) := by decide +kernel
theorem dL_law_957 : decode cL_law 957 = .ok (.iadd, 1) := by decide +kernel
theorem dL_law_958 : decode cL_law 958 = .ok (.iaload, 1) := by decide +kernel
theorem dL_law_959 : decode cL_law 959 = .ok (.aload_n 3, 1) := by decide +kernel
theorem dL_law_960 : decode cL_law 960 = .ok (.invokestatic 135, 3) := by decide +kernel
theorem dL_law_963 : decode cL_law 963 = .ok (.istore 5, 2) := by decide +kernel
theorem dL_law_965 : decode cL_law 965 = .ok (.aload_n 2, 1) := by decide +kernel
theorem dL_law_966 : decode cL_law 966 = .ok (.aload_n 0, 1) := by decide +kernel
theorem dL_law_967 : decode cL_law 967 = .ok (.iload 4, 2) := by decide +kernel
theorem dL_law_969 : decode cL_law 969 = .ok (.iconst 1, 1) := by decide +kernel
theorem dL_law_970 : decode cL_law 970 = .ok (.iadd, 1) := by decide +kernel
theorem dL_law_971 : decode cL_law 971 = .ok (.iaload, 1) := by decide +kernel
theorem dL_law_972 : decode cL_law 972 = .ok (.aload_n 0, 1) := by decide +kernel
theorem dL_law_973 : decode cL_law 973 = .ok (.iload 4, 2) := by decide +kernel
theorem dL_law_975 : decode cL_law 975 = .ok (.iconst 2, 1) := by decide +kernel
theorem dL_law_976 : decode cL_law 976 = .ok (.iadd, 1) := by decide +kernel
theorem dL_law_977 : decode cL_law 977 = .ok (.iaload, 1) := by decide +kernel
theorem dL_law_978 : decode cL_law 978 = .ok (.invokevirtual 137, 3) := by decide +kernel
theorem dL_law_981 : decode cL_law 981 = .ok (.istore 6, 2) := by decide +kernel
theorem dL_law_983 : decode cL_law 983 = .ok (.aload_n 2, 1) := by decide +kernel
theorem dL_law_984 : decode cL_law 984 = .ok (.invokevirtual 83, 3) := by decide +kernel
theorem dL_law_987 : decode cL_law 987 = .ok (.iload 5, 2) := by decide +kernel
theorem dL_law_989 : decode cL_law 989 = .ok (.if_icmp .eq 5, 3) := by decide +kernel
theorem dL_law_992 : decode cL_law 992 = .ok (.iconst 0, 1) := by decide +kernel
theorem dL_law_993 : decode cL_law 993 = .ok (.ireturn, 1) := by decide +kernel
theorem dL_law_994 : decode cL_law 994 = .ok (.iload 5, 2) := by decide +kernel
theorem dL_law_996 : decode cL_law 996 = .ok (.ifCond .ne 15, 3) := by decide +kernel
theorem dL_law_999 : decode cL_law 999 = .ok (.aload_n 3, 1) := by decide +kernel
theorem dL_law_1000 : decode cL_law 1000 = .ok (.iconst 0, 1) := by decide +kernel
theorem dL_law_1001 : decode cL_law 1001 = .ok (.laload, 1) := by decide +kernel
theorem dL_law_1002 : decode cL_law 1002 = .ok (.iload 6, 2) := by decide +kernel
theorem dL_law_1004 : decode cL_law 1004 = .ok (.i2l, 1) := by decide +kernel
theorem dL_law_1005 : decode cL_law 1005 = .ok (.lcmp, 1) := by decide +kernel
theorem dL_law_1006 : decode cL_law 1006 = .ok (.ifCond .eq 5, 3) := by decide +kernel
theorem dL_law_1009 : decode cL_law 1009 = .ok (.iconst 0, 1) := by decide +kernel
theorem dL_law_1010 : decode cL_law 1010 = .ok (.ireturn, 1) := by decide +kernel
theorem dL_law_1011 : decode cL_law 1011 = .ok (.goto 288, 3) := by decide +kernel
theorem dL_law_1014 : decode cL_law 1014 = .ok (.aload_n 1, 1) := by decide +kernel
theorem dL_law_1015 : decode cL_law 1015 = .ok (.aload_n 0, 1) := by decide +kernel
theorem dL_law_1016 : decode cL_law 1016 = .ok (.iload 4, 2) := by decide +kernel
theorem dL_law_1018 : decode cL_law 1018 = .ok (.iconst 1, 1) := by decide +kernel
theorem dL_law_1019 : decode cL_law 1019 = .ok (.iadd, 1) := by decide +kernel
theorem dL_law_1020 : decode cL_law 1020 = .ok (.iaload, 1) := by decide +kernel
theorem dL_law_1021 : decode cL_law 1021 = .ok (.aload_n 3, 1) := by decide +kernel
theorem dL_law_1022 : decode cL_law 1022 = .ok (.invokestatic 138, 3) := by decide +kernel
theorem dL_law_1025 : decode cL_law 1025 = .ok (.istore 5, 2) := by decide +kernel
theorem dL_law_1027 : decode cL_law 1027 = .ok (.aload_n 2, 1) := by decide +kernel
theorem dL_law_1028 : decode cL_law 1028 = .ok (.aload_n 0, 1) := by decide +kernel
theorem dL_law_1029 : decode cL_law 1029 = .ok (.iload 4, 2) := by decide +kernel
theorem dL_law_1031 : decode cL_law 1031 = .ok (.iconst 1, 1) := by decide +kernel
theorem dL_law_1032 : decode cL_law 1032 = .ok (.iadd, 1) := by decide +kernel
theorem dL_law_1033 : decode cL_law 1033 = .ok (.iaload, 1) := by decide +kernel
theorem dL_law_1034 : decode cL_law 1034 = .ok (.invokevirtual 140, 3) := by decide +kernel
theorem dL_law_1037 : decode cL_law 1037 = .ok (.istore 6, 2) := by decide +kernel
theorem dL_law_1039 : decode cL_law 1039 = .ok (.aload_n 2, 1) := by decide +kernel
theorem dL_law_1040 : decode cL_law 1040 = .ok (.invokevirtual 83, 3) := by decide +kernel
theorem dL_law_1043 : decode cL_law 1043 = .ok (.iload 5, 2) := by decide +kernel
theorem dL_law_1045 : decode cL_law 1045 = .ok (.if_icmp .eq 5, 3) := by decide +kernel
theorem dL_law_1048 : decode cL_law 1048 = .ok (.iconst 0, 1) := by decide +kernel
theorem dL_law_1049 : decode cL_law 1049 = .ok (.ireturn, 1) := by decide +kernel
theorem dL_law_1050 : decode cL_law 1050 = .ok (.iload 5, 2) := by decide +kernel
theorem dL_law_1052 : decode cL_law 1052 = .ok (.ifCond .ne 15, 3) := by decide +kernel
theorem dL_law_1055 : decode cL_law 1055 = .ok (.aload_n 3, 1) := by decide +kernel
theorem dL_law_1056 : decode cL_law 1056 = .ok (.iconst 0, 1) := by decide +kernel
theorem dL_law_1057 : decode cL_law 1057 = .ok (.laload, 1) := by decide +kernel
theorem dL_law_1058 : decode cL_law 1058 = .ok (.iload 6, 2) := by decide +kernel
theorem dL_law_1060 : decode cL_law 1060 = .ok (.i2l, 1) := by decide +kernel
theorem dL_law_1061 : decode cL_law 1061 = .ok (.lcmp, 1) := by decide +kernel
theorem dL_law_1062 : decode cL_law 1062 = .ok (.ifCond .eq 5, 3) := by decide +kernel
theorem dL_law_1065 : decode cL_law 1065 = .ok (.iconst 0, 1) := by decide +kernel
theorem dL_law_1066 : decode cL_law 1066 = .ok (.ireturn, 1) := by decide +kernel
theorem dL_law_1067 : decode cL_law 1067 = .ok (.goto 232, 3) := by decide +kernel
theorem dL_law_1070 : decode cL_law 1070 = .ok (.aload_n 1, 1) := by decide +kernel
theorem dL_law_1071 : decode cL_law 1071 = .ok (.aload_n 0, 1) := by decide +kernel
theorem dL_law_1072 : decode cL_law 1072 = .ok (.iload 4, 2) := by decide +kernel
theorem dL_law_1074 : decode cL_law 1074 = .ok (.iconst 1, 1) := by decide +kernel
theorem dL_law_1075 : decode cL_law 1075 = .ok (.iadd, 1) := by decide +kernel
theorem dL_law_1076 : decode cL_law 1076 = .ok (.iaload, 1) := by decide +kernel
theorem dL_law_1077 : decode cL_law 1077 = .ok (.aload_n 0, 1) := by decide +kernel
theorem dL_law_1078 : decode cL_law 1078 = .ok (.iload 4, 2) := by decide +kernel
theorem dL_law_1080 : decode cL_law 1080 = .ok (.iconst 2, 1) := by decide +kernel
theorem dL_law_1081 : decode cL_law 1081 = .ok (.iadd, 1) := by decide +kernel
theorem dL_law_1082 : decode cL_law 1082 = .ok (.iaload, 1) := by decide +kernel
theorem dL_law_1083 : decode cL_law 1083 = .ok (.aload_n 0, 1) := by decide +kernel
theorem dL_law_1084 : decode cL_law 1084 = .ok (.iload 4, 2) := by decide +kernel
theorem dL_law_1086 : decode cL_law 1086 = .ok (.iconst 3, 1) := by decide +kernel
theorem dL_law_1087 : decode cL_law 1087 = .ok (.iadd, 1) := by decide +kernel
theorem dL_law_1088 : decode cL_law 1088 = .ok (.iaload, 1) := by decide +kernel
theorem dL_law_1089 : decode cL_law 1089 = .ok (.aload_n 3, 1) := by decide +kernel
theorem dL_law_1090 : decode cL_law 1090 = .ok (.invokestatic 141, 3) := by decide +kernel
theorem dL_law_1093 : decode cL_law 1093 = .ok (.istore 5, 2) := by decide +kernel
theorem dL_law_1095 : decode cL_law 1095 = .ok (.aload_n 2, 1) := by decide +kernel
theorem dL_law_1096 : decode cL_law 1096 = .ok (.aload_n 0, 1) := by decide +kernel
theorem dL_law_1097 : decode cL_law 1097 = .ok (.iload 4, 2) := by decide +kernel
theorem dL_law_1099 : decode cL_law 1099 = .ok (.iconst 1, 1) := by decide +kernel
theorem dL_law_1100 : decode cL_law 1100 = .ok (.iadd, 1) := by decide +kernel
theorem dL_law_1101 : decode cL_law 1101 = .ok (.iaload, 1) := by decide +kernel
theorem dL_law_1102 : decode cL_law 1102 = .ok (.aload_n 0, 1) := by decide +kernel
theorem dL_law_1103 : decode cL_law 1103 = .ok (.iload 4, 2) := by decide +kernel
theorem dL_law_1105 : decode cL_law 1105 = .ok (.iconst 2, 1) := by decide +kernel
theorem dL_law_1106 : decode cL_law 1106 = .ok (.iadd, 1) := by decide +kernel
theorem dL_law_1107 : decode cL_law 1107 = .ok (.iaload, 1) := by decide +kernel
theorem dL_law_1108 : decode cL_law 1108 = .ok (.aload_n 0, 1) := by decide +kernel
theorem dL_law_1109 : decode cL_law 1109 = .ok (.iload 4, 2) := by decide +kernel
theorem dL_law_1111 : decode cL_law 1111 = .ok (.iconst 3, 1) := by decide +kernel
theorem dL_law_1112 : decode cL_law 1112 = .ok (.iadd, 1) := by decide +kernel
theorem dL_law_1113 : decode cL_law 1113 = .ok (.iaload, 1) := by decide +kernel
theorem dL_law_1114 : decode cL_law 1114 = .ok (.invokevirtual 144, 3) := by decide +kernel
theorem dL_law_1117 : decode cL_law 1117 = .ok (.istore 6, 2) := by decide +kernel
theorem dL_law_1119 : decode cL_law 1119 = .ok (.aload_n 2, 1) := by decide +kernel
theorem dL_law_1120 : decode cL_law 1120 = .ok (.invokevirtual 83, 3) := by decide +kernel
theorem dL_law_1123 : decode cL_law 1123 = .ok (.iload 5, 2) := by decide +kernel
theorem dL_law_1125 : decode cL_law 1125 = .ok (.if_icmp .eq 5, 3) := by decide +kernel
theorem dL_law_1128 : decode cL_law 1128 = .ok (.iconst 0, 1) := by decide +kernel
theorem dL_law_1129 : decode cL_law 1129 = .ok (.ireturn, 1) := by decide +kernel
theorem dL_law_1130 : decode cL_law 1130 = .ok (.iload 5, 2) := by decide +kernel
theorem dL_law_1132 : decode cL_law 1132 = .ok (.ifCond .ne 15, 3) := by decide +kernel
theorem dL_law_1135 : decode cL_law 1135 = .ok (.aload_n 3, 1) := by decide +kernel
theorem dL_law_1136 : decode cL_law 1136 = .ok (.iconst 0, 1) := by decide +kernel
theorem dL_law_1137 : decode cL_law 1137 = .ok (.laload, 1) := by decide +kernel
theorem dL_law_1138 : decode cL_law 1138 = .ok (.iload 6, 2) := by decide +kernel
theorem dL_law_1140 : decode cL_law 1140 = .ok (.i2l, 1) := by decide +kernel
theorem dL_law_1141 : decode cL_law 1141 = .ok (.lcmp, 1) := by decide +kernel
theorem dL_law_1142 : decode cL_law 1142 = .ok (.ifCond .eq 5, 3) := by decide +kernel
theorem dL_law_1145 : decode cL_law 1145 = .ok (.iconst 0, 1) := by decide +kernel
theorem dL_law_1146 : decode cL_law 1146 = .ok (.ireturn, 1) := by decide +kernel
theorem dL_law_1147 : decode cL_law 1147 = .ok (.goto 152, 3) := by decide +kernel
theorem dL_law_1150 : decode cL_law 1150 = .ok (.aload_n 1, 1) := by decide +kernel
theorem dL_law_1151 : decode cL_law 1151 = .ok (.aload_n 0, 1) := by decide +kernel
theorem dL_law_1152 : decode cL_law 1152 = .ok (.iload 4, 2) := by decide +kernel
theorem dL_law_1154 : decode cL_law 1154 = .ok (.iconst 1, 1) := by decide +kernel
theorem dL_law_1155 : decode cL_law 1155 = .ok (.iadd, 1) := by decide +kernel
theorem dL_law_1156 : decode cL_law 1156 = .ok (.iaload, 1) := by decide +kernel
theorem dL_law_1157 : decode cL_law 1157 = .ok (.aload_n 0, 1) := by decide +kernel
theorem dL_law_1158 : decode cL_law 1158 = .ok (.iload 4, 2) := by decide +kernel
theorem dL_law_1160 : decode cL_law 1160 = .ok (.iconst 2, 1) := by decide +kernel
theorem dL_law_1161 : decode cL_law 1161 = .ok (.iadd, 1) := by decide +kernel
theorem dL_law_1162 : decode cL_law 1162 = .ok (.iaload, 1) := by decide +kernel
theorem dL_law_1163 : decode cL_law 1163 = .ok (.aload_n 3, 1) := by decide +kernel
theorem dL_law_1164 : decode cL_law 1164 = .ok (.invokestatic 145, 3) := by decide +kernel
theorem dL_law_1167 : decode cL_law 1167 = .ok (.istore 5, 2) := by decide +kernel
theorem dL_law_1169 : decode cL_law 1169 = .ok (.aload_n 2, 1) := by decide +kernel
theorem dL_law_1170 : decode cL_law 1170 = .ok (.aload_n 0, 1) := by decide +kernel
theorem dL_law_1171 : decode cL_law 1171 = .ok (.iload 4, 2) := by decide +kernel
theorem dL_law_1173 : decode cL_law 1173 = .ok (.iconst 1, 1) := by decide +kernel
theorem dL_law_1174 : decode cL_law 1174 = .ok (.iadd, 1) := by decide +kernel
theorem dL_law_1175 : decode cL_law 1175 = .ok (.iaload, 1) := by decide +kernel
theorem dL_law_1176 : decode cL_law 1176 = .ok (.aload_n 0, 1) := by decide +kernel
theorem dL_law_1177 : decode cL_law 1177 = .ok (.iload 4, 2) := by decide +kernel
theorem dL_law_1179 : decode cL_law 1179 = .ok (.iconst 2, 1) := by decide +kernel
theorem dL_law_1180 : decode cL_law 1180 = .ok (.iadd, 1) := by decide +kernel
theorem dL_law_1181 : decode cL_law 1181 = .ok (.iaload, 1) := by decide +kernel
theorem dL_law_1182 : decode cL_law 1182 = .ok (.invokevirtual 147, 3) := by decide +kernel
theorem dL_law_1185 : decode cL_law 1185 = .ok (.istore 6, 2) := by decide +kernel
theorem dL_law_1187 : decode cL_law 1187 = .ok (.aload_n 2, 1) := by decide +kernel
theorem dL_law_1188 : decode cL_law 1188 = .ok (.invokevirtual 83, 3) := by decide +kernel
theorem dL_law_1191 : decode cL_law 1191 = .ok (.iload 5, 2) := by decide +kernel
theorem dL_law_1193 : decode cL_law 1193 = .ok (.if_icmp .eq 5, 3) := by decide +kernel
theorem dL_law_1196 : decode cL_law 1196 = .ok (.iconst 0, 1) := by decide +kernel
theorem dL_law_1197 : decode cL_law 1197 = .ok (.ireturn, 1) := by decide +kernel
theorem dL_law_1198 : decode cL_law 1198 = .ok (.iload 5, 2) := by decide +kernel
theorem dL_law_1200 : decode cL_law 1200 = .ok (.ifCond .ne 15, 3) := by decide +kernel
theorem dL_law_1203 : decode cL_law 1203 = .ok (.aload_n 3, 1) := by decide +kernel
theorem dL_law_1204 : decode cL_law 1204 = .ok (.iconst 0, 1) := by decide +kernel
theorem dL_law_1205 : decode cL_law 1205 = .ok (.laload, 1) := by decide +kernel
theorem dL_law_1206 : decode cL_law 1206 = .ok (.iload 6, 2) := by decide +kernel
theorem dL_law_1208 : decode cL_law 1208 = .ok (.i2l, 1) := by decide +kernel
theorem dL_law_1209 : decode cL_law 1209 = .ok (.lcmp, 1) := by decide +kernel
theorem dL_law_1210 : decode cL_law 1210 = .ok (.ifCond .eq 5, 3) := by decide +kernel
theorem dL_law_1213 : decode cL_law 1213 = .ok (.iconst 0, 1) := by decide +kernel
theorem dL_law_1214 : decode cL_law 1214 = .ok (.ireturn, 1) := by decide +kernel
theorem dL_law_1215 : decode cL_law 1215 = .ok (.goto 84, 3) := by decide +kernel
theorem dL_law_1218 : decode cL_law 1218 = .ok (.aload_n 1, 1) := by decide +kernel
theorem dL_law_1219 : decode cL_law 1219 = .ok (.invokevirtual 148, 3) := by decide +kernel
theorem dL_law_1222 : decode cL_law 1222 = .ok (.aload_n 2, 1) := by decide +kernel
theorem dL_law_1223 : decode cL_law 1223 = .ok (.invokevirtual 151, 3) := by decide +kernel
theorem dL_law_1226 : decode cL_law 1226 = .ok (.if_icmp .eq 73, 3) := by decide +kernel
theorem dL_law_1229 : decode cL_law 1229 = .ok (.iconst 0, 1) := by decide +kernel
theorem dL_law_1230 : decode cL_law 1230 = .ok (.ireturn, 1) := by decide +kernel
theorem dL_law_1231 : decode cL_law 1231 = .ok (.aload_n 1, 1) := by decide +kernel
theorem dL_law_1232 : decode cL_law 1232 = .ok (.invokevirtual 152, 3) := by decide +kernel
theorem dL_law_1235 : decode cL_law 1235 = .ok (.aload_n 2, 1) := by decide +kernel
theorem dL_law_1236 : decode cL_law 1236 = .ok (.invokevirtual 155, 3) := by decide +kernel
theorem dL_law_1239 : decode cL_law 1239 = .ok (.if_icmp .eq 60, 3) := by decide +kernel
theorem dL_law_1242 : decode cL_law 1242 = .ok (.iconst 0, 1) := by decide +kernel
theorem dL_law_1243 : decode cL_law 1243 = .ok (.ireturn, 1) := by decide +kernel
theorem dL_law_1244 : decode cL_law 1244 = .ok (.aload_n 1, 1) := by decide +kernel
theorem dL_law_1245 : decode cL_law 1245 = .ok (.invokevirtual 156, 3) := by decide +kernel
theorem dL_law_1248 : decode cL_law 1248 = .ok (.dstore 5, 2) := by decide +kernel
theorem dL_law_1250 : decode cL_law 1250 = .ok (.aload_n 2, 1) := by decide +kernel
theorem dL_law_1251 : decode cL_law 1251 = .ok (.invokevirtual 160, 3) := by decide +kernel
theorem dL_law_1254 : decode cL_law 1254 = .ok (.dstore 7, 2) := by decide +kernel
theorem dL_law_1256 : decode cL_law 1256 = .ok (.dload 5, 2) := by decide +kernel
theorem dL_law_1258 : decode cL_law 1258 = .ok (.dload 7, 2) := by decide +kernel
theorem dL_law_1260 : decode cL_law 1260 = .ok (.dcmp .l, 1) := by decide +kernel
theorem dL_law_1261 : decode cL_law 1261 = .ok (.ifCond .eq 21, 3) := by decide +kernel
theorem dL_law_1264 : decode cL_law 1264 = .ok (.dload 5, 2) := by decide +kernel
theorem dL_law_1266 : decode cL_law 1266 = .ok (.dload 5, 2) := by decide +kernel
theorem dL_law_1268 : decode cL_law 1268 = .ok (.dcmp .l, 1) := by decide +kernel
theorem dL_law_1269 : decode cL_law 1269 = .ok (.ifCond .eq 11, 3) := by decide +kernel
theorem dL_law_1272 : decode cL_law 1272 = .ok (.dload 7, 2) := by decide +kernel
theorem dL_law_1274 : decode cL_law 1274 = .ok (.dload 7, 2) := by decide +kernel
theorem dL_law_1276 : decode cL_law 1276 = .ok (.dcmp .l, 1) := by decide +kernel
theorem dL_law_1277 : decode cL_law 1277 = .ok (.ifCond .ne 5, 3) := by decide +kernel
theorem dL_law_1280 : decode cL_law 1280 = .ok (.iconst 0, 1) := by decide +kernel
theorem dL_law_1281 : decode cL_law 1281 = .ok (.ireturn, 1) := by decide +kernel
theorem dL_law_1282 : decode cL_law 1282 = .ok (.goto 17, 3) := by decide +kernel
theorem dL_law_1285 : decode cL_law 1285 = .ok (.aload_n 1, 1) := by decide +kernel
theorem dL_law_1286 : decode cL_law 1286 = .ok (.invokevirtual 161, 3) := by decide +kernel
theorem dL_law_1289 : decode cL_law 1289 = .ok (.aload_n 2, 1) := by decide +kernel
theorem dL_law_1290 : decode cL_law 1290 = .ok (.invokevirtual 165, 3) := by decide +kernel
theorem dL_law_1293 : decode cL_law 1293 = .ok (.lcmp, 1) := by decide +kernel
theorem dL_law_1294 : decode cL_law 1294 = .ok (.ifCond .eq 5, 3) := by decide +kernel
theorem dL_law_1297 : decode cL_law 1297 = .ok (.iconst 0, 1) := by decide +kernel
theorem dL_law_1298 : decode cL_law 1298 = .ok (.ireturn, 1) := by decide +kernel
theorem dL_law_1299 : decode cL_law 1299 = .ok (.iinc 4 4, 3) := by decide +kernel
theorem dL_law_1302 : decode cL_law 1302 = .ok (.goto (-1279), 3) := by decide +kernel
theorem dL_law_1305 : decode cL_law 1305 = .ok (.iconst 1, 1) := by decide +kernel
theorem dL_law_1306 : decode cL_law 1306 = .ok (.ireturn, 1) := by decide +kernel
end
section
/-- the kinds of the fields: 0 an int, 1 a long, 2 a reference; by class, in the order of the slots -/
def FK : List (List Nat) := [[0, 2, 0], [2, 2, 2, 2, 2, 2, 0, 0], [2], [2, 2, 2, 2, 2, 2, 2], [2, 0, 2, 2, 0], [2, 2, 0, 0], [2], [2, 2, 2, 2, 0, 2, 2, 2, 2, 2, 0, 2, 2, 2, 0], [0, 2, 2, 0, 2, 2, 2, 0, 2, 2, 2, 0, 2, 2, 2, 2, 0, 2, 0, 2, 2, 2, 2, 2, 2, 1]]
/-- what lies at each place: an object of a class, or an array (0 int, 1 long, 2 boolean, 3 references) of a length -/
def SHl : List (Nat ⊕ (Nat × Nat)) := [.inl 7, .inl 5, .inr (0, 12), .inr (0, 12), .inl 4, .inr (1, 42), .inr (0, 12), .inr (0, 12), .inl 3, .inl 2, .inr (0, 169), .inl 2, .inr (0, 169), .inl 2, .inr (0, 169), .inl 2, .inr (0, 169), .inl 2, .inr (0, 169), .inl 2, .inr (0, 169), .inl 2, .inr (0, 169), .inr (0, 42), .inl 1, .inr (0, 12), .inr (0, 12), .inr (0, 12), .inr (0, 12), .inr (0, 12), .inr (0, 12), .inl 1, .inr (0, 12), .inr (0, 12), .inr (0, 12), .inr (0, 12), .inr (0, 12), .inr (0, 12), .inl 5, .inr (0, 12), .inr (0, 12), .inl 4, .inr (1, 42), .inr (0, 12), .inr (0, 12), .inl 6, .inl 0, .inl 5, .inr (0, 12), .inr (0, 12), .inr (3, 10), .inl 5, .inr (0, 12), .inr (0, 12), .inl 5, .inr (0, 12), .inr (0, 12), .inl 5, .inr (0, 12), .inr (0, 12), .inl 5, .inr (0, 12), .inr (0, 12), .inl 5, .inr (0, 12), .inr (0, 12), .inl 6, .inl 0, .inl 5, .inr (0, 12), .inr (0, 12), .inr (3, 10), .inl 5, .inr (0, 12), .inr (0, 12), .inr (2, 2), .inr (0, 20), .inl 8, .inr (0, 26), .inr (0, 156), .inr (0, 52), .inr (2, 2), .inr (0, 20), .inr (0, 16), .inr (0, 16), .inr (0, 16), .inr (0, 12), .inr (0, 12), .inr (0, 12), .inr (0, 4800), .inr (0, 400), .inr (0, 169), .inr (0, 169), .inr (0, 169), .inr (0, 169), .inr (0, 169), .inr (0, 169), .inr (1, 1)]
/-- the references in the fields of each object -/
def RFl : List (List (Option Nat)) := [[some 1, some 4, some 8, some 23, none, some 24, some 31, some 38, some 41, some 45, none, some 66, some 75, some 76, none], [some 2, some 3, none, none], [], [], [some 5, none, some 6, some 7, none], [], [], [], [some 9, some 11, some 13, some 15, some 17, some 19, some 21], [some 10], [], [some 12], [], [some 14], [], [some 16], [], [some 18], [], [some 20], [], [some 22], [], [], [some 25, some 26, some 27, some 28, some 29, some 30, none, none], [], [], [], [], [], [], [some 32, some 33, some 34, some 35, some 36, some 37, none, none], [], [], [], [], [], [], [some 39, some 40, none, none], [], [], [some 42, none, some 43, some 44, none], [], [], [], [some 46], [none, some 50, none], [some 48, some 49, none, none], [], [], [], [some 52, some 53, none, none], [], [], [some 55, some 56, none, none], [], [], [some 58, some 59, none, none], [], [], [some 61, some 62, none, none], [], [], [some 64, some 65, none, none], [], [], [some 67], [none, some 71, none], [some 69, some 70, none, none], [], [], [], [some 73, some 74, none, none], [], [], [], [], [none, some 78, some 79, none, some 80, some 81, some 82, none, some 83, some 84, some 85, none, some 86, some 87, some 88, some 89, none, some 90, none, some 91, some 92, some 93, some 94, some 95, some 96, none], [], [], [], [], [], [], [], [], [], [], [], [], [], [], [], [], [], [], [], []]
def NN : Nat := 98
end
section
section VL
/-- the good words of the tables: every method's words but its own code -/
def tw : List Cond := lw_tbl.filter goodWord
theorem tw_in {w : Cond} (h : w ∈ lw_tbl) (g : goodWord w = true) : w ∈ tw := List.mem_filter.mpr ⟨h, g⟩
theorem tw_good {w : Cond} (h : w ∈ tw) : goodWord w = true := (List.mem_filter.mp h).2
theorem gi_tw {y : MethodName} {cc : ByteArray} {maxL : Nat} {ret : Option FieldType} (h : Cond.code y cc maxL ret ∈ tw) : GoodIn tw (Cond.code y cc maxL ret :: tw) := by
  intro w hw
  rcases List.mem_cons.mp hw with rfl | hw
  · exact ⟨h, good_of_word (tw_good h)⟩
  · exact ⟨hw, good_of_word (tw_good hw)⟩
/-- what changes: the ints, the longs, the elements of arrays of references; by place and index -/
abbrev Hp : Type := (Nat → Nat → Int32) × (Nat → Nat → Int64) × (Nat → Nat → Option Nat)
def hI (h : Hp) : Nat → Nat → Int32 := h.1
def hL (h : Hp) : Nat → Nat → Int64 := h.2.1
def hR (h : Hp) : Nat → Nat → Option Nat := h.2.2
def u2 {α : Type} (f : Nat → Nat → α) (q j : Nat) (v : α) : Nat → Nat → α := fun a b => if a = q ∧ b = j then v else f a b
def sI (h : Hp) (q j : Nat) (v : Int32) : Hp := (u2 h.1 q j v, h.2)
def sL (h : Hp) (q j : Nat) (v : Int64) : Hp := (h.1, u2 h.2.1 q j v, h.2.2)
def sR (h : Hp) (q j : Nat) (v : Option Nat) : Hp := (h.1, h.2.1, u2 h.2.2 q j v)
def SH (q : Nat) : Nat ⊕ (Nat × Nat) := SHl.getD q (.inl 0)
def RF (q j : Nat) : Option Nat := (RFl.getD q []).getD j none
def fkd (ci j : Nat) : Nat := (FK.getD ci []).getD j 0
def nFd (ci : Nat) : Nat := (FK.getD ci []).length
def vm (σ : Nat → Nat) : Value → Value
  | .ref a => .ref (σ a)
  | v => v
def fvk (σ : Nat → Nat) (q : Nat) (fI : Nat → Int32) (fL : Nat → Int64) (j : Nat) : Nat → Value
  | 0 => .int (fI j)
  | 1 => .long (fL j)
  | _ => va_rf ((RF q j).map σ)
def cek (σ : Nat → Nat) (cA : Nat → ClassId) (q : Nat) (fI : Nat → Int32) (fL : Nat → Int64) (fR : Nat → Option Nat) : Nat ⊕ (Nat × Nat) → va_E
  | .inl ci => .inr (ci, (List.range (nFd ci)).map (fun j => fvk σ q fI fL j (fkd ci j)))
  | .inr (0, n) => .inl (cA 0, n, .inl fI)
  | .inr (1, n) => .inl (cA 1, n, .inr (.inl fL))
  | .inr (2, n) => .inl (cA 2, n, .inl fI)
  | .inr (_, n) => .inl (cA 3, n, .inr (.inr (.inr (.inr (fun j => (fR j).map σ)))))
def ce (σ : Nat → Nat) (cA : Nat → ClassId) (h : Hp) (q : Nat) : va_E := cek σ cA q (hI h q) (hL h q) (hR h q) (SH q)
def wd (σ : Nat → Nat) (cA : Nat → ClassId) (h : Hp) : va_W := (List.range NN).map (fun q => (σ q, ce σ cA h q))
def atys (cA : Nat → ClassId) : List (ClassId × FieldType) := [(cA 0, .int), (cA 1, .long), (cA 2, .boolean), (cA 3, .object "java/lang/Object")]
theorem wd_get {σ : Nat → Nat} {cA : Nat → ClassId} {h : Hp} {q : Nat} (hq : q < NN) : (wd σ cA h)[q]? = some (σ q, ce σ cA h q) := by
  unfold wd
  rw [List.getElem?_map, List.getElem?_range hq]
  rfl
theorem wd_len {σ : Nat → Nat} {cA : Nat → ClassId} {h : Hp} : (wd σ cA h).length = NN := by simp [wd]
theorem wd_at {σ : Nat → Nat} {cA : Nat → ClassId} {h : Hp} {k : Nat} {p : Nat × va_E} (hk : (wd σ cA h)[k]? = some p) : k < NN ∧ p = (σ k, ce σ cA h k) := by
  have hl : k < NN := by
    have := (List.getElem?_eq_some_iff.mp hk).1
    rwa [wd_len] at this
  rw [wd_get hl] at hk
  exact ⟨hl, (Option.some.inj hk).symm⟩
theorem wd_set {σ : Nat → Nat} {cA : Nat → ClassId} {h h' : Hp} {q : Nat} {e : va_E} (hq : q < NN) (he : ce σ cA h' q = e) (ho : ∀ j, j ≠ q → ce σ cA h' j = ce σ cA h j) : (wd σ cA h).set q (σ q, e) = wd σ cA h' := by
  subst he
  apply List.ext_getElem?
  intro i
  by_cases hi : i = q
  · subst hi
    rw [List.getElem?_set_self (by rw [wd_len]; exact hq), wd_get hq]
  · rw [List.getElem?_set_ne (Ne.symm hi)]
    by_cases hl : i < NN
    · rw [wd_get hl, wd_get hl, ho i hi]
    · rw [List.getElem?_eq_none (by rw [wd_len]; omega), List.getElem?_eq_none (by rw [wd_len]; omega)]
theorem u2_ne {α : Type} {f : Nat → Nat → α} {q i j : Nat} {v : α} (hj : j ≠ q) : u2 f q i v j = f j := by
  funext b
  simp [u2, hj]
theorem u2_eq {α : Type} {f : Nat → Nat → α} {q i : Nat} {v : α} : u2 f q i v q = fun b => if b = i then v else f q b := by
  funext b
  simp [u2]
theorem ce_sI {σ : Nat → Nat} {cA : Nat → ClassId} {h : Hp} {q i : Nat} {v : Int32} : ∀ j, j ≠ q → ce σ cA (sI h q i v) j = ce σ cA h j := by
  intro j hj
  show cek σ cA j (u2 h.1 q i v j) _ _ _ = cek σ cA j (h.1 j) _ _ _
  rw [u2_ne hj]
  rfl
theorem ce_sL {σ : Nat → Nat} {cA : Nat → ClassId} {h : Hp} {q i : Nat} {v : Int64} : ∀ j, j ≠ q → ce σ cA (sL h q i v) j = ce σ cA h j := by
  intro j hj
  show cek σ cA j _ (u2 h.2.1 q i v j) _ _ = cek σ cA j _ (h.2.1 j) _ _
  rw [u2_ne hj]
  rfl
theorem ce_sR {σ : Nat → Nat} {cA : Nat → ClassId} {h : Hp} {q i : Nat} {v : Option Nat} : ∀ j, j ≠ q → ce σ cA (sR h q i v) j = ce σ cA h j := by
  intro j hj
  show cek σ cA j _ _ (u2 h.2.2 q i v j) _ = cek σ cA j _ _ (h.2.2 j) _
  rw [u2_ne hj]
  rfl
/-- the addresses are apart, and may be written -/
def adr (σ : Nat → Nat) (A : Nat → Prop) : Prop := (∀ i j, i < NN → j < NN → σ i = σ j → i = j) ∧ ∀ i, i < NN → A (σ i)
theorem adr_D {σ : Nat → Nat} {A : Nat → Prop} {cA : Nat → ClassId} {h : Hp} (a : adr σ A) : va_D A (wd σ cA h) := by
  refine ⟨fun i j p q hi hj e => ?_, fun k q hk => ?_⟩
  · obtain ⟨h1, rfl⟩ := wd_at hi
    obtain ⟨h2, rfl⟩ := wd_at hj
    exact a.1 i j h1 h2 e
  · obtain ⟨h1, rfl⟩ := wd_at hk
    exact a.2 k h1
/-- what a method may write: the world's cells, and those that it makes -/
def AA (σ : Nat → Nat) (sz : Nat) : Nat → Prop := fun q => (∃ k, k < NN ∧ q = σ k) ∨ sz ≤ q
theorem adr_AA {σ : Nat → Nat} {A : Nat → Prop} {sz : Nat} (a : adr σ A) : adr σ (AA σ sz) := ⟨a.1, fun i hi => Or.inl ⟨i, hi, rfl⟩⟩
/-- the locals: what each holds, as far as it is known -/
def prs (σ : Nat → Nat) (L : List (Option Value)) : List (Nat × Value) := (List.range L.length).filterMap (fun i => (L.getD i none).map (fun v => (i, vm σ v)))
def lok (σ : Nat → Nat) (nL : Nat) (L : List (Option Value)) (lr : Array Slot) : Prop := L.length = nL ∧ lv_has lr nL (prs σ L)
theorem prs_mem {σ : Nat → Nat} {L : List (Option Value)} {q : Nat × Value} : q ∈ prs σ L ↔ ∃ v, L[q.1]? = some (some v) ∧ q.2 = vm σ v := by
  unfold prs
  rw [List.mem_filterMap]
  constructor
  · rintro ⟨i, hi, h⟩
    have hl := List.mem_range.mp hi
    rw [List.getD_eq_getElem?_getD, List.getElem?_eq_getElem hl] at h
    cases hv : L[i] with
    | none => simp [hv] at h
    | some v =>
      simp [hv] at h
      refine ⟨v, ?_, by rw [← h]⟩
      rw [← h]
      simp [hl, hv]
  · rintro ⟨v, h1, h2⟩
    have hl := (List.getElem?_eq_some_iff.mp h1).1
    refine ⟨q.1, List.mem_range.mpr hl, ?_⟩
    rw [List.getD_eq_getElem?_getD, h1]
    simp [← h2]
theorem lok_at {σ : Nat → Nat} {nL : Nat} {L : List (Option Value)} {lr : Array Slot} (h : lok σ nL L lr) {i : Nat} {v : Value} (hi : L[i]? = some (some v)) : lr[i]? = some (.val (vm σ v)) :=
  h.2.2.2 (i, vm σ v) (prs_mem.mpr ⟨v, hi, rfl⟩)
theorem vm_cat {σ : Nat → Nat} {v : Value} : (vm σ v).category = v.category := by cases v <;> rfl
/-- an entry whose second half isn't the next one -/
def c1 : Option Value → Bool
  | some v => v.category == 1
  | none => true
def c1l (pre : List (Option Value)) : Bool := match pre.getLast? with
  | some o => c1 o
  | none => true
theorem c1l_at {pre : List (Option Value)} (h : c1l pre = true) {j : Nat} {w : Value} (hj : pre[j]? = some (some w)) (he : j + 1 = pre.length) : w.category = 1 := by
  have e : pre.getLast? = some (some w) := by
    rw [List.getLast?_eq_getElem?, show pre.length - 1 = j by omega]
    exact hj
  unfold c1l at h
  rw [e] at h
  simpa [c1] using h
theorem lok_set1 {σ : Nat → Nat} {nL : Nat} {pre t : List (Option Value)} {b : Option Value} {v : Value} {lr : Array Slot} (hl : (pre ++ b :: t).length = nL) (hp : c1l pre = true)
    (h : lv_has lr nL ((pre.length, vm σ v) :: (prs σ (pre ++ b :: t)).filter (fun q => !(q.1 == pre.length) && !(q.1 + 1 == pre.length && q.2.category == 2)))) : lok σ nL (pre ++ some v :: t) lr := by
  refine ⟨by rw [← hl]; simp, h.1, h.2.1, fun q hq => h.2.2 q ?_⟩
  obtain ⟨w, h1, h2⟩ := prs_mem.mp hq
  by_cases hk : q.1 = pre.length
  · rw [hk, List.getElem?_append_right (Nat.le_refl _), Nat.sub_self] at h1
    simp at h1
    refine List.mem_cons.mpr (Or.inl ?_)
    rw [h1, ← h2, ← hk]
  · refine List.mem_cons_of_mem _ (List.mem_filter.mpr ⟨prs_mem.mpr ⟨w, ?_, h2⟩, ?_⟩)
    · by_cases hlt : q.1 < pre.length
      · rw [List.getElem?_append_left hlt] at h1 ⊢
        exact h1
      · rw [List.getElem?_append_right (by omega)] at h1 ⊢
        obtain ⟨z, hz⟩ : ∃ z, q.1 - pre.length = z + 1 := ⟨q.1 - pre.length - 1, by omega⟩
        rw [hz] at h1 ⊢
        simpa using h1
    · by_cases hlt : q.1 + 1 = pre.length
      · have h3 : pre[q.1]? = some (some w) := by
          rw [List.getElem?_append_left (by omega)] at h1
          exact h1
        have h4 := c1l_at hp h3 hlt
        rw [h2, vm_cat, h4]
        simp [hk]
      · simp [hk, hlt]
theorem lok_set2 {σ : Nat → Nat} {nL : Nat} {pre t : List (Option Value)} {b b2 : Option Value} {v : Value} {lr : Array Slot} (hl : (pre ++ b :: b2 :: t).length = nL) (hp : c1l pre = true)
    (h : lv_has lr nL ((pre.length, vm σ v) :: (prs σ (pre ++ b :: b2 :: t)).filter (fun q => !(q.1 == pre.length) && (!(q.1 == pre.length + 1) && !(q.1 + 1 == pre.length && q.2.category == 2))))) : lok σ nL (pre ++ some v :: none :: t) lr := by
  refine ⟨by rw [← hl]; simp, h.1, h.2.1, fun q hq => h.2.2 q ?_⟩
  obtain ⟨w, h1, h2⟩ := prs_mem.mp hq
  by_cases hk : q.1 = pre.length
  · rw [hk, List.getElem?_append_right (Nat.le_refl _), Nat.sub_self] at h1
    simp at h1
    refine List.mem_cons.mpr (Or.inl ?_)
    rw [h1, ← h2, ← hk]
  · by_cases hk2 : q.1 = pre.length + 1
    · rw [hk2, List.getElem?_append_right (by omega), show pre.length + 1 - pre.length = 1 by omega] at h1
      simp at h1
    · refine List.mem_cons_of_mem _ (List.mem_filter.mpr ⟨prs_mem.mpr ⟨w, ?_, h2⟩, ?_⟩)
      · by_cases hlt : q.1 < pre.length
        · rw [List.getElem?_append_left hlt] at h1 ⊢
          exact h1
        · rw [List.getElem?_append_right (by omega)] at h1 ⊢
          obtain ⟨z, hz⟩ : ∃ z, q.1 - pre.length = z + 2 := ⟨q.1 - pre.length - 2, by omega⟩
          rw [hz] at h1 ⊢
          simpa using h1
      · by_cases hlt : q.1 + 1 = pre.length
        · have h3 : pre[q.1]? = some (some w) := by
            rw [List.getElem?_append_left (by omega)] at h1
            exact h1
          have h4 := c1l_at hp h3 hlt
          rw [h2, vm_cat, h4]
          simp [hk, hk2]
        · simp [hk, hk2, hlt]
/-- what is known of the start, beside the world: the nest's links -/
def nwl : List (String × Nat × MethodName × String) := [("SlantSlate", 18, ⟨"SlantSlate$Readings", "<init>", "()V"⟩, "SlantSlate"), ("SlantSlate", 25, ⟨"SlantSlate$Parts", "<init>", "()V"⟩, "SlantSlate"), ("SlantSlate$Parts", 11, ⟨"SlantSlate$Grid", "<init>", "()V"⟩, "SlantSlate"), ("SlantSlate", 40, ⟨"SlantSlate$Drawing", "<init>", "()V"⟩, "SlantSlate")]
def GE (_ : Nat → Prop) (U : State) (_ : Heap) : Prop := ∀ q ∈ nwl, va_Nw (.methodLinkNest q.1 q.2.1 q.2.2.1 q.2.2.2) U
theorem GE.pass {A B : Nat → Prop} {s U : State} {H H1 : Heap} {locs : List Loc} (h : GE A s H) (_ : va_S A H H1 locs) (hW : s.WarmedH U.vm) (_ : ∀ q, q < H1.size → B q → A q) : GE B U H1 := fun q hq => va_Nw.warmM hW (h q hq)
theorem GE.same {A : Nat → Prop} {u U : State} {H : Heap} (h : GE A u H) (hv : u.vm = U.vm) : GE A U H := fun q hq => va_Nw.same rfl hv (h q hq)
/-- all that a walk stands in: program, launch, env, room, start, method, args, frames below, method, code, classes' numbers, arrays' classes, what may be written, records of draws, the end, the places' addresses, how many locals -/
abbrev Cxt : Type := Program × Launch × Env × Room × State × MethodId × Array Value × List Frame × Method × Code × va_G × (Nat → ClassId) × (Nat → Prop) × (Drawn → Prop) × (State → Prop) × (Nat → Nat) × Nat
/-- from every state with the heap h at the places, with these locals and this stack, the machine comes to its end -/
def V (X : Cxt) (k n pc : Nat) (ls : List (Option Value)) (st : List Value) (h : Hp) : Prop := match X with
  | (p, l, e, R, s, m, args, below, meth, c, D, cA, A, Dp, Q, σ, nL) => ∀ (H : Heap) (locs : List Loc) (d0 : Drawn) (lr : Array Slot), Dp d0 → va_P D vwCl (wd σ cA h) H → va_S A s.heap H locs → lok σ nL ls lr → W p l e R (s.setDrawn d0) m args below meth c H locs k n Q (F0 m pc lr (st.map (vm σ)))
/-- the walk's own facts: own class, code, locals; depth, cells and slots -/
def Gd (X : Cxt) (own : String) (cc : ByteArray) (d kc ks : Nat) : Prop := match X with
  | (p, _, _, R, s, m, args, _, meth, c, D, cA, A, _, _, σ, nL) => p.tables.exec = Jvm.exec ∧ c.code = cc ∧ c.maxLocals = nL ∧ s.vm.findClass own = some m.cls ∧ (∀ w ∈ tw, w.before args s = true) ∧ va_K D vwCl (atys cA) s ∧ adr σ A ∧ (∀ q, s.heap.size ≤ q → A q) ∧ GE A s s.heap ∧ meth.locks = false ∧ d ≤ R.frames ∧ 64 * d ≤ R.locals ∧ kc ≤ R.cells ∧ ks ≤ R.slots
/-- contracts -/
def rmm (d kc ks : Nat) : Room := { frames := d, cells := kc, slots := ks, locals := 64 * d }
def PCd (D : va_G) (cA : Nat → ClassId) (σ : Nat → Nat) (sz : Nat) (av : List Value) (h : Hp) : Array Value → State → Prop := va_Pc (av.map (vm σ)) (fun U => U.heap.size = sz ∧ va_P D vwCl (wd σ cA h) U.heap ∧ va_K D vwCl (atys cA) U ∧ adr σ (fun _ => True) ∧ GE (AA σ sz) U U.heap)
def QCd (D : va_G) (cA : Nat → ClassId) (σ : Nat → Nat) (sz : Nat) (post : Option Value → Hp → Prop) : Array Value → State → Outcome → State → Prop := fun _ st oc t => (∃ (r : Option Value) (h' : Hp), oc = .returned (r.map (vm σ)) ∧ post r h' ∧ va_P D vwCl (wd σ cA h') t.heap) ∧ va_F (AA σ sz) st t
/-- method y, called with av over h, within d frames, kc cells and ks slots, returns r over h' with 'post r h'' -/
def CP (l : Launch) (d kc ks : Nat) (y : MethodName) (bytes : ByteArray) (maxL : Nat) (ret : Option FieldType) (av : List Value) (h : Hp) (post : Option Value → Hp → Prop) : Prop :=
  ∀ (D : va_G) (cA : Nat → ClassId) (σ : Nat → Nat) (sz : Nat), Met l y (Cond.code y bytes maxL ret :: tw) (rmm d kc ks) (PCd D cA σ sz av h) (QCd D cA σ sz post) kc ks (AA σ sz)
/-- the same of a method that may draw -/
def CD (l : Launch) (d kc ks : Nat) (y : MethodName) (bytes : ByteArray) (maxL : Nat) (ret : Option FieldType) (av : List Value) (h : Hp) (post : Option Value → Hp → Prop) : Prop :=
  ∀ (D : va_G) (cA : Nat → ClassId) (σ : Nat → Nat) (sz : Nat), MetD lw_cs l y (Cond.code y bytes maxL ret :: tw) (rmm d kc ks) (PCd D cA σ sz av h) (QCd D cA σ sz post) kc ks (AA σ sz)
def rets (cc : ByteArray) (pc : Nat) (rt : Option FieldType) (r : Option Value) : Prop :=
  (∃ x ty, r = some (.int x) ∧ decode cc pc = .ok (.ireturn, 1) ∧ rt = some ty ∧ narrow ty (.int x) = .int x) ∨ (∃ x, r = some (.long x) ∧ decode cc pc = .ok (.lreturn, 1) ∧ rt = some .long) ∨ (∃ x, r = some (.double x) ∧ decode cc pc = .ok (.dreturn, 1) ∧ rt = some .double) ∨ (r = none ∧ decode cc pc = .ok (.return_, 1) ∧ rt = none) ∨ (∃ q nm, r = some (.ref q) ∧ decode cc pc = .ok (.areturn, 1) ∧ rt = some (.object nm))
/-- the walk's end: any return with the post -/
def Ends (X : Cxt) (cc : ByteArray) (rt : Option FieldType) (kc ks : Nat) (post : Option Value → Hp → Prop) : Prop :=
  ∀ (k n pc : Nat) (ls : List (Option Value)) (h : Hp) (r : Option Value), k ≤ kc → n ≤ ks → rets cc pc rt r → post r h → V X k n pc ls r.toList h
def els : List Value → List (Option Value)
  | [] => []
  | v :: vs => if v.category = 2 then some v :: none :: els vs else some v :: els vs
theorem lv_args_els (σ : Nat → Nat) : ∀ (vs : List Value) (z : Nat) (q : Nat × Value), (∃ v, (els vs)[q.1]? = some (some v) ∧ q.2 = vm σ v) → (z + q.1, q.2) ∈ lv_args z (vs.map (vm σ))
  | [], _, q, h => by
    obtain ⟨v, h1, -⟩ := h
    simp [els] at h1
  | u :: vs, z, q, h => by
    obtain ⟨v, h1, h2⟩ := h
    by_cases hc : u.category = 2
    · rw [els, if_pos hc] at h1
      rw [List.map_cons, lv_args]
      simp only [vm_cat, hc, if_true]
      match hq : q.1, h1 with
      | 0, h1 =>
        simp at h1
        rw [h1, h2]
        exact List.mem_cons_self
      | 1, h1 => simp at h1
      | j + 2, h1 =>
        simp at h1
        have := lv_args_els σ vs (z + 2) (j, q.2) ⟨v, h1, h2⟩
        refine List.mem_cons_of_mem _ ?_
        rw [show z + (j + 2) = z + 2 + j by omega]
        exact this
    · rw [els, if_neg hc] at h1
      rw [List.map_cons, lv_args]
      simp only [vm_cat, hc, if_false]
      match hq : q.1, h1 with
      | 0, h1 =>
        simp at h1
        rw [h1, h2]
        exact List.mem_cons_self
      | j + 1, h1 =>
        simp at h1
        have := lv_args_els σ vs (z + 1) (j, q.2) ⟨v, h1, h2⟩
        refine List.mem_cons_of_mem _ ?_
        rw [show z + (j + 1) = z + 1 + j by omega]
        exact this
theorem els_len : ∀ (vs : List Value) (σ : Nat → Nat), (els vs).length = (lg_sl (vs.map (vm σ))).length
  | [], _ => rfl
  | v :: vs, σ => by
    have ih := els_len vs σ
    by_cases hc : v.category = 2
    · rw [els, if_pos hc]
      simp [lg_sl, vm_cat, hc]
      simpa [lg_sl] using ih
    · rw [els, if_neg hc]
      simp [lg_sl, vm_cat, hc]
      simpa [lg_sl] using ih
theorem lok_entry {σ : Nat → Nat} {vs : List Value} {nL : Nat} {L : List (Option Value)} (hL : els vs ++ List.replicate (nL - (els vs).length) none = L) (hn : (els vs).length ≤ nL) : lok σ nL L ((lg_sl (vs.map (vm σ)) ++ List.replicate (nL - (lg_sl (vs.map (vm σ))).length) Slot.unset).toArray) := by
  subst hL
  have h := lv_entry (vs.map (vm σ)) (n := nL) (by rw [← els_len]; exact hn)
  refine ⟨by simp; omega, h.1, h.2.1, fun q hq => h.2.2 q ?_⟩
  obtain ⟨v, h1, h2⟩ := prs_mem.mp hq
  have h3 : (els vs)[q.1]? = some (some v) := by
    by_cases hl : q.1 < (els vs).length
    · rwa [List.getElem?_append_left hl] at h1
    · rw [List.getElem?_append_right (by omega), List.getElem?_replicate] at h1
      split at h1 <;> cases h1
  have := lv_args_els σ vs 0 q ⟨v, h3, h2⟩
  rwa [Nat.zero_add] at this
theorem adr_of {σ : Nat → Nat} {A : Nat → Prop} (a : adr σ A) (B : Nat → Prop) (hB : ∀ i, i < NN → B (σ i)) : adr σ B := ⟨a.1, hB⟩
set_option maxHeartbeats 1000000 in
theorem CP.ofV {l : Launch} {d kc ks : Nat} {y : MethodName} {cc : ByteArray} {maxL : Nat} {rt : Option FieldType} {av : List Value} {h : Hp} {post : Option Value → Hp → Prop} {L : List (Option Value)} (own : String) (hy : plainName y.cls = true) (ho : y.cls = own) (hn : (els av).length ≤ maxL) (hL : els av ++ List.replicate (maxL - (els av).length) none = L)
    (body : ∀ X : Cxt, X.2.1 = l → Gd X own cc d kc ks → Ends X cc rt kc ks post → V X 0 0 0 L [] h) : CP l d kc ks y cc maxL rt av h post := by
  intro D cA σ sz
  refine Met.ofW (cc := cc) (maxL := maxL) (ret := rt) hy rfl ?_
  intro p e s m args below meth c s₁ B hml hv
  obtain ⟨rfl, hsz, hP, hK, hadr, hGE⟩ := hv
  have hts0 := atoms_spec (ws := Cond.code y cc maxL rt :: tw) B.pre
  have hown : s.vm.findClass own = some m.cls := ho ▸ findClass_of_methodNamed B.named
  have hlocks := B.notSynchronized
  have hret := B.returns
  have hx := B.exec
  have hb := B.bytes
  subst hsz
  have a1 : adr σ (AA σ s.heap.size) := adr_AA hadr
  rw [lg_entry_eq]
  have hl := lok_entry (σ := σ) hL hn
  have key := body (p, l, e, (headSpec (Cond.code y cc maxL rt :: tw) (rmm d kc ks)).room, s, m, (av.map (vm σ)).toArray, below, meth, c, D, cA, AA σ s.heap.size, (fun d0 => d0 = s.drawn), MQ below (QCd D cA σ s.heap.size post) (av.map (vm σ)).toArray s kc ks (AA σ s.heap.size), σ, maxL) rfl
    ⟨hx, hb, hml, hown, fun w hw => hts0 w (List.mem_cons_of_mem _ hw), hK, a1, fun q hq => Or.inr hq, hGE, hlocks, Nat.le_refl _, Nat.le_refl _, Nat.le_refl _, Nat.le_refl _⟩ ?_
  · exact key s.heap [] s.drawn _ rfl hP va_S.rf hl
  · intro k n pc ls h1 r hk hn1 hr hp H locs d0 lr hd0 hP1 hS1 hl1
    subst hd0
    refine W.widen hk hn1 ?_
    have post1 : ∀ t : State, t.heap = H → s.WarmedH t.vm → QCd D cA σ s.heap.size post (av.map (vm σ)).toArray s (.returned (r.map (vm σ))) t := fun t ht _ => ⟨⟨r, h1, rfl, hp, by rw [ht]; exact hP1⟩, hS1.F ht⟩
    rcases hr with ⟨x, ty, rfl, hdg, rfl, hnar⟩ | ⟨x, rfl, hdg, rfl⟩ | ⟨x, rfl, hdg, rfl⟩ | ⟨rfl, hdg, rfl⟩ | ⟨q, nm, rfl, hdg, rfl⟩
    · exact W.zret hx hb hret hnar post1 hS1.2.2 hdg hlocks
    · exact W.lret hx hb hret post1 hS1.2.2 hdg hlocks
    · exact W.dret hx hb hret post1 hS1.2.2 hdg hlocks
    · exact W.vret hx hb hret post1 hS1.2.2 hdg hlocks
    · exact W.aret hx hb hret (Or.inl ⟨_, rfl⟩) (Or.inr ⟨_, rfl⟩) post1 hS1.2.2 hdg hlocks
end VL
end
section
/-! THE CLAIM OUT OF ONE WALK OF THE LAW'S BODY. Your part is whole_start (and what it stands on); all else here is the same for every law, but numbers. -/
def R_law : String := "SlantSlateLaw"
def lw_P (b : Addr) (xs : List Int32) (args : Array Value) (s : State) : Prop := args = #[.ref b] ∧ s.IntsAt b xs ∧ xs.length ≤ 2048 ∧ (Jvm.Cond.and given_1 narrow_1).before args s = true
/-- what a walk over the start with the record d0 says of its end, said of the start itself -/
theorem lw_closed {s t : State} {o : Outcome} {d0 : Drawn} {L : List Loc} {k n : Nat} (hd0 : s.drawn.sameBut d0 lw_cs) (hv : ∃ v, o = .returned v) (hW : (s.setDrawn d0).WarmedH t.vm) (hs : (s.setDrawn d0).sameButNew ({ t with vm := s.vm } : State) L k n) : State.butDraws s t lw_cs (fun t1 => Framed s o t1 L k n) := by
  have h2 : t.drawn = d0 := congrArg State.drawn hs.1
  refine ⟨⟨hv, hW, State.sameButNew.setDrawn hs s.drawn⟩, ?_, by decide⟩
  rw [h2]
  exact hd0
def lw_Q (_ : Array Value) (s : State) (o : Outcome) (t : State) : Prop := o = .returned (some (.int 1)) ∧ State.butDraws s t lw_cs (fun t1 => Framed s o t1 [] 601024 7293034)
def lw_Z (below : List Frame) (a : Array Value) (s : State) : State → Prop := fun t => ∃ o, t.status = .running ∧ Ended t below o ∧ lw_Q a s o t
/-- the law's own end, with 1 on the stack, nothing written that was there before, its room as the claim has it; d0: the record of draws at this point (at the entry s.drawn: begin with 'refine W.base ?_' and 'have hd0 := Drawn.sameBut.refl s.drawn lw_cs') -/
theorem lw_ret {p : Program} {l : Launch} {e : Env} {s : State} {m : MethodId} {below : List Frame} {meth : Method} {c : Code} {b : Nat} {d0 : Drawn} (hd0 : s.drawn.sameBut d0 lw_cs) (hx : p.tables.exec = Jvm.exec) (hb : c.code = code) (hr : meth.sig.returnType = ret) (hlocks : meth.locks = false) {pc : Nat} {H : Heap} {ls : Array Slot} (hdg : decode code pc = .ok (.ireturn, 1)) : W p l e room_1 (s.setDrawn d0) m #[Value.ref b] below meth c H [] 601024 7293034 (lw_Z below #[Value.ref b] s) (F0 m pc ls [.int 1]) := by
  intro T hT X
  obtain ⟨fs, hret, hrun, hended, hW, hframe⟩ := X.leave (v := some (.int 1)) (hlocks := hlocks) (fun h => by rw [hr] at h; cases h)
  have hmeth' : T.vm.method? m = some meth := X.method'
  refine ⟨T.setFrames fs, ?_, .returned (some (.int 1)), hrun, hended, rfl, lw_closed hd0 ⟨_, rfl⟩ hW hframe⟩
  jvm_step X.here [X.here.top, hx, hb, hdg, hmeth', hr, ret, narrow_b1]
  (try refine ⟨rfl, ?_⟩); (try refine ⟨rfl, ?_⟩)
  first | (intro acts; rw [hret _ acts rfl rfl rfl]) | rw [hret _ _ rfl rfl rfl]
  exact Steps.refl _
/-- what holds at the law's entry: the machine, the code, the tables' words (any of lw_tbl by 'hts w (by decide +kernel)'), the script of L ints xs at the cell b, what the Statement gives of the start (any of its parts by flat_of_before) -/
def lw_At (p : Program) (s : State) (m : MethodId) (meth : Method) (c : Code) (b L : Nat) (xs : Nat → Int32) : Prop :=
  p.tables.exec = Jvm.exec ∧ c.code = code ∧ meth.sig.returnType = ret ∧ c.maxLocals = 9 ∧ s.vm.findClass R_law = some m.cls ∧ (∀ w ∈ lw_tbl, w.before #[Value.ref b] s = true) ∧ va_X b L xs s s.heap ∧ b < s.heap.size ∧ meth.locks = false ∧ (Jvm.Cond.and given_1 narrow_1).before #[Value.ref b] s = true
-- ===== YOUR PART BEGINS =====
/-- YOUR PART: from the entry, for every script of at most 2048 ints, the law comes to its end with true ('hflags': the launch's flags, for a law that throws: no stack traces) -/
theorem whole_start {p : Program} {e : Env} {s : State} {m : MethodId} {below : List Frame} {meth : Method} {c : Code} (l : Launch) (hflags : l.flags = flags0) {b L : Nat} {xs : Nat → Int32} (hL : L ≤ 2048) (C0 : lw_At p s m meth c b L xs) : W p l e room_1 s m #[Value.ref b] below meth c s.heap [] 0 0 (lw_Z below #[Value.ref b] s) (entryFrame m ([Value.ref b] : List Value).toArray 9) := by
  sorry
-- ===== YOUR PART ENDS =====
set_option maxHeartbeats 4000000 in
theorem lw_walk (l : Launch) (hflags : l.flags = flags0) (b : Addr) (xs : List Int32) : MetFree l x (headSpec (Jvm.Cond.code x code maxLocals ret :: tables_1) room_1) (lw_P b xs) (fun _ _ _ _ _ => True) lw_Q := by
  refine MetFree.of_bodyS (code := code) (maxLocals := maxLocals) (ret := ret) (by decide) ?_ ?_
  · intro args s m h hn
    obtain ⟨meth, c, h1, h2, h3, h4, h5, h6, -, -⟩ := Cond.code_spec hn (atoms_spec (ws := Jvm.Cond.code x code maxLocals ret :: tables_1) h _ List.mem_cons_self)
    exact ⟨meth, c, h1, h2, h3, h4, h5, h6⟩
  · intro p e s m args below meth c s₁ B hml0 hP _
    obtain ⟨rfl, hx, hbd, hgv⟩ := hP
    obtain ⟨scr, harrAt, hlist, hof, hsmall⟩ := hx
    obtain ⟨hcb, hkn, -, -⟩ := State.arrayAt?_spec harrAt
    have hown : s.vm.findClass R_law = some m.cls := findClass_of_methodNamed B.named
    have hts0 : ∀ c ∈ (Jvm.Cond.code x code maxLocals ret :: tables_1), c.before #[Value.ref b] s = true := atoms_spec (ws := Jvm.Cond.code x code maxLocals ret :: tables_1) B.pre
    have hts : ∀ w ∈ lw_tbl, w.before #[Value.ref b] s = true := k2_hts_sels lw_privs (fun w hw => hts0 w (List.mem_cons_of_mem _ hw)) lw_privs_ok
    have hml : c.maxLocals = 9 := B.maxLocals_eq (hts0 _ List.mem_cons_self)
    have X₀ : Stand p l e room_1 s m #[Value.ref b] below meth c s₁ [] 0 0 := Stand.of_body B
    have hh0 : s₁.heap = s.heap := by rw [B.state]; rfl
    have hsz : scr.slots.size = xs.length := by rw [← Array.length_toList, hlist, List.length_map]
    have hval : ∀ j : Nat, j < xs.length → scr.slots[j]? = some (.int (xs.getD j 0)) := fun j hj => by
      rw [← Array.getElem?_toList, hlist]
      simp [hj]
    have hbl : b < s.heap.size := (Array.getElem?_eq_some_iff.mp hcb).1
    have hX : va_X b xs.length (fun j => xs.getD j 0) s s.heap := ⟨scr, hcb, hof, hkn, hsz, hval⟩
    have K : W p l e room_1 s m #[Value.ref b] below meth c s₁.heap [] 0 0 (lw_Z below #[Value.ref b] s) (entryFrame m ([Value.ref b] : List Value).toArray 9) := by
      rw [hh0]
      exact whole_start l hflags hbd ⟨B.exec, B.bytes, B.returns, hml, hown, hts, hX, hbl, B.notSynchronized, hgv⟩
    obtain ⟨t, a1, o, b1, b2, b3⟩ := K s₁ rfl X₀
    exact ⟨t, o, a1, b1, b2, b3⟩
theorem lw_pre_spec {args : Array Value} {s : State} (h : (Jvm.Cond.and given_1 narrow_1).before args s = true) (hr : rest_1_c.before args s = true) : ∃ (b : Addr) (xs : List Int32), lw_P b xs args s := by
  have hs := flat_of_before _ h
  have hq := flat_of_before _ hr
  have hc : (Cond.count 1).before args s = true := hs _ (by decide +kernel)
  have harr : (Cond.arrayOf (.arg 0) .int).before args s = true := hs _ (by decide +kernel)
  have hle : (Cond.le (.length (.arg 0)) (.int 2048)).before args s = true := hs _ (by decide +kernel)
  have hlen : (Cond.isInt (.length (.arg 0))).before args s = true := hq _ (by decide +kernel)
  have hall : (Cond.all (.arg 0) (.isInt (.elem (.arg 0) (.index 0)))).before args s = true := hq _ (by decide +kernel)
  obtain ⟨b, xs, hb, hx⟩ := State.ints_of_pre rfl harr hlen hall
  have hsm : xs.length < 2 ^ 31 := hx.choose_spec.2.2.2
  have hev : (Term.length (.arg 0)).eval args s none [] s = some (.int xs.length.toInt32) := hx.length_eval hb
  have hv := Cond.le_ints hev (show (Term.int 2048).eval args s none [] s = some (.int 2048) from rfl)
  have hd : xs.length.toInt32 ≤ 2048 := by
    simpa [Cond.before, Cond.holds, hv] using hle
  have hN : xs.length ≤ 2048 := (Int32.ofNat_le_ofNat hsm (by decide)).mp (show Int32.ofNat xs.length ≤ Int32.ofNat 2048 from hd)
  exact ⟨b, xs, Cond.one_arg hc (show args[0]? = some (.ref b) from hb), hx, hN, h⟩
theorem lw_comes (l : Launch) (hflags : l.flags = flags0) : Comes l x (Jvm.Cond.code x code maxLocals ret :: tables_1) room_1 (fun tb e args s => Calls_1 tb e args s ∧ rest_1 tb e args s ∧ Pre_1 tb e args s)
    (fun _ _ args s o t => lw_Q args s o t) := by
  intro p e ha hc hk s m args below hf hfit hheap happ hpre
  obtain ⟨b, xs, hP⟩ := lw_pre_spec hpre.2.2 hpre.2.1
  obtain ⟨k, o, h1, h2, h3, hQ⟩ := lw_walk l hflags b xs p e ha hc hk s m args below hf ((Spec.applies_iff_loose hf).mp happ).1 hP trivial
  exact ⟨k, o, h1, h2, h3, hQ⟩
theorem lw_frame {s t : State} {o : Outcome} {args : Array Value} (h : State.butDraws s t lw_cs (fun t1 => Framed s o t1 [] 601024 7293034)) :
    State.butDraws s t [Jvm.Choice.named "NaN.bits"] (fun t1 => Framed s o t1 (fieldLocs frame_1_writes args s ++ arrayLocs frame_1_arrays args s ++ staticLocs frame_1_statics s) 601024 7293034) := h
theorem lw_limb (L : Cond) (hL : ∀ (args : Array Value) (s t : State), L.after args s (.returned (some (.int 1))) t = true) :
    ArmFor flags0 classFile x code maxLocals ret World_1 tables_1 room_1 Calls_1 rest_1 Pre_1
      (fun tb e a s o t => postC L tb e a s o t ∧ State.butDraws s t [Jvm.Choice.named "NaN.bits"] (fun t1 => Framed s o t1 (fieldLocs frame_1_writes a s ++ arrayLocs frame_1_arrays a s ++ staticLocs frame_1_statics s) 601024 7293034)) := by
  intro l hflags _ _ p e ha hc hk s m args below hf hfit hheap happ hpre
  obtain ⟨k, o, h1, h2, h3, rfl, hF⟩ := lw_comes l hflags p e ha hc hk s m args below hf hfit hheap happ hpre
  exact ⟨k, _, h1, h2, h3, hL args s _, lw_frame hF⟩
theorem i_vc : Claimed_1_1 ∧ Claimed_1_2 := ⟨lw_limb limb_1_1 (fun args s t => by simp [limb_1_1, Cond.after, Cond.holds, Cond.value]), lw_limb limb_1_2 (fun args s t => Cond.after_iff.mpr (by
  first | (rw [show limb_1_2 = Cond.eq .result (.int 1) from rfl, Cond.eq_ints (x := 1) (y := 1) rfl rfl]; simp; done) | (simp [limb_1_2, Cond.value, Term.eval]; done)))⟩
end
