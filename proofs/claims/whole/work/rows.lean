section
-- ===== PART A: goes FIRST, ahead of the names: the tables' words, and 'selects' of the private methods out of them =====
/-- a private method of a class that the tables say can be made, by its rows of tables_1 -/
def lw_okq (q : MethodName × Nat) : Prop := (q.1.cls ≠ "java/lang/invoke/MethodHandle" ∧ q.1.cls ≠ "java/lang/invoke/VarHandle") ∧ Cond.instantiable q.1.cls q.2 ∈ tables_1 ∧ Cond.privateMethod q.1 ∈ tables_1 ∧ Cond.instanceMethod q.1 ∈ tables_1
theorem lw_p0 : lw_okq (⟨"SafeSenate", "refuse", "(I)I"⟩, 12) := ⟨⟨by decide +kernel, by decide +kernel⟩, List.mem_of_getElem? (i := 24) (by decide +kernel), List.mem_of_getElem? (i := 427) (by decide +kernel), List.mem_of_getElem? (i := 428) (by decide +kernel)⟩
theorem lw_p1 : lw_okq (⟨"SafeSenate$Reader", "readToken", "(I)I"⟩, 13) := ⟨⟨by decide +kernel, by decide +kernel⟩, List.mem_of_getElem? (i := 38) (by decide +kernel), List.mem_of_getElem? (i := 446) (by decide +kernel), List.mem_of_getElem? (i := 447) (by decide +kernel)⟩
theorem lw_p2 : lw_okq (⟨"SafeSenate$Reader", "readWord", "(I)I"⟩, 13) := ⟨⟨by decide +kernel, by decide +kernel⟩, List.mem_of_getElem? (i := 38) (by decide +kernel), List.mem_of_getElem? (i := 453) (by decide +kernel), List.mem_of_getElem? (i := 454) (by decide +kernel)⟩
theorem lw_p3 : lw_okq (⟨"SafeSenate$Reader", "isSpelt", "(Ljava/lang/String;II)Z"⟩, 13) := ⟨⟨by decide +kernel, by decide +kernel⟩, List.mem_of_getElem? (i := 38) (by decide +kernel), List.mem_of_getElem? (i := 481) (by decide +kernel), List.mem_of_getElem? (i := 482) (by decide +kernel)⟩
theorem lw_p4 : lw_okq (⟨"SafeSenate$Reader", "readWhole", "(I)I"⟩, 13) := ⟨⟨by decide +kernel, by decide +kernel⟩, List.mem_of_getElem? (i := 38) (by decide +kernel), List.mem_of_getElem? (i := 536) (by decide +kernel), List.mem_of_getElem? (i := 537) (by decide +kernel)⟩
theorem lw_p5 : lw_okq (⟨"SafeSenate$Parser", "hearLine", "()Z"⟩, 11) := ⟨⟨by decide +kernel, by decide +kernel⟩, List.mem_of_getElem? (i := 32) (by decide +kernel), List.mem_of_getElem? (i := 546) (by decide +kernel), List.mem_of_getElem? (i := 547) (by decide +kernel)⟩
theorem lw_p6 : lw_okq (⟨"SafeSenate$Parser", "fail", "(I)Z"⟩, 11) := ⟨⟨by decide +kernel, by decide +kernel⟩, List.mem_of_getElem? (i := 32) (by decide +kernel), List.mem_of_getElem? (i := 550) (by decide +kernel), List.mem_of_getElem? (i := 551) (by decide +kernel)⟩
theorem lw_p7 : lw_okq (⟨"SafeSenate$Parser", "hearSafe", "()Z"⟩, 11) := ⟨⟨by decide +kernel, by decide +kernel⟩, List.mem_of_getElem? (i := 32) (by decide +kernel), List.mem_of_getElem? (i := 554) (by decide +kernel), List.mem_of_getElem? (i := 555) (by decide +kernel)⟩
theorem lw_p8 : lw_okq (⟨"SafeSenate$Parser", "hearNumber", "(III)Z"⟩, 11) := ⟨⟨by decide +kernel, by decide +kernel⟩, List.mem_of_getElem? (i := 32) (by decide +kernel), List.mem_of_getElem? (i := 559) (by decide +kernel), List.mem_of_getElem? (i := 560) (by decide +kernel)⟩
theorem lw_p9 : lw_okq (⟨"SafeSenate$Parser", "hearWord", "(I)Z"⟩, 11) := ⟨⟨by decide +kernel, by decide +kernel⟩, List.mem_of_getElem? (i := 32) (by decide +kernel), List.mem_of_getElem? (i := 563) (by decide +kernel), List.mem_of_getElem? (i := 564) (by decide +kernel)⟩
theorem lw_p10 : lw_okq (⟨"SafeSenate$Parser", "hearHook", "()Z"⟩, 11) := ⟨⟨by decide +kernel, by decide +kernel⟩, List.mem_of_getElem? (i := 32) (by decide +kernel), List.mem_of_getElem? (i := 567) (by decide +kernel), List.mem_of_getElem? (i := 568) (by decide +kernel)⟩
theorem lw_p11 : lw_okq (⟨"SafeSenate$Parser", "hearNewName", "(II)Z"⟩, 11) := ⟨⟨by decide +kernel, by decide +kernel⟩, List.mem_of_getElem? (i := 32) (by decide +kernel), List.mem_of_getElem? (i := 571) (by decide +kernel), List.mem_of_getElem? (i := 572) (by decide +kernel)⟩
theorem lw_p12 : lw_okq (⟨"SafeSenate$Parser", "isName", "()Z"⟩, 11) := ⟨⟨by decide +kernel, by decide +kernel⟩, List.mem_of_getElem? (i := 32) (by decide +kernel), List.mem_of_getElem? (i := 575) (by decide +kernel), List.mem_of_getElem? (i := 576) (by decide +kernel)⟩
theorem lw_p13 : lw_okq (⟨"SafeSenate$Parser", "nameIndex", "()I"⟩, 11) := ⟨⟨by decide +kernel, by decide +kernel⟩, List.mem_of_getElem? (i := 32) (by decide +kernel), List.mem_of_getElem? (i := 579) (by decide +kernel), List.mem_of_getElem? (i := 580) (by decide +kernel)⟩
theorem lw_p14 : lw_okq (⟨"SafeSenate$Parser", "hearSenator", "()Z"⟩, 11) := ⟨⟨by decide +kernel, by decide +kernel⟩, List.mem_of_getElem? (i := 32) (by decide +kernel), List.mem_of_getElem? (i := 583) (by decide +kernel), List.mem_of_getElem? (i := 584) (by decide +kernel)⟩
theorem lw_p15 : lw_okq (⟨"SafeSenate$Parser", "hearKind", "(I)Z"⟩, 11) := ⟨⟨by decide +kernel, by decide +kernel⟩, List.mem_of_getElem? (i := 32) (by decide +kernel), List.mem_of_getElem? (i := 587) (by decide +kernel), List.mem_of_getElem? (i := 588) (by decide +kernel)⟩
def lw_privs_1 : List (MethodName × Nat) := [(⟨"SafeSenate", "refuse", "(I)I"⟩, 12), (⟨"SafeSenate$Reader", "readToken", "(I)I"⟩, 13), (⟨"SafeSenate$Reader", "readWord", "(I)I"⟩, 13), (⟨"SafeSenate$Reader", "isSpelt", "(Ljava/lang/String;II)Z"⟩, 13), (⟨"SafeSenate$Reader", "readWhole", "(I)I"⟩, 13), (⟨"SafeSenate$Parser", "hearLine", "()Z"⟩, 11), (⟨"SafeSenate$Parser", "fail", "(I)Z"⟩, 11), (⟨"SafeSenate$Parser", "hearSafe", "()Z"⟩, 11), (⟨"SafeSenate$Parser", "hearNumber", "(III)Z"⟩, 11), (⟨"SafeSenate$Parser", "hearWord", "(I)Z"⟩, 11), (⟨"SafeSenate$Parser", "hearHook", "()Z"⟩, 11), (⟨"SafeSenate$Parser", "hearNewName", "(II)Z"⟩, 11), (⟨"SafeSenate$Parser", "isName", "()Z"⟩, 11), (⟨"SafeSenate$Parser", "nameIndex", "()I"⟩, 11), (⟨"SafeSenate$Parser", "hearSenator", "()Z"⟩, 11), (⟨"SafeSenate$Parser", "hearKind", "(I)Z"⟩, 11)]
theorem lw_r1 : ∀ q ∈ lw_privs_1, lw_okq q := List.forall_mem_cons.mpr ⟨lw_p0, List.forall_mem_cons.mpr ⟨lw_p1, List.forall_mem_cons.mpr ⟨lw_p2, List.forall_mem_cons.mpr ⟨lw_p3, List.forall_mem_cons.mpr ⟨lw_p4, List.forall_mem_cons.mpr ⟨lw_p5, List.forall_mem_cons.mpr ⟨lw_p6, List.forall_mem_cons.mpr ⟨lw_p7, List.forall_mem_cons.mpr ⟨lw_p8, List.forall_mem_cons.mpr ⟨lw_p9, List.forall_mem_cons.mpr ⟨lw_p10, List.forall_mem_cons.mpr ⟨lw_p11, List.forall_mem_cons.mpr ⟨lw_p12, List.forall_mem_cons.mpr ⟨lw_p13, List.forall_mem_cons.mpr ⟨lw_p14, List.forall_mem_cons.mpr ⟨lw_p15, fun _ h => absurd h List.not_mem_nil⟩⟩⟩⟩⟩⟩⟩⟩⟩⟩⟩⟩⟩⟩⟩⟩
theorem lw_p16 : lw_okq (⟨"SafeSenate$Parser", "hearFreeHook", "(I)Z"⟩, 11) := ⟨⟨by decide +kernel, by decide +kernel⟩, List.mem_of_getElem? (i := 32) (by decide +kernel), List.mem_of_getElem? (i := 591) (by decide +kernel), List.mem_of_getElem? (i := 592) (by decide +kernel)⟩
theorem lw_p17 : lw_okq (⟨"SafeSenate$Parser", "toldNumber", "(I)I"⟩, 11) := ⟨⟨by decide +kernel, by decide +kernel⟩, List.mem_of_getElem? (i := 32) (by decide +kernel), List.mem_of_getElem? (i := 595) (by decide +kernel), List.mem_of_getElem? (i := 596) (by decide +kernel)⟩
theorem lw_p18 : lw_okq (⟨"SafeSenate$Parser", "hearAct", "()Z"⟩, 11) := ⟨⟨by decide +kernel, by decide +kernel⟩, List.mem_of_getElem? (i := 32) (by decide +kernel), List.mem_of_getElem? (i := 599) (by decide +kernel), List.mem_of_getElem? (i := 600) (by decide +kernel)⟩
theorem lw_p19 : lw_okq (⟨"SafeSenate$Parser", "hearFor", "()Z"⟩, 11) := ⟨⟨by decide +kernel, by decide +kernel⟩, List.mem_of_getElem? (i := 32) (by decide +kernel), List.mem_of_getElem? (i := 603) (by decide +kernel), List.mem_of_getElem? (i := 604) (by decide +kernel)⟩
theorem lw_p20 : lw_okq (⟨"SafeSenate$Parser", "hearRests", "()Z"⟩, 11) := ⟨⟨by decide +kernel, by decide +kernel⟩, List.mem_of_getElem? (i := 32) (by decide +kernel), List.mem_of_getElem? (i := 607) (by decide +kernel), List.mem_of_getElem? (i := 608) (by decide +kernel)⟩
theorem lw_p21 : lw_okq (⟨"SafeSenate$Parser", "hearDoubted", "()Z"⟩, 11) := ⟨⟨by decide +kernel, by decide +kernel⟩, List.mem_of_getElem? (i := 32) (by decide +kernel), List.mem_of_getElem? (i := 611) (by decide +kernel), List.mem_of_getElem? (i := 612) (by decide +kernel)⟩
theorem lw_p22 : lw_okq (⟨"SafeSenate$Parser", "hearOutcome", "(Z)Z"⟩, 11) := ⟨⟨by decide +kernel, by decide +kernel⟩, List.mem_of_getElem? (i := 32) (by decide +kernel), List.mem_of_getElem? (i := 615) (by decide +kernel), List.mem_of_getElem? (i := 616) (by decide +kernel)⟩
theorem lw_p23 : lw_okq (⟨"SafeSenate", "grant", "(I)I"⟩, 12) := ⟨⟨by decide +kernel, by decide +kernel⟩, List.mem_of_getElem? (i := 24) (by decide +kernel), List.mem_of_getElem? (i := 634) (by decide +kernel), List.mem_of_getElem? (i := 635) (by decide +kernel)⟩
theorem lw_p24 : lw_okq (⟨"SafeSenate", "lacksSenator", "(I)Z"⟩, 12) := ⟨⟨by decide +kernel, by decide +kernel⟩, List.mem_of_getElem? (i := 24) (by decide +kernel), List.mem_of_getElem? (i := 650) (by decide +kernel), List.mem_of_getElem? (i := 651) (by decide +kernel)⟩
theorem lw_p25 : lw_okq (⟨"SafeSenate$Plan", "airAt", "(I)I"⟩, 17) := ⟨⟨by decide +kernel, by decide +kernel⟩, List.mem_of_getElem? (i := 92) (by decide +kernel), List.mem_of_getElem? (i := 666) (by decide +kernel), List.mem_of_getElem? (i := 667) (by decide +kernel)⟩
theorem lw_p26 : lw_okq (⟨"SafeSenate", "lacksAct", "(I)Z"⟩, 12) := ⟨⟨by decide +kernel, by decide +kernel⟩, List.mem_of_getElem? (i := 24) (by decide +kernel), List.mem_of_getElem? (i := 686) (by decide +kernel), List.mem_of_getElem? (i := 687) (by decide +kernel)⟩
theorem lw_p27 : lw_okq (⟨"SafeSenate", "goingNow", "()I"⟩, 12) := ⟨⟨by decide +kernel, by decide +kernel⟩, List.mem_of_getElem? (i := 24) (by decide +kernel), List.mem_of_getElem? (i := 690) (by decide +kernel), List.mem_of_getElem? (i := 691) (by decide +kernel)⟩
theorem lw_p28 : lw_okq (⟨"SafeSenate", "lacksSafe", "()Z"⟩, 12) := ⟨⟨by decide +kernel, by decide +kernel⟩, List.mem_of_getElem? (i := 24) (by decide +kernel), List.mem_of_getElem? (i := 736) (by decide +kernel), List.mem_of_getElem? (i := 737) (by decide +kernel)⟩
theorem lw_p29 : lw_okq (⟨"SafeSenate", "goodNow", "()I"⟩, 12) := ⟨⟨by decide +kernel, by decide +kernel⟩, List.mem_of_getElem? (i := 24) (by decide +kernel), List.mem_of_getElem? (i := 740) (by decide +kernel), List.mem_of_getElem? (i := 741) (by decide +kernel)⟩
theorem lw_p30 : lw_okq (⟨"SafeSenate", "lastsNow", "()I"⟩, 12) := ⟨⟨by decide +kernel, by decide +kernel⟩, List.mem_of_getElem? (i := 24) (by decide +kernel), List.mem_of_getElem? (i := 766) (by decide +kernel), List.mem_of_getElem? (i := 767) (by decide +kernel)⟩
theorem lw_p31 : lw_okq (⟨"SafeSenate$Hanging", "begin", "(LSafeSenate$Plan;I)V"⟩, 9) := ⟨⟨by decide +kernel, by decide +kernel⟩, List.mem_of_getElem? (i := 315) (by decide +kernel), List.mem_of_getElem? (i := 798) (by decide +kernel), List.mem_of_getElem? (i := 799) (by decide +kernel)⟩
def lw_privs_2 : List (MethodName × Nat) := [(⟨"SafeSenate$Parser", "hearFreeHook", "(I)Z"⟩, 11), (⟨"SafeSenate$Parser", "toldNumber", "(I)I"⟩, 11), (⟨"SafeSenate$Parser", "hearAct", "()Z"⟩, 11), (⟨"SafeSenate$Parser", "hearFor", "()Z"⟩, 11), (⟨"SafeSenate$Parser", "hearRests", "()Z"⟩, 11), (⟨"SafeSenate$Parser", "hearDoubted", "()Z"⟩, 11), (⟨"SafeSenate$Parser", "hearOutcome", "(Z)Z"⟩, 11), (⟨"SafeSenate", "grant", "(I)I"⟩, 12), (⟨"SafeSenate", "lacksSenator", "(I)Z"⟩, 12), (⟨"SafeSenate$Plan", "airAt", "(I)I"⟩, 17), (⟨"SafeSenate", "lacksAct", "(I)Z"⟩, 12), (⟨"SafeSenate", "goingNow", "()I"⟩, 12), (⟨"SafeSenate", "lacksSafe", "()Z"⟩, 12), (⟨"SafeSenate", "goodNow", "()I"⟩, 12), (⟨"SafeSenate", "lastsNow", "()I"⟩, 12), (⟨"SafeSenate$Hanging", "begin", "(LSafeSenate$Plan;I)V"⟩, 9)]
theorem lw_r2 : ∀ q ∈ lw_privs_2, lw_okq q := List.forall_mem_cons.mpr ⟨lw_p16, List.forall_mem_cons.mpr ⟨lw_p17, List.forall_mem_cons.mpr ⟨lw_p18, List.forall_mem_cons.mpr ⟨lw_p19, List.forall_mem_cons.mpr ⟨lw_p20, List.forall_mem_cons.mpr ⟨lw_p21, List.forall_mem_cons.mpr ⟨lw_p22, List.forall_mem_cons.mpr ⟨lw_p23, List.forall_mem_cons.mpr ⟨lw_p24, List.forall_mem_cons.mpr ⟨lw_p25, List.forall_mem_cons.mpr ⟨lw_p26, List.forall_mem_cons.mpr ⟨lw_p27, List.forall_mem_cons.mpr ⟨lw_p28, List.forall_mem_cons.mpr ⟨lw_p29, List.forall_mem_cons.mpr ⟨lw_p30, List.forall_mem_cons.mpr ⟨lw_p31, fun _ h => absurd h List.not_mem_nil⟩⟩⟩⟩⟩⟩⟩⟩⟩⟩⟩⟩⟩⟩⟩⟩
theorem lw_p32 : lw_okq (⟨"SafeSenate$Hanging", "setBound", "()V"⟩, 9) := ⟨⟨by decide +kernel, by decide +kernel⟩, List.mem_of_getElem? (i := 315) (by decide +kernel), List.mem_of_getElem? (i := 803) (by decide +kernel), List.mem_of_getElem? (i := 804) (by decide +kernel)⟩
theorem lw_p33 : lw_okq (⟨"SafeSenate$Hanging", "valueOfChosen", "()I"⟩, 9) := ⟨⟨by decide +kernel, by decide +kernel⟩, List.mem_of_getElem? (i := 315) (by decide +kernel), List.mem_of_getElem? (i := 808) (by decide +kernel), List.mem_of_getElem? (i := 809) (by decide +kernel)⟩
theorem lw_p34 : lw_okq (⟨"SafeSenate$Hanging", "place", "(II)V"⟩, 9) := ⟨⟨by decide +kernel, by decide +kernel⟩, List.mem_of_getElem? (i := 315) (by decide +kernel), List.mem_of_getElem? (i := 817) (by decide +kernel), List.mem_of_getElem? (i := 818) (by decide +kernel)⟩
theorem lw_p35 : lw_okq (⟨"SafeSenate$Hanging", "keepIfBetter", "(I)V"⟩, 9) := ⟨⟨by decide +kernel, by decide +kernel⟩, List.mem_of_getElem? (i := 315) (by decide +kernel), List.mem_of_getElem? (i := 821) (by decide +kernel), List.mem_of_getElem? (i := 822) (by decide +kernel)⟩
theorem lw_p36 : lw_okq (⟨"SafeSenate", "lastsSwapped", "(II)I"⟩, 12) := ⟨⟨by decide +kernel, by decide +kernel⟩, List.mem_of_getElem? (i := 24) (by decide +kernel), List.mem_of_getElem? (i := 847) (by decide +kernel), List.mem_of_getElem? (i := 848) (by decide +kernel)⟩
theorem lw_p37 : lw_okq (⟨"SafeSenate", "lastsSalted", "(I)I"⟩, 12) := ⟨⟨by decide +kernel, by decide +kernel⟩, List.mem_of_getElem? (i := 24) (by decide +kernel), List.mem_of_getElem? (i := 855) (by decide +kernel), List.mem_of_getElem? (i := 856) (by decide +kernel)⟩
theorem lw_p38 : lw_okq (⟨"SafeSenate", "lacksDoubt", "()Z"⟩, 12) := ⟨⟨by decide +kernel, by decide +kernel⟩, List.mem_of_getElem? (i := 24) (by decide +kernel), List.mem_of_getElem? (i := 867) (by decide +kernel), List.mem_of_getElem? (i := 868) (by decide +kernel)⟩
theorem lw_p39 : lw_okq (⟨"SafeSenate", "whyNoDoubt", "()I"⟩, 12) := ⟨⟨by decide +kernel, by decide +kernel⟩, List.mem_of_getElem? (i := 24) (by decide +kernel), List.mem_of_getElem? (i := 871) (by decide +kernel), List.mem_of_getElem? (i := 872) (by decide +kernel)⟩
theorem lw_p40 : lw_okq (⟨"SafeSenate", "fewestStruck", "(II)I"⟩, 12) := ⟨⟨by decide +kernel, by decide +kernel⟩, List.mem_of_getElem? (i := 24) (by decide +kernel), List.mem_of_getElem? (i := 928) (by decide +kernel), List.mem_of_getElem? (i := 929) (by decide +kernel)⟩
theorem lw_p41 : lw_okq (⟨"SafeSenate", "deny", "(I)Z"⟩, 12) := ⟨⟨by decide +kernel, by decide +kernel⟩, List.mem_of_getElem? (i := 24) (by decide +kernel), List.mem_of_getElem? (i := 1049) (by decide +kernel), List.mem_of_getElem? (i := 1050) (by decide +kernel)⟩
theorem lw_p42 : lw_okq (⟨"SafeSenate", "allow", "()Z"⟩, 12) := ⟨⟨by decide +kernel, by decide +kernel⟩, List.mem_of_getElem? (i := 24) (by decide +kernel), List.mem_of_getElem? (i := 1053) (by decide +kernel), List.mem_of_getElem? (i := 1054) (by decide +kernel)⟩
theorem lw_p43 : lw_okq (⟨"SafeSenate", "sizeBehind", "(I)I"⟩, 12) := ⟨⟨by decide +kernel, by decide +kernel⟩, List.mem_of_getElem? (i := 24) (by decide +kernel), List.mem_of_getElem? (i := 1081) (by decide +kernel), List.mem_of_getElem? (i := 1082) (by decide +kernel)⟩
theorem lw_p44 : lw_okq (⟨"java/lang/Throwable", "fillInStackTrace", "(I)Ljava/lang/Throwable;"⟩, 6) := ⟨⟨by decide +kernel, by decide +kernel⟩, List.mem_of_getElem? (i := 1133) (by decide +kernel), List.mem_of_getElem? (i := 1131) (by decide +kernel), List.mem_of_getElem? (i := 1132) (by decide +kernel)⟩
theorem lw_p45 : lw_okq (⟨"SafeSenateModel", "refused", "(I)I"⟩, 29) := ⟨⟨by decide +kernel, by decide +kernel⟩, List.mem_of_getElem? (i := 1158) (by decide +kernel), List.mem_of_getElem? (i := 1264) (by decide +kernel), List.mem_of_getElem? (i := 1265) (by decide +kernel)⟩
theorem lw_p46 : lw_okq (⟨"SafeSenateModel", "goesOn", "()V"⟩, 29) := ⟨⟨by decide +kernel, by decide +kernel⟩, List.mem_of_getElem? (i := 1158) (by decide +kernel), List.mem_of_getElem? (i := 1362) (by decide +kernel), List.mem_of_getElem? (i := 1363) (by decide +kernel)⟩
theorem lw_p47 : lw_okq (⟨"SafeSenateModel", "byteAt", "(I)I"⟩, 29) := ⟨⟨by decide +kernel, by decide +kernel⟩, List.mem_of_getElem? (i := 1158) (by decide +kernel), List.mem_of_getElem? (i := 1366) (by decide +kernel), List.mem_of_getElem? (i := 1367) (by decide +kernel)⟩
def lw_privs_3 : List (MethodName × Nat) := [(⟨"SafeSenate$Hanging", "setBound", "()V"⟩, 9), (⟨"SafeSenate$Hanging", "valueOfChosen", "()I"⟩, 9), (⟨"SafeSenate$Hanging", "place", "(II)V"⟩, 9), (⟨"SafeSenate$Hanging", "keepIfBetter", "(I)V"⟩, 9), (⟨"SafeSenate", "lastsSwapped", "(II)I"⟩, 12), (⟨"SafeSenate", "lastsSalted", "(I)I"⟩, 12), (⟨"SafeSenate", "lacksDoubt", "()Z"⟩, 12), (⟨"SafeSenate", "whyNoDoubt", "()I"⟩, 12), (⟨"SafeSenate", "fewestStruck", "(II)I"⟩, 12), (⟨"SafeSenate", "deny", "(I)Z"⟩, 12), (⟨"SafeSenate", "allow", "()Z"⟩, 12), (⟨"SafeSenate", "sizeBehind", "(I)I"⟩, 12), (⟨"java/lang/Throwable", "fillInStackTrace", "(I)Ljava/lang/Throwable;"⟩, 6), (⟨"SafeSenateModel", "refused", "(I)I"⟩, 29), (⟨"SafeSenateModel", "goesOn", "()V"⟩, 29), (⟨"SafeSenateModel", "byteAt", "(I)I"⟩, 29)]
theorem lw_r3 : ∀ q ∈ lw_privs_3, lw_okq q := List.forall_mem_cons.mpr ⟨lw_p32, List.forall_mem_cons.mpr ⟨lw_p33, List.forall_mem_cons.mpr ⟨lw_p34, List.forall_mem_cons.mpr ⟨lw_p35, List.forall_mem_cons.mpr ⟨lw_p36, List.forall_mem_cons.mpr ⟨lw_p37, List.forall_mem_cons.mpr ⟨lw_p38, List.forall_mem_cons.mpr ⟨lw_p39, List.forall_mem_cons.mpr ⟨lw_p40, List.forall_mem_cons.mpr ⟨lw_p41, List.forall_mem_cons.mpr ⟨lw_p42, List.forall_mem_cons.mpr ⟨lw_p43, List.forall_mem_cons.mpr ⟨lw_p44, List.forall_mem_cons.mpr ⟨lw_p45, List.forall_mem_cons.mpr ⟨lw_p46, List.forall_mem_cons.mpr ⟨lw_p47, fun _ h => absurd h List.not_mem_nil⟩⟩⟩⟩⟩⟩⟩⟩⟩⟩⟩⟩⟩⟩⟩⟩
theorem lw_p48 : lw_okq (⟨"SafeSenateModel", "readAll", "()V"⟩, 29) := ⟨⟨by decide +kernel, by decide +kernel⟩, List.mem_of_getElem? (i := 1158) (by decide +kernel), List.mem_of_getElem? (i := 1377) (by decide +kernel), List.mem_of_getElem? (i := 1378) (by decide +kernel)⟩
theorem lw_p49 : lw_okq (⟨"SafeSenateModel", "readLine", "()V"⟩, 29) := ⟨⟨by decide +kernel, by decide +kernel⟩, List.mem_of_getElem? (i := 1158) (by decide +kernel), List.mem_of_getElem? (i := 1381) (by decide +kernel), List.mem_of_getElem? (i := 1382) (by decide +kernel)⟩
theorem lw_p50 : lw_okq (⟨"SafeSenateModel", "isWord", "(Ljava/lang/String;)Z"⟩, 29) := ⟨⟨by decide +kernel, by decide +kernel⟩, List.mem_of_getElem? (i := 1158) (by decide +kernel), List.mem_of_getElem? (i := 1386) (by decide +kernel), List.mem_of_getElem? (i := 1387) (by decide +kernel)⟩
theorem lw_p51 : lw_okq (⟨"SafeSenateModel", "readSafe", "()V"⟩, 29) := ⟨⟨by decide +kernel, by decide +kernel⟩, List.mem_of_getElem? (i := 1158) (by decide +kernel), List.mem_of_getElem? (i := 1395) (by decide +kernel), List.mem_of_getElem? (i := 1396) (by decide +kernel)⟩
theorem lw_p52 : lw_okq (⟨"SafeSenateModel", "flaw", "(I)V"⟩, 29) := ⟨⟨by decide +kernel, by decide +kernel⟩, List.mem_of_getElem? (i := 1158) (by decide +kernel), List.mem_of_getElem? (i := 1399) (by decide +kernel), List.mem_of_getElem? (i := 1400) (by decide +kernel)⟩
theorem lw_p53 : lw_okq (⟨"SafeSenateModel", "readPart", "(Ljava/lang/String;II)I"⟩, 29) := ⟨⟨by decide +kernel, by decide +kernel⟩, List.mem_of_getElem? (i := 1158) (by decide +kernel), List.mem_of_getElem? (i := 1404) (by decide +kernel), List.mem_of_getElem? (i := 1405) (by decide +kernel)⟩
theorem lw_p54 : lw_okq (⟨"SafeSenateModel", "needs", "(Ljava/lang/String;)V"⟩, 29) := ⟨⟨by decide +kernel, by decide +kernel⟩, List.mem_of_getElem? (i := 1158) (by decide +kernel), List.mem_of_getElem? (i := 1408) (by decide +kernel), List.mem_of_getElem? (i := 1409) (by decide +kernel)⟩
theorem lw_p55 : lw_okq (⟨"SafeSenateModel", "readHook", "()V"⟩, 29) := ⟨⟨by decide +kernel, by decide +kernel⟩, List.mem_of_getElem? (i := 1158) (by decide +kernel), List.mem_of_getElem? (i := 1419) (by decide +kernel), List.mem_of_getElem? (i := 1420) (by decide +kernel)⟩
theorem lw_p56 : lw_okq (⟨"SafeSenateModel", "lineBegins", "(II)V"⟩, 29) := ⟨⟨by decide +kernel, by decide +kernel⟩, List.mem_of_getElem? (i := 1158) (by decide +kernel), List.mem_of_getElem? (i := 1423) (by decide +kernel), List.mem_of_getElem? (i := 1424) (by decide +kernel)⟩
theorem lw_p57 : lw_okq (⟨"SafeSenateModel", "readFresh", "()J"⟩, 29) := ⟨⟨by decide +kernel, by decide +kernel⟩, List.mem_of_getElem? (i := 1158) (by decide +kernel), List.mem_of_getElem? (i := 1427) (by decide +kernel), List.mem_of_getElem? (i := 1428) (by decide +kernel)⟩
theorem lw_p58 : lw_okq (⟨"SafeSenateModel", "isName", "()Z"⟩, 29) := ⟨⟨by decide +kernel, by decide +kernel⟩, List.mem_of_getElem? (i := 1158) (by decide +kernel), List.mem_of_getElem? (i := 1431) (by decide +kernel), List.mem_of_getElem? (i := 1432) (by decide +kernel)⟩
theorem lw_p59 : lw_okq (⟨"SafeSenateModel", "names", "(JII)V"⟩, 29) := ⟨⟨by decide +kernel, by decide +kernel⟩, List.mem_of_getElem? (i := 1158) (by decide +kernel), List.mem_of_getElem? (i := 1447) (by decide +kernel), List.mem_of_getElem? (i := 1448) (by decide +kernel)⟩
theorem lw_p60 : lw_okq (⟨"SafeSenateModel", "readSenator", "()V"⟩, 29) := ⟨⟨by decide +kernel, by decide +kernel⟩, List.mem_of_getElem? (i := 1158) (by decide +kernel), List.mem_of_getElem? (i := 1451) (by decide +kernel), List.mem_of_getElem? (i := 1452) (by decide +kernel)⟩
theorem lw_p61 : lw_okq (⟨"SafeSenateModel", "knownOne", "(I)I"⟩, 29) := ⟨⟨by decide +kernel, by decide +kernel⟩, List.mem_of_getElem? (i := 1158) (by decide +kernel), List.mem_of_getElem? (i := 1459) (by decide +kernel), List.mem_of_getElem? (i := 1460) (by decide +kernel)⟩
theorem lw_p62 : lw_okq (⟨"SafeSenateModel", "readAct", "()V"⟩, 29) := ⟨⟨by decide +kernel, by decide +kernel⟩, List.mem_of_getElem? (i := 1158) (by decide +kernel), List.mem_of_getElem? (i := 1469) (by decide +kernel), List.mem_of_getElem? (i := 1470) (by decide +kernel)⟩
theorem lw_p63 : lw_okq (⟨"SafeSenateModel", "readFor", "()V"⟩, 29) := ⟨⟨by decide +kernel, by decide +kernel⟩, List.mem_of_getElem? (i := 1158) (by decide +kernel), List.mem_of_getElem? (i := 1474) (by decide +kernel), List.mem_of_getElem? (i := 1475) (by decide +kernel)⟩
def lw_privs_4 : List (MethodName × Nat) := [(⟨"SafeSenateModel", "readAll", "()V"⟩, 29), (⟨"SafeSenateModel", "readLine", "()V"⟩, 29), (⟨"SafeSenateModel", "isWord", "(Ljava/lang/String;)Z"⟩, 29), (⟨"SafeSenateModel", "readSafe", "()V"⟩, 29), (⟨"SafeSenateModel", "flaw", "(I)V"⟩, 29), (⟨"SafeSenateModel", "readPart", "(Ljava/lang/String;II)I"⟩, 29), (⟨"SafeSenateModel", "needs", "(Ljava/lang/String;)V"⟩, 29), (⟨"SafeSenateModel", "readHook", "()V"⟩, 29), (⟨"SafeSenateModel", "lineBegins", "(II)V"⟩, 29), (⟨"SafeSenateModel", "readFresh", "()J"⟩, 29), (⟨"SafeSenateModel", "isName", "()Z"⟩, 29), (⟨"SafeSenateModel", "names", "(JII)V"⟩, 29), (⟨"SafeSenateModel", "readSenator", "()V"⟩, 29), (⟨"SafeSenateModel", "knownOne", "(I)I"⟩, 29), (⟨"SafeSenateModel", "readAct", "()V"⟩, 29), (⟨"SafeSenateModel", "readFor", "()V"⟩, 29)]
theorem lw_r4 : ∀ q ∈ lw_privs_4, lw_okq q := List.forall_mem_cons.mpr ⟨lw_p48, List.forall_mem_cons.mpr ⟨lw_p49, List.forall_mem_cons.mpr ⟨lw_p50, List.forall_mem_cons.mpr ⟨lw_p51, List.forall_mem_cons.mpr ⟨lw_p52, List.forall_mem_cons.mpr ⟨lw_p53, List.forall_mem_cons.mpr ⟨lw_p54, List.forall_mem_cons.mpr ⟨lw_p55, List.forall_mem_cons.mpr ⟨lw_p56, List.forall_mem_cons.mpr ⟨lw_p57, List.forall_mem_cons.mpr ⟨lw_p58, List.forall_mem_cons.mpr ⟨lw_p59, List.forall_mem_cons.mpr ⟨lw_p60, List.forall_mem_cons.mpr ⟨lw_p61, List.forall_mem_cons.mpr ⟨lw_p62, List.forall_mem_cons.mpr ⟨lw_p63, fun _ h => absurd h List.not_mem_nil⟩⟩⟩⟩⟩⟩⟩⟩⟩⟩⟩⟩⟩⟩⟩⟩
theorem lw_p64 : lw_okq (⟨"SafeSenateModel", "readKnown", "(I)I"⟩, 29) := ⟨⟨by decide +kernel, by decide +kernel⟩, List.mem_of_getElem? (i := 1158) (by decide +kernel), List.mem_of_getElem? (i := 1478) (by decide +kernel), List.mem_of_getElem? (i := 1479) (by decide +kernel)⟩
theorem lw_p65 : lw_okq (⟨"SafeSenateModel", "readRests", "()V"⟩, 29) := ⟨⟨by decide +kernel, by decide +kernel⟩, List.mem_of_getElem? (i := 1158) (by decide +kernel), List.mem_of_getElem? (i := 1485) (by decide +kernel), List.mem_of_getElem? (i := 1486) (by decide +kernel)⟩
theorem lw_p66 : lw_okq (⟨"SafeSenateModel", "readDoubted", "()V"⟩, 29) := ⟨⟨by decide +kernel, by decide +kernel⟩, List.mem_of_getElem? (i := 1158) (by decide +kernel), List.mem_of_getElem? (i := 1489) (by decide +kernel), List.mem_of_getElem? (i := 1490) (by decide +kernel)⟩
theorem lw_p67 : lw_okq (⟨"SafeSenateModel", "readEnd", "(I)V"⟩, 29) := ⟨⟨by decide +kernel, by decide +kernel⟩, List.mem_of_getElem? (i := 1158) (by decide +kernel), List.mem_of_getElem? (i := 1493) (by decide +kernel), List.mem_of_getElem? (i := 1494) (by decide +kernel)⟩
theorem lw_p68 : lw_okq (⟨"SafeSenateModel", "eatsSemicolon", "()Z"⟩, 29) := ⟨⟨by decide +kernel, by decide +kernel⟩, List.mem_of_getElem? (i := 1158) (by decide +kernel), List.mem_of_getElem? (i := 1497) (by decide +kernel), List.mem_of_getElem? (i := 1498) (by decide +kernel)⟩
theorem lw_p69 : lw_okq (⟨"SafeSenateModel", "asTold", "()V"⟩, 29) := ⟨⟨by decide +kernel, by decide +kernel⟩, List.mem_of_getElem? (i := 1158) (by decide +kernel), List.mem_of_getElem? (i := 1501) (by decide +kernel), List.mem_of_getElem? (i := 1502) (by decide +kernel)⟩
theorem lw_p70 : lw_okq (⟨"SafeSenateModel", "well", "(I)I"⟩, 29) := ⟨⟨by decide +kernel, by decide +kernel⟩, List.mem_of_getElem? (i := 1158) (by decide +kernel), List.mem_of_getElem? (i := 1505) (by decide +kernel), List.mem_of_getElem? (i := 1506) (by decide +kernel)⟩
theorem lw_p71 : lw_okq (⟨"SafeSenateModel", "isSenator", "(I)Z"⟩, 29) := ⟨⟨by decide +kernel, by decide +kernel⟩, List.mem_of_getElem? (i := 1158) (by decide +kernel), List.mem_of_getElem? (i := 1521) (by decide +kernel), List.mem_of_getElem? (i := 1522) (by decide +kernel)⟩
theorem lw_p72 : lw_okq (⟨"SafeSenateModel", "works", "()V"⟩, 29) := ⟨⟨by decide +kernel, by decide +kernel⟩, List.mem_of_getElem? (i := 1158) (by decide +kernel), List.mem_of_getElem? (i := 1525) (by decide +kernel), List.mem_of_getElem? (i := 1526) (by decide +kernel)⟩
theorem lw_p73 : lw_okq (⟨"SafeSenateModel", "likes", "(I)I"⟩, 29) := ⟨⟨by decide +kernel, by decide +kernel⟩, List.mem_of_getElem? (i := 1158) (by decide +kernel), List.mem_of_getElem? (i := 1529) (by decide +kernel), List.mem_of_getElem? (i := 1530) (by decide +kernel)⟩
theorem lw_p74 : lw_okq (⟨"SafeSenateModel", "losses", "(I)I"⟩, 29) := ⟨⟨by decide +kernel, by decide +kernel⟩, List.mem_of_getElem? (i := 1158) (by decide +kernel), List.mem_of_getElem? (i := 1533) (by decide +kernel), List.mem_of_getElem? (i := 1534) (by decide +kernel)⟩
theorem lw_p75 : lw_okq (⟨"SafeSenateModel", "isHook", "(I)Z"⟩, 29) := ⟨⟨by decide +kernel, by decide +kernel⟩, List.mem_of_getElem? (i := 1158) (by decide +kernel), List.mem_of_getElem? (i := 1541) (by decide +kernel), List.mem_of_getElem? (i := 1542) (by decide +kernel)⟩
theorem lw_p76 : lw_okq (⟨"SafeSenateModel", "hangsAt", "(I)I"⟩, 29) := ⟨⟨by decide +kernel, by decide +kernel⟩, List.mem_of_getElem? (i := 1158) (by decide +kernel), List.mem_of_getElem? (i := 1545) (by decide +kernel), List.mem_of_getElem? (i := 1546) (by decide +kernel)⟩
theorem lw_p77 : lw_okq (⟨"SafeSenateModel", "isAct", "(I)Z"⟩, 29) := ⟨⟨by decide +kernel, by decide +kernel⟩, List.mem_of_getElem? (i := 1158) (by decide +kernel), List.mem_of_getElem? (i := 1553) (by decide +kernel), List.mem_of_getElem? (i := 1554) (by decide +kernel)⟩
theorem lw_p78 : lw_okq (⟨"SafeSenateModel", "goingNow", "()I"⟩, 29) := ⟨⟨by decide +kernel, by decide +kernel⟩, List.mem_of_getElem? (i := 1158) (by decide +kernel), List.mem_of_getElem? (i := 1557) (by decide +kernel), List.mem_of_getElem? (i := 1558) (by decide +kernel)⟩
theorem lw_p79 : lw_okq (⟨"SafeSenateModel", "putsAll", "()V"⟩, 29) := ⟨⟨by decide +kernel, by decide +kernel⟩, List.mem_of_getElem? (i := 1158) (by decide +kernel), List.mem_of_getElem? (i := 1561) (by decide +kernel), List.mem_of_getElem? (i := 1562) (by decide +kernel)⟩
def lw_privs_5 : List (MethodName × Nat) := [(⟨"SafeSenateModel", "readKnown", "(I)I"⟩, 29), (⟨"SafeSenateModel", "readRests", "()V"⟩, 29), (⟨"SafeSenateModel", "readDoubted", "()V"⟩, 29), (⟨"SafeSenateModel", "readEnd", "(I)V"⟩, 29), (⟨"SafeSenateModel", "eatsSemicolon", "()Z"⟩, 29), (⟨"SafeSenateModel", "asTold", "()V"⟩, 29), (⟨"SafeSenateModel", "well", "(I)I"⟩, 29), (⟨"SafeSenateModel", "isSenator", "(I)Z"⟩, 29), (⟨"SafeSenateModel", "works", "()V"⟩, 29), (⟨"SafeSenateModel", "likes", "(I)I"⟩, 29), (⟨"SafeSenateModel", "losses", "(I)I"⟩, 29), (⟨"SafeSenateModel", "isHook", "(I)Z"⟩, 29), (⟨"SafeSenateModel", "hangsAt", "(I)I"⟩, 29), (⟨"SafeSenateModel", "isAct", "(I)Z"⟩, 29), (⟨"SafeSenateModel", "goingNow", "()I"⟩, 29), (⟨"SafeSenateModel", "putsAll", "()V"⟩, 29)]
theorem lw_r5 : ∀ q ∈ lw_privs_5, lw_okq q := List.forall_mem_cons.mpr ⟨lw_p64, List.forall_mem_cons.mpr ⟨lw_p65, List.forall_mem_cons.mpr ⟨lw_p66, List.forall_mem_cons.mpr ⟨lw_p67, List.forall_mem_cons.mpr ⟨lw_p68, List.forall_mem_cons.mpr ⟨lw_p69, List.forall_mem_cons.mpr ⟨lw_p70, List.forall_mem_cons.mpr ⟨lw_p71, List.forall_mem_cons.mpr ⟨lw_p72, List.forall_mem_cons.mpr ⟨lw_p73, List.forall_mem_cons.mpr ⟨lw_p74, List.forall_mem_cons.mpr ⟨lw_p75, List.forall_mem_cons.mpr ⟨lw_p76, List.forall_mem_cons.mpr ⟨lw_p77, List.forall_mem_cons.mpr ⟨lw_p78, List.forall_mem_cons.mpr ⟨lw_p79, fun _ h => absurd h List.not_mem_nil⟩⟩⟩⟩⟩⟩⟩⟩⟩⟩⟩⟩⟩⟩⟩⟩
theorem lw_p80 : lw_okq (⟨"SafeSenateModel", "aDay", "(Z)V"⟩, 29) := ⟨⟨by decide +kernel, by decide +kernel⟩, List.mem_of_getElem? (i := 1158) (by decide +kernel), List.mem_of_getElem? (i := 1565) (by decide +kernel), List.mem_of_getElem? (i := 1566) (by decide +kernel)⟩
theorem lw_p81 : lw_okq (⟨"SafeSenateModel", "goodNow", "()I"⟩, 29) := ⟨⟨by decide +kernel, by decide +kernel⟩, List.mem_of_getElem? (i := 1158) (by decide +kernel), List.mem_of_getElem? (i := 1569) (by decide +kernel), List.mem_of_getElem? (i := 1570) (by decide +kernel)⟩
theorem lw_p82 : lw_okq (⟨"SafeSenateModel", "goingBut", "(I)I"⟩, 29) := ⟨⟨by decide +kernel, by decide +kernel⟩, List.mem_of_getElem? (i := 1158) (by decide +kernel), List.mem_of_getElem? (i := 1573) (by decide +kernel), List.mem_of_getElem? (i := 1574) (by decide +kernel)⟩
theorem lw_p83 : lw_okq (⟨"SafeSenateModel", "isByItself", "(I)Z"⟩, 29) := ⟨⟨by decide +kernel, by decide +kernel⟩, List.mem_of_getElem? (i := 1158) (by decide +kernel), List.mem_of_getElem? (i := 1577) (by decide +kernel), List.mem_of_getElem? (i := 1578) (by decide +kernel)⟩
theorem lw_p84 : lw_okq (⟨"SafeSenateModel", "marginNow", "(I)I"⟩, 29) := ⟨⟨by decide +kernel, by decide +kernel⟩, List.mem_of_getElem? (i := 1158) (by decide +kernel), List.mem_of_getElem? (i := 1584) (by decide +kernel), List.mem_of_getElem? (i := 1585) (by decide +kernel)⟩
theorem lw_p85 : lw_okq (⟨"SafeSenateModel", "votes", "(I)I"⟩, 29) := ⟨⟨by decide +kernel, by decide +kernel⟩, List.mem_of_getElem? (i := 1158) (by decide +kernel), List.mem_of_getElem? (i := 1588) (by decide +kernel), List.mem_of_getElem? (i := 1589) (by decide +kernel)⟩
theorem lw_p86 : lw_okq (⟨"SafeSenateModel", "isQuorum", "()Z"⟩, 29) := ⟨⟨by decide +kernel, by decide +kernel⟩, List.mem_of_getElem? (i := 1158) (by decide +kernel), List.mem_of_getElem? (i := 1600) (by decide +kernel), List.mem_of_getElem? (i := 1601) (by decide +kernel)⟩
theorem lw_p87 : lw_okq (⟨"SafeSenateModel", "refusesDays", "(ZII)I"⟩, 29) := ⟨⟨by decide +kernel, by decide +kernel⟩, List.mem_of_getElem? (i := 1158) (by decide +kernel), List.mem_of_getElem? (i := 1608) (by decide +kernel), List.mem_of_getElem? (i := 1609) (by decide +kernel)⟩
theorem lw_p88 : lw_okq (⟨"SafeSenateModel", "daysOn", "(I)V"⟩, 29) := ⟨⟨by decide +kernel, by decide +kernel⟩, List.mem_of_getElem? (i := 1158) (by decide +kernel), List.mem_of_getElem? (i := 1612) (by decide +kernel), List.mem_of_getElem? (i := 1613) (by decide +kernel)⟩
theorem lw_p89 : lw_okq (⟨"SafeSenateModel", "lastsNow", "()I"⟩, 29) := ⟨⟨by decide +kernel, by decide +kernel⟩, List.mem_of_getElem? (i := 1158) (by decide +kernel), List.mem_of_getElem? (i := 1624) (by decide +kernel), List.mem_of_getElem? (i := 1625) (by decide +kernel)⟩
theorem lw_p90 : lw_okq (⟨"SafeSenateModel", "hangsBest", "(I)I"⟩, 29) := ⟨⟨by decide +kernel, by decide +kernel⟩, List.mem_of_getElem? (i := 1158) (by decide +kernel), List.mem_of_getElem? (i := 1644) (by decide +kernel), List.mem_of_getElem? (i := 1645) (by decide +kernel)⟩
theorem lw_p91 : lw_okq (⟨"SafeSenateModel", "rows", "()I"⟩, 29) := ⟨⟨by decide +kernel, by decide +kernel⟩, List.mem_of_getElem? (i := 1158) (by decide +kernel), List.mem_of_getElem? (i := 1648) (by decide +kernel), List.mem_of_getElem? (i := 1649) (by decide +kernel)⟩
theorem lw_p92 : lw_okq (⟨"SafeSenateModel", "hangs", "(I)Z"⟩, 29) := ⟨⟨by decide +kernel, by decide +kernel⟩, List.mem_of_getElem? (i := 1158) (by decide +kernel), List.mem_of_getElem? (i := 1652) (by decide +kernel), List.mem_of_getElem? (i := 1653) (by decide +kernel)⟩
theorem lw_p93 : lw_okq (⟨"SafeSenateModel", "keeps", "()V"⟩, 29) := ⟨⟨by decide +kernel, by decide +kernel⟩, List.mem_of_getElem? (i := 1158) (by decide +kernel), List.mem_of_getElem? (i := 1656) (by decide +kernel), List.mem_of_getElem? (i := 1657) (by decide +kernel)⟩
theorem lw_p94 : lw_okq (⟨"SafeSenateModel", "lastsAsIs", "()I"⟩, 29) := ⟨⟨by decide +kernel, by decide +kernel⟩, List.mem_of_getElem? (i := 1158) (by decide +kernel), List.mem_of_getElem? (i := 1676) (by decide +kernel), List.mem_of_getElem? (i := 1677) (by decide +kernel)⟩
theorem lw_p95 : lw_okq (⟨"SafeSenateModel", "refusesDoubt", "()I"⟩, 29) := ⟨⟨by decide +kernel, by decide +kernel⟩, List.mem_of_getElem? (i := 1158) (by decide +kernel), List.mem_of_getElem? (i := 1692) (by decide +kernel), List.mem_of_getElem? (i := 1693) (by decide +kernel)⟩
def lw_privs_6 : List (MethodName × Nat) := [(⟨"SafeSenateModel", "aDay", "(Z)V"⟩, 29), (⟨"SafeSenateModel", "goodNow", "()I"⟩, 29), (⟨"SafeSenateModel", "goingBut", "(I)I"⟩, 29), (⟨"SafeSenateModel", "isByItself", "(I)Z"⟩, 29), (⟨"SafeSenateModel", "marginNow", "(I)I"⟩, 29), (⟨"SafeSenateModel", "votes", "(I)I"⟩, 29), (⟨"SafeSenateModel", "isQuorum", "()Z"⟩, 29), (⟨"SafeSenateModel", "refusesDays", "(ZII)I"⟩, 29), (⟨"SafeSenateModel", "daysOn", "(I)V"⟩, 29), (⟨"SafeSenateModel", "lastsNow", "()I"⟩, 29), (⟨"SafeSenateModel", "hangsBest", "(I)I"⟩, 29), (⟨"SafeSenateModel", "rows", "()I"⟩, 29), (⟨"SafeSenateModel", "hangs", "(I)Z"⟩, 29), (⟨"SafeSenateModel", "keeps", "()V"⟩, 29), (⟨"SafeSenateModel", "lastsAsIs", "()I"⟩, 29), (⟨"SafeSenateModel", "refusesDoubt", "()I"⟩, 29)]
theorem lw_r6 : ∀ q ∈ lw_privs_6, lw_okq q := List.forall_mem_cons.mpr ⟨lw_p80, List.forall_mem_cons.mpr ⟨lw_p81, List.forall_mem_cons.mpr ⟨lw_p82, List.forall_mem_cons.mpr ⟨lw_p83, List.forall_mem_cons.mpr ⟨lw_p84, List.forall_mem_cons.mpr ⟨lw_p85, List.forall_mem_cons.mpr ⟨lw_p86, List.forall_mem_cons.mpr ⟨lw_p87, List.forall_mem_cons.mpr ⟨lw_p88, List.forall_mem_cons.mpr ⟨lw_p89, List.forall_mem_cons.mpr ⟨lw_p90, List.forall_mem_cons.mpr ⟨lw_p91, List.forall_mem_cons.mpr ⟨lw_p92, List.forall_mem_cons.mpr ⟨lw_p93, List.forall_mem_cons.mpr ⟨lw_p94, List.forall_mem_cons.mpr ⟨lw_p95, fun _ h => absurd h List.not_mem_nil⟩⟩⟩⟩⟩⟩⟩⟩⟩⟩⟩⟩⟩⟩⟩⟩
theorem lw_p96 : lw_okq (⟨"SafeSenateModel", "fitting", "(I)I"⟩, 29) := ⟨⟨by decide +kernel, by decide +kernel⟩, List.mem_of_getElem? (i := 1158) (by decide +kernel), List.mem_of_getElem? (i := 1696) (by decide +kernel), List.mem_of_getElem? (i := 1697) (by decide +kernel)⟩
theorem lw_p97 : lw_okq (⟨"SafeSenateModel", "goingSince", "(I)I"⟩, 29) := ⟨⟨by decide +kernel, by decide +kernel⟩, List.mem_of_getElem? (i := 1158) (by decide +kernel), List.mem_of_getElem? (i := 1700) (by decide +kernel), List.mem_of_getElem? (i := 1701) (by decide +kernel)⟩
theorem lw_p98 : lw_okq (⟨"SafeSenateModel", "wrong", "(I)I"⟩, 29) := ⟨⟨by decide +kernel, by decide +kernel⟩, List.mem_of_getElem? (i := 1158) (by decide +kernel), List.mem_of_getElem? (i := 1704) (by decide +kernel), List.mem_of_getElem? (i := 1705) (by decide +kernel)⟩
theorem lw_p99 : lw_okq (⟨"SafeSenateModel", "looks", "()I"⟩, 29) := ⟨⟨by decide +kernel, by decide +kernel⟩, List.mem_of_getElem? (i := 1158) (by decide +kernel), List.mem_of_getElem? (i := 1716) (by decide +kernel), List.mem_of_getElem? (i := 1717) (by decide +kernel)⟩
theorem lw_p100 : lw_okq (⟨"SafeSenateModel", "fallen", "(I)I"⟩, 29) := ⟨⟨by decide +kernel, by decide +kernel⟩, List.mem_of_getElem? (i := 1158) (by decide +kernel), List.mem_of_getElem? (i := 1732) (by decide +kernel), List.mem_of_getElem? (i := 1733) (by decide +kernel)⟩
theorem lw_p101 : lw_okq (⟨"SafeSenateModel", "turns", "(I)I"⟩, 29) := ⟨⟨by decide +kernel, by decide +kernel⟩, List.mem_of_getElem? (i := 1158) (by decide +kernel), List.mem_of_getElem? (i := 1752) (by decide +kernel), List.mem_of_getElem? (i := 1753) (by decide +kernel)⟩
theorem lw_p102 : lw_okq (⟨"SafeSenateModel", "fraction", "(JJZ)J"⟩, 29) := ⟨⟨by decide +kernel, by decide +kernel⟩, List.mem_of_getElem? (i := 1158) (by decide +kernel), List.mem_of_getElem? (i := 1756) (by decide +kernel), List.mem_of_getElem? (i := 1757) (by decide +kernel)⟩
theorem lw_p103 : lw_okq (⟨"SafeSenateModel", "refusesWorth", "(I)I"⟩, 29) := ⟨⟨by decide +kernel, by decide +kernel⟩, List.mem_of_getElem? (i := 1158) (by decide +kernel), List.mem_of_getElem? (i := 1771) (by decide +kernel), List.mem_of_getElem? (i := 1772) (by decide +kernel)⟩
theorem lw_p104 : lw_okq (⟨"SafeSenateModel", "lost", "(I)I"⟩, 29) := ⟨⟨by decide +kernel, by decide +kernel⟩, List.mem_of_getElem? (i := 1158) (by decide +kernel), List.mem_of_getElem? (i := 1775) (by decide +kernel), List.mem_of_getElem? (i := 1776) (by decide +kernel)⟩
theorem lw_p105 : lw_okq (⟨"SafeSenateModel", "storms", "(I)V"⟩, 29) := ⟨⟨by decide +kernel, by decide +kernel⟩, List.mem_of_getElem? (i := 1158) (by decide +kernel), List.mem_of_getElem? (i := 1797) (by decide +kernel), List.mem_of_getElem? (i := 1798) (by decide +kernel)⟩
theorem lw_p106 : lw_okq (⟨"SafeSenateModel", "refusesSeed", "(II)I"⟩, 29) := ⟨⟨by decide +kernel, by decide +kernel⟩, List.mem_of_getElem? (i := 1158) (by decide +kernel), List.mem_of_getElem? (i := 1814) (by decide +kernel), List.mem_of_getElem? (i := 1815) (by decide +kernel)⟩
theorem lw_p107 : lw_okq (⟨"SafeSenateModel", "daysBy", "(II)I"⟩, 29) := ⟨⟨by decide +kernel, by decide +kernel⟩, List.mem_of_getElem? (i := 1158) (by decide +kernel), List.mem_of_getElem? (i := 1819) (by decide +kernel), List.mem_of_getElem? (i := 1820) (by decide +kernel)⟩
theorem lw_p108 : lw_okq (⟨"SafeSenateModel", "aDrawnDay", "()Z"⟩, 29) := ⟨⟨by decide +kernel, by decide +kernel⟩, List.mem_of_getElem? (i := 1158) (by decide +kernel), List.mem_of_getElem? (i := 1823) (by decide +kernel), List.mem_of_getElem? (i := 1824) (by decide +kernel)⟩
theorem lw_p109 : lw_okq (⟨"SafeSenateModel", "remembers", "()V"⟩, 29) := ⟨⟨by decide +kernel, by decide +kernel⟩, List.mem_of_getElem? (i := 1158) (by decide +kernel), List.mem_of_getElem? (i := 1838) (by decide +kernel), List.mem_of_getElem? (i := 1839) (by decide +kernel)⟩
theorem lw_p110 : lw_okq (⟨"SafeSenateModel", "denied", "(I)Z"⟩, 29) := ⟨⟨by decide +kernel, by decide +kernel⟩, List.mem_of_getElem? (i := 1158) (by decide +kernel), List.mem_of_getElem? (i := 1850) (by decide +kernel), List.mem_of_getElem? (i := 1851) (by decide +kernel)⟩
theorem lw_p111 : lw_okq (⟨"SafeSenateModel", "granted", "()Z"⟩, 29) := ⟨⟨by decide +kernel, by decide +kernel⟩, List.mem_of_getElem? (i := 1158) (by decide +kernel), List.mem_of_getElem? (i := 1854) (by decide +kernel), List.mem_of_getElem? (i := 1855) (by decide +kernel)⟩
def lw_privs_7 : List (MethodName × Nat) := [(⟨"SafeSenateModel", "fitting", "(I)I"⟩, 29), (⟨"SafeSenateModel", "goingSince", "(I)I"⟩, 29), (⟨"SafeSenateModel", "wrong", "(I)I"⟩, 29), (⟨"SafeSenateModel", "looks", "()I"⟩, 29), (⟨"SafeSenateModel", "fallen", "(I)I"⟩, 29), (⟨"SafeSenateModel", "turns", "(I)I"⟩, 29), (⟨"SafeSenateModel", "fraction", "(JJZ)J"⟩, 29), (⟨"SafeSenateModel", "refusesWorth", "(I)I"⟩, 29), (⟨"SafeSenateModel", "lost", "(I)I"⟩, 29), (⟨"SafeSenateModel", "storms", "(I)V"⟩, 29), (⟨"SafeSenateModel", "refusesSeed", "(II)I"⟩, 29), (⟨"SafeSenateModel", "daysBy", "(II)I"⟩, 29), (⟨"SafeSenateModel", "aDrawnDay", "()Z"⟩, 29), (⟨"SafeSenateModel", "remembers", "()V"⟩, 29), (⟨"SafeSenateModel", "denied", "(I)Z"⟩, 29), (⟨"SafeSenateModel", "granted", "()Z"⟩, 29)]
theorem lw_r7 : ∀ q ∈ lw_privs_7, lw_okq q := List.forall_mem_cons.mpr ⟨lw_p96, List.forall_mem_cons.mpr ⟨lw_p97, List.forall_mem_cons.mpr ⟨lw_p98, List.forall_mem_cons.mpr ⟨lw_p99, List.forall_mem_cons.mpr ⟨lw_p100, List.forall_mem_cons.mpr ⟨lw_p101, List.forall_mem_cons.mpr ⟨lw_p102, List.forall_mem_cons.mpr ⟨lw_p103, List.forall_mem_cons.mpr ⟨lw_p104, List.forall_mem_cons.mpr ⟨lw_p105, List.forall_mem_cons.mpr ⟨lw_p106, List.forall_mem_cons.mpr ⟨lw_p107, List.forall_mem_cons.mpr ⟨lw_p108, List.forall_mem_cons.mpr ⟨lw_p109, List.forall_mem_cons.mpr ⟨lw_p110, List.forall_mem_cons.mpr ⟨lw_p111, fun _ h => absurd h List.not_mem_nil⟩⟩⟩⟩⟩⟩⟩⟩⟩⟩⟩⟩⟩⟩⟩⟩
def lw_privs : List (MethodName × Nat) := lw_privs_1 ++ (lw_privs_2 ++ (lw_privs_3 ++ (lw_privs_4 ++ (lw_privs_5 ++ (lw_privs_6 ++ (lw_privs_7))))))
def lw_tbl : List Cond := k2_sels lw_privs ++ tables_1
theorem lw_privs_ok : ∀ q ∈ lw_privs, lw_okq q := by
  show ∀ q ∈ lw_privs_1 ++ (lw_privs_2 ++ (lw_privs_3 ++ (lw_privs_4 ++ (lw_privs_5 ++ (lw_privs_6 ++ (lw_privs_7)))))), lw_okq q
  exact List.forall_mem_append.mpr ⟨lw_r1, List.forall_mem_append.mpr ⟨lw_r2, List.forall_mem_append.mpr ⟨lw_r3, List.forall_mem_append.mpr ⟨lw_r4, List.forall_mem_append.mpr ⟨lw_r5, List.forall_mem_append.mpr ⟨lw_r6, lw_r7⟩⟩⟩⟩⟩⟩
end
section
def zI (a : Int) : Int32 := Int32.ofInt a
def zL (a : Int) : Int64 := Int64.ofInt a
def RX0 : String := "SafeSenate$Doubt"
def TX0 : u_T := fun k => match k with
  | 0 => ("SafeSenate$Doubt", "count", "I", false)
  | 1 => ("SafeSenate$Doubt", "fits", "[I", true)
  | 2 => ("SafeSenate$Doubt", "goes", "[I", true)
  | _ => ("SafeSenate$Doubt", "spans", "LSafeSenate$Spans;", true)
def tyX0 : Nat → FieldType := fun k => match k with
  | 0 => .int
  | 1 => .array .int
  | 2 => .array .int
  | _ => .object "SafeSenate$Spans"
abbrev wsX00 : List Cond := u_ws RX0 TX0 4
theorem nmX0 : ∀ a, a < 4 → ∀ b, b < 4 → a ≠ b → (TX0 a).2.1 ≠ (TX0 b).2.1 := by decide +kernel
theorem tyX0_ok : ∀ k, k < 4 → parseFieldDescriptor (TX0 k).2.2.1 = some (tyX0 k) := by decide +kernel
abbrev cX0_init : ByteArray := prog_2_method_1_code
def yX0_init : MethodName := ⟨RX0, "<init>", "()V"⟩
abbrev cX0_weigh : ByteArray := prog_2_method_2_code
def yX0_weigh : MethodName := ⟨RX0, "weigh", "(LSafeSenate$Plan;)V"⟩
abbrev cX0_fitting : ByteArray := prog_2_method_3_code
def yX0_fitting : MethodName := ⟨RX0, "fitting", "(I)I"⟩
abbrev cX0_actToAsk : ByteArray := prog_2_method_4_code
def yX0_actToAsk : MethodName := ⟨RX0, "actToAsk", "(I)I"⟩
abbrev cX0_leftBy : ByteArray := prog_2_method_5_code
def yX0_leftBy : MethodName := ⟨RX0, "leftBy", "(I)I"⟩
def RX1 : String := "SafeSenate$Hanging"
def TX1 : u_T := fun k => match k with
  | 0 => ("SafeSenate$Hanging", "best", "I", false)
  | 1 => ("SafeSenate$Hanging", "bestAt", "[I", true)
  | 2 => ("SafeSenate$Hanging", "at", "[I", true)
  | 3 => ("SafeSenate$Hanging", "worth", "[I", true)
  | 4 => ("SafeSenate$Hanging", "chosen", "LSafeSenate$Spans;", true)
  | 5 => ("SafeSenate$Hanging", "senators", "I", false)
  | 6 => ("SafeSenate$Hanging", "hooks", "I", false)
  | 7 => ("SafeSenate$Hanging", "quorum", "I", false)
  | _ => ("SafeSenate$Hanging", "bound", "I", false)
def tyX1 : Nat → FieldType := fun k => match k with
  | 0 => .int
  | 1 => .array .int
  | 2 => .array .int
  | 3 => .array .int
  | 4 => .object "SafeSenate$Spans"
  | 5 => .int
  | 6 => .int
  | 7 => .int
  | _ => .int
abbrev wsX10 : List Cond := u_ws RX1 TX1 9
theorem nmX1 : ∀ a, a < 9 → ∀ b, b < 9 → a ≠ b → (TX1 a).2.1 ≠ (TX1 b).2.1 := by decide +kernel
theorem tyX1_ok : ∀ k, k < 9 → parseFieldDescriptor (TX1 k).2.2.1 = some (tyX1 k) := by decide +kernel
abbrev cX1_init : ByteArray := prog_3_method_1_code
def yX1_init : MethodName := ⟨RX1, "<init>", "()V"⟩
abbrev cX1_forMostGood : ByteArray := prog_3_method_2_code
def yX1_forMostGood : MethodName := ⟨RX1, "forMostGood", "(LSafeSenate$Plan;LSafeSenate$Moment;I)V"⟩
abbrev cX1_forLongest : ByteArray := prog_3_method_3_code
def yX1_forLongest : MethodName := ⟨RX1, "forLongest", "(LSafeSenate$Plan;LSafeSenate$Moment;)V"⟩
abbrev cX1_begin : ByteArray := prog_3_method_4_code
def yX1_begin : MethodName := ⟨RX1, "begin", "(LSafeSenate$Plan;I)V"⟩
abbrev cX1_setBound : ByteArray := prog_3_method_5_code
def yX1_setBound : MethodName := ⟨RX1, "setBound", "()V"⟩
abbrev cX1_place : ByteArray := prog_3_method_6_code
def yX1_place : MethodName := ⟨RX1, "place", "(II)V"⟩
abbrev cX1_valueOfChosen : ByteArray := prog_3_method_7_code
def yX1_valueOfChosen : MethodName := ⟨RX1, "valueOfChosen", "()I"⟩
abbrev cX1_keepIfBetter : ByteArray := prog_3_method_8_code
def yX1_keepIfBetter : MethodName := ⟨RX1, "keepIfBetter", "(I)V"⟩
def RX2 : String := "SafeSenate$Moment"
def TX2 : u_T := fun k => match k with
  | 0 => ("SafeSenate$Moment", "day", "I", false)
  | 1 => ("SafeSenate$Moment", "salt", "I", false)
  | 2 => ("SafeSenate$Moment", "seed", "I", false)
  | 3 => ("SafeSenate$Moment", "kind", "[I", true)
  | 4 => ("SafeSenate$Moment", "hookOf", "[I", true)
  | 5 => ("SafeSenate$Moment", "left", "[I", true)
  | _ => ("SafeSenate$Moment", "past", "[I", true)
def tyX2 : Nat → FieldType := fun k => match k with
  | 0 => .int
  | 1 => .int
  | 2 => .int
  | 3 => .array .int
  | 4 => .array .int
  | 5 => .array .int
  | _ => .array .int
abbrev wsX20 : List Cond := u_ws RX2 TX2 7
theorem nmX2 : ∀ a, a < 7 → ∀ b, b < 7 → a ≠ b → (TX2 a).2.1 ≠ (TX2 b).2.1 := by decide +kernel
theorem tyX2_ok : ∀ k, k < 7 → parseFieldDescriptor (TX2 k).2.2.1 = some (tyX2 k) := by decide +kernel
abbrev cX2_init : ByteArray := prog_4_method_1_code
def yX2_init : MethodName := ⟨RX2, "<init>", "()V"⟩
abbrev cX2_copyFrom : ByteArray := prog_4_method_2_code
def yX2_copyFrom : MethodName := ⟨RX2, "copyFrom", "(LSafeSenate$Moment;)V"⟩
abbrev cX2_goodBits : ByteArray := prog_4_method_3_code
def yX2_goodBits : MethodName := ⟨RX2, "goodBits", "(I)I"⟩
abbrev cX2_whoHangsAt : ByteArray := prog_4_method_4_code
def yX2_whoHangsAt : MethodName := ⟨RX2, "whoHangsAt", "(II)I"⟩
abbrev cX2_passDay : ByteArray := prog_4_method_5_code
def yX2_passDay : MethodName := ⟨RX2, "passDay", "(LSafeSenate$Plan;)V"⟩
def RX3 : String := "SafeSenate$Parser"
def TX3 : u_T := fun k => match k with
  | 0 => ("SafeSenate$Parser", "reader", "LSafeSenate$Reader;", true)
  | 1 => ("SafeSenate$Parser", "fault", "I", false)
  | 2 => ("SafeSenate$Parser", "place", "I", false)
  | 3 => ("SafeSenate$Parser", "plan", "LSafeSenate$Plan;", false)
  | 4 => ("SafeSenate$Parser", "safeTold", "Z", false)
  | 5 => ("SafeSenate$Parser", "heardWhole", "I", false)
  | 6 => ("SafeSenate$Parser", "hungBits", "I", false)
  | 7 => ("SafeSenate$Parser", "nameCount", "I", false)
  | 8 => ("SafeSenate$Parser", "names", "[J", true)
  | 9 => ("SafeSenate$Parser", "nameSorts", "[I", true)
  | _ => ("SafeSenate$Parser", "nameNumbers", "[I", true)
def tyX3 : Nat → FieldType := fun k => match k with
  | 0 => .object "SafeSenate$Reader"
  | 1 => .int
  | 2 => .int
  | 3 => .object "SafeSenate$Plan"
  | 4 => .boolean
  | 5 => .int
  | 6 => .int
  | 7 => .int
  | 8 => .array .long
  | 9 => .array .int
  | _ => .array .int
abbrev wsX30 : List Cond := u_ws RX3 TX3 11
theorem nmX3 : ∀ a, a < 11 → ∀ b, b < 11 → a ≠ b → (TX3 a).2.1 ≠ (TX3 b).2.1 := by decide +kernel
theorem tyX3_ok : ∀ k, k < 11 → parseFieldDescriptor (TX3 k).2.2.1 = some (tyX3 k) := by decide +kernel
abbrev cX3_init : ByteArray := prog_5_method_1_code
def yX3_init : MethodName := ⟨RX3, "<init>", "()V"⟩
abbrev cX3_exchange : ByteArray := prog_5_method_2_code
def yX3_exchange : MethodName := ⟨RX3, "exchange", "(LSafeSenate$Plan;)LSafeSenate$Plan;"⟩
abbrev cX3_hear : ByteArray := prog_5_method_3_code
def yX3_hear : MethodName := ⟨RX3, "hear", "(I)Z"⟩
abbrev cX3_hearLine : ByteArray := prog_5_method_4_code
def yX3_hearLine : MethodName := ⟨RX3, "hearLine", "()Z"⟩
abbrev cX3_hearSafe : ByteArray := prog_5_method_5_code
def yX3_hearSafe : MethodName := ⟨RX3, "hearSafe", "()Z"⟩
abbrev cX3_hearHook : ByteArray := prog_5_method_6_code
def yX3_hearHook : MethodName := ⟨RX3, "hearHook", "()Z"⟩
abbrev cX3_hearSenator : ByteArray := prog_5_method_7_code
def yX3_hearSenator : MethodName := ⟨RX3, "hearSenator", "()Z"⟩
abbrev cX3_hearKind : ByteArray := prog_5_method_8_code
def yX3_hearKind : MethodName := ⟨RX3, "hearKind", "(I)Z"⟩
abbrev cX3_hearFreeHook : ByteArray := prog_5_method_9_code
def yX3_hearFreeHook : MethodName := ⟨RX3, "hearFreeHook", "(I)Z"⟩
abbrev cX3_hearAct : ByteArray := prog_5_method_10_code
def yX3_hearAct : MethodName := ⟨RX3, "hearAct", "()Z"⟩
abbrev cX3_hearFor : ByteArray := prog_5_method_11_code
def yX3_hearFor : MethodName := ⟨RX3, "hearFor", "()Z"⟩
abbrev cX3_hearRests : ByteArray := prog_5_method_12_code
def yX3_hearRests : MethodName := ⟨RX3, "hearRests", "()Z"⟩
abbrev cX3_hearDoubted : ByteArray := prog_5_method_13_code
def yX3_hearDoubted : MethodName := ⟨RX3, "hearDoubted", "()Z"⟩
abbrev cX3_hearOutcome : ByteArray := prog_5_method_14_code
def yX3_hearOutcome : MethodName := ⟨RX3, "hearOutcome", "(Z)Z"⟩
abbrev cX3_hearWord : ByteArray := prog_5_method_15_code
def yX3_hearWord : MethodName := ⟨RX3, "hearWord", "(I)Z"⟩
abbrev cX3_hearNumber : ByteArray := prog_5_method_16_code
def yX3_hearNumber : MethodName := ⟨RX3, "hearNumber", "(III)Z"⟩
abbrev cX3_isName : ByteArray := prog_5_method_17_code
def yX3_isName : MethodName := ⟨RX3, "isName", "()Z"⟩
abbrev cX3_hearNewName : ByteArray := prog_5_method_18_code
def yX3_hearNewName : MethodName := ⟨RX3, "hearNewName", "(II)Z"⟩
abbrev cX3_toldNumber : ByteArray := prog_5_method_19_code
def yX3_toldNumber : MethodName := ⟨RX3, "toldNumber", "(I)I"⟩
abbrev cX3_nameIndex : ByteArray := prog_5_method_20_code
def yX3_nameIndex : MethodName := ⟨RX3, "nameIndex", "()I"⟩
abbrev cX3_fail : ByteArray := prog_5_method_21_code
def yX3_fail : MethodName := ⟨RX3, "fail", "(I)Z"⟩
def RX4 : String := "SafeSenate$Plan"
def TX4 : u_T := fun k => match k with
  | 0 => ("SafeSenate$Plan", "quorum", "I", false)
  | 1 => ("SafeSenate$Plan", "heat", "I", false)
  | 2 => ("SafeSenate$Plan", "thunder", "I", false)
  | 3 => ("SafeSenate$Plan", "hookCount", "I", false)
  | 4 => ("SafeSenate$Plan", "air", "[I", true)
  | 5 => ("SafeSenate$Plan", "senatorCount", "I", false)
  | 6 => ("SafeSenate$Plan", "votes", "[I", true)
  | 7 => ("SafeSenate$Plan", "actCount", "I", false)
  | 8 => ("SafeSenate$Plan", "actDay", "[I", true)
  | 9 => ("SafeSenate$Plan", "actFor", "[I", true)
  | 10 => ("SafeSenate$Plan", "actRests", "[I", true)
  | 11 => ("SafeSenate$Plan", "forCount", "I", false)
  | 12 => ("SafeSenate$Plan", "restsCount", "I", false)
  | 13 => ("SafeSenate$Plan", "doubted", "I", false)
  | 14 => ("SafeSenate$Plan", "went", "I", false)
  | 15 => ("SafeSenate$Plan", "fell", "I", false)
  | _ => ("SafeSenate$Plan", "first", "LSafeSenate$Moment;", true)
def tyX4 : Nat → FieldType := fun k => match k with
  | 0 => .int
  | 1 => .int
  | 2 => .int
  | 3 => .int
  | 4 => .array .int
  | 5 => .int
  | 6 => .array .int
  | 7 => .int
  | 8 => .array .int
  | 9 => .array .int
  | 10 => .array .int
  | 11 => .int
  | 12 => .int
  | 13 => .int
  | 14 => .int
  | 15 => .int
  | _ => .object "SafeSenate$Moment"
abbrev wsX40 : List Cond := u_ws RX4 TX4 17
theorem nmX4 : ∀ a, a < 17 → ∀ b, b < 17 → a ≠ b → (TX4 a).2.1 ≠ (TX4 b).2.1 := by decide +kernel
theorem tyX4_ok : ∀ k, k < 17 → parseFieldDescriptor (TX4 k).2.2.1 = some (tyX4 k) := by decide +kernel
abbrev cX4_init : ByteArray := prog_6_method_1_code
def yX4_init : MethodName := ⟨RX4, "<init>", "()V"⟩
abbrev cX4_clear : ByteArray := prog_6_method_2_code
def yX4_clear : MethodName := ⟨RX4, "clear", "()V"⟩
abbrev cX4_actsOf : ByteArray := prog_6_method_3_code
def yX4_actsOf : MethodName := ⟨RX4, "actsOf", "(I)I"⟩
abbrev cX4_airAt : ByteArray := prog_6_method_4_code
def yX4_airAt : MethodName := ⟨RX4, "airAt", "(I)I"⟩
abbrev cX4_lossOver : ByteArray := prog_6_method_5_code
def yX4_lossOver : MethodName := ⟨RX4, "lossOver", "(IIII)I"⟩
abbrev cX4_lossBehind : ByteArray := prog_6_method_6_code
def yX4_lossBehind : MethodName := ⟨RX4, "lossBehind", "(LSafeSenate$Moment;II)I"⟩
abbrev cX4_goodDays : ByteArray := prog_6_method_7_code
def yX4_goodDays : MethodName := ⟨RX4, "goodDays", "(LSafeSenate$Moment;III)I"⟩
abbrev cX4_goodAfter : ByteArray := prog_6_method_8_code
def yX4_goodAfter : MethodName := ⟨RX4, "goodAfter", "(LSafeSenate$Moment;II)I"⟩
abbrev cX4_chancesOf : ByteArray := prog_6_method_9_code
def yX4_chancesOf : MethodName := ⟨RX4, "chancesOf", "(II)J"⟩
abbrev cX4_seedBehind : ByteArray := prog_6_method_10_code
def yX4_seedBehind : MethodName := ⟨RX4, "seedBehind", "(I)I"⟩
abbrev cX4_isThunder : ByteArray := prog_6_method_11_code
def yX4_isThunder : MethodName := ⟨RX4, "isThunder", "(I)Z"⟩
abbrev cX4_thundersDrawn : ByteArray := prog_6_method_12_code
def yX4_thundersDrawn : MethodName := ⟨RX4, "thundersDrawn", "(II)I"⟩
abbrev cX4_votesOf : ByteArray := prog_6_method_13_code
def yX4_votesOf : MethodName := ⟨RX4, "votesOf", "(I)I"⟩
abbrev cX4_leadOf : ByteArray := prog_6_method_14_code
def yX4_leadOf : MethodName := ⟨RX4, "leadOf", "(II)I"⟩
abbrev cX4_goingAlone : ByteArray := prog_6_method_15_code
def yX4_goingAlone : MethodName := ⟨RX4, "goingAlone", "(LSafeSenate$Moment;LSafeSenate$Spans;)I"⟩
abbrev cX4_goingAmong : ByteArray := prog_6_method_16_code
def yX4_goingAmong : MethodName := ⟨RX4, "goingAmong", "(I)I"⟩
abbrev cX4_restsOn : ByteArray := prog_6_method_17_code
def yX4_restsOn : MethodName := ⟨RX4, "restsOn", "(II)I"⟩
abbrev cX4_fallingWith : ByteArray := prog_6_method_18_code
def yX4_fallingWith : MethodName := ⟨RX4, "fallingWith", "(I)I"⟩
abbrev cX4_swingsOf : ByteArray := prog_6_method_19_code
def yX4_swingsOf : MethodName := ⟨RX4, "swingsOf", "(II)I"⟩
def RX5 : String := "SafeSenate$Reader"
def TX5 : u_T := fun k => match k with
  | 0 => ("SafeSenate$Reader", "length", "I", false)
  | 1 => ("SafeSenate$Reader", "sort", "I", false)
  | 2 => ("SafeSenate$Reader", "start", "I", false)
  | 3 => ("SafeSenate$Reader", "keyword", "I", false)
  | 4 => ("SafeSenate$Reader", "value", "J", false)
  | 5 => ("SafeSenate$Reader", "bytes", "[B", true)
  | 6 => ("SafeSenate$Reader", "sorts", "[I", true)
  | 7 => ("SafeSenate$Reader", "starts", "[I", true)
  | 8 => ("SafeSenate$Reader", "keywords", "[I", true)
  | 9 => ("SafeSenate$Reader", "values", "[J", true)
  | 10 => ("SafeSenate$Reader", "next", "I", false)
  | 11 => ("SafeSenate$Reader", "end", "I", false)
  | _ => ("SafeSenate$Reader", "at", "I", false)
def tyX5 : Nat → FieldType := fun k => match k with
  | 0 => .int
  | 1 => .int
  | 2 => .int
  | 3 => .int
  | 4 => .long
  | 5 => .array .byte
  | 6 => .array .int
  | 7 => .array .int
  | 8 => .array .int
  | 9 => .array .long
  | 10 => .int
  | 11 => .int
  | _ => .int
abbrev wsX50 : List Cond := u_ws RX5 TX5 13
theorem nmX5 : ∀ a, a < 13 → ∀ b, b < 13 → a ≠ b → (TX5 a).2.1 ≠ (TX5 b).2.1 := by decide +kernel
theorem tyX5_ok : ∀ k, k < 13 → parseFieldDescriptor (TX5 k).2.2.1 = some (tyX5 k) := by decide +kernel
abbrev cX5_init : ByteArray := prog_7_method_1_code
def yX5_init : MethodName := ⟨RX5, "<init>", "()V"⟩
abbrev cX5_put : ByteArray := prog_7_method_2_code
def yX5_put : MethodName := ⟨RX5, "put", "(I)V"⟩
abbrev cX5_split : ByteArray := prog_7_method_3_code
def yX5_split : MethodName := ⟨RX5, "split", "(I)V"⟩
abbrev cX5_advance : ByteArray := prog_7_method_4_code
def yX5_advance : MethodName := ⟨RX5, "advance", "()V"⟩
abbrev cX5_readToken : ByteArray := prog_7_method_5_code
def yX5_readToken : MethodName := ⟨RX5, "readToken", "(I)I"⟩
abbrev cX5_readWord : ByteArray := prog_7_method_6_code
def yX5_readWord : MethodName := ⟨RX5, "readWord", "(I)I"⟩
abbrev cX5_readWhole : ByteArray := prog_7_method_7_code
def yX5_readWhole : MethodName := ⟨RX5, "readWhole", "(I)I"⟩
abbrev cX5_isSpelt : ByteArray := prog_7_method_8_code
def yX5_isSpelt : MethodName := ⟨RX5, "isSpelt", "(Ljava/lang/String;II)Z"⟩
abbrev cX5_isLetter : ByteArray := prog_7_method_9_code
def yX5_isLetter : MethodName := ⟨RX5, "isLetter", "(I)Z"⟩
abbrev cX5_isDigit : ByteArray := prog_7_method_10_code
def yX5_isDigit : MethodName := ⟨RX5, "isDigit", "(I)Z"⟩
abbrev cX5_keyText : ByteArray := prog_7_method_11_code
def yX5_keyText : MethodName := ⟨RX5, "keyText", "(I)Ljava/lang/String;"⟩
def RX6 : String := "SafeSenate$Spans"
def TX6 : u_T := fun k => match k with
  | _ => ("SafeSenate$Spans", "days", "[I", true)
def tyX6 : Nat → FieldType := fun k => match k with
  | _ => .array .int
abbrev wsX60 : List Cond := u_ws RX6 TX6 1
theorem nmX6 : ∀ a, a < 1 → ∀ b, b < 1 → a ≠ b → (TX6 a).2.1 ≠ (TX6 b).2.1 := by decide +kernel
theorem tyX6_ok : ∀ k, k < 1 → parseFieldDescriptor (TX6 k).2.2.1 = some (tyX6 k) := by decide +kernel
abbrev cX6_init : ByteArray := prog_8_method_1_code
def yX6_init : MethodName := ⟨RX6, "<init>", "()V"⟩
abbrev cX6_fill : ByteArray := prog_8_method_2_code
def yX6_fill : MethodName := ⟨RX6, "fill", "(LSafeSenate$Plan;LSafeSenate$Moment;)V"⟩
abbrev cX6_goodAfter : ByteArray := prog_8_method_3_code
def yX6_goodAfter : MethodName := ⟨RX6, "goodAfter", "(II)I"⟩
abbrev cX6_sum : ByteArray := prog_8_method_4_code
def yX6_sum : MethodName := ⟨RX6, "sum", "(I)I"⟩
abbrev cX6_quorumDays : ByteArray := prog_8_method_5_code
def yX6_quorumDays : MethodName := ⟨RX6, "quorumDays", "(II)I"⟩
def RX7 : String := "SafeSenate$Undoing"
def TX7 : u_T := fun k => match k with
  | 0 => ("SafeSenate$Undoing", "count", "I", false)
  | 1 => ("SafeSenate$Undoing", "next", "I", false)
  | _ => ("SafeSenate$Undoing", "moments", "[LSafeSenate$Moment;", true)
def tyX7 : Nat → FieldType := fun k => match k with
  | 0 => .int
  | 1 => .int
  | _ => .array (.object "SafeSenate$Moment")
abbrev wsX70 : List Cond := u_ws RX7 TX7 3
theorem nmX7 : ∀ a, a < 3 → ∀ b, b < 3 → a ≠ b → (TX7 a).2.1 ≠ (TX7 b).2.1 := by decide +kernel
theorem tyX7_ok : ∀ k, k < 3 → parseFieldDescriptor (TX7 k).2.2.1 = some (tyX7 k) := by decide +kernel
abbrev cX7_init : ByteArray := prog_9_method_1_code
def yX7_init : MethodName := ⟨RX7, "<init>", "()V"⟩
abbrev cX7_clear : ByteArray := prog_9_method_2_code
def yX7_clear : MethodName := ⟨RX7, "clear", "()V"⟩
abbrev cX7_keep : ByteArray := prog_9_method_3_code
def yX7_keep : MethodName := ⟨RX7, "keep", "(LSafeSenate$Moment;)V"⟩
abbrev cX7_restore : ByteArray := prog_9_method_4_code
def yX7_restore : MethodName := ⟨RX7, "restore", "(LSafeSenate$Moment;)V"⟩
def RX8 : String := "SafeSenate"
def TX8 : u_T := fun k => match k with
  | 0 => ("SafeSenate", "parser", "LSafeSenate$Parser;", true)
  | 1 => ("SafeSenate", "plan", "LSafeSenate$Plan;", false)
  | 2 => ("SafeSenate", "now", "LSafeSenate$Moment;", true)
  | 3 => ("SafeSenate", "undoing", "LSafeSenate$Undoing;", true)
  | 4 => ("SafeSenate", "images", "[LSafeSenate$Moment;", true)
  | 5 => ("SafeSenate", "imageCount", "I", false)
  | 6 => ("SafeSenate", "latestTrouble", "I", false)
  | 7 => ("SafeSenate", "latestFault", "I", false)
  | 8 => ("SafeSenate", "faultPlace", "I", false)
  | 9 => ("SafeSenate", "spans", "LSafeSenate$Spans;", true)
  | 10 => ("SafeSenate", "hanging", "LSafeSenate$Hanging;", true)
  | _ => ("SafeSenate", "doubt", "LSafeSenate$Doubt;", true)
def tyX8 : Nat → FieldType := fun k => match k with
  | 0 => .object "SafeSenate$Parser"
  | 1 => .object "SafeSenate$Plan"
  | 2 => .object "SafeSenate$Moment"
  | 3 => .object "SafeSenate$Undoing"
  | 4 => .array (.object "SafeSenate$Moment")
  | 5 => .int
  | 6 => .int
  | 7 => .int
  | 8 => .int
  | 9 => .object "SafeSenate$Spans"
  | 10 => .object "SafeSenate$Hanging"
  | _ => .object "SafeSenate$Doubt"
abbrev wsX80 : List Cond := u_ws RX8 TX8 12
theorem nmX8 : ∀ a, a < 12 → ∀ b, b < 12 → a ≠ b → (TX8 a).2.1 ≠ (TX8 b).2.1 := by decide +kernel
theorem tyX8_ok : ∀ k, k < 12 → parseFieldDescriptor (TX8 k).2.2.1 = some (tyX8 k) := by decide +kernel
abbrev cX8_init : ByteArray := prog_1_method_1_code
def yX8_init : MethodName := ⟨RX8, "<init>", "()V"⟩
abbrev cX8_feed : ByteArray := prog_1_method_2_code
def yX8_feed : MethodName := ⟨RX8, "feed", "(IIIII)I"⟩
abbrev cX8_safe : ByteArray := prog_1_method_3_code
def yX8_safe : MethodName := ⟨RX8, "safe", "(I)I"⟩
abbrev cX8_fault : ByteArray := prog_1_method_4_code
def yX8_fault : MethodName := ⟨RX8, "fault", "()I"⟩
abbrev cX8_where : ByteArray := prog_1_method_5_code
def yX8_where : MethodName := ⟨RX8, "where", "()I"⟩
abbrev cX8_senator : ByteArray := prog_1_method_6_code
def yX8_senator : MethodName := ⟨RX8, "senator", "(II)I"⟩
abbrev cX8_hook : ByteArray := prog_1_method_7_code
def yX8_hook : MethodName := ⟨RX8, "hook", "(II)I"⟩
abbrev cX8_act : ByteArray := prog_1_method_8_code
def yX8_act : MethodName := ⟨RX8, "act", "(II)I"⟩
abbrev cX8_good : ByteArray := prog_1_method_9_code
def yX8_good : MethodName := ⟨RX8, "good", "()I"⟩
abbrev cX8_quorum : ByteArray := prog_1_method_10_code
def yX8_quorum : MethodName := ⟨RX8, "quorum", "()I"⟩
abbrev cX8_goodIn : ByteArray := prog_1_method_11_code
def yX8_goodIn : MethodName := ⟨RX8, "goodIn", "(II)I"⟩
abbrev cX8_offIn : ByteArray := prog_1_method_12_code
def yX8_offIn : MethodName := ⟨RX8, "offIn", "(I)I"⟩
abbrev cX8_lasts : ByteArray := prog_1_method_13_code
def yX8_lasts : MethodName := ⟨RX8, "lasts", "()I"⟩
abbrev cX8_going : ByteArray := prog_1_method_14_code
def yX8_going : MethodName := ⟨RX8, "going", "()I"⟩
abbrev cX8_nextAct : ByteArray := prog_1_method_15_code
def yX8_nextAct : MethodName := ⟨RX8, "nextAct", "()I"⟩
abbrev cX8_margin : ByteArray := prog_1_method_16_code
def yX8_margin : MethodName := ⟨RX8, "margin", "(I)I"⟩
abbrev cX8_hang : ByteArray := prog_1_method_17_code
def yX8_hang : MethodName := ⟨RX8, "hang", "(I)I"⟩
abbrev cX8_hangAt : ByteArray := prog_1_method_18_code
def yX8_hangAt : MethodName := ⟨RX8, "hangAt", "(II)I"⟩
abbrev cX8_longest : ByteArray := prog_1_method_19_code
def yX8_longest : MethodName := ⟨RX8, "longest", "()I"⟩
abbrev cX8_longestAt : ByteArray := prog_1_method_20_code
def yX8_longestAt : MethodName := ⟨RX8, "longestAt", "(I)I"⟩
abbrev cX8_bestSwap : ByteArray := prog_1_method_21_code
def yX8_bestSwap : MethodName := ⟨RX8, "bestSwap", "()I"⟩
abbrev cX8_toSalt : ByteArray := prog_1_method_22_code
def yX8_toSalt : MethodName := ⟨RX8, "toSalt", "()I"⟩
abbrev cX8_keyMan : ByteArray := prog_1_method_23_code
def yX8_keyMan : MethodName := ⟨RX8, "keyMan", "()I"⟩
abbrev cX8_since : ByteArray := prog_1_method_24_code
def yX8_since : MethodName := ⟨RX8, "since", "()I"⟩
abbrev cX8_sinceAt : ByteArray := prog_1_method_25_code
def yX8_sinceAt : MethodName := ⟨RX8, "sinceAt", "(I)I"⟩
abbrev cX8_look : ByteArray := prog_1_method_26_code
def yX8_look : MethodName := ⟨RX8, "look", "()I"⟩
abbrev cX8_lookLeaves : ByteArray := prog_1_method_27_code
def yX8_lookLeaves : MethodName := ⟨RX8, "lookLeaves", "()I"⟩
abbrev cX8_judge : ByteArray := prog_1_method_28_code
def yX8_judge : MethodName := ⟨RX8, "judge", "()I"⟩
abbrev cX8_fallsWith : ByteArray := prog_1_method_29_code
def yX8_fallsWith : MethodName := ⟨RX8, "fallsWith", "(I)I"⟩
abbrev cX8_strike : ByteArray := prog_1_method_30_code
def yX8_strike : MethodName := ⟨RX8, "strike", "(I)I"⟩
abbrev cX8_keystone : ByteArray := prog_1_method_31_code
def yX8_keystone : MethodName := ⟨RX8, "keystone", "()I"⟩
abbrev cX8_ring : ByteArray := prog_1_method_32_code
def yX8_ring : MethodName := ⟨RX8, "ring", "()I"⟩
abbrev cX8_power : ByteArray := prog_1_method_33_code
def yX8_power : MethodName := ⟨RX8, "power", "(IZ)J"⟩
abbrev cX8_strongest : ByteArray := prog_1_method_34_code
def yX8_strongest : MethodName := ⟨RX8, "strongest", "()I"⟩
abbrev cX8_wire : ByteArray := prog_1_method_35_code
def yX8_wire : MethodName := ⟨RX8, "wire", "(IZZZ)I"⟩
abbrev cX8_rests : ByteArray := prog_1_method_36_code
def yX8_rests : MethodName := ⟨RX8, "rests", "(I)I"⟩
abbrev cX8_rest : ByteArray := prog_1_method_37_code
def yX8_rest : MethodName := ⟨RX8, "rest", "(I)I"⟩
abbrev cX8_odds : ByteArray := prog_1_method_38_code
def yX8_odds : MethodName := ⟨RX8, "odds", "(IZ)J"⟩
abbrev cX8_goodOdds : ByteArray := prog_1_method_39_code
def yX8_goodOdds : MethodName := ⟨RX8, "goodOdds", "(IIZ)J"⟩
abbrev cX8_mean : ByteArray := prog_1_method_40_code
def yX8_mean : MethodName := ⟨RX8, "mean", "(IZ)J"⟩
abbrev cX8_days : ByteArray := prog_1_method_41_code
def yX8_days : MethodName := ⟨RX8, "days", "(II)I"⟩
abbrev cX8_thunders : ByteArray := prog_1_method_42_code
def yX8_thunders : MethodName := ⟨RX8, "thunders", "(II)I"⟩
abbrev cX8_day : ByteArray := prog_1_method_43_code
def yX8_day : MethodName := ⟨RX8, "day", "()I"⟩
abbrev cX8_move : ByteArray := prog_1_method_44_code
def yX8_move : MethodName := ⟨RX8, "move", "(II)I"⟩
abbrev cX8_salt : ByteArray := prog_1_method_45_code
def yX8_salt : MethodName := ⟨RX8, "salt", "(I)Z"⟩
abbrev cX8_seed : ByteArray := prog_1_method_46_code
def yX8_seed : MethodName := ⟨RX8, "seed", "(I)Z"⟩
abbrev cX8_undo : ByteArray := prog_1_method_47_code
def yX8_undo : MethodName := ⟨RX8, "undo", "()Z"⟩
abbrev cX8_image : ByteArray := prog_1_method_48_code
def yX8_image : MethodName := ⟨RX8, "image", "()I"⟩
abbrev cX8_back : ByteArray := prog_1_method_49_code
def yX8_back : MethodName := ⟨RX8, "back", "(I)Z"⟩
abbrev cX8_led : ByteArray := prog_1_method_50_code
def yX8_led : MethodName := ⟨RX8, "led", "(I)I"⟩
abbrev cX8_size : ByteArray := prog_1_method_51_code
def yX8_size : MethodName := ⟨RX8, "size", "(I)I"⟩
abbrev cX8_trouble : ByteArray := prog_1_method_52_code
def yX8_trouble : MethodName := ⟨RX8, "trouble", "()I"⟩
abbrev cX8_sizeBehind : ByteArray := prog_1_method_53_code
def yX8_sizeBehind : MethodName := ⟨RX8, "sizeBehind", "(I)I"⟩
abbrev cX8_refuse : ByteArray := prog_1_method_54_code
def yX8_refuse : MethodName := ⟨RX8, "refuse", "(I)I"⟩
abbrev cX8_grant : ByteArray := prog_1_method_55_code
def yX8_grant : MethodName := ⟨RX8, "grant", "(I)I"⟩
abbrev cX8_deny : ByteArray := prog_1_method_56_code
def yX8_deny : MethodName := ⟨RX8, "deny", "(I)Z"⟩
abbrev cX8_allow : ByteArray := prog_1_method_57_code
def yX8_allow : MethodName := ⟨RX8, "allow", "()Z"⟩
abbrev cX8_lacksSafe : ByteArray := prog_1_method_58_code
def yX8_lacksSafe : MethodName := ⟨RX8, "lacksSafe", "()Z"⟩
abbrev cX8_lacksSenator : ByteArray := prog_1_method_59_code
def yX8_lacksSenator : MethodName := ⟨RX8, "lacksSenator", "(I)Z"⟩
abbrev cX8_lacksAct : ByteArray := prog_1_method_60_code
def yX8_lacksAct : MethodName := ⟨RX8, "lacksAct", "(I)Z"⟩
abbrev cX8_lacksDoubt : ByteArray := prog_1_method_61_code
def yX8_lacksDoubt : MethodName := ⟨RX8, "lacksDoubt", "()Z"⟩
abbrev cX8_whyNoDoubt : ByteArray := prog_1_method_62_code
def yX8_whyNoDoubt : MethodName := ⟨RX8, "whyNoDoubt", "()I"⟩
abbrev cX8_outside : ByteArray := prog_1_method_63_code
def yX8_outside : MethodName := ⟨RX8, "outside", "(II)Z"⟩
abbrev cX8_goodNow : ByteArray := prog_1_method_64_code
def yX8_goodNow : MethodName := ⟨RX8, "goodNow", "()I"⟩
abbrev cX8_goingNow : ByteArray := prog_1_method_65_code
def yX8_goingNow : MethodName := ⟨RX8, "goingNow", "()I"⟩
abbrev cX8_lastsNow : ByteArray := prog_1_method_66_code
def yX8_lastsNow : MethodName := ⟨RX8, "lastsNow", "()I"⟩
abbrev cX8_lastsSwapped : ByteArray := prog_1_method_67_code
def yX8_lastsSwapped : MethodName := ⟨RX8, "lastsSwapped", "(II)I"⟩
abbrev cX8_lastsSalted : ByteArray := prog_1_method_68_code
def yX8_lastsSalted : MethodName := ⟨RX8, "lastsSalted", "(I)I"⟩
abbrev cX8_fewestStruck : ByteArray := prog_1_method_69_code
def yX8_fewestStruck : MethodName := ⟨RX8, "fewestStruck", "(II)I"⟩
abbrev cX8_share : ByteArray := prog_1_method_70_code
def yX8_share : MethodName := ⟨RX8, "share", "(IZZ)I"⟩
abbrev cX8_isRest : ByteArray := prog_1_method_71_code
def yX8_isRest : MethodName := ⟨RX8, "isRest", "(II)Z"⟩
abbrev cX8_powerOf : ByteArray := prog_1_method_72_code
def yX8_powerOf : MethodName := ⟨RX8, "powerOf", "(II)J"⟩
abbrev cX8_reduced : ByteArray := prog_1_method_73_code
def yX8_reduced : MethodName := ⟨RX8, "reduced", "(JJZ)J"⟩
abbrev cX8_commonDivisor : ByteArray := prog_1_method_74_code
def yX8_commonDivisor : MethodName := ⟨RX8, "commonDivisor", "(JJ)J"⟩
def RX9 : String := "SafeSenateModel$Safe"
def TX9 : u_T := fun k => match k with
  | 0 => ("SafeSenateModel$Safe", "quorum", "I", false)
  | 1 => ("SafeSenateModel$Safe", "heat", "I", false)
  | 2 => ("SafeSenateModel$Safe", "thunder", "I", false)
  | 3 => ("SafeSenateModel$Safe", "salt", "I", false)
  | 4 => ("SafeSenateModel$Safe", "hooks", "I", false)
  | 5 => ("SafeSenateModel$Safe", "senators", "I", false)
  | 6 => ("SafeSenateModel$Safe", "acts", "I", false)
  | 7 => ("SafeSenateModel$Safe", "fors", "I", false)
  | 8 => ("SafeSenateModel$Safe", "rests", "I", false)
  | 9 => ("SafeSenateModel$Safe", "doubted", "I", false)
  | 10 => ("SafeSenateModel$Safe", "ends", "I", false)
  | 11 => ("SafeSenateModel$Safe", "names", "I", false)
  | 12 => ("SafeSenateModel$Safe", "air", "[I", true)
  | 13 => ("SafeSenateModel$Safe", "kind", "[I", true)
  | 14 => ("SafeSenateModel$Safe", "hook", "[I", true)
  | 15 => ("SafeSenateModel$Safe", "good", "[I", true)
  | 16 => ("SafeSenateModel$Safe", "votes", "[I", true)
  | 17 => ("SafeSenateModel$Safe", "day", "[I", true)
  | 18 => ("SafeSenateModel$Safe", "infavour", "[I", true)
  | 19 => ("SafeSenateModel$Safe", "restsOn", "[I", true)
  | 20 => ("SafeSenateModel$Safe", "end", "[I", true)
  | 21 => ("SafeSenateModel$Safe", "name", "[J", true)
  | 22 => ("SafeSenateModel$Safe", "nameSort", "[I", true)
  | _ => ("SafeSenateModel$Safe", "numberOf", "[I", true)
def tyX9 : Nat → FieldType := fun k => match k with
  | 0 => .int
  | 1 => .int
  | 2 => .int
  | 3 => .int
  | 4 => .int
  | 5 => .int
  | 6 => .int
  | 7 => .int
  | 8 => .int
  | 9 => .int
  | 10 => .int
  | 11 => .int
  | 12 => .array .int
  | 13 => .array .int
  | 14 => .array .int
  | 15 => .array .int
  | 16 => .array .int
  | 17 => .array .int
  | 18 => .array .int
  | 19 => .array .int
  | 20 => .array .int
  | 21 => .array .long
  | 22 => .array .int
  | _ => .array .int
abbrev wsX90 : List Cond := u_ws RX9 TX9 24
theorem nmX9 : ∀ a, a < 24 → ∀ b, b < 24 → a ≠ b → (TX9 a).2.1 ≠ (TX9 b).2.1 := by decide +kernel
theorem tyX9_ok : ∀ k, k < 24 → parseFieldDescriptor (TX9 k).2.2.1 = some (tyX9 k) := by decide +kernel
abbrev cX9_init : ByteArray := prog_12_method_1_code
def yX9_init : MethodName := ⟨RX9, "<init>", "()V"⟩
abbrev cX9_find : ByteArray := prog_12_method_2_code
def yX9_find : MethodName := ⟨RX9, "find", "(J)I"⟩
abbrev cX9_isHung : ByteArray := prog_12_method_3_code
def yX9_isHung : MethodName := ⟨RX9, "isHung", "(I)Z"⟩
def RX10 : String := "SafeSenateModel"
def TX10 : u_T := fun k => match k with
  | 0 => ("SafeSenateModel", "thrown", "I", false)
  | 1 => ("SafeSenateModel", "trouble", "I", false)
  | 2 => ("SafeSenateModel", "where", "I", false)
  | 3 => ("SafeSenateModel", "safe", "LSafeSenateModel$Safe;", false)
  | 4 => ("SafeSenateModel", "read", "LSafeSenateModel$Safe;", false)
  | 5 => ("SafeSenateModel", "tape", "[B", true)
  | 6 => ("SafeSenateModel", "taped", "I", false)
  | 7 => ("SafeSenateModel", "size", "I", false)
  | 8 => ("SafeSenateModel", "spot", "I", false)
  | 9 => ("SafeSenateModel", "sort", "I", false)
  | 10 => ("SafeSenateModel", "place", "I", false)
  | 11 => ("SafeSenateModel", "number", "I", false)
  | 12 => ("SafeSenateModel", "fault", "I", false)
  | 13 => ("SafeSenateModel", "wrongAt", "I", false)
  | 14 => ("SafeSenateModel", "word", "J", false)
  | 15 => ("SafeSenateModel", "v", "[I", true)
  | 16 => ("SafeSenateModel", "x", "[I", true)
  | 17 => ("SafeSenateModel", "past", "[I", true)
  | 18 => ("SafeSenateModel", "kept", "[I", true)
  | 19 => ("SafeSenateModel", "acts", "I", false)
  | 20 => ("SafeSenateModel", "images", "I", false)
  | 21 => ("SafeSenateModel", "bestHooks", "[I", true)
  | 22 => ("SafeSenateModel", "sinceNow", "I", false)
  | 23 => ("SafeSenateModel", "wentBy", "[I", true)
  | 24 => ("SafeSenateModel", "lookLeft", "I", false)
  | 25 => ("SafeSenateModel", "goodOdds", "[J", true)
  | 26 => ("SafeSenateModel", "whole", "J", false)
  | 27 => ("SafeSenateModel", "quorumOdds", "J", false)
  | _ => ("SafeSenateModel", "goodSum", "J", false)
def tyX10 : Nat → FieldType := fun k => match k with
  | 0 => .int
  | 1 => .int
  | 2 => .int
  | 3 => .object "SafeSenateModel$Safe"
  | 4 => .object "SafeSenateModel$Safe"
  | 5 => .array .byte
  | 6 => .int
  | 7 => .int
  | 8 => .int
  | 9 => .int
  | 10 => .int
  | 11 => .int
  | 12 => .int
  | 13 => .int
  | 14 => .long
  | 15 => .array .int
  | 16 => .array .int
  | 17 => .array .int
  | 18 => .array .int
  | 19 => .int
  | 20 => .int
  | 21 => .array .int
  | 22 => .int
  | 23 => .array .int
  | 24 => .int
  | 25 => .array .long
  | 26 => .long
  | 27 => .long
  | _ => .long
abbrev wsX100 : List Cond := u_ws RX10 TX10 29
theorem nmX10 : ∀ a, a < 29 → ∀ b, b < 29 → a ≠ b → (TX10 a).2.1 ≠ (TX10 b).2.1 := by decide +kernel
theorem tyX10_ok : ∀ k, k < 29 → parseFieldDescriptor (TX10 k).2.2.1 = some (tyX10 k) := by decide +kernel
abbrev cX10_init : ByteArray := prog_11_method_1_code
def yX10_init : MethodName := ⟨RX10, "<init>", "()V"⟩
abbrev cX10_thrown : ByteArray := prog_11_method_2_code
def yX10_thrown : MethodName := ⟨RX10, "thrown", "()I"⟩
abbrev cX10_refused : ByteArray := prog_11_method_3_code
def yX10_refused : MethodName := ⟨RX10, "refused", "(I)I"⟩
abbrev cX10_lost : ByteArray := prog_11_method_4_code
def yX10_lost : MethodName := ⟨RX10, "lost", "(I)I"⟩
abbrev cX10_denied : ByteArray := prog_11_method_5_code
def yX10_denied : MethodName := ⟨RX10, "denied", "(I)Z"⟩
abbrev cX10_well : ByteArray := prog_11_method_6_code
def yX10_well : MethodName := ⟨RX10, "well", "(I)I"⟩
abbrev cX10_granted : ByteArray := prog_11_method_7_code
def yX10_granted : MethodName := ⟨RX10, "granted", "()Z"⟩
abbrev cX10_in : ByteArray := prog_11_method_8_code
def yX10_in : MethodName := ⟨RX10, "in", "(III)Z"⟩
abbrev cX10_bit : ByteArray := prog_11_method_9_code
def yX10_bit : MethodName := ⟨RX10, "bit", "(II)Z"⟩
abbrev cX10_bits : ByteArray := prog_11_method_10_code
def yX10_bits : MethodName := ⟨RX10, "bits", "(I)I"⟩
abbrev cX10_common : ByteArray := prog_11_method_11_code
def yX10_common : MethodName := ⟨RX10, "common", "(JJ)J"⟩
abbrev cX10_fraction : ByteArray := prog_11_method_12_code
def yX10_fraction : MethodName := ⟨RX10, "fraction", "(JJZ)J"⟩
abbrev cX10_byteAt : ByteArray := prog_11_method_13_code
def yX10_byteAt : MethodName := ⟨RX10, "byteAt", "(I)I"⟩
abbrev cX10_isLetter : ByteArray := prog_11_method_14_code
def yX10_isLetter : MethodName := ⟨RX10, "isLetter", "(I)Z"⟩
abbrev cX10_isDigit : ByteArray := prog_11_method_15_code
def yX10_isDigit : MethodName := ⟨RX10, "isDigit", "(I)Z"⟩
abbrev cX10_packed : ByteArray := prog_11_method_16_code
def yX10_packed : MethodName := ⟨RX10, "packed", "(Ljava/lang/String;)J"⟩
abbrev cX10_goesOn : ByteArray := prog_11_method_17_code
def yX10_goesOn : MethodName := ⟨RX10, "goesOn", "()V"⟩
abbrev cX10_flaw : ByteArray := prog_11_method_18_code
def yX10_flaw : MethodName := ⟨RX10, "flaw", "(I)V"⟩
abbrev cX10_isWord : ByteArray := prog_11_method_19_code
def yX10_isWord : MethodName := ⟨RX10, "isWord", "(Ljava/lang/String;)Z"⟩
abbrev cX10_eatsSemicolon : ByteArray := prog_11_method_20_code
def yX10_eatsSemicolon : MethodName := ⟨RX10, "eatsSemicolon", "()Z"⟩
abbrev cX10_needs : ByteArray := prog_11_method_21_code
def yX10_needs : MethodName := ⟨RX10, "needs", "(Ljava/lang/String;)V"⟩
abbrev cX10_readPart : ByteArray := prog_11_method_22_code
def yX10_readPart : MethodName := ⟨RX10, "readPart", "(Ljava/lang/String;II)I"⟩
abbrev cX10_isName : ByteArray := prog_11_method_23_code
def yX10_isName : MethodName := ⟨RX10, "isName", "()Z"⟩
abbrev cX10_lineBegins : ByteArray := prog_11_method_24_code
def yX10_lineBegins : MethodName := ⟨RX10, "lineBegins", "(II)V"⟩
abbrev cX10_readFresh : ByteArray := prog_11_method_25_code
def yX10_readFresh : MethodName := ⟨RX10, "readFresh", "()J"⟩
abbrev cX10_names : ByteArray := prog_11_method_26_code
def yX10_names : MethodName := ⟨RX10, "names", "(JII)V"⟩
abbrev cX10_knownOne : ByteArray := prog_11_method_27_code
def yX10_knownOne : MethodName := ⟨RX10, "knownOne", "(I)I"⟩
abbrev cX10_readKnown : ByteArray := prog_11_method_28_code
def yX10_readKnown : MethodName := ⟨RX10, "readKnown", "(I)I"⟩
abbrev cX10_readAll : ByteArray := prog_11_method_29_code
def yX10_readAll : MethodName := ⟨RX10, "readAll", "()V"⟩
abbrev cX10_readLine : ByteArray := prog_11_method_30_code
def yX10_readLine : MethodName := ⟨RX10, "readLine", "()V"⟩
abbrev cX10_readSafe : ByteArray := prog_11_method_31_code
def yX10_readSafe : MethodName := ⟨RX10, "readSafe", "()V"⟩
abbrev cX10_readHook : ByteArray := prog_11_method_32_code
def yX10_readHook : MethodName := ⟨RX10, "readHook", "()V"⟩
abbrev cX10_readSenator : ByteArray := prog_11_method_33_code
def yX10_readSenator : MethodName := ⟨RX10, "readSenator", "()V"⟩
abbrev cX10_readAct : ByteArray := prog_11_method_34_code
def yX10_readAct : MethodName := ⟨RX10, "readAct", "()V"⟩
abbrev cX10_readFor : ByteArray := prog_11_method_35_code
def yX10_readFor : MethodName := ⟨RX10, "readFor", "()V"⟩
abbrev cX10_readRests : ByteArray := prog_11_method_36_code
def yX10_readRests : MethodName := ⟨RX10, "readRests", "()V"⟩
abbrev cX10_readDoubted : ByteArray := prog_11_method_37_code
def yX10_readDoubted : MethodName := ⟨RX10, "readDoubted", "()V"⟩
abbrev cX10_readEnd : ByteArray := prog_11_method_38_code
def yX10_readEnd : MethodName := ⟨RX10, "readEnd", "(I)V"⟩
abbrev cX10_feed : ByteArray := prog_11_method_39_code
def yX10_feed : MethodName := ⟨RX10, "feed", "(IIIII)I"⟩
abbrev cX10_safe : ByteArray := prog_11_method_40_code
def yX10_safe : MethodName := ⟨RX10, "safe", "(I)I"⟩
abbrev cX10_fault : ByteArray := prog_11_method_41_code
def yX10_fault : MethodName := ⟨RX10, "fault", "()I"⟩
abbrev cX10_where : ByteArray := prog_11_method_42_code
def yX10_where : MethodName := ⟨RX10, "where", "()I"⟩
abbrev cX10_isSenator : ByteArray := prog_11_method_43_code
def yX10_isSenator : MethodName := ⟨RX10, "isSenator", "(I)Z"⟩
abbrev cX10_isHook : ByteArray := prog_11_method_44_code
def yX10_isHook : MethodName := ⟨RX10, "isHook", "(I)Z"⟩
abbrev cX10_isAct : ByteArray := prog_11_method_45_code
def yX10_isAct : MethodName := ⟨RX10, "isAct", "(I)Z"⟩
abbrev cX10_works : ByteArray := prog_11_method_46_code
def yX10_works : MethodName := ⟨RX10, "works", "()V"⟩
abbrev cX10_asTold : ByteArray := prog_11_method_47_code
def yX10_asTold : MethodName := ⟨RX10, "asTold", "()V"⟩
abbrev cX10_losses : ByteArray := prog_11_method_48_code
def yX10_losses : MethodName := ⟨RX10, "losses", "(I)I"⟩
abbrev cX10_goodNow : ByteArray := prog_11_method_49_code
def yX10_goodNow : MethodName := ⟨RX10, "goodNow", "()I"⟩
abbrev cX10_isQuorum : ByteArray := prog_11_method_50_code
def yX10_isQuorum : MethodName := ⟨RX10, "isQuorum", "()Z"⟩
abbrev cX10_aDay : ByteArray := prog_11_method_51_code
def yX10_aDay : MethodName := ⟨RX10, "aDay", "(Z)V"⟩
abbrev cX10_daysOn : ByteArray := prog_11_method_52_code
def yX10_daysOn : MethodName := ⟨RX10, "daysOn", "(I)V"⟩
abbrev cX10_lastsNow : ByteArray := prog_11_method_53_code
def yX10_lastsNow : MethodName := ⟨RX10, "lastsNow", "()I"⟩
abbrev cX10_putsAll : ByteArray := prog_11_method_54_code
def yX10_putsAll : MethodName := ⟨RX10, "putsAll", "()V"⟩
abbrev cX10_votes : ByteArray := prog_11_method_55_code
def yX10_votes : MethodName := ⟨RX10, "votes", "(I)I"⟩
abbrev cX10_marginNow : ByteArray := prog_11_method_56_code
def yX10_marginNow : MethodName := ⟨RX10, "marginNow", "(I)I"⟩
abbrev cX10_isByItself : ByteArray := prog_11_method_57_code
def yX10_isByItself : MethodName := ⟨RX10, "isByItself", "(I)Z"⟩
abbrev cX10_goingBut : ByteArray := prog_11_method_58_code
def yX10_goingBut : MethodName := ⟨RX10, "goingBut", "(I)I"⟩
abbrev cX10_goingNow : ByteArray := prog_11_method_59_code
def yX10_goingNow : MethodName := ⟨RX10, "goingNow", "()I"⟩
abbrev cX10_senator : ByteArray := prog_11_method_60_code
def yX10_senator : MethodName := ⟨RX10, "senator", "(II)I"⟩
abbrev cX10_likes : ByteArray := prog_11_method_61_code
def yX10_likes : MethodName := ⟨RX10, "likes", "(I)I"⟩
abbrev cX10_hangsAt : ByteArray := prog_11_method_62_code
def yX10_hangsAt : MethodName := ⟨RX10, "hangsAt", "(I)I"⟩
abbrev cX10_hook : ByteArray := prog_11_method_63_code
def yX10_hook : MethodName := ⟨RX10, "hook", "(II)I"⟩
abbrev cX10_act : ByteArray := prog_11_method_64_code
def yX10_act : MethodName := ⟨RX10, "act", "(II)I"⟩
abbrev cX10_good : ByteArray := prog_11_method_65_code
def yX10_good : MethodName := ⟨RX10, "good", "()I"⟩
abbrev cX10_quorum : ByteArray := prog_11_method_66_code
def yX10_quorum : MethodName := ⟨RX10, "quorum", "()I"⟩
abbrev cX10_refusesDays : ByteArray := prog_11_method_67_code
def yX10_refusesDays : MethodName := ⟨RX10, "refusesDays", "(ZII)I"⟩
abbrev cX10_goodIn : ByteArray := prog_11_method_68_code
def yX10_goodIn : MethodName := ⟨RX10, "goodIn", "(II)I"⟩
abbrev cX10_offIn : ByteArray := prog_11_method_69_code
def yX10_offIn : MethodName := ⟨RX10, "offIn", "(I)I"⟩
abbrev cX10_lasts : ByteArray := prog_11_method_70_code
def yX10_lasts : MethodName := ⟨RX10, "lasts", "()I"⟩
abbrev cX10_going : ByteArray := prog_11_method_71_code
def yX10_going : MethodName := ⟨RX10, "going", "()I"⟩
abbrev cX10_nextAct : ByteArray := prog_11_method_72_code
def yX10_nextAct : MethodName := ⟨RX10, "nextAct", "()I"⟩
abbrev cX10_margin : ByteArray := prog_11_method_73_code
def yX10_margin : MethodName := ⟨RX10, "margin", "(I)I"⟩
abbrev cX10_rows : ByteArray := prog_11_method_74_code
def yX10_rows : MethodName := ⟨RX10, "rows", "()I"⟩
abbrev cX10_hangs : ByteArray := prog_11_method_75_code
def yX10_hangs : MethodName := ⟨RX10, "hangs", "(I)Z"⟩
abbrev cX10_keeps : ByteArray := prog_11_method_76_code
def yX10_keeps : MethodName := ⟨RX10, "keeps", "()V"⟩
abbrev cX10_hangsBest : ByteArray := prog_11_method_77_code
def yX10_hangsBest : MethodName := ⟨RX10, "hangsBest", "(I)I"⟩
abbrev cX10_hang : ByteArray := prog_11_method_78_code
def yX10_hang : MethodName := ⟨RX10, "hang", "(I)I"⟩
abbrev cX10_hangAt : ByteArray := prog_11_method_79_code
def yX10_hangAt : MethodName := ⟨RX10, "hangAt", "(II)I"⟩
abbrev cX10_longest : ByteArray := prog_11_method_80_code
def yX10_longest : MethodName := ⟨RX10, "longest", "()I"⟩
abbrev cX10_longestAt : ByteArray := prog_11_method_81_code
def yX10_longestAt : MethodName := ⟨RX10, "longestAt", "(I)I"⟩
abbrev cX10_lastsAsIs : ByteArray := prog_11_method_82_code
def yX10_lastsAsIs : MethodName := ⟨RX10, "lastsAsIs", "()I"⟩
abbrev cX10_bestSwap : ByteArray := prog_11_method_83_code
def yX10_bestSwap : MethodName := ⟨RX10, "bestSwap", "()I"⟩
abbrev cX10_toSalt : ByteArray := prog_11_method_84_code
def yX10_toSalt : MethodName := ⟨RX10, "toSalt", "()I"⟩
abbrev cX10_keyMan : ByteArray := prog_11_method_85_code
def yX10_keyMan : MethodName := ⟨RX10, "keyMan", "()I"⟩
abbrev cX10_goingSince : ByteArray := prog_11_method_86_code
def yX10_goingSince : MethodName := ⟨RX10, "goingSince", "(I)I"⟩
abbrev cX10_wrong : ByteArray := prog_11_method_87_code
def yX10_wrong : MethodName := ⟨RX10, "wrong", "(I)I"⟩
abbrev cX10_fitting : ByteArray := prog_11_method_88_code
def yX10_fitting : MethodName := ⟨RX10, "fitting", "(I)I"⟩
abbrev cX10_refusesDoubt : ByteArray := prog_11_method_89_code
def yX10_refusesDoubt : MethodName := ⟨RX10, "refusesDoubt", "()I"⟩
abbrev cX10_since : ByteArray := prog_11_method_90_code
def yX10_since : MethodName := ⟨RX10, "since", "()I"⟩
abbrev cX10_sinceAt : ByteArray := prog_11_method_91_code
def yX10_sinceAt : MethodName := ⟨RX10, "sinceAt", "(I)I"⟩
abbrev cX10_looks : ByteArray := prog_11_method_92_code
def yX10_looks : MethodName := ⟨RX10, "looks", "()I"⟩
abbrev cX10_look : ByteArray := prog_11_method_93_code
def yX10_look : MethodName := ⟨RX10, "look", "()I"⟩
abbrev cX10_lookLeaves : ByteArray := prog_11_method_94_code
def yX10_lookLeaves : MethodName := ⟨RX10, "lookLeaves", "()I"⟩
abbrev cX10_judge : ByteArray := prog_11_method_95_code
def yX10_judge : MethodName := ⟨RX10, "judge", "()I"⟩
abbrev cX10_fallen : ByteArray := prog_11_method_96_code
def yX10_fallen : MethodName := ⟨RX10, "fallen", "(I)I"⟩
abbrev cX10_fallsWith : ByteArray := prog_11_method_97_code
def yX10_fallsWith : MethodName := ⟨RX10, "fallsWith", "(I)I"⟩
abbrev cX10_strike : ByteArray := prog_11_method_98_code
def yX10_strike : MethodName := ⟨RX10, "strike", "(I)I"⟩
abbrev cX10_keystone : ByteArray := prog_11_method_99_code
def yX10_keystone : MethodName := ⟨RX10, "keystone", "()I"⟩
abbrev cX10_ring : ByteArray := prog_11_method_100_code
def yX10_ring : MethodName := ⟨RX10, "ring", "()I"⟩
abbrev cX10_turns : ByteArray := prog_11_method_101_code
def yX10_turns : MethodName := ⟨RX10, "turns", "(I)I"⟩
abbrev cX10_power : ByteArray := prog_11_method_102_code
def yX10_power : MethodName := ⟨RX10, "power", "(IZ)J"⟩
abbrev cX10_strongest : ByteArray := prog_11_method_103_code
def yX10_strongest : MethodName := ⟨RX10, "strongest", "()I"⟩
abbrev cX10_gets : ByteArray := prog_11_method_104_code
def yX10_gets : MethodName := ⟨RX10, "gets", "(IZZ)I"⟩
abbrev cX10_refusesWorth : ByteArray := prog_11_method_105_code
def yX10_refusesWorth : MethodName := ⟨RX10, "refusesWorth", "(I)I"⟩
abbrev cX10_wire : ByteArray := prog_11_method_106_code
def yX10_wire : MethodName := ⟨RX10, "wire", "(IZZZ)I"⟩
abbrev cX10_isRest : ByteArray := prog_11_method_107_code
def yX10_isRest : MethodName := ⟨RX10, "isRest", "(II)Z"⟩
abbrev cX10_rests : ByteArray := prog_11_method_108_code
def yX10_rests : MethodName := ⟨RX10, "rests", "(I)I"⟩
abbrev cX10_rest : ByteArray := prog_11_method_109_code
def yX10_rest : MethodName := ⟨RX10, "rest", "(I)I"⟩
abbrev cX10_storms : ByteArray := prog_11_method_110_code
def yX10_storms : MethodName := ⟨RX10, "storms", "(I)V"⟩
abbrev cX10_odds : ByteArray := prog_11_method_111_code
def yX10_odds : MethodName := ⟨RX10, "odds", "(IZ)J"⟩
abbrev cX10_goodOdds : ByteArray := prog_11_method_112_code
def yX10_goodOdds : MethodName := ⟨RX10, "goodOdds", "(IIZ)J"⟩
abbrev cX10_mean : ByteArray := prog_11_method_113_code
def yX10_mean : MethodName := ⟨RX10, "mean", "(IZ)J"⟩
abbrev cX10_aDrawnDay : ByteArray := prog_11_method_114_code
def yX10_aDrawnDay : MethodName := ⟨RX10, "aDrawnDay", "()Z"⟩
abbrev cX10_daysBy : ByteArray := prog_11_method_115_code
def yX10_daysBy : MethodName := ⟨RX10, "daysBy", "(II)I"⟩
abbrev cX10_refusesSeed : ByteArray := prog_11_method_116_code
def yX10_refusesSeed : MethodName := ⟨RX10, "refusesSeed", "(II)I"⟩
abbrev cX10_days : ByteArray := prog_11_method_117_code
def yX10_days : MethodName := ⟨RX10, "days", "(II)I"⟩
abbrev cX10_thunders : ByteArray := prog_11_method_118_code
def yX10_thunders : MethodName := ⟨RX10, "thunders", "(II)I"⟩
abbrev cX10_remembers : ByteArray := prog_11_method_119_code
def yX10_remembers : MethodName := ⟨RX10, "remembers", "()V"⟩
abbrev cX10_day : ByteArray := prog_11_method_120_code
def yX10_day : MethodName := ⟨RX10, "day", "()I"⟩
abbrev cX10_move : ByteArray := prog_11_method_121_code
def yX10_move : MethodName := ⟨RX10, "move", "(II)I"⟩
abbrev cX10_salt : ByteArray := prog_11_method_122_code
def yX10_salt : MethodName := ⟨RX10, "salt", "(I)Z"⟩
abbrev cX10_seed : ByteArray := prog_11_method_123_code
def yX10_seed : MethodName := ⟨RX10, "seed", "(I)Z"⟩
abbrev cX10_undo : ByteArray := prog_11_method_124_code
def yX10_undo : MethodName := ⟨RX10, "undo", "()Z"⟩
abbrev cX10_image : ByteArray := prog_11_method_125_code
def yX10_image : MethodName := ⟨RX10, "image", "()I"⟩
abbrev cX10_back : ByteArray := prog_11_method_126_code
def yX10_back : MethodName := ⟨RX10, "back", "(I)Z"⟩
abbrev cX10_led : ByteArray := prog_11_method_127_code
def yX10_led : MethodName := ⟨RX10, "led", "(I)I"⟩
abbrev cX10_size : ByteArray := prog_11_method_128_code
def yX10_size : MethodName := ⟨RX10, "size", "(I)I"⟩
abbrev cX10_trouble : ByteArray := prog_11_method_129_code
def yX10_trouble : MethodName := ⟨RX10, "trouble", "()I"⟩
def RJx145de : String := "java/io/Serializable"
def TJx145de : u_T := fun k => match k with
  | _ => ("", "", "", false)
def tyJx145de : Nat → FieldType := fun k => match k with
  | _ => .int
abbrev wsJx145de0 : List Cond := u_ws RJx145de TJx145de 0
theorem nmJx145de : ∀ a, a < 0 → ∀ b, b < 0 → a ≠ b → (TJx145de a).2.1 ≠ (TJx145de b).2.1 := by decide +kernel
theorem tyJx145de_ok : ∀ k, k < 0 → parseFieldDescriptor (TJx145de k).2.2.1 = some (tyJx145de k) := by decide +kernel
def RJx9f9b0 : String := "java/lang/CharSequence"
def TJx9f9b0 : u_T := fun k => match k with
  | _ => ("", "", "", false)
def tyJx9f9b0 : Nat → FieldType := fun k => match k with
  | _ => .int
abbrev wsJx9f9b00 : List Cond := u_ws RJx9f9b0 TJx9f9b0 0
theorem nmJx9f9b0 : ∀ a, a < 0 → ∀ b, b < 0 → a ≠ b → (TJx9f9b0 a).2.1 ≠ (TJx9f9b0 b).2.1 := by decide +kernel
theorem tyJx9f9b0_ok : ∀ k, k < 0 → parseFieldDescriptor (TJx9f9b0 k).2.2.1 = some (tyJx9f9b0 k) := by decide +kernel
def RJxb160c : String := "java/lang/Comparable"
def TJxb160c : u_T := fun k => match k with
  | _ => ("", "", "", false)
def tyJxb160c : Nat → FieldType := fun k => match k with
  | _ => .int
abbrev wsJxb160c0 : List Cond := u_ws RJxb160c TJxb160c 0
theorem nmJxb160c : ∀ a, a < 0 → ∀ b, b < 0 → a ≠ b → (TJxb160c a).2.1 ≠ (TJxb160c b).2.1 := by decide +kernel
theorem tyJxb160c_ok : ∀ k, k < 0 → parseFieldDescriptor (TJxb160c k).2.2.1 = some (tyJxb160c k) := by decide +kernel
def RJ6 : String := "java/lang/Integer"
def TJ6 : u_T := fun k => match k with
  | _ => ("", "", "", false)
def tyJ6 : Nat → FieldType := fun k => match k with
  | _ => .int
abbrev wsJ60 : List Cond := u_ws RJ6 TJ6 0
theorem nmJ6 : ∀ a, a < 0 → ∀ b, b < 0 → a ≠ b → (TJ6 a).2.1 ≠ (TJ6 b).2.1 := by decide +kernel
theorem tyJ6_ok : ∀ k, k < 0 → parseFieldDescriptor (TJ6 k).2.2.1 = some (tyJ6 k) := by decide +kernel
abbrev cJ6_numberOfTrailingZeros_0f7a4 : ByteArray := prog_17_method_48_code
def yJ6_numberOfTrailingZeros_0f7a4 : MethodName := ⟨RJ6, "numberOfTrailingZeros", "(I)I"⟩
abbrev cJ6_bitCount_0f7a4 : ByteArray := prog_17_method_49_code
def yJ6_bitCount_0f7a4 : MethodName := ⟨RJ6, "bitCount", "(I)I"⟩
def RJ9 : String := "java/lang/Math"
def TJ9 : u_T := fun k => match k with
  | _ => ("", "", "", false)
def tyJ9 : Nat → FieldType := fun k => match k with
  | _ => .int
abbrev wsJ90 : List Cond := u_ws RJ9 TJ9 0
theorem nmJ9 : ∀ a, a < 0 → ∀ b, b < 0 → a ≠ b → (TJ9 a).2.1 ≠ (TJ9 b).2.1 := by decide +kernel
theorem tyJ9_ok : ∀ k, k < 0 → parseFieldDescriptor (TJ9 k).2.2.1 = some (tyJ9 k) := by decide +kernel
abbrev cJ9_max_7cf53 : ByteArray := prog_18_method_65_code
def yJ9_max_7cf53 : MethodName := ⟨RJ9, "max", "(II)I"⟩
abbrev cJ9_min_7cf53 : ByteArray := prog_18_method_69_code
def yJ9_min_7cf53 : MethodName := ⟨RJ9, "min", "(II)I"⟩
def RJ0 : String := "java/lang/String"
def TJ0 : u_T := fun k => match k with
  | _ => ("", "", "", false)
def tyJ0 : Nat → FieldType := fun k => match k with
  | _ => .int
abbrev wsJ00 : List Cond := u_ws RJ0 TJ0 0
theorem nmJ0 : ∀ a, a < 0 → ∀ b, b < 0 → a ≠ b → (TJ0 a).2.1 ≠ (TJ0 b).2.1 := by decide +kernel
theorem tyJ0_ok : ∀ k, k < 0 → parseFieldDescriptor (TJ0 k).2.2.1 = some (tyJ0 k) := by decide +kernel
abbrev cJ0_length_8abf5 : ByteArray := prog_20_method_54_code
def yJ0_length_8abf5 : MethodName := ⟨RJ0, "length", "()I"⟩
abbrev cJ0_charAt_5068e : ByteArray := prog_20_method_56_code
def yJ0_charAt_5068e : MethodName := ⟨RJ0, "charAt", "(I)C"⟩
abbrev cJ0_coder_7d493 : ByteArray := prog_20_method_152_code
def yJ0_coder_7d493 : MethodName := ⟨RJ0, "coder", "()B"⟩
abbrev cJ0_isLatin1_aae02 : ByteArray := prog_20_method_154_code
def yJ0_isLatin1_aae02 : MethodName := ⟨RJ0, "isLatin1", "()Z"⟩
abbrev cJ0_checkIndex_df160 : ByteArray := prog_20_method_155_code
def yJ0_checkIndex_df160 : MethodName := ⟨RJ0, "checkIndex", "(II)V"⟩
def RJ1 : String := "java/lang/StringLatin1"
def TJ1 : u_T := fun k => match k with
  | _ => ("", "", "", false)
def tyJ1 : Nat → FieldType := fun k => match k with
  | _ => .int
abbrev wsJ10 : List Cond := u_ws RJ1 TJ1 0
theorem nmJ1 : ∀ a, a < 0 → ∀ b, b < 0 → a ≠ b → (TJ1 a).2.1 ≠ (TJ1 b).2.1 := by decide +kernel
theorem tyJ1_ok : ∀ k, k < 0 → parseFieldDescriptor (TJ1 k).2.2.1 = some (tyJ1 k) := by decide +kernel
abbrev cJ1_charAt_3b067 : ByteArray := prog_21_method_2_code
def yJ1_charAt_3b067 : MethodName := ⟨RJ1, "charAt", "([BI)C"⟩
def RJ2 : String := "java/lang/StringUTF16"
def TJ2 : u_T := fun k => match k with
  | _ => ("", "", "", false)
def tyJ2 : Nat → FieldType := fun k => match k with
  | _ => .int
abbrev wsJ20 : List Cond := u_ws RJ2 TJ2 0
theorem nmJ2 : ∀ a, a < 0 → ∀ b, b < 0 → a ≠ b → (TJ2 a).2.1 ≠ (TJ2 b).2.1 := by decide +kernel
theorem tyJ2_ok : ∀ k, k < 0 → parseFieldDescriptor (TJ2 k).2.2.1 = some (tyJ2 k) := by decide +kernel
abbrev cJ2_getChar_3b067 : ByteArray := prog_22_method_5_code
def yJ2_getChar_3b067 : MethodName := ⟨RJ2, "getChar", "([BI)C"⟩
abbrev cJ2_length_9d52b : ByteArray := prog_22_method_6_code
def yJ2_length_9d52b : MethodName := ⟨RJ2, "length", "([B)I"⟩
abbrev cJ2_charAt_3b067 : ByteArray := prog_22_method_83_code
def yJ2_charAt_3b067 : MethodName := ⟨RJ2, "charAt", "([BI)C"⟩
abbrev cJ2_checkIndex_2214a : ByteArray := prog_22_method_91_code
def yJ2_checkIndex_2214a : MethodName := ⟨RJ2, "checkIndex", "(I[B)V"⟩
def RJ10 : String := "java/lang/System"
def TJ10 : u_T := fun k => match k with
  | _ => ("", "", "", false)
def tyJ10 : Nat → FieldType := fun k => match k with
  | _ => .int
abbrev wsJ100 : List Cond := u_ws RJ10 TJ10 0
theorem nmJ10 : ∀ a, a < 0 → ∀ b, b < 0 → a ≠ b → (TJ10 a).2.1 ≠ (TJ10 b).2.1 := by decide +kernel
theorem tyJ10_ok : ∀ k, k < 0 → parseFieldDescriptor (TJ10 k).2.2.1 = some (tyJ10 k) := by decide +kernel
def RJxfd54e : String := "java/lang/constant/Constable"
def TJxfd54e : u_T := fun k => match k with
  | _ => ("", "", "", false)
def tyJxfd54e : Nat → FieldType := fun k => match k with
  | _ => .int
abbrev wsJxfd54e0 : List Cond := u_ws RJxfd54e TJxfd54e 0
theorem nmJxfd54e : ∀ a, a < 0 → ∀ b, b < 0 → a ≠ b → (TJxfd54e a).2.1 ≠ (TJxfd54e b).2.1 := by decide +kernel
theorem tyJxfd54e_ok : ∀ k, k < 0 → parseFieldDescriptor (TJxfd54e k).2.2.1 = some (tyJxfd54e k) := by decide +kernel
def RJx3cf43 : String := "java/lang/constant/ConstantDesc"
def TJx3cf43 : u_T := fun k => match k with
  | _ => ("", "", "", false)
def tyJx3cf43 : Nat → FieldType := fun k => match k with
  | _ => .int
abbrev wsJx3cf430 : List Cond := u_ws RJx3cf43 TJx3cf43 0
theorem nmJx3cf43 : ∀ a, a < 0 → ∀ b, b < 0 → a ≠ b → (TJx3cf43 a).2.1 ≠ (TJx3cf43 b).2.1 := by decide +kernel
theorem tyJx3cf43_ok : ∀ k, k < 0 → parseFieldDescriptor (TJx3cf43 k).2.2.1 = some (tyJx3cf43 k) := by decide +kernel
def RJ3 : String := "jdk/internal/util/Preconditions"
def TJ3 : u_T := fun k => match k with
  | _ => ("", "", "", false)
def tyJ3 : Nat → FieldType := fun k => match k with
  | _ => .int
abbrev wsJ30 : List Cond := u_ws RJ3 TJ3 0
theorem nmJ3 : ∀ a, a < 0 → ∀ b, b < 0 → a ≠ b → (TJ3 a).2.1 ≠ (TJ3 b).2.1 := by decide +kernel
theorem tyJ3_ok : ∀ k, k < 0 → parseFieldDescriptor (TJ3 k).2.2.1 = some (tyJ3 k) := by decide +kernel
abbrev cJ3_checkIndex_8e157 : ByteArray := prog_28_method_11_code
def yJ3_checkIndex_8e157 : MethodName := ⟨RJ3, "checkIndex", "(IILjava/util/function/BiFunction;)I"⟩
def RL : String := "SafeSenateLaw"
abbrev cL_led : ByteArray := method_3_code
def yL_led : MethodName := ⟨RL, "led", "(LSafeSenate;I[J)I"⟩
abbrev cL_law : ByteArray := code
abbrev vwCl : List vw_C := [(RX0, TX0, 4), (RX1, TX1, 9), (RX2, TX2, 7), (RX3, TX3, 11), (RX4, TX4, 17), (RX5, TX5, 13), (RX6, TX6, 1), (RX7, TX7, 3), (RX8, TX8, 12), (RX9, TX9, 24), (RX10, TX10, 29)]
def ssMN : List MethodName := [
  ⟨"SafeSenate$Doubt", "<init>", "()V"⟩,
  ⟨"SafeSenate$Doubt", "weigh", "(LSafeSenate$Plan;)V"⟩,
  ⟨"SafeSenate$Doubt", "fitting", "(I)I"⟩,
  ⟨"SafeSenate$Doubt", "actToAsk", "(I)I"⟩,
  ⟨"SafeSenate$Doubt", "leftBy", "(I)I"⟩,
  ⟨"SafeSenate$Hanging", "<init>", "()V"⟩,
  ⟨"SafeSenate$Hanging", "forMostGood", "(LSafeSenate$Plan;LSafeSenate$Moment;I)V"⟩,
  ⟨"SafeSenate$Hanging", "forLongest", "(LSafeSenate$Plan;LSafeSenate$Moment;)V"⟩,
  ⟨"SafeSenate$Hanging", "begin", "(LSafeSenate$Plan;I)V"⟩,
  ⟨"SafeSenate$Hanging", "setBound", "()V"⟩,
  ⟨"SafeSenate$Hanging", "place", "(II)V"⟩,
  ⟨"SafeSenate$Hanging", "valueOfChosen", "()I"⟩,
  ⟨"SafeSenate$Hanging", "keepIfBetter", "(I)V"⟩,
  ⟨"SafeSenate$Moment", "<init>", "()V"⟩,
  ⟨"SafeSenate$Moment", "copyFrom", "(LSafeSenate$Moment;)V"⟩,
  ⟨"SafeSenate$Moment", "goodBits", "(I)I"⟩,
  ⟨"SafeSenate$Moment", "whoHangsAt", "(II)I"⟩,
  ⟨"SafeSenate$Moment", "passDay", "(LSafeSenate$Plan;)V"⟩,
  ⟨"SafeSenate$Parser", "<init>", "()V"⟩,
  ⟨"SafeSenate$Parser", "exchange", "(LSafeSenate$Plan;)LSafeSenate$Plan;"⟩,
  ⟨"SafeSenate$Parser", "hear", "(I)Z"⟩,
  ⟨"SafeSenate$Parser", "hearLine", "()Z"⟩,
  ⟨"SafeSenate$Parser", "hearSafe", "()Z"⟩,
  ⟨"SafeSenate$Parser", "hearHook", "()Z"⟩,
  ⟨"SafeSenate$Parser", "hearSenator", "()Z"⟩,
  ⟨"SafeSenate$Parser", "hearKind", "(I)Z"⟩,
  ⟨"SafeSenate$Parser", "hearFreeHook", "(I)Z"⟩,
  ⟨"SafeSenate$Parser", "hearAct", "()Z"⟩,
  ⟨"SafeSenate$Parser", "hearFor", "()Z"⟩,
  ⟨"SafeSenate$Parser", "hearRests", "()Z"⟩,
  ⟨"SafeSenate$Parser", "hearDoubted", "()Z"⟩,
  ⟨"SafeSenate$Parser", "hearOutcome", "(Z)Z"⟩,
  ⟨"SafeSenate$Parser", "hearWord", "(I)Z"⟩,
  ⟨"SafeSenate$Parser", "hearNumber", "(III)Z"⟩,
  ⟨"SafeSenate$Parser", "isName", "()Z"⟩,
  ⟨"SafeSenate$Parser", "hearNewName", "(II)Z"⟩,
  ⟨"SafeSenate$Parser", "toldNumber", "(I)I"⟩,
  ⟨"SafeSenate$Parser", "nameIndex", "()I"⟩,
  ⟨"SafeSenate$Parser", "fail", "(I)Z"⟩,
  ⟨"SafeSenate$Plan", "<init>", "()V"⟩,
  ⟨"SafeSenate$Plan", "clear", "()V"⟩,
  ⟨"SafeSenate$Plan", "actsOf", "(I)I"⟩,
  ⟨"SafeSenate$Plan", "airAt", "(I)I"⟩,
  ⟨"SafeSenate$Plan", "lossOver", "(IIII)I"⟩,
  ⟨"SafeSenate$Plan", "lossBehind", "(LSafeSenate$Moment;II)I"⟩,
  ⟨"SafeSenate$Plan", "goodDays", "(LSafeSenate$Moment;III)I"⟩,
  ⟨"SafeSenate$Plan", "goodAfter", "(LSafeSenate$Moment;II)I"⟩,
  ⟨"SafeSenate$Plan", "chancesOf", "(II)J"⟩,
  ⟨"SafeSenate$Plan", "seedBehind", "(I)I"⟩,
  ⟨"SafeSenate$Plan", "isThunder", "(I)Z"⟩,
  ⟨"SafeSenate$Plan", "thundersDrawn", "(II)I"⟩,
  ⟨"SafeSenate$Plan", "votesOf", "(I)I"⟩,
  ⟨"SafeSenate$Plan", "leadOf", "(II)I"⟩,
  ⟨"SafeSenate$Plan", "goingAlone", "(LSafeSenate$Moment;LSafeSenate$Spans;)I"⟩,
  ⟨"SafeSenate$Plan", "goingAmong", "(I)I"⟩,
  ⟨"SafeSenate$Plan", "restsOn", "(II)I"⟩,
  ⟨"SafeSenate$Plan", "fallingWith", "(I)I"⟩,
  ⟨"SafeSenate$Plan", "swingsOf", "(II)I"⟩,
  ⟨"SafeSenate$Reader", "<init>", "()V"⟩,
  ⟨"SafeSenate$Reader", "put", "(I)V"⟩,
  ⟨"SafeSenate$Reader", "split", "(I)V"⟩,
  ⟨"SafeSenate$Reader", "advance", "()V"⟩,
  ⟨"SafeSenate$Reader", "readToken", "(I)I"⟩,
  ⟨"SafeSenate$Reader", "readWord", "(I)I"⟩,
  ⟨"SafeSenate$Reader", "readWhole", "(I)I"⟩,
  ⟨"SafeSenate$Reader", "isSpelt", "(Ljava/lang/String;II)Z"⟩,
  ⟨"SafeSenate$Reader", "isLetter", "(I)Z"⟩,
  ⟨"SafeSenate$Reader", "isDigit", "(I)Z"⟩,
  ⟨"SafeSenate$Reader", "keyText", "(I)Ljava/lang/String;"⟩,
  ⟨"SafeSenate$Spans", "<init>", "()V"⟩,
  ⟨"SafeSenate$Spans", "fill", "(LSafeSenate$Plan;LSafeSenate$Moment;)V"⟩,
  ⟨"SafeSenate$Spans", "goodAfter", "(II)I"⟩,
  ⟨"SafeSenate$Spans", "sum", "(I)I"⟩,
  ⟨"SafeSenate$Spans", "quorumDays", "(II)I"⟩,
  ⟨"SafeSenate$Undoing", "<init>", "()V"⟩,
  ⟨"SafeSenate$Undoing", "clear", "()V"⟩,
  ⟨"SafeSenate$Undoing", "keep", "(LSafeSenate$Moment;)V"⟩,
  ⟨"SafeSenate$Undoing", "restore", "(LSafeSenate$Moment;)V"⟩,
  ⟨"SafeSenate", "<init>", "()V"⟩,
  ⟨"SafeSenate", "feed", "(IIIII)I"⟩,
  ⟨"SafeSenate", "safe", "(I)I"⟩,
  ⟨"SafeSenate", "fault", "()I"⟩,
  ⟨"SafeSenate", "where", "()I"⟩,
  ⟨"SafeSenate", "senator", "(II)I"⟩,
  ⟨"SafeSenate", "hook", "(II)I"⟩,
  ⟨"SafeSenate", "act", "(II)I"⟩,
  ⟨"SafeSenate", "good", "()I"⟩,
  ⟨"SafeSenate", "quorum", "()I"⟩,
  ⟨"SafeSenate", "goodIn", "(II)I"⟩,
  ⟨"SafeSenate", "offIn", "(I)I"⟩,
  ⟨"SafeSenate", "lasts", "()I"⟩,
  ⟨"SafeSenate", "going", "()I"⟩,
  ⟨"SafeSenate", "nextAct", "()I"⟩,
  ⟨"SafeSenate", "margin", "(I)I"⟩,
  ⟨"SafeSenate", "hang", "(I)I"⟩,
  ⟨"SafeSenate", "hangAt", "(II)I"⟩,
  ⟨"SafeSenate", "longest", "()I"⟩,
  ⟨"SafeSenate", "longestAt", "(I)I"⟩,
  ⟨"SafeSenate", "bestSwap", "()I"⟩,
  ⟨"SafeSenate", "toSalt", "()I"⟩,
  ⟨"SafeSenate", "keyMan", "()I"⟩,
  ⟨"SafeSenate", "since", "()I"⟩,
  ⟨"SafeSenate", "sinceAt", "(I)I"⟩,
  ⟨"SafeSenate", "look", "()I"⟩,
  ⟨"SafeSenate", "lookLeaves", "()I"⟩,
  ⟨"SafeSenate", "judge", "()I"⟩,
  ⟨"SafeSenate", "fallsWith", "(I)I"⟩,
  ⟨"SafeSenate", "strike", "(I)I"⟩,
  ⟨"SafeSenate", "keystone", "()I"⟩,
  ⟨"SafeSenate", "ring", "()I"⟩,
  ⟨"SafeSenate", "power", "(IZ)J"⟩,
  ⟨"SafeSenate", "strongest", "()I"⟩,
  ⟨"SafeSenate", "wire", "(IZZZ)I"⟩,
  ⟨"SafeSenate", "rests", "(I)I"⟩,
  ⟨"SafeSenate", "rest", "(I)I"⟩,
  ⟨"SafeSenate", "odds", "(IZ)J"⟩,
  ⟨"SafeSenate", "goodOdds", "(IIZ)J"⟩,
  ⟨"SafeSenate", "mean", "(IZ)J"⟩,
  ⟨"SafeSenate", "days", "(II)I"⟩,
  ⟨"SafeSenate", "thunders", "(II)I"⟩,
  ⟨"SafeSenate", "day", "()I"⟩,
  ⟨"SafeSenate", "move", "(II)I"⟩,
  ⟨"SafeSenate", "salt", "(I)Z"⟩,
  ⟨"SafeSenate", "seed", "(I)Z"⟩,
  ⟨"SafeSenate", "undo", "()Z"⟩,
  ⟨"SafeSenate", "image", "()I"⟩,
  ⟨"SafeSenate", "back", "(I)Z"⟩,
  ⟨"SafeSenate", "led", "(I)I"⟩,
  ⟨"SafeSenate", "size", "(I)I"⟩,
  ⟨"SafeSenate", "trouble", "()I"⟩,
  ⟨"SafeSenate", "sizeBehind", "(I)I"⟩,
  ⟨"SafeSenate", "refuse", "(I)I"⟩,
  ⟨"SafeSenate", "grant", "(I)I"⟩,
  ⟨"SafeSenate", "deny", "(I)Z"⟩,
  ⟨"SafeSenate", "allow", "()Z"⟩,
  ⟨"SafeSenate", "lacksSafe", "()Z"⟩,
  ⟨"SafeSenate", "lacksSenator", "(I)Z"⟩,
  ⟨"SafeSenate", "lacksAct", "(I)Z"⟩,
  ⟨"SafeSenate", "lacksDoubt", "()Z"⟩,
  ⟨"SafeSenate", "whyNoDoubt", "()I"⟩,
  ⟨"SafeSenate", "outside", "(II)Z"⟩,
  ⟨"SafeSenate", "goodNow", "()I"⟩,
  ⟨"SafeSenate", "goingNow", "()I"⟩,
  ⟨"SafeSenate", "lastsNow", "()I"⟩,
  ⟨"SafeSenate", "lastsSwapped", "(II)I"⟩,
  ⟨"SafeSenate", "lastsSalted", "(I)I"⟩,
  ⟨"SafeSenate", "fewestStruck", "(II)I"⟩,
  ⟨"SafeSenate", "share", "(IZZ)I"⟩,
  ⟨"SafeSenate", "isRest", "(II)Z"⟩,
  ⟨"SafeSenate", "powerOf", "(II)J"⟩,
  ⟨"SafeSenate", "reduced", "(JJZ)J"⟩,
  ⟨"SafeSenate", "commonDivisor", "(JJ)J"⟩,
  ⟨"SafeSenateModel$Safe", "<init>", "()V"⟩,
  ⟨"SafeSenateModel$Safe", "find", "(J)I"⟩,
  ⟨"SafeSenateModel$Safe", "isHung", "(I)Z"⟩,
  ⟨"SafeSenateModel", "<init>", "()V"⟩,
  ⟨"SafeSenateModel", "thrown", "()I"⟩,
  ⟨"SafeSenateModel", "refused", "(I)I"⟩,
  ⟨"SafeSenateModel", "lost", "(I)I"⟩,
  ⟨"SafeSenateModel", "denied", "(I)Z"⟩,
  ⟨"SafeSenateModel", "well", "(I)I"⟩,
  ⟨"SafeSenateModel", "granted", "()Z"⟩,
  ⟨"SafeSenateModel", "in", "(III)Z"⟩,
  ⟨"SafeSenateModel", "bit", "(II)Z"⟩,
  ⟨"SafeSenateModel", "bits", "(I)I"⟩,
  ⟨"SafeSenateModel", "common", "(JJ)J"⟩,
  ⟨"SafeSenateModel", "fraction", "(JJZ)J"⟩,
  ⟨"SafeSenateModel", "byteAt", "(I)I"⟩,
  ⟨"SafeSenateModel", "isLetter", "(I)Z"⟩,
  ⟨"SafeSenateModel", "isDigit", "(I)Z"⟩,
  ⟨"SafeSenateModel", "packed", "(Ljava/lang/String;)J"⟩,
  ⟨"SafeSenateModel", "goesOn", "()V"⟩,
  ⟨"SafeSenateModel", "flaw", "(I)V"⟩,
  ⟨"SafeSenateModel", "isWord", "(Ljava/lang/String;)Z"⟩,
  ⟨"SafeSenateModel", "eatsSemicolon", "()Z"⟩,
  ⟨"SafeSenateModel", "needs", "(Ljava/lang/String;)V"⟩,
  ⟨"SafeSenateModel", "readPart", "(Ljava/lang/String;II)I"⟩,
  ⟨"SafeSenateModel", "isName", "()Z"⟩,
  ⟨"SafeSenateModel", "lineBegins", "(II)V"⟩,
  ⟨"SafeSenateModel", "readFresh", "()J"⟩,
  ⟨"SafeSenateModel", "names", "(JII)V"⟩,
  ⟨"SafeSenateModel", "knownOne", "(I)I"⟩,
  ⟨"SafeSenateModel", "readKnown", "(I)I"⟩,
  ⟨"SafeSenateModel", "readAll", "()V"⟩,
  ⟨"SafeSenateModel", "readLine", "()V"⟩,
  ⟨"SafeSenateModel", "readSafe", "()V"⟩,
  ⟨"SafeSenateModel", "readHook", "()V"⟩,
  ⟨"SafeSenateModel", "readSenator", "()V"⟩,
  ⟨"SafeSenateModel", "readAct", "()V"⟩,
  ⟨"SafeSenateModel", "readFor", "()V"⟩,
  ⟨"SafeSenateModel", "readRests", "()V"⟩,
  ⟨"SafeSenateModel", "readDoubted", "()V"⟩,
  ⟨"SafeSenateModel", "readEnd", "(I)V"⟩,
  ⟨"SafeSenateModel", "feed", "(IIIII)I"⟩,
  ⟨"SafeSenateModel", "safe", "(I)I"⟩,
  ⟨"SafeSenateModel", "fault", "()I"⟩,
  ⟨"SafeSenateModel", "where", "()I"⟩,
  ⟨"SafeSenateModel", "isSenator", "(I)Z"⟩,
  ⟨"SafeSenateModel", "isHook", "(I)Z"⟩,
  ⟨"SafeSenateModel", "isAct", "(I)Z"⟩,
  ⟨"SafeSenateModel", "works", "()V"⟩,
  ⟨"SafeSenateModel", "asTold", "()V"⟩,
  ⟨"SafeSenateModel", "losses", "(I)I"⟩,
  ⟨"SafeSenateModel", "goodNow", "()I"⟩,
  ⟨"SafeSenateModel", "isQuorum", "()Z"⟩,
  ⟨"SafeSenateModel", "aDay", "(Z)V"⟩,
  ⟨"SafeSenateModel", "daysOn", "(I)V"⟩,
  ⟨"SafeSenateModel", "lastsNow", "()I"⟩,
  ⟨"SafeSenateModel", "putsAll", "()V"⟩,
  ⟨"SafeSenateModel", "votes", "(I)I"⟩,
  ⟨"SafeSenateModel", "marginNow", "(I)I"⟩,
  ⟨"SafeSenateModel", "isByItself", "(I)Z"⟩,
  ⟨"SafeSenateModel", "goingBut", "(I)I"⟩,
  ⟨"SafeSenateModel", "goingNow", "()I"⟩,
  ⟨"SafeSenateModel", "senator", "(II)I"⟩,
  ⟨"SafeSenateModel", "likes", "(I)I"⟩,
  ⟨"SafeSenateModel", "hangsAt", "(I)I"⟩,
  ⟨"SafeSenateModel", "hook", "(II)I"⟩,
  ⟨"SafeSenateModel", "act", "(II)I"⟩,
  ⟨"SafeSenateModel", "good", "()I"⟩,
  ⟨"SafeSenateModel", "quorum", "()I"⟩,
  ⟨"SafeSenateModel", "refusesDays", "(ZII)I"⟩,
  ⟨"SafeSenateModel", "goodIn", "(II)I"⟩,
  ⟨"SafeSenateModel", "offIn", "(I)I"⟩,
  ⟨"SafeSenateModel", "lasts", "()I"⟩,
  ⟨"SafeSenateModel", "going", "()I"⟩,
  ⟨"SafeSenateModel", "nextAct", "()I"⟩,
  ⟨"SafeSenateModel", "margin", "(I)I"⟩,
  ⟨"SafeSenateModel", "rows", "()I"⟩,
  ⟨"SafeSenateModel", "hangs", "(I)Z"⟩,
  ⟨"SafeSenateModel", "keeps", "()V"⟩,
  ⟨"SafeSenateModel", "hangsBest", "(I)I"⟩,
  ⟨"SafeSenateModel", "hang", "(I)I"⟩,
  ⟨"SafeSenateModel", "hangAt", "(II)I"⟩,
  ⟨"SafeSenateModel", "longest", "()I"⟩,
  ⟨"SafeSenateModel", "longestAt", "(I)I"⟩,
  ⟨"SafeSenateModel", "lastsAsIs", "()I"⟩,
  ⟨"SafeSenateModel", "bestSwap", "()I"⟩,
  ⟨"SafeSenateModel", "toSalt", "()I"⟩,
  ⟨"SafeSenateModel", "keyMan", "()I"⟩,
  ⟨"SafeSenateModel", "goingSince", "(I)I"⟩,
  ⟨"SafeSenateModel", "wrong", "(I)I"⟩,
  ⟨"SafeSenateModel", "fitting", "(I)I"⟩,
  ⟨"SafeSenateModel", "refusesDoubt", "()I"⟩,
  ⟨"SafeSenateModel", "since", "()I"⟩,
  ⟨"SafeSenateModel", "sinceAt", "(I)I"⟩,
  ⟨"SafeSenateModel", "looks", "()I"⟩,
  ⟨"SafeSenateModel", "look", "()I"⟩,
  ⟨"SafeSenateModel", "lookLeaves", "()I"⟩,
  ⟨"SafeSenateModel", "judge", "()I"⟩,
  ⟨"SafeSenateModel", "fallen", "(I)I"⟩,
  ⟨"SafeSenateModel", "fallsWith", "(I)I"⟩,
  ⟨"SafeSenateModel", "strike", "(I)I"⟩,
  ⟨"SafeSenateModel", "keystone", "()I"⟩,
  ⟨"SafeSenateModel", "ring", "()I"⟩,
  ⟨"SafeSenateModel", "turns", "(I)I"⟩,
  ⟨"SafeSenateModel", "power", "(IZ)J"⟩,
  ⟨"SafeSenateModel", "strongest", "()I"⟩,
  ⟨"SafeSenateModel", "gets", "(IZZ)I"⟩,
  ⟨"SafeSenateModel", "refusesWorth", "(I)I"⟩,
  ⟨"SafeSenateModel", "wire", "(IZZZ)I"⟩,
  ⟨"SafeSenateModel", "isRest", "(II)Z"⟩,
  ⟨"SafeSenateModel", "rests", "(I)I"⟩,
  ⟨"SafeSenateModel", "rest", "(I)I"⟩,
  ⟨"SafeSenateModel", "storms", "(I)V"⟩,
  ⟨"SafeSenateModel", "odds", "(IZ)J"⟩,
  ⟨"SafeSenateModel", "goodOdds", "(IIZ)J"⟩,
  ⟨"SafeSenateModel", "mean", "(IZ)J"⟩,
  ⟨"SafeSenateModel", "aDrawnDay", "()Z"⟩,
  ⟨"SafeSenateModel", "daysBy", "(II)I"⟩,
  ⟨"SafeSenateModel", "refusesSeed", "(II)I"⟩,
  ⟨"SafeSenateModel", "days", "(II)I"⟩,
  ⟨"SafeSenateModel", "thunders", "(II)I"⟩,
  ⟨"SafeSenateModel", "remembers", "()V"⟩,
  ⟨"SafeSenateModel", "day", "()I"⟩,
  ⟨"SafeSenateModel", "move", "(II)I"⟩,
  ⟨"SafeSenateModel", "salt", "(I)Z"⟩,
  ⟨"SafeSenateModel", "seed", "(I)Z"⟩,
  ⟨"SafeSenateModel", "undo", "()Z"⟩,
  ⟨"SafeSenateModel", "image", "()I"⟩,
  ⟨"SafeSenateModel", "back", "(I)Z"⟩,
  ⟨"SafeSenateModel", "led", "(I)I"⟩,
  ⟨"SafeSenateModel", "size", "(I)I"⟩,
  ⟨"SafeSenateModel", "trouble", "()I"⟩,
  ⟨"java/lang/Integer", "numberOfTrailingZeros", "(I)I"⟩,
  ⟨"java/lang/Integer", "bitCount", "(I)I"⟩,
  ⟨"java/lang/String", "length", "()I"⟩,
  ⟨"java/lang/String", "charAt", "(I)C"⟩,
  ⟨"SafeSenateLaw", "led", "(LSafeSenate;I[J)I"⟩,
  ⟨"java/lang/Math", "max", "(II)I"⟩,
  ⟨"java/lang/Math", "min", "(II)I"⟩,
  ⟨"java/lang/System", "arraycopy", "(Ljava/lang/Object;ILjava/lang/Object;II)V"⟩,
  ⟨"java/lang/Object", "<init>", "()V"⟩]
def ssSR : List (String × Nat × Nat) := [("SafeSenate$Reader", 102, 0), ("SafeSenate$Reader", 104, 1), ("SafeSenate$Reader", 106, 2), ("SafeSenate$Reader", 108, 3), ("SafeSenate$Reader", 110, 4), ("SafeSenate$Reader", 112, 5), ("SafeSenate$Reader", 114, 6), ("SafeSenate$Reader", 116, 7), ("SafeSenate$Reader", 118, 8), ("SafeSenate$Reader", 120, 9), ("SafeSenate$Reader", 122, 10), ("SafeSenate$Reader", 124, 11), ("SafeSenate$Reader", 126, 12), ("SafeSenate$Reader", 128, 13), ("SafeSenate$Reader", 130, 14), ("SafeSenate$Reader", 131, 15), ("SafeSenate$Reader", 133, 16), ("SafeSenate$Reader", 135, 17), ("SafeSenate$Reader", 137, 18), ("SafeSenate$Reader", 139, 19), ("SafeSenate$Reader", 141, 20), ("SafeSenateModel", 127, 0), ("SafeSenateModel", 210, 9), ("SafeSenateModel", 215, 10), ("SafeSenateModel", 217, 11), ("SafeSenateModel", 219, 12), ("SafeSenateModel", 129, 1), ("SafeSenateModel", 131, 2), ("SafeSenateModel", 133, 3), ("SafeSenateModel", 135, 4), ("SafeSenateModel", 137, 5), ("SafeSenateModel", 139, 6), ("SafeSenateModel", 141, 7), ("SafeSenateModel", 143, 8), ("SafeSenateModel", 238, 13), ("SafeSenateModel", 245, 18), ("SafeSenateModel", 247, 19), ("SafeSenateModel", 249, 20), ("SafeSenateModel", 251, 14), ("SafeSenateModel", 256, 15), ("SafeSenateModel", 258, 16), ("SafeSenateModel", 272, 17)]
def ssTx : List String := ["safe", "hook", "senator", "act", "for", "rests", "doubted", "went", "fell", "quorum", "heat", "thunder", "salt", "air", "at", "good", "votes", "day", "fresh", "salted", "cold"]
def ssSl : List Nat := [4, 4, 7, 3, 3, 5, 7, 4, 4, 6, 4, 7, 4, 3, 2, 4, 5, 3, 5, 6, 4]
def ssSb : List (List Int32) := [[115, 97, 102, 101], [104, 111, 111, 107], [115, 101, 110, 97, 116, 111, 114], [97, 99, 116], [102, 111, 114], [114, 101, 115, 116, 115], [100, 111, 117, 98, 116, 101, 100], [119, 101, 110, 116], [102, 101, 108, 108], [113, 117, 111, 114, 117, 109], [104, 101, 97, 116], [116, 104, 117, 110, 100, 101, 114], [115, 97, 108, 116], [97, 105, 114], [97, 116], [103, 111, 111, 100], [118, 111, 116, 101, 115], [100, 97, 121], [102, 114, 101, 115, 104], [115, 97, 108, 116, 101, 100], [99, 111, 108, 100]]
end
section
/-! ===== the judgement ssV: a method's walk over a heap of cells by their addresses ===== -/
abbrev ssE : Type := (Nat × vp_A) ⊕ (Nat × List Value)
abbrev ssH : Type := Nat → Option ssE
def hset (h : ssH) (a : Nat) (e : ssE) : ssH := fun b => if b = a then some e else h b
theorem hset_self (h : ssH) (a : Nat) (e : ssE) : hset h a e a = some e := by simp [hset]
theorem hset_ne (h : ssH) {a b : Nat} (e : ssE) (hb : b ≠ a) : hset h a e b = h b := by simp [hset, hb]
theorem hset_hset (h : ssH) (a : Nat) (e f : ssE) : hset (hset h a e) a f = hset h a f := by funext b; by_cases hb : b = a <;> simp [hset, hb]
theorem hset_comm (h : ssH) {a b : Nat} (e f : ssE) (hab : a ≠ b) : hset (hset h a e) b f = hset (hset h b f) a e := by
  funext c
  by_cases h1 : c = a
  · subst h1; simp [hset, hab]
  · by_cases h2 : c = b
    · subst h2; simp [hset, h1]
    · simp [hset, h1, h2]
theorem hset_same (h : ssH) {a : Nat} {e : ssE} (he : h a = some e) : hset h a e = h := by
  funext b
  by_cases hb : b = a
  · subst hb; simp [hset, he]
  · simp [hset, hb]
abbrev ssQq : Type := Nat × Instr × Nat × List Nat × Value
abbrev ssM : Type := Nat × MethodName × ByteArray × Nat × Option FieldType × List Nat × List ssQq
def ssY (M : ssM) : MethodName := M.2.1
def ssCC (M : ssM) : ByteArray := M.2.2.1
def ssML (M : ssM) : Nat := M.2.2.2.1
def ssRet (M : ssM) : Option FieldType := M.2.2.2.2.1
def ssPl (M : ssM) (k : Nat) : Nat := M.2.2.2.2.2.1.getD k 0
def ssTab (M : ssM) : List ssQq := M.2.2.2.2.2.2
def ssFind : List ssQq → Nat → Option (Instr × Nat × List Nat × Value)
  | [], _ => none
  | q :: t, pc => bif Nat.beq q.1 pc then some q.2 else ssFind t pc
def ssLk (M : ssM) (pc : Nat) : Option (Instr × Nat × List Nat × Value) := ssFind (ssTab M) pc
theorem ssFind_mem : ∀ (l : List ssQq) (pc : Nat) (x : Instr × Nat × List Nat × Value), ssFind l pc = some x → (pc, x) ∈ l
  | [], _, _, h => by simp [ssFind] at h
  | q :: t, pc, x, h => by
    simp only [ssFind] at h
    cases hb : Nat.beq q.1 pc with
    | true =>
      rw [hb] at h
      have h1 : q.1 = pc := Nat.eq_of_beq_eq_true hb
      have h2 : q.2 = x := by simpa using h
      have : q = (pc, x) := by rw [← h1, ← h2]
      rw [this]; exact List.mem_cons_self
    | false =>
      rw [hb] at h
      exact List.mem_cons_of_mem _ (ssFind_mem t pc x (by simpa using h))
def ssTbl : List Cond := lw_tbl.filter goodWord
def inT (pl : Nat) (w : Cond) : Bool := decide (lw_tbl[pl]? = some w) && goodWord w
theorem inT_mem {pl : Nat} {w : Cond} (h : inT pl w = true) : w ∈ ssTbl := by
  simp only [inT, Bool.and_eq_true, decide_eq_true_eq] at h
  exact List.mem_filter.mpr ⟨List.mem_of_getElem? h.1, h.2⟩
theorem ssTbl_good (big : List Cond) (h : ∀ w ∈ ssTbl, w ∈ big) : GoodIn big ssTbl := fun w hw => ⟨h w hw, good_of_word (List.mem_filter.mp hw).2⟩
def isNest : Cond → Bool
  | .fieldLinkNest .. => true
  | .methodLinkNest .. => true
  | _ => false
def ssNest : List Cond := lw_tbl.filter isNest
def inNs (pl : Nat) (w : Cond) : Bool := decide (lw_tbl[pl]? = some w) && isNest w
theorem inNs_mem {pl : Nat} {w : Cond} (h : inNs pl w = true) : w ∈ ssNest := by
  simp only [inNs, Bool.and_eq_true, decide_eq_true_eq] at h
  exact List.mem_filter.mpr ⟨List.mem_of_getElem? h.1, h.2⟩
def ssTy : Nat → FieldType
  | 0 => .int
  | 1 => .byte
  | 2 => .long
  | _ => .object "SafeSenate$Moment"
/-- what an entry of a method's list says beside its decoding -/
def chk2 (M : ssM) (q : ssQq) : Bool := match q.2.1, q.2.2.2.1, q.2.2.2.2 with
  | .iconst n, _, .int x => decide (Int32.ofInt n = x)
  | .bipush n, _, .int x => decide ((Int8.ofInt n).toInt32 = x)
  | .sipush n, _, .int x => decide ((Int16.ofInt n).toInt32 = x)
  | .lconst n, _, .long x => decide (Int64.ofNat (n : Nat) = x)
  | .ldc i, [pl], .int x => inT pl (.constant (ssY M).cls i x)
  | .ldc i, [j], .null => decide (((ssY M).cls, i, j) ∈ ssSR)
  | .ldc_w i, [pl], .int x => inT pl (.constant (ssY M).cls i x)
  | .ldc2_w i, [pl], .long x => inT pl (.constantLong (ssY M).cls i x)
  | .iinc _ n, _, .int x => decide (Int32.ofInt n = x)
  | .getfield i, [ci, k, pl, nst], _ => match vwCl[ci]? with
    | some r => decide (k < r.2.2) && (bif Nat.beq nst 1 then inNs pl (.fieldLinkNest (ssY M).cls i (r.2.1 k).1 (r.2.1 k).2.1 (r.2.1 k).2.2.1 "SafeSenateModel") else inT pl (.fieldLink (ssY M).cls i (r.2.1 k).1 (r.2.1 k).2.1 (r.2.1 k).2.2.1))
    | none => false
  | .putfield i, [ci, k, pl, nst], _ => match vwCl[ci]? with
    | some r => decide (k < r.2.2) && (bif Nat.beq nst 1 then (!(r.2.1 k).2.2.2) && inNs pl (.fieldLinkNest (ssY M).cls i (r.2.1 k).1 (r.2.1 k).2.1 (r.2.1 k).2.2.1 "SafeSenateModel") else ((!(r.2.1 k).2.2.2) || (decide ((ssY M).name = "<init>") && decide ((r.2.1 k).1 = (ssY M).cls))) && inT pl (.fieldLink (ssY M).cls i (r.2.1 k).1 (r.2.1 k).2.1 (r.2.1 k).2.2.1))
    | none => false
  | .new i, [ci, pl], _ => match vwCl[ci]? with
    | some r => inT pl (.classLink (ssY M).cls i r.1)
    | none => true
  | .anewarray i, [pl], _ => inT pl (.classLink (ssY M).cls i "SafeSenate$Moment")
  | .newarray a, [t], _ => decide (newarray.typeOf a = ssTy t) && decide (t < 3)
  | .invokevirtual i, [n, pl, _], _ => inT pl (.methodLink (ssY M).cls i (ssMN.getD n objectInit))
  | .invokestatic i, [n, pl, nst], _ => bif Nat.beq nst 1 then inNs pl (.methodLinkNest (ssY M).cls i (ssMN.getD n objectInit) "SafeSenate") else inT pl (.methodLink (ssY M).cls i (ssMN.getD n objectInit))
  | .invokespecial i, [n, pl, nst], _ => bif Nat.beq nst 1 then inNs pl (.methodLinkNest (ssY M).cls i (ssMN.getD n objectInit) "SafeSenateModel") else inT pl (.methodLink (ssY M).cls i (ssMN.getD n objectInit))
  | .if_icmp _ off, [t], _ => decide ((q.1 : Int) + off = (t : Int))
  | .ifCond _ off, [t], _ => decide ((q.1 : Int) + off = (t : Int))
  | .goto off, [t], _ => decide ((q.1 : Int) + off = (t : Int))
  | .ifnull off, [t], _ => decide ((q.1 : Int) + off = (t : Int))
  | .ifnonnull off, [t], _ => decide ((q.1 : Int) + off = (t : Int))
  | _, _, _ => true
def chk (M : ssM) (q : ssQq) : Bool := decide (decode (ssCC M) q.1 = .ok (q.2.1, q.2.2.1)) && chk2 M q
def ssOk (M : ssM) : Bool := (ssTab M).all (chk M)
/-- what a call of the method needs of the tables -/
def ssCa (M : ssM) : Bool := inT (ssPl M 0) (.code (ssY M) (ssCC M) (ssML M) (ssRet M)) && inT (ssPl M 3) (.initialized (ssY M).cls) && plainName (ssY M).cls && decide ((ssY M).cls ≠ "java/lang/invoke/MethodHandle") && decide ((ssY M).cls ≠ "java/lang/invoke/VarHandle") && decide (ssML M ≤ 40) && decide (ssMN[ssPl M 6]? = some (ssY M)) && decide ((parseMethodDescriptor (ssY M).desc).map (fun d => d.parameters.length) = some (ssPl M 5)) &&
  (bif Nat.beq (ssPl M 4) 1 then inT (ssPl M 1) (.static (ssY M)) else inT (ssPl M 1) (.instanceMethod (ssY M)) && (bif Nat.beq (ssPl M 7) 1 then decide ((ssY M).name = "<init>") else inT (ssPl M 2) (.selects (ssY M).cls (ssY M) (ssY M))))
theorem ssLk_ok {M : ssM} (hok : ssOk M = true) {pc n : Nat} {i : Instr} {r : List Nat} {v : Value} (h : ssLk M pc = some (i, n, r, v)) : decode (ssCC M) pc = .ok (i, n) ∧ chk2 M (pc, i, n, r, v) = true := by
  have h1 := List.all_eq_true.mp hok _ (ssFind_mem _ _ _ h)
  simp only [chk, Bool.and_eq_true, decide_eq_true_eq] at h1
  exact h1
/-! the locals -/
def prs : List (Option Value) → Nat → List (Nat × Value)
  | [], _ => []
  | some v :: t, k => (k, v) :: prs t (k + 1)
  | none :: t, k => prs t (k + 1)
theorem prs_mem : ∀ (ls : List (Option Value)) (k j : Nat) (w : Value), (j, w) ∈ prs ls k ↔ ∃ i, j = k + i ∧ ls[i]? = some (some w)
  | [], k, j, w => by simp [prs]
  | some v :: t, k, j, w => by
    simp only [prs, List.mem_cons, Prod.mk.injEq, prs_mem t (k + 1) j w]
    constructor
    · rintro (⟨rfl, rfl⟩ | ⟨i, rfl, hi⟩)
      · exact ⟨0, by omega, by simp⟩
      · exact ⟨i + 1, by omega, by simpa using hi⟩
    · rintro ⟨i, rfl, hi⟩
      cases i with
      | zero => left; simp at hi; exact ⟨by omega, hi.symm⟩
      | succ i => right; exact ⟨i, by omega, by simpa using hi⟩
  | none :: t, k, j, w => by
    simp only [prs, prs_mem t (k + 1) j w]
    constructor
    · rintro ⟨i, rfl, hi⟩
      exact ⟨i + 1, by omega, by simpa using hi⟩
    · rintro ⟨i, rfl, hi⟩
      cases i with
      | zero => simp at hi
      | succ i => exact ⟨i, by omega, by simpa using hi⟩
def ssL (la : Array Slot) (nL : Nat) (ls : List (Option Value)) : Prop := lv_has la nL (prs ls 0)
theorem ssL_get {la : Array Slot} {nL : Nat} {ls : List (Option Value)} (h : ssL la nL ls) {i : Nat} {v : Value} (hi : ls[i]? = some (some v)) : la[i]? = some (.val v) :=
  h.2.2 (i, v) ((prs_mem ls 0 i v).mpr ⟨i, by omega, hi⟩)
def kp1 : Option Value → Option Value
  | some (.long _) => none
  | some (.double _) => none
  | o => o
def st1 : List (Option Value) → Nat → Value → List (Option Value)
  | [], _, _ => []
  | _ :: t, 0, v => some v :: t
  | o :: t, 1, v => kp1 o :: st1 t 0 v
  | o :: t, n + 2, v => o :: st1 t (n + 1) v
def stN : List (Option Value) → Nat → List (Option Value)
  | [], _ => []
  | _ :: t, 0 => none :: t
  | o :: t, n + 1 => o :: stN t n
theorem kp1_some {o : Option Value} {w : Value} (h : kp1 o = some w) : o = some w ∧ ¬ w.category = 2 := by
  cases o with
  | none => simp [kp1] at h
  | some u => cases u <;> simp [kp1] at h <;> subst h <;> simp [Value.category]
theorem st1_get : ∀ (ls : List (Option Value)) (i : Nat) (v : Value) (j : Nat) (w : Value), (st1 ls i v)[j]? = some (some w) → (j = i ∧ w = v) ∨ (j ≠ i ∧ ls[j]? = some (some w) ∧ ¬ (j + 1 = i ∧ w.category = 2))
  | [], i, v, j, w, h => by simp [st1] at h
  | o :: t, 0, v, j, w, h => by
    simp only [st1] at h
    cases j with
    | zero => left; simp at h; exact ⟨rfl, h.symm⟩
    | succ j => right; exact ⟨by omega, by simpa using h, by omega⟩
  | o :: t, 1, v, j, w, h => by
    simp only [st1] at h
    cases j with
    | zero =>
      simp at h
      obtain ⟨h1, h2⟩ := kp1_some h
      right; exact ⟨by omega, by simpa using h1, fun q => h2 q.2⟩
    | succ j =>
      rcases st1_get t 0 v j w (by simpa using h) with ⟨h1, h2⟩ | ⟨h1, h2, h3⟩
      · left; exact ⟨by omega, h2⟩
      · right; exact ⟨by omega, by simpa using h2, by omega⟩
  | o :: t, n + 2, v, j, w, h => by
    simp only [st1] at h
    cases j with
    | zero => right; exact ⟨by omega, by simpa using h, by omega⟩
    | succ j =>
      rcases st1_get t (n + 1) v j w (by simpa using h) with ⟨h1, h2⟩ | ⟨h1, h2, h3⟩
      · left; exact ⟨by omega, h2⟩
      · right; exact ⟨by omega, by simpa using h2, by omega⟩
theorem stN_get : ∀ (ls : List (Option Value)) (i j : Nat) (w : Value), (stN ls i)[j]? = some (some w) → j ≠ i ∧ ls[j]? = some (some w)
  | [], i, j, w, h => by simp [stN] at h
  | o :: t, 0, j, w, h => by
    simp only [stN] at h
    cases j with
    | zero => simp at h
    | succ j => exact ⟨by omega, by simpa using h⟩
  | o :: t, n + 1, j, w, h => by
    simp only [stN] at h
    cases j with
    | zero => exact ⟨by omega, by simpa using h⟩
    | succ j =>
      obtain ⟨h1, h2⟩ := stN_get t n j w (by simpa using h)
      exact ⟨by omega, by simpa using h2⟩
theorem lv_fewer {la : Array Slot} {nL : Nat} {l l' : List (Nat × Value)} (h : lv_has la nL l) (hs : ∀ q ∈ l', q ∈ l) : lv_has la nL l' := ⟨h.1, h.2.1, fun q hq => h.2.2 q (hs q hq)⟩
theorem ssL_st1 {la : Array Slot} {nL i : Nat} {ls : List (Option Value)} {v : Value} (h : lv_has la nL ((i, v) :: (prs ls 0).filter (fun q => !(q.1 == i) && !(q.1 + 1 == i && q.2.category == 2)))) : ssL la nL (st1 ls i v) := by
  refine lv_fewer h ?_
  rintro ⟨j, w⟩ hq
  obtain ⟨k, rfl, hk⟩ := (prs_mem _ _ _ _).mp hq
  rcases st1_get _ _ _ _ _ hk with ⟨h1, h2⟩ | ⟨h1, h2, h3⟩
  · rw [h1, h2]; simp
  · refine List.mem_cons_of_mem _ (List.mem_filter.mpr ⟨(prs_mem _ _ _ _).mpr ⟨k, rfl, h2⟩, ?_⟩)
    simp only [Nat.zero_add, Bool.and_eq_true, Bool.not_eq_true', beq_eq_false_iff_ne, ne_eq, Bool.and_eq_false_iff]
    refine ⟨h1, ?_⟩
    by_cases h4 : k + 1 = i
    · right; exact fun q => h3 ⟨h4, q⟩
    · left; exact h4
theorem ssL_st2 {la : Array Slot} {nL i : Nat} {ls : List (Option Value)} {v : Value} (h : lv_has la nL ((i, v) :: (prs ls 0).filter (fun q => !(q.1 == i) && (!(q.1 == i + 1) && !(q.1 + 1 == i && q.2.category == 2))))) : ssL la nL (stN (st1 ls i v) (i + 1)) := by
  refine lv_fewer h ?_
  rintro ⟨j, w⟩ hq
  obtain ⟨k, rfl, hk⟩ := (prs_mem _ _ _ _).mp hq
  obtain ⟨h0, hk⟩ := stN_get _ _ _ _ hk
  rcases st1_get _ _ _ _ _ hk with ⟨h1, h2⟩ | ⟨h1, h2, h3⟩
  · rw [h1, h2]; simp
  · refine List.mem_cons_of_mem _ (List.mem_filter.mpr ⟨(prs_mem _ _ _ _).mpr ⟨k, rfl, h2⟩, ?_⟩)
    simp only [Nat.zero_add, Bool.and_eq_true, Bool.not_eq_true', beq_eq_false_iff_ne, ne_eq, Bool.and_eq_false_iff]
    refine ⟨h1, h0, ?_⟩
    by_cases h4 : k + 1 = i
    · right; exact fun q => h3 ⟨h4, q⟩
    · left; exact h4
/-! ===== the world: launch, class numbers, array classes, where the heap began, the constants' texts ===== -/
abbrev ssG : Type := Launch × va_G × (Nat → ClassId) × Nat × (Nat → Nat) × (Nat → Nat)
def gL (G : ssG) : Launch := G.1
def gD (G : ssG) : va_G := G.2.1
def gC (G : ssG) : Nat → ClassId := G.2.2.1
def gz (G : ssG) : Nat := G.2.2.2.1
def gK (G : ssG) : Nat → Nat := G.2.2.2.2.1
def gV (G : ssG) : Nat → Nat := G.2.2.2.2.2
def gA (G : ssG) : Nat → Prop := fun q => gz G ≤ q
def ssTys (G : ssG) : List (ClassId × FieldType) := [(gC G 0, .int), (gC G 1, .byte), (gC G 2, .long), (gC G 3, .object "SafeSenate$Moment")]
def ce (G : ssG) : ssE → va_E
  | .inl (t, x) => .inl (gC G t, x)
  | .inr o => .inr o
def ssWd (G : ssG) (h : ssH) (H : Heap) : Prop := ∃ ws : va_W, (∀ a e, h a = some e → ∃ i : Nat, ws[i]? = some (a, ce G e)) ∧ va_P (gD G) vwCl ws H ∧ va_D (gA G) ws
def ssX (G : ssG) (U : State) (H : Heap) : Prop := vk_S 21 ssSl ssSb (gK G) (gV G) (gA G) U H ∧ (∀ q ∈ ssSR, vk_R q.1 q.2.1 (ssTx.getD q.2.2 "") (gK G q.2.2) U) ∧ va_Z "java/lang/String" "COMPACT_STRINGS" "Z" (.int 1) (gA G) U H ∧ va_AO "SafeSenate$Moment" U ∧ ∀ w ∈ ssNest, va_Nw w U
theorem nest_warm {w : Cond} (hw : isNest w = true) {s U : State} (hW : s.WarmedH U.vm) (h : va_Nw w s) : va_Nw w U := by
  cases w <;> first | exact va_Nw.warmF hW h | exact va_Nw.warmM hW h | (simp [isNest] at hw)
theorem ssX.warm {G : ssG} {s U : State} {H : Heap} (hW : s.WarmedH U.vm) (h : ssX G s H) : ssX G U H := ⟨vk_S.moved hW.alike h.1, fun q hq => vk_R.warm hW (h.2.1 q hq), va_Z.moved hW.alike h.2.2.1, va_AO.moved hW.alike h.2.2.2.1, fun w hw => nest_warm (List.mem_filter.mp hw).2 hW (h.2.2.2.2 w hw)⟩
theorem ssX.kept {G : ssG} {U : State} {H H1 : Heap} (h : ssX G U H) (hq : ∀ a : Nat, a < H.size → ¬ gA G a → H1[a]? = H[a]?) : ssX G U H1 := ⟨h.1.kept hq, h.2.1, h.2.2.1.kept hq, h.2.2.2⟩
def ssP (G : ssG) (As : List Value) (h : ssH) : Array Value → State → Prop := va_Pc As (fun U => gz G ≤ U.heap.size ∧ ssWd G h U.heap ∧ va_K (gD G) vwCl (ssTys G) U ∧ ssX G U U.heap)
theorem ssP_blind (G : ssG) (As : List Value) (h : ssH) : FrameBlind (ssP G As h) := fun a U g mk q => by
  obtain ⟨q0, q1, q2, q3, q4⟩ := q
  exact ⟨q0, q1, q2, va_K.moved (u := U) (U := U.calling g mk a) (Vm.Alike.refl U.vm) q3, ssX.warm (s := U) (U := U.calling g mk a) (State.WarmedH.refl U) q4⟩
def ssQ (G : ssG) (Q : Option Value → ssH → Prop) : Array Value → State → Outcome → State → Prop := fun _ st o t => (∃ r h', o = .returned r ∧ Q r h' ∧ ssWd G h' t.heap) ∧ va_F (gA G) st t
def ssCx (G : ssG) (M : ssM) (p : Program) (s : State) (m : MethodId) (args : Array Value) (meth : Method) (c : Code) : Prop :=
  p.tables.exec = Jvm.exec ∧ c.code = ssCC M ∧ meth.sig.returnType = ssRet M ∧ c.maxLocals = ssML M ∧ s.vm.findClass (ssY M).cls = some m.cls ∧ (∀ w ∈ ssTbl, w.before args s = true) ∧ meth.locks = false ∧ meth.name = (ssY M).name ∧ va_K (gD G) vwCl (ssTys G) s ∧ ssX G s s.heap ∧ gz G ≤ s.heap.size ∧ ssOk M = true
def ssRm (D mc ms : Nat) : Room := { frames := D, cells := mc, slots := ms, locals := 64 * D }
/-- from here the method comes to its end, with Q of its answer and of the heap; D frames, mc cells and ms slots are left for it -/
def ssV (G : ssG) (M : ssM) (D mc ms : Nat) (Q : Option Value → ssH → Prop) (pc : Nat) (ls : List (Option Value)) (st : List Value) (h : ssH) : Prop :=
  ∀ (p : Program) (e : Env) (s : State) (m : MethodId) (args : Array Value) (below : List Frame) (meth : Method) (c : Code) (R : Room) (H : Heap) (locs : List Loc) (cells slots MC MS : Nat) (la : Array Slot),
    ssCx G M p s m args meth c → (D ≤ R.frames ∧ 64 * D ≤ R.locals ∧ cells + mc ≤ MC ∧ MC ≤ R.cells ∧ slots + ms ≤ MS ∧ MS ≤ R.slots) → ssWd G h H → va_S (gA G) s.heap H locs → ssL la (ssML M) ls →
    W p (gL G) e R s m args below meth c H locs cells slots (MQ below (ssQ G Q) args s MC MS (gA G)) (F0 m pc la st)
/-- a method's contract -/
def ssC (G : ssG) (M : ssM) (D mc ms : Nat) (As : List Value) (h : ssH) (Q : Option Value → ssH → Prop) : Prop :=
  Met (gL G) (ssY M) (Cond.code (ssY M) (ssCC M) (ssML M) (ssRet M) :: ssTbl) (ssRm D mc ms) (ssP G As h) (ssQ G Q) mc ms (gA G)
section SSA
variable {G : ssG} {M : ssM} {D mc ms : Nat} {Q : Option Value → ssH → Prop} {pc : Nat} {ls : List (Option Value)} {st : List Value} {h : ssH}
theorem c_of_v {As : List Value} (hok : ssOk M = true) (hpl : plainName (ssY M).cls = true) (hls : prs ls 0 = lv_args 0 As) (hn : (lg_sl As).length ≤ ssML M) (hv : ssV G M D mc ms Q 0 ls [] h) : ssC G M D mc ms As h Q := by
  refine Met.ofW (cc := ssCC M) (maxL := ssML M) (ret := ssRet M) hpl rfl ?_
  intro p e s m args below meth c s₁ B hml hv0
  obtain ⟨rfl, h1, h2, h3, h4⟩ := hv0
  rw [lg_entry_eq]
  have hts := atoms_spec (ws := Cond.code (ssY M) (ssCC M) (ssML M) (ssRet M) :: ssTbl) B.pre
  have hl := lv_entry As (n := ssML M) hn
  refine hv p e s m As.toArray below meth c (ssRm D mc ms) s.heap [] 0 0 mc ms _ ⟨B.exec, B.bytes, B.returns, hml, findClass_of_methodNamed B.named, fun w hw => hts w (List.mem_cons_of_mem _ hw), B.notSynchronized, (name_of_methodNamed B.named B.method).1, h3, h4, h1, hok⟩ ⟨Nat.le_refl _, Nat.le_refl _, by omega, Nat.le_refl _, by omega, Nat.le_refl _⟩ h2 va_S.rf ?_
  unfold ssL
  rw [hls]
  exact hl
theorem ssC.weak {As : List Value} {Q' : Option Value → ssH → Prop} (hc : ssC G M D mc ms As h Q) (hq : ∀ r h', Q r h' → Q' r h') : ssC G M D mc ms As h Q' := by
  intro p e ha hcc hk s m args below hf h1 h2 h3
  obtain ⟨t, o, a1, a2, a3, a4, a5⟩ := hc p e ha hcc hk s m args below hf h1 h2 h3
  obtain ⟨⟨r, h', b1, b2, b3⟩, b4⟩ := a4
  exact ⟨t, o, a1, a2, a3, ⟨⟨r, h', b1, hq r h' b2, b3⟩, b4⟩, a5⟩
/-- the steps that touch the locals and the operands alone -/
def sst (M : ssM) (pc : Nat) (ls : List (Option Value)) (st : List Value) : Option (Nat × List (Option Value) × List Value) :=
  match ssLk M pc with
  | none => none
  | some (i, n, r, v) => match i, n, st with
    | .iconst _, 1, st => match v with | .int x => some (pc + 1, ls, .int x :: st) | _ => none
    | .bipush _, 2, st => match v with | .int x => some (pc + 2, ls, .int x :: st) | _ => none
    | .sipush _, 3, st => match v with | .int x => some (pc + 3, ls, .int x :: st) | _ => none
    | .lconst _, 1, st => match v with | .long x => some (pc + 1, ls, .long x :: st) | _ => none
    | .aconst_null, 1, st => some (pc + 1, ls, .null :: st)
    | .iload k, 2, st => match ls[k]? with | some (some (.int x)) => some (pc + 2, ls, .int x :: st) | _ => none
    | .iload_n k, 1, st => match ls[k.val]? with | some (some (.int x)) => some (pc + 1, ls, .int x :: st) | _ => none
    | .lload k, 2, st => match ls[k]? with | some (some (.long x)) => some (pc + 2, ls, .long x :: st) | _ => none
    | .lload_n k, 1, st => match ls[k.val]? with | some (some (.long x)) => some (pc + 1, ls, .long x :: st) | _ => none
    | .aload k, 2, st => match ls[k]? with | some (some (.ref x)) => some (pc + 2, ls, .ref x :: st) | some (some .null) => some (pc + 2, ls, .null :: st) | _ => none
    | .aload_n k, 1, st => match ls[k.val]? with | some (some (.ref x)) => some (pc + 1, ls, .ref x :: st) | some (some .null) => some (pc + 1, ls, .null :: st) | _ => none
    | .istore k, 2, .int x :: st => if k < ssML M then some (pc + 2, st1 ls k (.int x), st) else none
    | .istore_n k, 1, .int x :: st => if k.val < ssML M then some (pc + 1, st1 ls k.val (.int x), st) else none
    | .lstore k, 2, .long x :: st => if (k + 1) < ssML M then some (pc + 2, stN (st1 ls k (.long x)) (k + 1), st) else none
    | .lstore_n k, 1, .long x :: st => if (k.val + 1) < ssML M then some (pc + 1, stN (st1 ls k.val (.long x)) (k.val + 1), st) else none
    | .astore k, 2, .ref x :: st => if k < ssML M then some (pc + 2, st1 ls k (.ref x), st) else none
    | .astore_n k, 1, .ref x :: st => if k.val < ssML M then some (pc + 1, st1 ls k.val (.ref x), st) else none
    | .iinc k _, 3, st => match v, ls[k]? with | .int y, some (some (.int x)) => if k < ssML M then some (pc + 3, st1 ls k (.int (x + y)), st) else none | _, _ => none
    | .iadd, 1, .int y :: .int x :: st => some (pc + 1, ls, .int (x + y) :: st)
    | .isub, 1, .int y :: .int x :: st => some (pc + 1, ls, .int (x - y) :: st)
    | .imul, 1, .int y :: .int x :: st => some (pc + 1, ls, .int (x * y) :: st)
    | .iand, 1, .int y :: .int x :: st => some (pc + 1, ls, .int (x &&& y) :: st)
    | .ior, 1, .int y :: .int x :: st => some (pc + 1, ls, .int (x ||| y) :: st)
    | .ixor, 1, .int y :: .int x :: st => some (pc + 1, ls, .int (x ^^^ y) :: st)
    | .ineg, 1, .int x :: st => some (pc + 1, ls, .int (-x) :: st)
    | .ishl, 1, .int y :: .int x :: st => some (pc + 1, ls, .int (x <<< (y &&& 31)) :: st)
    | .ishr, 1, .int y :: .int x :: st => some (pc + 1, ls, .int (x >>> (y &&& 31)) :: st)
    | .iushr, 1, .int y :: .int x :: st => some (pc + 1, ls, .int (x.toUInt32 >>> (y.toUInt32 &&& Int32.toUInt32 31)).toInt32 :: st)
    | .ladd, 1, .long y :: .long x :: st => some (pc + 1, ls, .long (x + y) :: st)
    | .lsub, 1, .long y :: .long x :: st => some (pc + 1, ls, .long (x - y) :: st)
    | .lmul, 1, .long y :: .long x :: st => some (pc + 1, ls, .long (x * y) :: st)
    | .lor, 1, .long y :: .long x :: st => some (pc + 1, ls, .long (x ||| y) :: st)
    | .lshl, 1, .int y :: .long x :: st => some (pc + 1, ls, .long (x <<< (y.toInt64 &&& 63)) :: st)
    | .lcmp, 1, .long y :: .long x :: st => some (pc + 1, ls, .int (lg_cmp x y) :: st)
    | .i2l, 1, .int x :: st => some (pc + 1, ls, .long x.toInt64 :: st)
    | .l2i, 1, .long x :: st => some (pc + 1, ls, .int x.toInt32 :: st)
    | .i2b, 1, .int x :: st => some (pc + 1, ls, .int x.toInt8.toInt32 :: st)
    | .dup, 1, .int x :: st => some (pc + 1, ls, .int x :: .int x :: st)
    | .dup, 1, .ref x :: st => some (pc + 1, ls, .ref x :: .ref x :: st)
    | .dup2, 1, .int y :: .ref x :: st => some (pc + 1, ls, .int y :: .ref x :: .int y :: .ref x :: st)
    | .pop, 1, .int _ :: st => some (pc + 1, ls, st)
    | .dup_x1, 1, .int y :: .ref x :: st => some (pc + 1, ls, .int y :: .ref x :: .int y :: st)
    | .dup_x2, 1, .int y :: .int z :: .ref x :: st => some (pc + 1, ls, .int y :: .int z :: .ref x :: .int y :: st)
    | .goto _, 3, st => match r with | [t] => some (t, ls, st) | _ => none
    | .ifnull _, 3, .ref _ :: st => some (pc + 3, ls, st)
    | .ifnull _, 3, .null :: st => match r with | [t] => some (t, ls, st) | _ => none
    | .ifnonnull _, 3, .null :: st => some (pc + 3, ls, st)
    | .ifnonnull _, 3, .ref _ :: st => match r with | [t] => some (t, ls, st) | _ => none
    | .ldc _, 2, st => match v, r with | .int x, [_] => some (pc + 2, ls, .int x :: st) | _, _ => none
    | .ldc_w _, 3, st => match v, r with | .int x, [_] => some (pc + 3, ls, .int x :: st) | _, _ => none
    | .ldc2_w _, 3, st => match v, r with | .long x, [_] => some (pc + 3, ls, .long x :: st) | _, _ => none
    | _, _, _ => none
end SSA
end
section
section SSB
variable {G : ssG} {M : ssM} {D mc ms : Nat} {Q : Option Value → ssH → Prop} {pc pc' : Nat} {ls ls' : List (Option Value)} {st st' : List Value} {h : ssH}
theorem v_lift (row : ∀ (p : Program) (e : Env) (s : State) (m : MethodId) (args : Array Value) (below : List Frame) (meth : Method) (c : Code) (R : Room) (H : Heap) (locs : List Loc) (cells slots : Nat) (Q' : State → Prop) (la : Array Slot), p.tables.exec = Jvm.exec → c.code = ssCC M → s.vm.findClass (ssY M).cls = some m.cls → (∀ w ∈ ssTbl, w.before args s = true) → ssOk M = true → ssL la (ssML M) ls → W p (gL G) e R s m args below meth c H locs cells slots Q' (F0 m pc' la st') → W p (gL G) e R s m args below meth c H locs cells slots Q' (F0 m pc la st)) (kk : ssV G M D mc ms Q pc' ls st' h) : ssV G M D mc ms Q pc ls st h := by
  intro p e s m args below meth c R H locs cells slots MC MS la hC hR hW hS hL
  exact row p e s m args below meth c R H locs cells slots _ la hC.1 hC.2.1 hC.2.2.2.2.1 hC.2.2.2.2.2.1 hC.2.2.2.2.2.2.2.2.2.2.2 hL (kk p e s m args below meth c R H locs cells slots MC MS la hC hR hW hS hL)
theorem v_liftL (row : ∀ (p : Program) (e : Env) (s : State) (m : MethodId) (args : Array Value) (below : List Frame) (meth : Method) (c : Code) (R : Room) (H : Heap) (locs : List Loc) (cells slots : Nat) (Q' : State → Prop) (la : Array Slot), p.tables.exec = Jvm.exec → c.code = ssCC M → ssOk M = true → ssL la (ssML M) ls → (∀ la', ssL la' (ssML M) ls' → W p (gL G) e R s m args below meth c H locs cells slots Q' (F0 m pc' la' st')) → W p (gL G) e R s m args below meth c H locs cells slots Q' (F0 m pc la st)) (kk : ssV G M D mc ms Q pc' ls' st' h) : ssV G M D mc ms Q pc ls st h := by
  intro p e s m args below meth c R H locs cells slots MC MS la hC hR hW hS hL
  exact row p e s m args below meth c R H locs cells slots _ la hC.1 hC.2.1 hC.2.2.2.2.2.2.2.2.2.2.2 hL (fun la' hl' => kk p e s m args below meth c R H locs cells slots MC MS la' hC hR hW hS hl')
set_option maxHeartbeats 4000000 in
theorem sst_ok (hs : sst M pc ls st = some (pc', ls', st')) (kk : ssV G M D mc ms Q pc' ls' st' h) : ssV G M D mc ms Q pc ls st h := by
  unfold sst at hs
  split at hs
  · cases hs
  · rename_i i n r v hl
    split at hs
    · split at hs <;> cases hs
      exact v_lift (fun p e s m args below meth c R H locs cells slots Q' la hx hb ho ht hok hL k => lv_iconst hx hb (ssLk_ok hok hl).1 (of_decide_eq_true (ssLk_ok hok hl).2) k) kk
    · split at hs <;> cases hs
      exact v_lift (fun p e s m args below meth c R H locs cells slots Q' la hx hb ho ht hok hL k => lv_bipush hx hb (ssLk_ok hok hl).1 (of_decide_eq_true (ssLk_ok hok hl).2) k) kk
    · split at hs <;> cases hs
      exact v_lift (fun p e s m args below meth c R H locs cells slots Q' la hx hb ho ht hok hL k => lv_sipush hx hb (ssLk_ok hok hl).1 (of_decide_eq_true (ssLk_ok hok hl).2) k) kk
    · split at hs <;> cases hs
      exact v_lift (fun p e s m args below meth c R H locs cells slots Q' la hx hb ho ht hok hL k => lv_lconst hx hb (ssLk_ok hok hl).1 (of_decide_eq_true (ssLk_ok hok hl).2) k) kk
    · cases hs
      exact v_lift (fun p e s m args below meth c R H locs cells slots Q' la hx hb ho ht hok hL k => lv_null hx hb (ssLk_ok hok hl).1 k) kk
    · split at hs <;> cases hs
      rename_i hg
      exact v_lift (fun p e s m args below meth c R H locs cells slots Q' la hx hb ho ht hok hL k => lv_iload hx hb (ssLk_ok hok hl).1 (ssL_get hL hg) k) kk
    · split at hs <;> cases hs
      rename_i hg
      exact v_lift (fun p e s m args below meth c R H locs cells slots Q' la hx hb ho ht hok hL k => lv_iload_n hx hb (ssLk_ok hok hl).1 rfl (ssL_get hL hg) k) kk
    · split at hs <;> cases hs
      rename_i hg
      exact v_lift (fun p e s m args below meth c R H locs cells slots Q' la hx hb ho ht hok hL k => lv_lload hx hb (ssLk_ok hok hl).1 (ssL_get hL hg) k) kk
    · split at hs <;> cases hs
      rename_i hg
      exact v_lift (fun p e s m args below meth c R H locs cells slots Q' la hx hb ho ht hok hL k => lv_lload_n hx hb (ssLk_ok hok hl).1 rfl (ssL_get hL hg) k) kk
    · split at hs <;> cases hs
      · rename_i hg
        exact v_lift (fun p e s m args below meth c R H locs cells slots Q' la hx hb ho ht hok hL k => lv_aload hx hb (ssLk_ok hok hl).1 (ssL_get hL hg) k) kk
      · rename_i hg
        exact v_lift (fun p e s m args below meth c R H locs cells slots Q' la hx hb ho ht hok hL k => lv_aloadN hx hb (ssLk_ok hok hl).1 (ssL_get hL hg) k) kk
    · split at hs <;> cases hs
      · rename_i hg
        exact v_lift (fun p e s m args below meth c R H locs cells slots Q' la hx hb ho ht hok hL k => lv_aload_n hx hb (ssLk_ok hok hl).1 rfl (ssL_get hL hg) k) kk
      · rename_i hg
        exact v_lift (fun p e s m args below meth c R H locs cells slots Q' la hx hb ho ht hok hL k => lv_aload_nN hx hb (ssLk_ok hok hl).1 rfl (ssL_get hL hg) k) kk
    · split at hs <;> cases hs
      rename_i hn
      exact v_liftL (fun p e s m args below meth c R H locs cells slots Q' la hx hb hok hL k => lv_istore hx hb (ssLk_ok hok hl).1 hL hn rfl (fun la' hl' => k la' (ssL_st1 hl'))) kk
    · split at hs <;> cases hs
      rename_i hn
      exact v_liftL (fun p e s m args below meth c R H locs cells slots Q' la hx hb hok hL k => lv_istore_n hx hb (ssLk_ok hok hl).1 rfl hL hn rfl (fun la' hl' => k la' (ssL_st1 hl'))) kk
    · split at hs <;> cases hs
      rename_i hn
      exact v_liftL (fun p e s m args below meth c R H locs cells slots Q' la hx hb hok hL k => lv_lstore hx hb (ssLk_ok hok hl).1 hL hn rfl (fun la' hl' => k la' (ssL_st2 hl'))) kk
    · split at hs <;> cases hs
      rename_i hn
      exact v_liftL (fun p e s m args below meth c R H locs cells slots Q' la hx hb hok hL k => lv_lstore_n hx hb (ssLk_ok hok hl).1 rfl hL hn rfl (fun la' hl' => k la' (ssL_st2 hl'))) kk
    · split at hs <;> cases hs
      rename_i hn
      exact v_liftL (fun p e s m args below meth c R H locs cells slots Q' la hx hb hok hL k => lv_astore hx hb (ssLk_ok hok hl).1 hL hn rfl (fun la' hl' => k la' (ssL_st1 hl'))) kk
    · split at hs <;> cases hs
      rename_i hn
      exact v_liftL (fun p e s m args below meth c R H locs cells slots Q' la hx hb hok hL k => lv_astore_n hx hb (ssLk_ok hok hl).1 rfl hL hn rfl (fun la' hl' => k la' (ssL_st1 hl'))) kk
    · split at hs
      · split at hs <;> cases hs
        rename_i x y hg hn
        exact v_liftL (fun p e s m args below meth c R H locs cells slots Q' la hx hb hok hL k => by
          obtain ⟨k0, hk0⟩ := List.getElem?_of_mem ((prs_mem ls 0 _ _).mpr ⟨_, (Nat.zero_add _).symm, hg⟩)
          exact lv_iinc hx hb (ssLk_ok hok hl).1 hL hk0 (by rw [of_decide_eq_true (ssLk_ok hok hl).2]) hn rfl (fun la' hl' => k la' (ssL_st1 hl'))) kk
      · cases hs
    · cases hs
      exact v_lift (fun p e s m args below meth c R H locs cells slots Q' la hx hb ho ht hok hL k => lv_iadd hx hb (ssLk_ok hok hl).1 k) kk
    · cases hs
      exact v_lift (fun p e s m args below meth c R H locs cells slots Q' la hx hb ho ht hok hL k => lv_isub hx hb (ssLk_ok hok hl).1 k) kk
    · cases hs
      exact v_lift (fun p e s m args below meth c R H locs cells slots Q' la hx hb ho ht hok hL k => lv_imul hx hb (ssLk_ok hok hl).1 k) kk
    · cases hs
      exact v_lift (fun p e s m args below meth c R H locs cells slots Q' la hx hb ho ht hok hL k => lv_iand hx hb (ssLk_ok hok hl).1 k) kk
    · cases hs
      exact v_lift (fun p e s m args below meth c R H locs cells slots Q' la hx hb ho ht hok hL k => lv_ior hx hb (ssLk_ok hok hl).1 k) kk
    · cases hs
      exact v_lift (fun p e s m args below meth c R H locs cells slots Q' la hx hb ho ht hok hL k => lv_ixor hx hb (ssLk_ok hok hl).1 k) kk
    · cases hs
      exact v_lift (fun p e s m args below meth c R H locs cells slots Q' la hx hb ho ht hok hL k => lv_ineg hx hb (ssLk_ok hok hl).1 k) kk
    · cases hs
      exact v_lift (fun p e s m args below meth c R H locs cells slots Q' la hx hb ho ht hok hL k => lv_ishl hx hb (ssLk_ok hok hl).1 k) kk
    · cases hs
      exact v_lift (fun p e s m args below meth c R H locs cells slots Q' la hx hb ho ht hok hL k => lv_ishr hx hb (ssLk_ok hok hl).1 k) kk
    · cases hs
      exact v_lift (fun p e s m args below meth c R H locs cells slots Q' la hx hb ho ht hok hL k => lv_iushr hx hb (ssLk_ok hok hl).1 rfl k) kk
    · cases hs
      exact v_lift (fun p e s m args below meth c R H locs cells slots Q' la hx hb ho ht hok hL k => lv_ladd hx hb (ssLk_ok hok hl).1 k) kk
    · cases hs
      exact v_lift (fun p e s m args below meth c R H locs cells slots Q' la hx hb ho ht hok hL k => lv_lsub hx hb (ssLk_ok hok hl).1 k) kk
    · cases hs
      exact v_lift (fun p e s m args below meth c R H locs cells slots Q' la hx hb ho ht hok hL k => lv_lmul hx hb (ssLk_ok hok hl).1 k) kk
    · cases hs
      exact v_lift (fun p e s m args below meth c R H locs cells slots Q' la hx hb ho ht hok hL k => lv_lor hx hb (ssLk_ok hok hl).1 k) kk
    · cases hs
      exact v_lift (fun p e s m args below meth c R H locs cells slots Q' la hx hb ho ht hok hL k => lv_lshl hx hb (ssLk_ok hok hl).1 rfl k) kk
    · cases hs
      exact v_lift (fun p e s m args below meth c R H locs cells slots Q' la hx hb ho ht hok hL k => W.lcmp hx hb (ssLk_ok hok hl).1 k) kk
    · cases hs
      exact v_lift (fun p e s m args below meth c R H locs cells slots Q' la hx hb ho ht hok hL k => lv_i2l hx hb (ssLk_ok hok hl).1 rfl k) kk
    · cases hs
      exact v_lift (fun p e s m args below meth c R H locs cells slots Q' la hx hb ho ht hok hL k => lv_l2i hx hb (ssLk_ok hok hl).1 rfl k) kk
    · cases hs
      exact v_lift (fun p e s m args below meth c R H locs cells slots Q' la hx hb ho ht hok hL k => lv_i2b hx hb (ssLk_ok hok hl).1 rfl k) kk
    · cases hs
      exact v_lift (fun p e s m args below meth c R H locs cells slots Q' la hx hb ho ht hok hL k => lv_dup hx hb (ssLk_ok hok hl).1 rfl k) kk
    · cases hs
      exact v_lift (fun p e s m args below meth c R H locs cells slots Q' la hx hb ho ht hok hL k => lv_dup hx hb (ssLk_ok hok hl).1 rfl k) kk
    · cases hs
      exact v_lift (fun p e s m args below meth c R H locs cells slots Q' la hx hb ho ht hok hL k => lv_dup2_11 hx hb (ssLk_ok hok hl).1 rfl rfl k) kk
    · cases hs
      exact v_lift (fun p e s m args below meth c R H locs cells slots Q' la hx hb ho ht hok hL k => lv_pop hx hb (ssLk_ok hok hl).1 rfl k) kk
    · cases hs
      exact v_lift (fun p e s m args below meth c R H locs cells slots Q' la hx hb ho ht hok hL k => lv_dup_x1 hx hb (ssLk_ok hok hl).1 rfl rfl k) kk
    · cases hs
      exact v_lift (fun p e s m args below meth c R H locs cells slots Q' la hx hb ho ht hok hL k => lv_dup_x2 hx hb (ssLk_ok hok hl).1 rfl rfl rfl k) kk
    · split at hs <;> cases hs
      exact v_lift (fun p e s m args below meth c R H locs cells slots Q' la hx hb ho ht hok hL k => lv_goto hx hb (ssLk_ok hok hl).1 (of_decide_eq_true (ssLk_ok hok hl).2) k) kk
    · cases hs
      exact v_lift (fun p e s m args below meth c R H locs cells slots Q' la hx hb ho ht hok hL k => lv_ifnull hx hb (ssLk_ok hok hl).1 k) kk
    · split at hs <;> cases hs
      exact v_lift (fun p e s m args below meth c R H locs cells slots Q' la hx hb ho ht hok hL k => lv_ifnullN hx hb (ssLk_ok hok hl).1 (of_decide_eq_true (ssLk_ok hok hl).2) k) kk
    · cases hs
      exact v_lift (fun p e s m args below meth c R H locs cells slots Q' la hx hb ho ht hok hL k => lv_ifnonnullN hx hb (ssLk_ok hok hl).1 k) kk
    · split at hs <;> cases hs
      exact v_lift (fun p e s m args below meth c R H locs cells slots Q' la hx hb ho ht hok hL k => lv_ifnonnull hx hb (ssLk_ok hok hl).1 (of_decide_eq_true (ssLk_ok hok hl).2) k) kk
    · split at hs <;> cases hs
      exact v_lift (fun p e s m args below meth c R H locs cells slots Q' la hx hb ho ht hok hL k => lv_ldc hx hb ho (ht _ (inT_mem (ssLk_ok hok hl).2)) (ssLk_ok hok hl).1 k) kk
    · split at hs <;> cases hs
      exact v_lift (fun p e s m args below meth c R H locs cells slots Q' la hx hb ho ht hok hL k => lv_ldcw hx hb ho (ht _ (inT_mem (ssLk_ok hok hl).2)) (ssLk_ok hok hl).1 k) kk
    · split at hs <;> cases hs
      exact v_lift (fun p e s m args below meth c R H locs cells slots Q' la hx hb ho ht hok hL k => lv_ldc2 hx hb ho (ht _ (inT_mem (ssLk_ok hok hl).2)) (ssLk_ok hok hl).1 k) kk
    · cases hs
end SSB
end
section
def tyOf (ci k : Nat) : FieldType := match ci with
  | 0 => tyX0 k
  | 1 => tyX1 k
  | 2 => tyX2 k
  | 3 => tyX3 k
  | 4 => tyX4 k
  | 5 => tyX5 k
  | 6 => tyX6 k
  | 7 => tyX7 k
  | 8 => tyX8 k
  | 9 => tyX9 k
  | _ => tyX10 k
set_option maxRecDepth 100000 in
theorem inX0 : ∀ w ∈ u_ws RX0 TX0 4, w ∈ ssTbl := by
  have h : (List.range 4).all (fun k => inT (([477, 479, 481, 483] : List Nat).getD k 0) (u_lay RX0 TX0 k)) = true := by decide +kernel
  intro w hw
  obtain ⟨k, hk, rfl⟩ := List.mem_map.mp hw
  exact inT_mem (List.all_eq_true.mp h k hk)
set_option maxRecDepth 100000 in
theorem inI0 : inT 465 (.instantiable RX0 4) = true := by decide +kernel
set_option maxRecDepth 100000 in
theorem inN0 : inT 121 (.initialized RX0) = true := by decide +kernel
set_option maxRecDepth 100000 in
theorem inX1 : ∀ w ∈ u_ws RX1 TX1 9, w ∈ ssTbl := by
  have h : (List.range 9).all (fun k => inT (([445, 447, 449, 451, 453, 455, 457, 459, 461] : List Nat).getD k 0) (u_lay RX1 TX1 k)) = true := by decide +kernel
  intro w hw
  obtain ⟨k, hk, rfl⟩ := List.mem_map.mp hw
  exact inT_mem (List.all_eq_true.mp h k hk)
set_option maxRecDepth 100000 in
theorem inI1 : inT 427 (.instantiable RX1 9) = true := by decide +kernel
set_option maxRecDepth 100000 in
theorem inN1 : inT 120 (.initialized RX1) = true := by decide +kernel
set_option maxRecDepth 100000 in
theorem inX2 : ∀ w ∈ u_ws RX2 TX2 7, w ∈ ssTbl := by
  have h : (List.range 7).all (fun k => inT (([242, 244, 246, 248, 250, 252, 254] : List Nat).getD k 0) (u_lay RX2 TX2 k)) = true := by decide +kernel
  intro w hw
  obtain ⟨k, hk, rfl⟩ := List.mem_map.mp hw
  exact inT_mem (List.all_eq_true.mp h k hk)
set_option maxRecDepth 100000 in
theorem inI2 : inT 210 (.instantiable RX2 7) = true := by decide +kernel
set_option maxRecDepth 100000 in
theorem inN2 : inT 117 (.initialized RX2) = true := by decide +kernel
set_option maxRecDepth 100000 in
theorem inX3 : ∀ w ∈ u_ws RX3 TX3 11, w ∈ ssTbl := by
  have h : (List.range 11).all (fun k => inT (([366, 368, 370, 372, 374, 376, 378, 380, 382, 384, 386] : List Nat).getD k 0) (u_lay RX3 TX3 k)) = true := by decide +kernel
  intro w hw
  obtain ⟨k, hk, rfl⟩ := List.mem_map.mp hw
  exact inT_mem (List.all_eq_true.mp h k hk)
set_option maxRecDepth 100000 in
theorem inI3 : inT 144 (.instantiable RX3 11) = true := by decide +kernel
set_option maxRecDepth 100000 in
theorem inN3 : inT 114 (.initialized RX3) = true := by decide +kernel
set_option maxRecDepth 100000 in
theorem inX4 : ∀ w ∈ u_ws RX4 TX4 17, w ∈ ssTbl := by
  have h : (List.range 17).all (fun k => inT (([317, 319, 321, 323, 325, 327, 329, 331, 333, 335, 337, 339, 341, 343, 345, 347, 349] : List Nat).getD k 0) (u_lay RX4 TX4 k)) = true := by decide +kernel
  intro w hw
  obtain ⟨k, hk, rfl⟩ := List.mem_map.mp hw
  exact inT_mem (List.all_eq_true.mp h k hk)
set_option maxRecDepth 100000 in
theorem inI4 : inT 204 (.instantiable RX4 17) = true := by decide +kernel
set_option maxRecDepth 100000 in
theorem inN4 : inT 116 (.initialized RX4) = true := by decide +kernel
set_option maxRecDepth 100000 in
theorem inX5 : ∀ w ∈ u_ws RX5 TX5 13, w ∈ ssTbl := by
  have h : (List.range 13).all (fun k => inT (([173, 175, 177, 179, 181, 183, 185, 187, 189, 191, 193, 195, 197] : List Nat).getD k 0) (u_lay RX5 TX5 k)) = true := by decide +kernel
  intro w hw
  obtain ⟨k, hk, rfl⟩ := List.mem_map.mp hw
  exact inT_mem (List.all_eq_true.mp h k hk)
set_option maxRecDepth 100000 in
theorem inI5 : inT 150 (.instantiable RX5 13) = true := by decide +kernel
set_option maxRecDepth 100000 in
theorem inN5 : inT 115 (.initialized RX5) = true := by decide +kernel
set_option maxRecDepth 100000 in
theorem inX6 : ∀ w ∈ u_ws RX6 TX6 1, w ∈ ssTbl := by
  have h : (List.range 1).all (fun k => inT (([423] : List Nat).getD k 0) (u_lay RX6 TX6 k)) = true := by decide +kernel
  intro w hw
  obtain ⟨k, hk, rfl⟩ := List.mem_map.mp hw
  exact inT_mem (List.all_eq_true.mp h k hk)
set_option maxRecDepth 100000 in
theorem inI6 : inT 414 (.instantiable RX6 1) = true := by decide +kernel
set_option maxRecDepth 100000 in
theorem inN6 : inT 119 (.initialized RX6) = true := by decide +kernel
set_option maxRecDepth 100000 in
theorem inX7 : ∀ w ∈ u_ws RX7 TX7 3, w ∈ ssTbl := by
  have h : (List.range 3).all (fun k => inT (([406, 408, 410] : List Nat).getD k 0) (u_lay RX7 TX7 k)) = true := by decide +kernel
  intro w hw
  obtain ⟨k, hk, rfl⟩ := List.mem_map.mp hw
  exact inT_mem (List.all_eq_true.mp h k hk)
set_option maxRecDepth 100000 in
theorem inI7 : inT 394 (.instantiable RX7 3) = true := by decide +kernel
set_option maxRecDepth 100000 in
theorem inN7 : inT 118 (.initialized RX7) = true := by decide +kernel
set_option maxRecDepth 100000 in
theorem inX8 : ∀ w ∈ u_ws RX8 TX8 12, w ∈ ssTbl := by
  have h : (List.range 12).all (fun k => inT (([498, 500, 502, 504, 506, 508, 510, 512, 514, 516, 518, 520] : List Nat).getD k 0) (u_lay RX8 TX8 k)) = true := by decide +kernel
  intro w hw
  obtain ⟨k, hk, rfl⟩ := List.mem_map.mp hw
  exact inT_mem (List.all_eq_true.mp h k hk)
set_option maxRecDepth 100000 in
theorem inI8 : inT 136 (.instantiable RX8 12) = true := by decide +kernel
set_option maxRecDepth 100000 in
theorem inN8 : inT 113 (.initialized RX8) = true := by decide +kernel
set_option maxRecDepth 100000 in
theorem inX9 : ∀ w ∈ u_ws RX9 TX9 24, w ∈ ssTbl := by
  have h : (List.range 24).all (fun k => inT (([1424, 1426, 1428, 1430, 1432, 1434, 1436, 1438, 1440, 1442, 1444, 1446, 1448, 1450, 1452, 1454, 1456, 1458, 1460, 1462, 1464, 1466, 1468, 1470] : List Nat).getD k 0) (u_lay RX9 TX9 k)) = true := by decide +kernel
  intro w hw
  obtain ⟨k, hk, rfl⟩ := List.mem_map.mp hw
  exact inT_mem (List.all_eq_true.mp h k hk)
set_option maxRecDepth 100000 in
theorem inI9 : inT 1380 (.instantiable RX9 24) = true := by decide +kernel
set_option maxRecDepth 100000 in
theorem inN9 : inT 129 (.initialized RX9) = true := by decide +kernel
set_option maxRecDepth 100000 in
theorem inX10 : ∀ w ∈ u_ws RX10 TX10 29, w ∈ ssTbl := by
  have h : (List.range 29).all (fun k => inT (([1304, 1306, 1308, 1310, 1312, 1314, 1316, 1318, 1320, 1322, 1324, 1326, 1328, 1330, 1332, 1334, 1336, 1338, 1340, 1342, 1344, 1346, 1348, 1350, 1352, 1354, 1356, 1358, 1360] : List Nat).getD k 0) (u_lay RX10 TX10 k)) = true := by decide +kernel
  intro w hw
  obtain ⟨k, hk, rfl⟩ := List.mem_map.mp hw
  exact inT_mem (List.all_eq_true.mp h k hk)
set_option maxRecDepth 100000 in
theorem inI10 : inT 1270 (.instantiable RX10 29) = true := by decide +kernel
set_option maxRecDepth 100000 in
theorem inN10 : inT 122 (.initialized RX10) = true := by decide +kernel
theorem ss_cls : ∀ (ci : Nat) (r : vw_C), vwCl[ci]? = some r → (∀ w ∈ u_ws r.1 r.2.1 r.2.2, w ∈ ssTbl) ∧ (∀ k, k < r.2.2 → parseFieldDescriptor (r.2.1 k).2.2.1 = some (tyOf ci k)) ∧ (∀ a, a < r.2.2 → ∀ b, b < r.2.2 → a ≠ b → (r.2.1 a).2.1 ≠ (r.2.1 b).2.1) ∧ Cond.instantiable r.1 r.2.2 ∈ ssTbl ∧ Cond.initialized r.1 ∈ ssTbl := by
  intro ci r h
  match ci, h with
  | 0, h => cases h; exact ⟨inX0, tyX0_ok, nmX0, inT_mem inI0, inT_mem inN0⟩
  | 1, h => cases h; exact ⟨inX1, tyX1_ok, nmX1, inT_mem inI1, inT_mem inN1⟩
  | 2, h => cases h; exact ⟨inX2, tyX2_ok, nmX2, inT_mem inI2, inT_mem inN2⟩
  | 3, h => cases h; exact ⟨inX3, tyX3_ok, nmX3, inT_mem inI3, inT_mem inN3⟩
  | 4, h => cases h; exact ⟨inX4, tyX4_ok, nmX4, inT_mem inI4, inT_mem inN4⟩
  | 5, h => cases h; exact ⟨inX5, tyX5_ok, nmX5, inT_mem inI5, inT_mem inN5⟩
  | 6, h => cases h; exact ⟨inX6, tyX6_ok, nmX6, inT_mem inI6, inT_mem inN6⟩
  | 7, h => cases h; exact ⟨inX7, tyX7_ok, nmX7, inT_mem inI7, inT_mem inN7⟩
  | 8, h => cases h; exact ⟨inX8, tyX8_ok, nmX8, inT_mem inI8, inT_mem inN8⟩
  | 9, h => cases h; exact ⟨inX9, tyX9_ok, nmX9, inT_mem inI9, inT_mem inN9⟩
  | 10, h => cases h; exact ⟨inX10, tyX10_ok, nmX10, inT_mem inI10, inT_mem inN10⟩
  | n + 11, h => simp [vwCl] at h
set_option maxRecDepth 100000 in
theorem inAI : inT 201 (.arrayClass .int) = true := by decide +kernel
set_option maxRecDepth 100000 in
theorem inAB : inT 200 (.arrayClass .byte) = true := by decide +kernel
set_option maxRecDepth 100000 in
theorem inAJ : inT 202 (.arrayClass .long) = true := by decide +kernel
set_option maxRecDepth 100000 in
theorem inOI : inT 141 (.instanceMethod objectInit) = true := by decide +kernel
set_option maxRecDepth 100000 in
theorem inOC : inT 142 (.code objectInit ⟨#[0xb1]⟩ 1 none) = true := by decide +kernel
set_option maxRecDepth 100000 in
theorem inMS : inT 782 (.static Lib.Math.max.name) = true := by decide +kernel
set_option maxRecDepth 100000 in
theorem inMI : inT 123 (.initialized "java/lang/Math") = true := by decide +kernel
set_option maxRecDepth 100000 in
theorem inMC : inT 783 (.code Lib.Math.max.name Lib.Math.max.code 2 (some .int)) = true := by decide +kernel
set_option maxRecDepth 100000 in
theorem inmS : inT 555 (.static Lib.Math.min.name) = true := by decide +kernel
set_option maxRecDepth 100000 in
theorem inmC : inT 556 (.code Lib.Math.min.name Lib.Math.min.code 2 (some .int)) = true := by decide +kernel
set_option maxRecDepth 100000 in
theorem inCN : inT 740 (.native arraycopyName) = true := by decide +kernel
set_option maxRecDepth 100000 in
theorem inCS : inT 739 (.static arraycopyName) = true := by decide +kernel
set_option maxRecDepth 100000 in
theorem inCI : inT 128 (.initialized "java/lang/System") = true := by decide +kernel
end
section
section SSC
variable {G : ssG} {M : ssM} {D mc ms : Nat} {Q : Option Value → ssH → Prop} {pc pc' : Nat} {ls ls' : List (Option Value)} {st st' : List Value} {h : ssH} {r0 : List Nat} {v0 : Value}
def srun (M : ssM) : Nat → Nat → List (Option Value) → List Value → Option (Nat × List (Option Value) × List Value)
  | 0, pc, ls, st => some (pc, ls, st)
  | n + 1, pc, ls, st => match sst M pc ls st with
    | some (a, b, c) => srun M n a b c
    | none => none
theorem v_run (n : Nat) (hs : srun M n pc ls st = some (pc', ls', st')) (kk : ssV G M D mc ms Q pc' ls' st' h) : ssV G M D mc ms Q pc ls st h := by
  induction n generalizing pc ls st with
  | zero => simp only [srun, Option.some.injEq, Prod.mk.injEq] at hs; obtain ⟨rfl, rfl, rfl⟩ := hs; exact kk
  | succ n ih =>
    simp only [srun] at hs
    split at hs
    · rename_i a b c hq
      exact sst_ok hq (ih hs)
    · cases hs
theorem v_mono {D' mc' ms' : Nat} (hD : D' ≤ D) (hm : mc' ≤ mc) (hs : ms' ≤ ms) (kk : ssV G M D' mc' ms' Q pc ls st h) : ssV G M D mc ms Q pc ls st h := by
  intro p e s m args below meth c R H locs cells slots MC MS la hC hR hW hS hL
  exact kk p e s m args below meth c R H locs cells slots MC MS la hC ⟨by omega, by omega, by omega, by omega, by omega, by omega⟩ hW hS hL
theorem v_forget {ls2 : List (Option Value)} (hs : ∀ q ∈ prs ls2 0, q ∈ prs ls 0) (kk : ssV G M D mc ms Q pc ls2 st h) : ssV G M D mc ms Q pc ls st h := by
  intro p e s m args below meth c R H locs cells slots MC MS la hC hR hW hS hL
  exact kk p e s m args below meth c R H locs cells slots MC MS la hC hR hW hS (lv_fewer hL hs)
/-- the returns -/
theorem v_iret {ty : FieldType} {x : Int32} (hl : ssLk M pc = some (.ireturn, 1, r0, v0)) (hr : ssRet M = some ty) (hn : narrow ty (.int x) = .int x) (hq : Q (some (.int x)) h) : ssV G M D mc ms Q pc ls [.int x] h := by
  intro p e s m args below meth c R H locs cells slots MC MS la hC hR hW hS hL
  obtain ⟨hx, hb, hrt, -, -, -, hlocks, -, -, -, -, hok⟩ := hC
  refine W.widen (k := MC) (n := MS) (by omega) (by omega) ?_
  exact W.zret hx hb (hrt.trans hr) hn (fun t ht _ => ⟨⟨_, h, rfl, hq, by rw [ht]; exact hW⟩, hS.F ht⟩) hS.2.2 (ssLk_ok hok hl).1 hlocks
theorem v_lret {x : Int64} (hl : ssLk M pc = some (.lreturn, 1, r0, v0)) (hr : ssRet M = some .long) (hq : Q (some (.long x)) h) : ssV G M D mc ms Q pc ls [.long x] h := by
  intro p e s m args below meth c R H locs cells slots MC MS la hC hR hW hS hL
  obtain ⟨hx, hb, hrt, -, -, -, hlocks, -, -, -, -, hok⟩ := hC
  refine W.widen (k := MC) (n := MS) (by omega) (by omega) ?_
  exact W.lret hx hb (hrt.trans hr) (fun t ht _ => ⟨⟨_, h, rfl, hq, by rw [ht]; exact hW⟩, hS.F ht⟩) hS.2.2 (ssLk_ok hok hl).1 hlocks
theorem v_aret {ty : String} {x : Nat} (hl : ssLk M pc = some (.areturn, 1, r0, v0)) (hr : ssRet M = some (.object ty)) (hq : Q (some (.ref x)) h) : ssV G M D mc ms Q pc ls [.ref x] h := by
  intro p e s m args below meth c R H locs cells slots MC MS la hC hR hW hS hL
  obtain ⟨hx, hb, hrt, -, -, -, hlocks, -, -, -, -, hok⟩ := hC
  refine W.widen (k := MC) (n := MS) (by omega) (by omega) ?_
  exact W.aret hx hb (hrt.trans hr) (Or.inl ⟨_, rfl⟩) (Or.inr ⟨_, rfl⟩) (fun t ht _ => ⟨⟨_, h, rfl, hq, by rw [ht]; exact hW⟩, hS.F ht⟩) hS.2.2 (ssLk_ok hok hl).1 hlocks
theorem v_vret (hl : ssLk M pc = some (.return_, 1, r0, v0)) (hr : ssRet M = none) (hq : Q none h) : ssV G M D mc ms Q pc ls [] h := by
  intro p e s m args below meth c R H locs cells slots MC MS la hC hR hW hS hL
  obtain ⟨hx, hb, hrt, -, -, -, hlocks, -, -, -, -, hok⟩ := hC
  refine W.widen (k := MC) (n := MS) (by omega) (by omega) ?_
  exact W.vret hx hb (hrt.trans hr) (fun t ht _ => ⟨⟨_, h, rfl, hq, by rw [ht]; exact hW⟩, hS.F ht⟩) hS.2.2 (ssLk_ok hok hl).1 hlocks
theorem v_icmp_eq {x y : Int32} {off : Int} {t : Nat} (hl : ssLk M pc = some (.if_icmp .eq off, 3, [t], v0)) (kt : x = y → ssV G M D mc ms Q t ls st h) (kf : ¬ x = y → ssV G M D mc ms Q (pc + 3) ls st h) : ssV G M D mc ms Q pc ls (.int y :: .int x :: st) h := by
  intro p e s m args below meth c R H locs cells slots MC MS la hC hR hW hS hL
  have hok := hC.2.2.2.2.2.2.2.2.2.2.2
  exact lv_icmp_eq hC.1 hC.2.1 (ssLk_ok hok hl).1 (of_decide_eq_true (ssLk_ok hok hl).2) (fun q => kt q p e s m args below meth c R H locs cells slots MC MS la hC hR hW hS hL) (fun q => kf q p e s m args below meth c R H locs cells slots MC MS la hC hR hW hS hL)
theorem v_if_eq {x : Int32} {off : Int} {t : Nat} (hl : ssLk M pc = some (.ifCond .eq off, 3, [t], v0)) (kt : x = 0 → ssV G M D mc ms Q t ls st h) (kf : ¬ x = 0 → ssV G M D mc ms Q (pc + 3) ls st h) : ssV G M D mc ms Q pc ls (.int x :: st) h := by
  intro p e s m args below meth c R H locs cells slots MC MS la hC hR hW hS hL
  have hok := hC.2.2.2.2.2.2.2.2.2.2.2
  exact lv_if_eq hC.1 hC.2.1 (ssLk_ok hok hl).1 (of_decide_eq_true (ssLk_ok hok hl).2) (fun q => kt q p e s m args below meth c R H locs cells slots MC MS la hC hR hW hS hL) (fun q => kf q p e s m args below meth c R H locs cells slots MC MS la hC hR hW hS hL)
theorem v_icmp_ne {x y : Int32} {off : Int} {t : Nat} (hl : ssLk M pc = some (.if_icmp .ne off, 3, [t], v0)) (kt : ¬ x = y → ssV G M D mc ms Q t ls st h) (kf : x = y → ssV G M D mc ms Q (pc + 3) ls st h) : ssV G M D mc ms Q pc ls (.int y :: .int x :: st) h := by
  intro p e s m args below meth c R H locs cells slots MC MS la hC hR hW hS hL
  have hok := hC.2.2.2.2.2.2.2.2.2.2.2
  exact lv_icmp_ne hC.1 hC.2.1 (ssLk_ok hok hl).1 (of_decide_eq_true (ssLk_ok hok hl).2) (fun q => kt q p e s m args below meth c R H locs cells slots MC MS la hC hR hW hS hL) (fun q => kf q p e s m args below meth c R H locs cells slots MC MS la hC hR hW hS hL)
theorem v_if_ne {x : Int32} {off : Int} {t : Nat} (hl : ssLk M pc = some (.ifCond .ne off, 3, [t], v0)) (kt : ¬ x = 0 → ssV G M D mc ms Q t ls st h) (kf : x = 0 → ssV G M D mc ms Q (pc + 3) ls st h) : ssV G M D mc ms Q pc ls (.int x :: st) h := by
  intro p e s m args below meth c R H locs cells slots MC MS la hC hR hW hS hL
  have hok := hC.2.2.2.2.2.2.2.2.2.2.2
  exact lv_if_ne hC.1 hC.2.1 (ssLk_ok hok hl).1 (of_decide_eq_true (ssLk_ok hok hl).2) (fun q => kt q p e s m args below meth c R H locs cells slots MC MS la hC hR hW hS hL) (fun q => kf q p e s m args below meth c R H locs cells slots MC MS la hC hR hW hS hL)
theorem v_icmp_lt {x y : Int32} {off : Int} {t : Nat} (hl : ssLk M pc = some (.if_icmp .lt off, 3, [t], v0)) (kt : x < y → ssV G M D mc ms Q t ls st h) (kf : ¬ x < y → ssV G M D mc ms Q (pc + 3) ls st h) : ssV G M D mc ms Q pc ls (.int y :: .int x :: st) h := by
  intro p e s m args below meth c R H locs cells slots MC MS la hC hR hW hS hL
  have hok := hC.2.2.2.2.2.2.2.2.2.2.2
  exact lv_icmp_lt hC.1 hC.2.1 (ssLk_ok hok hl).1 (of_decide_eq_true (ssLk_ok hok hl).2) (fun q => kt q p e s m args below meth c R H locs cells slots MC MS la hC hR hW hS hL) (fun q => kf q p e s m args below meth c R H locs cells slots MC MS la hC hR hW hS hL)
theorem v_if_lt {x : Int32} {off : Int} {t : Nat} (hl : ssLk M pc = some (.ifCond .lt off, 3, [t], v0)) (kt : x < 0 → ssV G M D mc ms Q t ls st h) (kf : ¬ x < 0 → ssV G M D mc ms Q (pc + 3) ls st h) : ssV G M D mc ms Q pc ls (.int x :: st) h := by
  intro p e s m args below meth c R H locs cells slots MC MS la hC hR hW hS hL
  have hok := hC.2.2.2.2.2.2.2.2.2.2.2
  exact lv_if_lt hC.1 hC.2.1 (ssLk_ok hok hl).1 (of_decide_eq_true (ssLk_ok hok hl).2) (fun q => kt q p e s m args below meth c R H locs cells slots MC MS la hC hR hW hS hL) (fun q => kf q p e s m args below meth c R H locs cells slots MC MS la hC hR hW hS hL)
theorem v_icmp_ge {x y : Int32} {off : Int} {t : Nat} (hl : ssLk M pc = some (.if_icmp .ge off, 3, [t], v0)) (kt : y ≤ x → ssV G M D mc ms Q t ls st h) (kf : ¬ y ≤ x → ssV G M D mc ms Q (pc + 3) ls st h) : ssV G M D mc ms Q pc ls (.int y :: .int x :: st) h := by
  intro p e s m args below meth c R H locs cells slots MC MS la hC hR hW hS hL
  have hok := hC.2.2.2.2.2.2.2.2.2.2.2
  exact lv_icmp_ge hC.1 hC.2.1 (ssLk_ok hok hl).1 (of_decide_eq_true (ssLk_ok hok hl).2) (fun q => kt q p e s m args below meth c R H locs cells slots MC MS la hC hR hW hS hL) (fun q => kf q p e s m args below meth c R H locs cells slots MC MS la hC hR hW hS hL)
theorem v_if_ge {x : Int32} {off : Int} {t : Nat} (hl : ssLk M pc = some (.ifCond .ge off, 3, [t], v0)) (kt : 0 ≤ x → ssV G M D mc ms Q t ls st h) (kf : ¬ 0 ≤ x → ssV G M D mc ms Q (pc + 3) ls st h) : ssV G M D mc ms Q pc ls (.int x :: st) h := by
  intro p e s m args below meth c R H locs cells slots MC MS la hC hR hW hS hL
  have hok := hC.2.2.2.2.2.2.2.2.2.2.2
  exact lv_if_ge hC.1 hC.2.1 (ssLk_ok hok hl).1 (of_decide_eq_true (ssLk_ok hok hl).2) (fun q => kt q p e s m args below meth c R H locs cells slots MC MS la hC hR hW hS hL) (fun q => kf q p e s m args below meth c R H locs cells slots MC MS la hC hR hW hS hL)
theorem v_icmp_gt {x y : Int32} {off : Int} {t : Nat} (hl : ssLk M pc = some (.if_icmp .gt off, 3, [t], v0)) (kt : y < x → ssV G M D mc ms Q t ls st h) (kf : ¬ y < x → ssV G M D mc ms Q (pc + 3) ls st h) : ssV G M D mc ms Q pc ls (.int y :: .int x :: st) h := by
  intro p e s m args below meth c R H locs cells slots MC MS la hC hR hW hS hL
  have hok := hC.2.2.2.2.2.2.2.2.2.2.2
  exact lv_icmp_gt hC.1 hC.2.1 (ssLk_ok hok hl).1 (of_decide_eq_true (ssLk_ok hok hl).2) (fun q => kt q p e s m args below meth c R H locs cells slots MC MS la hC hR hW hS hL) (fun q => kf q p e s m args below meth c R H locs cells slots MC MS la hC hR hW hS hL)
theorem v_if_gt {x : Int32} {off : Int} {t : Nat} (hl : ssLk M pc = some (.ifCond .gt off, 3, [t], v0)) (kt : 0 < x → ssV G M D mc ms Q t ls st h) (kf : ¬ 0 < x → ssV G M D mc ms Q (pc + 3) ls st h) : ssV G M D mc ms Q pc ls (.int x :: st) h := by
  intro p e s m args below meth c R H locs cells slots MC MS la hC hR hW hS hL
  have hok := hC.2.2.2.2.2.2.2.2.2.2.2
  exact lv_if_gt hC.1 hC.2.1 (ssLk_ok hok hl).1 (of_decide_eq_true (ssLk_ok hok hl).2) (fun q => kt q p e s m args below meth c R H locs cells slots MC MS la hC hR hW hS hL) (fun q => kf q p e s m args below meth c R H locs cells slots MC MS la hC hR hW hS hL)
theorem v_icmp_le {x y : Int32} {off : Int} {t : Nat} (hl : ssLk M pc = some (.if_icmp .le off, 3, [t], v0)) (kt : x ≤ y → ssV G M D mc ms Q t ls st h) (kf : ¬ x ≤ y → ssV G M D mc ms Q (pc + 3) ls st h) : ssV G M D mc ms Q pc ls (.int y :: .int x :: st) h := by
  intro p e s m args below meth c R H locs cells slots MC MS la hC hR hW hS hL
  have hok := hC.2.2.2.2.2.2.2.2.2.2.2
  exact lv_icmp_le hC.1 hC.2.1 (ssLk_ok hok hl).1 (of_decide_eq_true (ssLk_ok hok hl).2) (fun q => kt q p e s m args below meth c R H locs cells slots MC MS la hC hR hW hS hL) (fun q => kf q p e s m args below meth c R H locs cells slots MC MS la hC hR hW hS hL)
theorem v_if_le {x : Int32} {off : Int} {t : Nat} (hl : ssLk M pc = some (.ifCond .le off, 3, [t], v0)) (kt : x ≤ 0 → ssV G M D mc ms Q t ls st h) (kf : ¬ x ≤ 0 → ssV G M D mc ms Q (pc + 3) ls st h) : ssV G M D mc ms Q pc ls (.int x :: st) h := by
  intro p e s m args below meth c R H locs cells slots MC MS la hC hR hW hS hL
  have hok := hC.2.2.2.2.2.2.2.2.2.2.2
  exact lv_if_le hC.1 hC.2.1 (ssLk_ok hok hl).1 (of_decide_eq_true (ssLk_ok hok hl).2) (fun q => kt q p e s m args below meth c R H locs cells slots MC MS la hC hR hW hS hL) (fun q => kf q p e s m args below meth c R H locs cells slots MC MS la hC hR hW hS hL)
theorem v_idiv {x y : Int32} (hl : ssLk M pc = some (.idiv, 1, r0, v0)) (hne : ¬ y = 0) (kk : ssV G M D mc ms Q (pc + 1) ls (.int (x / y) :: st) h) : ssV G M D mc ms Q pc ls (.int y :: .int x :: st) h :=
  v_lift (fun p e s m args below meth c R H locs cells slots Q' la hx hb ho ht hok hL k => lv_idiv hx hb (ssLk_ok hok hl).1 hne k) kk
theorem v_irem {x y : Int32} (hl : ssLk M pc = some (.irem, 1, r0, v0)) (hne : ¬ y = 0) (kk : ssV G M D mc ms Q (pc + 1) ls (.int (x - x / y * y) :: st) h) : ssV G M D mc ms Q pc ls (.int y :: .int x :: st) h :=
  v_lift (fun p e s m args below meth c R H locs cells slots Q' la hx hb ho ht hok hL k => lv_irem hx hb (ssLk_ok hok hl).1 hne k) kk
theorem v_ldiv {x y : Int64} (hl : ssLk M pc = some (.ldiv, 1, r0, v0)) (hne : ¬ y = 0) (kk : ssV G M D mc ms Q (pc + 1) ls (.long (x / y) :: st) h) : ssV G M D mc ms Q pc ls (.long y :: .long x :: st) h :=
  v_lift (fun p e s m args below meth c R H locs cells slots Q' la hx hb ho ht hok hL k => lv_ldiv hx hb (ssLk_ok hok hl).1 hne k) kk
theorem v_lrem {x y : Int64} (hl : ssLk M pc = some (.lrem, 1, r0, v0)) (hne : ¬ y = 0) (kk : ssV G M D mc ms Q (pc + 1) ls (.long (x - x / y * y) :: st) h) : ssV G M D mc ms Q pc ls (.long y :: .long x :: st) h :=
  v_lift (fun p e s m args below meth c R H locs cells slots Q' la hx hb ho ht hok hL k => lv_lrem hx hb (ssLk_ok hok hl).1 hne k) kk
theorem v_tabOut {x : Int32} {dflt lo hi : Int} {offs : Array Int} {len t : Nat} (hl : ssLk M pc = some (.tableswitch dflt lo hi offs, len, r0, v0)) (hx0 : x.toInt < lo ∨ hi < x.toInt) (ht : (pc : Int) + dflt = (t : Int)) (kk : ssV G M D mc ms Q t ls st h) : ssV G M D mc ms Q pc ls (.int x :: st) h :=
  v_lift (fun p e s m args below meth c R H locs cells slots Q' la hx hb ho hts hok hL k => lv_tableOut hx hb (ssLk_ok hok hl).1 hx0 ht k) kk
theorem v_tabIn {x : Int32} {dflt lo hi off : Int} {offs : Array Int} {len t : Nat} (hl : ssLk M pc = some (.tableswitch dflt lo hi offs, len, r0, v0)) (h1 : ¬ x.toInt < lo) (h2 : ¬ hi < x.toInt) (ho : offs[(x.toInt - lo).toNat]? = some off) (ht : (pc : Int) + off = (t : Int)) (kk : ssV G M D mc ms Q t ls st h) : ssV G M D mc ms Q pc ls (.int x :: st) h :=
  v_lift (fun p e s m args below meth c R H locs cells slots Q' la hx hb ho' hts hok hL k => lv_tableIn hx hb (ssLk_ok hok hl).1 h1 h2 ho ht k) kk
theorem v_ldcS {i j : Nat} (hl : ssLk M pc = some (.ldc i, 2, [j], .null)) (kk : ssV G M D mc ms Q (pc + 2) ls (.ref (gK G j) :: st) h) : ssV G M D mc ms Q pc ls st h := by
  intro p e s m args below meth c R H locs cells slots MC MS la hC hR hW hS hL
  have hok := hC.2.2.2.2.2.2.2.2.2.2.2
  have hX := hC.2.2.2.2.2.2.2.2.2.1
  have hm := of_decide_eq_true (ssLk_ok hok hl).2
  exact va_ldcS hC.1 hC.2.1 hC.2.2.2.2.1 (hX.2.1 _ hm) (ssLk_ok hok hl).1 (kk p e s m args below meth c R H locs cells slots MC MS la hC hR hW hS hL)
/-- the heap's cells -/
theorem ssWd_set {ws : va_W} {a i : Nat} {e0 : va_E} {e : ssE} (hw : ∀ b f, h b = some f → ∃ i : Nat, ws[i]? = some (b, ce G f)) (hi : ws[i]? = some (a, e0)) (hD : va_D (gA G) ws) : ∀ b f, hset h a e b = some f → ∃ j : Nat, (ws.set i (a, ce G e))[j]? = some (b, ce G f) := by
  intro b f hb
  have hlt := (List.getElem?_eq_some_iff.mp hi).1
  by_cases hba : b = a
  · subst hba
    rw [hset_self] at hb
    cases hb
    exact ⟨i, by rw [List.getElem?_set_self hlt]⟩
  · rw [hset_ne _ _ hba] at hb
    obtain ⟨j, hj⟩ := hw b f hb
    have hij : i ≠ j := by
      intro q
      subst q
      rw [hi] at hj
      cases hj
      exact hba rfl
    exact ⟨j, by rw [List.getElem?_set_ne hij]; exact hj⟩
theorem ssWd_push {ws : va_W} {a : Nat} {e : ssE} (hw : ∀ b f, h b = some f → ∃ i : Nat, ws[i]? = some (b, ce G f)) : ∀ b f, hset h a e b = some f → ∃ j : Nat, (ws ++ [(a, ce G e)])[j]? = some (b, ce G f) := by
  intro b f hb
  by_cases hba : b = a
  · subst hba
    rw [hset_self] at hb
    cases hb
    exact ⟨ws.length, by simp⟩
  · rw [hset_ne _ _ hba] at hb
    obtain ⟨j, hj⟩ := hw b f hb
    exact ⟨j, by rw [List.getElem?_append_left (List.getElem?_eq_some_iff.mp hj).1]; exact hj⟩
theorem ssWd_fresh {ws : va_W} {a : Nat} {e : va_E} (hw : ∀ b f, h b = some f → ∃ i : Nat, ws[i]? = some (b, ce G f)) (hD : va_D (gA G) (ws ++ [(a, e)])) : h a = none := by
  cases ha : h a with
  | none => rfl
  | some f =>
    obtain ⟨i, hi⟩ := hw a f ha
    have hlt := (List.getElem?_eq_some_iff.mp hi).1
    have := hD.1 i ws.length (a, ce G f) (a, e) (by rw [List.getElem?_append_left hlt]; exact hi) (by simp) rfl
    omega
theorem v_get {a i ci k pl nst : Nat} {fs : List Value} {v : Value} (hl : ssLk M pc = some (.getfield i, 3, [ci, k, pl, nst], v0)) (he : h a = some (.inr (ci, fs))) (hv : fs[k]? = some v) (kk : ssV G M D mc ms Q (pc + 3) ls (v :: st) h) : ssV G M D mc ms Q pc ls (.ref a :: st) h := by
  intro p e s m args below meth c R H locs cells slots MC MS la hC hR hW hS hL
  have hok := hC.2.2.2.2.2.2.2.2.2.2.2
  have hX := hC.2.2.2.2.2.2.2.2.2.1
  have hK := hC.2.2.2.2.2.2.2.2.1
  have hts := hC.2.2.2.2.2.1
  have kk' := kk p e s m args below meth c R H locs cells slots MC MS la hC hR hW hS hL
  obtain ⟨hd, h2⟩ := ssLk_ok hok hl
  obtain ⟨ws, hw, hP, hD⟩ := hW
  obtain ⟨j, hj⟩ := hw a _ he
  simp only [chk2] at h2
  split at h2
  · rename_i r hr
    obtain ⟨C, T, N⟩ := r
    rw [Bool.and_eq_true] at h2
    obtain ⟨h3, h4⟩ := h2
    cases hn : Nat.beq nst 1 with
    | true =>
      rw [hn] at h4
      exact va_getN (host := "SafeSenateModel") hC.1 hC.2.1 hts (ss_cls ci _ hr).1 hC.2.2.2.2.1 hK hP j hj hr k (of_decide_eq_true h3) (va_Nw.use rfl (hX.2.2.2.2 _ (inNs_mem h4))) (fun _ q => q) hv hd kk'
    | false =>
      rw [hn] at h4
      exact va_get hC.1 hC.2.1 hts (ss_cls ci _ hr).1 hC.2.2.2.2.1 hK hP j hj hr k (of_decide_eq_true h3) (hts _ (inT_mem h4)) (fun _ q => q) hv hd kk'
  · cases h2
theorem v_put {a i ci k pl nst : Nat} {fs : List Value} {v : Value} (hl : ssLk M pc = some (.putfield i, 3, [ci, k, pl, nst], v0)) (he : h a = some (.inr (ci, fs))) (hnr : narrow (tyOf ci k) v = v) (hft : fits (tyOf ci k) v = true) (hlen : k < fs.length) (kk : ssV G M D mc ms Q (pc + 3) ls st (hset h a (.inr (ci, fs.set k v)))) : ssV G M D mc ms Q pc ls (v :: .ref a :: st) h := by
  intro p e s m args below meth c R H locs cells slots MC MS la hC hR hW hS hL
  have hok := hC.2.2.2.2.2.2.2.2.2.2.2
  have hX := hC.2.2.2.2.2.2.2.2.2.1
  have hK := hC.2.2.2.2.2.2.2.2.1
  have hts := hC.2.2.2.2.2.1
  have hnm := hC.2.2.2.2.2.2.2.1
  have kk' := fun H1 locs1 hW1 hS1 => kk p e s m args below meth c R H1 locs1 cells slots MC MS la hC hR hW1 hS1 hL
  obtain ⟨hd, h2⟩ := ssLk_ok hok hl
  obtain ⟨ws, hw, hP, hD⟩ := hW
  obtain ⟨j, hj⟩ := hw a _ he
  simp only [chk2] at h2
  split at h2
  · rename_i r hr
    obtain ⟨C, T, N⟩ := r
    rw [Bool.and_eq_true] at h2
    obtain ⟨h3, h4⟩ := h2
    have hkN := of_decide_eq_true h3
    obtain ⟨c1, c2, c3, -, -⟩ := ss_cls ci _ hr
    cases hn : Nat.beq nst 1 with
    | true =>
      rw [hn, cond_true, Bool.and_eq_true] at h4
      exact va_putN (host := "SafeSenateModel") hC.1 hC.2.1 hts c1 (tyOf ci) c2 c3 hC.2.2.2.2.1 hK hP hD hS j hj hr k hkN (va_Nw.use rfl (hX.2.2.2.2 _ (inNs_mem h4.2))) (fun _ q => q) (by simpa using h4.1) (c2 k hkN) hnr hft hlen hd
        (fun H1 locs1 q1 q2 q3 => kk' H1 locs1 ⟨_, ssWd_set hw hj hD, q1, q2⟩ q3)
    | false =>
      rw [hn, cond_false, Bool.and_eq_true] at h4
      cases hf : (T k).2.2.2 with
      | false =>
        exact va_put hC.1 hC.2.1 hts c1 (tyOf ci) c2 c3 hC.2.2.2.2.1 hK hP hD hS j hj hr k hkN (hts _ (inT_mem h4.2)) (fun _ q => q) hf (c2 k hkN) hnr hft hlen hd
          (fun H1 locs1 q1 q2 q3 => kk' H1 locs1 ⟨_, ssWd_set hw hj hD, q1, q2⟩ q3)
      | true =>
        have h5 := h4.1
        simp only [hf, Bool.not_true, Bool.false_or, Bool.and_eq_true, decide_eq_true_eq] at h5
        exact va_putF hC.1 hC.2.1 hts c1 (tyOf ci) c2 c3 hC.2.2.2.2.1 hK hP hD hS j hj hr k hkN (hts _ (inT_mem h4.2)) (fun _ q => q) hf (hnm.trans h5.1) h5.2 (c2 k hkN) hnr hft hlen hd
          (fun H1 locs1 q1 q2 q3 => kk' H1 locs1 ⟨_, ssWd_set hw hj hD, q1, q2⟩ q3)
  · cases h2
end SSC
end
section
section SSD
variable {G : ssG} {M : ssM} {D mc ms : Nat} {Q : Option Value → ssH → Prop} {pc pc' : Nat} {ls ls' : List (Option Value)} {st st' : List Value} {h : ssH} {r0 : List Nat} {v0 : Value}
theorem v_iaload {a n : Nat} {f : Nat → Int32} {i : Int32} (hl : ssLk M pc = some (.iaload, 1, r0, v0)) (he : h a = some (.inl (0, n, .inl f))) (hin : vp_in i n) (kk : ssV G M D mc ms Q (pc + 1) ls (.int (f i.toNatClampNeg) :: st) h) : ssV G M D mc ms Q pc ls (.int i :: .ref a :: st) h := by
  intro p e s m args below meth c R H locs cells slots MC MS la hC hR hW hS hL
  have hok := hC.2.2.2.2.2.2.2.2.2.2.2
  have hK := hC.2.2.2.2.2.2.2.2.1
  have kk' := kk p e s m args below meth c R H locs cells slots MC MS la hC hR hW hS hL
  obtain ⟨ws, hw, hP, hD⟩ := hW
  obtain ⟨j, hj⟩ := hw a _ he
  exact va_iald hC.1 hC.2.1 hK hP j 0 hj rfl hin (ssLk_ok hok hl).1 kk'
theorem v_baload {a n : Nat} {f : Nat → Int32} {i : Int32} (hl : ssLk M pc = some (.baload, 1, r0, v0)) (he : h a = some (.inl (1, n, .inl f))) (hin : vp_in i n) (kk : ssV G M D mc ms Q (pc + 1) ls (.int (f i.toNatClampNeg) :: st) h) : ssV G M D mc ms Q pc ls (.int i :: .ref a :: st) h := by
  intro p e s m args below meth c R H locs cells slots MC MS la hC hR hW hS hL
  have hok := hC.2.2.2.2.2.2.2.2.2.2.2
  have hK := hC.2.2.2.2.2.2.2.2.1
  have kk' := kk p e s m args below meth c R H locs cells slots MC MS la hC hR hW hS hL
  obtain ⟨ws, hw, hP, hD⟩ := hW
  obtain ⟨j, hj⟩ := hw a _ he
  exact va_bald hC.1 hC.2.1 hK hP j 1 hj rfl hin (ssLk_ok hok hl).1 kk'
theorem v_laload {a n : Nat} {f : Nat → Int64} {i : Int32} (hl : ssLk M pc = some (.laload, 1, r0, v0)) (he : h a = some (.inl (2, n, .inr (.inl f)))) (hin : vp_in i n) (kk : ssV G M D mc ms Q (pc + 1) ls (.long (f i.toNatClampNeg) :: st) h) : ssV G M D mc ms Q pc ls (.int i :: .ref a :: st) h := by
  intro p e s m args below meth c R H locs cells slots MC MS la hC hR hW hS hL
  have hok := hC.2.2.2.2.2.2.2.2.2.2.2
  have hK := hC.2.2.2.2.2.2.2.2.1
  have kk' := kk p e s m args below meth c R H locs cells slots MC MS la hC hR hW hS hL
  obtain ⟨ws, hw, hP, hD⟩ := hW
  obtain ⟨j, hj⟩ := hw a _ he
  exact va_lald hC.1 hC.2.1 hK hP j 2 hj rfl hin (ssLk_ok hok hl).1 kk'
theorem v_aaload {a n : Nat} {f : Nat → Option Nat} {i : Int32} (hl : ssLk M pc = some (.aaload, 1, r0, v0)) (he : h a = some (.inl (3, n, .inr (.inr (.inr (.inr f)))))) (hin : vp_in i n) (kk : ssV G M D mc ms Q (pc + 1) ls (va_rf (f i.toNatClampNeg) :: st) h) : ssV G M D mc ms Q pc ls (.int i :: .ref a :: st) h := by
  intro p e s m args below meth c R H locs cells slots MC MS la hC hR hW hS hL
  have hok := hC.2.2.2.2.2.2.2.2.2.2.2
  have hK := hC.2.2.2.2.2.2.2.2.1
  have kk' := kk p e s m args below meth c R H locs cells slots MC MS la hC hR hW hS hL
  obtain ⟨ws, hw, hP, hD⟩ := hW
  obtain ⟨j, hj⟩ := hw a _ he
  exact va_aldq hC.1 hC.2.1 hK hP j 3 hj rfl hin (ssLk_ok hok hl).1 kk'
theorem v_iastore {a n : Nat} {f : Nat → Int32} {i : Int32} {x : Int32} (hl : ssLk M pc = some (.iastore, 1, r0, v0)) (he : h a = some (.inl (0, n, .inl f))) (hin : vp_in i n) (kk : ssV G M D mc ms Q (pc + 1) ls st (hset h a (.inl (0, n, .inl (upd f i.toNatClampNeg x))))) : ssV G M D mc ms Q pc ls (.int x :: .int i :: .ref a :: st) h := by
  intro p e s m args below meth c R H locs cells slots MC MS la hC hR hW hS hL
  have hok := hC.2.2.2.2.2.2.2.2.2.2.2
  have hK := hC.2.2.2.2.2.2.2.2.1
  have kk' := fun H1 locs1 hW1 hS1 => kk p e s m args below meth c R H1 locs1 cells slots MC MS la hC hR hW1 hS1 hL
  obtain ⟨ws, hw, hP, hD⟩ := hW
  obtain ⟨j, hj⟩ := hw a _ he
  exact va_iast hC.1 hC.2.1 hK hP hD hS j 0 hj rfl hin (ssLk_ok hok hl).1 (fun H1 locs1 q1 q2 q3 => kk' H1 locs1 ⟨_, ssWd_set hw hj hD, q1, q2⟩ q3)
theorem v_bastore {a n : Nat} {f : Nat → Int32} {i : Int32} {x : Int32} (hl : ssLk M pc = some (.bastore, 1, r0, v0)) (he : h a = some (.inl (1, n, .inl f))) (hin : vp_in i n) (kk : ssV G M D mc ms Q (pc + 1) ls st (hset h a (.inl (1, n, .inl (upd f i.toNatClampNeg (vp_nar .byte x)))))) : ssV G M D mc ms Q pc ls (.int x :: .int i :: .ref a :: st) h := by
  intro p e s m args below meth c R H locs cells slots MC MS la hC hR hW hS hL
  have hok := hC.2.2.2.2.2.2.2.2.2.2.2
  have hK := hC.2.2.2.2.2.2.2.2.1
  have kk' := fun H1 locs1 hW1 hS1 => kk p e s m args below meth c R H1 locs1 cells slots MC MS la hC hR hW1 hS1 hL
  obtain ⟨ws, hw, hP, hD⟩ := hW
  obtain ⟨j, hj⟩ := hw a _ he
  exact va_bast hC.1 hC.2.1 hK hP hD hS j 1 hj rfl hin (ssLk_ok hok hl).1 (fun H1 locs1 q1 q2 q3 => kk' H1 locs1 ⟨_, ssWd_set hw hj hD, q1, q2⟩ q3)
theorem v_lastore {a n : Nat} {f : Nat → Int64} {i : Int32} {x : Int64} (hl : ssLk M pc = some (.lastore, 1, r0, v0)) (he : h a = some (.inl (2, n, .inr (.inl f)))) (hin : vp_in i n) (kk : ssV G M D mc ms Q (pc + 1) ls st (hset h a (.inl (2, n, .inr (.inl (vp_updL f i.toNatClampNeg x)))))) : ssV G M D mc ms Q pc ls (.long x :: .int i :: .ref a :: st) h := by
  intro p e s m args below meth c R H locs cells slots MC MS la hC hR hW hS hL
  have hok := hC.2.2.2.2.2.2.2.2.2.2.2
  have hK := hC.2.2.2.2.2.2.2.2.1
  have kk' := fun H1 locs1 hW1 hS1 => kk p e s m args below meth c R H1 locs1 cells slots MC MS la hC hR hW1 hS1 hL
  obtain ⟨ws, hw, hP, hD⟩ := hW
  obtain ⟨j, hj⟩ := hw a _ he
  exact va_last hC.1 hC.2.1 hK hP hD hS j 2 hj rfl hin (ssLk_ok hok hl).1 (fun H1 locs1 q1 q2 q3 => kk' H1 locs1 ⟨_, ssWd_set hw hj hD, q1, q2⟩ q3)
theorem v_aastore {a n v : Nat} {f : Nat → Option Nat} {vs : List Value} {i : Int32} (hl : ssLk M pc = some (.aastore, 1, r0, v0)) (he : h a = some (.inl (3, n, .inr (.inr (.inr (.inr f)))))) (hv : h v = some (.inr (2, vs))) (hin : vp_in i n) (kk : ssV G M D mc ms Q (pc + 1) ls st (hset h a (.inl (3, n, .inr (.inr (.inr (.inr (va_up f i.toNatClampNeg (some v))))))))) : ssV G M D mc ms Q pc ls (.ref v :: .int i :: .ref a :: st) h := by
  intro p e s m args below meth c R H locs cells slots MC MS la hC hR hW hS hL
  have hok := hC.2.2.2.2.2.2.2.2.2.2.2
  have hK := hC.2.2.2.2.2.2.2.2.1
  have kk' := fun H1 locs1 hW1 hS1 => kk p e s m args below meth c R H1 locs1 cells slots MC MS la hC hR hW1 hS1 hL
  obtain ⟨ws, hw, hP, hD⟩ := hW
  obtain ⟨j, hj⟩ := hw a _ he
  obtain ⟨j2, hj2⟩ := hw v _ hv
  exact va_astq (r := (RX2, TX2, 7)) hC.1 hC.2.1 hK hP hD hS j 3 j2 2 hj rfl hj2 rfl hin (ssLk_ok hok hl).1 (fun H1 locs1 q1 q2 q3 => kk' H1 locs1 ⟨_, ssWd_set hw hj hD, q1, q2⟩ q3)
theorem v_alen {a t n : Nat} {x : (Nat → Int32) ⊕ (Nat → Int64) ⊕ (Nat → UInt32) ⊕ (Nat → UInt64) ⊕ (Nat → Option Nat)} (hl : ssLk M pc = some (.arraylength, 1, r0, v0)) (he : h a = some (.inl (t, n, x))) (ht : t < 4) (kk : ssV G M D mc ms Q (pc + 1) ls (.int (nI n) :: st) h) : ssV G M D mc ms Q pc ls (.ref a :: st) h := by
  intro p e s m args below meth c R H locs cells slots MC MS la hC hR hW hS hL
  have hok := hC.2.2.2.2.2.2.2.2.2.2.2
  have hK := hC.2.2.2.2.2.2.2.2.1
  have kk' := kk p e s m args below meth c R H locs cells slots MC MS la hC hR hW hS hL
  obtain ⟨ws, hw, hP, hD⟩ := hW
  obtain ⟨j, hj⟩ := hw a _ he
  have hty : ∃ ty, (ssTys G)[t]? = some (gC G t, ty) := by
    match t, ht with
    | 0, _ => exact ⟨_, rfl⟩
    | 1, _ => exact ⟨_, rfl⟩
    | 2, _ => exact ⟨_, rfl⟩
    | 3, _ => exact ⟨_, rfl⟩
  obtain ⟨ty, hty⟩ := hty
  exact va_alen hC.1 hC.2.1 hK hP j t hj hty rfl (ssLk_ok hok hl).1 kk'
/-- making -/
theorem v_new {i ci pl : Nat} {r : vw_C} {fs : List Value} (hl : ssLk M pc = some (.new i, 3, [ci, pl], v0)) (hr : vwCl[ci]? = some r) (hfs : ∀ j, j < r.2.2 → defaultValue (tyOf ci j) = vp_V fs j) (kk : ∀ q, h q = none → gz G ≤ q → ssV G M D mc ms Q (pc + 3) ls (.ref q :: st) (hset h q (.inr (ci, fs)))) : ssV G M D (mc + 1) (ms + r.2.2) Q pc ls st h := by
  intro p e s m args below meth c R H locs cells slots MC MS la hC hR hW hS hL
  have hok := hC.2.2.2.2.2.2.2.2.2.2.2
  have hK := hC.2.2.2.2.2.2.2.2.1
  have hts := hC.2.2.2.2.2.1
  have hz := hC.2.2.2.2.2.2.2.2.2.2.1
  obtain ⟨hd, h2⟩ := ssLk_ok hok hl
  obtain ⟨ws, hw, hP, hD⟩ := hW
  obtain ⟨C, T, N⟩ := r
  obtain ⟨c1, c2, c3, c4, c5⟩ := ss_cls ci _ hr
  simp only [chk2, hr] at h2
  exact va_new hC.1 hC.2.1 hts c1 (tyOf ci) c2 hC.2.2.2.2.1 (hts _ (inT_mem h2)) (hts _ c4) (hts _ c5) hK hP hD hS (fun q hq => Nat.le_trans hz hq) hr hfs (by omega) (by have := hR.2.2.2.2.1; have := hR.2.2.2.2.2; dsimp only at *; omega) hd
    (fun q H1 q1 q2 q3 => kk q (ssWd_fresh hw q2) (q2.2 ws.length (q, .inr (ci, fs)) (by simp)) p e s m args below meth c R H1 locs _ _ MC MS la hC ⟨hR.1, hR.2.1, by omega, hR.2.2.2.1, by have := hR.2.2.2.2.1; dsimp only at *; omega, hR.2.2.2.2.2⟩ ⟨_, ssWd_push hw, q1, q2⟩ q3 hL)
theorem v_newarr {at0 : ArrayType} {t N' : Nat} {n : Int32} {a0 : vp_A} (hl : ssLk M pc = some (.newarray at0, 2, [t], v0)) (ha : ∀ cA : ClassId, vp_cell cA a0 = arrV cA N' (fun _ => defaultValue (ssTy t))) (hn : ¬ n < 0) (hN : n.toNatClampNeg = N') (hb8 : N' ≤ 1000) (kk : ∀ q, h q = none → gz G ≤ q → ssV G M D mc ms Q (pc + 2) ls (.ref q :: st) (hset h q (.inl (t, a0)))) : ssV G M D (mc + 1) (ms + N') Q pc ls (.int n :: st) h := by
  intro p e s m args below meth c R H locs cells slots MC MS la hC hR hW hS hL
  have hok := hC.2.2.2.2.2.2.2.2.2.2.2
  have hK := hC.2.2.2.2.2.2.2.2.1
  have hts := hC.2.2.2.2.2.1
  have hz := hC.2.2.2.2.2.2.2.2.2.2.1
  obtain ⟨hd, h2⟩ := ssLk_ok hok hl
  obtain ⟨ws, hw, hP, hD⟩ := hW
  simp only [chk2, Bool.and_eq_true, decide_eq_true_eq] at h2
  obtain ⟨h3, h4⟩ := h2
  have key : (Cond.arrayClass (newarray.typeOf at0)).before args s = true ∧ N' * componentBytes (ssTy t) ≤ 536870912 ∧ ∀ cA : ClassId, va_RA s cA (ssTy t) → cA = gC G t := by
    rw [h3]
    have hk := fun k q => (hK.2 k q)
    match t, h4 with
    | 0, _ => exact ⟨hts _ (inT_mem inAI), by simp only [ssTy, componentBytes]; omega, fun cA hq => by have := (hk 0 _ rfl).2; exact Option.some.inj (Eq.trans (Eq.symm hq) this)⟩
    | 1, _ => exact ⟨hts _ (inT_mem inAB), by simp only [ssTy, componentBytes]; omega, fun cA hq => by have := (hk 1 _ rfl).2; exact Option.some.inj (Eq.trans (Eq.symm hq) this)⟩
    | 2, _ => exact ⟨hts _ (inT_mem inAJ), by simp only [ssTy, componentBytes]; omega, fun cA hq => by have := (hk 2 _ rfl).2; exact Option.some.inj (Eq.trans (Eq.symm hq) this)⟩
  obtain ⟨k1, k2, k3⟩ := key
  exact va_newa hC.1 hC.2.1 k1 h3 hK hP hD hS (fun q hq => Nat.le_trans hz hq) ha hn hN k2 (by omega) (by omega) hd
    (fun q cA H1 qK q1 q2 q3 => by
      have hcA : cA = gC G t := k3 cA (qK.2 (ssTys G).length (cA, ssTy t) (by simp)).2
      subst hcA
      exact kk q (ssWd_fresh hw q2) (q2.2 ws.length (q, .inl (gC G t, a0)) (by simp)) p e s m args below meth c R H1 locs _ _ MC MS la hC ⟨hR.1, hR.2.1, by omega, hR.2.2.2.1, by omega, hR.2.2.2.2.2⟩ ⟨_, ssWd_push hw, q1, q2⟩ q3 hL)
theorem v_anew {i pl N' : Nat} {n : Int32} (hl : ssLk M pc = some (.anewarray i, 3, [pl], v0)) (hn : ¬ n < 0) (hN : n.toNatClampNeg = N') (hb8 : N' ≤ 1000) (kk : ∀ q, h q = none → gz G ≤ q → ssV G M D mc ms Q (pc + 3) ls (.ref q :: st) (hset h q (.inl (3, N', .inr (.inr (.inr (.inr (fun _ => none)))))))) : ssV G M D (mc + 1) (ms + N') Q pc ls (.int n :: st) h := by
  intro p e s m args below meth c R H locs cells slots MC MS la hC hR hW hS hL
  have hok := hC.2.2.2.2.2.2.2.2.2.2.2
  have hX := hC.2.2.2.2.2.2.2.2.2.1
  have hK := hC.2.2.2.2.2.2.2.2.1
  have hts := hC.2.2.2.2.2.1
  have hz := hC.2.2.2.2.2.2.2.2.2.2.1
  obtain ⟨hd, h2⟩ := ssLk_ok hok hl
  obtain ⟨ws, hw, hP, hD⟩ := hW
  exact va_newq hC.1 hC.2.1 hC.2.2.2.2.1 (hts _ (inT_mem h2)) hX.2.2.2.1 hK hP hD hS (fun q hq => Nat.le_trans hz hq) hn hN (by omega) (by omega) (by omega) hd
    (fun q cA H1 qK q1 q2 q3 => by
      have e1 := (qK.2 (ssTys G).length (cA, .object "SafeSenate$Moment") (by simp)).2
      have e2 := (hK.2 3 _ rfl).2
      obtain ⟨_, _, _, _, _, f1⟩ := e1
      obtain ⟨_, _, _, _, _, f2⟩ := e2
      have hcA : cA = gC G 3 := Option.some.inj (f1.symm.trans f2)
      subst hcA
      exact kk q (ssWd_fresh hw q2) (q2.2 ws.length (q, .inl (gC G 3, N', .inr (.inr (.inr (.inr (fun _ => none)))))) (by simp)) p e s m args below meth c R H1 locs _ _ MC MS la hC ⟨hR.1, hR.2.1, by omega, hR.2.2.2.1, by omega, hR.2.2.2.2.2⟩ ⟨_, ssWd_push hw, q1, q2⟩ q3 hL)
/-- calls -/
theorem v_objInit {i n pl a : Nat} (hl : ssLk M pc = some (.invokespecial i, 3, [n, pl, 0], v0)) (hn : ssMN[n]? = some Lib.objectInit) (hD1 : 1 ≤ D) (hcat : (st.map fun v => v.category).sum ≤ 8) (kk : ssV G M D mc ms Q (pc + 3) ls st h) : ssV G M D mc ms Q pc ls (.ref a :: st) h := by
  intro p e s m args below meth c R H locs cells slots MC MS la hC hR hW hS hL
  have hok := hC.2.2.2.2.2.2.2.2.2.2.2
  have hts := hC.2.2.2.2.2.1
  obtain ⟨hd, h2⟩ := ssLk_ok hok hl
  have e1 : ssMN.getD n Lib.objectInit = Lib.objectInit := by rw [List.getD_eq_getElem?_getD, hn]; rfl
  simp only [chk2, Nat.beq, cond_false, e1] at h2
  exact W.objInit hC.1 hC.2.1 hC.2.2.2.2.1 (hts _ (inT_mem h2)) (hts _ (inT_mem inOI)) (hts _ (inT_mem inOC)) rfl (by rw [hC.2.2.2.1]; exact hL.1) rfl hd (by omega) (by have := lv_room (m := m) (pc := pc) (ls := la) (rest := (.ref a :: st)) hcat; omega) (kk p e s m args below meth c R H locs cells slots MC MS la hC hR hW hS hL)
theorem v_max {i n pl : Nat} {x y : Int32} (hl : ssLk M pc = some (.invokestatic i, 3, [n, pl, 0], v0)) (hn : ssMN[n]? = some Lib.Math.max.name) (hD1 : 1 ≤ D) (hcat : (st.map fun v => v.category).sum ≤ 8) (kk : ssV G M D mc ms Q (pc + 3) ls (.int (if x < y then y else x) :: st) h) : ssV G M D mc ms Q pc ls (.int y :: .int x :: st) h := by
  intro p e s m args below meth c R H locs cells slots MC MS la hC hR hW hS hL
  have hok := hC.2.2.2.2.2.2.2.2.2.2.2
  have hts := hC.2.2.2.2.2.1
  obtain ⟨hd, h2⟩ := ssLk_ok hok hl
  have e1 : ssMN.getD n Lib.objectInit = Lib.Math.max.name := by rw [List.getD_eq_getElem?_getD, hn]; rfl
  simp only [chk2, Nat.beq, cond_false, e1] at h2
  exact va_mmax hC.1 hC.2.1 (by rw [hC.2.2.2.1]; exact hL.1.symm) hC.2.2.2.2.1 (hts _ (inT_mem h2)) (hts _ (inT_mem inMS)) (hts _ (inT_mem inMI)) (hts _ (inT_mem inMC)) (by omega) (by omega) (by omega) (by omega) hd (kk p e s m args below meth c R H locs cells slots MC MS la hC hR hW hS hL)
theorem v_min {i n pl : Nat} {x y : Int32} (hl : ssLk M pc = some (.invokestatic i, 3, [n, pl, 0], v0)) (hn : ssMN[n]? = some Lib.Math.min.name) (hD1 : 1 ≤ D) (hcat : (st.map fun v => v.category).sum ≤ 8) (kk : ssV G M D mc ms Q (pc + 3) ls (.int (if y < x then y else x) :: st) h) : ssV G M D mc ms Q pc ls (.int y :: .int x :: st) h := by
  intro p e s m args below meth c R H locs cells slots MC MS la hC hR hW hS hL
  have hok := hC.2.2.2.2.2.2.2.2.2.2.2
  have hts := hC.2.2.2.2.2.1
  obtain ⟨hd, h2⟩ := ssLk_ok hok hl
  have e1 : ssMN.getD n Lib.objectInit = Lib.Math.min.name := by rw [List.getD_eq_getElem?_getD, hn]; rfl
  simp only [chk2, Nat.beq, cond_false, e1] at h2
  exact va_mmin hC.1 hC.2.1 (by rw [hC.2.2.2.1]; exact hL.1.symm) hC.2.2.2.2.1 (hts _ (inT_mem h2)) (hts _ (inT_mem inmS)) (hts _ (inT_mem inMI)) (hts _ (inT_mem inmC)) (by omega) (by omega) (by omega) (by omega) hd (kk p e s m args below meth c R H locs cells slots MC MS la hC hR hW hS hL)
theorem v_copy {i n pl a0 a n0 n1 : Nat} {f g : Nat → Int32} {sp dp len : Int32} (hl : ssLk M pc = some (.invokestatic i, 3, [n, pl, 0], v0)) (hn : ssMN[n]? = some arraycopyName) (hD1 : 1 ≤ D) (hcat : (st.map fun v => v.category).sum ≤ 8) (ha0 : h a0 = some (.inl (0, n0, .inl f))) (ha1 : h a = some (.inl (0, n1, .inl g))) (h1 : ¬ sp < 0) (h2 : ¬ dp < 0) (h3 : ¬ len < 0) (h4 : sp.toNatClampNeg + len.toNatClampNeg ≤ n0) (h5 : dp.toNatClampNeg + len.toNatClampNeg ≤ n1) (kk : ssV G M D mc ms Q (pc + 3) ls st (hset h a (.inl (0, n1, .inl (va_cpy f g sp.toNatClampNeg dp.toNatClampNeg len.toNatClampNeg))))) : ssV G M D mc ms Q pc ls (.int len :: .int dp :: .ref a :: .int sp :: .ref a0 :: st) h := by
  intro p e s m args below meth c R H locs cells slots MC MS la hC hR hW hS hL
  have hok := hC.2.2.2.2.2.2.2.2.2.2.2
  have hts := hC.2.2.2.2.2.1
  have hK := hC.2.2.2.2.2.2.2.2.1
  obtain ⟨hd, hc2⟩ := ssLk_ok hok hl
  have e1 : ssMN.getD n Lib.objectInit = arraycopyName := by rw [List.getD_eq_getElem?_getD, hn]; rfl
  simp only [chk2, Nat.beq, cond_false, e1] at hc2
  have kk' := fun H1 locs1 hW1 hS1 => kk p e s m args below meth c R H1 locs1 cells slots MC MS la hC hR hW1 hS1 hL
  obtain ⟨ws, hw, hP, hD⟩ := hW
  obtain ⟨j0, hj0⟩ := hw a0 _ ha0
  obtain ⟨j1, hj1⟩ := hw a _ ha1
  have hwords : nativeFrameWords "java/lang/System" "arraycopy" 5 + 11 ≤ 50 := by decide +kernel
  exact va_copyi hC.1 hC.2.1 (by rw [hC.2.2.2.1]; exact hL.1.symm) hC.2.2.2.2.1 (hts _ (inT_mem hc2)) (hts _ (inT_mem inCN)) (hts _ (inT_mem inCS)) (hts _ (inT_mem inCI)) hK hP hD hS j0 j1 0 0 hj0 hj1 rfl rfl rfl h1 h2 h3 h4 h5 (fun _ _ => rfl) (by omega) (by omega) hd (fun H1 locs1 q1 q2 q3 => kk' H1 locs1 ⟨_, ssWd_set hw hj1 hD, q1, q2⟩ q3)
end SSD
end
section
section SSF
variable {p : Program} {e : Env} {s : State} {m : MethodId} {args : Array Value} {below : List Frame} {meth : Method} {c : Code} {R : Room} {H : Heap} {locs : List Loc} {cells slots mc1 ms1 : Nat} {Q' : State → Prop} {G : ssG} {Q1 : Option Value → ssH → Prop} {pc : Nat} {la : Array Slot} {rest st0 : List Value} {a : Array Value}
theorem ss_cont (hr : va_Run p (gL G) e R s m args below meth c H locs cells slots mc1 ms1 (F0 m pc la st0) rest (ssQ G Q1 a) (gA G)) (hS : va_S (gA G) s.heap H locs)
    (kk : ∀ (r : Option Value) (h' : ssH) (H1 : Heap) (locs1 : List Loc), Q1 r h' → ssWd G h' H1 → va_S (gA G) s.heap H1 locs1 → W p (gL G) e R s m args below meth c H1 locs1 (cells + mc1) (slots + ms1) Q' (F0 m (pc + 3) la (r.toList ++ rest))) : W p (gL G) e R s m args below meth c H locs cells slots Q' (F0 m pc la st0) := by
  intro T hT X
  obtain ⟨v, st₀, t, T', L, h0, X', hL, e1, e2, ⟨⟨r, h', hv, hq, hw⟩, hz, hk⟩, st⟩ := hr T hT X
  cases hv
  rw [h0] at hz hk
  obtain ⟨t2, a1, b1⟩ := kk v h' T'.heap (locs ++ L) hq (by rw [e1]; exact hw)
    ⟨Nat.le_trans hS.1 (by rw [e1]; exact hz), fun q h1 h2 => by rw [e1, hk q (Nat.lt_of_lt_of_le h1 hS.1) h2]; exact hS.2.1 q h1 h2, fun q hq => by
      rcases List.mem_append.mp hq with h | h
      · exact hS.2.2 q h
      · exact hL q h⟩ T' rfl X'
  exact ⟨t2, st t2 a1, b1⟩
end SSF
theorem good_all {ws : List Cond} (h : ∀ w ∈ ws, w ∈ ssTbl) : GoodIn ssTbl ws := fun w hw => ⟨h w hw, good_of_word (List.mem_filter.mp (h w hw)).2⟩
/-- what ssCa says -/
theorem ssCa_ok {M : ssM} (h : ssCa M = true) : Cond.code (ssY M) (ssCC M) (ssML M) (ssRet M) ∈ ssTbl ∧ Cond.initialized (ssY M).cls ∈ ssTbl ∧ plainName (ssY M).cls = true ∧ (ssY M).cls ≠ "java/lang/invoke/MethodHandle" ∧ (ssY M).cls ≠ "java/lang/invoke/VarHandle" ∧ ssML M ≤ 40 ∧ ssMN[ssPl M 6]? = some (ssY M) ∧ (parseMethodDescriptor (ssY M).desc).map (fun d => d.parameters.length) = some (ssPl M 5) ∧
    (ssPl M 4 = 1 → Cond.static (ssY M) ∈ ssTbl) ∧ (ssPl M 4 = 0 → Cond.instanceMethod (ssY M) ∈ ssTbl ∧ (ssPl M 7 = 1 → (ssY M).name = "<init>") ∧ (ssPl M 7 = 0 → Cond.selects (ssY M).cls (ssY M) (ssY M) ∈ ssTbl)) := by
  simp only [ssCa, Bool.and_eq_true, decide_eq_true_eq] at h
  obtain ⟨⟨⟨⟨⟨⟨⟨⟨h1, h2⟩, h3⟩, h4⟩, h5⟩, h6⟩, h7⟩, h8⟩, h9⟩ := h
  refine ⟨inT_mem h1, inT_mem h2, h3, h4, h5, h6, h7, h8, fun q => ?_, fun q => ?_⟩
  · rw [q] at h9
    exact inT_mem h9
  · rw [q] at h9
    simp only [Nat.beq, cond_false, Bool.and_eq_true] at h9
    refine ⟨inT_mem h9.1, fun z => ?_, fun z => ?_⟩
    · have h10 := h9.2
      rw [z] at h10
      exact of_decide_eq_true h10
    · have h10 := h9.2
      rw [z] at h10
      exact inT_mem h10
theorem ss_words {M : ssM} (h : ssCa M = true) : ∀ w ∈ Cond.code (ssY M) (ssCC M) (ssML M) (ssRet M) :: ssTbl, w ∈ ssTbl := fun w hw => (List.mem_cons.mp hw).elim (fun q => q ▸ (ssCa_ok h).1) id
section SSG
variable {G : ssG} {M My : ssM} {D D1 mc ms mc1 ms1 : Nat} {Q Q1 : Option Value → ssH → Prop} {pc : Nat} {ls : List (Option Value)} {st As rest : List Value} {h : ssH} {v0 : Value} {i n pl b : Nat}
theorem v_callV {ci : Nat} {fs : List Value} {r : vw_C} (hl : ssLk M pc = some (.invokevirtual i, 3, [n, pl, 0], v0)) (hca : ssCa My = true) (hmn : ssPl My 6 = n) (h40 : ssPl My 4 = 0) (hni : ssPl My 7 = 0) (he : h b = some (.inr (ci, fs))) (hr : vwCl[ci]? = some r) (hrc : r.1 = (ssY My).cls) (hc : ssC G My D1 mc1 ms1 (.ref b :: As) h Q1) (hAs : ssPl My 5 = As.length) (hst : st = As.reverse ++ .ref b :: rest) (hcat : (rest.map fun v => v.category).sum ≤ 8) (hD : D1 + 1 ≤ D)
    (kk : ∀ r h', Q1 r h' → ssV G M D mc ms Q (pc + 3) ls (r.toList ++ rest) h') : ssV G M D (mc1 + mc) (ms1 + ms) Q pc ls st h := by
  intro p e s m args below meth c R H locs cells slots MC MS la hC hR hW hS hL
  subst hst
  have hok := hC.2.2.2.2.2.2.2.2.2.2.2
  have hX := hC.2.2.2.2.2.2.2.2.2.1
  have hts := hC.2.2.2.2.2.1
  have hK := hC.2.2.2.2.2.2.2.2.1
  have hz := hC.2.2.2.2.2.2.2.2.2.2.1
  obtain ⟨hd, h2⟩ := ssLk_ok hok hl
  obtain ⟨k1, k2, k3, k4, k5, k6, k7, k8, -, k10⟩ := ssCa_ok hca
  obtain ⟨k11, -, k12⟩ := k10 h40
  have k13 := k12 hni
  have e1 : ssMN.getD n Lib.objectInit = ssY My := by rw [List.getD_eq_getElem?_getD, ← hmn, k7]; rfl
  simp only [chk2, e1] at h2
  have hrecv : ∃ cell : Cell, H[b]? = some cell ∧ cell.vm.isStatics = false ∧ s.vm.findClass (ssY My).cls = some cell.cls := by
    obtain ⟨ws, hw, hP, hD⟩ := hW
    obtain ⟨j, hj⟩ := hw b _ he
    rw [← hrc]
    exact va_recv hK hP hr hj
  refine ss_cont (rest := rest) (va_runV (Ts := ssTbl) (own := (ssY M).cls) (nL := ssML M) (As := As) (rest := rest) (n := As.length) ⟨hC.1, hC.2.1, hC.2.2.2.1, hC.2.2.2.2.1, hts⟩ hc
    (cwV As.length hts (good_all (fun w hw => by
      simp only [wsV, List.mem_append, List.mem_cons, List.not_mem_nil, or_false] at hw
      rcases hw with (rfl | rfl | rfl | rfl) | hw
      · exact inT_mem h2
      · exact k11
      · exact k13
      · exact k2
      · exact hw.elim (fun q => q ▸ k1) id)) rfl rfl rfl ⟨rfl, k4, k5, hAs ▸ k8⟩ ⟨Nat.le_trans hD hR.1, ?_⟩)
    ⟨ssP_blind G _ h, hrecv, fun U hU hWm => ⟨rfl, by rw [hU]; exact Nat.le_trans hz hS.1, by rw [hU]; exact hW, va_K.moved hWm.alike hK, by rw [hU]; exact (hX.kept (fun q q1 q2 => hS.2.1 q q1 q2)).warm hWm⟩⟩
    rfl rfl hL.1 rfl (lv_room hcat) hd ⟨by omega, by omega⟩) hS (fun r h' H1 locs1 q1 q2 q3 => kk r h' q1 p e s m args below meth c R H1 locs1 _ _ MC MS la hC ⟨hR.1, hR.2.1, by omega, hR.2.2.2.1, by omega, hR.2.2.2.2.2⟩ q2 q3 hL)
  have := hR.2.1
  show 8 + (ssML My + 11) + 64 * D1 ≤ R.locals
  omega
theorem v_callS (hl : ssLk M pc = some (.invokestatic i, 3, [n, pl, 0], v0)) (hca : ssCa My = true) (hmn : ssPl My 6 = n) (h41 : ssPl My 4 = 1) (hc : ssC G My D1 mc1 ms1 As h Q1) (hAs : ssPl My 5 = As.length) (hst : st = As.reverse ++ rest) (hcat : (rest.map fun v => v.category).sum ≤ 8) (hD : D1 + 1 ≤ D)
    (kk : ∀ r h', Q1 r h' → ssV G M D mc ms Q (pc + 3) ls (r.toList ++ rest) h') : ssV G M D (mc1 + mc) (ms1 + ms) Q pc ls st h := by
  intro p e s m args below meth c R H locs cells slots MC MS la hC hR hW hS hL
  subst hst
  have hok := hC.2.2.2.2.2.2.2.2.2.2.2
  have hX := hC.2.2.2.2.2.2.2.2.2.1
  have hts := hC.2.2.2.2.2.1
  have hK := hC.2.2.2.2.2.2.2.2.1
  have hz := hC.2.2.2.2.2.2.2.2.2.2.1
  obtain ⟨hd, h2⟩ := ssLk_ok hok hl
  obtain ⟨k1, k2, k3, k4, k5, k6, k7, k8, k9, -⟩ := ssCa_ok hca
  have e1 : ssMN.getD n Lib.objectInit = ssY My := by rw [List.getD_eq_getElem?_getD, ← hmn, k7]; rfl
  simp only [chk2, Nat.beq, cond_false, e1] at h2
  refine ss_cont (rest := rest) (va_runS (Ts := ssTbl) (own := (ssY M).cls) (nL := ssML M) (As := As) (rest := rest) (n := As.length) ⟨hC.1, hC.2.1, hC.2.2.2.1, hC.2.2.2.2.1, hts⟩ hc
    ⟨callB_of As.length hts (good_all (ss_words hca)) rfl rfl rfl (hts _ k2) (hts _ (inT_mem h2)) ⟨k4, k5, hAs ▸ k8⟩ ⟨Nat.le_trans hD hR.1, ?_⟩, hts _ (k9 h41)⟩
    ⟨ssP_blind G _ h, fun U hU hWm => ⟨rfl, by rw [hU]; exact Nat.le_trans hz hS.1, by rw [hU]; exact hW, va_K.moved hWm.alike hK, by rw [hU]; exact (hX.kept (fun q q1 q2 => hS.2.1 q q1 q2)).warm hWm⟩⟩
    rfl rfl hL.1 rfl (lv_room hcat) hd ⟨by omega, by omega⟩) hS (fun r h' H1 locs1 q1 q2 q3 => kk r h' q1 p e s m args below meth c R H1 locs1 _ _ MC MS la hC ⟨hR.1, hR.2.1, by omega, hR.2.2.2.1, by omega, hR.2.2.2.2.2⟩ q2 q3 hL)
  have := hR.2.1
  show 8 + (ssML My + 11) + 64 * D1 ≤ R.locals
  omega
theorem v_callSN (hl : ssLk M pc = some (.invokestatic i, 3, [n, pl, 1], v0)) (hca : ssCa My = true) (hmn : ssPl My 6 = n) (h41 : ssPl My 4 = 1) (hc : ssC G My D1 mc1 ms1 As h Q1) (hAs : ssPl My 5 = As.length) (hst : st = As.reverse ++ rest) (hcat : (rest.map fun v => v.category).sum ≤ 8) (hD : D1 + 1 ≤ D)
    (kk : ∀ r h', Q1 r h' → ssV G M D mc ms Q (pc + 3) ls (r.toList ++ rest) h') : ssV G M D (mc1 + mc) (ms1 + ms) Q pc ls st h := by
  intro p e s m args below meth c R H locs cells slots MC MS la hC hR hW hS hL
  subst hst
  have hok := hC.2.2.2.2.2.2.2.2.2.2.2
  have hX := hC.2.2.2.2.2.2.2.2.2.1
  have hts := hC.2.2.2.2.2.1
  have hK := hC.2.2.2.2.2.2.2.2.1
  have hz := hC.2.2.2.2.2.2.2.2.2.2.1
  obtain ⟨hd, h2⟩ := ssLk_ok hok hl
  obtain ⟨k1, k2, k3, k4, k5, k6, k7, k8, k9, -⟩ := ssCa_ok hca
  have e1 : ssMN.getD n Lib.objectInit = ssY My := by rw [List.getD_eq_getElem?_getD, ← hmn, k7]; rfl
  simp only [chk2, Nat.beq, cond_true, e1] at h2
  refine ss_cont (rest := rest) (va_runSN (host := "SafeSenate") (Ts := ssTbl) (own := (ssY M).cls) (nL := ssML M) (As := As) (rest := rest) (n := As.length) ⟨hC.1, hC.2.1, hC.2.2.2.1, hC.2.2.2.2.1, hts⟩ hc
    ⟨va_cnB As.length hts (good_all (ss_words hca)) rfl rfl rfl (hX.2.2.2.2 _ (inNs_mem h2)) (hts _ k2) ⟨k4, k5, hAs ▸ k8⟩ ⟨Nat.le_trans hD hR.1, ?_⟩, hts _ (k9 h41), trivial⟩
    ⟨ssP_blind G _ h, fun U hU hWm => ⟨rfl, by rw [hU]; exact Nat.le_trans hz hS.1, by rw [hU]; exact hW, va_K.moved hWm.alike hK, by rw [hU]; exact (hX.kept (fun q q1 q2 => hS.2.1 q q1 q2)).warm hWm⟩⟩
    rfl rfl hL.1 rfl (lv_room hcat) hd ⟨by omega, by omega⟩) hS (fun r h' H1 locs1 q1 q2 q3 => kk r h' q1 p e s m args below meth c R H1 locs1 _ _ MC MS la hC ⟨hR.1, hR.2.1, by omega, hR.2.2.2.1, by omega, hR.2.2.2.2.2⟩ q2 q3 hL)
  have := hR.2.1
  show 8 + (ssML My + 11) + 64 * D1 ≤ R.locals
  omega
theorem v_callI (hl : ssLk M pc = some (.invokespecial i, 3, [n, pl, 0], v0)) (hca : ssCa My = true) (hmn : ssPl My 6 = n) (h40 : ssPl My 4 = 0) (hni7 : ssPl My 7 = 1) (hrt : ssRet My = none) (hc : ssC G My D1 mc1 ms1 (.ref b :: As) h Q1) (hAs : ssPl My 5 = As.length) (hst : st = As.reverse ++ .ref b :: rest) (hcat : (rest.map fun v => v.category).sum ≤ 8) (hD : D1 + 1 ≤ D)
    (kk : ∀ r h', Q1 r h' → ssV G M D mc ms Q (pc + 3) ls (r.toList ++ rest) h') : ssV G M D (mc1 + mc) (ms1 + ms) Q pc ls st h := by
  intro p e s m args below meth c R H locs cells slots MC MS la hC hR hW hS hL
  subst hst
  have hok := hC.2.2.2.2.2.2.2.2.2.2.2
  have hX := hC.2.2.2.2.2.2.2.2.2.1
  have hts := hC.2.2.2.2.2.1
  have hK := hC.2.2.2.2.2.2.2.2.1
  have hz := hC.2.2.2.2.2.2.2.2.2.2.1
  obtain ⟨hd, h2⟩ := ssLk_ok hok hl
  obtain ⟨k1, k2, k3, k4, k5, k6, k7, k8, -, k10⟩ := ssCa_ok hca
  obtain ⟨k11, k12, -⟩ := k10 h40
  have hni := k12 hni7
  have hw0 := ss_words hca
  unfold ssC at hc
  rw [hrt] at hc hw0
  have e1 : ssMN.getD n Lib.objectInit = ssY My := by rw [List.getD_eq_getElem?_getD, ← hmn, k7]; rfl
  simp only [chk2, Nat.beq, cond_false, e1] at h2
  refine ss_cont (rest := rest) (va_runI (Ts := ssTbl) (own := (ssY M).cls) (nL := ssML M) (As := As) (rest := rest) (n := As.length) ⟨hC.1, hC.2.1, hC.2.2.2.1, hC.2.2.2.2.1, hts⟩ hc
    ⟨callB_of As.length hts (good_all hw0) rfl rfl rfl (hts _ k2) (hts _ (inT_mem h2)) ⟨k4, k5, hAs ▸ k8⟩ ⟨Nat.le_trans hD hR.1, ?_⟩, hni, hts _ k11⟩
    ⟨ssP_blind G _ h, fun U hU hWm => ⟨rfl, by rw [hU]; exact Nat.le_trans hz hS.1, by rw [hU]; exact hW, va_K.moved hWm.alike hK, by rw [hU]; exact (hX.kept (fun q q1 q2 => hS.2.1 q q1 q2)).warm hWm⟩⟩
    rfl rfl hL.1 rfl (lv_room hcat) hd ⟨by omega, by omega⟩) hS (fun r h' H1 locs1 q1 q2 q3 => kk r h' q1 p e s m args below meth c R H1 locs1 _ _ MC MS la hC ⟨hR.1, hR.2.1, by omega, hR.2.2.2.1, by omega, hR.2.2.2.2.2⟩ q2 q3 hL)
  have := hR.2.1
  show 8 + (ssML My + 11) + 64 * D1 ≤ R.locals
  omega
theorem v_callIN (hl : ssLk M pc = some (.invokespecial i, 3, [n, pl, 1], v0)) (hca : ssCa My = true) (hmn : ssPl My 6 = n) (h40 : ssPl My 4 = 0) (hni7 : ssPl My 7 = 1) (hrt : ssRet My = none) (hc : ssC G My D1 mc1 ms1 (.ref b :: As) h Q1) (hAs : ssPl My 5 = As.length) (hst : st = As.reverse ++ .ref b :: rest) (hcat : (rest.map fun v => v.category).sum ≤ 8) (hD : D1 + 1 ≤ D)
    (kk : ∀ r h', Q1 r h' → ssV G M D mc ms Q (pc + 3) ls (r.toList ++ rest) h') : ssV G M D (mc1 + mc) (ms1 + ms) Q pc ls st h := by
  intro p e s m args below meth c R H locs cells slots MC MS la hC hR hW hS hL
  subst hst
  have hok := hC.2.2.2.2.2.2.2.2.2.2.2
  have hX := hC.2.2.2.2.2.2.2.2.2.1
  have hts := hC.2.2.2.2.2.1
  have hK := hC.2.2.2.2.2.2.2.2.1
  have hz := hC.2.2.2.2.2.2.2.2.2.2.1
  obtain ⟨hd, h2⟩ := ssLk_ok hok hl
  obtain ⟨k1, k2, k3, k4, k5, k6, k7, k8, -, k10⟩ := ssCa_ok hca
  obtain ⟨k11, k12, -⟩ := k10 h40
  have hni := k12 hni7
  have hw0 := ss_words hca
  unfold ssC at hc
  rw [hrt] at hc hw0
  have e1 : ssMN.getD n Lib.objectInit = ssY My := by rw [List.getD_eq_getElem?_getD, ← hmn, k7]; rfl
  simp only [chk2, Nat.beq, cond_true, e1] at h2
  refine ss_cont (rest := rest) (va_runIN (host := "SafeSenateModel") (Ts := ssTbl) (own := (ssY M).cls) (nL := ssML M) (As := As) (rest := rest) (n := As.length) ⟨hC.1, hC.2.1, hC.2.2.2.1, hC.2.2.2.2.1, hts⟩ hc
    ⟨va_cnB As.length hts (good_all hw0) rfl rfl rfl (hX.2.2.2.2 _ (inNs_mem h2)) (hts _ k2) ⟨k4, k5, hAs ▸ k8⟩ ⟨Nat.le_trans hD hR.1, ?_⟩, hni, hts _ k11⟩
    ⟨ssP_blind G _ h, fun U hU hWm => ⟨rfl, by rw [hU]; exact Nat.le_trans hz hS.1, by rw [hU]; exact hW, va_K.moved hWm.alike hK, by rw [hU]; exact (hX.kept (fun q q1 q2 => hS.2.1 q q1 q2)).warm hWm⟩⟩
    rfl rfl hL.1 rfl (lv_room hcat) hd ⟨by omega, by omega⟩) hS (fun r h' H1 locs1 q1 q2 q3 => kk r h' q1 p e s m args below meth c R H1 locs1 _ _ MC MS la hC ⟨hR.1, hR.2.1, by omega, hR.2.2.2.1, by omega, hR.2.2.2.2.2⟩ q2 q3 hL)
  have := hR.2.1
  show 8 + (ssML My + 11) + 64 * D1 ≤ R.locals
  omega
end SSG
end
section
def mX0_init : ssM := (0, yX0_init, cX0_init, 1, none, [468, 467, 0, 121, 0, 0, 0, 1], [
  (0, .aload_n 0, 1, [], .null),
  (1, .invokespecial 3, 3, [292, 469, 0], .null),
  (4, .aload_n 0, 1, [], .null),
  (5, .bipush 42, 2, [], .int (zI 42)),
  (7, .newarray .int, 2, [0], .null),
  (9, .putfield 9, 3, [0, 1, 474, 0], .null),
  (12, .aload_n 0, 1, [], .null),
  (13, .bipush 42, 2, [], .int (zI 42)),
  (15, .newarray .int, 2, [0], .null),
  (17, .putfield 15, 3, [0, 2, 475, 0], .null),
  (20, .aload_n 0, 1, [], .null),
  (21, .new 18, 3, [6, 470], .null),
  (24, .dup, 1, [], .null),
  (25, .invokespecial 20, 3, [69, 471, 0], .null),
  (28, .putfield 21, 3, [0, 3, 476, 0], .null),
  (31, .return_, 1, [], .null)])
set_option maxRecDepth 100000 in
theorem okX0_init : ssOk mX0_init = true := by decide +kernel
set_option maxRecDepth 100000 in
theorem caX0_init : ssCa mX0_init = true := by decide +kernel
def mX0_weigh : ssM := (0, yX0_weigh, cX0_weigh, 5, none, [989, 987, 988, 121, 0, 1, 1, 0], [
  (0, .aload_n 0, 1, [], .null),
  (1, .iconst 0, 1, [], .int (zI 0)),
  (2, .putfield 25, 3, [0, 0, 472, 0], .null),
  (5, .aload_n 1, 1, [], .null),
  (6, .getfield 29, 3, [4, 13, 302, 0], .null),
  (9, .istore_n 2, 1, [], .null),
  (10, .iload_n 2, 1, [], .null),
  (11, .ifCond .lt 9, 3, [20], .null),
  (14, .iload_n 2, 1, [], .null),
  (15, .bipush 6, 2, [], .int (zI 6)),
  (17, .if_icmp .lt 4, 3, [21], .null),
  (20, .return_, 1, [], .null),
  (21, .aload_n 0, 1, [], .null),
  (22, .getfield 21, 3, [0, 3, 476, 0], .null),
  (25, .aload_n 1, 1, [], .null),
  (26, .aload_n 1, 1, [], .null),
  (27, .getfield 34, 3, [4, 16, 314, 0], .null),
  (30, .invokevirtual 38, 3, [70, 990, 0], .null),
  (33, .iconst 0, 1, [], .int (zI 0)),
  (34, .istore_n 3, 1, [], .null),
  (35, .iload_n 3, 1, [], .null),
  (36, .bipush 41, 2, [], .int (zI 41)),
  (38, .if_icmp .gt 90, 3, [128], .null),
  (41, .aload_n 0, 1, [], .null),
  (42, .getfield 21, 3, [0, 3, 476, 0], .null),
  (45, .getfield 42, 3, [6, 0, 420, 0], .null),
  (48, .iload_n 2, 1, [], .null),
  (49, .iload_n 3, 1, [], .null),
  (50, .iastore, 1, [], .null),
  (51, .aload_n 1, 1, [], .null),
  (52, .aload_n 1, 1, [], .null),
  (53, .aload_n 1, 1, [], .null),
  (54, .getfield 34, 3, [4, 16, 314, 0], .null),
  (57, .aload_n 0, 1, [], .null),
  (58, .getfield 21, 3, [0, 3, 476, 0], .null),
  (61, .invokevirtual 45, 3, [53, 991, 0], .null),
  (64, .invokevirtual 49, 3, [54, 992, 0], .null),
  (67, .istore 4, 2, [], .null),
  (69, .aload_n 1, 1, [], .null),
  (70, .getfield 53, 3, [4, 14, 306, 0], .null),
  (73, .iload 4, 2, [], .null),
  (75, .iconst (-1), 1, [], .int (zI (-1))),
  (76, .ixor, 1, [], .null),
  (77, .iand, 1, [], .null),
  (78, .ifCond .ne 44, 3, [122], .null),
  (81, .aload_n 1, 1, [], .null),
  (82, .getfield 56, 3, [4, 15, 310, 0], .null),
  (85, .iload 4, 2, [], .null),
  (87, .iand, 1, [], .null),
  (88, .ifCond .ne 34, 3, [122], .null),
  (91, .aload_n 0, 1, [], .null),
  (92, .getfield 9, 3, [0, 1, 474, 0], .null),
  (95, .aload_n 0, 1, [], .null),
  (96, .getfield 25, 3, [0, 0, 472, 0], .null),
  (99, .iload_n 3, 1, [], .null),
  (100, .iastore, 1, [], .null),
  (101, .aload_n 0, 1, [], .null),
  (102, .getfield 15, 3, [0, 2, 475, 0], .null),
  (105, .aload_n 0, 1, [], .null),
  (106, .getfield 25, 3, [0, 0, 472, 0], .null),
  (109, .iload 4, 2, [], .null),
  (111, .iastore, 1, [], .null),
  (112, .aload_n 0, 1, [], .null),
  (113, .dup, 1, [], .null),
  (114, .getfield 25, 3, [0, 0, 472, 0], .null),
  (117, .iconst 1, 1, [], .int (zI 1)),
  (118, .iadd, 1, [], .null),
  (119, .putfield 25, 3, [0, 0, 472, 0], .null),
  (122, .iinc 3 1, 3, [], .int (zI 1)),
  (125, .goto (-90), 3, [35], .null),
  (128, .return_, 1, [], .null)])
set_option maxRecDepth 100000 in
theorem okX0_weigh : ssOk mX0_weigh = true := by decide +kernel
set_option maxRecDepth 100000 in
theorem caX0_weigh : ssCa mX0_weigh = true := by decide +kernel
def mX0_fitting : ssM := (0, yX0_fitting, cX0_fitting, 2, (some .int), [1000, 998, 999, 121, 0, 1, 2, 0], [
  (0, .iload_n 1, 1, [], .null),
  (1, .ifCond .lt 26, 3, [27], .null),
  (4, .iload_n 1, 1, [], .null),
  (5, .aload_n 0, 1, [], .null),
  (6, .getfield 25, 3, [0, 0, 472, 0], .null),
  (9, .if_icmp .ge 18, 3, [27], .null),
  (12, .iload_n 1, 1, [], .null),
  (13, .bipush 41, 2, [], .int (zI 41)),
  (15, .if_icmp .gt 12, 3, [27], .null),
  (18, .aload_n 0, 1, [], .null),
  (19, .getfield 9, 3, [0, 1, 474, 0], .null),
  (22, .iload_n 1, 1, [], .null),
  (23, .iaload, 1, [], .null),
  (24, .goto 4, 3, [28], .null),
  (27, .iconst (-1), 1, [], .int (zI (-1))),
  (28, .ireturn, 1, [], .null)])
set_option maxRecDepth 100000 in
theorem okX0_fitting : ssOk mX0_fitting = true := by decide +kernel
set_option maxRecDepth 100000 in
theorem caX0_fitting : ssCa mX0_fitting = true := by decide +kernel
def mX0_actToAsk : ssM := (0, yX0_actToAsk, cX0_actToAsk, 6, (some .int), [1008, 1006, 1007, 121, 0, 1, 3, 0], [
  (0, .aload_n 0, 1, [], .null),
  (1, .getfield 25, 3, [0, 0, 472, 0], .null),
  (4, .iconst 1, 1, [], .int (zI 1)),
  (5, .iadd, 1, [], .null),
  (6, .istore_n 2, 1, [], .null),
  (7, .bipush (-2), 2, [], .int (zI (-2))),
  (9, .istore_n 3, 1, [], .null),
  (10, .iconst 0, 1, [], .int (zI 0)),
  (11, .istore 4, 2, [], .null),
  (13, .iload 4, 2, [], .null),
  (15, .iload_n 1, 1, [], .null),
  (16, .if_icmp .ge 36, 3, [52], .null),
  (19, .aload_n 0, 1, [], .null),
  (20, .getfield 25, 3, [0, 0, 472, 0], .null),
  (23, .ifCond .le 29, 3, [52], .null),
  (26, .aload_n 0, 1, [], .null),
  (27, .iload 4, 2, [], .null),
  (29, .invokevirtual 59, 3, [4, 1009, 0], .null),
  (32, .istore 5, 2, [], .null),
  (34, .iload 5, 2, [], .null),
  (36, .iload_n 2, 1, [], .null),
  (37, .if_icmp .ge 9, 3, [46], .null),
  (40, .iload 5, 2, [], .null),
  (42, .istore_n 2, 1, [], .null),
  (43, .iload 4, 2, [], .null),
  (45, .istore_n 3, 1, [], .null),
  (46, .iinc 4 1, 3, [], .int (zI 1)),
  (49, .goto (-36), 3, [13], .null),
  (52, .iload_n 3, 1, [], .null),
  (53, .ireturn, 1, [], .null)])
set_option maxRecDepth 100000 in
theorem okX0_actToAsk : ssOk mX0_actToAsk = true := by decide +kernel
set_option maxRecDepth 100000 in
theorem caX0_actToAsk : ssCa mX0_actToAsk = true := by decide +kernel
def mX0_leftBy : ssM := (0, yX0_leftBy, cX0_leftBy, 4, (some .int), [1012, 1010, 1011, 121, 0, 1, 4, 0], [
  (0, .iconst 0, 1, [], .int (zI 0)),
  (1, .istore_n 2, 1, [], .null),
  (2, .iconst 0, 1, [], .int (zI 0)),
  (3, .istore_n 3, 1, [], .null),
  (4, .iload_n 3, 1, [], .null),
  (5, .aload_n 0, 1, [], .null),
  (6, .getfield 25, 3, [0, 0, 472, 0], .null),
  (9, .if_icmp .ge 28, 3, [37], .null),
  (12, .iload_n 3, 1, [], .null),
  (13, .bipush 41, 2, [], .int (zI 41)),
  (15, .if_icmp .gt 22, 3, [37], .null),
  (18, .iload_n 2, 1, [], .null),
  (19, .aload_n 0, 1, [], .null),
  (20, .getfield 15, 3, [0, 2, 475, 0], .null),
  (23, .iload_n 3, 1, [], .null),
  (24, .iaload, 1, [], .null),
  (25, .iload_n 1, 1, [], .null),
  (26, .ishr, 1, [], .null),
  (27, .iconst 1, 1, [], .int (zI 1)),
  (28, .iand, 1, [], .null),
  (29, .iadd, 1, [], .null),
  (30, .istore_n 2, 1, [], .null),
  (31, .iinc 3 1, 3, [], .int (zI 1)),
  (34, .goto (-30), 3, [4], .null),
  (37, .iload_n 2, 1, [], .null),
  (38, .aload_n 0, 1, [], .null),
  (39, .getfield 25, 3, [0, 0, 472, 0], .null),
  (42, .iload_n 2, 1, [], .null),
  (43, .isub, 1, [], .null),
  (44, .invokestatic 62, 3, [289, 1013, 0], .null),
  (47, .ireturn, 1, [], .null)])
set_option maxRecDepth 100000 in
theorem okX0_leftBy : ssOk mX0_leftBy = true := by decide +kernel
set_option maxRecDepth 100000 in
theorem caX0_leftBy : ssCa mX0_leftBy = true := by decide +kernel
def mX1_init : ssM := (1, yX1_init, cX1_init, 1, none, [430, 429, 0, 120, 0, 0, 5, 1], [
  (0, .aload_n 0, 1, [], .null),
  (1, .invokespecial 3, 3, [292, 431, 0], .null),
  (4, .aload_n 0, 1, [], .null),
  (5, .bipush 6, 2, [], .int (zI 6)),
  (7, .newarray .int, 2, [0], .null),
  (9, .putfield 9, 3, [1, 1, 436, 0], .null),
  (12, .aload_n 0, 1, [], .null),
  (13, .bipush 6, 2, [], .int (zI 6)),
  (15, .newarray .int, 2, [0], .null),
  (17, .putfield 15, 3, [1, 2, 438, 0], .null),
  (20, .aload_n 0, 1, [], .null),
  (21, .bipush 36, 2, [], .int (zI 36)),
  (23, .newarray .int, 2, [0], .null),
  (25, .putfield 18, 3, [1, 3, 439, 0], .null),
  (28, .aload_n 0, 1, [], .null),
  (29, .new 21, 3, [6, 432], .null),
  (32, .dup, 1, [], .null),
  (33, .invokespecial 23, 3, [69, 433, 0], .null),
  (36, .putfield 24, 3, [1, 4, 440, 0], .null),
  (39, .return_, 1, [], .null)])
set_option maxRecDepth 100000 in
theorem okX1_init : ssOk mX1_init = true := by decide +kernel
set_option maxRecDepth 100000 in
theorem caX1_init : ssCa mX1_init = true := by decide +kernel
def mX1_forMostGood : ssM := (1, yX1_forMostGood, cX1_forMostGood, 7, none, [908, 906, 907, 120, 0, 3, 6, 0], [
  (0, .aload_n 0, 1, [], .null),
  (1, .aload_n 1, 1, [], .null),
  (2, .iconst 0, 1, [], .int (zI 0)),
  (3, .invokevirtual 28, 3, [8, 909, 0], .null),
  (6, .iconst 0, 1, [], .int (zI 0)),
  (7, .istore 4, 2, [], .null),
  (9, .iload 4, 2, [], .null),
  (11, .aload_n 0, 1, [], .null),
  (12, .getfield 32, 3, [1, 5, 441, 0], .null),
  (15, .if_icmp .ge 99, 3, [114], .null),
  (18, .iload 4, 2, [], .null),
  (20, .bipush 6, 2, [], .int (zI 6)),
  (22, .if_icmp .ge 92, 3, [114], .null),
  (25, .iconst 0, 1, [], .int (zI 0)),
  (26, .istore 5, 2, [], .null),
  (28, .iload 5, 2, [], .null),
  (30, .aload_n 0, 1, [], .null),
  (31, .getfield 36, 3, [1, 6, 442, 0], .null),
  (34, .if_icmp .ge 74, 3, [108], .null),
  (37, .iload 5, 2, [], .null),
  (39, .bipush 6, 2, [], .int (zI 6)),
  (41, .if_icmp .ge 67, 3, [108], .null),
  (44, .aload_n 2, 1, [], .null),
  (45, .getfield 39, 3, [2, 5, 236, 0], .null),
  (48, .iload 4, 2, [], .null),
  (50, .iaload, 1, [], .null),
  (51, .aload_n 1, 1, [], .null),
  (52, .aload_n 2, 1, [], .null),
  (53, .getfield 44, 3, [2, 3, 226, 0], .null),
  (56, .iload 4, 2, [], .null),
  (58, .iaload, 1, [], .null),
  (59, .iload 5, 2, [], .null),
  (61, .aload_n 2, 1, [], .null),
  (62, .getfield 47, 3, [2, 0, 216, 0], .null),
  (65, .iload_n 3, 1, [], .null),
  (66, .invokevirtual 50, 3, [43, 913, 0], .null),
  (69, .if_icmp .le 7, 3, [76], .null),
  (72, .iconst 1, 1, [], .int (zI 1)),
  (73, .goto 4, 3, [77], .null),
  (76, .iconst 0, 1, [], .int (zI 0)),
  (77, .istore 6, 2, [], .null),
  (79, .aload_n 0, 1, [], .null),
  (80, .getfield 18, 3, [1, 3, 439, 0], .null),
  (83, .iload 4, 2, [], .null),
  (85, .bipush 6, 2, [], .int (zI 6)),
  (87, .imul, 1, [], .null),
  (88, .iload 5, 2, [], .null),
  (90, .iadd, 1, [], .null),
  (91, .iload 6, 2, [], .null),
  (93, .ifCond .eq 7, 3, [100], .null),
  (96, .iconst 1, 1, [], .int (zI 1)),
  (97, .goto 4, 3, [101], .null),
  (100, .iconst 0, 1, [], .int (zI 0)),
  (101, .iastore, 1, [], .null),
  (102, .iinc 5 1, 3, [], .int (zI 1)),
  (105, .goto (-77), 3, [28], .null),
  (108, .iinc 4 1, 3, [], .int (zI 1)),
  (111, .goto (-102), 3, [9], .null),
  (114, .aload_n 0, 1, [], .null),
  (115, .invokevirtual 56, 3, [9, 914, 0], .null),
  (118, .aload_n 0, 1, [], .null),
  (119, .iconst 0, 1, [], .int (zI 0)),
  (120, .iconst 0, 1, [], .int (zI 0)),
  (121, .invokevirtual 59, 3, [10, 928, 0], .null),
  (124, .return_, 1, [], .null)])
set_option maxRecDepth 100000 in
theorem okX1_forMostGood : ssOk mX1_forMostGood = true := by decide +kernel
set_option maxRecDepth 100000 in
theorem caX1_forMostGood : ssCa mX1_forMostGood = true := by decide +kernel
def mX1_forLongest : ssM := (1, yX1_forLongest, cX1_forLongest, 5, none, [948, 946, 947, 120, 0, 2, 7, 0], [
  (0, .aload_n 0, 1, [], .null),
  (1, .aload_n 1, 1, [], .null),
  (2, .aload_n 1, 1, [], .null),
  (3, .getfield 63, 3, [4, 0, 257, 0], .null),
  (6, .invokevirtual 28, 3, [8, 909, 0], .null),
  (9, .iconst 0, 1, [], .int (zI 0)),
  (10, .istore_n 3, 1, [], .null),
  (11, .iload_n 3, 1, [], .null),
  (12, .aload_n 0, 1, [], .null),
  (13, .getfield 32, 3, [1, 5, 441, 0], .null),
  (16, .if_icmp .ge 66, 3, [82], .null),
  (19, .iload_n 3, 1, [], .null),
  (20, .bipush 6, 2, [], .int (zI 6)),
  (22, .if_icmp .ge 60, 3, [82], .null),
  (25, .iconst 0, 1, [], .int (zI 0)),
  (26, .istore 4, 2, [], .null),
  (28, .iload 4, 2, [], .null),
  (30, .aload_n 0, 1, [], .null),
  (31, .getfield 36, 3, [1, 6, 442, 0], .null),
  (34, .if_icmp .ge 42, 3, [76], .null),
  (37, .iload 4, 2, [], .null),
  (39, .bipush 6, 2, [], .int (zI 6)),
  (41, .if_icmp .ge 35, 3, [76], .null),
  (44, .aload_n 0, 1, [], .null),
  (45, .getfield 18, 3, [1, 3, 439, 0], .null),
  (48, .iload_n 3, 1, [], .null),
  (49, .bipush 6, 2, [], .int (zI 6)),
  (51, .imul, 1, [], .null),
  (52, .iload 4, 2, [], .null),
  (54, .iadd, 1, [], .null),
  (55, .aload_n 1, 1, [], .null),
  (56, .aload_n 2, 1, [], .null),
  (57, .iload_n 3, 1, [], .null),
  (58, .aload_n 2, 1, [], .null),
  (59, .getfield 44, 3, [2, 3, 226, 0], .null),
  (62, .iload_n 3, 1, [], .null),
  (63, .iaload, 1, [], .null),
  (64, .iload 4, 2, [], .null),
  (66, .invokevirtual 66, 3, [45, 949, 0], .null),
  (69, .iastore, 1, [], .null),
  (70, .iinc 4 1, 3, [], .int (zI 1)),
  (73, .goto (-45), 3, [28], .null),
  (76, .iinc 3 1, 3, [], .int (zI 1)),
  (79, .goto (-68), 3, [11], .null),
  (82, .aload_n 0, 1, [], .null),
  (83, .invokevirtual 56, 3, [9, 914, 0], .null),
  (86, .aload_n 0, 1, [], .null),
  (87, .iconst 0, 1, [], .int (zI 0)),
  (88, .iconst 0, 1, [], .int (zI 0)),
  (89, .invokevirtual 59, 3, [10, 928, 0], .null),
  (92, .return_, 1, [], .null)])
set_option maxRecDepth 100000 in
theorem okX1_forLongest : ssOk mX1_forLongest = true := by decide +kernel
set_option maxRecDepth 100000 in
theorem caX1_forLongest : ssCa mX1_forLongest = true := by decide +kernel
def mX1_begin : ssM := (1, yX1_begin, cX1_begin, 3, none, [912, 911, 31, 120, 0, 2, 8, 0], [
  (0, .aload_n 0, 1, [], .null),
  (1, .aload_n 1, 1, [], .null),
  (2, .getfield 70, 3, [4, 5, 278, 0], .null),
  (5, .putfield 32, 3, [1, 5, 441, 0], .null),
  (8, .aload_n 0, 1, [], .null),
  (9, .aload_n 1, 1, [], .null),
  (10, .getfield 73, 3, [4, 3, 268, 0], .null),
  (13, .putfield 36, 3, [1, 6, 442, 0], .null),
  (16, .aload_n 0, 1, [], .null),
  (17, .iload_n 2, 1, [], .null),
  (18, .putfield 76, 3, [1, 7, 443, 0], .null),
  (21, .return_, 1, [], .null)])
set_option maxRecDepth 100000 in
theorem okX1_begin : ssOk mX1_begin = true := by decide +kernel
set_option maxRecDepth 100000 in
theorem caX1_begin : ssCa mX1_begin = true := by decide +kernel
def mX1_setBound : ssM := (1, yX1_setBound, cX1_setBound, 3, none, [917, 916, 32, 120, 0, 0, 9, 0], [
  (0, .iconst 0, 1, [], .int (zI 0)),
  (1, .istore_n 1, 1, [], .null),
  (2, .iload_n 1, 1, [], .null),
  (3, .aload_n 0, 1, [], .null),
  (4, .getfield 32, 3, [1, 5, 441, 0], .null),
  (7, .if_icmp .ge 79, 3, [86], .null),
  (10, .iload_n 1, 1, [], .null),
  (11, .bipush 6, 2, [], .int (zI 6)),
  (13, .if_icmp .ge 73, 3, [86], .null),
  (16, .aload_n 0, 1, [], .null),
  (17, .getfield 24, 3, [1, 4, 440, 0], .null),
  (20, .getfield 77, 3, [6, 0, 421, 0], .null),
  (23, .iload_n 1, 1, [], .null),
  (24, .iconst 0, 1, [], .int (zI 0)),
  (25, .iastore, 1, [], .null),
  (26, .iconst 0, 1, [], .int (zI 0)),
  (27, .istore_n 2, 1, [], .null),
  (28, .iload_n 2, 1, [], .null),
  (29, .aload_n 0, 1, [], .null),
  (30, .getfield 36, 3, [1, 6, 442, 0], .null),
  (33, .if_icmp .ge 47, 3, [80], .null),
  (36, .iload_n 2, 1, [], .null),
  (37, .bipush 6, 2, [], .int (zI 6)),
  (39, .if_icmp .ge 41, 3, [80], .null),
  (42, .aload_n 0, 1, [], .null),
  (43, .getfield 24, 3, [1, 4, 440, 0], .null),
  (46, .getfield 77, 3, [6, 0, 421, 0], .null),
  (49, .iload_n 1, 1, [], .null),
  (50, .aload_n 0, 1, [], .null),
  (51, .getfield 24, 3, [1, 4, 440, 0], .null),
  (54, .getfield 77, 3, [6, 0, 421, 0], .null),
  (57, .iload_n 1, 1, [], .null),
  (58, .iaload, 1, [], .null),
  (59, .aload_n 0, 1, [], .null),
  (60, .getfield 18, 3, [1, 3, 439, 0], .null),
  (63, .iload_n 1, 1, [], .null),
  (64, .bipush 6, 2, [], .int (zI 6)),
  (66, .imul, 1, [], .null),
  (67, .iload_n 2, 1, [], .null),
  (68, .iadd, 1, [], .null),
  (69, .iaload, 1, [], .null),
  (70, .invokestatic 80, 3, [289, 918, 0], .null),
  (73, .iastore, 1, [], .null),
  (74, .iinc 2 1, 3, [], .int (zI 1)),
  (77, .goto (-49), 3, [28], .null),
  (80, .iinc 1 1, 3, [], .int (zI 1)),
  (83, .goto (-81), 3, [2], .null),
  (86, .aload_n 0, 1, [], .null),
  (87, .aload_n 0, 1, [], .null),
  (88, .invokevirtual 86, 3, [11, 919, 0], .null),
  (91, .putfield 90, 3, [1, 8, 444, 0], .null),
  (94, .aload_n 0, 1, [], .null),
  (95, .iconst (-1), 1, [], .int (zI (-1))),
  (96, .putfield 93, 3, [1, 0, 434, 0], .null),
  (99, .return_, 1, [], .null)])
set_option maxRecDepth 100000 in
theorem okX1_setBound : ssOk mX1_setBound = true := by decide +kernel
set_option maxRecDepth 100000 in
theorem caX1_setBound : ssCa mX1_setBound = true := by decide +kernel
def mX1_place : ssM := (1, yX1_place, cX1_place, 4, none, [931, 930, 34, 120, 0, 2, 10, 0], [
  (0, .iload_n 1, 1, [], .null),
  (1, .aload_n 0, 1, [], .null),
  (2, .getfield 32, 3, [1, 5, 441, 0], .null),
  (5, .if_icmp .ge 9, 3, [14], .null),
  (8, .iload_n 1, 1, [], .null),
  (9, .bipush 6, 2, [], .int (zI 6)),
  (11, .if_icmp .lt 12, 3, [23], .null),
  (14, .aload_n 0, 1, [], .null),
  (15, .aload_n 0, 1, [], .null),
  (16, .invokevirtual 86, 3, [11, 919, 0], .null),
  (19, .invokevirtual 96, 3, [12, 932, 0], .null),
  (22, .return_, 1, [], .null),
  (23, .iconst 0, 1, [], .int (zI 0)),
  (24, .istore_n 3, 1, [], .null),
  (25, .iload_n 3, 1, [], .null),
  (26, .aload_n 0, 1, [], .null),
  (27, .getfield 36, 3, [1, 6, 442, 0], .null),
  (30, .if_icmp .ge 73, 3, [103], .null),
  (33, .iload_n 3, 1, [], .null),
  (34, .bipush 6, 2, [], .int (zI 6)),
  (36, .if_icmp .ge 67, 3, [103], .null),
  (39, .aload_n 0, 1, [], .null),
  (40, .getfield 93, 3, [1, 0, 434, 0], .null),
  (43, .aload_n 0, 1, [], .null),
  (44, .getfield 90, 3, [1, 8, 444, 0], .null),
  (47, .if_icmp .ge 56, 3, [103], .null),
  (50, .iload_n 2, 1, [], .null),
  (51, .iload_n 3, 1, [], .null),
  (52, .ishr, 1, [], .null),
  (53, .iconst 1, 1, [], .int (zI 1)),
  (54, .iand, 1, [], .null),
  (55, .ifCond .ne 42, 3, [97], .null),
  (58, .aload_n 0, 1, [], .null),
  (59, .getfield 15, 3, [1, 2, 438, 0], .null),
  (62, .iload_n 1, 1, [], .null),
  (63, .iload_n 3, 1, [], .null),
  (64, .iastore, 1, [], .null),
  (65, .aload_n 0, 1, [], .null),
  (66, .getfield 24, 3, [1, 4, 440, 0], .null),
  (69, .getfield 77, 3, [6, 0, 421, 0], .null),
  (72, .iload_n 1, 1, [], .null),
  (73, .aload_n 0, 1, [], .null),
  (74, .getfield 18, 3, [1, 3, 439, 0], .null),
  (77, .iload_n 1, 1, [], .null),
  (78, .bipush 6, 2, [], .int (zI 6)),
  (80, .imul, 1, [], .null),
  (81, .iload_n 3, 1, [], .null),
  (82, .iadd, 1, [], .null),
  (83, .iaload, 1, [], .null),
  (84, .iastore, 1, [], .null),
  (85, .aload_n 0, 1, [], .null),
  (86, .iload_n 1, 1, [], .null),
  (87, .iconst 1, 1, [], .int (zI 1)),
  (88, .iadd, 1, [], .null),
  (89, .iload_n 2, 1, [], .null),
  (90, .iconst 1, 1, [], .int (zI 1)),
  (91, .iload_n 3, 1, [], .null),
  (92, .ishl, 1, [], .null),
  (93, .ior, 1, [], .null),
  (94, .invokevirtual 59, 3, [10, 928, 0], .null),
  (97, .iinc 3 1, 3, [], .int (zI 1)),
  (100, .goto (-75), 3, [25], .null),
  (103, .return_, 1, [], .null)])
set_option maxRecDepth 100000 in
theorem okX1_place : ssOk mX1_place = true := by decide +kernel
set_option maxRecDepth 100000 in
theorem caX1_place : ssCa mX1_place = true := by decide +kernel
def mX1_valueOfChosen : ssM := (1, yX1_valueOfChosen, cX1_valueOfChosen, 1, (some .int), [922, 921, 33, 120, 0, 0, 11, 0], [
  (0, .aload_n 0, 1, [], .null),
  (1, .getfield 76, 3, [1, 7, 443, 0], .null),
  (4, .ifCond .ne 17, 3, [21], .null),
  (7, .aload_n 0, 1, [], .null),
  (8, .getfield 24, 3, [1, 4, 440, 0], .null),
  (11, .aload_n 0, 1, [], .null),
  (12, .getfield 32, 3, [1, 5, 441, 0], .null),
  (15, .invokevirtual 100, 3, [72, 923, 0], .null),
  (18, .goto 18, 3, [36], .null),
  (21, .aload_n 0, 1, [], .null),
  (22, .getfield 24, 3, [1, 4, 440, 0], .null),
  (25, .aload_n 0, 1, [], .null),
  (26, .getfield 32, 3, [1, 5, 441, 0], .null),
  (29, .aload_n 0, 1, [], .null),
  (30, .getfield 76, 3, [1, 7, 443, 0], .null),
  (33, .invokevirtual 104, 3, [73, 927, 0], .null),
  (36, .ireturn, 1, [], .null)])
set_option maxRecDepth 100000 in
theorem okX1_valueOfChosen : ssOk mX1_valueOfChosen = true := by decide +kernel
set_option maxRecDepth 100000 in
theorem caX1_valueOfChosen : ssCa mX1_valueOfChosen = true := by decide +kernel
def mX1_keepIfBetter : ssM := (1, yX1_keepIfBetter, cX1_keepIfBetter, 2, none, [935, 934, 35, 120, 0, 1, 12, 0], [
  (0, .iload_n 1, 1, [], .null),
  (1, .aload_n 0, 1, [], .null),
  (2, .getfield 93, 3, [1, 0, 434, 0], .null),
  (5, .if_icmp .le 23, 3, [28], .null),
  (8, .aload_n 0, 1, [], .null),
  (9, .iload_n 1, 1, [], .null),
  (10, .putfield 93, 3, [1, 0, 434, 0], .null),
  (13, .aload_n 0, 1, [], .null),
  (14, .getfield 15, 3, [1, 2, 438, 0], .null),
  (17, .iconst 0, 1, [], .int (zI 0)),
  (18, .aload_n 0, 1, [], .null),
  (19, .getfield 9, 3, [1, 1, 436, 0], .null),
  (22, .iconst 0, 1, [], .int (zI 0)),
  (23, .bipush 6, 2, [], .int (zI 6)),
  (25, .invokestatic 107, 3, [291, 936, 0], .null),
  (28, .return_, 1, [], .null)])
set_option maxRecDepth 100000 in
theorem okX1_keepIfBetter : ssOk mX1_keepIfBetter = true := by decide +kernel
set_option maxRecDepth 100000 in
theorem caX1_keepIfBetter : ssCa mX1_keepIfBetter = true := by decide +kernel
def mX2_init : ssM := (2, yX2_init, cX2_init, 1, none, [213, 212, 0, 117, 0, 0, 13, 1], [
  (0, .aload_n 0, 1, [], .null),
  (1, .invokespecial 3, 3, [292, 214, 0], .null),
  (4, .aload_n 0, 1, [], .null),
  (5, .bipush 6, 2, [], .int (zI 6)),
  (7, .newarray .int, 2, [0], .null),
  (9, .putfield 9, 3, [2, 3, 224, 0], .null),
  (12, .aload_n 0, 1, [], .null),
  (13, .bipush 6, 2, [], .int (zI 6)),
  (15, .newarray .int, 2, [0], .null),
  (17, .putfield 15, 3, [2, 4, 230, 0], .null),
  (20, .aload_n 0, 1, [], .null),
  (21, .bipush 6, 2, [], .int (zI 6)),
  (23, .newarray .int, 2, [0], .null),
  (25, .putfield 18, 3, [2, 5, 235, 0], .null),
  (28, .aload_n 0, 1, [], .null),
  (29, .bipush 41, 2, [], .int (zI 41)),
  (31, .newarray .int, 2, [0], .null),
  (33, .putfield 21, 3, [2, 6, 240, 0], .null),
  (36, .return_, 1, [], .null)])
set_option maxRecDepth 100000 in
theorem okX2_init : ssOk mX2_init = true := by decide +kernel
set_option maxRecDepth 100000 in
theorem caX2_init : ssCa mX2_init = true := by decide +kernel
def mX2_copyFrom : ssM := (2, yX2_copyFrom, cX2_copyFrom, 2, none, [737, 735, 736, 117, 0, 1, 14, 0], [
  (0, .aload_n 0, 1, [], .null),
  (1, .aload_n 1, 1, [], .null),
  (2, .getfield 24, 3, [2, 0, 215, 0], .null),
  (5, .putfield 24, 3, [2, 0, 215, 0], .null),
  (8, .aload_n 0, 1, [], .null),
  (9, .aload_n 1, 1, [], .null),
  (10, .getfield 28, 3, [2, 1, 219, 0], .null),
  (13, .putfield 28, 3, [2, 1, 219, 0], .null),
  (16, .aload_n 0, 1, [], .null),
  (17, .aload_n 1, 1, [], .null),
  (18, .getfield 31, 3, [2, 2, 222, 0], .null),
  (21, .putfield 31, 3, [2, 2, 222, 0], .null),
  (24, .aload_n 1, 1, [], .null),
  (25, .getfield 9, 3, [2, 3, 224, 0], .null),
  (28, .iconst 0, 1, [], .int (zI 0)),
  (29, .aload_n 0, 1, [], .null),
  (30, .getfield 9, 3, [2, 3, 224, 0], .null),
  (33, .iconst 0, 1, [], .int (zI 0)),
  (34, .bipush 6, 2, [], .int (zI 6)),
  (36, .invokestatic 34, 3, [291, 738, 0], .null),
  (39, .aload_n 1, 1, [], .null),
  (40, .getfield 15, 3, [2, 4, 230, 0], .null),
  (43, .iconst 0, 1, [], .int (zI 0)),
  (44, .aload_n 0, 1, [], .null),
  (45, .getfield 15, 3, [2, 4, 230, 0], .null),
  (48, .iconst 0, 1, [], .int (zI 0)),
  (49, .bipush 6, 2, [], .int (zI 6)),
  (51, .invokestatic 34, 3, [291, 738, 0], .null),
  (54, .aload_n 1, 1, [], .null),
  (55, .getfield 18, 3, [2, 5, 235, 0], .null),
  (58, .iconst 0, 1, [], .int (zI 0)),
  (59, .aload_n 0, 1, [], .null),
  (60, .getfield 18, 3, [2, 5, 235, 0], .null),
  (63, .iconst 0, 1, [], .int (zI 0)),
  (64, .bipush 6, 2, [], .int (zI 6)),
  (66, .invokestatic 34, 3, [291, 738, 0], .null),
  (69, .aload_n 1, 1, [], .null),
  (70, .getfield 21, 3, [2, 6, 240, 0], .null),
  (73, .iconst 0, 1, [], .int (zI 0)),
  (74, .aload_n 0, 1, [], .null),
  (75, .getfield 21, 3, [2, 6, 240, 0], .null),
  (78, .iconst 0, 1, [], .int (zI 0)),
  (79, .bipush 41, 2, [], .int (zI 41)),
  (81, .invokestatic 34, 3, [291, 738, 0], .null),
  (84, .return_, 1, [], .null)])
set_option maxRecDepth 100000 in
theorem okX2_copyFrom : ssOk mX2_copyFrom = true := by decide +kernel
set_option maxRecDepth 100000 in
theorem caX2_copyFrom : ssCa mX2_copyFrom = true := by decide +kernel
def mX2_goodBits : ssM := (2, yX2_goodBits, cX2_goodBits, 4, (some .int), [858, 856, 857, 117, 0, 1, 15, 0], [
  (0, .iconst 0, 1, [], .int (zI 0)),
  (1, .istore_n 2, 1, [], .null),
  (2, .iconst 0, 1, [], .int (zI 0)),
  (3, .istore_n 3, 1, [], .null),
  (4, .iload_n 3, 1, [], .null),
  (5, .iload_n 1, 1, [], .null),
  (6, .if_icmp .ge 30, 3, [36], .null),
  (9, .iload_n 3, 1, [], .null),
  (10, .bipush 6, 2, [], .int (zI 6)),
  (12, .if_icmp .ge 24, 3, [36], .null),
  (15, .aload_n 0, 1, [], .null),
  (16, .getfield 18, 3, [2, 5, 235, 0], .null),
  (19, .iload_n 3, 1, [], .null),
  (20, .iaload, 1, [], .null),
  (21, .ifCond .le 9, 3, [30], .null),
  (24, .iload_n 2, 1, [], .null),
  (25, .iconst 1, 1, [], .int (zI 1)),
  (26, .iload_n 3, 1, [], .null),
  (27, .ishl, 1, [], .null),
  (28, .ior, 1, [], .null),
  (29, .istore_n 2, 1, [], .null),
  (30, .iinc 3 1, 3, [], .int (zI 1)),
  (33, .goto (-29), 3, [4], .null),
  (36, .iload_n 2, 1, [], .null),
  (37, .ireturn, 1, [], .null)])
set_option maxRecDepth 100000 in
theorem okX2_goodBits : ssOk mX2_goodBits = true := by decide +kernel
set_option maxRecDepth 100000 in
theorem caX2_goodBits : ssCa mX2_goodBits = true := by decide +kernel
def mX2_whoHangsAt : ssM := (2, yX2_whoHangsAt, cX2_whoHangsAt, 4, (some .int), [792, 790, 791, 117, 0, 2, 16, 0], [
  (0, .iconst 0, 1, [], .int (zI 0)),
  (1, .istore_n 3, 1, [], .null),
  (2, .iload_n 3, 1, [], .null),
  (3, .iload_n 2, 1, [], .null),
  (4, .if_icmp .ge 27, 3, [31], .null),
  (7, .iload_n 3, 1, [], .null),
  (8, .bipush 6, 2, [], .int (zI 6)),
  (10, .if_icmp .ge 21, 3, [31], .null),
  (13, .aload_n 0, 1, [], .null),
  (14, .getfield 15, 3, [2, 4, 230, 0], .null),
  (17, .iload_n 3, 1, [], .null),
  (18, .iaload, 1, [], .null),
  (19, .iload_n 1, 1, [], .null),
  (20, .if_icmp .ne 5, 3, [25], .null),
  (23, .iload_n 3, 1, [], .null),
  (24, .ireturn, 1, [], .null),
  (25, .iinc 3 1, 3, [], .int (zI 1)),
  (28, .goto (-26), 3, [2], .null),
  (31, .bipush (-2), 2, [], .int (zI (-2))),
  (33, .ireturn, 1, [], .null)])
set_option maxRecDepth 100000 in
theorem okX2_whoHangsAt : ssOk mX2_whoHangsAt = true := by decide +kernel
set_option maxRecDepth 100000 in
theorem caX2_whoHangsAt : ssCa mX2_whoHangsAt = true := by decide +kernel
def mX2_passDay : ssM := (2, yX2_passDay, cX2_passDay, 5, none, [1146, 1144, 1145, 117, 0, 1, 17, 0], [
  (0, .aload_n 0, 1, [], .null),
  (1, .getfield 24, 3, [2, 0, 215, 0], .null),
  (4, .ifCond .lt 29, 3, [33], .null),
  (7, .aload_n 0, 1, [], .null),
  (8, .getfield 24, 3, [2, 0, 215, 0], .null),
  (11, .bipush 40, 2, [], .int (zI 40)),
  (13, .if_icmp .gt 20, 3, [33], .null),
  (16, .aload_n 0, 1, [], .null),
  (17, .getfield 21, 3, [2, 6, 240, 0], .null),
  (20, .aload_n 0, 1, [], .null),
  (21, .getfield 24, 3, [2, 0, 215, 0], .null),
  (24, .aload_n 0, 1, [], .null),
  (25, .aload_n 1, 1, [], .null),
  (26, .getfield 40, 3, [4, 5, 279, 0], .null),
  (29, .invokevirtual 45, 3, [15, 1147, 0], .null),
  (32, .iastore, 1, [], .null),
  (33, .aload_n 0, 1, [], .null),
  (34, .aload_n 0, 1, [], .null),
  (35, .getfield 31, 3, [2, 2, 222, 0], .null),
  (38, .invokestatic 49, 3, [48, 1148, 0], .null),
  (41, .putfield 31, 3, [2, 2, 222, 0], .null),
  (44, .aload_n 1, 1, [], .null),
  (45, .aload_n 0, 1, [], .null),
  (46, .getfield 31, 3, [2, 2, 222, 0], .null),
  (49, .invokevirtual 52, 3, [49, 1149, 0], .null),
  (52, .istore_n 2, 1, [], .null),
  (53, .iconst 0, 1, [], .int (zI 0)),
  (54, .istore_n 3, 1, [], .null),
  (55, .iload_n 3, 1, [], .null),
  (56, .aload_n 1, 1, [], .null),
  (57, .getfield 40, 3, [4, 5, 279, 0], .null),
  (60, .if_icmp .ge 74, 3, [134], .null),
  (63, .iload_n 3, 1, [], .null),
  (64, .bipush 6, 2, [], .int (zI 6)),
  (66, .if_icmp .ge 68, 3, [134], .null),
  (69, .aload_n 1, 1, [], .null),
  (70, .aload_n 0, 1, [], .null),
  (71, .getfield 9, 3, [2, 3, 224, 0], .null),
  (74, .iload_n 3, 1, [], .null),
  (75, .iaload, 1, [], .null),
  (76, .aload_n 0, 1, [], .null),
  (77, .getfield 15, 3, [2, 4, 230, 0], .null),
  (80, .iload_n 3, 1, [], .null),
  (81, .iaload, 1, [], .null),
  (82, .aload_n 0, 1, [], .null),
  (83, .getfield 24, 3, [2, 0, 215, 0], .null),
  (86, .iconst 1, 1, [], .int (zI 1)),
  (87, .invokevirtual 56, 3, [43, 1150, 0], .null),
  (90, .istore 4, 2, [], .null),
  (92, .iload_n 2, 1, [], .null),
  (93, .ifCond .eq 16, 3, [109], .null),
  (96, .aload_n 0, 1, [], .null),
  (97, .getfield 9, 3, [2, 3, 224, 0], .null),
  (100, .iload_n 3, 1, [], .null),
  (101, .iaload, 1, [], .null),
  (102, .iconst 1, 1, [], .int (zI 1)),
  (103, .if_icmp .eq 6, 3, [109], .null),
  (106, .iinc 4 3, 3, [], .int (zI 3)),
  (109, .aload_n 0, 1, [], .null),
  (110, .getfield 18, 3, [2, 5, 235, 0], .null),
  (113, .iload_n 3, 1, [], .null),
  (114, .iconst 0, 1, [], .int (zI 0)),
  (115, .aload_n 0, 1, [], .null),
  (116, .getfield 18, 3, [2, 5, 235, 0], .null),
  (119, .iload_n 3, 1, [], .null),
  (120, .iaload, 1, [], .null),
  (121, .iload 4, 2, [], .null),
  (123, .isub, 1, [], .null),
  (124, .invokestatic 60, 3, [289, 1151, 0], .null),
  (127, .iastore, 1, [], .null),
  (128, .iinc 3 1, 3, [], .int (zI 1)),
  (131, .goto (-76), 3, [55], .null),
  (134, .aload_n 0, 1, [], .null),
  (135, .dup, 1, [], .null),
  (136, .getfield 24, 3, [2, 0, 215, 0], .null),
  (139, .iconst 1, 1, [], .int (zI 1)),
  (140, .iadd, 1, [], .null),
  (141, .putfield 24, 3, [2, 0, 215, 0], .null),
  (144, .return_, 1, [], .null)])
set_option maxRecDepth 100000 in
theorem okX2_passDay : ssOk mX2_passDay = true := by decide +kernel
set_option maxRecDepth 100000 in
theorem caX2_passDay : ssCa mX2_passDay = true := by decide +kernel
def mX3_init : ssM := (3, yX3_init, cX3_init, 1, none, [147, 146, 0, 114, 0, 0, 18, 1], [
  (0, .aload_n 0, 1, [], .null),
  (1, .invokespecial 3, 3, [292, 148, 0], .null),
  (4, .aload_n 0, 1, [], .null),
  (5, .new 9, 3, [5, 149], .null),
  (8, .dup, 1, [], .null),
  (9, .invokespecial 11, 3, [58, 151, 0], .null),
  (12, .putfield 12, 3, [3, 0, 352, 0], .null),
  (15, .aload_n 0, 1, [], .null),
  (16, .new 18, 3, [4, 203], .null),
  (19, .dup, 1, [], .null),
  (20, .invokespecial 20, 3, [39, 205, 0], .null),
  (23, .putfield 21, 3, [3, 3, 358, 0], .null),
  (26, .aload_n 0, 1, [], .null),
  (27, .bipush 17, 2, [], .int (zI 17)),
  (29, .newarray .long, 2, [2], .null),
  (31, .putfield 25, 3, [3, 8, 363, 0], .null),
  (34, .aload_n 0, 1, [], .null),
  (35, .bipush 17, 2, [], .int (zI 17)),
  (37, .newarray .int, 2, [0], .null),
  (39, .putfield 29, 3, [3, 9, 364, 0], .null),
  (42, .aload_n 0, 1, [], .null),
  (43, .bipush 17, 2, [], .int (zI 17)),
  (45, .newarray .int, 2, [0], .null),
  (47, .putfield 33, 3, [3, 10, 365, 0], .null),
  (50, .return_, 1, [], .null)])
set_option maxRecDepth 100000 in
theorem okX3_init : ssOk mX3_init = true := by decide +kernel
set_option maxRecDepth 100000 in
theorem caX3_init : ssCa mX3_init = true := by decide +kernel
def mX3_exchange : ssM := (3, yX3_exchange, cX3_exchange, 3, (some (.object "SafeSenate$Plan")), [733, 731, 732, 114, 0, 1, 19, 0], [
  (0, .aload_n 0, 1, [], .null),
  (1, .getfield 21, 3, [3, 3, 358, 0], .null),
  (4, .astore_n 2, 1, [], .null),
  (5, .aload_n 0, 1, [], .null),
  (6, .aload_n 1, 1, [], .null),
  (7, .putfield 21, 3, [3, 3, 358, 0], .null),
  (10, .aload_n 2, 1, [], .null),
  (11, .areturn, 1, [], .null)])
set_option maxRecDepth 100000 in
theorem okX3_exchange : ssOk mX3_exchange = true := by decide +kernel
set_option maxRecDepth 100000 in
theorem caX3_exchange : ssCa mX3_exchange = true := by decide +kernel
def mX3_hear : ssM := (3, yX3_hear, cX3_hear, 3, (some .boolean), [545, 543, 544, 114, 0, 1, 20, 0], [
  (0, .aload_n 0, 1, [], .null),
  (1, .getfield 21, 3, [3, 3, 358, 0], .null),
  (4, .invokevirtual 36, 3, [40, 546, 0], .null),
  (7, .aload_n 0, 1, [], .null),
  (8, .iconst 0, 1, [], .int (zI 0)),
  (9, .putfield 39, 3, [3, 1, 354, 0], .null),
  (12, .aload_n 0, 1, [], .null),
  (13, .iconst 0, 1, [], .int (zI 0)),
  (14, .putfield 43, 3, [3, 2, 356, 0], .null),
  (17, .aload_n 0, 1, [], .null),
  (18, .iconst 0, 1, [], .int (zI 0)),
  (19, .putfield 46, 3, [3, 4, 359, 0], .null),
  (22, .aload_n 0, 1, [], .null),
  (23, .iconst 0, 1, [], .int (zI 0)),
  (24, .putfield 50, 3, [3, 6, 361, 0], .null),
  (27, .aload_n 0, 1, [], .null),
  (28, .iconst 0, 1, [], .int (zI 0)),
  (29, .putfield 53, 3, [3, 7, 362, 0], .null),
  (32, .aload_n 0, 1, [], .null),
  (33, .getfield 12, 3, [3, 0, 352, 0], .null),
  (36, .iload_n 1, 1, [], .null),
  (37, .invokevirtual 56, 3, [60, 550, 0], .null),
  (40, .iconst 0, 1, [], .int (zI 0)),
  (41, .istore_n 2, 1, [], .null),
  (42, .iload_n 2, 1, [], .null),
  (43, .sipush 900, 3, [], .int (zI 900)),
  (46, .if_icmp .gt 77, 3, [123], .null),
  (49, .aload_n 0, 1, [], .null),
  (50, .invokevirtual 60, 3, [21, 657, 0], .null),
  (53, .ifCond .ne 5, 3, [58], .null),
  (56, .iconst 0, 1, [], .int (zI 0)),
  (57, .ireturn, 1, [], .null),
  (58, .aload_n 0, 1, [], .null),
  (59, .getfield 12, 3, [3, 0, 352, 0], .null),
  (62, .getfield 64, 3, [5, 1, 157, 0], .null),
  (65, .ifCond .ne 28, 3, [93], .null),
  (68, .aload_n 0, 1, [], .null),
  (69, .getfield 21, 3, [3, 3, 358, 0], .null),
  (72, .getfield 67, 3, [4, 5, 276, 0], .null),
  (75, .ifCond .gt 12, 3, [87], .null),
  (78, .aload_n 0, 1, [], .null),
  (79, .bipush 6, 2, [], .int (zI 6)),
  (81, .invokevirtual 70, 3, [38, 661, 0], .null),
  (84, .ifCond .eq 7, 3, [91], .null),
  (87, .iconst 1, 1, [], .int (zI 1)),
  (88, .goto 4, 3, [92], .null),
  (91, .iconst 0, 1, [], .int (zI 0)),
  (92, .ireturn, 1, [], .null),
  (93, .aload_n 0, 1, [], .null),
  (94, .getfield 12, 3, [3, 0, 352, 0], .null),
  (97, .getfield 64, 3, [5, 1, 157, 0], .null),
  (100, .iconst 3, 1, [], .int (zI 3)),
  (101, .if_icmp .eq 9, 3, [110], .null),
  (104, .aload_n 0, 1, [], .null),
  (105, .iconst 1, 1, [], .int (zI 1)),
  (106, .invokevirtual 70, 3, [38, 661, 0], .null),
  (109, .ireturn, 1, [], .null),
  (110, .aload_n 0, 1, [], .null),
  (111, .getfield 12, 3, [3, 0, 352, 0], .null),
  (114, .invokevirtual 74, 3, [61, 669, 0], .null),
  (117, .iinc 2 1, 3, [], .int (zI 1)),
  (120, .goto (-78), 3, [42], .null),
  (123, .aload_n 0, 1, [], .null),
  (124, .iconst 1, 1, [], .int (zI 1)),
  (125, .invokevirtual 70, 3, [38, 661, 0], .null),
  (128, .ireturn, 1, [], .null)])
set_option maxRecDepth 100000 in
theorem okX3_hear : ssOk mX3_hear = true := by decide +kernel
set_option maxRecDepth 100000 in
theorem caX3_hear : ssCa mX3_hear = true := by decide +kernel
def mX3_hearLine : ssM := (3, yX3_hearLine, cX3_hearLine, 2, (some .boolean), [660, 659, 5, 114, 0, 0, 21, 0], [
  (0, .aload_n 0, 1, [], .null),
  (1, .getfield 12, 3, [3, 0, 352, 0], .null),
  (4, .getfield 77, 3, [5, 3, 161, 0], .null),
  (7, .istore_n 1, 1, [], .null),
  (8, .iload_n 1, 1, [], .null),
  (9, .iconst 1, 1, [], .int (zI 1)),
  (10, .if_icmp .lt 20, 3, [30], .null),
  (13, .iload_n 1, 1, [], .null),
  (14, .bipush 9, 2, [], .int (zI 9)),
  (16, .if_icmp .gt 14, 3, [30], .null),
  (19, .aload_n 0, 1, [], .null),
  (20, .getfield 12, 3, [3, 0, 352, 0], .null),
  (23, .getfield 64, 3, [5, 1, 157, 0], .null),
  (26, .iconst 1, 1, [], .int (zI 1)),
  (27, .if_icmp .eq 9, 3, [36], .null),
  (30, .aload_n 0, 1, [], .null),
  (31, .iconst 1, 1, [], .int (zI 1)),
  (32, .invokevirtual 70, 3, [38, 661, 0], .null),
  (35, .ireturn, 1, [], .null),
  (36, .iload_n 1, 1, [], .null),
  (37, .iconst 1, 1, [], .int (zI 1)),
  (38, .if_icmp .eq 17, 3, [55], .null),
  (41, .aload_n 0, 1, [], .null),
  (42, .getfield 46, 3, [3, 4, 359, 0], .null),
  (45, .ifCond .ne 10, 3, [55], .null),
  (48, .aload_n 0, 1, [], .null),
  (49, .bipush 6, 2, [], .int (zI 6)),
  (51, .invokevirtual 70, 3, [38, 661, 0], .null),
  (54, .ireturn, 1, [], .null),
  (55, .iload_n 1, 1, [], .null),
  (56, .tableswitch 79 1 7 #[44, 49, 54, 59, 64, 69, 74], 44, [], .null),
  (100, .aload_n 0, 1, [], .null),
  (101, .invokevirtual 80, 3, [22, 665, 0], .null),
  (104, .ireturn, 1, [], .null),
  (105, .aload_n 0, 1, [], .null),
  (106, .invokevirtual 83, 3, [23, 678, 0], .null),
  (109, .ireturn, 1, [], .null),
  (110, .aload_n 0, 1, [], .null),
  (111, .invokevirtual 86, 3, [24, 694, 0], .null),
  (114, .ireturn, 1, [], .null),
  (115, .aload_n 0, 1, [], .null),
  (116, .invokevirtual 89, 3, [27, 710, 0], .null),
  (119, .ireturn, 1, [], .null),
  (120, .aload_n 0, 1, [], .null),
  (121, .invokevirtual 92, 3, [28, 714, 0], .null),
  (124, .ireturn, 1, [], .null),
  (125, .aload_n 0, 1, [], .null),
  (126, .invokevirtual 95, 3, [29, 718, 0], .null),
  (129, .ireturn, 1, [], .null),
  (130, .aload_n 0, 1, [], .null),
  (131, .invokevirtual 98, 3, [30, 722, 0], .null),
  (134, .ireturn, 1, [], .null),
  (135, .aload_n 0, 1, [], .null),
  (136, .iload_n 1, 1, [], .null),
  (137, .bipush 8, 2, [], .int (zI 8)),
  (139, .if_icmp .ne 7, 3, [146], .null),
  (142, .iconst 1, 1, [], .int (zI 1)),
  (143, .goto 4, 3, [147], .null),
  (146, .iconst 0, 1, [], .int (zI 0)),
  (147, .invokevirtual 101, 3, [31, 726, 0], .null),
  (150, .ireturn, 1, [], .null)])
set_option maxRecDepth 100000 in
theorem okX3_hearLine : ssOk mX3_hearLine = true := by decide +kernel
set_option maxRecDepth 100000 in
theorem caX3_hearLine : ssCa mX3_hearLine = true := by decide +kernel
def mX3_hearSafe : ssM := (3, yX3_hearSafe, cX3_hearSafe, 1, (some .boolean), [668, 667, 7, 114, 0, 0, 22, 0], [
  (0, .aload_n 0, 1, [], .null),
  (1, .getfield 46, 3, [3, 4, 359, 0], .null),
  (4, .ifCond .eq 9, 3, [13], .null),
  (7, .aload_n 0, 1, [], .null),
  (8, .iconst 3, 1, [], .int (zI 3)),
  (9, .invokevirtual 70, 3, [38, 661, 0], .null),
  (12, .ireturn, 1, [], .null),
  (13, .aload_n 0, 1, [], .null),
  (14, .iconst 1, 1, [], .int (zI 1)),
  (15, .putfield 46, 3, [3, 4, 359, 0], .null),
  (18, .aload_n 0, 1, [], .null),
  (19, .getfield 12, 3, [3, 0, 352, 0], .null),
  (22, .invokevirtual 74, 3, [61, 669, 0], .null),
  (25, .aload_n 0, 1, [], .null),
  (26, .bipush 10, 2, [], .int (zI 10)),
  (28, .iconst 1, 1, [], .int (zI 1)),
  (29, .bipush 6, 2, [], .int (zI 6)),
  (31, .invokevirtual 105, 3, [33, 670, 0], .null),
  (34, .ifCond .ne 5, 3, [39], .null),
  (37, .iconst 0, 1, [], .int (zI 0)),
  (38, .ireturn, 1, [], .null),
  (39, .aload_n 0, 1, [], .null),
  (40, .getfield 21, 3, [3, 3, 358, 0], .null),
  (43, .aload_n 0, 1, [], .null),
  (44, .getfield 109, 3, [3, 5, 360, 0], .null),
  (47, .putfield 112, 3, [4, 0, 258, 0], .null),
  (50, .aload_n 0, 1, [], .null),
  (51, .bipush 11, 2, [], .int (zI 11)),
  (53, .iconst 1, 1, [], .int (zI 1)),
  (54, .bipush 9, 2, [], .int (zI 9)),
  (56, .invokevirtual 105, 3, [33, 670, 0], .null),
  (59, .ifCond .ne 5, 3, [64], .null),
  (62, .iconst 0, 1, [], .int (zI 0)),
  (63, .ireturn, 1, [], .null),
  (64, .aload_n 0, 1, [], .null),
  (65, .getfield 21, 3, [3, 3, 358, 0], .null),
  (68, .aload_n 0, 1, [], .null),
  (69, .getfield 109, 3, [3, 5, 360, 0], .null),
  (72, .putfield 115, 3, [4, 1, 262, 0], .null),
  (75, .aload_n 0, 1, [], .null),
  (76, .bipush 12, 2, [], .int (zI 12)),
  (78, .iconst 0, 1, [], .int (zI 0)),
  (79, .bipush 100, 2, [], .int (zI 100)),
  (81, .invokevirtual 105, 3, [33, 670, 0], .null),
  (84, .ifCond .ne 5, 3, [89], .null),
  (87, .iconst 0, 1, [], .int (zI 0)),
  (88, .ireturn, 1, [], .null),
  (89, .aload_n 0, 1, [], .null),
  (90, .getfield 21, 3, [3, 3, 358, 0], .null),
  (93, .aload_n 0, 1, [], .null),
  (94, .getfield 109, 3, [3, 5, 360, 0], .null),
  (97, .putfield 118, 3, [4, 2, 264, 0], .null),
  (100, .aload_n 0, 1, [], .null),
  (101, .bipush 13, 2, [], .int (zI 13)),
  (103, .iconst 0, 1, [], .int (zI 0)),
  (104, .bipush 9, 2, [], .int (zI 9)),
  (106, .invokevirtual 105, 3, [33, 670, 0], .null),
  (109, .ifCond .ne 5, 3, [114], .null),
  (112, .iconst 0, 1, [], .int (zI 0)),
  (113, .ireturn, 1, [], .null),
  (114, .aload_n 0, 1, [], .null),
  (115, .getfield 21, 3, [3, 3, 358, 0], .null),
  (118, .getfield 121, 3, [4, 16, 316, 0], .null),
  (121, .aload_n 0, 1, [], .null),
  (122, .getfield 109, 3, [3, 5, 360, 0], .null),
  (125, .putfield 125, 3, [2, 1, 220, 0], .null),
  (128, .iconst 1, 1, [], .int (zI 1)),
  (129, .ireturn, 1, [], .null)])
set_option maxRecDepth 100000 in
theorem okX3_hearSafe : ssOk mX3_hearSafe = true := by decide +kernel
set_option maxRecDepth 100000 in
theorem caX3_hearSafe : ssCa mX3_hearSafe = true := by decide +kernel
def mX3_hearHook : ssM := (3, yX3_hearHook, cX3_hearHook, 2, (some .boolean), [681, 680, 10, 114, 0, 0, 23, 0], [
  (0, .aload_n 0, 1, [], .null),
  (1, .getfield 21, 3, [3, 3, 358, 0], .null),
  (4, .getfield 130, 3, [4, 3, 269, 0], .null),
  (7, .istore_n 1, 1, [], .null),
  (8, .iload_n 1, 1, [], .null),
  (9, .bipush 6, 2, [], .int (zI 6)),
  (11, .if_icmp .lt 9, 3, [20], .null),
  (14, .aload_n 0, 1, [], .null),
  (15, .iconst 5, 1, [], .int (zI 5)),
  (16, .invokevirtual 70, 3, [38, 661, 0], .null),
  (19, .ireturn, 1, [], .null),
  (20, .aload_n 0, 1, [], .null),
  (21, .getfield 12, 3, [3, 0, 352, 0], .null),
  (24, .invokevirtual 74, 3, [61, 669, 0], .null),
  (27, .aload_n 0, 1, [], .null),
  (28, .iconst 2, 1, [], .int (zI 2)),
  (29, .iload_n 1, 1, [], .null),
  (30, .invokevirtual 133, 3, [35, 682, 0], .null),
  (33, .ifCond .eq 15, 3, [48], .null),
  (36, .aload_n 0, 1, [], .null),
  (37, .bipush 14, 2, [], .int (zI 14)),
  (39, .iconst 0, 1, [], .int (zI 0)),
  (40, .bipush 9, 2, [], .int (zI 9)),
  (42, .invokevirtual 105, 3, [33, 670, 0], .null),
  (45, .ifCond .ne 5, 3, [50], .null),
  (48, .iconst 0, 1, [], .int (zI 0)),
  (49, .ireturn, 1, [], .null),
  (50, .aload_n 0, 1, [], .null),
  (51, .getfield 21, 3, [3, 3, 358, 0], .null),
  (54, .getfield 137, 3, [4, 4, 272, 0], .null),
  (57, .iload_n 1, 1, [], .null),
  (58, .aload_n 0, 1, [], .null),
  (59, .getfield 109, 3, [3, 5, 360, 0], .null),
  (62, .iastore, 1, [], .null),
  (63, .aload_n 0, 1, [], .null),
  (64, .getfield 21, 3, [3, 3, 358, 0], .null),
  (67, .dup, 1, [], .null),
  (68, .getfield 130, 3, [4, 3, 269, 0], .null),
  (71, .iconst 1, 1, [], .int (zI 1)),
  (72, .iadd, 1, [], .null),
  (73, .putfield 130, 3, [4, 3, 269, 0], .null),
  (76, .iconst 1, 1, [], .int (zI 1)),
  (77, .ireturn, 1, [], .null)])
set_option maxRecDepth 100000 in
theorem okX3_hearHook : ssOk mX3_hearHook = true := by decide +kernel
set_option maxRecDepth 100000 in
theorem caX3_hearHook : ssCa mX3_hearHook = true := by decide +kernel
def mX3_hearSenator : ssM := (3, yX3_hearSenator, cX3_hearSenator, 2, (some .boolean), [697, 696, 14, 114, 0, 0, 24, 0], [
  (0, .aload_n 0, 1, [], .null),
  (1, .getfield 21, 3, [3, 3, 358, 0], .null),
  (4, .getfield 67, 3, [4, 5, 276, 0], .null),
  (7, .istore_n 1, 1, [], .null),
  (8, .iload_n 1, 1, [], .null),
  (9, .bipush 6, 2, [], .int (zI 6)),
  (11, .if_icmp .lt 9, 3, [20], .null),
  (14, .aload_n 0, 1, [], .null),
  (15, .iconst 5, 1, [], .int (zI 5)),
  (16, .invokevirtual 70, 3, [38, 661, 0], .null),
  (19, .ireturn, 1, [], .null),
  (20, .aload_n 0, 1, [], .null),
  (21, .getfield 12, 3, [3, 0, 352, 0], .null),
  (24, .invokevirtual 74, 3, [61, 669, 0], .null),
  (27, .aload_n 0, 1, [], .null),
  (28, .iconst 3, 1, [], .int (zI 3)),
  (29, .iload_n 1, 1, [], .null),
  (30, .invokevirtual 133, 3, [35, 682, 0], .null),
  (33, .ifCond .eq 28, 3, [61], .null),
  (36, .aload_n 0, 1, [], .null),
  (37, .iload_n 1, 1, [], .null),
  (38, .invokevirtual 140, 3, [25, 698, 0], .null),
  (41, .ifCond .eq 20, 3, [61], .null),
  (44, .aload_n 0, 1, [], .null),
  (45, .bipush 15, 2, [], .int (zI 15)),
  (47, .invokevirtual 143, 3, [32, 674, 0], .null),
  (50, .ifCond .eq 11, 3, [61], .null),
  (53, .aload_n 0, 1, [], .null),
  (54, .iload_n 1, 1, [], .null),
  (55, .invokevirtual 146, 3, [26, 702, 0], .null),
  (58, .ifCond .ne 5, 3, [63], .null),
  (61, .iconst 0, 1, [], .int (zI 0)),
  (62, .ireturn, 1, [], .null),
  (63, .aload_n 0, 1, [], .null),
  (64, .bipush 16, 2, [], .int (zI 16)),
  (66, .iconst 1, 1, [], .int (zI 1)),
  (67, .bipush 99, 2, [], .int (zI 99)),
  (69, .invokevirtual 105, 3, [33, 670, 0], .null),
  (72, .ifCond .ne 5, 3, [77], .null),
  (75, .iconst 0, 1, [], .int (zI 0)),
  (76, .ireturn, 1, [], .null),
  (77, .aload_n 0, 1, [], .null),
  (78, .getfield 21, 3, [3, 3, 358, 0], .null),
  (81, .getfield 121, 3, [4, 16, 316, 0], .null),
  (84, .getfield 149, 3, [2, 5, 239, 0], .null),
  (87, .iload_n 1, 1, [], .null),
  (88, .aload_n 0, 1, [], .null),
  (89, .getfield 109, 3, [3, 5, 360, 0], .null),
  (92, .iastore, 1, [], .null),
  (93, .aload_n 0, 1, [], .null),
  (94, .bipush 17, 2, [], .int (zI 17)),
  (96, .iconst 0, 1, [], .int (zI 0)),
  (97, .bipush 9, 2, [], .int (zI 9)),
  (99, .invokevirtual 105, 3, [33, 670, 0], .null),
  (102, .ifCond .ne 5, 3, [107], .null),
  (105, .iconst 0, 1, [], .int (zI 0)),
  (106, .ireturn, 1, [], .null),
  (107, .aload_n 0, 1, [], .null),
  (108, .getfield 21, 3, [3, 3, 358, 0], .null),
  (111, .getfield 152, 3, [4, 6, 282, 0], .null),
  (114, .iload_n 1, 1, [], .null),
  (115, .aload_n 0, 1, [], .null),
  (116, .getfield 109, 3, [3, 5, 360, 0], .null),
  (119, .iastore, 1, [], .null),
  (120, .aload_n 0, 1, [], .null),
  (121, .getfield 21, 3, [3, 3, 358, 0], .null),
  (124, .dup, 1, [], .null),
  (125, .getfield 67, 3, [4, 5, 276, 0], .null),
  (128, .iconst 1, 1, [], .int (zI 1)),
  (129, .iadd, 1, [], .null),
  (130, .putfield 67, 3, [4, 5, 276, 0], .null),
  (133, .iconst 1, 1, [], .int (zI 1)),
  (134, .ireturn, 1, [], .null)])
set_option maxRecDepth 100000 in
theorem okX3_hearSenator : ssOk mX3_hearSenator = true := by decide +kernel
set_option maxRecDepth 100000 in
theorem caX3_hearSenator : ssCa mX3_hearSenator = true := by decide +kernel
def mX3_hearKind : ssM := (3, yX3_hearKind, cX3_hearKind, 2, (some .boolean), [701, 700, 15, 114, 0, 1, 25, 0], [
  (0, .aload_n 0, 1, [], .null),
  (1, .getfield 12, 3, [3, 0, 352, 0], .null),
  (4, .getfield 77, 3, [5, 3, 161, 0], .null),
  (7, .tableswitch 73 19 21 #[25, 41, 57], 25, [], .null),
  (32, .aload_n 0, 1, [], .null),
  (33, .getfield 21, 3, [3, 3, 358, 0], .null),
  (36, .getfield 121, 3, [4, 16, 316, 0], .null),
  (39, .getfield 155, 3, [2, 3, 229, 0], .null),
  (42, .iload_n 1, 1, [], .null),
  (43, .iconst 0, 1, [], .int (zI 0)),
  (44, .iastore, 1, [], .null),
  (45, .goto 41, 3, [86], .null),
  (48, .aload_n 0, 1, [], .null),
  (49, .getfield 21, 3, [3, 3, 358, 0], .null),
  (52, .getfield 121, 3, [4, 16, 316, 0], .null),
  (55, .getfield 155, 3, [2, 3, 229, 0], .null),
  (58, .iload_n 1, 1, [], .null),
  (59, .iconst 1, 1, [], .int (zI 1)),
  (60, .iastore, 1, [], .null),
  (61, .goto 25, 3, [86], .null),
  (64, .aload_n 0, 1, [], .null),
  (65, .getfield 21, 3, [3, 3, 358, 0], .null),
  (68, .getfield 121, 3, [4, 16, 316, 0], .null),
  (71, .getfield 155, 3, [2, 3, 229, 0], .null),
  (74, .iload_n 1, 1, [], .null),
  (75, .iconst 2, 1, [], .int (zI 2)),
  (76, .iastore, 1, [], .null),
  (77, .goto 9, 3, [86], .null),
  (80, .aload_n 0, 1, [], .null),
  (81, .iconst 1, 1, [], .int (zI 1)),
  (82, .invokevirtual 70, 3, [38, 661, 0], .null),
  (85, .ireturn, 1, [], .null),
  (86, .aload_n 0, 1, [], .null),
  (87, .getfield 12, 3, [3, 0, 352, 0], .null),
  (90, .invokevirtual 74, 3, [61, 669, 0], .null),
  (93, .iconst 1, 1, [], .int (zI 1)),
  (94, .ireturn, 1, [], .null)])
set_option maxRecDepth 100000 in
theorem okX3_hearKind : ssOk mX3_hearKind = true := by decide +kernel
set_option maxRecDepth 100000 in
theorem caX3_hearKind : ssCa mX3_hearKind = true := by decide +kernel
def mX3_hearFreeHook : ssM := (3, yX3_hearFreeHook, cX3_hearFreeHook, 3, (some .boolean), [705, 704, 16, 114, 0, 1, 26, 0], [
  (0, .aload_n 0, 1, [], .null),
  (1, .iconst 2, 1, [], .int (zI 2)),
  (2, .invokevirtual 158, 3, [36, 706, 0], .null),
  (5, .istore_n 2, 1, [], .null),
  (6, .iload_n 2, 1, [], .null),
  (7, .ifCond .ge 5, 3, [12], .null),
  (10, .iconst 0, 1, [], .int (zI 0)),
  (11, .ireturn, 1, [], .null),
  (12, .aload_n 0, 1, [], .null),
  (13, .getfield 50, 3, [3, 6, 361, 0], .null),
  (16, .iload_n 2, 1, [], .null),
  (17, .ishr, 1, [], .null),
  (18, .iconst 1, 1, [], .int (zI 1)),
  (19, .iand, 1, [], .null),
  (20, .iconst 1, 1, [], .int (zI 1)),
  (21, .if_icmp .ne 10, 3, [31], .null),
  (24, .aload_n 0, 1, [], .null),
  (25, .bipush 7, 2, [], .int (zI 7)),
  (27, .invokevirtual 70, 3, [38, 661, 0], .null),
  (30, .ireturn, 1, [], .null),
  (31, .aload_n 0, 1, [], .null),
  (32, .dup, 1, [], .null),
  (33, .getfield 50, 3, [3, 6, 361, 0], .null),
  (36, .iconst 1, 1, [], .int (zI 1)),
  (37, .iload_n 2, 1, [], .null),
  (38, .ishl, 1, [], .null),
  (39, .ior, 1, [], .null),
  (40, .putfield 50, 3, [3, 6, 361, 0], .null),
  (43, .aload_n 0, 1, [], .null),
  (44, .getfield 21, 3, [3, 3, 358, 0], .null),
  (47, .getfield 121, 3, [4, 16, 316, 0], .null),
  (50, .getfield 162, 3, [2, 4, 234, 0], .null),
  (53, .iload_n 1, 1, [], .null),
  (54, .iload_n 2, 1, [], .null),
  (55, .iastore, 1, [], .null),
  (56, .aload_n 0, 1, [], .null),
  (57, .getfield 12, 3, [3, 0, 352, 0], .null),
  (60, .invokevirtual 74, 3, [61, 669, 0], .null),
  (63, .iconst 1, 1, [], .int (zI 1)),
  (64, .ireturn, 1, [], .null)])
set_option maxRecDepth 100000 in
theorem okX3_hearFreeHook : ssOk mX3_hearFreeHook = true := by decide +kernel
set_option maxRecDepth 100000 in
theorem caX3_hearFreeHook : ssCa mX3_hearFreeHook = true := by decide +kernel
def mX3_hearAct : ssM := (3, yX3_hearAct, cX3_hearAct, 2, (some .boolean), [713, 712, 18, 114, 0, 0, 27, 0], [
  (0, .aload_n 0, 1, [], .null),
  (1, .getfield 21, 3, [3, 3, 358, 0], .null),
  (4, .getfield 165, 3, [4, 7, 284, 0], .null),
  (7, .istore_n 1, 1, [], .null),
  (8, .iload_n 1, 1, [], .null),
  (9, .iconst 5, 1, [], .int (zI 5)),
  (10, .if_icmp .lt 9, 3, [19], .null),
  (13, .aload_n 0, 1, [], .null),
  (14, .iconst 5, 1, [], .int (zI 5)),
  (15, .invokevirtual 70, 3, [38, 661, 0], .null),
  (18, .ireturn, 1, [], .null),
  (19, .aload_n 0, 1, [], .null),
  (20, .getfield 12, 3, [3, 0, 352, 0], .null),
  (23, .invokevirtual 74, 3, [61, 669, 0], .null),
  (26, .aload_n 0, 1, [], .null),
  (27, .iconst 4, 1, [], .int (zI 4)),
  (28, .iload_n 1, 1, [], .null),
  (29, .invokevirtual 133, 3, [35, 682, 0], .null),
  (32, .ifCond .eq 15, 3, [47], .null),
  (35, .aload_n 0, 1, [], .null),
  (36, .bipush 18, 2, [], .int (zI 18)),
  (38, .iconst 0, 1, [], .int (zI 0)),
  (39, .bipush 40, 2, [], .int (zI 40)),
  (41, .invokevirtual 105, 3, [33, 670, 0], .null),
  (44, .ifCond .ne 5, 3, [49], .null),
  (47, .iconst 0, 1, [], .int (zI 0)),
  (48, .ireturn, 1, [], .null),
  (49, .aload_n 0, 1, [], .null),
  (50, .getfield 21, 3, [3, 3, 358, 0], .null),
  (53, .getfield 168, 3, [4, 8, 288, 0], .null),
  (56, .iload_n 1, 1, [], .null),
  (57, .aload_n 0, 1, [], .null),
  (58, .getfield 109, 3, [3, 5, 360, 0], .null),
  (61, .iastore, 1, [], .null),
  (62, .aload_n 0, 1, [], .null),
  (63, .getfield 21, 3, [3, 3, 358, 0], .null),
  (66, .dup, 1, [], .null),
  (67, .getfield 165, 3, [4, 7, 284, 0], .null),
  (70, .iconst 1, 1, [], .int (zI 1)),
  (71, .iadd, 1, [], .null),
  (72, .putfield 165, 3, [4, 7, 284, 0], .null),
  (75, .iconst 1, 1, [], .int (zI 1)),
  (76, .ireturn, 1, [], .null)])
set_option maxRecDepth 100000 in
theorem okX3_hearAct : ssOk mX3_hearAct = true := by decide +kernel
set_option maxRecDepth 100000 in
theorem caX3_hearAct : ssCa mX3_hearAct = true := by decide +kernel
def mX3_hearFor : ssM := (3, yX3_hearFor, cX3_hearFor, 3, (some .boolean), [717, 716, 19, 114, 0, 0, 28, 0], [
  (0, .aload_n 0, 1, [], .null),
  (1, .getfield 21, 3, [3, 3, 358, 0], .null),
  (4, .getfield 171, 3, [4, 11, 296, 0], .null),
  (7, .bipush 15, 2, [], .int (zI 15)),
  (9, .if_icmp .lt 9, 3, [18], .null),
  (12, .aload_n 0, 1, [], .null),
  (13, .iconst 5, 1, [], .int (zI 5)),
  (14, .invokevirtual 70, 3, [38, 661, 0], .null),
  (17, .ireturn, 1, [], .null),
  (18, .aload_n 0, 1, [], .null),
  (19, .getfield 12, 3, [3, 0, 352, 0], .null),
  (22, .invokevirtual 74, 3, [61, 669, 0], .null),
  (25, .aload_n 0, 1, [], .null),
  (26, .iconst 3, 1, [], .int (zI 3)),
  (27, .invokevirtual 158, 3, [36, 706, 0], .null),
  (30, .istore_n 1, 1, [], .null),
  (31, .iload_n 1, 1, [], .null),
  (32, .ifCond .ge 5, 3, [37], .null),
  (35, .iconst 0, 1, [], .int (zI 0)),
  (36, .ireturn, 1, [], .null),
  (37, .aload_n 0, 1, [], .null),
  (38, .getfield 12, 3, [3, 0, 352, 0], .null),
  (41, .invokevirtual 74, 3, [61, 669, 0], .null),
  (44, .aload_n 0, 1, [], .null),
  (45, .iconst 4, 1, [], .int (zI 4)),
  (46, .invokevirtual 158, 3, [36, 706, 0], .null),
  (49, .istore_n 2, 1, [], .null),
  (50, .iload_n 2, 1, [], .null),
  (51, .ifCond .lt 8, 3, [59], .null),
  (54, .iload_n 2, 1, [], .null),
  (55, .iconst 5, 1, [], .int (zI 5)),
  (56, .if_icmp .lt 5, 3, [61], .null),
  (59, .iconst 0, 1, [], .int (zI 0)),
  (60, .ireturn, 1, [], .null),
  (61, .aload_n 0, 1, [], .null),
  (62, .getfield 21, 3, [3, 3, 358, 0], .null),
  (65, .getfield 174, 3, [4, 9, 291, 0], .null),
  (68, .iload_n 2, 1, [], .null),
  (69, .iaload, 1, [], .null),
  (70, .iload_n 1, 1, [], .null),
  (71, .ishr, 1, [], .null),
  (72, .iconst 1, 1, [], .int (zI 1)),
  (73, .iand, 1, [], .null),
  (74, .iconst 1, 1, [], .int (zI 1)),
  (75, .if_icmp .ne 9, 3, [84], .null),
  (78, .aload_n 0, 1, [], .null),
  (79, .iconst 3, 1, [], .int (zI 3)),
  (80, .invokevirtual 70, 3, [38, 661, 0], .null),
  (83, .ireturn, 1, [], .null),
  (84, .aload_n 0, 1, [], .null),
  (85, .getfield 21, 3, [3, 3, 358, 0], .null),
  (88, .getfield 174, 3, [4, 9, 291, 0], .null),
  (91, .iload_n 2, 1, [], .null),
  (92, .dup2, 1, [], .null),
  (93, .iaload, 1, [], .null),
  (94, .iconst 1, 1, [], .int (zI 1)),
  (95, .iload_n 1, 1, [], .null),
  (96, .ishl, 1, [], .null),
  (97, .ior, 1, [], .null),
  (98, .iastore, 1, [], .null),
  (99, .aload_n 0, 1, [], .null),
  (100, .getfield 21, 3, [3, 3, 358, 0], .null),
  (103, .dup, 1, [], .null),
  (104, .getfield 171, 3, [4, 11, 296, 0], .null),
  (107, .iconst 1, 1, [], .int (zI 1)),
  (108, .iadd, 1, [], .null),
  (109, .putfield 171, 3, [4, 11, 296, 0], .null),
  (112, .aload_n 0, 1, [], .null),
  (113, .getfield 12, 3, [3, 0, 352, 0], .null),
  (116, .invokevirtual 74, 3, [61, 669, 0], .null),
  (119, .iconst 1, 1, [], .int (zI 1)),
  (120, .ireturn, 1, [], .null)])
set_option maxRecDepth 100000 in
theorem okX3_hearFor : ssOk mX3_hearFor = true := by decide +kernel
set_option maxRecDepth 100000 in
theorem caX3_hearFor : ssCa mX3_hearFor = true := by decide +kernel
def mX3_hearRests : ssM := (3, yX3_hearRests, cX3_hearRests, 3, (some .boolean), [721, 720, 20, 114, 0, 0, 29, 0], [
  (0, .aload_n 0, 1, [], .null),
  (1, .getfield 21, 3, [3, 3, 358, 0], .null),
  (4, .getfield 177, 3, [4, 12, 299, 0], .null),
  (7, .bipush 6, 2, [], .int (zI 6)),
  (9, .if_icmp .lt 9, 3, [18], .null),
  (12, .aload_n 0, 1, [], .null),
  (13, .iconst 5, 1, [], .int (zI 5)),
  (14, .invokevirtual 70, 3, [38, 661, 0], .null),
  (17, .ireturn, 1, [], .null),
  (18, .aload_n 0, 1, [], .null),
  (19, .getfield 12, 3, [3, 0, 352, 0], .null),
  (22, .invokevirtual 74, 3, [61, 669, 0], .null),
  (25, .aload_n 0, 1, [], .null),
  (26, .iconst 4, 1, [], .int (zI 4)),
  (27, .invokevirtual 158, 3, [36, 706, 0], .null),
  (30, .istore_n 1, 1, [], .null),
  (31, .iload_n 1, 1, [], .null),
  (32, .ifCond .lt 8, 3, [40], .null),
  (35, .iload_n 1, 1, [], .null),
  (36, .iconst 5, 1, [], .int (zI 5)),
  (37, .if_icmp .lt 5, 3, [42], .null),
  (40, .iconst 0, 1, [], .int (zI 0)),
  (41, .ireturn, 1, [], .null),
  (42, .aload_n 0, 1, [], .null),
  (43, .getfield 12, 3, [3, 0, 352, 0], .null),
  (46, .invokevirtual 74, 3, [61, 669, 0], .null),
  (49, .aload_n 0, 1, [], .null),
  (50, .iconst 4, 1, [], .int (zI 4)),
  (51, .invokevirtual 158, 3, [36, 706, 0], .null),
  (54, .istore_n 2, 1, [], .null),
  (55, .iload_n 2, 1, [], .null),
  (56, .ifCond .ge 5, 3, [61], .null),
  (59, .iconst 0, 1, [], .int (zI 0)),
  (60, .ireturn, 1, [], .null),
  (61, .iload_n 1, 1, [], .null),
  (62, .iload_n 2, 1, [], .null),
  (63, .if_icmp .eq 20, 3, [83], .null),
  (66, .aload_n 0, 1, [], .null),
  (67, .getfield 21, 3, [3, 3, 358, 0], .null),
  (70, .getfield 180, 3, [4, 10, 294, 0], .null),
  (73, .iload_n 1, 1, [], .null),
  (74, .iaload, 1, [], .null),
  (75, .iload_n 2, 1, [], .null),
  (76, .ishr, 1, [], .null),
  (77, .iconst 1, 1, [], .int (zI 1)),
  (78, .iand, 1, [], .null),
  (79, .iconst 1, 1, [], .int (zI 1)),
  (80, .if_icmp .ne 9, 3, [89], .null),
  (83, .aload_n 0, 1, [], .null),
  (84, .iconst 3, 1, [], .int (zI 3)),
  (85, .invokevirtual 70, 3, [38, 661, 0], .null),
  (88, .ireturn, 1, [], .null),
  (89, .aload_n 0, 1, [], .null),
  (90, .getfield 21, 3, [3, 3, 358, 0], .null),
  (93, .getfield 180, 3, [4, 10, 294, 0], .null),
  (96, .iload_n 1, 1, [], .null),
  (97, .dup2, 1, [], .null),
  (98, .iaload, 1, [], .null),
  (99, .iconst 1, 1, [], .int (zI 1)),
  (100, .iload_n 2, 1, [], .null),
  (101, .ishl, 1, [], .null),
  (102, .ior, 1, [], .null),
  (103, .iastore, 1, [], .null),
  (104, .aload_n 0, 1, [], .null),
  (105, .getfield 21, 3, [3, 3, 358, 0], .null),
  (108, .dup, 1, [], .null),
  (109, .getfield 177, 3, [4, 12, 299, 0], .null),
  (112, .iconst 1, 1, [], .int (zI 1)),
  (113, .iadd, 1, [], .null),
  (114, .putfield 177, 3, [4, 12, 299, 0], .null),
  (117, .aload_n 0, 1, [], .null),
  (118, .getfield 12, 3, [3, 0, 352, 0], .null),
  (121, .invokevirtual 74, 3, [61, 669, 0], .null),
  (124, .iconst 1, 1, [], .int (zI 1)),
  (125, .ireturn, 1, [], .null)])
set_option maxRecDepth 100000 in
theorem okX3_hearRests : ssOk mX3_hearRests = true := by decide +kernel
set_option maxRecDepth 100000 in
theorem caX3_hearRests : ssCa mX3_hearRests = true := by decide +kernel
def mX3_hearDoubted : ssM := (3, yX3_hearDoubted, cX3_hearDoubted, 2, (some .boolean), [725, 724, 21, 114, 0, 0, 30, 0], [
  (0, .aload_n 0, 1, [], .null),
  (1, .getfield 21, 3, [3, 3, 358, 0], .null),
  (4, .getfield 183, 3, [4, 13, 303, 0], .null),
  (7, .ifCond .lt 9, 3, [16], .null),
  (10, .aload_n 0, 1, [], .null),
  (11, .iconst 3, 1, [], .int (zI 3)),
  (12, .invokevirtual 70, 3, [38, 661, 0], .null),
  (15, .ireturn, 1, [], .null),
  (16, .aload_n 0, 1, [], .null),
  (17, .getfield 12, 3, [3, 0, 352, 0], .null),
  (20, .invokevirtual 74, 3, [61, 669, 0], .null),
  (23, .aload_n 0, 1, [], .null),
  (24, .iconst 3, 1, [], .int (zI 3)),
  (25, .invokevirtual 158, 3, [36, 706, 0], .null),
  (28, .istore_n 1, 1, [], .null),
  (29, .iload_n 1, 1, [], .null),
  (30, .ifCond .ge 5, 3, [35], .null),
  (33, .iconst 0, 1, [], .int (zI 0)),
  (34, .ireturn, 1, [], .null),
  (35, .aload_n 0, 1, [], .null),
  (36, .getfield 21, 3, [3, 3, 358, 0], .null),
  (39, .iload_n 1, 1, [], .null),
  (40, .putfield 183, 3, [4, 13, 303, 0], .null),
  (43, .aload_n 0, 1, [], .null),
  (44, .getfield 12, 3, [3, 0, 352, 0], .null),
  (47, .invokevirtual 74, 3, [61, 669, 0], .null),
  (50, .iconst 1, 1, [], .int (zI 1)),
  (51, .ireturn, 1, [], .null)])
set_option maxRecDepth 100000 in
theorem okX3_hearDoubted : ssOk mX3_hearDoubted = true := by decide +kernel
set_option maxRecDepth 100000 in
theorem caX3_hearDoubted : ssCa mX3_hearDoubted = true := by decide +kernel
def mX3_hearOutcome : ssM := (3, yX3_hearOutcome, cX3_hearOutcome, 3, (some .boolean), [729, 728, 22, 114, 0, 1, 31, 0], [
  (0, .aload_n 0, 1, [], .null),
  (1, .getfield 12, 3, [3, 0, 352, 0], .null),
  (4, .invokevirtual 74, 3, [61, 669, 0], .null),
  (7, .aload_n 0, 1, [], .null),
  (8, .iconst 4, 1, [], .int (zI 4)),
  (9, .invokevirtual 158, 3, [36, 706, 0], .null),
  (12, .istore_n 2, 1, [], .null),
  (13, .iload_n 2, 1, [], .null),
  (14, .ifCond .ge 5, 3, [19], .null),
  (17, .iconst 0, 1, [], .int (zI 0)),
  (18, .ireturn, 1, [], .null),
  (19, .aload_n 0, 1, [], .null),
  (20, .getfield 21, 3, [3, 3, 358, 0], .null),
  (23, .getfield 186, 3, [4, 14, 307, 0], .null),
  (26, .aload_n 0, 1, [], .null),
  (27, .getfield 21, 3, [3, 3, 358, 0], .null),
  (30, .getfield 189, 3, [4, 15, 311, 0], .null),
  (33, .ior, 1, [], .null),
  (34, .iload_n 2, 1, [], .null),
  (35, .ishr, 1, [], .null),
  (36, .iconst 1, 1, [], .int (zI 1)),
  (37, .iand, 1, [], .null),
  (38, .iconst 1, 1, [], .int (zI 1)),
  (39, .if_icmp .ne 9, 3, [48], .null),
  (42, .aload_n 0, 1, [], .null),
  (43, .iconst 3, 1, [], .int (zI 3)),
  (44, .invokevirtual 70, 3, [38, 661, 0], .null),
  (47, .ireturn, 1, [], .null),
  (48, .iload_n 1, 1, [], .null),
  (49, .ifCond .eq 21, 3, [70], .null),
  (52, .aload_n 0, 1, [], .null),
  (53, .getfield 21, 3, [3, 3, 358, 0], .null),
  (56, .dup, 1, [], .null),
  (57, .getfield 186, 3, [4, 14, 307, 0], .null),
  (60, .iconst 1, 1, [], .int (zI 1)),
  (61, .iload_n 2, 1, [], .null),
  (62, .ishl, 1, [], .null),
  (63, .ior, 1, [], .null),
  (64, .putfield 186, 3, [4, 14, 307, 0], .null),
  (67, .goto 18, 3, [85], .null),
  (70, .aload_n 0, 1, [], .null),
  (71, .getfield 21, 3, [3, 3, 358, 0], .null),
  (74, .dup, 1, [], .null),
  (75, .getfield 189, 3, [4, 15, 311, 0], .null),
  (78, .iconst 1, 1, [], .int (zI 1)),
  (79, .iload_n 2, 1, [], .null),
  (80, .ishl, 1, [], .null),
  (81, .ior, 1, [], .null),
  (82, .putfield 189, 3, [4, 15, 311, 0], .null),
  (85, .aload_n 0, 1, [], .null),
  (86, .getfield 12, 3, [3, 0, 352, 0], .null),
  (89, .invokevirtual 74, 3, [61, 669, 0], .null),
  (92, .iconst 1, 1, [], .int (zI 1)),
  (93, .ireturn, 1, [], .null)])
set_option maxRecDepth 100000 in
theorem okX3_hearOutcome : ssOk mX3_hearOutcome = true := by decide +kernel
set_option maxRecDepth 100000 in
theorem caX3_hearOutcome : ssCa mX3_hearOutcome = true := by decide +kernel
def mX3_hearWord : ssM := (3, yX3_hearWord, cX3_hearWord, 2, (some .boolean), [677, 676, 9, 114, 0, 1, 32, 0], [
  (0, .aload_n 0, 1, [], .null),
  (1, .getfield 12, 3, [3, 0, 352, 0], .null),
  (4, .getfield 77, 3, [5, 3, 161, 0], .null),
  (7, .iload_n 1, 1, [], .null),
  (8, .if_icmp .eq 9, 3, [17], .null),
  (11, .aload_n 0, 1, [], .null),
  (12, .iconst 1, 1, [], .int (zI 1)),
  (13, .invokevirtual 70, 3, [38, 661, 0], .null),
  (16, .ireturn, 1, [], .null),
  (17, .aload_n 0, 1, [], .null),
  (18, .getfield 12, 3, [3, 0, 352, 0], .null),
  (21, .invokevirtual 74, 3, [61, 669, 0], .null),
  (24, .iconst 1, 1, [], .int (zI 1)),
  (25, .ireturn, 1, [], .null)])
set_option maxRecDepth 100000 in
theorem okX3_hearWord : ssOk mX3_hearWord = true := by decide +kernel
set_option maxRecDepth 100000 in
theorem caX3_hearWord : ssCa mX3_hearWord = true := by decide +kernel
def mX3_hearNumber : ssM := (3, yX3_hearNumber, cX3_hearNumber, 4, (some .boolean), [673, 672, 8, 114, 0, 3, 33, 0], [
  (0, .aload_n 0, 1, [], .null),
  (1, .iload_n 1, 1, [], .null),
  (2, .invokevirtual 143, 3, [32, 674, 0], .null),
  (5, .ifCond .ne 5, 3, [10], .null),
  (8, .iconst 0, 1, [], .int (zI 0)),
  (9, .ireturn, 1, [], .null),
  (10, .aload_n 0, 1, [], .null),
  (11, .getfield 12, 3, [3, 0, 352, 0], .null),
  (14, .getfield 64, 3, [5, 1, 157, 0], .null),
  (17, .iconst 2, 1, [], .int (zI 2)),
  (18, .if_icmp .eq 9, 3, [27], .null),
  (21, .aload_n 0, 1, [], .null),
  (22, .iconst 1, 1, [], .int (zI 1)),
  (23, .invokevirtual 70, 3, [38, 661, 0], .null),
  (26, .ireturn, 1, [], .null),
  (27, .aload_n 0, 1, [], .null),
  (28, .getfield 12, 3, [3, 0, 352, 0], .null),
  (31, .getfield 192, 3, [5, 4, 164, 0], .null),
  (34, .iload_n 2, 1, [], .null),
  (35, .i2l, 1, [], .null),
  (36, .lcmp, 1, [], .null),
  (37, .ifCond .lt 16, 3, [53], .null),
  (40, .aload_n 0, 1, [], .null),
  (41, .getfield 12, 3, [3, 0, 352, 0], .null),
  (44, .getfield 192, 3, [5, 4, 164, 0], .null),
  (47, .iload_n 3, 1, [], .null),
  (48, .i2l, 1, [], .null),
  (49, .lcmp, 1, [], .null),
  (50, .ifCond .le 9, 3, [59], .null),
  (53, .aload_n 0, 1, [], .null),
  (54, .iconst 4, 1, [], .int (zI 4)),
  (55, .invokevirtual 70, 3, [38, 661, 0], .null),
  (58, .ireturn, 1, [], .null),
  (59, .aload_n 0, 1, [], .null),
  (60, .aload_n 0, 1, [], .null),
  (61, .getfield 12, 3, [3, 0, 352, 0], .null),
  (64, .getfield 192, 3, [5, 4, 164, 0], .null),
  (67, .l2i, 1, [], .null),
  (68, .putfield 109, 3, [3, 5, 360, 0], .null),
  (71, .aload_n 0, 1, [], .null),
  (72, .getfield 12, 3, [3, 0, 352, 0], .null),
  (75, .invokevirtual 74, 3, [61, 669, 0], .null),
  (78, .iconst 1, 1, [], .int (zI 1)),
  (79, .ireturn, 1, [], .null)])
set_option maxRecDepth 100000 in
theorem okX3_hearNumber : ssOk mX3_hearNumber = true := by decide +kernel
set_option maxRecDepth 100000 in
theorem caX3_hearNumber : ssCa mX3_hearNumber = true := by decide +kernel
def mX3_isName : ssM := (3, yX3_isName, cX3_isName, 1, (some .boolean), [689, 688, 12, 114, 0, 0, 34, 0], [
  (0, .aload_n 0, 1, [], .null),
  (1, .getfield 12, 3, [3, 0, 352, 0], .null),
  (4, .getfield 64, 3, [5, 1, 157, 0], .null),
  (7, .iconst 1, 1, [], .int (zI 1)),
  (8, .if_icmp .ne 29, 3, [37], .null),
  (11, .aload_n 0, 1, [], .null),
  (12, .getfield 12, 3, [3, 0, 352, 0], .null),
  (15, .getfield 77, 3, [5, 3, 161, 0], .null),
  (18, .ifCond .eq 15, 3, [33], .null),
  (21, .aload_n 0, 1, [], .null),
  (22, .getfield 12, 3, [3, 0, 352, 0], .null),
  (25, .getfield 77, 3, [5, 3, 161, 0], .null),
  (28, .bipush 9, 2, [], .int (zI 9)),
  (30, .if_icmp .le 7, 3, [37], .null),
  (33, .iconst 1, 1, [], .int (zI 1)),
  (34, .goto 4, 3, [38], .null),
  (37, .iconst 0, 1, [], .int (zI 0)),
  (38, .ireturn, 1, [], .null)])
set_option maxRecDepth 100000 in
theorem okX3_isName : ssOk mX3_isName = true := by decide +kernel
set_option maxRecDepth 100000 in
theorem caX3_isName : ssCa mX3_isName = true := by decide +kernel
def mX3_hearNewName : ssM := (3, yX3_hearNewName, cX3_hearNewName, 3, (some .boolean), [685, 684, 11, 114, 0, 2, 35, 0], [
  (0, .aload_n 0, 1, [], .null),
  (1, .invokevirtual 196, 3, [34, 686, 0], .null),
  (4, .ifCond .ne 9, 3, [13], .null),
  (7, .aload_n 0, 1, [], .null),
  (8, .iconst 1, 1, [], .int (zI 1)),
  (9, .invokevirtual 70, 3, [38, 661, 0], .null),
  (12, .ireturn, 1, [], .null),
  (13, .aload_n 0, 1, [], .null),
  (14, .invokevirtual 199, 3, [37, 690, 0], .null),
  (17, .ifCond .lt 9, 3, [26], .null),
  (20, .aload_n 0, 1, [], .null),
  (21, .iconst 3, 1, [], .int (zI 3)),
  (22, .invokevirtual 70, 3, [38, 661, 0], .null),
  (25, .ireturn, 1, [], .null),
  (26, .aload_n 0, 1, [], .null),
  (27, .getfield 53, 3, [3, 7, 362, 0], .null),
  (30, .bipush 17, 2, [], .int (zI 17)),
  (32, .if_icmp .lt 9, 3, [41], .null),
  (35, .aload_n 0, 1, [], .null),
  (36, .iconst 5, 1, [], .int (zI 5)),
  (37, .invokevirtual 70, 3, [38, 661, 0], .null),
  (40, .ireturn, 1, [], .null),
  (41, .aload_n 0, 1, [], .null),
  (42, .getfield 25, 3, [3, 8, 363, 0], .null),
  (45, .aload_n 0, 1, [], .null),
  (46, .getfield 53, 3, [3, 7, 362, 0], .null),
  (49, .aload_n 0, 1, [], .null),
  (50, .getfield 12, 3, [3, 0, 352, 0], .null),
  (53, .getfield 192, 3, [5, 4, 164, 0], .null),
  (56, .lastore, 1, [], .null),
  (57, .aload_n 0, 1, [], .null),
  (58, .getfield 29, 3, [3, 9, 364, 0], .null),
  (61, .aload_n 0, 1, [], .null),
  (62, .getfield 53, 3, [3, 7, 362, 0], .null),
  (65, .iload_n 1, 1, [], .null),
  (66, .iastore, 1, [], .null),
  (67, .aload_n 0, 1, [], .null),
  (68, .getfield 33, 3, [3, 10, 365, 0], .null),
  (71, .aload_n 0, 1, [], .null),
  (72, .getfield 53, 3, [3, 7, 362, 0], .null),
  (75, .iload_n 2, 1, [], .null),
  (76, .iastore, 1, [], .null),
  (77, .aload_n 0, 1, [], .null),
  (78, .dup, 1, [], .null),
  (79, .getfield 53, 3, [3, 7, 362, 0], .null),
  (82, .iconst 1, 1, [], .int (zI 1)),
  (83, .iadd, 1, [], .null),
  (84, .putfield 53, 3, [3, 7, 362, 0], .null),
  (87, .aload_n 0, 1, [], .null),
  (88, .getfield 12, 3, [3, 0, 352, 0], .null),
  (91, .invokevirtual 74, 3, [61, 669, 0], .null),
  (94, .iconst 1, 1, [], .int (zI 1)),
  (95, .ireturn, 1, [], .null)])
set_option maxRecDepth 100000 in
theorem okX3_hearNewName : ssOk mX3_hearNewName = true := by decide +kernel
set_option maxRecDepth 100000 in
theorem caX3_hearNewName : ssCa mX3_hearNewName = true := by decide +kernel
def mX3_toldNumber : ssM := (3, yX3_toldNumber, cX3_toldNumber, 3, (some .int), [709, 708, 17, 114, 0, 1, 36, 0], [
  (0, .aload_n 0, 1, [], .null),
  (1, .invokevirtual 196, 3, [34, 686, 0], .null),
  (4, .ifCond .eq 10, 3, [14], .null),
  (7, .aload_n 0, 1, [], .null),
  (8, .invokevirtual 199, 3, [37, 690, 0], .null),
  (11, .goto 4, 3, [15], .null),
  (14, .iconst (-1), 1, [], .int (zI (-1))),
  (15, .istore_n 2, 1, [], .null),
  (16, .iload_n 2, 1, [], .null),
  (17, .ifCond .lt 20, 3, [37], .null),
  (20, .aload_n 0, 1, [], .null),
  (21, .getfield 29, 3, [3, 9, 364, 0], .null),
  (24, .iload_n 2, 1, [], .null),
  (25, .iaload, 1, [], .null),
  (26, .iload_n 1, 1, [], .null),
  (27, .if_icmp .ne 10, 3, [37], .null),
  (30, .aload_n 0, 1, [], .null),
  (31, .getfield 33, 3, [3, 10, 365, 0], .null),
  (34, .iload_n 2, 1, [], .null),
  (35, .iaload, 1, [], .null),
  (36, .ireturn, 1, [], .null),
  (37, .aload_n 0, 1, [], .null),
  (38, .aload_n 0, 1, [], .null),
  (39, .invokevirtual 196, 3, [34, 686, 0], .null),
  (42, .ifCond .eq 7, 3, [49], .null),
  (45, .iconst 2, 1, [], .int (zI 2)),
  (46, .goto 4, 3, [50], .null),
  (49, .iconst 1, 1, [], .int (zI 1)),
  (50, .invokevirtual 70, 3, [38, 661, 0], .null),
  (53, .pop, 1, [], .null),
  (54, .iconst (-1), 1, [], .int (zI (-1))),
  (55, .ireturn, 1, [], .null)])
set_option maxRecDepth 100000 in
theorem okX3_toldNumber : ssOk mX3_toldNumber = true := by decide +kernel
set_option maxRecDepth 100000 in
theorem caX3_toldNumber : ssCa mX3_toldNumber = true := by decide +kernel
def mX3_nameIndex : ssM := (3, yX3_nameIndex, cX3_nameIndex, 2, (some .int), [693, 692, 13, 114, 0, 0, 37, 0], [
  (0, .iconst 0, 1, [], .int (zI 0)),
  (1, .istore_n 1, 1, [], .null),
  (2, .iload_n 1, 1, [], .null),
  (3, .aload_n 0, 1, [], .null),
  (4, .getfield 53, 3, [3, 7, 362, 0], .null),
  (7, .if_icmp .ge 34, 3, [41], .null),
  (10, .iload_n 1, 1, [], .null),
  (11, .bipush 17, 2, [], .int (zI 17)),
  (13, .if_icmp .ge 28, 3, [41], .null),
  (16, .aload_n 0, 1, [], .null),
  (17, .getfield 25, 3, [3, 8, 363, 0], .null),
  (20, .iload_n 1, 1, [], .null),
  (21, .laload, 1, [], .null),
  (22, .aload_n 0, 1, [], .null),
  (23, .getfield 12, 3, [3, 0, 352, 0], .null),
  (26, .getfield 192, 3, [5, 4, 164, 0], .null),
  (29, .lcmp, 1, [], .null),
  (30, .ifCond .ne 5, 3, [35], .null),
  (33, .iload_n 1, 1, [], .null),
  (34, .ireturn, 1, [], .null),
  (35, .iinc 1 1, 3, [], .int (zI 1)),
  (38, .goto (-36), 3, [2], .null),
  (41, .iconst (-1), 1, [], .int (zI (-1))),
  (42, .ireturn, 1, [], .null)])
set_option maxRecDepth 100000 in
theorem okX3_nameIndex : ssOk mX3_nameIndex = true := by decide +kernel
set_option maxRecDepth 100000 in
theorem caX3_nameIndex : ssCa mX3_nameIndex = true := by decide +kernel
def mX3_fail : ssM := (3, yX3_fail, cX3_fail, 2, (some .boolean), [664, 663, 6, 114, 0, 1, 38, 0], [
  (0, .aload_n 0, 1, [], .null),
  (1, .iload_n 1, 1, [], .null),
  (2, .putfield 39, 3, [3, 1, 354, 0], .null),
  (5, .aload_n 0, 1, [], .null),
  (6, .aload_n 0, 1, [], .null),
  (7, .getfield 12, 3, [3, 0, 352, 0], .null),
  (10, .getfield 203, 3, [5, 2, 160, 0], .null),
  (13, .putfield 43, 3, [3, 2, 356, 0], .null),
  (16, .iconst 0, 1, [], .int (zI 0)),
  (17, .ireturn, 1, [], .null)])
set_option maxRecDepth 100000 in
theorem okX3_fail : ssOk mX3_fail = true := by decide +kernel
set_option maxRecDepth 100000 in
theorem caX3_fail : ssCa mX3_fail = true := by decide +kernel
def mX4_init : ssM := (4, yX4_init, cX4_init, 1, none, [207, 206, 0, 116, 0, 0, 39, 1], [
  (0, .aload_n 0, 1, [], .null),
  (1, .invokespecial 3, 3, [292, 208, 0], .null),
  (4, .aload_n 0, 1, [], .null),
  (5, .bipush 6, 2, [], .int (zI 6)),
  (7, .newarray .int, 2, [0], .null),
  (9, .putfield 9, 3, [4, 4, 271, 0], .null),
  (12, .aload_n 0, 1, [], .null),
  (13, .bipush 6, 2, [], .int (zI 6)),
  (15, .newarray .int, 2, [0], .null),
  (17, .putfield 15, 3, [4, 6, 280, 0], .null),
  (20, .aload_n 0, 1, [], .null),
  (21, .iconst 5, 1, [], .int (zI 5)),
  (22, .newarray .int, 2, [0], .null),
  (24, .putfield 18, 3, [4, 8, 286, 0], .null),
  (27, .aload_n 0, 1, [], .null),
  (28, .iconst 5, 1, [], .int (zI 5)),
  (29, .newarray .int, 2, [0], .null),
  (31, .putfield 21, 3, [4, 9, 289, 0], .null),
  (34, .aload_n 0, 1, [], .null),
  (35, .iconst 5, 1, [], .int (zI 5)),
  (36, .newarray .int, 2, [0], .null),
  (38, .putfield 24, 3, [4, 10, 292, 0], .null),
  (41, .aload_n 0, 1, [], .null),
  (42, .iconst (-1), 1, [], .int (zI (-1))),
  (43, .putfield 27, 3, [4, 13, 301, 0], .null),
  (46, .aload_n 0, 1, [], .null),
  (47, .new 31, 3, [2, 209], .null),
  (50, .dup, 1, [], .null),
  (51, .invokespecial 33, 3, [13, 211, 0], .null),
  (54, .putfield 34, 3, [4, 16, 313, 0], .null),
  (57, .return_, 1, [], .null)])
set_option maxRecDepth 100000 in
theorem okX4_init : ssOk mX4_init = true := by decide +kernel
set_option maxRecDepth 100000 in
theorem caX4_init : ssCa mX4_init = true := by decide +kernel
def mX4_clear : ssM := (4, yX4_clear, cX4_clear, 2, none, [549, 547, 548, 116, 0, 0, 40, 0], [
  (0, .aload_n 0, 1, [], .null),
  (1, .iconst 0, 1, [], .int (zI 0)),
  (2, .putfield 38, 3, [4, 3, 267, 0], .null),
  (5, .aload_n 0, 1, [], .null),
  (6, .iconst 0, 1, [], .int (zI 0)),
  (7, .putfield 41, 3, [4, 5, 275, 0], .null),
  (10, .aload_n 0, 1, [], .null),
  (11, .iconst 0, 1, [], .int (zI 0)),
  (12, .putfield 44, 3, [4, 7, 283, 0], .null),
  (15, .aload_n 0, 1, [], .null),
  (16, .iconst 0, 1, [], .int (zI 0)),
  (17, .putfield 47, 3, [4, 11, 295, 0], .null),
  (20, .aload_n 0, 1, [], .null),
  (21, .iconst 0, 1, [], .int (zI 0)),
  (22, .putfield 50, 3, [4, 12, 298, 0], .null),
  (25, .aload_n 0, 1, [], .null),
  (26, .iconst (-1), 1, [], .int (zI (-1))),
  (27, .putfield 27, 3, [4, 13, 301, 0], .null),
  (30, .aload_n 0, 1, [], .null),
  (31, .iconst 0, 1, [], .int (zI 0)),
  (32, .putfield 53, 3, [4, 14, 305, 0], .null),
  (35, .aload_n 0, 1, [], .null),
  (36, .iconst 0, 1, [], .int (zI 0)),
  (37, .putfield 56, 3, [4, 15, 309, 0], .null),
  (40, .iconst 0, 1, [], .int (zI 0)),
  (41, .istore_n 1, 1, [], .null),
  (42, .iload_n 1, 1, [], .null),
  (43, .iconst 5, 1, [], .int (zI 5)),
  (44, .if_icmp .ge 23, 3, [67], .null),
  (47, .aload_n 0, 1, [], .null),
  (48, .getfield 21, 3, [4, 9, 289, 0], .null),
  (51, .iload_n 1, 1, [], .null),
  (52, .iconst 0, 1, [], .int (zI 0)),
  (53, .iastore, 1, [], .null),
  (54, .aload_n 0, 1, [], .null),
  (55, .getfield 24, 3, [4, 10, 292, 0], .null),
  (58, .iload_n 1, 1, [], .null),
  (59, .iconst 0, 1, [], .int (zI 0)),
  (60, .iastore, 1, [], .null),
  (61, .iinc 1 1, 3, [], .int (zI 1)),
  (64, .goto (-22), 3, [42], .null),
  (67, .return_, 1, [], .null)])
set_option maxRecDepth 100000 in
theorem okX4_clear : ssOk mX4_clear = true := by decide +kernel
set_option maxRecDepth 100000 in
theorem caX4_clear : ssCa mX4_clear = true := by decide +kernel
def mX4_actsOf : ssM := (4, yX4_actsOf, cX4_actsOf, 4, (some .int), [768, 766, 767, 116, 0, 1, 41, 0], [
  (0, .iconst 0, 1, [], .int (zI 0)),
  (1, .istore_n 2, 1, [], .null),
  (2, .iconst 0, 1, [], .int (zI 0)),
  (3, .istore_n 3, 1, [], .null),
  (4, .iload_n 3, 1, [], .null),
  (5, .aload_n 0, 1, [], .null),
  (6, .getfield 44, 3, [4, 7, 283, 0], .null),
  (9, .if_icmp .ge 29, 3, [38], .null),
  (12, .iload_n 3, 1, [], .null),
  (13, .iconst 5, 1, [], .int (zI 5)),
  (14, .if_icmp .ge 24, 3, [38], .null),
  (17, .iload_n 2, 1, [], .null),
  (18, .aload_n 0, 1, [], .null),
  (19, .getfield 21, 3, [4, 9, 289, 0], .null),
  (22, .iload_n 3, 1, [], .null),
  (23, .iaload, 1, [], .null),
  (24, .iload_n 1, 1, [], .null),
  (25, .ishr, 1, [], .null),
  (26, .iconst 1, 1, [], .int (zI 1)),
  (27, .iand, 1, [], .null),
  (28, .iload_n 3, 1, [], .null),
  (29, .ishl, 1, [], .null),
  (30, .ior, 1, [], .null),
  (31, .istore_n 2, 1, [], .null),
  (32, .iinc 3 1, 3, [], .int (zI 1)),
  (35, .goto (-31), 3, [4], .null),
  (38, .iload_n 2, 1, [], .null),
  (39, .ireturn, 1, [], .null)])
set_option maxRecDepth 100000 in
theorem okX4_actsOf : ssOk mX4_actsOf = true := by decide +kernel
set_option maxRecDepth 100000 in
theorem caX4_actsOf : ssCa mX4_actsOf = true := by decide +kernel
def mX4_airAt : ssM := (4, yX4_airAt, cX4_airAt, 2, (some .int), [780, 779, 25, 116, 0, 1, 42, 0], [
  (0, .iload_n 1, 1, [], .null),
  (1, .ifCond .lt 18, 3, [19], .null),
  (4, .iload_n 1, 1, [], .null),
  (5, .bipush 6, 2, [], .int (zI 6)),
  (7, .if_icmp .ge 12, 3, [19], .null),
  (10, .aload_n 0, 1, [], .null),
  (11, .getfield 9, 3, [4, 4, 271, 0], .null),
  (14, .iload_n 1, 1, [], .null),
  (15, .iaload, 1, [], .null),
  (16, .goto 4, 3, [20], .null),
  (19, .iconst 0, 1, [], .int (zI 0)),
  (20, .ireturn, 1, [], .null)])
set_option maxRecDepth 100000 in
theorem okX4_airAt : ssOk mX4_airAt = true := by decide +kernel
set_option maxRecDepth 100000 in
theorem caX4_airAt : ssCa mX4_airAt = true := by decide +kernel
def mX4_lossOver : ssM := (4, yX4_lossOver, cX4_lossOver, 6, (some .int), [776, 774, 775, 116, 0, 4, 43, 0], [
  (0, .iload_n 1, 1, [], .null),
  (1, .iconst 1, 1, [], .int (zI 1)),
  (2, .if_icmp .ne 33, 3, [35], .null),
  (5, .iload_n 3, 1, [], .null),
  (6, .iconst 2, 1, [], .int (zI 2)),
  (7, .irem, 1, [], .null),
  (8, .ifCond .ne 7, 3, [15], .null),
  (11, .iconst 1, 1, [], .int (zI 1)),
  (12, .goto 4, 3, [16], .null),
  (15, .iconst 0, 1, [], .int (zI 0)),
  (16, .istore 5, 2, [], .null),
  (18, .iload 5, 2, [], .null),
  (20, .ifCond .eq 10, 3, [30], .null),
  (23, .iload 4, 2, [], .null),
  (25, .iconst 1, 1, [], .int (zI 1)),
  (26, .iadd, 1, [], .null),
  (27, .goto 5, 3, [32], .null),
  (30, .iload 4, 2, [], .null),
  (32, .iconst 2, 1, [], .int (zI 2)),
  (33, .idiv, 1, [], .null),
  (34, .ireturn, 1, [], .null),
  (35, .iconst 1, 1, [], .int (zI 1)),
  (36, .aload_n 0, 1, [], .null),
  (37, .getfield 59, 3, [4, 1, 261, 0], .null),
  (40, .aload_n 0, 1, [], .null),
  (41, .iload_n 2, 1, [], .null),
  (42, .invokevirtual 62, 3, [42, 777, 0], .null),
  (45, .isub, 1, [], .null),
  (46, .invokestatic 66, 3, [289, 781, 0], .null),
  (49, .istore 5, 2, [], .null),
  (51, .iload 4, 2, [], .null),
  (53, .iload_n 1, 1, [], .null),
  (54, .iconst 2, 1, [], .int (zI 2)),
  (55, .if_icmp .ne 10, 3, [65], .null),
  (58, .iload 5, 2, [], .null),
  (60, .iconst 2, 1, [], .int (zI 2)),
  (61, .idiv, 1, [], .null),
  (62, .goto 5, 3, [67], .null),
  (65, .iload 5, 2, [], .null),
  (67, .imul, 1, [], .null),
  (68, .ireturn, 1, [], .null)])
set_option maxRecDepth 100000 in
theorem okX4_lossOver : ssOk mX4_lossOver = true := by decide +kernel
set_option maxRecDepth 100000 in
theorem caX4_lossOver : ssCa mX4_lossOver = true := by decide +kernel
def mX4_lossBehind : ssM := (4, yX4_lossBehind, cX4_lossBehind, 4, (some .int), [772, 770, 771, 116, 0, 3, 44, 0], [
  (0, .aload_n 1, 1, [], .null),
  (1, .getfield 72, 3, [2, 5, 237, 0], .null),
  (4, .iload_n 2, 1, [], .null),
  (5, .iaload, 1, [], .null),
  (6, .aload_n 0, 1, [], .null),
  (7, .aload_n 1, 1, [], .null),
  (8, .getfield 75, 3, [2, 3, 227, 0], .null),
  (11, .iload_n 2, 1, [], .null),
  (12, .iaload, 1, [], .null),
  (13, .aload_n 1, 1, [], .null),
  (14, .getfield 78, 3, [2, 4, 232, 0], .null),
  (17, .iload_n 2, 1, [], .null),
  (18, .iaload, 1, [], .null),
  (19, .aload_n 1, 1, [], .null),
  (20, .getfield 81, 3, [2, 0, 217, 0], .null),
  (23, .iload_n 3, 1, [], .null),
  (24, .invokevirtual 84, 3, [43, 773, 0], .null),
  (27, .invokestatic 88, 3, [290, 784, 0], .null),
  (30, .ireturn, 1, [], .null)])
set_option maxRecDepth 100000 in
theorem okX4_lossBehind : ssOk mX4_lossBehind = true := by decide +kernel
set_option maxRecDepth 100000 in
theorem caX4_lossBehind : ssCa mX4_lossBehind = true := by decide +kernel
def mX4_goodDays : ssM := (4, yX4_goodDays, cX4_goodDays, 6, (some .int), [812, 810, 811, 116, 0, 4, 45, 0], [
  (0, .iconst 0, 1, [], .int (zI 0)),
  (1, .istore 5, 2, [], .null),
  (3, .iload 5, 2, [], .null),
  (5, .bipush 99, 2, [], .int (zI 99)),
  (7, .if_icmp .ge 34, 3, [41], .null),
  (10, .aload_n 1, 1, [], .null),
  (11, .getfield 72, 3, [2, 5, 237, 0], .null),
  (14, .iload_n 2, 1, [], .null),
  (15, .iaload, 1, [], .null),
  (16, .aload_n 0, 1, [], .null),
  (17, .iload_n 3, 1, [], .null),
  (18, .iload 4, 2, [], .null),
  (20, .aload_n 1, 1, [], .null),
  (21, .getfield 81, 3, [2, 0, 217, 0], .null),
  (24, .iload 5, 2, [], .null),
  (26, .invokevirtual 84, 3, [43, 773, 0], .null),
  (29, .if_icmp .gt 6, 3, [35], .null),
  (32, .iload 5, 2, [], .null),
  (34, .ireturn, 1, [], .null),
  (35, .iinc 5 1, 3, [], .int (zI 1)),
  (38, .goto (-35), 3, [3], .null),
  (41, .bipush 99, 2, [], .int (zI 99)),
  (43, .ireturn, 1, [], .null)])
set_option maxRecDepth 100000 in
theorem okX4_goodDays : ssOk mX4_goodDays = true := by decide +kernel
set_option maxRecDepth 100000 in
theorem caX4_goodDays : ssCa mX4_goodDays = true := by decide +kernel
def mX4_goodAfter : ssM := (4, yX4_goodAfter, cX4_goodAfter, 7, (some .int), [1095, 1093, 1094, 116, 0, 3, 46, 0], [
  (0, .iconst 0, 1, [], .int (zI 0)),
  (1, .istore 4, 2, [], .null),
  (3, .iconst 0, 1, [], .int (zI 0)),
  (4, .istore 5, 2, [], .null),
  (6, .iload 5, 2, [], .null),
  (8, .aload_n 0, 1, [], .null),
  (9, .getfield 41, 3, [4, 5, 275, 0], .null),
  (12, .if_icmp .ge 81, 3, [93], .null),
  (15, .iload 5, 2, [], .null),
  (17, .bipush 6, 2, [], .int (zI 6)),
  (19, .if_icmp .ge 74, 3, [93], .null),
  (22, .aload_n 0, 1, [], .null),
  (23, .aload_n 1, 1, [], .null),
  (24, .getfield 75, 3, [2, 3, 227, 0], .null),
  (27, .iload 5, 2, [], .null),
  (29, .iaload, 1, [], .null),
  (30, .aload_n 1, 1, [], .null),
  (31, .getfield 78, 3, [2, 4, 232, 0], .null),
  (34, .iload 5, 2, [], .null),
  (36, .iaload, 1, [], .null),
  (37, .aload_n 1, 1, [], .null),
  (38, .getfield 81, 3, [2, 0, 217, 0], .null),
  (41, .iload_n 2, 1, [], .null),
  (42, .invokevirtual 84, 3, [43, 773, 0], .null),
  (45, .istore 6, 2, [], .null),
  (47, .aload_n 1, 1, [], .null),
  (48, .getfield 75, 3, [2, 3, 227, 0], .null),
  (51, .iload 5, 2, [], .null),
  (53, .iaload, 1, [], .null),
  (54, .iconst 1, 1, [], .int (zI 1)),
  (55, .if_icmp .eq 11, 3, [66], .null),
  (58, .iload 6, 2, [], .null),
  (60, .iconst 3, 1, [], .int (zI 3)),
  (61, .iload_n 3, 1, [], .null),
  (62, .imul, 1, [], .null),
  (63, .iadd, 1, [], .null),
  (64, .istore 6, 2, [], .null),
  (66, .aload_n 1, 1, [], .null),
  (67, .getfield 72, 3, [2, 5, 237, 0], .null),
  (70, .iload 5, 2, [], .null),
  (72, .iaload, 1, [], .null),
  (73, .iload 6, 2, [], .null),
  (75, .if_icmp .le 12, 3, [87], .null),
  (78, .iload 4, 2, [], .null),
  (80, .iconst 1, 1, [], .int (zI 1)),
  (81, .iload 5, 2, [], .null),
  (83, .ishl, 1, [], .null),
  (84, .ior, 1, [], .null),
  (85, .istore 4, 2, [], .null),
  (87, .iinc 5 1, 3, [], .int (zI 1)),
  (90, .goto (-84), 3, [6], .null),
  (93, .iload 4, 2, [], .null),
  (95, .ireturn, 1, [], .null)])
set_option maxRecDepth 100000 in
theorem okX4_goodAfter : ssOk mX4_goodAfter = true := by decide +kernel
set_option maxRecDepth 100000 in
theorem caX4_goodAfter : ssCa mX4_goodAfter = true := by decide +kernel
def mX4_chancesOf : ssM := (4, yX4_chancesOf, cX4_chancesOf, 6, (some .long), [1099, 1097, 1098, 116, 0, 2, 47, 0], [
  (0, .lconst 1, 1, [], .long (zL 1)),
  (1, .lstore_n 3, 1, [], .null),
  (2, .iconst 1, 1, [], .int (zI 1)),
  (3, .istore 5, 2, [], .null),
  (5, .iload 5, 2, [], .null),
  (7, .iload_n 1, 1, [], .null),
  (8, .if_icmp .gt 23, 3, [31], .null),
  (11, .lload_n 3, 1, [], .null),
  (12, .iload_n 2, 1, [], .null),
  (13, .iload 5, 2, [], .null),
  (15, .isub, 1, [], .null),
  (16, .iconst 1, 1, [], .int (zI 1)),
  (17, .iadd, 1, [], .null),
  (18, .i2l, 1, [], .null),
  (19, .lmul, 1, [], .null),
  (20, .iload 5, 2, [], .null),
  (22, .i2l, 1, [], .null),
  (23, .ldiv, 1, [], .null),
  (24, .lstore_n 3, 1, [], .null),
  (25, .iinc 5 1, 3, [], .int (zI 1)),
  (28, .goto (-23), 3, [5], .null),
  (31, .lload_n 3, 1, [], .null),
  (32, .aload_n 0, 1, [], .null),
  (33, .getfield 91, 3, [4, 2, 265, 0], .null),
  (36, .iload_n 1, 1, [], .null),
  (37, .invokestatic 94, 3, [149, 1100, 1], .null),
  (40, .lmul, 1, [], .null),
  (41, .bipush 100, 2, [], .int (zI 100)),
  (43, .aload_n 0, 1, [], .null),
  (44, .getfield 91, 3, [4, 2, 265, 0], .null),
  (47, .isub, 1, [], .null),
  (48, .iload_n 2, 1, [], .null),
  (49, .iload_n 1, 1, [], .null),
  (50, .isub, 1, [], .null),
  (51, .invokestatic 94, 3, [149, 1100, 1], .null),
  (54, .lmul, 1, [], .null),
  (55, .lreturn, 1, [], .null)])
set_option maxRecDepth 100000 in
theorem okX4_chancesOf : ssOk mX4_chancesOf = true := by decide +kernel
set_option maxRecDepth 100000 in
theorem caX4_chancesOf : ssCa mX4_chancesOf = true := by decide +kernel
def mX4_seedBehind : ssM := (4, yX4_seedBehind, cX4_seedBehind, 1, (some .int), [1123, 1122, 0, 116, 1, 1, 48, 0], [
  (0, .bipush 75, 2, [], .int (zI 75)),
  (2, .iload_n 0, 1, [], .null),
  (3, .imul, 1, [], .null),
  (4, .bipush 74, 2, [], .int (zI 74)),
  (6, .iadd, 1, [], .null),
  (7, .ldc 98, 2, [1124], .int (zI 65537)),
  (9, .irem, 1, [], .null),
  (10, .ireturn, 1, [], .null)])
set_option maxRecDepth 100000 in
theorem okX4_seedBehind : ssOk mX4_seedBehind = true := by decide +kernel
set_option maxRecDepth 100000 in
theorem caX4_seedBehind : ssCa mX4_seedBehind = true := by decide +kernel
def mX4_isThunder : ssM := (4, yX4_isThunder, cX4_isThunder, 2, (some .boolean), [1128, 1126, 1127, 116, 0, 1, 49, 0], [
  (0, .iload_n 1, 1, [], .null),
  (1, .bipush 100, 2, [], .int (zI 100)),
  (3, .irem, 1, [], .null),
  (4, .aload_n 0, 1, [], .null),
  (5, .getfield 91, 3, [4, 2, 265, 0], .null),
  (8, .if_icmp .ge 7, 3, [15], .null),
  (11, .iconst 1, 1, [], .int (zI 1)),
  (12, .goto 4, 3, [16], .null),
  (15, .iconst 0, 1, [], .int (zI 0)),
  (16, .ireturn, 1, [], .null)])
set_option maxRecDepth 100000 in
theorem okX4_isThunder : ssOk mX4_isThunder = true := by decide +kernel
set_option maxRecDepth 100000 in
theorem caX4_isThunder : ssCa mX4_isThunder = true := by decide +kernel
def mX4_thundersDrawn : ssM := (4, yX4_thundersDrawn, cX4_thundersDrawn, 6, (some .int), [1120, 1118, 1119, 116, 0, 2, 50, 0], [
  (0, .iconst 0, 1, [], .int (zI 0)),
  (1, .istore_n 3, 1, [], .null),
  (2, .iload_n 1, 1, [], .null),
  (3, .istore 4, 2, [], .null),
  (5, .iconst 0, 1, [], .int (zI 0)),
  (6, .istore 5, 2, [], .null),
  (8, .iload 5, 2, [], .null),
  (10, .iload_n 2, 1, [], .null),
  (11, .if_icmp .ge 28, 3, [39], .null),
  (14, .iload 4, 2, [], .null),
  (16, .invokestatic 99, 3, [48, 1121, 0], .null),
  (19, .istore 4, 2, [], .null),
  (21, .aload_n 0, 1, [], .null),
  (22, .iload 4, 2, [], .null),
  (24, .invokevirtual 102, 3, [49, 1125, 0], .null),
  (27, .ifCond .eq 6, 3, [33], .null),
  (30, .iinc 3 1, 3, [], .int (zI 1)),
  (33, .iinc 5 1, 3, [], .int (zI 1)),
  (36, .goto (-28), 3, [8], .null),
  (39, .iload_n 3, 1, [], .null),
  (40, .ireturn, 1, [], .null)])
set_option maxRecDepth 100000 in
theorem okX4_thundersDrawn : ssOk mX4_thundersDrawn = true := by decide +kernel
set_option maxRecDepth 100000 in
theorem caX4_thundersDrawn : ssCa mX4_thundersDrawn = true := by decide +kernel
def mX4_votesOf : ssM := (4, yX4_votesOf, cX4_votesOf, 4, (some .int), [834, 832, 833, 116, 0, 1, 51, 0], [
  (0, .iconst 0, 1, [], .int (zI 0)),
  (1, .istore_n 2, 1, [], .null),
  (2, .iconst 0, 1, [], .int (zI 0)),
  (3, .istore_n 3, 1, [], .null),
  (4, .iload_n 3, 1, [], .null),
  (5, .aload_n 0, 1, [], .null),
  (6, .getfield 41, 3, [4, 5, 275, 0], .null),
  (9, .if_icmp .ge 30, 3, [39], .null),
  (12, .iload_n 3, 1, [], .null),
  (13, .bipush 6, 2, [], .int (zI 6)),
  (15, .if_icmp .ge 24, 3, [39], .null),
  (18, .iload_n 2, 1, [], .null),
  (19, .aload_n 0, 1, [], .null),
  (20, .getfield 15, 3, [4, 6, 280, 0], .null),
  (23, .iload_n 3, 1, [], .null),
  (24, .iaload, 1, [], .null),
  (25, .iload_n 1, 1, [], .null),
  (26, .iload_n 3, 1, [], .null),
  (27, .ishr, 1, [], .null),
  (28, .iconst 1, 1, [], .int (zI 1)),
  (29, .iand, 1, [], .null),
  (30, .imul, 1, [], .null),
  (31, .iadd, 1, [], .null),
  (32, .istore_n 2, 1, [], .null),
  (33, .iinc 3 1, 3, [], .int (zI 1)),
  (36, .goto (-32), 3, [4], .null),
  (39, .iload_n 2, 1, [], .null),
  (40, .ireturn, 1, [], .null)])
set_option maxRecDepth 100000 in
theorem okX4_votesOf : ssOk mX4_votesOf = true := by decide +kernel
set_option maxRecDepth 100000 in
theorem caX4_votesOf : ssCa mX4_votesOf = true := by decide +kernel
def mX4_leadOf : ssM := (4, yX4_leadOf, cX4_leadOf, 3, (some .int), [830, 828, 829, 116, 0, 2, 52, 0], [
  (0, .aload_n 0, 1, [], .null),
  (1, .iload_n 2, 1, [], .null),
  (2, .aload_n 0, 1, [], .null),
  (3, .getfield 21, 3, [4, 9, 289, 0], .null),
  (6, .iload_n 1, 1, [], .null),
  (7, .iaload, 1, [], .null),
  (8, .iand, 1, [], .null),
  (9, .invokevirtual 106, 3, [51, 831, 0], .null),
  (12, .aload_n 0, 1, [], .null),
  (13, .iload_n 2, 1, [], .null),
  (14, .aload_n 0, 1, [], .null),
  (15, .getfield 21, 3, [4, 9, 289, 0], .null),
  (18, .iload_n 1, 1, [], .null),
  (19, .iaload, 1, [], .null),
  (20, .iconst (-1), 1, [], .int (zI (-1))),
  (21, .ixor, 1, [], .null),
  (22, .iand, 1, [], .null),
  (23, .invokevirtual 106, 3, [51, 831, 0], .null),
  (26, .isub, 1, [], .null),
  (27, .ireturn, 1, [], .null)])
set_option maxRecDepth 100000 in
theorem okX4_leadOf : ssOk mX4_leadOf = true := by decide +kernel
set_option maxRecDepth 100000 in
theorem caX4_leadOf : ssCa mX4_leadOf = true := by decide +kernel
def mX4_goingAlone : ssM := (4, yX4_goingAlone, cX4_goingAlone, 8, (some .int), [816, 814, 815, 116, 0, 2, 53, 0], [
  (0, .iconst 0, 1, [], .int (zI 0)),
  (1, .istore_n 3, 1, [], .null),
  (2, .iconst 0, 1, [], .int (zI 0)),
  (3, .istore 4, 2, [], .null),
  (5, .iload 4, 2, [], .null),
  (7, .aload_n 0, 1, [], .null),
  (8, .getfield 44, 3, [4, 7, 283, 0], .null),
  (11, .if_icmp .ge 114, 3, [125], .null),
  (14, .iload 4, 2, [], .null),
  (16, .iconst 5, 1, [], .int (zI 5)),
  (17, .if_icmp .ge 108, 3, [125], .null),
  (20, .aload_n 0, 1, [], .null),
  (21, .getfield 18, 3, [4, 8, 286, 0], .null),
  (24, .iload 4, 2, [], .null),
  (26, .iaload, 1, [], .null),
  (27, .istore 5, 2, [], .null),
  (29, .iload 5, 2, [], .null),
  (31, .aload_n 1, 1, [], .null),
  (32, .getfield 81, 3, [2, 0, 217, 0], .null),
  (35, .if_icmp .ge 19, 3, [54], .null),
  (38, .iload 5, 2, [], .null),
  (40, .ifCond .lt 14, 3, [54], .null),
  (43, .iload 5, 2, [], .null),
  (45, .bipush 40, 2, [], .int (zI 40)),
  (47, .if_icmp .gt 7, 3, [54], .null),
  (50, .iconst 1, 1, [], .int (zI 1)),
  (51, .goto 4, 3, [55], .null),
  (54, .iconst 0, 1, [], .int (zI 0)),
  (55, .istore 6, 2, [], .null),
  (57, .iload 6, 2, [], .null),
  (59, .ifCond .eq 13, 3, [72], .null),
  (62, .aload_n 1, 1, [], .null),
  (63, .getfield 109, 3, [2, 6, 241, 0], .null),
  (66, .iload 5, 2, [], .null),
  (68, .iaload, 1, [], .null),
  (69, .goto 18, 3, [87], .null),
  (72, .aload_n 2, 1, [], .null),
  (73, .iload 5, 2, [], .null),
  (75, .aload_n 1, 1, [], .null),
  (76, .getfield 81, 3, [2, 0, 217, 0], .null),
  (79, .isub, 1, [], .null),
  (80, .aload_n 0, 1, [], .null),
  (81, .getfield 41, 3, [4, 5, 275, 0], .null),
  (84, .invokevirtual 112, 3, [71, 817, 0], .null),
  (87, .istore 7, 2, [], .null),
  (89, .iload 7, 2, [], .null),
  (91, .invokestatic 117, 3, [285, 821, 0], .null),
  (94, .aload_n 0, 1, [], .null),
  (95, .getfield 122, 3, [4, 0, 260, 0], .null),
  (98, .if_icmp .lt 21, 3, [119], .null),
  (101, .aload_n 0, 1, [], .null),
  (102, .iload 4, 2, [], .null),
  (104, .iload 7, 2, [], .null),
  (106, .invokevirtual 125, 3, [52, 827, 0], .null),
  (109, .ifCond .le 10, 3, [119], .null),
  (112, .iload_n 3, 1, [], .null),
  (113, .iconst 1, 1, [], .int (zI 1)),
  (114, .iload 4, 2, [], .null),
  (116, .ishl, 1, [], .null),
  (117, .ior, 1, [], .null),
  (118, .istore_n 3, 1, [], .null),
  (119, .iinc 4 1, 3, [], .int (zI 1)),
  (122, .goto (-117), 3, [5], .null),
  (125, .iload_n 3, 1, [], .null),
  (126, .ireturn, 1, [], .null)])
set_option maxRecDepth 100000 in
theorem okX4_goingAlone : ssOk mX4_goingAlone = true := by decide +kernel
set_option maxRecDepth 100000 in
theorem caX4_goingAlone : ssCa mX4_goingAlone = true := by decide +kernel
def mX4_goingAmong : ssM := (4, yX4_goingAmong, cX4_goingAmong, 5, (some .int), [838, 836, 837, 116, 0, 1, 54, 0], [
  (0, .iconst 0, 1, [], .int (zI 0)),
  (1, .istore_n 2, 1, [], .null),
  (2, .iconst 0, 1, [], .int (zI 0)),
  (3, .istore_n 3, 1, [], .null),
  (4, .iload_n 3, 1, [], .null),
  (5, .aload_n 0, 1, [], .null),
  (6, .getfield 44, 3, [4, 7, 283, 0], .null),
  (9, .if_icmp .ge 41, 3, [50], .null),
  (12, .iload_n 3, 1, [], .null),
  (13, .iconst 5, 1, [], .int (zI 5)),
  (14, .if_icmp .ge 36, 3, [50], .null),
  (17, .iconst 1, 1, [], .int (zI 1)),
  (18, .iload_n 3, 1, [], .null),
  (19, .ishl, 1, [], .null),
  (20, .aload_n 0, 1, [], .null),
  (21, .iload_n 3, 1, [], .null),
  (22, .iconst 0, 1, [], .int (zI 0)),
  (23, .invokevirtual 128, 3, [55, 839, 0], .null),
  (26, .ior, 1, [], .null),
  (27, .istore 4, 2, [], .null),
  (29, .iload 4, 2, [], .null),
  (31, .iload_n 1, 1, [], .null),
  (32, .iconst (-1), 1, [], .int (zI (-1))),
  (33, .ixor, 1, [], .null),
  (34, .iand, 1, [], .null),
  (35, .ifCond .ne 9, 3, [44], .null),
  (38, .iload_n 2, 1, [], .null),
  (39, .iconst 1, 1, [], .int (zI 1)),
  (40, .iload_n 3, 1, [], .null),
  (41, .ishl, 1, [], .null),
  (42, .ior, 1, [], .null),
  (43, .istore_n 2, 1, [], .null),
  (44, .iinc 3 1, 3, [], .int (zI 1)),
  (47, .goto (-43), 3, [4], .null),
  (50, .iload_n 2, 1, [], .null),
  (51, .ireturn, 1, [], .null)])
set_option maxRecDepth 100000 in
theorem okX4_goingAmong : ssOk mX4_goingAmong = true := by decide +kernel
set_option maxRecDepth 100000 in
theorem caX4_goingAmong : ssCa mX4_goingAmong = true := by decide +kernel
def mX4_restsOn : ssM := (4, yX4_restsOn, cX4_restsOn, 6, (some .int), [842, 840, 841, 116, 0, 2, 55, 0], [
  (0, .aload_n 0, 1, [], .null),
  (1, .getfield 24, 3, [4, 10, 292, 0], .null),
  (4, .iload_n 1, 1, [], .null),
  (5, .iaload, 1, [], .null),
  (6, .iload_n 2, 1, [], .null),
  (7, .iconst (-1), 1, [], .int (zI (-1))),
  (8, .ixor, 1, [], .null),
  (9, .iand, 1, [], .null),
  (10, .istore_n 3, 1, [], .null),
  (11, .iconst 0, 1, [], .int (zI 0)),
  (12, .istore 4, 2, [], .null),
  (14, .iload 4, 2, [], .null),
  (16, .aload_n 0, 1, [], .null),
  (17, .getfield 44, 3, [4, 7, 283, 0], .null),
  (20, .if_icmp .ge 57, 3, [77], .null),
  (23, .iconst 0, 1, [], .int (zI 0)),
  (24, .istore 5, 2, [], .null),
  (26, .iload 5, 2, [], .null),
  (28, .aload_n 0, 1, [], .null),
  (29, .getfield 44, 3, [4, 7, 283, 0], .null),
  (32, .if_icmp .ge 39, 3, [71], .null),
  (35, .iload 5, 2, [], .null),
  (37, .iconst 5, 1, [], .int (zI 5)),
  (38, .if_icmp .ge 33, 3, [71], .null),
  (41, .iload_n 3, 1, [], .null),
  (42, .iload 5, 2, [], .null),
  (44, .ishr, 1, [], .null),
  (45, .iconst 1, 1, [], .int (zI 1)),
  (46, .iand, 1, [], .null),
  (47, .iconst 1, 1, [], .int (zI 1)),
  (48, .if_icmp .ne 17, 3, [65], .null),
  (51, .iload_n 3, 1, [], .null),
  (52, .aload_n 0, 1, [], .null),
  (53, .getfield 24, 3, [4, 10, 292, 0], .null),
  (56, .iload 5, 2, [], .null),
  (58, .iaload, 1, [], .null),
  (59, .iload_n 2, 1, [], .null),
  (60, .iconst (-1), 1, [], .int (zI (-1))),
  (61, .ixor, 1, [], .null),
  (62, .iand, 1, [], .null),
  (63, .ior, 1, [], .null),
  (64, .istore_n 3, 1, [], .null),
  (65, .iinc 5 1, 3, [], .int (zI 1)),
  (68, .goto (-42), 3, [26], .null),
  (71, .iinc 4 1, 3, [], .int (zI 1)),
  (74, .goto (-60), 3, [14], .null),
  (77, .iload_n 3, 1, [], .null),
  (78, .ireturn, 1, [], .null)])
set_option maxRecDepth 100000 in
theorem okX4_restsOn : ssOk mX4_restsOn = true := by decide +kernel
set_option maxRecDepth 100000 in
theorem caX4_restsOn : ssCa mX4_restsOn = true := by decide +kernel
def mX4_fallingWith : ssM := (4, yX4_fallingWith, cX4_fallingWith, 4, (some .int), [1034, 1032, 1033, 116, 0, 1, 56, 0], [
  (0, .iconst 1, 1, [], .int (zI 1)),
  (1, .iload_n 1, 1, [], .null),
  (2, .ishl, 1, [], .null),
  (3, .istore_n 2, 1, [], .null),
  (4, .iconst 0, 1, [], .int (zI 0)),
  (5, .istore_n 3, 1, [], .null),
  (6, .iload_n 3, 1, [], .null),
  (7, .aload_n 0, 1, [], .null),
  (8, .getfield 44, 3, [4, 7, 283, 0], .null),
  (11, .if_icmp .ge 34, 3, [45], .null),
  (14, .iload_n 3, 1, [], .null),
  (15, .iconst 5, 1, [], .int (zI 5)),
  (16, .if_icmp .ge 29, 3, [45], .null),
  (19, .aload_n 0, 1, [], .null),
  (20, .iload_n 3, 1, [], .null),
  (21, .iconst 0, 1, [], .int (zI 0)),
  (22, .invokevirtual 128, 3, [55, 839, 0], .null),
  (25, .iload_n 1, 1, [], .null),
  (26, .ishr, 1, [], .null),
  (27, .iconst 1, 1, [], .int (zI 1)),
  (28, .iand, 1, [], .null),
  (29, .iconst 1, 1, [], .int (zI 1)),
  (30, .if_icmp .ne 9, 3, [39], .null),
  (33, .iload_n 2, 1, [], .null),
  (34, .iconst 1, 1, [], .int (zI 1)),
  (35, .iload_n 3, 1, [], .null),
  (36, .ishl, 1, [], .null),
  (37, .ior, 1, [], .null),
  (38, .istore_n 2, 1, [], .null),
  (39, .iinc 3 1, 3, [], .int (zI 1)),
  (42, .goto (-36), 3, [6], .null),
  (45, .iload_n 2, 1, [], .null),
  (46, .ireturn, 1, [], .null)])
set_option maxRecDepth 100000 in
theorem okX4_fallingWith : ssOk mX4_fallingWith = true := by decide +kernel
set_option maxRecDepth 100000 in
theorem caX4_fallingWith : ssCa mX4_fallingWith = true := by decide +kernel
def mX4_swingsOf : ssM := (4, yX4_swingsOf, cX4_swingsOf, 9, (some .int), [1059, 1057, 1058, 116, 0, 2, 57, 0], [
  (0, .iload_n 2, 1, [], .null),
  (1, .iconst 1, 1, [], .int (zI 1)),
  (2, .iload_n 1, 1, [], .null),
  (3, .ishl, 1, [], .null),
  (4, .iconst (-1), 1, [], .int (zI (-1))),
  (5, .ixor, 1, [], .null),
  (6, .iand, 1, [], .null),
  (7, .istore_n 3, 1, [], .null),
  (8, .aload_n 0, 1, [], .null),
  (9, .iload_n 2, 1, [], .null),
  (10, .invokevirtual 106, 3, [51, 831, 0], .null),
  (13, .istore 4, 2, [], .null),
  (15, .iconst 0, 1, [], .int (zI 0)),
  (16, .istore 5, 2, [], .null),
  (18, .iconst 0, 1, [], .int (zI 0)),
  (19, .istore 6, 2, [], .null),
  (21, .iload 6, 2, [], .null),
  (23, .bipush 64, 2, [], .int (zI 64)),
  (25, .if_icmp .ge 58, 3, [83], .null),
  (28, .iconst 2, 1, [], .int (zI 2)),
  (29, .aload_n 0, 1, [], .null),
  (30, .iload 6, 2, [], .null),
  (32, .invokevirtual 106, 3, [51, 831, 0], .null),
  (35, .imul, 1, [], .null),
  (36, .istore 7, 2, [], .null),
  (38, .iload 7, 2, [], .null),
  (40, .iconst 2, 1, [], .int (zI 2)),
  (41, .aload_n 0, 1, [], .null),
  (42, .getfield 15, 3, [4, 6, 280, 0], .null),
  (45, .iload_n 1, 1, [], .null),
  (46, .iaload, 1, [], .null),
  (47, .imul, 1, [], .null),
  (48, .iadd, 1, [], .null),
  (49, .istore 8, 2, [], .null),
  (51, .iload 6, 2, [], .null),
  (53, .iload_n 3, 1, [], .null),
  (54, .iconst (-1), 1, [], .int (zI (-1))),
  (55, .ixor, 1, [], .null),
  (56, .iand, 1, [], .null),
  (57, .ifCond .ne 20, 3, [77], .null),
  (60, .iload 7, 2, [], .null),
  (62, .iload 4, 2, [], .null),
  (64, .if_icmp .gt 13, 3, [77], .null),
  (67, .iload 8, 2, [], .null),
  (69, .iload 4, 2, [], .null),
  (71, .if_icmp .le 6, 3, [77], .null),
  (74, .iinc 5 1, 3, [], .int (zI 1)),
  (77, .iinc 6 1, 3, [], .int (zI 1)),
  (80, .goto (-59), 3, [21], .null),
  (83, .iload 5, 2, [], .null),
  (85, .ireturn, 1, [], .null)])
set_option maxRecDepth 100000 in
theorem okX4_swingsOf : ssOk mX4_swingsOf = true := by decide +kernel
set_option maxRecDepth 100000 in
theorem caX4_swingsOf : ssCa mX4_swingsOf = true := by decide +kernel
def mX5_init : ssM := (5, yX5_init, cX5_init, 1, none, [153, 152, 0, 115, 0, 0, 58, 1], [
  (0, .aload_n 0, 1, [], .null),
  (1, .invokespecial 3, 3, [292, 154, 0], .null),
  (4, .aload_n 0, 1, [], .null),
  (5, .sipush 900, 3, [], .int (zI 900)),
  (8, .newarray .byte, 2, [1], .null),
  (10, .putfield 9, 3, [5, 5, 165, 0], .null),
  (13, .aload_n 0, 1, [], .null),
  (14, .sipush 901, 3, [], .int (zI 901)),
  (17, .newarray .int, 2, [0], .null),
  (19, .putfield 15, 3, [5, 6, 166, 0], .null),
  (22, .aload_n 0, 1, [], .null),
  (23, .sipush 901, 3, [], .int (zI 901)),
  (26, .newarray .int, 2, [0], .null),
  (28, .putfield 19, 3, [5, 7, 167, 0], .null),
  (31, .aload_n 0, 1, [], .null),
  (32, .sipush 901, 3, [], .int (zI 901)),
  (35, .newarray .int, 2, [0], .null),
  (37, .putfield 22, 3, [5, 8, 168, 0], .null),
  (40, .aload_n 0, 1, [], .null),
  (41, .sipush 901, 3, [], .int (zI 901)),
  (44, .newarray .long, 2, [2], .null),
  (46, .putfield 25, 3, [5, 9, 169, 0], .null),
  (49, .return_, 1, [], .null)])
set_option maxRecDepth 100000 in
theorem okX5_init : ssOk mX5_init = true := by decide +kernel
set_option maxRecDepth 100000 in
theorem caX5_init : ssCa mX5_init = true := by decide +kernel
def mX5_put : ssM := (5, yX5_put, cX5_put, 3, none, [530, 528, 529, 115, 0, 1, 59, 0], [
  (0, .bipush 24, 2, [], .int (zI 24)),
  (2, .istore_n 2, 1, [], .null),
  (3, .iload_n 2, 1, [], .null),
  (4, .ifCond .lt 42, 3, [46], .null),
  (7, .aload_n 0, 1, [], .null),
  (8, .getfield 29, 3, [5, 0, 155, 0], .null),
  (11, .sipush 900, 3, [], .int (zI 900)),
  (14, .if_icmp .ge 26, 3, [40], .null),
  (17, .aload_n 0, 1, [], .null),
  (18, .getfield 9, 3, [5, 5, 165, 0], .null),
  (21, .aload_n 0, 1, [], .null),
  (22, .getfield 29, 3, [5, 0, 155, 0], .null),
  (25, .iload_n 1, 1, [], .null),
  (26, .iload_n 2, 1, [], .null),
  (27, .ishr, 1, [], .null),
  (28, .i2b, 1, [], .null),
  (29, .bastore, 1, [], .null),
  (30, .aload_n 0, 1, [], .null),
  (31, .dup, 1, [], .null),
  (32, .getfield 29, 3, [5, 0, 155, 0], .null),
  (35, .iconst 1, 1, [], .int (zI 1)),
  (36, .iadd, 1, [], .null),
  (37, .putfield 29, 3, [5, 0, 155, 0], .null),
  (40, .iinc 2 (-8), 3, [], .int (zI (-8))),
  (43, .goto (-40), 3, [3], .null),
  (46, .return_, 1, [], .null)])
set_option maxRecDepth 100000 in
theorem okX5_put : ssOk mX5_put = true := by decide +kernel
set_option maxRecDepth 100000 in
theorem caX5_put : ssCa mX5_put = true := by decide +kernel
def mX5_split : ssM := (5, yX5_split, cX5_split, 4, none, [553, 551, 552, 115, 0, 1, 60, 0], [
  (0, .aload_n 0, 1, [], .null),
  (1, .iload_n 1, 1, [], .null),
  (2, .sipush 900, 3, [], .int (zI 900)),
  (5, .invokestatic 33, 3, [290, 554, 0], .null),
  (8, .putfield 39, 3, [5, 11, 171, 0], .null),
  (11, .aload_n 0, 1, [], .null),
  (12, .iconst 0, 1, [], .int (zI 0)),
  (13, .putfield 42, 3, [5, 10, 170, 0], .null),
  (16, .iconst 1, 1, [], .int (zI 1)),
  (17, .istore_n 2, 1, [], .null),
  (18, .iconst 0, 1, [], .int (zI 0)),
  (19, .istore_n 3, 1, [], .null),
  (20, .iload_n 3, 1, [], .null),
  (21, .sipush 900, 3, [], .int (zI 900)),
  (24, .if_icmp .gt 111, 3, [135], .null),
  (27, .iload_n 2, 1, [], .null),
  (28, .ifCond .eq 107, 3, [135], .null),
  (31, .aload_n 0, 1, [], .null),
  (32, .getfield 42, 3, [5, 10, 170, 0], .null),
  (35, .aload_n 0, 1, [], .null),
  (36, .getfield 39, 3, [5, 11, 171, 0], .null),
  (39, .if_icmp .ge 30, 3, [69], .null),
  (42, .aload_n 0, 1, [], .null),
  (43, .getfield 9, 3, [5, 5, 165, 0], .null),
  (46, .aload_n 0, 1, [], .null),
  (47, .getfield 42, 3, [5, 10, 170, 0], .null),
  (50, .baload, 1, [], .null),
  (51, .bipush 32, 2, [], .int (zI 32)),
  (53, .if_icmp .ne 16, 3, [69], .null),
  (56, .aload_n 0, 1, [], .null),
  (57, .dup, 1, [], .null),
  (58, .getfield 42, 3, [5, 10, 170, 0], .null),
  (61, .iconst 1, 1, [], .int (zI 1)),
  (62, .iadd, 1, [], .null),
  (63, .putfield 42, 3, [5, 10, 170, 0], .null),
  (66, .goto (-35), 3, [31], .null),
  (69, .aload_n 0, 1, [], .null),
  (70, .getfield 19, 3, [5, 7, 167, 0], .null),
  (73, .iload_n 3, 1, [], .null),
  (74, .aload_n 0, 1, [], .null),
  (75, .getfield 42, 3, [5, 10, 170, 0], .null),
  (78, .iastore, 1, [], .null),
  (79, .aload_n 0, 1, [], .null),
  (80, .getfield 22, 3, [5, 8, 168, 0], .null),
  (83, .iload_n 3, 1, [], .null),
  (84, .iconst 0, 1, [], .int (zI 0)),
  (85, .iastore, 1, [], .null),
  (86, .aload_n 0, 1, [], .null),
  (87, .getfield 25, 3, [5, 9, 169, 0], .null),
  (90, .iload_n 3, 1, [], .null),
  (91, .lconst 0, 1, [], .long (zL 0)),
  (92, .lastore, 1, [], .null),
  (93, .aload_n 0, 1, [], .null),
  (94, .getfield 15, 3, [5, 6, 166, 0], .null),
  (97, .iload_n 3, 1, [], .null),
  (98, .aload_n 0, 1, [], .null),
  (99, .iload_n 3, 1, [], .null),
  (100, .invokevirtual 45, 3, [62, 557, 0], .null),
  (103, .iastore, 1, [], .null),
  (104, .aload_n 0, 1, [], .null),
  (105, .getfield 15, 3, [5, 6, 166, 0], .null),
  (108, .iload_n 3, 1, [], .null),
  (109, .iaload, 1, [], .null),
  (110, .ifCond .eq 17, 3, [127], .null),
  (113, .aload_n 0, 1, [], .null),
  (114, .getfield 15, 3, [5, 6, 166, 0], .null),
  (117, .iload_n 3, 1, [], .null),
  (118, .iaload, 1, [], .null),
  (119, .iconst 4, 1, [], .int (zI 4)),
  (120, .if_icmp .eq 7, 3, [127], .null),
  (123, .iconst 1, 1, [], .int (zI 1)),
  (124, .goto 4, 3, [128], .null),
  (127, .iconst 0, 1, [], .int (zI 0)),
  (128, .istore_n 2, 1, [], .null),
  (129, .iinc 3 1, 3, [], .int (zI 1)),
  (132, .goto (-112), 3, [20], .null),
  (135, .aload_n 0, 1, [], .null),
  (136, .iconst (-1), 1, [], .int (zI (-1))),
  (137, .putfield 49, 3, [5, 12, 172, 0], .null),
  (140, .aload_n 0, 1, [], .null),
  (141, .invokevirtual 52, 3, [61, 653, 0], .null),
  (144, .return_, 1, [], .null)])
set_option maxRecDepth 100000 in
theorem okX5_split : ssOk mX5_split = true := by decide +kernel
set_option maxRecDepth 100000 in
theorem caX5_split : ssCa mX5_split = true := by decide +kernel
def mX5_advance : ssM := (5, yX5_advance, cX5_advance, 1, none, [656, 654, 655, 115, 0, 0, 61, 0], [
  (0, .aload_n 0, 1, [], .null),
  (1, .getfield 49, 3, [5, 12, 172, 0], .null),
  (4, .sipush 900, 3, [], .int (zI 900)),
  (7, .if_icmp .ge 13, 3, [20], .null),
  (10, .aload_n 0, 1, [], .null),
  (11, .dup, 1, [], .null),
  (12, .getfield 49, 3, [5, 12, 172, 0], .null),
  (15, .iconst 1, 1, [], .int (zI 1)),
  (16, .iadd, 1, [], .null),
  (17, .putfield 49, 3, [5, 12, 172, 0], .null),
  (20, .aload_n 0, 1, [], .null),
  (21, .aload_n 0, 1, [], .null),
  (22, .getfield 15, 3, [5, 6, 166, 0], .null),
  (25, .aload_n 0, 1, [], .null),
  (26, .getfield 49, 3, [5, 12, 172, 0], .null),
  (29, .iaload, 1, [], .null),
  (30, .putfield 55, 3, [5, 1, 158, 0], .null),
  (33, .aload_n 0, 1, [], .null),
  (34, .aload_n 0, 1, [], .null),
  (35, .getfield 19, 3, [5, 7, 167, 0], .null),
  (38, .aload_n 0, 1, [], .null),
  (39, .getfield 49, 3, [5, 12, 172, 0], .null),
  (42, .iaload, 1, [], .null),
  (43, .putfield 58, 3, [5, 2, 159, 0], .null),
  (46, .aload_n 0, 1, [], .null),
  (47, .aload_n 0, 1, [], .null),
  (48, .getfield 22, 3, [5, 8, 168, 0], .null),
  (51, .aload_n 0, 1, [], .null),
  (52, .getfield 49, 3, [5, 12, 172, 0], .null),
  (55, .iaload, 1, [], .null),
  (56, .putfield 61, 3, [5, 3, 162, 0], .null),
  (59, .aload_n 0, 1, [], .null),
  (60, .aload_n 0, 1, [], .null),
  (61, .getfield 25, 3, [5, 9, 169, 0], .null),
  (64, .aload_n 0, 1, [], .null),
  (65, .getfield 49, 3, [5, 12, 172, 0], .null),
  (68, .laload, 1, [], .null),
  (69, .putfield 64, 3, [5, 4, 163, 0], .null),
  (72, .return_, 1, [], .null)])
set_option maxRecDepth 100000 in
theorem okX5_advance : ssOk mX5_advance = true := by decide +kernel
set_option maxRecDepth 100000 in
theorem caX5_advance : ssCa mX5_advance = true := by decide +kernel
def mX5_readToken : ssM := (5, yX5_readToken, cX5_readToken, 3, (some .int), [560, 559, 1, 115, 0, 1, 62, 0], [
  (0, .aload_n 0, 1, [], .null),
  (1, .getfield 42, 3, [5, 10, 170, 0], .null),
  (4, .aload_n 0, 1, [], .null),
  (5, .getfield 39, 3, [5, 11, 171, 0], .null),
  (8, .if_icmp .lt 5, 3, [13], .null),
  (11, .iconst 0, 1, [], .int (zI 0)),
  (12, .ireturn, 1, [], .null),
  (13, .aload_n 0, 1, [], .null),
  (14, .getfield 9, 3, [5, 5, 165, 0], .null),
  (17, .aload_n 0, 1, [], .null),
  (18, .getfield 42, 3, [5, 10, 170, 0], .null),
  (21, .baload, 1, [], .null),
  (22, .istore_n 2, 1, [], .null),
  (23, .iload_n 2, 1, [], .null),
  (24, .invokestatic 68, 3, [66, 561, 0], .null),
  (27, .ifCond .eq 9, 3, [36], .null),
  (30, .aload_n 0, 1, [], .null),
  (31, .iload_n 1, 1, [], .null),
  (32, .invokevirtual 72, 3, [63, 564, 0], .null),
  (35, .ireturn, 1, [], .null),
  (36, .iload_n 2, 1, [], .null),
  (37, .invokestatic 75, 3, [67, 644, 0], .null),
  (40, .ifCond .eq 9, 3, [49], .null),
  (43, .aload_n 0, 1, [], .null),
  (44, .iload_n 1, 1, [], .null),
  (45, .invokevirtual 78, 3, [64, 647, 0], .null),
  (48, .ireturn, 1, [], .null),
  (49, .aload_n 0, 1, [], .null),
  (50, .dup, 1, [], .null),
  (51, .getfield 42, 3, [5, 10, 170, 0], .null),
  (54, .iconst 1, 1, [], .int (zI 1)),
  (55, .iadd, 1, [], .null),
  (56, .putfield 42, 3, [5, 10, 170, 0], .null),
  (59, .iload_n 2, 1, [], .null),
  (60, .bipush 59, 2, [], .int (zI 59)),
  (62, .if_icmp .ne 7, 3, [69], .null),
  (65, .iconst 3, 1, [], .int (zI 3)),
  (66, .goto 4, 3, [70], .null),
  (69, .iconst 4, 1, [], .int (zI 4)),
  (70, .ireturn, 1, [], .null)])
set_option maxRecDepth 100000 in
theorem okX5_readToken : ssOk mX5_readToken = true := by decide +kernel
set_option maxRecDepth 100000 in
theorem caX5_readToken : ssCa mX5_readToken = true := by decide +kernel
def mX5_readWord : ssM := (5, yX5_readWord, cX5_readWord, 6, (some .int), [567, 566, 2, 115, 0, 1, 63, 0], [
  (0, .aload_n 0, 1, [], .null),
  (1, .getfield 42, 3, [5, 10, 170, 0], .null),
  (4, .istore_n 2, 1, [], .null),
  (5, .lconst 0, 1, [], .long (zL 0)),
  (6, .lstore_n 3, 1, [], .null),
  (7, .aload_n 0, 1, [], .null),
  (8, .getfield 42, 3, [5, 10, 170, 0], .null),
  (11, .aload_n 0, 1, [], .null),
  (12, .getfield 39, 3, [5, 11, 171, 0], .null),
  (15, .if_icmp .ge 51, 3, [66], .null),
  (18, .aload_n 0, 1, [], .null),
  (19, .getfield 9, 3, [5, 5, 165, 0], .null),
  (22, .aload_n 0, 1, [], .null),
  (23, .getfield 42, 3, [5, 10, 170, 0], .null),
  (26, .baload, 1, [], .null),
  (27, .invokestatic 68, 3, [66, 561, 0], .null),
  (30, .ifCond .eq 36, 3, [66], .null),
  (33, .lload_n 3, 1, [], .null),
  (34, .iconst 5, 1, [], .int (zI 5)),
  (35, .lshl, 1, [], .null),
  (36, .aload_n 0, 1, [], .null),
  (37, .getfield 9, 3, [5, 5, 165, 0], .null),
  (40, .aload_n 0, 1, [], .null),
  (41, .getfield 42, 3, [5, 10, 170, 0], .null),
  (44, .baload, 1, [], .null),
  (45, .bipush 97, 2, [], .int (zI 97)),
  (47, .isub, 1, [], .null),
  (48, .iconst 1, 1, [], .int (zI 1)),
  (49, .iadd, 1, [], .null),
  (50, .i2l, 1, [], .null),
  (51, .lor, 1, [], .null),
  (52, .lstore_n 3, 1, [], .null),
  (53, .aload_n 0, 1, [], .null),
  (54, .dup, 1, [], .null),
  (55, .getfield 42, 3, [5, 10, 170, 0], .null),
  (58, .iconst 1, 1, [], .int (zI 1)),
  (59, .iadd, 1, [], .null),
  (60, .putfield 42, 3, [5, 10, 170, 0], .null),
  (63, .goto (-56), 3, [7], .null),
  (66, .aload_n 0, 1, [], .null),
  (67, .getfield 25, 3, [5, 9, 169, 0], .null),
  (70, .iload_n 1, 1, [], .null),
  (71, .lload_n 3, 1, [], .null),
  (72, .lastore, 1, [], .null),
  (73, .iconst 1, 1, [], .int (zI 1)),
  (74, .istore 5, 2, [], .null),
  (76, .iload 5, 2, [], .null),
  (78, .bipush 21, 2, [], .int (zI 21)),
  (80, .if_icmp .gt 34, 3, [114], .null),
  (83, .aload_n 0, 1, [], .null),
  (84, .iload 5, 2, [], .null),
  (86, .invokestatic 81, 3, [68, 568, 0], .null),
  (89, .iload_n 2, 1, [], .null),
  (90, .aload_n 0, 1, [], .null),
  (91, .getfield 42, 3, [5, 10, 170, 0], .null),
  (94, .invokevirtual 85, 3, [65, 592, 0], .null),
  (97, .ifCond .eq 11, 3, [108], .null),
  (100, .aload_n 0, 1, [], .null),
  (101, .getfield 22, 3, [5, 8, 168, 0], .null),
  (104, .iload_n 1, 1, [], .null),
  (105, .iload 5, 2, [], .null),
  (107, .iastore, 1, [], .null),
  (108, .iinc 5 1, 3, [], .int (zI 1)),
  (111, .goto (-35), 3, [76], .null),
  (114, .aload_n 0, 1, [], .null),
  (115, .getfield 42, 3, [5, 10, 170, 0], .null),
  (118, .iload_n 2, 1, [], .null),
  (119, .isub, 1, [], .null),
  (120, .bipush 8, 2, [], .int (zI 8)),
  (122, .if_icmp .gt 7, 3, [129], .null),
  (125, .iconst 1, 1, [], .int (zI 1)),
  (126, .goto 4, 3, [130], .null),
  (129, .iconst 4, 1, [], .int (zI 4)),
  (130, .ireturn, 1, [], .null)])
set_option maxRecDepth 100000 in
theorem okX5_readWord : ssOk mX5_readWord = true := by decide +kernel
set_option maxRecDepth 100000 in
theorem caX5_readWord : ssCa mX5_readWord = true := by decide +kernel
def mX5_readWhole : ssM := (5, yX5_readWhole, cX5_readWhole, 5, (some .int), [650, 649, 4, 115, 0, 1, 64, 0], [
  (0, .aload_n 0, 1, [], .null),
  (1, .getfield 42, 3, [5, 10, 170, 0], .null),
  (4, .istore_n 2, 1, [], .null),
  (5, .lconst 0, 1, [], .long (zL 0)),
  (6, .lstore_n 3, 1, [], .null),
  (7, .aload_n 0, 1, [], .null),
  (8, .getfield 42, 3, [5, 10, 170, 0], .null),
  (11, .aload_n 0, 1, [], .null),
  (12, .getfield 39, 3, [5, 11, 171, 0], .null),
  (15, .if_icmp .ge 52, 3, [67], .null),
  (18, .aload_n 0, 1, [], .null),
  (19, .getfield 9, 3, [5, 5, 165, 0], .null),
  (22, .aload_n 0, 1, [], .null),
  (23, .getfield 42, 3, [5, 10, 170, 0], .null),
  (26, .baload, 1, [], .null),
  (27, .invokestatic 75, 3, [67, 644, 0], .null),
  (30, .ifCond .eq 37, 3, [67], .null),
  (33, .lload_n 3, 1, [], .null),
  (34, .ldc2_w 89, 3, [651], .long (zL 10)),
  (37, .lmul, 1, [], .null),
  (38, .aload_n 0, 1, [], .null),
  (39, .getfield 9, 3, [5, 5, 165, 0], .null),
  (42, .aload_n 0, 1, [], .null),
  (43, .getfield 42, 3, [5, 10, 170, 0], .null),
  (46, .baload, 1, [], .null),
  (47, .i2l, 1, [], .null),
  (48, .ladd, 1, [], .null),
  (49, .ldc2_w 91, 3, [652], .long (zL 48)),
  (52, .lsub, 1, [], .null),
  (53, .lstore_n 3, 1, [], .null),
  (54, .aload_n 0, 1, [], .null),
  (55, .dup, 1, [], .null),
  (56, .getfield 42, 3, [5, 10, 170, 0], .null),
  (59, .iconst 1, 1, [], .int (zI 1)),
  (60, .iadd, 1, [], .null),
  (61, .putfield 42, 3, [5, 10, 170, 0], .null),
  (64, .goto (-57), 3, [7], .null),
  (67, .aload_n 0, 1, [], .null),
  (68, .getfield 25, 3, [5, 9, 169, 0], .null),
  (71, .iload_n 1, 1, [], .null),
  (72, .lload_n 3, 1, [], .null),
  (73, .lastore, 1, [], .null),
  (74, .aload_n 0, 1, [], .null),
  (75, .getfield 42, 3, [5, 10, 170, 0], .null),
  (78, .iload_n 2, 1, [], .null),
  (79, .isub, 1, [], .null),
  (80, .iconst 3, 1, [], .int (zI 3)),
  (81, .if_icmp .gt 7, 3, [88], .null),
  (84, .iconst 2, 1, [], .int (zI 2)),
  (85, .goto 4, 3, [89], .null),
  (88, .iconst 4, 1, [], .int (zI 4)),
  (89, .ireturn, 1, [], .null)])
set_option maxRecDepth 100000 in
theorem okX5_readWhole : ssOk mX5_readWhole = true := by decide +kernel
set_option maxRecDepth 100000 in
theorem caX5_readWhole : ssCa mX5_readWhole = true := by decide +kernel
def mX5_isSpelt : ssM := (5, yX5_isSpelt, cX5_isSpelt, 5, (some .boolean), [595, 594, 3, 115, 0, 3, 65, 0], [
  (0, .iload_n 3, 1, [], .null),
  (1, .iload_n 2, 1, [], .null),
  (2, .isub, 1, [], .null),
  (3, .aload_n 1, 1, [], .null),
  (4, .invokevirtual 93, 3, [286, 596, 0], .null),
  (7, .if_icmp .ne 14, 3, [21], .null),
  (10, .iload_n 2, 1, [], .null),
  (11, .ifCond .lt 10, 3, [21], .null),
  (14, .iload_n 3, 1, [], .null),
  (15, .sipush 900, 3, [], .int (zI 900)),
  (18, .if_icmp .le 5, 3, [23], .null),
  (21, .iconst 0, 1, [], .int (zI 0)),
  (22, .ireturn, 1, [], .null),
  (23, .iconst 0, 1, [], .int (zI 0)),
  (24, .istore 4, 2, [], .null),
  (26, .iload 4, 2, [], .null),
  (28, .aload_n 1, 1, [], .null),
  (29, .invokevirtual 93, 3, [286, 596, 0], .null),
  (32, .if_icmp .ge 29, 3, [61], .null),
  (35, .aload_n 0, 1, [], .null),
  (36, .getfield 9, 3, [5, 5, 165, 0], .null),
  (39, .iload_n 2, 1, [], .null),
  (40, .iload 4, 2, [], .null),
  (42, .iadd, 1, [], .null),
  (43, .baload, 1, [], .null),
  (44, .aload_n 1, 1, [], .null),
  (45, .iload 4, 2, [], .null),
  (47, .invokevirtual 98, 3, [287, 606, 0], .null),
  (50, .if_icmp .eq 5, 3, [55], .null),
  (53, .iconst 0, 1, [], .int (zI 0)),
  (54, .ireturn, 1, [], .null),
  (55, .iinc 4 1, 3, [], .int (zI 1)),
  (58, .goto (-32), 3, [26], .null),
  (61, .iconst 1, 1, [], .int (zI 1)),
  (62, .ireturn, 1, [], .null)])
set_option maxRecDepth 100000 in
theorem okX5_isSpelt : ssOk mX5_isSpelt = true := by decide +kernel
set_option maxRecDepth 100000 in
theorem caX5_isSpelt : ssCa mX5_isSpelt = true := by decide +kernel
def mX5_isLetter : ssM := (5, yX5_isLetter, cX5_isLetter, 1, (some .boolean), [563, 562, 0, 115, 1, 1, 66, 0], [
  (0, .iload_n 0, 1, [], .null),
  (1, .bipush 97, 2, [], .int (zI 97)),
  (3, .if_icmp .lt 13, 3, [16], .null),
  (6, .iload_n 0, 1, [], .null),
  (7, .bipush 122, 2, [], .int (zI 122)),
  (9, .if_icmp .gt 7, 3, [16], .null),
  (12, .iconst 1, 1, [], .int (zI 1)),
  (13, .goto 4, 3, [17], .null),
  (16, .iconst 0, 1, [], .int (zI 0)),
  (17, .ireturn, 1, [], .null)])
set_option maxRecDepth 100000 in
theorem okX5_isLetter : ssOk mX5_isLetter = true := by decide +kernel
set_option maxRecDepth 100000 in
theorem caX5_isLetter : ssCa mX5_isLetter = true := by decide +kernel
def mX5_isDigit : ssM := (5, yX5_isDigit, cX5_isDigit, 1, (some .boolean), [646, 645, 0, 115, 1, 1, 67, 0], [
  (0, .iload_n 0, 1, [], .null),
  (1, .bipush 48, 2, [], .int (zI 48)),
  (3, .if_icmp .lt 13, 3, [16], .null),
  (6, .iload_n 0, 1, [], .null),
  (7, .bipush 57, 2, [], .int (zI 57)),
  (9, .if_icmp .gt 7, 3, [16], .null),
  (12, .iconst 1, 1, [], .int (zI 1)),
  (13, .goto 4, 3, [17], .null),
  (16, .iconst 0, 1, [], .int (zI 0)),
  (17, .ireturn, 1, [], .null)])
set_option maxRecDepth 100000 in
theorem okX5_isDigit : ssOk mX5_isDigit = true := by decide +kernel
set_option maxRecDepth 100000 in
theorem caX5_isDigit : ssCa mX5_isDigit = true := by decide +kernel
def mX5_keyText : ssM := (5, yX5_keyText, cX5_keyText, 1, (some (.object "java/lang/String")), [570, 569, 0, 115, 1, 1, 68, 0], [
  (0, .iload_n 0, 1, [], .null),
  (1, .tableswitch 155 1 20 #[95, 98, 101, 104, 107, 110, 113, 116, 119, 122, 125, 128, 131, 134, 137, 140, 143, 146, 149, 152], 95, [], .null),
  (96, .ldc 102, 2, [0], .null),
  (98, .areturn, 1, [], .null),
  (99, .ldc 104, 2, [1], .null),
  (101, .areturn, 1, [], .null),
  (102, .ldc 106, 2, [2], .null),
  (104, .areturn, 1, [], .null),
  (105, .ldc 108, 2, [3], .null),
  (107, .areturn, 1, [], .null),
  (108, .ldc 110, 2, [4], .null),
  (110, .areturn, 1, [], .null),
  (111, .ldc 112, 2, [5], .null),
  (113, .areturn, 1, [], .null),
  (114, .ldc 114, 2, [6], .null),
  (116, .areturn, 1, [], .null),
  (117, .ldc 116, 2, [7], .null),
  (119, .areturn, 1, [], .null),
  (120, .ldc 118, 2, [8], .null),
  (122, .areturn, 1, [], .null),
  (123, .ldc 120, 2, [9], .null),
  (125, .areturn, 1, [], .null),
  (126, .ldc 122, 2, [10], .null),
  (128, .areturn, 1, [], .null),
  (129, .ldc 124, 2, [11], .null),
  (131, .areturn, 1, [], .null),
  (132, .ldc 126, 2, [12], .null),
  (134, .areturn, 1, [], .null),
  (135, .ldc 128, 2, [13], .null),
  (137, .areturn, 1, [], .null),
  (138, .ldc 130, 2, [14], .null),
  (140, .areturn, 1, [], .null),
  (141, .ldc 131, 2, [15], .null),
  (143, .areturn, 1, [], .null),
  (144, .ldc 133, 2, [16], .null),
  (146, .areturn, 1, [], .null),
  (147, .ldc 135, 2, [17], .null),
  (149, .areturn, 1, [], .null),
  (150, .ldc 137, 2, [18], .null),
  (152, .areturn, 1, [], .null),
  (153, .ldc 139, 2, [19], .null),
  (155, .areturn, 1, [], .null),
  (156, .ldc 141, 2, [20], .null),
  (158, .areturn, 1, [], .null)])
set_option maxRecDepth 100000 in
theorem okX5_keyText : ssOk mX5_keyText = true := by decide +kernel
set_option maxRecDepth 100000 in
theorem caX5_keyText : ssCa mX5_keyText = true := by decide +kernel
def mX6_init : ssM := (6, yX6_init, cX6_init, 1, none, [417, 416, 0, 119, 0, 0, 69, 1], [
  (0, .aload_n 0, 1, [], .null),
  (1, .invokespecial 3, 3, [292, 418, 0], .null),
  (4, .aload_n 0, 1, [], .null),
  (5, .bipush 6, 2, [], .int (zI 6)),
  (7, .newarray .int, 2, [0], .null),
  (9, .putfield 9, 3, [6, 0, 419, 0], .null),
  (12, .return_, 1, [], .null)])
set_option maxRecDepth 100000 in
theorem okX6_init : ssOk mX6_init = true := by decide +kernel
set_option maxRecDepth 100000 in
theorem caX6_init : ssCa mX6_init = true := by decide +kernel
def mX6_fill : ssM := (6, yX6_fill, cX6_fill, 4, none, [808, 806, 807, 119, 0, 2, 70, 0], [
  (0, .iconst 0, 1, [], .int (zI 0)),
  (1, .istore_n 3, 1, [], .null),
  (2, .iload_n 3, 1, [], .null),
  (3, .aload_n 1, 1, [], .null),
  (4, .getfield 15, 3, [4, 5, 274, 0], .null),
  (7, .if_icmp .ge 39, 3, [46], .null),
  (10, .iload_n 3, 1, [], .null),
  (11, .bipush 6, 2, [], .int (zI 6)),
  (13, .if_icmp .ge 33, 3, [46], .null),
  (16, .aload_n 0, 1, [], .null),
  (17, .getfield 9, 3, [6, 0, 419, 0], .null),
  (20, .iload_n 3, 1, [], .null),
  (21, .aload_n 1, 1, [], .null),
  (22, .aload_n 2, 1, [], .null),
  (23, .iload_n 3, 1, [], .null),
  (24, .aload_n 2, 1, [], .null),
  (25, .getfield 21, 3, [2, 3, 225, 0], .null),
  (28, .iload_n 3, 1, [], .null),
  (29, .iaload, 1, [], .null),
  (30, .aload_n 2, 1, [], .null),
  (31, .getfield 26, 3, [2, 4, 231, 0], .null),
  (34, .iload_n 3, 1, [], .null),
  (35, .iaload, 1, [], .null),
  (36, .invokevirtual 29, 3, [45, 809, 0], .null),
  (39, .iastore, 1, [], .null),
  (40, .iinc 3 1, 3, [], .int (zI 1)),
  (43, .goto (-41), 3, [2], .null),
  (46, .return_, 1, [], .null)])
set_option maxRecDepth 100000 in
theorem okX6_fill : ssOk mX6_fill = true := by decide +kernel
set_option maxRecDepth 100000 in
theorem caX6_fill : ssCa mX6_fill = true := by decide +kernel
def mX6_goodAfter : ssM := (6, yX6_goodAfter, cX6_goodAfter, 5, (some .int), [820, 818, 819, 119, 0, 2, 71, 0], [
  (0, .iconst 0, 1, [], .int (zI 0)),
  (1, .istore_n 3, 1, [], .null),
  (2, .iconst 0, 1, [], .int (zI 0)),
  (3, .istore 4, 2, [], .null),
  (5, .iload 4, 2, [], .null),
  (7, .iload_n 2, 1, [], .null),
  (8, .if_icmp .ge 34, 3, [42], .null),
  (11, .iload 4, 2, [], .null),
  (13, .bipush 6, 2, [], .int (zI 6)),
  (15, .if_icmp .ge 27, 3, [42], .null),
  (18, .aload_n 0, 1, [], .null),
  (19, .getfield 9, 3, [6, 0, 419, 0], .null),
  (22, .iload 4, 2, [], .null),
  (24, .iaload, 1, [], .null),
  (25, .iload_n 1, 1, [], .null),
  (26, .if_icmp .le 10, 3, [36], .null),
  (29, .iload_n 3, 1, [], .null),
  (30, .iconst 1, 1, [], .int (zI 1)),
  (31, .iload 4, 2, [], .null),
  (33, .ishl, 1, [], .null),
  (34, .ior, 1, [], .null),
  (35, .istore_n 3, 1, [], .null),
  (36, .iinc 4 1, 3, [], .int (zI 1)),
  (39, .goto (-34), 3, [5], .null),
  (42, .iload_n 3, 1, [], .null),
  (43, .ireturn, 1, [], .null)])
set_option maxRecDepth 100000 in
theorem okX6_goodAfter : ssOk mX6_goodAfter = true := by decide +kernel
set_option maxRecDepth 100000 in
theorem caX6_goodAfter : ssCa mX6_goodAfter = true := by decide +kernel
def mX6_sum : ssM := (6, yX6_sum, cX6_sum, 4, (some .int), [926, 924, 925, 119, 0, 1, 72, 0], [
  (0, .iconst 0, 1, [], .int (zI 0)),
  (1, .istore_n 2, 1, [], .null),
  (2, .iconst 0, 1, [], .int (zI 0)),
  (3, .istore_n 3, 1, [], .null),
  (4, .iload_n 3, 1, [], .null),
  (5, .iload_n 1, 1, [], .null),
  (6, .if_icmp .ge 24, 3, [30], .null),
  (9, .iload_n 3, 1, [], .null),
  (10, .bipush 6, 2, [], .int (zI 6)),
  (12, .if_icmp .ge 18, 3, [30], .null),
  (15, .iload_n 2, 1, [], .null),
  (16, .aload_n 0, 1, [], .null),
  (17, .getfield 9, 3, [6, 0, 419, 0], .null),
  (20, .iload_n 3, 1, [], .null),
  (21, .iaload, 1, [], .null),
  (22, .iadd, 1, [], .null),
  (23, .istore_n 2, 1, [], .null),
  (24, .iinc 3 1, 3, [], .int (zI 1)),
  (27, .goto (-23), 3, [4], .null),
  (30, .iload_n 2, 1, [], .null),
  (31, .ireturn, 1, [], .null)])
set_option maxRecDepth 100000 in
theorem okX6_sum : ssOk mX6_sum = true := by decide +kernel
set_option maxRecDepth 100000 in
theorem caX6_sum : ssCa mX6_sum = true := by decide +kernel
def mX6_quorumDays : ssM := (6, yX6_quorumDays, cX6_quorumDays, 6, (some .int), [884, 882, 883, 119, 0, 2, 73, 0], [
  (0, .iconst 0, 1, [], .int (zI 0)),
  (1, .istore_n 3, 1, [], .null),
  (2, .iconst 0, 1, [], .int (zI 0)),
  (3, .istore 4, 2, [], .null),
  (5, .iload 4, 2, [], .null),
  (7, .iload_n 1, 1, [], .null),
  (8, .if_icmp .ge 60, 3, [68], .null),
  (11, .iload 4, 2, [], .null),
  (13, .bipush 6, 2, [], .int (zI 6)),
  (15, .if_icmp .ge 53, 3, [68], .null),
  (18, .aload_n 0, 1, [], .null),
  (19, .aload_n 0, 1, [], .null),
  (20, .getfield 9, 3, [6, 0, 419, 0], .null),
  (23, .iload 4, 2, [], .null),
  (25, .iaload, 1, [], .null),
  (26, .iconst 1, 1, [], .int (zI 1)),
  (27, .isub, 1, [], .null),
  (28, .iload_n 1, 1, [], .null),
  (29, .invokevirtual 33, 3, [71, 885, 0], .null),
  (32, .invokestatic 37, 3, [285, 886, 0], .null),
  (35, .istore 5, 2, [], .null),
  (37, .iload 5, 2, [], .null),
  (39, .iload_n 2, 1, [], .null),
  (40, .if_icmp .lt 22, 3, [62], .null),
  (43, .aload_n 0, 1, [], .null),
  (44, .getfield 9, 3, [6, 0, 419, 0], .null),
  (47, .iload 4, 2, [], .null),
  (49, .iaload, 1, [], .null),
  (50, .iload_n 3, 1, [], .null),
  (51, .if_icmp .le 11, 3, [62], .null),
  (54, .aload_n 0, 1, [], .null),
  (55, .getfield 9, 3, [6, 0, 419, 0], .null),
  (58, .iload 4, 2, [], .null),
  (60, .iaload, 1, [], .null),
  (61, .istore_n 3, 1, [], .null),
  (62, .iinc 4 1, 3, [], .int (zI 1)),
  (65, .goto (-60), 3, [5], .null),
  (68, .iload_n 3, 1, [], .null),
  (69, .ireturn, 1, [], .null)])
set_option maxRecDepth 100000 in
theorem okX6_quorumDays : ssOk mX6_quorumDays = true := by decide +kernel
set_option maxRecDepth 100000 in
theorem caX6_quorumDays : ssCa mX6_quorumDays = true := by decide +kernel
def mX7_init : ssM := (7, yX7_init, cX7_init, 2, none, [397, 396, 0, 118, 0, 0, 74, 1], [
  (0, .aload_n 0, 1, [], .null),
  (1, .invokespecial 3, 3, [292, 398, 0], .null),
  (4, .aload_n 0, 1, [], .null),
  (5, .bipush 16, 2, [], .int (zI 16)),
  (7, .anewarray 9, 3, [399], .null),
  (10, .putfield 11, 3, [7, 2, 405, 0], .null),
  (13, .iconst 0, 1, [], .int (zI 0)),
  (14, .istore_n 1, 1, [], .null),
  (15, .iload_n 1, 1, [], .null),
  (16, .bipush 16, 2, [], .int (zI 16)),
  (18, .if_icmp .ge 22, 3, [40], .null),
  (21, .aload_n 0, 1, [], .null),
  (22, .getfield 11, 3, [7, 2, 405, 0], .null),
  (25, .iload_n 1, 1, [], .null),
  (26, .new 9, 3, [2, 399], .null),
  (29, .dup, 1, [], .null),
  (30, .invokespecial 17, 3, [13, 401, 0], .null),
  (33, .aastore, 1, [], .null),
  (34, .iinc 1 1, 3, [], .int (zI 1)),
  (37, .goto (-22), 3, [15], .null),
  (40, .return_, 1, [], .null)])
set_option maxRecDepth 100000 in
theorem okX7_init : ssOk mX7_init = true := by decide +kernel
set_option maxRecDepth 100000 in
theorem caX7_init : ssCa mX7_init = true := by decide +kernel
def mX7_clear : ssM := (7, yX7_clear, cX7_clear, 1, none, [744, 742, 743, 118, 0, 0, 75, 0], [
  (0, .aload_n 0, 1, [], .null),
  (1, .iconst 0, 1, [], .int (zI 0)),
  (2, .putfield 18, 3, [7, 0, 402, 0], .null),
  (5, .aload_n 0, 1, [], .null),
  (6, .iconst 0, 1, [], .int (zI 0)),
  (7, .putfield 22, 3, [7, 1, 404, 0], .null),
  (10, .return_, 1, [], .null)])
set_option maxRecDepth 100000 in
theorem okX7_clear : ssOk mX7_clear = true := by decide +kernel
set_option maxRecDepth 100000 in
theorem caX7_clear : ssCa mX7_clear = true := by decide +kernel
def mX7_keep : ssM := (7, yX7_keep, cX7_keep, 2, none, [1140, 1138, 1139, 118, 0, 1, 76, 0], [
  (0, .aload_n 0, 1, [], .null),
  (1, .getfield 11, 3, [7, 2, 405, 0], .null),
  (4, .aload_n 0, 1, [], .null),
  (5, .getfield 22, 3, [7, 1, 404, 0], .null),
  (8, .aaload, 1, [], .null),
  (9, .aload_n 1, 1, [], .null),
  (10, .invokevirtual 25, 3, [14, 1141, 0], .null),
  (13, .aload_n 0, 1, [], .null),
  (14, .aload_n 0, 1, [], .null),
  (15, .getfield 22, 3, [7, 1, 404, 0], .null),
  (18, .iconst 1, 1, [], .int (zI 1)),
  (19, .iadd, 1, [], .null),
  (20, .bipush 16, 2, [], .int (zI 16)),
  (22, .irem, 1, [], .null),
  (23, .putfield 22, 3, [7, 1, 404, 0], .null),
  (26, .aload_n 0, 1, [], .null),
  (27, .aload_n 0, 1, [], .null),
  (28, .getfield 18, 3, [7, 0, 402, 0], .null),
  (31, .iconst 1, 1, [], .int (zI 1)),
  (32, .iadd, 1, [], .null),
  (33, .bipush 16, 2, [], .int (zI 16)),
  (35, .invokestatic 29, 3, [290, 1142, 0], .null),
  (38, .putfield 18, 3, [7, 0, 402, 0], .null),
  (41, .return_, 1, [], .null)])
set_option maxRecDepth 100000 in
theorem okX7_keep : ssOk mX7_keep = true := by decide +kernel
set_option maxRecDepth 100000 in
theorem caX7_keep : ssCa mX7_keep = true := by decide +kernel
def mX7_restore : ssM := (7, yX7_restore, cX7_restore, 2, none, [1179, 1177, 1178, 118, 0, 1, 77, 0], [
  (0, .aload_n 0, 1, [], .null),
  (1, .aload_n 0, 1, [], .null),
  (2, .getfield 22, 3, [7, 1, 404, 0], .null),
  (5, .bipush 16, 2, [], .int (zI 16)),
  (7, .iadd, 1, [], .null),
  (8, .iconst 1, 1, [], .int (zI 1)),
  (9, .isub, 1, [], .null),
  (10, .bipush 16, 2, [], .int (zI 16)),
  (12, .irem, 1, [], .null),
  (13, .putfield 22, 3, [7, 1, 404, 0], .null),
  (16, .aload_n 0, 1, [], .null),
  (17, .dup, 1, [], .null),
  (18, .getfield 18, 3, [7, 0, 402, 0], .null),
  (21, .iconst 1, 1, [], .int (zI 1)),
  (22, .isub, 1, [], .null),
  (23, .putfield 18, 3, [7, 0, 402, 0], .null),
  (26, .aload_n 1, 1, [], .null),
  (27, .aload_n 0, 1, [], .null),
  (28, .getfield 11, 3, [7, 2, 405, 0], .null),
  (31, .aload_n 0, 1, [], .null),
  (32, .getfield 22, 3, [7, 1, 404, 0], .null),
  (35, .aaload, 1, [], .null),
  (36, .invokevirtual 25, 3, [14, 1141, 0], .null),
  (39, .return_, 1, [], .null)])
set_option maxRecDepth 100000 in
theorem okX7_restore : ssOk mX7_restore = true := by decide +kernel
set_option maxRecDepth 100000 in
theorem caX7_restore : ssCa mX7_restore = true := by decide +kernel
def mJ6_numberOfTrailingZeros_0f7a4 : ssM := (12, yJ6_numberOfTrailingZeros_0f7a4, cJ6_numberOfTrailingZeros_0f7a4, 2, (some .int), [1025, 1024, 0, 130, 1, 1, 284, 0], [
  (0, .iload_n 0, 1, [], .null),
  (1, .iconst (-1), 1, [], .int (zI (-1))),
  (2, .ixor, 1, [], .null),
  (3, .iload_n 0, 1, [], .null),
  (4, .iconst 1, 1, [], .int (zI 1)),
  (5, .isub, 1, [], .null),
  (6, .iand, 1, [], .null),
  (7, .istore_n 0, 1, [], .null),
  (8, .iload_n 0, 1, [], .null),
  (9, .ifCond .gt 8, 3, [17], .null),
  (12, .iload_n 0, 1, [], .null),
  (13, .bipush 32, 2, [], .int (zI 32)),
  (15, .iand, 1, [], .null),
  (16, .ireturn, 1, [], .null),
  (17, .iconst 1, 1, [], .int (zI 1)),
  (18, .istore_n 1, 1, [], .null),
  (19, .iload_n 0, 1, [], .null),
  (20, .ldc_w 264, 3, [1026], .int (zI 65536)),
  (23, .if_icmp .le 11, 3, [34], .null),
  (26, .iinc 1 16, 3, [], .int (zI 16)),
  (29, .iload_n 0, 1, [], .null),
  (30, .bipush 16, 2, [], .int (zI 16)),
  (32, .iushr, 1, [], .null),
  (33, .istore_n 0, 1, [], .null),
  (34, .iload_n 0, 1, [], .null),
  (35, .sipush 256, 3, [], .int (zI 256)),
  (38, .if_icmp .le 11, 3, [49], .null),
  (41, .iinc 1 8, 3, [], .int (zI 8)),
  (44, .iload_n 0, 1, [], .null),
  (45, .bipush 8, 2, [], .int (zI 8)),
  (47, .iushr, 1, [], .null),
  (48, .istore_n 0, 1, [], .null),
  (49, .iload_n 0, 1, [], .null),
  (50, .bipush 16, 2, [], .int (zI 16)),
  (52, .if_icmp .le 10, 3, [62], .null),
  (55, .iinc 1 4, 3, [], .int (zI 4)),
  (58, .iload_n 0, 1, [], .null),
  (59, .iconst 4, 1, [], .int (zI 4)),
  (60, .iushr, 1, [], .null),
  (61, .istore_n 0, 1, [], .null),
  (62, .iload_n 0, 1, [], .null),
  (63, .iconst 4, 1, [], .int (zI 4)),
  (64, .if_icmp .le 10, 3, [74], .null),
  (67, .iinc 1 2, 3, [], .int (zI 2)),
  (70, .iload_n 0, 1, [], .null),
  (71, .iconst 2, 1, [], .int (zI 2)),
  (72, .iushr, 1, [], .null),
  (73, .istore_n 0, 1, [], .null),
  (74, .iload_n 1, 1, [], .null),
  (75, .iload_n 0, 1, [], .null),
  (76, .iconst 1, 1, [], .int (zI 1)),
  (77, .iushr, 1, [], .null),
  (78, .iadd, 1, [], .null),
  (79, .ireturn, 1, [], .null)])
set_option maxRecDepth 100000 in
theorem okJ6_numberOfTrailingZeros_0f7a4 : ssOk mJ6_numberOfTrailingZeros_0f7a4 = true := by decide +kernel
set_option maxRecDepth 100000 in
theorem caJ6_numberOfTrailingZeros_0f7a4 : ssCa mJ6_numberOfTrailingZeros_0f7a4 = true := by decide +kernel
def mJ6_bitCount_0f7a4 : ssM := (12, yJ6_bitCount_0f7a4, cJ6_bitCount_0f7a4, 1, (some .int), [823, 822, 0, 130, 1, 1, 285, 0], [
  (0, .iload_n 0, 1, [], .null),
  (1, .iload_n 0, 1, [], .null),
  (2, .iconst 1, 1, [], .int (zI 1)),
  (3, .iushr, 1, [], .null),
  (4, .ldc_w 265, 3, [824], .int (zI 1431655765)),
  (7, .iand, 1, [], .null),
  (8, .isub, 1, [], .null),
  (9, .istore_n 0, 1, [], .null),
  (10, .iload_n 0, 1, [], .null),
  (11, .ldc_w 266, 3, [825], .int (zI 858993459)),
  (14, .iand, 1, [], .null),
  (15, .iload_n 0, 1, [], .null),
  (16, .iconst 2, 1, [], .int (zI 2)),
  (17, .iushr, 1, [], .null),
  (18, .ldc_w 266, 3, [825], .int (zI 858993459)),
  (21, .iand, 1, [], .null),
  (22, .iadd, 1, [], .null),
  (23, .istore_n 0, 1, [], .null),
  (24, .iload_n 0, 1, [], .null),
  (25, .iload_n 0, 1, [], .null),
  (26, .iconst 4, 1, [], .int (zI 4)),
  (27, .iushr, 1, [], .null),
  (28, .iadd, 1, [], .null),
  (29, .ldc_w 267, 3, [826], .int (zI 252645135)),
  (32, .iand, 1, [], .null),
  (33, .istore_n 0, 1, [], .null),
  (34, .iload_n 0, 1, [], .null),
  (35, .iload_n 0, 1, [], .null),
  (36, .bipush 8, 2, [], .int (zI 8)),
  (38, .iushr, 1, [], .null),
  (39, .iadd, 1, [], .null),
  (40, .istore_n 0, 1, [], .null),
  (41, .iload_n 0, 1, [], .null),
  (42, .iload_n 0, 1, [], .null),
  (43, .bipush 16, 2, [], .int (zI 16)),
  (45, .iushr, 1, [], .null),
  (46, .iadd, 1, [], .null),
  (47, .istore_n 0, 1, [], .null),
  (48, .iload_n 0, 1, [], .null),
  (49, .bipush 63, 2, [], .int (zI 63)),
  (51, .iand, 1, [], .null),
  (52, .ireturn, 1, [], .null)])
set_option maxRecDepth 100000 in
theorem okJ6_bitCount_0f7a4 : ssOk mJ6_bitCount_0f7a4 = true := by decide +kernel
set_option maxRecDepth 100000 in
theorem caJ6_bitCount_0f7a4 : ssCa mJ6_bitCount_0f7a4 = true := by decide +kernel
end
