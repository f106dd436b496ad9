section
-- ===== PART A: goes FIRST, ahead of the names: the tables' words, and 'selects' of the private methods out of them =====
/-- a private method of a class that the tables say can be made, by its rows of tables_1 -/
def lw_okq (q : MethodName × Nat) : Prop := (q.1.cls ≠ "java/lang/invoke/MethodHandle" ∧ q.1.cls ≠ "java/lang/invoke/VarHandle") ∧ Cond.instantiable q.1.cls q.2 ∈ tables_1 ∧ Cond.privateMethod q.1 ∈ tables_1 ∧ Cond.instanceMethod q.1 ∈ tables_1
theorem lw_p0 : lw_okq (⟨"MainsLetters$Wire", "tuneAll", "()V"⟩, 6) := ⟨⟨by decide +kernel, by decide +kernel⟩, List.mem_of_getElem? (i := 22) (by decide +kernel), List.mem_of_getElem? (i := 28) (by decide +kernel), List.mem_of_getElem? (i := 29) (by decide +kernel)⟩
theorem lw_p1 : lw_okq (⟨"MainsLetters$Wire", "tuneTo", "(I)V"⟩, 6) := ⟨⟨by decide +kernel, by decide +kernel⟩, List.mem_of_getElem? (i := 22) (by decide +kernel), List.mem_of_getElem? (i := 32) (by decide +kernel), List.mem_of_getElem? (i := 33) (by decide +kernel)⟩
theorem lw_p2 : lw_okq (⟨"MainsLetters$Wire", "tune", "(II)V"⟩, 6) := ⟨⟨by decide +kernel, by decide +kernel⟩, List.mem_of_getElem? (i := 22) (by decide +kernel), List.mem_of_getElem? (i := 36) (by decide +kernel), List.mem_of_getElem? (i := 37) (by decide +kernel)⟩
theorem lw_p3 : lw_okq (⟨"MainsLetters$Wire", "areHidden", "(II)Z"⟩, 6) := ⟨⟨by decide +kernel, by decide +kernel⟩, List.mem_of_getElem? (i := 22) (by decide +kernel), List.mem_of_getElem? (i := 333) (by decide +kernel), List.mem_of_getElem? (i := 334) (by decide +kernel)⟩
theorem lw_p4 : lw_okq (⟨"MainsLetters$Wire", "someHearsBoth", "(II)Z"⟩, 6) := ⟨⟨by decide +kernel, by decide +kernel⟩, List.mem_of_getElem? (i := 22) (by decide +kernel), List.mem_of_getElem? (i := 337) (by decide +kernel), List.mem_of_getElem? (i := 338) (by decide +kernel)⟩
theorem lw_p5 : lw_okq (⟨"MainsLetters$Ways", "weighSteps", "(I)V"⟩, 6) := ⟨⟨by decide +kernel, by decide +kernel⟩, List.mem_of_getElem? (i := 79) (by decide +kernel), List.mem_of_getElem? (i := 361) (by decide +kernel), List.mem_of_getElem? (i := 362) (by decide +kernel)⟩
theorem lw_p6 : lw_okq (⟨"MainsLetters$Ways", "measureTo", "(I)V"⟩, 6) := ⟨⟨by decide +kernel, by decide +kernel⟩, List.mem_of_getElem? (i := 79) (by decide +kernel), List.mem_of_getElem? (i := 368) (by decide +kernel), List.mem_of_getElem? (i := 369) (by decide +kernel)⟩
theorem lw_p7 : lw_okq (⟨"MainsLetters$Ways", "shorten", "(I)V"⟩, 6) := ⟨⟨by decide +kernel, by decide +kernel⟩, List.mem_of_getElem? (i := 79) (by decide +kernel), List.mem_of_getElem? (i := 372) (by decide +kernel), List.mem_of_getElem? (i := 373) (by decide +kernel)⟩
theorem lw_p8 : lw_okq (⟨"MainsLetters$Ways", "through", "(II)I"⟩, 6) := ⟨⟨by decide +kernel, by decide +kernel⟩, List.mem_of_getElem? (i := 79) (by decide +kernel), List.mem_of_getElem? (i := 376) (by decide +kernel), List.mem_of_getElem? (i := 377) (by decide +kernel)⟩
theorem lw_p9 : lw_okq (⟨"MainsLetters$Ways", "follow", "(II)V"⟩, 6) := ⟨⟨by decide +kernel, by decide +kernel⟩, List.mem_of_getElem? (i := 79) (by decide +kernel), List.mem_of_getElem? (i := 383) (by decide +kernel), List.mem_of_getElem? (i := 384) (by decide +kernel)⟩
theorem lw_p10 : lw_okq (⟨"MainsLetters$Ways", "nextOf", "(I)I"⟩, 6) := ⟨⟨by decide +kernel, by decide +kernel⟩, List.mem_of_getElem? (i := 79) (by decide +kernel), List.mem_of_getElem? (i := 387) (by decide +kernel), List.mem_of_getElem? (i := 388) (by decide +kernel)⟩
theorem lw_p11 : lw_okq (⟨"MainsLetters$Contention", "waitAt", "(LMainsLetters$Station;I)V"⟩, 7) := ⟨⟨by decide +kernel, by decide +kernel⟩, List.mem_of_getElem? (i := 104) (by decide +kernel), List.mem_of_getElem? (i := 423) (by decide +kernel), List.mem_of_getElem? (i := 424) (by decide +kernel)⟩
theorem lw_p12 : lw_okq (⟨"MainsLetters$Contention", "withLetters", "()I"⟩, 7) := ⟨⟨by decide +kernel, by decide +kernel⟩, List.mem_of_getElem? (i := 104) (by decide +kernel), List.mem_of_getElem? (i := 464) (by decide +kernel), List.mem_of_getElem? (i := 465) (by decide +kernel)⟩
theorem lw_p13 : lw_okq (⟨"MainsLetters$Contention", "inPhase", "(I)I"⟩, 7) := ⟨⟨by decide +kernel, by decide +kernel⟩, List.mem_of_getElem? (i := 104) (by decide +kernel), List.mem_of_getElem? (i := 468) (by decide +kernel), List.mem_of_getElem? (i := 469) (by decide +kernel)⟩
theorem lw_p14 : lw_okq (⟨"MainsLetters$Contention", "passSlot", "()V"⟩, 7) := ⟨⟨by decide +kernel, by decide +kernel⟩, List.mem_of_getElem? (i := 104) (by decide +kernel), List.mem_of_getElem? (i := 473) (by decide +kernel), List.mem_of_getElem? (i := 474) (by decide +kernel)⟩
theorem lw_p15 : lw_okq (⟨"MainsLetters$Contention", "countDown", "(II)I"⟩, 7) := ⟨⟨by decide +kernel, by decide +kernel⟩, List.mem_of_getElem? (i := 104) (by decide +kernel), List.mem_of_getElem? (i := 477) (by decide +kernel), List.mem_of_getElem? (i := 478) (by decide +kernel)⟩
def lw_privs_1 : List (MethodName × Nat) := [(⟨"MainsLetters$Wire", "tuneAll", "()V"⟩, 6), (⟨"MainsLetters$Wire", "tuneTo", "(I)V"⟩, 6), (⟨"MainsLetters$Wire", "tune", "(II)V"⟩, 6), (⟨"MainsLetters$Wire", "areHidden", "(II)Z"⟩, 6), (⟨"MainsLetters$Wire", "someHearsBoth", "(II)Z"⟩, 6), (⟨"MainsLetters$Ways", "weighSteps", "(I)V"⟩, 6), (⟨"MainsLetters$Ways", "measureTo", "(I)V"⟩, 6), (⟨"MainsLetters$Ways", "shorten", "(I)V"⟩, 6), (⟨"MainsLetters$Ways", "through", "(II)I"⟩, 6), (⟨"MainsLetters$Ways", "follow", "(II)V"⟩, 6), (⟨"MainsLetters$Ways", "nextOf", "(I)I"⟩, 6), (⟨"MainsLetters$Contention", "waitAt", "(LMainsLetters$Station;I)V"⟩, 7), (⟨"MainsLetters$Contention", "withLetters", "()I"⟩, 7), (⟨"MainsLetters$Contention", "inPhase", "(I)I"⟩, 7), (⟨"MainsLetters$Contention", "passSlot", "()V"⟩, 7), (⟨"MainsLetters$Contention", "countDown", "(II)I"⟩, 7)]
theorem lw_r1 : ∀ q ∈ lw_privs_1, lw_okq q := List.forall_mem_cons.mpr ⟨lw_p0, List.forall_mem_cons.mpr ⟨lw_p1, List.forall_mem_cons.mpr ⟨lw_p2, List.forall_mem_cons.mpr ⟨lw_p3, List.forall_mem_cons.mpr ⟨lw_p4, List.forall_mem_cons.mpr ⟨lw_p5, List.forall_mem_cons.mpr ⟨lw_p6, List.forall_mem_cons.mpr ⟨lw_p7, List.forall_mem_cons.mpr ⟨lw_p8, List.forall_mem_cons.mpr ⟨lw_p9, List.forall_mem_cons.mpr ⟨lw_p10, List.forall_mem_cons.mpr ⟨lw_p11, List.forall_mem_cons.mpr ⟨lw_p12, List.forall_mem_cons.mpr ⟨lw_p13, List.forall_mem_cons.mpr ⟨lw_p14, List.forall_mem_cons.mpr ⟨lw_p15, fun _ h => absurd h List.not_mem_nil⟩⟩⟩⟩⟩⟩⟩⟩⟩⟩⟩⟩⟩⟩⟩⟩
theorem lw_p16 : lw_okq (⟨"MainsLetters$Contention", "isHeld", "(III)Z"⟩, 7) := ⟨⟨by decide +kernel, by decide +kernel⟩, List.mem_of_getElem? (i := 104) (by decide +kernel), List.mem_of_getElem? (i := 482) (by decide +kernel), List.mem_of_getElem? (i := 483) (by decide +kernel)⟩
theorem lw_p17 : lw_okq (⟨"MainsLetters$Contention", "start", "(I)I"⟩, 7) := ⟨⟨by decide +kernel, by decide +kernel⟩, List.mem_of_getElem? (i := 104) (by decide +kernel), List.mem_of_getElem? (i := 487) (by decide +kernel), List.mem_of_getElem? (i := 488) (by decide +kernel)⟩
theorem lw_p18 : lw_okq (⟨"MainsLetters$Contention", "send", "(I)V"⟩, 7) := ⟨⟨by decide +kernel, by decide +kernel⟩, List.mem_of_getElem? (i := 104) (by decide +kernel), List.mem_of_getElem? (i := 492) (by decide +kernel), List.mem_of_getElem? (i := 493) (by decide +kernel)⟩
theorem lw_p19 : lw_okq (⟨"MainsLetters$Contention", "spoil", "(I)V"⟩, 7) := ⟨⟨by decide +kernel, by decide +kernel⟩, List.mem_of_getElem? (i := 104) (by decide +kernel), List.mem_of_getElem? (i := 497) (by decide +kernel), List.mem_of_getElem? (i := 498) (by decide +kernel)⟩
theorem lw_p20 : lw_okq (⟨"MainsLetters$Contention", "goOn", "(I)V"⟩, 7) := ⟨⟨by decide +kernel, by decide +kernel⟩, List.mem_of_getElem? (i := 104) (by decide +kernel), List.mem_of_getElem? (i := 501) (by decide +kernel), List.mem_of_getElem? (i := 502) (by decide +kernel)⟩
theorem lw_p21 : lw_okq (⟨"MainsLetters$Contention", "collide", "(LMainsLetters$Station;)V"⟩, 7) := ⟨⟨by decide +kernel, by decide +kernel⟩, List.mem_of_getElem? (i := 104) (by decide +kernel), List.mem_of_getElem? (i := 505) (by decide +kernel), List.mem_of_getElem? (i := 506) (by decide +kernel)⟩
theorem lw_p22 : lw_okq (⟨"MainsLetters$Contention", "arrive", "(LMainsLetters$Station;)V"⟩, 7) := ⟨⟨by decide +kernel, by decide +kernel⟩, List.mem_of_getElem? (i := 104) (by decide +kernel), List.mem_of_getElem? (i := 509) (by decide +kernel), List.mem_of_getElem? (i := 510) (by decide +kernel)⟩
theorem lw_p23 : lw_okq (⟨"MainsLetters$Contention", "giveWay", "(II)V"⟩, 7) := ⟨⟨by decide +kernel, by decide +kernel⟩, List.mem_of_getElem? (i := 104) (by decide +kernel), List.mem_of_getElem? (i := 513) (by decide +kernel), List.mem_of_getElem? (i := 514) (by decide +kernel)⟩
theorem lw_p24 : lw_okq (⟨"MainsLetters$Contention", "deferAt", "(LMainsLetters$Station;)V"⟩, 7) := ⟨⟨by decide +kernel, by decide +kernel⟩, List.mem_of_getElem? (i := 104) (by decide +kernel), List.mem_of_getElem? (i := 517) (by decide +kernel), List.mem_of_getElem? (i := 518) (by decide +kernel)⟩
theorem lw_p25 : lw_okq (⟨"MainsLetters$Flow", "firstOpen", "(I)I"⟩, 8) := ⟨⟨by decide +kernel, by decide +kernel⟩, List.mem_of_getElem? (i := 176) (by decide +kernel), List.mem_of_getElem? (i := 542) (by decide +kernel), List.mem_of_getElem? (i := 543) (by decide +kernel)⟩
theorem lw_p26 : lw_okq (⟨"MainsLetters$Flow", "sendFrame", "(III)V"⟩, 8) := ⟨⟨by decide +kernel, by decide +kernel⟩, List.mem_of_getElem? (i := 176) (by decide +kernel), List.mem_of_getElem? (i := 547) (by decide +kernel), List.mem_of_getElem? (i := 548) (by decide +kernel)⟩
theorem lw_p27 : lw_okq (⟨"MainsLetters$Flow", "drawTenth", "()I"⟩, 8) := ⟨⟨by decide +kernel, by decide +kernel⟩, List.mem_of_getElem? (i := 176) (by decide +kernel), List.mem_of_getElem? (i := 551) (by decide +kernel), List.mem_of_getElem? (i := 552) (by decide +kernel)⟩
theorem lw_p28 : lw_okq (⟨"MainsLetters$Flow", "take", "(I)V"⟩, 8) := ⟨⟨by decide +kernel, by decide +kernel⟩, List.mem_of_getElem? (i := 176) (by decide +kernel), List.mem_of_getElem? (i := 557) (by decide +kernel), List.mem_of_getElem? (i := 558) (by decide +kernel)⟩
theorem lw_p29 : lw_okq (⟨"MainsLetters$Flow", "takenBeyondGap", "()I"⟩, 8) := ⟨⟨by decide +kernel, by decide +kernel⟩, List.mem_of_getElem? (i := 176) (by decide +kernel), List.mem_of_getElem? (i := 561) (by decide +kernel), List.mem_of_getElem? (i := 562) (by decide +kernel)⟩
theorem lw_p30 : lw_okq (⟨"MainsLetters$Networks", "keysThere", "()I"⟩, 3) := ⟨⟨by decide +kernel, by decide +kernel⟩, List.mem_of_getElem? (i := 207) (by decide +kernel), List.mem_of_getElem? (i := 586) (by decide +kernel), List.mem_of_getElem? (i := 587) (by decide +kernel)⟩
theorem lw_p31 : lw_okq (⟨"MainsLetters$Networks", "meet", "()V"⟩, 3) := ⟨⟨by decide +kernel, by decide +kernel⟩, List.mem_of_getElem? (i := 207) (by decide +kernel), List.mem_of_getElem? (i := 597) (by decide +kernel), List.mem_of_getElem? (i := 598) (by decide +kernel)⟩
def lw_privs_2 : List (MethodName × Nat) := [(⟨"MainsLetters$Contention", "isHeld", "(III)Z"⟩, 7), (⟨"MainsLetters$Contention", "start", "(I)I"⟩, 7), (⟨"MainsLetters$Contention", "send", "(I)V"⟩, 7), (⟨"MainsLetters$Contention", "spoil", "(I)V"⟩, 7), (⟨"MainsLetters$Contention", "goOn", "(I)V"⟩, 7), (⟨"MainsLetters$Contention", "collide", "(LMainsLetters$Station;)V"⟩, 7), (⟨"MainsLetters$Contention", "arrive", "(LMainsLetters$Station;)V"⟩, 7), (⟨"MainsLetters$Contention", "giveWay", "(II)V"⟩, 7), (⟨"MainsLetters$Contention", "deferAt", "(LMainsLetters$Station;)V"⟩, 7), (⟨"MainsLetters$Flow", "firstOpen", "(I)I"⟩, 8), (⟨"MainsLetters$Flow", "sendFrame", "(III)V"⟩, 8), (⟨"MainsLetters$Flow", "drawTenth", "()I"⟩, 8), (⟨"MainsLetters$Flow", "take", "(I)V"⟩, 8), (⟨"MainsLetters$Flow", "takenBeyondGap", "()I"⟩, 8), (⟨"MainsLetters$Networks", "keysThere", "()I"⟩, 3), (⟨"MainsLetters$Networks", "meet", "()V"⟩, 3)]
theorem lw_r2 : ∀ q ∈ lw_privs_2, lw_okq q := List.forall_mem_cons.mpr ⟨lw_p16, List.forall_mem_cons.mpr ⟨lw_p17, List.forall_mem_cons.mpr ⟨lw_p18, List.forall_mem_cons.mpr ⟨lw_p19, List.forall_mem_cons.mpr ⟨lw_p20, List.forall_mem_cons.mpr ⟨lw_p21, List.forall_mem_cons.mpr ⟨lw_p22, List.forall_mem_cons.mpr ⟨lw_p23, List.forall_mem_cons.mpr ⟨lw_p24, List.forall_mem_cons.mpr ⟨lw_p25, List.forall_mem_cons.mpr ⟨lw_p26, List.forall_mem_cons.mpr ⟨lw_p27, List.forall_mem_cons.mpr ⟨lw_p28, List.forall_mem_cons.mpr ⟨lw_p29, List.forall_mem_cons.mpr ⟨lw_p30, List.forall_mem_cons.mpr ⟨lw_p31, fun _ h => absurd h List.not_mem_nil⟩⟩⟩⟩⟩⟩⟩⟩⟩⟩⟩⟩⟩⟩⟩⟩
theorem lw_p32 : lw_okq (⟨"MainsLetters$Networks", "part", "(II)V"⟩, 3) := ⟨⟨by decide +kernel, by decide +kernel⟩, List.mem_of_getElem? (i := 207) (by decide +kernel), List.mem_of_getElem? (i := 602) (by decide +kernel), List.mem_of_getElem? (i := 603) (by decide +kernel)⟩
theorem lw_p33 : lw_okq (⟨"MainsLettersModel", "bitsOf", "(IIII)I"⟩, 32) := ⟨⟨by decide +kernel, by decide +kernel⟩, List.mem_of_getElem? (i := 652) (by decide +kernel), List.mem_of_getElem? (i := 797) (by decide +kernel), List.mem_of_getElem? (i := 798) (by decide +kernel)⟩
theorem lw_p34 : lw_okq (⟨"MainsLettersModel", "speedOf", "(III)I"⟩, 32) := ⟨⟨by decide +kernel, by decide +kernel⟩, List.mem_of_getElem? (i := 652) (by decide +kernel), List.mem_of_getElem? (i := 805) (by decide +kernel), List.mem_of_getElem? (i := 806) (by decide +kernel)⟩
theorem lw_p35 : lw_okq (⟨"MainsLettersModel", "setOf", "(II)I"⟩, 32) := ⟨⟨by decide +kernel, by decide +kernel⟩, List.mem_of_getElem? (i := 652) (by decide +kernel), List.mem_of_getElem? (i := 813) (by decide +kernel), List.mem_of_getElem? (i := 814) (by decide +kernel)⟩
theorem lw_p36 : lw_okq (⟨"MainsLettersModel", "isSo", "(III)Z"⟩, 32) := ⟨⟨by decide +kernel, by decide +kernel⟩, List.mem_of_getElem? (i := 652) (by decide +kernel), List.mem_of_getElem? (i := 817) (by decide +kernel), List.mem_of_getElem? (i := 818) (by decide +kernel)⟩
theorem lw_p37 : lw_okq (⟨"MainsLettersModel", "hears", "(II)Z"⟩, 32) := ⟨⟨by decide +kernel, by decide +kernel⟩, List.mem_of_getElem? (i := 652) (by decide +kernel), List.mem_of_getElem? (i := 821) (by decide +kernel), List.mem_of_getElem? (i := 822) (by decide +kernel)⟩
theorem lw_p38 : lw_okq (⟨"MainsLettersModel", "reaches", "(II)Z"⟩, 32) := ⟨⟨by decide +kernel, by decide +kernel⟩, List.mem_of_getElem? (i := 652) (by decide +kernel), List.mem_of_getElem? (i := 825) (by decide +kernel), List.mem_of_getElem? (i := 826) (by decide +kernel)⟩
theorem lw_p39 : lw_okq (⟨"MainsLettersModel", "areHidden", "(II)Z"⟩, 32) := ⟨⟨by decide +kernel, by decide +kernel⟩, List.mem_of_getElem? (i := 652) (by decide +kernel), List.mem_of_getElem? (i := 829) (by decide +kernel), List.mem_of_getElem? (i := 830) (by decide +kernel)⟩
theorem lw_p40 : lw_okq (⟨"MainsLettersModel", "lastsOf", "(III)I"⟩, 32) := ⟨⟨by decide +kernel, by decide +kernel⟩, List.mem_of_getElem? (i := 652) (by decide +kernel), List.mem_of_getElem? (i := 837) (by decide +kernel), List.mem_of_getElem? (i := 838) (by decide +kernel)⟩
theorem lw_p41 : lw_okq (⟨"MainsLettersModel", "findCosts", "(II)V"⟩, 32) := ⟨⟨by decide +kernel, by decide +kernel⟩, List.mem_of_getElem? (i := 652) (by decide +kernel), List.mem_of_getElem? (i := 848) (by decide +kernel), List.mem_of_getElem? (i := 849) (by decide +kernel)⟩
theorem lw_p42 : lw_okq (⟨"MainsLettersModel", "nextOn", "(I)I"⟩, 32) := ⟨⟨by decide +kernel, by decide +kernel⟩, List.mem_of_getElem? (i := 652) (by decide +kernel), List.mem_of_getElem? (i := 853) (by decide +kernel), List.mem_of_getElem? (i := 854) (by decide +kernel)⟩
theorem lw_p43 : lw_okq (⟨"MainsLettersModel", "draws", "(II)V"⟩, 32) := ⟨⟨by decide +kernel, by decide +kernel⟩, List.mem_of_getElem? (i := 652) (by decide +kernel), List.mem_of_getElem? (i := 865) (by decide +kernel), List.mem_of_getElem? (i := 866) (by decide +kernel)⟩
theorem lw_p44 : lw_okq (⟨"MainsLettersModel", "slot", "()I"⟩, 32) := ⟨⟨by decide +kernel, by decide +kernel⟩, List.mem_of_getElem? (i := 652) (by decide +kernel), List.mem_of_getElem? (i := 884) (by decide +kernel), List.mem_of_getElem? (i := 885) (by decide +kernel)⟩
theorem lw_p45 : lw_okq (⟨"MainsLettersModel", "setThat", "(I)I"⟩, 32) := ⟨⟨by decide +kernel, by decide +kernel⟩, List.mem_of_getElem? (i := 652) (by decide +kernel), List.mem_of_getElem? (i := 888) (by decide +kernel), List.mem_of_getElem? (i := 889) (by decide +kernel)⟩
theorem lw_p46 : lw_okq (⟨"MainsLettersModel", "findStarts", "(II)I"⟩, 32) := ⟨⟨by decide +kernel, by decide +kernel⟩, List.mem_of_getElem? (i := 652) (by decide +kernel), List.mem_of_getElem? (i := 892) (by decide +kernel), List.mem_of_getElem? (i := 893) (by decide +kernel)⟩
theorem lw_p47 : lw_okq (⟨"MainsLettersModel", "isHeld", "(III)Z"⟩, 32) := ⟨⟨by decide +kernel, by decide +kernel⟩, List.mem_of_getElem? (i := 652) (by decide +kernel), List.mem_of_getElem? (i := 899) (by decide +kernel), List.mem_of_getElem? (i := 900) (by decide +kernel)⟩
def lw_privs_3 : List (MethodName × Nat) := [(⟨"MainsLetters$Networks", "part", "(II)V"⟩, 3), (⟨"MainsLettersModel", "bitsOf", "(IIII)I"⟩, 32), (⟨"MainsLettersModel", "speedOf", "(III)I"⟩, 32), (⟨"MainsLettersModel", "setOf", "(II)I"⟩, 32), (⟨"MainsLettersModel", "isSo", "(III)Z"⟩, 32), (⟨"MainsLettersModel", "hears", "(II)Z"⟩, 32), (⟨"MainsLettersModel", "reaches", "(II)Z"⟩, 32), (⟨"MainsLettersModel", "areHidden", "(II)Z"⟩, 32), (⟨"MainsLettersModel", "lastsOf", "(III)I"⟩, 32), (⟨"MainsLettersModel", "findCosts", "(II)V"⟩, 32), (⟨"MainsLettersModel", "nextOn", "(I)I"⟩, 32), (⟨"MainsLettersModel", "draws", "(II)V"⟩, 32), (⟨"MainsLettersModel", "slot", "()I"⟩, 32), (⟨"MainsLettersModel", "setThat", "(I)I"⟩, 32), (⟨"MainsLettersModel", "findStarts", "(II)I"⟩, 32), (⟨"MainsLettersModel", "isHeld", "(III)Z"⟩, 32)]
theorem lw_r3 : ∀ q ∈ lw_privs_3, lw_okq q := List.forall_mem_cons.mpr ⟨lw_p32, List.forall_mem_cons.mpr ⟨lw_p33, List.forall_mem_cons.mpr ⟨lw_p34, List.forall_mem_cons.mpr ⟨lw_p35, List.forall_mem_cons.mpr ⟨lw_p36, List.forall_mem_cons.mpr ⟨lw_p37, List.forall_mem_cons.mpr ⟨lw_p38, List.forall_mem_cons.mpr ⟨lw_p39, List.forall_mem_cons.mpr ⟨lw_p40, List.forall_mem_cons.mpr ⟨lw_p41, List.forall_mem_cons.mpr ⟨lw_p42, List.forall_mem_cons.mpr ⟨lw_p43, List.forall_mem_cons.mpr ⟨lw_p44, List.forall_mem_cons.mpr ⟨lw_p45, List.forall_mem_cons.mpr ⟨lw_p46, List.forall_mem_cons.mpr ⟨lw_p47, fun _ h => absurd h List.not_mem_nil⟩⟩⟩⟩⟩⟩⟩⟩⟩⟩⟩⟩⟩⟩⟩⟩
theorem lw_p48 : lw_okq (⟨"MainsLettersModel", "hearsOne", "(II)Z"⟩, 32) := ⟨⟨by decide +kernel, by decide +kernel⟩, List.mem_of_getElem? (i := 652) (by decide +kernel), List.mem_of_getElem? (i := 903) (by decide +kernel), List.mem_of_getElem? (i := 904) (by decide +kernel)⟩
theorem lw_p49 : lw_okq (⟨"MainsLettersModel", "starts", "(I)I"⟩, 32) := ⟨⟨by decide +kernel, by decide +kernel⟩, List.mem_of_getElem? (i := 652) (by decide +kernel), List.mem_of_getElem? (i := 907) (by decide +kernel), List.mem_of_getElem? (i := 908) (by decide +kernel)⟩
theorem lw_p50 : lw_okq (⟨"MainsLettersModel", "spoils", "()V"⟩, 32) := ⟨⟨by decide +kernel, by decide +kernel⟩, List.mem_of_getElem? (i := 652) (by decide +kernel), List.mem_of_getElem? (i := 911) (by decide +kernel), List.mem_of_getElem? (i := 912) (by decide +kernel)⟩
theorem lw_p51 : lw_okq (⟨"MainsLettersModel", "ends", "()I"⟩, 32) := ⟨⟨by decide +kernel, by decide +kernel⟩, List.mem_of_getElem? (i := 652) (by decide +kernel), List.mem_of_getElem? (i := 915) (by decide +kernel), List.mem_of_getElem? (i := 916) (by decide +kernel)⟩
theorem lw_p52 : lw_okq (⟨"MainsLettersModel", "drawsMore", "(I)V"⟩, 32) := ⟨⟨by decide +kernel, by decide +kernel⟩, List.mem_of_getElem? (i := 652) (by decide +kernel), List.mem_of_getElem? (i := 919) (by decide +kernel), List.mem_of_getElem? (i := 920) (by decide +kernel)⟩
theorem lw_p53 : lw_okq (⟨"MainsLettersModel", "defers", "(II)V"⟩, 32) := ⟨⟨by decide +kernel, by decide +kernel⟩, List.mem_of_getElem? (i := 652) (by decide +kernel), List.mem_of_getElem? (i := 923) (by decide +kernel), List.mem_of_getElem? (i := 924) (by decide +kernel)⟩
theorem lw_p54 : lw_okq (⟨"MainsLettersModel", "goesFrame", "(IIII)V"⟩, 32) := ⟨⟨by decide +kernel, by decide +kernel⟩, List.mem_of_getElem? (i := 652) (by decide +kernel), List.mem_of_getElem? (i := 938) (by decide +kernel), List.mem_of_getElem? (i := 939) (by decide +kernel)⟩
theorem lw_p55 : lw_okq (⟨"MainsLettersModel", "flowDraw", "()I"⟩, 32) := ⟨⟨by decide +kernel, by decide +kernel⟩, List.mem_of_getElem? (i := 652) (by decide +kernel), List.mem_of_getElem? (i := 942) (by decide +kernel), List.mem_of_getElem? (i := 943) (by decide +kernel)⟩
theorem lw_p56 : lw_okq (⟨"MainsLettersModel", "isNetwork", "(I)Z"⟩, 32) := ⟨⟨by decide +kernel, by decide +kernel⟩, List.mem_of_getElem? (i := 652) (by decide +kernel), List.mem_of_getElem? (i := 950) (by decide +kernel), List.mem_of_getElem? (i := 951) (by decide +kernel)⟩
theorem lw_p57 : lw_okq (⟨"MainsLettersModel", "disturbed", "(I)I"⟩, 32) := ⟨⟨by decide +kernel, by decide +kernel⟩, List.mem_of_getElem? (i := 652) (by decide +kernel), List.mem_of_getElem? (i := 954) (by decide +kernel), List.mem_of_getElem? (i := 955) (by decide +kernel)⟩
theorem lw_p58 : lw_okq (⟨"MainsLettersModel", "doDisturb", "(II)Z"⟩, 32) := ⟨⟨by decide +kernel, by decide +kernel⟩, List.mem_of_getElem? (i := 652) (by decide +kernel), List.mem_of_getElem? (i := 958) (by decide +kernel), List.mem_of_getElem? (i := 959) (by decide +kernel)⟩
theorem lw_p59 : lw_okq (⟨"MainsLettersModel", "findNetworks", "()V"⟩, 32) := ⟨⟨by decide +kernel, by decide +kernel⟩, List.mem_of_getElem? (i := 652) (by decide +kernel), List.mem_of_getElem? (i := 966) (by decide +kernel), List.mem_of_getElem? (i := 967) (by decide +kernel)⟩
theorem lw_p60 : lw_okq (⟨"MainsLettersModel", "findTurns", "()I"⟩, 32) := ⟨⟨by decide +kernel, by decide +kernel⟩, List.mem_of_getElem? (i := 652) (by decide +kernel), List.mem_of_getElem? (i := 970) (by decide +kernel), List.mem_of_getElem? (i := 971) (by decide +kernel)⟩
theorem lw_p61 : lw_okq (⟨"MainsLettersModel", "mayBe", "(II)Z"⟩, 32) := ⟨⟨by decide +kernel, by decide +kernel⟩, List.mem_of_getElem? (i := 652) (by decide +kernel), List.mem_of_getElem? (i := 974) (by decide +kernel), List.mem_of_getElem? (i := 975) (by decide +kernel)⟩
theorem lw_p62 : lw_okq (⟨"MainsLettersModel", "sumOf", "([I)I"⟩, 32) := ⟨⟨by decide +kernel, by decide +kernel⟩, List.mem_of_getElem? (i := 652) (by decide +kernel), List.mem_of_getElem? (i := 982) (by decide +kernel), List.mem_of_getElem? (i := 983) (by decide +kernel)⟩
theorem lw_p63 : lw_okq (⟨"MainsLettersModel", "manyHidden", "()I"⟩, 32) := ⟨⟨by decide +kernel, by decide +kernel⟩, List.mem_of_getElem? (i := 652) (by decide +kernel), List.mem_of_getElem? (i := 986) (by decide +kernel), List.mem_of_getElem? (i := 987) (by decide +kernel)⟩
def lw_privs_4 : List (MethodName × Nat) := [(⟨"MainsLettersModel", "hearsOne", "(II)Z"⟩, 32), (⟨"MainsLettersModel", "starts", "(I)I"⟩, 32), (⟨"MainsLettersModel", "spoils", "()V"⟩, 32), (⟨"MainsLettersModel", "ends", "()I"⟩, 32), (⟨"MainsLettersModel", "drawsMore", "(I)V"⟩, 32), (⟨"MainsLettersModel", "defers", "(II)V"⟩, 32), (⟨"MainsLettersModel", "goesFrame", "(IIII)V"⟩, 32), (⟨"MainsLettersModel", "flowDraw", "()I"⟩, 32), (⟨"MainsLettersModel", "isNetwork", "(I)Z"⟩, 32), (⟨"MainsLettersModel", "disturbed", "(I)I"⟩, 32), (⟨"MainsLettersModel", "doDisturb", "(II)Z"⟩, 32), (⟨"MainsLettersModel", "findNetworks", "()V"⟩, 32), (⟨"MainsLettersModel", "findTurns", "()I"⟩, 32), (⟨"MainsLettersModel", "mayBe", "(II)Z"⟩, 32), (⟨"MainsLettersModel", "sumOf", "([I)I"⟩, 32), (⟨"MainsLettersModel", "manyHidden", "()I"⟩, 32)]
theorem lw_r4 : ∀ q ∈ lw_privs_4, lw_okq q := List.forall_mem_cons.mpr ⟨lw_p48, List.forall_mem_cons.mpr ⟨lw_p49, List.forall_mem_cons.mpr ⟨lw_p50, List.forall_mem_cons.mpr ⟨lw_p51, List.forall_mem_cons.mpr ⟨lw_p52, List.forall_mem_cons.mpr ⟨lw_p53, List.forall_mem_cons.mpr ⟨lw_p54, List.forall_mem_cons.mpr ⟨lw_p55, List.forall_mem_cons.mpr ⟨lw_p56, List.forall_mem_cons.mpr ⟨lw_p57, List.forall_mem_cons.mpr ⟨lw_p58, List.forall_mem_cons.mpr ⟨lw_p59, List.forall_mem_cons.mpr ⟨lw_p60, List.forall_mem_cons.mpr ⟨lw_p61, List.forall_mem_cons.mpr ⟨lw_p62, List.forall_mem_cons.mpr ⟨lw_p63, fun _ h => absurd h List.not_mem_nil⟩⟩⟩⟩⟩⟩⟩⟩⟩⟩⟩⟩⟩⟩⟩⟩
theorem lw_p64 : lw_okq (⟨"MainsLettersModel", "manyUnheard", "()I"⟩, 32) := ⟨⟨by decide +kernel, by decide +kernel⟩, List.mem_of_getElem? (i := 652) (by decide +kernel), List.mem_of_getElem? (i := 990) (by decide +kernel), List.mem_of_getElem? (i := 991) (by decide +kernel)⟩
def lw_privs_5 : List (MethodName × Nat) := [(⟨"MainsLettersModel", "manyUnheard", "()I"⟩, 32)]
theorem lw_r5 : ∀ q ∈ lw_privs_5, lw_okq q := List.forall_mem_cons.mpr ⟨lw_p64, fun _ h => absurd h List.not_mem_nil⟩
def lw_privs : List (MethodName × Nat) := lw_privs_1 ++ (lw_privs_2 ++ (lw_privs_3 ++ (lw_privs_4 ++ (lw_privs_5))))
def lw_tbl : List Cond := k2_sels lw_privs ++ tables_1
theorem lw_privs_ok : ∀ q ∈ lw_privs, lw_okq q := by
  show ∀ q ∈ lw_privs_1 ++ (lw_privs_2 ++ (lw_privs_3 ++ (lw_privs_4 ++ (lw_privs_5)))), lw_okq q
  exact List.forall_mem_append.mpr ⟨lw_r1, List.forall_mem_append.mpr ⟨lw_r2, List.forall_mem_append.mpr ⟨lw_r3, List.forall_mem_append.mpr ⟨lw_r4, lw_r5⟩⟩⟩⟩
end
section
def RX0 : String := "MainsLetters$Contention"
def TX0 : u_T := fun k => match k with
  | 0 => ("MainsLetters$Contention", "wire", "LMainsLetters$Wire;", true)
  | 1 => ("MainsLetters$Contention", "stations", "[LMainsLetters$Station;", true)
  | 2 => ("MainsLetters$Contention", "seedNow", "I", false)
  | 3 => ("MainsLetters$Contention", "slots", "I", false)
  | 4 => ("MainsLetters$Contention", "arrived", "I", false)
  | 5 => ("MainsLetters$Contention", "dropped", "I", false)
  | _ => ("MainsLetters$Contention", "collided", "I", false)
def tyX0 : Nat → FieldType := fun k => match k with
  | 0 => .object "MainsLetters$Wire"
  | 1 => .array (.object "MainsLetters$Station")
  | 2 => .int
  | 3 => .int
  | 4 => .int
  | 5 => .int
  | _ => .int
abbrev wsX00 : List Cond := u_ws RX0 TX0 7
theorem nmX0 : ∀ a, a < 7 → ∀ b, b < 7 → a ≠ b → (TX0 a).2.1 ≠ (TX0 b).2.1 := by decide +kernel
theorem tyX0_ok : ∀ k, k < 7 → parseFieldDescriptor (TX0 k).2.2.1 = some (tyX0 k) := by decide +kernel
def RX2 : String := "MainsLetters$Flow"
def TX2 : u_T := fun k => match k with
  | 0 => ("MainsLetters$Flow", "seedNow", "I", false)
  | 1 => ("MainsLetters$Flow", "all", "I", false)
  | 2 => ("MainsLetters$Flow", "taken", "I", false)
  | 3 => ("MainsLetters$Flow", "answered", "I", false)
  | 4 => ("MainsLetters$Flow", "frames", "I", false)
  | 5 => ("MainsLetters$Flow", "partsSent", "I", false)
  | 6 => ("MainsLetters$Flow", "doubles", "I", false)
  | _ => ("MainsLetters$Flow", "ahead", "I", false)
def tyX2 : Nat → FieldType := fun k => match k with
  | 0 => .int
  | 1 => .int
  | 2 => .int
  | 3 => .int
  | 4 => .int
  | 5 => .int
  | 6 => .int
  | _ => .int
abbrev wsX20 : List Cond := u_ws RX2 TX2 8
theorem nmX2 : ∀ a, a < 8 → ∀ b, b < 8 → a ≠ b → (TX2 a).2.1 ≠ (TX2 b).2.1 := by decide +kernel
theorem tyX2_ok : ∀ k, k < 8 → parseFieldDescriptor (TX2 k).2.2.1 = some (tyX2 k) := by decide +kernel
def RX3 : String := "MainsLetters$Networks"
def TX3 : u_T := fun k => match k with
  | 0 => ("MainsLetters$Networks", "wire", "LMainsLetters$Wire;", true)
  | 1 => ("MainsLetters$Networks", "disturbed", "[I", true)
  | _ => ("MainsLetters$Networks", "turns", "[I", true)
def tyX3 : Nat → FieldType := fun k => match k with
  | 0 => .object "MainsLetters$Wire"
  | 1 => .array .int
  | _ => .array .int
abbrev wsX30 : List Cond := u_ws RX3 TX3 3
theorem nmX3 : ∀ a, a < 3 → ∀ b, b < 3 → a ≠ b → (TX3 a).2.1 ≠ (TX3 b).2.1 := by decide +kernel
theorem tyX3_ok : ∀ k, k < 3 → parseFieldDescriptor (TX3 k).2.2.1 = some (tyX3 k) := by decide +kernel
def RX5 : String := "MainsLetters$Station"
def TX5 : u_T := fun k => match k with
  | 0 => ("MainsLetters$Station", "phase", "I", false)
  | 1 => ("MainsLetters$Station", "to", "I", false)
  | 2 => ("MainsLetters$Station", "rank", "I", false)
  | 3 => ("MainsLetters$Station", "bytes", "I", false)
  | 4 => ("MainsLetters$Station", "stage", "I", false)
  | 5 => ("MainsLetters$Station", "count", "I", false)
  | 6 => ("MainsLetters$Station", "defer", "I", false)
  | 7 => ("MainsLetters$Station", "slotsToGo", "I", false)
  | 8 => ("MainsLetters$Station", "spoilt", "Z", false)
  | 9 => ("MainsLetters$Station", "arrived", "I", false)
  | 10 => ("MainsLetters$Station", "collided", "I", false)
  | _ => ("MainsLetters$Station", "came", "I", false)
def tyX5 : Nat → FieldType := fun k => match k with
  | 0 => .int
  | 1 => .int
  | 2 => .int
  | 3 => .int
  | 4 => .int
  | 5 => .int
  | 6 => .int
  | 7 => .int
  | 8 => .boolean
  | 9 => .int
  | 10 => .int
  | _ => .int
abbrev wsX50 : List Cond := u_ws RX5 TX5 12
theorem nmX5 : ∀ a, a < 12 → ∀ b, b < 12 → a ≠ b → (TX5 a).2.1 ≠ (TX5 b).2.1 := by decide +kernel
theorem tyX5_ok : ∀ k, k < 12 → parseFieldDescriptor (TX5 k).2.2.1 = some (tyX5 k) := by decide +kernel
def RX6 : String := "MainsLetters$Ways"
def TX6 : u_T := fun k => match k with
  | 0 => ("MainsLetters$Ways", "wire", "LMainsLetters$Wire;", true)
  | 1 => ("MainsLetters$Ways", "costs", "[I", true)
  | 2 => ("MainsLetters$Ways", "distances", "[I", true)
  | 3 => ("MainsLetters$Ways", "best", "[I", true)
  | 4 => ("MainsLetters$Ways", "bestStations", "I", false)
  | _ => ("MainsLetters$Ways", "bestSymbols", "I", false)
def tyX6 : Nat → FieldType := fun k => match k with
  | 0 => .object "MainsLetters$Wire"
  | 1 => .array .int
  | 2 => .array .int
  | 3 => .array .int
  | 4 => .int
  | _ => .int
abbrev wsX60 : List Cond := u_ws RX6 TX6 6
theorem nmX6 : ∀ a, a < 6 → ∀ b, b < 6 → a ≠ b → (TX6 a).2.1 ≠ (TX6 b).2.1 := by decide +kernel
theorem tyX6_ok : ∀ k, k < 6 → parseFieldDescriptor (TX6 k).2.2.1 = some (tyX6 k) := by decide +kernel
def RX7 : String := "MainsLetters$Wire"
def TX7 : u_T := fun k => match k with
  | 0 => ("MainsLetters$Wire", "losses", "[I", true)
  | 1 => ("MainsLetters$Wire", "noises", "[I", true)
  | 2 => ("MainsLetters$Wire", "keys", "[I", true)
  | 3 => ("MainsLetters$Wire", "speeds", "[I", true)
  | 4 => ("MainsLetters$Wire", "heard", "[I", true)
  | _ => ("MainsLetters$Wire", "spare", "I", false)
def tyX7 : Nat → FieldType := fun k => match k with
  | 0 => .array .int
  | 1 => .array .int
  | 2 => .array .int
  | 3 => .array .int
  | 4 => .array .int
  | _ => .int
abbrev wsX70 : List Cond := u_ws RX7 TX7 6
theorem nmX7 : ∀ a, a < 6 → ∀ b, b < 6 → a ≠ b → (TX7 a).2.1 ≠ (TX7 b).2.1 := by decide +kernel
theorem tyX7_ok : ∀ k, k < 6 → parseFieldDescriptor (TX7 k).2.2.1 = some (tyX7 k) := by decide +kernel
def RX8 : String := "MainsLetters"
def TX8 : u_T := fun k => match k with
  | 0 => ("MainsLetters", "wire", "LMainsLetters$Wire;", true)
  | 1 => ("MainsLetters", "ways", "LMainsLetters$Ways;", true)
  | 2 => ("MainsLetters", "contention", "LMainsLetters$Contention;", true)
  | 3 => ("MainsLetters", "parts", "LMainsLetters$Flow;", true)
  | _ => ("MainsLetters", "networks", "LMainsLetters$Networks;", true)
def tyX8 : Nat → FieldType := fun k => match k with
  | 0 => .object "MainsLetters$Wire"
  | 1 => .object "MainsLetters$Ways"
  | 2 => .object "MainsLetters$Contention"
  | 3 => .object "MainsLetters$Flow"
  | _ => .object "MainsLetters$Networks"
abbrev wsX80 : List Cond := u_ws RX8 TX8 5
theorem nmX8 : ∀ a, a < 5 → ∀ b, b < 5 → a ≠ b → (TX8 a).2.1 ≠ (TX8 b).2.1 := by decide +kernel
theorem tyX8_ok : ∀ k, k < 5 → parseFieldDescriptor (TX8 k).2.2.1 = some (tyX8 k) := by decide +kernel
def RX9 : String := "MainsLettersModel"
def TX9 : u_T := fun k => match k with
  | 0 => ("MainsLettersModel", "lossOf", "[I", true)
  | 1 => ("MainsLettersModel", "noiseOf", "[I", true)
  | 2 => ("MainsLettersModel", "keyOf", "[I", true)
  | 3 => ("MainsLettersModel", "marginNow", "I", false)
  | 4 => ("MainsLettersModel", "costOf", "[I", true)
  | 5 => ("MainsLettersModel", "hopOf", "[I", true)
  | 6 => ("MainsLettersModel", "seedNow", "I", false)
  | 7 => ("MainsLettersModel", "isOf", "[I", true)
  | 8 => ("MainsLettersModel", "toOf", "[I", true)
  | 9 => ("MainsLettersModel", "classOf", "[I", true)
  | 10 => ("MainsLettersModel", "bytesOf", "[I", true)
  | 11 => ("MainsLettersModel", "stageOf", "[I", true)
  | 12 => ("MainsLettersModel", "countOf", "[I", true)
  | 13 => ("MainsLettersModel", "deferOf", "[I", true)
  | 14 => ("MainsLettersModel", "goOf", "[I", true)
  | 15 => ("MainsLettersModel", "isSpoilt", "[Z", true)
  | 16 => ("MainsLettersModel", "arrivedOf", "[I", true)
  | 17 => ("MainsLettersModel", "collidedOf", "[I", true)
  | 18 => ("MainsLettersModel", "cameTo", "[I", true)
  | 19 => ("MainsLettersModel", "slots", "I", false)
  | 20 => ("MainsLettersModel", "dropped", "I", false)
  | 21 => ("MainsLettersModel", "flowSeed", "I", false)
  | 22 => ("MainsLettersModel", "flowFrames", "I", false)
  | 23 => ("MainsLettersModel", "flowSent", "I", false)
  | 24 => ("MainsLettersModel", "flowDoubles", "I", false)
  | 25 => ("MainsLettersModel", "flowAhead", "I", false)
  | 26 => ("MainsLettersModel", "taken", "I", false)
  | 27 => ("MainsLettersModel", "answered", "I", false)
  | 28 => ("MainsLettersModel", "networks", "I", false)
  | 29 => ("MainsLettersModel", "network", "[I", true)
  | 30 => ("MainsLettersModel", "disturbOf", "[I", true)
  | _ => ("MainsLettersModel", "turnOf", "[I", true)
def tyX9 : Nat → FieldType := fun k => match k with
  | 0 => .array .int
  | 1 => .array .int
  | 2 => .array .int
  | 3 => .int
  | 4 => .array .int
  | 5 => .array .int
  | 6 => .int
  | 7 => .array .int
  | 8 => .array .int
  | 9 => .array .int
  | 10 => .array .int
  | 11 => .array .int
  | 12 => .array .int
  | 13 => .array .int
  | 14 => .array .int
  | 15 => .array .boolean
  | 16 => .array .int
  | 17 => .array .int
  | 18 => .array .int
  | 19 => .int
  | 20 => .int
  | 21 => .int
  | 22 => .int
  | 23 => .int
  | 24 => .int
  | 25 => .int
  | 26 => .int
  | 27 => .int
  | 28 => .int
  | 29 => .array .int
  | 30 => .array .int
  | _ => .array .int
abbrev wsX90 : List Cond := u_ws RX9 TX9 32
theorem nmX9 : ∀ a, a < 32 → ∀ b, b < 32 → a ≠ b → (TX9 a).2.1 ≠ (TX9 b).2.1 := by decide +kernel
theorem tyX9_ok : ∀ k, k < 32 → parseFieldDescriptor (TX9 k).2.2.1 = some (tyX9 k) := by decide +kernel
abbrev vwCl : List vw_C := [(RX0, TX0, 7), (RX2, TX2, 8), (RX3, TX3, 3), (RX5, TX5, 12), (RX6, TX6, 6), (RX7, TX7, 6), (RX8, TX8, 5), (RX9, TX9, 32)]
end
section
/-! the methods of the claim as tables of my own machine: heads (name, bytes, locals, answer, place of its word), and a row for each instruction: (pc, instruction, length, what it links to); printed by wip/whole/gen2.py -/
abbrev mx_C : Type := (Nat × List (Option (Option Nat))) ⊕ ((Nat × Nat) ⊕ List (Option Nat))
abbrev mx_S : Type := Nat → Nat → Int32
abbrev mx_H : Type := List mx_C × mx_S
abbrev mx_R : Type := Option Value × mx_H
abbrev mx_I : Type := Instr × Nat × List Nat
abbrev mx_HD : Type := MethodName × ByteArray × Nat × Option FieldType × Nat
abbrev mx_N : Type := (Nat × List Value × List Value × mx_H) ⊕ ((Nat × Nat × List Value × List Value) ⊕ Option Value)
def mh_0 : mx_HD := (⟨"MainsLetters$Contention", "<init>", "(LMainsLetters$Wire;)V"⟩, prog_2_method_1_code, 3, none, 172)
def mt_0 : List (Nat × mx_I) := [(0, .aload_n 0, 1, []), (1, .invokespecial 3, 3, [173]), (4, .aload_n 0, 1, []), (5, .bipush 6, 2, []), (7, .anewarray 9, 3, [174]), (10, .putfield 11, 3, [0, 1, 1, 0, 219]), (13, .aload_n 0, 1, []), (14, .iconst 1, 1, []), (15, .putfield 17, 3, [0, 2, 0, 0, 220]), (18, .aload_n 0, 1, []), (19, .aload_n 1, 1, []), (20, .putfield 21, 3, [0, 0, 1, 0, 218]), (23, .iconst 0, 1, []), (24, .istore_n 2, 1, []), (25, .iload_n 2, 1, []), (26, .bipush 6, 2, []), (28, .if_icmp .ge 22, 3, []), (31, .aload_n 0, 1, []), (32, .getfield 11, 3, [0, 1, 0, 219]), (35, .iload_n 2, 1, []), (36, .new 9, 3, [3, 174, 176, 71]), (39, .dup, 1, []), (40, .invokespecial 25, 3, [47, 1, 0, 177, 178, 71, 1]), (43, .aastore, 1, []), (44, .iinc 2 1, 3, []), (47, .goto (-22), 3, []), (50, .return_, 1, [])]
def mh_1 : mx_HD := (⟨"MainsLetters$Contention", "setSeed", "(I)I"⟩, prog_2_method_2_code, 3, (some .int), 474)
def mt_1 : List (Nat × mx_I) := [(0, .aload_n 0, 1, []), (1, .getfield 17, 3, [0, 2, 0, 220]), (4, .istore_n 2, 1, []), (5, .aload_n 0, 1, []), (6, .iload_n 1, 1, []), (7, .putfield 17, 3, [0, 2, 0, 0, 220]), (10, .iload_n 2, 1, []), (11, .ireturn, 1, [])]
def mh_2 : mx_HD := (⟨"MainsLetters$Contention", "hasLetter", "(I)Z"⟩, prog_2_method_3_code, 2, (some .boolean), 482)
def mt_2 : List (Nat × mx_I) := [(0, .aload_n 0, 1, []), (1, .getfield 11, 3, [0, 1, 0, 219]), (4, .iload_n 1, 1, []), (5, .aaload, 1, []), (6, .getfield 26, 3, [3, 0, 1, 181]), (9, .ifCond .eq 7, 3, []), (12, .iconst 1, 1, []), (13, .goto 4, 3, []), (16, .iconst 0, 1, []), (17, .ireturn, 1, [])]
def mh_3 : mx_HD := (⟨"MainsLetters$Contention", "isWaiting", "(I)Z"⟩, prog_2_method_4_code, 2, (some .boolean), 515)
def mt_3 : List (Nat × mx_I) := [(0, .aload_n 0, 1, []), (1, .getfield 11, 3, [0, 1, 0, 219]), (4, .iload_n 1, 1, []), (5, .aaload, 1, []), (6, .getfield 26, 3, [3, 0, 1, 181]), (9, .iconst 1, 1, []), (10, .if_icmp .ne 7, 3, []), (13, .iconst 1, 1, []), (14, .goto 4, 3, []), (17, .iconst 0, 1, []), (18, .ireturn, 1, [])]
def mh_4 : mx_HD := (⟨"MainsLetters$Contention", "giveLetter", "(IIII)I"⟩, prog_2_method_5_code, 6, (some .int), 486)
def mt_4 : List (Nat × mx_I) := [(0, .aload_n 0, 1, []), (1, .getfield 11, 3, [0, 1, 0, 219]), (4, .iload_n 1, 1, []), (5, .aaload, 1, []), (6, .astore 5, 2, []), (8, .aload 5, 2, []), (10, .iload_n 2, 1, []), (11, .putfield 29, 3, [3, 1, 2, 0, 182]), (14, .aload 5, 2, []), (16, .iload_n 3, 1, []), (17, .putfield 32, 3, [3, 2, 2, 0, 183]), (20, .aload 5, 2, []), (22, .iload 4, 2, []), (24, .putfield 35, 3, [3, 3, 2, 0, 184]), (27, .aload_n 0, 1, []), (28, .aload 5, 2, []), (30, .iconst 0, 1, []), (31, .invokevirtual 38, 3, [20, 2, 2, 487, 489, 11, 70, 0]), (34, .aload 5, 2, []), (36, .getfield 42, 3, [3, 5, 1, 186]), (39, .ireturn, 1, [])]
def mh_5 : mx_HD := (⟨"MainsLetters$Contention", "takeBack", "(I)I"⟩, prog_2_method_6_code, 2, (some .int), 519)
def mt_5 : List (Nat × mx_I) := [(0, .aload_n 0, 1, []), (1, .getfield 11, 3, [0, 1, 0, 219]), (4, .iload_n 1, 1, []), (5, .aaload, 1, []), (6, .iconst 0, 1, []), (7, .putfield 26, 3, [3, 0, 2, 0, 181]), (10, .aload_n 0, 1, []), (11, .getfield 11, 3, [0, 1, 0, 219]), (14, .iload_n 1, 1, []), (15, .aaload, 1, []), (16, .getfield 35, 3, [3, 3, 1, 184]), (19, .ireturn, 1, [])]
def mh_6 : mx_HD := (⟨"MainsLetters$Contention", "passSlots", "(I)I"⟩, prog_2_method_7_code, 4, (some .int), 527)
def mt_6 : List (Nat × mx_I) := [(0, .aload_n 0, 1, []), (1, .getfield 45, 3, [0, 4, 0, 222]), (4, .istore_n 2, 1, []), (5, .aload_n 0, 1, []), (6, .dup, 1, []), (7, .getfield 48, 3, [0, 3, 0, 221]), (10, .iload_n 1, 1, []), (11, .iadd, 1, []), (12, .putfield 48, 3, [0, 3, 0, 0, 221]), (15, .iconst 0, 1, []), (16, .istore_n 3, 1, []), (17, .iload_n 3, 1, []), (18, .iload_n 1, 1, []), (19, .if_icmp .ge 20, 3, []), (22, .aload_n 0, 1, []), (23, .invokevirtual 51, 3, [7, 3, 0, 528, 530, 12, 70, 0]), (26, .ifCond .eq 13, 3, []), (29, .aload_n 0, 1, []), (30, .invokevirtual 55, 3, [8, 5, 0, 537, 539, 14, 70, 0]), (33, .iinc 3 1, 3, []), (36, .goto (-19), 3, []), (39, .aload_n 0, 1, []), (40, .getfield 45, 3, [0, 4, 0, 222]), (43, .iload_n 2, 1, []), (44, .isub, 1, []), (45, .ireturn, 1, [])]
def mh_7 : mx_HD := (⟨"MainsLetters$Contention", "withLetters", "()I"⟩, prog_2_method_8_code, 1, (some .int), 531)
def mt_7 : List (Nat × mx_I) := [(0, .aload_n 0, 1, []), (1, .iconst 1, 1, []), (2, .invokevirtual 58, 3, [9, 2, 1, 532, 534, 13, 70, 0]), (5, .aload_n 0, 1, []), (6, .iconst 2, 1, []), (7, .invokevirtual 58, 3, [9, 2, 1, 532, 534, 13, 70, 0]), (10, .ior, 1, []), (11, .ireturn, 1, [])]
def mh_8 : mx_HD := (⟨"MainsLetters$Contention", "passSlot", "()V"⟩, prog_2_method_9_code, 5, none, 540)
def mt_8 : List (Nat × mx_I) := [(0, .aload_n 0, 1, []), (1, .iconst 1, 1, []), (2, .invokevirtual 58, 3, [9, 2, 1, 532, 534, 13, 70, 0]), (5, .istore_n 1, 1, []), (6, .aload_n 0, 1, []), (7, .iconst 2, 1, []), (8, .invokevirtual 58, 3, [9, 2, 1, 532, 534, 13, 70, 0]), (11, .istore_n 2, 1, []), (12, .aload_n 0, 1, []), (13, .iload_n 1, 1, []), (14, .iload_n 2, 1, []), (15, .invokevirtual 62, 3, [10, 3, 2, 541, 543, 15, 70, 0]), (18, .istore_n 3, 1, []), (19, .aload_n 0, 1, []), (20, .iload_n 3, 1, []), (21, .invokevirtual 66, 3, [12, 4, 1, 551, 553, 17, 70, 0]), (24, .istore 4, 2, []), (26, .aload_n 0, 1, []), (27, .iload_n 2, 1, []), (28, .iload 4, 2, []), (30, .ior, 1, []), (31, .invokevirtual 69, 3, [14, 2, 1, 561, 563, 19, 70, 0]), (34, .aload_n 0, 1, []), (35, .iload_n 2, 1, []), (36, .iload 4, 2, []), (38, .ior, 1, []), (39, .invokevirtual 73, 3, [15, 4, 1, 565, 567, 20, 70, 0]), (42, .aload_n 0, 1, []), (43, .iload_n 1, 1, []), (44, .iload_n 3, 1, []), (45, .iconst (-1), 1, []), (46, .ixor, 1, []), (47, .iand, 1, []), (48, .iload 4, 2, []), (50, .invokevirtual 76, 3, [18, 4, 2, 577, 579, 23, 70, 0]), (53, .return_, 1, [])]
def mh_9 : mx_HD := (⟨"MainsLetters$Contention", "inPhase", "(I)I"⟩, prog_2_method_10_code, 4, (some .int), 535)
def mt_9 : List (Nat × mx_I) := [(0, .iconst 0, 1, []), (1, .istore_n 2, 1, []), (2, .iconst 0, 1, []), (3, .istore_n 3, 1, []), (4, .iload_n 3, 1, []), (5, .bipush 6, 2, []), (7, .if_icmp .ge 29, 3, []), (10, .aload_n 0, 1, []), (11, .getfield 11, 3, [0, 1, 0, 219]), (14, .iload_n 3, 1, []), (15, .aaload, 1, []), (16, .getfield 26, 3, [3, 0, 1, 181]), (19, .iload_n 1, 1, []), (20, .if_icmp .ne 10, 3, []), (23, .iload_n 2, 1, []), (24, .iload_n 3, 1, []), (25, .invokestatic 80, 3, [46, 1, 1, 536, 121, 68]), (28, .ior, 1, []), (29, .istore_n 2, 1, []), (30, .iinc 3 1, 3, []), (33, .goto (-29), 3, []), (36, .iload_n 2, 1, []), (37, .ireturn, 1, [])]
def mh_10 : mx_HD := (⟨"MainsLetters$Contention", "countDown", "(II)I"⟩, prog_2_method_11_code, 5, (some .int), 544)
def mt_10_0 : List (Nat × mx_I) := [(0, .iconst 0, 1, []), (1, .istore_n 3, 1, []), (2, .iconst 0, 1, []), (3, .istore 4, 2, []), (5, .iload 4, 2, []), (7, .bipush 6, 2, []), (9, .if_icmp .ge 72, 3, []), (12, .iload_n 1, 1, []), (13, .iload 4, 2, []), (15, .invokestatic 85, 3, [45, 1, 2, 545, 383, 68]), (18, .ifCond .eq 57, 3, []), (21, .aload_n 0, 1, []), (22, .iload 4, 2, []), (24, .iload_n 1, 1, []), (25, .iload_n 2, 1, []), (26, .invokevirtual 89, 3, [11, 2, 3, 546, 548, 16, 70, 0]), (29, .ifCond .eq 6, 3, []), (32, .goto 43, 3, []), (35, .aload_n 0, 1, []), (36, .getfield 11, 3, [0, 1, 0, 219]), (39, .iload 4, 2, []), (41, .aaload, 1, []), (42, .getfield 42, 3, [3, 5, 1, 186]), (45, .ifCond .ne 14, 3, []), (48, .iload_n 3, 1, []), (49, .iload 4, 2, []), (51, .invokestatic 80, 3, [46, 1, 1, 536, 121, 68]), (54, .ior, 1, []), (55, .istore_n 3, 1, []), (56, .goto 19, 3, []), (59, .aload_n 0, 1, []), (60, .getfield 11, 3, [0, 1, 0, 219]), (63, .iload 4, 2, []), (65, .aaload, 1, []), (66, .dup, 1, []), (67, .getfield 42, 3, [3, 5, 1, 186]), (70, .iconst 1, 1, []), (71, .isub, 1, []), (72, .putfield 42, 3, [3, 5, 2, 0, 186]), (75, .iinc 4 1, 3, [])]
def mt_10_1 : List (Nat × mx_I) := [(78, .goto (-73), 3, []), (81, .iload_n 3, 1, []), (82, .ireturn, 1, [])]
def mt_10 : List (Nat × mx_I) := mt_10_0 ++ (mt_10_1)
def mh_11 : mx_HD := (⟨"MainsLetters$Contention", "isHeld", "(III)Z"⟩, prog_2_method_12_code, 6, (some .boolean), 549)
def mt_11 : List (Nat × mx_I) := [(0, .aload_n 0, 1, []), (1, .getfield 21, 3, [0, 0, 0, 218]), (4, .iload_n 1, 1, []), (5, .invokevirtual 93, 3, [75, 1, 1, 550, 371, 372, 67, 5]), (8, .istore 4, 2, []), (10, .iload 4, 2, []), (12, .iload_n 3, 1, []), (13, .iand, 1, []), (14, .ifCond .eq 5, 3, []), (17, .iconst 1, 1, []), (18, .ireturn, 1, []), (19, .iconst 0, 1, []), (20, .istore 5, 2, []), (22, .iload 5, 2, []), (24, .bipush 6, 2, []), (26, .if_icmp .ge 45, 3, []), (29, .iload 4, 2, []), (31, .iload_n 2, 1, []), (32, .iand, 1, []), (33, .iload 5, 2, []), (35, .invokestatic 85, 3, [45, 1, 2, 545, 383, 68]), (38, .ifCond .eq 27, 3, []), (41, .aload_n 0, 1, []), (42, .getfield 11, 3, [0, 1, 0, 219]), (45, .iload 5, 2, []), (47, .aaload, 1, []), (48, .getfield 32, 3, [3, 2, 1, 183]), (51, .aload_n 0, 1, []), (52, .getfield 11, 3, [0, 1, 0, 219]), (55, .iload_n 1, 1, []), (56, .aaload, 1, []), (57, .getfield 32, 3, [3, 2, 1, 183]), (60, .if_icmp .le 5, 3, []), (63, .iconst 1, 1, []), (64, .ireturn, 1, []), (65, .iinc 5 1, 3, []), (68, .goto (-46), 3, []), (71, .iconst 0, 1, []), (72, .ireturn, 1, [])]
def mh_12 : mx_HD := (⟨"MainsLetters$Contention", "start", "(I)I"⟩, prog_2_method_13_code, 4, (some .int), 554)
def mt_12_0 : List (Nat × mx_I) := [(0, .iconst 0, 1, []), (1, .istore_n 2, 1, []), (2, .iconst 0, 1, []), (3, .istore_n 3, 1, []), (4, .iload_n 3, 1, []), (5, .bipush 6, 2, []), (7, .if_icmp .ge 75, 3, []), (10, .iload_n 1, 1, []), (11, .iload_n 3, 1, []), (12, .invokestatic 85, 3, [45, 1, 2, 545, 383, 68]), (15, .ifCond .ne 6, 3, []), (18, .goto 58, 3, []), (21, .aload_n 0, 1, []), (22, .getfield 21, 3, [0, 0, 0, 218]), (25, .iload_n 3, 1, []), (26, .aload_n 0, 1, []), (27, .getfield 11, 3, [0, 1, 0, 219]), (30, .iload_n 3, 1, []), (31, .aaload, 1, []), (32, .getfield 29, 3, [3, 1, 1, 182]), (35, .invokevirtual 98, 3, [78, 3, 2, 555, 390, 391, 67, 5]), (38, .ifCond .eq 18, 3, []), (41, .aload_n 0, 1, []), (42, .iload_n 3, 1, []), (43, .invokevirtual 101, 3, [13, 3, 1, 556, 558, 18, 70, 0]), (46, .iload_n 2, 1, []), (47, .iload_n 3, 1, []), (48, .invokestatic 80, 3, [46, 1, 1, 536, 121, 68]), (51, .ior, 1, []), (52, .istore_n 2, 1, []), (53, .goto 23, 3, []), (56, .aload_n 0, 1, []), (57, .getfield 11, 3, [0, 1, 0, 219]), (60, .iload_n 3, 1, []), (61, .aaload, 1, []), (62, .iconst 0, 1, []), (63, .putfield 26, 3, [3, 0, 2, 0, 181]), (66, .aload_n 0, 1, []), (67, .dup, 1, []), (68, .getfield 104, 3, [0, 5, 0, 223])]
def mt_12_1 : List (Nat × mx_I) := [(71, .iconst 1, 1, []), (72, .iadd, 1, []), (73, .putfield 104, 3, [0, 5, 0, 0, 223]), (76, .iinc 3 1, 3, []), (79, .goto (-75), 3, []), (82, .iload_n 2, 1, []), (83, .ireturn, 1, [])]
def mt_12 : List (Nat × mx_I) := mt_12_0 ++ (mt_12_1)
def mh_13 : mx_HD := (⟨"MainsLetters$Contention", "send", "(I)V"⟩, prog_2_method_14_code, 3, none, 559)
def mt_13 : List (Nat × mx_I) := [(0, .aload_n 0, 1, []), (1, .getfield 11, 3, [0, 1, 0, 219]), (4, .iload_n 1, 1, []), (5, .aaload, 1, []), (6, .astore_n 2, 1, []), (7, .aload_n 2, 1, []), (8, .iconst 2, 1, []), (9, .putfield 26, 3, [3, 0, 2, 0, 181]), (12, .aload_n 2, 1, []), (13, .iconst 0, 1, []), (14, .putfield 107, 3, [3, 8, 2, 1, 189]), (17, .aload_n 2, 1, []), (18, .aload_n 0, 1, []), (19, .getfield 21, 3, [0, 0, 0, 218]), (22, .iload_n 1, 1, []), (23, .aload_n 2, 1, []), (24, .getfield 29, 3, [3, 1, 1, 182]), (27, .aload_n 2, 1, []), (28, .getfield 35, 3, [3, 3, 1, 184]), (31, .invokevirtual 111, 3, [85, 2, 3, 560, 411, 412, 67, 5]), (34, .bipush 10, 2, []), (36, .iadd, 1, []), (37, .iconst 1, 1, []), (38, .isub, 1, []), (39, .bipush 10, 2, []), (41, .idiv, 1, []), (42, .putfield 115, 3, [3, 7, 2, 0, 188]), (45, .return_, 1, [])]
def mh_14 : mx_HD := (⟨"MainsLetters$Contention", "spoil", "(I)V"⟩, prog_2_method_15_code, 5, none, 564)
def mt_14_0 : List (Nat × mx_I) := [(0, .iconst 0, 1, []), (1, .istore_n 2, 1, []), (2, .iload_n 2, 1, []), (3, .bipush 6, 2, []), (5, .if_icmp .ge 72, 3, []), (8, .iload_n 1, 1, []), (9, .iload_n 2, 1, []), (10, .invokestatic 85, 3, [45, 1, 2, 545, 383, 68]), (13, .ifCond .ne 6, 3, []), (16, .goto 55, 3, []), (19, .aload_n 0, 1, []), (20, .getfield 11, 3, [0, 1, 0, 219]), (23, .iload_n 2, 1, []), (24, .aaload, 1, []), (25, .getfield 29, 3, [3, 1, 1, 182]), (28, .istore_n 3, 1, []), (29, .aload_n 0, 1, []), (30, .getfield 21, 3, [0, 0, 0, 218]), (33, .iload_n 3, 1, []), (34, .invokevirtual 93, 3, [75, 1, 1, 550, 371, 372, 67, 5]), (37, .iload_n 1, 1, []), (38, .iand, 1, []), (39, .iload_n 2, 1, []), (40, .invokestatic 80, 3, [46, 1, 1, 536, 121, 68]), (43, .iconst (-1), 1, []), (44, .ixor, 1, []), (45, .iand, 1, []), (46, .istore 4, 2, []), (48, .iload_n 1, 1, []), (49, .iload_n 3, 1, []), (50, .invokestatic 85, 3, [45, 1, 2, 545, 383, 68]), (53, .ifCond .ne 8, 3, []), (56, .iload 4, 2, []), (58, .ifCond .eq 13, 3, []), (61, .aload_n 0, 1, []), (62, .getfield 11, 3, [0, 1, 0, 219]), (65, .iload_n 2, 1, []), (66, .aaload, 1, []), (67, .iconst 1, 1, []), (68, .putfield 107, 3, [3, 8, 2, 1, 189])]
def mt_14_1 : List (Nat × mx_I) := [(71, .iinc 2 1, 3, []), (74, .goto (-72), 3, []), (77, .return_, 1, [])]
def mt_14 : List (Nat × mx_I) := mt_14_0 ++ (mt_14_1)
def mh_15 : mx_HD := (⟨"MainsLetters$Contention", "goOn", "(I)V"⟩, prog_2_method_16_code, 4, none, 568)
def mt_15 : List (Nat × mx_I) := [(0, .iconst 0, 1, []), (1, .istore_n 2, 1, []), (2, .iload_n 2, 1, []), (3, .bipush 6, 2, []), (5, .if_icmp .ge 67, 3, []), (8, .iload_n 1, 1, []), (9, .iload_n 2, 1, []), (10, .invokestatic 85, 3, [45, 1, 2, 545, 383, 68]), (13, .ifCond .ne 6, 3, []), (16, .goto 50, 3, []), (19, .aload_n 0, 1, []), (20, .getfield 11, 3, [0, 1, 0, 219]), (23, .iload_n 2, 1, []), (24, .aaload, 1, []), (25, .astore_n 3, 1, []), (26, .aload_n 3, 1, []), (27, .dup, 1, []), (28, .getfield 115, 3, [3, 7, 1, 188]), (31, .iconst 1, 1, []), (32, .isub, 1, []), (33, .putfield 115, 3, [3, 7, 2, 0, 188]), (36, .aload_n 3, 1, []), (37, .getfield 115, 3, [3, 7, 1, 188]), (40, .ifCond .le 6, 3, []), (43, .goto 23, 3, []), (46, .aload_n 3, 1, []), (47, .getfield 107, 3, [3, 8, 1, 189]), (50, .ifCond .eq 11, 3, []), (53, .aload_n 0, 1, []), (54, .aload_n 3, 1, []), (55, .invokevirtual 118, 3, [17, 3, 1, 569, 571, 21, 70, 0]), (58, .goto 8, 3, []), (61, .aload_n 0, 1, []), (62, .aload_n 3, 1, []), (63, .invokevirtual 122, 3, [16, 1, 1, 573, 575, 22, 70, 0]), (66, .iinc 2 1, 3, []), (69, .goto (-67), 3, []), (72, .return_, 1, [])]
def mh_16 : mx_HD := (⟨"MainsLetters$Contention", "arrive", "(LMainsLetters$Station;)V"⟩, prog_2_method_17_code, 2, none, 576)
def mt_16 : List (Nat × mx_I) := [(0, .aload_n 1, 1, []), (1, .iconst 0, 1, []), (2, .putfield 26, 3, [3, 0, 2, 0, 181]), (5, .aload_n 1, 1, []), (6, .dup, 1, []), (7, .getfield 125, 3, [3, 9, 1, 190]), (10, .iconst 1, 1, []), (11, .iadd, 1, []), (12, .putfield 125, 3, [3, 9, 2, 0, 190]), (15, .aload_n 0, 1, []), (16, .getfield 11, 3, [0, 1, 0, 219]), (19, .aload_n 1, 1, []), (20, .getfield 29, 3, [3, 1, 1, 182]), (23, .aaload, 1, []), (24, .dup, 1, []), (25, .getfield 126, 3, [3, 11, 1, 192]), (28, .iconst 1, 1, []), (29, .iadd, 1, []), (30, .putfield 126, 3, [3, 11, 2, 0, 192]), (33, .aload_n 0, 1, []), (34, .dup, 1, []), (35, .getfield 45, 3, [0, 4, 0, 222]), (38, .iconst 1, 1, []), (39, .iadd, 1, []), (40, .putfield 45, 3, [0, 4, 0, 0, 222]), (43, .return_, 1, [])]
def mh_17 : mx_HD := (⟨"MainsLetters$Contention", "collide", "(LMainsLetters$Station;)V"⟩, prog_2_method_18_code, 2, none, 572)
def mt_17 : List (Nat × mx_I) := [(0, .aload_n 1, 1, []), (1, .dup, 1, []), (2, .getfield 129, 3, [3, 10, 1, 191]), (5, .iconst 1, 1, []), (6, .iadd, 1, []), (7, .putfield 129, 3, [3, 10, 2, 0, 191]), (10, .aload_n 0, 1, []), (11, .dup, 1, []), (12, .getfield 132, 3, [0, 6, 0, 224]), (15, .iconst 1, 1, []), (16, .iadd, 1, []), (17, .putfield 132, 3, [0, 6, 0, 0, 224]), (20, .aload_n 0, 1, []), (21, .aload_n 1, 1, []), (22, .aload_n 1, 1, []), (23, .getfield 133, 3, [3, 4, 1, 185]), (26, .iconst 1, 1, []), (27, .iadd, 1, []), (28, .invokevirtual 38, 3, [20, 2, 2, 487, 489, 11, 70, 0]), (31, .return_, 1, [])]
def mh_18 : mx_HD := (⟨"MainsLetters$Contention", "giveWay", "(II)V"⟩, prog_2_method_19_code, 4, none, 580)
def mt_18 : List (Nat × mx_I) := [(0, .iconst 0, 1, []), (1, .istore_n 3, 1, []), (2, .iload_n 3, 1, []), (3, .bipush 6, 2, []), (5, .if_icmp .ge 40, 3, []), (8, .iload_n 1, 1, []), (9, .iload_n 3, 1, []), (10, .invokestatic 85, 3, [45, 1, 2, 545, 383, 68]), (13, .ifCond .eq 26, 3, []), (16, .aload_n 0, 1, []), (17, .getfield 21, 3, [0, 0, 0, 218]), (20, .iload_n 3, 1, []), (21, .invokevirtual 93, 3, [75, 1, 1, 550, 371, 372, 67, 5]), (24, .iload_n 2, 1, []), (25, .iand, 1, []), (26, .ifCond .eq 13, 3, []), (29, .aload_n 0, 1, []), (30, .aload_n 0, 1, []), (31, .getfield 11, 3, [0, 1, 0, 219]), (34, .iload_n 3, 1, []), (35, .aaload, 1, []), (36, .invokevirtual 136, 3, [19, 3, 1, 581, 583, 24, 70, 0]), (39, .iinc 3 1, 3, []), (42, .goto (-40), 3, []), (45, .return_, 1, [])]
def mh_19 : mx_HD := (⟨"MainsLetters$Contention", "deferAt", "(LMainsLetters$Station;)V"⟩, prog_2_method_20_code, 2, none, 584)
def mt_19 : List (Nat × mx_I) := [(0, .aload_n 1, 1, []), (1, .getfield 139, 3, [3, 6, 1, 187]), (4, .ifCond .ne 15, 3, []), (7, .aload_n 0, 1, []), (8, .aload_n 1, 1, []), (9, .aload_n 1, 1, []), (10, .getfield 133, 3, [3, 4, 1, 185]), (13, .iconst 1, 1, []), (14, .iadd, 1, []), (15, .invokevirtual 38, 3, [20, 2, 2, 487, 489, 11, 70, 0]), (18, .return_, 1, []), (19, .aload_n 1, 1, []), (20, .dup, 1, []), (21, .getfield 139, 3, [3, 6, 1, 187]), (24, .iconst 1, 1, []), (25, .isub, 1, []), (26, .putfield 139, 3, [3, 6, 2, 0, 187]), (29, .aload_n 1, 1, []), (30, .getfield 42, 3, [3, 5, 1, 186]), (33, .ifCond .le 13, 3, []), (36, .aload_n 1, 1, []), (37, .dup, 1, []), (38, .getfield 42, 3, [3, 5, 1, 186]), (41, .iconst 1, 1, []), (42, .isub, 1, []), (43, .putfield 42, 3, [3, 5, 2, 0, 186]), (46, .return_, 1, [])]
def mh_20 : mx_HD := (⟨"MainsLetters$Contention", "waitAt", "(LMainsLetters$Station;I)V"⟩, prog_2_method_21_code, 3, none, 490)
def mt_20 : List (Nat × mx_I) := [(0, .aload_n 1, 1, []), (1, .iconst 1, 1, []), (2, .putfield 26, 3, [3, 0, 2, 0, 181]), (5, .aload_n 1, 1, []), (6, .iload_n 2, 1, []), (7, .iconst 3, 1, []), (8, .invokestatic 142, 3, [0, 491, 445, 75, 446]), (11, .putfield 133, 3, [3, 4, 2, 0, 185]), (14, .aload_n 0, 1, []), (15, .aload_n 0, 1, []), (16, .getfield 17, 3, [0, 2, 0, 220]), (19, .invokestatic 147, 3, [24, 1, 1, 492, 493, 76]), (22, .putfield 17, 3, [0, 2, 0, 0, 220]), (25, .aload_n 1, 1, []), (26, .aload_n 0, 1, []), (27, .getfield 17, 3, [0, 2, 0, 220]), (30, .aload_n 1, 1, []), (31, .invokestatic 152, 3, [21, 1, 1, 496, 497, 70]), (34, .invokestatic 156, 3, [25, 1, 2, 503, 504, 76]), (37, .putfield 42, 3, [3, 5, 2, 0, 186]), (40, .aload_n 1, 1, []), (41, .getstatic 159, 3, [2, 506]), (44, .aload_n 1, 1, []), (45, .getfield 133, 3, [3, 4, 1, 185]), (48, .iaload, 1, []), (49, .putfield 139, 3, [3, 6, 2, 0, 187]), (52, .return_, 1, [])]
def mh_21 : mx_HD := (⟨"MainsLetters$Contention", "widthOf", "(LMainsLetters$Station;)I"⟩, prog_2_method_22_code, 1, (some .int), 498)
def mt_21 : List (Nat × mx_I) := [(0, .aload_n 0, 1, []), (1, .getfield 32, 3, [3, 2, 1, 183]), (4, .iconst 2, 1, []), (5, .if_icmp .lt 14, 3, []), (8, .getstatic 163, 3, [1, 499]), (11, .aload_n 0, 1, []), (12, .getfield 133, 3, [3, 4, 1, 185]), (15, .iaload, 1, []), (16, .goto 11, 3, []), (19, .getstatic 166, 3, [0, 501]), (22, .aload_n 0, 1, []), (23, .getfield 133, 3, [3, 4, 1, 185]), (26, .iaload, 1, []), (27, .ireturn, 1, [])]
def mh_22 : mx_HD := (⟨"MainsLetters$Contention", "tellOf", "(II)I"⟩, prog_2_method_23_code, 4, (some .int), 596)
def mt_22_0 : List (Nat × mx_I) := [(0, .aload_n 0, 1, []), (1, .getfield 11, 3, [0, 1, 0, 219]), (4, .iload_n 1, 1, []), (5, .aaload, 1, []), (6, .astore_n 3, 1, []), (7, .iload_n 2, 1, []), (8, .tableswitch 233 1 12 #[64, 69, 86, 103, 120, 138, 156, 174, 192, 218, 223, 228], 64, []), (72, .aload_n 3, 1, []), (73, .getfield 26, 3, [3, 0, 1, 181]), (76, .ireturn, 1, []), (77, .aload_n 3, 1, []), (78, .getfield 26, 3, [3, 0, 1, 181]), (81, .ifCond .ne 8, 3, []), (84, .bipush (-9), 2, []), (86, .goto 7, 3, []), (89, .aload_n 3, 1, []), (90, .getfield 29, 3, [3, 1, 1, 182]), (93, .ireturn, 1, []), (94, .aload_n 3, 1, []), (95, .getfield 26, 3, [3, 0, 1, 181]), (98, .ifCond .ne 8, 3, []), (101, .bipush (-9), 2, []), (103, .goto 7, 3, []), (106, .aload_n 3, 1, []), (107, .getfield 32, 3, [3, 2, 1, 183]), (110, .ireturn, 1, []), (111, .aload_n 3, 1, []), (112, .getfield 26, 3, [3, 0, 1, 181]), (115, .ifCond .ne 8, 3, []), (118, .bipush (-9), 2, []), (120, .goto 7, 3, []), (123, .aload_n 3, 1, []), (124, .getfield 35, 3, [3, 3, 1, 184]), (127, .ireturn, 1, []), (128, .aload_n 3, 1, []), (129, .getfield 26, 3, [3, 0, 1, 181]), (132, .iconst 1, 1, []), (133, .if_icmp .ne 10, 3, []), (136, .aload_n 3, 1, []), (137, .getfield 133, 3, [3, 4, 1, 185])]
def mt_22_1 : List (Nat × mx_I) := [(140, .goto 5, 3, []), (143, .bipush (-9), 2, []), (145, .ireturn, 1, []), (146, .aload_n 3, 1, []), (147, .getfield 26, 3, [3, 0, 1, 181]), (150, .iconst 1, 1, []), (151, .if_icmp .ne 10, 3, []), (154, .aload_n 3, 1, []), (155, .getfield 42, 3, [3, 5, 1, 186]), (158, .goto 5, 3, []), (161, .bipush (-9), 2, []), (163, .ireturn, 1, []), (164, .aload_n 3, 1, []), (165, .getfield 26, 3, [3, 0, 1, 181]), (168, .iconst 1, 1, []), (169, .if_icmp .ne 10, 3, []), (172, .aload_n 3, 1, []), (173, .getfield 139, 3, [3, 6, 1, 187]), (176, .goto 5, 3, []), (179, .bipush (-9), 2, []), (181, .ireturn, 1, []), (182, .aload_n 3, 1, []), (183, .getfield 26, 3, [3, 0, 1, 181]), (186, .iconst 2, 1, []), (187, .if_icmp .ne 10, 3, []), (190, .aload_n 3, 1, []), (191, .getfield 115, 3, [3, 7, 1, 188]), (194, .goto 5, 3, []), (197, .bipush (-9), 2, []), (199, .ireturn, 1, []), (200, .aload_n 3, 1, []), (201, .getfield 26, 3, [3, 0, 1, 181]), (204, .iconst 2, 1, []), (205, .if_icmp .eq 8, 3, []), (208, .bipush (-9), 2, []), (210, .goto 15, 3, []), (213, .aload_n 3, 1, []), (214, .getfield 107, 3, [3, 8, 1, 189]), (217, .ifCond .eq 7, 3, []), (220, .iconst 1, 1, [])]
def mt_22_2 : List (Nat × mx_I) := [(221, .goto 4, 3, []), (224, .iconst 0, 1, []), (225, .ireturn, 1, []), (226, .aload_n 3, 1, []), (227, .getfield 125, 3, [3, 9, 1, 190]), (230, .ireturn, 1, []), (231, .aload_n 3, 1, []), (232, .getfield 129, 3, [3, 10, 1, 191]), (235, .ireturn, 1, []), (236, .aload_n 3, 1, []), (237, .getfield 126, 3, [3, 11, 1, 192]), (240, .ireturn, 1, []), (241, .bipush (-2), 2, []), (243, .ireturn, 1, [])]
def mt_22 : List (Nat × mx_I) := mt_22_0 ++ (mt_22_1 ++ (mt_22_2))
def mh_23 : mx_HD := (⟨"MainsLetters$Contention", "tellOfAll", "(I)I"⟩, prog_2_method_24_code, 2, (some .int), 714)
def mt_23 : List (Nat × mx_I) := [(0, .iload_n 1, 1, []), (1, .tableswitch 89 0 6 #[43, 51, 60, 69, 74, 79, 84], 43, []), (44, .aload_n 0, 1, []), (45, .invokevirtual 51, 3, [7, 3, 0, 528, 530, 12, 70, 0]), (48, .invokestatic 169, 3, [175, 1, 1, 715, 630, 77]), (51, .ireturn, 1, []), (52, .aload_n 0, 1, []), (53, .iconst 1, 1, []), (54, .invokevirtual 58, 3, [9, 2, 1, 532, 534, 13, 70, 0]), (57, .invokestatic 169, 3, [175, 1, 1, 715, 630, 77]), (60, .ireturn, 1, []), (61, .aload_n 0, 1, []), (62, .iconst 2, 1, []), (63, .invokevirtual 58, 3, [9, 2, 1, 532, 534, 13, 70, 0]), (66, .invokestatic 169, 3, [175, 1, 1, 715, 630, 77]), (69, .ireturn, 1, []), (70, .aload_n 0, 1, []), (71, .getfield 48, 3, [0, 3, 0, 221]), (74, .ireturn, 1, []), (75, .aload_n 0, 1, []), (76, .getfield 45, 3, [0, 4, 0, 222]), (79, .ireturn, 1, []), (80, .aload_n 0, 1, []), (81, .getfield 104, 3, [0, 5, 0, 223]), (84, .ireturn, 1, []), (85, .aload_n 0, 1, []), (86, .getfield 132, 3, [0, 6, 0, 224]), (89, .ireturn, 1, []), (90, .bipush (-2), 2, []), (92, .ireturn, 1, [])]
def mh_24 : mx_HD := (⟨"MainsLetters$Draws", "seedBehind", "(I)I"⟩, prog_3_method_2_code, 1, (some .int), 494)
def mt_24 : List (Nat × mx_I) := [(0, .ldc 7, 2, [1103515245, 495]), (2, .iload_n 0, 1, []), (3, .imul, 1, []), (4, .sipush 12345, 3, []), (7, .iadd, 1, []), (8, .ireturn, 1, [])]
def mh_25 : mx_HD := (⟨"MainsLetters$Draws", "leftBy", "(II)I"⟩, prog_3_method_3_code, 2, (some .int), 505)
def mt_25 : List (Nat × mx_I) := [(0, .iload_n 1, 1, []), (1, .ifCond .le 12, 3, []), (4, .iload_n 0, 1, []), (5, .bipush 16, 2, []), (7, .iushr, 1, []), (8, .iload_n 1, 1, []), (9, .irem, 1, []), (10, .goto 4, 3, []), (13, .iconst 0, 1, []), (14, .ireturn, 1, [])]
def mh_26 : mx_HD := (⟨"MainsLetters$Flow", "<init>", "()V"⟩, prog_4_method_1_code, 1, none, 244)
def mt_26 : List (Nat × mx_I) := [(0, .aload_n 0, 1, []), (1, .invokespecial 3, 3, [245]), (4, .return_, 1, [])]
def mh_27 : mx_HD := (⟨"MainsLetters$Flow", "run", "(IIIII)V"⟩, prog_4_method_2_code, 6, none, 604)
def mt_27_0 : List (Nat × mx_I) := [(0, .aload_n 0, 1, []), (1, .iload 5, 2, []), (3, .putfield 9, 3, [1, 0, 0, 0, 246]), (6, .aload_n 0, 1, []), (7, .iload_n 1, 1, []), (8, .invokestatic 15, 3, [46, 1, 1, 605, 121, 68]), (11, .iconst 1, 1, []), (12, .isub, 1, []), (13, .putfield 21, 3, [1, 1, 0, 0, 247]), (16, .aload_n 0, 1, []), (17, .iconst 0, 1, []), (18, .putfield 24, 3, [1, 2, 0, 0, 248]), (21, .aload_n 0, 1, []), (22, .iconst 0, 1, []), (23, .putfield 27, 3, [1, 3, 0, 0, 249]), (26, .aload_n 0, 1, []), (27, .iconst 0, 1, []), (28, .putfield 30, 3, [1, 4, 0, 0, 250]), (31, .aload_n 0, 1, []), (32, .iconst 0, 1, []), (33, .putfield 33, 3, [1, 5, 0, 0, 251]), (36, .aload_n 0, 1, []), (37, .iconst 0, 1, []), (38, .putfield 36, 3, [1, 6, 0, 0, 252]), (41, .aload_n 0, 1, []), (42, .iconst 0, 1, []), (43, .putfield 39, 3, [1, 7, 0, 0, 253]), (46, .aload_n 0, 1, []), (47, .getfield 30, 3, [1, 4, 0, 250]), (50, .sipush 200, 3, []), (53, .if_icmp .ge 39, 3, []), (56, .aload_n 0, 1, []), (57, .getfield 27, 3, [1, 3, 0, 249]), (60, .aload_n 0, 1, []), (61, .getfield 21, 3, [1, 1, 0, 247]), (64, .if_icmp .eq 28, 3, []), (67, .aload_n 0, 1, []), (68, .dup, 1, []), (69, .getfield 30, 3, [1, 4, 0, 250]), (72, .iconst 1, 1, [])]
def mt_27_1 : List (Nat × mx_I) := [(73, .iadd, 1, []), (74, .putfield 30, 3, [1, 4, 0, 0, 250]), (77, .aload_n 0, 1, []), (78, .aload_n 0, 1, []), (79, .iload_n 2, 1, []), (80, .invokevirtual 42, 3, [28, 2, 1, 606, 608, 25, 72, 1]), (83, .iload_n 3, 1, []), (84, .iload 4, 2, []), (86, .invokevirtual 45, 3, [29, 3, 3, 611, 613, 26, 72, 1]), (89, .goto (-43), 3, []), (92, .return_, 1, [])]
def mt_27 : List (Nat × mx_I) := mt_27_0 ++ (mt_27_1)
def mh_28 : mx_HD := (⟨"MainsLetters$Flow", "firstOpen", "(I)I"⟩, prog_4_method_3_code, 5, (some .int), 609)
def mt_28 : List (Nat × mx_I) := [(0, .iconst 0, 1, []), (1, .istore_n 2, 1, []), (2, .iload_n 1, 1, []), (3, .istore_n 3, 1, []), (4, .iconst 0, 1, []), (5, .istore 4, 2, []), (7, .iload 4, 2, []), (9, .bipush 30, 2, []), (11, .if_icmp .ge 46, 3, []), (14, .iload_n 3, 1, []), (15, .ifCond .le 42, 3, []), (18, .aload_n 0, 1, []), (19, .getfield 21, 3, [1, 1, 0, 247]), (22, .aload_n 0, 1, []), (23, .getfield 27, 3, [1, 3, 0, 249]), (26, .iconst (-1), 1, []), (27, .ixor, 1, []), (28, .iand, 1, []), (29, .iload 4, 2, []), (31, .invokestatic 49, 3, [45, 1, 2, 610, 383, 68]), (34, .ifCond .ne 6, 3, []), (37, .goto 14, 3, []), (40, .iload_n 2, 1, []), (41, .iload 4, 2, []), (43, .invokestatic 15, 3, [46, 1, 1, 605, 121, 68]), (46, .ior, 1, []), (47, .istore_n 2, 1, []), (48, .iinc 3 (-1), 3, []), (51, .iinc 4 1, 3, []), (54, .goto (-47), 3, []), (57, .iload_n 2, 1, []), (58, .ireturn, 1, [])]
def mh_29 : mx_HD := (⟨"MainsLetters$Flow", "sendFrame", "(III)V"⟩, prog_4_method_4_code, 5, none, 614)
def mt_29_0 : List (Nat × mx_I) := [(0, .iconst 0, 1, []), (1, .istore 4, 2, []), (3, .iload 4, 2, []), (5, .bipush 30, 2, []), (7, .if_icmp .ge 45, 3, []), (10, .iload_n 1, 1, []), (11, .iload 4, 2, []), (13, .invokestatic 49, 3, [45, 1, 2, 610, 383, 68]), (16, .ifCond .ne 6, 3, []), (19, .goto 27, 3, []), (22, .aload_n 0, 1, []), (23, .dup, 1, []), (24, .getfield 33, 3, [1, 5, 0, 251]), (27, .iconst 1, 1, []), (28, .iadd, 1, []), (29, .putfield 33, 3, [1, 5, 0, 0, 251]), (32, .aload_n 0, 1, []), (33, .invokevirtual 53, 3, [30, 2, 0, 615, 617, 27, 72, 1]), (36, .iload_n 2, 1, []), (37, .if_icmp .lt 9, 3, []), (40, .aload_n 0, 1, []), (41, .iload 4, 2, []), (43, .invokevirtual 57, 3, [31, 2, 1, 621, 623, 28, 72, 1]), (46, .iinc 4 1, 3, []), (49, .goto (-46), 3, []), (52, .aload_n 0, 1, []), (53, .invokevirtual 53, 3, [30, 2, 0, 615, 617, 27, 72, 1]), (56, .iload_n 3, 1, []), (57, .if_icmp .lt 18, 3, []), (60, .aload_n 0, 1, []), (61, .dup, 1, []), (62, .getfield 27, 3, [1, 3, 0, 249]), (65, .iload_n 1, 1, []), (66, .aload_n 0, 1, []), (67, .getfield 24, 3, [1, 2, 0, 248]), (70, .iand, 1, []), (71, .ior, 1, []), (72, .putfield 27, 3, [1, 3, 0, 0, 249]), (75, .aload_n 0, 1, []), (76, .aload_n 0, 1, [])]
def mt_29_1 : List (Nat × mx_I) := [(77, .getfield 39, 3, [1, 7, 0, 253]), (80, .aload_n 0, 1, []), (81, .invokevirtual 61, 3, [32, 2, 0, 625, 627, 29, 72, 1]), (84, .invokestatic 64, 3, [1, 635, 636, 75, 637]), (87, .putfield 39, 3, [1, 7, 0, 0, 253]), (90, .return_, 1, [])]
def mt_29 : List (Nat × mx_I) := mt_29_0 ++ (mt_29_1)
def mh_30 : mx_HD := (⟨"MainsLetters$Flow", "drawTenth", "()I"⟩, prog_4_method_5_code, 1, (some .int), 618)
def mt_30 : List (Nat × mx_I) := [(0, .aload_n 0, 1, []), (1, .aload_n 0, 1, []), (2, .getfield 9, 3, [1, 0, 0, 246]), (5, .invokestatic 70, 3, [24, 1, 1, 619, 493, 76]), (8, .putfield 9, 3, [1, 0, 0, 0, 246]), (11, .aload_n 0, 1, []), (12, .getfield 9, 3, [1, 0, 0, 246]), (15, .bipush 10, 2, []), (17, .invokestatic 75, 3, [25, 1, 2, 620, 504, 76]), (20, .ireturn, 1, [])]
def mh_31 : mx_HD := (⟨"MainsLetters$Flow", "take", "(I)V"⟩, prog_4_method_6_code, 2, none, 624)
def mt_31 : List (Nat × mx_I) := [(0, .aload_n 0, 1, []), (1, .getfield 24, 3, [1, 2, 0, 248]), (4, .iload_n 1, 1, []), (5, .invokestatic 49, 3, [45, 1, 2, 610, 383, 68]), (8, .ifCond .eq 13, 3, []), (11, .aload_n 0, 1, []), (12, .dup, 1, []), (13, .getfield 36, 3, [1, 6, 0, 252]), (16, .iconst 1, 1, []), (17, .iadd, 1, []), (18, .putfield 36, 3, [1, 6, 0, 0, 252]), (21, .aload_n 0, 1, []), (22, .dup, 1, []), (23, .getfield 24, 3, [1, 2, 0, 248]), (26, .iload_n 1, 1, []), (27, .invokestatic 15, 3, [46, 1, 1, 605, 121, 68]), (30, .ior, 1, []), (31, .putfield 24, 3, [1, 2, 0, 0, 248]), (34, .return_, 1, [])]
def mh_32 : mx_HD := (⟨"MainsLetters$Flow", "takenBeyondGap", "()I"⟩, prog_4_method_7_code, 2, (some .int), 628)
def mt_32 : List (Nat × mx_I) := [(0, .iconst 0, 1, []), (1, .istore_n 1, 1, []), (2, .iload_n 1, 1, []), (3, .bipush 30, 2, []), (5, .if_icmp .ge 20, 3, []), (8, .aload_n 0, 1, []), (9, .getfield 24, 3, [1, 2, 0, 248]), (12, .iload_n 1, 1, []), (13, .invokestatic 49, 3, [45, 1, 2, 610, 383, 68]), (16, .ifCond .eq 9, 3, []), (19, .iinc 1 1, 3, []), (22, .goto (-20), 3, []), (25, .aload_n 0, 1, []), (26, .getfield 24, 3, [1, 2, 0, 248]), (29, .iload_n 1, 1, []), (30, .ishr, 1, []), (31, .invokestatic 78, 3, [175, 1, 1, 629, 630, 77]), (34, .ireturn, 1, [])]
def mh_33 : mx_HD := (⟨"MainsLetters$Flow", "tell", "(I)I"⟩, prog_4_method_8_code, 2, (some .int), 641)
def mt_33 : List (Nat × mx_I) := [(0, .iload_n 1, 1, []), (1, .tableswitch 75 0 5 #[39, 44, 49, 54, 59, 67], 39, []), (40, .aload_n 0, 1, []), (41, .getfield 30, 3, [1, 4, 0, 250]), (44, .ireturn, 1, []), (45, .aload_n 0, 1, []), (46, .getfield 33, 3, [1, 5, 0, 251]), (49, .ireturn, 1, []), (50, .aload_n 0, 1, []), (51, .getfield 36, 3, [1, 6, 0, 252]), (54, .ireturn, 1, []), (55, .aload_n 0, 1, []), (56, .getfield 39, 3, [1, 7, 0, 253]), (59, .ireturn, 1, []), (60, .aload_n 0, 1, []), (61, .getfield 24, 3, [1, 2, 0, 248]), (64, .invokestatic 78, 3, [175, 1, 1, 629, 630, 77]), (67, .ireturn, 1, []), (68, .aload_n 0, 1, []), (69, .getfield 27, 3, [1, 3, 0, 249]), (72, .invokestatic 78, 3, [175, 1, 1, 629, 630, 77]), (75, .ireturn, 1, []), (76, .bipush (-2), 2, []), (78, .ireturn, 1, [])]
def mh_34 : mx_HD := (⟨"MainsLetters$Networks", "<init>", "(LMainsLetters$Wire;)V"⟩, prog_5_method_1_code, 2, none, 275)
def mt_34 : List (Nat × mx_I) := [(0, .aload_n 0, 1, []), (1, .invokespecial 3, 3, [276]), (4, .aload_n 0, 1, []), (5, .bipush 6, 2, []), (7, .newarray .int, 2, [0, 142]), (9, .putfield 9, 3, [2, 1, 1, 0, 278]), (12, .aload_n 0, 1, []), (13, .bipush 6, 2, []), (15, .newarray .int, 2, [0, 142]), (17, .putfield 15, 3, [2, 2, 1, 0, 279]), (20, .aload_n 0, 1, []), (21, .aload_n 1, 1, []), (22, .putfield 18, 3, [2, 0, 1, 0, 277]), (25, .return_, 1, [])]
def mh_35 : mx_HD := (⟨"MainsLetters$Networks", "keysThere", "()I"⟩, prog_5_method_2_code, 3, (some .int), 653)
def mt_35 : List (Nat × mx_I) := [(0, .iconst 0, 1, []), (1, .istore_n 1, 1, []), (2, .iconst 0, 1, []), (3, .istore_n 2, 1, []), (4, .iload_n 2, 1, []), (5, .bipush 6, 2, []), (7, .if_icmp .ge 23, 3, []), (10, .iload_n 1, 1, []), (11, .aload_n 0, 1, []), (12, .getfield 18, 3, [2, 0, 0, 277]), (15, .iload_n 2, 1, []), (16, .invokevirtual 22, 3, [64, 1, 1, 654, 590, 591, 67, 5]), (19, .invokestatic 28, 3, [46, 1, 1, 655, 121, 68]), (22, .ior, 1, []), (23, .istore_n 1, 1, []), (24, .iinc 2 1, 3, []), (27, .goto (-23), 3, []), (30, .iload_n 1, 1, []), (31, .ireturn, 1, [])]
def mh_36 : mx_HD := (⟨"MainsLetters$Networks", "isThere", "(I)Z"⟩, prog_5_method_3_code, 2, (some .boolean), 649)
def mt_36 : List (Nat × mx_I) := [(0, .aload_n 0, 1, []), (1, .invokevirtual 33, 3, [35, 2, 0, 650, 652, 30, 73, 2]), (4, .iload_n 1, 1, []), (5, .invokestatic 37, 3, [45, 1, 2, 656, 383, 68]), (8, .ireturn, 1, [])]
def mh_37 : mx_HD := (⟨"MainsLetters$Networks", "howMany", "()I"⟩, prog_5_method_4_code, 1, (some .int), 705)
def mt_37 : List (Nat × mx_I) := [(0, .aload_n 0, 1, []), (1, .invokevirtual 33, 3, [35, 2, 0, 650, 652, 30, 73, 2]), (4, .invokestatic 41, 3, [175, 1, 1, 706, 630, 77]), (7, .ireturn, 1, [])]
def mh_38 : mx_HD := (⟨"MainsLetters$Networks", "disturbedBy", "(I)I"⟩, prog_5_method_5_code, 2, (some .int), 660)
def mt_38 : List (Nat × mx_I) := [(0, .aload_n 0, 1, []), (1, .invokevirtual 46, 3, [39, 3, 0, 661, 663, 31, 73, 2]), (4, .aload_n 0, 1, []), (5, .getfield 9, 3, [2, 1, 0, 278]), (8, .iload_n 1, 1, []), (9, .iaload, 1, []), (10, .ireturn, 1, [])]
def mh_39 : mx_HD := (⟨"MainsLetters$Networks", "meet", "()V"⟩, prog_5_method_6_code, 3, none, 664)
def mt_39_0 : List (Nat × mx_I) := [(0, .iconst 0, 1, []), (1, .istore_n 1, 1, []), (2, .iload_n 1, 1, []), (3, .bipush 6, 2, []), (5, .if_icmp .ge 16, 3, []), (8, .aload_n 0, 1, []), (9, .getfield 9, 3, [2, 1, 0, 278]), (12, .iload_n 1, 1, []), (13, .iconst 0, 1, []), (14, .iastore, 1, []), (15, .iinc 1 1, 3, []), (18, .goto (-16), 3, []), (21, .iconst 0, 1, []), (22, .istore_n 1, 1, []), (23, .iload_n 1, 1, []), (24, .bipush 6, 2, []), (26, .if_icmp .ge 55, 3, []), (29, .iconst 0, 1, []), (30, .istore_n 2, 1, []), (31, .iload_n 2, 1, []), (32, .bipush 6, 2, []), (34, .if_icmp .ge 41, 3, []), (37, .aload_n 0, 1, []), (38, .getfield 18, 3, [2, 0, 0, 277]), (41, .iload_n 1, 1, []), (42, .iload_n 2, 1, []), (43, .invokevirtual 49, 3, [76, 2, 2, 665, 379, 380, 67, 5]), (46, .ifCond .eq 23, 3, []), (49, .aload_n 0, 1, []), (50, .aload_n 0, 1, []), (51, .getfield 18, 3, [2, 0, 0, 277]), (54, .iload_n 2, 1, []), (55, .invokevirtual 22, 3, [64, 1, 1, 654, 590, 591, 67, 5]), (58, .aload_n 0, 1, []), (59, .getfield 18, 3, [2, 0, 0, 277]), (62, .iload_n 1, 1, []), (63, .invokevirtual 22, 3, [64, 1, 1, 654, 590, 591, 67, 5]), (66, .invokevirtual 52, 3, [40, 2, 2, 666, 668, 32, 73, 2]), (69, .iinc 2 1, 3, []), (72, .goto (-41), 3, [])]
def mt_39_1 : List (Nat × mx_I) := [(75, .iinc 1 1, 3, []), (78, .goto (-55), 3, []), (81, .return_, 1, [])]
def mt_39 : List (Nat × mx_I) := mt_39_0 ++ (mt_39_1)
def mh_40 : mx_HD := (⟨"MainsLetters$Networks", "part", "(II)V"⟩, prog_5_method_7_code, 3, none, 669)
def mt_40 : List (Nat × mx_I) := [(0, .iload_n 1, 1, []), (1, .iload_n 2, 1, []), (2, .if_icmp .ne 4, 3, []), (5, .return_, 1, []), (6, .aload_n 0, 1, []), (7, .getfield 9, 3, [2, 1, 0, 278]), (10, .iload_n 1, 1, []), (11, .dup2, 1, []), (12, .iaload, 1, []), (13, .iload_n 2, 1, []), (14, .invokestatic 28, 3, [46, 1, 1, 655, 121, 68]), (17, .ior, 1, []), (18, .iastore, 1, []), (19, .aload_n 0, 1, []), (20, .getfield 9, 3, [2, 1, 0, 278]), (23, .iload_n 2, 1, []), (24, .dup2, 1, []), (25, .iaload, 1, []), (26, .iload_n 1, 1, []), (27, .invokestatic 28, 3, [46, 1, 1, 655, 121, 68]), (30, .ior, 1, []), (31, .iastore, 1, []), (32, .return_, 1, [])]
def mh_41 : mx_HD := (⟨"MainsLetters$Networks", "giveTurns", "()I"⟩, prog_5_method_8_code, 2, (some .int), 677)
def mt_41 : List (Nat × mx_I) := [(0, .aload_n 0, 1, []), (1, .invokevirtual 46, 3, [39, 3, 0, 661, 663, 31, 73, 2]), (4, .iconst 1, 1, []), (5, .istore_n 1, 1, []), (6, .iload_n 1, 1, []), (7, .bipush 6, 2, []), (9, .if_icmp .ge 27, 3, []), (12, .aload_n 0, 1, []), (13, .getfield 9, 3, [2, 1, 0, 278]), (16, .aload_n 0, 1, []), (17, .getfield 15, 3, [2, 2, 0, 279]), (20, .iconst 0, 1, []), (21, .iload_n 1, 1, []), (22, .invokestatic 56, 3, [43, 10, 4, 678, 679, 73]), (25, .ifCond .eq 5, 3, []), (28, .iload_n 1, 1, []), (29, .ireturn, 1, []), (30, .iinc 1 1, 3, []), (33, .goto (-27), 3, []), (36, .aload_n 0, 1, []), (37, .getfield 9, 3, [2, 1, 0, 278]), (40, .aload_n 0, 1, []), (41, .getfield 15, 3, [2, 2, 0, 279]), (44, .iconst 0, 1, []), (45, .bipush 6, 2, []), (47, .invokestatic 56, 3, [43, 10, 4, 678, 679, 73]), (50, .pop, 1, []), (51, .bipush 6, 2, []), (53, .ireturn, 1, [])]
def mh_42 : mx_HD := (⟨"MainsLetters$Networks", "turnOf", "(I)I"⟩, prog_5_method_9_code, 2, (some .int), 687)
def mt_42 : List (Nat × mx_I) := [(0, .aload_n 0, 1, []), (1, .getfield 15, 3, [2, 2, 0, 279]), (4, .iload_n 1, 1, []), (5, .iaload, 1, []), (6, .ireturn, 1, [])]
def mh_43 : mx_HD := (⟨"MainsLetters$Networks", "number", "([I[III)Z"⟩, prog_5_method_10_code, 5, (some .boolean), 680)
def mt_43 : List (Nat × mx_I) := [(0, .iload_n 2, 1, []), (1, .bipush 6, 2, []), (3, .if_icmp .lt 5, 3, []), (6, .iconst 1, 1, []), (7, .ireturn, 1, []), (8, .iconst 0, 1, []), (9, .istore 4, 2, []), (11, .iload 4, 2, []), (13, .iload_n 3, 1, []), (14, .if_icmp .ge 42, 3, []), (17, .aload_n 0, 1, []), (18, .aload_n 1, 1, []), (19, .iload_n 2, 1, []), (20, .iload 4, 2, []), (22, .invokestatic 60, 3, [44, 2, 4, 681, 682, 73]), (25, .ifCond .ne 6, 3, []), (28, .goto 22, 3, []), (31, .aload_n 1, 1, []), (32, .iload_n 2, 1, []), (33, .iload 4, 2, []), (35, .iastore, 1, []), (36, .aload_n 0, 1, []), (37, .aload_n 1, 1, []), (38, .iload_n 2, 1, []), (39, .iconst 1, 1, []), (40, .iadd, 1, []), (41, .iload_n 3, 1, []), (42, .invokestatic 56, 3, [43, 0, 4, 678, 679, 73]), (45, .ifCond .eq 5, 3, []), (48, .iconst 1, 1, []), (49, .ireturn, 1, []), (50, .iinc 4 1, 3, []), (53, .goto (-42), 3, []), (56, .iconst 0, 1, []), (57, .ireturn, 1, [])]
def mh_44 : mx_HD := (⟨"MainsLetters$Networks", "isFree", "([I[III)Z"⟩, prog_5_method_11_code, 5, (some .boolean), 683)
def mt_44 : List (Nat × mx_I) := [(0, .iconst 0, 1, []), (1, .istore 4, 2, []), (3, .iload 4, 2, []), (5, .iload_n 2, 1, []), (6, .if_icmp .ge 30, 3, []), (9, .aload_n 0, 1, []), (10, .iload_n 2, 1, []), (11, .iaload, 1, []), (12, .iload 4, 2, []), (14, .invokestatic 37, 3, [45, 1, 2, 656, 383, 68]), (17, .ifCond .eq 13, 3, []), (20, .aload_n 1, 1, []), (21, .iload 4, 2, []), (23, .iaload, 1, []), (24, .iload_n 3, 1, []), (25, .if_icmp .ne 5, 3, []), (28, .iconst 0, 1, []), (29, .ireturn, 1, []), (30, .iinc 4 1, 3, []), (33, .goto (-30), 3, []), (36, .iconst 1, 1, []), (37, .ireturn, 1, [])]
def mh_45 : mx_HD := (⟨"MainsLetters$Sets", "has", "(II)Z"⟩, prog_6_method_2_code, 2, (some .boolean), 384)
def mt_45 : List (Nat × mx_I) := [(0, .iload_n 0, 1, []), (1, .iload_n 1, 1, []), (2, .ishr, 1, []), (3, .iconst 1, 1, []), (4, .iand, 1, []), (5, .iconst 1, 1, []), (6, .if_icmp .ne 7, 3, []), (9, .iconst 1, 1, []), (10, .goto 4, 3, []), (13, .iconst 0, 1, []), (14, .ireturn, 1, [])]
def mh_46 : mx_HD := (⟨"MainsLetters$Sets", "of", "(I)I"⟩, prog_6_method_3_code, 1, (some .int), 122)
def mt_46 : List (Nat × mx_I) := [(0, .iconst 1, 1, []), (1, .iload_n 0, 1, []), (2, .ishl, 1, []), (3, .ireturn, 1, [])]
def mh_47 : mx_HD := (⟨"MainsLetters$Station", "<init>", "()V"⟩, prog_7_method_1_code, 1, none, 179)
def mt_47 : List (Nat × mx_I) := [(0, .aload_n 0, 1, []), (1, .invokespecial 1, 3, [180]), (4, .return_, 1, [])]
def mh_48 : mx_HD := (⟨"MainsLetters$Ways", "<init>", "(LMainsLetters$Wire;)V"⟩, prog_8_method_1_code, 2, none, 147)
def mt_48 : List (Nat × mx_I) := [(0, .aload_n 0, 1, []), (1, .invokespecial 3, 3, [148]), (4, .aload_n 0, 1, []), (5, .bipush 36, 2, []), (7, .newarray .int, 2, [0, 142]), (9, .putfield 9, 3, [4, 1, 1, 0, 150]), (12, .aload_n 0, 1, []), (13, .bipush 6, 2, []), (15, .newarray .int, 2, [0, 142]), (17, .putfield 15, 3, [4, 2, 1, 0, 151]), (20, .aload_n 0, 1, []), (21, .bipush 6, 2, []), (23, .newarray .int, 2, [0, 142]), (25, .putfield 18, 3, [4, 3, 1, 0, 152]), (28, .aload_n 0, 1, []), (29, .aload_n 1, 1, []), (30, .putfield 21, 3, [4, 0, 1, 0, 149]), (33, .return_, 1, [])]
def mh_49 : mx_HD := (⟨"MainsLetters$Ways", "findBest", "(III)Z"⟩, prog_8_method_2_code, 4, (some .boolean), 424)
def mt_49 : List (Nat × mx_I) := [(0, .aload_n 0, 1, []), (1, .iload_n 3, 1, []), (2, .invokevirtual 25, 3, [53, 4, 1, 425, 427, 5, 69, 4]), (5, .aload_n 0, 1, []), (6, .iload_n 2, 1, []), (7, .invokevirtual 29, 3, [54, 3, 1, 432, 434, 6, 69, 4]), (10, .aload_n 0, 1, []), (11, .getfield 15, 3, [4, 2, 0, 151]), (14, .iload_n 1, 1, []), (15, .iaload, 1, []), (16, .ldc 32, 2, [100000000, 431]), (18, .if_icmp .lt 5, 3, []), (21, .iconst 0, 1, []), (22, .ireturn, 1, []), (23, .aload_n 0, 1, []), (24, .aload_n 0, 1, []), (25, .getfield 15, 3, [4, 2, 0, 151]), (28, .iload_n 1, 1, []), (29, .iaload, 1, []), (30, .bipush 8, 2, []), (32, .idiv, 1, []), (33, .putfield 33, 3, [4, 5, 0, 0, 154]), (36, .aload_n 0, 1, []), (37, .iload_n 1, 1, []), (38, .iload_n 2, 1, []), (39, .invokevirtual 37, 3, [57, 3, 2, 447, 449, 9, 69, 4]), (42, .iconst 1, 1, []), (43, .ireturn, 1, [])]
def mh_50 : mx_HD := (⟨"MainsLetters$Ways", "symbolsOfBest", "()I"⟩, prog_8_method_3_code, 1, (some .int), 458)
def mt_50 : List (Nat × mx_I) := [(0, .aload_n 0, 1, []), (1, .getfield 33, 3, [4, 5, 0, 154]), (4, .ireturn, 1, [])]
def mh_51 : mx_HD := (⟨"MainsLetters$Ways", "stationsOfBest", "()I"⟩, prog_8_method_4_code, 1, (some .int), 462)
def mt_51 : List (Nat × mx_I) := [(0, .aload_n 0, 1, []), (1, .getfield 41, 3, [4, 4, 0, 153]), (4, .ireturn, 1, [])]
def mh_52 : mx_HD := (⟨"MainsLetters$Ways", "stationOfBest", "(I)I"⟩, prog_8_method_5_code, 2, (some .int), 466)
def mt_52 : List (Nat × mx_I) := [(0, .iload_n 1, 1, []), (1, .ifCond .lt 20, 3, []), (4, .iload_n 1, 1, []), (5, .aload_n 0, 1, []), (6, .getfield 41, 3, [4, 4, 0, 153]), (9, .if_icmp .ge 12, 3, []), (12, .aload_n 0, 1, []), (13, .getfield 18, 3, [4, 3, 0, 152]), (16, .iload_n 1, 1, []), (17, .iaload, 1, []), (18, .goto 5, 3, []), (21, .bipush (-9), 2, []), (23, .ireturn, 1, [])]
def mh_53 : mx_HD := (⟨"MainsLetters$Ways", "weighSteps", "(I)V"⟩, prog_8_method_6_code, 5, none, 428)
def mt_53_0 : List (Nat × mx_I) := [(0, .iconst 0, 1, []), (1, .istore_n 2, 1, []), (2, .iload_n 2, 1, []), (3, .bipush 6, 2, []), (5, .if_icmp .ge 70, 3, []), (8, .iconst 0, 1, []), (9, .istore_n 3, 1, []), (10, .iload_n 3, 1, []), (11, .bipush 6, 2, []), (13, .if_icmp .ge 56, 3, []), (16, .aload_n 0, 1, []), (17, .getfield 21, 3, [4, 0, 0, 149]), (20, .iload_n 2, 1, []), (21, .iload_n 3, 1, []), (22, .invokevirtual 44, 3, [78, 3, 2, 429, 390, 391, 67, 5]), (25, .istore 4, 2, []), (27, .aload_n 0, 1, []), (28, .getfield 9, 3, [4, 1, 0, 150]), (31, .iload_n 2, 1, []), (32, .bipush 6, 2, []), (34, .imul, 1, []), (35, .iload_n 3, 1, []), (36, .iadd, 1, []), (37, .iload 4, 2, []), (39, .ifCond .eq 21, 3, []), (42, .aload_n 0, 1, []), (43, .getfield 21, 3, [4, 0, 0, 149]), (46, .iload_n 2, 1, []), (47, .iload_n 3, 1, []), (48, .iload_n 1, 1, []), (49, .invokevirtual 50, 3, [85, 2, 3, 430, 411, 412, 67, 5]), (52, .bipush 8, 2, []), (54, .imul, 1, []), (55, .iconst 1, 1, []), (56, .iadd, 1, []), (57, .goto 5, 3, []), (60, .ldc 32, 2, [100000000, 431]), (62, .iastore, 1, []), (63, .iinc 3 1, 3, []), (66, .goto (-56), 3, [])]
def mt_53_1 : List (Nat × mx_I) := [(69, .iinc 2 1, 3, []), (72, .goto (-70), 3, []), (75, .return_, 1, [])]
def mt_53 : List (Nat × mx_I) := mt_53_0 ++ (mt_53_1)
def mh_54 : mx_HD := (⟨"MainsLetters$Ways", "measureTo", "(I)V"⟩, prog_8_method_7_code, 4, none, 435)
def mt_54 : List (Nat × mx_I) := [(0, .iconst 0, 1, []), (1, .istore_n 2, 1, []), (2, .iload_n 2, 1, []), (3, .bipush 6, 2, []), (5, .if_icmp .ge 26, 3, []), (8, .aload_n 0, 1, []), (9, .getfield 15, 3, [4, 2, 0, 151]), (12, .iload_n 2, 1, []), (13, .iload_n 2, 1, []), (14, .iload_n 1, 1, []), (15, .if_icmp .ne 7, 3, []), (18, .iconst 0, 1, []), (19, .goto 5, 3, []), (22, .ldc 32, 2, [100000000, 431]), (24, .iastore, 1, []), (25, .iinc 2 1, 3, []), (28, .goto (-26), 3, []), (31, .iconst 1, 1, []), (32, .istore_n 2, 1, []), (33, .iload_n 2, 1, []), (34, .bipush 6, 2, []), (36, .if_icmp .ge 28, 3, []), (39, .iconst 0, 1, []), (40, .istore_n 3, 1, []), (41, .iload_n 3, 1, []), (42, .bipush 6, 2, []), (44, .if_icmp .ge 14, 3, []), (47, .aload_n 0, 1, []), (48, .iload_n 3, 1, []), (49, .invokevirtual 54, 3, [55, 2, 1, 436, 438, 7, 69, 4]), (52, .iinc 3 1, 3, []), (55, .goto (-14), 3, []), (58, .iinc 2 1, 3, []), (61, .goto (-28), 3, []), (64, .return_, 1, [])]
def mh_55 : mx_HD := (⟨"MainsLetters$Ways", "shorten", "(I)V"⟩, prog_8_method_8_code, 3, none, 439)
def mt_55 : List (Nat × mx_I) := [(0, .iconst 0, 1, []), (1, .istore_n 2, 1, []), (2, .iload_n 2, 1, []), (3, .bipush 6, 2, []), (5, .if_icmp .ge 30, 3, []), (8, .aload_n 0, 1, []), (9, .getfield 15, 3, [4, 2, 0, 151]), (12, .iload_n 1, 1, []), (13, .aload_n 0, 1, []), (14, .getfield 15, 3, [4, 2, 0, 151]), (17, .iload_n 1, 1, []), (18, .iaload, 1, []), (19, .aload_n 0, 1, []), (20, .iload_n 1, 1, []), (21, .iload_n 2, 1, []), (22, .invokevirtual 57, 3, [56, 1, 2, 440, 442, 8, 69, 4]), (25, .invokestatic 61, 3, [0, 444, 445, 75, 446]), (28, .iastore, 1, []), (29, .iinc 2 1, 3, []), (32, .goto (-30), 3, []), (35, .return_, 1, [])]
def mh_56 : mx_HD := (⟨"MainsLetters$Ways", "through", "(II)I"⟩, prog_8_method_9_code, 3, (some .int), 443)
def mt_56 : List (Nat × mx_I) := [(0, .aload_n 0, 1, []), (1, .getfield 9, 3, [4, 1, 0, 150]), (4, .iload_n 1, 1, []), (5, .bipush 6, 2, []), (7, .imul, 1, []), (8, .iload_n 2, 1, []), (9, .iadd, 1, []), (10, .iaload, 1, []), (11, .aload_n 0, 1, []), (12, .getfield 15, 3, [4, 2, 0, 151]), (15, .iload_n 2, 1, []), (16, .iaload, 1, []), (17, .iadd, 1, []), (18, .ireturn, 1, [])]
def mh_57 : mx_HD := (⟨"MainsLetters$Ways", "follow", "(II)V"⟩, prog_8_method_10_code, 5, none, 450)
def mt_57 : List (Nat × mx_I) := [(0, .iload_n 1, 1, []), (1, .istore_n 3, 1, []), (2, .iconst 0, 1, []), (3, .istore 4, 2, []), (5, .iload 4, 2, []), (7, .bipush 6, 2, []), (9, .if_icmp .ge 37, 3, []), (12, .aload_n 0, 1, []), (13, .getfield 18, 3, [4, 3, 0, 152]), (16, .iload 4, 2, []), (18, .iload_n 3, 1, []), (19, .iastore, 1, []), (20, .aload_n 0, 1, []), (21, .iload 4, 2, []), (23, .iconst 1, 1, []), (24, .iadd, 1, []), (25, .putfield 41, 3, [4, 4, 0, 0, 153]), (28, .iload_n 3, 1, []), (29, .iload_n 2, 1, []), (30, .if_icmp .ne 4, 3, []), (33, .return_, 1, []), (34, .aload_n 0, 1, []), (35, .iload_n 3, 1, []), (36, .invokevirtual 66, 3, [58, 2, 1, 451, 453, 10, 69, 4]), (39, .istore_n 3, 1, []), (40, .iinc 4 1, 3, []), (43, .goto (-38), 3, []), (46, .return_, 1, [])]
def mh_58 : mx_HD := (⟨"MainsLetters$Ways", "nextOf", "(I)I"⟩, prog_8_method_11_code, 3, (some .int), 454)
def mt_58 : List (Nat × mx_I) := [(0, .iconst 0, 1, []), (1, .istore_n 2, 1, []), (2, .iload_n 2, 1, []), (3, .bipush 6, 2, []), (5, .if_icmp .ge 26, 3, []), (8, .aload_n 0, 1, []), (9, .iload_n 1, 1, []), (10, .iload_n 2, 1, []), (11, .invokevirtual 57, 3, [56, 1, 2, 440, 442, 8, 69, 4]), (14, .aload_n 0, 1, []), (15, .getfield 15, 3, [4, 2, 0, 151]), (18, .iload_n 1, 1, []), (19, .iaload, 1, []), (20, .if_icmp .ne 5, 3, []), (23, .iload_n 2, 1, []), (24, .ireturn, 1, []), (25, .iinc 2 1, 3, []), (28, .goto (-26), 3, []), (31, .iload_n 1, 1, []), (32, .ireturn, 1, [])]
def mh_59 : mx_HD := (⟨"MainsLetters$Wire", "<init>", "()V"⟩, prog_9_method_1_code, 2, none, 90)
def mt_59_0 : List (Nat × mx_I) := [(0, .aload_n 0, 1, []), (1, .invokespecial 3, 3, [91]), (4, .aload_n 0, 1, []), (5, .sipush 288, 3, []), (8, .newarray .int, 2, [0, 142]), (10, .putfield 9, 3, [5, 0, 1, 0, 123]), (13, .aload_n 0, 1, []), (14, .bipush 96, 2, []), (16, .newarray .int, 2, [0, 142]), (18, .putfield 15, 3, [5, 1, 1, 0, 124]), (21, .aload_n 0, 1, []), (22, .bipush 6, 2, []), (24, .newarray .int, 2, [0, 142]), (26, .putfield 18, 3, [5, 2, 1, 0, 125]), (29, .aload_n 0, 1, []), (30, .bipush 72, 2, []), (32, .newarray .int, 2, [0, 142]), (34, .putfield 21, 3, [5, 3, 1, 0, 126]), (37, .aload_n 0, 1, []), (38, .bipush 6, 2, []), (40, .newarray .int, 2, [0, 142]), (42, .putfield 24, 3, [5, 4, 1, 0, 127]), (45, .aload_n 0, 1, []), (46, .iconst 3, 1, []), (47, .putfield 27, 3, [5, 5, 0, 0, 128]), (50, .iconst 0, 1, []), (51, .istore_n 1, 1, []), (52, .iload_n 1, 1, []), (53, .aload_n 0, 1, []), (54, .getfield 9, 3, [5, 0, 0, 123]), (57, .arraylength, 1, []), (58, .if_icmp .ge 17, 3, []), (61, .aload_n 0, 1, []), (62, .getfield 9, 3, [5, 0, 0, 123]), (65, .iload_n 1, 1, []), (66, .bipush 30, 2, []), (68, .iastore, 1, []), (69, .iinc 1 1, 3, []), (72, .goto (-20), 3, []), (75, .iconst 0, 1, [])]
def mt_59_1 : List (Nat × mx_I) := [(76, .istore_n 1, 1, []), (77, .iload_n 1, 1, []), (78, .aload_n 0, 1, []), (79, .getfield 15, 3, [5, 1, 0, 124]), (82, .arraylength, 1, []), (83, .if_icmp .ge 17, 3, []), (86, .aload_n 0, 1, []), (87, .getfield 15, 3, [5, 1, 0, 124]), (90, .iload_n 1, 1, []), (91, .bipush 10, 2, []), (93, .iastore, 1, []), (94, .iinc 1 1, 3, []), (97, .goto (-20), 3, []), (100, .aload_n 0, 1, []), (101, .invokevirtual 31, 3, [66, 5, 0, 92, 94, 0, 67, 5]), (104, .return_, 1, [])]
def mt_59 : List (Nat × mx_I) := mt_59_0 ++ (mt_59_1)
def mh_60 : mx_HD := (⟨"MainsLetters$Wire", "setLoss", "(IIII)I"⟩, prog_9_method_2_code, 7, (some .int), 322)
def mt_60 : List (Nat × mx_I) := [(0, .iload_n 1, 1, []), (1, .iload_n 2, 1, []), (2, .iload_n 3, 1, []), (3, .invokestatic 34, 3, [69, 1, 3, 108, 109, 67]), (6, .istore 5, 2, []), (8, .aload_n 0, 1, []), (9, .getfield 9, 3, [5, 0, 0, 123]), (12, .iload 5, 2, []), (14, .iaload, 1, []), (15, .istore 6, 2, []), (17, .aload_n 0, 1, []), (18, .getfield 9, 3, [5, 0, 0, 123]), (21, .iload 5, 2, []), (23, .iload 4, 2, []), (25, .iastore, 1, []), (26, .aload_n 0, 1, []), (27, .iload_n 1, 1, []), (28, .iload_n 2, 1, []), (29, .invokevirtual 38, 3, [68, 3, 2, 100, 102, 2, 67, 5]), (32, .aload_n 0, 1, []), (33, .iload_n 2, 1, []), (34, .iload_n 1, 1, []), (35, .invokevirtual 38, 3, [68, 3, 2, 100, 102, 2, 67, 5]), (38, .iload 6, 2, []), (40, .ireturn, 1, [])]
def mh_61 : mx_HD := (⟨"MainsLetters$Wire", "setNoise", "(IIII)I"⟩, prog_9_method_3_code, 7, (some .int), 333)
def mt_61 : List (Nat × mx_I) := [(0, .iload_n 1, 1, []), (1, .iload_n 2, 1, []), (2, .iload_n 3, 1, []), (3, .invokestatic 42, 3, [70, 1, 3, 111, 112, 67]), (6, .istore 5, 2, []), (8, .aload_n 0, 1, []), (9, .getfield 15, 3, [5, 1, 0, 124]), (12, .iload 5, 2, []), (14, .iaload, 1, []), (15, .istore 6, 2, []), (17, .aload_n 0, 1, []), (18, .getfield 15, 3, [5, 1, 0, 124]), (21, .iload 5, 2, []), (23, .iload 4, 2, []), (25, .iastore, 1, []), (26, .aload_n 0, 1, []), (27, .iload_n 1, 1, []), (28, .invokevirtual 45, 3, [67, 4, 1, 96, 98, 1, 67, 5]), (31, .iload 6, 2, []), (33, .ireturn, 1, [])]
def mh_62 : mx_HD := (⟨"MainsLetters$Wire", "setMargin", "(I)I"⟩, prog_9_method_4_code, 3, (some .int), 341)
def mt_62 : List (Nat × mx_I) := [(0, .aload_n 0, 1, []), (1, .getfield 27, 3, [5, 5, 0, 128]), (4, .istore_n 2, 1, []), (5, .aload_n 0, 1, []), (6, .iload_n 1, 1, []), (7, .putfield 27, 3, [5, 5, 0, 0, 128]), (10, .aload_n 0, 1, []), (11, .invokevirtual 31, 3, [66, 5, 0, 92, 94, 0, 67, 5]), (14, .iload_n 2, 1, []), (15, .ireturn, 1, [])]
def mh_63 : mx_HD := (⟨"MainsLetters$Wire", "setKey", "(II)I"⟩, prog_9_method_5_code, 4, (some .int), 352)
def mt_63 : List (Nat × mx_I) := [(0, .aload_n 0, 1, []), (1, .getfield 18, 3, [5, 2, 0, 125]), (4, .iload_n 1, 1, []), (5, .iaload, 1, []), (6, .istore_n 3, 1, []), (7, .aload_n 0, 1, []), (8, .getfield 18, 3, [5, 2, 0, 125]), (11, .iload_n 1, 1, []), (12, .iload_n 2, 1, []), (13, .iastore, 1, []), (14, .iload_n 3, 1, []), (15, .ireturn, 1, [])]
def mh_64 : mx_HD := (⟨"MainsLetters$Wire", "keyOf", "(I)I"⟩, prog_9_method_6_code, 2, (some .int), 592)
def mt_64 : List (Nat × mx_I) := [(0, .aload_n 0, 1, []), (1, .getfield 18, 3, [5, 2, 0, 125]), (4, .iload_n 1, 1, []), (5, .iaload, 1, []), (6, .ireturn, 1, [])]
def mh_65 : mx_HD := (⟨"MainsLetters$Wire", "marginNow", "()I"⟩, prog_9_method_7_code, 1, (some .int), 695)
def mt_65 : List (Nat × mx_I) := [(0, .aload_n 0, 1, []), (1, .getfield 27, 3, [5, 5, 0, 128]), (4, .ireturn, 1, [])]
def mh_66 : mx_HD := (⟨"MainsLetters$Wire", "tuneAll", "()V"⟩, prog_9_method_8_code, 2, none, 95)
def mt_66 : List (Nat × mx_I) := [(0, .iconst 0, 1, []), (1, .istore_n 1, 1, []), (2, .iload_n 1, 1, []), (3, .bipush 6, 2, []), (5, .if_icmp .ge 14, 3, []), (8, .aload_n 0, 1, []), (9, .iload_n 1, 1, []), (10, .invokevirtual 45, 3, [67, 4, 1, 96, 98, 1, 67, 5]), (13, .iinc 1 1, 3, []), (16, .goto (-14), 3, []), (19, .return_, 1, [])]
def mh_67 : mx_HD := (⟨"MainsLetters$Wire", "tuneTo", "(I)V"⟩, prog_9_method_9_code, 3, none, 99)
def mt_67 : List (Nat × mx_I) := [(0, .iconst 0, 1, []), (1, .istore_n 2, 1, []), (2, .iload_n 2, 1, []), (3, .bipush 6, 2, []), (5, .if_icmp .ge 20, 3, []), (8, .iload_n 2, 1, []), (9, .iload_n 1, 1, []), (10, .if_icmp .eq 9, 3, []), (13, .aload_n 0, 1, []), (14, .iload_n 2, 1, []), (15, .iload_n 1, 1, []), (16, .invokevirtual 38, 3, [68, 3, 2, 100, 102, 2, 67, 5]), (19, .iinc 2 1, 3, []), (22, .goto (-20), 3, []), (25, .return_, 1, [])]
def mh_68 : mx_HD := (⟨"MainsLetters$Wire", "tune", "(II)V"⟩, prog_9_method_10_code, 7, none, 103)
def mt_68_0 : List (Nat × mx_I) := [(0, .iconst 0, 1, []), (1, .istore_n 3, 1, []), (2, .iconst 0, 1, []), (3, .istore 4, 2, []), (5, .iload 4, 2, []), (7, .iconst 2, 1, []), (8, .if_icmp .ge 70, 3, []), (11, .iconst 0, 1, []), (12, .istore 5, 2, []), (14, .iconst 0, 1, []), (15, .istore 6, 2, []), (17, .iload 6, 2, []), (19, .bipush 8, 2, []), (21, .if_icmp .ge 24, 3, []), (24, .iload 5, 2, []), (26, .aload_n 0, 1, []), (27, .iload_n 1, 1, []), (28, .iload_n 2, 1, []), (29, .iload 6, 2, []), (31, .iload 4, 2, []), (33, .invokevirtual 49, 3, [72, 2, 4, 104, 105, 106, 67, 5]), (36, .iadd, 1, []), (37, .istore 5, 2, []), (39, .iinc 6 1, 3, []), (42, .goto (-25), 3, []), (45, .aload_n 0, 1, []), (46, .getfield 21, 3, [5, 3, 0, 126]), (49, .iload_n 1, 1, []), (50, .iload_n 2, 1, []), (51, .iload 4, 2, []), (53, .invokestatic 53, 3, [71, 1, 3, 117, 118, 67]), (56, .iload 5, 2, []), (58, .iastore, 1, []), (59, .iload_n 3, 1, []), (60, .iload 5, 2, []), (62, .ifCond .le 7, 3, []), (65, .iconst 1, 1, []), (66, .goto 4, 3, []), (69, .iconst 0, 1, []), (70, .ior, 1, [])]
def mt_68_1 : List (Nat × mx_I) := [(71, .istore_n 3, 1, []), (72, .iinc 4 1, 3, []), (75, .goto (-70), 3, []), (78, .aload_n 0, 1, []), (79, .getfield 24, 3, [5, 4, 0, 127]), (82, .iload_n 2, 1, []), (83, .iload_n 3, 1, []), (84, .ifCond .eq 17, 3, []), (87, .aload_n 0, 1, []), (88, .getfield 24, 3, [5, 4, 0, 127]), (91, .iload_n 2, 1, []), (92, .iaload, 1, []), (93, .iload_n 1, 1, []), (94, .invokestatic 56, 3, [46, 1, 1, 120, 121, 68]), (97, .ior, 1, []), (98, .goto 16, 3, []), (101, .aload_n 0, 1, []), (102, .getfield 24, 3, [5, 4, 0, 127]), (105, .iload_n 2, 1, []), (106, .iaload, 1, []), (107, .iload_n 1, 1, []), (108, .invokestatic 56, 3, [46, 1, 1, 120, 121, 68]), (111, .iconst (-1), 1, []), (112, .ixor, 1, []), (113, .iand, 1, []), (114, .iastore, 1, []), (115, .return_, 1, [])]
def mt_68 : List (Nat × mx_I) := mt_68_0 ++ (mt_68_1)
def mh_69 : mx_HD := (⟨"MainsLetters$Wire", "lossAt", "(III)I"⟩, prog_9_method_11_code, 4, (some .int), 110)
def mt_69 : List (Nat × mx_I) := [(0, .iload_n 0, 1, []), (1, .iload_n 1, 1, []), (2, .if_icmp .ge 12, 3, []), (5, .iload_n 0, 1, []), (6, .bipush 6, 2, []), (8, .imul, 1, []), (9, .iload_n 1, 1, []), (10, .iadd, 1, []), (11, .goto 9, 3, []), (14, .iload_n 1, 1, []), (15, .bipush 6, 2, []), (17, .imul, 1, []), (18, .iload_n 0, 1, []), (19, .iadd, 1, []), (20, .istore_n 3, 1, []), (21, .iload_n 3, 1, []), (22, .bipush 8, 2, []), (24, .imul, 1, []), (25, .iload_n 2, 1, []), (26, .iadd, 1, []), (27, .ireturn, 1, [])]
def mh_70 : mx_HD := (⟨"MainsLetters$Wire", "noiseAt", "(III)I"⟩, prog_9_method_12_code, 3, (some .int), 113)
def mt_70 : List (Nat × mx_I) := [(0, .iload_n 0, 1, []), (1, .bipush 8, 2, []), (3, .imul, 1, []), (4, .iload_n 1, 1, []), (5, .iadd, 1, []), (6, .iconst 2, 1, []), (7, .imul, 1, []), (8, .iload_n 2, 1, []), (9, .iadd, 1, []), (10, .ireturn, 1, [])]
def mh_71 : mx_HD := (⟨"MainsLetters$Wire", "speedAt", "(III)I"⟩, prog_9_method_13_code, 3, (some .int), 119)
def mt_71 : List (Nat × mx_I) := [(0, .iload_n 0, 1, []), (1, .bipush 6, 2, []), (3, .imul, 1, []), (4, .iload_n 1, 1, []), (5, .iadd, 1, []), (6, .iconst 2, 1, []), (7, .imul, 1, []), (8, .iload_n 2, 1, []), (9, .iadd, 1, []), (10, .ireturn, 1, [])]
def mh_72 : mx_HD := (⟨"MainsLetters$Wire", "bitsFrom", "(IIII)I"⟩, prog_9_method_14_code, 6, (some .int), 107)
def mt_72 : List (Nat × mx_I) := [(0, .bipush 60, 2, []), (2, .aload_n 0, 1, []), (3, .getfield 9, 3, [5, 0, 0, 123]), (6, .iload_n 1, 1, []), (7, .iload_n 2, 1, []), (8, .iload_n 3, 1, []), (9, .invokestatic 34, 3, [69, 1, 3, 108, 109, 67]), (12, .iaload, 1, []), (13, .isub, 1, []), (14, .aload_n 0, 1, []), (15, .getfield 15, 3, [5, 1, 0, 124]), (18, .iload_n 2, 1, []), (19, .iload_n 3, 1, []), (20, .iload 4, 2, []), (22, .invokestatic 42, 3, [70, 1, 3, 111, 112, 67]), (25, .iaload, 1, []), (26, .isub, 1, []), (27, .istore 5, 2, []), (29, .iload 5, 2, []), (31, .aload_n 0, 1, []), (32, .getfield 27, 3, [5, 5, 0, 128]), (35, .isub, 1, []), (36, .invokestatic 62, 3, [73, 1, 1, 114, 115, 67]), (39, .ireturn, 1, [])]
def mh_73 : mx_HD := (⟨"MainsLetters$Wire", "bitsAt", "(I)I"⟩, prog_9_method_15_code, 1, (some .int), 116)
def mt_73 : List (Nat × mx_I) := [(0, .iload_n 0, 1, []), (1, .iconst 4, 1, []), (2, .if_icmp .ge 5, 3, []), (5, .iconst 0, 1, []), (6, .ireturn, 1, []), (7, .iload_n 0, 1, []), (8, .bipush 7, 2, []), (10, .if_icmp .ge 5, 3, []), (13, .iconst 1, 1, []), (14, .ireturn, 1, []), (15, .iload_n 0, 1, []), (16, .bipush 11, 2, []), (18, .if_icmp .ge 5, 3, []), (21, .iconst 2, 1, []), (22, .ireturn, 1, []), (23, .iload_n 0, 1, []), (24, .bipush 14, 2, []), (26, .if_icmp .ge 5, 3, []), (29, .iconst 3, 1, []), (30, .ireturn, 1, []), (31, .iload_n 0, 1, []), (32, .bipush 20, 2, []), (34, .if_icmp .ge 5, 3, []), (37, .iconst 4, 1, []), (38, .ireturn, 1, []), (39, .iload_n 0, 1, []), (40, .bipush 26, 2, []), (42, .if_icmp .ge 6, 3, []), (45, .bipush 6, 2, []), (47, .ireturn, 1, []), (48, .iload_n 0, 1, []), (49, .bipush 32, 2, []), (51, .if_icmp .ge 6, 3, []), (54, .bipush 8, 2, []), (56, .ireturn, 1, []), (57, .bipush 10, 2, []), (59, .ireturn, 1, [])]
def mh_74 : mx_HD := (⟨"MainsLetters$Wire", "speedFrom", "(III)I"⟩, prog_9_method_16_code, 4, (some .int), 365)
def mt_74 : List (Nat × mx_I) := [(0, .aload_n 0, 1, []), (1, .getfield 21, 3, [5, 3, 0, 126]), (4, .iload_n 1, 1, []), (5, .iload_n 2, 1, []), (6, .iload_n 3, 1, []), (7, .invokestatic 53, 3, [71, 1, 3, 117, 118, 67]), (10, .iaload, 1, []), (11, .ireturn, 1, [])]
def mh_75 : mx_HD := (⟨"MainsLetters$Wire", "heardBy", "(I)I"⟩, prog_9_method_17_code, 2, (some .int), 373)
def mt_75 : List (Nat × mx_I) := [(0, .aload_n 0, 1, []), (1, .getfield 24, 3, [5, 4, 0, 127]), (4, .iload_n 1, 1, []), (5, .iaload, 1, []), (6, .ireturn, 1, [])]
def mh_76 : mx_HD := (⟨"MainsLetters$Wire", "hears", "(II)Z"⟩, prog_9_method_18_code, 3, (some .boolean), 381)
def mt_76 : List (Nat × mx_I) := [(0, .aload_n 0, 1, []), (1, .getfield 24, 3, [5, 4, 0, 127]), (4, .iload_n 1, 1, []), (5, .iaload, 1, []), (6, .iload_n 2, 1, []), (7, .invokestatic 65, 3, [45, 1, 2, 382, 383, 68]), (10, .ireturn, 1, [])]
def mh_77 : mx_HD := (⟨"MainsLetters$Wire", "hearersOf", "(I)I"⟩, prog_9_method_19_code, 4, (some .int), 377)
def mt_77 : List (Nat × mx_I) := [(0, .iconst 0, 1, []), (1, .istore_n 2, 1, []), (2, .iconst 0, 1, []), (3, .istore_n 3, 1, []), (4, .iload_n 3, 1, []), (5, .bipush 6, 2, []), (7, .if_icmp .ge 25, 3, []), (10, .aload_n 0, 1, []), (11, .iload_n 3, 1, []), (12, .iload_n 1, 1, []), (13, .invokevirtual 69, 3, [76, 2, 2, 378, 379, 380, 67, 5]), (16, .ifCond .eq 10, 3, []), (19, .iload_n 2, 1, []), (20, .iload_n 3, 1, []), (21, .invokestatic 56, 3, [46, 1, 1, 120, 121, 68]), (24, .ior, 1, []), (25, .istore_n 2, 1, []), (26, .iinc 3 1, 3, []), (29, .goto (-25), 3, []), (32, .iload_n 2, 1, []), (33, .ireturn, 1, [])]
def mh_78 : mx_HD := (⟨"MainsLetters$Wire", "reaches", "(II)Z"⟩, prog_9_method_20_code, 3, (some .boolean), 392)
def mt_78 : List (Nat × mx_I) := [(0, .iload_n 1, 1, []), (1, .iload_n 2, 1, []), (2, .if_icmp .eq 31, 3, []), (5, .aload_n 0, 1, []), (6, .getfield 18, 3, [5, 2, 0, 125]), (9, .iload_n 1, 1, []), (10, .iaload, 1, []), (11, .aload_n 0, 1, []), (12, .getfield 18, 3, [5, 2, 0, 125]), (15, .iload_n 2, 1, []), (16, .iaload, 1, []), (17, .if_icmp .ne 16, 3, []), (20, .aload_n 0, 1, []), (21, .iload_n 2, 1, []), (22, .iload_n 1, 1, []), (23, .invokevirtual 69, 3, [76, 2, 2, 378, 379, 380, 67, 5]), (26, .ifCond .eq 7, 3, []), (29, .iconst 1, 1, []), (30, .goto 4, 3, []), (33, .iconst 0, 1, []), (34, .ireturn, 1, [])]
def mh_79 : mx_HD := (⟨"MainsLetters$Wire", "reachedBy", "(I)I"⟩, prog_9_method_21_code, 4, (some .int), 388)
def mt_79 : List (Nat × mx_I) := [(0, .iconst 0, 1, []), (1, .istore_n 2, 1, []), (2, .iconst 0, 1, []), (3, .istore_n 3, 1, []), (4, .iload_n 3, 1, []), (5, .bipush 6, 2, []), (7, .if_icmp .ge 25, 3, []), (10, .aload_n 0, 1, []), (11, .iload_n 1, 1, []), (12, .iload_n 3, 1, []), (13, .invokevirtual 72, 3, [78, 3, 2, 389, 390, 391, 67, 5]), (16, .ifCond .eq 10, 3, []), (19, .iload_n 2, 1, []), (20, .iload_n 3, 1, []), (21, .invokestatic 56, 3, [46, 1, 1, 120, 121, 68]), (24, .ior, 1, []), (25, .istore_n 2, 1, []), (26, .iinc 3 1, 3, []), (29, .goto (-25), 3, []), (32, .iload_n 2, 1, []), (33, .ireturn, 1, [])]
def mh_80 : mx_HD := (⟨"MainsLetters$Wire", "hiddenFrom", "(I)I"⟩, prog_9_method_22_code, 4, (some .int), 396)
def mt_80 : List (Nat × mx_I) := [(0, .iconst 0, 1, []), (1, .istore_n 2, 1, []), (2, .iconst 0, 1, []), (3, .istore_n 3, 1, []), (4, .iload_n 3, 1, []), (5, .bipush 6, 2, []), (7, .if_icmp .ge 25, 3, []), (10, .aload_n 0, 1, []), (11, .iload_n 1, 1, []), (12, .iload_n 3, 1, []), (13, .invokevirtual 75, 3, [81, 4, 2, 397, 399, 3, 67, 5]), (16, .ifCond .eq 10, 3, []), (19, .iload_n 2, 1, []), (20, .iload_n 3, 1, []), (21, .invokestatic 56, 3, [46, 1, 1, 120, 121, 68]), (24, .ior, 1, []), (25, .istore_n 2, 1, []), (26, .iinc 3 1, 3, []), (29, .goto (-25), 3, []), (32, .iload_n 2, 1, []), (33, .ireturn, 1, [])]
def mh_81 : mx_HD := (⟨"MainsLetters$Wire", "areHidden", "(II)Z"⟩, prog_9_method_23_code, 3, (some .boolean), 400)
def mt_81 : List (Nat × mx_I) := [(0, .iload_n 1, 1, []), (1, .iload_n 2, 1, []), (2, .if_icmp .eq 34, 3, []), (5, .aload_n 0, 1, []), (6, .iload_n 1, 1, []), (7, .iload_n 2, 1, []), (8, .invokevirtual 69, 3, [76, 2, 2, 378, 379, 380, 67, 5]), (11, .ifCond .ne 25, 3, []), (14, .aload_n 0, 1, []), (15, .iload_n 2, 1, []), (16, .iload_n 1, 1, []), (17, .invokevirtual 69, 3, [76, 2, 2, 378, 379, 380, 67, 5]), (20, .ifCond .ne 16, 3, []), (23, .aload_n 0, 1, []), (24, .iload_n 1, 1, []), (25, .iload_n 2, 1, []), (26, .invokevirtual 78, 3, [82, 3, 2, 401, 403, 4, 67, 5]), (29, .ifCond .eq 7, 3, []), (32, .iconst 1, 1, []), (33, .goto 4, 3, []), (36, .iconst 0, 1, []), (37, .ireturn, 1, [])]
def mh_82 : mx_HD := (⟨"MainsLetters$Wire", "someHearsBoth", "(II)Z"⟩, prog_9_method_24_code, 4, (some .boolean), 404)
def mt_82 : List (Nat × mx_I) := [(0, .iconst 0, 1, []), (1, .istore_n 3, 1, []), (2, .iload_n 3, 1, []), (3, .bipush 6, 2, []), (5, .if_icmp .ge 29, 3, []), (8, .aload_n 0, 1, []), (9, .iload_n 3, 1, []), (10, .iload_n 1, 1, []), (11, .invokevirtual 69, 3, [76, 2, 2, 378, 379, 380, 67, 5]), (14, .ifCond .eq 14, 3, []), (17, .aload_n 0, 1, []), (18, .iload_n 3, 1, []), (19, .iload_n 2, 1, []), (20, .invokevirtual 69, 3, [76, 2, 2, 378, 379, 380, 67, 5]), (23, .ifCond .eq 5, 3, []), (26, .iconst 1, 1, []), (27, .ireturn, 1, []), (28, .iinc 3 1, 3, []), (31, .goto (-29), 3, []), (34, .iconst 0, 1, []), (35, .ireturn, 1, [])]
def mh_83 : mx_HD := (⟨"MainsLetters$Wire", "hiddenTwos", "()I"⟩, prog_9_method_25_code, 3, (some .int), 699)
def mt_83 : List (Nat × mx_I) := [(0, .iconst 0, 1, []), (1, .istore_n 1, 1, []), (2, .iconst 0, 1, []), (3, .istore_n 2, 1, []), (4, .iload_n 2, 1, []), (5, .bipush 6, 2, []), (7, .if_icmp .ge 20, 3, []), (10, .iload_n 1, 1, []), (11, .aload_n 0, 1, []), (12, .iload_n 2, 1, []), (13, .invokevirtual 81, 3, [80, 5, 1, 700, 394, 395, 67, 5]), (16, .invokestatic 84, 3, [175, 1, 1, 701, 630, 77]), (19, .iadd, 1, []), (20, .istore_n 1, 1, []), (21, .iinc 2 1, 3, []), (24, .goto (-20), 3, []), (27, .iload_n 1, 1, []), (28, .iconst 2, 1, []), (29, .idiv, 1, []), (30, .ireturn, 1, [])]
def mh_84 : mx_HD := (⟨"MainsLetters$Wire", "unheard", "()I"⟩, prog_9_method_26_code, 3, (some .int), 710)
def mt_84 : List (Nat × mx_I) := [(0, .iconst 0, 1, []), (1, .istore_n 1, 1, []), (2, .iconst 0, 1, []), (3, .istore_n 2, 1, []), (4, .iload_n 2, 1, []), (5, .bipush 6, 2, []), (7, .if_icmp .ge 18, 3, []), (10, .iload_n 1, 1, []), (11, .aload_n 0, 1, []), (12, .getfield 24, 3, [5, 4, 0, 127]), (15, .iload_n 2, 1, []), (16, .iaload, 1, []), (17, .ior, 1, []), (18, .istore_n 1, 1, []), (19, .iinc 2 1, 3, []), (22, .goto (-18), 3, []), (25, .bipush 6, 2, []), (27, .iload_n 1, 1, []), (28, .invokestatic 84, 3, [175, 1, 1, 701, 630, 77]), (31, .isub, 1, []), (32, .ireturn, 1, [])]
def mh_85 : mx_HD := (⟨"MainsLetters$Wire", "symbolsFor", "(III)I"⟩, prog_9_method_27_code, 11, (some .int), 413)
def mt_85_0 : List (Nat × mx_I) := [(0, .aload_n 0, 1, []), (1, .getfield 21, 3, [5, 3, 0, 126]), (4, .iload_n 1, 1, []), (5, .iload_n 2, 1, []), (6, .iconst 0, 1, []), (7, .invokestatic 53, 3, [71, 1, 3, 117, 118, 67]), (10, .iaload, 1, []), (11, .istore 4, 2, []), (13, .aload_n 0, 1, []), (14, .getfield 21, 3, [5, 3, 0, 126]), (17, .iload_n 1, 1, []), (18, .iload_n 2, 1, []), (19, .iconst 1, 1, []), (20, .invokestatic 53, 3, [71, 1, 3, 117, 118, 67]), (23, .iaload, 1, []), (24, .istore 5, 2, []), (26, .bipush 10, 2, []), (28, .iload 4, 2, []), (30, .iload 5, 2, []), (32, .iadd, 1, []), (33, .imul, 1, []), (34, .istore 6, 2, []), (36, .iload 6, 2, []), (38, .ifCond .gt 6, 3, []), (41, .bipush (-9), 2, []), (43, .ireturn, 1, []), (44, .bipush 8, 2, []), (46, .iload_n 3, 1, []), (47, .imul, 1, []), (48, .iconst 1, 1, []), (49, .isub, 1, []), (50, .iload 6, 2, []), (52, .idiv, 1, []), (53, .istore 7, 2, []), (55, .bipush 8, 2, []), (57, .iload_n 3, 1, []), (58, .imul, 1, []), (59, .iload 7, 2, []), (61, .iload 6, 2, []), (63, .imul, 1, [])]
def mt_85_1 : List (Nat × mx_I) := [(64, .isub, 1, []), (65, .istore 8, 2, []), (67, .iload 7, 2, []), (69, .iconst 2, 1, []), (70, .imul, 1, []), (71, .bipush 10, 2, []), (73, .imul, 1, []), (74, .istore 9, 2, []), (76, .bipush 10, 2, []), (78, .iload 4, 2, []), (80, .imul, 1, []), (81, .istore 10, 2, []), (83, .iload 8, 2, []), (85, .iload 10, 2, []), (87, .if_icmp .gt 14, 3, []), (90, .iload 9, 2, []), (92, .iload 8, 2, []), (94, .iload 4, 2, []), (96, .invokestatic 89, 3, [86, 1, 2, 414, 415, 67]), (99, .iadd, 1, []), (100, .ireturn, 1, []), (101, .iload 9, 2, []), (103, .bipush 10, 2, []), (105, .iadd, 1, []), (106, .iload 8, 2, []), (108, .iload 10, 2, []), (110, .isub, 1, []), (111, .iload 5, 2, []), (113, .invokestatic 89, 3, [86, 1, 2, 414, 415, 67]), (116, .iadd, 1, []), (117, .ireturn, 1, [])]
def mt_85 : List (Nat × mx_I) := mt_85_0 ++ (mt_85_1)
def mh_86 : mx_HD := (⟨"MainsLetters$Wire", "quotientUp", "(II)I"⟩, prog_9_method_28_code, 2, (some .int), 416)
def mt_86 : List (Nat × mx_I) := [(0, .iload_n 1, 1, []), (1, .ifCond .le 13, 3, []), (4, .iload_n 0, 1, []), (5, .iload_n 1, 1, []), (6, .iadd, 1, []), (7, .iconst 1, 1, []), (8, .isub, 1, []), (9, .iload_n 1, 1, []), (10, .idiv, 1, []), (11, .goto 4, 3, []), (14, .iconst 0, 1, []), (15, .ireturn, 1, [])]
def mh_87 : mx_HD := (⟨"MainsLetters", "<init>", "()V"⟩, prog_1_method_1_code, 1, none, 82)
def mt_87 : List (Nat × mx_I) := [(0, .aload_n 0, 1, []), (1, .invokespecial 1, 3, [83]), (4, .aload_n 0, 1, []), (5, .new 7, 3, [5, 86, 87, 67]), (8, .dup, 1, []), (9, .invokespecial 9, 3, [59, 6, 0, 88, 89, 67, 0]), (12, .putfield 10, 3, [6, 0, 1, 0, 287]), (15, .aload_n 0, 1, []), (16, .new 16, 3, [4, 143, 144, 69]), (19, .dup, 1, []), (20, .aload_n 0, 1, []), (21, .getfield 10, 3, [6, 0, 0, 287]), (24, .invokespecial 18, 3, [48, 1, 1, 145, 146, 69, 0]), (27, .putfield 21, 3, [6, 1, 1, 0, 288]), (30, .aload_n 0, 1, []), (31, .new 25, 3, [0, 168, 169, 70]), (34, .dup, 1, []), (35, .aload_n 0, 1, []), (36, .getfield 10, 3, [6, 0, 0, 287]), (39, .invokespecial 27, 3, [0, 2, 1, 170, 171, 70, 0]), (42, .putfield 28, 3, [6, 2, 1, 0, 289]), (45, .aload_n 0, 1, []), (46, .new 32, 3, [1, 240, 241, 72]), (49, .dup, 1, []), (50, .invokespecial 34, 3, [26, 1, 0, 242, 243, 72, 1]), (53, .putfield 35, 3, [6, 3, 1, 0, 290]), (56, .aload_n 0, 1, []), (57, .new 39, 3, [2, 271, 272, 73]), (60, .dup, 1, []), (61, .aload_n 0, 1, []), (62, .getfield 10, 3, [6, 0, 0, 287]), (65, .invokespecial 41, 3, [34, 1, 1, 273, 274, 73, 0]), (68, .putfield 42, 3, [6, 4, 1, 0, 291]), (71, .return_, 1, [])]
def mh_88 : mx_HD := (⟨"MainsLetters", "loss", "(IIII)I"⟩, prog_1_method_2_code, 5, (some .int), 306)
def mt_88 : List (Nat × mx_I) := [(0, .iload_n 1, 1, []), (1, .iload_n 2, 1, []), (2, .invokestatic 46, 3, [108, 3, 2, 307, 308, 66]), (5, .ifCond .eq 10, 3, []), (8, .iload_n 3, 1, []), (9, .invokestatic 50, 3, [109, 2, 1, 316, 317, 66]), (12, .ifCond .ne 5, 3, []), (15, .iconst (-1), 1, []), (16, .ireturn, 1, []), (17, .iload 4, 2, []), (19, .iconst 0, 1, []), (20, .bipush 60, 2, []), (22, .invokestatic 54, 3, [106, 1, 3, 313, 314, 66]), (25, .ifCond .ne 6, 3, []), (28, .bipush (-2), 2, []), (30, .ireturn, 1, []), (31, .aload_n 0, 1, []), (32, .getfield 10, 3, [6, 0, 0, 287]), (35, .iload_n 1, 1, []), (36, .iload_n 2, 1, []), (37, .iload_n 3, 1, []), (38, .iload 4, 2, []), (40, .invokevirtual 58, 3, [60, 4, 4, 319, 320, 321, 67, 5]), (43, .ireturn, 1, [])]
def mh_89 : mx_HD := (⟨"MainsLetters", "noise", "(IIII)I"⟩, prog_1_method_3_code, 5, (some .int), 326)
def mt_89 : List (Nat × mx_I) := [(0, .iload_n 1, 1, []), (1, .invokestatic 62, 3, [107, 2, 1, 310, 311, 66]), (4, .ifCond .eq 17, 3, []), (7, .iload_n 2, 1, []), (8, .invokestatic 50, 3, [109, 2, 1, 316, 317, 66]), (11, .ifCond .eq 10, 3, []), (14, .iload_n 3, 1, []), (15, .invokestatic 65, 3, [110, 2, 1, 327, 328, 66]), (18, .ifCond .ne 5, 3, []), (21, .iconst (-1), 1, []), (22, .ireturn, 1, []), (23, .iload 4, 2, []), (25, .iconst 0, 1, []), (26, .bipush 60, 2, []), (28, .invokestatic 54, 3, [106, 1, 3, 313, 314, 66]), (31, .ifCond .ne 6, 3, []), (34, .bipush (-2), 2, []), (36, .ireturn, 1, []), (37, .aload_n 0, 1, []), (38, .getfield 10, 3, [6, 0, 0, 287]), (41, .iload_n 1, 1, []), (42, .iload_n 2, 1, []), (43, .iload_n 3, 1, []), (44, .iload 4, 2, []), (46, .invokevirtual 68, 3, [61, 5, 4, 330, 331, 332, 67, 5]), (49, .ireturn, 1, [])]
def mh_90 : mx_HD := (⟨"MainsLetters", "margin", "(I)I"⟩, prog_1_method_4_code, 2, (some .int), 337)
def mt_90 : List (Nat × mx_I) := [(0, .iload_n 1, 1, []), (1, .iconst 0, 1, []), (2, .bipush 12, 2, []), (4, .invokestatic 54, 3, [106, 1, 3, 313, 314, 66]), (7, .ifCond .ne 6, 3, []), (10, .bipush (-2), 2, []), (12, .ireturn, 1, []), (13, .aload_n 0, 1, []), (14, .getfield 10, 3, [6, 0, 0, 287]), (17, .iload_n 1, 1, []), (18, .invokevirtual 71, 3, [62, 6, 1, 338, 339, 340, 67, 5]), (21, .ireturn, 1, [])]
def mh_91 : mx_HD := (⟨"MainsLetters", "key", "(II)I"⟩, prog_1_method_5_code, 3, (some .int), 345)
def mt_91 : List (Nat × mx_I) := [(0, .iload_n 1, 1, []), (1, .invokestatic 62, 3, [107, 2, 1, 310, 311, 66]), (4, .ifCond .ne 5, 3, []), (7, .iconst (-1), 1, []), (8, .ireturn, 1, []), (9, .iload_n 2, 1, []), (10, .invokestatic 75, 3, [111, 2, 1, 346, 347, 66]), (13, .ifCond .ne 6, 3, []), (16, .bipush (-2), 2, []), (18, .ireturn, 1, []), (19, .aload_n 0, 1, []), (20, .getfield 10, 3, [6, 0, 0, 287]), (23, .iload_n 1, 1, []), (24, .iload_n 2, 1, []), (25, .invokevirtual 78, 3, [63, 1, 2, 349, 350, 351, 67, 5]), (28, .ireturn, 1, [])]
def mh_92 : mx_HD := (⟨"MainsLetters", "bits", "(IIII)I"⟩, prog_1_method_6_code, 5, (some .int), 356)
def mt_92 : List (Nat × mx_I) := [(0, .iload_n 1, 1, []), (1, .iload_n 2, 1, []), (2, .invokestatic 46, 3, [108, 3, 2, 307, 308, 66]), (5, .ifCond .eq 18, 3, []), (8, .iload_n 3, 1, []), (9, .invokestatic 50, 3, [109, 2, 1, 316, 317, 66]), (12, .ifCond .eq 11, 3, []), (15, .iload 4, 2, []), (17, .invokestatic 65, 3, [110, 2, 1, 327, 328, 66]), (20, .ifCond .ne 5, 3, []), (23, .iconst (-1), 1, []), (24, .ireturn, 1, []), (25, .aload_n 0, 1, []), (26, .getfield 10, 3, [6, 0, 0, 287]), (29, .iload_n 1, 1, []), (30, .iload_n 2, 1, []), (31, .iload_n 3, 1, []), (32, .iload 4, 2, []), (34, .invokevirtual 82, 3, [72, 2, 4, 357, 105, 106, 67, 5]), (37, .ireturn, 1, [])]
def mh_93 : mx_HD := (⟨"MainsLetters", "speed", "(III)I"⟩, prog_1_method_7_code, 4, (some .int), 361)
def mt_93 : List (Nat × mx_I) := [(0, .iload_n 1, 1, []), (1, .iload_n 2, 1, []), (2, .invokestatic 46, 3, [108, 3, 2, 307, 308, 66]), (5, .ifCond .eq 10, 3, []), (8, .iload_n 3, 1, []), (9, .invokestatic 65, 3, [110, 2, 1, 327, 328, 66]), (12, .ifCond .ne 5, 3, []), (15, .iconst (-1), 1, []), (16, .ireturn, 1, []), (17, .aload_n 0, 1, []), (18, .getfield 10, 3, [6, 0, 0, 287]), (21, .iload_n 1, 1, []), (22, .iload_n 2, 1, []), (23, .iload_n 3, 1, []), (24, .invokevirtual 85, 3, [74, 2, 3, 362, 363, 364, 67, 5]), (27, .ireturn, 1, [])]
def mh_94 : mx_HD := (⟨"MainsLetters", "who", "(II)I"⟩, prog_1_method_8_code, 3, (some .int), 369)
def mt_94 : List (Nat × mx_I) := [(0, .iload_n 1, 1, []), (1, .invokestatic 62, 3, [107, 2, 1, 310, 311, 66]), (4, .ifCond .ne 5, 3, []), (7, .iconst (-1), 1, []), (8, .ireturn, 1, []), (9, .iload_n 2, 1, []), (10, .tableswitch 66 0 3 #[30, 39, 48, 57], 30, []), (40, .aload_n 0, 1, []), (41, .getfield 10, 3, [6, 0, 0, 287]), (44, .iload_n 1, 1, []), (45, .invokevirtual 89, 3, [75, 1, 1, 370, 371, 372, 67, 5]), (48, .ireturn, 1, []), (49, .aload_n 0, 1, []), (50, .getfield 10, 3, [6, 0, 0, 287]), (53, .iload_n 1, 1, []), (54, .invokevirtual 92, 3, [77, 3, 1, 374, 375, 376, 67, 5]), (57, .ireturn, 1, []), (58, .aload_n 0, 1, []), (59, .getfield 10, 3, [6, 0, 0, 287]), (62, .iload_n 1, 1, []), (63, .invokevirtual 95, 3, [79, 4, 1, 385, 386, 387, 67, 5]), (66, .ireturn, 1, []), (67, .aload_n 0, 1, []), (68, .getfield 10, 3, [6, 0, 0, 287]), (71, .iload_n 1, 1, []), (72, .invokevirtual 98, 3, [80, 5, 1, 393, 394, 395, 67, 5]), (75, .ireturn, 1, []), (76, .bipush (-2), 2, []), (78, .ireturn, 1, [])]
def mh_95 : mx_HD := (⟨"MainsLetters", "lasts", "(III)I"⟩, prog_1_method_9_code, 4, (some .int), 408)
def mt_95 : List (Nat × mx_I) := [(0, .iload_n 1, 1, []), (1, .invokestatic 62, 3, [107, 2, 1, 310, 311, 66]), (4, .ifCond .eq 10, 3, []), (7, .iload_n 2, 1, []), (8, .invokestatic 62, 3, [107, 2, 1, 310, 311, 66]), (11, .ifCond .ne 5, 3, []), (14, .iconst (-1), 1, []), (15, .ireturn, 1, []), (16, .iload_n 3, 1, []), (17, .iconst 1, 1, []), (18, .sipush 2000, 3, []), (21, .invokestatic 54, 3, [106, 1, 3, 313, 314, 66]), (24, .ifCond .ne 6, 3, []), (27, .bipush (-2), 2, []), (29, .ireturn, 1, []), (30, .aload_n 0, 1, []), (31, .getfield 10, 3, [6, 0, 0, 287]), (34, .iload_n 1, 1, []), (35, .iload_n 2, 1, []), (36, .invokevirtual 101, 3, [78, 3, 2, 409, 390, 391, 67, 5]), (39, .ifCond .ne 6, 3, []), (42, .bipush (-9), 2, []), (44, .ireturn, 1, []), (45, .aload_n 0, 1, []), (46, .getfield 10, 3, [6, 0, 0, 287]), (49, .iload_n 1, 1, []), (50, .iload_n 2, 1, []), (51, .iload_n 3, 1, []), (52, .invokevirtual 104, 3, [85, 2, 3, 410, 411, 412, 67, 5]), (55, .ireturn, 1, [])]
def mh_96 : mx_HD := (⟨"MainsLetters", "way", "(IIII)I"⟩, prog_1_method_10_code, 5, (some .int), 420)
def mt_96_0 : List (Nat × mx_I) := [(0, .iload_n 1, 1, []), (1, .iload_n 2, 1, []), (2, .invokestatic 46, 3, [108, 3, 2, 307, 308, 66]), (5, .ifCond .ne 5, 3, []), (8, .iconst (-1), 1, []), (9, .ireturn, 1, []), (10, .iload_n 3, 1, []), (11, .iconst 1, 1, []), (12, .sipush 2000, 3, []), (15, .invokestatic 54, 3, [106, 1, 3, 313, 314, 66]), (18, .ifCond .eq 14, 3, []), (21, .iload 4, 2, []), (23, .bipush (-2), 2, []), (25, .iconst 5, 1, []), (26, .invokestatic 54, 3, [106, 1, 3, 313, 314, 66]), (29, .ifCond .ne 6, 3, []), (32, .bipush (-2), 2, []), (34, .ireturn, 1, []), (35, .aload_n 0, 1, []), (36, .getfield 21, 3, [6, 1, 0, 288]), (39, .iload_n 1, 1, []), (40, .iload_n 2, 1, []), (41, .iload_n 3, 1, []), (42, .invokevirtual 107, 3, [49, 5, 3, 421, 422, 423, 69, 4]), (45, .ifCond .ne 6, 3, []), (48, .bipush (-9), 2, []), (50, .ireturn, 1, []), (51, .iload 4, 2, []), (53, .bipush (-2), 2, []), (55, .if_icmp .ne 11, 3, []), (58, .aload_n 0, 1, []), (59, .getfield 21, 3, [6, 1, 0, 288]), (62, .invokevirtual 110, 3, [50, 1, 0, 455, 456, 457, 69, 4]), (65, .ireturn, 1, []), (66, .iload 4, 2, []), (68, .iconst (-1), 1, []), (69, .if_icmp .ne 11, 3, []), (72, .aload_n 0, 1, []), (73, .getfield 21, 3, [6, 1, 0, 288]), (76, .invokevirtual 114, 3, [51, 1, 0, 459, 460, 461, 69, 4])]
def mt_96_1 : List (Nat × mx_I) := [(79, .ireturn, 1, []), (80, .aload_n 0, 1, []), (81, .getfield 21, 3, [6, 1, 0, 288]), (84, .iload 4, 2, []), (86, .invokevirtual 117, 3, [52, 1, 1, 463, 464, 465, 69, 4]), (89, .ireturn, 1, [])]
def mt_96 : List (Nat × mx_I) := mt_96_0 ++ (mt_96_1)
def mh_97 : mx_HD := (⟨"MainsLetters", "seed", "(I)I"⟩, prog_1_method_11_code, 2, (some .int), 470)
def mt_97 : List (Nat × mx_I) := [(0, .aload_n 0, 1, []), (1, .getfield 28, 3, [6, 2, 0, 289]), (4, .iload_n 1, 1, []), (5, .invokevirtual 120, 3, [1, 1, 1, 471, 472, 473, 70, 0]), (8, .ireturn, 1, [])]
def mh_98 : mx_HD := (⟨"MainsLetters", "write", "(IIII)I"⟩, prog_1_method_12_code, 5, (some .int), 478)
def mt_98 : List (Nat × mx_I) := [(0, .iload_n 1, 1, []), (1, .iload_n 2, 1, []), (2, .invokestatic 46, 3, [108, 3, 2, 307, 308, 66]), (5, .ifCond .ne 5, 3, []), (8, .iconst (-1), 1, []), (9, .ireturn, 1, []), (10, .iload_n 3, 1, []), (11, .iconst 0, 1, []), (12, .iconst 3, 1, []), (13, .invokestatic 54, 3, [106, 1, 3, 313, 314, 66]), (16, .ifCond .eq 15, 3, []), (19, .iload 4, 2, []), (21, .iconst 1, 1, []), (22, .sipush 400, 3, []), (25, .invokestatic 54, 3, [106, 1, 3, 313, 314, 66]), (28, .ifCond .ne 6, 3, []), (31, .bipush (-2), 2, []), (33, .ireturn, 1, []), (34, .aload_n 0, 1, []), (35, .getfield 28, 3, [6, 2, 0, 289]), (38, .iload_n 1, 1, []), (39, .invokevirtual 123, 3, [2, 1, 1, 479, 480, 481, 70, 0]), (42, .ifCond .ne 15, 3, []), (45, .aload_n 0, 1, []), (46, .getfield 10, 3, [6, 0, 0, 287]), (49, .iload_n 1, 1, []), (50, .iload_n 2, 1, []), (51, .invokevirtual 101, 3, [78, 3, 2, 409, 390, 391, 67, 5]), (54, .ifCond .ne 6, 3, []), (57, .bipush (-3), 2, []), (59, .ireturn, 1, []), (60, .aload_n 0, 1, []), (61, .getfield 28, 3, [6, 2, 0, 289]), (64, .iload_n 1, 1, []), (65, .iload_n 2, 1, []), (66, .iload_n 3, 1, []), (67, .iload 4, 2, []), (69, .invokevirtual 126, 3, [4, 3, 4, 483, 484, 485, 70, 0]), (72, .ireturn, 1, [])]
def mh_99 : mx_HD := (⟨"MainsLetters", "unwrite", "(I)I"⟩, prog_1_method_13_code, 2, (some .int), 511)
def mt_99 : List (Nat × mx_I) := [(0, .iload_n 1, 1, []), (1, .invokestatic 62, 3, [107, 2, 1, 310, 311, 66]), (4, .ifCond .ne 5, 3, []), (7, .iconst (-1), 1, []), (8, .ireturn, 1, []), (9, .aload_n 0, 1, []), (10, .getfield 28, 3, [6, 2, 0, 289]), (13, .iload_n 1, 1, []), (14, .invokevirtual 129, 3, [3, 1, 1, 512, 513, 514, 70, 0]), (17, .ifCond .ne 6, 3, []), (20, .bipush (-3), 2, []), (22, .ireturn, 1, []), (23, .aload_n 0, 1, []), (24, .getfield 28, 3, [6, 2, 0, 289]), (27, .iload_n 1, 1, []), (28, .invokevirtual 132, 3, [5, 1, 1, 516, 517, 518, 70, 0]), (31, .ireturn, 1, [])]
def mh_100 : mx_HD := (⟨"MainsLetters", "pass", "(I)I"⟩, prog_1_method_14_code, 2, (some .int), 523)
def mt_100 : List (Nat × mx_I) := [(0, .iload_n 1, 1, []), (1, .iconst 1, 1, []), (2, .sipush 1000, 3, []), (5, .invokestatic 54, 3, [106, 1, 3, 313, 314, 66]), (8, .ifCond .ne 6, 3, []), (11, .bipush (-2), 2, []), (13, .ireturn, 1, []), (14, .aload_n 0, 1, []), (15, .getfield 28, 3, [6, 2, 0, 289]), (18, .iload_n 1, 1, []), (19, .invokevirtual 135, 3, [6, 6, 1, 524, 525, 526, 70, 0]), (22, .ireturn, 1, [])]
def mh_101 : mx_HD := (⟨"MainsLetters", "ofStation", "(II)I"⟩, prog_1_method_15_code, 3, (some .int), 588)
def mt_101 : List (Nat × mx_I) := [(0, .iload_n 1, 1, []), (1, .invokestatic 62, 3, [107, 2, 1, 310, 311, 66]), (4, .ifCond .ne 5, 3, []), (7, .iconst (-1), 1, []), (8, .ireturn, 1, []), (9, .iload_n 2, 1, []), (10, .iconst 0, 1, []), (11, .bipush 12, 2, []), (13, .invokestatic 54, 3, [106, 1, 3, 313, 314, 66]), (16, .ifCond .ne 6, 3, []), (19, .bipush (-2), 2, []), (21, .ireturn, 1, []), (22, .iload_n 2, 1, []), (23, .ifCond .ne 12, 3, []), (26, .aload_n 0, 1, []), (27, .getfield 10, 3, [6, 0, 0, 287]), (30, .iload_n 1, 1, []), (31, .invokevirtual 138, 3, [64, 1, 1, 589, 590, 591, 67, 5]), (34, .ireturn, 1, []), (35, .aload_n 0, 1, []), (36, .getfield 28, 3, [6, 2, 0, 289]), (39, .iload_n 1, 1, []), (40, .iload_n 2, 1, []), (41, .invokevirtual 141, 3, [22, 1, 2, 593, 594, 595, 70, 0]), (44, .ireturn, 1, [])]
def mh_102 : mx_HD := (⟨"MainsLetters", "flow", "(IIIIII)I"⟩, prog_1_method_16_code, 7, (some .int), 600)
def mt_102_0 : List (Nat × mx_I) := [(0, .iload_n 1, 1, []), (1, .iconst 1, 1, []), (2, .bipush 30, 2, []), (4, .invokestatic 54, 3, [106, 1, 3, 313, 314, 66]), (7, .ifCond .eq 13, 3, []), (10, .iload_n 2, 1, []), (11, .iconst 1, 1, []), (12, .bipush 8, 2, []), (14, .invokestatic 54, 3, [106, 1, 3, 313, 314, 66]), (17, .ifCond .ne 6, 3, []), (20, .bipush (-2), 2, []), (22, .ireturn, 1, []), (23, .iload_n 3, 1, []), (24, .iconst 0, 1, []), (25, .bipush 9, 2, []), (27, .invokestatic 54, 3, [106, 1, 3, 313, 314, 66]), (30, .ifCond .eq 14, 3, []), (33, .iload 4, 2, []), (35, .iconst 0, 1, []), (36, .bipush 9, 2, []), (38, .invokestatic 54, 3, [106, 1, 3, 313, 314, 66]), (41, .ifCond .ne 6, 3, []), (44, .bipush (-2), 2, []), (46, .ireturn, 1, []), (47, .iload 6, 2, []), (49, .iconst 0, 1, []), (50, .iconst 5, 1, []), (51, .invokestatic 54, 3, [106, 1, 3, 313, 314, 66]), (54, .ifCond .ne 6, 3, []), (57, .bipush (-2), 2, []), (59, .ireturn, 1, []), (60, .aload_n 0, 1, []), (61, .getfield 35, 3, [6, 3, 0, 290]), (64, .iload_n 1, 1, []), (65, .iload_n 2, 1, []), (66, .iload_n 3, 1, []), (67, .iload 4, 2, []), (69, .iload 5, 2, []), (71, .invokevirtual 144, 3, [27, 4, 5, 601, 602, 603, 72, 1]), (74, .aload_n 0, 1, [])]
def mt_102_1 : List (Nat × mx_I) := [(75, .getfield 35, 3, [6, 3, 0, 290]), (78, .iload 6, 2, []), (80, .invokevirtual 148, 3, [33, 2, 1, 638, 639, 640, 72, 1]), (83, .ireturn, 1, [])]
def mt_102 : List (Nat × mx_I) := mt_102_0 ++ (mt_102_1)
def mh_103 : mx_HD := (⟨"MainsLetters", "disturbs", "(I)I"⟩, prog_1_method_17_code, 2, (some .int), 645)
def mt_103 : List (Nat × mx_I) := [(0, .iload_n 1, 1, []), (1, .invokestatic 75, 3, [111, 2, 1, 346, 347, 66]), (4, .ifCond .eq 14, 3, []), (7, .aload_n 0, 1, []), (8, .getfield 42, 3, [6, 4, 0, 291]), (11, .iload_n 1, 1, []), (12, .invokevirtual 151, 3, [36, 3, 1, 646, 647, 648, 73, 2]), (15, .ifCond .ne 5, 3, []), (18, .iconst (-1), 1, []), (19, .ireturn, 1, []), (20, .aload_n 0, 1, []), (21, .getfield 42, 3, [6, 4, 0, 291]), (24, .iload_n 1, 1, []), (25, .invokevirtual 154, 3, [38, 4, 1, 657, 658, 659, 73, 2]), (28, .ireturn, 1, [])]
def mh_104 : mx_HD := (⟨"MainsLetters", "turn", "(I)I"⟩, prog_1_method_18_code, 3, (some .int), 673)
def mt_104 : List (Nat × mx_I) := [(0, .iload_n 1, 1, []), (1, .iconst (-1), 1, []), (2, .if_icmp .eq 23, 3, []), (5, .iload_n 1, 1, []), (6, .invokestatic 75, 3, [111, 2, 1, 346, 347, 66]), (9, .ifCond .eq 14, 3, []), (12, .aload_n 0, 1, []), (13, .getfield 42, 3, [6, 4, 0, 291]), (16, .iload_n 1, 1, []), (17, .invokevirtual 151, 3, [36, 3, 1, 646, 647, 648, 73, 2]), (20, .ifCond .ne 5, 3, []), (23, .iconst (-1), 1, []), (24, .ireturn, 1, []), (25, .aload_n 0, 1, []), (26, .getfield 42, 3, [6, 4, 0, 291]), (29, .invokevirtual 157, 3, [41, 11, 0, 674, 675, 676, 73, 2]), (32, .istore_n 2, 1, []), (33, .iload_n 1, 1, []), (34, .iconst (-1), 1, []), (35, .if_icmp .ne 7, 3, []), (38, .iload_n 2, 1, []), (39, .goto 11, 3, []), (42, .aload_n 0, 1, []), (43, .getfield 42, 3, [6, 4, 0, 291]), (46, .iload_n 1, 1, []), (47, .invokevirtual 160, 3, [42, 1, 1, 684, 685, 686, 73, 2]), (50, .ireturn, 1, [])]
def mh_105 : mx_HD := (⟨"MainsLetters", "many", "(I)I"⟩, prog_1_method_19_code, 2, (some .int), 691)
def mt_105 : List (Nat × mx_I) := [(0, .iload_n 1, 1, []), (1, .tableswitch 63 7 10 #[31, 39, 47, 55], 31, []), (32, .aload_n 0, 1, []), (33, .getfield 10, 3, [6, 0, 0, 287]), (36, .invokevirtual 163, 3, [65, 1, 0, 692, 693, 694, 67, 5]), (39, .ireturn, 1, []), (40, .aload_n 0, 1, []), (41, .getfield 10, 3, [6, 0, 0, 287]), (44, .invokevirtual 166, 3, [83, 6, 0, 696, 697, 698, 67, 5]), (47, .ireturn, 1, []), (48, .aload_n 0, 1, []), (49, .getfield 42, 3, [6, 4, 0, 291]), (52, .invokevirtual 169, 3, [37, 3, 0, 702, 703, 704, 73, 2]), (55, .ireturn, 1, []), (56, .aload_n 0, 1, []), (57, .getfield 10, 3, [6, 0, 0, 287]), (60, .invokevirtual 172, 3, [84, 2, 0, 707, 708, 709, 67, 5]), (63, .ireturn, 1, []), (64, .aload_n 0, 1, []), (65, .getfield 28, 3, [6, 2, 0, 289]), (68, .iload_n 1, 1, []), (69, .invokevirtual 175, 3, [23, 4, 1, 711, 712, 713, 70, 0]), (72, .ireturn, 1, [])]
def mh_106 : mx_HD := (⟨"MainsLetters", "isWithin", "(III)Z"⟩, prog_1_method_20_code, 3, (some .boolean), 315)
def mt_106 : List (Nat × mx_I) := [(0, .iload_n 0, 1, []), (1, .iload_n 1, 1, []), (2, .if_icmp .lt 12, 3, []), (5, .iload_n 0, 1, []), (6, .iload_n 2, 1, []), (7, .if_icmp .gt 7, 3, []), (10, .iconst 1, 1, []), (11, .goto 4, 3, []), (14, .iconst 0, 1, []), (15, .ireturn, 1, [])]
def mh_107 : mx_HD := (⟨"MainsLetters", "isStation", "(I)Z"⟩, prog_1_method_21_code, 1, (some .boolean), 312)
def mt_107 : List (Nat × mx_I) := [(0, .iload_n 0, 1, []), (1, .iconst 0, 1, []), (2, .iconst 5, 1, []), (3, .invokestatic 54, 3, [106, 1, 3, 313, 314, 66]), (6, .ireturn, 1, [])]
def mh_108 : mx_HD := (⟨"MainsLetters", "areTwo", "(II)Z"⟩, prog_1_method_22_code, 2, (some .boolean), 309)
def mt_108 : List (Nat × mx_I) := [(0, .iload_n 0, 1, []), (1, .invokestatic 62, 3, [107, 2, 1, 310, 311, 66]), (4, .ifCond .eq 19, 3, []), (7, .iload_n 1, 1, []), (8, .invokestatic 62, 3, [107, 2, 1, 310, 311, 66]), (11, .ifCond .eq 12, 3, []), (14, .iload_n 0, 1, []), (15, .iload_n 1, 1, []), (16, .if_icmp .eq 7, 3, []), (19, .iconst 1, 1, []), (20, .goto 4, 3, []), (23, .iconst 0, 1, []), (24, .ireturn, 1, [])]
def mh_109 : mx_HD := (⟨"MainsLetters", "isTone", "(I)Z"⟩, prog_1_method_23_code, 1, (some .boolean), 318)
def mt_109 : List (Nat × mx_I) := [(0, .iload_n 0, 1, []), (1, .iconst 0, 1, []), (2, .bipush 7, 2, []), (4, .invokestatic 54, 3, [106, 1, 3, 313, 314, 66]), (7, .ireturn, 1, [])]
def mh_110 : mx_HD := (⟨"MainsLetters", "isHalf", "(I)Z"⟩, prog_1_method_24_code, 1, (some .boolean), 329)
def mt_110 : List (Nat × mx_I) := [(0, .iload_n 0, 1, []), (1, .iconst 0, 1, []), (2, .iconst 1, 1, []), (3, .invokestatic 54, 3, [106, 1, 3, 313, 314, 66]), (6, .ireturn, 1, [])]
def mh_111 : mx_HD := (⟨"MainsLetters", "isKey", "(I)Z"⟩, prog_1_method_25_code, 1, (some .boolean), 348)
def mt_111 : List (Nat × mx_I) := [(0, .iload_n 0, 1, []), (1, .iconst 0, 1, []), (2, .iconst 5, 1, []), (3, .invokestatic 54, 3, [106, 1, 3, 313, 314, 66]), (6, .ireturn, 1, [])]
def mh_112 : mx_HD := (⟨"MainsLettersModel", "<init>", "()V"⟩, prog_11_method_1_code, 2, none, 720)
def mt_112_0 : List (Nat × mx_I) := [(0, .aload_n 0, 1, []), (1, .invokespecial 1, 3, [721]), (4, .aload_n 0, 1, []), (5, .sipush 288, 3, []), (8, .newarray .int, 2, [0, 142]), (10, .putfield 7, 3, [7, 0, 1, 0, 722]), (13, .aload_n 0, 1, []), (14, .bipush 96, 2, []), (16, .newarray .int, 2, [0, 142]), (18, .putfield 13, 3, [7, 1, 1, 0, 723]), (21, .aload_n 0, 1, []), (22, .bipush 6, 2, []), (24, .newarray .int, 2, [0, 142]), (26, .putfield 16, 3, [7, 2, 1, 0, 724]), (29, .aload_n 0, 1, []), (30, .iconst 3, 1, []), (31, .putfield 19, 3, [7, 3, 0, 0, 725]), (34, .aload_n 0, 1, []), (35, .bipush 6, 2, []), (37, .newarray .int, 2, [0, 142]), (39, .putfield 23, 3, [7, 4, 1, 0, 726]), (42, .aload_n 0, 1, []), (43, .bipush 36, 2, []), (45, .newarray .int, 2, [0, 142]), (47, .putfield 26, 3, [7, 5, 1, 0, 727]), (50, .aload_n 0, 1, []), (51, .iconst 1, 1, []), (52, .putfield 29, 3, [7, 6, 0, 0, 728]), (55, .aload_n 0, 1, []), (56, .bipush 6, 2, []), (58, .newarray .int, 2, [0, 142]), (60, .putfield 32, 3, [7, 7, 1, 0, 729]), (63, .aload_n 0, 1, []), (64, .bipush 6, 2, []), (66, .newarray .int, 2, [0, 142]), (68, .putfield 35, 3, [7, 8, 1, 0, 730]), (71, .aload_n 0, 1, []), (72, .bipush 6, 2, []), (74, .newarray .int, 2, [0, 142]), (76, .putfield 38, 3, [7, 9, 1, 0, 731])]
def mt_112_1 : List (Nat × mx_I) := [(79, .aload_n 0, 1, []), (80, .bipush 6, 2, []), (82, .newarray .int, 2, [0, 142]), (84, .putfield 41, 3, [7, 10, 1, 0, 732]), (87, .aload_n 0, 1, []), (88, .bipush 6, 2, []), (90, .newarray .int, 2, [0, 142]), (92, .putfield 44, 3, [7, 11, 1, 0, 733]), (95, .aload_n 0, 1, []), (96, .bipush 6, 2, []), (98, .newarray .int, 2, [0, 142]), (100, .putfield 47, 3, [7, 12, 1, 0, 734]), (103, .aload_n 0, 1, []), (104, .bipush 6, 2, []), (106, .newarray .int, 2, [0, 142]), (108, .putfield 50, 3, [7, 13, 1, 0, 735]), (111, .aload_n 0, 1, []), (112, .bipush 6, 2, []), (114, .newarray .int, 2, [0, 142]), (116, .putfield 53, 3, [7, 14, 1, 0, 736]), (119, .aload_n 0, 1, []), (120, .bipush 6, 2, []), (122, .newarray .boolean, 2, [1, 819]), (124, .putfield 56, 3, [7, 15, 1, 0, 737]), (127, .aload_n 0, 1, []), (128, .bipush 6, 2, []), (130, .newarray .int, 2, [0, 142]), (132, .putfield 60, 3, [7, 16, 1, 0, 738]), (135, .aload_n 0, 1, []), (136, .bipush 6, 2, []), (138, .newarray .int, 2, [0, 142]), (140, .putfield 63, 3, [7, 17, 1, 0, 739]), (143, .aload_n 0, 1, []), (144, .bipush 6, 2, []), (146, .newarray .int, 2, [0, 142]), (148, .putfield 66, 3, [7, 18, 1, 0, 740]), (151, .aload_n 0, 1, []), (152, .bipush 6, 2, []), (154, .newarray .int, 2, [0, 142]), (156, .putfield 69, 3, [7, 29, 1, 0, 751])]
def mt_112_2 : List (Nat × mx_I) := [(159, .aload_n 0, 1, []), (160, .bipush 6, 2, []), (162, .newarray .int, 2, [0, 142]), (164, .putfield 72, 3, [7, 30, 1, 0, 752]), (167, .aload_n 0, 1, []), (168, .bipush 6, 2, []), (170, .newarray .int, 2, [0, 142]), (172, .putfield 75, 3, [7, 31, 1, 0, 753]), (175, .iconst 0, 1, []), (176, .istore_n 1, 1, []), (177, .iload_n 1, 1, []), (178, .sipush 288, 3, []), (181, .if_icmp .ge 17, 3, []), (184, .aload_n 0, 1, []), (185, .getfield 7, 3, [7, 0, 0, 722]), (188, .iload_n 1, 1, []), (189, .bipush 30, 2, []), (191, .iastore, 1, []), (192, .iinc 1 1, 3, []), (195, .goto (-18), 3, []), (198, .iconst 0, 1, []), (199, .istore_n 1, 1, []), (200, .iload_n 1, 1, []), (201, .bipush 96, 2, []), (203, .if_icmp .ge 17, 3, []), (206, .aload_n 0, 1, []), (207, .getfield 13, 3, [7, 1, 0, 723]), (210, .iload_n 1, 1, []), (211, .bipush 10, 2, []), (213, .iastore, 1, []), (214, .iinc 1 1, 3, []), (217, .goto (-17), 3, []), (220, .return_, 1, [])]
def mt_112 : List (Nat × mx_I) := mt_112_0 ++ (mt_112_1 ++ (mt_112_2))
def mh_113 : mx_HD := (⟨"MainsLettersModel", "within", "(III)Z"⟩, prog_11_method_2_code, 3, (some .boolean), 832)
def mt_113 : List (Nat × mx_I) := [(0, .iload_n 0, 1, []), (1, .iload_n 1, 1, []), (2, .if_icmp .lt 12, 3, []), (5, .iload_n 0, 1, []), (6, .iload_n 2, 1, []), (7, .if_icmp .gt 7, 3, []), (10, .iconst 1, 1, []), (11, .goto 4, 3, []), (14, .iconst 0, 1, []), (15, .ireturn, 1, [])]
def mh_114 : mx_HD := (⟨"MainsLettersModel", "isStation", "(I)Z"⟩, prog_11_method_3_code, 1, (some .boolean), 829)
def mt_114 : List (Nat × mx_I) := [(0, .iload_n 0, 1, []), (1, .iconst 0, 1, []), (2, .iconst 5, 1, []), (3, .invokestatic 78, 3, [113, 1, 3, 830, 831, 74]), (6, .ireturn, 1, [])]
def mh_115 : mx_HD := (⟨"MainsLettersModel", "areTwo", "(II)Z"⟩, prog_11_method_4_code, 2, (some .boolean), 826)
def mt_115 : List (Nat × mx_I) := [(0, .iload_n 0, 1, []), (1, .invokestatic 82, 3, [114, 2, 1, 827, 828, 74]), (4, .ifCond .eq 19, 3, []), (7, .iload_n 1, 1, []), (8, .invokestatic 82, 3, [114, 2, 1, 827, 828, 74]), (11, .ifCond .eq 12, 3, []), (14, .iload_n 0, 1, []), (15, .iload_n 1, 1, []), (16, .if_icmp .eq 7, 3, []), (19, .iconst 1, 1, []), (20, .goto 4, 3, []), (23, .iconst 0, 1, []), (24, .ireturn, 1, [])]
def mh_116 : mx_HD := (⟨"MainsLettersModel", "isTone", "(I)Z"⟩, prog_11_method_5_code, 1, (some .boolean), 835)
def mt_116 : List (Nat × mx_I) := [(0, .iload_n 0, 1, []), (1, .iconst 0, 1, []), (2, .bipush 7, 2, []), (4, .invokestatic 78, 3, [113, 1, 3, 830, 831, 74]), (7, .ireturn, 1, [])]
def mh_117 : mx_HD := (⟨"MainsLettersModel", "isHalf", "(I)Z"⟩, prog_11_method_6_code, 1, (some .boolean), 845)
def mt_117 : List (Nat × mx_I) := [(0, .iload_n 0, 1, []), (1, .iconst 0, 1, []), (2, .iconst 1, 1, []), (3, .invokestatic 78, 3, [113, 1, 3, 830, 831, 74]), (6, .ireturn, 1, [])]
def mh_118 : mx_HD := (⟨"MainsLettersModel", "lossAt", "(III)I"⟩, prog_11_method_7_code, 3, (some .int), 838)
def mt_118 : List (Nat × mx_I) := [(0, .bipush 8, 2, []), (2, .bipush 6, 2, []), (4, .iload_n 0, 1, []), (5, .imul, 1, []), (6, .iload_n 1, 1, []), (7, .iadd, 1, []), (8, .imul, 1, []), (9, .iload_n 2, 1, []), (10, .iadd, 1, []), (11, .ireturn, 1, [])]
def mh_119 : mx_HD := (⟨"MainsLettersModel", "noiseAt", "(III)I"⟩, prog_11_method_8_code, 3, (some .int), 848)
def mt_119 : List (Nat × mx_I) := [(0, .iconst 2, 1, []), (1, .bipush 8, 2, []), (3, .iload_n 0, 1, []), (4, .imul, 1, []), (5, .iload_n 1, 1, []), (6, .iadd, 1, []), (7, .imul, 1, []), (8, .iload_n 2, 1, []), (9, .iadd, 1, []), (10, .ireturn, 1, [])]
def mh_120 : mx_HD := (⟨"MainsLettersModel", "loss", "(IIII)I"⟩, prog_11_method_9_code, 6, (some .int), 823)
def mt_120_0 : List (Nat × mx_I) := [(0, .iload_n 1, 1, []), (1, .iload_n 2, 1, []), (2, .invokestatic 86, 3, [115, 3, 2, 824, 825, 74]), (5, .ifCond .eq 10, 3, []), (8, .iload_n 3, 1, []), (9, .invokestatic 90, 3, [116, 2, 1, 833, 834, 74]), (12, .ifCond .ne 5, 3, []), (15, .iconst (-1), 1, []), (16, .ireturn, 1, []), (17, .iload 4, 2, []), (19, .iconst 0, 1, []), (20, .bipush 60, 2, []), (22, .invokestatic 78, 3, [113, 1, 3, 830, 831, 74]), (25, .ifCond .ne 6, 3, []), (28, .bipush (-2), 2, []), (30, .ireturn, 1, []), (31, .aload_n 0, 1, []), (32, .getfield 7, 3, [7, 0, 0, 722]), (35, .iload_n 1, 1, []), (36, .iload_n 2, 1, []), (37, .iload_n 3, 1, []), (38, .invokestatic 93, 3, [118, 1, 3, 836, 837, 74]), (41, .iaload, 1, []), (42, .istore 5, 2, []), (44, .aload_n 0, 1, []), (45, .getfield 7, 3, [7, 0, 0, 722]), (48, .iload_n 1, 1, []), (49, .iload_n 2, 1, []), (50, .iload_n 3, 1, []), (51, .invokestatic 93, 3, [118, 1, 3, 836, 837, 74]), (54, .iload 4, 2, []), (56, .iastore, 1, []), (57, .aload_n 0, 1, []), (58, .getfield 7, 3, [7, 0, 0, 722]), (61, .iload_n 2, 1, []), (62, .iload_n 1, 1, []), (63, .iload_n 3, 1, []), (64, .invokestatic 93, 3, [118, 1, 3, 836, 837, 74]), (67, .iload 4, 2, []), (69, .iastore, 1, [])]
def mt_120_1 : List (Nat × mx_I) := [(70, .iload 5, 2, []), (72, .ireturn, 1, [])]
def mt_120 : List (Nat × mx_I) := mt_120_0 ++ (mt_120_1)
def mh_121 : mx_HD := (⟨"MainsLettersModel", "noise", "(IIII)I"⟩, prog_11_method_10_code, 6, (some .int), 842)
def mt_121 : List (Nat × mx_I) := [(0, .iload_n 1, 1, []), (1, .invokestatic 82, 3, [114, 2, 1, 827, 828, 74]), (4, .ifCond .eq 17, 3, []), (7, .iload_n 2, 1, []), (8, .invokestatic 90, 3, [116, 2, 1, 833, 834, 74]), (11, .ifCond .eq 10, 3, []), (14, .iload_n 3, 1, []), (15, .invokestatic 97, 3, [117, 2, 1, 843, 844, 74]), (18, .ifCond .ne 5, 3, []), (21, .iconst (-1), 1, []), (22, .ireturn, 1, []), (23, .iload 4, 2, []), (25, .iconst 0, 1, []), (26, .bipush 60, 2, []), (28, .invokestatic 78, 3, [113, 1, 3, 830, 831, 74]), (31, .ifCond .ne 6, 3, []), (34, .bipush (-2), 2, []), (36, .ireturn, 1, []), (37, .aload_n 0, 1, []), (38, .getfield 13, 3, [7, 1, 0, 723]), (41, .iload_n 1, 1, []), (42, .iload_n 2, 1, []), (43, .iload_n 3, 1, []), (44, .invokestatic 100, 3, [119, 1, 3, 846, 847, 74]), (47, .iaload, 1, []), (48, .istore 5, 2, []), (50, .aload_n 0, 1, []), (51, .getfield 13, 3, [7, 1, 0, 723]), (54, .iload_n 1, 1, []), (55, .iload_n 2, 1, []), (56, .iload_n 3, 1, []), (57, .invokestatic 100, 3, [119, 1, 3, 846, 847, 74]), (60, .iload 4, 2, []), (62, .iastore, 1, []), (63, .iload 5, 2, []), (65, .ireturn, 1, [])]
def mh_122 : mx_HD := (⟨"MainsLettersModel", "margin", "(I)I"⟩, prog_11_method_11_code, 3, (some .int), 852)
def mt_122 : List (Nat × mx_I) := [(0, .iload_n 1, 1, []), (1, .iconst 0, 1, []), (2, .bipush 12, 2, []), (4, .invokestatic 78, 3, [113, 1, 3, 830, 831, 74]), (7, .ifCond .ne 6, 3, []), (10, .bipush (-2), 2, []), (12, .ireturn, 1, []), (13, .aload_n 0, 1, []), (14, .getfield 19, 3, [7, 3, 0, 725]), (17, .istore_n 2, 1, []), (18, .aload_n 0, 1, []), (19, .iload_n 1, 1, []), (20, .putfield 19, 3, [7, 3, 0, 0, 725]), (23, .iload_n 2, 1, []), (24, .ireturn, 1, [])]
def mh_123 : mx_HD := (⟨"MainsLettersModel", "key", "(II)I"⟩, prog_11_method_12_code, 4, (some .int), 856)
def mt_123 : List (Nat × mx_I) := [(0, .iload_n 1, 1, []), (1, .invokestatic 82, 3, [114, 2, 1, 827, 828, 74]), (4, .ifCond .ne 5, 3, []), (7, .iconst (-1), 1, []), (8, .ireturn, 1, []), (9, .iload_n 2, 1, []), (10, .iconst 0, 1, []), (11, .iconst 5, 1, []), (12, .invokestatic 78, 3, [113, 1, 3, 830, 831, 74]), (15, .ifCond .ne 6, 3, []), (18, .bipush (-2), 2, []), (20, .ireturn, 1, []), (21, .aload_n 0, 1, []), (22, .getfield 16, 3, [7, 2, 0, 724]), (25, .iload_n 1, 1, []), (26, .iaload, 1, []), (27, .istore_n 3, 1, []), (28, .aload_n 0, 1, []), (29, .getfield 16, 3, [7, 2, 0, 724]), (32, .iload_n 1, 1, []), (33, .iload_n 2, 1, []), (34, .iastore, 1, []), (35, .iload_n 3, 1, []), (36, .ireturn, 1, [])]
def mh_124 : mx_HD := (⟨"MainsLettersModel", "bitsOf", "(IIII)I"⟩, prog_11_method_13_code, 6, (some .int), 864)
def mt_124_0 : List (Nat × mx_I) := [(0, .bipush 60, 2, []), (2, .aload_n 0, 1, []), (3, .getfield 7, 3, [7, 0, 0, 722]), (6, .iload_n 1, 1, []), (7, .iload_n 2, 1, []), (8, .iload_n 3, 1, []), (9, .invokestatic 93, 3, [118, 1, 3, 836, 837, 74]), (12, .iaload, 1, []), (13, .isub, 1, []), (14, .aload_n 0, 1, []), (15, .getfield 13, 3, [7, 1, 0, 723]), (18, .iload_n 2, 1, []), (19, .iload_n 3, 1, []), (20, .iload 4, 2, []), (22, .invokestatic 100, 3, [119, 1, 3, 846, 847, 74]), (25, .iaload, 1, []), (26, .isub, 1, []), (27, .aload_n 0, 1, []), (28, .getfield 19, 3, [7, 3, 0, 725]), (31, .isub, 1, []), (32, .istore 5, 2, []), (34, .iload 5, 2, []), (36, .bipush 14, 2, []), (38, .if_icmp .ge 37, 3, []), (41, .iload 5, 2, []), (43, .iconst 4, 1, []), (44, .if_icmp .ge 7, 3, []), (47, .iconst 0, 1, []), (48, .goto 26, 3, []), (51, .iload 5, 2, []), (53, .bipush 7, 2, []), (55, .if_icmp .ge 7, 3, []), (58, .iconst 1, 1, []), (59, .goto 15, 3, []), (62, .iload 5, 2, []), (64, .bipush 11, 2, []), (66, .if_icmp .ge 7, 3, []), (69, .iconst 2, 1, []), (70, .goto 4, 3, []), (73, .iconst 3, 1, [])]
def mt_124_1 : List (Nat × mx_I) := [(74, .ireturn, 1, []), (75, .iload 5, 2, []), (77, .bipush 20, 2, []), (79, .if_icmp .ge 7, 3, []), (82, .iconst 4, 1, []), (83, .goto 29, 3, []), (86, .iload 5, 2, []), (88, .bipush 26, 2, []), (90, .if_icmp .ge 8, 3, []), (93, .bipush 6, 2, []), (95, .goto 17, 3, []), (98, .iload 5, 2, []), (100, .bipush 32, 2, []), (102, .if_icmp .ge 8, 3, []), (105, .bipush 8, 2, []), (107, .goto 5, 3, []), (110, .bipush 10, 2, []), (112, .ireturn, 1, [])]
def mt_124 : List (Nat × mx_I) := mt_124_0 ++ (mt_124_1)
def mh_125 : mx_HD := (⟨"MainsLettersModel", "bits", "(IIII)I"⟩, prog_11_method_14_code, 5, (some .int), 860)
def mt_125 : List (Nat × mx_I) := [(0, .iload_n 1, 1, []), (1, .iload_n 2, 1, []), (2, .invokestatic 86, 3, [115, 3, 2, 824, 825, 74]), (5, .ifCond .eq 30, 3, []), (8, .iload_n 3, 1, []), (9, .invokestatic 90, 3, [116, 2, 1, 833, 834, 74]), (12, .ifCond .eq 23, 3, []), (15, .iload 4, 2, []), (17, .invokestatic 97, 3, [117, 2, 1, 843, 844, 74]), (20, .ifCond .eq 15, 3, []), (23, .aload_n 0, 1, []), (24, .iload_n 1, 1, []), (25, .iload_n 2, 1, []), (26, .iload_n 3, 1, []), (27, .iload 4, 2, []), (29, .invokevirtual 103, 3, [124, 2, 4, 861, 863, 33, 74, 7]), (32, .goto 4, 3, []), (35, .iconst (-1), 1, []), (36, .ireturn, 1, [])]
def mh_126 : mx_HD := (⟨"MainsLettersModel", "speedOf", "(III)I"⟩, prog_11_method_15_code, 6, (some .int), 872)
def mt_126 : List (Nat × mx_I) := [(0, .iconst 0, 1, []), (1, .istore 4, 2, []), (3, .iconst 0, 1, []), (4, .istore 5, 2, []), (6, .iload 5, 2, []), (8, .bipush 8, 2, []), (10, .if_icmp .ge 23, 3, []), (13, .iload 4, 2, []), (15, .aload_n 0, 1, []), (16, .iload_n 1, 1, []), (17, .iload_n 2, 1, []), (18, .iload 5, 2, []), (20, .iload_n 3, 1, []), (21, .invokevirtual 103, 3, [124, 2, 4, 861, 863, 33, 74, 7]), (24, .iadd, 1, []), (25, .istore 4, 2, []), (27, .iinc 5 1, 3, []), (30, .goto (-24), 3, []), (33, .iload 4, 2, []), (35, .ireturn, 1, [])]
def mh_127 : mx_HD := (⟨"MainsLettersModel", "speed", "(III)I"⟩, prog_11_method_16_code, 4, (some .int), 868)
def mt_127 : List (Nat × mx_I) := [(0, .iload_n 1, 1, []), (1, .iload_n 2, 1, []), (2, .invokestatic 86, 3, [115, 3, 2, 824, 825, 74]), (5, .ifCond .eq 20, 3, []), (8, .iload_n 3, 1, []), (9, .invokestatic 97, 3, [117, 2, 1, 843, 844, 74]), (12, .ifCond .eq 13, 3, []), (15, .aload_n 0, 1, []), (16, .iload_n 1, 1, []), (17, .iload_n 2, 1, []), (18, .iload_n 3, 1, []), (19, .invokevirtual 107, 3, [126, 3, 3, 869, 871, 34, 74, 7]), (22, .goto 4, 3, []), (25, .iconst (-1), 1, []), (26, .ireturn, 1, [])]
def mh_128 : mx_HD := (⟨"MainsLettersModel", "hears", "(II)Z"⟩, prog_11_method_17_code, 3, (some .boolean), 888)
def mt_128 : List (Nat × mx_I) := [(0, .iload_n 1, 1, []), (1, .iload_n 2, 1, []), (2, .if_icmp .eq 27, 3, []), (5, .aload_n 0, 1, []), (6, .iload_n 2, 1, []), (7, .iload_n 1, 1, []), (8, .iconst 0, 1, []), (9, .invokevirtual 107, 3, [126, 3, 3, 869, 871, 34, 74, 7]), (12, .ifCond .gt 13, 3, []), (15, .aload_n 0, 1, []), (16, .iload_n 2, 1, []), (17, .iload_n 1, 1, []), (18, .iconst 1, 1, []), (19, .invokevirtual 107, 3, [126, 3, 3, 869, 871, 34, 74, 7]), (22, .ifCond .le 7, 3, []), (25, .iconst 1, 1, []), (26, .goto 4, 3, []), (29, .iconst 0, 1, []), (30, .ireturn, 1, [])]
def mh_129 : mx_HD := (⟨"MainsLettersModel", "reaches", "(II)Z"⟩, prog_11_method_18_code, 3, (some .boolean), 892)
def mt_129 : List (Nat × mx_I) := [(0, .iload_n 1, 1, []), (1, .iload_n 2, 1, []), (2, .if_icmp .eq 31, 3, []), (5, .aload_n 0, 1, []), (6, .getfield 16, 3, [7, 2, 0, 724]), (9, .iload_n 1, 1, []), (10, .iaload, 1, []), (11, .aload_n 0, 1, []), (12, .getfield 16, 3, [7, 2, 0, 724]), (15, .iload_n 2, 1, []), (16, .iaload, 1, []), (17, .if_icmp .ne 16, 3, []), (20, .aload_n 0, 1, []), (21, .iload_n 2, 1, []), (22, .iload_n 1, 1, []), (23, .invokevirtual 110, 3, [128, 4, 2, 885, 887, 37, 74, 7]), (26, .ifCond .eq 7, 3, []), (29, .iconst 1, 1, []), (30, .goto 4, 3, []), (33, .iconst 0, 1, []), (34, .ireturn, 1, [])]
def mh_130 : mx_HD := (⟨"MainsLettersModel", "areHidden", "(II)Z"⟩, prog_11_method_19_code, 5, (some .boolean), 896)
def mt_130_0 : List (Nat × mx_I) := [(0, .iload_n 1, 1, []), (1, .iload_n 2, 1, []), (2, .if_icmp .eq 21, 3, []), (5, .aload_n 0, 1, []), (6, .iload_n 1, 1, []), (7, .iload_n 2, 1, []), (8, .invokevirtual 110, 3, [128, 4, 2, 885, 887, 37, 74, 7]), (11, .ifCond .ne 12, 3, []), (14, .aload_n 0, 1, []), (15, .iload_n 2, 1, []), (16, .iload_n 1, 1, []), (17, .invokevirtual 110, 3, [128, 4, 2, 885, 887, 37, 74, 7]), (20, .ifCond .eq 5, 3, []), (23, .iconst 0, 1, []), (24, .ireturn, 1, []), (25, .iconst 0, 1, []), (26, .istore_n 3, 1, []), (27, .iconst 0, 1, []), (28, .istore 4, 2, []), (30, .iload 4, 2, []), (32, .bipush 6, 2, []), (34, .if_icmp .ge 51, 3, []), (37, .iload_n 3, 1, []), (38, .ifCond .ne 35, 3, []), (41, .iload 4, 2, []), (43, .iload_n 1, 1, []), (44, .if_icmp .eq 33, 3, []), (47, .iload 4, 2, []), (49, .iload_n 2, 1, []), (50, .if_icmp .eq 27, 3, []), (53, .aload_n 0, 1, []), (54, .iload 4, 2, []), (56, .iload_n 1, 1, []), (57, .invokevirtual 110, 3, [128, 4, 2, 885, 887, 37, 74, 7]), (60, .ifCond .eq 17, 3, []), (63, .aload_n 0, 1, []), (64, .iload 4, 2, []), (66, .iload_n 2, 1, []), (67, .invokevirtual 110, 3, [128, 4, 2, 885, 887, 37, 74, 7]), (70, .ifCond .eq 7, 3, [])]
def mt_130_1 : List (Nat × mx_I) := [(73, .iconst 1, 1, []), (74, .goto 4, 3, []), (77, .iconst 0, 1, []), (78, .istore_n 3, 1, []), (79, .iinc 4 1, 3, []), (82, .goto (-52), 3, []), (85, .iload_n 3, 1, []), (86, .ireturn, 1, [])]
def mt_130 : List (Nat × mx_I) := mt_130_0 ++ (mt_130_1)
def mh_131 : mx_HD := (⟨"MainsLettersModel", "isSo", "(III)Z"⟩, prog_11_method_20_code, 4, (some .boolean), 884)
def mt_131 : List (Nat × mx_I) := [(0, .iload_n 3, 1, []), (1, .ifCond .ne 12, 3, []), (4, .aload_n 0, 1, []), (5, .iload_n 1, 1, []), (6, .iload_n 2, 1, []), (7, .invokevirtual 110, 3, [128, 4, 2, 885, 887, 37, 74, 7]), (10, .goto 37, 3, []), (13, .iload_n 3, 1, []), (14, .iconst 1, 1, []), (15, .if_icmp .ne 12, 3, []), (18, .aload_n 0, 1, []), (19, .iload_n 2, 1, []), (20, .iload_n 1, 1, []), (21, .invokevirtual 110, 3, [128, 4, 2, 885, 887, 37, 74, 7]), (24, .goto 23, 3, []), (27, .iload_n 3, 1, []), (28, .iconst 2, 1, []), (29, .if_icmp .ne 12, 3, []), (32, .aload_n 0, 1, []), (33, .iload_n 1, 1, []), (34, .iload_n 2, 1, []), (35, .invokevirtual 113, 3, [129, 5, 2, 889, 891, 38, 74, 7]), (38, .goto 9, 3, []), (41, .aload_n 0, 1, []), (42, .iload_n 1, 1, []), (43, .iload_n 2, 1, []), (44, .invokevirtual 116, 3, [130, 5, 2, 893, 895, 39, 74, 7]), (47, .ireturn, 1, [])]
def mh_132 : mx_HD := (⟨"MainsLettersModel", "setOf", "(II)I"⟩, prog_11_method_21_code, 5, (some .int), 880)
def mt_132 : List (Nat × mx_I) := [(0, .iconst 0, 1, []), (1, .istore_n 3, 1, []), (2, .iconst 0, 1, []), (3, .istore 4, 2, []), (5, .iload 4, 2, []), (7, .bipush 6, 2, []), (9, .if_icmp .ge 31, 3, []), (12, .iload_n 3, 1, []), (13, .aload_n 0, 1, []), (14, .iload_n 1, 1, []), (15, .iload 4, 2, []), (17, .iload_n 2, 1, []), (18, .invokevirtual 119, 3, [131, 6, 3, 881, 883, 36, 74, 7]), (21, .ifCond .eq 10, 3, []), (24, .iconst 1, 1, []), (25, .iload 4, 2, []), (27, .ishl, 1, []), (28, .goto 4, 3, []), (31, .iconst 0, 1, []), (32, .ior, 1, []), (33, .istore_n 3, 1, []), (34, .iinc 4 1, 3, []), (37, .goto (-32), 3, []), (40, .iload_n 3, 1, []), (41, .ireturn, 1, [])]
def mh_133 : mx_HD := (⟨"MainsLettersModel", "who", "(II)I"⟩, prog_11_method_22_code, 3, (some .int), 876)
def mt_133 : List (Nat × mx_I) := [(0, .iload_n 1, 1, []), (1, .invokestatic 82, 3, [114, 2, 1, 827, 828, 74]), (4, .ifCond .ne 5, 3, []), (7, .iconst (-1), 1, []), (8, .ireturn, 1, []), (9, .iload_n 2, 1, []), (10, .iconst 0, 1, []), (11, .iconst 3, 1, []), (12, .invokestatic 78, 3, [113, 1, 3, 830, 831, 74]), (15, .ifCond .eq 12, 3, []), (18, .aload_n 0, 1, []), (19, .iload_n 1, 1, []), (20, .iload_n 2, 1, []), (21, .invokevirtual 122, 3, [132, 7, 2, 877, 879, 35, 74, 7]), (24, .goto 5, 3, []), (27, .bipush (-2), 2, []), (29, .ireturn, 1, [])]
def mh_134 : mx_HD := (⟨"MainsLettersModel", "up", "(II)I"⟩, prog_11_method_23_code, 2, (some .int), 907)
def mt_134 : List (Nat × mx_I) := [(0, .iload_n 0, 1, []), (1, .iload_n 1, 1, []), (2, .iadd, 1, []), (3, .iconst 1, 1, []), (4, .isub, 1, []), (5, .iload_n 1, 1, []), (6, .idiv, 1, []), (7, .ireturn, 1, [])]
def mh_135 : mx_HD := (⟨"MainsLettersModel", "lastsOf", "(III)I"⟩, prog_11_method_24_code, 9, (some .int), 904)
def mt_135_0 : List (Nat × mx_I) := [(0, .aload_n 0, 1, []), (1, .iload_n 1, 1, []), (2, .iload_n 2, 1, []), (3, .iconst 0, 1, []), (4, .invokevirtual 107, 3, [126, 3, 3, 869, 871, 34, 74, 7]), (7, .istore 4, 2, []), (9, .aload_n 0, 1, []), (10, .iload_n 1, 1, []), (11, .iload_n 2, 1, []), (12, .iconst 1, 1, []), (13, .invokevirtual 107, 3, [126, 3, 3, 869, 871, 34, 74, 7]), (16, .istore 5, 2, []), (18, .bipush 10, 2, []), (20, .iload 4, 2, []), (22, .iload 5, 2, []), (24, .iadd, 1, []), (25, .imul, 1, []), (26, .istore 6, 2, []), (28, .bipush 8, 2, []), (30, .iload_n 3, 1, []), (31, .imul, 1, []), (32, .iconst 1, 1, []), (33, .isub, 1, []), (34, .iload 6, 2, []), (36, .idiv, 1, []), (37, .istore 7, 2, []), (39, .bipush 8, 2, []), (41, .iload_n 3, 1, []), (42, .imul, 1, []), (43, .iload 7, 2, []), (45, .iload 6, 2, []), (47, .imul, 1, []), (48, .isub, 1, []), (49, .istore 8, 2, []), (51, .bipush 20, 2, []), (53, .iload 7, 2, []), (55, .imul, 1, []), (56, .iload 8, 2, []), (58, .bipush 10, 2, []), (60, .iload 4, 2, [])]
def mt_135_1 : List (Nat × mx_I) := [(62, .imul, 1, []), (63, .if_icmp .gt 13, 3, []), (66, .iload 8, 2, []), (68, .iload 4, 2, []), (70, .invokestatic 126, 3, [134, 1, 2, 905, 906, 74]), (73, .goto 19, 3, []), (76, .bipush 10, 2, []), (78, .iload 8, 2, []), (80, .bipush 10, 2, []), (82, .iload 4, 2, []), (84, .imul, 1, []), (85, .isub, 1, []), (86, .iload 5, 2, []), (88, .invokestatic 126, 3, [134, 1, 2, 905, 906, 74]), (91, .iadd, 1, []), (92, .iadd, 1, []), (93, .ireturn, 1, [])]
def mt_135 : List (Nat × mx_I) := mt_135_0 ++ (mt_135_1)
def mh_136 : mx_HD := (⟨"MainsLettersModel", "lasts", "(III)I"⟩, prog_11_method_25_code, 4, (some .int), 900)
def mt_136 : List (Nat × mx_I) := [(0, .iload_n 1, 1, []), (1, .invokestatic 82, 3, [114, 2, 1, 827, 828, 74]), (4, .ifCond .eq 10, 3, []), (7, .iload_n 2, 1, []), (8, .invokestatic 82, 3, [114, 2, 1, 827, 828, 74]), (11, .ifCond .ne 5, 3, []), (14, .iconst (-1), 1, []), (15, .ireturn, 1, []), (16, .iload_n 3, 1, []), (17, .iconst 1, 1, []), (18, .sipush 2000, 3, []), (21, .invokestatic 78, 3, [113, 1, 3, 830, 831, 74]), (24, .ifCond .ne 6, 3, []), (27, .bipush (-2), 2, []), (29, .ireturn, 1, []), (30, .aload_n 0, 1, []), (31, .iload_n 1, 1, []), (32, .iload_n 2, 1, []), (33, .invokevirtual 113, 3, [129, 5, 2, 889, 891, 38, 74, 7]), (36, .ifCond .eq 13, 3, []), (39, .aload_n 0, 1, []), (40, .iload_n 1, 1, []), (41, .iload_n 2, 1, []), (42, .iload_n 3, 1, []), (43, .invokevirtual 129, 3, [135, 4, 3, 901, 903, 40, 74, 7]), (46, .goto 5, 3, []), (49, .bipush (-9), 2, []), (51, .ireturn, 1, [])]
def mh_137 : mx_HD := (⟨"MainsLettersModel", "findCosts", "(II)V"⟩, prog_11_method_26_code, 6, none, 915)
def mt_137_0 : List (Nat × mx_I) := [(0, .iconst 0, 1, []), (1, .istore_n 3, 1, []), (2, .iload_n 3, 1, []), (3, .bipush 6, 2, []), (5, .if_icmp .ge 82, 3, []), (8, .aload_n 0, 1, []), (9, .getfield 23, 3, [7, 4, 0, 726]), (12, .iload_n 3, 1, []), (13, .iload_n 3, 1, []), (14, .iload_n 1, 1, []), (15, .if_icmp .ne 7, 3, []), (18, .iconst 1, 1, []), (19, .goto 5, 3, []), (22, .ldc 132, 2, [1000000000, 916]), (24, .iastore, 1, []), (25, .iconst 0, 1, []), (26, .istore 4, 2, []), (28, .iload 4, 2, []), (30, .bipush 6, 2, []), (32, .if_icmp .ge 49, 3, []), (35, .aload_n 0, 1, []), (36, .getfield 26, 3, [7, 5, 0, 727]), (39, .bipush 6, 2, []), (41, .iload_n 3, 1, []), (42, .imul, 1, []), (43, .iload 4, 2, []), (45, .iadd, 1, []), (46, .aload_n 0, 1, []), (47, .iload_n 3, 1, []), (48, .iload 4, 2, []), (50, .invokevirtual 113, 3, [129, 5, 2, 889, 891, 38, 74, 7]), (53, .ifCond .eq 19, 3, []), (56, .bipush 8, 2, []), (58, .aload_n 0, 1, []), (59, .iload_n 3, 1, []), (60, .iload 4, 2, []), (62, .iload_n 2, 1, []), (63, .invokevirtual 129, 3, [135, 4, 3, 901, 903, 40, 74, 7]), (66, .imul, 1, []), (67, .iconst 1, 1, [])]
def mt_137_1 : List (Nat × mx_I) := [(68, .iadd, 1, []), (69, .goto 5, 3, []), (72, .ldc 132, 2, [1000000000, 916]), (74, .iastore, 1, []), (75, .iinc 4 1, 3, []), (78, .goto (-50), 3, []), (81, .iinc 3 1, 3, []), (84, .goto (-82), 3, []), (87, .iconst 0, 1, []), (88, .istore_n 3, 1, []), (89, .iload_n 3, 1, []), (90, .bipush 6, 2, []), (92, .if_icmp .ge 117, 3, []), (95, .iconst 0, 1, []), (96, .istore 4, 2, []), (98, .iload 4, 2, []), (100, .bipush 36, 2, []), (102, .if_icmp .ge 101, 3, []), (105, .aload_n 0, 1, []), (106, .getfield 26, 3, [7, 5, 0, 727]), (109, .iload 4, 2, []), (111, .iaload, 1, []), (112, .ldc 132, 2, [1000000000, 916]), (114, .if_icmp .ge 39, 3, []), (117, .aload_n 0, 1, []), (118, .getfield 23, 3, [7, 4, 0, 726]), (121, .iload 4, 2, []), (123, .bipush 6, 2, []), (125, .irem, 1, []), (126, .iaload, 1, []), (127, .ldc 132, 2, [1000000000, 916]), (129, .if_icmp .ge 24, 3, []), (132, .aload_n 0, 1, []), (133, .getfield 26, 3, [7, 5, 0, 727]), (136, .iload 4, 2, []), (138, .iaload, 1, []), (139, .aload_n 0, 1, []), (140, .getfield 23, 3, [7, 4, 0, 726]), (143, .iload 4, 2, []), (145, .bipush 6, 2, [])]
def mt_137_2 : List (Nat × mx_I) := [(147, .irem, 1, []), (148, .iaload, 1, []), (149, .iadd, 1, []), (150, .goto 5, 3, []), (153, .ldc 132, 2, [1000000000, 916]), (155, .istore 5, 2, []), (157, .aload_n 0, 1, []), (158, .getfield 23, 3, [7, 4, 0, 726]), (161, .iload 4, 2, []), (163, .bipush 6, 2, []), (165, .idiv, 1, []), (166, .iload 5, 2, []), (168, .aload_n 0, 1, []), (169, .getfield 23, 3, [7, 4, 0, 726]), (172, .iload 4, 2, []), (174, .bipush 6, 2, []), (176, .idiv, 1, []), (177, .iaload, 1, []), (178, .if_icmp .ge 8, 3, []), (181, .iload 5, 2, []), (183, .goto 13, 3, []), (186, .aload_n 0, 1, []), (187, .getfield 23, 3, [7, 4, 0, 726]), (190, .iload 4, 2, []), (192, .bipush 6, 2, []), (194, .idiv, 1, []), (195, .iaload, 1, []), (196, .iastore, 1, []), (197, .iinc 4 1, 3, []), (200, .goto (-102), 3, []), (203, .iinc 3 1, 3, []), (206, .goto (-117), 3, []), (209, .return_, 1, [])]
def mt_137 : List (Nat × mx_I) := mt_137_0 ++ (mt_137_1 ++ (mt_137_2))
def mh_138 : mx_HD := (⟨"MainsLettersModel", "nextOn", "(I)I"⟩, prog_11_method_27_code, 3, (some .int), 920)
def mt_138 : List (Nat × mx_I) := [(0, .iconst 0, 1, []), (1, .istore_n 2, 1, []), (2, .aload_n 0, 1, []), (3, .getfield 26, 3, [7, 5, 0, 727]), (6, .bipush 6, 2, []), (8, .iload_n 1, 1, []), (9, .imul, 1, []), (10, .iload_n 2, 1, []), (11, .iadd, 1, []), (12, .iaload, 1, []), (13, .ldc 132, 2, [1000000000, 916]), (15, .if_icmp .ge 41, 3, []), (18, .aload_n 0, 1, []), (19, .getfield 23, 3, [7, 4, 0, 726]), (22, .iload_n 2, 1, []), (23, .iaload, 1, []), (24, .ldc 132, 2, [1000000000, 916]), (26, .if_icmp .ge 30, 3, []), (29, .aload_n 0, 1, []), (30, .getfield 26, 3, [7, 5, 0, 727]), (33, .bipush 6, 2, []), (35, .iload_n 1, 1, []), (36, .imul, 1, []), (37, .iload_n 2, 1, []), (38, .iadd, 1, []), (39, .iaload, 1, []), (40, .aload_n 0, 1, []), (41, .getfield 23, 3, [7, 4, 0, 726]), (44, .iload_n 2, 1, []), (45, .iaload, 1, []), (46, .iadd, 1, []), (47, .aload_n 0, 1, []), (48, .getfield 23, 3, [7, 4, 0, 726]), (51, .iload_n 1, 1, []), (52, .iaload, 1, []), (53, .if_icmp .eq 9, 3, []), (56, .iinc 2 1, 3, []), (59, .goto (-57), 3, []), (62, .iload_n 2, 1, []), (63, .ireturn, 1, [])]
def mh_139 : mx_HD := (⟨"MainsLettersModel", "way", "(IIII)I"⟩, prog_11_method_28_code, 8, (some .int), 911)
def mt_139_0 : List (Nat × mx_I) := [(0, .iload_n 1, 1, []), (1, .iload_n 2, 1, []), (2, .invokestatic 86, 3, [115, 3, 2, 824, 825, 74]), (5, .ifCond .ne 5, 3, []), (8, .iconst (-1), 1, []), (9, .ireturn, 1, []), (10, .iload_n 3, 1, []), (11, .iconst 1, 1, []), (12, .sipush 2000, 3, []), (15, .invokestatic 78, 3, [113, 1, 3, 830, 831, 74]), (18, .ifCond .eq 14, 3, []), (21, .iload 4, 2, []), (23, .bipush (-2), 2, []), (25, .iconst 5, 1, []), (26, .invokestatic 78, 3, [113, 1, 3, 830, 831, 74]), (29, .ifCond .ne 6, 3, []), (32, .bipush (-2), 2, []), (34, .ireturn, 1, []), (35, .aload_n 0, 1, []), (36, .iload_n 2, 1, []), (37, .iload_n 3, 1, []), (38, .invokevirtual 133, 3, [137, 6, 2, 912, 914, 41, 74, 7]), (41, .aload_n 0, 1, []), (42, .getfield 23, 3, [7, 4, 0, 726]), (45, .iload_n 1, 1, []), (46, .iaload, 1, []), (47, .ldc 132, 2, [1000000000, 916]), (49, .if_icmp .lt 6, 3, []), (52, .bipush (-9), 2, []), (54, .ireturn, 1, []), (55, .aload_n 0, 1, []), (56, .getfield 23, 3, [7, 4, 0, 726]), (59, .iload_n 1, 1, []), (60, .iaload, 1, []), (61, .bipush 8, 2, []), (63, .irem, 1, []), (64, .istore 5, 2, []), (66, .iload 4, 2, []), (68, .ifCond .ge 25, 3, []), (71, .iload 4, 2, [])]
def mt_139_1 : List (Nat × mx_I) := [(73, .bipush (-2), 2, []), (75, .if_icmp .ne 15, 3, []), (78, .aload_n 0, 1, []), (79, .getfield 23, 3, [7, 4, 0, 726]), (82, .iload_n 1, 1, []), (83, .iaload, 1, []), (84, .bipush 8, 2, []), (86, .idiv, 1, []), (87, .goto 5, 3, []), (90, .iload 5, 2, []), (92, .ireturn, 1, []), (93, .iload 4, 2, []), (95, .iload 5, 2, []), (97, .if_icmp .lt 6, 3, []), (100, .bipush (-9), 2, []), (102, .ireturn, 1, []), (103, .iload_n 1, 1, []), (104, .istore 6, 2, []), (106, .iconst 0, 1, []), (107, .istore 7, 2, []), (109, .iload 7, 2, []), (111, .iload 4, 2, []), (113, .if_icmp .ge 17, 3, []), (116, .aload_n 0, 1, []), (117, .iload 6, 2, []), (119, .invokevirtual 137, 3, [138, 1, 1, 917, 919, 42, 74, 7]), (122, .istore 6, 2, []), (124, .iinc 7 1, 3, []), (127, .goto (-18), 3, []), (130, .iload 6, 2, []), (132, .ireturn, 1, [])]
def mt_139 : List (Nat × mx_I) := mt_139_0 ++ (mt_139_1)
def mh_140 : mx_HD := (⟨"MainsLettersModel", "seed", "(I)I"⟩, prog_11_method_29_code, 3, (some .int), 924)
def mt_140 : List (Nat × mx_I) := [(0, .aload_n 0, 1, []), (1, .getfield 29, 3, [7, 6, 0, 728]), (4, .istore_n 2, 1, []), (5, .aload_n 0, 1, []), (6, .iload_n 1, 1, []), (7, .putfield 29, 3, [7, 6, 0, 0, 728]), (10, .iload_n 2, 1, []), (11, .ireturn, 1, [])]
def mh_141 : mx_HD := (⟨"MainsLettersModel", "nextSeed", "(I)I"⟩, prog_11_method_30_code, 1, (some .int), 935)
def mt_141 : List (Nat × mx_I) := [(0, .ldc 141, 2, [1103515245, 936]), (2, .iload_n 0, 1, []), (3, .imul, 1, []), (4, .sipush 12345, 3, []), (7, .iadd, 1, []), (8, .ireturn, 1, [])]
def mh_142 : mx_HD := (⟨"MainsLettersModel", "widthOf", "(II)I"⟩, prog_11_method_31_code, 2, (some .int), 939)
def mt_142 : List (Nat × mx_I) := [(0, .iload_n 0, 1, []), (1, .iconst 2, 1, []), (2, .if_icmp .ge 8, 3, []), (5, .bipush 8, 2, []), (7, .iload_n 1, 1, []), (8, .ishl, 1, []), (9, .ireturn, 1, []), (10, .iload_n 1, 1, []), (11, .ifCond .ne 8, 3, []), (14, .bipush 8, 2, []), (16, .goto 15, 3, []), (19, .iload_n 1, 1, []), (20, .iconst 3, 1, []), (21, .if_icmp .ne 8, 3, []), (24, .bipush 32, 2, []), (26, .goto 5, 3, []), (29, .bipush 16, 2, []), (31, .ireturn, 1, [])]
def mh_143 : mx_HD := (⟨"MainsLettersModel", "draws", "(II)V"⟩, prog_11_method_32_code, 3, none, 932)
def mt_143_0 : List (Nat × mx_I) := [(0, .aload_n 0, 1, []), (1, .aload_n 0, 1, []), (2, .getfield 29, 3, [7, 6, 0, 728]), (5, .invokestatic 142, 3, [141, 1, 1, 933, 934, 74]), (8, .putfield 29, 3, [7, 6, 0, 0, 728]), (11, .aload_n 0, 1, []), (12, .getfield 44, 3, [7, 11, 0, 733]), (15, .iload_n 1, 1, []), (16, .iload_n 2, 1, []), (17, .iastore, 1, []), (18, .aload_n 0, 1, []), (19, .getfield 47, 3, [7, 12, 0, 734]), (22, .iload_n 1, 1, []), (23, .aload_n 0, 1, []), (24, .getfield 29, 3, [7, 6, 0, 728]), (27, .bipush 16, 2, []), (29, .iushr, 1, []), (30, .aload_n 0, 1, []), (31, .getfield 38, 3, [7, 9, 0, 731]), (34, .iload_n 1, 1, []), (35, .iaload, 1, []), (36, .iload_n 2, 1, []), (37, .invokestatic 145, 3, [142, 1, 2, 937, 938, 74]), (40, .irem, 1, []), (41, .iastore, 1, []), (42, .aload_n 0, 1, []), (43, .getfield 50, 3, [7, 13, 0, 735]), (46, .iload_n 1, 1, []), (47, .iload_n 2, 1, []), (48, .iconst 3, 1, []), (49, .if_icmp .ne 8, 3, []), (52, .bipush 15, 2, []), (54, .goto 13, 3, []), (57, .iload_n 2, 1, []), (58, .iconst 2, 1, []), (59, .if_icmp .ne 7, 3, []), (62, .iconst 3, 1, []), (63, .goto 4, 3, []), (66, .iload_n 2, 1, []), (67, .iastore, 1, [])]
def mt_143_1 : List (Nat × mx_I) := [(68, .return_, 1, [])]
def mt_143 : List (Nat × mx_I) := mt_143_0 ++ (mt_143_1)
def mh_144 : mx_HD := (⟨"MainsLettersModel", "drawsMore", "(I)V"⟩, prog_11_method_33_code, 2, none, 986)
def mt_144 : List (Nat × mx_I) := [(0, .aload_n 0, 1, []), (1, .iload_n 1, 1, []), (2, .aload_n 0, 1, []), (3, .getfield 44, 3, [7, 11, 0, 733]), (6, .iload_n 1, 1, []), (7, .iaload, 1, []), (8, .iconst 3, 1, []), (9, .if_icmp .ge 14, 3, []), (12, .aload_n 0, 1, []), (13, .getfield 44, 3, [7, 11, 0, 733]), (16, .iload_n 1, 1, []), (17, .iaload, 1, []), (18, .iconst 1, 1, []), (19, .iadd, 1, []), (20, .goto 4, 3, []), (23, .iconst 3, 1, []), (24, .invokevirtual 148, 3, [143, 2, 2, 929, 931, 43, 74, 7]), (27, .return_, 1, [])]
def mh_145 : mx_HD := (⟨"MainsLettersModel", "write", "(IIII)I"⟩, prog_11_method_34_code, 5, (some .int), 928)
def mt_145_0 : List (Nat × mx_I) := [(0, .iload_n 1, 1, []), (1, .iload_n 2, 1, []), (2, .invokestatic 86, 3, [115, 3, 2, 824, 825, 74]), (5, .ifCond .ne 5, 3, []), (8, .iconst (-1), 1, []), (9, .ireturn, 1, []), (10, .iload_n 3, 1, []), (11, .iconst 0, 1, []), (12, .iconst 3, 1, []), (13, .invokestatic 78, 3, [113, 1, 3, 830, 831, 74]), (16, .ifCond .eq 15, 3, []), (19, .iload 4, 2, []), (21, .iconst 1, 1, []), (22, .sipush 400, 3, []), (25, .invokestatic 78, 3, [113, 1, 3, 830, 831, 74]), (28, .ifCond .ne 6, 3, []), (31, .bipush (-2), 2, []), (33, .ireturn, 1, []), (34, .aload_n 0, 1, []), (35, .getfield 32, 3, [7, 7, 0, 729]), (38, .iload_n 1, 1, []), (39, .iaload, 1, []), (40, .ifCond .ne 12, 3, []), (43, .aload_n 0, 1, []), (44, .iload_n 1, 1, []), (45, .iload_n 2, 1, []), (46, .invokevirtual 113, 3, [129, 5, 2, 889, 891, 38, 74, 7]), (49, .ifCond .ne 6, 3, []), (52, .bipush (-3), 2, []), (54, .ireturn, 1, []), (55, .aload_n 0, 1, []), (56, .getfield 32, 3, [7, 7, 0, 729]), (59, .iload_n 1, 1, []), (60, .iconst 1, 1, []), (61, .iastore, 1, []), (62, .aload_n 0, 1, []), (63, .getfield 35, 3, [7, 8, 0, 730]), (66, .iload_n 1, 1, []), (67, .iload_n 2, 1, []), (68, .iastore, 1, [])]
def mt_145_1 : List (Nat × mx_I) := [(69, .aload_n 0, 1, []), (70, .getfield 38, 3, [7, 9, 0, 731]), (73, .iload_n 1, 1, []), (74, .iload_n 3, 1, []), (75, .iastore, 1, []), (76, .aload_n 0, 1, []), (77, .getfield 41, 3, [7, 10, 0, 732]), (80, .iload_n 1, 1, []), (81, .iload 4, 2, []), (83, .iastore, 1, []), (84, .aload_n 0, 1, []), (85, .iload_n 1, 1, []), (86, .iconst 0, 1, []), (87, .invokevirtual 148, 3, [143, 2, 2, 929, 931, 43, 74, 7]), (90, .aload_n 0, 1, []), (91, .getfield 47, 3, [7, 12, 0, 734]), (94, .iload_n 1, 1, []), (95, .iaload, 1, []), (96, .ireturn, 1, [])]
def mt_145 : List (Nat × mx_I) := mt_145_0 ++ (mt_145_1)
def mh_146 : mx_HD := (⟨"MainsLettersModel", "unwrite", "(I)I"⟩, prog_11_method_35_code, 2, (some .int), 943)
def mt_146 : List (Nat × mx_I) := [(0, .iload_n 1, 1, []), (1, .invokestatic 82, 3, [114, 2, 1, 827, 828, 74]), (4, .ifCond .ne 5, 3, []), (7, .iconst (-1), 1, []), (8, .ireturn, 1, []), (9, .aload_n 0, 1, []), (10, .getfield 32, 3, [7, 7, 0, 729]), (13, .iload_n 1, 1, []), (14, .iaload, 1, []), (15, .iconst 1, 1, []), (16, .if_icmp .eq 6, 3, []), (19, .bipush (-3), 2, []), (21, .ireturn, 1, []), (22, .aload_n 0, 1, []), (23, .getfield 32, 3, [7, 7, 0, 729]), (26, .iload_n 1, 1, []), (27, .iconst 0, 1, []), (28, .iastore, 1, []), (29, .aload_n 0, 1, []), (30, .getfield 41, 3, [7, 10, 0, 732]), (33, .iload_n 1, 1, []), (34, .iaload, 1, []), (35, .ireturn, 1, [])]
def mh_147 : mx_HD := (⟨"MainsLettersModel", "setThat", "(I)I"⟩, prog_11_method_36_code, 4, (some .int), 955)
def mt_147 : List (Nat × mx_I) := [(0, .iconst 0, 1, []), (1, .istore_n 2, 1, []), (2, .iconst 0, 1, []), (3, .istore_n 3, 1, []), (4, .iload_n 3, 1, []), (5, .bipush 6, 2, []), (7, .if_icmp .ge 29, 3, []), (10, .iload_n 2, 1, []), (11, .aload_n 0, 1, []), (12, .getfield 32, 3, [7, 7, 0, 729]), (15, .iload_n 3, 1, []), (16, .iaload, 1, []), (17, .iload_n 1, 1, []), (18, .if_icmp .ne 9, 3, []), (21, .iconst 1, 1, []), (22, .iload_n 3, 1, []), (23, .ishl, 1, []), (24, .goto 4, 3, []), (27, .iconst 0, 1, []), (28, .ior, 1, []), (29, .istore_n 2, 1, []), (30, .iinc 3 1, 3, []), (33, .goto (-29), 3, []), (36, .iload_n 2, 1, []), (37, .ireturn, 1, [])]
def mh_148 : mx_HD := (⟨"MainsLettersModel", "isIn", "(II)Z"⟩, prog_11_method_37_code, 2, (some .boolean), 962)
def mt_148 : List (Nat × mx_I) := [(0, .iload_n 0, 1, []), (1, .iload_n 1, 1, []), (2, .ishr, 1, []), (3, .iconst 1, 1, []), (4, .iand, 1, []), (5, .iconst 1, 1, []), (6, .if_icmp .ne 7, 3, []), (9, .iconst 1, 1, []), (10, .goto 4, 3, []), (13, .iconst 0, 1, []), (14, .ireturn, 1, [])]
def mh_149 : mx_HD := (⟨"MainsLettersModel", "hearsOne", "(II)Z"⟩, prog_11_method_38_code, 5, (some .boolean), 970)
def mt_149 : List (Nat × mx_I) := [(0, .iconst 0, 1, []), (1, .istore_n 3, 1, []), (2, .iconst 0, 1, []), (3, .istore 4, 2, []), (5, .iload 4, 2, []), (7, .bipush 6, 2, []), (9, .if_icmp .ge 38, 3, []), (12, .iload_n 3, 1, []), (13, .ifCond .ne 22, 3, []), (16, .iload_n 2, 1, []), (17, .iload 4, 2, []), (19, .invokestatic 151, 3, [148, 1, 2, 960, 961, 74]), (22, .ifCond .eq 17, 3, []), (25, .aload_n 0, 1, []), (26, .iload_n 1, 1, []), (27, .iload 4, 2, []), (29, .invokevirtual 110, 3, [128, 4, 2, 885, 887, 37, 74, 7]), (32, .ifCond .eq 7, 3, []), (35, .iconst 1, 1, []), (36, .goto 4, 3, []), (39, .iconst 0, 1, []), (40, .istore_n 3, 1, []), (41, .iinc 4 1, 3, []), (44, .goto (-39), 3, []), (47, .iload_n 3, 1, []), (48, .ireturn, 1, [])]
def mh_150 : mx_HD := (⟨"MainsLettersModel", "isHeld", "(III)Z"⟩, prog_11_method_39_code, 6, (some .boolean), 966)
def mt_150 : List (Nat × mx_I) := [(0, .aload_n 0, 1, []), (1, .iload_n 1, 1, []), (2, .iload_n 3, 1, []), (3, .invokevirtual 154, 3, [149, 5, 2, 967, 969, 48, 74, 7]), (6, .istore 4, 2, []), (8, .iconst 0, 1, []), (9, .istore 5, 2, []), (11, .iload 5, 2, []), (13, .bipush 6, 2, []), (15, .if_icmp .ge 56, 3, []), (18, .iload 4, 2, []), (20, .ifCond .ne 38, 3, []), (23, .iload_n 2, 1, []), (24, .iload 5, 2, []), (26, .invokestatic 151, 3, [148, 1, 2, 960, 961, 74]), (29, .ifCond .eq 33, 3, []), (32, .aload_n 0, 1, []), (33, .getfield 38, 3, [7, 9, 0, 731]), (36, .iload 5, 2, []), (38, .iaload, 1, []), (39, .aload_n 0, 1, []), (40, .getfield 38, 3, [7, 9, 0, 731]), (43, .iload_n 1, 1, []), (44, .iaload, 1, []), (45, .if_icmp .le 17, 3, []), (48, .aload_n 0, 1, []), (49, .iload_n 1, 1, []), (50, .iload 5, 2, []), (52, .invokevirtual 110, 3, [128, 4, 2, 885, 887, 37, 74, 7]), (55, .ifCond .eq 7, 3, []), (58, .iconst 1, 1, []), (59, .goto 4, 3, []), (62, .iconst 0, 1, []), (63, .istore 4, 2, []), (65, .iinc 5 1, 3, []), (68, .goto (-57), 3, []), (71, .iload 4, 2, []), (73, .ireturn, 1, [])]
def mh_151 : mx_HD := (⟨"MainsLettersModel", "findStarts", "(II)I"⟩, prog_11_method_40_code, 6, (some .int), 959)
def mt_151_0 : List (Nat × mx_I) := [(0, .iconst 0, 1, []), (1, .istore_n 3, 1, []), (2, .iconst 0, 1, []), (3, .istore 4, 2, []), (5, .iload 4, 2, []), (7, .bipush 6, 2, []), (9, .if_icmp .ge 92, 3, []), (12, .iload_n 1, 1, []), (13, .iload 4, 2, []), (15, .invokestatic 151, 3, [148, 1, 2, 960, 961, 74]), (18, .ifCond .eq 18, 3, []), (21, .aload_n 0, 1, []), (22, .iload 4, 2, []), (24, .iload_n 1, 1, []), (25, .iload_n 2, 1, []), (26, .invokevirtual 157, 3, [150, 6, 3, 963, 965, 47, 74, 7]), (29, .ifCond .ne 7, 3, []), (32, .iconst 1, 1, []), (33, .goto 4, 3, []), (36, .iconst 0, 1, []), (37, .istore 5, 2, []), (39, .iload_n 3, 1, []), (40, .iload 5, 2, []), (42, .ifCond .eq 20, 3, []), (45, .aload_n 0, 1, []), (46, .getfield 47, 3, [7, 12, 0, 734]), (49, .iload 4, 2, []), (51, .iaload, 1, []), (52, .ifCond .ne 10, 3, []), (55, .iconst 1, 1, []), (56, .iload 4, 2, []), (58, .ishl, 1, []), (59, .goto 4, 3, []), (62, .iconst 0, 1, []), (63, .ior, 1, []), (64, .istore_n 3, 1, []), (65, .aload_n 0, 1, []), (66, .getfield 47, 3, [7, 12, 0, 734]), (69, .iload 4, 2, []), (71, .dup2, 1, [])]
def mt_151_1 : List (Nat × mx_I) := [(72, .iaload, 1, []), (73, .iload 5, 2, []), (75, .ifCond .eq 17, 3, []), (78, .aload_n 0, 1, []), (79, .getfield 47, 3, [7, 12, 0, 734]), (82, .iload 4, 2, []), (84, .iaload, 1, []), (85, .ifCond .le 7, 3, []), (88, .iconst 1, 1, []), (89, .goto 4, 3, []), (92, .iconst 0, 1, []), (93, .isub, 1, []), (94, .iastore, 1, []), (95, .iinc 4 1, 3, []), (98, .goto (-93), 3, []), (101, .iload_n 3, 1, []), (102, .ireturn, 1, [])]
def mt_151 : List (Nat × mx_I) := mt_151_0 ++ (mt_151_1)
def mh_152 : mx_HD := (⟨"MainsLettersModel", "starts", "(I)I"⟩, prog_11_method_41_code, 4, (some .int), 974)
def mt_152_0 : List (Nat × mx_I) := [(0, .iconst 0, 1, []), (1, .istore_n 2, 1, []), (2, .iconst 0, 1, []), (3, .istore_n 3, 1, []), (4, .iload_n 3, 1, []), (5, .bipush 6, 2, []), (7, .if_icmp .ge 107, 3, []), (10, .iload_n 1, 1, []), (11, .iload_n 3, 1, []), (12, .invokestatic 151, 3, [148, 1, 2, 960, 961, 74]), (15, .ifCond .eq 68, 3, []), (18, .aload_n 0, 1, []), (19, .iload_n 3, 1, []), (20, .aload_n 0, 1, []), (21, .getfield 35, 3, [7, 8, 0, 730]), (24, .iload_n 3, 1, []), (25, .iaload, 1, []), (26, .invokevirtual 113, 3, [129, 5, 2, 889, 891, 38, 74, 7]), (29, .ifCond .eq 54, 3, []), (32, .aload_n 0, 1, []), (33, .getfield 32, 3, [7, 7, 0, 729]), (36, .iload_n 3, 1, []), (37, .iconst 2, 1, []), (38, .iastore, 1, []), (39, .aload_n 0, 1, []), (40, .getfield 53, 3, [7, 14, 0, 736]), (43, .iload_n 3, 1, []), (44, .aload_n 0, 1, []), (45, .iload_n 3, 1, []), (46, .aload_n 0, 1, []), (47, .getfield 35, 3, [7, 8, 0, 730]), (50, .iload_n 3, 1, []), (51, .iaload, 1, []), (52, .aload_n 0, 1, []), (53, .getfield 41, 3, [7, 10, 0, 732]), (56, .iload_n 3, 1, []), (57, .iaload, 1, []), (58, .invokevirtual 129, 3, [135, 4, 3, 901, 903, 40, 74, 7]), (61, .bipush 10, 2, []), (63, .invokestatic 126, 3, [134, 1, 2, 905, 906, 74])]
def mt_152_1 : List (Nat × mx_I) := [(66, .iastore, 1, []), (67, .aload_n 0, 1, []), (68, .getfield 56, 3, [7, 15, 0, 737]), (71, .iload_n 3, 1, []), (72, .iconst 0, 1, []), (73, .bastore, 1, []), (74, .iload_n 2, 1, []), (75, .iconst 1, 1, []), (76, .iload_n 3, 1, []), (77, .ishl, 1, []), (78, .ior, 1, []), (79, .istore_n 2, 1, []), (80, .goto 28, 3, []), (83, .iload_n 1, 1, []), (84, .iload_n 3, 1, []), (85, .invokestatic 151, 3, [148, 1, 2, 960, 961, 74]), (88, .ifCond .eq 20, 3, []), (91, .aload_n 0, 1, []), (92, .getfield 32, 3, [7, 7, 0, 729]), (95, .iload_n 3, 1, []), (96, .iconst 0, 1, []), (97, .iastore, 1, []), (98, .aload_n 0, 1, []), (99, .dup, 1, []), (100, .getfield 160, 3, [7, 20, 0, 742]), (103, .iconst 1, 1, []), (104, .iadd, 1, []), (105, .putfield 160, 3, [7, 20, 0, 0, 742]), (108, .iinc 3 1, 3, []), (111, .goto (-107), 3, []), (114, .iload_n 2, 1, []), (115, .ireturn, 1, [])]
def mt_152 : List (Nat × mx_I) := mt_152_0 ++ (mt_152_1)
def mh_153 : mx_HD := (⟨"MainsLettersModel", "spoils", "()V"⟩, prog_11_method_42_code, 4, none, 978)
def mt_153_0 : List (Nat × mx_I) := [(0, .aload_n 0, 1, []), (1, .iconst 2, 1, []), (2, .invokevirtual 163, 3, [147, 1, 1, 952, 954, 45, 74, 7]), (5, .istore_n 1, 1, []), (6, .iconst 0, 1, []), (7, .istore_n 2, 1, []), (8, .iload_n 2, 1, []), (9, .bipush 6, 2, []), (11, .if_icmp .ge 80, 3, []), (14, .iload_n 1, 1, []), (15, .iload_n 2, 1, []), (16, .invokestatic 151, 3, [148, 1, 2, 960, 961, 74]), (19, .ifCond .eq 66, 3, []), (22, .iload_n 1, 1, []), (23, .aload_n 0, 1, []), (24, .getfield 35, 3, [7, 8, 0, 730]), (27, .iload_n 2, 1, []), (28, .iaload, 1, []), (29, .invokestatic 151, 3, [148, 1, 2, 960, 961, 74]), (32, .ifCond .ne 23, 3, []), (35, .aload_n 0, 1, []), (36, .aload_n 0, 1, []), (37, .getfield 35, 3, [7, 8, 0, 730]), (40, .iload_n 2, 1, []), (41, .iaload, 1, []), (42, .iload_n 1, 1, []), (43, .iconst 1, 1, []), (44, .iload_n 2, 1, []), (45, .ishl, 1, []), (46, .iconst (-1), 1, []), (47, .ixor, 1, []), (48, .iand, 1, []), (49, .invokevirtual 154, 3, [149, 5, 2, 967, 969, 48, 74, 7]), (52, .ifCond .eq 7, 3, []), (55, .iconst 1, 1, []), (56, .goto 4, 3, []), (59, .iconst 0, 1, []), (60, .istore_n 3, 1, []), (61, .aload_n 0, 1, []), (62, .getfield 56, 3, [7, 15, 0, 737])]
def mt_153_1 : List (Nat × mx_I) := [(65, .iload_n 2, 1, []), (66, .aload_n 0, 1, []), (67, .getfield 56, 3, [7, 15, 0, 737]), (70, .iload_n 2, 1, []), (71, .baload, 1, []), (72, .ifCond .ne 7, 3, []), (75, .iload_n 3, 1, []), (76, .ifCond .eq 7, 3, []), (79, .iconst 1, 1, []), (80, .goto 4, 3, []), (83, .iconst 0, 1, []), (84, .bastore, 1, []), (85, .iinc 2 1, 3, []), (88, .goto (-80), 3, []), (91, .return_, 1, [])]
def mt_153 : List (Nat × mx_I) := mt_153_0 ++ (mt_153_1)
def mh_154 : mx_HD := (⟨"MainsLettersModel", "ends", "()I"⟩, prog_11_method_43_code, 3, (some .int), 982)
def mt_154_0 : List (Nat × mx_I) := [(0, .iconst 0, 1, []), (1, .istore_n 1, 1, []), (2, .iconst 0, 1, []), (3, .istore_n 2, 1, []), (4, .iload_n 2, 1, []), (5, .bipush 6, 2, []), (7, .if_icmp .ge 113, 3, []), (10, .aload_n 0, 1, []), (11, .getfield 32, 3, [7, 7, 0, 729]), (14, .iload_n 2, 1, []), (15, .iaload, 1, []), (16, .iconst 2, 1, []), (17, .if_icmp .eq 6, 3, []), (20, .goto 94, 3, []), (23, .aload_n 0, 1, []), (24, .getfield 53, 3, [7, 14, 0, 736]), (27, .iload_n 2, 1, []), (28, .dup2, 1, []), (29, .iaload, 1, []), (30, .iconst 1, 1, []), (31, .isub, 1, []), (32, .iastore, 1, []), (33, .aload_n 0, 1, []), (34, .getfield 53, 3, [7, 14, 0, 736]), (37, .iload_n 2, 1, []), (38, .iaload, 1, []), (39, .ifCond .le 6, 3, []), (42, .goto 72, 3, []), (45, .aload_n 0, 1, []), (46, .getfield 56, 3, [7, 15, 0, 737]), (49, .iload_n 2, 1, []), (50, .baload, 1, []), (51, .ifCond .eq 28, 3, []), (54, .aload_n 0, 1, []), (55, .getfield 63, 3, [7, 17, 0, 739]), (58, .iload_n 2, 1, []), (59, .dup2, 1, []), (60, .iaload, 1, []), (61, .iconst 1, 1, []), (62, .iadd, 1, [])]
def mt_154_1 : List (Nat × mx_I) := [(63, .iastore, 1, []), (64, .aload_n 0, 1, []), (65, .getfield 32, 3, [7, 7, 0, 729]), (68, .iload_n 2, 1, []), (69, .iconst 1, 1, []), (70, .iastore, 1, []), (71, .aload_n 0, 1, []), (72, .iload_n 2, 1, []), (73, .invokevirtual 166, 3, [144, 3, 1, 983, 985, 52, 74, 7]), (76, .goto 38, 3, []), (79, .aload_n 0, 1, []), (80, .getfield 60, 3, [7, 16, 0, 738]), (83, .iload_n 2, 1, []), (84, .dup2, 1, []), (85, .iaload, 1, []), (86, .iconst 1, 1, []), (87, .iadd, 1, []), (88, .iastore, 1, []), (89, .aload_n 0, 1, []), (90, .getfield 66, 3, [7, 18, 0, 740]), (93, .aload_n 0, 1, []), (94, .getfield 35, 3, [7, 8, 0, 730]), (97, .iload_n 2, 1, []), (98, .iaload, 1, []), (99, .dup2, 1, []), (100, .iaload, 1, []), (101, .iconst 1, 1, []), (102, .iadd, 1, []), (103, .iastore, 1, []), (104, .aload_n 0, 1, []), (105, .getfield 32, 3, [7, 7, 0, 729]), (108, .iload_n 2, 1, []), (109, .iconst 0, 1, []), (110, .iastore, 1, []), (111, .iinc 1 1, 3, []), (114, .iinc 2 1, 3, []), (117, .goto (-113), 3, []), (120, .iload_n 1, 1, []), (121, .ireturn, 1, [])]
def mt_154 : List (Nat × mx_I) := mt_154_0 ++ (mt_154_1)
def mh_155 : mx_HD := (⟨"MainsLettersModel", "defers", "(II)V"⟩, prog_11_method_44_code, 5, none, 990)
def mt_155_0 : List (Nat × mx_I) := [(0, .iconst 0, 1, []), (1, .istore_n 3, 1, []), (2, .iload_n 3, 1, []), (3, .bipush 6, 2, []), (5, .if_icmp .ge 103, 3, []), (8, .iload_n 1, 1, []), (9, .iload_n 3, 1, []), (10, .invokestatic 151, 3, [148, 1, 2, 960, 961, 74]), (13, .ifCond .eq 26, 3, []), (16, .aload_n 0, 1, []), (17, .getfield 32, 3, [7, 7, 0, 729]), (20, .iload_n 3, 1, []), (21, .iaload, 1, []), (22, .iconst 1, 1, []), (23, .if_icmp .ne 16, 3, []), (26, .aload_n 0, 1, []), (27, .iload_n 3, 1, []), (28, .iload_n 2, 1, []), (29, .invokevirtual 154, 3, [149, 5, 2, 967, 969, 48, 74, 7]), (32, .ifCond .eq 7, 3, []), (35, .iconst 1, 1, []), (36, .goto 4, 3, []), (39, .iconst 0, 1, []), (40, .istore 4, 2, []), (42, .iload 4, 2, []), (44, .ifCond .eq 20, 3, []), (47, .aload_n 0, 1, []), (48, .getfield 50, 3, [7, 13, 0, 735]), (51, .iload_n 3, 1, []), (52, .iaload, 1, []), (53, .ifCond .ne 11, 3, []), (56, .aload_n 0, 1, []), (57, .iload_n 3, 1, []), (58, .invokevirtual 166, 3, [144, 3, 1, 983, 985, 52, 74, 7]), (61, .goto 41, 3, []), (64, .iload 4, 2, []), (66, .ifCond .eq 36, 3, []), (69, .aload_n 0, 1, []), (70, .getfield 50, 3, [7, 13, 0, 735]), (73, .iload_n 3, 1, [])]
def mt_155_1 : List (Nat × mx_I) := [(74, .dup2, 1, []), (75, .iaload, 1, []), (76, .iconst 1, 1, []), (77, .isub, 1, []), (78, .iastore, 1, []), (79, .aload_n 0, 1, []), (80, .getfield 47, 3, [7, 12, 0, 734]), (83, .iload_n 3, 1, []), (84, .dup2, 1, []), (85, .iaload, 1, []), (86, .aload_n 0, 1, []), (87, .getfield 47, 3, [7, 12, 0, 734]), (90, .iload_n 3, 1, []), (91, .iaload, 1, []), (92, .ifCond .le 7, 3, []), (95, .iconst 1, 1, []), (96, .goto 4, 3, []), (99, .iconst 0, 1, []), (100, .isub, 1, []), (101, .iastore, 1, []), (102, .iinc 3 1, 3, []), (105, .goto (-103), 3, []), (108, .return_, 1, [])]
def mt_155 : List (Nat × mx_I) := mt_155_0 ++ (mt_155_1)
def mh_156 : mx_HD := (⟨"MainsLettersModel", "slot", "()I"⟩, prog_11_method_45_code, 5, (some .int), 951)
def mt_156 : List (Nat × mx_I) := [(0, .aload_n 0, 1, []), (1, .iconst 1, 1, []), (2, .invokevirtual 163, 3, [147, 1, 1, 952, 954, 45, 74, 7]), (5, .istore_n 1, 1, []), (6, .aload_n 0, 1, []), (7, .iload_n 1, 1, []), (8, .aload_n 0, 1, []), (9, .iconst 2, 1, []), (10, .invokevirtual 163, 3, [147, 1, 1, 952, 954, 45, 74, 7]), (13, .invokevirtual 170, 3, [151, 7, 2, 956, 958, 46, 74, 7]), (16, .istore_n 2, 1, []), (17, .aload_n 0, 1, []), (18, .iload_n 2, 1, []), (19, .invokevirtual 173, 3, [152, 6, 1, 971, 973, 49, 74, 7]), (22, .istore_n 3, 1, []), (23, .aload_n 0, 1, []), (24, .invokevirtual 176, 3, [153, 6, 0, 975, 977, 50, 74, 7]), (27, .aload_n 0, 1, []), (28, .invokevirtual 179, 3, [154, 4, 0, 979, 981, 51, 74, 7]), (31, .istore 4, 2, []), (33, .aload_n 0, 1, []), (34, .iload_n 1, 1, []), (35, .iload_n 2, 1, []), (36, .iconst (-1), 1, []), (37, .ixor, 1, []), (38, .iand, 1, []), (39, .iload_n 3, 1, []), (40, .invokevirtual 183, 3, [155, 6, 2, 987, 989, 53, 74, 7]), (43, .aload_n 0, 1, []), (44, .dup, 1, []), (45, .getfield 186, 3, [7, 19, 0, 741]), (48, .iconst 1, 1, []), (49, .iadd, 1, []), (50, .putfield 186, 3, [7, 19, 0, 0, 741]), (53, .iload 4, 2, []), (55, .ireturn, 1, [])]
def mh_157 : mx_HD := (⟨"MainsLettersModel", "pass", "(I)I"⟩, prog_11_method_46_code, 4, (some .int), 947)
def mt_157 : List (Nat × mx_I) := [(0, .iload_n 1, 1, []), (1, .iconst 1, 1, []), (2, .sipush 1000, 3, []), (5, .invokestatic 78, 3, [113, 1, 3, 830, 831, 74]), (8, .ifCond .ne 6, 3, []), (11, .bipush (-2), 2, []), (13, .ireturn, 1, []), (14, .iconst 0, 1, []), (15, .istore_n 2, 1, []), (16, .iconst 0, 1, []), (17, .istore_n 3, 1, []), (18, .iload_n 3, 1, []), (19, .iload_n 1, 1, []), (20, .if_icmp .ge 16, 3, []), (23, .iload_n 2, 1, []), (24, .aload_n 0, 1, []), (25, .invokevirtual 189, 3, [156, 8, 0, 948, 950, 44, 74, 7]), (28, .iadd, 1, []), (29, .istore_n 2, 1, []), (30, .iinc 3 1, 3, []), (33, .goto (-15), 3, []), (36, .iload_n 2, 1, []), (37, .ireturn, 1, [])]
def mh_158 : mx_HD := (⟨"MainsLettersModel", "ofStation", "(II)I"⟩, prog_11_method_47_code, 6, (some .int), 994)
def mt_158_0 : List (Nat × mx_I) := [(0, .iload_n 1, 1, []), (1, .invokestatic 82, 3, [114, 2, 1, 827, 828, 74]), (4, .ifCond .ne 5, 3, []), (7, .iconst (-1), 1, []), (8, .ireturn, 1, []), (9, .aload_n 0, 1, []), (10, .getfield 32, 3, [7, 7, 0, 729]), (13, .iload_n 1, 1, []), (14, .iaload, 1, []), (15, .ifCond .eq 7, 3, []), (18, .iconst 1, 1, []), (19, .goto 4, 3, []), (22, .iconst 0, 1, []), (23, .istore_n 3, 1, []), (24, .aload_n 0, 1, []), (25, .getfield 32, 3, [7, 7, 0, 729]), (28, .iload_n 1, 1, []), (29, .iaload, 1, []), (30, .iconst 1, 1, []), (31, .if_icmp .ne 7, 3, []), (34, .iconst 1, 1, []), (35, .goto 4, 3, []), (38, .iconst 0, 1, []), (39, .istore 4, 2, []), (41, .aload_n 0, 1, []), (42, .getfield 32, 3, [7, 7, 0, 729]), (45, .iload_n 1, 1, []), (46, .iaload, 1, []), (47, .iconst 2, 1, []), (48, .if_icmp .ne 7, 3, []), (51, .iconst 1, 1, []), (52, .goto 4, 3, []), (55, .iconst 0, 1, []), (56, .istore 5, 2, []), (58, .iload_n 2, 1, []), (59, .tableswitch 241 0 12 #[65, 72, 79, 95, 111, 127, 144, 161, 178, 195, 220, 227, 234], 65, []), (124, .aload_n 0, 1, []), (125, .getfield 16, 3, [7, 2, 0, 724]), (128, .iload_n 1, 1, []), (129, .iaload, 1, [])]
def mt_158_1 : List (Nat × mx_I) := [(130, .ireturn, 1, []), (131, .aload_n 0, 1, []), (132, .getfield 32, 3, [7, 7, 0, 729]), (135, .iload_n 1, 1, []), (136, .iaload, 1, []), (137, .ireturn, 1, []), (138, .iload_n 3, 1, []), (139, .ifCond .eq 12, 3, []), (142, .aload_n 0, 1, []), (143, .getfield 35, 3, [7, 8, 0, 730]), (146, .iload_n 1, 1, []), (147, .iaload, 1, []), (148, .goto 5, 3, []), (151, .bipush (-9), 2, []), (153, .ireturn, 1, []), (154, .iload_n 3, 1, []), (155, .ifCond .eq 12, 3, []), (158, .aload_n 0, 1, []), (159, .getfield 38, 3, [7, 9, 0, 731]), (162, .iload_n 1, 1, []), (163, .iaload, 1, []), (164, .goto 5, 3, []), (167, .bipush (-9), 2, []), (169, .ireturn, 1, []), (170, .iload_n 3, 1, []), (171, .ifCond .eq 12, 3, []), (174, .aload_n 0, 1, []), (175, .getfield 41, 3, [7, 10, 0, 732]), (178, .iload_n 1, 1, []), (179, .iaload, 1, []), (180, .goto 5, 3, []), (183, .bipush (-9), 2, []), (185, .ireturn, 1, []), (186, .iload 4, 2, []), (188, .ifCond .eq 12, 3, []), (191, .aload_n 0, 1, []), (192, .getfield 44, 3, [7, 11, 0, 733]), (195, .iload_n 1, 1, []), (196, .iaload, 1, []), (197, .goto 5, 3, [])]
def mt_158_2 : List (Nat × mx_I) := [(200, .bipush (-9), 2, []), (202, .ireturn, 1, []), (203, .iload 4, 2, []), (205, .ifCond .eq 12, 3, []), (208, .aload_n 0, 1, []), (209, .getfield 47, 3, [7, 12, 0, 734]), (212, .iload_n 1, 1, []), (213, .iaload, 1, []), (214, .goto 5, 3, []), (217, .bipush (-9), 2, []), (219, .ireturn, 1, []), (220, .iload 4, 2, []), (222, .ifCond .eq 12, 3, []), (225, .aload_n 0, 1, []), (226, .getfield 50, 3, [7, 13, 0, 735]), (229, .iload_n 1, 1, []), (230, .iaload, 1, []), (231, .goto 5, 3, []), (234, .bipush (-9), 2, []), (236, .ireturn, 1, []), (237, .iload 5, 2, []), (239, .ifCond .eq 12, 3, []), (242, .aload_n 0, 1, []), (243, .getfield 53, 3, [7, 14, 0, 736]), (246, .iload_n 1, 1, []), (247, .iaload, 1, []), (248, .goto 5, 3, []), (251, .bipush (-9), 2, []), (253, .ireturn, 1, []), (254, .iload 5, 2, []), (256, .ifCond .ne 8, 3, []), (259, .bipush (-9), 2, []), (261, .goto 17, 3, []), (264, .aload_n 0, 1, []), (265, .getfield 56, 3, [7, 15, 0, 737]), (268, .iload_n 1, 1, []), (269, .baload, 1, []), (270, .ifCond .eq 7, 3, []), (273, .iconst 1, 1, []), (274, .goto 4, 3, [])]
def mt_158_3 : List (Nat × mx_I) := [(277, .iconst 0, 1, []), (278, .ireturn, 1, []), (279, .aload_n 0, 1, []), (280, .getfield 60, 3, [7, 16, 0, 738]), (283, .iload_n 1, 1, []), (284, .iaload, 1, []), (285, .ireturn, 1, []), (286, .aload_n 0, 1, []), (287, .getfield 63, 3, [7, 17, 0, 739]), (290, .iload_n 1, 1, []), (291, .iaload, 1, []), (292, .ireturn, 1, []), (293, .aload_n 0, 1, []), (294, .getfield 66, 3, [7, 18, 0, 740]), (297, .iload_n 1, 1, []), (298, .iaload, 1, []), (299, .ireturn, 1, []), (300, .bipush (-2), 2, []), (302, .ireturn, 1, [])]
def mt_158 : List (Nat × mx_I) := mt_158_0 ++ (mt_158_1 ++ (mt_158_2 ++ (mt_158_3)))
def mh_159 : mx_HD := (⟨"MainsLettersModel", "flowDraw", "()I"⟩, prog_11_method_48_code, 1, (some .int), 1009)
def mt_159 : List (Nat × mx_I) := [(0, .aload_n 0, 1, []), (1, .aload_n 0, 1, []), (2, .getfield 192, 3, [7, 21, 0, 743]), (5, .invokestatic 142, 3, [141, 1, 1, 933, 934, 74]), (8, .putfield 192, 3, [7, 21, 0, 0, 743]), (11, .aload_n 0, 1, []), (12, .getfield 192, 3, [7, 21, 0, 743]), (15, .bipush 16, 2, []), (17, .iushr, 1, []), (18, .bipush 10, 2, []), (20, .irem, 1, []), (21, .ireturn, 1, [])]
def mh_160 : mx_HD := (⟨"MainsLettersModel", "manyOf", "(I)I"⟩, prog_11_method_49_code, 3, (some .int), 1001)
def mt_160 : List (Nat × mx_I) := [(0, .iconst 0, 1, []), (1, .istore_n 1, 1, []), (2, .iconst 0, 1, []), (3, .istore_n 2, 1, []), (4, .iload_n 2, 1, []), (5, .bipush 31, 2, []), (7, .if_icmp .ge 17, 3, []), (10, .iload_n 1, 1, []), (11, .iload_n 0, 1, []), (12, .iload_n 2, 1, []), (13, .ishr, 1, []), (14, .iconst 1, 1, []), (15, .iand, 1, []), (16, .iadd, 1, []), (17, .istore_n 1, 1, []), (18, .iinc 2 1, 3, []), (21, .goto (-17), 3, []), (24, .iload_n 1, 1, []), (25, .ireturn, 1, [])]
def mh_161 : mx_HD := (⟨"MainsLettersModel", "goesFrame", "(IIII)V"⟩, prog_11_method_50_code, 9, none, 1005)
def mt_161_0 : List (Nat × mx_I) := [(0, .iconst 0, 1, []), (1, .istore 5, 2, []), (3, .iconst 0, 1, []), (4, .istore 6, 2, []), (6, .iconst 0, 1, []), (7, .istore 7, 2, []), (9, .iload 7, 2, []), (11, .iload_n 1, 1, []), (12, .if_icmp .ge 39, 3, []), (15, .iload 6, 2, []), (17, .iload_n 2, 1, []), (18, .if_icmp .ge 33, 3, []), (21, .aload_n 0, 1, []), (22, .getfield 195, 3, [7, 27, 0, 749]), (25, .iload 7, 2, []), (27, .invokestatic 151, 3, [148, 1, 2, 960, 961, 74]), (30, .ifCond .ne 15, 3, []), (33, .iload 5, 2, []), (35, .iconst 1, 1, []), (36, .iload 7, 2, []), (38, .ishl, 1, []), (39, .ior, 1, []), (40, .istore 5, 2, []), (42, .iinc 6 1, 3, []), (45, .iinc 7 1, 3, []), (48, .goto (-39), 3, []), (51, .iconst 0, 1, []), (52, .istore 7, 2, []), (54, .iload 7, 2, []), (56, .iload_n 1, 1, []), (57, .if_icmp .ge 66, 3, []), (60, .iload 5, 2, []), (62, .iload 7, 2, []), (64, .invokestatic 151, 3, [148, 1, 2, 960, 961, 74]), (67, .ifCond .eq 50, 3, []), (70, .aload_n 0, 1, []), (71, .invokevirtual 198, 3, [159, 2, 0, 1006, 1008, 55, 74, 7]), (74, .iload_n 3, 1, []), (75, .if_icmp .lt 42, 3, []), (78, .aload_n 0, 1, [])]
def mt_161_1 : List (Nat × mx_I) := [(79, .dup, 1, []), (80, .getfield 201, 3, [7, 24, 0, 746]), (83, .aload_n 0, 1, []), (84, .getfield 204, 3, [7, 26, 0, 748]), (87, .iload 7, 2, []), (89, .invokestatic 151, 3, [148, 1, 2, 960, 961, 74]), (92, .ifCond .eq 7, 3, []), (95, .iconst 1, 1, []), (96, .goto 4, 3, []), (99, .iconst 0, 1, []), (100, .iadd, 1, []), (101, .putfield 201, 3, [7, 24, 0, 0, 746]), (104, .aload_n 0, 1, []), (105, .dup, 1, []), (106, .getfield 204, 3, [7, 26, 0, 748]), (109, .iconst 1, 1, []), (110, .iload 7, 2, []), (112, .ishl, 1, []), (113, .ior, 1, []), (114, .putfield 204, 3, [7, 26, 0, 0, 748]), (117, .iinc 7 1, 3, []), (120, .goto (-66), 3, []), (123, .aload_n 0, 1, []), (124, .invokevirtual 198, 3, [159, 2, 0, 1006, 1008, 55, 74, 7]), (127, .iload 4, 2, []), (129, .if_icmp .lt 19, 3, []), (132, .aload_n 0, 1, []), (133, .dup, 1, []), (134, .getfield 195, 3, [7, 27, 0, 749]), (137, .iload 5, 2, []), (139, .aload_n 0, 1, []), (140, .getfield 204, 3, [7, 26, 0, 748]), (143, .iand, 1, []), (144, .ior, 1, []), (145, .putfield 195, 3, [7, 27, 0, 0, 749]), (148, .aload_n 0, 1, []), (149, .dup, 1, []), (150, .getfield 207, 3, [7, 22, 0, 744]), (153, .iconst 1, 1, []), (154, .iadd, 1, [])]
def mt_161_2 : List (Nat × mx_I) := [(155, .putfield 207, 3, [7, 22, 0, 0, 744]), (158, .aload_n 0, 1, []), (159, .dup, 1, []), (160, .getfield 210, 3, [7, 23, 0, 745]), (163, .iload 6, 2, []), (165, .iadd, 1, []), (166, .putfield 210, 3, [7, 23, 0, 0, 745]), (169, .iconst 0, 1, []), (170, .istore 7, 2, []), (172, .aload_n 0, 1, []), (173, .getfield 204, 3, [7, 26, 0, 748]), (176, .iload 7, 2, []), (178, .invokestatic 151, 3, [148, 1, 2, 960, 961, 74]), (181, .ifCond .eq 9, 3, []), (184, .iinc 7 1, 3, []), (187, .goto (-15), 3, []), (190, .aload_n 0, 1, []), (191, .getfield 204, 3, [7, 26, 0, 748]), (194, .iload 7, 2, []), (196, .ishr, 1, []), (197, .invokestatic 213, 3, [160, 1, 1, 999, 1000, 74]), (200, .istore 8, 2, []), (202, .aload_n 0, 1, []), (203, .iload 8, 2, []), (205, .aload_n 0, 1, []), (206, .getfield 216, 3, [7, 25, 0, 747]), (209, .if_icmp .le 8, 3, []), (212, .iload 8, 2, []), (214, .goto 7, 3, []), (217, .aload_n 0, 1, []), (218, .getfield 216, 3, [7, 25, 0, 747]), (221, .putfield 216, 3, [7, 25, 0, 0, 747]), (224, .return_, 1, [])]
def mt_161 : List (Nat × mx_I) := mt_161_0 ++ (mt_161_1 ++ (mt_161_2))
def mh_162 : mx_HD := (⟨"MainsLettersModel", "flow", "(IIIIII)I"⟩, prog_11_method_51_code, 7, (some .int), 998)
def mt_162_0 : List (Nat × mx_I) := [(0, .iload_n 1, 1, []), (1, .iconst 1, 1, []), (2, .bipush 30, 2, []), (4, .invokestatic 78, 3, [113, 1, 3, 830, 831, 74]), (7, .ifCond .eq 44, 3, []), (10, .iload_n 2, 1, []), (11, .iconst 1, 1, []), (12, .bipush 8, 2, []), (14, .invokestatic 78, 3, [113, 1, 3, 830, 831, 74]), (17, .ifCond .eq 34, 3, []), (20, .iload_n 3, 1, []), (21, .iconst 0, 1, []), (22, .bipush 9, 2, []), (24, .invokestatic 78, 3, [113, 1, 3, 830, 831, 74]), (27, .ifCond .eq 24, 3, []), (30, .iload 4, 2, []), (32, .iconst 0, 1, []), (33, .bipush 9, 2, []), (35, .invokestatic 78, 3, [113, 1, 3, 830, 831, 74]), (38, .ifCond .eq 13, 3, []), (41, .iload 6, 2, []), (43, .iconst 0, 1, []), (44, .iconst 5, 1, []), (45, .invokestatic 78, 3, [113, 1, 3, 830, 831, 74]), (48, .ifCond .ne 6, 3, []), (51, .bipush (-2), 2, []), (53, .ireturn, 1, []), (54, .aload_n 0, 1, []), (55, .iload 5, 2, []), (57, .putfield 192, 3, [7, 21, 0, 0, 743]), (60, .aload_n 0, 1, []), (61, .iconst 0, 1, []), (62, .putfield 207, 3, [7, 22, 0, 0, 744]), (65, .aload_n 0, 1, []), (66, .iconst 0, 1, []), (67, .putfield 210, 3, [7, 23, 0, 0, 745]), (70, .aload_n 0, 1, []), (71, .iconst 0, 1, []), (72, .putfield 201, 3, [7, 24, 0, 0, 746]), (75, .aload_n 0, 1, [])]
def mt_162_1 : List (Nat × mx_I) := [(76, .iconst 0, 1, []), (77, .putfield 216, 3, [7, 25, 0, 0, 747]), (80, .aload_n 0, 1, []), (81, .iconst 0, 1, []), (82, .putfield 204, 3, [7, 26, 0, 0, 748]), (85, .aload_n 0, 1, []), (86, .iconst 0, 1, []), (87, .putfield 195, 3, [7, 27, 0, 0, 749]), (90, .aload_n 0, 1, []), (91, .getfield 195, 3, [7, 27, 0, 749]), (94, .invokestatic 213, 3, [160, 1, 1, 999, 1000, 74]), (97, .iload_n 1, 1, []), (98, .if_icmp .ge 25, 3, []), (101, .aload_n 0, 1, []), (102, .getfield 207, 3, [7, 22, 0, 744]), (105, .sipush 200, 3, []), (108, .if_icmp .ge 15, 3, []), (111, .aload_n 0, 1, []), (112, .iload_n 1, 1, []), (113, .iload_n 2, 1, []), (114, .iload_n 3, 1, []), (115, .iload 4, 2, []), (117, .invokevirtual 219, 3, [161, 3, 4, 1002, 1004, 54, 74, 7]), (120, .goto (-30), 3, []), (123, .iload 6, 2, []), (125, .tableswitch 63 0 4 #[35, 40, 45, 50, 55], 35, []), (160, .aload_n 0, 1, []), (161, .getfield 207, 3, [7, 22, 0, 744]), (164, .ireturn, 1, []), (165, .aload_n 0, 1, []), (166, .getfield 210, 3, [7, 23, 0, 745]), (169, .ireturn, 1, []), (170, .aload_n 0, 1, []), (171, .getfield 201, 3, [7, 24, 0, 746]), (174, .ireturn, 1, []), (175, .aload_n 0, 1, []), (176, .getfield 216, 3, [7, 25, 0, 747]), (179, .ireturn, 1, []), (180, .aload_n 0, 1, []), (181, .getfield 204, 3, [7, 26, 0, 748])]
def mt_162_2 : List (Nat × mx_I) := [(184, .invokestatic 213, 3, [160, 1, 1, 999, 1000, 74]), (187, .ireturn, 1, []), (188, .aload_n 0, 1, []), (189, .getfield 195, 3, [7, 27, 0, 749]), (192, .invokestatic 213, 3, [160, 1, 1, 999, 1000, 74]), (195, .ireturn, 1, [])]
def mt_162 : List (Nat × mx_I) := mt_162_0 ++ (mt_162_1 ++ (mt_162_2))
def mh_163 : mx_HD := (⟨"MainsLettersModel", "isNetwork", "(I)Z"⟩, prog_11_method_52_code, 4, (some .boolean), 1017)
def mt_163 : List (Nat × mx_I) := [(0, .iconst 0, 1, []), (1, .istore_n 2, 1, []), (2, .iconst 0, 1, []), (3, .istore_n 3, 1, []), (4, .iload_n 3, 1, []), (5, .bipush 6, 2, []), (7, .if_icmp .ge 29, 3, []), (10, .iload_n 2, 1, []), (11, .ifCond .ne 13, 3, []), (14, .aload_n 0, 1, []), (15, .getfield 16, 3, [7, 2, 0, 724]), (18, .iload_n 3, 1, []), (19, .iaload, 1, []), (20, .iload_n 1, 1, []), (21, .if_icmp .ne 7, 3, []), (24, .iconst 1, 1, []), (25, .goto 4, 3, []), (28, .iconst 0, 1, []), (29, .istore_n 2, 1, []), (30, .iinc 3 1, 3, []), (33, .goto (-29), 3, []), (36, .iload_n 2, 1, []), (37, .ireturn, 1, [])]
def mh_164 : mx_HD := (⟨"MainsLettersModel", "doDisturb", "(II)Z"⟩, prog_11_method_53_code, 6, (some .boolean), 1025)
def mt_164_0 : List (Nat × mx_I) := [(0, .iconst 0, 1, []), (1, .istore_n 3, 1, []), (2, .iconst 0, 1, []), (3, .istore 4, 2, []), (5, .iload 4, 2, []), (7, .bipush 6, 2, []), (9, .if_icmp .ge 79, 3, []), (12, .iconst 0, 1, []), (13, .istore 5, 2, []), (15, .iload 5, 2, []), (17, .bipush 6, 2, []), (19, .if_icmp .ge 63, 3, []), (22, .iload_n 3, 1, []), (23, .ifCond .ne 47, 3, []), (26, .aload_n 0, 1, []), (27, .getfield 16, 3, [7, 2, 0, 724]), (30, .iload 4, 2, []), (32, .iaload, 1, []), (33, .iload_n 1, 1, []), (34, .if_icmp .ne 40, 3, []), (37, .aload_n 0, 1, []), (38, .getfield 16, 3, [7, 2, 0, 724]), (41, .iload 5, 2, []), (43, .iaload, 1, []), (44, .iload_n 2, 1, []), (45, .if_icmp .ne 29, 3, []), (48, .aload_n 0, 1, []), (49, .iload 4, 2, []), (51, .iload 5, 2, []), (53, .invokevirtual 110, 3, [128, 4, 2, 885, 887, 37, 74, 7]), (56, .ifCond .ne 14, 3, []), (59, .aload_n 0, 1, []), (60, .iload 5, 2, []), (62, .iload 4, 2, []), (64, .invokevirtual 110, 3, [128, 4, 2, 885, 887, 37, 74, 7]), (67, .ifCond .eq 7, 3, []), (70, .iconst 1, 1, []), (71, .goto 4, 3, []), (74, .iconst 0, 1, []), (75, .istore_n 3, 1, [])]
def mt_164_1 : List (Nat × mx_I) := [(76, .iinc 5 1, 3, []), (79, .goto (-64), 3, []), (82, .iinc 4 1, 3, []), (85, .goto (-80), 3, []), (88, .iload_n 3, 1, []), (89, .ifCond .eq 12, 3, []), (92, .iload_n 1, 1, []), (93, .iload_n 2, 1, []), (94, .if_icmp .eq 7, 3, []), (97, .iconst 1, 1, []), (98, .goto 4, 3, []), (101, .iconst 0, 1, []), (102, .ireturn, 1, [])]
def mt_164 : List (Nat × mx_I) := mt_164_0 ++ (mt_164_1)
def mh_165 : mx_HD := (⟨"MainsLettersModel", "disturbed", "(I)I"⟩, prog_11_method_54_code, 4, (some .int), 1021)
def mt_165 : List (Nat × mx_I) := [(0, .iconst 0, 1, []), (1, .istore_n 2, 1, []), (2, .iconst 0, 1, []), (3, .istore_n 3, 1, []), (4, .iload_n 3, 1, []), (5, .bipush 6, 2, []), (7, .if_icmp .ge 28, 3, []), (10, .iload_n 2, 1, []), (11, .aload_n 0, 1, []), (12, .iload_n 1, 1, []), (13, .iload_n 3, 1, []), (14, .invokevirtual 223, 3, [164, 5, 2, 1022, 1024, 58, 74, 7]), (17, .ifCond .eq 9, 3, []), (20, .iconst 1, 1, []), (21, .iload_n 3, 1, []), (22, .ishl, 1, []), (23, .goto 4, 3, []), (26, .iconst 0, 1, []), (27, .ior, 1, []), (28, .istore_n 2, 1, []), (29, .iinc 3 1, 3, []), (32, .goto (-28), 3, []), (35, .iload_n 2, 1, []), (36, .ireturn, 1, [])]
def mh_166 : mx_HD := (⟨"MainsLettersModel", "disturbs", "(I)I"⟩, prog_11_method_55_code, 2, (some .int), 1013)
def mt_166 : List (Nat × mx_I) := [(0, .aload_n 0, 1, []), (1, .iload_n 1, 1, []), (2, .invokevirtual 226, 3, [163, 1, 1, 1014, 1016, 56, 74, 7]), (5, .ifCond .eq 11, 3, []), (8, .aload_n 0, 1, []), (9, .iload_n 1, 1, []), (10, .invokevirtual 229, 3, [165, 6, 1, 1018, 1020, 57, 74, 7]), (13, .goto 4, 3, []), (16, .iconst (-1), 1, []), (17, .ireturn, 1, [])]
def mh_167 : mx_HD := (⟨"MainsLettersModel", "findNetworks", "()V"⟩, prog_11_method_56_code, 2, none, 1033)
def mt_167 : List (Nat × mx_I) := [(0, .aload_n 0, 1, []), (1, .iconst 0, 1, []), (2, .putfield 232, 3, [7, 28, 0, 0, 750]), (5, .iconst 0, 1, []), (6, .istore_n 1, 1, []), (7, .iload_n 1, 1, []), (8, .bipush 6, 2, []), (10, .if_icmp .ge 60, 3, []), (13, .aload_n 0, 1, []), (14, .iload_n 1, 1, []), (15, .invokevirtual 226, 3, [163, 1, 1, 1014, 1016, 56, 74, 7]), (18, .ifCond .eq 23, 3, []), (21, .aload_n 0, 1, []), (22, .getfield 69, 3, [7, 29, 0, 751]), (25, .aload_n 0, 1, []), (26, .getfield 232, 3, [7, 28, 0, 750]), (29, .iload_n 1, 1, []), (30, .iastore, 1, []), (31, .aload_n 0, 1, []), (32, .dup, 1, []), (33, .getfield 232, 3, [7, 28, 0, 750]), (36, .iconst 1, 1, []), (37, .iadd, 1, []), (38, .putfield 232, 3, [7, 28, 0, 0, 750]), (41, .aload_n 0, 1, []), (42, .getfield 72, 3, [7, 30, 0, 752]), (45, .iload_n 1, 1, []), (46, .aload_n 0, 1, []), (47, .iload_n 1, 1, []), (48, .invokevirtual 226, 3, [163, 1, 1, 1014, 1016, 56, 74, 7]), (51, .ifCond .eq 11, 3, []), (54, .aload_n 0, 1, []), (55, .iload_n 1, 1, []), (56, .invokevirtual 229, 3, [165, 6, 1, 1018, 1020, 57, 74, 7]), (59, .goto 4, 3, []), (62, .iconst 0, 1, []), (63, .iastore, 1, []), (64, .iinc 1 1, 3, []), (67, .goto (-60), 3, []), (70, .return_, 1, [])]
def mh_168 : mx_HD := (⟨"MainsLettersModel", "mayBe", "(II)Z"⟩, prog_11_method_57_code, 7, (some .boolean), 1041)
def mt_168_0 : List (Nat × mx_I) := [(0, .iload_n 1, 1, []), (1, .istore_n 3, 1, []), (2, .aload_n 0, 1, []), (3, .getfield 232, 3, [7, 28, 0, 750]), (6, .iconst 1, 1, []), (7, .isub, 1, []), (8, .istore 4, 2, []), (10, .iload 4, 2, []), (12, .ifCond .lt 23, 3, []), (15, .aload_n 0, 1, []), (16, .getfield 75, 3, [7, 31, 0, 753]), (19, .iload 4, 2, []), (21, .iload_n 3, 1, []), (22, .iload_n 2, 1, []), (23, .irem, 1, []), (24, .iastore, 1, []), (25, .iload_n 3, 1, []), (26, .iload_n 2, 1, []), (27, .idiv, 1, []), (28, .istore_n 3, 1, []), (29, .iinc 4 (-1), 3, []), (32, .goto (-22), 3, []), (35, .iconst 1, 1, []), (36, .istore 4, 2, []), (38, .iconst 0, 1, []), (39, .istore 5, 2, []), (41, .iload 5, 2, []), (43, .aload_n 0, 1, []), (44, .getfield 232, 3, [7, 28, 0, 750]), (47, .if_icmp .ge 79, 3, []), (50, .iconst 0, 1, []), (51, .istore 6, 2, []), (53, .iload 6, 2, []), (55, .iload 5, 2, []), (57, .if_icmp .ge 63, 3, []), (60, .iload 4, 2, []), (62, .ifCond .eq 49, 3, []), (65, .aload_n 0, 1, []), (66, .getfield 75, 3, [7, 31, 0, 753]), (69, .iload 5, 2, [])]
def mt_168_1 : List (Nat × mx_I) := [(71, .iaload, 1, []), (72, .aload_n 0, 1, []), (73, .getfield 75, 3, [7, 31, 0, 753]), (76, .iload 6, 2, []), (78, .iaload, 1, []), (79, .if_icmp .ne 28, 3, []), (82, .aload_n 0, 1, []), (83, .getfield 72, 3, [7, 30, 0, 752]), (86, .aload_n 0, 1, []), (87, .getfield 69, 3, [7, 29, 0, 751]), (90, .iload 5, 2, []), (92, .iaload, 1, []), (93, .iaload, 1, []), (94, .aload_n 0, 1, []), (95, .getfield 69, 3, [7, 29, 0, 751]), (98, .iload 6, 2, []), (100, .iaload, 1, []), (101, .invokestatic 151, 3, [148, 1, 2, 960, 961, 74]), (104, .ifCond .ne 7, 3, []), (107, .iconst 1, 1, []), (108, .goto 4, 3, []), (111, .iconst 0, 1, []), (112, .istore 4, 2, []), (114, .iinc 6 1, 3, []), (117, .goto (-64), 3, []), (120, .iinc 5 1, 3, []), (123, .goto (-82), 3, []), (126, .iload 4, 2, []), (128, .ireturn, 1, [])]
def mt_168 : List (Nat × mx_I) := mt_168_0 ++ (mt_168_1)
def mh_169 : mx_HD := (⟨"MainsLettersModel", "findTurns", "()I"⟩, prog_11_method_58_code, 5, (some .int), 1037)
def mt_169 : List (Nat × mx_I) := [(0, .iconst 0, 1, []), (1, .istore_n 1, 1, []), (2, .iconst 0, 1, []), (3, .istore_n 2, 1, []), (4, .iload_n 2, 1, []), (5, .ifCond .ne 60, 3, []), (8, .iinc 1 1, 3, []), (11, .iconst 1, 1, []), (12, .istore_n 3, 1, []), (13, .iconst 0, 1, []), (14, .istore 4, 2, []), (16, .iload 4, 2, []), (18, .aload_n 0, 1, []), (19, .getfield 232, 3, [7, 28, 0, 750]), (22, .if_icmp .ge 13, 3, []), (25, .iload_n 3, 1, []), (26, .iload_n 1, 1, []), (27, .imul, 1, []), (28, .istore_n 3, 1, []), (29, .iinc 4 1, 3, []), (32, .goto (-16), 3, []), (35, .iconst 0, 1, []), (36, .istore 4, 2, []), (38, .iload 4, 2, []), (40, .iload_n 3, 1, []), (41, .if_icmp .ge 21, 3, []), (44, .iload_n 2, 1, []), (45, .ifCond .ne 17, 3, []), (48, .aload_n 0, 1, []), (49, .iload 4, 2, []), (51, .iload_n 1, 1, []), (52, .invokevirtual 235, 3, [168, 2, 2, 1038, 1040, 61, 74, 7]), (55, .istore_n 2, 1, []), (56, .iinc 4 1, 3, []), (59, .goto (-21), 3, []), (62, .goto (-58), 3, []), (65, .iload_n 1, 1, []), (66, .ireturn, 1, [])]
def mh_170 : mx_HD := (⟨"MainsLettersModel", "turn", "(I)I"⟩, prog_11_method_59_code, 4, (some .int), 1029)
def mt_170 : List (Nat × mx_I) := [(0, .iload_n 1, 1, []), (1, .iconst (-1), 1, []), (2, .if_icmp .eq 13, 3, []), (5, .aload_n 0, 1, []), (6, .iload_n 1, 1, []), (7, .invokevirtual 226, 3, [163, 1, 1, 1014, 1016, 56, 74, 7]), (10, .ifCond .ne 5, 3, []), (13, .iconst (-1), 1, []), (14, .ireturn, 1, []), (15, .aload_n 0, 1, []), (16, .invokevirtual 238, 3, [167, 7, 0, 1030, 1032, 59, 74, 7]), (19, .aload_n 0, 1, []), (20, .invokevirtual 241, 3, [169, 3, 0, 1034, 1036, 60, 74, 7]), (23, .istore_n 2, 1, []), (24, .iload_n 1, 1, []), (25, .ifCond .ge 5, 3, []), (28, .iload_n 2, 1, []), (29, .ireturn, 1, []), (30, .iconst 0, 1, []), (31, .istore_n 3, 1, []), (32, .aload_n 0, 1, []), (33, .getfield 69, 3, [7, 29, 0, 751]), (36, .iload_n 3, 1, []), (37, .iaload, 1, []), (38, .iload_n 1, 1, []), (39, .if_icmp .eq 9, 3, []), (42, .iinc 3 1, 3, []), (45, .goto (-13), 3, []), (48, .aload_n 0, 1, []), (49, .getfield 75, 3, [7, 31, 0, 753]), (52, .iload_n 3, 1, []), (53, .iaload, 1, []), (54, .ireturn, 1, [])]
def mh_171 : mx_HD := (⟨"MainsLettersModel", "sumOf", "([I)I"⟩, prog_11_method_60_code, 4, (some .int), 1049)
def mt_171 : List (Nat × mx_I) := [(0, .iconst 0, 1, []), (1, .istore_n 2, 1, []), (2, .iconst 0, 1, []), (3, .istore_n 3, 1, []), (4, .iload_n 3, 1, []), (5, .bipush 6, 2, []), (7, .if_icmp .ge 15, 3, []), (10, .iload_n 2, 1, []), (11, .aload_n 1, 1, []), (12, .iload_n 3, 1, []), (13, .iaload, 1, []), (14, .iadd, 1, []), (15, .istore_n 2, 1, []), (16, .iinc 3 1, 3, []), (19, .goto (-15), 3, []), (22, .iload_n 2, 1, []), (23, .ireturn, 1, [])]
def mh_172 : mx_HD := (⟨"MainsLettersModel", "manyHidden", "()I"⟩, prog_11_method_61_code, 3, (some .int), 1053)
def mt_172 : List (Nat × mx_I) := [(0, .iconst 0, 1, []), (1, .istore_n 1, 1, []), (2, .iconst 0, 1, []), (3, .istore_n 2, 1, []), (4, .iload_n 2, 1, []), (5, .bipush 6, 2, []), (7, .if_icmp .ge 21, 3, []), (10, .iload_n 1, 1, []), (11, .aload_n 0, 1, []), (12, .iload_n 2, 1, []), (13, .iconst 3, 1, []), (14, .invokevirtual 122, 3, [132, 7, 2, 877, 879, 35, 74, 7]), (17, .invokestatic 213, 3, [160, 1, 1, 999, 1000, 74]), (20, .iadd, 1, []), (21, .istore_n 1, 1, []), (22, .iinc 2 1, 3, []), (25, .goto (-21), 3, []), (28, .iload_n 1, 1, []), (29, .iconst 2, 1, []), (30, .idiv, 1, []), (31, .ireturn, 1, [])]
def mh_173 : mx_HD := (⟨"MainsLettersModel", "manyUnheard", "()I"⟩, prog_11_method_62_code, 3, (some .int), 1057)
def mt_173 : List (Nat × mx_I) := [(0, .iconst 0, 1, []), (1, .istore_n 1, 1, []), (2, .iconst 0, 1, []), (3, .istore_n 2, 1, []), (4, .iload_n 2, 1, []), (5, .bipush 6, 2, []), (7, .if_icmp .ge 26, 3, []), (10, .iload_n 1, 1, []), (11, .aload_n 0, 1, []), (12, .iload_n 2, 1, []), (13, .iconst 1, 1, []), (14, .invokevirtual 122, 3, [132, 7, 2, 877, 879, 35, 74, 7]), (17, .ifCond .ne 7, 3, []), (20, .iconst 1, 1, []), (21, .goto 4, 3, []), (24, .iconst 0, 1, []), (25, .iadd, 1, []), (26, .istore_n 1, 1, []), (27, .iinc 2 1, 3, []), (30, .goto (-26), 3, []), (33, .iload_n 1, 1, []), (34, .ireturn, 1, [])]
def mh_174 : mx_HD := (⟨"MainsLettersModel", "many", "(I)I"⟩, prog_11_method_63_code, 2, (some .int), 1045)
def mt_174_0 : List (Nat × mx_I) := [(0, .iload_n 1, 1, []), (1, .tableswitch 141 0 10 #[59, 71, 80, 89, 94, 103, 108, 117, 122, 127, 136], 59, []), (60, .bipush 6, 2, []), (62, .aload_n 0, 1, []), (63, .iconst 0, 1, []), (64, .invokevirtual 163, 3, [147, 1, 1, 952, 954, 45, 74, 7]), (67, .invokestatic 213, 3, [160, 1, 1, 999, 1000, 74]), (70, .isub, 1, []), (71, .ireturn, 1, []), (72, .aload_n 0, 1, []), (73, .iconst 1, 1, []), (74, .invokevirtual 163, 3, [147, 1, 1, 952, 954, 45, 74, 7]), (77, .invokestatic 213, 3, [160, 1, 1, 999, 1000, 74]), (80, .ireturn, 1, []), (81, .aload_n 0, 1, []), (82, .iconst 2, 1, []), (83, .invokevirtual 163, 3, [147, 1, 1, 952, 954, 45, 74, 7]), (86, .invokestatic 213, 3, [160, 1, 1, 999, 1000, 74]), (89, .ireturn, 1, []), (90, .aload_n 0, 1, []), (91, .getfield 186, 3, [7, 19, 0, 741]), (94, .ireturn, 1, []), (95, .aload_n 0, 1, []), (96, .aload_n 0, 1, []), (97, .getfield 60, 3, [7, 16, 0, 738]), (100, .invokevirtual 244, 3, [171, 1, 1, 1046, 1048, 62, 74, 7]), (103, .ireturn, 1, []), (104, .aload_n 0, 1, []), (105, .getfield 160, 3, [7, 20, 0, 742]), (108, .ireturn, 1, []), (109, .aload_n 0, 1, []), (110, .aload_n 0, 1, []), (111, .getfield 63, 3, [7, 17, 0, 739]), (114, .invokevirtual 244, 3, [171, 1, 1, 1046, 1048, 62, 74, 7]), (117, .ireturn, 1, []), (118, .aload_n 0, 1, []), (119, .getfield 19, 3, [7, 3, 0, 725]), (122, .ireturn, 1, []), (123, .aload_n 0, 1, []), (124, .invokevirtual 248, 3, [172, 8, 0, 1050, 1052, 63, 74, 7])]
def mt_174_1 : List (Nat × mx_I) := [(127, .ireturn, 1, []), (128, .aload_n 0, 1, []), (129, .invokevirtual 238, 3, [167, 7, 0, 1030, 1032, 59, 74, 7]), (132, .aload_n 0, 1, []), (133, .getfield 232, 3, [7, 28, 0, 750]), (136, .ireturn, 1, []), (137, .aload_n 0, 1, []), (138, .invokevirtual 251, 3, [173, 8, 0, 1054, 1056, 64, 74, 7]), (141, .ireturn, 1, []), (142, .bipush (-2), 2, []), (144, .ireturn, 1, [])]
def mt_174 : List (Nat × mx_I) := mt_174_0 ++ (mt_174_1)
def mh_175 : mx_HD := (⟨"java/lang/Integer", "bitCount", "(I)I"⟩, prog_12_method_49_code, 1, (some .int), 631)
def mt_175_0 : List (Nat × mx_I) := [(0, .iload_n 0, 1, []), (1, .iload_n 0, 1, []), (2, .iconst 1, 1, []), (3, .iushr, 1, []), (4, .ldc_w 265, 3, [1431655765, 632]), (7, .iand, 1, []), (8, .isub, 1, []), (9, .istore_n 0, 1, []), (10, .iload_n 0, 1, []), (11, .ldc_w 266, 3, [858993459, 633]), (14, .iand, 1, []), (15, .iload_n 0, 1, []), (16, .iconst 2, 1, []), (17, .iushr, 1, []), (18, .ldc_w 266, 3, [858993459, 633]), (21, .iand, 1, []), (22, .iadd, 1, []), (23, .istore_n 0, 1, []), (24, .iload_n 0, 1, []), (25, .iload_n 0, 1, []), (26, .iconst 4, 1, []), (27, .iushr, 1, []), (28, .iadd, 1, []), (29, .ldc_w 267, 3, [252645135, 634]), (32, .iand, 1, []), (33, .istore_n 0, 1, []), (34, .iload_n 0, 1, []), (35, .iload_n 0, 1, []), (36, .bipush 8, 2, []), (38, .iushr, 1, []), (39, .iadd, 1, []), (40, .istore_n 0, 1, []), (41, .iload_n 0, 1, []), (42, .iload_n 0, 1, []), (43, .bipush 16, 2, []), (45, .iushr, 1, []), (46, .iadd, 1, []), (47, .istore_n 0, 1, []), (48, .iload_n 0, 1, []), (49, .bipush 63, 2, [])]
def mt_175_1 : List (Nat × mx_I) := [(51, .iand, 1, []), (52, .ireturn, 1, [])]
def mt_175 : List (Nat × mx_I) := mt_175_0 ++ (mt_175_1)
def mh_176 : mx_HD := (⟨"MainsLettersLaw", "law", "([I)Z"⟩, code, 4, (some .boolean), 0)
def mt_176_0 : List (Nat × mx_I) := [(0, .new 7, 3, [6, 78, 79, 66]), (3, .dup, 1, []), (4, .invokespecial 9, 3, [87, 7, 0, 80, 81, 66, 0]), (7, .astore_n 1, 1, []), (8, .new 10, 3, [7, 716, 717, 74]), (11, .dup, 1, []), (12, .invokespecial 12, 3, [112, 1, 0, 718, 719, 74, 0]), (15, .astore_n 2, 1, []), (16, .iconst 0, 1, []), (17, .istore_n 3, 1, []), (18, .iload_n 3, 1, []), (19, .aload_n 0, 1, []), (20, .arraylength, 1, []), (21, .bipush 7, 2, []), (23, .isub, 1, []), (24, .if_icmp .gt 788, 3, []), (27, .aload_n 0, 1, []), (28, .iload_n 3, 1, []), (29, .iaload, 1, []), (30, .bipush 31, 2, []), (32, .iand, 1, []), (33, .tableswitch 773 0 17 #[87, 140, 193, 216, 249, 302, 345, 378, 421, 474, 497, 550, 573, 596, 629, 704, 727, 750], 87, []), (120, .aload_n 1, 1, []), (121, .aload_n 0, 1, []), (122, .iload_n 3, 1, []), (123, .iconst 1, 1, []), (124, .iadd, 1, []), (125, .iaload, 1, []), (126, .aload_n 0, 1, []), (127, .iload_n 3, 1, []), (128, .iconst 2, 1, []), (129, .iadd, 1, []), (130, .iaload, 1, []), (131, .aload_n 0, 1, []), (132, .iload_n 3, 1, []), (133, .iconst 3, 1, []), (134, .iadd, 1, []), (135, .iaload, 1, []), (136, .aload_n 0, 1, []), (137, .iload_n 3, 1, [])]
def mt_176_1 : List (Nat × mx_I) := [(138, .iconst 4, 1, []), (139, .iadd, 1, []), (140, .iaload, 1, []), (141, .invokevirtual 13, 3, [88, 5, 4, 303, 304, 305, 66, 6]), (144, .aload_n 2, 1, []), (145, .aload_n 0, 1, []), (146, .iload_n 3, 1, []), (147, .iconst 1, 1, []), (148, .iadd, 1, []), (149, .iaload, 1, []), (150, .aload_n 0, 1, []), (151, .iload_n 3, 1, []), (152, .iconst 2, 1, []), (153, .iadd, 1, []), (154, .iaload, 1, []), (155, .aload_n 0, 1, []), (156, .iload_n 3, 1, []), (157, .iconst 3, 1, []), (158, .iadd, 1, []), (159, .iaload, 1, []), (160, .aload_n 0, 1, []), (161, .iload_n 3, 1, []), (162, .iconst 4, 1, []), (163, .iadd, 1, []), (164, .iaload, 1, []), (165, .invokevirtual 17, 3, [120, 4, 4, 820, 821, 822, 74, 7]), (168, .if_icmp .eq 638, 3, []), (171, .iconst 0, 1, []), (172, .ireturn, 1, []), (173, .aload_n 1, 1, []), (174, .aload_n 0, 1, []), (175, .iload_n 3, 1, []), (176, .iconst 1, 1, []), (177, .iadd, 1, []), (178, .iaload, 1, []), (179, .aload_n 0, 1, []), (180, .iload_n 3, 1, []), (181, .iconst 2, 1, []), (182, .iadd, 1, []), (183, .iaload, 1, [])]
def mt_176_2 : List (Nat × mx_I) := [(184, .aload_n 0, 1, []), (185, .iload_n 3, 1, []), (186, .iconst 3, 1, []), (187, .iadd, 1, []), (188, .iaload, 1, []), (189, .aload_n 0, 1, []), (190, .iload_n 3, 1, []), (191, .iconst 4, 1, []), (192, .iadd, 1, []), (193, .iaload, 1, []), (194, .invokevirtual 18, 3, [89, 6, 4, 323, 324, 325, 66, 6]), (197, .aload_n 2, 1, []), (198, .aload_n 0, 1, []), (199, .iload_n 3, 1, []), (200, .iconst 1, 1, []), (201, .iadd, 1, []), (202, .iaload, 1, []), (203, .aload_n 0, 1, []), (204, .iload_n 3, 1, []), (205, .iconst 2, 1, []), (206, .iadd, 1, []), (207, .iaload, 1, []), (208, .aload_n 0, 1, []), (209, .iload_n 3, 1, []), (210, .iconst 3, 1, []), (211, .iadd, 1, []), (212, .iaload, 1, []), (213, .aload_n 0, 1, []), (214, .iload_n 3, 1, []), (215, .iconst 4, 1, []), (216, .iadd, 1, []), (217, .iaload, 1, []), (218, .invokevirtual 21, 3, [121, 3, 4, 839, 840, 841, 74, 7]), (221, .if_icmp .eq 585, 3, []), (224, .iconst 0, 1, []), (225, .ireturn, 1, []), (226, .aload_n 1, 1, []), (227, .aload_n 0, 1, []), (228, .iload_n 3, 1, []), (229, .iconst 1, 1, [])]
def mt_176_3 : List (Nat × mx_I) := [(230, .iadd, 1, []), (231, .iaload, 1, []), (232, .invokevirtual 22, 3, [90, 7, 1, 334, 335, 336, 66, 6]), (235, .aload_n 2, 1, []), (236, .aload_n 0, 1, []), (237, .iload_n 3, 1, []), (238, .iconst 1, 1, []), (239, .iadd, 1, []), (240, .iaload, 1, []), (241, .invokevirtual 26, 3, [122, 2, 1, 849, 850, 851, 74, 7]), (244, .if_icmp .eq 562, 3, []), (247, .iconst 0, 1, []), (248, .ireturn, 1, []), (249, .aload_n 1, 1, []), (250, .aload_n 0, 1, []), (251, .iload_n 3, 1, []), (252, .iconst 1, 1, []), (253, .iadd, 1, []), (254, .iaload, 1, []), (255, .aload_n 0, 1, []), (256, .iload_n 3, 1, []), (257, .iconst 2, 1, []), (258, .iadd, 1, []), (259, .iaload, 1, []), (260, .invokevirtual 27, 3, [91, 3, 2, 342, 343, 344, 66, 6]), (263, .aload_n 2, 1, []), (264, .aload_n 0, 1, []), (265, .iload_n 3, 1, []), (266, .iconst 1, 1, []), (267, .iadd, 1, []), (268, .iaload, 1, []), (269, .aload_n 0, 1, []), (270, .iload_n 3, 1, []), (271, .iconst 2, 1, []), (272, .iadd, 1, []), (273, .iaload, 1, []), (274, .invokevirtual 31, 3, [123, 3, 2, 853, 854, 855, 74, 7]), (277, .if_icmp .eq 529, 3, []), (280, .iconst 0, 1, []), (281, .ireturn, 1, [])]
def mt_176_4 : List (Nat × mx_I) := [(282, .aload_n 1, 1, []), (283, .aload_n 0, 1, []), (284, .iload_n 3, 1, []), (285, .iconst 1, 1, []), (286, .iadd, 1, []), (287, .iaload, 1, []), (288, .aload_n 0, 1, []), (289, .iload_n 3, 1, []), (290, .iconst 2, 1, []), (291, .iadd, 1, []), (292, .iaload, 1, []), (293, .aload_n 0, 1, []), (294, .iload_n 3, 1, []), (295, .iconst 3, 1, []), (296, .iadd, 1, []), (297, .iaload, 1, []), (298, .aload_n 0, 1, []), (299, .iload_n 3, 1, []), (300, .iconst 4, 1, []), (301, .iadd, 1, []), (302, .iaload, 1, []), (303, .invokevirtual 32, 3, [92, 4, 4, 353, 354, 355, 66, 6]), (306, .aload_n 2, 1, []), (307, .aload_n 0, 1, []), (308, .iload_n 3, 1, []), (309, .iconst 1, 1, []), (310, .iadd, 1, []), (311, .iaload, 1, []), (312, .aload_n 0, 1, []), (313, .iload_n 3, 1, []), (314, .iconst 2, 1, []), (315, .iadd, 1, []), (316, .iaload, 1, []), (317, .aload_n 0, 1, []), (318, .iload_n 3, 1, []), (319, .iconst 3, 1, []), (320, .iadd, 1, []), (321, .iaload, 1, []), (322, .aload_n 0, 1, []), (323, .iload_n 3, 1, [])]
def mt_176_5 : List (Nat × mx_I) := [(324, .iconst 4, 1, []), (325, .iadd, 1, []), (326, .iaload, 1, []), (327, .invokevirtual 35, 3, [125, 4, 4, 857, 858, 859, 74, 7]), (330, .if_icmp .eq 476, 3, []), (333, .iconst 0, 1, []), (334, .ireturn, 1, []), (335, .aload_n 1, 1, []), (336, .aload_n 0, 1, []), (337, .iload_n 3, 1, []), (338, .iconst 1, 1, []), (339, .iadd, 1, []), (340, .iaload, 1, []), (341, .aload_n 0, 1, []), (342, .iload_n 3, 1, []), (343, .iconst 2, 1, []), (344, .iadd, 1, []), (345, .iaload, 1, []), (346, .aload_n 0, 1, []), (347, .iload_n 3, 1, []), (348, .iconst 3, 1, []), (349, .iadd, 1, []), (350, .iaload, 1, []), (351, .invokevirtual 36, 3, [93, 4, 3, 358, 359, 360, 66, 6]), (354, .aload_n 2, 1, []), (355, .aload_n 0, 1, []), (356, .iload_n 3, 1, []), (357, .iconst 1, 1, []), (358, .iadd, 1, []), (359, .iaload, 1, []), (360, .aload_n 0, 1, []), (361, .iload_n 3, 1, []), (362, .iconst 2, 1, []), (363, .iadd, 1, []), (364, .iaload, 1, []), (365, .aload_n 0, 1, []), (366, .iload_n 3, 1, []), (367, .iconst 3, 1, []), (368, .iadd, 1, []), (369, .iaload, 1, [])]
def mt_176_6 : List (Nat × mx_I) := [(370, .invokevirtual 40, 3, [127, 4, 3, 865, 866, 867, 74, 7]), (373, .if_icmp .eq 433, 3, []), (376, .iconst 0, 1, []), (377, .ireturn, 1, []), (378, .aload_n 1, 1, []), (379, .aload_n 0, 1, []), (380, .iload_n 3, 1, []), (381, .iconst 1, 1, []), (382, .iadd, 1, []), (383, .iaload, 1, []), (384, .aload_n 0, 1, []), (385, .iload_n 3, 1, []), (386, .iconst 2, 1, []), (387, .iadd, 1, []), (388, .iaload, 1, []), (389, .invokevirtual 41, 3, [94, 6, 2, 366, 367, 368, 66, 6]), (392, .aload_n 2, 1, []), (393, .aload_n 0, 1, []), (394, .iload_n 3, 1, []), (395, .iconst 1, 1, []), (396, .iadd, 1, []), (397, .iaload, 1, []), (398, .aload_n 0, 1, []), (399, .iload_n 3, 1, []), (400, .iconst 2, 1, []), (401, .iadd, 1, []), (402, .iaload, 1, []), (403, .invokevirtual 44, 3, [133, 8, 2, 873, 874, 875, 74, 7]), (406, .if_icmp .eq 400, 3, []), (409, .iconst 0, 1, []), (410, .ireturn, 1, []), (411, .aload_n 1, 1, []), (412, .aload_n 0, 1, []), (413, .iload_n 3, 1, []), (414, .iconst 1, 1, []), (415, .iadd, 1, []), (416, .iaload, 1, []), (417, .aload_n 0, 1, []), (418, .iload_n 3, 1, []), (419, .iconst 2, 1, [])]
def mt_176_7 : List (Nat × mx_I) := [(420, .iadd, 1, []), (421, .iaload, 1, []), (422, .aload_n 0, 1, []), (423, .iload_n 3, 1, []), (424, .iconst 3, 1, []), (425, .iadd, 1, []), (426, .iaload, 1, []), (427, .invokevirtual 45, 3, [95, 4, 3, 405, 406, 407, 66, 6]), (430, .aload_n 2, 1, []), (431, .aload_n 0, 1, []), (432, .iload_n 3, 1, []), (433, .iconst 1, 1, []), (434, .iadd, 1, []), (435, .iaload, 1, []), (436, .aload_n 0, 1, []), (437, .iload_n 3, 1, []), (438, .iconst 2, 1, []), (439, .iadd, 1, []), (440, .iaload, 1, []), (441, .aload_n 0, 1, []), (442, .iload_n 3, 1, []), (443, .iconst 3, 1, []), (444, .iadd, 1, []), (445, .iaload, 1, []), (446, .invokevirtual 48, 3, [136, 6, 3, 897, 898, 899, 74, 7]), (449, .if_icmp .eq 357, 3, []), (452, .iconst 0, 1, []), (453, .ireturn, 1, []), (454, .aload_n 1, 1, []), (455, .aload_n 0, 1, []), (456, .iload_n 3, 1, []), (457, .iconst 1, 1, []), (458, .iadd, 1, []), (459, .iaload, 1, []), (460, .aload_n 0, 1, []), (461, .iload_n 3, 1, []), (462, .iconst 2, 1, []), (463, .iadd, 1, []), (464, .iaload, 1, []), (465, .aload_n 0, 1, [])]
def mt_176_8 : List (Nat × mx_I) := [(466, .iload_n 3, 1, []), (467, .iconst 3, 1, []), (468, .iadd, 1, []), (469, .iaload, 1, []), (470, .aload_n 0, 1, []), (471, .iload_n 3, 1, []), (472, .iconst 4, 1, []), (473, .iadd, 1, []), (474, .iaload, 1, []), (475, .invokevirtual 49, 3, [96, 6, 4, 417, 418, 419, 66, 6]), (478, .aload_n 2, 1, []), (479, .aload_n 0, 1, []), (480, .iload_n 3, 1, []), (481, .iconst 1, 1, []), (482, .iadd, 1, []), (483, .iaload, 1, []), (484, .aload_n 0, 1, []), (485, .iload_n 3, 1, []), (486, .iconst 2, 1, []), (487, .iadd, 1, []), (488, .iaload, 1, []), (489, .aload_n 0, 1, []), (490, .iload_n 3, 1, []), (491, .iconst 3, 1, []), (492, .iadd, 1, []), (493, .iaload, 1, []), (494, .aload_n 0, 1, []), (495, .iload_n 3, 1, []), (496, .iconst 4, 1, []), (497, .iadd, 1, []), (498, .iaload, 1, []), (499, .invokevirtual 52, 3, [139, 7, 4, 908, 909, 910, 74, 7]), (502, .if_icmp .eq 304, 3, []), (505, .iconst 0, 1, []), (506, .ireturn, 1, []), (507, .aload_n 1, 1, []), (508, .aload_n 0, 1, []), (509, .iload_n 3, 1, []), (510, .iconst 1, 1, []), (511, .iadd, 1, [])]
def mt_176_9 : List (Nat × mx_I) := [(512, .iaload, 1, []), (513, .invokevirtual 53, 3, [97, 2, 1, 467, 468, 469, 66, 6]), (516, .aload_n 2, 1, []), (517, .aload_n 0, 1, []), (518, .iload_n 3, 1, []), (519, .iconst 1, 1, []), (520, .iadd, 1, []), (521, .iaload, 1, []), (522, .invokevirtual 56, 3, [140, 1, 1, 921, 922, 923, 74, 7]), (525, .if_icmp .eq 281, 3, []), (528, .iconst 0, 1, []), (529, .ireturn, 1, []), (530, .aload_n 1, 1, []), (531, .aload_n 0, 1, []), (532, .iload_n 3, 1, []), (533, .iconst 1, 1, []), (534, .iadd, 1, []), (535, .iaload, 1, []), (536, .aload_n 0, 1, []), (537, .iload_n 3, 1, []), (538, .iconst 2, 1, []), (539, .iadd, 1, []), (540, .iaload, 1, []), (541, .aload_n 0, 1, []), (542, .iload_n 3, 1, []), (543, .iconst 3, 1, []), (544, .iadd, 1, []), (545, .iaload, 1, []), (546, .aload_n 0, 1, []), (547, .iload_n 3, 1, []), (548, .iconst 4, 1, []), (549, .iadd, 1, []), (550, .iaload, 1, []), (551, .invokevirtual 57, 3, [98, 4, 4, 475, 476, 477, 66, 6]), (554, .aload_n 2, 1, []), (555, .aload_n 0, 1, []), (556, .iload_n 3, 1, []), (557, .iconst 1, 1, []), (558, .iadd, 1, []), (559, .iaload, 1, [])]
def mt_176_10 : List (Nat × mx_I) := [(560, .aload_n 0, 1, []), (561, .iload_n 3, 1, []), (562, .iconst 2, 1, []), (563, .iadd, 1, []), (564, .iaload, 1, []), (565, .aload_n 0, 1, []), (566, .iload_n 3, 1, []), (567, .iconst 3, 1, []), (568, .iadd, 1, []), (569, .iaload, 1, []), (570, .aload_n 0, 1, []), (571, .iload_n 3, 1, []), (572, .iconst 4, 1, []), (573, .iadd, 1, []), (574, .iaload, 1, []), (575, .invokevirtual 60, 3, [145, 6, 4, 925, 926, 927, 74, 7]), (578, .if_icmp .eq 228, 3, []), (581, .iconst 0, 1, []), (582, .ireturn, 1, []), (583, .aload_n 1, 1, []), (584, .aload_n 0, 1, []), (585, .iload_n 3, 1, []), (586, .iconst 1, 1, []), (587, .iadd, 1, []), (588, .iaload, 1, []), (589, .invokevirtual 61, 3, [99, 3, 1, 508, 509, 510, 66, 6]), (592, .aload_n 2, 1, []), (593, .aload_n 0, 1, []), (594, .iload_n 3, 1, []), (595, .iconst 1, 1, []), (596, .iadd, 1, []), (597, .iaload, 1, []), (598, .invokevirtual 64, 3, [146, 3, 1, 940, 941, 942, 74, 7]), (601, .if_icmp .eq 205, 3, []), (604, .iconst 0, 1, []), (605, .ireturn, 1, []), (606, .aload_n 1, 1, []), (607, .aload_n 0, 1, []), (608, .iload_n 3, 1, []), (609, .iconst 1, 1, [])]
def mt_176_11 : List (Nat × mx_I) := [(610, .iadd, 1, []), (611, .iaload, 1, []), (612, .invokevirtual 65, 3, [100, 7, 1, 520, 521, 522, 66, 6]), (615, .aload_n 2, 1, []), (616, .aload_n 0, 1, []), (617, .iload_n 3, 1, []), (618, .iconst 1, 1, []), (619, .iadd, 1, []), (620, .iaload, 1, []), (621, .invokevirtual 68, 3, [157, 9, 1, 944, 945, 946, 74, 7]), (624, .if_icmp .eq 182, 3, []), (627, .iconst 0, 1, []), (628, .ireturn, 1, []), (629, .aload_n 1, 1, []), (630, .aload_n 0, 1, []), (631, .iload_n 3, 1, []), (632, .iconst 1, 1, []), (633, .iadd, 1, []), (634, .iaload, 1, []), (635, .aload_n 0, 1, []), (636, .iload_n 3, 1, []), (637, .iconst 2, 1, []), (638, .iadd, 1, []), (639, .iaload, 1, []), (640, .invokevirtual 69, 3, [101, 3, 2, 585, 586, 587, 66, 6]), (643, .aload_n 2, 1, []), (644, .aload_n 0, 1, []), (645, .iload_n 3, 1, []), (646, .iconst 1, 1, []), (647, .iadd, 1, []), (648, .iaload, 1, []), (649, .aload_n 0, 1, []), (650, .iload_n 3, 1, []), (651, .iconst 2, 1, []), (652, .iadd, 1, []), (653, .iaload, 1, []), (654, .invokevirtual 72, 3, [158, 3, 2, 991, 992, 993, 74, 7]), (657, .if_icmp .eq 149, 3, []), (660, .iconst 0, 1, []), (661, .ireturn, 1, [])]
def mt_176_12 : List (Nat × mx_I) := [(662, .aload_n 1, 1, []), (663, .aload_n 0, 1, []), (664, .iload_n 3, 1, []), (665, .iconst 1, 1, []), (666, .iadd, 1, []), (667, .iaload, 1, []), (668, .aload_n 0, 1, []), (669, .iload_n 3, 1, []), (670, .iconst 2, 1, []), (671, .iadd, 1, []), (672, .iaload, 1, []), (673, .aload_n 0, 1, []), (674, .iload_n 3, 1, []), (675, .iconst 3, 1, []), (676, .iadd, 1, []), (677, .iaload, 1, []), (678, .aload_n 0, 1, []), (679, .iload_n 3, 1, []), (680, .iconst 4, 1, []), (681, .iadd, 1, []), (682, .iaload, 1, []), (683, .aload_n 0, 1, []), (684, .iload_n 3, 1, []), (685, .iconst 5, 1, []), (686, .iadd, 1, []), (687, .iaload, 1, []), (688, .aload_n 0, 1, []), (689, .iload_n 3, 1, []), (690, .bipush 6, 2, []), (692, .iadd, 1, []), (693, .iaload, 1, []), (694, .invokevirtual 73, 3, [102, 5, 6, 597, 598, 599, 66, 6]), (697, .aload_n 2, 1, []), (698, .aload_n 0, 1, []), (699, .iload_n 3, 1, []), (700, .iconst 1, 1, []), (701, .iadd, 1, []), (702, .iaload, 1, []), (703, .aload_n 0, 1, []), (704, .iload_n 3, 1, [])]
def mt_176_13 : List (Nat × mx_I) := [(705, .iconst 2, 1, []), (706, .iadd, 1, []), (707, .iaload, 1, []), (708, .aload_n 0, 1, []), (709, .iload_n 3, 1, []), (710, .iconst 3, 1, []), (711, .iadd, 1, []), (712, .iaload, 1, []), (713, .aload_n 0, 1, []), (714, .iload_n 3, 1, []), (715, .iconst 4, 1, []), (716, .iadd, 1, []), (717, .iaload, 1, []), (718, .aload_n 0, 1, []), (719, .iload_n 3, 1, []), (720, .iconst 5, 1, []), (721, .iadd, 1, []), (722, .iaload, 1, []), (723, .aload_n 0, 1, []), (724, .iload_n 3, 1, []), (725, .bipush 6, 2, []), (727, .iadd, 1, []), (728, .iaload, 1, []), (729, .invokevirtual 77, 3, [162, 4, 6, 995, 996, 997, 74, 7]), (732, .if_icmp .eq 74, 3, []), (735, .iconst 0, 1, []), (736, .ireturn, 1, []), (737, .aload_n 1, 1, []), (738, .aload_n 0, 1, []), (739, .iload_n 3, 1, []), (740, .iconst 1, 1, []), (741, .iadd, 1, []), (742, .iaload, 1, []), (743, .invokevirtual 78, 3, [103, 5, 1, 642, 643, 644, 66, 6]), (746, .aload_n 2, 1, []), (747, .aload_n 0, 1, []), (748, .iload_n 3, 1, []), (749, .iconst 1, 1, []), (750, .iadd, 1, []), (751, .iaload, 1, [])]
def mt_176_14 : List (Nat × mx_I) := [(752, .invokevirtual 81, 3, [166, 7, 1, 1010, 1011, 1012, 74, 7]), (755, .if_icmp .eq 51, 3, []), (758, .iconst 0, 1, []), (759, .ireturn, 1, []), (760, .aload_n 1, 1, []), (761, .aload_n 0, 1, []), (762, .iload_n 3, 1, []), (763, .iconst 1, 1, []), (764, .iadd, 1, []), (765, .iaload, 1, []), (766, .invokevirtual 82, 3, [104, 12, 1, 670, 671, 672, 66, 6]), (769, .aload_n 2, 1, []), (770, .aload_n 0, 1, []), (771, .iload_n 3, 1, []), (772, .iconst 1, 1, []), (773, .iadd, 1, []), (774, .iaload, 1, []), (775, .invokevirtual 85, 3, [170, 8, 1, 1026, 1027, 1028, 74, 7]), (778, .if_icmp .eq 28, 3, []), (781, .iconst 0, 1, []), (782, .ireturn, 1, []), (783, .aload_n 1, 1, []), (784, .aload_n 0, 1, []), (785, .iload_n 3, 1, []), (786, .iconst 1, 1, []), (787, .iadd, 1, []), (788, .iaload, 1, []), (789, .invokevirtual 86, 3, [105, 7, 1, 688, 689, 690, 66, 6]), (792, .aload_n 2, 1, []), (793, .aload_n 0, 1, []), (794, .iload_n 3, 1, []), (795, .iconst 1, 1, []), (796, .iadd, 1, []), (797, .iaload, 1, []), (798, .invokevirtual 89, 3, [174, 9, 1, 1042, 1043, 1044, 74, 7]), (801, .if_icmp .eq 5, 3, []), (804, .iconst 0, 1, []), (805, .ireturn, 1, []), (806, .iinc 3 7, 3, []), (809, .goto (-791), 3, [])]
def mt_176_15 : List (Nat × mx_I) := [(812, .iconst 1, 1, []), (813, .ireturn, 1, [])]
def mt_176 : List (Nat × mx_I) := mt_176_0 ++ (mt_176_1 ++ (mt_176_2 ++ (mt_176_3 ++ (mt_176_4 ++ (mt_176_5 ++ (mt_176_6 ++ (mt_176_7 ++ (mt_176_8 ++ (mt_176_9 ++ (mt_176_10 ++ (mt_176_11 ++ (mt_176_12 ++ (mt_176_13 ++ (mt_176_14 ++ (mt_176_15)))))))))))))))
def mx_hd : List mx_HD := [mh_0, mh_1, mh_2, mh_3, mh_4, mh_5, mh_6, mh_7, mh_8, mh_9, mh_10, mh_11, mh_12, mh_13, mh_14, mh_15, mh_16, mh_17, mh_18, mh_19, mh_20, mh_21, mh_22, mh_23, mh_24, mh_25, mh_26, mh_27, mh_28, mh_29, mh_30, mh_31, mh_32, mh_33, mh_34, mh_35, mh_36, mh_37, mh_38, mh_39, mh_40, mh_41, mh_42, mh_43, mh_44, mh_45, mh_46, mh_47, mh_48, mh_49, mh_50, mh_51, mh_52, mh_53, mh_54, mh_55, mh_56, mh_57, mh_58, mh_59, mh_60, mh_61, mh_62, mh_63, mh_64, mh_65, mh_66, mh_67, mh_68, mh_69, mh_70, mh_71, mh_72, mh_73, mh_74, mh_75, mh_76, mh_77, mh_78, mh_79, mh_80, mh_81, mh_82, mh_83, mh_84, mh_85, mh_86, mh_87, mh_88, mh_89, mh_90, mh_91, mh_92, mh_93, mh_94, mh_95, mh_96, mh_97, mh_98, mh_99, mh_100, mh_101, mh_102, mh_103, mh_104, mh_105, mh_106, mh_107, mh_108, mh_109, mh_110, mh_111, mh_112, mh_113, mh_114, mh_115, mh_116, mh_117, mh_118, mh_119, mh_120, mh_121, mh_122, mh_123, mh_124, mh_125, mh_126, mh_127, mh_128, mh_129, mh_130, mh_131, mh_132, mh_133, mh_134, mh_135, mh_136, mh_137, mh_138, mh_139, mh_140, mh_141, mh_142, mh_143, mh_144, mh_145, mh_146, mh_147, mh_148, mh_149, mh_150, mh_151, mh_152, mh_153, mh_154, mh_155, mh_156, mh_157, mh_158, mh_159, mh_160, mh_161, mh_162, mh_163, mh_164, mh_165, mh_166, mh_167, mh_168, mh_169, mh_170, mh_171, mh_172, mh_173, mh_174, mh_175, mh_176]
def mx_tb : List (List (Nat × mx_I)) := [mt_0, mt_1, mt_2, mt_3, mt_4, mt_5, mt_6, mt_7, mt_8, mt_9, mt_10, mt_11, mt_12, mt_13, mt_14, mt_15, mt_16, mt_17, mt_18, mt_19, mt_20, mt_21, mt_22, mt_23, mt_24, mt_25, mt_26, mt_27, mt_28, mt_29, mt_30, mt_31, mt_32, mt_33, mt_34, mt_35, mt_36, mt_37, mt_38, mt_39, mt_40, mt_41, mt_42, mt_43, mt_44, mt_45, mt_46, mt_47, mt_48, mt_49, mt_50, mt_51, mt_52, mt_53, mt_54, mt_55, mt_56, mt_57, mt_58, mt_59, mt_60, mt_61, mt_62, mt_63, mt_64, mt_65, mt_66, mt_67, mt_68, mt_69, mt_70, mt_71, mt_72, mt_73, mt_74, mt_75, mt_76, mt_77, mt_78, mt_79, mt_80, mt_81, mt_82, mt_83, mt_84, mt_85, mt_86, mt_87, mt_88, mt_89, mt_90, mt_91, mt_92, mt_93, mt_94, mt_95, mt_96, mt_97, mt_98, mt_99, mt_100, mt_101, mt_102, mt_103, mt_104, mt_105, mt_106, mt_107, mt_108, mt_109, mt_110, mt_111, mt_112, mt_113, mt_114, mt_115, mt_116, mt_117, mt_118, mt_119, mt_120, mt_121, mt_122, mt_123, mt_124, mt_125, mt_126, mt_127, mt_128, mt_129, mt_130, mt_131, mt_132, mt_133, mt_134, mt_135, mt_136, mt_137, mt_138, mt_139, mt_140, mt_141, mt_142, mt_143, mt_144, mt_145, mt_146, mt_147, mt_148, mt_149, mt_150, mt_151, mt_152, mt_153, mt_154, mt_155, mt_156, mt_157, mt_158, mt_159, mt_160, mt_161, mt_162, mt_163, mt_164, mt_165, mt_166, mt_167, mt_168, mt_169, mt_170, mt_171, mt_172, mt_173, mt_174, mt_175, mt_176]
end
section
/-! the machine of my own: a step over pictures (refs are places in a list of cells), a run with fuel, the run's answer -/
def mx_up (σ : mx_S) (c k : Nat) (x : Int32) : mx_S := fun c' => if c' = c then upd (σ c) k x else σ c'
def mx_zr (σ : mx_S) (c : Nat) : mx_S := fun c' => if c' = c then (fun _ => 0) else σ c'
def mx_in (i : Int32) (n : Nat) : Bool := !(decide (i < 0)) && decide (i.toNatClampNeg < n)
def mx_fld (h : mx_H) (ci k c : Nat) : Option Value := match h.1[c]? with
  | some (.inl (ci', fs)) => if ci' = ci then (match fs[k]? with
    | some none => some (.int (h.2 c k))
    | some (some (some r)) => some (.ref r)
    | _ => none) else none
  | _ => none
def mx_isI (sh : List mx_C) (ci k c : Nat) : Bool := match sh[c]? with
  | some (.inl (ci', fs)) => decide (ci' = ci) && decide (fs[k]? = some none)
  | _ => false
def mx_setR (sh : List mx_C) (ci k c r : Nat) : Option (List mx_C) := match sh[c]? with
  | some (.inl (ci', fs)) => if ci' = ci ∧ fs[k]? = some (some none) then some (sh.set c (.inl (ci, fs.set k (some (some r))))) else none
  | _ => none
def mx_lenW (sh : List mx_C) (c t : Nat) : Nat := match sh[c]? with
  | some (.inr (.inl (t', n))) => if t' = t then n else 0
  | _ => 0
def mx_len (h : mx_H) (c : Nat) : Nat := if 1000 ≤ c then (if c < 1004 then (h.2 2000 (c - 1000)).toNatClampNeg else 0) else mx_lenW h.1 c 0
def mx_rows (sh : List mx_C) (c : Nat) : List (Option Nat) := match sh[c]? with
  | some (.inr (.inr l)) => l
  | _ => []
def mx_df7 : List (Option (Option Nat)) := [some none, some none, some none, none, some none, some none, none, some none, some none, some none, some none, some none, some none, some none, some none, some none, some none, some none, some none, none, none, none, none, none, none, none, none, none, none, some none, some none, some none]
def mx_df (ci : Nat) : List (Option (Option Nat)) := match ci with
  | 0 => [some none, some none, none, none, none, none, none]
  | 1 => [none, none, none, none, none, none, none, none]
  | 2 => [some none, some none, some none]
  | 3 => [none, none, none, none, none, none, none, none, none, none, none, none]
  | 4 => [some none, some none, some none, some none, none, none]
  | 5 => [some none, some none, some none, some none, some none, none]
  | 6 => [some none, some none, some none, some none, some none]
  | _ => mx_df7
def mx_frV (lo hi : Nat) (v : Value) : Bool := match v with
  | .ref i => !(decide (lo ≤ i) && decide (i < hi))
  | _ => true
def mx_fr (lo hi : Nat) (L st : List Value) : Bool := decide (hi ≤ lo) || (L.all (mx_frV lo hi) && st.all (mx_frV lo hi))
def mx_frO (lo hi : Nat) (o : Option Nat) : Bool := match o with
  | some i => !(decide (lo ≤ i) && decide (i < hi))
  | none => true
def mx_frC (lo hi : Nat) (q : mx_C) : Bool := match q with
  | .inl (_, fs) => fs.all (fun o => match o with | some r => mx_frO lo hi r | none => true)
  | .inr (.inl _) => true
  | .inr (.inr l) => l.all (mx_frO lo hi)
def mx_ok1 (sh : List mx_C) (L st : List Value) : Bool := decide (sh.length < 900) && L.all (mx_frV sh.length (sh.length + 1)) && st.all (mx_frV sh.length (sh.length + 1)) && sh.all (mx_frC sh.length (sh.length + 1))
def mx_nx (pc : Nat) (L st : List Value) (h : mx_H) : Option mx_N := some (.inl (pc, L, st, h))
def mx_bin (f : Int32 → Int32 → Int32) (pc : Nat) (L st : List Value) (h : mx_H) : Option mx_N := match st with
  | .int y :: .int x :: r => mx_nx (pc + 1) L (.int (f x y) :: r) h
  | _ => none
def mx_dvd (f : Int32 → Int32 → Int32) (pc : Nat) (L st : List Value) (h : mx_H) : Option mx_N := match st with
  | .int y :: .int x :: r => if y = 0 then none else mx_nx (pc + 1) L (.int (f x y) :: r) h
  | _ => none
def mx_ild (k pc' : Nat) (L st : List Value) (h : mx_H) : Option mx_N := match L[k]? with
  | some (.int x) => mx_nx pc' L (.int x :: st) h
  | _ => none
def mx_ald (k pc' : Nat) (L st : List Value) (h : mx_H) : Option mx_N := match L[k]? with
  | some (.ref x) => mx_nx pc' L (.ref x :: st) h
  | _ => none
def mx_ist (k pc' : Nat) (L st : List Value) (h : mx_H) : Option mx_N := match st with
  | .int x :: r => if k < L.length then mx_nx pc' (L.set k (.int x)) r h else none
  | _ => none
def mx_ast (k pc' : Nat) (L st : List Value) (h : mx_H) : Option mx_N := match st with
  | .ref x :: r => if k < L.length then mx_nx pc' (L.set k (.ref x)) r h else none
  | _ => none
def mx_inc (k : Nat) (n : Int) (pc' : Nat) (L st : List Value) (h : mx_H) : Option mx_N := match L[k]? with
  | some (.int x) => mx_nx pc' (L.set k (.int (x + Int32.ofInt n))) st h
  | _ => none
def mx_c1 (c : Jvm.ClassFile.Cond) (x : Int32) : Bool := match c with
  | .eq => decide (x = 0)
  | .ne => decide (¬ x = 0)
  | .lt => decide (x < 0)
  | .ge => decide (0 ≤ x)
  | .gt => decide (0 < x)
  | .le => decide (x ≤ 0)
def mx_c2 (c : Jvm.ClassFile.Cond) (x y : Int32) : Bool := match c with
  | .eq => decide (x = y)
  | .ne => decide (¬ x = y)
  | .lt => decide (x < y)
  | .ge => decide (y ≤ x)
  | .gt => decide (y < x)
  | .le => decide (x ≤ y)
def mx_if1 (c : Jvm.ClassFile.Cond) (off : Int) (pc : Nat) (L st : List Value) (h : mx_H) : Option mx_N := match st with
  | .int x :: r => mx_nx (if mx_c1 c x then ((pc : Int) + off).toNat else pc + 3) L r h
  | _ => none
def mx_if2 (c : Jvm.ClassFile.Cond) (off : Int) (pc : Nat) (L st : List Value) (h : mx_H) : Option mx_N := match st with
  | .int y :: .int x :: r => mx_nx (if mx_c2 c x y then ((pc : Int) + off).toNat else pc + 3) L r h
  | _ => none
def mx_tsw (dflt lo hi : Int) (offs : Array Int) (pc : Nat) (L st : List Value) (h : mx_H) : Option mx_N := match st with
  | .int x :: r => if x.toInt < lo ∨ hi < x.toInt then mx_nx ((pc : Int) + dflt).toNat L r h else (match offs[(x.toInt - lo).toNat]? with
    | some off => mx_nx ((pc : Int) + off).toNat L r h
    | none => none)
  | _ => none
def mx_gf (aux : List Nat) (pc : Nat) (L st : List Value) (h : mx_H) : Option mx_N := match aux, st with
  | [ci, k, _, _], .ref c :: r => (match mx_fld h ci k c with
    | some v => mx_nx (pc + 3) L (v :: r) h
    | none => none)
  | _, _ => none
def mx_pf (aux : List Nat) (pc : Nat) (L st : List Value) (h : mx_H) : Option mx_N := match aux, st with
  | [ci, k, kind, isB, _], .int x :: .ref c :: r => if ¬ kind = 1 ∧ mx_isI h.1 ci k c = true ∧ (isB = 0 ∨ x = 0 ∨ x = 1) then mx_nx (pc + 3) L r (h.1, mx_up h.2 c k x) else none
  | [ci, k, kind, _, _], .ref v :: .ref c :: r => if kind = 1 then (match mx_setR h.1 ci k c v with
    | some sh' => mx_nx (pc + 3) L r (sh', h.2)
    | none => none) else none
  | _, _ => none
def mx_iald (pc : Nat) (L st : List Value) (h : mx_H) : Option mx_N := match st with
  | .int i :: .ref c :: r => if mx_in i (mx_len h c) then mx_nx (pc + 1) L (.int (h.2 c i.toNatClampNeg) :: r) h else none
  | _ => none
def mx_iast (pc : Nat) (L st : List Value) (h : mx_H) : Option mx_N := match st with
  | .int x :: .int i :: .ref c :: r => if mx_in i (mx_lenW h.1 c 0) then mx_nx (pc + 1) L r (h.1, mx_up h.2 c i.toNatClampNeg x) else none
  | _ => none
def mx_zald (pc : Nat) (L st : List Value) (h : mx_H) : Option mx_N := match st with
  | .int i :: .ref c :: r => if mx_in i (mx_lenW h.1 c 1) then mx_nx (pc + 1) L (.int (h.2 c i.toNatClampNeg) :: r) h else none
  | _ => none
def mx_zast (pc : Nat) (L st : List Value) (h : mx_H) : Option mx_N := match st with
  | .int x :: .int i :: .ref c :: r => if mx_in i (mx_lenW h.1 c 1) ∧ (x = 0 ∨ x = 1) then mx_nx (pc + 1) L r (h.1, mx_up h.2 c i.toNatClampNeg x) else none
  | _ => none
def mx_aald (pc : Nat) (L st : List Value) (h : mx_H) : Option mx_N := match st with
  | .int i :: .ref c :: r => if mx_in i (mx_rows h.1 c).length then (match (mx_rows h.1 c)[i.toNatClampNeg]? with
    | some (some v) => mx_nx (pc + 1) L (.ref v :: r) h
    | _ => none) else none
  | _ => none
def mx_aast (pc : Nat) (L st : List Value) (h : mx_H) : Option mx_N := match st with
  | .ref v :: .int i :: .ref c :: r => (match h.1[v]?, h.1[c]? with
    | some (.inl (3, _)), some (.inr (.inr l)) => if mx_in i l.length then mx_nx (pc + 1) L r (h.1.set c (.inr (.inr (l.set i.toNatClampNeg (some v)))), h.2) else none
    | _, _ => none)
  | _ => none
def mx_alen (pc : Nat) (L st : List Value) (h : mx_H) : Option mx_N := match st with
  | .ref c :: r => if 1000 ≤ c then (if c < 1004 then mx_nx (pc + 1) L (.int (h.2 2000 (c - 1000)) :: r) h else none) else (match h.1[c]? with
    | some (.inr (.inl (0, n))) => mx_nx (pc + 1) L (.int (Int32.ofNat n) :: r) h
    | _ => none)
  | _ => none
def mx_dup (pc : Nat) (L st : List Value) (h : mx_H) : Option mx_N := match st with
  | v :: r => mx_nx (pc + 1) L (v :: v :: r) h
  | _ => none
def mx_dup2 (pc : Nat) (L st : List Value) (h : mx_H) : Option mx_N := match st with
  | v :: w :: r => mx_nx (pc + 1) L (v :: w :: v :: w :: r) h
  | _ => none
def mx_pop (pc : Nat) (L st : List Value) (h : mx_H) : Option mx_N := match st with
  | _ :: r => mx_nx (pc + 1) L r h
  | _ => none
def mx_new (aux : List Nat) (pc : Nat) (L st : List Value) (h : mx_H) : Option mx_N := match aux with
  | [ci, _, _, _] => if mx_ok1 h.1 L st then mx_nx (pc + 3) L (.ref h.1.length :: st) (h.1 ++ [.inl (ci, mx_df ci)], mx_zr h.2 h.1.length) else none
  | _ => none
def mx_newa (aux : List Nat) (pc : Nat) (L st : List Value) (h : mx_H) : Option mx_N := match aux, st with
  | [t, _], .int n :: r => if mx_ok1 h.1 L r ∧ ¬ n < 0 ∧ n.toNatClampNeg < 1000 then mx_nx (pc + 2) L (.ref h.1.length :: r) (h.1 ++ [.inr (.inl (t, n.toNatClampNeg))], mx_zr h.2 h.1.length) else none
  | _, _ => none
def mx_newq (pc : Nat) (L st : List Value) (h : mx_H) : Option mx_N := match st with
  | .int n :: r => if mx_ok1 h.1 L r ∧ ¬ n < 0 ∧ n.toNatClampNeg < 1000 then mx_nx (pc + 3) L (.ref h.1.length :: r) (h.1 ++ [.inr (.inr (List.replicate n.toNatClampNeg none))], mx_zr h.2 h.1.length) else none
  | _ => none
def mx_dd (d dc : Nat) : Nat := if dc = 0 then d - 1 else dc - 1
/-- a call: the receiver, if there is one, and n arguments are taken off the stack -/
def mx_cl (n : Nat) (k dc d : Nat) (st : List Value) : Option mx_N := if n ≤ st.length ∧ mx_dd d dc < d ∧ (st.drop n).length ≤ 8 then some (.inr (.inl (mx_dd d dc, k, (st.take n).reverse, st.drop n))) else none
def mx_isR (ci : Nat) (h : mx_H) (v : Option Value) : Bool := match v with
  | some (.ref c) => (match h.1[c]? with
    | some (.inl (ci', _)) => decide (ci' = ci)
    | _ => false)
  | _ => false
def mx_mm (mm : Nat) (x y : Int32) : Int32 := if mm = 0 then (if y < x then y else x) else (if x < y then y else x)
def mx_cS (aux : List Nat) (d pc : Nat) (L st : List Value) (h : mx_H) : Option mx_N := match aux with
  | [k, dc, n, _, _, _] => mx_cl n k dc d st
  | [mm, _, _, _, _] => (match st with
    | .int y :: .int x :: r => if r.length ≤ 8 then mx_nx (pc + 3) L (.int (mx_mm mm x y) :: r) h else none
    | _ => none)
  | _ => none
def mx_cV (aux : List Nat) (d : Nat) (st : List Value) (h : mx_H) : Option mx_N := match aux with
  | [k, dc, n, _, _, _, _, ci] => if mx_isR ci h st[n]? then mx_cl (n + 1) k dc d st else none
  | _ => none
def mx_cI (aux : List Nat) (d pc : Nat) (L st : List Value) (h : mx_H) : Option mx_N := match aux with
  | [k, dc, n, _, _, _, _] => (match st[n]? with
    | some (.ref _) => mx_cl (n + 1) k dc d st
    | _ => none)
  | [_] => (match st with
    | .ref _ :: r => if r.length ≤ 8 then mx_nx (pc + 3) L r h else none
    | _ => none)
  | _ => none
def mx_iret (rt : Option FieldType) (st : List Value) : Option mx_N := match st with
  | [.int v] => if rt = some .int ∨ (rt = some .boolean ∧ (v = 0 ∨ v = 1)) then some (.inr (.inr (some (.int v)))) else none
  | _ => none
def mx_vret (rt : Option FieldType) (st : List Value) : Option mx_N := match st with
  | [] => if rt = none then some (.inr (.inr none)) else none
  | _ => none
def mx_do (i : Instr) (aux : List Nat) (rt : Option FieldType) (d pc : Nat) (L st : List Value) (h : mx_H) : Option mx_N := match i with
  | .iconst n => mx_nx (pc + 1) L (.int (Int32.ofInt n) :: st) h
  | .bipush n => mx_nx (pc + 2) L (.int (Int8.ofInt n).toInt32 :: st) h
  | .sipush n => mx_nx (pc + 3) L (.int (Int16.ofInt n).toInt32 :: st) h
  | .ldc _ => (match aux with
    | [v, _] => mx_nx (pc + 2) L (.int (Int32.ofNat v) :: st) h
    | _ => none)
  | .ldc_w _ => (match aux with
    | [v, _] => mx_nx (pc + 3) L (.int (Int32.ofNat v) :: st) h
    | _ => none)
  | .iload k => mx_ild k (pc + 2) L st h
  | .iload_n k => mx_ild k (pc + 1) L st h
  | .aload k => mx_ald k (pc + 2) L st h
  | .aload_n k => mx_ald k (pc + 1) L st h
  | .istore k => mx_ist k (pc + 2) L st h
  | .istore_n k => mx_ist k (pc + 1) L st h
  | .astore k => mx_ast k (pc + 2) L st h
  | .astore_n k => mx_ast k (pc + 1) L st h
  | .iinc k n => mx_inc k n (pc + 3) L st h
  | .iadd => mx_bin (fun x y => x + y) pc L st h
  | .isub => mx_bin (fun x y => x - y) pc L st h
  | .imul => mx_bin (fun x y => x * y) pc L st h
  | .iand => mx_bin (fun x y => x &&& y) pc L st h
  | .ior => mx_bin (fun x y => x ||| y) pc L st h
  | .ixor => mx_bin (fun x y => x ^^^ y) pc L st h
  | .ishl => mx_bin (fun x y => x <<< (y &&& 31)) pc L st h
  | .ishr => mx_bin (fun x y => x >>> (y &&& 31)) pc L st h
  | .iushr => mx_bin (fun x y => (x.toUInt32 >>> (y.toUInt32 &&& Int32.toUInt32 31)).toInt32) pc L st h
  | .idiv => mx_dvd (fun x y => x / y) pc L st h
  | .irem => mx_dvd (fun x y => x - x / y * y) pc L st h
  | .goto off => mx_nx ((pc : Int) + off).toNat L st h
  | .ifCond c off => mx_if1 c off pc L st h
  | .if_icmp c off => mx_if2 c off pc L st h
  | .tableswitch dflt lo hi offs => mx_tsw dflt lo hi offs pc L st h
  | .getfield _ => mx_gf aux pc L st h
  | .putfield _ => mx_pf aux pc L st h
  | .getstatic _ => (match aux with
    | [k, _] => mx_nx (pc + 3) L (.ref (1000 + k) :: st) h
    | _ => none)
  | .iaload => mx_iald pc L st h
  | .iastore => mx_iast pc L st h
  | .baload => mx_zald pc L st h
  | .bastore => mx_zast pc L st h
  | .aaload => mx_aald pc L st h
  | .aastore => mx_aast pc L st h
  | .arraylength => mx_alen pc L st h
  | .dup => mx_dup pc L st h
  | .dup2 => mx_dup2 pc L st h
  | .pop => mx_pop pc L st h
  | .new _ => mx_new aux pc L st h
  | .newarray _ => mx_newa aux pc L st h
  | .anewarray _ => mx_newq pc L st h
  | .invokestatic _ => mx_cS aux d pc L st h
  | .invokevirtual _ => mx_cV aux d st h
  | .invokespecial _ => mx_cI aux d pc L st h
  | .ireturn => mx_iret rt st
  | .return_ => mx_vret rt st
  | _ => none
def mx_ins (j pc : Nat) : Option mx_I := match mx_tb[j]? with
  | some t => t.lookup pc
  | none => none
def mx_st (d j pc : Nat) (L st : List Value) (h : mx_H) : Option mx_N := match mx_hd[j]?, mx_ins j pc with
  | some q, some (i, _, aux) => mx_do i aux q.2.2.2.1 d pc L st h
  | _, _ => none
/-- the locals with which method k begins -/
def mx_en (k : Nat) (as : List Value) : List Value := as ++ List.replicate (((mx_hd[k]?).map (fun q => q.2.2.1)).getD 0 - as.length) .null
def mx_ev : Nat → Nat → Nat → Nat → List Value → List Value → mx_H → Option mx_R
  | 0, _, _, _, _, _, _ => none
  | n + 1, d, j, pc, L, st, h => match mx_st d j pc L st h with
    | none => none
    | some (.inl (pc', L', st', h')) => mx_ev n d j pc' L' st' h'
    | some (.inr (.inl (d', k, as, rest))) => (match mx_ev n d' k 0 (mx_en k as) [] h with
      | none => none
      | some (v, h') => if mx_fr h.1.length h'.1.length L rest then mx_ev n d j (pc + 3) L (v.toList ++ rest) h' else none)
    | some (.inr (.inr v)) => some (v, h)
theorem mx_ev_mono1 : ∀ (n d j pc : Nat) (L st : List Value) (h : mx_H) (r : mx_R), mx_ev n d j pc L st h = some r → mx_ev (n + 1) d j pc L st h = some r := by
  intro n
  induction n with
  | zero => intro d j pc L st h r hr; simp [mx_ev] at hr
  | succ n ih =>
    intro d j pc L st h r hr
    rw [mx_ev] at hr ⊢
    cases hs : mx_st d j pc L st h with
    | none => rw [hs] at hr; simp at hr
    | some o =>
      rw [hs] at hr
      match o, hr with
      | .inl (pc', L', st', h'), hr => exact ih _ _ _ _ _ _ _ hr
      | .inr (.inl (d', k, as, rest)), hr =>
        dsimp only at hr ⊢
        cases hc : mx_ev n d' k 0 (mx_en k as) [] h with
        | none => rw [hc] at hr; simp at hr
        | some q =>
          rw [hc] at hr
          rw [ih _ _ _ _ _ _ _ hc]
          obtain ⟨v, h'⟩ := q
          dsimp only at hr ⊢
          by_cases hf : mx_fr h.1.length h'.1.length L rest = true
          · rw [if_pos hf] at hr ⊢
            exact ih _ _ _ _ _ _ _ hr
          · rw [if_neg hf] at hr
            cases hr
      | .inr (.inr v), hr => exact hr
theorem mx_ev_mono {n d j pc : Nat} {L st : List Value} {h : mx_H} {r : mx_R} (hr : mx_ev n d j pc L st h = some r) : ∀ {m : Nat}, n ≤ m → mx_ev m d j pc L st h = some r := by
  intro m hm
  induction hm with
  | refl => exact hr
  | step _ ih => exact mx_ev_mono1 _ _ _ _ _ _ _ _ ih
theorem mx_ex (d j pc : Nat) (L st : List Value) (h : mx_H) : ∃ o : Option mx_R, ∀ r, o = some r ↔ ∃ n, mx_ev n d j pc L st h = some r := by
  by_cases hx : ∃ r n, mx_ev n d j pc L st h = some r
  · obtain ⟨r, n, hn⟩ := hx
    refine ⟨some r, fun r' => ⟨fun e => ⟨n, by rw [hn, e]⟩, fun ⟨m, hm⟩ => ?_⟩⟩
    have h1 := mx_ev_mono hn (Nat.le_max_left n m)
    have h2 := mx_ev_mono hm (Nat.le_max_right n m)
    rw [h1] at h2
    exact h2
  · exact ⟨none, fun r => ⟨fun e => (by cases e), fun ⟨n, hn⟩ => absurd ⟨r, n, hn⟩ hx⟩⟩
/-- the answer of a run from a frame on (none: it is stuck, or does not end) -/
noncomputable def vv (d j pc : Nat) (L st : List Value) (h : mx_H) : Option mx_R := Classical.choose (mx_ex d j pc L st h)
theorem vv_iff {d j pc : Nat} {L st : List Value} {h : mx_H} {r : mx_R} : vv d j pc L st h = some r ↔ ∃ n, mx_ev n d j pc L st h = some r := Classical.choose_spec (mx_ex d j pc L st h) r
noncomputable def vr (o : Option mx_R) (d j pc : Nat) (L st : List Value) (n : Nat) : Option mx_R := match o with
  | none => none
  | some (v, h') => if mx_fr n h'.1.length L st then vv d j pc L (v.toList ++ st) h' else none
noncomputable def vs (o : Option mx_N) (d j pc : Nat) (L : List Value) (h : mx_H) : Option mx_R := match o with
  | none => none
  | some (.inl (pc', L', st', h')) => vv d j pc' L' st' h'
  | some (.inr (.inl (d', k, as, rest))) => vr (vv d' k 0 (mx_en k as) [] h) d j (pc + 3) L rest h.1.length
  | some (.inr (.inr v)) => some (v, h)
theorem mx_oe {α : Type} {a b : Option α} (h : ∀ r, a = some r ↔ b = some r) : a = b := by
  cases a with
  | none =>
    cases b with
    | none => rfl
    | some x => exact absurd ((h x).mpr rfl) (by simp)
  | some x => exact ((h x).mp rfl).symm
theorem vv_eq (d j pc : Nat) (L st : List Value) (h : mx_H) : vv d j pc L st h = vs (mx_st d j pc L st h) d j pc L h := by
  refine mx_oe fun r => ?_
  rw [vv_iff]
  have key : ∀ n, mx_ev (n + 1) d j pc L st h = (match mx_st d j pc L st h with
    | none => none
    | some (.inl (pc', L', st', h')) => mx_ev n d j pc' L' st' h'
    | some (.inr (.inl (d', k, as, rest))) => (match mx_ev n d' k 0 (mx_en k as) [] h with
      | none => none
      | some (v, h') => if mx_fr h.1.length h'.1.length L rest then mx_ev n d j (pc + 3) L (v.toList ++ rest) h' else none)
    | some (.inr (.inr v)) => some (v, h)) := fun n => by rw [mx_ev]
  constructor
  · rintro ⟨n, hn⟩
    cases n with
    | zero => simp [mx_ev] at hn
    | succ n =>
      rw [key] at hn
      cases hs : mx_st d j pc L st h with
      | none => rw [hs] at hn; simp at hn
      | some o =>
        rw [hs] at hn
        match o, hn with
        | .inl (pc', L', st', h'), hn => exact vv_iff.mpr ⟨n, hn⟩
        | .inr (.inl (d', k, as, rest)), hn =>
          dsimp only at hn
          show vr (vv d' k 0 (mx_en k as) [] h) d j (pc + 3) L rest h.1.length = some r
          cases hc : mx_ev n d' k 0 (mx_en k as) [] h with
          | none => rw [hc] at hn; simp at hn
          | some q =>
            rw [hc] at hn
            rw [vv_iff.mpr ⟨n, hc⟩]
            obtain ⟨v, h'⟩ := q
            dsimp only [vr] at hn ⊢
            by_cases hf : mx_fr h.1.length h'.1.length L rest = true
            · rw [if_pos hf] at hn ⊢
              exact vv_iff.mpr ⟨n, hn⟩
            · rw [if_neg hf] at hn
              cases hn
        | .inr (.inr v), hn => exact hn
  · intro hn
    cases hs : mx_st d j pc L st h with
    | none => rw [hs] at hn; simp [vs] at hn
    | some o =>
      rw [hs] at hn
      match o, hn, hs with
      | .inl (pc', L', st', h'), hn, hs =>
        obtain ⟨n, h1⟩ := vv_iff.mp (show vv d j pc' L' st' h' = some r from hn)
        exact ⟨n + 1, by rw [key, hs]; exact h1⟩
      | .inr (.inl (d', k, as, rest)), hn, hs =>
        have hn : vr (vv d' k 0 (mx_en k as) [] h) d j (pc + 3) L rest h.1.length = some r := hn
        cases hc : vv d' k 0 (mx_en k as) [] h with
        | none => rw [hc] at hn; simp [vr] at hn
        | some q =>
          rw [hc] at hn
          obtain ⟨v, h'⟩ := q
          dsimp only [vr] at hn
          by_cases hf : mx_fr h.1.length h'.1.length L rest = true
          · rw [if_pos hf] at hn
            obtain ⟨n1, e1⟩ := vv_iff.mp hc
            obtain ⟨n2, e2⟩ := vv_iff.mp hn
            refine ⟨max n1 n2 + 1, ?_⟩
            rw [key, hs]
            dsimp only
            rw [mx_ev_mono e1 (Nat.le_max_left n1 n2)]
            dsimp only
            rw [if_pos hf]
            exact mx_ev_mono e2 (Nat.le_max_right n1 n2)
          · rw [if_neg hf] at hn
            cases hn
      | .inr (.inr v), hn, hs => exact ⟨1, by rw [key, hs]; exact hn⟩
end
section
/-! what a row of the tables promises; that each keeps it is decided by the kernel, method by method -/
def mx_sf (k : Nat) : String × String × String := match k with
  | 0 => ("MainsLetters$Contention", "WIDTHS", "[I")
  | 1 => ("MainsLetters$Contention", "NARROW_WIDTHS", "[I")
  | _ => ("MainsLetters$Contention", "DEFERS", "[I")
def mx_w (pl : Nat) (w : Cond) : Bool := decide (lw_tbl[pl]? = some w)
/-- a method that may be called -/
def mx_mk (k n : Nat) (f : MethodName → Bool) : Bool := match mx_hd[k]? with
  | some (y, cc, maxL, rt, pl) => mx_w pl (.code y cc maxL rt) && decide (y.cls ≠ "java/lang/invoke/MethodHandle") && decide (y.cls ≠ "java/lang/invoke/VarHandle") && decide ((parseMethodDescriptor y.desc).map (fun d => d.parameters.length) = some n) && decide (maxL ≤ 40) && decide (n + 1 ≤ maxL ∨ (n ≤ maxL ∧ y.name ≠ "<init>")) && plainName y.cls && f y
  | none => false
def mx_fk (ci k : Nat) (f : String → String × String × String × Bool → Nat → Bool) : Bool := match vwCl[ci]? with
  | some (C, T, N) => decide (k < N) && f C (T k) N
  | none => false
def mx_ax (own mname : String) (pc : Nat) (i : Instr) (len : Nat) (aux : List Nat) : Bool := match i with
  | .iload_n _ | .aload_n _ | .istore_n _ | .astore_n _ | .iadd | .isub | .imul | .iand | .ior | .ixor | .ishl | .ishr | .iushr | .idiv | .irem | .iaload | .iastore | .baload | .bastore | .aaload | .aastore | .arraylength | .dup | .dup2 | .pop | .ireturn | .return_ => decide (len = 1)
  | .iconst _ => decide (len = 1)
  | .bipush _ => decide (len = 2)
  | .sipush _ => decide (len = 3)
  | .iload _ | .aload _ | .istore _ | .astore _ => decide (len = 2)
  | .iinc _ _ => decide (len = 3)
  | .goto off => decide (len = 3) && decide (0 ≤ (pc : Int) + off)
  | .ifCond _ off => decide (len = 3) && decide (0 ≤ (pc : Int) + off)
  | .if_icmp _ off => decide (len = 3) && decide (0 ≤ (pc : Int) + off)
  | .tableswitch dflt _ _ offs => decide (0 ≤ (pc : Int) + dflt) && offs.toList.all (fun off => decide (0 ≤ (pc : Int) + off))
  | .ldc ix => decide (len = 2) && (match aux with
    | [v, pl] => mx_w pl (.constant own ix (Int32.ofNat v))
    | _ => false)
  | .ldc_w ix => decide (len = 3) && (match aux with
    | [v, pl] => mx_w pl (.constant own ix (Int32.ofNat v))
    | _ => false)
  | .getfield ix => decide (len = 3) && (match aux with
    | [ci, k, nest, pl] => mx_fk ci k (fun _ t _ => if nest = 0 then mx_w pl (.fieldLink own ix t.1 t.2.1 t.2.2.1) else mx_w pl (.fieldLinkNest own ix t.1 t.2.1 t.2.2.1 "MainsLetters"))
    | _ => false)
  | .putfield ix => decide (len = 3) && (match aux with
    | [ci, k, kind, isB, pl] => mx_fk ci k (fun _ t _ =>
      (if kind = 2 then mx_w pl (.fieldLinkNest own ix t.1 t.2.1 t.2.2.1 "MainsLetters") else mx_w pl (.fieldLink own ix t.1 t.2.1 t.2.2.1)) &&
      (if kind = 1 then t.2.2.2 && decide (t.1 = own) && decide (mname = "<init>") && (match parseFieldDescriptor t.2.2.1 with
        | some (.object _) => true
        | some (.array _) => true
        | _ => false) else (!t.2.2.2 && decide (parseFieldDescriptor t.2.2.1 = some (if isB = 0 then .int else .boolean)))))
    | _ => false)
  | .getstatic ix => decide (len = 3) && (match aux with
    | [k, pl] => decide (k < 3) && mx_w pl (.fieldLink own ix (mx_sf k).1 (mx_sf k).2.1 (mx_sf k).2.2)
    | _ => false)
  | .new ix => decide (len = 3) && (match aux with
    | [ci, p1, p2, p3] => mx_fk ci 0 (fun C _ N => mx_w p1 (.classLink own ix C) && mx_w p2 (.instantiable C N) && mx_w p3 (.initialized C))
    | _ => false)
  | .newarray at_ => decide (len = 2) && (match aux with
    | [t, pl] => (decide (at_ = .int) && decide (t = 0) && mx_w pl (.arrayClass .int)) || (decide (at_ = .boolean) && decide (t = 1) && mx_w pl (.arrayClass .boolean))
    | _ => false)
  | .anewarray ix => decide (len = 3) && (match aux with
    | [p1] => mx_w p1 (.classLink own ix "MainsLetters$Station")
    | _ => false)
  | .invokestatic ix => decide (len = 3) && (match aux with
    | [k, _, n, pl, p2, p3] => mx_mk k n (fun y => mx_w pl (.methodLink own ix y) && mx_w p2 (.static y) && mx_w p3 (.initialized y.cls) && decide (y.name ≠ "<init>"))
    | [mm, pl, p2, p3, p4] => (decide (mm = 0) && mx_w pl (.methodLink own ix Lib.Math.min.name) && mx_w p2 (.static Lib.Math.min.name) && mx_w p3 (.initialized "java/lang/Math") && mx_w p4 (.code Lib.Math.min.name Lib.Math.min.code 2 (some .int))) || (decide (mm = 1) && mx_w pl (.methodLink own ix Lib.Math.max.name) && mx_w p2 (.static Lib.Math.max.name) && mx_w p3 (.initialized "java/lang/Math") && mx_w p4 (.code Lib.Math.max.name Lib.Math.max.code 2 (some .int)))
    | _ => false)
  | .invokevirtual ix => decide (len = 3) && (match aux with
    | [k, _, n, pl, p2, p3, p4, ci] => mx_mk k n (fun y => mx_w pl (.methodLink own ix y) && mx_w p2 (.instanceMethod y) && mx_w p3 (.selects y.cls y y) && mx_w p4 (.initialized y.cls) && mx_fk ci 0 (fun C _ _ => decide (y.cls = C)) && decide (n + 1 ≤ ((mx_hd[k]?).map (fun q => q.2.2.1)).getD 0))
    | _ => false)
  | .invokespecial ix => decide (len = 3) && (match aux with
    | [k, _, n, pl, p2, p3, nest] => mx_mk k n (fun y => (if nest = 0 then mx_w pl (.methodLink own ix y) else mx_w pl (.methodLinkNest own ix y "MainsLetters")) && mx_w p2 (.instanceMethod y) && mx_w p3 (.initialized y.cls) && decide (y.name = "<init>"))
    | [pl] => mx_w pl (.methodLink own ix objectInit)
    | _ => false)
  | _ => false
def mx_chk (own mname : String) (cc : ByteArray) (q : Nat × mx_I) : Bool := decide (decode cc q.1 = .ok (q.2.1, q.2.2.1)) && mx_ax own mname q.1 q.2.1 q.2.2.1 q.2.2.2
def mx_ck (q : mx_HD × List (Nat × mx_I)) : Bool := q.2.all (mx_chk q.1.1.cls q.1.1.name q.1.2.1)
theorem mx_good {j pc : Nat} {q : mx_HD} {x : mx_I} (hj : mx_hd[j]? = some q) (hi : mx_ins j pc = some x) : mx_chk q.1.cls q.1.name q.2.1 (pc, x) = true := sorry
end
section
/-! the picture in the kit's worlds -/
def mx_cv (ad : Nat → Nat) (v : Value) : Value := match v with
  | .int x => .int x
  | .ref i => .ref (ad i)
  | _ => .null
def mx_fv (ad : Nat → Nat) (f : Nat → Int32) (k : Nat) (o : Option (Option Nat)) : Value := match o with
  | none => .int (f k)
  | some none => .null
  | some (some r) => .ref (ad r)
def mx_cE (g : ClassId × ClassId × ClassId) (ad : Nat → Nat) (q : mx_C) (f : Nat → Int32) : va_E := match q with
  | .inl (ci, fs) => .inr (ci, fs.mapIdx (mx_fv ad f))
  | .inr (.inl (t, n)) => .inl (if t = 0 then g.1 else g.2.1, n, .inl f)
  | .inr (.inr l) => .inl (g.2.2, l.length, .inr (.inr (.inr (.inr (fun k => (l[k]?.getD none).map ad)))))
def mx_ws (g : ClassId × ClassId × ClassId) (ad : Nat → Nat) (h : mx_H) : va_W := h.1.mapIdx (fun c q => (ad c, mx_cE g ad q (h.2 c)))
abbrev mx_ty (g : ClassId × ClassId × ClassId) : List (ClassId × FieldType) := [(g.1, .int), (g.2.1, .boolean), (g.2.2, .object "MainsLetters$Station")]
theorem mx_ws_at {g : ClassId × ClassId × ClassId} {ad : Nat → Nat} {h : mx_H} {c : Nat} {q : mx_C} (hq : h.1[c]? = some q) : (mx_ws g ad h)[c]? = some (ad c, mx_cE g ad q (h.2 c)) := by
  simp [mx_ws, List.getElem?_mapIdx, hq]
theorem mx_lt {α : Type} {l : List α} {c : Nat} {q : α} (hq : l[c]? = some q) : c < l.length := (List.getElem?_eq_some_iff.mp hq).1
theorem mx_set {g : ClassId × ClassId × ClassId} {ad : Nat → Nat} {h h' : mx_H} {c : Nat} {E : va_E} (q : mx_C) (hc : c < h.1.length) (h1 : h'.1 = h.1.set c q) (h2 : ∀ c', c' ≠ c → h'.2 c' = h.2 c') (hE : mx_cE g ad q (h'.2 c) = E) : (mx_ws g ad h).set c (ad c, E) = mx_ws g ad h' := by
  apply List.ext_getElem?
  intro i
  simp only [mx_ws, h1, List.getElem?_set, List.getElem?_mapIdx, List.length_mapIdx]
  by_cases e : c = i
  · subst e
    simp [hc, hE]
  · simp only [if_neg e, h2 i (Ne.symm e)]
theorem mx_set_self {α : Type} {l : List α} {c : Nat} {q : α} (hq : l[c]? = some q) : l = l.set c q := by
  apply List.ext_getElem?
  intro i
  rw [List.getElem?_set]
  by_cases e : c = i
  · subst e
    rw [if_pos rfl, if_pos (mx_lt hq), hq]
  · rw [if_neg e]
theorem mx_up_ne {σ : mx_S} {c k c' : Nat} {x : Int32} (h : c' ≠ c) : mx_up σ c k x c' = σ c' := by simp [mx_up, h]
theorem mx_up_self {σ : mx_S} {c k : Nat} {x : Int32} : mx_up σ c k x c = upd (σ c) k x := by simp [mx_up]
theorem mx_fv_upd {ad : Nat → Nat} {f : Nat → Int32} {fs : List (Option (Option Nat))} {k : Nat} {x : Int32} (hk : fs[k]? = some none) : fs.mapIdx (mx_fv ad (upd f k x)) = (fs.mapIdx (mx_fv ad f)).set k (.int x) := by
  apply List.ext_getElem?
  intro i
  simp only [List.getElem?_mapIdx, List.getElem?_set, List.length_mapIdx]
  by_cases e : k = i
  · subst e
    rw [if_pos rfl, if_pos (mx_lt hk), hk]
    simp [mx_fv, upd]
  · simp only [if_neg e]
    cases hi : fs[i]? with
    | none => rfl
    | some o =>
      cases o with
      | none => simp [mx_fv, upd, Ne.symm e]
      | some r => cases r <;> simp [mx_fv]
theorem mx_fv_ref {ad : Nat → Nat} {f : Nat → Int32} {fs : List (Option (Option Nat))} {k r : Nat} : (fs.set k (some (some r))).mapIdx (mx_fv ad f) = (fs.mapIdx (mx_fv ad f)).set k (.ref (ad r)) := by
  apply List.ext_getElem?
  intro i
  simp only [List.getElem?_mapIdx, List.getElem?_set, List.length_mapIdx]
  by_cases e : k = i
  · subst e
    by_cases hk : k < fs.length <;> simp [hk, mx_fv]
  · simp only [if_neg e]
/-- a new cell -/
def mx_ad (ad : Nat → Nat) (n q : Nat) : Nat → Nat := fun i => if i = n then q else ad i
theorem mx_fr1 {n i : Nat} (h : (!(decide (n ≤ i) && decide (i < n + 1))) = true) : i ≠ n := by
  intro e
  subst e
  simp at h
theorem mx_cE_ad {g : ClassId × ClassId × ClassId} {ad ad' : Nat → Nat} {lo hi : Nat} {q : mx_C} {f : Nat → Int32} (hq : mx_frC lo hi q = true) (ha : ∀ i, ¬ (lo ≤ i ∧ i < hi) → ad' i = ad i) : mx_cE g ad' q f = mx_cE g ad q f := by
  have key : ∀ i, (!(decide (lo ≤ i) && decide (i < hi))) = true → ad' i = ad i := fun i h => ha i (fun e => by simp [e.1, e.2] at h)
  match q, hq with
  | .inl (ci, fs), hq =>
    simp only [mx_cE, mx_frC, List.all_eq_true] at hq ⊢
    congr 2
    apply List.ext_getElem?
    intro i
    simp only [List.getElem?_mapIdx]
    cases hi : fs[i]? with
    | none => rfl
    | some o =>
      have h1 := hq o (List.mem_of_getElem? hi)
      cases o with
      | none => rfl
      | some r =>
        cases r with
        | none => rfl
        | some r => simp [mx_fv, key r (by simpa [mx_frO] using h1)]
  | .inr (.inl (t, n)), _ => rfl
  | .inr (.inr l), hq =>
    simp only [mx_cE, mx_frC, List.all_eq_true] at hq ⊢
    have e : (fun k : Nat => Option.map ad' (l[k]?.getD none)) = (fun k : Nat => Option.map ad (l[k]?.getD none)) := by
      funext k
      cases hk : l[k]? with
      | none => rfl
      | some o =>
        have h1 := hq o (List.mem_of_getElem? hk)
        cases o with
        | none => rfl
        | some r => simp [key r (by simpa [mx_frO] using h1)]
    rw [e]
theorem mx_ws_new {g : ClassId × ClassId × ClassId} {ad : Nat → Nat} {h : mx_H} {a : Nat} {E : va_E} (q : mx_C) (hf : h.1.all (mx_frC h.1.length (h.1.length + 1)) = true) (hE : mx_cE g (mx_ad ad h.1.length a) q (fun _ => 0) = E) : mx_ws g ad h ++ [(a, E)] = mx_ws g (mx_ad ad h.1.length a) (h.1 ++ [q], mx_zr h.2 h.1.length) := by
  have had : ∀ i, ¬ (h.1.length ≤ i ∧ i < h.1.length + 1) → mx_ad ad h.1.length a i = ad i := fun i hi => by
    unfold mx_ad
    rw [if_neg (fun e => hi (by omega))]
  apply List.ext_getElem?
  intro i
  simp only [mx_ws, List.getElem?_mapIdx, List.getElem?_append, List.length_mapIdx]
  by_cases hi : i < h.1.length
  · rw [if_pos hi, if_pos hi]
    cases hq : h.1[i]? with
    | none => rfl
    | some x =>
      have h1 := List.all_eq_true.mp hf x (List.mem_of_getElem? hq)
      simp only [Option.map_some, Option.some.injEq, Prod.mk.injEq]
      refine ⟨(had i (by omega)).symm, ?_⟩
      rw [mx_cE_ad h1 had]
      simp [mx_zr, Nat.ne_of_lt hi]
  · rw [if_neg hi, if_neg hi]
    by_cases e : i = h.1.length
    · subst e
      simp [mx_ad, mx_zr, ← hE]
    · have : i - h.1.length = (i - h.1.length - 1) + 1 := by omega
      rw [this]
      rfl
/-! the locals -/
def mx_kv (ad : Nat → Nat) (v : Value) : Option Value := match v with
  | .int x => some (.int x)
  | .ref i => some (.ref (ad i))
  | _ => none
theorem mx_kv_cv {ad : Nat → Nat} {v w : Value} (h : mx_kv ad v = some w) : w = mx_cv ad v ∧ w.category = 1 := by
  cases v <;> simp [mx_kv] at h <;> subst h <;> exact ⟨rfl, rfl⟩
theorem mx_cv_cat (ad : Nat → Nat) (v : Value) : (mx_cv ad v).category = 1 := by cases v <;> rfl
def mx_lv (ad : Nat → Nat) (L : List Value) : List (Nat × Value) := (List.range L.length).filterMap (fun k => (L[k]?.bind (mx_kv ad)).map (fun w => (k, w)))
theorem mx_lv_of {ad : Nat → Nat} {L : List Value} {k : Nat} {v w : Value} (h : L[k]? = some v) (hk : mx_kv ad v = some w) : (k, w) ∈ mx_lv ad L := by
  unfold mx_lv
  rw [List.mem_filterMap]
  exact ⟨k, List.mem_range.mpr (mx_lt h), by simp [h, hk]⟩
theorem mx_lv_to {ad : Nat → Nat} {L : List Value} {k : Nat} {w : Value} (h : (k, w) ∈ mx_lv ad L) : ∃ v, L[k]? = some v ∧ mx_kv ad v = some w := by
  unfold mx_lv at h
  rw [List.mem_filterMap] at h
  obtain ⟨i, -, hi⟩ := h
  cases hL : L[i]? with
  | none => rw [hL] at hi; simp at hi
  | some v =>
    rw [hL] at hi
    cases hv : mx_kv ad v with
    | none => simp [hv] at hi
    | some u =>
      simp [hv] at hi
      obtain ⟨rfl, rfl⟩ := hi
      exact ⟨v, hL, hv⟩
theorem mx_ld {ad : Nat → Nat} {L : List Value} {ls : Array Slot} {nL k : Nat} {v w : Value} (hl : lv_has ls nL (mx_lv ad L)) (h : L[k]? = some v) (hk : mx_kv ad v = some w) : ls[k]? = some (.val w) := hl.2.2 (k, w) (mx_lv_of h hk)
theorem mx_sto {ad : Nat → Nat} {L : List Value} {ls : Array Slot} {nL i : Nat} {v w : Value} (hk : mx_kv ad v = some w) (h : lv_has ls nL ((i, w) :: (mx_lv ad L).filter (fun q => !(q.1 == i) && !(q.1 + 1 == i && q.2.category == 2)))) : lv_has ls nL (mx_lv ad (L.set i v)) := by
  refine ⟨h.1, h.2.1, fun q hq => h.2.2 q ?_⟩
  obtain ⟨k, u⟩ := q
  obtain ⟨v', h1, h2⟩ := mx_lv_to hq
  rw [List.getElem?_set] at h1
  by_cases e : i = k
  · subst e
    rw [if_pos rfl] at h1
    by_cases hl : i < L.length
    · rw [if_pos hl] at h1
      cases h1
      rw [hk] at h2
      cases h2
      exact List.mem_cons_self
    · rw [if_neg hl] at h1
      cases h1
  · rw [if_neg e] at h1
    refine List.mem_cons_of_mem _ (List.mem_filter.mpr ⟨mx_lv_of h1 h2, ?_⟩)
    have hc := (mx_kv_cv h2).2
    have : (k == i) = false := by simp [Ne.symm e]
    simp [this, hc]
theorem mx_frV_ad {ad ad' : Nat → Nat} {lo hi : Nat} {v : Value} (h : mx_frV lo hi v = true) (ha : ∀ i, ¬ (lo ≤ i ∧ i < hi) → ad' i = ad i) : mx_cv ad' v = mx_cv ad v ∧ mx_kv ad' v = mx_kv ad v := by
  cases v with
  | ref i =>
    have : ad' i = ad i := ha i (fun e => by simp [mx_frV, e.1, e.2] at h)
    simp [mx_cv, mx_kv, this]
  | _ => exact ⟨rfl, rfl⟩
theorem mx_lv_ad {ad ad' : Nat → Nat} {lo hi : Nat} {L : List Value} (h : L.all (mx_frV lo hi) = true) (ha : ∀ i, ¬ (lo ≤ i ∧ i < hi) → ad' i = ad i) : mx_lv ad' L = mx_lv ad L := by
  unfold mx_lv
  congr 1
  funext k
  cases hk : L[k]? with
  | none => rfl
  | some v => simp [(mx_frV_ad (List.all_eq_true.mp h v (List.mem_of_getElem? hk)) ha).2]
theorem mx_st_ad {ad ad' : Nat → Nat} {lo hi : Nat} {st : List Value} (h : st.all (mx_frV lo hi) = true) (ha : ∀ i, ¬ (lo ≤ i ∧ i < hi) → ad' i = ad i) : st.map (mx_cv ad') = st.map (mx_cv ad) := by
  apply List.map_congr_left
  intro v hv
  exact (mx_frV_ad (List.all_eq_true.mp h v hv) ha).1
theorem mx_cat (ad : Nat → Nat) (st : List Value) : ((st.map (mx_cv ad)).map fun v => v.category).sum = st.length := by
  induction st with
  | nil => rfl
  | cons v st ih =>
    simp only [List.map_cons, List.sum_cons, List.length_cons, mx_cv_cat, ih]
    omega
theorem mx_sl (vs : List Value) (h : ∀ v ∈ vs, v.category = 1) : (lg_sl vs).length = vs.length := by
  induction vs with
  | nil => rfl
  | cons v vs ih =>
    have h1 : ¬ v.category = 2 := by rw [h v List.mem_cons_self]; decide
    have h2 := ih (fun w hw => h w (List.mem_cons_of_mem _ hw))
    unfold lg_sl at h2 ⊢
    rw [List.flatMap_cons, List.length_append, h2, if_neg h1]
    simp
    omega
theorem mx_args (vs : List Value) (h : ∀ v ∈ vs, v.category = 1) : ∀ (i k : Nat) (v : Value), vs[k]? = some v → (i + k, v) ∈ lv_args i vs := by
  induction vs with
  | nil => intro i k v hk; simp at hk
  | cons w vs ih =>
    intro i k v hk
    have h1 : ¬ w.category = 2 := by rw [h w List.mem_cons_self]; decide
    unfold lv_args
    rw [if_neg h1]
    cases k with
    | zero =>
      simp at hk
      subst hk
      exact List.mem_cons_self
    | succ k =>
      have h2 := ih (fun w hw => h w (List.mem_cons_of_mem _ hw)) (i + 1) k v (by simpa using hk)
      rw [show i + (k + 1) = i + 1 + k by omega]
      exact List.mem_cons_of_mem _ h2
theorem mx_entry {ad : Nat → Nat} {as : List Value} {n m : Nat} {ls : Array Slot} (h : lv_has ls n (lv_args 0 (as.map (mx_cv ad)))) : lv_has ls n (mx_lv ad (as ++ List.replicate m .null)) := by
  refine ⟨h.1, h.2.1, fun q hq => h.2.2 q ?_⟩
  obtain ⟨k, u⟩ := q
  obtain ⟨v, h1, h2⟩ := mx_lv_to hq
  have hk : k < as.length := by
    rcases Nat.lt_or_ge k as.length with z | z
    · exact z
    · rw [List.getElem?_append_right z] at h1
      have := List.eq_of_mem_replicate (List.mem_of_getElem? h1)
      subst this
      cases h2
  rw [List.getElem?_append_left hk] at h1
  have h3 := mx_args (as.map (mx_cv ad)) (fun v hv => by
    obtain ⟨w, -, rfl⟩ := List.mem_map.mp hv
    exact mx_cv_cat ad w) 0 k (mx_cv ad v) (by rw [List.getElem?_map, h1]; rfl)
  rw [(mx_kv_cv h2).1]
  simpa using h3
/-! sizes -/
def mx_cz (q : mx_C) : Nat := match q with
  | .inl (_, fs) => fs.length
  | .inr (.inl (_, n)) => n
  | .inr (.inr l) => l.length
def mx_sz (sh : List mx_C) : Nat := (sh.map mx_cz).sum
theorem mx_sz_app (sh : List mx_C) (q : mx_C) : mx_sz (sh ++ [q]) = mx_sz sh + mx_cz q := by simp [mx_sz]
theorem mx_sz_set : ∀ {sh : List mx_C} {c : Nat} {q q' : mx_C}, sh[c]? = some q → mx_cz q' = mx_cz q → mx_sz (sh.set c q') = mx_sz sh := by
  intro sh
  induction sh with
  | nil => intro c q q' h; simp at h
  | cons a sh ih =>
    intro c q q' h hz
    cases c with
    | zero =>
      simp at h
      subst h
      simp [mx_sz, hz]
    | succ c =>
      have := ih (c := c) (q := q) (q' := q') (by simpa using h) hz
      simp only [mx_sz] at this
      simp only [mx_sz, List.set_cons_succ, List.map_cons, List.sum_cons, this]
end
section
/-! what a step tells that goes on; sizes only grow; printed by wip/whole/gen7.py -/
theorem iv_bin {f : Int32 → Int32 → Int32} {pc : Nat} {L st : List Value} {h : mx_H} {o : mx_N} (hh : mx_bin f pc L st h = some o) : ∃ (x y : Int32) (r : List Value), st = .int y :: .int x :: r ∧ o = .inl (pc + 1, L, .int (f x y) :: r, h) := by
  unfold mx_bin at hh
  split at hh
  · exact ⟨_, _, _, rfl, (Option.some.inj hh).symm⟩
  · cases hh
theorem iv_dvd {f : Int32 → Int32 → Int32} {pc : Nat} {L st : List Value} {h : mx_H} {o : mx_N} (hh : mx_dvd f pc L st h = some o) : ∃ (x y : Int32) (r : List Value), st = .int y :: .int x :: r ∧ ¬ y = 0 ∧ o = .inl (pc + 1, L, .int (f x y) :: r, h) := by
  unfold mx_dvd at hh
  split at hh
  · split at hh
    · cases hh
    · next hy => exact ⟨_, _, _, rfl, hy, (Option.some.inj hh).symm⟩
  · cases hh
theorem iv_ild {k : Nat} {pc : Nat} {L st : List Value} {h : mx_H} {o : mx_N} (hh : mx_ild k pc L st h = some o) : ∃ x : Int32, L[k]? = some (.int x) ∧ o = .inl (pc, L, .int x :: st, h) := by
  unfold mx_ild at hh
  split at hh
  · next e => exact ⟨_, e, (Option.some.inj hh).symm⟩
  · cases hh
theorem iv_ald {k : Nat} {pc : Nat} {L st : List Value} {h : mx_H} {o : mx_N} (hh : mx_ald k pc L st h = some o) : ∃ x : Nat, L[k]? = some (.ref x) ∧ o = .inl (pc, L, .ref x :: st, h) := by
  unfold mx_ald at hh
  split at hh
  · next e => exact ⟨_, e, (Option.some.inj hh).symm⟩
  · cases hh
theorem iv_ist {k : Nat} {pc : Nat} {L st : List Value} {h : mx_H} {o : mx_N} (hh : mx_ist k pc L st h = some o) : ∃ (x : Int32) (r : List Value), st = .int x :: r ∧ k < L.length ∧ o = .inl (pc, L.set k (.int x), r, h) := by
  unfold mx_ist at hh
  split at hh
  · split at hh
    · next hk => exact ⟨_, _, rfl, hk, (Option.some.inj hh).symm⟩
    · cases hh
  · cases hh
theorem iv_ast {k : Nat} {pc : Nat} {L st : List Value} {h : mx_H} {o : mx_N} (hh : mx_ast k pc L st h = some o) : ∃ (x : Nat) (r : List Value), st = .ref x :: r ∧ k < L.length ∧ o = .inl (pc, L.set k (.ref x), r, h) := by
  unfold mx_ast at hh
  split at hh
  · split at hh
    · next hk => exact ⟨_, _, rfl, hk, (Option.some.inj hh).symm⟩
    · cases hh
  · cases hh
theorem iv_inc {k : Nat} {n : Int} {pc : Nat} {L st : List Value} {h : mx_H} {o : mx_N} (hh : mx_inc k n pc L st h = some o) : ∃ x : Int32, L[k]? = some (.int x) ∧ o = .inl (pc, L.set k (.int (x + Int32.ofInt n)), st, h) := by
  unfold mx_inc at hh
  split at hh
  · next e => exact ⟨_, e, (Option.some.inj hh).symm⟩
  · cases hh
theorem iv_if1 {c : Jvm.ClassFile.Cond} {off : Int} {pc : Nat} {L st : List Value} {h : mx_H} {o : mx_N} (hh : mx_if1 c off pc L st h = some o) : ∃ (x : Int32) (r : List Value), st = .int x :: r ∧ o = .inl (if mx_c1 c x then ((pc : Int) + off).toNat else pc + 3, L, r, h) := by
  unfold mx_if1 at hh
  split at hh
  · exact ⟨_, _, rfl, (Option.some.inj hh).symm⟩
  · cases hh
theorem iv_if2 {c : Jvm.ClassFile.Cond} {off : Int} {pc : Nat} {L st : List Value} {h : mx_H} {o : mx_N} (hh : mx_if2 c off pc L st h = some o) : ∃ (x y : Int32) (r : List Value), st = .int y :: .int x :: r ∧ o = .inl (if mx_c2 c x y then ((pc : Int) + off).toNat else pc + 3, L, r, h) := by
  unfold mx_if2 at hh
  split at hh
  · exact ⟨_, _, _, rfl, (Option.some.inj hh).symm⟩
  · cases hh
theorem iv_tsw {dflt lo hi : Int} {offs : Array Int} {pc : Nat} {L st : List Value} {h : mx_H} {o : mx_N} (hh : mx_tsw dflt lo hi offs pc L st h = some o) : ∃ (x : Int32) (r : List Value), st = .int x :: r ∧ (((x.toInt < lo ∨ hi < x.toInt) ∧ o = .inl (((pc : Int) + dflt).toNat, L, r, h)) ∨ (¬ (x.toInt < lo ∨ hi < x.toInt) ∧ ∃ off, offs[(x.toInt - lo).toNat]? = some off ∧ o = .inl (((pc : Int) + off).toNat, L, r, h))) := by
  unfold mx_tsw at hh
  split at hh
  · split at hh
    · next hc => exact ⟨_, _, rfl, Or.inl ⟨hc, (Option.some.inj hh).symm⟩⟩
    · next hc =>
      split at hh
      · next e => exact ⟨_, _, rfl, Or.inr ⟨hc, _, e, (Option.some.inj hh).symm⟩⟩
      · cases hh
  · cases hh
theorem iv_fld {h : mx_H} {ci k c : Nat} {v : Value} (hh : mx_fld h ci k c = some v) : ∃ fs, h.1[c]? = some (.inl (ci, fs)) ∧ ((fs[k]? = some none ∧ v = .int (h.2 c k)) ∨ ∃ r, fs[k]? = some (some (some r)) ∧ v = .ref r) := by
  unfold mx_fld at hh
  split at hh
  · next e =>
    split at hh
    · next e2 =>
      subst e2
      split at hh
      · next e3 => exact ⟨_, e, Or.inl ⟨e3, (Option.some.inj hh).symm⟩⟩
      · next e3 => exact ⟨_, e, Or.inr ⟨_, e3, (Option.some.inj hh).symm⟩⟩
      · cases hh
    · cases hh
  · cases hh
theorem iv_isI {sh : List mx_C} {ci k c : Nat} (hh : mx_isI sh ci k c = true) : ∃ fs, sh[c]? = some (.inl (ci, fs)) ∧ fs[k]? = some none := by
  unfold mx_isI at hh
  split at hh
  · next e =>
    simp only [Bool.and_eq_true, decide_eq_true_eq] at hh
    obtain ⟨rfl, h2⟩ := hh
    exact ⟨_, e, h2⟩
  · cases hh
theorem iv_setR {sh sh' : List mx_C} {ci k c r : Nat} (hh : mx_setR sh ci k c r = some sh') : ∃ fs, sh[c]? = some (.inl (ci, fs)) ∧ fs[k]? = some (some none) ∧ sh' = sh.set c (.inl (ci, fs.set k (some (some r)))) := by
  unfold mx_setR at hh
  split at hh
  · next e =>
    split at hh
    · next hc =>
      obtain ⟨rfl, h2⟩ := hc
      exact ⟨_, e, h2, (Option.some.inj hh).symm⟩
    · cases hh
  · cases hh
theorem iv_lenW {sh : List mx_C} {c t n : Nat} (h : mx_lenW sh c t = n) (hn : n ≠ 0) : sh[c]? = some (.inr (.inl (t, n))) := by
  unfold mx_lenW at h
  split at h
  · next e =>
    split at h
    · next e2 => rw [e, e2, h]
    · exact absurd h.symm hn
  · exact absurd h.symm hn
theorem iv_in {i : Int32} {n : Nat} (h : mx_in i n = true) : vp_in i n ∧ n ≠ 0 := by
  simp only [mx_in, Bool.and_eq_true, Bool.not_eq_true', decide_eq_false_iff_not, decide_eq_true_eq] at h
  exact ⟨fun e => e.elim h.1 (fun q => absurd h.2 (Nat.not_lt.mpr q)), by omega⟩
theorem iv_gf {aux : List Nat} {pc : Nat} {L st : List Value} {h : mx_H} {o : mx_N} (hh : mx_gf aux pc L st h = some o) : ∃ (ci k nest pl c : Nat) (r : List Value) (v : Value), aux = [ci, k, nest, pl] ∧ st = .ref c :: r ∧ mx_fld h ci k c = some v ∧ o = .inl (pc + 3, L, v :: r, h) := by
  unfold mx_gf at hh
  split at hh
  · split at hh
    · next e => exact ⟨_, _, _, _, _, _, _, rfl, rfl, e, (Option.some.inj hh).symm⟩
    · cases hh
  · cases hh
theorem iv_pf {aux : List Nat} {pc : Nat} {L st : List Value} {h : mx_H} {o : mx_N} (hh : mx_pf aux pc L st h = some o) : ∃ (ci k kind isB pl c : Nat) (r : List Value), aux = [ci, k, kind, isB, pl] ∧ ((∃ x : Int32, st = .int x :: .ref c :: r ∧ ¬ kind = 1 ∧ mx_isI h.1 ci k c = true ∧ (isB = 0 ∨ x = 0 ∨ x = 1) ∧ o = .inl (pc + 3, L, r, (h.1, mx_up h.2 c k x))) ∨ (∃ (v : Nat) (sh' : List mx_C), st = .ref v :: .ref c :: r ∧ kind = 1 ∧ mx_setR h.1 ci k c v = some sh' ∧ o = .inl (pc + 3, L, r, (sh', h.2)))) := by
  unfold mx_pf at hh
  split at hh
  · split at hh
    · next hc => exact ⟨_, _, _, _, _, _, _, rfl, Or.inl ⟨_, rfl, hc.1, hc.2.1, hc.2.2, (Option.some.inj hh).symm⟩⟩
    · cases hh
  · split at hh
    · next hc =>
      split at hh
      · next e => exact ⟨_, _, _, _, _, _, _, rfl, Or.inr ⟨_, _, rfl, hc, e, (Option.some.inj hh).symm⟩⟩
      · cases hh
    · cases hh
  · cases hh
theorem iv_iald {pc : Nat} {L st : List Value} {h : mx_H} {o : mx_N} (hh : mx_iald pc L st h = some o) : ∃ (i : Int32) (c : Nat) (r : List Value), st = .int i :: .ref c :: r ∧ mx_in i (mx_len h c) = true ∧ o = .inl (pc + 1, L, .int (h.2 c i.toNatClampNeg) :: r, h) := by
  unfold mx_iald at hh
  split at hh
  · split at hh
    · next e => exact ⟨_, _, _, rfl, e, (Option.some.inj hh).symm⟩
    · cases hh
  · cases hh
theorem iv_iast {pc : Nat} {L st : List Value} {h : mx_H} {o : mx_N} (hh : mx_iast pc L st h = some o) : ∃ (x i : Int32) (c : Nat) (r : List Value), st = .int x :: .int i :: .ref c :: r ∧ mx_in i (mx_lenW h.1 c 0) = true ∧ o = .inl (pc + 1, L, r, (h.1, mx_up h.2 c i.toNatClampNeg x)) := by
  unfold mx_iast at hh
  split at hh
  · split at hh
    · next e => exact ⟨_, _, _, _, rfl, e, (Option.some.inj hh).symm⟩
    · cases hh
  · cases hh
theorem iv_zald {pc : Nat} {L st : List Value} {h : mx_H} {o : mx_N} (hh : mx_zald pc L st h = some o) : ∃ (i : Int32) (c : Nat) (r : List Value), st = .int i :: .ref c :: r ∧ mx_in i (mx_lenW h.1 c 1) = true ∧ o = .inl (pc + 1, L, .int (h.2 c i.toNatClampNeg) :: r, h) := by
  unfold mx_zald at hh
  split at hh
  · split at hh
    · next e => exact ⟨_, _, _, rfl, e, (Option.some.inj hh).symm⟩
    · cases hh
  · cases hh
theorem iv_zast {pc : Nat} {L st : List Value} {h : mx_H} {o : mx_N} (hh : mx_zast pc L st h = some o) : ∃ (x i : Int32) (c : Nat) (r : List Value), st = .int x :: .int i :: .ref c :: r ∧ mx_in i (mx_lenW h.1 c 1) = true ∧ (x = 0 ∨ x = 1) ∧ o = .inl (pc + 1, L, r, (h.1, mx_up h.2 c i.toNatClampNeg x)) := by
  unfold mx_zast at hh
  split at hh
  · split at hh
    · next e => exact ⟨_, _, _, _, rfl, e.1, e.2, (Option.some.inj hh).symm⟩
    · cases hh
  · cases hh
theorem iv_aald {pc : Nat} {L st : List Value} {h : mx_H} {o : mx_N} (hh : mx_aald pc L st h = some o) : ∃ (i : Int32) (c : Nat) (r : List Value) (l : List (Option Nat)) (v : Nat), st = .int i :: .ref c :: r ∧ h.1[c]? = some (.inr (.inr l)) ∧ mx_in i l.length = true ∧ l[i.toNatClampNeg]? = some (some v) ∧ o = .inl (pc + 1, L, .ref v :: r, h) := by
  unfold mx_aald at hh
  split at hh
  · next i c r =>
    split at hh
    · next e =>
      split at hh
      · next v e2 =>
        unfold mx_rows at e e2
        split at e
        · next l e3 =>
          rw [e3] at e2
          exact ⟨_, _, _, l, v, rfl, e3, e, e2, (Option.some.inj hh).symm⟩
        · simp [mx_in] at e
      · cases hh
    · cases hh
  · cases hh
theorem iv_aast {pc : Nat} {L st : List Value} {h : mx_H} {o : mx_N} (hh : mx_aast pc L st h = some o) : ∃ (i : Int32) (v c : Nat) (r : List Value) (l : List (Option Nat)) (fs : List (Option (Option Nat))), st = .ref v :: .int i :: .ref c :: r ∧ h.1[v]? = some (.inl (3, fs)) ∧ h.1[c]? = some (.inr (.inr l)) ∧ mx_in i l.length = true ∧ o = .inl (pc + 1, L, r, (h.1.set c (.inr (.inr (l.set i.toNatClampNeg (some v)))), h.2)) := by
  unfold mx_aast at hh
  split at hh
  · split at hh
    · next e1 e2 =>
      split at hh
      · next e => exact ⟨_, _, _, _, _, _, rfl, e1, e2, e, (Option.some.inj hh).symm⟩
      · cases hh
    · cases hh
  · cases hh
theorem iv_alen {pc : Nat} {L st : List Value} {h : mx_H} {o : mx_N} (hh : mx_alen pc L st h = some o) : ∃ (c : Nat) (r : List Value), st = .ref c :: r ∧ ((1000 ≤ c ∧ c < 1004 ∧ o = .inl (pc + 1, L, .int (h.2 2000 (c - 1000)) :: r, h)) ∨ (∃ n, h.1[c]? = some (.inr (.inl (0, n))) ∧ o = .inl (pc + 1, L, .int (Int32.ofNat n) :: r, h))) := by
  unfold mx_alen at hh
  split at hh
  · split at hh
    · next e1 =>
      split at hh
      · next e2 => exact ⟨_, _, rfl, Or.inl ⟨e1, e2, (Option.some.inj hh).symm⟩⟩
      · cases hh
    · split at hh
      · next e => exact ⟨_, _, rfl, Or.inr ⟨_, e, (Option.some.inj hh).symm⟩⟩
      · cases hh
  · cases hh
theorem iv_dup {pc : Nat} {L st : List Value} {h : mx_H} {o : mx_N} (hh : mx_dup pc L st h = some o) : ∃ (v : Value) (r : List Value), st = v :: r ∧ o = .inl (pc + 1, L, v :: v :: r, h) := by
  unfold mx_dup at hh
  split at hh
  · exact ⟨_, _, rfl, (Option.some.inj hh).symm⟩
  · cases hh
theorem iv_dup2 {pc : Nat} {L st : List Value} {h : mx_H} {o : mx_N} (hh : mx_dup2 pc L st h = some o) : ∃ (v w : Value) (r : List Value), st = v :: w :: r ∧ o = .inl (pc + 1, L, v :: w :: v :: w :: r, h) := by
  unfold mx_dup2 at hh
  split at hh
  · exact ⟨_, _, _, rfl, (Option.some.inj hh).symm⟩
  · cases hh
theorem iv_pop {pc : Nat} {L st : List Value} {h : mx_H} {o : mx_N} (hh : mx_pop pc L st h = some o) : ∃ (v : Value) (r : List Value), st = v :: r ∧ o = .inl (pc + 1, L, r, h) := by
  unfold mx_pop at hh
  split at hh
  · exact ⟨_, _, rfl, (Option.some.inj hh).symm⟩
  · cases hh
theorem iv_new {aux : List Nat} {pc : Nat} {L st : List Value} {h : mx_H} {o : mx_N} (hh : mx_new aux pc L st h = some o) : ∃ ci p1 p2 p3 : Nat, aux = [ci, p1, p2, p3] ∧ mx_ok1 h.1 L st = true ∧ o = .inl (pc + 3, L, .ref h.1.length :: st, (h.1 ++ [.inl (ci, mx_df ci)], mx_zr h.2 h.1.length)) := by
  unfold mx_new at hh
  split at hh
  · split at hh
    · next e => exact ⟨_, _, _, _, rfl, e, (Option.some.inj hh).symm⟩
    · cases hh
  · cases hh
theorem iv_newa {aux : List Nat} {pc : Nat} {L st : List Value} {h : mx_H} {o : mx_N} (hh : mx_newa aux pc L st h = some o) : ∃ (t pl : Nat) (n : Int32) (r : List Value), aux = [t, pl] ∧ st = .int n :: r ∧ mx_ok1 h.1 L r = true ∧ ¬ n < 0 ∧ n.toNatClampNeg < 1000 ∧ o = .inl (pc + 2, L, .ref h.1.length :: r, (h.1 ++ [.inr (.inl (t, n.toNatClampNeg))], mx_zr h.2 h.1.length)) := by
  unfold mx_newa at hh
  split at hh
  · split at hh
    · next e => exact ⟨_, _, _, _, rfl, rfl, e.1, e.2.1, e.2.2, (Option.some.inj hh).symm⟩
    · cases hh
  · cases hh
theorem iv_newq {pc : Nat} {L st : List Value} {h : mx_H} {o : mx_N} (hh : mx_newq pc L st h = some o) : ∃ (n : Int32) (r : List Value), st = .int n :: r ∧ mx_ok1 h.1 L r = true ∧ ¬ n < 0 ∧ n.toNatClampNeg < 1000 ∧ o = .inl (pc + 3, L, .ref h.1.length :: r, (h.1 ++ [.inr (.inr (List.replicate n.toNatClampNeg none))], mx_zr h.2 h.1.length)) := by
  unfold mx_newq at hh
  split at hh
  · split at hh
    · next e => exact ⟨_, _, rfl, e.1, e.2.1, e.2.2, (Option.some.inj hh).symm⟩
    · cases hh
  · cases hh
theorem iv_cl {n k dc d : Nat} {st : List Value} {o : mx_N} (hh : mx_cl n k dc d st = some o) : n ≤ st.length ∧ mx_dd d dc < d ∧ (st.drop n).length ≤ 8 ∧ o = .inr (.inl (mx_dd d dc, k, (st.take n).reverse, st.drop n)) := by
  unfold mx_cl at hh
  split at hh
  · next e => exact ⟨e.1, e.2.1, e.2.2, (Option.some.inj hh).symm⟩
  · cases hh
theorem iv_cS {aux : List Nat} {d pc : Nat} {L st : List Value} {h : mx_H} {o : mx_N} (hh : mx_cS aux d pc L st h = some o) : (∃ k dc n pl p2 p3 : Nat, aux = [k, dc, n, pl, p2, p3] ∧ mx_cl n k dc d st = some o) ∨ (∃ (mm pl p2 p3 p4 : Nat) (x y : Int32) (r : List Value), aux = [mm, pl, p2, p3, p4] ∧ st = .int y :: .int x :: r ∧ r.length ≤ 8 ∧ o = .inl (pc + 3, L, .int (mx_mm mm x y) :: r, h)) := by
  unfold mx_cS at hh
  split at hh
  · exact Or.inl ⟨_, _, _, _, _, _, rfl, hh⟩
  · split at hh
    · split at hh
      · next e => exact Or.inr ⟨_, _, _, _, _, _, _, _, rfl, rfl, e, (Option.some.inj hh).symm⟩
      · cases hh
    · cases hh
  · cases hh
theorem iv_cV {aux : List Nat} {d : Nat} {st : List Value} {h : mx_H} {o : mx_N} (hh : mx_cV aux d st h = some o) : ∃ k dc n pl p2 p3 p4 ci : Nat, aux = [k, dc, n, pl, p2, p3, p4, ci] ∧ (∃ (c : Nat) (fs : List (Option (Option Nat))), st[n]? = some (.ref c) ∧ h.1[c]? = some (.inl (ci, fs))) ∧ mx_cl (n + 1) k dc d st = some o := by
  unfold mx_cV at hh
  split at hh
  · split at hh
    · next e =>
      refine ⟨_, _, _, _, _, _, _, _, rfl, ?_, hh⟩
      unfold mx_isR at e
      split at e
      · next c e1 =>
        split at e
        · next ci' fs e2 =>
          simp only [decide_eq_true_eq] at e
          subst e
          exact ⟨c, fs, e1, e2⟩
        · cases e
      · cases e
    · cases hh
  · cases hh
theorem iv_cI {aux : List Nat} {d pc : Nat} {L st : List Value} {h : mx_H} {o : mx_N} (hh : mx_cI aux d pc L st h = some o) : (∃ k dc n pl p2 p3 nest : Nat, aux = [k, dc, n, pl, p2, p3, nest] ∧ (∃ c : Nat, st[n]? = some (.ref c)) ∧ mx_cl (n + 1) k dc d st = some o) ∨ (∃ (pl c : Nat) (r : List Value), aux = [pl] ∧ st = .ref c :: r ∧ r.length ≤ 8 ∧ o = .inl (pc + 3, L, r, h)) := by
  unfold mx_cI at hh
  split at hh
  · split at hh
    · next e => exact Or.inl ⟨_, _, _, _, _, _, _, rfl, ⟨_, e⟩, hh⟩
    · cases hh
  · split at hh
    · split at hh
      · next e => exact Or.inr ⟨_, _, _, rfl, rfl, e, (Option.some.inj hh).symm⟩
      · cases hh
    · cases hh
  · cases hh
def mx_rok (rt : Option FieldType) (v : Option Value) : Prop := match v with
  | none => rt = none
  | some (.int x) => rt = some .int ∨ (rt = some .boolean ∧ (x = 0 ∨ x = 1))
  | _ => False
theorem iv_iret {rt : Option FieldType} {st : List Value} {o : mx_N} (hh : mx_iret rt st = some o) : ∃ x : Int32, st = [.int x] ∧ mx_rok rt (some (.int x)) ∧ o = .inr (.inr (some (.int x))) := by
  unfold mx_iret at hh
  split at hh
  · split at hh
    · next e => exact ⟨_, rfl, e, (Option.some.inj hh).symm⟩
    · cases hh
  · cases hh
theorem iv_vret {rt : Option FieldType} {st : List Value} {o : mx_N} (hh : mx_vret rt st = some o) : st = [] ∧ mx_rok rt none ∧ o = .inr (.inr none) := by
  unfold mx_vret at hh
  split at hh
  · split at hh
    · next e => exact ⟨rfl, e, (Option.some.inj hh).symm⟩
    · cases hh
  · cases hh
def mx_gr (h : mx_H) (o : mx_N) : Prop := ∀ (pc' : Nat) (L' st' : List Value) (h' : mx_H), o = .inl (pc', L', st', h') → h.1.length ≤ h'.1.length ∧ mx_sz h.1 ≤ mx_sz h'.1 ∧ (h.1.length < 1000 → h'.1.length < 1000) ∧ L'.length = L'.length
theorem mx_gr_same {h : mx_H} {pc : Nat} {L st : List Value} {σ : mx_S} : mx_gr h (.inl (pc, L, st, (h.1, σ))) := by
  intro pc' L' st' h' e
  cases e
  exact ⟨Nat.le_refl _, Nat.le_refl _, id, rfl⟩
theorem mx_gr_set {h : mx_H} {pc c : Nat} {L st : List Value} {σ : mx_S} {q q' : mx_C} (hq : h.1[c]? = some q) (hz : mx_cz q' = mx_cz q) : mx_gr h (.inl (pc, L, st, (h.1.set c q', σ))) := by
  intro pc' L' st' h' e
  cases e
  refine ⟨by simp, ?_, by simp, rfl⟩
  show mx_sz h.1 ≤ mx_sz (h.1.set c q')
  rw [mx_sz_set hq hz]
  exact Nat.le_refl _
theorem mx_gr_app {h : mx_H} {pc : Nat} {L st : List Value} {σ : mx_S} {q : mx_C} (hl : h.1.length < 900) : mx_gr h (.inl (pc, L, st, (h.1 ++ [q], σ))) := by
  intro pc' L' st' h' e
  cases e
  refine ⟨by simp, ?_, fun _ => by simp; omega, rfl⟩
  show mx_sz h.1 ≤ mx_sz (h.1 ++ [q])
  rw [mx_sz_app]
  omega
theorem mx_gr_r {h : mx_H} {z : (Nat × Nat × List Value × List Value) ⊕ Option Value} : mx_gr h (.inr z) := by
  intro pc' L' st' h' e
  cases e
theorem mx_ok1_lt {sh : List mx_C} {L st : List Value} (h : mx_ok1 sh L st = true) : sh.length < 900 ∧ L.all (mx_frV sh.length (sh.length + 1)) = true ∧ st.all (mx_frV sh.length (sh.length + 1)) = true ∧ sh.all (mx_frC sh.length (sh.length + 1)) = true := by
  unfold mx_ok1 at h
  simp only [Bool.and_eq_true, decide_eq_true_eq] at h
  exact ⟨h.1.1.1, h.1.1.2, h.1.2, h.2⟩
set_option maxHeartbeats 4000000 in
theorem mx_do_gr {i : Instr} {aux : List Nat} {rt : Option FieldType} {d pc : Nat} {L st : List Value} {h : mx_H} {o : mx_N} (hh : mx_do i aux rt d pc L st h = some o) : mx_gr h o := by
  cases i
  case iconst n =>
    have hh : some _ = some o := hh
    cases hh
    exact mx_gr_same
  case bipush n =>
    have hh : some _ = some o := hh
    cases hh
    exact mx_gr_same
  case sipush n =>
    have hh : some _ = some o := hh
    cases hh
    exact mx_gr_same
  case goto off =>
    have hh : some _ = some o := hh
    cases hh
    exact mx_gr_same
  case ldc ix =>
    simp only [mx_do] at hh
    split at hh
    · cases hh
      exact mx_gr_same
    · cases hh
  case ldc_w ix =>
    simp only [mx_do] at hh
    split at hh
    · cases hh
      exact mx_gr_same
    · cases hh
  case getstatic ix =>
    simp only [mx_do] at hh
    split at hh
    · cases hh
      exact mx_gr_same
    · cases hh
  case iload k =>
    obtain ⟨_, _, rfl⟩ := iv_ild hh
    exact mx_gr_same
  case iload_n k =>
    obtain ⟨_, _, rfl⟩ := iv_ild hh
    exact mx_gr_same
  case aload k =>
    obtain ⟨_, _, rfl⟩ := iv_ald hh
    exact mx_gr_same
  case aload_n k =>
    obtain ⟨_, _, rfl⟩ := iv_ald hh
    exact mx_gr_same
  case istore k =>
    obtain ⟨_, _, _, _, rfl⟩ := iv_ist hh
    exact mx_gr_same
  case istore_n k =>
    obtain ⟨_, _, _, _, rfl⟩ := iv_ist hh
    exact mx_gr_same
  case astore k =>
    obtain ⟨_, _, _, _, rfl⟩ := iv_ast hh
    exact mx_gr_same
  case astore_n k =>
    obtain ⟨_, _, _, _, rfl⟩ := iv_ast hh
    exact mx_gr_same
  case iinc k n =>
    obtain ⟨_, _, rfl⟩ := iv_inc hh
    exact mx_gr_same
  case iadd =>
    obtain ⟨_, _, _, _, rfl⟩ := iv_bin hh
    exact mx_gr_same
  case isub =>
    obtain ⟨_, _, _, _, rfl⟩ := iv_bin hh
    exact mx_gr_same
  case imul =>
    obtain ⟨_, _, _, _, rfl⟩ := iv_bin hh
    exact mx_gr_same
  case iand =>
    obtain ⟨_, _, _, _, rfl⟩ := iv_bin hh
    exact mx_gr_same
  case ior =>
    obtain ⟨_, _, _, _, rfl⟩ := iv_bin hh
    exact mx_gr_same
  case ixor =>
    obtain ⟨_, _, _, _, rfl⟩ := iv_bin hh
    exact mx_gr_same
  case ishl =>
    obtain ⟨_, _, _, _, rfl⟩ := iv_bin hh
    exact mx_gr_same
  case ishr =>
    obtain ⟨_, _, _, _, rfl⟩ := iv_bin hh
    exact mx_gr_same
  case iushr =>
    obtain ⟨_, _, _, _, rfl⟩ := iv_bin hh
    exact mx_gr_same
  case idiv =>
    obtain ⟨_, _, _, _, _, rfl⟩ := iv_dvd hh
    exact mx_gr_same
  case irem =>
    obtain ⟨_, _, _, _, _, rfl⟩ := iv_dvd hh
    exact mx_gr_same
  case ifCond c off =>
    obtain ⟨_, _, _, rfl⟩ := iv_if1 hh
    exact mx_gr_same
  case if_icmp c off =>
    obtain ⟨_, _, _, _, rfl⟩ := iv_if2 hh
    exact mx_gr_same
  case tableswitch dflt lo hi offs =>
    obtain ⟨_, _, _, ⟨_, rfl⟩ | ⟨_, _, _, rfl⟩⟩ := iv_tsw hh
    · exact mx_gr_same
    · exact mx_gr_same
  case getfield ix =>
    obtain ⟨_, _, _, _, _, _, _, _, _, _, rfl⟩ := iv_gf hh
    exact mx_gr_same
  case putfield ix =>
    obtain ⟨_, _, _, _, _, _, _, _, ⟨_, _, _, _, _, rfl⟩ | ⟨_, _, _, _, hs, rfl⟩⟩ := iv_pf hh
    · exact mx_gr_same
    · obtain ⟨fs, h1, h2, rfl⟩ := iv_setR hs
      exact mx_gr_set h1 (by simp [mx_cz])
  case iaload =>
    obtain ⟨_, _, _, _, _, rfl⟩ := iv_iald hh
    exact mx_gr_same
  case iastore =>
    obtain ⟨_, _, _, _, _, _, rfl⟩ := iv_iast hh
    exact mx_gr_same
  case baload =>
    obtain ⟨_, _, _, _, _, rfl⟩ := iv_zald hh
    exact mx_gr_same
  case bastore =>
    obtain ⟨_, _, _, _, _, _, _, rfl⟩ := iv_zast hh
    exact mx_gr_same
  case aaload =>
    obtain ⟨_, _, _, _, _, _, _, _, _, rfl⟩ := iv_aald hh
    exact mx_gr_same
  case aastore =>
    obtain ⟨_, _, _, _, _, _, _, _, h1, _, rfl⟩ := iv_aast hh
    exact mx_gr_set h1 (by simp [mx_cz])
  case arraylength =>
    obtain ⟨_, _, _, ⟨_, _, rfl⟩ | ⟨_, _, rfl⟩⟩ := iv_alen hh
    · exact mx_gr_same
    · exact mx_gr_same
  case dup =>
    obtain ⟨_, _, _, rfl⟩ := iv_dup hh
    exact mx_gr_same
  case dup2 =>
    obtain ⟨_, _, _, _, rfl⟩ := iv_dup2 hh
    exact mx_gr_same
  case pop =>
    obtain ⟨_, _, _, rfl⟩ := iv_pop hh
    exact mx_gr_same
  case new ix =>
    obtain ⟨_, _, _, _, _, h1, rfl⟩ := iv_new hh
    exact mx_gr_app (mx_ok1_lt h1).1
  case newarray ty =>
    obtain ⟨_, _, _, _, _, _, h1, _, _, rfl⟩ := iv_newa hh
    exact mx_gr_app (mx_ok1_lt h1).1
  case anewarray ix =>
    obtain ⟨_, _, _, h1, _, _, rfl⟩ := iv_newq hh
    exact mx_gr_app (mx_ok1_lt h1).1
  case invokestatic ix =>
    rcases iv_cS hh with ⟨_, _, _, _, _, _, _, h1⟩ | ⟨_, _, _, _, _, _, _, _, _, _, _, rfl⟩
    · obtain ⟨_, _, _, rfl⟩ := iv_cl h1
      exact mx_gr_r
    · exact mx_gr_same
  case invokevirtual ix =>
    obtain ⟨_, _, _, _, _, _, _, _, _, _, h1⟩ := iv_cV hh
    obtain ⟨_, _, _, rfl⟩ := iv_cl h1
    exact mx_gr_r
  case invokespecial ix =>
    rcases iv_cI hh with ⟨_, _, _, _, _, _, _, _, _, h1⟩ | ⟨_, _, _, _, _, _, rfl⟩
    · obtain ⟨_, _, _, rfl⟩ := iv_cl h1
      exact mx_gr_r
    · exact mx_gr_same
  case ireturn =>
    obtain ⟨_, _, _, rfl⟩ := iv_iret hh
    exact mx_gr_r
  case return_ =>
    obtain ⟨_, _, rfl⟩ := iv_vret hh
    exact mx_gr_r
  all_goals exact absurd hh (by simp [mx_do])
theorem iv_st {d j pc : Nat} {L st : List Value} {h : mx_H} {o : mx_N} (hh : mx_st d j pc L st h = some o) : ∃ (q : mx_HD) (i : Instr) (len : Nat) (aux : List Nat), mx_hd[j]? = some q ∧ mx_ins j pc = some (i, len, aux) ∧ mx_do i aux q.2.2.2.1 d pc L st h = some o := by
  unfold mx_st at hh
  split at hh
  · next e1 e2 => exact ⟨_, _, _, _, e1, e2, hh⟩
  · cases hh
theorem mx_ev_gr : ∀ (n d j pc : Nat) (L st : List Value) (h : mx_H) (v : Option Value) (h2 : mx_H), mx_ev n d j pc L st h = some (v, h2) → h.1.length ≤ h2.1.length ∧ mx_sz h.1 ≤ mx_sz h2.1 ∧ (h.1.length < 1000 → h2.1.length < 1000) := by
  intro n
  induction n with
  | zero => intro d j pc L st h v h2 hr; simp [mx_ev] at hr
  | succ n ih =>
    intro d j pc L st h v h2 hr
    rw [mx_ev] at hr
    cases hs : mx_st d j pc L st h with
    | none => rw [hs] at hr; simp at hr
    | some o =>
      rw [hs] at hr
      obtain ⟨q, i, len, aux, -, -, hd⟩ := iv_st hs
      have hg := mx_do_gr hd
      match o, hr, hg with
      | .inl (pc', L', st', h'), hr, hg =>
        have h1 := ih _ _ _ _ _ _ _ _ hr
        have h2 := hg pc' L' st' h' rfl
        exact ⟨Nat.le_trans h2.1 h1.1, Nat.le_trans h2.2.1 h1.2.1, fun z => h1.2.2 (h2.2.2.1 z)⟩
      | .inr (.inl (d', k, as, rest)), hr, _ =>
        dsimp only at hr
        cases hc : mx_ev n d' k 0 (mx_en k as) [] h with
        | none => rw [hc] at hr; simp at hr
        | some r =>
          rw [hc] at hr
          obtain ⟨v', h'⟩ := r
          dsimp only at hr
          by_cases hf : mx_fr h.1.length h'.1.length L rest = true
          · rw [if_pos hf] at hr
            have h1 := ih _ _ _ _ _ _ _ _ hr
            have h2 := ih _ _ _ _ _ _ _ _ hc
            exact ⟨Nat.le_trans h2.1 h1.1, Nat.le_trans h2.2.1 h1.2.1, fun z => h1.2.2 (h2.2.2 z)⟩
          · rw [if_neg hf] at hr
            cases hr
      | .inr (.inr w), hr, _ =>
        have hr : some (w, h) = some (v, h2) := hr
        cases hr
        exact ⟨Nat.le_refl _, Nat.le_refl _, id⟩
end
section
/-! a step that goes on, over the machine of the claim; printed by wip/whole/gen8.py -/
def mx_nw (w : Cond) : Bool := match w with
  | .fieldLinkNest .. => true
  | .methodLinkNest .. => true
  | _ => false
def mx_WS : List Cond := lw_tbl.filter goodWord
def mx_wl (q : mx_HD) : List Cond := Cond.code q.1 q.2.1 q.2.2.1 q.2.2.2.1 :: mx_WS
theorem mx_wm {pl : Nat} {w : Cond} (h : mx_w pl w = true) : w ∈ lw_tbl := List.mem_of_getElem? (of_decide_eq_true h)
theorem mx_wW {pl : Nat} {w : Cond} (h : mx_w pl w = true) (hg : goodWord w = true) : w ∈ mx_WS := List.mem_filter.mpr ⟨mx_wm h, hg⟩
/-- the arrays that lie outside: tables and the script; static fields that hold them -/
def mx_X (ad : Nat → Nat) (σ : mx_S) (A : Nat → Prop) (U : State) (H : Heap) : Prop :=
  (∀ k, k < 4 → ∃ N : Nat, σ 2000 k = Int32.ofNat N ∧ N < 2 ^ 31 ∧ va_T .int (ad (1000 + k)) N (fun j => .int (σ (1000 + k) j)) A U H) ∧
  (∀ k, k < 3 → va_Z (mx_sf k).1 (mx_sf k).2.1 (mx_sf k).2.2 (.ref (ad (1000 + k))) A U H)
def mx_Y (U : State) : Prop := (∀ w ∈ lw_tbl, mx_nw w = true → va_Nw w U) ∧ va_AO "MainsLetters$Station" U
def mx_T (p : Program) (R : Room) (s : State) (m : MethodId) (args : Array Value) (meth : Method) (c : Code) (A : Nat → Prop) (D : va_G) (g : ClassId × ClassId × ClassId) (q : mx_HD) (ad0 : Nat → Nat) (σ0 : mx_S) (mc ms d : Nat) : Prop :=
  (p.tables.exec = Jvm.exec ∧ c.code = q.2.1 ∧ c.maxLocals = q.2.2.1 ∧ s.vm.findClass q.1.cls = some m.cls ∧ meth.name = q.1.name ∧ (∀ w ∈ mx_WS, w.before args s = true)) ∧ (va_K D vwCl (mx_ty g) s ∧ mx_Y s ∧ (∀ x, s.heap.size ≤ x → A x) ∧ mx_X ad0 σ0 A s s.heap) ∧ (d + 1 ≤ R.frames ∧ 60 * (d + 1) ≤ R.locals ∧ mc ≤ R.cells ∧ ms ≤ R.slots)
def mx_G (p : Program) (l : Launch) (e : Env) (R : Room) (s : State) (m : MethodId) (args : Array Value) (below : List Frame) (meth : Method) (c : Code) (Q : State → Prop) (A : Nat → Prop) (D : va_G) (g : ClassId × ClassId × ClassId) (q : mx_HD) (ad0 : Nat → Nat) (σ0 : mx_S) (n0 mc ms : Nat) (h2 : mx_H) (pc : Nat) (L st : List Value) (h : mx_H) : Prop :=
  ∀ (ad : Nat → Nat) (H : Heap) (locs : List Loc) (cells slots : Nat) (ls : Array Slot), (∀ i, ¬ (n0 ≤ i ∧ i < h.1.length) → ad i = ad0 i) → n0 ≤ h.1.length → h.1.length < 1000 → (∀ x, 1000 ≤ x → h.2 x = σ0 x) → va_P D vwCl (mx_ws g ad h) H → va_D A (mx_ws g ad h) → va_S A s.heap H locs → lv_has ls q.2.2.1 (mx_lv ad L) → L.length = q.2.2.1 → cells + (h2.1.length - h.1.length) = mc → slots + (mx_sz h2.1 - mx_sz h.1) = ms → W p l e R s m args below meth c H locs cells slots Q (F0 m pc ls (st.map (mx_cv ad)))
theorem mx_lift {p : Program} {l : Launch} {e : Env} {R : Room} {s : State} {m : MethodId} {args : Array Value} {below : List Frame} {meth : Method} {c : Code} {Q : State → Prop} {A : Nat → Prop} {D : va_G} {g : ClassId × ClassId × ClassId} {q : mx_HD} {ad0 : Nat → Nat} {σ0 : mx_S} {n0 mc ms : Nat} {h2 : mx_H} {pc pc' : Nat} {L st st' : List Value} {h : mx_H} (f : ∀ (ad : Nat → Nat) (H : Heap) (locs : List Loc) (cells slots : Nat) (ls : Array Slot), lv_has ls q.2.2.1 (mx_lv ad L) → W p l e R s m args below meth c H locs cells slots Q (F0 m pc' ls (st'.map (mx_cv ad))) → W p l e R s m args below meth c H locs cells slots Q (F0 m pc ls (st.map (mx_cv ad)))) (k : mx_G p l e R s m args below meth c Q A D g q ad0 σ0 n0 mc ms h2 pc' L st' h) : mx_G p l e R s m args below meth c Q A D g q ad0 σ0 n0 mc ms h2 pc L st h :=
  fun ad H locs cells slots ls hag hn0 hlt hσ hP hD hS hl hLn hcc hss => f ad H locs cells slots ls hl (k ad H locs cells slots ls hag hn0 hlt hσ hP hD hS hl hLn hcc hss)
def mx_tyF (ci : Nat) : Nat → FieldType := match ci with
  | 0 => tyX0
  | 1 => tyX2
  | 2 => tyX3
  | 3 => tyX5
  | 4 => tyX6
  | 5 => tyX7
  | 6 => tyX8
  | _ => tyX9
def mx_dv (ci : Nat) : List Value := (mx_df ci).map (fun o => match o with
  | none => .int 0
  | _ => .null)
theorem mx_deG (ad : Nat → Nat) {l : List (Option (Option Nat))} (h : ∀ o ∈ l, o = none ∨ o = some none) : l.mapIdx (mx_fv ad (fun _ => 0)) = l.map (fun o => match o with
  | none => .int 0
  | _ => .null) := by
  apply List.ext_getElem?
  intro i
  rw [List.getElem?_mapIdx, List.getElem?_map]
  cases hi : l[i]? with
  | none => rfl
  | some o =>
    rcases h o (List.mem_of_getElem? hi) with rfl | rfl
    · rfl
    · rfl
theorem mx_uw0 : ∀ w ∈ u_ws RX0 TX0 7, w ∈ mx_WS := by decide +kernel
theorem mx_dv0 : ∀ j, j < 7 → defaultValue (tyX0 j) = vp_V (mx_dv 0) j := by decide +kernel
theorem mx_de0 (ad : Nat → Nat) : (mx_df 0).mapIdx (mx_fv ad (fun _ => 0)) = mx_dv 0 := mx_deG ad (by decide +kernel)
theorem mx_uw1 : ∀ w ∈ u_ws RX2 TX2 8, w ∈ mx_WS := by decide +kernel
theorem mx_dv1 : ∀ j, j < 8 → defaultValue (tyX2 j) = vp_V (mx_dv 1) j := by decide +kernel
theorem mx_de1 (ad : Nat → Nat) : (mx_df 1).mapIdx (mx_fv ad (fun _ => 0)) = mx_dv 1 := mx_deG ad (by decide +kernel)
theorem mx_uw2 : ∀ w ∈ u_ws RX3 TX3 3, w ∈ mx_WS := by decide +kernel
theorem mx_dv2 : ∀ j, j < 3 → defaultValue (tyX3 j) = vp_V (mx_dv 2) j := by decide +kernel
theorem mx_de2 (ad : Nat → Nat) : (mx_df 2).mapIdx (mx_fv ad (fun _ => 0)) = mx_dv 2 := mx_deG ad (by decide +kernel)
theorem mx_uw3 : ∀ w ∈ u_ws RX5 TX5 12, w ∈ mx_WS := by decide +kernel
theorem mx_dv3 : ∀ j, j < 12 → defaultValue (tyX5 j) = vp_V (mx_dv 3) j := by decide +kernel
theorem mx_de3 (ad : Nat → Nat) : (mx_df 3).mapIdx (mx_fv ad (fun _ => 0)) = mx_dv 3 := mx_deG ad (by decide +kernel)
theorem mx_uw4 : ∀ w ∈ u_ws RX6 TX6 6, w ∈ mx_WS := by decide +kernel
theorem mx_dv4 : ∀ j, j < 6 → defaultValue (tyX6 j) = vp_V (mx_dv 4) j := by decide +kernel
theorem mx_de4 (ad : Nat → Nat) : (mx_df 4).mapIdx (mx_fv ad (fun _ => 0)) = mx_dv 4 := mx_deG ad (by decide +kernel)
theorem mx_uw5 : ∀ w ∈ u_ws RX7 TX7 6, w ∈ mx_WS := by decide +kernel
theorem mx_dv5 : ∀ j, j < 6 → defaultValue (tyX7 j) = vp_V (mx_dv 5) j := by decide +kernel
theorem mx_de5 (ad : Nat → Nat) : (mx_df 5).mapIdx (mx_fv ad (fun _ => 0)) = mx_dv 5 := mx_deG ad (by decide +kernel)
theorem mx_uw6 : ∀ w ∈ u_ws RX8 TX8 5, w ∈ mx_WS := by decide +kernel
theorem mx_dv6 : ∀ j, j < 5 → defaultValue (tyX8 j) = vp_V (mx_dv 6) j := by decide +kernel
theorem mx_de6 (ad : Nat → Nat) : (mx_df 6).mapIdx (mx_fv ad (fun _ => 0)) = mx_dv 6 := mx_deG ad (by decide +kernel)
theorem mx_uw7 : ∀ w ∈ u_ws RX9 TX9 32, w ∈ mx_WS := by decide +kernel
theorem mx_dv7 : ∀ j, j < 32 → defaultValue (tyX9 j) = vp_V (mx_dv 7) j := by decide +kernel
theorem mx_de7 (ad : Nat → Nat) : (mx_df 7).mapIdx (mx_fv ad (fun _ => 0)) = mx_dv 7 := mx_deG ad (by decide +kernel)
theorem mx_cls {ci : Nat} {C : vw_C} (h : vwCl[ci]? = some C) : (∀ w ∈ u_ws C.1 C.2.1 C.2.2, w ∈ mx_WS) ∧ (∀ k, k < C.2.2 → parseFieldDescriptor (C.2.1 k).2.2.1 = some (mx_tyF ci k)) ∧ (∀ a, a < C.2.2 → ∀ b, b < C.2.2 → a ≠ b → (C.2.1 a).2.1 ≠ (C.2.1 b).2.1) ∧ (∀ (ad : Nat → Nat) (j : Nat), j < C.2.2 → defaultValue (mx_tyF ci j) = vp_V ((mx_df ci).mapIdx (mx_fv ad (fun _ => 0))) j) ∧ (mx_df ci).length = C.2.2 := by
  match ci, h with
  | 0, h => cases h; exact ⟨mx_uw0, tyX0_ok, nmX0, fun ad => by rw [mx_de0]; exact mx_dv0, rfl⟩
  | 1, h => cases h; exact ⟨mx_uw1, tyX2_ok, nmX2, fun ad => by rw [mx_de1]; exact mx_dv1, rfl⟩
  | 2, h => cases h; exact ⟨mx_uw2, tyX3_ok, nmX3, fun ad => by rw [mx_de2]; exact mx_dv2, rfl⟩
  | 3, h => cases h; exact ⟨mx_uw3, tyX5_ok, nmX5, fun ad => by rw [mx_de3]; exact mx_dv3, rfl⟩
  | 4, h => cases h; exact ⟨mx_uw4, tyX6_ok, nmX6, fun ad => by rw [mx_de4]; exact mx_dv4, rfl⟩
  | 5, h => cases h; exact ⟨mx_uw5, tyX7_ok, nmX7, fun ad => by rw [mx_de5]; exact mx_dv5, rfl⟩
  | 6, h => cases h; exact ⟨mx_uw6, tyX8_ok, nmX8, fun ad => by rw [mx_de6]; exact mx_dv6, rfl⟩
  | 7, h => cases h; exact ⟨mx_uw7, tyX9_ok, nmX9, fun ad => by rw [mx_de7]; exact mx_dv7, rfl⟩
  | n + 8, h => simp [vwCl] at h
theorem mx_tgt {pc : Nat} {off : Int} (h : 0 ≤ (pc : Int) + off) : (pc : Int) + off = ((((pc : Int) + off).toNat : Nat) : Int) := (Int.toNat_of_nonneg h).symm
theorem mx_fkv {ci k : Nat} {f : String → String × String × String × Bool → Nat → Bool} (h : mx_fk ci k f = true) : ∃ (C : String) (T : u_T) (N : Nat), vwCl[ci]? = some (C, T, N) ∧ k < N ∧ f C (T k) N = true := by
  unfold mx_fk at h
  split at h
  · next C T N e =>
    simp only [Bool.and_eq_true, decide_eq_true_eq] at h
    exact ⟨C, T, N, e, h.1, h.2⟩
  · cases h
theorem mx_nar {x : Int32} (h : x = 0 ∨ x = 1) : narrow .boolean (.int x) = .int x ∧ vp_nar .boolean x = x := by
  rcases h with rfl | rfl
  · exact ⟨by decide, by decide⟩
  · exact ⟨by decide, by decide⟩
theorem mx_ob0 : mx_w 84 (.instanceMethod objectInit) = true := by decide +kernel
theorem mx_ob1 : mx_w 85 (.code objectInit ⟨#[0xb1]⟩ 1 none) = true := by decide +kernel
set_option maxHeartbeats 4000000 in
theorem sd_ist {p : Program} {l : Launch} {e : Env} {R : Room} {s : State} {m : MethodId} {args : Array Value} {below : List Frame} {meth : Method} {c : Code} {Q : State → Prop} {A : Nat → Prop} {D : va_G} {g : ClassId × ClassId × ClassId} {q : mx_HD} {ad0 : Nat → Nat} {σ0 : mx_S} {n0 mc ms : Nat} {h2 : mx_H} {d pc i i2 : Nat} {L r : List Value} {h : mx_H} {x : Int32} (C : mx_T p R s m args meth c A D g q ad0 σ0 mc ms d) (hi : i < L.length) (hd : decode q.2.1 pc = .ok (.istore i, 2) ∧ i2 = pc + 2 ∨ ∃ k : Fin 4, (k : Nat) = i ∧ decode q.2.1 pc = .ok (.istore_n k, 1) ∧ i2 = pc + 1) (k : mx_G p l e R s m args below meth c Q A D g q ad0 σ0 n0 mc ms h2 i2 (L.set i (.int x)) r h) : mx_G p l e R s m args below meth c Q A D g q ad0 σ0 n0 mc ms h2 pc L (.int x :: r) h := by
  obtain ⟨⟨hx, hb, hml, hown, hnm, hts⟩, ⟨hK, hY, hA, hX⟩, hfr, hlo, hmc, hms⟩ := C
  intro ad H locs cells slots ls hag hn0 hlt hσ hP hD hS hl hLn hcc hss
  have hi' : i < q.2.2.1 := by omega
  rcases hd with ⟨hd, rfl⟩ | ⟨k', hk, hd, rfl⟩
  · exact lv_istore hx hb hd hl hi' rfl (fun ls' hl' => k ad H locs cells slots ls' hag hn0 hlt hσ hP hD hS (mx_sto rfl hl') (by rw [List.length_set]; exact hLn) hcc hss)
  · exact lv_istore_n hx hb hd hk hl hi' rfl (fun ls' hl' => k ad H locs cells slots ls' hag hn0 hlt hσ hP hD hS (mx_sto rfl hl') (by rw [List.length_set]; exact hLn) hcc hss)
set_option maxHeartbeats 4000000 in
theorem sd_ast {p : Program} {l : Launch} {e : Env} {R : Room} {s : State} {m : MethodId} {args : Array Value} {below : List Frame} {meth : Method} {c : Code} {Q : State → Prop} {A : Nat → Prop} {D : va_G} {g : ClassId × ClassId × ClassId} {q : mx_HD} {ad0 : Nat → Nat} {σ0 : mx_S} {n0 mc ms : Nat} {h2 : mx_H} {d pc i i2 x : Nat} {L r : List Value} {h : mx_H} (C : mx_T p R s m args meth c A D g q ad0 σ0 mc ms d) (hi : i < L.length) (hd : decode q.2.1 pc = .ok (.astore i, 2) ∧ i2 = pc + 2 ∨ ∃ k : Fin 4, (k : Nat) = i ∧ decode q.2.1 pc = .ok (.astore_n k, 1) ∧ i2 = pc + 1) (k : mx_G p l e R s m args below meth c Q A D g q ad0 σ0 n0 mc ms h2 i2 (L.set i (.ref x)) r h) : mx_G p l e R s m args below meth c Q A D g q ad0 σ0 n0 mc ms h2 pc L (.ref x :: r) h := by
  obtain ⟨⟨hx, hb, hml, hown, hnm, hts⟩, ⟨hK, hY, hA, hX⟩, hfr, hlo, hmc, hms⟩ := C
  intro ad H locs cells slots ls hag hn0 hlt hσ hP hD hS hl hLn hcc hss
  have hi' : i < q.2.2.1 := by omega
  rcases hd with ⟨hd, rfl⟩ | ⟨k', hk, hd, rfl⟩
  · exact lv_astore hx hb hd hl hi' rfl (fun ls' hl' => k ad H locs cells slots ls' hag hn0 hlt hσ hP hD hS (mx_sto rfl hl') (by rw [List.length_set]; exact hLn) hcc hss)
  · exact lv_astore_n hx hb hd hk hl hi' rfl (fun ls' hl' => k ad H locs cells slots ls' hag hn0 hlt hσ hP hD hS (mx_sto rfl hl') (by rw [List.length_set]; exact hLn) hcc hss)
set_option maxHeartbeats 4000000 in
theorem sd_inc {p : Program} {l : Launch} {e : Env} {R : Room} {s : State} {m : MethodId} {args : Array Value} {below : List Frame} {meth : Method} {c : Code} {Q : State → Prop} {A : Nat → Prop} {D : va_G} {g : ClassId × ClassId × ClassId} {q : mx_HD} {ad0 : Nat → Nat} {σ0 : mx_S} {n0 mc ms : Nat} {h2 : mx_H} {d pc i : Nat} {n : Int} {L st : List Value} {h : mx_H} {x : Int32} (C : mx_T p R s m args meth c A D g q ad0 σ0 mc ms d) (hi : L[i]? = some (.int x)) (hd : decode q.2.1 pc = .ok (.iinc i n, 3)) (k : mx_G p l e R s m args below meth c Q A D g q ad0 σ0 n0 mc ms h2 (pc + 3) (L.set i (.int (x + Int32.ofInt n))) st h) : mx_G p l e R s m args below meth c Q A D g q ad0 σ0 n0 mc ms h2 pc L st h := by
  obtain ⟨⟨hx, hb, hml, hown, hnm, hts⟩, ⟨hK, hY, hA, hX⟩, hfr, hlo, hmc, hms⟩ := C
  intro ad H locs cells slots ls hag hn0 hlt hσ hP hD hS hl hLn hcc hss
  have hi' : i < q.2.2.1 := by have := mx_lt hi; omega
  obtain ⟨kk, hkk⟩ := List.getElem?_of_mem (mx_lv_of (ad := ad) hi rfl)
  exact lv_iinc hx hb hd hl hkk rfl hi' rfl (fun ls' hl' => k ad H locs cells slots ls' hag hn0 hlt hσ hP hD hS (mx_sto rfl hl') (by rw [List.length_set]; exact hLn) hcc hss)
set_option maxHeartbeats 4000000 in
theorem sd_gf {p : Program} {l : Launch} {e : Env} {R : Room} {s : State} {m : MethodId} {args : Array Value} {below : List Frame} {meth : Method} {c : Code} {Q : State → Prop} {A : Nat → Prop} {D : va_G} {g : ClassId × ClassId × ClassId} {q : mx_HD} {ad0 : Nat → Nat} {σ0 : mx_S} {n0 mc ms : Nat} {h2 : mx_H} {d pc ix ci kf nest pl cc : Nat} {L r : List Value} {h : mx_H} {v : Value} (C : mx_T p R s m args meth c A D g q ad0 σ0 mc ms d) (hax : mx_fk ci kf (fun _ t _ => if nest = 0 then mx_w pl (.fieldLink q.1.cls ix t.1 t.2.1 t.2.2.1) else mx_w pl (.fieldLinkNest q.1.cls ix t.1 t.2.1 t.2.2.1 "MainsLetters")) = true) (hd : decode q.2.1 pc = .ok (.getfield ix, 3)) (hv : mx_fld h ci kf cc = some v) (k : mx_G p l e R s m args below meth c Q A D g q ad0 σ0 n0 mc ms h2 (pc + 3) L (v :: r) h) : mx_G p l e R s m args below meth c Q A D g q ad0 σ0 n0 mc ms h2 pc L (.ref cc :: r) h := by
  obtain ⟨⟨hx, hb, hml, hown, hnm, hts⟩, ⟨hK, hY, hA, hX⟩, hfr, hlo, hmc, hms⟩ := C
  obtain ⟨C, T, N, hc, hk, hw⟩ := mx_fkv hax
  obtain ⟨h1, h2', h3, h4, h5⟩ := mx_cls hc
  obtain ⟨fs, hq, hf⟩ := iv_fld hv
  intro ad H locs cells slots ls hag hn0 hlt hσ hP hD hS hl hLn hcc hss
  have he := mx_ws_at (g := g) (ad := ad) hq
  have hval : (fs.mapIdx (mx_fv ad (h.2 cc)))[kf]? = some (mx_cv ad v) := by
    rw [List.getElem?_mapIdx]
    rcases hf with ⟨e1, rfl⟩ | ⟨r', e1, rfl⟩
    · rw [e1]; rfl
    · rw [e1]; rfl
  have kk := k ad H locs cells slots ls hag hn0 hlt hσ hP hD hS hl hLn hcc hss
  by_cases hn : nest = 0
  · rw [if_pos hn] at hw
    exact va_get hx hb hts h1 hown hK hP cc he hc kf hk (hts _ (mx_wW hw rfl)) (fun _ z => z) hval hd kk
  · rw [if_neg hn] at hw
    exact va_getN hx hb hts h1 hown hK hP cc he hc kf hk (va_Nw.use rfl (hY.1 _ (mx_wm hw) rfl)) (fun _ z => z) hval hd kk
set_option maxHeartbeats 4000000 in
theorem sd_pf {p : Program} {l : Launch} {e : Env} {R : Room} {s : State} {m : MethodId} {args : Array Value} {below : List Frame} {meth : Method} {c : Code} {Q : State → Prop} {A : Nat → Prop} {D : va_G} {g : ClassId × ClassId × ClassId} {q : mx_HD} {ad0 : Nat → Nat} {σ0 : mx_S} {n0 mc ms : Nat} {h2 : mx_H} {d pc ix ci kf kind isB pl cc : Nat} {L r : List Value} {h : mx_H} {x : Int32} (C : mx_T p R s m args meth c A D g q ad0 σ0 mc ms d) (hax : mx_fk ci kf (fun _ t _ =>
      (if kind = 2 then mx_w pl (.fieldLinkNest q.1.cls ix t.1 t.2.1 t.2.2.1 "MainsLetters") else mx_w pl (.fieldLink q.1.cls ix t.1 t.2.1 t.2.2.1)) &&
      (!t.2.2.2 && decide (parseFieldDescriptor t.2.2.1 = some (if isB = 0 then .int else .boolean)))) = true) (hd : decode q.2.1 pc = .ok (.putfield ix, 3)) (hI : mx_isI h.1 ci kf cc = true) (hxB : isB = 0 ∨ x = 0 ∨ x = 1) (k : mx_G p l e R s m args below meth c Q A D g q ad0 σ0 n0 mc ms h2 (pc + 3) L r (h.1, mx_up h.2 cc kf x)) : mx_G p l e R s m args below meth c Q A D g q ad0 σ0 n0 mc ms h2 pc L (.int x :: .ref cc :: r) h := by
  obtain ⟨⟨hx, hb, hml, hown, hnm, hts⟩, ⟨hK, hY, hA, hX⟩, hfr, hlo, hmc, hms⟩ := C
  obtain ⟨C, T, N, hc, hk, hw⟩ := mx_fkv hax
  obtain ⟨h1, h2', h3, h4, h5⟩ := mx_cls hc
  obtain ⟨fs, hq, hf⟩ := iv_isI hI
  simp only [Bool.and_eq_true, Bool.not_eq_true', decide_eq_true_eq] at hw
  obtain ⟨hw, hfin, hpd⟩ := hw
  intro ad H locs cells slots ls hag hn0 hlt hσ hP hD hS hl hLn hcc hss
  have he := mx_ws_at (g := g) (ad := ad) hq
  have hclt := mx_lt hq
  have hlf : kf < (fs.mapIdx (mx_fv ad (h.2 cc))).length := by rw [List.length_mapIdx]; exact mx_lt hf
  have hn : narrow (if isB = 0 then FieldType.int else FieldType.boolean) (.int x) = .int x := by
    by_cases hB : isB = 0
    · rw [if_pos hB]; rfl
    · rw [if_neg hB]; exact (mx_nar (hxB.resolve_left hB)).1
  have hfit : fits (if isB = 0 then FieldType.int else FieldType.boolean) (.int x) = true := by
    by_cases hB : isB = 0
    · rw [if_pos hB]; rfl
    · rw [if_neg hB]
      rcases hxB.resolve_left hB with rfl | rfl
      · decide
      · decide
  have hset : (mx_ws g ad h).set cc (ad cc, .inr (ci, (fs.mapIdx (mx_fv ad (h.2 cc))).set kf (.int x))) = mx_ws g ad (h.1, mx_up h.2 cc kf x) :=
    mx_set (.inl (ci, fs)) hclt (mx_set_self hq) (fun c' hc' => mx_up_ne hc') (by rw [← mx_fv_upd hf]; simp only [mx_cE, mx_up_self])
  have kk : ∀ (H1 : Heap) (locs1 : List Loc), va_P D vwCl ((mx_ws g ad h).set cc (ad cc, .inr (ci, (fs.mapIdx (mx_fv ad (h.2 cc))).set kf (.int x)))) H1 → va_D A ((mx_ws g ad h).set cc (ad cc, .inr (ci, (fs.mapIdx (mx_fv ad (h.2 cc))).set kf (.int x)))) → va_S A s.heap H1 locs1 → W p l e R s m args below meth c H1 locs1 cells slots Q (F0 m (pc + 3) ls (r.map (mx_cv ad))) := by
    intro H1 locs1 hP1 hD1 hS1
    rw [hset] at hP1 hD1
    exact k ad H1 locs1 cells slots ls hag hn0 hlt (fun z hz => by show mx_up h.2 cc kf x z = _; rw [mx_up_ne (by omega)]; exact hσ z hz) hP1 hD1 hS1 hl hLn hcc hss
  by_cases h2k : kind = 2
  · rw [if_pos h2k] at hw
    exact va_putN hx hb hts h1 (mx_tyF ci) h2' h3 hown hK hP hD hS cc he hc kf hk (va_Nw.use rfl (hY.1 _ (mx_wm hw) rfl)) (fun _ z => z) hfin hpd hn hfit hlf hd kk
  · rw [if_neg h2k] at hw
    exact va_put hx hb hts h1 (mx_tyF ci) h2' h3 hown hK hP hD hS cc he hc kf hk (hts _ (mx_wW hw rfl)) (fun _ z => z) hfin hpd hn hfit hlf hd kk
set_option maxHeartbeats 4000000 in
theorem sd_pfR {p : Program} {l : Launch} {e : Env} {R : Room} {s : State} {m : MethodId} {args : Array Value} {below : List Frame} {meth : Method} {c : Code} {Q : State → Prop} {A : Nat → Prop} {D : va_G} {g : ClassId × ClassId × ClassId} {q : mx_HD} {ad0 : Nat → Nat} {σ0 : mx_S} {n0 mc ms : Nat} {h2 : mx_H} {d pc ix ci kf pl cc v : Nat} {L r : List Value} {h : mx_H} {sh' : List mx_C} (C : mx_T p R s m args meth c A D g q ad0 σ0 mc ms d) (hax : mx_fk ci kf (fun _ t _ => mx_w pl (.fieldLink q.1.cls ix t.1 t.2.1 t.2.2.1) && (t.2.2.2 && decide (t.1 = q.1.cls) && decide (q.1.name = "<init>") && (match parseFieldDescriptor t.2.2.1 with
        | some (.object _) => true
        | some (.array _) => true
        | _ => false))) = true) (hd : decode q.2.1 pc = .ok (.putfield ix, 3)) (hI : mx_setR h.1 ci kf cc v = some sh') (k : mx_G p l e R s m args below meth c Q A D g q ad0 σ0 n0 mc ms h2 (pc + 3) L r (sh', h.2)) : mx_G p l e R s m args below meth c Q A D g q ad0 σ0 n0 mc ms h2 pc L (.ref v :: .ref cc :: r) h := by
  obtain ⟨⟨hx, hb, hml, hown, hnm, hts⟩, ⟨hK, hY, hA, hX⟩, hfr, hlo, hmc, hms⟩ := C
  obtain ⟨C, T, N, hc, hk, hw⟩ := mx_fkv hax
  obtain ⟨h1, h2', h3, h4, h5⟩ := mx_cls hc
  obtain ⟨fs, hq, hf, rfl⟩ := iv_setR hI
  simp only [Bool.and_eq_true, decide_eq_true_eq] at hw
  obtain ⟨hw, ⟨⟨hfin, hdecl⟩, hini⟩, hpt⟩ := hw
  intro ad H locs cells slots ls hag hn0 hlt hσ hP hD hS hl hLn hcc hss
  have he := mx_ws_at (g := g) (ad := ad) hq
  have hclt := mx_lt hq
  have hlf : kf < (fs.mapIdx (mx_fv ad (h.2 cc))).length := by rw [List.length_mapIdx]; exact mx_lt hf
  have hset : (mx_ws g ad h).set cc (ad cc, .inr (ci, (fs.mapIdx (mx_fv ad (h.2 cc))).set kf (.ref (ad v)))) = mx_ws g ad (h.1.set cc (.inl (ci, fs.set kf (some (some v)))), h.2) :=
    mx_set (.inl (ci, fs.set kf (some (some v)))) hclt rfl (fun c' hc' => rfl) (by rw [← mx_fv_ref]; rfl)
  have hzz : mx_sz (h.1.set cc (.inl (ci, fs.set kf (some (some v))))) = mx_sz h.1 := mx_sz_set hq (by simp [mx_cz])
  have kk : ∀ (H1 : Heap) (locs1 : List Loc), va_P D vwCl ((mx_ws g ad h).set cc (ad cc, .inr (ci, (fs.mapIdx (mx_fv ad (h.2 cc))).set kf (.ref (ad v))))) H1 → va_D A ((mx_ws g ad h).set cc (ad cc, .inr (ci, (fs.mapIdx (mx_fv ad (h.2 cc))).set kf (.ref (ad v))))) → va_S A s.heap H1 locs1 → W p l e R s m args below meth c H1 locs1 cells slots Q (F0 m (pc + 3) ls (r.map (mx_cv ad))) := by
    intro H1 locs1 hP1 hD1 hS1
    rw [hset] at hP1 hD1
    exact k ad H1 locs1 cells slots ls (fun i hi => hag i (by simpa using hi)) (by simpa using hn0) (by simpa using hlt) hσ hP1 hD1 hS1 hl hLn (by simpa using hcc) (by show slots + (mx_sz h2.1 - mx_sz (h.1.set cc _)) = ms; rw [hzz]; exact hss)
  have hin2 : meth.name = "<init>" := hnm.trans hini
  cases hpd : parseFieldDescriptor (T kf).2.2.1 with
  | none => rw [hpd] at hpt; cases hpt
  | some ty =>
    rw [hpd] at hpt
    have hn : narrow ty (.ref (ad v)) = .ref (ad v) ∧ fits ty (.ref (ad v)) = true := by
      cases ty <;> first | exact ⟨rfl, rfl⟩ | cases hpt
    exact va_putF hx hb hts h1 (mx_tyF ci) h2' h3 hown hK hP hD hS cc he hc kf hk (hts _ (mx_wW hw rfl)) (fun _ z => z) hfin hin2 hdecl hpd hn.1 hn.2 hlf hd kk
set_option maxHeartbeats 4000000 in
theorem sd_iald {p : Program} {l : Launch} {e : Env} {R : Room} {s : State} {m : MethodId} {args : Array Value} {below : List Frame} {meth : Method} {c : Code} {Q : State → Prop} {A : Nat → Prop} {D : va_G} {g : ClassId × ClassId × ClassId} {q : mx_HD} {ad0 : Nat → Nat} {σ0 : mx_S} {n0 mc ms : Nat} {h2 : mx_H} {d pc cc : Nat} {i : Int32} {L r : List Value} {h : mx_H} (C : mx_T p R s m args meth c A D g q ad0 σ0 mc ms d) (hi : mx_in i (mx_len h cc) = true) (hd : decode q.2.1 pc = .ok (.iaload, 1)) (k : mx_G p l e R s m args below meth c Q A D g q ad0 σ0 n0 mc ms h2 (pc + 1) L (.int (h.2 cc i.toNatClampNeg) :: r) h) : mx_G p l e R s m args below meth c Q A D g q ad0 σ0 n0 mc ms h2 pc L (.int i :: .ref cc :: r) h := by
  obtain ⟨⟨hx, hb, hml, hown, hnm, hts⟩, ⟨hK, hY, hA, hX⟩, hfr, hlo, hmc, hms⟩ := C
  obtain ⟨hin, hne⟩ := iv_in hi
  intro ad H locs cells slots ls hag hn0 hlt hσ hP hD hS hl hLn hcc hss
  have kk := k ad H locs cells slots ls hag hn0 hlt hσ hP hD hS hl hLn hcc hss
  by_cases hc : 1000 ≤ cc
  · by_cases hc4 : cc < 1004
    · have hlen : mx_len h cc = (h.2 2000 (cc - 1000)).toNatClampNeg := by unfold mx_len; rw [if_pos hc, if_pos hc4]
      obtain ⟨N, e1, e2, hT⟩ := hX.1 (cc - 1000) (by omega)
      have ecc : 1000 + (cc - 1000) = cc := by omega
      rw [ecc, ← hag cc (by omega), ← hσ cc hc] at hT
      have eN : mx_len h cc = N := by rw [hlen, hσ 2000 (by omega), e1]; exact nI_clamp e2
      rw [eN] at hin
      exact va_ti hx hb hT hS hin rfl hd kk
    · have hlen : mx_len h cc = 0 := by unfold mx_len; rw [if_pos hc, if_neg hc4]
      exact absurd hlen hne
  · have hlen : mx_len h cc = mx_lenW h.1 cc 0 := by unfold mx_len; rw [if_neg hc]
    rw [hlen] at hin hne
    have hq := iv_lenW rfl hne
    exact va_iald hx hb hK hP cc 0 (mx_ws_at hq) rfl hin hd kk
set_option maxHeartbeats 4000000 in
theorem sd_iast {p : Program} {l : Launch} {e : Env} {R : Room} {s : State} {m : MethodId} {args : Array Value} {below : List Frame} {meth : Method} {c : Code} {Q : State → Prop} {A : Nat → Prop} {D : va_G} {g : ClassId × ClassId × ClassId} {q : mx_HD} {ad0 : Nat → Nat} {σ0 : mx_S} {n0 mc ms : Nat} {h2 : mx_H} {d pc cc : Nat} {x i : Int32} {L r : List Value} {h : mx_H} (C : mx_T p R s m args meth c A D g q ad0 σ0 mc ms d) (hi : mx_in i (mx_lenW h.1 cc 0) = true) (hd : decode q.2.1 pc = .ok (.iastore, 1)) (k : mx_G p l e R s m args below meth c Q A D g q ad0 σ0 n0 mc ms h2 (pc + 1) L r (h.1, mx_up h.2 cc i.toNatClampNeg x)) : mx_G p l e R s m args below meth c Q A D g q ad0 σ0 n0 mc ms h2 pc L (.int x :: .int i :: .ref cc :: r) h := by
  obtain ⟨⟨hx, hb, hml, hown, hnm, hts⟩, ⟨hK, hY, hA, hX⟩, hfr, hlo, hmc, hms⟩ := C
  obtain ⟨hin, hne⟩ := iv_in hi
  have hq := iv_lenW rfl hne
  have hclt := mx_lt hq
  intro ad H locs cells slots ls hag hn0 hlt hσ hP hD hS hl hLn hcc hss
  have hset := mx_set (g := g) (ad := ad) (h := h) (h' := (h.1, mx_up h.2 cc i.toNatClampNeg x)) (E := mx_cE g ad (.inr (.inl (0, mx_lenW h.1 cc 0))) (upd (h.2 cc) i.toNatClampNeg x)) (.inr (.inl (0, mx_lenW h.1 cc 0))) hclt (mx_set_self hq) (fun c' hc' => mx_up_ne hc') (by simp only [mx_up_self])
  refine va_iast hx hb hK hP hD hS cc 0 (mx_ws_at hq) rfl hin hd (fun H1 locs1 hP1 hD1 hS1 => ?_)
  exact k ad H1 locs1 cells slots ls hag hn0 hlt (fun z hz => by show mx_up h.2 cc _ x z = _; rw [mx_up_ne (by omega)]; exact hσ z hz) (hset ▸ hP1) (hset ▸ hD1) hS1 hl hLn hcc hss
set_option maxHeartbeats 4000000 in
theorem sd_zast {p : Program} {l : Launch} {e : Env} {R : Room} {s : State} {m : MethodId} {args : Array Value} {below : List Frame} {meth : Method} {c : Code} {Q : State → Prop} {A : Nat → Prop} {D : va_G} {g : ClassId × ClassId × ClassId} {q : mx_HD} {ad0 : Nat → Nat} {σ0 : mx_S} {n0 mc ms : Nat} {h2 : mx_H} {d pc cc : Nat} {x i : Int32} {L r : List Value} {h : mx_H} (C : mx_T p R s m args meth c A D g q ad0 σ0 mc ms d) (hi : mx_in i (mx_lenW h.1 cc 1) = true) (hxB : x = 0 ∨ x = 1) (hd : decode q.2.1 pc = .ok (.bastore, 1)) (k : mx_G p l e R s m args below meth c Q A D g q ad0 σ0 n0 mc ms h2 (pc + 1) L r (h.1, mx_up h.2 cc i.toNatClampNeg x)) : mx_G p l e R s m args below meth c Q A D g q ad0 σ0 n0 mc ms h2 pc L (.int x :: .int i :: .ref cc :: r) h := by
  obtain ⟨⟨hx, hb, hml, hown, hnm, hts⟩, ⟨hK, hY, hA, hX⟩, hfr, hlo, hmc, hms⟩ := C
  obtain ⟨hin, hne⟩ := iv_in hi
  have hq := iv_lenW rfl hne
  have hclt := mx_lt hq
  intro ad H locs cells slots ls hag hn0 hlt hσ hP hD hS hl hLn hcc hss
  have hset := mx_set (g := g) (ad := ad) (h := h) (h' := (h.1, mx_up h.2 cc i.toNatClampNeg x)) (E := mx_cE g ad (.inr (.inl (1, mx_lenW h.1 cc 1))) (upd (h.2 cc) i.toNatClampNeg x)) (.inr (.inl (1, mx_lenW h.1 cc 1))) hclt (mx_set_self hq) (fun c' hc' => mx_up_ne hc') (by simp only [mx_up_self])
  refine va_zast hx hb hK hP hD hS cc 1 (mx_ws_at hq) rfl hin hd (fun H1 locs1 hP1 hD1 hS1 => ?_)
  rw [(mx_nar hxB).2] at hP1 hD1
  exact k ad H1 locs1 cells slots ls hag hn0 hlt (fun z hz => by show mx_up h.2 cc _ x z = _; rw [mx_up_ne (by omega)]; exact hσ z hz) (hset ▸ hP1) (hset ▸ hD1) hS1 hl hLn hcc hss
set_option maxHeartbeats 4000000 in
theorem sd_zald {p : Program} {l : Launch} {e : Env} {R : Room} {s : State} {m : MethodId} {args : Array Value} {below : List Frame} {meth : Method} {c : Code} {Q : State → Prop} {A : Nat → Prop} {D : va_G} {g : ClassId × ClassId × ClassId} {q : mx_HD} {ad0 : Nat → Nat} {σ0 : mx_S} {n0 mc ms : Nat} {h2 : mx_H} {d pc cc : Nat} {i : Int32} {L r : List Value} {h : mx_H} (C : mx_T p R s m args meth c A D g q ad0 σ0 mc ms d) (hi : mx_in i (mx_lenW h.1 cc 1) = true) (hd : decode q.2.1 pc = .ok (.baload, 1)) (k : mx_G p l e R s m args below meth c Q A D g q ad0 σ0 n0 mc ms h2 (pc + 1) L (.int (h.2 cc i.toNatClampNeg) :: r) h) : mx_G p l e R s m args below meth c Q A D g q ad0 σ0 n0 mc ms h2 pc L (.int i :: .ref cc :: r) h := by
  obtain ⟨⟨hx, hb, hml, hown, hnm, hts⟩, ⟨hK, hY, hA, hX⟩, hfr, hlo, hmc, hms⟩ := C
  obtain ⟨hin, hne⟩ := iv_in hi
  have hq := iv_lenW rfl hne
  intro ad H locs cells slots ls hag hn0 hlt hσ hP hD hS hl hLn hcc hss
  have kk := k ad H locs cells slots ls hag hn0 hlt hσ hP hD hS hl hLn hcc hss
  exact va_zald hx hb hK hP cc 1 (mx_ws_at hq) rfl hin hd kk
set_option maxHeartbeats 4000000 in
theorem sd_aald {p : Program} {l : Launch} {e : Env} {R : Room} {s : State} {m : MethodId} {args : Array Value} {below : List Frame} {meth : Method} {c : Code} {Q : State → Prop} {A : Nat → Prop} {D : va_G} {g : ClassId × ClassId × ClassId} {q : mx_HD} {ad0 : Nat → Nat} {σ0 : mx_S} {n0 mc ms : Nat} {h2 : mx_H} {d pc cc v : Nat} {i : Int32} {L r : List Value} {h : mx_H} {lq : List (Option Nat)} (C : mx_T p R s m args meth c A D g q ad0 σ0 mc ms d) (hq : h.1[cc]? = some (.inr (.inr lq))) (hi : mx_in i lq.length = true) (hv : lq[i.toNatClampNeg]? = some (some v)) (hd : decode q.2.1 pc = .ok (.aaload, 1)) (k : mx_G p l e R s m args below meth c Q A D g q ad0 σ0 n0 mc ms h2 (pc + 1) L (.ref v :: r) h) : mx_G p l e R s m args below meth c Q A D g q ad0 σ0 n0 mc ms h2 pc L (.int i :: .ref cc :: r) h := by
  obtain ⟨⟨hx, hb, hml, hown, hnm, hts⟩, ⟨hK, hY, hA, hX⟩, hfr, hlo, hmc, hms⟩ := C
  obtain ⟨hin, hne⟩ := iv_in hi
  intro ad H locs cells slots ls hag hn0 hlt hσ hP hD hS hl hLn hcc hss
  have kk := k ad H locs cells slots ls hag hn0 hlt hσ hP hD hS hl hLn hcc hss
  refine va_aldq hx hb hK hP cc 2 (mx_ws_at hq) rfl hin hd ?_
  have e : va_rf ((lq[i.toNatClampNeg]?.getD none).map ad) = .ref (ad v) := by rw [hv]; rfl
  rw [e]
  exact kk
set_option maxHeartbeats 4000000 in
theorem sd_aast {p : Program} {l : Launch} {e : Env} {R : Room} {s : State} {m : MethodId} {args : Array Value} {below : List Frame} {meth : Method} {c : Code} {Q : State → Prop} {A : Nat → Prop} {D : va_G} {g : ClassId × ClassId × ClassId} {q : mx_HD} {ad0 : Nat → Nat} {σ0 : mx_S} {n0 mc ms : Nat} {h2 : mx_H} {d pc cc v : Nat} {i : Int32} {L r : List Value} {h : mx_H} {lq : List (Option Nat)} {fs : List (Option (Option Nat))} (C : mx_T p R s m args meth c A D g q ad0 σ0 mc ms d) (hqv : h.1[v]? = some (.inl (3, fs))) (hq : h.1[cc]? = some (.inr (.inr lq))) (hi : mx_in i lq.length = true) (hd : decode q.2.1 pc = .ok (.aastore, 1)) (k : mx_G p l e R s m args below meth c Q A D g q ad0 σ0 n0 mc ms h2 (pc + 1) L r (h.1.set cc (.inr (.inr (lq.set i.toNatClampNeg (some v)))), h.2)) : mx_G p l e R s m args below meth c Q A D g q ad0 σ0 n0 mc ms h2 pc L (.ref v :: .int i :: .ref cc :: r) h := by
  obtain ⟨⟨hx, hb, hml, hown, hnm, hts⟩, ⟨hK, hY, hA, hX⟩, hfr, hlo, hmc, hms⟩ := C
  obtain ⟨hin, hne⟩ := iv_in hi
  have hclt := mx_lt hq
  have hil : i.toNatClampNeg < lq.length := Nat.not_le.mp fun z => hin (Or.inr z)
  have hzz : mx_sz (h.1.set cc (.inr (.inr (lq.set i.toNatClampNeg (some v))))) = mx_sz h.1 := mx_sz_set hq (by simp [mx_cz])
  intro ad H locs cells slots ls hag hn0 hlt hσ hP hD hS hl hLn hcc hss
  have hset := mx_set (g := g) (ad := ad) (h := h) (h' := (h.1.set cc (.inr (.inr (lq.set i.toNatClampNeg (some v)))), h.2)) (E := .inl (g.2.2, lq.length, .inr (.inr (.inr (.inr (va_up (fun k => (lq[k]?.getD none).map ad) i.toNatClampNeg (some (ad v)))))))) (.inr (.inr (lq.set i.toNatClampNeg (some v)))) hclt rfl (fun c' hc' => rfl) (by
    have e : (fun k : Nat => ((lq.set i.toNatClampNeg (some v))[k]?.getD none).map ad) = va_up (fun k => (lq[k]?.getD none).map ad) i.toNatClampNeg (some (ad v)) := by
      funext z
      by_cases hz : z = i.toNatClampNeg
      · subst hz
        rw [va_up_self, List.getElem?_set_self hil]
        rfl
      · rw [va_up_ne _ _ hz, List.getElem?_set_ne (Ne.symm hz)]
    simp only [mx_cE, e, List.length_set])
  refine va_astq hx hb hK hP hD hS cc 2 v 3 (r := (RX5, TX5, 12)) (mx_ws_at hq) rfl (mx_ws_at hqv) rfl hin hd (fun H1 locs1 hP1 hD1 hS1 => ?_)
  exact k ad H1 locs1 cells slots ls (fun i hi => hag i (by simpa using hi)) (by simpa using hn0) (by simpa using hlt) hσ (hset ▸ hP1) (hset ▸ hD1) hS1 hl hLn (by simpa using hcc) (by show slots + (mx_sz h2.1 - mx_sz (h.1.set cc _)) = ms; rw [hzz]; exact hss)
set_option maxHeartbeats 4000000 in
theorem sd_alen {p : Program} {l : Launch} {e : Env} {R : Room} {s : State} {m : MethodId} {args : Array Value} {below : List Frame} {meth : Method} {c : Code} {Q : State → Prop} {A : Nat → Prop} {D : va_G} {g : ClassId × ClassId × ClassId} {q : mx_HD} {ad0 : Nat → Nat} {σ0 : mx_S} {n0 mc ms : Nat} {h2 : mx_H} {d pc cc : Nat} {x : Int32} {L r : List Value} {h : mx_H} (C : mx_T p R s m args meth c A D g q ad0 σ0 mc ms d) (hv : (1000 ≤ cc ∧ cc < 1004 ∧ x = h.2 2000 (cc - 1000)) ∨ (∃ n, h.1[cc]? = some (.inr (.inl (0, n))) ∧ x = Int32.ofNat n)) (hd : decode q.2.1 pc = .ok (.arraylength, 1)) (k : mx_G p l e R s m args below meth c Q A D g q ad0 σ0 n0 mc ms h2 (pc + 1) L (.int x :: r) h) : mx_G p l e R s m args below meth c Q A D g q ad0 σ0 n0 mc ms h2 pc L (.ref cc :: r) h := by
  obtain ⟨⟨hx, hb, hml, hown, hnm, hts⟩, ⟨hK, hY, hA, hX⟩, hfr, hlo, hmc, hms⟩ := C
  intro ad H locs cells slots ls hag hn0 hlt hσ hP hD hS hl hLn hcc hss
  have kk := k ad H locs cells slots ls hag hn0 hlt hσ hP hD hS hl hLn hcc hss
  rcases hv with ⟨hc, hc4, rfl⟩ | ⟨n, hq, rfl⟩
  · obtain ⟨N, e1, e2, hT⟩ := hX.1 (cc - 1000) (by omega)
    have ecc : 1000 + (cc - 1000) = cc := by omega
    rw [ecc, ← hag cc (by omega)] at hT
    exact va_tlen hx hb hT hS (by rw [hσ 2000 (by omega), e1]) hd kk
  · exact va_alen hx hb hK hP cc 0 (mx_ws_at hq) rfl rfl hd kk
set_option maxHeartbeats 4000000 in
theorem sd_new {p : Program} {l : Launch} {e : Env} {R : Room} {s : State} {m : MethodId} {args : Array Value} {below : List Frame} {meth : Method} {c : Code} {Q : State → Prop} {A : Nat → Prop} {D : va_G} {g : ClassId × ClassId × ClassId} {q : mx_HD} {ad0 : Nat → Nat} {σ0 : mx_S} {n0 mc ms : Nat} {h2 : mx_H} {d pc ix ci p1 p2 p3 : Nat} {L r : List Value} {h : mx_H} (C : mx_T p R s m args meth c A D g q ad0 σ0 mc ms d) (hax : mx_fk ci 0 (fun C _ N => mx_w p1 (.classLink q.1.cls ix C) && mx_w p2 (.instantiable C N) && mx_w p3 (.initialized C)) = true) (hd : decode q.2.1 pc = .ok (.new ix, 3)) (hok : mx_ok1 h.1 L r = true) (hm1 : (h.1 ++ [(Sum.inl (ci, mx_df ci) : mx_C)]).length ≤ h2.1.length) (hm2 : mx_sz (h.1 ++ [(Sum.inl (ci, mx_df ci) : mx_C)]) ≤ mx_sz h2.1) (k : mx_G p l e R s m args below meth c Q A D g q ad0 σ0 n0 mc ms h2 (pc + 3) L (.ref h.1.length :: r) (h.1 ++ [.inl (ci, mx_df ci)], mx_zr h.2 h.1.length)) : mx_G p l e R s m args below meth c Q A D g q ad0 σ0 n0 mc ms h2 pc L r h := by
  obtain ⟨⟨hx, hb, hml, hown, hnm, hts⟩, ⟨hK, hY, hA, hX⟩, hfr, hlo, hmc, hms⟩ := C
  obtain ⟨C, T, N, hc, hk, hw⟩ := mx_fkv hax
  obtain ⟨c1, c2, c3, c4, c5⟩ := mx_cls hc
  simp only [Bool.and_eq_true] at hw
  obtain ⟨⟨w1, w2⟩, w3⟩ := hw
  obtain ⟨f1, f2, f3, f4⟩ := mx_ok1_lt hok
  intro ad H locs cells slots ls hag hn0 hlt hσ hP hD hS hl hLn hcc hss
  have c5 : (mx_df ci).length = N := c5
  have hm1' : h.1.length + 1 ≤ h2.1.length := by simpa using hm1
  have hm2' : mx_sz h.1 + N ≤ mx_sz h2.1 := by rw [mx_sz_app] at hm2; simp only [mx_cz, c5] at hm2; exact hm2
  refine va_new (ci := ci) (fs := (mx_df ci).mapIdx (mx_fv ad (fun _ => 0))) hx hb hts c1 (mx_tyF ci) c2 hown (hts _ (mx_wW w1 rfl)) (hts _ (mx_wW w2 rfl)) (hts _ (mx_wW w3 rfl)) hK hP hD hS hA hc (c4 ad) (by omega) (by omega) hd (fun a H1 hP1 hD1 hS1 => ?_)
  have hdf : (mx_df ci).mapIdx (mx_fv ad (fun _ => 0)) = (mx_df ci).mapIdx (mx_fv (mx_ad ad h.1.length a) (fun _ => 0)) := by
    match ci, hc with
    | 0, _ => rw [mx_de0, mx_de0]
    | 1, _ => rw [mx_de1, mx_de1]
    | 2, _ => rw [mx_de2, mx_de2]
    | 3, _ => rw [mx_de3, mx_de3]
    | 4, _ => rw [mx_de4, mx_de4]
    | 5, _ => rw [mx_de5, mx_de5]
    | 6, _ => rw [mx_de6, mx_de6]
    | 7, _ => rw [mx_de7, mx_de7]
    | n + 8, hc => simp [vwCl] at hc
  rw [hdf] at hP1 hD1
  have had : ∀ i, ¬ (h.1.length ≤ i ∧ i < h.1.length + 1) → mx_ad ad h.1.length a i = ad i := fun i hi => by
    unfold mx_ad
    rw [if_neg (fun z => hi (by omega))]
  have hlv := mx_lv_ad (L := L) f2 had
  have hst := mx_st_ad (st := r) f3 had
  have hnew := mx_ws_new (g := g) (ad := ad) (h := h) (a := a) (.inl (ci, mx_df ci)) f4 rfl
  have kk := k (mx_ad ad h.1.length a) H1 locs (cells + 1) (slots + N) ls (fun i hi => by have hi2 : ¬ (n0 ≤ i ∧ i < h.1.length + 1) := (by simpa using hi); rw [had i (by omega)]; exact hag i (by omega)) (by simp; omega) (by simp; omega) (fun z hz => by show mx_zr h.2 h.1.length z = _; unfold mx_zr; rw [if_neg (by omega)]; exact hσ z hz) (hnew ▸ hP1) (hnew ▸ hD1) hS1 (by rw [hlv]; exact hl) hLn (by simp only [List.length_append, List.length_singleton] at hm1 ⊢; omega) (by rw [mx_sz_app] at hm2 ⊢; simp only [mx_cz, c5] at hm2 ⊢; omega)
  have e1 : (Value.ref h.1.length :: r).map (mx_cv (mx_ad ad h.1.length a)) = .ref a :: r.map (mx_cv ad) := by
    rw [List.map_cons, hst]
    simp [mx_cv, mx_ad]
  rw [e1] at kk
  exact kk
set_option maxHeartbeats 4000000 in
theorem sd_newa {p : Program} {l : Launch} {e : Env} {R : Room} {s : State} {m : MethodId} {args : Array Value} {below : List Frame} {meth : Method} {c : Code} {Q : State → Prop} {A : Nat → Prop} {D : va_G} {g : ClassId × ClassId × ClassId} {q : mx_HD} {ad0 : Nat → Nat} {σ0 : mx_S} {n0 mc ms : Nat} {h2 : mx_H} {d pc t pl : Nat} {n : Int32} {ty : ArrayType} {L r : List Value} {h : mx_H} (C : mx_T p R s m args meth c A D g q ad0 σ0 mc ms d) (hax : ((decide (ty = .int) && decide (t = 0) && mx_w pl (.arrayClass .int)) || (decide (ty = .boolean) && decide (t = 1) && mx_w pl (.arrayClass .boolean))) = true) (hd : decode q.2.1 pc = .ok (.newarray ty, 2)) (hok : mx_ok1 h.1 L r = true) (hn0' : ¬ n < 0) (hn1 : n.toNatClampNeg < 1000) (hm1 : (h.1 ++ [(Sum.inr (Sum.inl (t, n.toNatClampNeg)) : mx_C)]).length ≤ h2.1.length) (hm2 : mx_sz (h.1 ++ [(Sum.inr (Sum.inl (t, n.toNatClampNeg)) : mx_C)]) ≤ mx_sz h2.1) (k : mx_G p l e R s m args below meth c Q A D g q ad0 σ0 n0 mc ms h2 (pc + 2) L (.ref h.1.length :: r) (h.1 ++ [.inr (.inl (t, n.toNatClampNeg))], mx_zr h.2 h.1.length)) : mx_G p l e R s m args below meth c Q A D g q ad0 σ0 n0 mc ms h2 pc L (.int n :: r) h := by
  obtain ⟨⟨hx, hb, hml, hown, hnm, hts⟩, ⟨hK, hY, hA, hX⟩, hfr, hlo, hmc, hms⟩ := C
  obtain ⟨f1, f2, f3, f4⟩ := mx_ok1_lt hok
  intro ad H locs cells slots ls hag hn0 hlt hσ hP hD hS hl hLn hcc hss
  have hm1' : h.1.length + 1 ≤ h2.1.length := by simpa using hm1
  have hm2' : mx_sz h.1 + n.toNatClampNeg ≤ mx_sz h2.1 := by rw [mx_sz_app] at hm2; simp only [mx_cz] at hm2; exact hm2
  have key : ∀ (a : Nat) (H1 : Heap), va_P D vwCl (mx_ws g ad h ++ [(a, .inl (if t = 0 then g.1 else g.2.1, n.toNatClampNeg, .inl (fun _ => 0)))]) H1 → va_D A (mx_ws g ad h ++ [(a, .inl (if t = 0 then g.1 else g.2.1, n.toNatClampNeg, .inl (fun _ => 0)))]) → va_S A s.heap H1 locs → W p l e R s m args below meth c H1 locs (cells + 1) (slots + n.toNatClampNeg) Q (F0 m (pc + 2) ls (.ref a :: r.map (mx_cv ad))) := by
    intro a H1 hP1 hD1 hS1
    have had : ∀ i, ¬ (h.1.length ≤ i ∧ i < h.1.length + 1) → mx_ad ad h.1.length a i = ad i := fun i hi => by
      unfold mx_ad
      rw [if_neg (fun z => hi (by omega))]
    have hlv := mx_lv_ad (L := L) f2 had
    have hst := mx_st_ad (st := r) f3 had
    have hnew := mx_ws_new (g := g) (ad := ad) (h := h) (a := a) (.inr (.inl (t, n.toNatClampNeg))) f4 rfl
    have kk := k (mx_ad ad h.1.length a) H1 locs (cells + 1) (slots + n.toNatClampNeg) ls (fun i hi => by have hi2 : ¬ (n0 ≤ i ∧ i < h.1.length + 1) := (by simpa using hi); rw [had i (by omega)]; exact hag i (by omega)) (by simp; omega) (by simp; omega) (fun z hz => by show mx_zr h.2 h.1.length z = _; unfold mx_zr; rw [if_neg (by omega)]; exact hσ z hz) (hnew ▸ hP1) (hnew ▸ hD1) hS1 (by rw [hlv]; exact hl) hLn (by simp only [List.length_append, List.length_singleton] at hm1 ⊢; omega) (by rw [mx_sz_app] at hm2 ⊢; simp only [mx_cz] at hm2 ⊢; omega)
    have e1 : (Value.ref h.1.length :: r).map (mx_cv (mx_ad ad h.1.length a)) = .ref a :: r.map (mx_cv ad) := by
      rw [List.map_cons, hst]
      simp [mx_cv, mx_ad]
    rw [e1] at kk
    exact kk
  simp only [Bool.or_eq_true, Bool.and_eq_true, decide_eq_true_eq] at hax
  rcases hax with ⟨⟨rfl, rfl⟩, hw⟩ | ⟨⟨rfl, rfl⟩, hw⟩
  · refine va_newa (atype := .int) (ty := .int) (a0 := (n.toNatClampNeg, .inl (fun _ => 0))) hx hb (hts _ (mx_wW hw rfl)) rfl hK hP hD hS hA (fun _ => rfl) hn0' rfl (by simp only [componentBytes]; omega) (by omega) (by omega) hd (fun a cA H1 hK1 hP1 hD1 hS1 => ?_)
    have e1 : s.vm.findClass ("[" ++ FieldType.int.toString) = some cA := (hK1.2 3 (cA, .int) rfl).2
    have e2 : s.vm.findClass ("[" ++ FieldType.int.toString) = some g.1 := (hK.2 0 (g.1, .int) rfl).2
    have e3 : cA = g.1 := Option.some.inj (e1.symm.trans e2)
    subst e3
    exact key a H1 hP1 hD1 hS1
  · refine va_newa (atype := .boolean) (ty := .boolean) (a0 := (n.toNatClampNeg, .inl (fun _ => 0))) hx hb (hts _ (mx_wW hw rfl)) rfl hK hP hD hS hA (fun _ => rfl) hn0' rfl (by simp only [componentBytes]; omega) (by omega) (by omega) hd (fun a cA H1 hK1 hP1 hD1 hS1 => ?_)
    have e1 : s.vm.findClass ("[" ++ FieldType.boolean.toString) = some cA := (hK1.2 3 (cA, .boolean) rfl).2
    have e2 : s.vm.findClass ("[" ++ FieldType.boolean.toString) = some g.2.1 := (hK.2 1 (g.2.1, .boolean) rfl).2
    have e3 : cA = g.2.1 := Option.some.inj (e1.symm.trans e2)
    subst e3
    exact key a H1 hP1 hD1 hS1
set_option maxHeartbeats 4000000 in
theorem sd_newq {p : Program} {l : Launch} {e : Env} {R : Room} {s : State} {m : MethodId} {args : Array Value} {below : List Frame} {meth : Method} {c : Code} {Q : State → Prop} {A : Nat → Prop} {D : va_G} {g : ClassId × ClassId × ClassId} {q : mx_HD} {ad0 : Nat → Nat} {σ0 : mx_S} {n0 mc ms : Nat} {h2 : mx_H} {d pc ix p1 : Nat} {n : Int32} {L r : List Value} {h : mx_H} (C : mx_T p R s m args meth c A D g q ad0 σ0 mc ms d) (hax : mx_w p1 (.classLink q.1.cls ix "MainsLetters$Station") = true) (hd : decode q.2.1 pc = .ok (.anewarray ix, 3)) (hok : mx_ok1 h.1 L r = true) (hn0' : ¬ n < 0) (hn1 : n.toNatClampNeg < 1000) (hm1 : (h.1 ++ [(Sum.inr (Sum.inr (List.replicate n.toNatClampNeg none)) : mx_C)]).length ≤ h2.1.length) (hm2 : mx_sz (h.1 ++ [(Sum.inr (Sum.inr (List.replicate n.toNatClampNeg none)) : mx_C)]) ≤ mx_sz h2.1) (k : mx_G p l e R s m args below meth c Q A D g q ad0 σ0 n0 mc ms h2 (pc + 3) L (.ref h.1.length :: r) (h.1 ++ [.inr (.inr (List.replicate n.toNatClampNeg none))], mx_zr h.2 h.1.length)) : mx_G p l e R s m args below meth c Q A D g q ad0 σ0 n0 mc ms h2 pc L (.int n :: r) h := by
  obtain ⟨⟨hx, hb, hml, hown, hnm, hts⟩, ⟨hK, hY, hA, hX⟩, hfr, hlo, hmc, hms⟩ := C
  obtain ⟨f1, f2, f3, f4⟩ := mx_ok1_lt hok
  intro ad H locs cells slots ls hag hn0 hlt hσ hP hD hS hl hLn hcc hss
  have hm1' : h.1.length + 1 ≤ h2.1.length := by simpa using hm1
  have hm2' : mx_sz h.1 + n.toNatClampNeg ≤ mx_sz h2.1 := by rw [mx_sz_app] at hm2; simp only [mx_cz, List.length_replicate] at hm2; exact hm2
  refine va_newq hx hb hown (hts _ (mx_wW hax rfl)) hY.2 hK hP hD hS hA hn0' rfl (by omega) (by omega) (by omega) hd (fun a cA H1 hK1 hP1 hD1 hS1 => ?_)
  have e1 : s.vm.findClass ("[" ++ (FieldType.object "MainsLetters$Station").toString) = some cA := (hK1.2 3 (cA, .object "MainsLetters$Station") rfl).2.choose_spec.choose_spec.2.2.2
  have e2 : s.vm.findClass ("[" ++ (FieldType.object "MainsLetters$Station").toString) = some g.2.2 := (hK.2 2 (g.2.2, .object "MainsLetters$Station") rfl).2.choose_spec.choose_spec.2.2.2
  have e3 : cA = g.2.2 := Option.some.inj (e1.symm.trans e2)
  subst e3
  have ef : mx_cE g (mx_ad ad h.1.length a) (.inr (.inr (List.replicate n.toNatClampNeg none))) (fun _ => 0) = .inl (g.2.2, n.toNatClampNeg, .inr (.inr (.inr (.inr (fun _ => none))))) := by
    have e9 : (fun k : Nat => ((List.replicate n.toNatClampNeg (none : Option Nat))[k]?.getD none).map (mx_ad ad h.1.length a)) = (fun _ => none) := by
      funext z
      rw [List.getElem?_replicate]
      by_cases hz : z < n.toNatClampNeg <;> simp [hz]
    simp only [mx_cE, e9, List.length_replicate]
  rw [← ef] at hP1 hD1
  have had : ∀ i, ¬ (h.1.length ≤ i ∧ i < h.1.length + 1) → mx_ad ad h.1.length a i = ad i := fun i hi => by
    unfold mx_ad
    rw [if_neg (fun z => hi (by omega))]
  have hlv := mx_lv_ad (L := L) f2 had
  have hst := mx_st_ad (st := r) f3 had
  have hnew := mx_ws_new (g := g) (ad := ad) (h := h) (a := a) (.inr (.inr (List.replicate n.toNatClampNeg none))) f4 rfl
  have kk := k (mx_ad ad h.1.length a) H1 locs (cells + 1) (slots + n.toNatClampNeg) ls (fun i hi => by have hi2 : ¬ (n0 ≤ i ∧ i < h.1.length + 1) := (by simpa using hi); rw [had i (by omega)]; exact hag i (by omega)) (by simp; omega) (by simp; omega) (fun z hz => by show mx_zr h.2 h.1.length z = _; unfold mx_zr; rw [if_neg (by omega)]; exact hσ z hz) (hnew ▸ hP1) (hnew ▸ hD1) hS1 (by rw [hlv]; exact hl) hLn (by simp only [List.length_append, List.length_singleton] at hm1 ⊢; omega) (by rw [mx_sz_app] at hm2 ⊢; simp only [mx_cz, List.length_replicate] at hm2 ⊢; omega)
  have e1 : (Value.ref h.1.length :: r).map (mx_cv (mx_ad ad h.1.length a)) = .ref a :: r.map (mx_cv ad) := by
    rw [List.map_cons, hst]
    simp [mx_cv, mx_ad]
  rw [e1] at kk
  exact kk
end
section
/-! runs of my machine are runs of the machine of the claim; printed by wip/whole/gen9.py -/
set_option maxHeartbeats 8000000 in
theorem sd_do {p : Program} {l : Launch} {e : Env} {R : Room} {s : State} {m : MethodId} {args : Array Value} {below : List Frame} {meth : Method} {c : Code} {Q : State → Prop} {A : Nat → Prop} {D : va_G} {g : ClassId × ClassId × ClassId} {q : mx_HD} {ad0 : Nat → Nat} {σ0 : mx_S} {n0 mc ms : Nat} {h2 : mx_H} {i : Instr} {len d pc pc' : Nat} {aux : List Nat} {L L' st st' : List Value} {h h' : mx_H} (C : mx_T p R s m args meth c A D g q ad0 σ0 mc ms d) (hdec : decode q.2.1 pc = .ok (i, len)) (hax : mx_ax q.1.cls q.1.name pc i len aux = true) (hh : mx_do i aux q.2.2.2.1 d pc L st h = some (.inl (pc', L', st', h'))) (hm1 : h'.1.length ≤ h2.1.length) (hm2 : mx_sz h'.1 ≤ mx_sz h2.1) (k : mx_G p l e R s m args below meth c Q A D g q ad0 σ0 n0 mc ms h2 pc' L' st' h') : mx_G p l e R s m args below meth c Q A D g q ad0 σ0 n0 mc ms h2 pc L st h := by
  have C0 := C
  obtain ⟨⟨hx, hb, hml, hown, hnm, hts⟩, ⟨hK, hY, hA, hX⟩, hfr, hlo, hmc, hms⟩ := C
  cases i
  case iconst n =>
    have hl1 : len = 1 := of_decide_eq_true hax
    subst hl1
    cases hh
    exact mx_lift (fun ad H locs cells slots ls hl w => lv_iconst hx hb hdec rfl w) k
  case bipush n =>
    have hl1 : len = 2 := of_decide_eq_true hax
    subst hl1
    cases hh
    exact mx_lift (fun ad H locs cells slots ls hl w => lv_bipush hx hb hdec rfl w) k
  case sipush n =>
    have hl1 : len = 3 := of_decide_eq_true hax
    subst hl1
    cases hh
    exact mx_lift (fun ad H locs cells slots ls hl w => lv_sipush hx hb hdec rfl w) k
  case ldc ix =>
    simp only [mx_ax, Bool.and_eq_true, decide_eq_true_eq] at hax
    obtain ⟨rfl, hax⟩ := hax
    simp only [mx_do] at hh
    split at hh
    · cases hh
      exact mx_lift (fun ad H locs cells slots ls hl w => lv_ldc hx hb hown (hts _ (mx_wW hax rfl)) hdec w) k
    · cases hh
  case ldc_w ix =>
    simp only [mx_ax, Bool.and_eq_true, decide_eq_true_eq] at hax
    obtain ⟨rfl, hax⟩ := hax
    simp only [mx_do] at hh
    split at hh
    · cases hh
      exact mx_lift (fun ad H locs cells slots ls hl w => lv_ldcw hx hb hown (hts _ (mx_wW hax rfl)) hdec w) k
    · cases hh
  case iload i =>
    have hl1 : len = 2 := of_decide_eq_true hax
    subst hl1
    obtain ⟨x, e1, e2⟩ := iv_ild hh
    cases e2
    exact mx_lift (fun ad H locs cells slots ls hl w => lv_iload hx hb hdec (mx_ld hl e1 rfl) w) k
  case iload_n i =>
    have hl1 : len = 1 := of_decide_eq_true hax
    subst hl1
    obtain ⟨x, e1, e2⟩ := iv_ild hh
    cases e2
    exact mx_lift (fun ad H locs cells slots ls hl w => lv_iload_n hx hb hdec rfl (mx_ld hl e1 rfl) w) k
  case aload i =>
    have hl1 : len = 2 := of_decide_eq_true hax
    subst hl1
    obtain ⟨x, e1, e2⟩ := iv_ald hh
    cases e2
    exact mx_lift (fun ad H locs cells slots ls hl w => lv_aload hx hb hdec (mx_ld hl e1 rfl) w) k
  case aload_n i =>
    have hl1 : len = 1 := of_decide_eq_true hax
    subst hl1
    obtain ⟨x, e1, e2⟩ := iv_ald hh
    cases e2
    exact mx_lift (fun ad H locs cells slots ls hl w => lv_aload_n hx hb hdec rfl (mx_ld hl e1 rfl) w) k
  case istore i =>
    have hl1 : len = 2 := of_decide_eq_true hax
    subst hl1
    obtain ⟨x, r, rfl, hi, e2⟩ := iv_ist hh
    cases e2
    exact sd_ist C0 hi (Or.inl ⟨hdec, rfl⟩) k
  case istore_n i =>
    have hl1 : len = 1 := of_decide_eq_true hax
    subst hl1
    obtain ⟨x, r, rfl, hi, e2⟩ := iv_ist hh
    cases e2
    exact sd_ist C0 hi (Or.inr ⟨i, rfl, hdec, rfl⟩) k
  case astore i =>
    have hl1 : len = 2 := of_decide_eq_true hax
    subst hl1
    obtain ⟨x, r, rfl, hi, e2⟩ := iv_ast hh
    cases e2
    exact sd_ast C0 hi (Or.inl ⟨hdec, rfl⟩) k
  case astore_n i =>
    have hl1 : len = 1 := of_decide_eq_true hax
    subst hl1
    obtain ⟨x, r, rfl, hi, e2⟩ := iv_ast hh
    cases e2
    exact sd_ast C0 hi (Or.inr ⟨i, rfl, hdec, rfl⟩) k
  case iinc i n =>
    have hl1 : len = 3 := of_decide_eq_true hax
    subst hl1
    obtain ⟨x, e1, e2⟩ := iv_inc hh
    cases e2
    exact sd_inc C0 e1 hdec k
  case iadd =>
    have hl1 : len = 1 := of_decide_eq_true hax
    subst hl1
    obtain ⟨x, y, r, rfl, e2⟩ := iv_bin hh
    cases e2
    exact mx_lift (fun ad H locs cells slots ls hl w => lv_iadd hx hb hdec w) k
  case isub =>
    have hl1 : len = 1 := of_decide_eq_true hax
    subst hl1
    obtain ⟨x, y, r, rfl, e2⟩ := iv_bin hh
    cases e2
    exact mx_lift (fun ad H locs cells slots ls hl w => lv_isub hx hb hdec w) k
  case imul =>
    have hl1 : len = 1 := of_decide_eq_true hax
    subst hl1
    obtain ⟨x, y, r, rfl, e2⟩ := iv_bin hh
    cases e2
    exact mx_lift (fun ad H locs cells slots ls hl w => lv_imul hx hb hdec w) k
  case iand =>
    have hl1 : len = 1 := of_decide_eq_true hax
    subst hl1
    obtain ⟨x, y, r, rfl, e2⟩ := iv_bin hh
    cases e2
    exact mx_lift (fun ad H locs cells slots ls hl w => lv_iand hx hb hdec w) k
  case ior =>
    have hl1 : len = 1 := of_decide_eq_true hax
    subst hl1
    obtain ⟨x, y, r, rfl, e2⟩ := iv_bin hh
    cases e2
    exact mx_lift (fun ad H locs cells slots ls hl w => lv_ior hx hb hdec w) k
  case ixor =>
    have hl1 : len = 1 := of_decide_eq_true hax
    subst hl1
    obtain ⟨x, y, r, rfl, e2⟩ := iv_bin hh
    cases e2
    exact mx_lift (fun ad H locs cells slots ls hl w => lv_ixor hx hb hdec w) k
  case ishl =>
    have hl1 : len = 1 := of_decide_eq_true hax
    subst hl1
    obtain ⟨x, y, r, rfl, e2⟩ := iv_bin hh
    cases e2
    exact mx_lift (fun ad H locs cells slots ls hl w => lv_ishl hx hb hdec w) k
  case ishr =>
    have hl1 : len = 1 := of_decide_eq_true hax
    subst hl1
    obtain ⟨x, y, r, rfl, e2⟩ := iv_bin hh
    cases e2
    exact mx_lift (fun ad H locs cells slots ls hl w => lv_ishr hx hb hdec w) k
  case iushr =>
    have hl1 : len = 1 := of_decide_eq_true hax
    subst hl1
    obtain ⟨x, y, r, rfl, e2⟩ := iv_bin hh
    cases e2
    exact mx_lift (fun ad H locs cells slots ls hl w => lv_iushr hx hb hdec rfl w) k
  case idiv =>
    have hl1 : len = 1 := of_decide_eq_true hax
    subst hl1
    obtain ⟨x, y, r, rfl, hne, e2⟩ := iv_dvd hh
    cases e2
    exact mx_lift (fun ad H locs cells slots ls hl w => lv_idiv hx hb hdec hne w) k
  case irem =>
    have hl1 : len = 1 := of_decide_eq_true hax
    subst hl1
    obtain ⟨x, y, r, rfl, hne, e2⟩ := iv_dvd hh
    cases e2
    exact mx_lift (fun ad H locs cells slots ls hl w => lv_irem hx hb hdec hne w) k
  case goto off =>
    simp only [mx_ax, Bool.and_eq_true, decide_eq_true_eq] at hax
    obtain ⟨rfl, h0⟩ := hax
    cases hh
    exact mx_lift (fun ad H locs cells slots ls hl w => lv_goto hx hb hdec (mx_tgt h0) w) k
  case ifCond cd off =>
    simp only [mx_ax, Bool.and_eq_true, decide_eq_true_eq] at hax
    obtain ⟨rfl, h0⟩ := hax
    obtain ⟨x, r, rfl, e2⟩ := iv_if1 hh
    cases e2
    cases cd
    case eq =>
      exact mx_lift (fun ad H locs cells slots ls hl w => lv_if_eq hx hb hdec (mx_tgt h0) (fun hc => by rw [if_pos (show mx_c1 .eq x = true from decide_eq_true hc)] at w; exact w) (fun hc => by rw [if_neg (show ¬ mx_c1 .eq x = true from fun z => hc (of_decide_eq_true z))] at w; exact w)) k
    case ne =>
      exact mx_lift (fun ad H locs cells slots ls hl w => lv_if_ne hx hb hdec (mx_tgt h0) (fun hc => by rw [if_pos (show mx_c1 .ne x = true from decide_eq_true hc)] at w; exact w) (fun hc => by rw [if_neg (show ¬ mx_c1 .ne x = true from fun z => (of_decide_eq_true z) hc)] at w; exact w)) k
    case lt =>
      exact mx_lift (fun ad H locs cells slots ls hl w => lv_if_lt hx hb hdec (mx_tgt h0) (fun hc => by rw [if_pos (show mx_c1 .lt x = true from decide_eq_true hc)] at w; exact w) (fun hc => by rw [if_neg (show ¬ mx_c1 .lt x = true from fun z => hc (of_decide_eq_true z))] at w; exact w)) k
    case ge =>
      exact mx_lift (fun ad H locs cells slots ls hl w => lv_if_ge hx hb hdec (mx_tgt h0) (fun hc => by rw [if_pos (show mx_c1 .ge x = true from decide_eq_true hc)] at w; exact w) (fun hc => by rw [if_neg (show ¬ mx_c1 .ge x = true from fun z => hc (of_decide_eq_true z))] at w; exact w)) k
    case gt =>
      exact mx_lift (fun ad H locs cells slots ls hl w => lv_if_gt hx hb hdec (mx_tgt h0) (fun hc => by rw [if_pos (show mx_c1 .gt x = true from decide_eq_true hc)] at w; exact w) (fun hc => by rw [if_neg (show ¬ mx_c1 .gt x = true from fun z => hc (of_decide_eq_true z))] at w; exact w)) k
    case le =>
      exact mx_lift (fun ad H locs cells slots ls hl w => lv_if_le hx hb hdec (mx_tgt h0) (fun hc => by rw [if_pos (show mx_c1 .le x = true from decide_eq_true hc)] at w; exact w) (fun hc => by rw [if_neg (show ¬ mx_c1 .le x = true from fun z => hc (of_decide_eq_true z))] at w; exact w)) k
  case if_icmp cd off =>
    simp only [mx_ax, Bool.and_eq_true, decide_eq_true_eq] at hax
    obtain ⟨rfl, h0⟩ := hax
    obtain ⟨x, y, r, rfl, e2⟩ := iv_if2 hh
    cases e2
    cases cd
    case eq =>
      exact mx_lift (fun ad H locs cells slots ls hl w => lv_icmp_eq hx hb hdec (mx_tgt h0) (fun hc => by rw [if_pos (show mx_c2 .eq x y = true from decide_eq_true hc)] at w; exact w) (fun hc => by rw [if_neg (show ¬ mx_c2 .eq x y = true from fun z => hc (of_decide_eq_true z))] at w; exact w)) k
    case ne =>
      exact mx_lift (fun ad H locs cells slots ls hl w => lv_icmp_ne hx hb hdec (mx_tgt h0) (fun hc => by rw [if_pos (show mx_c2 .ne x y = true from decide_eq_true hc)] at w; exact w) (fun hc => by rw [if_neg (show ¬ mx_c2 .ne x y = true from fun z => (of_decide_eq_true z) hc)] at w; exact w)) k
    case lt =>
      exact mx_lift (fun ad H locs cells slots ls hl w => lv_icmp_lt hx hb hdec (mx_tgt h0) (fun hc => by rw [if_pos (show mx_c2 .lt x y = true from decide_eq_true hc)] at w; exact w) (fun hc => by rw [if_neg (show ¬ mx_c2 .lt x y = true from fun z => hc (of_decide_eq_true z))] at w; exact w)) k
    case ge =>
      exact mx_lift (fun ad H locs cells slots ls hl w => lv_icmp_ge hx hb hdec (mx_tgt h0) (fun hc => by rw [if_pos (show mx_c2 .ge x y = true from decide_eq_true hc)] at w; exact w) (fun hc => by rw [if_neg (show ¬ mx_c2 .ge x y = true from fun z => hc (of_decide_eq_true z))] at w; exact w)) k
    case gt =>
      exact mx_lift (fun ad H locs cells slots ls hl w => lv_icmp_gt hx hb hdec (mx_tgt h0) (fun hc => by rw [if_pos (show mx_c2 .gt x y = true from decide_eq_true hc)] at w; exact w) (fun hc => by rw [if_neg (show ¬ mx_c2 .gt x y = true from fun z => hc (of_decide_eq_true z))] at w; exact w)) k
    case le =>
      exact mx_lift (fun ad H locs cells slots ls hl w => lv_icmp_le hx hb hdec (mx_tgt h0) (fun hc => by rw [if_pos (show mx_c2 .le x y = true from decide_eq_true hc)] at w; exact w) (fun hc => by rw [if_neg (show ¬ mx_c2 .le x y = true from fun z => hc (of_decide_eq_true z))] at w; exact w)) k
  case tableswitch dflt lo hi offs =>
    simp only [mx_ax, Bool.and_eq_true, decide_eq_true_eq, List.all_eq_true] at hax
    obtain ⟨x, r, rfl, ⟨hc, e2⟩ | ⟨hc, off, ho, e2⟩⟩ := iv_tsw hh
    · cases e2
      exact mx_lift (fun ad H locs cells slots ls hl w => lv_tableOut hx hb hdec hc (mx_tgt hax.1) w) k
    · cases e2
      have h0 : 0 ≤ (pc : Int) + off := hax.2 off (by rw [← Array.getElem?_toList] at ho; exact List.mem_of_getElem? ho)
      exact mx_lift (fun ad H locs cells slots ls hl w => lv_tableIn hx hb hdec (fun z => hc (Or.inl z)) (fun z => hc (Or.inr z)) ho (mx_tgt h0) w) k
  case getfield ix =>
    obtain ⟨ci, kf, nest, pl, cc, r, v, rfl, rfl, hv, e2⟩ := iv_gf hh
    cases e2
    simp only [mx_ax, Bool.and_eq_true, decide_eq_true_eq] at hax
    obtain ⟨rfl, hax⟩ := hax
    exact sd_gf C0 hax hdec hv k
  case putfield ix =>
    obtain ⟨ci, kf, kind, isB, pl, cc, r, rfl, ⟨x, rfl, hk1, hI, hxB, e2⟩ | ⟨v, sh', rfl, rfl, hI, e2⟩⟩ := iv_pf hh
    · cases e2
      simp only [mx_ax, Bool.and_eq_true, decide_eq_true_eq, if_neg hk1] at hax
      obtain ⟨rfl, hax⟩ := hax
      exact sd_pf C0 hax hdec hI hxB k
    · cases e2
      simp only [mx_ax, Bool.and_eq_true, decide_eq_true_eq, if_neg (show ¬ (1 : Nat) = 2 by decide), if_true] at hax
      obtain ⟨rfl, hax⟩ := hax
      exact sd_pfR C0 hax hdec hI k
  case getstatic ix =>
    simp only [mx_ax, Bool.and_eq_true, decide_eq_true_eq] at hax
    obtain ⟨rfl, hax⟩ := hax
    simp only [mx_do] at hh
    split at hh
    · next kf pl =>
      cases hh
      simp only [Bool.and_eq_true, decide_eq_true_eq] at hax
      obtain ⟨hk3, hw⟩ := hax
      intro ad H locs cells slots ls hag hn0 hlt hσ hP hD hS hl hLn hcc hss
      have kk := k ad H locs cells slots ls hag hn0 hlt hσ hP hD hS hl hLn hcc hss
      have hZ := hX.2 kf hk3
      rw [← hag (1000 + kf) (by omega)] at hZ
      exact va_gets hx hb hZ hS hown (hts _ (mx_wW hw rfl)) (fun _ z => z) hdec kk
    · cases hh
  case iaload =>
    have hl1 : len = 1 := of_decide_eq_true hax
    subst hl1
    obtain ⟨i, cc, r, rfl, hi, e2⟩ := iv_iald hh
    cases e2
    exact sd_iald C0 hi hdec k
  case iastore =>
    have hl1 : len = 1 := of_decide_eq_true hax
    subst hl1
    obtain ⟨x, i, cc, r, rfl, hi, e2⟩ := iv_iast hh
    cases e2
    exact sd_iast C0 hi hdec k
  case baload =>
    have hl1 : len = 1 := of_decide_eq_true hax
    subst hl1
    obtain ⟨i, cc, r, rfl, hi, e2⟩ := iv_zald hh
    cases e2
    exact sd_zald C0 hi hdec k
  case bastore =>
    have hl1 : len = 1 := of_decide_eq_true hax
    subst hl1
    obtain ⟨x, i, cc, r, rfl, hi, hxB, e2⟩ := iv_zast hh
    cases e2
    exact sd_zast C0 hi hxB hdec k
  case aaload =>
    have hl1 : len = 1 := of_decide_eq_true hax
    subst hl1
    obtain ⟨i, cc, r, lq, v, rfl, hq, hi, hv, e2⟩ := iv_aald hh
    cases e2
    exact sd_aald C0 hq hi hv hdec k
  case aastore =>
    have hl1 : len = 1 := of_decide_eq_true hax
    subst hl1
    obtain ⟨i, v, cc, r, lq, fs, rfl, hqv, hq, hi, e2⟩ := iv_aast hh
    cases e2
    exact sd_aast C0 hqv hq hi hdec k
  case arraylength =>
    have hl1 : len = 1 := of_decide_eq_true hax
    subst hl1
    obtain ⟨cc, r, rfl, ⟨z1, z2, e2⟩ | ⟨n, hq, e2⟩⟩ := iv_alen hh
    · cases e2
      exact sd_alen C0 (Or.inl ⟨z1, z2, rfl⟩) hdec k
    · cases e2
      exact sd_alen C0 (Or.inr ⟨n, hq, rfl⟩) hdec k
  case dup =>
    have hl1 : len = 1 := of_decide_eq_true hax
    subst hl1
    obtain ⟨v, r, rfl, e2⟩ := iv_dup hh
    cases e2
    exact mx_lift (fun ad H locs cells slots ls hl w => lv_dup hx hb hdec (mx_cv_cat ad v) w) k
  case dup2 =>
    have hl1 : len = 1 := of_decide_eq_true hax
    subst hl1
    obtain ⟨v, v2, r, rfl, e2⟩ := iv_dup2 hh
    cases e2
    exact mx_lift (fun ad H locs cells slots ls hl w => lv_dup2_11 hx hb hdec (mx_cv_cat ad v) (mx_cv_cat ad v2) w) k
  case pop =>
    have hl1 : len = 1 := of_decide_eq_true hax
    subst hl1
    obtain ⟨v, r, rfl, e2⟩ := iv_pop hh
    cases e2
    exact mx_lift (fun ad H locs cells slots ls hl w => lv_pop hx hb hdec (mx_cv_cat ad v) w) k
  case new ix =>
    obtain ⟨ci, p1, p2, p3, rfl, hok, e2⟩ := iv_new hh
    cases e2
    simp only [mx_ax, Bool.and_eq_true, decide_eq_true_eq] at hax
    obtain ⟨rfl, hax⟩ := hax
    exact sd_new C0 hax hdec hok hm1 hm2 k
  case newarray ty =>
    obtain ⟨t, pl, n, r, rfl, rfl, hok, z1, z2, e2⟩ := iv_newa hh
    cases e2
    have hax2 := Bool.and_eq_true_iff.mp hax
    have hl1 : len = 2 := of_decide_eq_true hax2.1
    subst hl1
    exact sd_newa C0 hax2.2 hdec hok z1 z2 hm1 hm2 k
  case anewarray ix =>
    obtain ⟨n, r, rfl, hok, z1, z2, e2⟩ := iv_newq hh
    cases e2
    have hax2 := Bool.and_eq_true_iff.mp hax
    have hl1 : len = 3 := of_decide_eq_true hax2.1
    subst hl1
    have hax3 := hax2.2
    split at hax3
    · exact sd_newq C0 hax3 hdec hok z1 z2 hm1 hm2 k
    · cases hax3
  case invokestatic ix =>
    rcases iv_cS hh with ⟨k0, dc, n, pl, p2, p3, rfl, h1⟩ | ⟨mm, pl, p2, p3, p4, x, y, r, rfl, rfl, hr8, e2⟩
    · obtain ⟨_, _, _, e2⟩ := iv_cl h1
      cases e2
    · cases e2
      simp only [mx_ax, Bool.and_eq_true, decide_eq_true_eq, Bool.or_eq_true] at hax
      obtain ⟨rfl, hax⟩ := hax
      intro ad H locs cells slots ls hag hn0 hlt hσ hP hD hS hl hLn hcc hss
      have kk := k ad H locs cells slots ls hag hn0 hlt hσ hP hD hS hl hLn hcc hss
      have hcat := mx_cat ad r
      rcases hax with ⟨⟨⟨⟨rfl, w1⟩, w2⟩, w3⟩, w4⟩ | ⟨⟨⟨⟨rfl, w1⟩, w2⟩, w3⟩, w4⟩
      · exact va_mmin hx hb (hml.trans hl.1.symm) hown (hts _ (mx_wW w1 rfl)) (hts _ (mx_wW w2 rfl)) (hts _ (mx_wW w3 rfl)) (hts _ (mx_wW w4 rfl)) (by omega) (by omega) (by omega) (by omega) hdec kk
      · exact va_mmax hx hb (hml.trans hl.1.symm) hown (hts _ (mx_wW w1 rfl)) (hts _ (mx_wW w2 rfl)) (hts _ (mx_wW w3 rfl)) (hts _ (mx_wW w4 rfl)) (by omega) (by omega) (by omega) (by omega) hdec kk
  case invokevirtual ix =>
    obtain ⟨_, _, _, _, _, _, _, _, _, _, h1⟩ := iv_cV hh
    obtain ⟨_, _, _, e2⟩ := iv_cl h1
    cases e2
  case invokespecial ix =>
    rcases iv_cI hh with ⟨_, _, _, _, _, _, _, _, _, h1⟩ | ⟨pl, cc, r, rfl, rfl, hr8, e2⟩
    · obtain ⟨_, _, _, e2⟩ := iv_cl h1
      cases e2
    · cases e2
      have hax2 := Bool.and_eq_true_iff.mp hax
      have hl1 : len = 3 := of_decide_eq_true hax2.1
      subst hl1
      have hw : mx_w pl (.methodLink q.1.cls ix objectInit) = true := hax2.2
      intro ad H locs cells slots ls hag hn0 hlt hσ hP hD hS hl hLn hcc hss
      have kk := k ad H locs cells slots ls hag hn0 hlt hσ hP hD hS hl hLn hcc hss
      have hcat := mx_cat ad st'
      exact W.objInit hx hb hown (hts _ (mx_wW hw rfl)) (hts _ (mx_wW mx_ob0 rfl)) (hts _ (mx_wW mx_ob1 rfl)) rfl (hl.1.trans hml.symm) (rest := st'.map (mx_cv ad)) rfl hdec (by omega) (by show 2 * 0 + _ + 12 ≤ _; omega) kk
  case ireturn =>
    obtain ⟨_, _, _, e2⟩ := iv_iret hh
    cases e2
  case return_ =>
    obtain ⟨_, _, e2⟩ := iv_vret hh
    cases e2
  all_goals exact absurd hh (by simp [mx_do])
end
section
/-! calls, returns, and the whole: a run of my machine is one of the claim's; printed by wip/whole/gen10.py -/
def mx_rm (d mc ms : Nat) : Room := { frames := d + 1, cells := mc, slots := ms, locals := 60 * (d + 1) }
def mx_B (D : va_G) (g : ClassId × ClassId × ClassId) (ad : Nat → Nat) (h : mx_H) (sz : Nat) (U : State) : Prop := U.heap.size = sz ∧ va_P D vwCl (mx_ws g ad h) U.heap ∧ va_K D vwCl (mx_ty g) U ∧ va_D (fun _ => True) (mx_ws g ad h) ∧ mx_X ad h.2 (va_A (mx_ws g ad h) sz) U U.heap ∧ mx_Y U
def mx_E (D : va_G) (g : ClassId × ClassId × ClassId) (ad : Nat → Nat) (h : mx_H) (sz : Nat) (h' : mx_H) (ad' : Nat → Nat) (t : State) : Prop := va_P D vwCl (mx_ws g ad' h') t.heap ∧ va_D (va_A (mx_ws g ad h) sz) (mx_ws g ad' h')
def mx_po (ad : Nat → Nat) (h h' : mx_H) (ad' : Nat → Nat) : Prop := (∀ i, ¬ (h.1.length ≤ i ∧ i < h'.1.length) → ad' i = ad i) ∧ (∀ x, 1000 ≤ x → h'.2 x = h.2 x)
def mx_Q (D : va_G) (g : ClassId × ClassId × ClassId) (ad : Nat → Nat) (h : mx_H) (sz : Nat) (h' : mx_H) (v : Option Value) : Array Value → State → Outcome → State → Prop := match v with
  | some (.int x) => va_Qi (fun r ad' => r = x ∧ mx_po ad h h' ad') (mx_E D g ad h sz h') (va_A (mx_ws g ad h) sz)
  | _ => va_Qv (mx_po ad h h') (mx_E D g ad h sz h') (va_A (mx_ws g ad h) sz)
def mx_ri (v : Option Value) : Instr := match v with
  | none => .return_
  | some _ => .ireturn
theorem mx_do_ret {i : Instr} {aux : List Nat} {rt : Option FieldType} {d pc : Nat} {L st : List Value} {h : mx_H} {v : Option Value} (hh : mx_do i aux rt d pc L st h = some (.inr (.inr v))) : (v = none ∨ ∃ x, v = some (.int x)) ∧ mx_rok rt v ∧ (st = v.toList ∧ i = mx_ri v) := by
  cases i
  case ireturn =>
    obtain ⟨x, rfl, h1, e⟩ := iv_iret hh
    cases e
    exact ⟨Or.inr ⟨x, rfl⟩, h1, rfl, rfl⟩
  case return_ =>
    obtain ⟨rfl, h1, e⟩ := iv_vret hh
    cases e
    exact ⟨Or.inl rfl, h1, rfl, rfl⟩
  case iconst n =>
    cases hh
  case bipush n =>
    cases hh
  case sipush n =>
    cases hh
  case goto off =>
    cases hh
  case ldc ix =>
    simp only [mx_do] at hh
    split at hh <;> cases hh
  case ldc_w ix =>
    simp only [mx_do] at hh
    split at hh <;> cases hh
  case getstatic ix =>
    simp only [mx_do] at hh
    split at hh <;> cases hh
  case iload k =>
    obtain ⟨_, _, e⟩ := iv_ild hh
    cases e
  case iload_n k =>
    obtain ⟨_, _, e⟩ := iv_ild hh
    cases e
  case aload k =>
    obtain ⟨_, _, e⟩ := iv_ald hh
    cases e
  case aload_n k =>
    obtain ⟨_, _, e⟩ := iv_ald hh
    cases e
  case istore k =>
    obtain ⟨_, _, _, _, e⟩ := iv_ist hh
    cases e
  case istore_n k =>
    obtain ⟨_, _, _, _, e⟩ := iv_ist hh
    cases e
  case astore k =>
    obtain ⟨_, _, _, _, e⟩ := iv_ast hh
    cases e
  case astore_n k =>
    obtain ⟨_, _, _, _, e⟩ := iv_ast hh
    cases e
  case iinc k n =>
    obtain ⟨_, _, e⟩ := iv_inc hh
    cases e
  case iadd =>
    obtain ⟨_, _, _, _, e⟩ := iv_bin hh
    cases e
  case isub =>
    obtain ⟨_, _, _, _, e⟩ := iv_bin hh
    cases e
  case imul =>
    obtain ⟨_, _, _, _, e⟩ := iv_bin hh
    cases e
  case iand =>
    obtain ⟨_, _, _, _, e⟩ := iv_bin hh
    cases e
  case ior =>
    obtain ⟨_, _, _, _, e⟩ := iv_bin hh
    cases e
  case ixor =>
    obtain ⟨_, _, _, _, e⟩ := iv_bin hh
    cases e
  case ishl =>
    obtain ⟨_, _, _, _, e⟩ := iv_bin hh
    cases e
  case ishr =>
    obtain ⟨_, _, _, _, e⟩ := iv_bin hh
    cases e
  case iushr =>
    obtain ⟨_, _, _, _, e⟩ := iv_bin hh
    cases e
  case idiv =>
    obtain ⟨_, _, _, _, _, e⟩ := iv_dvd hh
    cases e
  case irem =>
    obtain ⟨_, _, _, _, _, e⟩ := iv_dvd hh
    cases e
  case ifCond c off =>
    obtain ⟨_, _, _, e⟩ := iv_if1 hh
    cases e
  case if_icmp c off =>
    obtain ⟨_, _, _, _, e⟩ := iv_if2 hh
    cases e
  case getfield ix =>
    obtain ⟨_, _, _, _, _, _, _, _, _, _, e⟩ := iv_gf hh
    cases e
  case iaload =>
    obtain ⟨_, _, _, _, _, e⟩ := iv_iald hh
    cases e
  case iastore =>
    obtain ⟨_, _, _, _, _, _, e⟩ := iv_iast hh
    cases e
  case baload =>
    obtain ⟨_, _, _, _, _, e⟩ := iv_zald hh
    cases e
  case bastore =>
    obtain ⟨_, _, _, _, _, _, _, e⟩ := iv_zast hh
    cases e
  case aaload =>
    obtain ⟨_, _, _, _, _, _, _, _, _, e⟩ := iv_aald hh
    cases e
  case aastore =>
    obtain ⟨_, _, _, _, _, _, _, _, _, _, e⟩ := iv_aast hh
    cases e
  case dup =>
    obtain ⟨_, _, _, e⟩ := iv_dup hh
    cases e
  case dup2 =>
    obtain ⟨_, _, _, _, e⟩ := iv_dup2 hh
    cases e
  case pop =>
    obtain ⟨_, _, _, e⟩ := iv_pop hh
    cases e
  case new ix =>
    obtain ⟨_, _, _, _, _, _, e⟩ := iv_new hh
    cases e
  case newarray ty =>
    obtain ⟨_, _, _, _, _, _, _, _, _, e⟩ := iv_newa hh
    cases e
  case anewarray ix =>
    obtain ⟨_, _, _, _, _, _, e⟩ := iv_newq hh
    cases e
  case tableswitch dflt lo hi offs =>
    obtain ⟨_, _, _, ⟨_, e⟩ | ⟨_, _, _, e⟩⟩ := iv_tsw hh <;> cases e
  case putfield ix =>
    obtain ⟨_, _, _, _, _, _, _, _, ⟨_, _, _, _, _, e⟩ | ⟨_, _, _, _, _, e⟩⟩ := iv_pf hh <;> cases e
  case arraylength =>
    obtain ⟨_, _, _, ⟨_, _, e⟩ | ⟨_, _, e⟩⟩ := iv_alen hh <;> cases e
  case invokestatic ix =>
    rcases iv_cS hh with ⟨_, _, _, _, _, _, _, h1⟩ | ⟨_, _, _, _, _, _, _, _, _, _, _, e⟩
    · obtain ⟨_, _, _, e⟩ := iv_cl h1
      cases e
    · cases e
  case invokevirtual ix =>
    obtain ⟨_, _, _, _, _, _, _, _, _, _, h1⟩ := iv_cV hh
    obtain ⟨_, _, _, e⟩ := iv_cl h1
    cases e
  case invokespecial ix =>
    rcases iv_cI hh with ⟨_, _, _, _, _, _, _, _, _, h1⟩ | ⟨_, _, _, _, _, _, e⟩
    · obtain ⟨_, _, _, e⟩ := iv_cl h1
      cases e
    · cases e
  all_goals exact absurd hh (by simp [mx_do])
def mx_iscl (i : Instr) : Bool := match i with
  | .invokestatic _ => true
  | .invokevirtual _ => true
  | .invokespecial _ => true
  | _ => false
theorem mx_do_cl {i : Instr} {aux : List Nat} {rt : Option FieldType} {d pc : Nat} {L st : List Value} {h : mx_H} {z : Nat × Nat × List Value × List Value} (hh : mx_do i aux rt d pc L st h = some (.inr (.inl z))) : mx_iscl i = true := by
  cases i
  case iconst n =>
    cases hh
  case bipush n =>
    cases hh
  case sipush n =>
    cases hh
  case goto off =>
    cases hh
  case ldc ix =>
    simp only [mx_do] at hh
    split at hh <;> cases hh
  case ldc_w ix =>
    simp only [mx_do] at hh
    split at hh <;> cases hh
  case getstatic ix =>
    simp only [mx_do] at hh
    split at hh <;> cases hh
  case iload k =>
    obtain ⟨_, _, e⟩ := iv_ild hh
    cases e
  case iload_n k =>
    obtain ⟨_, _, e⟩ := iv_ild hh
    cases e
  case aload k =>
    obtain ⟨_, _, e⟩ := iv_ald hh
    cases e
  case aload_n k =>
    obtain ⟨_, _, e⟩ := iv_ald hh
    cases e
  case istore k =>
    obtain ⟨_, _, _, _, e⟩ := iv_ist hh
    cases e
  case istore_n k =>
    obtain ⟨_, _, _, _, e⟩ := iv_ist hh
    cases e
  case astore k =>
    obtain ⟨_, _, _, _, e⟩ := iv_ast hh
    cases e
  case astore_n k =>
    obtain ⟨_, _, _, _, e⟩ := iv_ast hh
    cases e
  case iinc k n =>
    obtain ⟨_, _, e⟩ := iv_inc hh
    cases e
  case iadd =>
    obtain ⟨_, _, _, _, e⟩ := iv_bin hh
    cases e
  case isub =>
    obtain ⟨_, _, _, _, e⟩ := iv_bin hh
    cases e
  case imul =>
    obtain ⟨_, _, _, _, e⟩ := iv_bin hh
    cases e
  case iand =>
    obtain ⟨_, _, _, _, e⟩ := iv_bin hh
    cases e
  case ior =>
    obtain ⟨_, _, _, _, e⟩ := iv_bin hh
    cases e
  case ixor =>
    obtain ⟨_, _, _, _, e⟩ := iv_bin hh
    cases e
  case ishl =>
    obtain ⟨_, _, _, _, e⟩ := iv_bin hh
    cases e
  case ishr =>
    obtain ⟨_, _, _, _, e⟩ := iv_bin hh
    cases e
  case iushr =>
    obtain ⟨_, _, _, _, e⟩ := iv_bin hh
    cases e
  case idiv =>
    obtain ⟨_, _, _, _, _, e⟩ := iv_dvd hh
    cases e
  case irem =>
    obtain ⟨_, _, _, _, _, e⟩ := iv_dvd hh
    cases e
  case ifCond c off =>
    obtain ⟨_, _, _, e⟩ := iv_if1 hh
    cases e
  case if_icmp c off =>
    obtain ⟨_, _, _, _, e⟩ := iv_if2 hh
    cases e
  case getfield ix =>
    obtain ⟨_, _, _, _, _, _, _, _, _, _, e⟩ := iv_gf hh
    cases e
  case iaload =>
    obtain ⟨_, _, _, _, _, e⟩ := iv_iald hh
    cases e
  case iastore =>
    obtain ⟨_, _, _, _, _, _, e⟩ := iv_iast hh
    cases e
  case baload =>
    obtain ⟨_, _, _, _, _, e⟩ := iv_zald hh
    cases e
  case bastore =>
    obtain ⟨_, _, _, _, _, _, _, e⟩ := iv_zast hh
    cases e
  case aaload =>
    obtain ⟨_, _, _, _, _, _, _, _, _, e⟩ := iv_aald hh
    cases e
  case aastore =>
    obtain ⟨_, _, _, _, _, _, _, _, _, _, e⟩ := iv_aast hh
    cases e
  case dup =>
    obtain ⟨_, _, _, e⟩ := iv_dup hh
    cases e
  case dup2 =>
    obtain ⟨_, _, _, _, e⟩ := iv_dup2 hh
    cases e
  case pop =>
    obtain ⟨_, _, _, e⟩ := iv_pop hh
    cases e
  case new ix =>
    obtain ⟨_, _, _, _, _, _, e⟩ := iv_new hh
    cases e
  case newarray ty =>
    obtain ⟨_, _, _, _, _, _, _, _, _, e⟩ := iv_newa hh
    cases e
  case anewarray ix =>
    obtain ⟨_, _, _, _, _, _, e⟩ := iv_newq hh
    cases e
  case tableswitch dflt lo hi offs =>
    obtain ⟨_, _, _, ⟨_, e⟩ | ⟨_, _, _, e⟩⟩ := iv_tsw hh <;> cases e
  case putfield ix =>
    obtain ⟨_, _, _, _, _, _, _, _, ⟨_, _, _, _, _, e⟩ | ⟨_, _, _, _, _, e⟩⟩ := iv_pf hh <;> cases e
  case arraylength =>
    obtain ⟨_, _, _, ⟨_, _, e⟩ | ⟨_, _, e⟩⟩ := iv_alen hh <;> cases e
  case ireturn =>
    obtain ⟨_, _, _, e⟩ := iv_iret hh
    cases e
  case return_ =>
    obtain ⟨_, _, e⟩ := iv_vret hh
    cases e
  case invokestatic ix =>
    rfl
  case invokevirtual ix =>
    rfl
  case invokespecial ix =>
    rfl
  all_goals exact absurd hh (by simp [mx_do])
theorem mx_inn0 : mx_hd.all (fun q => decide (q.1.name ≠ "<init>") || decide (q.2.2.2.1 = none)) = true := by decide +kernel
theorem mx_inn {k : Nat} {q : mx_HD} (h : mx_hd[k]? = some q) (hn : q.1.name = "<init>") : q.2.2.2.1 = none := by
  have h1 := List.all_eq_true.mp mx_inn0 q (List.mem_of_getElem? h)
  simp only [Bool.or_eq_true, decide_eq_true_eq] at h1
  exact h1.elim (fun z => absurd hn z) id
def mx_Ret (p : Program) (l : Launch) (e : Env) (R : Room) (s : State) (m : MethodId) (args : Array Value) (below : List Frame) (meth : Method) (c : Code) (Q : State → Prop) (A : Nat → Prop) (D : va_G) (g : ClassId × ClassId × ClassId) (q : mx_HD) (ad0 : Nat → Nat) (σ0 : mx_S) (n0 mc ms : Nat) (h2 : mx_H) (v : Option Value) : Prop := ∀ (pc : Nat) (ls : Array Slot) (ad : Nat → Nat) (H : Heap) (locs : List Loc), decode q.2.1 pc = .ok (mx_ri v, 1) → mx_rok q.2.2.2.1 v → (∀ i, ¬ (n0 ≤ i ∧ i < h2.1.length) → ad i = ad0 i) → (∀ x, 1000 ≤ x → h2.2 x = σ0 x) → va_P D vwCl (mx_ws g ad h2) H → va_D A (mx_ws g ad h2) → va_S A s.heap H locs → W p l e R s m args below meth c H locs mc ms Q (F0 m pc ls ((v.map (mx_cv ad)).toList))
def mx_F (l : Launch) (D : va_G) (g : ClassId × ClassId × ClassId) (n : Nat) : Prop := ∀ (d j pc : Nat) (L st : List Value) (h : mx_H) (v : Option Value) (h2 : mx_H), mx_ev n d j pc L st h = some (v, h2) → ∀ {p : Program} {e : Env} {R : Room} {s : State} {m : MethodId} {args : Array Value} {below : List Frame} {meth : Method} {c : Code} {Q : State → Prop} {A : Nat → Prop} {q : mx_HD} {ad0 : Nat → Nat} {σ0 : mx_S} {n0 mc ms : Nat}, mx_hd[j]? = some q → mx_T p R s m args meth c A D g q ad0 σ0 mc ms d → mx_Ret p l e R s m args below meth c Q A D g q ad0 σ0 n0 mc ms h2 v → mx_G p l e R s m args below meth c Q A D g q ad0 σ0 n0 mc ms h2 pc L st h
end
section
theorem mx_ev_val : ∀ (n d j pc : Nat) (L st : List Value) (h : mx_H) (v : Option Value) (h2 : mx_H), mx_ev n d j pc L st h = some (v, h2) → v = none ∨ ∃ x, v = some (.int x) := by
  intro n
  induction n with
  | zero => intro d j pc L st h v h2 hr; simp [mx_ev] at hr
  | succ n ih =>
    intro d j pc L st h v h2 hr
    rw [mx_ev] at hr
    cases hs : mx_st d j pc L st h with
    | none => rw [hs] at hr; simp at hr
    | some o =>
      rw [hs] at hr
      match o, hr, hs with
      | .inl (pc', L', st', h'), hr, _ => exact ih _ _ _ _ _ _ _ _ hr
      | .inr (.inl (d', k, as, rest)), hr, _ =>
        dsimp only at hr
        cases hc : mx_ev n d' k 0 (mx_en k as) [] h with
        | none => rw [hc] at hr; simp at hr
        | some r =>
          rw [hc] at hr
          obtain ⟨v', h'⟩ := r
          dsimp only at hr
          by_cases hf : mx_fr h.1.length h'.1.length L rest = true
          · rw [if_pos hf] at hr
            exact ih _ _ _ _ _ _ _ _ hr
          · rw [if_neg hf] at hr
            cases hr
      | .inr (.inr w), hr, hs =>
        have hr : some (w, h) = some (v, h2) := hr
        cases hr
        obtain ⟨q, i, len, aux, -, -, hd⟩ := iv_st hs
        obtain ⟨h1, h2⟩ := mx_do_ret hd
        exact h1
theorem mx_en_eq {k : Nat} {q : mx_HD} (hq : mx_hd[k]? = some q) (as : List Value) : mx_en k as = as ++ List.replicate (q.2.2.1 - as.length) .null := by
  unfold mx_en
  rw [hq]
  rfl
set_option maxHeartbeats 4000000 in
theorem mx_met {l : Launch} {D : va_G} {g : ClassId × ClassId × ClassId} {n : Nat} (F : mx_F l D g n) {d k : Nat} {as : List Value} {h : mx_H} {v : Option Value} {h' : mx_H} (he : mx_ev n d k 0 (mx_en k as) [] h = some (v, h')) {q : mx_HD} (hq : mx_hd[k]? = some q) (hy : plainName q.1.cls = true) (hal : as.length ≤ q.2.2.1) (hlt : h.1.length < 1000) (ad : Nat → Nat) (sz : Nat) : Met l q.1 (mx_wl q) (mx_rm d (h'.1.length - h.1.length) (mx_sz h'.1 - mx_sz h.1)) (va_Pc (as.map (mx_cv ad)) (mx_B D g ad h sz)) (mx_Q D g ad h sz h' v) (h'.1.length - h.1.length) (mx_sz h'.1 - mx_sz h.1) (va_A (mx_ws g ad h) sz) := by
  refine Met.ofW (cc := q.2.1) (maxL := q.2.2.1) (ret := q.2.2.2.1) hy rfl ?_
  intro p e s m args below meth c s₁ B hml hv
  obtain ⟨rfl, hsz, hP, hK, hD0, hX, hY⟩ := hv
  have hts' := atoms_spec (ws := mx_wl q) B.pre
  have hts : ∀ w ∈ mx_WS, w.before ((as.map (mx_cv ad)).toArray) s = true := fun w hw => hts' w (List.mem_cons_of_mem _ hw)
  have hlocks := B.notSynchronized
  subst hsz
  have hD := hD0.self (sz := s.heap.size)
  have hS : va_S (va_A (mx_ws g ad h) s.heap.size) s.heap s.heap [] := va_S.rf
  have hRet : mx_Ret p l e (headSpec (mx_wl q) (mx_rm d (h'.1.length - h.1.length) (mx_sz h'.1 - mx_sz h.1))).room s m ((as.map (mx_cv ad)).toArray) below meth c (MQ below (mx_Q D g ad h s.heap.size h' v) ((as.map (mx_cv ad)).toArray) s (h'.1.length - h.1.length) (mx_sz h'.1 - mx_sz h.1) (va_A (mx_ws g ad h) s.heap.size)) (va_A (mx_ws g ad h) s.heap.size) D g q ad h.2 h.1.length (h'.1.length - h.1.length) (mx_sz h'.1 - mx_sz h.1) h' v := by
    intro pc ls ad' H locs hdec hrok hag hσ hP' hD' hS'
    rcases mx_ev_val _ _ _ _ _ _ _ _ _ he with rfl | ⟨x, rfl⟩
    · exact W.vret B.exec B.bytes (B.returns.trans hrok) (fun t ht hW => ⟨⟨ad', rfl, ⟨hag, hσ⟩, by rw [ht]; exact hP', hD'⟩, hS'.F ht⟩) hS'.2.2 hdec
    · rcases hrok with hrok | ⟨hrok, hx01⟩
      · exact W.iret (v := x) B.exec B.bytes (B.returns.trans hrok) (fun t ht hW => ⟨⟨x, ad', rfl, ⟨rfl, hag, hσ⟩, by rw [ht]; exact hP', hD'⟩, hS'.F ht⟩) hS'.2.2 hdec
      · exact W.zret (v := x) B.exec B.bytes (B.returns.trans hrok) (mx_nar hx01).1 (fun t ht hW => ⟨⟨x, ad', rfl, ⟨rfl, hag, hσ⟩, by rw [ht]; exact hP', hD'⟩, hS'.F ht⟩) hS'.2.2 hdec
  have hG := F d k 0 (mx_en k as) [] h v h' he hq ⟨⟨B.exec, B.bytes, hml, findClass_of_methodNamed B.named, (name_of_methodNamed B.named B.method).1, hts⟩, ⟨hK, hY, fun x hx => Or.inr hx, hX⟩, ⟨Nat.le_refl _, Nat.le_refl _, Nat.le_refl _, Nat.le_refl _⟩⟩ hRet
  have hl := lv_entry (as.map (mx_cv ad)) (n := q.2.2.1) (by
    rw [mx_sl _ (fun v hv => by obtain ⟨w, -, rfl⟩ := List.mem_map.mp hv; exact mx_cv_cat ad w)]
    simpa using hal)
  rw [lg_entry_eq]
  rw [mx_en_eq hq] at hG
  exact hG ad s.heap [] 0 0 _ (fun _ _ => rfl) (Nat.le_refl _) hlt (fun _ _ => rfl) hP hD hS (mx_entry hl) (by rw [List.length_append, List.length_replicate]; omega) (Nat.zero_add _) (Nat.zero_add _)
end
section
/-- behind a call -/
theorem sd_back {p : Program} {l : Launch} {e : Env} {R : Room} {s : State} {m : MethodId} {args : Array Value} {below : List Frame} {meth : Method} {c : Code} {Q : State → Prop} {A : Nat → Prop} {D : va_G} {g : ClassId × ClassId × ClassId} {q : mx_HD} {ad0 : Nat → Nat} {σ0 : mx_S} {n0 mc ms : Nat} {h2 : mx_H} {L rest : List Value} {h h' : mx_H} {v : Option Value} {pc : Nat} {a : Array Value} {ad : Nat → Nat} {H : Heap} {locs : List Loc} {cells slots : Nat} {ls : Array Slot} {st1 : List Value} (hv : v = none ∨ ∃ x, v = some (.int x)) (hg : h.1.length ≤ h'.1.length ∧ mx_sz h.1 ≤ mx_sz h'.1 ∧ (h.1.length < 1000 → h'.1.length < 1000)) (hg2 : h'.1.length ≤ h2.1.length ∧ mx_sz h'.1 ≤ mx_sz h2.1) (hf : mx_fr h.1.length h'.1.length L rest = true) (hFc : ∀ x, va_A (mx_ws g ad h) H.size x → A x)
    (hag : ∀ i, ¬ (n0 ≤ i ∧ i < h.1.length) → ad i = ad0 i) (hn0 : n0 ≤ h.1.length) (hlt : h.1.length < 1000) (hσ : ∀ x, 1000 ≤ x → h.2 x = σ0 x) (hS : va_S A s.heap H locs) (hl : lv_has ls q.2.2.1 (mx_lv ad L)) (hLn : L.length = q.2.2.1) (hcc : cells + (h2.1.length - h.1.length) = mc) (hss : slots + (mx_sz h2.1 - mx_sz h.1) = ms)
    (k : mx_G p l e R s m args below meth c Q A D g q ad0 σ0 n0 mc ms h2 (pc + 3) L (v.toList ++ rest) h') (hrun : va_Run p l e R s m args below meth c H locs cells slots (h'.1.length - h.1.length) (mx_sz h'.1 - mx_sz h.1) (F0 m pc ls st1) (rest.map (mx_cv ad)) (mx_Q D g ad h H.size h' v a) (va_A (mx_ws g ad h) H.size)) : W p l e R s m args below meth c H locs cells slots Q (F0 m pc ls st1) := by
  have key : ∀ (ad' : Nat → Nat) (t : State) (H1 : Heap) (locs1 : List Loc), t.heap = H1 → mx_po ad h h' ad' → mx_E D g ad h H.size h' ad' t → va_S A s.heap H1 locs1 → W p l e R s m args below meth c H1 locs1 (cells + (h'.1.length - h.1.length)) (slots + (mx_sz h'.1 - mx_sz h.1)) Q (F0 m (pc + 3) ls ((v.toList ++ rest).map (mx_cv ad'))) ∧ rest.map (mx_cv ad') = rest.map (mx_cv ad) := by
    intro ad' t H1 locs1 ht hpo hE hS1
    have hfr : mx_lv ad' L = mx_lv ad L ∧ rest.map (mx_cv ad') = rest.map (mx_cv ad) := by
      unfold mx_fr at hf
      simp only [Bool.or_eq_true, decide_eq_true_eq, Bool.and_eq_true] at hf
      rcases hf with hf | hf
      · have e : ad' = ad := funext fun i => hpo.1 i (by omega)
        rw [e]
        exact ⟨rfl, rfl⟩
      · exact ⟨mx_lv_ad hf.1 hpo.1, mx_st_ad hf.2 hpo.1⟩
    refine ⟨?_, hfr.2⟩
    exact k ad' H1 locs1 _ _ ls (fun i hi => by
      by_cases hr : h.1.length ≤ i ∧ i < h'.1.length
      · exact absurd ⟨Nat.le_trans hn0 hr.1, hr.2⟩ hi
      · rw [hpo.1 i hr]
        exact hag i (fun z => hi ⟨z.1, Nat.lt_of_lt_of_le z.2 hg.1⟩)) (Nat.le_trans hn0 hg.1) (hg.2.2 hlt) (fun x hx => (hpo.2 x hx).trans (hσ x hx)) (by rw [← ht]; exact hE.1) (hE.2.weaken (fun _ _ _ z => hFc _ z)) hS1 (by rw [hfr.1]; exact hl) hLn (by omega) (by omega)
  rcases hv with rfl | ⟨x, rfl⟩
  · refine va_callv (a := a) hrun hS (fun q _ z => hFc q z) hFc (fun ad' t H1 locs1 ht hvm hpost hB hz1 hk1 hS1 => ?_)
    obtain ⟨w, e⟩ := key ad' t H1 locs1 ht hpost hB hS1
    rw [show (none : Option Value).toList ++ rest = rest from rfl, e] at w
    exact w
  · refine va_calli (a := a) hrun hS (fun q _ z => hFc q z) hFc (fun r ad' t H1 locs1 ht hvm hpost hB hz1 hk1 hS1 => ?_)
    obtain ⟨w, e⟩ := key ad' t H1 locs1 ht hpost.2 hB hS1
    rw [show (some (Value.int x)).toList ++ rest = .int x :: rest from rfl, List.map_cons, e] at w
    rw [hpost.1]
    exact w
theorem mx_mkv {k n : Nat} {f : MethodName → Bool} (h : mx_mk k n f = true) : ∃ q : mx_HD, mx_hd[k]? = some q ∧ mx_w q.2.2.2.2 (.code q.1 q.2.1 q.2.2.1 q.2.2.2.1) = true ∧ (q.1.cls ≠ "java/lang/invoke/MethodHandle" ∧ q.1.cls ≠ "java/lang/invoke/VarHandle" ∧ (parseMethodDescriptor q.1.desc).map (fun d => d.parameters.length) = some n) ∧ q.2.2.1 ≤ 40 ∧ (n + 1 ≤ q.2.2.1 ∨ (n ≤ q.2.2.1 ∧ q.1.name ≠ "<init>")) ∧ plainName q.1.cls = true ∧ f q.1 = true := by
  unfold mx_mk at h
  split at h
  · next y cc maxL rt pl e =>
    simp only [Bool.and_eq_true, decide_eq_true_eq] at h
    obtain ⟨⟨⟨⟨⟨⟨⟨h1, h2⟩, h3⟩, h4⟩, h5⟩, h6⟩, h7⟩, h8⟩ := h
    exact ⟨(y, cc, maxL, rt, pl), e, h1, ⟨h2, h3, h4⟩, h5, h6, h7, h8⟩
  · cases h
theorem mx_gi {q : mx_HD} (h : mx_w q.2.2.2.2 (.code q.1 q.2.1 q.2.2.1 q.2.2.2.1) = true) : GoodIn mx_WS (mx_wl q) := by
  intro w hw
  rcases List.mem_cons.mp hw with rfl | hw
  · exact ⟨mx_wW h rfl, good_of_word rfl⟩
  · exact ⟨hw, good_of_word (List.mem_filter.mp hw).2⟩
theorem mx_gg {w : Cond} (h : w ∈ mx_WS) : w ∈ mx_WS ∧ ((w.onTables && w.keeps) = true ∨ ∃ ty, w = .arrayClass ty) := ⟨h, good_of_word (List.mem_filter.mp h).2⟩
theorem mx_Y.warm {s U : State} (hW : s.WarmedH U.vm) (h : mx_Y s) : mx_Y U := by
  refine ⟨fun w hw hn => ?_, va_AO.moved hW.alike h.2⟩
  have h1 := h.1 w hw hn
  cases w with
  | fieldLinkNest => exact va_Nw.warmF hW h1
  | methodLinkNest => exact va_Nw.warmM hW h1
  | _ => cases hn
theorem mx_X.go {ad : Nat → Nat} {σ : mx_S} {A B : Nat → Prop} {s U : State} {H : Heap} (h : mx_X ad σ A s s.heap) (hk : ∀ a : Nat, a < s.heap.size → ¬ A a → H[a]? = s.heap[a]?) (hBA : ∀ x, B x → A x) (hvm : s.vm.Alike U.vm) : mx_X ad σ B U H :=
  ⟨fun k hk4 => by
    obtain ⟨N, e1, e2, e3⟩ := h.1 k hk4
    exact ⟨N, e1, e2, ((e3.kept hk).narrow hBA).moved hvm⟩, fun k hk3 => (((h.2 k hk3).kept hk).narrow hBA).moved hvm⟩
theorem mx_X.eq {ad ad' : Nat → Nat} {σ σ' : mx_S} {A : Nat → Prop} {U : State} {H : Heap} (h : mx_X ad σ A U H) (ha : ∀ i, 1000 ≤ i → ad' i = ad i) (hs : ∀ x, 1000 ≤ x → σ' x = σ x) : mx_X ad' σ' A U H :=
  ⟨fun k hk4 => by
    obtain ⟨N, e1, e2, e3⟩ := h.1 k hk4
    refine ⟨N, by rw [hs 2000 (by omega)]; exact e1, e2, ?_⟩
    rw [ha _ (by omega), hs _ (by omega)]
    exact e3, fun k hk3 => by rw [ha _ (by omega)]; exact h.2 k hk3⟩
theorem mx_nw_ot {w : Cond} (h : mx_nw w = true) : w.onTables = true := by
  cases w <;> first | rfl | cases h
theorem mx_blind {D : va_G} {g : ClassId × ClassId × ClassId} {ad : Nat → Nat} {h : mx_H} {sz : Nat} {av : List Value} : FrameBlind (va_Pc av (mx_B D g ad h sz)) := by
  intro a U gg mk hq
  obtain ⟨q0, q1, qP, qK, qD, qX, qY⟩ := hq
  exact ⟨q0, q1, qP, va_K.moved (u := U) (U := U.calling gg mk a) (Vm.Alike.refl U.vm) qK, qD, ⟨fun k hk => by
    obtain ⟨N, e1, e2, e3⟩ := qX.1 k hk
    exact ⟨N, e1, e2, e3.moved (u := U) (U := U.calling gg mk a) (Vm.Alike.refl U.vm)⟩, fun k hk => (qX.2 k hk).moved (u := U) (U := U.calling gg mk a) (Vm.Alike.refl U.vm)⟩, ⟨fun w hw hn => by
    have h1 := qY.1 w hw hn
    refine va_Nw.same ?_ (u := U) (U := U.calling gg mk a) rfl h1
    exact mx_nw_ot hn, va_AO.moved (u := U) (U := U.calling gg mk a) (Vm.Alike.refl U.vm) qY.2⟩⟩
theorem mx_pre {p : Program} {R : Room} {s : State} {m : MethodId} {args : Array Value} {meth : Method} {c : Code} {A : Nat → Prop} {D : va_G} {g : ClassId × ClassId × ClassId} {q : mx_HD} {ad0 : Nat → Nat} {σ0 : mx_S} {n0 mc ms : Nat} {h : mx_H} {ad : Nat → Nat} {H : Heap} {locs : List Loc} {d : Nat} {av : List Value} (C : mx_T p R s m args meth c A D g q ad0 σ0 mc ms d) (hag : ∀ i, ¬ (n0 ≤ i ∧ i < h.1.length) → ad i = ad0 i) (hlt : h.1.length < 1000) (hσ : ∀ x, 1000 ≤ x → h.2 x = σ0 x) (hP : va_P D vwCl (mx_ws g ad h) H) (hD : va_D A (mx_ws g ad h)) (hS : va_S A s.heap H locs) : (∀ x, va_A (mx_ws g ad h) H.size x → A x) ∧ ∀ U : State, U.heap = H → s.WarmedH U.vm → va_Pc av (mx_B D g ad h H.size) av.toArray U := by
  obtain ⟨⟨hx, hb, hml, hown, hnm, hts⟩, ⟨hK, hY, hA, hX⟩, hfr, hlo, hmc, hms⟩ := C
  have hFc : ∀ x, va_A (mx_ws g ad h) H.size x → A x := by
    rintro x (⟨k, e, hk⟩ | hx)
    · exact hD.2 k (x, e) hk
    · exact hA x (Nat.le_trans hS.1 hx)
  refine ⟨hFc, fun U hU hW => ⟨rfl, by rw [hU], by rw [hU]; exact hP, va_K.moved hW.alike hK, hD.weaken (fun _ _ _ _ => trivial), ?_, hY.warm hW⟩⟩
  rw [hU]
  exact (hX.eq (fun i hi => hag i (by omega)) hσ).go (fun a h1 h2 => hS.2.1 a h1 h2) hFc hW.alike
end
section
theorem mx_cat8 {m : MethodId} {pc : Nat} {ls : Array Slot} {st1 : List Value} (ad : Nat → Nat) {r : List Value} (h : r.length ≤ 8) : 2 * (F0 m pc ls st1).monitorRoom + ((r.map (mx_cv ad)).map fun v => v.category).sum ≤ 8 := lv_room (by rw [mx_cat]; exact h)
theorem mx_split (ad : Nat → Nat) (st : List Value) (n : Nat) : st.map (mx_cv ad) = (((st.take n).reverse).map (mx_cv ad)).reverse ++ (st.drop n).map (mx_cv ad) := by
  rw [List.map_reverse, List.reverse_reverse, ← List.map_append, List.take_append_drop]
theorem mx_split1 {st : List Value} {n cc : Nat} (h : st[n]? = some (.ref cc)) : (st.take (n + 1)).reverse = .ref cc :: (st.take n).reverse := by
  rw [List.take_succ, h]
  simp
set_option maxHeartbeats 8000000 in
theorem sd_call {p : Program} {l : Launch} {e : Env} {R : Room} {s : State} {m : MethodId} {args : Array Value} {below : List Frame} {meth : Method} {c : Code} {Q : State → Prop} {A : Nat → Prop} {D : va_G} {g : ClassId × ClassId × ClassId} {q : mx_HD} {ad0 : Nat → Nat} {σ0 : mx_S} {n0 mc ms : Nat} {h2 : mx_H} {i : Instr} {len d d' kc pc n : Nat} {aux : List Nat} {L st as rest : List Value} {h h' : mx_H} {v : Option Value} (C : mx_T p R s m args meth c A D g q ad0 σ0 mc ms d) (F : mx_F l D g n) (hdec : decode q.2.1 pc = .ok (i, len)) (hax : mx_ax q.1.cls q.1.name pc i len aux = true) (hh : mx_do i aux q.2.2.2.1 d pc L st h = some (.inr (.inl (d', kc, as, rest)))) (he : mx_ev n d' kc 0 (mx_en kc as) [] h = some (v, h')) (hf : mx_fr h.1.length h'.1.length L rest = true) (hg2 : h'.1.length ≤ h2.1.length ∧ mx_sz h'.1 ≤ mx_sz h2.1) (k : mx_G p l e R s m args below meth c Q A D g q ad0 σ0 n0 mc ms h2 (pc + 3) L (v.toList ++ rest) h') : mx_G p l e R s m args below meth c Q A D g q ad0 σ0 n0 mc ms h2 pc L st h := by
  have C0 := C
  obtain ⟨⟨hx, hb, hml, hown, hnm, hts⟩, ⟨hK, hY, hA, hX⟩, hfr, hlo, hmc, hms⟩ := C
  have hv := mx_ev_val _ _ _ _ _ _ _ _ _ he
  have hg := mx_ev_gr _ _ _ _ _ _ _ _ _ he
  cases i
  case invokestatic ix =>
    rcases iv_cS hh with ⟨k0, dc, na, pl, p2, p3, rfl, h1⟩ | ⟨mm, pl, p2, p3, p4, x, y, r, rfl, rfl, hr8, e2⟩
    · obtain ⟨z1, z2, z3, e2⟩ := iv_cl h1
      cases e2
      have hax2 := Bool.and_eq_true_iff.mp hax
      have hl1 : len = 3 := of_decide_eq_true hax2.1
      subst hl1
      obtain ⟨qk, hqk, wc, hd3, hm40, hna, hpn, hfy⟩ := mx_mkv hax2.2
      simp only [Bool.and_eq_true, decide_eq_true_eq] at hfy
      obtain ⟨⟨⟨w1, w2⟩, w3⟩, w4⟩ := hfy
      intro ad H locs cells slots ls hag hn0 hlt hσ hP hD hS hl hLn hcc hss
      have hal : ((st.take na).reverse).length = na := by rw [List.length_reverse, List.length_take]; omega
      obtain ⟨hFc, hpre⟩ := mx_pre (av := ((st.take na).reverse).map (mx_cv ad)) C0 hag hlt hσ hP hD hS
      have hmet := mx_met (D := D) (g := g) F he hqk hpn (by omega) hlt ad H.size
      have hT : GoodIn mx_WS (va_wsS q.1.cls ix qk.1 (mx_wl qk)) := by
        intro w hw
        rcases List.mem_append.mp hw with hw | hw
        · simp only [List.mem_cons, List.not_mem_nil, or_false] at hw
          rcases hw with rfl | rfl | rfl
          · exact mx_gg (mx_wW w1 rfl)
          · exact mx_gg (mx_wW w2 rfl)
          · exact mx_gg (mx_wW w3 rfl)
        · exact mx_gi wc w hw
      refine sd_back hv hg hg2 hf hFc hag hn0 hlt hσ hS hl hLn hcc hss k (va_runS (As := ((st.take na).reverse).map (mx_cv ad)) ⟨hx, hb, hml, hown, hts⟩ hmet (va_cwS na hts hT rfl rfl rfl hd3 ⟨by show _ + 1 + 1 ≤ _; omega, by show 8 + (_ + 11) + 60 * (_ + 1) ≤ _; omega⟩) ⟨mx_blind, hpre⟩ rfl (by rw [List.length_map]; exact hal) hl.1 (mx_split ad st na) (mx_cat8 ad z3) hdec ⟨by omega, by omega⟩)
    · cases e2
  case invokevirtual ix =>
    obtain ⟨k0, dc, na, pl, p2, p3, p4, ci, rfl, ⟨cc, fs, hst, hq⟩, h1⟩ := iv_cV hh
    obtain ⟨z1, z2, z3, e2⟩ := iv_cl h1
    cases e2
    have hax2 := Bool.and_eq_true_iff.mp hax
    have hl1 : len = 3 := of_decide_eq_true hax2.1
    subst hl1
    obtain ⟨qk, hqk, wc, hd3, hm40, hna, hpn, hfy⟩ := mx_mkv hax2.2
    simp only [Bool.and_eq_true, decide_eq_true_eq] at hfy
    obtain ⟨⟨⟨⟨⟨w1, w2⟩, w3⟩, w4⟩, w5⟩, w6⟩ := hfy
    obtain ⟨CN, T, N, hc, -, hcls⟩ := mx_fkv w5
    have hcls : qk.1.cls = CN := of_decide_eq_true hcls
    have hal1 : na + 1 ≤ qk.2.2.1 := by rw [hqk] at w6; exact w6
    intro ad H locs cells slots ls hag hn0 hlt hσ hP hD hS hl hLn hcc hss
    have hs1 := mx_split1 hst
    rw [hs1] at he
    have hal : ((st.take na).reverse).length = na := by rw [List.length_reverse, List.length_take]; omega
    obtain ⟨hFc, hpre⟩ := mx_pre (av := (Value.ref cc :: (st.take na).reverse).map (mx_cv ad)) C0 hag hlt hσ hP hD hS
    have hmet := mx_met (D := D) (g := g) F he hqk hpn (by rw [List.length_cons]; omega) hlt ad H.size
    have hT : GoodIn mx_WS (wsV q.1.cls ix CN qk.1 (mx_wl qk)) := by
      intro w hw
      rcases List.mem_append.mp hw with hw | hw
      · simp only [List.mem_cons, List.not_mem_nil, or_false] at hw
        rcases hw with rfl | rfl | rfl | rfl
        · exact mx_gg (mx_wW w1 rfl)
        · exact mx_gg (mx_wW w2 rfl)
        · rw [← hcls]; exact mx_gg (mx_wW w3 rfl)
        · rw [← hcls]; exact mx_gg (mx_wW w4 rfl)
      · exact mx_gi wc w hw
    have hstk : st.map (mx_cv ad) = (((st.take na).reverse).map (mx_cv ad)).reverse ++ .ref (ad cc) :: (st.drop (na + 1)).map (mx_cv ad) := by
      rw [mx_split ad st (na + 1), hs1, List.map_cons, List.reverse_cons, List.append_assoc]
      rfl
    refine sd_back hv hg hg2 hf hFc hag hn0 hlt hσ hS hl hLn hcc hss k (va_runV (As := ((st.take na).reverse).map (mx_cv ad)) (b := ad cc) ⟨hx, hb, hml, hown, hts⟩ hmet (cwV na hts hT rfl rfl rfl ⟨hcls, hd3⟩ ⟨by show _ + 1 + 1 ≤ _; omega, by show 8 + (_ + 11) + 60 * (_ + 1) ≤ _; omega⟩) ⟨mx_blind, va_recv hK hP hc (mx_ws_at hq), hpre⟩ rfl (by rw [List.length_map]; exact hal) hl.1 hstk (mx_cat8 ad z3) hdec ⟨by omega, by omega⟩)
  case invokespecial ix =>
    rcases iv_cI hh with ⟨k0, dc, na, pl, p2, p3, nest, rfl, ⟨cc, hst⟩, h1⟩ | ⟨pl, cc, r, rfl, rfl, hr8, e2⟩
    · obtain ⟨z1, z2, z3, e2⟩ := iv_cl h1
      cases e2
      have hax2 := Bool.and_eq_true_iff.mp hax
      have hl1 : len = 3 := of_decide_eq_true hax2.1
      subst hl1
      obtain ⟨qk, hqk, wc, hd3, hm40, hna, hpn, hfy⟩ := mx_mkv hax2.2
      simp only [Bool.and_eq_true, decide_eq_true_eq] at hfy
      obtain ⟨⟨⟨w1, w2⟩, w3⟩, w4⟩ := hfy
      have hal1 : na + 1 ≤ qk.2.2.1 := hna.elim id (fun z => absurd w4 z.2)
      intro ad H locs cells slots ls hag hn0 hlt hσ hP hD hS hl hLn hcc hss
      have hs1 := mx_split1 hst
      rw [hs1] at he
      have hal : ((st.take na).reverse).length = na := by rw [List.length_reverse, List.length_take]; omega
      obtain ⟨hFc, hpre⟩ := mx_pre (av := (Value.ref cc :: (st.take na).reverse).map (mx_cv ad)) C0 hag hlt hσ hP hD hS
      have hmet := mx_met (D := D) (g := g) F he hqk hpn (by rw [List.length_cons]; omega) hlt ad H.size
      have hstk : st.map (mx_cv ad) = (((st.take na).reverse).map (mx_cv ad)).reverse ++ .ref (ad cc) :: (st.drop (na + 1)).map (mx_cv ad) := by
        rw [mx_split ad st (na + 1), hs1, List.map_cons, List.reverse_cons, List.append_assoc]
        rfl
      have hrn : qk.2.2.2.1 = none := mx_inn hqk w4
      have hwl : mx_wl qk = Cond.code qk.1 qk.2.1 qk.2.2.1 none :: mx_WS := by unfold mx_wl; rw [hrn]
      by_cases hne : nest = 0
      · rw [if_pos hne] at w1
        refine sd_back hv hg hg2 hf hFc hag hn0 hlt hσ hS hl hLn hcc hss k (va_runI (As := ((st.take na).reverse).map (mx_cv ad)) (b := ad cc) ⟨hx, hb, hml, hown, hts⟩ hmet (cwI na hts (mx_gi wc) hwl rfl rfl (hts _ (mx_wW w3 rfl)) (hts _ (mx_wW w1 rfl)) (hts _ (mx_wW w2 rfl)) w4 hd3 ⟨by show _ + 1 + 1 ≤ _; omega, by show 8 + (_ + 11) + 60 * (_ + 1) ≤ _; omega⟩) ⟨mx_blind, hpre⟩ rfl (by rw [List.length_map]; exact hal) hl.1 hstk (mx_cat8 ad z3) hdec ⟨by omega, by omega⟩)
      · rw [if_neg hne] at w1
        refine sd_back hv hg hg2 hf hFc hag hn0 hlt hσ hS hl hLn hcc hss k (va_runIN (As := ((st.take na).reverse).map (mx_cv ad)) (b := ad cc) ⟨hx, hb, hml, hown, hts⟩ hmet ⟨va_cnB na hts (mx_gi wc) hwl rfl rfl (hY.1 _ (mx_wm w1) rfl) (hts _ (mx_wW w3 rfl)) hd3 ⟨by show _ + 1 + 1 ≤ _; omega, by show 8 + (_ + 11) + 60 * (_ + 1) ≤ _; omega⟩, w4, hts _ (mx_wW w2 rfl)⟩ ⟨mx_blind, hpre⟩ rfl (by rw [List.length_map]; exact hal) hl.1 hstk (mx_cat8 ad z3) hdec ⟨by omega, by omega⟩)
    · cases e2
  all_goals exact absurd (mx_do_cl hh) (by simp [mx_iscl])
end
section
theorem mx_sound (l : Launch) (D : va_G) (g : ClassId × ClassId × ClassId) : ∀ n, mx_F l D g n := by
  intro n
  induction n with
  | zero => intro d j pc L st h v h2 hr; simp [mx_ev] at hr
  | succ n ih =>
    intro d j pc L st h v h2 hr p e R s m args below meth c Q A q ad0 σ0 n0 mc ms hq C hRet
    rw [mx_ev] at hr
    cases hs : mx_st d j pc L st h with
    | none => rw [hs] at hr; simp at hr
    | some o =>
      rw [hs] at hr
      obtain ⟨q', i, len, aux, hq', hi, hd⟩ := iv_st hs
      cases hq.symm.trans hq'
      have hchk := mx_good hq hi
      obtain ⟨hdec, hax⟩ := Bool.and_eq_true_iff.mp hchk
      have hdec : decode q.2.1 pc = .ok (i, len) := of_decide_eq_true hdec
      have hax : mx_ax q.1.cls q.1.name pc i len aux = true := hax
      match o, hr, hd with
      | .inl (pc', L', st', h'), hr, hd =>
        have hgr := mx_ev_gr _ _ _ _ _ _ _ _ _ hr
        exact sd_do C hdec hax hd hgr.1 hgr.2.1 (ih _ _ _ _ _ _ _ _ hr hq C hRet)
      | .inr (.inl (d', k, as, rest)), hr, hd =>
        dsimp only at hr
        cases hc : mx_ev n d' k 0 (mx_en k as) [] h with
        | none => rw [hc] at hr; simp at hr
        | some r =>
          rw [hc] at hr
          obtain ⟨v', h'⟩ := r
          dsimp only at hr
          by_cases hf : mx_fr h.1.length h'.1.length L rest = true
          · rw [if_pos hf] at hr
            have hgr := mx_ev_gr _ _ _ _ _ _ _ _ _ hr
            exact sd_call C ih hdec hax hd hc hf ⟨hgr.1, hgr.2.1⟩ (ih _ _ _ _ _ _ _ _ hr hq C hRet)
          · rw [if_neg hf] at hr
            cases hr
      | .inr (.inr w), hr, hd =>
        have hr : some (w, h) = some (v, h2) := hr
        cases hr
        obtain ⟨h1, h2, h3⟩ := mx_do_ret hd
        intro ad H locs cells slots ls hag hn0 hlt hσ hP hD hS hl hLn hcc hss
        have e1 : cells = mc := by omega
        have e2 : slots = ms := by omega
        subst e1
        subst e2
        obtain ⟨hst, hri⟩ := h3
        rw [hst]
        have hdec2 : decode q.2.1 pc = .ok (mx_ri v, 1) := by
          rw [hdec, hri]
          congr
          have : len = 1 := by
            rw [hri] at hax
            cases v with
            | none => exact of_decide_eq_true hax
            | some x => exact of_decide_eq_true hax
          rw [this]
        have ew : (v.toList).map (mx_cv ad) = (v.map (mx_cv ad)).toList := by cases v <;> rfl
        rw [ew]
        exact hRet pc ls ad H locs hdec2 h2 hag hσ hP hD hS
end
