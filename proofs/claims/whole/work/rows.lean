section
-- ===== PART A: goes FIRST, ahead of the names: the tables' words, and 'selects' of the private methods out of them =====
/-- a private method of a class that the tables say can be made, by its rows of tables_1 -/
def lw_okq (q : MethodName × Nat) : Prop := (q.1.cls ≠ "java/lang/invoke/MethodHandle" ∧ q.1.cls ≠ "java/lang/invoke/VarHandle") ∧ Cond.instantiable q.1.cls q.2 ∈ tables_1 ∧ Cond.privateMethod q.1 ∈ tables_1 ∧ Cond.instanceMethod q.1 ∈ tables_1
theorem lw_p0 : lw_okq (⟨"DeadlineCalls", "serviceAt", "(I)LDeadlineCalls$Service;"⟩, 7) := ⟨⟨by decide +kernel, by decide +kernel⟩, List.mem_of_getElem? (i := 12) (by decide +kernel), List.mem_of_getElem? (i := 122) (by decide +kernel), List.mem_of_getElem? (i := 123) (by decide +kernel)⟩
theorem lw_p1 : lw_okq (⟨"java/lang/Throwable", "fillInStackTrace", "(I)Ljava/lang/Throwable;"⟩, 6) := ⟨⟨by decide +kernel, by decide +kernel⟩, List.mem_of_getElem? (i := 164) (by decide +kernel), List.mem_of_getElem? (i := 162) (by decide +kernel), List.mem_of_getElem? (i := 163) (by decide +kernel)⟩
theorem lw_p2 : lw_okq (⟨"DeadlineCalls", "isFull", "()Z"⟩, 7) := ⟨⟨by decide +kernel, by decide +kernel⟩, List.mem_of_getElem? (i := 12) (by decide +kernel), List.mem_of_getElem? (i := 256) (by decide +kernel), List.mem_of_getElem? (i := 257) (by decide +kernel)⟩
theorem lw_p3 : lw_okq (⟨"DeadlineCalls", "makeCall", "(LDeadlineCalls$Service;LDeadlineCalls$Call;I)LDeadlineCalls$Call;"⟩, 7) := ⟨⟨by decide +kernel, by decide +kernel⟩, List.mem_of_getElem? (i := 12) (by decide +kernel), List.mem_of_getElem? (i := 261) (by decide +kernel), List.mem_of_getElem? (i := 262) (by decide +kernel)⟩
theorem lw_p4 : lw_okq (⟨"DeadlineCalls", "begin", "(LDeadlineCalls$Call;)V"⟩, 7) := ⟨⟨by decide +kernel, by decide +kernel⟩, List.mem_of_getElem? (i := 12) (by decide +kernel), List.mem_of_getElem? (i := 340) (by decide +kernel), List.mem_of_getElem? (i := 341) (by decide +kernel)⟩
theorem lw_p5 : lw_okq (⟨"DeadlineCalls", "finish", "(LDeadlineCalls$Call;I)I"⟩, 7) := ⟨⟨by decide +kernel, by decide +kernel⟩, List.mem_of_getElem? (i := 12) (by decide +kernel), List.mem_of_getElem? (i := 348) (by decide +kernel), List.mem_of_getElem? (i := 349) (by decide +kernel)⟩
theorem lw_p6 : lw_okq (⟨"DeadlineCalls", "close", "(LDeadlineCalls$Call;I)V"⟩, 7) := ⟨⟨by decide +kernel, by decide +kernel⟩, List.mem_of_getElem? (i := 12) (by decide +kernel), List.mem_of_getElem? (i := 352) (by decide +kernel), List.mem_of_getElem? (i := 353) (by decide +kernel)⟩
theorem lw_p7 : lw_okq (⟨"DeadlineCalls", "startWork", "(LDeadlineCalls$Call;)V"⟩, 7) := ⟨⟨by decide +kernel, by decide +kernel⟩, List.mem_of_getElem? (i := 12) (by decide +kernel), List.mem_of_getElem? (i := 384) (by decide +kernel), List.mem_of_getElem? (i := 385) (by decide +kernel)⟩
theorem lw_p8 : lw_okq (⟨"DeadlineCalls", "callAt", "(I)LDeadlineCalls$Call;"⟩, 7) := ⟨⟨by decide +kernel, by decide +kernel⟩, List.mem_of_getElem? (i := 12) (by decide +kernel), List.mem_of_getElem? (i := 399) (by decide +kernel), List.mem_of_getElem? (i := 400) (by decide +kernel)⟩
theorem lw_p9 : lw_okq (⟨"DeadlineCalls", "cutOffHead", "()V"⟩, 7) := ⟨⟨by decide +kernel, by decide +kernel⟩, List.mem_of_getElem? (i := 12) (by decide +kernel), List.mem_of_getElem? (i := 412) (by decide +kernel), List.mem_of_getElem? (i := 413) (by decide +kernel)⟩
theorem lw_p10 : lw_okq (⟨"DeadlineCalls", "endLate", "()V"⟩, 7) := ⟨⟨by decide +kernel, by decide +kernel⟩, List.mem_of_getElem? (i := 12) (by decide +kernel), List.mem_of_getElem? (i := 416) (by decide +kernel), List.mem_of_getElem? (i := 417) (by decide +kernel)⟩
theorem lw_p11 : lw_okq (⟨"DeadlineCalls", "endWork", "()V"⟩, 7) := ⟨⟨by decide +kernel, by decide +kernel⟩, List.mem_of_getElem? (i := 12) (by decide +kernel), List.mem_of_getElem? (i := 424) (by decide +kernel), List.mem_of_getElem? (i := 425) (by decide +kernel)⟩
theorem lw_p12 : lw_okq (⟨"DeadlineCalls", "askAt", "(LDeadlineCalls$Call;I)V"⟩, 7) := ⟨⟨by decide +kernel, by decide +kernel⟩, List.mem_of_getElem? (i := 12) (by decide +kernel), List.mem_of_getElem? (i := 432) (by decide +kernel), List.mem_of_getElem? (i := 433) (by decide +kernel)⟩
theorem lw_p13 : lw_okq (⟨"DeadlineCalls", "judgeAsking", "()V"⟩, 7) := ⟨⟨by decide +kernel, by decide +kernel⟩, List.mem_of_getElem? (i := 12) (by decide +kernel), List.mem_of_getElem? (i := 445) (by decide +kernel), List.mem_of_getElem? (i := 446) (by decide +kernel)⟩
theorem lw_p14 : lw_okq (⟨"DeadlineCalls", "judge", "(LDeadlineCalls$Call;LDeadlineCalls$Service;)V"⟩, 7) := ⟨⟨by decide +kernel, by decide +kernel⟩, List.mem_of_getElem? (i := 12) (by decide +kernel), List.mem_of_getElem? (i := 449) (by decide +kernel), List.mem_of_getElem? (i := 450) (by decide +kernel)⟩
theorem lw_p15 : lw_okq (⟨"DeadlineCalls", "cancelTries", "(LDeadlineCalls$Call;)V"⟩, 7) := ⟨⟨by decide +kernel, by decide +kernel⟩, List.mem_of_getElem? (i := 12) (by decide +kernel), List.mem_of_getElem? (i := 453) (by decide +kernel), List.mem_of_getElem? (i := 454) (by decide +kernel)⟩
def lw_privs_1 : List (MethodName × Nat) := [(⟨"DeadlineCalls", "serviceAt", "(I)LDeadlineCalls$Service;"⟩, 7), (⟨"java/lang/Throwable", "fillInStackTrace", "(I)Ljava/lang/Throwable;"⟩, 6), (⟨"DeadlineCalls", "isFull", "()Z"⟩, 7), (⟨"DeadlineCalls", "makeCall", "(LDeadlineCalls$Service;LDeadlineCalls$Call;I)LDeadlineCalls$Call;"⟩, 7), (⟨"DeadlineCalls", "begin", "(LDeadlineCalls$Call;)V"⟩, 7), (⟨"DeadlineCalls", "finish", "(LDeadlineCalls$Call;I)I"⟩, 7), (⟨"DeadlineCalls", "close", "(LDeadlineCalls$Call;I)V"⟩, 7), (⟨"DeadlineCalls", "startWork", "(LDeadlineCalls$Call;)V"⟩, 7), (⟨"DeadlineCalls", "callAt", "(I)LDeadlineCalls$Call;"⟩, 7), (⟨"DeadlineCalls", "cutOffHead", "()V"⟩, 7), (⟨"DeadlineCalls", "endLate", "()V"⟩, 7), (⟨"DeadlineCalls", "endWork", "()V"⟩, 7), (⟨"DeadlineCalls", "askAt", "(LDeadlineCalls$Call;I)V"⟩, 7), (⟨"DeadlineCalls", "judgeAsking", "()V"⟩, 7), (⟨"DeadlineCalls", "judge", "(LDeadlineCalls$Call;LDeadlineCalls$Service;)V"⟩, 7), (⟨"DeadlineCalls", "cancelTries", "(LDeadlineCalls$Call;)V"⟩, 7)]
theorem lw_r1 : ∀ q ∈ lw_privs_1, lw_okq q := List.forall_mem_cons.mpr ⟨lw_p0, List.forall_mem_cons.mpr ⟨lw_p1, List.forall_mem_cons.mpr ⟨lw_p2, List.forall_mem_cons.mpr ⟨lw_p3, List.forall_mem_cons.mpr ⟨lw_p4, List.forall_mem_cons.mpr ⟨lw_p5, List.forall_mem_cons.mpr ⟨lw_p6, List.forall_mem_cons.mpr ⟨lw_p7, List.forall_mem_cons.mpr ⟨lw_p8, List.forall_mem_cons.mpr ⟨lw_p9, List.forall_mem_cons.mpr ⟨lw_p10, List.forall_mem_cons.mpr ⟨lw_p11, List.forall_mem_cons.mpr ⟨lw_p12, List.forall_mem_cons.mpr ⟨lw_p13, List.forall_mem_cons.mpr ⟨lw_p14, List.forall_mem_cons.mpr ⟨lw_p15, fun _ h => absurd h List.not_mem_nil⟩⟩⟩⟩⟩⟩⟩⟩⟩⟩⟩⟩⟩⟩⟩⟩
theorem lw_p16 : lw_okq (⟨"DeadlineCalls", "tryAgain", "(LDeadlineCalls$Call;LDeadlineCalls$Service;)V"⟩, 7) := ⟨⟨by decide +kernel, by decide +kernel⟩, List.mem_of_getElem? (i := 12) (by decide +kernel), List.mem_of_getElem? (i := 457) (by decide +kernel), List.mem_of_getElem? (i := 458) (by decide +kernel)⟩
theorem lw_p17 : lw_okq (⟨"DeadlineCalls", "makeTries", "()V"⟩, 7) := ⟨⟨by decide +kernel, by decide +kernel⟩, List.mem_of_getElem? (i := 12) (by decide +kernel), List.mem_of_getElem? (i := 469) (by decide +kernel), List.mem_of_getElem? (i := 470) (by decide +kernel)⟩
theorem lw_p18 : lw_okq (⟨"DeadlineCalls", "makeTry", "(LDeadlineCalls$Call;LDeadlineCalls$Service;)V"⟩, 7) := ⟨⟨by decide +kernel, by decide +kernel⟩, List.mem_of_getElem? (i := 12) (by decide +kernel), List.mem_of_getElem? (i := 473) (by decide +kernel), List.mem_of_getElem? (i := 474) (by decide +kernel)⟩
theorem lw_p19 : lw_okq (⟨"DeadlineCalls", "startQueued", "()V"⟩, 7) := ⟨⟨by decide +kernel, by decide +kernel⟩, List.mem_of_getElem? (i := 12) (by decide +kernel), List.mem_of_getElem? (i := 481) (by decide +kernel), List.mem_of_getElem? (i := 482) (by decide +kernel)⟩
theorem lw_p20 : lw_okq (⟨"DeadlineCalls", "startQueuedOf", "(LDeadlineCalls$Service;)V"⟩, 7) := ⟨⟨by decide +kernel, by decide +kernel⟩, List.mem_of_getElem? (i := 12) (by decide +kernel), List.mem_of_getElem? (i := 486) (by decide +kernel), List.mem_of_getElem? (i := 487) (by decide +kernel)⟩
theorem lw_p21 : lw_okq (⟨"DeadlineCallsModel", "begins", "(III)V"⟩, 28) := ⟨⟨by decide +kernel, by decide +kernel⟩, List.mem_of_getElem? (i := 569) (by decide +kernel), List.mem_of_getElem? (i := 687) (by decide +kernel), List.mem_of_getElem? (i := 688) (by decide +kernel)⟩
theorem lw_p22 : lw_okq (⟨"DeadlineCallsModel", "manyOf", "(II)I"⟩, 28) := ⟨⟨by decide +kernel, by decide +kernel⟩, List.mem_of_getElem? (i := 569) (by decide +kernel), List.mem_of_getElem? (i := 691) (by decide +kernel), List.mem_of_getElem? (i := 692) (by decide +kernel)⟩
theorem lw_p23 : lw_okq (⟨"DeadlineCallsModel", "isOpenNow", "(I)Z"⟩, 28) := ⟨⟨by decide +kernel, by decide +kernel⟩, List.mem_of_getElem? (i := 569) (by decide +kernel), List.mem_of_getElem? (i := 695) (by decide +kernel), List.mem_of_getElem? (i := 696) (by decide +kernel)⟩
theorem lw_p24 : lw_okq (⟨"DeadlineCallsModel", "ends", "(II)I"⟩, 28) := ⟨⟨by decide +kernel, by decide +kernel⟩, List.mem_of_getElem? (i := 569) (by decide +kernel), List.mem_of_getElem? (i := 699) (by decide +kernel), List.mem_of_getElem? (i := 700) (by decide +kernel)⟩
theorem lw_p25 : lw_okq (⟨"DeadlineCallsModel", "isOver", "(I)Z"⟩, 28) := ⟨⟨by decide +kernel, by decide +kernel⟩, List.mem_of_getElem? (i := 569) (by decide +kernel), List.mem_of_getElem? (i := 703) (by decide +kernel), List.mem_of_getElem? (i := 704) (by decide +kernel)⟩
theorem lw_p26 : lw_okq (⟨"DeadlineCallsModel", "works", "(I)V"⟩, 28) := ⟨⟨by decide +kernel, by decide +kernel⟩, List.mem_of_getElem? (i := 569) (by decide +kernel), List.mem_of_getElem? (i := 707) (by decide +kernel), List.mem_of_getElem? (i := 708) (by decide +kernel)⟩
theorem lw_p27 : lw_okq (⟨"DeadlineCallsModel", "isCall", "(I)Z"⟩, 28) := ⟨⟨by decide +kernel, by decide +kernel⟩, List.mem_of_getElem? (i := 569) (by decide +kernel), List.mem_of_getElem? (i := 715) (by decide +kernel), List.mem_of_getElem? (i := 716) (by decide +kernel)⟩
theorem lw_p28 : lw_okq (⟨"DeadlineCallsModel", "rootsOver", "()I"⟩, 28) := ⟨⟨by decide +kernel, by decide +kernel⟩, List.mem_of_getElem? (i := 569) (by decide +kernel), List.mem_of_getElem? (i := 723) (by decide +kernel), List.mem_of_getElem? (i := 724) (by decide +kernel)⟩
theorem lw_p29 : lw_okq (⟨"DeadlineCallsModel", "ticks", "()V"⟩, 28) := ⟨⟨by decide +kernel, by decide +kernel⟩, List.mem_of_getElem? (i := 569) (by decide +kernel), List.mem_of_getElem? (i := 727) (by decide +kernel), List.mem_of_getElem? (i := 728) (by decide +kernel)⟩
theorem lw_p30 : lw_okq (⟨"DeadlineCallsModel", "late", "()V"⟩, 28) := ⟨⟨by decide +kernel, by decide +kernel⟩, List.mem_of_getElem? (i := 569) (by decide +kernel), List.mem_of_getElem? (i := 731) (by decide +kernel), List.mem_of_getElem? (i := 732) (by decide +kernel)⟩
theorem lw_p31 : lw_okq (⟨"DeadlineCallsModel", "counts", "(I)V"⟩, 28) := ⟨⟨by decide +kernel, by decide +kernel⟩, List.mem_of_getElem? (i := 569) (by decide +kernel), List.mem_of_getElem? (i := 735) (by decide +kernel), List.mem_of_getElem? (i := 736) (by decide +kernel)⟩
def lw_privs_2 : List (MethodName × Nat) := [(⟨"DeadlineCalls", "tryAgain", "(LDeadlineCalls$Call;LDeadlineCalls$Service;)V"⟩, 7), (⟨"DeadlineCalls", "makeTries", "()V"⟩, 7), (⟨"DeadlineCalls", "makeTry", "(LDeadlineCalls$Call;LDeadlineCalls$Service;)V"⟩, 7), (⟨"DeadlineCalls", "startQueued", "()V"⟩, 7), (⟨"DeadlineCalls", "startQueuedOf", "(LDeadlineCalls$Service;)V"⟩, 7), (⟨"DeadlineCallsModel", "begins", "(III)V"⟩, 28), (⟨"DeadlineCallsModel", "manyOf", "(II)I"⟩, 28), (⟨"DeadlineCallsModel", "isOpenNow", "(I)Z"⟩, 28), (⟨"DeadlineCallsModel", "ends", "(II)I"⟩, 28), (⟨"DeadlineCallsModel", "isOver", "(I)Z"⟩, 28), (⟨"DeadlineCallsModel", "works", "(I)V"⟩, 28), (⟨"DeadlineCallsModel", "isCall", "(I)Z"⟩, 28), (⟨"DeadlineCallsModel", "rootsOver", "()I"⟩, 28), (⟨"DeadlineCallsModel", "ticks", "()V"⟩, 28), (⟨"DeadlineCallsModel", "late", "()V"⟩, 28), (⟨"DeadlineCallsModel", "counts", "(I)V"⟩, 28)]
theorem lw_r2 : ∀ q ∈ lw_privs_2, lw_okq q := List.forall_mem_cons.mpr ⟨lw_p16, List.forall_mem_cons.mpr ⟨lw_p17, List.forall_mem_cons.mpr ⟨lw_p18, List.forall_mem_cons.mpr ⟨lw_p19, List.forall_mem_cons.mpr ⟨lw_p20, List.forall_mem_cons.mpr ⟨lw_p21, List.forall_mem_cons.mpr ⟨lw_p22, List.forall_mem_cons.mpr ⟨lw_p23, List.forall_mem_cons.mpr ⟨lw_p24, List.forall_mem_cons.mpr ⟨lw_p25, List.forall_mem_cons.mpr ⟨lw_p26, List.forall_mem_cons.mpr ⟨lw_p27, List.forall_mem_cons.mpr ⟨lw_p28, List.forall_mem_cons.mpr ⟨lw_p29, List.forall_mem_cons.mpr ⟨lw_p30, List.forall_mem_cons.mpr ⟨lw_p31, fun _ h => absurd h List.not_mem_nil⟩⟩⟩⟩⟩⟩⟩⟩⟩⟩⟩⟩⟩⟩⟩⟩
theorem lw_p32 : lw_okq (⟨"DeadlineCallsModel", "worksOut", "()V"⟩, 28) := ⟨⟨by decide +kernel, by decide +kernel⟩, List.mem_of_getElem? (i := 569) (by decide +kernel), List.mem_of_getElem? (i := 739) (by decide +kernel), List.mem_of_getElem? (i := 740) (by decide +kernel)⟩
theorem lw_p33 : lw_okq (⟨"DeadlineCallsModel", "startsAsking", "(I)V"⟩, 28) := ⟨⟨by decide +kernel, by decide +kernel⟩, List.mem_of_getElem? (i := 569) (by decide +kernel), List.mem_of_getElem? (i := 743) (by decide +kernel), List.mem_of_getElem? (i := 744) (by decide +kernel)⟩
theorem lw_p34 : lw_okq (⟨"DeadlineCallsModel", "looks", "(I)V"⟩, 28) := ⟨⟨by decide +kernel, by decide +kernel⟩, List.mem_of_getElem? (i := 569) (by decide +kernel), List.mem_of_getElem? (i := 747) (by decide +kernel), List.mem_of_getElem? (i := 748) (by decide +kernel)⟩
theorem lw_p35 : lw_okq (⟨"DeadlineCallsModel", "isTry", "(II)Z"⟩, 28) := ⟨⟨by decide +kernel, by decide +kernel⟩, List.mem_of_getElem? (i := 569) (by decide +kernel), List.mem_of_getElem? (i := 751) (by decide +kernel), List.mem_of_getElem? (i := 752) (by decide +kernel)⟩
theorem lw_p36 : lw_okq (⟨"DeadlineCallsModel", "goesOn", "(I)V"⟩, 28) := ⟨⟨by decide +kernel, by decide +kernel⟩, List.mem_of_getElem? (i := 569) (by decide +kernel), List.mem_of_getElem? (i := 755) (by decide +kernel), List.mem_of_getElem? (i := 756) (by decide +kernel)⟩
theorem lw_p37 : lw_okq (⟨"DeadlineCallsModel", "makesTries", "()V"⟩, 28) := ⟨⟨by decide +kernel, by decide +kernel⟩, List.mem_of_getElem? (i := 569) (by decide +kernel), List.mem_of_getElem? (i := 759) (by decide +kernel), List.mem_of_getElem? (i := 760) (by decide +kernel)⟩
theorem lw_p38 : lw_okq (⟨"DeadlineCallsModel", "takesQueued", "(I)V"⟩, 28) := ⟨⟨by decide +kernel, by decide +kernel⟩, List.mem_of_getElem? (i := 569) (by decide +kernel), List.mem_of_getElem? (i := 763) (by decide +kernel), List.mem_of_getElem? (i := 764) (by decide +kernel)⟩
theorem lw_p39 : lw_okq (⟨"DeadlineCallsModel", "firstQueued", "(I)I"⟩, 28) := ⟨⟨by decide +kernel, by decide +kernel⟩, List.mem_of_getElem? (i := 569) (by decide +kernel), List.mem_of_getElem? (i := 767) (by decide +kernel), List.mem_of_getElem? (i := 768) (by decide +kernel)⟩
theorem lw_p40 : lw_okq (⟨"DeadlineCallsModel", "asksCall", "(I)Z"⟩, 28) := ⟨⟨by decide +kernel, by decide +kernel⟩, List.mem_of_getElem? (i := 569) (by decide +kernel), List.mem_of_getElem? (i := 783) (by decide +kernel), List.mem_of_getElem? (i := 784) (by decide +kernel)⟩
theorem lw_p41 : lw_okq (⟨"DeadlineCallsModel", "isBelow", "(II)Z"⟩, 28) := ⟨⟨by decide +kernel, by decide +kernel⟩, List.mem_of_getElem? (i := 569) (by decide +kernel), List.mem_of_getElem? (i := 807) (by decide +kernel), List.mem_of_getElem? (i := 808) (by decide +kernel)⟩
def lw_privs_3 : List (MethodName × Nat) := [(⟨"DeadlineCallsModel", "worksOut", "()V"⟩, 28), (⟨"DeadlineCallsModel", "startsAsking", "(I)V"⟩, 28), (⟨"DeadlineCallsModel", "looks", "(I)V"⟩, 28), (⟨"DeadlineCallsModel", "isTry", "(II)Z"⟩, 28), (⟨"DeadlineCallsModel", "goesOn", "(I)V"⟩, 28), (⟨"DeadlineCallsModel", "makesTries", "()V"⟩, 28), (⟨"DeadlineCallsModel", "takesQueued", "(I)V"⟩, 28), (⟨"DeadlineCallsModel", "firstQueued", "(I)I"⟩, 28), (⟨"DeadlineCallsModel", "asksCall", "(I)Z"⟩, 28), (⟨"DeadlineCallsModel", "isBelow", "(II)Z"⟩, 28)]
theorem lw_r3 : ∀ q ∈ lw_privs_3, lw_okq q := List.forall_mem_cons.mpr ⟨lw_p32, List.forall_mem_cons.mpr ⟨lw_p33, List.forall_mem_cons.mpr ⟨lw_p34, List.forall_mem_cons.mpr ⟨lw_p35, List.forall_mem_cons.mpr ⟨lw_p36, List.forall_mem_cons.mpr ⟨lw_p37, List.forall_mem_cons.mpr ⟨lw_p38, List.forall_mem_cons.mpr ⟨lw_p39, List.forall_mem_cons.mpr ⟨lw_p40, List.forall_mem_cons.mpr ⟨lw_p41, fun _ h => absurd h List.not_mem_nil⟩⟩⟩⟩⟩⟩⟩⟩⟩⟩
def lw_privs : List (MethodName × Nat) := lw_privs_1 ++ (lw_privs_2 ++ (lw_privs_3))
def lw_tbl : List Cond := k2_sels lw_privs ++ tables_1
theorem lw_privs_ok : ∀ q ∈ lw_privs, lw_okq q := by
  show ∀ q ∈ lw_privs_1 ++ (lw_privs_2 ++ (lw_privs_3)), lw_okq q
  exact List.forall_mem_append.mpr ⟨lw_r1, List.forall_mem_append.mpr ⟨lw_r2, lw_r3⟩⟩
end
section
/-! ===== BEGIN words of one list among another's, by their places ===== -/
theorem goodIn_r {big : List Cond} (ws : List Cond) (ps : List Nat) (hp : ws = ps.filterMap (fun i => big[i]?)) (h : ws.all goodWord = true) : GoodIn big ws := by
  intro w hw
  have h1 := List.all_eq_true.mp h w hw
  rw [hp] at hw
  obtain ⟨i, -, hi⟩ := List.mem_filterMap.mp hw
  have hm : w ∈ big := by first | exact List.mem_of_getElem? hi | exact List.getElem?_mem hi
  exact ⟨hm, good_of_word h1⟩
theorem goodIn_app {big a b : List Cond} (ha : GoodIn big a) (hb : GoodIn big b) : GoodIn big (a ++ b) := fun w h => (List.mem_append.mp h).elim (ha w) (hb w)
theorem goodIn_ca {big a b : List Cond} {c : Cond} (ha : GoodIn big (c :: a)) (hb : GoodIn big b) : GoodIn big (c :: (a ++ b)) := fun w h => (List.mem_cons.mp h).elim (fun e => ha w (List.mem_cons.mpr (Or.inl e))) (fun h => (List.mem_append.mp h).elim (fun h => ha w (List.mem_cons.mpr (Or.inr h))) (hb w))
theorem goodIn_sub {big ws : List Cond} (hm : ∀ w ∈ ws, w ∈ big) (h : ws.all goodWord = true) : GoodIn big ws := fun w hw => ⟨hm w hw, good_of_word (List.all_eq_true.mp h w hw)⟩
/-! ===== END ===== -/

/-! ===== BEGIN exceptions that leave a method, and their catching by the caller (launches without stack traces) ===== -/
section VXA
/-! The laws vx_back, vx_callV, vx_callS, vx_callSW, vx_throw0, vx_throwS follow proofs of the library, with one case more: JvmDerived/Free/Laws.lean (Back.of_free), Shelf42/LK1.lean (callV, callS), Shelf/KitTraced.lean (throwNew0V, throwNewS). -/
/-- where a method has thrown q: the class by its name, the cell, what was written, the world -/
def vx_T (XC : String → State → State → Prop) (st : State) (q : Addr) (t : State) (mc ms : Nat) (free : Addr → Prop) : Prop :=
  ∃ (E : String) (ce : Cell) (L : List Loc), XC E st t ∧ t.heap[q]? = some ce ∧ ce.vm = .none ∧ st.vm.findClass E = some ce.cls ∧ st.WarmedH t.vm ∧ st.sameButNew ({ t with vm := st.vm } : State) L mc ms ∧ ∀ z ∈ L, free z.base
def vx_Q (Qc : Array Value → State → Outcome → State → Prop) (XC : String → State → State → Prop) (mc ms : Nat) (free : Addr → Prop) : Array Value → State → Outcome → State → Prop := fun a st o t =>
  (Qc a st o t ∧ ∃ L, FrameEnd st o t L mc ms ∧ ∀ q ∈ L, free q.base) ∨ ∃ q, o = .threw q ∧ vx_T XC st q t mc ms free
/-- a callee that returns or throws -/
def vx_Met (l : Launch) (y : MethodName) (ws : List Cond) (rm : Room) (Pc : Array Value → State → Prop) (Qc : Array Value → State → Outcome → State → Prop) (XC : String → State → State → Prop) (mc ms : Nat) (free : Addr → Prop) : Prop :=
  MetFree l y (headSpec ws rm) Pc (fun _ _ _ _ _ => True) (vx_Q Qc XC mc ms free)
def vx_Post (XC : String → State → State → Prop) (mc ms : Nat) (free : Addr → Prop) : Pt → Array Value → Addr → Pt → Prop := fun A a q B =>
  ∃ (g : JFrame) (mk : MethodId) (t : State) (L : List Loc) (E : String) (ce : Cell), B.U.heap = t.heap ∧ B.U.vm = t.vm ∧ XC E (A.U.calling g mk a) t ∧ t.heap[q]? = some ce ∧ ce.vm = .none ∧ A.U.vm.findClass E = some ce.cls ∧ B.locs = A.locs ++ L ∧ (∀ z ∈ L, free z.base) ∧ B.cells = A.cells + mc ∧ B.slots = A.slots + ms
def vx_Back (l : Launch) (R : Room) (p : Program) (e : Env) (below : List Frame) (s : State) (sargs : Array Value) (y : MethodName) (len W9 : Nat)
    (Pre : Pt → Array Value → Prop) (Post : Pt → Array Value → Option Value → Pt → Prop) (PostX : Pt → Array Value → Addr → Pt → Prop) : Prop :=
  ∀ (m : MethodId) (meth : Method) (c : Code) (A : Pt) (g : JFrame) (ig : Instr) (mk : MethodId) (a : Array Value),
    Stand p l e R s m sargs below meth c A.U A.locs A.cells A.slots → g.method = m → g.locals.size = c.maxLocals → decode c.code g.pc = .ok (ig, len) →
    2 * g.monitorRoom + (g.stack.map fun v => v.category).sum ≤ W9 → A.U.methodNamed? y = some mk → Pre A a →
    (∃ (v : Option Value) (B : Pt), Stand p l e R s m sargs below meth c B.U B.locs B.cells B.slots ∧ Post A a v B ∧
      Steps p.tables e below (doInvoke e (A.U.setTop g) [] mk a).1 (B.U.setTop { g with pc := g.pc + len, stack := v.toList ++ g.stack })) ∨
    (∃ (q : Addr) (B : Pt), Stand p l e R s m sargs below meth c B.U B.locs B.cells B.slots ∧ PostX A a q B ∧
      Steps p.tables e below (doInvoke e (A.U.setTop g) [] mk a).1 ((B.U.setTop g).pushFrame (.throwing q)))
section Payer
variable {l : Launch} {R : Room} {p : Program} {e : Env} {below : List Frame} {s : State} {sargs : Array Value} {y : MethodName} {len W9 : Nat}
theorem vx_back {ws : List Cond} {rm : Room} {Pc : Array Value → State → Prop} {Qc : Array Value → State → Outcome → State → Prop} {XC : String → State → State → Prop} {mc ms : Nat} {free : Addr → Prop} {bytes : ByteArray} {maxL : Nat} {ret : Option FieldType}
    (hM : vx_Met l y ws rm Pc Qc XC mc ms free) (hblind : FrameBlind Pc) (hrc : rm.cells = mc) (hrs : rm.slots = ms)
    (hframes : rm.frames + 1 ≤ R.frames) (hlocals : W9 + (maxL + 11) + rm.locals ≤ R.locals)
    (hws : ∀ w ∈ ws, ∀ a' U, s.WarmedH U.vm → w.before a' U = true) (hcode : Cond.code y bytes maxL ret ∈ ws) (hinit : ∀ a' U, s.WarmedH U.vm → (Cond.initialized y.cls).before a' U = true) :
    vx_Back l R p e below s sargs y len W9 (PreOf R mc ms Pc) (PostOf Qc mc ms free) (vx_Post XC mc ms free) := by
  intro m meth c A g ig mk a X hg hsize hdg hW hn hp
  have h1 : (headSpec ws rm).pre.before a A.U = true := atoms_intro fun w hw => hws w hw _ _ X.warmed
  have h2 : (Cond.code y bytes maxL ret).before a A.U = true := hws _ hcode _ _ X.warmed
  have h3 : (Cond.initialized y.cls).before a A.U = true := hinit _ _ X.warmed
  have h4 : A.cells + (headSpec ws rm).room.cells ≤ R.cells := by rw [show (headSpec ws rm).room.cells = mc from hrc]; exact hp.1
  have h5 : A.slots + (headSpec ws rm).room.slots ≤ R.slots := by rw [show (headSpec ws rm).room.slots = ms from hrs]; exact hp.2.1
  have hPc : Pc a (A.U.calling g mk a) := hblind _ _ _ _ hp.2.2
  obtain ⟨U, Ls, c0, s0⟩ := A
  dsimp only [Pt.U, Pt.locs, Pt.cells, Pt.slots] at h1 h2 h3 h4 h5 X hn hPc ⊢
  obtain ⟨methY, cY, hmY, hcY, -, hlY, -, -, -, -⟩ := Cond.code_spec hn h2
  obtain ⟨kY, hkY, -⟩ := className_of_methodNamed hn
  have hinitY : kY.init = .initialized := Cond.initialized_spec (findClass_of_methodNamed hn) hkY h3
  have h : At U g.method c below := by rw [hg]; exact X.here
  have hlocals9 : W9 + (maxL + 11) + (headSpec ws rm).room.locals ≤ R.locals := hlocals
  have happ : (headSpec ws rm).appliesLoose y e.platform (U.calling g mk a) = true :=
    Spec.appliesLoose_calling (g := g) h hdg hn hkY hinitY
      (X.room_calling (g := g) (R' := (headSpec ws rm).room) hsize hmY hcY hframes (by rw [hlY]; omega) h4 h5) h1
  obtain ⟨mid, hmid⟩ := h.above
  have hfr : (U.setTop g).frames = (.java g :: mid) ++ below := by rw [State.frames_setTop' g h.top, hmid]; rfl
  obtain ⟨o, s₂, hsteps, -, hend, hq⟩ := Steps.callFree hM p X.admits X.cas X.clock (acts := []) hfr happ hPc trivial
  have hq' : vx_Q Qc XC mc ms free a (U.calling g mk a) o s₂ := hq
  rw [State.frames_setTop' g h.top] at hend
  obtain ⟨g₀, hg0⟩ := Option.isSome_iff_exists.mp h.top
  obtain ⟨r, hr⟩ := State.topJava?_eq_some.mp hg0
  have hr' : (({ U with heap := s₂.heap, slotsUsed := s₂.slotsUsed } : State).setVm s₂.vm).frames = .java g₀ :: r := hr
  rcases hq' with ⟨hqc, L, hfe, hL⟩ | ⟨q, rfl, E, ce, L, hx, hce, hcv, hcl, hW₂, hsm, hL⟩
  · obtain ⟨⟨v, rfl⟩, hW₂, e2, q2, q3, q4, q5, q6⟩ := id hfe
    have e3 : s₂ = ({ (U.calling g mk a).setFrames s₂.frames with heap := s₂.heap, slotsUsed := s₂.slotsUsed } : State).setVm s₂.vm := by
      have : s₂ = ({ s₂ with vm := (U.calling g mk a).vm } : State).setVm s₂.vm := rfl
      rw [e2] at this
      exact this
    obtain ⟨c₂, i₂, len₂, hc₂, hd₂, hf₂⟩ := hend
    have hW' : U.WarmedH s₂.vm := hW₂
    have hcc : c₂ = c := by
      have h1 : s₂.code? g.method = U.code? g.method := by
        rw [State.code?_eq, State.code?_eq, hW'.alike.method?]
      exact Option.some.inj (hc₂.symm.trans (h1.trans h.code))
    subst hcc
    have hlen : len₂ = len := by rw [hdg] at hd₂; cases hd₂; rfl
    subst hlen
    have hs₂ : s₂ = (({ U with heap := s₂.heap, slotsUsed := s₂.slotsUsed } : State).setVm s₂.vm).setTop { g with pc := g.pc + len₂, stack := v.toList ++ g.stack } := by
      refine e3.trans ?_
      rw [hf₂, State.calling_eq h.top, State.setFrames_setFrames, State.setTop_of_frames _ hr', hr]
      rfl
    have hsame : U.sameButNew ({ U with heap := s₂.heap, slotsUsed := s₂.slotsUsed } : State) L mc ms := by
      refine ⟨?_, q2, q3, q4, q5, q6⟩
      obtain ⟨t, ht, -⟩ := State.frames_cons hr
      show ({ U with heap := s₂.heap, slotsUsed := s₂.slotsUsed } : State) = { U.setFrames U.frames with heap := s₂.heap, slotsUsed := s₂.slotsUsed }
      rw [State.setFrames_self ht]
    subst hg
    refine Or.inl ⟨v, ⟨(({ U with heap := s₂.heap, slotsUsed := s₂.slotsUsed } : State).setVm s₂.vm), Ls ++ L, c0 + mc, s0 + ms⟩,
      ⟨X.admits, X.cas, X.clock, X.frames, X.room, X.hears, X.method, X.code, (X.here.setHeapUsed s₂.heap s₂.slotsUsed).setVm hW'.alike, X.tail, State.WarmedH.trans X.warmed hW', X.limits, X.bytes, X.same.trans (hsame.setVm s.vm)⟩,
      ⟨g, mk, s₂, L, rfl, rfl, hqc, rfl, hL, rfl, rfl⟩, ?_⟩
    show Steps p.tables e below _ ((({ U with heap := s₂.heap, slotsUsed := s₂.slotsUsed } : State).setVm s₂.vm).setTop { g with pc := g.pc + len₂, stack := v.toList ++ g.stack })
    rw [← hs₂]
    exact hsteps
  · obtain ⟨e2, q2, q3, q4, q5, q6⟩ := id hsm
    have e3 : s₂ = ({ (U.calling g mk a).setFrames s₂.frames with heap := s₂.heap, slotsUsed := s₂.slotsUsed } : State).setVm s₂.vm := by
      have : s₂ = ({ s₂ with vm := (U.calling g mk a).vm } : State).setVm s₂.vm := rfl
      rw [e2] at this
      exact this
    have hf₂ : s₂.frames = .throwing q :: .java g :: U.frames.tail := hend
    have hW' : U.WarmedH s₂.vm := hW₂
    have hs₂ : s₂ = ((({ U with heap := s₂.heap, slotsUsed := s₂.slotsUsed } : State).setVm s₂.vm).setTop g).pushFrame (.throwing q) := by
      refine e3.trans ?_
      rw [hf₂, State.calling_eq h.top, State.setFrames_setFrames, State.pushFrame, State.frames_setTop _ hr', State.setTop_of_frames _ hr', State.setFrames_setFrames, hr]
      rfl
    have hsame : U.sameButNew ({ U with heap := s₂.heap, slotsUsed := s₂.slotsUsed } : State) L mc ms := by
      refine ⟨?_, q2, q3, q4, q5, q6⟩
      obtain ⟨t, ht, -⟩ := State.frames_cons hr
      show ({ U with heap := s₂.heap, slotsUsed := s₂.slotsUsed } : State) = { U.setFrames U.frames with heap := s₂.heap, slotsUsed := s₂.slotsUsed }
      rw [State.setFrames_self ht]
    subst hg
    refine Or.inr ⟨q, ⟨(({ U with heap := s₂.heap, slotsUsed := s₂.slotsUsed } : State).setVm s₂.vm), Ls ++ L, c0 + mc, s0 + ms⟩,
      ⟨X.admits, X.cas, X.clock, X.frames, X.room, X.hears, X.method, X.code, (X.here.setHeapUsed s₂.heap s₂.slotsUsed).setVm hW'.alike, X.tail, State.WarmedH.trans X.warmed hW', X.limits, X.bytes, X.same.trans (hsame.setVm s.vm)⟩,
      ⟨g, mk, s₂, L, E, ce, rfl, rfl, hx, hce, hcv, hcl, rfl, hL, rfl, rfl⟩, ?_⟩
    show Steps p.tables e below _ (((({ U with heap := s₂.heap, slotsUsed := s₂.slotsUsed } : State).setVm s₂.vm).setTop g).pushFrame (.throwing q))
    rw [← hs₂]
    exact hsteps
end Payer
section Calls
variable {p : Program} {l : Launch} {e : Env} {R : Room} {s : State} {m : MethodId} {args : Array Value} {below : List Frame} {meth : Method} {c : Code} {T : State} {locs : List Loc} {cells slots : Nat}
theorem vx_callV (X : Stand p l e R s m args below meth c T locs cells slots) (hexec : p.tables.exec = Jvm.exec) {own C : String} {index : Nat} {y : MethodName} {bytes : ByteArray} {maxL : Nat} {ret : Option FieldType}
    (hown : s.vm.findClass own = some m.cls) (hlink : (Cond.methodLink own index y).before args s = true) (hinst : (Cond.instanceMethod y).before args s = true) (hsel : (Cond.selects C y y).before args s = true)
    (hcode : (Cond.code y bytes maxL ret).before args s = true) (hy : y.cls ≠ "java/lang/invoke/MethodHandle" ∧ y.cls ≠ "java/lang/invoke/VarHandle")
    {W9 : Nat} {Pre : Pt → Array Value → Prop} {Post : Pt → Array Value → Option Value → Pt → Prop} {PostX : Pt → Array Value → Addr → Pt → Prop} (hK : vx_Back l R p e below s args y 3 W9 Pre Post PostX)
    {b : Addr} {cellB : Cell} (hcell : T.heap[b]? = some cellB) (hobj : cellB.vm.isStatics = false) (hcls : s.vm.findClass C = some cellB.cls)
    {g : JFrame} (hg : g.method = m) (hsize : g.locals.size = c.maxLocals) {argsL rest : List Value} (hlen : ∀ sig, parseMethodDescriptor y.desc = some sig → argsL.length = sig.parameters.length)
    (hstack : g.stack = argsL.reverse ++ .ref b :: rest) (hW : 2 * g.monitorRoom + (rest.map fun v => v.category).sum ≤ W9) (hdg : decode c.code g.pc = .ok (.invokevirtual index, 3))
    (hpre : ∀ vm₁, s.WarmedH vm₁ → Pre ⟨T.setVm vm₁, locs, cells, slots⟩ (Value.ref b :: argsL).toArray) :
    (∃ (v : Option Value) (vm₁ : Vm) (B : Pt), s.WarmedH vm₁ ∧ Stand p l e R s m args below meth c B.U B.locs B.cells B.slots ∧ Post ⟨T.setVm vm₁, locs, cells, slots⟩ (Value.ref b :: argsL).toArray v B ∧
      ∀ target, Steps p.tables e below (B.U.setTop { g with pc := g.pc + 3, stack := v.toList ++ rest }) target → Steps p.tables e below (T.setTop g) target) ∨
    (∃ (q : Addr) (vm₁ : Vm) (B : Pt), s.WarmedH vm₁ ∧ Stand p l e R s m args below meth c B.U B.locs B.cells B.slots ∧ PostX ⟨T.setVm vm₁, locs, cells, slots⟩ (Value.ref b :: argsL).toArray q B ∧
      Steps p.tables e below (T.setTop g) ((B.U.setTop { g with stack := rest }).pushFrame (.throwing q))) := by
  obtain ⟨mk, methM, hnamed, hmethM, hstM, habM⟩ := Cond.instanceMethod_spec hinst
  obtain ⟨methM', cM, hmethM', -, -, -, -, -, -, hsigM⟩ := Cond.code_spec hnamed hcode
  cases hmethM.symm.trans hmethM'
  obtain ⟨c2, r2, m2, q1, q2, q3, q4, kP, hkP, hkPi⟩ := Cond.selects_spec hsel
  cases hcls.symm.trans q1
  cases (State.methodFound?_of_named hnamed hy).symm.trans q2
  cases hnamed.symm.trans q3
  have hselP : selectMethod e.platform s.vm cellB.cls mk = .method mk := by rw [Launch.admits_selectMethod X.admits]; exact q4
  obtain ⟨vm₁, X₁, hstep₁⟩ := X.invokevirtual hexec hown hlink hnamed hmethM hstM hkP hkPi hy (a := b) (cell := cellB) hcell
    (fun z h => by rw [h] at hobj; cases hobj) hselP hmethM habM hkP hkPi (g := g) hg (argsL := argsL) (rest := rest) (hlen _ hsigM) hstack hdg
  rcases hK m meth c ⟨T.setVm vm₁, locs, cells, slots⟩ { g with stack := rest } (.invokevirtual index) mk (Value.ref b :: argsL).toArray X₁ hg hsize hdg hW (X₁.named hnamed) (hpre vm₁ X₁.warmed) with ⟨v, B, X', hpost, hsteps⟩ | ⟨q, B, X', hpost, hsteps⟩
  · exact Or.inl ⟨v, vm₁, B, X₁.warmed, X', hpost, fun target h => hstep₁ _ fun acts => by rw [doInvoke_state]; exact hsteps.trans h⟩
  · exact Or.inr ⟨q, vm₁, B, X₁.warmed, X', hpost, hstep₁ _ fun acts => by rw [doInvoke_state]; exact hsteps⟩
theorem vx_callS (X : Stand p l e R s m args below meth c T locs cells slots) (hexec : p.tables.exec = Jvm.exec) {own : String} {index : Nat} {y : MethodName} {bytes : ByteArray} {maxL : Nat} {ret : Option FieldType}
    (hown : s.vm.findClass own = some m.cls) (hlink : (Cond.methodLink own index y).before args s = true) (hstat : (Cond.static y).before args s = true) (hinit : (Cond.initialized y.cls).before args s = true)
    (hcode : (Cond.code y bytes maxL ret).before args s = true) (hy : y.cls ≠ "java/lang/invoke/MethodHandle" ∧ y.cls ≠ "java/lang/invoke/VarHandle")
    {W9 : Nat} {Pre : Pt → Array Value → Prop} {Post : Pt → Array Value → Option Value → Pt → Prop} {PostX : Pt → Array Value → Addr → Pt → Prop} (hK : vx_Back l R p e below s args y 3 W9 Pre Post PostX)
    {g : JFrame} (hg : g.method = m) (hsize : g.locals.size = c.maxLocals) {argsL rest : List Value} (hlen : ∀ sig, parseMethodDescriptor y.desc = some sig → argsL.length = sig.parameters.length)
    (hstack : g.stack = argsL.reverse ++ rest) (hW : 2 * g.monitorRoom + (rest.map fun v => v.category).sum ≤ W9) (hdg : decode c.code g.pc = .ok (.invokestatic index, 3))
    (hpre : ∀ vm₁, s.WarmedH vm₁ → Pre ⟨T.setVm vm₁, locs, cells, slots⟩ argsL.toArray) :
    (∃ (v : Option Value) (vm₁ : Vm) (B : Pt), s.WarmedH vm₁ ∧ Stand p l e R s m args below meth c B.U B.locs B.cells B.slots ∧ Post ⟨T.setVm vm₁, locs, cells, slots⟩ argsL.toArray v B ∧
      ∀ target, Steps p.tables e below (B.U.setTop { g with pc := g.pc + 3, stack := v.toList ++ rest }) target → Steps p.tables e below (T.setTop g) target) ∨
    (∃ (q : Addr) (vm₁ : Vm) (B : Pt), s.WarmedH vm₁ ∧ Stand p l e R s m args below meth c B.U B.locs B.cells B.slots ∧ PostX ⟨T.setVm vm₁, locs, cells, slots⟩ argsL.toArray q B ∧
      Steps p.tables e below (T.setTop g) ((B.U.setTop { g with stack := rest }).pushFrame (.throwing q))) := by
  obtain ⟨mk, hnamed⟩ := Cond.code_named hcode
  obtain ⟨methM, cM, hmethM, -, -, -, -, -, -, hsigM⟩ := Cond.code_spec hnamed hcode
  have hstatic : methM.isStatic = true := Cond.static_spec hnamed hmethM hstat
  obtain ⟨kP, hkP, -⟩ := className_of_methodNamed hnamed
  have hinitP : kP.init = .initialized := Cond.initialized_spec (findClass_of_methodNamed hnamed) hkP hinit
  obtain ⟨vm₁, X₁, hstep₁⟩ := X.invokestatic hexec hown hlink hnamed hmethM hstatic hkP hinitP hy (g := g) hg (argsL := argsL) (rest := rest) (hlen _ hsigM) hstack hdg
  rcases hK m meth c ⟨T.setVm vm₁, locs, cells, slots⟩ { g with stack := rest } (.invokestatic index) mk argsL.toArray X₁ hg hsize hdg hW (X₁.named hnamed) (hpre vm₁ X₁.warmed) with ⟨v, B, X', hpost, hsteps⟩ | ⟨q, B, X', hpost, hsteps⟩
  · exact Or.inl ⟨v, vm₁, B, X₁.warmed, X', hpost, fun target h => hstep₁ _ fun acts => by rw [doInvoke_state]; exact hsteps.trans h⟩
  · exact Or.inr ⟨q, vm₁, B, X₁.warmed, X', hpost, hstep₁ _ fun acts => by rw [doInvoke_state]; exact hsteps⟩
end Calls
theorem vx_cls {s : State} {T : State} {vm₁ : Vm} {E : String} {k : ClassId} (hW : s.WarmedH vm₁) (h : (T.setVm vm₁).vm.findClass E = some k) : s.vm.findClass E = some k := by
  have h1 : vm₁.findClass E = some k := h
  rw [hW.alike.findClass] at h1
  exact h1
/-- the method's frame g, with q thrown over it -/
def vx_W (p : Program) (l : Launch) (e : Env) (R : Room) (s : State) (m : MethodId) (args : Array Value) (below : List Frame) (meth : Method) (c : Code) (H : Heap) (locs : List Loc) (cells slots : Nat) (Q : State → Prop) (g : JFrame) (q : Addr) : Prop :=
  ∀ T : State, T.heap = H → Stand p l e R s m args below meth c T locs cells slots → ∃ t, Steps p.tables e below ((T.setTop g).pushFrame (.throwing q)) t ∧ Q t
def vx_Run (p : Program) (l : Launch) (e : Env) (R : Room) (s : State) (m : MethodId) (args : Array Value) (below : List Frame) (meth : Method) (c : Code) (H : Heap) (locs : List Loc) (cells slots mc ms : Nat) (g : JFrame) (rest : List Value) (Qa : State → Outcome → State → Prop) (XC : String → State → State → Prop) (free : Addr → Prop) : Prop :=
  ∀ T : State, T.heap = H → Stand p l e R s m args below meth c T locs cells slots →
    (∃ (v : Option Value) (st₀ t T' : State) (L : List Loc), st₀.heap = H ∧ Stand p l e R s m args below meth c T' (locs ++ L) (cells + mc) (slots + ms) ∧ (∀ q ∈ L, free q.base) ∧ T'.heap = t.heap ∧ T'.vm = t.vm ∧ Qa st₀ (.returned v) t ∧
      Goes p e below T g T' { g with pc := g.pc + 3, stack := v.toList ++ rest }) ∨
    (∃ (q : Addr) (st₀ t T' : State) (L : List Loc) (E : String) (ce : Cell), st₀.heap = H ∧ Stand p l e R s m args below meth c T' (locs ++ L) (cells + mc) (slots + ms) ∧ (∀ z ∈ L, free z.base) ∧ T'.heap = t.heap ∧ T'.vm = t.vm ∧ XC E st₀ t ∧ t.heap[q]? = some ce ∧ ce.vm = .none ∧ s.vm.findClass E = some ce.cls ∧
      Steps p.tables e below (T.setTop g) ((T'.setTop { g with stack := rest }).pushFrame (.throwing q)))
def vx_X {S : Type} (px : S → Prop) (B : String → S → State → Prop) (A : Nat → Prop) : String → State → State → Prop := fun E st t => ∃ u : S, px u ∧ B E u t ∧ va_F A st t
section Runs
variable {p : Program} {l : Launch} {e : Env} {R : Room} {s : State} {m : MethodId} {args : Array Value} {below : List Frame} {meth : Method} {c : Code} {H : Heap} {locs : List Loc} {cells slots : Nat}
variable {y : MethodName} {bytes cc : ByteArray} {maxL nL mc ms n index : Nat} {ret : Option FieldType} {ws : List Cond} {rm : Room} {Pc : Array Value → State → Prop} {Qc : Array Value → State → Outcome → State → Prop} {XC : String → State → State → Prop} {free : Addr → Prop} {Ts : List Cond} {own C : String} {b : Addr} {As rest : List Value} {g : JFrame}
theorem vx_callBack (cb : CallB R s args own index y bytes maxL ret ws rm mc ms n) (hM : vx_Met l y ws rm Pc Qc XC mc ms free) (hbl : FrameBlind Pc) : vx_Back l R p e below s args y 3 8 (PreOf R mc ms Pc) (PostOf Qc mc ms free) (vx_Post XC mc ms free) := by
  obtain ⟨hrc, hrs, hfr, hlo, hws, hcw, -, hini, -⟩ := cb
  exact vx_back (bytes := bytes) (maxL := maxL) (ret := ret) hM hbl hrc hrs hfr hlo hws hcw (fun a' U hW => word_at hW (Or.inl (by first | rfl | simp [Cond.onTables, Cond.keeps, Cond.steady])) hini)
theorem vx_runV (S : CallFix p m c cc nL s args Ts own) (hM : vx_Met l y ws rm Pc Qc XC mc ms free) (cw : CallW R s args own C index y bytes maxL ret ws rm mc ms n) (hp : PreV s H C b Pc As)
    (hg : g.method = m) (hn : As.length = n) (hsize : g.locals.size = nL) (hstack : g.stack = As.reverse ++ .ref b :: rest) (hW : 2 * g.monitorRoom + (rest.map fun v => v.category).sum ≤ 8) (hdg : decode cc g.pc = .ok (.invokevirtual index, 3)) (hf : cells + mc ≤ R.cells ∧ slots + ms ≤ R.slots) :
    vx_Run p l e R s m args below meth c H locs cells slots mc ms g rest (Qc (Value.ref b :: As).toArray) XC free := by
  have hK : vx_Back l R p e below s args y 3 8 (PreOf R mc ms Pc) (PostOf Qc mc ms free) (vx_Post XC mc ms free) := vx_callBack cw.1 hM hp.1
  obtain ⟨⟨-, -, -, -, -, -, hcode, -, hy, hlen, hl⟩, hin, hse⟩ := cw
  obtain ⟨hx, hb, hml, ho, -⟩ := S
  obtain ⟨-, ⟨cellB, hcB, hoB, hclB⟩, hPc⟩ := hp
  intro T hT X
  rcases vx_callV X hx (C := C) (bytes := bytes) (maxL := maxL) (ret := ret) ho hl hin hse hcode hy hK (by rw [hT]; exact hcB) hoB hclB hg (hsize.trans hml.symm) (argsL := As) (rest := rest) (fun sig h => hn.trans (hlen sig h)) hstack hW (by rw [hb]; exact hdg)
    (fun vm₁ hW₁ => ⟨hf.1, hf.2, hPc (T.setVm vm₁) hT hW₁⟩) with ⟨v, vm₁, ⟨U', l2, c2, s2⟩, hW₁, X', ⟨g', mk, t, L, e1, e2, hq, h1, hL, h2, h3⟩, st⟩ | ⟨q, vm₁, ⟨U', l2, c2, s2⟩, hW₁, X', ⟨g', mk, t, L, E, ce, e1, e2, hq, hce, hcv, hcl, h1, hL, h2, h3⟩, st⟩
  · dsimp only [Pt.U, Pt.locs, Pt.cells, Pt.slots] at X' e1 e2 h1 h2 h3 st
    subst h1; subst h2; subst h3
    exact Or.inl ⟨v, (T.setVm vm₁).calling g' mk (Value.ref b :: As).toArray, t, U', L, hT, X', hL, e1, e2, hq, st⟩
  · dsimp only [Pt.U, Pt.locs, Pt.cells, Pt.slots] at X' e1 e2 h1 h2 h3 st hcl
    subst h1; subst h2; subst h3
    exact Or.inr ⟨q, (T.setVm vm₁).calling g' mk (Value.ref b :: As).toArray, t, U', L, E, ce, hT, X', hL, e1, e2, hq, hce, hcv, vx_cls hW₁ hcl, st⟩
theorem vx_runS (S : CallFix p m c cc nL s args Ts own) (hM : vx_Met l y ws rm Pc Qc XC mc ms free) (cw : CallB R s args own index y bytes maxL ret ws rm mc ms n ∧ (Cond.static y).before args s = true) (hp : PreS s H Pc As)
    (hg : g.method = m) (hn : As.length = n) (hsize : g.locals.size = nL) (hstack : g.stack = As.reverse ++ rest) (hW : 2 * g.monitorRoom + (rest.map fun v => v.category).sum ≤ 8) (hdg : decode cc g.pc = .ok (.invokestatic index, 3)) (hf : cells + mc ≤ R.cells ∧ slots + ms ≤ R.slots) :
    vx_Run p l e R s m args below meth c H locs cells slots mc ms g rest (Qc As.toArray) XC free := by
  have hK : vx_Back l R p e below s args y 3 8 (PreOf R mc ms Pc) (PostOf Qc mc ms free) (vx_Post XC mc ms free) := vx_callBack cw.1 hM hp.1
  obtain ⟨⟨-, -, -, -, -, -, hcode, hini, hy, hlen, hl⟩, hstt⟩ := cw
  obtain ⟨hx, hb, hml, ho, -⟩ := S
  intro T hT X
  rcases vx_callS X hx (bytes := bytes) (maxL := maxL) (ret := ret) ho hl hstt hini hcode hy hK hg (hsize.trans hml.symm) (argsL := As) (rest := rest) (fun sig h => hn.trans (hlen sig h)) hstack hW (by rw [hb]; exact hdg)
    (fun vm₁ hW₁ => ⟨hf.1, hf.2, hp.2 (T.setVm vm₁) hT hW₁⟩) with ⟨v, vm₁, ⟨U', l2, c2, s2⟩, hW₁, X', ⟨g', mk, t, L, e1, e2, hq, h1, hL, h2, h3⟩, st⟩ | ⟨q, vm₁, ⟨U', l2, c2, s2⟩, hW₁, X', ⟨g', mk, t, L, E, ce, e1, e2, hq, hce, hcv, hcl, h1, hL, h2, h3⟩, st⟩
  · dsimp only [Pt.U, Pt.locs, Pt.cells, Pt.slots] at X' e1 e2 h1 h2 h3 st
    subst h1; subst h2; subst h3
    exact Or.inl ⟨v, (T.setVm vm₁).calling g' mk As.toArray, t, U', L, hT, X', hL, e1, e2, hq, st⟩
  · dsimp only [Pt.U, Pt.locs, Pt.cells, Pt.slots] at X' e1 e2 h1 h2 h3 st hcl
    subst h1; subst h2; subst h3
    exact Or.inr ⟨q, (T.setVm vm₁).calling g' mk As.toArray, t, U', L, E, ce, hT, X', hL, e1, e2, hq, hce, hcv, vx_cls hW₁ hcl, st⟩
end Runs
section Rows
variable {p : Program} {l : Launch} {e : Env} {R : Room} {s : State} {m : MethodId} {args : Array Value} {below : List Frame} {meth : Method} {c : Code} {H : Heap} {locs : List Loc} {cells slots : Nat} {Q : State → Prop}
variable {mc ms : Nat} {free : Addr → Prop} {A0 A1 : Nat → Prop} {H0 : Heap} {a : Array Value} {pc : Nat} {ls : Array Slot} {st0 rest : List Value}
theorem vx_keep {st₀ t T' : State} {L : List Loc} (h0 : st₀.heap = H) (e1 : T'.heap = t.heap) (hS : va_S A0 H0 H locs) (hA : ∀ q, q < H.size → A1 q → A0 q) (hf : ∀ q, free q → A0 q) (hL : ∀ q ∈ L, free q.base) (hF : va_F A1 st₀ t) :
    H.size ≤ T'.heap.size ∧ (∀ q : Nat, q < H.size → ¬ A1 q → T'.heap[q]? = H[q]?) ∧ va_S A0 H0 T'.heap (locs ++ L) := by
  obtain ⟨hz, hk⟩ := hF
  rw [h0] at hz hk
  exact ⟨by rw [e1]; exact hz, fun q h1 h2 => by rw [e1]; exact hk q h1 h2,
    ⟨Nat.le_trans hS.1 (by rw [e1]; exact hz), fun q h1 h2 => by rw [e1, hk q (Nat.lt_of_lt_of_le h1 hS.1) (fun z => h2 (hA q (Nat.lt_of_lt_of_le h1 hS.1) z))]; exact hS.2.1 q h1 h2, fun q hq => by
      rcases List.mem_append.mp hq with h | h
      · exact hS.2.2 q h
      · exact hf _ (hL q h)⟩⟩
theorem vx_calli {S SX : Type} {post : Int32 → S → Prop} {px : SX → Prop} {B : S → State → Prop} {BX : String → SX → State → Prop} {AX : Nat → Prop} (hr : vx_Run p l e R s m args below meth c H locs cells slots mc ms (F0 m pc ls st0) rest (va_Qi post B A1 a) (vx_X px BX AX) free) (hS : va_S A0 H0 H locs) (hA : ∀ q, q < H.size → A1 q → A0 q) (hf : ∀ q, free q → A0 q) (hAX : ∀ q, q < H.size → AX q → A0 q)
    (kx : ∀ (E : String) (ce : Cell) (q9 : Addr) (u : SX) (t : State) (H1 : Heap) (locs1 : List Loc), t.heap = H1 → s.vm.Alike t.vm → px u → BX E u t → H.size ≤ H1.size → (∀ q : Nat, q < H.size → ¬ AX q → H1[q]? = H[q]?) → va_S A0 H0 H1 locs1 → H1[q9]? = some ce → ce.vm = .none → s.vm.findClass E = some ce.cls → vx_W p l e R s m args below meth c H1 locs1 (cells + mc) (slots + ms) Q (F0 m pc ls rest) q9)
    (kk : ∀ (r : Int32) (u : S) (t : State) (H1 : Heap) (locs1 : List Loc), t.heap = H1 → s.vm.Alike t.vm → post r u → B u t → H.size ≤ H1.size → (∀ q : Nat, q < H.size → ¬ A1 q → H1[q]? = H[q]?) → va_S A0 H0 H1 locs1 → W p l e R s m args below meth c H1 locs1 (cells + mc) (slots + ms) Q (F0 m (pc + 3) ls (.int r :: rest))) : W p l e R s m args below meth c H locs cells slots Q (F0 m pc ls st0) := by
  intro T hT X
  rcases hr T hT X with ⟨v, st₀, t, T', L, h0, X', hL, e1, e2, ⟨⟨r, u, hv, hp, hb⟩, hF⟩, st⟩ | ⟨q, st₀, t, T', L, E, ce, h0, X', hL, e1, e2, ⟨u, hp, hb, hF⟩, hce, hcv, hcl, st⟩
  · cases hv
    obtain ⟨k1, k2, k3⟩ := vx_keep h0 e1 hS hA hf hL hF
    obtain ⟨t2, a1, b1⟩ := kk r u t T'.heap (locs ++ L) e1.symm (by rw [← e2]; exact X'.warmed.alike) hp hb k1 k2 k3 T' rfl X'
    exact ⟨t2, st t2 a1, b1⟩
  · obtain ⟨k1, k2, k3⟩ := vx_keep h0 e1 hS hAX hf hL hF
    obtain ⟨t2, a1, b1⟩ := kx E ce q u t T'.heap (locs ++ L) e1.symm (by rw [← e2]; exact X'.warmed.alike) hp hb k1 k2 k3 (by rw [e1]; exact hce) hcv hcl T' rfl X'
    exact ⟨t2, st.trans a1, b1⟩
theorem vx_calll {S SX : Type} {post : Int64 → S → Prop} {px : SX → Prop} {B : S → State → Prop} {BX : String → SX → State → Prop} {AX : Nat → Prop} (hr : vx_Run p l e R s m args below meth c H locs cells slots mc ms (F0 m pc ls st0) rest (va_Ql post B A1 a) (vx_X px BX AX) free) (hS : va_S A0 H0 H locs) (hA : ∀ q, q < H.size → A1 q → A0 q) (hf : ∀ q, free q → A0 q) (hAX : ∀ q, q < H.size → AX q → A0 q)
    (kx : ∀ (E : String) (ce : Cell) (q9 : Addr) (u : SX) (t : State) (H1 : Heap) (locs1 : List Loc), t.heap = H1 → s.vm.Alike t.vm → px u → BX E u t → H.size ≤ H1.size → (∀ q : Nat, q < H.size → ¬ AX q → H1[q]? = H[q]?) → va_S A0 H0 H1 locs1 → H1[q9]? = some ce → ce.vm = .none → s.vm.findClass E = some ce.cls → vx_W p l e R s m args below meth c H1 locs1 (cells + mc) (slots + ms) Q (F0 m pc ls rest) q9)
    (kk : ∀ (r : Int64) (u : S) (t : State) (H1 : Heap) (locs1 : List Loc), t.heap = H1 → s.vm.Alike t.vm → post r u → B u t → H.size ≤ H1.size → (∀ q : Nat, q < H.size → ¬ A1 q → H1[q]? = H[q]?) → va_S A0 H0 H1 locs1 → W p l e R s m args below meth c H1 locs1 (cells + mc) (slots + ms) Q (F0 m (pc + 3) ls (.long r :: rest))) : W p l e R s m args below meth c H locs cells slots Q (F0 m pc ls st0) := by
  intro T hT X
  rcases hr T hT X with ⟨v, st₀, t, T', L, h0, X', hL, e1, e2, ⟨⟨r, u, hv, hp, hb⟩, hF⟩, st⟩ | ⟨q, st₀, t, T', L, E, ce, h0, X', hL, e1, e2, ⟨u, hp, hb, hF⟩, hce, hcv, hcl, st⟩
  · cases hv
    obtain ⟨k1, k2, k3⟩ := vx_keep h0 e1 hS hA hf hL hF
    obtain ⟨t2, a1, b1⟩ := kk r u t T'.heap (locs ++ L) e1.symm (by rw [← e2]; exact X'.warmed.alike) hp hb k1 k2 k3 T' rfl X'
    exact ⟨t2, st t2 a1, b1⟩
  · obtain ⟨k1, k2, k3⟩ := vx_keep h0 e1 hS hAX hf hL hF
    obtain ⟨t2, a1, b1⟩ := kx E ce q u t T'.heap (locs ++ L) e1.symm (by rw [← e2]; exact X'.warmed.alike) hp hb k1 k2 k3 (by rw [e1]; exact hce) hcv hcl T' rfl X'
    exact ⟨t2, st.trans a1, b1⟩
theorem vx_callf {S SX : Type} {post : UInt32 → S → Prop} {px : SX → Prop} {B : S → State → Prop} {BX : String → SX → State → Prop} {AX : Nat → Prop} (hr : vx_Run p l e R s m args below meth c H locs cells slots mc ms (F0 m pc ls st0) rest (va_Qf post B A1 a) (vx_X px BX AX) free) (hS : va_S A0 H0 H locs) (hA : ∀ q, q < H.size → A1 q → A0 q) (hf : ∀ q, free q → A0 q) (hAX : ∀ q, q < H.size → AX q → A0 q)
    (kx : ∀ (E : String) (ce : Cell) (q9 : Addr) (u : SX) (t : State) (H1 : Heap) (locs1 : List Loc), t.heap = H1 → s.vm.Alike t.vm → px u → BX E u t → H.size ≤ H1.size → (∀ q : Nat, q < H.size → ¬ AX q → H1[q]? = H[q]?) → va_S A0 H0 H1 locs1 → H1[q9]? = some ce → ce.vm = .none → s.vm.findClass E = some ce.cls → vx_W p l e R s m args below meth c H1 locs1 (cells + mc) (slots + ms) Q (F0 m pc ls rest) q9)
    (kk : ∀ (r : UInt32) (u : S) (t : State) (H1 : Heap) (locs1 : List Loc), t.heap = H1 → s.vm.Alike t.vm → post r u → B u t → H.size ≤ H1.size → (∀ q : Nat, q < H.size → ¬ A1 q → H1[q]? = H[q]?) → va_S A0 H0 H1 locs1 → W p l e R s m args below meth c H1 locs1 (cells + mc) (slots + ms) Q (F0 m (pc + 3) ls (.float r :: rest))) : W p l e R s m args below meth c H locs cells slots Q (F0 m pc ls st0) := by
  intro T hT X
  rcases hr T hT X with ⟨v, st₀, t, T', L, h0, X', hL, e1, e2, ⟨⟨r, u, hv, hp, hb⟩, hF⟩, st⟩ | ⟨q, st₀, t, T', L, E, ce, h0, X', hL, e1, e2, ⟨u, hp, hb, hF⟩, hce, hcv, hcl, st⟩
  · cases hv
    obtain ⟨k1, k2, k3⟩ := vx_keep h0 e1 hS hA hf hL hF
    obtain ⟨t2, a1, b1⟩ := kk r u t T'.heap (locs ++ L) e1.symm (by rw [← e2]; exact X'.warmed.alike) hp hb k1 k2 k3 T' rfl X'
    exact ⟨t2, st t2 a1, b1⟩
  · obtain ⟨k1, k2, k3⟩ := vx_keep h0 e1 hS hAX hf hL hF
    obtain ⟨t2, a1, b1⟩ := kx E ce q u t T'.heap (locs ++ L) e1.symm (by rw [← e2]; exact X'.warmed.alike) hp hb k1 k2 k3 (by rw [e1]; exact hce) hcv hcl T' rfl X'
    exact ⟨t2, st.trans a1, b1⟩
theorem vx_calld {S SX : Type} {post : UInt64 → S → Prop} {px : SX → Prop} {B : S → State → Prop} {BX : String → SX → State → Prop} {AX : Nat → Prop} (hr : vx_Run p l e R s m args below meth c H locs cells slots mc ms (F0 m pc ls st0) rest (va_Qd post B A1 a) (vx_X px BX AX) free) (hS : va_S A0 H0 H locs) (hA : ∀ q, q < H.size → A1 q → A0 q) (hf : ∀ q, free q → A0 q) (hAX : ∀ q, q < H.size → AX q → A0 q)
    (kx : ∀ (E : String) (ce : Cell) (q9 : Addr) (u : SX) (t : State) (H1 : Heap) (locs1 : List Loc), t.heap = H1 → s.vm.Alike t.vm → px u → BX E u t → H.size ≤ H1.size → (∀ q : Nat, q < H.size → ¬ AX q → H1[q]? = H[q]?) → va_S A0 H0 H1 locs1 → H1[q9]? = some ce → ce.vm = .none → s.vm.findClass E = some ce.cls → vx_W p l e R s m args below meth c H1 locs1 (cells + mc) (slots + ms) Q (F0 m pc ls rest) q9)
    (kk : ∀ (r : UInt64) (u : S) (t : State) (H1 : Heap) (locs1 : List Loc), t.heap = H1 → s.vm.Alike t.vm → post r u → B u t → H.size ≤ H1.size → (∀ q : Nat, q < H.size → ¬ A1 q → H1[q]? = H[q]?) → va_S A0 H0 H1 locs1 → W p l e R s m args below meth c H1 locs1 (cells + mc) (slots + ms) Q (F0 m (pc + 3) ls (.double r :: rest))) : W p l e R s m args below meth c H locs cells slots Q (F0 m pc ls st0) := by
  intro T hT X
  rcases hr T hT X with ⟨v, st₀, t, T', L, h0, X', hL, e1, e2, ⟨⟨r, u, hv, hp, hb⟩, hF⟩, st⟩ | ⟨q, st₀, t, T', L, E, ce, h0, X', hL, e1, e2, ⟨u, hp, hb, hF⟩, hce, hcv, hcl, st⟩
  · cases hv
    obtain ⟨k1, k2, k3⟩ := vx_keep h0 e1 hS hA hf hL hF
    obtain ⟨t2, a1, b1⟩ := kk r u t T'.heap (locs ++ L) e1.symm (by rw [← e2]; exact X'.warmed.alike) hp hb k1 k2 k3 T' rfl X'
    exact ⟨t2, st t2 a1, b1⟩
  · obtain ⟨k1, k2, k3⟩ := vx_keep h0 e1 hS hAX hf hL hF
    obtain ⟨t2, a1, b1⟩ := kx E ce q u t T'.heap (locs ++ L) e1.symm (by rw [← e2]; exact X'.warmed.alike) hp hb k1 k2 k3 (by rw [e1]; exact hce) hcv hcl T' rfl X'
    exact ⟨t2, st.trans a1, b1⟩
theorem vx_callv {S SX : Type} {post : S → Prop} {px : SX → Prop} {B : S → State → Prop} {BX : String → SX → State → Prop} {AX : Nat → Prop} (hr : vx_Run p l e R s m args below meth c H locs cells slots mc ms (F0 m pc ls st0) rest (va_Qv post B A1 a) (vx_X px BX AX) free) (hS : va_S A0 H0 H locs) (hA : ∀ q, q < H.size → A1 q → A0 q) (hf : ∀ q, free q → A0 q) (hAX : ∀ q, q < H.size → AX q → A0 q)
    (kx : ∀ (E : String) (ce : Cell) (q9 : Addr) (u : SX) (t : State) (H1 : Heap) (locs1 : List Loc), t.heap = H1 → s.vm.Alike t.vm → px u → BX E u t → H.size ≤ H1.size → (∀ q : Nat, q < H.size → ¬ AX q → H1[q]? = H[q]?) → va_S A0 H0 H1 locs1 → H1[q9]? = some ce → ce.vm = .none → s.vm.findClass E = some ce.cls → vx_W p l e R s m args below meth c H1 locs1 (cells + mc) (slots + ms) Q (F0 m pc ls rest) q9)
    (kk : ∀ (u : S) (t : State) (H1 : Heap) (locs1 : List Loc), t.heap = H1 → s.vm.Alike t.vm → post u → B u t → H.size ≤ H1.size → (∀ q : Nat, q < H.size → ¬ A1 q → H1[q]? = H[q]?) → va_S A0 H0 H1 locs1 → W p l e R s m args below meth c H1 locs1 (cells + mc) (slots + ms) Q (F0 m (pc + 3) ls (rest))) : W p l e R s m args below meth c H locs cells slots Q (F0 m pc ls st0) := by
  intro T hT X
  rcases hr T hT X with ⟨v, st₀, t, T', L, h0, X', hL, e1, e2, ⟨⟨u, hv, hp, hb⟩, hF⟩, st⟩ | ⟨q, st₀, t, T', L, E, ce, h0, X', hL, e1, e2, ⟨u, hp, hb, hF⟩, hce, hcv, hcl, st⟩
  · cases hv
    obtain ⟨k1, k2, k3⟩ := vx_keep h0 e1 hS hA hf hL hF
    obtain ⟨t2, a1, b1⟩ := kk u t T'.heap (locs ++ L) e1.symm (by rw [← e2]; exact X'.warmed.alike) hp hb k1 k2 k3 T' rfl X'
    exact ⟨t2, st t2 a1, b1⟩
  · obtain ⟨k1, k2, k3⟩ := vx_keep h0 e1 hS hAX hf hL hF
    obtain ⟨t2, a1, b1⟩ := kx E ce q u t T'.heap (locs ++ L) e1.symm (by rw [← e2]; exact X'.warmed.alike) hp hb k1 k2 k3 (by rw [e1]; exact hce) hcv hcl T' rfl X'
    exact ⟨t2, st.trans a1, b1⟩
/-- caught by the row x of this method's table; the rows ahead don't take it -/
theorem vx_catch {own name : String} {E : String} {ce : Cell} {q : Addr} (hown : s.vm.findClass own = some m.cls) (pre : List ExceptionTableEntry) (x : ExceptionTableEntry) (suf : List ExceptionTableEntry) (hsplit : c.exceptionTable.toList = pre ++ x :: suf)
    (hpass : ∀ z ∈ pre, covers z pc = false ∨ (z.catchType ≠ 0 ∧ ∃ nm : String, (Cond.classLink own z.catchType nm).before args s = true ∧ va_Nc E nm s)) (hx : covers x pc = true) (h0 : x.catchType ≠ 0)
    (hlink : (Cond.classLink own x.catchType name).before args s = true) (hcast : (Cond.castable E name).before args s = true) (hcell : H[q]? = some ce) (hv : ce.vm = .none) (hcl : s.vm.findClass E = some ce.cls)
    (kk : W p l e R s m args below meth c H locs cells slots Q (F0 m x.handlerPc ls [.ref q])) : vx_W p l e R s m args below meth c H locs cells slots Q (F0 m pc ls rest) q := by
  intro T hT X
  have hpl : e.platform.magicAccessors = ({} : Platform).magicAccessors := by rw [X.admits.platform]
  obtain ⟨c3, c4, hc3, hc4, hasg⟩ := Cond.castable_spec hcast
  cases Option.some.inj (hc3.symm.trans hcl)
  obtain ⟨c5, hc5, hcl5⟩ := Cond.classLink_spec hown hlink e.platform hpl
  cases Option.some.inj (hc4.symm.trans hc5)
  obtain ⟨vm', X', st⟩ := X.thenCaughtThrough q (g := F0 m pc ls rest) rfl (Steps.refl _) (by rw [hT]; exact hcell) (by rw [hv]; rfl) (by obtain ⟨k9, h9, -⟩ := Vm.findClass_spec hcl; exact ⟨k9, h9⟩) pre x suf hsplit
    (fun z hz => by
      rcases hpass z hz with h | ⟨hz0, nm, hl1, hn1⟩
      · exact Or.inl h
      · obtain ⟨c6, hc6, hcl6⟩ := Cond.classLink_spec hown hl1 e.platform hpl
        obtain ⟨a8, b8, h1, h2, h3⟩ := hn1
        cases Option.some.inj (h1.symm.trans hcl)
        cases Option.some.inj (h2.symm.trans hc6)
        exact Or.inr ⟨hz0, _, hcl6, h3⟩) hx (Or.inr ⟨h0, c4, hcl5, hasg⟩)
  obtain ⟨t, a1, b1⟩ := kk (T.setVm vm') hT X'
  exact ⟨t, st.trans a1, b1⟩
end Rows
section Ends
variable {p : Program} {l : Launch} {e : Env} {R : Room} {s : State} {m : MethodId} {args : Array Value} {below : List Frame} {meth : Method} {c : Code} {H : Heap} {locs : List Loc} {cells slots : Nat} {Q : State → Prop}
variable {mc ms : Nat} {free : Addr → Prop} {A0 A1 : Nat → Prop} {H0 : Heap} {a : Array Value} {ls : Array Slot} {st0 rest : List Value}
variable {Qc : Array Value → State → Outcome → State → Prop} {XC : String → State → State → Prop}
/-- what a body that may throw owes at its end -/
def vx_MQ (below : List Frame) (Qc : Array Value → State → Outcome → State → Prop) (XC : String → State → State → Prop) (a : Array Value) (s : State) (mc ms : Nat) (free : Addr → Prop) : State → Prop := fun t =>
  ∃ o, t.status = .running ∧ Ended t below o ∧ vx_Q Qc XC mc ms free a s o t
theorem vx_ret {g : JFrame} {mc ms : Nat} (k : W p l e R s m args below meth c H locs cells slots (MQ below Qc args s mc ms free) g) : W p l e R s m args below meth c H locs cells slots (vx_MQ below Qc XC args s mc ms free) g := by
  intro T hT X
  obtain ⟨t, a1, o, b1, b2, b3, b4⟩ := k T hT X
  exact ⟨t, a1, o, b1, b2, Or.inl ⟨b3, b4⟩⟩
/-- not caught here: it goes on to the caller -/
theorem vx_widen {g : JFrame} {q : Addr} {k n : Nat} (h1 : cells ≤ k) (h2 : slots ≤ n) (kk : vx_W p l e R s m args below meth c H locs k n Q g q) : vx_W p l e R s m args below meth c H locs cells slots Q g q := fun T hT X => kk T hT (stand_widen X h1 h2)
theorem vx_out {pc : Nat} {E : String} {ce : Cell} {q : Addr} {mc ms : Nat} (hout : ∀ x ∈ c.exceptionTable.toList, covers x pc = false) (hlocks : meth.locks = false) (hcell : H[q]? = some ce) (hv : ce.vm = .none) (hcl : s.vm.findClass E = some ce.cls)
    (hx : ∀ t : State, t.heap = H → s.vm.Alike t.vm → XC E s t) (hf : ∀ z ∈ locs, free z.base) (hc : cells ≤ mc) (hs : slots ≤ ms) :
    vx_W p l e R s m args below meth c H locs cells slots (vx_MQ below Qc XC args s mc ms free) (F0 m pc ls rest) q := by
  intro T hT X
  obtain ⟨st1, hrun, hend, hW, hsm⟩ := X.leaveThrown q (g := F0 m pc ls rest) rfl rfl rfl hout hlocks
  have hcell9 : (T.setFrames (.throwing q :: below)).heap[q]? = some ce := by
    show T.heap[q]? = some ce
    rw [hT]; exact hcell
  exact ⟨_, st1, .threw q, hrun, hend, Or.inr ⟨q, rfl, E, ce, locs, hx _ hT hW.alike, hcell9, hv, hcl, hW, hsm.mono hc hs, hf⟩⟩
theorem vx_frame {U : State} {k n : Nat} (h : s.sameButNew ({ U with vm := s.vm } : State) locs k n) : s.heap.size ≤ U.heap.size ∧ ∀ q : Nat, q < s.heap.size → (∀ z ∈ locs, z.base ≠ q) → U.heap[q]? = s.heap[q]? := by
  obtain ⟨-, h2, -, -, -, h6⟩ := h
  refine ⟨h2, fun q hq hz => ?_⟩
  obtain ⟨c9, e1, e2, e3, e4⟩ := h6 q _ (Array.getElem?_eq_getElem hq)
  have hs : c9.slots = (s.heap[q]).slots := Array.ext_getElem? fun i => e4 i fun hm => hz _ hm rfl
  have h9 : c9 = s.heap[q] := by
    rw [hs] at e2
    exact e2
  have e5 : U.heap[q]? = some c9 := e1
  rw [e5, h9, Array.getElem?_eq_getElem hq]
/-- the words of a throw but the four that speak of the heap -/
def vx_no (w : Cond) : Bool := decide (w ≠ .isRef (.static Bundle.tN "UNASSIGNED_STACK" Bundle.steD)) && decide (w ≠ .isRef (.static Bundle.tN "SUPPRESSED_SENTINEL" Bundle.listD)) && decide (w ≠ .laysStatic Bundle.tN "UNASSIGNED_STACK" Bundle.steD) && decide (w ≠ .laysStatic Bundle.tN "SUPPRESSED_SENTINEL" Bundle.listD)
def vx_at0 (own : String) (ic : Nat) (X : String) (names : List String) : List Cond := (Bundle.ownAtoms0 own ic X names).filter vx_no
def vx_atS (own : String) (ic : Nat) (X : String) (names : List String) : List Cond := (Bundle.ownAtoms own ic X names).filter vx_no
/-- a word that the tables alone decide, or a good one -/
def vx_ot (w : Cond) : Bool := w.onTables || goodWord w
theorem vx_ot_at {args a' : Array Value} {s U : State} {w : Cond} (hW : s.WarmedH U.vm) (hvm : s.vm = U.vm) (hg : vx_ot w = true) (h : w.before args s = true) : w.before a' U = true := by
  simp only [vx_ot, Bool.or_eq_true] at hg
  rcases hg with hg | hg
  · exact va_tabs hg hvm h
  · exact word_at hW (good_of_word hg) h
/-- a list's words: the good ones out of the method's own list, the others by premises of their own -/
theorem vx_hat {args : Array Value} {s : State} {L B : List Cond} (h1 : ∀ w ∈ L.filter goodWord, w.before args s = true) (h2 : ∀ w ∈ L.filter (fun w => !goodWord w), w ∈ B) (h3 : ∀ w ∈ B, w.before args s = true) : ∀ w ∈ L, w.before args s = true := by
  intro w hw
  by_cases g : goodWord w = true
  · exact h1 w (List.mem_filter.mpr ⟨hw, g⟩)
  · refine h3 w (h2 w (List.mem_filter.mpr ⟨hw, ?_⟩))
    show (!goodWord w) = true
    cases hgw : goodWord w
    · rfl
    · exact absurd hgw g
theorem vx_c {args : Array Value} {s : State} {w : Cond} {B : List Cond} (h : w.before args s = true) (t : ∀ w ∈ B, w.before args s = true) : ∀ w' ∈ w :: B, w'.before args s = true := fun w' h' => (List.mem_cons.mp h').elim (fun e => by rw [e]; exact h) (t w')
theorem vx_n {args : Array Value} {s : State} : ∀ w ∈ ([] : List Cond), w.before args s = true := fun _ h => nomatch h
theorem vx_own {args : Array Value} {s : State} {L : List Cond} (h1 : ∀ w ∈ L.filter vx_no, w.before args s = true)
    (hU : (Cond.isRef (.static Bundle.tN "UNASSIGNED_STACK" Bundle.steD)).before args s = true) (hN : (Cond.isRef (.static Bundle.tN "SUPPRESSED_SENTINEL" Bundle.listD)).before args s = true)
    (lU : (Cond.laysStatic Bundle.tN "UNASSIGNED_STACK" Bundle.steD).before args s = true) (lN : (Cond.laysStatic Bundle.tN "SUPPRESSED_SENTINEL" Bundle.listD).before args s = true) : ∀ w ∈ L, w.before args s = true := by
  intro w hw
  by_cases e1 : w = .isRef (.static Bundle.tN "UNASSIGNED_STACK" Bundle.steD)
  · rw [e1]; exact hU
  · by_cases e2 : w = .isRef (.static Bundle.tN "SUPPRESSED_SENTINEL" Bundle.listD)
    · rw [e2]; exact hN
    · by_cases e3 : w = .laysStatic Bundle.tN "UNASSIGNED_STACK" Bundle.steD
      · rw [e3]; exact lU
      · by_cases e4 : w = .laysStatic Bundle.tN "SUPPRESSED_SENTINEL" Bundle.listD
        · rw [e4]; exact lN
        · exact h1 w (List.mem_filter.mpr ⟨hw, by unfold vx_no; rw [decide_eq_true e1, decide_eq_true e2, decide_eq_true e3, decide_eq_true e4]; rfl⟩)
/-- where a static field lies, its class's statics cell in H -/
def vx_L (C n d : String) (A : Nat → Prop) (U : State) (H : Heap) : Prop := ∃ (c : ClassId) (k : Class) (i : Nat) (f : Field) (a : Nat) (cell : Cell), U.vm.findClass C = some c ∧ U.fieldFound? C n d = some (c, k, i, f) ∧ f.isStatic = true ∧ k.statics = some a ∧ H[a]? = some cell ∧ cell.vm.isStatics = true ∧ cell.cls = c ∧ f.slot < cell.slots.size ∧ k.staticTypes[f.slot]? = some f.type ∧ ¬ A a
theorem vx_L.moved {C n d : String} {A : Nat → Prop} {u U : State} {H : Heap} (hvm : u.vm.Alike U.vm) (h : vx_L C n d A u H) : vx_L C n d A U H := by
  obtain ⟨c, k, i, f, a, cell, h1, h2, h3, h4, h5, h6, h7, h8, h9, h10⟩ := h
  obtain ⟨k', hi', he⟩ := State.fieldFound?_setVm hvm h2
  exact ⟨c, k', i, f, a, cell, by rw [hvm.findClass]; exact h1, hi', h3, by rw [he]; exact h4, h5, h6, h7, h8, by rw [he]; exact h9, h10⟩
theorem vx_L.kept {C n d : String} {A : Nat → Prop} {U : State} {H H1 : Heap} (h : vx_L C n d A U H) (hq : ∀ a : Nat, a < H.size → ¬ A a → H1[a]? = H[a]?) : vx_L C n d A U H1 := by
  obtain ⟨c, k, i, f, a, cell, h1, h2, h3, h4, h5, h6, h7, h8, h9, h10⟩ := h
  exact ⟨c, k, i, f, a, cell, h1, h2, h3, h4, by rw [hq a (Array.getElem?_eq_some_iff.mp h5).1 h10]; exact h5, h6, h7, h8, h9, h10⟩
theorem vx_L.narrow {C n d : String} {A B : Nat → Prop} {U : State} {H : Heap} (h : vx_L C n d A U H) (hAB : ∀ q, B q → A q) : vx_L C n d B U H := by
  obtain ⟨c, k, i, f, a, cell, h1, h2, h3, h4, h5, h6, h7, h8, h9, h10⟩ := h
  exact ⟨c, k, i, f, a, cell, h1, h2, h3, h4, h5, h6, h7, h8, h9, fun z => h10 (hAB _ z)⟩
theorem vx_L.word {C n d : String} {A : Nat → Prop} {s : State} {args : Array Value} (h : vx_L C n d A s s.heap) : (Cond.laysStatic C n d).before args s = true := by
  obtain ⟨c, k, i, f, a, cell, h1, h2, h3, h4, h5, h6, h7, h8, h9, -⟩ := h
  show (Cond.laysStatic C n d).holds args s none s [] = true
  exact Cond.laysStatic_of h1 h2 h3 h4 h5 h6 h7 h8 h9
/-- .. and what it holds: null or some reference -/
def vx_Zq (C n d : String) (A : Nat → Prop) (U : State) (H : Heap) : Prop := va_Zq C n d A U H ∧ vx_L C n d A U H
theorem vx_Zq.moved {C n d : String} {A : Nat → Prop} {u U : State} {H : Heap} (hvm : u.vm.Alike U.vm) (h : vx_Zq C n d A u H) : vx_Zq C n d A U H := ⟨va_Zq.moved hvm h.1, vx_L.moved hvm h.2⟩
theorem vx_Zq.kept {C n d : String} {A : Nat → Prop} {U : State} {H H1 : Heap} (h : vx_Zq C n d A U H) (hq : ∀ a : Nat, a < H.size → ¬ A a → H1[a]? = H[a]?) : vx_Zq C n d A U H1 := ⟨va_Zq.kept h.1 hq, vx_L.kept h.2 hq⟩
theorem vx_Zq.narrow {C n d : String} {A B : Nat → Prop} {U : State} {H : Heap} (h : vx_Zq C n d A U H) (hAB : ∀ q, B q → A q) : vx_Zq C n d B U H := ⟨va_Zq.narrow h.1 hAB, vx_L.narrow h.2 hAB⟩
theorem vx_Zqof {args : Array Value} {s : State} {C n d : String} {A : Nat → Prop} (hl : (Cond.laysStatic C n d).before args s = true) (hini : (Cond.initialized C).before args s = true) (h : (Cond.isRef (.static C n d)).before args s = true) (hA : ∀ a : Nat, a < s.heap.size → ¬ A a) : vx_Zq C n d A s s.heap := by
  refine ⟨va_Zqof hl hini h hA, ?_⟩
  obtain ⟨c, k, i, f, a, cell, h1, h2, h3, h4, h5, h6, h7, h8, h9⟩ := Cond.laysStatic_spec hl
  exact ⟨c, k, i, f, a, cell, h1, h2, h3, h4, h5, h6, h7, h8, h9, hA a (Array.getElem?_eq_some_iff.mp h5).1⟩
theorem vx_isRef {C n d : String} {v : Value} {A : Nat → Prop} {s : State} {args : Array Value} (h : va_Z C n d v A s s.heap) (hv : v.isRef = true) : (Cond.isRef (.static C n d)).before args s = true := by
  obtain ⟨cf, kf, fi, f, a, cell, h1, h2, h3, h4, h5, h6, h7, -⟩ := h
  have he : (Term.static C n d).eval args s none [] s = some v := by
    simp [Term.eval, State.fieldNamed?, h1, h2, h4, h5, h6, h7]
  simp only [Cond.before, Cond.holds, Cond.value, he]
  cases v <;> simp_all [Value.isRef]
theorem vx_isRefq {C n d : String} {A : Nat → Prop} {s : State} {args : Array Value} (h : va_Zq C n d A s s.heap) : (Cond.isRef (.static C n d)).before args s = true := by
  rcases h with h | ⟨t, h⟩
  · exact vx_isRef h rfl
  · exact vx_isRef h rfl
/-- the same frame, seen from here: as if the method were called anew in this heap -/
theorem vx_rebase {T : State} (X : Stand p l e R s m args below meth c T locs cells slots) {R' : Room} (hf : R'.frames ≤ R.frames) (hl : R'.locals ≤ R.locals) (hc : cells + R'.cells ≤ R.cells) (hs : slots + R'.slots ≤ R.slots) :
    Stand p l e R' ((T.setVm s.vm).setFrames (.invoking m args :: below)) m args below meth c T [] 0 0 := by
  have htop : (T.setVm s.vm).topJava?.isSome := X.here.top
  have hF : ((T.setVm s.vm).setFrames (.invoking m args :: below)).frames = .invoking m args :: below := State.frames_setFrames _ (State.cur_lt_of_top htop)
  obtain ⟨g₀, hg0⟩ := Option.isSome_iff_exists.mp htop
  obtain ⟨r, hr⟩ := State.topJava?_eq_some.mp hg0
  have hl9 : e.platform.stackLimits (T.setVm s.vm).me = e.platform.stackLimits s.me := X.limits
  have hb9 : (T.setVm s.vm).me.stackBytes = s.me.stackBytes := X.bytes
  refine ⟨X.admits, X.cas, X.clock, hF, ?_, X.hears, X.method, X.code, X.here, X.tail, X.warmed, ?_, ?_, ?_⟩
  · have h := X.room
    have hU : ((T.setVm s.vm).setFrames (.invoking m args :: below)).localsInUse = s.localsInUse := by
      rw [State.localsInUse_invoking hF (meth := meth) (c := c) X.method X.code, State.localsInUse_invoking X.frames X.method X.code]
    simp only [State.hasRoom, Bool.and_eq_true, decide_eq_true_eq] at h ⊢
    obtain ⟨⟨⟨⟨h1, h2, h3, h4, h5, h6⟩, h7⟩, h8⟩, h9⟩ := h
    rw [X.frames, List.length_cons] at h2 h3
    have q1 := X.heapSize
    have q2 := X.used
    simp only [hF, hU, List.length_cons, State.stackLimits_setFrames, State.stackBytes_setFrames, hl9, hb9]
    refine ⟨⟨⟨⟨by omega, by omega, by omega, by omega, by omega, h6⟩, ?_⟩, ?_⟩, X.book⟩
    · show T.heap.size + R'.cells ≤ e.platform.maxCells
      omega
    · show T.slotsUsed + R'.slots ≤ e.platform.maxSlots
      omega
  · rw [State.stackLimits_setFrames]; rfl
  · rw [State.stackBytes_setFrames]; rfl
  · refine ⟨?_, Nat.le_refl _, Nat.le_refl _, ?_, ?_, fun a c9 h9 => ⟨c9, h9, rfl, rfl, fun _ _ => rfl⟩⟩
    · obtain ⟨t, ht, -⟩ := State.frames_cons hr
      show T.setVm s.vm = { ((T.setVm s.vm).setFrames (.invoking m args :: below)).setFrames (T.setVm s.vm).frames with heap := T.heap, slotsUsed := T.slotsUsed }
      rw [State.setFrames_setFrames, State.setFrames_self ht]
      rfl
    · show T.slotsUsed = T.slotsUsed + ((T.heap.toList.drop T.heap.size).map (·.slots.size)).sum
      rw [List.drop_eq_nil_of_le (Nat.le_of_eq Array.length_toList)]
      rfl
    · show ((T.heap.toList.drop T.heap.size).map (·.slots.size)).sum ≤ 0
      rw [List.drop_eq_nil_of_le (Nat.le_of_eq Array.length_toList)]
      exact Nat.le_refl _
/-- 'throw new E()': new; dup; invokespecial; athrow -/
theorem vx_throw0 {cc : ByteArray} {pc : Nat} (hexec : p.tables.exec = Jvm.exec) (hb : c.code = cc) (hl : l.stackTraces = false) {own cls : String} {names : List String} {ik ic mc ms : Nat} {A : Nat → Prop}
    (hown : s.vm.findClass own = some m.cls) (hcls : Bundle.fit cls = true) (hnames : ∀ n ∈ names, Bundle.fit n = true)
    (hk : (Cond.classLink own ik cls).before args s = true) (hini : (Cond.initialized cls).before args s = true) (hat : ∀ w ∈ vx_at0 own ic cls names, w.before args s = true)
    (hgood : ∀ w ∈ Cond.classLink own ik cls :: Cond.initialized cls :: vx_at0 own ic cls names, vx_ot w = true)
    (hU : vx_Zq Bundle.tN "UNASSIGNED_STACK" Bundle.steD A s s.heap) (hN : vx_Zq Bundle.tN "SUPPRESSED_SENTINEL" Bundle.listD A s s.heap) (hS : va_S A s.heap H locs) (hsize : ls.size = c.maxLocals)
    (d0 : decode cc pc = .ok (.new ik, 3)) (d3 : decode cc (pc + 3) = .ok (.dup, 1)) (d4 : decode cc (pc + 4) = .ok (.invokespecial ic, 3)) (d7 : decode cc (pc + 7) = .ok (.athrow, 1))
    (hout : ∀ x ∈ c.exceptionTable.toList, covers x (pc + 7) = false)
    (hRframes : names.length + 3 < R.frames) (hRlocals : (rest.map fun v => v.category).sum + (13 * (names.length + 1) + 42) ≤ R.locals) (hRcells : cells + 1 ≤ R.cells) (hRslots : slots + 6 ≤ R.slots) (hlocks : meth.locks = false)
    (hx : ∀ t : State, s.vm.Alike t.vm → H.size ≤ t.heap.size → (∀ q : Nat, q < H.size → t.heap[q]? = H[q]?) → XC cls s t)
    (hf : ∀ z ∈ locs, free z.base) (hc : cells + 1 ≤ mc) (hs : slots + 6 ≤ ms) :
    W p l e R s m args below meth c H locs cells slots (vx_MQ below Qc XC args s mc ms free) (F0 m pc ls rest) := by
  intro T hT X
  have htr : e.platform.stackTraces = false := (show e.platform.stackTraces = l.stackTraces by rw [X.admits.platform]).trans hl
  have Y := vx_rebase X (R' := { frames := R.frames, locals := R.locals, cells := 1, slots := 6 }) (Nat.le_refl _) (Nat.le_refl _) hRcells hRslots
  obtain ⟨s', hA⟩ : ∃ z, z = (T.setVm s.vm).setFrames (.invoking m args :: below) := ⟨_, rfl⟩
  rw [← hA] at Y
  have hvm : s'.vm = s.vm := by rw [hA]; rfl
  have hhp : s'.heap = H := by rw [hA]; exact hT
  have hW0 : s.WarmedH s'.vm := by rw [hvm]; exact State.WarmedH.refl s
  have hat' : ∀ w ∈ vx_at0 own ic cls names, w.before args s' = true := fun w hw => vx_ot_at hW0 hvm.symm (hgood w (List.mem_cons_of_mem _ (List.mem_cons_of_mem _ hw))) (hat w hw)
  have hk' : (Cond.classLink own ik cls).before args s' = true := vx_ot_at hW0 hvm.symm (hgood _ List.mem_cons_self) hk
  have hini' : (Cond.initialized cls).before args s' = true := vx_ot_at hW0 hvm.symm (hgood _ (List.mem_cons_of_mem _ List.mem_cons_self)) hini
  have hU' : vx_Zq Bundle.tN "UNASSIGNED_STACK" Bundle.steD A s' s'.heap := by rw [hhp]; exact vx_Zq.moved hW0.alike (hU.kept hS.2.1)
  have hN' : vx_Zq Bundle.tN "SUPPRESSED_SENTINEL" Bundle.listD A s' s'.heap := by rw [hhp]; exact vx_Zq.moved hW0.alike (hN.kept hS.2.1)
  have h : ∀ w ∈ Bundle.ownAtoms0 own ic cls names, w.before args s' = true := vx_own hat' (vx_isRefq hU'.1) (vx_isRefq hN'.1) hU'.2.word hN'.2.word
  have hown' : s'.vm.findClass own = some m.cls := by rw [hvm]; exact hown
  have hins : (Cond.instantiable cls 6).before args s' = true := h _ (by simp [Bundle.ownAtoms0])
  obtain ⟨vm₁, cX, kX, hfX, hkX, -, -, X₁, st1⟩ := Y.newCold hexec (own := own) (C := cls) (index := ik) (n := 6) hown' hk' hins hini'
    (g := F0 m pc ls rest) rfl (by rw [hb]; exact d0) (Nat.le_refl _) (Nat.le_refl _)
  generalize hT1 : (T.setVm vm₁).pushCell { cls := cX, slots := kX.instanceTypes.map defaultValue, vm := .none } = T1 at X₁ st1
  have hcat : (Value.ref T.heap.size).category = 1 := rfl
  have hcellA : T1.heap[T.heap.size]? = some (freshCell cX kX) := by rw [← hT1]; exact State.heap_pushCell_size _ _
  have d3' : decode c.code (pc + 3) = .ok (.dup, 1) := by rw [hb]; exact d3
  obtain ⟨U, hsteps, hrun, hend, hW, hsame, ce, hce, hO⟩ := X₁.ctorThrow0 hexec htr (own := own) (cls := cls) (names := names) (ic := ic) hown' hcls hnames h (fun x hx => nomatch hx) hfX hkX hcellA (by rw [hhp, hT]; exact Nat.le_refl _)
    (g := { method := m, pc := pc + 4, locals := ls, stack := .ref T.heap.size :: .ref T.heap.size :: rest, locked := none }) rfl hsize rfl rfl (rest := rest) rfl
    (by rw [hb]; exact d4) (by rw [hb]; exact d7) hout hRframes (by simp only [List.map_cons, List.sum_cons, hcat]; omega) hlocks
  obtain ⟨f1, f2⟩ := vx_frame hsame
  rw [hhp] at f1 f2
  have hWs : s.WarmedH U.vm := State.WarmedH.trans hW0 hW
  have hcl : s.vm.findClass cls = some ce.cls := by
    have h9 := hO.cls
    rw [hvm] at h9
    exact h9
  have hall : s.sameButNew ({ U with vm := s.vm } : State) locs mc ms := by
    subst hA
    obtain ⟨e1, e2⟩ := hsame
    rw [State.setFrames_setFrames] at e1
    have h2 : (T.setVm s.vm).sameButNew ({ U with vm := s.vm } : State) [] (0 + 1) (0 + 6) := ⟨e1, e2⟩
    have h3 := X.same.trans h2
    rw [List.append_nil] at h3
    exact h3.mono hc hs
  refine ⟨U, ?_, .threw T.heap.size, hrun, hend, Or.inr ⟨T.heap.size, rfl, cls, ce, locs, hx U hWs.alike f1 (fun q hq => f2 q hq (fun z hz => nomatch hz)), hce, hO.vm, hcl, hWs, hall, hf⟩⟩
  refine st1 _ ?_
  show Steps p.tables e below (T1.setTop { method := m, pc := pc + 3, locals := ls, stack := .ref T.heap.size :: rest, locked := none }) _
  jvm_step X₁.here [X₁.here.top, hexec, d3', Value.category]
  exact hsteps
/-- 'throw new E("text")': new; dup; ldc; invokespecial; athrow -/
theorem vx_throwS {cc : ByteArray} {pc : Nat} (hexec : p.tables.exec = Jvm.exec) (hb : c.code = cc) (hl : l.stackTraces = false) {own cls text : String} {names : List String} {ik is ic mc ms sa : Nat} {A : Nat → Prop}
    (hown : s.vm.findClass own = some m.cls) (hcls : Bundle.fit cls = true) (hnames : ∀ n ∈ names, Bundle.fit n = true)
    (hk : (Cond.classLink own ik cls).before args s = true) (hini : (Cond.initialized cls).before args s = true) (hstr : vk_R own is text sa s) (hat : ∀ w ∈ vx_atS own ic cls names, w.before args s = true)
    (hgood : ∀ w ∈ Cond.classLink own ik cls :: Cond.initialized cls :: vx_atS own ic cls names, vx_ot w = true)
    (hU : vx_Zq Bundle.tN "UNASSIGNED_STACK" Bundle.steD A s s.heap) (hN : vx_Zq Bundle.tN "SUPPRESSED_SENTINEL" Bundle.listD A s s.heap) (hS : va_S A s.heap H locs) (hsize : ls.size = c.maxLocals)
    (d0 : decode cc pc = .ok (.new ik, 3)) (d3 : decode cc (pc + 3) = .ok (.dup, 1)) (d4 : decode cc (pc + 4) = .ok (.ldc is, 2)) (d6 : decode cc (pc + 6) = .ok (.invokespecial ic, 3)) (d9 : decode cc (pc + 9) = .ok (.athrow, 1))
    (hout : ∀ x ∈ c.exceptionTable.toList, covers x (pc + 9) = false)
    (hRframes : names.length + 3 < R.frames) (hRlocals : (rest.map fun v => v.category).sum + (13 * (names.length + 1) + 43) ≤ R.locals) (hRcells : cells + 1 ≤ R.cells) (hRslots : slots + 6 ≤ R.slots) (hlocks : meth.locks = false)
    (hx : ∀ t : State, s.vm.Alike t.vm → H.size ≤ t.heap.size → (∀ q : Nat, q < H.size → t.heap[q]? = H[q]?) → XC cls s t)
    (hf : ∀ z ∈ locs, free z.base) (hc : cells + 1 ≤ mc) (hs : slots + 6 ≤ ms) :
    W p l e R s m args below meth c H locs cells slots (vx_MQ below Qc XC args s mc ms free) (F0 m pc ls rest) := by
  intro T hT X
  have htr : e.platform.stackTraces = false := (show e.platform.stackTraces = l.stackTraces by rw [X.admits.platform]).trans hl
  have Y := vx_rebase X (R' := { frames := R.frames, locals := R.locals, cells := 1, slots := 6 }) (Nat.le_refl _) (Nat.le_refl _) hRcells hRslots
  obtain ⟨s', hA⟩ : ∃ z, z = (T.setVm s.vm).setFrames (.invoking m args :: below) := ⟨_, rfl⟩
  rw [← hA] at Y
  have hvm : s'.vm = s.vm := by rw [hA]; rfl
  have hhp : s'.heap = H := by rw [hA]; exact hT
  have hW0 : s.WarmedH s'.vm := by rw [hvm]; exact State.WarmedH.refl s
  have hat' : ∀ w ∈ vx_atS own ic cls names, w.before args s' = true := fun w hw => vx_ot_at hW0 hvm.symm (hgood w (List.mem_cons_of_mem _ (List.mem_cons_of_mem _ hw))) (hat w hw)
  have hk' : (Cond.classLink own ik cls).before args s' = true := vx_ot_at hW0 hvm.symm (hgood _ List.mem_cons_self) hk
  have hini' : (Cond.initialized cls).before args s' = true := vx_ot_at hW0 hvm.symm (hgood _ (List.mem_cons_of_mem _ List.mem_cons_self)) hini
  have hU' : vx_Zq Bundle.tN "UNASSIGNED_STACK" Bundle.steD A s' s'.heap := by rw [hhp]; exact vx_Zq.moved hW0.alike (hU.kept hS.2.1)
  have hN' : vx_Zq Bundle.tN "SUPPRESSED_SENTINEL" Bundle.listD A s' s'.heap := by rw [hhp]; exact vx_Zq.moved hW0.alike (hN.kept hS.2.1)
  have h : ∀ w ∈ Bundle.ownAtoms own ic cls names, w.before args s' = true := vx_own hat' (vx_isRefq hU'.1) (vx_isRefq hN'.1) hU'.2.word hN'.2.word
  have hown' : s'.vm.findClass own = some m.cls := by rw [hvm]; exact hown
  have hins : (Cond.instantiable cls 6).before args s' = true := h _ (by simp [Bundle.ownAtoms])
  obtain ⟨vm₁, cX, kX, hfX, hkX, -, -, X₁, st1⟩ := Y.newCold hexec (own := own) (C := cls) (index := ik) (n := 6) hown' hk' hins hini'
    (g := F0 m pc ls rest) rfl (by rw [hb]; exact d0) (Nat.le_refl _) (Nat.le_refl _)
  generalize hT1 : (T.setVm vm₁).pushCell { cls := cX, slots := kX.instanceTypes.map defaultValue, vm := .none } = T1 at X₁ st1
  have hcat : (Value.ref T.heap.size).category = 1 := rfl
  have hcellA : T1.heap[T.heap.size]? = some (freshCell cX kX) := by rw [← hT1]; exact State.heap_pushCell_size _ _
  have d3' : decode c.code (pc + 3) = .ok (.dup, 1) := by rw [hb]; exact d3
  have d4' : decode c.code (pc + 4) = .ok (.ldc is, 2) := by rw [hb]; exact d4
  have hstr' : vk_R own is text sa s' := vk_R.warm hW0 hstr
  obtain ⟨U, hsteps, hrun, hend, hW, hsame, ce, hce, hO⟩ := X₁.ctorThrowS hexec htr (own := own) (cls := cls) (names := names) (ic := ic) hown' hcls hnames h (fun x hx => nomatch hx) hfX hkX hcellA (by rw [hhp, hT]; exact Nat.le_refl _) (msg := .ref sa) rfl
    (g := { method := m, pc := pc + 6, locals := ls, stack := .ref sa :: .ref T.heap.size :: .ref T.heap.size :: rest, locked := none }) rfl hsize rfl rfl (rest := rest) rfl
    (by rw [hb]; exact d6) (by rw [hb]; exact d9) hout hRframes (by simp only [List.map_cons, List.sum_cons, hcat]; omega) hlocks
  obtain ⟨f1, f2⟩ := vx_frame hsame
  rw [hhp] at f1 f2
  have hWs : s.WarmedH U.vm := State.WarmedH.trans hW0 hW
  have hcl : s.vm.findClass cls = some ce.cls := by
    have h9 := hO.cls
    rw [hvm] at h9
    exact h9
  have hall : s.sameButNew ({ U with vm := s.vm } : State) locs mc ms := by
    subst hA
    obtain ⟨e1, e2⟩ := hsame
    rw [State.setFrames_setFrames] at e1
    have h2 : (T.setVm s.vm).sameButNew ({ U with vm := s.vm } : State) [] (0 + 1) (0 + 6) := ⟨e1, e2⟩
    have h3 := X.same.trans h2
    rw [List.append_nil] at h3
    exact h3.mono hc hs
  refine ⟨U, ?_, .threw T.heap.size, hrun, hend, Or.inr ⟨T.heap.size, rfl, cls, ce, locs, hx U hWs.alike f1 (fun q hq => f2 q hq (fun z hz => nomatch hz)), hce, hO.vm, hcl, hWs, hall, hf⟩⟩
  refine st1 _ ?_
  show Steps p.tables e below (T1.setTop { method := m, pc := pc + 3, locals := ls, stack := .ref T.heap.size :: rest, locked := none }) _
  jvm_step X₁.here [X₁.here.top, hexec, d3', Value.category]
  exact X₁.ldcString hexec (own := own) (text := text) (index := is) (a := sa) hown' hstr'.1 hstr'.2
    (g := { method := m, pc := pc + 4, locals := ls, stack := .ref T.heap.size :: .ref T.heap.size :: rest, locked := none }) rfl d4' _ hsteps
/-- 'throw new E("text")', the text by a wide index -/
theorem vx_throwSW {cc : ByteArray} {pc : Nat} (hexec : p.tables.exec = Jvm.exec) (hb : c.code = cc) (hl : l.stackTraces = false) {own cls text : String} {names : List String} {ik is ic mc ms sa : Nat} {A : Nat → Prop}
    (hown : s.vm.findClass own = some m.cls) (hcls : Bundle.fit cls = true) (hnames : ∀ n ∈ names, Bundle.fit n = true)
    (hk : (Cond.classLink own ik cls).before args s = true) (hini : (Cond.initialized cls).before args s = true) (hstr : vk_R own is text sa s) (hat : ∀ w ∈ vx_atS own ic cls names, w.before args s = true)
    (hgood : ∀ w ∈ Cond.classLink own ik cls :: Cond.initialized cls :: vx_atS own ic cls names, vx_ot w = true)
    (hU : vx_Zq Bundle.tN "UNASSIGNED_STACK" Bundle.steD A s s.heap) (hN : vx_Zq Bundle.tN "SUPPRESSED_SENTINEL" Bundle.listD A s s.heap) (hS : va_S A s.heap H locs) (hsize : ls.size = c.maxLocals)
    (d0 : decode cc pc = .ok (.new ik, 3)) (d3 : decode cc (pc + 3) = .ok (.dup, 1)) (d4 : decode cc (pc + 4) = .ok (.ldc_w is, 3)) (d7 : decode cc (pc + 7) = .ok (.invokespecial ic, 3)) (d10 : decode cc (pc + 10) = .ok (.athrow, 1))
    (hout : ∀ x ∈ c.exceptionTable.toList, covers x (pc + 10) = false)
    (hRframes : names.length + 3 < R.frames) (hRlocals : (rest.map fun v => v.category).sum + (13 * (names.length + 1) + 43) ≤ R.locals) (hRcells : cells + 1 ≤ R.cells) (hRslots : slots + 6 ≤ R.slots) (hlocks : meth.locks = false)
    (hx : ∀ t : State, s.vm.Alike t.vm → H.size ≤ t.heap.size → (∀ q : Nat, q < H.size → t.heap[q]? = H[q]?) → XC cls s t)
    (hf : ∀ z ∈ locs, free z.base) (hc : cells + 1 ≤ mc) (hs : slots + 6 ≤ ms) :
    W p l e R s m args below meth c H locs cells slots (vx_MQ below Qc XC args s mc ms free) (F0 m pc ls rest) := by
  intro T hT X
  have htr : e.platform.stackTraces = false := (show e.platform.stackTraces = l.stackTraces by rw [X.admits.platform]).trans hl
  have Y := vx_rebase X (R' := { frames := R.frames, locals := R.locals, cells := 1, slots := 6 }) (Nat.le_refl _) (Nat.le_refl _) hRcells hRslots
  obtain ⟨s', hA⟩ : ∃ z, z = (T.setVm s.vm).setFrames (.invoking m args :: below) := ⟨_, rfl⟩
  rw [← hA] at Y
  have hvm : s'.vm = s.vm := by rw [hA]; rfl
  have hhp : s'.heap = H := by rw [hA]; exact hT
  have hW0 : s.WarmedH s'.vm := by rw [hvm]; exact State.WarmedH.refl s
  have hat' : ∀ w ∈ vx_atS own ic cls names, w.before args s' = true := fun w hw => vx_ot_at hW0 hvm.symm (hgood w (List.mem_cons_of_mem _ (List.mem_cons_of_mem _ hw))) (hat w hw)
  have hk' : (Cond.classLink own ik cls).before args s' = true := vx_ot_at hW0 hvm.symm (hgood _ List.mem_cons_self) hk
  have hini' : (Cond.initialized cls).before args s' = true := vx_ot_at hW0 hvm.symm (hgood _ (List.mem_cons_of_mem _ List.mem_cons_self)) hini
  have hU' : vx_Zq Bundle.tN "UNASSIGNED_STACK" Bundle.steD A s' s'.heap := by rw [hhp]; exact vx_Zq.moved hW0.alike (hU.kept hS.2.1)
  have hN' : vx_Zq Bundle.tN "SUPPRESSED_SENTINEL" Bundle.listD A s' s'.heap := by rw [hhp]; exact vx_Zq.moved hW0.alike (hN.kept hS.2.1)
  have h : ∀ w ∈ Bundle.ownAtoms own ic cls names, w.before args s' = true := vx_own hat' (vx_isRefq hU'.1) (vx_isRefq hN'.1) hU'.2.word hN'.2.word
  have hown' : s'.vm.findClass own = some m.cls := by rw [hvm]; exact hown
  have hins : (Cond.instantiable cls 6).before args s' = true := h _ (by simp [Bundle.ownAtoms])
  obtain ⟨vm₁, cX, kX, hfX, hkX, -, -, X₁, st1⟩ := Y.newCold hexec (own := own) (C := cls) (index := ik) (n := 6) hown' hk' hins hini'
    (g := F0 m pc ls rest) rfl (by rw [hb]; exact d0) (Nat.le_refl _) (Nat.le_refl _)
  generalize hT1 : (T.setVm vm₁).pushCell { cls := cX, slots := kX.instanceTypes.map defaultValue, vm := .none } = T1 at X₁ st1
  have hcat : (Value.ref T.heap.size).category = 1 := rfl
  have hcellA : T1.heap[T.heap.size]? = some (freshCell cX kX) := by rw [← hT1]; exact State.heap_pushCell_size _ _
  have d3' : decode c.code (pc + 3) = .ok (.dup, 1) := by rw [hb]; exact d3
  have d4' : decode c.code (pc + 4) = .ok (.ldc_w is, 3) := by rw [hb]; exact d4
  have hstr' : vk_R own is text sa s' := vk_R.warm hW0 hstr
  obtain ⟨U, hsteps, hrun, hend, hW, hsame, ce, hce, hO⟩ := X₁.ctorThrowS hexec htr (own := own) (cls := cls) (names := names) (ic := ic) hown' hcls hnames h (fun x hx => nomatch hx) hfX hkX hcellA (by rw [hhp, hT]; exact Nat.le_refl _) (msg := .ref sa) rfl
    (g := { method := m, pc := pc + 7, locals := ls, stack := .ref sa :: .ref T.heap.size :: .ref T.heap.size :: rest, locked := none }) rfl hsize rfl rfl (rest := rest) rfl
    (by rw [hb]; exact d7) (by rw [hb]; exact d10) hout hRframes (by simp only [List.map_cons, List.sum_cons, hcat]; omega) hlocks
  obtain ⟨f1, f2⟩ := vx_frame hsame
  rw [hhp] at f1 f2
  have hWs : s.WarmedH U.vm := State.WarmedH.trans hW0 hW
  have hcl : s.vm.findClass cls = some ce.cls := by
    have h9 := hO.cls
    rw [hvm] at h9
    exact h9
  have hall : s.sameButNew ({ U with vm := s.vm } : State) locs mc ms := by
    subst hA
    obtain ⟨e1, e2⟩ := hsame
    rw [State.setFrames_setFrames] at e1
    have h2 : (T.setVm s.vm).sameButNew ({ U with vm := s.vm } : State) [] (0 + 1) (0 + 6) := ⟨e1, e2⟩
    have h3 := X.same.trans h2
    rw [List.append_nil] at h3
    exact h3.mono hc hs
  refine ⟨U, ?_, .threw T.heap.size, hrun, hend, Or.inr ⟨T.heap.size, rfl, cls, ce, locs, hx U hWs.alike f1 (fun q hq => f2 q hq (fun z hz => nomatch hz)), hce, hO.vm, hcl, hWs, hall, hf⟩⟩
  refine st1 _ ?_
  show Steps p.tables e below (T1.setTop { method := m, pc := pc + 3, locals := ls, stack := .ref T.heap.size :: rest, locked := none }) _
  jvm_step X₁.here [X₁.here.top, hexec, d3', Value.category]
  exact X₁.ldcStringW hexec (own := own) (text := text) (index := is) (a := sa) hown' hstr'.1 hstr'.2
    (g := { method := m, pc := pc + 4, locals := ls, stack := .ref T.heap.size :: .ref T.heap.size :: rest, locked := none }) rfl d4' _ hsteps
end Ends
section Bodies
variable {l : Launch}
theorem vx_ofW {y : MethodName} {ws ws' : List Cond} {rm : Room} {Pc : Array Value → State → Prop} {Qc : Array Value → State → Outcome → State → Prop} {XC : String → State → State → Prop} {mc ms : Nat} {free : Addr → Prop} {cc : ByteArray} {maxL : Nat} {ret : Option FieldType}
    (hy : plainName y.cls = true) (hw : ws = Cond.code y cc maxL ret :: ws')
    (body : ∀ p e s m args below meth c s₁, BodyLoose p l y (headSpec ws rm) cc maxL ret e s m args below meth c s₁ → c.maxLocals = maxL → (∀ x ∈ c.exceptionTable.toList, False) → Pc args s →
      W p l e (headSpec ws rm).room s m args below meth c s.heap [] 0 0 (vx_MQ below Qc XC args s mc ms free) (entryFrame m args maxL)) : vx_Met l y ws rm Pc Qc XC mc ms free := by
  refine MetFree.of_bodyS (code := cc) (maxLocals := maxL) (ret := ret) hy ?_ ?_
  · intro args s m h hn
    obtain ⟨meth, c, h1, h2, h3, h4, h5, h6, -, -⟩ := Cond.code_spec hn (atoms_spec (ws := ws) h _ (by rw [hw]; exact List.mem_cons_self))
    exact ⟨meth, c, h1, h2, h3, h4, h5, h6⟩
  · intro p e s m args below meth c s₁ B hml hP _
    have hh0 : s₁.heap = s.heap := by rw [B.state]; rfl
    have ht : ∀ x ∈ c.exceptionTable.toList, False := by
      obtain ⟨meth9, c9, h1, h2, -, -, -, -, h7, -⟩ := Cond.code_spec B.named (atoms_spec (ws := ws) B.pre _ (by rw [hw]; exact List.mem_cons_self))
      cases Option.some.inj (h1.symm.trans B.method)
      cases Option.some.inj (h2.symm.trans (Stand.of_body B).code)
      intro x hx
      rw [Array.isEmpty_iff.mp h7] at hx
      cases hx
    obtain ⟨t, a1, o, b1, b2, b3⟩ := body p e s m args below meth c s₁ B hml ht hP s₁ hh0 (Stand.of_body B)
    exact ⟨t, o, a1, b1, b2, b3⟩
/-- the table of a body with handlers -/
theorem vx_table {p : Program} {x y : MethodName} {S : Spec} {cc bytes : ByteArray} {maxL maxL' : Nat} {ret ret' : Option FieldType} {e : Env} {s s₁ : State} {m : MethodId} {args : Array Value} {below : List Frame} {meth : Method} {c : Code} {hh : List (Nat × Nat × Nat × Nat)}
    (B : BodyLoose p l y S cc maxL ret e s m args below meth c s₁) (h : (Cond.codeWith y bytes maxL' ret' hh).before args s = true) : c.exceptionTable.toList = tableOf hh := by
  obtain ⟨m9, meth9, c9, hn9, h1, h2, -, -, h6, -⟩ := Cond.codeWith_spec h
  cases Option.some.inj (hn9.symm.trans B.named)
  cases Option.some.inj (h1.symm.trans B.method)
  cases Option.some.inj (h2.symm.trans (Stand.of_body B).code)
  rw [← h6, table_eq]
end Bodies
end VXA
/-! ===== END ===== -/
/-! ===== BEGIN a static call of a method with an exception table ===== -/
section VXS
variable {p : Program} {l : Launch} {e : Env} {R : Room} {s : State} {m : MethodId} {args : Array Value} {below : List Frame} {meth : Method} {c : Code} {T : State} {H : Heap} {locs : List Loc} {cells slots : Nat}
abbrev vx_CSW (R : Room) (s : State) (args : Array Value) (own : String) (index : Nat) (y : MethodName) (bytes : ByteArray) (maxL : Nat) (ret : Option FieldType) (hh : List (Nat × Nat × Nat × Nat)) (ws : List Cond) (rm : Room) (mc ms n : Nat) : Prop :=
  (rm.cells = mc ∧ rm.slots = ms ∧ rm.frames + 1 ≤ R.frames ∧ 8 + (maxL + 11) + rm.locals ≤ R.locals ∧ (∀ w ∈ ws, ∀ (a' : Array Value) (U : State), s.WarmedH U.vm → w.before a' U = true) ∧ Cond.codeWith y bytes maxL ret hh ∈ ws) ∧
  (Cond.codeWith y bytes maxL ret hh).before args s = true ∧ (Cond.initialized y.cls).before args s = true ∧ (y.cls ≠ "java/lang/invoke/MethodHandle" ∧ y.cls ≠ "java/lang/invoke/VarHandle") ∧
  (∀ sig, parseMethodDescriptor y.desc = some sig → n = sig.parameters.length) ∧ (Cond.methodLink own index y).before args s = true ∧ (Cond.static y).before args s = true
theorem vx_cwSW {own : String} {index maxL mc ms : Nat} {y : MethodName} {bytes : ByteArray} {ret : Option FieldType} {hh : List (Nat × Nat × Nat × Nat)} {Ts ws ws' : List Cond} {rm : Room} (n : Nat) (ht : ∀ w ∈ Ts, w.before args s = true) (hT : GoodIn Ts (va_wsS own index y ws)) (hw : ws = Cond.codeWith y bytes maxL ret hh :: ws') (hrc : rm.cells = mc) (hrs : rm.slots = ms)
    (hd : y.cls ≠ "java/lang/invoke/MethodHandle" ∧ y.cls ≠ "java/lang/invoke/VarHandle" ∧ (parseMethodDescriptor y.desc).map (fun d => d.parameters.length) = some n) (hR : rm.frames + 1 ≤ R.frames ∧ 8 + (maxL + 11) + rm.locals ≤ R.locals) :
    vx_CSW R s args own index y bytes maxL ret hh ws rm mc ms n := by
  have ok : ∀ w ∈ va_wsS own index y ws, w.before args s = true := fun w h => ht w (hT w h).1
  have hG : GoodIn Ts ws := fun w h => hT w (by unfold va_wsS; exact List.mem_append_right _ h)
  have hc : Cond.codeWith y bytes maxL ret hh ∈ ws := by rw [hw]; exact List.mem_cons_self
  refine ⟨⟨hrc, hrs, hR.1, hR.2, pay_in ht hG, hc⟩, ht _ (hG _ hc).1, ok _ (by simp [va_wsS]), ⟨hd.1, hd.2.1⟩, fun sig h => ?_, ok _ (by simp [va_wsS]), ok _ (by simp [va_wsS])⟩
  have h2 := hd.2.2
  rw [h] at h2
  exact (Option.some.inj h2).symm
theorem vx_callSW (X : Stand p l e R s m args below meth c T locs cells slots) (hexec : p.tables.exec = Jvm.exec) {own : String} {index : Nat} {y : MethodName} {bytes : ByteArray} {maxL : Nat} {ret : Option FieldType} {hh : List (Nat × Nat × Nat × Nat)}
    (hown : s.vm.findClass own = some m.cls) (hlink : (Cond.methodLink own index y).before args s = true) (hstat : (Cond.static y).before args s = true) (hinit : (Cond.initialized y.cls).before args s = true)
    (hcode : (Cond.codeWith y bytes maxL ret hh).before args s = true) (hy : y.cls ≠ "java/lang/invoke/MethodHandle" ∧ y.cls ≠ "java/lang/invoke/VarHandle")
    {W9 : Nat} {Pre : Pt → Array Value → Prop} {Post : Pt → Array Value → Option Value → Pt → Prop} (hK : Back l R p e below s args y 3 W9 Pre Post)
    {g : JFrame} (hg : g.method = m) (hsize : g.locals.size = c.maxLocals) {argsL rest : List Value} (hlen : ∀ sig, parseMethodDescriptor y.desc = some sig → argsL.length = sig.parameters.length)
    (hstack : g.stack = argsL.reverse ++ rest) (hW : 2 * g.monitorRoom + (rest.map fun v => v.category).sum ≤ W9) (hdg : decode c.code g.pc = .ok (.invokestatic index, 3))
    (hpre : ∀ vm₁, s.WarmedH vm₁ → Pre ⟨T.setVm vm₁, locs, cells, slots⟩ argsL.toArray) :
    ∃ (v : Option Value) (vm₁ : Vm) (B : Pt), s.WarmedH vm₁ ∧ Stand p l e R s m args below meth c B.U B.locs B.cells B.slots ∧ Post ⟨T.setVm vm₁, locs, cells, slots⟩ argsL.toArray v B ∧
      ∀ target, Steps p.tables e below (B.U.setTop { g with pc := g.pc + 3, stack := v.toList ++ rest }) target → Steps p.tables e below (T.setTop g) target := by
  obtain ⟨mk, methM, cM, hnamed, hmethM, -, -, -, -, -, -, hsigM⟩ := Cond.codeWith_spec hcode
  have hstatic : methM.isStatic = true := Cond.static_spec hnamed hmethM hstat
  obtain ⟨kP, hkP, -⟩ := className_of_methodNamed hnamed
  have hinitP : kP.init = .initialized := Cond.initialized_spec (findClass_of_methodNamed hnamed) hkP hinit
  obtain ⟨vm₁, X₁, hstep₁⟩ := X.invokestatic hexec hown hlink hnamed hmethM hstatic hkP hinitP hy (g := g) hg (argsL := argsL) (rest := rest) (hlen _ hsigM) hstack hdg
  obtain ⟨v, B, X', hpost, hsteps⟩ := hK m meth c ⟨T.setVm vm₁, locs, cells, slots⟩ { g with stack := rest } (.invokestatic index) mk argsL.toArray X₁ hg hsize hdg hW (X₁.named hnamed) (hpre vm₁ X₁.warmed)
  exact ⟨v, vm₁, B, X₁.warmed, X', hpost, fun target h => hstep₁ _ fun acts => by rw [doInvoke_state]; exact hsteps.trans h⟩
theorem vx_runSW {y : MethodName} {bytes cc : ByteArray} {maxL nL mc ms n index : Nat} {ret : Option FieldType} {hh : List (Nat × Nat × Nat × Nat)} {ws : List Cond} {rm : Room} {Pc : Array Value → State → Prop} {Qc : Array Value → State → Outcome → State → Prop} {free : Addr → Prop} {Ts : List Cond} {own : String} {As rest : List Value} {g : JFrame}
    (S : CallFix p m c cc nL s args Ts own) (hM : Met l y ws rm Pc Qc mc ms free) (cw : vx_CSW R s args own index y bytes maxL ret hh ws rm mc ms n) (hp : PreS s H Pc As)
    (hg : g.method = m) (hn : As.length = n) (hsize : g.locals.size = nL) (hstack : g.stack = As.reverse ++ rest) (hW : 2 * g.monitorRoom + (rest.map fun v => v.category).sum ≤ 8) (hdg : decode cc g.pc = .ok (.invokestatic index, 3)) (hf : cells + mc ≤ R.cells ∧ slots + ms ≤ R.slots) :
    va_Run p l e R s m args below meth c H locs cells slots mc ms g rest (Qc As.toArray) (free) := by
  obtain ⟨⟨hrc, hrs, hfr, hlo, hws, hcw⟩, hcode, hini, hy, hlen, hl, hstt⟩ := cw
  have hK : Back l R p e below s args y 3 8 (PreOf R mc ms Pc) (PostOf Qc mc ms free) := va_backW (hh := hh) (bytes := bytes) (maxL := maxL) (ret := ret) hM hp.1 hrc hrs hfr hlo hws hcw (fun a' U hW => word_at hW (Or.inl (by first | rfl | simp [Cond.onTables, Cond.keeps, Cond.steady])) hini)
  obtain ⟨hx, hb, hml, ho, -⟩ := S
  intro T hT X
  obtain ⟨v, vm₁, ⟨U', l2, c2, s2⟩, hW₁, X', ⟨g', mk, t, L, e1, e2, hq, h1, hL, h2, h3⟩, st⟩ := vx_callSW X hx (hh := hh) (bytes := bytes) (maxL := maxL) (ret := ret) ho hl hstt hini hcode hy hK hg (hsize.trans hml.symm) (argsL := As) (rest := rest) (fun sig h => hn.trans (hlen sig h)) hstack hW (by rw [hb]; exact hdg)
    (fun vm₁ hW₁ => ⟨hf.1, hf.2, hp.2 (T.setVm vm₁) hT hW₁⟩)
  dsimp only [Pt.U, Pt.locs, Pt.cells, Pt.slots] at X' e1 e2 h1 h2 h3 st
  subst h1; subst h2; subst h3
  exact ⟨v, (T.setVm vm₁).calling g' mk As.toArray, t, U', L, hT, X', hL, e1, e2, hq, st⟩
/-- not caught here, past rows that name other classes: it goes on to the caller -/
theorem vx_outP {p : Program} {l : Launch} {e : Env} {R : Room} {s : State} {m : MethodId} {args : Array Value} {below : List Frame} {meth : Method} {c : Code} {H : Heap} {locs : List Loc} {cells slots : Nat} {free : Addr → Prop} {ls : Array Slot} {rest : List Value} {Qc : Array Value → State → Outcome → State → Prop} {XC : String → State → State → Prop}
    {pc : Nat} {own E : String} {ce : Cell} {q : Addr} {mc ms : Nat} (hown : s.vm.findClass own = some m.cls) (hlocks : meth.locks = false)
    (hpass : ∀ z ∈ c.exceptionTable.toList, covers z pc = false ∨ (z.catchType ≠ 0 ∧ ∃ nm : String, (Cond.classLink own z.catchType nm).before args s = true ∧ va_Nc E nm s)) (hcell : H[q]? = some ce) (hv : ce.vm = .none) (hcl : s.vm.findClass E = some ce.cls)
    (hx : ∀ t : State, t.heap = H → s.vm.Alike t.vm → XC E s t) (hf : ∀ z ∈ locs, free z.base) (hc : cells ≤ mc) (hs : slots ≤ ms) :
    vx_W p l e R s m args below meth c H locs cells slots (vx_MQ below Qc XC args s mc ms free) (F0 m pc ls rest) q := by
  intro T hT X
  have hpl : e.platform.magicAccessors = ({} : Platform).magicAccessors := by rw [X.admits.platform]
  obtain ⟨vm', hW', X', st⟩ := X.outThrough hlocks q (g := F0 m pc ls rest) rfl rfl rfl (cell := ce) (by rw [hT]; exact hcell) (by rw [hv]; rfl)
    (by obtain ⟨k9, h9, -⟩ := Vm.findClass_spec hcl; exact ⟨k9, h9⟩) (fun z hz => by
      rcases hpass z hz with h | ⟨hz0, nm, hl1, hn1⟩
      · exact Or.inl h
      · obtain ⟨c6, hc6, hcl6⟩ := Cond.classLink_spec hown hl1 e.platform hpl
        obtain ⟨a8, b8, h1, h2, h3⟩ := hn1
        cases Option.some.inj (h1.symm.trans hcl)
        cases Option.some.inj (h2.symm.trans hc6)
        exact Or.inr ⟨hz0, _, hcl6, h3⟩)
  obtain ⟨g₀, hfr⟩ := X'.frames_eq
  have hcell9 : ((T.setVm vm').setFrames (.throwing q :: below)).heap[q]? = some ce := by
    show T.heap[q]? = some ce
    rw [hT]; exact hcell
  have hend : Ended ((T.setVm vm').setFrames (.throwing q :: below)) below (.threw q) := State.frames_setFrames _ (State.cur_lt_of_frames hfr)
  refine ⟨(T.setVm vm').setFrames (.throwing q :: below), ?_, .threw q, X'.here.running, hend, Or.inr ⟨q, rfl, E, ce, locs, hx _ hT (X'.ends _).1.alike, hcell9, hv, hcl, (X'.ends _).1, (X'.ends _).2.mono hc hs, hf⟩⟩
  rw [X.pushThrowing_eq]
  exact st
/-- a thing of a world lies in the heap -/
theorem vx_lt {D : va_G} {cl : List vw_C} {ws : va_W} {H1 : Heap} (h : va_P D cl ws H1) {k : Nat} {q : Nat × va_E} (hk : ws[k]? = some q) : q.1 < H1.size := (h k q hk).lt
end VXS
/-! ===== END ===== -/
/-! ===== BEGIN methods with a table of their own: called by a name, returning or throwing ===== -/
section VXH
/-! vx_backW, vx_callVX, vx_callSX, vx_callVW, vx_runVW, vx_runVX, vx_runSX, vx_ofWH follow the same proofs as their sisters above (Free/Laws.lean, Shelf42/LK1.lean); vx_outP calls Shelf42/NT130.lean (outThrough). -/
section
variable {l : Launch} {R : Room} {p : Program} {e : Env} {below : List Frame} {s : State} {sargs : Array Value} {y : MethodName} {len W9 : Nat}
theorem vx_backW {ws : List Cond} {rm : Room} {Pc : Array Value → State → Prop} {Qc : Array Value → State → Outcome → State → Prop} {XC : String → State → State → Prop} {mc ms : Nat} {free : Addr → Prop} {bytes : ByteArray} {maxL : Nat} {ret : Option FieldType} {hh : List (Nat × Nat × Nat × Nat)}
    (hM : vx_Met l y ws rm Pc Qc XC mc ms free) (hblind : FrameBlind Pc) (hrc : rm.cells = mc) (hrs : rm.slots = ms)
    (hframes : rm.frames + 1 ≤ R.frames) (hlocals : W9 + (maxL + 11) + rm.locals ≤ R.locals)
    (hws : ∀ w ∈ ws, ∀ a' U, s.WarmedH U.vm → w.before a' U = true) (hcode : Cond.codeWith y bytes maxL ret hh ∈ ws) (hinit : ∀ a' U, s.WarmedH U.vm → (Cond.initialized y.cls).before a' U = true) :
    vx_Back l R p e below s sargs y len W9 (PreOf R mc ms Pc) (PostOf Qc mc ms free) (vx_Post XC mc ms free) := by
  intro m meth c A g ig mk a X hg hsize hdg hW hn hp
  have h1 : (headSpec ws rm).pre.before a A.U = true := atoms_intro fun w hw => hws w hw _ _ X.warmed
  have h2 : (Cond.codeWith y bytes maxL ret hh).before a A.U = true := hws _ hcode _ _ X.warmed
  have h3 : (Cond.initialized y.cls).before a A.U = true := hinit _ _ X.warmed
  have h4 : A.cells + (headSpec ws rm).room.cells ≤ R.cells := by rw [show (headSpec ws rm).room.cells = mc from hrc]; exact hp.1
  have h5 : A.slots + (headSpec ws rm).room.slots ≤ R.slots := by rw [show (headSpec ws rm).room.slots = ms from hrs]; exact hp.2.1
  have hPc : Pc a (A.U.calling g mk a) := hblind _ _ _ _ hp.2.2
  obtain ⟨U, Ls, c0, s0⟩ := A
  dsimp only [Pt.U, Pt.locs, Pt.cells, Pt.slots] at h1 h2 h3 h4 h5 X hn hPc ⊢
  obtain ⟨m9, methY, cY, hn9, hmY, hcY, -, hlY, -⟩ := Cond.codeWith_spec h2
  cases Option.some.inj (hn9.symm.trans hn)
  obtain ⟨kY, hkY, -⟩ := className_of_methodNamed hn
  have hinitY : kY.init = .initialized := Cond.initialized_spec (findClass_of_methodNamed hn) hkY h3
  have h : At U g.method c below := by rw [hg]; exact X.here
  have hlocals9 : W9 + (maxL + 11) + (headSpec ws rm).room.locals ≤ R.locals := hlocals
  have happ : (headSpec ws rm).appliesLoose y e.platform (U.calling g mk a) = true :=
    Spec.appliesLoose_calling (g := g) h hdg hn hkY hinitY
      (X.room_calling (g := g) (R' := (headSpec ws rm).room) hsize hmY hcY hframes (by rw [hlY]; omega) h4 h5) h1
  obtain ⟨mid, hmid⟩ := h.above
  have hfr : (U.setTop g).frames = (.java g :: mid) ++ below := by rw [State.frames_setTop' g h.top, hmid]; rfl
  obtain ⟨o, s₂, hsteps, -, hend, hq⟩ := Steps.callFree hM p X.admits X.cas X.clock (acts := []) hfr happ hPc trivial
  have hq' : vx_Q Qc XC mc ms free a (U.calling g mk a) o s₂ := hq
  rw [State.frames_setTop' g h.top] at hend
  obtain ⟨g₀, hg0⟩ := Option.isSome_iff_exists.mp h.top
  obtain ⟨r, hr⟩ := State.topJava?_eq_some.mp hg0
  have hr' : (({ U with heap := s₂.heap, slotsUsed := s₂.slotsUsed } : State).setVm s₂.vm).frames = .java g₀ :: r := hr
  rcases hq' with ⟨hqc, L, hfe, hL⟩ | ⟨q, rfl, E, ce, L, hx, hce, hcv, hcl, hW₂, hsm, hL⟩
  · obtain ⟨⟨v, rfl⟩, hW₂, e2, q2, q3, q4, q5, q6⟩ := id hfe
    have e3 : s₂ = ({ (U.calling g mk a).setFrames s₂.frames with heap := s₂.heap, slotsUsed := s₂.slotsUsed } : State).setVm s₂.vm := by
      have : s₂ = ({ s₂ with vm := (U.calling g mk a).vm } : State).setVm s₂.vm := rfl
      rw [e2] at this
      exact this
    obtain ⟨c₂, i₂, len₂, hc₂, hd₂, hf₂⟩ := hend
    have hW' : U.WarmedH s₂.vm := hW₂
    have hcc : c₂ = c := by
      have h1 : s₂.code? g.method = U.code? g.method := by
        rw [State.code?_eq, State.code?_eq, hW'.alike.method?]
      exact Option.some.inj (hc₂.symm.trans (h1.trans h.code))
    subst hcc
    have hlen : len₂ = len := by rw [hdg] at hd₂; cases hd₂; rfl
    subst hlen
    have hs₂ : s₂ = (({ U with heap := s₂.heap, slotsUsed := s₂.slotsUsed } : State).setVm s₂.vm).setTop { g with pc := g.pc + len₂, stack := v.toList ++ g.stack } := by
      refine e3.trans ?_
      rw [hf₂, State.calling_eq h.top, State.setFrames_setFrames, State.setTop_of_frames _ hr', hr]
      rfl
    have hsame : U.sameButNew ({ U with heap := s₂.heap, slotsUsed := s₂.slotsUsed } : State) L mc ms := by
      refine ⟨?_, q2, q3, q4, q5, q6⟩
      obtain ⟨t, ht, -⟩ := State.frames_cons hr
      show ({ U with heap := s₂.heap, slotsUsed := s₂.slotsUsed } : State) = { U.setFrames U.frames with heap := s₂.heap, slotsUsed := s₂.slotsUsed }
      rw [State.setFrames_self ht]
    subst hg
    refine Or.inl ⟨v, ⟨(({ U with heap := s₂.heap, slotsUsed := s₂.slotsUsed } : State).setVm s₂.vm), Ls ++ L, c0 + mc, s0 + ms⟩,
      ⟨X.admits, X.cas, X.clock, X.frames, X.room, X.hears, X.method, X.code, (X.here.setHeapUsed s₂.heap s₂.slotsUsed).setVm hW'.alike, X.tail, State.WarmedH.trans X.warmed hW', X.limits, X.bytes, X.same.trans (hsame.setVm s.vm)⟩,
      ⟨g, mk, s₂, L, rfl, rfl, hqc, rfl, hL, rfl, rfl⟩, ?_⟩
    show Steps p.tables e below _ ((({ U with heap := s₂.heap, slotsUsed := s₂.slotsUsed } : State).setVm s₂.vm).setTop { g with pc := g.pc + len₂, stack := v.toList ++ g.stack })
    rw [← hs₂]
    exact hsteps
  · obtain ⟨e2, q2, q3, q4, q5, q6⟩ := id hsm
    have e3 : s₂ = ({ (U.calling g mk a).setFrames s₂.frames with heap := s₂.heap, slotsUsed := s₂.slotsUsed } : State).setVm s₂.vm := by
      have : s₂ = ({ s₂ with vm := (U.calling g mk a).vm } : State).setVm s₂.vm := rfl
      rw [e2] at this
      exact this
    have hf₂ : s₂.frames = .throwing q :: .java g :: U.frames.tail := hend
    have hW' : U.WarmedH s₂.vm := hW₂
    have hs₂ : s₂ = ((({ U with heap := s₂.heap, slotsUsed := s₂.slotsUsed } : State).setVm s₂.vm).setTop g).pushFrame (.throwing q) := by
      refine e3.trans ?_
      rw [hf₂, State.calling_eq h.top, State.setFrames_setFrames, State.pushFrame, State.frames_setTop _ hr', State.setTop_of_frames _ hr', State.setFrames_setFrames, hr]
      rfl
    have hsame : U.sameButNew ({ U with heap := s₂.heap, slotsUsed := s₂.slotsUsed } : State) L mc ms := by
      refine ⟨?_, q2, q3, q4, q5, q6⟩
      obtain ⟨t, ht, -⟩ := State.frames_cons hr
      show ({ U with heap := s₂.heap, slotsUsed := s₂.slotsUsed } : State) = { U.setFrames U.frames with heap := s₂.heap, slotsUsed := s₂.slotsUsed }
      rw [State.setFrames_self ht]
    subst hg
    refine Or.inr ⟨q, ⟨(({ U with heap := s₂.heap, slotsUsed := s₂.slotsUsed } : State).setVm s₂.vm), Ls ++ L, c0 + mc, s0 + ms⟩,
      ⟨X.admits, X.cas, X.clock, X.frames, X.room, X.hears, X.method, X.code, (X.here.setHeapUsed s₂.heap s₂.slotsUsed).setVm hW'.alike, X.tail, State.WarmedH.trans X.warmed hW', X.limits, X.bytes, X.same.trans (hsame.setVm s.vm)⟩,
      ⟨g, mk, s₂, L, E, ce, rfl, rfl, hx, hce, hcv, hcl, rfl, hL, rfl, rfl⟩, ?_⟩
    show Steps p.tables e below _ (((({ U with heap := s₂.heap, slotsUsed := s₂.slotsUsed } : State).setVm s₂.vm).setTop g).pushFrame (.throwing q))
    rw [← hs₂]
    exact hsteps
end
variable {p : Program} {l : Launch} {e : Env} {R : Room} {s : State} {m : MethodId} {args : Array Value} {below : List Frame} {meth : Method} {c : Code} {T : State} {H : Heap} {locs : List Loc} {cells slots : Nat}
theorem vx_callVX (X : Stand p l e R s m args below meth c T locs cells slots) (hexec : p.tables.exec = Jvm.exec) {own C : String} {index : Nat} {y : MethodName} {bytes : ByteArray} {maxL : Nat} {ret : Option FieldType} {hh : List (Nat × Nat × Nat × Nat)}
    (hown : s.vm.findClass own = some m.cls) (hlink : (Cond.methodLink own index y).before args s = true) (hinst : (Cond.instanceMethod y).before args s = true) (hsel : (Cond.selects C y y).before args s = true)
    (hcode : (Cond.codeWith y bytes maxL ret hh).before args s = true) (hy : y.cls ≠ "java/lang/invoke/MethodHandle" ∧ y.cls ≠ "java/lang/invoke/VarHandle")
    {W9 : Nat} {Pre : Pt → Array Value → Prop} {Post : Pt → Array Value → Option Value → Pt → Prop} {PostX : Pt → Array Value → Addr → Pt → Prop} (hK : vx_Back l R p e below s args y 3 W9 Pre Post PostX)
    {b : Addr} {cellB : Cell} (hcell : T.heap[b]? = some cellB) (hobj : cellB.vm.isStatics = false) (hcls : s.vm.findClass C = some cellB.cls)
    {g : JFrame} (hg : g.method = m) (hsize : g.locals.size = c.maxLocals) {argsL rest : List Value} (hlen : ∀ sig, parseMethodDescriptor y.desc = some sig → argsL.length = sig.parameters.length)
    (hstack : g.stack = argsL.reverse ++ .ref b :: rest) (hW : 2 * g.monitorRoom + (rest.map fun v => v.category).sum ≤ W9) (hdg : decode c.code g.pc = .ok (.invokevirtual index, 3))
    (hpre : ∀ vm₁, s.WarmedH vm₁ → Pre ⟨T.setVm vm₁, locs, cells, slots⟩ (Value.ref b :: argsL).toArray) :
    (∃ (v : Option Value) (vm₁ : Vm) (B : Pt), s.WarmedH vm₁ ∧ Stand p l e R s m args below meth c B.U B.locs B.cells B.slots ∧ Post ⟨T.setVm vm₁, locs, cells, slots⟩ (Value.ref b :: argsL).toArray v B ∧
      ∀ target, Steps p.tables e below (B.U.setTop { g with pc := g.pc + 3, stack := v.toList ++ rest }) target → Steps p.tables e below (T.setTop g) target) ∨
    (∃ (q : Addr) (vm₁ : Vm) (B : Pt), s.WarmedH vm₁ ∧ Stand p l e R s m args below meth c B.U B.locs B.cells B.slots ∧ PostX ⟨T.setVm vm₁, locs, cells, slots⟩ (Value.ref b :: argsL).toArray q B ∧
      Steps p.tables e below (T.setTop g) ((B.U.setTop { g with stack := rest }).pushFrame (.throwing q))) := by
  obtain ⟨mk, methM, hnamed, hmethM, hstM, habM⟩ := Cond.instanceMethod_spec hinst
  obtain ⟨m8, methM', cM, hn8, hmethM', -, -, -, -, -, -, hsigM⟩ := Cond.codeWith_spec hcode
  cases Option.some.inj (hn8.symm.trans hnamed)
  cases hmethM.symm.trans hmethM'
  obtain ⟨c2, r2, m2, q1, q2, q3, q4, kP, hkP, hkPi⟩ := Cond.selects_spec hsel
  cases hcls.symm.trans q1
  cases (State.methodFound?_of_named hnamed hy).symm.trans q2
  cases hnamed.symm.trans q3
  have hselP : selectMethod e.platform s.vm cellB.cls mk = .method mk := by rw [Launch.admits_selectMethod X.admits]; exact q4
  obtain ⟨vm₁, X₁, hstep₁⟩ := X.invokevirtual hexec hown hlink hnamed hmethM hstM hkP hkPi hy (a := b) (cell := cellB) hcell
    (fun z h => by rw [h] at hobj; cases hobj) hselP hmethM habM hkP hkPi (g := g) hg (argsL := argsL) (rest := rest) (hlen _ hsigM) hstack hdg
  rcases hK m meth c ⟨T.setVm vm₁, locs, cells, slots⟩ { g with stack := rest } (.invokevirtual index) mk (Value.ref b :: argsL).toArray X₁ hg hsize hdg hW (X₁.named hnamed) (hpre vm₁ X₁.warmed) with ⟨v, B, X', hpost, hsteps⟩ | ⟨q, B, X', hpost, hsteps⟩
  · exact Or.inl ⟨v, vm₁, B, X₁.warmed, X', hpost, fun target h => hstep₁ _ fun acts => by rw [doInvoke_state]; exact hsteps.trans h⟩
  · exact Or.inr ⟨q, vm₁, B, X₁.warmed, X', hpost, hstep₁ _ fun acts => by rw [doInvoke_state]; exact hsteps⟩
theorem vx_callSX (X : Stand p l e R s m args below meth c T locs cells slots) (hexec : p.tables.exec = Jvm.exec) {own : String} {index : Nat} {y : MethodName} {bytes : ByteArray} {maxL : Nat} {ret : Option FieldType} {hh : List (Nat × Nat × Nat × Nat)}
    (hown : s.vm.findClass own = some m.cls) (hlink : (Cond.methodLink own index y).before args s = true) (hstat : (Cond.static y).before args s = true) (hinit : (Cond.initialized y.cls).before args s = true)
    (hcode : (Cond.codeWith y bytes maxL ret hh).before args s = true) (hy : y.cls ≠ "java/lang/invoke/MethodHandle" ∧ y.cls ≠ "java/lang/invoke/VarHandle")
    {W9 : Nat} {Pre : Pt → Array Value → Prop} {Post : Pt → Array Value → Option Value → Pt → Prop} {PostX : Pt → Array Value → Addr → Pt → Prop} (hK : vx_Back l R p e below s args y 3 W9 Pre Post PostX)
    {g : JFrame} (hg : g.method = m) (hsize : g.locals.size = c.maxLocals) {argsL rest : List Value} (hlen : ∀ sig, parseMethodDescriptor y.desc = some sig → argsL.length = sig.parameters.length)
    (hstack : g.stack = argsL.reverse ++ rest) (hW : 2 * g.monitorRoom + (rest.map fun v => v.category).sum ≤ W9) (hdg : decode c.code g.pc = .ok (.invokestatic index, 3))
    (hpre : ∀ vm₁, s.WarmedH vm₁ → Pre ⟨T.setVm vm₁, locs, cells, slots⟩ argsL.toArray) :
    (∃ (v : Option Value) (vm₁ : Vm) (B : Pt), s.WarmedH vm₁ ∧ Stand p l e R s m args below meth c B.U B.locs B.cells B.slots ∧ Post ⟨T.setVm vm₁, locs, cells, slots⟩ argsL.toArray v B ∧
      ∀ target, Steps p.tables e below (B.U.setTop { g with pc := g.pc + 3, stack := v.toList ++ rest }) target → Steps p.tables e below (T.setTop g) target) ∨
    (∃ (q : Addr) (vm₁ : Vm) (B : Pt), s.WarmedH vm₁ ∧ Stand p l e R s m args below meth c B.U B.locs B.cells B.slots ∧ PostX ⟨T.setVm vm₁, locs, cells, slots⟩ argsL.toArray q B ∧
      Steps p.tables e below (T.setTop g) ((B.U.setTop { g with stack := rest }).pushFrame (.throwing q))) := by
  obtain ⟨mk, methM, cM, hnamed, hmethM, -, -, -, -, -, -, hsigM⟩ := Cond.codeWith_spec hcode
  have hstatic : methM.isStatic = true := Cond.static_spec hnamed hmethM hstat
  obtain ⟨kP, hkP, -⟩ := className_of_methodNamed hnamed
  have hinitP : kP.init = .initialized := Cond.initialized_spec (findClass_of_methodNamed hnamed) hkP hinit
  obtain ⟨vm₁, X₁, hstep₁⟩ := X.invokestatic hexec hown hlink hnamed hmethM hstatic hkP hinitP hy (g := g) hg (argsL := argsL) (rest := rest) (hlen _ hsigM) hstack hdg
  rcases hK m meth c ⟨T.setVm vm₁, locs, cells, slots⟩ { g with stack := rest } (.invokestatic index) mk argsL.toArray X₁ hg hsize hdg hW (X₁.named hnamed) (hpre vm₁ X₁.warmed) with ⟨v, B, X', hpost, hsteps⟩ | ⟨q, B, X', hpost, hsteps⟩
  · exact Or.inl ⟨v, vm₁, B, X₁.warmed, X', hpost, fun target h => hstep₁ _ fun acts => by rw [doInvoke_state]; exact hsteps.trans h⟩
  · exact Or.inr ⟨q, vm₁, B, X₁.warmed, X', hpost, hstep₁ _ fun acts => by rw [doInvoke_state]; exact hsteps⟩
theorem vx_callVW (X : Stand p l e R s m args below meth c T locs cells slots) (hexec : p.tables.exec = Jvm.exec) {own C : String} {index : Nat} {y : MethodName} {bytes : ByteArray} {maxL : Nat} {ret : Option FieldType} {hh : List (Nat × Nat × Nat × Nat)}
    (hown : s.vm.findClass own = some m.cls) (hlink : (Cond.methodLink own index y).before args s = true) (hinst : (Cond.instanceMethod y).before args s = true) (hsel : (Cond.selects C y y).before args s = true)
    (hcode : (Cond.codeWith y bytes maxL ret hh).before args s = true) (hy : y.cls ≠ "java/lang/invoke/MethodHandle" ∧ y.cls ≠ "java/lang/invoke/VarHandle")
    {W9 : Nat} {Pre : Pt → Array Value → Prop} {Post : Pt → Array Value → Option Value → Pt → Prop} (hK : Back l R p e below s args y 3 W9 Pre Post)
    {b : Addr} {cellB : Cell} (hcell : T.heap[b]? = some cellB) (hobj : cellB.vm.isStatics = false) (hcls : s.vm.findClass C = some cellB.cls)
    {g : JFrame} (hg : g.method = m) (hsize : g.locals.size = c.maxLocals) {argsL rest : List Value} (hlen : ∀ sig, parseMethodDescriptor y.desc = some sig → argsL.length = sig.parameters.length)
    (hstack : g.stack = argsL.reverse ++ .ref b :: rest) (hW : 2 * g.monitorRoom + (rest.map fun v => v.category).sum ≤ W9) (hdg : decode c.code g.pc = .ok (.invokevirtual index, 3))
    (hpre : ∀ vm₁, s.WarmedH vm₁ → Pre ⟨T.setVm vm₁, locs, cells, slots⟩ (Value.ref b :: argsL).toArray) :
    ∃ (v : Option Value) (vm₁ : Vm) (B : Pt), s.WarmedH vm₁ ∧ Stand p l e R s m args below meth c B.U B.locs B.cells B.slots ∧ Post ⟨T.setVm vm₁, locs, cells, slots⟩ (Value.ref b :: argsL).toArray v B ∧
      ∀ target, Steps p.tables e below (B.U.setTop { g with pc := g.pc + 3, stack := v.toList ++ rest }) target → Steps p.tables e below (T.setTop g) target := by
  obtain ⟨mk, methM, hnamed, hmethM, hstM, habM⟩ := Cond.instanceMethod_spec hinst
  obtain ⟨m8, methM', cM, hn8, hmethM', -, -, -, -, -, -, hsigM⟩ := Cond.codeWith_spec hcode
  cases Option.some.inj (hn8.symm.trans hnamed)
  cases hmethM.symm.trans hmethM'
  obtain ⟨c2, r2, m2, q1, q2, q3, q4, kP, hkP, hkPi⟩ := Cond.selects_spec hsel
  cases hcls.symm.trans q1
  cases (State.methodFound?_of_named hnamed hy).symm.trans q2
  cases hnamed.symm.trans q3
  have hselP : selectMethod e.platform s.vm cellB.cls mk = .method mk := by rw [Launch.admits_selectMethod X.admits]; exact q4
  obtain ⟨vm₁, X₁, hstep₁⟩ := X.invokevirtual hexec hown hlink hnamed hmethM hstM hkP hkPi hy (a := b) (cell := cellB) hcell
    (fun z h => by rw [h] at hobj; cases hobj) hselP hmethM habM hkP hkPi (g := g) hg (argsL := argsL) (rest := rest) (hlen _ hsigM) hstack hdg
  obtain ⟨v, B, X', hpost, hsteps⟩ := hK m meth c ⟨T.setVm vm₁, locs, cells, slots⟩ { g with stack := rest } (.invokevirtual index) mk (Value.ref b :: argsL).toArray X₁ hg hsize hdg hW (X₁.named hnamed) (hpre vm₁ X₁.warmed)
  exact ⟨v, vm₁, B, X₁.warmed, X', hpost, fun target h => hstep₁ _ fun acts => by rw [doInvoke_state]; exact hsteps.trans h⟩
abbrev vx_CVW (R : Room) (s : State) (args : Array Value) (own C : String) (index : Nat) (y : MethodName) (bytes : ByteArray) (maxL : Nat) (ret : Option FieldType) (hh : List (Nat × Nat × Nat × Nat)) (ws : List Cond) (rm : Room) (mc ms n : Nat) : Prop :=
  (rm.cells = mc ∧ rm.slots = ms ∧ rm.frames + 1 ≤ R.frames ∧ 8 + (maxL + 11) + rm.locals ≤ R.locals ∧ (∀ w ∈ ws, ∀ (a' : Array Value) (U : State), s.WarmedH U.vm → w.before a' U = true) ∧ Cond.codeWith y bytes maxL ret hh ∈ ws) ∧
  (Cond.codeWith y bytes maxL ret hh).before args s = true ∧ (Cond.initialized y.cls).before args s = true ∧ (y.cls ≠ "java/lang/invoke/MethodHandle" ∧ y.cls ≠ "java/lang/invoke/VarHandle") ∧
  (∀ sig, parseMethodDescriptor y.desc = some sig → n = sig.parameters.length) ∧ (Cond.methodLink own index y).before args s = true ∧ (Cond.instanceMethod y).before args s = true ∧ (Cond.selects C y y).before args s = true
theorem vx_cwVW {own C : String} {index maxL mc ms : Nat} {y : MethodName} {bytes : ByteArray} {ret : Option FieldType} {hh : List (Nat × Nat × Nat × Nat)} {Ts ws ws' : List Cond} {rm : Room} (n : Nat) (ht : ∀ w ∈ Ts, w.before args s = true) (hT : GoodIn Ts (wsV own index C y ws)) (hw : ws = Cond.codeWith y bytes maxL ret hh :: ws') (hrc : rm.cells = mc) (hrs : rm.slots = ms)
    (hd : y.cls = C ∧ y.cls ≠ "java/lang/invoke/MethodHandle" ∧ y.cls ≠ "java/lang/invoke/VarHandle" ∧ (parseMethodDescriptor y.desc).map (fun d => d.parameters.length) = some n) (hR : rm.frames + 1 ≤ R.frames ∧ 8 + (maxL + 11) + rm.locals ≤ R.locals) :
    vx_CVW R s args own C index y bytes maxL ret hh ws rm mc ms n := by
  obtain ⟨hC, hd⟩ := hd
  subst hC
  have ok : ∀ w ∈ wsV own index y.cls y ws, w.before args s = true := fun w h => ht w (hT w h).1
  have hG : GoodIn Ts ws := fun w h => hT w (by unfold wsV; exact List.mem_append_right _ h)
  have hc : Cond.codeWith y bytes maxL ret hh ∈ ws := by rw [hw]; exact List.mem_cons_self
  refine ⟨⟨hrc, hrs, hR.1, hR.2, pay_in ht hG, hc⟩, ht _ (hG _ hc).1, ok _ (by simp [wsV]), ⟨hd.1, hd.2.1⟩, fun sig h => ?_, ok _ (by simp [wsV]), ok _ (by simp [wsV]), ok _ (by simp [wsV])⟩
  have h2 := hd.2.2
  rw [h] at h2
  exact (Option.some.inj h2).symm
theorem vx_runVW {y : MethodName} {bytes cc : ByteArray} {maxL nL mc ms n index : Nat} {ret : Option FieldType} {hh : List (Nat × Nat × Nat × Nat)} {ws : List Cond} {rm : Room} {Pc : Array Value → State → Prop} {Qc : Array Value → State → Outcome → State → Prop} {free : Addr → Prop} {Ts : List Cond} {own C : String} {b : Addr} {As rest : List Value} {g : JFrame}
    (S : CallFix p m c cc nL s args Ts own) (hM : Met l y ws rm Pc Qc mc ms free) (cw : vx_CVW R s args own C index y bytes maxL ret hh ws rm mc ms n) (hp : PreV s H C b Pc As)
    (hg : g.method = m) (hn : As.length = n) (hsize : g.locals.size = nL) (hstack : g.stack = As.reverse ++ .ref b :: rest) (hW : 2 * g.monitorRoom + (rest.map fun v => v.category).sum ≤ 8) (hdg : decode cc g.pc = .ok (.invokevirtual index, 3)) (hf : cells + mc ≤ R.cells ∧ slots + ms ≤ R.slots) :
    va_Run p l e R s m args below meth c H locs cells slots mc ms g rest (Qc (Value.ref b :: As).toArray) free := by
  obtain ⟨⟨hrc, hrs, hfr, hlo, hws, hcw⟩, hcode, hini, hy, hlen, hl, hin, hse⟩ := cw
  have hK : Back l R p e below s args y 3 8 (PreOf R mc ms Pc) (PostOf Qc mc ms free) := va_backW (hh := hh) (bytes := bytes) (maxL := maxL) (ret := ret) hM hp.1 hrc hrs hfr hlo hws hcw (fun a' U hW => word_at hW (Or.inl (by first | rfl | simp [Cond.onTables, Cond.keeps, Cond.steady])) hini)
  obtain ⟨hx, hb, hml, ho, -⟩ := S
  obtain ⟨-, ⟨cellB, hcB, hoB, hclB⟩, hPc⟩ := hp
  intro T hT X
  obtain ⟨v, vm₁, ⟨U', l2, c2, s2⟩, hW₁, X', ⟨g', mk, t, L, e1, e2, hq, h1, hL, h2, h3⟩, st⟩ := vx_callVW X hx (C := C) (hh := hh) (bytes := bytes) (maxL := maxL) (ret := ret) ho hl hin hse hcode hy hK (by rw [hT]; exact hcB) hoB hclB hg (hsize.trans hml.symm) (argsL := As) (rest := rest) (fun sig h => hn.trans (hlen sig h)) hstack hW (by rw [hb]; exact hdg)
    (fun vm₁ hW₁ => ⟨hf.1, hf.2, hPc (T.setVm vm₁) hT hW₁⟩)
  dsimp only [Pt.U, Pt.locs, Pt.cells, Pt.slots] at X' e1 e2 h1 h2 h3 st
  subst h1; subst h2; subst h3
  exact ⟨v, (T.setVm vm₁).calling g' mk (Value.ref b :: As).toArray, t, U', L, hT, X', hL, e1, e2, hq, st⟩
section
variable {y : MethodName} {bytes cc : ByteArray} {maxL nL mc ms n index : Nat} {ret : Option FieldType} {ws : List Cond} {rm : Room} {Pc : Array Value → State → Prop} {Qc : Array Value → State → Outcome → State → Prop} {XC : String → State → State → Prop} {free : Addr → Prop} {Ts : List Cond} {own C : String} {b : Addr} {As rest : List Value} {g : JFrame}
theorem vx_runVX {hh : List (Nat × Nat × Nat × Nat)} (S : CallFix p m c cc nL s args Ts own) (hM : vx_Met l y ws rm Pc Qc XC mc ms free) (cw : vx_CVW R s args own C index y bytes maxL ret hh ws rm mc ms n) (hp : PreV s H C b Pc As)
    (hg : g.method = m) (hn : As.length = n) (hsize : g.locals.size = nL) (hstack : g.stack = As.reverse ++ .ref b :: rest) (hW : 2 * g.monitorRoom + (rest.map fun v => v.category).sum ≤ 8) (hdg : decode cc g.pc = .ok (.invokevirtual index, 3)) (hf : cells + mc ≤ R.cells ∧ slots + ms ≤ R.slots) :
    vx_Run p l e R s m args below meth c H locs cells slots mc ms g rest (Qc (Value.ref b :: As).toArray) XC free := by
  obtain ⟨⟨hrc, hrs, hfr, hlo, hws, hcw⟩, hcode, hini, hy, hlen, hl, hin, hse⟩ := cw
  have hK : vx_Back l R p e below s args y 3 8 (PreOf R mc ms Pc) (PostOf Qc mc ms free) (vx_Post XC mc ms free) := vx_backW (hh := hh) (bytes := bytes) (maxL := maxL) (ret := ret) hM hp.1 hrc hrs hfr hlo hws hcw (fun a' U hW => word_at hW (Or.inl (by first | rfl | simp [Cond.onTables, Cond.keeps, Cond.steady])) hini)
  obtain ⟨hx, hb, hml, ho, -⟩ := S
  obtain ⟨-, ⟨cellB, hcB, hoB, hclB⟩, hPc⟩ := hp
  intro T hT X
  rcases vx_callVX X hx (C := C) (hh := hh) (bytes := bytes) (maxL := maxL) (ret := ret) ho hl hin hse hcode hy hK (by rw [hT]; exact hcB) hoB hclB hg (hsize.trans hml.symm) (argsL := As) (rest := rest) (fun sig h => hn.trans (hlen sig h)) hstack hW (by rw [hb]; exact hdg)
    (fun vm₁ hW₁ => ⟨hf.1, hf.2, hPc (T.setVm vm₁) hT hW₁⟩) with ⟨v, vm₁, ⟨U', l2, c2, s2⟩, hW₁, X', ⟨g', mk, t, L, e1, e2, hq, h1, hL, h2, h3⟩, st⟩ | ⟨q, vm₁, ⟨U', l2, c2, s2⟩, hW₁, X', ⟨g', mk, t, L, E, ce, e1, e2, hq, hce, hcv, hcl, h1, hL, h2, h3⟩, st⟩
  · dsimp only [Pt.U, Pt.locs, Pt.cells, Pt.slots] at X' e1 e2 h1 h2 h3 st
    subst h1; subst h2; subst h3
    exact Or.inl ⟨v, (T.setVm vm₁).calling g' mk (Value.ref b :: As).toArray, t, U', L, hT, X', hL, e1, e2, hq, st⟩
  · dsimp only [Pt.U, Pt.locs, Pt.cells, Pt.slots] at X' e1 e2 h1 h2 h3 st hcl
    subst h1; subst h2; subst h3
    exact Or.inr ⟨q, (T.setVm vm₁).calling g' mk (Value.ref b :: As).toArray, t, U', L, E, ce, hT, X', hL, e1, e2, hq, hce, hcv, vx_cls hW₁ hcl, st⟩
theorem vx_runSX {hh : List (Nat × Nat × Nat × Nat)} (S : CallFix p m c cc nL s args Ts own) (hM : vx_Met l y ws rm Pc Qc XC mc ms free) (cw : vx_CSW R s args own index y bytes maxL ret hh ws rm mc ms n) (hp : PreS s H Pc As)
    (hg : g.method = m) (hn : As.length = n) (hsize : g.locals.size = nL) (hstack : g.stack = As.reverse ++ rest) (hW : 2 * g.monitorRoom + (rest.map fun v => v.category).sum ≤ 8) (hdg : decode cc g.pc = .ok (.invokestatic index, 3)) (hf : cells + mc ≤ R.cells ∧ slots + ms ≤ R.slots) :
    vx_Run p l e R s m args below meth c H locs cells slots mc ms g rest (Qc As.toArray) XC free := by
  obtain ⟨⟨hrc, hrs, hfr, hlo, hws, hcw⟩, hcode, hini, hy, hlen, hl, hstt⟩ := cw
  have hK : vx_Back l R p e below s args y 3 8 (PreOf R mc ms Pc) (PostOf Qc mc ms free) (vx_Post XC mc ms free) := vx_backW (hh := hh) (bytes := bytes) (maxL := maxL) (ret := ret) hM hp.1 hrc hrs hfr hlo hws hcw (fun a' U hW => word_at hW (Or.inl (by first | rfl | simp [Cond.onTables, Cond.keeps, Cond.steady])) hini)
  obtain ⟨hx, hb, hml, ho, -⟩ := S
  intro T hT X
  rcases vx_callSX X hx (hh := hh) (bytes := bytes) (maxL := maxL) (ret := ret) ho hl hstt hini hcode hy hK hg (hsize.trans hml.symm) (argsL := As) (rest := rest) (fun sig h => hn.trans (hlen sig h)) hstack hW (by rw [hb]; exact hdg)
    (fun vm₁ hW₁ => ⟨hf.1, hf.2, hp.2 (T.setVm vm₁) hT hW₁⟩) with ⟨v, vm₁, ⟨U', l2, c2, s2⟩, hW₁, X', ⟨g', mk, t, L, e1, e2, hq, h1, hL, h2, h3⟩, st⟩ | ⟨q, vm₁, ⟨U', l2, c2, s2⟩, hW₁, X', ⟨g', mk, t, L, E, ce, e1, e2, hq, hce, hcv, hcl, h1, hL, h2, h3⟩, st⟩
  · dsimp only [Pt.U, Pt.locs, Pt.cells, Pt.slots] at X' e1 e2 h1 h2 h3 st
    subst h1; subst h2; subst h3
    exact Or.inl ⟨v, (T.setVm vm₁).calling g' mk As.toArray, t, U', L, hT, X', hL, e1, e2, hq, st⟩
  · dsimp only [Pt.U, Pt.locs, Pt.cells, Pt.slots] at X' e1 e2 h1 h2 h3 st hcl
    subst h1; subst h2; subst h3
    exact Or.inr ⟨q, (T.setVm vm₁).calling g' mk As.toArray, t, U', L, E, ce, hT, X', hL, e1, e2, hq, hce, hcv, vx_cls hW₁ hcl, st⟩
end
end VXH
theorem vx_ofWH {l : Launch} {y : MethodName} {ws ws' : List Cond} {rm : Room} {Pc : Array Value → State → Prop} {Qc : Array Value → State → Outcome → State → Prop} {XC : String → State → State → Prop} {mc ms : Nat} {free : Addr → Prop} {cc : ByteArray} {maxL : Nat} {ret : Option FieldType} {hh : List (Nat × Nat × Nat × Nat)}
    (hy : plainName y.cls = true) (hw : ws = Cond.codeWith y cc maxL ret hh :: ws')
    (body : ∀ p e s m args below meth c s₁, BodyLoose p l y (headSpec ws rm) cc maxL ret e s m args below meth c s₁ → c.maxLocals = maxL → Pc args s →
      W p l e (headSpec ws rm).room s m args below meth c s.heap [] 0 0 (vx_MQ below Qc XC args s mc ms free) (entryFrame m args maxL)) : vx_Met l y ws rm Pc Qc XC mc ms free := by
  refine MetFree.of_bodyS (code := cc) (maxLocals := maxL) (ret := ret) hy ?_ ?_
  · intro args s m h hn
    obtain ⟨m9, meth, c, hn9, h1, h2, h3, h4, -, h5, h6, -⟩ := Cond.codeWith_spec (atoms_spec (ws := ws) h _ (by rw [hw]; exact List.mem_cons_self))
    cases hn.symm.trans hn9
    exact ⟨meth, c, h1, h2, h3, h4, h5, h6⟩
  · intro p e s m args below meth c s₁ B hml hP _
    have hh0 : s₁.heap = s.heap := by rw [B.state]; rfl
    obtain ⟨t, a1, o, b1, b2, b3⟩ := body p e s m args below meth c s₁ B hml hP s₁ hh0 (Stand.of_body B)
    exact ⟨t, o, a1, b1, b2, b3⟩
/-! ===== END ===== -/
end
section
def RX0 : String := "DeadlineCalls$Call"
def TX0 : u_T := fun k => match k with
  | 0 => ("DeadlineCalls$Call", "number", "I", true)
  | 1 => ("DeadlineCalls$Call", "service", "LDeadlineCalls$Service;", true)
  | 2 => ("DeadlineCalls$Call", "parent", "LDeadlineCalls$Call;", true)
  | 3 => ("DeadlineCalls$Call", "deadline", "I", true)
  | 4 => ("DeadlineCalls$Call", "state", "I", false)
  | 5 => ("DeadlineCalls$Call", "overAt", "I", false)
  | 6 => ("DeadlineCalls$Call", "readyAt", "I", false)
  | 7 => ("DeadlineCalls$Call", "previous", "LDeadlineCalls$Call;", false)
  | 8 => ("DeadlineCalls$Call", "next", "LDeadlineCalls$Call;", false)
  | 9 => ("DeadlineCalls$Call", "rowLength", "I", false)
  | 10 => ("DeadlineCalls$Call", "place", "I", false)
  | 11 => ("DeadlineCalls$Call", "asked", "LDeadlineCalls$Service;", false)
  | 12 => ("DeadlineCalls$Call", "wantsTry", "Z", false)
  | 13 => ("DeadlineCalls$Call", "isAnswered", "Z", false)
  | 14 => ("DeadlineCalls$Call", "tries", "I", false)
  | 15 => ("DeadlineCalls$Call", "openTries", "I", false)
  | 16 => ("DeadlineCalls$Call", "triesAgain", "I", false)
  | _ => ("DeadlineCalls$Call", "triedAt", "I", false)
def tyX0 : Nat → FieldType := fun k => match k with
  | 0 => .int
  | 1 => .object "DeadlineCalls$Service"
  | 2 => .object "DeadlineCalls$Call"
  | 3 => .int
  | 4 => .int
  | 5 => .int
  | 6 => .int
  | 7 => .object "DeadlineCalls$Call"
  | 8 => .object "DeadlineCalls$Call"
  | 9 => .int
  | 10 => .int
  | 11 => .object "DeadlineCalls$Service"
  | 12 => .boolean
  | 13 => .boolean
  | 14 => .int
  | 15 => .int
  | 16 => .int
  | _ => .int
abbrev wsX00 : List Cond := u_ws RX0 TX0 18
theorem nmX0 : ∀ a, a < 18 → ∀ b, b < 18 → a ≠ b → (TX0 a).2.1 ≠ (TX0 b).2.1 := by decide +kernel
theorem tyX0_ok : ∀ k, k < 18 → parseFieldDescriptor (TX0 k).2.2.1 = some (tyX0 k) := by decide +kernel
abbrev cX0_init : ByteArray := prog_2_method_1_code
def yX0_init : MethodName := ⟨RX0, "<init>", "(ILDeadlineCalls$Service;LDeadlineCalls$Call;I)V"⟩
abbrev cX0_isOver : ByteArray := prog_2_method_2_code
def yX0_isOver : MethodName := ⟨RX0, "isOver", "()Z"⟩
abbrev cX0_isOf : ByteArray := prog_2_method_3_code
def yX0_isOf : MethodName := ⟨RX0, "isOf", "(LDeadlineCalls$Service;I)Z"⟩
abbrev cX0_isBelow : ByteArray := prog_2_method_4_code
def yX0_isBelow : MethodName := ⟨RX0, "isBelow", "(LDeadlineCalls$Call;)Z"⟩
abbrev cX0_canBeDone : ByteArray := prog_2_method_5_code
def yX0_canBeDone : MethodName := ⟨RX0, "canBeDone", "(I)Z"⟩
abbrev cX0_become : ByteArray := prog_2_method_6_code
def yX0_become : MethodName := ⟨RX0, "become", "(I)V"⟩
abbrev cX0_rowAt : ByteArray := prog_2_method_7_code
def yX0_rowAt : MethodName := ⟨RX0, "rowAt", "(I)LDeadlineCalls$Service;"⟩
abbrev cX0_askNow : ByteArray := prog_2_method_8_code
def yX0_askNow : MethodName := ⟨RX0, "askNow", "(LDeadlineCalls$Service;I)V"⟩
abbrev cX0_noteTry : ByteArray := prog_2_method_9_code
def yX0_noteTry : MethodName := ⟨RX0, "noteTry", "(I)V"⟩
abbrev cX0_noteTryOver : ByteArray := prog_2_method_10_code
def yX0_noteTryOver : MethodName := ⟨RX0, "noteTryOver", "(I)V"⟩
def RX1 : String := "DeadlineCalls$Service"
def TX1 : u_T := fun k => match k with
  | 0 => ("DeadlineCalls$Service", "number", "I", true)
  | 1 => ("DeadlineCalls$Service", "work", "I", false)
  | 2 => ("DeadlineCalls$Service", "each", "I", false)
  | 3 => ("DeadlineCalls$Service", "worked", "I", false)
  | 4 => ("DeadlineCalls$Service", "workers", "I", false)
  | 5 => ("DeadlineCalls$Service", "room", "I", false)
  | 6 => ("DeadlineCalls$Service", "patience", "I", false)
  | 7 => ("DeadlineCalls$Service", "tokens", "I", false)
  | 8 => ("DeadlineCalls$Service", "troubles", "I", false)
  | 9 => ("DeadlineCalls$Service", "openUntil", "I", false)
  | 10 => ("DeadlineCalls$Service", "row", "[LDeadlineCalls$Service;", true)
  | 11 => ("DeadlineCalls$Service", "rowLength", "I", false)
  | _ => ("DeadlineCalls$Service", "counts", "[I", true)
def tyX1 : Nat → FieldType := fun k => match k with
  | 0 => .int
  | 1 => .int
  | 2 => .int
  | 3 => .int
  | 4 => .int
  | 5 => .int
  | 6 => .int
  | 7 => .int
  | 8 => .int
  | 9 => .int
  | 10 => .array (.object "DeadlineCalls$Service")
  | 11 => .int
  | _ => .array .int
abbrev wsX10 : List Cond := u_ws RX1 TX1 13
theorem nmX1 : ∀ a, a < 13 → ∀ b, b < 13 → a ≠ b → (TX1 a).2.1 ≠ (TX1 b).2.1 := by decide +kernel
theorem tyX1_ok : ∀ k, k < 13 → parseFieldDescriptor (TX1 k).2.2.1 = some (tyX1 k) := by decide +kernel
abbrev cX1_init : ByteArray := prog_3_method_1_code
def yX1_init : MethodName := ⟨RX1, "<init>", "(I)V"⟩
abbrev cX1_addToRow : ByteArray := prog_3_method_2_code
def yX1_addToRow : MethodName := ⟨RX1, "addToRow", "(LDeadlineCalls$Service;)Z"⟩
abbrev cX1_countOf : ByteArray := prog_3_method_3_code
def yX1_countOf : MethodName := ⟨RX1, "countOf", "(I)I"⟩
abbrev cX1_hasFreeWorker : ByteArray := prog_3_method_4_code
def yX1_hasFreeWorker : MethodName := ⟨RX1, "hasFreeWorker", "()Z"⟩
abbrev cX1_hasRoom : ByteArray := prog_3_method_5_code
def yX1_hasRoom : MethodName := ⟨RX1, "hasRoom", "()Z"⟩
abbrev cX1_refusesAt : ByteArray := prog_3_method_6_code
def yX1_refusesAt : MethodName := ⟨RX1, "refusesAt", "(I)Z"⟩
abbrev cX1_failsNextWork : ByteArray := prog_3_method_7_code
def yX1_failsNextWork : MethodName := ⟨RX1, "failsNextWork", "()Z"⟩
abbrev cX1_isTooLong : ByteArray := prog_3_method_8_code
def yX1_isTooLong : MethodName := ⟨RX1, "isTooLong", "(I)Z"⟩
abbrev cX1_payForTry : ByteArray := prog_3_method_9_code
def yX1_payForTry : MethodName := ⟨RX1, "payForTry", "()Z"⟩
abbrev cX1_noteDone : ByteArray := prog_3_method_10_code
def yX1_noteDone : MethodName := ⟨RX1, "noteDone", "()V"⟩
abbrev cX1_noteTrouble : ByteArray := prog_3_method_11_code
def yX1_noteTrouble : MethodName := ⟨RX1, "noteTrouble", "(I)V"⟩
def RX2 : String := "DeadlineCalls"
def TX2 : u_T := fun k => match k with
  | 0 => ("DeadlineCalls", "services", "[LDeadlineCalls$Service;", true)
  | 1 => ("DeadlineCalls", "numbered", "[LDeadlineCalls$Call;", true)
  | 2 => ("DeadlineCalls", "made", "I", false)
  | 3 => ("DeadlineCalls", "now", "I", false)
  | 4 => ("DeadlineCalls", "rootsOver", "I", false)
  | 5 => ("DeadlineCalls", "oldest", "LDeadlineCalls$Call;", false)
  | _ => ("DeadlineCalls", "newest", "LDeadlineCalls$Call;", false)
def tyX2 : Nat → FieldType := fun k => match k with
  | 0 => .array (.object "DeadlineCalls$Service")
  | 1 => .array (.object "DeadlineCalls$Call")
  | 2 => .int
  | 3 => .int
  | 4 => .int
  | 5 => .object "DeadlineCalls$Call"
  | _ => .object "DeadlineCalls$Call"
abbrev wsX20 : List Cond := u_ws RX2 TX2 7
theorem nmX2 : ∀ a, a < 7 → ∀ b, b < 7 → a ≠ b → (TX2 a).2.1 ≠ (TX2 b).2.1 := by decide +kernel
theorem tyX2_ok : ∀ k, k < 7 → parseFieldDescriptor (TX2 k).2.2.1 = some (tyX2 k) := by decide +kernel
abbrev cX2_init : ByteArray := prog_1_method_1_code
def yX2_init : MethodName := ⟨RX2, "<init>", "()V"⟩
abbrev cX2_setWork : ByteArray := prog_1_method_2_code
def yX2_setWork : MethodName := ⟨RX2, "setWork", "(III)I"⟩
abbrev cX2_ask : ByteArray := prog_1_method_3_code
def yX2_ask : MethodName := ⟨RX2, "ask", "(II)I"⟩
abbrev cX2_setRoom : ByteArray := prog_1_method_4_code
def yX2_setRoom : MethodName := ⟨RX2, "setRoom", "(IIII)I"⟩
abbrev cX2_call : ByteArray := prog_1_method_5_code
def yX2_call : MethodName := ⟨RX2, "call", "(II)I"⟩
abbrev cX2_cancel : ByteArray := prog_1_method_6_code
def yX2_cancel : MethodName := ⟨RX2, "cancel", "(I)I"⟩
abbrev cX2_pass : ByteArray := prog_1_method_7_code
def yX2_pass : MethodName := ⟨RX2, "pass", "(I)I"⟩
abbrev cX2_time : ByteArray := prog_1_method_8_code
def yX2_time : MethodName := ⟨RX2, "time", "()I"⟩
abbrev cX2_calls : ByteArray := prog_1_method_9_code
def yX2_calls : MethodName := ⟨RX2, "calls", "()I"⟩
abbrev cX2_state : ByteArray := prog_1_method_10_code
def yX2_state : MethodName := ⟨RX2, "state", "(I)I"⟩
abbrev cX2_origin : ByteArray := prog_1_method_11_code
def yX2_origin : MethodName := ⟨RX2, "origin", "(I)I"⟩
abbrev cX2_deadline : ByteArray := prog_1_method_12_code
def yX2_deadline : MethodName := ⟨RX2, "deadline", "(I)I"⟩
abbrev cX2_overAt : ByteArray := prog_1_method_13_code
def yX2_overAt : MethodName := ⟨RX2, "overAt", "(I)I"⟩
abbrev cX2_place : ByteArray := prog_1_method_14_code
def yX2_place : MethodName := ⟨RX2, "place", "(I)I"⟩
abbrev cX2_below : ByteArray := prog_1_method_15_code
def yX2_below : MethodName := ⟨RX2, "below", "(I)I"⟩
abbrev cX2_queuedAt : ByteArray := prog_1_method_16_code
def yX2_queuedAt : MethodName := ⟨RX2, "queuedAt", "(II)I"⟩
abbrev cX2_count : ByteArray := prog_1_method_17_code
def yX2_count : MethodName := ⟨RX2, "count", "(II)I"⟩
abbrev cX2_tokens : ByteArray := prog_1_method_18_code
def yX2_tokens : MethodName := ⟨RX2, "tokens", "(I)I"⟩
abbrev cX2_isOpen : ByteArray := prog_1_method_19_code
def yX2_isOpen : MethodName := ⟨RX2, "isOpen", "(I)Z"⟩
abbrev cX2_serviceAt : ByteArray := prog_1_method_20_code
def yX2_serviceAt : MethodName := ⟨RX2, "serviceAt", "(I)LDeadlineCalls$Service;"⟩
abbrev cX2_callAt : ByteArray := prog_1_method_21_code
def yX2_callAt : MethodName := ⟨RX2, "callAt", "(I)LDeadlineCalls$Call;"⟩
abbrev cX2_checkRange : ByteArray := prog_1_method_22_code
def yX2_checkRange : MethodName := ⟨RX2, "checkRange", "(III)V"⟩
abbrev cX2_isFull : ByteArray := prog_1_method_23_code
def yX2_isFull : MethodName := ⟨RX2, "isFull", "()Z"⟩
abbrev cX2_makeCall : ByteArray := prog_1_method_24_code
def yX2_makeCall : MethodName := ⟨RX2, "makeCall", "(LDeadlineCalls$Service;LDeadlineCalls$Call;I)LDeadlineCalls$Call;"⟩
abbrev cX2_begin : ByteArray := prog_1_method_25_code
def yX2_begin : MethodName := ⟨RX2, "begin", "(LDeadlineCalls$Call;)V"⟩
abbrev cX2_startWork : ByteArray := prog_1_method_26_code
def yX2_startWork : MethodName := ⟨RX2, "startWork", "(LDeadlineCalls$Call;)V"⟩
abbrev cX2_finish : ByteArray := prog_1_method_27_code
def yX2_finish : MethodName := ⟨RX2, "finish", "(LDeadlineCalls$Call;I)I"⟩
abbrev cX2_close : ByteArray := prog_1_method_28_code
def yX2_close : MethodName := ⟨RX2, "close", "(LDeadlineCalls$Call;I)V"⟩
abbrev cX2_cutOffHead : ByteArray := prog_1_method_29_code
def yX2_cutOffHead : MethodName := ⟨RX2, "cutOffHead", "()V"⟩
abbrev cX2_endLate : ByteArray := prog_1_method_30_code
def yX2_endLate : MethodName := ⟨RX2, "endLate", "()V"⟩
abbrev cX2_endWork : ByteArray := prog_1_method_31_code
def yX2_endWork : MethodName := ⟨RX2, "endWork", "()V"⟩
abbrev cX2_askAt : ByteArray := prog_1_method_32_code
def yX2_askAt : MethodName := ⟨RX2, "askAt", "(LDeadlineCalls$Call;I)V"⟩
abbrev cX2_judgeAsking : ByteArray := prog_1_method_33_code
def yX2_judgeAsking : MethodName := ⟨RX2, "judgeAsking", "()V"⟩
abbrev cX2_judge : ByteArray := prog_1_method_34_code
def yX2_judge : MethodName := ⟨RX2, "judge", "(LDeadlineCalls$Call;LDeadlineCalls$Service;)V"⟩
abbrev cX2_cancelTries : ByteArray := prog_1_method_35_code
def yX2_cancelTries : MethodName := ⟨RX2, "cancelTries", "(LDeadlineCalls$Call;)V"⟩
abbrev cX2_tryAgain : ByteArray := prog_1_method_36_code
def yX2_tryAgain : MethodName := ⟨RX2, "tryAgain", "(LDeadlineCalls$Call;LDeadlineCalls$Service;)V"⟩
abbrev cX2_makeTries : ByteArray := prog_1_method_37_code
def yX2_makeTries : MethodName := ⟨RX2, "makeTries", "()V"⟩
abbrev cX2_makeTry : ByteArray := prog_1_method_38_code
def yX2_makeTry : MethodName := ⟨RX2, "makeTry", "(LDeadlineCalls$Call;LDeadlineCalls$Service;)V"⟩
abbrev cX2_startQueued : ByteArray := prog_1_method_39_code
def yX2_startQueued : MethodName := ⟨RX2, "startQueued", "()V"⟩
abbrev cX2_startQueuedOf : ByteArray := prog_1_method_40_code
def yX2_startQueuedOf : MethodName := ⟨RX2, "startQueuedOf", "(LDeadlineCalls$Service;)V"⟩
def RX3 : String := "DeadlineCallsModel"
def TX3 : u_T := fun k => match k with
  | 0 => ("DeadlineCallsModel", "thrown", "I", false)
  | 1 => ("DeadlineCallsModel", "time", "I", false)
  | 2 => ("DeadlineCallsModel", "work", "[I", true)
  | 3 => ("DeadlineCallsModel", "each", "[I", true)
  | 4 => ("DeadlineCallsModel", "worked", "[I", true)
  | 5 => ("DeadlineCallsModel", "asks", "[I", true)
  | 6 => ("DeadlineCallsModel", "row", "[I", true)
  | 7 => ("DeadlineCallsModel", "workers", "[I", true)
  | 8 => ("DeadlineCallsModel", "room", "[I", true)
  | 9 => ("DeadlineCallsModel", "patience", "[I", true)
  | 10 => ("DeadlineCallsModel", "tokens", "[I", true)
  | 11 => ("DeadlineCallsModel", "faults", "[I", true)
  | 12 => ("DeadlineCallsModel", "openUntil", "[I", true)
  | 13 => ("DeadlineCallsModel", "calls", "I", false)
  | 14 => ("DeadlineCallsModel", "service", "[I", true)
  | 15 => ("DeadlineCallsModel", "deadline", "[I", true)
  | 16 => ("DeadlineCallsModel", "parent", "[I", true)
  | 17 => ("DeadlineCallsModel", "state", "[I", true)
  | 18 => ("DeadlineCallsModel", "ready", "[I", true)
  | 19 => ("DeadlineCallsModel", "over", "[I", true)
  | 20 => ("DeadlineCallsModel", "made", "[I", true)
  | 21 => ("DeadlineCallsModel", "madeFor", "[I", true)
  | 22 => ("DeadlineCallsModel", "itsRow", "[I", true)
  | 23 => ("DeadlineCallsModel", "itsSize", "[I", true)
  | 24 => ("DeadlineCallsModel", "place", "[I", true)
  | 25 => ("DeadlineCallsModel", "again", "[I", true)
  | 26 => ("DeadlineCallsModel", "wants", "[Z", true)
  | _ => ("DeadlineCallsModel", "makes", "[Z", true)
def tyX3 : Nat → FieldType := fun k => match k with
  | 0 => .int
  | 1 => .int
  | 2 => .array .int
  | 3 => .array .int
  | 4 => .array .int
  | 5 => .array .int
  | 6 => .array .int
  | 7 => .array .int
  | 8 => .array .int
  | 9 => .array .int
  | 10 => .array .int
  | 11 => .array .int
  | 12 => .array .int
  | 13 => .int
  | 14 => .array .int
  | 15 => .array .int
  | 16 => .array .int
  | 17 => .array .int
  | 18 => .array .int
  | 19 => .array .int
  | 20 => .array .int
  | 21 => .array .int
  | 22 => .array .int
  | 23 => .array .int
  | 24 => .array .int
  | 25 => .array .int
  | 26 => .array .boolean
  | _ => .array .boolean
abbrev wsX30 : List Cond := u_ws RX3 TX3 28
theorem nmX3 : ∀ a, a < 28 → ∀ b, b < 28 → a ≠ b → (TX3 a).2.1 ≠ (TX3 b).2.1 := by decide +kernel
theorem tyX3_ok : ∀ k, k < 28 → parseFieldDescriptor (TX3 k).2.2.1 = some (tyX3 k) := by decide +kernel
abbrev cX3_init : ByteArray := prog_5_method_1_code
def yX3_init : MethodName := ⟨RX3, "<init>", "()V"⟩
abbrev cX3_thrown : ByteArray := prog_5_method_2_code
def yX3_thrown : MethodName := ⟨RX3, "thrown", "()I"⟩
abbrev cX3_in : ByteArray := prog_5_method_3_code
def yX3_in : MethodName := ⟨RX3, "in", "(III)Z"⟩
abbrev cX3_isService : ByteArray := prog_5_method_4_code
def yX3_isService : MethodName := ⟨RX3, "isService", "(I)Z"⟩
abbrev cX3_isCall : ByteArray := prog_5_method_5_code
def yX3_isCall : MethodName := ⟨RX3, "isCall", "(I)Z"⟩
abbrev cX3_setWork : ByteArray := prog_5_method_6_code
def yX3_setWork : MethodName := ⟨RX3, "setWork", "(III)I"⟩
abbrev cX3_ask : ByteArray := prog_5_method_7_code
def yX3_ask : MethodName := ⟨RX3, "ask", "(II)I"⟩
abbrev cX3_setRoom : ByteArray := prog_5_method_8_code
def yX3_setRoom : MethodName := ⟨RX3, "setRoom", "(IIII)I"⟩
abbrev cX3_isOver : ByteArray := prog_5_method_9_code
def yX3_isOver : MethodName := ⟨RX3, "isOver", "(I)Z"⟩
abbrev cX3_manyOf : ByteArray := prog_5_method_10_code
def yX3_manyOf : MethodName := ⟨RX3, "manyOf", "(II)I"⟩
abbrev cX3_ends : ByteArray := prog_5_method_11_code
def yX3_ends : MethodName := ⟨RX3, "ends", "(II)I"⟩
abbrev cX3_counts : ByteArray := prog_5_method_12_code
def yX3_counts : MethodName := ⟨RX3, "counts", "(I)V"⟩
abbrev cX3_isOpenNow : ByteArray := prog_5_method_13_code
def yX3_isOpenNow : MethodName := ⟨RX3, "isOpenNow", "(I)Z"⟩
abbrev cX3_works : ByteArray := prog_5_method_14_code
def yX3_works : MethodName := ⟨RX3, "works", "(I)V"⟩
abbrev cX3_begins : ByteArray := prog_5_method_15_code
def yX3_begins : MethodName := ⟨RX3, "begins", "(III)V"⟩
abbrev cX3_call : ByteArray := prog_5_method_16_code
def yX3_call : MethodName := ⟨RX3, "call", "(II)I"⟩
abbrev cX3_cancel : ByteArray := prog_5_method_17_code
def yX3_cancel : MethodName := ⟨RX3, "cancel", "(I)I"⟩
abbrev cX3_late : ByteArray := prog_5_method_18_code
def yX3_late : MethodName := ⟨RX3, "late", "()V"⟩
abbrev cX3_startsAsking : ByteArray := prog_5_method_19_code
def yX3_startsAsking : MethodName := ⟨RX3, "startsAsking", "(I)V"⟩
abbrev cX3_worksOut : ByteArray := prog_5_method_20_code
def yX3_worksOut : MethodName := ⟨RX3, "worksOut", "()V"⟩
abbrev cX3_isTry : ByteArray := prog_5_method_21_code
def yX3_isTry : MethodName := ⟨RX3, "isTry", "(II)Z"⟩
abbrev cX3_goesOn : ByteArray := prog_5_method_22_code
def yX3_goesOn : MethodName := ⟨RX3, "goesOn", "(I)V"⟩
abbrev cX3_looks : ByteArray := prog_5_method_23_code
def yX3_looks : MethodName := ⟨RX3, "looks", "(I)V"⟩
abbrev cX3_makesTries : ByteArray := prog_5_method_24_code
def yX3_makesTries : MethodName := ⟨RX3, "makesTries", "()V"⟩
abbrev cX3_firstQueued : ByteArray := prog_5_method_25_code
def yX3_firstQueued : MethodName := ⟨RX3, "firstQueued", "(I)I"⟩
abbrev cX3_takesQueued : ByteArray := prog_5_method_26_code
def yX3_takesQueued : MethodName := ⟨RX3, "takesQueued", "(I)V"⟩
abbrev cX3_ticks : ByteArray := prog_5_method_27_code
def yX3_ticks : MethodName := ⟨RX3, "ticks", "()V"⟩
abbrev cX3_rootsOver : ByteArray := prog_5_method_28_code
def yX3_rootsOver : MethodName := ⟨RX3, "rootsOver", "()I"⟩
abbrev cX3_pass : ByteArray := prog_5_method_29_code
def yX3_pass : MethodName := ⟨RX3, "pass", "(I)I"⟩
abbrev cX3_time : ByteArray := prog_5_method_30_code
def yX3_time : MethodName := ⟨RX3, "time", "()I"⟩
abbrev cX3_calls : ByteArray := prog_5_method_31_code
def yX3_calls : MethodName := ⟨RX3, "calls", "()I"⟩
abbrev cX3_asksCall : ByteArray := prog_5_method_32_code
def yX3_asksCall : MethodName := ⟨RX3, "asksCall", "(I)Z"⟩
abbrev cX3_state : ByteArray := prog_5_method_33_code
def yX3_state : MethodName := ⟨RX3, "state", "(I)I"⟩
abbrev cX3_origin : ByteArray := prog_5_method_34_code
def yX3_origin : MethodName := ⟨RX3, "origin", "(I)I"⟩
abbrev cX3_deadline : ByteArray := prog_5_method_35_code
def yX3_deadline : MethodName := ⟨RX3, "deadline", "(I)I"⟩
abbrev cX3_overAt : ByteArray := prog_5_method_36_code
def yX3_overAt : MethodName := ⟨RX3, "overAt", "(I)I"⟩
abbrev cX3_place : ByteArray := prog_5_method_37_code
def yX3_place : MethodName := ⟨RX3, "place", "(I)I"⟩
abbrev cX3_isBelow : ByteArray := prog_5_method_38_code
def yX3_isBelow : MethodName := ⟨RX3, "isBelow", "(II)Z"⟩
abbrev cX3_below : ByteArray := prog_5_method_39_code
def yX3_below : MethodName := ⟨RX3, "below", "(I)I"⟩
abbrev cX3_queuedAt : ByteArray := prog_5_method_40_code
def yX3_queuedAt : MethodName := ⟨RX3, "queuedAt", "(II)I"⟩
abbrev cX3_count : ByteArray := prog_5_method_41_code
def yX3_count : MethodName := ⟨RX3, "count", "(II)I"⟩
abbrev cX3_tokens : ByteArray := prog_5_method_42_code
def yX3_tokens : MethodName := ⟨RX3, "tokens", "(I)I"⟩
abbrev cX3_isOpen : ByteArray := prog_5_method_43_code
def yX3_isOpen : MethodName := ⟨RX3, "isOpen", "(I)Z"⟩
def RJ0 : String := "java/lang/String"
def TJ0 : u_T := fun k => match k with
  | _ => ("", "", "", false)
def tyJ0 : Nat → FieldType := fun k => match k with
  | _ => .int
theorem nmJ0 : ∀ a, a < 0 → ∀ b, b < 0 → a ≠ b → (TJ0 a).2.1 ≠ (TJ0 b).2.1 := by decide +kernel
theorem tyJ0_ok : ∀ k, k < 0 → parseFieldDescriptor (TJ0 k).2.2.1 = some (tyJ0 k) := by decide +kernel
def RL : String := "DeadlineCallsLaw"
abbrev cL_setWork : ByteArray := method_3_code
def yL_setWork : MethodName := ⟨RL, "setWork", "(LDeadlineCalls;III[J)I"⟩
abbrev cL_ask : ByteArray := method_4_code
def yL_ask : MethodName := ⟨RL, "ask", "(LDeadlineCalls;II[J)I"⟩
abbrev cL_setRoom : ByteArray := method_5_code
def yL_setRoom : MethodName := ⟨RL, "setRoom", "(LDeadlineCalls;IIII[J)I"⟩
abbrev cL_call : ByteArray := method_6_code
def yL_call : MethodName := ⟨RL, "call", "(LDeadlineCalls;II[J)I"⟩
abbrev cL_cancel : ByteArray := method_7_code
def yL_cancel : MethodName := ⟨RL, "cancel", "(LDeadlineCalls;I[J)I"⟩
abbrev cL_pass : ByteArray := method_8_code
def yL_pass : MethodName := ⟨RL, "pass", "(LDeadlineCalls;I[J)I"⟩
abbrev cL_state : ByteArray := method_9_code
def yL_state : MethodName := ⟨RL, "state", "(LDeadlineCalls;I[J)I"⟩
abbrev cL_origin : ByteArray := method_10_code
def yL_origin : MethodName := ⟨RL, "origin", "(LDeadlineCalls;I[J)I"⟩
abbrev cL_deadline : ByteArray := method_11_code
def yL_deadline : MethodName := ⟨RL, "deadline", "(LDeadlineCalls;I[J)I"⟩
abbrev cL_overAt : ByteArray := method_12_code
def yL_overAt : MethodName := ⟨RL, "overAt", "(LDeadlineCalls;I[J)I"⟩
abbrev cL_place : ByteArray := method_13_code
def yL_place : MethodName := ⟨RL, "place", "(LDeadlineCalls;I[J)I"⟩
abbrev cL_below : ByteArray := method_14_code
def yL_below : MethodName := ⟨RL, "below", "(LDeadlineCalls;I[J)I"⟩
abbrev cL_queuedAt : ByteArray := method_15_code
def yL_queuedAt : MethodName := ⟨RL, "queuedAt", "(LDeadlineCalls;II[J)I"⟩
abbrev cL_count : ByteArray := method_16_code
def yL_count : MethodName := ⟨RL, "count", "(LDeadlineCalls;II[J)I"⟩
abbrev cL_tokens : ByteArray := method_17_code
def yL_tokens : MethodName := ⟨RL, "tokens", "(LDeadlineCalls;I[J)I"⟩
abbrev cL_isOpen : ByteArray := method_18_code
def yL_isOpen : MethodName := ⟨RL, "isOpen", "(LDeadlineCalls;I[J)I"⟩
abbrev cL_law : ByteArray := code
def yL_law : MethodName := ⟨RL, "law", "([I)Z"⟩
def wsL_law0_r1 : List Cond := [Cond.classLink RL 8 RX2, Cond.instantiable RX2 7, Cond.initialized RX2, Cond.classLink RL 69 RX3, Cond.instantiable RX3 28, Cond.initialized RX3, Cond.arrayClass .long, Cond.methodLink RL 68 yX2_init, Cond.instanceMethod yX2_init, Cond.code yX2_init cX2_init 2 none, Cond.methodLink RX2 1 objectInit, Cond.instanceMethod objectInit, Cond.code objectInit ⟨#[0xb1]⟩ 1 none, Cond.classLink RX2 9 RX1, Cond.fieldLink RX2 11 "DeadlineCalls" "services" "[LDeadlineCalls$Service;", Cond.classLink RX2 15 RX0, Cond.fieldLink RX2 17 "DeadlineCalls" "numbered" "[LDeadlineCalls$Call;", Cond.instantiable RX1 13, Cond.initialized RX1, Cond.methodLink RX2 21 yX1_init, Cond.instanceMethod yX1_init, Cond.code yX1_init cX1_init 2 none, Cond.methodLink RX1 3 objectInit, Cond.fieldLink RX1 9 "DeadlineCalls$Service" "work" "I"]
def wsL_law0_r2 : List Cond := [Cond.fieldLink RX1 15 "DeadlineCalls$Service" "workers" "I", Cond.fieldLink RX1 18 "DeadlineCalls$Service" "room" "I", Cond.fieldLink RX1 21 "DeadlineCalls$Service" "tokens" "I", Cond.classLink RX1 10 RX1, Cond.fieldLink RX1 24 "DeadlineCalls$Service" "row" "[LDeadlineCalls$Service;", Cond.arrayClass .int, Cond.fieldLink RX1 28 "DeadlineCalls$Service" "counts" "[I", Cond.fieldLink RX1 32 "DeadlineCalls$Service" "number" "I", Cond.methodLink RL 71 yX3_init, Cond.instanceMethod yX3_init, Cond.code yX3_init cX3_init 1 none, Cond.methodLink RX3 1 objectInit, Cond.fieldLink RX3 7 "DeadlineCallsModel" "work" "[I", Cond.fieldLink RX3 13 "DeadlineCallsModel" "each" "[I", Cond.fieldLink RX3 16 "DeadlineCallsModel" "worked" "[I", Cond.fieldLink RX3 19 "DeadlineCallsModel" "asks" "[I", Cond.fieldLink RX3 22 "DeadlineCallsModel" "row" "[I", Cond.fieldLink RX3 25 "DeadlineCallsModel" "workers" "[I", Cond.fieldLink RX3 28 "DeadlineCallsModel" "room" "[I", Cond.fieldLink RX3 31 "DeadlineCallsModel" "patience" "[I", Cond.fieldLink RX3 34 "DeadlineCallsModel" "tokens" "[I", Cond.fieldLink RX3 37 "DeadlineCallsModel" "faults" "[I", Cond.fieldLink RX3 40 "DeadlineCallsModel" "openUntil" "[I", Cond.fieldLink RX3 43 "DeadlineCallsModel" "service" "[I"]
def wsL_law0_r3 : List Cond := [Cond.fieldLink RX3 46 "DeadlineCallsModel" "deadline" "[I", Cond.fieldLink RX3 49 "DeadlineCallsModel" "parent" "[I", Cond.fieldLink RX3 52 "DeadlineCallsModel" "state" "[I", Cond.fieldLink RX3 55 "DeadlineCallsModel" "ready" "[I", Cond.fieldLink RX3 58 "DeadlineCallsModel" "over" "[I", Cond.fieldLink RX3 61 "DeadlineCallsModel" "made" "[I", Cond.fieldLink RX3 64 "DeadlineCallsModel" "madeFor" "[I", Cond.fieldLink RX3 67 "DeadlineCallsModel" "itsRow" "[I", Cond.fieldLink RX3 70 "DeadlineCallsModel" "itsSize" "[I", Cond.fieldLink RX3 73 "DeadlineCallsModel" "place" "[I", Cond.fieldLink RX3 76 "DeadlineCallsModel" "again" "[I", Cond.arrayClass .boolean, Cond.fieldLink RX3 79 "DeadlineCallsModel" "wants" "[Z", Cond.fieldLink RX3 83 "DeadlineCallsModel" "makes" "[Z", Cond.methodLink RL 72 yL_setWork, Cond.static yL_setWork, Cond.initialized RL, Cond.codeWith yL_setWork cL_setWork 6 (some .int) [(0, 12, 15, 13), (0, 12, 19, 15)], Cond.classLink RL 13 "java/lang/IndexOutOfBoundsException", Cond.classLink RL 15 "java/lang/IllegalArgumentException", Cond.methodLink RL 7 yX2_setWork, Cond.instanceMethod yX2_setWork, Cond.selects RX2 yX2_setWork yX2_setWork, Cond.code yX2_setWork cX2_setWork 6 (some .int)]
def wsL_law0_r4 : List Cond := [Cond.fieldLink RX2 32 "DeadlineCalls$Service" "work" "I", Cond.fieldLink RX2 36 "DeadlineCalls$Service" "each" "I", Cond.fieldLink RX2 39 "DeadlineCalls$Service" "worked" "I", Cond.methodLink RX2 24 yX2_serviceAt, Cond.instanceMethod yX2_serviceAt, Cond.selects RX2 yX2_serviceAt yX2_serviceAt, Cond.code yX2_serviceAt cX2_serviceAt 3 (some (.object "DeadlineCalls$Service")), Cond.classLink RX2 162 "java/lang/IndexOutOfBoundsException", Cond.initialized "java/lang/IndexOutOfBoundsException", Cond.methodLink RX2 28 yX2_checkRange, Cond.static yX2_checkRange, Cond.code yX2_checkRange cX2_checkRange 3 none, Cond.classLink RX2 42 "java/lang/IllegalArgumentException", Cond.initialized "java/lang/IllegalArgumentException", Cond.methodLink RL 77 yX3_setWork, Cond.instanceMethod yX3_setWork, Cond.selects RX3 yX3_setWork yX3_setWork, Cond.code yX3_setWork cX3_setWork 5 (some .int), Cond.fieldLink RX3 86 "DeadlineCallsModel" "thrown" "I", Cond.methodLink RX3 97 yX3_isService, Cond.static yX3_isService, Cond.code yX3_isService cX3_isService 1 (some .boolean), Cond.methodLink RX3 90 yX3_in, Cond.static yX3_in]
def wsL_law0_r5 : List Cond := [Cond.code yX3_in cX3_in 3 (some .boolean), Cond.methodLink RL 78 yX3_thrown, Cond.instanceMethod yX3_thrown, Cond.selects RX3 yX3_thrown yX3_thrown, Cond.code yX3_thrown cX3_thrown 1 (some .int), Cond.methodLink RL 82 yL_ask, Cond.static yL_ask, Cond.codeWith yL_ask cL_ask 5 (some .int) [(0, 10, 13, 13), (0, 10, 17, 15), (0, 10, 21, 21)], Cond.classLink RL 21 "java/lang/IllegalStateException", Cond.methodLink RL 17 yX2_ask, Cond.instanceMethod yX2_ask, Cond.selects RX2 yX2_ask yX2_ask, Cond.code yX2_ask cX2_ask 5 (some .int), Cond.classLink RX2 53 "java/lang/IllegalStateException", Cond.initialized "java/lang/IllegalStateException", Cond.fieldLink RX2 58 "DeadlineCalls$Service" "rowLength" "I", Cond.methodLink RX2 49 yX1_addToRow, Cond.instanceMethod yX1_addToRow, Cond.selects RX1 yX1_addToRow yX1_addToRow, Cond.code yX1_addToRow cX1_addToRow 2 (some .boolean), Cond.fieldLink RX1 35 "DeadlineCalls$Service" "rowLength" "I", Cond.methodLink RL 85 yX3_ask, Cond.instanceMethod yX3_ask, Cond.selects RX3 yX3_ask yX3_ask]
def wsL_law0_r6 : List Cond := [Cond.code yX3_ask cX3_ask 3 (some .int), Cond.methodLink RL 86 yL_setRoom, Cond.static yL_setRoom, Cond.codeWith yL_setRoom cL_setRoom 7 (some .int) [(0, 14, 17, 13), (0, 14, 21, 15)], Cond.methodLink RL 23 yX2_setRoom, Cond.instanceMethod yX2_setRoom, Cond.selects RX2 yX2_setRoom yX2_setRoom, Cond.code yX2_setRoom cX2_setRoom 7 (some .int), Cond.fieldLink RX2 61 "DeadlineCalls$Service" "workers" "I", Cond.fieldLink RX2 64 "DeadlineCalls$Service" "room" "I", Cond.fieldLink RX2 67 "DeadlineCalls$Service" "patience" "I", Cond.methodLink RL 89 yX3_setRoom, Cond.instanceMethod yX3_setRoom, Cond.selects RX3 yX3_setRoom yX3_setRoom, Cond.code yX3_setRoom cX3_setRoom 7 (some .int), Cond.methodLink RL 90 yL_call, Cond.static yL_call, Cond.codeWith yL_call cL_call 5 (some .int) [(0, 10, 13, 13), (0, 10, 17, 15), (0, 10, 21, 21)], Cond.methodLink RL 27 yX2_call, Cond.instanceMethod yX2_call, Cond.selects RX2 yX2_call yX2_call, Cond.code yX2_call cX2_call 5 (some .int), Cond.fieldLink RX2 76 "DeadlineCalls" "now" "I", Cond.fieldLink RX2 87 "DeadlineCalls$Call" "number" "I"]
def wsL_law0_r7 : List Cond := [Cond.methodLink RX2 70 yX2_isFull, Cond.instanceMethod yX2_isFull, Cond.selects RX2 yX2_isFull yX2_isFull, Cond.code yX2_isFull cX2_isFull 1 (some .boolean), Cond.fieldLink RX2 128 "DeadlineCalls" "made" "I", Cond.methodLink RX2 79 yX2_makeCall, Cond.instanceMethod yX2_makeCall, Cond.selects RX2 yX2_makeCall yX2_makeCall, Cond.code yX2_makeCall cX2_makeCall 5 (some (.object "DeadlineCalls$Call")), Cond.instantiable RX0 18, Cond.initialized RX0, Cond.fieldLink RX2 187 "DeadlineCalls" "newest" "LDeadlineCalls$Call;", Cond.fieldLink RX2 190 "DeadlineCalls$Call" "previous" "LDeadlineCalls$Call;", Cond.fieldLink RX2 155 "DeadlineCalls" "oldest" "LDeadlineCalls$Call;", Cond.fieldLink RX2 148 "DeadlineCalls$Call" "next" "LDeadlineCalls$Call;", Cond.methodLink RX2 184 yX0_init, Cond.instanceMethod yX0_init, Cond.code yX0_init cX0_init 5 none, Cond.methodLink RX0 3 objectInit, Cond.fieldLink RX0 9 "DeadlineCalls$Call" "state" "I", Cond.fieldLink RX0 15 "DeadlineCalls$Call" "overAt" "I", Cond.fieldLink RX0 18 "DeadlineCalls$Call" "number" "I", Cond.fieldLink RX0 21 "DeadlineCalls$Call" "service" "LDeadlineCalls$Service;", Cond.fieldLink RX0 25 "DeadlineCalls$Call" "parent" "LDeadlineCalls$Call;"]
def wsL_law0_r8 : List Cond := [Cond.fieldLink RX0 29 "DeadlineCalls$Call" "deadline" "I", Cond.methodLink RX2 83 yX2_begin, Cond.instanceMethod yX2_begin, Cond.selects RX2 yX2_begin yX2_begin, Cond.code yX2_begin cX2_begin 3 none, Cond.fieldLink RX2 134 "DeadlineCalls$Call" "service" "LDeadlineCalls$Service;", Cond.methodLink RX2 174 yX1_refusesAt, Cond.instanceMethod yX1_refusesAt, Cond.selects RX1 yX1_refusesAt yX1_refusesAt, Cond.code yX1_refusesAt cX1_refusesAt 2 (some .boolean), Cond.fieldLink RX1 42 "DeadlineCalls$Service" "openUntil" "I", Cond.methodLink RX2 103 yX2_finish, Cond.instanceMethod yX2_finish, Cond.selects RX2 yX2_finish yX2_finish, Cond.code yX2_finish cX2_finish 5 (some .int), Cond.fieldLink RX2 97 "DeadlineCalls$Call" "parent" "LDeadlineCalls$Call;", Cond.methodLink RX2 211 yX2_close, Cond.instanceMethod yX2_close, Cond.selects RX2 yX2_close yX2_close, Cond.code yX2_close cX2_close 3 none, Cond.fieldLink RX2 142 "DeadlineCalls$Call" "overAt" "I", Cond.fieldLink RX2 107 "DeadlineCalls" "rootsOver" "I", Cond.methodLink RX2 205 yX0_become, Cond.instanceMethod yX0_become]
def wsL_law0_r9 : List Cond := [Cond.selects RX0 yX0_become yX0_become, Cond.code yX0_become cX0_become 3 none, Cond.fieldLink RX0 37 "DeadlineCalls$Service" "counts" "[I", Cond.methodLink RX2 215 yX1_noteDone, Cond.instanceMethod yX1_noteDone, Cond.selects RX1 yX1_noteDone yX1_noteDone, Cond.code yX1_noteDone cX1_noteDone 1 none, Cond.fieldLink RX1 54 "DeadlineCalls$Service" "troubles" "I", Cond.methodLink RX2 218 yX0_noteTryOver, Cond.instanceMethod yX0_noteTryOver, Cond.selects RX0 yX0_noteTryOver yX0_noteTryOver, Cond.code yX0_noteTryOver cX0_noteTryOver 2 none, Cond.fieldLink RX0 71 "DeadlineCalls$Call" "openTries" "I", Cond.fieldLink RX0 62 "DeadlineCalls$Call" "isAnswered" "Z", Cond.methodLink RX2 94 yX0_isOver, Cond.instanceMethod yX0_isOver, Cond.selects RX0 yX0_isOver yX0_isOver, Cond.code yX0_isOver cX0_isOver 1 (some .boolean), Cond.methodLink RX2 193 yX0_canBeDone, Cond.instanceMethod yX0_canBeDone, Cond.selects RX0 yX0_canBeDone yX0_canBeDone, Cond.code yX0_canBeDone cX0_canBeDone 2 (some .boolean), Cond.fieldLink RX0 32 "DeadlineCalls$Service" "work" "I", Cond.methodLink RX2 196 yX1_hasFreeWorker]
def wsL_law0_r10 : List Cond := [Cond.instanceMethod yX1_hasFreeWorker, Cond.selects RX1 yX1_hasFreeWorker yX1_hasFreeWorker, Cond.code yX1_hasFreeWorker cX1_hasFreeWorker 1 (some .boolean), Cond.methodLink RX1 38 yX1_countOf, Cond.instanceMethod yX1_countOf, Cond.selects RX1 yX1_countOf yX1_countOf, Cond.code yX1_countOf cX1_countOf 2 (some .int), Cond.methodLink RX2 199 yX2_startWork, Cond.instanceMethod yX2_startWork, Cond.selects RX2 yX2_startWork yX2_startWork, Cond.code yX2_startWork cX2_startWork 2 none, Cond.fieldLink RX2 208 "DeadlineCalls$Call" "readyAt" "I", Cond.methodLink RX2 202 yX1_hasRoom, Cond.instanceMethod yX1_hasRoom, Cond.selects RX1 yX1_hasRoom yX1_hasRoom, Cond.code yX1_hasRoom cX1_hasRoom 1 (some .boolean), Cond.methodLink RL 92 yX3_call, Cond.instanceMethod yX3_call, Cond.selects RX3 yX3_call yX3_call, Cond.code yX3_call cX3_call 3 (some .int), Cond.fieldLink RX3 94 "DeadlineCallsModel" "calls" "I", Cond.fieldLink RX3 101 "DeadlineCallsModel" "time" "I", Cond.methodLink RX3 121 yX3_begins, Cond.instanceMethod yX3_begins]
def wsL_law0_r11 : List Cond := [Cond.selects RX3 yX3_begins yX3_begins, Cond.code yX3_begins cX3_begins 7 none, Cond.methodLink RX3 107 yX3_manyOf, Cond.instanceMethod yX3_manyOf, Cond.selects RX3 yX3_manyOf yX3_manyOf, Cond.code yX3_manyOf cX3_manyOf 5 (some .int), Cond.methodLink RX3 111 yX3_isOpenNow, Cond.instanceMethod yX3_isOpenNow, Cond.selects RX3 yX3_isOpenNow yX3_isOpenNow, Cond.code yX3_isOpenNow cX3_isOpenNow 2 (some .boolean), Cond.methodLink RX3 114 yX3_ends, Cond.instanceMethod yX3_ends, Cond.selects RX3 yX3_ends yX3_ends, Cond.code yX3_ends cX3_ends 5 (some .int), Cond.methodLink RX3 104 yX3_isOver, Cond.instanceMethod yX3_isOver, Cond.selects RX3 yX3_isOver yX3_isOver, Cond.code yX3_isOver cX3_isOver 2 (some .boolean), Cond.methodLink RX3 117 yX3_works, Cond.instanceMethod yX3_works, Cond.selects RX3 yX3_works yX3_works, Cond.code yX3_works cX3_works 2 none, Cond.methodLink RL 93 yL_cancel, Cond.static yL_cancel]
def wsL_law0_r12 : List Cond := [Cond.codeWith yL_cancel cL_cancel 4 (some .int) [(0, 9, 12, 13), (0, 9, 15, 21)], Cond.methodLink RL 30 yX2_cancel, Cond.instanceMethod yX2_cancel, Cond.selects RX2 yX2_cancel yX2_cancel, Cond.code yX2_cancel cX2_cancel 3 (some .int), Cond.methodLink RX2 90 yX2_callAt, Cond.instanceMethod yX2_callAt, Cond.selects RX2 yX2_callAt yX2_callAt, Cond.code yX2_callAt cX2_callAt 3 (some (.object "DeadlineCalls$Call")), Cond.methodLink RL 96 yX3_cancel, Cond.instanceMethod yX3_cancel, Cond.selects RX3 yX3_cancel yX3_cancel, Cond.code yX3_cancel cX3_cancel 2 (some .int), Cond.methodLink RX3 125 yX3_isCall, Cond.instanceMethod yX3_isCall, Cond.selects RX3 yX3_isCall yX3_isCall, Cond.code yX3_isCall cX3_isCall 2 (some .boolean), Cond.methodLink RL 97 yL_pass, Cond.static yL_pass, Cond.codeWith yL_pass cL_pass 4 (some .int) [(0, 9, 12, 15)], Cond.methodLink RL 34 yX2_pass, Cond.instanceMethod yX2_pass, Cond.selects RX2 yX2_pass yX2_pass, Cond.code yX2_pass cX2_pass 4 (some .int)]
def wsL_law0_r13 : List Cond := [Cond.methodLink RX2 110 yX2_cutOffHead, Cond.instanceMethod yX2_cutOffHead, Cond.selects RX2 yX2_cutOffHead yX2_cutOffHead, Cond.code yX2_cutOffHead cX2_cutOffHead 2 none, Cond.methodLink RX2 113 yX2_endLate, Cond.instanceMethod yX2_endLate, Cond.selects RX2 yX2_endLate yX2_endLate, Cond.code yX2_endLate cX2_endLate 2 none, Cond.fieldLink RX2 139 "DeadlineCalls$Call" "deadline" "I", Cond.methodLink RX2 221 yX1_noteTrouble, Cond.instanceMethod yX1_noteTrouble, Cond.selects RX1 yX1_noteTrouble yX1_noteTrouble, Cond.code yX1_noteTrouble cX1_noteTrouble 2 none, Cond.methodLink RX2 116 yX2_endWork, Cond.instanceMethod yX2_endWork, Cond.selects RX2 yX2_endWork yX2_endWork, Cond.code yX2_endWork cX2_endWork 2 none, Cond.fieldLink RX2 131 "DeadlineCalls$Call" "state" "I", Cond.fieldLink RX2 227 "DeadlineCalls$Call" "rowLength" "I", Cond.methodLink RX2 224 yX1_failsNextWork, Cond.instanceMethod yX1_failsNextWork, Cond.selects RX1 yX1_failsNextWork yX1_failsNextWork, Cond.code yX1_failsNextWork cX1_failsNextWork 1 (some .boolean), Cond.fieldLink RX1 45 "DeadlineCalls$Service" "worked" "I"]
def wsL_law0_r14 : List Cond := [Cond.fieldLink RX1 48 "DeadlineCalls$Service" "each" "I", Cond.methodLink RX2 228 yX2_askAt, Cond.instanceMethod yX2_askAt, Cond.selects RX2 yX2_askAt yX2_askAt, Cond.code yX2_askAt cX2_askAt 4 none, Cond.methodLink RX2 231 yX0_rowAt, Cond.instanceMethod yX0_rowAt, Cond.selects RX0 yX0_rowAt yX0_rowAt, Cond.code yX0_rowAt cX0_rowAt 3 (some (.object "DeadlineCalls$Service")), Cond.fieldLink RX0 41 "DeadlineCalls$Service" "row" "[LDeadlineCalls$Service;", Cond.fieldLink RX0 45 "DeadlineCalls$Call" "rowLength" "I", Cond.methodLink RX2 234 yX0_askNow, Cond.instanceMethod yX0_askNow, Cond.selects RX0 yX0_askNow yX0_askNow, Cond.code yX0_askNow cX0_askNow 3 none, Cond.fieldLink RX0 52 "DeadlineCalls$Call" "asked" "LDeadlineCalls$Service;", Cond.fieldLink RX0 55 "DeadlineCalls$Call" "place" "I", Cond.fieldLink RX0 58 "DeadlineCalls$Call" "wantsTry" "Z", Cond.fieldLink RX0 65 "DeadlineCalls$Call" "tries" "I", Cond.fieldLink RX0 68 "DeadlineCalls$Call" "triesAgain" "I", Cond.methodLink RX0 48 yX0_become, Cond.methodLink RX2 119 yX2_judgeAsking, Cond.instanceMethod yX2_judgeAsking, Cond.selects RX2 yX2_judgeAsking yX2_judgeAsking]
def wsL_law0_r15 : List Cond := [Cond.code yX2_judgeAsking cX2_judgeAsking 3 none, Cond.fieldLink RX2 238 "DeadlineCalls$Call" "asked" "LDeadlineCalls$Service;", Cond.fieldLink RX2 241 "DeadlineCalls$Call" "wantsTry" "Z", Cond.methodLink RX2 245 yX2_judge, Cond.instanceMethod yX2_judge, Cond.selects RX2 yX2_judge yX2_judge, Cond.code yX2_judge cX2_judge 3 none, Cond.fieldLink RX2 249 "DeadlineCalls$Call" "isAnswered" "Z", Cond.fieldLink RX2 145 "DeadlineCalls$Call" "place" "I", Cond.fieldLink RX2 255 "DeadlineCalls$Call" "openTries" "I", Cond.fieldLink RX2 261 "DeadlineCalls$Call" "tries" "I", Cond.fieldLink RX2 264 "DeadlineCalls$Call" "triedAt" "I", Cond.methodLink RX2 252 yX2_cancelTries, Cond.instanceMethod yX2_cancelTries, Cond.selects RX2 yX2_cancelTries yX2_cancelTries, Cond.code yX2_cancelTries cX2_cancelTries 3 none, Cond.methodLink RX2 258 yX2_tryAgain, Cond.instanceMethod yX2_tryAgain, Cond.selects RX2 yX2_tryAgain yX2_tryAgain, Cond.code yX2_tryAgain cX2_tryAgain 3 none, Cond.fieldLink RX2 270 "DeadlineCalls$Call" "triesAgain" "I", Cond.methodLink RX2 273 yX1_payForTry, Cond.instanceMethod yX1_payForTry, Cond.selects RX1 yX1_payForTry yX1_payForTry]
def wsL_law0_r16 : List Cond := [Cond.code yX1_payForTry cX1_payForTry 1 (some .boolean), Cond.methodLink RX2 267 yX1_isTooLong, Cond.instanceMethod yX1_isTooLong, Cond.selects RX1 yX1_isTooLong yX1_isTooLong, Cond.code yX1_isTooLong cX1_isTooLong 2 (some .boolean), Cond.fieldLink RX1 51 "DeadlineCalls$Service" "patience" "I", Cond.methodLink RX2 122 yX2_makeTries, Cond.instanceMethod yX2_makeTries, Cond.selects RX2 yX2_makeTries yX2_makeTries, Cond.code yX2_makeTries cX2_makeTries 3 none, Cond.methodLink RX2 276 yX2_makeTry, Cond.instanceMethod yX2_makeTry, Cond.selects RX2 yX2_makeTry yX2_makeTry, Cond.code yX2_makeTry cX2_makeTry 3 none, Cond.methodLink RX2 279 yX0_noteTry, Cond.instanceMethod yX0_noteTry, Cond.selects RX0 yX0_noteTry yX0_noteTry, Cond.code yX0_noteTry cX0_noteTry 2 none, Cond.fieldLink RX0 74 "DeadlineCalls$Call" "triedAt" "I", Cond.methodLink RX2 125 yX2_startQueued, Cond.instanceMethod yX2_startQueued, Cond.selects RX2 yX2_startQueued yX2_startQueued, Cond.code yX2_startQueued cX2_startQueued 3 none, Cond.methodLink RX2 167 yX1_countOf]
def wsL_law0_r17 : List Cond := [Cond.methodLink RX2 282 yX2_startQueuedOf, Cond.instanceMethod yX2_startQueuedOf, Cond.selects RX2 yX2_startQueuedOf yX2_startQueuedOf, Cond.code yX2_startQueuedOf cX2_startQueuedOf 3 none, Cond.methodLink RX2 158 yX0_isOf, Cond.instanceMethod yX0_isOf, Cond.selects RX0 yX0_isOf yX0_isOf, Cond.code yX0_isOf cX0_isOf 3 (some .boolean), Cond.methodLink RL 99 yX3_pass, Cond.instanceMethod yX3_pass, Cond.selects RX3 yX3_pass yX3_pass, Cond.code yX3_pass cX3_pass 4 (some .int), Cond.methodLink RX3 160 yX3_rootsOver, Cond.instanceMethod yX3_rootsOver, Cond.selects RX3 yX3_rootsOver yX3_rootsOver, Cond.code yX3_rootsOver cX3_rootsOver 3 (some .int), Cond.methodLink RX3 164 yX3_ticks, Cond.instanceMethod yX3_ticks, Cond.selects RX3 yX3_ticks yX3_ticks, Cond.code yX3_ticks cX3_ticks 2 none, Cond.methodLink RX3 145 yX3_late, Cond.instanceMethod yX3_late, Cond.selects RX3 yX3_late yX3_late, Cond.code yX3_late cX3_late 2 none]
def wsL_law0_r18 : List Cond := [Cond.methodLink RX3 128 yX3_counts, Cond.instanceMethod yX3_counts, Cond.selects RX3 yX3_counts yX3_counts, Cond.code yX3_counts cX3_counts 2 none, Cond.methodLink RX3 148 yX3_worksOut, Cond.instanceMethod yX3_worksOut, Cond.selects RX3 yX3_worksOut yX3_worksOut, Cond.code yX3_worksOut cX3_worksOut 3 none, Cond.methodLink RX3 131 yX3_startsAsking, Cond.instanceMethod yX3_startsAsking, Cond.selects RX3 yX3_startsAsking yX3_startsAsking, Cond.code yX3_startsAsking cX3_startsAsking 4 none, Cond.methodLink RX3 151 yX3_looks, Cond.instanceMethod yX3_looks, Cond.selects RX3 yX3_looks yX3_looks, Cond.code yX3_looks cX3_looks 7 none, Cond.methodLink RX3 134 yX3_isTry, Cond.instanceMethod yX3_isTry, Cond.selects RX3 yX3_isTry yX3_isTry, Cond.code yX3_isTry cX3_isTry 3 (some .boolean), Cond.methodLink RX3 138 yX3_goesOn, Cond.instanceMethod yX3_goesOn, Cond.selects RX3 yX3_goesOn yX3_goesOn, Cond.code yX3_goesOn cX3_goesOn 3 none]
def wsL_law0_r19 : List Cond := [Cond.methodLink RX3 154 yX3_makesTries, Cond.instanceMethod yX3_makesTries, Cond.selects RX3 yX3_makesTries yX3_makesTries, Cond.code yX3_makesTries cX3_makesTries 3 none, Cond.methodLink RX3 157 yX3_takesQueued, Cond.instanceMethod yX3_takesQueued, Cond.selects RX3 yX3_takesQueued yX3_takesQueued, Cond.code yX3_takesQueued cX3_takesQueued 3 none, Cond.methodLink RX3 141 yX3_firstQueued, Cond.instanceMethod yX3_firstQueued, Cond.selects RX3 yX3_firstQueued yX3_firstQueued, Cond.code yX3_firstQueued cX3_firstQueued 4 (some .int), Cond.methodLink RL 100 yX2_time, Cond.instanceMethod yX2_time, Cond.selects RX2 yX2_time yX2_time, Cond.code yX2_time cX2_time 1 (some .int), Cond.methodLink RL 103 yX3_time, Cond.instanceMethod yX3_time, Cond.selects RX3 yX3_time yX3_time, Cond.code yX3_time cX3_time 1 (some .int), Cond.methodLink RL 104 yX2_calls, Cond.instanceMethod yX2_calls, Cond.selects RX2 yX2_calls yX2_calls, Cond.code yX2_calls cX2_calls 1 (some .int)]
def wsL_law0_r20 : List Cond := [Cond.methodLink RL 107 yX3_calls, Cond.instanceMethod yX3_calls, Cond.selects RX3 yX3_calls yX3_calls, Cond.code yX3_calls cX3_calls 1 (some .int), Cond.methodLink RL 108 yL_state, Cond.static yL_state, Cond.codeWith yL_state cL_state 4 (some .int) [(0, 9, 12, 13)], Cond.methodLink RL 37 yX2_state, Cond.instanceMethod yX2_state, Cond.selects RX2 yX2_state yX2_state, Cond.code yX2_state cX2_state 2 (some .int), Cond.methodLink RL 110 yX3_state, Cond.instanceMethod yX3_state, Cond.selects RX3 yX3_state yX3_state, Cond.code yX3_state cX3_state 2 (some .int), Cond.methodLink RX3 167 yX3_asksCall, Cond.instanceMethod yX3_asksCall, Cond.selects RX3 yX3_asksCall yX3_asksCall, Cond.code yX3_asksCall cX3_asksCall 2 (some .boolean), Cond.methodLink RL 111 yL_origin, Cond.static yL_origin, Cond.codeWith yL_origin cL_origin 4 (some .int) [(0, 9, 12, 13)], Cond.methodLink RL 40 yX2_origin, Cond.instanceMethod yX2_origin]
def wsL_law0_r21 : List Cond := [Cond.selects RX2 yX2_origin yX2_origin, Cond.code yX2_origin cX2_origin 4 (some .int), Cond.fieldLink RX2 138 "DeadlineCalls$Service" "number" "I", Cond.methodLink RL 113 yX3_origin, Cond.instanceMethod yX3_origin, Cond.selects RX3 yX3_origin yX3_origin, Cond.code yX3_origin cX3_origin 2 (some .int), Cond.methodLink RL 114 yL_deadline, Cond.static yL_deadline, Cond.codeWith yL_deadline cL_deadline 4 (some .int) [(0, 9, 12, 13)], Cond.methodLink RL 43 yX2_deadline, Cond.instanceMethod yX2_deadline, Cond.selects RX2 yX2_deadline yX2_deadline, Cond.code yX2_deadline cX2_deadline 2 (some .int), Cond.methodLink RL 116 yX3_deadline, Cond.instanceMethod yX3_deadline, Cond.selects RX3 yX3_deadline yX3_deadline, Cond.code yX3_deadline cX3_deadline 2 (some .int), Cond.methodLink RL 117 yL_overAt, Cond.static yL_overAt, Cond.codeWith yL_overAt cL_overAt 4 (some .int) [(0, 9, 12, 13)], Cond.methodLink RL 46 yX2_overAt, Cond.instanceMethod yX2_overAt, Cond.selects RX2 yX2_overAt yX2_overAt]
def wsL_law0_r22 : List Cond := [Cond.code yX2_overAt cX2_overAt 2 (some .int), Cond.methodLink RL 119 yX3_overAt, Cond.instanceMethod yX3_overAt, Cond.selects RX3 yX3_overAt yX3_overAt, Cond.code yX3_overAt cX3_overAt 2 (some .int), Cond.methodLink RL 120 yL_place, Cond.static yL_place, Cond.codeWith yL_place cL_place 4 (some .int) [(0, 9, 12, 13)], Cond.methodLink RL 49 yX2_place, Cond.instanceMethod yX2_place, Cond.selects RX2 yX2_place yX2_place, Cond.code yX2_place cX2_place 3 (some .int), Cond.methodLink RL 122 yX3_place, Cond.instanceMethod yX3_place, Cond.selects RX3 yX3_place yX3_place, Cond.code yX3_place cX3_place 2 (some .int), Cond.methodLink RL 123 yL_below, Cond.static yL_below, Cond.codeWith yL_below cL_below 4 (some .int) [(0, 9, 12, 13)], Cond.methodLink RL 52 yX2_below, Cond.instanceMethod yX2_below, Cond.selects RX2 yX2_below yX2_below, Cond.code yX2_below cX2_below 5 (some .int), Cond.methodLink RX2 151 yX0_isBelow]
def wsL_law0_r23 : List Cond := [Cond.instanceMethod yX0_isBelow, Cond.selects RX0 yX0_isBelow yX0_isBelow, Cond.code yX0_isBelow cX0_isBelow 3 (some .boolean), Cond.methodLink RL 125 yX3_below, Cond.instanceMethod yX3_below, Cond.selects RX3 yX3_below yX3_below, Cond.code yX3_below cX3_below 4 (some .int), Cond.methodLink RX3 170 yX3_isBelow, Cond.instanceMethod yX3_isBelow, Cond.selects RX3 yX3_isBelow yX3_isBelow, Cond.code yX3_isBelow cX3_isBelow 4 (some .boolean), Cond.methodLink RL 126 yL_queuedAt, Cond.static yL_queuedAt, Cond.codeWith yL_queuedAt cL_queuedAt 5 (some .int) [(0, 10, 13, 13)], Cond.methodLink RL 55 yX2_queuedAt, Cond.instanceMethod yX2_queuedAt, Cond.selects RX2 yX2_queuedAt yX2_queuedAt, Cond.code yX2_queuedAt cX2_queuedAt 6 (some .int), Cond.methodLink RL 128 yX3_queuedAt, Cond.instanceMethod yX3_queuedAt, Cond.selects RX3 yX3_queuedAt yX3_queuedAt, Cond.code yX3_queuedAt cX3_queuedAt 7 (some .int), Cond.methodLink RL 129 yL_count, Cond.static yL_count]
def wsL_law0_r24 : List Cond := [Cond.codeWith yL_count cL_count 5 (some .int) [(0, 10, 13, 13), (0, 10, 17, 15)], Cond.methodLink RL 58 yX2_count, Cond.instanceMethod yX2_count, Cond.selects RX2 yX2_count yX2_count, Cond.code yX2_count cX2_count 4 (some .int), Cond.methodLink RL 131 yX3_count, Cond.instanceMethod yX3_count, Cond.selects RX3 yX3_count yX3_count, Cond.code yX3_count cX3_count 3 (some .int), Cond.methodLink RL 132 yL_tokens, Cond.static yL_tokens, Cond.codeWith yL_tokens cL_tokens 4 (some .int) [(0, 9, 12, 13)], Cond.methodLink RL 61 yX2_tokens, Cond.instanceMethod yX2_tokens, Cond.selects RX2 yX2_tokens yX2_tokens, Cond.code yX2_tokens cX2_tokens 2 (some .int), Cond.fieldLink RX2 171 "DeadlineCalls$Service" "tokens" "I", Cond.methodLink RL 134 yX3_tokens, Cond.instanceMethod yX3_tokens, Cond.selects RX3 yX3_tokens yX3_tokens, Cond.code yX3_tokens cX3_tokens 2 (some .int), Cond.methodLink RL 135 yL_isOpen, Cond.static yL_isOpen, Cond.codeWith yL_isOpen cL_isOpen 4 (some .int) [(0, 16, 19, 13)]]
def wsL_law0_r25 : List Cond := [Cond.methodLink RL 64 yX2_isOpen, Cond.instanceMethod yX2_isOpen, Cond.selects RX2 yX2_isOpen yX2_isOpen, Cond.code yX2_isOpen cX2_isOpen 2 (some .boolean), Cond.methodLink RL 137 yX3_isOpen, Cond.instanceMethod yX3_isOpen, Cond.selects RX3 yX3_isOpen yX3_isOpen, Cond.code yX3_isOpen cX3_isOpen 2 (some .boolean)]
def wsL_law0 : List Cond := (wsL_law0_r1 ++ (wsL_law0_r2 ++ (wsL_law0_r3 ++ (wsL_law0_r4 ++ (wsL_law0_r5 ++ (wsL_law0_r6 ++ (wsL_law0_r7 ++ (wsL_law0_r8 ++ (wsL_law0_r9 ++ (wsL_law0_r10 ++ (wsL_law0_r11 ++ (wsL_law0_r12 ++ (wsL_law0_r13 ++ (wsL_law0_r14 ++ (wsL_law0_r15 ++ (wsL_law0_r16 ++ (wsL_law0_r17 ++ (wsL_law0_r18 ++ (wsL_law0_r19 ++ (wsL_law0_r20 ++ (wsL_law0_r21 ++ (wsL_law0_r22 ++ (wsL_law0_r23 ++ (wsL_law0_r24 ++ wsL_law0_r25)))))))))))))))))))))))) ++ wsX20 ++ wsX30 ++ wsX10 ++ wsX00 ++ ([] : List Cond)
def wsL_law : List Cond := wsL_law0 ++ (vx_atS RX2 166 "java/lang/IndexOutOfBoundsException" ["java/lang/RuntimeException", "java/lang/Exception"]).filter goodWord ++ (vx_atS RX2 46 "java/lang/IllegalArgumentException" ["java/lang/RuntimeException", "java/lang/Exception"]).filter goodWord ++ (vx_atS RX2 57 "java/lang/IllegalStateException" ["java/lang/RuntimeException", "java/lang/Exception"]).filter goodWord
theorem inlX0 : ∀ w ∈ wsX00, w ∈ wsL_law := fun _ h => List.mem_append_left _ (List.mem_append_left _ (List.mem_append_left _ (List.mem_append_left _ (List.mem_append_right _ h))))
theorem inlX1 : ∀ w ∈ wsX10, w ∈ wsL_law := fun _ h => List.mem_append_left _ (List.mem_append_left _ (List.mem_append_left _ (List.mem_append_left _ (List.mem_append_left _ (List.mem_append_right _ h)))))
theorem inlX2 : ∀ w ∈ wsX20, w ∈ wsL_law := fun _ h => List.mem_append_left _ (List.mem_append_left _ (List.mem_append_left _ (List.mem_append_left _ (List.mem_append_left _ (List.mem_append_left _ (List.mem_append_left _ (List.mem_append_right _ h)))))))
theorem inlX3 : ∀ w ∈ wsX30, w ∈ wsL_law := fun _ h => List.mem_append_left _ (List.mem_append_left _ (List.mem_append_left _ (List.mem_append_left _ (List.mem_append_left _ (List.mem_append_left _ (List.mem_append_right _ h))))))
abbrev vwCl : List vw_C := [(RX0, TX0, 18), (RX1, TX1, 13), (RX2, TX2, 7), (RX3, TX3, 28)]
end
section
/-- the words of the one list, chunk by chunk: all of them are in it, and good -/
theorem mw_B : ∀ w ∈ (wsL_law0_r1 ++ (wsL_law0_r2 ++ (wsL_law0_r3 ++ (wsL_law0_r4 ++ (wsL_law0_r5 ++ (wsL_law0_r6 ++ (wsL_law0_r7 ++ (wsL_law0_r8 ++ (wsL_law0_r9 ++ (wsL_law0_r10 ++ (wsL_law0_r11 ++ (wsL_law0_r12 ++ (wsL_law0_r13 ++ (wsL_law0_r14 ++ (wsL_law0_r15 ++ (wsL_law0_r16 ++ (wsL_law0_r17 ++ (wsL_law0_r18 ++ (wsL_law0_r19 ++ (wsL_law0_r20 ++ (wsL_law0_r21 ++ (wsL_law0_r22 ++ (wsL_law0_r23 ++ (wsL_law0_r24 ++ (wsL_law0_r25))))))))))))))))))))))))), w ∈ wsL_law := fun _ h => List.mem_append_left _ (List.mem_append_left _ (List.mem_append_left _ (List.mem_append_left _ (List.mem_append_left _ (List.mem_append_left _ (List.mem_append_left _ (List.mem_append_left _ (h))))))))
theorem mw_1 : ∀ w ∈ wsL_law0_r1, w ∈ wsL_law := fun w h => mw_B w (List.mem_append_left _ h)
theorem mw_2 : ∀ w ∈ wsL_law0_r2, w ∈ wsL_law := fun w h => mw_B w (List.mem_append_right _ (List.mem_append_left _ h))
theorem mw_3 : ∀ w ∈ wsL_law0_r3, w ∈ wsL_law := fun w h => mw_B w (List.mem_append_right _ (List.mem_append_right _ (List.mem_append_left _ h)))
theorem mw_4 : ∀ w ∈ wsL_law0_r4, w ∈ wsL_law := fun w h => mw_B w (List.mem_append_right _ (List.mem_append_right _ (List.mem_append_right _ (List.mem_append_left _ h))))
theorem mw_5 : ∀ w ∈ wsL_law0_r5, w ∈ wsL_law := fun w h => mw_B w (List.mem_append_right _ (List.mem_append_right _ (List.mem_append_right _ (List.mem_append_right _ (List.mem_append_left _ h)))))
theorem mw_6 : ∀ w ∈ wsL_law0_r6, w ∈ wsL_law := fun w h => mw_B w (List.mem_append_right _ (List.mem_append_right _ (List.mem_append_right _ (List.mem_append_right _ (List.mem_append_right _ (List.mem_append_left _ h))))))
theorem mw_7 : ∀ w ∈ wsL_law0_r7, w ∈ wsL_law := fun w h => mw_B w (List.mem_append_right _ (List.mem_append_right _ (List.mem_append_right _ (List.mem_append_right _ (List.mem_append_right _ (List.mem_append_right _ (List.mem_append_left _ h)))))))
theorem mw_8 : ∀ w ∈ wsL_law0_r8, w ∈ wsL_law := fun w h => mw_B w (List.mem_append_right _ (List.mem_append_right _ (List.mem_append_right _ (List.mem_append_right _ (List.mem_append_right _ (List.mem_append_right _ (List.mem_append_right _ (List.mem_append_left _ h))))))))
theorem mw_9 : ∀ w ∈ wsL_law0_r9, w ∈ wsL_law := fun w h => mw_B w (List.mem_append_right _ (List.mem_append_right _ (List.mem_append_right _ (List.mem_append_right _ (List.mem_append_right _ (List.mem_append_right _ (List.mem_append_right _ (List.mem_append_right _ (List.mem_append_left _ h)))))))))
theorem mw_10 : ∀ w ∈ wsL_law0_r10, w ∈ wsL_law := fun w h => mw_B w (List.mem_append_right _ (List.mem_append_right _ (List.mem_append_right _ (List.mem_append_right _ (List.mem_append_right _ (List.mem_append_right _ (List.mem_append_right _ (List.mem_append_right _ (List.mem_append_right _ (List.mem_append_left _ h))))))))))
theorem mw_11 : ∀ w ∈ wsL_law0_r11, w ∈ wsL_law := fun w h => mw_B w (List.mem_append_right _ (List.mem_append_right _ (List.mem_append_right _ (List.mem_append_right _ (List.mem_append_right _ (List.mem_append_right _ (List.mem_append_right _ (List.mem_append_right _ (List.mem_append_right _ (List.mem_append_right _ (List.mem_append_left _ h)))))))))))
theorem mw_12 : ∀ w ∈ wsL_law0_r12, w ∈ wsL_law := fun w h => mw_B w (List.mem_append_right _ (List.mem_append_right _ (List.mem_append_right _ (List.mem_append_right _ (List.mem_append_right _ (List.mem_append_right _ (List.mem_append_right _ (List.mem_append_right _ (List.mem_append_right _ (List.mem_append_right _ (List.mem_append_right _ (List.mem_append_left _ h))))))))))))
theorem mw_13 : ∀ w ∈ wsL_law0_r13, w ∈ wsL_law := fun w h => mw_B w (List.mem_append_right _ (List.mem_append_right _ (List.mem_append_right _ (List.mem_append_right _ (List.mem_append_right _ (List.mem_append_right _ (List.mem_append_right _ (List.mem_append_right _ (List.mem_append_right _ (List.mem_append_right _ (List.mem_append_right _ (List.mem_append_right _ (List.mem_append_left _ h)))))))))))))
theorem mw_14 : ∀ w ∈ wsL_law0_r14, w ∈ wsL_law := fun w h => mw_B w (List.mem_append_right _ (List.mem_append_right _ (List.mem_append_right _ (List.mem_append_right _ (List.mem_append_right _ (List.mem_append_right _ (List.mem_append_right _ (List.mem_append_right _ (List.mem_append_right _ (List.mem_append_right _ (List.mem_append_right _ (List.mem_append_right _ (List.mem_append_right _ (List.mem_append_left _ h))))))))))))))
theorem mw_15 : ∀ w ∈ wsL_law0_r15, w ∈ wsL_law := fun w h => mw_B w (List.mem_append_right _ (List.mem_append_right _ (List.mem_append_right _ (List.mem_append_right _ (List.mem_append_right _ (List.mem_append_right _ (List.mem_append_right _ (List.mem_append_right _ (List.mem_append_right _ (List.mem_append_right _ (List.mem_append_right _ (List.mem_append_right _ (List.mem_append_right _ (List.mem_append_right _ (List.mem_append_left _ h)))))))))))))))
theorem mw_16 : ∀ w ∈ wsL_law0_r16, w ∈ wsL_law := fun w h => mw_B w (List.mem_append_right _ (List.mem_append_right _ (List.mem_append_right _ (List.mem_append_right _ (List.mem_append_right _ (List.mem_append_right _ (List.mem_append_right _ (List.mem_append_right _ (List.mem_append_right _ (List.mem_append_right _ (List.mem_append_right _ (List.mem_append_right _ (List.mem_append_right _ (List.mem_append_right _ (List.mem_append_right _ (List.mem_append_left _ h))))))))))))))))
theorem mw_17 : ∀ w ∈ wsL_law0_r17, w ∈ wsL_law := fun w h => mw_B w (List.mem_append_right _ (List.mem_append_right _ (List.mem_append_right _ (List.mem_append_right _ (List.mem_append_right _ (List.mem_append_right _ (List.mem_append_right _ (List.mem_append_right _ (List.mem_append_right _ (List.mem_append_right _ (List.mem_append_right _ (List.mem_append_right _ (List.mem_append_right _ (List.mem_append_right _ (List.mem_append_right _ (List.mem_append_right _ (List.mem_append_left _ h)))))))))))))))))
theorem mw_18 : ∀ w ∈ wsL_law0_r18, w ∈ wsL_law := fun w h => mw_B w (List.mem_append_right _ (List.mem_append_right _ (List.mem_append_right _ (List.mem_append_right _ (List.mem_append_right _ (List.mem_append_right _ (List.mem_append_right _ (List.mem_append_right _ (List.mem_append_right _ (List.mem_append_right _ (List.mem_append_right _ (List.mem_append_right _ (List.mem_append_right _ (List.mem_append_right _ (List.mem_append_right _ (List.mem_append_right _ (List.mem_append_right _ (List.mem_append_left _ h))))))))))))))))))
theorem mw_19 : ∀ w ∈ wsL_law0_r19, w ∈ wsL_law := fun w h => mw_B w (List.mem_append_right _ (List.mem_append_right _ (List.mem_append_right _ (List.mem_append_right _ (List.mem_append_right _ (List.mem_append_right _ (List.mem_append_right _ (List.mem_append_right _ (List.mem_append_right _ (List.mem_append_right _ (List.mem_append_right _ (List.mem_append_right _ (List.mem_append_right _ (List.mem_append_right _ (List.mem_append_right _ (List.mem_append_right _ (List.mem_append_right _ (List.mem_append_right _ (List.mem_append_left _ h)))))))))))))))))))
theorem mw_20 : ∀ w ∈ wsL_law0_r20, w ∈ wsL_law := fun w h => mw_B w (List.mem_append_right _ (List.mem_append_right _ (List.mem_append_right _ (List.mem_append_right _ (List.mem_append_right _ (List.mem_append_right _ (List.mem_append_right _ (List.mem_append_right _ (List.mem_append_right _ (List.mem_append_right _ (List.mem_append_right _ (List.mem_append_right _ (List.mem_append_right _ (List.mem_append_right _ (List.mem_append_right _ (List.mem_append_right _ (List.mem_append_right _ (List.mem_append_right _ (List.mem_append_right _ (List.mem_append_left _ h))))))))))))))))))))
theorem mw_21 : ∀ w ∈ wsL_law0_r21, w ∈ wsL_law := fun w h => mw_B w (List.mem_append_right _ (List.mem_append_right _ (List.mem_append_right _ (List.mem_append_right _ (List.mem_append_right _ (List.mem_append_right _ (List.mem_append_right _ (List.mem_append_right _ (List.mem_append_right _ (List.mem_append_right _ (List.mem_append_right _ (List.mem_append_right _ (List.mem_append_right _ (List.mem_append_right _ (List.mem_append_right _ (List.mem_append_right _ (List.mem_append_right _ (List.mem_append_right _ (List.mem_append_right _ (List.mem_append_right _ (List.mem_append_left _ h)))))))))))))))))))))
theorem mw_22 : ∀ w ∈ wsL_law0_r22, w ∈ wsL_law := fun w h => mw_B w (List.mem_append_right _ (List.mem_append_right _ (List.mem_append_right _ (List.mem_append_right _ (List.mem_append_right _ (List.mem_append_right _ (List.mem_append_right _ (List.mem_append_right _ (List.mem_append_right _ (List.mem_append_right _ (List.mem_append_right _ (List.mem_append_right _ (List.mem_append_right _ (List.mem_append_right _ (List.mem_append_right _ (List.mem_append_right _ (List.mem_append_right _ (List.mem_append_right _ (List.mem_append_right _ (List.mem_append_right _ (List.mem_append_right _ (List.mem_append_left _ h))))))))))))))))))))))
theorem mw_23 : ∀ w ∈ wsL_law0_r23, w ∈ wsL_law := fun w h => mw_B w (List.mem_append_right _ (List.mem_append_right _ (List.mem_append_right _ (List.mem_append_right _ (List.mem_append_right _ (List.mem_append_right _ (List.mem_append_right _ (List.mem_append_right _ (List.mem_append_right _ (List.mem_append_right _ (List.mem_append_right _ (List.mem_append_right _ (List.mem_append_right _ (List.mem_append_right _ (List.mem_append_right _ (List.mem_append_right _ (List.mem_append_right _ (List.mem_append_right _ (List.mem_append_right _ (List.mem_append_right _ (List.mem_append_right _ (List.mem_append_right _ (List.mem_append_left _ h)))))))))))))))))))))))
theorem mw_24 : ∀ w ∈ wsL_law0_r24, w ∈ wsL_law := fun w h => mw_B w (List.mem_append_right _ (List.mem_append_right _ (List.mem_append_right _ (List.mem_append_right _ (List.mem_append_right _ (List.mem_append_right _ (List.mem_append_right _ (List.mem_append_right _ (List.mem_append_right _ (List.mem_append_right _ (List.mem_append_right _ (List.mem_append_right _ (List.mem_append_right _ (List.mem_append_right _ (List.mem_append_right _ (List.mem_append_right _ (List.mem_append_right _ (List.mem_append_right _ (List.mem_append_right _ (List.mem_append_right _ (List.mem_append_right _ (List.mem_append_right _ (List.mem_append_right _ (List.mem_append_left _ h))))))))))))))))))))))))
theorem mw_25 : ∀ w ∈ wsL_law0_r25, w ∈ wsL_law := fun w h => mw_B w (List.mem_append_right _ (List.mem_append_right _ (List.mem_append_right _ (List.mem_append_right _ (List.mem_append_right _ (List.mem_append_right _ (List.mem_append_right _ (List.mem_append_right _ (List.mem_append_right _ (List.mem_append_right _ (List.mem_append_right _ (List.mem_append_right _ (List.mem_append_right _ (List.mem_append_right _ (List.mem_append_right _ (List.mem_append_right _ (List.mem_append_right _ (List.mem_append_right _ (List.mem_append_right _ (List.mem_append_right _ (List.mem_append_right _ (List.mem_append_right _ (List.mem_append_right _ (List.mem_append_right _ h))))))))))))))))))))))))
theorem mg_1 : wsL_law0_r1.all goodWord = true := by decide +kernel
theorem mg_2 : wsL_law0_r2.all goodWord = true := by decide +kernel
theorem mg_3 : wsL_law0_r3.all goodWord = true := by decide +kernel
theorem mg_4 : wsL_law0_r4.all goodWord = true := by decide +kernel
theorem mg_5 : wsL_law0_r5.all goodWord = true := by decide +kernel
theorem mg_6 : wsL_law0_r6.all goodWord = true := by decide +kernel
theorem mg_7 : wsL_law0_r7.all goodWord = true := by decide +kernel
theorem mg_8 : wsL_law0_r8.all goodWord = true := by decide +kernel
theorem mg_9 : wsL_law0_r9.all goodWord = true := by decide +kernel
theorem mg_10 : wsL_law0_r10.all goodWord = true := by decide +kernel
theorem mg_11 : wsL_law0_r11.all goodWord = true := by decide +kernel
theorem mg_12 : wsL_law0_r12.all goodWord = true := by decide +kernel
theorem mg_13 : wsL_law0_r13.all goodWord = true := by decide +kernel
theorem mg_14 : wsL_law0_r14.all goodWord = true := by decide +kernel
theorem mg_15 : wsL_law0_r15.all goodWord = true := by decide +kernel
theorem mg_16 : wsL_law0_r16.all goodWord = true := by decide +kernel
theorem mg_17 : wsL_law0_r17.all goodWord = true := by decide +kernel
theorem mg_18 : wsL_law0_r18.all goodWord = true := by decide +kernel
theorem mg_19 : wsL_law0_r19.all goodWord = true := by decide +kernel
theorem mg_20 : wsL_law0_r20.all goodWord = true := by decide +kernel
theorem mg_21 : wsL_law0_r21.all goodWord = true := by decide +kernel
theorem mg_22 : wsL_law0_r22.all goodWord = true := by decide +kernel
theorem mg_23 : wsL_law0_r23.all goodWord = true := by decide +kernel
theorem mg_24 : wsL_law0_r24.all goodWord = true := by decide +kernel
theorem mg_25 : wsL_law0_r25.all goodWord = true := by decide +kernel
theorem mgx_0 : (wsX00).all goodWord = true := by decide +kernel
theorem mgx_1 : (wsX10).all goodWord = true := by decide +kernel
theorem mgx_2 : (wsX20).all goodWord = true := by decide +kernel
theorem mgx_3 : (wsX30).all goodWord = true := by decide +kernel
theorem mg_of {l : List Cond} (h : l.all goodWord = true) : ∀ w ∈ l, goodWord w = true := List.all_eq_true.mp h
theorem mg_fi (l : List Cond) : ∀ w ∈ l.filter goodWord, goodWord w = true := fun _ h => (List.mem_filter.mp h).2
theorem mg_ap {a b : List Cond} (ha : ∀ w ∈ a, goodWord w = true) (hb : ∀ w ∈ b, goodWord w = true) : ∀ w ∈ a ++ b, goodWord w = true := fun w h => (List.mem_append.mp h).elim (ha w) (hb w)
theorem m_good : ∀ w ∈ wsL_law, (w.onTables && w.keeps) = true ∨ ∃ ty, w = .arrayClass ty := fun w hw => good_of_word ((show ∀ w ∈ wsL_law, goodWord w = true from mg_ap (mg_ap (mg_ap (mg_ap (mg_ap (mg_ap (mg_ap (mg_ap (mg_ap (mg_of mg_1) ((mg_ap (mg_of mg_2) ((mg_ap (mg_of mg_3) ((mg_ap (mg_of mg_4) ((mg_ap (mg_of mg_5) ((mg_ap (mg_of mg_6) ((mg_ap (mg_of mg_7) ((mg_ap (mg_of mg_8) ((mg_ap (mg_of mg_9) ((mg_ap (mg_of mg_10) ((mg_ap (mg_of mg_11) ((mg_ap (mg_of mg_12) ((mg_ap (mg_of mg_13) ((mg_ap (mg_of mg_14) ((mg_ap (mg_of mg_15) ((mg_ap (mg_of mg_16) ((mg_ap (mg_of mg_17) ((mg_ap (mg_of mg_18) ((mg_ap (mg_of mg_19) ((mg_ap (mg_of mg_20) ((mg_ap (mg_of mg_21) ((mg_ap (mg_of mg_22) ((mg_ap (mg_of mg_23) ((mg_ap (mg_of mg_24) (mg_of mg_25)))))))))))))))))))))))))))))))))))))))))))))))) (mg_of mgx_2)) (mg_of mgx_3)) (mg_of mgx_1)) (mg_of mgx_0)) (fun _ h => absurd h List.not_mem_nil)) (mg_fi _)) (mg_fi _)) (mg_fi _)) w hw)
end
section
/-! THE STORE: cells by number (not by address), ints and references by cell and place. A world is a map of numbers to addresses (ad), apart, the next ones being the heap's next ones. -/
abbrev mS : Type := Nat × (Nat → Nat → Int32) × (Nat → Nat → Option Nat)
def mN (σ : mS) : Nat := σ.1
def mI (σ : mS) (i k : Nat) : Int32 := σ.2.1 i k
def mR (σ : mS) (i k : Nat) : Option Nat := σ.2.2 i k
def sI (σ : mS) (i k : Nat) (v : Int32) : mS := (σ.1, fun a b => if a = i ∧ b = k then v else σ.2.1 a b, σ.2.2)
def sR (σ : mS) (i k : Nat) (v : Option Nat) : mS := (σ.1, σ.2.1, fun a b => if a = i ∧ b = k then v else σ.2.2 a b)
def sN (σ : mS) : mS := (σ.1 + 1, fun a b => if a = σ.1 then 0 else σ.2.1 a b, fun a b => if a = σ.1 then none else σ.2.2 a b)
theorem mN_sI (σ : mS) (i k : Nat) (v : Int32) : mN (sI σ i k v) = mN σ := rfl
theorem mN_sR (σ : mS) (i k : Nat) (v : Option Nat) : mN (sR σ i k v) = mN σ := rfl
theorem mN_sN (σ : mS) : mN (sN σ) = mN σ + 1 := rfl
theorem mI_sI (σ : mS) (i k : Nat) (v : Int32) (a b : Nat) : mI (sI σ i k v) a b = if a = i ∧ b = k then v else mI σ a b := rfl
theorem mI_sR (σ : mS) (i k : Nat) (v : Option Nat) (a b : Nat) : mI (sR σ i k v) a b = mI σ a b := rfl
theorem mR_sI (σ : mS) (i k : Nat) (v : Int32) (a b : Nat) : mR (sI σ i k v) a b = mR σ a b := rfl
theorem mR_sR (σ : mS) (i k : Nat) (v : Option Nat) (a b : Nat) : mR (sR σ i k v) a b = if a = i ∧ b = k then v else mR σ a b := rfl
theorem mI_sN (σ : mS) (a b : Nat) : mI (sN σ) a b = if a = mN σ then 0 else mI σ a b := rfl
theorem mR_sN (σ : mS) (a b : Nat) : mR (sN σ) a b = if a = mN σ then none else mR σ a b := rfl
/-- the classes that hold: 0 Call, 1 Service, 2 DeadlineCalls, 3 the reference; a place is an int (0), a reference (1), or a cell of the same maker for good (2, how far on) -/
def mFk : Nat → Nat → Nat × Nat
  | 0, 1 => (1, 0)
  | 0, 2 => (1, 0)
  | 0, 7 => (1, 0)
  | 0, 8 => (1, 0)
  | 0, 11 => (1, 0)
  | 1, 10 => (2, 1)
  | 1, 12 => (2, 2)
  | 2, 0 => (2, 1)
  | 2, 1 => (2, 2)
  | 2, 5 => (1, 0)
  | 2, 6 => (1, 0)
  | 3, 2 => (2, 1)
  | 3, 3 => (2, 2)
  | 3, 4 => (2, 3)
  | 3, 5 => (2, 4)
  | 3, 6 => (2, 5)
  | 3, 7 => (2, 6)
  | 3, 8 => (2, 7)
  | 3, 9 => (2, 8)
  | 3, 10 => (2, 9)
  | 3, 11 => (2, 10)
  | 3, 12 => (2, 11)
  | 3, 14 => (2, 12)
  | 3, 15 => (2, 13)
  | 3, 16 => (2, 14)
  | 3, 17 => (2, 15)
  | 3, 18 => (2, 16)
  | 3, 19 => (2, 17)
  | 3, 20 => (2, 18)
  | 3, 21 => (2, 19)
  | 3, 22 => (2, 20)
  | 3, 23 => (2, 21)
  | 3, 24 => (2, 22)
  | 3, 25 => (2, 23)
  | 3, 26 => (2, 24)
  | 3, 27 => (2, 25)
  | _, _ => (0, 0)
def mNf : Nat → Nat
  | 0 => 18
  | 1 => 13
  | 2 => 7
  | _ => 28
/-- what a cell of the class's world is: (0, its class), (1, how long: ints), (2, how long: booleans), (3, how long: calls), (4, how long: services) -/
def kdC (i : Nat) : Nat × Nat := if i = 0 then (0, 2) else if i = 1 then (4, 6) else if i = 2 then (3, 200) else if 21 ≤ i then (0, 0) else if i % 3 = 0 then (0, 1) else if i % 3 = 1 then (4, 3) else (1, 8)
/-- .. and of the reference's -/
def kdM (i : Nat) : Nat × Nat := if i = 0 then (0, 3) else if i = 5 then (1, 18) else if i ≤ 11 then (1, 6) else if i = 20 then (1, 600) else if i ≤ 23 then (1, 200) else (2, 200)
abbrev mG : Type := va_G × ClassId × ClassId × ClassId × ClassId
def mTys (G : mG) : List (ClassId × FieldType) := [(G.2.1, .int), (G.2.2.1, .boolean), (G.2.2.2.1, .object RX0), (G.2.2.2.2, .object RX1)]
def mV (ad : Nat → Nat) (r : Option Nat) : Value := va_rf (r.map ad)
def mF (ad : Nat → Nat) (σ : mS) (i : Nat) (q : Nat × Nat) (k : Nat) : Value := match q.1 with
  | 0 => .int (mI σ i k)
  | 1 => mV ad (mR σ i k)
  | _ => .ref (ad (i + q.2))
def mL (ad : Nat → Nat) (σ : mS) (i ci : Nat) : List Value := (List.range (mNf ci)).map (fun k => mF ad σ i (mFk ci k) k)
def mE (G : mG) (kd : Nat → Nat × Nat) (ad : Nat → Nat) (σ : mS) (i : Nat) : va_E := match (kd i).1 with
  | 0 => .inr ((kd i).2, mL ad σ i (kd i).2)
  | 1 => .inl (G.2.1, (kd i).2, .inl (mI σ i))
  | 2 => .inl (G.2.2.1, (kd i).2, .inl (mI σ i))
  | 3 => .inl (G.2.2.2.1, (kd i).2, .inr (.inr (.inr (.inr (fun j => (mR σ i j).map ad)))))
  | _ => .inl (G.2.2.2.2, (kd i).2, .inr (.inr (.inr (.inr (fun j => (mR σ i j).map ad)))))
def mP (G : mG) (kd : Nat → Nat × Nat) (ad : Nat → Nat) (σ : mS) (H : Heap) : Prop :=
  (∀ i, i < mN σ → va_at G.1 vwCl (ad i, mE G kd ad σ i) H) ∧ (∀ i j, ad i = ad j → i = j) ∧ ∀ j, ad (mN σ + j) = H.size + j
def mA (ad : Nat → Nat) : Nat → Prop := fun q => ∃ i, ad i = q
def mM (G : mG) (kd : Nat → Nat × Nat) (ad : Nat → Nat) (s : State) (σ : mS) (H : Heap) (locs : List Loc) : Prop := mP G kd ad σ H ∧ va_S (mA ad) s.heap H locs
def mO (kd : Nat → Nat × Nat) (ci i : Nat) (σ : mS) : Prop := kd i = (0, ci) ∧ i < mN σ
/-- an array of a kind and a length -/
def mB (kd : Nat → Nat × Nat) (t n i : Nat) (σ : mS) : Prop := kd i = (t, n) ∧ i < mN σ
def mX (p : Program) (s : State) (m : MethodId) (c : Code) (cc : ByteArray) (nL : Nat) (args : Array Value) (own : String) (G : mG) : Prop :=
  CallFix p m c cc nL s args wsL_law own ∧ va_K G.1 vwCl (mTys G) s
/-- the locals that are held, each of one slot -/
def ml_has (ls : Array Slot) (nL : Nat) (l : List (Nat × Value)) : Prop := lv_has ls nL l ∧ ∀ q ∈ l, q.2.category = 1
theorem mV_cat (ad : Nat → Nat) (r : Option Nat) : (mV ad r).category = 1 := by cases r <;> rfl
theorem mV_some (ad : Nat → Nat) (i : Nat) : mV ad (some i) = .ref (ad i) := rfl
theorem mV_none (ad : Nat → Nat) : mV ad none = .null := rfl
theorem ml_at {ls : Array Slot} {nL : Nat} {l : List (Nat × Value)} (h : ml_has ls nL l) (k : Nat) {i : Nat} {v : Value} (hk : l[k]? = some (i, v)) : ls[i]? = some (.val v) := lv_at h.1 k hk
theorem ml_sub {ls : Array Slot} {nL : Nat} {l l' : List (Nat × Value)} (h : ml_has ls nL l) (ks : List Nat) (hl : lv_pick l ks = l') : ml_has ls nL l' := by
  refine ⟨lv_sub h.1 ks hl, fun q hq => ?_⟩
  rw [← hl] at hq
  obtain ⟨k, -, hk⟩ := List.mem_filterMap.mp hq
  exact h.2 q (List.mem_of_getElem? hk)
theorem mE_0 {G : mG} {kd : Nat → Nat × Nat} {ad : Nat → Nat} {σ : mS} {i ci : Nat} (h : kd i = (0, ci)) : mE G kd ad σ i = .inr (ci, mL ad σ i ci) := by unfold mE; rw [h]; rfl
theorem mE_1 {G : mG} {kd : Nat → Nat × Nat} {ad : Nat → Nat} {σ : mS} {i n : Nat} (h : kd i = (1, n)) : mE G kd ad σ i = .inl (G.2.1, n, .inl (mI σ i)) := by unfold mE; rw [h]; rfl
theorem mE_2 {G : mG} {kd : Nat → Nat × Nat} {ad : Nat → Nat} {σ : mS} {i n : Nat} (h : kd i = (2, n)) : mE G kd ad σ i = .inl (G.2.2.1, n, .inl (mI σ i)) := by unfold mE; rw [h]; rfl
theorem mE_3 {G : mG} {kd : Nat → Nat × Nat} {ad : Nat → Nat} {σ : mS} {i n : Nat} (h : kd i = (3, n)) : mE G kd ad σ i = .inl (G.2.2.2.1, n, .inr (.inr (.inr (.inr (fun j => (mR σ i j).map ad))))) := by unfold mE; rw [h]; rfl
theorem mE_4 {G : mG} {kd : Nat → Nat × Nat} {ad : Nat → Nat} {σ : mS} {i n : Nat} (h : kd i = (4, n)) : mE G kd ad σ i = .inl (G.2.2.2.2, n, .inr (.inr (.inr (.inr (fun j => (mR σ i j).map ad))))) := by unfold mE; rw [h]; rfl
theorem mF_congr {ad : Nat → Nat} {σ σ' : mS} {i k : Nat} (q : Nat × Nat) (h1 : mI σ' i k = mI σ i k) (h2 : mR σ' i k = mR σ i k) : mF ad σ' i q k = mF ad σ i q k := by
  unfold mF
  split
  · rw [h1]
  · rw [h2]
  · rfl
theorem mE_congr {G : mG} {kd : Nat → Nat × Nat} {ad : Nat → Nat} {σ σ' : mS} {i : Nat} (h1 : ∀ k, mI σ' i k = mI σ i k) (h2 : ∀ k, mR σ' i k = mR σ i k) : mE G kd ad σ' i = mE G kd ad σ i := by
  have e1 : mI σ' i = mI σ i := funext h1
  have e2 : mL ad σ' i (kd i).2 = mL ad σ i (kd i).2 := List.map_congr_left (fun k _ => mF_congr _ (h1 k) (h2 k))
  unfold mE
  rw [e1, e2]
  simp only [h2]
theorem mL_get {ad : Nat → Nat} {σ : mS} {i ci k : Nat} (hk : k < mNf ci) : (mL ad σ i ci)[k]? = some (mF ad σ i (mFk ci k) k) := by
  simp [mL, hk]
theorem mL_len {ad : Nat → Nat} {σ : mS} {i ci : Nat} : (mL ad σ i ci).length = mNf ci := by simp [mL]
theorem mL_V {ad : Nat → Nat} {σ : mS} {i ci k : Nat} (hk : k < mNf ci) : vp_V (mL ad σ i ci) k = mF ad σ i (mFk ci k) k := by
  unfold vp_V
  rw [List.getD_eq_getElem?_getD, mL_get hk]
  rfl
/-- one cell is written: the store's own cell, the others as they were -/
theorem mM_set {G : mG} {kd : Nat → Nat × Nat} {ad : Nat → Nat} {s : State} {σ σ' : mS} {H H1 : Heap} {locs : List Loc} {i k : Nat} (hM : mM G kd ad s σ H locs) (hn : mN σ' = mN σ)
    (h1 : ∀ a b, a ≠ i → mI σ' a b = mI σ a b) (h2 : ∀ a b, a ≠ i → mR σ' a b = mR σ a b) (he : va_at G.1 vwCl (ad i, mE G kd ad σ' i) H1) (z : H1.size = H.size) (oq : ∀ q : Nat, q ≠ ad i → H1[q]? = H[q]?) :
    mM G kd ad s σ' H1 (locs ++ [⟨ad i, k⟩]) := by
  obtain ⟨⟨h3, h4, h5⟩, hS⟩ := hM
  refine ⟨⟨fun j hj => ?_, h4, fun j => by rw [hn, z]; exact h5 j⟩, hS.put z oq ⟨i, rfl⟩⟩
  by_cases hji : j = i
  · subst hji; exact he
  · rw [mE_congr (fun k => h1 j k hji) (fun k => h2 j k hji)]
    exact (h3 j (by rw [← hn]; exact hj)).kept (oq _ (fun q => hji (h4 _ _ q)))
section MR
variable {p : Program} {l : Launch} {e : Env} {R : Room} {s : State} {m : MethodId} {args : Array Value} {below : List Frame} {meth : Method} {c : Code} {H : Heap} {locs : List Loc} {cells slots : Nat} {Q : State → Prop}
variable {cc : ByteArray} {pc nL : Nat} {ls : Array Slot} {rest : List Value} {own : String} {G : mG} {kd : Nat → Nat × Nat} {ad : Nat → Nat} {σ : mS}
theorem mr_get (C : mX p s m c cc nL args own G) (hM : mM G kd ad s σ H locs) {ci i : Nat} (ho : mO kd ci i σ) {C0 : String} {T : u_T} {N : Nat} (hc : vwCl[ci]? = some (C0, T, N)) (hin : ∀ w ∈ u_ws C0 T N, w ∈ wsL_law) (k : Nat) (hk : k < N) (hkn : k < mNf ci) {index : Nat} {ref : String} (hlink : Cond.fieldLink own index ref (T k).2.1 (T k).2.2.1 ∈ wsL_law) (href : (T k).1 = ref) {v : Value} (hv : mF ad σ i (mFk ci k) k = v) (hdg : decode cc pc = .ok (.getfield index, 3))
    (kk : W p l e R s m args below meth c H locs cells slots Q (F0 m (pc + 3) ls (v :: rest))) : W p l e R s m args below meth c H locs cells slots Q (F0 m pc ls (mV ad (some i) :: rest)) := by
  obtain ⟨⟨hx, hb, hml, hown, hts⟩, hK⟩ := C
  have h0 : va_at G.1 vwCl (ad i, .inr (ci, mL ad σ i ci)) H := by rw [← mE_0 (G := G) ho.1]; exact hM.1.1 i ho.2
  have hP : va_P G.1 vwCl [(ad i, .inr (ci, mL ad σ i ci))] H := fun j q hq => by
    cases j with
    | zero => cases hq; exact h0
    | succ j => simp at hq
  subst href
  exact va_get (D := G.1) (cl := vwCl) (ci := ci) (C := C0) (T := T) (N := N) (Ts := wsL_law) hx hb hts hin hown hK hP 0 rfl hc k hk (hts _ hlink) (fun _ h9 => h9) (by rw [mL_get hkn, hv]) hdg kk
theorem mr_put (C : mX p s m c cc nL args own G) (hM : mM G kd ad s σ H locs) {ci i : Nat} (ho : mO kd ci i σ) {C0 : String} {T : u_T} {N : Nat} (hc : vwCl[ci]? = some (C0, T, N)) (hin : ∀ w ∈ u_ws C0 T N, w ∈ wsL_law) (ty0 : Nat → FieldType) (hty : ∀ k, k < N → parseFieldDescriptor (T k).2.2.1 = some (ty0 k)) (hnm : ∀ a, a < N → ∀ b, b < N → a ≠ b → (T a).2.1 ≠ (T b).2.1) (hNf : N = mNf ci)
    (k : Nat) (hk : k < N) {index : Nat} {ref : String} (hlink : Cond.fieldLink own index ref (T k).2.1 (T k).2.2.1 ∈ wsL_law) (href : (T k).1 = ref) (hfin : (T k).2.2.2 = false) {v : Value} (hn : narrow (ty0 k) v = v) (hfit : fits (ty0 k) v = true) (σ' : mS) (hn' : mN σ' = mN σ)
    (h1 : ∀ a b, ¬ (a = i ∧ b = k) → mI σ' a b = mI σ a b) (h2 : ∀ a b, ¬ (a = i ∧ b = k) → mR σ' a b = mR σ a b) (hv : mF ad σ' i (mFk ci k) k = v) (hdg : decode cc pc = .ok (.putfield index, 3))
    (kk : ∀ (H1 : Heap) (locs1 : List Loc), mM G kd ad s σ' H1 locs1 → W p l e R s m args below meth c H1 locs1 cells slots Q (F0 m (pc + 3) ls rest)) : W p l e R s m args below meth c H locs cells slots Q (F0 m pc ls (v :: mV ad (some i) :: rest)) := by
  obtain ⟨⟨hx, hb, hml, hown, hts⟩, hK⟩ := C
  have h0 : va_at G.1 vwCl (ad i, .inr (ci, mL ad σ i ci)) H := by rw [← mE_0 (G := G) ho.1]; exact hM.1.1 i ho.2
  have hap := va_apart (own := own) hts hin ty0 hty hnm hK hc
  obtain ⟨r, hr1, cell, q1, q2, q3, q4⟩ := h0
  have hr : r = (C0, T, N) := Option.some.inj (hr1.symm.trans hc)
  subst hr
  obtain ⟨hS, hfc, kC, hkC, hkind⟩ := hK.1 ci _ hc
  obtain ⟨cf, kf, fi, f, hi, hsl⟩ := hS k hk
  have hlay := hts _ (hin _ (u_in_lay hk))
  unfold u_lay at hlay
  rw [if_neg (by rw [hfin]; decide)] at hlay
  have hst := (u_facts hfc hkC (u_lays hts hin hk) hi).1
  have h6 := u_store hfc hkC hkind hlay hi (hty k hk) hn hfit
  subst href
  refine W.putK hx hb (f := f) ⟨hown, hts _ hlink, ⟨_, _, _, hi⟩, hst⟩ (by rw [q2]; exact h6) q1 q3 (by rw [hsl]; exact k2_hasslot (q4 k hk)) rfl rfl hdg fun H' e1 e2 e3 => ?_
  rw [hsl] at e1 ⊢
  refine kk H' _ (mM_set hM hn' (fun a b hab => h1 a b (fun q => hab q.1)) (fun a b hab => h2 a b (fun q => hab q.1)) ?_ e2 e3)
  rw [mE_0 ho.1]
  refine ⟨_, hc, t_OB.to (V := updV (vp_V (mL ad σ i ci)) k v) ⟨_, e1, q2, q3, t_set q4 hap hk v⟩ (fun j hj => ?_)⟩
  have hj' : j < mNf ci := by rw [← hNf]; exact hj
  by_cases hjk : j = k
  · subst hjk
    rw [mL_V hj', hv]
    simp [updV]
  · rw [mL_V hj', mF_congr _ (h1 i j (fun q => hjk q.2)) (h2 i j (fun q => hjk q.2))]
    simp [updV, hjk, mL_V hj']
theorem mr_iald (C : mX p s m c cc nL args own G) (hM : mM G kd ad s σ H locs) {i n j : Nat} (ho : mB kd 1 n i σ) {x : Int32} (hx1 : x = nI j) (hj : j < n) (hn : n < 2 ^ 31) (hdg : decode cc pc = .ok (.iaload, 1))
    (kk : W p l e R s m args below meth c H locs cells slots Q (F0 m (pc + 1) ls (.int (mI σ i j) :: rest))) : W p l e R s m args below meth c H locs cells slots Q (F0 m pc ls (.int x :: mV ad (some i) :: rest)) := by
  subst hx1
  have h0 : va_at G.1 vwCl (ad i, .inl (G.2.1, n, .inl (mI σ i))) H := by rw [← mE_1 ho.1]; exact hM.1.1 i ho.2
  have hP : va_P G.1 vwCl [(ad i, .inl (G.2.1, n, .inl (mI σ i)))] H := fun j q hq => by
    cases j with
    | zero => cases hq; exact h0
    | succ j => simp at hq
  refine va_iald C.1.1 C.1.2.1 C.2 hP 0 0 rfl rfl (vp_in_nI hj hn) hdg ?_
  rw [nI_clamp (by omega)]
  exact kk
theorem mr_zald (C : mX p s m c cc nL args own G) (hM : mM G kd ad s σ H locs) {i n j : Nat} (ho : mB kd 2 n i σ) {x : Int32} (hx1 : x = nI j) (hj : j < n) (hn : n < 2 ^ 31) (hdg : decode cc pc = .ok (.baload, 1))
    (kk : W p l e R s m args below meth c H locs cells slots Q (F0 m (pc + 1) ls (.int (mI σ i j) :: rest))) : W p l e R s m args below meth c H locs cells slots Q (F0 m pc ls (.int x :: mV ad (some i) :: rest)) := by
  subst hx1
  have h0 : va_at G.1 vwCl (ad i, .inl (G.2.2.1, n, .inl (mI σ i))) H := by rw [← mE_2 ho.1]; exact hM.1.1 i ho.2
  have hP : va_P G.1 vwCl [(ad i, .inl (G.2.2.1, n, .inl (mI σ i)))] H := fun j q hq => by
    cases j with
    | zero => cases hq; exact h0
    | succ j => simp at hq
  refine va_zald C.1.1 C.1.2.1 C.2 hP 0 1 rfl rfl (vp_in_nI hj hn) hdg ?_
  rw [nI_clamp (by omega)]
  exact kk
theorem mr_sld (C : mX p s m c cc nL args own G) (hM : mM G kd ad s σ H locs) {i n j : Nat} (ho : mB kd 4 n i σ) {x : Int32} (hx1 : x = nI j) (hj : j < n) (hn : n < 2 ^ 31) (hdg : decode cc pc = .ok (.aaload, 1))
    (kk : ∀ r, r = mR σ i j → W p l e R s m args below meth c H locs cells slots Q (F0 m (pc + 1) ls (mV ad r :: rest))) : W p l e R s m args below meth c H locs cells slots Q (F0 m pc ls (.int x :: mV ad (some i) :: rest)) := by
  subst hx1
  have h0 : va_at G.1 vwCl (ad i, .inl (G.2.2.2.2, n, .inr (.inr (.inr (.inr (fun j => (mR σ i j).map ad)))))) H := by rw [← mE_4 ho.1]; exact hM.1.1 i ho.2
  have hP : va_P G.1 vwCl [(ad i, .inl (G.2.2.2.2, n, .inr (.inr (.inr (.inr (fun j => (mR σ i j).map ad))))))] H := fun j q hq => by
    cases j with
    | zero => cases hq; exact h0
    | succ j => simp at hq
  refine va_aldq C.1.1 C.1.2.1 C.2 hP 0 3 rfl rfl (vp_in_nI hj hn) hdg ?_
  rw [nI_clamp (by omega)]
  exact kk _ rfl
theorem mr_cld (C : mX p s m c cc nL args own G) (hM : mM G kd ad s σ H locs) {i n j : Nat} (ho : mB kd 3 n i σ) {x : Int32} (hx1 : x = nI j) (hj : j < n) (hn : n < 2 ^ 31) (hdg : decode cc pc = .ok (.aaload, 1))
    (kk : ∀ r, r = mR σ i j → W p l e R s m args below meth c H locs cells slots Q (F0 m (pc + 1) ls (mV ad r :: rest))) : W p l e R s m args below meth c H locs cells slots Q (F0 m pc ls (.int x :: mV ad (some i) :: rest)) := by
  subst hx1
  have h0 : va_at G.1 vwCl (ad i, .inl (G.2.2.2.1, n, .inr (.inr (.inr (.inr (fun j => (mR σ i j).map ad)))))) H := by rw [← mE_3 ho.1]; exact hM.1.1 i ho.2
  have hP : va_P G.1 vwCl [(ad i, .inl (G.2.2.2.1, n, .inr (.inr (.inr (.inr (fun j => (mR σ i j).map ad))))))] H := fun j q hq => by
    cases j with
    | zero => cases hq; exact h0
    | succ j => simp at hq
  refine va_aldq C.1.1 C.1.2.1 C.2 hP 0 2 rfl rfl (vp_in_nI hj hn) hdg ?_
  rw [nI_clamp (by omega)]
  exact kk _ rfl
theorem mr_alen (C : mX p s m c cc nL args own G) (hM : mM G kd ad s σ H locs) {i n t : Nat} (ho : mB kd t n i σ) (ht : 0 < t) (ht4 : t ≤ 4) {v : Int32} (hv : Int32.ofNat n = v) (hdg : decode cc pc = .ok (.arraylength, 1))
    (kk : W p l e R s m args below meth c H locs cells slots Q (F0 m (pc + 1) ls (.int v :: rest))) : W p l e R s m args below meth c H locs cells slots Q (F0 m pc ls (mV ad (some i) :: rest)) := by
  have one : ∀ e : va_E, va_at G.1 vwCl (ad i, e) H → va_P G.1 vwCl [(ad i, e)] H := fun e h0 j q hq => by
    cases j with
    | zero => cases hq; exact h0
    | succ j => simp at hq
  have h0 := hM.1.1 i ho.2
  match t, ht, ht4 with
  | 1, _, _ => rw [mE_1 ho.1] at h0; exact va_alen C.1.1 C.1.2.1 C.2 (one _ h0) 0 0 rfl rfl hv hdg kk
  | 2, _, _ => rw [mE_2 ho.1] at h0; exact va_alen C.1.1 C.1.2.1 C.2 (one _ h0) 0 1 rfl rfl hv hdg kk
  | 3, _, _ => rw [mE_3 ho.1] at h0; exact va_alen C.1.1 C.1.2.1 C.2 (one _ h0) 0 2 rfl rfl hv hdg kk
  | 4, _, _ => rw [mE_4 ho.1] at h0; exact va_alen C.1.1 C.1.2.1 C.2 (one _ h0) 0 3 rfl rfl hv hdg kk
theorem mI_off {σ : mS} {i k : Nat} {v : Int32} (a b : Nat) (h : ¬ (a = i ∧ b = k)) : mI (sI σ i k v) a b = mI σ a b := by rw [mI_sI, if_neg h]
theorem mR_off {σ : mS} {i k : Nat} {v : Option Nat} (a b : Nat) (h : ¬ (a = i ∧ b = k)) : mR (sR σ i k v) a b = mR σ a b := by rw [mR_sR, if_neg h]
theorem mr_iast (C : mX p s m c cc nL args own G) (hM : mM G kd ad s σ H locs) {i n j : Nat} (ho : mB kd 1 n i σ) {x v : Int32} (hx1 : x = nI j) (hj : j < n) (hn : n < 2 ^ 31) (hdg : decode cc pc = .ok (.iastore, 1))
    (kk : ∀ (H1 : Heap) (locs1 : List Loc), mM G kd ad s (sI σ i j v) H1 locs1 → W p l e R s m args below meth c H1 locs1 cells slots Q (F0 m (pc + 1) ls rest)) : W p l e R s m args below meth c H locs cells slots Q (F0 m pc ls (.int v :: .int x :: mV ad (some i) :: rest)) := by
  subst hx1
  have h0 : va_at G.1 vwCl (ad i, .inl (G.2.1, n, .inl (mI σ i))) H := by rw [← mE_1 ho.1]; exact hM.1.1 i ho.2
  have hc : (nI j).toNatClampNeg = j := nI_clamp (by omega)
  refine W.iast C.1.1 C.1.2.1 h0 ((C.2.2 0 _ rfl).1 n (fun j => .int (mI σ i j))) (fun q => by cases q) (by show ¬ (nI j < 0 ∨ (arrV _ _ _).slots.size ≤ _); rw [arrV_size]; exact vp_in_nI hj hn) rfl rfl hdg fun H1 e z oq => ?_
  rw [hc] at e ⊢
  refine kk H1 _ (mM_set hM rfl (fun a b hab => mI_off a b (fun q => hab q.1)) (fun a b hab => rfl) ?_ z oq)
  rw [mE_1 ho.1]
  show H1[ad i]? = some (vp_cell _ _)
  rw [e, vp_cell_i, vp_cell_i, arrV_store]
  congr 2
  funext q
  by_cases hq : q = j
  · subst hq
    simp [updV, mI_sI]
  · simp [updV, mI_sI, hq]
theorem mr_zast (C : mX p s m c cc nL args own G) (hM : mM G kd ad s σ H locs) {i n j : Nat} (ho : mB kd 2 n i σ) {x v : Int32} (hx1 : x = nI j) (hj : j < n) (hn : n < 2 ^ 31) (hdg : decode cc pc = .ok (.bastore, 1))
    (kk : ∀ (H1 : Heap) (locs1 : List Loc), mM G kd ad s (sI σ i j (vp_nar .boolean v)) H1 locs1 → W p l e R s m args below meth c H1 locs1 cells slots Q (F0 m (pc + 1) ls rest)) : W p l e R s m args below meth c H locs cells slots Q (F0 m pc ls (.int v :: .int x :: mV ad (some i) :: rest)) := by
  subst hx1
  have h0 : va_at G.1 vwCl (ad i, .inl (G.2.2.1, n, .inl (mI σ i))) H := by rw [← mE_2 ho.1]; exact hM.1.1 i ho.2
  have hc : (nI j).toNatClampNeg = j := nI_clamp (by omega)
  refine W.zast C.1.1 C.1.2.1 h0 ((C.2.2 1 _ rfl).1 n (fun j => .int (mI σ i j))) (fun q => by cases q) (by show ¬ (nI j < 0 ∨ (arrV _ _ _).slots.size ≤ _); rw [arrV_size]; exact vp_in_nI hj hn) rfl rfl hdg fun H1 e z oq => ?_
  rw [hc] at e ⊢
  refine kk H1 _ (mM_set hM rfl (fun a b hab => mI_off a b (fun q => hab q.1)) (fun a b hab => rfl) ?_ z oq)
  rw [mE_2 ho.1]
  show H1[ad i]? = some (vp_cell _ _)
  rw [e, vp_cell_i, vp_cell_i, arrV_store]
  congr 2
  funext q
  by_cases hq : q = j
  · subst hq
    simp [updV, mI_sI, vp_nar]
    try rfl
  · simp [updV, mI_sI, hq]
end MR
end
section
section MS
variable {p : Program} {l : Launch} {e : Env} {R : Room} {s : State} {m : MethodId} {args : Array Value} {below : List Frame} {meth : Method} {c : Code} {H : Heap} {locs : List Loc} {cells slots : Nat} {Q : State → Prop}
variable {cc : ByteArray} {pc nL : Nat} {ls : Array Slot} {rest : List Value} {own : String} {G : mG} {kd : Nat → Nat × Nat} {ad : Nat → Nat} {σ : mS}
theorem mr_ast (C : mX p s m c cc nL args own G) (hM : mM G kd ad s σ H locs) {i n j o t ci t0 : Nat} (ho : mB kd t n i σ) (hv : mO kd ci o σ) {cA : ClassId} {r : vw_C} (hE : ∀ σ : mS, mE G kd ad σ i = .inl (cA, n, .inr (.inr (.inr (.inr (fun j => (mR σ i j).map ad)))))) (ht : (mTys G)[t0]? = some (cA, .object r.1)) (hc : vwCl[ci]? = some r) {x : Int32} (hx1 : x = nI j) (hj : j < n) (hn : n < 2 ^ 31) (hdg : decode cc pc = .ok (.aastore, 1))
    (kk : ∀ (H1 : Heap) (locs1 : List Loc), mM G kd ad s (sR σ i j (some o)) H1 locs1 → W p l e R s m args below meth c H1 locs1 cells slots Q (F0 m (pc + 1) ls rest)) : W p l e R s m args below meth c H locs cells slots Q (F0 m pc ls (mV ad (some o) :: .int x :: mV ad (some i) :: rest)) := by
  subst hx1
  have h0 : va_at G.1 vwCl (ad i, .inl (cA, n, .inr (.inr (.inr (.inr (fun j => (mR σ i j).map ad)))))) H := by rw [← hE σ]; exact hM.1.1 i ho.2
  have hvv : va_at G.1 vwCl (ad o, .inr (ci, mL ad σ o ci)) H := by rw [← mE_0 (G := G) hv.1]; exact hM.1.1 o hv.2
  have hcl : (nI j).toNatClampNeg = j := nI_clamp (by omega)
  have hin : vp_in (nI j) n := vp_in_nI hj hn
  have hlt : (nI j).toNatClampNeg < n := by rw [hcl]; exact hj
  have h0' : ¬ nI j < 0 := fun q => hin (Or.inl q)
  obtain ⟨r', hr', cellV, g1, g2, g3, -⟩ := hvv
  have hcls := (C.2.1 ci r hc).2
  obtain ⟨kA, comp, k1, k2, k3, -⟩ := (C.2.2 t0 _ ht).2
  have hcomp : comp = G.1.1 ci := Option.some.inj (k3.symm.trans hcls.1)
  subst hcomp
  obtain ⟨kC, hkC, -⟩ := hcls.2
  refine W.aast C.1.1 C.1.2.1 h0 (fun q h => by cases h) (fun h => by cases h) k1 k2 rfl hkC ⟨h0', by show _ < (arrV _ _ _).slots.size; rw [arrV_size]; exact hlt⟩ g1 (fun q h => by rw [g3] at h; cases h) (by rw [g2]; exact hkC) (by rw [g2]; exact va_assign hcls) rfl rfl hdg fun H1 e z oq => ?_
  rw [hcl] at e ⊢
  refine kk H1 _ (mM_set hM rfl (fun a b hab => rfl) (fun a b hab => mR_off a b (fun q => hab q.1)) ?_ z oq)
  rw [hE]
  show H1[ad i]? = some (vp_cell _ _)
  rw [e, vp_cell_q, vp_cell_q, arrV_store]
  congr 2
  funext q
  by_cases hq : q = j
  · subst hq
    simp [updV, mR_sR, va_rf]
  · simp [updV, mR_sR, hq]
theorem mr_cst (C : mX p s m c cc nL args own G) (hM : mM G kd ad s σ H locs) {i n j o : Nat} (ho : mB kd 3 n i σ) (hv : mO kd 0 o σ) {x : Int32} (hx1 : x = nI j) (hj : j < n) (hn : n < 2 ^ 31) (hdg : decode cc pc = .ok (.aastore, 1))
    (kk : ∀ (H1 : Heap) (locs1 : List Loc), mM G kd ad s (sR σ i j (some o)) H1 locs1 → W p l e R s m args below meth c H1 locs1 cells slots Q (F0 m (pc + 1) ls rest)) : W p l e R s m args below meth c H locs cells slots Q (F0 m pc ls (mV ad (some o) :: .int x :: mV ad (some i) :: rest)) :=
  mr_ast (t0 := 2) (r := (RX0, TX0, 18)) C hM ho hv (fun σ => mE_3 ho.1) rfl rfl hx1 hj hn hdg kk
theorem mr_sst (C : mX p s m c cc nL args own G) (hM : mM G kd ad s σ H locs) {i n j o : Nat} (ho : mB kd 4 n i σ) (hv : mO kd 1 o σ) {x : Int32} (hx1 : x = nI j) (hj : j < n) (hn : n < 2 ^ 31) (hdg : decode cc pc = .ok (.aastore, 1))
    (kk : ∀ (H1 : Heap) (locs1 : List Loc), mM G kd ad s (sR σ i j (some o)) H1 locs1 → W p l e R s m args below meth c H1 locs1 cells slots Q (F0 m (pc + 1) ls rest)) : W p l e R s m args below meth c H locs cells slots Q (F0 m pc ls (mV ad (some o) :: .int x :: mV ad (some i) :: rest)) :=
  mr_ast (t0 := 3) (r := (RX1, TX1, 13)) C hM ho hv (fun σ => mE_4 ho.1) rfl rfl hx1 hj hn hdg kk
theorem ml_filter {lv : List (Nat × Value)} (h : ∀ q ∈ lv, q.2.category = 1) (i : Nat) : lv.filter (fun q => !(q.1 == i) && !(q.1 + 1 == i && q.2.category == 2)) = lv.filter (fun q => !(q.1 == i)) := by
  refine List.filter_congr (fun q hq => ?_)
  rw [h q hq]
  simp
theorem ml_new {lv : List (Nat × Value)} (h : ∀ q ∈ lv, q.2.category = 1) {i : Nat} {v : Value} (hv : v.category = 1) : ∀ q ∈ (i, v) :: lv.filter (fun q => !(q.1 == i)), q.2.category = 1 := by
  intro q hq
  rcases List.mem_cons.mp hq with rfl | hq
  · exact hv
  · exact h q (List.mem_filter.mp hq).1
theorem mr_istore_n (C : mX p s m c cc nL args own G) {k : Fin 4} {i : Nat} {x : Int32} {lv lv' : List (Nat × Value)} (h : ml_has ls nL lv) (hdg : decode cc pc = .ok (.istore_n k, 1)) (hi : (k : Nat) = i) (hn : i < nL) (hl : (i, Value.int x) :: lv.filter (fun q => !(q.1 == i)) = lv')
    (kk : ∀ ls' : Array Slot, ml_has ls' nL lv' → W p l e R s m args below meth c H locs cells slots Q (F0 m (pc + 1) ls' rest)) : W p l e R s m args below meth c H locs cells slots Q (F0 m pc ls (.int x :: rest)) := by
  subst hl
  refine lv_istore_n C.1.1 C.1.2.1 hdg hi h.1 hn (by rw [ml_filter h.2]) (fun ls' h' => kk ls' ⟨h', ml_new h.2 rfl⟩)
theorem mr_istore (C : mX p s m c cc nL args own G) {i : Nat} {x : Int32} {lv lv' : List (Nat × Value)} (h : ml_has ls nL lv) (hdg : decode cc pc = .ok (.istore i, 2)) (hn : i < nL) (hl : (i, Value.int x) :: lv.filter (fun q => !(q.1 == i)) = lv')
    (kk : ∀ ls' : Array Slot, ml_has ls' nL lv' → W p l e R s m args below meth c H locs cells slots Q (F0 m (pc + 2) ls' rest)) : W p l e R s m args below meth c H locs cells slots Q (F0 m pc ls (.int x :: rest)) := by
  subst hl
  refine lv_istore C.1.1 C.1.2.1 hdg h.1 hn (by rw [ml_filter h.2]) (fun ls' h' => kk ls' ⟨h', ml_new h.2 rfl⟩)
theorem mr_astore_n (C : mX p s m c cc nL args own G) {k : Fin 4} {i : Nat} {r : Option Nat} {lv lv' : List (Nat × Value)} (h : ml_has ls nL lv) (hdg : decode cc pc = .ok (.astore_n k, 1)) (hi : (k : Nat) = i) (hn : i < nL) (hl : (i, mV ad r) :: lv.filter (fun q => !(q.1 == i)) = lv')
    (kk : ∀ ls' : Array Slot, ml_has ls' nL lv' → W p l e R s m args below meth c H locs cells slots Q (F0 m (pc + 1) ls' rest)) : W p l e R s m args below meth c H locs cells slots Q (F0 m pc ls (mV ad r :: rest)) := by
  subst hl
  cases r with
  | none => exact lv_astore_nN C.1.1 C.1.2.1 hdg hi h.1 hn (by rw [ml_filter h.2]; rfl) (fun ls' h' => kk ls' ⟨h', ml_new h.2 rfl⟩)
  | some a => exact lv_astore_n C.1.1 C.1.2.1 hdg hi h.1 hn (by rw [ml_filter h.2]; rfl) (fun ls' h' => kk ls' ⟨h', ml_new h.2 rfl⟩)
theorem mr_astore (C : mX p s m c cc nL args own G) {i : Nat} {r : Option Nat} {lv lv' : List (Nat × Value)} (h : ml_has ls nL lv) (hdg : decode cc pc = .ok (.astore i, 2)) (hn : i < nL) (hl : (i, mV ad r) :: lv.filter (fun q => !(q.1 == i)) = lv')
    (kk : ∀ ls' : Array Slot, ml_has ls' nL lv' → W p l e R s m args below meth c H locs cells slots Q (F0 m (pc + 2) ls' rest)) : W p l e R s m args below meth c H locs cells slots Q (F0 m pc ls (mV ad r :: rest)) := by
  subst hl
  cases r with
  | none => exact lv_astoreN C.1.1 C.1.2.1 hdg h.1 hn (by rw [ml_filter h.2]; rfl) (fun ls' h' => kk ls' ⟨h', ml_new h.2 rfl⟩)
  | some a => exact lv_astore C.1.1 C.1.2.1 hdg h.1 hn (by rw [ml_filter h.2]; rfl) (fun ls' h' => kk ls' ⟨h', ml_new h.2 rfl⟩)
theorem mr_iinc (C : mX p s m c cc nL args own G) {i k : Nat} {n : Int} {x v : Int32} {lv lv' : List (Nat × Value)} (h : ml_has ls nL lv) (hdg : decode cc pc = .ok (.iinc i n, 3)) (hk : lv[k]? = some (i, .int x)) (hv : x + Int32.ofInt n = v) (hn : i < nL) (hl : (i, Value.int v) :: lv.filter (fun q => !(q.1 == i)) = lv')
    (kk : ∀ ls' : Array Slot, ml_has ls' nL lv' → W p l e R s m args below meth c H locs cells slots Q (F0 m (pc + 3) ls' rest)) : W p l e R s m args below meth c H locs cells slots Q (F0 m pc ls rest) := by
  subst hl
  exact lv_iinc C.1.1 C.1.2.1 hdg h.1 hk hv hn (by rw [ml_filter h.2]) (fun ls' h' => kk ls' ⟨h', ml_new h.2 rfl⟩)
theorem mr_aload_n (C : mX p s m c cc nL args own G) {k : Fin 4} {i : Nat} {r : Option Nat} (hdg : decode cc pc = .ok (.aload_n k, 1)) (hi : (k : Nat) = i) (hl : ls[i]? = some (.val (mV ad r)))
    (kk : W p l e R s m args below meth c H locs cells slots Q (F0 m (pc + 1) ls (mV ad r :: rest))) : W p l e R s m args below meth c H locs cells slots Q (F0 m pc ls rest) := by
  cases r with
  | none => exact lv_aload_nN C.1.1 C.1.2.1 hdg hi hl kk
  | some a => exact lv_aload_n C.1.1 C.1.2.1 hdg hi hl kk
theorem mr_aload (C : mX p s m c cc nL args own G) {i : Nat} {r : Option Nat} (hdg : decode cc pc = .ok (.aload i, 2)) (hl : ls[i]? = some (.val (mV ad r)))
    (kk : W p l e R s m args below meth c H locs cells slots Q (F0 m (pc + 2) ls (mV ad r :: rest))) : W p l e R s m args below meth c H locs cells slots Q (F0 m pc ls rest) := by
  cases r with
  | none => exact lv_aloadN C.1.1 C.1.2.1 hdg hl kk
  | some a => exact lv_aload C.1.1 C.1.2.1 hdg hl kk
theorem mr_null (C : mX p s m c cc nL args own G) (ad : Nat → Nat) (hdg : decode cc pc = .ok (.aconst_null, 1)) (kk : W p l e R s m args below meth c H locs cells slots Q (F0 m (pc + 1) ls (mV ad none :: rest))) : W p l e R s m args below meth c H locs cells slots Q (F0 m pc ls rest) := lv_null C.1.1 C.1.2.1 hdg kk
theorem mr_ifnull (C : mX p s m c cc nL args own G) {r : Option Nat} {off : Int} {tgt : Nat} (hdg : decode cc pc = .ok (.ifnull off, 3)) (ht : (pc : Int) + off = (tgt : Int)) (kt : r = none → W p l e R s m args below meth c H locs cells slots Q (F0 m tgt ls rest)) (kf : ∀ i, r = some i → W p l e R s m args below meth c H locs cells slots Q (F0 m (pc + 3) ls rest)) : W p l e R s m args below meth c H locs cells slots Q (F0 m pc ls (mV ad r :: rest)) := by
  cases r with
  | none => exact lv_ifnullN C.1.1 C.1.2.1 hdg ht (kt rfl)
  | some a => exact lv_ifnull C.1.1 C.1.2.1 hdg (kf a rfl)
theorem mr_ifnonnull (C : mX p s m c cc nL args own G) {r : Option Nat} {off : Int} {tgt : Nat} (hdg : decode cc pc = .ok (.ifnonnull off, 3)) (ht : (pc : Int) + off = (tgt : Int)) (kt : ∀ i, r = some i → W p l e R s m args below meth c H locs cells slots Q (F0 m tgt ls rest)) (kf : r = none → W p l e R s m args below meth c H locs cells slots Q (F0 m (pc + 3) ls rest)) : W p l e R s m args below meth c H locs cells slots Q (F0 m pc ls (mV ad r :: rest)) := by
  cases r with
  | none => exact lv_ifnonnullN C.1.1 C.1.2.1 hdg (kf rfl)
  | some a => exact lv_ifnonnull C.1.1 C.1.2.1 hdg ht (kt a rfl)
theorem m_map_inj {ad : Nat → Nat} (h : ∀ i j, ad i = ad j → i = j) {r q : Option Nat} : r.map ad = q.map ad ↔ r = q := by
  cases r <;> cases q <;> simp
  exact ⟨fun z => h _ _ z, fun z => by rw [z]⟩
theorem mr_acmp_ne (C : mX p s m c cc nL args own G) (hM : mM G kd ad s σ H locs) {rx ry : Option Nat} {off : Int} {tgt : Nat} (hdg : decode cc pc = .ok (.if_acmp .ne off, 3)) (ht : (pc : Int) + off = (tgt : Int)) (kt : ¬ rx = ry → W p l e R s m args below meth c H locs cells slots Q (F0 m tgt ls rest)) (kf : rx = ry → W p l e R s m args below meth c H locs cells slots Q (F0 m (pc + 3) ls rest)) : W p l e R s m args below meth c H locs cells slots Q (F0 m pc ls (mV ad ry :: mV ad rx :: rest)) :=
  lv_acmp_ne C.1.1 C.1.2.1 hdg ht (fun h => kt (fun q => h (by rw [q]))) (fun h => kf ((m_map_inj hM.1.2.1).mp h))
/-- a method's start and ends -/
def mPre (G : mG) (kd : Nat → Nat × Nat) (ad : Nat → Nat) (σ : mS) : State → Prop := fun U => mP G kd ad σ U.heap ∧ va_K G.1 vwCl (mTys G) U
def mPost (G : mG) (kd : Nat → Nat × Nat) (ad : Nat → Nat) : mS → State → Prop := fun u t => mP G kd ad u t.heap
def mWs (y : MethodName) (cc : ByteArray) (ml : Nat) (ret : Option FieldType) : List Cond := Cond.code y cc ml ret :: wsL_law
def mRm (fr lo : Nat) : Room := { frames := fr, cells := 0, slots := 0, locals := lo }
def mKi (l : Launch) (y : MethodName) (cc : ByteArray) (ml fr lo : Nat) (G : mG) (kd : Nat → Nat × Nat) (ad : Nat → Nat) (σ : mS) (av : List Value) (Q : Int32 → mS → Prop) : Prop :=
  Met l y (mWs y cc ml (some .int)) (mRm fr lo) (va_Pc av (mPre G kd ad σ)) (va_Qi Q (mPost G kd ad) (mA ad)) 0 0 (mA ad)
def mKz (l : Launch) (y : MethodName) (cc : ByteArray) (ml fr lo : Nat) (G : mG) (kd : Nat → Nat × Nat) (ad : Nat → Nat) (σ : mS) (av : List Value) (Q : Int32 → mS → Prop) : Prop :=
  Met l y (mWs y cc ml (some .boolean)) (mRm fr lo) (va_Pc av (mPre G kd ad σ)) (va_Qi (fun r u => Q r u ∧ narrow .boolean (.int r) = .int r) (mPost G kd ad) (mA ad)) 0 0 (mA ad)
def mKv (l : Launch) (y : MethodName) (cc : ByteArray) (ml fr lo : Nat) (G : mG) (kd : Nat → Nat × Nat) (ad : Nat → Nat) (σ : mS) (av : List Value) (Q : mS → Prop) : Prop :=
  Met l y (mWs y cc ml none) (mRm fr lo) (va_Pc av (mPre G kd ad σ)) (va_Qv Q (mPost G kd ad) (mA ad)) 0 0 (mA ad)
def mKq (l : Launch) (y : MethodName) (cc : ByteArray) (ml : Nat) (cls : String) (fr lo : Nat) (G : mG) (kd : Nat → Nat × Nat) (ad : Nat → Nat) (σ : mS) (av : List Value) (Q : Option Nat → mS → Prop) : Prop :=
  Met l y (mWs y cc ml (some (.object cls))) (mRm fr lo) (va_Pc av (mPre G kd ad σ)) (va_Qq (fun (r : Option Nat) (u : mS) => ∃ i : Option Nat, r = i.map ad ∧ Q i u) (mPost G kd ad) (mA ad)) 0 0 (mA ad)
theorem mr_start {y : MethodName} {cc : ByteArray} {ml fr lo : Nat} {ret : Option FieldType} {av : List Value} {lst : List (Nat × Value)} {Qc : Array Value → State → Outcome → State → Prop} (hy : plainName y.cls = true) (hcat : ∀ v ∈ av, v.category = 1) (hav : lv_args 0 av = lst) (hlen : (lg_sl av).length ≤ ml)
    (body : ∀ (p : Program) (e : Env) (s : State) (m : MethodId) (below : List Frame) (meth : Method) (c : Code), mX p s m c cc ml av.toArray y.cls G → mM G kd ad s σ s.heap [] → meth.sig.returnType = ret → meth.locks = false → ∀ ls : Array Slot, ml_has ls ml lst → W p l e (mRm fr lo) s m av.toArray below meth c s.heap [] 0 0 (MQ below Qc av.toArray s 0 0 (mA ad)) (F0 m 0 ls [])) :
    Met l y (mWs y cc ml ret) (mRm fr lo) (va_Pc av (mPre G kd ad σ)) Qc 0 0 (mA ad) := by
  refine Met.ofW (cc := cc) (maxL := ml) (ret := ret) hy rfl ?_
  intro p e s m args below meth c s₁ B hml hv
  obtain ⟨rfl, hP, hK⟩ := hv
  have hts := atoms_spec (ws := mWs y cc ml ret) B.pre
  have hown : s.vm.findClass y.cls = some m.cls := findClass_of_methodNamed B.named
  have hl := lv_entry av (n := ml) hlen
  rw [hav] at hl
  rw [lg_entry_eq]
  refine body p e s m below meth c ⟨⟨B.exec, B.bytes, hml, hown, fun w hw => hts w (List.mem_cons_of_mem _ hw)⟩, hK⟩ ⟨hP, va_S.rf⟩ B.returns B.notSynchronized _ ⟨hl, ?_⟩
  subst hav
  have key : ∀ (vs : List Value) (n : Nat), (∀ v ∈ vs, v.category = 1) → ∀ q ∈ lv_args n vs, q.2.category = 1 := by
    intro vs
    induction vs with
    | nil => intro n _ q hq; simp [lv_args] at hq
    | cons v vs ih =>
      intro n h q hq
      rcases List.mem_cons.mp hq with rfl | hq
      · exact h v List.mem_cons_self
      · exact ih _ (fun w hw => h w (List.mem_cons_of_mem _ hw)) q hq
  exact key av 0 hcat
theorem mr_iret (C : mX p s m c cc nL args own G) (hM : mM G kd ad s σ H locs) {Q : Int32 → mS → Prop} {v : Int32} (hr : meth.sig.returnType = some .int) (hlk : meth.locks = false) (h : Q v σ) (hdg : decode cc pc = .ok (.ireturn, 1)) : W p l e R s m args below meth c H locs cells slots (MQ below (va_Qi Q (mPost G kd ad) (mA ad)) args s cells slots (mA ad)) (F0 m pc ls [.int v]) :=
  W.iret C.1.1 C.1.2.1 hr (fun t ht _ => ⟨⟨v, σ, rfl, h, by show mP G kd ad σ t.heap; rw [ht]; exact hM.1⟩, hM.2.F ht⟩) hM.2.2.2 hdg hlk
theorem mr_zret (C : mX p s m c cc nL args own G) (hM : mM G kd ad s σ H locs) {Q : Int32 → mS → Prop} {v : Int32} (hr : meth.sig.returnType = some .boolean) (hlk : meth.locks = false) (hn : narrow .boolean (.int v) = .int v) (h : Q v σ) (hdg : decode cc pc = .ok (.ireturn, 1)) : W p l e R s m args below meth c H locs cells slots (MQ below (va_Qi (fun r u => Q r u ∧ narrow .boolean (.int r) = .int r) (mPost G kd ad) (mA ad)) args s cells slots (mA ad)) (F0 m pc ls [.int v]) :=
  W.zret C.1.1 C.1.2.1 hr hn (fun t ht _ => ⟨⟨v, σ, rfl, ⟨h, hn⟩, by show mP G kd ad σ t.heap; rw [ht]; exact hM.1⟩, hM.2.F ht⟩) hM.2.2.2 hdg hlk
theorem mr_vret (C : mX p s m c cc nL args own G) (hM : mM G kd ad s σ H locs) {Q : mS → Prop} (hr : meth.sig.returnType = none) (hlk : meth.locks = false) (h : Q σ) (hdg : decode cc pc = .ok (.return_, 1)) : W p l e R s m args below meth c H locs cells slots (MQ below (va_Qv Q (mPost G kd ad) (mA ad)) args s cells slots (mA ad)) (F0 m pc ls []) :=
  W.vret C.1.1 C.1.2.1 hr (fun t ht _ => ⟨⟨σ, rfl, h, by show mP G kd ad σ t.heap; rw [ht]; exact hM.1⟩, hM.2.F ht⟩) hM.2.2.2 hdg hlk
theorem mr_aret (C : mX p s m c cc nL args own G) (hM : mM G kd ad s σ H locs) {cls : String} {Q : Option Nat → mS → Prop} {r : Option Nat} (hr : meth.sig.returnType = some (.object cls)) (hlk : meth.locks = false) (h : Q r σ) (hdg : decode cc pc = .ok (.areturn, 1)) : W p l e R s m args below meth c H locs cells slots (MQ below (va_Qq (fun (a : Option Nat) (u : mS) => ∃ i : Option Nat, a = i.map ad ∧ Q i u) (mPost G kd ad) (mA ad)) args s cells slots (mA ad)) (F0 m pc ls [mV ad r]) :=
  W.aret C.1.1 C.1.2.1 hr (Or.inl ⟨cls, rfl⟩) (by cases r with | none => exact Or.inl rfl | some a => exact Or.inr ⟨ad a, rfl⟩) (fun t ht _ => ⟨⟨r.map ad, σ, rfl, ⟨r, rfl, h⟩, by show mP G kd ad σ t.heap; rw [ht]; exact hM.1⟩, hM.2.F ht⟩) hM.2.2.2 hdg hlk
/-- the words of a call, by their places in the one list -/
def mCw (own : String) (idx : Nat) (cls : String) (y : MethodName) (cc : ByteArray) (ml : Nat) (ret : Option FieldType) : Prop := Cond.methodLink own idx y ∈ wsL_law ∧ Cond.instanceMethod y ∈ wsL_law ∧ Cond.selects cls y y ∈ wsL_law ∧ Cond.initialized cls ∈ wsL_law ∧ Cond.code y cc ml ret ∈ wsL_law
def mCs (own : String) (idx : Nat) (y : MethodName) (cc : ByteArray) (ml : Nat) (ret : Option FieldType) : Prop := Cond.methodLink own idx y ∈ wsL_law ∧ Cond.static y ∈ wsL_law ∧ Cond.initialized own ∈ wsL_law ∧ Cond.code y cc ml ret ∈ wsL_law
theorem mCw.good {own cls : String} {idx ml : Nat} {y : MethodName} {cc : ByteArray} {ret : Option FieldType} (h : mCw own idx cls y cc ml ret) : GoodIn wsL_law (wsV own idx cls y (mWs y cc ml ret)) := by
  obtain ⟨h1, h2, h3, h4, h5⟩ := h
  intro w hw
  have : w ∈ wsL_law := by
    unfold wsV mWs at hw
    simp only [List.cons_append, List.nil_append, List.mem_cons] at hw
    rcases hw with rfl | rfl | rfl | rfl | rfl | hw
    · exact h1
    · exact h2
    · exact h3
    · exact h4
    · exact h5
    · exact hw
  exact ⟨this, m_good w this⟩
theorem mCs.good {own : String} {idx ml : Nat} {y : MethodName} {cc : ByteArray} {ret : Option FieldType} (h : mCs own idx y cc ml ret) : GoodIn wsL_law (wsS own idx y (mWs y cc ml ret)) := by
  obtain ⟨h1, h2, h3, h4⟩ := h
  intro w hw
  have : w ∈ wsL_law := by
    unfold wsS mWs at hw
    simp only [List.cons_append, List.nil_append, List.mem_cons] at hw
    rcases hw with rfl | rfl | rfl | rfl | hw
    · exact h1
    · exact h2
    · exact h3
    · exact h4
    · exact hw
  exact ⟨this, m_good w this⟩
theorem mPre.blind (G : mG) (kd : Nat → Nat × Nat) (ad : Nat → Nat) (σ : mS) (av : List Value) : FrameBlind (va_Pc av (mPre G kd ad σ)) := fun a U g mk q => ⟨q.1, q.2.1, va_K.moved (u := U) (U := U.calling g mk a) (Vm.Alike.refl U.vm) q.2.2⟩
theorem mr_preV (C : mX p s m c cc nL args own G) (hM : mM G kd ad s σ H locs) {ci i : Nat} (ho : mO kd ci i σ) {q : vw_C} (hc : vwCl[ci]? = some q) (As : List Value) : PreV s H q.1 (ad i) (va_Pc (mV ad (some i) :: As) (mPre G kd ad σ)) As := by
  have h0 : va_at G.1 vwCl (ad i, .inr (ci, mL ad σ i ci)) H := by rw [← mE_0 (G := G) ho.1]; exact hM.1.1 i ho.2
  obtain ⟨q', h1, cell, g1, g2, g3, -⟩ := h0
  exact ⟨mPre.blind _ _ _ _ _, ⟨cell, g1, by rw [g3]; rfl, by rw [g2]; exact (C.2.1 ci q hc).2.1⟩, fun U hU hW => ⟨rfl, by rw [hU]; exact hM.1, va_K.moved hW.alike C.2⟩⟩
theorem mr_preS (C : mX p s m c cc nL args own G) (hM : mM G kd ad s σ H locs) (As : List Value) : PreS s H (va_Pc As (mPre G kd ad σ)) As :=
  ⟨mPre.blind _ _ _ _ _, fun U hU hW => ⟨rfl, by rw [hU]; exact hM.1, va_K.moved hW.alike C.2⟩⟩
theorem m_wt {st : List Value} (h : ∀ v ∈ st, v.category = 1) (hn : st.length ≤ 8) : (st.map fun v => v.category).sum ≤ 8 := by
  have key : ∀ st : List Value, (∀ v ∈ st, v.category = 1) → (st.map fun v => v.category).sum = st.length := by
    intro st
    induction st with
    | nil => intro _; rfl
    | cons v vs ih =>
      intro h
      simp only [List.map_cons, List.sum_cons, List.length_cons]
      rw [h v List.mem_cons_self, ih (fun w hw => h w (List.mem_cons_of_mem _ hw))]
      omega
  rw [key st h]; exact hn
variable {y : MethodName} {bytes : ByteArray} {maxL index n fr lo i ci : Nat} {As : List Value} {st : List Value} {cls : String} {q : vw_C}
theorem mr_runV {ret : Option FieldType} {Qc : Array Value → State → Outcome → State → Prop} (C : mX p s m c cc nL args own G) (hM : mM G kd ad s σ H locs) (hl : ls.size = nL) (hc : Met l y (mWs y bytes maxL ret) (mRm fr lo) (va_Pc (mV ad (some i) :: As) (mPre G kd ad σ)) Qc 0 0 (mA ad)) (hg : mCw own index cls y bytes maxL ret) (ho : mO kd ci i σ) (hq : vwCl[ci]? = some q) (hqc : q.1 = cls)
    (hd : y.cls = cls ∧ y.cls ≠ "java/lang/invoke/MethodHandle" ∧ y.cls ≠ "java/lang/invoke/VarHandle" ∧ (parseMethodDescriptor y.desc).map (fun d => d.parameters.length) = some As.length) (hst : st = As.reverse ++ mV ad (some i) :: rest) (hR : fr + 1 ≤ R.frames ∧ 8 + (maxL + 11) + lo ≤ R.locals) (hw : ∀ v ∈ rest, v.category = 1) (hw8 : rest.length ≤ 8) (hdg : decode cc pc = .ok (.invokevirtual index, 3)) (hf : cells ≤ R.cells ∧ slots ≤ R.slots) :
    va_Run p l e R s m args below meth c H locs cells slots 0 0 (F0 m pc ls st) rest (Qc (Value.ref (ad i) :: As).toArray) (mA ad) := by
  subst hqc
  subst hst
  exact va_runV (As := As) (rest := rest) C.1 hc (cwV As.length C.1.2.2.2.2 hg.good rfl rfl rfl hd hR) (mr_preV C hM ho hq As) rfl rfl hl rfl (lv_room (pc := pc) (ls := ls) (rest := As.reverse ++ mV ad (some i) :: rest) (m_wt hw hw8)) hdg hf
theorem mr_runS {ret : Option FieldType} {Qc : Array Value → State → Outcome → State → Prop} (C : mX p s m c cc nL args own G) (hM : mM G kd ad s σ H locs) (hl : ls.size = nL) (hc : Met l y (mWs y bytes maxL ret) (mRm fr lo) (va_Pc As (mPre G kd ad σ)) Qc 0 0 (mA ad)) (hg : mCs own index y bytes maxL ret)
    (hd : y.cls = own ∧ y.cls ≠ "java/lang/invoke/MethodHandle" ∧ y.cls ≠ "java/lang/invoke/VarHandle" ∧ (parseMethodDescriptor y.desc).map (fun d => d.parameters.length) = some As.length) (hst : st = As.reverse ++ rest) (hR : fr + 1 ≤ R.frames ∧ 8 + (maxL + 11) + lo ≤ R.locals) (hw : ∀ v ∈ rest, v.category = 1) (hw8 : rest.length ≤ 8) (hdg : decode cc pc = .ok (.invokestatic index, 3)) (hf : cells ≤ R.cells ∧ slots ≤ R.slots) :
    va_Run p l e R s m args below meth c H locs cells slots 0 0 (F0 m pc ls st) rest (Qc As.toArray) (mA ad) := by
  subst hst
  exact va_runS (As := As) (rest := rest) C.1 hc (cwS As.length C.1.2.2.2.2 hg.good rfl rfl rfl hd hR) (mr_preS C hM As) rfl rfl hl rfl (lv_room (pc := pc) (ls := ls) (rest := As.reverse ++ rest) (m_wt hw hw8)) hdg hf
theorem mr_ci {a : Array Value} {Qi : Int32 → mS → Prop} (hM : mM G kd ad s σ H locs) (hr : va_Run p l e R s m args below meth c H locs cells slots 0 0 (F0 m pc ls st) rest (va_Qi Qi (mPost G kd ad) (mA ad) a) (mA ad)) (kk : ∀ (r : Int32) (u : mS) (H1 : Heap) (locs1 : List Loc), Qi r u → mM G kd ad s u H1 locs1 → W p l e R s m args below meth c H1 locs1 cells slots Q (F0 m (pc + 3) ls (.int r :: rest))) : W p l e R s m args below meth c H locs cells slots Q (F0 m pc ls st) :=
  va_calli hr hM.2 (fun _ _ h => h) (fun _ h => h) (fun r u t H1 locs1 ht hvm hw hB hz1 hk1 hS => kk r u H1 locs1 hw ⟨by rw [← ht]; exact hB, hS⟩)
theorem mr_cv {a : Array Value} {Qv : mS → Prop} (hM : mM G kd ad s σ H locs) (hr : va_Run p l e R s m args below meth c H locs cells slots 0 0 (F0 m pc ls st) rest (va_Qv Qv (mPost G kd ad) (mA ad) a) (mA ad)) (kk : ∀ (u : mS) (H1 : Heap) (locs1 : List Loc), Qv u → mM G kd ad s u H1 locs1 → W p l e R s m args below meth c H1 locs1 cells slots Q (F0 m (pc + 3) ls rest)) : W p l e R s m args below meth c H locs cells slots Q (F0 m pc ls st) :=
  va_callv hr hM.2 (fun _ _ h => h) (fun _ h => h) (fun u t H1 locs1 ht hvm hw hB hz1 hk1 hS => kk u H1 locs1 hw ⟨by rw [← ht]; exact hB, hS⟩)
theorem mr_cq {a : Array Value} {Qq : Option Nat → mS → Prop} (hM : mM G kd ad s σ H locs) (hr : va_Run p l e R s m args below meth c H locs cells slots 0 0 (F0 m pc ls st) rest (va_Qq (fun (r : Option Nat) (u : mS) => ∃ i : Option Nat, r = i.map ad ∧ Qq i u) (mPost G kd ad) (mA ad) a) (mA ad)) (kk : ∀ (r : Option Nat) (u : mS) (H1 : Heap) (locs1 : List Loc), Qq r u → mM G kd ad s u H1 locs1 → W p l e R s m args below meth c H1 locs1 cells slots Q (F0 m (pc + 3) ls (mV ad r :: rest))) : W p l e R s m args below meth c H locs cells slots Q (F0 m pc ls st) :=
  va_callq hr hM.2 (fun _ _ h => h) (fun _ h => h) (fun r u t H1 locs1 ht hvm hw hB hz1 hk1 hS => by
    obtain ⟨i, rfl, hw⟩ := hw
    exact kk i u H1 locs1 hw ⟨by rw [← ht]; exact hB, hS⟩)
end MS
/-- loops: by a measure that falls -/
theorem m_loop {P : Nat → Prop} (h : ∀ n, (∀ k, k < n → P k) → P n) : ∀ n, P n := fun n => Nat.strongRecOn n h
end
