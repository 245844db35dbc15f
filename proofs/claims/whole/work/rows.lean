section
-- ===== PART A: goes FIRST, ahead of the names: the tables' words, and 'selects' of the private methods out of them =====
/-- a private method of a class that the tables say can be made, by its rows of tables_1 -/
def lw_okq (q : MethodName × Nat) : Prop := (q.1.cls ≠ "java/lang/invoke/MethodHandle" ∧ q.1.cls ≠ "java/lang/invoke/VarHandle") ∧ Cond.instantiable q.1.cls q.2 ∈ tables_1 ∧ Cond.privateMethod q.1 ∈ tables_1 ∧ Cond.instanceMethod q.1 ∈ tables_1
theorem lw_p0 : lw_okq (⟨"DeadlineCalls", "serviceAt", "(I)LDeadlineCalls$Service;"⟩, 7) := ⟨⟨by decide +kernel, by decide +kernel⟩, List.mem_of_getElem? (i := 12) (by decide +kernel), List.mem_of_getElem? (i := 122) (by decide +kernel), List.mem_of_getElem? (i := 123) (by decide +kernel)⟩
theorem lw_p1 : lw_okq (⟨"java/lang/Throwable", "fillInStackTrace", "(I)Ljava/lang/Throwable;"⟩, 6) := ⟨⟨by decide +kernel, by decide +kernel⟩, List.mem_of_getElem? (i := 164) (by decide +kernel), List.mem_of_getElem? (i := 162) (by decide +kernel), List.mem_of_getElem? (i := 163) (by decide +kernel)⟩
theorem lw_p2 : lw_okq (⟨"DeadlineCalls", "isFull", "()Z"⟩, 7) := ⟨⟨by decide +kernel, by decide +kernel⟩, List.mem_of_getElem? (i := 12) (by decide +kernel), List.mem_of_getElem? (i := 256) (by decide +kernel), List.mem_of_getElem? (i := 257) (by decide +kernel)⟩
theorem lw_p3 : lw_okq (⟨"DeadlineCalls", "makeCall", "(LDeadlineCalls$Service;LDeadlineCalls$Call;I)LDeadlineCalls$Call;"⟩, 7) := ⟨⟨by decide +kernel, by decide +kernel⟩, List.mem_of_getElem? (i := 12) (by decide +kernel), List.mem_of_getElem? (i := 261) (by decide +kernel), List.mem_of_getElem? (i := 262) (by decide +kernel)⟩
theorem lw_p4 : lw_okq (⟨"DeadlineCalls", "begin", "(LDeadlineCalls$Call;)V"⟩, 7) := ⟨⟨by decide +kernel, by decide +kernel⟩, List.mem_of_getElem? (i := 12) (by decide +kernel), List.mem_of_getElem? (i := 340) (by decide +kernel), List.mem_of_getElem? (i := 341) (by decide +kernel)⟩
theorem lw_p5 : lw_okq (⟨"DeadlineCalls", "finish", "(LDeadlineCalls$Call;I)I"⟩, 7) := ⟨⟨by decide +kernel, by decide +kernel⟩, List.mem_of_getElem? (i := 12) (by decide +kernel), List.mem_of_getElem? (i := 348) (by decide +kernel), List.mem_of_getElem? (i := 349) (by decide +kernel)⟩
theorem lw_p6 : lw_okq (⟨"DeadlineCalls", "close", "(LDeadlineCalls$Call;I)V"⟩, 7) := ⟨⟨by decide +kernel, by decide +kernel⟩, List.mem_of_getElem? (i := 12) (by decide +kernel), List.mem_of_getElem? (i := 352) (by decide +kernel), List.mem_of_getElem? (i := 353) (by decide +kernel)⟩
theorem lw_p7 : lw_okq (⟨"DeadlineCalls", "startWork", "(LDeadlineCalls$Call;)V"⟩, 7) := ⟨⟨by decide +kernel, by decide +kernel⟩, List.mem_of_getElem? (i := 12) (by decide +kernel), List.mem_of_getElem? (i := 384) (by decide +kernel), List.mem_of_getElem? (i := 385) (by decide +kernel)⟩
theorem lw_p8 : lw_okq (⟨"DeadlineCalls", "callAt", "(I)LDeadlineCalls$Call;"⟩, 7) := ⟨⟨by decide +kernel, by decide +kernel⟩, List.mem_of_getElem? (i := 12) (by decide +kernel), List.mem_of_getElem? (i := 399) (by decide +kernel), List.mem_of_getElem? (i := 400) (by decide +kernel)⟩
theorem lw_p9 : lw_okq (⟨"DeadlineCalls", "cutOffHead", "()V"⟩, 7) := ⟨⟨by decide +kernel, by decide +kernel⟩, List.mem_of_getElem? (i := 12) (by decide +kernel), List.mem_of_getElem? (i := 412) (by decide +kernel), List.mem_of_getElem? (i := 413) (by decide +kernel)⟩
theorem lw_p10 : lw_okq (⟨"DeadlineCalls", "endLate", "()V"⟩, 7) := ⟨⟨by decide +kernel, by decide +kernel⟩, List.mem_of_getElem? (i := 12) (by decide +kernel), List.mem_of_getElem? (i := 416) (by decide +kernel), List.mem_of_getElem? (i := 417) (by decide +kernel)⟩
theorem lw_p11 : lw_okq (⟨"DeadlineCalls", "endWork", "()V"⟩, 7) := ⟨⟨by decide +kernel, by decide +kernel⟩, List.mem_of_getElem? (i := 12) (by decide +kernel), List.mem_of_getElem? (i := 424) (by decide +kernel), List.mem_of_getElem? (i := 425) (by decide +kernel)⟩
theorem lw_p12 : lw_okq (⟨"DeadlineCalls", "askAt", "(LDeadlineCalls$Call;I)V"⟩, 7) := ⟨⟨by decide +kernel, by decide +kernel⟩, List.mem_of_getElem? (i := 12) (by decide +kernel), List.mem_of_getElem? (i := 432) (by decide +kernel), List.mem_of_getElem? (i := 433) (by decide +kernel)⟩
theorem lw_p13 : lw_okq (⟨"DeadlineCalls", "judgeAsking", "()V"⟩, 7) := ⟨⟨by decide +kernel, by decide +kernel⟩, List.mem_of_getElem? (i := 12) (by decide +kernel), List.mem_of_getElem? (i := 445) (by decide +kernel), List.mem_of_getElem? (i := 446) (by decide +kernel)⟩
theorem lw_p14 : lw_okq (⟨"DeadlineCalls", "judge", "(LDeadlineCalls$Call;LDeadlineCalls$Service;)V"⟩, 7) := ⟨⟨by decide +kernel, by decide +kernel⟩, List.mem_of_getElem? (i := 12) (by decide +kernel), List.mem_of_getElem? (i := 449) (by decide +kernel), List.mem_of_getElem? (i := 450) (by decide +kernel)⟩
theorem lw_p15 : lw_okq (⟨"DeadlineCalls", "cancelTries", "(LDeadlineCalls$Call;)V"⟩, 7) := ⟨⟨by decide +kernel, by decide +kernel⟩, List.mem_of_getElem? (i := 12) (by decide +kernel), List.mem_of_getElem? (i := 453) (by decide +kernel), List.mem_of_getElem? (i := 454) (by decide +kernel)⟩
def lw_privs_1 : List (MethodName × Nat) := [(⟨"DeadlineCalls", "serviceAt", "(I)LDeadlineCalls$Service;"⟩, 7), (⟨"java/lang/Throwable", "fillInStackTrace", "(I)Ljava/lang/Throwable;"⟩, 6), (⟨"DeadlineCalls", "isFull", "()Z"⟩, 7), (⟨"DeadlineCalls", "makeCall", "(LDeadlineCalls$Service;LDeadlineCalls$Call;I)LDeadlineCalls$Call;"⟩, 7), (⟨"DeadlineCalls", "begin", "(LDeadlineCalls$Call;)V"⟩, 7), (⟨"DeadlineCalls", "finish", "(LDeadlineCalls$Call;I)I"⟩, 7), (⟨"DeadlineCalls", "close", "(LDeadlineCalls$Call;I)V"⟩, 7), (⟨"DeadlineCalls", "startWork", "(LDeadlineCalls$Call;)V"⟩, 7), (⟨"DeadlineCalls", "callAt", "(I)LDeadlineCalls$Call;"⟩, 7), (⟨"DeadlineCalls", "cutOffHead", "()V"⟩, 7), (⟨"DeadlineCalls", "endLate", "()V"⟩, 7), (⟨"DeadlineCalls", "endWork", "()V"⟩, 7), (⟨"DeadlineCalls", "askAt", "(LDeadlineCalls$Call;I)V"⟩, 7), (⟨"DeadlineCalls", "judgeAsking", "()V"⟩, 7), (⟨"DeadlineCalls", "judge", "(LDeadlineCalls$Call;LDeadlineCalls$Service;)V"⟩, 7), (⟨"DeadlineCalls", "cancelTries", "(LDeadlineCalls$Call;)V"⟩, 7)]
theorem lw_r1 : ∀ q ∈ lw_privs_1, lw_okq q := List.forall_mem_cons.mpr ⟨lw_p0, List.forall_mem_cons.mpr ⟨lw_p1, List.forall_mem_cons.mpr ⟨lw_p2, List.forall_mem_cons.mpr ⟨lw_p3, List.forall_mem_cons.mpr ⟨lw_p4, List.forall_mem_cons.mpr ⟨lw_p5, List.forall_mem_cons.mpr ⟨lw_p6, List.forall_mem_cons.mpr ⟨lw_p7, List.forall_mem_cons.mpr ⟨lw_p8, List.forall_mem_cons.mpr ⟨lw_p9, List.forall_mem_cons.mpr ⟨lw_p10, List.forall_mem_cons.mpr ⟨lw_p11, List.forall_mem_cons.mpr ⟨lw_p12, List.forall_mem_cons.mpr ⟨lw_p13, List.forall_mem_cons.mpr ⟨lw_p14, List.forall_mem_cons.mpr ⟨lw_p15, fun _ h => absurd h List.not_mem_nil⟩⟩⟩⟩⟩⟩⟩⟩⟩⟩⟩⟩⟩⟩⟩⟩
theorem lw_p16 : lw_okq (⟨"DeadlineCalls", "tryAgain", "(LDeadlineCalls$Call;LDeadlineCalls$Service;)V"⟩, 7) := ⟨⟨by decide +kernel, by decide +kernel⟩, List.mem_of_getElem? (i := 12) (by decide +kernel), List.mem_of_getElem? (i := 457) (by decide +kernel), List.mem_of_getElem? (i := 458) (by decide +kernel)⟩
theorem lw_p17 : lw_okq (⟨"DeadlineCalls", "makeTries", "()V"⟩, 7) := ⟨⟨by decide +kernel, by decide +kernel⟩, List.mem_of_getElem? (i := 12) (by decide +kernel), List.mem_of_getElem? (i := 469) (by decide +kernel), List.mem_of_getElem? (i := 470) (by decide +kernel)⟩
theorem lw_p18 : lw_okq (⟨"DeadlineCalls", "makeTry", "(LDeadlineCalls$Call;LDeadlineCalls$Service;)V"⟩, 7) := ⟨⟨by decide +kernel, by decide +kernel⟩, List.mem_of_getElem? (i := 12) (by decide +kernel), List.mem_of_getElem? (i := 473) (by decide +kernel), List.mem_of_getElem? (i := 474) (by decide +kernel)⟩
theorem lw_p19 : lw_okq (⟨"DeadlineCalls", "startQueued", "()V"⟩, 7) := ⟨⟨by decide +kernel, by decide +kernel⟩, List.mem_of_getElem? (i := 12) (by decide +kernel), List.mem_of_getElem? (i := 481) (by decide +kernel), List.mem_of_getElem? (i := 482) (by decide +kernel)⟩
theorem lw_p20 : lw_okq (⟨"DeadlineCalls", "startQueuedOf", "(LDeadlineCalls$Service;)V"⟩, 7) := ⟨⟨by decide +kernel, by decide +kernel⟩, List.mem_of_getElem? (i := 12) (by decide +kernel), List.mem_of_getElem? (i := 486) (by decide +kernel), List.mem_of_getElem? (i := 487) (by decide +kernel)⟩
theorem lw_p21 : lw_okq (⟨"DeadlineCallsModel", "begins", "(III)V"⟩, 28) := ⟨⟨by decide +kernel, by decide +kernel⟩, List.mem_of_getElem? (i := 569) (by decide +kernel), List.mem_of_getElem? (i := 687) (by decide +kernel), List.mem_of_getElem? (i := 688) (by decide +kernel)⟩
theorem lw_p22 : lw_okq (⟨"DeadlineCallsModel", "manyOf", "(II)I"⟩, 28) := ⟨⟨by decide +kernel, by decide +kernel⟩, List.mem_of_getElem? (i := 569) (by decide +kernel), List.mem_of_getElem? (i := 691) (by decide +kernel), List.mem_of_getElem? (i := 692) (by decide +kernel)⟩
theorem lw_p23 : lw_okq (⟨"DeadlineCallsModel", "isOpenNow", "(I)Z"⟩, 28) := ⟨⟨by decide +kernel, by decide +kernel⟩, List.mem_of_getElem? (i := 569) (by decide +kernel), List.mem_of_getElem? (i := 695) (by decide +kernel), List.mem_of_getElem? (i := 696) (by decide +kernel)⟩
theorem lw_p24 : lw_okq (⟨"DeadlineCallsModel", "ends", "(II)I"⟩, 28) := ⟨⟨by decide +kernel, by decide +kernel⟩, List.mem_of_getElem? (i := 569) (by decide +kernel), List.mem_of_getElem? (i := 699) (by decide +kernel), List.mem_of_getElem? (i := 700) (by decide +kernel)⟩
theorem lw_p25 : lw_okq (⟨"DeadlineCallsModel", "isOver", "(I)Z"⟩, 28) := ⟨⟨by decide +kernel, by decide +kernel⟩, List.mem_of_getElem? (i := 569) (by decide +kernel), List.mem_of_getElem? (i := 703) (by decide +kernel), List.mem_of_getElem? (i := 704) (by decide +kernel)⟩
theorem lw_p26 : lw_okq (⟨"DeadlineCallsModel", "works", "(I)V"⟩, 28) := ⟨⟨by decide +kernel, by decide +kernel⟩, List.mem_of_getElem? (i := 569) (by decide +kernel), List.mem_of_getElem? (i := 707) (by decide +kernel), List.mem_of_getElem? (i := 708) (by decide +kernel)⟩
theorem lw_p27 : lw_okq (⟨"DeadlineCallsModel", "isCall", "(I)Z"⟩, 28) := ⟨⟨by decide +kernel, by decide +kernel⟩, List.mem_of_getElem? (i := 569) (by decide +kernel), List.mem_of_getElem? (i := 715) (by decide +kernel), List.mem_of_getElem? (i := 716) (by decide +kernel)⟩
theorem lw_p28 : lw_okq (⟨"DeadlineCallsModel", "rootsOver", "()I"⟩, 28) := ⟨⟨by decide +kernel, by decide +kernel⟩, List.mem_of_getElem? (i := 569) (by decide +kernel), List.mem_of_getElem? (i := 723) (by decide +kernel), List.mem_of_getElem? (i := 724) (by decide +kernel)⟩
theorem lw_p29 : lw_okq (⟨"DeadlineCallsModel", "ticks", "()V"⟩, 28) := ⟨⟨by decide +kernel, by decide +kernel⟩, List.mem_of_getElem? (i := 569) (by decide +kernel), List.mem_of_getElem? (i := 727) (by decide +kernel), List.mem_of_getElem? (i := 728) (by decide +kernel)⟩
theorem lw_p30 : lw_okq (⟨"DeadlineCallsModel", "late", "()V"⟩, 28) := ⟨⟨by decide +kernel, by decide +kernel⟩, List.mem_of_getElem? (i := 569) (by decide +kernel), List.mem_of_getElem? (i := 731) (by decide +kernel), List.mem_of_getElem? (i := 732) (by decide +kernel)⟩
theorem lw_p31 : lw_okq (⟨"DeadlineCallsModel", "counts", "(I)V"⟩, 28) := ⟨⟨by decide +kernel, by decide +kernel⟩, List.mem_of_getElem? (i := 569) (by decide +kernel), List.mem_of_getElem? (i := 735) (by decide +kernel), List.mem_of_getElem? (i := 736) (by decide +kernel)⟩
def lw_privs_2 : List (MethodName × Nat) := [(⟨"DeadlineCalls", "tryAgain", "(LDeadlineCalls$Call;LDeadlineCalls$Service;)V"⟩, 7), (⟨"DeadlineCalls", "makeTries", "()V"⟩, 7), (⟨"DeadlineCalls", "makeTry", "(LDeadlineCalls$Call;LDeadlineCalls$Service;)V"⟩, 7), (⟨"DeadlineCalls", "startQueued", "()V"⟩, 7), (⟨"DeadlineCalls", "startQueuedOf", "(LDeadlineCalls$Service;)V"⟩, 7), (⟨"DeadlineCallsModel", "begins", "(III)V"⟩, 28), (⟨"DeadlineCallsModel", "manyOf", "(II)I"⟩, 28), (⟨"DeadlineCallsModel", "isOpenNow", "(I)Z"⟩, 28), (⟨"DeadlineCallsModel", "ends", "(II)I"⟩, 28), (⟨"DeadlineCallsModel", "isOver", "(I)Z"⟩, 28), (⟨"DeadlineCallsModel", "works", "(I)V"⟩, 28), (⟨"DeadlineCallsModel", "isCall", "(I)Z"⟩, 28), (⟨"DeadlineCallsModel", "rootsOver", "()I"⟩, 28), (⟨"DeadlineCallsModel", "ticks", "()V"⟩, 28), (⟨"DeadlineCallsModel", "late", "()V"⟩, 28), (⟨"DeadlineCallsModel", "counts", "(I)V"⟩, 28)]
theorem lw_r2 : ∀ q ∈ lw_privs_2, lw_okq q := List.forall_mem_cons.mpr ⟨lw_p16, List.forall_mem_cons.mpr ⟨lw_p17, List.forall_mem_cons.mpr ⟨lw_p18, List.forall_mem_cons.mpr ⟨lw_p19, List.forall_mem_cons.mpr ⟨lw_p20, List.forall_mem_cons.mpr ⟨lw_p21, List.forall_mem_cons.mpr ⟨lw_p22, List.forall_mem_cons.mpr ⟨lw_p23, List.forall_mem_cons.mpr ⟨lw_p24, List.forall_mem_cons.mpr ⟨lw_p25, List.forall_mem_cons.mpr ⟨lw_p26, List.forall_mem_cons.mpr ⟨lw_p27, List.forall_mem_cons.mpr ⟨lw_p28, List.forall_mem_cons.mpr ⟨lw_p29, List.forall_mem_cons.mpr ⟨lw_p30, List.forall_mem_cons.mpr ⟨lw_p31, fun _ h => absurd h List.not_mem_nil⟩⟩⟩⟩⟩⟩⟩⟩⟩⟩⟩⟩⟩⟩⟩⟩
theorem lw_p32 : lw_okq (⟨"DeadlineCallsModel", "worksOut", "()V"⟩, 28) := ⟨⟨by decide +kernel, by decide +kernel⟩, List.mem_of_getElem? (i := 569) (by decide +kernel), List.mem_of_getElem? (i := 739) (by decide +kernel), List.mem_of_getElem? (i := 740) (by decide +kernel)⟩
theorem lw_p33 : lw_okq (⟨"DeadlineCallsModel", "startsAsking", "(I)V"⟩, 28) := ⟨⟨by decide +kernel, by decide +kernel⟩, List.mem_of_getElem? (i := 569) (by decide +kernel), List.mem_of_getElem? (i := 743) (by decide +kernel), List.mem_of_getElem? (i := 744) (by decide +kernel)⟩
theorem lw_p34 : lw_okq (⟨"DeadlineCallsModel", "looks", "(I)V"⟩, 28) := ⟨⟨by decide +kernel, by decide +kernel⟩, List.mem_of_getElem? (i := 569) (by decide +kernel), List.mem_of_getElem? (i := 747) (by decide +kernel), List.mem_of_getElem? (i := 748) (by decide +kernel)⟩
theorem lw_p35 : lw_okq (⟨"DeadlineCallsModel", "isTry", "(II)Z"⟩, 28) := ⟨⟨by decide +kernel, by decide +kernel⟩, List.mem_of_getElem? (i := 569) (by decide +kernel), List.mem_of_getElem? (i := 751) (by decide +kernel), List.mem_of_getElem? (i := 752) (by decide +kernel)⟩
theorem lw_p36 : lw_okq (⟨"DeadlineCallsModel", "goesOn", "(I)V"⟩, 28) := ⟨⟨by decide +kernel, by decide +kernel⟩, List.mem_of_getElem? (i := 569) (by decide +kernel), List.mem_of_getElem? (i := 755) (by decide +kernel), List.mem_of_getElem? (i := 756) (by decide +kernel)⟩
theorem lw_p37 : lw_okq (⟨"DeadlineCallsModel", "makesTries", "()V"⟩, 28) := ⟨⟨by decide +kernel, by decide +kernel⟩, List.mem_of_getElem? (i := 569) (by decide +kernel), List.mem_of_getElem? (i := 759) (by decide +kernel), List.mem_of_getElem? (i := 760) (by decide +kernel)⟩
theorem lw_p38 : lw_okq (⟨"DeadlineCallsModel", "takesQueued", "(I)V"⟩, 28) := ⟨⟨by decide +kernel, by decide +kernel⟩, List.mem_of_getElem? (i := 569) (by decide +kernel), List.mem_of_getElem? (i := 763) (by decide +kernel), List.mem_of_getElem? (i := 764) (by decide +kernel)⟩
theorem lw_p39 : lw_okq (⟨"DeadlineCallsModel", "firstQueued", "(I)I"⟩, 28) := ⟨⟨by decide +kernel, by decide +kernel⟩, List.mem_of_getElem? (i := 569) (by decide +kernel), List.mem_of_getElem? (i := 767) (by decide +kernel), List.mem_of_getElem? (i := 768) (by decide +kernel)⟩
theorem lw_p40 : lw_okq (⟨"DeadlineCallsModel", "asksCall", "(I)Z"⟩, 28) := ⟨⟨by decide +kernel, by decide +kernel⟩, List.mem_of_getElem? (i := 569) (by decide +kernel), List.mem_of_getElem? (i := 783) (by decide +kernel), List.mem_of_getElem? (i := 784) (by decide +kernel)⟩
theorem lw_p41 : lw_okq (⟨"DeadlineCallsModel", "isBelow", "(II)Z"⟩, 28) := ⟨⟨by decide +kernel, by decide +kernel⟩, List.mem_of_getElem? (i := 569) (by decide +kernel), List.mem_of_getElem? (i := 807) (by decide +kernel), List.mem_of_getElem? (i := 808) (by decide +kernel)⟩
def lw_privs_3 : List (MethodName × Nat) := [(⟨"DeadlineCallsModel", "worksOut", "()V"⟩, 28), (⟨"DeadlineCallsModel", "startsAsking", "(I)V"⟩, 28), (⟨"DeadlineCallsModel", "looks", "(I)V"⟩, 28), (⟨"DeadlineCallsModel", "isTry", "(II)Z"⟩, 28), (⟨"DeadlineCallsModel", "goesOn", "(I)V"⟩, 28), (⟨"DeadlineCallsModel", "makesTries", "()V"⟩, 28), (⟨"DeadlineCallsModel", "takesQueued", "(I)V"⟩, 28), (⟨"DeadlineCallsModel", "firstQueued", "(I)I"⟩, 28), (⟨"DeadlineCallsModel", "asksCall", "(I)Z"⟩, 28), (⟨"DeadlineCallsModel", "isBelow", "(II)Z"⟩, 28)]
theorem lw_r3 : ∀ q ∈ lw_privs_3, lw_okq q := List.forall_mem_cons.mpr ⟨lw_p32, List.forall_mem_cons.mpr ⟨lw_p33, List.forall_mem_cons.mpr ⟨lw_p34, List.forall_mem_cons.mpr ⟨lw_p35, List.forall_mem_cons.mpr ⟨lw_p36, List.forall_mem_cons.mpr ⟨lw_p37, List.forall_mem_cons.mpr ⟨lw_p38, List.forall_mem_cons.mpr ⟨lw_p39, List.forall_mem_cons.mpr ⟨lw_p40, List.forall_mem_cons.mpr ⟨lw_p41, fun _ h => absurd h List.not_mem_nil⟩⟩⟩⟩⟩⟩⟩⟩⟩⟩
def lw_privs : List (MethodName × Nat) := lw_privs_1 ++ (lw_privs_2 ++ (lw_privs_3))
def lw_tbl : List Cond := k2_sels lw_privs ++ tables_1
theorem lw_privs_ok : ∀ q ∈ lw_privs, lw_okq q := by
  show ∀ q ∈ lw_privs_1 ++ (lw_privs_2 ++ (lw_privs_3)), lw_okq q
  exact List.forall_mem_append.mpr ⟨lw_r1, List.forall_mem_append.mpr ⟨lw_r2, lw_r3⟩⟩
end
section
/-! ===== BEGIN words of one list among another's, by their places ===== -/
theorem goodIn_r {big : List Cond} (ws : List Cond) (ps : List Nat) (hp : ws = ps.filterMap (fun i => big[i]?)) (h : ws.all goodWord = true) : GoodIn big ws := by
  intro w hw
  have h1 := List.all_eq_true.mp h w hw
  rw [hp] at hw
  obtain ⟨i, -, hi⟩ := List.mem_filterMap.mp hw
  have hm : w ∈ big := by first | exact List.mem_of_getElem? hi | exact List.getElem?_mem hi
  exact ⟨hm, good_of_word h1⟩
theorem goodIn_app {big a b : List Cond} (ha : GoodIn big a) (hb : GoodIn big b) : GoodIn big (a ++ b) := fun w h => (List.mem_append.mp h).elim (ha w) (hb w)
theorem goodIn_ca {big a b : List Cond} {c : Cond} (ha : GoodIn big (c :: a)) (hb : GoodIn big b) : GoodIn big (c :: (a ++ b)) := fun w h => (List.mem_cons.mp h).elim (fun e => ha w (List.mem_cons.mpr (Or.inl e))) (fun h => (List.mem_append.mp h).elim (fun h => ha w (List.mem_cons.mpr (Or.inr h))) (hb w))
theorem goodIn_sub {big ws : List Cond} (hm : ∀ w ∈ ws, w ∈ big) (h : ws.all goodWord = true) : GoodIn big ws := fun w hw => ⟨hm w hw, good_of_word (List.all_eq_true.mp h w hw)⟩
/-! ===== END ===== -/

/-! ===== BEGIN exceptions that leave a method, and their catching by the caller (launches without stack traces) ===== -/
section VXA
/-! The laws vx_back, vx_callV, vx_callS, vx_callSW, vx_throw0, vx_throwS follow proofs of the library, with one case more: JvmDerived/Free/Laws.lean (Back.of_free), Shelf42/LK1.lean (callV, callS), Shelf/KitTraced.lean (throwNew0V, throwNewS). -/
/-- where a method has thrown q: the class by its name, the cell, what was written, the world -/
def vx_T (XC : String → State → State → Prop) (st : State) (q : Addr) (t : State) (mc ms : Nat) (free : Addr → Prop) : Prop :=
  ∃ (E : String) (ce : Cell) (L : List Loc), XC E st t ∧ t.heap[q]? = some ce ∧ ce.vm = .none ∧ st.vm.findClass E = some ce.cls ∧ st.WarmedH t.vm ∧ st.sameButNew ({ t with vm := st.vm } : State) L mc ms ∧ ∀ z ∈ L, free z.base
def vx_Q (Qc : Array Value → State → Outcome → State → Prop) (XC : String → State → State → Prop) (mc ms : Nat) (free : Addr → Prop) : Array Value → State → Outcome → State → Prop := fun a st o t =>
  (Qc a st o t ∧ ∃ L, FrameEnd st o t L mc ms ∧ ∀ q ∈ L, free q.base) ∨ ∃ q, o = .threw q ∧ vx_T XC st q t mc ms free
/-- a callee that returns or throws -/
def vx_Met (l : Launch) (y : MethodName) (ws : List Cond) (rm : Room) (Pc : Array Value → State → Prop) (Qc : Array Value → State → Outcome → State → Prop) (XC : String → State → State → Prop) (mc ms : Nat) (free : Addr → Prop) : Prop :=
  MetFree l y (headSpec ws rm) Pc (fun _ _ _ _ _ => True) (vx_Q Qc XC mc ms free)
def vx_Post (XC : String → State → State → Prop) (mc ms : Nat) (free : Addr → Prop) : Pt → Array Value → Addr → Pt → Prop := fun A a q B =>
  ∃ (g : JFrame) (mk : MethodId) (t : State) (L : List Loc) (E : String) (ce : Cell), B.U.heap = t.heap ∧ B.U.vm = t.vm ∧ XC E (A.U.calling g mk a) t ∧ t.heap[q]? = some ce ∧ ce.vm = .none ∧ A.U.vm.findClass E = some ce.cls ∧ B.locs = A.locs ++ L ∧ (∀ z ∈ L, free z.base) ∧ B.cells = A.cells + mc ∧ B.slots = A.slots + ms
def vx_Back (l : Launch) (R : Room) (p : Program) (e : Env) (below : List Frame) (s : State) (sargs : Array Value) (y : MethodName) (len W9 : Nat)
    (Pre : Pt → Array Value → Prop) (Post : Pt → Array Value → Option Value → Pt → Prop) (PostX : Pt → Array Value → Addr → Pt → Prop) : Prop :=
  ∀ (m : MethodId) (meth : Method) (c : Code) (A : Pt) (g : JFrame) (ig : Instr) (mk : MethodId) (a : Array Value),
    Stand p l e R s m sargs below meth c A.U A.locs A.cells A.slots → g.method = m → g.locals.size = c.maxLocals → decode c.code g.pc = .ok (ig, len) →
    2 * g.monitorRoom + (g.stack.map fun v => v.category).sum ≤ W9 → A.U.methodNamed? y = some mk → Pre A a →
    (∃ (v : Option Value) (B : Pt), Stand p l e R s m sargs below meth c B.U B.locs B.cells B.slots ∧ Post A a v B ∧
      Steps p.tables e below (doInvoke e (A.U.setTop g) [] mk a).1 (B.U.setTop { g with pc := g.pc + len, stack := v.toList ++ g.stack })) ∨
    (∃ (q : Addr) (B : Pt), Stand p l e R s m sargs below meth c B.U B.locs B.cells B.slots ∧ PostX A a q B ∧
      Steps p.tables e below (doInvoke e (A.U.setTop g) [] mk a).1 ((B.U.setTop g).pushFrame (.throwing q)))
section Payer
variable {l : Launch} {R : Room} {p : Program} {e : Env} {below : List Frame} {s : State} {sargs : Array Value} {y : MethodName} {len W9 : Nat}
theorem vx_back {ws : List Cond} {rm : Room} {Pc : Array Value → State → Prop} {Qc : Array Value → State → Outcome → State → Prop} {XC : String → State → State → Prop} {mc ms : Nat} {free : Addr → Prop} {bytes : ByteArray} {maxL : Nat} {ret : Option FieldType}
    (hM : vx_Met l y ws rm Pc Qc XC mc ms free) (hblind : FrameBlind Pc) (hrc : rm.cells = mc) (hrs : rm.slots = ms)
    (hframes : rm.frames + 1 ≤ R.frames) (hlocals : W9 + (maxL + 11) + rm.locals ≤ R.locals)
    (hws : ∀ w ∈ ws, ∀ a' U, s.WarmedH U.vm → w.before a' U = true) (hcode : Cond.code y bytes maxL ret ∈ ws) (hinit : ∀ a' U, s.WarmedH U.vm → (Cond.initialized y.cls).before a' U = true) :
    vx_Back l R p e below s sargs y len W9 (PreOf R mc ms Pc) (PostOf Qc mc ms free) (vx_Post XC mc ms free) := by
  intro m meth c A g ig mk a X hg hsize hdg hW hn hp
  have h1 : (headSpec ws rm).pre.before a A.U = true := atoms_intro fun w hw => hws w hw _ _ X.warmed
  have h2 : (Cond.code y bytes maxL ret).before a A.U = true := hws _ hcode _ _ X.warmed
  have h3 : (Cond.initialized y.cls).before a A.U = true := hinit _ _ X.warmed
  have h4 : A.cells + (headSpec ws rm).room.cells ≤ R.cells := by rw [show (headSpec ws rm).room.cells = mc from hrc]; exact hp.1
  have h5 : A.slots + (headSpec ws rm).room.slots ≤ R.slots := by rw [show (headSpec ws rm).room.slots = ms from hrs]; exact hp.2.1
  have hPc : Pc a (A.U.calling g mk a) := hblind _ _ _ _ hp.2.2
  obtain ⟨U, Ls, c0, s0⟩ := A
  dsimp only [Pt.U, Pt.locs, Pt.cells, Pt.slots] at h1 h2 h3 h4 h5 X hn hPc ⊢
  obtain ⟨methY, cY, hmY, hcY, -, hlY, -, -, -, -⟩ := Cond.code_spec hn h2
  obtain ⟨kY, hkY, -⟩ := className_of_methodNamed hn
  have hinitY : kY.init = .initialized := Cond.initialized_spec (findClass_of_methodNamed hn) hkY h3
  have h : At U g.method c below := by rw [hg]; exact X.here
  have hlocals9 : W9 + (maxL + 11) + (headSpec ws rm).room.locals ≤ R.locals := hlocals
  have happ : (headSpec ws rm).appliesLoose y e.platform (U.calling g mk a) = true :=
    Spec.appliesLoose_calling (g := g) h hdg hn hkY hinitY
      (X.room_calling (g := g) (R' := (headSpec ws rm).room) hsize hmY hcY hframes (by rw [hlY]; omega) h4 h5) h1
  obtain ⟨mid, hmid⟩ := h.above
  have hfr : (U.setTop g).frames = (.java g :: mid) ++ below := by rw [State.frames_setTop' g h.top, hmid]; rfl
  obtain ⟨o, s₂, hsteps, -, hend, hq⟩ := Steps.callFree hM p X.admits X.cas X.clock (acts := []) hfr happ hPc trivial
  have hq' : vx_Q Qc XC mc ms free a (U.calling g mk a) o s₂ := hq
  rw [State.frames_setTop' g h.top] at hend
  obtain ⟨g₀, hg0⟩ := Option.isSome_iff_exists.mp h.top
  obtain ⟨r, hr⟩ := State.topJava?_eq_some.mp hg0
  have hr' : (({ U with heap := s₂.heap, slotsUsed := s₂.slotsUsed } : State).setVm s₂.vm).frames = .java g₀ :: r := hr
  rcases hq' with ⟨hqc, L, hfe, hL⟩ | ⟨q, rfl, E, ce, L, hx, hce, hcv, hcl, hW₂, hsm, hL⟩
  · obtain ⟨⟨v, rfl⟩, hW₂, e2, q2, q3, q4, q5, q6⟩ := id hfe
    have e3 : s₂ = ({ (U.calling g mk a).setFrames s₂.frames with heap := s₂.heap, slotsUsed := s₂.slotsUsed } : State).setVm s₂.vm := by
      have : s₂ = ({ s₂ with vm := (U.calling g mk a).vm } : State).setVm s₂.vm := rfl
      rw [e2] at this
      exact this
    obtain ⟨c₂, i₂, len₂, hc₂, hd₂, hf₂⟩ := hend
    have hW' : U.WarmedH s₂.vm := hW₂
    have hcc : c₂ = c := by
      have h1 : s₂.code? g.method = U.code? g.method := by
        rw [State.code?_eq, State.code?_eq, hW'.alike.method?]
      exact Option.some.inj (hc₂.symm.trans (h1.trans h.code))
    subst hcc
    have hlen : len₂ = len := by rw [hdg] at hd₂; cases hd₂; rfl
    subst hlen
    have hs₂ : s₂ = (({ U with heap := s₂.heap, slotsUsed := s₂.slotsUsed } : State).setVm s₂.vm).setTop { g with pc := g.pc + len₂, stack := v.toList ++ g.stack } := by
      refine e3.trans ?_
      rw [hf₂, State.calling_eq h.top, State.setFrames_setFrames, State.setTop_of_frames _ hr', hr]
      rfl
    have hsame : U.sameButNew ({ U with heap := s₂.heap, slotsUsed := s₂.slotsUsed } : State) L mc ms := by
      refine ⟨?_, q2, q3, q4, q5, q6⟩
      obtain ⟨t, ht, -⟩ := State.frames_cons hr
      show ({ U with heap := s₂.heap, slotsUsed := s₂.slotsUsed } : State) = { U.setFrames U.frames with heap := s₂.heap, slotsUsed := s₂.slotsUsed }
      rw [State.setFrames_self ht]
    subst hg
    refine Or.inl ⟨v, ⟨(({ U with heap := s₂.heap, slotsUsed := s₂.slotsUsed } : State).setVm s₂.vm), Ls ++ L, c0 + mc, s0 + ms⟩,
      ⟨X.admits, X.cas, X.clock, X.frames, X.room, X.hears, X.method, X.code, (X.here.setHeapUsed s₂.heap s₂.slotsUsed).setVm hW'.alike, X.tail, State.WarmedH.trans X.warmed hW', X.limits, X.bytes, X.same.trans (hsame.setVm s.vm)⟩,
      ⟨g, mk, s₂, L, rfl, rfl, hqc, rfl, hL, rfl, rfl⟩, ?_⟩
    show Steps p.tables e below _ ((({ U with heap := s₂.heap, slotsUsed := s₂.slotsUsed } : State).setVm s₂.vm).setTop { g with pc := g.pc + len₂, stack := v.toList ++ g.stack })
    rw [← hs₂]
    exact hsteps
  · obtain ⟨e2, q2, q3, q4, q5, q6⟩ := id hsm
    have e3 : s₂ = ({ (U.calling g mk a).setFrames s₂.frames with heap := s₂.heap, slotsUsed := s₂.slotsUsed } : State).setVm s₂.vm := by
      have : s₂ = ({ s₂ with vm := (U.calling g mk a).vm } : State).setVm s₂.vm := rfl
      rw [e2] at this
      exact this
    have hf₂ : s₂.frames = .throwing q :: .java g :: U.frames.tail := hend
    have hW' : U.WarmedH s₂.vm := hW₂
    have hs₂ : s₂ = ((({ U with heap := s₂.heap, slotsUsed := s₂.slotsUsed } : State).setVm s₂.vm).setTop g).pushFrame (.throwing q) := by
      refine e3.trans ?_
      rw [hf₂, State.calling_eq h.top, State.setFrames_setFrames, State.pushFrame, State.frames_setTop _ hr', State.setTop_of_frames _ hr', State.setFrames_setFrames, hr]
      rfl
    have hsame : U.sameButNew ({ U with heap := s₂.heap, slotsUsed := s₂.slotsUsed } : State) L mc ms := by
      refine ⟨?_, q2, q3, q4, q5, q6⟩
      obtain ⟨t, ht, -⟩ := State.frames_cons hr
      show ({ U with heap := s₂.heap, slotsUsed := s₂.slotsUsed } : State) = { U.setFrames U.frames with heap := s₂.heap, slotsUsed := s₂.slotsUsed }
      rw [State.setFrames_self ht]
    subst hg
    refine Or.inr ⟨q, ⟨(({ U with heap := s₂.heap, slotsUsed := s₂.slotsUsed } : State).setVm s₂.vm), Ls ++ L, c0 + mc, s0 + ms⟩,
      ⟨X.admits, X.cas, X.clock, X.frames, X.room, X.hears, X.method, X.code, (X.here.setHeapUsed s₂.heap s₂.slotsUsed).setVm hW'.alike, X.tail, State.WarmedH.trans X.warmed hW', X.limits, X.bytes, X.same.trans (hsame.setVm s.vm)⟩,
      ⟨g, mk, s₂, L, E, ce, rfl, rfl, hx, hce, hcv, hcl, rfl, hL, rfl, rfl⟩, ?_⟩
    show Steps p.tables e below _ (((({ U with heap := s₂.heap, slotsUsed := s₂.slotsUsed } : State).setVm s₂.vm).setTop g).pushFrame (.throwing q))
    rw [← hs₂]
    exact hsteps
end Payer
section Calls
variable {p : Program} {l : Launch} {e : Env} {R : Room} {s : State} {m : MethodId} {args : Array Value} {below : List Frame} {meth : Method} {c : Code} {T : State} {locs : List Loc} {cells slots : Nat}
theorem vx_callV (X : Stand p l e R s m args below meth c T locs cells slots) (hexec : p.tables.exec = Jvm.exec) {own C : String} {index : Nat} {y : MethodName} {bytes : ByteArray} {maxL : Nat} {ret : Option FieldType}
    (hown : s.vm.findClass own = some m.cls) (hlink : (Cond.methodLink own index y).before args s = true) (hinst : (Cond.instanceMethod y).before args s = true) (hsel : (Cond.selects C y y).before args s = true)
    (hcode : (Cond.code y bytes maxL ret).before args s = true) (hy : y.cls ≠ "java/lang/invoke/MethodHandle" ∧ y.cls ≠ "java/lang/invoke/VarHandle")
    {W9 : Nat} {Pre : Pt → Array Value → Prop} {Post : Pt → Array Value → Option Value → Pt → Prop} {PostX : Pt → Array Value → Addr → Pt → Prop} (hK : vx_Back l R p e below s args y 3 W9 Pre Post PostX)
    {b : Addr} {cellB : Cell} (hcell : T.heap[b]? = some cellB) (hobj : cellB.vm.isStatics = false) (hcls : s.vm.findClass C = some cellB.cls)
    {g : JFrame} (hg : g.method = m) (hsize : g.locals.size = c.maxLocals) {argsL rest : List Value} (hlen : ∀ sig, parseMethodDescriptor y.desc = some sig → argsL.length = sig.parameters.length)
    (hstack : g.stack = argsL.reverse ++ .ref b :: rest) (hW : 2 * g.monitorRoom + (rest.map fun v => v.category).sum ≤ W9) (hdg : decode c.code g.pc = .ok (.invokevirtual index, 3))
    (hpre : ∀ vm₁, s.WarmedH vm₁ → Pre ⟨T.setVm vm₁, locs, cells, slots⟩ (Value.ref b :: argsL).toArray) :
    (∃ (v : Option Value) (vm₁ : Vm) (B : Pt), s.WarmedH vm₁ ∧ Stand p l e R s m args below meth c B.U B.locs B.cells B.slots ∧ Post ⟨T.setVm vm₁, locs, cells, slots⟩ (Value.ref b :: argsL).toArray v B ∧
      ∀ target, Steps p.tables e below (B.U.setTop { g with pc := g.pc + 3, stack := v.toList ++ rest }) target → Steps p.tables e below (T.setTop g) target) ∨
    (∃ (q : Addr) (vm₁ : Vm) (B : Pt), s.WarmedH vm₁ ∧ Stand p l e R s m args below meth c B.U B.locs B.cells B.slots ∧ PostX ⟨T.setVm vm₁, locs, cells, slots⟩ (Value.ref b :: argsL).toArray q B ∧
      Steps p.tables e below (T.setTop g) ((B.U.setTop { g with stack := rest }).pushFrame (.throwing q))) := by
  obtain ⟨mk, methM, hnamed, hmethM, hstM, habM⟩ := Cond.instanceMethod_spec hinst
  obtain ⟨methM', cM, hmethM', -, -, -, -, -, -, hsigM⟩ := Cond.code_spec hnamed hcode
  cases hmethM.symm.trans hmethM'
  obtain ⟨c2, r2, m2, q1, q2, q3, q4, kP, hkP, hkPi⟩ := Cond.selects_spec hsel
  cases hcls.symm.trans q1
  cases (State.methodFound?_of_named hnamed hy).symm.trans q2
  cases hnamed.symm.trans q3
  have hselP : selectMethod e.platform s.vm cellB.cls mk = .method mk := by rw [Launch.admits_selectMethod X.admits]; exact q4
  obtain ⟨vm₁, X₁, hstep₁⟩ := X.invokevirtual hexec hown hlink hnamed hmethM hstM hkP hkPi hy (a := b) (cell := cellB) hcell
    (fun z h => by rw [h] at hobj; cases hobj) hselP hmethM habM hkP hkPi (g := g) hg (argsL := argsL) (rest := rest) (hlen _ hsigM) hstack hdg
  rcases hK m meth c ⟨T.setVm vm₁, locs, cells, slots⟩ { g with stack := rest } (.invokevirtual index) mk (Value.ref b :: argsL).toArray X₁ hg hsize hdg hW (X₁.named hnamed) (hpre vm₁ X₁.warmed) with ⟨v, B, X', hpost, hsteps⟩ | ⟨q, B, X', hpost, hsteps⟩
  · exact Or.inl ⟨v, vm₁, B, X₁.warmed, X', hpost, fun target h => hstep₁ _ fun acts => by rw [doInvoke_state]; exact hsteps.trans h⟩
  · exact Or.inr ⟨q, vm₁, B, X₁.warmed, X', hpost, hstep₁ _ fun acts => by rw [doInvoke_state]; exact hsteps⟩
theorem vx_callS (X : Stand p l e R s m args below meth c T locs cells slots) (hexec : p.tables.exec = Jvm.exec) {own : String} {index : Nat} {y : MethodName} {bytes : ByteArray} {maxL : Nat} {ret : Option FieldType}
    (hown : s.vm.findClass own = some m.cls) (hlink : (Cond.methodLink own index y).before args s = true) (hstat : (Cond.static y).before args s = true) (hinit : (Cond.initialized y.cls).before args s = true)
    (hcode : (Cond.code y bytes maxL ret).before args s = true) (hy : y.cls ≠ "java/lang/invoke/MethodHandle" ∧ y.cls ≠ "java/lang/invoke/VarHandle")
    {W9 : Nat} {Pre : Pt → Array Value → Prop} {Post : Pt → Array Value → Option Value → Pt → Prop} {PostX : Pt → Array Value → Addr → Pt → Prop} (hK : vx_Back l R p e below s args y 3 W9 Pre Post PostX)
    {g : JFrame} (hg : g.method = m) (hsize : g.locals.size = c.maxLocals) {argsL rest : List Value} (hlen : ∀ sig, parseMethodDescriptor y.desc = some sig → argsL.length = sig.parameters.length)
    (hstack : g.stack = argsL.reverse ++ rest) (hW : 2 * g.monitorRoom + (rest.map fun v => v.category).sum ≤ W9) (hdg : decode c.code g.pc = .ok (.invokestatic index, 3))
    (hpre : ∀ vm₁, s.WarmedH vm₁ → Pre ⟨T.setVm vm₁, locs, cells, slots⟩ argsL.toArray) :
    (∃ (v : Option Value) (vm₁ : Vm) (B : Pt), s.WarmedH vm₁ ∧ Stand p l e R s m args below meth c B.U B.locs B.cells B.slots ∧ Post ⟨T.setVm vm₁, locs, cells, slots⟩ argsL.toArray v B ∧
      ∀ target, Steps p.tables e below (B.U.setTop { g with pc := g.pc + 3, stack := v.toList ++ rest }) target → Steps p.tables e below (T.setTop g) target) ∨
    (∃ (q : Addr) (vm₁ : Vm) (B : Pt), s.WarmedH vm₁ ∧ Stand p l e R s m args below meth c B.U B.locs B.cells B.slots ∧ PostX ⟨T.setVm vm₁, locs, cells, slots⟩ argsL.toArray q B ∧
      Steps p.tables e below (T.setTop g) ((B.U.setTop { g with stack := rest }).pushFrame (.throwing q))) := by
  obtain ⟨mk, hnamed⟩ := Cond.code_named hcode
  obtain ⟨methM, cM, hmethM, -, -, -, -, -, -, hsigM⟩ := Cond.code_spec hnamed hcode
  have hstatic : methM.isStatic = true := Cond.static_spec hnamed hmethM hstat
  obtain ⟨kP, hkP, -⟩ := className_of_methodNamed hnamed
  have hinitP : kP.init = .initialized := Cond.initialized_spec (findClass_of_methodNamed hnamed) hkP hinit
  obtain ⟨vm₁, X₁, hstep₁⟩ := X.invokestatic hexec hown hlink hnamed hmethM hstatic hkP hinitP hy (g := g) hg (argsL := argsL) (rest := rest) (hlen _ hsigM) hstack hdg
  rcases hK m meth c ⟨T.setVm vm₁, locs, cells, slots⟩ { g with stack := rest } (.invokestatic index) mk argsL.toArray X₁ hg hsize hdg hW (X₁.named hnamed) (hpre vm₁ X₁.warmed) with ⟨v, B, X', hpost, hsteps⟩ | ⟨q, B, X', hpost, hsteps⟩
  · exact Or.inl ⟨v, vm₁, B, X₁.warmed, X', hpost, fun target h => hstep₁ _ fun acts => by rw [doInvoke_state]; exact hsteps.trans h⟩
  · exact Or.inr ⟨q, vm₁, B, X₁.warmed, X', hpost, hstep₁ _ fun acts => by rw [doInvoke_state]; exact hsteps⟩
end Calls
theorem vx_cls {s : State} {T : State} {vm₁ : Vm} {E : String} {k : ClassId} (hW : s.WarmedH vm₁) (h : (T.setVm vm₁).vm.findClass E = some k) : s.vm.findClass E = some k := by
  have h1 : vm₁.findClass E = some k := h
  rw [hW.alike.findClass] at h1
  exact h1
/-- the method's frame g, with q thrown over it -/
def vx_W (p : Program) (l : Launch) (e : Env) (R : Room) (s : State) (m : MethodId) (args : Array Value) (below : List Frame) (meth : Method) (c : Code) (H : Heap) (locs : List Loc) (cells slots : Nat) (Q : State → Prop) (g : JFrame) (q : Addr) : Prop :=
  ∀ T : State, T.heap = H → Stand p l e R s m args below meth c T locs cells slots → ∃ t, Steps p.tables e below ((T.setTop g).pushFrame (.throwing q)) t ∧ Q t
def vx_Run (p : Program) (l : Launch) (e : Env) (R : Room) (s : State) (m : MethodId) (args : Array Value) (below : List Frame) (meth : Method) (c : Code) (H : Heap) (locs : List Loc) (cells slots mc ms : Nat) (g : JFrame) (rest : List Value) (Qa : State → Outcome → State → Prop) (XC : String → State → State → Prop) (free : Addr → Prop) : Prop :=
  ∀ T : State, T.heap = H → Stand p l e R s m args below meth c T locs cells slots →
    (∃ (v : Option Value) (st₀ t T' : State) (L : List Loc), st₀.heap = H ∧ Stand p l e R s m args below meth c T' (locs ++ L) (cells + mc) (slots + ms) ∧ (∀ q ∈ L, free q.base) ∧ T'.heap = t.heap ∧ T'.vm = t.vm ∧ Qa st₀ (.returned v) t ∧
      Goes p e below T g T' { g with pc := g.pc + 3, stack := v.toList ++ rest }) ∨
    (∃ (q : Addr) (st₀ t T' : State) (L : List Loc) (E : String) (ce : Cell), st₀.heap = H ∧ Stand p l e R s m args below meth c T' (locs ++ L) (cells + mc) (slots + ms) ∧ (∀ z ∈ L, free z.base) ∧ T'.heap = t.heap ∧ T'.vm = t.vm ∧ XC E st₀ t ∧ t.heap[q]? = some ce ∧ ce.vm = .none ∧ s.vm.findClass E = some ce.cls ∧
      Steps p.tables e below (T.setTop g) ((T'.setTop { g with stack := rest }).pushFrame (.throwing q)))
def vx_X {S : Type} (px : S → Prop) (B : String → S → State → Prop) (A : Nat → Prop) : String → State → State → Prop := fun E st t => ∃ u : S, px u ∧ B E u t ∧ va_F A st t
section Runs
variable {p : Program} {l : Launch} {e : Env} {R : Room} {s : State} {m : MethodId} {args : Array Value} {below : List Frame} {meth : Method} {c : Code} {H : Heap} {locs : List Loc} {cells slots : Nat}
variable {y : MethodName} {bytes cc : ByteArray} {maxL nL mc ms n index : Nat} {ret : Option FieldType} {ws : List Cond} {rm : Room} {Pc : Array Value → State → Prop} {Qc : Array Value → State → Outcome → State → Prop} {XC : String → State → State → Prop} {free : Addr → Prop} {Ts : List Cond} {own C : String} {b : Addr} {As rest : List Value} {g : JFrame}
theorem vx_callBack (cb : CallB R s args own index y bytes maxL ret ws rm mc ms n) (hM : vx_Met l y ws rm Pc Qc XC mc ms free) (hbl : FrameBlind Pc) : vx_Back l R p e below s args y 3 8 (PreOf R mc ms Pc) (PostOf Qc mc ms free) (vx_Post XC mc ms free) := by
  obtain ⟨hrc, hrs, hfr, hlo, hws, hcw, -, hini, -⟩ := cb
  exact vx_back (bytes := bytes) (maxL := maxL) (ret := ret) hM hbl hrc hrs hfr hlo hws hcw (fun a' U hW => word_at hW (Or.inl (by first | rfl | simp [Cond.onTables, Cond.keeps, Cond.steady])) hini)
theorem vx_runV (S : CallFix p m c cc nL s args Ts own) (hM : vx_Met l y ws rm Pc Qc XC mc ms free) (cw : CallW R s args own C index y bytes maxL ret ws rm mc ms n) (hp : PreV s H C b Pc As)
    (hg : g.method = m) (hn : As.length = n) (hsize : g.locals.size = nL) (hstack : g.stack = As.reverse ++ .ref b :: rest) (hW : 2 * g.monitorRoom + (rest.map fun v => v.category).sum ≤ 8) (hdg : decode cc g.pc = .ok (.invokevirtual index, 3)) (hf : cells + mc ≤ R.cells ∧ slots + ms ≤ R.slots) :
    vx_Run p l e R s m args below meth c H locs cells slots mc ms g rest (Qc (Value.ref b :: As).toArray) XC free := by
  have hK : vx_Back l R p e below s args y 3 8 (PreOf R mc ms Pc) (PostOf Qc mc ms free) (vx_Post XC mc ms free) := vx_callBack cw.1 hM hp.1
  obtain ⟨⟨-, -, -, -, -, -, hcode, -, hy, hlen, hl⟩, hin, hse⟩ := cw
  obtain ⟨hx, hb, hml, ho, -⟩ := S
  obtain ⟨-, ⟨cellB, hcB, hoB, hclB⟩, hPc⟩ := hp
  intro T hT X
  rcases vx_callV X hx (C := C) (bytes := bytes) (maxL := maxL) (ret := ret) ho hl hin hse hcode hy hK (by rw [hT]; exact hcB) hoB hclB hg (hsize.trans hml.symm) (argsL := As) (rest := rest) (fun sig h => hn.trans (hlen sig h)) hstack hW (by rw [hb]; exact hdg)
    (fun vm₁ hW₁ => ⟨hf.1, hf.2, hPc (T.setVm vm₁) hT hW₁⟩) with ⟨v, vm₁, ⟨U', l2, c2, s2⟩, hW₁, X', ⟨g', mk, t, L, e1, e2, hq, h1, hL, h2, h3⟩, st⟩ | ⟨q, vm₁, ⟨U', l2, c2, s2⟩, hW₁, X', ⟨g', mk, t, L, E, ce, e1, e2, hq, hce, hcv, hcl, h1, hL, h2, h3⟩, st⟩
  · dsimp only [Pt.U, Pt.locs, Pt.cells, Pt.slots] at X' e1 e2 h1 h2 h3 st
    subst h1; subst h2; subst h3
    exact Or.inl ⟨v, (T.setVm vm₁).calling g' mk (Value.ref b :: As).toArray, t, U', L, hT, X', hL, e1, e2, hq, st⟩
  · dsimp only [Pt.U, Pt.locs, Pt.cells, Pt.slots] at X' e1 e2 h1 h2 h3 st hcl
    subst h1; subst h2; subst h3
    exact Or.inr ⟨q, (T.setVm vm₁).calling g' mk (Value.ref b :: As).toArray, t, U', L, E, ce, hT, X', hL, e1, e2, hq, hce, hcv, vx_cls hW₁ hcl, st⟩
theorem vx_runS (S : CallFix p m c cc nL s args Ts own) (hM : vx_Met l y ws rm Pc Qc XC mc ms free) (cw : CallB R s args own index y bytes maxL ret ws rm mc ms n ∧ (Cond.static y).before args s = true) (hp : PreS s H Pc As)
    (hg : g.method = m) (hn : As.length = n) (hsize : g.locals.size = nL) (hstack : g.stack = As.reverse ++ rest) (hW : 2 * g.monitorRoom + (rest.map fun v => v.category).sum ≤ 8) (hdg : decode cc g.pc = .ok (.invokestatic index, 3)) (hf : cells + mc ≤ R.cells ∧ slots + ms ≤ R.slots) :
    vx_Run p l e R s m args below meth c H locs cells slots mc ms g rest (Qc As.toArray) XC free := by
  have hK : vx_Back l R p e below s args y 3 8 (PreOf R mc ms Pc) (PostOf Qc mc ms free) (vx_Post XC mc ms free) := vx_callBack cw.1 hM hp.1
  obtain ⟨⟨-, -, -, -, -, -, hcode, hini, hy, hlen, hl⟩, hstt⟩ := cw
  obtain ⟨hx, hb, hml, ho, -⟩ := S
  intro T hT X
  rcases vx_callS X hx (bytes := bytes) (maxL := maxL) (ret := ret) ho hl hstt hini hcode hy hK hg (hsize.trans hml.symm) (argsL := As) (rest := rest) (fun sig h => hn.trans (hlen sig h)) hstack hW (by rw [hb]; exact hdg)
    (fun vm₁ hW₁ => ⟨hf.1, hf.2, hp.2 (T.setVm vm₁) hT hW₁⟩) with ⟨v, vm₁, ⟨U', l2, c2, s2⟩, hW₁, X', ⟨g', mk, t, L, e1, e2, hq, h1, hL, h2, h3⟩, st⟩ | ⟨q, vm₁, ⟨U', l2, c2, s2⟩, hW₁, X', ⟨g', mk, t, L, E, ce, e1, e2, hq, hce, hcv, hcl, h1, hL, h2, h3⟩, st⟩
  · dsimp only [Pt.U, Pt.locs, Pt.cells, Pt.slots] at X' e1 e2 h1 h2 h3 st
    subst h1; subst h2; subst h3
    exact Or.inl ⟨v, (T.setVm vm₁).calling g' mk As.toArray, t, U', L, hT, X', hL, e1, e2, hq, st⟩
  · dsimp only [Pt.U, Pt.locs, Pt.cells, Pt.slots] at X' e1 e2 h1 h2 h3 st hcl
    subst h1; subst h2; subst h3
    exact Or.inr ⟨q, (T.setVm vm₁).calling g' mk As.toArray, t, U', L, E, ce, hT, X', hL, e1, e2, hq, hce, hcv, vx_cls hW₁ hcl, st⟩
end Runs
section Rows
variable {p : Program} {l : Launch} {e : Env} {R : Room} {s : State} {m : MethodId} {args : Array Value} {below : List Frame} {meth : Method} {c : Code} {H : Heap} {locs : List Loc} {cells slots : Nat} {Q : State → Prop}
variable {mc ms : Nat} {free : Addr → Prop} {A0 A1 : Nat → Prop} {H0 : Heap} {a : Array Value} {pc : Nat} {ls : Array Slot} {st0 rest : List Value}
theorem vx_keep {st₀ t T' : State} {L : List Loc} (h0 : st₀.heap = H) (e1 : T'.heap = t.heap) (hS : va_S A0 H0 H locs) (hA : ∀ q, q < H.size → A1 q → A0 q) (hf : ∀ q, free q → A0 q) (hL : ∀ q ∈ L, free q.base) (hF : va_F A1 st₀ t) :
    H.size ≤ T'.heap.size ∧ (∀ q : Nat, q < H.size → ¬ A1 q → T'.heap[q]? = H[q]?) ∧ va_S A0 H0 T'.heap (locs ++ L) := by
  obtain ⟨hz, hk⟩ := hF
  rw [h0] at hz hk
  exact ⟨by rw [e1]; exact hz, fun q h1 h2 => by rw [e1]; exact hk q h1 h2,
    ⟨Nat.le_trans hS.1 (by rw [e1]; exact hz), fun q h1 h2 => by rw [e1, hk q (Nat.lt_of_lt_of_le h1 hS.1) (fun z => h2 (hA q (Nat.lt_of_lt_of_le h1 hS.1) z))]; exact hS.2.1 q h1 h2, fun q hq => by
      rcases List.mem_append.mp hq with h | h
      · exact hS.2.2 q h
      · exact hf _ (hL q h)⟩⟩
theorem vx_calli {S SX : Type} {post : Int32 → S → Prop} {px : SX → Prop} {B : S → State → Prop} {BX : String → SX → State → Prop} {AX : Nat → Prop} (hr : vx_Run p l e R s m args below meth c H locs cells slots mc ms (F0 m pc ls st0) rest (va_Qi post B A1 a) (vx_X px BX AX) free) (hS : va_S A0 H0 H locs) (hA : ∀ q, q < H.size → A1 q → A0 q) (hf : ∀ q, free q → A0 q) (hAX : ∀ q, q < H.size → AX q → A0 q)
    (kx : ∀ (E : String) (ce : Cell) (q9 : Addr) (u : SX) (t : State) (H1 : Heap) (locs1 : List Loc), t.heap = H1 → s.vm.Alike t.vm → px u → BX E u t → H.size ≤ H1.size → (∀ q : Nat, q < H.size → ¬ AX q → H1[q]? = H[q]?) → va_S A0 H0 H1 locs1 → H1[q9]? = some ce → ce.vm = .none → s.vm.findClass E = some ce.cls → vx_W p l e R s m args below meth c H1 locs1 (cells + mc) (slots + ms) Q (F0 m pc ls rest) q9)
    (kk : ∀ (r : Int32) (u : S) (t : State) (H1 : Heap) (locs1 : List Loc), t.heap = H1 → s.vm.Alike t.vm → post r u → B u t → H.size ≤ H1.size → (∀ q : Nat, q < H.size → ¬ A1 q → H1[q]? = H[q]?) → va_S A0 H0 H1 locs1 → W p l e R s m args below meth c H1 locs1 (cells + mc) (slots + ms) Q (F0 m (pc + 3) ls (.int r :: rest))) : W p l e R s m args below meth c H locs cells slots Q (F0 m pc ls st0) := by
  intro T hT X
  rcases hr T hT X with ⟨v, st₀, t, T', L, h0, X', hL, e1, e2, ⟨⟨r, u, hv, hp, hb⟩, hF⟩, st⟩ | ⟨q, st₀, t, T', L, E, ce, h0, X', hL, e1, e2, ⟨u, hp, hb, hF⟩, hce, hcv, hcl, st⟩
  · cases hv
    obtain ⟨k1, k2, k3⟩ := vx_keep h0 e1 hS hA hf hL hF
    obtain ⟨t2, a1, b1⟩ := kk r u t T'.heap (locs ++ L) e1.symm (by rw [← e2]; exact X'.warmed.alike) hp hb k1 k2 k3 T' rfl X'
    exact ⟨t2, st t2 a1, b1⟩
  · obtain ⟨k1, k2, k3⟩ := vx_keep h0 e1 hS hAX hf hL hF
    obtain ⟨t2, a1, b1⟩ := kx E ce q u t T'.heap (locs ++ L) e1.symm (by rw [← e2]; exact X'.warmed.alike) hp hb k1 k2 k3 (by rw [e1]; exact hce) hcv hcl T' rfl X'
    exact ⟨t2, st.trans a1, b1⟩
theorem vx_calll {S SX : Type} {post : Int64 → S → Prop} {px : SX → Prop} {B : S → State → Prop} {BX : String → SX → State → Prop} {AX : Nat → Prop} (hr : vx_Run p l e R s m args below meth c H locs cells slots mc ms (F0 m pc ls st0) rest (va_Ql post B A1 a) (vx_X px BX AX) free) (hS : va_S A0 H0 H locs) (hA : ∀ q, q < H.size → A1 q → A0 q) (hf : ∀ q, free q → A0 q) (hAX : ∀ q, q < H.size → AX q → A0 q)
    (kx : ∀ (E : String) (ce : Cell) (q9 : Addr) (u : SX) (t : State) (H1 : Heap) (locs1 : List Loc), t.heap = H1 → s.vm.Alike t.vm → px u → BX E u t → H.size ≤ H1.size → (∀ q : Nat, q < H.size → ¬ AX q → H1[q]? = H[q]?) → va_S A0 H0 H1 locs1 → H1[q9]? = some ce → ce.vm = .none → s.vm.findClass E = some ce.cls → vx_W p l e R s m args below meth c H1 locs1 (cells + mc) (slots + ms) Q (F0 m pc ls rest) q9)
    (kk : ∀ (r : Int64) (u : S) (t : State) (H1 : Heap) (locs1 : List Loc), t.heap = H1 → s.vm.Alike t.vm → post r u → B u t → H.size ≤ H1.size → (∀ q : Nat, q < H.size → ¬ A1 q → H1[q]? = H[q]?) → va_S A0 H0 H1 locs1 → W p l e R s m args below meth c H1 locs1 (cells + mc) (slots + ms) Q (F0 m (pc + 3) ls (.long r :: rest))) : W p l e R s m args below meth c H locs cells slots Q (F0 m pc ls st0) := by
  intro T hT X
  rcases hr T hT X with ⟨v, st₀, t, T', L, h0, X', hL, e1, e2, ⟨⟨r, u, hv, hp, hb⟩, hF⟩, st⟩ | ⟨q, st₀, t, T', L, E, ce, h0, X', hL, e1, e2, ⟨u, hp, hb, hF⟩, hce, hcv, hcl, st⟩
  · cases hv
    obtain ⟨k1, k2, k3⟩ := vx_keep h0 e1 hS hA hf hL hF
    obtain ⟨t2, a1, b1⟩ := kk r u t T'.heap (locs ++ L) e1.symm (by rw [← e2]; exact X'.warmed.alike) hp hb k1 k2 k3 T' rfl X'
    exact ⟨t2, st t2 a1, b1⟩
  · obtain ⟨k1, k2, k3⟩ := vx_keep h0 e1 hS hAX hf hL hF
    obtain ⟨t2, a1, b1⟩ := kx E ce q u t T'.heap (locs ++ L) e1.symm (by rw [← e2]; exact X'.warmed.alike) hp hb k1 k2 k3 (by rw [e1]; exact hce) hcv hcl T' rfl X'
    exact ⟨t2, st.trans a1, b1⟩
theorem vx_callf {S SX : Type} {post : UInt32 → S → Prop} {px : SX → Prop} {B : S → State → Prop} {BX : String → SX → State → Prop} {AX : Nat → Prop} (hr : vx_Run p l e R s m args below meth c H locs cells slots mc ms (F0 m pc ls st0) rest (va_Qf post B A1 a) (vx_X px BX AX) free) (hS : va_S A0 H0 H locs) (hA : ∀ q, q < H.size → A1 q → A0 q) (hf : ∀ q, free q → A0 q) (hAX : ∀ q, q < H.size → AX q → A0 q)
    (kx : ∀ (E : String) (ce : Cell) (q9 : Addr) (u : SX) (t : State) (H1 : Heap) (locs1 : List Loc), t.heap = H1 → s.vm.Alike t.vm → px u → BX E u t → H.size ≤ H1.size → (∀ q : Nat, q < H.size → ¬ AX q → H1[q]? = H[q]?) → va_S A0 H0 H1 locs1 → H1[q9]? = some ce → ce.vm = .none → s.vm.findClass E = some ce.cls → vx_W p l e R s m args below meth c H1 locs1 (cells + mc) (slots + ms) Q (F0 m pc ls rest) q9)
    (kk : ∀ (r : UInt32) (u : S) (t : State) (H1 : Heap) (locs1 : List Loc), t.heap = H1 → s.vm.Alike t.vm → post r u → B u t → H.size ≤ H1.size → (∀ q : Nat, q < H.size → ¬ A1 q → H1[q]? = H[q]?) → va_S A0 H0 H1 locs1 → W p l e R s m args below meth c H1 locs1 (cells + mc) (slots + ms) Q (F0 m (pc + 3) ls (.float r :: rest))) : W p l e R s m args below meth c H locs cells slots Q (F0 m pc ls st0) := by
  intro T hT X
  rcases hr T hT X with ⟨v, st₀, t, T', L, h0, X', hL, e1, e2, ⟨⟨r, u, hv, hp, hb⟩, hF⟩, st⟩ | ⟨q, st₀, t, T', L, E, ce, h0, X', hL, e1, e2, ⟨u, hp, hb, hF⟩, hce, hcv, hcl, st⟩
  · cases hv
    obtain ⟨k1, k2, k3⟩ := vx_keep h0 e1 hS hA hf hL hF
    obtain ⟨t2, a1, b1⟩ := kk r u t T'.heap (locs ++ L) e1.symm (by rw [← e2]; exact X'.warmed.alike) hp hb k1 k2 k3 T' rfl X'
    exact ⟨t2, st t2 a1, b1⟩
  · obtain ⟨k1, k2, k3⟩ := vx_keep h0 e1 hS hAX hf hL hF
    obtain ⟨t2, a1, b1⟩ := kx E ce q u t T'.heap (locs ++ L) e1.symm (by rw [← e2]; exact X'.warmed.alike) hp hb k1 k2 k3 (by rw [e1]; exact hce) hcv hcl T' rfl X'
    exact ⟨t2, st.trans a1, b1⟩
theorem vx_calld {S SX : Type} {post : UInt64 → S → Prop} {px : SX → Prop} {B : S → State → Prop} {BX : String → SX → State → Prop} {AX : Nat → Prop} (hr : vx_Run p l e R s m args below meth c H locs cells slots mc ms (F0 m pc ls st0) rest (va_Qd post B A1 a) (vx_X px BX AX) free) (hS : va_S A0 H0 H locs) (hA : ∀ q, q < H.size → A1 q → A0 q) (hf : ∀ q, free q → A0 q) (hAX : ∀ q, q < H.size → AX q → A0 q)
    (kx : ∀ (E : String) (ce : Cell) (q9 : Addr) (u : SX) (t : State) (H1 : Heap) (locs1 : List Loc), t.heap = H1 → s.vm.Alike t.vm → px u → BX E u t → H.size ≤ H1.size → (∀ q : Nat, q < H.size → ¬ AX q → H1[q]? = H[q]?) → va_S A0 H0 H1 locs1 → H1[q9]? = some ce → ce.vm = .none → s.vm.findClass E = some ce.cls → vx_W p l e R s m args below meth c H1 locs1 (cells + mc) (slots + ms) Q (F0 m pc ls rest) q9)
    (kk : ∀ (r : UInt64) (u : S) (t : State) (H1 : Heap) (locs1 : List Loc), t.heap = H1 → s.vm.Alike t.vm → post r u → B u t → H.size ≤ H1.size → (∀ q : Nat, q < H.size → ¬ A1 q → H1[q]? = H[q]?) → va_S A0 H0 H1 locs1 → W p l e R s m args below meth c H1 locs1 (cells + mc) (slots + ms) Q (F0 m (pc + 3) ls (.double r :: rest))) : W p l e R s m args below meth c H locs cells slots Q (F0 m pc ls st0) := by
  intro T hT X
  rcases hr T hT X with ⟨v, st₀, t, T', L, h0, X', hL, e1, e2, ⟨⟨r, u, hv, hp, hb⟩, hF⟩, st⟩ | ⟨q, st₀, t, T', L, E, ce, h0, X', hL, e1, e2, ⟨u, hp, hb, hF⟩, hce, hcv, hcl, st⟩
  · cases hv
    obtain ⟨k1, k2, k3⟩ := vx_keep h0 e1 hS hA hf hL hF
    obtain ⟨t2, a1, b1⟩ := kk r u t T'.heap (locs ++ L) e1.symm (by rw [← e2]; exact X'.warmed.alike) hp hb k1 k2 k3 T' rfl X'
    exact ⟨t2, st t2 a1, b1⟩
  · obtain ⟨k1, k2, k3⟩ := vx_keep h0 e1 hS hAX hf hL hF
    obtain ⟨t2, a1, b1⟩ := kx E ce q u t T'.heap (locs ++ L) e1.symm (by rw [← e2]; exact X'.warmed.alike) hp hb k1 k2 k3 (by rw [e1]; exact hce) hcv hcl T' rfl X'
    exact ⟨t2, st.trans a1, b1⟩
theorem vx_callv {S SX : Type} {post : S → Prop} {px : SX → Prop} {B : S → State → Prop} {BX : String → SX → State → Prop} {AX : Nat → Prop} (hr : vx_Run p l e R s m args below meth c H locs cells slots mc ms (F0 m pc ls st0) rest (va_Qv post B A1 a) (vx_X px BX AX) free) (hS : va_S A0 H0 H locs) (hA : ∀ q, q < H.size → A1 q → A0 q) (hf : ∀ q, free q → A0 q) (hAX : ∀ q, q < H.size → AX q → A0 q)
    (kx : ∀ (E : String) (ce : Cell) (q9 : Addr) (u : SX) (t : State) (H1 : Heap) (locs1 : List Loc), t.heap = H1 → s.vm.Alike t.vm → px u → BX E u t → H.size ≤ H1.size → (∀ q : Nat, q < H.size → ¬ AX q → H1[q]? = H[q]?) → va_S A0 H0 H1 locs1 → H1[q9]? = some ce → ce.vm = .none → s.vm.findClass E = some ce.cls → vx_W p l e R s m args below meth c H1 locs1 (cells + mc) (slots + ms) Q (F0 m pc ls rest) q9)
    (kk : ∀ (u : S) (t : State) (H1 : Heap) (locs1 : List Loc), t.heap = H1 → s.vm.Alike t.vm → post u → B u t → H.size ≤ H1.size → (∀ q : Nat, q < H.size → ¬ A1 q → H1[q]? = H[q]?) → va_S A0 H0 H1 locs1 → W p l e R s m args below meth c H1 locs1 (cells + mc) (slots + ms) Q (F0 m (pc + 3) ls (rest))) : W p l e R s m args below meth c H locs cells slots Q (F0 m pc ls st0) := by
  intro T hT X
  rcases hr T hT X with ⟨v, st₀, t, T', L, h0, X', hL, e1, e2, ⟨⟨u, hv, hp, hb⟩, hF⟩, st⟩ | ⟨q, st₀, t, T', L, E, ce, h0, X', hL, e1, e2, ⟨u, hp, hb, hF⟩, hce, hcv, hcl, st⟩
  · cases hv
    obtain ⟨k1, k2, k3⟩ := vx_keep h0 e1 hS hA hf hL hF
    obtain ⟨t2, a1, b1⟩ := kk u t T'.heap (locs ++ L) e1.symm (by rw [← e2]; exact X'.warmed.alike) hp hb k1 k2 k3 T' rfl X'
    exact ⟨t2, st t2 a1, b1⟩
  · obtain ⟨k1, k2, k3⟩ := vx_keep h0 e1 hS hAX hf hL hF
    obtain ⟨t2, a1, b1⟩ := kx E ce q u t T'.heap (locs ++ L) e1.symm (by rw [← e2]; exact X'.warmed.alike) hp hb k1 k2 k3 (by rw [e1]; exact hce) hcv hcl T' rfl X'
    exact ⟨t2, st.trans a1, b1⟩
/-- caught by the row x of this method's table; the rows ahead don't take it -/
theorem vx_catch {own name : String} {E : String} {ce : Cell} {q : Addr} (hown : s.vm.findClass own = some m.cls) (pre : List ExceptionTableEntry) (x : ExceptionTableEntry) (suf : List ExceptionTableEntry) (hsplit : c.exceptionTable.toList = pre ++ x :: suf)
    (hpass : ∀ z ∈ pre, covers z pc = false ∨ (z.catchType ≠ 0 ∧ ∃ nm : String, (Cond.classLink own z.catchType nm).before args s = true ∧ va_Nc E nm s)) (hx : covers x pc = true) (h0 : x.catchType ≠ 0)
    (hlink : (Cond.classLink own x.catchType name).before args s = true) (hcast : (Cond.castable E name).before args s = true) (hcell : H[q]? = some ce) (hv : ce.vm = .none) (hcl : s.vm.findClass E = some ce.cls)
    (kk : W p l e R s m args below meth c H locs cells slots Q (F0 m x.handlerPc ls [.ref q])) : vx_W p l e R s m args below meth c H locs cells slots Q (F0 m pc ls rest) q := by
  intro T hT X
  have hpl : e.platform.magicAccessors = ({} : Platform).magicAccessors := by rw [X.admits.platform]
  obtain ⟨c3, c4, hc3, hc4, hasg⟩ := Cond.castable_spec hcast
  cases Option.some.inj (hc3.symm.trans hcl)
  obtain ⟨c5, hc5, hcl5⟩ := Cond.classLink_spec hown hlink e.platform hpl
  cases Option.some.inj (hc4.symm.trans hc5)
  obtain ⟨vm', X', st⟩ := X.thenCaughtThrough q (g := F0 m pc ls rest) rfl (Steps.refl _) (by rw [hT]; exact hcell) (by rw [hv]; rfl) (by obtain ⟨k9, h9, -⟩ := Vm.findClass_spec hcl; exact ⟨k9, h9⟩) pre x suf hsplit
    (fun z hz => by
      rcases hpass z hz with h | ⟨hz0, nm, hl1, hn1⟩
      · exact Or.inl h
      · obtain ⟨c6, hc6, hcl6⟩ := Cond.classLink_spec hown hl1 e.platform hpl
        obtain ⟨a8, b8, h1, h2, h3⟩ := hn1
        cases Option.some.inj (h1.symm.trans hcl)
        cases Option.some.inj (h2.symm.trans hc6)
        exact Or.inr ⟨hz0, _, hcl6, h3⟩) hx (Or.inr ⟨h0, c4, hcl5, hasg⟩)
  obtain ⟨t, a1, b1⟩ := kk (T.setVm vm') hT X'
  exact ⟨t, st.trans a1, b1⟩
end Rows
section Ends
variable {p : Program} {l : Launch} {e : Env} {R : Room} {s : State} {m : MethodId} {args : Array Value} {below : List Frame} {meth : Method} {c : Code} {H : Heap} {locs : List Loc} {cells slots : Nat} {Q : State → Prop}
variable {mc ms : Nat} {free : Addr → Prop} {A0 A1 : Nat → Prop} {H0 : Heap} {a : Array Value} {ls : Array Slot} {st0 rest : List Value}
variable {Qc : Array Value → State → Outcome → State → Prop} {XC : String → State → State → Prop}
/-- what a body that may throw owes at its end -/
def vx_MQ (below : List Frame) (Qc : Array Value → State → Outcome → State → Prop) (XC : String → State → State → Prop) (a : Array Value) (s : State) (mc ms : Nat) (free : Addr → Prop) : State → Prop := fun t =>
  ∃ o, t.status = .running ∧ Ended t below o ∧ vx_Q Qc XC mc ms free a s o t
theorem vx_ret {g : JFrame} {mc ms : Nat} (k : W p l e R s m args below meth c H locs cells slots (MQ below Qc args s mc ms free) g) : W p l e R s m args below meth c H locs cells slots (vx_MQ below Qc XC args s mc ms free) g := by
  intro T hT X
  obtain ⟨t, a1, o, b1, b2, b3, b4⟩ := k T hT X
  exact ⟨t, a1, o, b1, b2, Or.inl ⟨b3, b4⟩⟩
/-- not caught here: it goes on to the caller -/
theorem vx_widen {g : JFrame} {q : Addr} {k n : Nat} (h1 : cells ≤ k) (h2 : slots ≤ n) (kk : vx_W p l e R s m args below meth c H locs k n Q g q) : vx_W p l e R s m args below meth c H locs cells slots Q g q := fun T hT X => kk T hT (stand_widen X h1 h2)
theorem vx_out {pc : Nat} {E : String} {ce : Cell} {q : Addr} {mc ms : Nat} (hout : ∀ x ∈ c.exceptionTable.toList, covers x pc = false) (hlocks : meth.locks = false) (hcell : H[q]? = some ce) (hv : ce.vm = .none) (hcl : s.vm.findClass E = some ce.cls)
    (hx : ∀ t : State, t.heap = H → s.vm.Alike t.vm → XC E s t) (hf : ∀ z ∈ locs, free z.base) (hc : cells ≤ mc) (hs : slots ≤ ms) :
    vx_W p l e R s m args below meth c H locs cells slots (vx_MQ below Qc XC args s mc ms free) (F0 m pc ls rest) q := by
  intro T hT X
  obtain ⟨st1, hrun, hend, hW, hsm⟩ := X.leaveThrown q (g := F0 m pc ls rest) rfl rfl rfl hout hlocks
  have hcell9 : (T.setFrames (.throwing q :: below)).heap[q]? = some ce := by
    show T.heap[q]? = some ce
    rw [hT]; exact hcell
  exact ⟨_, st1, .threw q, hrun, hend, Or.inr ⟨q, rfl, E, ce, locs, hx _ hT hW.alike, hcell9, hv, hcl, hW, hsm.mono hc hs, hf⟩⟩
theorem vx_frame {U : State} {k n : Nat} (h : s.sameButNew ({ U with vm := s.vm } : State) locs k n) : s.heap.size ≤ U.heap.size ∧ ∀ q : Nat, q < s.heap.size → (∀ z ∈ locs, z.base ≠ q) → U.heap[q]? = s.heap[q]? := by
  obtain ⟨-, h2, -, -, -, h6⟩ := h
  refine ⟨h2, fun q hq hz => ?_⟩
  obtain ⟨c9, e1, e2, e3, e4⟩ := h6 q _ (Array.getElem?_eq_getElem hq)
  have hs : c9.slots = (s.heap[q]).slots := Array.ext_getElem? fun i => e4 i fun hm => hz _ hm rfl
  have h9 : c9 = s.heap[q] := by
    rw [hs] at e2
    exact e2
  have e5 : U.heap[q]? = some c9 := e1
  rw [e5, h9, Array.getElem?_eq_getElem hq]
/-- the words of a throw but the four that speak of the heap -/
def vx_no (w : Cond) : Bool := decide (w ≠ .isRef (.static Bundle.tN "UNASSIGNED_STACK" Bundle.steD)) && decide (w ≠ .isRef (.static Bundle.tN "SUPPRESSED_SENTINEL" Bundle.listD)) && decide (w ≠ .laysStatic Bundle.tN "UNASSIGNED_STACK" Bundle.steD) && decide (w ≠ .laysStatic Bundle.tN "SUPPRESSED_SENTINEL" Bundle.listD)
def vx_at0 (own : String) (ic : Nat) (X : String) (names : List String) : List Cond := (Bundle.ownAtoms0 own ic X names).filter vx_no
def vx_atS (own : String) (ic : Nat) (X : String) (names : List String) : List Cond := (Bundle.ownAtoms own ic X names).filter vx_no
/-- a word that the tables alone decide, or a good one -/
def vx_ot (w : Cond) : Bool := w.onTables || goodWord w
theorem vx_ot_at {args a' : Array Value} {s U : State} {w : Cond} (hW : s.WarmedH U.vm) (hvm : s.vm = U.vm) (hg : vx_ot w = true) (h : w.before args s = true) : w.before a' U = true := by
  simp only [vx_ot, Bool.or_eq_true] at hg
  rcases hg with hg | hg
  · exact va_tabs hg hvm h
  · exact word_at hW (good_of_word hg) h
/-- a list's words: the good ones out of the method's own list, the others by premises of their own -/
theorem vx_hat {args : Array Value} {s : State} {L B : List Cond} (h1 : ∀ w ∈ L.filter goodWord, w.before args s = true) (h2 : ∀ w ∈ L.filter (fun w => !goodWord w), w ∈ B) (h3 : ∀ w ∈ B, w.before args s = true) : ∀ w ∈ L, w.before args s = true := by
  intro w hw
  by_cases g : goodWord w = true
  · exact h1 w (List.mem_filter.mpr ⟨hw, g⟩)
  · refine h3 w (h2 w (List.mem_filter.mpr ⟨hw, ?_⟩))
    show (!goodWord w) = true
    cases hgw : goodWord w
    · rfl
    · exact absurd hgw g
theorem vx_c {args : Array Value} {s : State} {w : Cond} {B : List Cond} (h : w.before args s = true) (t : ∀ w ∈ B, w.before args s = true) : ∀ w' ∈ w :: B, w'.before args s = true := fun w' h' => (List.mem_cons.mp h').elim (fun e => by rw [e]; exact h) (t w')
theorem vx_n {args : Array Value} {s : State} : ∀ w ∈ ([] : List Cond), w.before args s = true := fun _ h => nomatch h
theorem vx_own {args : Array Value} {s : State} {L : List Cond} (h1 : ∀ w ∈ L.filter vx_no, w.before args s = true)
    (hU : (Cond.isRef (.static Bundle.tN "UNASSIGNED_STACK" Bundle.steD)).before args s = true) (hN : (Cond.isRef (.static Bundle.tN "SUPPRESSED_SENTINEL" Bundle.listD)).before args s = true)
    (lU : (Cond.laysStatic Bundle.tN "UNASSIGNED_STACK" Bundle.steD).before args s = true) (lN : (Cond.laysStatic Bundle.tN "SUPPRESSED_SENTINEL" Bundle.listD).before args s = true) : ∀ w ∈ L, w.before args s = true := by
  intro w hw
  by_cases e1 : w = .isRef (.static Bundle.tN "UNASSIGNED_STACK" Bundle.steD)
  · rw [e1]; exact hU
  · by_cases e2 : w = .isRef (.static Bundle.tN "SUPPRESSED_SENTINEL" Bundle.listD)
    · rw [e2]; exact hN
    · by_cases e3 : w = .laysStatic Bundle.tN "UNASSIGNED_STACK" Bundle.steD
      · rw [e3]; exact lU
      · by_cases e4 : w = .laysStatic Bundle.tN "SUPPRESSED_SENTINEL" Bundle.listD
        · rw [e4]; exact lN
        · exact h1 w (List.mem_filter.mpr ⟨hw, by unfold vx_no; rw [decide_eq_true e1, decide_eq_true e2, decide_eq_true e3, decide_eq_true e4]; rfl⟩)
/-- where a static field lies, its class's statics cell in H -/
def vx_L (C n d : String) (A : Nat → Prop) (U : State) (H : Heap) : Prop := ∃ (c : ClassId) (k : Class) (i : Nat) (f : Field) (a : Nat) (cell : Cell), U.vm.findClass C = some c ∧ U.fieldFound? C n d = some (c, k, i, f) ∧ f.isStatic = true ∧ k.statics = some a ∧ H[a]? = some cell ∧ cell.vm.isStatics = true ∧ cell.cls = c ∧ f.slot < cell.slots.size ∧ k.staticTypes[f.slot]? = some f.type ∧ ¬ A a
theorem vx_L.moved {C n d : String} {A : Nat → Prop} {u U : State} {H : Heap} (hvm : u.vm.Alike U.vm) (h : vx_L C n d A u H) : vx_L C n d A U H := by
  obtain ⟨c, k, i, f, a, cell, h1, h2, h3, h4, h5, h6, h7, h8, h9, h10⟩ := h
  obtain ⟨k', hi', he⟩ := State.fieldFound?_setVm hvm h2
  exact ⟨c, k', i, f, a, cell, by rw [hvm.findClass]; exact h1, hi', h3, by rw [he]; exact h4, h5, h6, h7, h8, by rw [he]; exact h9, h10⟩
theorem vx_L.kept {C n d : String} {A : Nat → Prop} {U : State} {H H1 : Heap} (h : vx_L C n d A U H) (hq : ∀ a : Nat, a < H.size → ¬ A a → H1[a]? = H[a]?) : vx_L C n d A U H1 := by
  obtain ⟨c, k, i, f, a, cell, h1, h2, h3, h4, h5, h6, h7, h8, h9, h10⟩ := h
  exact ⟨c, k, i, f, a, cell, h1, h2, h3, h4, by rw [hq a (Array.getElem?_eq_some_iff.mp h5).1 h10]; exact h5, h6, h7, h8, h9, h10⟩
theorem vx_L.narrow {C n d : String} {A B : Nat → Prop} {U : State} {H : Heap} (h : vx_L C n d A U H) (hAB : ∀ q, B q → A q) : vx_L C n d B U H := by
  obtain ⟨c, k, i, f, a, cell, h1, h2, h3, h4, h5, h6, h7, h8, h9, h10⟩ := h
  exact ⟨c, k, i, f, a, cell, h1, h2, h3, h4, h5, h6, h7, h8, h9, fun z => h10 (hAB _ z)⟩
theorem vx_L.word {C n d : String} {A : Nat → Prop} {s : State} {args : Array Value} (h : vx_L C n d A s s.heap) : (Cond.laysStatic C n d).before args s = true := by
  obtain ⟨c, k, i, f, a, cell, h1, h2, h3, h4, h5, h6, h7, h8, h9, -⟩ := h
  show (Cond.laysStatic C n d).holds args s none s [] = true
  exact Cond.laysStatic_of h1 h2 h3 h4 h5 h6 h7 h8 h9
/-- .. and what it holds: null or some reference -/
def vx_Zq (C n d : String) (A : Nat → Prop) (U : State) (H : Heap) : Prop := va_Zq C n d A U H ∧ vx_L C n d A U H
theorem vx_Zq.moved {C n d : String} {A : Nat → Prop} {u U : State} {H : Heap} (hvm : u.vm.Alike U.vm) (h : vx_Zq C n d A u H) : vx_Zq C n d A U H := ⟨va_Zq.moved hvm h.1, vx_L.moved hvm h.2⟩
theorem vx_Zq.kept {C n d : String} {A : Nat → Prop} {U : State} {H H1 : Heap} (h : vx_Zq C n d A U H) (hq : ∀ a : Nat, a < H.size → ¬ A a → H1[a]? = H[a]?) : vx_Zq C n d A U H1 := ⟨va_Zq.kept h.1 hq, vx_L.kept h.2 hq⟩
theorem vx_Zq.narrow {C n d : String} {A B : Nat → Prop} {U : State} {H : Heap} (h : vx_Zq C n d A U H) (hAB : ∀ q, B q → A q) : vx_Zq C n d B U H := ⟨va_Zq.narrow h.1 hAB, vx_L.narrow h.2 hAB⟩
theorem vx_Zqof {args : Array Value} {s : State} {C n d : String} {A : Nat → Prop} (hl : (Cond.laysStatic C n d).before args s = true) (hini : (Cond.initialized C).before args s = true) (h : (Cond.isRef (.static C n d)).before args s = true) (hA : ∀ a : Nat, a < s.heap.size → ¬ A a) : vx_Zq C n d A s s.heap := by
  refine ⟨va_Zqof hl hini h hA, ?_⟩
  obtain ⟨c, k, i, f, a, cell, h1, h2, h3, h4, h5, h6, h7, h8, h9⟩ := Cond.laysStatic_spec hl
  exact ⟨c, k, i, f, a, cell, h1, h2, h3, h4, h5, h6, h7, h8, h9, hA a (Array.getElem?_eq_some_iff.mp h5).1⟩
theorem vx_isRef {C n d : String} {v : Value} {A : Nat → Prop} {s : State} {args : Array Value} (h : va_Z C n d v A s s.heap) (hv : v.isRef = true) : (Cond.isRef (.static C n d)).before args s = true := by
  obtain ⟨cf, kf, fi, f, a, cell, h1, h2, h3, h4, h5, h6, h7, -⟩ := h
  have he : (Term.static C n d).eval args s none [] s = some v := by
    simp [Term.eval, State.fieldNamed?, h1, h2, h4, h5, h6, h7]
  simp only [Cond.before, Cond.holds, Cond.value, he]
  cases v <;> simp_all [Value.isRef]
theorem vx_isRefq {C n d : String} {A : Nat → Prop} {s : State} {args : Array Value} (h : va_Zq C n d A s s.heap) : (Cond.isRef (.static C n d)).before args s = true := by
  rcases h with h | ⟨t, h⟩
  · exact vx_isRef h rfl
  · exact vx_isRef h rfl
/-- the same frame, seen from here: as if the method were called anew in this heap -/
theorem vx_rebase {T : State} (X : Stand p l e R s m args below meth c T locs cells slots) {R' : Room} (hf : R'.frames ≤ R.frames) (hl : R'.locals ≤ R.locals) (hc : cells + R'.cells ≤ R.cells) (hs : slots + R'.slots ≤ R.slots) :
    Stand p l e R' ((T.setVm s.vm).setFrames (.invoking m args :: below)) m args below meth c T [] 0 0 := by
  have htop : (T.setVm s.vm).topJava?.isSome := X.here.top
  have hF : ((T.setVm s.vm).setFrames (.invoking m args :: below)).frames = .invoking m args :: below := State.frames_setFrames _ (State.cur_lt_of_top htop)
  obtain ⟨g₀, hg0⟩ := Option.isSome_iff_exists.mp htop
  obtain ⟨r, hr⟩ := State.topJava?_eq_some.mp hg0
  have hl9 : e.platform.stackLimits (T.setVm s.vm).me = e.platform.stackLimits s.me := X.limits
  have hb9 : (T.setVm s.vm).me.stackBytes = s.me.stackBytes := X.bytes
  refine ⟨X.admits, X.cas, X.clock, hF, ?_, X.hears, X.method, X.code, X.here, X.tail, X.warmed, ?_, ?_, ?_⟩
  · have h := X.room
    have hU : ((T.setVm s.vm).setFrames (.invoking m args :: below)).localsInUse = s.localsInUse := by
      rw [State.localsInUse_invoking hF (meth := meth) (c := c) X.method X.code, State.localsInUse_invoking X.frames X.method X.code]
    simp only [State.hasRoom, Bool.and_eq_true, decide_eq_true_eq] at h ⊢
    obtain ⟨⟨⟨⟨h1, h2, h3, h4, h5, h6⟩, h7⟩, h8⟩, h9⟩ := h
    rw [X.frames, List.length_cons] at h2 h3
    have q1 := X.heapSize
    have q2 := X.used
    simp only [hF, hU, List.length_cons, State.stackLimits_setFrames, State.stackBytes_setFrames, hl9, hb9]
    refine ⟨⟨⟨⟨by omega, by omega, by omega, by omega, by omega, h6⟩, ?_⟩, ?_⟩, X.book⟩
    · show T.heap.size + R'.cells ≤ e.platform.maxCells
      omega
    · show T.slotsUsed + R'.slots ≤ e.platform.maxSlots
      omega
  · rw [State.stackLimits_setFrames]; rfl
  · rw [State.stackBytes_setFrames]; rfl
  · refine ⟨?_, Nat.le_refl _, Nat.le_refl _, ?_, ?_, fun a c9 h9 => ⟨c9, h9, rfl, rfl, fun _ _ => rfl⟩⟩
    · obtain ⟨t, ht, -⟩ := State.frames_cons hr
      show T.setVm s.vm = { ((T.setVm s.vm).setFrames (.invoking m args :: below)).setFrames (T.setVm s.vm).frames with heap := T.heap, slotsUsed := T.slotsUsed }
      rw [State.setFrames_setFrames, State.setFrames_self ht]
      rfl
    · show T.slotsUsed = T.slotsUsed + ((T.heap.toList.drop T.heap.size).map (·.slots.size)).sum
      rw [List.drop_eq_nil_of_le (Nat.le_of_eq Array.length_toList)]
      rfl
    · show ((T.heap.toList.drop T.heap.size).map (·.slots.size)).sum ≤ 0
      rw [List.drop_eq_nil_of_le (Nat.le_of_eq Array.length_toList)]
      exact Nat.le_refl _
/-- 'throw new E()': new; dup; invokespecial; athrow -/
theorem vx_throw0 {cc : ByteArray} {pc : Nat} (hexec : p.tables.exec = Jvm.exec) (hb : c.code = cc) (hl : l.stackTraces = false) {own cls : String} {names : List String} {ik ic mc ms : Nat} {A : Nat → Prop}
    (hown : s.vm.findClass own = some m.cls) (hcls : Bundle.fit cls = true) (hnames : ∀ n ∈ names, Bundle.fit n = true)
    (hk : (Cond.classLink own ik cls).before args s = true) (hini : (Cond.initialized cls).before args s = true) (hat : ∀ w ∈ vx_at0 own ic cls names, w.before args s = true)
    (hgood : ∀ w ∈ Cond.classLink own ik cls :: Cond.initialized cls :: vx_at0 own ic cls names, vx_ot w = true)
    (hU : vx_Zq Bundle.tN "UNASSIGNED_STACK" Bundle.steD A s s.heap) (hN : vx_Zq Bundle.tN "SUPPRESSED_SENTINEL" Bundle.listD A s s.heap) (hS : va_S A s.heap H locs) (hsize : ls.size = c.maxLocals)
    (d0 : decode cc pc = .ok (.new ik, 3)) (d3 : decode cc (pc + 3) = .ok (.dup, 1)) (d4 : decode cc (pc + 4) = .ok (.invokespecial ic, 3)) (d7 : decode cc (pc + 7) = .ok (.athrow, 1))
    (hout : ∀ x ∈ c.exceptionTable.toList, covers x (pc + 7) = false)
    (hRframes : names.length + 3 < R.frames) (hRlocals : (rest.map fun v => v.category).sum + (13 * (names.length + 1) + 42) ≤ R.locals) (hRcells : cells + 1 ≤ R.cells) (hRslots : slots + 6 ≤ R.slots) (hlocks : meth.locks = false)
    (hx : ∀ t : State, s.vm.Alike t.vm → H.size ≤ t.heap.size → (∀ q : Nat, q < H.size → t.heap[q]? = H[q]?) → XC cls s t)
    (hf : ∀ z ∈ locs, free z.base) (hc : cells + 1 ≤ mc) (hs : slots + 6 ≤ ms) :
    W p l e R s m args below meth c H locs cells slots (vx_MQ below Qc XC args s mc ms free) (F0 m pc ls rest) := by
  intro T hT X
  have htr : e.platform.stackTraces = false := (show e.platform.stackTraces = l.stackTraces by rw [X.admits.platform]).trans hl
  have Y := vx_rebase X (R' := { frames := R.frames, locals := R.locals, cells := 1, slots := 6 }) (Nat.le_refl _) (Nat.le_refl _) hRcells hRslots
  obtain ⟨s', hA⟩ : ∃ z, z = (T.setVm s.vm).setFrames (.invoking m args :: below) := ⟨_, rfl⟩
  rw [← hA] at Y
  have hvm : s'.vm = s.vm := by rw [hA]; rfl
  have hhp : s'.heap = H := by rw [hA]; exact hT
  have hW0 : s.WarmedH s'.vm := by rw [hvm]; exact State.WarmedH.refl s
  have hat' : ∀ w ∈ vx_at0 own ic cls names, w.before args s' = true := fun w hw => vx_ot_at hW0 hvm.symm (hgood w (List.mem_cons_of_mem _ (List.mem_cons_of_mem _ hw))) (hat w hw)
  have hk' : (Cond.classLink own ik cls).before args s' = true := vx_ot_at hW0 hvm.symm (hgood _ List.mem_cons_self) hk
  have hini' : (Cond.initialized cls).before args s' = true := vx_ot_at hW0 hvm.symm (hgood _ (List.mem_cons_of_mem _ List.mem_cons_self)) hini
  have hU' : vx_Zq Bundle.tN "UNASSIGNED_STACK" Bundle.steD A s' s'.heap := by rw [hhp]; exact vx_Zq.moved hW0.alike (hU.kept hS.2.1)
  have hN' : vx_Zq Bundle.tN "SUPPRESSED_SENTINEL" Bundle.listD A s' s'.heap := by rw [hhp]; exact vx_Zq.moved hW0.alike (hN.kept hS.2.1)
  have h : ∀ w ∈ Bundle.ownAtoms0 own ic cls names, w.before args s' = true := vx_own hat' (vx_isRefq hU'.1) (vx_isRefq hN'.1) hU'.2.word hN'.2.word
  have hown' : s'.vm.findClass own = some m.cls := by rw [hvm]; exact hown
  have hins : (Cond.instantiable cls 6).before args s' = true := h _ (by simp [Bundle.ownAtoms0])
  obtain ⟨vm₁, cX, kX, hfX, hkX, -, -, X₁, st1⟩ := Y.newCold hexec (own := own) (C := cls) (index := ik) (n := 6) hown' hk' hins hini'
    (g := F0 m pc ls rest) rfl (by rw [hb]; exact d0) (Nat.le_refl _) (Nat.le_refl _)
  generalize hT1 : (T.setVm vm₁).pushCell { cls := cX, slots := kX.instanceTypes.map defaultValue, vm := .none } = T1 at X₁ st1
  have hcat : (Value.ref T.heap.size).category = 1 := rfl
  have hcellA : T1.heap[T.heap.size]? = some (freshCell cX kX) := by rw [← hT1]; exact State.heap_pushCell_size _ _
  have d3' : decode c.code (pc + 3) = .ok (.dup, 1) := by rw [hb]; exact d3
  obtain ⟨U, hsteps, hrun, hend, hW, hsame, ce, hce, hO⟩ := X₁.ctorThrow0 hexec htr (own := own) (cls := cls) (names := names) (ic := ic) hown' hcls hnames h (fun x hx => nomatch hx) hfX hkX hcellA (by rw [hhp, hT]; exact Nat.le_refl _)
    (g := { method := m, pc := pc + 4, locals := ls, stack := .ref T.heap.size :: .ref T.heap.size :: rest, locked := none }) rfl hsize rfl rfl (rest := rest) rfl
    (by rw [hb]; exact d4) (by rw [hb]; exact d7) hout hRframes (by simp only [List.map_cons, List.sum_cons, hcat]; omega) hlocks
  obtain ⟨f1, f2⟩ := vx_frame hsame
  rw [hhp] at f1 f2
  have hWs : s.WarmedH U.vm := State.WarmedH.trans hW0 hW
  have hcl : s.vm.findClass cls = some ce.cls := by
    have h9 := hO.cls
    rw [hvm] at h9
    exact h9
  have hall : s.sameButNew ({ U with vm := s.vm } : State) locs mc ms := by
    subst hA
    obtain ⟨e1, e2⟩ := hsame
    rw [State.setFrames_setFrames] at e1
    have h2 : (T.setVm s.vm).sameButNew ({ U with vm := s.vm } : State) [] (0 + 1) (0 + 6) := ⟨e1, e2⟩
    have h3 := X.same.trans h2
    rw [List.append_nil] at h3
    exact h3.mono hc hs
  refine ⟨U, ?_, .threw T.heap.size, hrun, hend, Or.inr ⟨T.heap.size, rfl, cls, ce, locs, hx U hWs.alike f1 (fun q hq => f2 q hq (fun z hz => nomatch hz)), hce, hO.vm, hcl, hWs, hall, hf⟩⟩
  refine st1 _ ?_
  show Steps p.tables e below (T1.setTop { method := m, pc := pc + 3, locals := ls, stack := .ref T.heap.size :: rest, locked := none }) _
  jvm_step X₁.here [X₁.here.top, hexec, d3', Value.category]
  exact hsteps
/-- 'throw new E("text")': new; dup; ldc; invokespecial; athrow -/
theorem vx_throwS {cc : ByteArray} {pc : Nat} (hexec : p.tables.exec = Jvm.exec) (hb : c.code = cc) (hl : l.stackTraces = false) {own cls text : String} {names : List String} {ik is ic mc ms sa : Nat} {A : Nat → Prop}
    (hown : s.vm.findClass own = some m.cls) (hcls : Bundle.fit cls = true) (hnames : ∀ n ∈ names, Bundle.fit n = true)
    (hk : (Cond.classLink own ik cls).before args s = true) (hini : (Cond.initialized cls).before args s = true) (hstr : vk_R own is text sa s) (hat : ∀ w ∈ vx_atS own ic cls names, w.before args s = true)
    (hgood : ∀ w ∈ Cond.classLink own ik cls :: Cond.initialized cls :: vx_atS own ic cls names, vx_ot w = true)
    (hU : vx_Zq Bundle.tN "UNASSIGNED_STACK" Bundle.steD A s s.heap) (hN : vx_Zq Bundle.tN "SUPPRESSED_SENTINEL" Bundle.listD A s s.heap) (hS : va_S A s.heap H locs) (hsize : ls.size = c.maxLocals)
    (d0 : decode cc pc = .ok (.new ik, 3)) (d3 : decode cc (pc + 3) = .ok (.dup, 1)) (d4 : decode cc (pc + 4) = .ok (.ldc is, 2)) (d6 : decode cc (pc + 6) = .ok (.invokespecial ic, 3)) (d9 : decode cc (pc + 9) = .ok (.athrow, 1))
    (hout : ∀ x ∈ c.exceptionTable.toList, covers x (pc + 9) = false)
    (hRframes : names.length + 3 < R.frames) (hRlocals : (rest.map fun v => v.category).sum + (13 * (names.length + 1) + 43) ≤ R.locals) (hRcells : cells + 1 ≤ R.cells) (hRslots : slots + 6 ≤ R.slots) (hlocks : meth.locks = false)
    (hx : ∀ t : State, s.vm.Alike t.vm → H.size ≤ t.heap.size → (∀ q : Nat, q < H.size → t.heap[q]? = H[q]?) → XC cls s t)
    (hf : ∀ z ∈ locs, free z.base) (hc : cells + 1 ≤ mc) (hs : slots + 6 ≤ ms) :
    W p l e R s m args below meth c H locs cells slots (vx_MQ below Qc XC args s mc ms free) (F0 m pc ls rest) := by
  intro T hT X
  have htr : e.platform.stackTraces = false := (show e.platform.stackTraces = l.stackTraces by rw [X.admits.platform]).trans hl
  have Y := vx_rebase X (R' := { frames := R.frames, locals := R.locals, cells := 1, slots := 6 }) (Nat.le_refl _) (Nat.le_refl _) hRcells hRslots
  obtain ⟨s', hA⟩ : ∃ z, z = (T.setVm s.vm).setFrames (.invoking m args :: below) := ⟨_, rfl⟩
  rw [← hA] at Y
  have hvm : s'.vm = s.vm := by rw [hA]; rfl
  have hhp : s'.heap = H := by rw [hA]; exact hT
  have hW0 : s.WarmedH s'.vm := by rw [hvm]; exact State.WarmedH.refl s
  have hat' : ∀ w ∈ vx_atS own ic cls names, w.before args s' = true := fun w hw => vx_ot_at hW0 hvm.symm (hgood w (List.mem_cons_of_mem _ (List.mem_cons_of_mem _ hw))) (hat w hw)
  have hk' : (Cond.classLink own ik cls).before args s' = true := vx_ot_at hW0 hvm.symm (hgood _ List.mem_cons_self) hk
  have hini' : (Cond.initialized cls).before args s' = true := vx_ot_at hW0 hvm.symm (hgood _ (List.mem_cons_of_mem _ List.mem_cons_self)) hini
  have hU' : vx_Zq Bundle.tN "UNASSIGNED_STACK" Bundle.steD A s' s'.heap := by rw [hhp]; exact vx_Zq.moved hW0.alike (hU.kept hS.2.1)
  have hN' : vx_Zq Bundle.tN "SUPPRESSED_SENTINEL" Bundle.listD A s' s'.heap := by rw [hhp]; exact vx_Zq.moved hW0.alike (hN.kept hS.2.1)
  have h : ∀ w ∈ Bundle.ownAtoms own ic cls names, w.before args s' = true := vx_own hat' (vx_isRefq hU'.1) (vx_isRefq hN'.1) hU'.2.word hN'.2.word
  have hown' : s'.vm.findClass own = some m.cls := by rw [hvm]; exact hown
  have hins : (Cond.instantiable cls 6).before args s' = true := h _ (by simp [Bundle.ownAtoms])
  obtain ⟨vm₁, cX, kX, hfX, hkX, -, -, X₁, st1⟩ := Y.newCold hexec (own := own) (C := cls) (index := ik) (n := 6) hown' hk' hins hini'
    (g := F0 m pc ls rest) rfl (by rw [hb]; exact d0) (Nat.le_refl _) (Nat.le_refl _)
  generalize hT1 : (T.setVm vm₁).pushCell { cls := cX, slots := kX.instanceTypes.map defaultValue, vm := .none } = T1 at X₁ st1
  have hcat : (Value.ref T.heap.size).category = 1 := rfl
  have hcellA : T1.heap[T.heap.size]? = some (freshCell cX kX) := by rw [← hT1]; exact State.heap_pushCell_size _ _
  have d3' : decode c.code (pc + 3) = .ok (.dup, 1) := by rw [hb]; exact d3
  have d4' : decode c.code (pc + 4) = .ok (.ldc is, 2) := by rw [hb]; exact d4
  have hstr' : vk_R own is text sa s' := vk_R.warm hW0 hstr
  obtain ⟨U, hsteps, hrun, hend, hW, hsame, ce, hce, hO⟩ := X₁.ctorThrowS hexec htr (own := own) (cls := cls) (names := names) (ic := ic) hown' hcls hnames h (fun x hx => nomatch hx) hfX hkX hcellA (by rw [hhp, hT]; exact Nat.le_refl _) (msg := .ref sa) rfl
    (g := { method := m, pc := pc + 6, locals := ls, stack := .ref sa :: .ref T.heap.size :: .ref T.heap.size :: rest, locked := none }) rfl hsize rfl rfl (rest := rest) rfl
    (by rw [hb]; exact d6) (by rw [hb]; exact d9) hout hRframes (by simp only [List.map_cons, List.sum_cons, hcat]; omega) hlocks
  obtain ⟨f1, f2⟩ := vx_frame hsame
  rw [hhp] at f1 f2
  have hWs : s.WarmedH U.vm := State.WarmedH.trans hW0 hW
  have hcl : s.vm.findClass cls = some ce.cls := by
    have h9 := hO.cls
    rw [hvm] at h9
    exact h9
  have hall : s.sameButNew ({ U with vm := s.vm } : State) locs mc ms := by
    subst hA
    obtain ⟨e1, e2⟩ := hsame
    rw [State.setFrames_setFrames] at e1
    have h2 : (T.setVm s.vm).sameButNew ({ U with vm := s.vm } : State) [] (0 + 1) (0 + 6) := ⟨e1, e2⟩
    have h3 := X.same.trans h2
    rw [List.append_nil] at h3
    exact h3.mono hc hs
  refine ⟨U, ?_, .threw T.heap.size, hrun, hend, Or.inr ⟨T.heap.size, rfl, cls, ce, locs, hx U hWs.alike f1 (fun q hq => f2 q hq (fun z hz => nomatch hz)), hce, hO.vm, hcl, hWs, hall, hf⟩⟩
  refine st1 _ ?_
  show Steps p.tables e below (T1.setTop { method := m, pc := pc + 3, locals := ls, stack := .ref T.heap.size :: rest, locked := none }) _
  jvm_step X₁.here [X₁.here.top, hexec, d3', Value.category]
  exact X₁.ldcString hexec (own := own) (text := text) (index := is) (a := sa) hown' hstr'.1 hstr'.2
    (g := { method := m, pc := pc + 4, locals := ls, stack := .ref T.heap.size :: .ref T.heap.size :: rest, locked := none }) rfl d4' _ hsteps
/-- 'throw new E("text")', the text by a wide index -/
theorem vx_throwSW {cc : ByteArray} {pc : Nat} (hexec : p.tables.exec = Jvm.exec) (hb : c.code = cc) (hl : l.stackTraces = false) {own cls text : String} {names : List String} {ik is ic mc ms sa : Nat} {A : Nat → Prop}
    (hown : s.vm.findClass own = some m.cls) (hcls : Bundle.fit cls = true) (hnames : ∀ n ∈ names, Bundle.fit n = true)
    (hk : (Cond.classLink own ik cls).before args s = true) (hini : (Cond.initialized cls).before args s = true) (hstr : vk_R own is text sa s) (hat : ∀ w ∈ vx_atS own ic cls names, w.before args s = true)
    (hgood : ∀ w ∈ Cond.classLink own ik cls :: Cond.initialized cls :: vx_atS own ic cls names, vx_ot w = true)
    (hU : vx_Zq Bundle.tN "UNASSIGNED_STACK" Bundle.steD A s s.heap) (hN : vx_Zq Bundle.tN "SUPPRESSED_SENTINEL" Bundle.listD A s s.heap) (hS : va_S A s.heap H locs) (hsize : ls.size = c.maxLocals)
    (d0 : decode cc pc = .ok (.new ik, 3)) (d3 : decode cc (pc + 3) = .ok (.dup, 1)) (d4 : decode cc (pc + 4) = .ok (.ldc_w is, 3)) (d7 : decode cc (pc + 7) = .ok (.invokespecial ic, 3)) (d10 : decode cc (pc + 10) = .ok (.athrow, 1))
    (hout : ∀ x ∈ c.exceptionTable.toList, covers x (pc + 10) = false)
    (hRframes : names.length + 3 < R.frames) (hRlocals : (rest.map fun v => v.category).sum + (13 * (names.length + 1) + 43) ≤ R.locals) (hRcells : cells + 1 ≤ R.cells) (hRslots : slots + 6 ≤ R.slots) (hlocks : meth.locks = false)
    (hx : ∀ t : State, s.vm.Alike t.vm → H.size ≤ t.heap.size → (∀ q : Nat, q < H.size → t.heap[q]? = H[q]?) → XC cls s t)
    (hf : ∀ z ∈ locs, free z.base) (hc : cells + 1 ≤ mc) (hs : slots + 6 ≤ ms) :
    W p l e R s m args below meth c H locs cells slots (vx_MQ below Qc XC args s mc ms free) (F0 m pc ls rest) := by
  intro T hT X
  have htr : e.platform.stackTraces = false := (show e.platform.stackTraces = l.stackTraces by rw [X.admits.platform]).trans hl
  have Y := vx_rebase X (R' := { frames := R.frames, locals := R.locals, cells := 1, slots := 6 }) (Nat.le_refl _) (Nat.le_refl _) hRcells hRslots
  obtain ⟨s', hA⟩ : ∃ z, z = (T.setVm s.vm).setFrames (.invoking m args :: below) := ⟨_, rfl⟩
  rw [← hA] at Y
  have hvm : s'.vm = s.vm := by rw [hA]; rfl
  have hhp : s'.heap = H := by rw [hA]; exact hT
  have hW0 : s.WarmedH s'.vm := by rw [hvm]; exact State.WarmedH.refl s
  have hat' : ∀ w ∈ vx_atS own ic cls names, w.before args s' = true := fun w hw => vx_ot_at hW0 hvm.symm (hgood w (List.mem_cons_of_mem _ (List.mem_cons_of_mem _ hw))) (hat w hw)
  have hk' : (Cond.classLink own ik cls).before args s' = true := vx_ot_at hW0 hvm.symm (hgood _ List.mem_cons_self) hk
  have hini' : (Cond.initialized cls).before args s' = true := vx_ot_at hW0 hvm.symm (hgood _ (List.mem_cons_of_mem _ List.mem_cons_self)) hini
  have hU' : vx_Zq Bundle.tN "UNASSIGNED_STACK" Bundle.steD A s' s'.heap := by rw [hhp]; exact vx_Zq.moved hW0.alike (hU.kept hS.2.1)
  have hN' : vx_Zq Bundle.tN "SUPPRESSED_SENTINEL" Bundle.listD A s' s'.heap := by rw [hhp]; exact vx_Zq.moved hW0.alike (hN.kept hS.2.1)
  have h : ∀ w ∈ Bundle.ownAtoms own ic cls names, w.before args s' = true := vx_own hat' (vx_isRefq hU'.1) (vx_isRefq hN'.1) hU'.2.word hN'.2.word
  have hown' : s'.vm.findClass own = some m.cls := by rw [hvm]; exact hown
  have hins : (Cond.instantiable cls 6).before args s' = true := h _ (by simp [Bundle.ownAtoms])
  obtain ⟨vm₁, cX, kX, hfX, hkX, -, -, X₁, st1⟩ := Y.newCold hexec (own := own) (C := cls) (index := ik) (n := 6) hown' hk' hins hini'
    (g := F0 m pc ls rest) rfl (by rw [hb]; exact d0) (Nat.le_refl _) (Nat.le_refl _)
  generalize hT1 : (T.setVm vm₁).pushCell { cls := cX, slots := kX.instanceTypes.map defaultValue, vm := .none } = T1 at X₁ st1
  have hcat : (Value.ref T.heap.size).category = 1 := rfl
  have hcellA : T1.heap[T.heap.size]? = some (freshCell cX kX) := by rw [← hT1]; exact State.heap_pushCell_size _ _
  have d3' : decode c.code (pc + 3) = .ok (.dup, 1) := by rw [hb]; exact d3
  have d4' : decode c.code (pc + 4) = .ok (.ldc_w is, 3) := by rw [hb]; exact d4
  have hstr' : vk_R own is text sa s' := vk_R.warm hW0 hstr
  obtain ⟨U, hsteps, hrun, hend, hW, hsame, ce, hce, hO⟩ := X₁.ctorThrowS hexec htr (own := own) (cls := cls) (names := names) (ic := ic) hown' hcls hnames h (fun x hx => nomatch hx) hfX hkX hcellA (by rw [hhp, hT]; exact Nat.le_refl _) (msg := .ref sa) rfl
    (g := { method := m, pc := pc + 7, locals := ls, stack := .ref sa :: .ref T.heap.size :: .ref T.heap.size :: rest, locked := none }) rfl hsize rfl rfl (rest := rest) rfl
    (by rw [hb]; exact d7) (by rw [hb]; exact d10) hout hRframes (by simp only [List.map_cons, List.sum_cons, hcat]; omega) hlocks
  obtain ⟨f1, f2⟩ := vx_frame hsame
  rw [hhp] at f1 f2
  have hWs : s.WarmedH U.vm := State.WarmedH.trans hW0 hW
  have hcl : s.vm.findClass cls = some ce.cls := by
    have h9 := hO.cls
    rw [hvm] at h9
    exact h9
  have hall : s.sameButNew ({ U with vm := s.vm } : State) locs mc ms := by
    subst hA
    obtain ⟨e1, e2⟩ := hsame
    rw [State.setFrames_setFrames] at e1
    have h2 : (T.setVm s.vm).sameButNew ({ U with vm := s.vm } : State) [] (0 + 1) (0 + 6) := ⟨e1, e2⟩
    have h3 := X.same.trans h2
    rw [List.append_nil] at h3
    exact h3.mono hc hs
  refine ⟨U, ?_, .threw T.heap.size, hrun, hend, Or.inr ⟨T.heap.size, rfl, cls, ce, locs, hx U hWs.alike f1 (fun q hq => f2 q hq (fun z hz => nomatch hz)), hce, hO.vm, hcl, hWs, hall, hf⟩⟩
  refine st1 _ ?_
  show Steps p.tables e below (T1.setTop { method := m, pc := pc + 3, locals := ls, stack := .ref T.heap.size :: rest, locked := none }) _
  jvm_step X₁.here [X₁.here.top, hexec, d3', Value.category]
  exact X₁.ldcStringW hexec (own := own) (text := text) (index := is) (a := sa) hown' hstr'.1 hstr'.2
    (g := { method := m, pc := pc + 4, locals := ls, stack := .ref T.heap.size :: .ref T.heap.size :: rest, locked := none }) rfl d4' _ hsteps
end Ends
section Bodies
variable {l : Launch}
theorem vx_ofW {y : MethodName} {ws ws' : List Cond} {rm : Room} {Pc : Array Value → State → Prop} {Qc : Array Value → State → Outcome → State → Prop} {XC : String → State → State → Prop} {mc ms : Nat} {free : Addr → Prop} {cc : ByteArray} {maxL : Nat} {ret : Option FieldType}
    (hy : plainName y.cls = true) (hw : ws = Cond.code y cc maxL ret :: ws')
    (body : ∀ p e s m args below meth c s₁, BodyLoose p l y (headSpec ws rm) cc maxL ret e s m args below meth c s₁ → c.maxLocals = maxL → (∀ x ∈ c.exceptionTable.toList, False) → Pc args s →
      W p l e (headSpec ws rm).room s m args below meth c s.heap [] 0 0 (vx_MQ below Qc XC args s mc ms free) (entryFrame m args maxL)) : vx_Met l y ws rm Pc Qc XC mc ms free := by
  refine MetFree.of_bodyS (code := cc) (maxLocals := maxL) (ret := ret) hy ?_ ?_
  · intro args s m h hn
    obtain ⟨meth, c, h1, h2, h3, h4, h5, h6, -, -⟩ := Cond.code_spec hn (atoms_spec (ws := ws) h _ (by rw [hw]; exact List.mem_cons_self))
    exact ⟨meth, c, h1, h2, h3, h4, h5, h6⟩
  · intro p e s m args below meth c s₁ B hml hP _
    have hh0 : s₁.heap = s.heap := by rw [B.state]; rfl
    have ht : ∀ x ∈ c.exceptionTable.toList, False := by
      obtain ⟨meth9, c9, h1, h2, -, -, -, -, h7, -⟩ := Cond.code_spec B.named (atoms_spec (ws := ws) B.pre _ (by rw [hw]; exact List.mem_cons_self))
      cases Option.some.inj (h1.symm.trans B.method)
      cases Option.some.inj (h2.symm.trans (Stand.of_body B).code)
      intro x hx
      rw [Array.isEmpty_iff.mp h7] at hx
      cases hx
    obtain ⟨t, a1, o, b1, b2, b3⟩ := body p e s m args below meth c s₁ B hml ht hP s₁ hh0 (Stand.of_body B)
    exact ⟨t, o, a1, b1, b2, b3⟩
/-- the table of a body with handlers -/
theorem vx_table {p : Program} {x y : MethodName} {S : Spec} {cc bytes : ByteArray} {maxL maxL' : Nat} {ret ret' : Option FieldType} {e : Env} {s s₁ : State} {m : MethodId} {args : Array Value} {below : List Frame} {meth : Method} {c : Code} {hh : List (Nat × Nat × Nat × Nat)}
    (B : BodyLoose p l y S cc maxL ret e s m args below meth c s₁) (h : (Cond.codeWith y bytes maxL' ret' hh).before args s = true) : c.exceptionTable.toList = tableOf hh := by
  obtain ⟨m9, meth9, c9, hn9, h1, h2, -, -, h6, -⟩ := Cond.codeWith_spec h
  cases Option.some.inj (hn9.symm.trans B.named)
  cases Option.some.inj (h1.symm.trans B.method)
  cases Option.some.inj (h2.symm.trans (Stand.of_body B).code)
  rw [← h6, table_eq]
end Bodies
end VXA
/-! ===== END ===== -/
/-! ===== BEGIN a static call of a method with an exception table ===== -/
section VXS
variable {p : Program} {l : Launch} {e : Env} {R : Room} {s : State} {m : MethodId} {args : Array Value} {below : List Frame} {meth : Method} {c : Code} {T : State} {H : Heap} {locs : List Loc} {cells slots : Nat}
abbrev vx_CSW (R : Room) (s : State) (args : Array Value) (own : String) (index : Nat) (y : MethodName) (bytes : ByteArray) (maxL : Nat) (ret : Option FieldType) (hh : List (Nat × Nat × Nat × Nat)) (ws : List Cond) (rm : Room) (mc ms n : Nat) : Prop :=
  (rm.cells = mc ∧ rm.slots = ms ∧ rm.frames + 1 ≤ R.frames ∧ 8 + (maxL + 11) + rm.locals ≤ R.locals ∧ (∀ w ∈ ws, ∀ (a' : Array Value) (U : State), s.WarmedH U.vm → w.before a' U = true) ∧ Cond.codeWith y bytes maxL ret hh ∈ ws) ∧
  (Cond.codeWith y bytes maxL ret hh).before args s = true ∧ (Cond.initialized y.cls).before args s = true ∧ (y.cls ≠ "java/lang/invoke/MethodHandle" ∧ y.cls ≠ "java/lang/invoke/VarHandle") ∧
  (∀ sig, parseMethodDescriptor y.desc = some sig → n = sig.parameters.length) ∧ (Cond.methodLink own index y).before args s = true ∧ (Cond.static y).before args s = true
theorem vx_cwSW {own : String} {index maxL mc ms : Nat} {y : MethodName} {bytes : ByteArray} {ret : Option FieldType} {hh : List (Nat × Nat × Nat × Nat)} {Ts ws ws' : List Cond} {rm : Room} (n : Nat) (ht : ∀ w ∈ Ts, w.before args s = true) (hT : GoodIn Ts (va_wsS own index y ws)) (hw : ws = Cond.codeWith y bytes maxL ret hh :: ws') (hrc : rm.cells = mc) (hrs : rm.slots = ms)
    (hd : y.cls ≠ "java/lang/invoke/MethodHandle" ∧ y.cls ≠ "java/lang/invoke/VarHandle" ∧ (parseMethodDescriptor y.desc).map (fun d => d.parameters.length) = some n) (hR : rm.frames + 1 ≤ R.frames ∧ 8 + (maxL + 11) + rm.locals ≤ R.locals) :
    vx_CSW R s args own index y bytes maxL ret hh ws rm mc ms n := by
  have ok : ∀ w ∈ va_wsS own index y ws, w.before args s = true := fun w h => ht w (hT w h).1
  have hG : GoodIn Ts ws := fun w h => hT w (by unfold va_wsS; exact List.mem_append_right _ h)
  have hc : Cond.codeWith y bytes maxL ret hh ∈ ws := by rw [hw]; exact List.mem_cons_self
  refine ⟨⟨hrc, hrs, hR.1, hR.2, pay_in ht hG, hc⟩, ht _ (hG _ hc).1, ok _ (by simp [va_wsS]), ⟨hd.1, hd.2.1⟩, fun sig h => ?_, ok _ (by simp [va_wsS]), ok _ (by simp [va_wsS])⟩
  have h2 := hd.2.2
  rw [h] at h2
  exact (Option.some.inj h2).symm
theorem vx_callSW (X : Stand p l e R s m args below meth c T locs cells slots) (hexec : p.tables.exec = Jvm.exec) {own : String} {index : Nat} {y : MethodName} {bytes : ByteArray} {maxL : Nat} {ret : Option FieldType} {hh : List (Nat × Nat × Nat × Nat)}
    (hown : s.vm.findClass own = some m.cls) (hlink : (Cond.methodLink own index y).before args s = true) (hstat : (Cond.static y).before args s = true) (hinit : (Cond.initialized y.cls).before args s = true)
    (hcode : (Cond.codeWith y bytes maxL ret hh).before args s = true) (hy : y.cls ≠ "java/lang/invoke/MethodHandle" ∧ y.cls ≠ "java/lang/invoke/VarHandle")
    {W9 : Nat} {Pre : Pt → Array Value → Prop} {Post : Pt → Array Value → Option Value → Pt → Prop} (hK : Back l R p e below s args y 3 W9 Pre Post)
    {g : JFrame} (hg : g.method = m) (hsize : g.locals.size = c.maxLocals) {argsL rest : List Value} (hlen : ∀ sig, parseMethodDescriptor y.desc = some sig → argsL.length = sig.parameters.length)
    (hstack : g.stack = argsL.reverse ++ rest) (hW : 2 * g.monitorRoom + (rest.map fun v => v.category).sum ≤ W9) (hdg : decode c.code g.pc = .ok (.invokestatic index, 3))
    (hpre : ∀ vm₁, s.WarmedH vm₁ → Pre ⟨T.setVm vm₁, locs, cells, slots⟩ argsL.toArray) :
    ∃ (v : Option Value) (vm₁ : Vm) (B : Pt), s.WarmedH vm₁ ∧ Stand p l e R s m args below meth c B.U B.locs B.cells B.slots ∧ Post ⟨T.setVm vm₁, locs, cells, slots⟩ argsL.toArray v B ∧
      ∀ target, Steps p.tables e below (B.U.setTop { g with pc := g.pc + 3, stack := v.toList ++ rest }) target → Steps p.tables e below (T.setTop g) target := by
  obtain ⟨mk, methM, cM, hnamed, hmethM, -, -, -, -, -, -, hsigM⟩ := Cond.codeWith_spec hcode
  have hstatic : methM.isStatic = true := Cond.static_spec hnamed hmethM hstat
  obtain ⟨kP, hkP, -⟩ := className_of_methodNamed hnamed
  have hinitP : kP.init = .initialized := Cond.initialized_spec (findClass_of_methodNamed hnamed) hkP hinit
  obtain ⟨vm₁, X₁, hstep₁⟩ := X.invokestatic hexec hown hlink hnamed hmethM hstatic hkP hinitP hy (g := g) hg (argsL := argsL) (rest := rest) (hlen _ hsigM) hstack hdg
  obtain ⟨v, B, X', hpost, hsteps⟩ := hK m meth c ⟨T.setVm vm₁, locs, cells, slots⟩ { g with stack := rest } (.invokestatic index) mk argsL.toArray X₁ hg hsize hdg hW (X₁.named hnamed) (hpre vm₁ X₁.warmed)
  exact ⟨v, vm₁, B, X₁.warmed, X', hpost, fun target h => hstep₁ _ fun acts => by rw [doInvoke_state]; exact hsteps.trans h⟩
theorem vx_runSW {y : MethodName} {bytes cc : ByteArray} {maxL nL mc ms n index : Nat} {ret : Option FieldType} {hh : List (Nat × Nat × Nat × Nat)} {ws : List Cond} {rm : Room} {Pc : Array Value → State → Prop} {Qc : Array Value → State → Outcome → State → Prop} {free : Addr → Prop} {Ts : List Cond} {own : String} {As rest : List Value} {g : JFrame}
    (S : CallFix p m c cc nL s args Ts own) (hM : Met l y ws rm Pc Qc mc ms free) (cw : vx_CSW R s args own index y bytes maxL ret hh ws rm mc ms n) (hp : PreS s H Pc As)
    (hg : g.method = m) (hn : As.length = n) (hsize : g.locals.size = nL) (hstack : g.stack = As.reverse ++ rest) (hW : 2 * g.monitorRoom + (rest.map fun v => v.category).sum ≤ 8) (hdg : decode cc g.pc = .ok (.invokestatic index, 3)) (hf : cells + mc ≤ R.cells ∧ slots + ms ≤ R.slots) :
    va_Run p l e R s m args below meth c H locs cells slots mc ms g rest (Qc As.toArray) (free) := by
  obtain ⟨⟨hrc, hrs, hfr, hlo, hws, hcw⟩, hcode, hini, hy, hlen, hl, hstt⟩ := cw
  have hK : Back l R p e below s args y 3 8 (PreOf R mc ms Pc) (PostOf Qc mc ms free) := va_backW (hh := hh) (bytes := bytes) (maxL := maxL) (ret := ret) hM hp.1 hrc hrs hfr hlo hws hcw (fun a' U hW => word_at hW (Or.inl (by first | rfl | simp [Cond.onTables, Cond.keeps, Cond.steady])) hini)
  obtain ⟨hx, hb, hml, ho, -⟩ := S
  intro T hT X
  obtain ⟨v, vm₁, ⟨U', l2, c2, s2⟩, hW₁, X', ⟨g', mk, t, L, e1, e2, hq, h1, hL, h2, h3⟩, st⟩ := vx_callSW X hx (hh := hh) (bytes := bytes) (maxL := maxL) (ret := ret) ho hl hstt hini hcode hy hK hg (hsize.trans hml.symm) (argsL := As) (rest := rest) (fun sig h => hn.trans (hlen sig h)) hstack hW (by rw [hb]; exact hdg)
    (fun vm₁ hW₁ => ⟨hf.1, hf.2, hp.2 (T.setVm vm₁) hT hW₁⟩)
  dsimp only [Pt.U, Pt.locs, Pt.cells, Pt.slots] at X' e1 e2 h1 h2 h3 st
  subst h1; subst h2; subst h3
  exact ⟨v, (T.setVm vm₁).calling g' mk As.toArray, t, U', L, hT, X', hL, e1, e2, hq, st⟩
/-- not caught here, past rows that name other classes: it goes on to the caller -/
theorem vx_outP {p : Program} {l : Launch} {e : Env} {R : Room} {s : State} {m : MethodId} {args : Array Value} {below : List Frame} {meth : Method} {c : Code} {H : Heap} {locs : List Loc} {cells slots : Nat} {free : Addr → Prop} {ls : Array Slot} {rest : List Value} {Qc : Array Value → State → Outcome → State → Prop} {XC : String → State → State → Prop}
    {pc : Nat} {own E : String} {ce : Cell} {q : Addr} {mc ms : Nat} (hown : s.vm.findClass own = some m.cls) (hlocks : meth.locks = false)
    (hpass : ∀ z ∈ c.exceptionTable.toList, covers z pc = false ∨ (z.catchType ≠ 0 ∧ ∃ nm : String, (Cond.classLink own z.catchType nm).before args s = true ∧ va_Nc E nm s)) (hcell : H[q]? = some ce) (hv : ce.vm = .none) (hcl : s.vm.findClass E = some ce.cls)
    (hx : ∀ t : State, t.heap = H → s.vm.Alike t.vm → XC E s t) (hf : ∀ z ∈ locs, free z.base) (hc : cells ≤ mc) (hs : slots ≤ ms) :
    vx_W p l e R s m args below meth c H locs cells slots (vx_MQ below Qc XC args s mc ms free) (F0 m pc ls rest) q := by
  intro T hT X
  have hpl : e.platform.magicAccessors = ({} : Platform).magicAccessors := by rw [X.admits.platform]
  obtain ⟨vm', hW', X', st⟩ := X.outThrough hlocks q (g := F0 m pc ls rest) rfl rfl rfl (cell := ce) (by rw [hT]; exact hcell) (by rw [hv]; rfl)
    (by obtain ⟨k9, h9, -⟩ := Vm.findClass_spec hcl; exact ⟨k9, h9⟩) (fun z hz => by
      rcases hpass z hz with h | ⟨hz0, nm, hl1, hn1⟩
      · exact Or.inl h
      · obtain ⟨c6, hc6, hcl6⟩ := Cond.classLink_spec hown hl1 e.platform hpl
        obtain ⟨a8, b8, h1, h2, h3⟩ := hn1
        cases Option.some.inj (h1.symm.trans hcl)
        cases Option.some.inj (h2.symm.trans hc6)
        exact Or.inr ⟨hz0, _, hcl6, h3⟩)
  obtain ⟨g₀, hfr⟩ := X'.frames_eq
  have hcell9 : ((T.setVm vm').setFrames (.throwing q :: below)).heap[q]? = some ce := by
    show T.heap[q]? = some ce
    rw [hT]; exact hcell
  have hend : Ended ((T.setVm vm').setFrames (.throwing q :: below)) below (.threw q) := State.frames_setFrames _ (State.cur_lt_of_frames hfr)
  refine ⟨(T.setVm vm').setFrames (.throwing q :: below), ?_, .threw q, X'.here.running, hend, Or.inr ⟨q, rfl, E, ce, locs, hx _ hT (X'.ends _).1.alike, hcell9, hv, hcl, (X'.ends _).1, (X'.ends _).2.mono hc hs, hf⟩⟩
  rw [X.pushThrowing_eq]
  exact st
/-- a thing of a world lies in the heap -/
theorem vx_lt {D : va_G} {cl : List vw_C} {ws : va_W} {H1 : Heap} (h : va_P D cl ws H1) {k : Nat} {q : Nat × va_E} (hk : ws[k]? = some q) : q.1 < H1.size := (h k q hk).lt
end VXS
/-! ===== END ===== -/
/-! ===== BEGIN methods with a table of their own: called by a name, returning or throwing ===== -/
section VXH
/-! vx_backW, vx_callVX, vx_callSX, vx_callVW, vx_runVW, vx_runVX, vx_runSX, vx_ofWH follow the same proofs as their sisters above (Free/Laws.lean, Shelf42/LK1.lean); vx_outP calls Shelf42/NT130.lean (outThrough). -/
section
variable {l : Launch} {R : Room} {p : Program} {e : Env} {below : List Frame} {s : State} {sargs : Array Value} {y : MethodName} {len W9 : Nat}
theorem vx_backW {ws : List Cond} {rm : Room} {Pc : Array Value → State → Prop} {Qc : Array Value → State → Outcome → State → Prop} {XC : String → State → State → Prop} {mc ms : Nat} {free : Addr → Prop} {bytes : ByteArray} {maxL : Nat} {ret : Option FieldType} {hh : List (Nat × Nat × Nat × Nat)}
    (hM : vx_Met l y ws rm Pc Qc XC mc ms free) (hblind : FrameBlind Pc) (hrc : rm.cells = mc) (hrs : rm.slots = ms)
    (hframes : rm.frames + 1 ≤ R.frames) (hlocals : W9 + (maxL + 11) + rm.locals ≤ R.locals)
    (hws : ∀ w ∈ ws, ∀ a' U, s.WarmedH U.vm → w.before a' U = true) (hcode : Cond.codeWith y bytes maxL ret hh ∈ ws) (hinit : ∀ a' U, s.WarmedH U.vm → (Cond.initialized y.cls).before a' U = true) :
    vx_Back l R p e below s sargs y len W9 (PreOf R mc ms Pc) (PostOf Qc mc ms free) (vx_Post XC mc ms free) := by
  intro m meth c A g ig mk a X hg hsize hdg hW hn hp
  have h1 : (headSpec ws rm).pre.before a A.U = true := atoms_intro fun w hw => hws w hw _ _ X.warmed
  have h2 : (Cond.codeWith y bytes maxL ret hh).before a A.U = true := hws _ hcode _ _ X.warmed
  have h3 : (Cond.initialized y.cls).before a A.U = true := hinit _ _ X.warmed
  have h4 : A.cells + (headSpec ws rm).room.cells ≤ R.cells := by rw [show (headSpec ws rm).room.cells = mc from hrc]; exact hp.1
  have h5 : A.slots + (headSpec ws rm).room.slots ≤ R.slots := by rw [show (headSpec ws rm).room.slots = ms from hrs]; exact hp.2.1
  have hPc : Pc a (A.U.calling g mk a) := hblind _ _ _ _ hp.2.2
  obtain ⟨U, Ls, c0, s0⟩ := A
  dsimp only [Pt.U, Pt.locs, Pt.cells, Pt.slots] at h1 h2 h3 h4 h5 X hn hPc ⊢
  obtain ⟨m9, methY, cY, hn9, hmY, hcY, -, hlY, -⟩ := Cond.codeWith_spec h2
  cases Option.some.inj (hn9.symm.trans hn)
  obtain ⟨kY, hkY, -⟩ := className_of_methodNamed hn
  have hinitY : kY.init = .initialized := Cond.initialized_spec (findClass_of_methodNamed hn) hkY h3
  have h : At U g.method c below := by rw [hg]; exact X.here
  have hlocals9 : W9 + (maxL + 11) + (headSpec ws rm).room.locals ≤ R.locals := hlocals
  have happ : (headSpec ws rm).appliesLoose y e.platform (U.calling g mk a) = true :=
    Spec.appliesLoose_calling (g := g) h hdg hn hkY hinitY
      (X.room_calling (g := g) (R' := (headSpec ws rm).room) hsize hmY hcY hframes (by rw [hlY]; omega) h4 h5) h1
  obtain ⟨mid, hmid⟩ := h.above
  have hfr : (U.setTop g).frames = (.java g :: mid) ++ below := by rw [State.frames_setTop' g h.top, hmid]; rfl
  obtain ⟨o, s₂, hsteps, -, hend, hq⟩ := Steps.callFree hM p X.admits X.cas X.clock (acts := []) hfr happ hPc trivial
  have hq' : vx_Q Qc XC mc ms free a (U.calling g mk a) o s₂ := hq
  rw [State.frames_setTop' g h.top] at hend
  obtain ⟨g₀, hg0⟩ := Option.isSome_iff_exists.mp h.top
  obtain ⟨r, hr⟩ := State.topJava?_eq_some.mp hg0
  have hr' : (({ U with heap := s₂.heap, slotsUsed := s₂.slotsUsed } : State).setVm s₂.vm).frames = .java g₀ :: r := hr
  rcases hq' with ⟨hqc, L, hfe, hL⟩ | ⟨q, rfl, E, ce, L, hx, hce, hcv, hcl, hW₂, hsm, hL⟩
  · obtain ⟨⟨v, rfl⟩, hW₂, e2, q2, q3, q4, q5, q6⟩ := id hfe
    have e3 : s₂ = ({ (U.calling g mk a).setFrames s₂.frames with heap := s₂.heap, slotsUsed := s₂.slotsUsed } : State).setVm s₂.vm := by
      have : s₂ = ({ s₂ with vm := (U.calling g mk a).vm } : State).setVm s₂.vm := rfl
      rw [e2] at this
      exact this
    obtain ⟨c₂, i₂, len₂, hc₂, hd₂, hf₂⟩ := hend
    have hW' : U.WarmedH s₂.vm := hW₂
    have hcc : c₂ = c := by
      have h1 : s₂.code? g.method = U.code? g.method := by
        rw [State.code?_eq, State.code?_eq, hW'.alike.method?]
      exact Option.some.inj (hc₂.symm.trans (h1.trans h.code))
    subst hcc
    have hlen : len₂ = len := by rw [hdg] at hd₂; cases hd₂; rfl
    subst hlen
    have hs₂ : s₂ = (({ U with heap := s₂.heap, slotsUsed := s₂.slotsUsed } : State).setVm s₂.vm).setTop { g with pc := g.pc + len₂, stack := v.toList ++ g.stack } := by
      refine e3.trans ?_
      rw [hf₂, State.calling_eq h.top, State.setFrames_setFrames, State.setTop_of_frames _ hr', hr]
      rfl
    have hsame : U.sameButNew ({ U with heap := s₂.heap, slotsUsed := s₂.slotsUsed } : State) L mc ms := by
      refine ⟨?_, q2, q3, q4, q5, q6⟩
      obtain ⟨t, ht, -⟩ := State.frames_cons hr
      show ({ U with heap := s₂.heap, slotsUsed := s₂.slotsUsed } : State) = { U.setFrames U.frames with heap := s₂.heap, slotsUsed := s₂.slotsUsed }
      rw [State.setFrames_self ht]
    subst hg
    refine Or.inl ⟨v, ⟨(({ U with heap := s₂.heap, slotsUsed := s₂.slotsUsed } : State).setVm s₂.vm), Ls ++ L, c0 + mc, s0 + ms⟩,
      ⟨X.admits, X.cas, X.clock, X.frames, X.room, X.hears, X.method, X.code, (X.here.setHeapUsed s₂.heap s₂.slotsUsed).setVm hW'.alike, X.tail, State.WarmedH.trans X.warmed hW', X.limits, X.bytes, X.same.trans (hsame.setVm s.vm)⟩,
      ⟨g, mk, s₂, L, rfl, rfl, hqc, rfl, hL, rfl, rfl⟩, ?_⟩
    show Steps p.tables e below _ ((({ U with heap := s₂.heap, slotsUsed := s₂.slotsUsed } : State).setVm s₂.vm).setTop { g with pc := g.pc + len₂, stack := v.toList ++ g.stack })
    rw [← hs₂]
    exact hsteps
  · obtain ⟨e2, q2, q3, q4, q5, q6⟩ := id hsm
    have e3 : s₂ = ({ (U.calling g mk a).setFrames s₂.frames with heap := s₂.heap, slotsUsed := s₂.slotsUsed } : State).setVm s₂.vm := by
      have : s₂ = ({ s₂ with vm := (U.calling g mk a).vm } : State).setVm s₂.vm := rfl
      rw [e2] at this
      exact this
    have hf₂ : s₂.frames = .throwing q :: .java g :: U.frames.tail := hend
    have hW' : U.WarmedH s₂.vm := hW₂
    have hs₂ : s₂ = ((({ U with heap := s₂.heap, slotsUsed := s₂.slotsUsed } : State).setVm s₂.vm).setTop g).pushFrame (.throwing q) := by
      refine e3.trans ?_
      rw [hf₂, State.calling_eq h.top, State.setFrames_setFrames, State.pushFrame, State.frames_setTop _ hr', State.setTop_of_frames _ hr', State.setFrames_setFrames, hr]
      rfl
    have hsame : U.sameButNew ({ U with heap := s₂.heap, slotsUsed := s₂.slotsUsed } : State) L mc ms := by
      refine ⟨?_, q2, q3, q4, q5, q6⟩
      obtain ⟨t, ht, -⟩ := State.frames_cons hr
      show ({ U with heap := s₂.heap, slotsUsed := s₂.slotsUsed } : State) = { U.setFrames U.frames with heap := s₂.heap, slotsUsed := s₂.slotsUsed }
      rw [State.setFrames_self ht]
    subst hg
    refine Or.inr ⟨q, ⟨(({ U with heap := s₂.heap, slotsUsed := s₂.slotsUsed } : State).setVm s₂.vm), Ls ++ L, c0 + mc, s0 + ms⟩,
      ⟨X.admits, X.cas, X.clock, X.frames, X.room, X.hears, X.method, X.code, (X.here.setHeapUsed s₂.heap s₂.slotsUsed).setVm hW'.alike, X.tail, State.WarmedH.trans X.warmed hW', X.limits, X.bytes, X.same.trans (hsame.setVm s.vm)⟩,
      ⟨g, mk, s₂, L, E, ce, rfl, rfl, hx, hce, hcv, hcl, rfl, hL, rfl, rfl⟩, ?_⟩
    show Steps p.tables e below _ (((({ U with heap := s₂.heap, slotsUsed := s₂.slotsUsed } : State).setVm s₂.vm).setTop g).pushFrame (.throwing q))
    rw [← hs₂]
    exact hsteps
end
variable {p : Program} {l : Launch} {e : Env} {R : Room} {s : State} {m : MethodId} {args : Array Value} {below : List Frame} {meth : Method} {c : Code} {T : State} {H : Heap} {locs : List Loc} {cells slots : Nat}
theorem vx_callVX (X : Stand p l e R s m args below meth c T locs cells slots) (hexec : p.tables.exec = Jvm.exec) {own C : String} {index : Nat} {y : MethodName} {bytes : ByteArray} {maxL : Nat} {ret : Option FieldType} {hh : List (Nat × Nat × Nat × Nat)}
    (hown : s.vm.findClass own = some m.cls) (hlink : (Cond.methodLink own index y).before args s = true) (hinst : (Cond.instanceMethod y).before args s = true) (hsel : (Cond.selects C y y).before args s = true)
    (hcode : (Cond.codeWith y bytes maxL ret hh).before args s = true) (hy : y.cls ≠ "java/lang/invoke/MethodHandle" ∧ y.cls ≠ "java/lang/invoke/VarHandle")
    {W9 : Nat} {Pre : Pt → Array Value → Prop} {Post : Pt → Array Value → Option Value → Pt → Prop} {PostX : Pt → Array Value → Addr → Pt → Prop} (hK : vx_Back l R p e below s args y 3 W9 Pre Post PostX)
    {b : Addr} {cellB : Cell} (hcell : T.heap[b]? = some cellB) (hobj : cellB.vm.isStatics = false) (hcls : s.vm.findClass C = some cellB.cls)
    {g : JFrame} (hg : g.method = m) (hsize : g.locals.size = c.maxLocals) {argsL rest : List Value} (hlen : ∀ sig, parseMethodDescriptor y.desc = some sig → argsL.length = sig.parameters.length)
    (hstack : g.stack = argsL.reverse ++ .ref b :: rest) (hW : 2 * g.monitorRoom + (rest.map fun v => v.category).sum ≤ W9) (hdg : decode c.code g.pc = .ok (.invokevirtual index, 3))
    (hpre : ∀ vm₁, s.WarmedH vm₁ → Pre ⟨T.setVm vm₁, locs, cells, slots⟩ (Value.ref b :: argsL).toArray) :
    (∃ (v : Option Value) (vm₁ : Vm) (B : Pt), s.WarmedH vm₁ ∧ Stand p l e R s m args below meth c B.U B.locs B.cells B.slots ∧ Post ⟨T.setVm vm₁, locs, cells, slots⟩ (Value.ref b :: argsL).toArray v B ∧
      ∀ target, Steps p.tables e below (B.U.setTop { g with pc := g.pc + 3, stack := v.toList ++ rest }) target → Steps p.tables e below (T.setTop g) target) ∨
    (∃ (q : Addr) (vm₁ : Vm) (B : Pt), s.WarmedH vm₁ ∧ Stand p l e R s m args below meth c B.U B.locs B.cells B.slots ∧ PostX ⟨T.setVm vm₁, locs, cells, slots⟩ (Value.ref b :: argsL).toArray q B ∧
      Steps p.tables e below (T.setTop g) ((B.U.setTop { g with stack := rest }).pushFrame (.throwing q))) := by
  obtain ⟨mk, methM, hnamed, hmethM, hstM, habM⟩ := Cond.instanceMethod_spec hinst
  obtain ⟨m8, methM', cM, hn8, hmethM', -, -, -, -, -, -, hsigM⟩ := Cond.codeWith_spec hcode
  cases Option.some.inj (hn8.symm.trans hnamed)
  cases hmethM.symm.trans hmethM'
  obtain ⟨c2, r2, m2, q1, q2, q3, q4, kP, hkP, hkPi⟩ := Cond.selects_spec hsel
  cases hcls.symm.trans q1
  cases (State.methodFound?_of_named hnamed hy).symm.trans q2
  cases hnamed.symm.trans q3
  have hselP : selectMethod e.platform s.vm cellB.cls mk = .method mk := by rw [Launch.admits_selectMethod X.admits]; exact q4
  obtain ⟨vm₁, X₁, hstep₁⟩ := X.invokevirtual hexec hown hlink hnamed hmethM hstM hkP hkPi hy (a := b) (cell := cellB) hcell
    (fun z h => by rw [h] at hobj; cases hobj) hselP hmethM habM hkP hkPi (g := g) hg (argsL := argsL) (rest := rest) (hlen _ hsigM) hstack hdg
  rcases hK m meth c ⟨T.setVm vm₁, locs, cells, slots⟩ { g with stack := rest } (.invokevirtual index) mk (Value.ref b :: argsL).toArray X₁ hg hsize hdg hW (X₁.named hnamed) (hpre vm₁ X₁.warmed) with ⟨v, B, X', hpost, hsteps⟩ | ⟨q, B, X', hpost, hsteps⟩
  · exact Or.inl ⟨v, vm₁, B, X₁.warmed, X', hpost, fun target h => hstep₁ _ fun acts => by rw [doInvoke_state]; exact hsteps.trans h⟩
  · exact Or.inr ⟨q, vm₁, B, X₁.warmed, X', hpost, hstep₁ _ fun acts => by rw [doInvoke_state]; exact hsteps⟩
theorem vx_callSX (X : Stand p l e R s m args below meth c T locs cells slots) (hexec : p.tables.exec = Jvm.exec) {own : String} {index : Nat} {y : MethodName} {bytes : ByteArray} {maxL : Nat} {ret : Option FieldType} {hh : List (Nat × Nat × Nat × Nat)}
    (hown : s.vm.findClass own = some m.cls) (hlink : (Cond.methodLink own index y).before args s = true) (hstat : (Cond.static y).before args s = true) (hinit : (Cond.initialized y.cls).before args s = true)
    (hcode : (Cond.codeWith y bytes maxL ret hh).before args s = true) (hy : y.cls ≠ "java/lang/invoke/MethodHandle" ∧ y.cls ≠ "java/lang/invoke/VarHandle")
    {W9 : Nat} {Pre : Pt → Array Value → Prop} {Post : Pt → Array Value → Option Value → Pt → Prop} {PostX : Pt → Array Value → Addr → Pt → Prop} (hK : vx_Back l R p e below s args y 3 W9 Pre Post PostX)
    {g : JFrame} (hg : g.method = m) (hsize : g.locals.size = c.maxLocals) {argsL rest : List Value} (hlen : ∀ sig, parseMethodDescriptor y.desc = some sig → argsL.length = sig.parameters.length)
    (hstack : g.stack = argsL.reverse ++ rest) (hW : 2 * g.monitorRoom + (rest.map fun v => v.category).sum ≤ W9) (hdg : decode c.code g.pc = .ok (.invokestatic index, 3))
    (hpre : ∀ vm₁, s.WarmedH vm₁ → Pre ⟨T.setVm vm₁, locs, cells, slots⟩ argsL.toArray) :
    (∃ (v : Option Value) (vm₁ : Vm) (B : Pt), s.WarmedH vm₁ ∧ Stand p l e R s m args below meth c B.U B.locs B.cells B.slots ∧ Post ⟨T.setVm vm₁, locs, cells, slots⟩ argsL.toArray v B ∧
      ∀ target, Steps p.tables e below (B.U.setTop { g with pc := g.pc + 3, stack := v.toList ++ rest }) target → Steps p.tables e below (T.setTop g) target) ∨
    (∃ (q : Addr) (vm₁ : Vm) (B : Pt), s.WarmedH vm₁ ∧ Stand p l e R s m args below meth c B.U B.locs B.cells B.slots ∧ PostX ⟨T.setVm vm₁, locs, cells, slots⟩ argsL.toArray q B ∧
      Steps p.tables e below (T.setTop g) ((B.U.setTop { g with stack := rest }).pushFrame (.throwing q))) := by
  obtain ⟨mk, methM, cM, hnamed, hmethM, -, -, -, -, -, -, hsigM⟩ := Cond.codeWith_spec hcode
  have hstatic : methM.isStatic = true := Cond.static_spec hnamed hmethM hstat
  obtain ⟨kP, hkP, -⟩ := className_of_methodNamed hnamed
  have hinitP : kP.init = .initialized := Cond.initialized_spec (findClass_of_methodNamed hnamed) hkP hinit
  obtain ⟨vm₁, X₁, hstep₁⟩ := X.invokestatic hexec hown hlink hnamed hmethM hstatic hkP hinitP hy (g := g) hg (argsL := argsL) (rest := rest) (hlen _ hsigM) hstack hdg
  rcases hK m meth c ⟨T.setVm vm₁, locs, cells, slots⟩ { g with stack := rest } (.invokestatic index) mk argsL.toArray X₁ hg hsize hdg hW (X₁.named hnamed) (hpre vm₁ X₁.warmed) with ⟨v, B, X', hpost, hsteps⟩ | ⟨q, B, X', hpost, hsteps⟩
  · exact Or.inl ⟨v, vm₁, B, X₁.warmed, X', hpost, fun target h => hstep₁ _ fun acts => by rw [doInvoke_state]; exact hsteps.trans h⟩
  · exact Or.inr ⟨q, vm₁, B, X₁.warmed, X', hpost, hstep₁ _ fun acts => by rw [doInvoke_state]; exact hsteps⟩
theorem vx_callVW (X : Stand p l e R s m args below meth c T locs cells slots) (hexec : p.tables.exec = Jvm.exec) {own C : String} {index : Nat} {y : MethodName} {bytes : ByteArray} {maxL : Nat} {ret : Option FieldType} {hh : List (Nat × Nat × Nat × Nat)}
    (hown : s.vm.findClass own = some m.cls) (hlink : (Cond.methodLink own index y).before args s = true) (hinst : (Cond.instanceMethod y).before args s = true) (hsel : (Cond.selects C y y).before args s = true)
    (hcode : (Cond.codeWith y bytes maxL ret hh).before args s = true) (hy : y.cls ≠ "java/lang/invoke/MethodHandle" ∧ y.cls ≠ "java/lang/invoke/VarHandle")
    {W9 : Nat} {Pre : Pt → Array Value → Prop} {Post : Pt → Array Value → Option Value → Pt → Prop} (hK : Back l R p e below s args y 3 W9 Pre Post)
    {b : Addr} {cellB : Cell} (hcell : T.heap[b]? = some cellB) (hobj : cellB.vm.isStatics = false) (hcls : s.vm.findClass C = some cellB.cls)
    {g : JFrame} (hg : g.method = m) (hsize : g.locals.size = c.maxLocals) {argsL rest : List Value} (hlen : ∀ sig, parseMethodDescriptor y.desc = some sig → argsL.length = sig.parameters.length)
    (hstack : g.stack = argsL.reverse ++ .ref b :: rest) (hW : 2 * g.monitorRoom + (rest.map fun v => v.category).sum ≤ W9) (hdg : decode c.code g.pc = .ok (.invokevirtual index, 3))
    (hpre : ∀ vm₁, s.WarmedH vm₁ → Pre ⟨T.setVm vm₁, locs, cells, slots⟩ (Value.ref b :: argsL).toArray) :
    ∃ (v : Option Value) (vm₁ : Vm) (B : Pt), s.WarmedH vm₁ ∧ Stand p l e R s m args below meth c B.U B.locs B.cells B.slots ∧ Post ⟨T.setVm vm₁, locs, cells, slots⟩ (Value.ref b :: argsL).toArray v B ∧
      ∀ target, Steps p.tables e below (B.U.setTop { g with pc := g.pc + 3, stack := v.toList ++ rest }) target → Steps p.tables e below (T.setTop g) target := by
  obtain ⟨mk, methM, hnamed, hmethM, hstM, habM⟩ := Cond.instanceMethod_spec hinst
  obtain ⟨m8, methM', cM, hn8, hmethM', -, -, -, -, -, -, hsigM⟩ := Cond.codeWith_spec hcode
  cases Option.some.inj (hn8.symm.trans hnamed)
  cases hmethM.symm.trans hmethM'
  obtain ⟨c2, r2, m2, q1, q2, q3, q4, kP, hkP, hkPi⟩ := Cond.selects_spec hsel
  cases hcls.symm.trans q1
  cases (State.methodFound?_of_named hnamed hy).symm.trans q2
  cases hnamed.symm.trans q3
  have hselP : selectMethod e.platform s.vm cellB.cls mk = .method mk := by rw [Launch.admits_selectMethod X.admits]; exact q4
  obtain ⟨vm₁, X₁, hstep₁⟩ := X.invokevirtual hexec hown hlink hnamed hmethM hstM hkP hkPi hy (a := b) (cell := cellB) hcell
    (fun z h => by rw [h] at hobj; cases hobj) hselP hmethM habM hkP hkPi (g := g) hg (argsL := argsL) (rest := rest) (hlen _ hsigM) hstack hdg
  obtain ⟨v, B, X', hpost, hsteps⟩ := hK m meth c ⟨T.setVm vm₁, locs, cells, slots⟩ { g with stack := rest } (.invokevirtual index) mk (Value.ref b :: argsL).toArray X₁ hg hsize hdg hW (X₁.named hnamed) (hpre vm₁ X₁.warmed)
  exact ⟨v, vm₁, B, X₁.warmed, X', hpost, fun target h => hstep₁ _ fun acts => by rw [doInvoke_state]; exact hsteps.trans h⟩
abbrev vx_CVW (R : Room) (s : State) (args : Array Value) (own C : String) (index : Nat) (y : MethodName) (bytes : ByteArray) (maxL : Nat) (ret : Option FieldType) (hh : List (Nat × Nat × Nat × Nat)) (ws : List Cond) (rm : Room) (mc ms n : Nat) : Prop :=
  (rm.cells = mc ∧ rm.slots = ms ∧ rm.frames + 1 ≤ R.frames ∧ 8 + (maxL + 11) + rm.locals ≤ R.locals ∧ (∀ w ∈ ws, ∀ (a' : Array Value) (U : State), s.WarmedH U.vm → w.before a' U = true) ∧ Cond.codeWith y bytes maxL ret hh ∈ ws) ∧
  (Cond.codeWith y bytes maxL ret hh).before args s = true ∧ (Cond.initialized y.cls).before args s = true ∧ (y.cls ≠ "java/lang/invoke/MethodHandle" ∧ y.cls ≠ "java/lang/invoke/VarHandle") ∧
  (∀ sig, parseMethodDescriptor y.desc = some sig → n = sig.parameters.length) ∧ (Cond.methodLink own index y).before args s = true ∧ (Cond.instanceMethod y).before args s = true ∧ (Cond.selects C y y).before args s = true
theorem vx_cwVW {own C : String} {index maxL mc ms : Nat} {y : MethodName} {bytes : ByteArray} {ret : Option FieldType} {hh : List (Nat × Nat × Nat × Nat)} {Ts ws ws' : List Cond} {rm : Room} (n : Nat) (ht : ∀ w ∈ Ts, w.before args s = true) (hT : GoodIn Ts (wsV own index C y ws)) (hw : ws = Cond.codeWith y bytes maxL ret hh :: ws') (hrc : rm.cells = mc) (hrs : rm.slots = ms)
    (hd : y.cls = C ∧ y.cls ≠ "java/lang/invoke/MethodHandle" ∧ y.cls ≠ "java/lang/invoke/VarHandle" ∧ (parseMethodDescriptor y.desc).map (fun d => d.parameters.length) = some n) (hR : rm.frames + 1 ≤ R.frames ∧ 8 + (maxL + 11) + rm.locals ≤ R.locals) :
    vx_CVW R s args own C index y bytes maxL ret hh ws rm mc ms n := by
  obtain ⟨hC, hd⟩ := hd
  subst hC
  have ok : ∀ w ∈ wsV own index y.cls y ws, w.before args s = true := fun w h => ht w (hT w h).1
  have hG : GoodIn Ts ws := fun w h => hT w (by unfold wsV; exact List.mem_append_right _ h)
  have hc : Cond.codeWith y bytes maxL ret hh ∈ ws := by rw [hw]; exact List.mem_cons_self
  refine ⟨⟨hrc, hrs, hR.1, hR.2, pay_in ht hG, hc⟩, ht _ (hG _ hc).1, ok _ (by simp [wsV]), ⟨hd.1, hd.2.1⟩, fun sig h => ?_, ok _ (by simp [wsV]), ok _ (by simp [wsV]), ok _ (by simp [wsV])⟩
  have h2 := hd.2.2
  rw [h] at h2
  exact (Option.some.inj h2).symm
theorem vx_runVW {y : MethodName} {bytes cc : ByteArray} {maxL nL mc ms n index : Nat} {ret : Option FieldType} {hh : List (Nat × Nat × Nat × Nat)} {ws : List Cond} {rm : Room} {Pc : Array Value → State → Prop} {Qc : Array Value → State → Outcome → State → Prop} {free : Addr → Prop} {Ts : List Cond} {own C : String} {b : Addr} {As rest : List Value} {g : JFrame}
    (S : CallFix p m c cc nL s args Ts own) (hM : Met l y ws rm Pc Qc mc ms free) (cw : vx_CVW R s args own C index y bytes maxL ret hh ws rm mc ms n) (hp : PreV s H C b Pc As)
    (hg : g.method = m) (hn : As.length = n) (hsize : g.locals.size = nL) (hstack : g.stack = As.reverse ++ .ref b :: rest) (hW : 2 * g.monitorRoom + (rest.map fun v => v.category).sum ≤ 8) (hdg : decode cc g.pc = .ok (.invokevirtual index, 3)) (hf : cells + mc ≤ R.cells ∧ slots + ms ≤ R.slots) :
    va_Run p l e R s m args below meth c H locs cells slots mc ms g rest (Qc (Value.ref b :: As).toArray) free := by
  obtain ⟨⟨hrc, hrs, hfr, hlo, hws, hcw⟩, hcode, hini, hy, hlen, hl, hin, hse⟩ := cw
  have hK : Back l R p e below s args y 3 8 (PreOf R mc ms Pc) (PostOf Qc mc ms free) := va_backW (hh := hh) (bytes := bytes) (maxL := maxL) (ret := ret) hM hp.1 hrc hrs hfr hlo hws hcw (fun a' U hW => word_at hW (Or.inl (by first | rfl | simp [Cond.onTables, Cond.keeps, Cond.steady])) hini)
  obtain ⟨hx, hb, hml, ho, -⟩ := S
  obtain ⟨-, ⟨cellB, hcB, hoB, hclB⟩, hPc⟩ := hp
  intro T hT X
  obtain ⟨v, vm₁, ⟨U', l2, c2, s2⟩, hW₁, X', ⟨g', mk, t, L, e1, e2, hq, h1, hL, h2, h3⟩, st⟩ := vx_callVW X hx (C := C) (hh := hh) (bytes := bytes) (maxL := maxL) (ret := ret) ho hl hin hse hcode hy hK (by rw [hT]; exact hcB) hoB hclB hg (hsize.trans hml.symm) (argsL := As) (rest := rest) (fun sig h => hn.trans (hlen sig h)) hstack hW (by rw [hb]; exact hdg)
    (fun vm₁ hW₁ => ⟨hf.1, hf.2, hPc (T.setVm vm₁) hT hW₁⟩)
  dsimp only [Pt.U, Pt.locs, Pt.cells, Pt.slots] at X' e1 e2 h1 h2 h3 st
  subst h1; subst h2; subst h3
  exact ⟨v, (T.setVm vm₁).calling g' mk (Value.ref b :: As).toArray, t, U', L, hT, X', hL, e1, e2, hq, st⟩
section
variable {y : MethodName} {bytes cc : ByteArray} {maxL nL mc ms n index : Nat} {ret : Option FieldType} {ws : List Cond} {rm : Room} {Pc : Array Value → State → Prop} {Qc : Array Value → State → Outcome → State → Prop} {XC : String → State → State → Prop} {free : Addr → Prop} {Ts : List Cond} {own C : String} {b : Addr} {As rest : List Value} {g : JFrame}
theorem vx_runVX {hh : List (Nat × Nat × Nat × Nat)} (S : CallFix p m c cc nL s args Ts own) (hM : vx_Met l y ws rm Pc Qc XC mc ms free) (cw : vx_CVW R s args own C index y bytes maxL ret hh ws rm mc ms n) (hp : PreV s H C b Pc As)
    (hg : g.method = m) (hn : As.length = n) (hsize : g.locals.size = nL) (hstack : g.stack = As.reverse ++ .ref b :: rest) (hW : 2 * g.monitorRoom + (rest.map fun v => v.category).sum ≤ 8) (hdg : decode cc g.pc = .ok (.invokevirtual index, 3)) (hf : cells + mc ≤ R.cells ∧ slots + ms ≤ R.slots) :
    vx_Run p l e R s m args below meth c H locs cells slots mc ms g rest (Qc (Value.ref b :: As).toArray) XC free := by
  obtain ⟨⟨hrc, hrs, hfr, hlo, hws, hcw⟩, hcode, hini, hy, hlen, hl, hin, hse⟩ := cw
  have hK : vx_Back l R p e below s args y 3 8 (PreOf R mc ms Pc) (PostOf Qc mc ms free) (vx_Post XC mc ms free) := vx_backW (hh := hh) (bytes := bytes) (maxL := maxL) (ret := ret) hM hp.1 hrc hrs hfr hlo hws hcw (fun a' U hW => word_at hW (Or.inl (by first | rfl | simp [Cond.onTables, Cond.keeps, Cond.steady])) hini)
  obtain ⟨hx, hb, hml, ho, -⟩ := S
  obtain ⟨-, ⟨cellB, hcB, hoB, hclB⟩, hPc⟩ := hp
  intro T hT X
  rcases vx_callVX X hx (C := C) (hh := hh) (bytes := bytes) (maxL := maxL) (ret := ret) ho hl hin hse hcode hy hK (by rw [hT]; exact hcB) hoB hclB hg (hsize.trans hml.symm) (argsL := As) (rest := rest) (fun sig h => hn.trans (hlen sig h)) hstack hW (by rw [hb]; exact hdg)
    (fun vm₁ hW₁ => ⟨hf.1, hf.2, hPc (T.setVm vm₁) hT hW₁⟩) with ⟨v, vm₁, ⟨U', l2, c2, s2⟩, hW₁, X', ⟨g', mk, t, L, e1, e2, hq, h1, hL, h2, h3⟩, st⟩ | ⟨q, vm₁, ⟨U', l2, c2, s2⟩, hW₁, X', ⟨g', mk, t, L, E, ce, e1, e2, hq, hce, hcv, hcl, h1, hL, h2, h3⟩, st⟩
  · dsimp only [Pt.U, Pt.locs, Pt.cells, Pt.slots] at X' e1 e2 h1 h2 h3 st
    subst h1; subst h2; subst h3
    exact Or.inl ⟨v, (T.setVm vm₁).calling g' mk (Value.ref b :: As).toArray, t, U', L, hT, X', hL, e1, e2, hq, st⟩
  · dsimp only [Pt.U, Pt.locs, Pt.cells, Pt.slots] at X' e1 e2 h1 h2 h3 st hcl
    subst h1; subst h2; subst h3
    exact Or.inr ⟨q, (T.setVm vm₁).calling g' mk (Value.ref b :: As).toArray, t, U', L, E, ce, hT, X', hL, e1, e2, hq, hce, hcv, vx_cls hW₁ hcl, st⟩
theorem vx_runSX {hh : List (Nat × Nat × Nat × Nat)} (S : CallFix p m c cc nL s args Ts own) (hM : vx_Met l y ws rm Pc Qc XC mc ms free) (cw : vx_CSW R s args own index y bytes maxL ret hh ws rm mc ms n) (hp : PreS s H Pc As)
    (hg : g.method = m) (hn : As.length = n) (hsize : g.locals.size = nL) (hstack : g.stack = As.reverse ++ rest) (hW : 2 * g.monitorRoom + (rest.map fun v => v.category).sum ≤ 8) (hdg : decode cc g.pc = .ok (.invokestatic index, 3)) (hf : cells + mc ≤ R.cells ∧ slots + ms ≤ R.slots) :
    vx_Run p l e R s m args below meth c H locs cells slots mc ms g rest (Qc As.toArray) XC free := by
  obtain ⟨⟨hrc, hrs, hfr, hlo, hws, hcw⟩, hcode, hini, hy, hlen, hl, hstt⟩ := cw
  have hK : vx_Back l R p e below s args y 3 8 (PreOf R mc ms Pc) (PostOf Qc mc ms free) (vx_Post XC mc ms free) := vx_backW (hh := hh) (bytes := bytes) (maxL := maxL) (ret := ret) hM hp.1 hrc hrs hfr hlo hws hcw (fun a' U hW => word_at hW (Or.inl (by first | rfl | simp [Cond.onTables, Cond.keeps, Cond.steady])) hini)
  obtain ⟨hx, hb, hml, ho, -⟩ := S
  intro T hT X
  rcases vx_callSX X hx (hh := hh) (bytes := bytes) (maxL := maxL) (ret := ret) ho hl hstt hini hcode hy hK hg (hsize.trans hml.symm) (argsL := As) (rest := rest) (fun sig h => hn.trans (hlen sig h)) hstack hW (by rw [hb]; exact hdg)
    (fun vm₁ hW₁ => ⟨hf.1, hf.2, hp.2 (T.setVm vm₁) hT hW₁⟩) with ⟨v, vm₁, ⟨U', l2, c2, s2⟩, hW₁, X', ⟨g', mk, t, L, e1, e2, hq, h1, hL, h2, h3⟩, st⟩ | ⟨q, vm₁, ⟨U', l2, c2, s2⟩, hW₁, X', ⟨g', mk, t, L, E, ce, e1, e2, hq, hce, hcv, hcl, h1, hL, h2, h3⟩, st⟩
  · dsimp only [Pt.U, Pt.locs, Pt.cells, Pt.slots] at X' e1 e2 h1 h2 h3 st
    subst h1; subst h2; subst h3
    exact Or.inl ⟨v, (T.setVm vm₁).calling g' mk As.toArray, t, U', L, hT, X', hL, e1, e2, hq, st⟩
  · dsimp only [Pt.U, Pt.locs, Pt.cells, Pt.slots] at X' e1 e2 h1 h2 h3 st hcl
    subst h1; subst h2; subst h3
    exact Or.inr ⟨q, (T.setVm vm₁).calling g' mk As.toArray, t, U', L, E, ce, hT, X', hL, e1, e2, hq, hce, hcv, vx_cls hW₁ hcl, st⟩
end
end VXH
theorem vx_ofWH {l : Launch} {y : MethodName} {ws ws' : List Cond} {rm : Room} {Pc : Array Value → State → Prop} {Qc : Array Value → State → Outcome → State → Prop} {XC : String → State → State → Prop} {mc ms : Nat} {free : Addr → Prop} {cc : ByteArray} {maxL : Nat} {ret : Option FieldType} {hh : List (Nat × Nat × Nat × Nat)}
    (hy : plainName y.cls = true) (hw : ws = Cond.codeWith y cc maxL ret hh :: ws')
    (body : ∀ p e s m args below meth c s₁, BodyLoose p l y (headSpec ws rm) cc maxL ret e s m args below meth c s₁ → c.maxLocals = maxL → Pc args s →
      W p l e (headSpec ws rm).room s m args below meth c s.heap [] 0 0 (vx_MQ below Qc XC args s mc ms free) (entryFrame m args maxL)) : vx_Met l y ws rm Pc Qc XC mc ms free := by
  refine MetFree.of_bodyS (code := cc) (maxLocals := maxL) (ret := ret) hy ?_ ?_
  · intro args s m h hn
    obtain ⟨m9, meth, c, hn9, h1, h2, h3, h4, -, h5, h6, -⟩ := Cond.codeWith_spec (atoms_spec (ws := ws) h _ (by rw [hw]; exact List.mem_cons_self))
    cases hn.symm.trans hn9
    exact ⟨meth, c, h1, h2, h3, h4, h5, h6⟩
  · intro p e s m args below meth c s₁ B hml hP _
    have hh0 : s₁.heap = s.heap := by rw [B.state]; rfl
    obtain ⟨t, a1, o, b1, b2, b3⟩ := body p e s m args below meth c s₁ B hml hP s₁ hh0 (Stand.of_body B)
    exact ⟨t, o, a1, b1, b2, b3⟩
/-! ===== END ===== -/
end
section
def RX0 : String := "DeadlineCalls$Call"
def TX0 : u_T := fun k => match k with
  | 0 => ("DeadlineCalls$Call", "number", "I", true)
  | 1 => ("DeadlineCalls$Call", "service", "LDeadlineCalls$Service;", true)
  | 2 => ("DeadlineCalls$Call", "parent", "LDeadlineCalls$Call;", true)
  | 3 => ("DeadlineCalls$Call", "deadline", "I", true)
  | 4 => ("DeadlineCalls$Call", "state", "I", false)
  | 5 => ("DeadlineCalls$Call", "overAt", "I", false)
  | 6 => ("DeadlineCalls$Call", "readyAt", "I", false)
  | 7 => ("DeadlineCalls$Call", "previous", "LDeadlineCalls$Call;", false)
  | 8 => ("DeadlineCalls$Call", "next", "LDeadlineCalls$Call;", false)
  | 9 => ("DeadlineCalls$Call", "rowLength", "I", false)
  | 10 => ("DeadlineCalls$Call", "place", "I", false)
  | 11 => ("DeadlineCalls$Call", "asked", "LDeadlineCalls$Service;", false)
  | 12 => ("DeadlineCalls$Call", "wantsTry", "Z", false)
  | 13 => ("DeadlineCalls$Call", "isAnswered", "Z", false)
  | 14 => ("DeadlineCalls$Call", "tries", "I", false)
  | 15 => ("DeadlineCalls$Call", "openTries", "I", false)
  | 16 => ("DeadlineCalls$Call", "triesAgain", "I", false)
  | _ => ("DeadlineCalls$Call", "triedAt", "I", false)
def tyX0 : Nat → FieldType := fun k => match k with
  | 0 => .int
  | 1 => .object "DeadlineCalls$Service"
  | 2 => .object "DeadlineCalls$Call"
  | 3 => .int
  | 4 => .int
  | 5 => .int
  | 6 => .int
  | 7 => .object "DeadlineCalls$Call"
  | 8 => .object "DeadlineCalls$Call"
  | 9 => .int
  | 10 => .int
  | 11 => .object "DeadlineCalls$Service"
  | 12 => .boolean
  | 13 => .boolean
  | 14 => .int
  | 15 => .int
  | 16 => .int
  | _ => .int
abbrev wsX00 : List Cond := u_ws RX0 TX0 18
theorem nmX0 : ∀ a, a < 18 → ∀ b, b < 18 → a ≠ b → (TX0 a).2.1 ≠ (TX0 b).2.1 := by decide +kernel
theorem tyX0_ok : ∀ k, k < 18 → parseFieldDescriptor (TX0 k).2.2.1 = some (tyX0 k) := by decide +kernel
abbrev cX0_init : ByteArray := prog_2_method_1_code
def yX0_init : MethodName := ⟨RX0, "<init>", "(ILDeadlineCalls$Service;LDeadlineCalls$Call;I)V"⟩
abbrev cX0_isOver : ByteArray := prog_2_method_2_code
def yX0_isOver : MethodName := ⟨RX0, "isOver", "()Z"⟩
abbrev cX0_isOf : ByteArray := prog_2_method_3_code
def yX0_isOf : MethodName := ⟨RX0, "isOf", "(LDeadlineCalls$Service;I)Z"⟩
abbrev cX0_isBelow : ByteArray := prog_2_method_4_code
def yX0_isBelow : MethodName := ⟨RX0, "isBelow", "(LDeadlineCalls$Call;)Z"⟩
abbrev cX0_canBeDone : ByteArray := prog_2_method_5_code
def yX0_canBeDone : MethodName := ⟨RX0, "canBeDone", "(I)Z"⟩
abbrev cX0_become : ByteArray := prog_2_method_6_code
def yX0_become : MethodName := ⟨RX0, "become", "(I)V"⟩
abbrev cX0_rowAt : ByteArray := prog_2_method_7_code
def yX0_rowAt : MethodName := ⟨RX0, "rowAt", "(I)LDeadlineCalls$Service;"⟩
abbrev cX0_askNow : ByteArray := prog_2_method_8_code
def yX0_askNow : MethodName := ⟨RX0, "askNow", "(LDeadlineCalls$Service;I)V"⟩
abbrev cX0_noteTry : ByteArray := prog_2_method_9_code
def yX0_noteTry : MethodName := ⟨RX0, "noteTry", "(I)V"⟩
abbrev cX0_noteTryOver : ByteArray := prog_2_method_10_code
def yX0_noteTryOver : MethodName := ⟨RX0, "noteTryOver", "(I)V"⟩
def RX1 : String := "DeadlineCalls$Service"
def TX1 : u_T := fun k => match k with
  | 0 => ("DeadlineCalls$Service", "number", "I", true)
  | 1 => ("DeadlineCalls$Service", "work", "I", false)
  | 2 => ("DeadlineCalls$Service", "each", "I", false)
  | 3 => ("DeadlineCalls$Service", "worked", "I", false)
  | 4 => ("DeadlineCalls$Service", "workers", "I", false)
  | 5 => ("DeadlineCalls$Service", "room", "I", false)
  | 6 => ("DeadlineCalls$Service", "patience", "I", false)
  | 7 => ("DeadlineCalls$Service", "tokens", "I", false)
  | 8 => ("DeadlineCalls$Service", "troubles", "I", false)
  | 9 => ("DeadlineCalls$Service", "openUntil", "I", false)
  | 10 => ("DeadlineCalls$Service", "row", "[LDeadlineCalls$Service;", true)
  | 11 => ("DeadlineCalls$Service", "rowLength", "I", false)
  | _ => ("DeadlineCalls$Service", "counts", "[I", true)
def tyX1 : Nat → FieldType := fun k => match k with
  | 0 => .int
  | 1 => .int
  | 2 => .int
  | 3 => .int
  | 4 => .int
  | 5 => .int
  | 6 => .int
  | 7 => .int
  | 8 => .int
  | 9 => .int
  | 10 => .array (.object "DeadlineCalls$Service")
  | 11 => .int
  | _ => .array .int
abbrev wsX10 : List Cond := u_ws RX1 TX1 13
theorem nmX1 : ∀ a, a < 13 → ∀ b, b < 13 → a ≠ b → (TX1 a).2.1 ≠ (TX1 b).2.1 := by decide +kernel
theorem tyX1_ok : ∀ k, k < 13 → parseFieldDescriptor (TX1 k).2.2.1 = some (tyX1 k) := by decide +kernel
abbrev cX1_init : ByteArray := prog_3_method_1_code
def yX1_init : MethodName := ⟨RX1, "<init>", "(I)V"⟩
abbrev cX1_addToRow : ByteArray := prog_3_method_2_code
def yX1_addToRow : MethodName := ⟨RX1, "addToRow", "(LDeadlineCalls$Service;)Z"⟩
abbrev cX1_countOf : ByteArray := prog_3_method_3_code
def yX1_countOf : MethodName := ⟨RX1, "countOf", "(I)I"⟩
abbrev cX1_hasFreeWorker : ByteArray := prog_3_method_4_code
def yX1_hasFreeWorker : MethodName := ⟨RX1, "hasFreeWorker", "()Z"⟩
abbrev cX1_hasRoom : ByteArray := prog_3_method_5_code
def yX1_hasRoom : MethodName := ⟨RX1, "hasRoom", "()Z"⟩
abbrev cX1_refusesAt : ByteArray := prog_3_method_6_code
def yX1_refusesAt : MethodName := ⟨RX1, "refusesAt", "(I)Z"⟩
abbrev cX1_failsNextWork : ByteArray := prog_3_method_7_code
def yX1_failsNextWork : MethodName := ⟨RX1, "failsNextWork", "()Z"⟩
abbrev cX1_isTooLong : ByteArray := prog_3_method_8_code
def yX1_isTooLong : MethodName := ⟨RX1, "isTooLong", "(I)Z"⟩
abbrev cX1_payForTry : ByteArray := prog_3_method_9_code
def yX1_payForTry : MethodName := ⟨RX1, "payForTry", "()Z"⟩
abbrev cX1_noteDone : ByteArray := prog_3_method_10_code
def yX1_noteDone : MethodName := ⟨RX1, "noteDone", "()V"⟩
abbrev cX1_noteTrouble : ByteArray := prog_3_method_11_code
def yX1_noteTrouble : MethodName := ⟨RX1, "noteTrouble", "(I)V"⟩
def RX2 : String := "DeadlineCalls"
def TX2 : u_T := fun k => match k with
  | 0 => ("DeadlineCalls", "services", "[LDeadlineCalls$Service;", true)
  | 1 => ("DeadlineCalls", "numbered", "[LDeadlineCalls$Call;", true)
  | 2 => ("DeadlineCalls", "made", "I", false)
  | 3 => ("DeadlineCalls", "now", "I", false)
  | 4 => ("DeadlineCalls", "rootsOver", "I", false)
  | 5 => ("DeadlineCalls", "oldest", "LDeadlineCalls$Call;", false)
  | _ => ("DeadlineCalls", "newest", "LDeadlineCalls$Call;", false)
def tyX2 : Nat → FieldType := fun k => match k with
  | 0 => .array (.object "DeadlineCalls$Service")
  | 1 => .array (.object "DeadlineCalls$Call")
  | 2 => .int
  | 3 => .int
  | 4 => .int
  | 5 => .object "DeadlineCalls$Call"
  | _ => .object "DeadlineCalls$Call"
abbrev wsX20 : List Cond := u_ws RX2 TX2 7
theorem nmX2 : ∀ a, a < 7 → ∀ b, b < 7 → a ≠ b → (TX2 a).2.1 ≠ (TX2 b).2.1 := by decide +kernel
theorem tyX2_ok : ∀ k, k < 7 → parseFieldDescriptor (TX2 k).2.2.1 = some (tyX2 k) := by decide +kernel
abbrev cX2_init : ByteArray := prog_1_method_1_code
def yX2_init : MethodName := ⟨RX2, "<init>", "()V"⟩
abbrev cX2_setWork : ByteArray := prog_1_method_2_code
def yX2_setWork : MethodName := ⟨RX2, "setWork", "(III)I"⟩
abbrev cX2_ask : ByteArray := prog_1_method_3_code
def yX2_ask : MethodName := ⟨RX2, "ask", "(II)I"⟩
abbrev cX2_setRoom : ByteArray := prog_1_method_4_code
def yX2_setRoom : MethodName := ⟨RX2, "setRoom", "(IIII)I"⟩
abbrev cX2_call : ByteArray := prog_1_method_5_code
def yX2_call : MethodName := ⟨RX2, "call", "(II)I"⟩
abbrev cX2_cancel : ByteArray := prog_1_method_6_code
def yX2_cancel : MethodName := ⟨RX2, "cancel", "(I)I"⟩
abbrev cX2_pass : ByteArray := prog_1_method_7_code
def yX2_pass : MethodName := ⟨RX2, "pass", "(I)I"⟩
abbrev cX2_time : ByteArray := prog_1_method_8_code
def yX2_time : MethodName := ⟨RX2, "time", "()I"⟩
abbrev cX2_calls : ByteArray := prog_1_method_9_code
def yX2_calls : MethodName := ⟨RX2, "calls", "()I"⟩
abbrev cX2_state : ByteArray := prog_1_method_10_code
def yX2_state : MethodName := ⟨RX2, "state", "(I)I"⟩
abbrev cX2_origin : ByteArray := prog_1_method_11_code
def yX2_origin : MethodName := ⟨RX2, "origin", "(I)I"⟩
abbrev cX2_deadline : ByteArray := prog_1_method_12_code
def yX2_deadline : MethodName := ⟨RX2, "deadline", "(I)I"⟩
abbrev cX2_overAt : ByteArray := prog_1_method_13_code
def yX2_overAt : MethodName := ⟨RX2, "overAt", "(I)I"⟩
abbrev cX2_place : ByteArray := prog_1_method_14_code
def yX2_place : MethodName := ⟨RX2, "place", "(I)I"⟩
abbrev cX2_below : ByteArray := prog_1_method_15_code
def yX2_below : MethodName := ⟨RX2, "below", "(I)I"⟩
abbrev cX2_queuedAt : ByteArray := prog_1_method_16_code
def yX2_queuedAt : MethodName := ⟨RX2, "queuedAt", "(II)I"⟩
abbrev cX2_count : ByteArray := prog_1_method_17_code
def yX2_count : MethodName := ⟨RX2, "count", "(II)I"⟩
abbrev cX2_tokens : ByteArray := prog_1_method_18_code
def yX2_tokens : MethodName := ⟨RX2, "tokens", "(I)I"⟩
abbrev cX2_isOpen : ByteArray := prog_1_method_19_code
def yX2_isOpen : MethodName := ⟨RX2, "isOpen", "(I)Z"⟩
abbrev cX2_serviceAt : ByteArray := prog_1_method_20_code
def yX2_serviceAt : MethodName := ⟨RX2, "serviceAt", "(I)LDeadlineCalls$Service;"⟩
abbrev cX2_callAt : ByteArray := prog_1_method_21_code
def yX2_callAt : MethodName := ⟨RX2, "callAt", "(I)LDeadlineCalls$Call;"⟩
abbrev cX2_checkRange : ByteArray := prog_1_method_22_code
def yX2_checkRange : MethodName := ⟨RX2, "checkRange", "(III)V"⟩
abbrev cX2_isFull : ByteArray := prog_1_method_23_code
def yX2_isFull : MethodName := ⟨RX2, "isFull", "()Z"⟩
abbrev cX2_makeCall : ByteArray := prog_1_method_24_code
def yX2_makeCall : MethodName := ⟨RX2, "makeCall", "(LDeadlineCalls$Service;LDeadlineCalls$Call;I)LDeadlineCalls$Call;"⟩
abbrev cX2_begin : ByteArray := prog_1_method_25_code
def yX2_begin : MethodName := ⟨RX2, "begin", "(LDeadlineCalls$Call;)V"⟩
abbrev cX2_startWork : ByteArray := prog_1_method_26_code
def yX2_startWork : MethodName := ⟨RX2, "startWork", "(LDeadlineCalls$Call;)V"⟩
abbrev cX2_finish : ByteArray := prog_1_method_27_code
def yX2_finish : MethodName := ⟨RX2, "finish", "(LDeadlineCalls$Call;I)I"⟩
abbrev cX2_close : ByteArray := prog_1_method_28_code
def yX2_close : MethodName := ⟨RX2, "close", "(LDeadlineCalls$Call;I)V"⟩
abbrev cX2_cutOffHead : ByteArray := prog_1_method_29_code
def yX2_cutOffHead : MethodName := ⟨RX2, "cutOffHead", "()V"⟩
abbrev cX2_endLate : ByteArray := prog_1_method_30_code
def yX2_endLate : MethodName := ⟨RX2, "endLate", "()V"⟩
abbrev cX2_endWork : ByteArray := prog_1_method_31_code
def yX2_endWork : MethodName := ⟨RX2, "endWork", "()V"⟩
abbrev cX2_askAt : ByteArray := prog_1_method_32_code
def yX2_askAt : MethodName := ⟨RX2, "askAt", "(LDeadlineCalls$Call;I)V"⟩
abbrev cX2_judgeAsking : ByteArray := prog_1_method_33_code
def yX2_judgeAsking : MethodName := ⟨RX2, "judgeAsking", "()V"⟩
abbrev cX2_judge : ByteArray := prog_1_method_34_code
def yX2_judge : MethodName := ⟨RX2, "judge", "(LDeadlineCalls$Call;LDeadlineCalls$Service;)V"⟩
abbrev cX2_cancelTries : ByteArray := prog_1_method_35_code
def yX2_cancelTries : MethodName := ⟨RX2, "cancelTries", "(LDeadlineCalls$Call;)V"⟩
abbrev cX2_tryAgain : ByteArray := prog_1_method_36_code
def yX2_tryAgain : MethodName := ⟨RX2, "tryAgain", "(LDeadlineCalls$Call;LDeadlineCalls$Service;)V"⟩
abbrev cX2_makeTries : ByteArray := prog_1_method_37_code
def yX2_makeTries : MethodName := ⟨RX2, "makeTries", "()V"⟩
abbrev cX2_makeTry : ByteArray := prog_1_method_38_code
def yX2_makeTry : MethodName := ⟨RX2, "makeTry", "(LDeadlineCalls$Call;LDeadlineCalls$Service;)V"⟩
abbrev cX2_startQueued : ByteArray := prog_1_method_39_code
def yX2_startQueued : MethodName := ⟨RX2, "startQueued", "()V"⟩
abbrev cX2_startQueuedOf : ByteArray := prog_1_method_40_code
def yX2_startQueuedOf : MethodName := ⟨RX2, "startQueuedOf", "(LDeadlineCalls$Service;)V"⟩
def RX3 : String := "DeadlineCallsModel"
def TX3 : u_T := fun k => match k with
  | 0 => ("DeadlineCallsModel", "thrown", "I", false)
  | 1 => ("DeadlineCallsModel", "time", "I", false)
  | 2 => ("DeadlineCallsModel", "work", "[I", true)
  | 3 => ("DeadlineCallsModel", "each", "[I", true)
  | 4 => ("DeadlineCallsModel", "worked", "[I", true)
  | 5 => ("DeadlineCallsModel", "asks", "[I", true)
  | 6 => ("DeadlineCallsModel", "row", "[I", true)
  | 7 => ("DeadlineCallsModel", "workers", "[I", true)
  | 8 => ("DeadlineCallsModel", "room", "[I", true)
  | 9 => ("DeadlineCallsModel", "patience", "[I", true)
  | 10 => ("DeadlineCallsModel", "tokens", "[I", true)
  | 11 => ("DeadlineCallsModel", "faults", "[I", true)
  | 12 => ("DeadlineCallsModel", "openUntil", "[I", true)
  | 13 => ("DeadlineCallsModel", "calls", "I", false)
  | 14 => ("DeadlineCallsModel", "service", "[I", true)
  | 15 => ("DeadlineCallsModel", "deadline", "[I", true)
  | 16 => ("DeadlineCallsModel", "parent", "[I", true)
  | 17 => ("DeadlineCallsModel", "state", "[I", true)
  | 18 => ("DeadlineCallsModel", "ready", "[I", true)
  | 19 => ("DeadlineCallsModel", "over", "[I", true)
  | 20 => ("DeadlineCallsModel", "made", "[I", true)
  | 21 => ("DeadlineCallsModel", "madeFor", "[I", true)
  | 22 => ("DeadlineCallsModel", "itsRow", "[I", true)
  | 23 => ("DeadlineCallsModel", "itsSize", "[I", true)
  | 24 => ("DeadlineCallsModel", "place", "[I", true)
  | 25 => ("DeadlineCallsModel", "again", "[I", true)
  | 26 => ("DeadlineCallsModel", "wants", "[Z", true)
  | _ => ("DeadlineCallsModel", "makes", "[Z", true)
def tyX3 : Nat → FieldType := fun k => match k with
  | 0 => .int
  | 1 => .int
  | 2 => .array .int
  | 3 => .array .int
  | 4 => .array .int
  | 5 => .array .int
  | 6 => .array .int
  | 7 => .array .int
  | 8 => .array .int
  | 9 => .array .int
  | 10 => .array .int
  | 11 => .array .int
  | 12 => .array .int
  | 13 => .int
  | 14 => .array .int
  | 15 => .array .int
  | 16 => .array .int
  | 17 => .array .int
  | 18 => .array .int
  | 19 => .array .int
  | 20 => .array .int
  | 21 => .array .int
  | 22 => .array .int
  | 23 => .array .int
  | 24 => .array .int
  | 25 => .array .int
  | 26 => .array .boolean
  | _ => .array .boolean
abbrev wsX30 : List Cond := u_ws RX3 TX3 28
theorem nmX3 : ∀ a, a < 28 → ∀ b, b < 28 → a ≠ b → (TX3 a).2.1 ≠ (TX3 b).2.1 := by decide +kernel
theorem tyX3_ok : ∀ k, k < 28 → parseFieldDescriptor (TX3 k).2.2.1 = some (tyX3 k) := by decide +kernel
abbrev cX3_init : ByteArray := prog_5_method_1_code
def yX3_init : MethodName := ⟨RX3, "<init>", "()V"⟩
abbrev cX3_thrown : ByteArray := prog_5_method_2_code
def yX3_thrown : MethodName := ⟨RX3, "thrown", "()I"⟩
abbrev cX3_in : ByteArray := prog_5_method_3_code
def yX3_in : MethodName := ⟨RX3, "in", "(III)Z"⟩
abbrev cX3_isService : ByteArray := prog_5_method_4_code
def yX3_isService : MethodName := ⟨RX3, "isService", "(I)Z"⟩
abbrev cX3_isCall : ByteArray := prog_5_method_5_code
def yX3_isCall : MethodName := ⟨RX3, "isCall", "(I)Z"⟩
abbrev cX3_setWork : ByteArray := prog_5_method_6_code
def yX3_setWork : MethodName := ⟨RX3, "setWork", "(III)I"⟩
abbrev cX3_ask : ByteArray := prog_5_method_7_code
def yX3_ask : MethodName := ⟨RX3, "ask", "(II)I"⟩
abbrev cX3_setRoom : ByteArray := prog_5_method_8_code
def yX3_setRoom : MethodName := ⟨RX3, "setRoom", "(IIII)I"⟩
abbrev cX3_isOver : ByteArray := prog_5_method_9_code
def yX3_isOver : MethodName := ⟨RX3, "isOver", "(I)Z"⟩
abbrev cX3_manyOf : ByteArray := prog_5_method_10_code
def yX3_manyOf : MethodName := ⟨RX3, "manyOf", "(II)I"⟩
abbrev cX3_ends : ByteArray := prog_5_method_11_code
def yX3_ends : MethodName := ⟨RX3, "ends", "(II)I"⟩
abbrev cX3_counts : ByteArray := prog_5_method_12_code
def yX3_counts : MethodName := ⟨RX3, "counts", "(I)V"⟩
abbrev cX3_isOpenNow : ByteArray := prog_5_method_13_code
def yX3_isOpenNow : MethodName := ⟨RX3, "isOpenNow", "(I)Z"⟩
abbrev cX3_works : ByteArray := prog_5_method_14_code
def yX3_works : MethodName := ⟨RX3, "works", "(I)V"⟩
abbrev cX3_begins : ByteArray := prog_5_method_15_code
def yX3_begins : MethodName := ⟨RX3, "begins", "(III)V"⟩
abbrev cX3_call : ByteArray := prog_5_method_16_code
def yX3_call : MethodName := ⟨RX3, "call", "(II)I"⟩
abbrev cX3_cancel : ByteArray := prog_5_method_17_code
def yX3_cancel : MethodName := ⟨RX3, "cancel", "(I)I"⟩
abbrev cX3_late : ByteArray := prog_5_method_18_code
def yX3_late : MethodName := ⟨RX3, "late", "()V"⟩
abbrev cX3_startsAsking : ByteArray := prog_5_method_19_code
def yX3_startsAsking : MethodName := ⟨RX3, "startsAsking", "(I)V"⟩
abbrev cX3_worksOut : ByteArray := prog_5_method_20_code
def yX3_worksOut : MethodName := ⟨RX3, "worksOut", "()V"⟩
abbrev cX3_isTry : ByteArray := prog_5_method_21_code
def yX3_isTry : MethodName := ⟨RX3, "isTry", "(II)Z"⟩
abbrev cX3_goesOn : ByteArray := prog_5_method_22_code
def yX3_goesOn : MethodName := ⟨RX3, "goesOn", "(I)V"⟩
abbrev cX3_looks : ByteArray := prog_5_method_23_code
def yX3_looks : MethodName := ⟨RX3, "looks", "(I)V"⟩
abbrev cX3_makesTries : ByteArray := prog_5_method_24_code
def yX3_makesTries : MethodName := ⟨RX3, "makesTries", "()V"⟩
abbrev cX3_firstQueued : ByteArray := prog_5_method_25_code
def yX3_firstQueued : MethodName := ⟨RX3, "firstQueued", "(I)I"⟩
abbrev cX3_takesQueued : ByteArray := prog_5_method_26_code
def yX3_takesQueued : MethodName := ⟨RX3, "takesQueued", "(I)V"⟩
abbrev cX3_ticks : ByteArray := prog_5_method_27_code
def yX3_ticks : MethodName := ⟨RX3, "ticks", "()V"⟩
abbrev cX3_rootsOver : ByteArray := prog_5_method_28_code
def yX3_rootsOver : MethodName := ⟨RX3, "rootsOver", "()I"⟩
abbrev cX3_pass : ByteArray := prog_5_method_29_code
def yX3_pass : MethodName := ⟨RX3, "pass", "(I)I"⟩
abbrev cX3_time : ByteArray := prog_5_method_30_code
def yX3_time : MethodName := ⟨RX3, "time", "()I"⟩
abbrev cX3_calls : ByteArray := prog_5_method_31_code
def yX3_calls : MethodName := ⟨RX3, "calls", "()I"⟩
abbrev cX3_asksCall : ByteArray := prog_5_method_32_code
def yX3_asksCall : MethodName := ⟨RX3, "asksCall", "(I)Z"⟩
abbrev cX3_state : ByteArray := prog_5_method_33_code
def yX3_state : MethodName := ⟨RX3, "state", "(I)I"⟩
abbrev cX3_origin : ByteArray := prog_5_method_34_code
def yX3_origin : MethodName := ⟨RX3, "origin", "(I)I"⟩
abbrev cX3_deadline : ByteArray := prog_5_method_35_code
def yX3_deadline : MethodName := ⟨RX3, "deadline", "(I)I"⟩
abbrev cX3_overAt : ByteArray := prog_5_method_36_code
def yX3_overAt : MethodName := ⟨RX3, "overAt", "(I)I"⟩
abbrev cX3_place : ByteArray := prog_5_method_37_code
def yX3_place : MethodName := ⟨RX3, "place", "(I)I"⟩
abbrev cX3_isBelow : ByteArray := prog_5_method_38_code
def yX3_isBelow : MethodName := ⟨RX3, "isBelow", "(II)Z"⟩
abbrev cX3_below : ByteArray := prog_5_method_39_code
def yX3_below : MethodName := ⟨RX3, "below", "(I)I"⟩
abbrev cX3_queuedAt : ByteArray := prog_5_method_40_code
def yX3_queuedAt : MethodName := ⟨RX3, "queuedAt", "(II)I"⟩
abbrev cX3_count : ByteArray := prog_5_method_41_code
def yX3_count : MethodName := ⟨RX3, "count", "(II)I"⟩
abbrev cX3_tokens : ByteArray := prog_5_method_42_code
def yX3_tokens : MethodName := ⟨RX3, "tokens", "(I)I"⟩
abbrev cX3_isOpen : ByteArray := prog_5_method_43_code
def yX3_isOpen : MethodName := ⟨RX3, "isOpen", "(I)Z"⟩
def RJ0 : String := "java/lang/String"
def TJ0 : u_T := fun k => match k with
  | _ => ("", "", "", false)
def tyJ0 : Nat → FieldType := fun k => match k with
  | _ => .int
theorem nmJ0 : ∀ a, a < 0 → ∀ b, b < 0 → a ≠ b → (TJ0 a).2.1 ≠ (TJ0 b).2.1 := by decide +kernel
theorem tyJ0_ok : ∀ k, k < 0 → parseFieldDescriptor (TJ0 k).2.2.1 = some (tyJ0 k) := by decide +kernel
def RL : String := "DeadlineCallsLaw"
abbrev cL_setWork : ByteArray := method_3_code
def yL_setWork : MethodName := ⟨RL, "setWork", "(LDeadlineCalls;III[J)I"⟩
abbrev cL_ask : ByteArray := method_4_code
def yL_ask : MethodName := ⟨RL, "ask", "(LDeadlineCalls;II[J)I"⟩
abbrev cL_setRoom : ByteArray := method_5_code
def yL_setRoom : MethodName := ⟨RL, "setRoom", "(LDeadlineCalls;IIII[J)I"⟩
abbrev cL_call : ByteArray := method_6_code
def yL_call : MethodName := ⟨RL, "call", "(LDeadlineCalls;II[J)I"⟩
abbrev cL_cancel : ByteArray := method_7_code
def yL_cancel : MethodName := ⟨RL, "cancel", "(LDeadlineCalls;I[J)I"⟩
abbrev cL_pass : ByteArray := method_8_code
def yL_pass : MethodName := ⟨RL, "pass", "(LDeadlineCalls;I[J)I"⟩
abbrev cL_state : ByteArray := method_9_code
def yL_state : MethodName := ⟨RL, "state", "(LDeadlineCalls;I[J)I"⟩
abbrev cL_origin : ByteArray := method_10_code
def yL_origin : MethodName := ⟨RL, "origin", "(LDeadlineCalls;I[J)I"⟩
abbrev cL_deadline : ByteArray := method_11_code
def yL_deadline : MethodName := ⟨RL, "deadline", "(LDeadlineCalls;I[J)I"⟩
abbrev cL_overAt : ByteArray := method_12_code
def yL_overAt : MethodName := ⟨RL, "overAt", "(LDeadlineCalls;I[J)I"⟩
abbrev cL_place : ByteArray := method_13_code
def yL_place : MethodName := ⟨RL, "place", "(LDeadlineCalls;I[J)I"⟩
abbrev cL_below : ByteArray := method_14_code
def yL_below : MethodName := ⟨RL, "below", "(LDeadlineCalls;I[J)I"⟩
abbrev cL_queuedAt : ByteArray := method_15_code
def yL_queuedAt : MethodName := ⟨RL, "queuedAt", "(LDeadlineCalls;II[J)I"⟩
abbrev cL_count : ByteArray := method_16_code
def yL_count : MethodName := ⟨RL, "count", "(LDeadlineCalls;II[J)I"⟩
abbrev cL_tokens : ByteArray := method_17_code
def yL_tokens : MethodName := ⟨RL, "tokens", "(LDeadlineCalls;I[J)I"⟩
abbrev cL_isOpen : ByteArray := method_18_code
def yL_isOpen : MethodName := ⟨RL, "isOpen", "(LDeadlineCalls;I[J)I"⟩
abbrev cL_law : ByteArray := code
def yL_law : MethodName := ⟨RL, "law", "([I)Z"⟩
def wsL_law0_r1 : List Cond := [Cond.classLink RL 8 RX2, Cond.instantiable RX2 7, Cond.initialized RX2, Cond.classLink RL 69 RX3, Cond.instantiable RX3 28, Cond.initialized RX3, Cond.arrayClass .long, Cond.methodLink RL 68 yX2_init, Cond.instanceMethod yX2_init, Cond.code yX2_init cX2_init 2 none, Cond.methodLink RX2 1 objectInit, Cond.instanceMethod objectInit, Cond.code objectInit ⟨#[0xb1]⟩ 1 none, Cond.classLink RX2 9 RX1, Cond.fieldLink RX2 11 "DeadlineCalls" "services" "[LDeadlineCalls$Service;", Cond.classLink RX2 15 RX0, Cond.fieldLink RX2 17 "DeadlineCalls" "numbered" "[LDeadlineCalls$Call;", Cond.instantiable RX1 13, Cond.initialized RX1, Cond.methodLink RX2 21 yX1_init, Cond.instanceMethod yX1_init, Cond.code yX1_init cX1_init 2 none, Cond.methodLink RX1 3 objectInit, Cond.fieldLink RX1 9 "DeadlineCalls$Service" "work" "I"]
def wsL_law0_r2 : List Cond := [Cond.fieldLink RX1 15 "DeadlineCalls$Service" "workers" "I", Cond.fieldLink RX1 18 "DeadlineCalls$Service" "room" "I", Cond.fieldLink RX1 21 "DeadlineCalls$Service" "tokens" "I", Cond.classLink RX1 10 RX1, Cond.fieldLink RX1 24 "DeadlineCalls$Service" "row" "[LDeadlineCalls$Service;", Cond.arrayClass .int, Cond.fieldLink RX1 28 "DeadlineCalls$Service" "counts" "[I", Cond.fieldLink RX1 32 "DeadlineCalls$Service" "number" "I", Cond.methodLink RL 71 yX3_init, Cond.instanceMethod yX3_init, Cond.code yX3_init cX3_init 1 none, Cond.methodLink RX3 1 objectInit, Cond.fieldLink RX3 7 "DeadlineCallsModel" "work" "[I", Cond.fieldLink RX3 13 "DeadlineCallsModel" "each" "[I", Cond.fieldLink RX3 16 "DeadlineCallsModel" "worked" "[I", Cond.fieldLink RX3 19 "DeadlineCallsModel" "asks" "[I", Cond.fieldLink RX3 22 "DeadlineCallsModel" "row" "[I", Cond.fieldLink RX3 25 "DeadlineCallsModel" "workers" "[I", Cond.fieldLink RX3 28 "DeadlineCallsModel" "room" "[I", Cond.fieldLink RX3 31 "DeadlineCallsModel" "patience" "[I", Cond.fieldLink RX3 34 "DeadlineCallsModel" "tokens" "[I", Cond.fieldLink RX3 37 "DeadlineCallsModel" "faults" "[I", Cond.fieldLink RX3 40 "DeadlineCallsModel" "openUntil" "[I", Cond.fieldLink RX3 43 "DeadlineCallsModel" "service" "[I"]
def wsL_law0_r3 : List Cond := [Cond.fieldLink RX3 46 "DeadlineCallsModel" "deadline" "[I", Cond.fieldLink RX3 49 "DeadlineCallsModel" "parent" "[I", Cond.fieldLink RX3 52 "DeadlineCallsModel" "state" "[I", Cond.fieldLink RX3 55 "DeadlineCallsModel" "ready" "[I", Cond.fieldLink RX3 58 "DeadlineCallsModel" "over" "[I", Cond.fieldLink RX3 61 "DeadlineCallsModel" "made" "[I", Cond.fieldLink RX3 64 "DeadlineCallsModel" "madeFor" "[I", Cond.fieldLink RX3 67 "DeadlineCallsModel" "itsRow" "[I", Cond.fieldLink RX3 70 "DeadlineCallsModel" "itsSize" "[I", Cond.fieldLink RX3 73 "DeadlineCallsModel" "place" "[I", Cond.fieldLink RX3 76 "DeadlineCallsModel" "again" "[I", Cond.arrayClass .boolean, Cond.fieldLink RX3 79 "DeadlineCallsModel" "wants" "[Z", Cond.fieldLink RX3 83 "DeadlineCallsModel" "makes" "[Z", Cond.methodLink RL 72 yL_setWork, Cond.static yL_setWork, Cond.initialized RL, Cond.codeWith yL_setWork cL_setWork 6 (some .int) [(0, 12, 15, 13), (0, 12, 19, 15)], Cond.classLink RL 13 "java/lang/IndexOutOfBoundsException", Cond.classLink RL 15 "java/lang/IllegalArgumentException", Cond.methodLink RL 7 yX2_setWork, Cond.instanceMethod yX2_setWork, Cond.selects RX2 yX2_setWork yX2_setWork, Cond.code yX2_setWork cX2_setWork 6 (some .int)]
def wsL_law0_r4 : List Cond := [Cond.fieldLink RX2 32 "DeadlineCalls$Service" "work" "I", Cond.fieldLink RX2 36 "DeadlineCalls$Service" "each" "I", Cond.fieldLink RX2 39 "DeadlineCalls$Service" "worked" "I", Cond.methodLink RX2 24 yX2_serviceAt, Cond.instanceMethod yX2_serviceAt, Cond.selects RX2 yX2_serviceAt yX2_serviceAt, Cond.code yX2_serviceAt cX2_serviceAt 3 (some (.object "DeadlineCalls$Service")), Cond.classLink RX2 162 "java/lang/IndexOutOfBoundsException", Cond.initialized "java/lang/IndexOutOfBoundsException", Cond.methodLink RX2 28 yX2_checkRange, Cond.static yX2_checkRange, Cond.code yX2_checkRange cX2_checkRange 3 none, Cond.classLink RX2 42 "java/lang/IllegalArgumentException", Cond.initialized "java/lang/IllegalArgumentException", Cond.methodLink RL 77 yX3_setWork, Cond.instanceMethod yX3_setWork, Cond.selects RX3 yX3_setWork yX3_setWork, Cond.code yX3_setWork cX3_setWork 5 (some .int), Cond.fieldLink RX3 86 "DeadlineCallsModel" "thrown" "I", Cond.methodLink RX3 97 yX3_isService, Cond.static yX3_isService, Cond.code yX3_isService cX3_isService 1 (some .boolean), Cond.methodLink RX3 90 yX3_in, Cond.static yX3_in]
def wsL_law0_r5 : List Cond := [Cond.code yX3_in cX3_in 3 (some .boolean), Cond.methodLink RL 78 yX3_thrown, Cond.instanceMethod yX3_thrown, Cond.selects RX3 yX3_thrown yX3_thrown, Cond.code yX3_thrown cX3_thrown 1 (some .int), Cond.methodLink RL 82 yL_ask, Cond.static yL_ask, Cond.codeWith yL_ask cL_ask 5 (some .int) [(0, 10, 13, 13), (0, 10, 17, 15), (0, 10, 21, 21)], Cond.classLink RL 21 "java/lang/IllegalStateException", Cond.methodLink RL 17 yX2_ask, Cond.instanceMethod yX2_ask, Cond.selects RX2 yX2_ask yX2_ask, Cond.code yX2_ask cX2_ask 5 (some .int), Cond.classLink RX2 53 "java/lang/IllegalStateException", Cond.initialized "java/lang/IllegalStateException", Cond.fieldLink RX2 58 "DeadlineCalls$Service" "rowLength" "I", Cond.methodLink RX2 49 yX1_addToRow, Cond.instanceMethod yX1_addToRow, Cond.selects RX1 yX1_addToRow yX1_addToRow, Cond.code yX1_addToRow cX1_addToRow 2 (some .boolean), Cond.fieldLink RX1 35 "DeadlineCalls$Service" "rowLength" "I", Cond.methodLink RL 85 yX3_ask, Cond.instanceMethod yX3_ask, Cond.selects RX3 yX3_ask yX3_ask]
def wsL_law0_r6 : List Cond := [Cond.code yX3_ask cX3_ask 3 (some .int), Cond.methodLink RL 86 yL_setRoom, Cond.static yL_setRoom, Cond.codeWith yL_setRoom cL_setRoom 7 (some .int) [(0, 14, 17, 13), (0, 14, 21, 15)], Cond.methodLink RL 23 yX2_setRoom, Cond.instanceMethod yX2_setRoom, Cond.selects RX2 yX2_setRoom yX2_setRoom, Cond.code yX2_setRoom cX2_setRoom 7 (some .int), Cond.fieldLink RX2 61 "DeadlineCalls$Service" "workers" "I", Cond.fieldLink RX2 64 "DeadlineCalls$Service" "room" "I", Cond.fieldLink RX2 67 "DeadlineCalls$Service" "patience" "I", Cond.methodLink RL 89 yX3_setRoom, Cond.instanceMethod yX3_setRoom, Cond.selects RX3 yX3_setRoom yX3_setRoom, Cond.code yX3_setRoom cX3_setRoom 7 (some .int), Cond.methodLink RL 90 yL_call, Cond.static yL_call, Cond.codeWith yL_call cL_call 5 (some .int) [(0, 10, 13, 13), (0, 10, 17, 15), (0, 10, 21, 21)], Cond.methodLink RL 27 yX2_call, Cond.instanceMethod yX2_call, Cond.selects RX2 yX2_call yX2_call, Cond.code yX2_call cX2_call 5 (some .int), Cond.fieldLink RX2 76 "DeadlineCalls" "now" "I", Cond.fieldLink RX2 87 "DeadlineCalls$Call" "number" "I"]
def wsL_law0_r7 : List Cond := [Cond.methodLink RX2 70 yX2_isFull, Cond.instanceMethod yX2_isFull, Cond.selects RX2 yX2_isFull yX2_isFull, Cond.code yX2_isFull cX2_isFull 1 (some .boolean), Cond.fieldLink RX2 128 "DeadlineCalls" "made" "I", Cond.methodLink RX2 79 yX2_makeCall, Cond.instanceMethod yX2_makeCall, Cond.selects RX2 yX2_makeCall yX2_makeCall, Cond.code yX2_makeCall cX2_makeCall 5 (some (.object "DeadlineCalls$Call")), Cond.instantiable RX0 18, Cond.initialized RX0, Cond.fieldLink RX2 187 "DeadlineCalls" "newest" "LDeadlineCalls$Call;", Cond.fieldLink RX2 190 "DeadlineCalls$Call" "previous" "LDeadlineCalls$Call;", Cond.fieldLink RX2 155 "DeadlineCalls" "oldest" "LDeadlineCalls$Call;", Cond.fieldLink RX2 148 "DeadlineCalls$Call" "next" "LDeadlineCalls$Call;", Cond.methodLink RX2 184 yX0_init, Cond.instanceMethod yX0_init, Cond.code yX0_init cX0_init 5 none, Cond.methodLink RX0 3 objectInit, Cond.fieldLink RX0 9 "DeadlineCalls$Call" "state" "I", Cond.fieldLink RX0 15 "DeadlineCalls$Call" "overAt" "I", Cond.fieldLink RX0 18 "DeadlineCalls$Call" "number" "I", Cond.fieldLink RX0 21 "DeadlineCalls$Call" "service" "LDeadlineCalls$Service;", Cond.fieldLink RX0 25 "DeadlineCalls$Call" "parent" "LDeadlineCalls$Call;"]
def wsL_law0_r8 : List Cond := [Cond.fieldLink RX0 29 "DeadlineCalls$Call" "deadline" "I", Cond.methodLink RX2 83 yX2_begin, Cond.instanceMethod yX2_begin, Cond.selects RX2 yX2_begin yX2_begin, Cond.code yX2_begin cX2_begin 3 none, Cond.fieldLink RX2 134 "DeadlineCalls$Call" "service" "LDeadlineCalls$Service;", Cond.methodLink RX2 174 yX1_refusesAt, Cond.instanceMethod yX1_refusesAt, Cond.selects RX1 yX1_refusesAt yX1_refusesAt, Cond.code yX1_refusesAt cX1_refusesAt 2 (some .boolean), Cond.fieldLink RX1 42 "DeadlineCalls$Service" "openUntil" "I", Cond.methodLink RX2 103 yX2_finish, Cond.instanceMethod yX2_finish, Cond.selects RX2 yX2_finish yX2_finish, Cond.code yX2_finish cX2_finish 5 (some .int), Cond.fieldLink RX2 97 "DeadlineCalls$Call" "parent" "LDeadlineCalls$Call;", Cond.methodLink RX2 211 yX2_close, Cond.instanceMethod yX2_close, Cond.selects RX2 yX2_close yX2_close, Cond.code yX2_close cX2_close 3 none, Cond.fieldLink RX2 142 "DeadlineCalls$Call" "overAt" "I", Cond.fieldLink RX2 107 "DeadlineCalls" "rootsOver" "I", Cond.methodLink RX2 205 yX0_become, Cond.instanceMethod yX0_become]
def wsL_law0_r9 : List Cond := [Cond.selects RX0 yX0_become yX0_become, Cond.code yX0_become cX0_become 3 none, Cond.fieldLink RX0 37 "DeadlineCalls$Service" "counts" "[I", Cond.methodLink RX2 215 yX1_noteDone, Cond.instanceMethod yX1_noteDone, Cond.selects RX1 yX1_noteDone yX1_noteDone, Cond.code yX1_noteDone cX1_noteDone 1 none, Cond.fieldLink RX1 54 "DeadlineCalls$Service" "troubles" "I", Cond.methodLink RX2 218 yX0_noteTryOver, Cond.instanceMethod yX0_noteTryOver, Cond.selects RX0 yX0_noteTryOver yX0_noteTryOver, Cond.code yX0_noteTryOver cX0_noteTryOver 2 none, Cond.fieldLink RX0 71 "DeadlineCalls$Call" "openTries" "I", Cond.fieldLink RX0 62 "DeadlineCalls$Call" "isAnswered" "Z", Cond.methodLink RX2 94 yX0_isOver, Cond.instanceMethod yX0_isOver, Cond.selects RX0 yX0_isOver yX0_isOver, Cond.code yX0_isOver cX0_isOver 1 (some .boolean), Cond.methodLink RX2 193 yX0_canBeDone, Cond.instanceMethod yX0_canBeDone, Cond.selects RX0 yX0_canBeDone yX0_canBeDone, Cond.code yX0_canBeDone cX0_canBeDone 2 (some .boolean), Cond.fieldLink RX0 32 "DeadlineCalls$Service" "work" "I", Cond.methodLink RX2 196 yX1_hasFreeWorker]
def wsL_law0_r10 : List Cond := [Cond.instanceMethod yX1_hasFreeWorker, Cond.selects RX1 yX1_hasFreeWorker yX1_hasFreeWorker, Cond.code yX1_hasFreeWorker cX1_hasFreeWorker 1 (some .boolean), Cond.methodLink RX1 38 yX1_countOf, Cond.instanceMethod yX1_countOf, Cond.selects RX1 yX1_countOf yX1_countOf, Cond.code yX1_countOf cX1_countOf 2 (some .int), Cond.methodLink RX2 199 yX2_startWork, Cond.instanceMethod yX2_startWork, Cond.selects RX2 yX2_startWork yX2_startWork, Cond.code yX2_startWork cX2_startWork 2 none, Cond.fieldLink RX2 208 "DeadlineCalls$Call" "readyAt" "I", Cond.methodLink RX2 202 yX1_hasRoom, Cond.instanceMethod yX1_hasRoom, Cond.selects RX1 yX1_hasRoom yX1_hasRoom, Cond.code yX1_hasRoom cX1_hasRoom 1 (some .boolean), Cond.methodLink RL 92 yX3_call, Cond.instanceMethod yX3_call, Cond.selects RX3 yX3_call yX3_call, Cond.code yX3_call cX3_call 3 (some .int), Cond.fieldLink RX3 94 "DeadlineCallsModel" "calls" "I", Cond.fieldLink RX3 101 "DeadlineCallsModel" "time" "I", Cond.methodLink RX3 121 yX3_begins, Cond.instanceMethod yX3_begins]
def wsL_law0_r11 : List Cond := [Cond.selects RX3 yX3_begins yX3_begins, Cond.code yX3_begins cX3_begins 7 none, Cond.methodLink RX3 107 yX3_manyOf, Cond.instanceMethod yX3_manyOf, Cond.selects RX3 yX3_manyOf yX3_manyOf, Cond.code yX3_manyOf cX3_manyOf 5 (some .int), Cond.methodLink RX3 111 yX3_isOpenNow, Cond.instanceMethod yX3_isOpenNow, Cond.selects RX3 yX3_isOpenNow yX3_isOpenNow, Cond.code yX3_isOpenNow cX3_isOpenNow 2 (some .boolean), Cond.methodLink RX3 114 yX3_ends, Cond.instanceMethod yX3_ends, Cond.selects RX3 yX3_ends yX3_ends, Cond.code yX3_ends cX3_ends 5 (some .int), Cond.methodLink RX3 104 yX3_isOver, Cond.instanceMethod yX3_isOver, Cond.selects RX3 yX3_isOver yX3_isOver, Cond.code yX3_isOver cX3_isOver 2 (some .boolean), Cond.methodLink RX3 117 yX3_works, Cond.instanceMethod yX3_works, Cond.selects RX3 yX3_works yX3_works, Cond.code yX3_works cX3_works 2 none, Cond.methodLink RL 93 yL_cancel, Cond.static yL_cancel]
def wsL_law0_r12 : List Cond := [Cond.codeWith yL_cancel cL_cancel 4 (some .int) [(0, 9, 12, 13), (0, 9, 15, 21)], Cond.methodLink RL 30 yX2_cancel, Cond.instanceMethod yX2_cancel, Cond.selects RX2 yX2_cancel yX2_cancel, Cond.code yX2_cancel cX2_cancel 3 (some .int), Cond.methodLink RX2 90 yX2_callAt, Cond.instanceMethod yX2_callAt, Cond.selects RX2 yX2_callAt yX2_callAt, Cond.code yX2_callAt cX2_callAt 3 (some (.object "DeadlineCalls$Call")), Cond.methodLink RL 96 yX3_cancel, Cond.instanceMethod yX3_cancel, Cond.selects RX3 yX3_cancel yX3_cancel, Cond.code yX3_cancel cX3_cancel 2 (some .int), Cond.methodLink RX3 125 yX3_isCall, Cond.instanceMethod yX3_isCall, Cond.selects RX3 yX3_isCall yX3_isCall, Cond.code yX3_isCall cX3_isCall 2 (some .boolean), Cond.methodLink RL 97 yL_pass, Cond.static yL_pass, Cond.codeWith yL_pass cL_pass 4 (some .int) [(0, 9, 12, 15)], Cond.methodLink RL 34 yX2_pass, Cond.instanceMethod yX2_pass, Cond.selects RX2 yX2_pass yX2_pass, Cond.code yX2_pass cX2_pass 4 (some .int)]
def wsL_law0_r13 : List Cond := [Cond.methodLink RX2 110 yX2_cutOffHead, Cond.instanceMethod yX2_cutOffHead, Cond.selects RX2 yX2_cutOffHead yX2_cutOffHead, Cond.code yX2_cutOffHead cX2_cutOffHead 2 none, Cond.methodLink RX2 113 yX2_endLate, Cond.instanceMethod yX2_endLate, Cond.selects RX2 yX2_endLate yX2_endLate, Cond.code yX2_endLate cX2_endLate 2 none, Cond.fieldLink RX2 139 "DeadlineCalls$Call" "deadline" "I", Cond.methodLink RX2 221 yX1_noteTrouble, Cond.instanceMethod yX1_noteTrouble, Cond.selects RX1 yX1_noteTrouble yX1_noteTrouble, Cond.code yX1_noteTrouble cX1_noteTrouble 2 none, Cond.methodLink RX2 116 yX2_endWork, Cond.instanceMethod yX2_endWork, Cond.selects RX2 yX2_endWork yX2_endWork, Cond.code yX2_endWork cX2_endWork 2 none, Cond.fieldLink RX2 131 "DeadlineCalls$Call" "state" "I", Cond.fieldLink RX2 227 "DeadlineCalls$Call" "rowLength" "I", Cond.methodLink RX2 224 yX1_failsNextWork, Cond.instanceMethod yX1_failsNextWork, Cond.selects RX1 yX1_failsNextWork yX1_failsNextWork, Cond.code yX1_failsNextWork cX1_failsNextWork 1 (some .boolean), Cond.fieldLink RX1 45 "DeadlineCalls$Service" "worked" "I"]
def wsL_law0_r14 : List Cond := [Cond.fieldLink RX1 48 "DeadlineCalls$Service" "each" "I", Cond.methodLink RX2 228 yX2_askAt, Cond.instanceMethod yX2_askAt, Cond.selects RX2 yX2_askAt yX2_askAt, Cond.code yX2_askAt cX2_askAt 4 none, Cond.methodLink RX2 231 yX0_rowAt, Cond.instanceMethod yX0_rowAt, Cond.selects RX0 yX0_rowAt yX0_rowAt, Cond.code yX0_rowAt cX0_rowAt 3 (some (.object "DeadlineCalls$Service")), Cond.fieldLink RX0 41 "DeadlineCalls$Service" "row" "[LDeadlineCalls$Service;", Cond.fieldLink RX0 45 "DeadlineCalls$Call" "rowLength" "I", Cond.methodLink RX2 234 yX0_askNow, Cond.instanceMethod yX0_askNow, Cond.selects RX0 yX0_askNow yX0_askNow, Cond.code yX0_askNow cX0_askNow 3 none, Cond.fieldLink RX0 52 "DeadlineCalls$Call" "asked" "LDeadlineCalls$Service;", Cond.fieldLink RX0 55 "DeadlineCalls$Call" "place" "I", Cond.fieldLink RX0 58 "DeadlineCalls$Call" "wantsTry" "Z", Cond.fieldLink RX0 65 "DeadlineCalls$Call" "tries" "I", Cond.fieldLink RX0 68 "DeadlineCalls$Call" "triesAgain" "I", Cond.methodLink RX0 48 yX0_become, Cond.methodLink RX2 119 yX2_judgeAsking, Cond.instanceMethod yX2_judgeAsking, Cond.selects RX2 yX2_judgeAsking yX2_judgeAsking]
def wsL_law0_r15 : List Cond := [Cond.code yX2_judgeAsking cX2_judgeAsking 3 none, Cond.fieldLink RX2 238 "DeadlineCalls$Call" "asked" "LDeadlineCalls$Service;", Cond.fieldLink RX2 241 "DeadlineCalls$Call" "wantsTry" "Z", Cond.methodLink RX2 245 yX2_judge, Cond.instanceMethod yX2_judge, Cond.selects RX2 yX2_judge yX2_judge, Cond.code yX2_judge cX2_judge 3 none, Cond.fieldLink RX2 249 "DeadlineCalls$Call" "isAnswered" "Z", Cond.fieldLink RX2 145 "DeadlineCalls$Call" "place" "I", Cond.fieldLink RX2 255 "DeadlineCalls$Call" "openTries" "I", Cond.fieldLink RX2 261 "DeadlineCalls$Call" "tries" "I", Cond.fieldLink RX2 264 "DeadlineCalls$Call" "triedAt" "I", Cond.methodLink RX2 252 yX2_cancelTries, Cond.instanceMethod yX2_cancelTries, Cond.selects RX2 yX2_cancelTries yX2_cancelTries, Cond.code yX2_cancelTries cX2_cancelTries 3 none, Cond.methodLink RX2 258 yX2_tryAgain, Cond.instanceMethod yX2_tryAgain, Cond.selects RX2 yX2_tryAgain yX2_tryAgain, Cond.code yX2_tryAgain cX2_tryAgain 3 none, Cond.fieldLink RX2 270 "DeadlineCalls$Call" "triesAgain" "I", Cond.methodLink RX2 273 yX1_payForTry, Cond.instanceMethod yX1_payForTry, Cond.selects RX1 yX1_payForTry yX1_payForTry]
def wsL_law0_r16 : List Cond := [Cond.code yX1_payForTry cX1_payForTry 1 (some .boolean), Cond.methodLink RX2 267 yX1_isTooLong, Cond.instanceMethod yX1_isTooLong, Cond.selects RX1 yX1_isTooLong yX1_isTooLong, Cond.code yX1_isTooLong cX1_isTooLong 2 (some .boolean), Cond.fieldLink RX1 51 "DeadlineCalls$Service" "patience" "I", Cond.methodLink RX2 122 yX2_makeTries, Cond.instanceMethod yX2_makeTries, Cond.selects RX2 yX2_makeTries yX2_makeTries, Cond.code yX2_makeTries cX2_makeTries 3 none, Cond.methodLink RX2 276 yX2_makeTry, Cond.instanceMethod yX2_makeTry, Cond.selects RX2 yX2_makeTry yX2_makeTry, Cond.code yX2_makeTry cX2_makeTry 3 none, Cond.methodLink RX2 279 yX0_noteTry, Cond.instanceMethod yX0_noteTry, Cond.selects RX0 yX0_noteTry yX0_noteTry, Cond.code yX0_noteTry cX0_noteTry 2 none, Cond.fieldLink RX0 74 "DeadlineCalls$Call" "triedAt" "I", Cond.methodLink RX2 125 yX2_startQueued, Cond.instanceMethod yX2_startQueued, Cond.selects RX2 yX2_startQueued yX2_startQueued, Cond.code yX2_startQueued cX2_startQueued 3 none, Cond.methodLink RX2 167 yX1_countOf]
def wsL_law0_r17 : List Cond := [Cond.methodLink RX2 282 yX2_startQueuedOf, Cond.instanceMethod yX2_startQueuedOf, Cond.selects RX2 yX2_startQueuedOf yX2_startQueuedOf, Cond.code yX2_startQueuedOf cX2_startQueuedOf 3 none, Cond.methodLink RX2 158 yX0_isOf, Cond.instanceMethod yX0_isOf, Cond.selects RX0 yX0_isOf yX0_isOf, Cond.code yX0_isOf cX0_isOf 3 (some .boolean), Cond.methodLink RL 99 yX3_pass, Cond.instanceMethod yX3_pass, Cond.selects RX3 yX3_pass yX3_pass, Cond.code yX3_pass cX3_pass 4 (some .int), Cond.methodLink RX3 160 yX3_rootsOver, Cond.instanceMethod yX3_rootsOver, Cond.selects RX3 yX3_rootsOver yX3_rootsOver, Cond.code yX3_rootsOver cX3_rootsOver 3 (some .int), Cond.methodLink RX3 164 yX3_ticks, Cond.instanceMethod yX3_ticks, Cond.selects RX3 yX3_ticks yX3_ticks, Cond.code yX3_ticks cX3_ticks 2 none, Cond.methodLink RX3 145 yX3_late, Cond.instanceMethod yX3_late, Cond.selects RX3 yX3_late yX3_late, Cond.code yX3_late cX3_late 2 none]
def wsL_law0_r18 : List Cond := [Cond.methodLink RX3 128 yX3_counts, Cond.instanceMethod yX3_counts, Cond.selects RX3 yX3_counts yX3_counts, Cond.code yX3_counts cX3_counts 2 none, Cond.methodLink RX3 148 yX3_worksOut, Cond.instanceMethod yX3_worksOut, Cond.selects RX3 yX3_worksOut yX3_worksOut, Cond.code yX3_worksOut cX3_worksOut 3 none, Cond.methodLink RX3 131 yX3_startsAsking, Cond.instanceMethod yX3_startsAsking, Cond.selects RX3 yX3_startsAsking yX3_startsAsking, Cond.code yX3_startsAsking cX3_startsAsking 4 none, Cond.methodLink RX3 151 yX3_looks, Cond.instanceMethod yX3_looks, Cond.selects RX3 yX3_looks yX3_looks, Cond.code yX3_looks cX3_looks 7 none, Cond.methodLink RX3 134 yX3_isTry, Cond.instanceMethod yX3_isTry, Cond.selects RX3 yX3_isTry yX3_isTry, Cond.code yX3_isTry cX3_isTry 3 (some .boolean), Cond.methodLink RX3 138 yX3_goesOn, Cond.instanceMethod yX3_goesOn, Cond.selects RX3 yX3_goesOn yX3_goesOn, Cond.code yX3_goesOn cX3_goesOn 3 none]
def wsL_law0_r19 : List Cond := [Cond.methodLink RX3 154 yX3_makesTries, Cond.instanceMethod yX3_makesTries, Cond.selects RX3 yX3_makesTries yX3_makesTries, Cond.code yX3_makesTries cX3_makesTries 3 none, Cond.methodLink RX3 157 yX3_takesQueued, Cond.instanceMethod yX3_takesQueued, Cond.selects RX3 yX3_takesQueued yX3_takesQueued, Cond.code yX3_takesQueued cX3_takesQueued 3 none, Cond.methodLink RX3 141 yX3_firstQueued, Cond.instanceMethod yX3_firstQueued, Cond.selects RX3 yX3_firstQueued yX3_firstQueued, Cond.code yX3_firstQueued cX3_firstQueued 4 (some .int), Cond.methodLink RL 100 yX2_time, Cond.instanceMethod yX2_time, Cond.selects RX2 yX2_time yX2_time, Cond.code yX2_time cX2_time 1 (some .int), Cond.methodLink RL 103 yX3_time, Cond.instanceMethod yX3_time, Cond.selects RX3 yX3_time yX3_time, Cond.code yX3_time cX3_time 1 (some .int), Cond.methodLink RL 104 yX2_calls, Cond.instanceMethod yX2_calls, Cond.selects RX2 yX2_calls yX2_calls, Cond.code yX2_calls cX2_calls 1 (some .int)]
def wsL_law0_r20 : List Cond := [Cond.methodLink RL 107 yX3_calls, Cond.instanceMethod yX3_calls, Cond.selects RX3 yX3_calls yX3_calls, Cond.code yX3_calls cX3_calls 1 (some .int), Cond.methodLink RL 108 yL_state, Cond.static yL_state, Cond.codeWith yL_state cL_state 4 (some .int) [(0, 9, 12, 13)], Cond.methodLink RL 37 yX2_state, Cond.instanceMethod yX2_state, Cond.selects RX2 yX2_state yX2_state, Cond.code yX2_state cX2_state 2 (some .int), Cond.methodLink RL 110 yX3_state, Cond.instanceMethod yX3_state, Cond.selects RX3 yX3_state yX3_state, Cond.code yX3_state cX3_state 2 (some .int), Cond.methodLink RX3 167 yX3_asksCall, Cond.instanceMethod yX3_asksCall, Cond.selects RX3 yX3_asksCall yX3_asksCall, Cond.code yX3_asksCall cX3_asksCall 2 (some .boolean), Cond.methodLink RL 111 yL_origin, Cond.static yL_origin, Cond.codeWith yL_origin cL_origin 4 (some .int) [(0, 9, 12, 13)], Cond.methodLink RL 40 yX2_origin, Cond.instanceMethod yX2_origin]
def wsL_law0_r21 : List Cond := [Cond.selects RX2 yX2_origin yX2_origin, Cond.code yX2_origin cX2_origin 4 (some .int), Cond.fieldLink RX2 138 "DeadlineCalls$Service" "number" "I", Cond.methodLink RL 113 yX3_origin, Cond.instanceMethod yX3_origin, Cond.selects RX3 yX3_origin yX3_origin, Cond.code yX3_origin cX3_origin 2 (some .int), Cond.methodLink RL 114 yL_deadline, Cond.static yL_deadline, Cond.codeWith yL_deadline cL_deadline 4 (some .int) [(0, 9, 12, 13)], Cond.methodLink RL 43 yX2_deadline, Cond.instanceMethod yX2_deadline, Cond.selects RX2 yX2_deadline yX2_deadline, Cond.code yX2_deadline cX2_deadline 2 (some .int), Cond.methodLink RL 116 yX3_deadline, Cond.instanceMethod yX3_deadline, Cond.selects RX3 yX3_deadline yX3_deadline, Cond.code yX3_deadline cX3_deadline 2 (some .int), Cond.methodLink RL 117 yL_overAt, Cond.static yL_overAt, Cond.codeWith yL_overAt cL_overAt 4 (some .int) [(0, 9, 12, 13)], Cond.methodLink RL 46 yX2_overAt, Cond.instanceMethod yX2_overAt, Cond.selects RX2 yX2_overAt yX2_overAt]
def wsL_law0_r22 : List Cond := [Cond.code yX2_overAt cX2_overAt 2 (some .int), Cond.methodLink RL 119 yX3_overAt, Cond.instanceMethod yX3_overAt, Cond.selects RX3 yX3_overAt yX3_overAt, Cond.code yX3_overAt cX3_overAt 2 (some .int), Cond.methodLink RL 120 yL_place, Cond.static yL_place, Cond.codeWith yL_place cL_place 4 (some .int) [(0, 9, 12, 13)], Cond.methodLink RL 49 yX2_place, Cond.instanceMethod yX2_place, Cond.selects RX2 yX2_place yX2_place, Cond.code yX2_place cX2_place 3 (some .int), Cond.methodLink RL 122 yX3_place, Cond.instanceMethod yX3_place, Cond.selects RX3 yX3_place yX3_place, Cond.code yX3_place cX3_place 2 (some .int), Cond.methodLink RL 123 yL_below, Cond.static yL_below, Cond.codeWith yL_below cL_below 4 (some .int) [(0, 9, 12, 13)], Cond.methodLink RL 52 yX2_below, Cond.instanceMethod yX2_below, Cond.selects RX2 yX2_below yX2_below, Cond.code yX2_below cX2_below 5 (some .int), Cond.methodLink RX2 151 yX0_isBelow]
def wsL_law0_r23 : List Cond := [Cond.instanceMethod yX0_isBelow, Cond.selects RX0 yX0_isBelow yX0_isBelow, Cond.code yX0_isBelow cX0_isBelow 3 (some .boolean), Cond.methodLink RL 125 yX3_below, Cond.instanceMethod yX3_below, Cond.selects RX3 yX3_below yX3_below, Cond.code yX3_below cX3_below 4 (some .int), Cond.methodLink RX3 170 yX3_isBelow, Cond.instanceMethod yX3_isBelow, Cond.selects RX3 yX3_isBelow yX3_isBelow, Cond.code yX3_isBelow cX3_isBelow 4 (some .boolean), Cond.methodLink RL 126 yL_queuedAt, Cond.static yL_queuedAt, Cond.codeWith yL_queuedAt cL_queuedAt 5 (some .int) [(0, 10, 13, 13)], Cond.methodLink RL 55 yX2_queuedAt, Cond.instanceMethod yX2_queuedAt, Cond.selects RX2 yX2_queuedAt yX2_queuedAt, Cond.code yX2_queuedAt cX2_queuedAt 6 (some .int), Cond.methodLink RL 128 yX3_queuedAt, Cond.instanceMethod yX3_queuedAt, Cond.selects RX3 yX3_queuedAt yX3_queuedAt, Cond.code yX3_queuedAt cX3_queuedAt 7 (some .int), Cond.methodLink RL 129 yL_count, Cond.static yL_count]
def wsL_law0_r24 : List Cond := [Cond.codeWith yL_count cL_count 5 (some .int) [(0, 10, 13, 13), (0, 10, 17, 15)], Cond.methodLink RL 58 yX2_count, Cond.instanceMethod yX2_count, Cond.selects RX2 yX2_count yX2_count, Cond.code yX2_count cX2_count 4 (some .int), Cond.methodLink RL 131 yX3_count, Cond.instanceMethod yX3_count, Cond.selects RX3 yX3_count yX3_count, Cond.code yX3_count cX3_count 3 (some .int), Cond.methodLink RL 132 yL_tokens, Cond.static yL_tokens, Cond.codeWith yL_tokens cL_tokens 4 (some .int) [(0, 9, 12, 13)], Cond.methodLink RL 61 yX2_tokens, Cond.instanceMethod yX2_tokens, Cond.selects RX2 yX2_tokens yX2_tokens, Cond.code yX2_tokens cX2_tokens 2 (some .int), Cond.fieldLink RX2 171 "DeadlineCalls$Service" "tokens" "I", Cond.methodLink RL 134 yX3_tokens, Cond.instanceMethod yX3_tokens, Cond.selects RX3 yX3_tokens yX3_tokens, Cond.code yX3_tokens cX3_tokens 2 (some .int), Cond.methodLink RL 135 yL_isOpen, Cond.static yL_isOpen, Cond.codeWith yL_isOpen cL_isOpen 4 (some .int) [(0, 16, 19, 13)]]
def wsL_law0_r25 : List Cond := [Cond.methodLink RL 64 yX2_isOpen, Cond.instanceMethod yX2_isOpen, Cond.selects RX2 yX2_isOpen yX2_isOpen, Cond.code yX2_isOpen cX2_isOpen 2 (some .boolean), Cond.methodLink RL 137 yX3_isOpen, Cond.instanceMethod yX3_isOpen, Cond.selects RX3 yX3_isOpen yX3_isOpen, Cond.code yX3_isOpen cX3_isOpen 2 (some .boolean)]
def wsL_law0 : List Cond := (wsL_law0_r1 ++ (wsL_law0_r2 ++ (wsL_law0_r3 ++ (wsL_law0_r4 ++ (wsL_law0_r5 ++ (wsL_law0_r6 ++ (wsL_law0_r7 ++ (wsL_law0_r8 ++ (wsL_law0_r9 ++ (wsL_law0_r10 ++ (wsL_law0_r11 ++ (wsL_law0_r12 ++ (wsL_law0_r13 ++ (wsL_law0_r14 ++ (wsL_law0_r15 ++ (wsL_law0_r16 ++ (wsL_law0_r17 ++ (wsL_law0_r18 ++ (wsL_law0_r19 ++ (wsL_law0_r20 ++ (wsL_law0_r21 ++ (wsL_law0_r22 ++ (wsL_law0_r23 ++ (wsL_law0_r24 ++ wsL_law0_r25)))))))))))))))))))))))) ++ wsX20 ++ wsX30 ++ wsX10 ++ wsX00 ++ ([] : List Cond)
def wsL_law : List Cond := wsL_law0 ++ (vx_atS RX2 166 "java/lang/IndexOutOfBoundsException" ["java/lang/RuntimeException", "java/lang/Exception"]).filter goodWord ++ (vx_atS RX2 46 "java/lang/IllegalArgumentException" ["java/lang/RuntimeException", "java/lang/Exception"]).filter goodWord ++ (vx_atS RX2 57 "java/lang/IllegalStateException" ["java/lang/RuntimeException", "java/lang/Exception"]).filter goodWord
theorem inlX0 : ∀ w ∈ wsX00, w ∈ wsL_law := fun _ h => List.mem_append_left _ (List.mem_append_left _ (List.mem_append_left _ (List.mem_append_left _ (List.mem_append_right _ h))))
theorem inlX1 : ∀ w ∈ wsX10, w ∈ wsL_law := fun _ h => List.mem_append_left _ (List.mem_append_left _ (List.mem_append_left _ (List.mem_append_left _ (List.mem_append_left _ (List.mem_append_right _ h)))))
theorem inlX2 : ∀ w ∈ wsX20, w ∈ wsL_law := fun _ h => List.mem_append_left _ (List.mem_append_left _ (List.mem_append_left _ (List.mem_append_left _ (List.mem_append_left _ (List.mem_append_left _ (List.mem_append_left _ (List.mem_append_right _ h)))))))
theorem inlX3 : ∀ w ∈ wsX30, w ∈ wsL_law := fun _ h => List.mem_append_left _ (List.mem_append_left _ (List.mem_append_left _ (List.mem_append_left _ (List.mem_append_left _ (List.mem_append_left _ (List.mem_append_right _ h))))))
/-- the four classes; behind them three of them again, as they are while they are made -/
abbrev vwCl : List vw_C := [(RX0, TX0, 18), (RX1, TX1, 13), (RX2, TX2, 7), (RX3, TX3, 28), (RX1, TX1, 13), (RX2, TX2, 7), (RX3, TX3, 28)]
end
section
theorem dX0_init_0 : decode cX0_init 0 = .ok (.aload_n 0, 1) := by decide +kernel
theorem dX0_init_1 : decode cX0_init 1 = .ok (.invokespecial 3, 3) := by decide +kernel
theorem dX0_init_4 : decode cX0_init 4 = .ok (.aload_n 0, 1) := by decide +kernel
theorem dX0_init_5 : decode cX0_init 5 = .ok (.iconst (-1), 1) := by decide +kernel
theorem dX0_init_6 : decode cX0_init 6 = .ok (.putfield 9, 3) := by decide +kernel
theorem dX0_init_9 : decode cX0_init 9 = .ok (.aload_n 0, 1) := by decide +kernel
theorem dX0_init_10 : decode cX0_init 10 = .ok (.iconst (-1), 1) := by decide +kernel
theorem dX0_init_11 : decode cX0_init 11 = .ok (.putfield 15, 3) := by decide +kernel
theorem dX0_init_14 : decode cX0_init 14 = .ok (.aload_n 0, 1) := by decide +kernel
theorem dX0_init_15 : decode cX0_init 15 = .ok (.iload_n 1, 1) := by decide +kernel
theorem dX0_init_16 : decode cX0_init 16 = .ok (.putfield 18, 3) := by decide +kernel
theorem dX0_init_19 : decode cX0_init 19 = .ok (.aload_n 0, 1) := by decide +kernel
theorem dX0_init_20 : decode cX0_init 20 = .ok (.aload_n 2, 1) := by decide +kernel
theorem dX0_init_21 : decode cX0_init 21 = .ok (.putfield 21, 3) := by decide +kernel
theorem dX0_init_24 : decode cX0_init 24 = .ok (.aload_n 0, 1) := by decide +kernel
theorem dX0_init_25 : decode cX0_init 25 = .ok (.aload_n 3, 1) := by decide +kernel
theorem dX0_init_26 : decode cX0_init 26 = .ok (.putfield 25, 3) := by decide +kernel
theorem dX0_init_29 : decode cX0_init 29 = .ok (.aload_n 0, 1) := by decide +kernel
theorem dX0_init_30 : decode cX0_init 30 = .ok (.iload 4, 2) := by decide +kernel
theorem dX0_init_32 : decode cX0_init 32 = .ok (.putfield 29, 3) := by decide +kernel
theorem dX0_init_35 : decode cX0_init 35 = .ok (.return_, 1) := by decide +kernel
theorem dX0_isOver_0 : decode cX0_isOver 0 = .ok (.aload_n 0, 1) := by decide +kernel
theorem dX0_isOver_1 : decode cX0_isOver 1 = .ok (.getfield 9, 3) := by decide +kernel
theorem dX0_isOver_4 : decode cX0_isOver 4 = .ok (.iconst 3, 1) := by decide +kernel
theorem dX0_isOver_5 : decode cX0_isOver 5 = .ok (.if_icmp .lt 7, 3) := by decide +kernel
theorem dX0_isOver_8 : decode cX0_isOver 8 = .ok (.iconst 1, 1) := by decide +kernel
theorem dX0_isOver_9 : decode cX0_isOver 9 = .ok (.goto 4, 3) := by decide +kernel
theorem dX0_isOver_12 : decode cX0_isOver 12 = .ok (.iconst 0, 1) := by decide +kernel
theorem dX0_isOver_13 : decode cX0_isOver 13 = .ok (.ireturn, 1) := by decide +kernel
theorem dX0_isOf_0 : decode cX0_isOf 0 = .ok (.aload_n 0, 1) := by decide +kernel
theorem dX0_isOf_1 : decode cX0_isOf 1 = .ok (.getfield 21, 3) := by decide +kernel
theorem dX0_isOf_4 : decode cX0_isOf 4 = .ok (.aload_n 1, 1) := by decide +kernel
theorem dX0_isOf_5 : decode cX0_isOf 5 = .ok (.if_acmp .ne 15, 3) := by decide +kernel
theorem dX0_isOf_8 : decode cX0_isOf 8 = .ok (.aload_n 0, 1) := by decide +kernel
theorem dX0_isOf_9 : decode cX0_isOf 9 = .ok (.getfield 9, 3) := by decide +kernel
theorem dX0_isOf_12 : decode cX0_isOf 12 = .ok (.iload_n 2, 1) := by decide +kernel
theorem dX0_isOf_13 : decode cX0_isOf 13 = .ok (.if_icmp .ne 7, 3) := by decide +kernel
theorem dX0_isOf_16 : decode cX0_isOf 16 = .ok (.iconst 1, 1) := by decide +kernel
theorem dX0_isOf_17 : decode cX0_isOf 17 = .ok (.goto 4, 3) := by decide +kernel
theorem dX0_isOf_20 : decode cX0_isOf 20 = .ok (.iconst 0, 1) := by decide +kernel
theorem dX0_isOf_21 : decode cX0_isOf 21 = .ok (.ireturn, 1) := by decide +kernel
theorem dX0_isBelow_0 : decode cX0_isBelow 0 = .ok (.aload_n 0, 1) := by decide +kernel
theorem dX0_isBelow_1 : decode cX0_isBelow 1 = .ok (.getfield 25, 3) := by decide +kernel
theorem dX0_isBelow_4 : decode cX0_isBelow 4 = .ok (.astore_n 2, 1) := by decide +kernel
theorem dX0_isBelow_5 : decode cX0_isBelow 5 = .ok (.aload_n 2, 1) := by decide +kernel
theorem dX0_isBelow_6 : decode cX0_isBelow 6 = .ok (.ifnull 18, 3) := by decide +kernel
theorem dX0_isBelow_9 : decode cX0_isBelow 9 = .ok (.aload_n 2, 1) := by decide +kernel
theorem dX0_isBelow_10 : decode cX0_isBelow 10 = .ok (.aload_n 1, 1) := by decide +kernel
theorem dX0_isBelow_11 : decode cX0_isBelow 11 = .ok (.if_acmp .ne 5, 3) := by decide +kernel
theorem dX0_isBelow_14 : decode cX0_isBelow 14 = .ok (.iconst 1, 1) := by decide +kernel
theorem dX0_isBelow_15 : decode cX0_isBelow 15 = .ok (.ireturn, 1) := by decide +kernel
theorem dX0_isBelow_16 : decode cX0_isBelow 16 = .ok (.aload_n 2, 1) := by decide +kernel
theorem dX0_isBelow_17 : decode cX0_isBelow 17 = .ok (.getfield 25, 3) := by decide +kernel
theorem dX0_isBelow_20 : decode cX0_isBelow 20 = .ok (.astore_n 2, 1) := by decide +kernel
theorem dX0_isBelow_21 : decode cX0_isBelow 21 = .ok (.goto (-16), 3) := by decide +kernel
theorem dX0_isBelow_24 : decode cX0_isBelow 24 = .ok (.iconst 0, 1) := by decide +kernel
theorem dX0_isBelow_25 : decode cX0_isBelow 25 = .ok (.ireturn, 1) := by decide +kernel
theorem dX0_canBeDone_0 : decode cX0_canBeDone 0 = .ok (.aload_n 0, 1) := by decide +kernel
theorem dX0_canBeDone_1 : decode cX0_canBeDone 1 = .ok (.getfield 29, 3) := by decide +kernel
theorem dX0_canBeDone_4 : decode cX0_canBeDone 4 = .ok (.iload_n 1, 1) := by decide +kernel
theorem dX0_canBeDone_5 : decode cX0_canBeDone 5 = .ok (.isub, 1) := by decide +kernel
theorem dX0_canBeDone_6 : decode cX0_canBeDone 6 = .ok (.aload_n 0, 1) := by decide +kernel
theorem dX0_canBeDone_7 : decode cX0_canBeDone 7 = .ok (.getfield 21, 3) := by decide +kernel
theorem dX0_canBeDone_10 : decode cX0_canBeDone 10 = .ok (.getfield 32, 3) := by decide +kernel
theorem dX0_canBeDone_13 : decode cX0_canBeDone 13 = .ok (.if_icmp .lt 7, 3) := by decide +kernel
theorem dX0_canBeDone_16 : decode cX0_canBeDone 16 = .ok (.iconst 1, 1) := by decide +kernel
theorem dX0_canBeDone_17 : decode cX0_canBeDone 17 = .ok (.goto 4, 3) := by decide +kernel
theorem dX0_canBeDone_20 : decode cX0_canBeDone 20 = .ok (.iconst 0, 1) := by decide +kernel
theorem dX0_canBeDone_21 : decode cX0_canBeDone 21 = .ok (.ireturn, 1) := by decide +kernel
theorem dX0_become_0 : decode cX0_become 0 = .ok (.aload_n 0, 1) := by decide +kernel
theorem dX0_become_1 : decode cX0_become 1 = .ok (.getfield 21, 3) := by decide +kernel
theorem dX0_become_4 : decode cX0_become 4 = .ok (.getfield 37, 3) := by decide +kernel
theorem dX0_become_7 : decode cX0_become 7 = .ok (.astore_n 2, 1) := by decide +kernel
theorem dX0_become_8 : decode cX0_become 8 = .ok (.aload_n 0, 1) := by decide +kernel
theorem dX0_become_9 : decode cX0_become 9 = .ok (.getfield 9, 3) := by decide +kernel
theorem dX0_become_12 : decode cX0_become 12 = .ok (.ifCond .lt 22, 3) := by decide +kernel
theorem dX0_become_15 : decode cX0_become 15 = .ok (.aload_n 0, 1) := by decide +kernel
theorem dX0_become_16 : decode cX0_become 16 = .ok (.getfield 9, 3) := by decide +kernel
theorem dX0_become_19 : decode cX0_become 19 = .ok (.aload_n 2, 1) := by decide +kernel
theorem dX0_become_20 : decode cX0_become 20 = .ok (.arraylength, 1) := by decide +kernel
theorem dX0_become_21 : decode cX0_become 21 = .ok (.if_icmp .ge 13, 3) := by decide +kernel
theorem dX0_become_24 : decode cX0_become 24 = .ok (.aload_n 2, 1) := by decide +kernel
theorem dX0_become_25 : decode cX0_become 25 = .ok (.aload_n 0, 1) := by decide +kernel
theorem dX0_become_26 : decode cX0_become 26 = .ok (.getfield 9, 3) := by decide +kernel
theorem dX0_become_29 : decode cX0_become 29 = .ok (.dup2, 1) := by decide +kernel
theorem dX0_become_30 : decode cX0_become 30 = .ok (.iaload, 1) := by decide +kernel
theorem dX0_become_31 : decode cX0_become 31 = .ok (.iconst 1, 1) := by decide +kernel
theorem dX0_become_32 : decode cX0_become 32 = .ok (.isub, 1) := by decide +kernel
theorem dX0_become_33 : decode cX0_become 33 = .ok (.iastore, 1) := by decide +kernel
theorem dX0_become_34 : decode cX0_become 34 = .ok (.iload_n 1, 1) := by decide +kernel
theorem dX0_become_35 : decode cX0_become 35 = .ok (.ifCond .lt 16, 3) := by decide +kernel
theorem dX0_become_38 : decode cX0_become 38 = .ok (.iload_n 1, 1) := by decide +kernel
theorem dX0_become_39 : decode cX0_become 39 = .ok (.aload_n 2, 1) := by decide +kernel
theorem dX0_become_40 : decode cX0_become 40 = .ok (.arraylength, 1) := by decide +kernel
theorem dX0_become_41 : decode cX0_become 41 = .ok (.if_icmp .ge 10, 3) := by decide +kernel
theorem dX0_become_44 : decode cX0_become 44 = .ok (.aload_n 2, 1) := by decide +kernel
theorem dX0_become_45 : decode cX0_become 45 = .ok (.iload_n 1, 1) := by decide +kernel
theorem dX0_become_46 : decode cX0_become 46 = .ok (.dup2, 1) := by decide +kernel
theorem dX0_become_47 : decode cX0_become 47 = .ok (.iaload, 1) := by decide +kernel
theorem dX0_become_48 : decode cX0_become 48 = .ok (.iconst 1, 1) := by decide +kernel
theorem dX0_become_49 : decode cX0_become 49 = .ok (.iadd, 1) := by decide +kernel
theorem dX0_become_50 : decode cX0_become 50 = .ok (.iastore, 1) := by decide +kernel
theorem dX0_become_51 : decode cX0_become 51 = .ok (.aload_n 0, 1) := by decide +kernel
theorem dX0_become_52 : decode cX0_become 52 = .ok (.iload_n 1, 1) := by decide +kernel
theorem dX0_become_53 : decode cX0_become 53 = .ok (.putfield 9, 3) := by decide +kernel
theorem dX0_become_56 : decode cX0_become 56 = .ok (.return_, 1) := by decide +kernel
theorem dX0_rowAt_0 : decode cX0_rowAt 0 = .ok (.aload_n 0, 1) := by decide +kernel
theorem dX0_rowAt_1 : decode cX0_rowAt 1 = .ok (.getfield 21, 3) := by decide +kernel
theorem dX0_rowAt_4 : decode cX0_rowAt 4 = .ok (.getfield 41, 3) := by decide +kernel
theorem dX0_rowAt_7 : decode cX0_rowAt 7 = .ok (.astore_n 2, 1) := by decide +kernel
theorem dX0_rowAt_8 : decode cX0_rowAt 8 = .ok (.iload_n 1, 1) := by decide +kernel
theorem dX0_rowAt_9 : decode cX0_rowAt 9 = .ok (.ifCond .lt 23, 3) := by decide +kernel
theorem dX0_rowAt_12 : decode cX0_rowAt 12 = .ok (.iload_n 1, 1) := by decide +kernel
theorem dX0_rowAt_13 : decode cX0_rowAt 13 = .ok (.aload_n 0, 1) := by decide +kernel
theorem dX0_rowAt_14 : decode cX0_rowAt 14 = .ok (.getfield 45, 3) := by decide +kernel
theorem dX0_rowAt_17 : decode cX0_rowAt 17 = .ok (.if_icmp .ge 15, 3) := by decide +kernel
theorem dX0_rowAt_20 : decode cX0_rowAt 20 = .ok (.iload_n 1, 1) := by decide +kernel
theorem dX0_rowAt_21 : decode cX0_rowAt 21 = .ok (.aload_n 2, 1) := by decide +kernel
theorem dX0_rowAt_22 : decode cX0_rowAt 22 = .ok (.arraylength, 1) := by decide +kernel
theorem dX0_rowAt_23 : decode cX0_rowAt 23 = .ok (.if_icmp .ge 9, 3) := by decide +kernel
theorem dX0_rowAt_26 : decode cX0_rowAt 26 = .ok (.aload_n 2, 1) := by decide +kernel
theorem dX0_rowAt_27 : decode cX0_rowAt 27 = .ok (.iload_n 1, 1) := by decide +kernel
theorem dX0_rowAt_28 : decode cX0_rowAt 28 = .ok (.aaload, 1) := by decide +kernel
theorem dX0_rowAt_29 : decode cX0_rowAt 29 = .ok (.goto 4, 3) := by decide +kernel
theorem dX0_rowAt_32 : decode cX0_rowAt 32 = .ok (.aconst_null, 1) := by decide +kernel
theorem dX0_rowAt_33 : decode cX0_rowAt 33 = .ok (.areturn, 1) := by decide +kernel
theorem dX0_askNow_0 : decode cX0_askNow 0 = .ok (.aload_n 0, 1) := by decide +kernel
theorem dX0_askNow_1 : decode cX0_askNow 1 = .ok (.iconst 2, 1) := by decide +kernel
theorem dX0_askNow_2 : decode cX0_askNow 2 = .ok (.invokevirtual 48, 3) := by decide +kernel
theorem dX0_askNow_5 : decode cX0_askNow 5 = .ok (.aload_n 0, 1) := by decide +kernel
theorem dX0_askNow_6 : decode cX0_askNow 6 = .ok (.aload_n 1, 1) := by decide +kernel
theorem dX0_askNow_7 : decode cX0_askNow 7 = .ok (.putfield 52, 3) := by decide +kernel
theorem dX0_askNow_10 : decode cX0_askNow 10 = .ok (.aload_n 0, 1) := by decide +kernel
theorem dX0_askNow_11 : decode cX0_askNow 11 = .ok (.iload_n 2, 1) := by decide +kernel
theorem dX0_askNow_12 : decode cX0_askNow 12 = .ok (.putfield 55, 3) := by decide +kernel
theorem dX0_askNow_15 : decode cX0_askNow 15 = .ok (.aload_n 0, 1) := by decide +kernel
theorem dX0_askNow_16 : decode cX0_askNow 16 = .ok (.iconst 1, 1) := by decide +kernel
theorem dX0_askNow_17 : decode cX0_askNow 17 = .ok (.putfield 58, 3) := by decide +kernel
theorem dX0_askNow_20 : decode cX0_askNow 20 = .ok (.aload_n 0, 1) := by decide +kernel
theorem dX0_askNow_21 : decode cX0_askNow 21 = .ok (.iconst 0, 1) := by decide +kernel
theorem dX0_askNow_22 : decode cX0_askNow 22 = .ok (.putfield 62, 3) := by decide +kernel
theorem dX0_askNow_25 : decode cX0_askNow 25 = .ok (.aload_n 0, 1) := by decide +kernel
theorem dX0_askNow_26 : decode cX0_askNow 26 = .ok (.iconst 0, 1) := by decide +kernel
theorem dX0_askNow_27 : decode cX0_askNow 27 = .ok (.putfield 65, 3) := by decide +kernel
theorem dX0_askNow_30 : decode cX0_askNow 30 = .ok (.aload_n 0, 1) := by decide +kernel
theorem dX0_askNow_31 : decode cX0_askNow 31 = .ok (.iconst 0, 1) := by decide +kernel
theorem dX0_askNow_32 : decode cX0_askNow 32 = .ok (.putfield 68, 3) := by decide +kernel
theorem dX0_askNow_35 : decode cX0_askNow 35 = .ok (.return_, 1) := by decide +kernel
theorem dX0_noteTry_0 : decode cX0_noteTry 0 = .ok (.aload_n 0, 1) := by decide +kernel
theorem dX0_noteTry_1 : decode cX0_noteTry 1 = .ok (.dup, 1) := by decide +kernel
theorem dX0_noteTry_2 : decode cX0_noteTry 2 = .ok (.getfield 65, 3) := by decide +kernel
theorem dX0_noteTry_5 : decode cX0_noteTry 5 = .ok (.iconst 1, 1) := by decide +kernel
theorem dX0_noteTry_6 : decode cX0_noteTry 6 = .ok (.iadd, 1) := by decide +kernel
theorem dX0_noteTry_7 : decode cX0_noteTry 7 = .ok (.putfield 65, 3) := by decide +kernel
theorem dX0_noteTry_10 : decode cX0_noteTry 10 = .ok (.aload_n 0, 1) := by decide +kernel
theorem dX0_noteTry_11 : decode cX0_noteTry 11 = .ok (.dup, 1) := by decide +kernel
theorem dX0_noteTry_12 : decode cX0_noteTry 12 = .ok (.getfield 71, 3) := by decide +kernel
theorem dX0_noteTry_15 : decode cX0_noteTry 15 = .ok (.iconst 1, 1) := by decide +kernel
theorem dX0_noteTry_16 : decode cX0_noteTry 16 = .ok (.iadd, 1) := by decide +kernel
theorem dX0_noteTry_17 : decode cX0_noteTry 17 = .ok (.putfield 71, 3) := by decide +kernel
theorem dX0_noteTry_20 : decode cX0_noteTry 20 = .ok (.aload_n 0, 1) := by decide +kernel
theorem dX0_noteTry_21 : decode cX0_noteTry 21 = .ok (.iload_n 1, 1) := by decide +kernel
theorem dX0_noteTry_22 : decode cX0_noteTry 22 = .ok (.putfield 74, 3) := by decide +kernel
theorem dX0_noteTry_25 : decode cX0_noteTry 25 = .ok (.return_, 1) := by decide +kernel
theorem dX0_noteTryOver_0 : decode cX0_noteTryOver 0 = .ok (.aload_n 0, 1) := by decide +kernel
theorem dX0_noteTryOver_1 : decode cX0_noteTryOver 1 = .ok (.dup, 1) := by decide +kernel
theorem dX0_noteTryOver_2 : decode cX0_noteTryOver 2 = .ok (.getfield 71, 3) := by decide +kernel
theorem dX0_noteTryOver_5 : decode cX0_noteTryOver 5 = .ok (.iconst 1, 1) := by decide +kernel
theorem dX0_noteTryOver_6 : decode cX0_noteTryOver 6 = .ok (.isub, 1) := by decide +kernel
theorem dX0_noteTryOver_7 : decode cX0_noteTryOver 7 = .ok (.putfield 71, 3) := by decide +kernel
theorem dX0_noteTryOver_10 : decode cX0_noteTryOver 10 = .ok (.iload_n 1, 1) := by decide +kernel
theorem dX0_noteTryOver_11 : decode cX0_noteTryOver 11 = .ok (.iconst 3, 1) := by decide +kernel
theorem dX0_noteTryOver_12 : decode cX0_noteTryOver 12 = .ok (.if_icmp .ne 8, 3) := by decide +kernel
theorem dX0_noteTryOver_15 : decode cX0_noteTryOver 15 = .ok (.aload_n 0, 1) := by decide +kernel
theorem dX0_noteTryOver_16 : decode cX0_noteTryOver 16 = .ok (.iconst 1, 1) := by decide +kernel
theorem dX0_noteTryOver_17 : decode cX0_noteTryOver 17 = .ok (.putfield 62, 3) := by decide +kernel
theorem dX0_noteTryOver_20 : decode cX0_noteTryOver 20 = .ok (.return_, 1) := by decide +kernel
theorem dX1_init_0 : decode cX1_init 0 = .ok (.aload_n 0, 1) := by decide +kernel
theorem dX1_init_1 : decode cX1_init 1 = .ok (.invokespecial 3, 3) := by decide +kernel
theorem dX1_init_4 : decode cX1_init 4 = .ok (.aload_n 0, 1) := by decide +kernel
theorem dX1_init_5 : decode cX1_init 5 = .ok (.iconst 1, 1) := by decide +kernel
theorem dX1_init_6 : decode cX1_init 6 = .ok (.putfield 9, 3) := by decide +kernel
theorem dX1_init_9 : decode cX1_init 9 = .ok (.aload_n 0, 1) := by decide +kernel
theorem dX1_init_10 : decode cX1_init 10 = .ok (.iconst 2, 1) := by decide +kernel
theorem dX1_init_11 : decode cX1_init 11 = .ok (.putfield 15, 3) := by decide +kernel
theorem dX1_init_14 : decode cX1_init 14 = .ok (.aload_n 0, 1) := by decide +kernel
theorem dX1_init_15 : decode cX1_init 15 = .ok (.iconst 4, 1) := by decide +kernel
theorem dX1_init_16 : decode cX1_init 16 = .ok (.putfield 18, 3) := by decide +kernel
theorem dX1_init_19 : decode cX1_init 19 = .ok (.aload_n 0, 1) := by decide +kernel
theorem dX1_init_20 : decode cX1_init 20 = .ok (.bipush 20, 2) := by decide +kernel
theorem dX1_init_22 : decode cX1_init 22 = .ok (.putfield 21, 3) := by decide +kernel
theorem dX1_init_25 : decode cX1_init 25 = .ok (.aload_n 0, 1) := by decide +kernel
theorem dX1_init_26 : decode cX1_init 26 = .ok (.iconst 3, 1) := by decide +kernel
theorem dX1_init_27 : decode cX1_init 27 = .ok (.anewarray 10, 3) := by decide +kernel
theorem dX1_init_30 : decode cX1_init 30 = .ok (.putfield 24, 3) := by decide +kernel
theorem dX1_init_33 : decode cX1_init 33 = .ok (.aload_n 0, 1) := by decide +kernel
theorem dX1_init_34 : decode cX1_init 34 = .ok (.bipush 8, 2) := by decide +kernel
theorem dX1_init_36 : decode cX1_init 36 = .ok (.newarray .int, 2) := by decide +kernel
theorem dX1_init_38 : decode cX1_init 38 = .ok (.putfield 28, 3) := by decide +kernel
theorem dX1_init_41 : decode cX1_init 41 = .ok (.aload_n 0, 1) := by decide +kernel
theorem dX1_init_42 : decode cX1_init 42 = .ok (.iload_n 1, 1) := by decide +kernel
theorem dX1_init_43 : decode cX1_init 43 = .ok (.putfield 32, 3) := by decide +kernel
theorem dX1_init_46 : decode cX1_init 46 = .ok (.return_, 1) := by decide +kernel
theorem dX1_addToRow_0 : decode cX1_addToRow 0 = .ok (.aload_n 0, 1) := by decide +kernel
theorem dX1_addToRow_1 : decode cX1_addToRow 1 = .ok (.getfield 35, 3) := by decide +kernel
theorem dX1_addToRow_4 : decode cX1_addToRow 4 = .ok (.aload_n 0, 1) := by decide +kernel
theorem dX1_addToRow_5 : decode cX1_addToRow 5 = .ok (.getfield 24, 3) := by decide +kernel
theorem dX1_addToRow_8 : decode cX1_addToRow 8 = .ok (.arraylength, 1) := by decide +kernel
theorem dX1_addToRow_9 : decode cX1_addToRow 9 = .ok (.if_icmp .lt 5, 3) := by decide +kernel
theorem dX1_addToRow_12 : decode cX1_addToRow 12 = .ok (.iconst 0, 1) := by decide +kernel
theorem dX1_addToRow_13 : decode cX1_addToRow 13 = .ok (.ireturn, 1) := by decide +kernel
theorem dX1_addToRow_14 : decode cX1_addToRow 14 = .ok (.aload_n 0, 1) := by decide +kernel
theorem dX1_addToRow_15 : decode cX1_addToRow 15 = .ok (.getfield 24, 3) := by decide +kernel
theorem dX1_addToRow_18 : decode cX1_addToRow 18 = .ok (.aload_n 0, 1) := by decide +kernel
theorem dX1_addToRow_19 : decode cX1_addToRow 19 = .ok (.getfield 35, 3) := by decide +kernel
theorem dX1_addToRow_22 : decode cX1_addToRow 22 = .ok (.aload_n 1, 1) := by decide +kernel
theorem dX1_addToRow_23 : decode cX1_addToRow 23 = .ok (.aastore, 1) := by decide +kernel
theorem dX1_addToRow_24 : decode cX1_addToRow 24 = .ok (.aload_n 0, 1) := by decide +kernel
theorem dX1_addToRow_25 : decode cX1_addToRow 25 = .ok (.dup, 1) := by decide +kernel
theorem dX1_addToRow_26 : decode cX1_addToRow 26 = .ok (.getfield 35, 3) := by decide +kernel
theorem dX1_addToRow_29 : decode cX1_addToRow 29 = .ok (.iconst 1, 1) := by decide +kernel
theorem dX1_addToRow_30 : decode cX1_addToRow 30 = .ok (.iadd, 1) := by decide +kernel
theorem dX1_addToRow_31 : decode cX1_addToRow 31 = .ok (.putfield 35, 3) := by decide +kernel
theorem dX1_addToRow_34 : decode cX1_addToRow 34 = .ok (.iconst 1, 1) := by decide +kernel
theorem dX1_addToRow_35 : decode cX1_addToRow 35 = .ok (.ireturn, 1) := by decide +kernel
theorem dX1_countOf_0 : decode cX1_countOf 0 = .ok (.iload_n 1, 1) := by decide +kernel
theorem dX1_countOf_1 : decode cX1_countOf 1 = .ok (.ifCond .lt 21, 3) := by decide +kernel
theorem dX1_countOf_4 : decode cX1_countOf 4 = .ok (.iload_n 1, 1) := by decide +kernel
theorem dX1_countOf_5 : decode cX1_countOf 5 = .ok (.aload_n 0, 1) := by decide +kernel
theorem dX1_countOf_6 : decode cX1_countOf 6 = .ok (.getfield 28, 3) := by decide +kernel
theorem dX1_countOf_9 : decode cX1_countOf 9 = .ok (.arraylength, 1) := by decide +kernel
theorem dX1_countOf_10 : decode cX1_countOf 10 = .ok (.if_icmp .ge 12, 3) := by decide +kernel
theorem dX1_countOf_13 : decode cX1_countOf 13 = .ok (.aload_n 0, 1) := by decide +kernel
theorem dX1_countOf_14 : decode cX1_countOf 14 = .ok (.getfield 28, 3) := by decide +kernel
theorem dX1_countOf_17 : decode cX1_countOf 17 = .ok (.iload_n 1, 1) := by decide +kernel
theorem dX1_countOf_18 : decode cX1_countOf 18 = .ok (.iaload, 1) := by decide +kernel
theorem dX1_countOf_19 : decode cX1_countOf 19 = .ok (.goto 4, 3) := by decide +kernel
theorem dX1_countOf_22 : decode cX1_countOf 22 = .ok (.iconst 0, 1) := by decide +kernel
theorem dX1_countOf_23 : decode cX1_countOf 23 = .ok (.ireturn, 1) := by decide +kernel
theorem dX1_hasFreeWorker_0 : decode cX1_hasFreeWorker 0 = .ok (.aload_n 0, 1) := by decide +kernel
theorem dX1_hasFreeWorker_1 : decode cX1_hasFreeWorker 1 = .ok (.iconst 1, 1) := by decide +kernel
theorem dX1_hasFreeWorker_2 : decode cX1_hasFreeWorker 2 = .ok (.invokevirtual 38, 3) := by decide +kernel
theorem dX1_hasFreeWorker_5 : decode cX1_hasFreeWorker 5 = .ok (.aload_n 0, 1) := by decide +kernel
theorem dX1_hasFreeWorker_6 : decode cX1_hasFreeWorker 6 = .ok (.getfield 15, 3) := by decide +kernel
theorem dX1_hasFreeWorker_9 : decode cX1_hasFreeWorker 9 = .ok (.if_icmp .ge 7, 3) := by decide +kernel
theorem dX1_hasFreeWorker_12 : decode cX1_hasFreeWorker 12 = .ok (.iconst 1, 1) := by decide +kernel
theorem dX1_hasFreeWorker_13 : decode cX1_hasFreeWorker 13 = .ok (.goto 4, 3) := by decide +kernel
theorem dX1_hasFreeWorker_16 : decode cX1_hasFreeWorker 16 = .ok (.iconst 0, 1) := by decide +kernel
theorem dX1_hasFreeWorker_17 : decode cX1_hasFreeWorker 17 = .ok (.ireturn, 1) := by decide +kernel
theorem dX1_hasRoom_0 : decode cX1_hasRoom 0 = .ok (.aload_n 0, 1) := by decide +kernel
theorem dX1_hasRoom_1 : decode cX1_hasRoom 1 = .ok (.iconst 0, 1) := by decide +kernel
theorem dX1_hasRoom_2 : decode cX1_hasRoom 2 = .ok (.invokevirtual 38, 3) := by decide +kernel
theorem dX1_hasRoom_5 : decode cX1_hasRoom 5 = .ok (.aload_n 0, 1) := by decide +kernel
theorem dX1_hasRoom_6 : decode cX1_hasRoom 6 = .ok (.getfield 18, 3) := by decide +kernel
theorem dX1_hasRoom_9 : decode cX1_hasRoom 9 = .ok (.if_icmp .ge 7, 3) := by decide +kernel
theorem dX1_hasRoom_12 : decode cX1_hasRoom 12 = .ok (.iconst 1, 1) := by decide +kernel
theorem dX1_hasRoom_13 : decode cX1_hasRoom 13 = .ok (.goto 4, 3) := by decide +kernel
theorem dX1_hasRoom_16 : decode cX1_hasRoom 16 = .ok (.iconst 0, 1) := by decide +kernel
theorem dX1_hasRoom_17 : decode cX1_hasRoom 17 = .ok (.ireturn, 1) := by decide +kernel
theorem dX1_refusesAt_0 : decode cX1_refusesAt 0 = .ok (.iload_n 1, 1) := by decide +kernel
theorem dX1_refusesAt_1 : decode cX1_refusesAt 1 = .ok (.aload_n 0, 1) := by decide +kernel
theorem dX1_refusesAt_2 : decode cX1_refusesAt 2 = .ok (.getfield 42, 3) := by decide +kernel
theorem dX1_refusesAt_5 : decode cX1_refusesAt 5 = .ok (.if_icmp .ge 7, 3) := by decide +kernel
theorem dX1_refusesAt_8 : decode cX1_refusesAt 8 = .ok (.iconst 1, 1) := by decide +kernel
theorem dX1_refusesAt_9 : decode cX1_refusesAt 9 = .ok (.goto 4, 3) := by decide +kernel
theorem dX1_refusesAt_12 : decode cX1_refusesAt 12 = .ok (.iconst 0, 1) := by decide +kernel
theorem dX1_refusesAt_13 : decode cX1_refusesAt 13 = .ok (.ireturn, 1) := by decide +kernel
theorem dX1_failsNextWork_0 : decode cX1_failsNextWork 0 = .ok (.aload_n 0, 1) := by decide +kernel
theorem dX1_failsNextWork_1 : decode cX1_failsNextWork 1 = .ok (.dup, 1) := by decide +kernel
theorem dX1_failsNextWork_2 : decode cX1_failsNextWork 2 = .ok (.getfield 45, 3) := by decide +kernel
theorem dX1_failsNextWork_5 : decode cX1_failsNextWork 5 = .ok (.iconst 1, 1) := by decide +kernel
theorem dX1_failsNextWork_6 : decode cX1_failsNextWork 6 = .ok (.iadd, 1) := by decide +kernel
theorem dX1_failsNextWork_7 : decode cX1_failsNextWork 7 = .ok (.putfield 45, 3) := by decide +kernel
theorem dX1_failsNextWork_10 : decode cX1_failsNextWork 10 = .ok (.aload_n 0, 1) := by decide +kernel
theorem dX1_failsNextWork_11 : decode cX1_failsNextWork 11 = .ok (.getfield 48, 3) := by decide +kernel
theorem dX1_failsNextWork_14 : decode cX1_failsNextWork 14 = .ok (.ifCond .le 19, 3) := by decide +kernel
theorem dX1_failsNextWork_17 : decode cX1_failsNextWork 17 = .ok (.aload_n 0, 1) := by decide +kernel
theorem dX1_failsNextWork_18 : decode cX1_failsNextWork 18 = .ok (.getfield 45, 3) := by decide +kernel
theorem dX1_failsNextWork_21 : decode cX1_failsNextWork 21 = .ok (.aload_n 0, 1) := by decide +kernel
theorem dX1_failsNextWork_22 : decode cX1_failsNextWork 22 = .ok (.getfield 48, 3) := by decide +kernel
theorem dX1_failsNextWork_25 : decode cX1_failsNextWork 25 = .ok (.irem, 1) := by decide +kernel
theorem dX1_failsNextWork_26 : decode cX1_failsNextWork 26 = .ok (.ifCond .ne 7, 3) := by decide +kernel
theorem dX1_failsNextWork_29 : decode cX1_failsNextWork 29 = .ok (.iconst 1, 1) := by decide +kernel
theorem dX1_failsNextWork_30 : decode cX1_failsNextWork 30 = .ok (.goto 4, 3) := by decide +kernel
theorem dX1_failsNextWork_33 : decode cX1_failsNextWork 33 = .ok (.iconst 0, 1) := by decide +kernel
theorem dX1_failsNextWork_34 : decode cX1_failsNextWork 34 = .ok (.ireturn, 1) := by decide +kernel
theorem dX1_isTooLong_0 : decode cX1_isTooLong 0 = .ok (.aload_n 0, 1) := by decide +kernel
theorem dX1_isTooLong_1 : decode cX1_isTooLong 1 = .ok (.getfield 51, 3) := by decide +kernel
theorem dX1_isTooLong_4 : decode cX1_isTooLong 4 = .ok (.ifCond .le 15, 3) := by decide +kernel
theorem dX1_isTooLong_7 : decode cX1_isTooLong 7 = .ok (.iload_n 1, 1) := by decide +kernel
theorem dX1_isTooLong_8 : decode cX1_isTooLong 8 = .ok (.aload_n 0, 1) := by decide +kernel
theorem dX1_isTooLong_9 : decode cX1_isTooLong 9 = .ok (.getfield 51, 3) := by decide +kernel
theorem dX1_isTooLong_12 : decode cX1_isTooLong 12 = .ok (.if_icmp .lt 7, 3) := by decide +kernel
theorem dX1_isTooLong_15 : decode cX1_isTooLong 15 = .ok (.iconst 1, 1) := by decide +kernel
theorem dX1_isTooLong_16 : decode cX1_isTooLong 16 = .ok (.goto 4, 3) := by decide +kernel
theorem dX1_isTooLong_19 : decode cX1_isTooLong 19 = .ok (.iconst 0, 1) := by decide +kernel
theorem dX1_isTooLong_20 : decode cX1_isTooLong 20 = .ok (.ireturn, 1) := by decide +kernel
theorem dX1_payForTry_0 : decode cX1_payForTry 0 = .ok (.aload_n 0, 1) := by decide +kernel
theorem dX1_payForTry_1 : decode cX1_payForTry 1 = .ok (.getfield 21, 3) := by decide +kernel
theorem dX1_payForTry_4 : decode cX1_payForTry 4 = .ok (.bipush 10, 2) := by decide +kernel
theorem dX1_payForTry_6 : decode cX1_payForTry 6 = .ok (.if_icmp .ge 5, 3) := by decide +kernel
theorem dX1_payForTry_9 : decode cX1_payForTry 9 = .ok (.iconst 0, 1) := by decide +kernel
theorem dX1_payForTry_10 : decode cX1_payForTry 10 = .ok (.ireturn, 1) := by decide +kernel
theorem dX1_payForTry_11 : decode cX1_payForTry 11 = .ok (.aload_n 0, 1) := by decide +kernel
theorem dX1_payForTry_12 : decode cX1_payForTry 12 = .ok (.dup, 1) := by decide +kernel
theorem dX1_payForTry_13 : decode cX1_payForTry 13 = .ok (.getfield 21, 3) := by decide +kernel
theorem dX1_payForTry_16 : decode cX1_payForTry 16 = .ok (.bipush 10, 2) := by decide +kernel
theorem dX1_payForTry_18 : decode cX1_payForTry 18 = .ok (.isub, 1) := by decide +kernel
theorem dX1_payForTry_19 : decode cX1_payForTry 19 = .ok (.putfield 21, 3) := by decide +kernel
theorem dX1_payForTry_22 : decode cX1_payForTry 22 = .ok (.iconst 1, 1) := by decide +kernel
theorem dX1_payForTry_23 : decode cX1_payForTry 23 = .ok (.ireturn, 1) := by decide +kernel
theorem dX1_noteDone_0 : decode cX1_noteDone 0 = .ok (.aload_n 0, 1) := by decide +kernel
theorem dX1_noteDone_1 : decode cX1_noteDone 1 = .ok (.getfield 21, 3) := by decide +kernel
theorem dX1_noteDone_4 : decode cX1_noteDone 4 = .ok (.bipush 50, 2) := by decide +kernel
theorem dX1_noteDone_6 : decode cX1_noteDone 6 = .ok (.if_icmp .ge 13, 3) := by decide +kernel
theorem dX1_noteDone_9 : decode cX1_noteDone 9 = .ok (.aload_n 0, 1) := by decide +kernel
theorem dX1_noteDone_10 : decode cX1_noteDone 10 = .ok (.dup, 1) := by decide +kernel
theorem dX1_noteDone_11 : decode cX1_noteDone 11 = .ok (.getfield 21, 3) := by decide +kernel
theorem dX1_noteDone_14 : decode cX1_noteDone 14 = .ok (.iconst 1, 1) := by decide +kernel
theorem dX1_noteDone_15 : decode cX1_noteDone 15 = .ok (.iadd, 1) := by decide +kernel
theorem dX1_noteDone_16 : decode cX1_noteDone 16 = .ok (.putfield 21, 3) := by decide +kernel
theorem dX1_noteDone_19 : decode cX1_noteDone 19 = .ok (.aload_n 0, 1) := by decide +kernel
theorem dX1_noteDone_20 : decode cX1_noteDone 20 = .ok (.iconst 0, 1) := by decide +kernel
theorem dX1_noteDone_21 : decode cX1_noteDone 21 = .ok (.putfield 54, 3) := by decide +kernel
theorem dX1_noteDone_24 : decode cX1_noteDone 24 = .ok (.return_, 1) := by decide +kernel
theorem dX1_noteTrouble_0 : decode cX1_noteTrouble 0 = .ok (.aload_n 0, 1) := by decide +kernel
theorem dX1_noteTrouble_1 : decode cX1_noteTrouble 1 = .ok (.dup, 1) := by decide +kernel
theorem dX1_noteTrouble_2 : decode cX1_noteTrouble 2 = .ok (.getfield 54, 3) := by decide +kernel
theorem dX1_noteTrouble_5 : decode cX1_noteTrouble 5 = .ok (.iconst 1, 1) := by decide +kernel
theorem dX1_noteTrouble_6 : decode cX1_noteTrouble 6 = .ok (.iadd, 1) := by decide +kernel
theorem dX1_noteTrouble_7 : decode cX1_noteTrouble 7 = .ok (.putfield 54, 3) := by decide +kernel
theorem dX1_noteTrouble_10 : decode cX1_noteTrouble 10 = .ok (.aload_n 0, 1) := by decide +kernel
theorem dX1_noteTrouble_11 : decode cX1_noteTrouble 11 = .ok (.getfield 54, 3) := by decide +kernel
theorem dX1_noteTrouble_14 : decode cX1_noteTrouble 14 = .ok (.iconst 3, 1) := by decide +kernel
theorem dX1_noteTrouble_15 : decode cX1_noteTrouble 15 = .ok (.if_icmp .lt 16, 3) := by decide +kernel
theorem dX1_noteTrouble_18 : decode cX1_noteTrouble 18 = .ok (.aload_n 0, 1) := by decide +kernel
theorem dX1_noteTrouble_19 : decode cX1_noteTrouble 19 = .ok (.iconst 0, 1) := by decide +kernel
theorem dX1_noteTrouble_20 : decode cX1_noteTrouble 20 = .ok (.putfield 54, 3) := by decide +kernel
theorem dX1_noteTrouble_23 : decode cX1_noteTrouble 23 = .ok (.aload_n 0, 1) := by decide +kernel
theorem dX1_noteTrouble_24 : decode cX1_noteTrouble 24 = .ok (.iload_n 1, 1) := by decide +kernel
theorem dX1_noteTrouble_25 : decode cX1_noteTrouble 25 = .ok (.bipush 20, 2) := by decide +kernel
theorem dX1_noteTrouble_27 : decode cX1_noteTrouble 27 = .ok (.iadd, 1) := by decide +kernel
theorem dX1_noteTrouble_28 : decode cX1_noteTrouble 28 = .ok (.putfield 42, 3) := by decide +kernel
theorem dX1_noteTrouble_31 : decode cX1_noteTrouble 31 = .ok (.return_, 1) := by decide +kernel
theorem dX2_init_0 : decode cX2_init 0 = .ok (.aload_n 0, 1) := by decide +kernel
theorem dX2_init_1 : decode cX2_init 1 = .ok (.invokespecial 1, 3) := by decide +kernel
theorem dX2_init_4 : decode cX2_init 4 = .ok (.aload_n 0, 1) := by decide +kernel
theorem dX2_init_5 : decode cX2_init 5 = .ok (.bipush 6, 2) := by decide +kernel
theorem dX2_init_7 : decode cX2_init 7 = .ok (.anewarray 9, 3) := by decide +kernel
theorem dX2_init_10 : decode cX2_init 10 = .ok (.putfield 11, 3) := by decide +kernel
theorem dX2_init_13 : decode cX2_init 13 = .ok (.aload_n 0, 1) := by decide +kernel
theorem dX2_init_14 : decode cX2_init 14 = .ok (.sipush 200, 3) := by decide +kernel
theorem dX2_init_17 : decode cX2_init 17 = .ok (.anewarray 15, 3) := by decide +kernel
theorem dX2_init_20 : decode cX2_init 20 = .ok (.putfield 17, 3) := by decide +kernel
theorem dX2_init_23 : decode cX2_init 23 = .ok (.iconst 0, 1) := by decide +kernel
theorem dX2_init_24 : decode cX2_init 24 = .ok (.istore_n 1, 1) := by decide +kernel
theorem dX2_init_25 : decode cX2_init 25 = .ok (.iload_n 1, 1) := by decide +kernel
theorem dX2_init_26 : decode cX2_init 26 = .ok (.aload_n 0, 1) := by decide +kernel
theorem dX2_init_27 : decode cX2_init 27 = .ok (.getfield 11, 3) := by decide +kernel
theorem dX2_init_30 : decode cX2_init 30 = .ok (.arraylength, 1) := by decide +kernel
theorem dX2_init_31 : decode cX2_init 31 = .ok (.if_icmp .ge 23, 3) := by decide +kernel
theorem dX2_init_34 : decode cX2_init 34 = .ok (.aload_n 0, 1) := by decide +kernel
theorem dX2_init_35 : decode cX2_init 35 = .ok (.getfield 11, 3) := by decide +kernel
theorem dX2_init_38 : decode cX2_init 38 = .ok (.iload_n 1, 1) := by decide +kernel
theorem dX2_init_39 : decode cX2_init 39 = .ok (.new 9, 3) := by decide +kernel
theorem dX2_init_42 : decode cX2_init 42 = .ok (.dup, 1) := by decide +kernel
theorem dX2_init_43 : decode cX2_init 43 = .ok (.iload_n 1, 1) := by decide +kernel
theorem dX2_init_44 : decode cX2_init 44 = .ok (.invokespecial 21, 3) := by decide +kernel
theorem dX2_init_47 : decode cX2_init 47 = .ok (.aastore, 1) := by decide +kernel
theorem dX2_init_48 : decode cX2_init 48 = .ok (.iinc 1 1, 3) := by decide +kernel
theorem dX2_init_51 : decode cX2_init 51 = .ok (.goto (-26), 3) := by decide +kernel
theorem dX2_init_54 : decode cX2_init 54 = .ok (.return_, 1) := by decide +kernel
theorem dX2_setWork_0 : decode cX2_setWork 0 = .ok (.aload_n 0, 1) := by decide +kernel
theorem dX2_setWork_1 : decode cX2_setWork 1 = .ok (.iload_n 1, 1) := by decide +kernel
theorem dX2_setWork_2 : decode cX2_setWork 2 = .ok (.invokevirtual 24, 3) := by decide +kernel
theorem dX2_setWork_5 : decode cX2_setWork 5 = .ok (.astore 4, 2) := by decide +kernel
theorem dX2_setWork_7 : decode cX2_setWork 7 = .ok (.iload_n 2, 1) := by decide +kernel
theorem dX2_setWork_8 : decode cX2_setWork 8 = .ok (.iconst 1, 1) := by decide +kernel
theorem dX2_setWork_9 : decode cX2_setWork 9 = .ok (.bipush 20, 2) := by decide +kernel
theorem dX2_setWork_11 : decode cX2_setWork 11 = .ok (.invokestatic 28, 3) := by decide +kernel
theorem dX2_setWork_14 : decode cX2_setWork 14 = .ok (.iload_n 3, 1) := by decide +kernel
theorem dX2_setWork_15 : decode cX2_setWork 15 = .ok (.iconst 0, 1) := by decide +kernel
theorem dX2_setWork_16 : decode cX2_setWork 16 = .ok (.bipush 20, 2) := by decide +kernel
theorem dX2_setWork_18 : decode cX2_setWork 18 = .ok (.invokestatic 28, 3) := by decide +kernel
theorem dX2_setWork_21 : decode cX2_setWork 21 = .ok (.aload 4, 2) := by decide +kernel
theorem dX2_setWork_23 : decode cX2_setWork 23 = .ok (.getfield 32, 3) := by decide +kernel
theorem dX2_setWork_26 : decode cX2_setWork 26 = .ok (.istore 5, 2) := by decide +kernel
theorem dX2_setWork_28 : decode cX2_setWork 28 = .ok (.aload 4, 2) := by decide +kernel
theorem dX2_setWork_30 : decode cX2_setWork 30 = .ok (.iload_n 2, 1) := by decide +kernel
theorem dX2_setWork_31 : decode cX2_setWork 31 = .ok (.putfield 32, 3) := by decide +kernel
theorem dX2_setWork_34 : decode cX2_setWork 34 = .ok (.aload 4, 2) := by decide +kernel
theorem dX2_setWork_36 : decode cX2_setWork 36 = .ok (.iload_n 3, 1) := by decide +kernel
theorem dX2_setWork_37 : decode cX2_setWork 37 = .ok (.putfield 36, 3) := by decide +kernel
theorem dX2_setWork_40 : decode cX2_setWork 40 = .ok (.aload 4, 2) := by decide +kernel
theorem dX2_setWork_42 : decode cX2_setWork 42 = .ok (.iconst 0, 1) := by decide +kernel
theorem dX2_setWork_43 : decode cX2_setWork 43 = .ok (.putfield 39, 3) := by decide +kernel
theorem dX2_setWork_46 : decode cX2_setWork 46 = .ok (.iload 5, 2) := by decide +kernel
theorem dX2_setWork_48 : decode cX2_setWork 48 = .ok (.ireturn, 1) := by decide +kernel
theorem dX2_ask_0 : decode cX2_ask 0 = .ok (.aload_n 0, 1) := by decide +kernel
theorem dX2_ask_1 : decode cX2_ask 1 = .ok (.iload_n 1, 1) := by decide +kernel
theorem dX2_ask_2 : decode cX2_ask 2 = .ok (.invokevirtual 24, 3) := by decide +kernel
theorem dX2_ask_5 : decode cX2_ask 5 = .ok (.astore_n 3, 1) := by decide +kernel
theorem dX2_ask_6 : decode cX2_ask 6 = .ok (.aload_n 0, 1) := by decide +kernel
theorem dX2_ask_7 : decode cX2_ask 7 = .ok (.iload_n 2, 1) := by decide +kernel
theorem dX2_ask_8 : decode cX2_ask 8 = .ok (.invokevirtual 24, 3) := by decide +kernel
theorem dX2_ask_11 : decode cX2_ask 11 = .ok (.astore 4, 2) := by decide +kernel
theorem dX2_ask_13 : decode cX2_ask 13 = .ok (.iload_n 2, 1) := by decide +kernel
theorem dX2_ask_14 : decode cX2_ask 14 = .ok (.iload_n 1, 1) := by decide +kernel
theorem dX2_ask_15 : decode cX2_ask 15 = .ok (.if_icmp .gt 13, 3) := by decide +kernel
theorem dX2_ask_18 : decode cX2_ask 18 = .ok (.new 42, 3) := by decide +kernel
theorem dX2_ask_21 : decode cX2_ask 21 = .ok (.dup, 1) := by decide +kernel
theorem dX2_ask_22 : decode cX2_ask 22 = .ok (.ldc 44, 2) := by decide +kernel
theorem dX2_ask_24 : decode cX2_ask 24 = .ok (.invokespecial 46, 3) := by decide +kernel
theorem dX2_ask_27 : decode cX2_ask 27 = .ok (.athrow, 1) := by decide +kernel
theorem dX2_ask_28 : decode cX2_ask 28 = .ok (.aload_n 3, 1) := by decide +kernel
theorem dX2_ask_29 : decode cX2_ask 29 = .ok (.aload 4, 2) := by decide +kernel
theorem dX2_ask_31 : decode cX2_ask 31 = .ok (.invokevirtual 49, 3) := by decide +kernel
theorem dX2_ask_34 : decode cX2_ask 34 = .ok (.ifCond .ne 13, 3) := by decide +kernel
theorem dX2_ask_37 : decode cX2_ask 37 = .ok (.new 53, 3) := by decide +kernel
theorem dX2_ask_40 : decode cX2_ask 40 = .ok (.dup, 1) := by decide +kernel
theorem dX2_ask_41 : decode cX2_ask 41 = .ok (.ldc 55, 2) := by decide +kernel
theorem dX2_ask_43 : decode cX2_ask 43 = .ok (.invokespecial 57, 3) := by decide +kernel
theorem dX2_ask_46 : decode cX2_ask 46 = .ok (.athrow, 1) := by decide +kernel
theorem dX2_ask_47 : decode cX2_ask 47 = .ok (.aload_n 3, 1) := by decide +kernel
theorem dX2_ask_48 : decode cX2_ask 48 = .ok (.getfield 58, 3) := by decide +kernel
theorem dX2_ask_51 : decode cX2_ask 51 = .ok (.ireturn, 1) := by decide +kernel
theorem dX2_setRoom_0 : decode cX2_setRoom 0 = .ok (.aload_n 0, 1) := by decide +kernel
theorem dX2_setRoom_1 : decode cX2_setRoom 1 = .ok (.iload_n 1, 1) := by decide +kernel
theorem dX2_setRoom_2 : decode cX2_setRoom 2 = .ok (.invokevirtual 24, 3) := by decide +kernel
theorem dX2_setRoom_5 : decode cX2_setRoom 5 = .ok (.astore 5, 2) := by decide +kernel
theorem dX2_setRoom_7 : decode cX2_setRoom 7 = .ok (.iload_n 2, 1) := by decide +kernel
theorem dX2_setRoom_8 : decode cX2_setRoom 8 = .ok (.iconst 1, 1) := by decide +kernel
theorem dX2_setRoom_9 : decode cX2_setRoom 9 = .ok (.iconst 5, 1) := by decide +kernel
theorem dX2_setRoom_10 : decode cX2_setRoom 10 = .ok (.invokestatic 28, 3) := by decide +kernel
theorem dX2_setRoom_13 : decode cX2_setRoom 13 = .ok (.iload_n 3, 1) := by decide +kernel
theorem dX2_setRoom_14 : decode cX2_setRoom 14 = .ok (.iconst 0, 1) := by decide +kernel
theorem dX2_setRoom_15 : decode cX2_setRoom 15 = .ok (.bipush 8, 2) := by decide +kernel
theorem dX2_setRoom_17 : decode cX2_setRoom 17 = .ok (.invokestatic 28, 3) := by decide +kernel
theorem dX2_setRoom_20 : decode cX2_setRoom 20 = .ok (.iload 4, 2) := by decide +kernel
theorem dX2_setRoom_22 : decode cX2_setRoom 22 = .ok (.iconst 0, 1) := by decide +kernel
theorem dX2_setRoom_23 : decode cX2_setRoom 23 = .ok (.bipush 50, 2) := by decide +kernel
theorem dX2_setRoom_25 : decode cX2_setRoom 25 = .ok (.invokestatic 28, 3) := by decide +kernel
theorem dX2_setRoom_28 : decode cX2_setRoom 28 = .ok (.aload 5, 2) := by decide +kernel
theorem dX2_setRoom_30 : decode cX2_setRoom 30 = .ok (.getfield 61, 3) := by decide +kernel
theorem dX2_setRoom_33 : decode cX2_setRoom 33 = .ok (.istore 6, 2) := by decide +kernel
theorem dX2_setRoom_35 : decode cX2_setRoom 35 = .ok (.aload 5, 2) := by decide +kernel
theorem dX2_setRoom_37 : decode cX2_setRoom 37 = .ok (.iload_n 2, 1) := by decide +kernel
theorem dX2_setRoom_38 : decode cX2_setRoom 38 = .ok (.putfield 61, 3) := by decide +kernel
theorem dX2_setRoom_41 : decode cX2_setRoom 41 = .ok (.aload 5, 2) := by decide +kernel
theorem dX2_setRoom_43 : decode cX2_setRoom 43 = .ok (.iload_n 3, 1) := by decide +kernel
theorem dX2_setRoom_44 : decode cX2_setRoom 44 = .ok (.putfield 64, 3) := by decide +kernel
theorem dX2_setRoom_47 : decode cX2_setRoom 47 = .ok (.aload 5, 2) := by decide +kernel
theorem dX2_setRoom_49 : decode cX2_setRoom 49 = .ok (.iload 4, 2) := by decide +kernel
theorem dX2_setRoom_51 : decode cX2_setRoom 51 = .ok (.putfield 67, 3) := by decide +kernel
theorem dX2_setRoom_54 : decode cX2_setRoom 54 = .ok (.iload 6, 2) := by decide +kernel
theorem dX2_setRoom_56 : decode cX2_setRoom 56 = .ok (.ireturn, 1) := by decide +kernel
theorem dX2_call_0 : decode cX2_call 0 = .ok (.aload_n 0, 1) := by decide +kernel
theorem dX2_call_1 : decode cX2_call 1 = .ok (.iload_n 1, 1) := by decide +kernel
theorem dX2_call_2 : decode cX2_call 2 = .ok (.invokevirtual 24, 3) := by decide +kernel
theorem dX2_call_5 : decode cX2_call 5 = .ok (.astore_n 3, 1) := by decide +kernel
theorem dX2_call_6 : decode cX2_call 6 = .ok (.iload_n 2, 1) := by decide +kernel
theorem dX2_call_7 : decode cX2_call 7 = .ok (.iconst 1, 1) := by decide +kernel
theorem dX2_call_8 : decode cX2_call 8 = .ok (.bipush 100, 2) := by decide +kernel
theorem dX2_call_10 : decode cX2_call 10 = .ok (.invokestatic 28, 3) := by decide +kernel
theorem dX2_call_13 : decode cX2_call 13 = .ok (.aload_n 0, 1) := by decide +kernel
theorem dX2_call_14 : decode cX2_call 14 = .ok (.invokevirtual 70, 3) := by decide +kernel
theorem dX2_call_17 : decode cX2_call 17 = .ok (.ifCond .eq 13, 3) := by decide +kernel
theorem dX2_call_20 : decode cX2_call 20 = .ok (.new 53, 3) := by decide +kernel
theorem dX2_call_23 : decode cX2_call 23 = .ok (.dup, 1) := by decide +kernel
theorem dX2_call_24 : decode cX2_call 24 = .ok (.ldc 74, 2) := by decide +kernel
theorem dX2_call_26 : decode cX2_call 26 = .ok (.invokespecial 57, 3) := by decide +kernel
theorem dX2_call_29 : decode cX2_call 29 = .ok (.athrow, 1) := by decide +kernel
theorem dX2_call_30 : decode cX2_call 30 = .ok (.aload_n 0, 1) := by decide +kernel
theorem dX2_call_31 : decode cX2_call 31 = .ok (.aload_n 3, 1) := by decide +kernel
theorem dX2_call_32 : decode cX2_call 32 = .ok (.aconst_null, 1) := by decide +kernel
theorem dX2_call_33 : decode cX2_call 33 = .ok (.aload_n 0, 1) := by decide +kernel
theorem dX2_call_34 : decode cX2_call 34 = .ok (.getfield 76, 3) := by decide +kernel
theorem dX2_call_37 : decode cX2_call 37 = .ok (.iload_n 2, 1) := by decide +kernel
theorem dX2_call_38 : decode cX2_call 38 = .ok (.iadd, 1) := by decide +kernel
theorem dX2_call_39 : decode cX2_call 39 = .ok (.invokevirtual 79, 3) := by decide +kernel
theorem dX2_call_42 : decode cX2_call 42 = .ok (.astore 4, 2) := by decide +kernel
theorem dX2_call_44 : decode cX2_call 44 = .ok (.aload_n 0, 1) := by decide +kernel
theorem dX2_call_45 : decode cX2_call 45 = .ok (.aload 4, 2) := by decide +kernel
theorem dX2_call_47 : decode cX2_call 47 = .ok (.invokevirtual 83, 3) := by decide +kernel
theorem dX2_call_50 : decode cX2_call 50 = .ok (.aload 4, 2) := by decide +kernel
theorem dX2_call_52 : decode cX2_call 52 = .ok (.getfield 87, 3) := by decide +kernel
theorem dX2_call_55 : decode cX2_call 55 = .ok (.ireturn, 1) := by decide +kernel
theorem dX2_cancel_0 : decode cX2_cancel 0 = .ok (.aload_n 0, 1) := by decide +kernel
theorem dX2_cancel_1 : decode cX2_cancel 1 = .ok (.iload_n 1, 1) := by decide +kernel
theorem dX2_cancel_2 : decode cX2_cancel 2 = .ok (.invokevirtual 90, 3) := by decide +kernel
theorem dX2_cancel_5 : decode cX2_cancel 5 = .ok (.astore_n 2, 1) := by decide +kernel
theorem dX2_cancel_6 : decode cX2_cancel 6 = .ok (.aload_n 2, 1) := by decide +kernel
theorem dX2_cancel_7 : decode cX2_cancel 7 = .ok (.invokevirtual 94, 3) := by decide +kernel
theorem dX2_cancel_10 : decode cX2_cancel 10 = .ok (.ifCond .ne 10, 3) := by decide +kernel
theorem dX2_cancel_13 : decode cX2_cancel 13 = .ok (.aload_n 2, 1) := by decide +kernel
theorem dX2_cancel_14 : decode cX2_cancel 14 = .ok (.getfield 97, 3) := by decide +kernel
theorem dX2_cancel_17 : decode cX2_cancel 17 = .ok (.ifnull 13, 3) := by decide +kernel
theorem dX2_cancel_20 : decode cX2_cancel 20 = .ok (.new 53, 3) := by decide +kernel
theorem dX2_cancel_23 : decode cX2_cancel 23 = .ok (.dup, 1) := by decide +kernel
theorem dX2_cancel_24 : decode cX2_cancel 24 = .ok (.ldc 101, 2) := by decide +kernel
theorem dX2_cancel_26 : decode cX2_cancel 26 = .ok (.invokespecial 57, 3) := by decide +kernel
theorem dX2_cancel_29 : decode cX2_cancel 29 = .ok (.athrow, 1) := by decide +kernel
theorem dX2_cancel_30 : decode cX2_cancel 30 = .ok (.iconst 1, 1) := by decide +kernel
theorem dX2_cancel_31 : decode cX2_cancel 31 = .ok (.aload_n 0, 1) := by decide +kernel
theorem dX2_cancel_32 : decode cX2_cancel 32 = .ok (.aload_n 2, 1) := by decide +kernel
theorem dX2_cancel_33 : decode cX2_cancel 33 = .ok (.bipush 7, 2) := by decide +kernel
theorem dX2_cancel_35 : decode cX2_cancel 35 = .ok (.invokevirtual 103, 3) := by decide +kernel
theorem dX2_cancel_38 : decode cX2_cancel 38 = .ok (.iadd, 1) := by decide +kernel
theorem dX2_cancel_39 : decode cX2_cancel 39 = .ok (.ireturn, 1) := by decide +kernel
theorem dX2_pass_0 : decode cX2_pass 0 = .ok (.iload_n 1, 1) := by decide +kernel
theorem dX2_pass_1 : decode cX2_pass 1 = .ok (.iconst 1, 1) := by decide +kernel
theorem dX2_pass_2 : decode cX2_pass 2 = .ok (.bipush 100, 2) := by decide +kernel
theorem dX2_pass_4 : decode cX2_pass 4 = .ok (.invokestatic 28, 3) := by decide +kernel
theorem dX2_pass_7 : decode cX2_pass 7 = .ok (.aload_n 0, 1) := by decide +kernel
theorem dX2_pass_8 : decode cX2_pass 8 = .ok (.getfield 107, 3) := by decide +kernel
theorem dX2_pass_11 : decode cX2_pass 11 = .ok (.istore_n 2, 1) := by decide +kernel
theorem dX2_pass_12 : decode cX2_pass 12 = .ok (.iconst 0, 1) := by decide +kernel
theorem dX2_pass_13 : decode cX2_pass 13 = .ok (.istore_n 3, 1) := by decide +kernel
theorem dX2_pass_14 : decode cX2_pass 14 = .ok (.iload_n 3, 1) := by decide +kernel
theorem dX2_pass_15 : decode cX2_pass 15 = .ok (.iload_n 1, 1) := by decide +kernel
theorem dX2_pass_16 : decode cX2_pass 16 = .ok (.if_icmp .ge 43, 3) := by decide +kernel
theorem dX2_pass_19 : decode cX2_pass 19 = .ok (.aload_n 0, 1) := by decide +kernel
theorem dX2_pass_20 : decode cX2_pass 20 = .ok (.dup, 1) := by decide +kernel
theorem dX2_pass_21 : decode cX2_pass 21 = .ok (.getfield 76, 3) := by decide +kernel
theorem dX2_pass_24 : decode cX2_pass 24 = .ok (.iconst 1, 1) := by decide +kernel
theorem dX2_pass_25 : decode cX2_pass 25 = .ok (.iadd, 1) := by decide +kernel
theorem dX2_pass_26 : decode cX2_pass 26 = .ok (.putfield 76, 3) := by decide +kernel
theorem dX2_pass_29 : decode cX2_pass 29 = .ok (.aload_n 0, 1) := by decide +kernel
theorem dX2_pass_30 : decode cX2_pass 30 = .ok (.invokevirtual 110, 3) := by decide +kernel
theorem dX2_pass_33 : decode cX2_pass 33 = .ok (.aload_n 0, 1) := by decide +kernel
theorem dX2_pass_34 : decode cX2_pass 34 = .ok (.invokevirtual 113, 3) := by decide +kernel
theorem dX2_pass_37 : decode cX2_pass 37 = .ok (.aload_n 0, 1) := by decide +kernel
theorem dX2_pass_38 : decode cX2_pass 38 = .ok (.invokevirtual 116, 3) := by decide +kernel
theorem dX2_pass_41 : decode cX2_pass 41 = .ok (.aload_n 0, 1) := by decide +kernel
theorem dX2_pass_42 : decode cX2_pass 42 = .ok (.invokevirtual 119, 3) := by decide +kernel
theorem dX2_pass_45 : decode cX2_pass 45 = .ok (.aload_n 0, 1) := by decide +kernel
theorem dX2_pass_46 : decode cX2_pass 46 = .ok (.invokevirtual 122, 3) := by decide +kernel
theorem dX2_pass_49 : decode cX2_pass 49 = .ok (.aload_n 0, 1) := by decide +kernel
theorem dX2_pass_50 : decode cX2_pass 50 = .ok (.invokevirtual 125, 3) := by decide +kernel
theorem dX2_pass_53 : decode cX2_pass 53 = .ok (.iinc 3 1, 3) := by decide +kernel
theorem dX2_pass_56 : decode cX2_pass 56 = .ok (.goto (-42), 3) := by decide +kernel
theorem dX2_pass_59 : decode cX2_pass 59 = .ok (.aload_n 0, 1) := by decide +kernel
theorem dX2_pass_60 : decode cX2_pass 60 = .ok (.getfield 107, 3) := by decide +kernel
theorem dX2_pass_63 : decode cX2_pass 63 = .ok (.iload_n 2, 1) := by decide +kernel
theorem dX2_pass_64 : decode cX2_pass 64 = .ok (.isub, 1) := by decide +kernel
theorem dX2_pass_65 : decode cX2_pass 65 = .ok (.ireturn, 1) := by decide +kernel
theorem dX2_time_0 : decode cX2_time 0 = .ok (.aload_n 0, 1) := by decide +kernel
theorem dX2_time_1 : decode cX2_time 1 = .ok (.getfield 76, 3) := by decide +kernel
theorem dX2_time_4 : decode cX2_time 4 = .ok (.ireturn, 1) := by decide +kernel
theorem dX2_calls_0 : decode cX2_calls 0 = .ok (.aload_n 0, 1) := by decide +kernel
theorem dX2_calls_1 : decode cX2_calls 1 = .ok (.getfield 128, 3) := by decide +kernel
theorem dX2_calls_4 : decode cX2_calls 4 = .ok (.ireturn, 1) := by decide +kernel
theorem dX2_state_0 : decode cX2_state 0 = .ok (.aload_n 0, 1) := by decide +kernel
theorem dX2_state_1 : decode cX2_state 1 = .ok (.iload_n 1, 1) := by decide +kernel
theorem dX2_state_2 : decode cX2_state 2 = .ok (.invokevirtual 90, 3) := by decide +kernel
theorem dX2_state_5 : decode cX2_state 5 = .ok (.getfield 131, 3) := by decide +kernel
theorem dX2_state_8 : decode cX2_state 8 = .ok (.ireturn, 1) := by decide +kernel
theorem dX2_origin_0 : decode cX2_origin 0 = .ok (.aload_n 0, 1) := by decide +kernel
theorem dX2_origin_1 : decode cX2_origin 1 = .ok (.iload_n 1, 1) := by decide +kernel
theorem dX2_origin_2 : decode cX2_origin 2 = .ok (.invokevirtual 90, 3) := by decide +kernel
theorem dX2_origin_5 : decode cX2_origin 5 = .ok (.astore_n 2, 1) := by decide +kernel
theorem dX2_origin_6 : decode cX2_origin 6 = .ok (.aload_n 2, 1) := by decide +kernel
theorem dX2_origin_7 : decode cX2_origin 7 = .ok (.getfield 97, 3) := by decide +kernel
theorem dX2_origin_10 : decode cX2_origin 10 = .ok (.ifnonnull 7, 3) := by decide +kernel
theorem dX2_origin_13 : decode cX2_origin 13 = .ok (.iconst 0, 1) := by decide +kernel
theorem dX2_origin_14 : decode cX2_origin 14 = .ok (.goto 12, 3) := by decide +kernel
theorem dX2_origin_17 : decode cX2_origin 17 = .ok (.aload_n 2, 1) := by decide +kernel
theorem dX2_origin_18 : decode cX2_origin 18 = .ok (.getfield 97, 3) := by decide +kernel
theorem dX2_origin_21 : decode cX2_origin 21 = .ok (.getfield 87, 3) := by decide +kernel
theorem dX2_origin_24 : decode cX2_origin 24 = .ok (.iconst 1, 1) := by decide +kernel
theorem dX2_origin_25 : decode cX2_origin 25 = .ok (.iadd, 1) := by decide +kernel
theorem dX2_origin_26 : decode cX2_origin 26 = .ok (.istore_n 3, 1) := by decide +kernel
theorem dX2_origin_27 : decode cX2_origin 27 = .ok (.sipush 1000, 3) := by decide +kernel
theorem dX2_origin_30 : decode cX2_origin 30 = .ok (.aload_n 2, 1) := by decide +kernel
theorem dX2_origin_31 : decode cX2_origin 31 = .ok (.getfield 134, 3) := by decide +kernel
theorem dX2_origin_34 : decode cX2_origin 34 = .ok (.getfield 138, 3) := by decide +kernel
theorem dX2_origin_37 : decode cX2_origin 37 = .ok (.imul, 1) := by decide +kernel
theorem dX2_origin_38 : decode cX2_origin 38 = .ok (.iload_n 3, 1) := by decide +kernel
theorem dX2_origin_39 : decode cX2_origin 39 = .ok (.iadd, 1) := by decide +kernel
theorem dX2_origin_40 : decode cX2_origin 40 = .ok (.ireturn, 1) := by decide +kernel
theorem dX2_deadline_0 : decode cX2_deadline 0 = .ok (.aload_n 0, 1) := by decide +kernel
theorem dX2_deadline_1 : decode cX2_deadline 1 = .ok (.iload_n 1, 1) := by decide +kernel
theorem dX2_deadline_2 : decode cX2_deadline 2 = .ok (.invokevirtual 90, 3) := by decide +kernel
theorem dX2_deadline_5 : decode cX2_deadline 5 = .ok (.getfield 139, 3) := by decide +kernel
theorem dX2_deadline_8 : decode cX2_deadline 8 = .ok (.ireturn, 1) := by decide +kernel
theorem dX2_overAt_0 : decode cX2_overAt 0 = .ok (.aload_n 0, 1) := by decide +kernel
theorem dX2_overAt_1 : decode cX2_overAt 1 = .ok (.iload_n 1, 1) := by decide +kernel
theorem dX2_overAt_2 : decode cX2_overAt 2 = .ok (.invokevirtual 90, 3) := by decide +kernel
theorem dX2_overAt_5 : decode cX2_overAt 5 = .ok (.getfield 142, 3) := by decide +kernel
theorem dX2_overAt_8 : decode cX2_overAt 8 = .ok (.ireturn, 1) := by decide +kernel
theorem dX2_place_0 : decode cX2_place 0 = .ok (.aload_n 0, 1) := by decide +kernel
theorem dX2_place_1 : decode cX2_place 1 = .ok (.iload_n 1, 1) := by decide +kernel
theorem dX2_place_2 : decode cX2_place 2 = .ok (.invokevirtual 90, 3) := by decide +kernel
theorem dX2_place_5 : decode cX2_place 5 = .ok (.astore_n 2, 1) := by decide +kernel
theorem dX2_place_6 : decode cX2_place 6 = .ok (.aload_n 2, 1) := by decide +kernel
theorem dX2_place_7 : decode cX2_place 7 = .ok (.getfield 131, 3) := by decide +kernel
theorem dX2_place_10 : decode cX2_place 10 = .ok (.iconst 2, 1) := by decide +kernel
theorem dX2_place_11 : decode cX2_place 11 = .ok (.if_icmp .ne 10, 3) := by decide +kernel
theorem dX2_place_14 : decode cX2_place 14 = .ok (.aload_n 2, 1) := by decide +kernel
theorem dX2_place_15 : decode cX2_place 15 = .ok (.getfield 145, 3) := by decide +kernel
theorem dX2_place_18 : decode cX2_place 18 = .ok (.goto 4, 3) := by decide +kernel
theorem dX2_place_21 : decode cX2_place 21 = .ok (.iconst (-1), 1) := by decide +kernel
theorem dX2_place_22 : decode cX2_place 22 = .ok (.ireturn, 1) := by decide +kernel
theorem dX2_below_0 : decode cX2_below 0 = .ok (.aload_n 0, 1) := by decide +kernel
theorem dX2_below_1 : decode cX2_below 1 = .ok (.iload_n 1, 1) := by decide +kernel
theorem dX2_below_2 : decode cX2_below 2 = .ok (.invokevirtual 90, 3) := by decide +kernel
theorem dX2_below_5 : decode cX2_below 5 = .ok (.astore_n 2, 1) := by decide +kernel
theorem dX2_below_6 : decode cX2_below 6 = .ok (.iconst 0, 1) := by decide +kernel
theorem dX2_below_7 : decode cX2_below 7 = .ok (.istore_n 3, 1) := by decide +kernel
theorem dX2_below_8 : decode cX2_below 8 = .ok (.aload_n 2, 1) := by decide +kernel
theorem dX2_below_9 : decode cX2_below 9 = .ok (.getfield 148, 3) := by decide +kernel
theorem dX2_below_12 : decode cX2_below 12 = .ok (.astore 4, 2) := by decide +kernel
theorem dX2_below_14 : decode cX2_below 14 = .ok (.aload 4, 2) := by decide +kernel
theorem dX2_below_16 : decode cX2_below 16 = .ok (.ifnull 33, 3) := by decide +kernel
theorem dX2_below_19 : decode cX2_below 19 = .ok (.aload 4, 2) := by decide +kernel
theorem dX2_below_21 : decode cX2_below 21 = .ok (.invokevirtual 94, 3) := by decide +kernel
theorem dX2_below_24 : decode cX2_below 24 = .ok (.ifCond .ne 15, 3) := by decide +kernel
theorem dX2_below_27 : decode cX2_below 27 = .ok (.aload 4, 2) := by decide +kernel
theorem dX2_below_29 : decode cX2_below 29 = .ok (.aload_n 2, 1) := by decide +kernel
theorem dX2_below_30 : decode cX2_below 30 = .ok (.invokevirtual 151, 3) := by decide +kernel
theorem dX2_below_33 : decode cX2_below 33 = .ok (.ifCond .eq 6, 3) := by decide +kernel
theorem dX2_below_36 : decode cX2_below 36 = .ok (.iinc 3 1, 3) := by decide +kernel
theorem dX2_below_39 : decode cX2_below 39 = .ok (.aload 4, 2) := by decide +kernel
theorem dX2_below_41 : decode cX2_below 41 = .ok (.getfield 148, 3) := by decide +kernel
theorem dX2_below_44 : decode cX2_below 44 = .ok (.astore 4, 2) := by decide +kernel
theorem dX2_below_46 : decode cX2_below 46 = .ok (.goto (-32), 3) := by decide +kernel
theorem dX2_below_49 : decode cX2_below 49 = .ok (.iload_n 3, 1) := by decide +kernel
theorem dX2_below_50 : decode cX2_below 50 = .ok (.ireturn, 1) := by decide +kernel
theorem dX2_queuedAt_0 : decode cX2_queuedAt 0 = .ok (.aload_n 0, 1) := by decide +kernel
theorem dX2_queuedAt_1 : decode cX2_queuedAt 1 = .ok (.iload_n 1, 1) := by decide +kernel
theorem dX2_queuedAt_2 : decode cX2_queuedAt 2 = .ok (.invokevirtual 24, 3) := by decide +kernel
theorem dX2_queuedAt_5 : decode cX2_queuedAt 5 = .ok (.astore_n 3, 1) := by decide +kernel
theorem dX2_queuedAt_6 : decode cX2_queuedAt 6 = .ok (.iconst 0, 1) := by decide +kernel
theorem dX2_queuedAt_7 : decode cX2_queuedAt 7 = .ok (.istore 4, 2) := by decide +kernel
theorem dX2_queuedAt_9 : decode cX2_queuedAt 9 = .ok (.aload_n 0, 1) := by decide +kernel
theorem dX2_queuedAt_10 : decode cX2_queuedAt 10 = .ok (.getfield 155, 3) := by decide +kernel
theorem dX2_queuedAt_13 : decode cX2_queuedAt 13 = .ok (.astore 5, 2) := by decide +kernel
theorem dX2_queuedAt_15 : decode cX2_queuedAt 15 = .ok (.aload 5, 2) := by decide +kernel
theorem dX2_queuedAt_17 : decode cX2_queuedAt 17 = .ok (.ifnull 38, 3) := by decide +kernel
theorem dX2_queuedAt_20 : decode cX2_queuedAt 20 = .ok (.aload 5, 2) := by decide +kernel
theorem dX2_queuedAt_22 : decode cX2_queuedAt 22 = .ok (.aload_n 3, 1) := by decide +kernel
theorem dX2_queuedAt_23 : decode cX2_queuedAt 23 = .ok (.iconst 0, 1) := by decide +kernel
theorem dX2_queuedAt_24 : decode cX2_queuedAt 24 = .ok (.invokevirtual 158, 3) := by decide +kernel
theorem dX2_queuedAt_27 : decode cX2_queuedAt 27 = .ok (.ifCond .eq 18, 3) := by decide +kernel
theorem dX2_queuedAt_30 : decode cX2_queuedAt 30 = .ok (.iload 4, 2) := by decide +kernel
theorem dX2_queuedAt_32 : decode cX2_queuedAt 32 = .ok (.iload_n 2, 1) := by decide +kernel
theorem dX2_queuedAt_33 : decode cX2_queuedAt 33 = .ok (.if_icmp .ne 9, 3) := by decide +kernel
theorem dX2_queuedAt_36 : decode cX2_queuedAt 36 = .ok (.aload 5, 2) := by decide +kernel
theorem dX2_queuedAt_38 : decode cX2_queuedAt 38 = .ok (.getfield 87, 3) := by decide +kernel
theorem dX2_queuedAt_41 : decode cX2_queuedAt 41 = .ok (.ireturn, 1) := by decide +kernel
theorem dX2_queuedAt_42 : decode cX2_queuedAt 42 = .ok (.iinc 4 1, 3) := by decide +kernel
theorem dX2_queuedAt_45 : decode cX2_queuedAt 45 = .ok (.aload 5, 2) := by decide +kernel
theorem dX2_queuedAt_47 : decode cX2_queuedAt 47 = .ok (.getfield 148, 3) := by decide +kernel
theorem dX2_queuedAt_50 : decode cX2_queuedAt 50 = .ok (.astore 5, 2) := by decide +kernel
theorem dX2_queuedAt_52 : decode cX2_queuedAt 52 = .ok (.goto (-37), 3) := by decide +kernel
theorem dX2_queuedAt_55 : decode cX2_queuedAt 55 = .ok (.new 162, 3) := by decide +kernel
theorem dX2_queuedAt_58 : decode cX2_queuedAt 58 = .ok (.dup, 1) := by decide +kernel
theorem dX2_queuedAt_59 : decode cX2_queuedAt 59 = .ok (.ldc 164, 2) := by decide +kernel
theorem dX2_queuedAt_61 : decode cX2_queuedAt 61 = .ok (.invokespecial 166, 3) := by decide +kernel
theorem dX2_queuedAt_64 : decode cX2_queuedAt 64 = .ok (.athrow, 1) := by decide +kernel
theorem dX2_count_0 : decode cX2_count 0 = .ok (.aload_n 0, 1) := by decide +kernel
theorem dX2_count_1 : decode cX2_count 1 = .ok (.iload_n 1, 1) := by decide +kernel
theorem dX2_count_2 : decode cX2_count 2 = .ok (.invokevirtual 24, 3) := by decide +kernel
theorem dX2_count_5 : decode cX2_count 5 = .ok (.astore_n 3, 1) := by decide +kernel
theorem dX2_count_6 : decode cX2_count 6 = .ok (.iload_n 2, 1) := by decide +kernel
theorem dX2_count_7 : decode cX2_count 7 = .ok (.iconst 0, 1) := by decide +kernel
theorem dX2_count_8 : decode cX2_count 8 = .ok (.bipush 7, 2) := by decide +kernel
theorem dX2_count_10 : decode cX2_count 10 = .ok (.invokestatic 28, 3) := by decide +kernel
theorem dX2_count_13 : decode cX2_count 13 = .ok (.aload_n 3, 1) := by decide +kernel
theorem dX2_count_14 : decode cX2_count 14 = .ok (.iload_n 2, 1) := by decide +kernel
theorem dX2_count_15 : decode cX2_count 15 = .ok (.invokevirtual 167, 3) := by decide +kernel
theorem dX2_count_18 : decode cX2_count 18 = .ok (.ireturn, 1) := by decide +kernel
theorem dX2_tokens_0 : decode cX2_tokens 0 = .ok (.aload_n 0, 1) := by decide +kernel
theorem dX2_tokens_1 : decode cX2_tokens 1 = .ok (.iload_n 1, 1) := by decide +kernel
theorem dX2_tokens_2 : decode cX2_tokens 2 = .ok (.invokevirtual 24, 3) := by decide +kernel
theorem dX2_tokens_5 : decode cX2_tokens 5 = .ok (.getfield 171, 3) := by decide +kernel
theorem dX2_tokens_8 : decode cX2_tokens 8 = .ok (.ireturn, 1) := by decide +kernel
theorem dX2_isOpen_0 : decode cX2_isOpen 0 = .ok (.aload_n 0, 1) := by decide +kernel
theorem dX2_isOpen_1 : decode cX2_isOpen 1 = .ok (.iload_n 1, 1) := by decide +kernel
theorem dX2_isOpen_2 : decode cX2_isOpen 2 = .ok (.invokevirtual 24, 3) := by decide +kernel
theorem dX2_isOpen_5 : decode cX2_isOpen 5 = .ok (.aload_n 0, 1) := by decide +kernel
theorem dX2_isOpen_6 : decode cX2_isOpen 6 = .ok (.getfield 76, 3) := by decide +kernel
theorem dX2_isOpen_9 : decode cX2_isOpen 9 = .ok (.invokevirtual 174, 3) := by decide +kernel
theorem dX2_isOpen_12 : decode cX2_isOpen 12 = .ok (.ireturn, 1) := by decide +kernel
theorem dX2_serviceAt_0 : decode cX2_serviceAt 0 = .ok (.iload_n 1, 1) := by decide +kernel
theorem dX2_serviceAt_1 : decode cX2_serviceAt 1 = .ok (.ifCond .lt 21, 3) := by decide +kernel
theorem dX2_serviceAt_4 : decode cX2_serviceAt 4 = .ok (.iload_n 1, 1) := by decide +kernel
theorem dX2_serviceAt_5 : decode cX2_serviceAt 5 = .ok (.aload_n 0, 1) := by decide +kernel
theorem dX2_serviceAt_6 : decode cX2_serviceAt 6 = .ok (.getfield 11, 3) := by decide +kernel
theorem dX2_serviceAt_9 : decode cX2_serviceAt 9 = .ok (.arraylength, 1) := by decide +kernel
theorem dX2_serviceAt_10 : decode cX2_serviceAt 10 = .ok (.if_icmp .ge 12, 3) := by decide +kernel
theorem dX2_serviceAt_13 : decode cX2_serviceAt 13 = .ok (.aload_n 0, 1) := by decide +kernel
theorem dX2_serviceAt_14 : decode cX2_serviceAt 14 = .ok (.getfield 11, 3) := by decide +kernel
theorem dX2_serviceAt_17 : decode cX2_serviceAt 17 = .ok (.iload_n 1, 1) := by decide +kernel
theorem dX2_serviceAt_18 : decode cX2_serviceAt 18 = .ok (.aaload, 1) := by decide +kernel
theorem dX2_serviceAt_19 : decode cX2_serviceAt 19 = .ok (.goto 4, 3) := by decide +kernel
theorem dX2_serviceAt_22 : decode cX2_serviceAt 22 = .ok (.aconst_null, 1) := by decide +kernel
theorem dX2_serviceAt_23 : decode cX2_serviceAt 23 = .ok (.astore_n 2, 1) := by decide +kernel
theorem dX2_serviceAt_24 : decode cX2_serviceAt 24 = .ok (.aload_n 2, 1) := by decide +kernel
theorem dX2_serviceAt_25 : decode cX2_serviceAt 25 = .ok (.ifnonnull 13, 3) := by decide +kernel
theorem dX2_serviceAt_28 : decode cX2_serviceAt 28 = .ok (.new 162, 3) := by decide +kernel
theorem dX2_serviceAt_31 : decode cX2_serviceAt 31 = .ok (.dup, 1) := by decide +kernel
theorem dX2_serviceAt_32 : decode cX2_serviceAt 32 = .ok (.ldc 178, 2) := by decide +kernel
theorem dX2_serviceAt_34 : decode cX2_serviceAt 34 = .ok (.invokespecial 166, 3) := by decide +kernel
theorem dX2_serviceAt_37 : decode cX2_serviceAt 37 = .ok (.athrow, 1) := by decide +kernel
theorem dX2_serviceAt_38 : decode cX2_serviceAt 38 = .ok (.aload_n 2, 1) := by decide +kernel
theorem dX2_serviceAt_39 : decode cX2_serviceAt 39 = .ok (.areturn, 1) := by decide +kernel
theorem dX2_callAt_0 : decode cX2_callAt 0 = .ok (.iload_n 1, 1) := by decide +kernel
theorem dX2_callAt_1 : decode cX2_callAt 1 = .ok (.ifCond .lt 21, 3) := by decide +kernel
theorem dX2_callAt_4 : decode cX2_callAt 4 = .ok (.iload_n 1, 1) := by decide +kernel
theorem dX2_callAt_5 : decode cX2_callAt 5 = .ok (.aload_n 0, 1) := by decide +kernel
theorem dX2_callAt_6 : decode cX2_callAt 6 = .ok (.getfield 17, 3) := by decide +kernel
theorem dX2_callAt_9 : decode cX2_callAt 9 = .ok (.arraylength, 1) := by decide +kernel
theorem dX2_callAt_10 : decode cX2_callAt 10 = .ok (.if_icmp .ge 12, 3) := by decide +kernel
theorem dX2_callAt_13 : decode cX2_callAt 13 = .ok (.aload_n 0, 1) := by decide +kernel
theorem dX2_callAt_14 : decode cX2_callAt 14 = .ok (.getfield 17, 3) := by decide +kernel
theorem dX2_callAt_17 : decode cX2_callAt 17 = .ok (.iload_n 1, 1) := by decide +kernel
theorem dX2_callAt_18 : decode cX2_callAt 18 = .ok (.aaload, 1) := by decide +kernel
theorem dX2_callAt_19 : decode cX2_callAt 19 = .ok (.goto 4, 3) := by decide +kernel
theorem dX2_callAt_22 : decode cX2_callAt 22 = .ok (.aconst_null, 1) := by decide +kernel
theorem dX2_callAt_23 : decode cX2_callAt 23 = .ok (.astore_n 2, 1) := by decide +kernel
theorem dX2_callAt_24 : decode cX2_callAt 24 = .ok (.aload_n 2, 1) := by decide +kernel
theorem dX2_callAt_25 : decode cX2_callAt 25 = .ok (.ifnonnull 13, 3) := by decide +kernel
theorem dX2_callAt_28 : decode cX2_callAt 28 = .ok (.new 162, 3) := by decide +kernel
theorem dX2_callAt_31 : decode cX2_callAt 31 = .ok (.dup, 1) := by decide +kernel
theorem dX2_callAt_32 : decode cX2_callAt 32 = .ok (.ldc 180, 2) := by decide +kernel
theorem dX2_callAt_34 : decode cX2_callAt 34 = .ok (.invokespecial 166, 3) := by decide +kernel
theorem dX2_callAt_37 : decode cX2_callAt 37 = .ok (.athrow, 1) := by decide +kernel
theorem dX2_callAt_38 : decode cX2_callAt 38 = .ok (.aload_n 2, 1) := by decide +kernel
theorem dX2_callAt_39 : decode cX2_callAt 39 = .ok (.areturn, 1) := by decide +kernel
theorem dX2_checkRange_0 : decode cX2_checkRange 0 = .ok (.iload_n 0, 1) := by decide +kernel
theorem dX2_checkRange_1 : decode cX2_checkRange 1 = .ok (.iload_n 1, 1) := by decide +kernel
theorem dX2_checkRange_2 : decode cX2_checkRange 2 = .ok (.if_icmp .lt 8, 3) := by decide +kernel
theorem dX2_checkRange_5 : decode cX2_checkRange 5 = .ok (.iload_n 0, 1) := by decide +kernel
theorem dX2_checkRange_6 : decode cX2_checkRange 6 = .ok (.iload_n 2, 1) := by decide +kernel
theorem dX2_checkRange_7 : decode cX2_checkRange 7 = .ok (.if_icmp .le 13, 3) := by decide +kernel
theorem dX2_checkRange_10 : decode cX2_checkRange 10 = .ok (.new 42, 3) := by decide +kernel
theorem dX2_checkRange_13 : decode cX2_checkRange 13 = .ok (.dup, 1) := by decide +kernel
theorem dX2_checkRange_14 : decode cX2_checkRange 14 = .ok (.ldc 182, 2) := by decide +kernel
theorem dX2_checkRange_16 : decode cX2_checkRange 16 = .ok (.invokespecial 46, 3) := by decide +kernel
theorem dX2_checkRange_19 : decode cX2_checkRange 19 = .ok (.athrow, 1) := by decide +kernel
theorem dX2_checkRange_20 : decode cX2_checkRange 20 = .ok (.return_, 1) := by decide +kernel
theorem dX2_isFull_0 : decode cX2_isFull 0 = .ok (.aload_n 0, 1) := by decide +kernel
theorem dX2_isFull_1 : decode cX2_isFull 1 = .ok (.getfield 128, 3) := by decide +kernel
theorem dX2_isFull_4 : decode cX2_isFull 4 = .ok (.aload_n 0, 1) := by decide +kernel
theorem dX2_isFull_5 : decode cX2_isFull 5 = .ok (.getfield 17, 3) := by decide +kernel
theorem dX2_isFull_8 : decode cX2_isFull 8 = .ok (.arraylength, 1) := by decide +kernel
theorem dX2_isFull_9 : decode cX2_isFull 9 = .ok (.if_icmp .lt 7, 3) := by decide +kernel
theorem dX2_isFull_12 : decode cX2_isFull 12 = .ok (.iconst 1, 1) := by decide +kernel
theorem dX2_isFull_13 : decode cX2_isFull 13 = .ok (.goto 4, 3) := by decide +kernel
theorem dX2_isFull_16 : decode cX2_isFull 16 = .ok (.iconst 0, 1) := by decide +kernel
theorem dX2_isFull_17 : decode cX2_isFull 17 = .ok (.ireturn, 1) := by decide +kernel
theorem dX2_makeCall_0 : decode cX2_makeCall 0 = .ok (.new 15, 3) := by decide +kernel
theorem dX2_makeCall_3 : decode cX2_makeCall 3 = .ok (.dup, 1) := by decide +kernel
theorem dX2_makeCall_4 : decode cX2_makeCall 4 = .ok (.aload_n 0, 1) := by decide +kernel
theorem dX2_makeCall_5 : decode cX2_makeCall 5 = .ok (.getfield 128, 3) := by decide +kernel
theorem dX2_makeCall_8 : decode cX2_makeCall 8 = .ok (.aload_n 1, 1) := by decide +kernel
theorem dX2_makeCall_9 : decode cX2_makeCall 9 = .ok (.aload_n 2, 1) := by decide +kernel
theorem dX2_makeCall_10 : decode cX2_makeCall 10 = .ok (.iload_n 3, 1) := by decide +kernel
theorem dX2_makeCall_11 : decode cX2_makeCall 11 = .ok (.invokespecial 184, 3) := by decide +kernel
theorem dX2_makeCall_14 : decode cX2_makeCall 14 = .ok (.astore 4, 2) := by decide +kernel
theorem dX2_makeCall_16 : decode cX2_makeCall 16 = .ok (.aload_n 0, 1) := by decide +kernel
theorem dX2_makeCall_17 : decode cX2_makeCall 17 = .ok (.getfield 128, 3) := by decide +kernel
theorem dX2_makeCall_20 : decode cX2_makeCall 20 = .ok (.aload_n 0, 1) := by decide +kernel
theorem dX2_makeCall_21 : decode cX2_makeCall 21 = .ok (.getfield 17, 3) := by decide +kernel
theorem dX2_makeCall_24 : decode cX2_makeCall 24 = .ok (.arraylength, 1) := by decide +kernel
theorem dX2_makeCall_25 : decode cX2_makeCall 25 = .ok (.if_icmp .ge 24, 3) := by decide +kernel
theorem dX2_makeCall_28 : decode cX2_makeCall 28 = .ok (.aload_n 0, 1) := by decide +kernel
theorem dX2_makeCall_29 : decode cX2_makeCall 29 = .ok (.getfield 17, 3) := by decide +kernel
theorem dX2_makeCall_32 : decode cX2_makeCall 32 = .ok (.aload_n 0, 1) := by decide +kernel
theorem dX2_makeCall_33 : decode cX2_makeCall 33 = .ok (.getfield 128, 3) := by decide +kernel
theorem dX2_makeCall_36 : decode cX2_makeCall 36 = .ok (.aload 4, 2) := by decide +kernel
theorem dX2_makeCall_38 : decode cX2_makeCall 38 = .ok (.aastore, 1) := by decide +kernel
theorem dX2_makeCall_39 : decode cX2_makeCall 39 = .ok (.aload_n 0, 1) := by decide +kernel
theorem dX2_makeCall_40 : decode cX2_makeCall 40 = .ok (.dup, 1) := by decide +kernel
theorem dX2_makeCall_41 : decode cX2_makeCall 41 = .ok (.getfield 128, 3) := by decide +kernel
theorem dX2_makeCall_44 : decode cX2_makeCall 44 = .ok (.iconst 1, 1) := by decide +kernel
theorem dX2_makeCall_45 : decode cX2_makeCall 45 = .ok (.iadd, 1) := by decide +kernel
theorem dX2_makeCall_46 : decode cX2_makeCall 46 = .ok (.putfield 128, 3) := by decide +kernel
theorem dX2_makeCall_49 : decode cX2_makeCall 49 = .ok (.aload 4, 2) := by decide +kernel
theorem dX2_makeCall_51 : decode cX2_makeCall 51 = .ok (.aload_n 0, 1) := by decide +kernel
theorem dX2_makeCall_52 : decode cX2_makeCall 52 = .ok (.getfield 187, 3) := by decide +kernel
theorem dX2_makeCall_55 : decode cX2_makeCall 55 = .ok (.putfield 190, 3) := by decide +kernel
theorem dX2_makeCall_58 : decode cX2_makeCall 58 = .ok (.aload_n 0, 1) := by decide +kernel
theorem dX2_makeCall_59 : decode cX2_makeCall 59 = .ok (.getfield 187, 3) := by decide +kernel
theorem dX2_makeCall_62 : decode cX2_makeCall 62 = .ok (.ifnonnull 12, 3) := by decide +kernel
theorem dX2_makeCall_65 : decode cX2_makeCall 65 = .ok (.aload_n 0, 1) := by decide +kernel
theorem dX2_makeCall_66 : decode cX2_makeCall 66 = .ok (.aload 4, 2) := by decide +kernel
theorem dX2_makeCall_68 : decode cX2_makeCall 68 = .ok (.putfield 155, 3) := by decide +kernel
theorem dX2_makeCall_71 : decode cX2_makeCall 71 = .ok (.goto 12, 3) := by decide +kernel
theorem dX2_makeCall_74 : decode cX2_makeCall 74 = .ok (.aload_n 0, 1) := by decide +kernel
theorem dX2_makeCall_75 : decode cX2_makeCall 75 = .ok (.getfield 187, 3) := by decide +kernel
theorem dX2_makeCall_78 : decode cX2_makeCall 78 = .ok (.aload 4, 2) := by decide +kernel
theorem dX2_makeCall_80 : decode cX2_makeCall 80 = .ok (.putfield 148, 3) := by decide +kernel
theorem dX2_makeCall_83 : decode cX2_makeCall 83 = .ok (.aload_n 0, 1) := by decide +kernel
theorem dX2_makeCall_84 : decode cX2_makeCall 84 = .ok (.aload 4, 2) := by decide +kernel
theorem dX2_makeCall_86 : decode cX2_makeCall 86 = .ok (.putfield 187, 3) := by decide +kernel
theorem dX2_makeCall_89 : decode cX2_makeCall 89 = .ok (.aload 4, 2) := by decide +kernel
theorem dX2_makeCall_91 : decode cX2_makeCall 91 = .ok (.areturn, 1) := by decide +kernel
theorem dX2_begin_0 : decode cX2_begin 0 = .ok (.aload_n 1, 1) := by decide +kernel
theorem dX2_begin_1 : decode cX2_begin 1 = .ok (.getfield 134, 3) := by decide +kernel
theorem dX2_begin_4 : decode cX2_begin 4 = .ok (.astore_n 2, 1) := by decide +kernel
theorem dX2_begin_5 : decode cX2_begin 5 = .ok (.aload_n 2, 1) := by decide +kernel
theorem dX2_begin_6 : decode cX2_begin 6 = .ok (.aload_n 0, 1) := by decide +kernel
theorem dX2_begin_7 : decode cX2_begin 7 = .ok (.getfield 76, 3) := by decide +kernel
theorem dX2_begin_10 : decode cX2_begin 10 = .ok (.invokevirtual 174, 3) := by decide +kernel
theorem dX2_begin_13 : decode cX2_begin 13 = .ok (.ifCond .eq 13, 3) := by decide +kernel
theorem dX2_begin_16 : decode cX2_begin 16 = .ok (.aload_n 0, 1) := by decide +kernel
theorem dX2_begin_17 : decode cX2_begin 17 = .ok (.aload_n 1, 1) := by decide +kernel
theorem dX2_begin_18 : decode cX2_begin 18 = .ok (.iconst 4, 1) := by decide +kernel
theorem dX2_begin_19 : decode cX2_begin 19 = .ok (.invokevirtual 103, 3) := by decide +kernel
theorem dX2_begin_22 : decode cX2_begin 22 = .ok (.pop, 1) := by decide +kernel
theorem dX2_begin_23 : decode cX2_begin 23 = .ok (.goto 63, 3) := by decide +kernel
theorem dX2_begin_26 : decode cX2_begin 26 = .ok (.aload_n 1, 1) := by decide +kernel
theorem dX2_begin_27 : decode cX2_begin 27 = .ok (.aload_n 0, 1) := by decide +kernel
theorem dX2_begin_28 : decode cX2_begin 28 = .ok (.getfield 76, 3) := by decide +kernel
theorem dX2_begin_31 : decode cX2_begin 31 = .ok (.invokevirtual 193, 3) := by decide +kernel
theorem dX2_begin_34 : decode cX2_begin 34 = .ok (.ifCond .ne 14, 3) := by decide +kernel
theorem dX2_begin_37 : decode cX2_begin 37 = .ok (.aload_n 0, 1) := by decide +kernel
theorem dX2_begin_38 : decode cX2_begin 38 = .ok (.aload_n 1, 1) := by decide +kernel
theorem dX2_begin_39 : decode cX2_begin 39 = .ok (.bipush 6, 2) := by decide +kernel
theorem dX2_begin_41 : decode cX2_begin 41 = .ok (.invokevirtual 103, 3) := by decide +kernel
theorem dX2_begin_44 : decode cX2_begin 44 = .ok (.pop, 1) := by decide +kernel
theorem dX2_begin_45 : decode cX2_begin 45 = .ok (.goto 41, 3) := by decide +kernel
theorem dX2_begin_48 : decode cX2_begin 48 = .ok (.aload_n 2, 1) := by decide +kernel
theorem dX2_begin_49 : decode cX2_begin 49 = .ok (.invokevirtual 196, 3) := by decide +kernel
theorem dX2_begin_52 : decode cX2_begin 52 = .ok (.ifCond .eq 11, 3) := by decide +kernel
theorem dX2_begin_55 : decode cX2_begin 55 = .ok (.aload_n 0, 1) := by decide +kernel
theorem dX2_begin_56 : decode cX2_begin 56 = .ok (.aload_n 1, 1) := by decide +kernel
theorem dX2_begin_57 : decode cX2_begin 57 = .ok (.invokevirtual 199, 3) := by decide +kernel
theorem dX2_begin_60 : decode cX2_begin 60 = .ok (.goto 26, 3) := by decide +kernel
theorem dX2_begin_63 : decode cX2_begin 63 = .ok (.aload_n 2, 1) := by decide +kernel
theorem dX2_begin_64 : decode cX2_begin 64 = .ok (.invokevirtual 202, 3) := by decide +kernel
theorem dX2_begin_67 : decode cX2_begin 67 = .ok (.ifCond .eq 11, 3) := by decide +kernel
theorem dX2_begin_70 : decode cX2_begin 70 = .ok (.aload_n 1, 1) := by decide +kernel
theorem dX2_begin_71 : decode cX2_begin 71 = .ok (.iconst 0, 1) := by decide +kernel
theorem dX2_begin_72 : decode cX2_begin 72 = .ok (.invokevirtual 205, 3) := by decide +kernel
theorem dX2_begin_75 : decode cX2_begin 75 = .ok (.goto 11, 3) := by decide +kernel
theorem dX2_begin_78 : decode cX2_begin 78 = .ok (.aload_n 0, 1) := by decide +kernel
theorem dX2_begin_79 : decode cX2_begin 79 = .ok (.aload_n 1, 1) := by decide +kernel
theorem dX2_begin_80 : decode cX2_begin 80 = .ok (.bipush 6, 2) := by decide +kernel
theorem dX2_begin_82 : decode cX2_begin 82 = .ok (.invokevirtual 103, 3) := by decide +kernel
theorem dX2_begin_85 : decode cX2_begin 85 = .ok (.pop, 1) := by decide +kernel
theorem dX2_begin_86 : decode cX2_begin 86 = .ok (.return_, 1) := by decide +kernel
theorem dX2_startWork_0 : decode cX2_startWork 0 = .ok (.aload_n 1, 1) := by decide +kernel
theorem dX2_startWork_1 : decode cX2_startWork 1 = .ok (.iconst 1, 1) := by decide +kernel
theorem dX2_startWork_2 : decode cX2_startWork 2 = .ok (.invokevirtual 205, 3) := by decide +kernel
theorem dX2_startWork_5 : decode cX2_startWork 5 = .ok (.aload_n 1, 1) := by decide +kernel
theorem dX2_startWork_6 : decode cX2_startWork 6 = .ok (.aload_n 0, 1) := by decide +kernel
theorem dX2_startWork_7 : decode cX2_startWork 7 = .ok (.getfield 76, 3) := by decide +kernel
theorem dX2_startWork_10 : decode cX2_startWork 10 = .ok (.aload_n 1, 1) := by decide +kernel
theorem dX2_startWork_11 : decode cX2_startWork 11 = .ok (.getfield 134, 3) := by decide +kernel
theorem dX2_startWork_14 : decode cX2_startWork 14 = .ok (.getfield 32, 3) := by decide +kernel
theorem dX2_startWork_17 : decode cX2_startWork 17 = .ok (.iadd, 1) := by decide +kernel
theorem dX2_startWork_18 : decode cX2_startWork 18 = .ok (.putfield 208, 3) := by decide +kernel
theorem dX2_startWork_21 : decode cX2_startWork 21 = .ok (.return_, 1) := by decide +kernel
theorem dX2_finish_0 : decode cX2_finish 0 = .ok (.aload_n 0, 1) := by decide +kernel
theorem dX2_finish_1 : decode cX2_finish 1 = .ok (.aload_n 1, 1) := by decide +kernel
theorem dX2_finish_2 : decode cX2_finish 2 = .ok (.iload_n 2, 1) := by decide +kernel
theorem dX2_finish_3 : decode cX2_finish 3 = .ok (.invokevirtual 211, 3) := by decide +kernel
theorem dX2_finish_6 : decode cX2_finish 6 = .ok (.iconst 0, 1) := by decide +kernel
theorem dX2_finish_7 : decode cX2_finish 7 = .ok (.istore_n 3, 1) := by decide +kernel
theorem dX2_finish_8 : decode cX2_finish 8 = .ok (.aload_n 1, 1) := by decide +kernel
theorem dX2_finish_9 : decode cX2_finish 9 = .ok (.getfield 148, 3) := by decide +kernel
theorem dX2_finish_12 : decode cX2_finish 12 = .ok (.astore 4, 2) := by decide +kernel
theorem dX2_finish_14 : decode cX2_finish 14 = .ok (.aload 4, 2) := by decide +kernel
theorem dX2_finish_16 : decode cX2_finish 16 = .ok (.ifnull 51, 3) := by decide +kernel
theorem dX2_finish_19 : decode cX2_finish 19 = .ok (.aload 4, 2) := by decide +kernel
theorem dX2_finish_21 : decode cX2_finish 21 = .ok (.invokevirtual 94, 3) := by decide +kernel
theorem dX2_finish_24 : decode cX2_finish 24 = .ok (.ifCond .ne 33, 3) := by decide +kernel
theorem dX2_finish_27 : decode cX2_finish 27 = .ok (.aload 4, 2) := by decide +kernel
theorem dX2_finish_29 : decode cX2_finish 29 = .ok (.getfield 97, 3) := by decide +kernel
theorem dX2_finish_32 : decode cX2_finish 32 = .ok (.ifnull 25, 3) := by decide +kernel
theorem dX2_finish_35 : decode cX2_finish 35 = .ok (.aload 4, 2) := by decide +kernel
theorem dX2_finish_37 : decode cX2_finish 37 = .ok (.getfield 97, 3) := by decide +kernel
theorem dX2_finish_40 : decode cX2_finish 40 = .ok (.invokevirtual 94, 3) := by decide +kernel
theorem dX2_finish_43 : decode cX2_finish 43 = .ok (.ifCond .eq 14, 3) := by decide +kernel
theorem dX2_finish_46 : decode cX2_finish 46 = .ok (.aload_n 0, 1) := by decide +kernel
theorem dX2_finish_47 : decode cX2_finish 47 = .ok (.aload 4, 2) := by decide +kernel
theorem dX2_finish_49 : decode cX2_finish 49 = .ok (.bipush 7, 2) := by decide +kernel
theorem dX2_finish_51 : decode cX2_finish 51 = .ok (.invokevirtual 211, 3) := by decide +kernel
theorem dX2_finish_54 : decode cX2_finish 54 = .ok (.iinc 3 1, 3) := by decide +kernel
theorem dX2_finish_57 : decode cX2_finish 57 = .ok (.aload 4, 2) := by decide +kernel
theorem dX2_finish_59 : decode cX2_finish 59 = .ok (.getfield 148, 3) := by decide +kernel
theorem dX2_finish_62 : decode cX2_finish 62 = .ok (.astore 4, 2) := by decide +kernel
theorem dX2_finish_64 : decode cX2_finish 64 = .ok (.goto (-50), 3) := by decide +kernel
theorem dX2_finish_67 : decode cX2_finish 67 = .ok (.iload_n 3, 1) := by decide +kernel
theorem dX2_finish_68 : decode cX2_finish 68 = .ok (.ireturn, 1) := by decide +kernel
theorem dX2_close_0 : decode cX2_close 0 = .ok (.aload_n 1, 1) := by decide +kernel
theorem dX2_close_1 : decode cX2_close 1 = .ok (.iload_n 2, 1) := by decide +kernel
theorem dX2_close_2 : decode cX2_close 2 = .ok (.invokevirtual 205, 3) := by decide +kernel
theorem dX2_close_5 : decode cX2_close 5 = .ok (.aload_n 1, 1) := by decide +kernel
theorem dX2_close_6 : decode cX2_close 6 = .ok (.aload_n 0, 1) := by decide +kernel
theorem dX2_close_7 : decode cX2_close 7 = .ok (.getfield 76, 3) := by decide +kernel
theorem dX2_close_10 : decode cX2_close 10 = .ok (.putfield 142, 3) := by decide +kernel
theorem dX2_close_13 : decode cX2_close 13 = .ok (.iload_n 2, 1) := by decide +kernel
theorem dX2_close_14 : decode cX2_close 14 = .ok (.iconst 3, 1) := by decide +kernel
theorem dX2_close_15 : decode cX2_close 15 = .ok (.if_icmp .ne 10, 3) := by decide +kernel
theorem dX2_close_18 : decode cX2_close 18 = .ok (.aload_n 1, 1) := by decide +kernel
theorem dX2_close_19 : decode cX2_close 19 = .ok (.getfield 134, 3) := by decide +kernel
theorem dX2_close_22 : decode cX2_close 22 = .ok (.invokevirtual 215, 3) := by decide +kernel
theorem dX2_close_25 : decode cX2_close 25 = .ok (.aload_n 1, 1) := by decide +kernel
theorem dX2_close_26 : decode cX2_close 26 = .ok (.getfield 97, 3) := by decide +kernel
theorem dX2_close_29 : decode cX2_close 29 = .ok (.ifnonnull 16, 3) := by decide +kernel
theorem dX2_close_32 : decode cX2_close 32 = .ok (.aload_n 0, 1) := by decide +kernel
theorem dX2_close_33 : decode cX2_close 33 = .ok (.dup, 1) := by decide +kernel
theorem dX2_close_34 : decode cX2_close 34 = .ok (.getfield 107, 3) := by decide +kernel
theorem dX2_close_37 : decode cX2_close 37 = .ok (.iconst 1, 1) := by decide +kernel
theorem dX2_close_38 : decode cX2_close 38 = .ok (.iadd, 1) := by decide +kernel
theorem dX2_close_39 : decode cX2_close 39 = .ok (.putfield 107, 3) := by decide +kernel
theorem dX2_close_42 : decode cX2_close 42 = .ok (.goto 11, 3) := by decide +kernel
theorem dX2_close_45 : decode cX2_close 45 = .ok (.aload_n 1, 1) := by decide +kernel
theorem dX2_close_46 : decode cX2_close 46 = .ok (.getfield 97, 3) := by decide +kernel
theorem dX2_close_49 : decode cX2_close 49 = .ok (.iload_n 2, 1) := by decide +kernel
theorem dX2_close_50 : decode cX2_close 50 = .ok (.invokevirtual 218, 3) := by decide +kernel
theorem dX2_close_53 : decode cX2_close 53 = .ok (.return_, 1) := by decide +kernel
theorem dX2_cutOffHead_0 : decode cX2_cutOffHead 0 = .ok (.aload_n 0, 1) := by decide +kernel
theorem dX2_cutOffHead_1 : decode cX2_cutOffHead 1 = .ok (.getfield 155, 3) := by decide +kernel
theorem dX2_cutOffHead_4 : decode cX2_cutOffHead 4 = .ok (.astore_n 1, 1) := by decide +kernel
theorem dX2_cutOffHead_5 : decode cX2_cutOffHead 5 = .ok (.aload_n 1, 1) := by decide +kernel
theorem dX2_cutOffHead_6 : decode cX2_cutOffHead 6 = .ok (.ifnull 18, 3) := by decide +kernel
theorem dX2_cutOffHead_9 : decode cX2_cutOffHead 9 = .ok (.aload_n 1, 1) := by decide +kernel
theorem dX2_cutOffHead_10 : decode cX2_cutOffHead 10 = .ok (.invokevirtual 94, 3) := by decide +kernel
theorem dX2_cutOffHead_13 : decode cX2_cutOffHead 13 = .ok (.ifCond .eq 11, 3) := by decide +kernel
theorem dX2_cutOffHead_16 : decode cX2_cutOffHead 16 = .ok (.aload_n 1, 1) := by decide +kernel
theorem dX2_cutOffHead_17 : decode cX2_cutOffHead 17 = .ok (.getfield 148, 3) := by decide +kernel
theorem dX2_cutOffHead_20 : decode cX2_cutOffHead 20 = .ok (.astore_n 1, 1) := by decide +kernel
theorem dX2_cutOffHead_21 : decode cX2_cutOffHead 21 = .ok (.goto (-16), 3) := by decide +kernel
theorem dX2_cutOffHead_24 : decode cX2_cutOffHead 24 = .ok (.aload_n 0, 1) := by decide +kernel
theorem dX2_cutOffHead_25 : decode cX2_cutOffHead 25 = .ok (.aload_n 1, 1) := by decide +kernel
theorem dX2_cutOffHead_26 : decode cX2_cutOffHead 26 = .ok (.putfield 155, 3) := by decide +kernel
theorem dX2_cutOffHead_29 : decode cX2_cutOffHead 29 = .ok (.aload_n 1, 1) := by decide +kernel
theorem dX2_cutOffHead_30 : decode cX2_cutOffHead 30 = .ok (.ifnonnull 11, 3) := by decide +kernel
theorem dX2_cutOffHead_33 : decode cX2_cutOffHead 33 = .ok (.aload_n 0, 1) := by decide +kernel
theorem dX2_cutOffHead_34 : decode cX2_cutOffHead 34 = .ok (.aconst_null, 1) := by decide +kernel
theorem dX2_cutOffHead_35 : decode cX2_cutOffHead 35 = .ok (.putfield 187, 3) := by decide +kernel
theorem dX2_cutOffHead_38 : decode cX2_cutOffHead 38 = .ok (.goto 8, 3) := by decide +kernel
theorem dX2_cutOffHead_41 : decode cX2_cutOffHead 41 = .ok (.aload_n 1, 1) := by decide +kernel
theorem dX2_cutOffHead_42 : decode cX2_cutOffHead 42 = .ok (.aconst_null, 1) := by decide +kernel
theorem dX2_cutOffHead_43 : decode cX2_cutOffHead 43 = .ok (.putfield 190, 3) := by decide +kernel
theorem dX2_cutOffHead_46 : decode cX2_cutOffHead 46 = .ok (.return_, 1) := by decide +kernel
theorem dX2_endLate_0 : decode cX2_endLate 0 = .ok (.aload_n 0, 1) := by decide +kernel
theorem dX2_endLate_1 : decode cX2_endLate 1 = .ok (.getfield 155, 3) := by decide +kernel
theorem dX2_endLate_4 : decode cX2_endLate 4 = .ok (.astore_n 1, 1) := by decide +kernel
theorem dX2_endLate_5 : decode cX2_endLate 5 = .ok (.aload_n 1, 1) := by decide +kernel
theorem dX2_endLate_6 : decode cX2_endLate 6 = .ok (.ifnull 47, 3) := by decide +kernel
theorem dX2_endLate_9 : decode cX2_endLate 9 = .ok (.aload_n 1, 1) := by decide +kernel
theorem dX2_endLate_10 : decode cX2_endLate 10 = .ok (.invokevirtual 94, 3) := by decide +kernel
theorem dX2_endLate_13 : decode cX2_endLate 13 = .ok (.ifCond .ne 32, 3) := by decide +kernel
theorem dX2_endLate_16 : decode cX2_endLate 16 = .ok (.aload_n 1, 1) := by decide +kernel
theorem dX2_endLate_17 : decode cX2_endLate 17 = .ok (.getfield 139, 3) := by decide +kernel
theorem dX2_endLate_20 : decode cX2_endLate 20 = .ok (.aload_n 0, 1) := by decide +kernel
theorem dX2_endLate_21 : decode cX2_endLate 21 = .ok (.getfield 76, 3) := by decide +kernel
theorem dX2_endLate_24 : decode cX2_endLate 24 = .ok (.if_icmp .gt 21, 3) := by decide +kernel
theorem dX2_endLate_27 : decode cX2_endLate 27 = .ok (.aload_n 0, 1) := by decide +kernel
theorem dX2_endLate_28 : decode cX2_endLate 28 = .ok (.aload_n 1, 1) := by decide +kernel
theorem dX2_endLate_29 : decode cX2_endLate 29 = .ok (.iconst 5, 1) := by decide +kernel
theorem dX2_endLate_30 : decode cX2_endLate 30 = .ok (.invokevirtual 103, 3) := by decide +kernel
theorem dX2_endLate_33 : decode cX2_endLate 33 = .ok (.pop, 1) := by decide +kernel
theorem dX2_endLate_34 : decode cX2_endLate 34 = .ok (.aload_n 1, 1) := by decide +kernel
theorem dX2_endLate_35 : decode cX2_endLate 35 = .ok (.getfield 134, 3) := by decide +kernel
theorem dX2_endLate_38 : decode cX2_endLate 38 = .ok (.aload_n 0, 1) := by decide +kernel
theorem dX2_endLate_39 : decode cX2_endLate 39 = .ok (.getfield 76, 3) := by decide +kernel
theorem dX2_endLate_42 : decode cX2_endLate 42 = .ok (.invokevirtual 221, 3) := by decide +kernel
theorem dX2_endLate_45 : decode cX2_endLate 45 = .ok (.aload_n 1, 1) := by decide +kernel
theorem dX2_endLate_46 : decode cX2_endLate 46 = .ok (.getfield 148, 3) := by decide +kernel
theorem dX2_endLate_49 : decode cX2_endLate 49 = .ok (.astore_n 1, 1) := by decide +kernel
theorem dX2_endLate_50 : decode cX2_endLate 50 = .ok (.goto (-45), 3) := by decide +kernel
theorem dX2_endLate_53 : decode cX2_endLate 53 = .ok (.return_, 1) := by decide +kernel
theorem dX2_endWork_0 : decode cX2_endWork 0 = .ok (.aload_n 0, 1) := by decide +kernel
theorem dX2_endWork_1 : decode cX2_endWork 1 = .ok (.getfield 155, 3) := by decide +kernel
theorem dX2_endWork_4 : decode cX2_endWork 4 = .ok (.astore_n 1, 1) := by decide +kernel
theorem dX2_endWork_5 : decode cX2_endWork 5 = .ok (.aload_n 1, 1) := by decide +kernel
theorem dX2_endWork_6 : decode cX2_endWork 6 = .ok (.ifnull 78, 3) := by decide +kernel
theorem dX2_endWork_9 : decode cX2_endWork 9 = .ok (.aload_n 1, 1) := by decide +kernel
theorem dX2_endWork_10 : decode cX2_endWork 10 = .ok (.getfield 131, 3) := by decide +kernel
theorem dX2_endWork_13 : decode cX2_endWork 13 = .ok (.iconst 1, 1) := by decide +kernel
theorem dX2_endWork_14 : decode cX2_endWork 14 = .ok (.if_icmp .ne 62, 3) := by decide +kernel
theorem dX2_endWork_17 : decode cX2_endWork 17 = .ok (.aload_n 1, 1) := by decide +kernel
theorem dX2_endWork_18 : decode cX2_endWork 18 = .ok (.getfield 208, 3) := by decide +kernel
theorem dX2_endWork_21 : decode cX2_endWork 21 = .ok (.aload_n 0, 1) := by decide +kernel
theorem dX2_endWork_22 : decode cX2_endWork 22 = .ok (.getfield 76, 3) := by decide +kernel
theorem dX2_endWork_25 : decode cX2_endWork 25 = .ok (.if_icmp .gt 51, 3) := by decide +kernel
theorem dX2_endWork_28 : decode cX2_endWork 28 = .ok (.aload_n 1, 1) := by decide +kernel
theorem dX2_endWork_29 : decode cX2_endWork 29 = .ok (.getfield 134, 3) := by decide +kernel
theorem dX2_endWork_32 : decode cX2_endWork 32 = .ok (.invokevirtual 224, 3) := by decide +kernel
theorem dX2_endWork_35 : decode cX2_endWork 35 = .ok (.ifCond .eq 24, 3) := by decide +kernel
theorem dX2_endWork_38 : decode cX2_endWork 38 = .ok (.aload_n 0, 1) := by decide +kernel
theorem dX2_endWork_39 : decode cX2_endWork 39 = .ok (.aload_n 1, 1) := by decide +kernel
theorem dX2_endWork_40 : decode cX2_endWork 40 = .ok (.iconst 4, 1) := by decide +kernel
theorem dX2_endWork_41 : decode cX2_endWork 41 = .ok (.invokevirtual 103, 3) := by decide +kernel
theorem dX2_endWork_44 : decode cX2_endWork 44 = .ok (.pop, 1) := by decide +kernel
theorem dX2_endWork_45 : decode cX2_endWork 45 = .ok (.aload_n 1, 1) := by decide +kernel
theorem dX2_endWork_46 : decode cX2_endWork 46 = .ok (.getfield 134, 3) := by decide +kernel
theorem dX2_endWork_49 : decode cX2_endWork 49 = .ok (.aload_n 0, 1) := by decide +kernel
theorem dX2_endWork_50 : decode cX2_endWork 50 = .ok (.getfield 76, 3) := by decide +kernel
theorem dX2_endWork_53 : decode cX2_endWork 53 = .ok (.invokevirtual 221, 3) := by decide +kernel
theorem dX2_endWork_56 : decode cX2_endWork 56 = .ok (.goto 20, 3) := by decide +kernel
theorem dX2_endWork_59 : decode cX2_endWork 59 = .ok (.aload_n 1, 1) := by decide +kernel
theorem dX2_endWork_60 : decode cX2_endWork 60 = .ok (.aload_n 1, 1) := by decide +kernel
theorem dX2_endWork_61 : decode cX2_endWork 61 = .ok (.getfield 134, 3) := by decide +kernel
theorem dX2_endWork_64 : decode cX2_endWork 64 = .ok (.getfield 58, 3) := by decide +kernel
theorem dX2_endWork_67 : decode cX2_endWork 67 = .ok (.putfield 227, 3) := by decide +kernel
theorem dX2_endWork_70 : decode cX2_endWork 70 = .ok (.aload_n 0, 1) := by decide +kernel
theorem dX2_endWork_71 : decode cX2_endWork 71 = .ok (.aload_n 1, 1) := by decide +kernel
theorem dX2_endWork_72 : decode cX2_endWork 72 = .ok (.iconst 0, 1) := by decide +kernel
theorem dX2_endWork_73 : decode cX2_endWork 73 = .ok (.invokevirtual 228, 3) := by decide +kernel
theorem dX2_endWork_76 : decode cX2_endWork 76 = .ok (.aload_n 1, 1) := by decide +kernel
theorem dX2_endWork_77 : decode cX2_endWork 77 = .ok (.getfield 148, 3) := by decide +kernel
theorem dX2_endWork_80 : decode cX2_endWork 80 = .ok (.astore_n 1, 1) := by decide +kernel
theorem dX2_endWork_81 : decode cX2_endWork 81 = .ok (.goto (-76), 3) := by decide +kernel
theorem dX2_endWork_84 : decode cX2_endWork 84 = .ok (.return_, 1) := by decide +kernel
theorem dX2_askAt_0 : decode cX2_askAt 0 = .ok (.aload_n 1, 1) := by decide +kernel
theorem dX2_askAt_1 : decode cX2_askAt 1 = .ok (.iload_n 2, 1) := by decide +kernel
theorem dX2_askAt_2 : decode cX2_askAt 2 = .ok (.invokevirtual 231, 3) := by decide +kernel
theorem dX2_askAt_5 : decode cX2_askAt 5 = .ok (.astore_n 3, 1) := by decide +kernel
theorem dX2_askAt_6 : decode cX2_askAt 6 = .ok (.aload_n 3, 1) := by decide +kernel
theorem dX2_askAt_7 : decode cX2_askAt 7 = .ok (.ifnonnull 13, 3) := by decide +kernel
theorem dX2_askAt_10 : decode cX2_askAt 10 = .ok (.aload_n 0, 1) := by decide +kernel
theorem dX2_askAt_11 : decode cX2_askAt 11 = .ok (.aload_n 1, 1) := by decide +kernel
theorem dX2_askAt_12 : decode cX2_askAt 12 = .ok (.iconst 3, 1) := by decide +kernel
theorem dX2_askAt_13 : decode cX2_askAt 13 = .ok (.invokevirtual 103, 3) := by decide +kernel
theorem dX2_askAt_16 : decode cX2_askAt 16 = .ok (.pop, 1) := by decide +kernel
theorem dX2_askAt_17 : decode cX2_askAt 17 = .ok (.goto 9, 3) := by decide +kernel
theorem dX2_askAt_20 : decode cX2_askAt 20 = .ok (.aload_n 1, 1) := by decide +kernel
theorem dX2_askAt_21 : decode cX2_askAt 21 = .ok (.aload_n 3, 1) := by decide +kernel
theorem dX2_askAt_22 : decode cX2_askAt 22 = .ok (.iload_n 2, 1) := by decide +kernel
theorem dX2_askAt_23 : decode cX2_askAt 23 = .ok (.invokevirtual 234, 3) := by decide +kernel
theorem dX2_askAt_26 : decode cX2_askAt 26 = .ok (.return_, 1) := by decide +kernel
theorem dX2_judgeAsking_0 : decode cX2_judgeAsking 0 = .ok (.aload_n 0, 1) := by decide +kernel
theorem dX2_judgeAsking_1 : decode cX2_judgeAsking 1 = .ok (.getfield 187, 3) := by decide +kernel
theorem dX2_judgeAsking_4 : decode cX2_judgeAsking 4 = .ok (.astore_n 1, 1) := by decide +kernel
theorem dX2_judgeAsking_5 : decode cX2_judgeAsking 5 = .ok (.aload_n 1, 1) := by decide +kernel
theorem dX2_judgeAsking_6 : decode cX2_judgeAsking 6 = .ok (.ifnull 41, 3) := by decide +kernel
theorem dX2_judgeAsking_9 : decode cX2_judgeAsking 9 = .ok (.aload_n 1, 1) := by decide +kernel
theorem dX2_judgeAsking_10 : decode cX2_judgeAsking 10 = .ok (.getfield 238, 3) := by decide +kernel
theorem dX2_judgeAsking_13 : decode cX2_judgeAsking 13 = .ok (.astore_n 2, 1) := by decide +kernel
theorem dX2_judgeAsking_14 : decode cX2_judgeAsking 14 = .ok (.aload_n 1, 1) := by decide +kernel
theorem dX2_judgeAsking_15 : decode cX2_judgeAsking 15 = .ok (.getfield 131, 3) := by decide +kernel
theorem dX2_judgeAsking_18 : decode cX2_judgeAsking 18 = .ok (.iconst 2, 1) := by decide +kernel
theorem dX2_judgeAsking_19 : decode cX2_judgeAsking 19 = .ok (.if_icmp .ne 20, 3) := by decide +kernel
theorem dX2_judgeAsking_22 : decode cX2_judgeAsking 22 = .ok (.aload_n 1, 1) := by decide +kernel
theorem dX2_judgeAsking_23 : decode cX2_judgeAsking 23 = .ok (.getfield 241, 3) := by decide +kernel
theorem dX2_judgeAsking_26 : decode cX2_judgeAsking 26 = .ok (.ifCond .ne 13, 3) := by decide +kernel
theorem dX2_judgeAsking_29 : decode cX2_judgeAsking 29 = .ok (.aload_n 2, 1) := by decide +kernel
theorem dX2_judgeAsking_30 : decode cX2_judgeAsking 30 = .ok (.ifnull 9, 3) := by decide +kernel
theorem dX2_judgeAsking_33 : decode cX2_judgeAsking 33 = .ok (.aload_n 0, 1) := by decide +kernel
theorem dX2_judgeAsking_34 : decode cX2_judgeAsking 34 = .ok (.aload_n 1, 1) := by decide +kernel
theorem dX2_judgeAsking_35 : decode cX2_judgeAsking 35 = .ok (.aload_n 2, 1) := by decide +kernel
theorem dX2_judgeAsking_36 : decode cX2_judgeAsking 36 = .ok (.invokevirtual 245, 3) := by decide +kernel
theorem dX2_judgeAsking_39 : decode cX2_judgeAsking 39 = .ok (.aload_n 1, 1) := by decide +kernel
theorem dX2_judgeAsking_40 : decode cX2_judgeAsking 40 = .ok (.getfield 190, 3) := by decide +kernel
theorem dX2_judgeAsking_43 : decode cX2_judgeAsking 43 = .ok (.astore_n 1, 1) := by decide +kernel
theorem dX2_judgeAsking_44 : decode cX2_judgeAsking 44 = .ok (.goto (-39), 3) := by decide +kernel
theorem dX2_judgeAsking_47 : decode cX2_judgeAsking 47 = .ok (.return_, 1) := by decide +kernel
theorem dX2_judge_0 : decode cX2_judge 0 = .ok (.aload_n 1, 1) := by decide +kernel
theorem dX2_judge_1 : decode cX2_judge 1 = .ok (.getfield 249, 3) := by decide +kernel
theorem dX2_judge_4 : decode cX2_judge 4 = .ok (.ifCond .eq 22, 3) := by decide +kernel
theorem dX2_judge_7 : decode cX2_judge 7 = .ok (.aload_n 0, 1) := by decide +kernel
theorem dX2_judge_8 : decode cX2_judge 8 = .ok (.aload_n 1, 1) := by decide +kernel
theorem dX2_judge_9 : decode cX2_judge 9 = .ok (.invokevirtual 252, 3) := by decide +kernel
theorem dX2_judge_12 : decode cX2_judge 12 = .ok (.aload_n 0, 1) := by decide +kernel
theorem dX2_judge_13 : decode cX2_judge 13 = .ok (.aload_n 1, 1) := by decide +kernel
theorem dX2_judge_14 : decode cX2_judge 14 = .ok (.aload_n 1, 1) := by decide +kernel
theorem dX2_judge_15 : decode cX2_judge 15 = .ok (.getfield 145, 3) := by decide +kernel
theorem dX2_judge_18 : decode cX2_judge 18 = .ok (.iconst 1, 1) := by decide +kernel
theorem dX2_judge_19 : decode cX2_judge 19 = .ok (.iadd, 1) := by decide +kernel
theorem dX2_judge_20 : decode cX2_judge 20 = .ok (.invokevirtual 228, 3) := by decide +kernel
theorem dX2_judge_23 : decode cX2_judge 23 = .ok (.goto 48, 3) := by decide +kernel
theorem dX2_judge_26 : decode cX2_judge 26 = .ok (.aload_n 1, 1) := by decide +kernel
theorem dX2_judge_27 : decode cX2_judge 27 = .ok (.getfield 255, 3) := by decide +kernel
theorem dX2_judge_30 : decode cX2_judge 30 = .ok (.ifCond .ne 12, 3) := by decide +kernel
theorem dX2_judge_33 : decode cX2_judge 33 = .ok (.aload_n 0, 1) := by decide +kernel
theorem dX2_judge_34 : decode cX2_judge 34 = .ok (.aload_n 1, 1) := by decide +kernel
theorem dX2_judge_35 : decode cX2_judge 35 = .ok (.aload_n 2, 1) := by decide +kernel
theorem dX2_judge_36 : decode cX2_judge 36 = .ok (.invokevirtual 258, 3) := by decide +kernel
theorem dX2_judge_39 : decode cX2_judge 39 = .ok (.goto 32, 3) := by decide +kernel
theorem dX2_judge_42 : decode cX2_judge 42 = .ok (.aload_n 1, 1) := by decide +kernel
theorem dX2_judge_43 : decode cX2_judge 43 = .ok (.getfield 261, 3) := by decide +kernel
theorem dX2_judge_46 : decode cX2_judge 46 = .ok (.iconst 1, 1) := by decide +kernel
theorem dX2_judge_47 : decode cX2_judge 47 = .ok (.if_icmp .ne 24, 3) := by decide +kernel
theorem dX2_judge_50 : decode cX2_judge 50 = .ok (.aload_n 2, 1) := by decide +kernel
theorem dX2_judge_51 : decode cX2_judge 51 = .ok (.aload_n 0, 1) := by decide +kernel
theorem dX2_judge_52 : decode cX2_judge 52 = .ok (.getfield 76, 3) := by decide +kernel
theorem dX2_judge_55 : decode cX2_judge 55 = .ok (.aload_n 1, 1) := by decide +kernel
theorem dX2_judge_56 : decode cX2_judge 56 = .ok (.getfield 264, 3) := by decide +kernel
theorem dX2_judge_59 : decode cX2_judge 59 = .ok (.isub, 1) := by decide +kernel
theorem dX2_judge_60 : decode cX2_judge 60 = .ok (.invokevirtual 267, 3) := by decide +kernel
theorem dX2_judge_63 : decode cX2_judge 63 = .ok (.ifCond .eq 8, 3) := by decide +kernel
theorem dX2_judge_66 : decode cX2_judge 66 = .ok (.aload_n 1, 1) := by decide +kernel
theorem dX2_judge_67 : decode cX2_judge 67 = .ok (.iconst 1, 1) := by decide +kernel
theorem dX2_judge_68 : decode cX2_judge 68 = .ok (.putfield 241, 3) := by decide +kernel
theorem dX2_judge_71 : decode cX2_judge 71 = .ok (.return_, 1) := by decide +kernel
theorem dX2_cancelTries_0 : decode cX2_cancelTries 0 = .ok (.aload_n 1, 1) := by decide +kernel
theorem dX2_cancelTries_1 : decode cX2_cancelTries 1 = .ok (.getfield 148, 3) := by decide +kernel
theorem dX2_cancelTries_4 : decode cX2_cancelTries 4 = .ok (.astore_n 2, 1) := by decide +kernel
theorem dX2_cancelTries_5 : decode cX2_cancelTries 5 = .ok (.aload_n 2, 1) := by decide +kernel
theorem dX2_cancelTries_6 : decode cX2_cancelTries 6 = .ok (.ifnull 34, 3) := by decide +kernel
theorem dX2_cancelTries_9 : decode cX2_cancelTries 9 = .ok (.aload_n 2, 1) := by decide +kernel
theorem dX2_cancelTries_10 : decode cX2_cancelTries 10 = .ok (.getfield 97, 3) := by decide +kernel
theorem dX2_cancelTries_13 : decode cX2_cancelTries 13 = .ok (.aload_n 1, 1) := by decide +kernel
theorem dX2_cancelTries_14 : decode cX2_cancelTries 14 = .ok (.if_acmp .ne 18, 3) := by decide +kernel
theorem dX2_cancelTries_17 : decode cX2_cancelTries 17 = .ok (.aload_n 2, 1) := by decide +kernel
theorem dX2_cancelTries_18 : decode cX2_cancelTries 18 = .ok (.invokevirtual 94, 3) := by decide +kernel
theorem dX2_cancelTries_21 : decode cX2_cancelTries 21 = .ok (.ifCond .ne 11, 3) := by decide +kernel
theorem dX2_cancelTries_24 : decode cX2_cancelTries 24 = .ok (.aload_n 0, 1) := by decide +kernel
theorem dX2_cancelTries_25 : decode cX2_cancelTries 25 = .ok (.aload_n 2, 1) := by decide +kernel
theorem dX2_cancelTries_26 : decode cX2_cancelTries 26 = .ok (.bipush 7, 2) := by decide +kernel
theorem dX2_cancelTries_28 : decode cX2_cancelTries 28 = .ok (.invokevirtual 103, 3) := by decide +kernel
theorem dX2_cancelTries_31 : decode cX2_cancelTries 31 = .ok (.pop, 1) := by decide +kernel
theorem dX2_cancelTries_32 : decode cX2_cancelTries 32 = .ok (.aload_n 2, 1) := by decide +kernel
theorem dX2_cancelTries_33 : decode cX2_cancelTries 33 = .ok (.getfield 148, 3) := by decide +kernel
theorem dX2_cancelTries_36 : decode cX2_cancelTries 36 = .ok (.astore_n 2, 1) := by decide +kernel
theorem dX2_cancelTries_37 : decode cX2_cancelTries 37 = .ok (.goto (-32), 3) := by decide +kernel
theorem dX2_cancelTries_40 : decode cX2_cancelTries 40 = .ok (.return_, 1) := by decide +kernel
theorem dX2_tryAgain_0 : decode cX2_tryAgain 0 = .ok (.aload_n 1, 1) := by decide +kernel
theorem dX2_tryAgain_1 : decode cX2_tryAgain 1 = .ok (.getfield 270, 3) := by decide +kernel
theorem dX2_tryAgain_4 : decode cX2_tryAgain 4 = .ok (.iconst 2, 1) := by decide +kernel
theorem dX2_tryAgain_5 : decode cX2_tryAgain 5 = .ok (.if_icmp .ge 28, 3) := by decide +kernel
theorem dX2_tryAgain_8 : decode cX2_tryAgain 8 = .ok (.aload_n 2, 1) := by decide +kernel
theorem dX2_tryAgain_9 : decode cX2_tryAgain 9 = .ok (.invokevirtual 273, 3) := by decide +kernel
theorem dX2_tryAgain_12 : decode cX2_tryAgain 12 = .ok (.ifCond .eq 21, 3) := by decide +kernel
theorem dX2_tryAgain_15 : decode cX2_tryAgain 15 = .ok (.aload_n 1, 1) := by decide +kernel
theorem dX2_tryAgain_16 : decode cX2_tryAgain 16 = .ok (.dup, 1) := by decide +kernel
theorem dX2_tryAgain_17 : decode cX2_tryAgain 17 = .ok (.getfield 270, 3) := by decide +kernel
theorem dX2_tryAgain_20 : decode cX2_tryAgain 20 = .ok (.iconst 1, 1) := by decide +kernel
theorem dX2_tryAgain_21 : decode cX2_tryAgain 21 = .ok (.iadd, 1) := by decide +kernel
theorem dX2_tryAgain_22 : decode cX2_tryAgain 22 = .ok (.putfield 270, 3) := by decide +kernel
theorem dX2_tryAgain_25 : decode cX2_tryAgain 25 = .ok (.aload_n 1, 1) := by decide +kernel
theorem dX2_tryAgain_26 : decode cX2_tryAgain 26 = .ok (.iconst 1, 1) := by decide +kernel
theorem dX2_tryAgain_27 : decode cX2_tryAgain 27 = .ok (.putfield 241, 3) := by decide +kernel
theorem dX2_tryAgain_30 : decode cX2_tryAgain 30 = .ok (.goto 10, 3) := by decide +kernel
theorem dX2_tryAgain_33 : decode cX2_tryAgain 33 = .ok (.aload_n 0, 1) := by decide +kernel
theorem dX2_tryAgain_34 : decode cX2_tryAgain 34 = .ok (.aload_n 1, 1) := by decide +kernel
theorem dX2_tryAgain_35 : decode cX2_tryAgain 35 = .ok (.iconst 4, 1) := by decide +kernel
theorem dX2_tryAgain_36 : decode cX2_tryAgain 36 = .ok (.invokevirtual 103, 3) := by decide +kernel
theorem dX2_tryAgain_39 : decode cX2_tryAgain 39 = .ok (.pop, 1) := by decide +kernel
theorem dX2_tryAgain_40 : decode cX2_tryAgain 40 = .ok (.return_, 1) := by decide +kernel
theorem dX2_makeTries_0 : decode cX2_makeTries 0 = .ok (.aload_n 0, 1) := by decide +kernel
theorem dX2_makeTries_1 : decode cX2_makeTries 1 = .ok (.getfield 155, 3) := by decide +kernel
theorem dX2_makeTries_4 : decode cX2_makeTries 4 = .ok (.astore_n 1, 1) := by decide +kernel
theorem dX2_makeTries_5 : decode cX2_makeTries 5 = .ok (.aload_n 1, 1) := by decide +kernel
theorem dX2_makeTries_6 : decode cX2_makeTries 6 = .ok (.ifnull 41, 3) := by decide +kernel
theorem dX2_makeTries_9 : decode cX2_makeTries 9 = .ok (.aload_n 1, 1) := by decide +kernel
theorem dX2_makeTries_10 : decode cX2_makeTries 10 = .ok (.getfield 238, 3) := by decide +kernel
theorem dX2_makeTries_13 : decode cX2_makeTries 13 = .ok (.astore_n 2, 1) := by decide +kernel
theorem dX2_makeTries_14 : decode cX2_makeTries 14 = .ok (.aload_n 1, 1) := by decide +kernel
theorem dX2_makeTries_15 : decode cX2_makeTries 15 = .ok (.getfield 131, 3) := by decide +kernel
theorem dX2_makeTries_18 : decode cX2_makeTries 18 = .ok (.iconst 2, 1) := by decide +kernel
theorem dX2_makeTries_19 : decode cX2_makeTries 19 = .ok (.if_icmp .ne 20, 3) := by decide +kernel
theorem dX2_makeTries_22 : decode cX2_makeTries 22 = .ok (.aload_n 1, 1) := by decide +kernel
theorem dX2_makeTries_23 : decode cX2_makeTries 23 = .ok (.getfield 241, 3) := by decide +kernel
theorem dX2_makeTries_26 : decode cX2_makeTries 26 = .ok (.ifCond .eq 13, 3) := by decide +kernel
theorem dX2_makeTries_29 : decode cX2_makeTries 29 = .ok (.aload_n 2, 1) := by decide +kernel
theorem dX2_makeTries_30 : decode cX2_makeTries 30 = .ok (.ifnull 9, 3) := by decide +kernel
theorem dX2_makeTries_33 : decode cX2_makeTries 33 = .ok (.aload_n 0, 1) := by decide +kernel
theorem dX2_makeTries_34 : decode cX2_makeTries 34 = .ok (.aload_n 1, 1) := by decide +kernel
theorem dX2_makeTries_35 : decode cX2_makeTries 35 = .ok (.aload_n 2, 1) := by decide +kernel
theorem dX2_makeTries_36 : decode cX2_makeTries 36 = .ok (.invokevirtual 276, 3) := by decide +kernel
theorem dX2_makeTries_39 : decode cX2_makeTries 39 = .ok (.aload_n 1, 1) := by decide +kernel
theorem dX2_makeTries_40 : decode cX2_makeTries 40 = .ok (.getfield 148, 3) := by decide +kernel
theorem dX2_makeTries_43 : decode cX2_makeTries 43 = .ok (.astore_n 1, 1) := by decide +kernel
theorem dX2_makeTries_44 : decode cX2_makeTries 44 = .ok (.goto (-39), 3) := by decide +kernel
theorem dX2_makeTries_47 : decode cX2_makeTries 47 = .ok (.return_, 1) := by decide +kernel
theorem dX2_makeTry_0 : decode cX2_makeTry 0 = .ok (.aload_n 1, 1) := by decide +kernel
theorem dX2_makeTry_1 : decode cX2_makeTry 1 = .ok (.iconst 0, 1) := by decide +kernel
theorem dX2_makeTry_2 : decode cX2_makeTry 2 = .ok (.putfield 241, 3) := by decide +kernel
theorem dX2_makeTry_5 : decode cX2_makeTry 5 = .ok (.aload_n 0, 1) := by decide +kernel
theorem dX2_makeTry_6 : decode cX2_makeTry 6 = .ok (.invokevirtual 70, 3) := by decide +kernel
theorem dX2_makeTry_9 : decode cX2_makeTry 9 = .ok (.ifCond .eq 11, 3) := by decide +kernel
theorem dX2_makeTry_12 : decode cX2_makeTry 12 = .ok (.aload_n 0, 1) := by decide +kernel
theorem dX2_makeTry_13 : decode cX2_makeTry 13 = .ok (.aload_n 1, 1) := by decide +kernel
theorem dX2_makeTry_14 : decode cX2_makeTry 14 = .ok (.iconst 4, 1) := by decide +kernel
theorem dX2_makeTry_15 : decode cX2_makeTry 15 = .ok (.invokevirtual 103, 3) := by decide +kernel
theorem dX2_makeTry_18 : decode cX2_makeTry 18 = .ok (.pop, 1) := by decide +kernel
theorem dX2_makeTry_19 : decode cX2_makeTry 19 = .ok (.return_, 1) := by decide +kernel
theorem dX2_makeTry_20 : decode cX2_makeTry 20 = .ok (.aload_n 1, 1) := by decide +kernel
theorem dX2_makeTry_21 : decode cX2_makeTry 21 = .ok (.aload_n 0, 1) := by decide +kernel
theorem dX2_makeTry_22 : decode cX2_makeTry 22 = .ok (.getfield 76, 3) := by decide +kernel
theorem dX2_makeTry_25 : decode cX2_makeTry 25 = .ok (.invokevirtual 279, 3) := by decide +kernel
theorem dX2_makeTry_28 : decode cX2_makeTry 28 = .ok (.aload_n 0, 1) := by decide +kernel
theorem dX2_makeTry_29 : decode cX2_makeTry 29 = .ok (.aload_n 0, 1) := by decide +kernel
theorem dX2_makeTry_30 : decode cX2_makeTry 30 = .ok (.aload_n 2, 1) := by decide +kernel
theorem dX2_makeTry_31 : decode cX2_makeTry 31 = .ok (.aload_n 1, 1) := by decide +kernel
theorem dX2_makeTry_32 : decode cX2_makeTry 32 = .ok (.aload_n 1, 1) := by decide +kernel
theorem dX2_makeTry_33 : decode cX2_makeTry 33 = .ok (.getfield 139, 3) := by decide +kernel
theorem dX2_makeTry_36 : decode cX2_makeTry 36 = .ok (.iconst 1, 1) := by decide +kernel
theorem dX2_makeTry_37 : decode cX2_makeTry 37 = .ok (.isub, 1) := by decide +kernel
theorem dX2_makeTry_38 : decode cX2_makeTry 38 = .ok (.invokevirtual 79, 3) := by decide +kernel
theorem dX2_makeTry_41 : decode cX2_makeTry 41 = .ok (.invokevirtual 83, 3) := by decide +kernel
theorem dX2_makeTry_44 : decode cX2_makeTry 44 = .ok (.return_, 1) := by decide +kernel
theorem dX2_startQueued_0 : decode cX2_startQueued 0 = .ok (.iconst 0, 1) := by decide +kernel
theorem dX2_startQueued_1 : decode cX2_startQueued 1 = .ok (.istore_n 1, 1) := by decide +kernel
theorem dX2_startQueued_2 : decode cX2_startQueued 2 = .ok (.iload_n 1, 1) := by decide +kernel
theorem dX2_startQueued_3 : decode cX2_startQueued 3 = .ok (.aload_n 0, 1) := by decide +kernel
theorem dX2_startQueued_4 : decode cX2_startQueued 4 = .ok (.getfield 11, 3) := by decide +kernel
theorem dX2_startQueued_7 : decode cX2_startQueued 7 = .ok (.arraylength, 1) := by decide +kernel
theorem dX2_startQueued_8 : decode cX2_startQueued 8 = .ok (.if_icmp .ge 33, 3) := by decide +kernel
theorem dX2_startQueued_11 : decode cX2_startQueued 11 = .ok (.aload_n 0, 1) := by decide +kernel
theorem dX2_startQueued_12 : decode cX2_startQueued 12 = .ok (.getfield 11, 3) := by decide +kernel
theorem dX2_startQueued_15 : decode cX2_startQueued 15 = .ok (.iload_n 1, 1) := by decide +kernel
theorem dX2_startQueued_16 : decode cX2_startQueued 16 = .ok (.aaload, 1) := by decide +kernel
theorem dX2_startQueued_17 : decode cX2_startQueued 17 = .ok (.astore_n 2, 1) := by decide +kernel
theorem dX2_startQueued_18 : decode cX2_startQueued 18 = .ok (.aload_n 2, 1) := by decide +kernel
theorem dX2_startQueued_19 : decode cX2_startQueued 19 = .ok (.ifnull 16, 3) := by decide +kernel
theorem dX2_startQueued_22 : decode cX2_startQueued 22 = .ok (.aload_n 2, 1) := by decide +kernel
theorem dX2_startQueued_23 : decode cX2_startQueued 23 = .ok (.iconst 0, 1) := by decide +kernel
theorem dX2_startQueued_24 : decode cX2_startQueued 24 = .ok (.invokevirtual 167, 3) := by decide +kernel
theorem dX2_startQueued_27 : decode cX2_startQueued 27 = .ok (.ifCond .le 8, 3) := by decide +kernel
theorem dX2_startQueued_30 : decode cX2_startQueued 30 = .ok (.aload_n 0, 1) := by decide +kernel
theorem dX2_startQueued_31 : decode cX2_startQueued 31 = .ok (.aload_n 2, 1) := by decide +kernel
theorem dX2_startQueued_32 : decode cX2_startQueued 32 = .ok (.invokevirtual 282, 3) := by decide +kernel
theorem dX2_startQueued_35 : decode cX2_startQueued 35 = .ok (.iinc 1 1, 3) := by decide +kernel
theorem dX2_startQueued_38 : decode cX2_startQueued 38 = .ok (.goto (-36), 3) := by decide +kernel
theorem dX2_startQueued_41 : decode cX2_startQueued 41 = .ok (.return_, 1) := by decide +kernel
theorem dX2_startQueuedOf_0 : decode cX2_startQueuedOf 0 = .ok (.aload_n 0, 1) := by decide +kernel
theorem dX2_startQueuedOf_1 : decode cX2_startQueuedOf 1 = .ok (.getfield 155, 3) := by decide +kernel
theorem dX2_startQueuedOf_4 : decode cX2_startQueuedOf 4 = .ok (.astore_n 2, 1) := by decide +kernel
theorem dX2_startQueuedOf_5 : decode cX2_startQueuedOf 5 = .ok (.aload_n 2, 1) := by decide +kernel
theorem dX2_startQueuedOf_6 : decode cX2_startQueuedOf 6 = .ok (.ifnull 54, 3) := by decide +kernel
theorem dX2_startQueuedOf_9 : decode cX2_startQueuedOf 9 = .ok (.aload_n 1, 1) := by decide +kernel
theorem dX2_startQueuedOf_10 : decode cX2_startQueuedOf 10 = .ok (.invokevirtual 196, 3) := by decide +kernel
theorem dX2_startQueuedOf_13 : decode cX2_startQueuedOf 13 = .ok (.ifCond .eq 47, 3) := by decide +kernel
theorem dX2_startQueuedOf_16 : decode cX2_startQueuedOf 16 = .ok (.aload_n 2, 1) := by decide +kernel
theorem dX2_startQueuedOf_17 : decode cX2_startQueuedOf 17 = .ok (.aload_n 1, 1) := by decide +kernel
theorem dX2_startQueuedOf_18 : decode cX2_startQueuedOf 18 = .ok (.iconst 0, 1) := by decide +kernel
theorem dX2_startQueuedOf_19 : decode cX2_startQueuedOf 19 = .ok (.invokevirtual 158, 3) := by decide +kernel
theorem dX2_startQueuedOf_22 : decode cX2_startQueuedOf 22 = .ok (.ifCond .eq 30, 3) := by decide +kernel
theorem dX2_startQueuedOf_25 : decode cX2_startQueuedOf 25 = .ok (.aload_n 2, 1) := by decide +kernel
theorem dX2_startQueuedOf_26 : decode cX2_startQueuedOf 26 = .ok (.aload_n 0, 1) := by decide +kernel
theorem dX2_startQueuedOf_27 : decode cX2_startQueuedOf 27 = .ok (.getfield 76, 3) := by decide +kernel
theorem dX2_startQueuedOf_30 : decode cX2_startQueuedOf 30 = .ok (.invokevirtual 193, 3) := by decide +kernel
theorem dX2_startQueuedOf_33 : decode cX2_startQueuedOf 33 = .ok (.ifCond .eq 11, 3) := by decide +kernel
theorem dX2_startQueuedOf_36 : decode cX2_startQueuedOf 36 = .ok (.aload_n 0, 1) := by decide +kernel
theorem dX2_startQueuedOf_37 : decode cX2_startQueuedOf 37 = .ok (.aload_n 2, 1) := by decide +kernel
theorem dX2_startQueuedOf_38 : decode cX2_startQueuedOf 38 = .ok (.invokevirtual 199, 3) := by decide +kernel
theorem dX2_startQueuedOf_41 : decode cX2_startQueuedOf 41 = .ok (.goto 11, 3) := by decide +kernel
theorem dX2_startQueuedOf_44 : decode cX2_startQueuedOf 44 = .ok (.aload_n 0, 1) := by decide +kernel
theorem dX2_startQueuedOf_45 : decode cX2_startQueuedOf 45 = .ok (.aload_n 2, 1) := by decide +kernel
theorem dX2_startQueuedOf_46 : decode cX2_startQueuedOf 46 = .ok (.bipush 6, 2) := by decide +kernel
theorem dX2_startQueuedOf_48 : decode cX2_startQueuedOf 48 = .ok (.invokevirtual 103, 3) := by decide +kernel
theorem dX2_startQueuedOf_51 : decode cX2_startQueuedOf 51 = .ok (.pop, 1) := by decide +kernel
theorem dX2_startQueuedOf_52 : decode cX2_startQueuedOf 52 = .ok (.aload_n 2, 1) := by decide +kernel
theorem dX2_startQueuedOf_53 : decode cX2_startQueuedOf 53 = .ok (.getfield 148, 3) := by decide +kernel
theorem dX2_startQueuedOf_56 : decode cX2_startQueuedOf 56 = .ok (.astore_n 2, 1) := by decide +kernel
theorem dX2_startQueuedOf_57 : decode cX2_startQueuedOf 57 = .ok (.goto (-52), 3) := by decide +kernel
theorem dX2_startQueuedOf_60 : decode cX2_startQueuedOf 60 = .ok (.return_, 1) := by decide +kernel
end
section
theorem dX3_init_0 : decode cX3_init 0 = .ok (.aload_n 0, 1) := by decide +kernel
theorem dX3_init_1 : decode cX3_init 1 = .ok (.invokespecial 1, 3) := by decide +kernel
theorem dX3_init_4 : decode cX3_init 4 = .ok (.aload_n 0, 1) := by decide +kernel
theorem dX3_init_5 : decode cX3_init 5 = .ok (.bipush 6, 2) := by decide +kernel
theorem dX3_init_7 : decode cX3_init 7 = .ok (.newarray .int, 2) := by decide +kernel
theorem dX3_init_9 : decode cX3_init 9 = .ok (.dup, 1) := by decide +kernel
theorem dX3_init_10 : decode cX3_init 10 = .ok (.iconst 0, 1) := by decide +kernel
theorem dX3_init_11 : decode cX3_init 11 = .ok (.iconst 1, 1) := by decide +kernel
theorem dX3_init_12 : decode cX3_init 12 = .ok (.iastore, 1) := by decide +kernel
theorem dX3_init_13 : decode cX3_init 13 = .ok (.dup, 1) := by decide +kernel
theorem dX3_init_14 : decode cX3_init 14 = .ok (.iconst 1, 1) := by decide +kernel
theorem dX3_init_15 : decode cX3_init 15 = .ok (.iconst 1, 1) := by decide +kernel
theorem dX3_init_16 : decode cX3_init 16 = .ok (.iastore, 1) := by decide +kernel
theorem dX3_init_17 : decode cX3_init 17 = .ok (.dup, 1) := by decide +kernel
theorem dX3_init_18 : decode cX3_init 18 = .ok (.iconst 2, 1) := by decide +kernel
theorem dX3_init_19 : decode cX3_init 19 = .ok (.iconst 1, 1) := by decide +kernel
theorem dX3_init_20 : decode cX3_init 20 = .ok (.iastore, 1) := by decide +kernel
theorem dX3_init_21 : decode cX3_init 21 = .ok (.dup, 1) := by decide +kernel
theorem dX3_init_22 : decode cX3_init 22 = .ok (.iconst 3, 1) := by decide +kernel
theorem dX3_init_23 : decode cX3_init 23 = .ok (.iconst 1, 1) := by decide +kernel
theorem dX3_init_24 : decode cX3_init 24 = .ok (.iastore, 1) := by decide +kernel
theorem dX3_init_25 : decode cX3_init 25 = .ok (.dup, 1) := by decide +kernel
theorem dX3_init_26 : decode cX3_init 26 = .ok (.iconst 4, 1) := by decide +kernel
theorem dX3_init_27 : decode cX3_init 27 = .ok (.iconst 1, 1) := by decide +kernel
theorem dX3_init_28 : decode cX3_init 28 = .ok (.iastore, 1) := by decide +kernel
theorem dX3_init_29 : decode cX3_init 29 = .ok (.dup, 1) := by decide +kernel
theorem dX3_init_30 : decode cX3_init 30 = .ok (.iconst 5, 1) := by decide +kernel
theorem dX3_init_31 : decode cX3_init 31 = .ok (.iconst 1, 1) := by decide +kernel
theorem dX3_init_32 : decode cX3_init 32 = .ok (.iastore, 1) := by decide +kernel
theorem dX3_init_33 : decode cX3_init 33 = .ok (.putfield 7, 3) := by decide +kernel
theorem dX3_init_36 : decode cX3_init 36 = .ok (.aload_n 0, 1) := by decide +kernel
theorem dX3_init_37 : decode cX3_init 37 = .ok (.bipush 6, 2) := by decide +kernel
theorem dX3_init_39 : decode cX3_init 39 = .ok (.newarray .int, 2) := by decide +kernel
theorem dX3_init_41 : decode cX3_init 41 = .ok (.putfield 13, 3) := by decide +kernel
theorem dX3_init_44 : decode cX3_init 44 = .ok (.aload_n 0, 1) := by decide +kernel
theorem dX3_init_45 : decode cX3_init 45 = .ok (.bipush 6, 2) := by decide +kernel
theorem dX3_init_47 : decode cX3_init 47 = .ok (.newarray .int, 2) := by decide +kernel
theorem dX3_init_49 : decode cX3_init 49 = .ok (.putfield 16, 3) := by decide +kernel
theorem dX3_init_52 : decode cX3_init 52 = .ok (.aload_n 0, 1) := by decide +kernel
theorem dX3_init_53 : decode cX3_init 53 = .ok (.bipush 6, 2) := by decide +kernel
theorem dX3_init_55 : decode cX3_init 55 = .ok (.newarray .int, 2) := by decide +kernel
theorem dX3_init_57 : decode cX3_init 57 = .ok (.putfield 19, 3) := by decide +kernel
theorem dX3_init_60 : decode cX3_init 60 = .ok (.aload_n 0, 1) := by decide +kernel
theorem dX3_init_61 : decode cX3_init 61 = .ok (.bipush 18, 2) := by decide +kernel
theorem dX3_init_63 : decode cX3_init 63 = .ok (.newarray .int, 2) := by decide +kernel
theorem dX3_init_65 : decode cX3_init 65 = .ok (.putfield 22, 3) := by decide +kernel
theorem dX3_init_68 : decode cX3_init 68 = .ok (.aload_n 0, 1) := by decide +kernel
theorem dX3_init_69 : decode cX3_init 69 = .ok (.bipush 6, 2) := by decide +kernel
theorem dX3_init_71 : decode cX3_init 71 = .ok (.newarray .int, 2) := by decide +kernel
theorem dX3_init_73 : decode cX3_init 73 = .ok (.dup, 1) := by decide +kernel
theorem dX3_init_74 : decode cX3_init 74 = .ok (.iconst 0, 1) := by decide +kernel
theorem dX3_init_75 : decode cX3_init 75 = .ok (.iconst 2, 1) := by decide +kernel
theorem dX3_init_76 : decode cX3_init 76 = .ok (.iastore, 1) := by decide +kernel
theorem dX3_init_77 : decode cX3_init 77 = .ok (.dup, 1) := by decide +kernel
theorem dX3_init_78 : decode cX3_init 78 = .ok (.iconst 1, 1) := by decide +kernel
theorem dX3_init_79 : decode cX3_init 79 = .ok (.iconst 2, 1) := by decide +kernel
theorem dX3_init_80 : decode cX3_init 80 = .ok (.iastore, 1) := by decide +kernel
theorem dX3_init_81 : decode cX3_init 81 = .ok (.dup, 1) := by decide +kernel
theorem dX3_init_82 : decode cX3_init 82 = .ok (.iconst 2, 1) := by decide +kernel
theorem dX3_init_83 : decode cX3_init 83 = .ok (.iconst 2, 1) := by decide +kernel
theorem dX3_init_84 : decode cX3_init 84 = .ok (.iastore, 1) := by decide +kernel
theorem dX3_init_85 : decode cX3_init 85 = .ok (.dup, 1) := by decide +kernel
theorem dX3_init_86 : decode cX3_init 86 = .ok (.iconst 3, 1) := by decide +kernel
theorem dX3_init_87 : decode cX3_init 87 = .ok (.iconst 2, 1) := by decide +kernel
theorem dX3_init_88 : decode cX3_init 88 = .ok (.iastore, 1) := by decide +kernel
theorem dX3_init_89 : decode cX3_init 89 = .ok (.dup, 1) := by decide +kernel
theorem dX3_init_90 : decode cX3_init 90 = .ok (.iconst 4, 1) := by decide +kernel
theorem dX3_init_91 : decode cX3_init 91 = .ok (.iconst 2, 1) := by decide +kernel
theorem dX3_init_92 : decode cX3_init 92 = .ok (.iastore, 1) := by decide +kernel
theorem dX3_init_93 : decode cX3_init 93 = .ok (.dup, 1) := by decide +kernel
theorem dX3_init_94 : decode cX3_init 94 = .ok (.iconst 5, 1) := by decide +kernel
theorem dX3_init_95 : decode cX3_init 95 = .ok (.iconst 2, 1) := by decide +kernel
theorem dX3_init_96 : decode cX3_init 96 = .ok (.iastore, 1) := by decide +kernel
theorem dX3_init_97 : decode cX3_init 97 = .ok (.putfield 25, 3) := by decide +kernel
theorem dX3_init_100 : decode cX3_init 100 = .ok (.aload_n 0, 1) := by decide +kernel
theorem dX3_init_101 : decode cX3_init 101 = .ok (.bipush 6, 2) := by decide +kernel
theorem dX3_init_103 : decode cX3_init 103 = .ok (.newarray .int, 2) := by decide +kernel
theorem dX3_init_105 : decode cX3_init 105 = .ok (.dup, 1) := by decide +kernel
theorem dX3_init_106 : decode cX3_init 106 = .ok (.iconst 0, 1) := by decide +kernel
theorem dX3_init_107 : decode cX3_init 107 = .ok (.iconst 4, 1) := by decide +kernel
theorem dX3_init_108 : decode cX3_init 108 = .ok (.iastore, 1) := by decide +kernel
theorem dX3_init_109 : decode cX3_init 109 = .ok (.dup, 1) := by decide +kernel
theorem dX3_init_110 : decode cX3_init 110 = .ok (.iconst 1, 1) := by decide +kernel
theorem dX3_init_111 : decode cX3_init 111 = .ok (.iconst 4, 1) := by decide +kernel
theorem dX3_init_112 : decode cX3_init 112 = .ok (.iastore, 1) := by decide +kernel
theorem dX3_init_113 : decode cX3_init 113 = .ok (.dup, 1) := by decide +kernel
theorem dX3_init_114 : decode cX3_init 114 = .ok (.iconst 2, 1) := by decide +kernel
theorem dX3_init_115 : decode cX3_init 115 = .ok (.iconst 4, 1) := by decide +kernel
theorem dX3_init_116 : decode cX3_init 116 = .ok (.iastore, 1) := by decide +kernel
theorem dX3_init_117 : decode cX3_init 117 = .ok (.dup, 1) := by decide +kernel
theorem dX3_init_118 : decode cX3_init 118 = .ok (.iconst 3, 1) := by decide +kernel
theorem dX3_init_119 : decode cX3_init 119 = .ok (.iconst 4, 1) := by decide +kernel
theorem dX3_init_120 : decode cX3_init 120 = .ok (.iastore, 1) := by decide +kernel
theorem dX3_init_121 : decode cX3_init 121 = .ok (.dup, 1) := by decide +kernel
theorem dX3_init_122 : decode cX3_init 122 = .ok (.iconst 4, 1) := by decide +kernel
theorem dX3_init_123 : decode cX3_init 123 = .ok (.iconst 4, 1) := by decide +kernel
theorem dX3_init_124 : decode cX3_init 124 = .ok (.iastore, 1) := by decide +kernel
theorem dX3_init_125 : decode cX3_init 125 = .ok (.dup, 1) := by decide +kernel
theorem dX3_init_126 : decode cX3_init 126 = .ok (.iconst 5, 1) := by decide +kernel
theorem dX3_init_127 : decode cX3_init 127 = .ok (.iconst 4, 1) := by decide +kernel
theorem dX3_init_128 : decode cX3_init 128 = .ok (.iastore, 1) := by decide +kernel
theorem dX3_init_129 : decode cX3_init 129 = .ok (.putfield 28, 3) := by decide +kernel
theorem dX3_init_132 : decode cX3_init 132 = .ok (.aload_n 0, 1) := by decide +kernel
theorem dX3_init_133 : decode cX3_init 133 = .ok (.bipush 6, 2) := by decide +kernel
theorem dX3_init_135 : decode cX3_init 135 = .ok (.newarray .int, 2) := by decide +kernel
theorem dX3_init_137 : decode cX3_init 137 = .ok (.putfield 31, 3) := by decide +kernel
theorem dX3_init_140 : decode cX3_init 140 = .ok (.aload_n 0, 1) := by decide +kernel
theorem dX3_init_141 : decode cX3_init 141 = .ok (.bipush 6, 2) := by decide +kernel
theorem dX3_init_143 : decode cX3_init 143 = .ok (.newarray .int, 2) := by decide +kernel
theorem dX3_init_145 : decode cX3_init 145 = .ok (.dup, 1) := by decide +kernel
theorem dX3_init_146 : decode cX3_init 146 = .ok (.iconst 0, 1) := by decide +kernel
theorem dX3_init_147 : decode cX3_init 147 = .ok (.bipush 20, 2) := by decide +kernel
theorem dX3_init_149 : decode cX3_init 149 = .ok (.iastore, 1) := by decide +kernel
theorem dX3_init_150 : decode cX3_init 150 = .ok (.dup, 1) := by decide +kernel
theorem dX3_init_151 : decode cX3_init 151 = .ok (.iconst 1, 1) := by decide +kernel
theorem dX3_init_152 : decode cX3_init 152 = .ok (.bipush 20, 2) := by decide +kernel
theorem dX3_init_154 : decode cX3_init 154 = .ok (.iastore, 1) := by decide +kernel
theorem dX3_init_155 : decode cX3_init 155 = .ok (.dup, 1) := by decide +kernel
theorem dX3_init_156 : decode cX3_init 156 = .ok (.iconst 2, 1) := by decide +kernel
theorem dX3_init_157 : decode cX3_init 157 = .ok (.bipush 20, 2) := by decide +kernel
theorem dX3_init_159 : decode cX3_init 159 = .ok (.iastore, 1) := by decide +kernel
theorem dX3_init_160 : decode cX3_init 160 = .ok (.dup, 1) := by decide +kernel
theorem dX3_init_161 : decode cX3_init 161 = .ok (.iconst 3, 1) := by decide +kernel
theorem dX3_init_162 : decode cX3_init 162 = .ok (.bipush 20, 2) := by decide +kernel
theorem dX3_init_164 : decode cX3_init 164 = .ok (.iastore, 1) := by decide +kernel
theorem dX3_init_165 : decode cX3_init 165 = .ok (.dup, 1) := by decide +kernel
theorem dX3_init_166 : decode cX3_init 166 = .ok (.iconst 4, 1) := by decide +kernel
theorem dX3_init_167 : decode cX3_init 167 = .ok (.bipush 20, 2) := by decide +kernel
theorem dX3_init_169 : decode cX3_init 169 = .ok (.iastore, 1) := by decide +kernel
theorem dX3_init_170 : decode cX3_init 170 = .ok (.dup, 1) := by decide +kernel
theorem dX3_init_171 : decode cX3_init 171 = .ok (.iconst 5, 1) := by decide +kernel
theorem dX3_init_172 : decode cX3_init 172 = .ok (.bipush 20, 2) := by decide +kernel
theorem dX3_init_174 : decode cX3_init 174 = .ok (.iastore, 1) := by decide +kernel
theorem dX3_init_175 : decode cX3_init 175 = .ok (.putfield 34, 3) := by decide +kernel
theorem dX3_init_178 : decode cX3_init 178 = .ok (.aload_n 0, 1) := by decide +kernel
theorem dX3_init_179 : decode cX3_init 179 = .ok (.bipush 6, 2) := by decide +kernel
theorem dX3_init_181 : decode cX3_init 181 = .ok (.newarray .int, 2) := by decide +kernel
theorem dX3_init_183 : decode cX3_init 183 = .ok (.putfield 37, 3) := by decide +kernel
theorem dX3_init_186 : decode cX3_init 186 = .ok (.aload_n 0, 1) := by decide +kernel
theorem dX3_init_187 : decode cX3_init 187 = .ok (.bipush 6, 2) := by decide +kernel
theorem dX3_init_189 : decode cX3_init 189 = .ok (.newarray .int, 2) := by decide +kernel
theorem dX3_init_191 : decode cX3_init 191 = .ok (.putfield 40, 3) := by decide +kernel
theorem dX3_init_194 : decode cX3_init 194 = .ok (.aload_n 0, 1) := by decide +kernel
theorem dX3_init_195 : decode cX3_init 195 = .ok (.sipush 200, 3) := by decide +kernel
theorem dX3_init_198 : decode cX3_init 198 = .ok (.newarray .int, 2) := by decide +kernel
theorem dX3_init_200 : decode cX3_init 200 = .ok (.putfield 43, 3) := by decide +kernel
theorem dX3_init_203 : decode cX3_init 203 = .ok (.aload_n 0, 1) := by decide +kernel
theorem dX3_init_204 : decode cX3_init 204 = .ok (.sipush 200, 3) := by decide +kernel
theorem dX3_init_207 : decode cX3_init 207 = .ok (.newarray .int, 2) := by decide +kernel
theorem dX3_init_209 : decode cX3_init 209 = .ok (.putfield 46, 3) := by decide +kernel
theorem dX3_init_212 : decode cX3_init 212 = .ok (.aload_n 0, 1) := by decide +kernel
theorem dX3_init_213 : decode cX3_init 213 = .ok (.sipush 200, 3) := by decide +kernel
theorem dX3_init_216 : decode cX3_init 216 = .ok (.newarray .int, 2) := by decide +kernel
theorem dX3_init_218 : decode cX3_init 218 = .ok (.putfield 49, 3) := by decide +kernel
theorem dX3_init_221 : decode cX3_init 221 = .ok (.aload_n 0, 1) := by decide +kernel
theorem dX3_init_222 : decode cX3_init 222 = .ok (.sipush 200, 3) := by decide +kernel
theorem dX3_init_225 : decode cX3_init 225 = .ok (.newarray .int, 2) := by decide +kernel
theorem dX3_init_227 : decode cX3_init 227 = .ok (.putfield 52, 3) := by decide +kernel
theorem dX3_init_230 : decode cX3_init 230 = .ok (.aload_n 0, 1) := by decide +kernel
theorem dX3_init_231 : decode cX3_init 231 = .ok (.sipush 200, 3) := by decide +kernel
theorem dX3_init_234 : decode cX3_init 234 = .ok (.newarray .int, 2) := by decide +kernel
theorem dX3_init_236 : decode cX3_init 236 = .ok (.putfield 55, 3) := by decide +kernel
theorem dX3_init_239 : decode cX3_init 239 = .ok (.aload_n 0, 1) := by decide +kernel
theorem dX3_init_240 : decode cX3_init 240 = .ok (.sipush 200, 3) := by decide +kernel
theorem dX3_init_243 : decode cX3_init 243 = .ok (.newarray .int, 2) := by decide +kernel
theorem dX3_init_245 : decode cX3_init 245 = .ok (.putfield 58, 3) := by decide +kernel
theorem dX3_init_248 : decode cX3_init 248 = .ok (.aload_n 0, 1) := by decide +kernel
theorem dX3_init_249 : decode cX3_init 249 = .ok (.sipush 200, 3) := by decide +kernel
theorem dX3_init_252 : decode cX3_init 252 = .ok (.newarray .int, 2) := by decide +kernel
theorem dX3_init_254 : decode cX3_init 254 = .ok (.putfield 61, 3) := by decide +kernel
theorem dX3_init_257 : decode cX3_init 257 = .ok (.aload_n 0, 1) := by decide +kernel
theorem dX3_init_258 : decode cX3_init 258 = .ok (.sipush 200, 3) := by decide +kernel
theorem dX3_init_261 : decode cX3_init 261 = .ok (.newarray .int, 2) := by decide +kernel
theorem dX3_init_263 : decode cX3_init 263 = .ok (.putfield 64, 3) := by decide +kernel
theorem dX3_init_266 : decode cX3_init 266 = .ok (.aload_n 0, 1) := by decide +kernel
theorem dX3_init_267 : decode cX3_init 267 = .ok (.sipush 600, 3) := by decide +kernel
theorem dX3_init_270 : decode cX3_init 270 = .ok (.newarray .int, 2) := by decide +kernel
theorem dX3_init_272 : decode cX3_init 272 = .ok (.putfield 67, 3) := by decide +kernel
theorem dX3_init_275 : decode cX3_init 275 = .ok (.aload_n 0, 1) := by decide +kernel
theorem dX3_init_276 : decode cX3_init 276 = .ok (.sipush 200, 3) := by decide +kernel
theorem dX3_init_279 : decode cX3_init 279 = .ok (.newarray .int, 2) := by decide +kernel
theorem dX3_init_281 : decode cX3_init 281 = .ok (.putfield 70, 3) := by decide +kernel
theorem dX3_init_284 : decode cX3_init 284 = .ok (.aload_n 0, 1) := by decide +kernel
theorem dX3_init_285 : decode cX3_init 285 = .ok (.sipush 200, 3) := by decide +kernel
theorem dX3_init_288 : decode cX3_init 288 = .ok (.newarray .int, 2) := by decide +kernel
theorem dX3_init_290 : decode cX3_init 290 = .ok (.putfield 73, 3) := by decide +kernel
theorem dX3_init_293 : decode cX3_init 293 = .ok (.aload_n 0, 1) := by decide +kernel
theorem dX3_init_294 : decode cX3_init 294 = .ok (.sipush 200, 3) := by decide +kernel
theorem dX3_init_297 : decode cX3_init 297 = .ok (.newarray .int, 2) := by decide +kernel
theorem dX3_init_299 : decode cX3_init 299 = .ok (.putfield 76, 3) := by decide +kernel
theorem dX3_init_302 : decode cX3_init 302 = .ok (.aload_n 0, 1) := by decide +kernel
theorem dX3_init_303 : decode cX3_init 303 = .ok (.sipush 200, 3) := by decide +kernel
theorem dX3_init_306 : decode cX3_init 306 = .ok (.newarray .boolean, 2) := by decide +kernel
theorem dX3_init_308 : decode cX3_init 308 = .ok (.putfield 79, 3) := by decide +kernel
theorem dX3_init_311 : decode cX3_init 311 = .ok (.aload_n 0, 1) := by decide +kernel
theorem dX3_init_312 : decode cX3_init 312 = .ok (.sipush 200, 3) := by decide +kernel
theorem dX3_init_315 : decode cX3_init 315 = .ok (.newarray .boolean, 2) := by decide +kernel
theorem dX3_init_317 : decode cX3_init 317 = .ok (.putfield 83, 3) := by decide +kernel
theorem dX3_init_320 : decode cX3_init 320 = .ok (.return_, 1) := by decide +kernel
theorem dX3_thrown_0 : decode cX3_thrown 0 = .ok (.aload_n 0, 1) := by decide +kernel
theorem dX3_thrown_1 : decode cX3_thrown 1 = .ok (.getfield 86, 3) := by decide +kernel
theorem dX3_thrown_4 : decode cX3_thrown 4 = .ok (.ireturn, 1) := by decide +kernel
theorem dX3_in_0 : decode cX3_in 0 = .ok (.iload_n 0, 1) := by decide +kernel
theorem dX3_in_1 : decode cX3_in 1 = .ok (.iload_n 1, 1) := by decide +kernel
theorem dX3_in_2 : decode cX3_in 2 = .ok (.if_icmp .lt 12, 3) := by decide +kernel
theorem dX3_in_5 : decode cX3_in 5 = .ok (.iload_n 0, 1) := by decide +kernel
theorem dX3_in_6 : decode cX3_in 6 = .ok (.iload_n 2, 1) := by decide +kernel
theorem dX3_in_7 : decode cX3_in 7 = .ok (.if_icmp .gt 7, 3) := by decide +kernel
theorem dX3_in_10 : decode cX3_in 10 = .ok (.iconst 1, 1) := by decide +kernel
theorem dX3_in_11 : decode cX3_in 11 = .ok (.goto 4, 3) := by decide +kernel
theorem dX3_in_14 : decode cX3_in 14 = .ok (.iconst 0, 1) := by decide +kernel
theorem dX3_in_15 : decode cX3_in 15 = .ok (.ireturn, 1) := by decide +kernel
theorem dX3_isService_0 : decode cX3_isService 0 = .ok (.iload_n 0, 1) := by decide +kernel
theorem dX3_isService_1 : decode cX3_isService 1 = .ok (.iconst 0, 1) := by decide +kernel
theorem dX3_isService_2 : decode cX3_isService 2 = .ok (.iconst 5, 1) := by decide +kernel
theorem dX3_isService_3 : decode cX3_isService 3 = .ok (.invokestatic 90, 3) := by decide +kernel
theorem dX3_isService_6 : decode cX3_isService 6 = .ok (.ireturn, 1) := by decide +kernel
theorem dX3_isCall_0 : decode cX3_isCall 0 = .ok (.iload_n 1, 1) := by decide +kernel
theorem dX3_isCall_1 : decode cX3_isCall 1 = .ok (.iconst 0, 1) := by decide +kernel
theorem dX3_isCall_2 : decode cX3_isCall 2 = .ok (.aload_n 0, 1) := by decide +kernel
theorem dX3_isCall_3 : decode cX3_isCall 3 = .ok (.getfield 94, 3) := by decide +kernel
theorem dX3_isCall_6 : decode cX3_isCall 6 = .ok (.iconst 1, 1) := by decide +kernel
theorem dX3_isCall_7 : decode cX3_isCall 7 = .ok (.isub, 1) := by decide +kernel
theorem dX3_isCall_8 : decode cX3_isCall 8 = .ok (.invokestatic 90, 3) := by decide +kernel
theorem dX3_isCall_11 : decode cX3_isCall 11 = .ok (.ireturn, 1) := by decide +kernel
theorem dX3_setWork_0 : decode cX3_setWork 0 = .ok (.aload_n 0, 1) := by decide +kernel
theorem dX3_setWork_1 : decode cX3_setWork 1 = .ok (.iload_n 1, 1) := by decide +kernel
theorem dX3_setWork_2 : decode cX3_setWork 2 = .ok (.invokestatic 97, 3) := by decide +kernel
theorem dX3_setWork_5 : decode cX3_setWork 5 = .ok (.ifCond .ne 7, 3) := by decide +kernel
theorem dX3_setWork_8 : decode cX3_setWork 8 = .ok (.iconst 1, 1) := by decide +kernel
theorem dX3_setWork_9 : decode cX3_setWork 9 = .ok (.goto 28, 3) := by decide +kernel
theorem dX3_setWork_12 : decode cX3_setWork 12 = .ok (.iload_n 2, 1) := by decide +kernel
theorem dX3_setWork_13 : decode cX3_setWork 13 = .ok (.iconst 1, 1) := by decide +kernel
theorem dX3_setWork_14 : decode cX3_setWork 14 = .ok (.bipush 20, 2) := by decide +kernel
theorem dX3_setWork_16 : decode cX3_setWork 16 = .ok (.invokestatic 90, 3) := by decide +kernel
theorem dX3_setWork_19 : decode cX3_setWork 19 = .ok (.ifCond .eq 17, 3) := by decide +kernel
theorem dX3_setWork_22 : decode cX3_setWork 22 = .ok (.iload_n 3, 1) := by decide +kernel
theorem dX3_setWork_23 : decode cX3_setWork 23 = .ok (.iconst 0, 1) := by decide +kernel
theorem dX3_setWork_24 : decode cX3_setWork 24 = .ok (.bipush 20, 2) := by decide +kernel
theorem dX3_setWork_26 : decode cX3_setWork 26 = .ok (.invokestatic 90, 3) := by decide +kernel
theorem dX3_setWork_29 : decode cX3_setWork 29 = .ok (.ifCond .eq 7, 3) := by decide +kernel
theorem dX3_setWork_32 : decode cX3_setWork 32 = .ok (.iconst 0, 1) := by decide +kernel
theorem dX3_setWork_33 : decode cX3_setWork 33 = .ok (.goto 4, 3) := by decide +kernel
theorem dX3_setWork_36 : decode cX3_setWork 36 = .ok (.iconst 2, 1) := by decide +kernel
theorem dX3_setWork_37 : decode cX3_setWork 37 = .ok (.putfield 86, 3) := by decide +kernel
theorem dX3_setWork_40 : decode cX3_setWork 40 = .ok (.aload_n 0, 1) := by decide +kernel
theorem dX3_setWork_41 : decode cX3_setWork 41 = .ok (.getfield 86, 3) := by decide +kernel
theorem dX3_setWork_44 : decode cX3_setWork 44 = .ok (.ifCond .le 5, 3) := by decide +kernel
theorem dX3_setWork_47 : decode cX3_setWork 47 = .ok (.iconst 0, 1) := by decide +kernel
theorem dX3_setWork_48 : decode cX3_setWork 48 = .ok (.ireturn, 1) := by decide +kernel
theorem dX3_setWork_49 : decode cX3_setWork 49 = .ok (.aload_n 0, 1) := by decide +kernel
theorem dX3_setWork_50 : decode cX3_setWork 50 = .ok (.getfield 7, 3) := by decide +kernel
theorem dX3_setWork_53 : decode cX3_setWork 53 = .ok (.iload_n 1, 1) := by decide +kernel
theorem dX3_setWork_54 : decode cX3_setWork 54 = .ok (.iaload, 1) := by decide +kernel
theorem dX3_setWork_55 : decode cX3_setWork 55 = .ok (.istore 4, 2) := by decide +kernel
theorem dX3_setWork_57 : decode cX3_setWork 57 = .ok (.aload_n 0, 1) := by decide +kernel
theorem dX3_setWork_58 : decode cX3_setWork 58 = .ok (.getfield 7, 3) := by decide +kernel
theorem dX3_setWork_61 : decode cX3_setWork 61 = .ok (.iload_n 1, 1) := by decide +kernel
theorem dX3_setWork_62 : decode cX3_setWork 62 = .ok (.iload_n 2, 1) := by decide +kernel
theorem dX3_setWork_63 : decode cX3_setWork 63 = .ok (.iastore, 1) := by decide +kernel
theorem dX3_setWork_64 : decode cX3_setWork 64 = .ok (.aload_n 0, 1) := by decide +kernel
theorem dX3_setWork_65 : decode cX3_setWork 65 = .ok (.getfield 13, 3) := by decide +kernel
theorem dX3_setWork_68 : decode cX3_setWork 68 = .ok (.iload_n 1, 1) := by decide +kernel
theorem dX3_setWork_69 : decode cX3_setWork 69 = .ok (.iload_n 3, 1) := by decide +kernel
theorem dX3_setWork_70 : decode cX3_setWork 70 = .ok (.iastore, 1) := by decide +kernel
theorem dX3_setWork_71 : decode cX3_setWork 71 = .ok (.aload_n 0, 1) := by decide +kernel
theorem dX3_setWork_72 : decode cX3_setWork 72 = .ok (.getfield 16, 3) := by decide +kernel
theorem dX3_setWork_75 : decode cX3_setWork 75 = .ok (.iload_n 1, 1) := by decide +kernel
theorem dX3_setWork_76 : decode cX3_setWork 76 = .ok (.iconst 0, 1) := by decide +kernel
theorem dX3_setWork_77 : decode cX3_setWork 77 = .ok (.iastore, 1) := by decide +kernel
theorem dX3_setWork_78 : decode cX3_setWork 78 = .ok (.iload 4, 2) := by decide +kernel
theorem dX3_setWork_80 : decode cX3_setWork 80 = .ok (.ireturn, 1) := by decide +kernel
theorem dX3_ask_0 : decode cX3_ask 0 = .ok (.aload_n 0, 1) := by decide +kernel
theorem dX3_ask_1 : decode cX3_ask 1 = .ok (.iload_n 1, 1) := by decide +kernel
theorem dX3_ask_2 : decode cX3_ask 2 = .ok (.invokestatic 97, 3) := by decide +kernel
theorem dX3_ask_5 : decode cX3_ask 5 = .ok (.ifCond .eq 10, 3) := by decide +kernel
theorem dX3_ask_8 : decode cX3_ask 8 = .ok (.iload_n 2, 1) := by decide +kernel
theorem dX3_ask_9 : decode cX3_ask 9 = .ok (.invokestatic 97, 3) := by decide +kernel
theorem dX3_ask_12 : decode cX3_ask 12 = .ok (.ifCond .ne 7, 3) := by decide +kernel
theorem dX3_ask_15 : decode cX3_ask 15 = .ok (.iconst 1, 1) := by decide +kernel
theorem dX3_ask_16 : decode cX3_ask 16 = .ok (.goto 27, 3) := by decide +kernel
theorem dX3_ask_19 : decode cX3_ask 19 = .ok (.iload_n 2, 1) := by decide +kernel
theorem dX3_ask_20 : decode cX3_ask 20 = .ok (.iload_n 1, 1) := by decide +kernel
theorem dX3_ask_21 : decode cX3_ask 21 = .ok (.if_icmp .gt 7, 3) := by decide +kernel
theorem dX3_ask_24 : decode cX3_ask 24 = .ok (.iconst 2, 1) := by decide +kernel
theorem dX3_ask_25 : decode cX3_ask 25 = .ok (.goto 18, 3) := by decide +kernel
theorem dX3_ask_28 : decode cX3_ask 28 = .ok (.aload_n 0, 1) := by decide +kernel
theorem dX3_ask_29 : decode cX3_ask 29 = .ok (.getfield 19, 3) := by decide +kernel
theorem dX3_ask_32 : decode cX3_ask 32 = .ok (.iload_n 1, 1) := by decide +kernel
theorem dX3_ask_33 : decode cX3_ask 33 = .ok (.iaload, 1) := by decide +kernel
theorem dX3_ask_34 : decode cX3_ask 34 = .ok (.iconst 3, 1) := by decide +kernel
theorem dX3_ask_35 : decode cX3_ask 35 = .ok (.if_icmp .ne 7, 3) := by decide +kernel
theorem dX3_ask_38 : decode cX3_ask 38 = .ok (.iconst 3, 1) := by decide +kernel
theorem dX3_ask_39 : decode cX3_ask 39 = .ok (.goto 4, 3) := by decide +kernel
theorem dX3_ask_42 : decode cX3_ask 42 = .ok (.iconst 0, 1) := by decide +kernel
theorem dX3_ask_43 : decode cX3_ask 43 = .ok (.putfield 86, 3) := by decide +kernel
theorem dX3_ask_46 : decode cX3_ask 46 = .ok (.aload_n 0, 1) := by decide +kernel
theorem dX3_ask_47 : decode cX3_ask 47 = .ok (.getfield 86, 3) := by decide +kernel
theorem dX3_ask_50 : decode cX3_ask 50 = .ok (.ifCond .le 5, 3) := by decide +kernel
theorem dX3_ask_53 : decode cX3_ask 53 = .ok (.iconst 0, 1) := by decide +kernel
theorem dX3_ask_54 : decode cX3_ask 54 = .ok (.ireturn, 1) := by decide +kernel
theorem dX3_ask_55 : decode cX3_ask 55 = .ok (.aload_n 0, 1) := by decide +kernel
theorem dX3_ask_56 : decode cX3_ask 56 = .ok (.getfield 22, 3) := by decide +kernel
theorem dX3_ask_59 : decode cX3_ask 59 = .ok (.iconst 3, 1) := by decide +kernel
theorem dX3_ask_60 : decode cX3_ask 60 = .ok (.iload_n 1, 1) := by decide +kernel
theorem dX3_ask_61 : decode cX3_ask 61 = .ok (.imul, 1) := by decide +kernel
theorem dX3_ask_62 : decode cX3_ask 62 = .ok (.aload_n 0, 1) := by decide +kernel
theorem dX3_ask_63 : decode cX3_ask 63 = .ok (.getfield 19, 3) := by decide +kernel
theorem dX3_ask_66 : decode cX3_ask 66 = .ok (.iload_n 1, 1) := by decide +kernel
theorem dX3_ask_67 : decode cX3_ask 67 = .ok (.iaload, 1) := by decide +kernel
theorem dX3_ask_68 : decode cX3_ask 68 = .ok (.iadd, 1) := by decide +kernel
theorem dX3_ask_69 : decode cX3_ask 69 = .ok (.iload_n 2, 1) := by decide +kernel
theorem dX3_ask_70 : decode cX3_ask 70 = .ok (.iastore, 1) := by decide +kernel
theorem dX3_ask_71 : decode cX3_ask 71 = .ok (.aload_n 0, 1) := by decide +kernel
theorem dX3_ask_72 : decode cX3_ask 72 = .ok (.getfield 19, 3) := by decide +kernel
theorem dX3_ask_75 : decode cX3_ask 75 = .ok (.iload_n 1, 1) := by decide +kernel
theorem dX3_ask_76 : decode cX3_ask 76 = .ok (.dup2, 1) := by decide +kernel
theorem dX3_ask_77 : decode cX3_ask 77 = .ok (.iaload, 1) := by decide +kernel
theorem dX3_ask_78 : decode cX3_ask 78 = .ok (.iconst 1, 1) := by decide +kernel
theorem dX3_ask_79 : decode cX3_ask 79 = .ok (.iadd, 1) := by decide +kernel
theorem dX3_ask_80 : decode cX3_ask 80 = .ok (.iastore, 1) := by decide +kernel
theorem dX3_ask_81 : decode cX3_ask 81 = .ok (.aload_n 0, 1) := by decide +kernel
theorem dX3_ask_82 : decode cX3_ask 82 = .ok (.getfield 19, 3) := by decide +kernel
theorem dX3_ask_85 : decode cX3_ask 85 = .ok (.iload_n 1, 1) := by decide +kernel
theorem dX3_ask_86 : decode cX3_ask 86 = .ok (.iaload, 1) := by decide +kernel
theorem dX3_ask_87 : decode cX3_ask 87 = .ok (.ireturn, 1) := by decide +kernel
theorem dX3_setRoom_0 : decode cX3_setRoom 0 = .ok (.iload_n 2, 1) := by decide +kernel
theorem dX3_setRoom_1 : decode cX3_setRoom 1 = .ok (.iconst 1, 1) := by decide +kernel
theorem dX3_setRoom_2 : decode cX3_setRoom 2 = .ok (.iconst 5, 1) := by decide +kernel
theorem dX3_setRoom_3 : decode cX3_setRoom 3 = .ok (.invokestatic 90, 3) := by decide +kernel
theorem dX3_setRoom_6 : decode cX3_setRoom 6 = .ok (.ifCond .eq 28, 3) := by decide +kernel
theorem dX3_setRoom_9 : decode cX3_setRoom 9 = .ok (.iload_n 3, 1) := by decide +kernel
theorem dX3_setRoom_10 : decode cX3_setRoom 10 = .ok (.iconst 0, 1) := by decide +kernel
theorem dX3_setRoom_11 : decode cX3_setRoom 11 = .ok (.bipush 8, 2) := by decide +kernel
theorem dX3_setRoom_13 : decode cX3_setRoom 13 = .ok (.invokestatic 90, 3) := by decide +kernel
theorem dX3_setRoom_16 : decode cX3_setRoom 16 = .ok (.ifCond .eq 18, 3) := by decide +kernel
theorem dX3_setRoom_19 : decode cX3_setRoom 19 = .ok (.iload 4, 2) := by decide +kernel
theorem dX3_setRoom_21 : decode cX3_setRoom 21 = .ok (.iconst 0, 1) := by decide +kernel
theorem dX3_setRoom_22 : decode cX3_setRoom 22 = .ok (.bipush 50, 2) := by decide +kernel
theorem dX3_setRoom_24 : decode cX3_setRoom 24 = .ok (.invokestatic 90, 3) := by decide +kernel
theorem dX3_setRoom_27 : decode cX3_setRoom 27 = .ok (.ifCond .eq 7, 3) := by decide +kernel
theorem dX3_setRoom_30 : decode cX3_setRoom 30 = .ok (.iconst 1, 1) := by decide +kernel
theorem dX3_setRoom_31 : decode cX3_setRoom 31 = .ok (.goto 4, 3) := by decide +kernel
theorem dX3_setRoom_34 : decode cX3_setRoom 34 = .ok (.iconst 0, 1) := by decide +kernel
theorem dX3_setRoom_35 : decode cX3_setRoom 35 = .ok (.istore 5, 2) := by decide +kernel
theorem dX3_setRoom_37 : decode cX3_setRoom 37 = .ok (.aload_n 0, 1) := by decide +kernel
theorem dX3_setRoom_38 : decode cX3_setRoom 38 = .ok (.iload_n 1, 1) := by decide +kernel
theorem dX3_setRoom_39 : decode cX3_setRoom 39 = .ok (.invokestatic 97, 3) := by decide +kernel
theorem dX3_setRoom_42 : decode cX3_setRoom 42 = .ok (.ifCond .ne 7, 3) := by decide +kernel
theorem dX3_setRoom_45 : decode cX3_setRoom 45 = .ok (.iconst 1, 1) := by decide +kernel
theorem dX3_setRoom_46 : decode cX3_setRoom 46 = .ok (.goto 13, 3) := by decide +kernel
theorem dX3_setRoom_49 : decode cX3_setRoom 49 = .ok (.iload 5, 2) := by decide +kernel
theorem dX3_setRoom_51 : decode cX3_setRoom 51 = .ok (.ifCond .eq 7, 3) := by decide +kernel
theorem dX3_setRoom_54 : decode cX3_setRoom 54 = .ok (.iconst 0, 1) := by decide +kernel
theorem dX3_setRoom_55 : decode cX3_setRoom 55 = .ok (.goto 4, 3) := by decide +kernel
theorem dX3_setRoom_58 : decode cX3_setRoom 58 = .ok (.iconst 2, 1) := by decide +kernel
theorem dX3_setRoom_59 : decode cX3_setRoom 59 = .ok (.putfield 86, 3) := by decide +kernel
theorem dX3_setRoom_62 : decode cX3_setRoom 62 = .ok (.aload_n 0, 1) := by decide +kernel
theorem dX3_setRoom_63 : decode cX3_setRoom 63 = .ok (.getfield 86, 3) := by decide +kernel
theorem dX3_setRoom_66 : decode cX3_setRoom 66 = .ok (.ifCond .le 5, 3) := by decide +kernel
theorem dX3_setRoom_69 : decode cX3_setRoom 69 = .ok (.iconst 0, 1) := by decide +kernel
theorem dX3_setRoom_70 : decode cX3_setRoom 70 = .ok (.ireturn, 1) := by decide +kernel
theorem dX3_setRoom_71 : decode cX3_setRoom 71 = .ok (.aload_n 0, 1) := by decide +kernel
theorem dX3_setRoom_72 : decode cX3_setRoom 72 = .ok (.getfield 25, 3) := by decide +kernel
theorem dX3_setRoom_75 : decode cX3_setRoom 75 = .ok (.iload_n 1, 1) := by decide +kernel
theorem dX3_setRoom_76 : decode cX3_setRoom 76 = .ok (.iaload, 1) := by decide +kernel
theorem dX3_setRoom_77 : decode cX3_setRoom 77 = .ok (.istore 6, 2) := by decide +kernel
theorem dX3_setRoom_79 : decode cX3_setRoom 79 = .ok (.aload_n 0, 1) := by decide +kernel
theorem dX3_setRoom_80 : decode cX3_setRoom 80 = .ok (.getfield 25, 3) := by decide +kernel
theorem dX3_setRoom_83 : decode cX3_setRoom 83 = .ok (.iload_n 1, 1) := by decide +kernel
theorem dX3_setRoom_84 : decode cX3_setRoom 84 = .ok (.iload_n 2, 1) := by decide +kernel
theorem dX3_setRoom_85 : decode cX3_setRoom 85 = .ok (.iastore, 1) := by decide +kernel
theorem dX3_setRoom_86 : decode cX3_setRoom 86 = .ok (.aload_n 0, 1) := by decide +kernel
theorem dX3_setRoom_87 : decode cX3_setRoom 87 = .ok (.getfield 28, 3) := by decide +kernel
theorem dX3_setRoom_90 : decode cX3_setRoom 90 = .ok (.iload_n 1, 1) := by decide +kernel
theorem dX3_setRoom_91 : decode cX3_setRoom 91 = .ok (.iload_n 3, 1) := by decide +kernel
theorem dX3_setRoom_92 : decode cX3_setRoom 92 = .ok (.iastore, 1) := by decide +kernel
theorem dX3_setRoom_93 : decode cX3_setRoom 93 = .ok (.aload_n 0, 1) := by decide +kernel
theorem dX3_setRoom_94 : decode cX3_setRoom 94 = .ok (.getfield 31, 3) := by decide +kernel
theorem dX3_setRoom_97 : decode cX3_setRoom 97 = .ok (.iload_n 1, 1) := by decide +kernel
theorem dX3_setRoom_98 : decode cX3_setRoom 98 = .ok (.iload 4, 2) := by decide +kernel
theorem dX3_setRoom_100 : decode cX3_setRoom 100 = .ok (.iastore, 1) := by decide +kernel
theorem dX3_setRoom_101 : decode cX3_setRoom 101 = .ok (.iload 6, 2) := by decide +kernel
theorem dX3_setRoom_103 : decode cX3_setRoom 103 = .ok (.ireturn, 1) := by decide +kernel
theorem dX3_isOver_0 : decode cX3_isOver 0 = .ok (.aload_n 0, 1) := by decide +kernel
theorem dX3_isOver_1 : decode cX3_isOver 1 = .ok (.getfield 52, 3) := by decide +kernel
theorem dX3_isOver_4 : decode cX3_isOver 4 = .ok (.iload_n 1, 1) := by decide +kernel
theorem dX3_isOver_5 : decode cX3_isOver 5 = .ok (.iaload, 1) := by decide +kernel
theorem dX3_isOver_6 : decode cX3_isOver 6 = .ok (.iconst 3, 1) := by decide +kernel
theorem dX3_isOver_7 : decode cX3_isOver 7 = .ok (.if_icmp .lt 7, 3) := by decide +kernel
theorem dX3_isOver_10 : decode cX3_isOver 10 = .ok (.iconst 1, 1) := by decide +kernel
theorem dX3_isOver_11 : decode cX3_isOver 11 = .ok (.goto 4, 3) := by decide +kernel
theorem dX3_isOver_14 : decode cX3_isOver 14 = .ok (.iconst 0, 1) := by decide +kernel
theorem dX3_isOver_15 : decode cX3_isOver 15 = .ok (.ireturn, 1) := by decide +kernel
theorem dX3_manyOf_0 : decode cX3_manyOf 0 = .ok (.iconst 0, 1) := by decide +kernel
theorem dX3_manyOf_1 : decode cX3_manyOf 1 = .ok (.istore_n 3, 1) := by decide +kernel
theorem dX3_manyOf_2 : decode cX3_manyOf 2 = .ok (.iconst 0, 1) := by decide +kernel
theorem dX3_manyOf_3 : decode cX3_manyOf 3 = .ok (.istore 4, 2) := by decide +kernel
theorem dX3_manyOf_5 : decode cX3_manyOf 5 = .ok (.iload 4, 2) := by decide +kernel
theorem dX3_manyOf_7 : decode cX3_manyOf 7 = .ok (.aload_n 0, 1) := by decide +kernel
theorem dX3_manyOf_8 : decode cX3_manyOf 8 = .ok (.getfield 94, 3) := by decide +kernel
theorem dX3_manyOf_11 : decode cX3_manyOf 11 = .ok (.if_icmp .ge 39, 3) := by decide +kernel
theorem dX3_manyOf_14 : decode cX3_manyOf 14 = .ok (.iload_n 3, 1) := by decide +kernel
theorem dX3_manyOf_15 : decode cX3_manyOf 15 = .ok (.aload_n 0, 1) := by decide +kernel
theorem dX3_manyOf_16 : decode cX3_manyOf 16 = .ok (.getfield 43, 3) := by decide +kernel
theorem dX3_manyOf_19 : decode cX3_manyOf 19 = .ok (.iload 4, 2) := by decide +kernel
theorem dX3_manyOf_21 : decode cX3_manyOf 21 = .ok (.iaload, 1) := by decide +kernel
theorem dX3_manyOf_22 : decode cX3_manyOf 22 = .ok (.iload_n 1, 1) := by decide +kernel
theorem dX3_manyOf_23 : decode cX3_manyOf 23 = .ok (.if_icmp .ne 18, 3) := by decide +kernel
theorem dX3_manyOf_26 : decode cX3_manyOf 26 = .ok (.aload_n 0, 1) := by decide +kernel
theorem dX3_manyOf_27 : decode cX3_manyOf 27 = .ok (.getfield 52, 3) := by decide +kernel
theorem dX3_manyOf_30 : decode cX3_manyOf 30 = .ok (.iload 4, 2) := by decide +kernel
theorem dX3_manyOf_32 : decode cX3_manyOf 32 = .ok (.iaload, 1) := by decide +kernel
theorem dX3_manyOf_33 : decode cX3_manyOf 33 = .ok (.iload_n 2, 1) := by decide +kernel
theorem dX3_manyOf_34 : decode cX3_manyOf 34 = .ok (.if_icmp .ne 7, 3) := by decide +kernel
theorem dX3_manyOf_37 : decode cX3_manyOf 37 = .ok (.iconst 1, 1) := by decide +kernel
theorem dX3_manyOf_38 : decode cX3_manyOf 38 = .ok (.goto 4, 3) := by decide +kernel
theorem dX3_manyOf_41 : decode cX3_manyOf 41 = .ok (.iconst 0, 1) := by decide +kernel
theorem dX3_manyOf_42 : decode cX3_manyOf 42 = .ok (.iadd, 1) := by decide +kernel
theorem dX3_manyOf_43 : decode cX3_manyOf 43 = .ok (.istore_n 3, 1) := by decide +kernel
theorem dX3_manyOf_44 : decode cX3_manyOf 44 = .ok (.iinc 4 1, 3) := by decide +kernel
theorem dX3_manyOf_47 : decode cX3_manyOf 47 = .ok (.goto (-42), 3) := by decide +kernel
theorem dX3_manyOf_50 : decode cX3_manyOf 50 = .ok (.iload_n 3, 1) := by decide +kernel
theorem dX3_manyOf_51 : decode cX3_manyOf 51 = .ok (.ireturn, 1) := by decide +kernel
theorem dX3_ends_0 : decode cX3_ends 0 = .ok (.aload_n 0, 1) := by decide +kernel
theorem dX3_ends_1 : decode cX3_ends 1 = .ok (.getfield 52, 3) := by decide +kernel
theorem dX3_ends_4 : decode cX3_ends 4 = .ok (.iload_n 1, 1) := by decide +kernel
theorem dX3_ends_5 : decode cX3_ends 5 = .ok (.iload_n 2, 1) := by decide +kernel
theorem dX3_ends_6 : decode cX3_ends 6 = .ok (.iastore, 1) := by decide +kernel
theorem dX3_ends_7 : decode cX3_ends 7 = .ok (.aload_n 0, 1) := by decide +kernel
theorem dX3_ends_8 : decode cX3_ends 8 = .ok (.getfield 58, 3) := by decide +kernel
theorem dX3_ends_11 : decode cX3_ends 11 = .ok (.iload_n 1, 1) := by decide +kernel
theorem dX3_ends_12 : decode cX3_ends 12 = .ok (.aload_n 0, 1) := by decide +kernel
theorem dX3_ends_13 : decode cX3_ends 13 = .ok (.getfield 101, 3) := by decide +kernel
theorem dX3_ends_16 : decode cX3_ends 16 = .ok (.iastore, 1) := by decide +kernel
theorem dX3_ends_17 : decode cX3_ends 17 = .ok (.iconst 0, 1) := by decide +kernel
theorem dX3_ends_18 : decode cX3_ends 18 = .ok (.istore_n 3, 1) := by decide +kernel
theorem dX3_ends_19 : decode cX3_ends 19 = .ok (.iload_n 1, 1) := by decide +kernel
theorem dX3_ends_20 : decode cX3_ends 20 = .ok (.iconst 1, 1) := by decide +kernel
theorem dX3_ends_21 : decode cX3_ends 21 = .ok (.iadd, 1) := by decide +kernel
theorem dX3_ends_22 : decode cX3_ends 22 = .ok (.istore 4, 2) := by decide +kernel
theorem dX3_ends_24 : decode cX3_ends 24 = .ok (.iload 4, 2) := by decide +kernel
theorem dX3_ends_26 : decode cX3_ends 26 = .ok (.aload_n 0, 1) := by decide +kernel
theorem dX3_ends_27 : decode cX3_ends 27 = .ok (.getfield 94, 3) := by decide +kernel
theorem dX3_ends_30 : decode cX3_ends 30 = .ok (.if_icmp .ge 66, 3) := by decide +kernel
theorem dX3_ends_33 : decode cX3_ends 33 = .ok (.aload_n 0, 1) := by decide +kernel
theorem dX3_ends_34 : decode cX3_ends 34 = .ok (.iload 4, 2) := by decide +kernel
theorem dX3_ends_36 : decode cX3_ends 36 = .ok (.invokevirtual 104, 3) := by decide +kernel
theorem dX3_ends_39 : decode cX3_ends 39 = .ok (.ifCond .ne 51, 3) := by decide +kernel
theorem dX3_ends_42 : decode cX3_ends 42 = .ok (.aload_n 0, 1) := by decide +kernel
theorem dX3_ends_43 : decode cX3_ends 43 = .ok (.getfield 49, 3) := by decide +kernel
theorem dX3_ends_46 : decode cX3_ends 46 = .ok (.iload 4, 2) := by decide +kernel
theorem dX3_ends_48 : decode cX3_ends 48 = .ok (.iaload, 1) := by decide +kernel
theorem dX3_ends_49 : decode cX3_ends 49 = .ok (.iconst (-1), 1) := by decide +kernel
theorem dX3_ends_50 : decode cX3_ends 50 = .ok (.if_icmp .eq 40, 3) := by decide +kernel
theorem dX3_ends_53 : decode cX3_ends 53 = .ok (.aload_n 0, 1) := by decide +kernel
theorem dX3_ends_54 : decode cX3_ends 54 = .ok (.aload_n 0, 1) := by decide +kernel
theorem dX3_ends_55 : decode cX3_ends 55 = .ok (.getfield 49, 3) := by decide +kernel
theorem dX3_ends_58 : decode cX3_ends 58 = .ok (.iload 4, 2) := by decide +kernel
theorem dX3_ends_60 : decode cX3_ends 60 = .ok (.iaload, 1) := by decide +kernel
theorem dX3_ends_61 : decode cX3_ends 61 = .ok (.invokevirtual 104, 3) := by decide +kernel
theorem dX3_ends_64 : decode cX3_ends 64 = .ok (.ifCond .eq 26, 3) := by decide +kernel
theorem dX3_ends_67 : decode cX3_ends 67 = .ok (.aload_n 0, 1) := by decide +kernel
theorem dX3_ends_68 : decode cX3_ends 68 = .ok (.getfield 52, 3) := by decide +kernel
theorem dX3_ends_71 : decode cX3_ends 71 = .ok (.iload 4, 2) := by decide +kernel
theorem dX3_ends_73 : decode cX3_ends 73 = .ok (.bipush 7, 2) := by decide +kernel
theorem dX3_ends_75 : decode cX3_ends 75 = .ok (.iastore, 1) := by decide +kernel
theorem dX3_ends_76 : decode cX3_ends 76 = .ok (.aload_n 0, 1) := by decide +kernel
theorem dX3_ends_77 : decode cX3_ends 77 = .ok (.getfield 58, 3) := by decide +kernel
theorem dX3_ends_80 : decode cX3_ends 80 = .ok (.iload 4, 2) := by decide +kernel
theorem dX3_ends_82 : decode cX3_ends 82 = .ok (.aload_n 0, 1) := by decide +kernel
theorem dX3_ends_83 : decode cX3_ends 83 = .ok (.getfield 101, 3) := by decide +kernel
theorem dX3_ends_86 : decode cX3_ends 86 = .ok (.iastore, 1) := by decide +kernel
theorem dX3_ends_87 : decode cX3_ends 87 = .ok (.iinc 3 1, 3) := by decide +kernel
theorem dX3_ends_90 : decode cX3_ends 90 = .ok (.iinc 4 1, 3) := by decide +kernel
theorem dX3_ends_93 : decode cX3_ends 93 = .ok (.goto (-69), 3) := by decide +kernel
theorem dX3_ends_96 : decode cX3_ends 96 = .ok (.aload_n 0, 1) := by decide +kernel
theorem dX3_ends_97 : decode cX3_ends 97 = .ok (.getfield 43, 3) := by decide +kernel
theorem dX3_ends_100 : decode cX3_ends 100 = .ok (.iload_n 1, 1) := by decide +kernel
theorem dX3_ends_101 : decode cX3_ends 101 = .ok (.iaload, 1) := by decide +kernel
theorem dX3_ends_102 : decode cX3_ends 102 = .ok (.istore 4, 2) := by decide +kernel
theorem dX3_ends_104 : decode cX3_ends 104 = .ok (.iload_n 2, 1) := by decide +kernel
theorem dX3_ends_105 : decode cX3_ends 105 = .ok (.iconst 3, 1) := by decide +kernel
theorem dX3_ends_106 : decode cX3_ends 106 = .ok (.if_icmp .ne 38, 3) := by decide +kernel
theorem dX3_ends_109 : decode cX3_ends 109 = .ok (.aload_n 0, 1) := by decide +kernel
theorem dX3_ends_110 : decode cX3_ends 110 = .ok (.getfield 34, 3) := by decide +kernel
theorem dX3_ends_113 : decode cX3_ends 113 = .ok (.iload 4, 2) := by decide +kernel
theorem dX3_ends_115 : decode cX3_ends 115 = .ok (.dup2, 1) := by decide +kernel
theorem dX3_ends_116 : decode cX3_ends 116 = .ok (.iaload, 1) := by decide +kernel
theorem dX3_ends_117 : decode cX3_ends 117 = .ok (.aload_n 0, 1) := by decide +kernel
theorem dX3_ends_118 : decode cX3_ends 118 = .ok (.getfield 34, 3) := by decide +kernel
theorem dX3_ends_121 : decode cX3_ends 121 = .ok (.iload 4, 2) := by decide +kernel
theorem dX3_ends_123 : decode cX3_ends 123 = .ok (.iaload, 1) := by decide +kernel
theorem dX3_ends_124 : decode cX3_ends 124 = .ok (.bipush 50, 2) := by decide +kernel
theorem dX3_ends_126 : decode cX3_ends 126 = .ok (.if_icmp .ge 7, 3) := by decide +kernel
theorem dX3_ends_129 : decode cX3_ends 129 = .ok (.iconst 1, 1) := by decide +kernel
theorem dX3_ends_130 : decode cX3_ends 130 = .ok (.goto 4, 3) := by decide +kernel
theorem dX3_ends_133 : decode cX3_ends 133 = .ok (.iconst 0, 1) := by decide +kernel
theorem dX3_ends_134 : decode cX3_ends 134 = .ok (.iadd, 1) := by decide +kernel
theorem dX3_ends_135 : decode cX3_ends 135 = .ok (.iastore, 1) := by decide +kernel
theorem dX3_ends_136 : decode cX3_ends 136 = .ok (.aload_n 0, 1) := by decide +kernel
theorem dX3_ends_137 : decode cX3_ends 137 = .ok (.getfield 37, 3) := by decide +kernel
theorem dX3_ends_140 : decode cX3_ends 140 = .ok (.iload 4, 2) := by decide +kernel
theorem dX3_ends_142 : decode cX3_ends 142 = .ok (.iconst 0, 1) := by decide +kernel
theorem dX3_ends_143 : decode cX3_ends 143 = .ok (.iastore, 1) := by decide +kernel
theorem dX3_ends_144 : decode cX3_ends 144 = .ok (.iload_n 3, 1) := by decide +kernel
theorem dX3_ends_145 : decode cX3_ends 145 = .ok (.ireturn, 1) := by decide +kernel
theorem dX3_counts_0 : decode cX3_counts 0 = .ok (.aload_n 0, 1) := by decide +kernel
theorem dX3_counts_1 : decode cX3_counts 1 = .ok (.getfield 37, 3) := by decide +kernel
theorem dX3_counts_4 : decode cX3_counts 4 = .ok (.iload_n 1, 1) := by decide +kernel
theorem dX3_counts_5 : decode cX3_counts 5 = .ok (.dup2, 1) := by decide +kernel
theorem dX3_counts_6 : decode cX3_counts 6 = .ok (.iaload, 1) := by decide +kernel
theorem dX3_counts_7 : decode cX3_counts 7 = .ok (.iconst 1, 1) := by decide +kernel
theorem dX3_counts_8 : decode cX3_counts 8 = .ok (.iadd, 1) := by decide +kernel
theorem dX3_counts_9 : decode cX3_counts 9 = .ok (.iastore, 1) := by decide +kernel
theorem dX3_counts_10 : decode cX3_counts 10 = .ok (.aload_n 0, 1) := by decide +kernel
theorem dX3_counts_11 : decode cX3_counts 11 = .ok (.getfield 37, 3) := by decide +kernel
theorem dX3_counts_14 : decode cX3_counts 14 = .ok (.iload_n 1, 1) := by decide +kernel
theorem dX3_counts_15 : decode cX3_counts 15 = .ok (.iaload, 1) := by decide +kernel
theorem dX3_counts_16 : decode cX3_counts 16 = .ok (.iconst 3, 1) := by decide +kernel
theorem dX3_counts_17 : decode cX3_counts 17 = .ok (.if_icmp .ne 23, 3) := by decide +kernel
theorem dX3_counts_20 : decode cX3_counts 20 = .ok (.aload_n 0, 1) := by decide +kernel
theorem dX3_counts_21 : decode cX3_counts 21 = .ok (.getfield 37, 3) := by decide +kernel
theorem dX3_counts_24 : decode cX3_counts 24 = .ok (.iload_n 1, 1) := by decide +kernel
theorem dX3_counts_25 : decode cX3_counts 25 = .ok (.iconst 0, 1) := by decide +kernel
theorem dX3_counts_26 : decode cX3_counts 26 = .ok (.iastore, 1) := by decide +kernel
theorem dX3_counts_27 : decode cX3_counts 27 = .ok (.aload_n 0, 1) := by decide +kernel
theorem dX3_counts_28 : decode cX3_counts 28 = .ok (.getfield 40, 3) := by decide +kernel
theorem dX3_counts_31 : decode cX3_counts 31 = .ok (.iload_n 1, 1) := by decide +kernel
theorem dX3_counts_32 : decode cX3_counts 32 = .ok (.aload_n 0, 1) := by decide +kernel
theorem dX3_counts_33 : decode cX3_counts 33 = .ok (.getfield 101, 3) := by decide +kernel
theorem dX3_counts_36 : decode cX3_counts 36 = .ok (.bipush 20, 2) := by decide +kernel
theorem dX3_counts_38 : decode cX3_counts 38 = .ok (.iadd, 1) := by decide +kernel
theorem dX3_counts_39 : decode cX3_counts 39 = .ok (.iastore, 1) := by decide +kernel
theorem dX3_counts_40 : decode cX3_counts 40 = .ok (.return_, 1) := by decide +kernel
theorem dX3_isOpenNow_0 : decode cX3_isOpenNow 0 = .ok (.aload_n 0, 1) := by decide +kernel
theorem dX3_isOpenNow_1 : decode cX3_isOpenNow 1 = .ok (.getfield 101, 3) := by decide +kernel
theorem dX3_isOpenNow_4 : decode cX3_isOpenNow 4 = .ok (.aload_n 0, 1) := by decide +kernel
theorem dX3_isOpenNow_5 : decode cX3_isOpenNow 5 = .ok (.getfield 40, 3) := by decide +kernel
theorem dX3_isOpenNow_8 : decode cX3_isOpenNow 8 = .ok (.iload_n 1, 1) := by decide +kernel
theorem dX3_isOpenNow_9 : decode cX3_isOpenNow 9 = .ok (.iaload, 1) := by decide +kernel
theorem dX3_isOpenNow_10 : decode cX3_isOpenNow 10 = .ok (.if_icmp .ge 7, 3) := by decide +kernel
theorem dX3_isOpenNow_13 : decode cX3_isOpenNow 13 = .ok (.iconst 1, 1) := by decide +kernel
theorem dX3_isOpenNow_14 : decode cX3_isOpenNow 14 = .ok (.goto 4, 3) := by decide +kernel
theorem dX3_isOpenNow_17 : decode cX3_isOpenNow 17 = .ok (.iconst 0, 1) := by decide +kernel
theorem dX3_isOpenNow_18 : decode cX3_isOpenNow 18 = .ok (.ireturn, 1) := by decide +kernel
theorem dX3_works_0 : decode cX3_works 0 = .ok (.aload_n 0, 1) := by decide +kernel
theorem dX3_works_1 : decode cX3_works 1 = .ok (.getfield 52, 3) := by decide +kernel
theorem dX3_works_4 : decode cX3_works 4 = .ok (.iload_n 1, 1) := by decide +kernel
theorem dX3_works_5 : decode cX3_works 5 = .ok (.iconst 1, 1) := by decide +kernel
theorem dX3_works_6 : decode cX3_works 6 = .ok (.iastore, 1) := by decide +kernel
theorem dX3_works_7 : decode cX3_works 7 = .ok (.aload_n 0, 1) := by decide +kernel
theorem dX3_works_8 : decode cX3_works 8 = .ok (.getfield 55, 3) := by decide +kernel
theorem dX3_works_11 : decode cX3_works 11 = .ok (.iload_n 1, 1) := by decide +kernel
theorem dX3_works_12 : decode cX3_works 12 = .ok (.aload_n 0, 1) := by decide +kernel
theorem dX3_works_13 : decode cX3_works 13 = .ok (.getfield 101, 3) := by decide +kernel
theorem dX3_works_16 : decode cX3_works 16 = .ok (.aload_n 0, 1) := by decide +kernel
theorem dX3_works_17 : decode cX3_works 17 = .ok (.getfield 7, 3) := by decide +kernel
theorem dX3_works_20 : decode cX3_works 20 = .ok (.aload_n 0, 1) := by decide +kernel
theorem dX3_works_21 : decode cX3_works 21 = .ok (.getfield 43, 3) := by decide +kernel
theorem dX3_works_24 : decode cX3_works 24 = .ok (.iload_n 1, 1) := by decide +kernel
theorem dX3_works_25 : decode cX3_works 25 = .ok (.iaload, 1) := by decide +kernel
theorem dX3_works_26 : decode cX3_works 26 = .ok (.iaload, 1) := by decide +kernel
theorem dX3_works_27 : decode cX3_works 27 = .ok (.iadd, 1) := by decide +kernel
theorem dX3_works_28 : decode cX3_works 28 = .ok (.iastore, 1) := by decide +kernel
theorem dX3_works_29 : decode cX3_works 29 = .ok (.return_, 1) := by decide +kernel
theorem dX3_begins_0 : decode cX3_begins 0 = .ok (.aload_n 0, 1) := by decide +kernel
theorem dX3_begins_1 : decode cX3_begins 1 = .ok (.getfield 94, 3) := by decide +kernel
theorem dX3_begins_4 : decode cX3_begins 4 = .ok (.istore 4, 2) := by decide +kernel
theorem dX3_begins_6 : decode cX3_begins 6 = .ok (.aload_n 0, 1) := by decide +kernel
theorem dX3_begins_7 : decode cX3_begins 7 = .ok (.dup, 1) := by decide +kernel
theorem dX3_begins_8 : decode cX3_begins 8 = .ok (.getfield 94, 3) := by decide +kernel
theorem dX3_begins_11 : decode cX3_begins 11 = .ok (.iconst 1, 1) := by decide +kernel
theorem dX3_begins_12 : decode cX3_begins 12 = .ok (.iadd, 1) := by decide +kernel
theorem dX3_begins_13 : decode cX3_begins 13 = .ok (.putfield 94, 3) := by decide +kernel
theorem dX3_begins_16 : decode cX3_begins 16 = .ok (.aload_n 0, 1) := by decide +kernel
theorem dX3_begins_17 : decode cX3_begins 17 = .ok (.getfield 43, 3) := by decide +kernel
theorem dX3_begins_20 : decode cX3_begins 20 = .ok (.iload 4, 2) := by decide +kernel
theorem dX3_begins_22 : decode cX3_begins 22 = .ok (.iload_n 1, 1) := by decide +kernel
theorem dX3_begins_23 : decode cX3_begins 23 = .ok (.iastore, 1) := by decide +kernel
theorem dX3_begins_24 : decode cX3_begins 24 = .ok (.aload_n 0, 1) := by decide +kernel
theorem dX3_begins_25 : decode cX3_begins 25 = .ok (.getfield 46, 3) := by decide +kernel
theorem dX3_begins_28 : decode cX3_begins 28 = .ok (.iload 4, 2) := by decide +kernel
theorem dX3_begins_30 : decode cX3_begins 30 = .ok (.iload_n 2, 1) := by decide +kernel
theorem dX3_begins_31 : decode cX3_begins 31 = .ok (.iastore, 1) := by decide +kernel
theorem dX3_begins_32 : decode cX3_begins 32 = .ok (.aload_n 0, 1) := by decide +kernel
theorem dX3_begins_33 : decode cX3_begins 33 = .ok (.getfield 49, 3) := by decide +kernel
theorem dX3_begins_36 : decode cX3_begins 36 = .ok (.iload 4, 2) := by decide +kernel
theorem dX3_begins_38 : decode cX3_begins 38 = .ok (.iload_n 3, 1) := by decide +kernel
theorem dX3_begins_39 : decode cX3_begins 39 = .ok (.iastore, 1) := by decide +kernel
theorem dX3_begins_40 : decode cX3_begins 40 = .ok (.aload_n 0, 1) := by decide +kernel
theorem dX3_begins_41 : decode cX3_begins 41 = .ok (.getfield 61, 3) := by decide +kernel
theorem dX3_begins_44 : decode cX3_begins 44 = .ok (.iload 4, 2) := by decide +kernel
theorem dX3_begins_46 : decode cX3_begins 46 = .ok (.aload_n 0, 1) := by decide +kernel
theorem dX3_begins_47 : decode cX3_begins 47 = .ok (.getfield 101, 3) := by decide +kernel
theorem dX3_begins_50 : decode cX3_begins 50 = .ok (.iastore, 1) := by decide +kernel
theorem dX3_begins_51 : decode cX3_begins 51 = .ok (.aload_n 0, 1) := by decide +kernel
theorem dX3_begins_52 : decode cX3_begins 52 = .ok (.getfield 64, 3) := by decide +kernel
theorem dX3_begins_55 : decode cX3_begins 55 = .ok (.iload 4, 2) := by decide +kernel
theorem dX3_begins_57 : decode cX3_begins 57 = .ok (.iload_n 3, 1) := by decide +kernel
theorem dX3_begins_58 : decode cX3_begins 58 = .ok (.iconst (-1), 1) := by decide +kernel
theorem dX3_begins_59 : decode cX3_begins 59 = .ok (.if_icmp .ne 7, 3) := by decide +kernel
theorem dX3_begins_62 : decode cX3_begins 62 = .ok (.iconst 0, 1) := by decide +kernel
theorem dX3_begins_63 : decode cX3_begins 63 = .ok (.goto 9, 3) := by decide +kernel
theorem dX3_begins_66 : decode cX3_begins 66 = .ok (.aload_n 0, 1) := by decide +kernel
theorem dX3_begins_67 : decode cX3_begins 67 = .ok (.getfield 73, 3) := by decide +kernel
theorem dX3_begins_70 : decode cX3_begins 70 = .ok (.iload_n 3, 1) := by decide +kernel
theorem dX3_begins_71 : decode cX3_begins 71 = .ok (.iaload, 1) := by decide +kernel
theorem dX3_begins_72 : decode cX3_begins 72 = .ok (.iastore, 1) := by decide +kernel
theorem dX3_begins_73 : decode cX3_begins 73 = .ok (.aload_n 0, 1) := by decide +kernel
theorem dX3_begins_74 : decode cX3_begins 74 = .ok (.getfield 58, 3) := by decide +kernel
theorem dX3_begins_77 : decode cX3_begins 77 = .ok (.iload 4, 2) := by decide +kernel
theorem dX3_begins_79 : decode cX3_begins 79 = .ok (.iconst (-1), 1) := by decide +kernel
theorem dX3_begins_80 : decode cX3_begins 80 = .ok (.iastore, 1) := by decide +kernel
theorem dX3_begins_81 : decode cX3_begins 81 = .ok (.aload_n 0, 1) := by decide +kernel
theorem dX3_begins_82 : decode cX3_begins 82 = .ok (.getfield 79, 3) := by decide +kernel
theorem dX3_begins_85 : decode cX3_begins 85 = .ok (.iload 4, 2) := by decide +kernel
theorem dX3_begins_87 : decode cX3_begins 87 = .ok (.iconst 0, 1) := by decide +kernel
theorem dX3_begins_88 : decode cX3_begins 88 = .ok (.bastore, 1) := by decide +kernel
theorem dX3_begins_89 : decode cX3_begins 89 = .ok (.aload_n 0, 1) := by decide +kernel
theorem dX3_begins_90 : decode cX3_begins 90 = .ok (.getfield 52, 3) := by decide +kernel
theorem dX3_begins_93 : decode cX3_begins 93 = .ok (.iload 4, 2) := by decide +kernel
theorem dX3_begins_95 : decode cX3_begins 95 = .ok (.iconst 3, 1) := by decide +kernel
theorem dX3_begins_96 : decode cX3_begins 96 = .ok (.iastore, 1) := by decide +kernel
theorem dX3_begins_97 : decode cX3_begins 97 = .ok (.aload_n 0, 1) := by decide +kernel
theorem dX3_begins_98 : decode cX3_begins 98 = .ok (.iload_n 1, 1) := by decide +kernel
theorem dX3_begins_99 : decode cX3_begins 99 = .ok (.iconst 1, 1) := by decide +kernel
theorem dX3_begins_100 : decode cX3_begins 100 = .ok (.invokevirtual 107, 3) := by decide +kernel
theorem dX3_begins_103 : decode cX3_begins 103 = .ok (.istore 5, 2) := by decide +kernel
theorem dX3_begins_105 : decode cX3_begins 105 = .ok (.aload_n 0, 1) := by decide +kernel
theorem dX3_begins_106 : decode cX3_begins 106 = .ok (.iload_n 1, 1) := by decide +kernel
theorem dX3_begins_107 : decode cX3_begins 107 = .ok (.iconst 0, 1) := by decide +kernel
theorem dX3_begins_108 : decode cX3_begins 108 = .ok (.invokevirtual 107, 3) := by decide +kernel
theorem dX3_begins_111 : decode cX3_begins 111 = .ok (.istore 6, 2) := by decide +kernel
theorem dX3_begins_113 : decode cX3_begins 113 = .ok (.aload_n 0, 1) := by decide +kernel
theorem dX3_begins_114 : decode cX3_begins 114 = .ok (.iload_n 1, 1) := by decide +kernel
theorem dX3_begins_115 : decode cX3_begins 115 = .ok (.invokevirtual 111, 3) := by decide +kernel
theorem dX3_begins_118 : decode cX3_begins 118 = .ok (.ifCond .eq 14, 3) := by decide +kernel
theorem dX3_begins_121 : decode cX3_begins 121 = .ok (.aload_n 0, 1) := by decide +kernel
theorem dX3_begins_122 : decode cX3_begins 122 = .ok (.iload 4, 2) := by decide +kernel
theorem dX3_begins_124 : decode cX3_begins 124 = .ok (.iconst 4, 1) := by decide +kernel
theorem dX3_begins_125 : decode cX3_begins 125 = .ok (.invokevirtual 114, 3) := by decide +kernel
theorem dX3_begins_128 : decode cX3_begins 128 = .ok (.pop, 1) := by decide +kernel
theorem dX3_begins_129 : decode cX3_begins 129 = .ok (.goto 81, 3) := by decide +kernel
theorem dX3_begins_132 : decode cX3_begins 132 = .ok (.iload_n 2, 1) := by decide +kernel
theorem dX3_begins_133 : decode cX3_begins 133 = .ok (.aload_n 0, 1) := by decide +kernel
theorem dX3_begins_134 : decode cX3_begins 134 = .ok (.getfield 101, 3) := by decide +kernel
theorem dX3_begins_137 : decode cX3_begins 137 = .ok (.isub, 1) := by decide +kernel
theorem dX3_begins_138 : decode cX3_begins 138 = .ok (.aload_n 0, 1) := by decide +kernel
theorem dX3_begins_139 : decode cX3_begins 139 = .ok (.getfield 7, 3) := by decide +kernel
theorem dX3_begins_142 : decode cX3_begins 142 = .ok (.iload_n 1, 1) := by decide +kernel
theorem dX3_begins_143 : decode cX3_begins 143 = .ok (.iaload, 1) := by decide +kernel
theorem dX3_begins_144 : decode cX3_begins 144 = .ok (.if_icmp .ge 15, 3) := by decide +kernel
theorem dX3_begins_147 : decode cX3_begins 147 = .ok (.aload_n 0, 1) := by decide +kernel
theorem dX3_begins_148 : decode cX3_begins 148 = .ok (.iload 4, 2) := by decide +kernel
theorem dX3_begins_150 : decode cX3_begins 150 = .ok (.bipush 6, 2) := by decide +kernel
theorem dX3_begins_152 : decode cX3_begins 152 = .ok (.invokevirtual 114, 3) := by decide +kernel
theorem dX3_begins_155 : decode cX3_begins 155 = .ok (.pop, 1) := by decide +kernel
theorem dX3_begins_156 : decode cX3_begins 156 = .ok (.goto 54, 3) := by decide +kernel
theorem dX3_begins_159 : decode cX3_begins 159 = .ok (.iload 5, 2) := by decide +kernel
theorem dX3_begins_161 : decode cX3_begins 161 = .ok (.aload_n 0, 1) := by decide +kernel
theorem dX3_begins_162 : decode cX3_begins 162 = .ok (.getfield 25, 3) := by decide +kernel
theorem dX3_begins_165 : decode cX3_begins 165 = .ok (.iload_n 1, 1) := by decide +kernel
theorem dX3_begins_166 : decode cX3_begins 166 = .ok (.iaload, 1) := by decide +kernel
theorem dX3_begins_167 : decode cX3_begins 167 = .ok (.if_icmp .ge 12, 3) := by decide +kernel
theorem dX3_begins_170 : decode cX3_begins 170 = .ok (.aload_n 0, 1) := by decide +kernel
theorem dX3_begins_171 : decode cX3_begins 171 = .ok (.iload 4, 2) := by decide +kernel
theorem dX3_begins_173 : decode cX3_begins 173 = .ok (.invokevirtual 117, 3) := by decide +kernel
theorem dX3_begins_176 : decode cX3_begins 176 = .ok (.goto 34, 3) := by decide +kernel
theorem dX3_begins_179 : decode cX3_begins 179 = .ok (.iload 6, 2) := by decide +kernel
theorem dX3_begins_181 : decode cX3_begins 181 = .ok (.aload_n 0, 1) := by decide +kernel
theorem dX3_begins_182 : decode cX3_begins 182 = .ok (.getfield 28, 3) := by decide +kernel
theorem dX3_begins_185 : decode cX3_begins 185 = .ok (.iload_n 1, 1) := by decide +kernel
theorem dX3_begins_186 : decode cX3_begins 186 = .ok (.iaload, 1) := by decide +kernel
theorem dX3_begins_187 : decode cX3_begins 187 = .ok (.if_icmp .ge 14, 3) := by decide +kernel
theorem dX3_begins_190 : decode cX3_begins 190 = .ok (.aload_n 0, 1) := by decide +kernel
theorem dX3_begins_191 : decode cX3_begins 191 = .ok (.getfield 52, 3) := by decide +kernel
theorem dX3_begins_194 : decode cX3_begins 194 = .ok (.iload 4, 2) := by decide +kernel
theorem dX3_begins_196 : decode cX3_begins 196 = .ok (.iconst 0, 1) := by decide +kernel
theorem dX3_begins_197 : decode cX3_begins 197 = .ok (.iastore, 1) := by decide +kernel
theorem dX3_begins_198 : decode cX3_begins 198 = .ok (.goto 12, 3) := by decide +kernel
theorem dX3_begins_201 : decode cX3_begins 201 = .ok (.aload_n 0, 1) := by decide +kernel
theorem dX3_begins_202 : decode cX3_begins 202 = .ok (.iload 4, 2) := by decide +kernel
theorem dX3_begins_204 : decode cX3_begins 204 = .ok (.bipush 6, 2) := by decide +kernel
theorem dX3_begins_206 : decode cX3_begins 206 = .ok (.invokevirtual 114, 3) := by decide +kernel
theorem dX3_begins_209 : decode cX3_begins 209 = .ok (.pop, 1) := by decide +kernel
theorem dX3_begins_210 : decode cX3_begins 210 = .ok (.return_, 1) := by decide +kernel
theorem dX3_call_0 : decode cX3_call 0 = .ok (.aload_n 0, 1) := by decide +kernel
theorem dX3_call_1 : decode cX3_call 1 = .ok (.iload_n 1, 1) := by decide +kernel
theorem dX3_call_2 : decode cX3_call 2 = .ok (.invokestatic 97, 3) := by decide +kernel
theorem dX3_call_5 : decode cX3_call 5 = .ok (.ifCond .ne 7, 3) := by decide +kernel
theorem dX3_call_8 : decode cX3_call 8 = .ok (.iconst 1, 1) := by decide +kernel
theorem dX3_call_9 : decode cX3_call 9 = .ok (.goto 32, 3) := by decide +kernel
theorem dX3_call_12 : decode cX3_call 12 = .ok (.iload_n 2, 1) := by decide +kernel
theorem dX3_call_13 : decode cX3_call 13 = .ok (.iconst 1, 1) := by decide +kernel
theorem dX3_call_14 : decode cX3_call 14 = .ok (.bipush 100, 2) := by decide +kernel
theorem dX3_call_16 : decode cX3_call 16 = .ok (.invokestatic 90, 3) := by decide +kernel
theorem dX3_call_19 : decode cX3_call 19 = .ok (.ifCond .ne 7, 3) := by decide +kernel
theorem dX3_call_22 : decode cX3_call 22 = .ok (.iconst 2, 1) := by decide +kernel
theorem dX3_call_23 : decode cX3_call 23 = .ok (.goto 18, 3) := by decide +kernel
theorem dX3_call_26 : decode cX3_call 26 = .ok (.aload_n 0, 1) := by decide +kernel
theorem dX3_call_27 : decode cX3_call 27 = .ok (.getfield 94, 3) := by decide +kernel
theorem dX3_call_30 : decode cX3_call 30 = .ok (.sipush 200, 3) := by decide +kernel
theorem dX3_call_33 : decode cX3_call 33 = .ok (.if_icmp .ne 7, 3) := by decide +kernel
theorem dX3_call_36 : decode cX3_call 36 = .ok (.iconst 3, 1) := by decide +kernel
theorem dX3_call_37 : decode cX3_call 37 = .ok (.goto 4, 3) := by decide +kernel
theorem dX3_call_40 : decode cX3_call 40 = .ok (.iconst 0, 1) := by decide +kernel
theorem dX3_call_41 : decode cX3_call 41 = .ok (.putfield 86, 3) := by decide +kernel
theorem dX3_call_44 : decode cX3_call 44 = .ok (.aload_n 0, 1) := by decide +kernel
theorem dX3_call_45 : decode cX3_call 45 = .ok (.getfield 86, 3) := by decide +kernel
theorem dX3_call_48 : decode cX3_call 48 = .ok (.ifCond .le 5, 3) := by decide +kernel
theorem dX3_call_51 : decode cX3_call 51 = .ok (.iconst 0, 1) := by decide +kernel
theorem dX3_call_52 : decode cX3_call 52 = .ok (.ireturn, 1) := by decide +kernel
theorem dX3_call_53 : decode cX3_call 53 = .ok (.aload_n 0, 1) := by decide +kernel
theorem dX3_call_54 : decode cX3_call 54 = .ok (.iload_n 1, 1) := by decide +kernel
theorem dX3_call_55 : decode cX3_call 55 = .ok (.aload_n 0, 1) := by decide +kernel
theorem dX3_call_56 : decode cX3_call 56 = .ok (.getfield 101, 3) := by decide +kernel
theorem dX3_call_59 : decode cX3_call 59 = .ok (.iload_n 2, 1) := by decide +kernel
theorem dX3_call_60 : decode cX3_call 60 = .ok (.iadd, 1) := by decide +kernel
theorem dX3_call_61 : decode cX3_call 61 = .ok (.iconst (-1), 1) := by decide +kernel
theorem dX3_call_62 : decode cX3_call 62 = .ok (.invokevirtual 121, 3) := by decide +kernel
theorem dX3_call_65 : decode cX3_call 65 = .ok (.aload_n 0, 1) := by decide +kernel
theorem dX3_call_66 : decode cX3_call 66 = .ok (.getfield 94, 3) := by decide +kernel
theorem dX3_call_69 : decode cX3_call 69 = .ok (.iconst 1, 1) := by decide +kernel
theorem dX3_call_70 : decode cX3_call 70 = .ok (.isub, 1) := by decide +kernel
theorem dX3_call_71 : decode cX3_call 71 = .ok (.ireturn, 1) := by decide +kernel
theorem dX3_cancel_0 : decode cX3_cancel 0 = .ok (.aload_n 0, 1) := by decide +kernel
theorem dX3_cancel_1 : decode cX3_cancel 1 = .ok (.aload_n 0, 1) := by decide +kernel
theorem dX3_cancel_2 : decode cX3_cancel 2 = .ok (.iload_n 1, 1) := by decide +kernel
theorem dX3_cancel_3 : decode cX3_cancel 3 = .ok (.invokevirtual 125, 3) := by decide +kernel
theorem dX3_cancel_6 : decode cX3_cancel 6 = .ok (.ifCond .ne 7, 3) := by decide +kernel
theorem dX3_cancel_9 : decode cX3_cancel 9 = .ok (.iconst 1, 1) := by decide +kernel
theorem dX3_cancel_10 : decode cX3_cancel 10 = .ok (.goto 26, 3) := by decide +kernel
theorem dX3_cancel_13 : decode cX3_cancel 13 = .ok (.aload_n 0, 1) := by decide +kernel
theorem dX3_cancel_14 : decode cX3_cancel 14 = .ok (.iload_n 1, 1) := by decide +kernel
theorem dX3_cancel_15 : decode cX3_cancel 15 = .ok (.invokevirtual 104, 3) := by decide +kernel
theorem dX3_cancel_18 : decode cX3_cancel 18 = .ok (.ifCond .ne 13, 3) := by decide +kernel
theorem dX3_cancel_21 : decode cX3_cancel 21 = .ok (.aload_n 0, 1) := by decide +kernel
theorem dX3_cancel_22 : decode cX3_cancel 22 = .ok (.getfield 49, 3) := by decide +kernel
theorem dX3_cancel_25 : decode cX3_cancel 25 = .ok (.iload_n 1, 1) := by decide +kernel
theorem dX3_cancel_26 : decode cX3_cancel 26 = .ok (.iaload, 1) := by decide +kernel
theorem dX3_cancel_27 : decode cX3_cancel 27 = .ok (.iconst (-1), 1) := by decide +kernel
theorem dX3_cancel_28 : decode cX3_cancel 28 = .ok (.if_icmp .eq 7, 3) := by decide +kernel
theorem dX3_cancel_31 : decode cX3_cancel 31 = .ok (.iconst 2, 1) := by decide +kernel
theorem dX3_cancel_32 : decode cX3_cancel 32 = .ok (.goto 4, 3) := by decide +kernel
theorem dX3_cancel_35 : decode cX3_cancel 35 = .ok (.iconst 0, 1) := by decide +kernel
theorem dX3_cancel_36 : decode cX3_cancel 36 = .ok (.putfield 86, 3) := by decide +kernel
theorem dX3_cancel_39 : decode cX3_cancel 39 = .ok (.aload_n 0, 1) := by decide +kernel
theorem dX3_cancel_40 : decode cX3_cancel 40 = .ok (.getfield 86, 3) := by decide +kernel
theorem dX3_cancel_43 : decode cX3_cancel 43 = .ok (.ifCond .le 7, 3) := by decide +kernel
theorem dX3_cancel_46 : decode cX3_cancel 46 = .ok (.iconst 0, 1) := by decide +kernel
theorem dX3_cancel_47 : decode cX3_cancel 47 = .ok (.goto 12, 3) := by decide +kernel
theorem dX3_cancel_50 : decode cX3_cancel 50 = .ok (.aload_n 0, 1) := by decide +kernel
theorem dX3_cancel_51 : decode cX3_cancel 51 = .ok (.iload_n 1, 1) := by decide +kernel
theorem dX3_cancel_52 : decode cX3_cancel 52 = .ok (.bipush 7, 2) := by decide +kernel
theorem dX3_cancel_54 : decode cX3_cancel 54 = .ok (.invokevirtual 114, 3) := by decide +kernel
theorem dX3_cancel_57 : decode cX3_cancel 57 = .ok (.iconst 1, 1) := by decide +kernel
theorem dX3_cancel_58 : decode cX3_cancel 58 = .ok (.iadd, 1) := by decide +kernel
theorem dX3_cancel_59 : decode cX3_cancel 59 = .ok (.ireturn, 1) := by decide +kernel
theorem dX3_late_0 : decode cX3_late 0 = .ok (.iconst 0, 1) := by decide +kernel
theorem dX3_late_1 : decode cX3_late 1 = .ok (.istore_n 1, 1) := by decide +kernel
theorem dX3_late_2 : decode cX3_late 2 = .ok (.iload_n 1, 1) := by decide +kernel
theorem dX3_late_3 : decode cX3_late 3 = .ok (.aload_n 0, 1) := by decide +kernel
theorem dX3_late_4 : decode cX3_late 4 = .ok (.getfield 94, 3) := by decide +kernel
theorem dX3_late_7 : decode cX3_late 7 = .ok (.if_icmp .ge 47, 3) := by decide +kernel
theorem dX3_late_10 : decode cX3_late 10 = .ok (.aload_n 0, 1) := by decide +kernel
theorem dX3_late_11 : decode cX3_late 11 = .ok (.iload_n 1, 1) := by decide +kernel
theorem dX3_late_12 : decode cX3_late 12 = .ok (.invokevirtual 104, 3) := by decide +kernel
theorem dX3_late_15 : decode cX3_late 15 = .ok (.ifCond .ne 33, 3) := by decide +kernel
theorem dX3_late_18 : decode cX3_late 18 = .ok (.aload_n 0, 1) := by decide +kernel
theorem dX3_late_19 : decode cX3_late 19 = .ok (.getfield 46, 3) := by decide +kernel
theorem dX3_late_22 : decode cX3_late 22 = .ok (.iload_n 1, 1) := by decide +kernel
theorem dX3_late_23 : decode cX3_late 23 = .ok (.iaload, 1) := by decide +kernel
theorem dX3_late_24 : decode cX3_late 24 = .ok (.aload_n 0, 1) := by decide +kernel
theorem dX3_late_25 : decode cX3_late 25 = .ok (.getfield 101, 3) := by decide +kernel
theorem dX3_late_28 : decode cX3_late 28 = .ok (.if_icmp .gt 20, 3) := by decide +kernel
theorem dX3_late_31 : decode cX3_late 31 = .ok (.aload_n 0, 1) := by decide +kernel
theorem dX3_late_32 : decode cX3_late 32 = .ok (.iload_n 1, 1) := by decide +kernel
theorem dX3_late_33 : decode cX3_late 33 = .ok (.iconst 5, 1) := by decide +kernel
theorem dX3_late_34 : decode cX3_late 34 = .ok (.invokevirtual 114, 3) := by decide +kernel
theorem dX3_late_37 : decode cX3_late 37 = .ok (.pop, 1) := by decide +kernel
theorem dX3_late_38 : decode cX3_late 38 = .ok (.aload_n 0, 1) := by decide +kernel
theorem dX3_late_39 : decode cX3_late 39 = .ok (.aload_n 0, 1) := by decide +kernel
theorem dX3_late_40 : decode cX3_late 40 = .ok (.getfield 43, 3) := by decide +kernel
theorem dX3_late_43 : decode cX3_late 43 = .ok (.iload_n 1, 1) := by decide +kernel
theorem dX3_late_44 : decode cX3_late 44 = .ok (.iaload, 1) := by decide +kernel
theorem dX3_late_45 : decode cX3_late 45 = .ok (.invokevirtual 128, 3) := by decide +kernel
theorem dX3_late_48 : decode cX3_late 48 = .ok (.iinc 1 1, 3) := by decide +kernel
theorem dX3_late_51 : decode cX3_late 51 = .ok (.goto (-49), 3) := by decide +kernel
theorem dX3_late_54 : decode cX3_late 54 = .ok (.return_, 1) := by decide +kernel
theorem dX3_startsAsking_0 : decode cX3_startsAsking 0 = .ok (.aload_n 0, 1) := by decide +kernel
theorem dX3_startsAsking_1 : decode cX3_startsAsking 1 = .ok (.getfield 43, 3) := by decide +kernel
theorem dX3_startsAsking_4 : decode cX3_startsAsking 4 = .ok (.iload_n 1, 1) := by decide +kernel
theorem dX3_startsAsking_5 : decode cX3_startsAsking 5 = .ok (.iaload, 1) := by decide +kernel
theorem dX3_startsAsking_6 : decode cX3_startsAsking 6 = .ok (.istore_n 2, 1) := by decide +kernel
theorem dX3_startsAsking_7 : decode cX3_startsAsking 7 = .ok (.aload_n 0, 1) := by decide +kernel
theorem dX3_startsAsking_8 : decode cX3_startsAsking 8 = .ok (.getfield 52, 3) := by decide +kernel
theorem dX3_startsAsking_11 : decode cX3_startsAsking 11 = .ok (.iload_n 1, 1) := by decide +kernel
theorem dX3_startsAsking_12 : decode cX3_startsAsking 12 = .ok (.iconst 2, 1) := by decide +kernel
theorem dX3_startsAsking_13 : decode cX3_startsAsking 13 = .ok (.iastore, 1) := by decide +kernel
theorem dX3_startsAsking_14 : decode cX3_startsAsking 14 = .ok (.iconst 0, 1) := by decide +kernel
theorem dX3_startsAsking_15 : decode cX3_startsAsking 15 = .ok (.istore_n 3, 1) := by decide +kernel
theorem dX3_startsAsking_16 : decode cX3_startsAsking 16 = .ok (.iload_n 3, 1) := by decide +kernel
theorem dX3_startsAsking_17 : decode cX3_startsAsking 17 = .ok (.iconst 3, 1) := by decide +kernel
theorem dX3_startsAsking_18 : decode cX3_startsAsking 18 = .ok (.if_icmp .ge 29, 3) := by decide +kernel
theorem dX3_startsAsking_21 : decode cX3_startsAsking 21 = .ok (.aload_n 0, 1) := by decide +kernel
theorem dX3_startsAsking_22 : decode cX3_startsAsking 22 = .ok (.getfield 67, 3) := by decide +kernel
theorem dX3_startsAsking_25 : decode cX3_startsAsking 25 = .ok (.iconst 3, 1) := by decide +kernel
theorem dX3_startsAsking_26 : decode cX3_startsAsking 26 = .ok (.iload_n 1, 1) := by decide +kernel
theorem dX3_startsAsking_27 : decode cX3_startsAsking 27 = .ok (.imul, 1) := by decide +kernel
theorem dX3_startsAsking_28 : decode cX3_startsAsking 28 = .ok (.iload_n 3, 1) := by decide +kernel
theorem dX3_startsAsking_29 : decode cX3_startsAsking 29 = .ok (.iadd, 1) := by decide +kernel
theorem dX3_startsAsking_30 : decode cX3_startsAsking 30 = .ok (.aload_n 0, 1) := by decide +kernel
theorem dX3_startsAsking_31 : decode cX3_startsAsking 31 = .ok (.getfield 22, 3) := by decide +kernel
theorem dX3_startsAsking_34 : decode cX3_startsAsking 34 = .ok (.iconst 3, 1) := by decide +kernel
theorem dX3_startsAsking_35 : decode cX3_startsAsking 35 = .ok (.iload_n 2, 1) := by decide +kernel
theorem dX3_startsAsking_36 : decode cX3_startsAsking 36 = .ok (.imul, 1) := by decide +kernel
theorem dX3_startsAsking_37 : decode cX3_startsAsking 37 = .ok (.iload_n 3, 1) := by decide +kernel
theorem dX3_startsAsking_38 : decode cX3_startsAsking 38 = .ok (.iadd, 1) := by decide +kernel
theorem dX3_startsAsking_39 : decode cX3_startsAsking 39 = .ok (.iaload, 1) := by decide +kernel
theorem dX3_startsAsking_40 : decode cX3_startsAsking 40 = .ok (.iastore, 1) := by decide +kernel
theorem dX3_startsAsking_41 : decode cX3_startsAsking 41 = .ok (.iinc 3 1, 3) := by decide +kernel
theorem dX3_startsAsking_44 : decode cX3_startsAsking 44 = .ok (.goto (-28), 3) := by decide +kernel
theorem dX3_startsAsking_47 : decode cX3_startsAsking 47 = .ok (.aload_n 0, 1) := by decide +kernel
theorem dX3_startsAsking_48 : decode cX3_startsAsking 48 = .ok (.getfield 70, 3) := by decide +kernel
theorem dX3_startsAsking_51 : decode cX3_startsAsking 51 = .ok (.iload_n 1, 1) := by decide +kernel
theorem dX3_startsAsking_52 : decode cX3_startsAsking 52 = .ok (.aload_n 0, 1) := by decide +kernel
theorem dX3_startsAsking_53 : decode cX3_startsAsking 53 = .ok (.getfield 19, 3) := by decide +kernel
theorem dX3_startsAsking_56 : decode cX3_startsAsking 56 = .ok (.iload_n 2, 1) := by decide +kernel
theorem dX3_startsAsking_57 : decode cX3_startsAsking 57 = .ok (.iaload, 1) := by decide +kernel
theorem dX3_startsAsking_58 : decode cX3_startsAsking 58 = .ok (.iastore, 1) := by decide +kernel
theorem dX3_startsAsking_59 : decode cX3_startsAsking 59 = .ok (.aload_n 0, 1) := by decide +kernel
theorem dX3_startsAsking_60 : decode cX3_startsAsking 60 = .ok (.getfield 73, 3) := by decide +kernel
theorem dX3_startsAsking_63 : decode cX3_startsAsking 63 = .ok (.iload_n 1, 1) := by decide +kernel
theorem dX3_startsAsking_64 : decode cX3_startsAsking 64 = .ok (.iconst 0, 1) := by decide +kernel
theorem dX3_startsAsking_65 : decode cX3_startsAsking 65 = .ok (.iastore, 1) := by decide +kernel
theorem dX3_startsAsking_66 : decode cX3_startsAsking 66 = .ok (.aload_n 0, 1) := by decide +kernel
theorem dX3_startsAsking_67 : decode cX3_startsAsking 67 = .ok (.getfield 76, 3) := by decide +kernel
theorem dX3_startsAsking_70 : decode cX3_startsAsking 70 = .ok (.iload_n 1, 1) := by decide +kernel
theorem dX3_startsAsking_71 : decode cX3_startsAsking 71 = .ok (.iconst 0, 1) := by decide +kernel
theorem dX3_startsAsking_72 : decode cX3_startsAsking 72 = .ok (.iastore, 1) := by decide +kernel
theorem dX3_startsAsking_73 : decode cX3_startsAsking 73 = .ok (.aload_n 0, 1) := by decide +kernel
theorem dX3_startsAsking_74 : decode cX3_startsAsking 74 = .ok (.getfield 79, 3) := by decide +kernel
theorem dX3_startsAsking_77 : decode cX3_startsAsking 77 = .ok (.iload_n 1, 1) := by decide +kernel
theorem dX3_startsAsking_78 : decode cX3_startsAsking 78 = .ok (.iconst 1, 1) := by decide +kernel
theorem dX3_startsAsking_79 : decode cX3_startsAsking 79 = .ok (.bastore, 1) := by decide +kernel
theorem dX3_startsAsking_80 : decode cX3_startsAsking 80 = .ok (.return_, 1) := by decide +kernel
theorem dX3_worksOut_0 : decode cX3_worksOut 0 = .ok (.iconst 0, 1) := by decide +kernel
theorem dX3_worksOut_1 : decode cX3_worksOut 1 = .ok (.istore_n 1, 1) := by decide +kernel
theorem dX3_worksOut_2 : decode cX3_worksOut 2 = .ok (.iload_n 1, 1) := by decide +kernel
theorem dX3_worksOut_3 : decode cX3_worksOut 3 = .ok (.aload_n 0, 1) := by decide +kernel
theorem dX3_worksOut_4 : decode cX3_worksOut 4 = .ok (.getfield 94, 3) := by decide +kernel
theorem dX3_worksOut_7 : decode cX3_worksOut 7 = .ok (.if_icmp .ge 113, 3) := by decide +kernel
theorem dX3_worksOut_10 : decode cX3_worksOut 10 = .ok (.aload_n 0, 1) := by decide +kernel
theorem dX3_worksOut_11 : decode cX3_worksOut 11 = .ok (.getfield 52, 3) := by decide +kernel
theorem dX3_worksOut_14 : decode cX3_worksOut 14 = .ok (.iload_n 1, 1) := by decide +kernel
theorem dX3_worksOut_15 : decode cX3_worksOut 15 = .ok (.iaload, 1) := by decide +kernel
theorem dX3_worksOut_16 : decode cX3_worksOut 16 = .ok (.iconst 1, 1) := by decide +kernel
theorem dX3_worksOut_17 : decode cX3_worksOut 17 = .ok (.if_icmp .ne 97, 3) := by decide +kernel
theorem dX3_worksOut_20 : decode cX3_worksOut 20 = .ok (.aload_n 0, 1) := by decide +kernel
theorem dX3_worksOut_21 : decode cX3_worksOut 21 = .ok (.getfield 55, 3) := by decide +kernel
theorem dX3_worksOut_24 : decode cX3_worksOut 24 = .ok (.iload_n 1, 1) := by decide +kernel
theorem dX3_worksOut_25 : decode cX3_worksOut 25 = .ok (.iaload, 1) := by decide +kernel
theorem dX3_worksOut_26 : decode cX3_worksOut 26 = .ok (.aload_n 0, 1) := by decide +kernel
theorem dX3_worksOut_27 : decode cX3_worksOut 27 = .ok (.getfield 101, 3) := by decide +kernel
theorem dX3_worksOut_30 : decode cX3_worksOut 30 = .ok (.if_icmp .gt 84, 3) := by decide +kernel
theorem dX3_worksOut_33 : decode cX3_worksOut 33 = .ok (.aload_n 0, 1) := by decide +kernel
theorem dX3_worksOut_34 : decode cX3_worksOut 34 = .ok (.getfield 43, 3) := by decide +kernel
theorem dX3_worksOut_37 : decode cX3_worksOut 37 = .ok (.iload_n 1, 1) := by decide +kernel
theorem dX3_worksOut_38 : decode cX3_worksOut 38 = .ok (.iaload, 1) := by decide +kernel
theorem dX3_worksOut_39 : decode cX3_worksOut 39 = .ok (.istore_n 2, 1) := by decide +kernel
theorem dX3_worksOut_40 : decode cX3_worksOut 40 = .ok (.aload_n 0, 1) := by decide +kernel
theorem dX3_worksOut_41 : decode cX3_worksOut 41 = .ok (.getfield 16, 3) := by decide +kernel
theorem dX3_worksOut_44 : decode cX3_worksOut 44 = .ok (.iload_n 2, 1) := by decide +kernel
theorem dX3_worksOut_45 : decode cX3_worksOut 45 = .ok (.dup2, 1) := by decide +kernel
theorem dX3_worksOut_46 : decode cX3_worksOut 46 = .ok (.iaload, 1) := by decide +kernel
theorem dX3_worksOut_47 : decode cX3_worksOut 47 = .ok (.iconst 1, 1) := by decide +kernel
theorem dX3_worksOut_48 : decode cX3_worksOut 48 = .ok (.iadd, 1) := by decide +kernel
theorem dX3_worksOut_49 : decode cX3_worksOut 49 = .ok (.iastore, 1) := by decide +kernel
theorem dX3_worksOut_50 : decode cX3_worksOut 50 = .ok (.aload_n 0, 1) := by decide +kernel
theorem dX3_worksOut_51 : decode cX3_worksOut 51 = .ok (.getfield 13, 3) := by decide +kernel
theorem dX3_worksOut_54 : decode cX3_worksOut 54 = .ok (.iload_n 2, 1) := by decide +kernel
theorem dX3_worksOut_55 : decode cX3_worksOut 55 = .ok (.iaload, 1) := by decide +kernel
theorem dX3_worksOut_56 : decode cX3_worksOut 56 = .ok (.ifCond .le 34, 3) := by decide +kernel
theorem dX3_worksOut_59 : decode cX3_worksOut 59 = .ok (.aload_n 0, 1) := by decide +kernel
theorem dX3_worksOut_60 : decode cX3_worksOut 60 = .ok (.getfield 16, 3) := by decide +kernel
theorem dX3_worksOut_63 : decode cX3_worksOut 63 = .ok (.iload_n 2, 1) := by decide +kernel
theorem dX3_worksOut_64 : decode cX3_worksOut 64 = .ok (.iaload, 1) := by decide +kernel
theorem dX3_worksOut_65 : decode cX3_worksOut 65 = .ok (.aload_n 0, 1) := by decide +kernel
theorem dX3_worksOut_66 : decode cX3_worksOut 66 = .ok (.getfield 13, 3) := by decide +kernel
theorem dX3_worksOut_69 : decode cX3_worksOut 69 = .ok (.iload_n 2, 1) := by decide +kernel
theorem dX3_worksOut_70 : decode cX3_worksOut 70 = .ok (.iaload, 1) := by decide +kernel
theorem dX3_worksOut_71 : decode cX3_worksOut 71 = .ok (.irem, 1) := by decide +kernel
theorem dX3_worksOut_72 : decode cX3_worksOut 72 = .ok (.ifCond .ne 18, 3) := by decide +kernel
theorem dX3_worksOut_75 : decode cX3_worksOut 75 = .ok (.aload_n 0, 1) := by decide +kernel
theorem dX3_worksOut_76 : decode cX3_worksOut 76 = .ok (.iload_n 1, 1) := by decide +kernel
theorem dX3_worksOut_77 : decode cX3_worksOut 77 = .ok (.iconst 4, 1) := by decide +kernel
theorem dX3_worksOut_78 : decode cX3_worksOut 78 = .ok (.invokevirtual 114, 3) := by decide +kernel
theorem dX3_worksOut_81 : decode cX3_worksOut 81 = .ok (.pop, 1) := by decide +kernel
theorem dX3_worksOut_82 : decode cX3_worksOut 82 = .ok (.aload_n 0, 1) := by decide +kernel
theorem dX3_worksOut_83 : decode cX3_worksOut 83 = .ok (.iload_n 2, 1) := by decide +kernel
theorem dX3_worksOut_84 : decode cX3_worksOut 84 = .ok (.invokevirtual 128, 3) := by decide +kernel
theorem dX3_worksOut_87 : decode cX3_worksOut 87 = .ok (.goto 27, 3) := by decide +kernel
theorem dX3_worksOut_90 : decode cX3_worksOut 90 = .ok (.aload_n 0, 1) := by decide +kernel
theorem dX3_worksOut_91 : decode cX3_worksOut 91 = .ok (.getfield 19, 3) := by decide +kernel
theorem dX3_worksOut_94 : decode cX3_worksOut 94 = .ok (.iload_n 2, 1) := by decide +kernel
theorem dX3_worksOut_95 : decode cX3_worksOut 95 = .ok (.iaload, 1) := by decide +kernel
theorem dX3_worksOut_96 : decode cX3_worksOut 96 = .ok (.ifCond .ne 13, 3) := by decide +kernel
theorem dX3_worksOut_99 : decode cX3_worksOut 99 = .ok (.aload_n 0, 1) := by decide +kernel
theorem dX3_worksOut_100 : decode cX3_worksOut 100 = .ok (.iload_n 1, 1) := by decide +kernel
theorem dX3_worksOut_101 : decode cX3_worksOut 101 = .ok (.iconst 3, 1) := by decide +kernel
theorem dX3_worksOut_102 : decode cX3_worksOut 102 = .ok (.invokevirtual 114, 3) := by decide +kernel
theorem dX3_worksOut_105 : decode cX3_worksOut 105 = .ok (.pop, 1) := by decide +kernel
theorem dX3_worksOut_106 : decode cX3_worksOut 106 = .ok (.goto 8, 3) := by decide +kernel
theorem dX3_worksOut_109 : decode cX3_worksOut 109 = .ok (.aload_n 0, 1) := by decide +kernel
theorem dX3_worksOut_110 : decode cX3_worksOut 110 = .ok (.iload_n 1, 1) := by decide +kernel
theorem dX3_worksOut_111 : decode cX3_worksOut 111 = .ok (.invokevirtual 131, 3) := by decide +kernel
theorem dX3_worksOut_114 : decode cX3_worksOut 114 = .ok (.iinc 1 1, 3) := by decide +kernel
theorem dX3_worksOut_117 : decode cX3_worksOut 117 = .ok (.goto (-115), 3) := by decide +kernel
theorem dX3_worksOut_120 : decode cX3_worksOut 120 = .ok (.return_, 1) := by decide +kernel
theorem dX3_isTry_0 : decode cX3_isTry 0 = .ok (.aload_n 0, 1) := by decide +kernel
theorem dX3_isTry_1 : decode cX3_isTry 1 = .ok (.getfield 49, 3) := by decide +kernel
theorem dX3_isTry_4 : decode cX3_isTry 4 = .ok (.iload_n 1, 1) := by decide +kernel
theorem dX3_isTry_5 : decode cX3_isTry 5 = .ok (.iaload, 1) := by decide +kernel
theorem dX3_isTry_6 : decode cX3_isTry 6 = .ok (.iload_n 2, 1) := by decide +kernel
theorem dX3_isTry_7 : decode cX3_isTry 7 = .ok (.if_icmp .ne 22, 3) := by decide +kernel
theorem dX3_isTry_10 : decode cX3_isTry 10 = .ok (.aload_n 0, 1) := by decide +kernel
theorem dX3_isTry_11 : decode cX3_isTry 11 = .ok (.getfield 64, 3) := by decide +kernel
theorem dX3_isTry_14 : decode cX3_isTry 14 = .ok (.iload_n 1, 1) := by decide +kernel
theorem dX3_isTry_15 : decode cX3_isTry 15 = .ok (.iaload, 1) := by decide +kernel
theorem dX3_isTry_16 : decode cX3_isTry 16 = .ok (.aload_n 0, 1) := by decide +kernel
theorem dX3_isTry_17 : decode cX3_isTry 17 = .ok (.getfield 73, 3) := by decide +kernel
theorem dX3_isTry_20 : decode cX3_isTry 20 = .ok (.iload_n 2, 1) := by decide +kernel
theorem dX3_isTry_21 : decode cX3_isTry 21 = .ok (.iaload, 1) := by decide +kernel
theorem dX3_isTry_22 : decode cX3_isTry 22 = .ok (.if_icmp .ne 7, 3) := by decide +kernel
theorem dX3_isTry_25 : decode cX3_isTry 25 = .ok (.iconst 1, 1) := by decide +kernel
theorem dX3_isTry_26 : decode cX3_isTry 26 = .ok (.goto 4, 3) := by decide +kernel
theorem dX3_isTry_29 : decode cX3_isTry 29 = .ok (.iconst 0, 1) := by decide +kernel
theorem dX3_isTry_30 : decode cX3_isTry 30 = .ok (.ireturn, 1) := by decide +kernel
theorem dX3_goesOn_0 : decode cX3_goesOn 0 = .ok (.iload_n 1, 1) := by decide +kernel
theorem dX3_goesOn_1 : decode cX3_goesOn 1 = .ok (.iconst 1, 1) := by decide +kernel
theorem dX3_goesOn_2 : decode cX3_goesOn 2 = .ok (.iadd, 1) := by decide +kernel
theorem dX3_goesOn_3 : decode cX3_goesOn 3 = .ok (.istore_n 2, 1) := by decide +kernel
theorem dX3_goesOn_4 : decode cX3_goesOn 4 = .ok (.iload_n 2, 1) := by decide +kernel
theorem dX3_goesOn_5 : decode cX3_goesOn 5 = .ok (.aload_n 0, 1) := by decide +kernel
theorem dX3_goesOn_6 : decode cX3_goesOn 6 = .ok (.getfield 94, 3) := by decide +kernel
theorem dX3_goesOn_9 : decode cX3_goesOn 9 = .ok (.if_icmp .ge 34, 3) := by decide +kernel
theorem dX3_goesOn_12 : decode cX3_goesOn 12 = .ok (.aload_n 0, 1) := by decide +kernel
theorem dX3_goesOn_13 : decode cX3_goesOn 13 = .ok (.iload_n 2, 1) := by decide +kernel
theorem dX3_goesOn_14 : decode cX3_goesOn 14 = .ok (.iload_n 1, 1) := by decide +kernel
theorem dX3_goesOn_15 : decode cX3_goesOn 15 = .ok (.invokevirtual 134, 3) := by decide +kernel
theorem dX3_goesOn_18 : decode cX3_goesOn 18 = .ok (.ifCond .eq 19, 3) := by decide +kernel
theorem dX3_goesOn_21 : decode cX3_goesOn 21 = .ok (.aload_n 0, 1) := by decide +kernel
theorem dX3_goesOn_22 : decode cX3_goesOn 22 = .ok (.iload_n 2, 1) := by decide +kernel
theorem dX3_goesOn_23 : decode cX3_goesOn 23 = .ok (.invokevirtual 104, 3) := by decide +kernel
theorem dX3_goesOn_26 : decode cX3_goesOn 26 = .ok (.ifCond .ne 11, 3) := by decide +kernel
theorem dX3_goesOn_29 : decode cX3_goesOn 29 = .ok (.aload_n 0, 1) := by decide +kernel
theorem dX3_goesOn_30 : decode cX3_goesOn 30 = .ok (.iload_n 2, 1) := by decide +kernel
theorem dX3_goesOn_31 : decode cX3_goesOn 31 = .ok (.bipush 7, 2) := by decide +kernel
theorem dX3_goesOn_33 : decode cX3_goesOn 33 = .ok (.invokevirtual 114, 3) := by decide +kernel
theorem dX3_goesOn_36 : decode cX3_goesOn 36 = .ok (.pop, 1) := by decide +kernel
theorem dX3_goesOn_37 : decode cX3_goesOn 37 = .ok (.iinc 2 1, 3) := by decide +kernel
theorem dX3_goesOn_40 : decode cX3_goesOn 40 = .ok (.goto (-36), 3) := by decide +kernel
theorem dX3_goesOn_43 : decode cX3_goesOn 43 = .ok (.aload_n 0, 1) := by decide +kernel
theorem dX3_goesOn_44 : decode cX3_goesOn 44 = .ok (.getfield 73, 3) := by decide +kernel
theorem dX3_goesOn_47 : decode cX3_goesOn 47 = .ok (.iload_n 1, 1) := by decide +kernel
theorem dX3_goesOn_48 : decode cX3_goesOn 48 = .ok (.dup2, 1) := by decide +kernel
theorem dX3_goesOn_49 : decode cX3_goesOn 49 = .ok (.iaload, 1) := by decide +kernel
theorem dX3_goesOn_50 : decode cX3_goesOn 50 = .ok (.iconst 1, 1) := by decide +kernel
theorem dX3_goesOn_51 : decode cX3_goesOn 51 = .ok (.iadd, 1) := by decide +kernel
theorem dX3_goesOn_52 : decode cX3_goesOn 52 = .ok (.iastore, 1) := by decide +kernel
theorem dX3_goesOn_53 : decode cX3_goesOn 53 = .ok (.aload_n 0, 1) := by decide +kernel
theorem dX3_goesOn_54 : decode cX3_goesOn 54 = .ok (.getfield 76, 3) := by decide +kernel
theorem dX3_goesOn_57 : decode cX3_goesOn 57 = .ok (.iload_n 1, 1) := by decide +kernel
theorem dX3_goesOn_58 : decode cX3_goesOn 58 = .ok (.iconst 0, 1) := by decide +kernel
theorem dX3_goesOn_59 : decode cX3_goesOn 59 = .ok (.iastore, 1) := by decide +kernel
theorem dX3_goesOn_60 : decode cX3_goesOn 60 = .ok (.aload_n 0, 1) := by decide +kernel
theorem dX3_goesOn_61 : decode cX3_goesOn 61 = .ok (.getfield 73, 3) := by decide +kernel
theorem dX3_goesOn_64 : decode cX3_goesOn 64 = .ok (.iload_n 1, 1) := by decide +kernel
theorem dX3_goesOn_65 : decode cX3_goesOn 65 = .ok (.iaload, 1) := by decide +kernel
theorem dX3_goesOn_66 : decode cX3_goesOn 66 = .ok (.aload_n 0, 1) := by decide +kernel
theorem dX3_goesOn_67 : decode cX3_goesOn 67 = .ok (.getfield 70, 3) := by decide +kernel
theorem dX3_goesOn_70 : decode cX3_goesOn 70 = .ok (.iload_n 1, 1) := by decide +kernel
theorem dX3_goesOn_71 : decode cX3_goesOn 71 = .ok (.iaload, 1) := by decide +kernel
theorem dX3_goesOn_72 : decode cX3_goesOn 72 = .ok (.if_icmp .ne 13, 3) := by decide +kernel
theorem dX3_goesOn_75 : decode cX3_goesOn 75 = .ok (.aload_n 0, 1) := by decide +kernel
theorem dX3_goesOn_76 : decode cX3_goesOn 76 = .ok (.iload_n 1, 1) := by decide +kernel
theorem dX3_goesOn_77 : decode cX3_goesOn 77 = .ok (.iconst 3, 1) := by decide +kernel
theorem dX3_goesOn_78 : decode cX3_goesOn 78 = .ok (.invokevirtual 114, 3) := by decide +kernel
theorem dX3_goesOn_81 : decode cX3_goesOn 81 = .ok (.pop, 1) := by decide +kernel
theorem dX3_goesOn_82 : decode cX3_goesOn 82 = .ok (.goto 10, 3) := by decide +kernel
theorem dX3_goesOn_85 : decode cX3_goesOn 85 = .ok (.aload_n 0, 1) := by decide +kernel
theorem dX3_goesOn_86 : decode cX3_goesOn 86 = .ok (.getfield 79, 3) := by decide +kernel
theorem dX3_goesOn_89 : decode cX3_goesOn 89 = .ok (.iload_n 1, 1) := by decide +kernel
theorem dX3_goesOn_90 : decode cX3_goesOn 90 = .ok (.iconst 1, 1) := by decide +kernel
theorem dX3_goesOn_91 : decode cX3_goesOn 91 = .ok (.bastore, 1) := by decide +kernel
theorem dX3_goesOn_92 : decode cX3_goesOn 92 = .ok (.return_, 1) := by decide +kernel
theorem dX3_looks_0 : decode cX3_looks 0 = .ok (.iconst 0, 1) := by decide +kernel
theorem dX3_looks_1 : decode cX3_looks 1 = .ok (.istore_n 2, 1) := by decide +kernel
theorem dX3_looks_2 : decode cX3_looks 2 = .ok (.iconst 0, 1) := by decide +kernel
theorem dX3_looks_3 : decode cX3_looks 3 = .ok (.istore_n 3, 1) := by decide +kernel
theorem dX3_looks_4 : decode cX3_looks 4 = .ok (.iconst 0, 1) := by decide +kernel
theorem dX3_looks_5 : decode cX3_looks 5 = .ok (.istore 4, 2) := by decide +kernel
theorem dX3_looks_7 : decode cX3_looks 7 = .ok (.iconst 1, 1) := by decide +kernel
theorem dX3_looks_8 : decode cX3_looks 8 = .ok (.istore 5, 2) := by decide +kernel
theorem dX3_looks_10 : decode cX3_looks 10 = .ok (.iload_n 1, 1) := by decide +kernel
theorem dX3_looks_11 : decode cX3_looks 11 = .ok (.iconst 1, 1) := by decide +kernel
theorem dX3_looks_12 : decode cX3_looks 12 = .ok (.iadd, 1) := by decide +kernel
theorem dX3_looks_13 : decode cX3_looks 13 = .ok (.istore 6, 2) := by decide +kernel
theorem dX3_looks_15 : decode cX3_looks 15 = .ok (.iload 6, 2) := by decide +kernel
theorem dX3_looks_17 : decode cX3_looks 17 = .ok (.aload_n 0, 1) := by decide +kernel
theorem dX3_looks_18 : decode cX3_looks 18 = .ok (.getfield 94, 3) := by decide +kernel
theorem dX3_looks_21 : decode cX3_looks 21 = .ok (.if_icmp .ge 82, 3) := by decide +kernel
theorem dX3_looks_24 : decode cX3_looks 24 = .ok (.aload_n 0, 1) := by decide +kernel
theorem dX3_looks_25 : decode cX3_looks 25 = .ok (.iload 6, 2) := by decide +kernel
theorem dX3_looks_27 : decode cX3_looks 27 = .ok (.iload_n 1, 1) := by decide +kernel
theorem dX3_looks_28 : decode cX3_looks 28 = .ok (.invokevirtual 134, 3) := by decide +kernel
theorem dX3_looks_31 : decode cX3_looks 31 = .ok (.ifCond .eq 66, 3) := by decide +kernel
theorem dX3_looks_34 : decode cX3_looks 34 = .ok (.iload_n 2, 1) := by decide +kernel
theorem dX3_looks_35 : decode cX3_looks 35 = .ok (.ifCond .ne 13, 3) := by decide +kernel
theorem dX3_looks_38 : decode cX3_looks 38 = .ok (.aload_n 0, 1) := by decide +kernel
theorem dX3_looks_39 : decode cX3_looks 39 = .ok (.getfield 61, 3) := by decide +kernel
theorem dX3_looks_42 : decode cX3_looks 42 = .ok (.iload 6, 2) := by decide +kernel
theorem dX3_looks_44 : decode cX3_looks 44 = .ok (.iaload, 1) := by decide +kernel
theorem dX3_looks_45 : decode cX3_looks 45 = .ok (.goto 4, 3) := by decide +kernel
theorem dX3_looks_48 : decode cX3_looks 48 = .ok (.iload_n 3, 1) := by decide +kernel
theorem dX3_looks_49 : decode cX3_looks 49 = .ok (.istore_n 3, 1) := by decide +kernel
theorem dX3_looks_50 : decode cX3_looks 50 = .ok (.iinc 2 1, 3) := by decide +kernel
theorem dX3_looks_53 : decode cX3_looks 53 = .ok (.iload 4, 2) := by decide +kernel
theorem dX3_looks_55 : decode cX3_looks 55 = .ok (.ifCond .ne 14, 3) := by decide +kernel
theorem dX3_looks_58 : decode cX3_looks 58 = .ok (.aload_n 0, 1) := by decide +kernel
theorem dX3_looks_59 : decode cX3_looks 59 = .ok (.getfield 52, 3) := by decide +kernel
theorem dX3_looks_62 : decode cX3_looks 62 = .ok (.iload 6, 2) := by decide +kernel
theorem dX3_looks_64 : decode cX3_looks 64 = .ok (.iaload, 1) := by decide +kernel
theorem dX3_looks_65 : decode cX3_looks 65 = .ok (.iconst 3, 1) := by decide +kernel
theorem dX3_looks_66 : decode cX3_looks 66 = .ok (.if_icmp .ne 7, 3) := by decide +kernel
theorem dX3_looks_69 : decode cX3_looks 69 = .ok (.iconst 1, 1) := by decide +kernel
theorem dX3_looks_70 : decode cX3_looks 70 = .ok (.goto 4, 3) := by decide +kernel
theorem dX3_looks_73 : decode cX3_looks 73 = .ok (.iconst 0, 1) := by decide +kernel
theorem dX3_looks_74 : decode cX3_looks 74 = .ok (.istore 4, 2) := by decide +kernel
theorem dX3_looks_76 : decode cX3_looks 76 = .ok (.iload 5, 2) := by decide +kernel
theorem dX3_looks_78 : decode cX3_looks 78 = .ok (.ifCond .eq 16, 3) := by decide +kernel
theorem dX3_looks_81 : decode cX3_looks 81 = .ok (.aload_n 0, 1) := by decide +kernel
theorem dX3_looks_82 : decode cX3_looks 82 = .ok (.iload 6, 2) := by decide +kernel
theorem dX3_looks_84 : decode cX3_looks 84 = .ok (.invokevirtual 104, 3) := by decide +kernel
theorem dX3_looks_87 : decode cX3_looks 87 = .ok (.ifCond .eq 7, 3) := by decide +kernel
theorem dX3_looks_90 : decode cX3_looks 90 = .ok (.iconst 1, 1) := by decide +kernel
theorem dX3_looks_91 : decode cX3_looks 91 = .ok (.goto 4, 3) := by decide +kernel
theorem dX3_looks_94 : decode cX3_looks 94 = .ok (.iconst 0, 1) := by decide +kernel
theorem dX3_looks_95 : decode cX3_looks 95 = .ok (.istore 5, 2) := by decide +kernel
theorem dX3_looks_97 : decode cX3_looks 97 = .ok (.iinc 6 1, 3) := by decide +kernel
theorem dX3_looks_100 : decode cX3_looks 100 = .ok (.goto (-85), 3) := by decide +kernel
theorem dX3_looks_103 : decode cX3_looks 103 = .ok (.aload_n 0, 1) := by decide +kernel
theorem dX3_looks_104 : decode cX3_looks 104 = .ok (.getfield 67, 3) := by decide +kernel
theorem dX3_looks_107 : decode cX3_looks 107 = .ok (.iconst 3, 1) := by decide +kernel
theorem dX3_looks_108 : decode cX3_looks 108 = .ok (.iload_n 1, 1) := by decide +kernel
theorem dX3_looks_109 : decode cX3_looks 109 = .ok (.imul, 1) := by decide +kernel
theorem dX3_looks_110 : decode cX3_looks 110 = .ok (.aload_n 0, 1) := by decide +kernel
theorem dX3_looks_111 : decode cX3_looks 111 = .ok (.getfield 73, 3) := by decide +kernel
theorem dX3_looks_114 : decode cX3_looks 114 = .ok (.iload_n 1, 1) := by decide +kernel
theorem dX3_looks_115 : decode cX3_looks 115 = .ok (.iaload, 1) := by decide +kernel
theorem dX3_looks_116 : decode cX3_looks 116 = .ok (.iadd, 1) := by decide +kernel
theorem dX3_looks_117 : decode cX3_looks 117 = .ok (.iaload, 1) := by decide +kernel
theorem dX3_looks_118 : decode cX3_looks 118 = .ok (.istore 6, 2) := by decide +kernel
theorem dX3_looks_120 : decode cX3_looks 120 = .ok (.iload 4, 2) := by decide +kernel
theorem dX3_looks_122 : decode cX3_looks 122 = .ok (.ifCond .eq 11, 3) := by decide +kernel
theorem dX3_looks_125 : decode cX3_looks 125 = .ok (.aload_n 0, 1) := by decide +kernel
theorem dX3_looks_126 : decode cX3_looks 126 = .ok (.iload_n 1, 1) := by decide +kernel
theorem dX3_looks_127 : decode cX3_looks 127 = .ok (.invokevirtual 138, 3) := by decide +kernel
theorem dX3_looks_130 : decode cX3_looks 130 = .ok (.goto 115, 3) := by decide +kernel
theorem dX3_looks_133 : decode cX3_looks 133 = .ok (.iload 5, 2) := by decide +kernel
theorem dX3_looks_135 : decode cX3_looks 135 = .ok (.ifCond .eq 57, 3) := by decide +kernel
theorem dX3_looks_138 : decode cX3_looks 138 = .ok (.aload_n 0, 1) := by decide +kernel
theorem dX3_looks_139 : decode cX3_looks 139 = .ok (.getfield 76, 3) := by decide +kernel
theorem dX3_looks_142 : decode cX3_looks 142 = .ok (.iload_n 1, 1) := by decide +kernel
theorem dX3_looks_143 : decode cX3_looks 143 = .ok (.iaload, 1) := by decide +kernel
theorem dX3_looks_144 : decode cX3_looks 144 = .ok (.iconst 2, 1) := by decide +kernel
theorem dX3_looks_145 : decode cX3_looks 145 = .ok (.if_icmp .ge 47, 3) := by decide +kernel
theorem dX3_looks_148 : decode cX3_looks 148 = .ok (.aload_n 0, 1) := by decide +kernel
theorem dX3_looks_149 : decode cX3_looks 149 = .ok (.getfield 34, 3) := by decide +kernel
theorem dX3_looks_152 : decode cX3_looks 152 = .ok (.iload 6, 2) := by decide +kernel
theorem dX3_looks_154 : decode cX3_looks 154 = .ok (.iaload, 1) := by decide +kernel
theorem dX3_looks_155 : decode cX3_looks 155 = .ok (.bipush 10, 2) := by decide +kernel
theorem dX3_looks_157 : decode cX3_looks 157 = .ok (.if_icmp .lt 35, 3) := by decide +kernel
theorem dX3_looks_160 : decode cX3_looks 160 = .ok (.aload_n 0, 1) := by decide +kernel
theorem dX3_looks_161 : decode cX3_looks 161 = .ok (.getfield 34, 3) := by decide +kernel
theorem dX3_looks_164 : decode cX3_looks 164 = .ok (.iload 6, 2) := by decide +kernel
theorem dX3_looks_166 : decode cX3_looks 166 = .ok (.dup2, 1) := by decide +kernel
theorem dX3_looks_167 : decode cX3_looks 167 = .ok (.iaload, 1) := by decide +kernel
theorem dX3_looks_168 : decode cX3_looks 168 = .ok (.bipush 10, 2) := by decide +kernel
theorem dX3_looks_170 : decode cX3_looks 170 = .ok (.isub, 1) := by decide +kernel
theorem dX3_looks_171 : decode cX3_looks 171 = .ok (.iastore, 1) := by decide +kernel
theorem dX3_looks_172 : decode cX3_looks 172 = .ok (.aload_n 0, 1) := by decide +kernel
theorem dX3_looks_173 : decode cX3_looks 173 = .ok (.getfield 76, 3) := by decide +kernel
theorem dX3_looks_176 : decode cX3_looks 176 = .ok (.iload_n 1, 1) := by decide +kernel
theorem dX3_looks_177 : decode cX3_looks 177 = .ok (.dup2, 1) := by decide +kernel
theorem dX3_looks_178 : decode cX3_looks 178 = .ok (.iaload, 1) := by decide +kernel
theorem dX3_looks_179 : decode cX3_looks 179 = .ok (.iconst 1, 1) := by decide +kernel
theorem dX3_looks_180 : decode cX3_looks 180 = .ok (.iadd, 1) := by decide +kernel
theorem dX3_looks_181 : decode cX3_looks 181 = .ok (.iastore, 1) := by decide +kernel
theorem dX3_looks_182 : decode cX3_looks 182 = .ok (.aload_n 0, 1) := by decide +kernel
theorem dX3_looks_183 : decode cX3_looks 183 = .ok (.getfield 79, 3) := by decide +kernel
theorem dX3_looks_186 : decode cX3_looks 186 = .ok (.iload_n 1, 1) := by decide +kernel
theorem dX3_looks_187 : decode cX3_looks 187 = .ok (.iconst 1, 1) := by decide +kernel
theorem dX3_looks_188 : decode cX3_looks 188 = .ok (.bastore, 1) := by decide +kernel
theorem dX3_looks_189 : decode cX3_looks 189 = .ok (.goto 56, 3) := by decide +kernel
theorem dX3_looks_192 : decode cX3_looks 192 = .ok (.iload 5, 2) := by decide +kernel
theorem dX3_looks_194 : decode cX3_looks 194 = .ok (.ifCond .eq 13, 3) := by decide +kernel
theorem dX3_looks_197 : decode cX3_looks 197 = .ok (.aload_n 0, 1) := by decide +kernel
theorem dX3_looks_198 : decode cX3_looks 198 = .ok (.iload_n 1, 1) := by decide +kernel
theorem dX3_looks_199 : decode cX3_looks 199 = .ok (.iconst 4, 1) := by decide +kernel
theorem dX3_looks_200 : decode cX3_looks 200 = .ok (.invokevirtual 114, 3) := by decide +kernel
theorem dX3_looks_203 : decode cX3_looks 203 = .ok (.pop, 1) := by decide +kernel
theorem dX3_looks_204 : decode cX3_looks 204 = .ok (.goto 41, 3) := by decide +kernel
theorem dX3_looks_207 : decode cX3_looks 207 = .ok (.iload_n 2, 1) := by decide +kernel
theorem dX3_looks_208 : decode cX3_looks 208 = .ok (.iconst 1, 1) := by decide +kernel
theorem dX3_looks_209 : decode cX3_looks 209 = .ok (.if_icmp .ne 36, 3) := by decide +kernel
theorem dX3_looks_212 : decode cX3_looks 212 = .ok (.aload_n 0, 1) := by decide +kernel
theorem dX3_looks_213 : decode cX3_looks 213 = .ok (.getfield 31, 3) := by decide +kernel
theorem dX3_looks_216 : decode cX3_looks 216 = .ok (.iload 6, 2) := by decide +kernel
theorem dX3_looks_218 : decode cX3_looks 218 = .ok (.iaload, 1) := by decide +kernel
theorem dX3_looks_219 : decode cX3_looks 219 = .ok (.ifCond .le 26, 3) := by decide +kernel
theorem dX3_looks_222 : decode cX3_looks 222 = .ok (.aload_n 0, 1) := by decide +kernel
theorem dX3_looks_223 : decode cX3_looks 223 = .ok (.getfield 101, 3) := by decide +kernel
theorem dX3_looks_226 : decode cX3_looks 226 = .ok (.iload_n 3, 1) := by decide +kernel
theorem dX3_looks_227 : decode cX3_looks 227 = .ok (.isub, 1) := by decide +kernel
theorem dX3_looks_228 : decode cX3_looks 228 = .ok (.aload_n 0, 1) := by decide +kernel
theorem dX3_looks_229 : decode cX3_looks 229 = .ok (.getfield 31, 3) := by decide +kernel
theorem dX3_looks_232 : decode cX3_looks 232 = .ok (.iload 6, 2) := by decide +kernel
theorem dX3_looks_234 : decode cX3_looks 234 = .ok (.iaload, 1) := by decide +kernel
theorem dX3_looks_235 : decode cX3_looks 235 = .ok (.if_icmp .lt 10, 3) := by decide +kernel
theorem dX3_looks_238 : decode cX3_looks 238 = .ok (.aload_n 0, 1) := by decide +kernel
theorem dX3_looks_239 : decode cX3_looks 239 = .ok (.getfield 79, 3) := by decide +kernel
theorem dX3_looks_242 : decode cX3_looks 242 = .ok (.iload_n 1, 1) := by decide +kernel
theorem dX3_looks_243 : decode cX3_looks 243 = .ok (.iconst 1, 1) := by decide +kernel
theorem dX3_looks_244 : decode cX3_looks 244 = .ok (.bastore, 1) := by decide +kernel
theorem dX3_looks_245 : decode cX3_looks 245 = .ok (.return_, 1) := by decide +kernel
theorem dX3_makesTries_0 : decode cX3_makesTries 0 = .ok (.aload_n 0, 1) := by decide +kernel
theorem dX3_makesTries_1 : decode cX3_makesTries 1 = .ok (.getfield 94, 3) := by decide +kernel
theorem dX3_makesTries_4 : decode cX3_makesTries 4 = .ok (.istore_n 1, 1) := by decide +kernel
theorem dX3_makesTries_5 : decode cX3_makesTries 5 = .ok (.iconst 0, 1) := by decide +kernel
theorem dX3_makesTries_6 : decode cX3_makesTries 6 = .ok (.istore_n 2, 1) := by decide +kernel
theorem dX3_makesTries_7 : decode cX3_makesTries 7 = .ok (.iload_n 2, 1) := by decide +kernel
theorem dX3_makesTries_8 : decode cX3_makesTries 8 = .ok (.iload_n 1, 1) := by decide +kernel
theorem dX3_makesTries_9 : decode cX3_makesTries 9 = .ok (.if_icmp .ge 39, 3) := by decide +kernel
theorem dX3_makesTries_12 : decode cX3_makesTries 12 = .ok (.aload_n 0, 1) := by decide +kernel
theorem dX3_makesTries_13 : decode cX3_makesTries 13 = .ok (.getfield 83, 3) := by decide +kernel
theorem dX3_makesTries_16 : decode cX3_makesTries 16 = .ok (.iload_n 2, 1) := by decide +kernel
theorem dX3_makesTries_17 : decode cX3_makesTries 17 = .ok (.aload_n 0, 1) := by decide +kernel
theorem dX3_makesTries_18 : decode cX3_makesTries 18 = .ok (.getfield 52, 3) := by decide +kernel
theorem dX3_makesTries_21 : decode cX3_makesTries 21 = .ok (.iload_n 2, 1) := by decide +kernel
theorem dX3_makesTries_22 : decode cX3_makesTries 22 = .ok (.iaload, 1) := by decide +kernel
theorem dX3_makesTries_23 : decode cX3_makesTries 23 = .ok (.iconst 2, 1) := by decide +kernel
theorem dX3_makesTries_24 : decode cX3_makesTries 24 = .ok (.if_icmp .ne 16, 3) := by decide +kernel
theorem dX3_makesTries_27 : decode cX3_makesTries 27 = .ok (.aload_n 0, 1) := by decide +kernel
theorem dX3_makesTries_28 : decode cX3_makesTries 28 = .ok (.getfield 79, 3) := by decide +kernel
theorem dX3_makesTries_31 : decode cX3_makesTries 31 = .ok (.iload_n 2, 1) := by decide +kernel
theorem dX3_makesTries_32 : decode cX3_makesTries 32 = .ok (.baload, 1) := by decide +kernel
theorem dX3_makesTries_33 : decode cX3_makesTries 33 = .ok (.ifCond .eq 7, 3) := by decide +kernel
theorem dX3_makesTries_36 : decode cX3_makesTries 36 = .ok (.iconst 1, 1) := by decide +kernel
theorem dX3_makesTries_37 : decode cX3_makesTries 37 = .ok (.goto 4, 3) := by decide +kernel
theorem dX3_makesTries_40 : decode cX3_makesTries 40 = .ok (.iconst 0, 1) := by decide +kernel
theorem dX3_makesTries_41 : decode cX3_makesTries 41 = .ok (.bastore, 1) := by decide +kernel
theorem dX3_makesTries_42 : decode cX3_makesTries 42 = .ok (.iinc 2 1, 3) := by decide +kernel
theorem dX3_makesTries_45 : decode cX3_makesTries 45 = .ok (.goto (-38), 3) := by decide +kernel
theorem dX3_makesTries_48 : decode cX3_makesTries 48 = .ok (.iconst 0, 1) := by decide +kernel
theorem dX3_makesTries_49 : decode cX3_makesTries 49 = .ok (.istore_n 2, 1) := by decide +kernel
theorem dX3_makesTries_50 : decode cX3_makesTries 50 = .ok (.iload_n 2, 1) := by decide +kernel
theorem dX3_makesTries_51 : decode cX3_makesTries 51 = .ok (.iload_n 1, 1) := by decide +kernel
theorem dX3_makesTries_52 : decode cX3_makesTries 52 = .ok (.if_icmp .ge 83, 3) := by decide +kernel
theorem dX3_makesTries_55 : decode cX3_makesTries 55 = .ok (.aload_n 0, 1) := by decide +kernel
theorem dX3_makesTries_56 : decode cX3_makesTries 56 = .ok (.getfield 83, 3) := by decide +kernel
theorem dX3_makesTries_59 : decode cX3_makesTries 59 = .ok (.iload_n 2, 1) := by decide +kernel
theorem dX3_makesTries_60 : decode cX3_makesTries 60 = .ok (.baload, 1) := by decide +kernel
theorem dX3_makesTries_61 : decode cX3_makesTries 61 = .ok (.ifCond .eq 68, 3) := by decide +kernel
theorem dX3_makesTries_64 : decode cX3_makesTries 64 = .ok (.aload_n 0, 1) := by decide +kernel
theorem dX3_makesTries_65 : decode cX3_makesTries 65 = .ok (.getfield 52, 3) := by decide +kernel
theorem dX3_makesTries_68 : decode cX3_makesTries 68 = .ok (.iload_n 2, 1) := by decide +kernel
theorem dX3_makesTries_69 : decode cX3_makesTries 69 = .ok (.iaload, 1) := by decide +kernel
theorem dX3_makesTries_70 : decode cX3_makesTries 70 = .ok (.iconst 2, 1) := by decide +kernel
theorem dX3_makesTries_71 : decode cX3_makesTries 71 = .ok (.if_icmp .ne 58, 3) := by decide +kernel
theorem dX3_makesTries_74 : decode cX3_makesTries 74 = .ok (.aload_n 0, 1) := by decide +kernel
theorem dX3_makesTries_75 : decode cX3_makesTries 75 = .ok (.getfield 79, 3) := by decide +kernel
theorem dX3_makesTries_78 : decode cX3_makesTries 78 = .ok (.iload_n 2, 1) := by decide +kernel
theorem dX3_makesTries_79 : decode cX3_makesTries 79 = .ok (.iconst 0, 1) := by decide +kernel
theorem dX3_makesTries_80 : decode cX3_makesTries 80 = .ok (.bastore, 1) := by decide +kernel
theorem dX3_makesTries_81 : decode cX3_makesTries 81 = .ok (.aload_n 0, 1) := by decide +kernel
theorem dX3_makesTries_82 : decode cX3_makesTries 82 = .ok (.getfield 94, 3) := by decide +kernel
theorem dX3_makesTries_85 : decode cX3_makesTries 85 = .ok (.sipush 200, 3) := by decide +kernel
theorem dX3_makesTries_88 : decode cX3_makesTries 88 = .ok (.if_icmp .ne 13, 3) := by decide +kernel
theorem dX3_makesTries_91 : decode cX3_makesTries 91 = .ok (.aload_n 0, 1) := by decide +kernel
theorem dX3_makesTries_92 : decode cX3_makesTries 92 = .ok (.iload_n 2, 1) := by decide +kernel
theorem dX3_makesTries_93 : decode cX3_makesTries 93 = .ok (.iconst 4, 1) := by decide +kernel
theorem dX3_makesTries_94 : decode cX3_makesTries 94 = .ok (.invokevirtual 114, 3) := by decide +kernel
theorem dX3_makesTries_97 : decode cX3_makesTries 97 = .ok (.pop, 1) := by decide +kernel
theorem dX3_makesTries_98 : decode cX3_makesTries 98 = .ok (.goto 31, 3) := by decide +kernel
theorem dX3_makesTries_101 : decode cX3_makesTries 101 = .ok (.aload_n 0, 1) := by decide +kernel
theorem dX3_makesTries_102 : decode cX3_makesTries 102 = .ok (.aload_n 0, 1) := by decide +kernel
theorem dX3_makesTries_103 : decode cX3_makesTries 103 = .ok (.getfield 67, 3) := by decide +kernel
theorem dX3_makesTries_106 : decode cX3_makesTries 106 = .ok (.iconst 3, 1) := by decide +kernel
theorem dX3_makesTries_107 : decode cX3_makesTries 107 = .ok (.iload_n 2, 1) := by decide +kernel
theorem dX3_makesTries_108 : decode cX3_makesTries 108 = .ok (.imul, 1) := by decide +kernel
theorem dX3_makesTries_109 : decode cX3_makesTries 109 = .ok (.aload_n 0, 1) := by decide +kernel
theorem dX3_makesTries_110 : decode cX3_makesTries 110 = .ok (.getfield 73, 3) := by decide +kernel
theorem dX3_makesTries_113 : decode cX3_makesTries 113 = .ok (.iload_n 2, 1) := by decide +kernel
theorem dX3_makesTries_114 : decode cX3_makesTries 114 = .ok (.iaload, 1) := by decide +kernel
theorem dX3_makesTries_115 : decode cX3_makesTries 115 = .ok (.iadd, 1) := by decide +kernel
theorem dX3_makesTries_116 : decode cX3_makesTries 116 = .ok (.iaload, 1) := by decide +kernel
theorem dX3_makesTries_117 : decode cX3_makesTries 117 = .ok (.aload_n 0, 1) := by decide +kernel
theorem dX3_makesTries_118 : decode cX3_makesTries 118 = .ok (.getfield 46, 3) := by decide +kernel
theorem dX3_makesTries_121 : decode cX3_makesTries 121 = .ok (.iload_n 2, 1) := by decide +kernel
theorem dX3_makesTries_122 : decode cX3_makesTries 122 = .ok (.iaload, 1) := by decide +kernel
theorem dX3_makesTries_123 : decode cX3_makesTries 123 = .ok (.iconst 1, 1) := by decide +kernel
theorem dX3_makesTries_124 : decode cX3_makesTries 124 = .ok (.isub, 1) := by decide +kernel
theorem dX3_makesTries_125 : decode cX3_makesTries 125 = .ok (.iload_n 2, 1) := by decide +kernel
theorem dX3_makesTries_126 : decode cX3_makesTries 126 = .ok (.invokevirtual 121, 3) := by decide +kernel
theorem dX3_makesTries_129 : decode cX3_makesTries 129 = .ok (.iinc 2 1, 3) := by decide +kernel
theorem dX3_makesTries_132 : decode cX3_makesTries 132 = .ok (.goto (-82), 3) := by decide +kernel
theorem dX3_makesTries_135 : decode cX3_makesTries 135 = .ok (.return_, 1) := by decide +kernel
theorem dX3_firstQueued_0 : decode cX3_firstQueued 0 = .ok (.iconst (-1), 1) := by decide +kernel
theorem dX3_firstQueued_1 : decode cX3_firstQueued 1 = .ok (.istore_n 2, 1) := by decide +kernel
theorem dX3_firstQueued_2 : decode cX3_firstQueued 2 = .ok (.aload_n 0, 1) := by decide +kernel
theorem dX3_firstQueued_3 : decode cX3_firstQueued 3 = .ok (.getfield 94, 3) := by decide +kernel
theorem dX3_firstQueued_6 : decode cX3_firstQueued 6 = .ok (.iconst 1, 1) := by decide +kernel
theorem dX3_firstQueued_7 : decode cX3_firstQueued 7 = .ok (.isub, 1) := by decide +kernel
theorem dX3_firstQueued_8 : decode cX3_firstQueued 8 = .ok (.istore_n 3, 1) := by decide +kernel
theorem dX3_firstQueued_9 : decode cX3_firstQueued 9 = .ok (.iload_n 3, 1) := by decide +kernel
theorem dX3_firstQueued_10 : decode cX3_firstQueued 10 = .ok (.ifCond .lt 34, 3) := by decide +kernel
theorem dX3_firstQueued_13 : decode cX3_firstQueued 13 = .ok (.aload_n 0, 1) := by decide +kernel
theorem dX3_firstQueued_14 : decode cX3_firstQueued 14 = .ok (.getfield 43, 3) := by decide +kernel
theorem dX3_firstQueued_17 : decode cX3_firstQueued 17 = .ok (.iload_n 3, 1) := by decide +kernel
theorem dX3_firstQueued_18 : decode cX3_firstQueued 18 = .ok (.iaload, 1) := by decide +kernel
theorem dX3_firstQueued_19 : decode cX3_firstQueued 19 = .ok (.iload_n 1, 1) := by decide +kernel
theorem dX3_firstQueued_20 : decode cX3_firstQueued 20 = .ok (.if_icmp .ne 16, 3) := by decide +kernel
theorem dX3_firstQueued_23 : decode cX3_firstQueued 23 = .ok (.aload_n 0, 1) := by decide +kernel
theorem dX3_firstQueued_24 : decode cX3_firstQueued 24 = .ok (.getfield 52, 3) := by decide +kernel
theorem dX3_firstQueued_27 : decode cX3_firstQueued 27 = .ok (.iload_n 3, 1) := by decide +kernel
theorem dX3_firstQueued_28 : decode cX3_firstQueued 28 = .ok (.iaload, 1) := by decide +kernel
theorem dX3_firstQueued_29 : decode cX3_firstQueued 29 = .ok (.ifCond .ne 7, 3) := by decide +kernel
theorem dX3_firstQueued_32 : decode cX3_firstQueued 32 = .ok (.iload_n 3, 1) := by decide +kernel
theorem dX3_firstQueued_33 : decode cX3_firstQueued 33 = .ok (.goto 4, 3) := by decide +kernel
theorem dX3_firstQueued_36 : decode cX3_firstQueued 36 = .ok (.iload_n 2, 1) := by decide +kernel
theorem dX3_firstQueued_37 : decode cX3_firstQueued 37 = .ok (.istore_n 2, 1) := by decide +kernel
theorem dX3_firstQueued_38 : decode cX3_firstQueued 38 = .ok (.iinc 3 (-1), 3) := by decide +kernel
theorem dX3_firstQueued_41 : decode cX3_firstQueued 41 = .ok (.goto (-32), 3) := by decide +kernel
theorem dX3_firstQueued_44 : decode cX3_firstQueued 44 = .ok (.iload_n 2, 1) := by decide +kernel
theorem dX3_firstQueued_45 : decode cX3_firstQueued 45 = .ok (.ireturn, 1) := by decide +kernel
theorem dX3_takesQueued_0 : decode cX3_takesQueued 0 = .ok (.aload_n 0, 1) := by decide +kernel
theorem dX3_takesQueued_1 : decode cX3_takesQueued 1 = .ok (.iload_n 1, 1) := by decide +kernel
theorem dX3_takesQueued_2 : decode cX3_takesQueued 2 = .ok (.invokevirtual 141, 3) := by decide +kernel
theorem dX3_takesQueued_5 : decode cX3_takesQueued 5 = .ok (.istore_n 2, 1) := by decide +kernel
theorem dX3_takesQueued_6 : decode cX3_takesQueued 6 = .ok (.iload_n 2, 1) := by decide +kernel
theorem dX3_takesQueued_7 : decode cX3_takesQueued 7 = .ok (.iconst (-1), 1) := by decide +kernel
theorem dX3_takesQueued_8 : decode cX3_takesQueued 8 = .ok (.if_icmp .eq 63, 3) := by decide +kernel
theorem dX3_takesQueued_11 : decode cX3_takesQueued 11 = .ok (.aload_n 0, 1) := by decide +kernel
theorem dX3_takesQueued_12 : decode cX3_takesQueued 12 = .ok (.iload_n 1, 1) := by decide +kernel
theorem dX3_takesQueued_13 : decode cX3_takesQueued 13 = .ok (.iconst 1, 1) := by decide +kernel
theorem dX3_takesQueued_14 : decode cX3_takesQueued 14 = .ok (.invokevirtual 107, 3) := by decide +kernel
theorem dX3_takesQueued_17 : decode cX3_takesQueued 17 = .ok (.aload_n 0, 1) := by decide +kernel
theorem dX3_takesQueued_18 : decode cX3_takesQueued 18 = .ok (.getfield 25, 3) := by decide +kernel
theorem dX3_takesQueued_21 : decode cX3_takesQueued 21 = .ok (.iload_n 1, 1) := by decide +kernel
theorem dX3_takesQueued_22 : decode cX3_takesQueued 22 = .ok (.iaload, 1) := by decide +kernel
theorem dX3_takesQueued_23 : decode cX3_takesQueued 23 = .ok (.if_icmp .ge 48, 3) := by decide +kernel
theorem dX3_takesQueued_26 : decode cX3_takesQueued 26 = .ok (.aload_n 0, 1) := by decide +kernel
theorem dX3_takesQueued_27 : decode cX3_takesQueued 27 = .ok (.getfield 46, 3) := by decide +kernel
theorem dX3_takesQueued_30 : decode cX3_takesQueued 30 = .ok (.iload_n 2, 1) := by decide +kernel
theorem dX3_takesQueued_31 : decode cX3_takesQueued 31 = .ok (.iaload, 1) := by decide +kernel
theorem dX3_takesQueued_32 : decode cX3_takesQueued 32 = .ok (.aload_n 0, 1) := by decide +kernel
theorem dX3_takesQueued_33 : decode cX3_takesQueued 33 = .ok (.getfield 101, 3) := by decide +kernel
theorem dX3_takesQueued_36 : decode cX3_takesQueued 36 = .ok (.isub, 1) := by decide +kernel
theorem dX3_takesQueued_37 : decode cX3_takesQueued 37 = .ok (.aload_n 0, 1) := by decide +kernel
theorem dX3_takesQueued_38 : decode cX3_takesQueued 38 = .ok (.getfield 7, 3) := by decide +kernel
theorem dX3_takesQueued_41 : decode cX3_takesQueued 41 = .ok (.iload_n 1, 1) := by decide +kernel
theorem dX3_takesQueued_42 : decode cX3_takesQueued 42 = .ok (.iaload, 1) := by decide +kernel
theorem dX3_takesQueued_43 : decode cX3_takesQueued 43 = .ok (.if_icmp .ge 14, 3) := by decide +kernel
theorem dX3_takesQueued_46 : decode cX3_takesQueued 46 = .ok (.aload_n 0, 1) := by decide +kernel
theorem dX3_takesQueued_47 : decode cX3_takesQueued 47 = .ok (.iload_n 2, 1) := by decide +kernel
theorem dX3_takesQueued_48 : decode cX3_takesQueued 48 = .ok (.bipush 6, 2) := by decide +kernel
theorem dX3_takesQueued_50 : decode cX3_takesQueued 50 = .ok (.invokevirtual 114, 3) := by decide +kernel
theorem dX3_takesQueued_53 : decode cX3_takesQueued 53 = .ok (.pop, 1) := by decide +kernel
theorem dX3_takesQueued_54 : decode cX3_takesQueued 54 = .ok (.goto 8, 3) := by decide +kernel
theorem dX3_takesQueued_57 : decode cX3_takesQueued 57 = .ok (.aload_n 0, 1) := by decide +kernel
theorem dX3_takesQueued_58 : decode cX3_takesQueued 58 = .ok (.iload_n 2, 1) := by decide +kernel
theorem dX3_takesQueued_59 : decode cX3_takesQueued 59 = .ok (.invokevirtual 117, 3) := by decide +kernel
theorem dX3_takesQueued_62 : decode cX3_takesQueued 62 = .ok (.aload_n 0, 1) := by decide +kernel
theorem dX3_takesQueued_63 : decode cX3_takesQueued 63 = .ok (.iload_n 1, 1) := by decide +kernel
theorem dX3_takesQueued_64 : decode cX3_takesQueued 64 = .ok (.invokevirtual 141, 3) := by decide +kernel
theorem dX3_takesQueued_67 : decode cX3_takesQueued 67 = .ok (.istore_n 2, 1) := by decide +kernel
theorem dX3_takesQueued_68 : decode cX3_takesQueued 68 = .ok (.goto (-62), 3) := by decide +kernel
theorem dX3_takesQueued_71 : decode cX3_takesQueued 71 = .ok (.return_, 1) := by decide +kernel
theorem dX3_ticks_0 : decode cX3_ticks 0 = .ok (.aload_n 0, 1) := by decide +kernel
theorem dX3_ticks_1 : decode cX3_ticks 1 = .ok (.dup, 1) := by decide +kernel
theorem dX3_ticks_2 : decode cX3_ticks 2 = .ok (.getfield 101, 3) := by decide +kernel
theorem dX3_ticks_5 : decode cX3_ticks 5 = .ok (.iconst 1, 1) := by decide +kernel
theorem dX3_ticks_6 : decode cX3_ticks 6 = .ok (.iadd, 1) := by decide +kernel
theorem dX3_ticks_7 : decode cX3_ticks 7 = .ok (.putfield 101, 3) := by decide +kernel
theorem dX3_ticks_10 : decode cX3_ticks 10 = .ok (.aload_n 0, 1) := by decide +kernel
theorem dX3_ticks_11 : decode cX3_ticks 11 = .ok (.invokevirtual 145, 3) := by decide +kernel
theorem dX3_ticks_14 : decode cX3_ticks 14 = .ok (.aload_n 0, 1) := by decide +kernel
theorem dX3_ticks_15 : decode cX3_ticks 15 = .ok (.invokevirtual 148, 3) := by decide +kernel
theorem dX3_ticks_18 : decode cX3_ticks 18 = .ok (.aload_n 0, 1) := by decide +kernel
theorem dX3_ticks_19 : decode cX3_ticks 19 = .ok (.getfield 94, 3) := by decide +kernel
theorem dX3_ticks_22 : decode cX3_ticks 22 = .ok (.iconst 1, 1) := by decide +kernel
theorem dX3_ticks_23 : decode cX3_ticks 23 = .ok (.isub, 1) := by decide +kernel
theorem dX3_ticks_24 : decode cX3_ticks 24 = .ok (.istore_n 1, 1) := by decide +kernel
theorem dX3_ticks_25 : decode cX3_ticks 25 = .ok (.iload_n 1, 1) := by decide +kernel
theorem dX3_ticks_26 : decode cX3_ticks 26 = .ok (.ifCond .lt 33, 3) := by decide +kernel
theorem dX3_ticks_29 : decode cX3_ticks 29 = .ok (.aload_n 0, 1) := by decide +kernel
theorem dX3_ticks_30 : decode cX3_ticks 30 = .ok (.getfield 52, 3) := by decide +kernel
theorem dX3_ticks_33 : decode cX3_ticks 33 = .ok (.iload_n 1, 1) := by decide +kernel
theorem dX3_ticks_34 : decode cX3_ticks 34 = .ok (.iaload, 1) := by decide +kernel
theorem dX3_ticks_35 : decode cX3_ticks 35 = .ok (.iconst 2, 1) := by decide +kernel
theorem dX3_ticks_36 : decode cX3_ticks 36 = .ok (.if_icmp .ne 17, 3) := by decide +kernel
theorem dX3_ticks_39 : decode cX3_ticks 39 = .ok (.aload_n 0, 1) := by decide +kernel
theorem dX3_ticks_40 : decode cX3_ticks 40 = .ok (.getfield 79, 3) := by decide +kernel
theorem dX3_ticks_43 : decode cX3_ticks 43 = .ok (.iload_n 1, 1) := by decide +kernel
theorem dX3_ticks_44 : decode cX3_ticks 44 = .ok (.baload, 1) := by decide +kernel
theorem dX3_ticks_45 : decode cX3_ticks 45 = .ok (.ifCond .ne 8, 3) := by decide +kernel
theorem dX3_ticks_48 : decode cX3_ticks 48 = .ok (.aload_n 0, 1) := by decide +kernel
theorem dX3_ticks_49 : decode cX3_ticks 49 = .ok (.iload_n 1, 1) := by decide +kernel
theorem dX3_ticks_50 : decode cX3_ticks 50 = .ok (.invokevirtual 151, 3) := by decide +kernel
theorem dX3_ticks_53 : decode cX3_ticks 53 = .ok (.iinc 1 (-1), 3) := by decide +kernel
theorem dX3_ticks_56 : decode cX3_ticks 56 = .ok (.goto (-31), 3) := by decide +kernel
theorem dX3_ticks_59 : decode cX3_ticks 59 = .ok (.aload_n 0, 1) := by decide +kernel
theorem dX3_ticks_60 : decode cX3_ticks 60 = .ok (.invokevirtual 154, 3) := by decide +kernel
theorem dX3_ticks_63 : decode cX3_ticks 63 = .ok (.iconst 0, 1) := by decide +kernel
theorem dX3_ticks_64 : decode cX3_ticks 64 = .ok (.istore_n 1, 1) := by decide +kernel
theorem dX3_ticks_65 : decode cX3_ticks 65 = .ok (.iload_n 1, 1) := by decide +kernel
theorem dX3_ticks_66 : decode cX3_ticks 66 = .ok (.bipush 6, 2) := by decide +kernel
theorem dX3_ticks_68 : decode cX3_ticks 68 = .ok (.if_icmp .ge 14, 3) := by decide +kernel
theorem dX3_ticks_71 : decode cX3_ticks 71 = .ok (.aload_n 0, 1) := by decide +kernel
theorem dX3_ticks_72 : decode cX3_ticks 72 = .ok (.iload_n 1, 1) := by decide +kernel
theorem dX3_ticks_73 : decode cX3_ticks 73 = .ok (.invokevirtual 157, 3) := by decide +kernel
theorem dX3_ticks_76 : decode cX3_ticks 76 = .ok (.iinc 1 1, 3) := by decide +kernel
theorem dX3_ticks_79 : decode cX3_ticks 79 = .ok (.goto (-14), 3) := by decide +kernel
theorem dX3_ticks_82 : decode cX3_ticks 82 = .ok (.return_, 1) := by decide +kernel
theorem dX3_rootsOver_0 : decode cX3_rootsOver 0 = .ok (.iconst 0, 1) := by decide +kernel
theorem dX3_rootsOver_1 : decode cX3_rootsOver 1 = .ok (.istore_n 1, 1) := by decide +kernel
theorem dX3_rootsOver_2 : decode cX3_rootsOver 2 = .ok (.iconst 0, 1) := by decide +kernel
theorem dX3_rootsOver_3 : decode cX3_rootsOver 3 = .ok (.istore_n 2, 1) := by decide +kernel
theorem dX3_rootsOver_4 : decode cX3_rootsOver 4 = .ok (.iload_n 2, 1) := by decide +kernel
theorem dX3_rootsOver_5 : decode cX3_rootsOver 5 = .ok (.aload_n 0, 1) := by decide +kernel
theorem dX3_rootsOver_6 : decode cX3_rootsOver 6 = .ok (.getfield 94, 3) := by decide +kernel
theorem dX3_rootsOver_9 : decode cX3_rootsOver 9 = .ok (.if_icmp .ge 35, 3) := by decide +kernel
theorem dX3_rootsOver_12 : decode cX3_rootsOver 12 = .ok (.iload_n 1, 1) := by decide +kernel
theorem dX3_rootsOver_13 : decode cX3_rootsOver 13 = .ok (.aload_n 0, 1) := by decide +kernel
theorem dX3_rootsOver_14 : decode cX3_rootsOver 14 = .ok (.getfield 49, 3) := by decide +kernel
theorem dX3_rootsOver_17 : decode cX3_rootsOver 17 = .ok (.iload_n 2, 1) := by decide +kernel
theorem dX3_rootsOver_18 : decode cX3_rootsOver 18 = .ok (.iaload, 1) := by decide +kernel
theorem dX3_rootsOver_19 : decode cX3_rootsOver 19 = .ok (.iconst (-1), 1) := by decide +kernel
theorem dX3_rootsOver_20 : decode cX3_rootsOver 20 = .ok (.if_icmp .ne 15, 3) := by decide +kernel
theorem dX3_rootsOver_23 : decode cX3_rootsOver 23 = .ok (.aload_n 0, 1) := by decide +kernel
theorem dX3_rootsOver_24 : decode cX3_rootsOver 24 = .ok (.iload_n 2, 1) := by decide +kernel
theorem dX3_rootsOver_25 : decode cX3_rootsOver 25 = .ok (.invokevirtual 104, 3) := by decide +kernel
theorem dX3_rootsOver_28 : decode cX3_rootsOver 28 = .ok (.ifCond .eq 7, 3) := by decide +kernel
theorem dX3_rootsOver_31 : decode cX3_rootsOver 31 = .ok (.iconst 1, 1) := by decide +kernel
theorem dX3_rootsOver_32 : decode cX3_rootsOver 32 = .ok (.goto 4, 3) := by decide +kernel
theorem dX3_rootsOver_35 : decode cX3_rootsOver 35 = .ok (.iconst 0, 1) := by decide +kernel
theorem dX3_rootsOver_36 : decode cX3_rootsOver 36 = .ok (.iadd, 1) := by decide +kernel
theorem dX3_rootsOver_37 : decode cX3_rootsOver 37 = .ok (.istore_n 1, 1) := by decide +kernel
theorem dX3_rootsOver_38 : decode cX3_rootsOver 38 = .ok (.iinc 2 1, 3) := by decide +kernel
theorem dX3_rootsOver_41 : decode cX3_rootsOver 41 = .ok (.goto (-37), 3) := by decide +kernel
theorem dX3_rootsOver_44 : decode cX3_rootsOver 44 = .ok (.iload_n 1, 1) := by decide +kernel
theorem dX3_rootsOver_45 : decode cX3_rootsOver 45 = .ok (.ireturn, 1) := by decide +kernel
theorem dX3_pass_0 : decode cX3_pass 0 = .ok (.aload_n 0, 1) := by decide +kernel
theorem dX3_pass_1 : decode cX3_pass 1 = .ok (.iload_n 1, 1) := by decide +kernel
theorem dX3_pass_2 : decode cX3_pass 2 = .ok (.iconst 1, 1) := by decide +kernel
theorem dX3_pass_3 : decode cX3_pass 3 = .ok (.bipush 100, 2) := by decide +kernel
theorem dX3_pass_5 : decode cX3_pass 5 = .ok (.invokestatic 90, 3) := by decide +kernel
theorem dX3_pass_8 : decode cX3_pass 8 = .ok (.ifCond .eq 7, 3) := by decide +kernel
theorem dX3_pass_11 : decode cX3_pass 11 = .ok (.iconst 0, 1) := by decide +kernel
theorem dX3_pass_12 : decode cX3_pass 12 = .ok (.goto 4, 3) := by decide +kernel
theorem dX3_pass_15 : decode cX3_pass 15 = .ok (.iconst 1, 1) := by decide +kernel
theorem dX3_pass_16 : decode cX3_pass 16 = .ok (.putfield 86, 3) := by decide +kernel
theorem dX3_pass_19 : decode cX3_pass 19 = .ok (.aload_n 0, 1) := by decide +kernel
theorem dX3_pass_20 : decode cX3_pass 20 = .ok (.getfield 86, 3) := by decide +kernel
theorem dX3_pass_23 : decode cX3_pass 23 = .ok (.ifCond .le 5, 3) := by decide +kernel
theorem dX3_pass_26 : decode cX3_pass 26 = .ok (.iconst 0, 1) := by decide +kernel
theorem dX3_pass_27 : decode cX3_pass 27 = .ok (.ireturn, 1) := by decide +kernel
theorem dX3_pass_28 : decode cX3_pass 28 = .ok (.aload_n 0, 1) := by decide +kernel
theorem dX3_pass_29 : decode cX3_pass 29 = .ok (.invokevirtual 160, 3) := by decide +kernel
theorem dX3_pass_32 : decode cX3_pass 32 = .ok (.istore_n 2, 1) := by decide +kernel
theorem dX3_pass_33 : decode cX3_pass 33 = .ok (.iconst 0, 1) := by decide +kernel
theorem dX3_pass_34 : decode cX3_pass 34 = .ok (.istore_n 3, 1) := by decide +kernel
theorem dX3_pass_35 : decode cX3_pass 35 = .ok (.iload_n 3, 1) := by decide +kernel
theorem dX3_pass_36 : decode cX3_pass 36 = .ok (.iload_n 1, 1) := by decide +kernel
theorem dX3_pass_37 : decode cX3_pass 37 = .ok (.if_icmp .ge 13, 3) := by decide +kernel
theorem dX3_pass_40 : decode cX3_pass 40 = .ok (.aload_n 0, 1) := by decide +kernel
theorem dX3_pass_41 : decode cX3_pass 41 = .ok (.invokevirtual 164, 3) := by decide +kernel
theorem dX3_pass_44 : decode cX3_pass 44 = .ok (.iinc 3 1, 3) := by decide +kernel
theorem dX3_pass_47 : decode cX3_pass 47 = .ok (.goto (-12), 3) := by decide +kernel
theorem dX3_pass_50 : decode cX3_pass 50 = .ok (.aload_n 0, 1) := by decide +kernel
theorem dX3_pass_51 : decode cX3_pass 51 = .ok (.invokevirtual 160, 3) := by decide +kernel
theorem dX3_pass_54 : decode cX3_pass 54 = .ok (.iload_n 2, 1) := by decide +kernel
theorem dX3_pass_55 : decode cX3_pass 55 = .ok (.isub, 1) := by decide +kernel
theorem dX3_pass_56 : decode cX3_pass 56 = .ok (.ireturn, 1) := by decide +kernel
theorem dX3_time_0 : decode cX3_time 0 = .ok (.aload_n 0, 1) := by decide +kernel
theorem dX3_time_1 : decode cX3_time 1 = .ok (.iconst 0, 1) := by decide +kernel
theorem dX3_time_2 : decode cX3_time 2 = .ok (.putfield 86, 3) := by decide +kernel
theorem dX3_time_5 : decode cX3_time 5 = .ok (.aload_n 0, 1) := by decide +kernel
theorem dX3_time_6 : decode cX3_time 6 = .ok (.getfield 101, 3) := by decide +kernel
theorem dX3_time_9 : decode cX3_time 9 = .ok (.ireturn, 1) := by decide +kernel
theorem dX3_calls_0 : decode cX3_calls 0 = .ok (.aload_n 0, 1) := by decide +kernel
theorem dX3_calls_1 : decode cX3_calls 1 = .ok (.iconst 0, 1) := by decide +kernel
theorem dX3_calls_2 : decode cX3_calls 2 = .ok (.putfield 86, 3) := by decide +kernel
theorem dX3_calls_5 : decode cX3_calls 5 = .ok (.aload_n 0, 1) := by decide +kernel
theorem dX3_calls_6 : decode cX3_calls 6 = .ok (.getfield 94, 3) := by decide +kernel
theorem dX3_calls_9 : decode cX3_calls 9 = .ok (.ireturn, 1) := by decide +kernel
theorem dX3_asksCall_0 : decode cX3_asksCall 0 = .ok (.aload_n 0, 1) := by decide +kernel
theorem dX3_asksCall_1 : decode cX3_asksCall 1 = .ok (.aload_n 0, 1) := by decide +kernel
theorem dX3_asksCall_2 : decode cX3_asksCall 2 = .ok (.iload_n 1, 1) := by decide +kernel
theorem dX3_asksCall_3 : decode cX3_asksCall 3 = .ok (.invokevirtual 125, 3) := by decide +kernel
theorem dX3_asksCall_6 : decode cX3_asksCall 6 = .ok (.ifCond .eq 7, 3) := by decide +kernel
theorem dX3_asksCall_9 : decode cX3_asksCall 9 = .ok (.iconst 0, 1) := by decide +kernel
theorem dX3_asksCall_10 : decode cX3_asksCall 10 = .ok (.goto 4, 3) := by decide +kernel
theorem dX3_asksCall_13 : decode cX3_asksCall 13 = .ok (.iconst 1, 1) := by decide +kernel
theorem dX3_asksCall_14 : decode cX3_asksCall 14 = .ok (.putfield 86, 3) := by decide +kernel
theorem dX3_asksCall_17 : decode cX3_asksCall 17 = .ok (.aload_n 0, 1) := by decide +kernel
theorem dX3_asksCall_18 : decode cX3_asksCall 18 = .ok (.getfield 86, 3) := by decide +kernel
theorem dX3_asksCall_21 : decode cX3_asksCall 21 = .ok (.ifCond .ne 7, 3) := by decide +kernel
theorem dX3_asksCall_24 : decode cX3_asksCall 24 = .ok (.iconst 1, 1) := by decide +kernel
theorem dX3_asksCall_25 : decode cX3_asksCall 25 = .ok (.goto 4, 3) := by decide +kernel
theorem dX3_asksCall_28 : decode cX3_asksCall 28 = .ok (.iconst 0, 1) := by decide +kernel
theorem dX3_asksCall_29 : decode cX3_asksCall 29 = .ok (.ireturn, 1) := by decide +kernel
theorem dX3_state_0 : decode cX3_state 0 = .ok (.aload_n 0, 1) := by decide +kernel
theorem dX3_state_1 : decode cX3_state 1 = .ok (.iload_n 1, 1) := by decide +kernel
theorem dX3_state_2 : decode cX3_state 2 = .ok (.invokevirtual 167, 3) := by decide +kernel
theorem dX3_state_5 : decode cX3_state 5 = .ok (.ifCond .eq 12, 3) := by decide +kernel
theorem dX3_state_8 : decode cX3_state 8 = .ok (.aload_n 0, 1) := by decide +kernel
theorem dX3_state_9 : decode cX3_state 9 = .ok (.getfield 52, 3) := by decide +kernel
theorem dX3_state_12 : decode cX3_state 12 = .ok (.iload_n 1, 1) := by decide +kernel
theorem dX3_state_13 : decode cX3_state 13 = .ok (.iaload, 1) := by decide +kernel
theorem dX3_state_14 : decode cX3_state 14 = .ok (.goto 4, 3) := by decide +kernel
theorem dX3_state_17 : decode cX3_state 17 = .ok (.iconst 0, 1) := by decide +kernel
theorem dX3_state_18 : decode cX3_state 18 = .ok (.ireturn, 1) := by decide +kernel
theorem dX3_origin_0 : decode cX3_origin 0 = .ok (.aload_n 0, 1) := by decide +kernel
theorem dX3_origin_1 : decode cX3_origin 1 = .ok (.iload_n 1, 1) := by decide +kernel
theorem dX3_origin_2 : decode cX3_origin 2 = .ok (.invokevirtual 167, 3) := by decide +kernel
theorem dX3_origin_5 : decode cX3_origin 5 = .ok (.ifCond .eq 25, 3) := by decide +kernel
theorem dX3_origin_8 : decode cX3_origin 8 = .ok (.sipush 1000, 3) := by decide +kernel
theorem dX3_origin_11 : decode cX3_origin 11 = .ok (.aload_n 0, 1) := by decide +kernel
theorem dX3_origin_12 : decode cX3_origin 12 = .ok (.getfield 43, 3) := by decide +kernel
theorem dX3_origin_15 : decode cX3_origin 15 = .ok (.iload_n 1, 1) := by decide +kernel
theorem dX3_origin_16 : decode cX3_origin 16 = .ok (.iaload, 1) := by decide +kernel
theorem dX3_origin_17 : decode cX3_origin 17 = .ok (.imul, 1) := by decide +kernel
theorem dX3_origin_18 : decode cX3_origin 18 = .ok (.aload_n 0, 1) := by decide +kernel
theorem dX3_origin_19 : decode cX3_origin 19 = .ok (.getfield 49, 3) := by decide +kernel
theorem dX3_origin_22 : decode cX3_origin 22 = .ok (.iload_n 1, 1) := by decide +kernel
theorem dX3_origin_23 : decode cX3_origin 23 = .ok (.iaload, 1) := by decide +kernel
theorem dX3_origin_24 : decode cX3_origin 24 = .ok (.iadd, 1) := by decide +kernel
theorem dX3_origin_25 : decode cX3_origin 25 = .ok (.iconst 1, 1) := by decide +kernel
theorem dX3_origin_26 : decode cX3_origin 26 = .ok (.iadd, 1) := by decide +kernel
theorem dX3_origin_27 : decode cX3_origin 27 = .ok (.goto 4, 3) := by decide +kernel
theorem dX3_origin_30 : decode cX3_origin 30 = .ok (.iconst 0, 1) := by decide +kernel
theorem dX3_origin_31 : decode cX3_origin 31 = .ok (.ireturn, 1) := by decide +kernel
theorem dX3_deadline_0 : decode cX3_deadline 0 = .ok (.aload_n 0, 1) := by decide +kernel
theorem dX3_deadline_1 : decode cX3_deadline 1 = .ok (.iload_n 1, 1) := by decide +kernel
theorem dX3_deadline_2 : decode cX3_deadline 2 = .ok (.invokevirtual 167, 3) := by decide +kernel
theorem dX3_deadline_5 : decode cX3_deadline 5 = .ok (.ifCond .eq 12, 3) := by decide +kernel
theorem dX3_deadline_8 : decode cX3_deadline 8 = .ok (.aload_n 0, 1) := by decide +kernel
theorem dX3_deadline_9 : decode cX3_deadline 9 = .ok (.getfield 46, 3) := by decide +kernel
theorem dX3_deadline_12 : decode cX3_deadline 12 = .ok (.iload_n 1, 1) := by decide +kernel
theorem dX3_deadline_13 : decode cX3_deadline 13 = .ok (.iaload, 1) := by decide +kernel
theorem dX3_deadline_14 : decode cX3_deadline 14 = .ok (.goto 4, 3) := by decide +kernel
theorem dX3_deadline_17 : decode cX3_deadline 17 = .ok (.iconst 0, 1) := by decide +kernel
theorem dX3_deadline_18 : decode cX3_deadline 18 = .ok (.ireturn, 1) := by decide +kernel
theorem dX3_overAt_0 : decode cX3_overAt 0 = .ok (.aload_n 0, 1) := by decide +kernel
theorem dX3_overAt_1 : decode cX3_overAt 1 = .ok (.iload_n 1, 1) := by decide +kernel
theorem dX3_overAt_2 : decode cX3_overAt 2 = .ok (.invokevirtual 167, 3) := by decide +kernel
theorem dX3_overAt_5 : decode cX3_overAt 5 = .ok (.ifCond .eq 12, 3) := by decide +kernel
theorem dX3_overAt_8 : decode cX3_overAt 8 = .ok (.aload_n 0, 1) := by decide +kernel
theorem dX3_overAt_9 : decode cX3_overAt 9 = .ok (.getfield 58, 3) := by decide +kernel
theorem dX3_overAt_12 : decode cX3_overAt 12 = .ok (.iload_n 1, 1) := by decide +kernel
theorem dX3_overAt_13 : decode cX3_overAt 13 = .ok (.iaload, 1) := by decide +kernel
theorem dX3_overAt_14 : decode cX3_overAt 14 = .ok (.goto 4, 3) := by decide +kernel
theorem dX3_overAt_17 : decode cX3_overAt 17 = .ok (.iconst 0, 1) := by decide +kernel
theorem dX3_overAt_18 : decode cX3_overAt 18 = .ok (.ireturn, 1) := by decide +kernel
theorem dX3_place_0 : decode cX3_place 0 = .ok (.aload_n 0, 1) := by decide +kernel
theorem dX3_place_1 : decode cX3_place 1 = .ok (.iload_n 1, 1) := by decide +kernel
theorem dX3_place_2 : decode cX3_place 2 = .ok (.invokevirtual 167, 3) := by decide +kernel
theorem dX3_place_5 : decode cX3_place 5 = .ok (.ifCond .ne 7, 3) := by decide +kernel
theorem dX3_place_8 : decode cX3_place 8 = .ok (.iconst 0, 1) := by decide +kernel
theorem dX3_place_9 : decode cX3_place 9 = .ok (.goto 23, 3) := by decide +kernel
theorem dX3_place_12 : decode cX3_place 12 = .ok (.aload_n 0, 1) := by decide +kernel
theorem dX3_place_13 : decode cX3_place 13 = .ok (.getfield 52, 3) := by decide +kernel
theorem dX3_place_16 : decode cX3_place 16 = .ok (.iload_n 1, 1) := by decide +kernel
theorem dX3_place_17 : decode cX3_place 17 = .ok (.iaload, 1) := by decide +kernel
theorem dX3_place_18 : decode cX3_place 18 = .ok (.iconst 2, 1) := by decide +kernel
theorem dX3_place_19 : decode cX3_place 19 = .ok (.if_icmp .ne 12, 3) := by decide +kernel
theorem dX3_place_22 : decode cX3_place 22 = .ok (.aload_n 0, 1) := by decide +kernel
theorem dX3_place_23 : decode cX3_place 23 = .ok (.getfield 73, 3) := by decide +kernel
theorem dX3_place_26 : decode cX3_place 26 = .ok (.iload_n 1, 1) := by decide +kernel
theorem dX3_place_27 : decode cX3_place 27 = .ok (.iaload, 1) := by decide +kernel
theorem dX3_place_28 : decode cX3_place 28 = .ok (.goto 4, 3) := by decide +kernel
theorem dX3_place_31 : decode cX3_place 31 = .ok (.iconst (-1), 1) := by decide +kernel
theorem dX3_place_32 : decode cX3_place 32 = .ok (.ireturn, 1) := by decide +kernel
theorem dX3_isBelow_0 : decode cX3_isBelow 0 = .ok (.aload_n 0, 1) := by decide +kernel
theorem dX3_isBelow_1 : decode cX3_isBelow 1 = .ok (.getfield 49, 3) := by decide +kernel
theorem dX3_isBelow_4 : decode cX3_isBelow 4 = .ok (.iload_n 1, 1) := by decide +kernel
theorem dX3_isBelow_5 : decode cX3_isBelow 5 = .ok (.iaload, 1) := by decide +kernel
theorem dX3_isBelow_6 : decode cX3_isBelow 6 = .ok (.istore_n 3, 1) := by decide +kernel
theorem dX3_isBelow_7 : decode cX3_isBelow 7 = .ok (.iload_n 3, 1) := by decide +kernel
theorem dX3_isBelow_8 : decode cX3_isBelow 8 = .ok (.iload_n 2, 1) := by decide +kernel
theorem dX3_isBelow_9 : decode cX3_isBelow 9 = .ok (.if_icmp .le 13, 3) := by decide +kernel
theorem dX3_isBelow_12 : decode cX3_isBelow 12 = .ok (.aload_n 0, 1) := by decide +kernel
theorem dX3_isBelow_13 : decode cX3_isBelow 13 = .ok (.getfield 49, 3) := by decide +kernel
theorem dX3_isBelow_16 : decode cX3_isBelow 16 = .ok (.iload_n 3, 1) := by decide +kernel
theorem dX3_isBelow_17 : decode cX3_isBelow 17 = .ok (.iaload, 1) := by decide +kernel
theorem dX3_isBelow_18 : decode cX3_isBelow 18 = .ok (.istore_n 3, 1) := by decide +kernel
theorem dX3_isBelow_19 : decode cX3_isBelow 19 = .ok (.goto (-12), 3) := by decide +kernel
theorem dX3_isBelow_22 : decode cX3_isBelow 22 = .ok (.iload_n 3, 1) := by decide +kernel
theorem dX3_isBelow_23 : decode cX3_isBelow 23 = .ok (.iload_n 2, 1) := by decide +kernel
theorem dX3_isBelow_24 : decode cX3_isBelow 24 = .ok (.if_icmp .ne 7, 3) := by decide +kernel
theorem dX3_isBelow_27 : decode cX3_isBelow 27 = .ok (.iconst 1, 1) := by decide +kernel
theorem dX3_isBelow_28 : decode cX3_isBelow 28 = .ok (.goto 4, 3) := by decide +kernel
theorem dX3_isBelow_31 : decode cX3_isBelow 31 = .ok (.iconst 0, 1) := by decide +kernel
theorem dX3_isBelow_32 : decode cX3_isBelow 32 = .ok (.ireturn, 1) := by decide +kernel
theorem dX3_below_0 : decode cX3_below 0 = .ok (.iconst 0, 1) := by decide +kernel
theorem dX3_below_1 : decode cX3_below 1 = .ok (.istore_n 2, 1) := by decide +kernel
theorem dX3_below_2 : decode cX3_below 2 = .ok (.aload_n 0, 1) := by decide +kernel
theorem dX3_below_3 : decode cX3_below 3 = .ok (.iload_n 1, 1) := by decide +kernel
theorem dX3_below_4 : decode cX3_below 4 = .ok (.invokevirtual 167, 3) := by decide +kernel
theorem dX3_below_7 : decode cX3_below 7 = .ok (.ifCond .eq 46, 3) := by decide +kernel
theorem dX3_below_10 : decode cX3_below 10 = .ok (.iload_n 1, 1) := by decide +kernel
theorem dX3_below_11 : decode cX3_below 11 = .ok (.iconst 1, 1) := by decide +kernel
theorem dX3_below_12 : decode cX3_below 12 = .ok (.iadd, 1) := by decide +kernel
theorem dX3_below_13 : decode cX3_below 13 = .ok (.istore_n 3, 1) := by decide +kernel
theorem dX3_below_14 : decode cX3_below 14 = .ok (.iload_n 3, 1) := by decide +kernel
theorem dX3_below_15 : decode cX3_below 15 = .ok (.aload_n 0, 1) := by decide +kernel
theorem dX3_below_16 : decode cX3_below 16 = .ok (.getfield 94, 3) := by decide +kernel
theorem dX3_below_19 : decode cX3_below 19 = .ok (.if_icmp .ge 34, 3) := by decide +kernel
theorem dX3_below_22 : decode cX3_below 22 = .ok (.iload_n 2, 1) := by decide +kernel
theorem dX3_below_23 : decode cX3_below 23 = .ok (.aload_n 0, 1) := by decide +kernel
theorem dX3_below_24 : decode cX3_below 24 = .ok (.iload_n 3, 1) := by decide +kernel
theorem dX3_below_25 : decode cX3_below 25 = .ok (.invokevirtual 104, 3) := by decide +kernel
theorem dX3_below_28 : decode cX3_below 28 = .ok (.ifCond .ne 16, 3) := by decide +kernel
theorem dX3_below_31 : decode cX3_below 31 = .ok (.aload_n 0, 1) := by decide +kernel
theorem dX3_below_32 : decode cX3_below 32 = .ok (.iload_n 3, 1) := by decide +kernel
theorem dX3_below_33 : decode cX3_below 33 = .ok (.iload_n 1, 1) := by decide +kernel
theorem dX3_below_34 : decode cX3_below 34 = .ok (.invokevirtual 170, 3) := by decide +kernel
theorem dX3_below_37 : decode cX3_below 37 = .ok (.ifCond .eq 7, 3) := by decide +kernel
theorem dX3_below_40 : decode cX3_below 40 = .ok (.iconst 1, 1) := by decide +kernel
theorem dX3_below_41 : decode cX3_below 41 = .ok (.goto 4, 3) := by decide +kernel
theorem dX3_below_44 : decode cX3_below 44 = .ok (.iconst 0, 1) := by decide +kernel
theorem dX3_below_45 : decode cX3_below 45 = .ok (.iadd, 1) := by decide +kernel
theorem dX3_below_46 : decode cX3_below 46 = .ok (.istore_n 2, 1) := by decide +kernel
theorem dX3_below_47 : decode cX3_below 47 = .ok (.iinc 3 1, 3) := by decide +kernel
theorem dX3_below_50 : decode cX3_below 50 = .ok (.goto (-36), 3) := by decide +kernel
theorem dX3_below_53 : decode cX3_below 53 = .ok (.iload_n 2, 1) := by decide +kernel
theorem dX3_below_54 : decode cX3_below 54 = .ok (.ireturn, 1) := by decide +kernel
theorem dX3_queuedAt_0 : decode cX3_queuedAt 0 = .ok (.aload_n 0, 1) := by decide +kernel
theorem dX3_queuedAt_1 : decode cX3_queuedAt 1 = .ok (.iload_n 1, 1) := by decide +kernel
theorem dX3_queuedAt_2 : decode cX3_queuedAt 2 = .ok (.invokestatic 97, 3) := by decide +kernel
theorem dX3_queuedAt_5 : decode cX3_queuedAt 5 = .ok (.ifCond .eq 23, 3) := by decide +kernel
theorem dX3_queuedAt_8 : decode cX3_queuedAt 8 = .ok (.iload_n 2, 1) := by decide +kernel
theorem dX3_queuedAt_9 : decode cX3_queuedAt 9 = .ok (.iconst 0, 1) := by decide +kernel
theorem dX3_queuedAt_10 : decode cX3_queuedAt 10 = .ok (.aload_n 0, 1) := by decide +kernel
theorem dX3_queuedAt_11 : decode cX3_queuedAt 11 = .ok (.iload_n 1, 1) := by decide +kernel
theorem dX3_queuedAt_12 : decode cX3_queuedAt 12 = .ok (.iconst 0, 1) := by decide +kernel
theorem dX3_queuedAt_13 : decode cX3_queuedAt 13 = .ok (.invokevirtual 107, 3) := by decide +kernel
theorem dX3_queuedAt_16 : decode cX3_queuedAt 16 = .ok (.iconst 1, 1) := by decide +kernel
theorem dX3_queuedAt_17 : decode cX3_queuedAt 17 = .ok (.isub, 1) := by decide +kernel
theorem dX3_queuedAt_18 : decode cX3_queuedAt 18 = .ok (.invokestatic 90, 3) := by decide +kernel
theorem dX3_queuedAt_21 : decode cX3_queuedAt 21 = .ok (.ifCond .eq 7, 3) := by decide +kernel
theorem dX3_queuedAt_24 : decode cX3_queuedAt 24 = .ok (.iconst 0, 1) := by decide +kernel
theorem dX3_queuedAt_25 : decode cX3_queuedAt 25 = .ok (.goto 4, 3) := by decide +kernel
theorem dX3_queuedAt_28 : decode cX3_queuedAt 28 = .ok (.iconst 1, 1) := by decide +kernel
theorem dX3_queuedAt_29 : decode cX3_queuedAt 29 = .ok (.putfield 86, 3) := by decide +kernel
theorem dX3_queuedAt_32 : decode cX3_queuedAt 32 = .ok (.iconst 0, 1) := by decide +kernel
theorem dX3_queuedAt_33 : decode cX3_queuedAt 33 = .ok (.istore_n 3, 1) := by decide +kernel
theorem dX3_queuedAt_34 : decode cX3_queuedAt 34 = .ok (.iconst 0, 1) := by decide +kernel
theorem dX3_queuedAt_35 : decode cX3_queuedAt 35 = .ok (.istore 4, 2) := by decide +kernel
theorem dX3_queuedAt_37 : decode cX3_queuedAt 37 = .ok (.iconst 0, 1) := by decide +kernel
theorem dX3_queuedAt_38 : decode cX3_queuedAt 38 = .ok (.istore 5, 2) := by decide +kernel
theorem dX3_queuedAt_40 : decode cX3_queuedAt 40 = .ok (.iload 5, 2) := by decide +kernel
theorem dX3_queuedAt_42 : decode cX3_queuedAt 42 = .ok (.aload_n 0, 1) := by decide +kernel
theorem dX3_queuedAt_43 : decode cX3_queuedAt 43 = .ok (.getfield 94, 3) := by decide +kernel
theorem dX3_queuedAt_46 : decode cX3_queuedAt 46 = .ok (.if_icmp .ge 77, 3) := by decide +kernel
theorem dX3_queuedAt_49 : decode cX3_queuedAt 49 = .ok (.aload_n 0, 1) := by decide +kernel
theorem dX3_queuedAt_50 : decode cX3_queuedAt 50 = .ok (.getfield 86, 3) := by decide +kernel
theorem dX3_queuedAt_53 : decode cX3_queuedAt 53 = .ok (.ifCond .ne 70, 3) := by decide +kernel
theorem dX3_queuedAt_56 : decode cX3_queuedAt 56 = .ok (.aload_n 0, 1) := by decide +kernel
theorem dX3_queuedAt_57 : decode cX3_queuedAt 57 = .ok (.getfield 43, 3) := by decide +kernel
theorem dX3_queuedAt_60 : decode cX3_queuedAt 60 = .ok (.iload 5, 2) := by decide +kernel
theorem dX3_queuedAt_62 : decode cX3_queuedAt 62 = .ok (.iaload, 1) := by decide +kernel
theorem dX3_queuedAt_63 : decode cX3_queuedAt 63 = .ok (.iload_n 1, 1) := by decide +kernel
theorem dX3_queuedAt_64 : decode cX3_queuedAt 64 = .ok (.if_icmp .ne 17, 3) := by decide +kernel
theorem dX3_queuedAt_67 : decode cX3_queuedAt 67 = .ok (.aload_n 0, 1) := by decide +kernel
theorem dX3_queuedAt_68 : decode cX3_queuedAt 68 = .ok (.getfield 52, 3) := by decide +kernel
theorem dX3_queuedAt_71 : decode cX3_queuedAt 71 = .ok (.iload 5, 2) := by decide +kernel
theorem dX3_queuedAt_73 : decode cX3_queuedAt 73 = .ok (.iaload, 1) := by decide +kernel
theorem dX3_queuedAt_74 : decode cX3_queuedAt 74 = .ok (.ifCond .ne 7, 3) := by decide +kernel
theorem dX3_queuedAt_77 : decode cX3_queuedAt 77 = .ok (.iconst 1, 1) := by decide +kernel
theorem dX3_queuedAt_78 : decode cX3_queuedAt 78 = .ok (.goto 4, 3) := by decide +kernel
theorem dX3_queuedAt_81 : decode cX3_queuedAt 81 = .ok (.iconst 0, 1) := by decide +kernel
theorem dX3_queuedAt_82 : decode cX3_queuedAt 82 = .ok (.istore 6, 2) := by decide +kernel
theorem dX3_queuedAt_84 : decode cX3_queuedAt 84 = .ok (.iload 6, 2) := by decide +kernel
theorem dX3_queuedAt_86 : decode cX3_queuedAt 86 = .ok (.ifCond .eq 14, 3) := by decide +kernel
theorem dX3_queuedAt_89 : decode cX3_queuedAt 89 = .ok (.iload 4, 2) := by decide +kernel
theorem dX3_queuedAt_91 : decode cX3_queuedAt 91 = .ok (.iload_n 2, 1) := by decide +kernel
theorem dX3_queuedAt_92 : decode cX3_queuedAt 92 = .ok (.if_icmp .ne 8, 3) := by decide +kernel
theorem dX3_queuedAt_95 : decode cX3_queuedAt 95 = .ok (.iload 5, 2) := by decide +kernel
theorem dX3_queuedAt_97 : decode cX3_queuedAt 97 = .ok (.goto 4, 3) := by decide +kernel
theorem dX3_queuedAt_100 : decode cX3_queuedAt 100 = .ok (.iload_n 3, 1) := by decide +kernel
theorem dX3_queuedAt_101 : decode cX3_queuedAt 101 = .ok (.istore_n 3, 1) := by decide +kernel
theorem dX3_queuedAt_102 : decode cX3_queuedAt 102 = .ok (.iload 4, 2) := by decide +kernel
theorem dX3_queuedAt_104 : decode cX3_queuedAt 104 = .ok (.iload 6, 2) := by decide +kernel
theorem dX3_queuedAt_106 : decode cX3_queuedAt 106 = .ok (.ifCond .eq 7, 3) := by decide +kernel
theorem dX3_queuedAt_109 : decode cX3_queuedAt 109 = .ok (.iconst 1, 1) := by decide +kernel
theorem dX3_queuedAt_110 : decode cX3_queuedAt 110 = .ok (.goto 4, 3) := by decide +kernel
theorem dX3_queuedAt_113 : decode cX3_queuedAt 113 = .ok (.iconst 0, 1) := by decide +kernel
theorem dX3_queuedAt_114 : decode cX3_queuedAt 114 = .ok (.iadd, 1) := by decide +kernel
theorem dX3_queuedAt_115 : decode cX3_queuedAt 115 = .ok (.istore 4, 2) := by decide +kernel
theorem dX3_queuedAt_117 : decode cX3_queuedAt 117 = .ok (.iinc 5 1, 3) := by decide +kernel
theorem dX3_queuedAt_120 : decode cX3_queuedAt 120 = .ok (.goto (-80), 3) := by decide +kernel
theorem dX3_queuedAt_123 : decode cX3_queuedAt 123 = .ok (.iload_n 3, 1) := by decide +kernel
theorem dX3_queuedAt_124 : decode cX3_queuedAt 124 = .ok (.ireturn, 1) := by decide +kernel
theorem dX3_count_0 : decode cX3_count 0 = .ok (.aload_n 0, 1) := by decide +kernel
theorem dX3_count_1 : decode cX3_count 1 = .ok (.iload_n 1, 1) := by decide +kernel
theorem dX3_count_2 : decode cX3_count 2 = .ok (.invokestatic 97, 3) := by decide +kernel
theorem dX3_count_5 : decode cX3_count 5 = .ok (.ifCond .ne 7, 3) := by decide +kernel
theorem dX3_count_8 : decode cX3_count 8 = .ok (.iconst 1, 1) := by decide +kernel
theorem dX3_count_9 : decode cX3_count 9 = .ok (.goto 18, 3) := by decide +kernel
theorem dX3_count_12 : decode cX3_count 12 = .ok (.iload_n 2, 1) := by decide +kernel
theorem dX3_count_13 : decode cX3_count 13 = .ok (.iconst 0, 1) := by decide +kernel
theorem dX3_count_14 : decode cX3_count 14 = .ok (.bipush 7, 2) := by decide +kernel
theorem dX3_count_16 : decode cX3_count 16 = .ok (.invokestatic 90, 3) := by decide +kernel
theorem dX3_count_19 : decode cX3_count 19 = .ok (.ifCond .eq 7, 3) := by decide +kernel
theorem dX3_count_22 : decode cX3_count 22 = .ok (.iconst 0, 1) := by decide +kernel
theorem dX3_count_23 : decode cX3_count 23 = .ok (.goto 4, 3) := by decide +kernel
theorem dX3_count_26 : decode cX3_count 26 = .ok (.iconst 2, 1) := by decide +kernel
theorem dX3_count_27 : decode cX3_count 27 = .ok (.putfield 86, 3) := by decide +kernel
theorem dX3_count_30 : decode cX3_count 30 = .ok (.aload_n 0, 1) := by decide +kernel
theorem dX3_count_31 : decode cX3_count 31 = .ok (.getfield 86, 3) := by decide +kernel
theorem dX3_count_34 : decode cX3_count 34 = .ok (.ifCond .le 7, 3) := by decide +kernel
theorem dX3_count_37 : decode cX3_count 37 = .ok (.iconst 0, 1) := by decide +kernel
theorem dX3_count_38 : decode cX3_count 38 = .ok (.goto 9, 3) := by decide +kernel
theorem dX3_count_41 : decode cX3_count 41 = .ok (.aload_n 0, 1) := by decide +kernel
theorem dX3_count_42 : decode cX3_count 42 = .ok (.iload_n 1, 1) := by decide +kernel
theorem dX3_count_43 : decode cX3_count 43 = .ok (.iload_n 2, 1) := by decide +kernel
theorem dX3_count_44 : decode cX3_count 44 = .ok (.invokevirtual 107, 3) := by decide +kernel
theorem dX3_count_47 : decode cX3_count 47 = .ok (.ireturn, 1) := by decide +kernel
theorem dX3_tokens_0 : decode cX3_tokens 0 = .ok (.aload_n 0, 1) := by decide +kernel
theorem dX3_tokens_1 : decode cX3_tokens 1 = .ok (.iload_n 1, 1) := by decide +kernel
theorem dX3_tokens_2 : decode cX3_tokens 2 = .ok (.invokestatic 97, 3) := by decide +kernel
theorem dX3_tokens_5 : decode cX3_tokens 5 = .ok (.ifCond .eq 7, 3) := by decide +kernel
theorem dX3_tokens_8 : decode cX3_tokens 8 = .ok (.iconst 0, 1) := by decide +kernel
theorem dX3_tokens_9 : decode cX3_tokens 9 = .ok (.goto 4, 3) := by decide +kernel
theorem dX3_tokens_12 : decode cX3_tokens 12 = .ok (.iconst 1, 1) := by decide +kernel
theorem dX3_tokens_13 : decode cX3_tokens 13 = .ok (.putfield 86, 3) := by decide +kernel
theorem dX3_tokens_16 : decode cX3_tokens 16 = .ok (.aload_n 0, 1) := by decide +kernel
theorem dX3_tokens_17 : decode cX3_tokens 17 = .ok (.getfield 86, 3) := by decide +kernel
theorem dX3_tokens_20 : decode cX3_tokens 20 = .ok (.ifCond .le 7, 3) := by decide +kernel
theorem dX3_tokens_23 : decode cX3_tokens 23 = .ok (.iconst 0, 1) := by decide +kernel
theorem dX3_tokens_24 : decode cX3_tokens 24 = .ok (.goto 9, 3) := by decide +kernel
theorem dX3_tokens_27 : decode cX3_tokens 27 = .ok (.aload_n 0, 1) := by decide +kernel
theorem dX3_tokens_28 : decode cX3_tokens 28 = .ok (.getfield 34, 3) := by decide +kernel
theorem dX3_tokens_31 : decode cX3_tokens 31 = .ok (.iload_n 1, 1) := by decide +kernel
theorem dX3_tokens_32 : decode cX3_tokens 32 = .ok (.iaload, 1) := by decide +kernel
theorem dX3_tokens_33 : decode cX3_tokens 33 = .ok (.ireturn, 1) := by decide +kernel
theorem dX3_isOpen_0 : decode cX3_isOpen 0 = .ok (.aload_n 0, 1) := by decide +kernel
theorem dX3_isOpen_1 : decode cX3_isOpen 1 = .ok (.iload_n 1, 1) := by decide +kernel
theorem dX3_isOpen_2 : decode cX3_isOpen 2 = .ok (.invokestatic 97, 3) := by decide +kernel
theorem dX3_isOpen_5 : decode cX3_isOpen 5 = .ok (.ifCond .eq 7, 3) := by decide +kernel
theorem dX3_isOpen_8 : decode cX3_isOpen 8 = .ok (.iconst 0, 1) := by decide +kernel
theorem dX3_isOpen_9 : decode cX3_isOpen 9 = .ok (.goto 4, 3) := by decide +kernel
theorem dX3_isOpen_12 : decode cX3_isOpen 12 = .ok (.iconst 1, 1) := by decide +kernel
theorem dX3_isOpen_13 : decode cX3_isOpen 13 = .ok (.putfield 86, 3) := by decide +kernel
theorem dX3_isOpen_16 : decode cX3_isOpen 16 = .ok (.aload_n 0, 1) := by decide +kernel
theorem dX3_isOpen_17 : decode cX3_isOpen 17 = .ok (.getfield 86, 3) := by decide +kernel
theorem dX3_isOpen_20 : decode cX3_isOpen 20 = .ok (.ifCond .ne 15, 3) := by decide +kernel
theorem dX3_isOpen_23 : decode cX3_isOpen 23 = .ok (.aload_n 0, 1) := by decide +kernel
theorem dX3_isOpen_24 : decode cX3_isOpen 24 = .ok (.iload_n 1, 1) := by decide +kernel
theorem dX3_isOpen_25 : decode cX3_isOpen 25 = .ok (.invokevirtual 111, 3) := by decide +kernel
theorem dX3_isOpen_28 : decode cX3_isOpen 28 = .ok (.ifCond .eq 7, 3) := by decide +kernel
theorem dX3_isOpen_31 : decode cX3_isOpen 31 = .ok (.iconst 1, 1) := by decide +kernel
theorem dX3_isOpen_32 : decode cX3_isOpen 32 = .ok (.goto 4, 3) := by decide +kernel
theorem dX3_isOpen_35 : decode cX3_isOpen 35 = .ok (.iconst 0, 1) := by decide +kernel
theorem dX3_isOpen_36 : decode cX3_isOpen 36 = .ok (.ireturn, 1) := by decide +kernel
end
section
theorem dL_setWork_0 : decode cL_setWork 0 = .ok (.aload 4, 2) := by decide +kernel
theorem dL_setWork_2 : decode cL_setWork 2 = .ok (.iconst 0, 1) := by decide +kernel
theorem dL_setWork_3 : decode cL_setWork 3 = .ok (.aload_n 0, 1) := by decide +kernel
theorem dL_setWork_4 : decode cL_setWork 4 = .ok (.iload_n 1, 1) := by decide +kernel
theorem dL_setWork_5 : decode cL_setWork 5 = .ok (.iload_n 2, 1) := by decide +kernel
theorem dL_setWork_6 : decode cL_setWork 6 = .ok (.iload_n 3, 1) := by decide +kernel
theorem dL_setWork_7 : decode cL_setWork 7 = .ok (.invokevirtual 7, 3) := by decide +kernel
theorem dL_setWork_10 : decode cL_setWork 10 = .ok (.i2l, 1) := by decide +kernel
theorem dL_setWork_11 : decode cL_setWork 11 = .ok (.lastore, 1) := by decide +kernel
theorem dL_setWork_12 : decode cL_setWork 12 = .ok (.goto 11, 3) := by decide +kernel
theorem dL_setWork_15 : decode cL_setWork 15 = .ok (.astore 5, 2) := by decide +kernel
theorem dL_setWork_17 : decode cL_setWork 17 = .ok (.iconst 1, 1) := by decide +kernel
theorem dL_setWork_18 : decode cL_setWork 18 = .ok (.ireturn, 1) := by decide +kernel
theorem dL_setWork_19 : decode cL_setWork 19 = .ok (.astore 5, 2) := by decide +kernel
theorem dL_setWork_21 : decode cL_setWork 21 = .ok (.iconst 2, 1) := by decide +kernel
theorem dL_setWork_22 : decode cL_setWork 22 = .ok (.ireturn, 1) := by decide +kernel
theorem dL_setWork_23 : decode cL_setWork 23 = .ok (.iconst 0, 1) := by decide +kernel
theorem dL_setWork_24 : decode cL_setWork 24 = .ok (.ireturn, 1) := by decide +kernel
theorem dL_ask_0 : decode cL_ask 0 = .ok (.aload_n 3, 1) := by decide +kernel
theorem dL_ask_1 : decode cL_ask 1 = .ok (.iconst 0, 1) := by decide +kernel
theorem dL_ask_2 : decode cL_ask 2 = .ok (.aload_n 0, 1) := by decide +kernel
theorem dL_ask_3 : decode cL_ask 3 = .ok (.iload_n 1, 1) := by decide +kernel
theorem dL_ask_4 : decode cL_ask 4 = .ok (.iload_n 2, 1) := by decide +kernel
theorem dL_ask_5 : decode cL_ask 5 = .ok (.invokevirtual 17, 3) := by decide +kernel
theorem dL_ask_8 : decode cL_ask 8 = .ok (.i2l, 1) := by decide +kernel
theorem dL_ask_9 : decode cL_ask 9 = .ok (.lastore, 1) := by decide +kernel
theorem dL_ask_10 : decode cL_ask 10 = .ok (.goto 15, 3) := by decide +kernel
theorem dL_ask_13 : decode cL_ask 13 = .ok (.astore 4, 2) := by decide +kernel
theorem dL_ask_15 : decode cL_ask 15 = .ok (.iconst 1, 1) := by decide +kernel
theorem dL_ask_16 : decode cL_ask 16 = .ok (.ireturn, 1) := by decide +kernel
theorem dL_ask_17 : decode cL_ask 17 = .ok (.astore 4, 2) := by decide +kernel
theorem dL_ask_19 : decode cL_ask 19 = .ok (.iconst 2, 1) := by decide +kernel
theorem dL_ask_20 : decode cL_ask 20 = .ok (.ireturn, 1) := by decide +kernel
theorem dL_ask_21 : decode cL_ask 21 = .ok (.astore 4, 2) := by decide +kernel
theorem dL_ask_23 : decode cL_ask 23 = .ok (.iconst 3, 1) := by decide +kernel
theorem dL_ask_24 : decode cL_ask 24 = .ok (.ireturn, 1) := by decide +kernel
theorem dL_ask_25 : decode cL_ask 25 = .ok (.iconst 0, 1) := by decide +kernel
theorem dL_ask_26 : decode cL_ask 26 = .ok (.ireturn, 1) := by decide +kernel
theorem dL_setRoom_0 : decode cL_setRoom 0 = .ok (.aload 5, 2) := by decide +kernel
theorem dL_setRoom_2 : decode cL_setRoom 2 = .ok (.iconst 0, 1) := by decide +kernel
theorem dL_setRoom_3 : decode cL_setRoom 3 = .ok (.aload_n 0, 1) := by decide +kernel
theorem dL_setRoom_4 : decode cL_setRoom 4 = .ok (.iload_n 1, 1) := by decide +kernel
theorem dL_setRoom_5 : decode cL_setRoom 5 = .ok (.iload_n 2, 1) := by decide +kernel
theorem dL_setRoom_6 : decode cL_setRoom 6 = .ok (.iload_n 3, 1) := by decide +kernel
theorem dL_setRoom_7 : decode cL_setRoom 7 = .ok (.iload 4, 2) := by decide +kernel
theorem dL_setRoom_9 : decode cL_setRoom 9 = .ok (.invokevirtual 23, 3) := by decide +kernel
theorem dL_setRoom_12 : decode cL_setRoom 12 = .ok (.i2l, 1) := by decide +kernel
theorem dL_setRoom_13 : decode cL_setRoom 13 = .ok (.lastore, 1) := by decide +kernel
theorem dL_setRoom_14 : decode cL_setRoom 14 = .ok (.goto 11, 3) := by decide +kernel
theorem dL_setRoom_17 : decode cL_setRoom 17 = .ok (.astore 6, 2) := by decide +kernel
theorem dL_setRoom_19 : decode cL_setRoom 19 = .ok (.iconst 1, 1) := by decide +kernel
theorem dL_setRoom_20 : decode cL_setRoom 20 = .ok (.ireturn, 1) := by decide +kernel
theorem dL_setRoom_21 : decode cL_setRoom 21 = .ok (.astore 6, 2) := by decide +kernel
theorem dL_setRoom_23 : decode cL_setRoom 23 = .ok (.iconst 2, 1) := by decide +kernel
theorem dL_setRoom_24 : decode cL_setRoom 24 = .ok (.ireturn, 1) := by decide +kernel
theorem dL_setRoom_25 : decode cL_setRoom 25 = .ok (.iconst 0, 1) := by decide +kernel
theorem dL_setRoom_26 : decode cL_setRoom 26 = .ok (.ireturn, 1) := by decide +kernel
theorem dL_call_0 : decode cL_call 0 = .ok (.aload_n 3, 1) := by decide +kernel
theorem dL_call_1 : decode cL_call 1 = .ok (.iconst 0, 1) := by decide +kernel
theorem dL_call_2 : decode cL_call 2 = .ok (.aload_n 0, 1) := by decide +kernel
theorem dL_call_3 : decode cL_call 3 = .ok (.iload_n 1, 1) := by decide +kernel
theorem dL_call_4 : decode cL_call 4 = .ok (.iload_n 2, 1) := by decide +kernel
theorem dL_call_5 : decode cL_call 5 = .ok (.invokevirtual 27, 3) := by decide +kernel
theorem dL_call_8 : decode cL_call 8 = .ok (.i2l, 1) := by decide +kernel
theorem dL_call_9 : decode cL_call 9 = .ok (.lastore, 1) := by decide +kernel
theorem dL_call_10 : decode cL_call 10 = .ok (.goto 15, 3) := by decide +kernel
theorem dL_call_13 : decode cL_call 13 = .ok (.astore 4, 2) := by decide +kernel
theorem dL_call_15 : decode cL_call 15 = .ok (.iconst 1, 1) := by decide +kernel
theorem dL_call_16 : decode cL_call 16 = .ok (.ireturn, 1) := by decide +kernel
theorem dL_call_17 : decode cL_call 17 = .ok (.astore 4, 2) := by decide +kernel
theorem dL_call_19 : decode cL_call 19 = .ok (.iconst 2, 1) := by decide +kernel
theorem dL_call_20 : decode cL_call 20 = .ok (.ireturn, 1) := by decide +kernel
theorem dL_call_21 : decode cL_call 21 = .ok (.astore 4, 2) := by decide +kernel
theorem dL_call_23 : decode cL_call 23 = .ok (.iconst 3, 1) := by decide +kernel
theorem dL_call_24 : decode cL_call 24 = .ok (.ireturn, 1) := by decide +kernel
theorem dL_call_25 : decode cL_call 25 = .ok (.iconst 0, 1) := by decide +kernel
theorem dL_call_26 : decode cL_call 26 = .ok (.ireturn, 1) := by decide +kernel
theorem dL_cancel_0 : decode cL_cancel 0 = .ok (.aload_n 2, 1) := by decide +kernel
theorem dL_cancel_1 : decode cL_cancel 1 = .ok (.iconst 0, 1) := by decide +kernel
theorem dL_cancel_2 : decode cL_cancel 2 = .ok (.aload_n 0, 1) := by decide +kernel
theorem dL_cancel_3 : decode cL_cancel 3 = .ok (.iload_n 1, 1) := by decide +kernel
theorem dL_cancel_4 : decode cL_cancel 4 = .ok (.invokevirtual 30, 3) := by decide +kernel
theorem dL_cancel_7 : decode cL_cancel 7 = .ok (.i2l, 1) := by decide +kernel
theorem dL_cancel_8 : decode cL_cancel 8 = .ok (.lastore, 1) := by decide +kernel
theorem dL_cancel_9 : decode cL_cancel 9 = .ok (.goto 9, 3) := by decide +kernel
theorem dL_cancel_12 : decode cL_cancel 12 = .ok (.astore_n 3, 1) := by decide +kernel
theorem dL_cancel_13 : decode cL_cancel 13 = .ok (.iconst 1, 1) := by decide +kernel
theorem dL_cancel_14 : decode cL_cancel 14 = .ok (.ireturn, 1) := by decide +kernel
theorem dL_cancel_15 : decode cL_cancel 15 = .ok (.astore_n 3, 1) := by decide +kernel
theorem dL_cancel_16 : decode cL_cancel 16 = .ok (.iconst 2, 1) := by decide +kernel
theorem dL_cancel_17 : decode cL_cancel 17 = .ok (.ireturn, 1) := by decide +kernel
theorem dL_cancel_18 : decode cL_cancel 18 = .ok (.iconst 0, 1) := by decide +kernel
theorem dL_cancel_19 : decode cL_cancel 19 = .ok (.ireturn, 1) := by decide +kernel
theorem dL_pass_0 : decode cL_pass 0 = .ok (.aload_n 2, 1) := by decide +kernel
theorem dL_pass_1 : decode cL_pass 1 = .ok (.iconst 0, 1) := by decide +kernel
theorem dL_pass_2 : decode cL_pass 2 = .ok (.aload_n 0, 1) := by decide +kernel
theorem dL_pass_3 : decode cL_pass 3 = .ok (.iload_n 1, 1) := by decide +kernel
theorem dL_pass_4 : decode cL_pass 4 = .ok (.invokevirtual 34, 3) := by decide +kernel
theorem dL_pass_7 : decode cL_pass 7 = .ok (.i2l, 1) := by decide +kernel
theorem dL_pass_8 : decode cL_pass 8 = .ok (.lastore, 1) := by decide +kernel
theorem dL_pass_9 : decode cL_pass 9 = .ok (.goto 6, 3) := by decide +kernel
theorem dL_pass_12 : decode cL_pass 12 = .ok (.astore_n 3, 1) := by decide +kernel
theorem dL_pass_13 : decode cL_pass 13 = .ok (.iconst 1, 1) := by decide +kernel
theorem dL_pass_14 : decode cL_pass 14 = .ok (.ireturn, 1) := by decide +kernel
theorem dL_pass_15 : decode cL_pass 15 = .ok (.iconst 0, 1) := by decide +kernel
theorem dL_pass_16 : decode cL_pass 16 = .ok (.ireturn, 1) := by decide +kernel
theorem dL_state_0 : decode cL_state 0 = .ok (.aload_n 2, 1) := by decide +kernel
theorem dL_state_1 : decode cL_state 1 = .ok (.iconst 0, 1) := by decide +kernel
theorem dL_state_2 : decode cL_state 2 = .ok (.aload_n 0, 1) := by decide +kernel
theorem dL_state_3 : decode cL_state 3 = .ok (.iload_n 1, 1) := by decide +kernel
theorem dL_state_4 : decode cL_state 4 = .ok (.invokevirtual 37, 3) := by decide +kernel
theorem dL_state_7 : decode cL_state 7 = .ok (.i2l, 1) := by decide +kernel
theorem dL_state_8 : decode cL_state 8 = .ok (.lastore, 1) := by decide +kernel
theorem dL_state_9 : decode cL_state 9 = .ok (.goto 6, 3) := by decide +kernel
theorem dL_state_12 : decode cL_state 12 = .ok (.astore_n 3, 1) := by decide +kernel
theorem dL_state_13 : decode cL_state 13 = .ok (.iconst 1, 1) := by decide +kernel
theorem dL_state_14 : decode cL_state 14 = .ok (.ireturn, 1) := by decide +kernel
theorem dL_state_15 : decode cL_state 15 = .ok (.iconst 0, 1) := by decide +kernel
theorem dL_state_16 : decode cL_state 16 = .ok (.ireturn, 1) := by decide +kernel
theorem dL_origin_0 : decode cL_origin 0 = .ok (.aload_n 2, 1) := by decide +kernel
theorem dL_origin_1 : decode cL_origin 1 = .ok (.iconst 0, 1) := by decide +kernel
theorem dL_origin_2 : decode cL_origin 2 = .ok (.aload_n 0, 1) := by decide +kernel
theorem dL_origin_3 : decode cL_origin 3 = .ok (.iload_n 1, 1) := by decide +kernel
theorem dL_origin_4 : decode cL_origin 4 = .ok (.invokevirtual 40, 3) := by decide +kernel
theorem dL_origin_7 : decode cL_origin 7 = .ok (.i2l, 1) := by decide +kernel
theorem dL_origin_8 : decode cL_origin 8 = .ok (.lastore, 1) := by decide +kernel
theorem dL_origin_9 : decode cL_origin 9 = .ok (.goto 6, 3) := by decide +kernel
theorem dL_origin_12 : decode cL_origin 12 = .ok (.astore_n 3, 1) := by decide +kernel
theorem dL_origin_13 : decode cL_origin 13 = .ok (.iconst 1, 1) := by decide +kernel
theorem dL_origin_14 : decode cL_origin 14 = .ok (.ireturn, 1) := by decide +kernel
theorem dL_origin_15 : decode cL_origin 15 = .ok (.iconst 0, 1) := by decide +kernel
theorem dL_origin_16 : decode cL_origin 16 = .ok (.ireturn, 1) := by decide +kernel
theorem dL_deadline_0 : decode cL_deadline 0 = .ok (.aload_n 2, 1) := by decide +kernel
theorem dL_deadline_1 : decode cL_deadline 1 = .ok (.iconst 0, 1) := by decide +kernel
theorem dL_deadline_2 : decode cL_deadline 2 = .ok (.aload_n 0, 1) := by decide +kernel
theorem dL_deadline_3 : decode cL_deadline 3 = .ok (.iload_n 1, 1) := by decide +kernel
theorem dL_deadline_4 : decode cL_deadline 4 = .ok (.invokevirtual 43, 3) := by decide +kernel
theorem dL_deadline_7 : decode cL_deadline 7 = .ok (.i2l, 1) := by decide +kernel
theorem dL_deadline_8 : decode cL_deadline 8 = .ok (.lastore, 1) := by decide +kernel
theorem dL_deadline_9 : decode cL_deadline 9 = .ok (.goto 6, 3) := by decide +kernel
theorem dL_deadline_12 : decode cL_deadline 12 = .ok (.astore_n 3, 1) := by decide +kernel
theorem dL_deadline_13 : decode cL_deadline 13 = .ok (.iconst 1, 1) := by decide +kernel
theorem dL_deadline_14 : decode cL_deadline 14 = .ok (.ireturn, 1) := by decide +kernel
theorem dL_deadline_15 : decode cL_deadline 15 = .ok (.iconst 0, 1) := by decide +kernel
theorem dL_deadline_16 : decode cL_deadline 16 = .ok (.ireturn, 1) := by decide +kernel
theorem dL_overAt_0 : decode cL_overAt 0 = .ok (.aload_n 2, 1) := by decide +kernel
theorem dL_overAt_1 : decode cL_overAt 1 = .ok (.iconst 0, 1) := by decide +kernel
theorem dL_overAt_2 : decode cL_overAt 2 = .ok (.aload_n 0, 1) := by decide +kernel
theorem dL_overAt_3 : decode cL_overAt 3 = .ok (.iload_n 1, 1) := by decide +kernel
theorem dL_overAt_4 : decode cL_overAt 4 = .ok (.invokevirtual 46, 3) := by decide +kernel
theorem dL_overAt_7 : decode cL_overAt 7 = .ok (.i2l, 1) := by decide +kernel
theorem dL_overAt_8 : decode cL_overAt 8 = .ok (.lastore, 1) := by decide +kernel
theorem dL_overAt_9 : decode cL_overAt 9 = .ok (.goto 6, 3) := by decide +kernel
theorem dL_overAt_12 : decode cL_overAt 12 = .ok (.astore_n 3, 1) := by decide +kernel
theorem dL_overAt_13 : decode cL_overAt 13 = .ok (.iconst 1, 1) := by decide +kernel
theorem dL_overAt_14 : decode cL_overAt 14 = .ok (.ireturn, 1) := by decide +kernel
theorem dL_overAt_15 : decode cL_overAt 15 = .ok (.iconst 0, 1) := by decide +kernel
theorem dL_overAt_16 : decode cL_overAt 16 = .ok (.ireturn, 1) := by decide +kernel
theorem dL_place_0 : decode cL_place 0 = .ok (.aload_n 2, 1) := by decide +kernel
theorem dL_place_1 : decode cL_place 1 = .ok (.iconst 0, 1) := by decide +kernel
theorem dL_place_2 : decode cL_place 2 = .ok (.aload_n 0, 1) := by decide +kernel
theorem dL_place_3 : decode cL_place 3 = .ok (.iload_n 1, 1) := by decide +kernel
theorem dL_place_4 : decode cL_place 4 = .ok (.invokevirtual 49, 3) := by decide +kernel
theorem dL_place_7 : decode cL_place 7 = .ok (.i2l, 1) := by decide +kernel
theorem dL_place_8 : decode cL_place 8 = .ok (.lastore, 1) := by decide +kernel
theorem dL_place_9 : decode cL_place 9 = .ok (.goto 6, 3) := by decide +kernel
theorem dL_place_12 : decode cL_place 12 = .ok (.astore_n 3, 1) := by decide +kernel
theorem dL_place_13 : decode cL_place 13 = .ok (.iconst 1, 1) := by decide +kernel
theorem dL_place_14 : decode cL_place 14 = .ok (.ireturn, 1) := by decide +kernel
theorem dL_place_15 : decode cL_place 15 = .ok (.iconst 0, 1) := by decide +kernel
theorem dL_place_16 : decode cL_place 16 = .ok (.ireturn, 1) := by decide +kernel
theorem dL_below_0 : decode cL_below 0 = .ok (.aload_n 2, 1) := by decide +kernel
theorem dL_below_1 : decode cL_below 1 = .ok (.iconst 0, 1) := by decide +kernel
theorem dL_below_2 : decode cL_below 2 = .ok (.aload_n 0, 1) := by decide +kernel
theorem dL_below_3 : decode cL_below 3 = .ok (.iload_n 1, 1) := by decide +kernel
theorem dL_below_4 : decode cL_below 4 = .ok (.invokevirtual 52, 3) := by decide +kernel
theorem dL_below_7 : decode cL_below 7 = .ok (.i2l, 1) := by decide +kernel
theorem dL_below_8 : decode cL_below 8 = .ok (.lastore, 1) := by decide +kernel
theorem dL_below_9 : decode cL_below 9 = .ok (.goto 6, 3) := by decide +kernel
theorem dL_below_12 : decode cL_below 12 = .ok (.astore_n 3, 1) := by decide +kernel
theorem dL_below_13 : decode cL_below 13 = .ok (.iconst 1, 1) := by decide +kernel
theorem dL_below_14 : decode cL_below 14 = .ok (.ireturn, 1) := by decide +kernel
theorem dL_below_15 : decode cL_below 15 = .ok (.iconst 0, 1) := by decide +kernel
theorem dL_below_16 : decode cL_below 16 = .ok (.ireturn, 1) := by decide +kernel
theorem dL_queuedAt_0 : decode cL_queuedAt 0 = .ok (.aload_n 3, 1) := by decide +kernel
theorem dL_queuedAt_1 : decode cL_queuedAt 1 = .ok (.iconst 0, 1) := by decide +kernel
theorem dL_queuedAt_2 : decode cL_queuedAt 2 = .ok (.aload_n 0, 1) := by decide +kernel
theorem dL_queuedAt_3 : decode cL_queuedAt 3 = .ok (.iload_n 1, 1) := by decide +kernel
theorem dL_queuedAt_4 : decode cL_queuedAt 4 = .ok (.iload_n 2, 1) := by decide +kernel
theorem dL_queuedAt_5 : decode cL_queuedAt 5 = .ok (.invokevirtual 55, 3) := by decide +kernel
theorem dL_queuedAt_8 : decode cL_queuedAt 8 = .ok (.i2l, 1) := by decide +kernel
theorem dL_queuedAt_9 : decode cL_queuedAt 9 = .ok (.lastore, 1) := by decide +kernel
theorem dL_queuedAt_10 : decode cL_queuedAt 10 = .ok (.goto 7, 3) := by decide +kernel
theorem dL_queuedAt_13 : decode cL_queuedAt 13 = .ok (.astore 4, 2) := by decide +kernel
theorem dL_queuedAt_15 : decode cL_queuedAt 15 = .ok (.iconst 1, 1) := by decide +kernel
theorem dL_queuedAt_16 : decode cL_queuedAt 16 = .ok (.ireturn, 1) := by decide +kernel
theorem dL_queuedAt_17 : decode cL_queuedAt 17 = .ok (.iconst 0, 1) := by decide +kernel
theorem dL_queuedAt_18 : decode cL_queuedAt 18 = .ok (.ireturn, 1) := by decide +kernel
theorem dL_count_0 : decode cL_count 0 = .ok (.aload_n 3, 1) := by decide +kernel
theorem dL_count_1 : decode cL_count 1 = .ok (.iconst 0, 1) := by decide +kernel
theorem dL_count_2 : decode cL_count 2 = .ok (.aload_n 0, 1) := by decide +kernel
theorem dL_count_3 : decode cL_count 3 = .ok (.iload_n 1, 1) := by decide +kernel
theorem dL_count_4 : decode cL_count 4 = .ok (.iload_n 2, 1) := by decide +kernel
theorem dL_count_5 : decode cL_count 5 = .ok (.invokevirtual 58, 3) := by decide +kernel
theorem dL_count_8 : decode cL_count 8 = .ok (.i2l, 1) := by decide +kernel
theorem dL_count_9 : decode cL_count 9 = .ok (.lastore, 1) := by decide +kernel
theorem dL_count_10 : decode cL_count 10 = .ok (.goto 11, 3) := by decide +kernel
theorem dL_count_13 : decode cL_count 13 = .ok (.astore 4, 2) := by decide +kernel
theorem dL_count_15 : decode cL_count 15 = .ok (.iconst 1, 1) := by decide +kernel
theorem dL_count_16 : decode cL_count 16 = .ok (.ireturn, 1) := by decide +kernel
theorem dL_count_17 : decode cL_count 17 = .ok (.astore 4, 2) := by decide +kernel
theorem dL_count_19 : decode cL_count 19 = .ok (.iconst 2, 1) := by decide +kernel
theorem dL_count_20 : decode cL_count 20 = .ok (.ireturn, 1) := by decide +kernel
theorem dL_count_21 : decode cL_count 21 = .ok (.iconst 0, 1) := by decide +kernel
theorem dL_count_22 : decode cL_count 22 = .ok (.ireturn, 1) := by decide +kernel
theorem dL_tokens_0 : decode cL_tokens 0 = .ok (.aload_n 2, 1) := by decide +kernel
theorem dL_tokens_1 : decode cL_tokens 1 = .ok (.iconst 0, 1) := by decide +kernel
theorem dL_tokens_2 : decode cL_tokens 2 = .ok (.aload_n 0, 1) := by decide +kernel
theorem dL_tokens_3 : decode cL_tokens 3 = .ok (.iload_n 1, 1) := by decide +kernel
theorem dL_tokens_4 : decode cL_tokens 4 = .ok (.invokevirtual 61, 3) := by decide +kernel
theorem dL_tokens_7 : decode cL_tokens 7 = .ok (.i2l, 1) := by decide +kernel
theorem dL_tokens_8 : decode cL_tokens 8 = .ok (.lastore, 1) := by decide +kernel
theorem dL_tokens_9 : decode cL_tokens 9 = .ok (.goto 6, 3) := by decide +kernel
theorem dL_tokens_12 : decode cL_tokens 12 = .ok (.astore_n 3, 1) := by decide +kernel
theorem dL_tokens_13 : decode cL_tokens 13 = .ok (.iconst 1, 1) := by decide +kernel
theorem dL_tokens_14 : decode cL_tokens 14 = .ok (.ireturn, 1) := by decide +kernel
theorem dL_tokens_15 : decode cL_tokens 15 = .ok (.iconst 0, 1) := by decide +kernel
theorem dL_tokens_16 : decode cL_tokens 16 = .ok (.ireturn, 1) := by decide +kernel
theorem dL_isOpen_0 : decode cL_isOpen 0 = .ok (.aload_n 2, 1) := by decide +kernel
theorem dL_isOpen_1 : decode cL_isOpen 1 = .ok (.iconst 0, 1) := by decide +kernel
theorem dL_isOpen_2 : decode cL_isOpen 2 = .ok (.aload_n 0, 1) := by decide +kernel
theorem dL_isOpen_3 : decode cL_isOpen 3 = .ok (.iload_n 1, 1) := by decide +kernel
theorem dL_isOpen_4 : decode cL_isOpen 4 = .ok (.invokevirtual 64, 3) := by decide +kernel
theorem dL_isOpen_7 : decode cL_isOpen 7 = .ok (.ifCond .eq 7, 3) := by decide +kernel
theorem dL_isOpen_10 : decode cL_isOpen 10 = .ok (.lconst 1, 1) := by decide +kernel
theorem dL_isOpen_11 : decode cL_isOpen 11 = .ok (.goto 4, 3) := by decide +kernel
theorem dL_isOpen_14 : decode cL_isOpen 14 = .ok (.lconst 0, 1) := by decide +kernel
theorem dL_isOpen_15 : decode cL_isOpen 15 = .ok (.lastore, 1) := by decide +kernel
theorem dL_isOpen_16 : decode cL_isOpen 16 = .ok (.goto 6, 3) := by decide +kernel
theorem dL_isOpen_19 : decode cL_isOpen 19 = .ok (.astore_n 3, 1) := by decide +kernel
theorem dL_isOpen_20 : decode cL_isOpen 20 = .ok (.iconst 1, 1) := by decide +kernel
theorem dL_isOpen_21 : decode cL_isOpen 21 = .ok (.ireturn, 1) := by decide +kernel
theorem dL_isOpen_22 : decode cL_isOpen 22 = .ok (.iconst 0, 1) := by decide +kernel
theorem dL_isOpen_23 : decode cL_isOpen 23 = .ok (.ireturn, 1) := by decide +kernel
end
section
/-- the words of the one list, chunk by chunk: all of them are in it, and good -/
theorem mw_B : ∀ w ∈ (wsL_law0_r1 ++ (wsL_law0_r2 ++ (wsL_law0_r3 ++ (wsL_law0_r4 ++ (wsL_law0_r5 ++ (wsL_law0_r6 ++ (wsL_law0_r7 ++ (wsL_law0_r8 ++ (wsL_law0_r9 ++ (wsL_law0_r10 ++ (wsL_law0_r11 ++ (wsL_law0_r12 ++ (wsL_law0_r13 ++ (wsL_law0_r14 ++ (wsL_law0_r15 ++ (wsL_law0_r16 ++ (wsL_law0_r17 ++ (wsL_law0_r18 ++ (wsL_law0_r19 ++ (wsL_law0_r20 ++ (wsL_law0_r21 ++ (wsL_law0_r22 ++ (wsL_law0_r23 ++ (wsL_law0_r24 ++ (wsL_law0_r25))))))))))))))))))))))))), w ∈ wsL_law := fun _ h => List.mem_append_left _ (List.mem_append_left _ (List.mem_append_left _ (List.mem_append_left _ (List.mem_append_left _ (List.mem_append_left _ (List.mem_append_left _ (List.mem_append_left _ (h))))))))
theorem mw_1 : ∀ w ∈ wsL_law0_r1, w ∈ wsL_law := fun w h => mw_B w (List.mem_append_left _ h)
theorem mw_2 : ∀ w ∈ wsL_law0_r2, w ∈ wsL_law := fun w h => mw_B w (List.mem_append_right _ (List.mem_append_left _ h))
theorem mw_3 : ∀ w ∈ wsL_law0_r3, w ∈ wsL_law := fun w h => mw_B w (List.mem_append_right _ (List.mem_append_right _ (List.mem_append_left _ h)))
theorem mw_4 : ∀ w ∈ wsL_law0_r4, w ∈ wsL_law := fun w h => mw_B w (List.mem_append_right _ (List.mem_append_right _ (List.mem_append_right _ (List.mem_append_left _ h))))
theorem mw_5 : ∀ w ∈ wsL_law0_r5, w ∈ wsL_law := fun w h => mw_B w (List.mem_append_right _ (List.mem_append_right _ (List.mem_append_right _ (List.mem_append_right _ (List.mem_append_left _ h)))))
theorem mw_6 : ∀ w ∈ wsL_law0_r6, w ∈ wsL_law := fun w h => mw_B w (List.mem_append_right _ (List.mem_append_right _ (List.mem_append_right _ (List.mem_append_right _ (List.mem_append_right _ (List.mem_append_left _ h))))))
theorem mw_7 : ∀ w ∈ wsL_law0_r7, w ∈ wsL_law := fun w h => mw_B w (List.mem_append_right _ (List.mem_append_right _ (List.mem_append_right _ (List.mem_append_right _ (List.mem_append_right _ (List.mem_append_right _ (List.mem_append_left _ h)))))))
theorem mw_8 : ∀ w ∈ wsL_law0_r8, w ∈ wsL_law := fun w h => mw_B w (List.mem_append_right _ (List.mem_append_right _ (List.mem_append_right _ (List.mem_append_right _ (List.mem_append_right _ (List.mem_append_right _ (List.mem_append_right _ (List.mem_append_left _ h))))))))
theorem mw_9 : ∀ w ∈ wsL_law0_r9, w ∈ wsL_law := fun w h => mw_B w (List.mem_append_right _ (List.mem_append_right _ (List.mem_append_right _ (List.mem_append_right _ (List.mem_append_right _ (List.mem_append_right _ (List.mem_append_right _ (List.mem_append_right _ (List.mem_append_left _ h)))))))))
theorem mw_10 : ∀ w ∈ wsL_law0_r10, w ∈ wsL_law := fun w h => mw_B w (List.mem_append_right _ (List.mem_append_right _ (List.mem_append_right _ (List.mem_append_right _ (List.mem_append_right _ (List.mem_append_right _ (List.mem_append_right _ (List.mem_append_right _ (List.mem_append_right _ (List.mem_append_left _ h))))))))))
theorem mw_11 : ∀ w ∈ wsL_law0_r11, w ∈ wsL_law := fun w h => mw_B w (List.mem_append_right _ (List.mem_append_right _ (List.mem_append_right _ (List.mem_append_right _ (List.mem_append_right _ (List.mem_append_right _ (List.mem_append_right _ (List.mem_append_right _ (List.mem_append_right _ (List.mem_append_right _ (List.mem_append_left _ h)))))))))))
theorem mw_12 : ∀ w ∈ wsL_law0_r12, w ∈ wsL_law := fun w h => mw_B w (List.mem_append_right _ (List.mem_append_right _ (List.mem_append_right _ (List.mem_append_right _ (List.mem_append_right _ (List.mem_append_right _ (List.mem_append_right _ (List.mem_append_right _ (List.mem_append_right _ (List.mem_append_right _ (List.mem_append_right _ (List.mem_append_left _ h))))))))))))
theorem mw_13 : ∀ w ∈ wsL_law0_r13, w ∈ wsL_law := fun w h => mw_B w (List.mem_append_right _ (List.mem_append_right _ (List.mem_append_right _ (List.mem_append_right _ (List.mem_append_right _ (List.mem_append_right _ (List.mem_append_right _ (List.mem_append_right _ (List.mem_append_right _ (List.mem_append_right _ (List.mem_append_right _ (List.mem_append_right _ (List.mem_append_left _ h)))))))))))))
theorem mw_14 : ∀ w ∈ wsL_law0_r14, w ∈ wsL_law := fun w h => mw_B w (List.mem_append_right _ (List.mem_append_right _ (List.mem_append_right _ (List.mem_append_right _ (List.mem_append_right _ (List.mem_append_right _ (List.mem_append_right _ (List.mem_append_right _ (List.mem_append_right _ (List.mem_append_right _ (List.mem_append_right _ (List.mem_append_right _ (List.mem_append_right _ (List.mem_append_left _ h))))))))))))))
theorem mw_15 : ∀ w ∈ wsL_law0_r15, w ∈ wsL_law := fun w h => mw_B w (List.mem_append_right _ (List.mem_append_right _ (List.mem_append_right _ (List.mem_append_right _ (List.mem_append_right _ (List.mem_append_right _ (List.mem_append_right _ (List.mem_append_right _ (List.mem_append_right _ (List.mem_append_right _ (List.mem_append_right _ (List.mem_append_right _ (List.mem_append_right _ (List.mem_append_right _ (List.mem_append_left _ h)))))))))))))))
theorem mw_16 : ∀ w ∈ wsL_law0_r16, w ∈ wsL_law := fun w h => mw_B w (List.mem_append_right _ (List.mem_append_right _ (List.mem_append_right _ (List.mem_append_right _ (List.mem_append_right _ (List.mem_append_right _ (List.mem_append_right _ (List.mem_append_right _ (List.mem_append_right _ (List.mem_append_right _ (List.mem_append_right _ (List.mem_append_right _ (List.mem_append_right _ (List.mem_append_right _ (List.mem_append_right _ (List.mem_append_left _ h))))))))))))))))
theorem mw_17 : ∀ w ∈ wsL_law0_r17, w ∈ wsL_law := fun w h => mw_B w (List.mem_append_right _ (List.mem_append_right _ (List.mem_append_right _ (List.mem_append_right _ (List.mem_append_right _ (List.mem_append_right _ (List.mem_append_right _ (List.mem_append_right _ (List.mem_append_right _ (List.mem_append_right _ (List.mem_append_right _ (List.mem_append_right _ (List.mem_append_right _ (List.mem_append_right _ (List.mem_append_right _ (List.mem_append_right _ (List.mem_append_left _ h)))))))))))))))))
theorem mw_18 : ∀ w ∈ wsL_law0_r18, w ∈ wsL_law := fun w h => mw_B w (List.mem_append_right _ (List.mem_append_right _ (List.mem_append_right _ (List.mem_append_right _ (List.mem_append_right _ (List.mem_append_right _ (List.mem_append_right _ (List.mem_append_right _ (List.mem_append_right _ (List.mem_append_right _ (List.mem_append_right _ (List.mem_append_right _ (List.mem_append_right _ (List.mem_append_right _ (List.mem_append_right _ (List.mem_append_right _ (List.mem_append_right _ (List.mem_append_left _ h))))))))))))))))))
theorem mw_19 : ∀ w ∈ wsL_law0_r19, w ∈ wsL_law := fun w h => mw_B w (List.mem_append_right _ (List.mem_append_right _ (List.mem_append_right _ (List.mem_append_right _ (List.mem_append_right _ (List.mem_append_right _ (List.mem_append_right _ (List.mem_append_right _ (List.mem_append_right _ (List.mem_append_right _ (List.mem_append_right _ (List.mem_append_right _ (List.mem_append_right _ (List.mem_append_right _ (List.mem_append_right _ (List.mem_append_right _ (List.mem_append_right _ (List.mem_append_right _ (List.mem_append_left _ h)))))))))))))))))))
theorem mw_20 : ∀ w ∈ wsL_law0_r20, w ∈ wsL_law := fun w h => mw_B w (List.mem_append_right _ (List.mem_append_right _ (List.mem_append_right _ (List.mem_append_right _ (List.mem_append_right _ (List.mem_append_right _ (List.mem_append_right _ (List.mem_append_right _ (List.mem_append_right _ (List.mem_append_right _ (List.mem_append_right _ (List.mem_append_right _ (List.mem_append_right _ (List.mem_append_right _ (List.mem_append_right _ (List.mem_append_right _ (List.mem_append_right _ (List.mem_append_right _ (List.mem_append_right _ (List.mem_append_left _ h))))))))))))))))))))
theorem mw_21 : ∀ w ∈ wsL_law0_r21, w ∈ wsL_law := fun w h => mw_B w (List.mem_append_right _ (List.mem_append_right _ (List.mem_append_right _ (List.mem_append_right _ (List.mem_append_right _ (List.mem_append_right _ (List.mem_append_right _ (List.mem_append_right _ (List.mem_append_right _ (List.mem_append_right _ (List.mem_append_right _ (List.mem_append_right _ (List.mem_append_right _ (List.mem_append_right _ (List.mem_append_right _ (List.mem_append_right _ (List.mem_append_right _ (List.mem_append_right _ (List.mem_append_right _ (List.mem_append_right _ (List.mem_append_left _ h)))))))))))))))))))))
theorem mw_22 : ∀ w ∈ wsL_law0_r22, w ∈ wsL_law := fun w h => mw_B w (List.mem_append_right _ (List.mem_append_right _ (List.mem_append_right _ (List.mem_append_right _ (List.mem_append_right _ (List.mem_append_right _ (List.mem_append_right _ (List.mem_append_right _ (List.mem_append_right _ (List.mem_append_right _ (List.mem_append_right _ (List.mem_append_right _ (List.mem_append_right _ (List.mem_append_right _ (List.mem_append_right _ (List.mem_append_right _ (List.mem_append_right _ (List.mem_append_right _ (List.mem_append_right _ (List.mem_append_right _ (List.mem_append_right _ (List.mem_append_left _ h))))))))))))))))))))))
theorem mw_23 : ∀ w ∈ wsL_law0_r23, w ∈ wsL_law := fun w h => mw_B w (List.mem_append_right _ (List.mem_append_right _ (List.mem_append_right _ (List.mem_append_right _ (List.mem_append_right _ (List.mem_append_right _ (List.mem_append_right _ (List.mem_append_right _ (List.mem_append_right _ (List.mem_append_right _ (List.mem_append_right _ (List.mem_append_right _ (List.mem_append_right _ (List.mem_append_right _ (List.mem_append_right _ (List.mem_append_right _ (List.mem_append_right _ (List.mem_append_right _ (List.mem_append_right _ (List.mem_append_right _ (List.mem_append_right _ (List.mem_append_right _ (List.mem_append_left _ h)))))))))))))))))))))))
theorem mw_24 : ∀ w ∈ wsL_law0_r24, w ∈ wsL_law := fun w h => mw_B w (List.mem_append_right _ (List.mem_append_right _ (List.mem_append_right _ (List.mem_append_right _ (List.mem_append_right _ (List.mem_append_right _ (List.mem_append_right _ (List.mem_append_right _ (List.mem_append_right _ (List.mem_append_right _ (List.mem_append_right _ (List.mem_append_right _ (List.mem_append_right _ (List.mem_append_right _ (List.mem_append_right _ (List.mem_append_right _ (List.mem_append_right _ (List.mem_append_right _ (List.mem_append_right _ (List.mem_append_right _ (List.mem_append_right _ (List.mem_append_right _ (List.mem_append_right _ (List.mem_append_left _ h))))))))))))))))))))))))
theorem mw_25 : ∀ w ∈ wsL_law0_r25, w ∈ wsL_law := fun w h => mw_B w (List.mem_append_right _ (List.mem_append_right _ (List.mem_append_right _ (List.mem_append_right _ (List.mem_append_right _ (List.mem_append_right _ (List.mem_append_right _ (List.mem_append_right _ (List.mem_append_right _ (List.mem_append_right _ (List.mem_append_right _ (List.mem_append_right _ (List.mem_append_right _ (List.mem_append_right _ (List.mem_append_right _ (List.mem_append_right _ (List.mem_append_right _ (List.mem_append_right _ (List.mem_append_right _ (List.mem_append_right _ (List.mem_append_right _ (List.mem_append_right _ (List.mem_append_right _ (List.mem_append_right _ h))))))))))))))))))))))))
theorem mg_1 : wsL_law0_r1.all goodWord = true := by decide +kernel
theorem mg_2 : wsL_law0_r2.all goodWord = true := by decide +kernel
theorem mg_3 : wsL_law0_r3.all goodWord = true := by decide +kernel
theorem mg_4 : wsL_law0_r4.all goodWord = true := by decide +kernel
theorem mg_5 : wsL_law0_r5.all goodWord = true := by decide +kernel
theorem mg_6 : wsL_law0_r6.all goodWord = true := by decide +kernel
theorem mg_7 : wsL_law0_r7.all goodWord = true := by decide +kernel
theorem mg_8 : wsL_law0_r8.all goodWord = true := by decide +kernel
theorem mg_9 : wsL_law0_r9.all goodWord = true := by decide +kernel
theorem mg_10 : wsL_law0_r10.all goodWord = true := by decide +kernel
theorem mg_11 : wsL_law0_r11.all goodWord = true := by decide +kernel
theorem mg_12 : wsL_law0_r12.all goodWord = true := by decide +kernel
theorem mg_13 : wsL_law0_r13.all goodWord = true := by decide +kernel
theorem mg_14 : wsL_law0_r14.all goodWord = true := by decide +kernel
theorem mg_15 : wsL_law0_r15.all goodWord = true := by decide +kernel
theorem mg_16 : wsL_law0_r16.all goodWord = true := by decide +kernel
theorem mg_17 : wsL_law0_r17.all goodWord = true := by decide +kernel
theorem mg_18 : wsL_law0_r18.all goodWord = true := by decide +kernel
theorem mg_19 : wsL_law0_r19.all goodWord = true := by decide +kernel
theorem mg_20 : wsL_law0_r20.all goodWord = true := by decide +kernel
theorem mg_21 : wsL_law0_r21.all goodWord = true := by decide +kernel
theorem mg_22 : wsL_law0_r22.all goodWord = true := by decide +kernel
theorem mg_23 : wsL_law0_r23.all goodWord = true := by decide +kernel
theorem mg_24 : wsL_law0_r24.all goodWord = true := by decide +kernel
theorem mg_25 : wsL_law0_r25.all goodWord = true := by decide +kernel
theorem mgx_0 : (wsX00).all goodWord = true := by decide +kernel
theorem mgx_1 : (wsX10).all goodWord = true := by decide +kernel
theorem mgx_2 : (wsX20).all goodWord = true := by decide +kernel
theorem mgx_3 : (wsX30).all goodWord = true := by decide +kernel
theorem mg_of {l : List Cond} (h : l.all goodWord = true) : ∀ w ∈ l, goodWord w = true := List.all_eq_true.mp h
theorem mg_fi (l : List Cond) : ∀ w ∈ l.filter goodWord, goodWord w = true := fun _ h => (List.mem_filter.mp h).2
theorem mg_ap {a b : List Cond} (ha : ∀ w ∈ a, goodWord w = true) (hb : ∀ w ∈ b, goodWord w = true) : ∀ w ∈ a ++ b, goodWord w = true := fun w h => (List.mem_append.mp h).elim (ha w) (hb w)
theorem m_good : ∀ w ∈ wsL_law, (w.onTables && w.keeps) = true ∨ ∃ ty, w = .arrayClass ty := fun w hw => good_of_word ((show ∀ w ∈ wsL_law, goodWord w = true from mg_ap (mg_ap (mg_ap (mg_ap (mg_ap (mg_ap (mg_ap (mg_ap (mg_ap (mg_of mg_1) ((mg_ap (mg_of mg_2) ((mg_ap (mg_of mg_3) ((mg_ap (mg_of mg_4) ((mg_ap (mg_of mg_5) ((mg_ap (mg_of mg_6) ((mg_ap (mg_of mg_7) ((mg_ap (mg_of mg_8) ((mg_ap (mg_of mg_9) ((mg_ap (mg_of mg_10) ((mg_ap (mg_of mg_11) ((mg_ap (mg_of mg_12) ((mg_ap (mg_of mg_13) ((mg_ap (mg_of mg_14) ((mg_ap (mg_of mg_15) ((mg_ap (mg_of mg_16) ((mg_ap (mg_of mg_17) ((mg_ap (mg_of mg_18) ((mg_ap (mg_of mg_19) ((mg_ap (mg_of mg_20) ((mg_ap (mg_of mg_21) ((mg_ap (mg_of mg_22) ((mg_ap (mg_of mg_23) ((mg_ap (mg_of mg_24) (mg_of mg_25)))))))))))))))))))))))))))))))))))))))))))))))) (mg_of mgx_2)) (mg_of mgx_3)) (mg_of mgx_1)) (mg_of mgx_0)) (fun _ h => absurd h List.not_mem_nil)) (mg_fi _)) (mg_fi _)) (mg_fi _)) w hw)
end
section
/-! THE STORE: cells by number (not by address), ints and references by cell and place. A world is a map of numbers to addresses (ad), apart, the next ones being the heap's next ones. -/
abbrev mS : Type := Nat × (Nat → Nat → Int32) × (Nat → Nat → Option Nat)
def mN (σ : mS) : Nat := σ.1
def mI (σ : mS) (i k : Nat) : Int32 := σ.2.1 i k
def mR (σ : mS) (i k : Nat) : Option Nat := σ.2.2 i k
def sI (σ : mS) (i k : Nat) (v : Int32) : mS := (σ.1, fun a b => if a = i ∧ b = k then v else σ.2.1 a b, σ.2.2)
def sR (σ : mS) (i k : Nat) (v : Option Nat) : mS := (σ.1, σ.2.1, fun a b => if a = i ∧ b = k then v else σ.2.2 a b)
def sN (σ : mS) : mS := (σ.1 + 1, fun a b => if a = σ.1 then 0 else σ.2.1 a b, fun a b => if a = σ.1 then none else σ.2.2 a b)
theorem mN_sI (σ : mS) (i k : Nat) (v : Int32) : mN (sI σ i k v) = mN σ := rfl
theorem mN_sR (σ : mS) (i k : Nat) (v : Option Nat) : mN (sR σ i k v) = mN σ := rfl
theorem mN_sN (σ : mS) : mN (sN σ) = mN σ + 1 := rfl
theorem mI_sI (σ : mS) (i k : Nat) (v : Int32) (a b : Nat) : mI (sI σ i k v) a b = if a = i ∧ b = k then v else mI σ a b := rfl
theorem mI_sR (σ : mS) (i k : Nat) (v : Option Nat) (a b : Nat) : mI (sR σ i k v) a b = mI σ a b := rfl
theorem mR_sI (σ : mS) (i k : Nat) (v : Int32) (a b : Nat) : mR (sI σ i k v) a b = mR σ a b := rfl
theorem mR_sR (σ : mS) (i k : Nat) (v : Option Nat) (a b : Nat) : mR (sR σ i k v) a b = if a = i ∧ b = k then v else mR σ a b := rfl
theorem mI_sN (σ : mS) (a b : Nat) : mI (sN σ) a b = if a = mN σ then 0 else mI σ a b := rfl
theorem mR_sN (σ : mS) (a b : Nat) : mR (sN σ) a b = if a = mN σ then none else mR σ a b := rfl
/-- the classes that hold: 0 Call, 1 Service, 2 DeadlineCalls, 3 the reference; a place is an int (0), a reference (1), or a cell of the same maker for good (2, how far on) -/
def mFk : Nat → Nat → Nat × Nat
  | 0, 1 => (1, 0)
  | 0, 2 => (1, 0)
  | 0, 7 => (1, 0)
  | 0, 8 => (1, 0)
  | 0, 11 => (1, 0)
  | 1, 10 => (2, 1)
  | 1, 12 => (2, 2)
  | 2, 0 => (2, 1)
  | 2, 1 => (2, 2)
  | 2, 5 => (1, 0)
  | 2, 6 => (1, 0)
  | 3, 2 => (2, 1)
  | 3, 3 => (2, 2)
  | 3, 4 => (2, 3)
  | 3, 5 => (2, 4)
  | 3, 6 => (2, 5)
  | 3, 7 => (2, 6)
  | 3, 8 => (2, 7)
  | 3, 9 => (2, 8)
  | 3, 10 => (2, 9)
  | 3, 11 => (2, 10)
  | 3, 12 => (2, 11)
  | 3, 14 => (2, 12)
  | 3, 15 => (2, 13)
  | 3, 16 => (2, 14)
  | 3, 17 => (2, 15)
  | 3, 18 => (2, 16)
  | 3, 19 => (2, 17)
  | 3, 20 => (2, 18)
  | 3, 21 => (2, 19)
  | 3, 22 => (2, 20)
  | 3, 23 => (2, 21)
  | 3, 24 => (2, 22)
  | 3, 25 => (2, 23)
  | 3, 26 => (2, 24)
  | 3, 27 => (2, 25)
  | 4, 10 => (1, 0)
  | 4, 12 => (1, 0)
  | 5, 0 => (1, 0)
  | 5, 1 => (1, 0)
  | 5, 5 => (1, 0)
  | 5, 6 => (1, 0)
  | 6, 2 => (1, 0)
  | 6, 3 => (1, 0)
  | 6, 4 => (1, 0)
  | 6, 5 => (1, 0)
  | 6, 6 => (1, 0)
  | 6, 7 => (1, 0)
  | 6, 8 => (1, 0)
  | 6, 9 => (1, 0)
  | 6, 10 => (1, 0)
  | 6, 11 => (1, 0)
  | 6, 12 => (1, 0)
  | 6, 14 => (1, 0)
  | 6, 15 => (1, 0)
  | 6, 16 => (1, 0)
  | 6, 17 => (1, 0)
  | 6, 18 => (1, 0)
  | 6, 19 => (1, 0)
  | 6, 20 => (1, 0)
  | 6, 21 => (1, 0)
  | 6, 22 => (1, 0)
  | 6, 23 => (1, 0)
  | 6, 24 => (1, 0)
  | 6, 25 => (1, 0)
  | 6, 26 => (1, 0)
  | 6, 27 => (1, 0)
  | _, _ => (0, 0)
def mNf : Nat → Nat
  | 0 => 18
  | 1 => 13
  | 2 => 7
  | 4 => 13
  | 5 => 7
  | _ => 28
/-- what a cell of the class's world is: (0, its class), (1, how long: ints), (2, how long: booleans), (3, how long: calls), (4, how long: services) -/
def kdC (i : Nat) : Nat × Nat := if i = 0 then (0, 2) else if i = 1 then (4, 6) else if i = 2 then (3, 200) else if 21 ≤ i then (0, 0) else if i % 3 = 0 then (0, 1) else if i % 3 = 1 then (4, 3) else (1, 8)
/-- .. and of the reference's -/
def kdM (i : Nat) : Nat × Nat := if i = 0 then (0, 3) else if i = 5 then (1, 18) else if i ≤ 11 then (1, 6) else if i = 20 then (1, 600) else if i ≤ 23 then (1, 200) else (2, 200)
abbrev mG : Type := va_G × ClassId × ClassId × ClassId × ClassId
def mTys (G : mG) : List (ClassId × FieldType) := [(G.2.1, .int), (G.2.2.1, .boolean), (G.2.2.2.1, .object RX0), (G.2.2.2.2, .object RX1)]
def mV (ad : Nat → Nat) (r : Option Nat) : Value := va_rf (r.map ad)
def mF (ad : Nat → Nat) (σ : mS) (i : Nat) (q : Nat × Nat) (k : Nat) : Value := match q.1 with
  | 0 => .int (mI σ i k)
  | 1 => mV ad (mR σ i k)
  | _ => .ref (ad (i + q.2))
def mL (ad : Nat → Nat) (σ : mS) (i ci : Nat) : List Value := (List.range (mNf ci)).map (fun k => mF ad σ i (mFk ci k) k)
def mE (G : mG) (kd : Nat → Nat × Nat) (ad : Nat → Nat) (σ : mS) (i : Nat) : va_E := match (kd i).1 with
  | 0 => .inr ((kd i).2, mL ad σ i (kd i).2)
  | 1 => .inl (G.2.1, (kd i).2, .inl (mI σ i))
  | 2 => .inl (G.2.2.1, (kd i).2, .inl (mI σ i))
  | 3 => .inl (G.2.2.2.1, (kd i).2, .inr (.inr (.inr (.inr (fun j => (mR σ i j).map ad)))))
  | _ => .inl (G.2.2.2.2, (kd i).2, .inr (.inr (.inr (.inr (fun j => (mR σ i j).map ad)))))
def mP (G : mG) (kd : Nat → Nat × Nat) (ad : Nat → Nat) (σ : mS) (H : Heap) : Prop :=
  (∀ i, i < mN σ → va_at G.1 vwCl (ad i, mE G kd ad σ i) H) ∧ (∀ i j, ad i = ad j → i = j) ∧ (∀ j, ad (mN σ + j) = H.size + j) ∧ ∀ i, kd i ≠ (0, 0) → i < 26 → (kd 0).2 ≤ 3 → i < mN σ
def mA (ad : Nat → Nat) : Nat → Prop := fun q => ∃ i, ad i = q
def mM (G : mG) (kd : Nat → Nat × Nat) (ad : Nat → Nat) (s : State) (σ : mS) (H : Heap) (locs : List Loc) : Prop := mP G kd ad σ H ∧ va_S (mA ad) s.heap H locs
def mO (kd : Nat → Nat × Nat) (ci i : Nat) (σ : mS) : Prop := kd i = (0, ci) ∧ i < mN σ
/-- an array of a kind and a length -/
def mB (kd : Nat → Nat × Nat) (t n i : Nat) (σ : mS) : Prop := kd i = (t, n) ∧ i < mN σ
def mX (p : Program) (s : State) (m : MethodId) (c : Code) (cc : ByteArray) (nL : Nat) (args : Array Value) (own : String) (G : mG) : Prop :=
  CallFix p m c cc nL s args wsL_law own ∧ va_K G.1 vwCl (mTys G) s
/-- the locals that are held, each of one slot -/
def ml_has (ls : Array Slot) (nL : Nat) (l : List (Nat × Value)) : Prop := lv_has ls nL l ∧ ∀ q ∈ l, q.2.category = 1
theorem mV_cat (ad : Nat → Nat) (r : Option Nat) : (mV ad r).category = 1 := by cases r <;> rfl
theorem mV_some (ad : Nat → Nat) (i : Nat) : mV ad (some i) = .ref (ad i) := rfl
theorem mV_none (ad : Nat → Nat) : mV ad none = .null := rfl
theorem ml_at {ls : Array Slot} {nL : Nat} {l : List (Nat × Value)} (h : ml_has ls nL l) (k : Nat) {i : Nat} {v : Value} (hk : l[k]? = some (i, v)) : ls[i]? = some (.val v) := lv_at h.1 k hk
theorem ml_sub {ls : Array Slot} {nL : Nat} {l l' : List (Nat × Value)} (h : ml_has ls nL l) (ks : List Nat) (hl : lv_pick l ks = l') : ml_has ls nL l' := by
  refine ⟨lv_sub h.1 ks hl, fun q hq => ?_⟩
  rw [← hl] at hq
  obtain ⟨k, -, hk⟩ := List.mem_filterMap.mp hq
  exact h.2 q (List.mem_of_getElem? hk)
theorem mE_0 {G : mG} {kd : Nat → Nat × Nat} {ad : Nat → Nat} {σ : mS} {i ci : Nat} (h : kd i = (0, ci)) : mE G kd ad σ i = .inr (ci, mL ad σ i ci) := by unfold mE; rw [h]; rfl
theorem mE_1 {G : mG} {kd : Nat → Nat × Nat} {ad : Nat → Nat} {σ : mS} {i n : Nat} (h : kd i = (1, n)) : mE G kd ad σ i = .inl (G.2.1, n, .inl (mI σ i)) := by unfold mE; rw [h]; rfl
theorem mE_2 {G : mG} {kd : Nat → Nat × Nat} {ad : Nat → Nat} {σ : mS} {i n : Nat} (h : kd i = (2, n)) : mE G kd ad σ i = .inl (G.2.2.1, n, .inl (mI σ i)) := by unfold mE; rw [h]; rfl
theorem mE_3 {G : mG} {kd : Nat → Nat × Nat} {ad : Nat → Nat} {σ : mS} {i n : Nat} (h : kd i = (3, n)) : mE G kd ad σ i = .inl (G.2.2.2.1, n, .inr (.inr (.inr (.inr (fun j => (mR σ i j).map ad))))) := by unfold mE; rw [h]; rfl
theorem mE_4 {G : mG} {kd : Nat → Nat × Nat} {ad : Nat → Nat} {σ : mS} {i n : Nat} (h : kd i = (4, n)) : mE G kd ad σ i = .inl (G.2.2.2.2, n, .inr (.inr (.inr (.inr (fun j => (mR σ i j).map ad))))) := by unfold mE; rw [h]; rfl
theorem mF_congr {ad : Nat → Nat} {σ σ' : mS} {i k : Nat} (q : Nat × Nat) (h1 : mI σ' i k = mI σ i k) (h2 : mR σ' i k = mR σ i k) : mF ad σ' i q k = mF ad σ i q k := by
  unfold mF
  split
  · rw [h1]
  · rw [h2]
  · rfl
theorem mE_congr {G : mG} {kd : Nat → Nat × Nat} {ad : Nat → Nat} {σ σ' : mS} {i : Nat} (h1 : ∀ k, mI σ' i k = mI σ i k) (h2 : ∀ k, mR σ' i k = mR σ i k) : mE G kd ad σ' i = mE G kd ad σ i := by
  have e1 : mI σ' i = mI σ i := funext h1
  have e2 : mL ad σ' i (kd i).2 = mL ad σ i (kd i).2 := List.map_congr_left (fun k _ => mF_congr _ (h1 k) (h2 k))
  unfold mE
  rw [e1, e2]
  simp only [h2]
theorem mL_get {ad : Nat → Nat} {σ : mS} {i ci k : Nat} (hk : k < mNf ci) : (mL ad σ i ci)[k]? = some (mF ad σ i (mFk ci k) k) := by
  simp [mL, hk]
theorem mL_len {ad : Nat → Nat} {σ : mS} {i ci : Nat} : (mL ad σ i ci).length = mNf ci := by simp [mL]
theorem mL_V {ad : Nat → Nat} {σ : mS} {i ci k : Nat} (hk : k < mNf ci) : vp_V (mL ad σ i ci) k = mF ad σ i (mFk ci k) k := by
  unfold vp_V
  rw [List.getD_eq_getElem?_getD, mL_get hk]
  rfl
/-- one cell is written: the store's own cell, the others as they were -/
theorem mM_set {G : mG} {kd : Nat → Nat × Nat} {ad : Nat → Nat} {s : State} {σ σ' : mS} {H H1 : Heap} {locs : List Loc} {i k : Nat} (hM : mM G kd ad s σ H locs) (hn : mN σ' = mN σ)
    (h1 : ∀ a b, a ≠ i → mI σ' a b = mI σ a b) (h2 : ∀ a b, a ≠ i → mR σ' a b = mR σ a b) (he : va_at G.1 vwCl (ad i, mE G kd ad σ' i) H1) (z : H1.size = H.size) (oq : ∀ q : Nat, q ≠ ad i → H1[q]? = H[q]?) :
    mM G kd ad s σ' H1 (locs ++ [⟨ad i, k⟩]) := by
  obtain ⟨⟨h3, h4, h5, h6⟩, hS⟩ := hM
  refine ⟨⟨fun j hj => ?_, h4, fun j => by rw [hn, z]; exact h5 j, fun j hk hj h3 => by rw [hn]; exact h6 j hk hj h3⟩, hS.put z oq ⟨i, rfl⟩⟩
  by_cases hji : j = i
  · subst hji; exact he
  · rw [mE_congr (fun k => h1 j k hji) (fun k => h2 j k hji)]
    exact (h3 j (by rw [← hn]; exact hj)).kept (oq _ (fun q => hji (h4 _ _ q)))
theorem kdC_sv {i : Nat} (h : kdC i = (0, 1)) : 3 ≤ i ∧ i < 21 ∧ i % 3 = 0 := by
  unfold kdC at h
  split at h
  · simp at h
  · split at h
    · simp at h
    · split at h
      · simp at h
      · split at h
        · simp at h
        · split at h
          · omega
          · split at h <;> simp at h
theorem kdC_of_sv {i : Nat} (h1 : 3 ≤ i) (h2 : i < 21) (h3 : i % 3 = 0) : kdC i = (0, 1) := by
  unfold kdC
  rw [if_neg (by omega), if_neg (by omega), if_neg (by omega), if_neg (by omega), if_pos h3]
theorem kdC_row {i : Nat} (h : kdC i = (0, 1)) : kdC (i + 1) = (4, 3) := by
  have h := kdC_sv h
  unfold kdC
  rw [if_neg (by omega), if_neg (by omega), if_neg (by omega), if_neg (by omega), if_neg (by omega), if_pos (by omega)]
theorem kdC_cnt {i : Nat} (h : kdC i = (0, 1)) : kdC (i + 2) = (1, 8) := by
  have h := kdC_sv h
  unfold kdC
  rw [if_neg (by omega), if_neg (by omega), if_neg (by omega), if_neg (by omega), if_neg (by omega), if_neg (by omega)]
theorem mB_fix {G : mG} {kd : Nat → Nat × Nat} {ad : Nat → Nat} {s : State} {σ : mS} {H : Heap} {locs : List Loc} (hM : mM G kd ad s σ H locs) {i t n : Nat} (hk : kd i = (t, n)) (h0 : (t, n) ≠ (0, 0)) (hi : i < 26) (h3 : (kd 0).2 ≤ 3) : mB kd t n i σ := ⟨hk, hM.1.2.2.2 i (by rw [hk]; exact h0) hi h3⟩
theorem mO_fix {G : mG} {kd : Nat → Nat × Nat} {ad : Nat → Nat} {s : State} {σ : mS} {H : Heap} {locs : List Loc} (hM : mM G kd ad s σ H locs) {i n : Nat} (hk : kd i = (0, n)) (h0 : (0, n) ≠ (0, 0)) (hi : i < 26) (h3 : (kd 0).2 ≤ 3) : mO kd n i σ := ⟨hk, hM.1.2.2.2 i (by rw [hk]; exact h0) hi h3⟩
theorem mO_sv {G : mG} {ad : Nat → Nat} {s : State} {σ : mS} {H : Heap} {locs : List Loc} (hM : mM G kdC ad s σ H locs) {i : Nat} (h : kdC i = (0, 1)) : mO kdC 1 i σ := mO_fix hM h (by decide) (by have := kdC_sv h; omega) (by decide)
theorem mB_row {G : mG} {ad : Nat → Nat} {s : State} {σ : mS} {H : Heap} {locs : List Loc} (hM : mM G kdC ad s σ H locs) {i : Nat} (h : kdC i = (0, 1)) : mB kdC 4 3 (i + 1) σ := mB_fix hM (kdC_row h) (by decide) (by have := kdC_sv h; omega) (by decide)
theorem mB_cnt {G : mG} {ad : Nat → Nat} {s : State} {σ : mS} {H : Heap} {locs : List Loc} (hM : mM G kdC ad s σ H locs) {i : Nat} (h : kdC i = (0, 1)) : mB kdC 1 8 (i + 2) σ := mB_fix hM (kdC_cnt h) (by decide) (by have := kdC_sv h; omega) (by decide)
section MR
variable {p : Program} {l : Launch} {e : Env} {R : Room} {s : State} {m : MethodId} {args : Array Value} {below : List Frame} {meth : Method} {c : Code} {H : Heap} {locs : List Loc} {cells slots : Nat} {Q : State → Prop}
variable {cc : ByteArray} {pc nL : Nat} {ls : Array Slot} {rest : List Value} {own : String} {G : mG} {kd : Nat → Nat × Nat} {ad : Nat → Nat} {σ : mS}
theorem mr_get (C : mX p s m c cc nL args own G) (hM : mM G kd ad s σ H locs) {ci i : Nat} (ho : mO kd ci i σ) {C0 : String} {T : u_T} {N : Nat} (hc : vwCl[ci]? = some (C0, T, N)) (hin : ∀ w ∈ u_ws C0 T N, w ∈ wsL_law) (k : Nat) (hk : k < N) (hkn : k < mNf ci) {index : Nat} {ref : String} (hlink : Cond.fieldLink own index ref (T k).2.1 (T k).2.2.1 ∈ wsL_law) (href : (T k).1 = ref) {v : Value} (hv : mF ad σ i (mFk ci k) k = v) (hdg : decode cc pc = .ok (.getfield index, 3))
    (kk : W p l e R s m args below meth c H locs cells slots Q (F0 m (pc + 3) ls (v :: rest))) : W p l e R s m args below meth c H locs cells slots Q (F0 m pc ls (mV ad (some i) :: rest)) := by
  obtain ⟨⟨hx, hb, hml, hown, hts⟩, hK⟩ := C
  have h0 : va_at G.1 vwCl (ad i, .inr (ci, mL ad σ i ci)) H := by rw [← mE_0 (G := G) ho.1]; exact hM.1.1 i ho.2
  have hP : va_P G.1 vwCl [(ad i, .inr (ci, mL ad σ i ci))] H := fun j q hq => by
    cases j with
    | zero => cases hq; exact h0
    | succ j => simp at hq
  subst href
  exact va_get (D := G.1) (cl := vwCl) (ci := ci) (C := C0) (T := T) (N := N) (Ts := wsL_law) hx hb hts hin hown hK hP 0 rfl hc k hk (hts _ hlink) (fun _ h9 => h9) (by rw [mL_get hkn, hv]) hdg kk
theorem mr_put (C : mX p s m c cc nL args own G) (hM : mM G kd ad s σ H locs) {ci i : Nat} (ho : mO kd ci i σ) {C0 : String} {T : u_T} {N : Nat} (hc : vwCl[ci]? = some (C0, T, N)) (hin : ∀ w ∈ u_ws C0 T N, w ∈ wsL_law) (ty0 : Nat → FieldType) (hty : ∀ k, k < N → parseFieldDescriptor (T k).2.2.1 = some (ty0 k)) (hnm : ∀ a, a < N → ∀ b, b < N → a ≠ b → (T a).2.1 ≠ (T b).2.1) (hNf : N = mNf ci)
    (k : Nat) (hk : k < N) {index : Nat} {ref : String} (hlink : Cond.fieldLink own index ref (T k).2.1 (T k).2.2.1 ∈ wsL_law) (href : (T k).1 = ref) (hfin : (T k).2.2.2 = false) {v : Value} (hn : narrow (ty0 k) v = v) (hfit : fits (ty0 k) v = true) (σ' : mS) (hn' : mN σ' = mN σ)
    (h1 : ∀ a b, ¬ (a = i ∧ b = k) → mI σ' a b = mI σ a b) (h2 : ∀ a b, ¬ (a = i ∧ b = k) → mR σ' a b = mR σ a b) (hv : mF ad σ' i (mFk ci k) k = v) (hdg : decode cc pc = .ok (.putfield index, 3))
    (kk : ∀ (H1 : Heap) (locs1 : List Loc), mM G kd ad s σ' H1 locs1 → W p l e R s m args below meth c H1 locs1 cells slots Q (F0 m (pc + 3) ls rest)) : W p l e R s m args below meth c H locs cells slots Q (F0 m pc ls (v :: mV ad (some i) :: rest)) := by
  obtain ⟨⟨hx, hb, hml, hown, hts⟩, hK⟩ := C
  have h0 : va_at G.1 vwCl (ad i, .inr (ci, mL ad σ i ci)) H := by rw [← mE_0 (G := G) ho.1]; exact hM.1.1 i ho.2
  have hap := va_apart (own := own) hts hin ty0 hty hnm hK hc
  obtain ⟨r, hr1, cell, q1, q2, q3, q4⟩ := h0
  have hr : r = (C0, T, N) := Option.some.inj (hr1.symm.trans hc)
  subst hr
  obtain ⟨hS, hfc, kC, hkC, hkind⟩ := hK.1 ci _ hc
  obtain ⟨cf, kf, fi, f, hi, hsl⟩ := hS k hk
  have hlay := hts _ (hin _ (u_in_lay hk))
  unfold u_lay at hlay
  rw [if_neg (by rw [hfin]; decide)] at hlay
  have hst := (u_facts hfc hkC (u_lays hts hin hk) hi).1
  have h6 := u_store hfc hkC hkind hlay hi (hty k hk) hn hfit
  subst href
  refine W.putK hx hb (f := f) ⟨hown, hts _ hlink, ⟨_, _, _, hi⟩, hst⟩ (by rw [q2]; exact h6) q1 q3 (by rw [hsl]; exact k2_hasslot (q4 k hk)) rfl rfl hdg fun H' e1 e2 e3 => ?_
  rw [hsl] at e1 ⊢
  refine kk H' _ (mM_set hM hn' (fun a b hab => h1 a b (fun q => hab q.1)) (fun a b hab => h2 a b (fun q => hab q.1)) ?_ e2 e3)
  rw [mE_0 ho.1]
  refine ⟨_, hc, t_OB.to (V := updV (vp_V (mL ad σ i ci)) k v) ⟨_, e1, q2, q3, t_set q4 hap hk v⟩ (fun j hj => ?_)⟩
  have hj' : j < mNf ci := by rw [← hNf]; exact hj
  by_cases hjk : j = k
  · subst hjk
    rw [mL_V hj', hv]
    simp [updV]
  · rw [mL_V hj', mF_congr _ (h1 i j (fun q => hjk q.2)) (h2 i j (fun q => hjk q.2))]
    simp [updV, hjk, mL_V hj']
theorem mr_iald (C : mX p s m c cc nL args own G) (hM : mM G kd ad s σ H locs) {i n j : Nat} (ho : mB kd 1 n i σ) {x : Int32} (hx1 : x = nI j) (hj : j < n) (hn : n < 2 ^ 31) (hdg : decode cc pc = .ok (.iaload, 1))
    (kk : W p l e R s m args below meth c H locs cells slots Q (F0 m (pc + 1) ls (.int (mI σ i j) :: rest))) : W p l e R s m args below meth c H locs cells slots Q (F0 m pc ls (.int x :: mV ad (some i) :: rest)) := by
  subst hx1
  have h0 : va_at G.1 vwCl (ad i, .inl (G.2.1, n, .inl (mI σ i))) H := by rw [← mE_1 ho.1]; exact hM.1.1 i ho.2
  have hP : va_P G.1 vwCl [(ad i, .inl (G.2.1, n, .inl (mI σ i)))] H := fun j q hq => by
    cases j with
    | zero => cases hq; exact h0
    | succ j => simp at hq
  refine va_iald C.1.1 C.1.2.1 C.2 hP 0 0 rfl rfl (vp_in_nI hj hn) hdg ?_
  rw [nI_clamp (by omega)]
  exact kk
theorem mr_zald (C : mX p s m c cc nL args own G) (hM : mM G kd ad s σ H locs) {i n j : Nat} (ho : mB kd 2 n i σ) {x : Int32} (hx1 : x = nI j) (hj : j < n) (hn : n < 2 ^ 31) (hdg : decode cc pc = .ok (.baload, 1))
    (kk : W p l e R s m args below meth c H locs cells slots Q (F0 m (pc + 1) ls (.int (mI σ i j) :: rest))) : W p l e R s m args below meth c H locs cells slots Q (F0 m pc ls (.int x :: mV ad (some i) :: rest)) := by
  subst hx1
  have h0 : va_at G.1 vwCl (ad i, .inl (G.2.2.1, n, .inl (mI σ i))) H := by rw [← mE_2 ho.1]; exact hM.1.1 i ho.2
  have hP : va_P G.1 vwCl [(ad i, .inl (G.2.2.1, n, .inl (mI σ i)))] H := fun j q hq => by
    cases j with
    | zero => cases hq; exact h0
    | succ j => simp at hq
  refine va_zald C.1.1 C.1.2.1 C.2 hP 0 1 rfl rfl (vp_in_nI hj hn) hdg ?_
  rw [nI_clamp (by omega)]
  exact kk
theorem mr_sld (C : mX p s m c cc nL args own G) (hM : mM G kd ad s σ H locs) {i n j : Nat} (ho : mB kd 4 n i σ) {x : Int32} (hx1 : x = nI j) (hj : j < n) (hn : n < 2 ^ 31) (hdg : decode cc pc = .ok (.aaload, 1))
    (kk : ∀ r, r = mR σ i j → W p l e R s m args below meth c H locs cells slots Q (F0 m (pc + 1) ls (mV ad r :: rest))) : W p l e R s m args below meth c H locs cells slots Q (F0 m pc ls (.int x :: mV ad (some i) :: rest)) := by
  subst hx1
  have h0 : va_at G.1 vwCl (ad i, .inl (G.2.2.2.2, n, .inr (.inr (.inr (.inr (fun j => (mR σ i j).map ad)))))) H := by rw [← mE_4 ho.1]; exact hM.1.1 i ho.2
  have hP : va_P G.1 vwCl [(ad i, .inl (G.2.2.2.2, n, .inr (.inr (.inr (.inr (fun j => (mR σ i j).map ad))))))] H := fun j q hq => by
    cases j with
    | zero => cases hq; exact h0
    | succ j => simp at hq
  refine va_aldq C.1.1 C.1.2.1 C.2 hP 0 3 rfl rfl (vp_in_nI hj hn) hdg ?_
  rw [nI_clamp (by omega)]
  exact kk _ rfl
theorem mr_cld (C : mX p s m c cc nL args own G) (hM : mM G kd ad s σ H locs) {i n j : Nat} (ho : mB kd 3 n i σ) {x : Int32} (hx1 : x = nI j) (hj : j < n) (hn : n < 2 ^ 31) (hdg : decode cc pc = .ok (.aaload, 1))
    (kk : ∀ r, r = mR σ i j → W p l e R s m args below meth c H locs cells slots Q (F0 m (pc + 1) ls (mV ad r :: rest))) : W p l e R s m args below meth c H locs cells slots Q (F0 m pc ls (.int x :: mV ad (some i) :: rest)) := by
  subst hx1
  have h0 : va_at G.1 vwCl (ad i, .inl (G.2.2.2.1, n, .inr (.inr (.inr (.inr (fun j => (mR σ i j).map ad)))))) H := by rw [← mE_3 ho.1]; exact hM.1.1 i ho.2
  have hP : va_P G.1 vwCl [(ad i, .inl (G.2.2.2.1, n, .inr (.inr (.inr (.inr (fun j => (mR σ i j).map ad))))))] H := fun j q hq => by
    cases j with
    | zero => cases hq; exact h0
    | succ j => simp at hq
  refine va_aldq C.1.1 C.1.2.1 C.2 hP 0 2 rfl rfl (vp_in_nI hj hn) hdg ?_
  rw [nI_clamp (by omega)]
  exact kk _ rfl
theorem mr_alen (C : mX p s m c cc nL args own G) (hM : mM G kd ad s σ H locs) {i n t : Nat} (ho : mB kd t n i σ) (ht : 0 < t) (ht4 : t ≤ 4) {v : Int32} (hv : Int32.ofNat n = v) (hdg : decode cc pc = .ok (.arraylength, 1))
    (kk : W p l e R s m args below meth c H locs cells slots Q (F0 m (pc + 1) ls (.int v :: rest))) : W p l e R s m args below meth c H locs cells slots Q (F0 m pc ls (mV ad (some i) :: rest)) := by
  have one : ∀ e : va_E, va_at G.1 vwCl (ad i, e) H → va_P G.1 vwCl [(ad i, e)] H := fun e h0 j q hq => by
    cases j with
    | zero => cases hq; exact h0
    | succ j => simp at hq
  have h0 := hM.1.1 i ho.2
  match t, ht, ht4 with
  | 1, _, _ => rw [mE_1 ho.1] at h0; exact va_alen C.1.1 C.1.2.1 C.2 (one _ h0) 0 0 rfl rfl hv hdg kk
  | 2, _, _ => rw [mE_2 ho.1] at h0; exact va_alen C.1.1 C.1.2.1 C.2 (one _ h0) 0 1 rfl rfl hv hdg kk
  | 3, _, _ => rw [mE_3 ho.1] at h0; exact va_alen C.1.1 C.1.2.1 C.2 (one _ h0) 0 2 rfl rfl hv hdg kk
  | 4, _, _ => rw [mE_4 ho.1] at h0; exact va_alen C.1.1 C.1.2.1 C.2 (one _ h0) 0 3 rfl rfl hv hdg kk
theorem mI_off {σ : mS} {i k : Nat} {v : Int32} (a b : Nat) (h : ¬ (a = i ∧ b = k)) : mI (sI σ i k v) a b = mI σ a b := by rw [mI_sI, if_neg h]
theorem mR_off {σ : mS} {i k : Nat} {v : Option Nat} (a b : Nat) (h : ¬ (a = i ∧ b = k)) : mR (sR σ i k v) a b = mR σ a b := by rw [mR_sR, if_neg h]
theorem mr_iast (C : mX p s m c cc nL args own G) (hM : mM G kd ad s σ H locs) {i n j : Nat} (ho : mB kd 1 n i σ) {x v : Int32} (hx1 : x = nI j) (hj : j < n) (hn : n < 2 ^ 31) (hdg : decode cc pc = .ok (.iastore, 1))
    (kk : ∀ (H1 : Heap) (locs1 : List Loc), mM G kd ad s (sI σ i j v) H1 locs1 → W p l e R s m args below meth c H1 locs1 cells slots Q (F0 m (pc + 1) ls rest)) : W p l e R s m args below meth c H locs cells slots Q (F0 m pc ls (.int v :: .int x :: mV ad (some i) :: rest)) := by
  subst hx1
  have h0 : va_at G.1 vwCl (ad i, .inl (G.2.1, n, .inl (mI σ i))) H := by rw [← mE_1 ho.1]; exact hM.1.1 i ho.2
  have hc : (nI j).toNatClampNeg = j := nI_clamp (by omega)
  refine W.iast C.1.1 C.1.2.1 h0 ((C.2.2 0 _ rfl).1 n (fun j => .int (mI σ i j))) (fun q => by cases q) (by show ¬ (nI j < 0 ∨ (arrV _ _ _).slots.size ≤ _); rw [arrV_size]; exact vp_in_nI hj hn) rfl rfl hdg fun H1 e z oq => ?_
  rw [hc] at e ⊢
  refine kk H1 _ (mM_set hM rfl (fun a b hab => mI_off a b (fun q => hab q.1)) (fun a b hab => rfl) ?_ z oq)
  rw [mE_1 ho.1]
  show H1[ad i]? = some (vp_cell _ _)
  rw [e, vp_cell_i, vp_cell_i, arrV_store]
  congr 2
  funext q
  by_cases hq : q = j
  · subst hq
    simp [updV, mI_sI]
  · simp [updV, mI_sI, hq]
theorem mr_zast (C : mX p s m c cc nL args own G) (hM : mM G kd ad s σ H locs) {i n j : Nat} (ho : mB kd 2 n i σ) {x v : Int32} (hx1 : x = nI j) (hj : j < n) (hn : n < 2 ^ 31) (hdg : decode cc pc = .ok (.bastore, 1))
    (kk : ∀ (H1 : Heap) (locs1 : List Loc), mM G kd ad s (sI σ i j (vp_nar .boolean v)) H1 locs1 → W p l e R s m args below meth c H1 locs1 cells slots Q (F0 m (pc + 1) ls rest)) : W p l e R s m args below meth c H locs cells slots Q (F0 m pc ls (.int v :: .int x :: mV ad (some i) :: rest)) := by
  subst hx1
  have h0 : va_at G.1 vwCl (ad i, .inl (G.2.2.1, n, .inl (mI σ i))) H := by rw [← mE_2 ho.1]; exact hM.1.1 i ho.2
  have hc : (nI j).toNatClampNeg = j := nI_clamp (by omega)
  refine W.zast C.1.1 C.1.2.1 h0 ((C.2.2 1 _ rfl).1 n (fun j => .int (mI σ i j))) (fun q => by cases q) (by show ¬ (nI j < 0 ∨ (arrV _ _ _).slots.size ≤ _); rw [arrV_size]; exact vp_in_nI hj hn) rfl rfl hdg fun H1 e z oq => ?_
  rw [hc] at e ⊢
  refine kk H1 _ (mM_set hM rfl (fun a b hab => mI_off a b (fun q => hab q.1)) (fun a b hab => rfl) ?_ z oq)
  rw [mE_2 ho.1]
  show H1[ad i]? = some (vp_cell _ _)
  rw [e, vp_cell_i, vp_cell_i, arrV_store]
  congr 2
  funext q
  by_cases hq : q = j
  · subst hq
    simp [updV, mI_sI, vp_nar]
    try rfl
  · simp [updV, mI_sI, hq]
end MR
end
section
section MS
variable {p : Program} {l : Launch} {e : Env} {R : Room} {s : State} {m : MethodId} {args : Array Value} {below : List Frame} {meth : Method} {c : Code} {H : Heap} {locs : List Loc} {cells slots : Nat} {Q : State → Prop}
variable {cc : ByteArray} {pc nL : Nat} {ls : Array Slot} {rest : List Value} {own : String} {G : mG} {kd : Nat → Nat × Nat} {ad : Nat → Nat} {σ : mS}
theorem mr_ast (C : mX p s m c cc nL args own G) (hM : mM G kd ad s σ H locs) {i n j o t ci t0 : Nat} (ho : mB kd t n i σ) (hv : mO kd ci o σ) {cA : ClassId} {r : vw_C} (hE : ∀ σ : mS, mE G kd ad σ i = .inl (cA, n, .inr (.inr (.inr (.inr (fun j => (mR σ i j).map ad)))))) (ht : (mTys G)[t0]? = some (cA, .object r.1)) (hc : vwCl[ci]? = some r) {x : Int32} (hx1 : x = nI j) (hj : j < n) (hn : n < 2 ^ 31) (hdg : decode cc pc = .ok (.aastore, 1))
    (kk : ∀ (H1 : Heap) (locs1 : List Loc), mM G kd ad s (sR σ i j (some o)) H1 locs1 → W p l e R s m args below meth c H1 locs1 cells slots Q (F0 m (pc + 1) ls rest)) : W p l e R s m args below meth c H locs cells slots Q (F0 m pc ls (mV ad (some o) :: .int x :: mV ad (some i) :: rest)) := by
  subst hx1
  have h0 : va_at G.1 vwCl (ad i, .inl (cA, n, .inr (.inr (.inr (.inr (fun j => (mR σ i j).map ad)))))) H := by rw [← hE σ]; exact hM.1.1 i ho.2
  have hvv : va_at G.1 vwCl (ad o, .inr (ci, mL ad σ o ci)) H := by rw [← mE_0 (G := G) hv.1]; exact hM.1.1 o hv.2
  have hcl : (nI j).toNatClampNeg = j := nI_clamp (by omega)
  have hin : vp_in (nI j) n := vp_in_nI hj hn
  have hlt : (nI j).toNatClampNeg < n := by rw [hcl]; exact hj
  have h0' : ¬ nI j < 0 := fun q => hin (Or.inl q)
  obtain ⟨r', hr', cellV, g1, g2, g3, -⟩ := hvv
  have hcls := (C.2.1 ci r hc).2
  obtain ⟨kA, comp, k1, k2, k3, -⟩ := (C.2.2 t0 _ ht).2
  have hcomp : comp = G.1.1 ci := Option.some.inj (k3.symm.trans hcls.1)
  subst hcomp
  obtain ⟨kC, hkC, -⟩ := hcls.2
  refine W.aast C.1.1 C.1.2.1 h0 (fun q h => by cases h) (fun h => by cases h) k1 k2 rfl hkC ⟨h0', by show _ < (arrV _ _ _).slots.size; rw [arrV_size]; exact hlt⟩ g1 (fun q h => by rw [g3] at h; cases h) (by rw [g2]; exact hkC) (by rw [g2]; exact va_assign hcls) rfl rfl hdg fun H1 e z oq => ?_
  rw [hcl] at e ⊢
  refine kk H1 _ (mM_set hM rfl (fun a b hab => rfl) (fun a b hab => mR_off a b (fun q => hab q.1)) ?_ z oq)
  rw [hE]
  show H1[ad i]? = some (vp_cell _ _)
  rw [e, vp_cell_q, vp_cell_q, arrV_store]
  congr 2
  funext q
  by_cases hq : q = j
  · subst hq
    simp [updV, mR_sR, va_rf]
  · simp [updV, mR_sR, hq]
theorem mr_cst (C : mX p s m c cc nL args own G) (hM : mM G kd ad s σ H locs) {i n j o : Nat} (ho : mB kd 3 n i σ) (hv : mO kd 0 o σ) {x : Int32} (hx1 : x = nI j) (hj : j < n) (hn : n < 2 ^ 31) (hdg : decode cc pc = .ok (.aastore, 1))
    (kk : ∀ (H1 : Heap) (locs1 : List Loc), mM G kd ad s (sR σ i j (some o)) H1 locs1 → W p l e R s m args below meth c H1 locs1 cells slots Q (F0 m (pc + 1) ls rest)) : W p l e R s m args below meth c H locs cells slots Q (F0 m pc ls (mV ad (some o) :: .int x :: mV ad (some i) :: rest)) :=
  mr_ast (t0 := 2) (r := (RX0, TX0, 18)) C hM ho hv (fun σ => mE_3 ho.1) rfl rfl hx1 hj hn hdg kk
theorem mr_sst (C : mX p s m c cc nL args own G) (hM : mM G kd ad s σ H locs) {i n j o : Nat} (ho : mB kd 4 n i σ) (hv : mO kd 1 o σ) {x : Int32} (hx1 : x = nI j) (hj : j < n) (hn : n < 2 ^ 31) (hdg : decode cc pc = .ok (.aastore, 1))
    (kk : ∀ (H1 : Heap) (locs1 : List Loc), mM G kd ad s (sR σ i j (some o)) H1 locs1 → W p l e R s m args below meth c H1 locs1 cells slots Q (F0 m (pc + 1) ls rest)) : W p l e R s m args below meth c H locs cells slots Q (F0 m pc ls (mV ad (some o) :: .int x :: mV ad (some i) :: rest)) :=
  mr_ast (t0 := 3) (r := (RX1, TX1, 13)) C hM ho hv (fun σ => mE_4 ho.1) rfl rfl hx1 hj hn hdg kk
theorem ml_filter {lv : List (Nat × Value)} (h : ∀ q ∈ lv, q.2.category = 1) (i : Nat) : lv.filter (fun q => !(q.1 == i) && !(q.1 + 1 == i && q.2.category == 2)) = lv.filter (fun q => !(q.1 == i)) := by
  refine List.filter_congr (fun q hq => ?_)
  rw [h q hq]
  simp
theorem ml_new {lv : List (Nat × Value)} (h : ∀ q ∈ lv, q.2.category = 1) {i : Nat} {v : Value} (hv : v.category = 1) : ∀ q ∈ (i, v) :: lv.filter (fun q => !(q.1 == i)), q.2.category = 1 := by
  intro q hq
  rcases List.mem_cons.mp hq with rfl | hq
  · exact hv
  · exact h q (List.mem_filter.mp hq).1
theorem mr_istore_n (C : mX p s m c cc nL args own G) {k : Fin 4} {i : Nat} {x : Int32} {lv lv' : List (Nat × Value)} (h : ml_has ls nL lv) (hdg : decode cc pc = .ok (.istore_n k, 1)) (hi : (k : Nat) = i) (hn : i < nL) (hl : (i, Value.int x) :: lv.filter (fun q => !(q.1 == i)) = lv')
    (kk : ∀ ls' : Array Slot, ml_has ls' nL lv' → W p l e R s m args below meth c H locs cells slots Q (F0 m (pc + 1) ls' rest)) : W p l e R s m args below meth c H locs cells slots Q (F0 m pc ls (.int x :: rest)) := by
  subst hl
  refine lv_istore_n C.1.1 C.1.2.1 hdg hi h.1 hn (by rw [ml_filter h.2]) (fun ls' h' => kk ls' ⟨h', ml_new h.2 rfl⟩)
theorem mr_istore (C : mX p s m c cc nL args own G) {i : Nat} {x : Int32} {lv lv' : List (Nat × Value)} (h : ml_has ls nL lv) (hdg : decode cc pc = .ok (.istore i, 2)) (hn : i < nL) (hl : (i, Value.int x) :: lv.filter (fun q => !(q.1 == i)) = lv')
    (kk : ∀ ls' : Array Slot, ml_has ls' nL lv' → W p l e R s m args below meth c H locs cells slots Q (F0 m (pc + 2) ls' rest)) : W p l e R s m args below meth c H locs cells slots Q (F0 m pc ls (.int x :: rest)) := by
  subst hl
  refine lv_istore C.1.1 C.1.2.1 hdg h.1 hn (by rw [ml_filter h.2]) (fun ls' h' => kk ls' ⟨h', ml_new h.2 rfl⟩)
theorem mr_astore_n (C : mX p s m c cc nL args own G) {k : Fin 4} {i : Nat} {r : Option Nat} {lv lv' : List (Nat × Value)} (h : ml_has ls nL lv) (hdg : decode cc pc = .ok (.astore_n k, 1)) (hi : (k : Nat) = i) (hn : i < nL) (hl : (i, mV ad r) :: lv.filter (fun q => !(q.1 == i)) = lv')
    (kk : ∀ ls' : Array Slot, ml_has ls' nL lv' → W p l e R s m args below meth c H locs cells slots Q (F0 m (pc + 1) ls' rest)) : W p l e R s m args below meth c H locs cells slots Q (F0 m pc ls (mV ad r :: rest)) := by
  subst hl
  cases r with
  | none => exact lv_astore_nN C.1.1 C.1.2.1 hdg hi h.1 hn (by rw [ml_filter h.2]; rfl) (fun ls' h' => kk ls' ⟨h', ml_new h.2 rfl⟩)
  | some a => exact lv_astore_n C.1.1 C.1.2.1 hdg hi h.1 hn (by rw [ml_filter h.2]; rfl) (fun ls' h' => kk ls' ⟨h', ml_new h.2 rfl⟩)
theorem mr_astore (C : mX p s m c cc nL args own G) {i : Nat} {r : Option Nat} {lv lv' : List (Nat × Value)} (h : ml_has ls nL lv) (hdg : decode cc pc = .ok (.astore i, 2)) (hn : i < nL) (hl : (i, mV ad r) :: lv.filter (fun q => !(q.1 == i)) = lv')
    (kk : ∀ ls' : Array Slot, ml_has ls' nL lv' → W p l e R s m args below meth c H locs cells slots Q (F0 m (pc + 2) ls' rest)) : W p l e R s m args below meth c H locs cells slots Q (F0 m pc ls (mV ad r :: rest)) := by
  subst hl
  cases r with
  | none => exact lv_astoreN C.1.1 C.1.2.1 hdg h.1 hn (by rw [ml_filter h.2]; rfl) (fun ls' h' => kk ls' ⟨h', ml_new h.2 rfl⟩)
  | some a => exact lv_astore C.1.1 C.1.2.1 hdg h.1 hn (by rw [ml_filter h.2]; rfl) (fun ls' h' => kk ls' ⟨h', ml_new h.2 rfl⟩)
theorem mr_iinc (C : mX p s m c cc nL args own G) {i k : Nat} {n : Int} {x v : Int32} {lv lv' : List (Nat × Value)} (h : ml_has ls nL lv) (hdg : decode cc pc = .ok (.iinc i n, 3)) (hk : lv[k]? = some (i, .int x)) (hv : x + Int32.ofInt n = v) (hn : i < nL) (hl : (i, Value.int v) :: lv.filter (fun q => !(q.1 == i)) = lv')
    (kk : ∀ ls' : Array Slot, ml_has ls' nL lv' → W p l e R s m args below meth c H locs cells slots Q (F0 m (pc + 3) ls' rest)) : W p l e R s m args below meth c H locs cells slots Q (F0 m pc ls rest) := by
  subst hl
  exact lv_iinc C.1.1 C.1.2.1 hdg h.1 hk hv hn (by rw [ml_filter h.2]) (fun ls' h' => kk ls' ⟨h', ml_new h.2 rfl⟩)
theorem mr_aload_n (C : mX p s m c cc nL args own G) {k : Fin 4} {i : Nat} {r : Option Nat} (hdg : decode cc pc = .ok (.aload_n k, 1)) (hi : (k : Nat) = i) (hl : ls[i]? = some (.val (mV ad r)))
    (kk : W p l e R s m args below meth c H locs cells slots Q (F0 m (pc + 1) ls (mV ad r :: rest))) : W p l e R s m args below meth c H locs cells slots Q (F0 m pc ls rest) := by
  cases r with
  | none => exact lv_aload_nN C.1.1 C.1.2.1 hdg hi hl kk
  | some a => exact lv_aload_n C.1.1 C.1.2.1 hdg hi hl kk
theorem mr_aload (C : mX p s m c cc nL args own G) {i : Nat} {r : Option Nat} (hdg : decode cc pc = .ok (.aload i, 2)) (hl : ls[i]? = some (.val (mV ad r)))
    (kk : W p l e R s m args below meth c H locs cells slots Q (F0 m (pc + 2) ls (mV ad r :: rest))) : W p l e R s m args below meth c H locs cells slots Q (F0 m pc ls rest) := by
  cases r with
  | none => exact lv_aloadN C.1.1 C.1.2.1 hdg hl kk
  | some a => exact lv_aload C.1.1 C.1.2.1 hdg hl kk
theorem mr_null (C : mX p s m c cc nL args own G) (ad : Nat → Nat) (hdg : decode cc pc = .ok (.aconst_null, 1)) (kk : W p l e R s m args below meth c H locs cells slots Q (F0 m (pc + 1) ls (mV ad none :: rest))) : W p l e R s m args below meth c H locs cells slots Q (F0 m pc ls rest) := lv_null C.1.1 C.1.2.1 hdg kk
theorem mr_ifnull (C : mX p s m c cc nL args own G) {r : Option Nat} {off : Int} {tgt : Nat} (hdg : decode cc pc = .ok (.ifnull off, 3)) (ht : (pc : Int) + off = (tgt : Int)) (kt : r = none → W p l e R s m args below meth c H locs cells slots Q (F0 m tgt ls rest)) (kf : ∀ i, r = some i → W p l e R s m args below meth c H locs cells slots Q (F0 m (pc + 3) ls rest)) : W p l e R s m args below meth c H locs cells slots Q (F0 m pc ls (mV ad r :: rest)) := by
  cases r with
  | none => exact lv_ifnullN C.1.1 C.1.2.1 hdg ht (kt rfl)
  | some a => exact lv_ifnull C.1.1 C.1.2.1 hdg (kf a rfl)
theorem mr_ifnonnull (C : mX p s m c cc nL args own G) {r : Option Nat} {off : Int} {tgt : Nat} (hdg : decode cc pc = .ok (.ifnonnull off, 3)) (ht : (pc : Int) + off = (tgt : Int)) (kt : ∀ i, r = some i → W p l e R s m args below meth c H locs cells slots Q (F0 m tgt ls rest)) (kf : r = none → W p l e R s m args below meth c H locs cells slots Q (F0 m (pc + 3) ls rest)) : W p l e R s m args below meth c H locs cells slots Q (F0 m pc ls (mV ad r :: rest)) := by
  cases r with
  | none => exact lv_ifnonnullN C.1.1 C.1.2.1 hdg (kf rfl)
  | some a => exact lv_ifnonnull C.1.1 C.1.2.1 hdg ht (kt a rfl)
theorem m_map_inj {ad : Nat → Nat} (h : ∀ i j, ad i = ad j → i = j) {r q : Option Nat} : r.map ad = q.map ad ↔ r = q := by
  cases r <;> cases q <;> simp
  exact ⟨fun z => h _ _ z, fun z => by rw [z]⟩
theorem mr_acmp_ne (C : mX p s m c cc nL args own G) (hM : mM G kd ad s σ H locs) {rx ry : Option Nat} {off : Int} {tgt : Nat} (hdg : decode cc pc = .ok (.if_acmp .ne off, 3)) (ht : (pc : Int) + off = (tgt : Int)) (kt : ¬ rx = ry → W p l e R s m args below meth c H locs cells slots Q (F0 m tgt ls rest)) (kf : rx = ry → W p l e R s m args below meth c H locs cells slots Q (F0 m (pc + 3) ls rest)) : W p l e R s m args below meth c H locs cells slots Q (F0 m pc ls (mV ad ry :: mV ad rx :: rest)) :=
  lv_acmp_ne C.1.1 C.1.2.1 hdg ht (fun h => kt (fun q => h (by rw [q]))) (fun h => kf ((m_map_inj hM.1.2.1).mp h))
/-- a method's start and ends -/
def mPre (G : mG) (kd : Nat → Nat × Nat) (ad : Nat → Nat) (σ : mS) : State → Prop := fun U => mP G kd ad σ U.heap ∧ va_K G.1 vwCl (mTys G) U
def mPost (G : mG) (kd : Nat → Nat × Nat) (ad : Nat → Nat) : mS → State → Prop := fun u t => mP G kd ad u t.heap
def mWs (y : MethodName) (cc : ByteArray) (ml : Nat) (ret : Option FieldType) : List Cond := Cond.code y cc ml ret :: wsL_law
def mRm (fr lo : Nat) : Room := { frames := fr, cells := 0, slots := 0, locals := lo }
def mKi (l : Launch) (y : MethodName) (cc : ByteArray) (ml fr lo : Nat) (G : mG) (kd : Nat → Nat × Nat) (ad : Nat → Nat) (σ : mS) (av : List Value) (Q : Int32 → mS → Prop) : Prop :=
  Met l y (mWs y cc ml (some .int)) (mRm fr lo) (va_Pc av (mPre G kd ad σ)) (va_Qi Q (mPost G kd ad) (mA ad)) 0 0 (mA ad)
def mKz (l : Launch) (y : MethodName) (cc : ByteArray) (ml fr lo : Nat) (G : mG) (kd : Nat → Nat × Nat) (ad : Nat → Nat) (σ : mS) (av : List Value) (Q : Int32 → mS → Prop) : Prop :=
  Met l y (mWs y cc ml (some .boolean)) (mRm fr lo) (va_Pc av (mPre G kd ad σ)) (va_Qi (fun r u => Q r u ∧ narrow .boolean (.int r) = .int r) (mPost G kd ad) (mA ad)) 0 0 (mA ad)
def mKv (l : Launch) (y : MethodName) (cc : ByteArray) (ml fr lo : Nat) (G : mG) (kd : Nat → Nat × Nat) (ad : Nat → Nat) (σ : mS) (av : List Value) (Q : mS → Prop) : Prop :=
  Met l y (mWs y cc ml none) (mRm fr lo) (va_Pc av (mPre G kd ad σ)) (va_Qv Q (mPost G kd ad) (mA ad)) 0 0 (mA ad)
def mKq (l : Launch) (y : MethodName) (cc : ByteArray) (ml : Nat) (cls : String) (fr lo : Nat) (G : mG) (kd : Nat → Nat × Nat) (ad : Nat → Nat) (σ : mS) (av : List Value) (Q : Option Nat → mS → Prop) : Prop :=
  Met l y (mWs y cc ml (some (.object cls))) (mRm fr lo) (va_Pc av (mPre G kd ad σ)) (va_Qq (fun (r : Option Nat) (u : mS) => ∃ i : Option Nat, r = i.map ad ∧ Q i u) (mPost G kd ad) (mA ad)) 0 0 (mA ad)
def lv_ix : Nat → List Value → List (Nat × Value)
  | _, [] => []
  | i, v :: vs => (i, v) :: lv_ix (i + 1) vs
theorem lv_ix_eq : ∀ (vs : List Value) (n : Nat), (∀ v ∈ vs, v.category = 1) → lv_args n vs = lv_ix n vs
  | [], _, _ => rfl
  | v :: vs, n, h => by
    have h1 := h v List.mem_cons_self
    rw [lv_args, lv_ix, if_neg (by rw [h1]; decide), lv_ix_eq vs (n + 1) (fun w hw => h w (List.mem_cons_of_mem _ hw))]
theorem lg_sl_len : ∀ (vs : List Value), (∀ v ∈ vs, v.category = 1) → (lg_sl vs).length = vs.length
  | [], _ => rfl
  | v :: vs, h => by
    have h1 := h v List.mem_cons_self
    have h2 := lg_sl_len vs (fun w hw => h w (List.mem_cons_of_mem _ hw))
    unfold lg_sl at h2 ⊢
    rw [List.flatMap_cons, if_neg (by rw [h1]; decide), List.length_append, h2]
    simp [Nat.add_comm]
theorem lv_ix_cat : ∀ (vs : List Value) (n : Nat), (∀ v ∈ vs, v.category = 1) → ∀ q ∈ lv_ix n vs, q.2.category = 1
  | [], _, _, q, hq => absurd hq List.not_mem_nil
  | v :: vs, n, h, q, hq => by
    rcases List.mem_cons.mp hq with rfl | hq
    · exact h v List.mem_cons_self
    · exact lv_ix_cat vs (n + 1) (fun w hw => h w (List.mem_cons_of_mem _ hw)) q hq
theorem mr_start {y : MethodName} {cc : ByteArray} {ml fr lo : Nat} {ret : Option FieldType} {av : List Value} {lst : List (Nat × Value)} {Qc : Array Value → State → Outcome → State → Prop} (hy : plainName y.cls = true) (hcat : ∀ v ∈ av, v.category = 1) (hav : lv_ix 0 av = lst) (hlen : av.length ≤ ml)
    (body : ∀ (p : Program) (e : Env) (s : State) (m : MethodId) (below : List Frame) (meth : Method) (c : Code), mX p s m c cc ml av.toArray y.cls G → mM G kd ad s σ s.heap [] → meth.sig.returnType = ret → meth.locks = false → ∀ ls : Array Slot, ml_has ls ml lst → W p l e (mRm fr lo) s m av.toArray below meth c s.heap [] 0 0 (MQ below Qc av.toArray s 0 0 (mA ad)) (F0 m 0 ls [])) :
    Met l y (mWs y cc ml ret) (mRm fr lo) (va_Pc av (mPre G kd ad σ)) Qc 0 0 (mA ad) := by
  refine Met.ofW (cc := cc) (maxL := ml) (ret := ret) hy rfl ?_
  intro p e s m args below meth c s₁ B hml hv
  obtain ⟨rfl, hP, hK⟩ := hv
  have hts := atoms_spec (ws := mWs y cc ml ret) B.pre
  have hown : s.vm.findClass y.cls = some m.cls := findClass_of_methodNamed B.named
  have hl := lv_entry av (n := ml) (by rw [lg_sl_len av hcat]; exact hlen)
  rw [lv_ix_eq av 0 hcat, hav] at hl
  rw [lg_entry_eq]
  exact body p e s m below meth c ⟨⟨B.exec, B.bytes, hml, hown, fun w hw => hts w (List.mem_cons_of_mem _ hw)⟩, hK⟩ ⟨hP, va_S.rf⟩ B.returns B.notSynchronized _ ⟨hl, by rw [← hav]; exact lv_ix_cat av 0 hcat⟩
theorem mr_iret (C : mX p s m c cc nL args own G) (hM : mM G kd ad s σ H locs) {Q : Int32 → mS → Prop} {v : Int32} (hr : meth.sig.returnType = some .int) (hlk : meth.locks = false) (h : Q v σ) (hdg : decode cc pc = .ok (.ireturn, 1)) : W p l e R s m args below meth c H locs cells slots (MQ below (va_Qi Q (mPost G kd ad) (mA ad)) args s cells slots (mA ad)) (F0 m pc ls [.int v]) :=
  W.iret C.1.1 C.1.2.1 hr (fun t ht _ => ⟨⟨v, σ, rfl, h, by show mP G kd ad σ t.heap; rw [ht]; exact hM.1⟩, hM.2.F ht⟩) hM.2.2.2 hdg hlk
theorem mr_zret (C : mX p s m c cc nL args own G) (hM : mM G kd ad s σ H locs) {Q : Int32 → mS → Prop} {v : Int32} (hr : meth.sig.returnType = some .boolean) (hlk : meth.locks = false) (hn : narrow .boolean (.int v) = .int v) (h : Q v σ) (hdg : decode cc pc = .ok (.ireturn, 1)) : W p l e R s m args below meth c H locs cells slots (MQ below (va_Qi (fun r u => Q r u ∧ narrow .boolean (.int r) = .int r) (mPost G kd ad) (mA ad)) args s cells slots (mA ad)) (F0 m pc ls [.int v]) :=
  W.zret C.1.1 C.1.2.1 hr hn (fun t ht _ => ⟨⟨v, σ, rfl, ⟨h, hn⟩, by show mP G kd ad σ t.heap; rw [ht]; exact hM.1⟩, hM.2.F ht⟩) hM.2.2.2 hdg hlk
theorem mr_vret (C : mX p s m c cc nL args own G) (hM : mM G kd ad s σ H locs) {Q : mS → Prop} (hr : meth.sig.returnType = none) (hlk : meth.locks = false) (h : Q σ) (hdg : decode cc pc = .ok (.return_, 1)) : W p l e R s m args below meth c H locs cells slots (MQ below (va_Qv Q (mPost G kd ad) (mA ad)) args s cells slots (mA ad)) (F0 m pc ls []) :=
  W.vret C.1.1 C.1.2.1 hr (fun t ht _ => ⟨⟨σ, rfl, h, by show mP G kd ad σ t.heap; rw [ht]; exact hM.1⟩, hM.2.F ht⟩) hM.2.2.2 hdg hlk
theorem mr_aret (C : mX p s m c cc nL args own G) (hM : mM G kd ad s σ H locs) {cls : String} {Q : Option Nat → mS → Prop} {r : Option Nat} (hr : meth.sig.returnType = some (.object cls)) (hlk : meth.locks = false) (h : Q r σ) (hdg : decode cc pc = .ok (.areturn, 1)) : W p l e R s m args below meth c H locs cells slots (MQ below (va_Qq (fun (a : Option Nat) (u : mS) => ∃ i : Option Nat, a = i.map ad ∧ Q i u) (mPost G kd ad) (mA ad)) args s cells slots (mA ad)) (F0 m pc ls [mV ad r]) :=
  W.aret C.1.1 C.1.2.1 hr (Or.inl ⟨cls, rfl⟩) (by cases r with | none => exact Or.inl rfl | some a => exact Or.inr ⟨ad a, rfl⟩) (fun t ht _ => ⟨⟨r.map ad, σ, rfl, ⟨r, rfl, h⟩, by show mP G kd ad σ t.heap; rw [ht]; exact hM.1⟩, hM.2.F ht⟩) hM.2.2.2 hdg hlk
/-- the words of a call, by their places in the one list -/
def mCw (own : String) (idx : Nat) (cls : String) (y : MethodName) (cc : ByteArray) (ml : Nat) (ret : Option FieldType) : Prop := Cond.methodLink own idx y ∈ wsL_law ∧ Cond.instanceMethod y ∈ wsL_law ∧ Cond.selects cls y y ∈ wsL_law ∧ Cond.initialized cls ∈ wsL_law ∧ Cond.code y cc ml ret ∈ wsL_law
def mCs (own : String) (idx : Nat) (y : MethodName) (cc : ByteArray) (ml : Nat) (ret : Option FieldType) : Prop := Cond.methodLink own idx y ∈ wsL_law ∧ Cond.static y ∈ wsL_law ∧ Cond.initialized own ∈ wsL_law ∧ Cond.code y cc ml ret ∈ wsL_law
theorem mCw.good {own cls : String} {idx ml : Nat} {y : MethodName} {cc : ByteArray} {ret : Option FieldType} (h : mCw own idx cls y cc ml ret) : GoodIn wsL_law (wsV own idx cls y (mWs y cc ml ret)) := by
  obtain ⟨h1, h2, h3, h4, h5⟩ := h
  intro w hw
  have : w ∈ wsL_law := by
    unfold wsV mWs at hw
    simp only [List.cons_append, List.nil_append, List.mem_cons] at hw
    rcases hw with rfl | rfl | rfl | rfl | rfl | hw
    · exact h1
    · exact h2
    · exact h3
    · exact h4
    · exact h5
    · exact hw
  exact ⟨this, m_good w this⟩
theorem mCs.good {own : String} {idx ml : Nat} {y : MethodName} {cc : ByteArray} {ret : Option FieldType} (h : mCs own idx y cc ml ret) : GoodIn wsL_law (wsS own idx y (mWs y cc ml ret)) := by
  obtain ⟨h1, h2, h3, h4⟩ := h
  intro w hw
  have : w ∈ wsL_law := by
    unfold wsS mWs at hw
    simp only [List.cons_append, List.nil_append, List.mem_cons] at hw
    rcases hw with rfl | rfl | rfl | rfl | hw
    · exact h1
    · exact h2
    · exact h3
    · exact h4
    · exact hw
  exact ⟨this, m_good w this⟩
theorem mPre.blind (G : mG) (kd : Nat → Nat × Nat) (ad : Nat → Nat) (σ : mS) (av : List Value) : FrameBlind (va_Pc av (mPre G kd ad σ)) := fun a U g mk q => ⟨q.1, q.2.1, va_K.moved (u := U) (U := U.calling g mk a) (Vm.Alike.refl U.vm) q.2.2⟩
theorem mr_preV (C : mX p s m c cc nL args own G) (hM : mM G kd ad s σ H locs) {ci i : Nat} (ho : mO kd ci i σ) {q : vw_C} (hc : vwCl[ci]? = some q) (As : List Value) : PreV s H q.1 (ad i) (va_Pc (mV ad (some i) :: As) (mPre G kd ad σ)) As := by
  have h0 : va_at G.1 vwCl (ad i, .inr (ci, mL ad σ i ci)) H := by rw [← mE_0 (G := G) ho.1]; exact hM.1.1 i ho.2
  obtain ⟨q', h1, cell, g1, g2, g3, -⟩ := h0
  exact ⟨mPre.blind _ _ _ _ _, ⟨cell, g1, by rw [g3]; rfl, by rw [g2]; exact (C.2.1 ci q hc).2.1⟩, fun U hU hW => ⟨rfl, by rw [hU]; exact hM.1, va_K.moved hW.alike C.2⟩⟩
theorem mr_preS (C : mX p s m c cc nL args own G) (hM : mM G kd ad s σ H locs) (As : List Value) : PreS s H (va_Pc As (mPre G kd ad σ)) As :=
  ⟨mPre.blind _ _ _ _ _, fun U hU hW => ⟨rfl, by rw [hU]; exact hM.1, va_K.moved hW.alike C.2⟩⟩
theorem m_wt {st : List Value} (h : ∀ v ∈ st, v.category = 1) (hn : st.length ≤ 8) : (st.map fun v => v.category).sum ≤ 8 := by
  have key : ∀ st : List Value, (∀ v ∈ st, v.category = 1) → (st.map fun v => v.category).sum = st.length := by
    intro st
    induction st with
    | nil => intro _; rfl
    | cons v vs ih =>
      intro h
      simp only [List.map_cons, List.sum_cons, List.length_cons]
      rw [h v List.mem_cons_self, ih (fun w hw => h w (List.mem_cons_of_mem _ hw))]
      omega
  rw [key st h]; exact hn
variable {y : MethodName} {bytes : ByteArray} {maxL index n fr lo i ci : Nat} {As : List Value} {st : List Value} {cls : String} {q : vw_C}
theorem mr_runV {ret : Option FieldType} {Qc : Array Value → State → Outcome → State → Prop} (C : mX p s m c cc nL args own G) (hM : mM G kd ad s σ H locs) (hl : ls.size = nL) (hc : Met l y (mWs y bytes maxL ret) (mRm fr lo) (va_Pc (mV ad (some i) :: As) (mPre G kd ad σ)) Qc 0 0 (mA ad)) (hg : mCw own index cls y bytes maxL ret) (ho : mO kd ci i σ) (hq : vwCl[ci]? = some q) (hqc : q.1 = cls)
    (hd : y.cls = cls ∧ y.cls ≠ "java/lang/invoke/MethodHandle" ∧ y.cls ≠ "java/lang/invoke/VarHandle" ∧ (parseMethodDescriptor y.desc).map (fun d => d.parameters.length) = some n) (hn : As.length = n) (hst : st = As.reverse ++ mV ad (some i) :: rest) (hR : fr + 1 ≤ R.frames ∧ 8 + (maxL + 11) + lo ≤ R.locals) (hw : ∀ v ∈ rest, v.category = 1) (hw8 : rest.length ≤ 8) (hdg : decode cc pc = .ok (.invokevirtual index, 3)) (hf : cells ≤ R.cells ∧ slots ≤ R.slots) :
    va_Run p l e R s m args below meth c H locs cells slots 0 0 (F0 m pc ls st) rest (Qc (Value.ref (ad i) :: As).toArray) (mA ad) := by
  subst hqc
  subst hst
  subst hn
  exact va_runV (As := As) (rest := rest) C.1 hc (cwV As.length C.1.2.2.2.2 hg.good rfl rfl rfl hd hR) (mr_preV C hM ho hq As) rfl rfl hl rfl (lv_room (pc := pc) (ls := ls) (rest := As.reverse ++ mV ad (some i) :: rest) (m_wt hw hw8)) hdg hf
theorem mr_runS {ret : Option FieldType} {Qc : Array Value → State → Outcome → State → Prop} (C : mX p s m c cc nL args own G) (hM : mM G kd ad s σ H locs) (hl : ls.size = nL) (hc : Met l y (mWs y bytes maxL ret) (mRm fr lo) (va_Pc As (mPre G kd ad σ)) Qc 0 0 (mA ad)) (hg : mCs own index y bytes maxL ret)
    (hd : y.cls = own ∧ y.cls ≠ "java/lang/invoke/MethodHandle" ∧ y.cls ≠ "java/lang/invoke/VarHandle" ∧ (parseMethodDescriptor y.desc).map (fun d => d.parameters.length) = some n) (hn : As.length = n) (hst : st = As.reverse ++ rest) (hR : fr + 1 ≤ R.frames ∧ 8 + (maxL + 11) + lo ≤ R.locals) (hw : ∀ v ∈ rest, v.category = 1) (hw8 : rest.length ≤ 8) (hdg : decode cc pc = .ok (.invokestatic index, 3)) (hf : cells ≤ R.cells ∧ slots ≤ R.slots) :
    va_Run p l e R s m args below meth c H locs cells slots 0 0 (F0 m pc ls st) rest (Qc As.toArray) (mA ad) := by
  subst hst
  subst hn
  exact va_runS (As := As) (rest := rest) C.1 hc (cwS As.length C.1.2.2.2.2 hg.good rfl rfl rfl hd hR) (mr_preS C hM As) rfl rfl hl rfl (lv_room (pc := pc) (ls := ls) (rest := As.reverse ++ rest) (m_wt hw hw8)) hdg hf
theorem mr_ci {a : Array Value} {Qi : Int32 → mS → Prop} (hM : mM G kd ad s σ H locs) (hr : va_Run p l e R s m args below meth c H locs cells slots 0 0 (F0 m pc ls st) rest (va_Qi Qi (mPost G kd ad) (mA ad) a) (mA ad)) (kk : ∀ (r : Int32) (u : mS) (H1 : Heap) (locs1 : List Loc), Qi r u → mM G kd ad s u H1 locs1 → W p l e R s m args below meth c H1 locs1 cells slots Q (F0 m (pc + 3) ls (.int r :: rest))) : W p l e R s m args below meth c H locs cells slots Q (F0 m pc ls st) :=
  va_calli hr hM.2 (fun _ _ h => h) (fun _ h => h) (fun r u t H1 locs1 ht hvm hw hB hz1 hk1 hS => kk r u H1 locs1 hw ⟨by rw [← ht]; exact hB, hS⟩)
theorem mr_cv {a : Array Value} {Qv : mS → Prop} (hM : mM G kd ad s σ H locs) (hr : va_Run p l e R s m args below meth c H locs cells slots 0 0 (F0 m pc ls st) rest (va_Qv Qv (mPost G kd ad) (mA ad) a) (mA ad)) (kk : ∀ (u : mS) (H1 : Heap) (locs1 : List Loc), Qv u → mM G kd ad s u H1 locs1 → W p l e R s m args below meth c H1 locs1 cells slots Q (F0 m (pc + 3) ls rest)) : W p l e R s m args below meth c H locs cells slots Q (F0 m pc ls st) :=
  va_callv hr hM.2 (fun _ _ h => h) (fun _ h => h) (fun u t H1 locs1 ht hvm hw hB hz1 hk1 hS => kk u H1 locs1 hw ⟨by rw [← ht]; exact hB, hS⟩)
theorem mr_cq {a : Array Value} {Qq : Option Nat → mS → Prop} (hM : mM G kd ad s σ H locs) (hr : va_Run p l e R s m args below meth c H locs cells slots 0 0 (F0 m pc ls st) rest (va_Qq (fun (r : Option Nat) (u : mS) => ∃ i : Option Nat, r = i.map ad ∧ Qq i u) (mPost G kd ad) (mA ad) a) (mA ad)) (kk : ∀ (r : Option Nat) (u : mS) (H1 : Heap) (locs1 : List Loc), Qq r u → mM G kd ad s u H1 locs1 → W p l e R s m args below meth c H1 locs1 cells slots Q (F0 m (pc + 3) ls (mV ad r :: rest))) : W p l e R s m args below meth c H locs cells slots Q (F0 m pc ls st) :=
  va_callq hr hM.2 (fun _ _ h => h) (fun _ h => h) (fun r u t H1 locs1 ht hvm hw hB hz1 hk1 hS => by
    obtain ⟨i, rfl, hw⟩ := hw
    exact kk i u H1 locs1 hw ⟨by rw [← ht]; exact hB, hS⟩)
end MS
/-- loops: by a measure that falls -/
theorem m_loop {P : Nat → Prop} (h : ∀ n, (∀ k, k < n → P k) → P n) : ∀ n, P n := fun n => Nat.strongRecOn n h
theorem m_c0 : ∀ v ∈ ([] : List Value), v.category = 1 := fun _ h => absurd h List.not_mem_nil
theorem m_cI {x : Int32} {r : List Value} (h : ∀ v ∈ r, v.category = 1) : ∀ v ∈ Value.int x :: r, v.category = 1 := fun v hv => (List.mem_cons.mp hv).elim (fun e => by rw [e]; rfl) (h v)
theorem m_cR {ad : Nat → Nat} {x : Option Nat} {r : List Value} (h : ∀ v ∈ r, v.category = 1) : ∀ v ∈ mV ad x :: r, v.category = 1 := fun v hv => (List.mem_cons.mp hv).elim (fun e => by rw [e]; exact mV_cat _ _) (h v)
theorem mO_e {kd : Nat → Nat × Nat} {ci i : Nat} {σ σ' σ2 : mS} (e : σ' = σ2) (hn : mN σ2 = mN σ) (h : mO kd ci i σ) : mO kd ci i σ' := by rw [e]; exact ⟨h.1, by rw [hn]; exact h.2⟩
theorem m_z01 {v : Int32} (h : narrow .boolean (.int v) = .int v) : v = 0 ∨ v = 1 := by
  have h1 : v &&& 1 = v := Value.int.inj (show Value.int (v &&& 1) = Value.int v from h)
  obtain ⟨j, hj, e⟩ := pk_andE v (m := 1) 1 (by decide)
  rw [h1] at e
  have hj2 : j = 0 ∨ j = 1 := by omega
  rcases hj2 with rfl | rfl
  · left; rw [e]; rfl
  · right; rw [e]; rfl
theorem m_fitZ {v : Int32} (h : narrow .boolean (.int v) = .int v) : fits .boolean (.int v) = true := by
  rcases m_z01 h with rfl | rfl <;> rfl
theorem mO_I {kd : Nat → Nat × Nat} {ci i a b : Nat} {v : Int32} {σ σ' : mS} (e : σ' = sI σ a b v) (h : mO kd ci i σ) : mO kd ci i σ' := by rw [e]; exact h
theorem mO_R {kd : Nat → Nat × Nat} {ci i a b : Nat} {v : Option Nat} {σ σ' : mS} (e : σ' = sR σ a b v) (h : mO kd ci i σ) : mO kd ci i σ' := by rw [e]; exact h
end
section
section FG
variable {p : Program} {l : Launch} {e : Env} {R : Room} {s : State} {m : MethodId} {args : Array Value} {below : List Frame} {meth : Method} {c : Code} {H : Heap} {locs : List Loc} {cells slots : Nat} {Q : State → Prop}
variable {cc : ByteArray} {pc nL : Nat} {ls : Array Slot} {rest : List Value} {G : mG} {kd : Nat → Nat × Nat} {ad : Nat → Nat} {σ : mS} {i : Nat}
theorem fg_X2_76 (C : mX p s m c cc nL args RX2 G) (hM : mM G kd ad s σ H locs) (ho : mO kd 2 i σ) (hdg : decode cc pc = .ok (.getfield 76, 3)) (kk : W p l e R s m args below meth c H locs cells slots Q (F0 m (pc + 3) ls (.int (mI σ i 3) :: rest))) : W p l e R s m args below meth c H locs cells slots Q (F0 m pc ls (mV ad (some i) :: rest)) := mr_get C hM ho rfl inlX2 3 (by decide) (by decide) (mw_6 _ (List.mem_of_getElem? (i := 22) rfl)) rfl (v := .int (mI σ i 3)) rfl hdg kk
theorem fg_X2_128 (C : mX p s m c cc nL args RX2 G) (hM : mM G kd ad s σ H locs) (ho : mO kd 2 i σ) (hdg : decode cc pc = .ok (.getfield 128, 3)) (kk : W p l e R s m args below meth c H locs cells slots Q (F0 m (pc + 3) ls (.int (mI σ i 2) :: rest))) : W p l e R s m args below meth c H locs cells slots Q (F0 m pc ls (mV ad (some i) :: rest)) := mr_get C hM ho rfl inlX2 2 (by decide) (by decide) (mw_7 _ (List.mem_of_getElem? (i := 4) rfl)) rfl (v := .int (mI σ i 2)) rfl hdg kk
theorem fg_X2_17 (C : mX p s m c cc nL args RX2 G) (hM : mM G kd ad s σ H locs) (ho : mO kd 2 i σ) (hdg : decode cc pc = .ok (.getfield 17, 3)) (kk : W p l e R s m args below meth c H locs cells slots Q (F0 m (pc + 3) ls (mV ad (some (i + 2)) :: rest))) : W p l e R s m args below meth c H locs cells slots Q (F0 m pc ls (mV ad (some i) :: rest)) := mr_get C hM ho rfl inlX2 1 (by decide) (by decide) (mw_1 _ (List.mem_of_getElem? (i := 16) rfl)) rfl (v := mV ad (some (i + 2))) rfl hdg kk
theorem fg_X1_42 (C : mX p s m c cc nL args RX1 G) (hM : mM G kd ad s σ H locs) (ho : mO kd 1 i σ) (hdg : decode cc pc = .ok (.getfield 42, 3)) (kk : W p l e R s m args below meth c H locs cells slots Q (F0 m (pc + 3) ls (.int (mI σ i 9) :: rest))) : W p l e R s m args below meth c H locs cells slots Q (F0 m pc ls (mV ad (some i) :: rest)) := mr_get C hM ho rfl inlX1 9 (by decide) (by decide) (mw_8 _ (List.mem_of_getElem? (i := 10) rfl)) rfl (v := .int (mI σ i 9)) rfl hdg kk
theorem fg_X0_21 (C : mX p s m c cc nL args RX0 G) (hM : mM G kd ad s σ H locs) (ho : mO kd 0 i σ) (hdg : decode cc pc = .ok (.getfield 21, 3)) (kk : ∀ r, r = mR σ i 1 → W p l e R s m args below meth c H locs cells slots Q (F0 m (pc + 3) ls (mV ad r :: rest))) : W p l e R s m args below meth c H locs cells slots Q (F0 m pc ls (mV ad (some i) :: rest)) := mr_get C hM ho rfl inlX0 1 (by decide) (by decide) (mw_7 _ (List.mem_of_getElem? (i := 22) rfl)) rfl (v := mV ad (mR σ i 1)) rfl hdg (kk _ rfl)
theorem fg_X0_37 (C : mX p s m c cc nL args RX0 G) (hM : mM G kd ad s σ H locs) (ho : mO kd 1 i σ) (hdg : decode cc pc = .ok (.getfield 37, 3)) (kk : W p l e R s m args below meth c H locs cells slots Q (F0 m (pc + 3) ls (mV ad (some (i + 2)) :: rest))) : W p l e R s m args below meth c H locs cells slots Q (F0 m pc ls (mV ad (some i) :: rest)) := mr_get C hM ho rfl inlX1 12 (by decide) (by decide) (mw_9 _ (List.mem_of_getElem? (i := 2) rfl)) rfl (v := mV ad (some (i + 2))) rfl hdg kk
theorem fg_X0_9 (C : mX p s m c cc nL args RX0 G) (hM : mM G kd ad s σ H locs) (ho : mO kd 0 i σ) (hdg : decode cc pc = .ok (.getfield 9, 3)) (kk : W p l e R s m args below meth c H locs cells slots Q (F0 m (pc + 3) ls (.int (mI σ i 4) :: rest))) : W p l e R s m args below meth c H locs cells slots Q (F0 m pc ls (mV ad (some i) :: rest)) := mr_get C hM ho rfl inlX0 4 (by decide) (by decide) (mw_7 _ (List.mem_of_getElem? (i := 19) rfl)) rfl (v := .int (mI σ i 4)) rfl hdg kk
theorem fg_X1_21 (C : mX p s m c cc nL args RX1 G) (hM : mM G kd ad s σ H locs) (ho : mO kd 1 i σ) (hdg : decode cc pc = .ok (.getfield 21, 3)) (kk : W p l e R s m args below meth c H locs cells slots Q (F0 m (pc + 3) ls (.int (mI σ i 7) :: rest))) : W p l e R s m args below meth c H locs cells slots Q (F0 m pc ls (mV ad (some i) :: rest)) := mr_get C hM ho rfl inlX1 7 (by decide) (by decide) (mw_2 _ (List.mem_of_getElem? (i := 2) rfl)) rfl (v := .int (mI σ i 7)) rfl hdg kk
theorem fg_X0_71 (C : mX p s m c cc nL args RX0 G) (hM : mM G kd ad s σ H locs) (ho : mO kd 0 i σ) (hdg : decode cc pc = .ok (.getfield 71, 3)) (kk : W p l e R s m args below meth c H locs cells slots Q (F0 m (pc + 3) ls (.int (mI σ i 15) :: rest))) : W p l e R s m args below meth c H locs cells slots Q (F0 m pc ls (mV ad (some i) :: rest)) := mr_get C hM ho rfl inlX0 15 (by decide) (by decide) (mw_9 _ (List.mem_of_getElem? (i := 12) rfl)) rfl (v := .int (mI σ i 15)) rfl hdg kk
theorem fg_X2_97 (C : mX p s m c cc nL args RX2 G) (hM : mM G kd ad s σ H locs) (ho : mO kd 0 i σ) (hdg : decode cc pc = .ok (.getfield 97, 3)) (kk : ∀ r, r = mR σ i 2 → W p l e R s m args below meth c H locs cells slots Q (F0 m (pc + 3) ls (mV ad r :: rest))) : W p l e R s m args below meth c H locs cells slots Q (F0 m pc ls (mV ad (some i) :: rest)) := mr_get C hM ho rfl inlX0 2 (by decide) (by decide) (mw_8 _ (List.mem_of_getElem? (i := 15) rfl)) rfl (v := mV ad (mR σ i 2)) rfl hdg (kk _ rfl)
theorem fg_X2_107 (C : mX p s m c cc nL args RX2 G) (hM : mM G kd ad s σ H locs) (ho : mO kd 2 i σ) (hdg : decode cc pc = .ok (.getfield 107, 3)) (kk : W p l e R s m args below meth c H locs cells slots Q (F0 m (pc + 3) ls (.int (mI σ i 4) :: rest))) : W p l e R s m args below meth c H locs cells slots Q (F0 m pc ls (mV ad (some i) :: rest)) := mr_get C hM ho rfl inlX2 4 (by decide) (by decide) (mw_8 _ (List.mem_of_getElem? (i := 21) rfl)) rfl (v := .int (mI σ i 4)) rfl hdg kk
theorem fg_X2_134 (C : mX p s m c cc nL args RX2 G) (hM : mM G kd ad s σ H locs) (ho : mO kd 0 i σ) (hdg : decode cc pc = .ok (.getfield 134, 3)) (kk : ∀ r, r = mR σ i 1 → W p l e R s m args below meth c H locs cells slots Q (F0 m (pc + 3) ls (mV ad r :: rest))) : W p l e R s m args below meth c H locs cells slots Q (F0 m pc ls (mV ad (some i) :: rest)) := mr_get C hM ho rfl inlX0 1 (by decide) (by decide) (mw_8 _ (List.mem_of_getElem? (i := 5) rfl)) rfl (v := mV ad (mR σ i 1)) rfl hdg (kk _ rfl)
theorem fg_X2_148 (C : mX p s m c cc nL args RX2 G) (hM : mM G kd ad s σ H locs) (ho : mO kd 0 i σ) (hdg : decode cc pc = .ok (.getfield 148, 3)) (kk : ∀ r, r = mR σ i 8 → W p l e R s m args below meth c H locs cells slots Q (F0 m (pc + 3) ls (mV ad r :: rest))) : W p l e R s m args below meth c H locs cells slots Q (F0 m pc ls (mV ad (some i) :: rest)) := mr_get C hM ho rfl inlX0 8 (by decide) (by decide) (mw_7 _ (List.mem_of_getElem? (i := 14) rfl)) rfl (v := mV ad (mR σ i 8)) rfl hdg (kk _ rfl)
theorem fg_X0_29 (C : mX p s m c cc nL args RX0 G) (hM : mM G kd ad s σ H locs) (ho : mO kd 0 i σ) (hdg : decode cc pc = .ok (.getfield 29, 3)) (kk : W p l e R s m args below meth c H locs cells slots Q (F0 m (pc + 3) ls (.int (mI σ i 3) :: rest))) : W p l e R s m args below meth c H locs cells slots Q (F0 m pc ls (mV ad (some i) :: rest)) := mr_get C hM ho rfl inlX0 3 (by decide) (by decide) (mw_8 _ (List.mem_of_getElem? (i := 0) rfl)) rfl (v := .int (mI σ i 3)) rfl hdg kk
theorem fg_X0_32 (C : mX p s m c cc nL args RX0 G) (hM : mM G kd ad s σ H locs) (ho : mO kd 1 i σ) (hdg : decode cc pc = .ok (.getfield 32, 3)) (kk : W p l e R s m args below meth c H locs cells slots Q (F0 m (pc + 3) ls (.int (mI σ i 1) :: rest))) : W p l e R s m args below meth c H locs cells slots Q (F0 m pc ls (mV ad (some i) :: rest)) := mr_get C hM ho rfl inlX1 1 (by decide) (by decide) (mw_9 _ (List.mem_of_getElem? (i := 22) rfl)) rfl (v := .int (mI σ i 1)) rfl hdg kk
theorem fg_X1_28 (C : mX p s m c cc nL args RX1 G) (hM : mM G kd ad s σ H locs) (ho : mO kd 1 i σ) (hdg : decode cc pc = .ok (.getfield 28, 3)) (kk : W p l e R s m args below meth c H locs cells slots Q (F0 m (pc + 3) ls (mV ad (some (i + 2)) :: rest))) : W p l e R s m args below meth c H locs cells slots Q (F0 m pc ls (mV ad (some i) :: rest)) := mr_get C hM ho rfl inlX1 12 (by decide) (by decide) (mw_2 _ (List.mem_of_getElem? (i := 6) rfl)) rfl (v := mV ad (some (i + 2))) rfl hdg kk
theorem fg_X1_15 (C : mX p s m c cc nL args RX1 G) (hM : mM G kd ad s σ H locs) (ho : mO kd 1 i σ) (hdg : decode cc pc = .ok (.getfield 15, 3)) (kk : W p l e R s m args below meth c H locs cells slots Q (F0 m (pc + 3) ls (.int (mI σ i 4) :: rest))) : W p l e R s m args below meth c H locs cells slots Q (F0 m pc ls (mV ad (some i) :: rest)) := mr_get C hM ho rfl inlX1 4 (by decide) (by decide) (mw_2 _ (List.mem_of_getElem? (i := 0) rfl)) rfl (v := .int (mI σ i 4)) rfl hdg kk
theorem fg_X2_32 (C : mX p s m c cc nL args RX2 G) (hM : mM G kd ad s σ H locs) (ho : mO kd 1 i σ) (hdg : decode cc pc = .ok (.getfield 32, 3)) (kk : W p l e R s m args below meth c H locs cells slots Q (F0 m (pc + 3) ls (.int (mI σ i 1) :: rest))) : W p l e R s m args below meth c H locs cells slots Q (F0 m pc ls (mV ad (some i) :: rest)) := mr_get C hM ho rfl inlX1 1 (by decide) (by decide) (mw_4 _ (List.mem_of_getElem? (i := 0) rfl)) rfl (v := .int (mI σ i 1)) rfl hdg kk
theorem fg_X1_18 (C : mX p s m c cc nL args RX1 G) (hM : mM G kd ad s σ H locs) (ho : mO kd 1 i σ) (hdg : decode cc pc = .ok (.getfield 18, 3)) (kk : W p l e R s m args below meth c H locs cells slots Q (F0 m (pc + 3) ls (.int (mI σ i 5) :: rest))) : W p l e R s m args below meth c H locs cells slots Q (F0 m pc ls (mV ad (some i) :: rest)) := mr_get C hM ho rfl inlX1 5 (by decide) (by decide) (mw_2 _ (List.mem_of_getElem? (i := 1) rfl)) rfl (v := .int (mI σ i 5)) rfl hdg kk
theorem fg_X2_155 (C : mX p s m c cc nL args RX2 G) (hM : mM G kd ad s σ H locs) (ho : mO kd 2 i σ) (hdg : decode cc pc = .ok (.getfield 155, 3)) (kk : ∀ r, r = mR σ i 5 → W p l e R s m args below meth c H locs cells slots Q (F0 m (pc + 3) ls (mV ad r :: rest))) : W p l e R s m args below meth c H locs cells slots Q (F0 m pc ls (mV ad (some i) :: rest)) := mr_get C hM ho rfl inlX2 5 (by decide) (by decide) (mw_7 _ (List.mem_of_getElem? (i := 13) rfl)) rfl (v := mV ad (mR σ i 5)) rfl hdg (kk _ rfl)
theorem fg_X1_54 (C : mX p s m c cc nL args RX1 G) (hM : mM G kd ad s σ H locs) (ho : mO kd 1 i σ) (hdg : decode cc pc = .ok (.getfield 54, 3)) (kk : W p l e R s m args below meth c H locs cells slots Q (F0 m (pc + 3) ls (.int (mI σ i 8) :: rest))) : W p l e R s m args below meth c H locs cells slots Q (F0 m pc ls (mV ad (some i) :: rest)) := mr_get C hM ho rfl inlX1 8 (by decide) (by decide) (mw_9 _ (List.mem_of_getElem? (i := 7) rfl)) rfl (v := .int (mI σ i 8)) rfl hdg kk
theorem fg_X2_139 (C : mX p s m c cc nL args RX2 G) (hM : mM G kd ad s σ H locs) (ho : mO kd 0 i σ) (hdg : decode cc pc = .ok (.getfield 139, 3)) (kk : W p l e R s m args below meth c H locs cells slots Q (F0 m (pc + 3) ls (.int (mI σ i 3) :: rest))) : W p l e R s m args below meth c H locs cells slots Q (F0 m pc ls (mV ad (some i) :: rest)) := mr_get C hM ho rfl inlX0 3 (by decide) (by decide) (mw_13 _ (List.mem_of_getElem? (i := 8) rfl)) rfl (v := .int (mI σ i 3)) rfl hdg kk
theorem fg_X1_45 (C : mX p s m c cc nL args RX1 G) (hM : mM G kd ad s σ H locs) (ho : mO kd 1 i σ) (hdg : decode cc pc = .ok (.getfield 45, 3)) (kk : W p l e R s m args below meth c H locs cells slots Q (F0 m (pc + 3) ls (.int (mI σ i 3) :: rest))) : W p l e R s m args below meth c H locs cells slots Q (F0 m pc ls (mV ad (some i) :: rest)) := mr_get C hM ho rfl inlX1 3 (by decide) (by decide) (mw_13 _ (List.mem_of_getElem? (i := 23) rfl)) rfl (v := .int (mI σ i 3)) rfl hdg kk
theorem fg_X1_48 (C : mX p s m c cc nL args RX1 G) (hM : mM G kd ad s σ H locs) (ho : mO kd 1 i σ) (hdg : decode cc pc = .ok (.getfield 48, 3)) (kk : W p l e R s m args below meth c H locs cells slots Q (F0 m (pc + 3) ls (.int (mI σ i 2) :: rest))) : W p l e R s m args below meth c H locs cells slots Q (F0 m pc ls (mV ad (some i) :: rest)) := mr_get C hM ho rfl inlX1 2 (by decide) (by decide) (mw_14 _ (List.mem_of_getElem? (i := 0) rfl)) rfl (v := .int (mI σ i 2)) rfl hdg kk
theorem fg_X0_41 (C : mX p s m c cc nL args RX0 G) (hM : mM G kd ad s σ H locs) (ho : mO kd 1 i σ) (hdg : decode cc pc = .ok (.getfield 41, 3)) (kk : W p l e R s m args below meth c H locs cells slots Q (F0 m (pc + 3) ls (mV ad (some (i + 1)) :: rest))) : W p l e R s m args below meth c H locs cells slots Q (F0 m pc ls (mV ad (some i) :: rest)) := mr_get C hM ho rfl inlX1 10 (by decide) (by decide) (mw_14 _ (List.mem_of_getElem? (i := 9) rfl)) rfl (v := mV ad (some (i + 1))) rfl hdg kk
theorem fg_X0_45 (C : mX p s m c cc nL args RX0 G) (hM : mM G kd ad s σ H locs) (ho : mO kd 0 i σ) (hdg : decode cc pc = .ok (.getfield 45, 3)) (kk : W p l e R s m args below meth c H locs cells slots Q (F0 m (pc + 3) ls (.int (mI σ i 9) :: rest))) : W p l e R s m args below meth c H locs cells slots Q (F0 m pc ls (mV ad (some i) :: rest)) := mr_get C hM ho rfl inlX0 9 (by decide) (by decide) (mw_14 _ (List.mem_of_getElem? (i := 10) rfl)) rfl (v := .int (mI σ i 9)) rfl hdg kk
theorem fg_X2_131 (C : mX p s m c cc nL args RX2 G) (hM : mM G kd ad s σ H locs) (ho : mO kd 0 i σ) (hdg : decode cc pc = .ok (.getfield 131, 3)) (kk : W p l e R s m args below meth c H locs cells slots Q (F0 m (pc + 3) ls (.int (mI σ i 4) :: rest))) : W p l e R s m args below meth c H locs cells slots Q (F0 m pc ls (mV ad (some i) :: rest)) := mr_get C hM ho rfl inlX0 4 (by decide) (by decide) (mw_13 _ (List.mem_of_getElem? (i := 17) rfl)) rfl (v := .int (mI σ i 4)) rfl hdg kk
theorem fg_X2_208 (C : mX p s m c cc nL args RX2 G) (hM : mM G kd ad s σ H locs) (ho : mO kd 0 i σ) (hdg : decode cc pc = .ok (.getfield 208, 3)) (kk : W p l e R s m args below meth c H locs cells slots Q (F0 m (pc + 3) ls (.int (mI σ i 6) :: rest))) : W p l e R s m args below meth c H locs cells slots Q (F0 m pc ls (mV ad (some i) :: rest)) := mr_get C hM ho rfl inlX0 6 (by decide) (by decide) (mw_10 _ (List.mem_of_getElem? (i := 11) rfl)) rfl (v := .int (mI σ i 6)) rfl hdg kk
theorem fg_X2_58 (C : mX p s m c cc nL args RX2 G) (hM : mM G kd ad s σ H locs) (ho : mO kd 1 i σ) (hdg : decode cc pc = .ok (.getfield 58, 3)) (kk : W p l e R s m args below meth c H locs cells slots Q (F0 m (pc + 3) ls (.int (mI σ i 11) :: rest))) : W p l e R s m args below meth c H locs cells slots Q (F0 m pc ls (mV ad (some i) :: rest)) := mr_get C hM ho rfl inlX1 11 (by decide) (by decide) (mw_5 _ (List.mem_of_getElem? (i := 15) rfl)) rfl (v := .int (mI σ i 11)) rfl hdg kk
theorem fg_X2_270 (C : mX p s m c cc nL args RX2 G) (hM : mM G kd ad s σ H locs) (ho : mO kd 0 i σ) (hdg : decode cc pc = .ok (.getfield 270, 3)) (kk : W p l e R s m args below meth c H locs cells slots Q (F0 m (pc + 3) ls (.int (mI σ i 16) :: rest))) : W p l e R s m args below meth c H locs cells slots Q (F0 m pc ls (mV ad (some i) :: rest)) := mr_get C hM ho rfl inlX0 16 (by decide) (by decide) (mw_15 _ (List.mem_of_getElem? (i := 20) rfl)) rfl (v := .int (mI σ i 16)) rfl hdg kk
theorem fg_X1_51 (C : mX p s m c cc nL args RX1 G) (hM : mM G kd ad s σ H locs) (ho : mO kd 1 i σ) (hdg : decode cc pc = .ok (.getfield 51, 3)) (kk : W p l e R s m args below meth c H locs cells slots Q (F0 m (pc + 3) ls (.int (mI σ i 6) :: rest))) : W p l e R s m args below meth c H locs cells slots Q (F0 m pc ls (mV ad (some i) :: rest)) := mr_get C hM ho rfl inlX1 6 (by decide) (by decide) (mw_16 _ (List.mem_of_getElem? (i := 5) rfl)) rfl (v := .int (mI σ i 6)) rfl hdg kk
theorem fg_X2_249 (C : mX p s m c cc nL args RX2 G) (hM : mM G kd ad s σ H locs) (ho : mO kd 0 i σ) (hdg : decode cc pc = .ok (.getfield 249, 3)) (kk : W p l e R s m args below meth c H locs cells slots Q (F0 m (pc + 3) ls (.int (mI σ i 13) :: rest))) : W p l e R s m args below meth c H locs cells slots Q (F0 m pc ls (mV ad (some i) :: rest)) := mr_get C hM ho rfl inlX0 13 (by decide) (by decide) (mw_15 _ (List.mem_of_getElem? (i := 7) rfl)) rfl (v := .int (mI σ i 13)) rfl hdg kk
theorem fg_X2_255 (C : mX p s m c cc nL args RX2 G) (hM : mM G kd ad s σ H locs) (ho : mO kd 0 i σ) (hdg : decode cc pc = .ok (.getfield 255, 3)) (kk : W p l e R s m args below meth c H locs cells slots Q (F0 m (pc + 3) ls (.int (mI σ i 15) :: rest))) : W p l e R s m args below meth c H locs cells slots Q (F0 m pc ls (mV ad (some i) :: rest)) := mr_get C hM ho rfl inlX0 15 (by decide) (by decide) (mw_15 _ (List.mem_of_getElem? (i := 9) rfl)) rfl (v := .int (mI σ i 15)) rfl hdg kk
theorem fg_X2_261 (C : mX p s m c cc nL args RX2 G) (hM : mM G kd ad s σ H locs) (ho : mO kd 0 i σ) (hdg : decode cc pc = .ok (.getfield 261, 3)) (kk : W p l e R s m args below meth c H locs cells slots Q (F0 m (pc + 3) ls (.int (mI σ i 14) :: rest))) : W p l e R s m args below meth c H locs cells slots Q (F0 m pc ls (mV ad (some i) :: rest)) := mr_get C hM ho rfl inlX0 14 (by decide) (by decide) (mw_15 _ (List.mem_of_getElem? (i := 10) rfl)) rfl (v := .int (mI σ i 14)) rfl hdg kk
theorem fg_X2_264 (C : mX p s m c cc nL args RX2 G) (hM : mM G kd ad s σ H locs) (ho : mO kd 0 i σ) (hdg : decode cc pc = .ok (.getfield 264, 3)) (kk : W p l e R s m args below meth c H locs cells slots Q (F0 m (pc + 3) ls (.int (mI σ i 17) :: rest))) : W p l e R s m args below meth c H locs cells slots Q (F0 m pc ls (mV ad (some i) :: rest)) := mr_get C hM ho rfl inlX0 17 (by decide) (by decide) (mw_15 _ (List.mem_of_getElem? (i := 11) rfl)) rfl (v := .int (mI σ i 17)) rfl hdg kk
theorem fg_X2_145 (C : mX p s m c cc nL args RX2 G) (hM : mM G kd ad s σ H locs) (ho : mO kd 0 i σ) (hdg : decode cc pc = .ok (.getfield 145, 3)) (kk : W p l e R s m args below meth c H locs cells slots Q (F0 m (pc + 3) ls (.int (mI σ i 10) :: rest))) : W p l e R s m args below meth c H locs cells slots Q (F0 m pc ls (mV ad (some i) :: rest)) := mr_get C hM ho rfl inlX0 10 (by decide) (by decide) (mw_15 _ (List.mem_of_getElem? (i := 8) rfl)) rfl (v := .int (mI σ i 10)) rfl hdg kk
theorem fg_X2_187 (C : mX p s m c cc nL args RX2 G) (hM : mM G kd ad s σ H locs) (ho : mO kd 2 i σ) (hdg : decode cc pc = .ok (.getfield 187, 3)) (kk : ∀ r, r = mR σ i 6 → W p l e R s m args below meth c H locs cells slots Q (F0 m (pc + 3) ls (mV ad r :: rest))) : W p l e R s m args below meth c H locs cells slots Q (F0 m pc ls (mV ad (some i) :: rest)) := mr_get C hM ho rfl inlX2 6 (by decide) (by decide) (mw_7 _ (List.mem_of_getElem? (i := 11) rfl)) rfl (v := mV ad (mR σ i 6)) rfl hdg (kk _ rfl)
theorem fg_X2_238 (C : mX p s m c cc nL args RX2 G) (hM : mM G kd ad s σ H locs) (ho : mO kd 0 i σ) (hdg : decode cc pc = .ok (.getfield 238, 3)) (kk : ∀ r, r = mR σ i 11 → W p l e R s m args below meth c H locs cells slots Q (F0 m (pc + 3) ls (mV ad r :: rest))) : W p l e R s m args below meth c H locs cells slots Q (F0 m pc ls (mV ad (some i) :: rest)) := mr_get C hM ho rfl inlX0 11 (by decide) (by decide) (mw_15 _ (List.mem_of_getElem? (i := 1) rfl)) rfl (v := mV ad (mR σ i 11)) rfl hdg (kk _ rfl)
theorem fg_X2_190 (C : mX p s m c cc nL args RX2 G) (hM : mM G kd ad s σ H locs) (ho : mO kd 0 i σ) (hdg : decode cc pc = .ok (.getfield 190, 3)) (kk : ∀ r, r = mR σ i 7 → W p l e R s m args below meth c H locs cells slots Q (F0 m (pc + 3) ls (mV ad r :: rest))) : W p l e R s m args below meth c H locs cells slots Q (F0 m pc ls (mV ad (some i) :: rest)) := mr_get C hM ho rfl inlX0 7 (by decide) (by decide) (mw_7 _ (List.mem_of_getElem? (i := 12) rfl)) rfl (v := mV ad (mR σ i 7)) rfl hdg (kk _ rfl)
theorem fg_X2_241 (C : mX p s m c cc nL args RX2 G) (hM : mM G kd ad s σ H locs) (ho : mO kd 0 i σ) (hdg : decode cc pc = .ok (.getfield 241, 3)) (kk : W p l e R s m args below meth c H locs cells slots Q (F0 m (pc + 3) ls (.int (mI σ i 12) :: rest))) : W p l e R s m args below meth c H locs cells slots Q (F0 m pc ls (mV ad (some i) :: rest)) := mr_get C hM ho rfl inlX0 12 (by decide) (by decide) (mw_15 _ (List.mem_of_getElem? (i := 2) rfl)) rfl (v := .int (mI σ i 12)) rfl hdg kk
theorem fg_X2_11 (C : mX p s m c cc nL args RX2 G) (hM : mM G kd ad s σ H locs) (ho : mO kd 2 i σ) (hdg : decode cc pc = .ok (.getfield 11, 3)) (kk : W p l e R s m args below meth c H locs cells slots Q (F0 m (pc + 3) ls (mV ad (some (i + 1)) :: rest))) : W p l e R s m args below meth c H locs cells slots Q (F0 m pc ls (mV ad (some i) :: rest)) := mr_get C hM ho rfl inlX2 0 (by decide) (by decide) (mw_1 _ (List.mem_of_getElem? (i := 14) rfl)) rfl (v := mV ad (some (i + 1))) rfl hdg kk
theorem fg_X0_25 (C : mX p s m c cc nL args RX0 G) (hM : mM G kd ad s σ H locs) (ho : mO kd 0 i σ) (hdg : decode cc pc = .ok (.getfield 25, 3)) (kk : ∀ r, r = mR σ i 2 → W p l e R s m args below meth c H locs cells slots Q (F0 m (pc + 3) ls (mV ad r :: rest))) : W p l e R s m args below meth c H locs cells slots Q (F0 m pc ls (mV ad (some i) :: rest)) := mr_get C hM ho rfl inlX0 2 (by decide) (by decide) (mw_7 _ (List.mem_of_getElem? (i := 23) rfl)) rfl (v := mV ad (mR σ i 2)) rfl hdg (kk _ rfl)
theorem fg_X0_65 (C : mX p s m c cc nL args RX0 G) (hM : mM G kd ad s σ H locs) (ho : mO kd 0 i σ) (hdg : decode cc pc = .ok (.getfield 65, 3)) (kk : W p l e R s m args below meth c H locs cells slots Q (F0 m (pc + 3) ls (.int (mI σ i 14) :: rest))) : W p l e R s m args below meth c H locs cells slots Q (F0 m pc ls (mV ad (some i) :: rest)) := mr_get C hM ho rfl inlX0 14 (by decide) (by decide) (mw_14 _ (List.mem_of_getElem? (i := 18) rfl)) rfl (v := .int (mI σ i 14)) rfl hdg kk
theorem fg_X1_35 (C : mX p s m c cc nL args RX1 G) (hM : mM G kd ad s σ H locs) (ho : mO kd 1 i σ) (hdg : decode cc pc = .ok (.getfield 35, 3)) (kk : W p l e R s m args below meth c H locs cells slots Q (F0 m (pc + 3) ls (.int (mI σ i 11) :: rest))) : W p l e R s m args below meth c H locs cells slots Q (F0 m pc ls (mV ad (some i) :: rest)) := mr_get C hM ho rfl inlX1 11 (by decide) (by decide) (mw_5 _ (List.mem_of_getElem? (i := 20) rfl)) rfl (v := .int (mI σ i 11)) rfl hdg kk
theorem fg_X1_24 (C : mX p s m c cc nL args RX1 G) (hM : mM G kd ad s σ H locs) (ho : mO kd 1 i σ) (hdg : decode cc pc = .ok (.getfield 24, 3)) (kk : W p l e R s m args below meth c H locs cells slots Q (F0 m (pc + 3) ls (mV ad (some (i + 1)) :: rest))) : W p l e R s m args below meth c H locs cells slots Q (F0 m pc ls (mV ad (some i) :: rest)) := mr_get C hM ho rfl inlX1 10 (by decide) (by decide) (mw_2 _ (List.mem_of_getElem? (i := 4) rfl)) rfl (v := mV ad (some (i + 1))) rfl hdg kk
theorem fg_X3_86 (C : mX p s m c cc nL args RX3 G) (hM : mM G kd ad s σ H locs) (ho : mO kd 3 i σ) (hdg : decode cc pc = .ok (.getfield 86, 3)) (kk : W p l e R s m args below meth c H locs cells slots Q (F0 m (pc + 3) ls (.int (mI σ i 0) :: rest))) : W p l e R s m args below meth c H locs cells slots Q (F0 m pc ls (mV ad (some i) :: rest)) := mr_get C hM ho rfl inlX3 0 (by decide) (by decide) (mw_4 _ (List.mem_of_getElem? (i := 18) rfl)) rfl (v := .int (mI σ i 0)) rfl hdg kk
theorem fg_X3_94 (C : mX p s m c cc nL args RX3 G) (hM : mM G kd ad s σ H locs) (ho : mO kd 3 i σ) (hdg : decode cc pc = .ok (.getfield 94, 3)) (kk : W p l e R s m args below meth c H locs cells slots Q (F0 m (pc + 3) ls (.int (mI σ i 13) :: rest))) : W p l e R s m args below meth c H locs cells slots Q (F0 m pc ls (mV ad (some i) :: rest)) := mr_get C hM ho rfl inlX3 13 (by decide) (by decide) (mw_10 _ (List.mem_of_getElem? (i := 20) rfl)) rfl (v := .int (mI σ i 13)) rfl hdg kk
theorem fg_X3_7 (C : mX p s m c cc nL args RX3 G) (hM : mM G kd ad s σ H locs) (ho : mO kd 3 i σ) (hdg : decode cc pc = .ok (.getfield 7, 3)) (kk : W p l e R s m args below meth c H locs cells slots Q (F0 m (pc + 3) ls (mV ad (some (i + 1)) :: rest))) : W p l e R s m args below meth c H locs cells slots Q (F0 m pc ls (mV ad (some i) :: rest)) := mr_get C hM ho rfl inlX3 2 (by decide) (by decide) (mw_2 _ (List.mem_of_getElem? (i := 12) rfl)) rfl (v := mV ad (some (i + 1))) rfl hdg kk
theorem fg_X3_13 (C : mX p s m c cc nL args RX3 G) (hM : mM G kd ad s σ H locs) (ho : mO kd 3 i σ) (hdg : decode cc pc = .ok (.getfield 13, 3)) (kk : W p l e R s m args below meth c H locs cells slots Q (F0 m (pc + 3) ls (mV ad (some (i + 2)) :: rest))) : W p l e R s m args below meth c H locs cells slots Q (F0 m pc ls (mV ad (some i) :: rest)) := mr_get C hM ho rfl inlX3 3 (by decide) (by decide) (mw_2 _ (List.mem_of_getElem? (i := 13) rfl)) rfl (v := mV ad (some (i + 2))) rfl hdg kk
theorem fg_X3_16 (C : mX p s m c cc nL args RX3 G) (hM : mM G kd ad s σ H locs) (ho : mO kd 3 i σ) (hdg : decode cc pc = .ok (.getfield 16, 3)) (kk : W p l e R s m args below meth c H locs cells slots Q (F0 m (pc + 3) ls (mV ad (some (i + 3)) :: rest))) : W p l e R s m args below meth c H locs cells slots Q (F0 m pc ls (mV ad (some i) :: rest)) := mr_get C hM ho rfl inlX3 4 (by decide) (by decide) (mw_2 _ (List.mem_of_getElem? (i := 14) rfl)) rfl (v := mV ad (some (i + 3))) rfl hdg kk
theorem fg_X3_22 (C : mX p s m c cc nL args RX3 G) (hM : mM G kd ad s σ H locs) (ho : mO kd 3 i σ) (hdg : decode cc pc = .ok (.getfield 22, 3)) (kk : W p l e R s m args below meth c H locs cells slots Q (F0 m (pc + 3) ls (mV ad (some (i + 5)) :: rest))) : W p l e R s m args below meth c H locs cells slots Q (F0 m pc ls (mV ad (some i) :: rest)) := mr_get C hM ho rfl inlX3 6 (by decide) (by decide) (mw_2 _ (List.mem_of_getElem? (i := 16) rfl)) rfl (v := mV ad (some (i + 5))) rfl hdg kk
theorem fg_X3_19 (C : mX p s m c cc nL args RX3 G) (hM : mM G kd ad s σ H locs) (ho : mO kd 3 i σ) (hdg : decode cc pc = .ok (.getfield 19, 3)) (kk : W p l e R s m args below meth c H locs cells slots Q (F0 m (pc + 3) ls (mV ad (some (i + 4)) :: rest))) : W p l e R s m args below meth c H locs cells slots Q (F0 m pc ls (mV ad (some i) :: rest)) := mr_get C hM ho rfl inlX3 5 (by decide) (by decide) (mw_2 _ (List.mem_of_getElem? (i := 15) rfl)) rfl (v := mV ad (some (i + 4))) rfl hdg kk
theorem fg_X3_25 (C : mX p s m c cc nL args RX3 G) (hM : mM G kd ad s σ H locs) (ho : mO kd 3 i σ) (hdg : decode cc pc = .ok (.getfield 25, 3)) (kk : W p l e R s m args below meth c H locs cells slots Q (F0 m (pc + 3) ls (mV ad (some (i + 6)) :: rest))) : W p l e R s m args below meth c H locs cells slots Q (F0 m pc ls (mV ad (some i) :: rest)) := mr_get C hM ho rfl inlX3 7 (by decide) (by decide) (mw_2 _ (List.mem_of_getElem? (i := 17) rfl)) rfl (v := mV ad (some (i + 6))) rfl hdg kk
theorem fg_X3_28 (C : mX p s m c cc nL args RX3 G) (hM : mM G kd ad s σ H locs) (ho : mO kd 3 i σ) (hdg : decode cc pc = .ok (.getfield 28, 3)) (kk : W p l e R s m args below meth c H locs cells slots Q (F0 m (pc + 3) ls (mV ad (some (i + 7)) :: rest))) : W p l e R s m args below meth c H locs cells slots Q (F0 m pc ls (mV ad (some i) :: rest)) := mr_get C hM ho rfl inlX3 8 (by decide) (by decide) (mw_2 _ (List.mem_of_getElem? (i := 18) rfl)) rfl (v := mV ad (some (i + 7))) rfl hdg kk
theorem fg_X3_31 (C : mX p s m c cc nL args RX3 G) (hM : mM G kd ad s σ H locs) (ho : mO kd 3 i σ) (hdg : decode cc pc = .ok (.getfield 31, 3)) (kk : W p l e R s m args below meth c H locs cells slots Q (F0 m (pc + 3) ls (mV ad (some (i + 8)) :: rest))) : W p l e R s m args below meth c H locs cells slots Q (F0 m pc ls (mV ad (some i) :: rest)) := mr_get C hM ho rfl inlX3 9 (by decide) (by decide) (mw_2 _ (List.mem_of_getElem? (i := 19) rfl)) rfl (v := mV ad (some (i + 8))) rfl hdg kk
theorem fg_X3_52 (C : mX p s m c cc nL args RX3 G) (hM : mM G kd ad s σ H locs) (ho : mO kd 3 i σ) (hdg : decode cc pc = .ok (.getfield 52, 3)) (kk : W p l e R s m args below meth c H locs cells slots Q (F0 m (pc + 3) ls (mV ad (some (i + 15)) :: rest))) : W p l e R s m args below meth c H locs cells slots Q (F0 m pc ls (mV ad (some i) :: rest)) := mr_get C hM ho rfl inlX3 17 (by decide) (by decide) (mw_3 _ (List.mem_of_getElem? (i := 2) rfl)) rfl (v := mV ad (some (i + 15))) rfl hdg kk
theorem fg_X3_43 (C : mX p s m c cc nL args RX3 G) (hM : mM G kd ad s σ H locs) (ho : mO kd 3 i σ) (hdg : decode cc pc = .ok (.getfield 43, 3)) (kk : W p l e R s m args below meth c H locs cells slots Q (F0 m (pc + 3) ls (mV ad (some (i + 12)) :: rest))) : W p l e R s m args below meth c H locs cells slots Q (F0 m pc ls (mV ad (some i) :: rest)) := mr_get C hM ho rfl inlX3 14 (by decide) (by decide) (mw_2 _ (List.mem_of_getElem? (i := 23) rfl)) rfl (v := mV ad (some (i + 12))) rfl hdg kk
theorem fg_X3_58 (C : mX p s m c cc nL args RX3 G) (hM : mM G kd ad s σ H locs) (ho : mO kd 3 i σ) (hdg : decode cc pc = .ok (.getfield 58, 3)) (kk : W p l e R s m args below meth c H locs cells slots Q (F0 m (pc + 3) ls (mV ad (some (i + 17)) :: rest))) : W p l e R s m args below meth c H locs cells slots Q (F0 m pc ls (mV ad (some i) :: rest)) := mr_get C hM ho rfl inlX3 19 (by decide) (by decide) (mw_3 _ (List.mem_of_getElem? (i := 4) rfl)) rfl (v := mV ad (some (i + 17))) rfl hdg kk
theorem fg_X3_101 (C : mX p s m c cc nL args RX3 G) (hM : mM G kd ad s σ H locs) (ho : mO kd 3 i σ) (hdg : decode cc pc = .ok (.getfield 101, 3)) (kk : W p l e R s m args below meth c H locs cells slots Q (F0 m (pc + 3) ls (.int (mI σ i 1) :: rest))) : W p l e R s m args below meth c H locs cells slots Q (F0 m pc ls (mV ad (some i) :: rest)) := mr_get C hM ho rfl inlX3 1 (by decide) (by decide) (mw_10 _ (List.mem_of_getElem? (i := 21) rfl)) rfl (v := .int (mI σ i 1)) rfl hdg kk
theorem fg_X3_34 (C : mX p s m c cc nL args RX3 G) (hM : mM G kd ad s σ H locs) (ho : mO kd 3 i σ) (hdg : decode cc pc = .ok (.getfield 34, 3)) (kk : W p l e R s m args below meth c H locs cells slots Q (F0 m (pc + 3) ls (mV ad (some (i + 9)) :: rest))) : W p l e R s m args below meth c H locs cells slots Q (F0 m pc ls (mV ad (some i) :: rest)) := mr_get C hM ho rfl inlX3 10 (by decide) (by decide) (mw_2 _ (List.mem_of_getElem? (i := 20) rfl)) rfl (v := mV ad (some (i + 9))) rfl hdg kk
theorem fg_X3_37 (C : mX p s m c cc nL args RX3 G) (hM : mM G kd ad s σ H locs) (ho : mO kd 3 i σ) (hdg : decode cc pc = .ok (.getfield 37, 3)) (kk : W p l e R s m args below meth c H locs cells slots Q (F0 m (pc + 3) ls (mV ad (some (i + 10)) :: rest))) : W p l e R s m args below meth c H locs cells slots Q (F0 m pc ls (mV ad (some i) :: rest)) := mr_get C hM ho rfl inlX3 11 (by decide) (by decide) (mw_2 _ (List.mem_of_getElem? (i := 21) rfl)) rfl (v := mV ad (some (i + 10))) rfl hdg kk
theorem fg_X3_49 (C : mX p s m c cc nL args RX3 G) (hM : mM G kd ad s σ H locs) (ho : mO kd 3 i σ) (hdg : decode cc pc = .ok (.getfield 49, 3)) (kk : W p l e R s m args below meth c H locs cells slots Q (F0 m (pc + 3) ls (mV ad (some (i + 14)) :: rest))) : W p l e R s m args below meth c H locs cells slots Q (F0 m pc ls (mV ad (some i) :: rest)) := mr_get C hM ho rfl inlX3 16 (by decide) (by decide) (mw_3 _ (List.mem_of_getElem? (i := 1) rfl)) rfl (v := mV ad (some (i + 14))) rfl hdg kk
theorem fg_X3_40 (C : mX p s m c cc nL args RX3 G) (hM : mM G kd ad s σ H locs) (ho : mO kd 3 i σ) (hdg : decode cc pc = .ok (.getfield 40, 3)) (kk : W p l e R s m args below meth c H locs cells slots Q (F0 m (pc + 3) ls (mV ad (some (i + 11)) :: rest))) : W p l e R s m args below meth c H locs cells slots Q (F0 m pc ls (mV ad (some i) :: rest)) := mr_get C hM ho rfl inlX3 12 (by decide) (by decide) (mw_2 _ (List.mem_of_getElem? (i := 22) rfl)) rfl (v := mV ad (some (i + 11))) rfl hdg kk
theorem fg_X3_55 (C : mX p s m c cc nL args RX3 G) (hM : mM G kd ad s σ H locs) (ho : mO kd 3 i σ) (hdg : decode cc pc = .ok (.getfield 55, 3)) (kk : W p l e R s m args below meth c H locs cells slots Q (F0 m (pc + 3) ls (mV ad (some (i + 16)) :: rest))) : W p l e R s m args below meth c H locs cells slots Q (F0 m pc ls (mV ad (some i) :: rest)) := mr_get C hM ho rfl inlX3 18 (by decide) (by decide) (mw_3 _ (List.mem_of_getElem? (i := 3) rfl)) rfl (v := mV ad (some (i + 16))) rfl hdg kk
theorem fg_X3_46 (C : mX p s m c cc nL args RX3 G) (hM : mM G kd ad s σ H locs) (ho : mO kd 3 i σ) (hdg : decode cc pc = .ok (.getfield 46, 3)) (kk : W p l e R s m args below meth c H locs cells slots Q (F0 m (pc + 3) ls (mV ad (some (i + 13)) :: rest))) : W p l e R s m args below meth c H locs cells slots Q (F0 m pc ls (mV ad (some i) :: rest)) := mr_get C hM ho rfl inlX3 15 (by decide) (by decide) (mw_3 _ (List.mem_of_getElem? (i := 0) rfl)) rfl (v := mV ad (some (i + 13))) rfl hdg kk
theorem fg_X3_61 (C : mX p s m c cc nL args RX3 G) (hM : mM G kd ad s σ H locs) (ho : mO kd 3 i σ) (hdg : decode cc pc = .ok (.getfield 61, 3)) (kk : W p l e R s m args below meth c H locs cells slots Q (F0 m (pc + 3) ls (mV ad (some (i + 18)) :: rest))) : W p l e R s m args below meth c H locs cells slots Q (F0 m pc ls (mV ad (some i) :: rest)) := mr_get C hM ho rfl inlX3 20 (by decide) (by decide) (mw_3 _ (List.mem_of_getElem? (i := 5) rfl)) rfl (v := mV ad (some (i + 18))) rfl hdg kk
theorem fg_X3_64 (C : mX p s m c cc nL args RX3 G) (hM : mM G kd ad s σ H locs) (ho : mO kd 3 i σ) (hdg : decode cc pc = .ok (.getfield 64, 3)) (kk : W p l e R s m args below meth c H locs cells slots Q (F0 m (pc + 3) ls (mV ad (some (i + 19)) :: rest))) : W p l e R s m args below meth c H locs cells slots Q (F0 m pc ls (mV ad (some i) :: rest)) := mr_get C hM ho rfl inlX3 21 (by decide) (by decide) (mw_3 _ (List.mem_of_getElem? (i := 6) rfl)) rfl (v := mV ad (some (i + 19))) rfl hdg kk
theorem fg_X3_79 (C : mX p s m c cc nL args RX3 G) (hM : mM G kd ad s σ H locs) (ho : mO kd 3 i σ) (hdg : decode cc pc = .ok (.getfield 79, 3)) (kk : W p l e R s m args below meth c H locs cells slots Q (F0 m (pc + 3) ls (mV ad (some (i + 24)) :: rest))) : W p l e R s m args below meth c H locs cells slots Q (F0 m pc ls (mV ad (some i) :: rest)) := mr_get C hM ho rfl inlX3 26 (by decide) (by decide) (mw_3 _ (List.mem_of_getElem? (i := 12) rfl)) rfl (v := mV ad (some (i + 24))) rfl hdg kk
theorem fg_X3_73 (C : mX p s m c cc nL args RX3 G) (hM : mM G kd ad s σ H locs) (ho : mO kd 3 i σ) (hdg : decode cc pc = .ok (.getfield 73, 3)) (kk : W p l e R s m args below meth c H locs cells slots Q (F0 m (pc + 3) ls (mV ad (some (i + 22)) :: rest))) : W p l e R s m args below meth c H locs cells slots Q (F0 m pc ls (mV ad (some i) :: rest)) := mr_get C hM ho rfl inlX3 24 (by decide) (by decide) (mw_3 _ (List.mem_of_getElem? (i := 9) rfl)) rfl (v := mV ad (some (i + 22))) rfl hdg kk
theorem fg_X3_70 (C : mX p s m c cc nL args RX3 G) (hM : mM G kd ad s σ H locs) (ho : mO kd 3 i σ) (hdg : decode cc pc = .ok (.getfield 70, 3)) (kk : W p l e R s m args below meth c H locs cells slots Q (F0 m (pc + 3) ls (mV ad (some (i + 21)) :: rest))) : W p l e R s m args below meth c H locs cells slots Q (F0 m pc ls (mV ad (some i) :: rest)) := mr_get C hM ho rfl inlX3 23 (by decide) (by decide) (mw_3 _ (List.mem_of_getElem? (i := 8) rfl)) rfl (v := mV ad (some (i + 21))) rfl hdg kk
theorem fg_X3_76 (C : mX p s m c cc nL args RX3 G) (hM : mM G kd ad s σ H locs) (ho : mO kd 3 i σ) (hdg : decode cc pc = .ok (.getfield 76, 3)) (kk : W p l e R s m args below meth c H locs cells slots Q (F0 m (pc + 3) ls (mV ad (some (i + 23)) :: rest))) : W p l e R s m args below meth c H locs cells slots Q (F0 m pc ls (mV ad (some i) :: rest)) := mr_get C hM ho rfl inlX3 25 (by decide) (by decide) (mw_3 _ (List.mem_of_getElem? (i := 10) rfl)) rfl (v := mV ad (some (i + 23))) rfl hdg kk
theorem fg_X3_67 (C : mX p s m c cc nL args RX3 G) (hM : mM G kd ad s σ H locs) (ho : mO kd 3 i σ) (hdg : decode cc pc = .ok (.getfield 67, 3)) (kk : W p l e R s m args below meth c H locs cells slots Q (F0 m (pc + 3) ls (mV ad (some (i + 20)) :: rest))) : W p l e R s m args below meth c H locs cells slots Q (F0 m pc ls (mV ad (some i) :: rest)) := mr_get C hM ho rfl inlX3 22 (by decide) (by decide) (mw_3 _ (List.mem_of_getElem? (i := 7) rfl)) rfl (v := mV ad (some (i + 20))) rfl hdg kk
theorem fg_X3_83 (C : mX p s m c cc nL args RX3 G) (hM : mM G kd ad s σ H locs) (ho : mO kd 3 i σ) (hdg : decode cc pc = .ok (.getfield 83, 3)) (kk : W p l e R s m args below meth c H locs cells slots Q (F0 m (pc + 3) ls (mV ad (some (i + 25)) :: rest))) : W p l e R s m args below meth c H locs cells slots Q (F0 m pc ls (mV ad (some i) :: rest)) := mr_get C hM ho rfl inlX3 27 (by decide) (by decide) (mw_3 _ (List.mem_of_getElem? (i := 13) rfl)) rfl (v := mV ad (some (i + 25))) rfl hdg kk
theorem fg_X2_61 (C : mX p s m c cc nL args RX2 G) (hM : mM G kd ad s σ H locs) (ho : mO kd 1 i σ) (hdg : decode cc pc = .ok (.getfield 61, 3)) (kk : W p l e R s m args below meth c H locs cells slots Q (F0 m (pc + 3) ls (.int (mI σ i 4) :: rest))) : W p l e R s m args below meth c H locs cells slots Q (F0 m pc ls (mV ad (some i) :: rest)) := mr_get C hM ho rfl inlX1 4 (by decide) (by decide) (mw_6 _ (List.mem_of_getElem? (i := 8) rfl)) rfl (v := .int (mI σ i 4)) rfl hdg kk
theorem fg_X2_87 (C : mX p s m c cc nL args RX2 G) (hM : mM G kd ad s σ H locs) (ho : mO kd 0 i σ) (hdg : decode cc pc = .ok (.getfield 87, 3)) (kk : W p l e R s m args below meth c H locs cells slots Q (F0 m (pc + 3) ls (.int (mI σ i 0) :: rest))) : W p l e R s m args below meth c H locs cells slots Q (F0 m pc ls (mV ad (some i) :: rest)) := mr_get C hM ho rfl inlX0 0 (by decide) (by decide) (mw_6 _ (List.mem_of_getElem? (i := 23) rfl)) rfl (v := .int (mI σ i 0)) rfl hdg kk
theorem fg_X2_138 (C : mX p s m c cc nL args RX2 G) (hM : mM G kd ad s σ H locs) (ho : mO kd 1 i σ) (hdg : decode cc pc = .ok (.getfield 138, 3)) (kk : W p l e R s m args below meth c H locs cells slots Q (F0 m (pc + 3) ls (.int (mI σ i 0) :: rest))) : W p l e R s m args below meth c H locs cells slots Q (F0 m pc ls (mV ad (some i) :: rest)) := mr_get C hM ho rfl inlX1 0 (by decide) (by decide) (mw_21 _ (List.mem_of_getElem? (i := 2) rfl)) rfl (v := .int (mI σ i 0)) rfl hdg kk
theorem fg_X2_142 (C : mX p s m c cc nL args RX2 G) (hM : mM G kd ad s σ H locs) (ho : mO kd 0 i σ) (hdg : decode cc pc = .ok (.getfield 142, 3)) (kk : W p l e R s m args below meth c H locs cells slots Q (F0 m (pc + 3) ls (.int (mI σ i 5) :: rest))) : W p l e R s m args below meth c H locs cells slots Q (F0 m pc ls (mV ad (some i) :: rest)) := mr_get C hM ho rfl inlX0 5 (by decide) (by decide) (mw_8 _ (List.mem_of_getElem? (i := 20) rfl)) rfl (v := .int (mI σ i 5)) rfl hdg kk
theorem fg_X2_171 (C : mX p s m c cc nL args RX2 G) (hM : mM G kd ad s σ H locs) (ho : mO kd 1 i σ) (hdg : decode cc pc = .ok (.getfield 171, 3)) (kk : W p l e R s m args below meth c H locs cells slots Q (F0 m (pc + 3) ls (.int (mI σ i 7) :: rest))) : W p l e R s m args below meth c H locs cells slots Q (F0 m pc ls (mV ad (some i) :: rest)) := mr_get C hM ho rfl inlX1 7 (by decide) (by decide) (mw_24 _ (List.mem_of_getElem? (i := 16) rfl)) rfl (v := .int (mI σ i 7)) rfl hdg kk
theorem fp_X0_9 (C : mX p s m c cc nL args RX0 G) (hM : mM G kd ad s σ H locs) (ho : mO kd 0 i σ) (hdg : decode cc pc = .ok (.putfield 9, 3)) (v : Int32) (kk : ∀ (H1 : Heap) (locs1 : List Loc), mM G kd ad s (sI σ i 4 v) H1 locs1 → W p l e R s m args below meth c H1 locs1 cells slots Q (F0 m (pc + 3) ls rest)) : W p l e R s m args below meth c H locs cells slots Q (F0 m pc ls (.int v :: mV ad (some i) :: rest)) := mr_put C hM ho rfl inlX0 tyX0 tyX0_ok nmX0 rfl 4 (by decide) (mw_7 _ (List.mem_of_getElem? (i := 19) rfl)) rfl rfl rfl rfl (sI σ i 4 v) rfl (fun a b h => mI_off a b h) (fun _ _ _ => rfl) (by show Value.int (mI (sI σ i 4 v) i 4) = _; rw [mI_sI, if_pos ⟨rfl, rfl⟩]) hdg kk
theorem fp_X1_54 (C : mX p s m c cc nL args RX1 G) (hM : mM G kd ad s σ H locs) (ho : mO kd 1 i σ) (hdg : decode cc pc = .ok (.putfield 54, 3)) (v : Int32) (kk : ∀ (H1 : Heap) (locs1 : List Loc), mM G kd ad s (sI σ i 8 v) H1 locs1 → W p l e R s m args below meth c H1 locs1 cells slots Q (F0 m (pc + 3) ls rest)) : W p l e R s m args below meth c H locs cells slots Q (F0 m pc ls (.int v :: mV ad (some i) :: rest)) := mr_put C hM ho rfl inlX1 tyX1 tyX1_ok nmX1 rfl 8 (by decide) (mw_9 _ (List.mem_of_getElem? (i := 7) rfl)) rfl rfl rfl rfl (sI σ i 8 v) rfl (fun a b h => mI_off a b h) (fun _ _ _ => rfl) (by show Value.int (mI (sI σ i 8 v) i 8) = _; rw [mI_sI, if_pos ⟨rfl, rfl⟩]) hdg kk
theorem fp_X1_21 (C : mX p s m c cc nL args RX1 G) (hM : mM G kd ad s σ H locs) (ho : mO kd 1 i σ) (hdg : decode cc pc = .ok (.putfield 21, 3)) (v : Int32) (kk : ∀ (H1 : Heap) (locs1 : List Loc), mM G kd ad s (sI σ i 7 v) H1 locs1 → W p l e R s m args below meth c H1 locs1 cells slots Q (F0 m (pc + 3) ls rest)) : W p l e R s m args below meth c H locs cells slots Q (F0 m pc ls (.int v :: mV ad (some i) :: rest)) := mr_put C hM ho rfl inlX1 tyX1 tyX1_ok nmX1 rfl 7 (by decide) (mw_2 _ (List.mem_of_getElem? (i := 2) rfl)) rfl rfl rfl rfl (sI σ i 7 v) rfl (fun a b h => mI_off a b h) (fun _ _ _ => rfl) (by show Value.int (mI (sI σ i 7 v) i 7) = _; rw [mI_sI, if_pos ⟨rfl, rfl⟩]) hdg kk
theorem fp_X0_71 (C : mX p s m c cc nL args RX0 G) (hM : mM G kd ad s σ H locs) (ho : mO kd 0 i σ) (hdg : decode cc pc = .ok (.putfield 71, 3)) (v : Int32) (kk : ∀ (H1 : Heap) (locs1 : List Loc), mM G kd ad s (sI σ i 15 v) H1 locs1 → W p l e R s m args below meth c H1 locs1 cells slots Q (F0 m (pc + 3) ls rest)) : W p l e R s m args below meth c H locs cells slots Q (F0 m pc ls (.int v :: mV ad (some i) :: rest)) := mr_put C hM ho rfl inlX0 tyX0 tyX0_ok nmX0 rfl 15 (by decide) (mw_9 _ (List.mem_of_getElem? (i := 12) rfl)) rfl rfl rfl rfl (sI σ i 15 v) rfl (fun a b h => mI_off a b h) (fun _ _ _ => rfl) (by show Value.int (mI (sI σ i 15 v) i 15) = _; rw [mI_sI, if_pos ⟨rfl, rfl⟩]) hdg kk
theorem fp_X0_62 (C : mX p s m c cc nL args RX0 G) (hM : mM G kd ad s σ H locs) (ho : mO kd 0 i σ) (hdg : decode cc pc = .ok (.putfield 62, 3)) (v : Int32) (hz : narrow .boolean (.int v) = .int v) (kk : ∀ (H1 : Heap) (locs1 : List Loc), mM G kd ad s (sI σ i 13 v) H1 locs1 → W p l e R s m args below meth c H1 locs1 cells slots Q (F0 m (pc + 3) ls rest)) : W p l e R s m args below meth c H locs cells slots Q (F0 m pc ls (.int v :: mV ad (some i) :: rest)) := mr_put C hM ho rfl inlX0 tyX0 tyX0_ok nmX0 rfl 13 (by decide) (mw_9 _ (List.mem_of_getElem? (i := 13) rfl)) rfl rfl hz (m_fitZ hz) (sI σ i 13 v) rfl (fun a b h => mI_off a b h) (fun _ _ _ => rfl) (by show Value.int (mI (sI σ i 13 v) i 13) = _; rw [mI_sI, if_pos ⟨rfl, rfl⟩]) hdg kk
theorem fp_X2_142 (C : mX p s m c cc nL args RX2 G) (hM : mM G kd ad s σ H locs) (ho : mO kd 0 i σ) (hdg : decode cc pc = .ok (.putfield 142, 3)) (v : Int32) (kk : ∀ (H1 : Heap) (locs1 : List Loc), mM G kd ad s (sI σ i 5 v) H1 locs1 → W p l e R s m args below meth c H1 locs1 cells slots Q (F0 m (pc + 3) ls rest)) : W p l e R s m args below meth c H locs cells slots Q (F0 m pc ls (.int v :: mV ad (some i) :: rest)) := mr_put C hM ho rfl inlX0 tyX0 tyX0_ok nmX0 rfl 5 (by decide) (mw_8 _ (List.mem_of_getElem? (i := 20) rfl)) rfl rfl rfl rfl (sI σ i 5 v) rfl (fun a b h => mI_off a b h) (fun _ _ _ => rfl) (by show Value.int (mI (sI σ i 5 v) i 5) = _; rw [mI_sI, if_pos ⟨rfl, rfl⟩]) hdg kk
theorem fp_X2_107 (C : mX p s m c cc nL args RX2 G) (hM : mM G kd ad s σ H locs) (ho : mO kd 2 i σ) (hdg : decode cc pc = .ok (.putfield 107, 3)) (v : Int32) (kk : ∀ (H1 : Heap) (locs1 : List Loc), mM G kd ad s (sI σ i 4 v) H1 locs1 → W p l e R s m args below meth c H1 locs1 cells slots Q (F0 m (pc + 3) ls rest)) : W p l e R s m args below meth c H locs cells slots Q (F0 m pc ls (.int v :: mV ad (some i) :: rest)) := mr_put C hM ho rfl inlX2 tyX2 tyX2_ok nmX2 rfl 4 (by decide) (mw_8 _ (List.mem_of_getElem? (i := 21) rfl)) rfl rfl rfl rfl (sI σ i 4 v) rfl (fun a b h => mI_off a b h) (fun _ _ _ => rfl) (by show Value.int (mI (sI σ i 4 v) i 4) = _; rw [mI_sI, if_pos ⟨rfl, rfl⟩]) hdg kk
theorem fp_X2_208 (C : mX p s m c cc nL args RX2 G) (hM : mM G kd ad s σ H locs) (ho : mO kd 0 i σ) (hdg : decode cc pc = .ok (.putfield 208, 3)) (v : Int32) (kk : ∀ (H1 : Heap) (locs1 : List Loc), mM G kd ad s (sI σ i 6 v) H1 locs1 → W p l e R s m args below meth c H1 locs1 cells slots Q (F0 m (pc + 3) ls rest)) : W p l e R s m args below meth c H locs cells slots Q (F0 m pc ls (.int v :: mV ad (some i) :: rest)) := mr_put C hM ho rfl inlX0 tyX0 tyX0_ok nmX0 rfl 6 (by decide) (mw_10 _ (List.mem_of_getElem? (i := 11) rfl)) rfl rfl rfl rfl (sI σ i 6 v) rfl (fun a b h => mI_off a b h) (fun _ _ _ => rfl) (by show Value.int (mI (sI σ i 6 v) i 6) = _; rw [mI_sI, if_pos ⟨rfl, rfl⟩]) hdg kk
theorem fp_X2_155 (C : mX p s m c cc nL args RX2 G) (hM : mM G kd ad s σ H locs) (ho : mO kd 2 i σ) (hdg : decode cc pc = .ok (.putfield 155, 3)) (v : Option Nat) (kk : ∀ (H1 : Heap) (locs1 : List Loc), mM G kd ad s (sR σ i 5 v) H1 locs1 → W p l e R s m args below meth c H1 locs1 cells slots Q (F0 m (pc + 3) ls rest)) : W p l e R s m args below meth c H locs cells slots Q (F0 m pc ls (mV ad v :: mV ad (some i) :: rest)) := mr_put C hM ho rfl inlX2 tyX2 tyX2_ok nmX2 rfl 5 (by decide) (mw_7 _ (List.mem_of_getElem? (i := 13) rfl)) rfl rfl (by cases v <;> rfl) (by cases v <;> rfl) (sR σ i 5 v) rfl (fun _ _ _ => rfl) (fun a b h => mR_off a b h) (by show mV ad (mR (sR σ i 5 v) i 5) = _; rw [mR_sR, if_pos ⟨rfl, rfl⟩]) hdg kk
theorem fp_X2_187 (C : mX p s m c cc nL args RX2 G) (hM : mM G kd ad s σ H locs) (ho : mO kd 2 i σ) (hdg : decode cc pc = .ok (.putfield 187, 3)) (v : Option Nat) (kk : ∀ (H1 : Heap) (locs1 : List Loc), mM G kd ad s (sR σ i 6 v) H1 locs1 → W p l e R s m args below meth c H1 locs1 cells slots Q (F0 m (pc + 3) ls rest)) : W p l e R s m args below meth c H locs cells slots Q (F0 m pc ls (mV ad v :: mV ad (some i) :: rest)) := mr_put C hM ho rfl inlX2 tyX2 tyX2_ok nmX2 rfl 6 (by decide) (mw_7 _ (List.mem_of_getElem? (i := 11) rfl)) rfl rfl (by cases v <;> rfl) (by cases v <;> rfl) (sR σ i 6 v) rfl (fun _ _ _ => rfl) (fun a b h => mR_off a b h) (by show mV ad (mR (sR σ i 6 v) i 6) = _; rw [mR_sR, if_pos ⟨rfl, rfl⟩]) hdg kk
theorem fp_X2_190 (C : mX p s m c cc nL args RX2 G) (hM : mM G kd ad s σ H locs) (ho : mO kd 0 i σ) (hdg : decode cc pc = .ok (.putfield 190, 3)) (v : Option Nat) (kk : ∀ (H1 : Heap) (locs1 : List Loc), mM G kd ad s (sR σ i 7 v) H1 locs1 → W p l e R s m args below meth c H1 locs1 cells slots Q (F0 m (pc + 3) ls rest)) : W p l e R s m args below meth c H locs cells slots Q (F0 m pc ls (mV ad v :: mV ad (some i) :: rest)) := mr_put C hM ho rfl inlX0 tyX0 tyX0_ok nmX0 rfl 7 (by decide) (mw_7 _ (List.mem_of_getElem? (i := 12) rfl)) rfl rfl (by cases v <;> rfl) (by cases v <;> rfl) (sR σ i 7 v) rfl (fun _ _ _ => rfl) (fun a b h => mR_off a b h) (by show mV ad (mR (sR σ i 7 v) i 7) = _; rw [mR_sR, if_pos ⟨rfl, rfl⟩]) hdg kk
theorem fp_X1_42 (C : mX p s m c cc nL args RX1 G) (hM : mM G kd ad s σ H locs) (ho : mO kd 1 i σ) (hdg : decode cc pc = .ok (.putfield 42, 3)) (v : Int32) (kk : ∀ (H1 : Heap) (locs1 : List Loc), mM G kd ad s (sI σ i 9 v) H1 locs1 → W p l e R s m args below meth c H1 locs1 cells slots Q (F0 m (pc + 3) ls rest)) : W p l e R s m args below meth c H locs cells slots Q (F0 m pc ls (.int v :: mV ad (some i) :: rest)) := mr_put C hM ho rfl inlX1 tyX1 tyX1_ok nmX1 rfl 9 (by decide) (mw_8 _ (List.mem_of_getElem? (i := 10) rfl)) rfl rfl rfl rfl (sI σ i 9 v) rfl (fun a b h => mI_off a b h) (fun _ _ _ => rfl) (by show Value.int (mI (sI σ i 9 v) i 9) = _; rw [mI_sI, if_pos ⟨rfl, rfl⟩]) hdg kk
theorem fp_X1_45 (C : mX p s m c cc nL args RX1 G) (hM : mM G kd ad s σ H locs) (ho : mO kd 1 i σ) (hdg : decode cc pc = .ok (.putfield 45, 3)) (v : Int32) (kk : ∀ (H1 : Heap) (locs1 : List Loc), mM G kd ad s (sI σ i 3 v) H1 locs1 → W p l e R s m args below meth c H1 locs1 cells slots Q (F0 m (pc + 3) ls rest)) : W p l e R s m args below meth c H locs cells slots Q (F0 m pc ls (.int v :: mV ad (some i) :: rest)) := mr_put C hM ho rfl inlX1 tyX1 tyX1_ok nmX1 rfl 3 (by decide) (mw_13 _ (List.mem_of_getElem? (i := 23) rfl)) rfl rfl rfl rfl (sI σ i 3 v) rfl (fun a b h => mI_off a b h) (fun _ _ _ => rfl) (by show Value.int (mI (sI σ i 3 v) i 3) = _; rw [mI_sI, if_pos ⟨rfl, rfl⟩]) hdg kk
theorem fp_X0_52 (C : mX p s m c cc nL args RX0 G) (hM : mM G kd ad s σ H locs) (ho : mO kd 0 i σ) (hdg : decode cc pc = .ok (.putfield 52, 3)) (v : Option Nat) (kk : ∀ (H1 : Heap) (locs1 : List Loc), mM G kd ad s (sR σ i 11 v) H1 locs1 → W p l e R s m args below meth c H1 locs1 cells slots Q (F0 m (pc + 3) ls rest)) : W p l e R s m args below meth c H locs cells slots Q (F0 m pc ls (mV ad v :: mV ad (some i) :: rest)) := mr_put C hM ho rfl inlX0 tyX0 tyX0_ok nmX0 rfl 11 (by decide) (mw_14 _ (List.mem_of_getElem? (i := 15) rfl)) rfl rfl (by cases v <;> rfl) (by cases v <;> rfl) (sR σ i 11 v) rfl (fun _ _ _ => rfl) (fun a b h => mR_off a b h) (by show mV ad (mR (sR σ i 11 v) i 11) = _; rw [mR_sR, if_pos ⟨rfl, rfl⟩]) hdg kk
theorem fp_X0_55 (C : mX p s m c cc nL args RX0 G) (hM : mM G kd ad s σ H locs) (ho : mO kd 0 i σ) (hdg : decode cc pc = .ok (.putfield 55, 3)) (v : Int32) (kk : ∀ (H1 : Heap) (locs1 : List Loc), mM G kd ad s (sI σ i 10 v) H1 locs1 → W p l e R s m args below meth c H1 locs1 cells slots Q (F0 m (pc + 3) ls rest)) : W p l e R s m args below meth c H locs cells slots Q (F0 m pc ls (.int v :: mV ad (some i) :: rest)) := mr_put C hM ho rfl inlX0 tyX0 tyX0_ok nmX0 rfl 10 (by decide) (mw_14 _ (List.mem_of_getElem? (i := 16) rfl)) rfl rfl rfl rfl (sI σ i 10 v) rfl (fun a b h => mI_off a b h) (fun _ _ _ => rfl) (by show Value.int (mI (sI σ i 10 v) i 10) = _; rw [mI_sI, if_pos ⟨rfl, rfl⟩]) hdg kk
theorem fp_X0_58 (C : mX p s m c cc nL args RX0 G) (hM : mM G kd ad s σ H locs) (ho : mO kd 0 i σ) (hdg : decode cc pc = .ok (.putfield 58, 3)) (v : Int32) (hz : narrow .boolean (.int v) = .int v) (kk : ∀ (H1 : Heap) (locs1 : List Loc), mM G kd ad s (sI σ i 12 v) H1 locs1 → W p l e R s m args below meth c H1 locs1 cells slots Q (F0 m (pc + 3) ls rest)) : W p l e R s m args below meth c H locs cells slots Q (F0 m pc ls (.int v :: mV ad (some i) :: rest)) := mr_put C hM ho rfl inlX0 tyX0 tyX0_ok nmX0 rfl 12 (by decide) (mw_14 _ (List.mem_of_getElem? (i := 17) rfl)) rfl rfl hz (m_fitZ hz) (sI σ i 12 v) rfl (fun a b h => mI_off a b h) (fun _ _ _ => rfl) (by show Value.int (mI (sI σ i 12 v) i 12) = _; rw [mI_sI, if_pos ⟨rfl, rfl⟩]) hdg kk
theorem fp_X0_65 (C : mX p s m c cc nL args RX0 G) (hM : mM G kd ad s σ H locs) (ho : mO kd 0 i σ) (hdg : decode cc pc = .ok (.putfield 65, 3)) (v : Int32) (kk : ∀ (H1 : Heap) (locs1 : List Loc), mM G kd ad s (sI σ i 14 v) H1 locs1 → W p l e R s m args below meth c H1 locs1 cells slots Q (F0 m (pc + 3) ls rest)) : W p l e R s m args below meth c H locs cells slots Q (F0 m pc ls (.int v :: mV ad (some i) :: rest)) := mr_put C hM ho rfl inlX0 tyX0 tyX0_ok nmX0 rfl 14 (by decide) (mw_14 _ (List.mem_of_getElem? (i := 18) rfl)) rfl rfl rfl rfl (sI σ i 14 v) rfl (fun a b h => mI_off a b h) (fun _ _ _ => rfl) (by show Value.int (mI (sI σ i 14 v) i 14) = _; rw [mI_sI, if_pos ⟨rfl, rfl⟩]) hdg kk
theorem fp_X0_68 (C : mX p s m c cc nL args RX0 G) (hM : mM G kd ad s σ H locs) (ho : mO kd 0 i σ) (hdg : decode cc pc = .ok (.putfield 68, 3)) (v : Int32) (kk : ∀ (H1 : Heap) (locs1 : List Loc), mM G kd ad s (sI σ i 16 v) H1 locs1 → W p l e R s m args below meth c H1 locs1 cells slots Q (F0 m (pc + 3) ls rest)) : W p l e R s m args below meth c H locs cells slots Q (F0 m pc ls (.int v :: mV ad (some i) :: rest)) := mr_put C hM ho rfl inlX0 tyX0 tyX0_ok nmX0 rfl 16 (by decide) (mw_14 _ (List.mem_of_getElem? (i := 19) rfl)) rfl rfl rfl rfl (sI σ i 16 v) rfl (fun a b h => mI_off a b h) (fun _ _ _ => rfl) (by show Value.int (mI (sI σ i 16 v) i 16) = _; rw [mI_sI, if_pos ⟨rfl, rfl⟩]) hdg kk
theorem fp_X2_227 (C : mX p s m c cc nL args RX2 G) (hM : mM G kd ad s σ H locs) (ho : mO kd 0 i σ) (hdg : decode cc pc = .ok (.putfield 227, 3)) (v : Int32) (kk : ∀ (H1 : Heap) (locs1 : List Loc), mM G kd ad s (sI σ i 9 v) H1 locs1 → W p l e R s m args below meth c H1 locs1 cells slots Q (F0 m (pc + 3) ls rest)) : W p l e R s m args below meth c H locs cells slots Q (F0 m pc ls (.int v :: mV ad (some i) :: rest)) := mr_put C hM ho rfl inlX0 tyX0 tyX0_ok nmX0 rfl 9 (by decide) (mw_13 _ (List.mem_of_getElem? (i := 18) rfl)) rfl rfl rfl rfl (sI σ i 9 v) rfl (fun a b h => mI_off a b h) (fun _ _ _ => rfl) (by show Value.int (mI (sI σ i 9 v) i 9) = _; rw [mI_sI, if_pos ⟨rfl, rfl⟩]) hdg kk
theorem fp_X2_270 (C : mX p s m c cc nL args RX2 G) (hM : mM G kd ad s σ H locs) (ho : mO kd 0 i σ) (hdg : decode cc pc = .ok (.putfield 270, 3)) (v : Int32) (kk : ∀ (H1 : Heap) (locs1 : List Loc), mM G kd ad s (sI σ i 16 v) H1 locs1 → W p l e R s m args below meth c H1 locs1 cells slots Q (F0 m (pc + 3) ls rest)) : W p l e R s m args below meth c H locs cells slots Q (F0 m pc ls (.int v :: mV ad (some i) :: rest)) := mr_put C hM ho rfl inlX0 tyX0 tyX0_ok nmX0 rfl 16 (by decide) (mw_15 _ (List.mem_of_getElem? (i := 20) rfl)) rfl rfl rfl rfl (sI σ i 16 v) rfl (fun a b h => mI_off a b h) (fun _ _ _ => rfl) (by show Value.int (mI (sI σ i 16 v) i 16) = _; rw [mI_sI, if_pos ⟨rfl, rfl⟩]) hdg kk
theorem fp_X2_241 (C : mX p s m c cc nL args RX2 G) (hM : mM G kd ad s σ H locs) (ho : mO kd 0 i σ) (hdg : decode cc pc = .ok (.putfield 241, 3)) (v : Int32) (hz : narrow .boolean (.int v) = .int v) (kk : ∀ (H1 : Heap) (locs1 : List Loc), mM G kd ad s (sI σ i 12 v) H1 locs1 → W p l e R s m args below meth c H1 locs1 cells slots Q (F0 m (pc + 3) ls rest)) : W p l e R s m args below meth c H locs cells slots Q (F0 m pc ls (.int v :: mV ad (some i) :: rest)) := mr_put C hM ho rfl inlX0 tyX0 tyX0_ok nmX0 rfl 12 (by decide) (mw_15 _ (List.mem_of_getElem? (i := 2) rfl)) rfl rfl hz (m_fitZ hz) (sI σ i 12 v) rfl (fun a b h => mI_off a b h) (fun _ _ _ => rfl) (by show Value.int (mI (sI σ i 12 v) i 12) = _; rw [mI_sI, if_pos ⟨rfl, rfl⟩]) hdg kk
theorem fp_X0_74 (C : mX p s m c cc nL args RX0 G) (hM : mM G kd ad s σ H locs) (ho : mO kd 0 i σ) (hdg : decode cc pc = .ok (.putfield 74, 3)) (v : Int32) (kk : ∀ (H1 : Heap) (locs1 : List Loc), mM G kd ad s (sI σ i 17 v) H1 locs1 → W p l e R s m args below meth c H1 locs1 cells slots Q (F0 m (pc + 3) ls rest)) : W p l e R s m args below meth c H locs cells slots Q (F0 m pc ls (.int v :: mV ad (some i) :: rest)) := mr_put C hM ho rfl inlX0 tyX0 tyX0_ok nmX0 rfl 17 (by decide) (mw_16 _ (List.mem_of_getElem? (i := 18) rfl)) rfl rfl rfl rfl (sI σ i 17 v) rfl (fun a b h => mI_off a b h) (fun _ _ _ => rfl) (by show Value.int (mI (sI σ i 17 v) i 17) = _; rw [mI_sI, if_pos ⟨rfl, rfl⟩]) hdg kk
theorem fp_X1_35 (C : mX p s m c cc nL args RX1 G) (hM : mM G kd ad s σ H locs) (ho : mO kd 1 i σ) (hdg : decode cc pc = .ok (.putfield 35, 3)) (v : Int32) (kk : ∀ (H1 : Heap) (locs1 : List Loc), mM G kd ad s (sI σ i 11 v) H1 locs1 → W p l e R s m args below meth c H1 locs1 cells slots Q (F0 m (pc + 3) ls rest)) : W p l e R s m args below meth c H locs cells slots Q (F0 m pc ls (.int v :: mV ad (some i) :: rest)) := mr_put C hM ho rfl inlX1 tyX1 tyX1_ok nmX1 rfl 11 (by decide) (mw_5 _ (List.mem_of_getElem? (i := 20) rfl)) rfl rfl rfl rfl (sI σ i 11 v) rfl (fun a b h => mI_off a b h) (fun _ _ _ => rfl) (by show Value.int (mI (sI σ i 11 v) i 11) = _; rw [mI_sI, if_pos ⟨rfl, rfl⟩]) hdg kk
theorem fp_X3_86 (C : mX p s m c cc nL args RX3 G) (hM : mM G kd ad s σ H locs) (ho : mO kd 3 i σ) (hdg : decode cc pc = .ok (.putfield 86, 3)) (v : Int32) (kk : ∀ (H1 : Heap) (locs1 : List Loc), mM G kd ad s (sI σ i 0 v) H1 locs1 → W p l e R s m args below meth c H1 locs1 cells slots Q (F0 m (pc + 3) ls rest)) : W p l e R s m args below meth c H locs cells slots Q (F0 m pc ls (.int v :: mV ad (some i) :: rest)) := mr_put C hM ho rfl inlX3 tyX3 tyX3_ok nmX3 rfl 0 (by decide) (mw_4 _ (List.mem_of_getElem? (i := 18) rfl)) rfl rfl rfl rfl (sI σ i 0 v) rfl (fun a b h => mI_off a b h) (fun _ _ _ => rfl) (by show Value.int (mI (sI σ i 0 v) i 0) = _; rw [mI_sI, if_pos ⟨rfl, rfl⟩]) hdg kk
theorem fp_X3_94 (C : mX p s m c cc nL args RX3 G) (hM : mM G kd ad s σ H locs) (ho : mO kd 3 i σ) (hdg : decode cc pc = .ok (.putfield 94, 3)) (v : Int32) (kk : ∀ (H1 : Heap) (locs1 : List Loc), mM G kd ad s (sI σ i 13 v) H1 locs1 → W p l e R s m args below meth c H1 locs1 cells slots Q (F0 m (pc + 3) ls rest)) : W p l e R s m args below meth c H locs cells slots Q (F0 m pc ls (.int v :: mV ad (some i) :: rest)) := mr_put C hM ho rfl inlX3 tyX3 tyX3_ok nmX3 rfl 13 (by decide) (mw_10 _ (List.mem_of_getElem? (i := 20) rfl)) rfl rfl rfl rfl (sI σ i 13 v) rfl (fun a b h => mI_off a b h) (fun _ _ _ => rfl) (by show Value.int (mI (sI σ i 13 v) i 13) = _; rw [mI_sI, if_pos ⟨rfl, rfl⟩]) hdg kk
theorem fp_X3_101 (C : mX p s m c cc nL args RX3 G) (hM : mM G kd ad s σ H locs) (ho : mO kd 3 i σ) (hdg : decode cc pc = .ok (.putfield 101, 3)) (v : Int32) (kk : ∀ (H1 : Heap) (locs1 : List Loc), mM G kd ad s (sI σ i 1 v) H1 locs1 → W p l e R s m args below meth c H1 locs1 cells slots Q (F0 m (pc + 3) ls rest)) : W p l e R s m args below meth c H locs cells slots Q (F0 m pc ls (.int v :: mV ad (some i) :: rest)) := mr_put C hM ho rfl inlX3 tyX3 tyX3_ok nmX3 rfl 1 (by decide) (mw_10 _ (List.mem_of_getElem? (i := 21) rfl)) rfl rfl rfl rfl (sI σ i 1 v) rfl (fun a b h => mI_off a b h) (fun _ _ _ => rfl) (by show Value.int (mI (sI σ i 1 v) i 1) = _; rw [mI_sI, if_pos ⟨rfl, rfl⟩]) hdg kk
theorem fp_X2_32 (C : mX p s m c cc nL args RX2 G) (hM : mM G kd ad s σ H locs) (ho : mO kd 1 i σ) (hdg : decode cc pc = .ok (.putfield 32, 3)) (v : Int32) (kk : ∀ (H1 : Heap) (locs1 : List Loc), mM G kd ad s (sI σ i 1 v) H1 locs1 → W p l e R s m args below meth c H1 locs1 cells slots Q (F0 m (pc + 3) ls rest)) : W p l e R s m args below meth c H locs cells slots Q (F0 m pc ls (.int v :: mV ad (some i) :: rest)) := mr_put C hM ho rfl inlX1 tyX1 tyX1_ok nmX1 rfl 1 (by decide) (mw_4 _ (List.mem_of_getElem? (i := 0) rfl)) rfl rfl rfl rfl (sI σ i 1 v) rfl (fun a b h => mI_off a b h) (fun _ _ _ => rfl) (by show Value.int (mI (sI σ i 1 v) i 1) = _; rw [mI_sI, if_pos ⟨rfl, rfl⟩]) hdg kk
theorem fp_X2_36 (C : mX p s m c cc nL args RX2 G) (hM : mM G kd ad s σ H locs) (ho : mO kd 1 i σ) (hdg : decode cc pc = .ok (.putfield 36, 3)) (v : Int32) (kk : ∀ (H1 : Heap) (locs1 : List Loc), mM G kd ad s (sI σ i 2 v) H1 locs1 → W p l e R s m args below meth c H1 locs1 cells slots Q (F0 m (pc + 3) ls rest)) : W p l e R s m args below meth c H locs cells slots Q (F0 m pc ls (.int v :: mV ad (some i) :: rest)) := mr_put C hM ho rfl inlX1 tyX1 tyX1_ok nmX1 rfl 2 (by decide) (mw_4 _ (List.mem_of_getElem? (i := 1) rfl)) rfl rfl rfl rfl (sI σ i 2 v) rfl (fun a b h => mI_off a b h) (fun _ _ _ => rfl) (by show Value.int (mI (sI σ i 2 v) i 2) = _; rw [mI_sI, if_pos ⟨rfl, rfl⟩]) hdg kk
theorem fp_X2_39 (C : mX p s m c cc nL args RX2 G) (hM : mM G kd ad s σ H locs) (ho : mO kd 1 i σ) (hdg : decode cc pc = .ok (.putfield 39, 3)) (v : Int32) (kk : ∀ (H1 : Heap) (locs1 : List Loc), mM G kd ad s (sI σ i 3 v) H1 locs1 → W p l e R s m args below meth c H1 locs1 cells slots Q (F0 m (pc + 3) ls rest)) : W p l e R s m args below meth c H locs cells slots Q (F0 m pc ls (.int v :: mV ad (some i) :: rest)) := mr_put C hM ho rfl inlX1 tyX1 tyX1_ok nmX1 rfl 3 (by decide) (mw_4 _ (List.mem_of_getElem? (i := 2) rfl)) rfl rfl rfl rfl (sI σ i 3 v) rfl (fun a b h => mI_off a b h) (fun _ _ _ => rfl) (by show Value.int (mI (sI σ i 3 v) i 3) = _; rw [mI_sI, if_pos ⟨rfl, rfl⟩]) hdg kk
theorem fp_X2_61 (C : mX p s m c cc nL args RX2 G) (hM : mM G kd ad s σ H locs) (ho : mO kd 1 i σ) (hdg : decode cc pc = .ok (.putfield 61, 3)) (v : Int32) (kk : ∀ (H1 : Heap) (locs1 : List Loc), mM G kd ad s (sI σ i 4 v) H1 locs1 → W p l e R s m args below meth c H1 locs1 cells slots Q (F0 m (pc + 3) ls rest)) : W p l e R s m args below meth c H locs cells slots Q (F0 m pc ls (.int v :: mV ad (some i) :: rest)) := mr_put C hM ho rfl inlX1 tyX1 tyX1_ok nmX1 rfl 4 (by decide) (mw_6 _ (List.mem_of_getElem? (i := 8) rfl)) rfl rfl rfl rfl (sI σ i 4 v) rfl (fun a b h => mI_off a b h) (fun _ _ _ => rfl) (by show Value.int (mI (sI σ i 4 v) i 4) = _; rw [mI_sI, if_pos ⟨rfl, rfl⟩]) hdg kk
theorem fp_X2_64 (C : mX p s m c cc nL args RX2 G) (hM : mM G kd ad s σ H locs) (ho : mO kd 1 i σ) (hdg : decode cc pc = .ok (.putfield 64, 3)) (v : Int32) (kk : ∀ (H1 : Heap) (locs1 : List Loc), mM G kd ad s (sI σ i 5 v) H1 locs1 → W p l e R s m args below meth c H1 locs1 cells slots Q (F0 m (pc + 3) ls rest)) : W p l e R s m args below meth c H locs cells slots Q (F0 m pc ls (.int v :: mV ad (some i) :: rest)) := mr_put C hM ho rfl inlX1 tyX1 tyX1_ok nmX1 rfl 5 (by decide) (mw_6 _ (List.mem_of_getElem? (i := 9) rfl)) rfl rfl rfl rfl (sI σ i 5 v) rfl (fun a b h => mI_off a b h) (fun _ _ _ => rfl) (by show Value.int (mI (sI σ i 5 v) i 5) = _; rw [mI_sI, if_pos ⟨rfl, rfl⟩]) hdg kk
theorem fp_X2_67 (C : mX p s m c cc nL args RX2 G) (hM : mM G kd ad s σ H locs) (ho : mO kd 1 i σ) (hdg : decode cc pc = .ok (.putfield 67, 3)) (v : Int32) (kk : ∀ (H1 : Heap) (locs1 : List Loc), mM G kd ad s (sI σ i 6 v) H1 locs1 → W p l e R s m args below meth c H1 locs1 cells slots Q (F0 m (pc + 3) ls rest)) : W p l e R s m args below meth c H locs cells slots Q (F0 m pc ls (.int v :: mV ad (some i) :: rest)) := mr_put C hM ho rfl inlX1 tyX1 tyX1_ok nmX1 rfl 6 (by decide) (mw_6 _ (List.mem_of_getElem? (i := 10) rfl)) rfl rfl rfl rfl (sI σ i 6 v) rfl (fun a b h => mI_off a b h) (fun _ _ _ => rfl) (by show Value.int (mI (sI σ i 6 v) i 6) = _; rw [mI_sI, if_pos ⟨rfl, rfl⟩]) hdg kk
theorem fp_X0_15 (C : mX p s m c cc nL args RX0 G) (hM : mM G kd ad s σ H locs) (ho : mO kd 0 i σ) (hdg : decode cc pc = .ok (.putfield 15, 3)) (v : Int32) (kk : ∀ (H1 : Heap) (locs1 : List Loc), mM G kd ad s (sI σ i 5 v) H1 locs1 → W p l e R s m args below meth c H1 locs1 cells slots Q (F0 m (pc + 3) ls rest)) : W p l e R s m args below meth c H locs cells slots Q (F0 m pc ls (.int v :: mV ad (some i) :: rest)) := mr_put C hM ho rfl inlX0 tyX0 tyX0_ok nmX0 rfl 5 (by decide) (mw_7 _ (List.mem_of_getElem? (i := 20) rfl)) rfl rfl rfl rfl (sI σ i 5 v) rfl (fun a b h => mI_off a b h) (fun _ _ _ => rfl) (by show Value.int (mI (sI σ i 5 v) i 5) = _; rw [mI_sI, if_pos ⟨rfl, rfl⟩]) hdg kk
theorem fp_X2_148 (C : mX p s m c cc nL args RX2 G) (hM : mM G kd ad s σ H locs) (ho : mO kd 0 i σ) (hdg : decode cc pc = .ok (.putfield 148, 3)) (v : Option Nat) (kk : ∀ (H1 : Heap) (locs1 : List Loc), mM G kd ad s (sR σ i 8 v) H1 locs1 → W p l e R s m args below meth c H1 locs1 cells slots Q (F0 m (pc + 3) ls rest)) : W p l e R s m args below meth c H locs cells slots Q (F0 m pc ls (mV ad v :: mV ad (some i) :: rest)) := mr_put C hM ho rfl inlX0 tyX0 tyX0_ok nmX0 rfl 8 (by decide) (mw_7 _ (List.mem_of_getElem? (i := 14) rfl)) rfl rfl (by cases v <;> rfl) (by cases v <;> rfl) (sR σ i 8 v) rfl (fun _ _ _ => rfl) (fun a b h => mR_off a b h) (by show mV ad (mR (sR σ i 8 v) i 8) = _; rw [mR_sR, if_pos ⟨rfl, rfl⟩]) hdg kk
theorem fp_X2_128 (C : mX p s m c cc nL args RX2 G) (hM : mM G kd ad s σ H locs) (ho : mO kd 2 i σ) (hdg : decode cc pc = .ok (.putfield 128, 3)) (v : Int32) (kk : ∀ (H1 : Heap) (locs1 : List Loc), mM G kd ad s (sI σ i 2 v) H1 locs1 → W p l e R s m args below meth c H1 locs1 cells slots Q (F0 m (pc + 3) ls rest)) : W p l e R s m args below meth c H locs cells slots Q (F0 m pc ls (.int v :: mV ad (some i) :: rest)) := mr_put C hM ho rfl inlX2 tyX2 tyX2_ok nmX2 rfl 2 (by decide) (mw_7 _ (List.mem_of_getElem? (i := 4) rfl)) rfl rfl rfl rfl (sI σ i 2 v) rfl (fun a b h => mI_off a b h) (fun _ _ _ => rfl) (by show Value.int (mI (sI σ i 2 v) i 2) = _; rw [mI_sI, if_pos ⟨rfl, rfl⟩]) hdg kk
theorem fp_X2_76 (C : mX p s m c cc nL args RX2 G) (hM : mM G kd ad s σ H locs) (ho : mO kd 2 i σ) (hdg : decode cc pc = .ok (.putfield 76, 3)) (v : Int32) (kk : ∀ (H1 : Heap) (locs1 : List Loc), mM G kd ad s (sI σ i 3 v) H1 locs1 → W p l e R s m args below meth c H1 locs1 cells slots Q (F0 m (pc + 3) ls rest)) : W p l e R s m args below meth c H locs cells slots Q (F0 m pc ls (.int v :: mV ad (some i) :: rest)) := mr_put C hM ho rfl inlX2 tyX2 tyX2_ok nmX2 rfl 3 (by decide) (mw_6 _ (List.mem_of_getElem? (i := 22) rfl)) rfl rfl rfl rfl (sI σ i 3 v) rfl (fun a b h => mI_off a b h) (fun _ _ _ => rfl) (by show Value.int (mI (sI σ i 3 v) i 3) = _; rw [mI_sI, if_pos ⟨rfl, rfl⟩]) hdg kk
end FG
theorem cw_X2_205 : mCw RX2 205 RX0 yX0_become cX0_become 3 none := ⟨(mw_8 _ (List.mem_of_getElem? (i := 22) rfl)), (mw_8 _ (List.mem_of_getElem? (i := 23) rfl)), (mw_9 _ (List.mem_of_getElem? (i := 0) rfl)), (mw_7 _ (List.mem_of_getElem? (i := 10) rfl)), (mw_9 _ (List.mem_of_getElem? (i := 1) rfl))⟩
theorem cw_X2_218 : mCw RX2 218 RX0 yX0_noteTryOver cX0_noteTryOver 2 none := ⟨(mw_9 _ (List.mem_of_getElem? (i := 8) rfl)), (mw_9 _ (List.mem_of_getElem? (i := 9) rfl)), (mw_9 _ (List.mem_of_getElem? (i := 10) rfl)), (mw_7 _ (List.mem_of_getElem? (i := 10) rfl)), (mw_9 _ (List.mem_of_getElem? (i := 11) rfl))⟩
theorem cw_X2_215 : mCw RX2 215 RX1 yX1_noteDone cX1_noteDone 1 none := ⟨(mw_9 _ (List.mem_of_getElem? (i := 3) rfl)), (mw_9 _ (List.mem_of_getElem? (i := 4) rfl)), (mw_9 _ (List.mem_of_getElem? (i := 5) rfl)), (mw_1 _ (List.mem_of_getElem? (i := 18) rfl)), (mw_9 _ (List.mem_of_getElem? (i := 6) rfl))⟩
theorem cw_X2_211 : mCw RX2 211 RX2 yX2_close cX2_close 3 none := ⟨(mw_8 _ (List.mem_of_getElem? (i := 16) rfl)), (mw_8 _ (List.mem_of_getElem? (i := 17) rfl)), (mw_8 _ (List.mem_of_getElem? (i := 18) rfl)), (mw_1 _ (List.mem_of_getElem? (i := 2) rfl)), (mw_8 _ (List.mem_of_getElem? (i := 19) rfl))⟩
theorem cw_X2_94 : mCw RX2 94 RX0 yX0_isOver cX0_isOver 1 (some .boolean) := ⟨(mw_9 _ (List.mem_of_getElem? (i := 14) rfl)), (mw_9 _ (List.mem_of_getElem? (i := 15) rfl)), (mw_9 _ (List.mem_of_getElem? (i := 16) rfl)), (mw_7 _ (List.mem_of_getElem? (i := 10) rfl)), (mw_9 _ (List.mem_of_getElem? (i := 17) rfl))⟩
theorem cw_X1_38 : mCw RX1 38 RX1 yX1_countOf cX1_countOf 2 (some .int) := ⟨(mw_10 _ (List.mem_of_getElem? (i := 3) rfl)), (mw_10 _ (List.mem_of_getElem? (i := 4) rfl)), (mw_10 _ (List.mem_of_getElem? (i := 5) rfl)), (mw_1 _ (List.mem_of_getElem? (i := 18) rfl)), (mw_10 _ (List.mem_of_getElem? (i := 6) rfl))⟩
theorem cw_X2_174 : mCw RX2 174 RX1 yX1_refusesAt cX1_refusesAt 2 (some .boolean) := ⟨(mw_8 _ (List.mem_of_getElem? (i := 6) rfl)), (mw_8 _ (List.mem_of_getElem? (i := 7) rfl)), (mw_8 _ (List.mem_of_getElem? (i := 8) rfl)), (mw_1 _ (List.mem_of_getElem? (i := 18) rfl)), (mw_8 _ (List.mem_of_getElem? (i := 9) rfl))⟩
theorem cw_X2_193 : mCw RX2 193 RX0 yX0_canBeDone cX0_canBeDone 2 (some .boolean) := ⟨(mw_9 _ (List.mem_of_getElem? (i := 18) rfl)), (mw_9 _ (List.mem_of_getElem? (i := 19) rfl)), (mw_9 _ (List.mem_of_getElem? (i := 20) rfl)), (mw_7 _ (List.mem_of_getElem? (i := 10) rfl)), (mw_9 _ (List.mem_of_getElem? (i := 21) rfl))⟩
theorem cw_X2_196 : mCw RX2 196 RX1 yX1_hasFreeWorker cX1_hasFreeWorker 1 (some .boolean) := ⟨(mw_9 _ (List.mem_of_getElem? (i := 23) rfl)), (mw_10 _ (List.mem_of_getElem? (i := 0) rfl)), (mw_10 _ (List.mem_of_getElem? (i := 1) rfl)), (mw_1 _ (List.mem_of_getElem? (i := 18) rfl)), (mw_10 _ (List.mem_of_getElem? (i := 2) rfl))⟩
theorem cw_X2_202 : mCw RX2 202 RX1 yX1_hasRoom cX1_hasRoom 1 (some .boolean) := ⟨(mw_10 _ (List.mem_of_getElem? (i := 12) rfl)), (mw_10 _ (List.mem_of_getElem? (i := 13) rfl)), (mw_10 _ (List.mem_of_getElem? (i := 14) rfl)), (mw_1 _ (List.mem_of_getElem? (i := 18) rfl)), (mw_10 _ (List.mem_of_getElem? (i := 15) rfl))⟩
theorem cw_X2_103 : mCw RX2 103 RX2 yX2_finish cX2_finish 5 (some .int) := ⟨(mw_8 _ (List.mem_of_getElem? (i := 11) rfl)), (mw_8 _ (List.mem_of_getElem? (i := 12) rfl)), (mw_8 _ (List.mem_of_getElem? (i := 13) rfl)), (mw_1 _ (List.mem_of_getElem? (i := 2) rfl)), (mw_8 _ (List.mem_of_getElem? (i := 14) rfl))⟩
theorem cw_X2_199 : mCw RX2 199 RX2 yX2_startWork cX2_startWork 2 none := ⟨(mw_10 _ (List.mem_of_getElem? (i := 7) rfl)), (mw_10 _ (List.mem_of_getElem? (i := 8) rfl)), (mw_10 _ (List.mem_of_getElem? (i := 9) rfl)), (mw_1 _ (List.mem_of_getElem? (i := 2) rfl)), (mw_10 _ (List.mem_of_getElem? (i := 10) rfl))⟩
theorem cw_X2_221 : mCw RX2 221 RX1 yX1_noteTrouble cX1_noteTrouble 2 none := ⟨(mw_13 _ (List.mem_of_getElem? (i := 9) rfl)), (mw_13 _ (List.mem_of_getElem? (i := 10) rfl)), (mw_13 _ (List.mem_of_getElem? (i := 11) rfl)), (mw_1 _ (List.mem_of_getElem? (i := 18) rfl)), (mw_13 _ (List.mem_of_getElem? (i := 12) rfl))⟩
theorem cw_X0_48 : mCw RX0 48 RX0 yX0_become cX0_become 3 none := ⟨(mw_14 _ (List.mem_of_getElem? (i := 20) rfl)), (mw_8 _ (List.mem_of_getElem? (i := 23) rfl)), (mw_9 _ (List.mem_of_getElem? (i := 0) rfl)), (mw_7 _ (List.mem_of_getElem? (i := 10) rfl)), (mw_9 _ (List.mem_of_getElem? (i := 1) rfl))⟩
theorem cw_X2_231 : mCw RX2 231 RX0 yX0_rowAt cX0_rowAt 3 (some (.object "DeadlineCalls$Service")) := ⟨(mw_14 _ (List.mem_of_getElem? (i := 5) rfl)), (mw_14 _ (List.mem_of_getElem? (i := 6) rfl)), (mw_14 _ (List.mem_of_getElem? (i := 7) rfl)), (mw_7 _ (List.mem_of_getElem? (i := 10) rfl)), (mw_14 _ (List.mem_of_getElem? (i := 8) rfl))⟩
theorem cw_X2_234 : mCw RX2 234 RX0 yX0_askNow cX0_askNow 3 none := ⟨(mw_14 _ (List.mem_of_getElem? (i := 11) rfl)), (mw_14 _ (List.mem_of_getElem? (i := 12) rfl)), (mw_14 _ (List.mem_of_getElem? (i := 13) rfl)), (mw_7 _ (List.mem_of_getElem? (i := 10) rfl)), (mw_14 _ (List.mem_of_getElem? (i := 14) rfl))⟩
theorem cw_X2_224 : mCw RX2 224 RX1 yX1_failsNextWork cX1_failsNextWork 1 (some .boolean) := ⟨(mw_13 _ (List.mem_of_getElem? (i := 19) rfl)), (mw_13 _ (List.mem_of_getElem? (i := 20) rfl)), (mw_13 _ (List.mem_of_getElem? (i := 21) rfl)), (mw_1 _ (List.mem_of_getElem? (i := 18) rfl)), (mw_13 _ (List.mem_of_getElem? (i := 22) rfl))⟩
theorem cw_X2_228 : mCw RX2 228 RX2 yX2_askAt cX2_askAt 4 none := ⟨(mw_14 _ (List.mem_of_getElem? (i := 1) rfl)), (mw_14 _ (List.mem_of_getElem? (i := 2) rfl)), (mw_14 _ (List.mem_of_getElem? (i := 3) rfl)), (mw_1 _ (List.mem_of_getElem? (i := 2) rfl)), (mw_14 _ (List.mem_of_getElem? (i := 4) rfl))⟩
theorem cw_X2_273 : mCw RX2 273 RX1 yX1_payForTry cX1_payForTry 1 (some .boolean) := ⟨(mw_15 _ (List.mem_of_getElem? (i := 21) rfl)), (mw_15 _ (List.mem_of_getElem? (i := 22) rfl)), (mw_15 _ (List.mem_of_getElem? (i := 23) rfl)), (mw_1 _ (List.mem_of_getElem? (i := 18) rfl)), (mw_16 _ (List.mem_of_getElem? (i := 0) rfl))⟩
theorem cw_X2_267 : mCw RX2 267 RX1 yX1_isTooLong cX1_isTooLong 2 (some .boolean) := ⟨(mw_16 _ (List.mem_of_getElem? (i := 1) rfl)), (mw_16 _ (List.mem_of_getElem? (i := 2) rfl)), (mw_16 _ (List.mem_of_getElem? (i := 3) rfl)), (mw_1 _ (List.mem_of_getElem? (i := 18) rfl)), (mw_16 _ (List.mem_of_getElem? (i := 4) rfl))⟩
theorem cw_X2_258 : mCw RX2 258 RX2 yX2_tryAgain cX2_tryAgain 3 none := ⟨(mw_15 _ (List.mem_of_getElem? (i := 16) rfl)), (mw_15 _ (List.mem_of_getElem? (i := 17) rfl)), (mw_15 _ (List.mem_of_getElem? (i := 18) rfl)), (mw_1 _ (List.mem_of_getElem? (i := 2) rfl)), (mw_15 _ (List.mem_of_getElem? (i := 19) rfl))⟩
theorem cw_X2_252 : mCw RX2 252 RX2 yX2_cancelTries cX2_cancelTries 3 none := ⟨(mw_15 _ (List.mem_of_getElem? (i := 12) rfl)), (mw_15 _ (List.mem_of_getElem? (i := 13) rfl)), (mw_15 _ (List.mem_of_getElem? (i := 14) rfl)), (mw_1 _ (List.mem_of_getElem? (i := 2) rfl)), (mw_15 _ (List.mem_of_getElem? (i := 15) rfl))⟩
theorem cw_X2_245 : mCw RX2 245 RX2 yX2_judge cX2_judge 3 none := ⟨(mw_15 _ (List.mem_of_getElem? (i := 3) rfl)), (mw_15 _ (List.mem_of_getElem? (i := 4) rfl)), (mw_15 _ (List.mem_of_getElem? (i := 5) rfl)), (mw_1 _ (List.mem_of_getElem? (i := 2) rfl)), (mw_15 _ (List.mem_of_getElem? (i := 6) rfl))⟩
theorem cw_X2_158 : mCw RX2 158 RX0 yX0_isOf cX0_isOf 3 (some .boolean) := ⟨(mw_17 _ (List.mem_of_getElem? (i := 4) rfl)), (mw_17 _ (List.mem_of_getElem? (i := 5) rfl)), (mw_17 _ (List.mem_of_getElem? (i := 6) rfl)), (mw_7 _ (List.mem_of_getElem? (i := 10) rfl)), (mw_17 _ (List.mem_of_getElem? (i := 7) rfl))⟩
theorem cw_X2_167 : mCw RX2 167 RX1 yX1_countOf cX1_countOf 2 (some .int) := ⟨(mw_16 _ (List.mem_of_getElem? (i := 23) rfl)), (mw_10 _ (List.mem_of_getElem? (i := 4) rfl)), (mw_10 _ (List.mem_of_getElem? (i := 5) rfl)), (mw_1 _ (List.mem_of_getElem? (i := 18) rfl)), (mw_10 _ (List.mem_of_getElem? (i := 6) rfl))⟩
theorem cw_X2_282 : mCw RX2 282 RX2 yX2_startQueuedOf cX2_startQueuedOf 3 none := ⟨(mw_17 _ (List.mem_of_getElem? (i := 0) rfl)), (mw_17 _ (List.mem_of_getElem? (i := 1) rfl)), (mw_17 _ (List.mem_of_getElem? (i := 2) rfl)), (mw_1 _ (List.mem_of_getElem? (i := 2) rfl)), (mw_17 _ (List.mem_of_getElem? (i := 3) rfl))⟩
theorem cw_X3_90 : mCs RX3 90 yX3_in cX3_in 3 (some .boolean) := ⟨(mw_4 _ (List.mem_of_getElem? (i := 22) rfl)), (mw_4 _ (List.mem_of_getElem? (i := 23) rfl)), (mw_1 _ (List.mem_of_getElem? (i := 5) rfl)), (mw_5 _ (List.mem_of_getElem? (i := 0) rfl))⟩
theorem cw_X3_97 : mCs RX3 97 yX3_isService cX3_isService 1 (some .boolean) := ⟨(mw_4 _ (List.mem_of_getElem? (i := 19) rfl)), (mw_4 _ (List.mem_of_getElem? (i := 20) rfl)), (mw_1 _ (List.mem_of_getElem? (i := 5) rfl)), (mw_4 _ (List.mem_of_getElem? (i := 21) rfl))⟩
theorem cw_X3_104 : mCw RX3 104 RX3 yX3_isOver cX3_isOver 2 (some .boolean) := ⟨(mw_11 _ (List.mem_of_getElem? (i := 14) rfl)), (mw_11 _ (List.mem_of_getElem? (i := 15) rfl)), (mw_11 _ (List.mem_of_getElem? (i := 16) rfl)), (mw_1 _ (List.mem_of_getElem? (i := 5) rfl)), (mw_11 _ (List.mem_of_getElem? (i := 17) rfl))⟩
theorem cw_X3_107 : mCw RX3 107 RX3 yX3_manyOf cX3_manyOf 5 (some .int) := ⟨(mw_11 _ (List.mem_of_getElem? (i := 2) rfl)), (mw_11 _ (List.mem_of_getElem? (i := 3) rfl)), (mw_11 _ (List.mem_of_getElem? (i := 4) rfl)), (mw_1 _ (List.mem_of_getElem? (i := 5) rfl)), (mw_11 _ (List.mem_of_getElem? (i := 5) rfl))⟩
theorem cw_X3_111 : mCw RX3 111 RX3 yX3_isOpenNow cX3_isOpenNow 2 (some .boolean) := ⟨(mw_11 _ (List.mem_of_getElem? (i := 6) rfl)), (mw_11 _ (List.mem_of_getElem? (i := 7) rfl)), (mw_11 _ (List.mem_of_getElem? (i := 8) rfl)), (mw_1 _ (List.mem_of_getElem? (i := 5) rfl)), (mw_11 _ (List.mem_of_getElem? (i := 9) rfl))⟩
theorem cw_X3_114 : mCw RX3 114 RX3 yX3_ends cX3_ends 5 (some .int) := ⟨(mw_11 _ (List.mem_of_getElem? (i := 10) rfl)), (mw_11 _ (List.mem_of_getElem? (i := 11) rfl)), (mw_11 _ (List.mem_of_getElem? (i := 12) rfl)), (mw_1 _ (List.mem_of_getElem? (i := 5) rfl)), (mw_11 _ (List.mem_of_getElem? (i := 13) rfl))⟩
theorem cw_X3_117 : mCw RX3 117 RX3 yX3_works cX3_works 2 none := ⟨(mw_11 _ (List.mem_of_getElem? (i := 18) rfl)), (mw_11 _ (List.mem_of_getElem? (i := 19) rfl)), (mw_11 _ (List.mem_of_getElem? (i := 20) rfl)), (mw_1 _ (List.mem_of_getElem? (i := 5) rfl)), (mw_11 _ (List.mem_of_getElem? (i := 21) rfl))⟩
theorem cw_X3_121 : mCw RX3 121 RX3 yX3_begins cX3_begins 7 none := ⟨(mw_10 _ (List.mem_of_getElem? (i := 22) rfl)), (mw_10 _ (List.mem_of_getElem? (i := 23) rfl)), (mw_11 _ (List.mem_of_getElem? (i := 0) rfl)), (mw_1 _ (List.mem_of_getElem? (i := 5) rfl)), (mw_11 _ (List.mem_of_getElem? (i := 1) rfl))⟩
theorem cw_X3_125 : mCw RX3 125 RX3 yX3_isCall cX3_isCall 2 (some .boolean) := ⟨(mw_12 _ (List.mem_of_getElem? (i := 13) rfl)), (mw_12 _ (List.mem_of_getElem? (i := 14) rfl)), (mw_12 _ (List.mem_of_getElem? (i := 15) rfl)), (mw_1 _ (List.mem_of_getElem? (i := 5) rfl)), (mw_12 _ (List.mem_of_getElem? (i := 16) rfl))⟩
theorem cw_X3_128 : mCw RX3 128 RX3 yX3_counts cX3_counts 2 none := ⟨(mw_18 _ (List.mem_of_getElem? (i := 0) rfl)), (mw_18 _ (List.mem_of_getElem? (i := 1) rfl)), (mw_18 _ (List.mem_of_getElem? (i := 2) rfl)), (mw_1 _ (List.mem_of_getElem? (i := 5) rfl)), (mw_18 _ (List.mem_of_getElem? (i := 3) rfl))⟩
theorem cw_X3_131 : mCw RX3 131 RX3 yX3_startsAsking cX3_startsAsking 4 none := ⟨(mw_18 _ (List.mem_of_getElem? (i := 8) rfl)), (mw_18 _ (List.mem_of_getElem? (i := 9) rfl)), (mw_18 _ (List.mem_of_getElem? (i := 10) rfl)), (mw_1 _ (List.mem_of_getElem? (i := 5) rfl)), (mw_18 _ (List.mem_of_getElem? (i := 11) rfl))⟩
theorem cw_X3_134 : mCw RX3 134 RX3 yX3_isTry cX3_isTry 3 (some .boolean) := ⟨(mw_18 _ (List.mem_of_getElem? (i := 16) rfl)), (mw_18 _ (List.mem_of_getElem? (i := 17) rfl)), (mw_18 _ (List.mem_of_getElem? (i := 18) rfl)), (mw_1 _ (List.mem_of_getElem? (i := 5) rfl)), (mw_18 _ (List.mem_of_getElem? (i := 19) rfl))⟩
theorem cw_X3_138 : mCw RX3 138 RX3 yX3_goesOn cX3_goesOn 3 none := ⟨(mw_18 _ (List.mem_of_getElem? (i := 20) rfl)), (mw_18 _ (List.mem_of_getElem? (i := 21) rfl)), (mw_18 _ (List.mem_of_getElem? (i := 22) rfl)), (mw_1 _ (List.mem_of_getElem? (i := 5) rfl)), (mw_18 _ (List.mem_of_getElem? (i := 23) rfl))⟩
theorem cw_X3_141 : mCw RX3 141 RX3 yX3_firstQueued cX3_firstQueued 4 (some .int) := ⟨(mw_19 _ (List.mem_of_getElem? (i := 8) rfl)), (mw_19 _ (List.mem_of_getElem? (i := 9) rfl)), (mw_19 _ (List.mem_of_getElem? (i := 10) rfl)), (mw_1 _ (List.mem_of_getElem? (i := 5) rfl)), (mw_19 _ (List.mem_of_getElem? (i := 11) rfl))⟩
theorem cw_X3_145 : mCw RX3 145 RX3 yX3_late cX3_late 2 none := ⟨(mw_17 _ (List.mem_of_getElem? (i := 20) rfl)), (mw_17 _ (List.mem_of_getElem? (i := 21) rfl)), (mw_17 _ (List.mem_of_getElem? (i := 22) rfl)), (mw_1 _ (List.mem_of_getElem? (i := 5) rfl)), (mw_17 _ (List.mem_of_getElem? (i := 23) rfl))⟩
theorem cw_X3_148 : mCw RX3 148 RX3 yX3_worksOut cX3_worksOut 3 none := ⟨(mw_18 _ (List.mem_of_getElem? (i := 4) rfl)), (mw_18 _ (List.mem_of_getElem? (i := 5) rfl)), (mw_18 _ (List.mem_of_getElem? (i := 6) rfl)), (mw_1 _ (List.mem_of_getElem? (i := 5) rfl)), (mw_18 _ (List.mem_of_getElem? (i := 7) rfl))⟩
theorem cw_X3_154 : mCw RX3 154 RX3 yX3_makesTries cX3_makesTries 3 none := ⟨(mw_19 _ (List.mem_of_getElem? (i := 0) rfl)), (mw_19 _ (List.mem_of_getElem? (i := 1) rfl)), (mw_19 _ (List.mem_of_getElem? (i := 2) rfl)), (mw_1 _ (List.mem_of_getElem? (i := 5) rfl)), (mw_19 _ (List.mem_of_getElem? (i := 3) rfl))⟩
theorem cw_X3_157 : mCw RX3 157 RX3 yX3_takesQueued cX3_takesQueued 3 none := ⟨(mw_19 _ (List.mem_of_getElem? (i := 4) rfl)), (mw_19 _ (List.mem_of_getElem? (i := 5) rfl)), (mw_19 _ (List.mem_of_getElem? (i := 6) rfl)), (mw_1 _ (List.mem_of_getElem? (i := 5) rfl)), (mw_19 _ (List.mem_of_getElem? (i := 7) rfl))⟩
theorem cw_X3_151 : mCw RX3 151 RX3 yX3_looks cX3_looks 7 none := ⟨(mw_18 _ (List.mem_of_getElem? (i := 12) rfl)), (mw_18 _ (List.mem_of_getElem? (i := 13) rfl)), (mw_18 _ (List.mem_of_getElem? (i := 14) rfl)), (mw_1 _ (List.mem_of_getElem? (i := 5) rfl)), (mw_18 _ (List.mem_of_getElem? (i := 15) rfl))⟩
theorem cw_X3_160 : mCw RX3 160 RX3 yX3_rootsOver cX3_rootsOver 3 (some .int) := ⟨(mw_17 _ (List.mem_of_getElem? (i := 12) rfl)), (mw_17 _ (List.mem_of_getElem? (i := 13) rfl)), (mw_17 _ (List.mem_of_getElem? (i := 14) rfl)), (mw_1 _ (List.mem_of_getElem? (i := 5) rfl)), (mw_17 _ (List.mem_of_getElem? (i := 15) rfl))⟩
theorem cw_X3_164 : mCw RX3 164 RX3 yX3_ticks cX3_ticks 2 none := ⟨(mw_17 _ (List.mem_of_getElem? (i := 16) rfl)), (mw_17 _ (List.mem_of_getElem? (i := 17) rfl)), (mw_17 _ (List.mem_of_getElem? (i := 18) rfl)), (mw_1 _ (List.mem_of_getElem? (i := 5) rfl)), (mw_17 _ (List.mem_of_getElem? (i := 19) rfl))⟩
theorem cw_X3_167 : mCw RX3 167 RX3 yX3_asksCall cX3_asksCall 2 (some .boolean) := ⟨(mw_20 _ (List.mem_of_getElem? (i := 15) rfl)), (mw_20 _ (List.mem_of_getElem? (i := 16) rfl)), (mw_20 _ (List.mem_of_getElem? (i := 17) rfl)), (mw_1 _ (List.mem_of_getElem? (i := 5) rfl)), (mw_20 _ (List.mem_of_getElem? (i := 18) rfl))⟩
theorem cw_X3_170 : mCw RX3 170 RX3 yX3_isBelow cX3_isBelow 4 (some .boolean) := ⟨(mw_23 _ (List.mem_of_getElem? (i := 7) rfl)), (mw_23 _ (List.mem_of_getElem? (i := 8) rfl)), (mw_23 _ (List.mem_of_getElem? (i := 9) rfl)), (mw_1 _ (List.mem_of_getElem? (i := 5) rfl)), (mw_23 _ (List.mem_of_getElem? (i := 10) rfl))⟩
theorem cw_X2_24 : mCw RX2 24 RX2 yX2_serviceAt cX2_serviceAt 3 (some (.object "DeadlineCalls$Service")) := ⟨(mw_4 _ (List.mem_of_getElem? (i := 3) rfl)), (mw_4 _ (List.mem_of_getElem? (i := 4) rfl)), (mw_4 _ (List.mem_of_getElem? (i := 5) rfl)), (mw_1 _ (List.mem_of_getElem? (i := 2) rfl)), (mw_4 _ (List.mem_of_getElem? (i := 6) rfl))⟩
theorem cw_X2_28 : mCs RX2 28 yX2_checkRange cX2_checkRange 3 none := ⟨(mw_4 _ (List.mem_of_getElem? (i := 9) rfl)), (mw_4 _ (List.mem_of_getElem? (i := 10) rfl)), (mw_1 _ (List.mem_of_getElem? (i := 2) rfl)), (mw_4 _ (List.mem_of_getElem? (i := 11) rfl))⟩
theorem cw_X2_49 : mCw RX2 49 RX1 yX1_addToRow cX1_addToRow 2 (some .boolean) := ⟨(mw_5 _ (List.mem_of_getElem? (i := 16) rfl)), (mw_5 _ (List.mem_of_getElem? (i := 17) rfl)), (mw_5 _ (List.mem_of_getElem? (i := 18) rfl)), (mw_1 _ (List.mem_of_getElem? (i := 18) rfl)), (mw_5 _ (List.mem_of_getElem? (i := 19) rfl))⟩
theorem cw_X2_70 : mCw RX2 70 RX2 yX2_isFull cX2_isFull 1 (some .boolean) := ⟨(mw_7 _ (List.mem_of_getElem? (i := 0) rfl)), (mw_7 _ (List.mem_of_getElem? (i := 1) rfl)), (mw_7 _ (List.mem_of_getElem? (i := 2) rfl)), (mw_1 _ (List.mem_of_getElem? (i := 2) rfl)), (mw_7 _ (List.mem_of_getElem? (i := 3) rfl))⟩
theorem cw_X2_79 : mCw RX2 79 RX2 yX2_makeCall cX2_makeCall 5 (some (.object "DeadlineCalls$Call")) := ⟨(mw_7 _ (List.mem_of_getElem? (i := 5) rfl)), (mw_7 _ (List.mem_of_getElem? (i := 6) rfl)), (mw_7 _ (List.mem_of_getElem? (i := 7) rfl)), (mw_1 _ (List.mem_of_getElem? (i := 2) rfl)), (mw_7 _ (List.mem_of_getElem? (i := 8) rfl))⟩
theorem cw_X2_83 : mCw RX2 83 RX2 yX2_begin cX2_begin 3 none := ⟨(mw_8 _ (List.mem_of_getElem? (i := 1) rfl)), (mw_8 _ (List.mem_of_getElem? (i := 2) rfl)), (mw_8 _ (List.mem_of_getElem? (i := 3) rfl)), (mw_1 _ (List.mem_of_getElem? (i := 2) rfl)), (mw_8 _ (List.mem_of_getElem? (i := 4) rfl))⟩
theorem cw_X2_90 : mCw RX2 90 RX2 yX2_callAt cX2_callAt 3 (some (.object "DeadlineCalls$Call")) := ⟨(mw_12 _ (List.mem_of_getElem? (i := 5) rfl)), (mw_12 _ (List.mem_of_getElem? (i := 6) rfl)), (mw_12 _ (List.mem_of_getElem? (i := 7) rfl)), (mw_1 _ (List.mem_of_getElem? (i := 2) rfl)), (mw_12 _ (List.mem_of_getElem? (i := 8) rfl))⟩
theorem cw_X2_279 : mCw RX2 279 RX0 yX0_noteTry cX0_noteTry 2 none := ⟨(mw_16 _ (List.mem_of_getElem? (i := 14) rfl)), (mw_16 _ (List.mem_of_getElem? (i := 15) rfl)), (mw_16 _ (List.mem_of_getElem? (i := 16) rfl)), (mw_7 _ (List.mem_of_getElem? (i := 10) rfl)), (mw_16 _ (List.mem_of_getElem? (i := 17) rfl))⟩
theorem cw_X2_276 : mCw RX2 276 RX2 yX2_makeTry cX2_makeTry 3 none := ⟨(mw_16 _ (List.mem_of_getElem? (i := 10) rfl)), (mw_16 _ (List.mem_of_getElem? (i := 11) rfl)), (mw_16 _ (List.mem_of_getElem? (i := 12) rfl)), (mw_1 _ (List.mem_of_getElem? (i := 2) rfl)), (mw_16 _ (List.mem_of_getElem? (i := 13) rfl))⟩
theorem cw_X2_110 : mCw RX2 110 RX2 yX2_cutOffHead cX2_cutOffHead 2 none := ⟨(mw_13 _ (List.mem_of_getElem? (i := 0) rfl)), (mw_13 _ (List.mem_of_getElem? (i := 1) rfl)), (mw_13 _ (List.mem_of_getElem? (i := 2) rfl)), (mw_1 _ (List.mem_of_getElem? (i := 2) rfl)), (mw_13 _ (List.mem_of_getElem? (i := 3) rfl))⟩
theorem cw_X2_113 : mCw RX2 113 RX2 yX2_endLate cX2_endLate 2 none := ⟨(mw_13 _ (List.mem_of_getElem? (i := 4) rfl)), (mw_13 _ (List.mem_of_getElem? (i := 5) rfl)), (mw_13 _ (List.mem_of_getElem? (i := 6) rfl)), (mw_1 _ (List.mem_of_getElem? (i := 2) rfl)), (mw_13 _ (List.mem_of_getElem? (i := 7) rfl))⟩
theorem cw_X2_116 : mCw RX2 116 RX2 yX2_endWork cX2_endWork 2 none := ⟨(mw_13 _ (List.mem_of_getElem? (i := 13) rfl)), (mw_13 _ (List.mem_of_getElem? (i := 14) rfl)), (mw_13 _ (List.mem_of_getElem? (i := 15) rfl)), (mw_1 _ (List.mem_of_getElem? (i := 2) rfl)), (mw_13 _ (List.mem_of_getElem? (i := 16) rfl))⟩
theorem cw_X2_119 : mCw RX2 119 RX2 yX2_judgeAsking cX2_judgeAsking 3 none := ⟨(mw_14 _ (List.mem_of_getElem? (i := 21) rfl)), (mw_14 _ (List.mem_of_getElem? (i := 22) rfl)), (mw_14 _ (List.mem_of_getElem? (i := 23) rfl)), (mw_1 _ (List.mem_of_getElem? (i := 2) rfl)), (mw_15 _ (List.mem_of_getElem? (i := 0) rfl))⟩
theorem cw_X2_122 : mCw RX2 122 RX2 yX2_makeTries cX2_makeTries 3 none := ⟨(mw_16 _ (List.mem_of_getElem? (i := 6) rfl)), (mw_16 _ (List.mem_of_getElem? (i := 7) rfl)), (mw_16 _ (List.mem_of_getElem? (i := 8) rfl)), (mw_1 _ (List.mem_of_getElem? (i := 2) rfl)), (mw_16 _ (List.mem_of_getElem? (i := 9) rfl))⟩
theorem cw_X2_125 : mCw RX2 125 RX2 yX2_startQueued cX2_startQueued 3 none := ⟨(mw_16 _ (List.mem_of_getElem? (i := 19) rfl)), (mw_16 _ (List.mem_of_getElem? (i := 20) rfl)), (mw_16 _ (List.mem_of_getElem? (i := 21) rfl)), (mw_1 _ (List.mem_of_getElem? (i := 2) rfl)), (mw_16 _ (List.mem_of_getElem? (i := 22) rfl))⟩
theorem cw_X2_151 : mCw RX2 151 RX0 yX0_isBelow cX0_isBelow 3 (some .boolean) := ⟨(mw_22 _ (List.mem_of_getElem? (i := 23) rfl)), (mw_23 _ (List.mem_of_getElem? (i := 0) rfl)), (mw_23 _ (List.mem_of_getElem? (i := 1) rfl)), (mw_7 _ (List.mem_of_getElem? (i := 10) rfl)), (mw_23 _ (List.mem_of_getElem? (i := 2) rfl))⟩
end
section
/-! rows for methods that make cells or throw, over the store -/
section
variable {p : Program} {l : Launch} {e : Env} {R : Room} {s : State} {m : MethodId} {args : Array Value} {below : List Frame} {meth : Method} {c : Code} {H : Heap} {locs : List Loc} {cells slots : Nat} {Q : State → Prop}
variable {mc ms : Nat} {free : Addr → Prop} {A0 A1 : Nat → Prop} {H0 : Heap} {a : Array Value} {pc : Nat} {ls : Array Slot} {st0 rest : List Value}
theorem vx_callq {S SX : Type} {post : Option Nat → S → Prop} {px : SX → Prop} {B : S → State → Prop} {BX : String → SX → State → Prop} {AX : Nat → Prop} (hr : vx_Run p l e R s m args below meth c H locs cells slots mc ms (F0 m pc ls st0) rest (va_Qq post B A1 a) (vx_X px BX AX) free) (hS : va_S A0 H0 H locs) (hA : ∀ q, q < H.size → A1 q → A0 q) (hf : ∀ q, free q → A0 q) (hAX : ∀ q, q < H.size → AX q → A0 q)
    (kx : ∀ (E : String) (ce : Cell) (q9 : Addr) (u : SX) (t : State) (H1 : Heap) (locs1 : List Loc), t.heap = H1 → s.vm.Alike t.vm → px u → BX E u t → H.size ≤ H1.size → (∀ q : Nat, q < H.size → ¬ AX q → H1[q]? = H[q]?) → va_S A0 H0 H1 locs1 → H1[q9]? = some ce → ce.vm = .none → s.vm.findClass E = some ce.cls → vx_W p l e R s m args below meth c H1 locs1 (cells + mc) (slots + ms) Q (F0 m pc ls rest) q9)
    (kk : ∀ (r : Option Nat) (u : S) (t : State) (H1 : Heap) (locs1 : List Loc), t.heap = H1 → s.vm.Alike t.vm → post r u → B u t → H.size ≤ H1.size → (∀ q : Nat, q < H.size → ¬ A1 q → H1[q]? = H[q]?) → va_S A0 H0 H1 locs1 → W p l e R s m args below meth c H1 locs1 (cells + mc) (slots + ms) Q (F0 m (pc + 3) ls (va_rf r :: rest))) : W p l e R s m args below meth c H locs cells slots Q (F0 m pc ls st0) := by
  intro T hT X
  rcases hr T hT X with ⟨v, st₀, t, T', L, h0, X', hL, e1, e2, ⟨⟨r, u, hv, hp, hb⟩, hF⟩, st⟩ | ⟨q, st₀, t, T', L, E, ce, h0, X', hL, e1, e2, ⟨u, hp, hb, hF⟩, hce, hcv, hcl, st⟩
  · cases hv
    obtain ⟨k1, k2, k3⟩ := vx_keep h0 e1 hS hA hf hL hF
    obtain ⟨t2, a1, b1⟩ := kk r u t T'.heap (locs ++ L) e1.symm (by rw [← e2]; exact X'.warmed.alike) hp hb k1 k2 k3 T' rfl X'
    exact ⟨t2, st t2 a1, b1⟩
  · obtain ⟨k1, k2, k3⟩ := vx_keep h0 e1 hS hAX hf hL hF
    obtain ⟨t2, a1, b1⟩ := kx E ce q u t T'.heap (locs ++ L) e1.symm (by rw [← e2]; exact X'.warmed.alike) hp hb k1 k2 k3 (by rw [e1]; exact hce) hcv hcl T' rfl X'
    exact ⟨t2, st.trans a1, b1⟩
end

def mRb (fr lo b : Nat) : Room := { frames := fr, cells := b, slots := 18 * b, locals := lo }
def xIO : String := "java/lang/IndexOutOfBoundsException"
def xIA : String := "java/lang/IllegalArgumentException"
def xIS : String := "java/lang/IllegalStateException"
def xNm : List String := ["java/lang/RuntimeException", "java/lang/Exception"]
def mStr : List (Nat × String) := [(44, "a service asks services above it alone"), (55, "the service asks 3 already"), (74, "there are 200 calls"), (101, "the call is over, or no root"), (164, "so many are not queued"), (178, "no such service"), (180, "no such call"), (182, "an argument is out of range")]
def mNw : List Cond := [.castable xIO xIO, .castable xIA xIA, .castable xIS xIS, .declares (Bundle.initS "java/lang/RuntimeException"), .declares (Bundle.initS "java/lang/Exception"), .declares (Bundle.initS "java/lang/Throwable")]
theorem mNw_on : ∀ w ∈ mNw, w.onTables = true := by decide +kernel
theorem mNw_warm {s U : State} (hW : s.WarmedH U.vm) (h : ∀ w ∈ mNw, va_Nw w s) : ∀ w ∈ mNw, va_Nw w U := by
  intro w hw
  have h1 := h w hw
  simp only [mNw, List.mem_cons, List.not_mem_nil, or_false] at hw
  rcases hw with rfl | rfl | rfl | rfl | rfl | rfl
  · exact va_Nw.warmC hW h1
  · exact va_Nw.warmC hW h1
  · exact va_Nw.warmC hW h1
  · exact va_Nw.warmD hW h1
  · exact va_Nw.warmD hW h1
  · exact va_Nw.warmD hW h1
/-- what a throw needs of the start, in a world of its own -/
def mZ (ad : Nat → Nat) (U : State) (H : Heap) : Prop := vx_Zq Bundle.tN "UNASSIGNED_STACK" Bundle.steD (mA ad) U H ∧ vx_Zq Bundle.tN "SUPPRESSED_SENTINEL" Bundle.listD (mA ad) U H ∧ (∀ w ∈ mNw, va_Nw w U) ∧ ∀ q ∈ mStr, ∃ a, vk_R RX2 q.1 q.2 a U
def mPreZ (G : mG) (ad : Nat → Nat) (σ : mS) : State → Prop := fun U => mPre G kdC ad σ U ∧ mZ ad U U.heap
def mPw (G : mG) (ad : Nat → Nat) (σ : mS) (H : Heap) : Prop := (∀ i, i < mN σ → va_at G.1 vwCl (ad i, mE G kdC ad σ i) H) ∧ (∀ i j, ad i = ad j → i = j) ∧ ∀ i, kdC i ≠ (0, 0) → i < 26 → i < mN σ
def mXC (X : String → mS → Prop) (G : mG) (ad : Nat → Nat) : String → State → State → Prop := vx_X (fun _ : mS => True) (fun E u t => X E u ∧ mPw G ad u t.heap) (mA ad)
theorem mPw_of {G : mG} {ad : Nat → Nat} {σ : mS} {H H1 : Heap} (h : mP G kdC ad σ H) (hk : ∀ q : Nat, q < H.size → H1[q]? = H[q]?) : mPw G ad σ H1 := ⟨fun i hi => (h.1 i hi).kept (hk _ (h.1 i hi).lt), h.2.1, fun i h1 h2 => h.2.2.2 i h1 h2 (by decide)⟩
theorem mZ.at {ad : Nat → Nat} {s U : State} {H : Heap} {locs : List Loc} (Z : mZ ad s s.heap) (hS : va_S (mA ad) s.heap H locs) (hU : U.heap = H) (hW : s.WarmedH U.vm) : mZ ad U U.heap := by
  obtain ⟨h1, h2, h3, h4⟩ := Z
  rw [hU]
  exact ⟨(h1.kept hS.2.1).moved hW.alike, (h2.kept hS.2.1).moved hW.alike, mNw_warm hW h3, fun q hq => by
    obtain ⟨a, ha⟩ := h4 q hq
    exact ⟨a, ha.warm hW⟩⟩
theorem mPreZ.blind (G : mG) (ad : Nat → Nat) (σ : mS) (av : List Value) : FrameBlind (va_Pc av (mPreZ G ad σ)) := fun a U g mk q =>
  ⟨q.1, (mPre.blind G kdC ad σ av a U g mk ⟨q.1, q.2.1⟩).2, q.2.2.1.moved (u := U) (U := U.calling g mk a) (Vm.Alike.refl U.vm), q.2.2.2.1.moved (u := U) (U := U.calling g mk a) (Vm.Alike.refl U.vm), fun x hx => va_Nw.same (mNw_on x hx) (u := U) (U := U.calling g mk a) rfl (q.2.2.2.2.1 x hx), fun z hz => by
    obtain ⟨b, hb⟩ := q.2.2.2.2.2 z hz
    exact ⟨b, vk_R.same (u := U) (U := U.calling g mk a) rfl hb⟩⟩
section MT
variable {p : Program} {l : Launch} {e : Env} {R : Room} {s : State} {m : MethodId} {args : Array Value} {below : List Frame} {meth : Method} {c : Code} {H : Heap} {locs : List Loc} {cells slots : Nat} {Q : State → Prop}
variable {cc : ByteArray} {pc nL : Nat} {ls : Array Slot} {rest : List Value} {own : String} {G : mG} {kd : Nat → Nat × Nat} {ad : Nat → Nat} {σ : mS} {b u fr lo : Nat}
theorem mr_new (C : mX p s m c cc nL args own G) (hM : mM G kdC ad s σ H locs) {index : Nat} (hcl : Cond.classLink own index RX0 ∈ wsL_law) (hins : Cond.instantiable RX0 18 ∈ wsL_law) (hini : Cond.initialized RX0 ∈ wsL_law) (hu : u + 1 ≤ b) (hdg : decode cc pc = .ok (.new index, 3))
    (kk : ∀ H1 : Heap, mM G kdC ad s (sN σ) H1 locs → mO kdC 0 (mN σ) (sN σ) → W p l e (mRb fr lo b) s m args below meth c H1 locs (u + 1) (18 * (u + 1)) Q (F0 m (pc + 3) ls (mV ad (some (mN σ)) :: rest))) : W p l e (mRb fr lo b) s m args below meth c H locs u (18 * u) Q (F0 m pc ls rest) := by
  have hKn := C.2.1 0 _ rfl
  have hsz : ad (mN σ) = H.size := hM.1.2.2.1 0
  have h21 : 21 ≤ mN σ := hM.1.2.2.2 20 (by decide) (by decide) (by decide)
  have hkn : kdC (mN σ) = (0, 0) := by
    unfold kdC
    rw [if_neg (by omega), if_neg (by omega), if_neg (by omega), if_pos h21]
  have hts := C.1.2.2.2.2
  refine W.newcK C.1.1 C.1.2.1 C.1.2.2.2.1 (hts _ hcl) (hts _ hins) (hts _ hini) rfl hdg (show u + 1 ≤ b from hu) (show 18 * u + 18 ≤ 18 * b by omega) hKn.2.1 rfl fun H1 kC hkC e1 z1 o1 => ?_
  rw [← hsz] at e1 ⊢
  refine W.cs (cells' := u + 1) (slots' := 18 * (u + 1)) rfl (by omega) (kk H1 ⟨⟨fun i hi => ?_, hM.1.2.1, fun j => ?_, fun i hk hi h3 => Nat.lt_succ_of_lt (hM.1.2.2.2 i hk hi h3)⟩, ⟨Nat.le_trans hM.2.1 (by omega), fun q h1 h2 => (o1 q (Nat.lt_of_lt_of_le h1 hM.2.1)).trans (hM.2.2.1 q h1 h2), hM.2.2.2⟩⟩ ⟨hkn, Nat.lt_succ_self _⟩)
  · by_cases hin : i = mN σ
    · subst hin
      rw [mE_0 hkn]
      refine ⟨_, rfl, (u_born tyX0 hts inlX0 hKn hkC e1 tyX0_ok).to (fun j hj => ?_)⟩
      rw [mL_V (show j < mNf 0 from hj)]
      have h18 : j = 0 ∨ j = 1 ∨ j = 2 ∨ j = 3 ∨ j = 4 ∨ j = 5 ∨ j = 6 ∨ j = 7 ∨ j = 8 ∨ j = 9 ∨ j = 10 ∨ j = 11 ∨ j = 12 ∨ j = 13 ∨ j = 14 ∨ j = 15 ∨ j = 16 ∨ j = 17 := by
        have h9 : j < 18 := hj
        omega
      have hI : ∀ k, mI (sN σ) (mN σ) k = 0 := fun k => by rw [mI_sN, if_pos rfl]
      have hR : ∀ k, mR (sN σ) (mN σ) k = none := fun k => by rw [mR_sN, if_pos rfl]
      rcases h18 with rfl | rfl | rfl | rfl | rfl | rfl | rfl | rfl | rfl | rfl | rfl | rfl | rfl | rfl | rfl | rfl | rfl | rfl <;> first | (show Value.int 0 = Value.int (mI (sN σ) (mN σ) _); rw [hI]) | (show Value.null = mV ad (mR (sN σ) (mN σ) _); rw [hR]; rfl)
    · have hi' : i < mN σ := by have h9 : i < mN σ + 1 := hi; omega
      rw [mE_congr (σ := σ) (fun k => by rw [mI_sN, if_neg hin]) (fun k => by rw [mR_sN, if_neg hin])]
      exact (hM.1.1 i hi').kept (o1 _ (hM.1.1 i hi').lt)
  · have h9 := hM.1.2.2.1 (1 + j)
    show ad (mN σ + 1 + j) = H1.size + j
    rw [z1, Nat.add_assoc, h9]
    omega
theorem mr_putF (C : mX p s m c cc nL args own G) (hM : mM G kd ad s σ H locs) {ci i : Nat} (ho : mO kd ci i σ) {C0 : String} {T : u_T} {N : Nat} (hc : vwCl[ci]? = some (C0, T, N)) (hin : ∀ w ∈ u_ws C0 T N, w ∈ wsL_law) (ty0 : Nat → FieldType) (hty : ∀ k, k < N → parseFieldDescriptor (T k).2.2.1 = some (ty0 k)) (hnm : ∀ a, a < N → ∀ b, b < N → a ≠ b → (T a).2.1 ≠ (T b).2.1) (hNf : N = mNf ci)
    (k : Nat) (hk : k < N) {index : Nat} {ref : String} (hlink : Cond.fieldLink own index ref (T k).2.1 (T k).2.2.1 ∈ wsL_law) (href : (T k).1 = ref) (hfin : (T k).2.2.2 = true) (hin2 : meth.name = "<init>") (hdecl : (T k).1 = own) {v : Value} (hn : narrow (ty0 k) v = v) (hfit : fits (ty0 k) v = true) (σ' : mS) (hn' : mN σ' = mN σ)
    (h1 : ∀ a b, ¬ (a = i ∧ b = k) → mI σ' a b = mI σ a b) (h2 : ∀ a b, ¬ (a = i ∧ b = k) → mR σ' a b = mR σ a b) (hv : mF ad σ' i (mFk ci k) k = v) (hdg : decode cc pc = .ok (.putfield index, 3))
    (kk : ∀ (H1 : Heap) (locs1 : List Loc), mM G kd ad s σ' H1 locs1 → W p l e R s m args below meth c H1 locs1 cells slots Q (F0 m (pc + 3) ls rest)) : W p l e R s m args below meth c H locs cells slots Q (F0 m pc ls (v :: mV ad (some i) :: rest)) := by
  obtain ⟨⟨hx, hb, hml, hown, hts⟩, hK⟩ := C
  have h0 : va_at G.1 vwCl (ad i, .inr (ci, mL ad σ i ci)) H := by rw [← mE_0 (G := G) ho.1]; exact hM.1.1 i ho.2
  have hap := va_apart (own := own) hts hin ty0 hty hnm hK hc
  obtain ⟨r, hr1, cell, q1, q2, q3, q4⟩ := h0
  have hr : r = (C0, T, N) := Option.some.inj (hr1.symm.trans hc)
  subst hr
  obtain ⟨hS, hfc, kC, hkC, hkind⟩ := hK.1 ci _ hc
  obtain ⟨cf, kf, fi, f, hi, hsl⟩ := hS k hk
  have hlay := hts _ (hin _ (u_in_lay hk))
  unfold u_lay at hlay
  rw [if_pos hfin] at hlay
  have hst := (u_facts hfc hkC (u_lays hts hin hk) hi).1
  have hcf : m.cls = cf := by
    obtain ⟨_, _, c', _, _, _, -, -, hf', -, -, -, hown2, -⟩ := Cond.laysFinal_spec hlay
    have e1 : c' = cf := by have := hi.symm.trans hf'; simp at this; exact this.1.symm
    rw [hdecl] at hown2
    rw [← e1]; exact Option.some.inj (hown.symm.trans hown2)
  have h6 := u_fits hfc hkC hkind (Or.inr hlay) hi (hty k hk) hn hfit
  subst href
  refine W.putFinK hx hb hown (hts _ hlink) hi hst hcf hin2 (by rw [q2]; exact h6) q1 q3 (by rw [hsl]; exact k2_hasslot (q4 k hk)) rfl rfl hdg fun H' e1 e2 e3 => ?_
  rw [hsl] at e1 ⊢
  refine kk H' _ (mM_set hM hn' (fun a b hab => h1 a b (fun q => hab q.1)) (fun a b hab => h2 a b (fun q => hab q.1)) ?_ e2 e3)
  rw [mE_0 ho.1]
  refine ⟨_, hc, t_OB.to (V := updV (vp_V (mL ad σ i ci)) k v) ⟨_, e1, q2, q3, t_set q4 hap hk v⟩ (fun j hj => ?_)⟩
  have hj' : j < mNf ci := by rw [← hNf]; exact hj
  by_cases hjk : j = k
  · subst hjk
    rw [mL_V hj', hv]
    simp [updV]
  · rw [mL_V hj', mF_congr _ (h1 i j (fun q => hjk q.2)) (h2 i j (fun q => hjk q.2))]
    simp [updV, hjk, mL_V hj']
theorem mr_obj (C : mX p s m c cc nL args own G) (hl : ls.size = nL) {i idx : Nat} (hlink : Cond.methodLink own idx objectInit ∈ wsL_law) (hinst : Cond.instanceMethod objectInit ∈ wsL_law) (hcode : Cond.code objectInit ⟨#[0xb1]⟩ 1 none ∈ wsL_law) (hf : 1 ≤ R.frames) (hlo : 12 ≤ R.locals) (hdg : decode cc pc = .ok (.invokespecial idx, 3))
    (kk : W p l e R s m args below meth c H locs cells slots Q (F0 m (pc + 3) ls [])) : W p l e R s m args below meth c H locs cells slots Q (F0 m pc ls [mV ad (some i)]) :=
  W.objInit C.1.1 C.1.2.1 C.1.2.2.2.1 (C.1.2.2.2.2 _ hlink) (C.1.2.2.2.2 _ hinst) (C.1.2.2.2.2 _ hcode) rfl (by rw [C.1.2.2.1]; exact hl) rfl hdg hf (Nat.le_trans (Nat.le_of_ble_eq_true rfl) hlo) kk
end MT
end
section
theorem mF_IO : ∀ w ∈ (vx_atS RX2 166 xIO xNm).filter goodWord, w ∈ wsL_law := fun _ h => List.mem_append_left _ (List.mem_append_left _ (List.mem_append_right _ h))
theorem mF_IA : ∀ w ∈ (vx_atS RX2 46 xIA xNm).filter goodWord, w ∈ wsL_law := fun _ h => List.mem_append_left _ (List.mem_append_right _ h)
theorem mF_IS : ∀ w ∈ (vx_atS RX2 57 xIS xNm).filter goodWord, w ∈ wsL_law := fun _ h => List.mem_append_right _ h
theorem mBd_IO : ∀ w ∈ (vx_atS RX2 166 xIO xNm).filter (fun w => !goodWord w), w ∈ mNw := by decide +kernel
theorem mBd_IA : ∀ w ∈ (vx_atS RX2 46 xIA xNm).filter (fun w => !goodWord w), w ∈ mNw := by decide +kernel
theorem mBd_IS : ∀ w ∈ (vx_atS RX2 57 xIS xNm).filter (fun w => !goodWord w), w ∈ mNw := by decide +kernel
theorem mOt_IO : ∀ w ∈ Cond.classLink RX2 162 xIO :: Cond.initialized xIO :: vx_atS RX2 166 xIO xNm, vx_ot w = true := by decide +kernel
theorem mOt_IA : ∀ w ∈ Cond.classLink RX2 42 xIA :: Cond.initialized xIA :: vx_atS RX2 46 xIA xNm, vx_ot w = true := by decide +kernel
theorem mOt_IS : ∀ w ∈ Cond.classLink RX2 53 xIS :: Cond.initialized xIS :: vx_atS RX2 57 xIS xNm, vx_ot w = true := by decide +kernel
section MU
variable {p : Program} {l : Launch} {e : Env} {R : Room} {s : State} {m : MethodId} {args : Array Value} {below : List Frame} {meth : Method} {c : Code} {H : Heap} {locs : List Loc} {cells slots : Nat} {Q : State → Prop}
variable {cc : ByteArray} {pc nL : Nat} {ls : Array Slot} {rest : List Value} {own : String} {G : mG} {kd : Nat → Nat × Nat} {ad : Nat → Nat} {σ : mS} {b u fr lo : Nat}
variable {Qc : Array Value → State → Outcome → State → Prop} {X : String → mS → Prop}
theorem mr_throw (C : mX p s m c cc nL args RX2 G) (hM : mM G kdC ad s σ H locs) (Z : mZ ad s s.heap) (hfl : l.stackTraces = false) (hls : ls.size = nL) {ik is ic : Nat} {cls text : String} (hcls : Bundle.fit cls = true) (hk : Cond.classLink RX2 ik cls ∈ wsL_law) (hini : Cond.initialized cls ∈ wsL_law)
    (hF : ∀ w ∈ (vx_atS RX2 ic cls xNm).filter goodWord, w ∈ wsL_law) (hB : ∀ w ∈ (vx_atS RX2 ic cls xNm).filter (fun w => !goodWord w), w ∈ mNw) (hg : ∀ w ∈ Cond.classLink RX2 ik cls :: Cond.initialized cls :: vx_atS RX2 ic cls xNm, vx_ot w = true) (hst : (is, text) ∈ mStr)
    (hout : ∀ x ∈ c.exceptionTable.toList, False) (hlk : meth.locks = false) (hfr : 5 < fr) (hlo : 90 ≤ lo) (hu : u + 1 ≤ b) (d0 : decode cc pc = .ok (.new ik, 3)) (d3 : decode cc (pc + 3) = .ok (.dup, 1)) (d4 : decode cc (pc + 4) = .ok (.ldc is, 2)) (d6 : decode cc (pc + 6) = .ok (.invokespecial ic, 3)) (d9 : decode cc (pc + 9) = .ok (.athrow, 1)) (h : X cls σ) :
    W p l e (mRb fr lo b) s m args below meth c H locs u (18 * u) (vx_MQ below Qc (mXC X G ad) args s b (18 * b) (mA ad)) (F0 m pc ls []) := by
  obtain ⟨sa, hsa⟩ := Z.2.2.2 _ hst
  have hts := C.1.2.2.2.2
  have hat : ∀ w ∈ vx_atS RX2 ic cls xNm, w.before args s = true := vx_hat (fun w hw => hts w (hF w hw)) hB (fun w hw => (Z.2.2.1 w hw).use (mNw_on w hw))
  refine vx_throwS (names := xNm) C.1.1 C.1.2.1 hfl C.1.2.2.2.1 hcls (by decide +kernel) (hts _ hk) (hts _ hini) hsa hat hg Z.1 Z.2.1 hM.2 (by rw [C.1.2.2.1]; exact hls) d0 d3 d4 d6 d9 (fun x hx => (hout x hx).elim) (show 2 + 3 < fr from hfr) (show 0 + (13 * (2 + 1) + 43) ≤ lo by omega) (show u + 1 ≤ b from hu) (show 18 * u + 6 ≤ 18 * b by omega) hlk (fun t hvm hz hk => ⟨σ, trivial, ⟨h, mPw_of hM.1 hk⟩, Nat.le_trans hM.2.1 hz, fun q h1 h2 => (hk q (Nat.lt_of_lt_of_le h1 hM.2.1)).trans (hM.2.2.1 q h1 h2)⟩) hM.2.2.2 hu (by omega)
theorem mr_wi (hu : u ≤ b) {g : JFrame} (kk : W p l e (mRb fr lo b) s m args below meth c H locs b (18 * b) Q g) : W p l e (mRb fr lo b) s m args below meth c H locs u (18 * u) Q g := W.widen hu (Nat.mul_le_mul_left 18 hu) kk
theorem mr_xstart {y : MethodName} {ml : Nat} {ret : Option FieldType} {av : List Value} {lst : List (Nat × Value)} (hy : plainName y.cls = true) (hcat : ∀ v ∈ av, v.category = 1) (hav : lv_ix 0 av = lst) (hlen : av.length ≤ ml)
    (body : ∀ (p : Program) (e : Env) (s : State) (m : MethodId) (below : List Frame) (meth : Method) (c : Code), mX p s m c cc ml av.toArray y.cls G → mM G kdC ad s σ s.heap [] → mZ ad s s.heap → meth.sig.returnType = ret → meth.locks = false → (∀ x ∈ c.exceptionTable.toList, False) → ∀ ls : Array Slot, ml_has ls ml lst → W p l e (mRb fr lo b) s m av.toArray below meth c s.heap [] 0 (18 * 0) (vx_MQ below Qc (mXC X G ad) av.toArray s b (18 * b) (mA ad)) (F0 m 0 ls [])) :
    vx_Met l y (mWs y cc ml ret) (mRb fr lo b) (va_Pc av (mPreZ G ad σ)) Qc (mXC X G ad) b (18 * b) (mA ad) := by
  refine vx_ofW (cc := cc) (maxL := ml) (ret := ret) hy rfl ?_
  intro p e s m args below meth c s₁ B hml hout hv
  obtain ⟨rfl, ⟨hP, hK⟩, hZ⟩ := hv
  have hts := atoms_spec (ws := mWs y cc ml ret) B.pre
  have hown : s.vm.findClass y.cls = some m.cls := findClass_of_methodNamed B.named
  have hl := lv_entry av (n := ml) (by rw [lg_sl_len av hcat]; exact hlen)
  rw [lv_ix_eq av 0 hcat, hav] at hl
  rw [lg_entry_eq]
  exact body p e s m below meth c ⟨⟨B.exec, B.bytes, hml, hown, fun w hw => hts w (List.mem_cons_of_mem _ hw)⟩, hK⟩ ⟨hP, va_S.rf⟩ hZ B.returns B.notSynchronized hout _ ⟨hl, by rw [← hav]; exact lv_ix_cat av 0 hcat⟩
theorem mr_bstart {y : MethodName} {ml : Nat} {ret : Option FieldType} {av : List Value} {lst : List (Nat × Value)} (hy : plainName y.cls = true) (hcat : ∀ v ∈ av, v.category = 1) (hav : lv_ix 0 av = lst) (hlen : av.length ≤ ml)
    (body : ∀ (p : Program) (e : Env) (s : State) (m : MethodId) (below : List Frame) (meth : Method) (c : Code), mX p s m c cc ml av.toArray y.cls G → mM G kd ad s σ s.heap [] → meth.sig.returnType = ret → meth.locks = false → meth.name = y.name → ∀ ls : Array Slot, ml_has ls ml lst → W p l e (mRb fr lo b) s m av.toArray below meth c s.heap [] 0 (18 * 0) (MQ below Qc av.toArray s b (18 * b) (mA ad)) (F0 m 0 ls [])) :
    Met l y (mWs y cc ml ret) (mRb fr lo b) (va_Pc av (mPre G kd ad σ)) Qc b (18 * b) (mA ad) := by
  refine Met.ofW (cc := cc) (maxL := ml) (ret := ret) hy rfl ?_
  intro p e s m args below meth c s₁ B hml hv
  obtain ⟨rfl, hP, hK⟩ := hv
  have hts := atoms_spec (ws := mWs y cc ml ret) B.pre
  have hown : s.vm.findClass y.cls = some m.cls := findClass_of_methodNamed B.named
  have hl := lv_entry av (n := ml) (by rw [lg_sl_len av hcat]; exact hlen)
  rw [lv_ix_eq av 0 hcat, hav] at hl
  rw [lg_entry_eq]
  exact body p e s m below meth c ⟨⟨B.exec, B.bytes, hml, hown, fun w hw => hts w (List.mem_cons_of_mem _ hw)⟩, hK⟩ ⟨hP, va_S.rf⟩ B.returns B.notSynchronized (name_of_methodNamed B.named B.method).1 _ ⟨hl, by rw [← hav]; exact lv_ix_cat av 0 hcat⟩
variable {y : MethodName} {bytes : ByteArray} {maxL index n f2 l2 i ci k : Nat} {As : List Value} {st : List Value} {cls : String} {q : vw_C}
theorem mr_runVb {ret : Option FieldType} (C : mX p s m c cc nL args own G) (hM : mM G kd ad s σ H locs) (hl : ls.size = nL) (hc : Met l y (mWs y bytes maxL ret) (mRb f2 l2 k) (va_Pc (mV ad (some i) :: As) (mPre G kd ad σ)) Qc k (18 * k) (mA ad)) (hg : mCw own index cls y bytes maxL ret) (ho : mO kd ci i σ) (hq : vwCl[ci]? = some q) (hqc : q.1 = cls)
    (hd : y.cls = cls ∧ y.cls ≠ "java/lang/invoke/MethodHandle" ∧ y.cls ≠ "java/lang/invoke/VarHandle" ∧ (parseMethodDescriptor y.desc).map (fun d => d.parameters.length) = some n) (hn : As.length = n) (hst : st = As.reverse ++ mV ad (some i) :: rest) (hR : f2 + 1 ≤ fr ∧ 8 + (maxL + 11) + l2 ≤ lo) (hw : ∀ v ∈ rest, v.category = 1) (hw8 : rest.length ≤ 8) (hdg : decode cc pc = .ok (.invokevirtual index, 3)) (hf : u + k ≤ b) :
    va_Run p l e (mRb fr lo b) s m args below meth c H locs u (18 * u) k (18 * k) (F0 m pc ls st) rest (Qc (Value.ref (ad i) :: As).toArray) (mA ad) := by
  subst hqc
  subst hst
  subst hn
  exact va_runV (As := As) (rest := rest) C.1 hc (cwV As.length C.1.2.2.2.2 hg.good rfl rfl rfl hd hR) (mr_preV C hM ho hq As) rfl rfl hl rfl (lv_room (pc := pc) (ls := ls) (rest := As.reverse ++ mV ad (some i) :: rest) (m_wt hw hw8)) hdg ⟨hf, show 18 * u + 18 * k ≤ 18 * b by omega⟩
theorem mr_runI (C : mX p s m c cc nL args own G) (hM : mM G kd ad s σ H locs) (hl : ls.size = nL) (hc : Met l y (mWs y bytes maxL none) (mRb f2 l2 0) (va_Pc (mV ad (some i) :: As) (mPre G kd ad σ)) Qc 0 (18 * 0) (mA ad)) (h1 : Cond.methodLink own index y ∈ wsL_law) (h2 : Cond.instanceMethod y ∈ wsL_law) (h3 : Cond.initialized y.cls ∈ wsL_law) (h4 : Cond.code y bytes maxL none ∈ wsL_law) (hy1 : y.name = "<init>")
    (hd : y.cls ≠ "java/lang/invoke/MethodHandle" ∧ y.cls ≠ "java/lang/invoke/VarHandle" ∧ (parseMethodDescriptor y.desc).map (fun d => d.parameters.length) = some n) (hn : As.length = n) (hst : st = As.reverse ++ mV ad (some i) :: rest) (hR : f2 + 1 ≤ fr ∧ 8 + (maxL + 11) + l2 ≤ lo) (hw : ∀ v ∈ rest, v.category = 1) (hw8 : rest.length ≤ 8) (hdg : decode cc pc = .ok (.invokespecial index, 3)) (hu : u ≤ b) :
    va_Run p l e (mRb fr lo b) s m args below meth c H locs u (18 * u) 0 0 (F0 m pc ls st) rest (Qc (Value.ref (ad i) :: As).toArray) (mA ad) := by
  subst hst
  subst hn
  have hts := C.1.2.2.2.2
  have hG : GoodIn wsL_law (mWs y bytes maxL none) := fun w hw => by
    have : w ∈ wsL_law := by
      rcases List.mem_cons.mp hw with rfl | hw
      · exact h4
      · exact hw
    exact ⟨this, m_good w this⟩
  exact va_runI (As := As) (rest := rest) (b := ad i) C.1 hc (cwI As.length hts hG rfl rfl rfl (hts _ h3) (hts _ h1) (hts _ h2) hy1 hd hR) (mr_preS C hM (mV ad (some i) :: As)) rfl rfl hl rfl (lv_room (pc := pc) (ls := ls) (rest := As.reverse ++ mV ad (some i) :: rest) (m_wt hw hw8)) hdg ⟨hu, Nat.mul_le_mul_left 18 hu⟩
theorem mr_cvb {a : Array Value} {Qv : mS → Prop} (hM : mM G kd ad s σ H locs) (hr : va_Run p l e R s m args below meth c H locs u (18 * u) k (18 * k) (F0 m pc ls st) rest (va_Qv Qv (mPost G kd ad) (mA ad) a) (mA ad)) (kk : ∀ (v : mS) (H1 : Heap) (locs1 : List Loc), Qv v → mM G kd ad s v H1 locs1 → W p l e R s m args below meth c H1 locs1 (u + k) (18 * (u + k)) Q (F0 m (pc + 3) ls rest)) : W p l e R s m args below meth c H locs u (18 * u) Q (F0 m pc ls st) :=
  va_callv hr hM.2 (fun _ _ h => h) (fun _ h => h) (fun v t H1 locs1 ht hvm hw hB hz1 hk1 hS => W.cs rfl (by omega) (kk v H1 locs1 hw ⟨by rw [← ht]; exact hB, hS⟩))
theorem mr_cqb {a : Array Value} {Qq : Option Nat → mS → Prop} (hM : mM G kd ad s σ H locs) (hr : va_Run p l e R s m args below meth c H locs u (18 * u) k (18 * k) (F0 m pc ls st) rest (va_Qq (fun (r : Option Nat) (v : mS) => ∃ i : Option Nat, r = i.map ad ∧ Qq i v) (mPost G kd ad) (mA ad) a) (mA ad)) (kk : ∀ (r : Option Nat) (v : mS) (H1 : Heap) (locs1 : List Loc), Qq r v → mM G kd ad s v H1 locs1 → W p l e R s m args below meth c H1 locs1 (u + k) (18 * (u + k)) Q (F0 m (pc + 3) ls (mV ad r :: rest))) : W p l e R s m args below meth c H locs u (18 * u) Q (F0 m pc ls st) :=
  va_callq hr hM.2 (fun _ _ h => h) (fun _ h => h) (fun r v t H1 locs1 ht hvm hw hB hz1 hk1 hS => by
    obtain ⟨i, rfl, hw⟩ := hw
    exact W.cs rfl (by omega) (kk i v H1 locs1 hw ⟨by rw [← ht]; exact hB, hS⟩))
theorem mr_xpreV (C : mX p s m c cc nL args own G) (hM : mM G kdC ad s σ H locs) (Z : mZ ad s s.heap) (ho : mO kdC ci i σ) (hc : vwCl[ci]? = some q) (As : List Value) : PreV s H q.1 (ad i) (va_Pc (mV ad (some i) :: As) (mPreZ G ad σ)) As := by
  obtain ⟨h1, h2, h3⟩ := mr_preV C hM ho hc As
  exact ⟨mPreZ.blind _ _ _ _, h2, fun U hU hW => ⟨rfl, (h3 U hU hW).2, Z.at hM.2 hU hW⟩⟩
theorem mr_xrunV {ret : Option FieldType} (C : mX p s m c cc nL args own G) (hM : mM G kdC ad s σ H locs) (Z : mZ ad s s.heap) (hl : ls.size = nL) (hc : vx_Met l y (mWs y bytes maxL ret) (mRb f2 l2 k) (va_Pc (mV ad (some i) :: As) (mPreZ G ad σ)) Qc (mXC X G ad) k (18 * k) (mA ad)) (hg : mCw own index cls y bytes maxL ret) (ho : mO kdC ci i σ) (hq : vwCl[ci]? = some q) (hqc : q.1 = cls)
    (hd : y.cls = cls ∧ y.cls ≠ "java/lang/invoke/MethodHandle" ∧ y.cls ≠ "java/lang/invoke/VarHandle" ∧ (parseMethodDescriptor y.desc).map (fun d => d.parameters.length) = some n) (hn : As.length = n) (hst : st = As.reverse ++ mV ad (some i) :: rest) (hR : f2 + 1 ≤ fr ∧ 8 + (maxL + 11) + l2 ≤ lo) (hw : ∀ v ∈ rest, v.category = 1) (hw8 : rest.length ≤ 8) (hdg : decode cc pc = .ok (.invokevirtual index, 3)) (hf : u + k ≤ b) :
    vx_Run p l e (mRb fr lo b) s m args below meth c H locs u (18 * u) k (18 * k) (F0 m pc ls st) rest (Qc (Value.ref (ad i) :: As).toArray) (mXC X G ad) (mA ad) := by
  subst hqc
  subst hst
  subst hn
  exact vx_runV (As := As) (rest := rest) C.1 hc (cwV As.length C.1.2.2.2.2 hg.good rfl rfl rfl hd hR) (mr_xpreV C hM Z ho hq As) rfl rfl hl rfl (lv_room (pc := pc) (ls := ls) (rest := As.reverse ++ mV ad (some i) :: rest) (m_wt hw hw8)) hdg ⟨hf, show 18 * u + 18 * k ≤ 18 * b by omega⟩
theorem mr_xrunS {ret : Option FieldType} (C : mX p s m c cc nL args own G) (hM : mM G kdC ad s σ H locs) (Z : mZ ad s s.heap) (hl : ls.size = nL) (hc : vx_Met l y (mWs y bytes maxL ret) (mRb f2 l2 k) (va_Pc As (mPreZ G ad σ)) Qc (mXC X G ad) k (18 * k) (mA ad)) (hg : mCs own index y bytes maxL ret)
    (hd : y.cls = own ∧ y.cls ≠ "java/lang/invoke/MethodHandle" ∧ y.cls ≠ "java/lang/invoke/VarHandle" ∧ (parseMethodDescriptor y.desc).map (fun d => d.parameters.length) = some n) (hn : As.length = n) (hst : st = As.reverse ++ rest) (hR : f2 + 1 ≤ fr ∧ 8 + (maxL + 11) + l2 ≤ lo) (hw : ∀ v ∈ rest, v.category = 1) (hw8 : rest.length ≤ 8) (hdg : decode cc pc = .ok (.invokestatic index, 3)) (hf : u + k ≤ b) :
    vx_Run p l e (mRb fr lo b) s m args below meth c H locs u (18 * u) k (18 * k) (F0 m pc ls st) rest (Qc As.toArray) (mXC X G ad) (mA ad) := by
  subst hst
  subst hn
  exact vx_runS (As := As) (rest := rest) C.1 hc (cwS As.length C.1.2.2.2.2 hg.good rfl rfl rfl hd hR) ⟨mPreZ.blind _ _ _ _, fun U hU hW => ⟨rfl, ((mr_preS C hM As).2 U hU hW).2, Z.at hM.2 hU hW⟩⟩ rfl rfl hl rfl (lv_room (pc := pc) (ls := ls) (rest := As.reverse ++ rest) (m_wt hw hw8)) hdg ⟨hf, show 18 * u + 18 * k ≤ 18 * b by omega⟩
variable {Q9 : Array Value → State → Outcome → State → Prop} {a : Array Value}
theorem mr_xout (hout : ∀ x ∈ c.exceptionTable.toList, False) (hlk : meth.locks = false) (hf : u + k ≤ b) {E : String} {ce : Cell} {q9 : Addr} {v : mS} {t : State} {H1 : Heap} {locs1 : List Loc} (ht : t.heap = H1) (hB : X E v ∧ mPw G ad v t.heap) (hS : va_S (mA ad) s.heap H1 locs1) (hcell : H1[q9]? = some ce) (hcv : ce.vm = .none) (hcl : s.vm.findClass E = some ce.cls) :
    vx_W p l e (mRb fr lo b) s m args below meth c H1 locs1 (u + k) (18 * u + 18 * k) (vx_MQ below Q9 (mXC X G ad) args s b (18 * b) (mA ad)) (F0 m pc ls rest) q9 :=
  vx_out (fun x hx => (hout x hx).elim) hlk hcell hcv hcl (fun t' ht' _ => ⟨v, trivial, ⟨hB.1, by rw [ht', ← ht]; exact hB.2⟩, hS.F ht'⟩) hS.2.2 hf (by omega)
theorem mr_xci {Qi : Int32 → mS → Prop} (hM : mM G kdC ad s σ H locs) (hout : ∀ x ∈ c.exceptionTable.toList, False) (hlk : meth.locks = false) (hf : u + k ≤ b) (hr : vx_Run p l e (mRb fr lo b) s m args below meth c H locs u (18 * u) k (18 * k) (F0 m pc ls st) rest (va_Qi Qi (mPost G kdC ad) (mA ad) a) (mXC X G ad) (mA ad)) (kk : ∀ (r : Int32) (v : mS) (H1 : Heap) (locs1 : List Loc), Qi r v → mM G kdC ad s v H1 locs1 → W p l e (mRb fr lo b) s m args below meth c H1 locs1 (u + k) (18 * (u + k)) (vx_MQ below Q9 (mXC X G ad) args s b (18 * b) (mA ad)) (F0 m (pc + 3) ls (.int r :: rest))) :
    W p l e (mRb fr lo b) s m args below meth c H locs u (18 * u) (vx_MQ below Q9 (mXC X G ad) args s b (18 * b) (mA ad)) (F0 m pc ls st) :=
  vx_calli hr hM.2 (fun _ _ h => h) (fun _ h => h) (fun _ _ h => h) (fun E ce q9 v t H1 locs1 ht hvm _ hB hz hk hS hcell hcv hcl => mr_xout hout hlk hf ht hB hS hcell hcv hcl) (fun r v t H1 locs1 ht hvm hw hB hz1 hk1 hS => W.cs rfl (by omega) (kk r v H1 locs1 hw ⟨by rw [← ht]; exact hB, hS⟩))
theorem mr_xcv {Qv : mS → Prop} (hM : mM G kdC ad s σ H locs) (hout : ∀ x ∈ c.exceptionTable.toList, False) (hlk : meth.locks = false) (hf : u + k ≤ b) (hr : vx_Run p l e (mRb fr lo b) s m args below meth c H locs u (18 * u) k (18 * k) (F0 m pc ls st) rest (va_Qv Qv (mPost G kdC ad) (mA ad) a) (mXC X G ad) (mA ad)) (kk : ∀ (v : mS) (H1 : Heap) (locs1 : List Loc), Qv v → mM G kdC ad s v H1 locs1 → W p l e (mRb fr lo b) s m args below meth c H1 locs1 (u + k) (18 * (u + k)) (vx_MQ below Q9 (mXC X G ad) args s b (18 * b) (mA ad)) (F0 m (pc + 3) ls rest)) :
    W p l e (mRb fr lo b) s m args below meth c H locs u (18 * u) (vx_MQ below Q9 (mXC X G ad) args s b (18 * b) (mA ad)) (F0 m pc ls st) :=
  vx_callv hr hM.2 (fun _ _ h => h) (fun _ h => h) (fun _ _ h => h) (fun E ce q9 v t H1 locs1 ht hvm _ hB hz hk hS hcell hcv hcl => mr_xout hout hlk hf ht hB hS hcell hcv hcl) (fun v t H1 locs1 ht hvm hw hB hz1 hk1 hS => W.cs rfl (by omega) (kk v H1 locs1 hw ⟨by rw [← ht]; exact hB, hS⟩))
theorem mr_xcq {Qq : Option Nat → mS → Prop} (hM : mM G kdC ad s σ H locs) (hout : ∀ x ∈ c.exceptionTable.toList, False) (hlk : meth.locks = false) (hf : u + k ≤ b) (hr : vx_Run p l e (mRb fr lo b) s m args below meth c H locs u (18 * u) k (18 * k) (F0 m pc ls st) rest (va_Qq (fun (r : Option Nat) (v : mS) => ∃ i : Option Nat, r = i.map ad ∧ Qq i v) (mPost G kdC ad) (mA ad) a) (mXC X G ad) (mA ad)) (kk : ∀ (r : Option Nat) (v : mS) (H1 : Heap) (locs1 : List Loc), Qq r v → mM G kdC ad s v H1 locs1 → W p l e (mRb fr lo b) s m args below meth c H1 locs1 (u + k) (18 * (u + k)) (vx_MQ below Q9 (mXC X G ad) args s b (18 * b) (mA ad)) (F0 m (pc + 3) ls (mV ad r :: rest))) :
    W p l e (mRb fr lo b) s m args below meth c H locs u (18 * u) (vx_MQ below Q9 (mXC X G ad) args s b (18 * b) (mA ad)) (F0 m pc ls st) :=
  vx_callq hr hM.2 (fun _ _ h => h) (fun _ h => h) (fun _ _ h => h) (fun E ce q9 v t H1 locs1 ht hvm _ hB hz hk hS hcell hcv hcl => mr_xout hout hlk hf ht hB hS hcell hcv hcl) (fun r v t H1 locs1 ht hvm hw hB hz1 hk1 hS => by
    obtain ⟨i, rfl, hw⟩ := hw
    exact W.cs rfl (by omega) (kk i v H1 locs1 hw ⟨by rw [← ht]; exact hB, hS⟩))
end MU
end
section
section FG2
variable {p : Program} {l : Launch} {e : Env} {R : Room} {s : State} {m : MethodId} {args : Array Value} {below : List Frame} {meth : Method} {c : Code} {H : Heap} {locs : List Loc} {cells slots : Nat} {Q : State → Prop}
variable {cc : ByteArray} {pc nL : Nat} {ls : Array Slot} {rest : List Value} {G : mG} {kd : Nat → Nat × Nat} {ad : Nat → Nat} {σ : mS} {i : Nat}
theorem ff_X0_18 (C : mX p s m c cc nL args RX0 G) (hM : mM G kd ad s σ H locs) (ho : mO kd 0 i σ) (hin : meth.name = "<init>") (hdg : decode cc pc = .ok (.putfield 18, 3)) (v : Int32) (kk : ∀ (H1 : Heap) (locs1 : List Loc), mM G kd ad s (sI σ i 0 v) H1 locs1 → W p l e R s m args below meth c H1 locs1 cells slots Q (F0 m (pc + 3) ls rest)) : W p l e R s m args below meth c H locs cells slots Q (F0 m pc ls (.int v :: mV ad (some i) :: rest)) := mr_putF C hM ho rfl inlX0 tyX0 tyX0_ok nmX0 rfl 0 (by decide) (mw_7 _ (List.mem_of_getElem? (i := 21) rfl)) rfl rfl hin rfl rfl rfl (sI σ i 0 v) rfl (fun a b h => mI_off a b h) (fun _ _ _ => rfl) (by show Value.int (mI (sI σ i 0 v) i 0) = _; rw [mI_sI, if_pos ⟨rfl, rfl⟩]) hdg kk
theorem ff_X0_21 (C : mX p s m c cc nL args RX0 G) (hM : mM G kd ad s σ H locs) (ho : mO kd 0 i σ) (hin : meth.name = "<init>") (hdg : decode cc pc = .ok (.putfield 21, 3)) (v : Option Nat) (kk : ∀ (H1 : Heap) (locs1 : List Loc), mM G kd ad s (sR σ i 1 v) H1 locs1 → W p l e R s m args below meth c H1 locs1 cells slots Q (F0 m (pc + 3) ls rest)) : W p l e R s m args below meth c H locs cells slots Q (F0 m pc ls (mV ad v :: mV ad (some i) :: rest)) := mr_putF C hM ho rfl inlX0 tyX0 tyX0_ok nmX0 rfl 1 (by decide) (mw_7 _ (List.mem_of_getElem? (i := 22) rfl)) rfl rfl hin rfl (by cases v <;> rfl) (by cases v <;> rfl) (sR σ i 1 v) rfl (fun _ _ _ => rfl) (fun a b h => mR_off a b h) (by show mV ad (mR (sR σ i 1 v) i 1) = _; rw [mR_sR, if_pos ⟨rfl, rfl⟩]) hdg kk
theorem ff_X0_25 (C : mX p s m c cc nL args RX0 G) (hM : mM G kd ad s σ H locs) (ho : mO kd 0 i σ) (hin : meth.name = "<init>") (hdg : decode cc pc = .ok (.putfield 25, 3)) (v : Option Nat) (kk : ∀ (H1 : Heap) (locs1 : List Loc), mM G kd ad s (sR σ i 2 v) H1 locs1 → W p l e R s m args below meth c H1 locs1 cells slots Q (F0 m (pc + 3) ls rest)) : W p l e R s m args below meth c H locs cells slots Q (F0 m pc ls (mV ad v :: mV ad (some i) :: rest)) := mr_putF C hM ho rfl inlX0 tyX0 tyX0_ok nmX0 rfl 2 (by decide) (mw_7 _ (List.mem_of_getElem? (i := 23) rfl)) rfl rfl hin rfl (by cases v <;> rfl) (by cases v <;> rfl) (sR σ i 2 v) rfl (fun _ _ _ => rfl) (fun a b h => mR_off a b h) (by show mV ad (mR (sR σ i 2 v) i 2) = _; rw [mR_sR, if_pos ⟨rfl, rfl⟩]) hdg kk
theorem ff_X0_29 (C : mX p s m c cc nL args RX0 G) (hM : mM G kd ad s σ H locs) (ho : mO kd 0 i σ) (hin : meth.name = "<init>") (hdg : decode cc pc = .ok (.putfield 29, 3)) (v : Int32) (kk : ∀ (H1 : Heap) (locs1 : List Loc), mM G kd ad s (sI σ i 3 v) H1 locs1 → W p l e R s m args below meth c H1 locs1 cells slots Q (F0 m (pc + 3) ls rest)) : W p l e R s m args below meth c H locs cells slots Q (F0 m pc ls (.int v :: mV ad (some i) :: rest)) := mr_putF C hM ho rfl inlX0 tyX0 tyX0_ok nmX0 rfl 3 (by decide) (mw_8 _ (List.mem_of_getElem? (i := 0) rfl)) rfl rfl hin rfl rfl rfl (sI σ i 3 v) rfl (fun a b h => mI_off a b h) (fun _ _ _ => rfl) (by show Value.int (mI (sI σ i 3 v) i 3) = _; rw [mI_sI, if_pos ⟨rfl, rfl⟩]) hdg kk
end FG2
end
section
/-! rows for the constructors: cells of a world that is being made -/
section MK
variable {p : Program} {l : Launch} {e : Env} {R : Room} {s : State} {m : MethodId} {args : Array Value} {below : List Frame} {meth : Method} {c : Code} {H : Heap} {locs : List Loc} {cells slots : Nat} {Q : State → Prop}
variable {cc : ByteArray} {pc nL : Nat} {ls : Array Slot} {rest : List Value} {own : String} {G : mG} {kd : Nat → Nat × Nat} {ad : Nat → Nat} {σ : mS}
theorem mE_kd {kd' : Nat → Nat × Nat} {i : Nat} (h : kd' i = kd i) : mE G kd' ad σ i = mE G kd ad σ i := by unfold mE; rw [h]
/-- a cell more: at the heap's end, of the kind that kd' says -/
theorem mM_add {kd' : Nat → Nat × Nat} {H1 : Heap} (hM : mM G kd ad s σ H locs) (hkd : ∀ i, i < mN σ → kd' i = kd i) (h4 : ∀ i, kd' i ≠ (0, 0) → i < 26 → (kd' 0).2 ≤ 3 → i < mN σ + 1) (he : va_at G.1 vwCl (ad (mN σ), mE G kd' ad (sN σ) (mN σ)) H1) (z1 : H1.size = H.size + 1) (o1 : ∀ q, q < H.size → H1[q]? = H[q]?) : mM G kd' ad s (sN σ) H1 locs := by
  refine ⟨⟨fun i hi => ?_, hM.1.2.1, fun j => ?_, h4⟩, ⟨Nat.le_trans hM.2.1 (by omega), fun q h1 h2 => (o1 q (Nat.lt_of_lt_of_le h1 hM.2.1)).trans (hM.2.2.1 q h1 h2), hM.2.2.2⟩⟩
  · by_cases hin : i = mN σ
    · subst hin; exact he
    · have hi' : i < mN σ := by have h9 : i < mN σ + 1 := hi; omega
      rw [mE_congr (σ := σ) (fun k => by rw [mI_sN, if_neg hin]) (fun k => by rw [mR_sN, if_neg hin]), mE_kd (hkd i hi')]
      exact (hM.1.1 i hi').kept (o1 _ (hM.1.1 i hi').lt)
  · have h9 := hM.1.2.2.1 (1 + j)
    show ad (mN σ + 1 + j) = H1.size + j
    rw [z1, Nat.add_assoc, h9]
    omega
theorem mr_newO (C : mX p s m c cc nL args own G) (hM : mM G kd ad s σ H locs) {ci : Nat} {C0 : String} {T : u_T} {N : Nat} (hc : vwCl[ci]? = some (C0, T, N)) (hin : ∀ w ∈ u_ws C0 T N, w ∈ wsL_law) (ty0 : Nat → FieldType) (hty : ∀ k, k < N → parseFieldDescriptor (T k).2.2.1 = some (ty0 k)) (hNf : N = mNf ci) {index : Nat} (hcl : Cond.classLink own index C0 ∈ wsL_law) (hins : Cond.instantiable C0 N ∈ wsL_law) (hini : Cond.initialized C0 ∈ wsL_law)
    (kd' : Nat → Nat × Nat) (hkd : ∀ i, i < mN σ → kd' i = kd i) (hkn : kd' (mN σ) = (0, ci)) (h4 : ∀ i, kd' i ≠ (0, 0) → i < 26 → (kd' 0).2 ≤ 3 → i < mN σ + 1) (hdef : ∀ k, k < N → ((mFk ci k).1 = 0 ∧ defaultValue (ty0 k) = .int 0) ∨ ((mFk ci k).1 = 1 ∧ defaultValue (ty0 k) = .null)) (hcells : cells + 1 ≤ R.cells) (hslots : slots + N ≤ R.slots) (hdg : decode cc pc = .ok (.new index, 3))
    (kk : ∀ H1 : Heap, mM G kd' ad s (sN σ) H1 locs → W p l e R s m args below meth c H1 locs (cells + 1) (slots + N) Q (F0 m (pc + 3) ls (mV ad (some (mN σ)) :: rest))) : W p l e R s m args below meth c H locs cells slots Q (F0 m pc ls rest) := by
  have hKn := C.2.1 ci _ hc
  have hsz : ad (mN σ) = H.size := hM.1.2.2.1 0
  have hts := C.1.2.2.2.2
  refine W.newcK C.1.1 C.1.2.1 C.1.2.2.2.1 (hts _ hcl) (hts _ hins) (hts _ hini) rfl hdg hcells hslots hKn.2.1 rfl fun H1 kC hkC e1 z1 o1 => ?_
  rw [← hsz] at e1 ⊢
  refine kk H1 (mM_add hM hkd h4 ?_ z1 o1)
  rw [mE_0 hkn]
  refine ⟨_, hc, (u_born ty0 hts hin hKn hkC e1 hty).to (fun j hj => ?_)⟩
  rw [mL_V (show j < mNf ci by rw [← hNf]; exact hj)]
  rcases hdef j hj with ⟨h1, h2⟩ | ⟨h1, h2⟩
  · rw [h2]
    unfold mF
    rw [h1]
    show Value.int 0 = Value.int (mI (sN σ) (mN σ) j)
    rw [mI_sN, if_pos rfl]
  · rw [h2]
    unfold mF
    rw [h1]
    show Value.null = mV ad (mR (sN σ) (mN σ) j)
    rw [mR_sN, if_pos rfl]
    rfl
theorem mr_newI (C : mX p s m c cc nL args own G) (hM : mM G kd ad s σ H locs) {n : Int32} {N : Nat} (hn : n = nI N) (hN : N < 1000) (hw : Cond.arrayClass .int ∈ wsL_law) (kd' : Nat → Nat × Nat) (hkd : ∀ i, i < mN σ → kd' i = kd i) (hkn : kd' (mN σ) = (1, N)) (h4 : ∀ i, kd' i ≠ (0, 0) → i < 26 → (kd' 0).2 ≤ 3 → i < mN σ + 1) (hcells : cells + 1 ≤ R.cells) (hslots : slots + N ≤ R.slots) (hdg : decode cc pc = .ok (.newarray .int, 2))
    (kk : ∀ H1 : Heap, mM G kd' ad s (sN σ) H1 locs → W p l e R s m args below meth c H1 locs (cells + 1) (slots + N) Q (F0 m (pc + 2) ls (mV ad (some (mN σ)) :: rest))) : W p l e R s m args below meth c H locs cells slots Q (F0 m pc ls (.int n :: rest)) := by
  subst hn
  have hsz : ad (mN σ) = H.size := hM.1.2.2.1 0
  refine va_newaK (atype := .int) (N := N) C.1.1 C.1.2.1 (C.1.2.2.2.2 _ hw) rfl hdg rfl (nI_pos (by omega)) (nI_clamp (by omega)) (by show N * 4 ≤ _; omega) hcells hslots rfl fun H1 cA e1 z1 o1 _ hNm => ?_
  have hcA : cA = G.2.1 := Option.some.inj (hNm.symm.trans (C.2.2 0 _ rfl).2)
  subst hcA
  rw [← hsz] at e1 ⊢
  refine kk H1 (mM_add hM hkd h4 ?_ z1 o1)
  rw [mE_1 hkn]
  show H1[ad (mN σ)]? = some (vp_cell _ _)
  rw [e1, vp_cell_i]
  congr 2
  funext j
  rw [mI_sN, if_pos rfl]
  rfl
theorem mr_newZ (C : mX p s m c cc nL args own G) (hM : mM G kd ad s σ H locs) {n : Int32} {N : Nat} (hn : n = nI N) (hN : N < 1000) (hw : Cond.arrayClass .boolean ∈ wsL_law) (kd' : Nat → Nat × Nat) (hkd : ∀ i, i < mN σ → kd' i = kd i) (hkn : kd' (mN σ) = (2, N)) (h4 : ∀ i, kd' i ≠ (0, 0) → i < 26 → (kd' 0).2 ≤ 3 → i < mN σ + 1) (hcells : cells + 1 ≤ R.cells) (hslots : slots + N ≤ R.slots) (hdg : decode cc pc = .ok (.newarray .boolean, 2))
    (kk : ∀ H1 : Heap, mM G kd' ad s (sN σ) H1 locs → W p l e R s m args below meth c H1 locs (cells + 1) (slots + N) Q (F0 m (pc + 2) ls (mV ad (some (mN σ)) :: rest))) : W p l e R s m args below meth c H locs cells slots Q (F0 m pc ls (.int n :: rest)) := by
  subst hn
  have hsz : ad (mN σ) = H.size := hM.1.2.2.1 0
  refine va_newaK (atype := .boolean) (N := N) C.1.1 C.1.2.1 (C.1.2.2.2.2 _ hw) rfl hdg rfl (nI_pos (by omega)) (nI_clamp (by omega)) (by show N * 1 ≤ _; omega) hcells hslots rfl fun H1 cA e1 z1 o1 _ hNm => ?_
  have hcA : cA = G.2.2.1 := Option.some.inj (hNm.symm.trans (C.2.2 1 _ rfl).2)
  subst hcA
  rw [← hsz] at e1 ⊢
  refine kk H1 (mM_add hM hkd h4 ?_ z1 o1)
  rw [mE_2 hkn]
  show H1[ad (mN σ)]? = some (vp_cell _ _)
  rw [e1, vp_cell_i]
  congr 2
  funext j
  rw [mI_sN, if_pos rfl]
  rfl
theorem mr_newQ (C : mX p s m c cc nL args own G) (hM : mM G kd ad s σ H locs) {n : Int32} {N t t0 index : Nat} {C0 : String} {cA0 : ClassId} (hn : n = nI N) (hN : N < 1000) (hcl : Cond.classLink own index C0 ∈ wsL_law) (hov : va_AO C0 s) (ht : (mTys G)[t0]? = some (cA0, .object C0)) (kd' : Nat → Nat × Nat) (hkd : ∀ i, i < mN σ → kd' i = kd i) (hkn : kd' (mN σ) = (t, N)) (hE : ∀ σ : mS, ∀ i, kd' i = (t, N) → mE G kd' ad σ i = .inl (cA0, N, .inr (.inr (.inr (.inr (fun j => (mR σ i j).map ad)))))) (h4 : ∀ i, kd' i ≠ (0, 0) → i < 26 → (kd' 0).2 ≤ 3 → i < mN σ + 1) (hcells : cells + 1 ≤ R.cells) (hslots : slots + N ≤ R.slots) (hdg : decode cc pc = .ok (.anewarray index, 3))
    (kk : ∀ H1 : Heap, mM G kd' ad s (sN σ) H1 locs → W p l e R s m args below meth c H1 locs (cells + 1) (slots + N) Q (F0 m (pc + 3) ls (mV ad (some (mN σ)) :: rest))) : W p l e R s m args below meth c H locs cells slots Q (F0 m pc ls (.int n :: rest)) := by
  subst hn
  have hsz : ad (mN σ) = H.size := hM.1.2.2.1 0
  have hcl9 : (nI N).toNatClampNeg = N := nI_clamp (by omega)
  refine W.anew C.1.1 C.1.2.1 C.1.2.2.2.1 (C.1.2.2.2.2 _ hcl) (va_AO.use hov) rfl hdg rfl (nI_pos (by omega)) (by rw [hcl9]; omega) hcells (by rw [hcl9]; exact hslots) fun cA kA comp f1 f2 f3 f4 => ?_
  rw [hcl9]
  generalize hH1 : H.push ({ cls := cA, slots := Array.replicate N .null, vm := .none } : Cell) = H1
  have z1 : H1.size = H.size + 1 := by rw [← hH1, Array.size_push]
  have e1 : H1[H.size]? = some (arrV cA N (fun _ => .null)) := by rw [← hH1, Array.getElem?_push_size, ← arrV_new]
  have o1 : ∀ q : Nat, q < H.size → H1[q]? = H[q]? := fun q hq => by rw [← hH1, Array.getElem?_push, if_neg (Nat.ne_of_lt hq)]
  obtain ⟨kA', comp', g1, g2, g3, g4⟩ := (C.2.2 t0 _ ht).2
  have hcA : cA = cA0 := Option.some.inj (f1.symm.trans g4)
  subst hcA
  rw [← hsz] at e1 ⊢
  refine kk H1 (mM_add hM hkd h4 ?_ z1 o1)
  rw [hE _ _ hkn]
  show H1[ad (mN σ)]? = some (vp_cell _ _)
  rw [e1, vp_cell_q]
  congr 2
  funext j
  rw [mR_sN, if_pos rfl]
  rfl
/-- a cell that was being made is made -/
theorem mM_conv {kd' : Nat → Nat × Nat} {i ci cj : Nat} (hM : mM G kd ad s σ H locs) (hi : kd i = (0, ci)) (hj : kd' i = (0, cj)) (hkd : ∀ j, j < mN σ → j ≠ i → kd' j = kd j) (h4 : ∀ i, kd' i ≠ (0, 0) → i < 26 → (kd' 0).2 ≤ 3 → i < mN σ) (hG : G.1.1 cj = G.1.1 ci ∧ G.1.2 cj = G.1.2 ci) (hcl : vwCl[cj]? = vwCl[ci]?) (hL : mL ad σ i cj = mL ad σ i ci) : mM G kd' ad s σ H locs := by
  refine ⟨⟨fun j hjn => ?_, hM.1.2.1, hM.1.2.2.1, h4⟩, hM.2⟩
  by_cases hji : j = i
  · subst hji
    have h := hM.1.1 j hjn
    rw [mE_0 hi] at h
    rw [mE_0 hj, hL]
    obtain ⟨r, h1, h2⟩ := h
    refine ⟨r, by rw [hcl]; exact h1, ?_⟩
    show t_OB _ (G.1.1 cj) _ (G.1.2 cj) _ _
    rw [hG.1, hG.2]
    exact h2
  · rw [mE_kd (hkd j hjn hji)]
    exact hM.1.1 j hjn
end MK
end
section
/-! the law's own methods: a call of the class, its throws caught, its answer put into a row of one long -/
def mAL (ad : Nat → Nat) (o : Nat) : Nat → Prop := fun q => mA ad q ∨ q = o
def mOut (cL : ClassId) (o : Nat) (v : Nat → Int64) (H : Heap) : Prop := H[o]? = some (vp_cell cL (1, .inr (.inl v)))
def mNcs (U : State) : Prop := va_Nc xIA xIO U ∧ va_Nc xIS xIO U ∧ va_Nc xIS xIA U
def mPreL (G : mG) (cL : ClassId) (ad : Nat → Nat) (o : Nat) (σ : mS) (v : Nat → Int64) : State → Prop := fun U => mPreZ G ad σ U ∧ ArrOfT U cL .long ∧ mOut cL o v U.heap ∧ (∀ i, ad i ≠ o) ∧ mNcs U
def mPostL (G : mG) (cL : ClassId) (ad : Nat → Nat) (o : Nat) : mS × Int64 → State → Prop := fun q t => mPw G ad q.1 t.heap ∧ ∃ v : Nat → Int64, v 0 = q.2 ∧ mOut cL o v t.heap
def mWL (y : MethodName) (cc : ByteArray) (ml : Nat) (hh : List (Nat × Nat × Nat × Nat)) : List Cond := Cond.codeWith y cc ml (some .int) hh :: wsL_law
theorem mPreL.blind (G : mG) (cL : ClassId) (ad : Nat → Nat) (o : Nat) (σ : mS) (v : Nat → Int64) (av : List Value) : FrameBlind (va_Pc av (mPreL G cL ad o σ v)) := fun a U g mk q =>
  ⟨q.1, (mPreZ.blind G ad σ av a U g mk ⟨q.1, q.2.1⟩).2, arrOfT_moved (u := U) (E := U.calling g mk a) (Vm.Alike.refl U.vm) q.2.2.1, q.2.2.2.1, q.2.2.2.2.1, q.2.2.2.2.2.1.moved (u := U) (U := U.calling g mk a) (Vm.Alike.refl U.vm), q.2.2.2.2.2.2.1.moved (u := U) (U := U.calling g mk a) (Vm.Alike.refl U.vm), q.2.2.2.2.2.2.2.moved (u := U) (U := U.calling g mk a) (Vm.Alike.refl U.vm)⟩
theorem mr_ofWH {l : Launch} {y : MethodName} {ws ws' : List Cond} {rm : Room} {Pc : Array Value → State → Prop} {Qc : Array Value → State → Outcome → State → Prop} {mc ms : Nat} {free : Addr → Prop} {cc : ByteArray} {maxL : Nat} {ret : Option FieldType} {hh : List (Nat × Nat × Nat × Nat)}
    (hy : plainName y.cls = true) (hw : ws = Cond.codeWith y cc maxL ret hh :: ws')
    (body : ∀ p e s m args below meth c s₁, BodyLoose p l y (headSpec ws rm) cc maxL ret e s m args below meth c s₁ → c.maxLocals = maxL → c.exceptionTable.toList = tableOf hh → Pc args s →
      W p l e (headSpec ws rm).room s m args below meth c s.heap [] 0 0 (MQ below Qc args s mc ms free) (entryFrame m args maxL)) : Met l y ws rm Pc Qc mc ms free := by
  refine MetFree.of_bodyS (code := cc) (maxLocals := maxL) (ret := ret) hy ?_ ?_
  · intro args s m h hn
    obtain ⟨m9, meth, c, hn9, h1, h2, h3, h4, -, h5, h6, -⟩ := Cond.codeWith_spec (atoms_spec (ws := ws) h _ (by rw [hw]; exact List.mem_cons_self))
    cases hn.symm.trans hn9
    exact ⟨meth, c, h1, h2, h3, h4, h5, h6⟩
  · intro p e s m args below meth c s₁ B hml hP _
    have hh0 : s₁.heap = s.heap := by rw [B.state]; rfl
    have ht : c.exceptionTable.toList = tableOf hh := vx_table (x := y) B (atoms_spec (ws := ws) B.pre _ (by rw [hw]; exact List.mem_cons_self))
    obtain ⟨t, a1, o, b1, b2, b3⟩ := body p e s m args below meth c s₁ B hml ht hP s₁ hh0 (Stand.of_body B)
    exact ⟨t, o, a1, b1, b2, ⟨b3.1, b3.2⟩⟩
section ML
variable {p : Program} {l : Launch} {e : Env} {R : Room} {s : State} {m : MethodId} {args : Array Value} {below : List Frame} {meth : Method} {c : Code} {H : Heap} {locs : List Loc} {cells slots : Nat} {Q : State → Prop}
variable {cc : ByteArray} {pc nL : Nat} {ls : Array Slot} {rest st : List Value} {own : String} {G : mG} {ad : Nat → Nat} {σ : mS} {b u fr lo o : Nat} {cL : ClassId} {X : String → mS → Prop} {a : Array Value} {Qc : Array Value → State → Outcome → State → Prop}
theorem ml_start {y : MethodName} {ml : Nat} {hh : List (Nat × Nat × Nat × Nat)} {av : List Value} {lst : List (Nat × Value)} {v0 : Nat → Int64} (hy : plainName y.cls = true) (hcat : ∀ v ∈ av, v.category = 1) (hav : lv_ix 0 av = lst) (hlen : av.length ≤ ml)
    (body : ∀ (p : Program) (e : Env) (s : State) (m : MethodId) (below : List Frame) (meth : Method) (c : Code), mX p s m c cc ml av.toArray y.cls G → mM G kdC ad s σ s.heap [] → mZ ad s s.heap → ArrOfT s cL .long → mOut cL o v0 s.heap → (∀ i, ad i ≠ o) → mNcs s → meth.sig.returnType = some .int → meth.locks = false → c.exceptionTable.toList = tableOf hh → ∀ ls : Array Slot, ml_has ls ml lst → W p l e (mRb fr lo b) s m av.toArray below meth c s.heap [] 0 (18 * 0) (MQ below Qc av.toArray s b (18 * b) (mAL ad o)) (F0 m 0 ls [])) :
    Met l y (mWL y cc ml hh) (mRb fr lo b) (va_Pc av (mPreL G cL ad o σ v0)) Qc b (18 * b) (mAL ad o) := by
  refine mr_ofWH (cc := cc) (maxL := ml) (ret := some .int) hy rfl ?_
  intro p e s m args below meth c s₁ B hml hout hv
  obtain ⟨rfl, ⟨⟨hP, hK⟩, hZ⟩, hA, hO, hne, hN⟩ := hv
  have hts := atoms_spec (ws := mWL y cc ml hh) B.pre
  have hown : s.vm.findClass y.cls = some m.cls := findClass_of_methodNamed B.named
  have hl := lv_entry av (n := ml) (by rw [lg_sl_len av hcat]; exact hlen)
  rw [lv_ix_eq av 0 hcat, hav] at hl
  rw [lg_entry_eq]
  exact body p e s m below meth c ⟨⟨B.exec, B.bytes, hml, hown, fun w hw => hts w (List.mem_cons_of_mem _ hw)⟩, hK⟩ ⟨hP, va_S.rf⟩ hZ hA hO hne hN B.returns B.notSynchronized hout _ ⟨hl, by rw [← hav]; exact lv_ix_cat av 0 hcat⟩
/-- the call: it answers, or throws and the handlers have it -/
theorem ml_call {Qi : Int32 → mS → Prop} {v0 : Nat → Int64} (hO : mOut cL o v0 s.heap) (hne : ∀ i, ad i ≠ o) (hr : vx_Run p l e (mRb fr lo b) s m args below meth c s.heap [] 0 (18 * 0) b (18 * b) (F0 m pc ls st) rest (va_Qi Qi (mPost G kdC ad) (mA ad) a) (mXC X G ad) (mA ad))
    (kx : ∀ (E : String) (ce : Cell) (q9 : Addr) (v : mS) (H1 : Heap) (locs1 : List Loc), X E v → mPw G ad v H1 → mOut cL o v0 H1 → va_S (mAL ad o) s.heap H1 locs1 → H1[q9]? = some ce → ce.vm = .none → s.vm.findClass E = some ce.cls → vx_W p l e (mRb fr lo b) s m args below meth c H1 locs1 b (18 * b) Q (F0 m pc ls rest) q9)
    (kk : ∀ (r : Int32) (v : mS) (H1 : Heap) (locs1 : List Loc), Qi r v → mP G kdC ad v H1 → mOut cL o v0 H1 → va_S (mAL ad o) s.heap H1 locs1 → W p l e (mRb fr lo b) s m args below meth c H1 locs1 b (18 * b) Q (F0 m (pc + 3) ls (.int r :: rest))) :
    W p l e (mRb fr lo b) s m args below meth c s.heap [] 0 (18 * 0) Q (F0 m pc ls st) := by
  have hna : ¬ mA ad o := fun ⟨i, hi⟩ => hne i hi
  have hlt : o < s.heap.size := (Array.getElem?_eq_some_iff.mp hO).1
  refine vx_calli hr (A0 := mAL ad o) (H0 := s.heap) va_S.rf (fun _ _ h => Or.inl h) (fun _ h => Or.inl h) (fun _ _ h => Or.inl h) (fun E ce q9 v t H1 locs1 ht hvm _ hB hz hk hS hcell hcv hcl => ?_) (fun r v t H1 locs1 ht hvm hw hB hz1 hk1 hS => ?_)
  · intro T hT XX
    exact kx E ce q9 v H1 locs1 hB.1 (by rw [← ht]; exact hB.2) (by show H1[o]? = _; rw [hk o hlt hna]; exact hO) hS hcell hcv hcl T hT (by rw [Nat.zero_add, Nat.mul_zero, Nat.zero_add] at XX; exact XX)
  · exact W.cs (Nat.zero_add b) (by rw [Nat.mul_zero, Nat.zero_add]) (kk r v H1 locs1 hw (by rw [← ht]; exact hB) (by show H1[o]? = _; rw [hk1 o hlt hna]; exact hO) hS)
theorem ml_put {v0 : Nat → Int64} {x : Int64} {v : mS} (C : mX p s m c cc nL args own G) (hA : ArrOfT s cL .long) (hne : ∀ i, ad i ≠ o) (hP : mP G kdC ad v H) (hO : mOut cL o v0 H) (hS : va_S (mAL ad o) s.heap H locs) (hdg : decode cc pc = .ok (.lastore, 1))
    (kk : ∀ (H1 : Heap) (locs1 : List Loc) (v1 : Nat → Int64), v1 0 = x → mPw G ad v H1 → mOut cL o v1 H1 → va_S (mAL ad o) s.heap H1 locs1 → W p l e R s m args below meth c H1 locs1 cells slots Q (F0 m (pc + 1) ls rest)) : W p l e R s m args below meth c H locs cells slots Q (F0 m pc ls (.long x :: .int 0 :: .ref o :: rest)) := by
  refine W.last C.1.1 C.1.2.1 hO (hA 1 (fun j => .long (v0 j))) (fun q => by cases q) (by show ¬ ((0 : Int32) < 0 ∨ (arrV _ _ _).slots.size ≤ _); rw [arrV_size]; show ¬ ((0 : Int32) < 0 ∨ 1 ≤ Int32.toNatClampNeg 0); decide) rfl rfl hdg fun H1 e z oq => ?_
  refine kk H1 _ (vp_updL v0 0 x) (by simp [vp_updL]) ⟨fun i hi => (hP.1 i hi).kept (oq _ (hne i)), hP.2.1, fun i h1 h2 => hP.2.2.2 i h1 h2 (by decide)⟩ ?_ (hS.put z oq (Or.inr rfl))
  show H1[o]? = some (vp_cell _ _)
  rw [e, vp_cell_l, vp_cell_l]
  show some ((arrV cL 1 fun j => Value.long (v0 j)).setSlot (Int32.toNatClampNeg 0) (Value.long x)) = _
  rw [show Int32.toNatClampNeg 0 = 0 from rfl, arrV_store]
  congr 2
  funext q
  by_cases hq : q = 0
  · subst hq
    simp [updV, vp_updL]
  · simp [updV, vp_updL, hq]
theorem ml_ret {Qi : Int32 → Int64 → mS → Prop} {r : Int32} {x : Int64} {v : mS} {v1 : Nat → Int64} (C : mX p s m c cc nL args own G) (hr : meth.sig.returnType = some .int) (hlk : meth.locks = false) (h : Qi r x v) (hx : v1 0 = x) (hP : mPw G ad v H) (hO : mOut cL o v1 H) (hS : va_S (mAL ad o) s.heap H locs) (hdg : decode cc pc = .ok (.ireturn, 1)) :
    W p l e R s m args below meth c H locs cells slots (MQ below (va_Qi (fun r (q : mS × Int64) => Qi r q.2 q.1) (mPostL G cL ad o) (mAL ad o)) args s cells slots (mAL ad o)) (F0 m pc ls [.int r]) :=
  W.iret C.1.1 C.1.2.1 hr (fun t ht _ => ⟨⟨r, (v, x), rfl, h, by rw [mPostL, ht]; exact ⟨hP, v1, hx, hO⟩⟩, hS.F ht⟩) hS.2.2 hdg hlk
end ML
end
section
/-! THE LAW'S WORLD: the class's cells, the reference's, and the row of one long, each where it lies -/
def wW (G : mG) (kd : Nat → Nat × Nat) (a : Nat → Nat) (σ : mS) (H : Heap) : Prop := (∀ i, i < mN σ → va_at G.1 vwCl (a i, mE G kd a σ i) H) ∧ (∀ i j, i < mN σ → j < mN σ → a i = a j → i = j) ∧ ∀ i, kd i ≠ (0, 0) → i < 26 → i < mN σ
/-- the references of a store lie in it -/
def mRok (kd : Nat → Nat × Nat) (σ : mS) : Prop := (∀ i k j, i < mN σ → mR σ i k = some j → j < mN σ) ∧ ∀ i ci k, i < mN σ → kd i = (0, ci) → (mFk ci k).1 ≠ 0 → (mFk ci k).1 ≠ 1 → i + (mFk ci k).2 < mN σ
theorem mV_at {a a' : Nat → Nat} {n : Nat} (h : ∀ j, j < n → a' j = a j) {r : Option Nat} (hr : ∀ j, r = some j → j < n) : r.map a' = r.map a := by
  cases r with
  | none => rfl
  | some j => rw [Option.map_some, Option.map_some, h j (hr j rfl)]
theorem mE_at {G : mG} {kd : Nat → Nat × Nat} {a a' : Nat → Nat} {σ : mS} (hR : mRok kd σ) (h : ∀ j, j < mN σ → a' j = a j) {i : Nat} (hi : i < mN σ) : mE G kd a' σ i = mE G kd a σ i := by
  have hq : (fun j => (mR σ i j).map a') = fun j => (mR σ i j).map a := funext fun k => mV_at h (fun j => hR.1 i k j hi)
  have hL : (kd i).1 = 0 → mL a' σ i (kd i).2 = mL a σ i (kd i).2 := fun h0 => List.map_congr_left (fun k _ => by
    unfold mF
    split
    · rfl
    · exact congrArg va_rf (mV_at h (fun j => hR.1 i k j hi))
    · next h1 h2 => rw [h _ (hR.2 i _ k hi (by rw [← h0]) h1 h2)])
  unfold mE
  rw [hq]
  split
  · next h0 => rw [hL h0]
  · rfl
  · rfl
  · rfl
  · rfl
theorem wW_lt {G : mG} {kd : Nat → Nat × Nat} {a : Nat → Nat} {σ : mS} {H : Heap} (h : wW G kd a σ H) {i : Nat} (hi : i < mN σ) : a i < H.size := (h.1 i hi).lt
/-- the numbers beyond the world are put on the heap's next places -/
theorem wW_base {G : mG} {kd : Nat → Nat × Nat} {a : Nat → Nat} {σ : mS} {H : Heap} (h : wW G kd a σ H) (hR : mRok kd σ) : ∃ a' : Nat → Nat, (∀ i, i < mN σ → a' i = a i) ∧ mP G kd a' σ H ∧ ∀ i, mN σ ≤ i → H.size ≤ a' i := by
  obtain ⟨a', ha⟩ : ∃ a' : Nat → Nat, a' = fun i => if i < mN σ then a i else H.size + (i - mN σ) := ⟨_, rfl⟩
  have h1 : ∀ i, i < mN σ → a' i = a i := fun i hi => by rw [ha]; exact if_pos hi
  have h2 : ∀ i, ¬ i < mN σ → a' i = H.size + (i - mN σ) := fun i hi => by rw [ha]; exact if_neg hi
  refine ⟨a', h1, ⟨fun i hi => ?_, fun i j hij => ?_, fun j => ?_, fun i hk hi _ => h.2.2 i hk hi⟩, fun i hi => by rw [h2 i (Nat.not_lt.mpr hi)]; omega⟩
  · rw [mE_at hR h1 hi, h1 i hi]; exact h.1 i hi
  · by_cases hi : i < mN σ <;> by_cases hj : j < mN σ
    · rw [h1 i hi, h1 j hj] at hij; exact h.2.1 i j hi hj hij
    · rw [h1 i hi, h2 j hj] at hij; have := wW_lt h hi; omega
    · rw [h2 i hi, h1 j hj] at hij; have := wW_lt h hj; omega
    · rw [h2 i hi, h2 j hj] at hij; omega
  · rw [h2 _ (by omega)]; omega
theorem wW_kept {G : mG} {kd : Nat → Nat × Nat} {a : Nat → Nat} {σ : mS} {H H1 : Heap} (h : wW G kd a σ H) (hk : ∀ i, i < mN σ → H1[a i]? = H[a i]?) : wW G kd a σ H1 := ⟨fun i hi => (h.1 i hi).kept (hk i hi), h.2⟩
theorem wW_ofP {G : mG} {kd : Nat → Nat × Nat} {a : Nat → Nat} {σ : mS} {H : Heap} (h : mP G kd a σ H) (h3 : (kd 0).2 ≤ 3) : wW G kd a σ H := ⟨h.1, fun i j _ _ e => h.2.1 i j e, fun i h1 h2 => h.2.2.2 i h1 h2 h3⟩
def lB (G : mG) (cL : ClassId) (a1 a2 : Nat → Nat) (o : Nat) (h0 : Heap) (σ μ : mS) (v : Nat → Int64) (H : Heap) : Prop :=
  (h0.size ≤ H.size ∧ ∀ q : Nat, q < h0.size → H[q]? = h0[q]?) ∧ wW G kdC a1 σ H ∧ wW G kdM a2 μ H ∧ mOut cL o v H ∧
  (∀ i, i < mN σ → h0.size ≤ a1 i) ∧ (∀ i, i < mN μ → h0.size ≤ a2 i) ∧ h0.size ≤ o ∧ (∀ i j, i < mN σ → j < mN μ → a1 i ≠ a2 j) ∧ (∀ i, i < mN σ → a1 i ≠ o) ∧ ∀ j, j < mN μ → a2 j ≠ o
def lZ (cL : ClassId) (s : State) : Prop := vx_Zq Bundle.tN "UNASSIGNED_STACK" Bundle.steD (fun q => s.heap.size ≤ q) s s.heap ∧ vx_Zq Bundle.tN "SUPPRESSED_SENTINEL" Bundle.listD (fun q => s.heap.size ≤ q) s s.heap ∧ (∀ w ∈ mNw, va_Nw w s) ∧ (∀ q ∈ mStr, ∃ a, vk_R RX2 q.1 q.2 a s) ∧ ArrOfT s cL .long ∧ mNcs s
def mCl (idx : Nat) (y : MethodName) (cc : ByteArray) (ml : Nat) (hh : List (Nat × Nat × Nat × Nat)) : Prop := Cond.methodLink RL idx y ∈ wsL_law ∧ Cond.static y ∈ wsL_law ∧ Cond.initialized y.cls ∈ wsL_law ∧ Cond.codeWith y cc ml (some .int) hh ∈ wsL_law
theorem mCl.good {idx ml : Nat} {y : MethodName} {cc : ByteArray} {hh : List (Nat × Nat × Nat × Nat)} (h : mCl idx y cc ml hh) : GoodIn wsL_law (va_wsS RL idx y (mWL y cc ml hh)) := by
  obtain ⟨h1, h2, h3, h4⟩ := h
  intro w hw
  have : w ∈ wsL_law := by
    unfold va_wsS mWL at hw
    simp only [List.cons_append, List.nil_append, List.mem_cons] at hw
    rcases hw with rfl | rfl | rfl | rfl | hw
    · exact h1
    · exact h2
    · exact h3
    · exact h4
    · exact hw
  exact ⟨this, m_good w this⟩
section LW
variable {p : Program} {l : Launch} {e : Env} {R : Room} {s : State} {m : MethodId} {args : Array Value} {below : List Frame} {meth : Method} {c : Code} {H : Heap} {cells slots : Nat} {Q : State → Prop}
variable {cc bytes : ByteArray} {pc nL maxL f2 l2 index n b o : Nat} {ls : Array Slot} {rest st Is : List Value} {G : mG} {cL : ClassId} {a1 a2 : Nat → Nat} {σ μ : mS} {v : Nat → Int64} {y : MethodName} {hh : List (Nat × Nat × Nat × Nat)}
theorem lw_callL {Qk : Int32 → Int64 → mS → Prop} (C : mX p s m c cc nL args RL G) (Z : lZ cL s) (hB : lB G cL a1 a2 o s.heap σ μ v H) (hR : mRok kdC σ) (h0 : 0 < mN σ) (hl : ls.size = nL) (hg : mCl index y bytes maxL hh)
    (hc : ∀ ad : Nat → Nat, Met l y (mWL y bytes maxL hh) (mRb f2 l2 b) (va_Pc (mV ad (some 0) :: (Is ++ [.ref o])) (mPreL G cL ad o σ v)) (va_Qi (fun r (q : mS × Int64) => Qk r q.2 q.1) (mPostL G cL ad o) (mAL ad o)) b (18 * b) (mAL ad o))
    (hd : y.cls ≠ "java/lang/invoke/MethodHandle" ∧ y.cls ≠ "java/lang/invoke/VarHandle" ∧ (parseMethodDescriptor y.desc).map (fun d => d.parameters.length) = some n) (hn : Is.length + 2 = n) (hst : st = (.ref (a1 0) :: (Is ++ [.ref o])).reverse ++ rest) (hRm : f2 + 1 ≤ R.frames ∧ 8 + (maxL + 11) + l2 ≤ R.locals) (hw : ∀ v ∈ rest, v.category = 1) (hw8 : rest.length ≤ 8) (hdg : decode cc pc = .ok (.invokestatic index, 3)) (hf : cells + b ≤ R.cells ∧ slots + 18 * b ≤ R.slots)
    (kk : ∀ (r : Int32) (x : Int64) (σ' : mS) (v' : Nat → Int64) (H1 : Heap) (a1' : Nat → Nat), Qk r x σ' → v' 0 = x → a1' 0 = a1 0 → lB G cL a1' a2 o s.heap σ' μ v' H1 → mN σ ≤ mN σ' → W p l e R s m args below meth c H1 [] (cells + b) (slots + 18 * b) Q (F0 m (pc + 3) ls (.int r :: rest)))
    (hmono : ∀ r x σ', Qk r x σ' → mN σ ≤ mN σ') : W p l e R s m args below meth c H [] cells slots Q (F0 m pc ls st) := by
  obtain ⟨hB0, hW1, hW2, hO, hA1, hA2, hAo, hd1, hd2, hd3⟩ := hB
  obtain ⟨ad, e1, hP, hge⟩ := wW_base hW1 hR
  have hlo : o < H.size := (Array.getElem?_eq_some_iff.mp hO).1
  have hadne : ∀ i, ad i ≠ o := fun i => by
    by_cases hi : i < mN σ
    · rw [e1 i hi]; exact hd2 i hi
    · have := hge i (Nat.not_lt.mp hi); omega
  have hadge : ∀ i, s.heap.size ≤ ad i := fun i => by
    by_cases hi : i < mN σ
    · rw [e1 i hi]; exact hA1 i hi
    · exact Nat.le_trans hB0.1 (hge i (Nat.not_lt.mp hi))
  have hAL : ∀ q, mAL ad o q → s.heap.size ≤ q := fun q h => by
    rcases h with ⟨i, hi⟩ | h
    · rw [← hi]; exact hadge i
    · rw [h]; exact hAo
  have hZ : ∀ U : State, U.heap = H → s.WarmedH U.vm → mZ ad U U.heap := fun U hU hW => by
    obtain ⟨z1, z2, z3, z4, -⟩ := Z
    rw [hU]
    exact ⟨((z1.kept (fun a _ ha => hB0.2 a (Nat.not_le.mp ha))).moved hW.alike).narrow (fun q ⟨i, hi⟩ => by rw [← hi]; exact hadge i), ((z2.kept (fun a _ ha => hB0.2 a (Nat.not_le.mp ha))).moved hW.alike).narrow (fun q ⟨i, hi⟩ => by rw [← hi]; exact hadge i), mNw_warm hW z3, fun q hq => by
      obtain ⟨a, ha⟩ := z4 q hq
      exact ⟨a, ha.warm hW⟩⟩
  have hpre : PreS s H (va_Pc (mV ad (some 0) :: (Is ++ [.ref o])) (mPreL G cL ad o σ v)) (mV ad (some 0) :: (Is ++ [.ref o])) :=
    ⟨mPreL.blind _ _ _ _ _ _ _, fun U hU hW => ⟨rfl, ⟨⟨by rw [hU]; exact hP, va_K.moved hW.alike C.2⟩, hZ U hU hW⟩, arrOfT_moved hW.alike Z.2.2.2.2.1, by rw [hU]; exact hO, hadne, Z.2.2.2.2.2.1.moved hW.alike, Z.2.2.2.2.2.2.1.moved hW.alike, Z.2.2.2.2.2.2.2.moved hW.alike⟩⟩
  have hst2 : st = (mV ad (some 0) :: (Is ++ [.ref o])).reverse ++ rest := by rw [hst, mV_some, e1 0 h0]
  have hlen : (mV ad (some 0) :: (Is ++ [Value.ref o])).length = n := by simp only [List.length_cons, List.length_append, List.length_nil]; omega
  have hrun := vx_runSW (p := p) (l := l) (e := e) (R := R) (s := s) (args := args) (below := below) (meth := meth) (H := H) (locs := []) (cells := cells) (slots := slots) (As := mV ad (some 0) :: (Is ++ [.ref o])) (rest := rest) (g := F0 m pc ls st) C.1 (hc ad) (vx_cwSW n C.1.2.2.2.2 hg.good rfl rfl rfl hd hRm) hpre rfl hlen hl hst2 (lv_room (pc := pc) (ls := ls) (rest := st) (m_wt hw hw8)) hdg hf
  refine va_calli hrun (A0 := fun q => s.heap.size ≤ q) (H0 := s.heap) ⟨hB0.1, fun q h1 _ => hB0.2 q h1, fun _ h => by cases h⟩ (fun q _ h => hAL q h) hAL (fun r u t H1 locs1 ht hvm hw hBu hz1 hk1 hS1 => ?_)
  refine va_forget hS1.2.2 ?_
  obtain ⟨hPw, v', hv', hO'⟩ := hBu
  rw [ht] at hPw hO'
  have hnot : ∀ j, j < mN μ → ¬ mAL ad o (a2 j) := fun j hj h => by
    rcases h with ⟨i, hi⟩ | h
    · by_cases hin : i < mN σ
      · rw [e1 i hin] at hi; exact hd1 i j hin hj hi
      · have h5 := hge i (Nat.not_lt.mp hin); have h6 := wW_lt hW2 hj; omega
    · exact hd3 j hj h
  have hmo := hmono _ _ _ hw
  refine kk r u.2 u.1 v' H1 ad hw hv' (e1 0 h0) ⟨⟨hS1.1, fun q hq => ?_⟩, ⟨hPw.1, fun i j _ _ e => hPw.2.1 i j e, hPw.2.2⟩, wW_kept hW2 (fun j hj => hk1 _ (wW_lt hW2 hj) (hnot j hj)), hO', fun i _ => hadge i, hA2, hAo, fun i j _ hj h => hnot j hj (Or.inl ⟨i, h⟩), fun i _ => hadne i, hd3⟩ hmo
  exact hS1.2.1 q hq (fun h => absurd h (Nat.not_le.mpr hq))
theorem lw_callM {Qi : Int32 → mS → Prop} {ret : Option FieldType} (C : mX p s m c cc nL args RL G) (hB : lB G cL a1 a2 o s.heap σ μ v H) (hR : mRok kdM μ) (h0 : 0 < mN μ) (hl : ls.size = nL) (hg : mCw RL index RX3 y bytes maxL ret)
    (hc : ∀ ad : Nat → Nat, Met l y (mWs y bytes maxL ret) (mRm f2 l2) (va_Pc (mV ad (some 0) :: Is) (mPre G kdM ad μ)) (va_Qi Qi (mPost G kdM ad) (mA ad)) 0 0 (mA ad))
    (hd : y.cls = RX3 ∧ y.cls ≠ "java/lang/invoke/MethodHandle" ∧ y.cls ≠ "java/lang/invoke/VarHandle" ∧ (parseMethodDescriptor y.desc).map (fun d => d.parameters.length) = some n) (hn : Is.length = n) (hst : st = Is.reverse ++ .ref (a2 0) :: rest) (hRm : f2 + 1 ≤ R.frames ∧ 8 + (maxL + 11) + l2 ≤ R.locals) (hw : ∀ v ∈ rest, v.category = 1) (hw8 : rest.length ≤ 8) (hdg : decode cc pc = .ok (.invokevirtual index, 3)) (hf : cells ≤ R.cells ∧ slots ≤ R.slots)
    (hmono : ∀ r μ', Qi r μ' → mN μ' = mN μ)
    (kk : ∀ (r : Int32) (μ' : mS) (H1 : Heap) (a2' : Nat → Nat), Qi r μ' → a2' 0 = a2 0 → lB G cL a1 a2' o s.heap σ μ' v H1 → W p l e R s m args below meth c H1 [] cells slots Q (F0 m (pc + 3) ls (.int r :: rest))) : W p l e R s m args below meth c H [] cells slots Q (F0 m pc ls st) := by
  obtain ⟨hB0, hW1, hW2, hO, hA1, hA2, hAo, hd1, hd2, hd3⟩ := hB
  obtain ⟨ad, e1, hP, hge⟩ := wW_base hW2 hR
  have hlo : o < H.size := (Array.getElem?_eq_some_iff.mp hO).1
  have hadge : ∀ i, s.heap.size ≤ ad i := fun i => by
    by_cases hi : i < mN μ
    · rw [e1 i hi]; exact hA2 i hi
    · exact Nat.le_trans hB0.1 (hge i (Nat.not_lt.mp hi))
  have hAL : ∀ q, mA ad q → s.heap.size ≤ q := fun q ⟨i, hi⟩ => by rw [← hi]; exact hadge i
  have hadne : ∀ i, ad i ≠ o := fun i => by
    by_cases hi : i < mN μ
    · rw [e1 i hi]; exact hd3 i hi
    · have := hge i (Nat.not_lt.mp hi); omega
  have hM : mM G kdM ad s μ H [] := ⟨hP, ⟨hB0.1, fun q h1 _ => hB0.2 q h1, fun _ h => by cases h⟩⟩
  have hst2 : st = Is.reverse ++ mV ad (some 0) :: rest := by rw [hst, mV_some, e1 0 h0]
  have hrun := va_runV (p := p) (l := l) (e := e) (R := R) (s := s) (args := args) (below := below) (meth := meth) (H := H) (locs := []) (cells := cells) (slots := slots) (As := Is) (rest := rest) (g := F0 m pc ls st) C.1 (hc ad) (cwV n C.1.2.2.2.2 hg.good rfl rfl rfl hd hRm) (mr_preV C hM (mO_fix hM (n := 3) rfl (by decide) (by decide) (by decide)) rfl Is) rfl hn hl hst2 (lv_room (pc := pc) (ls := ls) (rest := st) (m_wt hw hw8)) hdg hf
  refine va_calli hrun (A0 := fun q => s.heap.size ≤ q) (H0 := s.heap) ⟨hB0.1, fun q h1 _ => hB0.2 q h1, fun _ h => by cases h⟩ (fun q _ h => hAL q h) hAL (fun r u t H1 locs1 ht hvm hw hBu hz1 hk1 hS1 => ?_)
  refine va_forget hS1.2.2 ?_
  have hBu : mP G kdM ad u H1 := by rw [← ht]; exact hBu
  have hnot : ∀ j, j < mN σ → ¬ mA ad (a1 j) := fun j hj ⟨i, hi⟩ => by
    by_cases hin : i < mN μ
    · rw [e1 i hin] at hi; exact hd1 j i hj hin hi.symm
    · have h5 := hge i (Nat.not_lt.mp hin); have h6 := wW_lt hW1 hj; omega
  refine kk r u H1 ad hw (e1 0 h0) ⟨⟨hS1.1, fun q hq => hS1.2.1 q hq (fun h => absurd h (Nat.not_le.mpr hq))⟩, wW_kept hW1 (fun j hj => hk1 _ (wW_lt hW1 hj) (hnot j hj)), wW_ofP hBu (by decide), ?_, hA1, fun i _ => hadge i, hAo, fun i j hi _ h => hnot i hi ⟨j, h.symm⟩, hd2, fun j _ => hadne j⟩
  show H1[o]? = _
  rw [hk1 o hlo (fun ⟨i, hi⟩ => hadne i hi)]
  exact hO
theorem lw_callC {Qi : Int32 → mS → Prop} {ret : Option FieldType} (C : mX p s m c cc nL args RL G) (hB : lB G cL a1 a2 o s.heap σ μ v H) (hR : mRok kdC σ) (h0 : 0 < mN σ) (hl : ls.size = nL) (hg : mCw RL index RX2 y bytes maxL ret)
    (hc : ∀ ad : Nat → Nat, Met l y (mWs y bytes maxL ret) (mRm f2 l2) (va_Pc (mV ad (some 0) :: Is) (mPre G kdC ad σ)) (va_Qi Qi (mPost G kdC ad) (mA ad)) 0 0 (mA ad))
    (hd : y.cls = RX2 ∧ y.cls ≠ "java/lang/invoke/MethodHandle" ∧ y.cls ≠ "java/lang/invoke/VarHandle" ∧ (parseMethodDescriptor y.desc).map (fun d => d.parameters.length) = some n) (hn : Is.length = n) (hst : st = Is.reverse ++ .ref (a1 0) :: rest) (hRm : f2 + 1 ≤ R.frames ∧ 8 + (maxL + 11) + l2 ≤ R.locals) (hw : ∀ v ∈ rest, v.category = 1) (hw8 : rest.length ≤ 8) (hdg : decode cc pc = .ok (.invokevirtual index, 3)) (hf : cells ≤ R.cells ∧ slots ≤ R.slots)
    (kk : ∀ (r : Int32) (σ' : mS) (H1 : Heap) (a1' : Nat → Nat), Qi r σ' → a1' 0 = a1 0 → lB G cL a1' a2 o s.heap σ' μ v H1 → W p l e R s m args below meth c H1 [] cells slots Q (F0 m (pc + 3) ls (.int r :: rest))) : W p l e R s m args below meth c H [] cells slots Q (F0 m pc ls st) := by
  obtain ⟨hB0, hW1, hW2, hO, hA1, hA2, hAo, hd1, hd2, hd3⟩ := hB
  obtain ⟨ad, e1, hP, hge⟩ := wW_base hW1 hR
  have hlo : o < H.size := (Array.getElem?_eq_some_iff.mp hO).1
  have hadge : ∀ i, s.heap.size ≤ ad i := fun i => by
    by_cases hi : i < mN σ
    · rw [e1 i hi]; exact hA1 i hi
    · exact Nat.le_trans hB0.1 (hge i (Nat.not_lt.mp hi))
  have hAL : ∀ q, mA ad q → s.heap.size ≤ q := fun q ⟨i, hi⟩ => by rw [← hi]; exact hadge i
  have hadne : ∀ i, ad i ≠ o := fun i => by
    by_cases hi : i < mN σ
    · rw [e1 i hi]; exact hd2 i hi
    · have := hge i (Nat.not_lt.mp hi); omega
  have hM : mM G kdC ad s σ H [] := ⟨hP, ⟨hB0.1, fun q h1 _ => hB0.2 q h1, fun _ h => by cases h⟩⟩
  have hst2 : st = Is.reverse ++ mV ad (some 0) :: rest := by rw [hst, mV_some, e1 0 h0]
  have hrun := va_runV (p := p) (l := l) (e := e) (R := R) (s := s) (args := args) (below := below) (meth := meth) (H := H) (locs := []) (cells := cells) (slots := slots) (As := Is) (rest := rest) (g := F0 m pc ls st) C.1 (hc ad) (cwV n C.1.2.2.2.2 hg.good rfl rfl rfl hd hRm) (mr_preV C hM (mO_fix hM (n := 2) rfl (by decide) (by decide) (by decide)) rfl Is) rfl hn hl hst2 (lv_room (pc := pc) (ls := ls) (rest := st) (m_wt hw hw8)) hdg hf
  refine va_calli hrun (A0 := fun q => s.heap.size ≤ q) (H0 := s.heap) ⟨hB0.1, fun q h1 _ => hB0.2 q h1, fun _ h => by cases h⟩ (fun q _ h => hAL q h) hAL (fun r u t H1 locs1 ht hvm hw hBu hz1 hk1 hS1 => ?_)
  refine va_forget hS1.2.2 ?_
  have hBu : mP G kdC ad u H1 := by rw [← ht]; exact hBu
  have hnot : ∀ j, j < mN μ → ¬ mA ad (a2 j) := fun j hj ⟨i, hi⟩ => by
    by_cases hin : i < mN σ
    · rw [e1 i hin] at hi; exact hd1 i j hin hj hi
    · have h5 := hge i (Nat.not_lt.mp hin); have h6 := wW_lt hW2 hj; omega
  refine kk r u H1 ad hw (e1 0 h0) ⟨⟨hS1.1, fun q hq => hS1.2.1 q hq (fun h => absurd h (Nat.not_le.mpr hq))⟩, wW_ofP hBu (by decide), wW_kept hW2 (fun j hj => hk1 _ (wW_lt hW2 hj) (hnot j hj)), ?_, fun i _ => hadge i, hA2, hAo, fun i j _ hj h => hnot j hj ⟨i, h⟩, fun i _ => hadne i, hd3⟩
  show H1[o]? = _
  rw [hk1 o hlo (fun ⟨i, hi⟩ => hadne i hi)]
  exact hO
end LW
end
