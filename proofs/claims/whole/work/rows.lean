section
-- ===== PART A: goes FIRST, ahead of the names: the tables' words, and 'selects' of the private methods out of them =====
/-- a private method of a class that the tables say can be made, by its rows of tables_1 -/
def lw_okq (q : MethodName × Nat) : Prop := (q.1.cls ≠ "java/lang/invoke/MethodHandle" ∧ q.1.cls ≠ "java/lang/invoke/VarHandle") ∧ Cond.instantiable q.1.cls q.2 ∈ tables_1 ∧ Cond.privateMethod q.1 ∈ tables_1 ∧ Cond.instanceMethod q.1 ∈ tables_1
theorem lw_p0 : lw_okq (⟨"GuestNoes$Reader", "append", "(I)Z"⟩, 5) := ⟨⟨by decide +kernel, by decide +kernel⟩, List.mem_of_getElem? (i := 26) (by decide +kernel), List.mem_of_getElem? (i := 315) (by decide +kernel), List.mem_of_getElem? (i := 316) (by decide +kernel)⟩
theorem lw_p1 : lw_okq (⟨"GuestNoes$Reader", "readInto", "(LGuestNoes$Table;)V"⟩, 5) := ⟨⟨by decide +kernel, by decide +kernel⟩, List.mem_of_getElem? (i := 26) (by decide +kernel), List.mem_of_getElem? (i := 324) (by decide +kernel), List.mem_of_getElem? (i := 325) (by decide +kernel)⟩
theorem lw_p2 : lw_okq (⟨"GuestNoes$Table", "clear", "()V"⟩, 11) := ⟨⟨by decide +kernel, by decide +kernel⟩, List.mem_of_getElem? (i := 215) (by decide +kernel), List.mem_of_getElem? (i := 328) (by decide +kernel), List.mem_of_getElem? (i := 329) (by decide +kernel)⟩
theorem lw_p3 : lw_okq (⟨"GuestNoes$Reader", "isMoreToRead", "()Z"⟩, 5) := ⟨⟨by decide +kernel, by decide +kernel⟩, List.mem_of_getElem? (i := 26) (by decide +kernel), List.mem_of_getElem? (i := 332) (by decide +kernel), List.mem_of_getElem? (i := 333) (by decide +kernel)⟩
theorem lw_p4 : lw_okq (⟨"GuestNoes$Reader", "nextWord", "()I"⟩, 5) := ⟨⟨by decide +kernel, by decide +kernel⟩, List.mem_of_getElem? (i := 26) (by decide +kernel), List.mem_of_getElem? (i := 336) (by decide +kernel), List.mem_of_getElem? (i := 337) (by decide +kernel)⟩
theorem lw_p5 : lw_okq (⟨"GuestNoes$Reader", "letterAt", "(I)I"⟩, 5) := ⟨⟨by decide +kernel, by decide +kernel⟩, List.mem_of_getElem? (i := 26) (by decide +kernel), List.mem_of_getElem? (i := 340) (by decide +kernel), List.mem_of_getElem? (i := 341) (by decide +kernel)⟩
theorem lw_p6 : lw_okq (⟨"GuestNoes$Reader", "readClause", "(LGuestNoes$Table;)V"⟩, 5) := ⟨⟨by decide +kernel, by decide +kernel⟩, List.mem_of_getElem? (i := 26) (by decide +kernel), List.mem_of_getElem? (i := 344) (by decide +kernel), List.mem_of_getElem? (i := 345) (by decide +kernel)⟩
theorem lw_p7 : lw_okq (⟨"GuestNoes$Reader", "readTruths", "(LGuestNoes$Table;)V"⟩, 5) := ⟨⟨by decide +kernel, by decide +kernel⟩, List.mem_of_getElem? (i := 26) (by decide +kernel), List.mem_of_getElem? (i := 348) (by decide +kernel), List.mem_of_getElem? (i := 349) (by decide +kernel)⟩
theorem lw_p8 : lw_okq (⟨"GuestNoes$Reader", "readNumber", "(I)I"⟩, 5) := ⟨⟨by decide +kernel, by decide +kernel⟩, List.mem_of_getElem? (i := 26) (by decide +kernel), List.mem_of_getElem? (i := 352) (by decide +kernel), List.mem_of_getElem? (i := 353) (by decide +kernel)⟩
theorem lw_p9 : lw_okq (⟨"GuestNoes$Reader", "blame", "(II)V"⟩, 5) := ⟨⟨by decide +kernel, by decide +kernel⟩, List.mem_of_getElem? (i := 26) (by decide +kernel), List.mem_of_getElem? (i := 359) (by decide +kernel), List.mem_of_getElem? (i := 360) (by decide +kernel)⟩
theorem lw_p10 : lw_okq (⟨"GuestNoes$Reader", "readEndOfClause", "()V"⟩, 5) := ⟨⟨by decide +kernel, by decide +kernel⟩, List.mem_of_getElem? (i := 26) (by decide +kernel), List.mem_of_getElem? (i := 366) (by decide +kernel), List.mem_of_getElem? (i := 367) (by decide +kernel)⟩
theorem lw_p11 : lw_okq (⟨"GuestNoes$Reader", "readGuest", "(LGuestNoes$Table;)V"⟩, 5) := ⟨⟨by decide +kernel, by decide +kernel⟩, List.mem_of_getElem? (i := 26) (by decide +kernel), List.mem_of_getElem? (i := 370) (by decide +kernel), List.mem_of_getElem? (i := 371) (by decide +kernel)⟩
theorem lw_p12 : lw_okq (⟨"GuestNoes$Table", "addGuest", "(I)V"⟩, 11) := ⟨⟨by decide +kernel, by decide +kernel⟩, List.mem_of_getElem? (i := 215) (by decide +kernel), List.mem_of_getElem? (i := 374) (by decide +kernel), List.mem_of_getElem? (i := 375) (by decide +kernel)⟩
theorem lw_p13 : lw_okq (⟨"GuestNoes$Table", "addClaimToLastGuest", "(I)V"⟩, 11) := ⟨⟨by decide +kernel, by decide +kernel⟩, List.mem_of_getElem? (i := 215) (by decide +kernel), List.mem_of_getElem? (i := 378) (by decide +kernel), List.mem_of_getElem? (i := 379) (by decide +kernel)⟩
theorem lw_p14 : lw_okq (⟨"GuestNoes$Table", "hasGuest", "(I)Z"⟩, 11) := ⟨⟨by decide +kernel, by decide +kernel⟩, List.mem_of_getElem? (i := 215) (by decide +kernel), List.mem_of_getElem? (i := 382) (by decide +kernel), List.mem_of_getElem? (i := 383) (by decide +kernel)⟩
theorem lw_p15 : lw_okq (⟨"GuestNoes$Reader", "readHost", "(LGuestNoes$Table;)V"⟩, 5) := ⟨⟨by decide +kernel, by decide +kernel⟩, List.mem_of_getElem? (i := 26) (by decide +kernel), List.mem_of_getElem? (i := 386) (by decide +kernel), List.mem_of_getElem? (i := 387) (by decide +kernel)⟩
def lw_privs_1 : List (MethodName × Nat) := [(⟨"GuestNoes$Reader", "append", "(I)Z"⟩, 5), (⟨"GuestNoes$Reader", "readInto", "(LGuestNoes$Table;)V"⟩, 5), (⟨"GuestNoes$Table", "clear", "()V"⟩, 11), (⟨"GuestNoes$Reader", "isMoreToRead", "()Z"⟩, 5), (⟨"GuestNoes$Reader", "nextWord", "()I"⟩, 5), (⟨"GuestNoes$Reader", "letterAt", "(I)I"⟩, 5), (⟨"GuestNoes$Reader", "readClause", "(LGuestNoes$Table;)V"⟩, 5), (⟨"GuestNoes$Reader", "readTruths", "(LGuestNoes$Table;)V"⟩, 5), (⟨"GuestNoes$Reader", "readNumber", "(I)I"⟩, 5), (⟨"GuestNoes$Reader", "blame", "(II)V"⟩, 5), (⟨"GuestNoes$Reader", "readEndOfClause", "()V"⟩, 5), (⟨"GuestNoes$Reader", "readGuest", "(LGuestNoes$Table;)V"⟩, 5), (⟨"GuestNoes$Table", "addGuest", "(I)V"⟩, 11), (⟨"GuestNoes$Table", "addClaimToLastGuest", "(I)V"⟩, 11), (⟨"GuestNoes$Table", "hasGuest", "(I)Z"⟩, 11), (⟨"GuestNoes$Reader", "readHost", "(LGuestNoes$Table;)V"⟩, 5)]
theorem lw_r1 : ∀ q ∈ lw_privs_1, lw_okq q := List.forall_mem_cons.mpr ⟨lw_p0, List.forall_mem_cons.mpr ⟨lw_p1, List.forall_mem_cons.mpr ⟨lw_p2, List.forall_mem_cons.mpr ⟨lw_p3, List.forall_mem_cons.mpr ⟨lw_p4, List.forall_mem_cons.mpr ⟨lw_p5, List.forall_mem_cons.mpr ⟨lw_p6, List.forall_mem_cons.mpr ⟨lw_p7, List.forall_mem_cons.mpr ⟨lw_p8, List.forall_mem_cons.mpr ⟨lw_p9, List.forall_mem_cons.mpr ⟨lw_p10, List.forall_mem_cons.mpr ⟨lw_p11, List.forall_mem_cons.mpr ⟨lw_p12, List.forall_mem_cons.mpr ⟨lw_p13, List.forall_mem_cons.mpr ⟨lw_p14, List.forall_mem_cons.mpr ⟨lw_p15, fun _ h => absurd h List.not_mem_nil⟩⟩⟩⟩⟩⟩⟩⟩⟩⟩⟩⟩⟩⟩⟩⟩
theorem lw_p16 : lw_okq (⟨"GuestNoes$Table", "addHost", "(II)V"⟩, 11) := ⟨⟨by decide +kernel, by decide +kernel⟩, List.mem_of_getElem? (i := 215) (by decide +kernel), List.mem_of_getElem? (i := 390) (by decide +kernel), List.mem_of_getElem? (i := 391) (by decide +kernel)⟩
theorem lw_p17 : lw_okq (⟨"GuestNoes$Night", "begin", "(LGuestNoes$Table;)V"⟩, 1) := ⟨⟨by decide +kernel, by decide +kernel⟩, List.mem_of_getElem? (i := 52) (by decide +kernel), List.mem_of_getElem? (i := 394) (by decide +kernel), List.mem_of_getElem? (i := 395) (by decide +kernel)⟩
theorem lw_p18 : lw_okq (⟨"GuestNoes$Night", "seatAll", "(LGuestNoes$Table;)V"⟩, 1) := ⟨⟨by decide +kernel, by decide +kernel⟩, List.mem_of_getElem? (i := 52) (by decide +kernel), List.mem_of_getElem? (i := 398) (by decide +kernel), List.mem_of_getElem? (i := 399) (by decide +kernel)⟩
theorem lw_p19 : lw_okq (⟨"GuestNoes$Table", "noes", "(I)I"⟩, 11) := ⟨⟨by decide +kernel, by decide +kernel⟩, List.mem_of_getElem? (i := 215) (by decide +kernel), List.mem_of_getElem? (i := 402) (by decide +kernel), List.mem_of_getElem? (i := 403) (by decide +kernel)⟩
theorem lw_p20 : lw_okq (⟨"GuestNoes$Table", "hasHost", "(I)Z"⟩, 11) := ⟨⟨by decide +kernel, by decide +kernel⟩, List.mem_of_getElem? (i := 215) (by decide +kernel), List.mem_of_getElem? (i := 406) (by decide +kernel), List.mem_of_getElem? (i := 407) (by decide +kernel)⟩
theorem lw_p21 : lw_okq (⟨"GuestNoes$Past", "forget", "()V"⟩, 3) := ⟨⟨by decide +kernel, by decide +kernel⟩, List.mem_of_getElem? (i := 64) (by decide +kernel), List.mem_of_getElem? (i := 410) (by decide +kernel), List.mem_of_getElem? (i := 411) (by decide +kernel)⟩
theorem lw_p22 : lw_okq (⟨"GuestNoes$Night", "hours", "()I"⟩, 1) := ⟨⟨by decide +kernel, by decide +kernel⟩, List.mem_of_getElem? (i := 52) (by decide +kernel), List.mem_of_getElem? (i := 422) (by decide +kernel), List.mem_of_getElem? (i := 423) (by decide +kernel)⟩
theorem lw_p23 : lw_okq (⟨"GuestNoes$Night", "evenings", "()I"⟩, 1) := ⟨⟨by decide +kernel, by decide +kernel⟩, List.mem_of_getElem? (i := 52) (by decide +kernel), List.mem_of_getElem? (i := 426) (by decide +kernel), List.mem_of_getElem? (i := 427) (by decide +kernel)⟩
theorem lw_p24 : lw_okq (⟨"GuestNoes$Night", "glad", "()I"⟩, 1) := ⟨⟨by decide +kernel, by decide +kernel⟩, List.mem_of_getElem? (i := 52) (by decide +kernel), List.mem_of_getElem? (i := 430) (by decide +kernel), List.mem_of_getElem? (i := 431) (by decide +kernel)⟩
theorem lw_p25 : lw_okq (⟨"GuestNoes$Night", "insults", "()I"⟩, 1) := ⟨⟨by decide +kernel, by decide +kernel⟩, List.mem_of_getElem? (i := 52) (by decide +kernel), List.mem_of_getElem? (i := 434) (by decide +kernel), List.mem_of_getElem? (i := 435) (by decide +kernel)⟩
theorem lw_p26 : lw_okq (⟨"GuestNoes$Night", "whoIsUp", "()I"⟩, 1) := ⟨⟨by decide +kernel, by decide +kernel⟩, List.mem_of_getElem? (i := 52) (by decide +kernel), List.mem_of_getElem? (i := 438) (by decide +kernel), List.mem_of_getElem? (i := 439) (by decide +kernel)⟩
theorem lw_p27 : lw_okq (⟨"GuestNoes$Night", "whoWasTold", "(LGuestNoes$Table;)I"⟩, 1) := ⟨⟨by decide +kernel, by decide +kernel⟩, List.mem_of_getElem? (i := 52) (by decide +kernel), List.mem_of_getElem? (i := 442) (by decide +kernel), List.mem_of_getElem? (i := 443) (by decide +kernel)⟩
theorem lw_p28 : lw_okq (⟨"GuestNoes$Night", "toldBy", "(I)I"⟩, 1) := ⟨⟨by decide +kernel, by decide +kernel⟩, List.mem_of_getElem? (i := 52) (by decide +kernel), List.mem_of_getElem? (i := 446) (by decide +kernel), List.mem_of_getElem? (i := 447) (by decide +kernel)⟩
theorem lw_p29 : lw_okq (⟨"GuestNoes$Night", "whoWalks", "()I"⟩, 1) := ⟨⟨by decide +kernel, by decide +kernel⟩, List.mem_of_getElem? (i := 52) (by decide +kernel), List.mem_of_getElem? (i := 453) (by decide +kernel), List.mem_of_getElem? (i := 454) (by decide +kernel)⟩
theorem lw_p30 : lw_okq (⟨"GuestNoes$Table", "whoIsRight", "()I"⟩, 11) := ⟨⟨by decide +kernel, by decide +kernel⟩, List.mem_of_getElem? (i := 215) (by decide +kernel), List.mem_of_getElem? (i := 457) (by decide +kernel), List.mem_of_getElem? (i := 458) (by decide +kernel)⟩
theorem lw_p31 : lw_okq (⟨"GuestNoes$Table", "wrongAt", "(I)I"⟩, 11) := ⟨⟨by decide +kernel, by decide +kernel⟩, List.mem_of_getElem? (i := 215) (by decide +kernel), List.mem_of_getElem? (i := 461) (by decide +kernel), List.mem_of_getElem? (i := 462) (by decide +kernel)⟩
def lw_privs_2 : List (MethodName × Nat) := [(⟨"GuestNoes$Table", "addHost", "(II)V"⟩, 11), (⟨"GuestNoes$Night", "begin", "(LGuestNoes$Table;)V"⟩, 1), (⟨"GuestNoes$Night", "seatAll", "(LGuestNoes$Table;)V"⟩, 1), (⟨"GuestNoes$Table", "noes", "(I)I"⟩, 11), (⟨"GuestNoes$Table", "hasHost", "(I)Z"⟩, 11), (⟨"GuestNoes$Past", "forget", "()V"⟩, 3), (⟨"GuestNoes$Night", "hours", "()I"⟩, 1), (⟨"GuestNoes$Night", "evenings", "()I"⟩, 1), (⟨"GuestNoes$Night", "glad", "()I"⟩, 1), (⟨"GuestNoes$Night", "insults", "()I"⟩, 1), (⟨"GuestNoes$Night", "whoIsUp", "()I"⟩, 1), (⟨"GuestNoes$Night", "whoWasTold", "(LGuestNoes$Table;)I"⟩, 1), (⟨"GuestNoes$Night", "toldBy", "(I)I"⟩, 1), (⟨"GuestNoes$Night", "whoWalks", "()I"⟩, 1), (⟨"GuestNoes$Table", "whoIsRight", "()I"⟩, 11), (⟨"GuestNoes$Table", "wrongAt", "(I)I"⟩, 11)]
theorem lw_r2 : ∀ q ∈ lw_privs_2, lw_okq q := List.forall_mem_cons.mpr ⟨lw_p16, List.forall_mem_cons.mpr ⟨lw_p17, List.forall_mem_cons.mpr ⟨lw_p18, List.forall_mem_cons.mpr ⟨lw_p19, List.forall_mem_cons.mpr ⟨lw_p20, List.forall_mem_cons.mpr ⟨lw_p21, List.forall_mem_cons.mpr ⟨lw_p22, List.forall_mem_cons.mpr ⟨lw_p23, List.forall_mem_cons.mpr ⟨lw_p24, List.forall_mem_cons.mpr ⟨lw_p25, List.forall_mem_cons.mpr ⟨lw_p26, List.forall_mem_cons.mpr ⟨lw_p27, List.forall_mem_cons.mpr ⟨lw_p28, List.forall_mem_cons.mpr ⟨lw_p29, List.forall_mem_cons.mpr ⟨lw_p30, List.forall_mem_cons.mpr ⟨lw_p31, fun _ h => absurd h List.not_mem_nil⟩⟩⟩⟩⟩⟩⟩⟩⟩⟩⟩⟩⟩⟩⟩⟩
theorem lw_p32 : lw_okq (⟨"GuestNoes$Table", "claimCount", "(I)I"⟩, 11) := ⟨⟨by decide +kernel, by decide +kernel⟩, List.mem_of_getElem? (i := 215) (by decide +kernel), List.mem_of_getElem? (i := 465) (by decide +kernel), List.mem_of_getElem? (i := 466) (by decide +kernel)⟩
theorem lw_p33 : lw_okq (⟨"GuestNoes$Table", "topic", "(II)I"⟩, 11) := ⟨⟨by decide +kernel, by decide +kernel⟩, List.mem_of_getElem? (i := 215) (by decide +kernel), List.mem_of_getElem? (i := 469) (by decide +kernel), List.mem_of_getElem? (i := 470) (by decide +kernel)⟩
theorem lw_p34 : lw_okq (⟨"GuestNoes$Table", "hasClaim", "(II)Z"⟩, 11) := ⟨⟨by decide +kernel, by decide +kernel⟩, List.mem_of_getElem? (i := 215) (by decide +kernel), List.mem_of_getElem? (i := 473) (by decide +kernel), List.mem_of_getElem? (i := 474) (by decide +kernel)⟩
theorem lw_p35 : lw_okq (⟨"GuestNoes$Table", "isTrue", "(I)Z"⟩, 11) := ⟨⟨by decide +kernel, by decide +kernel⟩, List.mem_of_getElem? (i := 215) (by decide +kernel), List.mem_of_getElem? (i := 477) (by decide +kernel), List.mem_of_getElem? (i := 478) (by decide +kernel)⟩
theorem lw_p36 : lw_okq (⟨"GuestNoes$Table", "topicsOfNobody", "()I"⟩, 11) := ⟨⟨by decide +kernel, by decide +kernel⟩, List.mem_of_getElem? (i := 215) (by decide +kernel), List.mem_of_getElem? (i := 481) (by decide +kernel), List.mem_of_getElem? (i := 482) (by decide +kernel)⟩
theorem lw_p37 : lw_okq (⟨"GuestNoes$Table", "topicsOf", "(I)I"⟩, 11) := ⟨⟨by decide +kernel, by decide +kernel⟩, List.mem_of_getElem? (i := 215) (by decide +kernel), List.mem_of_getElem? (i := 485) (by decide +kernel), List.mem_of_getElem? (i := 486) (by decide +kernel)⟩
theorem lw_p38 : lw_okq (⟨"GuestNoes$Night", "whoWasToldMeanly", "(LGuestNoes$Table;)I"⟩, 1) := ⟨⟨by decide +kernel, by decide +kernel⟩, List.mem_of_getElem? (i := 52) (by decide +kernel), List.mem_of_getElem? (i := 489) (by decide +kernel), List.mem_of_getElem? (i := 490) (by decide +kernel)⟩
theorem lw_p39 : lw_okq (⟨"GuestNoes$Night", "joyWhenTold", "(LGuestNoes$Table;I)I"⟩, 1) := ⟨⟨by decide +kernel, by decide +kernel⟩, List.mem_of_getElem? (i := 52) (by decide +kernel), List.mem_of_getElem? (i := 493) (by decide +kernel), List.mem_of_getElem? (i := 494) (by decide +kernel)⟩
theorem lw_p40 : lw_okq (⟨"GuestNoes$Night", "toldAt", "(I)I"⟩, 1) := ⟨⟨by decide +kernel, by decide +kernel⟩, List.mem_of_getElem? (i := 52) (by decide +kernel), List.mem_of_getElem? (i := 497) (by decide +kernel), List.mem_of_getElem? (i := 498) (by decide +kernel)⟩
theorem lw_p41 : lw_okq (⟨"GuestNoes$Table", "joyOf", "(III)I"⟩, 11) := ⟨⟨by decide +kernel, by decide +kernel⟩, List.mem_of_getElem? (i := 215) (by decide +kernel), List.mem_of_getElem? (i := 501) (by decide +kernel), List.mem_of_getElem? (i := 502) (by decide +kernel)⟩
theorem lw_p42 : lw_okq (⟨"GuestNoes$Table", "joyWithNoneAhead", "(III)I"⟩, 11) := ⟨⟨by decide +kernel, by decide +kernel⟩, List.mem_of_getElem? (i := 215) (by decide +kernel), List.mem_of_getElem? (i := 505) (by decide +kernel), List.mem_of_getElem? (i := 506) (by decide +kernel)⟩
theorem lw_p43 : lw_okq (⟨"GuestNoes$Table", "mostJoyFrom", "(III)I"⟩, 11) := ⟨⟨by decide +kernel, by decide +kernel⟩, List.mem_of_getElem? (i := 215) (by decide +kernel), List.mem_of_getElem? (i := 515) (by decide +kernel), List.mem_of_getElem? (i := 516) (by decide +kernel)⟩
theorem lw_p44 : lw_okq (⟨"GuestNoes$Night", "leastPleased", "(LGuestNoes$Table;)I"⟩, 1) := ⟨⟨by decide +kernel, by decide +kernel⟩, List.mem_of_getElem? (i := 52) (by decide +kernel), List.mem_of_getElem? (i := 520) (by decide +kernel), List.mem_of_getElem? (i := 521) (by decide +kernel)⟩
theorem lw_p45 : lw_okq (⟨"GuestNoes$Table", "pride", "(I)I"⟩, 11) := ⟨⟨by decide +kernel, by decide +kernel⟩, List.mem_of_getElem? (i := 215) (by decide +kernel), List.mem_of_getElem? (i := 530) (by decide +kernel), List.mem_of_getElem? (i := 531) (by decide +kernel)⟩
theorem lw_p46 : lw_okq (⟨"GuestNoes$Night", "said", "(I)I"⟩, 1) := ⟨⟨by decide +kernel, by decide +kernel⟩, List.mem_of_getElem? (i := 52) (by decide +kernel), List.mem_of_getElem? (i := 535) (by decide +kernel), List.mem_of_getElem? (i := 536) (by decide +kernel)⟩
theorem lw_p47 : lw_okq (⟨"GuestNoes$Table", "bold", "(II)I"⟩, 11) := ⟨⟨by decide +kernel, by decide +kernel⟩, List.mem_of_getElem? (i := 215) (by decide +kernel), List.mem_of_getElem? (i := 550) (by decide +kernel), List.mem_of_getElem? (i := 551) (by decide +kernel)⟩
def lw_privs_3 : List (MethodName × Nat) := [(⟨"GuestNoes$Table", "claimCount", "(I)I"⟩, 11), (⟨"GuestNoes$Table", "topic", "(II)I"⟩, 11), (⟨"GuestNoes$Table", "hasClaim", "(II)Z"⟩, 11), (⟨"GuestNoes$Table", "isTrue", "(I)Z"⟩, 11), (⟨"GuestNoes$Table", "topicsOfNobody", "()I"⟩, 11), (⟨"GuestNoes$Table", "topicsOf", "(I)I"⟩, 11), (⟨"GuestNoes$Night", "whoWasToldMeanly", "(LGuestNoes$Table;)I"⟩, 1), (⟨"GuestNoes$Night", "joyWhenTold", "(LGuestNoes$Table;I)I"⟩, 1), (⟨"GuestNoes$Night", "toldAt", "(I)I"⟩, 1), (⟨"GuestNoes$Table", "joyOf", "(III)I"⟩, 11), (⟨"GuestNoes$Table", "joyWithNoneAhead", "(III)I"⟩, 11), (⟨"GuestNoes$Table", "mostJoyFrom", "(III)I"⟩, 11), (⟨"GuestNoes$Night", "leastPleased", "(LGuestNoes$Table;)I"⟩, 1), (⟨"GuestNoes$Table", "pride", "(I)I"⟩, 11), (⟨"GuestNoes$Night", "said", "(I)I"⟩, 1), (⟨"GuestNoes$Table", "bold", "(II)I"⟩, 11)]
theorem lw_r3 : ∀ q ∈ lw_privs_3, lw_okq q := List.forall_mem_cons.mpr ⟨lw_p32, List.forall_mem_cons.mpr ⟨lw_p33, List.forall_mem_cons.mpr ⟨lw_p34, List.forall_mem_cons.mpr ⟨lw_p35, List.forall_mem_cons.mpr ⟨lw_p36, List.forall_mem_cons.mpr ⟨lw_p37, List.forall_mem_cons.mpr ⟨lw_p38, List.forall_mem_cons.mpr ⟨lw_p39, List.forall_mem_cons.mpr ⟨lw_p40, List.forall_mem_cons.mpr ⟨lw_p41, List.forall_mem_cons.mpr ⟨lw_p42, List.forall_mem_cons.mpr ⟨lw_p43, List.forall_mem_cons.mpr ⟨lw_p44, List.forall_mem_cons.mpr ⟨lw_p45, List.forall_mem_cons.mpr ⟨lw_p46, List.forall_mem_cons.mpr ⟨lw_p47, fun _ h => absurd h List.not_mem_nil⟩⟩⟩⟩⟩⟩⟩⟩⟩⟩⟩⟩⟩⟩⟩⟩
theorem lw_p48 : lw_okq (⟨"GuestNoes$Table", "kind", "(I)I"⟩, 11) := ⟨⟨by decide +kernel, by decide +kernel⟩, List.mem_of_getElem? (i := 215) (by decide +kernel), List.mem_of_getElem? (i := 559) (by decide +kernel), List.mem_of_getElem? (i := 560) (by decide +kernel)⟩
theorem lw_p49 : lw_okq (⟨"GuestNoes$Night", "noesLeft", "(I)I"⟩, 1) := ⟨⟨by decide +kernel, by decide +kernel⟩, List.mem_of_getElem? (i := 52) (by decide +kernel), List.mem_of_getElem? (i := 564) (by decide +kernel), List.mem_of_getElem? (i := 565) (by decide +kernel)⟩
theorem lw_p50 : lw_okq (⟨"GuestNoes$Night", "canSpeak", "(LGuestNoes$Table;I)Z"⟩, 1) := ⟨⟨by decide +kernel, by decide +kernel⟩, List.mem_of_getElem? (i := 52) (by decide +kernel), List.mem_of_getElem? (i := 572) (by decide +kernel), List.mem_of_getElem? (i := 573) (by decide +kernel)⟩
theorem lw_p51 : lw_okq (⟨"GuestNoes$Night", "isUp", "(I)Z"⟩, 1) := ⟨⟨by decide +kernel, by decide +kernel⟩, List.mem_of_getElem? (i := 52) (by decide +kernel), List.mem_of_getElem? (i := 576) (by decide +kernel), List.mem_of_getElem? (i := 577) (by decide +kernel)⟩
theorem lw_p52 : lw_okq (⟨"GuestNoes$Past", "remember", "(LGuestNoes$Night;)V"⟩, 3) := ⟨⟨by decide +kernel, by decide +kernel⟩, List.mem_of_getElem? (i := 64) (by decide +kernel), List.mem_of_getElem? (i := 583) (by decide +kernel), List.mem_of_getElem? (i := 584) (by decide +kernel)⟩
theorem lw_p53 : lw_okq (⟨"GuestNoes$Night", "speak", "(I)I"⟩, 1) := ⟨⟨by decide +kernel, by decide +kernel⟩, List.mem_of_getElem? (i := 52) (by decide +kernel), List.mem_of_getElem? (i := 591) (by decide +kernel), List.mem_of_getElem? (i := 592) (by decide +kernel)⟩
theorem lw_p54 : lw_okq (⟨"GuestNoes$Night", "canContradict", "(II)Z"⟩, 1) := ⟨⟨by decide +kernel, by decide +kernel⟩, List.mem_of_getElem? (i := 52) (by decide +kernel), List.mem_of_getElem? (i := 599) (by decide +kernel), List.mem_of_getElem? (i := 600) (by decide +kernel)⟩
theorem lw_p55 : lw_okq (⟨"GuestNoes$Night", "canBeTold", "(I)Z"⟩, 1) := ⟨⟨by decide +kernel, by decide +kernel⟩, List.mem_of_getElem? (i := 52) (by decide +kernel), List.mem_of_getElem? (i := 604) (by decide +kernel), List.mem_of_getElem? (i := 605) (by decide +kernel)⟩
theorem lw_p56 : lw_okq (⟨"GuestNoes$Night", "contradict", "(LGuestNoes$Table;II)I"⟩, 1) := ⟨⟨by decide +kernel, by decide +kernel⟩, List.mem_of_getElem? (i := 52) (by decide +kernel), List.mem_of_getElem? (i := 608) (by decide +kernel), List.mem_of_getElem? (i := 609) (by decide +kernel)⟩
theorem lw_p57 : lw_okq (⟨"GuestNoes$Night", "tell", "(LGuestNoes$Table;II)I"⟩, 1) := ⟨⟨by decide +kernel, by decide +kernel⟩, List.mem_of_getElem? (i := 52) (by decide +kernel), List.mem_of_getElem? (i := 612) (by decide +kernel), List.mem_of_getElem? (i := 613) (by decide +kernel)⟩
theorem lw_p58 : lw_okq (⟨"GuestNoes$Night", "firstOpenClaim", "(I)I"⟩, 1) := ⟨⟨by decide +kernel, by decide +kernel⟩, List.mem_of_getElem? (i := 52) (by decide +kernel), List.mem_of_getElem? (i := 616) (by decide +kernel), List.mem_of_getElem? (i := 617) (by decide +kernel)⟩
theorem lw_p59 : lw_okq (⟨"GuestNoes$Night", "addGlad", "(I)V"⟩, 1) := ⟨⟨by decide +kernel, by decide +kernel⟩, List.mem_of_getElem? (i := 52) (by decide +kernel), List.mem_of_getElem? (i := 621) (by decide +kernel), List.mem_of_getElem? (i := 622) (by decide +kernel)⟩
theorem lw_p60 : lw_okq (⟨"GuestNoes", "areNoTwoGuests", "(II)Z"⟩, 13) := ⟨⟨by decide +kernel, by decide +kernel⟩, List.mem_of_getElem? (i := 18) (by decide +kernel), List.mem_of_getElem? (i := 631) (by decide +kernel), List.mem_of_getElem? (i := 632) (by decide +kernel)⟩
theorem lw_p61 : lw_okq (⟨"GuestNoes$Night", "shareNo", "(LGuestNoes$Table;II)I"⟩, 1) := ⟨⟨by decide +kernel, by decide +kernel⟩, List.mem_of_getElem? (i := 52) (by decide +kernel), List.mem_of_getElem? (i := 636) (by decide +kernel), List.mem_of_getElem? (i := 637) (by decide +kernel)⟩
theorem lw_p62 : lw_okq (⟨"GuestNoes$Night", "retire", "(I)Z"⟩, 1) := ⟨⟨by decide +kernel, by decide +kernel⟩, List.mem_of_getElem? (i := 52) (by decide +kernel), List.mem_of_getElem? (i := 645) (by decide +kernel), List.mem_of_getElem? (i := 646) (by decide +kernel)⟩
theorem lw_p63 : lw_okq (⟨"GuestNoes", "refusalOfHours", "(I)I"⟩, 13) := ⟨⟨by decide +kernel, by decide +kernel⟩, List.mem_of_getElem? (i := 18) (by decide +kernel), List.mem_of_getElem? (i := 653) (by decide +kernel), List.mem_of_getElem? (i := 654) (by decide +kernel)⟩
def lw_privs_4 : List (MethodName × Nat) := [(⟨"GuestNoes$Table", "kind", "(I)I"⟩, 11), (⟨"GuestNoes$Night", "noesLeft", "(I)I"⟩, 1), (⟨"GuestNoes$Night", "canSpeak", "(LGuestNoes$Table;I)Z"⟩, 1), (⟨"GuestNoes$Night", "isUp", "(I)Z"⟩, 1), (⟨"GuestNoes$Past", "remember", "(LGuestNoes$Night;)V"⟩, 3), (⟨"GuestNoes$Night", "speak", "(I)I"⟩, 1), (⟨"GuestNoes$Night", "canContradict", "(II)Z"⟩, 1), (⟨"GuestNoes$Night", "canBeTold", "(I)Z"⟩, 1), (⟨"GuestNoes$Night", "contradict", "(LGuestNoes$Table;II)I"⟩, 1), (⟨"GuestNoes$Night", "tell", "(LGuestNoes$Table;II)I"⟩, 1), (⟨"GuestNoes$Night", "firstOpenClaim", "(I)I"⟩, 1), (⟨"GuestNoes$Night", "addGlad", "(I)V"⟩, 1), (⟨"GuestNoes", "areNoTwoGuests", "(II)Z"⟩, 13), (⟨"GuestNoes$Night", "shareNo", "(LGuestNoes$Table;II)I"⟩, 1), (⟨"GuestNoes$Night", "retire", "(I)Z"⟩, 1), (⟨"GuestNoes", "refusalOfHours", "(I)I"⟩, 13)]
theorem lw_r4 : ∀ q ∈ lw_privs_4, lw_okq q := List.forall_mem_cons.mpr ⟨lw_p48, List.forall_mem_cons.mpr ⟨lw_p49, List.forall_mem_cons.mpr ⟨lw_p50, List.forall_mem_cons.mpr ⟨lw_p51, List.forall_mem_cons.mpr ⟨lw_p52, List.forall_mem_cons.mpr ⟨lw_p53, List.forall_mem_cons.mpr ⟨lw_p54, List.forall_mem_cons.mpr ⟨lw_p55, List.forall_mem_cons.mpr ⟨lw_p56, List.forall_mem_cons.mpr ⟨lw_p57, List.forall_mem_cons.mpr ⟨lw_p58, List.forall_mem_cons.mpr ⟨lw_p59, List.forall_mem_cons.mpr ⟨lw_p60, List.forall_mem_cons.mpr ⟨lw_p61, List.forall_mem_cons.mpr ⟨lw_p62, List.forall_mem_cons.mpr ⟨lw_p63, fun _ h => absurd h List.not_mem_nil⟩⟩⟩⟩⟩⟩⟩⟩⟩⟩⟩⟩⟩⟩⟩⟩
theorem lw_p64 : lw_okq (⟨"GuestNoes$Night", "passHour", "(LGuestNoes$Table;)V"⟩, 1) := ⟨⟨by decide +kernel, by decide +kernel⟩, List.mem_of_getElem? (i := 52) (by decide +kernel), List.mem_of_getElem? (i := 658) (by decide +kernel), List.mem_of_getElem? (i := 659) (by decide +kernel)⟩
theorem lw_p65 : lw_okq (⟨"GuestNoes$Night", "passEvening", "(LGuestNoes$Table;)V"⟩, 1) := ⟨⟨by decide +kernel, by decide +kernel⟩, List.mem_of_getElem? (i := 52) (by decide +kernel), List.mem_of_getElem? (i := 668) (by decide +kernel), List.mem_of_getElem? (i := 669) (by decide +kernel)⟩
theorem lw_p66 : lw_okq (⟨"GuestNoes$Draws", "deed", "(LGuestNoes$Table;LGuestNoes$Night;)V"⟩, 1) := ⟨⟨by decide +kernel, by decide +kernel⟩, List.mem_of_getElem? (i := 98) (by decide +kernel), List.mem_of_getElem? (i := 676) (by decide +kernel), List.mem_of_getElem? (i := 677) (by decide +kernel)⟩
theorem lw_p67 : lw_okq (⟨"GuestNoes$Draws", "draw", "(I)I"⟩, 1) := ⟨⟨by decide +kernel, by decide +kernel⟩, List.mem_of_getElem? (i := 98) (by decide +kernel), List.mem_of_getElem? (i := 680) (by decide +kernel), List.mem_of_getElem? (i := 681) (by decide +kernel)⟩
theorem lw_p68 : lw_okq (⟨"GuestNoes$Past", "giveBack", "(LGuestNoes$Night;I)V"⟩, 3) := ⟨⟨by decide +kernel, by decide +kernel⟩, List.mem_of_getElem? (i := 64) (by decide +kernel), List.mem_of_getElem? (i := 696) (by decide +kernel), List.mem_of_getElem? (i := 697) (by decide +kernel)⟩
theorem lw_p69 : lw_okq (⟨"GuestNoes$Pick", "seek", "(LGuestNoes$Table;LGuestNoes$Night;I)V"⟩, 3) := ⟨⟨by decide +kernel, by decide +kernel⟩, List.mem_of_getElem? (i := 110) (by decide +kernel), List.mem_of_getElem? (i := 709) (by decide +kernel), List.mem_of_getElem? (i := 710) (by decide +kernel)⟩
theorem lw_p70 : lw_okq (⟨"GuestNoes$Planner", "seek", "(LGuestNoes$Table;LGuestNoes$Night;)V"⟩, 8) := ⟨⟨by decide +kernel, by decide +kernel⟩, List.mem_of_getElem? (i := 129) (by decide +kernel), List.mem_of_getElem? (i := 722) (by decide +kernel), List.mem_of_getElem? (i := 723) (by decide +kernel)⟩
theorem lw_p71 : lw_okq (⟨"GuestNoes$Planner", "weighGuest", "(LGuestNoes$Table;LGuestNoes$Night;I)V"⟩, 8) := ⟨⟨by decide +kernel, by decide +kernel⟩, List.mem_of_getElem? (i := 129) (by decide +kernel), List.mem_of_getElem? (i := 728) (by decide +kernel), List.mem_of_getElem? (i := 729) (by decide +kernel)⟩
theorem lw_p72 : lw_okq (⟨"GuestNoes$Planner", "sumHopes", "()V"⟩, 8) := ⟨⟨by decide +kernel, by decide +kernel⟩, List.mem_of_getElem? (i := 129) (by decide +kernel), List.mem_of_getElem? (i := 735) (by decide +kernel), List.mem_of_getElem? (i := 736) (by decide +kernel)⟩
theorem lw_p73 : lw_okq (⟨"GuestNoes$Planner", "choose", "(II)V"⟩, 8) := ⟨⟨by decide +kernel, by decide +kernel⟩, List.mem_of_getElem? (i := 129) (by decide +kernel), List.mem_of_getElem? (i := 740) (by decide +kernel), List.mem_of_getElem? (i := 741) (by decide +kernel)⟩
theorem lw_p74 : lw_okq (⟨"GuestNoes$Planner", "hostOf", "(I)I"⟩, 8) := ⟨⟨by decide +kernel, by decide +kernel⟩, List.mem_of_getElem? (i := 129) (by decide +kernel), List.mem_of_getElem? (i := 745) (by decide +kernel), List.mem_of_getElem? (i := 746) (by decide +kernel)⟩
theorem lw_p75 : lw_okq (⟨"GuestNoes$Waiting", "weigh", "(LGuestNoes$Table;III)V"⟩, 4) := ⟨⟨by decide +kernel, by decide +kernel⟩, List.mem_of_getElem? (i := 161) (by decide +kernel), List.mem_of_getElem? (i := 753) (by decide +kernel), List.mem_of_getElem? (i := 754) (by decide +kernel)⟩
theorem lw_p76 : lw_okq (⟨"GuestNoes$Waiting", "meanOf", "(I)I"⟩, 4) := ⟨⟨by decide +kernel, by decide +kernel⟩, List.mem_of_getElem? (i := 161) (by decide +kernel), List.mem_of_getElem? (i := 761) (by decide +kernel), List.mem_of_getElem? (i := 762) (by decide +kernel)⟩
theorem lw_p77 : lw_okq (⟨"GuestNoes$Waiting", "worthOfAll", "()I"⟩, 4) := ⟨⟨by decide +kernel, by decide +kernel⟩, List.mem_of_getElem? (i := 161) (by decide +kernel), List.mem_of_getElem? (i := 765) (by decide +kernel), List.mem_of_getElem? (i := 766) (by decide +kernel)⟩
theorem lw_p78 : lw_okq (⟨"GuestNoes$Waiting", "isWorthIt", "(I)Z"⟩, 4) := ⟨⟨by decide +kernel, by decide +kernel⟩, List.mem_of_getElem? (i := 161) (by decide +kernel), List.mem_of_getElem? (i := 774) (by decide +kernel), List.mem_of_getElem? (i := 775) (by decide +kernel)⟩
theorem lw_p79 : lw_okq (⟨"GuestNoes$Table", "boldestGuest", "(I)I"⟩, 11) := ⟨⟨by decide +kernel, by decide +kernel⟩, List.mem_of_getElem? (i := 215) (by decide +kernel), List.mem_of_getElem? (i := 790) (by decide +kernel), List.mem_of_getElem? (i := 791) (by decide +kernel)⟩
def lw_privs_5 : List (MethodName × Nat) := [(⟨"GuestNoes$Night", "passHour", "(LGuestNoes$Table;)V"⟩, 1), (⟨"GuestNoes$Night", "passEvening", "(LGuestNoes$Table;)V"⟩, 1), (⟨"GuestNoes$Draws", "deed", "(LGuestNoes$Table;LGuestNoes$Night;)V"⟩, 1), (⟨"GuestNoes$Draws", "draw", "(I)I"⟩, 1), (⟨"GuestNoes$Past", "giveBack", "(LGuestNoes$Night;I)V"⟩, 3), (⟨"GuestNoes$Pick", "seek", "(LGuestNoes$Table;LGuestNoes$Night;I)V"⟩, 3), (⟨"GuestNoes$Planner", "seek", "(LGuestNoes$Table;LGuestNoes$Night;)V"⟩, 8), (⟨"GuestNoes$Planner", "weighGuest", "(LGuestNoes$Table;LGuestNoes$Night;I)V"⟩, 8), (⟨"GuestNoes$Planner", "sumHopes", "()V"⟩, 8), (⟨"GuestNoes$Planner", "choose", "(II)V"⟩, 8), (⟨"GuestNoes$Planner", "hostOf", "(I)I"⟩, 8), (⟨"GuestNoes$Waiting", "weigh", "(LGuestNoes$Table;III)V"⟩, 4), (⟨"GuestNoes$Waiting", "meanOf", "(I)I"⟩, 4), (⟨"GuestNoes$Waiting", "worthOfAll", "()I"⟩, 4), (⟨"GuestNoes$Waiting", "isWorthIt", "(I)Z"⟩, 4), (⟨"GuestNoes$Table", "boldestGuest", "(I)I"⟩, 11)]
theorem lw_r5 : ∀ q ∈ lw_privs_5, lw_okq q := List.forall_mem_cons.mpr ⟨lw_p64, List.forall_mem_cons.mpr ⟨lw_p65, List.forall_mem_cons.mpr ⟨lw_p66, List.forall_mem_cons.mpr ⟨lw_p67, List.forall_mem_cons.mpr ⟨lw_p68, List.forall_mem_cons.mpr ⟨lw_p69, List.forall_mem_cons.mpr ⟨lw_p70, List.forall_mem_cons.mpr ⟨lw_p71, List.forall_mem_cons.mpr ⟨lw_p72, List.forall_mem_cons.mpr ⟨lw_p73, List.forall_mem_cons.mpr ⟨lw_p74, List.forall_mem_cons.mpr ⟨lw_p75, List.forall_mem_cons.mpr ⟨lw_p76, List.forall_mem_cons.mpr ⟨lw_p77, List.forall_mem_cons.mpr ⟨lw_p78, List.forall_mem_cons.mpr ⟨lw_p79, fun _ h => absurd h List.not_mem_nil⟩⟩⟩⟩⟩⟩⟩⟩⟩⟩⟩⟩⟩⟩⟩⟩
theorem lw_p80 : lw_okq (⟨"GuestNoes$Table", "boldnessOn", "(II)I"⟩, 11) := ⟨⟨by decide +kernel, by decide +kernel⟩, List.mem_of_getElem? (i := 215) (by decide +kernel), List.mem_of_getElem? (i := 794) (by decide +kernel), List.mem_of_getElem? (i := 795) (by decide +kernel)⟩
theorem lw_p81 : lw_okq (⟨"GuestNoes$Ear", "note", "(IZ)Z"⟩, 3) := ⟨⟨by decide +kernel, by decide +kernel⟩, List.mem_of_getElem? (i := 180) (by decide +kernel), List.mem_of_getElem? (i := 809) (by decide +kernel), List.mem_of_getElem? (i := 810) (by decide +kernel)⟩
theorem lw_p82 : lw_okq (⟨"GuestNoes$Ear", "whoFits", "(LGuestNoes$Table;)I"⟩, 3) := ⟨⟨by decide +kernel, by decide +kernel⟩, List.mem_of_getElem? (i := 180) (by decide +kernel), List.mem_of_getElem? (i := 817) (by decide +kernel), List.mem_of_getElem? (i := 818) (by decide +kernel)⟩
theorem lw_p83 : lw_okq (⟨"GuestNoes$Ear", "fits", "(LGuestNoes$Table;I)Z"⟩, 3) := ⟨⟨by decide +kernel, by decide +kernel⟩, List.mem_of_getElem? (i := 180) (by decide +kernel), List.mem_of_getElem? (i := 821) (by decide +kernel), List.mem_of_getElem? (i := 822) (by decide +kernel)⟩
theorem lw_p84 : lw_okq (⟨"GuestNoes$Table", "claimsTopic", "(II)Z"⟩, 11) := ⟨⟨by decide +kernel, by decide +kernel⟩, List.mem_of_getElem? (i := 215) (by decide +kernel), List.mem_of_getElem? (i := 825) (by decide +kernel), List.mem_of_getElem? (i := 826) (by decide +kernel)⟩
theorem lw_p85 : lw_okq (⟨"GuestNoes$Ear", "bestTopic", "(LGuestNoes$Table;)I"⟩, 3) := ⟨⟨by decide +kernel, by decide +kernel⟩, List.mem_of_getElem? (i := 180) (by decide +kernel), List.mem_of_getElem? (i := 833) (by decide +kernel), List.mem_of_getElem? (i := 834) (by decide +kernel)⟩
theorem lw_p86 : lw_okq (⟨"GuestNoes$Book", "enter", "(II)Z"⟩, 3) := ⟨⟨by decide +kernel, by decide +kernel⟩, List.mem_of_getElem? (i := 198) (by decide +kernel), List.mem_of_getElem? (i := 852) (by decide +kernel), List.mem_of_getElem? (i := 853) (by decide +kernel)⟩
theorem lw_p87 : lw_okq (⟨"GuestNoes$Book", "firstFalse", "(LGuestNoes$Night;)I"⟩, 3) := ⟨⟨by decide +kernel, by decide +kernel⟩, List.mem_of_getElem? (i := 198) (by decide +kernel), List.mem_of_getElem? (i := 860) (by decide +kernel), List.mem_of_getElem? (i := 861) (by decide +kernel)⟩
theorem lw_p88 : lw_okq (⟨"GuestNoes", "imageAt", "(I)LGuestNoes$Image;"⟩, 13) := ⟨⟨by decide +kernel, by decide +kernel⟩, List.mem_of_getElem? (i := 18) (by decide +kernel), List.mem_of_getElem? (i := 880) (by decide +kernel), List.mem_of_getElem? (i := 881) (by decide +kernel)⟩
theorem lw_p89 : lw_okq (⟨"GuestNoes$Image", "take", "(LGuestNoes$Night;LGuestNoes$Draws;)V"⟩, 3) := ⟨⟨by decide +kernel, by decide +kernel⟩, List.mem_of_getElem? (i := 81) (by decide +kernel), List.mem_of_getElem? (i := 884) (by decide +kernel), List.mem_of_getElem? (i := 885) (by decide +kernel)⟩
theorem lw_p90 : lw_okq (⟨"GuestNoes$Image", "putBack", "(LGuestNoes$Night;LGuestNoes$Draws;)V"⟩, 3) := ⟨⟨by decide +kernel, by decide +kernel⟩, List.mem_of_getElem? (i := 81) (by decide +kernel), List.mem_of_getElem? (i := 893) (by decide +kernel), List.mem_of_getElem? (i := 894) (by decide +kernel)⟩
theorem lw_p91 : lw_okq (⟨"GuestNoesModel", "fine", "()Z"⟩, 35) := ⟨⟨by decide +kernel, by decide +kernel⟩, List.mem_of_getElem? (i := 897) (by decide +kernel), List.mem_of_getElem? (i := 1022) (by decide +kernel), List.mem_of_getElem? (i := 1023) (by decide +kernel)⟩
theorem lw_p92 : lw_okq (⟨"GuestNoesModel", "here", "()I"⟩, 35) := ⟨⟨by decide +kernel, by decide +kernel⟩, List.mem_of_getElem? (i := 897) (by decide +kernel), List.mem_of_getElem? (i := 1026) (by decide +kernel), List.mem_of_getElem? (i := 1027) (by decide +kernel)⟩
theorem lw_p93 : lw_okq (⟨"GuestNoesModel", "readClause", "()V"⟩, 35) := ⟨⟨by decide +kernel, by decide +kernel⟩, List.mem_of_getElem? (i := 897) (by decide +kernel), List.mem_of_getElem? (i := 1030) (by decide +kernel), List.mem_of_getElem? (i := 1031) (by decide +kernel)⟩
theorem lw_p94 : lw_okq (⟨"GuestNoesModel", "wrong", "(II)V"⟩, 35) := ⟨⟨by decide +kernel, by decide +kernel⟩, List.mem_of_getElem? (i := 897) (by decide +kernel), List.mem_of_getElem? (i := 1034) (by decide +kernel), List.mem_of_getElem? (i := 1035) (by decide +kernel)⟩
theorem lw_p95 : lw_okq (⟨"GuestNoesModel", "readFacts", "(I)V"⟩, 35) := ⟨⟨by decide +kernel, by decide +kernel⟩, List.mem_of_getElem? (i := 897) (by decide +kernel), List.mem_of_getElem? (i := 1038) (by decide +kernel), List.mem_of_getElem? (i := 1039) (by decide +kernel)⟩
def lw_privs_6 : List (MethodName × Nat) := [(⟨"GuestNoes$Table", "boldnessOn", "(II)I"⟩, 11), (⟨"GuestNoes$Ear", "note", "(IZ)Z"⟩, 3), (⟨"GuestNoes$Ear", "whoFits", "(LGuestNoes$Table;)I"⟩, 3), (⟨"GuestNoes$Ear", "fits", "(LGuestNoes$Table;I)Z"⟩, 3), (⟨"GuestNoes$Table", "claimsTopic", "(II)Z"⟩, 11), (⟨"GuestNoes$Ear", "bestTopic", "(LGuestNoes$Table;)I"⟩, 3), (⟨"GuestNoes$Book", "enter", "(II)Z"⟩, 3), (⟨"GuestNoes$Book", "firstFalse", "(LGuestNoes$Night;)I"⟩, 3), (⟨"GuestNoes", "imageAt", "(I)LGuestNoes$Image;"⟩, 13), (⟨"GuestNoes$Image", "take", "(LGuestNoes$Night;LGuestNoes$Draws;)V"⟩, 3), (⟨"GuestNoes$Image", "putBack", "(LGuestNoes$Night;LGuestNoes$Draws;)V"⟩, 3), (⟨"GuestNoesModel", "fine", "()Z"⟩, 35), (⟨"GuestNoesModel", "here", "()I"⟩, 35), (⟨"GuestNoesModel", "readClause", "()V"⟩, 35), (⟨"GuestNoesModel", "wrong", "(II)V"⟩, 35), (⟨"GuestNoesModel", "readFacts", "(I)V"⟩, 35)]
theorem lw_r6 : ∀ q ∈ lw_privs_6, lw_okq q := List.forall_mem_cons.mpr ⟨lw_p80, List.forall_mem_cons.mpr ⟨lw_p81, List.forall_mem_cons.mpr ⟨lw_p82, List.forall_mem_cons.mpr ⟨lw_p83, List.forall_mem_cons.mpr ⟨lw_p84, List.forall_mem_cons.mpr ⟨lw_p85, List.forall_mem_cons.mpr ⟨lw_p86, List.forall_mem_cons.mpr ⟨lw_p87, List.forall_mem_cons.mpr ⟨lw_p88, List.forall_mem_cons.mpr ⟨lw_p89, List.forall_mem_cons.mpr ⟨lw_p90, List.forall_mem_cons.mpr ⟨lw_p91, List.forall_mem_cons.mpr ⟨lw_p92, List.forall_mem_cons.mpr ⟨lw_p93, List.forall_mem_cons.mpr ⟨lw_p94, List.forall_mem_cons.mpr ⟨lw_p95, fun _ h => absurd h List.not_mem_nil⟩⟩⟩⟩⟩⟩⟩⟩⟩⟩⟩⟩⟩⟩⟩⟩
theorem lw_p96 : lw_okq (⟨"GuestNoesModel", "number", "(I)I"⟩, 35) := ⟨⟨by decide +kernel, by decide +kernel⟩, List.mem_of_getElem? (i := 897) (by decide +kernel), List.mem_of_getElem? (i := 1042) (by decide +kernel), List.mem_of_getElem? (i := 1043) (by decide +kernel)⟩
theorem lw_p97 : lw_okq (⟨"GuestNoesModel", "readGuest", "(I)V"⟩, 35) := ⟨⟨by decide +kernel, by decide +kernel⟩, List.mem_of_getElem? (i := 897) (by decide +kernel), List.mem_of_getElem? (i := 1046) (by decide +kernel), List.mem_of_getElem? (i := 1047) (by decide +kernel)⟩
theorem lw_p98 : lw_okq (⟨"GuestNoesModel", "readHost", "(I)V"⟩, 35) := ⟨⟨by decide +kernel, by decide +kernel⟩, List.mem_of_getElem? (i := 897) (by decide +kernel), List.mem_of_getElem? (i := 1050) (by decide +kernel), List.mem_of_getElem? (i := 1051) (by decide +kernel)⟩
theorem lw_p99 : lw_okq (⟨"GuestNoesModel", "begin", "()V"⟩, 35) := ⟨⟨by decide +kernel, by decide +kernel⟩, List.mem_of_getElem? (i := 897) (by decide +kernel), List.mem_of_getElem? (i := 1054) (by decide +kernel), List.mem_of_getElem? (i := 1055) (by decide +kernel)⟩
theorem lw_p100 : lw_okq (⟨"GuestNoesModel", "allAnew", "()V"⟩, 35) := ⟨⟨by decide +kernel, by decide +kernel⟩, List.mem_of_getElem? (i := 897) (by decide +kernel), List.mem_of_getElem? (i := 1058) (by decide +kernel), List.mem_of_getElem? (i := 1059) (by decide +kernel)⟩
theorem lw_p101 : lw_okq (⟨"GuestNoesModel", "allTold", "()I"⟩, 35) := ⟨⟨by decide +kernel, by decide +kernel⟩, List.mem_of_getElem? (i := 897) (by decide +kernel), List.mem_of_getElem? (i := 1070) (by decide +kernel), List.mem_of_getElem? (i := 1071) (by decide +kernel)⟩
theorem lw_p102 : lw_okq (⟨"GuestNoesModel", "rightOnes", "()I"⟩, 35) := ⟨⟨by decide +kernel, by decide +kernel⟩, List.mem_of_getElem? (i := 897) (by decide +kernel), List.mem_of_getElem? (i := 1074) (by decide +kernel), List.mem_of_getElem? (i := 1075) (by decide +kernel)⟩
theorem lw_p103 : lw_okq (⟨"GuestNoesModel", "wrongAt", "(I)I"⟩, 35) := ⟨⟨by decide +kernel, by decide +kernel⟩, List.mem_of_getElem? (i := 897) (by decide +kernel), List.mem_of_getElem? (i := 1078) (by decide +kernel), List.mem_of_getElem? (i := 1079) (by decide +kernel)⟩
theorem lw_p104 : lw_okq (⟨"GuestNoesModel", "topicOf", "(II)I"⟩, 35) := ⟨⟨by decide +kernel, by decide +kernel⟩, List.mem_of_getElem? (i := 897) (by decide +kernel), List.mem_of_getElem? (i := 1082) (by decide +kernel), List.mem_of_getElem? (i := 1083) (by decide +kernel)⟩
theorem lw_p105 : lw_okq (⟨"GuestNoesModel", "nobodys", "()I"⟩, 35) := ⟨⟨by decide +kernel, by decide +kernel⟩, List.mem_of_getElem? (i := 897) (by decide +kernel), List.mem_of_getElem? (i := 1089) (by decide +kernel), List.mem_of_getElem? (i := 1090) (by decide +kernel)⟩
theorem lw_p106 : lw_okq (⟨"GuestNoesModel", "topicsOf", "(I)I"⟩, 35) := ⟨⟨by decide +kernel, by decide +kernel⟩, List.mem_of_getElem? (i := 897) (by decide +kernel), List.mem_of_getElem? (i := 1093) (by decide +kernel), List.mem_of_getElem? (i := 1094) (by decide +kernel)⟩
theorem lw_p107 : lw_okq (⟨"GuestNoesModel", "meanly", "()I"⟩, 35) := ⟨⟨by decide +kernel, by decide +kernel⟩, List.mem_of_getElem? (i := 897) (by decide +kernel), List.mem_of_getElem? (i := 1097) (by decide +kernel), List.mem_of_getElem? (i := 1098) (by decide +kernel)⟩
theorem lw_p108 : lw_okq (⟨"GuestNoesModel", "joyOf", "(III)I"⟩, 35) := ⟨⟨by decide +kernel, by decide +kernel⟩, List.mem_of_getElem? (i := 897) (by decide +kernel), List.mem_of_getElem? (i := 1101) (by decide +kernel), List.mem_of_getElem? (i := 1102) (by decide +kernel)⟩
theorem lw_p109 : lw_okq (⟨"GuestNoesModel", "plainJoy", "(III)I"⟩, 35) := ⟨⟨by decide +kernel, by decide +kernel⟩, List.mem_of_getElem? (i := 897) (by decide +kernel), List.mem_of_getElem? (i := 1105) (by decide +kernel), List.mem_of_getElem? (i := 1106) (by decide +kernel)⟩
theorem lw_p110 : lw_okq (⟨"GuestNoesModel", "boldOf", "(II)I"⟩, 35) := ⟨⟨by decide +kernel, by decide +kernel⟩, List.mem_of_getElem? (i := 897) (by decide +kernel), List.mem_of_getElem? (i := 1109) (by decide +kernel), List.mem_of_getElem? (i := 1110) (by decide +kernel)⟩
theorem lw_p111 : lw_okq (⟨"GuestNoesModel", "leastPleased", "()I"⟩, 35) := ⟨⟨by decide +kernel, by decide +kernel⟩, List.mem_of_getElem? (i := 897) (by decide +kernel), List.mem_of_getElem? (i := 1113) (by decide +kernel), List.mem_of_getElem? (i := 1114) (by decide +kernel)⟩
def lw_privs_7 : List (MethodName × Nat) := [(⟨"GuestNoesModel", "number", "(I)I"⟩, 35), (⟨"GuestNoesModel", "readGuest", "(I)V"⟩, 35), (⟨"GuestNoesModel", "readHost", "(I)V"⟩, 35), (⟨"GuestNoesModel", "begin", "()V"⟩, 35), (⟨"GuestNoesModel", "allAnew", "()V"⟩, 35), (⟨"GuestNoesModel", "allTold", "()I"⟩, 35), (⟨"GuestNoesModel", "rightOnes", "()I"⟩, 35), (⟨"GuestNoesModel", "wrongAt", "(I)I"⟩, 35), (⟨"GuestNoesModel", "topicOf", "(II)I"⟩, 35), (⟨"GuestNoesModel", "nobodys", "()I"⟩, 35), (⟨"GuestNoesModel", "topicsOf", "(I)I"⟩, 35), (⟨"GuestNoesModel", "meanly", "()I"⟩, 35), (⟨"GuestNoesModel", "joyOf", "(III)I"⟩, 35), (⟨"GuestNoesModel", "plainJoy", "(III)I"⟩, 35), (⟨"GuestNoesModel", "boldOf", "(II)I"⟩, 35), (⟨"GuestNoesModel", "leastPleased", "()I"⟩, 35)]
theorem lw_r7 : ∀ q ∈ lw_privs_7, lw_okq q := List.forall_mem_cons.mpr ⟨lw_p96, List.forall_mem_cons.mpr ⟨lw_p97, List.forall_mem_cons.mpr ⟨lw_p98, List.forall_mem_cons.mpr ⟨lw_p99, List.forall_mem_cons.mpr ⟨lw_p100, List.forall_mem_cons.mpr ⟨lw_p101, List.forall_mem_cons.mpr ⟨lw_p102, List.forall_mem_cons.mpr ⟨lw_p103, List.forall_mem_cons.mpr ⟨lw_p104, List.forall_mem_cons.mpr ⟨lw_p105, List.forall_mem_cons.mpr ⟨lw_p106, List.forall_mem_cons.mpr ⟨lw_p107, List.forall_mem_cons.mpr ⟨lw_p108, List.forall_mem_cons.mpr ⟨lw_p109, List.forall_mem_cons.mpr ⟨lw_p110, List.forall_mem_cons.mpr ⟨lw_p111, fun _ h => absurd h List.not_mem_nil⟩⟩⟩⟩⟩⟩⟩⟩⟩⟩⟩⟩⟩⟩⟩⟩
theorem lw_p112 : lw_okq (⟨"GuestNoesModel", "isGuest", "(I)Z"⟩, 35) := ⟨⟨by decide +kernel, by decide +kernel⟩, List.mem_of_getElem? (i := 897) (by decide +kernel), List.mem_of_getElem? (i := 1121) (by decide +kernel), List.mem_of_getElem? (i := 1122) (by decide +kernel)⟩
theorem lw_p113 : lw_okq (⟨"GuestNoesModel", "isHost", "(I)Z"⟩, 35) := ⟨⟨by decide +kernel, by decide +kernel⟩, List.mem_of_getElem? (i := 897) (by decide +kernel), List.mem_of_getElem? (i := 1134) (by decide +kernel), List.mem_of_getElem? (i := 1135) (by decide +kernel)⟩
theorem lw_p114 : lw_okq (⟨"GuestNoesModel", "remember", "()V"⟩, 35) := ⟨⟨by decide +kernel, by decide +kernel⟩, List.mem_of_getElem? (i := 897) (by decide +kernel), List.mem_of_getElem? (i := 1143) (by decide +kernel), List.mem_of_getElem? (i := 1144) (by decide +kernel)⟩
theorem lw_p115 : lw_okq (⟨"GuestNoesModel", "copyRow", "(II)V"⟩, 35) := ⟨⟨by decide +kernel, by decide +kernel⟩, List.mem_of_getElem? (i := 897) (by decide +kernel), List.mem_of_getElem? (i := 1147) (by decide +kernel), List.mem_of_getElem? (i := 1148) (by decide +kernel)⟩
theorem lw_p116 : lw_okq (⟨"GuestNoesModel", "isOpen", "(I)Z"⟩, 35) := ⟨⟨by decide +kernel, by decide +kernel⟩, List.mem_of_getElem? (i := 897) (by decide +kernel), List.mem_of_getElem? (i := 1155) (by decide +kernel), List.mem_of_getElem? (i := 1156) (by decide +kernel)⟩
theorem lw_p117 : lw_okq (⟨"GuestNoesModel", "noBy", "(II)I"⟩, 35) := ⟨⟨by decide +kernel, by decide +kernel⟩, List.mem_of_getElem? (i := 897) (by decide +kernel), List.mem_of_getElem? (i := 1159) (by decide +kernel), List.mem_of_getElem? (i := 1160) (by decide +kernel)⟩
theorem lw_p118 : lw_okq (⟨"GuestNoesModel", "tell", "(II)I"⟩, 35) := ⟨⟨by decide +kernel, by decide +kernel⟩, List.mem_of_getElem? (i := 897) (by decide +kernel), List.mem_of_getElem? (i := 1163) (by decide +kernel), List.mem_of_getElem? (i := 1164) (by decide +kernel)⟩
theorem lw_p119 : lw_okq (⟨"GuestNoesModel", "glad", "(I)V"⟩, 35) := ⟨⟨by decide +kernel, by decide +kernel⟩, List.mem_of_getElem? (i := 897) (by decide +kernel), List.mem_of_getElem? (i := 1167) (by decide +kernel), List.mem_of_getElem? (i := 1168) (by decide +kernel)⟩
theorem lw_p120 : lw_okq (⟨"GuestNoesModel", "goToBed", "(I)I"⟩, 35) := ⟨⟨by decide +kernel, by decide +kernel⟩, List.mem_of_getElem? (i := 897) (by decide +kernel), List.mem_of_getElem? (i := 1180) (by decide +kernel), List.mem_of_getElem? (i := 1181) (by decide +kernel)⟩
theorem lw_p121 : lw_okq (⟨"GuestNoesModel", "whyNot", "(I)I"⟩, 35) := ⟨⟨by decide +kernel, by decide +kernel⟩, List.mem_of_getElem? (i := 897) (by decide +kernel), List.mem_of_getElem? (i := 1188) (by decide +kernel), List.mem_of_getElem? (i := 1189) (by decide +kernel)⟩
theorem lw_p122 : lw_okq (⟨"GuestNoesModel", "goOn", "()V"⟩, 35) := ⟨⟨by decide +kernel, by decide +kernel⟩, List.mem_of_getElem? (i := 897) (by decide +kernel), List.mem_of_getElem? (i := 1193) (by decide +kernel), List.mem_of_getElem? (i := 1194) (by decide +kernel)⟩
theorem lw_p123 : lw_okq (⟨"GuestNoesModel", "doByDraws", "()V"⟩, 35) := ⟨⟨by decide +kernel, by decide +kernel⟩, List.mem_of_getElem? (i := 897) (by decide +kernel), List.mem_of_getElem? (i := 1205) (by decide +kernel), List.mem_of_getElem? (i := 1206) (by decide +kernel)⟩
theorem lw_p124 : lw_okq (⟨"GuestNoesModel", "draw", "(I)I"⟩, 35) := ⟨⟨by decide +kernel, by decide +kernel⟩, List.mem_of_getElem? (i := 897) (by decide +kernel), List.mem_of_getElem? (i := 1209) (by decide +kernel), List.mem_of_getElem? (i := 1210) (by decide +kernel)⟩
theorem lw_p125 : lw_okq (⟨"GuestNoesModel", "firstOpen", "(I)I"⟩, 35) := ⟨⟨by decide +kernel, by decide +kernel⟩, List.mem_of_getElem? (i := 897) (by decide +kernel), List.mem_of_getElem? (i := 1229) (by decide +kernel), List.mem_of_getElem? (i := 1230) (by decide +kernel)⟩
theorem lw_p126 : lw_okq (⟨"GuestNoesModel", "planned", "(I)I"⟩, 35) := ⟨⟨by decide +kernel, by decide +kernel⟩, List.mem_of_getElem? (i := 897) (by decide +kernel), List.mem_of_getElem? (i := 1240) (by decide +kernel), List.mem_of_getElem? (i := 1241) (by decide +kernel)⟩
theorem lw_p127 : lw_okq (⟨"GuestNoesModel", "mostBy", "(II)I"⟩, 35) := ⟨⟨by decide +kernel, by decide +kernel⟩, List.mem_of_getElem? (i := 897) (by decide +kernel), List.mem_of_getElem? (i := 1244) (by decide +kernel), List.mem_of_getElem? (i := 1245) (by decide +kernel)⟩
def lw_privs_8 : List (MethodName × Nat) := [(⟨"GuestNoesModel", "isGuest", "(I)Z"⟩, 35), (⟨"GuestNoesModel", "isHost", "(I)Z"⟩, 35), (⟨"GuestNoesModel", "remember", "()V"⟩, 35), (⟨"GuestNoesModel", "copyRow", "(II)V"⟩, 35), (⟨"GuestNoesModel", "isOpen", "(I)Z"⟩, 35), (⟨"GuestNoesModel", "noBy", "(II)I"⟩, 35), (⟨"GuestNoesModel", "tell", "(II)I"⟩, 35), (⟨"GuestNoesModel", "glad", "(I)V"⟩, 35), (⟨"GuestNoesModel", "goToBed", "(I)I"⟩, 35), (⟨"GuestNoesModel", "whyNot", "(I)I"⟩, 35), (⟨"GuestNoesModel", "goOn", "()V"⟩, 35), (⟨"GuestNoesModel", "doByDraws", "()V"⟩, 35), (⟨"GuestNoesModel", "draw", "(I)I"⟩, 35), (⟨"GuestNoesModel", "firstOpen", "(I)I"⟩, 35), (⟨"GuestNoesModel", "planned", "(I)I"⟩, 35), (⟨"GuestNoesModel", "mostBy", "(II)I"⟩, 35)]
theorem lw_r8 : ∀ q ∈ lw_privs_8, lw_okq q := List.forall_mem_cons.mpr ⟨lw_p112, List.forall_mem_cons.mpr ⟨lw_p113, List.forall_mem_cons.mpr ⟨lw_p114, List.forall_mem_cons.mpr ⟨lw_p115, List.forall_mem_cons.mpr ⟨lw_p116, List.forall_mem_cons.mpr ⟨lw_p117, List.forall_mem_cons.mpr ⟨lw_p118, List.forall_mem_cons.mpr ⟨lw_p119, List.forall_mem_cons.mpr ⟨lw_p120, List.forall_mem_cons.mpr ⟨lw_p121, List.forall_mem_cons.mpr ⟨lw_p122, List.forall_mem_cons.mpr ⟨lw_p123, List.forall_mem_cons.mpr ⟨lw_p124, List.forall_mem_cons.mpr ⟨lw_p125, List.forall_mem_cons.mpr ⟨lw_p126, List.forall_mem_cons.mpr ⟨lw_p127, fun _ h => absurd h List.not_mem_nil⟩⟩⟩⟩⟩⟩⟩⟩⟩⟩⟩⟩⟩⟩⟩⟩
theorem lw_p128 : lw_okq (⟨"GuestNoesModel", "layWorth", "(II)V"⟩, 35) := ⟨⟨by decide +kernel, by decide +kernel⟩, List.mem_of_getElem? (i := 897) (by decide +kernel), List.mem_of_getElem? (i := 1252) (by decide +kernel), List.mem_of_getElem? (i := 1253) (by decide +kernel)⟩
theorem lw_p129 : lw_okq (⟨"GuestNoesModel", "notSaid", "(I)I"⟩, 35) := ⟨⟨by decide +kernel, by decide +kernel⟩, List.mem_of_getElem? (i := 897) (by decide +kernel), List.mem_of_getElem? (i := 1256) (by decide +kernel), List.mem_of_getElem? (i := 1257) (by decide +kernel)⟩
def lw_privs_9 : List (MethodName × Nat) := [(⟨"GuestNoesModel", "layWorth", "(II)V"⟩, 35), (⟨"GuestNoesModel", "notSaid", "(I)I"⟩, 35)]
theorem lw_r9 : ∀ q ∈ lw_privs_9, lw_okq q := List.forall_mem_cons.mpr ⟨lw_p128, List.forall_mem_cons.mpr ⟨lw_p129, fun _ h => absurd h List.not_mem_nil⟩⟩
def lw_privs : List (MethodName × Nat) := lw_privs_1 ++ (lw_privs_2 ++ (lw_privs_3 ++ (lw_privs_4 ++ (lw_privs_5 ++ (lw_privs_6 ++ (lw_privs_7 ++ (lw_privs_8 ++ (lw_privs_9))))))))
def lw_tbl : List Cond := k2_sels lw_privs ++ tables_1
theorem lw_privs_ok : ∀ q ∈ lw_privs, lw_okq q := by
  show ∀ q ∈ lw_privs_1 ++ (lw_privs_2 ++ (lw_privs_3 ++ (lw_privs_4 ++ (lw_privs_5 ++ (lw_privs_6 ++ (lw_privs_7 ++ (lw_privs_8 ++ (lw_privs_9)))))))), lw_okq q
  exact List.forall_mem_append.mpr ⟨lw_r1, List.forall_mem_append.mpr ⟨lw_r2, List.forall_mem_append.mpr ⟨lw_r3, List.forall_mem_append.mpr ⟨lw_r4, List.forall_mem_append.mpr ⟨lw_r5, List.forall_mem_append.mpr ⟨lw_r6, List.forall_mem_append.mpr ⟨lw_r7, List.forall_mem_append.mpr ⟨lw_r8, lw_r9⟩⟩⟩⟩⟩⟩⟩⟩
end
section
/-! names, layout, tables: printed by wip/whole/gen/tables.py -/
abbrev gn_En : Type := Instr × Nat × Nat × Nat × Int32
abbrev gn_Mem : Type := Nat → Nat → Int32
def gn_T0 : u_T := fun k => match k with
  | 0 => ("GuestNoes$Book", "guests", "[I", true)
  | 1 => ("GuestNoes$Book", "hosts", "[I", true)
  | _ => ("GuestNoes$Book", "count", "I", false)
def gn_ty0 : Nat → FieldType := fun k => match k with
  | 0 => .array .int
  | 1 => .array .int
  | _ => .int
def gn_T1 : u_T := fun k => match k with
  | _ => ("GuestNoes$Draws", "seedNow", "I", false)
def gn_ty1 : Nat → FieldType := fun k => match k with
  | _ => .int
def gn_T2 : u_T := fun k => match k with
  | 0 => ("GuestNoes$Ear", "topics", "[I", true)
  | 1 => ("GuestNoes$Ear", "claimed", "[Z", true)
  | _ => ("GuestNoes$Ear", "count", "I", false)
def gn_ty2 : Nat → FieldType := fun k => match k with
  | 0 => .array .int
  | 1 => .array .boolean
  | _ => .int
def gn_T3 : u_T := fun k => match k with
  | 0 => ("GuestNoes$Image", "row", "[I", true)
  | 1 => ("GuestNoes$Image", "seedThen", "I", false)
  | _ => ("GuestNoes$Image", "kept", "Z", false)
def gn_ty3 : Nat → FieldType := fun k => match k with
  | 0 => .array .int
  | 1 => .int
  | _ => .boolean
def gn_T4 : u_T := fun k => match k with
  | _ => ("GuestNoes$Night", "row", "[I", true)
def gn_ty4 : Nat → FieldType := fun k => match k with
  | _ => .array .int
def gn_T5 : u_T := fun k => match k with
  | 0 => ("GuestNoes$Past", "rows", "[I", true)
  | 1 => ("GuestNoes$Past", "next", "I", false)
  | _ => ("GuestNoes$Past", "count", "I", false)
def gn_ty5 : Nat → FieldType := fun k => match k with
  | 0 => .array .int
  | 1 => .int
  | _ => .int
def gn_T6 : u_T := fun k => match k with
  | 0 => ("GuestNoes$Pick", "most", "I", false)
  | 1 => ("GuestNoes$Pick", "atClaim", "I", false)
  | _ => ("GuestNoes$Pick", "byHost", "I", false)
def gn_ty6 : Nat → FieldType := fun k => match k with
  | 0 => .int
  | 1 => .int
  | _ => .int
def gn_T7 : u_T := fun k => match k with
  | 0 => ("GuestNoes$Planner", "gains", "[I", true)
  | 1 => ("GuestNoes$Planner", "hopes", "[I", true)
  | 2 => ("GuestNoes$Planner", "left", "[I", true)
  | 3 => ("GuestNoes$Planner", "tried", "[I", true)
  | 4 => ("GuestNoes$Planner", "chosen", "[I", true)
  | 5 => ("GuestNoes$Planner", "guests", "I", false)
  | 6 => ("GuestNoes$Planner", "hosts", "I", false)
  | _ => ("GuestNoes$Planner", "most", "I", false)
def gn_ty7 : Nat → FieldType := fun k => match k with
  | 0 => .array .int
  | 1 => .array .int
  | 2 => .array .int
  | 3 => .array .int
  | 4 => .array .int
  | 5 => .int
  | 6 => .int
  | _ => .int
def gn_T8 : u_T := fun k => match k with
  | 0 => ("GuestNoes$Reader", "letters", "[I", true)
  | 1 => ("GuestNoes$Reader", "length", "I", false)
  | 2 => ("GuestNoes$Reader", "at", "I", false)
  | 3 => ("GuestNoes$Reader", "faultNumber", "I", false)
  | _ => ("GuestNoes$Reader", "faultPlace", "I", false)
def gn_ty8 : Nat → FieldType := fun k => match k with
  | 0 => .array .int
  | 1 => .int
  | 2 => .int
  | 3 => .int
  | _ => .int
def gn_T9 : u_T := fun k => match k with
  | 0 => ("GuestNoes$Table", "there", "Z", false)
  | 1 => ("GuestNoes$Table", "truths", "I", false)
  | 2 => ("GuestNoes$Table", "guests", "I", false)
  | 3 => ("GuestNoes$Table", "hosts", "I", false)
  | 4 => ("GuestNoes$Table", "prides", "[I", true)
  | 5 => ("GuestNoes$Table", "claimCounts", "[I", true)
  | 6 => ("GuestNoes$Table", "topics", "[I", true)
  | 7 => ("GuestNoes$Table", "bolds", "[I", true)
  | 8 => ("GuestNoes$Table", "topicSets", "[I", true)
  | 9 => ("GuestNoes$Table", "kinds", "[I", true)
  | _ => ("GuestNoes$Table", "noNumbers", "[I", true)
def gn_ty9 : Nat → FieldType := fun k => match k with
  | 0 => .boolean
  | 1 => .int
  | 2 => .int
  | 3 => .int
  | 4 => .array .int
  | 5 => .array .int
  | 6 => .array .int
  | 7 => .array .int
  | 8 => .array .int
  | 9 => .array .int
  | _ => .array .int
def gn_T10 : u_T := fun k => match k with
  | 0 => ("GuestNoes$Waiting", "worths", "[I", true)
  | 1 => ("GuestNoes$Waiting", "joys", "[I", true)
  | 2 => ("GuestNoes$Waiting", "first", "I", false)
  | _ => ("GuestNoes$Waiting", "count", "I", false)
def gn_ty10 : Nat → FieldType := fun k => match k with
  | 0 => .array .int
  | 1 => .array .int
  | 2 => .int
  | _ => .int
def gn_T11 : u_T := fun k => match k with
  | 0 => ("GuestNoes", "reader", "LGuestNoes$Reader;", true)
  | 1 => ("GuestNoes", "night", "LGuestNoes$Night;", true)
  | 2 => ("GuestNoes", "past", "LGuestNoes$Past;", true)
  | 3 => ("GuestNoes", "firstImage", "LGuestNoes$Image;", true)
  | 4 => ("GuestNoes", "secondImage", "LGuestNoes$Image;", true)
  | 5 => ("GuestNoes", "draws", "LGuestNoes$Draws;", true)
  | 6 => ("GuestNoes", "pick", "LGuestNoes$Pick;", true)
  | 7 => ("GuestNoes", "planner", "LGuestNoes$Planner;", true)
  | 8 => ("GuestNoes", "waiting", "LGuestNoes$Waiting;", true)
  | 9 => ("GuestNoes", "ear", "LGuestNoes$Ear;", true)
  | 10 => ("GuestNoes", "book", "LGuestNoes$Book;", true)
  | 11 => ("GuestNoes", "table", "LGuestNoes$Table;", false)
  | _ => ("GuestNoes", "spareTable", "LGuestNoes$Table;", false)
def gn_ty11 : Nat → FieldType := fun k => match k with
  | 0 => .object "GuestNoes$Reader"
  | 1 => .object "GuestNoes$Night"
  | 2 => .object "GuestNoes$Past"
  | 3 => .object "GuestNoes$Image"
  | 4 => .object "GuestNoes$Image"
  | 5 => .object "GuestNoes$Draws"
  | 6 => .object "GuestNoes$Pick"
  | 7 => .object "GuestNoes$Planner"
  | 8 => .object "GuestNoes$Waiting"
  | 9 => .object "GuestNoes$Ear"
  | 10 => .object "GuestNoes$Book"
  | 11 => .object "GuestNoes$Table"
  | _ => .object "GuestNoes$Table"
def gn_T12 : u_T := fun k => match k with
  | 0 => ("GuestNoesModel", "w", "[I", true)
  | 1 => ("GuestNoesModel", "pride", "[I", true)
  | 2 => ("GuestNoesModel", "claim", "[I", true)
  | 3 => ("GuestNoesModel", "claims", "[I", true)
  | 4 => ("GuestNoesModel", "kind", "[I", true)
  | 5 => ("GuestNoesModel", "noes", "[I", true)
  | 6 => ("GuestNoesModel", "there", "Z", false)
  | 7 => ("GuestNoesModel", "facts", "I", false)
  | 8 => ("GuestNoesModel", "guests", "I", false)
  | 9 => ("GuestNoesModel", "hosts", "I", false)
  | 10 => ("GuestNoesModel", "undoMany", "I", false)
  | 11 => ("GuestNoesModel", "kept", "I", false)
  | 12 => ("GuestNoesModel", "text", "[I", true)
  | 13 => ("GuestNoesModel", "size", "I", false)
  | 14 => ("GuestNoesModel", "fault", "I", false)
  | 15 => ("GuestNoesModel", "heardTopic", "[I", true)
  | 16 => ("GuestNoesModel", "heardIs", "[Z", true)
  | 17 => ("GuestNoesModel", "heard", "I", false)
  | 18 => ("GuestNoesModel", "bookGuest", "[I", true)
  | 19 => ("GuestNoesModel", "bookHost", "[I", true)
  | 20 => ("GuestNoesModel", "book", "I", false)
  | 21 => ("GuestNoesModel", "at", "I", false)
  | 22 => ("GuestNoesModel", "readFault", "I", false)
  | 23 => ("GuestNoesModel", "readPlace", "I", false)
  | 24 => ("GuestNoesModel", "newThere", "Z", false)
  | 25 => ("GuestNoesModel", "newFacts", "I", false)
  | 26 => ("GuestNoesModel", "newGuests", "I", false)
  | 27 => ("GuestNoesModel", "newHosts", "I", false)
  | 28 => ("GuestNoesModel", "newPride", "[I", true)
  | 29 => ("GuestNoesModel", "newClaim", "[I", true)
  | 30 => ("GuestNoesModel", "newClaims", "[I", true)
  | 31 => ("GuestNoesModel", "newKind", "[I", true)
  | 32 => ("GuestNoesModel", "newNoes", "[I", true)
  | 33 => ("GuestNoesModel", "left", "[I", true)
  | _ => ("GuestNoesModel", "worth", "[I", true)
def gn_ty12 : Nat → FieldType := fun k => match k with
  | 0 => .array .int
  | 1 => .array .int
  | 2 => .array .int
  | 3 => .array .int
  | 4 => .array .int
  | 5 => .array .int
  | 6 => .boolean
  | 7 => .int
  | 8 => .int
  | 9 => .int
  | 10 => .int
  | 11 => .int
  | 12 => .array .int
  | 13 => .int
  | 14 => .int
  | 15 => .array .int
  | 16 => .array .boolean
  | 17 => .int
  | 18 => .array .int
  | 19 => .array .int
  | 20 => .int
  | 21 => .int
  | 22 => .int
  | 23 => .int
  | 24 => .boolean
  | 25 => .int
  | 26 => .int
  | 27 => .int
  | 28 => .array .int
  | 29 => .array .int
  | 30 => .array .int
  | 31 => .array .int
  | 32 => .array .int
  | 33 => .array .int
  | _ => .array .int
def gn_cls : List vw_C := [("GuestNoes$Book", gn_T0, 3), ("GuestNoes$Draws", gn_T1, 1), ("GuestNoes$Ear", gn_T2, 3), ("GuestNoes$Image", gn_T3, 3), ("GuestNoes$Night", gn_T4, 1), ("GuestNoes$Past", gn_T5, 3), ("GuestNoes$Pick", gn_T6, 3), ("GuestNoes$Planner", gn_T7, 8), ("GuestNoes$Reader", gn_T8, 5), ("GuestNoes$Table", gn_T9, 11), ("GuestNoes$Waiting", gn_T10, 4), ("GuestNoes", gn_T11, 13), ("GuestNoesModel", gn_T12, 35)]
def gn_tys : List (Nat → FieldType) := [gn_ty0, gn_ty1, gn_ty2, gn_ty3, gn_ty4, gn_ty5, gn_ty6, gn_ty7, gn_ty8, gn_ty9, gn_ty10, gn_ty11, gn_ty12]
def gn_nms : List String := ["GuestNoes$Book", "GuestNoes$Draws", "GuestNoes$Ear", "GuestNoes$Image", "GuestNoes$Night", "GuestNoes$Past", "GuestNoes$Pick", "GuestNoes$Planner", "GuestNoes$Reader", "GuestNoes$Table", "GuestNoes$Waiting", "GuestNoes", "GuestNoesModel", "java/lang/Integer"]
/-- what each object is: an array (of booleans?, its length), or an object (its class, its fields: 0 an int, 1 the one or the other table, 2 a boolean, r + 3 the object r) -/
noncomputable def gn_lay (o : Nat) : (Bool × Nat) ⊕ (Nat × List Nat) := bif Nat.blt o 31 then (bif Nat.blt o 15 then (bif Nat.blt o 7 then (bif Nat.blt o 3 then (bif Nat.blt o 1 then (.inr (11, [4, 6, 8, 10, 12, 14, 15, 16, 22, 25, 28, 1, 1])) else (bif Nat.blt o 2 then (.inr (8, [5, 0, 0, 0, 0])) else (.inl (false, 240)))) else (bif Nat.blt o 5 then (bif Nat.blt o 4 then (.inr (4, [7])) else (.inl (false, 28))) else (bif Nat.blt o 6 then (.inr (5, [9, 0, 0])) else (.inl (false, 840))))) else (bif Nat.blt o 11 then (bif Nat.blt o 9 then (bif Nat.blt o 8 then (.inr (3, [11, 0, 2])) else (.inl (false, 28))) else (bif Nat.blt o 10 then (.inr (3, [13, 0, 2])) else (.inl (false, 28)))) else (bif Nat.blt o 13 then (bif Nat.blt o 12 then (.inr (1, [0])) else (.inr (6, [0, 0, 0]))) else (bif Nat.blt o 14 then (.inr (7, [17, 18, 19, 20, 21, 0, 0, 0])) else (.inl (false, 24)))))) else (bif Nat.blt o 23 then (bif Nat.blt o 19 then (bif Nat.blt o 17 then (bif Nat.blt o 16 then (.inl (false, 7)) else (.inl (false, 4))) else (bif Nat.blt o 18 then (.inl (false, 6)) else (.inl (false, 6)))) else (bif Nat.blt o 21 then (bif Nat.blt o 20 then (.inr (10, [23, 24, 0, 0])) else (.inl (false, 64))) else (bif Nat.blt o 22 then (.inl (false, 6)) else (.inr (2, [26, 27, 0]))))) else (bif Nat.blt o 27 then (bif Nat.blt o 25 then (bif Nat.blt o 24 then (.inl (false, 6)) else (.inl (true, 6))) else (bif Nat.blt o 26 then (.inr (0, [29, 30, 0])) else (.inl (false, 20)))) else (bif Nat.blt o 29 then (bif Nat.blt o 28 then (.inl (false, 20)) else (.inr (9, [2, 0, 0, 0, 32, 33, 34, 35, 36, 37, 38]))) else (bif Nat.blt o 30 then (.inl (false, 6)) else (.inl (false, 6))))))) else (bif Nat.blt o 47 then (bif Nat.blt o 39 then (bif Nat.blt o 35 then (bif Nat.blt o 33 then (bif Nat.blt o 32 then (.inl (false, 36)) else (.inl (false, 36))) else (bif Nat.blt o 34 then (.inl (false, 6)) else (.inl (false, 4)))) else (bif Nat.blt o 37 then (bif Nat.blt o 36 then (.inl (false, 4)) else (.inr (9, [2, 0, 0, 0, 40, 41, 42, 43, 44, 45, 46]))) else (bif Nat.blt o 38 then (.inl (false, 6)) else (.inl (false, 6))))) else (bif Nat.blt o 43 then (bif Nat.blt o 41 then (bif Nat.blt o 40 then (.inl (false, 36)) else (.inl (false, 36))) else (bif Nat.blt o 42 then (.inl (false, 6)) else (.inl (false, 4)))) else (bif Nat.blt o 45 then (bif Nat.blt o 44 then (.inl (false, 4)) else (.inr (12, [48, 49, 50, 51, 52, 53, 2, 0, 0, 0, 0, 0, 54, 0, 0, 55, 56, 0, 57, 58, 0, 0, 0, 0, 2, 0, 0, 0, 59, 60, 61, 62, 63, 64, 65]))) else (bif Nat.blt o 46 then (.inl (false, 957)) else (.inl (false, 6)))))) else (bif Nat.blt o 55 then (bif Nat.blt o 51 then (bif Nat.blt o 49 then (bif Nat.blt o 48 then (.inl (false, 36)) else (.inl (false, 6))) else (bif Nat.blt o 50 then (.inl (false, 4)) else (.inl (false, 4)))) else (bif Nat.blt o 53 then (bif Nat.blt o 52 then (.inl (false, 240)) else (.inl (false, 6))) else (bif Nat.blt o 54 then (.inl (true, 6)) else (.inl (false, 20))))) else (bif Nat.blt o 59 then (bif Nat.blt o 57 then (bif Nat.blt o 56 then (.inl (false, 20)) else (.inl (false, 6))) else (bif Nat.blt o 58 then (.inl (false, 36)) else (.inl (false, 6)))) else (bif Nat.blt o 61 then (bif Nat.blt o 60 then (.inl (false, 4)) else (.inl (false, 4))) else (bif Nat.blt o 62 then (.inl (false, 4)) else (.inl (false, 64)))))))
abbrev gn_NO : Nat := 63
/- objects: 0 G, 1 reader, 2 reader.letters, 3 night, 4 night.row, 5 past, 6 past.rows, 7 img0, 8 img0.row, 9 img1, 10 img1.row, 11 draws, 12 pick, 13 planner, 14 planner.gains, 15 planner.hopes, 16 planner.left, 17 planner.tried, 18 planner.chosen, 19 waiting, 20 waiting.worths, 21 waiting.joys, 22 ear, 23 ear.topics, 24 ear.claimed, 25 book, 26 book.guests, 27 book.hosts, 28 tab, 29 tab.prides, 30 tab.claimCounts, 31 tab.topics, 32 tab.bolds, 33 tab.topicSets, 34 tab.kinds, 35 tab.noNumbers, 36 spare, 37 spare.prides, 38 spare.claimCounts, 39 spare.topics, 40 spare.bolds, 41 spare.topicSets, 42 spare.kinds, 43 spare.noNumbers, 44 m, 45 m.w, 46 m.pride, 47 m.claim, 48 m.claims, 49 m.kind, 50 m.noes, 51 m.text, 52 m.heardTopic, 53 m.heardIs, 54 m.bookGuest, 55 m.bookHost, 56 m.newPride, 57 m.newClaim, 58 m.newClaims, 59 m.newKind, 60 m.newNoes, 61 m.left, 62 m.worth -/
/- methods: 0 X0_enter, 1 X0_firstFalse, 2 X1_draw, 3 X1_deed, 4 X2_note, 5 X2_whoFits, 6 X2_fits, 7 X2_bestTopic, 8 X2_greaterPart, 9 X3_take, 10 X3_putBack, 11 X4_begin, 12 X4_passEvening, 13 X4_seatAll, 14 X4_isSeat, 15 X4_said, 16 X4_toldBy, 17 X4_toldAt, 18 X4_noesLeft, 19 X4_whoIsUp, 20 X4_whoWalks, 21 X4_glad, 22 X4_insults, 23 X4_hours, 24 X4_evenings, 25 X4_isUp, 26 X4_firstOpenClaim, 27 X4_canSpeak, 28 X4_speak, 29 X4_canBeTold, 30 X4_canContradict, 31 X4_contradict, 32 X4_shareNo, 33 X4_tell, 34 X4_addGlad, 35 X4_retire, 36 X4_passHour, 37 X4_whoWasTold, 38 X4_joyWhenTold, 39 X4_whoWasToldMeanly, 40 X4_leastPleased, 41 X5_forget, 42 X5_remember, 43 X5_giveBack, 44 X6_seek, 45 X7_seek, 46 X7_weighGuest, 47 X7_sumHopes, 48 X7_choose, 49 X7_hostOf, 50 X8_append, 51 X8_readInto, 52 X8_isMoreToRead, 53 X8_readClause, 54 X8_readTruths, 55 X8_readGuest, 56 X8_readHost, 57 X8_readEndOfClause, 58 X8_readNumber, 59 X8_nextWord, 60 X8_letterAt, 61 X8_isFigure, 62 X8_blame, 63 X9_clear, 64 X9_addGuest, 65 X9_addClaimToLastGuest, 66 X9_addHost, 67 X9_hasGuest, 68 X9_hasHost, 69 X9_hasClaim, 70 X9_pride, 71 X9_claimCount, 72 X9_topic, 73 X9_bold, 74 X9_kind, 75 X9_noes, 76 X9_isTrue, 77 X9_joyWithNoneAhead, 78 X9_joyByKind, 79 X9_joyOf, 80 X9_mostJoyFrom, 81 X9_wrongAt, 82 X9_whoIsRight, 83 X9_topicsOf, 84 X9_claimsTopic, 85 X9_topicsOfNobody, 86 X9_boldestGuest, 87 X9_boldnessOn, 88 X10_weigh, 89 X10_meanOf, 90 X10_worthOfAll, 91 X10_isWorthIt, 92 X11_feed, 93 X11_evening, 94 X11_fault, 95 X11_told, 96 X11_guest, 97 X11_claim, 98 X11_host, 99 X11_say, 100 X11_no, 101 X11_share, 102 X11_bed, 103 X11_hour, 104 X11_anew, 105 X11_drift, 106 X11_undo, 107 X11_joy, 108 X11_best, 109 X11_plan, 110 X11_line, 111 X11_now, 112 X11_agree, 113 X11_boldest, 114 X11_dry, 115 X11_hear, 116 X11_couldBe, 117 X11_ask, 118 X11_write, 119 X11_judge, 120 X11_tear, 121 X11_seed, 122 X11_keep, 123 X11_goBack, 124 X11_isNoClaimNumber, 125 X11_isNoTopic, 126 X11_isNoImage, 127 X11_areNoTwoGuests, 128 X11_imageAt, 129 X11_refusalOfHours, 130 X12_in, 131 X12_has, 132 X12_isGuest, 133 X12_isHost, 134 X12_copyRow, 135 X12_feed, 136 X12_wrong, 137 X12_fine, 138 X12_here, 139 X12_number, 140 X12_readFacts, 141 X12_readGuest, 142 X12_readHost, 143 X12_readClause, 144 X12_evening, 145 X12_begin, 146 X12_allAnew, 147 X12_fault, 148 X12_topicOf, 149 X12_boldOf, 150 X12_plainJoy, 151 X12_joyOf, 152 X12_allTold, 153 X12_wrongAt, 154 X12_rightOnes, 155 X12_topicsOf, 156 X12_nobodys, 157 X12_meanly, 158 X12_leastPleased, 159 X12_told, 160 X12_guest, 161 X12_claim, 162 X12_host, 163 X12_remember, 164 X12_say, 165 X12_isOpen, 166 X12_glad, 167 X12_tell, 168 X12_noBy, 169 X12_no, 170 X12_share, 171 X12_goToBed, 172 X12_bed, 173 X12_goOn, 174 X12_whyNot, 175 X12_hour, 176 X12_anew, 177 X12_draw, 178 X12_doByDraws, 179 X12_drift, 180 X12_undo, 181 X12_joy, 182 X12_firstOpen, 183 X12_mostBy, 184 X12_best, 185 X12_planned, 186 X12_power, 187 X12_plan, 188 X12_layWorth, 189 X12_notSaid, 190 X12_line, 191 X12_now, 192 X12_agree, 193 X12_boldest, 194 X12_dry, 195 X12_hear, 196 X12_couldBe, 197 X12_ask, 198 X12_write, 199 X12_judge, 200 X12_tear, 201 X12_seed, 202 X12_keep, 203 X12_goBack, 204 J6_bitCount_0f7a4 -/
def gn_meta : List (MethodName × ByteArray × Nat × Option FieldType × Bool × Nat × Nat) := [(⟨"GuestNoes$Book", "enter", "(II)Z"⟩, prog_2_method_2_code, 3, (some .boolean), false, 2, 0),
  (⟨"GuestNoes$Book", "firstFalse", "(LGuestNoes$Night;)I"⟩, prog_2_method_3_code, 3, (some .int), false, 1, 0),
  (⟨"GuestNoes$Draws", "draw", "(I)I"⟩, prog_3_method_2_code, 2, (some .int), false, 1, 1),
  (⟨"GuestNoes$Draws", "deed", "(LGuestNoes$Table;LGuestNoes$Night;)V"⟩, prog_3_method_3_code, 6, none, false, 2, 1),
  (⟨"GuestNoes$Ear", "note", "(IZ)Z"⟩, prog_4_method_2_code, 3, (some .boolean), false, 2, 2),
  (⟨"GuestNoes$Ear", "whoFits", "(LGuestNoes$Table;)I"⟩, prog_4_method_3_code, 4, (some .int), false, 1, 2),
  (⟨"GuestNoes$Ear", "fits", "(LGuestNoes$Table;I)Z"⟩, prog_4_method_4_code, 4, (some .boolean), false, 2, 2),
  (⟨"GuestNoes$Ear", "bestTopic", "(LGuestNoes$Table;)I"⟩, prog_4_method_5_code, 7, (some .int), false, 1, 2),
  (⟨"GuestNoes$Ear", "greaterPart", "(LGuestNoes$Table;II)I"⟩, prog_4_method_6_code, 5, (some .int), true, 3, 2),
  (⟨"GuestNoes$Image", "take", "(LGuestNoes$Night;LGuestNoes$Draws;)V"⟩, prog_5_method_2_code, 3, none, false, 2, 3),
  (⟨"GuestNoes$Image", "putBack", "(LGuestNoes$Night;LGuestNoes$Draws;)V"⟩, prog_5_method_3_code, 3, none, false, 2, 3),
  (⟨"GuestNoes$Night", "begin", "(LGuestNoes$Table;)V"⟩, prog_6_method_2_code, 2, none, false, 1, 4),
  (⟨"GuestNoes$Night", "passEvening", "(LGuestNoes$Table;)V"⟩, prog_6_method_3_code, 2, none, false, 1, 4),
  (⟨"GuestNoes$Night", "seatAll", "(LGuestNoes$Table;)V"⟩, prog_6_method_4_code, 3, none, false, 1, 4),
  (⟨"GuestNoes$Night", "isSeat", "(I)Z"⟩, prog_6_method_5_code, 1, (some .boolean), true, 1, 4),
  (⟨"GuestNoes$Night", "said", "(I)I"⟩, prog_6_method_6_code, 2, (some .int), false, 1, 4),
  (⟨"GuestNoes$Night", "toldBy", "(I)I"⟩, prog_6_method_7_code, 2, (some .int), false, 1, 4),
  (⟨"GuestNoes$Night", "toldAt", "(I)I"⟩, prog_6_method_8_code, 2, (some .int), false, 1, 4),
  (⟨"GuestNoes$Night", "noesLeft", "(I)I"⟩, prog_6_method_9_code, 2, (some .int), false, 1, 4),
  (⟨"GuestNoes$Night", "whoIsUp", "()I"⟩, prog_6_method_10_code, 1, (some .int), false, 0, 4),
  (⟨"GuestNoes$Night", "whoWalks", "()I"⟩, prog_6_method_11_code, 1, (some .int), false, 0, 4),
  (⟨"GuestNoes$Night", "glad", "()I"⟩, prog_6_method_12_code, 1, (some .int), false, 0, 4),
  (⟨"GuestNoes$Night", "insults", "()I"⟩, prog_6_method_13_code, 1, (some .int), false, 0, 4),
  (⟨"GuestNoes$Night", "hours", "()I"⟩, prog_6_method_14_code, 1, (some .int), false, 0, 4),
  (⟨"GuestNoes$Night", "evenings", "()I"⟩, prog_6_method_15_code, 1, (some .int), false, 0, 4),
  (⟨"GuestNoes$Night", "isUp", "(I)Z"⟩, prog_6_method_16_code, 2, (some .boolean), false, 1, 4),
  (⟨"GuestNoes$Night", "firstOpenClaim", "(I)I"⟩, prog_6_method_17_code, 2, (some .int), false, 1, 4),
  (⟨"GuestNoes$Night", "canSpeak", "(LGuestNoes$Table;I)Z"⟩, prog_6_method_18_code, 3, (some .boolean), false, 2, 4),
  (⟨"GuestNoes$Night", "speak", "(I)I"⟩, prog_6_method_19_code, 2, (some .int), false, 1, 4),
  (⟨"GuestNoes$Night", "canBeTold", "(I)Z"⟩, prog_6_method_20_code, 2, (some .boolean), false, 1, 4),
  (⟨"GuestNoes$Night", "canContradict", "(II)Z"⟩, prog_6_method_21_code, 3, (some .boolean), false, 2, 4),
  (⟨"GuestNoes$Night", "contradict", "(LGuestNoes$Table;II)I"⟩, prog_6_method_22_code, 5, (some .int), false, 3, 4),
  (⟨"GuestNoes$Night", "shareNo", "(LGuestNoes$Table;II)I"⟩, prog_6_method_23_code, 5, (some .int), false, 3, 4),
  (⟨"GuestNoes$Night", "tell", "(LGuestNoes$Table;II)I"⟩, prog_6_method_24_code, 5, (some .int), false, 3, 4),
  (⟨"GuestNoes$Night", "addGlad", "(I)V"⟩, prog_6_method_25_code, 2, none, false, 1, 4),
  (⟨"GuestNoes$Night", "retire", "(I)Z"⟩, prog_6_method_26_code, 2, (some .boolean), false, 1, 4),
  (⟨"GuestNoes$Night", "passHour", "(LGuestNoes$Table;)V"⟩, prog_6_method_27_code, 3, none, false, 1, 4),
  (⟨"GuestNoes$Night", "whoWasTold", "(LGuestNoes$Table;)I"⟩, prog_6_method_28_code, 4, (some .int), false, 1, 4),
  (⟨"GuestNoes$Night", "joyWhenTold", "(LGuestNoes$Table;I)I"⟩, prog_6_method_29_code, 3, (some .int), false, 2, 4),
  (⟨"GuestNoes$Night", "whoWasToldMeanly", "(LGuestNoes$Table;)I"⟩, prog_6_method_30_code, 4, (some .int), false, 1, 4),
  (⟨"GuestNoes$Night", "leastPleased", "(LGuestNoes$Table;)I"⟩, prog_6_method_31_code, 6, (some .int), false, 1, 4),
  (⟨"GuestNoes$Past", "forget", "()V"⟩, prog_7_method_2_code, 1, none, false, 0, 5),
  (⟨"GuestNoes$Past", "remember", "(LGuestNoes$Night;)V"⟩, prog_7_method_3_code, 2, none, false, 1, 5),
  (⟨"GuestNoes$Past", "giveBack", "(LGuestNoes$Night;I)V"⟩, prog_7_method_4_code, 3, none, false, 2, 5),
  (⟨"GuestNoes$Pick", "seek", "(LGuestNoes$Table;LGuestNoes$Night;I)V"⟩, prog_8_method_2_code, 7, none, false, 3, 6),
  (⟨"GuestNoes$Planner", "seek", "(LGuestNoes$Table;LGuestNoes$Night;)V"⟩, prog_9_method_2_code, 4, none, false, 2, 7),
  (⟨"GuestNoes$Planner", "weighGuest", "(LGuestNoes$Table;LGuestNoes$Night;I)V"⟩, prog_9_method_3_code, 8, none, false, 3, 7),
  (⟨"GuestNoes$Planner", "sumHopes", "()V"⟩, prog_9_method_4_code, 4, none, false, 0, 7),
  (⟨"GuestNoes$Planner", "choose", "(II)V"⟩, prog_9_method_5_code, 5, none, false, 2, 7),
  (⟨"GuestNoes$Planner", "hostOf", "(I)I"⟩, prog_9_method_6_code, 2, (some .int), false, 1, 7),
  (⟨"GuestNoes$Reader", "append", "(I)Z"⟩, prog_10_method_2_code, 2, (some .boolean), false, 1, 8),
  (⟨"GuestNoes$Reader", "readInto", "(LGuestNoes$Table;)V"⟩, prog_10_method_3_code, 3, none, false, 1, 8),
  (⟨"GuestNoes$Reader", "isMoreToRead", "()Z"⟩, prog_10_method_4_code, 1, (some .boolean), false, 0, 8),
  (⟨"GuestNoes$Reader", "readClause", "(LGuestNoes$Table;)V"⟩, prog_10_method_5_code, 3, none, false, 1, 8),
  (⟨"GuestNoes$Reader", "readTruths", "(LGuestNoes$Table;)V"⟩, prog_10_method_6_code, 2, none, false, 1, 8),
  (⟨"GuestNoes$Reader", "readGuest", "(LGuestNoes$Table;)V"⟩, prog_10_method_7_code, 3, none, false, 1, 8),
  (⟨"GuestNoes$Reader", "readHost", "(LGuestNoes$Table;)V"⟩, prog_10_method_8_code, 3, none, false, 1, 8),
  (⟨"GuestNoes$Reader", "readEndOfClause", "()V"⟩, prog_10_method_9_code, 1, none, false, 0, 8),
  (⟨"GuestNoes$Reader", "readNumber", "(I)I"⟩, prog_10_method_10_code, 5, (some .int), false, 1, 8),
  (⟨"GuestNoes$Reader", "nextWord", "()I"⟩, prog_10_method_11_code, 1, (some .int), false, 0, 8),
  (⟨"GuestNoes$Reader", "letterAt", "(I)I"⟩, prog_10_method_12_code, 2, (some .int), false, 1, 8),
  (⟨"GuestNoes$Reader", "isFigure", "(I)Z"⟩, prog_10_method_13_code, 1, (some .boolean), true, 1, 8),
  (⟨"GuestNoes$Reader", "blame", "(II)V"⟩, prog_10_method_14_code, 3, none, false, 2, 8),
  (⟨"GuestNoes$Table", "clear", "()V"⟩, prog_11_method_2_code, 1, none, false, 0, 9),
  (⟨"GuestNoes$Table", "addGuest", "(I)V"⟩, prog_11_method_3_code, 2, none, false, 1, 9),
  (⟨"GuestNoes$Table", "addClaimToLastGuest", "(I)V"⟩, prog_11_method_4_code, 4, none, false, 1, 9),
  (⟨"GuestNoes$Table", "addHost", "(II)V"⟩, prog_11_method_5_code, 3, none, false, 2, 9),
  (⟨"GuestNoes$Table", "hasGuest", "(I)Z"⟩, prog_11_method_6_code, 2, (some .boolean), false, 1, 9),
  (⟨"GuestNoes$Table", "hasHost", "(I)Z"⟩, prog_11_method_7_code, 2, (some .boolean), false, 1, 9),
  (⟨"GuestNoes$Table", "hasClaim", "(II)Z"⟩, prog_11_method_8_code, 3, (some .boolean), false, 2, 9),
  (⟨"GuestNoes$Table", "pride", "(I)I"⟩, prog_11_method_9_code, 2, (some .int), false, 1, 9),
  (⟨"GuestNoes$Table", "claimCount", "(I)I"⟩, prog_11_method_10_code, 2, (some .int), false, 1, 9),
  (⟨"GuestNoes$Table", "topic", "(II)I"⟩, prog_11_method_11_code, 3, (some .int), false, 2, 9),
  (⟨"GuestNoes$Table", "bold", "(II)I"⟩, prog_11_method_12_code, 3, (some .int), false, 2, 9),
  (⟨"GuestNoes$Table", "kind", "(I)I"⟩, prog_11_method_13_code, 2, (some .int), false, 1, 9),
  (⟨"GuestNoes$Table", "noes", "(I)I"⟩, prog_11_method_14_code, 2, (some .int), false, 1, 9),
  (⟨"GuestNoes$Table", "isTrue", "(I)Z"⟩, prog_11_method_15_code, 2, (some .boolean), false, 1, 9),
  (⟨"GuestNoes$Table", "joyWithNoneAhead", "(III)I"⟩, prog_11_method_16_code, 7, (some .int), false, 3, 9),
  (⟨"GuestNoes$Table", "joyByKind", "(IIZ)I"⟩, prog_11_method_17_code, 3, (some .int), true, 3, 9),
  (⟨"GuestNoes$Table", "joyOf", "(III)I"⟩, prog_11_method_18_code, 5, (some .int), false, 3, 9),
  (⟨"GuestNoes$Table", "mostJoyFrom", "(III)I"⟩, prog_11_method_19_code, 6, (some .int), false, 3, 9),
  (⟨"GuestNoes$Table", "wrongAt", "(I)I"⟩, prog_11_method_20_code, 4, (some .int), false, 1, 9),
  (⟨"GuestNoes$Table", "whoIsRight", "()I"⟩, prog_11_method_21_code, 3, (some .int), false, 0, 9),
  (⟨"GuestNoes$Table", "topicsOf", "(I)I"⟩, prog_11_method_22_code, 2, (some .int), false, 1, 9),
  (⟨"GuestNoes$Table", "claimsTopic", "(II)Z"⟩, prog_11_method_23_code, 3, (some .boolean), false, 2, 9),
  (⟨"GuestNoes$Table", "topicsOfNobody", "()I"⟩, prog_11_method_24_code, 3, (some .int), false, 0, 9),
  (⟨"GuestNoes$Table", "boldestGuest", "(I)I"⟩, prog_11_method_25_code, 6, (some .int), false, 1, 9),
  (⟨"GuestNoes$Table", "boldnessOn", "(II)I"⟩, prog_11_method_26_code, 6, (some .int), false, 2, 9),
  (⟨"GuestNoes$Waiting", "weigh", "(LGuestNoes$Table;III)V"⟩, prog_12_method_2_code, 6, none, false, 4, 10),
  (⟨"GuestNoes$Waiting", "meanOf", "(I)I"⟩, prog_12_method_3_code, 5, (some .int), false, 1, 10),
  (⟨"GuestNoes$Waiting", "worthOfAll", "()I"⟩, prog_12_method_4_code, 1, (some .int), false, 0, 10),
  (⟨"GuestNoes$Waiting", "isWorthIt", "(I)Z"⟩, prog_12_method_5_code, 4, (some .boolean), false, 1, 10),
  (⟨"GuestNoes", "feed", "(I)I"⟩, prog_1_method_2_code, 2, (some .int), false, 1, 11),
  (⟨"GuestNoes", "evening", "()I"⟩, prog_1_method_3_code, 2, (some .int), false, 0, 11),
  (⟨"GuestNoes", "fault", "()I"⟩, prog_1_method_4_code, 1, (some .int), false, 0, 11),
  (⟨"GuestNoes", "told", "(I)I"⟩, prog_1_method_5_code, 2, (some .int), false, 1, 11),
  (⟨"GuestNoes", "guest", "(II)I"⟩, prog_1_method_6_code, 3, (some .int), false, 2, 11),
  (⟨"GuestNoes", "claim", "(III)I"⟩, prog_1_method_7_code, 4, (some .int), false, 3, 11),
  (⟨"GuestNoes", "host", "(II)I"⟩, prog_1_method_8_code, 3, (some .int), false, 2, 11),
  (⟨"GuestNoes", "say", "(I)I"⟩, prog_1_method_9_code, 2, (some .int), false, 1, 11),
  (⟨"GuestNoes", "no", "(II)I"⟩, prog_1_method_10_code, 3, (some .int), false, 2, 11),
  (⟨"GuestNoes", "share", "(II)I"⟩, prog_1_method_11_code, 3, (some .int), false, 2, 11),
  (⟨"GuestNoes", "bed", "(I)I"⟩, prog_1_method_12_code, 2, (some .int), false, 1, 11),
  (⟨"GuestNoes", "hour", "(I)I"⟩, prog_1_method_13_code, 4, (some .int), false, 1, 11),
  (⟨"GuestNoes", "anew", "()I"⟩, prog_1_method_14_code, 1, (some .int), false, 0, 11),
  (⟨"GuestNoes", "drift", "(I)I"⟩, prog_1_method_15_code, 4, (some .int), false, 1, 11),
  (⟨"GuestNoes", "undo", "(I)I"⟩, prog_1_method_16_code, 2, (some .int), false, 1, 11),
  (⟨"GuestNoes", "joy", "(III)I"⟩, prog_1_method_17_code, 4, (some .int), false, 3, 11),
  (⟨"GuestNoes", "best", "(II)I"⟩, prog_1_method_18_code, 3, (some .int), false, 2, 11),
  (⟨"GuestNoes", "plan", "(I)I"⟩, prog_1_method_19_code, 2, (some .int), false, 1, 11),
  (⟨"GuestNoes", "line", "(II)I"⟩, prog_1_method_20_code, 3, (some .int), false, 2, 11),
  (⟨"GuestNoes", "now", "(III)I"⟩, prog_1_method_21_code, 4, (some .int), false, 3, 11),
  (⟨"GuestNoes", "agree", "(II)I"⟩, prog_1_method_22_code, 3, (some .int), false, 2, 11),
  (⟨"GuestNoes", "boldest", "(I)I"⟩, prog_1_method_23_code, 2, (some .int), false, 1, 11),
  (⟨"GuestNoes", "dry", "(II)I"⟩, prog_1_method_24_code, 6, (some .int), false, 2, 11),
  (⟨"GuestNoes", "hear", "(IZ)I"⟩, prog_1_method_25_code, 3, (some .int), false, 2, 11),
  (⟨"GuestNoes", "couldBe", "()I"⟩, prog_1_method_26_code, 1, (some .int), false, 0, 11),
  (⟨"GuestNoes", "ask", "()I"⟩, prog_1_method_27_code, 1, (some .int), false, 0, 11),
  (⟨"GuestNoes", "write", "(II)I"⟩, prog_1_method_28_code, 3, (some .int), false, 2, 11),
  (⟨"GuestNoes", "judge", "()I"⟩, prog_1_method_29_code, 1, (some .int), false, 0, 11),
  (⟨"GuestNoes", "tear", "()I"⟩, prog_1_method_30_code, 2, (some .int), false, 0, 11),
  (⟨"GuestNoes", "seed", "(I)I"⟩, prog_1_method_31_code, 3, (some .int), false, 1, 11),
  (⟨"GuestNoes", "keep", "(I)I"⟩, prog_1_method_32_code, 2, (some .int), false, 1, 11),
  (⟨"GuestNoes", "goBack", "(I)I"⟩, prog_1_method_33_code, 3, (some .int), false, 1, 11),
  (⟨"GuestNoes", "isNoClaimNumber", "(I)Z"⟩, prog_1_method_34_code, 1, (some .boolean), true, 1, 11),
  (⟨"GuestNoes", "isNoTopic", "(I)Z"⟩, prog_1_method_35_code, 1, (some .boolean), true, 1, 11),
  (⟨"GuestNoes", "isNoImage", "(I)Z"⟩, prog_1_method_36_code, 1, (some .boolean), true, 1, 11),
  (⟨"GuestNoes", "areNoTwoGuests", "(II)Z"⟩, prog_1_method_37_code, 3, (some .boolean), false, 2, 11),
  (⟨"GuestNoes", "imageAt", "(I)LGuestNoes$Image;"⟩, prog_1_method_38_code, 2, (some (.object "GuestNoes$Image")), false, 1, 11),
  (⟨"GuestNoes", "refusalOfHours", "(I)I"⟩, prog_1_method_39_code, 2, (some .int), false, 1, 11),
  (⟨"GuestNoesModel", "in", "(III)Z"⟩, prog_14_method_3_code, 3, (some .boolean), true, 3, 12),
  (⟨"GuestNoesModel", "has", "(II)Z"⟩, prog_14_method_4_code, 2, (some .boolean), true, 2, 12),
  (⟨"GuestNoesModel", "isGuest", "(I)Z"⟩, prog_14_method_5_code, 2, (some .boolean), false, 1, 12),
  (⟨"GuestNoesModel", "isHost", "(I)Z"⟩, prog_14_method_6_code, 2, (some .boolean), false, 1, 12),
  (⟨"GuestNoesModel", "copyRow", "(II)V"⟩, prog_14_method_7_code, 4, none, false, 2, 12),
  (⟨"GuestNoesModel", "feed", "(I)I"⟩, prog_14_method_8_code, 2, (some .int), false, 1, 12),
  (⟨"GuestNoesModel", "wrong", "(II)V"⟩, prog_14_method_9_code, 3, none, false, 2, 12),
  (⟨"GuestNoesModel", "fine", "()Z"⟩, prog_14_method_10_code, 1, (some .boolean), false, 0, 12),
  (⟨"GuestNoesModel", "here", "()I"⟩, prog_14_method_11_code, 1, (some .int), false, 0, 12),
  (⟨"GuestNoesModel", "number", "(I)I"⟩, prog_14_method_12_code, 4, (some .int), false, 1, 12),
  (⟨"GuestNoesModel", "readFacts", "(I)V"⟩, prog_14_method_13_code, 2, none, false, 1, 12),
  (⟨"GuestNoesModel", "readGuest", "(I)V"⟩, prog_14_method_14_code, 4, none, false, 1, 12),
  (⟨"GuestNoesModel", "readHost", "(I)V"⟩, prog_14_method_15_code, 2, none, false, 1, 12),
  (⟨"GuestNoesModel", "readClause", "()V"⟩, prog_14_method_16_code, 3, none, false, 0, 12),
  (⟨"GuestNoesModel", "evening", "()I"⟩, prog_14_method_17_code, 1, (some .int), false, 0, 12),
  (⟨"GuestNoesModel", "begin", "()V"⟩, prog_14_method_18_code, 3, none, false, 0, 12),
  (⟨"GuestNoesModel", "allAnew", "()V"⟩, prog_14_method_19_code, 2, none, false, 0, 12),
  (⟨"GuestNoesModel", "fault", "()I"⟩, prog_14_method_20_code, 1, (some .int), false, 0, 12),
  (⟨"GuestNoesModel", "topicOf", "(II)I"⟩, prog_14_method_21_code, 3, (some .int), false, 2, 12),
  (⟨"GuestNoesModel", "boldOf", "(II)I"⟩, prog_14_method_22_code, 3, (some .int), false, 2, 12),
  (⟨"GuestNoesModel", "plainJoy", "(III)I"⟩, prog_14_method_23_code, 7, (some .int), false, 3, 12),
  (⟨"GuestNoesModel", "joyOf", "(III)I"⟩, prog_14_method_24_code, 4, (some .int), false, 3, 12),
  (⟨"GuestNoesModel", "allTold", "()I"⟩, prog_14_method_25_code, 3, (some .int), false, 0, 12),
  (⟨"GuestNoesModel", "wrongAt", "(I)I"⟩, prog_14_method_26_code, 3, (some .int), false, 1, 12),
  (⟨"GuestNoesModel", "rightOnes", "()I"⟩, prog_14_method_27_code, 3, (some .int), false, 0, 12),
  (⟨"GuestNoesModel", "topicsOf", "(I)I"⟩, prog_14_method_28_code, 4, (some .int), false, 1, 12),
  (⟨"GuestNoesModel", "nobodys", "()I"⟩, prog_14_method_29_code, 3, (some .int), false, 0, 12),
  (⟨"GuestNoesModel", "meanly", "()I"⟩, prog_14_method_30_code, 5, (some .int), false, 0, 12),
  (⟨"GuestNoesModel", "leastPleased", "()I"⟩, prog_14_method_31_code, 5, (some .int), false, 0, 12),
  (⟨"GuestNoesModel", "told", "(I)I"⟩, prog_14_method_32_code, 2, (some .int), false, 1, 12),
  (⟨"GuestNoesModel", "guest", "(II)I"⟩, prog_14_method_33_code, 3, (some .int), false, 2, 12),
  (⟨"GuestNoesModel", "claim", "(III)I"⟩, prog_14_method_34_code, 4, (some .int), false, 3, 12),
  (⟨"GuestNoesModel", "host", "(II)I"⟩, prog_14_method_35_code, 3, (some .int), false, 2, 12),
  (⟨"GuestNoesModel", "remember", "()V"⟩, prog_14_method_36_code, 2, none, false, 0, 12),
  (⟨"GuestNoesModel", "say", "(I)I"⟩, prog_14_method_37_code, 2, (some .int), false, 1, 12),
  (⟨"GuestNoesModel", "isOpen", "(I)Z"⟩, prog_14_method_38_code, 2, (some .boolean), false, 1, 12),
  (⟨"GuestNoesModel", "glad", "(I)V"⟩, prog_14_method_39_code, 2, none, false, 1, 12),
  (⟨"GuestNoesModel", "tell", "(II)I"⟩, prog_14_method_40_code, 3, (some .int), false, 2, 12),
  (⟨"GuestNoesModel", "noBy", "(II)I"⟩, prog_14_method_41_code, 4, (some .int), false, 2, 12),
  (⟨"GuestNoesModel", "no", "(II)I"⟩, prog_14_method_42_code, 3, (some .int), false, 2, 12),
  (⟨"GuestNoesModel", "share", "(II)I"⟩, prog_14_method_43_code, 4, (some .int), false, 2, 12),
  (⟨"GuestNoesModel", "goToBed", "(I)I"⟩, prog_14_method_44_code, 2, (some .int), false, 1, 12),
  (⟨"GuestNoesModel", "bed", "(I)I"⟩, prog_14_method_45_code, 2, (some .int), false, 1, 12),
  (⟨"GuestNoesModel", "goOn", "()V"⟩, prog_14_method_46_code, 3, none, false, 0, 12),
  (⟨"GuestNoesModel", "whyNot", "(I)I"⟩, prog_14_method_47_code, 2, (some .int), false, 1, 12),
  (⟨"GuestNoesModel", "hour", "(I)I"⟩, prog_14_method_48_code, 3, (some .int), false, 1, 12),
  (⟨"GuestNoesModel", "anew", "()I"⟩, prog_14_method_49_code, 1, (some .int), false, 0, 12),
  (⟨"GuestNoesModel", "draw", "(I)I"⟩, prog_14_method_50_code, 2, (some .int), false, 1, 12),
  (⟨"GuestNoesModel", "doByDraws", "()V"⟩, prog_14_method_51_code, 5, none, false, 0, 12),
  (⟨"GuestNoesModel", "drift", "(I)I"⟩, prog_14_method_52_code, 3, (some .int), false, 1, 12),
  (⟨"GuestNoesModel", "undo", "(I)I"⟩, prog_14_method_53_code, 3, (some .int), false, 1, 12),
  (⟨"GuestNoesModel", "joy", "(III)I"⟩, prog_14_method_54_code, 4, (some .int), false, 3, 12),
  (⟨"GuestNoesModel", "firstOpen", "(I)I"⟩, prog_14_method_55_code, 2, (some .int), false, 1, 12),
  (⟨"GuestNoesModel", "mostBy", "(II)I"⟩, prog_14_method_56_code, 5, (some .int), false, 2, 12),
  (⟨"GuestNoesModel", "best", "(II)I"⟩, prog_14_method_57_code, 8, (some .int), false, 2, 12),
  (⟨"GuestNoesModel", "planned", "(I)I"⟩, prog_14_method_58_code, 6, (some .int), false, 1, 12),
  (⟨"GuestNoesModel", "power", "(II)I"⟩, prog_14_method_59_code, 4, (some .int), true, 2, 12),
  (⟨"GuestNoesModel", "plan", "(I)I"⟩, prog_14_method_60_code, 6, (some .int), false, 1, 12),
  (⟨"GuestNoesModel", "layWorth", "(II)V"⟩, prog_14_method_61_code, 9, none, false, 2, 12),
  (⟨"GuestNoesModel", "notSaid", "(I)I"⟩, prog_14_method_62_code, 2, (some .int), false, 1, 12),
  (⟨"GuestNoesModel", "line", "(II)I"⟩, prog_14_method_63_code, 3, (some .int), false, 2, 12),
  (⟨"GuestNoesModel", "now", "(III)I"⟩, prog_14_method_64_code, 4, (some .int), false, 3, 12),
  (⟨"GuestNoesModel", "agree", "(II)I"⟩, prog_14_method_65_code, 3, (some .int), false, 2, 12),
  (⟨"GuestNoesModel", "boldest", "(I)I"⟩, prog_14_method_66_code, 6, (some .int), false, 1, 12),
  (⟨"GuestNoesModel", "dry", "(II)I"⟩, prog_14_method_67_code, 6, (some .int), false, 2, 12),
  (⟨"GuestNoesModel", "hear", "(IZ)I"⟩, prog_14_method_68_code, 3, (some .int), false, 2, 12),
  (⟨"GuestNoesModel", "couldBe", "()I"⟩, prog_14_method_69_code, 5, (some .int), false, 0, 12),
  (⟨"GuestNoesModel", "ask", "()I"⟩, prog_14_method_70_code, 8, (some .int), false, 0, 12),
  (⟨"GuestNoesModel", "write", "(II)I"⟩, prog_14_method_71_code, 3, (some .int), false, 2, 12),
  (⟨"GuestNoesModel", "judge", "()I"⟩, prog_14_method_72_code, 2, (some .int), false, 0, 12),
  (⟨"GuestNoesModel", "tear", "()I"⟩, prog_14_method_73_code, 2, (some .int), false, 0, 12),
  (⟨"GuestNoesModel", "seed", "(I)I"⟩, prog_14_method_74_code, 3, (some .int), false, 1, 12),
  (⟨"GuestNoesModel", "keep", "(I)I"⟩, prog_14_method_75_code, 2, (some .int), false, 1, 12),
  (⟨"GuestNoesModel", "goBack", "(I)I"⟩, prog_14_method_76_code, 2, (some .int), false, 1, 12),
  (⟨"java/lang/Integer", "bitCount", "(I)I"⟩, prog_15_method_49_code, 1, (some .int), true, 1, 13)]
abbrev gn_NM : Nat := 205
end
section
/-! code tables: printed by wip/whole/gen/tables.py -/
/-- X0_enter -/
noncomputable def gn_c0 (pc : Nat) : Option gn_En := bif Nat.blt pc 22 then (bif Nat.blt pc 11 then (bif Nat.blt pc 6 then (bif Nat.blt pc 1 then (bif Nat.beq pc 0 then some (.aload_n 0, 1, 0, 0, 0) else none) else (bif Nat.blt pc 4 then (bif Nat.beq pc 1 then some (.getfield 18, 4, 0, 2, 0) else none) else (bif Nat.beq pc 4 then some (.bipush 20, 6, 0, 0, 20) else none))) else (bif Nat.blt pc 9 then (bif Nat.beq pc 6 then some (.if_icmp .lt 5, 9, 11, 0, 0) else none) else (bif Nat.blt pc 10 then (bif Nat.beq pc 9 then some (.iconst 0, 10, 0, 0, 0) else none) else (bif Nat.beq pc 10 then some (.ireturn, 11, 0, 0, 0) else none)))) else (bif Nat.blt pc 16 then (bif Nat.blt pc 12 then (bif Nat.beq pc 11 then some (.aload_n 0, 12, 0, 0, 0) else none) else (bif Nat.blt pc 15 then (bif Nat.beq pc 12 then some (.getfield 11, 15, 0, 0, 0) else none) else (bif Nat.beq pc 15 then some (.aload_n 0, 16, 0, 0, 0) else none))) else (bif Nat.blt pc 20 then (bif Nat.blt pc 19 then (bif Nat.beq pc 16 then some (.getfield 18, 19, 0, 2, 0) else none) else (bif Nat.beq pc 19 then some (.iload_n 1, 20, 1, 0, 0) else none)) else (bif Nat.blt pc 21 then (bif Nat.beq pc 20 then some (.iastore, 21, 0, 0, 0) else none) else (bif Nat.beq pc 21 then some (.aload_n 0, 22, 0, 0, 0) else none))))) else (bif Nat.blt pc 32 then (bif Nat.blt pc 29 then (bif Nat.blt pc 25 then (bif Nat.beq pc 22 then some (.getfield 15, 25, 0, 1, 0) else none) else (bif Nat.blt pc 26 then (bif Nat.beq pc 25 then some (.aload_n 0, 26, 0, 0, 0) else none) else (bif Nat.beq pc 26 then some (.getfield 18, 29, 0, 2, 0) else none))) else (bif Nat.blt pc 30 then (bif Nat.beq pc 29 then some (.iload_n 2, 30, 2, 0, 0) else none) else (bif Nat.blt pc 31 then (bif Nat.beq pc 30 then some (.iastore, 31, 0, 0, 0) else none) else (bif Nat.beq pc 31 then some (.aload_n 0, 32, 0, 0, 0) else none)))) else (bif Nat.blt pc 37 then (bif Nat.blt pc 33 then (bif Nat.beq pc 32 then some (.dup, 33, 0, 0, 0) else none) else (bif Nat.blt pc 36 then (bif Nat.beq pc 33 then some (.getfield 18, 36, 0, 2, 0) else none) else (bif Nat.beq pc 36 then some (.iconst 1, 37, 0, 0, 1) else none))) else (bif Nat.blt pc 41 then (bif Nat.blt pc 38 then (bif Nat.beq pc 37 then some (.iadd, 38, 0, 0, 0) else none) else (bif Nat.beq pc 38 then some (.putfield 18, 41, 0, 2, 0) else none)) else (bif Nat.blt pc 42 then (bif Nat.beq pc 41 then some (.iconst 1, 42, 0, 0, 1) else none) else (bif Nat.beq pc 42 then some (.ireturn, 43, 0, 0, 0) else none)))))
/-- X0_firstFalse -/
noncomputable def gn_c1 (pc : Nat) : Option gn_En := bif Nat.blt pc 17 then (bif Nat.blt pc 7 then (bif Nat.blt pc 2 then (bif Nat.blt pc 1 then (bif Nat.beq pc 0 then some (.iconst 0, 1, 0, 0, 0) else none) else (bif Nat.beq pc 1 then some (.istore_n 2, 2, 2, 0, 0) else none)) else (bif Nat.blt pc 3 then (bif Nat.beq pc 2 then some (.iload_n 2, 3, 2, 0, 0) else none) else (bif Nat.blt pc 4 then (bif Nat.beq pc 3 then some (.aload_n 0, 4, 0, 0, 0) else none) else (bif Nat.beq pc 4 then some (.getfield 18, 7, 0, 2, 0) else none)))) else (bif Nat.blt pc 12 then (bif Nat.blt pc 10 then (bif Nat.beq pc 7 then some (.if_icmp .ge 30, 10, 37, 0, 0) else none) else (bif Nat.blt pc 11 then (bif Nat.beq pc 10 then some (.aload_n 1, 11, 1, 0, 0) else none) else (bif Nat.beq pc 11 then some (.aload_n 0, 12, 0, 0, 0) else none))) else (bif Nat.blt pc 15 then (bif Nat.beq pc 12 then some (.getfield 11, 15, 0, 0, 0) else none) else (bif Nat.blt pc 16 then (bif Nat.beq pc 15 then some (.iload_n 2, 16, 2, 0, 0) else none) else (bif Nat.beq pc 16 then some (.iaload, 17, 0, 0, 0) else none))))) else (bif Nat.blt pc 29 then (bif Nat.blt pc 24 then (bif Nat.blt pc 20 then (bif Nat.beq pc 17 then some (.invokevirtual 22, 20, 16, 1, 1) else none) else (bif Nat.blt pc 21 then (bif Nat.beq pc 20 then some (.aload_n 0, 21, 0, 0, 0) else none) else (bif Nat.beq pc 21 then some (.getfield 15, 24, 0, 1, 0) else none))) else (bif Nat.blt pc 25 then (bif Nat.beq pc 24 then some (.iload_n 2, 25, 2, 0, 0) else none) else (bif Nat.blt pc 26 then (bif Nat.beq pc 25 then some (.iaload, 26, 0, 0, 0) else none) else (bif Nat.beq pc 26 then some (.if_icmp .eq 5, 29, 31, 0, 0) else none)))) else (bif Nat.blt pc 34 then (bif Nat.blt pc 30 then (bif Nat.beq pc 29 then some (.iload_n 2, 30, 2, 0, 0) else none) else (bif Nat.blt pc 31 then (bif Nat.beq pc 30 then some (.ireturn, 31, 0, 0, 0) else none) else (bif Nat.beq pc 31 then some (.iinc 2 1, 34, 2, 0, 1) else none))) else (bif Nat.blt pc 37 then (bif Nat.beq pc 34 then some (.goto (-32), 37, 2, 0, 0) else none) else (bif Nat.blt pc 38 then (bif Nat.beq pc 37 then some (.iconst (-1), 38, 0, 0, (-1)) else none) else (bif Nat.beq pc 38 then some (.ireturn, 39, 0, 0, 0) else none)))))
/-- X1_draw -/
noncomputable def gn_c2 (pc : Nat) : Option gn_En := bif Nat.blt pc 19 then (bif Nat.blt pc 9 then (bif Nat.blt pc 2 then (bif Nat.blt pc 1 then (bif Nat.beq pc 0 then some (.aload_n 0, 1, 0, 0, 0) else none) else (bif Nat.beq pc 1 then some (.aload_n 0, 2, 0, 0, 0) else none)) else (bif Nat.blt pc 5 then (bif Nat.beq pc 2 then some (.getfield 7, 5, 1, 0, 0) else none) else (bif Nat.blt pc 6 then (bif Nat.beq pc 5 then some (.i2l, 6, 0, 0, 0) else none) else (bif Nat.beq pc 6 then some (.ldc2_w 13, 9, 0, 1103515245, 0) else none)))) else (bif Nat.blt pc 14 then (bif Nat.blt pc 10 then (bif Nat.beq pc 9 then some (.lmul, 10, 0, 0, 0) else none) else (bif Nat.blt pc 13 then (bif Nat.beq pc 10 then some (.ldc2_w 15, 13, 0, 12345, 0) else none) else (bif Nat.beq pc 13 then some (.ladd, 14, 0, 0, 0) else none))) else (bif Nat.blt pc 17 then (bif Nat.beq pc 14 then some (.ldc2_w 17, 17, 0, 2147483647, 0) else none) else (bif Nat.blt pc 18 then (bif Nat.beq pc 17 then some (.land, 18, 0, 0, 0) else none) else (bif Nat.beq pc 18 then some (.l2i, 19, 0, 0, 0) else none))))) else (bif Nat.blt pc 32 then (bif Nat.blt pc 26 then (bif Nat.blt pc 22 then (bif Nat.beq pc 19 then some (.putfield 7, 22, 1, 0, 0) else none) else (bif Nat.blt pc 23 then (bif Nat.beq pc 22 then some (.iload_n 1, 23, 1, 0, 0) else none) else (bif Nat.beq pc 23 then some (.ifCond .le 15, 26, 38, 0, 0) else none))) else (bif Nat.blt pc 27 then (bif Nat.beq pc 26 then some (.aload_n 0, 27, 0, 0, 0) else none) else (bif Nat.blt pc 30 then (bif Nat.beq pc 27 then some (.getfield 7, 30, 1, 0, 0) else none) else (bif Nat.beq pc 30 then some (.ldc 19, 32, 0, 0, 65536) else none)))) else (bif Nat.blt pc 35 then (bif Nat.blt pc 33 then (bif Nat.beq pc 32 then some (.idiv, 33, 0, 0, 0) else none) else (bif Nat.blt pc 34 then (bif Nat.beq pc 33 then some (.iload_n 1, 34, 1, 0, 0) else none) else (bif Nat.beq pc 34 then some (.irem, 35, 0, 0, 0) else none))) else (bif Nat.blt pc 38 then (bif Nat.beq pc 35 then some (.goto 4, 38, 39, 0, 0) else none) else (bif Nat.blt pc 39 then (bif Nat.beq pc 38 then some (.iconst 0, 39, 0, 0, 0) else none) else (bif Nat.beq pc 39 then some (.ireturn, 40, 0, 0, 0) else none)))))
/-- X1_deed -/
noncomputable def gn_c3 (pc : Nat) : Option gn_En := bif Nat.blt pc 46 then (bif Nat.blt pc 22 then (bif Nat.blt pc 14 then (bif Nat.blt pc 7 then (bif Nat.blt pc 1 then (bif Nat.beq pc 0 then some (.aload_n 1, 1, 1, 0, 0) else none) else (bif Nat.blt pc 4 then (bif Nat.beq pc 1 then some (.getfield 20, 4, 9, 2, 0) else none) else (bif Nat.beq pc 4 then some (.ifCond .eq 10, 7, 14, 0, 0) else none))) else (bif Nat.blt pc 8 then (bif Nat.beq pc 7 then some (.aload_n 1, 8, 1, 0, 0) else none) else (bif Nat.blt pc 11 then (bif Nat.beq pc 8 then some (.getfield 25, 11, 9, 3, 0) else none) else (bif Nat.beq pc 11 then some (.ifCond .ne 4, 14, 15, 0, 0) else none)))) else (bif Nat.blt pc 17 then (bif Nat.blt pc 15 then (bif Nat.beq pc 14 then some (.return_, 15, 0, 0, 0) else none) else (bif Nat.blt pc 16 then (bif Nat.beq pc 15 then some (.aload_n 0, 16, 0, 0, 0) else none) else (bif Nat.beq pc 16 then some (.iconst 4, 17, 0, 0, 4) else none))) else (bif Nat.blt pc 20 then (bif Nat.beq pc 17 then some (.invokevirtual 28, 20, 2, 1, 0) else none) else (bif Nat.blt pc 21 then (bif Nat.beq pc 20 then some (.istore_n 3, 21, 3, 0, 0) else none) else (bif Nat.beq pc 21 then some (.aload_n 0, 22, 0, 0, 0) else none))))) else (bif Nat.blt pc 33 then (bif Nat.blt pc 29 then (bif Nat.blt pc 23 then (bif Nat.beq pc 22 then some (.aload_n 1, 23, 1, 0, 0) else none) else (bif Nat.blt pc 26 then (bif Nat.beq pc 23 then some (.getfield 20, 26, 9, 2, 0) else none) else (bif Nat.beq pc 26 then some (.invokevirtual 28, 29, 2, 1, 0) else none))) else (bif Nat.blt pc 31 then (bif Nat.beq pc 29 then some (.istore 4, 31, 4, 0, 0) else none) else (bif Nat.blt pc 32 then (bif Nat.beq pc 31 then some (.aload_n 0, 32, 0, 0, 0) else none) else (bif Nat.beq pc 32 then some (.aload_n 1, 33, 1, 0, 0) else none)))) else (bif Nat.blt pc 41 then (bif Nat.blt pc 36 then (bif Nat.beq pc 33 then some (.getfield 25, 36, 9, 3, 0) else none) else (bif Nat.blt pc 39 then (bif Nat.beq pc 36 then some (.invokevirtual 28, 39, 2, 1, 0) else none) else (bif Nat.beq pc 39 then some (.istore 5, 41, 5, 0, 0) else none))) else (bif Nat.blt pc 42 then (bif Nat.beq pc 41 then some (.iload_n 3, 42, 3, 0, 0) else none) else (bif Nat.blt pc 43 then (bif Nat.beq pc 42 then some (.iconst 1, 43, 0, 0, 1) else none) else (bif Nat.beq pc 43 then some (.if_icmp .gt 27, 46, 70, 0, 0) else none)))))) else (bif Nat.blt pc 70 then (bif Nat.blt pc 58 then (bif Nat.blt pc 51 then (bif Nat.blt pc 47 then (bif Nat.beq pc 46 then some (.aload_n 2, 47, 2, 0, 0) else none) else (bif Nat.blt pc 49 then (bif Nat.beq pc 47 then some (.iload 5, 49, 5, 0, 0) else none) else (bif Nat.beq pc 49 then some (.iload 4, 51, 4, 0, 0) else none))) else (bif Nat.blt pc 54 then (bif Nat.beq pc 51 then some (.invokevirtual 32, 54, 30, 2, 1) else none) else (bif Nat.blt pc 57 then (bif Nat.beq pc 54 then some (.ifCond .eq 16, 57, 70, 0, 0) else none) else (bif Nat.beq pc 57 then some (.aload_n 2, 58, 2, 0, 0) else none)))) else (bif Nat.blt pc 63 then (bif Nat.blt pc 59 then (bif Nat.beq pc 58 then some (.aload_n 1, 59, 1, 0, 0) else none) else (bif Nat.blt pc 61 then (bif Nat.beq pc 59 then some (.iload 5, 61, 5, 0, 0) else none) else (bif Nat.beq pc 61 then some (.iload 4, 63, 4, 0, 0) else none))) else (bif Nat.blt pc 66 then (bif Nat.beq pc 63 then some (.invokevirtual 38, 66, 31, 3, 1) else none) else (bif Nat.blt pc 67 then (bif Nat.beq pc 66 then some (.pop, 67, 0, 0, 0) else none) else (bif Nat.beq pc 67 then some (.goto 24, 70, 91, 0, 0) else none))))) else (bif Nat.blt pc 81 then (bif Nat.blt pc 75 then (bif Nat.blt pc 71 then (bif Nat.beq pc 70 then some (.iload_n 3, 71, 3, 0, 0) else none) else (bif Nat.blt pc 72 then (bif Nat.beq pc 71 then some (.iconst 2, 72, 0, 0, 2) else none) else (bif Nat.beq pc 72 then some (.if_icmp .ne 19, 75, 91, 0, 0) else none))) else (bif Nat.blt pc 76 then (bif Nat.beq pc 75 then some (.aload_n 2, 76, 2, 0, 0) else none) else (bif Nat.blt pc 78 then (bif Nat.beq pc 76 then some (.iload 4, 78, 4, 0, 0) else none) else (bif Nat.beq pc 78 then some (.invokevirtual 42, 81, 25, 1, 1) else none)))) else (bif Nat.blt pc 87 then (bif Nat.blt pc 84 then (bif Nat.beq pc 81 then some (.ifCond .eq 10, 84, 91, 0, 0) else none) else (bif Nat.blt pc 85 then (bif Nat.beq pc 84 then some (.aload_n 2, 85, 2, 0, 0) else none) else (bif Nat.beq pc 85 then some (.iload 4, 87, 4, 0, 0) else none))) else (bif Nat.blt pc 90 then (bif Nat.beq pc 87 then some (.invokevirtual 46, 90, 35, 1, 1) else none) else (bif Nat.blt pc 91 then (bif Nat.beq pc 90 then some (.pop, 91, 0, 0, 0) else none) else (bif Nat.beq pc 91 then some (.return_, 92, 0, 0, 0) else none))))))
/-- X2_note -/
noncomputable def gn_c4 (pc : Nat) : Option gn_En := bif Nat.blt pc 22 then (bif Nat.blt pc 11 then (bif Nat.blt pc 6 then (bif Nat.blt pc 1 then (bif Nat.beq pc 0 then some (.aload_n 0, 1, 0, 0, 0) else none) else (bif Nat.blt pc 4 then (bif Nat.beq pc 1 then some (.getfield 19, 4, 2, 2, 0) else none) else (bif Nat.beq pc 4 then some (.bipush 6, 6, 0, 0, 6) else none))) else (bif Nat.blt pc 9 then (bif Nat.beq pc 6 then some (.if_icmp .lt 5, 9, 11, 0, 0) else none) else (bif Nat.blt pc 10 then (bif Nat.beq pc 9 then some (.iconst 0, 10, 0, 0, 0) else none) else (bif Nat.beq pc 10 then some (.ireturn, 11, 0, 0, 0) else none)))) else (bif Nat.blt pc 16 then (bif Nat.blt pc 12 then (bif Nat.beq pc 11 then some (.aload_n 0, 12, 0, 0, 0) else none) else (bif Nat.blt pc 15 then (bif Nat.beq pc 12 then some (.getfield 11, 15, 2, 0, 0) else none) else (bif Nat.beq pc 15 then some (.aload_n 0, 16, 0, 0, 0) else none))) else (bif Nat.blt pc 20 then (bif Nat.blt pc 19 then (bif Nat.beq pc 16 then some (.getfield 19, 19, 2, 2, 0) else none) else (bif Nat.beq pc 19 then some (.iload_n 1, 20, 1, 0, 0) else none)) else (bif Nat.blt pc 21 then (bif Nat.beq pc 20 then some (.iastore, 21, 0, 0, 0) else none) else (bif Nat.beq pc 21 then some (.aload_n 0, 22, 0, 0, 0) else none))))) else (bif Nat.blt pc 32 then (bif Nat.blt pc 29 then (bif Nat.blt pc 25 then (bif Nat.beq pc 22 then some (.getfield 15, 25, 2, 1, 0) else none) else (bif Nat.blt pc 26 then (bif Nat.beq pc 25 then some (.aload_n 0, 26, 0, 0, 0) else none) else (bif Nat.beq pc 26 then some (.getfield 19, 29, 2, 2, 0) else none))) else (bif Nat.blt pc 30 then (bif Nat.beq pc 29 then some (.iload_n 2, 30, 2, 0, 0) else none) else (bif Nat.blt pc 31 then (bif Nat.beq pc 30 then some (.bastore, 31, 0, 0, 0) else none) else (bif Nat.beq pc 31 then some (.aload_n 0, 32, 0, 0, 0) else none)))) else (bif Nat.blt pc 37 then (bif Nat.blt pc 33 then (bif Nat.beq pc 32 then some (.dup, 33, 0, 0, 0) else none) else (bif Nat.blt pc 36 then (bif Nat.beq pc 33 then some (.getfield 19, 36, 2, 2, 0) else none) else (bif Nat.beq pc 36 then some (.iconst 1, 37, 0, 0, 1) else none))) else (bif Nat.blt pc 41 then (bif Nat.blt pc 38 then (bif Nat.beq pc 37 then some (.iadd, 38, 0, 0, 0) else none) else (bif Nat.beq pc 38 then some (.putfield 19, 41, 2, 2, 0) else none)) else (bif Nat.blt pc 42 then (bif Nat.beq pc 41 then some (.iconst 1, 42, 0, 0, 1) else none) else (bif Nat.beq pc 42 then some (.ireturn, 43, 0, 0, 0) else none)))))
/-- X2_whoFits -/
noncomputable def gn_c5 (pc : Nat) : Option gn_En := bif Nat.blt pc 15 then (bif Nat.blt pc 5 then (bif Nat.blt pc 2 then (bif Nat.blt pc 1 then (bif Nat.beq pc 0 then some (.iconst 0, 1, 0, 0, 0) else none) else (bif Nat.beq pc 1 then some (.istore_n 2, 2, 2, 0, 0) else none)) else (bif Nat.blt pc 3 then (bif Nat.beq pc 2 then some (.iconst 0, 3, 0, 0, 0) else none) else (bif Nat.blt pc 4 then (bif Nat.beq pc 3 then some (.istore_n 3, 4, 3, 0, 0) else none) else (bif Nat.beq pc 4 then some (.iload_n 3, 5, 3, 0, 0) else none)))) else (bif Nat.blt pc 12 then (bif Nat.blt pc 6 then (bif Nat.beq pc 5 then some (.aload_n 1, 6, 1, 0, 0) else none) else (bif Nat.blt pc 9 then (bif Nat.beq pc 6 then some (.getfield 23, 9, 9, 2, 0) else none) else (bif Nat.beq pc 9 then some (.if_icmp .ge 24, 12, 33, 0, 0) else none))) else (bif Nat.blt pc 13 then (bif Nat.beq pc 12 then some (.aload_n 0, 13, 0, 0, 0) else none) else (bif Nat.blt pc 14 then (bif Nat.beq pc 13 then some (.aload_n 1, 14, 1, 0, 0) else none) else (bif Nat.beq pc 14 then some (.iload_n 3, 15, 3, 0, 0) else none))))) else (bif Nat.blt pc 25 then (bif Nat.blt pc 22 then (bif Nat.blt pc 18 then (bif Nat.beq pc 15 then some (.invokevirtual 28, 18, 6, 2, 0) else none) else (bif Nat.blt pc 21 then (bif Nat.beq pc 18 then some (.ifCond .eq 9, 21, 27, 0, 0) else none) else (bif Nat.beq pc 21 then some (.iload_n 2, 22, 2, 0, 0) else none))) else (bif Nat.blt pc 23 then (bif Nat.beq pc 22 then some (.iconst 1, 23, 0, 0, 1) else none) else (bif Nat.blt pc 24 then (bif Nat.beq pc 23 then some (.iload_n 3, 24, 3, 0, 0) else none) else (bif Nat.beq pc 24 then some (.ishl, 25, 0, 0, 0) else none)))) else (bif Nat.blt pc 30 then (bif Nat.blt pc 26 then (bif Nat.beq pc 25 then some (.ior, 26, 0, 0, 0) else none) else (bif Nat.blt pc 27 then (bif Nat.beq pc 26 then some (.istore_n 2, 27, 2, 0, 0) else none) else (bif Nat.beq pc 27 then some (.iinc 3 1, 30, 3, 0, 1) else none))) else (bif Nat.blt pc 33 then (bif Nat.beq pc 30 then some (.goto (-26), 33, 4, 0, 0) else none) else (bif Nat.blt pc 34 then (bif Nat.beq pc 33 then some (.iload_n 2, 34, 2, 0, 0) else none) else (bif Nat.beq pc 34 then some (.ireturn, 35, 0, 0, 0) else none)))))
/-- X2_fits -/
noncomputable def gn_c6 (pc : Nat) : Option gn_En := bif Nat.blt pc 18 then (bif Nat.blt pc 10 then (bif Nat.blt pc 3 then (bif Nat.blt pc 1 then (bif Nat.beq pc 0 then some (.iconst 0, 1, 0, 0, 0) else none) else (bif Nat.blt pc 2 then (bif Nat.beq pc 1 then some (.istore_n 3, 2, 3, 0, 0) else none) else (bif Nat.beq pc 2 then some (.iload_n 3, 3, 3, 0, 0) else none))) else (bif Nat.blt pc 4 then (bif Nat.beq pc 3 then some (.aload_n 0, 4, 0, 0, 0) else none) else (bif Nat.blt pc 7 then (bif Nat.beq pc 4 then some (.getfield 19, 7, 2, 2, 0) else none) else (bif Nat.beq pc 7 then some (.if_icmp .ge 31, 10, 38, 0, 0) else none)))) else (bif Nat.blt pc 13 then (bif Nat.blt pc 11 then (bif Nat.beq pc 10 then some (.aload_n 1, 11, 1, 0, 0) else none) else (bif Nat.blt pc 12 then (bif Nat.beq pc 11 then some (.iload_n 2, 12, 2, 0, 0) else none) else (bif Nat.beq pc 12 then some (.aload_n 0, 13, 0, 0, 0) else none))) else (bif Nat.blt pc 16 then (bif Nat.beq pc 13 then some (.getfield 11, 16, 2, 0, 0) else none) else (bif Nat.blt pc 17 then (bif Nat.beq pc 16 then some (.iload_n 3, 17, 3, 0, 0) else none) else (bif Nat.beq pc 17 then some (.iaload, 18, 0, 0, 0) else none))))) else (bif Nat.blt pc 30 then (bif Nat.blt pc 25 then (bif Nat.blt pc 21 then (bif Nat.beq pc 18 then some (.invokevirtual 32, 21, 84, 2, 1) else none) else (bif Nat.blt pc 22 then (bif Nat.beq pc 21 then some (.aload_n 0, 22, 0, 0, 0) else none) else (bif Nat.beq pc 22 then some (.getfield 15, 25, 2, 1, 0) else none))) else (bif Nat.blt pc 26 then (bif Nat.beq pc 25 then some (.iload_n 3, 26, 3, 0, 0) else none) else (bif Nat.blt pc 27 then (bif Nat.beq pc 26 then some (.baload, 27, 0, 0, 0) else none) else (bif Nat.beq pc 27 then some (.if_icmp .eq 5, 30, 32, 0, 0) else none)))) else (bif Nat.blt pc 35 then (bif Nat.blt pc 31 then (bif Nat.beq pc 30 then some (.iconst 0, 31, 0, 0, 0) else none) else (bif Nat.blt pc 32 then (bif Nat.beq pc 31 then some (.ireturn, 32, 0, 0, 0) else none) else (bif Nat.beq pc 32 then some (.iinc 3 1, 35, 3, 0, 1) else none))) else (bif Nat.blt pc 38 then (bif Nat.beq pc 35 then some (.goto (-33), 38, 2, 0, 0) else none) else (bif Nat.blt pc 39 then (bif Nat.beq pc 38 then some (.iconst 1, 39, 0, 0, 1) else none) else (bif Nat.beq pc 39 then some (.ireturn, 40, 0, 0, 0) else none)))))
/-- X2_bestTopic -/
noncomputable def gn_c7 (pc : Nat) : Option gn_En := bif Nat.blt pc 25 then (bif Nat.blt pc 9 then (bif Nat.blt pc 5 then (bif Nat.blt pc 1 then (bif Nat.beq pc 0 then some (.aload_n 0, 1, 0, 0, 0) else none) else (bif Nat.blt pc 2 then (bif Nat.beq pc 1 then some (.aload_n 1, 2, 1, 0, 0) else none) else (bif Nat.beq pc 2 then some (.invokevirtual 36, 5, 5, 1, 0) else none))) else (bif Nat.blt pc 7 then (bif Nat.blt pc 6 then (bif Nat.beq pc 5 then some (.istore_n 2, 6, 2, 0, 0) else none) else (bif Nat.beq pc 6 then some (.iconst (-1), 7, 0, 0, (-1)) else none)) else (bif Nat.blt pc 8 then (bif Nat.beq pc 7 then some (.istore_n 3, 8, 3, 0, 0) else none) else (bif Nat.beq pc 8 then some (.iload_n 2, 9, 2, 0, 0) else none)))) else (bif Nat.blt pc 17 then (bif Nat.blt pc 14 then (bif Nat.blt pc 12 then (bif Nat.beq pc 9 then some (.invokestatic 40, 12, 204, 1, 0) else none) else (bif Nat.beq pc 12 then some (.istore 4, 14, 4, 0, 0) else none)) else (bif Nat.blt pc 15 then (bif Nat.beq pc 14 then some (.iconst 0, 15, 0, 0, 0) else none) else (bif Nat.beq pc 15 then some (.istore 5, 17, 5, 0, 0) else none))) else (bif Nat.blt pc 21 then (bif Nat.blt pc 19 then (bif Nat.beq pc 17 then some (.iload 5, 19, 5, 0, 0) else none) else (bif Nat.beq pc 19 then some (.bipush 8, 21, 0, 0, 8) else none)) else (bif Nat.blt pc 24 then (bif Nat.beq pc 21 then some (.if_icmp .ge 32, 24, 53, 0, 0) else none) else (bif Nat.beq pc 24 then some (.aload_n 1, 25, 1, 0, 0) else none))))) else (bif Nat.blt pc 40 then (bif Nat.blt pc 31 then (bif Nat.blt pc 26 then (bif Nat.beq pc 25 then some (.iload_n 2, 26, 2, 0, 0) else none) else (bif Nat.blt pc 28 then (bif Nat.beq pc 26 then some (.iload 5, 28, 5, 0, 0) else none) else (bif Nat.beq pc 28 then some (.invokestatic 46, 31, 8, 3, 0) else none))) else (bif Nat.blt pc 35 then (bif Nat.blt pc 33 then (bif Nat.beq pc 31 then some (.istore 6, 33, 6, 0, 0) else none) else (bif Nat.beq pc 33 then some (.iload 6, 35, 6, 0, 0) else none)) else (bif Nat.blt pc 37 then (bif Nat.beq pc 35 then some (.iload 4, 37, 4, 0, 0) else none) else (bif Nat.beq pc 37 then some (.if_icmp .ge 10, 40, 47, 0, 0) else none)))) else (bif Nat.blt pc 47 then (bif Nat.blt pc 44 then (bif Nat.blt pc 42 then (bif Nat.beq pc 40 then some (.iload 6, 42, 6, 0, 0) else none) else (bif Nat.beq pc 42 then some (.istore 4, 44, 4, 0, 0) else none)) else (bif Nat.blt pc 46 then (bif Nat.beq pc 44 then some (.iload 5, 46, 5, 0, 0) else none) else (bif Nat.beq pc 46 then some (.istore_n 3, 47, 3, 0, 0) else none))) else (bif Nat.blt pc 53 then (bif Nat.blt pc 50 then (bif Nat.beq pc 47 then some (.iinc 5 1, 50, 5, 0, 1) else none) else (bif Nat.beq pc 50 then some (.goto (-33), 53, 17, 0, 0) else none)) else (bif Nat.blt pc 54 then (bif Nat.beq pc 53 then some (.iload_n 3, 54, 3, 0, 0) else none) else (bif Nat.beq pc 54 then some (.ireturn, 55, 0, 0, 0) else none)))))
/-- X2_greaterPart -/
noncomputable def gn_c8 (pc : Nat) : Option gn_En := bif Nat.blt pc 23 then (bif Nat.blt pc 11 then (bif Nat.blt pc 3 then (bif Nat.blt pc 1 then (bif Nat.beq pc 0 then some (.iconst 0, 1, 0, 0, 0) else none) else (bif Nat.blt pc 2 then (bif Nat.beq pc 1 then some (.istore_n 3, 2, 3, 0, 0) else none) else (bif Nat.beq pc 2 then some (.iconst 0, 3, 0, 0, 0) else none))) else (bif Nat.blt pc 7 then (bif Nat.blt pc 5 then (bif Nat.beq pc 3 then some (.istore 4, 5, 4, 0, 0) else none) else (bif Nat.beq pc 5 then some (.iload 4, 7, 4, 0, 0) else none)) else (bif Nat.blt pc 8 then (bif Nat.beq pc 7 then some (.aload_n 0, 8, 0, 0, 0) else none) else (bif Nat.beq pc 8 then some (.getfield 23, 11, 9, 2, 0) else none)))) else (bif Nat.blt pc 17 then (bif Nat.blt pc 14 then (bif Nat.beq pc 11 then some (.if_icmp .ge 31, 14, 42, 0, 0) else none) else (bif Nat.blt pc 15 then (bif Nat.beq pc 14 then some (.iload_n 1, 15, 1, 0, 0) else none) else (bif Nat.beq pc 15 then some (.iload 4, 17, 4, 0, 0) else none))) else (bif Nat.blt pc 19 then (bif Nat.blt pc 18 then (bif Nat.beq pc 17 then some (.ishr, 18, 0, 0, 0) else none) else (bif Nat.beq pc 18 then some (.iconst 1, 19, 0, 0, 1) else none)) else (bif Nat.blt pc 20 then (bif Nat.beq pc 19 then some (.iand, 20, 0, 0, 0) else none) else (bif Nat.beq pc 20 then some (.ifCond .eq 16, 23, 36, 0, 0) else none))))) else (bif Nat.blt pc 39 then (bif Nat.blt pc 27 then (bif Nat.blt pc 24 then (bif Nat.beq pc 23 then some (.aload_n 0, 24, 0, 0, 0) else none) else (bif Nat.blt pc 26 then (bif Nat.beq pc 24 then some (.iload 4, 26, 4, 0, 0) else none) else (bif Nat.beq pc 26 then some (.iload_n 2, 27, 2, 0, 0) else none))) else (bif Nat.blt pc 33 then (bif Nat.blt pc 30 then (bif Nat.beq pc 27 then some (.invokevirtual 32, 30, 84, 2, 1) else none) else (bif Nat.beq pc 30 then some (.ifCond .eq 6, 33, 36, 0, 0) else none)) else (bif Nat.blt pc 36 then (bif Nat.beq pc 33 then some (.iinc 3 1, 36, 3, 0, 1) else none) else (bif Nat.beq pc 36 then some (.iinc 4 1, 39, 4, 0, 1) else none)))) else (bif Nat.blt pc 47 then (bif Nat.blt pc 43 then (bif Nat.blt pc 42 then (bif Nat.beq pc 39 then some (.goto (-34), 42, 5, 0, 0) else none) else (bif Nat.beq pc 42 then some (.iload_n 3, 43, 3, 0, 0) else none)) else (bif Nat.blt pc 44 then (bif Nat.beq pc 43 then some (.iload_n 1, 44, 1, 0, 0) else none) else (bif Nat.beq pc 44 then some (.invokestatic 40, 47, 204, 1, 0) else none))) else (bif Nat.blt pc 49 then (bif Nat.blt pc 48 then (bif Nat.beq pc 47 then some (.iload_n 3, 48, 3, 0, 0) else none) else (bif Nat.beq pc 48 then some (.isub, 49, 0, 0, 0) else none)) else (bif Nat.blt pc 52 then (bif Nat.beq pc 49 then some (.invokestatic 50, 52, 0, 0, 2) else none) else (bif Nat.beq pc 52 then some (.ireturn, 53, 0, 0, 0) else none)))))
/-- X3_take -/
noncomputable def gn_c9 (pc : Nat) : Option gn_En := bif Nat.blt pc 15 then (bif Nat.blt pc 6 then (bif Nat.blt pc 4 then (bif Nat.blt pc 1 then (bif Nat.beq pc 0 then some (.aload_n 1, 1, 1, 0, 0) else none) else (bif Nat.beq pc 1 then some (.getfield 15, 4, 4, 0, 0) else none)) else (bif Nat.blt pc 5 then (bif Nat.beq pc 4 then some (.iconst 0, 5, 0, 0, 0) else none) else (bif Nat.beq pc 5 then some (.aload_n 0, 6, 0, 0, 0) else none))) else (bif Nat.blt pc 10 then (bif Nat.blt pc 9 then (bif Nat.beq pc 6 then some (.getfield 9, 9, 3, 0, 0) else none) else (bif Nat.beq pc 9 then some (.iconst 0, 10, 0, 0, 0) else none)) else (bif Nat.blt pc 12 then (bif Nat.beq pc 10 then some (.bipush 28, 12, 0, 0, 28) else none) else (bif Nat.beq pc 12 then some (.invokestatic 16, 15, 0, 0, 1) else none)))) else (bif Nat.blt pc 23 then (bif Nat.blt pc 17 then (bif Nat.blt pc 16 then (bif Nat.beq pc 15 then some (.aload_n 0, 16, 0, 0, 0) else none) else (bif Nat.beq pc 16 then some (.aload_n 2, 17, 2, 0, 0) else none)) else (bif Nat.blt pc 20 then (bif Nat.beq pc 17 then some (.getfield 22, 20, 1, 0, 0) else none) else (bif Nat.beq pc 20 then some (.putfield 28, 23, 3, 1, 0) else none))) else (bif Nat.blt pc 25 then (bif Nat.blt pc 24 then (bif Nat.beq pc 23 then some (.aload_n 0, 24, 0, 0, 0) else none) else (bif Nat.beq pc 24 then some (.iconst 1, 25, 0, 0, 1) else none)) else (bif Nat.blt pc 28 then (bif Nat.beq pc 25 then some (.putfield 31, 28, 3, 2, 0) else none) else (bif Nat.beq pc 28 then some (.return_, 29, 0, 0, 0) else none))))
/-- X3_putBack -/
noncomputable def gn_c10 (pc : Nat) : Option gn_En := bif Nat.blt pc 10 then (bif Nat.blt pc 5 then (bif Nat.blt pc 1 then (bif Nat.beq pc 0 then some (.aload_n 0, 1, 0, 0, 0) else none) else (bif Nat.blt pc 4 then (bif Nat.beq pc 1 then some (.getfield 9, 4, 3, 0, 0) else none) else (bif Nat.beq pc 4 then some (.iconst 0, 5, 0, 0, 0) else none))) else (bif Nat.blt pc 6 then (bif Nat.beq pc 5 then some (.aload_n 1, 6, 1, 0, 0) else none) else (bif Nat.blt pc 9 then (bif Nat.beq pc 6 then some (.getfield 15, 9, 4, 0, 0) else none) else (bif Nat.beq pc 9 then some (.iconst 0, 10, 0, 0, 0) else none)))) else (bif Nat.blt pc 16 then (bif Nat.blt pc 12 then (bif Nat.beq pc 10 then some (.bipush 28, 12, 0, 0, 28) else none) else (bif Nat.blt pc 15 then (bif Nat.beq pc 12 then some (.invokestatic 16, 15, 0, 0, 1) else none) else (bif Nat.beq pc 15 then some (.aload_n 2, 16, 2, 0, 0) else none))) else (bif Nat.blt pc 20 then (bif Nat.blt pc 17 then (bif Nat.beq pc 16 then some (.aload_n 0, 17, 0, 0, 0) else none) else (bif Nat.beq pc 17 then some (.getfield 28, 20, 3, 1, 0) else none)) else (bif Nat.blt pc 23 then (bif Nat.beq pc 20 then some (.putfield 22, 23, 1, 0, 0) else none) else (bif Nat.beq pc 23 then some (.return_, 24, 0, 0, 0) else none))))
/-- X4_begin -/
noncomputable def gn_c11 (pc : Nat) : Option gn_En := bif Nat.blt pc 20 then (bif Nat.blt pc 9 then (bif Nat.blt pc 6 then (bif Nat.blt pc 1 then (bif Nat.beq pc 0 then some (.aload_n 0, 1, 0, 0, 0) else none) else (bif Nat.blt pc 4 then (bif Nat.beq pc 1 then some (.getfield 11, 4, 4, 0, 0) else none) else (bif Nat.beq pc 4 then some (.bipush 24, 6, 0, 0, 24) else none))) else (bif Nat.blt pc 7 then (bif Nat.beq pc 6 then some (.iconst 0, 7, 0, 0, 0) else none) else (bif Nat.blt pc 8 then (bif Nat.beq pc 7 then some (.iastore, 8, 0, 0, 0) else none) else (bif Nat.beq pc 8 then some (.aload_n 0, 9, 0, 0, 0) else none)))) else (bif Nat.blt pc 15 then (bif Nat.blt pc 12 then (bif Nat.beq pc 9 then some (.getfield 11, 12, 4, 0, 0) else none) else (bif Nat.blt pc 14 then (bif Nat.beq pc 12 then some (.bipush 25, 14, 0, 0, 25) else none) else (bif Nat.beq pc 14 then some (.iconst 0, 15, 0, 0, 0) else none))) else (bif Nat.blt pc 16 then (bif Nat.beq pc 15 then some (.iastore, 16, 0, 0, 0) else none) else (bif Nat.blt pc 17 then (bif Nat.beq pc 16 then some (.aload_n 0, 17, 0, 0, 0) else none) else (bif Nat.beq pc 17 then some (.getfield 11, 20, 4, 0, 0) else none))))) else (bif Nat.blt pc 30 then (bif Nat.blt pc 24 then (bif Nat.blt pc 22 then (bif Nat.beq pc 20 then some (.bipush 26, 22, 0, 0, 26) else none) else (bif Nat.blt pc 23 then (bif Nat.beq pc 22 then some (.iconst 0, 23, 0, 0, 0) else none) else (bif Nat.beq pc 23 then some (.iastore, 24, 0, 0, 0) else none))) else (bif Nat.blt pc 25 then (bif Nat.beq pc 24 then some (.aload_n 0, 25, 0, 0, 0) else none) else (bif Nat.blt pc 28 then (bif Nat.beq pc 25 then some (.getfield 11, 28, 4, 0, 0) else none) else (bif Nat.beq pc 28 then some (.bipush 27, 30, 0, 0, 27) else none)))) else (bif Nat.blt pc 33 then (bif Nat.blt pc 31 then (bif Nat.beq pc 30 then some (.iconst 0, 31, 0, 0, 0) else none) else (bif Nat.blt pc 32 then (bif Nat.beq pc 31 then some (.iastore, 32, 0, 0, 0) else none) else (bif Nat.beq pc 32 then some (.aload_n 0, 33, 0, 0, 0) else none))) else (bif Nat.blt pc 34 then (bif Nat.beq pc 33 then some (.aload_n 1, 34, 1, 0, 0) else none) else (bif Nat.blt pc 37 then (bif Nat.beq pc 34 then some (.invokevirtual 15, 37, 13, 1, 0) else none) else (bif Nat.beq pc 37 then some (.return_, 38, 0, 0, 0) else none)))))
/-- X4_passEvening -/
noncomputable def gn_c12 (pc : Nat) : Option gn_En := bif Nat.blt pc 9 then (bif Nat.blt pc 6 then (bif Nat.blt pc 1 then (bif Nat.beq pc 0 then some (.aload_n 0, 1, 0, 0, 0) else none) else (bif Nat.blt pc 4 then (bif Nat.beq pc 1 then some (.getfield 11, 4, 4, 0, 0) else none) else (bif Nat.beq pc 4 then some (.bipush 27, 6, 0, 0, 27) else none))) else (bif Nat.blt pc 7 then (bif Nat.beq pc 6 then some (.dup2, 7, 0, 0, 0) else none) else (bif Nat.blt pc 8 then (bif Nat.beq pc 7 then some (.iaload, 8, 0, 0, 0) else none) else (bif Nat.beq pc 8 then some (.iconst 1, 9, 0, 0, 1) else none)))) else (bif Nat.blt pc 12 then (bif Nat.blt pc 10 then (bif Nat.beq pc 9 then some (.iadd, 10, 0, 0, 0) else none) else (bif Nat.blt pc 11 then (bif Nat.beq pc 10 then some (.iastore, 11, 0, 0, 0) else none) else (bif Nat.beq pc 11 then some (.aload_n 0, 12, 0, 0, 0) else none))) else (bif Nat.blt pc 13 then (bif Nat.beq pc 12 then some (.aload_n 1, 13, 1, 0, 0) else none) else (bif Nat.blt pc 16 then (bif Nat.beq pc 13 then some (.invokevirtual 15, 16, 13, 1, 0) else none) else (bif Nat.beq pc 16 then some (.return_, 17, 0, 0, 0) else none))))
/-- X4_seatAll -/
noncomputable def gn_c13 (pc : Nat) : Option gn_En := bif Nat.blt pc 45 then (bif Nat.blt pc 23 then (bif Nat.blt pc 12 then (bif Nat.blt pc 3 then (bif Nat.blt pc 1 then (bif Nat.beq pc 0 then some (.iconst 0, 1, 0, 0, 0) else none) else (bif Nat.blt pc 2 then (bif Nat.beq pc 1 then some (.istore_n 2, 2, 2, 0, 0) else none) else (bif Nat.beq pc 2 then some (.iload_n 2, 3, 2, 0, 0) else none))) else (bif Nat.blt pc 8 then (bif Nat.blt pc 5 then (bif Nat.beq pc 3 then some (.bipush 6, 5, 0, 0, 6) else none) else (bif Nat.beq pc 5 then some (.if_icmp .ge 38, 8, 43, 0, 0) else none)) else (bif Nat.blt pc 9 then (bif Nat.beq pc 8 then some (.aload_n 0, 9, 0, 0, 0) else none) else (bif Nat.beq pc 9 then some (.getfield 11, 12, 4, 0, 0) else none)))) else (bif Nat.blt pc 16 then (bif Nat.blt pc 14 then (bif Nat.blt pc 13 then (bif Nat.beq pc 12 then some (.iconst 0, 13, 0, 0, 0) else none) else (bif Nat.beq pc 13 then some (.iload_n 2, 14, 2, 0, 0) else none)) else (bif Nat.blt pc 15 then (bif Nat.beq pc 14 then some (.iadd, 15, 0, 0, 0) else none) else (bif Nat.beq pc 15 then some (.iconst 0, 16, 0, 0, 0) else none))) else (bif Nat.blt pc 18 then (bif Nat.blt pc 17 then (bif Nat.beq pc 16 then some (.iastore, 17, 0, 0, 0) else none) else (bif Nat.beq pc 17 then some (.aload_n 0, 18, 0, 0, 0) else none)) else (bif Nat.blt pc 21 then (bif Nat.beq pc 18 then some (.getfield 11, 21, 4, 0, 0) else none) else (bif Nat.beq pc 21 then some (.bipush 6, 23, 0, 0, 6) else none))))) else (bif Nat.blt pc 33 then (bif Nat.blt pc 26 then (bif Nat.blt pc 24 then (bif Nat.beq pc 23 then some (.iload_n 2, 24, 2, 0, 0) else none) else (bif Nat.blt pc 25 then (bif Nat.beq pc 24 then some (.iadd, 25, 0, 0, 0) else none) else (bif Nat.beq pc 25 then some (.iconst (-1), 26, 0, 0, (-1)) else none))) else (bif Nat.blt pc 28 then (bif Nat.blt pc 27 then (bif Nat.beq pc 26 then some (.iastore, 27, 0, 0, 0) else none) else (bif Nat.beq pc 27 then some (.aload_n 0, 28, 0, 0, 0) else none)) else (bif Nat.blt pc 31 then (bif Nat.beq pc 28 then some (.getfield 11, 31, 4, 0, 0) else none) else (bif Nat.beq pc 31 then some (.bipush 12, 33, 0, 0, 12) else none)))) else (bif Nat.blt pc 37 then (bif Nat.blt pc 35 then (bif Nat.blt pc 34 then (bif Nat.beq pc 33 then some (.iload_n 2, 34, 2, 0, 0) else none) else (bif Nat.beq pc 34 then some (.iadd, 35, 0, 0, 0) else none)) else (bif Nat.blt pc 36 then (bif Nat.beq pc 35 then some (.iconst (-1), 36, 0, 0, (-1)) else none) else (bif Nat.beq pc 36 then some (.iastore, 37, 0, 0, 0) else none))) else (bif Nat.blt pc 43 then (bif Nat.blt pc 40 then (bif Nat.beq pc 37 then some (.iinc 2 1, 40, 2, 0, 1) else none) else (bif Nat.beq pc 40 then some (.goto (-38), 43, 2, 0, 0) else none)) else (bif Nat.blt pc 44 then (bif Nat.beq pc 43 then some (.iconst 0, 44, 0, 0, 0) else none) else (bif Nat.beq pc 44 then some (.istore_n 2, 45, 2, 0, 0) else none)))))) else (bif Nat.blt pc 71 then (bif Nat.blt pc 57 then (bif Nat.blt pc 50 then (bif Nat.blt pc 46 then (bif Nat.beq pc 45 then some (.iload_n 2, 46, 2, 0, 0) else none) else (bif Nat.blt pc 47 then (bif Nat.beq pc 46 then some (.iconst 4, 47, 0, 0, 4) else none) else (bif Nat.beq pc 47 then some (.if_icmp .ge 23, 50, 70, 0, 0) else none))) else (bif Nat.blt pc 54 then (bif Nat.blt pc 51 then (bif Nat.beq pc 50 then some (.aload_n 0, 51, 0, 0, 0) else none) else (bif Nat.beq pc 51 then some (.getfield 11, 54, 4, 0, 0) else none)) else (bif Nat.blt pc 56 then (bif Nat.beq pc 54 then some (.bipush 18, 56, 0, 0, 18) else none) else (bif Nat.beq pc 56 then some (.iload_n 2, 57, 2, 0, 0) else none)))) else (bif Nat.blt pc 63 then (bif Nat.blt pc 59 then (bif Nat.blt pc 58 then (bif Nat.beq pc 57 then some (.iadd, 58, 0, 0, 0) else none) else (bif Nat.beq pc 58 then some (.aload_n 1, 59, 1, 0, 0) else none)) else (bif Nat.blt pc 60 then (bif Nat.beq pc 59 then some (.iload_n 2, 60, 2, 0, 0) else none) else (bif Nat.beq pc 60 then some (.invokevirtual 19, 63, 75, 1, 1) else none))) else (bif Nat.blt pc 67 then (bif Nat.blt pc 64 then (bif Nat.beq pc 63 then some (.iastore, 64, 0, 0, 0) else none) else (bif Nat.beq pc 64 then some (.iinc 2 1, 67, 2, 0, 1) else none)) else (bif Nat.blt pc 70 then (bif Nat.beq pc 67 then some (.goto (-22), 70, 45, 0, 0) else none) else (bif Nat.beq pc 70 then some (.aload_n 0, 71, 0, 0, 0) else none))))) else (bif Nat.blt pc 83 then (bif Nat.blt pc 77 then (bif Nat.blt pc 74 then (bif Nat.beq pc 71 then some (.getfield 11, 74, 4, 0, 0) else none) else (bif Nat.blt pc 76 then (bif Nat.beq pc 74 then some (.bipush 22, 76, 0, 0, 22) else none) else (bif Nat.beq pc 76 then some (.iconst 1, 77, 0, 0, 1) else none))) else (bif Nat.blt pc 81 then (bif Nat.blt pc 78 then (bif Nat.beq pc 77 then some (.aload_n 1, 78, 1, 0, 0) else none) else (bif Nat.beq pc 78 then some (.getfield 25, 81, 9, 2, 0) else none)) else (bif Nat.blt pc 82 then (bif Nat.beq pc 81 then some (.ishl, 82, 0, 0, 0) else none) else (bif Nat.beq pc 82 then some (.iconst 1, 83, 0, 0, 1) else none)))) else (bif Nat.blt pc 89 then (bif Nat.blt pc 85 then (bif Nat.blt pc 84 then (bif Nat.beq pc 83 then some (.isub, 84, 0, 0, 0) else none) else (bif Nat.beq pc 84 then some (.iastore, 85, 0, 0, 0) else none)) else (bif Nat.blt pc 86 then (bif Nat.beq pc 85 then some (.aload_n 0, 86, 0, 0, 0) else none) else (bif Nat.beq pc 86 then some (.getfield 11, 89, 4, 0, 0) else none))) else (bif Nat.blt pc 92 then (bif Nat.blt pc 91 then (bif Nat.beq pc 89 then some (.bipush 23, 91, 0, 0, 23) else none) else (bif Nat.beq pc 91 then some (.iconst 0, 92, 0, 0, 0) else none)) else (bif Nat.blt pc 93 then (bif Nat.beq pc 92 then some (.iastore, 93, 0, 0, 0) else none) else (bif Nat.beq pc 93 then some (.return_, 94, 0, 0, 0) else none))))))
/-- X4_isSeat -/
noncomputable def gn_c14 (pc : Nat) : Option gn_En := bif Nat.blt pc 7 then (bif Nat.blt pc 4 then (bif Nat.blt pc 1 then (bif Nat.beq pc 0 then some (.iload_n 0, 1, 0, 0, 0) else none) else (bif Nat.beq pc 1 then some (.ifCond .lt 13, 4, 14, 0, 0) else none)) else (bif Nat.blt pc 5 then (bif Nat.beq pc 4 then some (.iload_n 0, 5, 0, 0, 0) else none) else (bif Nat.beq pc 5 then some (.bipush 6, 7, 0, 0, 6) else none))) else (bif Nat.blt pc 11 then (bif Nat.blt pc 10 then (bif Nat.beq pc 7 then some (.if_icmp .ge 7, 10, 14, 0, 0) else none) else (bif Nat.beq pc 10 then some (.iconst 1, 11, 0, 0, 1) else none)) else (bif Nat.blt pc 14 then (bif Nat.beq pc 11 then some (.goto 4, 14, 15, 0, 0) else none) else (bif Nat.blt pc 15 then (bif Nat.beq pc 14 then some (.iconst 0, 15, 0, 0, 0) else none) else (bif Nat.beq pc 15 then some (.ireturn, 16, 0, 0, 0) else none))))
/-- X4_said -/
noncomputable def gn_c15 (pc : Nat) : Option gn_En := bif Nat.blt pc 12 then (bif Nat.blt pc 7 then (bif Nat.blt pc 1 then (bif Nat.beq pc 0 then some (.iload_n 1, 1, 1, 0, 0) else none) else (bif Nat.blt pc 4 then (bif Nat.beq pc 1 then some (.invokestatic 29, 4, 14, 1, 0) else none) else (bif Nat.beq pc 4 then some (.ifCond .eq 14, 7, 18, 0, 0) else none))) else (bif Nat.blt pc 8 then (bif Nat.beq pc 7 then some (.aload_n 0, 8, 0, 0, 0) else none) else (bif Nat.blt pc 11 then (bif Nat.beq pc 8 then some (.getfield 11, 11, 4, 0, 0) else none) else (bif Nat.beq pc 11 then some (.iconst 0, 12, 0, 0, 0) else none)))) else (bif Nat.blt pc 15 then (bif Nat.blt pc 13 then (bif Nat.beq pc 12 then some (.iload_n 1, 13, 1, 0, 0) else none) else (bif Nat.blt pc 14 then (bif Nat.beq pc 13 then some (.iadd, 14, 0, 0, 0) else none) else (bif Nat.beq pc 14 then some (.iaload, 15, 0, 0, 0) else none))) else (bif Nat.blt pc 18 then (bif Nat.beq pc 15 then some (.goto 4, 18, 19, 0, 0) else none) else (bif Nat.blt pc 19 then (bif Nat.beq pc 18 then some (.iconst 0, 19, 0, 0, 0) else none) else (bif Nat.beq pc 19 then some (.ireturn, 20, 0, 0, 0) else none))))
/-- X4_toldBy -/
noncomputable def gn_c16 (pc : Nat) : Option gn_En := bif Nat.blt pc 13 then (bif Nat.blt pc 7 then (bif Nat.blt pc 1 then (bif Nat.beq pc 0 then some (.iload_n 1, 1, 1, 0, 0) else none) else (bif Nat.blt pc 4 then (bif Nat.beq pc 1 then some (.invokestatic 29, 4, 14, 1, 0) else none) else (bif Nat.beq pc 4 then some (.ifCond .eq 15, 7, 19, 0, 0) else none))) else (bif Nat.blt pc 8 then (bif Nat.beq pc 7 then some (.aload_n 0, 8, 0, 0, 0) else none) else (bif Nat.blt pc 11 then (bif Nat.beq pc 8 then some (.getfield 11, 11, 4, 0, 0) else none) else (bif Nat.beq pc 11 then some (.bipush 6, 13, 0, 0, 6) else none)))) else (bif Nat.blt pc 16 then (bif Nat.blt pc 14 then (bif Nat.beq pc 13 then some (.iload_n 1, 14, 1, 0, 0) else none) else (bif Nat.blt pc 15 then (bif Nat.beq pc 14 then some (.iadd, 15, 0, 0, 0) else none) else (bif Nat.beq pc 15 then some (.iaload, 16, 0, 0, 0) else none))) else (bif Nat.blt pc 19 then (bif Nat.beq pc 16 then some (.goto 4, 19, 20, 0, 0) else none) else (bif Nat.blt pc 20 then (bif Nat.beq pc 19 then some (.iconst (-1), 20, 0, 0, (-1)) else none) else (bif Nat.beq pc 20 then some (.ireturn, 21, 0, 0, 0) else none))))
/-- X4_toldAt -/
noncomputable def gn_c17 (pc : Nat) : Option gn_En := bif Nat.blt pc 13 then (bif Nat.blt pc 7 then (bif Nat.blt pc 1 then (bif Nat.beq pc 0 then some (.iload_n 1, 1, 1, 0, 0) else none) else (bif Nat.blt pc 4 then (bif Nat.beq pc 1 then some (.invokestatic 29, 4, 14, 1, 0) else none) else (bif Nat.beq pc 4 then some (.ifCond .eq 15, 7, 19, 0, 0) else none))) else (bif Nat.blt pc 8 then (bif Nat.beq pc 7 then some (.aload_n 0, 8, 0, 0, 0) else none) else (bif Nat.blt pc 11 then (bif Nat.beq pc 8 then some (.getfield 11, 11, 4, 0, 0) else none) else (bif Nat.beq pc 11 then some (.bipush 12, 13, 0, 0, 12) else none)))) else (bif Nat.blt pc 16 then (bif Nat.blt pc 14 then (bif Nat.beq pc 13 then some (.iload_n 1, 14, 1, 0, 0) else none) else (bif Nat.blt pc 15 then (bif Nat.beq pc 14 then some (.iadd, 15, 0, 0, 0) else none) else (bif Nat.beq pc 15 then some (.iaload, 16, 0, 0, 0) else none))) else (bif Nat.blt pc 19 then (bif Nat.beq pc 16 then some (.goto 4, 19, 20, 0, 0) else none) else (bif Nat.blt pc 20 then (bif Nat.beq pc 19 then some (.iconst (-1), 20, 0, 0, (-1)) else none) else (bif Nat.beq pc 20 then some (.ireturn, 21, 0, 0, 0) else none))))
/-- X4_noesLeft -/
noncomputable def gn_c18 (pc : Nat) : Option gn_En := bif Nat.blt pc 13 then (bif Nat.blt pc 5 then (bif Nat.blt pc 1 then (bif Nat.beq pc 0 then some (.iload_n 1, 1, 1, 0, 0) else none) else (bif Nat.blt pc 4 then (bif Nat.beq pc 1 then some (.ifCond .lt 20, 4, 21, 0, 0) else none) else (bif Nat.beq pc 4 then some (.iload_n 1, 5, 1, 0, 0) else none))) else (bif Nat.blt pc 9 then (bif Nat.blt pc 6 then (bif Nat.beq pc 5 then some (.iconst 4, 6, 0, 0, 4) else none) else (bif Nat.beq pc 6 then some (.if_icmp .ge 15, 9, 21, 0, 0) else none)) else (bif Nat.blt pc 10 then (bif Nat.beq pc 9 then some (.aload_n 0, 10, 0, 0, 0) else none) else (bif Nat.beq pc 10 then some (.getfield 11, 13, 4, 0, 0) else none)))) else (bif Nat.blt pc 17 then (bif Nat.blt pc 15 then (bif Nat.beq pc 13 then some (.bipush 18, 15, 0, 0, 18) else none) else (bif Nat.blt pc 16 then (bif Nat.beq pc 15 then some (.iload_n 1, 16, 1, 0, 0) else none) else (bif Nat.beq pc 16 then some (.iadd, 17, 0, 0, 0) else none))) else (bif Nat.blt pc 21 then (bif Nat.blt pc 18 then (bif Nat.beq pc 17 then some (.iaload, 18, 0, 0, 0) else none) else (bif Nat.beq pc 18 then some (.goto 4, 21, 22, 0, 0) else none)) else (bif Nat.blt pc 22 then (bif Nat.beq pc 21 then some (.iconst 0, 22, 0, 0, 0) else none) else (bif Nat.beq pc 22 then some (.ireturn, 23, 0, 0, 0) else none))))
/-- X4_whoIsUp -/
noncomputable def gn_c19 (pc : Nat) : Option gn_En := bif Nat.blt pc 4 then (bif Nat.blt pc 1 then (bif Nat.beq pc 0 then some (.aload_n 0, 1, 0, 0, 0) else none) else (bif Nat.beq pc 1 then some (.getfield 11, 4, 4, 0, 0) else none)) else (bif Nat.blt pc 6 then (bif Nat.beq pc 4 then some (.bipush 22, 6, 0, 0, 22) else none) else (bif Nat.blt pc 7 then (bif Nat.beq pc 6 then some (.iaload, 7, 0, 0, 0) else none) else (bif Nat.beq pc 7 then some (.ireturn, 8, 0, 0, 0) else none)))
/-- X4_whoWalks -/
noncomputable def gn_c20 (pc : Nat) : Option gn_En := bif Nat.blt pc 4 then (bif Nat.blt pc 1 then (bif Nat.beq pc 0 then some (.aload_n 0, 1, 0, 0, 0) else none) else (bif Nat.beq pc 1 then some (.getfield 11, 4, 4, 0, 0) else none)) else (bif Nat.blt pc 6 then (bif Nat.beq pc 4 then some (.bipush 23, 6, 0, 0, 23) else none) else (bif Nat.blt pc 7 then (bif Nat.beq pc 6 then some (.iaload, 7, 0, 0, 0) else none) else (bif Nat.beq pc 7 then some (.ireturn, 8, 0, 0, 0) else none)))
/-- X4_glad -/
noncomputable def gn_c21 (pc : Nat) : Option gn_En := bif Nat.blt pc 4 then (bif Nat.blt pc 1 then (bif Nat.beq pc 0 then some (.aload_n 0, 1, 0, 0, 0) else none) else (bif Nat.beq pc 1 then some (.getfield 11, 4, 4, 0, 0) else none)) else (bif Nat.blt pc 6 then (bif Nat.beq pc 4 then some (.bipush 24, 6, 0, 0, 24) else none) else (bif Nat.blt pc 7 then (bif Nat.beq pc 6 then some (.iaload, 7, 0, 0, 0) else none) else (bif Nat.beq pc 7 then some (.ireturn, 8, 0, 0, 0) else none)))
/-- X4_insults -/
noncomputable def gn_c22 (pc : Nat) : Option gn_En := bif Nat.blt pc 4 then (bif Nat.blt pc 1 then (bif Nat.beq pc 0 then some (.aload_n 0, 1, 0, 0, 0) else none) else (bif Nat.beq pc 1 then some (.getfield 11, 4, 4, 0, 0) else none)) else (bif Nat.blt pc 6 then (bif Nat.beq pc 4 then some (.bipush 25, 6, 0, 0, 25) else none) else (bif Nat.blt pc 7 then (bif Nat.beq pc 6 then some (.iaload, 7, 0, 0, 0) else none) else (bif Nat.beq pc 7 then some (.ireturn, 8, 0, 0, 0) else none)))
/-- X4_hours -/
noncomputable def gn_c23 (pc : Nat) : Option gn_En := bif Nat.blt pc 4 then (bif Nat.blt pc 1 then (bif Nat.beq pc 0 then some (.aload_n 0, 1, 0, 0, 0) else none) else (bif Nat.beq pc 1 then some (.getfield 11, 4, 4, 0, 0) else none)) else (bif Nat.blt pc 6 then (bif Nat.beq pc 4 then some (.bipush 26, 6, 0, 0, 26) else none) else (bif Nat.blt pc 7 then (bif Nat.beq pc 6 then some (.iaload, 7, 0, 0, 0) else none) else (bif Nat.beq pc 7 then some (.ireturn, 8, 0, 0, 0) else none)))
/-- X4_evenings -/
noncomputable def gn_c24 (pc : Nat) : Option gn_En := bif Nat.blt pc 4 then (bif Nat.blt pc 1 then (bif Nat.beq pc 0 then some (.aload_n 0, 1, 0, 0, 0) else none) else (bif Nat.beq pc 1 then some (.getfield 11, 4, 4, 0, 0) else none)) else (bif Nat.blt pc 6 then (bif Nat.beq pc 4 then some (.bipush 27, 6, 0, 0, 27) else none) else (bif Nat.blt pc 7 then (bif Nat.beq pc 6 then some (.iaload, 7, 0, 0, 0) else none) else (bif Nat.beq pc 7 then some (.ireturn, 8, 0, 0, 0) else none)))
/-- X4_isUp -/
noncomputable def gn_c25 (pc : Nat) : Option gn_En := bif Nat.blt pc 15 then (bif Nat.blt pc 8 then (bif Nat.blt pc 4 then (bif Nat.blt pc 1 then (bif Nat.beq pc 0 then some (.iload_n 1, 1, 1, 0, 0) else none) else (bif Nat.beq pc 1 then some (.invokestatic 29, 4, 14, 1, 0) else none)) else (bif Nat.blt pc 7 then (bif Nat.beq pc 4 then some (.ifCond .eq 21, 7, 25, 0, 0) else none) else (bif Nat.beq pc 7 then some (.aload_n 0, 8, 0, 0, 0) else none))) else (bif Nat.blt pc 13 then (bif Nat.blt pc 11 then (bif Nat.beq pc 8 then some (.getfield 11, 11, 4, 0, 0) else none) else (bif Nat.beq pc 11 then some (.bipush 22, 13, 0, 0, 22) else none)) else (bif Nat.blt pc 14 then (bif Nat.beq pc 13 then some (.iaload, 14, 0, 0, 0) else none) else (bif Nat.beq pc 14 then some (.iload_n 1, 15, 1, 0, 0) else none)))) else (bif Nat.blt pc 21 then (bif Nat.blt pc 17 then (bif Nat.blt pc 16 then (bif Nat.beq pc 15 then some (.ishr, 16, 0, 0, 0) else none) else (bif Nat.beq pc 16 then some (.iconst 1, 17, 0, 0, 1) else none)) else (bif Nat.blt pc 18 then (bif Nat.beq pc 17 then some (.iand, 18, 0, 0, 0) else none) else (bif Nat.beq pc 18 then some (.ifCond .eq 7, 21, 25, 0, 0) else none))) else (bif Nat.blt pc 25 then (bif Nat.blt pc 22 then (bif Nat.beq pc 21 then some (.iconst 1, 22, 0, 0, 1) else none) else (bif Nat.beq pc 22 then some (.goto 4, 25, 26, 0, 0) else none)) else (bif Nat.blt pc 26 then (bif Nat.beq pc 25 then some (.iconst 0, 26, 0, 0, 0) else none) else (bif Nat.beq pc 26 then some (.ireturn, 27, 0, 0, 0) else none))))
/-- X4_firstOpenClaim -/
noncomputable def gn_c26 (pc : Nat) : Option gn_En := bif Nat.blt pc 6 then (bif Nat.blt pc 2 then (bif Nat.blt pc 1 then (bif Nat.beq pc 0 then some (.iconst 0, 1, 0, 0, 0) else none) else (bif Nat.beq pc 1 then some (.aload_n 0, 2, 0, 0, 0) else none)) else (bif Nat.blt pc 3 then (bif Nat.beq pc 2 then some (.iload_n 1, 3, 1, 0, 0) else none) else (bif Nat.beq pc 3 then some (.invokevirtual 33, 6, 15, 1, 0) else none))) else (bif Nat.blt pc 8 then (bif Nat.blt pc 7 then (bif Nat.beq pc 6 then some (.iconst 1, 7, 0, 0, 1) else none) else (bif Nat.beq pc 7 then some (.isub, 8, 0, 0, 0) else none)) else (bif Nat.blt pc 11 then (bif Nat.beq pc 8 then some (.invokestatic 36, 11, 0, 0, 2) else none) else (bif Nat.beq pc 11 then some (.ireturn, 12, 0, 0, 0) else none)))
/-- X4_canSpeak -/
noncomputable def gn_c27 (pc : Nat) : Option gn_En := bif Nat.blt pc 13 then (bif Nat.blt pc 5 then (bif Nat.blt pc 1 then (bif Nat.beq pc 0 then some (.aload_n 0, 1, 0, 0, 0) else none) else (bif Nat.blt pc 2 then (bif Nat.beq pc 1 then some (.iload_n 2, 2, 2, 0, 0) else none) else (bif Nat.beq pc 2 then some (.invokevirtual 42, 5, 25, 1, 0) else none))) else (bif Nat.blt pc 9 then (bif Nat.blt pc 8 then (bif Nat.beq pc 5 then some (.ifCond .eq 20, 8, 25, 0, 0) else none) else (bif Nat.beq pc 8 then some (.aload_n 0, 9, 0, 0, 0) else none)) else (bif Nat.blt pc 10 then (bif Nat.beq pc 9 then some (.iload_n 2, 10, 2, 0, 0) else none) else (bif Nat.beq pc 10 then some (.invokevirtual 33, 13, 15, 1, 0) else none)))) else (bif Nat.blt pc 21 then (bif Nat.blt pc 15 then (bif Nat.blt pc 14 then (bif Nat.beq pc 13 then some (.aload_n 1, 14, 1, 0, 0) else none) else (bif Nat.beq pc 14 then some (.iload_n 2, 15, 2, 0, 0) else none)) else (bif Nat.blt pc 18 then (bif Nat.beq pc 15 then some (.invokevirtual 45, 18, 71, 1, 1) else none) else (bif Nat.beq pc 18 then some (.if_icmp .ge 7, 21, 25, 0, 0) else none))) else (bif Nat.blt pc 25 then (bif Nat.blt pc 22 then (bif Nat.beq pc 21 then some (.iconst 1, 22, 0, 0, 1) else none) else (bif Nat.beq pc 22 then some (.goto 4, 25, 26, 0, 0) else none)) else (bif Nat.blt pc 26 then (bif Nat.beq pc 25 then some (.iconst 0, 26, 0, 0, 0) else none) else (bif Nat.beq pc 26 then some (.ireturn, 27, 0, 0, 0) else none))))
/-- X4_speak -/
noncomputable def gn_c28 (pc : Nat) : Option gn_En := bif Nat.blt pc 18 then (bif Nat.blt pc 10 then (bif Nat.blt pc 7 then (bif Nat.blt pc 1 then (bif Nat.beq pc 0 then some (.iload_n 1, 1, 1, 0, 0) else none) else (bif Nat.blt pc 4 then (bif Nat.beq pc 1 then some (.invokestatic 29, 4, 14, 1, 0) else none) else (bif Nat.beq pc 4 then some (.ifCond .ne 5, 7, 9, 0, 0) else none))) else (bif Nat.blt pc 8 then (bif Nat.beq pc 7 then some (.iconst (-1), 8, 0, 0, (-1)) else none) else (bif Nat.blt pc 9 then (bif Nat.beq pc 8 then some (.ireturn, 9, 0, 0, 0) else none) else (bif Nat.beq pc 9 then some (.aload_n 0, 10, 0, 0, 0) else none)))) else (bif Nat.blt pc 15 then (bif Nat.blt pc 13 then (bif Nat.beq pc 10 then some (.getfield 11, 13, 4, 0, 0) else none) else (bif Nat.blt pc 14 then (bif Nat.beq pc 13 then some (.iconst 0, 14, 0, 0, 0) else none) else (bif Nat.beq pc 14 then some (.iload_n 1, 15, 1, 0, 0) else none))) else (bif Nat.blt pc 16 then (bif Nat.beq pc 15 then some (.iadd, 16, 0, 0, 0) else none) else (bif Nat.blt pc 17 then (bif Nat.beq pc 16 then some (.dup2, 17, 0, 0, 0) else none) else (bif Nat.beq pc 17 then some (.iaload, 18, 0, 0, 0) else none))))) else (bif Nat.blt pc 26 then (bif Nat.blt pc 21 then (bif Nat.blt pc 19 then (bif Nat.beq pc 18 then some (.iconst 1, 19, 0, 0, 1) else none) else (bif Nat.blt pc 20 then (bif Nat.beq pc 19 then some (.iadd, 20, 0, 0, 0) else none) else (bif Nat.beq pc 20 then some (.iastore, 21, 0, 0, 0) else none))) else (bif Nat.blt pc 22 then (bif Nat.beq pc 21 then some (.aload_n 0, 22, 0, 0, 0) else none) else (bif Nat.blt pc 25 then (bif Nat.beq pc 22 then some (.getfield 11, 25, 4, 0, 0) else none) else (bif Nat.beq pc 25 then some (.iconst 0, 26, 0, 0, 0) else none)))) else (bif Nat.blt pc 29 then (bif Nat.blt pc 27 then (bif Nat.beq pc 26 then some (.iload_n 1, 27, 1, 0, 0) else none) else (bif Nat.blt pc 28 then (bif Nat.beq pc 27 then some (.iadd, 28, 0, 0, 0) else none) else (bif Nat.beq pc 28 then some (.iaload, 29, 0, 0, 0) else none))) else (bif Nat.blt pc 30 then (bif Nat.beq pc 29 then some (.iconst 1, 30, 0, 0, 1) else none) else (bif Nat.blt pc 31 then (bif Nat.beq pc 30 then some (.isub, 31, 0, 0, 0) else none) else (bif Nat.beq pc 31 then some (.ireturn, 32, 0, 0, 0) else none)))))
/-- X4_canBeTold -/
noncomputable def gn_c29 (pc : Nat) : Option gn_En := bif Nat.blt pc 16 then (bif Nat.blt pc 8 then (bif Nat.blt pc 2 then (bif Nat.blt pc 1 then (bif Nat.beq pc 0 then some (.aload_n 0, 1, 0, 0, 0) else none) else (bif Nat.beq pc 1 then some (.iload_n 1, 2, 1, 0, 0) else none)) else (bif Nat.blt pc 5 then (bif Nat.beq pc 2 then some (.invokevirtual 42, 5, 25, 1, 0) else none) else (bif Nat.beq pc 5 then some (.ifCond .eq 24, 8, 29, 0, 0) else none))) else (bif Nat.blt pc 10 then (bif Nat.blt pc 9 then (bif Nat.beq pc 8 then some (.aload_n 0, 9, 0, 0, 0) else none) else (bif Nat.beq pc 9 then some (.iload_n 1, 10, 1, 0, 0) else none)) else (bif Nat.blt pc 13 then (bif Nat.beq pc 10 then some (.invokevirtual 33, 13, 15, 1, 0) else none) else (bif Nat.beq pc 13 then some (.ifCond .le 16, 16, 29, 0, 0) else none)))) else (bif Nat.blt pc 22 then (bif Nat.blt pc 18 then (bif Nat.blt pc 17 then (bif Nat.beq pc 16 then some (.aload_n 0, 17, 0, 0, 0) else none) else (bif Nat.beq pc 17 then some (.iload_n 1, 18, 1, 0, 0) else none)) else (bif Nat.blt pc 21 then (bif Nat.beq pc 18 then some (.invokevirtual 48, 21, 16, 1, 0) else none) else (bif Nat.beq pc 21 then some (.iconst (-1), 22, 0, 0, (-1)) else none))) else (bif Nat.blt pc 26 then (bif Nat.blt pc 25 then (bif Nat.beq pc 22 then some (.if_icmp .ne 7, 25, 29, 0, 0) else none) else (bif Nat.beq pc 25 then some (.iconst 1, 26, 0, 0, 1) else none)) else (bif Nat.blt pc 29 then (bif Nat.beq pc 26 then some (.goto 4, 29, 30, 0, 0) else none) else (bif Nat.blt pc 30 then (bif Nat.beq pc 29 then some (.iconst 0, 30, 0, 0, 0) else none) else (bif Nat.beq pc 30 then some (.ireturn, 31, 0, 0, 0) else none)))))
/-- X4_canContradict -/
noncomputable def gn_c30 (pc : Nat) : Option gn_En := bif Nat.blt pc 10 then (bif Nat.blt pc 5 then (bif Nat.blt pc 1 then (bif Nat.beq pc 0 then some (.aload_n 0, 1, 0, 0, 0) else none) else (bif Nat.blt pc 2 then (bif Nat.beq pc 1 then some (.iload_n 1, 2, 1, 0, 0) else none) else (bif Nat.beq pc 2 then some (.invokevirtual 51, 5, 18, 1, 0) else none))) else (bif Nat.blt pc 8 then (bif Nat.beq pc 5 then some (.ifCond .le 15, 8, 20, 0, 0) else none) else (bif Nat.blt pc 9 then (bif Nat.beq pc 8 then some (.aload_n 0, 9, 0, 0, 0) else none) else (bif Nat.beq pc 9 then some (.iload_n 2, 10, 2, 0, 0) else none)))) else (bif Nat.blt pc 17 then (bif Nat.blt pc 13 then (bif Nat.beq pc 10 then some (.invokevirtual 54, 13, 29, 1, 0) else none) else (bif Nat.blt pc 16 then (bif Nat.beq pc 13 then some (.ifCond .eq 7, 16, 20, 0, 0) else none) else (bif Nat.beq pc 16 then some (.iconst 1, 17, 0, 0, 1) else none))) else (bif Nat.blt pc 20 then (bif Nat.beq pc 17 then some (.goto 4, 20, 21, 0, 0) else none) else (bif Nat.blt pc 21 then (bif Nat.beq pc 20 then some (.iconst 0, 21, 0, 0, 0) else none) else (bif Nat.beq pc 21 then some (.ireturn, 22, 0, 0, 0) else none))))
/-- X4_contradict -/
noncomputable def gn_c31 (pc : Nat) : Option gn_En := bif Nat.blt pc 21 then (bif Nat.blt pc 9 then (bif Nat.blt pc 3 then (bif Nat.blt pc 1 then (bif Nat.beq pc 0 then some (.aload_n 0, 1, 0, 0, 0) else none) else (bif Nat.blt pc 2 then (bif Nat.beq pc 1 then some (.aload_n 1, 2, 1, 0, 0) else none) else (bif Nat.beq pc 2 then some (.iload_n 2, 3, 2, 0, 0) else none))) else (bif Nat.blt pc 4 then (bif Nat.beq pc 3 then some (.iload_n 3, 4, 3, 0, 0) else none) else (bif Nat.blt pc 7 then (bif Nat.beq pc 4 then some (.invokevirtual 57, 7, 33, 3, 0) else none) else (bif Nat.beq pc 7 then some (.istore 4, 9, 4, 0, 0) else none)))) else (bif Nat.blt pc 14 then (bif Nat.blt pc 10 then (bif Nat.beq pc 9 then some (.aload_n 0, 10, 0, 0, 0) else none) else (bif Nat.blt pc 11 then (bif Nat.beq pc 10 then some (.iload_n 2, 11, 2, 0, 0) else none) else (bif Nat.beq pc 11 then some (.invokevirtual 51, 14, 18, 1, 0) else none))) else (bif Nat.blt pc 17 then (bif Nat.beq pc 14 then some (.ifCond .le 16, 17, 30, 0, 0) else none) else (bif Nat.blt pc 18 then (bif Nat.beq pc 17 then some (.aload_n 0, 18, 0, 0, 0) else none) else (bif Nat.beq pc 18 then some (.getfield 11, 21, 4, 0, 0) else none))))) else (bif Nat.blt pc 28 then (bif Nat.blt pc 25 then (bif Nat.blt pc 23 then (bif Nat.beq pc 21 then some (.bipush 18, 23, 0, 0, 18) else none) else (bif Nat.blt pc 24 then (bif Nat.beq pc 23 then some (.iload_n 2, 24, 2, 0, 0) else none) else (bif Nat.beq pc 24 then some (.iadd, 25, 0, 0, 0) else none))) else (bif Nat.blt pc 26 then (bif Nat.beq pc 25 then some (.dup2, 26, 0, 0, 0) else none) else (bif Nat.blt pc 27 then (bif Nat.beq pc 26 then some (.iaload, 27, 0, 0, 0) else none) else (bif Nat.beq pc 27 then some (.iconst 1, 28, 0, 0, 1) else none)))) else (bif Nat.blt pc 31 then (bif Nat.blt pc 29 then (bif Nat.beq pc 28 then some (.isub, 29, 0, 0, 0) else none) else (bif Nat.blt pc 30 then (bif Nat.beq pc 29 then some (.iastore, 30, 0, 0, 0) else none) else (bif Nat.beq pc 30 then some (.aload_n 0, 31, 0, 0, 0) else none))) else (bif Nat.blt pc 36 then (bif Nat.blt pc 33 then (bif Nat.beq pc 31 then some (.iload 4, 33, 4, 0, 0) else none) else (bif Nat.beq pc 33 then some (.invokevirtual 61, 36, 34, 1, 0) else none)) else (bif Nat.blt pc 38 then (bif Nat.beq pc 36 then some (.iload 4, 38, 4, 0, 0) else none) else (bif Nat.beq pc 38 then some (.ireturn, 39, 0, 0, 0) else none)))))
/-- X4_shareNo -/
noncomputable def gn_c32 (pc : Nat) : Option gn_En := bif Nat.blt pc 11 then (bif Nat.blt pc 3 then (bif Nat.blt pc 1 then (bif Nat.beq pc 0 then some (.aload_n 0, 1, 0, 0, 0) else none) else (bif Nat.blt pc 2 then (bif Nat.beq pc 1 then some (.aload_n 1, 2, 1, 0, 0) else none) else (bif Nat.beq pc 2 then some (.aload_n 0, 3, 0, 0, 0) else none))) else (bif Nat.blt pc 7 then (bif Nat.blt pc 4 then (bif Nat.beq pc 3 then some (.iload_n 3, 4, 3, 0, 0) else none) else (bif Nat.beq pc 4 then some (.invokevirtual 48, 7, 16, 1, 0) else none)) else (bif Nat.blt pc 8 then (bif Nat.beq pc 7 then some (.iload_n 2, 8, 2, 0, 0) else none) else (bif Nat.beq pc 8 then some (.invokevirtual 57, 11, 33, 3, 0) else none)))) else (bif Nat.blt pc 16 then (bif Nat.blt pc 13 then (bif Nat.blt pc 12 then (bif Nat.beq pc 11 then some (.iconst 2, 12, 0, 0, 2) else none) else (bif Nat.beq pc 12 then some (.idiv, 13, 0, 0, 0) else none)) else (bif Nat.blt pc 15 then (bif Nat.beq pc 13 then some (.istore 4, 15, 4, 0, 0) else none) else (bif Nat.beq pc 15 then some (.aload_n 0, 16, 0, 0, 0) else none))) else (bif Nat.blt pc 21 then (bif Nat.blt pc 18 then (bif Nat.beq pc 16 then some (.iload 4, 18, 4, 0, 0) else none) else (bif Nat.beq pc 18 then some (.invokevirtual 61, 21, 34, 1, 0) else none)) else (bif Nat.blt pc 23 then (bif Nat.beq pc 21 then some (.iload 4, 23, 4, 0, 0) else none) else (bif Nat.beq pc 23 then some (.ireturn, 24, 0, 0, 0) else none))))
/-- X4_tell -/
noncomputable def gn_c33 (pc : Nat) : Option gn_En := bif Nat.blt pc 24 then (bif Nat.blt pc 11 then (bif Nat.blt pc 7 then (bif Nat.blt pc 1 then (bif Nat.beq pc 0 then some (.iload_n 3, 1, 3, 0, 0) else none) else (bif Nat.blt pc 4 then (bif Nat.beq pc 1 then some (.invokestatic 29, 4, 14, 1, 0) else none) else (bif Nat.beq pc 4 then some (.ifCond .ne 5, 7, 9, 0, 0) else none))) else (bif Nat.blt pc 9 then (bif Nat.blt pc 8 then (bif Nat.beq pc 7 then some (.iconst 0, 8, 0, 0, 0) else none) else (bif Nat.beq pc 8 then some (.ireturn, 9, 0, 0, 0) else none)) else (bif Nat.blt pc 10 then (bif Nat.beq pc 9 then some (.aload_n 0, 10, 0, 0, 0) else none) else (bif Nat.beq pc 10 then some (.iload_n 3, 11, 3, 0, 0) else none)))) else (bif Nat.blt pc 17 then (bif Nat.blt pc 14 then (bif Nat.beq pc 11 then some (.invokevirtual 65, 14, 26, 1, 0) else none) else (bif Nat.blt pc 16 then (bif Nat.beq pc 14 then some (.istore 4, 16, 4, 0, 0) else none) else (bif Nat.beq pc 16 then some (.aload_n 0, 17, 0, 0, 0) else none))) else (bif Nat.blt pc 22 then (bif Nat.blt pc 20 then (bif Nat.beq pc 17 then some (.getfield 11, 20, 4, 0, 0) else none) else (bif Nat.beq pc 20 then some (.bipush 6, 22, 0, 0, 6) else none)) else (bif Nat.blt pc 23 then (bif Nat.beq pc 22 then some (.iload_n 3, 23, 3, 0, 0) else none) else (bif Nat.beq pc 23 then some (.iadd, 24, 0, 0, 0) else none))))) else (bif Nat.blt pc 34 then (bif Nat.blt pc 27 then (bif Nat.blt pc 25 then (bif Nat.beq pc 24 then some (.iload_n 2, 25, 2, 0, 0) else none) else (bif Nat.blt pc 26 then (bif Nat.beq pc 25 then some (.iastore, 26, 0, 0, 0) else none) else (bif Nat.beq pc 26 then some (.aload_n 0, 27, 0, 0, 0) else none))) else (bif Nat.blt pc 32 then (bif Nat.blt pc 30 then (bif Nat.beq pc 27 then some (.getfield 11, 30, 4, 0, 0) else none) else (bif Nat.beq pc 30 then some (.bipush 12, 32, 0, 0, 12) else none)) else (bif Nat.blt pc 33 then (bif Nat.beq pc 32 then some (.iload_n 3, 33, 3, 0, 0) else none) else (bif Nat.beq pc 33 then some (.iadd, 34, 0, 0, 0) else none)))) else (bif Nat.blt pc 39 then (bif Nat.blt pc 37 then (bif Nat.blt pc 36 then (bif Nat.beq pc 34 then some (.iload 4, 36, 4, 0, 0) else none) else (bif Nat.beq pc 36 then some (.iastore, 37, 0, 0, 0) else none)) else (bif Nat.blt pc 38 then (bif Nat.beq pc 37 then some (.aload_n 1, 38, 1, 0, 0) else none) else (bif Nat.beq pc 38 then some (.iload_n 3, 39, 3, 0, 0) else none))) else (bif Nat.blt pc 42 then (bif Nat.blt pc 40 then (bif Nat.beq pc 39 then some (.iload_n 2, 40, 2, 0, 0) else none) else (bif Nat.beq pc 40 then some (.iload 4, 42, 4, 0, 0) else none)) else (bif Nat.blt pc 45 then (bif Nat.beq pc 42 then some (.invokevirtual 68, 45, 79, 3, 1) else none) else (bif Nat.beq pc 45 then some (.ireturn, 46, 0, 0, 0) else none)))))
/-- X4_addGlad -/
noncomputable def gn_c34 (pc : Nat) : Option gn_En := bif Nat.blt pc 12 then (bif Nat.blt pc 6 then (bif Nat.blt pc 1 then (bif Nat.beq pc 0 then some (.aload_n 0, 1, 0, 0, 0) else none) else (bif Nat.blt pc 4 then (bif Nat.beq pc 1 then some (.getfield 11, 4, 4, 0, 0) else none) else (bif Nat.beq pc 4 then some (.bipush 24, 6, 0, 0, 24) else none))) else (bif Nat.blt pc 8 then (bif Nat.beq pc 6 then some (.ldc 72, 8, 0, 0, 999999) else none) else (bif Nat.blt pc 9 then (bif Nat.beq pc 8 then some (.aload_n 0, 9, 0, 0, 0) else none) else (bif Nat.beq pc 9 then some (.getfield 11, 12, 4, 0, 0) else none)))) else (bif Nat.blt pc 16 then (bif Nat.blt pc 14 then (bif Nat.beq pc 12 then some (.bipush 24, 14, 0, 0, 24) else none) else (bif Nat.blt pc 15 then (bif Nat.beq pc 14 then some (.iaload, 15, 0, 0, 0) else none) else (bif Nat.beq pc 15 then some (.iload_n 1, 16, 1, 0, 0) else none))) else (bif Nat.blt pc 20 then (bif Nat.blt pc 17 then (bif Nat.beq pc 16 then some (.iadd, 17, 0, 0, 0) else none) else (bif Nat.beq pc 17 then some (.invokestatic 73, 20, 0, 0, 3) else none)) else (bif Nat.blt pc 21 then (bif Nat.beq pc 20 then some (.iastore, 21, 0, 0, 0) else none) else (bif Nat.beq pc 21 then some (.return_, 22, 0, 0, 0) else none))))
/-- X4_retire -/
noncomputable def gn_c35 (pc : Nat) : Option gn_En := bif Nat.blt pc 30 then (bif Nat.blt pc 13 then (bif Nat.blt pc 8 then (bif Nat.blt pc 4 then (bif Nat.blt pc 1 then (bif Nat.beq pc 0 then some (.aload_n 0, 1, 0, 0, 0) else none) else (bif Nat.beq pc 1 then some (.getfield 11, 4, 4, 0, 0) else none)) else (bif Nat.blt pc 6 then (bif Nat.beq pc 4 then some (.bipush 22, 6, 0, 0, 22) else none) else (bif Nat.blt pc 7 then (bif Nat.beq pc 6 then some (.dup2, 7, 0, 0, 0) else none) else (bif Nat.beq pc 7 then some (.iaload, 8, 0, 0, 0) else none)))) else (bif Nat.blt pc 10 then (bif Nat.blt pc 9 then (bif Nat.beq pc 8 then some (.iconst 1, 9, 0, 0, 1) else none) else (bif Nat.beq pc 9 then some (.iload_n 1, 10, 1, 0, 0) else none)) else (bif Nat.blt pc 11 then (bif Nat.beq pc 10 then some (.ishl, 11, 0, 0, 0) else none) else (bif Nat.blt pc 12 then (bif Nat.beq pc 11 then some (.iconst (-1), 12, 0, 0, (-1)) else none) else (bif Nat.beq pc 12 then some (.ixor, 13, 0, 0, 0) else none))))) else (bif Nat.blt pc 20 then (bif Nat.blt pc 15 then (bif Nat.blt pc 14 then (bif Nat.beq pc 13 then some (.iand, 14, 0, 0, 0) else none) else (bif Nat.beq pc 14 then some (.iastore, 15, 0, 0, 0) else none)) else (bif Nat.blt pc 16 then (bif Nat.beq pc 15 then some (.aload_n 0, 16, 0, 0, 0) else none) else (bif Nat.blt pc 17 then (bif Nat.beq pc 16 then some (.iload_n 1, 17, 1, 0, 0) else none) else (bif Nat.beq pc 17 then some (.invokevirtual 48, 20, 16, 1, 0) else none)))) else (bif Nat.blt pc 25 then (bif Nat.blt pc 21 then (bif Nat.beq pc 20 then some (.iconst (-1), 21, 0, 0, (-1)) else none) else (bif Nat.blt pc 24 then (bif Nat.beq pc 21 then some (.if_icmp .eq 5, 24, 26, 0, 0) else none) else (bif Nat.beq pc 24 then some (.iconst 0, 25, 0, 0, 0) else none))) else (bif Nat.blt pc 26 then (bif Nat.beq pc 25 then some (.ireturn, 26, 0, 0, 0) else none) else (bif Nat.blt pc 27 then (bif Nat.beq pc 26 then some (.aload_n 0, 27, 0, 0, 0) else none) else (bif Nat.beq pc 27 then some (.getfield 11, 30, 4, 0, 0) else none)))))) else (bif Nat.blt pc 45 then (bif Nat.blt pc 36 then (bif Nat.blt pc 33 then (bif Nat.blt pc 32 then (bif Nat.beq pc 30 then some (.bipush 23, 32, 0, 0, 23) else none) else (bif Nat.beq pc 32 then some (.dup2, 33, 0, 0, 0) else none)) else (bif Nat.blt pc 34 then (bif Nat.beq pc 33 then some (.iaload, 34, 0, 0, 0) else none) else (bif Nat.blt pc 35 then (bif Nat.beq pc 34 then some (.iconst 1, 35, 0, 0, 1) else none) else (bif Nat.beq pc 35 then some (.iload_n 1, 36, 1, 0, 0) else none)))) else (bif Nat.blt pc 39 then (bif Nat.blt pc 37 then (bif Nat.beq pc 36 then some (.ishl, 37, 0, 0, 0) else none) else (bif Nat.blt pc 38 then (bif Nat.beq pc 37 then some (.ior, 38, 0, 0, 0) else none) else (bif Nat.beq pc 38 then some (.iastore, 39, 0, 0, 0) else none))) else (bif Nat.blt pc 40 then (bif Nat.beq pc 39 then some (.aload_n 0, 40, 0, 0, 0) else none) else (bif Nat.blt pc 43 then (bif Nat.beq pc 40 then some (.getfield 11, 43, 4, 0, 0) else none) else (bif Nat.beq pc 43 then some (.bipush 25, 45, 0, 0, 25) else none))))) else (bif Nat.blt pc 54 then (bif Nat.blt pc 48 then (bif Nat.blt pc 47 then (bif Nat.beq pc 45 then some (.ldc 72, 47, 0, 0, 999999) else none) else (bif Nat.beq pc 47 then some (.aload_n 0, 48, 0, 0, 0) else none)) else (bif Nat.blt pc 51 then (bif Nat.beq pc 48 then some (.getfield 11, 51, 4, 0, 0) else none) else (bif Nat.blt pc 53 then (bif Nat.beq pc 51 then some (.bipush 25, 53, 0, 0, 25) else none) else (bif Nat.beq pc 53 then some (.iaload, 54, 0, 0, 0) else none)))) else (bif Nat.blt pc 59 then (bif Nat.blt pc 55 then (bif Nat.beq pc 54 then some (.iconst 1, 55, 0, 0, 1) else none) else (bif Nat.blt pc 56 then (bif Nat.beq pc 55 then some (.iadd, 56, 0, 0, 0) else none) else (bif Nat.beq pc 56 then some (.invokestatic 73, 59, 0, 0, 3) else none))) else (bif Nat.blt pc 60 then (bif Nat.beq pc 59 then some (.iastore, 60, 0, 0, 0) else none) else (bif Nat.blt pc 61 then (bif Nat.beq pc 60 then some (.iconst 1, 61, 0, 0, 1) else none) else (bif Nat.beq pc 61 then some (.ireturn, 62, 0, 0, 0) else none))))))
/-- X4_passHour -/
noncomputable def gn_c36 (pc : Nat) : Option gn_En := bif Nat.blt pc 38 then (bif Nat.blt pc 16 then (bif Nat.blt pc 7 then (bif Nat.blt pc 2 then (bif Nat.blt pc 1 then (bif Nat.beq pc 0 then some (.iconst 0, 1, 0, 0, 0) else none) else (bif Nat.beq pc 1 then some (.istore_n 2, 2, 2, 0, 0) else none)) else (bif Nat.blt pc 3 then (bif Nat.beq pc 2 then some (.iload_n 2, 3, 2, 0, 0) else none) else (bif Nat.blt pc 4 then (bif Nat.beq pc 3 then some (.aload_n 1, 4, 1, 0, 0) else none) else (bif Nat.beq pc 4 then some (.getfield 25, 7, 9, 2, 0) else none)))) else (bif Nat.blt pc 11 then (bif Nat.blt pc 10 then (bif Nat.beq pc 7 then some (.if_icmp .ge 24, 10, 31, 0, 0) else none) else (bif Nat.beq pc 10 then some (.aload_n 0, 11, 0, 0, 0) else none)) else (bif Nat.blt pc 12 then (bif Nat.beq pc 11 then some (.aload_n 1, 12, 1, 0, 0) else none) else (bif Nat.blt pc 13 then (bif Nat.beq pc 12 then some (.iload_n 2, 13, 2, 0, 0) else none) else (bif Nat.beq pc 13 then some (.invokevirtual 76, 16, 27, 2, 0) else none))))) else (bif Nat.blt pc 25 then (bif Nat.blt pc 20 then (bif Nat.blt pc 19 then (bif Nat.beq pc 16 then some (.ifCond .eq 9, 19, 25, 0, 0) else none) else (bif Nat.beq pc 19 then some (.aload_n 0, 20, 0, 0, 0) else none)) else (bif Nat.blt pc 21 then (bif Nat.beq pc 20 then some (.iload_n 2, 21, 2, 0, 0) else none) else (bif Nat.blt pc 24 then (bif Nat.beq pc 21 then some (.invokevirtual 80, 24, 28, 1, 0) else none) else (bif Nat.beq pc 24 then some (.pop, 25, 0, 0, 0) else none)))) else (bif Nat.blt pc 32 then (bif Nat.blt pc 28 then (bif Nat.beq pc 25 then some (.iinc 2 1, 28, 2, 0, 1) else none) else (bif Nat.blt pc 31 then (bif Nat.beq pc 28 then some (.goto (-26), 31, 2, 0, 0) else none) else (bif Nat.beq pc 31 then some (.aload_n 0, 32, 0, 0, 0) else none))) else (bif Nat.blt pc 35 then (bif Nat.beq pc 32 then some (.getfield 11, 35, 4, 0, 0) else none) else (bif Nat.blt pc 37 then (bif Nat.beq pc 35 then some (.bipush 22, 37, 0, 0, 22) else none) else (bif Nat.beq pc 37 then some (.dup2, 38, 0, 0, 0) else none)))))) else (bif Nat.blt pc 54 then (bif Nat.blt pc 46 then (bif Nat.blt pc 40 then (bif Nat.blt pc 39 then (bif Nat.beq pc 38 then some (.iaload, 39, 0, 0, 0) else none) else (bif Nat.beq pc 39 then some (.aload_n 0, 40, 0, 0, 0) else none)) else (bif Nat.blt pc 43 then (bif Nat.beq pc 40 then some (.getfield 11, 43, 4, 0, 0) else none) else (bif Nat.blt pc 45 then (bif Nat.beq pc 43 then some (.bipush 23, 45, 0, 0, 23) else none) else (bif Nat.beq pc 45 then some (.iaload, 46, 0, 0, 0) else none)))) else (bif Nat.blt pc 48 then (bif Nat.blt pc 47 then (bif Nat.beq pc 46 then some (.ior, 47, 0, 0, 0) else none) else (bif Nat.beq pc 47 then some (.iastore, 48, 0, 0, 0) else none)) else (bif Nat.blt pc 49 then (bif Nat.beq pc 48 then some (.aload_n 0, 49, 0, 0, 0) else none) else (bif Nat.blt pc 52 then (bif Nat.beq pc 49 then some (.getfield 11, 52, 4, 0, 0) else none) else (bif Nat.beq pc 52 then some (.bipush 23, 54, 0, 0, 23) else none))))) else (bif Nat.blt pc 62 then (bif Nat.blt pc 56 then (bif Nat.blt pc 55 then (bif Nat.beq pc 54 then some (.iconst 0, 55, 0, 0, 0) else none) else (bif Nat.beq pc 55 then some (.iastore, 56, 0, 0, 0) else none)) else (bif Nat.blt pc 57 then (bif Nat.beq pc 56 then some (.aload_n 0, 57, 0, 0, 0) else none) else (bif Nat.blt pc 60 then (bif Nat.beq pc 57 then some (.getfield 11, 60, 4, 0, 0) else none) else (bif Nat.beq pc 60 then some (.bipush 26, 62, 0, 0, 26) else none)))) else (bif Nat.blt pc 65 then (bif Nat.blt pc 63 then (bif Nat.beq pc 62 then some (.dup2, 63, 0, 0, 0) else none) else (bif Nat.blt pc 64 then (bif Nat.beq pc 63 then some (.iaload, 64, 0, 0, 0) else none) else (bif Nat.beq pc 64 then some (.iconst 1, 65, 0, 0, 1) else none))) else (bif Nat.blt pc 66 then (bif Nat.beq pc 65 then some (.iadd, 66, 0, 0, 0) else none) else (bif Nat.blt pc 67 then (bif Nat.beq pc 66 then some (.iastore, 67, 0, 0, 0) else none) else (bif Nat.beq pc 67 then some (.return_, 68, 0, 0, 0) else none))))))
/-- X4_whoWasTold -/
noncomputable def gn_c37 (pc : Nat) : Option gn_En := bif Nat.blt pc 17 then (bif Nat.blt pc 5 then (bif Nat.blt pc 2 then (bif Nat.blt pc 1 then (bif Nat.beq pc 0 then some (.iconst 0, 1, 0, 0, 0) else none) else (bif Nat.beq pc 1 then some (.istore_n 2, 2, 2, 0, 0) else none)) else (bif Nat.blt pc 3 then (bif Nat.beq pc 2 then some (.iconst 0, 3, 0, 0, 0) else none) else (bif Nat.blt pc 4 then (bif Nat.beq pc 3 then some (.istore_n 3, 4, 3, 0, 0) else none) else (bif Nat.beq pc 4 then some (.iload_n 3, 5, 3, 0, 0) else none)))) else (bif Nat.blt pc 12 then (bif Nat.blt pc 6 then (bif Nat.beq pc 5 then some (.aload_n 1, 6, 1, 0, 0) else none) else (bif Nat.blt pc 9 then (bif Nat.beq pc 6 then some (.getfield 25, 9, 9, 2, 0) else none) else (bif Nat.beq pc 9 then some (.if_icmp .ge 24, 12, 33, 0, 0) else none))) else (bif Nat.blt pc 13 then (bif Nat.beq pc 12 then some (.aload_n 0, 13, 0, 0, 0) else none) else (bif Nat.blt pc 14 then (bif Nat.beq pc 13 then some (.iload_n 3, 14, 3, 0, 0) else none) else (bif Nat.beq pc 14 then some (.invokevirtual 48, 17, 16, 1, 0) else none))))) else (bif Nat.blt pc 25 then (bif Nat.blt pc 22 then (bif Nat.blt pc 18 then (bif Nat.beq pc 17 then some (.iconst (-1), 18, 0, 0, (-1)) else none) else (bif Nat.blt pc 21 then (bif Nat.beq pc 18 then some (.if_icmp .eq 9, 21, 27, 0, 0) else none) else (bif Nat.beq pc 21 then some (.iload_n 2, 22, 2, 0, 0) else none))) else (bif Nat.blt pc 23 then (bif Nat.beq pc 22 then some (.iconst 1, 23, 0, 0, 1) else none) else (bif Nat.blt pc 24 then (bif Nat.beq pc 23 then some (.iload_n 3, 24, 3, 0, 0) else none) else (bif Nat.beq pc 24 then some (.ishl, 25, 0, 0, 0) else none)))) else (bif Nat.blt pc 30 then (bif Nat.blt pc 26 then (bif Nat.beq pc 25 then some (.ior, 26, 0, 0, 0) else none) else (bif Nat.blt pc 27 then (bif Nat.beq pc 26 then some (.istore_n 2, 27, 2, 0, 0) else none) else (bif Nat.beq pc 27 then some (.iinc 3 1, 30, 3, 0, 1) else none))) else (bif Nat.blt pc 33 then (bif Nat.beq pc 30 then some (.goto (-26), 33, 4, 0, 0) else none) else (bif Nat.blt pc 34 then (bif Nat.beq pc 33 then some (.iload_n 2, 34, 2, 0, 0) else none) else (bif Nat.beq pc 34 then some (.ireturn, 35, 0, 0, 0) else none)))))
/-- X4_joyWhenTold -/
noncomputable def gn_c38 (pc : Nat) : Option gn_En := bif Nat.blt pc 7 then (bif Nat.blt pc 2 then (bif Nat.blt pc 1 then (bif Nat.beq pc 0 then some (.aload_n 1, 1, 1, 0, 0) else none) else (bif Nat.beq pc 1 then some (.iload_n 2, 2, 2, 0, 0) else none)) else (bif Nat.blt pc 3 then (bif Nat.beq pc 2 then some (.aload_n 0, 3, 0, 0, 0) else none) else (bif Nat.blt pc 4 then (bif Nat.beq pc 3 then some (.iload_n 2, 4, 2, 0, 0) else none) else (bif Nat.beq pc 4 then some (.invokevirtual 48, 7, 16, 1, 0) else none)))) else (bif Nat.blt pc 9 then (bif Nat.blt pc 8 then (bif Nat.beq pc 7 then some (.aload_n 0, 8, 0, 0, 0) else none) else (bif Nat.beq pc 8 then some (.iload_n 2, 9, 2, 0, 0) else none)) else (bif Nat.blt pc 12 then (bif Nat.beq pc 9 then some (.invokevirtual 83, 12, 17, 1, 0) else none) else (bif Nat.blt pc 15 then (bif Nat.beq pc 12 then some (.invokevirtual 68, 15, 79, 3, 1) else none) else (bif Nat.beq pc 15 then some (.ireturn, 16, 0, 0, 0) else none))))
/-- X4_whoWasToldMeanly -/
noncomputable def gn_c39 (pc : Nat) : Option gn_En := bif Nat.blt pc 21 then (bif Nat.blt pc 9 then (bif Nat.blt pc 3 then (bif Nat.blt pc 1 then (bif Nat.beq pc 0 then some (.iconst 0, 1, 0, 0, 0) else none) else (bif Nat.blt pc 2 then (bif Nat.beq pc 1 then some (.istore_n 2, 2, 2, 0, 0) else none) else (bif Nat.beq pc 2 then some (.iconst 0, 3, 0, 0, 0) else none))) else (bif Nat.blt pc 5 then (bif Nat.blt pc 4 then (bif Nat.beq pc 3 then some (.istore_n 3, 4, 3, 0, 0) else none) else (bif Nat.beq pc 4 then some (.iload_n 3, 5, 3, 0, 0) else none)) else (bif Nat.blt pc 6 then (bif Nat.beq pc 5 then some (.aload_n 1, 6, 1, 0, 0) else none) else (bif Nat.beq pc 6 then some (.getfield 25, 9, 9, 2, 0) else none)))) else (bif Nat.blt pc 15 then (bif Nat.blt pc 13 then (bif Nat.blt pc 12 then (bif Nat.beq pc 9 then some (.if_icmp .ge 35, 12, 44, 0, 0) else none) else (bif Nat.beq pc 12 then some (.aload_n 0, 13, 0, 0, 0) else none)) else (bif Nat.blt pc 14 then (bif Nat.beq pc 13 then some (.aload_n 1, 14, 1, 0, 0) else none) else (bif Nat.beq pc 14 then some (.iload_n 3, 15, 3, 0, 0) else none))) else (bif Nat.blt pc 19 then (bif Nat.blt pc 18 then (bif Nat.beq pc 15 then some (.invokevirtual 86, 18, 38, 2, 0) else none) else (bif Nat.beq pc 18 then some (.aload_n 1, 19, 1, 0, 0) else none)) else (bif Nat.blt pc 20 then (bif Nat.beq pc 19 then some (.iconst 0, 20, 0, 0, 0) else none) else (bif Nat.beq pc 20 then some (.iload_n 3, 21, 3, 0, 0) else none))))) else (bif Nat.blt pc 34 then (bif Nat.blt pc 26 then (bif Nat.blt pc 22 then (bif Nat.beq pc 21 then some (.aload_n 0, 22, 0, 0, 0) else none) else (bif Nat.blt pc 23 then (bif Nat.beq pc 22 then some (.iload_n 3, 23, 3, 0, 0) else none) else (bif Nat.beq pc 23 then some (.invokevirtual 48, 26, 16, 1, 0) else none))) else (bif Nat.blt pc 32 then (bif Nat.blt pc 29 then (bif Nat.beq pc 26 then some (.invokevirtual 90, 29, 80, 3, 1) else none) else (bif Nat.beq pc 29 then some (.if_icmp .ge 9, 32, 38, 0, 0) else none)) else (bif Nat.blt pc 33 then (bif Nat.beq pc 32 then some (.iload_n 2, 33, 2, 0, 0) else none) else (bif Nat.beq pc 33 then some (.iconst 1, 34, 0, 0, 1) else none)))) else (bif Nat.blt pc 38 then (bif Nat.blt pc 36 then (bif Nat.blt pc 35 then (bif Nat.beq pc 34 then some (.iload_n 3, 35, 3, 0, 0) else none) else (bif Nat.beq pc 35 then some (.ishl, 36, 0, 0, 0) else none)) else (bif Nat.blt pc 37 then (bif Nat.beq pc 36 then some (.ior, 37, 0, 0, 0) else none) else (bif Nat.beq pc 37 then some (.istore_n 2, 38, 2, 0, 0) else none))) else (bif Nat.blt pc 44 then (bif Nat.blt pc 41 then (bif Nat.beq pc 38 then some (.iinc 3 1, 41, 3, 0, 1) else none) else (bif Nat.beq pc 41 then some (.goto (-37), 44, 4, 0, 0) else none)) else (bif Nat.blt pc 45 then (bif Nat.beq pc 44 then some (.iload_n 2, 45, 2, 0, 0) else none) else (bif Nat.beq pc 45 then some (.ireturn, 46, 0, 0, 0) else none)))))
/-- X4_leastPleased -/
noncomputable def gn_c40 (pc : Nat) : Option gn_En := bif Nat.blt pc 27 then (bif Nat.blt pc 10 then (bif Nat.blt pc 4 then (bif Nat.blt pc 2 then (bif Nat.blt pc 1 then (bif Nat.beq pc 0 then some (.iconst (-1), 1, 0, 0, (-1)) else none) else (bif Nat.beq pc 1 then some (.istore_n 2, 2, 2, 0, 0) else none)) else (bif Nat.blt pc 3 then (bif Nat.beq pc 2 then some (.iconst 0, 3, 0, 0, 0) else none) else (bif Nat.beq pc 3 then some (.istore_n 3, 4, 3, 0, 0) else none))) else (bif Nat.blt pc 7 then (bif Nat.blt pc 5 then (bif Nat.beq pc 4 then some (.iconst 0, 5, 0, 0, 0) else none) else (bif Nat.beq pc 5 then some (.istore 4, 7, 4, 0, 0) else none)) else (bif Nat.blt pc 9 then (bif Nat.beq pc 7 then some (.iload 4, 9, 4, 0, 0) else none) else (bif Nat.beq pc 9 then some (.aload_n 1, 10, 1, 0, 0) else none)))) else (bif Nat.blt pc 18 then (bif Nat.blt pc 16 then (bif Nat.blt pc 13 then (bif Nat.beq pc 10 then some (.getfield 25, 13, 9, 2, 0) else none) else (bif Nat.beq pc 13 then some (.if_icmp .ge 41, 16, 54, 0, 0) else none)) else (bif Nat.blt pc 17 then (bif Nat.beq pc 16 then some (.aload_n 0, 17, 0, 0, 0) else none) else (bif Nat.beq pc 17 then some (.aload_n 1, 18, 1, 0, 0) else none))) else (bif Nat.blt pc 23 then (bif Nat.blt pc 20 then (bif Nat.beq pc 18 then some (.iload 4, 20, 4, 0, 0) else none) else (bif Nat.beq pc 20 then some (.invokevirtual 86, 23, 38, 2, 0) else none)) else (bif Nat.blt pc 25 then (bif Nat.beq pc 23 then some (.istore 5, 25, 5, 0, 0) else none) else (bif Nat.beq pc 25 then some (.iload 5, 27, 5, 0, 0) else none))))) else (bif Nat.blt pc 42 then (bif Nat.blt pc 33 then (bif Nat.blt pc 31 then (bif Nat.blt pc 28 then (bif Nat.beq pc 27 then some (.iconst (-1), 28, 0, 0, (-1)) else none) else (bif Nat.beq pc 28 then some (.if_icmp .eq 20, 31, 48, 0, 0) else none)) else (bif Nat.blt pc 32 then (bif Nat.beq pc 31 then some (.iload_n 2, 32, 2, 0, 0) else none) else (bif Nat.beq pc 32 then some (.iconst (-1), 33, 0, 0, (-1)) else none))) else (bif Nat.blt pc 38 then (bif Nat.blt pc 36 then (bif Nat.beq pc 33 then some (.if_icmp .eq 9, 36, 42, 0, 0) else none) else (bif Nat.beq pc 36 then some (.iload 5, 38, 5, 0, 0) else none)) else (bif Nat.blt pc 39 then (bif Nat.beq pc 38 then some (.iload_n 3, 39, 3, 0, 0) else none) else (bif Nat.beq pc 39 then some (.if_icmp .ge 9, 42, 48, 0, 0) else none)))) else (bif Nat.blt pc 48 then (bif Nat.blt pc 45 then (bif Nat.blt pc 44 then (bif Nat.beq pc 42 then some (.iload 4, 44, 4, 0, 0) else none) else (bif Nat.beq pc 44 then some (.istore_n 2, 45, 2, 0, 0) else none)) else (bif Nat.blt pc 47 then (bif Nat.beq pc 45 then some (.iload 5, 47, 5, 0, 0) else none) else (bif Nat.beq pc 47 then some (.istore_n 3, 48, 3, 0, 0) else none))) else (bif Nat.blt pc 54 then (bif Nat.blt pc 51 then (bif Nat.beq pc 48 then some (.iinc 4 1, 51, 4, 0, 1) else none) else (bif Nat.beq pc 51 then some (.goto (-44), 54, 7, 0, 0) else none)) else (bif Nat.blt pc 55 then (bif Nat.beq pc 54 then some (.iload_n 2, 55, 2, 0, 0) else none) else (bif Nat.beq pc 55 then some (.ireturn, 56, 0, 0, 0) else none)))))
/-- X5_forget -/
noncomputable def gn_c41 (pc : Nat) : Option gn_En := bif Nat.blt pc 2 then (bif Nat.blt pc 1 then (bif Nat.beq pc 0 then some (.aload_n 0, 1, 0, 0, 0) else none) else (bif Nat.beq pc 1 then some (.iconst 0, 2, 0, 0, 0) else none)) else (bif Nat.blt pc 5 then (bif Nat.beq pc 2 then some (.putfield 15, 5, 5, 2, 0) else none) else (bif Nat.beq pc 5 then some (.return_, 6, 0, 0, 0) else none))
/-- X5_remember -/
noncomputable def gn_c42 (pc : Nat) : Option gn_En := bif Nat.blt pc 26 then (bif Nat.blt pc 13 then (bif Nat.blt pc 5 then (bif Nat.blt pc 1 then (bif Nat.beq pc 0 then some (.aload_n 1, 1, 1, 0, 0) else none) else (bif Nat.blt pc 4 then (bif Nat.beq pc 1 then some (.getfield 19, 4, 4, 0, 0) else none) else (bif Nat.beq pc 4 then some (.iconst 0, 5, 0, 0, 0) else none))) else (bif Nat.blt pc 9 then (bif Nat.blt pc 6 then (bif Nat.beq pc 5 then some (.aload_n 0, 6, 0, 0, 0) else none) else (bif Nat.beq pc 6 then some (.getfield 11, 9, 5, 0, 0) else none)) else (bif Nat.blt pc 10 then (bif Nat.beq pc 9 then some (.aload_n 0, 10, 0, 0, 0) else none) else (bif Nat.beq pc 10 then some (.getfield 22, 13, 5, 1, 0) else none)))) else (bif Nat.blt pc 18 then (bif Nat.blt pc 15 then (bif Nat.beq pc 13 then some (.bipush 28, 15, 0, 0, 28) else none) else (bif Nat.blt pc 16 then (bif Nat.beq pc 15 then some (.imul, 16, 0, 0, 0) else none) else (bif Nat.beq pc 16 then some (.bipush 28, 18, 0, 0, 28) else none))) else (bif Nat.blt pc 22 then (bif Nat.blt pc 21 then (bif Nat.beq pc 18 then some (.invokestatic 25, 21, 0, 0, 1) else none) else (bif Nat.beq pc 21 then some (.aload_n 0, 22, 0, 0, 0) else none)) else (bif Nat.blt pc 23 then (bif Nat.beq pc 22 then some (.aload_n 0, 23, 0, 0, 0) else none) else (bif Nat.beq pc 23 then some (.getfield 22, 26, 5, 1, 0) else none))))) else (bif Nat.blt pc 37 then (bif Nat.blt pc 30 then (bif Nat.blt pc 27 then (bif Nat.beq pc 26 then some (.iconst 1, 27, 0, 0, 1) else none) else (bif Nat.blt pc 28 then (bif Nat.beq pc 27 then some (.iadd, 28, 0, 0, 0) else none) else (bif Nat.beq pc 28 then some (.bipush 30, 30, 0, 0, 30) else none))) else (bif Nat.blt pc 34 then (bif Nat.blt pc 31 then (bif Nat.beq pc 30 then some (.irem, 31, 0, 0, 0) else none) else (bif Nat.beq pc 31 then some (.putfield 22, 34, 5, 1, 0) else none)) else (bif Nat.blt pc 35 then (bif Nat.beq pc 34 then some (.aload_n 0, 35, 0, 0, 0) else none) else (bif Nat.beq pc 35 then some (.bipush 30, 37, 0, 0, 30) else none)))) else (bif Nat.blt pc 42 then (bif Nat.blt pc 38 then (bif Nat.beq pc 37 then some (.aload_n 0, 38, 0, 0, 0) else none) else (bif Nat.blt pc 41 then (bif Nat.beq pc 38 then some (.getfield 15, 41, 5, 2, 0) else none) else (bif Nat.beq pc 41 then some (.iconst 1, 42, 0, 0, 1) else none))) else (bif Nat.blt pc 46 then (bif Nat.blt pc 43 then (bif Nat.beq pc 42 then some (.iadd, 43, 0, 0, 0) else none) else (bif Nat.beq pc 43 then some (.invokestatic 31, 46, 0, 0, 3) else none)) else (bif Nat.blt pc 49 then (bif Nat.beq pc 46 then some (.putfield 15, 49, 5, 2, 0) else none) else (bif Nat.beq pc 49 then some (.return_, 50, 0, 0, 0) else none)))))
/-- X5_giveBack -/
noncomputable def gn_c43 (pc : Nat) : Option gn_En := bif Nat.blt pc 30 then (bif Nat.blt pc 15 then (bif Nat.blt pc 6 then (bif Nat.blt pc 2 then (bif Nat.blt pc 1 then (bif Nat.beq pc 0 then some (.iload_n 2, 1, 2, 0, 0) else none) else (bif Nat.beq pc 1 then some (.iconst 1, 2, 0, 0, 1) else none)) else (bif Nat.blt pc 5 then (bif Nat.beq pc 2 then some (.if_icmp .lt 11, 5, 13, 0, 0) else none) else (bif Nat.beq pc 5 then some (.iload_n 2, 6, 2, 0, 0) else none))) else (bif Nat.blt pc 10 then (bif Nat.blt pc 7 then (bif Nat.beq pc 6 then some (.aload_n 0, 7, 0, 0, 0) else none) else (bif Nat.beq pc 7 then some (.getfield 15, 10, 5, 2, 0) else none)) else (bif Nat.blt pc 13 then (bif Nat.beq pc 10 then some (.if_icmp .le 4, 13, 14, 0, 0) else none) else (bif Nat.blt pc 14 then (bif Nat.beq pc 13 then some (.return_, 14, 0, 0, 0) else none) else (bif Nat.beq pc 14 then some (.aload_n 0, 15, 0, 0, 0) else none))))) else (bif Nat.blt pc 22 then (bif Nat.blt pc 19 then (bif Nat.blt pc 16 then (bif Nat.beq pc 15 then some (.aload_n 0, 16, 0, 0, 0) else none) else (bif Nat.beq pc 16 then some (.getfield 22, 19, 5, 1, 0) else none)) else (bif Nat.blt pc 21 then (bif Nat.beq pc 19 then some (.bipush 30, 21, 0, 0, 30) else none) else (bif Nat.beq pc 21 then some (.iadd, 22, 0, 0, 0) else none))) else (bif Nat.blt pc 24 then (bif Nat.blt pc 23 then (bif Nat.beq pc 22 then some (.iload_n 2, 23, 2, 0, 0) else none) else (bif Nat.beq pc 23 then some (.isub, 24, 0, 0, 0) else none)) else (bif Nat.blt pc 26 then (bif Nat.beq pc 24 then some (.bipush 30, 26, 0, 0, 30) else none) else (bif Nat.blt pc 27 then (bif Nat.beq pc 26 then some (.irem, 27, 0, 0, 0) else none) else (bif Nat.beq pc 27 then some (.putfield 22, 30, 5, 1, 0) else none)))))) else (bif Nat.blt pc 45 then (bif Nat.blt pc 36 then (bif Nat.blt pc 32 then (bif Nat.blt pc 31 then (bif Nat.beq pc 30 then some (.aload_n 0, 31, 0, 0, 0) else none) else (bif Nat.beq pc 31 then some (.dup, 32, 0, 0, 0) else none)) else (bif Nat.blt pc 35 then (bif Nat.beq pc 32 then some (.getfield 15, 35, 5, 2, 0) else none) else (bif Nat.beq pc 35 then some (.iload_n 2, 36, 2, 0, 0) else none))) else (bif Nat.blt pc 40 then (bif Nat.blt pc 37 then (bif Nat.beq pc 36 then some (.isub, 37, 0, 0, 0) else none) else (bif Nat.beq pc 37 then some (.putfield 15, 40, 5, 2, 0) else none)) else (bif Nat.blt pc 41 then (bif Nat.beq pc 40 then some (.aload_n 0, 41, 0, 0, 0) else none) else (bif Nat.blt pc 44 then (bif Nat.beq pc 41 then some (.getfield 11, 44, 5, 0, 0) else none) else (bif Nat.beq pc 44 then some (.aload_n 0, 45, 0, 0, 0) else none))))) else (bif Nat.blt pc 52 then (bif Nat.blt pc 50 then (bif Nat.blt pc 48 then (bif Nat.beq pc 45 then some (.getfield 22, 48, 5, 1, 0) else none) else (bif Nat.beq pc 48 then some (.bipush 28, 50, 0, 0, 28) else none)) else (bif Nat.blt pc 51 then (bif Nat.beq pc 50 then some (.imul, 51, 0, 0, 0) else none) else (bif Nat.beq pc 51 then some (.aload_n 1, 52, 1, 0, 0) else none))) else (bif Nat.blt pc 56 then (bif Nat.blt pc 55 then (bif Nat.beq pc 52 then some (.getfield 19, 55, 4, 0, 0) else none) else (bif Nat.beq pc 55 then some (.iconst 0, 56, 0, 0, 0) else none)) else (bif Nat.blt pc 58 then (bif Nat.beq pc 56 then some (.bipush 28, 58, 0, 0, 28) else none) else (bif Nat.blt pc 61 then (bif Nat.beq pc 58 then some (.invokestatic 25, 61, 0, 0, 1) else none) else (bif Nat.beq pc 61 then some (.return_, 62, 0, 0, 0) else none))))))
/-- X6_seek -/
noncomputable def gn_c44 (pc : Nat) : Option gn_En := bif Nat.blt pc 55 then (bif Nat.blt pc 25 then (bif Nat.blt pc 11 then (bif Nat.blt pc 5 then (bif Nat.blt pc 1 then (bif Nat.beq pc 0 then some (.aload_n 0, 1, 0, 0, 0) else none) else (bif Nat.blt pc 2 then (bif Nat.beq pc 1 then some (.iconst (-1), 2, 0, 0, (-1)) else none) else (bif Nat.beq pc 2 then some (.putfield 9, 5, 6, 0, 0) else none))) else (bif Nat.blt pc 7 then (bif Nat.blt pc 6 then (bif Nat.beq pc 5 then some (.aload_n 0, 6, 0, 0, 0) else none) else (bif Nat.beq pc 6 then some (.iconst (-1), 7, 0, 0, (-1)) else none)) else (bif Nat.blt pc 10 then (bif Nat.beq pc 7 then some (.putfield 15, 10, 6, 1, 0) else none) else (bif Nat.beq pc 10 then some (.aload_n 0, 11, 0, 0, 0) else none)))) else (bif Nat.blt pc 17 then (bif Nat.blt pc 15 then (bif Nat.blt pc 12 then (bif Nat.beq pc 11 then some (.iconst (-1), 12, 0, 0, (-1)) else none) else (bif Nat.beq pc 12 then some (.putfield 18, 15, 6, 2, 0) else none)) else (bif Nat.blt pc 16 then (bif Nat.beq pc 15 then some (.aload_n 2, 16, 2, 0, 0) else none) else (bif Nat.beq pc 16 then some (.iload_n 3, 17, 3, 0, 0) else none))) else (bif Nat.blt pc 21 then (bif Nat.blt pc 20 then (bif Nat.beq pc 17 then some (.invokevirtual 21, 20, 16, 1, 1) else none) else (bif Nat.beq pc 20 then some (.iconst (-1), 21, 0, 0, (-1)) else none)) else (bif Nat.blt pc 24 then (bif Nat.beq pc 21 then some (.if_icmp .eq 4, 24, 25, 0, 0) else none) else (bif Nat.beq pc 24 then some (.return_, 25, 0, 0, 0) else none))))) else (bif Nat.blt pc 39 then (bif Nat.blt pc 32 then (bif Nat.blt pc 27 then (bif Nat.blt pc 26 then (bif Nat.beq pc 25 then some (.aload_n 1, 26, 1, 0, 0) else none) else (bif Nat.beq pc 26 then some (.iload_n 3, 27, 3, 0, 0) else none)) else (bif Nat.blt pc 30 then (bif Nat.beq pc 27 then some (.invokevirtual 27, 30, 71, 1, 1) else none) else (bif Nat.beq pc 30 then some (.istore 4, 32, 4, 0, 0) else none))) else (bif Nat.blt pc 34 then (bif Nat.blt pc 33 then (bif Nat.beq pc 32 then some (.aload_n 2, 33, 2, 0, 0) else none) else (bif Nat.beq pc 33 then some (.iload_n 3, 34, 3, 0, 0) else none)) else (bif Nat.blt pc 37 then (bif Nat.beq pc 34 then some (.invokevirtual 32, 37, 26, 1, 1) else none) else (bif Nat.beq pc 37 then some (.istore 5, 39, 5, 0, 0) else none)))) else (bif Nat.blt pc 47 then (bif Nat.blt pc 43 then (bif Nat.blt pc 41 then (bif Nat.beq pc 39 then some (.iload 5, 41, 5, 0, 0) else none) else (bif Nat.beq pc 41 then some (.iload 4, 43, 4, 0, 0) else none)) else (bif Nat.blt pc 46 then (bif Nat.beq pc 43 then some (.if_icmp .ge 77, 46, 120, 0, 0) else none) else (bif Nat.beq pc 46 then some (.iconst 0, 47, 0, 0, 0) else none))) else (bif Nat.blt pc 51 then (bif Nat.blt pc 49 then (bif Nat.beq pc 47 then some (.istore 6, 49, 6, 0, 0) else none) else (bif Nat.beq pc 49 then some (.iload 6, 51, 6, 0, 0) else none)) else (bif Nat.blt pc 52 then (bif Nat.beq pc 51 then some (.aload_n 1, 52, 1, 0, 0) else none) else (bif Nat.beq pc 52 then some (.getfield 35, 55, 9, 3, 0) else none)))))) else (bif Nat.blt pc 85 then (bif Nat.blt pc 69 then (bif Nat.blt pc 61 then (bif Nat.blt pc 58 then (bif Nat.beq pc 55 then some (.if_icmp .ge 59, 58, 114, 0, 0) else none) else (bif Nat.blt pc 59 then (bif Nat.beq pc 58 then some (.aload_n 2, 59, 2, 0, 0) else none) else (bif Nat.beq pc 59 then some (.iload 6, 61, 6, 0, 0) else none))) else (bif Nat.blt pc 67 then (bif Nat.blt pc 64 then (bif Nat.beq pc 61 then some (.invokevirtual 38, 64, 18, 1, 1) else none) else (bif Nat.beq pc 64 then some (.ifCond .le 44, 67, 108, 0, 0) else none)) else (bif Nat.blt pc 68 then (bif Nat.beq pc 67 then some (.aload_n 1, 68, 1, 0, 0) else none) else (bif Nat.beq pc 68 then some (.iload_n 3, 69, 3, 0, 0) else none)))) else (bif Nat.blt pc 77 then (bif Nat.blt pc 73 then (bif Nat.blt pc 71 then (bif Nat.beq pc 69 then some (.iload 6, 71, 6, 0, 0) else none) else (bif Nat.beq pc 71 then some (.iload 5, 73, 5, 0, 0) else none)) else (bif Nat.blt pc 76 then (bif Nat.beq pc 73 then some (.invokevirtual 41, 76, 79, 3, 1) else none) else (bif Nat.beq pc 76 then some (.aload_n 0, 77, 0, 0, 0) else none))) else (bif Nat.blt pc 83 then (bif Nat.blt pc 80 then (bif Nat.beq pc 77 then some (.getfield 9, 80, 6, 0, 0) else none) else (bif Nat.beq pc 80 then some (.if_icmp .le 28, 83, 108, 0, 0) else none)) else (bif Nat.blt pc 84 then (bif Nat.beq pc 83 then some (.aload_n 0, 84, 0, 0, 0) else none) else (bif Nat.beq pc 84 then some (.aload_n 1, 85, 1, 0, 0) else none))))) else (bif Nat.blt pc 102 then (bif Nat.blt pc 93 then (bif Nat.blt pc 88 then (bif Nat.blt pc 86 then (bif Nat.beq pc 85 then some (.iload_n 3, 86, 3, 0, 0) else none) else (bif Nat.beq pc 86 then some (.iload 6, 88, 6, 0, 0) else none)) else (bif Nat.blt pc 90 then (bif Nat.beq pc 88 then some (.iload 5, 90, 5, 0, 0) else none) else (bif Nat.beq pc 90 then some (.invokevirtual 41, 93, 79, 3, 1) else none))) else (bif Nat.blt pc 97 then (bif Nat.blt pc 96 then (bif Nat.beq pc 93 then some (.putfield 9, 96, 6, 0, 0) else none) else (bif Nat.beq pc 96 then some (.aload_n 0, 97, 0, 0, 0) else none)) else (bif Nat.blt pc 99 then (bif Nat.beq pc 97 then some (.iload 5, 99, 5, 0, 0) else none) else (bif Nat.beq pc 99 then some (.putfield 15, 102, 6, 1, 0) else none)))) else (bif Nat.blt pc 111 then (bif Nat.blt pc 105 then (bif Nat.blt pc 103 then (bif Nat.beq pc 102 then some (.aload_n 0, 103, 0, 0, 0) else none) else (bif Nat.beq pc 103 then some (.iload 6, 105, 6, 0, 0) else none)) else (bif Nat.blt pc 108 then (bif Nat.beq pc 105 then some (.putfield 18, 108, 6, 2, 0) else none) else (bif Nat.beq pc 108 then some (.iinc 6 1, 111, 6, 0, 1) else none))) else (bif Nat.blt pc 117 then (bif Nat.blt pc 114 then (bif Nat.beq pc 111 then some (.goto (-62), 114, 49, 0, 0) else none) else (bif Nat.beq pc 114 then some (.iinc 5 1, 117, 5, 0, 1) else none)) else (bif Nat.blt pc 120 then (bif Nat.beq pc 117 then some (.goto (-78), 120, 39, 0, 0) else none) else (bif Nat.beq pc 120 then some (.return_, 121, 0, 0, 0) else none))))))
/-- X7_seek -/
noncomputable def gn_c45 (pc : Nat) : Option gn_En := bif Nat.blt pc 46 then (bif Nat.blt pc 25 then (bif Nat.blt pc 13 then (bif Nat.blt pc 4 then (bif Nat.blt pc 1 then (bif Nat.beq pc 0 then some (.aload_n 0, 1, 0, 0, 0) else none) else (bif Nat.blt pc 3 then (bif Nat.beq pc 1 then some (.bipush 6, 3, 0, 0, 6) else none) else (bif Nat.beq pc 3 then some (.aload_n 1, 4, 1, 0, 0) else none))) else (bif Nat.blt pc 7 then (bif Nat.beq pc 4 then some (.getfield 27, 7, 9, 2, 0) else none) else (bif Nat.blt pc 10 then (bif Nat.beq pc 7 then some (.invokestatic 33, 10, 0, 0, 3) else none) else (bif Nat.beq pc 10 then some (.putfield 39, 13, 7, 5, 0) else none)))) else (bif Nat.blt pc 16 then (bif Nat.blt pc 14 then (bif Nat.beq pc 13 then some (.aload_n 0, 14, 0, 0, 0) else none) else (bif Nat.blt pc 15 then (bif Nat.beq pc 14 then some (.iconst 4, 15, 0, 0, 4) else none) else (bif Nat.beq pc 15 then some (.aload_n 1, 16, 1, 0, 0) else none))) else (bif Nat.blt pc 19 then (bif Nat.beq pc 16 then some (.getfield 40, 19, 9, 3, 0) else none) else (bif Nat.blt pc 22 then (bif Nat.beq pc 19 then some (.invokestatic 33, 22, 0, 0, 3) else none) else (bif Nat.beq pc 22 then some (.putfield 43, 25, 7, 6, 0) else none))))) else (bif Nat.blt pc 33 then (bif Nat.blt pc 30 then (bif Nat.blt pc 26 then (bif Nat.beq pc 25 then some (.aload_n 0, 26, 0, 0, 0) else none) else (bif Nat.blt pc 27 then (bif Nat.beq pc 26 then some (.iconst (-1), 27, 0, 0, (-1)) else none) else (bif Nat.beq pc 27 then some (.putfield 44, 30, 7, 7, 0) else none))) else (bif Nat.blt pc 31 then (bif Nat.beq pc 30 then some (.iconst 0, 31, 0, 0, 0) else none) else (bif Nat.blt pc 32 then (bif Nat.beq pc 31 then some (.istore_n 3, 32, 3, 0, 0) else none) else (bif Nat.beq pc 32 then some (.iload_n 3, 33, 3, 0, 0) else none)))) else (bif Nat.blt pc 40 then (bif Nat.blt pc 34 then (bif Nat.beq pc 33 then some (.aload_n 0, 34, 0, 0, 0) else none) else (bif Nat.blt pc 37 then (bif Nat.beq pc 34 then some (.getfield 43, 37, 7, 6, 0) else none) else (bif Nat.beq pc 37 then some (.if_icmp .ge 20, 40, 57, 0, 0) else none))) else (bif Nat.blt pc 44 then (bif Nat.blt pc 41 then (bif Nat.beq pc 40 then some (.aload_n 0, 41, 0, 0, 0) else none) else (bif Nat.beq pc 41 then some (.getfield 18, 44, 7, 2, 0) else none)) else (bif Nat.blt pc 45 then (bif Nat.beq pc 44 then some (.iload_n 3, 45, 3, 0, 0) else none) else (bif Nat.beq pc 45 then some (.aload_n 2, 46, 2, 0, 0) else none)))))) else (bif Nat.blt pc 68 then (bif Nat.blt pc 58 then (bif Nat.blt pc 51 then (bif Nat.blt pc 47 then (bif Nat.beq pc 46 then some (.iload_n 3, 47, 3, 0, 0) else none) else (bif Nat.blt pc 50 then (bif Nat.beq pc 47 then some (.invokevirtual 47, 50, 18, 1, 1) else none) else (bif Nat.beq pc 50 then some (.iastore, 51, 0, 0, 0) else none))) else (bif Nat.blt pc 54 then (bif Nat.beq pc 51 then some (.iinc 3 1, 54, 3, 0, 1) else none) else (bif Nat.blt pc 57 then (bif Nat.beq pc 54 then some (.goto (-22), 57, 32, 0, 0) else none) else (bif Nat.beq pc 57 then some (.iconst 0, 58, 0, 0, 0) else none)))) else (bif Nat.blt pc 61 then (bif Nat.blt pc 59 then (bif Nat.beq pc 58 then some (.istore_n 3, 59, 3, 0, 0) else none) else (bif Nat.blt pc 60 then (bif Nat.beq pc 59 then some (.iload_n 3, 60, 3, 0, 0) else none) else (bif Nat.beq pc 60 then some (.aload_n 0, 61, 0, 0, 0) else none))) else (bif Nat.blt pc 64 then (bif Nat.beq pc 61 then some (.getfield 39, 64, 7, 5, 0) else none) else (bif Nat.blt pc 67 then (bif Nat.beq pc 64 then some (.if_icmp .ge 16, 67, 80, 0, 0) else none) else (bif Nat.beq pc 67 then some (.aload_n 0, 68, 0, 0, 0) else none))))) else (bif Nat.blt pc 80 then (bif Nat.blt pc 71 then (bif Nat.blt pc 69 then (bif Nat.beq pc 68 then some (.aload_n 1, 69, 1, 0, 0) else none) else (bif Nat.blt pc 70 then (bif Nat.beq pc 69 then some (.aload_n 2, 70, 2, 0, 0) else none) else (bif Nat.beq pc 70 then some (.iload_n 3, 71, 3, 0, 0) else none))) else (bif Nat.blt pc 74 then (bif Nat.beq pc 71 then some (.invokevirtual 53, 74, 46, 3, 0) else none) else (bif Nat.blt pc 77 then (bif Nat.beq pc 74 then some (.iinc 3 1, 77, 3, 0, 1) else none) else (bif Nat.beq pc 77 then some (.goto (-18), 80, 59, 0, 0) else none)))) else (bif Nat.blt pc 85 then (bif Nat.blt pc 81 then (bif Nat.beq pc 80 then some (.aload_n 0, 81, 0, 0, 0) else none) else (bif Nat.blt pc 84 then (bif Nat.beq pc 81 then some (.invokevirtual 57, 84, 47, 0, 0) else none) else (bif Nat.beq pc 84 then some (.aload_n 0, 85, 0, 0, 0) else none))) else (bif Nat.blt pc 87 then (bif Nat.blt pc 86 then (bif Nat.beq pc 85 then some (.iconst 0, 86, 0, 0, 0) else none) else (bif Nat.beq pc 86 then some (.iconst 0, 87, 0, 0, 0) else none)) else (bif Nat.blt pc 90 then (bif Nat.beq pc 87 then some (.invokevirtual 60, 90, 48, 2, 0) else none) else (bif Nat.beq pc 90 then some (.return_, 91, 0, 0, 0) else none))))))
/-- X7_weighGuest -/
noncomputable def gn_c46 (pc : Nat) : Option gn_En := bif Nat.blt pc 47 then (bif Nat.blt pc 21 then (bif Nat.blt pc 10 then (bif Nat.blt pc 5 then (bif Nat.blt pc 1 then (bif Nat.beq pc 0 then some (.aload_n 2, 1, 2, 0, 0) else none) else (bif Nat.blt pc 2 then (bif Nat.beq pc 1 then some (.iload_n 3, 2, 3, 0, 0) else none) else (bif Nat.beq pc 2 then some (.invokevirtual 64, 5, 16, 1, 1) else none))) else (bif Nat.blt pc 6 then (bif Nat.beq pc 5 then some (.iconst (-1), 6, 0, 0, (-1)) else none) else (bif Nat.blt pc 9 then (bif Nat.beq pc 6 then some (.if_icmp .eq 7, 9, 13, 0, 0) else none) else (bif Nat.beq pc 9 then some (.iconst 1, 10, 0, 0, 1) else none)))) else (bif Nat.blt pc 16 then (bif Nat.blt pc 13 then (bif Nat.beq pc 10 then some (.goto 4, 13, 14, 0, 0) else none) else (bif Nat.blt pc 14 then (bif Nat.beq pc 13 then some (.iconst 0, 14, 0, 0, 0) else none) else (bif Nat.beq pc 14 then some (.istore 4, 16, 4, 0, 0) else none))) else (bif Nat.blt pc 17 then (bif Nat.beq pc 16 then some (.aload_n 2, 17, 2, 0, 0) else none) else (bif Nat.blt pc 18 then (bif Nat.beq pc 17 then some (.iload_n 3, 18, 3, 0, 0) else none) else (bif Nat.beq pc 18 then some (.invokevirtual 67, 21, 26, 1, 1) else none))))) else (bif Nat.blt pc 32 then (bif Nat.blt pc 26 then (bif Nat.blt pc 23 then (bif Nat.beq pc 21 then some (.istore 5, 23, 5, 0, 0) else none) else (bif Nat.blt pc 24 then (bif Nat.beq pc 23 then some (.iconst 0, 24, 0, 0, 0) else none) else (bif Nat.beq pc 24 then some (.istore 6, 26, 6, 0, 0) else none))) else (bif Nat.blt pc 28 then (bif Nat.beq pc 26 then some (.iload 6, 28, 6, 0, 0) else none) else (bif Nat.blt pc 29 then (bif Nat.beq pc 28 then some (.aload_n 0, 29, 0, 0, 0) else none) else (bif Nat.beq pc 29 then some (.getfield 43, 32, 7, 6, 0) else none)))) else (bif Nat.blt pc 40 then (bif Nat.blt pc 35 then (bif Nat.beq pc 32 then some (.if_icmp .ge 60, 35, 92, 0, 0) else none) else (bif Nat.blt pc 37 then (bif Nat.beq pc 35 then some (.iload 4, 37, 4, 0, 0) else none) else (bif Nat.beq pc 37 then some (.ifCond .ne 17, 40, 54, 0, 0) else none))) else (bif Nat.blt pc 44 then (bif Nat.blt pc 41 then (bif Nat.beq pc 40 then some (.aload_n 0, 41, 0, 0, 0) else none) else (bif Nat.beq pc 41 then some (.getfield 18, 44, 7, 2, 0) else none)) else (bif Nat.blt pc 46 then (bif Nat.beq pc 44 then some (.iload 6, 46, 6, 0, 0) else none) else (bif Nat.beq pc 46 then some (.iaload, 47, 0, 0, 0) else none)))))) else (bif Nat.blt pc 67 then (bif Nat.blt pc 58 then (bif Nat.blt pc 54 then (bif Nat.blt pc 50 then (bif Nat.beq pc 47 then some (.ifCond .le 7, 50, 54, 0, 0) else none) else (bif Nat.blt pc 51 then (bif Nat.beq pc 50 then some (.iconst 1, 51, 0, 0, 1) else none) else (bif Nat.beq pc 51 then some (.goto 4, 54, 55, 0, 0) else none))) else (bif Nat.blt pc 55 then (bif Nat.beq pc 54 then some (.iconst 0, 55, 0, 0, 0) else none) else (bif Nat.blt pc 57 then (bif Nat.beq pc 55 then some (.istore 7, 57, 7, 0, 0) else none) else (bif Nat.beq pc 57 then some (.aload_n 0, 58, 0, 0, 0) else none)))) else (bif Nat.blt pc 63 then (bif Nat.blt pc 61 then (bif Nat.beq pc 58 then some (.getfield 9, 61, 7, 0, 0) else none) else (bif Nat.blt pc 62 then (bif Nat.beq pc 61 then some (.iload_n 3, 62, 3, 0, 0) else none) else (bif Nat.beq pc 62 then some (.iconst 4, 63, 0, 0, 4) else none))) else (bif Nat.blt pc 64 then (bif Nat.beq pc 63 then some (.imul, 64, 0, 0, 0) else none) else (bif Nat.blt pc 66 then (bif Nat.beq pc 64 then some (.iload 6, 66, 6, 0, 0) else none) else (bif Nat.beq pc 66 then some (.iadd, 67, 0, 0, 0) else none))))) else (bif Nat.blt pc 78 then (bif Nat.blt pc 73 then (bif Nat.blt pc 69 then (bif Nat.beq pc 67 then some (.iload 7, 69, 7, 0, 0) else none) else (bif Nat.blt pc 72 then (bif Nat.beq pc 69 then some (.ifCond .eq 15, 72, 84, 0, 0) else none) else (bif Nat.beq pc 72 then some (.aload_n 1, 73, 1, 0, 0) else none))) else (bif Nat.blt pc 75 then (bif Nat.beq pc 73 then some (.iload 5, 75, 5, 0, 0) else none) else (bif Nat.blt pc 76 then (bif Nat.beq pc 75 then some (.iload_n 3, 76, 3, 0, 0) else none) else (bif Nat.beq pc 76 then some (.iload 6, 78, 6, 0, 0) else none)))) else (bif Nat.blt pc 85 then (bif Nat.blt pc 81 then (bif Nat.beq pc 78 then some (.invokevirtual 70, 81, 80, 3, 1) else none) else (bif Nat.blt pc 84 then (bif Nat.beq pc 81 then some (.goto 4, 84, 85, 0, 0) else none) else (bif Nat.beq pc 84 then some (.iconst (-1), 85, 0, 0, (-1)) else none))) else (bif Nat.blt pc 89 then (bif Nat.blt pc 86 then (bif Nat.beq pc 85 then some (.iastore, 86, 0, 0, 0) else none) else (bif Nat.beq pc 86 then some (.iinc 6 1, 89, 6, 0, 1) else none)) else (bif Nat.blt pc 92 then (bif Nat.beq pc 89 then some (.goto (-63), 92, 26, 0, 0) else none) else (bif Nat.beq pc 92 then some (.return_, 93, 0, 0, 0) else none))))))
/-- X7_sumHopes -/
noncomputable def gn_c47 (pc : Nat) : Option gn_En := bif Nat.blt pc 38 then (bif Nat.blt pc 18 then (bif Nat.blt pc 10 then (bif Nat.blt pc 5 then (bif Nat.blt pc 1 then (bif Nat.beq pc 0 then some (.aload_n 0, 1, 0, 0, 0) else none) else (bif Nat.blt pc 4 then (bif Nat.beq pc 1 then some (.getfield 15, 4, 7, 1, 0) else none) else (bif Nat.beq pc 4 then some (.aload_n 0, 5, 0, 0, 0) else none))) else (bif Nat.blt pc 8 then (bif Nat.beq pc 5 then some (.getfield 39, 8, 7, 5, 0) else none) else (bif Nat.blt pc 9 then (bif Nat.beq pc 8 then some (.iconst 0, 9, 0, 0, 0) else none) else (bif Nat.beq pc 9 then some (.iastore, 10, 0, 0, 0) else none)))) else (bif Nat.blt pc 15 then (bif Nat.blt pc 11 then (bif Nat.beq pc 10 then some (.aload_n 0, 11, 0, 0, 0) else none) else (bif Nat.blt pc 14 then (bif Nat.beq pc 11 then some (.getfield 39, 14, 7, 5, 0) else none) else (bif Nat.beq pc 14 then some (.iconst 1, 15, 0, 0, 1) else none))) else (bif Nat.blt pc 16 then (bif Nat.beq pc 15 then some (.isub, 16, 0, 0, 0) else none) else (bif Nat.blt pc 17 then (bif Nat.beq pc 16 then some (.istore_n 1, 17, 1, 0, 0) else none) else (bif Nat.beq pc 17 then some (.iload_n 1, 18, 1, 0, 0) else none))))) else (bif Nat.blt pc 26 then (bif Nat.blt pc 23 then (bif Nat.blt pc 21 then (bif Nat.beq pc 18 then some (.ifCond .lt 58, 21, 76, 0, 0) else none) else (bif Nat.blt pc 22 then (bif Nat.beq pc 21 then some (.iconst 0, 22, 0, 0, 0) else none) else (bif Nat.beq pc 22 then some (.istore_n 2, 23, 2, 0, 0) else none))) else (bif Nat.blt pc 24 then (bif Nat.beq pc 23 then some (.iconst 0, 24, 0, 0, 0) else none) else (bif Nat.blt pc 25 then (bif Nat.beq pc 24 then some (.istore_n 3, 25, 3, 0, 0) else none) else (bif Nat.beq pc 25 then some (.iload_n 3, 26, 3, 0, 0) else none)))) else (bif Nat.blt pc 33 then (bif Nat.blt pc 27 then (bif Nat.beq pc 26 then some (.aload_n 0, 27, 0, 0, 0) else none) else (bif Nat.blt pc 30 then (bif Nat.beq pc 27 then some (.getfield 43, 30, 7, 6, 0) else none) else (bif Nat.beq pc 30 then some (.if_icmp .ge 24, 33, 54, 0, 0) else none))) else (bif Nat.blt pc 34 then (bif Nat.beq pc 33 then some (.iload_n 2, 34, 2, 0, 0) else none) else (bif Nat.blt pc 35 then (bif Nat.beq pc 34 then some (.aload_n 0, 35, 0, 0, 0) else none) else (bif Nat.beq pc 35 then some (.getfield 9, 38, 7, 0, 0) else none)))))) else (bif Nat.blt pc 58 then (bif Nat.blt pc 44 then (bif Nat.blt pc 41 then (bif Nat.blt pc 39 then (bif Nat.beq pc 38 then some (.iload_n 1, 39, 1, 0, 0) else none) else (bif Nat.blt pc 40 then (bif Nat.beq pc 39 then some (.iconst 4, 40, 0, 0, 4) else none) else (bif Nat.beq pc 40 then some (.imul, 41, 0, 0, 0) else none))) else (bif Nat.blt pc 42 then (bif Nat.beq pc 41 then some (.iload_n 3, 42, 3, 0, 0) else none) else (bif Nat.blt pc 43 then (bif Nat.beq pc 42 then some (.iadd, 43, 0, 0, 0) else none) else (bif Nat.beq pc 43 then some (.iaload, 44, 0, 0, 0) else none)))) else (bif Nat.blt pc 51 then (bif Nat.blt pc 47 then (bif Nat.beq pc 44 then some (.invokestatic 74, 47, 0, 0, 2) else none) else (bif Nat.blt pc 48 then (bif Nat.beq pc 47 then some (.istore_n 2, 48, 2, 0, 0) else none) else (bif Nat.beq pc 48 then some (.iinc 3 1, 51, 3, 0, 1) else none))) else (bif Nat.blt pc 54 then (bif Nat.beq pc 51 then some (.goto (-26), 54, 25, 0, 0) else none) else (bif Nat.blt pc 55 then (bif Nat.beq pc 54 then some (.aload_n 0, 55, 0, 0, 0) else none) else (bif Nat.beq pc 55 then some (.getfield 15, 58, 7, 1, 0) else none))))) else (bif Nat.blt pc 66 then (bif Nat.blt pc 63 then (bif Nat.blt pc 59 then (bif Nat.beq pc 58 then some (.iload_n 1, 59, 1, 0, 0) else none) else (bif Nat.blt pc 60 then (bif Nat.beq pc 59 then some (.aload_n 0, 60, 0, 0, 0) else none) else (bif Nat.beq pc 60 then some (.getfield 15, 63, 7, 1, 0) else none))) else (bif Nat.blt pc 64 then (bif Nat.beq pc 63 then some (.iload_n 1, 64, 1, 0, 0) else none) else (bif Nat.blt pc 65 then (bif Nat.beq pc 64 then some (.iconst 1, 65, 0, 0, 1) else none) else (bif Nat.beq pc 65 then some (.iadd, 66, 0, 0, 0) else none)))) else (bif Nat.blt pc 69 then (bif Nat.blt pc 67 then (bif Nat.beq pc 66 then some (.iaload, 67, 0, 0, 0) else none) else (bif Nat.blt pc 68 then (bif Nat.beq pc 67 then some (.iload_n 2, 68, 2, 0, 0) else none) else (bif Nat.beq pc 68 then some (.iadd, 69, 0, 0, 0) else none))) else (bif Nat.blt pc 73 then (bif Nat.blt pc 70 then (bif Nat.beq pc 69 then some (.iastore, 70, 0, 0, 0) else none) else (bif Nat.beq pc 70 then some (.iinc 1 (-1), 73, 1, 0, (-1)) else none)) else (bif Nat.blt pc 76 then (bif Nat.beq pc 73 then some (.goto (-56), 76, 17, 0, 0) else none) else (bif Nat.beq pc 76 then some (.return_, 77, 0, 0, 0) else none))))))
/-- X7_choose -/
noncomputable def gn_c48 (pc : Nat) : Option gn_En := bif Nat.blt pc 83 then (bif Nat.blt pc 42 then (bif Nat.blt pc 20 then (bif Nat.blt pc 12 then (bif Nat.blt pc 5 then (bif Nat.blt pc 1 then (bif Nat.beq pc 0 then some (.iload_n 1, 1, 1, 0, 0) else none) else (bif Nat.blt pc 4 then (bif Nat.beq pc 1 then some (.ifCond .lt 26, 4, 27, 0, 0) else none) else (bif Nat.beq pc 4 then some (.iload_n 1, 5, 1, 0, 0) else none))) else (bif Nat.blt pc 6 then (bif Nat.beq pc 5 then some (.aload_n 0, 6, 0, 0, 0) else none) else (bif Nat.blt pc 9 then (bif Nat.beq pc 6 then some (.getfield 39, 9, 7, 5, 0) else none) else (bif Nat.beq pc 9 then some (.if_icmp .gt 18, 12, 27, 0, 0) else none)))) else (bif Nat.blt pc 17 then (bif Nat.blt pc 13 then (bif Nat.beq pc 12 then some (.iload_n 2, 13, 2, 0, 0) else none) else (bif Nat.blt pc 14 then (bif Nat.beq pc 13 then some (.aload_n 0, 14, 0, 0, 0) else none) else (bif Nat.beq pc 14 then some (.getfield 15, 17, 7, 1, 0) else none))) else (bif Nat.blt pc 18 then (bif Nat.beq pc 17 then some (.iload_n 1, 18, 1, 0, 0) else none) else (bif Nat.blt pc 19 then (bif Nat.beq pc 18 then some (.iaload, 19, 0, 0, 0) else none) else (bif Nat.beq pc 19 then some (.iadd, 20, 0, 0, 0) else none))))) else (bif Nat.blt pc 30 then (bif Nat.blt pc 27 then (bif Nat.blt pc 21 then (bif Nat.beq pc 20 then some (.aload_n 0, 21, 0, 0, 0) else none) else (bif Nat.blt pc 24 then (bif Nat.beq pc 21 then some (.getfield 44, 24, 7, 7, 0) else none) else (bif Nat.beq pc 24 then some (.if_icmp .gt 4, 27, 28, 0, 0) else none))) else (bif Nat.blt pc 28 then (bif Nat.beq pc 27 then some (.return_, 28, 0, 0, 0) else none) else (bif Nat.blt pc 29 then (bif Nat.beq pc 28 then some (.iload_n 1, 29, 1, 0, 0) else none) else (bif Nat.beq pc 29 then some (.aload_n 0, 30, 0, 0, 0) else none)))) else (bif Nat.blt pc 37 then (bif Nat.blt pc 33 then (bif Nat.beq pc 30 then some (.getfield 39, 33, 7, 5, 0) else none) else (bif Nat.blt pc 36 then (bif Nat.beq pc 33 then some (.if_icmp .ne 26, 36, 59, 0, 0) else none) else (bif Nat.beq pc 36 then some (.aload_n 0, 37, 0, 0, 0) else none))) else (bif Nat.blt pc 38 then (bif Nat.beq pc 37 then some (.iload_n 2, 38, 2, 0, 0) else none) else (bif Nat.blt pc 41 then (bif Nat.beq pc 38 then some (.putfield 44, 41, 7, 7, 0) else none) else (bif Nat.beq pc 41 then some (.aload_n 0, 42, 0, 0, 0) else none)))))) else (bif Nat.blt pc 62 then (bif Nat.blt pc 52 then (bif Nat.blt pc 47 then (bif Nat.blt pc 45 then (bif Nat.beq pc 42 then some (.getfield 21, 45, 7, 3, 0) else none) else (bif Nat.blt pc 46 then (bif Nat.beq pc 45 then some (.iconst 0, 46, 0, 0, 0) else none) else (bif Nat.beq pc 46 then some (.aload_n 0, 47, 0, 0, 0) else none))) else (bif Nat.blt pc 50 then (bif Nat.beq pc 47 then some (.getfield 24, 50, 7, 4, 0) else none) else (bif Nat.blt pc 51 then (bif Nat.beq pc 50 then some (.iconst 0, 51, 0, 0, 0) else none) else (bif Nat.beq pc 51 then some (.aload_n 0, 52, 0, 0, 0) else none)))) else (bif Nat.blt pc 59 then (bif Nat.blt pc 55 then (bif Nat.beq pc 52 then some (.getfield 39, 55, 7, 5, 0) else none) else (bif Nat.blt pc 58 then (bif Nat.beq pc 55 then some (.invokestatic 77, 58, 0, 0, 1) else none) else (bif Nat.beq pc 58 then some (.return_, 59, 0, 0, 0) else none))) else (bif Nat.blt pc 60 then (bif Nat.beq pc 59 then some (.iconst 0, 60, 0, 0, 0) else none) else (bif Nat.blt pc 61 then (bif Nat.beq pc 60 then some (.istore_n 3, 61, 3, 0, 0) else none) else (bif Nat.beq pc 61 then some (.iload_n 3, 62, 3, 0, 0) else none))))) else (bif Nat.blt pc 74 then (bif Nat.blt pc 69 then (bif Nat.blt pc 63 then (bif Nat.beq pc 62 then some (.aload_n 0, 63, 0, 0, 0) else none) else (bif Nat.blt pc 66 then (bif Nat.beq pc 63 then some (.getfield 43, 66, 7, 6, 0) else none) else (bif Nat.beq pc 66 then some (.if_icmp .ge 74, 69, 140, 0, 0) else none))) else (bif Nat.blt pc 70 then (bif Nat.beq pc 69 then some (.aload_n 0, 70, 0, 0, 0) else none) else (bif Nat.blt pc 73 then (bif Nat.beq pc 70 then some (.getfield 9, 73, 7, 0, 0) else none) else (bif Nat.beq pc 73 then some (.iload_n 1, 74, 1, 0, 0) else none)))) else (bif Nat.blt pc 77 then (bif Nat.blt pc 75 then (bif Nat.beq pc 74 then some (.iconst 4, 75, 0, 0, 4) else none) else (bif Nat.blt pc 76 then (bif Nat.beq pc 75 then some (.imul, 76, 0, 0, 0) else none) else (bif Nat.beq pc 76 then some (.iload_n 3, 77, 3, 0, 0) else none))) else (bif Nat.blt pc 79 then (bif Nat.blt pc 78 then (bif Nat.beq pc 77 then some (.iadd, 78, 0, 0, 0) else none) else (bif Nat.beq pc 78 then some (.iaload, 79, 0, 0, 0) else none)) else (bif Nat.blt pc 81 then (bif Nat.beq pc 79 then some (.istore 4, 81, 4, 0, 0) else none) else (bif Nat.beq pc 81 then some (.iload 4, 83, 4, 0, 0) else none))))))) else (bif Nat.blt pc 118 then (bif Nat.blt pc 103 then (bif Nat.blt pc 93 then (bif Nat.blt pc 88 then (bif Nat.blt pc 84 then (bif Nat.beq pc 83 then some (.iconst (-1), 84, 0, 0, (-1)) else none) else (bif Nat.blt pc 87 then (bif Nat.beq pc 84 then some (.if_icmp .eq 50, 87, 134, 0, 0) else none) else (bif Nat.beq pc 87 then some (.aload_n 0, 88, 0, 0, 0) else none))) else (bif Nat.blt pc 91 then (bif Nat.beq pc 88 then some (.getfield 18, 91, 7, 2, 0) else none) else (bif Nat.blt pc 92 then (bif Nat.beq pc 91 then some (.iload_n 3, 92, 3, 0, 0) else none) else (bif Nat.beq pc 92 then some (.iaload, 93, 0, 0, 0) else none)))) else (bif Nat.blt pc 100 then (bif Nat.blt pc 96 then (bif Nat.beq pc 93 then some (.ifCond .le 41, 96, 134, 0, 0) else none) else (bif Nat.blt pc 97 then (bif Nat.beq pc 96 then some (.aload_n 0, 97, 0, 0, 0) else none) else (bif Nat.beq pc 97 then some (.getfield 18, 100, 7, 2, 0) else none))) else (bif Nat.blt pc 101 then (bif Nat.beq pc 100 then some (.iload_n 3, 101, 3, 0, 0) else none) else (bif Nat.blt pc 102 then (bif Nat.beq pc 101 then some (.dup2, 102, 0, 0, 0) else none) else (bif Nat.beq pc 102 then some (.iaload, 103, 0, 0, 0) else none))))) else (bif Nat.blt pc 111 then (bif Nat.blt pc 106 then (bif Nat.blt pc 104 then (bif Nat.beq pc 103 then some (.iconst 1, 104, 0, 0, 1) else none) else (bif Nat.blt pc 105 then (bif Nat.beq pc 104 then some (.isub, 105, 0, 0, 0) else none) else (bif Nat.beq pc 105 then some (.iastore, 106, 0, 0, 0) else none))) else (bif Nat.blt pc 107 then (bif Nat.beq pc 106 then some (.aload_n 0, 107, 0, 0, 0) else none) else (bif Nat.blt pc 110 then (bif Nat.beq pc 107 then some (.getfield 21, 110, 7, 3, 0) else none) else (bif Nat.beq pc 110 then some (.iload_n 1, 111, 1, 0, 0) else none)))) else (bif Nat.blt pc 114 then (bif Nat.blt pc 112 then (bif Nat.beq pc 111 then some (.iload_n 3, 112, 3, 0, 0) else none) else (bif Nat.blt pc 113 then (bif Nat.beq pc 112 then some (.iastore, 113, 0, 0, 0) else none) else (bif Nat.beq pc 113 then some (.aload_n 0, 114, 0, 0, 0) else none))) else (bif Nat.blt pc 116 then (bif Nat.blt pc 115 then (bif Nat.beq pc 114 then some (.iload_n 1, 115, 1, 0, 0) else none) else (bif Nat.beq pc 115 then some (.iconst 1, 116, 0, 0, 1) else none)) else (bif Nat.blt pc 117 then (bif Nat.beq pc 116 then some (.iadd, 117, 0, 0, 0) else none) else (bif Nat.beq pc 117 then some (.iload_n 2, 118, 2, 0, 0) else none)))))) else (bif Nat.blt pc 137 then (bif Nat.blt pc 129 then (bif Nat.blt pc 124 then (bif Nat.blt pc 120 then (bif Nat.beq pc 118 then some (.iload 4, 120, 4, 0, 0) else none) else (bif Nat.blt pc 121 then (bif Nat.beq pc 120 then some (.iadd, 121, 0, 0, 0) else none) else (bif Nat.beq pc 121 then some (.invokevirtual 60, 124, 48, 2, 0) else none))) else (bif Nat.blt pc 125 then (bif Nat.beq pc 124 then some (.aload_n 0, 125, 0, 0, 0) else none) else (bif Nat.blt pc 128 then (bif Nat.beq pc 125 then some (.getfield 18, 128, 7, 2, 0) else none) else (bif Nat.beq pc 128 then some (.iload_n 3, 129, 3, 0, 0) else none)))) else (bif Nat.blt pc 132 then (bif Nat.blt pc 130 then (bif Nat.beq pc 129 then some (.dup2, 130, 0, 0, 0) else none) else (bif Nat.blt pc 131 then (bif Nat.beq pc 130 then some (.iaload, 131, 0, 0, 0) else none) else (bif Nat.beq pc 131 then some (.iconst 1, 132, 0, 0, 1) else none))) else (bif Nat.blt pc 133 then (bif Nat.beq pc 132 then some (.iadd, 133, 0, 0, 0) else none) else (bif Nat.blt pc 134 then (bif Nat.beq pc 133 then some (.iastore, 134, 0, 0, 0) else none) else (bif Nat.beq pc 134 then some (.iinc 3 1, 137, 3, 0, 1) else none))))) else (bif Nat.blt pc 147 then (bif Nat.blt pc 144 then (bif Nat.blt pc 140 then (bif Nat.beq pc 137 then some (.goto (-76), 140, 61, 0, 0) else none) else (bif Nat.blt pc 141 then (bif Nat.beq pc 140 then some (.aload_n 0, 141, 0, 0, 0) else none) else (bif Nat.beq pc 141 then some (.getfield 21, 144, 7, 3, 0) else none))) else (bif Nat.blt pc 145 then (bif Nat.beq pc 144 then some (.iload_n 1, 145, 1, 0, 0) else none) else (bif Nat.blt pc 146 then (bif Nat.beq pc 145 then some (.iconst (-1), 146, 0, 0, (-1)) else none) else (bif Nat.beq pc 146 then some (.iastore, 147, 0, 0, 0) else none)))) else (bif Nat.blt pc 150 then (bif Nat.blt pc 148 then (bif Nat.beq pc 147 then some (.aload_n 0, 148, 0, 0, 0) else none) else (bif Nat.blt pc 149 then (bif Nat.beq pc 148 then some (.iload_n 1, 149, 1, 0, 0) else none) else (bif Nat.beq pc 149 then some (.iconst 1, 150, 0, 0, 1) else none))) else (bif Nat.blt pc 152 then (bif Nat.blt pc 151 then (bif Nat.beq pc 150 then some (.iadd, 151, 0, 0, 0) else none) else (bif Nat.beq pc 151 then some (.iload_n 2, 152, 2, 0, 0) else none)) else (bif Nat.blt pc 155 then (bif Nat.beq pc 152 then some (.invokevirtual 60, 155, 48, 2, 0) else none) else (bif Nat.beq pc 155 then some (.return_, 156, 0, 0, 0) else none)))))))
/-- X7_hostOf -/
noncomputable def gn_c49 (pc : Nat) : Option gn_En := bif Nat.blt pc 12 then (bif Nat.blt pc 5 then (bif Nat.blt pc 1 then (bif Nat.beq pc 0 then some (.iload_n 1, 1, 1, 0, 0) else none) else (bif Nat.blt pc 4 then (bif Nat.beq pc 1 then some (.ifCond .lt 20, 4, 21, 0, 0) else none) else (bif Nat.beq pc 4 then some (.iload_n 1, 5, 1, 0, 0) else none))) else (bif Nat.blt pc 6 then (bif Nat.beq pc 5 then some (.aload_n 0, 6, 0, 0, 0) else none) else (bif Nat.blt pc 9 then (bif Nat.beq pc 6 then some (.getfield 39, 9, 7, 5, 0) else none) else (bif Nat.beq pc 9 then some (.if_icmp .ge 12, 12, 21, 0, 0) else none)))) else (bif Nat.blt pc 17 then (bif Nat.blt pc 13 then (bif Nat.beq pc 12 then some (.aload_n 0, 13, 0, 0, 0) else none) else (bif Nat.blt pc 16 then (bif Nat.beq pc 13 then some (.getfield 24, 16, 7, 4, 0) else none) else (bif Nat.beq pc 16 then some (.iload_n 1, 17, 1, 0, 0) else none))) else (bif Nat.blt pc 21 then (bif Nat.blt pc 18 then (bif Nat.beq pc 17 then some (.iaload, 18, 0, 0, 0) else none) else (bif Nat.beq pc 18 then some (.goto 4, 21, 22, 0, 0) else none)) else (bif Nat.blt pc 22 then (bif Nat.beq pc 21 then some (.iconst (-1), 22, 0, 0, (-1)) else none) else (bif Nat.beq pc 22 then some (.ireturn, 23, 0, 0, 0) else none))))
/-- X8_append -/
noncomputable def gn_c50 (pc : Nat) : Option gn_En := bif Nat.blt pc 20 then (bif Nat.blt pc 11 then (bif Nat.blt pc 4 then (bif Nat.blt pc 1 then (bif Nat.beq pc 0 then some (.aload_n 0, 1, 0, 0, 0) else none) else (bif Nat.beq pc 1 then some (.getfield 19, 4, 8, 1, 0) else none)) else (bif Nat.blt pc 7 then (bif Nat.beq pc 4 then some (.sipush 240, 7, 0, 0, 240) else none) else (bif Nat.blt pc 10 then (bif Nat.beq pc 7 then some (.if_icmp .lt 5, 10, 12, 0, 0) else none) else (bif Nat.beq pc 10 then some (.iconst 0, 11, 0, 0, 0) else none)))) else (bif Nat.blt pc 13 then (bif Nat.blt pc 12 then (bif Nat.beq pc 11 then some (.ireturn, 12, 0, 0, 0) else none) else (bif Nat.beq pc 12 then some (.aload_n 0, 13, 0, 0, 0) else none)) else (bif Nat.blt pc 16 then (bif Nat.beq pc 13 then some (.getfield 11, 16, 8, 0, 0) else none) else (bif Nat.blt pc 17 then (bif Nat.beq pc 16 then some (.aload_n 0, 17, 0, 0, 0) else none) else (bif Nat.beq pc 17 then some (.getfield 19, 20, 8, 1, 0) else none))))) else (bif Nat.blt pc 27 then (bif Nat.blt pc 22 then (bif Nat.blt pc 21 then (bif Nat.beq pc 20 then some (.iload_n 1, 21, 1, 0, 0) else none) else (bif Nat.beq pc 21 then some (.iastore, 22, 0, 0, 0) else none)) else (bif Nat.blt pc 23 then (bif Nat.beq pc 22 then some (.aload_n 0, 23, 0, 0, 0) else none) else (bif Nat.blt pc 24 then (bif Nat.beq pc 23 then some (.dup, 24, 0, 0, 0) else none) else (bif Nat.beq pc 24 then some (.getfield 19, 27, 8, 1, 0) else none)))) else (bif Nat.blt pc 29 then (bif Nat.blt pc 28 then (bif Nat.beq pc 27 then some (.iconst 1, 28, 0, 0, 1) else none) else (bif Nat.beq pc 28 then some (.iadd, 29, 0, 0, 0) else none)) else (bif Nat.blt pc 32 then (bif Nat.beq pc 29 then some (.putfield 19, 32, 8, 1, 0) else none) else (bif Nat.blt pc 33 then (bif Nat.beq pc 32 then some (.iconst 1, 33, 0, 0, 1) else none) else (bif Nat.beq pc 33 then some (.ireturn, 34, 0, 0, 0) else none)))))
/-- X8_readInto -/
noncomputable def gn_c51 (pc : Nat) : Option gn_En := bif Nat.blt pc 22 then (bif Nat.blt pc 11 then (bif Nat.blt pc 5 then (bif Nat.blt pc 1 then (bif Nat.beq pc 0 then some (.aload_n 1, 1, 1, 0, 0) else none) else (bif Nat.blt pc 4 then (bif Nat.beq pc 1 then some (.invokevirtual 22, 4, 63, 0, 1) else none) else (bif Nat.beq pc 4 then some (.aload_n 0, 5, 0, 0, 0) else none))) else (bif Nat.blt pc 9 then (bif Nat.blt pc 6 then (bif Nat.beq pc 5 then some (.iconst 0, 6, 0, 0, 0) else none) else (bif Nat.beq pc 6 then some (.putfield 27, 9, 8, 2, 0) else none)) else (bif Nat.blt pc 10 then (bif Nat.beq pc 9 then some (.aload_n 0, 10, 0, 0, 0) else none) else (bif Nat.beq pc 10 then some (.iconst 0, 11, 0, 0, 0) else none)))) else (bif Nat.blt pc 16 then (bif Nat.blt pc 14 then (bif Nat.beq pc 11 then some (.putfield 30, 14, 8, 3, 0) else none) else (bif Nat.blt pc 15 then (bif Nat.beq pc 14 then some (.aload_n 0, 15, 0, 0, 0) else none) else (bif Nat.beq pc 15 then some (.iconst (-1), 16, 0, 0, (-1)) else none))) else (bif Nat.blt pc 20 then (bif Nat.blt pc 19 then (bif Nat.beq pc 16 then some (.putfield 15, 19, 8, 4, 0) else none) else (bif Nat.beq pc 19 then some (.iconst 0, 20, 0, 0, 0) else none)) else (bif Nat.blt pc 21 then (bif Nat.beq pc 20 then some (.istore_n 2, 21, 2, 0, 0) else none) else (bif Nat.beq pc 21 then some (.iload_n 2, 22, 2, 0, 0) else none))))) else (bif Nat.blt pc 37 then (bif Nat.blt pc 29 then (bif Nat.blt pc 25 then (bif Nat.beq pc 22 then some (.sipush 240, 25, 0, 0, 240) else none) else (bif Nat.blt pc 28 then (bif Nat.beq pc 25 then some (.if_icmp .ge 21, 28, 46, 0, 0) else none) else (bif Nat.beq pc 28 then some (.aload_n 0, 29, 0, 0, 0) else none))) else (bif Nat.blt pc 35 then (bif Nat.blt pc 32 then (bif Nat.beq pc 29 then some (.invokevirtual 33, 32, 52, 0, 0) else none) else (bif Nat.beq pc 32 then some (.ifCond .eq 14, 35, 46, 0, 0) else none)) else (bif Nat.blt pc 36 then (bif Nat.beq pc 35 then some (.aload_n 0, 36, 0, 0, 0) else none) else (bif Nat.beq pc 36 then some (.aload_n 1, 37, 1, 0, 0) else none)))) else (bif Nat.blt pc 46 then (bif Nat.blt pc 40 then (bif Nat.beq pc 37 then some (.invokevirtual 37, 40, 53, 1, 0) else none) else (bif Nat.blt pc 43 then (bif Nat.beq pc 40 then some (.iinc 2 1, 43, 2, 0, 1) else none) else (bif Nat.beq pc 43 then some (.goto (-22), 46, 21, 0, 0) else none))) else (bif Nat.blt pc 48 then (bif Nat.blt pc 47 then (bif Nat.beq pc 46 then some (.aload_n 0, 47, 0, 0, 0) else none) else (bif Nat.beq pc 47 then some (.iconst 0, 48, 0, 0, 0) else none)) else (bif Nat.blt pc 51 then (bif Nat.beq pc 48 then some (.putfield 19, 51, 8, 1, 0) else none) else (bif Nat.beq pc 51 then some (.return_, 52, 0, 0, 0) else none)))))
/-- X8_isMoreToRead -/
noncomputable def gn_c52 (pc : Nat) : Option gn_En := bif Nat.blt pc 11 then (bif Nat.blt pc 4 then (bif Nat.blt pc 1 then (bif Nat.beq pc 0 then some (.aload_n 0, 1, 0, 0, 0) else none) else (bif Nat.beq pc 1 then some (.getfield 30, 4, 8, 3, 0) else none)) else (bif Nat.blt pc 7 then (bif Nat.beq pc 4 then some (.ifCond .ne 15, 7, 19, 0, 0) else none) else (bif Nat.blt pc 8 then (bif Nat.beq pc 7 then some (.aload_n 0, 8, 0, 0, 0) else none) else (bif Nat.beq pc 8 then some (.invokevirtual 41, 11, 59, 0, 0) else none)))) else (bif Nat.blt pc 16 then (bif Nat.blt pc 12 then (bif Nat.beq pc 11 then some (.iconst (-1), 12, 0, 0, (-1)) else none) else (bif Nat.blt pc 15 then (bif Nat.beq pc 12 then some (.if_icmp .eq 7, 15, 19, 0, 0) else none) else (bif Nat.beq pc 15 then some (.iconst 1, 16, 0, 0, 1) else none))) else (bif Nat.blt pc 19 then (bif Nat.beq pc 16 then some (.goto 4, 19, 20, 0, 0) else none) else (bif Nat.blt pc 20 then (bif Nat.beq pc 19 then some (.iconst 0, 20, 0, 0, 0) else none) else (bif Nat.beq pc 20 then some (.ireturn, 21, 0, 0, 0) else none))))
/-- X8_readClause -/
noncomputable def gn_c53 (pc : Nat) : Option gn_En := bif Nat.blt pc 44 then (bif Nat.blt pc 20 then (bif Nat.blt pc 9 then (bif Nat.blt pc 4 then (bif Nat.blt pc 1 then (bif Nat.beq pc 0 then some (.aload_n 0, 1, 0, 0, 0) else none) else (bif Nat.beq pc 1 then some (.invokevirtual 41, 4, 59, 0, 0) else none)) else (bif Nat.blt pc 5 then (bif Nat.beq pc 4 then some (.istore_n 2, 5, 2, 0, 0) else none) else (bif Nat.blt pc 6 then (bif Nat.beq pc 5 then some (.aload_n 1, 6, 1, 0, 0) else none) else (bif Nat.beq pc 6 then some (.getfield 45, 9, 9, 0, 0) else none)))) else (bif Nat.blt pc 15 then (bif Nat.blt pc 12 then (bif Nat.beq pc 9 then some (.ifCond .ne 29, 12, 38, 0, 0) else none) else (bif Nat.blt pc 13 then (bif Nat.beq pc 12 then some (.iload_n 2, 13, 2, 0, 0) else none) else (bif Nat.beq pc 13 then some (.bipush 116, 15, 0, 0, 116) else none))) else (bif Nat.blt pc 18 then (bif Nat.beq pc 15 then some (.if_icmp .ne 11, 18, 26, 0, 0) else none) else (bif Nat.blt pc 19 then (bif Nat.beq pc 18 then some (.aload_n 0, 19, 0, 0, 0) else none) else (bif Nat.beq pc 19 then some (.aload_n 1, 20, 1, 0, 0) else none))))) else (bif Nat.blt pc 29 then (bif Nat.blt pc 26 then (bif Nat.blt pc 23 then (bif Nat.beq pc 20 then some (.invokevirtual 49, 23, 54, 1, 0) else none) else (bif Nat.beq pc 23 then some (.goto 62, 26, 85, 0, 0) else none)) else (bif Nat.blt pc 27 then (bif Nat.beq pc 26 then some (.aload_n 0, 27, 0, 0, 0) else none) else (bif Nat.blt pc 28 then (bif Nat.beq pc 27 then some (.iconst 1, 28, 0, 0, 1) else none) else (bif Nat.beq pc 28 then some (.aload_n 0, 29, 0, 0, 0) else none)))) else (bif Nat.blt pc 38 then (bif Nat.blt pc 32 then (bif Nat.beq pc 29 then some (.getfield 27, 32, 8, 2, 0) else none) else (bif Nat.blt pc 35 then (bif Nat.beq pc 32 then some (.invokevirtual 52, 35, 62, 2, 0) else none) else (bif Nat.beq pc 35 then some (.goto 50, 38, 85, 0, 0) else none))) else (bif Nat.blt pc 39 then (bif Nat.beq pc 38 then some (.iload_n 2, 39, 2, 0, 0) else none) else (bif Nat.blt pc 41 then (bif Nat.beq pc 39 then some (.bipush 103, 41, 0, 0, 103) else none) else (bif Nat.beq pc 41 then some (.if_icmp .ne 11, 44, 52, 0, 0) else none)))))) else (bif Nat.blt pc 66 then (bif Nat.blt pc 53 then (bif Nat.blt pc 46 then (bif Nat.blt pc 45 then (bif Nat.beq pc 44 then some (.aload_n 0, 45, 0, 0, 0) else none) else (bif Nat.beq pc 45 then some (.aload_n 1, 46, 1, 0, 0) else none)) else (bif Nat.blt pc 49 then (bif Nat.beq pc 46 then some (.invokevirtual 56, 49, 55, 1, 0) else none) else (bif Nat.blt pc 52 then (bif Nat.beq pc 49 then some (.goto 36, 52, 85, 0, 0) else none) else (bif Nat.beq pc 52 then some (.iload_n 2, 53, 2, 0, 0) else none)))) else (bif Nat.blt pc 59 then (bif Nat.blt pc 55 then (bif Nat.beq pc 53 then some (.bipush 104, 55, 0, 0, 104) else none) else (bif Nat.blt pc 58 then (bif Nat.beq pc 55 then some (.if_icmp .ne 11, 58, 66, 0, 0) else none) else (bif Nat.beq pc 58 then some (.aload_n 0, 59, 0, 0, 0) else none))) else (bif Nat.blt pc 60 then (bif Nat.beq pc 59 then some (.aload_n 1, 60, 1, 0, 0) else none) else (bif Nat.blt pc 63 then (bif Nat.beq pc 60 then some (.invokevirtual 59, 63, 56, 1, 0) else none) else (bif Nat.beq pc 63 then some (.goto 22, 66, 85, 0, 0) else none))))) else (bif Nat.blt pc 74 then (bif Nat.blt pc 68 then (bif Nat.blt pc 67 then (bif Nat.beq pc 66 then some (.aload_n 0, 67, 0, 0, 0) else none) else (bif Nat.beq pc 67 then some (.iload_n 2, 68, 2, 0, 0) else none)) else (bif Nat.blt pc 70 then (bif Nat.beq pc 68 then some (.bipush 116, 70, 0, 0, 116) else none) else (bif Nat.blt pc 73 then (bif Nat.beq pc 70 then some (.if_icmp .ne 7, 73, 77, 0, 0) else none) else (bif Nat.beq pc 73 then some (.iconst 3, 74, 0, 0, 3) else none)))) else (bif Nat.blt pc 79 then (bif Nat.blt pc 77 then (bif Nat.beq pc 74 then some (.goto 4, 77, 78, 0, 0) else none) else (bif Nat.blt pc 78 then (bif Nat.beq pc 77 then some (.iconst 1, 78, 0, 0, 1) else none) else (bif Nat.beq pc 78 then some (.aload_n 0, 79, 0, 0, 0) else none))) else (bif Nat.blt pc 82 then (bif Nat.beq pc 79 then some (.getfield 27, 82, 8, 2, 0) else none) else (bif Nat.blt pc 85 then (bif Nat.beq pc 82 then some (.invokevirtual 52, 85, 62, 2, 0) else none) else (bif Nat.beq pc 85 then some (.return_, 86, 0, 0, 0) else none))))))
/-- X8_readTruths -/
noncomputable def gn_c54 (pc : Nat) : Option gn_En := bif Nat.blt pc 12 then (bif Nat.blt pc 6 then (bif Nat.blt pc 2 then (bif Nat.blt pc 1 then (bif Nat.beq pc 0 then some (.aload_n 0, 1, 0, 0, 0) else none) else (bif Nat.beq pc 1 then some (.dup, 2, 0, 0, 0) else none)) else (bif Nat.blt pc 5 then (bif Nat.beq pc 2 then some (.getfield 27, 5, 8, 2, 0) else none) else (bif Nat.beq pc 5 then some (.iconst 1, 6, 0, 0, 1) else none))) else (bif Nat.blt pc 10 then (bif Nat.blt pc 7 then (bif Nat.beq pc 6 then some (.iadd, 7, 0, 0, 0) else none) else (bif Nat.beq pc 7 then some (.putfield 27, 10, 8, 2, 0) else none)) else (bif Nat.blt pc 11 then (bif Nat.beq pc 10 then some (.aload_n 1, 11, 1, 0, 0) else none) else (bif Nat.beq pc 11 then some (.iconst 1, 12, 0, 0, 1) else none)))) else (bif Nat.blt pc 20 then (bif Nat.blt pc 16 then (bif Nat.blt pc 15 then (bif Nat.beq pc 12 then some (.putfield 45, 15, 9, 0, 0) else none) else (bif Nat.beq pc 15 then some (.aload_n 1, 16, 1, 0, 0) else none)) else (bif Nat.blt pc 17 then (bif Nat.beq pc 16 then some (.aload_n 0, 17, 0, 0, 0) else none) else (bif Nat.beq pc 17 then some (.sipush 255, 20, 0, 0, 255) else none))) else (bif Nat.blt pc 26 then (bif Nat.blt pc 23 then (bif Nat.beq pc 20 then some (.invokevirtual 62, 23, 58, 1, 0) else none) else (bif Nat.beq pc 23 then some (.putfield 66, 26, 9, 1, 0) else none)) else (bif Nat.blt pc 27 then (bif Nat.beq pc 26 then some (.aload_n 0, 27, 0, 0, 0) else none) else (bif Nat.blt pc 30 then (bif Nat.beq pc 27 then some (.invokevirtual 69, 30, 57, 0, 0) else none) else (bif Nat.beq pc 30 then some (.return_, 31, 0, 0, 0) else none)))))
/-- X8_readGuest -/
noncomputable def gn_c55 (pc : Nat) : Option gn_En := bif Nat.blt pc 46 then (bif Nat.blt pc 21 then (bif Nat.blt pc 11 then (bif Nat.blt pc 6 then (bif Nat.blt pc 1 then (bif Nat.beq pc 0 then some (.aload_n 1, 1, 1, 0, 0) else none) else (bif Nat.blt pc 4 then (bif Nat.beq pc 1 then some (.getfield 72, 4, 9, 2, 0) else none) else (bif Nat.beq pc 4 then some (.bipush 6, 6, 0, 0, 6) else none))) else (bif Nat.blt pc 9 then (bif Nat.beq pc 6 then some (.if_icmp .lt 13, 9, 19, 0, 0) else none) else (bif Nat.blt pc 10 then (bif Nat.beq pc 9 then some (.aload_n 0, 10, 0, 0, 0) else none) else (bif Nat.beq pc 10 then some (.iconst 3, 11, 0, 0, 3) else none)))) else (bif Nat.blt pc 18 then (bif Nat.blt pc 12 then (bif Nat.beq pc 11 then some (.aload_n 0, 12, 0, 0, 0) else none) else (bif Nat.blt pc 15 then (bif Nat.beq pc 12 then some (.getfield 27, 15, 8, 2, 0) else none) else (bif Nat.beq pc 15 then some (.invokevirtual 52, 18, 62, 2, 0) else none))) else (bif Nat.blt pc 19 then (bif Nat.beq pc 18 then some (.return_, 19, 0, 0, 0) else none) else (bif Nat.blt pc 20 then (bif Nat.beq pc 19 then some (.aload_n 0, 20, 0, 0, 0) else none) else (bif Nat.beq pc 20 then some (.dup, 21, 0, 0, 0) else none))))) else (bif Nat.blt pc 31 then (bif Nat.blt pc 26 then (bif Nat.blt pc 24 then (bif Nat.beq pc 21 then some (.getfield 27, 24, 8, 2, 0) else none) else (bif Nat.blt pc 25 then (bif Nat.beq pc 24 then some (.iconst 1, 25, 0, 0, 1) else none) else (bif Nat.beq pc 25 then some (.iadd, 26, 0, 0, 0) else none))) else (bif Nat.blt pc 29 then (bif Nat.beq pc 26 then some (.putfield 27, 29, 8, 2, 0) else none) else (bif Nat.blt pc 30 then (bif Nat.beq pc 29 then some (.aload_n 1, 30, 1, 0, 0) else none) else (bif Nat.beq pc 30 then some (.aload_n 0, 31, 0, 0, 0) else none)))) else (bif Nat.blt pc 39 then (bif Nat.blt pc 33 then (bif Nat.beq pc 31 then some (.bipush 9, 33, 0, 0, 9) else none) else (bif Nat.blt pc 36 then (bif Nat.beq pc 33 then some (.invokevirtual 62, 36, 58, 1, 0) else none) else (bif Nat.beq pc 36 then some (.invokevirtual 75, 39, 64, 1, 1) else none))) else (bif Nat.blt pc 41 then (bif Nat.blt pc 40 then (bif Nat.beq pc 39 then some (.aload_n 1, 40, 1, 0, 0) else none) else (bif Nat.beq pc 40 then some (.aload_n 0, 41, 0, 0, 0) else none)) else (bif Nat.blt pc 43 then (bif Nat.beq pc 41 then some (.bipush 79, 43, 0, 0, 79) else none) else (bif Nat.beq pc 43 then some (.invokevirtual 62, 46, 58, 1, 0) else none)))))) else (bif Nat.blt pc 71 then (bif Nat.blt pc 57 then (bif Nat.blt pc 51 then (bif Nat.blt pc 49 then (bif Nat.beq pc 46 then some (.invokevirtual 79, 49, 65, 1, 1) else none) else (bif Nat.blt pc 50 then (bif Nat.beq pc 49 then some (.iconst 1, 50, 0, 0, 1) else none) else (bif Nat.beq pc 50 then some (.istore_n 2, 51, 2, 0, 0) else none))) else (bif Nat.blt pc 52 then (bif Nat.beq pc 51 then some (.iload_n 2, 52, 2, 0, 0) else none) else (bif Nat.blt pc 54 then (bif Nat.beq pc 52 then some (.bipush 6, 54, 0, 0, 6) else none) else (bif Nat.beq pc 54 then some (.if_icmp .ge 38, 57, 92, 0, 0) else none)))) else (bif Nat.blt pc 63 then (bif Nat.blt pc 58 then (bif Nat.beq pc 57 then some (.aload_n 0, 58, 0, 0, 0) else none) else (bif Nat.blt pc 61 then (bif Nat.beq pc 58 then some (.invokevirtual 41, 61, 59, 0, 0) else none) else (bif Nat.beq pc 61 then some (.bipush 44, 63, 0, 0, 44) else none))) else (bif Nat.blt pc 67 then (bif Nat.blt pc 66 then (bif Nat.beq pc 63 then some (.if_icmp .ne 29, 66, 92, 0, 0) else none) else (bif Nat.beq pc 66 then some (.aload_n 0, 67, 0, 0, 0) else none)) else (bif Nat.blt pc 68 then (bif Nat.beq pc 67 then some (.dup, 68, 0, 0, 0) else none) else (bif Nat.beq pc 68 then some (.getfield 27, 71, 8, 2, 0) else none))))) else (bif Nat.blt pc 80 then (bif Nat.blt pc 76 then (bif Nat.blt pc 72 then (bif Nat.beq pc 71 then some (.iconst 1, 72, 0, 0, 1) else none) else (bif Nat.blt pc 73 then (bif Nat.beq pc 72 then some (.iadd, 73, 0, 0, 0) else none) else (bif Nat.beq pc 73 then some (.putfield 27, 76, 8, 2, 0) else none))) else (bif Nat.blt pc 77 then (bif Nat.beq pc 76 then some (.aload_n 1, 77, 1, 0, 0) else none) else (bif Nat.blt pc 78 then (bif Nat.beq pc 77 then some (.aload_n 0, 78, 0, 0, 0) else none) else (bif Nat.beq pc 78 then some (.bipush 79, 80, 0, 0, 79) else none)))) else (bif Nat.blt pc 89 then (bif Nat.blt pc 83 then (bif Nat.beq pc 80 then some (.invokevirtual 62, 83, 58, 1, 0) else none) else (bif Nat.blt pc 86 then (bif Nat.beq pc 83 then some (.invokevirtual 79, 86, 65, 1, 1) else none) else (bif Nat.beq pc 86 then some (.iinc 2 1, 89, 2, 0, 1) else none))) else (bif Nat.blt pc 93 then (bif Nat.blt pc 92 then (bif Nat.beq pc 89 then some (.goto (-38), 92, 51, 0, 0) else none) else (bif Nat.beq pc 92 then some (.aload_n 0, 93, 0, 0, 0) else none)) else (bif Nat.blt pc 96 then (bif Nat.beq pc 93 then some (.invokevirtual 69, 96, 57, 0, 0) else none) else (bif Nat.beq pc 96 then some (.return_, 97, 0, 0, 0) else none))))))
/-- X8_readHost -/
noncomputable def gn_c56 (pc : Nat) : Option gn_En := bif Nat.blt pc 24 then (bif Nat.blt pc 11 then (bif Nat.blt pc 5 then (bif Nat.blt pc 1 then (bif Nat.beq pc 0 then some (.aload_n 1, 1, 1, 0, 0) else none) else (bif Nat.blt pc 4 then (bif Nat.beq pc 1 then some (.getfield 82, 4, 9, 3, 0) else none) else (bif Nat.beq pc 4 then some (.iconst 4, 5, 0, 0, 4) else none))) else (bif Nat.blt pc 9 then (bif Nat.blt pc 8 then (bif Nat.beq pc 5 then some (.if_icmp .lt 13, 8, 18, 0, 0) else none) else (bif Nat.beq pc 8 then some (.aload_n 0, 9, 0, 0, 0) else none)) else (bif Nat.blt pc 10 then (bif Nat.beq pc 9 then some (.iconst 3, 10, 0, 0, 3) else none) else (bif Nat.beq pc 10 then some (.aload_n 0, 11, 0, 0, 0) else none)))) else (bif Nat.blt pc 18 then (bif Nat.blt pc 14 then (bif Nat.beq pc 11 then some (.getfield 27, 14, 8, 2, 0) else none) else (bif Nat.blt pc 17 then (bif Nat.beq pc 14 then some (.invokevirtual 52, 17, 62, 2, 0) else none) else (bif Nat.beq pc 17 then some (.return_, 18, 0, 0, 0) else none))) else (bif Nat.blt pc 20 then (bif Nat.blt pc 19 then (bif Nat.beq pc 18 then some (.aload_n 0, 19, 0, 0, 0) else none) else (bif Nat.beq pc 19 then some (.dup, 20, 0, 0, 0) else none)) else (bif Nat.blt pc 23 then (bif Nat.beq pc 20 then some (.getfield 27, 23, 8, 2, 0) else none) else (bif Nat.beq pc 23 then some (.iconst 1, 24, 0, 0, 1) else none))))) else (bif Nat.blt pc 35 then (bif Nat.blt pc 29 then (bif Nat.blt pc 25 then (bif Nat.beq pc 24 then some (.iadd, 25, 0, 0, 0) else none) else (bif Nat.blt pc 28 then (bif Nat.beq pc 25 then some (.putfield 27, 28, 8, 2, 0) else none) else (bif Nat.beq pc 28 then some (.aload_n 0, 29, 0, 0, 0) else none))) else (bif Nat.blt pc 33 then (bif Nat.blt pc 30 then (bif Nat.beq pc 29 then some (.iconst 3, 30, 0, 0, 3) else none) else (bif Nat.beq pc 30 then some (.invokevirtual 62, 33, 58, 1, 0) else none)) else (bif Nat.blt pc 34 then (bif Nat.beq pc 33 then some (.istore_n 2, 34, 2, 0, 0) else none) else (bif Nat.beq pc 34 then some (.aload_n 1, 35, 1, 0, 0) else none)))) else (bif Nat.blt pc 42 then (bif Nat.blt pc 37 then (bif Nat.blt pc 36 then (bif Nat.beq pc 35 then some (.iload_n 2, 36, 2, 0, 0) else none) else (bif Nat.beq pc 36 then some (.aload_n 0, 37, 0, 0, 0) else none)) else (bif Nat.blt pc 39 then (bif Nat.beq pc 37 then some (.bipush 9, 39, 0, 0, 9) else none) else (bif Nat.beq pc 39 then some (.invokevirtual 62, 42, 58, 1, 0) else none))) else (bif Nat.blt pc 46 then (bif Nat.blt pc 45 then (bif Nat.beq pc 42 then some (.invokevirtual 85, 45, 66, 2, 1) else none) else (bif Nat.beq pc 45 then some (.aload_n 0, 46, 0, 0, 0) else none)) else (bif Nat.blt pc 49 then (bif Nat.beq pc 46 then some (.invokevirtual 69, 49, 57, 0, 0) else none) else (bif Nat.beq pc 49 then some (.return_, 50, 0, 0, 0) else none)))))
/-- X8_readEndOfClause -/
noncomputable def gn_c57 (pc : Nat) : Option gn_En := bif Nat.blt pc 15 then (bif Nat.blt pc 9 then (bif Nat.blt pc 4 then (bif Nat.blt pc 1 then (bif Nat.beq pc 0 then some (.aload_n 0, 1, 0, 0, 0) else none) else (bif Nat.beq pc 1 then some (.invokevirtual 41, 4, 59, 0, 0) else none)) else (bif Nat.blt pc 6 then (bif Nat.beq pc 4 then some (.bipush 59, 6, 0, 0, 59) else none) else (bif Nat.beq pc 6 then some (.if_icmp .ne 16, 9, 22, 0, 0) else none))) else (bif Nat.blt pc 11 then (bif Nat.blt pc 10 then (bif Nat.beq pc 9 then some (.aload_n 0, 10, 0, 0, 0) else none) else (bif Nat.beq pc 10 then some (.dup, 11, 0, 0, 0) else none)) else (bif Nat.blt pc 14 then (bif Nat.beq pc 11 then some (.getfield 27, 14, 8, 2, 0) else none) else (bif Nat.beq pc 14 then some (.iconst 1, 15, 0, 0, 1) else none)))) else (bif Nat.blt pc 23 then (bif Nat.blt pc 19 then (bif Nat.blt pc 16 then (bif Nat.beq pc 15 then some (.iadd, 16, 0, 0, 0) else none) else (bif Nat.beq pc 16 then some (.putfield 27, 19, 8, 2, 0) else none)) else (bif Nat.blt pc 22 then (bif Nat.beq pc 19 then some (.goto 12, 22, 31, 0, 0) else none) else (bif Nat.beq pc 22 then some (.aload_n 0, 23, 0, 0, 0) else none))) else (bif Nat.blt pc 25 then (bif Nat.blt pc 24 then (bif Nat.beq pc 23 then some (.iconst 1, 24, 0, 0, 1) else none) else (bif Nat.beq pc 24 then some (.aload_n 0, 25, 0, 0, 0) else none)) else (bif Nat.blt pc 28 then (bif Nat.beq pc 25 then some (.getfield 27, 28, 8, 2, 0) else none) else (bif Nat.blt pc 31 then (bif Nat.beq pc 28 then some (.invokevirtual 52, 31, 62, 2, 0) else none) else (bif Nat.beq pc 31 then some (.return_, 32, 0, 0, 0) else none)))))
/-- X8_readNumber -/
noncomputable def gn_c58 (pc : Nat) : Option gn_En := bif Nat.blt pc 64 then (bif Nat.blt pc 28 then (bif Nat.blt pc 14 then (bif Nat.blt pc 6 then (bif Nat.blt pc 4 then (bif Nat.blt pc 1 then (bif Nat.beq pc 0 then some (.aload_n 0, 1, 0, 0, 0) else none) else (bif Nat.beq pc 1 then some (.invokevirtual 41, 4, 59, 0, 0) else none)) else (bif Nat.blt pc 5 then (bif Nat.beq pc 4 then some (.istore_n 2, 5, 2, 0, 0) else none) else (bif Nat.beq pc 5 then some (.iload_n 2, 6, 2, 0, 0) else none))) else (bif Nat.blt pc 12 then (bif Nat.blt pc 9 then (bif Nat.beq pc 6 then some (.invokestatic 88, 9, 61, 1, 0) else none) else (bif Nat.beq pc 9 then some (.ifCond .ne 14, 12, 23, 0, 0) else none)) else (bif Nat.blt pc 13 then (bif Nat.beq pc 12 then some (.aload_n 0, 13, 0, 0, 0) else none) else (bif Nat.beq pc 13 then some (.iconst 1, 14, 0, 0, 1) else none)))) else (bif Nat.blt pc 22 then (bif Nat.blt pc 18 then (bif Nat.blt pc 15 then (bif Nat.beq pc 14 then some (.aload_n 0, 15, 0, 0, 0) else none) else (bif Nat.beq pc 15 then some (.getfield 27, 18, 8, 2, 0) else none)) else (bif Nat.blt pc 21 then (bif Nat.beq pc 18 then some (.invokevirtual 52, 21, 62, 2, 0) else none) else (bif Nat.beq pc 21 then some (.iconst 0, 22, 0, 0, 0) else none))) else (bif Nat.blt pc 24 then (bif Nat.blt pc 23 then (bif Nat.beq pc 22 then some (.ireturn, 23, 0, 0, 0) else none) else (bif Nat.beq pc 23 then some (.aload_n 0, 24, 0, 0, 0) else none)) else (bif Nat.blt pc 27 then (bif Nat.beq pc 24 then some (.getfield 27, 27, 8, 2, 0) else none) else (bif Nat.beq pc 27 then some (.istore_n 3, 28, 3, 0, 0) else none))))) else (bif Nat.blt pc 43 then (bif Nat.blt pc 35 then (bif Nat.blt pc 31 then (bif Nat.blt pc 29 then (bif Nat.beq pc 28 then some (.iconst 0, 29, 0, 0, 0) else none) else (bif Nat.beq pc 29 then some (.istore 4, 31, 4, 0, 0) else none)) else (bif Nat.blt pc 32 then (bif Nat.beq pc 31 then some (.aload_n 0, 32, 0, 0, 0) else none) else (bif Nat.beq pc 32 then some (.getfield 27, 35, 8, 2, 0) else none))) else (bif Nat.blt pc 39 then (bif Nat.blt pc 36 then (bif Nat.beq pc 35 then some (.aload_n 0, 36, 0, 0, 0) else none) else (bif Nat.beq pc 36 then some (.getfield 19, 39, 8, 1, 0) else none)) else (bif Nat.blt pc 42 then (bif Nat.beq pc 39 then some (.if_icmp .ge 55, 42, 94, 0, 0) else none) else (bif Nat.beq pc 42 then some (.aload_n 0, 43, 0, 0, 0) else none)))) else (bif Nat.blt pc 53 then (bif Nat.blt pc 47 then (bif Nat.blt pc 44 then (bif Nat.beq pc 43 then some (.aload_n 0, 44, 0, 0, 0) else none) else (bif Nat.beq pc 44 then some (.getfield 27, 47, 8, 2, 0) else none)) else (bif Nat.blt pc 50 then (bif Nat.beq pc 47 then some (.invokevirtual 92, 50, 60, 1, 0) else none) else (bif Nat.beq pc 50 then some (.invokestatic 88, 53, 61, 1, 0) else none))) else (bif Nat.blt pc 59 then (bif Nat.blt pc 56 then (bif Nat.beq pc 53 then some (.ifCond .eq 41, 56, 94, 0, 0) else none) else (bif Nat.beq pc 56 then some (.sipush 1000, 59, 0, 0, 1000) else none)) else (bif Nat.blt pc 61 then (bif Nat.beq pc 59 then some (.iload 4, 61, 4, 0, 0) else none) else (bif Nat.blt pc 63 then (bif Nat.beq pc 61 then some (.bipush 10, 63, 0, 0, 10) else none) else (bif Nat.beq pc 63 then some (.imul, 64, 0, 0, 0) else none))))))) else (bif Nat.blt pc 94 then (bif Nat.blt pc 79 then (bif Nat.blt pc 72 then (bif Nat.blt pc 66 then (bif Nat.blt pc 65 then (bif Nat.beq pc 64 then some (.aload_n 0, 65, 0, 0, 0) else none) else (bif Nat.beq pc 65 then some (.aload_n 0, 66, 0, 0, 0) else none)) else (bif Nat.blt pc 69 then (bif Nat.beq pc 66 then some (.getfield 27, 69, 8, 2, 0) else none) else (bif Nat.beq pc 69 then some (.invokevirtual 92, 72, 60, 1, 0) else none))) else (bif Nat.blt pc 75 then (bif Nat.blt pc 73 then (bif Nat.beq pc 72 then some (.iadd, 73, 0, 0, 0) else none) else (bif Nat.beq pc 73 then some (.bipush 48, 75, 0, 0, 48) else none)) else (bif Nat.blt pc 76 then (bif Nat.beq pc 75 then some (.isub, 76, 0, 0, 0) else none) else (bif Nat.beq pc 76 then some (.invokestatic 95, 79, 0, 0, 3) else none)))) else (bif Nat.blt pc 86 then (bif Nat.blt pc 82 then (bif Nat.blt pc 81 then (bif Nat.beq pc 79 then some (.istore 4, 81, 4, 0, 0) else none) else (bif Nat.beq pc 81 then some (.aload_n 0, 82, 0, 0, 0) else none)) else (bif Nat.blt pc 83 then (bif Nat.beq pc 82 then some (.dup, 83, 0, 0, 0) else none) else (bif Nat.beq pc 83 then some (.getfield 27, 86, 8, 2, 0) else none))) else (bif Nat.blt pc 88 then (bif Nat.blt pc 87 then (bif Nat.beq pc 86 then some (.iconst 1, 87, 0, 0, 1) else none) else (bif Nat.beq pc 87 then some (.iadd, 88, 0, 0, 0) else none)) else (bif Nat.blt pc 91 then (bif Nat.beq pc 88 then some (.putfield 27, 91, 8, 2, 0) else none) else (bif Nat.beq pc 91 then some (.goto (-60), 94, 31, 0, 0) else none))))) else (bif Nat.blt pc 107 then (bif Nat.blt pc 100 then (bif Nat.blt pc 98 then (bif Nat.blt pc 95 then (bif Nat.beq pc 94 then some (.aload_n 0, 95, 0, 0, 0) else none) else (bif Nat.beq pc 95 then some (.getfield 27, 98, 8, 2, 0) else none)) else (bif Nat.blt pc 99 then (bif Nat.beq pc 98 then some (.iload_n 3, 99, 3, 0, 0) else none) else (bif Nat.beq pc 99 then some (.isub, 100, 0, 0, 0) else none))) else (bif Nat.blt pc 104 then (bif Nat.blt pc 101 then (bif Nat.beq pc 100 then some (.iconst 3, 101, 0, 0, 3) else none) else (bif Nat.beq pc 101 then some (.if_icmp .gt 9, 104, 110, 0, 0) else none)) else (bif Nat.blt pc 106 then (bif Nat.beq pc 104 then some (.iload 4, 106, 4, 0, 0) else none) else (bif Nat.beq pc 106 then some (.iload_n 1, 107, 1, 0, 0) else none)))) else (bif Nat.blt pc 113 then (bif Nat.blt pc 111 then (bif Nat.blt pc 110 then (bif Nat.beq pc 107 then some (.if_icmp .le 11, 110, 118, 0, 0) else none) else (bif Nat.beq pc 110 then some (.aload_n 0, 111, 0, 0, 0) else none)) else (bif Nat.blt pc 112 then (bif Nat.beq pc 111 then some (.iconst 2, 112, 0, 0, 2) else none) else (bif Nat.beq pc 112 then some (.iload_n 3, 113, 3, 0, 0) else none))) else (bif Nat.blt pc 117 then (bif Nat.blt pc 116 then (bif Nat.beq pc 113 then some (.invokevirtual 52, 116, 62, 2, 0) else none) else (bif Nat.beq pc 116 then some (.iconst 0, 117, 0, 0, 0) else none)) else (bif Nat.blt pc 118 then (bif Nat.beq pc 117 then some (.ireturn, 118, 0, 0, 0) else none) else (bif Nat.blt pc 120 then (bif Nat.beq pc 118 then some (.iload 4, 120, 4, 0, 0) else none) else (bif Nat.beq pc 120 then some (.ireturn, 121, 0, 0, 0) else none)))))))
/-- X8_nextWord -/
noncomputable def gn_c59 (pc : Nat) : Option gn_En := bif Nat.blt pc 24 then (bif Nat.blt pc 11 then (bif Nat.blt pc 4 then (bif Nat.blt pc 1 then (bif Nat.beq pc 0 then some (.aload_n 0, 1, 0, 0, 0) else none) else (bif Nat.beq pc 1 then some (.getfield 27, 4, 8, 2, 0) else none)) else (bif Nat.blt pc 5 then (bif Nat.beq pc 4 then some (.aload_n 0, 5, 0, 0, 0) else none) else (bif Nat.blt pc 8 then (bif Nat.beq pc 5 then some (.getfield 19, 8, 8, 1, 0) else none) else (bif Nat.beq pc 8 then some (.if_icmp .ge 29, 11, 37, 0, 0) else none)))) else (bif Nat.blt pc 16 then (bif Nat.blt pc 12 then (bif Nat.beq pc 11 then some (.aload_n 0, 12, 0, 0, 0) else none) else (bif Nat.blt pc 13 then (bif Nat.beq pc 12 then some (.aload_n 0, 13, 0, 0, 0) else none) else (bif Nat.beq pc 13 then some (.getfield 27, 16, 8, 2, 0) else none))) else (bif Nat.blt pc 19 then (bif Nat.beq pc 16 then some (.invokevirtual 92, 19, 60, 1, 0) else none) else (bif Nat.blt pc 21 then (bif Nat.beq pc 19 then some (.bipush 32, 21, 0, 0, 32) else none) else (bif Nat.beq pc 21 then some (.if_icmp .ne 16, 24, 37, 0, 0) else none))))) else (bif Nat.blt pc 34 then (bif Nat.blt pc 29 then (bif Nat.blt pc 25 then (bif Nat.beq pc 24 then some (.aload_n 0, 25, 0, 0, 0) else none) else (bif Nat.blt pc 26 then (bif Nat.beq pc 25 then some (.dup, 26, 0, 0, 0) else none) else (bif Nat.beq pc 26 then some (.getfield 27, 29, 8, 2, 0) else none))) else (bif Nat.blt pc 30 then (bif Nat.beq pc 29 then some (.iconst 1, 30, 0, 0, 1) else none) else (bif Nat.blt pc 31 then (bif Nat.beq pc 30 then some (.iadd, 31, 0, 0, 0) else none) else (bif Nat.beq pc 31 then some (.putfield 27, 34, 8, 2, 0) else none)))) else (bif Nat.blt pc 39 then (bif Nat.blt pc 37 then (bif Nat.beq pc 34 then some (.goto (-34), 37, 0, 0, 0) else none) else (bif Nat.blt pc 38 then (bif Nat.beq pc 37 then some (.aload_n 0, 38, 0, 0, 0) else none) else (bif Nat.beq pc 38 then some (.aload_n 0, 39, 0, 0, 0) else none))) else (bif Nat.blt pc 42 then (bif Nat.beq pc 39 then some (.getfield 27, 42, 8, 2, 0) else none) else (bif Nat.blt pc 45 then (bif Nat.beq pc 42 then some (.invokevirtual 92, 45, 60, 1, 0) else none) else (bif Nat.beq pc 45 then some (.ireturn, 46, 0, 0, 0) else none)))))
/-- X8_letterAt -/
noncomputable def gn_c60 (pc : Nat) : Option gn_En := bif Nat.blt pc 16 then (bif Nat.blt pc 6 then (bif Nat.blt pc 4 then (bif Nat.blt pc 1 then (bif Nat.beq pc 0 then some (.iload_n 1, 1, 1, 0, 0) else none) else (bif Nat.beq pc 1 then some (.ifCond .lt 27, 4, 28, 0, 0) else none)) else (bif Nat.blt pc 5 then (bif Nat.beq pc 4 then some (.iload_n 1, 5, 1, 0, 0) else none) else (bif Nat.beq pc 5 then some (.aload_n 0, 6, 0, 0, 0) else none))) else (bif Nat.blt pc 12 then (bif Nat.blt pc 9 then (bif Nat.beq pc 6 then some (.getfield 19, 9, 8, 1, 0) else none) else (bif Nat.beq pc 9 then some (.if_icmp .ge 19, 12, 28, 0, 0) else none)) else (bif Nat.blt pc 13 then (bif Nat.beq pc 12 then some (.iload_n 1, 13, 1, 0, 0) else none) else (bif Nat.beq pc 13 then some (.sipush 240, 16, 0, 0, 240) else none)))) else (bif Nat.blt pc 24 then (bif Nat.blt pc 20 then (bif Nat.blt pc 19 then (bif Nat.beq pc 16 then some (.if_icmp .ge 12, 19, 28, 0, 0) else none) else (bif Nat.beq pc 19 then some (.aload_n 0, 20, 0, 0, 0) else none)) else (bif Nat.blt pc 23 then (bif Nat.beq pc 20 then some (.getfield 11, 23, 8, 0, 0) else none) else (bif Nat.beq pc 23 then some (.iload_n 1, 24, 1, 0, 0) else none))) else (bif Nat.blt pc 28 then (bif Nat.blt pc 25 then (bif Nat.beq pc 24 then some (.iaload, 25, 0, 0, 0) else none) else (bif Nat.beq pc 25 then some (.goto 4, 28, 29, 0, 0) else none)) else (bif Nat.blt pc 29 then (bif Nat.beq pc 28 then some (.iconst (-1), 29, 0, 0, (-1)) else none) else (bif Nat.beq pc 29 then some (.ireturn, 30, 0, 0, 0) else none))))
/-- X8_isFigure -/
noncomputable def gn_c61 (pc : Nat) : Option gn_En := bif Nat.blt pc 9 then (bif Nat.blt pc 3 then (bif Nat.blt pc 1 then (bif Nat.beq pc 0 then some (.iload_n 0, 1, 0, 0, 0) else none) else (bif Nat.beq pc 1 then some (.bipush 48, 3, 0, 0, 48) else none)) else (bif Nat.blt pc 6 then (bif Nat.beq pc 3 then some (.if_icmp .lt 13, 6, 16, 0, 0) else none) else (bif Nat.blt pc 7 then (bif Nat.beq pc 6 then some (.iload_n 0, 7, 0, 0, 0) else none) else (bif Nat.beq pc 7 then some (.bipush 57, 9, 0, 0, 57) else none)))) else (bif Nat.blt pc 13 then (bif Nat.blt pc 12 then (bif Nat.beq pc 9 then some (.if_icmp .gt 7, 12, 16, 0, 0) else none) else (bif Nat.beq pc 12 then some (.iconst 1, 13, 0, 0, 1) else none)) else (bif Nat.blt pc 16 then (bif Nat.beq pc 13 then some (.goto 4, 16, 17, 0, 0) else none) else (bif Nat.blt pc 17 then (bif Nat.beq pc 16 then some (.iconst 0, 17, 0, 0, 0) else none) else (bif Nat.beq pc 17 then some (.ireturn, 18, 0, 0, 0) else none))))
/-- X8_blame -/
noncomputable def gn_c62 (pc : Nat) : Option gn_En := bif Nat.blt pc 9 then (bif Nat.blt pc 4 then (bif Nat.blt pc 1 then (bif Nat.beq pc 0 then some (.aload_n 0, 1, 0, 0, 0) else none) else (bif Nat.beq pc 1 then some (.getfield 30, 4, 8, 3, 0) else none)) else (bif Nat.blt pc 7 then (bif Nat.beq pc 4 then some (.ifCond .ne 13, 7, 17, 0, 0) else none) else (bif Nat.blt pc 8 then (bif Nat.beq pc 7 then some (.aload_n 0, 8, 0, 0, 0) else none) else (bif Nat.beq pc 8 then some (.iload_n 1, 9, 1, 0, 0) else none)))) else (bif Nat.blt pc 13 then (bif Nat.blt pc 12 then (bif Nat.beq pc 9 then some (.putfield 30, 12, 8, 3, 0) else none) else (bif Nat.beq pc 12 then some (.aload_n 0, 13, 0, 0, 0) else none)) else (bif Nat.blt pc 14 then (bif Nat.beq pc 13 then some (.iload_n 2, 14, 2, 0, 0) else none) else (bif Nat.blt pc 17 then (bif Nat.beq pc 14 then some (.putfield 15, 17, 8, 4, 0) else none) else (bif Nat.beq pc 17 then some (.return_, 18, 0, 0, 0) else none))))
/-- X9_clear -/
noncomputable def gn_c63 (pc : Nat) : Option gn_En := bif Nat.blt pc 10 then (bif Nat.blt pc 5 then (bif Nat.blt pc 1 then (bif Nat.beq pc 0 then some (.aload_n 0, 1, 0, 0, 0) else none) else (bif Nat.blt pc 2 then (bif Nat.beq pc 1 then some (.iconst 0, 2, 0, 0, 0) else none) else (bif Nat.beq pc 2 then some (.putfield 33, 5, 9, 0, 0) else none))) else (bif Nat.blt pc 6 then (bif Nat.beq pc 5 then some (.aload_n 0, 6, 0, 0, 0) else none) else (bif Nat.blt pc 7 then (bif Nat.beq pc 6 then some (.iconst 0, 7, 0, 0, 0) else none) else (bif Nat.beq pc 7 then some (.putfield 37, 10, 9, 1, 0) else none)))) else (bif Nat.blt pc 15 then (bif Nat.blt pc 11 then (bif Nat.beq pc 10 then some (.aload_n 0, 11, 0, 0, 0) else none) else (bif Nat.blt pc 12 then (bif Nat.beq pc 11 then some (.iconst 0, 12, 0, 0, 0) else none) else (bif Nat.beq pc 12 then some (.putfield 41, 15, 9, 2, 0) else none))) else (bif Nat.blt pc 17 then (bif Nat.blt pc 16 then (bif Nat.beq pc 15 then some (.aload_n 0, 16, 0, 0, 0) else none) else (bif Nat.beq pc 16 then some (.iconst 0, 17, 0, 0, 0) else none)) else (bif Nat.blt pc 20 then (bif Nat.beq pc 17 then some (.putfield 44, 20, 9, 3, 0) else none) else (bif Nat.beq pc 20 then some (.return_, 21, 0, 0, 0) else none))))
/-- X9_addGuest -/
noncomputable def gn_c64 (pc : Nat) : Option gn_En := bif Nat.blt pc 28 then (bif Nat.blt pc 14 then (bif Nat.blt pc 6 then (bif Nat.blt pc 1 then (bif Nat.beq pc 0 then some (.aload_n 0, 1, 0, 0, 0) else none) else (bif Nat.blt pc 4 then (bif Nat.beq pc 1 then some (.getfield 41, 4, 9, 2, 0) else none) else (bif Nat.beq pc 4 then some (.bipush 6, 6, 0, 0, 6) else none))) else (bif Nat.blt pc 10 then (bif Nat.blt pc 9 then (bif Nat.beq pc 6 then some (.if_icmp .lt 4, 9, 10, 0, 0) else none) else (bif Nat.beq pc 9 then some (.return_, 10, 0, 0, 0) else none)) else (bif Nat.blt pc 11 then (bif Nat.beq pc 10 then some (.aload_n 0, 11, 0, 0, 0) else none) else (bif Nat.beq pc 11 then some (.getfield 9, 14, 9, 4, 0) else none)))) else (bif Nat.blt pc 20 then (bif Nat.blt pc 18 then (bif Nat.blt pc 15 then (bif Nat.beq pc 14 then some (.aload_n 0, 15, 0, 0, 0) else none) else (bif Nat.beq pc 15 then some (.getfield 41, 18, 9, 2, 0) else none)) else (bif Nat.blt pc 19 then (bif Nat.beq pc 18 then some (.iload_n 1, 19, 1, 0, 0) else none) else (bif Nat.beq pc 19 then some (.iastore, 20, 0, 0, 0) else none))) else (bif Nat.blt pc 24 then (bif Nat.blt pc 21 then (bif Nat.beq pc 20 then some (.aload_n 0, 21, 0, 0, 0) else none) else (bif Nat.beq pc 21 then some (.getfield 15, 24, 9, 5, 0) else none)) else (bif Nat.blt pc 25 then (bif Nat.beq pc 24 then some (.aload_n 0, 25, 0, 0, 0) else none) else (bif Nat.beq pc 25 then some (.getfield 41, 28, 9, 2, 0) else none))))) else (bif Nat.blt pc 39 then (bif Nat.blt pc 31 then (bif Nat.blt pc 29 then (bif Nat.beq pc 28 then some (.iconst 0, 29, 0, 0, 0) else none) else (bif Nat.blt pc 30 then (bif Nat.beq pc 29 then some (.iastore, 30, 0, 0, 0) else none) else (bif Nat.beq pc 30 then some (.aload_n 0, 31, 0, 0, 0) else none))) else (bif Nat.blt pc 35 then (bif Nat.blt pc 34 then (bif Nat.beq pc 31 then some (.getfield 24, 34, 9, 8, 0) else none) else (bif Nat.beq pc 34 then some (.aload_n 0, 35, 0, 0, 0) else none)) else (bif Nat.blt pc 38 then (bif Nat.beq pc 35 then some (.getfield 41, 38, 9, 2, 0) else none) else (bif Nat.beq pc 38 then some (.iconst 0, 39, 0, 0, 0) else none)))) else (bif Nat.blt pc 45 then (bif Nat.blt pc 41 then (bif Nat.blt pc 40 then (bif Nat.beq pc 39 then some (.iastore, 40, 0, 0, 0) else none) else (bif Nat.beq pc 40 then some (.aload_n 0, 41, 0, 0, 0) else none)) else (bif Nat.blt pc 42 then (bif Nat.beq pc 41 then some (.dup, 42, 0, 0, 0) else none) else (bif Nat.beq pc 42 then some (.getfield 41, 45, 9, 2, 0) else none))) else (bif Nat.blt pc 47 then (bif Nat.blt pc 46 then (bif Nat.beq pc 45 then some (.iconst 1, 46, 0, 0, 1) else none) else (bif Nat.beq pc 46 then some (.iadd, 47, 0, 0, 0) else none)) else (bif Nat.blt pc 50 then (bif Nat.beq pc 47 then some (.putfield 41, 50, 9, 2, 0) else none) else (bif Nat.beq pc 50 then some (.return_, 51, 0, 0, 0) else none)))))
/-- X9_addClaimToLastGuest -/
noncomputable def gn_c65 (pc : Nat) : Option gn_En := bif Nat.blt pc 47 then (bif Nat.blt pc 26 then (bif Nat.blt pc 9 then (bif Nat.blt pc 5 then (bif Nat.blt pc 1 then (bif Nat.beq pc 0 then some (.aload_n 0, 1, 0, 0, 0) else none) else (bif Nat.blt pc 4 then (bif Nat.beq pc 1 then some (.getfield 41, 4, 9, 2, 0) else none) else (bif Nat.beq pc 4 then some (.iconst 1, 5, 0, 0, 1) else none))) else (bif Nat.blt pc 7 then (bif Nat.blt pc 6 then (bif Nat.beq pc 5 then some (.isub, 6, 0, 0, 0) else none) else (bif Nat.beq pc 6 then some (.istore_n 2, 7, 2, 0, 0) else none)) else (bif Nat.blt pc 8 then (bif Nat.beq pc 7 then some (.aload_n 0, 8, 0, 0, 0) else none) else (bif Nat.beq pc 8 then some (.iload_n 2, 9, 2, 0, 0) else none)))) else (bif Nat.blt pc 19 then (bif Nat.blt pc 15 then (bif Nat.blt pc 12 then (bif Nat.beq pc 9 then some (.invokevirtual 47, 12, 67, 1, 0) else none) else (bif Nat.beq pc 12 then some (.ifCond .eq 14, 15, 26, 0, 0) else none)) else (bif Nat.blt pc 16 then (bif Nat.beq pc 15 then some (.aload_n 0, 16, 0, 0, 0) else none) else (bif Nat.beq pc 16 then some (.getfield 15, 19, 9, 5, 0) else none))) else (bif Nat.blt pc 21 then (bif Nat.blt pc 20 then (bif Nat.beq pc 19 then some (.iload_n 2, 20, 2, 0, 0) else none) else (bif Nat.beq pc 20 then some (.iaload, 21, 0, 0, 0) else none)) else (bif Nat.blt pc 23 then (bif Nat.beq pc 21 then some (.bipush 6, 23, 0, 0, 6) else none) else (bif Nat.beq pc 23 then some (.if_icmp .lt 4, 26, 27, 0, 0) else none))))) else (bif Nat.blt pc 36 then (bif Nat.blt pc 30 then (bif Nat.blt pc 27 then (bif Nat.beq pc 26 then some (.return_, 27, 0, 0, 0) else none) else (bif Nat.blt pc 28 then (bif Nat.beq pc 27 then some (.iload_n 2, 28, 2, 0, 0) else none) else (bif Nat.beq pc 28 then some (.bipush 6, 30, 0, 0, 6) else none))) else (bif Nat.blt pc 32 then (bif Nat.blt pc 31 then (bif Nat.beq pc 30 then some (.imul, 31, 0, 0, 0) else none) else (bif Nat.beq pc 31 then some (.aload_n 0, 32, 0, 0, 0) else none)) else (bif Nat.blt pc 35 then (bif Nat.beq pc 32 then some (.getfield 15, 35, 9, 5, 0) else none) else (bif Nat.beq pc 35 then some (.iload_n 2, 36, 2, 0, 0) else none)))) else (bif Nat.blt pc 40 then (bif Nat.blt pc 38 then (bif Nat.blt pc 37 then (bif Nat.beq pc 36 then some (.iaload, 37, 0, 0, 0) else none) else (bif Nat.beq pc 37 then some (.iadd, 38, 0, 0, 0) else none)) else (bif Nat.blt pc 39 then (bif Nat.beq pc 38 then some (.istore_n 3, 39, 3, 0, 0) else none) else (bif Nat.beq pc 39 then some (.aload_n 0, 40, 0, 0, 0) else none))) else (bif Nat.blt pc 44 then (bif Nat.blt pc 43 then (bif Nat.beq pc 40 then some (.getfield 18, 43, 9, 6, 0) else none) else (bif Nat.beq pc 43 then some (.iload_n 3, 44, 3, 0, 0) else none)) else (bif Nat.blt pc 45 then (bif Nat.beq pc 44 then some (.iload_n 1, 45, 1, 0, 0) else none) else (bif Nat.beq pc 45 then some (.bipush 10, 47, 0, 0, 10) else none)))))) else (bif Nat.blt pc 67 then (bif Nat.blt pc 57 then (bif Nat.blt pc 50 then (bif Nat.blt pc 48 then (bif Nat.beq pc 47 then some (.idiv, 48, 0, 0, 0) else none) else (bif Nat.blt pc 49 then (bif Nat.beq pc 48 then some (.iastore, 49, 0, 0, 0) else none) else (bif Nat.beq pc 49 then some (.aload_n 0, 50, 0, 0, 0) else none))) else (bif Nat.blt pc 54 then (bif Nat.blt pc 53 then (bif Nat.beq pc 50 then some (.getfield 21, 53, 9, 7, 0) else none) else (bif Nat.beq pc 53 then some (.iload_n 3, 54, 3, 0, 0) else none)) else (bif Nat.blt pc 55 then (bif Nat.beq pc 54 then some (.iload_n 1, 55, 1, 0, 0) else none) else (bif Nat.beq pc 55 then some (.bipush 10, 57, 0, 0, 10) else none)))) else (bif Nat.blt pc 63 then (bif Nat.blt pc 59 then (bif Nat.blt pc 58 then (bif Nat.beq pc 57 then some (.irem, 58, 0, 0, 0) else none) else (bif Nat.beq pc 58 then some (.iastore, 59, 0, 0, 0) else none)) else (bif Nat.blt pc 60 then (bif Nat.beq pc 59 then some (.aload_n 0, 60, 0, 0, 0) else none) else (bif Nat.beq pc 60 then some (.getfield 24, 63, 9, 8, 0) else none))) else (bif Nat.blt pc 65 then (bif Nat.blt pc 64 then (bif Nat.beq pc 63 then some (.iload_n 2, 64, 2, 0, 0) else none) else (bif Nat.beq pc 64 then some (.dup2, 65, 0, 0, 0) else none)) else (bif Nat.blt pc 66 then (bif Nat.beq pc 65 then some (.iaload, 66, 0, 0, 0) else none) else (bif Nat.beq pc 66 then some (.iconst 1, 67, 0, 0, 1) else none))))) else (bif Nat.blt pc 77 then (bif Nat.blt pc 73 then (bif Nat.blt pc 71 then (bif Nat.blt pc 68 then (bif Nat.beq pc 67 then some (.aload_n 0, 68, 0, 0, 0) else none) else (bif Nat.beq pc 68 then some (.getfield 18, 71, 9, 6, 0) else none)) else (bif Nat.blt pc 72 then (bif Nat.beq pc 71 then some (.iload_n 3, 72, 3, 0, 0) else none) else (bif Nat.beq pc 72 then some (.iaload, 73, 0, 0, 0) else none))) else (bif Nat.blt pc 75 then (bif Nat.blt pc 74 then (bif Nat.beq pc 73 then some (.ishl, 74, 0, 0, 0) else none) else (bif Nat.beq pc 74 then some (.ior, 75, 0, 0, 0) else none)) else (bif Nat.blt pc 76 then (bif Nat.beq pc 75 then some (.iastore, 76, 0, 0, 0) else none) else (bif Nat.beq pc 76 then some (.aload_n 0, 77, 0, 0, 0) else none)))) else (bif Nat.blt pc 83 then (bif Nat.blt pc 81 then (bif Nat.blt pc 80 then (bif Nat.beq pc 77 then some (.getfield 15, 80, 9, 5, 0) else none) else (bif Nat.beq pc 80 then some (.iload_n 2, 81, 2, 0, 0) else none)) else (bif Nat.blt pc 82 then (bif Nat.beq pc 81 then some (.dup2, 82, 0, 0, 0) else none) else (bif Nat.beq pc 82 then some (.iaload, 83, 0, 0, 0) else none))) else (bif Nat.blt pc 85 then (bif Nat.blt pc 84 then (bif Nat.beq pc 83 then some (.iconst 1, 84, 0, 0, 1) else none) else (bif Nat.beq pc 84 then some (.iadd, 85, 0, 0, 0) else none)) else (bif Nat.blt pc 86 then (bif Nat.beq pc 85 then some (.iastore, 86, 0, 0, 0) else none) else (bif Nat.beq pc 86 then some (.return_, 87, 0, 0, 0) else none))))))
/-- X9_addHost -/
noncomputable def gn_c66 (pc : Nat) : Option gn_En := bif Nat.blt pc 20 then (bif Nat.blt pc 10 then (bif Nat.blt pc 5 then (bif Nat.blt pc 1 then (bif Nat.beq pc 0 then some (.aload_n 0, 1, 0, 0, 0) else none) else (bif Nat.blt pc 4 then (bif Nat.beq pc 1 then some (.getfield 44, 4, 9, 3, 0) else none) else (bif Nat.beq pc 4 then some (.iconst 4, 5, 0, 0, 4) else none))) else (bif Nat.blt pc 8 then (bif Nat.beq pc 5 then some (.if_icmp .lt 4, 8, 9, 0, 0) else none) else (bif Nat.blt pc 9 then (bif Nat.beq pc 8 then some (.return_, 9, 0, 0, 0) else none) else (bif Nat.beq pc 9 then some (.aload_n 0, 10, 0, 0, 0) else none)))) else (bif Nat.blt pc 17 then (bif Nat.blt pc 13 then (bif Nat.beq pc 10 then some (.getfield 27, 13, 9, 9, 0) else none) else (bif Nat.blt pc 14 then (bif Nat.beq pc 13 then some (.aload_n 0, 14, 0, 0, 0) else none) else (bif Nat.beq pc 14 then some (.getfield 44, 17, 9, 3, 0) else none))) else (bif Nat.blt pc 18 then (bif Nat.beq pc 17 then some (.iload_n 1, 18, 1, 0, 0) else none) else (bif Nat.blt pc 19 then (bif Nat.beq pc 18 then some (.iastore, 19, 0, 0, 0) else none) else (bif Nat.beq pc 19 then some (.aload_n 0, 20, 0, 0, 0) else none))))) else (bif Nat.blt pc 30 then (bif Nat.blt pc 27 then (bif Nat.blt pc 23 then (bif Nat.beq pc 20 then some (.getfield 30, 23, 9, 10, 0) else none) else (bif Nat.blt pc 24 then (bif Nat.beq pc 23 then some (.aload_n 0, 24, 0, 0, 0) else none) else (bif Nat.beq pc 24 then some (.getfield 44, 27, 9, 3, 0) else none))) else (bif Nat.blt pc 28 then (bif Nat.beq pc 27 then some (.iload_n 2, 28, 2, 0, 0) else none) else (bif Nat.blt pc 29 then (bif Nat.beq pc 28 then some (.iastore, 29, 0, 0, 0) else none) else (bif Nat.beq pc 29 then some (.aload_n 0, 30, 0, 0, 0) else none)))) else (bif Nat.blt pc 35 then (bif Nat.blt pc 31 then (bif Nat.beq pc 30 then some (.dup, 31, 0, 0, 0) else none) else (bif Nat.blt pc 34 then (bif Nat.beq pc 31 then some (.getfield 44, 34, 9, 3, 0) else none) else (bif Nat.beq pc 34 then some (.iconst 1, 35, 0, 0, 1) else none))) else (bif Nat.blt pc 36 then (bif Nat.beq pc 35 then some (.iadd, 36, 0, 0, 0) else none) else (bif Nat.blt pc 39 then (bif Nat.beq pc 36 then some (.putfield 44, 39, 9, 3, 0) else none) else (bif Nat.beq pc 39 then some (.return_, 40, 0, 0, 0) else none)))))
/-- X9_hasGuest -/
noncomputable def gn_c67 (pc : Nat) : Option gn_En := bif Nat.blt pc 9 then (bif Nat.blt pc 4 then (bif Nat.blt pc 1 then (bif Nat.beq pc 0 then some (.iload_n 1, 1, 1, 0, 0) else none) else (bif Nat.beq pc 1 then some (.ifCond .lt 15, 4, 16, 0, 0) else none)) else (bif Nat.blt pc 5 then (bif Nat.beq pc 4 then some (.iload_n 1, 5, 1, 0, 0) else none) else (bif Nat.blt pc 6 then (bif Nat.beq pc 5 then some (.aload_n 0, 6, 0, 0, 0) else none) else (bif Nat.beq pc 6 then some (.getfield 41, 9, 9, 2, 0) else none)))) else (bif Nat.blt pc 13 then (bif Nat.blt pc 12 then (bif Nat.beq pc 9 then some (.if_icmp .ge 7, 12, 16, 0, 0) else none) else (bif Nat.beq pc 12 then some (.iconst 1, 13, 0, 0, 1) else none)) else (bif Nat.blt pc 16 then (bif Nat.beq pc 13 then some (.goto 4, 16, 17, 0, 0) else none) else (bif Nat.blt pc 17 then (bif Nat.beq pc 16 then some (.iconst 0, 17, 0, 0, 0) else none) else (bif Nat.beq pc 17 then some (.ireturn, 18, 0, 0, 0) else none))))
/-- X9_hasHost -/
noncomputable def gn_c68 (pc : Nat) : Option gn_En := bif Nat.blt pc 9 then (bif Nat.blt pc 4 then (bif Nat.blt pc 1 then (bif Nat.beq pc 0 then some (.iload_n 1, 1, 1, 0, 0) else none) else (bif Nat.beq pc 1 then some (.ifCond .lt 15, 4, 16, 0, 0) else none)) else (bif Nat.blt pc 5 then (bif Nat.beq pc 4 then some (.iload_n 1, 5, 1, 0, 0) else none) else (bif Nat.blt pc 6 then (bif Nat.beq pc 5 then some (.aload_n 0, 6, 0, 0, 0) else none) else (bif Nat.beq pc 6 then some (.getfield 44, 9, 9, 3, 0) else none)))) else (bif Nat.blt pc 13 then (bif Nat.blt pc 12 then (bif Nat.beq pc 9 then some (.if_icmp .ge 7, 12, 16, 0, 0) else none) else (bif Nat.beq pc 12 then some (.iconst 1, 13, 0, 0, 1) else none)) else (bif Nat.blt pc 16 then (bif Nat.beq pc 13 then some (.goto 4, 16, 17, 0, 0) else none) else (bif Nat.blt pc 17 then (bif Nat.beq pc 16 then some (.iconst 0, 17, 0, 0, 0) else none) else (bif Nat.beq pc 17 then some (.ireturn, 18, 0, 0, 0) else none))))
/-- X9_hasClaim -/
noncomputable def gn_c69 (pc : Nat) : Option gn_En := bif Nat.blt pc 17 then (bif Nat.blt pc 6 then (bif Nat.blt pc 4 then (bif Nat.blt pc 1 then (bif Nat.beq pc 0 then some (.iload_n 1, 1, 1, 0, 0) else none) else (bif Nat.beq pc 1 then some (.ifCond .lt 29, 4, 30, 0, 0) else none)) else (bif Nat.blt pc 5 then (bif Nat.beq pc 4 then some (.iload_n 1, 5, 1, 0, 0) else none) else (bif Nat.beq pc 5 then some (.aload_n 0, 6, 0, 0, 0) else none))) else (bif Nat.blt pc 12 then (bif Nat.blt pc 9 then (bif Nat.beq pc 6 then some (.getfield 41, 9, 9, 2, 0) else none) else (bif Nat.beq pc 9 then some (.if_icmp .ge 21, 12, 30, 0, 0) else none)) else (bif Nat.blt pc 13 then (bif Nat.beq pc 12 then some (.iload_n 2, 13, 2, 0, 0) else none) else (bif Nat.blt pc 16 then (bif Nat.beq pc 13 then some (.ifCond .lt 17, 16, 30, 0, 0) else none) else (bif Nat.beq pc 16 then some (.iload_n 2, 17, 2, 0, 0) else none))))) else (bif Nat.blt pc 23 then (bif Nat.blt pc 21 then (bif Nat.blt pc 18 then (bif Nat.beq pc 17 then some (.aload_n 0, 18, 0, 0, 0) else none) else (bif Nat.beq pc 18 then some (.getfield 15, 21, 9, 5, 0) else none)) else (bif Nat.blt pc 22 then (bif Nat.beq pc 21 then some (.iload_n 1, 22, 1, 0, 0) else none) else (bif Nat.beq pc 22 then some (.iaload, 23, 0, 0, 0) else none))) else (bif Nat.blt pc 27 then (bif Nat.blt pc 26 then (bif Nat.beq pc 23 then some (.if_icmp .ge 7, 26, 30, 0, 0) else none) else (bif Nat.beq pc 26 then some (.iconst 1, 27, 0, 0, 1) else none)) else (bif Nat.blt pc 30 then (bif Nat.beq pc 27 then some (.goto 4, 30, 31, 0, 0) else none) else (bif Nat.blt pc 31 then (bif Nat.beq pc 30 then some (.iconst 0, 31, 0, 0, 0) else none) else (bif Nat.beq pc 31 then some (.ireturn, 32, 0, 0, 0) else none)))))
/-- X9_pride -/
noncomputable def gn_c70 (pc : Nat) : Option gn_En := bif Nat.blt pc 9 then (bif Nat.blt pc 2 then (bif Nat.blt pc 1 then (bif Nat.beq pc 0 then some (.aload_n 0, 1, 0, 0, 0) else none) else (bif Nat.beq pc 1 then some (.iload_n 1, 2, 1, 0, 0) else none)) else (bif Nat.blt pc 5 then (bif Nat.beq pc 2 then some (.invokevirtual 47, 5, 67, 1, 0) else none) else (bif Nat.blt pc 8 then (bif Nat.beq pc 5 then some (.ifCond .eq 12, 8, 17, 0, 0) else none) else (bif Nat.beq pc 8 then some (.aload_n 0, 9, 0, 0, 0) else none)))) else (bif Nat.blt pc 14 then (bif Nat.blt pc 12 then (bif Nat.beq pc 9 then some (.getfield 9, 12, 9, 4, 0) else none) else (bif Nat.blt pc 13 then (bif Nat.beq pc 12 then some (.iload_n 1, 13, 1, 0, 0) else none) else (bif Nat.beq pc 13 then some (.iaload, 14, 0, 0, 0) else none))) else (bif Nat.blt pc 17 then (bif Nat.beq pc 14 then some (.goto 4, 17, 18, 0, 0) else none) else (bif Nat.blt pc 18 then (bif Nat.beq pc 17 then some (.iconst 0, 18, 0, 0, 0) else none) else (bif Nat.beq pc 18 then some (.ireturn, 19, 0, 0, 0) else none))))
/-- X9_claimCount -/
noncomputable def gn_c71 (pc : Nat) : Option gn_En := bif Nat.blt pc 9 then (bif Nat.blt pc 2 then (bif Nat.blt pc 1 then (bif Nat.beq pc 0 then some (.aload_n 0, 1, 0, 0, 0) else none) else (bif Nat.beq pc 1 then some (.iload_n 1, 2, 1, 0, 0) else none)) else (bif Nat.blt pc 5 then (bif Nat.beq pc 2 then some (.invokevirtual 47, 5, 67, 1, 0) else none) else (bif Nat.blt pc 8 then (bif Nat.beq pc 5 then some (.ifCond .eq 12, 8, 17, 0, 0) else none) else (bif Nat.beq pc 8 then some (.aload_n 0, 9, 0, 0, 0) else none)))) else (bif Nat.blt pc 14 then (bif Nat.blt pc 12 then (bif Nat.beq pc 9 then some (.getfield 15, 12, 9, 5, 0) else none) else (bif Nat.blt pc 13 then (bif Nat.beq pc 12 then some (.iload_n 1, 13, 1, 0, 0) else none) else (bif Nat.beq pc 13 then some (.iaload, 14, 0, 0, 0) else none))) else (bif Nat.blt pc 17 then (bif Nat.beq pc 14 then some (.goto 4, 17, 18, 0, 0) else none) else (bif Nat.blt pc 18 then (bif Nat.beq pc 17 then some (.iconst 0, 18, 0, 0, 0) else none) else (bif Nat.beq pc 18 then some (.ireturn, 19, 0, 0, 0) else none))))
/-- X9_topic -/
noncomputable def gn_c72 (pc : Nat) : Option gn_En := bif Nat.blt pc 14 then (bif Nat.blt pc 6 then (bif Nat.blt pc 2 then (bif Nat.blt pc 1 then (bif Nat.beq pc 0 then some (.aload_n 0, 1, 0, 0, 0) else none) else (bif Nat.beq pc 1 then some (.iload_n 1, 2, 1, 0, 0) else none)) else (bif Nat.blt pc 3 then (bif Nat.beq pc 2 then some (.iload_n 2, 3, 2, 0, 0) else none) else (bif Nat.beq pc 3 then some (.invokevirtual 51, 6, 69, 2, 0) else none))) else (bif Nat.blt pc 10 then (bif Nat.blt pc 9 then (bif Nat.beq pc 6 then some (.ifCond .eq 17, 9, 23, 0, 0) else none) else (bif Nat.beq pc 9 then some (.aload_n 0, 10, 0, 0, 0) else none)) else (bif Nat.blt pc 13 then (bif Nat.beq pc 10 then some (.getfield 18, 13, 9, 6, 0) else none) else (bif Nat.beq pc 13 then some (.iload_n 1, 14, 1, 0, 0) else none)))) else (bif Nat.blt pc 19 then (bif Nat.blt pc 17 then (bif Nat.blt pc 16 then (bif Nat.beq pc 14 then some (.bipush 6, 16, 0, 0, 6) else none) else (bif Nat.beq pc 16 then some (.imul, 17, 0, 0, 0) else none)) else (bif Nat.blt pc 18 then (bif Nat.beq pc 17 then some (.iload_n 2, 18, 2, 0, 0) else none) else (bif Nat.beq pc 18 then some (.iadd, 19, 0, 0, 0) else none))) else (bif Nat.blt pc 23 then (bif Nat.blt pc 20 then (bif Nat.beq pc 19 then some (.iaload, 20, 0, 0, 0) else none) else (bif Nat.beq pc 20 then some (.goto 4, 23, 24, 0, 0) else none)) else (bif Nat.blt pc 24 then (bif Nat.beq pc 23 then some (.iconst (-1), 24, 0, 0, (-1)) else none) else (bif Nat.beq pc 24 then some (.ireturn, 25, 0, 0, 0) else none))))
/-- X9_bold -/
noncomputable def gn_c73 (pc : Nat) : Option gn_En := bif Nat.blt pc 14 then (bif Nat.blt pc 6 then (bif Nat.blt pc 2 then (bif Nat.blt pc 1 then (bif Nat.beq pc 0 then some (.aload_n 0, 1, 0, 0, 0) else none) else (bif Nat.beq pc 1 then some (.iload_n 1, 2, 1, 0, 0) else none)) else (bif Nat.blt pc 3 then (bif Nat.beq pc 2 then some (.iload_n 2, 3, 2, 0, 0) else none) else (bif Nat.beq pc 3 then some (.invokevirtual 51, 6, 69, 2, 0) else none))) else (bif Nat.blt pc 10 then (bif Nat.blt pc 9 then (bif Nat.beq pc 6 then some (.ifCond .eq 17, 9, 23, 0, 0) else none) else (bif Nat.beq pc 9 then some (.aload_n 0, 10, 0, 0, 0) else none)) else (bif Nat.blt pc 13 then (bif Nat.beq pc 10 then some (.getfield 21, 13, 9, 7, 0) else none) else (bif Nat.beq pc 13 then some (.iload_n 1, 14, 1, 0, 0) else none)))) else (bif Nat.blt pc 19 then (bif Nat.blt pc 17 then (bif Nat.blt pc 16 then (bif Nat.beq pc 14 then some (.bipush 6, 16, 0, 0, 6) else none) else (bif Nat.beq pc 16 then some (.imul, 17, 0, 0, 0) else none)) else (bif Nat.blt pc 18 then (bif Nat.beq pc 17 then some (.iload_n 2, 18, 2, 0, 0) else none) else (bif Nat.beq pc 18 then some (.iadd, 19, 0, 0, 0) else none))) else (bif Nat.blt pc 23 then (bif Nat.blt pc 20 then (bif Nat.beq pc 19 then some (.iaload, 20, 0, 0, 0) else none) else (bif Nat.beq pc 20 then some (.goto 4, 23, 24, 0, 0) else none)) else (bif Nat.blt pc 24 then (bif Nat.beq pc 23 then some (.iconst (-1), 24, 0, 0, (-1)) else none) else (bif Nat.beq pc 24 then some (.ireturn, 25, 0, 0, 0) else none))))
/-- X9_kind -/
noncomputable def gn_c74 (pc : Nat) : Option gn_En := bif Nat.blt pc 9 then (bif Nat.blt pc 2 then (bif Nat.blt pc 1 then (bif Nat.beq pc 0 then some (.aload_n 0, 1, 0, 0, 0) else none) else (bif Nat.beq pc 1 then some (.iload_n 1, 2, 1, 0, 0) else none)) else (bif Nat.blt pc 5 then (bif Nat.beq pc 2 then some (.invokevirtual 55, 5, 68, 1, 0) else none) else (bif Nat.blt pc 8 then (bif Nat.beq pc 5 then some (.ifCond .eq 12, 8, 17, 0, 0) else none) else (bif Nat.beq pc 8 then some (.aload_n 0, 9, 0, 0, 0) else none)))) else (bif Nat.blt pc 14 then (bif Nat.blt pc 12 then (bif Nat.beq pc 9 then some (.getfield 27, 12, 9, 9, 0) else none) else (bif Nat.blt pc 13 then (bif Nat.beq pc 12 then some (.iload_n 1, 13, 1, 0, 0) else none) else (bif Nat.beq pc 13 then some (.iaload, 14, 0, 0, 0) else none))) else (bif Nat.blt pc 17 then (bif Nat.beq pc 14 then some (.goto 4, 17, 18, 0, 0) else none) else (bif Nat.blt pc 18 then (bif Nat.beq pc 17 then some (.iconst (-1), 18, 0, 0, (-1)) else none) else (bif Nat.beq pc 18 then some (.ireturn, 19, 0, 0, 0) else none))))
/-- X9_noes -/
noncomputable def gn_c75 (pc : Nat) : Option gn_En := bif Nat.blt pc 9 then (bif Nat.blt pc 2 then (bif Nat.blt pc 1 then (bif Nat.beq pc 0 then some (.aload_n 0, 1, 0, 0, 0) else none) else (bif Nat.beq pc 1 then some (.iload_n 1, 2, 1, 0, 0) else none)) else (bif Nat.blt pc 5 then (bif Nat.beq pc 2 then some (.invokevirtual 55, 5, 68, 1, 0) else none) else (bif Nat.blt pc 8 then (bif Nat.beq pc 5 then some (.ifCond .eq 12, 8, 17, 0, 0) else none) else (bif Nat.beq pc 8 then some (.aload_n 0, 9, 0, 0, 0) else none)))) else (bif Nat.blt pc 14 then (bif Nat.blt pc 12 then (bif Nat.beq pc 9 then some (.getfield 30, 12, 9, 10, 0) else none) else (bif Nat.blt pc 13 then (bif Nat.beq pc 12 then some (.iload_n 1, 13, 1, 0, 0) else none) else (bif Nat.beq pc 13 then some (.iaload, 14, 0, 0, 0) else none))) else (bif Nat.blt pc 17 then (bif Nat.beq pc 14 then some (.goto 4, 17, 18, 0, 0) else none) else (bif Nat.blt pc 18 then (bif Nat.beq pc 17 then some (.iconst 0, 18, 0, 0, 0) else none) else (bif Nat.beq pc 18 then some (.ireturn, 19, 0, 0, 0) else none))))
/-- X9_isTrue -/
noncomputable def gn_c76 (pc : Nat) : Option gn_En := bif Nat.blt pc 7 then (bif Nat.blt pc 4 then (bif Nat.blt pc 1 then (bif Nat.beq pc 0 then some (.aload_n 0, 1, 0, 0, 0) else none) else (bif Nat.beq pc 1 then some (.getfield 37, 4, 9, 1, 0) else none)) else (bif Nat.blt pc 5 then (bif Nat.beq pc 4 then some (.iload_n 1, 5, 1, 0, 0) else none) else (bif Nat.blt pc 6 then (bif Nat.beq pc 5 then some (.ishr, 6, 0, 0, 0) else none) else (bif Nat.beq pc 6 then some (.iconst 1, 7, 0, 0, 1) else none)))) else (bif Nat.blt pc 12 then (bif Nat.blt pc 8 then (bif Nat.beq pc 7 then some (.iand, 8, 0, 0, 0) else none) else (bif Nat.blt pc 11 then (bif Nat.beq pc 8 then some (.ifCond .eq 7, 11, 15, 0, 0) else none) else (bif Nat.beq pc 11 then some (.iconst 1, 12, 0, 0, 1) else none))) else (bif Nat.blt pc 15 then (bif Nat.beq pc 12 then some (.goto 4, 15, 16, 0, 0) else none) else (bif Nat.blt pc 16 then (bif Nat.beq pc 15 then some (.iconst 0, 16, 0, 0, 0) else none) else (bif Nat.beq pc 16 then some (.ireturn, 17, 0, 0, 0) else none))))
/-- X9_joyWithNoneAhead -/
noncomputable def gn_c77 (pc : Nat) : Option gn_En := bif Nat.blt pc 38 then (bif Nat.blt pc 19 then (bif Nat.blt pc 9 then (bif Nat.blt pc 2 then (bif Nat.blt pc 1 then (bif Nat.beq pc 0 then some (.aload_n 0, 1, 0, 0, 0) else none) else (bif Nat.beq pc 1 then some (.iload_n 1, 2, 1, 0, 0) else none)) else (bif Nat.blt pc 3 then (bif Nat.beq pc 2 then some (.iload_n 3, 3, 3, 0, 0) else none) else (bif Nat.blt pc 6 then (bif Nat.beq pc 3 then some (.invokevirtual 51, 6, 69, 2, 0) else none) else (bif Nat.beq pc 6 then some (.ifCond .eq 11, 9, 17, 0, 0) else none)))) else (bif Nat.blt pc 14 then (bif Nat.blt pc 10 then (bif Nat.beq pc 9 then some (.aload_n 0, 10, 0, 0, 0) else none) else (bif Nat.blt pc 11 then (bif Nat.beq pc 10 then some (.iload_n 2, 11, 2, 0, 0) else none) else (bif Nat.beq pc 11 then some (.invokevirtual 55, 14, 68, 1, 0) else none))) else (bif Nat.blt pc 17 then (bif Nat.beq pc 14 then some (.ifCond .ne 5, 17, 19, 0, 0) else none) else (bif Nat.blt pc 18 then (bif Nat.beq pc 17 then some (.iconst (-1), 18, 0, 0, (-1)) else none) else (bif Nat.beq pc 18 then some (.ireturn, 19, 0, 0, 0) else none))))) else (bif Nat.blt pc 27 then (bif Nat.blt pc 23 then (bif Nat.blt pc 20 then (bif Nat.beq pc 19 then some (.iload_n 1, 20, 1, 0, 0) else none) else (bif Nat.blt pc 22 then (bif Nat.beq pc 20 then some (.bipush 6, 22, 0, 0, 6) else none) else (bif Nat.beq pc 22 then some (.imul, 23, 0, 0, 0) else none))) else (bif Nat.blt pc 24 then (bif Nat.beq pc 23 then some (.iload_n 3, 24, 3, 0, 0) else none) else (bif Nat.blt pc 25 then (bif Nat.beq pc 24 then some (.iadd, 25, 0, 0, 0) else none) else (bif Nat.beq pc 25 then some (.istore 4, 27, 4, 0, 0) else none)))) else (bif Nat.blt pc 32 then (bif Nat.blt pc 28 then (bif Nat.beq pc 27 then some (.aload_n 0, 28, 0, 0, 0) else none) else (bif Nat.blt pc 29 then (bif Nat.beq pc 28 then some (.aload_n 0, 29, 0, 0, 0) else none) else (bif Nat.beq pc 29 then some (.getfield 18, 32, 9, 6, 0) else none))) else (bif Nat.blt pc 34 then (bif Nat.beq pc 32 then some (.iload 4, 34, 4, 0, 0) else none) else (bif Nat.blt pc 35 then (bif Nat.beq pc 34 then some (.iaload, 35, 0, 0, 0) else none) else (bif Nat.beq pc 35 then some (.invokevirtual 58, 38, 76, 1, 0) else none)))))) else (bif Nat.blt pc 58 then (bif Nat.blt pc 46 then (bif Nat.blt pc 41 then (bif Nat.blt pc 40 then (bif Nat.beq pc 38 then some (.istore 5, 40, 5, 0, 0) else none) else (bif Nat.beq pc 40 then some (.aload_n 0, 41, 0, 0, 0) else none)) else (bif Nat.blt pc 44 then (bif Nat.beq pc 41 then some (.getfield 27, 44, 9, 9, 0) else none) else (bif Nat.blt pc 45 then (bif Nat.beq pc 44 then some (.iload_n 2, 45, 2, 0, 0) else none) else (bif Nat.beq pc 45 then some (.iaload, 46, 0, 0, 0) else none)))) else (bif Nat.blt pc 52 then (bif Nat.blt pc 47 then (bif Nat.beq pc 46 then some (.aload_n 0, 47, 0, 0, 0) else none) else (bif Nat.blt pc 50 then (bif Nat.beq pc 47 then some (.getfield 21, 50, 9, 7, 0) else none) else (bif Nat.beq pc 50 then some (.iload 4, 52, 4, 0, 0) else none))) else (bif Nat.blt pc 53 then (bif Nat.beq pc 52 then some (.iaload, 53, 0, 0, 0) else none) else (bif Nat.blt pc 55 then (bif Nat.beq pc 53 then some (.iload 5, 55, 5, 0, 0) else none) else (bif Nat.beq pc 55 then some (.invokestatic 61, 58, 78, 3, 0) else none))))) else (bif Nat.blt pc 71 then (bif Nat.blt pc 65 then (bif Nat.blt pc 60 then (bif Nat.beq pc 58 then some (.istore 6, 60, 6, 0, 0) else none) else (bif Nat.blt pc 62 then (bif Nat.beq pc 60 then some (.iload 5, 62, 5, 0, 0) else none) else (bif Nat.beq pc 62 then some (.ifCond .eq 15, 65, 77, 0, 0) else none))) else (bif Nat.blt pc 67 then (bif Nat.beq pc 65 then some (.iload 6, 67, 6, 0, 0) else none) else (bif Nat.blt pc 68 then (bif Nat.beq pc 67 then some (.aload_n 0, 68, 0, 0, 0) else none) else (bif Nat.beq pc 68 then some (.getfield 9, 71, 9, 4, 0) else none)))) else (bif Nat.blt pc 74 then (bif Nat.blt pc 72 then (bif Nat.beq pc 71 then some (.iload_n 1, 72, 1, 0, 0) else none) else (bif Nat.blt pc 73 then (bif Nat.beq pc 72 then some (.iaload, 73, 0, 0, 0) else none) else (bif Nat.beq pc 73 then some (.iadd, 74, 0, 0, 0) else none))) else (bif Nat.blt pc 77 then (bif Nat.beq pc 74 then some (.goto 5, 77, 79, 0, 0) else none) else (bif Nat.blt pc 79 then (bif Nat.beq pc 77 then some (.iload 6, 79, 6, 0, 0) else none) else (bif Nat.beq pc 79 then some (.ireturn, 80, 0, 0, 0) else none))))))
/-- X9_joyByKind -/
noncomputable def gn_c78 (pc : Nat) : Option gn_En := bif Nat.blt pc 40 then (bif Nat.blt pc 32 then (bif Nat.blt pc 29 then (bif Nat.blt pc 1 then (bif Nat.beq pc 0 then some (.iload_n 0, 1, 0, 0, 0) else none) else (bif Nat.blt pc 28 then (bif Nat.beq pc 1 then some (.tableswitch 51 0 2 #[27, 29, 33], 28, 0, 0, 0) else none) else (bif Nat.beq pc 28 then some (.iload_n 1, 29, 1, 0, 0) else none))) else (bif Nat.blt pc 30 then (bif Nat.beq pc 29 then some (.ireturn, 30, 0, 0, 0) else none) else (bif Nat.blt pc 31 then (bif Nat.beq pc 30 then some (.iload_n 1, 31, 1, 0, 0) else none) else (bif Nat.beq pc 31 then some (.iconst 2, 32, 0, 0, 2) else none)))) else (bif Nat.blt pc 35 then (bif Nat.blt pc 33 then (bif Nat.beq pc 32 then some (.idiv, 33, 0, 0, 0) else none) else (bif Nat.blt pc 34 then (bif Nat.beq pc 33 then some (.ireturn, 34, 0, 0, 0) else none) else (bif Nat.beq pc 34 then some (.iload_n 2, 35, 2, 0, 0) else none))) else (bif Nat.blt pc 38 then (bif Nat.beq pc 35 then some (.ifCond .eq 13, 38, 48, 0, 0) else none) else (bif Nat.blt pc 39 then (bif Nat.beq pc 38 then some (.iconst 0, 39, 0, 0, 0) else none) else (bif Nat.beq pc 39 then some (.iload_n 1, 40, 1, 0, 0) else none))))) else (bif Nat.blt pc 50 then (bif Nat.blt pc 45 then (bif Nat.blt pc 41 then (bif Nat.beq pc 40 then some (.iconst 3, 41, 0, 0, 3) else none) else (bif Nat.blt pc 42 then (bif Nat.beq pc 41 then some (.isub, 42, 0, 0, 0) else none) else (bif Nat.beq pc 42 then some (.invokestatic 65, 45, 0, 0, 2) else none))) else (bif Nat.blt pc 48 then (bif Nat.beq pc 45 then some (.goto 6, 48, 51, 0, 0) else none) else (bif Nat.blt pc 49 then (bif Nat.beq pc 48 then some (.iload_n 1, 49, 1, 0, 0) else none) else (bif Nat.beq pc 49 then some (.iconst 5, 50, 0, 0, 5) else none)))) else (bif Nat.blt pc 54 then (bif Nat.blt pc 51 then (bif Nat.beq pc 50 then some (.iadd, 51, 0, 0, 0) else none) else (bif Nat.blt pc 52 then (bif Nat.beq pc 51 then some (.ireturn, 52, 0, 0, 0) else none) else (bif Nat.beq pc 52 then some (.bipush 9, 54, 0, 0, 9) else none))) else (bif Nat.blt pc 55 then (bif Nat.beq pc 54 then some (.iload_n 1, 55, 1, 0, 0) else none) else (bif Nat.blt pc 56 then (bif Nat.beq pc 55 then some (.isub, 56, 0, 0, 0) else none) else (bif Nat.beq pc 56 then some (.ireturn, 57, 0, 0, 0) else none)))))
/-- X9_joyOf -/
noncomputable def gn_c79 (pc : Nat) : Option gn_En := bif Nat.blt pc 11 then (bif Nat.blt pc 3 then (bif Nat.blt pc 1 then (bif Nat.beq pc 0 then some (.aload_n 0, 1, 0, 0, 0) else none) else (bif Nat.blt pc 2 then (bif Nat.beq pc 1 then some (.iload_n 1, 2, 1, 0, 0) else none) else (bif Nat.beq pc 2 then some (.iload_n 2, 3, 2, 0, 0) else none))) else (bif Nat.blt pc 7 then (bif Nat.blt pc 4 then (bif Nat.beq pc 3 then some (.iload_n 3, 4, 3, 0, 0) else none) else (bif Nat.beq pc 4 then some (.invokevirtual 71, 7, 77, 3, 0) else none)) else (bif Nat.blt pc 9 then (bif Nat.beq pc 7 then some (.istore 4, 9, 4, 0, 0) else none) else (bif Nat.beq pc 9 then some (.iload 4, 11, 4, 0, 0) else none)))) else (bif Nat.blt pc 19 then (bif Nat.blt pc 15 then (bif Nat.blt pc 12 then (bif Nat.beq pc 11 then some (.iconst (-1), 12, 0, 0, (-1)) else none) else (bif Nat.beq pc 12 then some (.if_icmp .ne 7, 15, 19, 0, 0) else none)) else (bif Nat.blt pc 16 then (bif Nat.beq pc 15 then some (.iconst (-1), 16, 0, 0, (-1)) else none) else (bif Nat.beq pc 16 then some (.goto 7, 19, 23, 0, 0) else none))) else (bif Nat.blt pc 22 then (bif Nat.blt pc 21 then (bif Nat.beq pc 19 then some (.iload 4, 21, 4, 0, 0) else none) else (bif Nat.beq pc 21 then some (.iload_n 3, 22, 3, 0, 0) else none)) else (bif Nat.blt pc 23 then (bif Nat.beq pc 22 then some (.iadd, 23, 0, 0, 0) else none) else (bif Nat.beq pc 23 then some (.ireturn, 24, 0, 0, 0) else none))))
/-- X9_mostJoyFrom -/
noncomputable def gn_c80 (pc : Nat) : Option gn_En := bif Nat.blt pc 19 then (bif Nat.blt pc 8 then (bif Nat.blt pc 3 then (bif Nat.blt pc 1 then (bif Nat.beq pc 0 then some (.iconst (-1), 1, 0, 0, (-1)) else none) else (bif Nat.beq pc 1 then some (.istore 4, 3, 4, 0, 0) else none)) else (bif Nat.blt pc 4 then (bif Nat.beq pc 3 then some (.iconst 0, 4, 0, 0, 0) else none) else (bif Nat.blt pc 5 then (bif Nat.beq pc 4 then some (.iload_n 1, 5, 1, 0, 0) else none) else (bif Nat.beq pc 5 then some (.invokestatic 65, 8, 0, 0, 2) else none)))) else (bif Nat.blt pc 12 then (bif Nat.blt pc 10 then (bif Nat.beq pc 8 then some (.istore 5, 10, 5, 0, 0) else none) else (bif Nat.beq pc 10 then some (.iload 5, 12, 5, 0, 0) else none)) else (bif Nat.blt pc 14 then (bif Nat.beq pc 12 then some (.bipush 6, 14, 0, 0, 6) else none) else (bif Nat.blt pc 17 then (bif Nat.beq pc 14 then some (.if_icmp .ge 24, 17, 38, 0, 0) else none) else (bif Nat.beq pc 17 then some (.iload 4, 19, 4, 0, 0) else none))))) else (bif Nat.blt pc 27 then (bif Nat.blt pc 21 then (bif Nat.blt pc 20 then (bif Nat.beq pc 19 then some (.aload_n 0, 20, 0, 0, 0) else none) else (bif Nat.beq pc 20 then some (.iload_n 2, 21, 2, 0, 0) else none)) else (bif Nat.blt pc 22 then (bif Nat.beq pc 21 then some (.iload_n 3, 22, 3, 0, 0) else none) else (bif Nat.blt pc 24 then (bif Nat.beq pc 22 then some (.iload 5, 24, 5, 0, 0) else none) else (bif Nat.beq pc 24 then some (.invokevirtual 75, 27, 79, 3, 0) else none)))) else (bif Nat.blt pc 35 then (bif Nat.blt pc 30 then (bif Nat.beq pc 27 then some (.invokestatic 65, 30, 0, 0, 2) else none) else (bif Nat.blt pc 32 then (bif Nat.beq pc 30 then some (.istore 4, 32, 4, 0, 0) else none) else (bif Nat.beq pc 32 then some (.iinc 5 1, 35, 5, 0, 1) else none))) else (bif Nat.blt pc 38 then (bif Nat.beq pc 35 then some (.goto (-25), 38, 10, 0, 0) else none) else (bif Nat.blt pc 40 then (bif Nat.beq pc 38 then some (.iload 4, 40, 4, 0, 0) else none) else (bif Nat.beq pc 40 then some (.ireturn, 41, 0, 0, 0) else none)))))
/-- X9_wrongAt -/
noncomputable def gn_c81 (pc : Nat) : Option gn_En := bif Nat.blt pc 15 then (bif Nat.blt pc 7 then (bif Nat.blt pc 2 then (bif Nat.blt pc 1 then (bif Nat.beq pc 0 then some (.aload_n 0, 1, 0, 0, 0) else none) else (bif Nat.beq pc 1 then some (.iload_n 1, 2, 1, 0, 0) else none)) else (bif Nat.blt pc 5 then (bif Nat.beq pc 2 then some (.invokevirtual 78, 5, 71, 1, 0) else none) else (bif Nat.blt pc 6 then (bif Nat.beq pc 5 then some (.istore_n 2, 6, 2, 0, 0) else none) else (bif Nat.beq pc 6 then some (.iconst 0, 7, 0, 0, 0) else none)))) else (bif Nat.blt pc 10 then (bif Nat.blt pc 8 then (bif Nat.beq pc 7 then some (.istore_n 3, 8, 3, 0, 0) else none) else (bif Nat.blt pc 9 then (bif Nat.beq pc 8 then some (.iload_n 3, 9, 3, 0, 0) else none) else (bif Nat.beq pc 9 then some (.iload_n 2, 10, 2, 0, 0) else none))) else (bif Nat.blt pc 13 then (bif Nat.beq pc 10 then some (.if_icmp .ge 24, 13, 34, 0, 0) else none) else (bif Nat.blt pc 14 then (bif Nat.beq pc 13 then some (.aload_n 0, 14, 0, 0, 0) else none) else (bif Nat.beq pc 14 then some (.aload_n 0, 15, 0, 0, 0) else none))))) else (bif Nat.blt pc 26 then (bif Nat.blt pc 17 then (bif Nat.blt pc 16 then (bif Nat.beq pc 15 then some (.iload_n 1, 16, 1, 0, 0) else none) else (bif Nat.beq pc 16 then some (.iload_n 3, 17, 3, 0, 0) else none)) else (bif Nat.blt pc 20 then (bif Nat.beq pc 17 then some (.invokevirtual 82, 20, 72, 2, 0) else none) else (bif Nat.blt pc 23 then (bif Nat.beq pc 20 then some (.invokevirtual 58, 23, 76, 1, 0) else none) else (bif Nat.beq pc 23 then some (.ifCond .ne 5, 26, 28, 0, 0) else none)))) else (bif Nat.blt pc 31 then (bif Nat.blt pc 27 then (bif Nat.beq pc 26 then some (.iload_n 3, 27, 3, 0, 0) else none) else (bif Nat.blt pc 28 then (bif Nat.beq pc 27 then some (.ireturn, 28, 0, 0, 0) else none) else (bif Nat.beq pc 28 then some (.iinc 3 1, 31, 3, 0, 1) else none))) else (bif Nat.blt pc 34 then (bif Nat.beq pc 31 then some (.goto (-23), 34, 8, 0, 0) else none) else (bif Nat.blt pc 35 then (bif Nat.beq pc 34 then some (.iconst (-1), 35, 0, 0, (-1)) else none) else (bif Nat.beq pc 35 then some (.ireturn, 36, 0, 0, 0) else none)))))
/-- X9_whoIsRight -/
noncomputable def gn_c82 (pc : Nat) : Option gn_En := bif Nat.blt pc 17 then (bif Nat.blt pc 5 then (bif Nat.blt pc 2 then (bif Nat.blt pc 1 then (bif Nat.beq pc 0 then some (.iconst 0, 1, 0, 0, 0) else none) else (bif Nat.beq pc 1 then some (.istore_n 1, 2, 1, 0, 0) else none)) else (bif Nat.blt pc 3 then (bif Nat.beq pc 2 then some (.iconst 0, 3, 0, 0, 0) else none) else (bif Nat.blt pc 4 then (bif Nat.beq pc 3 then some (.istore_n 2, 4, 2, 0, 0) else none) else (bif Nat.beq pc 4 then some (.iload_n 2, 5, 2, 0, 0) else none)))) else (bif Nat.blt pc 12 then (bif Nat.blt pc 6 then (bif Nat.beq pc 5 then some (.aload_n 0, 6, 0, 0, 0) else none) else (bif Nat.blt pc 9 then (bif Nat.beq pc 6 then some (.getfield 41, 9, 9, 2, 0) else none) else (bif Nat.beq pc 9 then some (.if_icmp .ge 24, 12, 33, 0, 0) else none))) else (bif Nat.blt pc 13 then (bif Nat.beq pc 12 then some (.aload_n 0, 13, 0, 0, 0) else none) else (bif Nat.blt pc 14 then (bif Nat.beq pc 13 then some (.iload_n 2, 14, 2, 0, 0) else none) else (bif Nat.beq pc 14 then some (.invokevirtual 85, 17, 81, 1, 0) else none))))) else (bif Nat.blt pc 25 then (bif Nat.blt pc 22 then (bif Nat.blt pc 18 then (bif Nat.beq pc 17 then some (.iconst (-1), 18, 0, 0, (-1)) else none) else (bif Nat.blt pc 21 then (bif Nat.beq pc 18 then some (.if_icmp .ne 9, 21, 27, 0, 0) else none) else (bif Nat.beq pc 21 then some (.iload_n 1, 22, 1, 0, 0) else none))) else (bif Nat.blt pc 23 then (bif Nat.beq pc 22 then some (.iconst 1, 23, 0, 0, 1) else none) else (bif Nat.blt pc 24 then (bif Nat.beq pc 23 then some (.iload_n 2, 24, 2, 0, 0) else none) else (bif Nat.beq pc 24 then some (.ishl, 25, 0, 0, 0) else none)))) else (bif Nat.blt pc 30 then (bif Nat.blt pc 26 then (bif Nat.beq pc 25 then some (.ior, 26, 0, 0, 0) else none) else (bif Nat.blt pc 27 then (bif Nat.beq pc 26 then some (.istore_n 1, 27, 1, 0, 0) else none) else (bif Nat.beq pc 27 then some (.iinc 2 1, 30, 2, 0, 1) else none))) else (bif Nat.blt pc 33 then (bif Nat.beq pc 30 then some (.goto (-26), 33, 4, 0, 0) else none) else (bif Nat.blt pc 34 then (bif Nat.beq pc 33 then some (.iload_n 1, 34, 1, 0, 0) else none) else (bif Nat.beq pc 34 then some (.ireturn, 35, 0, 0, 0) else none)))))
/-- X9_topicsOf -/
noncomputable def gn_c83 (pc : Nat) : Option gn_En := bif Nat.blt pc 9 then (bif Nat.blt pc 2 then (bif Nat.blt pc 1 then (bif Nat.beq pc 0 then some (.aload_n 0, 1, 0, 0, 0) else none) else (bif Nat.beq pc 1 then some (.iload_n 1, 2, 1, 0, 0) else none)) else (bif Nat.blt pc 5 then (bif Nat.beq pc 2 then some (.invokevirtual 47, 5, 67, 1, 0) else none) else (bif Nat.blt pc 8 then (bif Nat.beq pc 5 then some (.ifCond .eq 12, 8, 17, 0, 0) else none) else (bif Nat.beq pc 8 then some (.aload_n 0, 9, 0, 0, 0) else none)))) else (bif Nat.blt pc 14 then (bif Nat.blt pc 12 then (bif Nat.beq pc 9 then some (.getfield 24, 12, 9, 8, 0) else none) else (bif Nat.blt pc 13 then (bif Nat.beq pc 12 then some (.iload_n 1, 13, 1, 0, 0) else none) else (bif Nat.beq pc 13 then some (.iaload, 14, 0, 0, 0) else none))) else (bif Nat.blt pc 17 then (bif Nat.beq pc 14 then some (.goto 4, 17, 18, 0, 0) else none) else (bif Nat.blt pc 18 then (bif Nat.beq pc 17 then some (.iconst 0, 18, 0, 0, 0) else none) else (bif Nat.beq pc 18 then some (.ireturn, 19, 0, 0, 0) else none))))
/-- X9_claimsTopic -/
noncomputable def gn_c84 (pc : Nat) : Option gn_En := bif Nat.blt pc 8 then (bif Nat.blt pc 5 then (bif Nat.blt pc 1 then (bif Nat.beq pc 0 then some (.aload_n 0, 1, 0, 0, 0) else none) else (bif Nat.blt pc 2 then (bif Nat.beq pc 1 then some (.iload_n 1, 2, 1, 0, 0) else none) else (bif Nat.beq pc 2 then some (.invokevirtual 88, 5, 83, 1, 0) else none))) else (bif Nat.blt pc 6 then (bif Nat.beq pc 5 then some (.iload_n 2, 6, 2, 0, 0) else none) else (bif Nat.blt pc 7 then (bif Nat.beq pc 6 then some (.ishr, 7, 0, 0, 0) else none) else (bif Nat.beq pc 7 then some (.iconst 1, 8, 0, 0, 1) else none)))) else (bif Nat.blt pc 13 then (bif Nat.blt pc 9 then (bif Nat.beq pc 8 then some (.iand, 9, 0, 0, 0) else none) else (bif Nat.blt pc 12 then (bif Nat.beq pc 9 then some (.ifCond .eq 7, 12, 16, 0, 0) else none) else (bif Nat.beq pc 12 then some (.iconst 1, 13, 0, 0, 1) else none))) else (bif Nat.blt pc 16 then (bif Nat.beq pc 13 then some (.goto 4, 16, 17, 0, 0) else none) else (bif Nat.blt pc 17 then (bif Nat.beq pc 16 then some (.iconst 0, 17, 0, 0, 0) else none) else (bif Nat.beq pc 17 then some (.ireturn, 18, 0, 0, 0) else none))))
/-- X9_topicsOfNobody -/
noncomputable def gn_c85 (pc : Nat) : Option gn_En := bif Nat.blt pc 16 then (bif Nat.blt pc 7 then (bif Nat.blt pc 4 then (bif Nat.blt pc 3 then (bif Nat.beq pc 0 then some (.sipush 255, 3, 0, 0, 255) else none) else (bif Nat.beq pc 3 then some (.istore_n 1, 4, 1, 0, 0) else none)) else (bif Nat.blt pc 5 then (bif Nat.beq pc 4 then some (.iconst 0, 5, 0, 0, 0) else none) else (bif Nat.blt pc 6 then (bif Nat.beq pc 5 then some (.istore_n 2, 6, 2, 0, 0) else none) else (bif Nat.beq pc 6 then some (.iload_n 2, 7, 2, 0, 0) else none)))) else (bif Nat.blt pc 11 then (bif Nat.blt pc 8 then (bif Nat.beq pc 7 then some (.aload_n 0, 8, 0, 0, 0) else none) else (bif Nat.beq pc 8 then some (.getfield 41, 11, 9, 2, 0) else none)) else (bif Nat.blt pc 14 then (bif Nat.beq pc 11 then some (.if_icmp .ge 19, 14, 30, 0, 0) else none) else (bif Nat.blt pc 15 then (bif Nat.beq pc 14 then some (.iload_n 1, 15, 1, 0, 0) else none) else (bif Nat.beq pc 15 then some (.aload_n 0, 16, 0, 0, 0) else none))))) else (bif Nat.blt pc 23 then (bif Nat.blt pc 20 then (bif Nat.blt pc 17 then (bif Nat.beq pc 16 then some (.iload_n 2, 17, 2, 0, 0) else none) else (bif Nat.beq pc 17 then some (.invokevirtual 88, 20, 83, 1, 0) else none)) else (bif Nat.blt pc 21 then (bif Nat.beq pc 20 then some (.iconst (-1), 21, 0, 0, (-1)) else none) else (bif Nat.blt pc 22 then (bif Nat.beq pc 21 then some (.ixor, 22, 0, 0, 0) else none) else (bif Nat.beq pc 22 then some (.iand, 23, 0, 0, 0) else none)))) else (bif Nat.blt pc 27 then (bif Nat.blt pc 24 then (bif Nat.beq pc 23 then some (.istore_n 1, 24, 1, 0, 0) else none) else (bif Nat.beq pc 24 then some (.iinc 2 1, 27, 2, 0, 1) else none)) else (bif Nat.blt pc 30 then (bif Nat.beq pc 27 then some (.goto (-21), 30, 6, 0, 0) else none) else (bif Nat.blt pc 31 then (bif Nat.beq pc 30 then some (.iload_n 1, 31, 1, 0, 0) else none) else (bif Nat.beq pc 31 then some (.ireturn, 32, 0, 0, 0) else none)))))
/-- X9_boldestGuest -/
noncomputable def gn_c86 (pc : Nat) : Option gn_En := bif Nat.blt pc 20 then (bif Nat.blt pc 7 then (bif Nat.blt pc 3 then (bif Nat.blt pc 1 then (bif Nat.beq pc 0 then some (.iconst (-1), 1, 0, 0, (-1)) else none) else (bif Nat.blt pc 2 then (bif Nat.beq pc 1 then some (.istore_n 2, 2, 2, 0, 0) else none) else (bif Nat.beq pc 2 then some (.iconst (-1), 3, 0, 0, (-1)) else none))) else (bif Nat.blt pc 4 then (bif Nat.beq pc 3 then some (.istore_n 3, 4, 3, 0, 0) else none) else (bif Nat.blt pc 5 then (bif Nat.beq pc 4 then some (.iconst 0, 5, 0, 0, 0) else none) else (bif Nat.beq pc 5 then some (.istore 4, 7, 4, 0, 0) else none)))) else (bif Nat.blt pc 13 then (bif Nat.blt pc 9 then (bif Nat.beq pc 7 then some (.iload 4, 9, 4, 0, 0) else none) else (bif Nat.blt pc 10 then (bif Nat.beq pc 9 then some (.aload_n 0, 10, 0, 0, 0) else none) else (bif Nat.beq pc 10 then some (.getfield 41, 13, 9, 2, 0) else none))) else (bif Nat.blt pc 17 then (bif Nat.blt pc 16 then (bif Nat.beq pc 13 then some (.if_icmp .ge 30, 16, 43, 0, 0) else none) else (bif Nat.beq pc 16 then some (.aload_n 0, 17, 0, 0, 0) else none)) else (bif Nat.blt pc 19 then (bif Nat.beq pc 17 then some (.iload 4, 19, 4, 0, 0) else none) else (bif Nat.beq pc 19 then some (.iload_n 1, 20, 1, 0, 0) else none))))) else (bif Nat.blt pc 33 then (bif Nat.blt pc 27 then (bif Nat.blt pc 23 then (bif Nat.beq pc 20 then some (.invokevirtual 91, 23, 87, 2, 0) else none) else (bif Nat.blt pc 25 then (bif Nat.beq pc 23 then some (.istore 5, 25, 5, 0, 0) else none) else (bif Nat.beq pc 25 then some (.iload 5, 27, 5, 0, 0) else none))) else (bif Nat.blt pc 28 then (bif Nat.beq pc 27 then some (.iload_n 3, 28, 3, 0, 0) else none) else (bif Nat.blt pc 31 then (bif Nat.beq pc 28 then some (.if_icmp .le 9, 31, 37, 0, 0) else none) else (bif Nat.beq pc 31 then some (.iload 5, 33, 5, 0, 0) else none)))) else (bif Nat.blt pc 37 then (bif Nat.blt pc 34 then (bif Nat.beq pc 33 then some (.istore_n 3, 34, 3, 0, 0) else none) else (bif Nat.blt pc 36 then (bif Nat.beq pc 34 then some (.iload 4, 36, 4, 0, 0) else none) else (bif Nat.beq pc 36 then some (.istore_n 2, 37, 2, 0, 0) else none))) else (bif Nat.blt pc 43 then (bif Nat.blt pc 40 then (bif Nat.beq pc 37 then some (.iinc 4 1, 40, 4, 0, 1) else none) else (bif Nat.beq pc 40 then some (.goto (-33), 43, 7, 0, 0) else none)) else (bif Nat.blt pc 44 then (bif Nat.beq pc 43 then some (.iload_n 2, 44, 2, 0, 0) else none) else (bif Nat.beq pc 44 then some (.ireturn, 45, 0, 0, 0) else none)))))
/-- X9_boldnessOn -/
noncomputable def gn_c87 (pc : Nat) : Option gn_En := bif Nat.blt pc 23 then (bif Nat.blt pc 10 then (bif Nat.blt pc 3 then (bif Nat.blt pc 1 then (bif Nat.beq pc 0 then some (.iconst (-1), 1, 0, 0, (-1)) else none) else (bif Nat.blt pc 2 then (bif Nat.beq pc 1 then some (.istore_n 3, 2, 3, 0, 0) else none) else (bif Nat.beq pc 2 then some (.aload_n 0, 3, 0, 0, 0) else none))) else (bif Nat.blt pc 7 then (bif Nat.blt pc 4 then (bif Nat.beq pc 3 then some (.iload_n 1, 4, 1, 0, 0) else none) else (bif Nat.beq pc 4 then some (.invokevirtual 78, 7, 71, 1, 0) else none)) else (bif Nat.blt pc 9 then (bif Nat.beq pc 7 then some (.istore 4, 9, 4, 0, 0) else none) else (bif Nat.beq pc 9 then some (.iconst 0, 10, 0, 0, 0) else none)))) else (bif Nat.blt pc 16 then (bif Nat.blt pc 12 then (bif Nat.beq pc 10 then some (.istore 5, 12, 5, 0, 0) else none) else (bif Nat.blt pc 14 then (bif Nat.beq pc 12 then some (.iload 5, 14, 5, 0, 0) else none) else (bif Nat.beq pc 14 then some (.iload 4, 16, 4, 0, 0) else none))) else (bif Nat.blt pc 20 then (bif Nat.blt pc 19 then (bif Nat.beq pc 16 then some (.if_icmp .ge 32, 19, 48, 0, 0) else none) else (bif Nat.beq pc 19 then some (.aload_n 0, 20, 0, 0, 0) else none)) else (bif Nat.blt pc 21 then (bif Nat.beq pc 20 then some (.iload_n 1, 21, 1, 0, 0) else none) else (bif Nat.beq pc 21 then some (.iload 5, 23, 5, 0, 0) else none))))) else (bif Nat.blt pc 35 then (bif Nat.blt pc 30 then (bif Nat.blt pc 26 then (bif Nat.beq pc 23 then some (.invokevirtual 82, 26, 72, 2, 0) else none) else (bif Nat.blt pc 27 then (bif Nat.beq pc 26 then some (.iload_n 2, 27, 2, 0, 0) else none) else (bif Nat.beq pc 27 then some (.if_icmp .ne 15, 30, 42, 0, 0) else none))) else (bif Nat.blt pc 32 then (bif Nat.blt pc 31 then (bif Nat.beq pc 30 then some (.iload_n 3, 31, 3, 0, 0) else none) else (bif Nat.beq pc 31 then some (.aload_n 0, 32, 0, 0, 0) else none)) else (bif Nat.blt pc 33 then (bif Nat.beq pc 32 then some (.iload_n 1, 33, 1, 0, 0) else none) else (bif Nat.beq pc 33 then some (.iload 5, 35, 5, 0, 0) else none)))) else (bif Nat.blt pc 42 then (bif Nat.blt pc 38 then (bif Nat.beq pc 35 then some (.invokevirtual 94, 38, 73, 2, 0) else none) else (bif Nat.blt pc 41 then (bif Nat.beq pc 38 then some (.invokestatic 65, 41, 0, 0, 2) else none) else (bif Nat.beq pc 41 then some (.istore_n 3, 42, 3, 0, 0) else none))) else (bif Nat.blt pc 48 then (bif Nat.blt pc 45 then (bif Nat.beq pc 42 then some (.iinc 5 1, 45, 5, 0, 1) else none) else (bif Nat.beq pc 45 then some (.goto (-33), 48, 12, 0, 0) else none)) else (bif Nat.blt pc 49 then (bif Nat.beq pc 48 then some (.iload_n 3, 49, 3, 0, 0) else none) else (bif Nat.beq pc 49 then some (.ireturn, 50, 0, 0, 0) else none)))))
/-- X10_weigh -/
noncomputable def gn_c88 (pc : Nat) : Option gn_En := bif Nat.blt pc 55 then (bif Nat.blt pc 27 then (bif Nat.blt pc 11 then (bif Nat.blt pc 6 then (bif Nat.blt pc 1 then (bif Nat.beq pc 0 then some (.aload_n 0, 1, 0, 0, 0) else none) else (bif Nat.blt pc 3 then (bif Nat.beq pc 1 then some (.iload 4, 3, 4, 0, 0) else none) else (bif Nat.beq pc 3 then some (.putfield 18, 6, 10, 2, 0) else none))) else (bif Nat.blt pc 8 then (bif Nat.blt pc 7 then (bif Nat.beq pc 6 then some (.aload_n 0, 7, 0, 0, 0) else none) else (bif Nat.beq pc 7 then some (.iconst 0, 8, 0, 0, 0) else none)) else (bif Nat.blt pc 10 then (bif Nat.beq pc 8 then some (.bipush 6, 10, 0, 0, 6) else none) else (bif Nat.beq pc 10 then some (.aload_n 1, 11, 1, 0, 0) else none)))) else (bif Nat.blt pc 17 then (bif Nat.blt pc 12 then (bif Nat.beq pc 11 then some (.iload_n 2, 12, 2, 0, 0) else none) else (bif Nat.blt pc 15 then (bif Nat.beq pc 12 then some (.invokevirtual 22, 15, 71, 1, 1) else none) else (bif Nat.beq pc 15 then some (.iload 4, 17, 4, 0, 0) else none))) else (bif Nat.blt pc 21 then (bif Nat.blt pc 18 then (bif Nat.beq pc 17 then some (.isub, 18, 0, 0, 0) else none) else (bif Nat.beq pc 18 then some (.invokestatic 28, 21, 0, 0, 3) else none)) else (bif Nat.blt pc 24 then (bif Nat.beq pc 21 then some (.invokestatic 34, 24, 0, 0, 2) else none) else (bif Nat.beq pc 24 then some (.putfield 37, 27, 10, 3, 0) else none))))) else (bif Nat.blt pc 40 then (bif Nat.blt pc 32 then (bif Nat.blt pc 28 then (bif Nat.beq pc 27 then some (.iconst 0, 28, 0, 0, 0) else none) else (bif Nat.blt pc 30 then (bif Nat.beq pc 28 then some (.istore 5, 30, 5, 0, 0) else none) else (bif Nat.beq pc 30 then some (.iload 5, 32, 5, 0, 0) else none))) else (bif Nat.blt pc 36 then (bif Nat.blt pc 33 then (bif Nat.beq pc 32 then some (.aload_n 0, 33, 0, 0, 0) else none) else (bif Nat.beq pc 33 then some (.getfield 37, 36, 10, 3, 0) else none)) else (bif Nat.blt pc 39 then (bif Nat.beq pc 36 then some (.if_icmp .ge 33, 39, 69, 0, 0) else none) else (bif Nat.beq pc 39 then some (.aload_n 0, 40, 0, 0, 0) else none)))) else (bif Nat.blt pc 49 then (bif Nat.blt pc 45 then (bif Nat.blt pc 43 then (bif Nat.beq pc 40 then some (.getfield 15, 43, 10, 1, 0) else none) else (bif Nat.beq pc 43 then some (.iload 5, 45, 5, 0, 0) else none)) else (bif Nat.blt pc 48 then (bif Nat.beq pc 45 then some (.sipush 1000, 48, 0, 0, 1000) else none) else (bif Nat.beq pc 48 then some (.aload_n 1, 49, 1, 0, 0) else none))) else (bif Nat.blt pc 51 then (bif Nat.blt pc 50 then (bif Nat.beq pc 49 then some (.iload_n 2, 50, 2, 0, 0) else none) else (bif Nat.beq pc 50 then some (.iload_n 3, 51, 3, 0, 0) else none)) else (bif Nat.blt pc 52 then (bif Nat.beq pc 51 then some (.aload_n 0, 52, 0, 0, 0) else none) else (bif Nat.beq pc 52 then some (.getfield 18, 55, 10, 2, 0) else none)))))) else (bif Nat.blt pc 81 then (bif Nat.blt pc 69 then (bif Nat.blt pc 61 then (bif Nat.blt pc 57 then (bif Nat.beq pc 55 then some (.iload 5, 57, 5, 0, 0) else none) else (bif Nat.blt pc 58 then (bif Nat.beq pc 57 then some (.iadd, 58, 0, 0, 0) else none) else (bif Nat.beq pc 58 then some (.invokevirtual 40, 61, 77, 3, 1) else none))) else (bif Nat.blt pc 63 then (bif Nat.blt pc 62 then (bif Nat.beq pc 61 then some (.imul, 62, 0, 0, 0) else none) else (bif Nat.beq pc 62 then some (.iastore, 63, 0, 0, 0) else none)) else (bif Nat.blt pc 66 then (bif Nat.beq pc 63 then some (.iinc 5 1, 66, 5, 0, 1) else none) else (bif Nat.beq pc 66 then some (.goto (-36), 69, 30, 0, 0) else none)))) else (bif Nat.blt pc 75 then (bif Nat.blt pc 73 then (bif Nat.blt pc 70 then (bif Nat.beq pc 69 then some (.aload_n 0, 70, 0, 0, 0) else none) else (bif Nat.beq pc 70 then some (.getfield 9, 73, 10, 0, 0) else none)) else (bif Nat.blt pc 74 then (bif Nat.beq pc 73 then some (.iconst 0, 74, 0, 0, 0) else none) else (bif Nat.beq pc 74 then some (.iconst 0, 75, 0, 0, 0) else none))) else (bif Nat.blt pc 77 then (bif Nat.blt pc 76 then (bif Nat.beq pc 75 then some (.iastore, 76, 0, 0, 0) else none) else (bif Nat.beq pc 76 then some (.iconst 1, 77, 0, 0, 1) else none)) else (bif Nat.blt pc 79 then (bif Nat.beq pc 77 then some (.istore 5, 79, 5, 0, 0) else none) else (bif Nat.beq pc 79 then some (.iload 5, 81, 5, 0, 0) else none))))) else (bif Nat.blt pc 94 then (bif Nat.blt pc 86 then (bif Nat.blt pc 82 then (bif Nat.beq pc 81 then some (.iconst 1, 82, 0, 0, 1) else none) else (bif Nat.blt pc 83 then (bif Nat.beq pc 82 then some (.aload_n 0, 83, 0, 0, 0) else none) else (bif Nat.beq pc 83 then some (.getfield 37, 86, 10, 3, 0) else none))) else (bif Nat.blt pc 90 then (bif Nat.blt pc 87 then (bif Nat.beq pc 86 then some (.ishl, 87, 0, 0, 0) else none) else (bif Nat.beq pc 87 then some (.if_icmp .ge 22, 90, 109, 0, 0) else none)) else (bif Nat.blt pc 91 then (bif Nat.beq pc 90 then some (.aload_n 0, 91, 0, 0, 0) else none) else (bif Nat.beq pc 91 then some (.getfield 9, 94, 10, 0, 0) else none)))) else (bif Nat.blt pc 102 then (bif Nat.blt pc 97 then (bif Nat.blt pc 96 then (bif Nat.beq pc 94 then some (.iload 5, 96, 5, 0, 0) else none) else (bif Nat.beq pc 96 then some (.aload_n 0, 97, 0, 0, 0) else none)) else (bif Nat.blt pc 99 then (bif Nat.beq pc 97 then some (.iload 5, 99, 5, 0, 0) else none) else (bif Nat.beq pc 99 then some (.invokevirtual 44, 102, 89, 1, 0) else none))) else (bif Nat.blt pc 106 then (bif Nat.blt pc 103 then (bif Nat.beq pc 102 then some (.iastore, 103, 0, 0, 0) else none) else (bif Nat.beq pc 103 then some (.iinc 5 1, 106, 5, 0, 1) else none)) else (bif Nat.blt pc 109 then (bif Nat.beq pc 106 then some (.goto (-27), 109, 79, 0, 0) else none) else (bif Nat.beq pc 109 then some (.return_, 110, 0, 0, 0) else none))))))
/-- X10_meanOf -/
noncomputable def gn_c89 (pc : Nat) : Option gn_En := bif Nat.blt pc 34 then (bif Nat.blt pc 17 then (bif Nat.blt pc 5 then (bif Nat.blt pc 2 then (bif Nat.blt pc 1 then (bif Nat.beq pc 0 then some (.iconst 0, 1, 0, 0, 0) else none) else (bif Nat.beq pc 1 then some (.istore_n 2, 2, 2, 0, 0) else none)) else (bif Nat.blt pc 3 then (bif Nat.beq pc 2 then some (.iconst 0, 3, 0, 0, 0) else none) else (bif Nat.blt pc 4 then (bif Nat.beq pc 3 then some (.istore_n 3, 4, 3, 0, 0) else none) else (bif Nat.beq pc 4 then some (.iconst 0, 5, 0, 0, 0) else none)))) else (bif Nat.blt pc 10 then (bif Nat.blt pc 7 then (bif Nat.beq pc 5 then some (.istore 4, 7, 4, 0, 0) else none) else (bif Nat.blt pc 9 then (bif Nat.beq pc 7 then some (.iload 4, 9, 4, 0, 0) else none) else (bif Nat.beq pc 9 then some (.aload_n 0, 10, 0, 0, 0) else none))) else (bif Nat.blt pc 13 then (bif Nat.beq pc 10 then some (.getfield 37, 13, 10, 3, 0) else none) else (bif Nat.blt pc 16 then (bif Nat.beq pc 13 then some (.if_icmp .ge 47, 16, 60, 0, 0) else none) else (bif Nat.beq pc 16 then some (.iload_n 1, 17, 1, 0, 0) else none))))) else (bif Nat.blt pc 25 then (bif Nat.blt pc 20 then (bif Nat.blt pc 19 then (bif Nat.beq pc 17 then some (.iload 4, 19, 4, 0, 0) else none) else (bif Nat.beq pc 19 then some (.ishr, 20, 0, 0, 0) else none)) else (bif Nat.blt pc 21 then (bif Nat.beq pc 20 then some (.iconst 1, 21, 0, 0, 1) else none) else (bif Nat.blt pc 22 then (bif Nat.beq pc 21 then some (.iand, 22, 0, 0, 0) else none) else (bif Nat.beq pc 22 then some (.ifCond .eq 32, 25, 54, 0, 0) else none)))) else (bif Nat.blt pc 30 then (bif Nat.blt pc 26 then (bif Nat.beq pc 25 then some (.iload_n 2, 26, 2, 0, 0) else none) else (bif Nat.blt pc 27 then (bif Nat.beq pc 26 then some (.aload_n 0, 27, 0, 0, 0) else none) else (bif Nat.beq pc 27 then some (.getfield 15, 30, 10, 1, 0) else none))) else (bif Nat.blt pc 32 then (bif Nat.beq pc 30 then some (.iload 4, 32, 4, 0, 0) else none) else (bif Nat.blt pc 33 then (bif Nat.beq pc 32 then some (.iaload, 33, 0, 0, 0) else none) else (bif Nat.beq pc 33 then some (.aload_n 0, 34, 0, 0, 0) else none)))))) else (bif Nat.blt pc 50 then (bif Nat.blt pc 42 then (bif Nat.blt pc 38 then (bif Nat.blt pc 37 then (bif Nat.beq pc 34 then some (.getfield 9, 37, 10, 0, 0) else none) else (bif Nat.beq pc 37 then some (.iload_n 1, 38, 1, 0, 0) else none)) else (bif Nat.blt pc 39 then (bif Nat.beq pc 38 then some (.iconst 1, 39, 0, 0, 1) else none) else (bif Nat.blt pc 41 then (bif Nat.beq pc 39 then some (.iload 4, 41, 4, 0, 0) else none) else (bif Nat.beq pc 41 then some (.ishl, 42, 0, 0, 0) else none)))) else (bif Nat.blt pc 45 then (bif Nat.blt pc 43 then (bif Nat.beq pc 42 then some (.iconst (-1), 43, 0, 0, (-1)) else none) else (bif Nat.blt pc 44 then (bif Nat.beq pc 43 then some (.ixor, 44, 0, 0, 0) else none) else (bif Nat.beq pc 44 then some (.iand, 45, 0, 0, 0) else none))) else (bif Nat.blt pc 46 then (bif Nat.beq pc 45 then some (.iaload, 46, 0, 0, 0) else none) else (bif Nat.blt pc 49 then (bif Nat.beq pc 46 then some (.invokestatic 34, 49, 0, 0, 2) else none) else (bif Nat.beq pc 49 then some (.iadd, 50, 0, 0, 0) else none))))) else (bif Nat.blt pc 64 then (bif Nat.blt pc 57 then (bif Nat.blt pc 51 then (bif Nat.beq pc 50 then some (.istore_n 2, 51, 2, 0, 0) else none) else (bif Nat.blt pc 54 then (bif Nat.beq pc 51 then some (.iinc 3 1, 54, 3, 0, 1) else none) else (bif Nat.beq pc 54 then some (.iinc 4 1, 57, 4, 0, 1) else none))) else (bif Nat.blt pc 60 then (bif Nat.beq pc 57 then some (.goto (-50), 60, 7, 0, 0) else none) else (bif Nat.blt pc 61 then (bif Nat.beq pc 60 then some (.iload_n 3, 61, 3, 0, 0) else none) else (bif Nat.beq pc 61 then some (.ifCond .ne 7, 64, 68, 0, 0) else none)))) else (bif Nat.blt pc 69 then (bif Nat.blt pc 65 then (bif Nat.beq pc 64 then some (.iconst 0, 65, 0, 0, 0) else none) else (bif Nat.blt pc 68 then (bif Nat.beq pc 65 then some (.goto 6, 68, 71, 0, 0) else none) else (bif Nat.beq pc 68 then some (.iload_n 2, 69, 2, 0, 0) else none))) else (bif Nat.blt pc 70 then (bif Nat.beq pc 69 then some (.iload_n 3, 70, 3, 0, 0) else none) else (bif Nat.blt pc 71 then (bif Nat.beq pc 70 then some (.idiv, 71, 0, 0, 0) else none) else (bif Nat.beq pc 71 then some (.ireturn, 72, 0, 0, 0) else none))))))
/-- X10_worthOfAll -/
noncomputable def gn_c90 (pc : Nat) : Option gn_En := bif Nat.blt pc 9 then (bif Nat.blt pc 4 then (bif Nat.blt pc 1 then (bif Nat.beq pc 0 then some (.aload_n 0, 1, 0, 0, 0) else none) else (bif Nat.beq pc 1 then some (.getfield 9, 4, 10, 0, 0) else none)) else (bif Nat.blt pc 5 then (bif Nat.beq pc 4 then some (.iconst 1, 5, 0, 0, 1) else none) else (bif Nat.blt pc 6 then (bif Nat.beq pc 5 then some (.aload_n 0, 6, 0, 0, 0) else none) else (bif Nat.beq pc 6 then some (.getfield 37, 9, 10, 3, 0) else none)))) else (bif Nat.blt pc 11 then (bif Nat.blt pc 10 then (bif Nat.beq pc 9 then some (.ishl, 10, 0, 0, 0) else none) else (bif Nat.beq pc 10 then some (.iconst 1, 11, 0, 0, 1) else none)) else (bif Nat.blt pc 12 then (bif Nat.beq pc 11 then some (.isub, 12, 0, 0, 0) else none) else (bif Nat.blt pc 13 then (bif Nat.beq pc 12 then some (.iaload, 13, 0, 0, 0) else none) else (bif Nat.beq pc 13 then some (.ireturn, 14, 0, 0, 0) else none))))
/-- X10_isWorthIt -/
noncomputable def gn_c91 (pc : Nat) : Option gn_En := bif Nat.blt pc 29 then (bif Nat.blt pc 13 then (bif Nat.blt pc 6 then (bif Nat.blt pc 2 then (bif Nat.blt pc 1 then (bif Nat.beq pc 0 then some (.iload_n 1, 1, 1, 0, 0) else none) else (bif Nat.beq pc 1 then some (.aload_n 0, 2, 0, 0, 0) else none)) else (bif Nat.blt pc 5 then (bif Nat.beq pc 2 then some (.getfield 18, 5, 10, 2, 0) else none) else (bif Nat.beq pc 5 then some (.isub, 6, 0, 0, 0) else none))) else (bif Nat.blt pc 8 then (bif Nat.blt pc 7 then (bif Nat.beq pc 6 then some (.istore_n 2, 7, 2, 0, 0) else none) else (bif Nat.beq pc 7 then some (.iload_n 2, 8, 2, 0, 0) else none)) else (bif Nat.blt pc 11 then (bif Nat.beq pc 8 then some (.ifCond .lt 11, 11, 19, 0, 0) else none) else (bif Nat.blt pc 12 then (bif Nat.beq pc 11 then some (.iload_n 2, 12, 2, 0, 0) else none) else (bif Nat.beq pc 12 then some (.aload_n 0, 13, 0, 0, 0) else none))))) else (bif Nat.blt pc 22 then (bif Nat.blt pc 19 then (bif Nat.blt pc 16 then (bif Nat.beq pc 13 then some (.getfield 37, 16, 10, 3, 0) else none) else (bif Nat.beq pc 16 then some (.if_icmp .lt 5, 19, 21, 0, 0) else none)) else (bif Nat.blt pc 20 then (bif Nat.beq pc 19 then some (.iconst 0, 20, 0, 0, 0) else none) else (bif Nat.blt pc 21 then (bif Nat.beq pc 20 then some (.ireturn, 21, 0, 0, 0) else none) else (bif Nat.beq pc 21 then some (.iconst 1, 22, 0, 0, 1) else none)))) else (bif Nat.blt pc 26 then (bif Nat.blt pc 23 then (bif Nat.beq pc 22 then some (.aload_n 0, 23, 0, 0, 0) else none) else (bif Nat.beq pc 23 then some (.getfield 37, 26, 10, 3, 0) else none)) else (bif Nat.blt pc 27 then (bif Nat.beq pc 26 then some (.ishl, 27, 0, 0, 0) else none) else (bif Nat.blt pc 28 then (bif Nat.beq pc 27 then some (.iconst 1, 28, 0, 0, 1) else none) else (bif Nat.beq pc 28 then some (.isub, 29, 0, 0, 0) else none)))))) else (bif Nat.blt pc 43 then (bif Nat.blt pc 36 then (bif Nat.blt pc 31 then (bif Nat.blt pc 30 then (bif Nat.beq pc 29 then some (.istore_n 3, 30, 3, 0, 0) else none) else (bif Nat.beq pc 30 then some (.aload_n 0, 31, 0, 0, 0) else none)) else (bif Nat.blt pc 34 then (bif Nat.beq pc 31 then some (.getfield 15, 34, 10, 1, 0) else none) else (bif Nat.blt pc 35 then (bif Nat.beq pc 34 then some (.iload_n 2, 35, 2, 0, 0) else none) else (bif Nat.beq pc 35 then some (.iaload, 36, 0, 0, 0) else none)))) else (bif Nat.blt pc 40 then (bif Nat.blt pc 37 then (bif Nat.beq pc 36 then some (.aload_n 0, 37, 0, 0, 0) else none) else (bif Nat.beq pc 37 then some (.getfield 9, 40, 10, 0, 0) else none)) else (bif Nat.blt pc 41 then (bif Nat.beq pc 40 then some (.iload_n 3, 41, 3, 0, 0) else none) else (bif Nat.blt pc 42 then (bif Nat.beq pc 41 then some (.iconst 1, 42, 0, 0, 1) else none) else (bif Nat.beq pc 42 then some (.iload_n 2, 43, 2, 0, 0) else none))))) else (bif Nat.blt pc 48 then (bif Nat.blt pc 45 then (bif Nat.blt pc 44 then (bif Nat.beq pc 43 then some (.ishl, 44, 0, 0, 0) else none) else (bif Nat.beq pc 44 then some (.iconst (-1), 45, 0, 0, (-1)) else none)) else (bif Nat.blt pc 46 then (bif Nat.beq pc 45 then some (.ixor, 46, 0, 0, 0) else none) else (bif Nat.blt pc 47 then (bif Nat.beq pc 46 then some (.iand, 47, 0, 0, 0) else none) else (bif Nat.beq pc 47 then some (.iaload, 48, 0, 0, 0) else none)))) else (bif Nat.blt pc 52 then (bif Nat.blt pc 51 then (bif Nat.beq pc 48 then some (.if_icmp .lt 7, 51, 55, 0, 0) else none) else (bif Nat.beq pc 51 then some (.iconst 1, 52, 0, 0, 1) else none)) else (bif Nat.blt pc 55 then (bif Nat.beq pc 52 then some (.goto 4, 55, 56, 0, 0) else none) else (bif Nat.blt pc 56 then (bif Nat.beq pc 55 then some (.iconst 0, 56, 0, 0, 0) else none) else (bif Nat.beq pc 56 then some (.ireturn, 57, 0, 0, 0) else none))))))
/-- X11_feed -/
noncomputable def gn_c92 (pc : Nat) : Option gn_En := bif Nat.blt pc 18 then (bif Nat.blt pc 8 then (bif Nat.blt pc 4 then (bif Nat.blt pc 1 then (bif Nat.beq pc 0 then some (.iload_n 1, 1, 1, 0, 0) else none) else (bif Nat.beq pc 1 then some (.ifCond .lt 10, 4, 11, 0, 0) else none)) else (bif Nat.blt pc 5 then (bif Nat.beq pc 4 then some (.iload_n 1, 5, 1, 0, 0) else none) else (bif Nat.beq pc 5 then some (.sipush 255, 8, 0, 0, 255) else none))) else (bif Nat.blt pc 13 then (bif Nat.blt pc 11 then (bif Nat.beq pc 8 then some (.if_icmp .le 6, 11, 14, 0, 0) else none) else (bif Nat.beq pc 11 then some (.ldc 92, 13, 0, 0, (-1000000002)) else none)) else (bif Nat.blt pc 14 then (bif Nat.beq pc 13 then some (.ireturn, 14, 0, 0, 0) else none) else (bif Nat.blt pc 15 then (bif Nat.beq pc 14 then some (.aload_n 0, 15, 0, 0, 0) else none) else (bif Nat.beq pc 15 then some (.getfield 10, 18, 11, 0, 0) else none))))) else (bif Nat.blt pc 26 then (bif Nat.blt pc 22 then (bif Nat.blt pc 19 then (bif Nat.beq pc 18 then some (.iload_n 1, 19, 1, 0, 0) else none) else (bif Nat.beq pc 19 then some (.invokevirtual 93, 22, 50, 1, 1) else none)) else (bif Nat.blt pc 25 then (bif Nat.beq pc 22 then some (.ifCond .eq 13, 25, 35, 0, 0) else none) else (bif Nat.beq pc 25 then some (.aload_n 0, 26, 0, 0, 0) else none))) else (bif Nat.blt pc 32 then (bif Nat.blt pc 29 then (bif Nat.beq pc 26 then some (.getfield 10, 29, 11, 0, 0) else none) else (bif Nat.beq pc 29 then some (.getfield 97, 32, 8, 1, 0) else none)) else (bif Nat.blt pc 35 then (bif Nat.beq pc 32 then some (.goto 5, 35, 37, 0, 0) else none) else (bif Nat.blt pc 37 then (bif Nat.beq pc 35 then some (.ldc 101, 37, 0, 0, (-1000000004)) else none) else (bif Nat.beq pc 37 then some (.ireturn, 38, 0, 0, 0) else none)))))
/-- X11_evening -/
noncomputable def gn_c93 (pc : Nat) : Option gn_En := bif Nat.blt pc 51 then (bif Nat.blt pc 30 then (bif Nat.blt pc 12 then (bif Nat.blt pc 5 then (bif Nat.blt pc 1 then (bif Nat.beq pc 0 then some (.aload_n 0, 1, 0, 0, 0) else none) else (bif Nat.blt pc 4 then (bif Nat.beq pc 1 then some (.getfield 10, 4, 11, 0, 0) else none) else (bif Nat.beq pc 4 then some (.aload_n 0, 5, 0, 0, 0) else none))) else (bif Nat.blt pc 8 then (bif Nat.beq pc 5 then some (.getfield 89, 8, 11, 12, 0) else none) else (bif Nat.blt pc 11 then (bif Nat.beq pc 8 then some (.invokevirtual 102, 11, 51, 1, 1) else none) else (bif Nat.beq pc 11 then some (.aload_n 0, 12, 0, 0, 0) else none)))) else (bif Nat.blt pc 21 then (bif Nat.blt pc 15 then (bif Nat.beq pc 12 then some (.getfield 10, 15, 11, 0, 0) else none) else (bif Nat.blt pc 18 then (bif Nat.beq pc 15 then some (.getfield 106, 18, 8, 3, 0) else none) else (bif Nat.beq pc 18 then some (.ifCond .eq 14, 21, 32, 0, 0) else none))) else (bif Nat.blt pc 24 then (bif Nat.blt pc 23 then (bif Nat.beq pc 21 then some (.bipush (-10), 23, 0, 0, (-10)) else none) else (bif Nat.beq pc 23 then some (.aload_n 0, 24, 0, 0, 0) else none)) else (bif Nat.blt pc 27 then (bif Nat.beq pc 24 then some (.getfield 10, 27, 11, 0, 0) else none) else (bif Nat.beq pc 27 then some (.getfield 106, 30, 8, 3, 0) else none))))) else (bif Nat.blt pc 38 then (bif Nat.blt pc 33 then (bif Nat.blt pc 31 then (bif Nat.beq pc 30 then some (.isub, 31, 0, 0, 0) else none) else (bif Nat.blt pc 32 then (bif Nat.beq pc 31 then some (.ireturn, 32, 0, 0, 0) else none) else (bif Nat.beq pc 32 then some (.aload_n 0, 33, 0, 0, 0) else none))) else (bif Nat.blt pc 36 then (bif Nat.beq pc 33 then some (.getfield 89, 36, 11, 12, 0) else none) else (bif Nat.blt pc 37 then (bif Nat.beq pc 36 then some (.astore_n 1, 37, 1, 0, 0) else none) else (bif Nat.beq pc 37 then some (.aload_n 0, 38, 0, 0, 0) else none)))) else (bif Nat.blt pc 45 then (bif Nat.blt pc 39 then (bif Nat.beq pc 38 then some (.aload_n 0, 39, 0, 0, 0) else none) else (bif Nat.blt pc 42 then (bif Nat.beq pc 39 then some (.getfield 85, 42, 11, 11, 0) else none) else (bif Nat.beq pc 42 then some (.putfield 89, 45, 11, 12, 0) else none))) else (bif Nat.blt pc 47 then (bif Nat.blt pc 46 then (bif Nat.beq pc 45 then some (.aload_n 0, 46, 0, 0, 0) else none) else (bif Nat.beq pc 46 then some (.aload_n 1, 47, 1, 0, 0) else none)) else (bif Nat.blt pc 50 then (bif Nat.beq pc 47 then some (.putfield 85, 50, 11, 11, 0) else none) else (bif Nat.beq pc 50 then some (.aload_n 0, 51, 0, 0, 0) else none)))))) else (bif Nat.blt pc 80 then (bif Nat.blt pc 65 then (bif Nat.blt pc 58 then (bif Nat.blt pc 54 then (bif Nat.beq pc 51 then some (.getfield 19, 54, 11, 1, 0) else none) else (bif Nat.blt pc 55 then (bif Nat.beq pc 54 then some (.aload_n 0, 55, 0, 0, 0) else none) else (bif Nat.beq pc 55 then some (.getfield 85, 58, 11, 11, 0) else none))) else (bif Nat.blt pc 61 then (bif Nat.beq pc 58 then some (.invokevirtual 109, 61, 11, 1, 1) else none) else (bif Nat.blt pc 62 then (bif Nat.beq pc 61 then some (.aload_n 0, 62, 0, 0, 0) else none) else (bif Nat.beq pc 62 then some (.getfield 26, 65, 11, 2, 0) else none)))) else (bif Nat.blt pc 72 then (bif Nat.blt pc 68 then (bif Nat.beq pc 65 then some (.invokevirtual 112, 68, 41, 0, 1) else none) else (bif Nat.blt pc 69 then (bif Nat.beq pc 68 then some (.aload_n 0, 69, 0, 0, 0) else none) else (bif Nat.beq pc 69 then some (.getfield 33, 72, 11, 3, 0) else none))) else (bif Nat.blt pc 76 then (bif Nat.blt pc 73 then (bif Nat.beq pc 72 then some (.iconst 0, 73, 0, 0, 0) else none) else (bif Nat.beq pc 73 then some (.putfield 115, 76, 3, 2, 0) else none)) else (bif Nat.blt pc 77 then (bif Nat.beq pc 76 then some (.aload_n 0, 77, 0, 0, 0) else none) else (bif Nat.beq pc 77 then some (.getfield 37, 80, 11, 4, 0) else none))))) else (bif Nat.blt pc 93 then (bif Nat.blt pc 85 then (bif Nat.blt pc 81 then (bif Nat.beq pc 80 then some (.iconst 0, 81, 0, 0, 0) else none) else (bif Nat.blt pc 84 then (bif Nat.beq pc 81 then some (.putfield 115, 84, 3, 2, 0) else none) else (bif Nat.beq pc 84 then some (.aload_n 0, 85, 0, 0, 0) else none))) else (bif Nat.blt pc 89 then (bif Nat.blt pc 88 then (bif Nat.beq pc 85 then some (.getfield 71, 88, 11, 9, 0) else none) else (bif Nat.beq pc 88 then some (.iconst 0, 89, 0, 0, 0) else none)) else (bif Nat.blt pc 92 then (bif Nat.beq pc 89 then some (.putfield 119, 92, 2, 2, 0) else none) else (bif Nat.beq pc 92 then some (.aload_n 0, 93, 0, 0, 0) else none)))) else (bif Nat.blt pc 100 then (bif Nat.blt pc 96 then (bif Nat.beq pc 93 then some (.getfield 78, 96, 11, 10, 0) else none) else (bif Nat.blt pc 97 then (bif Nat.beq pc 96 then some (.iconst 0, 97, 0, 0, 0) else none) else (bif Nat.beq pc 97 then some (.putfield 122, 100, 0, 2, 0) else none))) else (bif Nat.blt pc 104 then (bif Nat.blt pc 101 then (bif Nat.beq pc 100 then some (.aload_n 0, 101, 0, 0, 0) else none) else (bif Nat.beq pc 101 then some (.getfield 85, 104, 11, 11, 0) else none)) else (bif Nat.blt pc 107 then (bif Nat.beq pc 104 then some (.getfield 123, 107, 9, 2, 0) else none) else (bif Nat.beq pc 107 then some (.ireturn, 108, 0, 0, 0) else none))))))
/-- X11_fault -/
noncomputable def gn_c94 (pc : Nat) : Option gn_En := bif Nat.blt pc 4 then (bif Nat.blt pc 1 then (bif Nat.beq pc 0 then some (.aload_n 0, 1, 0, 0, 0) else none) else (bif Nat.beq pc 1 then some (.getfield 10, 4, 11, 0, 0) else none)) else (bif Nat.blt pc 7 then (bif Nat.beq pc 4 then some (.getfield 126, 7, 8, 4, 0) else none) else (bif Nat.beq pc 7 then some (.ireturn, 8, 0, 0, 0) else none))
/-- X11_told -/
noncomputable def gn_c95 (pc : Nat) : Option gn_En := bif Nat.blt pc 179 then (bif Nat.blt pc 132 then (bif Nat.blt pc 109 then (bif Nat.blt pc 99 then (bif Nat.blt pc 92 then (bif Nat.blt pc 1 then (bif Nat.beq pc 0 then some (.iload_n 1, 1, 1, 0, 0) else none) else (bif Nat.beq pc 1 then some (.tableswitch 263 0 18 #[91, 107, 115, 123, 131, 139, 147, 155, 163, 171, 179, 191, 199, 207, 215, 227, 239, 247, 255], 92, 0, 0, 0) else none)) else (bif Nat.blt pc 93 then (bif Nat.beq pc 92 then some (.aload_n 0, 93, 0, 0, 0) else none) else (bif Nat.blt pc 96 then (bif Nat.beq pc 93 then some (.getfield 85, 96, 11, 11, 0) else none) else (bif Nat.beq pc 96 then some (.getfield 129, 99, 9, 0, 0) else none)))) else (bif Nat.blt pc 106 then (bif Nat.blt pc 102 then (bif Nat.beq pc 99 then some (.ifCond .eq 7, 102, 106, 0, 0) else none) else (bif Nat.blt pc 103 then (bif Nat.beq pc 102 then some (.iconst 1, 103, 0, 0, 1) else none) else (bif Nat.beq pc 103 then some (.goto 4, 106, 107, 0, 0) else none))) else (bif Nat.blt pc 107 then (bif Nat.beq pc 106 then some (.iconst 0, 107, 0, 0, 0) else none) else (bif Nat.blt pc 108 then (bif Nat.beq pc 107 then some (.ireturn, 108, 0, 0, 0) else none) else (bif Nat.beq pc 108 then some (.aload_n 0, 109, 0, 0, 0) else none))))) else (bif Nat.blt pc 120 then (bif Nat.blt pc 115 then (bif Nat.blt pc 112 then (bif Nat.beq pc 109 then some (.getfield 85, 112, 11, 11, 0) else none) else (bif Nat.beq pc 112 then some (.getfield 123, 115, 9, 2, 0) else none)) else (bif Nat.blt pc 116 then (bif Nat.beq pc 115 then some (.ireturn, 116, 0, 0, 0) else none) else (bif Nat.blt pc 117 then (bif Nat.beq pc 116 then some (.aload_n 0, 117, 0, 0, 0) else none) else (bif Nat.beq pc 117 then some (.getfield 85, 120, 11, 11, 0) else none)))) else (bif Nat.blt pc 125 then (bif Nat.blt pc 123 then (bif Nat.beq pc 120 then some (.getfield 132, 123, 9, 3, 0) else none) else (bif Nat.blt pc 124 then (bif Nat.beq pc 123 then some (.ireturn, 124, 0, 0, 0) else none) else (bif Nat.beq pc 124 then some (.aload_n 0, 125, 0, 0, 0) else none))) else (bif Nat.blt pc 128 then (bif Nat.beq pc 125 then some (.getfield 85, 128, 11, 11, 0) else none) else (bif Nat.blt pc 131 then (bif Nat.beq pc 128 then some (.getfield 135, 131, 9, 1, 0) else none) else (bif Nat.beq pc 131 then some (.ireturn, 132, 0, 0, 0) else none)))))) else (bif Nat.blt pc 155 then (bif Nat.blt pc 141 then (bif Nat.blt pc 136 then (bif Nat.blt pc 133 then (bif Nat.beq pc 132 then some (.aload_n 0, 133, 0, 0, 0) else none) else (bif Nat.beq pc 133 then some (.getfield 10, 136, 11, 0, 0) else none)) else (bif Nat.blt pc 139 then (bif Nat.beq pc 136 then some (.getfield 97, 139, 8, 1, 0) else none) else (bif Nat.blt pc 140 then (bif Nat.beq pc 139 then some (.ireturn, 140, 0, 0, 0) else none) else (bif Nat.beq pc 140 then some (.aload_n 0, 141, 0, 0, 0) else none)))) else (bif Nat.blt pc 148 then (bif Nat.blt pc 144 then (bif Nat.beq pc 141 then some (.getfield 19, 144, 11, 1, 0) else none) else (bif Nat.blt pc 147 then (bif Nat.beq pc 144 then some (.invokevirtual 138, 147, 23, 0, 1) else none) else (bif Nat.beq pc 147 then some (.ireturn, 148, 0, 0, 0) else none))) else (bif Nat.blt pc 149 then (bif Nat.beq pc 148 then some (.aload_n 0, 149, 0, 0, 0) else none) else (bif Nat.blt pc 152 then (bif Nat.beq pc 149 then some (.getfield 19, 152, 11, 1, 0) else none) else (bif Nat.beq pc 152 then some (.invokevirtual 142, 155, 24, 0, 1) else none))))) else (bif Nat.blt pc 165 then (bif Nat.blt pc 160 then (bif Nat.blt pc 156 then (bif Nat.beq pc 155 then some (.ireturn, 156, 0, 0, 0) else none) else (bif Nat.blt pc 157 then (bif Nat.beq pc 156 then some (.aload_n 0, 157, 0, 0, 0) else none) else (bif Nat.beq pc 157 then some (.getfield 19, 160, 11, 1, 0) else none))) else (bif Nat.blt pc 163 then (bif Nat.beq pc 160 then some (.invokevirtual 145, 163, 21, 0, 1) else none) else (bif Nat.blt pc 164 then (bif Nat.beq pc 163 then some (.ireturn, 164, 0, 0, 0) else none) else (bif Nat.beq pc 164 then some (.aload_n 0, 165, 0, 0, 0) else none)))) else (bif Nat.blt pc 172 then (bif Nat.blt pc 168 then (bif Nat.beq pc 165 then some (.getfield 19, 168, 11, 1, 0) else none) else (bif Nat.blt pc 171 then (bif Nat.beq pc 168 then some (.invokevirtual 148, 171, 22, 0, 1) else none) else (bif Nat.beq pc 171 then some (.ireturn, 172, 0, 0, 0) else none))) else (bif Nat.blt pc 173 then (bif Nat.beq pc 172 then some (.aload_n 0, 173, 0, 0, 0) else none) else (bif Nat.blt pc 176 then (bif Nat.beq pc 173 then some (.getfield 19, 176, 11, 1, 0) else none) else (bif Nat.beq pc 176 then some (.invokevirtual 151, 179, 19, 0, 1) else none))))))) else (bif Nat.blt pc 221 then (bif Nat.blt pc 200 then (bif Nat.blt pc 188 then (bif Nat.blt pc 181 then (bif Nat.blt pc 180 then (bif Nat.beq pc 179 then some (.ireturn, 180, 0, 0, 0) else none) else (bif Nat.beq pc 180 then some (.aload_n 0, 181, 0, 0, 0) else none)) else (bif Nat.blt pc 184 then (bif Nat.beq pc 181 then some (.getfield 19, 184, 11, 1, 0) else none) else (bif Nat.blt pc 185 then (bif Nat.beq pc 184 then some (.aload_n 0, 185, 0, 0, 0) else none) else (bif Nat.beq pc 185 then some (.getfield 85, 188, 11, 11, 0) else none)))) else (bif Nat.blt pc 193 then (bif Nat.blt pc 191 then (bif Nat.beq pc 188 then some (.invokevirtual 154, 191, 37, 1, 1) else none) else (bif Nat.blt pc 192 then (bif Nat.beq pc 191 then some (.ireturn, 192, 0, 0, 0) else none) else (bif Nat.beq pc 192 then some (.aload_n 0, 193, 0, 0, 0) else none))) else (bif Nat.blt pc 196 then (bif Nat.beq pc 193 then some (.getfield 19, 196, 11, 1, 0) else none) else (bif Nat.blt pc 199 then (bif Nat.beq pc 196 then some (.invokevirtual 158, 199, 20, 0, 1) else none) else (bif Nat.beq pc 199 then some (.ireturn, 200, 0, 0, 0) else none))))) else (bif Nat.blt pc 209 then (bif Nat.blt pc 204 then (bif Nat.blt pc 201 then (bif Nat.beq pc 200 then some (.aload_n 0, 201, 0, 0, 0) else none) else (bif Nat.beq pc 201 then some (.getfield 85, 204, 11, 11, 0) else none)) else (bif Nat.blt pc 207 then (bif Nat.beq pc 204 then some (.invokevirtual 161, 207, 82, 0, 1) else none) else (bif Nat.blt pc 208 then (bif Nat.beq pc 207 then some (.ireturn, 208, 0, 0, 0) else none) else (bif Nat.beq pc 208 then some (.aload_n 0, 209, 0, 0, 0) else none)))) else (bif Nat.blt pc 216 then (bif Nat.blt pc 212 then (bif Nat.beq pc 209 then some (.getfield 85, 212, 11, 11, 0) else none) else (bif Nat.blt pc 215 then (bif Nat.beq pc 212 then some (.invokevirtual 164, 215, 85, 0, 1) else none) else (bif Nat.beq pc 215 then some (.ireturn, 216, 0, 0, 0) else none))) else (bif Nat.blt pc 217 then (bif Nat.beq pc 216 then some (.aload_n 0, 217, 0, 0, 0) else none) else (bif Nat.blt pc 220 then (bif Nat.beq pc 217 then some (.getfield 19, 220, 11, 1, 0) else none) else (bif Nat.beq pc 220 then some (.aload_n 0, 221, 0, 0, 0) else none)))))) else (bif Nat.blt pc 244 then (bif Nat.blt pc 232 then (bif Nat.blt pc 227 then (bif Nat.blt pc 224 then (bif Nat.beq pc 221 then some (.getfield 85, 224, 11, 11, 0) else none) else (bif Nat.beq pc 224 then some (.invokevirtual 167, 227, 39, 1, 1) else none)) else (bif Nat.blt pc 228 then (bif Nat.beq pc 227 then some (.ireturn, 228, 0, 0, 0) else none) else (bif Nat.blt pc 229 then (bif Nat.beq pc 228 then some (.aload_n 0, 229, 0, 0, 0) else none) else (bif Nat.beq pc 229 then some (.getfield 19, 232, 11, 1, 0) else none)))) else (bif Nat.blt pc 239 then (bif Nat.blt pc 233 then (bif Nat.beq pc 232 then some (.aload_n 0, 233, 0, 0, 0) else none) else (bif Nat.blt pc 236 then (bif Nat.beq pc 233 then some (.getfield 85, 236, 11, 11, 0) else none) else (bif Nat.beq pc 236 then some (.invokevirtual 170, 239, 40, 1, 1) else none))) else (bif Nat.blt pc 240 then (bif Nat.beq pc 239 then some (.ireturn, 240, 0, 0, 0) else none) else (bif Nat.blt pc 241 then (bif Nat.beq pc 240 then some (.aload_n 0, 241, 0, 0, 0) else none) else (bif Nat.beq pc 241 then some (.getfield 71, 244, 11, 9, 0) else none))))) else (bif Nat.blt pc 256 then (bif Nat.blt pc 249 then (bif Nat.blt pc 247 then (bif Nat.beq pc 244 then some (.getfield 119, 247, 2, 2, 0) else none) else (bif Nat.blt pc 248 then (bif Nat.beq pc 247 then some (.ireturn, 248, 0, 0, 0) else none) else (bif Nat.beq pc 248 then some (.aload_n 0, 249, 0, 0, 0) else none))) else (bif Nat.blt pc 252 then (bif Nat.beq pc 249 then some (.getfield 78, 252, 11, 10, 0) else none) else (bif Nat.blt pc 255 then (bif Nat.beq pc 252 then some (.getfield 122, 255, 0, 2, 0) else none) else (bif Nat.beq pc 255 then some (.ireturn, 256, 0, 0, 0) else none)))) else (bif Nat.blt pc 263 then (bif Nat.blt pc 257 then (bif Nat.beq pc 256 then some (.aload_n 0, 257, 0, 0, 0) else none) else (bif Nat.blt pc 260 then (bif Nat.beq pc 257 then some (.getfield 26, 260, 11, 2, 0) else none) else (bif Nat.beq pc 260 then some (.getfield 173, 263, 5, 2, 0) else none))) else (bif Nat.blt pc 264 then (bif Nat.beq pc 263 then some (.ireturn, 264, 0, 0, 0) else none) else (bif Nat.blt pc 266 then (bif Nat.beq pc 264 then some (.ldc 92, 266, 0, 0, (-1000000002)) else none) else (bif Nat.beq pc 266 then some (.ireturn, 267, 0, 0, 0) else none)))))))
/-- X11_guest -/
noncomputable def gn_c96 (pc : Nat) : Option gn_En := bif Nat.blt pc 71 then (bif Nat.blt pc 53 then (bif Nat.blt pc 11 then (bif Nat.blt pc 4 then (bif Nat.blt pc 1 then (bif Nat.beq pc 0 then some (.aload_n 0, 1, 0, 0, 0) else none) else (bif Nat.beq pc 1 then some (.getfield 85, 4, 11, 11, 0) else none)) else (bif Nat.blt pc 5 then (bif Nat.beq pc 4 then some (.iload_n 1, 5, 1, 0, 0) else none) else (bif Nat.blt pc 8 then (bif Nat.beq pc 5 then some (.invokevirtual 174, 8, 67, 1, 1) else none) else (bif Nat.beq pc 8 then some (.ifCond .ne 6, 11, 14, 0, 0) else none)))) else (bif Nat.blt pc 14 then (bif Nat.blt pc 13 then (bif Nat.beq pc 11 then some (.ldc 177, 13, 0, 0, (-1000000001)) else none) else (bif Nat.beq pc 13 then some (.ireturn, 14, 0, 0, 0) else none)) else (bif Nat.blt pc 15 then (bif Nat.beq pc 14 then some (.iload_n 2, 15, 2, 0, 0) else none) else (bif Nat.blt pc 52 then (bif Nat.beq pc 15 then some (.tableswitch 91 0 5 #[37, 46, 55, 64, 73, 82], 52, 0, 0, 0) else none) else (bif Nat.beq pc 52 then some (.aload_n 0, 53, 0, 0, 0) else none))))) else (bif Nat.blt pc 62 then (bif Nat.blt pc 57 then (bif Nat.blt pc 56 then (bif Nat.beq pc 53 then some (.getfield 85, 56, 11, 11, 0) else none) else (bif Nat.beq pc 56 then some (.iload_n 1, 57, 1, 0, 0) else none)) else (bif Nat.blt pc 60 then (bif Nat.beq pc 57 then some (.invokevirtual 178, 60, 70, 1, 1) else none) else (bif Nat.blt pc 61 then (bif Nat.beq pc 60 then some (.ireturn, 61, 0, 0, 0) else none) else (bif Nat.beq pc 61 then some (.aload_n 0, 62, 0, 0, 0) else none)))) else (bif Nat.blt pc 66 then (bif Nat.blt pc 65 then (bif Nat.beq pc 62 then some (.getfield 85, 65, 11, 11, 0) else none) else (bif Nat.beq pc 65 then some (.iload_n 1, 66, 1, 0, 0) else none)) else (bif Nat.blt pc 69 then (bif Nat.beq pc 66 then some (.invokevirtual 182, 69, 71, 1, 1) else none) else (bif Nat.blt pc 70 then (bif Nat.beq pc 69 then some (.ireturn, 70, 0, 0, 0) else none) else (bif Nat.beq pc 70 then some (.aload_n 0, 71, 0, 0, 0) else none)))))) else (bif Nat.blt pc 89 then (bif Nat.blt pc 80 then (bif Nat.blt pc 75 then (bif Nat.blt pc 74 then (bif Nat.beq pc 71 then some (.getfield 19, 74, 11, 1, 0) else none) else (bif Nat.beq pc 74 then some (.iload_n 1, 75, 1, 0, 0) else none)) else (bif Nat.blt pc 78 then (bif Nat.beq pc 75 then some (.invokevirtual 185, 78, 15, 1, 1) else none) else (bif Nat.blt pc 79 then (bif Nat.beq pc 78 then some (.ireturn, 79, 0, 0, 0) else none) else (bif Nat.beq pc 79 then some (.aload_n 0, 80, 0, 0, 0) else none)))) else (bif Nat.blt pc 84 then (bif Nat.blt pc 83 then (bif Nat.beq pc 80 then some (.getfield 19, 83, 11, 1, 0) else none) else (bif Nat.beq pc 83 then some (.iload_n 1, 84, 1, 0, 0) else none)) else (bif Nat.blt pc 87 then (bif Nat.beq pc 84 then some (.invokevirtual 188, 87, 16, 1, 1) else none) else (bif Nat.blt pc 88 then (bif Nat.beq pc 87 then some (.ireturn, 88, 0, 0, 0) else none) else (bif Nat.beq pc 88 then some (.aload_n 0, 89, 0, 0, 0) else none))))) else (bif Nat.blt pc 98 then (bif Nat.blt pc 93 then (bif Nat.blt pc 92 then (bif Nat.beq pc 89 then some (.getfield 19, 92, 11, 1, 0) else none) else (bif Nat.beq pc 92 then some (.iload_n 1, 93, 1, 0, 0) else none)) else (bif Nat.blt pc 96 then (bif Nat.beq pc 93 then some (.invokevirtual 191, 96, 17, 1, 1) else none) else (bif Nat.blt pc 97 then (bif Nat.beq pc 96 then some (.ireturn, 97, 0, 0, 0) else none) else (bif Nat.beq pc 97 then some (.aload_n 0, 98, 0, 0, 0) else none)))) else (bif Nat.blt pc 105 then (bif Nat.blt pc 101 then (bif Nat.beq pc 98 then some (.getfield 85, 101, 11, 11, 0) else none) else (bif Nat.blt pc 102 then (bif Nat.beq pc 101 then some (.iload_n 1, 102, 1, 0, 0) else none) else (bif Nat.beq pc 102 then some (.invokevirtual 194, 105, 81, 1, 1) else none))) else (bif Nat.blt pc 106 then (bif Nat.beq pc 105 then some (.ireturn, 106, 0, 0, 0) else none) else (bif Nat.blt pc 108 then (bif Nat.beq pc 106 then some (.ldc 92, 108, 0, 0, (-1000000002)) else none) else (bif Nat.beq pc 108 then some (.ireturn, 109, 0, 0, 0) else none))))))
/-- X11_claim -/
noncomputable def gn_c97 (pc : Nat) : Option gn_En := bif Nat.blt pc 30 then (bif Nat.blt pc 14 then (bif Nat.blt pc 5 then (bif Nat.blt pc 1 then (bif Nat.beq pc 0 then some (.aload_n 0, 1, 0, 0, 0) else none) else (bif Nat.blt pc 4 then (bif Nat.beq pc 1 then some (.getfield 85, 4, 11, 11, 0) else none) else (bif Nat.beq pc 4 then some (.iload_n 1, 5, 1, 0, 0) else none))) else (bif Nat.blt pc 11 then (bif Nat.blt pc 8 then (bif Nat.beq pc 5 then some (.invokevirtual 174, 8, 67, 1, 1) else none) else (bif Nat.beq pc 8 then some (.ifCond .ne 6, 11, 14, 0, 0) else none)) else (bif Nat.blt pc 13 then (bif Nat.beq pc 11 then some (.ldc 177, 13, 0, 0, (-1000000001)) else none) else (bif Nat.beq pc 13 then some (.ireturn, 14, 0, 0, 0) else none)))) else (bif Nat.blt pc 22 then (bif Nat.blt pc 18 then (bif Nat.blt pc 15 then (bif Nat.beq pc 14 then some (.iload_n 2, 15, 2, 0, 0) else none) else (bif Nat.beq pc 15 then some (.invokestatic 197, 18, 124, 1, 0) else none)) else (bif Nat.blt pc 21 then (bif Nat.beq pc 18 then some (.ifCond .ne 12, 21, 30, 0, 0) else none) else (bif Nat.beq pc 21 then some (.iload_n 3, 22, 3, 0, 0) else none))) else (bif Nat.blt pc 26 then (bif Nat.blt pc 25 then (bif Nat.beq pc 22 then some (.ifCond .lt 8, 25, 30, 0, 0) else none) else (bif Nat.beq pc 25 then some (.iload_n 3, 26, 3, 0, 0) else none)) else (bif Nat.blt pc 27 then (bif Nat.beq pc 26 then some (.iconst 1, 27, 0, 0, 1) else none) else (bif Nat.beq pc 27 then some (.if_icmp .le 6, 30, 33, 0, 0) else none))))) else (bif Nat.blt pc 43 then (bif Nat.blt pc 37 then (bif Nat.blt pc 33 then (bif Nat.blt pc 32 then (bif Nat.beq pc 30 then some (.ldc 92, 32, 0, 0, (-1000000002)) else none) else (bif Nat.beq pc 32 then some (.ireturn, 33, 0, 0, 0) else none)) else (bif Nat.blt pc 34 then (bif Nat.beq pc 33 then some (.iload_n 3, 34, 3, 0, 0) else none) else (bif Nat.beq pc 34 then some (.ifCond .ne 15, 37, 49, 0, 0) else none))) else (bif Nat.blt pc 41 then (bif Nat.blt pc 38 then (bif Nat.beq pc 37 then some (.aload_n 0, 38, 0, 0, 0) else none) else (bif Nat.beq pc 38 then some (.getfield 85, 41, 11, 11, 0) else none)) else (bif Nat.blt pc 42 then (bif Nat.beq pc 41 then some (.iload_n 1, 42, 1, 0, 0) else none) else (bif Nat.beq pc 42 then some (.iload_n 2, 43, 2, 0, 0) else none)))) else (bif Nat.blt pc 53 then (bif Nat.blt pc 49 then (bif Nat.blt pc 46 then (bif Nat.beq pc 43 then some (.invokevirtual 200, 46, 72, 2, 1) else none) else (bif Nat.beq pc 46 then some (.goto 12, 49, 58, 0, 0) else none)) else (bif Nat.blt pc 50 then (bif Nat.beq pc 49 then some (.aload_n 0, 50, 0, 0, 0) else none) else (bif Nat.beq pc 50 then some (.getfield 85, 53, 11, 11, 0) else none))) else (bif Nat.blt pc 55 then (bif Nat.blt pc 54 then (bif Nat.beq pc 53 then some (.iload_n 1, 54, 1, 0, 0) else none) else (bif Nat.beq pc 54 then some (.iload_n 2, 55, 2, 0, 0) else none)) else (bif Nat.blt pc 58 then (bif Nat.beq pc 55 then some (.invokevirtual 204, 58, 73, 2, 1) else none) else (bif Nat.beq pc 58 then some (.ireturn, 59, 0, 0, 0) else none)))))
/-- X11_host -/
noncomputable def gn_c98 (pc : Nat) : Option gn_En := bif Nat.blt pc 48 then (bif Nat.blt pc 13 then (bif Nat.blt pc 5 then (bif Nat.blt pc 1 then (bif Nat.beq pc 0 then some (.aload_n 0, 1, 0, 0, 0) else none) else (bif Nat.blt pc 4 then (bif Nat.beq pc 1 then some (.getfield 85, 4, 11, 11, 0) else none) else (bif Nat.beq pc 4 then some (.iload_n 1, 5, 1, 0, 0) else none))) else (bif Nat.blt pc 8 then (bif Nat.beq pc 5 then some (.invokevirtual 207, 8, 68, 1, 1) else none) else (bif Nat.blt pc 11 then (bif Nat.beq pc 8 then some (.ifCond .ne 6, 11, 14, 0, 0) else none) else (bif Nat.beq pc 11 then some (.ldc 177, 13, 0, 0, (-1000000001)) else none)))) else (bif Nat.blt pc 40 then (bif Nat.blt pc 14 then (bif Nat.beq pc 13 then some (.ireturn, 14, 0, 0, 0) else none) else (bif Nat.blt pc 15 then (bif Nat.beq pc 14 then some (.iload_n 2, 15, 2, 0, 0) else none) else (bif Nat.beq pc 15 then some (.tableswitch 52 0 2 #[25, 34, 43], 40, 0, 0, 0) else none))) else (bif Nat.blt pc 44 then (bif Nat.blt pc 41 then (bif Nat.beq pc 40 then some (.aload_n 0, 41, 0, 0, 0) else none) else (bif Nat.beq pc 41 then some (.getfield 85, 44, 11, 11, 0) else none)) else (bif Nat.blt pc 45 then (bif Nat.beq pc 44 then some (.iload_n 1, 45, 1, 0, 0) else none) else (bif Nat.beq pc 45 then some (.invokevirtual 210, 48, 74, 1, 1) else none))))) else (bif Nat.blt pc 58 then (bif Nat.blt pc 53 then (bif Nat.blt pc 49 then (bif Nat.beq pc 48 then some (.ireturn, 49, 0, 0, 0) else none) else (bif Nat.blt pc 50 then (bif Nat.beq pc 49 then some (.aload_n 0, 50, 0, 0, 0) else none) else (bif Nat.beq pc 50 then some (.getfield 85, 53, 11, 11, 0) else none))) else (bif Nat.blt pc 54 then (bif Nat.beq pc 53 then some (.iload_n 1, 54, 1, 0, 0) else none) else (bif Nat.blt pc 57 then (bif Nat.beq pc 54 then some (.invokevirtual 213, 57, 75, 1, 1) else none) else (bif Nat.beq pc 57 then some (.ireturn, 58, 0, 0, 0) else none)))) else (bif Nat.blt pc 63 then (bif Nat.blt pc 59 then (bif Nat.beq pc 58 then some (.aload_n 0, 59, 0, 0, 0) else none) else (bif Nat.blt pc 62 then (bif Nat.beq pc 59 then some (.getfield 19, 62, 11, 1, 0) else none) else (bif Nat.beq pc 62 then some (.iload_n 1, 63, 1, 0, 0) else none))) else (bif Nat.blt pc 67 then (bif Nat.blt pc 66 then (bif Nat.beq pc 63 then some (.invokevirtual 216, 66, 18, 1, 1) else none) else (bif Nat.beq pc 66 then some (.ireturn, 67, 0, 0, 0) else none)) else (bif Nat.blt pc 69 then (bif Nat.beq pc 67 then some (.ldc 92, 69, 0, 0, (-1000000002)) else none) else (bif Nat.beq pc 69 then some (.ireturn, 70, 0, 0, 0) else none)))))
/-- X11_say -/
noncomputable def gn_c99 (pc : Nat) : Option gn_En := bif Nat.blt pc 26 then (bif Nat.blt pc 13 then (bif Nat.blt pc 5 then (bif Nat.blt pc 1 then (bif Nat.beq pc 0 then some (.aload_n 0, 1, 0, 0, 0) else none) else (bif Nat.blt pc 4 then (bif Nat.beq pc 1 then some (.getfield 85, 4, 11, 11, 0) else none) else (bif Nat.beq pc 4 then some (.iload_n 1, 5, 1, 0, 0) else none))) else (bif Nat.blt pc 8 then (bif Nat.beq pc 5 then some (.invokevirtual 174, 8, 67, 1, 1) else none) else (bif Nat.blt pc 11 then (bif Nat.beq pc 8 then some (.ifCond .ne 6, 11, 14, 0, 0) else none) else (bif Nat.beq pc 11 then some (.ldc 177, 13, 0, 0, (-1000000001)) else none)))) else (bif Nat.blt pc 18 then (bif Nat.blt pc 14 then (bif Nat.beq pc 13 then some (.ireturn, 14, 0, 0, 0) else none) else (bif Nat.blt pc 15 then (bif Nat.beq pc 14 then some (.aload_n 0, 15, 0, 0, 0) else none) else (bif Nat.beq pc 15 then some (.getfield 19, 18, 11, 1, 0) else none))) else (bif Nat.blt pc 22 then (bif Nat.blt pc 19 then (bif Nat.beq pc 18 then some (.aload_n 0, 19, 0, 0, 0) else none) else (bif Nat.beq pc 19 then some (.getfield 85, 22, 11, 11, 0) else none)) else (bif Nat.blt pc 23 then (bif Nat.beq pc 22 then some (.iload_n 1, 23, 1, 0, 0) else none) else (bif Nat.beq pc 23 then some (.invokevirtual 219, 26, 27, 2, 1) else none))))) else (bif Nat.blt pc 37 then (bif Nat.blt pc 32 then (bif Nat.blt pc 29 then (bif Nat.beq pc 26 then some (.ifCond .ne 6, 29, 32, 0, 0) else none) else (bif Nat.blt pc 31 then (bif Nat.beq pc 29 then some (.ldc 223, 31, 0, 0, (-1000000003)) else none) else (bif Nat.beq pc 31 then some (.ireturn, 32, 0, 0, 0) else none))) else (bif Nat.blt pc 33 then (bif Nat.beq pc 32 then some (.aload_n 0, 33, 0, 0, 0) else none) else (bif Nat.blt pc 36 then (bif Nat.beq pc 33 then some (.getfield 26, 36, 11, 2, 0) else none) else (bif Nat.beq pc 36 then some (.aload_n 0, 37, 0, 0, 0) else none)))) else (bif Nat.blt pc 44 then (bif Nat.blt pc 40 then (bif Nat.beq pc 37 then some (.getfield 19, 40, 11, 1, 0) else none) else (bif Nat.blt pc 43 then (bif Nat.beq pc 40 then some (.invokevirtual 224, 43, 42, 1, 1) else none) else (bif Nat.beq pc 43 then some (.aload_n 0, 44, 0, 0, 0) else none))) else (bif Nat.blt pc 48 then (bif Nat.blt pc 47 then (bif Nat.beq pc 44 then some (.getfield 19, 47, 11, 1, 0) else none) else (bif Nat.beq pc 47 then some (.iload_n 1, 48, 1, 0, 0) else none)) else (bif Nat.blt pc 51 then (bif Nat.beq pc 48 then some (.invokevirtual 228, 51, 28, 1, 1) else none) else (bif Nat.beq pc 51 then some (.ireturn, 52, 0, 0, 0) else none)))))
/-- X11_no -/
noncomputable def gn_c100 (pc : Nat) : Option gn_En := bif Nat.blt pc 31 then (bif Nat.blt pc 16 then (bif Nat.blt pc 8 then (bif Nat.blt pc 4 then (bif Nat.blt pc 1 then (bif Nat.beq pc 0 then some (.aload_n 0, 1, 0, 0, 0) else none) else (bif Nat.beq pc 1 then some (.getfield 85, 4, 11, 11, 0) else none)) else (bif Nat.blt pc 5 then (bif Nat.beq pc 4 then some (.iload_n 1, 5, 1, 0, 0) else none) else (bif Nat.beq pc 5 then some (.invokevirtual 207, 8, 68, 1, 1) else none))) else (bif Nat.blt pc 12 then (bif Nat.blt pc 11 then (bif Nat.beq pc 8 then some (.ifCond .eq 14, 11, 22, 0, 0) else none) else (bif Nat.beq pc 11 then some (.aload_n 0, 12, 0, 0, 0) else none)) else (bif Nat.blt pc 15 then (bif Nat.beq pc 12 then some (.getfield 85, 15, 11, 11, 0) else none) else (bif Nat.beq pc 15 then some (.iload_n 2, 16, 2, 0, 0) else none)))) else (bif Nat.blt pc 25 then (bif Nat.blt pc 22 then (bif Nat.blt pc 19 then (bif Nat.beq pc 16 then some (.invokevirtual 174, 19, 67, 1, 1) else none) else (bif Nat.beq pc 19 then some (.ifCond .ne 6, 22, 25, 0, 0) else none)) else (bif Nat.blt pc 24 then (bif Nat.beq pc 22 then some (.ldc 177, 24, 0, 0, (-1000000001)) else none) else (bif Nat.beq pc 24 then some (.ireturn, 25, 0, 0, 0) else none))) else (bif Nat.blt pc 29 then (bif Nat.blt pc 26 then (bif Nat.beq pc 25 then some (.aload_n 0, 26, 0, 0, 0) else none) else (bif Nat.beq pc 26 then some (.getfield 19, 29, 11, 1, 0) else none)) else (bif Nat.blt pc 30 then (bif Nat.beq pc 29 then some (.iload_n 1, 30, 1, 0, 0) else none) else (bif Nat.beq pc 30 then some (.iload_n 2, 31, 2, 0, 0) else none))))) else (bif Nat.blt pc 48 then (bif Nat.blt pc 40 then (bif Nat.blt pc 37 then (bif Nat.blt pc 34 then (bif Nat.beq pc 31 then some (.invokevirtual 231, 34, 30, 2, 1) else none) else (bif Nat.beq pc 34 then some (.ifCond .ne 6, 37, 40, 0, 0) else none)) else (bif Nat.blt pc 39 then (bif Nat.beq pc 37 then some (.ldc 223, 39, 0, 0, (-1000000003)) else none) else (bif Nat.beq pc 39 then some (.ireturn, 40, 0, 0, 0) else none))) else (bif Nat.blt pc 44 then (bif Nat.blt pc 41 then (bif Nat.beq pc 40 then some (.aload_n 0, 41, 0, 0, 0) else none) else (bif Nat.beq pc 41 then some (.getfield 26, 44, 11, 2, 0) else none)) else (bif Nat.blt pc 45 then (bif Nat.beq pc 44 then some (.aload_n 0, 45, 0, 0, 0) else none) else (bif Nat.beq pc 45 then some (.getfield 19, 48, 11, 1, 0) else none)))) else (bif Nat.blt pc 56 then (bif Nat.blt pc 52 then (bif Nat.blt pc 51 then (bif Nat.beq pc 48 then some (.invokevirtual 224, 51, 42, 1, 1) else none) else (bif Nat.beq pc 51 then some (.aload_n 0, 52, 0, 0, 0) else none)) else (bif Nat.blt pc 55 then (bif Nat.beq pc 52 then some (.getfield 19, 55, 11, 1, 0) else none) else (bif Nat.beq pc 55 then some (.aload_n 0, 56, 0, 0, 0) else none))) else (bif Nat.blt pc 60 then (bif Nat.blt pc 59 then (bif Nat.beq pc 56 then some (.getfield 85, 59, 11, 11, 0) else none) else (bif Nat.beq pc 59 then some (.iload_n 1, 60, 1, 0, 0) else none)) else (bif Nat.blt pc 61 then (bif Nat.beq pc 60 then some (.iload_n 2, 61, 2, 0, 0) else none) else (bif Nat.blt pc 64 then (bif Nat.beq pc 61 then some (.invokevirtual 235, 64, 31, 3, 1) else none) else (bif Nat.beq pc 64 then some (.ireturn, 65, 0, 0, 0) else none))))))
/-- X11_share -/
noncomputable def gn_c101 (pc : Nat) : Option gn_En := bif Nat.blt pc 31 then (bif Nat.blt pc 13 then (bif Nat.blt pc 6 then (bif Nat.blt pc 2 then (bif Nat.blt pc 1 then (bif Nat.beq pc 0 then some (.aload_n 0, 1, 0, 0, 0) else none) else (bif Nat.beq pc 1 then some (.iload_n 1, 2, 1, 0, 0) else none)) else (bif Nat.blt pc 3 then (bif Nat.beq pc 2 then some (.iload_n 2, 3, 2, 0, 0) else none) else (bif Nat.beq pc 3 then some (.invokevirtual 239, 6, 127, 2, 0) else none))) else (bif Nat.blt pc 11 then (bif Nat.blt pc 9 then (bif Nat.beq pc 6 then some (.ifCond .eq 6, 9, 12, 0, 0) else none) else (bif Nat.beq pc 9 then some (.ldc 177, 11, 0, 0, (-1000000001)) else none)) else (bif Nat.blt pc 12 then (bif Nat.beq pc 11 then some (.ireturn, 12, 0, 0, 0) else none) else (bif Nat.beq pc 12 then some (.aload_n 0, 13, 0, 0, 0) else none)))) else (bif Nat.blt pc 23 then (bif Nat.blt pc 17 then (bif Nat.blt pc 16 then (bif Nat.beq pc 13 then some (.getfield 19, 16, 11, 1, 0) else none) else (bif Nat.beq pc 16 then some (.iload_n 1, 17, 1, 0, 0) else none)) else (bif Nat.blt pc 20 then (bif Nat.beq pc 17 then some (.invokevirtual 242, 20, 29, 1, 1) else none) else (bif Nat.beq pc 20 then some (.ifCond .eq 15, 23, 35, 0, 0) else none))) else (bif Nat.blt pc 27 then (bif Nat.blt pc 24 then (bif Nat.beq pc 23 then some (.aload_n 0, 24, 0, 0, 0) else none) else (bif Nat.beq pc 24 then some (.getfield 19, 27, 11, 1, 0) else none)) else (bif Nat.blt pc 28 then (bif Nat.beq pc 27 then some (.iload_n 2, 28, 2, 0, 0) else none) else (bif Nat.beq pc 28 then some (.invokevirtual 188, 31, 16, 1, 1) else none))))) else (bif Nat.blt pc 46 then (bif Nat.blt pc 38 then (bif Nat.blt pc 35 then (bif Nat.blt pc 32 then (bif Nat.beq pc 31 then some (.iconst (-1), 32, 0, 0, (-1)) else none) else (bif Nat.beq pc 32 then some (.if_icmp .ne 6, 35, 38, 0, 0) else none)) else (bif Nat.blt pc 37 then (bif Nat.beq pc 35 then some (.ldc 223, 37, 0, 0, (-1000000003)) else none) else (bif Nat.beq pc 37 then some (.ireturn, 38, 0, 0, 0) else none))) else (bif Nat.blt pc 42 then (bif Nat.blt pc 39 then (bif Nat.beq pc 38 then some (.aload_n 0, 39, 0, 0, 0) else none) else (bif Nat.beq pc 39 then some (.getfield 26, 42, 11, 2, 0) else none)) else (bif Nat.blt pc 43 then (bif Nat.beq pc 42 then some (.aload_n 0, 43, 0, 0, 0) else none) else (bif Nat.beq pc 43 then some (.getfield 19, 46, 11, 1, 0) else none)))) else (bif Nat.blt pc 54 then (bif Nat.blt pc 50 then (bif Nat.blt pc 49 then (bif Nat.beq pc 46 then some (.invokevirtual 224, 49, 42, 1, 1) else none) else (bif Nat.beq pc 49 then some (.aload_n 0, 50, 0, 0, 0) else none)) else (bif Nat.blt pc 53 then (bif Nat.beq pc 50 then some (.getfield 19, 53, 11, 1, 0) else none) else (bif Nat.beq pc 53 then some (.aload_n 0, 54, 0, 0, 0) else none))) else (bif Nat.blt pc 58 then (bif Nat.blt pc 57 then (bif Nat.beq pc 54 then some (.getfield 85, 57, 11, 11, 0) else none) else (bif Nat.beq pc 57 then some (.iload_n 1, 58, 1, 0, 0) else none)) else (bif Nat.blt pc 59 then (bif Nat.beq pc 58 then some (.iload_n 2, 59, 2, 0, 0) else none) else (bif Nat.blt pc 62 then (bif Nat.beq pc 59 then some (.invokevirtual 245, 62, 32, 3, 1) else none) else (bif Nat.beq pc 62 then some (.ireturn, 63, 0, 0, 0) else none))))))
/-- X11_bed -/
noncomputable def gn_c102 (pc : Nat) : Option gn_En := bif Nat.blt pc 28 then (bif Nat.blt pc 14 then (bif Nat.blt pc 5 then (bif Nat.blt pc 1 then (bif Nat.beq pc 0 then some (.aload_n 0, 1, 0, 0, 0) else none) else (bif Nat.blt pc 4 then (bif Nat.beq pc 1 then some (.getfield 85, 4, 11, 11, 0) else none) else (bif Nat.beq pc 4 then some (.iload_n 1, 5, 1, 0, 0) else none))) else (bif Nat.blt pc 11 then (bif Nat.blt pc 8 then (bif Nat.beq pc 5 then some (.invokevirtual 174, 8, 67, 1, 1) else none) else (bif Nat.beq pc 8 then some (.ifCond .ne 6, 11, 14, 0, 0) else none)) else (bif Nat.blt pc 13 then (bif Nat.beq pc 11 then some (.ldc 177, 13, 0, 0, (-1000000001)) else none) else (bif Nat.beq pc 13 then some (.ireturn, 14, 0, 0, 0) else none)))) else (bif Nat.blt pc 19 then (bif Nat.blt pc 15 then (bif Nat.beq pc 14 then some (.aload_n 0, 15, 0, 0, 0) else none) else (bif Nat.blt pc 18 then (bif Nat.beq pc 15 then some (.getfield 19, 18, 11, 1, 0) else none) else (bif Nat.beq pc 18 then some (.iload_n 1, 19, 1, 0, 0) else none))) else (bif Nat.blt pc 25 then (bif Nat.blt pc 22 then (bif Nat.beq pc 19 then some (.invokevirtual 248, 22, 25, 1, 1) else none) else (bif Nat.beq pc 22 then some (.ifCond .ne 6, 25, 28, 0, 0) else none)) else (bif Nat.blt pc 27 then (bif Nat.beq pc 25 then some (.ldc 223, 27, 0, 0, (-1000000003)) else none) else (bif Nat.beq pc 27 then some (.ireturn, 28, 0, 0, 0) else none))))) else (bif Nat.blt pc 43 then (bif Nat.blt pc 33 then (bif Nat.blt pc 29 then (bif Nat.beq pc 28 then some (.aload_n 0, 29, 0, 0, 0) else none) else (bif Nat.blt pc 32 then (bif Nat.beq pc 29 then some (.getfield 26, 32, 11, 2, 0) else none) else (bif Nat.beq pc 32 then some (.aload_n 0, 33, 0, 0, 0) else none))) else (bif Nat.blt pc 39 then (bif Nat.blt pc 36 then (bif Nat.beq pc 33 then some (.getfield 19, 36, 11, 1, 0) else none) else (bif Nat.beq pc 36 then some (.invokevirtual 224, 39, 42, 1, 1) else none)) else (bif Nat.blt pc 40 then (bif Nat.beq pc 39 then some (.aload_n 0, 40, 0, 0, 0) else none) else (bif Nat.beq pc 40 then some (.getfield 19, 43, 11, 1, 0) else none)))) else (bif Nat.blt pc 50 then (bif Nat.blt pc 44 then (bif Nat.beq pc 43 then some (.iload_n 1, 44, 1, 0, 0) else none) else (bif Nat.blt pc 47 then (bif Nat.beq pc 44 then some (.invokevirtual 251, 47, 35, 1, 1) else none) else (bif Nat.beq pc 47 then some (.ifCond .eq 7, 50, 54, 0, 0) else none))) else (bif Nat.blt pc 54 then (bif Nat.blt pc 51 then (bif Nat.beq pc 50 then some (.iconst 1, 51, 0, 0, 1) else none) else (bif Nat.beq pc 51 then some (.goto 4, 54, 55, 0, 0) else none)) else (bif Nat.blt pc 55 then (bif Nat.beq pc 54 then some (.iconst 0, 55, 0, 0, 0) else none) else (bif Nat.beq pc 55 then some (.ireturn, 56, 0, 0, 0) else none)))))
/-- X11_hour -/
noncomputable def gn_c103 (pc : Nat) : Option gn_En := bif Nat.blt pc 20 then (bif Nat.blt pc 11 then (bif Nat.blt pc 5 then (bif Nat.blt pc 1 then (bif Nat.beq pc 0 then some (.aload_n 0, 1, 0, 0, 0) else none) else (bif Nat.blt pc 2 then (bif Nat.beq pc 1 then some (.iload_n 1, 2, 1, 0, 0) else none) else (bif Nat.beq pc 2 then some (.invokevirtual 254, 5, 129, 1, 0) else none))) else (bif Nat.blt pc 7 then (bif Nat.blt pc 6 then (bif Nat.beq pc 5 then some (.istore_n 2, 6, 2, 0, 0) else none) else (bif Nat.beq pc 6 then some (.iload_n 2, 7, 2, 0, 0) else none)) else (bif Nat.blt pc 10 then (bif Nat.beq pc 7 then some (.ifCond .eq 5, 10, 12, 0, 0) else none) else (bif Nat.beq pc 10 then some (.iload_n 2, 11, 2, 0, 0) else none)))) else (bif Nat.blt pc 14 then (bif Nat.blt pc 12 then (bif Nat.beq pc 11 then some (.ireturn, 12, 0, 0, 0) else none) else (bif Nat.blt pc 13 then (bif Nat.beq pc 12 then some (.iconst 0, 13, 0, 0, 0) else none) else (bif Nat.beq pc 13 then some (.istore_n 3, 14, 3, 0, 0) else none))) else (bif Nat.blt pc 16 then (bif Nat.blt pc 15 then (bif Nat.beq pc 14 then some (.iload_n 3, 15, 3, 0, 0) else none) else (bif Nat.beq pc 15 then some (.iload_n 1, 16, 1, 0, 0) else none)) else (bif Nat.blt pc 19 then (bif Nat.beq pc 16 then some (.if_icmp .ge 31, 19, 47, 0, 0) else none) else (bif Nat.beq pc 19 then some (.aload_n 0, 20, 0, 0, 0) else none))))) else (bif Nat.blt pc 35 then (bif Nat.blt pc 27 then (bif Nat.blt pc 23 then (bif Nat.beq pc 20 then some (.getfield 26, 23, 11, 2, 0) else none) else (bif Nat.blt pc 24 then (bif Nat.beq pc 23 then some (.aload_n 0, 24, 0, 0, 0) else none) else (bif Nat.beq pc 24 then some (.getfield 19, 27, 11, 1, 0) else none))) else (bif Nat.blt pc 31 then (bif Nat.blt pc 30 then (bif Nat.beq pc 27 then some (.invokevirtual 224, 30, 42, 1, 1) else none) else (bif Nat.beq pc 30 then some (.aload_n 0, 31, 0, 0, 0) else none)) else (bif Nat.blt pc 34 then (bif Nat.beq pc 31 then some (.getfield 19, 34, 11, 1, 0) else none) else (bif Nat.beq pc 34 then some (.aload_n 0, 35, 0, 0, 0) else none)))) else (bif Nat.blt pc 47 then (bif Nat.blt pc 41 then (bif Nat.blt pc 38 then (bif Nat.beq pc 35 then some (.getfield 85, 38, 11, 11, 0) else none) else (bif Nat.beq pc 38 then some (.invokevirtual 257, 41, 36, 1, 1) else none)) else (bif Nat.blt pc 44 then (bif Nat.beq pc 41 then some (.iinc 3 1, 44, 3, 0, 1) else none) else (bif Nat.beq pc 44 then some (.goto (-30), 47, 14, 0, 0) else none))) else (bif Nat.blt pc 51 then (bif Nat.blt pc 48 then (bif Nat.beq pc 47 then some (.aload_n 0, 48, 0, 0, 0) else none) else (bif Nat.beq pc 48 then some (.getfield 19, 51, 11, 1, 0) else none)) else (bif Nat.blt pc 54 then (bif Nat.beq pc 51 then some (.invokevirtual 138, 54, 23, 0, 1) else none) else (bif Nat.beq pc 54 then some (.ireturn, 55, 0, 0, 0) else none)))))
/-- X11_anew -/
noncomputable def gn_c104 (pc : Nat) : Option gn_En := bif Nat.blt pc 29 then (bif Nat.blt pc 13 then (bif Nat.blt pc 7 then (bif Nat.blt pc 1 then (bif Nat.beq pc 0 then some (.aload_n 0, 1, 0, 0, 0) else none) else (bif Nat.blt pc 4 then (bif Nat.beq pc 1 then some (.getfield 85, 4, 11, 11, 0) else none) else (bif Nat.beq pc 4 then some (.getfield 129, 7, 9, 0, 0) else none))) else (bif Nat.blt pc 10 then (bif Nat.beq pc 7 then some (.ifCond .ne 6, 10, 13, 0, 0) else none) else (bif Nat.blt pc 12 then (bif Nat.beq pc 10 then some (.ldc 223, 12, 0, 0, (-1000000003)) else none) else (bif Nat.beq pc 12 then some (.ireturn, 13, 0, 0, 0) else none)))) else (bif Nat.blt pc 20 then (bif Nat.blt pc 14 then (bif Nat.beq pc 13 then some (.aload_n 0, 14, 0, 0, 0) else none) else (bif Nat.blt pc 17 then (bif Nat.beq pc 14 then some (.getfield 19, 17, 11, 1, 0) else none) else (bif Nat.beq pc 17 then some (.invokevirtual 142, 20, 24, 0, 1) else none))) else (bif Nat.blt pc 26 then (bif Nat.blt pc 23 then (bif Nat.beq pc 20 then some (.ldc_w 260, 23, 0, 0, 90000) else none) else (bif Nat.beq pc 23 then some (.if_icmp .lt 6, 26, 29, 0, 0) else none)) else (bif Nat.blt pc 28 then (bif Nat.beq pc 26 then some (.ldc 101, 28, 0, 0, (-1000000004)) else none) else (bif Nat.beq pc 28 then some (.ireturn, 29, 0, 0, 0) else none))))) else (bif Nat.blt pc 44 then (bif Nat.blt pc 34 then (bif Nat.blt pc 30 then (bif Nat.beq pc 29 then some (.aload_n 0, 30, 0, 0, 0) else none) else (bif Nat.blt pc 33 then (bif Nat.beq pc 30 then some (.getfield 26, 33, 11, 2, 0) else none) else (bif Nat.beq pc 33 then some (.aload_n 0, 34, 0, 0, 0) else none))) else (bif Nat.blt pc 40 then (bif Nat.blt pc 37 then (bif Nat.beq pc 34 then some (.getfield 19, 37, 11, 1, 0) else none) else (bif Nat.beq pc 37 then some (.invokevirtual 224, 40, 42, 1, 1) else none)) else (bif Nat.blt pc 41 then (bif Nat.beq pc 40 then some (.aload_n 0, 41, 0, 0, 0) else none) else (bif Nat.beq pc 41 then some (.getfield 19, 44, 11, 1, 0) else none)))) else (bif Nat.blt pc 51 then (bif Nat.blt pc 45 then (bif Nat.beq pc 44 then some (.aload_n 0, 45, 0, 0, 0) else none) else (bif Nat.blt pc 48 then (bif Nat.beq pc 45 then some (.getfield 85, 48, 11, 11, 0) else none) else (bif Nat.beq pc 48 then some (.invokevirtual 261, 51, 12, 1, 1) else none))) else (bif Nat.blt pc 55 then (bif Nat.blt pc 52 then (bif Nat.beq pc 51 then some (.aload_n 0, 52, 0, 0, 0) else none) else (bif Nat.beq pc 52 then some (.getfield 19, 55, 11, 1, 0) else none)) else (bif Nat.blt pc 58 then (bif Nat.beq pc 55 then some (.invokevirtual 142, 58, 24, 0, 1) else none) else (bif Nat.beq pc 58 then some (.ireturn, 59, 0, 0, 0) else none)))))
/-- X11_drift -/
noncomputable def gn_c105 (pc : Nat) : Option gn_En := bif Nat.blt pc 30 then (bif Nat.blt pc 13 then (bif Nat.blt pc 6 then (bif Nat.blt pc 2 then (bif Nat.blt pc 1 then (bif Nat.beq pc 0 then some (.aload_n 0, 1, 0, 0, 0) else none) else (bif Nat.beq pc 1 then some (.iload_n 1, 2, 1, 0, 0) else none)) else (bif Nat.blt pc 5 then (bif Nat.beq pc 2 then some (.invokevirtual 254, 5, 129, 1, 0) else none) else (bif Nat.beq pc 5 then some (.istore_n 2, 6, 2, 0, 0) else none))) else (bif Nat.blt pc 10 then (bif Nat.blt pc 7 then (bif Nat.beq pc 6 then some (.iload_n 2, 7, 2, 0, 0) else none) else (bif Nat.beq pc 7 then some (.ifCond .eq 5, 10, 12, 0, 0) else none)) else (bif Nat.blt pc 11 then (bif Nat.beq pc 10 then some (.iload_n 2, 11, 2, 0, 0) else none) else (bif Nat.blt pc 12 then (bif Nat.beq pc 11 then some (.ireturn, 12, 0, 0, 0) else none) else (bif Nat.beq pc 12 then some (.iconst 0, 13, 0, 0, 0) else none))))) else (bif Nat.blt pc 19 then (bif Nat.blt pc 15 then (bif Nat.blt pc 14 then (bif Nat.beq pc 13 then some (.istore_n 3, 14, 3, 0, 0) else none) else (bif Nat.beq pc 14 then some (.iload_n 3, 15, 3, 0, 0) else none)) else (bif Nat.blt pc 16 then (bif Nat.beq pc 15 then some (.iload_n 1, 16, 1, 0, 0) else none) else (bif Nat.beq pc 16 then some (.if_icmp .ge 46, 19, 62, 0, 0) else none))) else (bif Nat.blt pc 23 then (bif Nat.blt pc 20 then (bif Nat.beq pc 19 then some (.aload_n 0, 20, 0, 0, 0) else none) else (bif Nat.beq pc 20 then some (.getfield 26, 23, 11, 2, 0) else none)) else (bif Nat.blt pc 24 then (bif Nat.beq pc 23 then some (.aload_n 0, 24, 0, 0, 0) else none) else (bif Nat.blt pc 27 then (bif Nat.beq pc 24 then some (.getfield 19, 27, 11, 1, 0) else none) else (bif Nat.beq pc 27 then some (.invokevirtual 224, 30, 42, 1, 1) else none)))))) else (bif Nat.blt pc 49 then (bif Nat.blt pc 38 then (bif Nat.blt pc 34 then (bif Nat.blt pc 31 then (bif Nat.beq pc 30 then some (.aload_n 0, 31, 0, 0, 0) else none) else (bif Nat.beq pc 31 then some (.getfield 43, 34, 11, 5, 0) else none)) else (bif Nat.blt pc 35 then (bif Nat.beq pc 34 then some (.aload_n 0, 35, 0, 0, 0) else none) else (bif Nat.beq pc 35 then some (.getfield 85, 38, 11, 11, 0) else none))) else (bif Nat.blt pc 42 then (bif Nat.blt pc 39 then (bif Nat.beq pc 38 then some (.aload_n 0, 39, 0, 0, 0) else none) else (bif Nat.beq pc 39 then some (.getfield 19, 42, 11, 1, 0) else none)) else (bif Nat.blt pc 45 then (bif Nat.beq pc 42 then some (.invokevirtual 264, 45, 3, 2, 1) else none) else (bif Nat.blt pc 46 then (bif Nat.beq pc 45 then some (.aload_n 0, 46, 0, 0, 0) else none) else (bif Nat.beq pc 46 then some (.getfield 19, 49, 11, 1, 0) else none))))) else (bif Nat.blt pc 59 then (bif Nat.blt pc 53 then (bif Nat.blt pc 50 then (bif Nat.beq pc 49 then some (.aload_n 0, 50, 0, 0, 0) else none) else (bif Nat.beq pc 50 then some (.getfield 85, 53, 11, 11, 0) else none)) else (bif Nat.blt pc 56 then (bif Nat.beq pc 53 then some (.invokevirtual 257, 56, 36, 1, 1) else none) else (bif Nat.beq pc 56 then some (.iinc 3 1, 59, 3, 0, 1) else none))) else (bif Nat.blt pc 63 then (bif Nat.blt pc 62 then (bif Nat.beq pc 59 then some (.goto (-45), 62, 14, 0, 0) else none) else (bif Nat.beq pc 62 then some (.aload_n 0, 63, 0, 0, 0) else none)) else (bif Nat.blt pc 66 then (bif Nat.beq pc 63 then some (.getfield 19, 66, 11, 1, 0) else none) else (bif Nat.blt pc 69 then (bif Nat.beq pc 66 then some (.invokevirtual 138, 69, 23, 0, 1) else none) else (bif Nat.beq pc 69 then some (.ireturn, 70, 0, 0, 0) else none))))))
/-- X11_undo -/
noncomputable def gn_c106 (pc : Nat) : Option gn_En := bif Nat.blt pc 22 then (bif Nat.blt pc 11 then (bif Nat.blt pc 5 then (bif Nat.blt pc 1 then (bif Nat.beq pc 0 then some (.iload_n 1, 1, 1, 0, 0) else none) else (bif Nat.blt pc 2 then (bif Nat.beq pc 1 then some (.iconst 1, 2, 0, 0, 1) else none) else (bif Nat.beq pc 2 then some (.if_icmp .lt 9, 5, 11, 0, 0) else none))) else (bif Nat.blt pc 6 then (bif Nat.beq pc 5 then some (.iload_n 1, 6, 1, 0, 0) else none) else (bif Nat.blt pc 8 then (bif Nat.beq pc 6 then some (.bipush 30, 8, 0, 0, 30) else none) else (bif Nat.beq pc 8 then some (.if_icmp .le 6, 11, 14, 0, 0) else none)))) else (bif Nat.blt pc 15 then (bif Nat.blt pc 13 then (bif Nat.beq pc 11 then some (.ldc 92, 13, 0, 0, (-1000000002)) else none) else (bif Nat.blt pc 14 then (bif Nat.beq pc 13 then some (.ireturn, 14, 0, 0, 0) else none) else (bif Nat.beq pc 14 then some (.iload_n 1, 15, 1, 0, 0) else none))) else (bif Nat.blt pc 16 then (bif Nat.beq pc 15 then some (.aload_n 0, 16, 0, 0, 0) else none) else (bif Nat.blt pc 19 then (bif Nat.beq pc 16 then some (.getfield 26, 19, 11, 2, 0) else none) else (bif Nat.beq pc 19 then some (.getfield 173, 22, 5, 2, 0) else none))))) else (bif Nat.blt pc 33 then (bif Nat.blt pc 28 then (bif Nat.blt pc 25 then (bif Nat.beq pc 22 then some (.if_icmp .le 6, 25, 28, 0, 0) else none) else (bif Nat.blt pc 27 then (bif Nat.beq pc 25 then some (.ldc 223, 27, 0, 0, (-1000000003)) else none) else (bif Nat.beq pc 27 then some (.ireturn, 28, 0, 0, 0) else none))) else (bif Nat.blt pc 29 then (bif Nat.beq pc 28 then some (.aload_n 0, 29, 0, 0, 0) else none) else (bif Nat.blt pc 32 then (bif Nat.beq pc 29 then some (.getfield 26, 32, 11, 2, 0) else none) else (bif Nat.beq pc 32 then some (.aload_n 0, 33, 0, 0, 0) else none)))) else (bif Nat.blt pc 40 then (bif Nat.blt pc 36 then (bif Nat.beq pc 33 then some (.getfield 19, 36, 11, 1, 0) else none) else (bif Nat.blt pc 37 then (bif Nat.beq pc 36 then some (.iload_n 1, 37, 1, 0, 0) else none) else (bif Nat.beq pc 37 then some (.invokevirtual 268, 40, 43, 2, 1) else none))) else (bif Nat.blt pc 44 then (bif Nat.blt pc 41 then (bif Nat.beq pc 40 then some (.aload_n 0, 41, 0, 0, 0) else none) else (bif Nat.beq pc 41 then some (.getfield 19, 44, 11, 1, 0) else none)) else (bif Nat.blt pc 47 then (bif Nat.beq pc 44 then some (.invokevirtual 138, 47, 23, 0, 1) else none) else (bif Nat.beq pc 47 then some (.ireturn, 48, 0, 0, 0) else none)))))
/-- X11_joy -/
noncomputable def gn_c107 (pc : Nat) : Option gn_En := bif Nat.blt pc 25 then (bif Nat.blt pc 12 then (bif Nat.blt pc 5 then (bif Nat.blt pc 1 then (bif Nat.beq pc 0 then some (.aload_n 0, 1, 0, 0, 0) else none) else (bif Nat.blt pc 4 then (bif Nat.beq pc 1 then some (.getfield 85, 4, 11, 11, 0) else none) else (bif Nat.beq pc 4 then some (.iload_n 1, 5, 1, 0, 0) else none))) else (bif Nat.blt pc 8 then (bif Nat.beq pc 5 then some (.invokevirtual 174, 8, 67, 1, 1) else none) else (bif Nat.blt pc 11 then (bif Nat.beq pc 8 then some (.ifCond .eq 14, 11, 22, 0, 0) else none) else (bif Nat.beq pc 11 then some (.aload_n 0, 12, 0, 0, 0) else none)))) else (bif Nat.blt pc 19 then (bif Nat.blt pc 15 then (bif Nat.beq pc 12 then some (.getfield 85, 15, 11, 11, 0) else none) else (bif Nat.blt pc 16 then (bif Nat.beq pc 15 then some (.iload_n 2, 16, 2, 0, 0) else none) else (bif Nat.beq pc 16 then some (.invokevirtual 207, 19, 68, 1, 1) else none))) else (bif Nat.blt pc 22 then (bif Nat.beq pc 19 then some (.ifCond .ne 6, 22, 25, 0, 0) else none) else (bif Nat.blt pc 24 then (bif Nat.beq pc 22 then some (.ldc 177, 24, 0, 0, (-1000000001)) else none) else (bif Nat.beq pc 24 then some (.ireturn, 25, 0, 0, 0) else none))))) else (bif Nat.blt pc 36 then (bif Nat.blt pc 32 then (bif Nat.blt pc 26 then (bif Nat.beq pc 25 then some (.iload_n 3, 26, 3, 0, 0) else none) else (bif Nat.blt pc 29 then (bif Nat.beq pc 26 then some (.invokestatic 197, 29, 124, 1, 0) else none) else (bif Nat.beq pc 29 then some (.ifCond .eq 6, 32, 35, 0, 0) else none))) else (bif Nat.blt pc 34 then (bif Nat.beq pc 32 then some (.ldc 92, 34, 0, 0, (-1000000002)) else none) else (bif Nat.blt pc 35 then (bif Nat.beq pc 34 then some (.ireturn, 35, 0, 0, 0) else none) else (bif Nat.beq pc 35 then some (.aload_n 0, 36, 0, 0, 0) else none)))) else (bif Nat.blt pc 41 then (bif Nat.blt pc 39 then (bif Nat.beq pc 36 then some (.getfield 85, 39, 11, 11, 0) else none) else (bif Nat.blt pc 40 then (bif Nat.beq pc 39 then some (.iload_n 1, 40, 1, 0, 0) else none) else (bif Nat.beq pc 40 then some (.iload_n 2, 41, 2, 0, 0) else none))) else (bif Nat.blt pc 42 then (bif Nat.beq pc 41 then some (.iload_n 3, 42, 3, 0, 0) else none) else (bif Nat.blt pc 45 then (bif Nat.beq pc 42 then some (.invokevirtual 272, 45, 79, 3, 1) else none) else (bif Nat.beq pc 45 then some (.ireturn, 46, 0, 0, 0) else none)))))
/-- X11_best -/
noncomputable def gn_c108 (pc : Nat) : Option gn_En := bif Nat.blt pc 35 then (bif Nat.blt pc 18 then (bif Nat.blt pc 8 then (bif Nat.blt pc 4 then (bif Nat.blt pc 1 then (bif Nat.beq pc 0 then some (.aload_n 0, 1, 0, 0, 0) else none) else (bif Nat.beq pc 1 then some (.getfield 85, 4, 11, 11, 0) else none)) else (bif Nat.blt pc 5 then (bif Nat.beq pc 4 then some (.iload_n 1, 5, 1, 0, 0) else none) else (bif Nat.beq pc 5 then some (.invokevirtual 174, 8, 67, 1, 1) else none))) else (bif Nat.blt pc 13 then (bif Nat.blt pc 11 then (bif Nat.beq pc 8 then some (.ifCond .ne 6, 11, 14, 0, 0) else none) else (bif Nat.beq pc 11 then some (.ldc 177, 13, 0, 0, (-1000000001)) else none)) else (bif Nat.blt pc 14 then (bif Nat.beq pc 13 then some (.ireturn, 14, 0, 0, 0) else none) else (bif Nat.blt pc 15 then (bif Nat.beq pc 14 then some (.iload_n 2, 15, 2, 0, 0) else none) else (bif Nat.beq pc 15 then some (.ifCond .lt 8, 18, 23, 0, 0) else none))))) else (bif Nat.blt pc 26 then (bif Nat.blt pc 20 then (bif Nat.blt pc 19 then (bif Nat.beq pc 18 then some (.iload_n 2, 19, 2, 0, 0) else none) else (bif Nat.beq pc 19 then some (.iconst 2, 20, 0, 0, 2) else none)) else (bif Nat.blt pc 23 then (bif Nat.beq pc 20 then some (.if_icmp .le 6, 23, 26, 0, 0) else none) else (bif Nat.blt pc 25 then (bif Nat.beq pc 23 then some (.ldc 92, 25, 0, 0, (-1000000002)) else none) else (bif Nat.beq pc 25 then some (.ireturn, 26, 0, 0, 0) else none)))) else (bif Nat.blt pc 30 then (bif Nat.blt pc 27 then (bif Nat.beq pc 26 then some (.aload_n 0, 27, 0, 0, 0) else none) else (bif Nat.beq pc 27 then some (.getfield 50, 30, 11, 6, 0) else none)) else (bif Nat.blt pc 31 then (bif Nat.beq pc 30 then some (.aload_n 0, 31, 0, 0, 0) else none) else (bif Nat.blt pc 34 then (bif Nat.beq pc 31 then some (.getfield 85, 34, 11, 11, 0) else none) else (bif Nat.beq pc 34 then some (.aload_n 0, 35, 0, 0, 0) else none)))))) else (bif Nat.blt pc 55 then (bif Nat.blt pc 46 then (bif Nat.blt pc 39 then (bif Nat.blt pc 38 then (bif Nat.beq pc 35 then some (.getfield 19, 38, 11, 1, 0) else none) else (bif Nat.beq pc 38 then some (.iload_n 1, 39, 1, 0, 0) else none)) else (bif Nat.blt pc 42 then (bif Nat.beq pc 39 then some (.invokevirtual 276, 42, 44, 3, 1) else none) else (bif Nat.blt pc 43 then (bif Nat.beq pc 42 then some (.iload_n 2, 43, 2, 0, 0) else none) else (bif Nat.beq pc 43 then some (.ifCond .ne 11, 46, 54, 0, 0) else none)))) else (bif Nat.blt pc 50 then (bif Nat.blt pc 47 then (bif Nat.beq pc 46 then some (.aload_n 0, 47, 0, 0, 0) else none) else (bif Nat.beq pc 47 then some (.getfield 50, 50, 11, 6, 0) else none)) else (bif Nat.blt pc 53 then (bif Nat.beq pc 50 then some (.getfield 280, 53, 6, 0, 0) else none) else (bif Nat.blt pc 54 then (bif Nat.beq pc 53 then some (.ireturn, 54, 0, 0, 0) else none) else (bif Nat.beq pc 54 then some (.iload_n 2, 55, 2, 0, 0) else none))))) else (bif Nat.blt pc 66 then (bif Nat.blt pc 59 then (bif Nat.blt pc 56 then (bif Nat.beq pc 55 then some (.iconst 1, 56, 0, 0, 1) else none) else (bif Nat.beq pc 56 then some (.if_icmp .ne 13, 59, 69, 0, 0) else none)) else (bif Nat.blt pc 60 then (bif Nat.beq pc 59 then some (.aload_n 0, 60, 0, 0, 0) else none) else (bif Nat.blt pc 63 then (bif Nat.beq pc 60 then some (.getfield 50, 63, 11, 6, 0) else none) else (bif Nat.beq pc 63 then some (.getfield 283, 66, 6, 1, 0) else none)))) else (bif Nat.blt pc 70 then (bif Nat.blt pc 69 then (bif Nat.beq pc 66 then some (.goto 10, 69, 76, 0, 0) else none) else (bif Nat.beq pc 69 then some (.aload_n 0, 70, 0, 0, 0) else none)) else (bif Nat.blt pc 73 then (bif Nat.beq pc 70 then some (.getfield 50, 73, 11, 6, 0) else none) else (bif Nat.blt pc 76 then (bif Nat.beq pc 73 then some (.getfield 286, 76, 6, 2, 0) else none) else (bif Nat.beq pc 76 then some (.ireturn, 77, 0, 0, 0) else none))))))
/-- X11_plan -/
noncomputable def gn_c109 (pc : Nat) : Option gn_En := bif Nat.blt pc 27 then (bif Nat.blt pc 13 then (bif Nat.blt pc 5 then (bif Nat.blt pc 1 then (bif Nat.beq pc 0 then some (.iload_n 1, 1, 1, 0, 0) else none) else (bif Nat.blt pc 2 then (bif Nat.beq pc 1 then some (.iconst (-1), 2, 0, 0, (-1)) else none) else (bif Nat.beq pc 2 then some (.if_icmp .eq 17, 5, 19, 0, 0) else none))) else (bif Nat.blt pc 9 then (bif Nat.blt pc 6 then (bif Nat.beq pc 5 then some (.aload_n 0, 6, 0, 0, 0) else none) else (bif Nat.beq pc 6 then some (.getfield 85, 9, 11, 11, 0) else none)) else (bif Nat.blt pc 10 then (bif Nat.beq pc 9 then some (.iload_n 1, 10, 1, 0, 0) else none) else (bif Nat.beq pc 10 then some (.invokevirtual 174, 13, 67, 1, 1) else none)))) else (bif Nat.blt pc 19 then (bif Nat.blt pc 16 then (bif Nat.beq pc 13 then some (.ifCond .ne 6, 16, 19, 0, 0) else none) else (bif Nat.blt pc 18 then (bif Nat.beq pc 16 then some (.ldc 177, 18, 0, 0, (-1000000001)) else none) else (bif Nat.beq pc 18 then some (.ireturn, 19, 0, 0, 0) else none))) else (bif Nat.blt pc 23 then (bif Nat.blt pc 20 then (bif Nat.beq pc 19 then some (.aload_n 0, 20, 0, 0, 0) else none) else (bif Nat.beq pc 20 then some (.getfield 57, 23, 11, 7, 0) else none)) else (bif Nat.blt pc 24 then (bif Nat.beq pc 23 then some (.aload_n 0, 24, 0, 0, 0) else none) else (bif Nat.beq pc 24 then some (.getfield 85, 27, 11, 11, 0) else none))))) else (bif Nat.blt pc 40 then (bif Nat.blt pc 34 then (bif Nat.blt pc 28 then (bif Nat.beq pc 27 then some (.aload_n 0, 28, 0, 0, 0) else none) else (bif Nat.blt pc 31 then (bif Nat.beq pc 28 then some (.getfield 19, 31, 11, 1, 0) else none) else (bif Nat.beq pc 31 then some (.invokevirtual 289, 34, 45, 2, 1) else none))) else (bif Nat.blt pc 36 then (bif Nat.blt pc 35 then (bif Nat.beq pc 34 then some (.iload_n 1, 35, 1, 0, 0) else none) else (bif Nat.beq pc 35 then some (.iconst (-1), 36, 0, 0, (-1)) else none)) else (bif Nat.blt pc 39 then (bif Nat.beq pc 36 then some (.if_icmp .ne 13, 39, 49, 0, 0) else none) else (bif Nat.beq pc 39 then some (.aload_n 0, 40, 0, 0, 0) else none)))) else (bif Nat.blt pc 50 then (bif Nat.blt pc 46 then (bif Nat.blt pc 43 then (bif Nat.beq pc 40 then some (.getfield 57, 43, 11, 7, 0) else none) else (bif Nat.beq pc 43 then some (.getfield 291, 46, 7, 7, 0) else none)) else (bif Nat.blt pc 49 then (bif Nat.beq pc 46 then some (.goto 11, 49, 57, 0, 0) else none) else (bif Nat.beq pc 49 then some (.aload_n 0, 50, 0, 0, 0) else none))) else (bif Nat.blt pc 54 then (bif Nat.blt pc 53 then (bif Nat.beq pc 50 then some (.getfield 57, 53, 11, 7, 0) else none) else (bif Nat.beq pc 53 then some (.iload_n 1, 54, 1, 0, 0) else none)) else (bif Nat.blt pc 57 then (bif Nat.beq pc 54 then some (.invokevirtual 292, 57, 49, 1, 1) else none) else (bif Nat.beq pc 57 then some (.ireturn, 58, 0, 0, 0) else none)))))
/-- X11_line -/
noncomputable def gn_c110 (pc : Nat) : Option gn_En := bif Nat.blt pc 26 then (bif Nat.blt pc 12 then (bif Nat.blt pc 5 then (bif Nat.blt pc 1 then (bif Nat.beq pc 0 then some (.aload_n 0, 1, 0, 0, 0) else none) else (bif Nat.blt pc 4 then (bif Nat.beq pc 1 then some (.getfield 85, 4, 11, 11, 0) else none) else (bif Nat.beq pc 4 then some (.iload_n 1, 5, 1, 0, 0) else none))) else (bif Nat.blt pc 8 then (bif Nat.beq pc 5 then some (.invokevirtual 174, 8, 67, 1, 1) else none) else (bif Nat.blt pc 11 then (bif Nat.beq pc 8 then some (.ifCond .eq 14, 11, 22, 0, 0) else none) else (bif Nat.beq pc 11 then some (.aload_n 0, 12, 0, 0, 0) else none)))) else (bif Nat.blt pc 19 then (bif Nat.blt pc 15 then (bif Nat.beq pc 12 then some (.getfield 85, 15, 11, 11, 0) else none) else (bif Nat.blt pc 16 then (bif Nat.beq pc 15 then some (.iload_n 2, 16, 2, 0, 0) else none) else (bif Nat.beq pc 16 then some (.invokevirtual 207, 19, 68, 1, 1) else none))) else (bif Nat.blt pc 24 then (bif Nat.blt pc 22 then (bif Nat.beq pc 19 then some (.ifCond .ne 6, 22, 25, 0, 0) else none) else (bif Nat.beq pc 22 then some (.ldc 177, 24, 0, 0, (-1000000001)) else none)) else (bif Nat.blt pc 25 then (bif Nat.beq pc 24 then some (.ireturn, 25, 0, 0, 0) else none) else (bif Nat.beq pc 25 then some (.aload_n 0, 26, 0, 0, 0) else none))))) else (bif Nat.blt pc 39 then (bif Nat.blt pc 33 then (bif Nat.blt pc 29 then (bif Nat.beq pc 26 then some (.getfield 64, 29, 11, 8, 0) else none) else (bif Nat.blt pc 30 then (bif Nat.beq pc 29 then some (.aload_n 0, 30, 0, 0, 0) else none) else (bif Nat.beq pc 30 then some (.getfield 85, 33, 11, 11, 0) else none))) else (bif Nat.blt pc 35 then (bif Nat.blt pc 34 then (bif Nat.beq pc 33 then some (.iload_n 1, 34, 1, 0, 0) else none) else (bif Nat.beq pc 34 then some (.iload_n 2, 35, 2, 0, 0) else none)) else (bif Nat.blt pc 36 then (bif Nat.beq pc 35 then some (.aload_n 0, 36, 0, 0, 0) else none) else (bif Nat.beq pc 36 then some (.getfield 19, 39, 11, 1, 0) else none)))) else (bif Nat.blt pc 46 then (bif Nat.blt pc 40 then (bif Nat.beq pc 39 then some (.iload_n 1, 40, 1, 0, 0) else none) else (bif Nat.blt pc 43 then (bif Nat.beq pc 40 then some (.invokevirtual 185, 43, 15, 1, 1) else none) else (bif Nat.beq pc 43 then some (.invokevirtual 295, 46, 88, 4, 1) else none))) else (bif Nat.blt pc 50 then (bif Nat.blt pc 47 then (bif Nat.beq pc 46 then some (.aload_n 0, 47, 0, 0, 0) else none) else (bif Nat.beq pc 47 then some (.getfield 64, 50, 11, 8, 0) else none)) else (bif Nat.blt pc 53 then (bif Nat.beq pc 50 then some (.invokevirtual 299, 53, 90, 0, 1) else none) else (bif Nat.beq pc 53 then some (.ireturn, 54, 0, 0, 0) else none)))))
/-- X11_now -/
noncomputable def gn_c111 (pc : Nat) : Option gn_En := bif Nat.blt pc 51 then (bif Nat.blt pc 25 then (bif Nat.blt pc 12 then (bif Nat.blt pc 5 then (bif Nat.blt pc 1 then (bif Nat.beq pc 0 then some (.aload_n 0, 1, 0, 0, 0) else none) else (bif Nat.blt pc 4 then (bif Nat.beq pc 1 then some (.getfield 85, 4, 11, 11, 0) else none) else (bif Nat.beq pc 4 then some (.iload_n 1, 5, 1, 0, 0) else none))) else (bif Nat.blt pc 8 then (bif Nat.beq pc 5 then some (.invokevirtual 174, 8, 67, 1, 1) else none) else (bif Nat.blt pc 11 then (bif Nat.beq pc 8 then some (.ifCond .eq 14, 11, 22, 0, 0) else none) else (bif Nat.beq pc 11 then some (.aload_n 0, 12, 0, 0, 0) else none)))) else (bif Nat.blt pc 19 then (bif Nat.blt pc 15 then (bif Nat.beq pc 12 then some (.getfield 85, 15, 11, 11, 0) else none) else (bif Nat.blt pc 16 then (bif Nat.beq pc 15 then some (.iload_n 2, 16, 2, 0, 0) else none) else (bif Nat.beq pc 16 then some (.invokevirtual 207, 19, 68, 1, 1) else none))) else (bif Nat.blt pc 22 then (bif Nat.beq pc 19 then some (.ifCond .ne 6, 22, 25, 0, 0) else none) else (bif Nat.blt pc 24 then (bif Nat.beq pc 22 then some (.ldc 177, 24, 0, 0, (-1000000001)) else none) else (bif Nat.beq pc 24 then some (.ireturn, 25, 0, 0, 0) else none))))) else (bif Nat.blt pc 36 then (bif Nat.blt pc 32 then (bif Nat.blt pc 26 then (bif Nat.beq pc 25 then some (.iload_n 3, 26, 3, 0, 0) else none) else (bif Nat.blt pc 29 then (bif Nat.beq pc 26 then some (.invokestatic 197, 29, 124, 1, 0) else none) else (bif Nat.beq pc 29 then some (.ifCond .eq 6, 32, 35, 0, 0) else none))) else (bif Nat.blt pc 34 then (bif Nat.beq pc 32 then some (.ldc 92, 34, 0, 0, (-1000000002)) else none) else (bif Nat.blt pc 35 then (bif Nat.beq pc 34 then some (.ireturn, 35, 0, 0, 0) else none) else (bif Nat.beq pc 35 then some (.iload_n 3, 36, 3, 0, 0) else none)))) else (bif Nat.blt pc 41 then (bif Nat.blt pc 37 then (bif Nat.beq pc 36 then some (.aload_n 0, 37, 0, 0, 0) else none) else (bif Nat.blt pc 40 then (bif Nat.beq pc 37 then some (.getfield 19, 40, 11, 1, 0) else none) else (bif Nat.beq pc 40 then some (.iload_n 1, 41, 1, 0, 0) else none))) else (bif Nat.blt pc 47 then (bif Nat.blt pc 44 then (bif Nat.beq pc 41 then some (.invokevirtual 185, 44, 15, 1, 1) else none) else (bif Nat.beq pc 44 then some (.if_icmp .lt 15, 47, 59, 0, 0) else none)) else (bif Nat.blt pc 48 then (bif Nat.beq pc 47 then some (.aload_n 0, 48, 0, 0, 0) else none) else (bif Nat.beq pc 48 then some (.getfield 85, 51, 11, 11, 0) else none)))))) else (bif Nat.blt pc 73 then (bif Nat.blt pc 62 then (bif Nat.blt pc 56 then (bif Nat.blt pc 52 then (bif Nat.beq pc 51 then some (.iload_n 1, 52, 1, 0, 0) else none) else (bif Nat.blt pc 53 then (bif Nat.beq pc 52 then some (.iload_n 3, 53, 3, 0, 0) else none) else (bif Nat.beq pc 53 then some (.invokevirtual 302, 56, 69, 2, 1) else none))) else (bif Nat.blt pc 59 then (bif Nat.beq pc 56 then some (.ifCond .ne 6, 59, 62, 0, 0) else none) else (bif Nat.blt pc 61 then (bif Nat.beq pc 59 then some (.ldc 223, 61, 0, 0, (-1000000003)) else none) else (bif Nat.beq pc 61 then some (.ireturn, 62, 0, 0, 0) else none)))) else (bif Nat.blt pc 67 then (bif Nat.blt pc 63 then (bif Nat.beq pc 62 then some (.aload_n 0, 63, 0, 0, 0) else none) else (bif Nat.blt pc 66 then (bif Nat.beq pc 63 then some (.getfield 64, 66, 11, 8, 0) else none) else (bif Nat.beq pc 66 then some (.aload_n 0, 67, 0, 0, 0) else none))) else (bif Nat.blt pc 71 then (bif Nat.blt pc 70 then (bif Nat.beq pc 67 then some (.getfield 85, 70, 11, 11, 0) else none) else (bif Nat.beq pc 70 then some (.iload_n 1, 71, 1, 0, 0) else none)) else (bif Nat.blt pc 72 then (bif Nat.beq pc 71 then some (.iload_n 2, 72, 2, 0, 0) else none) else (bif Nat.beq pc 72 then some (.aload_n 0, 73, 0, 0, 0) else none))))) else (bif Nat.blt pc 87 then (bif Nat.blt pc 80 then (bif Nat.blt pc 76 then (bif Nat.beq pc 73 then some (.getfield 19, 76, 11, 1, 0) else none) else (bif Nat.blt pc 77 then (bif Nat.beq pc 76 then some (.iload_n 1, 77, 1, 0, 0) else none) else (bif Nat.beq pc 77 then some (.invokevirtual 185, 80, 15, 1, 1) else none))) else (bif Nat.blt pc 83 then (bif Nat.beq pc 80 then some (.invokevirtual 295, 83, 88, 4, 1) else none) else (bif Nat.blt pc 84 then (bif Nat.beq pc 83 then some (.aload_n 0, 84, 0, 0, 0) else none) else (bif Nat.beq pc 84 then some (.getfield 64, 87, 11, 8, 0) else none)))) else (bif Nat.blt pc 94 then (bif Nat.blt pc 88 then (bif Nat.beq pc 87 then some (.iload_n 3, 88, 3, 0, 0) else none) else (bif Nat.blt pc 91 then (bif Nat.beq pc 88 then some (.invokevirtual 305, 91, 91, 1, 1) else none) else (bif Nat.beq pc 91 then some (.ifCond .eq 7, 94, 98, 0, 0) else none))) else (bif Nat.blt pc 98 then (bif Nat.blt pc 95 then (bif Nat.beq pc 94 then some (.iconst 1, 95, 0, 0, 1) else none) else (bif Nat.beq pc 95 then some (.goto 4, 98, 99, 0, 0) else none)) else (bif Nat.blt pc 99 then (bif Nat.beq pc 98 then some (.iconst 0, 99, 0, 0, 0) else none) else (bif Nat.beq pc 99 then some (.ireturn, 100, 0, 0, 0) else none))))))
/-- X11_agree -/
noncomputable def gn_c112 (pc : Nat) : Option gn_En := bif Nat.blt pc 13 then (bif Nat.blt pc 6 then (bif Nat.blt pc 2 then (bif Nat.blt pc 1 then (bif Nat.beq pc 0 then some (.aload_n 0, 1, 0, 0, 0) else none) else (bif Nat.beq pc 1 then some (.iload_n 1, 2, 1, 0, 0) else none)) else (bif Nat.blt pc 3 then (bif Nat.beq pc 2 then some (.iload_n 2, 3, 2, 0, 0) else none) else (bif Nat.beq pc 3 then some (.invokevirtual 239, 6, 127, 2, 0) else none))) else (bif Nat.blt pc 11 then (bif Nat.blt pc 9 then (bif Nat.beq pc 6 then some (.ifCond .eq 6, 9, 12, 0, 0) else none) else (bif Nat.beq pc 9 then some (.ldc 177, 11, 0, 0, (-1000000001)) else none)) else (bif Nat.blt pc 12 then (bif Nat.beq pc 11 then some (.ireturn, 12, 0, 0, 0) else none) else (bif Nat.beq pc 12 then some (.aload_n 0, 13, 0, 0, 0) else none)))) else (bif Nat.blt pc 21 then (bif Nat.blt pc 17 then (bif Nat.blt pc 16 then (bif Nat.beq pc 13 then some (.getfield 85, 16, 11, 11, 0) else none) else (bif Nat.beq pc 16 then some (.iload_n 1, 17, 1, 0, 0) else none)) else (bif Nat.blt pc 20 then (bif Nat.beq pc 17 then some (.invokevirtual 308, 20, 83, 1, 1) else none) else (bif Nat.beq pc 20 then some (.aload_n 0, 21, 0, 0, 0) else none))) else (bif Nat.blt pc 25 then (bif Nat.blt pc 24 then (bif Nat.beq pc 21 then some (.getfield 85, 24, 11, 11, 0) else none) else (bif Nat.beq pc 24 then some (.iload_n 2, 25, 2, 0, 0) else none)) else (bif Nat.blt pc 28 then (bif Nat.beq pc 25 then some (.invokevirtual 308, 28, 83, 1, 1) else none) else (bif Nat.blt pc 29 then (bif Nat.beq pc 28 then some (.iand, 29, 0, 0, 0) else none) else (bif Nat.beq pc 29 then some (.ireturn, 30, 0, 0, 0) else none)))))
/-- X11_boldest -/
noncomputable def gn_c113 (pc : Nat) : Option gn_En := bif Nat.blt pc 12 then (bif Nat.blt pc 4 then (bif Nat.blt pc 1 then (bif Nat.beq pc 0 then some (.iload_n 1, 1, 1, 0, 0) else none) else (bif Nat.beq pc 1 then some (.invokestatic 311, 4, 125, 1, 0) else none)) else (bif Nat.blt pc 7 then (bif Nat.beq pc 4 then some (.ifCond .eq 8, 7, 12, 0, 0) else none) else (bif Nat.blt pc 9 then (bif Nat.beq pc 7 then some (.ldc 92, 9, 0, 0, (-1000000002)) else none) else (bif Nat.beq pc 9 then some (.goto 11, 12, 20, 0, 0) else none)))) else (bif Nat.blt pc 16 then (bif Nat.blt pc 13 then (bif Nat.beq pc 12 then some (.aload_n 0, 13, 0, 0, 0) else none) else (bif Nat.beq pc 13 then some (.getfield 85, 16, 11, 11, 0) else none)) else (bif Nat.blt pc 17 then (bif Nat.beq pc 16 then some (.iload_n 1, 17, 1, 0, 0) else none) else (bif Nat.blt pc 20 then (bif Nat.beq pc 17 then some (.invokevirtual 314, 20, 86, 1, 1) else none) else (bif Nat.beq pc 20 then some (.ireturn, 21, 0, 0, 0) else none))))
/-- X11_dry -/
noncomputable def gn_c114 (pc : Nat) : Option gn_En := bif Nat.blt pc 28 then (bif Nat.blt pc 14 then (bif Nat.blt pc 5 then (bif Nat.blt pc 1 then (bif Nat.beq pc 0 then some (.iload_n 1, 1, 1, 0, 0) else none) else (bif Nat.blt pc 4 then (bif Nat.beq pc 1 then some (.ifCond .lt 19, 4, 20, 0, 0) else none) else (bif Nat.beq pc 4 then some (.iload_n 1, 5, 1, 0, 0) else none))) else (bif Nat.blt pc 10 then (bif Nat.blt pc 7 then (bif Nat.beq pc 5 then some (.bipush 60, 7, 0, 0, 60) else none) else (bif Nat.beq pc 7 then some (.if_icmp .gt 13, 10, 20, 0, 0) else none)) else (bif Nat.blt pc 11 then (bif Nat.beq pc 10 then some (.iload_n 2, 11, 2, 0, 0) else none) else (bif Nat.beq pc 11 then some (.ifCond .lt 9, 14, 20, 0, 0) else none)))) else (bif Nat.blt pc 22 then (bif Nat.blt pc 17 then (bif Nat.blt pc 15 then (bif Nat.beq pc 14 then some (.iload_n 2, 15, 2, 0, 0) else none) else (bif Nat.beq pc 15 then some (.bipush 100, 17, 0, 0, 100) else none)) else (bif Nat.blt pc 20 then (bif Nat.beq pc 17 then some (.if_icmp .le 6, 20, 23, 0, 0) else none) else (bif Nat.beq pc 20 then some (.ldc 92, 22, 0, 0, (-1000000002)) else none))) else (bif Nat.blt pc 26 then (bif Nat.blt pc 23 then (bif Nat.beq pc 22 then some (.ireturn, 23, 0, 0, 0) else none) else (bif Nat.beq pc 23 then some (.ldc2_w 317, 26, 0, 1000000000, 0) else none)) else (bif Nat.blt pc 27 then (bif Nat.beq pc 26 then some (.lstore_n 3, 27, 3, 0, 0) else none) else (bif Nat.beq pc 27 then some (.iconst 0, 28, 0, 0, 0) else none))))) else (bif Nat.blt pc 40 then (bif Nat.blt pc 36 then (bif Nat.blt pc 32 then (bif Nat.blt pc 30 then (bif Nat.beq pc 28 then some (.istore 5, 30, 5, 0, 0) else none) else (bif Nat.beq pc 30 then some (.iload 5, 32, 5, 0, 0) else none)) else (bif Nat.blt pc 33 then (bif Nat.beq pc 32 then some (.iload_n 1, 33, 1, 0, 0) else none) else (bif Nat.beq pc 33 then some (.if_icmp .ge 18, 36, 51, 0, 0) else none))) else (bif Nat.blt pc 38 then (bif Nat.blt pc 37 then (bif Nat.beq pc 36 then some (.lload_n 3, 37, 3, 0, 0) else none) else (bif Nat.beq pc 37 then some (.iload_n 2, 38, 2, 0, 0) else none)) else (bif Nat.blt pc 39 then (bif Nat.beq pc 38 then some (.i2l, 39, 0, 0, 0) else none) else (bif Nat.beq pc 39 then some (.lmul, 40, 0, 0, 0) else none)))) else (bif Nat.blt pc 48 then (bif Nat.blt pc 44 then (bif Nat.blt pc 43 then (bif Nat.beq pc 40 then some (.ldc2_w 319, 43, 0, 100, 0) else none) else (bif Nat.beq pc 43 then some (.ldiv, 44, 0, 0, 0) else none)) else (bif Nat.blt pc 45 then (bif Nat.beq pc 44 then some (.lstore_n 3, 45, 3, 0, 0) else none) else (bif Nat.beq pc 45 then some (.iinc 5 1, 48, 5, 0, 1) else none))) else (bif Nat.blt pc 52 then (bif Nat.blt pc 51 then (bif Nat.beq pc 48 then some (.goto (-18), 51, 30, 0, 0) else none) else (bif Nat.beq pc 51 then some (.lload_n 3, 52, 3, 0, 0) else none)) else (bif Nat.blt pc 53 then (bif Nat.beq pc 52 then some (.l2i, 53, 0, 0, 0) else none) else (bif Nat.beq pc 53 then some (.ireturn, 54, 0, 0, 0) else none)))))
/-- X11_hear -/
noncomputable def gn_c115 (pc : Nat) : Option gn_En := bif Nat.blt pc 15 then (bif Nat.blt pc 9 then (bif Nat.blt pc 4 then (bif Nat.blt pc 1 then (bif Nat.beq pc 0 then some (.iload_n 1, 1, 1, 0, 0) else none) else (bif Nat.beq pc 1 then some (.invokestatic 311, 4, 125, 1, 0) else none)) else (bif Nat.blt pc 7 then (bif Nat.beq pc 4 then some (.ifCond .eq 6, 7, 10, 0, 0) else none) else (bif Nat.beq pc 7 then some (.ldc 92, 9, 0, 0, (-1000000002)) else none))) else (bif Nat.blt pc 11 then (bif Nat.blt pc 10 then (bif Nat.beq pc 9 then some (.ireturn, 10, 0, 0, 0) else none) else (bif Nat.beq pc 10 then some (.aload_n 0, 11, 0, 0, 0) else none)) else (bif Nat.blt pc 14 then (bif Nat.beq pc 11 then some (.getfield 71, 14, 11, 9, 0) else none) else (bif Nat.beq pc 14 then some (.iload_n 1, 15, 1, 0, 0) else none)))) else (bif Nat.blt pc 23 then (bif Nat.blt pc 19 then (bif Nat.blt pc 16 then (bif Nat.beq pc 15 then some (.iload_n 2, 16, 2, 0, 0) else none) else (bif Nat.beq pc 16 then some (.invokevirtual 321, 19, 4, 2, 1) else none)) else (bif Nat.blt pc 22 then (bif Nat.beq pc 19 then some (.ifCond .eq 13, 22, 32, 0, 0) else none) else (bif Nat.beq pc 22 then some (.aload_n 0, 23, 0, 0, 0) else none))) else (bif Nat.blt pc 29 then (bif Nat.blt pc 26 then (bif Nat.beq pc 23 then some (.getfield 71, 26, 11, 9, 0) else none) else (bif Nat.beq pc 26 then some (.getfield 119, 29, 2, 2, 0) else none)) else (bif Nat.blt pc 32 then (bif Nat.beq pc 29 then some (.goto 5, 32, 34, 0, 0) else none) else (bif Nat.blt pc 34 then (bif Nat.beq pc 32 then some (.ldc 101, 34, 0, 0, (-1000000004)) else none) else (bif Nat.beq pc 34 then some (.ireturn, 35, 0, 0, 0) else none)))))
/-- X11_couldBe -/
noncomputable def gn_c116 (pc : Nat) : Option gn_En := bif Nat.blt pc 5 then (bif Nat.blt pc 1 then (bif Nat.beq pc 0 then some (.aload_n 0, 1, 0, 0, 0) else none) else (bif Nat.blt pc 4 then (bif Nat.beq pc 1 then some (.getfield 71, 4, 11, 9, 0) else none) else (bif Nat.beq pc 4 then some (.aload_n 0, 5, 0, 0, 0) else none))) else (bif Nat.blt pc 8 then (bif Nat.beq pc 5 then some (.getfield 85, 8, 11, 11, 0) else none) else (bif Nat.blt pc 11 then (bif Nat.beq pc 8 then some (.invokevirtual 325, 11, 5, 1, 1) else none) else (bif Nat.beq pc 11 then some (.ireturn, 12, 0, 0, 0) else none)))
/-- X11_ask -/
noncomputable def gn_c117 (pc : Nat) : Option gn_En := bif Nat.blt pc 5 then (bif Nat.blt pc 1 then (bif Nat.beq pc 0 then some (.aload_n 0, 1, 0, 0, 0) else none) else (bif Nat.blt pc 4 then (bif Nat.beq pc 1 then some (.getfield 71, 4, 11, 9, 0) else none) else (bif Nat.beq pc 4 then some (.aload_n 0, 5, 0, 0, 0) else none))) else (bif Nat.blt pc 8 then (bif Nat.beq pc 5 then some (.getfield 85, 8, 11, 11, 0) else none) else (bif Nat.blt pc 11 then (bif Nat.beq pc 8 then some (.invokevirtual 328, 11, 7, 1, 1) else none) else (bif Nat.beq pc 11 then some (.ireturn, 12, 0, 0, 0) else none)))
/-- X11_write -/
noncomputable def gn_c118 (pc : Nat) : Option gn_En := bif Nat.blt pc 27 then (bif Nat.blt pc 12 then (bif Nat.blt pc 5 then (bif Nat.blt pc 1 then (bif Nat.beq pc 0 then some (.aload_n 0, 1, 0, 0, 0) else none) else (bif Nat.blt pc 4 then (bif Nat.beq pc 1 then some (.getfield 85, 4, 11, 11, 0) else none) else (bif Nat.beq pc 4 then some (.iload_n 1, 5, 1, 0, 0) else none))) else (bif Nat.blt pc 8 then (bif Nat.beq pc 5 then some (.invokevirtual 174, 8, 67, 1, 1) else none) else (bif Nat.blt pc 11 then (bif Nat.beq pc 8 then some (.ifCond .eq 19, 11, 27, 0, 0) else none) else (bif Nat.beq pc 11 then some (.iload_n 2, 12, 2, 0, 0) else none)))) else (bif Nat.blt pc 17 then (bif Nat.blt pc 13 then (bif Nat.beq pc 12 then some (.iconst (-1), 13, 0, 0, (-1)) else none) else (bif Nat.blt pc 16 then (bif Nat.beq pc 13 then some (.if_icmp .eq 17, 16, 30, 0, 0) else none) else (bif Nat.beq pc 16 then some (.aload_n 0, 17, 0, 0, 0) else none))) else (bif Nat.blt pc 21 then (bif Nat.blt pc 20 then (bif Nat.beq pc 17 then some (.getfield 85, 20, 11, 11, 0) else none) else (bif Nat.beq pc 20 then some (.iload_n 2, 21, 2, 0, 0) else none)) else (bif Nat.blt pc 24 then (bif Nat.beq pc 21 then some (.invokevirtual 207, 24, 68, 1, 1) else none) else (bif Nat.beq pc 24 then some (.ifCond .ne 6, 27, 30, 0, 0) else none))))) else (bif Nat.blt pc 39 then (bif Nat.blt pc 31 then (bif Nat.blt pc 29 then (bif Nat.beq pc 27 then some (.ldc 177, 29, 0, 0, (-1000000001)) else none) else (bif Nat.blt pc 30 then (bif Nat.beq pc 29 then some (.ireturn, 30, 0, 0, 0) else none) else (bif Nat.beq pc 30 then some (.aload_n 0, 31, 0, 0, 0) else none))) else (bif Nat.blt pc 35 then (bif Nat.blt pc 34 then (bif Nat.beq pc 31 then some (.getfield 78, 34, 11, 10, 0) else none) else (bif Nat.beq pc 34 then some (.iload_n 1, 35, 1, 0, 0) else none)) else (bif Nat.blt pc 36 then (bif Nat.beq pc 35 then some (.iload_n 2, 36, 2, 0, 0) else none) else (bif Nat.beq pc 36 then some (.invokevirtual 331, 39, 0, 2, 1) else none)))) else (bif Nat.blt pc 46 then (bif Nat.blt pc 42 then (bif Nat.beq pc 39 then some (.ifCond .eq 13, 42, 52, 0, 0) else none) else (bif Nat.blt pc 43 then (bif Nat.beq pc 42 then some (.aload_n 0, 43, 0, 0, 0) else none) else (bif Nat.beq pc 43 then some (.getfield 78, 46, 11, 10, 0) else none))) else (bif Nat.blt pc 52 then (bif Nat.blt pc 49 then (bif Nat.beq pc 46 then some (.getfield 122, 49, 0, 2, 0) else none) else (bif Nat.beq pc 49 then some (.goto 5, 52, 54, 0, 0) else none)) else (bif Nat.blt pc 54 then (bif Nat.beq pc 52 then some (.ldc 101, 54, 0, 0, (-1000000004)) else none) else (bif Nat.beq pc 54 then some (.ireturn, 55, 0, 0, 0) else none)))))
/-- X11_judge -/
noncomputable def gn_c119 (pc : Nat) : Option gn_En := bif Nat.blt pc 5 then (bif Nat.blt pc 1 then (bif Nat.beq pc 0 then some (.aload_n 0, 1, 0, 0, 0) else none) else (bif Nat.blt pc 4 then (bif Nat.beq pc 1 then some (.getfield 78, 4, 11, 10, 0) else none) else (bif Nat.beq pc 4 then some (.aload_n 0, 5, 0, 0, 0) else none))) else (bif Nat.blt pc 8 then (bif Nat.beq pc 5 then some (.getfield 19, 8, 11, 1, 0) else none) else (bif Nat.blt pc 11 then (bif Nat.beq pc 8 then some (.invokevirtual 334, 11, 1, 1, 1) else none) else (bif Nat.beq pc 11 then some (.ireturn, 12, 0, 0, 0) else none)))
/-- X11_tear -/
noncomputable def gn_c120 (pc : Nat) : Option gn_En := bif Nat.blt pc 17 then (bif Nat.blt pc 8 then (bif Nat.blt pc 4 then (bif Nat.blt pc 1 then (bif Nat.beq pc 0 then some (.aload_n 0, 1, 0, 0, 0) else none) else (bif Nat.beq pc 1 then some (.getfield 71, 4, 11, 9, 0) else none)) else (bif Nat.blt pc 7 then (bif Nat.beq pc 4 then some (.getfield 119, 7, 2, 2, 0) else none) else (bif Nat.beq pc 7 then some (.aload_n 0, 8, 0, 0, 0) else none))) else (bif Nat.blt pc 14 then (bif Nat.blt pc 11 then (bif Nat.beq pc 8 then some (.getfield 78, 11, 11, 10, 0) else none) else (bif Nat.beq pc 11 then some (.getfield 122, 14, 0, 2, 0) else none)) else (bif Nat.blt pc 15 then (bif Nat.beq pc 14 then some (.iadd, 15, 0, 0, 0) else none) else (bif Nat.blt pc 16 then (bif Nat.beq pc 15 then some (.istore_n 1, 16, 1, 0, 0) else none) else (bif Nat.beq pc 16 then some (.aload_n 0, 17, 0, 0, 0) else none))))) else (bif Nat.blt pc 25 then (bif Nat.blt pc 21 then (bif Nat.blt pc 20 then (bif Nat.beq pc 17 then some (.getfield 71, 20, 11, 9, 0) else none) else (bif Nat.beq pc 20 then some (.iconst 0, 21, 0, 0, 0) else none)) else (bif Nat.blt pc 24 then (bif Nat.beq pc 21 then some (.putfield 119, 24, 2, 2, 0) else none) else (bif Nat.beq pc 24 then some (.aload_n 0, 25, 0, 0, 0) else none))) else (bif Nat.blt pc 29 then (bif Nat.blt pc 28 then (bif Nat.beq pc 25 then some (.getfield 78, 28, 11, 10, 0) else none) else (bif Nat.beq pc 28 then some (.iconst 0, 29, 0, 0, 0) else none)) else (bif Nat.blt pc 32 then (bif Nat.beq pc 29 then some (.putfield 122, 32, 0, 2, 0) else none) else (bif Nat.blt pc 33 then (bif Nat.beq pc 32 then some (.iload_n 1, 33, 1, 0, 0) else none) else (bif Nat.beq pc 33 then some (.ireturn, 34, 0, 0, 0) else none)))))
/-- X11_seed -/
noncomputable def gn_c121 (pc : Nat) : Option gn_En := bif Nat.blt pc 14 then (bif Nat.blt pc 6 then (bif Nat.blt pc 1 then (bif Nat.beq pc 0 then some (.iload_n 1, 1, 1, 0, 0) else none) else (bif Nat.blt pc 4 then (bif Nat.beq pc 1 then some (.ifCond .ge 6, 4, 7, 0, 0) else none) else (bif Nat.beq pc 4 then some (.ldc 92, 6, 0, 0, (-1000000002)) else none))) else (bif Nat.blt pc 8 then (bif Nat.blt pc 7 then (bif Nat.beq pc 6 then some (.ireturn, 7, 0, 0, 0) else none) else (bif Nat.beq pc 7 then some (.aload_n 0, 8, 0, 0, 0) else none)) else (bif Nat.blt pc 11 then (bif Nat.beq pc 8 then some (.getfield 43, 11, 11, 5, 0) else none) else (bif Nat.beq pc 11 then some (.getfield 338, 14, 1, 0, 0) else none)))) else (bif Nat.blt pc 19 then (bif Nat.blt pc 15 then (bif Nat.beq pc 14 then some (.istore_n 2, 15, 2, 0, 0) else none) else (bif Nat.blt pc 16 then (bif Nat.beq pc 15 then some (.aload_n 0, 16, 0, 0, 0) else none) else (bif Nat.beq pc 16 then some (.getfield 43, 19, 11, 5, 0) else none))) else (bif Nat.blt pc 23 then (bif Nat.blt pc 20 then (bif Nat.beq pc 19 then some (.iload_n 1, 20, 1, 0, 0) else none) else (bif Nat.beq pc 20 then some (.putfield 338, 23, 1, 0, 0) else none)) else (bif Nat.blt pc 24 then (bif Nat.beq pc 23 then some (.iload_n 2, 24, 2, 0, 0) else none) else (bif Nat.beq pc 24 then some (.ireturn, 25, 0, 0, 0) else none))))
/-- X11_keep -/
noncomputable def gn_c122 (pc : Nat) : Option gn_En := bif Nat.blt pc 16 then (bif Nat.blt pc 9 then (bif Nat.blt pc 4 then (bif Nat.blt pc 1 then (bif Nat.beq pc 0 then some (.iload_n 1, 1, 1, 0, 0) else none) else (bif Nat.beq pc 1 then some (.invokestatic 341, 4, 126, 1, 0) else none)) else (bif Nat.blt pc 7 then (bif Nat.beq pc 4 then some (.ifCond .eq 6, 7, 10, 0, 0) else none) else (bif Nat.beq pc 7 then some (.ldc 177, 9, 0, 0, (-1000000001)) else none))) else (bif Nat.blt pc 11 then (bif Nat.blt pc 10 then (bif Nat.beq pc 9 then some (.ireturn, 10, 0, 0, 0) else none) else (bif Nat.beq pc 10 then some (.aload_n 0, 11, 0, 0, 0) else none)) else (bif Nat.blt pc 12 then (bif Nat.beq pc 11 then some (.iload_n 1, 12, 1, 0, 0) else none) else (bif Nat.blt pc 15 then (bif Nat.beq pc 12 then some (.invokevirtual 344, 15, 128, 1, 0) else none) else (bif Nat.beq pc 15 then some (.aload_n 0, 16, 0, 0, 0) else none))))) else (bif Nat.blt pc 26 then (bif Nat.blt pc 20 then (bif Nat.blt pc 19 then (bif Nat.beq pc 16 then some (.getfield 19, 19, 11, 1, 0) else none) else (bif Nat.beq pc 19 then some (.aload_n 0, 20, 0, 0, 0) else none)) else (bif Nat.blt pc 23 then (bif Nat.beq pc 20 then some (.getfield 43, 23, 11, 5, 0) else none) else (bif Nat.beq pc 23 then some (.invokevirtual 348, 26, 9, 2, 1) else none))) else (bif Nat.blt pc 30 then (bif Nat.blt pc 27 then (bif Nat.beq pc 26 then some (.aload_n 0, 27, 0, 0, 0) else none) else (bif Nat.beq pc 27 then some (.getfield 26, 30, 11, 2, 0) else none)) else (bif Nat.blt pc 33 then (bif Nat.beq pc 30 then some (.invokevirtual 112, 33, 41, 0, 1) else none) else (bif Nat.blt pc 34 then (bif Nat.beq pc 33 then some (.iconst 1, 34, 0, 0, 1) else none) else (bif Nat.beq pc 34 then some (.ireturn, 35, 0, 0, 0) else none)))))
/-- X11_goBack -/
noncomputable def gn_c123 (pc : Nat) : Option gn_En := bif Nat.blt pc 23 then (bif Nat.blt pc 11 then (bif Nat.blt pc 7 then (bif Nat.blt pc 1 then (bif Nat.beq pc 0 then some (.iload_n 1, 1, 1, 0, 0) else none) else (bif Nat.blt pc 4 then (bif Nat.beq pc 1 then some (.invokestatic 341, 4, 126, 1, 0) else none) else (bif Nat.beq pc 4 then some (.ifCond .eq 6, 7, 10, 0, 0) else none))) else (bif Nat.blt pc 9 then (bif Nat.beq pc 7 then some (.ldc 177, 9, 0, 0, (-1000000001)) else none) else (bif Nat.blt pc 10 then (bif Nat.beq pc 9 then some (.ireturn, 10, 0, 0, 0) else none) else (bif Nat.beq pc 10 then some (.aload_n 0, 11, 0, 0, 0) else none)))) else (bif Nat.blt pc 16 then (bif Nat.blt pc 12 then (bif Nat.beq pc 11 then some (.iload_n 1, 12, 1, 0, 0) else none) else (bif Nat.blt pc 15 then (bif Nat.beq pc 12 then some (.invokevirtual 344, 15, 128, 1, 0) else none) else (bif Nat.beq pc 15 then some (.astore_n 2, 16, 2, 0, 0) else none))) else (bif Nat.blt pc 17 then (bif Nat.beq pc 16 then some (.aload_n 2, 17, 2, 0, 0) else none) else (bif Nat.blt pc 20 then (bif Nat.beq pc 17 then some (.getfield 115, 20, 3, 2, 0) else none) else (bif Nat.beq pc 20 then some (.ifCond .ne 6, 23, 26, 0, 0) else none))))) else (bif Nat.blt pc 32 then (bif Nat.blt pc 27 then (bif Nat.blt pc 25 then (bif Nat.beq pc 23 then some (.ldc 223, 25, 0, 0, (-1000000003)) else none) else (bif Nat.blt pc 26 then (bif Nat.beq pc 25 then some (.ireturn, 26, 0, 0, 0) else none) else (bif Nat.beq pc 26 then some (.aload_n 2, 27, 2, 0, 0) else none))) else (bif Nat.blt pc 28 then (bif Nat.beq pc 27 then some (.aload_n 0, 28, 0, 0, 0) else none) else (bif Nat.blt pc 31 then (bif Nat.beq pc 28 then some (.getfield 19, 31, 11, 1, 0) else none) else (bif Nat.beq pc 31 then some (.aload_n 0, 32, 0, 0, 0) else none)))) else (bif Nat.blt pc 39 then (bif Nat.blt pc 35 then (bif Nat.beq pc 32 then some (.getfield 43, 35, 11, 5, 0) else none) else (bif Nat.blt pc 38 then (bif Nat.beq pc 35 then some (.invokevirtual 352, 38, 10, 2, 1) else none) else (bif Nat.beq pc 38 then some (.aload_n 0, 39, 0, 0, 0) else none))) else (bif Nat.blt pc 45 then (bif Nat.blt pc 42 then (bif Nat.beq pc 39 then some (.getfield 26, 42, 11, 2, 0) else none) else (bif Nat.beq pc 42 then some (.invokevirtual 112, 45, 41, 0, 1) else none)) else (bif Nat.blt pc 46 then (bif Nat.beq pc 45 then some (.iconst 1, 46, 0, 0, 1) else none) else (bif Nat.beq pc 46 then some (.ireturn, 47, 0, 0, 0) else none)))))
/-- X11_isNoClaimNumber -/
noncomputable def gn_c124 (pc : Nat) : Option gn_En := bif Nat.blt pc 7 then (bif Nat.blt pc 4 then (bif Nat.blt pc 1 then (bif Nat.beq pc 0 then some (.iload_n 0, 1, 0, 0, 0) else none) else (bif Nat.beq pc 1 then some (.ifCond .lt 9, 4, 10, 0, 0) else none)) else (bif Nat.blt pc 5 then (bif Nat.beq pc 4 then some (.iload_n 0, 5, 0, 0, 0) else none) else (bif Nat.beq pc 5 then some (.bipush 6, 7, 0, 0, 6) else none))) else (bif Nat.blt pc 11 then (bif Nat.blt pc 10 then (bif Nat.beq pc 7 then some (.if_icmp .lt 7, 10, 14, 0, 0) else none) else (bif Nat.beq pc 10 then some (.iconst 1, 11, 0, 0, 1) else none)) else (bif Nat.blt pc 14 then (bif Nat.beq pc 11 then some (.goto 4, 14, 15, 0, 0) else none) else (bif Nat.blt pc 15 then (bif Nat.beq pc 14 then some (.iconst 0, 15, 0, 0, 0) else none) else (bif Nat.beq pc 15 then some (.ireturn, 16, 0, 0, 0) else none))))
/-- X11_isNoTopic -/
noncomputable def gn_c125 (pc : Nat) : Option gn_En := bif Nat.blt pc 7 then (bif Nat.blt pc 4 then (bif Nat.blt pc 1 then (bif Nat.beq pc 0 then some (.iload_n 0, 1, 0, 0, 0) else none) else (bif Nat.beq pc 1 then some (.ifCond .lt 9, 4, 10, 0, 0) else none)) else (bif Nat.blt pc 5 then (bif Nat.beq pc 4 then some (.iload_n 0, 5, 0, 0, 0) else none) else (bif Nat.beq pc 5 then some (.bipush 8, 7, 0, 0, 8) else none))) else (bif Nat.blt pc 11 then (bif Nat.blt pc 10 then (bif Nat.beq pc 7 then some (.if_icmp .lt 7, 10, 14, 0, 0) else none) else (bif Nat.beq pc 10 then some (.iconst 1, 11, 0, 0, 1) else none)) else (bif Nat.blt pc 14 then (bif Nat.beq pc 11 then some (.goto 4, 14, 15, 0, 0) else none) else (bif Nat.blt pc 15 then (bif Nat.beq pc 14 then some (.iconst 0, 15, 0, 0, 0) else none) else (bif Nat.beq pc 15 then some (.ireturn, 16, 0, 0, 0) else none))))
/-- X11_isNoImage -/
noncomputable def gn_c126 (pc : Nat) : Option gn_En := bif Nat.blt pc 6 then (bif Nat.blt pc 4 then (bif Nat.blt pc 1 then (bif Nat.beq pc 0 then some (.iload_n 0, 1, 0, 0, 0) else none) else (bif Nat.beq pc 1 then some (.ifCond .eq 12, 4, 13, 0, 0) else none)) else (bif Nat.blt pc 5 then (bif Nat.beq pc 4 then some (.iload_n 0, 5, 0, 0, 0) else none) else (bif Nat.beq pc 5 then some (.iconst 1, 6, 0, 0, 1) else none))) else (bif Nat.blt pc 10 then (bif Nat.blt pc 9 then (bif Nat.beq pc 6 then some (.if_icmp .eq 7, 9, 13, 0, 0) else none) else (bif Nat.beq pc 9 then some (.iconst 1, 10, 0, 0, 1) else none)) else (bif Nat.blt pc 13 then (bif Nat.beq pc 10 then some (.goto 4, 13, 14, 0, 0) else none) else (bif Nat.blt pc 14 then (bif Nat.beq pc 13 then some (.iconst 0, 14, 0, 0, 0) else none) else (bif Nat.beq pc 14 then some (.ireturn, 15, 0, 0, 0) else none))))
/-- X11_areNoTwoGuests -/
noncomputable def gn_c127 (pc : Nat) : Option gn_En := bif Nat.blt pc 16 then (bif Nat.blt pc 8 then (bif Nat.blt pc 4 then (bif Nat.blt pc 1 then (bif Nat.beq pc 0 then some (.aload_n 0, 1, 0, 0, 0) else none) else (bif Nat.beq pc 1 then some (.getfield 85, 4, 11, 11, 0) else none)) else (bif Nat.blt pc 5 then (bif Nat.beq pc 4 then some (.iload_n 1, 5, 1, 0, 0) else none) else (bif Nat.beq pc 5 then some (.invokevirtual 174, 8, 67, 1, 1) else none))) else (bif Nat.blt pc 12 then (bif Nat.blt pc 11 then (bif Nat.beq pc 8 then some (.ifCond .eq 19, 11, 27, 0, 0) else none) else (bif Nat.beq pc 11 then some (.aload_n 0, 12, 0, 0, 0) else none)) else (bif Nat.blt pc 15 then (bif Nat.beq pc 12 then some (.getfield 85, 15, 11, 11, 0) else none) else (bif Nat.beq pc 15 then some (.iload_n 2, 16, 2, 0, 0) else none)))) else (bif Nat.blt pc 24 then (bif Nat.blt pc 22 then (bif Nat.blt pc 19 then (bif Nat.beq pc 16 then some (.invokevirtual 174, 19, 67, 1, 1) else none) else (bif Nat.beq pc 19 then some (.ifCond .eq 8, 22, 27, 0, 0) else none)) else (bif Nat.blt pc 23 then (bif Nat.beq pc 22 then some (.iload_n 1, 23, 1, 0, 0) else none) else (bif Nat.beq pc 23 then some (.iload_n 2, 24, 2, 0, 0) else none))) else (bif Nat.blt pc 28 then (bif Nat.blt pc 27 then (bif Nat.beq pc 24 then some (.if_icmp .ne 7, 27, 31, 0, 0) else none) else (bif Nat.beq pc 27 then some (.iconst 1, 28, 0, 0, 1) else none)) else (bif Nat.blt pc 31 then (bif Nat.beq pc 28 then some (.goto 4, 31, 32, 0, 0) else none) else (bif Nat.blt pc 32 then (bif Nat.beq pc 31 then some (.iconst 0, 32, 0, 0, 0) else none) else (bif Nat.beq pc 32 then some (.ireturn, 33, 0, 0, 0) else none)))))
/-- X11_imageAt -/
noncomputable def gn_c128 (pc : Nat) : Option gn_En := bif Nat.blt pc 8 then (bif Nat.blt pc 4 then (bif Nat.blt pc 1 then (bif Nat.beq pc 0 then some (.iload_n 1, 1, 1, 0, 0) else none) else (bif Nat.beq pc 1 then some (.ifCond .ne 10, 4, 11, 0, 0) else none)) else (bif Nat.blt pc 5 then (bif Nat.beq pc 4 then some (.aload_n 0, 5, 0, 0, 0) else none) else (bif Nat.beq pc 5 then some (.getfield 33, 8, 11, 3, 0) else none))) else (bif Nat.blt pc 12 then (bif Nat.blt pc 11 then (bif Nat.beq pc 8 then some (.goto 7, 11, 15, 0, 0) else none) else (bif Nat.beq pc 11 then some (.aload_n 0, 12, 0, 0, 0) else none)) else (bif Nat.blt pc 15 then (bif Nat.beq pc 12 then some (.getfield 37, 15, 11, 4, 0) else none) else (bif Nat.beq pc 15 then some (.areturn, 16, 0, 0, 0) else none)))
/-- X11_refusalOfHours -/
noncomputable def gn_c129 (pc : Nat) : Option gn_En := bif Nat.blt pc 21 then (bif Nat.blt pc 8 then (bif Nat.blt pc 2 then (bif Nat.blt pc 1 then (bif Nat.beq pc 0 then some (.iload_n 1, 1, 1, 0, 0) else none) else (bif Nat.beq pc 1 then some (.iconst 1, 2, 0, 0, 1) else none)) else (bif Nat.blt pc 5 then (bif Nat.beq pc 2 then some (.if_icmp .lt 9, 5, 11, 0, 0) else none) else (bif Nat.blt pc 6 then (bif Nat.beq pc 5 then some (.iload_n 1, 6, 1, 0, 0) else none) else (bif Nat.beq pc 6 then some (.bipush 20, 8, 0, 0, 20) else none)))) else (bif Nat.blt pc 14 then (bif Nat.blt pc 11 then (bif Nat.beq pc 8 then some (.if_icmp .le 6, 11, 14, 0, 0) else none) else (bif Nat.blt pc 13 then (bif Nat.beq pc 11 then some (.ldc 92, 13, 0, 0, (-1000000002)) else none) else (bif Nat.beq pc 13 then some (.ireturn, 14, 0, 0, 0) else none))) else (bif Nat.blt pc 15 then (bif Nat.beq pc 14 then some (.aload_n 0, 15, 0, 0, 0) else none) else (bif Nat.blt pc 18 then (bif Nat.beq pc 15 then some (.getfield 85, 18, 11, 11, 0) else none) else (bif Nat.beq pc 18 then some (.getfield 129, 21, 9, 0, 0) else none))))) else (bif Nat.blt pc 34 then (bif Nat.blt pc 27 then (bif Nat.blt pc 24 then (bif Nat.beq pc 21 then some (.ifCond .ne 6, 24, 27, 0, 0) else none) else (bif Nat.blt pc 26 then (bif Nat.beq pc 24 then some (.ldc 223, 26, 0, 0, (-1000000003)) else none) else (bif Nat.beq pc 26 then some (.ireturn, 27, 0, 0, 0) else none))) else (bif Nat.blt pc 28 then (bif Nat.beq pc 27 then some (.aload_n 0, 28, 0, 0, 0) else none) else (bif Nat.blt pc 31 then (bif Nat.beq pc 28 then some (.getfield 19, 31, 11, 1, 0) else none) else (bif Nat.beq pc 31 then some (.invokevirtual 138, 34, 23, 0, 1) else none)))) else (bif Nat.blt pc 42 then (bif Nat.blt pc 37 then (bif Nat.beq pc 34 then some (.ldc_w 260, 37, 0, 0, 90000) else none) else (bif Nat.blt pc 40 then (bif Nat.beq pc 37 then some (.if_icmp .le 8, 40, 45, 0, 0) else none) else (bif Nat.beq pc 40 then some (.ldc 101, 42, 0, 0, (-1000000004)) else none))) else (bif Nat.blt pc 45 then (bif Nat.beq pc 42 then some (.goto 4, 45, 46, 0, 0) else none) else (bif Nat.blt pc 46 then (bif Nat.beq pc 45 then some (.iconst 0, 46, 0, 0, 0) else none) else (bif Nat.beq pc 46 then some (.ireturn, 47, 0, 0, 0) else none)))))
/-- X12_in -/
noncomputable def gn_c130 (pc : Nat) : Option gn_En := bif Nat.blt pc 7 then (bif Nat.blt pc 2 then (bif Nat.blt pc 1 then (bif Nat.beq pc 0 then some (.iload_n 0, 1, 0, 0, 0) else none) else (bif Nat.beq pc 1 then some (.iload_n 1, 2, 1, 0, 0) else none)) else (bif Nat.blt pc 5 then (bif Nat.beq pc 2 then some (.if_icmp .lt 12, 5, 14, 0, 0) else none) else (bif Nat.blt pc 6 then (bif Nat.beq pc 5 then some (.iload_n 0, 6, 0, 0, 0) else none) else (bif Nat.beq pc 6 then some (.iload_n 2, 7, 2, 0, 0) else none)))) else (bif Nat.blt pc 11 then (bif Nat.blt pc 10 then (bif Nat.beq pc 7 then some (.if_icmp .gt 7, 10, 14, 0, 0) else none) else (bif Nat.beq pc 10 then some (.iconst 1, 11, 0, 0, 1) else none)) else (bif Nat.blt pc 14 then (bif Nat.beq pc 11 then some (.goto 4, 14, 15, 0, 0) else none) else (bif Nat.blt pc 15 then (bif Nat.beq pc 14 then some (.iconst 0, 15, 0, 0, 0) else none) else (bif Nat.beq pc 15 then some (.ireturn, 16, 0, 0, 0) else none))))
/-- X12_has -/
noncomputable def gn_c131 (pc : Nat) : Option gn_En := bif Nat.blt pc 5 then (bif Nat.blt pc 2 then (bif Nat.blt pc 1 then (bif Nat.beq pc 0 then some (.iload_n 0, 1, 0, 0, 0) else none) else (bif Nat.beq pc 1 then some (.iload_n 1, 2, 1, 0, 0) else none)) else (bif Nat.blt pc 3 then (bif Nat.beq pc 2 then some (.ishr, 3, 0, 0, 0) else none) else (bif Nat.blt pc 4 then (bif Nat.beq pc 3 then some (.iconst 1, 4, 0, 0, 1) else none) else (bif Nat.beq pc 4 then some (.iand, 5, 0, 0, 0) else none)))) else (bif Nat.blt pc 10 then (bif Nat.blt pc 6 then (bif Nat.beq pc 5 then some (.iconst 1, 6, 0, 0, 1) else none) else (bif Nat.blt pc 9 then (bif Nat.beq pc 6 then some (.if_icmp .ne 7, 9, 13, 0, 0) else none) else (bif Nat.beq pc 9 then some (.iconst 1, 10, 0, 0, 1) else none))) else (bif Nat.blt pc 13 then (bif Nat.beq pc 10 then some (.goto 4, 13, 14, 0, 0) else none) else (bif Nat.blt pc 14 then (bif Nat.beq pc 13 then some (.iconst 0, 14, 0, 0, 0) else none) else (bif Nat.beq pc 14 then some (.ireturn, 15, 0, 0, 0) else none))))
/-- X12_isGuest -/
noncomputable def gn_c132 (pc : Nat) : Option gn_En := bif Nat.blt pc 6 then (bif Nat.blt pc 2 then (bif Nat.blt pc 1 then (bif Nat.beq pc 0 then some (.iload_n 1, 1, 1, 0, 0) else none) else (bif Nat.beq pc 1 then some (.iconst 0, 2, 0, 0, 0) else none)) else (bif Nat.blt pc 3 then (bif Nat.beq pc 2 then some (.aload_n 0, 3, 0, 0, 0) else none) else (bif Nat.beq pc 3 then some (.getfield 69, 6, 12, 8, 0) else none))) else (bif Nat.blt pc 8 then (bif Nat.blt pc 7 then (bif Nat.beq pc 6 then some (.iconst 1, 7, 0, 0, 1) else none) else (bif Nat.beq pc 7 then some (.isub, 8, 0, 0, 0) else none)) else (bif Nat.blt pc 11 then (bif Nat.beq pc 8 then some (.invokestatic 72, 11, 130, 3, 0) else none) else (bif Nat.beq pc 11 then some (.ireturn, 12, 0, 0, 0) else none)))
/-- X12_isHost -/
noncomputable def gn_c133 (pc : Nat) : Option gn_En := bif Nat.blt pc 6 then (bif Nat.blt pc 2 then (bif Nat.blt pc 1 then (bif Nat.beq pc 0 then some (.iload_n 1, 1, 1, 0, 0) else none) else (bif Nat.beq pc 1 then some (.iconst 0, 2, 0, 0, 0) else none)) else (bif Nat.blt pc 3 then (bif Nat.beq pc 2 then some (.aload_n 0, 3, 0, 0, 0) else none) else (bif Nat.beq pc 3 then some (.getfield 76, 6, 12, 9, 0) else none))) else (bif Nat.blt pc 8 then (bif Nat.blt pc 7 then (bif Nat.beq pc 6 then some (.iconst 1, 7, 0, 0, 1) else none) else (bif Nat.beq pc 7 then some (.isub, 8, 0, 0, 0) else none)) else (bif Nat.blt pc 11 then (bif Nat.beq pc 8 then some (.invokestatic 72, 11, 130, 3, 0) else none) else (bif Nat.beq pc 11 then some (.ireturn, 12, 0, 0, 0) else none)))
/-- X12_copyRow -/
noncomputable def gn_c134 (pc : Nat) : Option gn_En := bif Nat.blt pc 15 then (bif Nat.blt pc 8 then (bif Nat.blt pc 2 then (bif Nat.blt pc 1 then (bif Nat.beq pc 0 then some (.iconst 0, 1, 0, 0, 0) else none) else (bif Nat.beq pc 1 then some (.istore_n 3, 2, 3, 0, 0) else none)) else (bif Nat.blt pc 3 then (bif Nat.beq pc 2 then some (.iload_n 3, 3, 3, 0, 0) else none) else (bif Nat.blt pc 5 then (bif Nat.beq pc 3 then some (.bipush 29, 5, 0, 0, 29) else none) else (bif Nat.beq pc 5 then some (.if_icmp .ge 25, 8, 30, 0, 0) else none)))) else (bif Nat.blt pc 12 then (bif Nat.blt pc 9 then (bif Nat.beq pc 8 then some (.aload_n 0, 9, 0, 0, 0) else none) else (bif Nat.beq pc 9 then some (.getfield 7, 12, 12, 0, 0) else none)) else (bif Nat.blt pc 13 then (bif Nat.beq pc 12 then some (.iload_n 2, 13, 2, 0, 0) else none) else (bif Nat.blt pc 14 then (bif Nat.beq pc 13 then some (.iload_n 3, 14, 3, 0, 0) else none) else (bif Nat.beq pc 14 then some (.iadd, 15, 0, 0, 0) else none))))) else (bif Nat.blt pc 22 then (bif Nat.blt pc 19 then (bif Nat.blt pc 16 then (bif Nat.beq pc 15 then some (.aload_n 0, 16, 0, 0, 0) else none) else (bif Nat.beq pc 16 then some (.getfield 7, 19, 12, 0, 0) else none)) else (bif Nat.blt pc 20 then (bif Nat.beq pc 19 then some (.iload_n 1, 20, 1, 0, 0) else none) else (bif Nat.blt pc 21 then (bif Nat.beq pc 20 then some (.iload_n 3, 21, 3, 0, 0) else none) else (bif Nat.beq pc 21 then some (.iadd, 22, 0, 0, 0) else none)))) else (bif Nat.blt pc 24 then (bif Nat.blt pc 23 then (bif Nat.beq pc 22 then some (.iaload, 23, 0, 0, 0) else none) else (bif Nat.beq pc 23 then some (.iastore, 24, 0, 0, 0) else none)) else (bif Nat.blt pc 27 then (bif Nat.beq pc 24 then some (.iinc 3 1, 27, 3, 0, 1) else none) else (bif Nat.blt pc 30 then (bif Nat.beq pc 27 then some (.goto (-25), 30, 2, 0, 0) else none) else (bif Nat.beq pc 30 then some (.return_, 31, 0, 0, 0) else none)))))
/-- X12_feed -/
noncomputable def gn_c135 (pc : Nat) : Option gn_En := bif Nat.blt pc 28 then (bif Nat.blt pc 14 then (bif Nat.blt pc 5 then (bif Nat.blt pc 1 then (bif Nat.beq pc 0 then some (.iload_n 1, 1, 1, 0, 0) else none) else (bif Nat.blt pc 2 then (bif Nat.beq pc 1 then some (.iconst 0, 2, 0, 0, 0) else none) else (bif Nat.beq pc 2 then some (.sipush 255, 5, 0, 0, 255) else none))) else (bif Nat.blt pc 11 then (bif Nat.blt pc 8 then (bif Nat.beq pc 5 then some (.invokestatic 72, 8, 130, 3, 0) else none) else (bif Nat.beq pc 8 then some (.ifCond .ne 6, 11, 14, 0, 0) else none)) else (bif Nat.blt pc 13 then (bif Nat.beq pc 11 then some (.ldc 79, 13, 0, 0, (-1000000002)) else none) else (bif Nat.beq pc 13 then some (.ireturn, 14, 0, 0, 0) else none)))) else (bif Nat.blt pc 21 then (bif Nat.blt pc 15 then (bif Nat.beq pc 14 then some (.aload_n 0, 15, 0, 0, 0) else none) else (bif Nat.blt pc 18 then (bif Nat.beq pc 15 then some (.getfield 80, 18, 12, 13, 0) else none) else (bif Nat.beq pc 18 then some (.sipush 240, 21, 0, 0, 240) else none))) else (bif Nat.blt pc 26 then (bif Nat.blt pc 24 then (bif Nat.beq pc 21 then some (.if_icmp .ne 6, 24, 27, 0, 0) else none) else (bif Nat.beq pc 24 then some (.ldc 83, 26, 0, 0, (-1000000004)) else none)) else (bif Nat.blt pc 27 then (bif Nat.beq pc 26 then some (.ireturn, 27, 0, 0, 0) else none) else (bif Nat.beq pc 27 then some (.aload_n 0, 28, 0, 0, 0) else none))))) else (bif Nat.blt pc 39 then (bif Nat.blt pc 35 then (bif Nat.blt pc 31 then (bif Nat.beq pc 28 then some (.getfield 28, 31, 12, 12, 0) else none) else (bif Nat.blt pc 32 then (bif Nat.beq pc 31 then some (.aload_n 0, 32, 0, 0, 0) else none) else (bif Nat.beq pc 32 then some (.getfield 80, 35, 12, 13, 0) else none))) else (bif Nat.blt pc 37 then (bif Nat.blt pc 36 then (bif Nat.beq pc 35 then some (.iload_n 1, 36, 1, 0, 0) else none) else (bif Nat.beq pc 36 then some (.iastore, 37, 0, 0, 0) else none)) else (bif Nat.blt pc 38 then (bif Nat.beq pc 37 then some (.aload_n 0, 38, 0, 0, 0) else none) else (bif Nat.beq pc 38 then some (.dup, 39, 0, 0, 0) else none)))) else (bif Nat.blt pc 44 then (bif Nat.blt pc 42 then (bif Nat.beq pc 39 then some (.getfield 80, 42, 12, 13, 0) else none) else (bif Nat.blt pc 43 then (bif Nat.beq pc 42 then some (.iconst 1, 43, 0, 0, 1) else none) else (bif Nat.beq pc 43 then some (.iadd, 44, 0, 0, 0) else none))) else (bif Nat.blt pc 48 then (bif Nat.blt pc 47 then (bif Nat.beq pc 44 then some (.putfield 80, 47, 12, 13, 0) else none) else (bif Nat.beq pc 47 then some (.aload_n 0, 48, 0, 0, 0) else none)) else (bif Nat.blt pc 51 then (bif Nat.beq pc 48 then some (.getfield 80, 51, 12, 13, 0) else none) else (bif Nat.beq pc 51 then some (.ireturn, 52, 0, 0, 0) else none)))))
/-- X12_wrong -/
noncomputable def gn_c136 (pc : Nat) : Option gn_En := bif Nat.blt pc 9 then (bif Nat.blt pc 4 then (bif Nat.blt pc 1 then (bif Nat.beq pc 0 then some (.aload_n 0, 1, 0, 0, 0) else none) else (bif Nat.beq pc 1 then some (.getfield 84, 4, 12, 22, 0) else none)) else (bif Nat.blt pc 7 then (bif Nat.beq pc 4 then some (.ifCond .ne 13, 7, 17, 0, 0) else none) else (bif Nat.blt pc 8 then (bif Nat.beq pc 7 then some (.aload_n 0, 8, 0, 0, 0) else none) else (bif Nat.beq pc 8 then some (.iload_n 1, 9, 1, 0, 0) else none)))) else (bif Nat.blt pc 13 then (bif Nat.blt pc 12 then (bif Nat.beq pc 9 then some (.putfield 84, 12, 12, 22, 0) else none) else (bif Nat.beq pc 12 then some (.aload_n 0, 13, 0, 0, 0) else none)) else (bif Nat.blt pc 14 then (bif Nat.beq pc 13 then some (.iload_n 2, 14, 2, 0, 0) else none) else (bif Nat.blt pc 17 then (bif Nat.beq pc 14 then some (.putfield 87, 17, 12, 23, 0) else none) else (bif Nat.beq pc 17 then some (.return_, 18, 0, 0, 0) else none))))
/-- X12_fine -/
noncomputable def gn_c137 (pc : Nat) : Option gn_En := bif Nat.blt pc 7 then (bif Nat.blt pc 1 then (bif Nat.beq pc 0 then some (.aload_n 0, 1, 0, 0, 0) else none) else (bif Nat.blt pc 4 then (bif Nat.beq pc 1 then some (.getfield 84, 4, 12, 22, 0) else none) else (bif Nat.beq pc 4 then some (.ifCond .ne 7, 7, 11, 0, 0) else none))) else (bif Nat.blt pc 11 then (bif Nat.blt pc 8 then (bif Nat.beq pc 7 then some (.iconst 1, 8, 0, 0, 1) else none) else (bif Nat.beq pc 8 then some (.goto 4, 11, 12, 0, 0) else none)) else (bif Nat.blt pc 12 then (bif Nat.beq pc 11 then some (.iconst 0, 12, 0, 0, 0) else none) else (bif Nat.beq pc 12 then some (.ireturn, 13, 0, 0, 0) else none)))
/-- X12_here -/
noncomputable def gn_c138 (pc : Nat) : Option gn_En := bif Nat.blt pc 31 then (bif Nat.blt pc 16 then (bif Nat.blt pc 8 then (bif Nat.blt pc 4 then (bif Nat.blt pc 1 then (bif Nat.beq pc 0 then some (.aload_n 0, 1, 0, 0, 0) else none) else (bif Nat.beq pc 1 then some (.getfield 90, 4, 12, 21, 0) else none)) else (bif Nat.blt pc 5 then (bif Nat.beq pc 4 then some (.aload_n 0, 5, 0, 0, 0) else none) else (bif Nat.beq pc 5 then some (.getfield 80, 8, 12, 13, 0) else none))) else (bif Nat.blt pc 12 then (bif Nat.blt pc 11 then (bif Nat.beq pc 8 then some (.if_icmp .ge 30, 11, 38, 0, 0) else none) else (bif Nat.beq pc 11 then some (.aload_n 0, 12, 0, 0, 0) else none)) else (bif Nat.blt pc 15 then (bif Nat.beq pc 12 then some (.getfield 28, 15, 12, 12, 0) else none) else (bif Nat.beq pc 15 then some (.aload_n 0, 16, 0, 0, 0) else none)))) else (bif Nat.blt pc 25 then (bif Nat.blt pc 20 then (bif Nat.blt pc 19 then (bif Nat.beq pc 16 then some (.getfield 90, 19, 12, 21, 0) else none) else (bif Nat.beq pc 19 then some (.iaload, 20, 0, 0, 0) else none)) else (bif Nat.blt pc 22 then (bif Nat.beq pc 20 then some (.bipush 32, 22, 0, 0, 32) else none) else (bif Nat.beq pc 22 then some (.if_icmp .ne 16, 25, 38, 0, 0) else none))) else (bif Nat.blt pc 27 then (bif Nat.blt pc 26 then (bif Nat.beq pc 25 then some (.aload_n 0, 26, 0, 0, 0) else none) else (bif Nat.beq pc 26 then some (.dup, 27, 0, 0, 0) else none)) else (bif Nat.blt pc 30 then (bif Nat.beq pc 27 then some (.getfield 90, 30, 12, 21, 0) else none) else (bif Nat.beq pc 30 then some (.iconst 1, 31, 0, 0, 1) else none))))) else (bif Nat.blt pc 49 then (bif Nat.blt pc 39 then (bif Nat.blt pc 35 then (bif Nat.blt pc 32 then (bif Nat.beq pc 31 then some (.iadd, 32, 0, 0, 0) else none) else (bif Nat.beq pc 32 then some (.putfield 90, 35, 12, 21, 0) else none)) else (bif Nat.blt pc 38 then (bif Nat.beq pc 35 then some (.goto (-35), 38, 0, 0, 0) else none) else (bif Nat.beq pc 38 then some (.aload_n 0, 39, 0, 0, 0) else none))) else (bif Nat.blt pc 43 then (bif Nat.blt pc 42 then (bif Nat.beq pc 39 then some (.getfield 90, 42, 12, 21, 0) else none) else (bif Nat.beq pc 42 then some (.aload_n 0, 43, 0, 0, 0) else none)) else (bif Nat.blt pc 46 then (bif Nat.beq pc 43 then some (.getfield 80, 46, 12, 13, 0) else none) else (bif Nat.beq pc 46 then some (.if_icmp .ge 15, 49, 61, 0, 0) else none)))) else (bif Nat.blt pc 57 then (bif Nat.blt pc 53 then (bif Nat.blt pc 50 then (bif Nat.beq pc 49 then some (.aload_n 0, 50, 0, 0, 0) else none) else (bif Nat.beq pc 50 then some (.getfield 28, 53, 12, 12, 0) else none)) else (bif Nat.blt pc 54 then (bif Nat.beq pc 53 then some (.aload_n 0, 54, 0, 0, 0) else none) else (bif Nat.beq pc 54 then some (.getfield 90, 57, 12, 21, 0) else none))) else (bif Nat.blt pc 61 then (bif Nat.blt pc 58 then (bif Nat.beq pc 57 then some (.iaload, 58, 0, 0, 0) else none) else (bif Nat.beq pc 58 then some (.goto 4, 61, 62, 0, 0) else none)) else (bif Nat.blt pc 62 then (bif Nat.beq pc 61 then some (.iconst (-1), 62, 0, 0, (-1)) else none) else (bif Nat.beq pc 62 then some (.ireturn, 63, 0, 0, 0) else none)))))
/-- X12_number -/
noncomputable def gn_c139 (pc : Nat) : Option gn_En := bif Nat.blt pc 75 then (bif Nat.blt pc 35 then (bif Nat.blt pc 17 then (bif Nat.blt pc 8 then (bif Nat.blt pc 4 then (bif Nat.blt pc 1 then (bif Nat.beq pc 0 then some (.aload_n 0, 1, 0, 0, 0) else none) else (bif Nat.beq pc 1 then some (.invokevirtual 93, 4, 137, 0, 0) else none)) else (bif Nat.blt pc 7 then (bif Nat.beq pc 4 then some (.ifCond .ne 5, 7, 9, 0, 0) else none) else (bif Nat.beq pc 7 then some (.iconst 0, 8, 0, 0, 0) else none))) else (bif Nat.blt pc 10 then (bif Nat.blt pc 9 then (bif Nat.beq pc 8 then some (.ireturn, 9, 0, 0, 0) else none) else (bif Nat.beq pc 9 then some (.aload_n 0, 10, 0, 0, 0) else none)) else (bif Nat.blt pc 13 then (bif Nat.beq pc 10 then some (.invokevirtual 97, 13, 138, 0, 0) else none) else (bif Nat.blt pc 15 then (bif Nat.beq pc 13 then some (.bipush 48, 15, 0, 0, 48) else none) else (bif Nat.beq pc 15 then some (.bipush 57, 17, 0, 0, 57) else none))))) else (bif Nat.blt pc 26 then (bif Nat.blt pc 23 then (bif Nat.blt pc 20 then (bif Nat.beq pc 17 then some (.invokestatic 72, 20, 130, 3, 0) else none) else (bif Nat.beq pc 20 then some (.ifCond .ne 14, 23, 34, 0, 0) else none)) else (bif Nat.blt pc 24 then (bif Nat.beq pc 23 then some (.aload_n 0, 24, 0, 0, 0) else none) else (bif Nat.blt pc 25 then (bif Nat.beq pc 24 then some (.iconst 1, 25, 0, 0, 1) else none) else (bif Nat.beq pc 25 then some (.aload_n 0, 26, 0, 0, 0) else none)))) else (bif Nat.blt pc 32 then (bif Nat.blt pc 29 then (bif Nat.beq pc 26 then some (.getfield 90, 29, 12, 21, 0) else none) else (bif Nat.beq pc 29 then some (.invokevirtual 101, 32, 136, 2, 0) else none)) else (bif Nat.blt pc 33 then (bif Nat.beq pc 32 then some (.iconst 0, 33, 0, 0, 0) else none) else (bif Nat.blt pc 34 then (bif Nat.beq pc 33 then some (.ireturn, 34, 0, 0, 0) else none) else (bif Nat.beq pc 34 then some (.aload_n 0, 35, 0, 0, 0) else none)))))) else (bif Nat.blt pc 53 then (bif Nat.blt pc 42 then (bif Nat.blt pc 39 then (bif Nat.blt pc 38 then (bif Nat.beq pc 35 then some (.getfield 90, 38, 12, 21, 0) else none) else (bif Nat.beq pc 38 then some (.istore_n 2, 39, 2, 0, 0) else none)) else (bif Nat.blt pc 40 then (bif Nat.beq pc 39 then some (.iconst 0, 40, 0, 0, 0) else none) else (bif Nat.blt pc 41 then (bif Nat.beq pc 40 then some (.istore_n 3, 41, 3, 0, 0) else none) else (bif Nat.beq pc 41 then some (.aload_n 0, 42, 0, 0, 0) else none)))) else (bif Nat.blt pc 46 then (bif Nat.blt pc 45 then (bif Nat.beq pc 42 then some (.getfield 90, 45, 12, 21, 0) else none) else (bif Nat.beq pc 45 then some (.aload_n 0, 46, 0, 0, 0) else none)) else (bif Nat.blt pc 49 then (bif Nat.beq pc 46 then some (.getfield 80, 49, 12, 13, 0) else none) else (bif Nat.blt pc 52 then (bif Nat.beq pc 49 then some (.if_icmp .ge 67, 52, 116, 0, 0) else none) else (bif Nat.beq pc 52 then some (.aload_n 0, 53, 0, 0, 0) else none))))) else (bif Nat.blt pc 63 then (bif Nat.blt pc 57 then (bif Nat.blt pc 56 then (bif Nat.beq pc 53 then some (.getfield 28, 56, 12, 12, 0) else none) else (bif Nat.beq pc 56 then some (.aload_n 0, 57, 0, 0, 0) else none)) else (bif Nat.blt pc 60 then (bif Nat.beq pc 57 then some (.getfield 90, 60, 12, 21, 0) else none) else (bif Nat.blt pc 61 then (bif Nat.beq pc 60 then some (.iaload, 61, 0, 0, 0) else none) else (bif Nat.beq pc 61 then some (.bipush 48, 63, 0, 0, 48) else none)))) else (bif Nat.blt pc 68 then (bif Nat.blt pc 65 then (bif Nat.beq pc 63 then some (.bipush 57, 65, 0, 0, 57) else none) else (bif Nat.beq pc 65 then some (.invokestatic 72, 68, 130, 3, 0) else none)) else (bif Nat.blt pc 71 then (bif Nat.beq pc 68 then some (.ifCond .eq 48, 71, 116, 0, 0) else none) else (bif Nat.blt pc 72 then (bif Nat.beq pc 71 then some (.aload_n 0, 72, 0, 0, 0) else none) else (bif Nat.beq pc 72 then some (.getfield 90, 75, 12, 21, 0) else none))))))) else (bif Nat.blt pc 105 then (bif Nat.blt pc 90 then (bif Nat.blt pc 83 then (bif Nat.blt pc 77 then (bif Nat.blt pc 76 then (bif Nat.beq pc 75 then some (.iload_n 2, 76, 2, 0, 0) else none) else (bif Nat.beq pc 76 then some (.isub, 77, 0, 0, 0) else none)) else (bif Nat.blt pc 78 then (bif Nat.beq pc 77 then some (.iconst 4, 78, 0, 0, 4) else none) else (bif Nat.blt pc 81 then (bif Nat.beq pc 78 then some (.if_icmp .ge 23, 81, 101, 0, 0) else none) else (bif Nat.beq pc 81 then some (.bipush 10, 83, 0, 0, 10) else none)))) else (bif Nat.blt pc 85 then (bif Nat.blt pc 84 then (bif Nat.beq pc 83 then some (.iload_n 3, 84, 3, 0, 0) else none) else (bif Nat.beq pc 84 then some (.imul, 85, 0, 0, 0) else none)) else (bif Nat.blt pc 86 then (bif Nat.beq pc 85 then some (.aload_n 0, 86, 0, 0, 0) else none) else (bif Nat.blt pc 89 then (bif Nat.beq pc 86 then some (.getfield 28, 89, 12, 12, 0) else none) else (bif Nat.beq pc 89 then some (.aload_n 0, 90, 0, 0, 0) else none))))) else (bif Nat.blt pc 98 then (bif Nat.blt pc 94 then (bif Nat.blt pc 93 then (bif Nat.beq pc 90 then some (.getfield 90, 93, 12, 21, 0) else none) else (bif Nat.beq pc 93 then some (.iaload, 94, 0, 0, 0) else none)) else (bif Nat.blt pc 95 then (bif Nat.beq pc 94 then some (.iadd, 95, 0, 0, 0) else none) else (bif Nat.blt pc 97 then (bif Nat.beq pc 95 then some (.bipush 48, 97, 0, 0, 48) else none) else (bif Nat.beq pc 97 then some (.isub, 98, 0, 0, 0) else none)))) else (bif Nat.blt pc 102 then (bif Nat.blt pc 101 then (bif Nat.beq pc 98 then some (.goto 4, 101, 102, 0, 0) else none) else (bif Nat.beq pc 101 then some (.iload_n 3, 102, 3, 0, 0) else none)) else (bif Nat.blt pc 103 then (bif Nat.beq pc 102 then some (.istore_n 3, 103, 3, 0, 0) else none) else (bif Nat.blt pc 104 then (bif Nat.beq pc 103 then some (.aload_n 0, 104, 0, 0, 0) else none) else (bif Nat.beq pc 104 then some (.dup, 105, 0, 0, 0) else none)))))) else (bif Nat.blt pc 123 then (bif Nat.blt pc 116 then (bif Nat.blt pc 109 then (bif Nat.blt pc 108 then (bif Nat.beq pc 105 then some (.getfield 90, 108, 12, 21, 0) else none) else (bif Nat.beq pc 108 then some (.iconst 1, 109, 0, 0, 1) else none)) else (bif Nat.blt pc 110 then (bif Nat.beq pc 109 then some (.iadd, 110, 0, 0, 0) else none) else (bif Nat.blt pc 113 then (bif Nat.beq pc 110 then some (.putfield 90, 113, 12, 21, 0) else none) else (bif Nat.beq pc 113 then some (.goto (-72), 116, 41, 0, 0) else none)))) else (bif Nat.blt pc 120 then (bif Nat.blt pc 117 then (bif Nat.beq pc 116 then some (.aload_n 0, 117, 0, 0, 0) else none) else (bif Nat.beq pc 117 then some (.getfield 90, 120, 12, 21, 0) else none)) else (bif Nat.blt pc 121 then (bif Nat.beq pc 120 then some (.iload_n 2, 121, 2, 0, 0) else none) else (bif Nat.blt pc 122 then (bif Nat.beq pc 121 then some (.isub, 122, 0, 0, 0) else none) else (bif Nat.beq pc 122 then some (.iconst 3, 123, 0, 0, 3) else none))))) else (bif Nat.blt pc 132 then (bif Nat.blt pc 127 then (bif Nat.blt pc 126 then (bif Nat.beq pc 123 then some (.if_icmp .gt 8, 126, 131, 0, 0) else none) else (bif Nat.beq pc 126 then some (.iload_n 3, 127, 3, 0, 0) else none)) else (bif Nat.blt pc 128 then (bif Nat.beq pc 127 then some (.iload_n 1, 128, 1, 0, 0) else none) else (bif Nat.blt pc 131 then (bif Nat.beq pc 128 then some (.if_icmp .le 9, 131, 137, 0, 0) else none) else (bif Nat.beq pc 131 then some (.aload_n 0, 132, 0, 0, 0) else none)))) else (bif Nat.blt pc 134 then (bif Nat.blt pc 133 then (bif Nat.beq pc 132 then some (.iconst 2, 133, 0, 0, 2) else none) else (bif Nat.beq pc 133 then some (.iload_n 2, 134, 2, 0, 0) else none)) else (bif Nat.blt pc 137 then (bif Nat.beq pc 134 then some (.invokevirtual 101, 137, 136, 2, 0) else none) else (bif Nat.blt pc 138 then (bif Nat.beq pc 137 then some (.iload_n 3, 138, 3, 0, 0) else none) else (bif Nat.beq pc 138 then some (.ireturn, 139, 0, 0, 0) else none)))))))
/-- X12_readFacts -/
noncomputable def gn_c140 (pc : Nat) : Option gn_En := bif Nat.blt pc 14 then (bif Nat.blt pc 8 then (bif Nat.blt pc 4 then (bif Nat.blt pc 1 then (bif Nat.beq pc 0 then some (.aload_n 0, 1, 0, 0, 0) else none) else (bif Nat.beq pc 1 then some (.getfield 105, 4, 12, 24, 0) else none)) else (bif Nat.blt pc 7 then (bif Nat.beq pc 4 then some (.ifCond .eq 10, 7, 14, 0, 0) else none) else (bif Nat.beq pc 7 then some (.aload_n 0, 8, 0, 0, 0) else none))) else (bif Nat.blt pc 10 then (bif Nat.blt pc 9 then (bif Nat.beq pc 8 then some (.iconst 3, 9, 0, 0, 3) else none) else (bif Nat.beq pc 9 then some (.iload_n 1, 10, 1, 0, 0) else none)) else (bif Nat.blt pc 13 then (bif Nat.beq pc 10 then some (.invokevirtual 101, 13, 136, 2, 0) else none) else (bif Nat.beq pc 13 then some (.return_, 14, 0, 0, 0) else none)))) else (bif Nat.blt pc 22 then (bif Nat.blt pc 16 then (bif Nat.blt pc 15 then (bif Nat.beq pc 14 then some (.aload_n 0, 15, 0, 0, 0) else none) else (bif Nat.beq pc 15 then some (.aload_n 0, 16, 0, 0, 0) else none)) else (bif Nat.blt pc 19 then (bif Nat.beq pc 16 then some (.sipush 255, 19, 0, 0, 255) else none) else (bif Nat.beq pc 19 then some (.invokevirtual 109, 22, 139, 1, 0) else none))) else (bif Nat.blt pc 26 then (bif Nat.blt pc 25 then (bif Nat.beq pc 22 then some (.putfield 113, 25, 12, 25, 0) else none) else (bif Nat.beq pc 25 then some (.aload_n 0, 26, 0, 0, 0) else none)) else (bif Nat.blt pc 27 then (bif Nat.beq pc 26 then some (.iconst 1, 27, 0, 0, 1) else none) else (bif Nat.blt pc 30 then (bif Nat.beq pc 27 then some (.putfield 105, 30, 12, 24, 0) else none) else (bif Nat.beq pc 30 then some (.return_, 31, 0, 0, 0) else none)))))
/-- X12_readGuest -/
noncomputable def gn_c141 (pc : Nat) : Option gn_En := bif Nat.blt pc 75 then (bif Nat.blt pc 39 then (bif Nat.blt pc 20 then (bif Nat.blt pc 10 then (bif Nat.blt pc 4 then (bif Nat.blt pc 1 then (bif Nat.beq pc 0 then some (.aload_n 0, 1, 0, 0, 0) else none) else (bif Nat.beq pc 1 then some (.getfield 116, 4, 12, 26, 0) else none)) else (bif Nat.blt pc 6 then (bif Nat.beq pc 4 then some (.bipush 6, 6, 0, 0, 6) else none) else (bif Nat.blt pc 9 then (bif Nat.beq pc 6 then some (.if_icmp .ne 10, 9, 16, 0, 0) else none) else (bif Nat.beq pc 9 then some (.aload_n 0, 10, 0, 0, 0) else none)))) else (bif Nat.blt pc 15 then (bif Nat.blt pc 11 then (bif Nat.beq pc 10 then some (.iconst 3, 11, 0, 0, 3) else none) else (bif Nat.blt pc 12 then (bif Nat.beq pc 11 then some (.iload_n 1, 12, 1, 0, 0) else none) else (bif Nat.beq pc 12 then some (.invokevirtual 101, 15, 136, 2, 0) else none))) else (bif Nat.blt pc 16 then (bif Nat.beq pc 15 then some (.return_, 16, 0, 0, 0) else none) else (bif Nat.blt pc 17 then (bif Nat.beq pc 16 then some (.aload_n 0, 17, 0, 0, 0) else none) else (bif Nat.beq pc 17 then some (.getfield 116, 20, 12, 26, 0) else none))))) else (bif Nat.blt pc 29 then (bif Nat.blt pc 25 then (bif Nat.blt pc 21 then (bif Nat.beq pc 20 then some (.istore_n 2, 21, 2, 0, 0) else none) else (bif Nat.blt pc 22 then (bif Nat.beq pc 21 then some (.aload_n 0, 22, 0, 0, 0) else none) else (bif Nat.beq pc 22 then some (.getfield 48, 25, 12, 28, 0) else none))) else (bif Nat.blt pc 26 then (bif Nat.beq pc 25 then some (.iload_n 2, 26, 2, 0, 0) else none) else (bif Nat.blt pc 27 then (bif Nat.beq pc 26 then some (.aload_n 0, 27, 0, 0, 0) else none) else (bif Nat.beq pc 27 then some (.bipush 9, 29, 0, 0, 9) else none)))) else (bif Nat.blt pc 34 then (bif Nat.blt pc 32 then (bif Nat.beq pc 29 then some (.invokevirtual 109, 32, 139, 1, 0) else none) else (bif Nat.blt pc 33 then (bif Nat.beq pc 32 then some (.iastore, 33, 0, 0, 0) else none) else (bif Nat.beq pc 33 then some (.aload_n 0, 34, 0, 0, 0) else none))) else (bif Nat.blt pc 37 then (bif Nat.beq pc 34 then some (.getfield 54, 37, 12, 30, 0) else none) else (bif Nat.blt pc 38 then (bif Nat.beq pc 37 then some (.iload_n 2, 38, 2, 0, 0) else none) else (bif Nat.beq pc 38 then some (.iconst 0, 39, 0, 0, 0) else none)))))) else (bif Nat.blt pc 58 then (bif Nat.blt pc 47 then (bif Nat.blt pc 42 then (bif Nat.blt pc 40 then (bif Nat.beq pc 39 then some (.iastore, 40, 0, 0, 0) else none) else (bif Nat.blt pc 41 then (bif Nat.beq pc 40 then some (.iconst 1, 41, 0, 0, 1) else none) else (bif Nat.beq pc 41 then some (.istore_n 3, 42, 3, 0, 0) else none))) else (bif Nat.blt pc 43 then (bif Nat.beq pc 42 then some (.iload_n 3, 43, 3, 0, 0) else none) else (bif Nat.blt pc 46 then (bif Nat.beq pc 43 then some (.ifCond .eq 104, 46, 147, 0, 0) else none) else (bif Nat.beq pc 46 then some (.aload_n 0, 47, 0, 0, 0) else none)))) else (bif Nat.blt pc 53 then (bif Nat.blt pc 50 then (bif Nat.beq pc 47 then some (.getfield 51, 50, 12, 29, 0) else none) else (bif Nat.blt pc 52 then (bif Nat.beq pc 50 then some (.bipush 6, 52, 0, 0, 6) else none) else (bif Nat.beq pc 52 then some (.iload_n 2, 53, 2, 0, 0) else none))) else (bif Nat.blt pc 54 then (bif Nat.beq pc 53 then some (.imul, 54, 0, 0, 0) else none) else (bif Nat.blt pc 55 then (bif Nat.beq pc 54 then some (.aload_n 0, 55, 0, 0, 0) else none) else (bif Nat.beq pc 55 then some (.getfield 54, 58, 12, 30, 0) else none))))) else (bif Nat.blt pc 67 then (bif Nat.blt pc 61 then (bif Nat.blt pc 59 then (bif Nat.beq pc 58 then some (.iload_n 2, 59, 2, 0, 0) else none) else (bif Nat.blt pc 60 then (bif Nat.beq pc 59 then some (.iaload, 60, 0, 0, 0) else none) else (bif Nat.beq pc 60 then some (.iadd, 61, 0, 0, 0) else none))) else (bif Nat.blt pc 62 then (bif Nat.beq pc 61 then some (.aload_n 0, 62, 0, 0, 0) else none) else (bif Nat.blt pc 64 then (bif Nat.beq pc 62 then some (.bipush 79, 64, 0, 0, 79) else none) else (bif Nat.beq pc 64 then some (.invokevirtual 109, 67, 139, 1, 0) else none)))) else (bif Nat.blt pc 72 then (bif Nat.blt pc 68 then (bif Nat.beq pc 67 then some (.iastore, 68, 0, 0, 0) else none) else (bif Nat.blt pc 69 then (bif Nat.beq pc 68 then some (.aload_n 0, 69, 0, 0, 0) else none) else (bif Nat.beq pc 69 then some (.getfield 54, 72, 12, 30, 0) else none))) else (bif Nat.blt pc 73 then (bif Nat.beq pc 72 then some (.iload_n 2, 73, 2, 0, 0) else none) else (bif Nat.blt pc 74 then (bif Nat.beq pc 73 then some (.dup2, 74, 0, 0, 0) else none) else (bif Nat.beq pc 74 then some (.iaload, 75, 0, 0, 0) else none))))))) else (bif Nat.blt pc 116 then (bif Nat.blt pc 95 then (bif Nat.blt pc 82 then (bif Nat.blt pc 77 then (bif Nat.blt pc 76 then (bif Nat.beq pc 75 then some (.iconst 1, 76, 0, 0, 1) else none) else (bif Nat.beq pc 76 then some (.iadd, 77, 0, 0, 0) else none)) else (bif Nat.blt pc 78 then (bif Nat.beq pc 77 then some (.iastore, 78, 0, 0, 0) else none) else (bif Nat.blt pc 79 then (bif Nat.beq pc 78 then some (.aload_n 0, 79, 0, 0, 0) else none) else (bif Nat.beq pc 79 then some (.invokevirtual 93, 82, 137, 0, 0) else none)))) else (bif Nat.blt pc 89 then (bif Nat.blt pc 85 then (bif Nat.beq pc 82 then some (.ifCond .eq 16, 85, 98, 0, 0) else none) else (bif Nat.blt pc 86 then (bif Nat.beq pc 85 then some (.aload_n 0, 86, 0, 0, 0) else none) else (bif Nat.beq pc 86 then some (.invokevirtual 97, 89, 138, 0, 0) else none))) else (bif Nat.blt pc 91 then (bif Nat.beq pc 89 then some (.bipush 44, 91, 0, 0, 44) else none) else (bif Nat.blt pc 94 then (bif Nat.beq pc 91 then some (.if_icmp .ne 7, 94, 98, 0, 0) else none) else (bif Nat.beq pc 94 then some (.iconst 1, 95, 0, 0, 1) else none))))) else (bif Nat.blt pc 105 then (bif Nat.blt pc 100 then (bif Nat.blt pc 98 then (bif Nat.beq pc 95 then some (.goto 4, 98, 99, 0, 0) else none) else (bif Nat.blt pc 99 then (bif Nat.beq pc 98 then some (.iconst 0, 99, 0, 0, 0) else none) else (bif Nat.beq pc 99 then some (.istore_n 3, 100, 3, 0, 0) else none))) else (bif Nat.blt pc 101 then (bif Nat.beq pc 100 then some (.iload_n 3, 101, 3, 0, 0) else none) else (bif Nat.blt pc 104 then (bif Nat.beq pc 101 then some (.ifCond .eq 25, 104, 126, 0, 0) else none) else (bif Nat.beq pc 104 then some (.aload_n 0, 105, 0, 0, 0) else none)))) else (bif Nat.blt pc 110 then (bif Nat.blt pc 108 then (bif Nat.beq pc 105 then some (.getfield 54, 108, 12, 30, 0) else none) else (bif Nat.blt pc 109 then (bif Nat.beq pc 108 then some (.iload_n 2, 109, 2, 0, 0) else none) else (bif Nat.beq pc 109 then some (.iaload, 110, 0, 0, 0) else none))) else (bif Nat.blt pc 112 then (bif Nat.beq pc 110 then some (.bipush 6, 112, 0, 0, 6) else none) else (bif Nat.blt pc 115 then (bif Nat.beq pc 112 then some (.if_icmp .ne 14, 115, 126, 0, 0) else none) else (bif Nat.beq pc 115 then some (.aload_n 0, 116, 0, 0, 0) else none)))))) else (bif Nat.blt pc 136 then (bif Nat.blt pc 126 then (bif Nat.blt pc 121 then (bif Nat.blt pc 117 then (bif Nat.beq pc 116 then some (.iconst 1, 117, 0, 0, 1) else none) else (bif Nat.blt pc 118 then (bif Nat.beq pc 117 then some (.aload_n 0, 118, 0, 0, 0) else none) else (bif Nat.beq pc 118 then some (.getfield 90, 121, 12, 21, 0) else none))) else (bif Nat.blt pc 124 then (bif Nat.beq pc 121 then some (.invokevirtual 101, 124, 136, 2, 0) else none) else (bif Nat.blt pc 125 then (bif Nat.beq pc 124 then some (.iconst 0, 125, 0, 0, 0) else none) else (bif Nat.beq pc 125 then some (.istore_n 3, 126, 3, 0, 0) else none)))) else (bif Nat.blt pc 131 then (bif Nat.blt pc 127 then (bif Nat.beq pc 126 then some (.aload_n 0, 127, 0, 0, 0) else none) else (bif Nat.blt pc 128 then (bif Nat.beq pc 127 then some (.dup, 128, 0, 0, 0) else none) else (bif Nat.beq pc 128 then some (.getfield 90, 131, 12, 21, 0) else none))) else (bif Nat.blt pc 132 then (bif Nat.beq pc 131 then some (.iload_n 3, 132, 3, 0, 0) else none) else (bif Nat.blt pc 135 then (bif Nat.beq pc 132 then some (.ifCond .eq 7, 135, 139, 0, 0) else none) else (bif Nat.beq pc 135 then some (.iconst 1, 136, 0, 0, 1) else none))))) else (bif Nat.blt pc 148 then (bif Nat.blt pc 141 then (bif Nat.blt pc 139 then (bif Nat.beq pc 136 then some (.goto 4, 139, 140, 0, 0) else none) else (bif Nat.blt pc 140 then (bif Nat.beq pc 139 then some (.iconst 0, 140, 0, 0, 0) else none) else (bif Nat.beq pc 140 then some (.iadd, 141, 0, 0, 0) else none))) else (bif Nat.blt pc 144 then (bif Nat.beq pc 141 then some (.putfield 90, 144, 12, 21, 0) else none) else (bif Nat.blt pc 147 then (bif Nat.beq pc 144 then some (.goto (-102), 147, 42, 0, 0) else none) else (bif Nat.beq pc 147 then some (.aload_n 0, 148, 0, 0, 0) else none)))) else (bif Nat.blt pc 153 then (bif Nat.blt pc 149 then (bif Nat.beq pc 148 then some (.dup, 149, 0, 0, 0) else none) else (bif Nat.blt pc 152 then (bif Nat.beq pc 149 then some (.getfield 116, 152, 12, 26, 0) else none) else (bif Nat.beq pc 152 then some (.iconst 1, 153, 0, 0, 1) else none))) else (bif Nat.blt pc 154 then (bif Nat.beq pc 153 then some (.iadd, 154, 0, 0, 0) else none) else (bif Nat.blt pc 157 then (bif Nat.beq pc 154 then some (.putfield 116, 157, 12, 26, 0) else none) else (bif Nat.beq pc 157 then some (.return_, 158, 0, 0, 0) else none)))))))
/-- X12_readHost -/
noncomputable def gn_c142 (pc : Nat) : Option gn_En := bif Nat.blt pc 28 then (bif Nat.blt pc 14 then (bif Nat.blt pc 8 then (bif Nat.blt pc 4 then (bif Nat.blt pc 1 then (bif Nat.beq pc 0 then some (.aload_n 0, 1, 0, 0, 0) else none) else (bif Nat.beq pc 1 then some (.getfield 119, 4, 12, 27, 0) else none)) else (bif Nat.blt pc 5 then (bif Nat.beq pc 4 then some (.iconst 4, 5, 0, 0, 4) else none) else (bif Nat.beq pc 5 then some (.if_icmp .ne 10, 8, 15, 0, 0) else none))) else (bif Nat.blt pc 10 then (bif Nat.blt pc 9 then (bif Nat.beq pc 8 then some (.aload_n 0, 9, 0, 0, 0) else none) else (bif Nat.beq pc 9 then some (.iconst 3, 10, 0, 0, 3) else none)) else (bif Nat.blt pc 11 then (bif Nat.beq pc 10 then some (.iload_n 1, 11, 1, 0, 0) else none) else (bif Nat.beq pc 11 then some (.invokevirtual 101, 14, 136, 2, 0) else none)))) else (bif Nat.blt pc 20 then (bif Nat.blt pc 16 then (bif Nat.blt pc 15 then (bif Nat.beq pc 14 then some (.return_, 15, 0, 0, 0) else none) else (bif Nat.beq pc 15 then some (.aload_n 0, 16, 0, 0, 0) else none)) else (bif Nat.blt pc 19 then (bif Nat.beq pc 16 then some (.getfield 57, 19, 12, 31, 0) else none) else (bif Nat.beq pc 19 then some (.aload_n 0, 20, 0, 0, 0) else none))) else (bif Nat.blt pc 24 then (bif Nat.blt pc 23 then (bif Nat.beq pc 20 then some (.getfield 119, 23, 12, 27, 0) else none) else (bif Nat.beq pc 23 then some (.aload_n 0, 24, 0, 0, 0) else none)) else (bif Nat.blt pc 25 then (bif Nat.beq pc 24 then some (.iconst 3, 25, 0, 0, 3) else none) else (bif Nat.beq pc 25 then some (.invokevirtual 109, 28, 139, 1, 0) else none))))) else (bif Nat.blt pc 43 then (bif Nat.blt pc 34 then (bif Nat.blt pc 30 then (bif Nat.blt pc 29 then (bif Nat.beq pc 28 then some (.iastore, 29, 0, 0, 0) else none) else (bif Nat.beq pc 29 then some (.aload_n 0, 30, 0, 0, 0) else none)) else (bif Nat.blt pc 33 then (bif Nat.beq pc 30 then some (.getfield 60, 33, 12, 32, 0) else none) else (bif Nat.beq pc 33 then some (.aload_n 0, 34, 0, 0, 0) else none))) else (bif Nat.blt pc 38 then (bif Nat.blt pc 37 then (bif Nat.beq pc 34 then some (.getfield 119, 37, 12, 27, 0) else none) else (bif Nat.beq pc 37 then some (.aload_n 0, 38, 0, 0, 0) else none)) else (bif Nat.blt pc 40 then (bif Nat.beq pc 38 then some (.bipush 9, 40, 0, 0, 9) else none) else (bif Nat.beq pc 40 then some (.invokevirtual 109, 43, 139, 1, 0) else none)))) else (bif Nat.blt pc 49 then (bif Nat.blt pc 45 then (bif Nat.blt pc 44 then (bif Nat.beq pc 43 then some (.iastore, 44, 0, 0, 0) else none) else (bif Nat.beq pc 44 then some (.aload_n 0, 45, 0, 0, 0) else none)) else (bif Nat.blt pc 46 then (bif Nat.beq pc 45 then some (.dup, 46, 0, 0, 0) else none) else (bif Nat.beq pc 46 then some (.getfield 119, 49, 12, 27, 0) else none))) else (bif Nat.blt pc 51 then (bif Nat.blt pc 50 then (bif Nat.beq pc 49 then some (.iconst 1, 50, 0, 0, 1) else none) else (bif Nat.beq pc 50 then some (.iadd, 51, 0, 0, 0) else none)) else (bif Nat.blt pc 54 then (bif Nat.beq pc 51 then some (.putfield 119, 54, 12, 27, 0) else none) else (bif Nat.beq pc 54 then some (.return_, 55, 0, 0, 0) else none)))))
/-- X12_readClause -/
noncomputable def gn_c143 (pc : Nat) : Option gn_En := bif Nat.blt pc 85 then (bif Nat.blt pc 27 then (bif Nat.blt pc 11 then (bif Nat.blt pc 5 then (bif Nat.blt pc 1 then (bif Nat.beq pc 0 then some (.aload_n 0, 1, 0, 0, 0) else none) else (bif Nat.blt pc 4 then (bif Nat.beq pc 1 then some (.invokevirtual 97, 4, 138, 0, 0) else none) else (bif Nat.beq pc 4 then some (.istore_n 1, 5, 1, 0, 0) else none))) else (bif Nat.blt pc 9 then (bif Nat.blt pc 6 then (bif Nat.beq pc 5 then some (.aload_n 0, 6, 0, 0, 0) else none) else (bif Nat.beq pc 6 then some (.getfield 90, 9, 12, 21, 0) else none)) else (bif Nat.blt pc 10 then (bif Nat.beq pc 9 then some (.istore_n 2, 10, 2, 0, 0) else none) else (bif Nat.beq pc 10 then some (.aload_n 0, 11, 0, 0, 0) else none)))) else (bif Nat.blt pc 17 then (bif Nat.blt pc 15 then (bif Nat.blt pc 12 then (bif Nat.beq pc 11 then some (.dup, 12, 0, 0, 0) else none) else (bif Nat.beq pc 12 then some (.getfield 90, 15, 12, 21, 0) else none)) else (bif Nat.blt pc 16 then (bif Nat.beq pc 15 then some (.iconst 1, 16, 0, 0, 1) else none) else (bif Nat.beq pc 16 then some (.iadd, 17, 0, 0, 0) else none))) else (bif Nat.blt pc 21 then (bif Nat.blt pc 20 then (bif Nat.beq pc 17 then some (.putfield 90, 20, 12, 21, 0) else none) else (bif Nat.beq pc 20 then some (.aload_n 0, 21, 0, 0, 0) else none)) else (bif Nat.blt pc 24 then (bif Nat.beq pc 21 then some (.getfield 105, 24, 12, 24, 0) else none) else (bif Nat.beq pc 24 then some (.ifCond .ne 16, 27, 40, 0, 0) else none))))) else (bif Nat.blt pc 39 then (bif Nat.blt pc 33 then (bif Nat.blt pc 28 then (bif Nat.beq pc 27 then some (.iload_n 1, 28, 1, 0, 0) else none) else (bif Nat.blt pc 30 then (bif Nat.beq pc 28 then some (.bipush 116, 30, 0, 0, 116) else none) else (bif Nat.beq pc 30 then some (.if_icmp .eq 10, 33, 40, 0, 0) else none))) else (bif Nat.blt pc 35 then (bif Nat.blt pc 34 then (bif Nat.beq pc 33 then some (.aload_n 0, 34, 0, 0, 0) else none) else (bif Nat.beq pc 34 then some (.iconst 1, 35, 0, 0, 1) else none)) else (bif Nat.blt pc 36 then (bif Nat.beq pc 35 then some (.iload_n 2, 36, 2, 0, 0) else none) else (bif Nat.beq pc 36 then some (.invokevirtual 101, 39, 136, 2, 0) else none)))) else (bif Nat.blt pc 77 then (bif Nat.blt pc 41 then (bif Nat.blt pc 40 then (bif Nat.beq pc 39 then some (.return_, 40, 0, 0, 0) else none) else (bif Nat.beq pc 40 then some (.iload_n 1, 41, 1, 0, 0) else none)) else (bif Nat.blt pc 76 then (bif Nat.beq pc 41 then some (.lookupswitch 59 #[(103, 43), (104, 51), (116, 35)], 76, 0, 0, 0) else none) else (bif Nat.beq pc 76 then some (.aload_n 0, 77, 0, 0, 0) else none))) else (bif Nat.blt pc 81 then (bif Nat.blt pc 78 then (bif Nat.beq pc 77 then some (.iload_n 2, 78, 2, 0, 0) else none) else (bif Nat.beq pc 78 then some (.invokevirtual 122, 81, 140, 1, 0) else none)) else (bif Nat.blt pc 84 then (bif Nat.beq pc 81 then some (.goto 25, 84, 106, 0, 0) else none) else (bif Nat.beq pc 84 then some (.aload_n 0, 85, 0, 0, 0) else none)))))) else (bif Nat.blt pc 114 then (bif Nat.blt pc 100 then (bif Nat.blt pc 92 then (bif Nat.blt pc 86 then (bif Nat.beq pc 85 then some (.iload_n 2, 86, 2, 0, 0) else none) else (bif Nat.blt pc 89 then (bif Nat.beq pc 86 then some (.invokevirtual 126, 89, 141, 1, 0) else none) else (bif Nat.beq pc 89 then some (.goto 17, 92, 106, 0, 0) else none))) else (bif Nat.blt pc 94 then (bif Nat.blt pc 93 then (bif Nat.beq pc 92 then some (.aload_n 0, 93, 0, 0, 0) else none) else (bif Nat.beq pc 93 then some (.iload_n 2, 94, 2, 0, 0) else none)) else (bif Nat.blt pc 97 then (bif Nat.beq pc 94 then some (.invokevirtual 129, 97, 142, 1, 0) else none) else (bif Nat.beq pc 97 then some (.goto 9, 100, 106, 0, 0) else none)))) else (bif Nat.blt pc 106 then (bif Nat.blt pc 102 then (bif Nat.blt pc 101 then (bif Nat.beq pc 100 then some (.aload_n 0, 101, 0, 0, 0) else none) else (bif Nat.beq pc 101 then some (.iconst 1, 102, 0, 0, 1) else none)) else (bif Nat.blt pc 103 then (bif Nat.beq pc 102 then some (.iload_n 2, 103, 2, 0, 0) else none) else (bif Nat.beq pc 103 then some (.invokevirtual 101, 106, 136, 2, 0) else none))) else (bif Nat.blt pc 110 then (bif Nat.blt pc 107 then (bif Nat.beq pc 106 then some (.aload_n 0, 107, 0, 0, 0) else none) else (bif Nat.beq pc 107 then some (.invokevirtual 93, 110, 137, 0, 0) else none)) else (bif Nat.blt pc 113 then (bif Nat.beq pc 110 then some (.ifCond .eq 21, 113, 131, 0, 0) else none) else (bif Nat.beq pc 113 then some (.aload_n 0, 114, 0, 0, 0) else none))))) else (bif Nat.blt pc 128 then (bif Nat.blt pc 122 then (bif Nat.blt pc 117 then (bif Nat.beq pc 114 then some (.invokevirtual 97, 117, 138, 0, 0) else none) else (bif Nat.blt pc 119 then (bif Nat.beq pc 117 then some (.bipush 59, 119, 0, 0, 59) else none) else (bif Nat.beq pc 119 then some (.if_icmp .eq 12, 122, 131, 0, 0) else none))) else (bif Nat.blt pc 124 then (bif Nat.blt pc 123 then (bif Nat.beq pc 122 then some (.aload_n 0, 123, 0, 0, 0) else none) else (bif Nat.beq pc 123 then some (.iconst 1, 124, 0, 0, 1) else none)) else (bif Nat.blt pc 125 then (bif Nat.beq pc 124 then some (.aload_n 0, 125, 0, 0, 0) else none) else (bif Nat.beq pc 125 then some (.getfield 90, 128, 12, 21, 0) else none)))) else (bif Nat.blt pc 136 then (bif Nat.blt pc 132 then (bif Nat.blt pc 131 then (bif Nat.beq pc 128 then some (.invokevirtual 101, 131, 136, 2, 0) else none) else (bif Nat.beq pc 131 then some (.aload_n 0, 132, 0, 0, 0) else none)) else (bif Nat.blt pc 133 then (bif Nat.beq pc 132 then some (.dup, 133, 0, 0, 0) else none) else (bif Nat.beq pc 133 then some (.getfield 90, 136, 12, 21, 0) else none))) else (bif Nat.blt pc 138 then (bif Nat.blt pc 137 then (bif Nat.beq pc 136 then some (.iconst 1, 137, 0, 0, 1) else none) else (bif Nat.beq pc 137 then some (.iadd, 138, 0, 0, 0) else none)) else (bif Nat.blt pc 141 then (bif Nat.beq pc 138 then some (.putfield 90, 141, 12, 21, 0) else none) else (bif Nat.beq pc 141 then some (.return_, 142, 0, 0, 0) else none))))))
/-- X12_evening -/
noncomputable def gn_c144 (pc : Nat) : Option gn_En := bif Nat.blt pc 46 then (bif Nat.blt pc 21 then (bif Nat.blt pc 10 then (bif Nat.blt pc 5 then (bif Nat.blt pc 1 then (bif Nat.beq pc 0 then some (.aload_n 0, 1, 0, 0, 0) else none) else (bif Nat.blt pc 2 then (bif Nat.beq pc 1 then some (.iconst 0, 2, 0, 0, 0) else none) else (bif Nat.beq pc 2 then some (.putfield 90, 5, 12, 21, 0) else none))) else (bif Nat.blt pc 6 then (bif Nat.beq pc 5 then some (.aload_n 0, 6, 0, 0, 0) else none) else (bif Nat.blt pc 7 then (bif Nat.beq pc 6 then some (.iconst 0, 7, 0, 0, 0) else none) else (bif Nat.beq pc 7 then some (.putfield 84, 10, 12, 22, 0) else none)))) else (bif Nat.blt pc 15 then (bif Nat.blt pc 11 then (bif Nat.beq pc 10 then some (.aload_n 0, 11, 0, 0, 0) else none) else (bif Nat.blt pc 12 then (bif Nat.beq pc 11 then some (.iconst 0, 12, 0, 0, 0) else none) else (bif Nat.beq pc 12 then some (.putfield 105, 15, 12, 24, 0) else none))) else (bif Nat.blt pc 17 then (bif Nat.blt pc 16 then (bif Nat.beq pc 15 then some (.aload_n 0, 16, 0, 0, 0) else none) else (bif Nat.beq pc 16 then some (.iconst 0, 17, 0, 0, 0) else none)) else (bif Nat.blt pc 20 then (bif Nat.beq pc 17 then some (.putfield 113, 20, 12, 25, 0) else none) else (bif Nat.beq pc 20 then some (.aload_n 0, 21, 0, 0, 0) else none))))) else (bif Nat.blt pc 31 then (bif Nat.blt pc 26 then (bif Nat.blt pc 22 then (bif Nat.beq pc 21 then some (.iconst 0, 22, 0, 0, 0) else none) else (bif Nat.blt pc 25 then (bif Nat.beq pc 22 then some (.putfield 116, 25, 12, 26, 0) else none) else (bif Nat.beq pc 25 then some (.aload_n 0, 26, 0, 0, 0) else none))) else (bif Nat.blt pc 27 then (bif Nat.beq pc 26 then some (.iconst 0, 27, 0, 0, 0) else none) else (bif Nat.blt pc 30 then (bif Nat.beq pc 27 then some (.putfield 119, 30, 12, 27, 0) else none) else (bif Nat.beq pc 30 then some (.aload_n 0, 31, 0, 0, 0) else none)))) else (bif Nat.blt pc 38 then (bif Nat.blt pc 34 then (bif Nat.beq pc 31 then some (.invokevirtual 93, 34, 137, 0, 0) else none) else (bif Nat.blt pc 37 then (bif Nat.beq pc 34 then some (.ifCond .eq 18, 37, 52, 0, 0) else none) else (bif Nat.beq pc 37 then some (.aload_n 0, 38, 0, 0, 0) else none))) else (bif Nat.blt pc 42 then (bif Nat.blt pc 41 then (bif Nat.beq pc 38 then some (.invokevirtual 97, 41, 138, 0, 0) else none) else (bif Nat.beq pc 41 then some (.iconst (-1), 42, 0, 0, (-1)) else none)) else (bif Nat.blt pc 45 then (bif Nat.beq pc 42 then some (.if_icmp .eq 10, 45, 52, 0, 0) else none) else (bif Nat.beq pc 45 then some (.aload_n 0, 46, 0, 0, 0) else none)))))) else (bif Nat.blt pc 73 then (bif Nat.blt pc 58 then (bif Nat.blt pc 53 then (bif Nat.blt pc 49 then (bif Nat.beq pc 46 then some (.invokevirtual 132, 49, 143, 0, 0) else none) else (bif Nat.blt pc 52 then (bif Nat.beq pc 49 then some (.goto (-19), 52, 30, 0, 0) else none) else (bif Nat.beq pc 52 then some (.aload_n 0, 53, 0, 0, 0) else none))) else (bif Nat.blt pc 54 then (bif Nat.beq pc 53 then some (.iconst 0, 54, 0, 0, 0) else none) else (bif Nat.blt pc 57 then (bif Nat.beq pc 54 then some (.putfield 80, 57, 12, 13, 0) else none) else (bif Nat.beq pc 57 then some (.aload_n 0, 58, 0, 0, 0) else none)))) else (bif Nat.blt pc 65 then (bif Nat.blt pc 59 then (bif Nat.beq pc 58 then some (.aload_n 0, 59, 0, 0, 0) else none) else (bif Nat.blt pc 62 then (bif Nat.beq pc 59 then some (.invokevirtual 93, 62, 137, 0, 0) else none) else (bif Nat.beq pc 62 then some (.ifCond .eq 7, 65, 69, 0, 0) else none))) else (bif Nat.blt pc 69 then (bif Nat.blt pc 66 then (bif Nat.beq pc 65 then some (.iconst (-1), 66, 0, 0, (-1)) else none) else (bif Nat.beq pc 66 then some (.goto 7, 69, 73, 0, 0) else none)) else (bif Nat.blt pc 70 then (bif Nat.beq pc 69 then some (.aload_n 0, 70, 0, 0, 0) else none) else (bif Nat.beq pc 70 then some (.getfield 87, 73, 12, 23, 0) else none))))) else (bif Nat.blt pc 89 then (bif Nat.blt pc 80 then (bif Nat.blt pc 76 then (bif Nat.beq pc 73 then some (.putfield 31, 76, 12, 14, 0) else none) else (bif Nat.blt pc 77 then (bif Nat.beq pc 76 then some (.aload_n 0, 77, 0, 0, 0) else none) else (bif Nat.beq pc 77 then some (.invokevirtual 93, 80, 137, 0, 0) else none))) else (bif Nat.blt pc 85 then (bif Nat.blt pc 83 then (bif Nat.beq pc 80 then some (.ifCond .ne 11, 83, 91, 0, 0) else none) else (bif Nat.beq pc 83 then some (.bipush (-10), 85, 0, 0, (-10)) else none)) else (bif Nat.blt pc 86 then (bif Nat.beq pc 85 then some (.aload_n 0, 86, 0, 0, 0) else none) else (bif Nat.beq pc 86 then some (.getfield 84, 89, 12, 22, 0) else none)))) else (bif Nat.blt pc 92 then (bif Nat.blt pc 90 then (bif Nat.beq pc 89 then some (.isub, 90, 0, 0, 0) else none) else (bif Nat.blt pc 91 then (bif Nat.beq pc 90 then some (.ireturn, 91, 0, 0, 0) else none) else (bif Nat.beq pc 91 then some (.aload_n 0, 92, 0, 0, 0) else none))) else (bif Nat.blt pc 96 then (bif Nat.blt pc 95 then (bif Nat.beq pc 92 then some (.invokevirtual 135, 95, 145, 0, 0) else none) else (bif Nat.beq pc 95 then some (.aload_n 0, 96, 0, 0, 0) else none)) else (bif Nat.blt pc 99 then (bif Nat.beq pc 96 then some (.getfield 69, 99, 12, 8, 0) else none) else (bif Nat.beq pc 99 then some (.ireturn, 100, 0, 0, 0) else none))))))
/-- X12_begin -/
noncomputable def gn_c145 (pc : Nat) : Option gn_En := bif Nat.blt pc 104 then (bif Nat.blt pc 53 then (bif Nat.blt pc 26 then (bif Nat.blt pc 13 then (bif Nat.blt pc 5 then (bif Nat.blt pc 1 then (bif Nat.beq pc 0 then some (.aload_n 0, 1, 0, 0, 0) else none) else (bif Nat.blt pc 2 then (bif Nat.beq pc 1 then some (.aload_n 0, 2, 0, 0, 0) else none) else (bif Nat.beq pc 2 then some (.getfield 105, 5, 12, 24, 0) else none))) else (bif Nat.blt pc 9 then (bif Nat.blt pc 8 then (bif Nat.beq pc 5 then some (.putfield 138, 8, 12, 6, 0) else none) else (bif Nat.beq pc 8 then some (.aload_n 0, 9, 0, 0, 0) else none)) else (bif Nat.blt pc 10 then (bif Nat.beq pc 9 then some (.aload_n 0, 10, 0, 0, 0) else none) else (bif Nat.beq pc 10 then some (.getfield 113, 13, 12, 25, 0) else none)))) else (bif Nat.blt pc 18 then (bif Nat.blt pc 16 then (bif Nat.beq pc 13 then some (.putfield 141, 16, 12, 7, 0) else none) else (bif Nat.blt pc 17 then (bif Nat.beq pc 16 then some (.aload_n 0, 17, 0, 0, 0) else none) else (bif Nat.beq pc 17 then some (.aload_n 0, 18, 0, 0, 0) else none))) else (bif Nat.blt pc 24 then (bif Nat.blt pc 21 then (bif Nat.beq pc 18 then some (.getfield 116, 21, 12, 26, 0) else none) else (bif Nat.beq pc 21 then some (.putfield 69, 24, 12, 8, 0) else none)) else (bif Nat.blt pc 25 then (bif Nat.beq pc 24 then some (.aload_n 0, 25, 0, 0, 0) else none) else (bif Nat.beq pc 25 then some (.aload_n 0, 26, 0, 0, 0) else none))))) else (bif Nat.blt pc 39 then (bif Nat.blt pc 33 then (bif Nat.blt pc 29 then (bif Nat.beq pc 26 then some (.getfield 119, 29, 12, 27, 0) else none) else (bif Nat.blt pc 32 then (bif Nat.beq pc 29 then some (.putfield 76, 32, 12, 9, 0) else none) else (bif Nat.beq pc 32 then some (.iconst 0, 33, 0, 0, 0) else none))) else (bif Nat.blt pc 35 then (bif Nat.blt pc 34 then (bif Nat.beq pc 33 then some (.istore_n 1, 34, 1, 0, 0) else none) else (bif Nat.beq pc 34 then some (.iload_n 1, 35, 1, 0, 0) else none)) else (bif Nat.blt pc 36 then (bif Nat.beq pc 35 then some (.aload_n 0, 36, 0, 0, 0) else none) else (bif Nat.beq pc 36 then some (.getfield 69, 39, 12, 8, 0) else none)))) else (bif Nat.blt pc 47 then (bif Nat.blt pc 43 then (bif Nat.blt pc 42 then (bif Nat.beq pc 39 then some (.if_icmp .ge 33, 42, 72, 0, 0) else none) else (bif Nat.beq pc 42 then some (.aload_n 0, 43, 0, 0, 0) else none)) else (bif Nat.blt pc 46 then (bif Nat.beq pc 43 then some (.getfield 13, 46, 12, 1, 0) else none) else (bif Nat.beq pc 46 then some (.iload_n 1, 47, 1, 0, 0) else none))) else (bif Nat.blt pc 51 then (bif Nat.blt pc 48 then (bif Nat.beq pc 47 then some (.aload_n 0, 48, 0, 0, 0) else none) else (bif Nat.beq pc 48 then some (.getfield 48, 51, 12, 28, 0) else none)) else (bif Nat.blt pc 52 then (bif Nat.beq pc 51 then some (.iload_n 1, 52, 1, 0, 0) else none) else (bif Nat.beq pc 52 then some (.iaload, 53, 0, 0, 0) else none)))))) else (bif Nat.blt pc 77 then (bif Nat.blt pc 64 then (bif Nat.blt pc 58 then (bif Nat.blt pc 54 then (bif Nat.beq pc 53 then some (.iastore, 54, 0, 0, 0) else none) else (bif Nat.blt pc 55 then (bif Nat.beq pc 54 then some (.aload_n 0, 55, 0, 0, 0) else none) else (bif Nat.beq pc 55 then some (.getfield 19, 58, 12, 3, 0) else none))) else (bif Nat.blt pc 60 then (bif Nat.blt pc 59 then (bif Nat.beq pc 58 then some (.iload_n 1, 59, 1, 0, 0) else none) else (bif Nat.beq pc 59 then some (.aload_n 0, 60, 0, 0, 0) else none)) else (bif Nat.blt pc 63 then (bif Nat.beq pc 60 then some (.getfield 54, 63, 12, 30, 0) else none) else (bif Nat.beq pc 63 then some (.iload_n 1, 64, 1, 0, 0) else none)))) else (bif Nat.blt pc 72 then (bif Nat.blt pc 66 then (bif Nat.blt pc 65 then (bif Nat.beq pc 64 then some (.iaload, 65, 0, 0, 0) else none) else (bif Nat.beq pc 65 then some (.iastore, 66, 0, 0, 0) else none)) else (bif Nat.blt pc 69 then (bif Nat.beq pc 66 then some (.iinc 1 1, 69, 1, 0, 1) else none) else (bif Nat.beq pc 69 then some (.goto (-35), 72, 34, 0, 0) else none))) else (bif Nat.blt pc 74 then (bif Nat.blt pc 73 then (bif Nat.beq pc 72 then some (.iconst 0, 73, 0, 0, 0) else none) else (bif Nat.beq pc 73 then some (.istore_n 1, 74, 1, 0, 0) else none)) else (bif Nat.blt pc 75 then (bif Nat.beq pc 74 then some (.iload_n 1, 75, 1, 0, 0) else none) else (bif Nat.beq pc 75 then some (.bipush 6, 77, 0, 0, 6) else none))))) else (bif Nat.blt pc 90 then (bif Nat.blt pc 82 then (bif Nat.blt pc 78 then (bif Nat.beq pc 77 then some (.aload_n 0, 78, 0, 0, 0) else none) else (bif Nat.blt pc 81 then (bif Nat.beq pc 78 then some (.getfield 69, 81, 12, 8, 0) else none) else (bif Nat.beq pc 81 then some (.imul, 82, 0, 0, 0) else none))) else (bif Nat.blt pc 86 then (bif Nat.blt pc 85 then (bif Nat.beq pc 82 then some (.if_icmp .ge 21, 85, 103, 0, 0) else none) else (bif Nat.beq pc 85 then some (.aload_n 0, 86, 0, 0, 0) else none)) else (bif Nat.blt pc 89 then (bif Nat.beq pc 86 then some (.getfield 16, 89, 12, 2, 0) else none) else (bif Nat.beq pc 89 then some (.iload_n 1, 90, 1, 0, 0) else none)))) else (bif Nat.blt pc 96 then (bif Nat.blt pc 94 then (bif Nat.blt pc 91 then (bif Nat.beq pc 90 then some (.aload_n 0, 91, 0, 0, 0) else none) else (bif Nat.beq pc 91 then some (.getfield 51, 94, 12, 29, 0) else none)) else (bif Nat.blt pc 95 then (bif Nat.beq pc 94 then some (.iload_n 1, 95, 1, 0, 0) else none) else (bif Nat.beq pc 95 then some (.iaload, 96, 0, 0, 0) else none))) else (bif Nat.blt pc 100 then (bif Nat.blt pc 97 then (bif Nat.beq pc 96 then some (.iastore, 97, 0, 0, 0) else none) else (bif Nat.beq pc 97 then some (.iinc 1 1, 100, 1, 0, 1) else none)) else (bif Nat.blt pc 103 then (bif Nat.beq pc 100 then some (.goto (-26), 103, 74, 0, 0) else none) else (bif Nat.beq pc 103 then some (.iconst 0, 104, 0, 0, 0) else none))))))) else (bif Nat.blt pc 153 then (bif Nat.blt pc 129 then (bif Nat.blt pc 117 then (bif Nat.blt pc 107 then (bif Nat.blt pc 105 then (bif Nat.beq pc 104 then some (.istore_n 1, 105, 1, 0, 0) else none) else (bif Nat.blt pc 106 then (bif Nat.beq pc 105 then some (.iload_n 1, 106, 1, 0, 0) else none) else (bif Nat.beq pc 106 then some (.aload_n 0, 107, 0, 0, 0) else none))) else (bif Nat.blt pc 113 then (bif Nat.blt pc 110 then (bif Nat.beq pc 107 then some (.getfield 76, 110, 12, 9, 0) else none) else (bif Nat.beq pc 110 then some (.if_icmp .ge 33, 113, 143, 0, 0) else none)) else (bif Nat.blt pc 114 then (bif Nat.beq pc 113 then some (.aload_n 0, 114, 0, 0, 0) else none) else (bif Nat.beq pc 114 then some (.getfield 22, 117, 12, 4, 0) else none)))) else (bif Nat.blt pc 123 then (bif Nat.blt pc 119 then (bif Nat.blt pc 118 then (bif Nat.beq pc 117 then some (.iload_n 1, 118, 1, 0, 0) else none) else (bif Nat.beq pc 118 then some (.aload_n 0, 119, 0, 0, 0) else none)) else (bif Nat.blt pc 122 then (bif Nat.beq pc 119 then some (.getfield 57, 122, 12, 31, 0) else none) else (bif Nat.beq pc 122 then some (.iload_n 1, 123, 1, 0, 0) else none))) else (bif Nat.blt pc 125 then (bif Nat.blt pc 124 then (bif Nat.beq pc 123 then some (.iaload, 124, 0, 0, 0) else none) else (bif Nat.beq pc 124 then some (.iastore, 125, 0, 0, 0) else none)) else (bif Nat.blt pc 126 then (bif Nat.beq pc 125 then some (.aload_n 0, 126, 0, 0, 0) else none) else (bif Nat.beq pc 126 then some (.getfield 25, 129, 12, 5, 0) else none))))) else (bif Nat.blt pc 140 then (bif Nat.blt pc 134 then (bif Nat.blt pc 130 then (bif Nat.beq pc 129 then some (.iload_n 1, 130, 1, 0, 0) else none) else (bif Nat.blt pc 131 then (bif Nat.beq pc 130 then some (.aload_n 0, 131, 0, 0, 0) else none) else (bif Nat.beq pc 131 then some (.getfield 60, 134, 12, 32, 0) else none))) else (bif Nat.blt pc 136 then (bif Nat.blt pc 135 then (bif Nat.beq pc 134 then some (.iload_n 1, 135, 1, 0, 0) else none) else (bif Nat.beq pc 135 then some (.iaload, 136, 0, 0, 0) else none)) else (bif Nat.blt pc 137 then (bif Nat.beq pc 136 then some (.iastore, 137, 0, 0, 0) else none) else (bif Nat.beq pc 137 then some (.iinc 1 1, 140, 1, 0, 1) else none)))) else (bif Nat.blt pc 149 then (bif Nat.blt pc 144 then (bif Nat.blt pc 143 then (bif Nat.beq pc 140 then some (.goto (-35), 143, 105, 0, 0) else none) else (bif Nat.beq pc 143 then some (.aload_n 0, 144, 0, 0, 0) else none)) else (bif Nat.blt pc 147 then (bif Nat.beq pc 144 then some (.getfield 7, 147, 12, 0, 0) else none) else (bif Nat.beq pc 147 then some (.bipush 28, 149, 0, 0, 28) else none))) else (bif Nat.blt pc 151 then (bif Nat.blt pc 150 then (bif Nat.beq pc 149 then some (.iaload, 150, 0, 0, 0) else none) else (bif Nat.beq pc 150 then some (.istore_n 1, 151, 1, 0, 0) else none)) else (bif Nat.blt pc 152 then (bif Nat.beq pc 151 then some (.iconst 0, 152, 0, 0, 0) else none) else (bif Nat.beq pc 152 then some (.istore_n 2, 153, 2, 0, 0) else none)))))) else (bif Nat.blt pc 180 then (bif Nat.blt pc 165 then (bif Nat.blt pc 159 then (bif Nat.blt pc 154 then (bif Nat.beq pc 153 then some (.iload_n 2, 154, 2, 0, 0) else none) else (bif Nat.blt pc 156 then (bif Nat.beq pc 154 then some (.bipush 29, 156, 0, 0, 29) else none) else (bif Nat.beq pc 156 then some (.if_icmp .ge 16, 159, 172, 0, 0) else none))) else (bif Nat.blt pc 163 then (bif Nat.blt pc 160 then (bif Nat.beq pc 159 then some (.aload_n 0, 160, 0, 0, 0) else none) else (bif Nat.beq pc 160 then some (.getfield 7, 163, 12, 0, 0) else none)) else (bif Nat.blt pc 164 then (bif Nat.beq pc 163 then some (.iload_n 2, 164, 2, 0, 0) else none) else (bif Nat.beq pc 164 then some (.iconst 0, 165, 0, 0, 0) else none)))) else (bif Nat.blt pc 173 then (bif Nat.blt pc 169 then (bif Nat.blt pc 166 then (bif Nat.beq pc 165 then some (.iastore, 166, 0, 0, 0) else none) else (bif Nat.beq pc 166 then some (.iinc 2 1, 169, 2, 0, 1) else none)) else (bif Nat.blt pc 172 then (bif Nat.beq pc 169 then some (.goto (-16), 172, 153, 0, 0) else none) else (bif Nat.beq pc 172 then some (.aload_n 0, 173, 0, 0, 0) else none))) else (bif Nat.blt pc 178 then (bif Nat.blt pc 176 then (bif Nat.beq pc 173 then some (.getfield 7, 176, 12, 0, 0) else none) else (bif Nat.beq pc 176 then some (.bipush 28, 178, 0, 0, 28) else none)) else (bif Nat.blt pc 179 then (bif Nat.beq pc 178 then some (.iload_n 1, 179, 1, 0, 0) else none) else (bif Nat.beq pc 179 then some (.iastore, 180, 0, 0, 0) else none))))) else (bif Nat.blt pc 191 then (bif Nat.blt pc 185 then (bif Nat.blt pc 181 then (bif Nat.beq pc 180 then some (.aload_n 0, 181, 0, 0, 0) else none) else (bif Nat.blt pc 184 then (bif Nat.beq pc 181 then some (.invokevirtual 144, 184, 146, 0, 0) else none) else (bif Nat.beq pc 184 then some (.aload_n 0, 185, 0, 0, 0) else none))) else (bif Nat.blt pc 189 then (bif Nat.blt pc 186 then (bif Nat.beq pc 185 then some (.iconst 0, 186, 0, 0, 0) else none) else (bif Nat.beq pc 186 then some (.putfield 147, 189, 12, 10, 0) else none)) else (bif Nat.blt pc 190 then (bif Nat.beq pc 189 then some (.aload_n 0, 190, 0, 0, 0) else none) else (bif Nat.beq pc 190 then some (.iconst 0, 191, 0, 0, 0) else none)))) else (bif Nat.blt pc 199 then (bif Nat.blt pc 195 then (bif Nat.blt pc 194 then (bif Nat.beq pc 191 then some (.putfield 150, 194, 12, 11, 0) else none) else (bif Nat.beq pc 194 then some (.aload_n 0, 195, 0, 0, 0) else none)) else (bif Nat.blt pc 196 then (bif Nat.beq pc 195 then some (.iconst 0, 196, 0, 0, 0) else none) else (bif Nat.beq pc 196 then some (.putfield 153, 199, 12, 17, 0) else none))) else (bif Nat.blt pc 201 then (bif Nat.blt pc 200 then (bif Nat.beq pc 199 then some (.aload_n 0, 200, 0, 0, 0) else none) else (bif Nat.beq pc 200 then some (.iconst 0, 201, 0, 0, 0) else none)) else (bif Nat.blt pc 204 then (bif Nat.beq pc 201 then some (.putfield 156, 204, 12, 20, 0) else none) else (bif Nat.beq pc 204 then some (.return_, 205, 0, 0, 0) else none)))))))
/-- X12_allAnew -/
noncomputable def gn_c146 (pc : Nat) : Option gn_En := bif Nat.blt pc 52 then (bif Nat.blt pc 24 then (bif Nat.blt pc 13 then (bif Nat.blt pc 5 then (bif Nat.blt pc 2 then (bif Nat.blt pc 1 then (bif Nat.beq pc 0 then some (.iconst 0, 1, 0, 0, 0) else none) else (bif Nat.beq pc 1 then some (.istore_n 1, 2, 1, 0, 0) else none)) else (bif Nat.blt pc 3 then (bif Nat.beq pc 2 then some (.iload_n 1, 3, 1, 0, 0) else none) else (bif Nat.beq pc 3 then some (.bipush 6, 5, 0, 0, 6) else none))) else (bif Nat.blt pc 9 then (bif Nat.blt pc 8 then (bif Nat.beq pc 5 then some (.if_icmp .ge 36, 8, 41, 0, 0) else none) else (bif Nat.beq pc 8 then some (.aload_n 0, 9, 0, 0, 0) else none)) else (bif Nat.blt pc 12 then (bif Nat.beq pc 9 then some (.getfield 7, 12, 12, 0, 0) else none) else (bif Nat.beq pc 12 then some (.iload_n 1, 13, 1, 0, 0) else none)))) else (bif Nat.blt pc 19 then (bif Nat.blt pc 15 then (bif Nat.blt pc 14 then (bif Nat.beq pc 13 then some (.iconst 0, 14, 0, 0, 0) else none) else (bif Nat.beq pc 14 then some (.iastore, 15, 0, 0, 0) else none)) else (bif Nat.blt pc 16 then (bif Nat.beq pc 15 then some (.aload_n 0, 16, 0, 0, 0) else none) else (bif Nat.beq pc 16 then some (.getfield 7, 19, 12, 0, 0) else none))) else (bif Nat.blt pc 22 then (bif Nat.blt pc 21 then (bif Nat.beq pc 19 then some (.bipush 6, 21, 0, 0, 6) else none) else (bif Nat.beq pc 21 then some (.iload_n 1, 22, 1, 0, 0) else none)) else (bif Nat.blt pc 23 then (bif Nat.beq pc 22 then some (.iadd, 23, 0, 0, 0) else none) else (bif Nat.beq pc 23 then some (.iconst (-1), 24, 0, 0, (-1)) else none))))) else (bif Nat.blt pc 35 then (bif Nat.blt pc 31 then (bif Nat.blt pc 26 then (bif Nat.blt pc 25 then (bif Nat.beq pc 24 then some (.iastore, 25, 0, 0, 0) else none) else (bif Nat.beq pc 25 then some (.aload_n 0, 26, 0, 0, 0) else none)) else (bif Nat.blt pc 29 then (bif Nat.beq pc 26 then some (.getfield 7, 29, 12, 0, 0) else none) else (bif Nat.beq pc 29 then some (.bipush 12, 31, 0, 0, 12) else none))) else (bif Nat.blt pc 33 then (bif Nat.blt pc 32 then (bif Nat.beq pc 31 then some (.iload_n 1, 32, 1, 0, 0) else none) else (bif Nat.beq pc 32 then some (.iadd, 33, 0, 0, 0) else none)) else (bif Nat.blt pc 34 then (bif Nat.beq pc 33 then some (.iconst (-1), 34, 0, 0, (-1)) else none) else (bif Nat.beq pc 34 then some (.iastore, 35, 0, 0, 0) else none)))) else (bif Nat.blt pc 45 then (bif Nat.blt pc 41 then (bif Nat.blt pc 38 then (bif Nat.beq pc 35 then some (.iinc 1 1, 38, 1, 0, 1) else none) else (bif Nat.beq pc 38 then some (.goto (-36), 41, 2, 0, 0) else none)) else (bif Nat.blt pc 42 then (bif Nat.beq pc 41 then some (.aload_n 0, 42, 0, 0, 0) else none) else (bif Nat.beq pc 42 then some (.getfield 7, 45, 12, 0, 0) else none))) else (bif Nat.blt pc 48 then (bif Nat.blt pc 47 then (bif Nat.beq pc 45 then some (.bipush 18, 47, 0, 0, 18) else none) else (bif Nat.beq pc 47 then some (.iconst 1, 48, 0, 0, 1) else none)) else (bif Nat.blt pc 49 then (bif Nat.beq pc 48 then some (.aload_n 0, 49, 0, 0, 0) else none) else (bif Nat.beq pc 49 then some (.getfield 69, 52, 12, 8, 0) else none)))))) else (bif Nat.blt pc 75 then (bif Nat.blt pc 63 then (bif Nat.blt pc 56 then (bif Nat.blt pc 54 then (bif Nat.blt pc 53 then (bif Nat.beq pc 52 then some (.ishl, 53, 0, 0, 0) else none) else (bif Nat.beq pc 53 then some (.iconst 1, 54, 0, 0, 1) else none)) else (bif Nat.blt pc 55 then (bif Nat.beq pc 54 then some (.isub, 55, 0, 0, 0) else none) else (bif Nat.beq pc 55 then some (.iastore, 56, 0, 0, 0) else none))) else (bif Nat.blt pc 60 then (bif Nat.blt pc 57 then (bif Nat.beq pc 56 then some (.aload_n 0, 57, 0, 0, 0) else none) else (bif Nat.beq pc 57 then some (.getfield 7, 60, 12, 0, 0) else none)) else (bif Nat.blt pc 62 then (bif Nat.beq pc 60 then some (.bipush 19, 62, 0, 0, 19) else none) else (bif Nat.beq pc 62 then some (.iconst 0, 63, 0, 0, 0) else none)))) else (bif Nat.blt pc 67 then (bif Nat.blt pc 65 then (bif Nat.blt pc 64 then (bif Nat.beq pc 63 then some (.iastore, 64, 0, 0, 0) else none) else (bif Nat.beq pc 64 then some (.iconst 0, 65, 0, 0, 0) else none)) else (bif Nat.blt pc 66 then (bif Nat.beq pc 65 then some (.istore_n 1, 66, 1, 0, 0) else none) else (bif Nat.beq pc 66 then some (.iload_n 1, 67, 1, 0, 0) else none))) else (bif Nat.blt pc 71 then (bif Nat.blt pc 68 then (bif Nat.beq pc 67 then some (.iconst 4, 68, 0, 0, 4) else none) else (bif Nat.beq pc 68 then some (.if_icmp .ge 36, 71, 104, 0, 0) else none)) else (bif Nat.blt pc 72 then (bif Nat.beq pc 71 then some (.aload_n 0, 72, 0, 0, 0) else none) else (bif Nat.beq pc 72 then some (.getfield 7, 75, 12, 0, 0) else none))))) else (bif Nat.blt pc 88 then (bif Nat.blt pc 80 then (bif Nat.blt pc 78 then (bif Nat.blt pc 77 then (bif Nat.beq pc 75 then some (.bipush 20, 77, 0, 0, 20) else none) else (bif Nat.beq pc 77 then some (.iload_n 1, 78, 1, 0, 0) else none)) else (bif Nat.blt pc 79 then (bif Nat.beq pc 78 then some (.iadd, 79, 0, 0, 0) else none) else (bif Nat.beq pc 79 then some (.iload_n 1, 80, 1, 0, 0) else none))) else (bif Nat.blt pc 84 then (bif Nat.blt pc 81 then (bif Nat.beq pc 80 then some (.aload_n 0, 81, 0, 0, 0) else none) else (bif Nat.beq pc 81 then some (.getfield 76, 84, 12, 9, 0) else none)) else (bif Nat.blt pc 87 then (bif Nat.beq pc 84 then some (.if_icmp .ge 12, 87, 96, 0, 0) else none) else (bif Nat.beq pc 87 then some (.aload_n 0, 88, 0, 0, 0) else none)))) else (bif Nat.blt pc 96 then (bif Nat.blt pc 92 then (bif Nat.blt pc 91 then (bif Nat.beq pc 88 then some (.getfield 25, 91, 12, 5, 0) else none) else (bif Nat.beq pc 91 then some (.iload_n 1, 92, 1, 0, 0) else none)) else (bif Nat.blt pc 93 then (bif Nat.beq pc 92 then some (.iaload, 93, 0, 0, 0) else none) else (bif Nat.beq pc 93 then some (.goto 4, 96, 97, 0, 0) else none))) else (bif Nat.blt pc 98 then (bif Nat.blt pc 97 then (bif Nat.beq pc 96 then some (.iconst 0, 97, 0, 0, 0) else none) else (bif Nat.beq pc 97 then some (.iastore, 98, 0, 0, 0) else none)) else (bif Nat.blt pc 101 then (bif Nat.beq pc 98 then some (.iinc 1 1, 101, 1, 0, 1) else none) else (bif Nat.blt pc 104 then (bif Nat.beq pc 101 then some (.goto (-35), 104, 66, 0, 0) else none) else (bif Nat.beq pc 104 then some (.return_, 105, 0, 0, 0) else none)))))))
/-- X12_fault -/
noncomputable def gn_c147 (pc : Nat) : Option gn_En := bif Nat.blt pc 1 then (bif Nat.beq pc 0 then some (.aload_n 0, 1, 0, 0, 0) else none) else (bif Nat.blt pc 4 then (bif Nat.beq pc 1 then some (.getfield 31, 4, 12, 14, 0) else none) else (bif Nat.beq pc 4 then some (.ireturn, 5, 0, 0, 0) else none))
/-- X12_topicOf -/
noncomputable def gn_c148 (pc : Nat) : Option gn_En := bif Nat.blt pc 8 then (bif Nat.blt pc 4 then (bif Nat.blt pc 1 then (bif Nat.beq pc 0 then some (.aload_n 0, 1, 0, 0, 0) else none) else (bif Nat.beq pc 1 then some (.getfield 16, 4, 12, 2, 0) else none)) else (bif Nat.blt pc 6 then (bif Nat.beq pc 4 then some (.bipush 6, 6, 0, 0, 6) else none) else (bif Nat.blt pc 7 then (bif Nat.beq pc 6 then some (.iload_n 1, 7, 1, 0, 0) else none) else (bif Nat.beq pc 7 then some (.imul, 8, 0, 0, 0) else none)))) else (bif Nat.blt pc 11 then (bif Nat.blt pc 9 then (bif Nat.beq pc 8 then some (.iload_n 2, 9, 2, 0, 0) else none) else (bif Nat.blt pc 10 then (bif Nat.beq pc 9 then some (.iadd, 10, 0, 0, 0) else none) else (bif Nat.beq pc 10 then some (.iaload, 11, 0, 0, 0) else none))) else (bif Nat.blt pc 13 then (bif Nat.beq pc 11 then some (.bipush 10, 13, 0, 0, 10) else none) else (bif Nat.blt pc 14 then (bif Nat.beq pc 13 then some (.idiv, 14, 0, 0, 0) else none) else (bif Nat.beq pc 14 then some (.ireturn, 15, 0, 0, 0) else none))))
/-- X12_boldOf -/
noncomputable def gn_c149 (pc : Nat) : Option gn_En := bif Nat.blt pc 8 then (bif Nat.blt pc 4 then (bif Nat.blt pc 1 then (bif Nat.beq pc 0 then some (.aload_n 0, 1, 0, 0, 0) else none) else (bif Nat.beq pc 1 then some (.getfield 16, 4, 12, 2, 0) else none)) else (bif Nat.blt pc 6 then (bif Nat.beq pc 4 then some (.bipush 6, 6, 0, 0, 6) else none) else (bif Nat.blt pc 7 then (bif Nat.beq pc 6 then some (.iload_n 1, 7, 1, 0, 0) else none) else (bif Nat.beq pc 7 then some (.imul, 8, 0, 0, 0) else none)))) else (bif Nat.blt pc 11 then (bif Nat.blt pc 9 then (bif Nat.beq pc 8 then some (.iload_n 2, 9, 2, 0, 0) else none) else (bif Nat.blt pc 10 then (bif Nat.beq pc 9 then some (.iadd, 10, 0, 0, 0) else none) else (bif Nat.beq pc 10 then some (.iaload, 11, 0, 0, 0) else none))) else (bif Nat.blt pc 13 then (bif Nat.beq pc 11 then some (.bipush 10, 13, 0, 0, 10) else none) else (bif Nat.blt pc 14 then (bif Nat.beq pc 13 then some (.irem, 14, 0, 0, 0) else none) else (bif Nat.beq pc 14 then some (.ireturn, 15, 0, 0, 0) else none))))
/-- X12_plainJoy -/
noncomputable def gn_c150 (pc : Nat) : Option gn_En := bif Nat.blt pc 77 then (bif Nat.blt pc 28 then (bif Nat.blt pc 12 then (bif Nat.blt pc 3 then (bif Nat.blt pc 1 then (bif Nat.beq pc 0 then some (.aload_n 0, 1, 0, 0, 0) else none) else (bif Nat.blt pc 2 then (bif Nat.beq pc 1 then some (.iload_n 1, 2, 1, 0, 0) else none) else (bif Nat.beq pc 2 then some (.iload_n 3, 3, 3, 0, 0) else none))) else (bif Nat.blt pc 8 then (bif Nat.blt pc 6 then (bif Nat.beq pc 3 then some (.invokevirtual 159, 6, 149, 2, 0) else none) else (bif Nat.beq pc 6 then some (.istore 4, 8, 4, 0, 0) else none)) else (bif Nat.blt pc 9 then (bif Nat.beq pc 8 then some (.aload_n 0, 9, 0, 0, 0) else none) else (bif Nat.beq pc 9 then some (.getfield 141, 12, 12, 7, 0) else none)))) else (bif Nat.blt pc 18 then (bif Nat.blt pc 14 then (bif Nat.blt pc 13 then (bif Nat.beq pc 12 then some (.aload_n 0, 13, 0, 0, 0) else none) else (bif Nat.beq pc 13 then some (.iload_n 1, 14, 1, 0, 0) else none)) else (bif Nat.blt pc 15 then (bif Nat.beq pc 14 then some (.iload_n 3, 15, 3, 0, 0) else none) else (bif Nat.beq pc 15 then some (.invokevirtual 163, 18, 148, 2, 0) else none))) else (bif Nat.blt pc 23 then (bif Nat.blt pc 21 then (bif Nat.beq pc 18 then some (.invokestatic 166, 21, 131, 2, 0) else none) else (bif Nat.beq pc 21 then some (.istore 5, 23, 5, 0, 0) else none)) else (bif Nat.blt pc 25 then (bif Nat.beq pc 23 then some (.iload 5, 25, 5, 0, 0) else none) else (bif Nat.beq pc 25 then some (.ifCond .eq 12, 28, 37, 0, 0) else none))))) else (bif Nat.blt pc 40 then (bif Nat.blt pc 33 then (bif Nat.blt pc 29 then (bif Nat.beq pc 28 then some (.aload_n 0, 29, 0, 0, 0) else none) else (bif Nat.blt pc 32 then (bif Nat.beq pc 29 then some (.getfield 13, 32, 12, 1, 0) else none) else (bif Nat.beq pc 32 then some (.iload_n 1, 33, 1, 0, 0) else none))) else (bif Nat.blt pc 37 then (bif Nat.blt pc 34 then (bif Nat.beq pc 33 then some (.iaload, 34, 0, 0, 0) else none) else (bif Nat.beq pc 34 then some (.goto 4, 37, 38, 0, 0) else none)) else (bif Nat.blt pc 38 then (bif Nat.beq pc 37 then some (.iconst 0, 38, 0, 0, 0) else none) else (bif Nat.beq pc 38 then some (.istore 6, 40, 6, 0, 0) else none)))) else (bif Nat.blt pc 46 then (bif Nat.blt pc 44 then (bif Nat.blt pc 41 then (bif Nat.beq pc 40 then some (.aload_n 0, 41, 0, 0, 0) else none) else (bif Nat.beq pc 41 then some (.getfield 22, 44, 12, 4, 0) else none)) else (bif Nat.blt pc 45 then (bif Nat.beq pc 44 then some (.iload_n 2, 45, 2, 0, 0) else none) else (bif Nat.beq pc 45 then some (.iaload, 46, 0, 0, 0) else none))) else (bif Nat.blt pc 74 then (bif Nat.blt pc 72 then (bif Nat.beq pc 46 then some (.tableswitch 70 0 2 #[26, 32, 40], 72, 0, 0, 0) else none) else (bif Nat.beq pc 72 then some (.iload 6, 74, 6, 0, 0) else none)) else (bif Nat.blt pc 76 then (bif Nat.beq pc 74 then some (.iload 4, 76, 4, 0, 0) else none) else (bif Nat.beq pc 76 then some (.iadd, 77, 0, 0, 0) else none)))))) else (bif Nat.blt pc 102 then (bif Nat.blt pc 86 then (bif Nat.blt pc 82 then (bif Nat.blt pc 78 then (bif Nat.beq pc 77 then some (.ireturn, 78, 0, 0, 0) else none) else (bif Nat.blt pc 80 then (bif Nat.beq pc 78 then some (.iload 6, 80, 6, 0, 0) else none) else (bif Nat.beq pc 80 then some (.iload 4, 82, 4, 0, 0) else none))) else (bif Nat.blt pc 84 then (bif Nat.blt pc 83 then (bif Nat.beq pc 82 then some (.iconst 2, 83, 0, 0, 2) else none) else (bif Nat.beq pc 83 then some (.idiv, 84, 0, 0, 0) else none)) else (bif Nat.blt pc 85 then (bif Nat.beq pc 84 then some (.iadd, 85, 0, 0, 0) else none) else (bif Nat.beq pc 85 then some (.ireturn, 86, 0, 0, 0) else none)))) else (bif Nat.blt pc 95 then (bif Nat.blt pc 90 then (bif Nat.blt pc 88 then (bif Nat.beq pc 86 then some (.iload 6, 88, 6, 0, 0) else none) else (bif Nat.beq pc 88 then some (.iload 5, 90, 5, 0, 0) else none)) else (bif Nat.blt pc 93 then (bif Nat.beq pc 90 then some (.ifCond .ne 10, 93, 100, 0, 0) else none) else (bif Nat.beq pc 93 then some (.iload 4, 95, 4, 0, 0) else none))) else (bif Nat.blt pc 97 then (bif Nat.blt pc 96 then (bif Nat.beq pc 95 then some (.iconst 5, 96, 0, 0, 5) else none) else (bif Nat.beq pc 96 then some (.iadd, 97, 0, 0, 0) else none)) else (bif Nat.blt pc 100 then (bif Nat.beq pc 97 then some (.goto 17, 100, 114, 0, 0) else none) else (bif Nat.beq pc 100 then some (.iload 4, 102, 4, 0, 0) else none))))) else (bif Nat.blt pc 114 then (bif Nat.blt pc 108 then (bif Nat.blt pc 103 then (bif Nat.beq pc 102 then some (.iconst 3, 103, 0, 0, 3) else none) else (bif Nat.blt pc 106 then (bif Nat.beq pc 103 then some (.if_icmp .le 10, 106, 113, 0, 0) else none) else (bif Nat.beq pc 106 then some (.iload 4, 108, 4, 0, 0) else none))) else (bif Nat.blt pc 110 then (bif Nat.blt pc 109 then (bif Nat.beq pc 108 then some (.iconst 3, 109, 0, 0, 3) else none) else (bif Nat.beq pc 109 then some (.isub, 110, 0, 0, 0) else none)) else (bif Nat.blt pc 113 then (bif Nat.beq pc 110 then some (.goto 4, 113, 114, 0, 0) else none) else (bif Nat.beq pc 113 then some (.iconst 0, 114, 0, 0, 0) else none)))) else (bif Nat.blt pc 120 then (bif Nat.blt pc 116 then (bif Nat.blt pc 115 then (bif Nat.beq pc 114 then some (.iadd, 115, 0, 0, 0) else none) else (bif Nat.beq pc 115 then some (.ireturn, 116, 0, 0, 0) else none)) else (bif Nat.blt pc 118 then (bif Nat.beq pc 116 then some (.iload 6, 118, 6, 0, 0) else none) else (bif Nat.beq pc 118 then some (.bipush 9, 120, 0, 0, 9) else none))) else (bif Nat.blt pc 123 then (bif Nat.blt pc 121 then (bif Nat.beq pc 120 then some (.iadd, 121, 0, 0, 0) else none) else (bif Nat.beq pc 121 then some (.iload 4, 123, 4, 0, 0) else none)) else (bif Nat.blt pc 124 then (bif Nat.beq pc 123 then some (.isub, 124, 0, 0, 0) else none) else (bif Nat.beq pc 124 then some (.ireturn, 125, 0, 0, 0) else none))))))
/-- X12_joyOf -/
noncomputable def gn_c151 (pc : Nat) : Option gn_En := bif Nat.blt pc 4 then (bif Nat.blt pc 2 then (bif Nat.blt pc 1 then (bif Nat.beq pc 0 then some (.aload_n 0, 1, 0, 0, 0) else none) else (bif Nat.beq pc 1 then some (.iload_n 1, 2, 1, 0, 0) else none)) else (bif Nat.blt pc 3 then (bif Nat.beq pc 2 then some (.iload_n 2, 3, 2, 0, 0) else none) else (bif Nat.beq pc 3 then some (.iload_n 3, 4, 3, 0, 0) else none))) else (bif Nat.blt pc 8 then (bif Nat.blt pc 7 then (bif Nat.beq pc 4 then some (.invokevirtual 170, 7, 150, 3, 0) else none) else (bif Nat.beq pc 7 then some (.iload_n 3, 8, 3, 0, 0) else none)) else (bif Nat.blt pc 9 then (bif Nat.beq pc 8 then some (.iadd, 9, 0, 0, 0) else none) else (bif Nat.beq pc 9 then some (.ireturn, 10, 0, 0, 0) else none)))
/-- X12_allTold -/
noncomputable def gn_c152 (pc : Nat) : Option gn_En := bif Nat.blt pc 21 then (bif Nat.blt pc 9 then (bif Nat.blt pc 3 then (bif Nat.blt pc 1 then (bif Nat.beq pc 0 then some (.iconst 0, 1, 0, 0, 0) else none) else (bif Nat.blt pc 2 then (bif Nat.beq pc 1 then some (.istore_n 1, 2, 1, 0, 0) else none) else (bif Nat.beq pc 2 then some (.iconst 0, 3, 0, 0, 0) else none))) else (bif Nat.blt pc 5 then (bif Nat.blt pc 4 then (bif Nat.beq pc 3 then some (.istore_n 2, 4, 2, 0, 0) else none) else (bif Nat.beq pc 4 then some (.iload_n 2, 5, 2, 0, 0) else none)) else (bif Nat.blt pc 6 then (bif Nat.beq pc 5 then some (.aload_n 0, 6, 0, 0, 0) else none) else (bif Nat.beq pc 6 then some (.getfield 69, 9, 12, 8, 0) else none)))) else (bif Nat.blt pc 14 then (bif Nat.blt pc 12 then (bif Nat.beq pc 9 then some (.if_icmp .ge 32, 12, 41, 0, 0) else none) else (bif Nat.blt pc 13 then (bif Nat.beq pc 12 then some (.iload_n 1, 13, 1, 0, 0) else none) else (bif Nat.beq pc 13 then some (.aload_n 0, 14, 0, 0, 0) else none))) else (bif Nat.blt pc 19 then (bif Nat.blt pc 17 then (bif Nat.beq pc 14 then some (.getfield 7, 17, 12, 0, 0) else none) else (bif Nat.beq pc 17 then some (.bipush 6, 19, 0, 0, 6) else none)) else (bif Nat.blt pc 20 then (bif Nat.beq pc 19 then some (.iload_n 2, 20, 2, 0, 0) else none) else (bif Nat.beq pc 20 then some (.iadd, 21, 0, 0, 0) else none))))) else (bif Nat.blt pc 32 then (bif Nat.blt pc 26 then (bif Nat.blt pc 22 then (bif Nat.beq pc 21 then some (.iaload, 22, 0, 0, 0) else none) else (bif Nat.blt pc 23 then (bif Nat.beq pc 22 then some (.iconst (-1), 23, 0, 0, (-1)) else none) else (bif Nat.beq pc 23 then some (.if_icmp .ne 7, 26, 30, 0, 0) else none))) else (bif Nat.blt pc 30 then (bif Nat.blt pc 27 then (bif Nat.beq pc 26 then some (.iconst 0, 27, 0, 0, 0) else none) else (bif Nat.beq pc 27 then some (.goto 6, 30, 33, 0, 0) else none)) else (bif Nat.blt pc 31 then (bif Nat.beq pc 30 then some (.iconst 1, 31, 0, 0, 1) else none) else (bif Nat.beq pc 31 then some (.iload_n 2, 32, 2, 0, 0) else none)))) else (bif Nat.blt pc 35 then (bif Nat.blt pc 33 then (bif Nat.beq pc 32 then some (.ishl, 33, 0, 0, 0) else none) else (bif Nat.blt pc 34 then (bif Nat.beq pc 33 then some (.ior, 34, 0, 0, 0) else none) else (bif Nat.beq pc 34 then some (.istore_n 1, 35, 1, 0, 0) else none))) else (bif Nat.blt pc 41 then (bif Nat.blt pc 38 then (bif Nat.beq pc 35 then some (.iinc 2 1, 38, 2, 0, 1) else none) else (bif Nat.beq pc 38 then some (.goto (-34), 41, 4, 0, 0) else none)) else (bif Nat.blt pc 42 then (bif Nat.beq pc 41 then some (.iload_n 1, 42, 1, 0, 0) else none) else (bif Nat.beq pc 42 then some (.ireturn, 43, 0, 0, 0) else none)))))
/-- X12_wrongAt -/
noncomputable def gn_c153 (pc : Nat) : Option gn_En := bif Nat.blt pc 17 then (bif Nat.blt pc 7 then (bif Nat.blt pc 2 then (bif Nat.blt pc 1 then (bif Nat.beq pc 0 then some (.iconst 0, 1, 0, 0, 0) else none) else (bif Nat.beq pc 1 then some (.istore_n 2, 2, 2, 0, 0) else none)) else (bif Nat.blt pc 3 then (bif Nat.beq pc 2 then some (.iload_n 2, 3, 2, 0, 0) else none) else (bif Nat.blt pc 4 then (bif Nat.beq pc 3 then some (.aload_n 0, 4, 0, 0, 0) else none) else (bif Nat.beq pc 4 then some (.getfield 19, 7, 12, 3, 0) else none)))) else (bif Nat.blt pc 12 then (bif Nat.blt pc 8 then (bif Nat.beq pc 7 then some (.iload_n 1, 8, 1, 0, 0) else none) else (bif Nat.blt pc 9 then (bif Nat.beq pc 8 then some (.iaload, 9, 0, 0, 0) else none) else (bif Nat.beq pc 9 then some (.if_icmp .ge 27, 12, 36, 0, 0) else none))) else (bif Nat.blt pc 13 then (bif Nat.beq pc 12 then some (.aload_n 0, 13, 0, 0, 0) else none) else (bif Nat.blt pc 16 then (bif Nat.beq pc 13 then some (.getfield 141, 16, 12, 7, 0) else none) else (bif Nat.beq pc 16 then some (.aload_n 0, 17, 0, 0, 0) else none))))) else (bif Nat.blt pc 28 then (bif Nat.blt pc 19 then (bif Nat.blt pc 18 then (bif Nat.beq pc 17 then some (.iload_n 1, 18, 1, 0, 0) else none) else (bif Nat.beq pc 18 then some (.iload_n 2, 19, 2, 0, 0) else none)) else (bif Nat.blt pc 22 then (bif Nat.beq pc 19 then some (.invokevirtual 163, 22, 148, 2, 0) else none) else (bif Nat.blt pc 25 then (bif Nat.beq pc 22 then some (.invokestatic 166, 25, 131, 2, 0) else none) else (bif Nat.beq pc 25 then some (.ifCond .ne 5, 28, 30, 0, 0) else none)))) else (bif Nat.blt pc 33 then (bif Nat.blt pc 29 then (bif Nat.beq pc 28 then some (.iload_n 2, 29, 2, 0, 0) else none) else (bif Nat.blt pc 30 then (bif Nat.beq pc 29 then some (.ireturn, 30, 0, 0, 0) else none) else (bif Nat.beq pc 30 then some (.iinc 2 1, 33, 2, 0, 1) else none))) else (bif Nat.blt pc 36 then (bif Nat.beq pc 33 then some (.goto (-31), 36, 2, 0, 0) else none) else (bif Nat.blt pc 37 then (bif Nat.beq pc 36 then some (.iconst (-1), 37, 0, 0, (-1)) else none) else (bif Nat.beq pc 37 then some (.ireturn, 38, 0, 0, 0) else none)))))
/-- X12_rightOnes -/
noncomputable def gn_c154 (pc : Nat) : Option gn_En := bif Nat.blt pc 18 then (bif Nat.blt pc 6 then (bif Nat.blt pc 3 then (bif Nat.blt pc 1 then (bif Nat.beq pc 0 then some (.iconst 0, 1, 0, 0, 0) else none) else (bif Nat.blt pc 2 then (bif Nat.beq pc 1 then some (.istore_n 1, 2, 1, 0, 0) else none) else (bif Nat.beq pc 2 then some (.iconst 0, 3, 0, 0, 0) else none))) else (bif Nat.blt pc 4 then (bif Nat.beq pc 3 then some (.istore_n 2, 4, 2, 0, 0) else none) else (bif Nat.blt pc 5 then (bif Nat.beq pc 4 then some (.iload_n 2, 5, 2, 0, 0) else none) else (bif Nat.beq pc 5 then some (.aload_n 0, 6, 0, 0, 0) else none)))) else (bif Nat.blt pc 13 then (bif Nat.blt pc 9 then (bif Nat.beq pc 6 then some (.getfield 69, 9, 12, 8, 0) else none) else (bif Nat.blt pc 12 then (bif Nat.beq pc 9 then some (.if_icmp .ge 28, 12, 37, 0, 0) else none) else (bif Nat.beq pc 12 then some (.iload_n 1, 13, 1, 0, 0) else none))) else (bif Nat.blt pc 14 then (bif Nat.beq pc 13 then some (.aload_n 0, 14, 0, 0, 0) else none) else (bif Nat.blt pc 15 then (bif Nat.beq pc 14 then some (.iload_n 2, 15, 2, 0, 0) else none) else (bif Nat.beq pc 15 then some (.invokevirtual 174, 18, 153, 1, 0) else none))))) else (bif Nat.blt pc 28 then (bif Nat.blt pc 23 then (bif Nat.blt pc 19 then (bif Nat.beq pc 18 then some (.iconst (-1), 19, 0, 0, (-1)) else none) else (bif Nat.blt pc 22 then (bif Nat.beq pc 19 then some (.if_icmp .ne 9, 22, 28, 0, 0) else none) else (bif Nat.beq pc 22 then some (.iconst 1, 23, 0, 0, 1) else none))) else (bif Nat.blt pc 24 then (bif Nat.beq pc 23 then some (.iload_n 2, 24, 2, 0, 0) else none) else (bif Nat.blt pc 25 then (bif Nat.beq pc 24 then some (.ishl, 25, 0, 0, 0) else none) else (bif Nat.beq pc 25 then some (.goto 4, 28, 29, 0, 0) else none)))) else (bif Nat.blt pc 31 then (bif Nat.blt pc 29 then (bif Nat.beq pc 28 then some (.iconst 0, 29, 0, 0, 0) else none) else (bif Nat.blt pc 30 then (bif Nat.beq pc 29 then some (.ior, 30, 0, 0, 0) else none) else (bif Nat.beq pc 30 then some (.istore_n 1, 31, 1, 0, 0) else none))) else (bif Nat.blt pc 37 then (bif Nat.blt pc 34 then (bif Nat.beq pc 31 then some (.iinc 2 1, 34, 2, 0, 1) else none) else (bif Nat.beq pc 34 then some (.goto (-30), 37, 4, 0, 0) else none)) else (bif Nat.blt pc 38 then (bif Nat.beq pc 37 then some (.iload_n 1, 38, 1, 0, 0) else none) else (bif Nat.beq pc 38 then some (.ireturn, 39, 0, 0, 0) else none)))))
/-- X12_topicsOf -/
noncomputable def gn_c155 (pc : Nat) : Option gn_En := bif Nat.blt pc 15 then (bif Nat.blt pc 5 then (bif Nat.blt pc 2 then (bif Nat.blt pc 1 then (bif Nat.beq pc 0 then some (.iconst 0, 1, 0, 0, 0) else none) else (bif Nat.beq pc 1 then some (.istore_n 2, 2, 2, 0, 0) else none)) else (bif Nat.blt pc 3 then (bif Nat.beq pc 2 then some (.iconst 0, 3, 0, 0, 0) else none) else (bif Nat.blt pc 4 then (bif Nat.beq pc 3 then some (.istore_n 3, 4, 3, 0, 0) else none) else (bif Nat.beq pc 4 then some (.iload_n 3, 5, 3, 0, 0) else none)))) else (bif Nat.blt pc 10 then (bif Nat.blt pc 6 then (bif Nat.beq pc 5 then some (.aload_n 0, 6, 0, 0, 0) else none) else (bif Nat.blt pc 9 then (bif Nat.beq pc 6 then some (.getfield 19, 9, 12, 3, 0) else none) else (bif Nat.beq pc 9 then some (.iload_n 1, 10, 1, 0, 0) else none))) else (bif Nat.blt pc 11 then (bif Nat.beq pc 10 then some (.iaload, 11, 0, 0, 0) else none) else (bif Nat.blt pc 14 then (bif Nat.beq pc 11 then some (.if_icmp .ge 20, 14, 31, 0, 0) else none) else (bif Nat.beq pc 14 then some (.iload_n 2, 15, 2, 0, 0) else none))))) else (bif Nat.blt pc 23 then (bif Nat.blt pc 18 then (bif Nat.blt pc 16 then (bif Nat.beq pc 15 then some (.iconst 1, 16, 0, 0, 1) else none) else (bif Nat.blt pc 17 then (bif Nat.beq pc 16 then some (.aload_n 0, 17, 0, 0, 0) else none) else (bif Nat.beq pc 17 then some (.iload_n 1, 18, 1, 0, 0) else none))) else (bif Nat.blt pc 19 then (bif Nat.beq pc 18 then some (.iload_n 3, 19, 3, 0, 0) else none) else (bif Nat.blt pc 22 then (bif Nat.beq pc 19 then some (.invokevirtual 163, 22, 148, 2, 0) else none) else (bif Nat.beq pc 22 then some (.ishl, 23, 0, 0, 0) else none)))) else (bif Nat.blt pc 28 then (bif Nat.blt pc 24 then (bif Nat.beq pc 23 then some (.ior, 24, 0, 0, 0) else none) else (bif Nat.blt pc 25 then (bif Nat.beq pc 24 then some (.istore_n 2, 25, 2, 0, 0) else none) else (bif Nat.beq pc 25 then some (.iinc 3 1, 28, 3, 0, 1) else none))) else (bif Nat.blt pc 31 then (bif Nat.beq pc 28 then some (.goto (-24), 31, 4, 0, 0) else none) else (bif Nat.blt pc 32 then (bif Nat.beq pc 31 then some (.iload_n 2, 32, 2, 0, 0) else none) else (bif Nat.beq pc 32 then some (.ireturn, 33, 0, 0, 0) else none)))))
/-- X12_nobodys -/
noncomputable def gn_c156 (pc : Nat) : Option gn_En := bif Nat.blt pc 16 then (bif Nat.blt pc 7 then (bif Nat.blt pc 4 then (bif Nat.blt pc 3 then (bif Nat.beq pc 0 then some (.sipush 255, 3, 0, 0, 255) else none) else (bif Nat.beq pc 3 then some (.istore_n 1, 4, 1, 0, 0) else none)) else (bif Nat.blt pc 5 then (bif Nat.beq pc 4 then some (.iconst 0, 5, 0, 0, 0) else none) else (bif Nat.blt pc 6 then (bif Nat.beq pc 5 then some (.istore_n 2, 6, 2, 0, 0) else none) else (bif Nat.beq pc 6 then some (.iload_n 2, 7, 2, 0, 0) else none)))) else (bif Nat.blt pc 11 then (bif Nat.blt pc 8 then (bif Nat.beq pc 7 then some (.aload_n 0, 8, 0, 0, 0) else none) else (bif Nat.beq pc 8 then some (.getfield 69, 11, 12, 8, 0) else none)) else (bif Nat.blt pc 14 then (bif Nat.beq pc 11 then some (.if_icmp .ge 19, 14, 30, 0, 0) else none) else (bif Nat.blt pc 15 then (bif Nat.beq pc 14 then some (.iload_n 1, 15, 1, 0, 0) else none) else (bif Nat.beq pc 15 then some (.aload_n 0, 16, 0, 0, 0) else none))))) else (bif Nat.blt pc 23 then (bif Nat.blt pc 20 then (bif Nat.blt pc 17 then (bif Nat.beq pc 16 then some (.iload_n 2, 17, 2, 0, 0) else none) else (bif Nat.beq pc 17 then some (.invokevirtual 177, 20, 155, 1, 0) else none)) else (bif Nat.blt pc 21 then (bif Nat.beq pc 20 then some (.iconst (-1), 21, 0, 0, (-1)) else none) else (bif Nat.blt pc 22 then (bif Nat.beq pc 21 then some (.ixor, 22, 0, 0, 0) else none) else (bif Nat.beq pc 22 then some (.iand, 23, 0, 0, 0) else none)))) else (bif Nat.blt pc 27 then (bif Nat.blt pc 24 then (bif Nat.beq pc 23 then some (.istore_n 1, 24, 1, 0, 0) else none) else (bif Nat.beq pc 24 then some (.iinc 2 1, 27, 2, 0, 1) else none)) else (bif Nat.blt pc 30 then (bif Nat.beq pc 27 then some (.goto (-21), 30, 6, 0, 0) else none) else (bif Nat.blt pc 31 then (bif Nat.beq pc 30 then some (.iload_n 1, 31, 1, 0, 0) else none) else (bif Nat.beq pc 31 then some (.ireturn, 32, 0, 0, 0) else none)))))
/-- X12_meanly -/
noncomputable def gn_c157 (pc : Nat) : Option gn_En := bif Nat.blt pc 43 then (bif Nat.blt pc 21 then (bif Nat.blt pc 9 then (bif Nat.blt pc 3 then (bif Nat.blt pc 1 then (bif Nat.beq pc 0 then some (.iconst 0, 1, 0, 0, 0) else none) else (bif Nat.blt pc 2 then (bif Nat.beq pc 1 then some (.istore_n 1, 2, 1, 0, 0) else none) else (bif Nat.beq pc 2 then some (.iconst 0, 3, 0, 0, 0) else none))) else (bif Nat.blt pc 5 then (bif Nat.blt pc 4 then (bif Nat.beq pc 3 then some (.istore_n 2, 4, 2, 0, 0) else none) else (bif Nat.beq pc 4 then some (.iload_n 2, 5, 2, 0, 0) else none)) else (bif Nat.blt pc 6 then (bif Nat.beq pc 5 then some (.aload_n 0, 6, 0, 0, 0) else none) else (bif Nat.beq pc 6 then some (.getfield 69, 9, 12, 8, 0) else none)))) else (bif Nat.blt pc 16 then (bif Nat.blt pc 12 then (bif Nat.beq pc 9 then some (.if_icmp .ge 80, 12, 89, 0, 0) else none) else (bif Nat.blt pc 13 then (bif Nat.beq pc 12 then some (.aload_n 0, 13, 0, 0, 0) else none) else (bif Nat.beq pc 13 then some (.getfield 7, 16, 12, 0, 0) else none))) else (bif Nat.blt pc 19 then (bif Nat.blt pc 18 then (bif Nat.beq pc 16 then some (.bipush 6, 18, 0, 0, 6) else none) else (bif Nat.beq pc 18 then some (.iload_n 2, 19, 2, 0, 0) else none)) else (bif Nat.blt pc 20 then (bif Nat.beq pc 19 then some (.iadd, 20, 0, 0, 0) else none) else (bif Nat.beq pc 20 then some (.iaload, 21, 0, 0, 0) else none))))) else (bif Nat.blt pc 32 then (bif Nat.blt pc 25 then (bif Nat.blt pc 22 then (bif Nat.beq pc 21 then some (.istore_n 3, 22, 3, 0, 0) else none) else (bif Nat.blt pc 23 then (bif Nat.beq pc 22 then some (.iconst 0, 23, 0, 0, 0) else none) else (bif Nat.beq pc 23 then some (.istore 4, 25, 4, 0, 0) else none))) else (bif Nat.blt pc 28 then (bif Nat.blt pc 27 then (bif Nat.beq pc 25 then some (.iload 4, 27, 4, 0, 0) else none) else (bif Nat.beq pc 27 then some (.aload_n 0, 28, 0, 0, 0) else none)) else (bif Nat.blt pc 31 then (bif Nat.beq pc 28 then some (.getfield 19, 31, 12, 3, 0) else none) else (bif Nat.beq pc 31 then some (.iload_n 2, 32, 2, 0, 0) else none)))) else (bif Nat.blt pc 37 then (bif Nat.blt pc 33 then (bif Nat.beq pc 32 then some (.iaload, 33, 0, 0, 0) else none) else (bif Nat.blt pc 36 then (bif Nat.beq pc 33 then some (.if_icmp .ge 50, 36, 83, 0, 0) else none) else (bif Nat.beq pc 36 then some (.iload_n 3, 37, 3, 0, 0) else none))) else (bif Nat.blt pc 41 then (bif Nat.blt pc 38 then (bif Nat.beq pc 37 then some (.iconst (-1), 38, 0, 0, (-1)) else none) else (bif Nat.beq pc 38 then some (.if_icmp .eq 45, 41, 83, 0, 0) else none)) else (bif Nat.blt pc 42 then (bif Nat.beq pc 41 then some (.iload_n 1, 42, 1, 0, 0) else none) else (bif Nat.beq pc 42 then some (.aload_n 0, 43, 0, 0, 0) else none)))))) else (bif Nat.blt pc 65 then (bif Nat.blt pc 53 then (bif Nat.blt pc 47 then (bif Nat.blt pc 44 then (bif Nat.beq pc 43 then some (.iload_n 2, 44, 2, 0, 0) else none) else (bif Nat.blt pc 45 then (bif Nat.beq pc 44 then some (.iload_n 3, 45, 3, 0, 0) else none) else (bif Nat.beq pc 45 then some (.iload 4, 47, 4, 0, 0) else none))) else (bif Nat.blt pc 51 then (bif Nat.blt pc 50 then (bif Nat.beq pc 47 then some (.invokevirtual 180, 50, 151, 3, 0) else none) else (bif Nat.beq pc 50 then some (.aload_n 0, 51, 0, 0, 0) else none)) else (bif Nat.blt pc 52 then (bif Nat.beq pc 51 then some (.iload_n 2, 52, 2, 0, 0) else none) else (bif Nat.beq pc 52 then some (.iload_n 3, 53, 3, 0, 0) else none)))) else (bif Nat.blt pc 59 then (bif Nat.blt pc 54 then (bif Nat.beq pc 53 then some (.aload_n 0, 54, 0, 0, 0) else none) else (bif Nat.blt pc 57 then (bif Nat.beq pc 54 then some (.getfield 7, 57, 12, 0, 0) else none) else (bif Nat.beq pc 57 then some (.bipush 12, 59, 0, 0, 12) else none))) else (bif Nat.blt pc 61 then (bif Nat.blt pc 60 then (bif Nat.beq pc 59 then some (.iload_n 2, 60, 2, 0, 0) else none) else (bif Nat.beq pc 60 then some (.iadd, 61, 0, 0, 0) else none)) else (bif Nat.blt pc 62 then (bif Nat.beq pc 61 then some (.iaload, 62, 0, 0, 0) else none) else (bif Nat.beq pc 62 then some (.invokevirtual 180, 65, 151, 3, 0) else none))))) else (bif Nat.blt pc 76 then (bif Nat.blt pc 70 then (bif Nat.blt pc 68 then (bif Nat.beq pc 65 then some (.if_icmp .le 9, 68, 74, 0, 0) else none) else (bif Nat.blt pc 69 then (bif Nat.beq pc 68 then some (.iconst 1, 69, 0, 0, 1) else none) else (bif Nat.beq pc 69 then some (.iload_n 2, 70, 2, 0, 0) else none))) else (bif Nat.blt pc 74 then (bif Nat.blt pc 71 then (bif Nat.beq pc 70 then some (.ishl, 71, 0, 0, 0) else none) else (bif Nat.beq pc 71 then some (.goto 4, 74, 75, 0, 0) else none)) else (bif Nat.blt pc 75 then (bif Nat.beq pc 74 then some (.iconst 0, 75, 0, 0, 0) else none) else (bif Nat.beq pc 75 then some (.ior, 76, 0, 0, 0) else none)))) else (bif Nat.blt pc 83 then (bif Nat.blt pc 77 then (bif Nat.beq pc 76 then some (.istore_n 1, 77, 1, 0, 0) else none) else (bif Nat.blt pc 80 then (bif Nat.beq pc 77 then some (.iinc 4 1, 80, 4, 0, 1) else none) else (bif Nat.beq pc 80 then some (.goto (-55), 83, 25, 0, 0) else none))) else (bif Nat.blt pc 89 then (bif Nat.blt pc 86 then (bif Nat.beq pc 83 then some (.iinc 2 1, 86, 2, 0, 1) else none) else (bif Nat.beq pc 86 then some (.goto (-82), 89, 4, 0, 0) else none)) else (bif Nat.blt pc 90 then (bif Nat.beq pc 89 then some (.iload_n 1, 90, 1, 0, 0) else none) else (bif Nat.beq pc 90 then some (.ireturn, 91, 0, 0, 0) else none))))))
/-- X12_leastPleased -/
noncomputable def gn_c158 (pc : Nat) : Option gn_En := bif Nat.blt pc 40 then (bif Nat.blt pc 22 then (bif Nat.blt pc 8 then (bif Nat.blt pc 5 then (bif Nat.blt pc 1 then (bif Nat.beq pc 0 then some (.iconst (-1), 1, 0, 0, (-1)) else none) else (bif Nat.blt pc 2 then (bif Nat.beq pc 1 then some (.istore_n 1, 2, 1, 0, 0) else none) else (bif Nat.beq pc 2 then some (.sipush 9999, 5, 0, 0, 9999) else none))) else (bif Nat.blt pc 6 then (bif Nat.beq pc 5 then some (.istore_n 2, 6, 2, 0, 0) else none) else (bif Nat.blt pc 7 then (bif Nat.beq pc 6 then some (.iconst 0, 7, 0, 0, 0) else none) else (bif Nat.beq pc 7 then some (.istore_n 3, 8, 3, 0, 0) else none)))) else (bif Nat.blt pc 13 then (bif Nat.blt pc 9 then (bif Nat.beq pc 8 then some (.iload_n 3, 9, 3, 0, 0) else none) else (bif Nat.blt pc 10 then (bif Nat.beq pc 9 then some (.aload_n 0, 10, 0, 0, 0) else none) else (bif Nat.beq pc 10 then some (.getfield 69, 13, 12, 8, 0) else none))) else (bif Nat.blt pc 17 then (bif Nat.blt pc 16 then (bif Nat.beq pc 13 then some (.if_icmp .ge 72, 16, 85, 0, 0) else none) else (bif Nat.beq pc 16 then some (.aload_n 0, 17, 0, 0, 0) else none)) else (bif Nat.blt pc 20 then (bif Nat.beq pc 17 then some (.getfield 7, 20, 12, 0, 0) else none) else (bif Nat.beq pc 20 then some (.bipush 6, 22, 0, 0, 6) else none))))) else (bif Nat.blt pc 30 then (bif Nat.blt pc 25 then (bif Nat.blt pc 23 then (bif Nat.beq pc 22 then some (.iload_n 3, 23, 3, 0, 0) else none) else (bif Nat.blt pc 24 then (bif Nat.beq pc 23 then some (.iadd, 24, 0, 0, 0) else none) else (bif Nat.beq pc 24 then some (.iaload, 25, 0, 0, 0) else none))) else (bif Nat.blt pc 26 then (bif Nat.beq pc 25 then some (.iconst (-1), 26, 0, 0, (-1)) else none) else (bif Nat.blt pc 29 then (bif Nat.beq pc 26 then some (.if_icmp .eq 53, 29, 79, 0, 0) else none) else (bif Nat.beq pc 29 then some (.aload_n 0, 30, 0, 0, 0) else none)))) else (bif Nat.blt pc 35 then (bif Nat.blt pc 31 then (bif Nat.beq pc 30 then some (.iload_n 3, 31, 3, 0, 0) else none) else (bif Nat.blt pc 32 then (bif Nat.beq pc 31 then some (.aload_n 0, 32, 0, 0, 0) else none) else (bif Nat.beq pc 32 then some (.getfield 7, 35, 12, 0, 0) else none))) else (bif Nat.blt pc 38 then (bif Nat.blt pc 37 then (bif Nat.beq pc 35 then some (.bipush 6, 37, 0, 0, 6) else none) else (bif Nat.beq pc 37 then some (.iload_n 3, 38, 3, 0, 0) else none)) else (bif Nat.blt pc 39 then (bif Nat.beq pc 38 then some (.iadd, 39, 0, 0, 0) else none) else (bif Nat.beq pc 39 then some (.iaload, 40, 0, 0, 0) else none)))))) else (bif Nat.blt pc 64 then (bif Nat.blt pc 49 then (bif Nat.blt pc 46 then (bif Nat.blt pc 41 then (bif Nat.beq pc 40 then some (.aload_n 0, 41, 0, 0, 0) else none) else (bif Nat.blt pc 44 then (bif Nat.beq pc 41 then some (.getfield 7, 44, 12, 0, 0) else none) else (bif Nat.beq pc 44 then some (.bipush 12, 46, 0, 0, 12) else none))) else (bif Nat.blt pc 47 then (bif Nat.beq pc 46 then some (.iload_n 3, 47, 3, 0, 0) else none) else (bif Nat.blt pc 48 then (bif Nat.beq pc 47 then some (.iadd, 48, 0, 0, 0) else none) else (bif Nat.beq pc 48 then some (.iaload, 49, 0, 0, 0) else none)))) else (bif Nat.blt pc 56 then (bif Nat.blt pc 52 then (bif Nat.beq pc 49 then some (.invokevirtual 180, 52, 151, 3, 0) else none) else (bif Nat.blt pc 54 then (bif Nat.beq pc 52 then some (.istore 4, 54, 4, 0, 0) else none) else (bif Nat.beq pc 54 then some (.iload 4, 56, 4, 0, 0) else none))) else (bif Nat.blt pc 60 then (bif Nat.blt pc 57 then (bif Nat.beq pc 56 then some (.iload_n 2, 57, 2, 0, 0) else none) else (bif Nat.beq pc 57 then some (.if_icmp .ge 7, 60, 64, 0, 0) else none)) else (bif Nat.blt pc 61 then (bif Nat.beq pc 60 then some (.iload_n 3, 61, 3, 0, 0) else none) else (bif Nat.beq pc 61 then some (.goto 4, 64, 65, 0, 0) else none))))) else (bif Nat.blt pc 74 then (bif Nat.blt pc 68 then (bif Nat.blt pc 65 then (bif Nat.beq pc 64 then some (.iload_n 1, 65, 1, 0, 0) else none) else (bif Nat.blt pc 66 then (bif Nat.beq pc 65 then some (.istore_n 1, 66, 1, 0, 0) else none) else (bif Nat.beq pc 66 then some (.iload 4, 68, 4, 0, 0) else none))) else (bif Nat.blt pc 69 then (bif Nat.beq pc 68 then some (.iload_n 2, 69, 2, 0, 0) else none) else (bif Nat.blt pc 72 then (bif Nat.beq pc 69 then some (.if_icmp .ge 8, 72, 77, 0, 0) else none) else (bif Nat.beq pc 72 then some (.iload 4, 74, 4, 0, 0) else none)))) else (bif Nat.blt pc 79 then (bif Nat.blt pc 77 then (bif Nat.beq pc 74 then some (.goto 4, 77, 78, 0, 0) else none) else (bif Nat.blt pc 78 then (bif Nat.beq pc 77 then some (.iload_n 2, 78, 2, 0, 0) else none) else (bif Nat.beq pc 78 then some (.istore_n 2, 79, 2, 0, 0) else none))) else (bif Nat.blt pc 85 then (bif Nat.blt pc 82 then (bif Nat.beq pc 79 then some (.iinc 3 1, 82, 3, 0, 1) else none) else (bif Nat.beq pc 82 then some (.goto (-74), 85, 8, 0, 0) else none)) else (bif Nat.blt pc 86 then (bif Nat.beq pc 85 then some (.iload_n 1, 86, 1, 0, 0) else none) else (bif Nat.beq pc 86 then some (.ireturn, 87, 0, 0, 0) else none))))))
/-- X12_told -/
noncomputable def gn_c159 (pc : Nat) : Option gn_En := bif Nat.blt pc 153 then (bif Nat.blt pc 121 then (bif Nat.blt pc 105 then (bif Nat.blt pc 96 then (bif Nat.blt pc 92 then (bif Nat.blt pc 1 then (bif Nat.beq pc 0 then some (.iload_n 1, 1, 1, 0, 0) else none) else (bif Nat.beq pc 1 then some (.tableswitch 212 0 18 #[91, 104, 109, 114, 119, 124, 132, 140, 148, 156, 164, 169, 177, 182, 187, 192, 197, 202, 207], 92, 0, 0, 0) else none)) else (bif Nat.blt pc 93 then (bif Nat.beq pc 92 then some (.aload_n 0, 93, 0, 0, 0) else none) else (bif Nat.beq pc 93 then some (.getfield 138, 96, 12, 6, 0) else none))) else (bif Nat.blt pc 100 then (bif Nat.blt pc 99 then (bif Nat.beq pc 96 then some (.ifCond .eq 7, 99, 103, 0, 0) else none) else (bif Nat.beq pc 99 then some (.iconst 1, 100, 0, 0, 1) else none)) else (bif Nat.blt pc 103 then (bif Nat.beq pc 100 then some (.goto 4, 103, 104, 0, 0) else none) else (bif Nat.blt pc 104 then (bif Nat.beq pc 103 then some (.iconst 0, 104, 0, 0, 0) else none) else (bif Nat.beq pc 104 then some (.ireturn, 105, 0, 0, 0) else none))))) else (bif Nat.blt pc 114 then (bif Nat.blt pc 109 then (bif Nat.blt pc 106 then (bif Nat.beq pc 105 then some (.aload_n 0, 106, 0, 0, 0) else none) else (bif Nat.beq pc 106 then some (.getfield 69, 109, 12, 8, 0) else none)) else (bif Nat.blt pc 110 then (bif Nat.beq pc 109 then some (.ireturn, 110, 0, 0, 0) else none) else (bif Nat.blt pc 111 then (bif Nat.beq pc 110 then some (.aload_n 0, 111, 0, 0, 0) else none) else (bif Nat.beq pc 111 then some (.getfield 76, 114, 12, 9, 0) else none)))) else (bif Nat.blt pc 116 then (bif Nat.blt pc 115 then (bif Nat.beq pc 114 then some (.ireturn, 115, 0, 0, 0) else none) else (bif Nat.beq pc 115 then some (.aload_n 0, 116, 0, 0, 0) else none)) else (bif Nat.blt pc 119 then (bif Nat.beq pc 116 then some (.getfield 141, 119, 12, 7, 0) else none) else (bif Nat.blt pc 120 then (bif Nat.beq pc 119 then some (.ireturn, 120, 0, 0, 0) else none) else (bif Nat.beq pc 120 then some (.aload_n 0, 121, 0, 0, 0) else none)))))) else (bif Nat.blt pc 137 then (bif Nat.blt pc 129 then (bif Nat.blt pc 125 then (bif Nat.blt pc 124 then (bif Nat.beq pc 121 then some (.getfield 80, 124, 12, 13, 0) else none) else (bif Nat.beq pc 124 then some (.ireturn, 125, 0, 0, 0) else none)) else (bif Nat.blt pc 126 then (bif Nat.beq pc 125 then some (.aload_n 0, 126, 0, 0, 0) else none) else (bif Nat.beq pc 126 then some (.getfield 7, 129, 12, 0, 0) else none))) else (bif Nat.blt pc 132 then (bif Nat.blt pc 131 then (bif Nat.beq pc 129 then some (.bipush 26, 131, 0, 0, 26) else none) else (bif Nat.beq pc 131 then some (.iaload, 132, 0, 0, 0) else none)) else (bif Nat.blt pc 133 then (bif Nat.beq pc 132 then some (.ireturn, 133, 0, 0, 0) else none) else (bif Nat.blt pc 134 then (bif Nat.beq pc 133 then some (.aload_n 0, 134, 0, 0, 0) else none) else (bif Nat.beq pc 134 then some (.getfield 7, 137, 12, 0, 0) else none))))) else (bif Nat.blt pc 145 then (bif Nat.blt pc 140 then (bif Nat.blt pc 139 then (bif Nat.beq pc 137 then some (.bipush 27, 139, 0, 0, 27) else none) else (bif Nat.beq pc 139 then some (.iaload, 140, 0, 0, 0) else none)) else (bif Nat.blt pc 141 then (bif Nat.beq pc 140 then some (.ireturn, 141, 0, 0, 0) else none) else (bif Nat.blt pc 142 then (bif Nat.beq pc 141 then some (.aload_n 0, 142, 0, 0, 0) else none) else (bif Nat.beq pc 142 then some (.getfield 7, 145, 12, 0, 0) else none)))) else (bif Nat.blt pc 148 then (bif Nat.blt pc 147 then (bif Nat.beq pc 145 then some (.bipush 24, 147, 0, 0, 24) else none) else (bif Nat.beq pc 147 then some (.iaload, 148, 0, 0, 0) else none)) else (bif Nat.blt pc 149 then (bif Nat.beq pc 148 then some (.ireturn, 149, 0, 0, 0) else none) else (bif Nat.blt pc 150 then (bif Nat.beq pc 149 then some (.aload_n 0, 150, 0, 0, 0) else none) else (bif Nat.beq pc 150 then some (.getfield 7, 153, 12, 0, 0) else none))))))) else (bif Nat.blt pc 183 then (bif Nat.blt pc 166 then (bif Nat.blt pc 158 then (bif Nat.blt pc 156 then (bif Nat.blt pc 155 then (bif Nat.beq pc 153 then some (.bipush 25, 155, 0, 0, 25) else none) else (bif Nat.beq pc 155 then some (.iaload, 156, 0, 0, 0) else none)) else (bif Nat.blt pc 157 then (bif Nat.beq pc 156 then some (.ireturn, 157, 0, 0, 0) else none) else (bif Nat.beq pc 157 then some (.aload_n 0, 158, 0, 0, 0) else none))) else (bif Nat.blt pc 163 then (bif Nat.blt pc 161 then (bif Nat.beq pc 158 then some (.getfield 7, 161, 12, 0, 0) else none) else (bif Nat.beq pc 161 then some (.bipush 18, 163, 0, 0, 18) else none)) else (bif Nat.blt pc 164 then (bif Nat.beq pc 163 then some (.iaload, 164, 0, 0, 0) else none) else (bif Nat.blt pc 165 then (bif Nat.beq pc 164 then some (.ireturn, 165, 0, 0, 0) else none) else (bif Nat.beq pc 165 then some (.aload_n 0, 166, 0, 0, 0) else none))))) else (bif Nat.blt pc 176 then (bif Nat.blt pc 170 then (bif Nat.blt pc 169 then (bif Nat.beq pc 166 then some (.invokevirtual 183, 169, 152, 0, 0) else none) else (bif Nat.beq pc 169 then some (.ireturn, 170, 0, 0, 0) else none)) else (bif Nat.blt pc 171 then (bif Nat.beq pc 170 then some (.aload_n 0, 171, 0, 0, 0) else none) else (bif Nat.blt pc 174 then (bif Nat.beq pc 171 then some (.getfield 7, 174, 12, 0, 0) else none) else (bif Nat.beq pc 174 then some (.bipush 19, 176, 0, 0, 19) else none)))) else (bif Nat.blt pc 178 then (bif Nat.blt pc 177 then (bif Nat.beq pc 176 then some (.iaload, 177, 0, 0, 0) else none) else (bif Nat.beq pc 177 then some (.ireturn, 178, 0, 0, 0) else none)) else (bif Nat.blt pc 179 then (bif Nat.beq pc 178 then some (.aload_n 0, 179, 0, 0, 0) else none) else (bif Nat.blt pc 182 then (bif Nat.beq pc 179 then some (.invokevirtual 186, 182, 154, 0, 0) else none) else (bif Nat.beq pc 182 then some (.ireturn, 183, 0, 0, 0) else none)))))) else (bif Nat.blt pc 199 then (bif Nat.blt pc 192 then (bif Nat.blt pc 187 then (bif Nat.blt pc 184 then (bif Nat.beq pc 183 then some (.aload_n 0, 184, 0, 0, 0) else none) else (bif Nat.beq pc 184 then some (.invokevirtual 189, 187, 156, 0, 0) else none)) else (bif Nat.blt pc 188 then (bif Nat.beq pc 187 then some (.ireturn, 188, 0, 0, 0) else none) else (bif Nat.blt pc 189 then (bif Nat.beq pc 188 then some (.aload_n 0, 189, 0, 0, 0) else none) else (bif Nat.beq pc 189 then some (.invokevirtual 192, 192, 157, 0, 0) else none)))) else (bif Nat.blt pc 194 then (bif Nat.blt pc 193 then (bif Nat.beq pc 192 then some (.ireturn, 193, 0, 0, 0) else none) else (bif Nat.beq pc 193 then some (.aload_n 0, 194, 0, 0, 0) else none)) else (bif Nat.blt pc 197 then (bif Nat.beq pc 194 then some (.invokevirtual 195, 197, 158, 0, 0) else none) else (bif Nat.blt pc 198 then (bif Nat.beq pc 197 then some (.ireturn, 198, 0, 0, 0) else none) else (bif Nat.beq pc 198 then some (.aload_n 0, 199, 0, 0, 0) else none))))) else (bif Nat.blt pc 208 then (bif Nat.blt pc 203 then (bif Nat.blt pc 202 then (bif Nat.beq pc 199 then some (.getfield 153, 202, 12, 17, 0) else none) else (bif Nat.beq pc 202 then some (.ireturn, 203, 0, 0, 0) else none)) else (bif Nat.blt pc 204 then (bif Nat.beq pc 203 then some (.aload_n 0, 204, 0, 0, 0) else none) else (bif Nat.blt pc 207 then (bif Nat.beq pc 204 then some (.getfield 156, 207, 12, 20, 0) else none) else (bif Nat.beq pc 207 then some (.ireturn, 208, 0, 0, 0) else none)))) else (bif Nat.blt pc 212 then (bif Nat.blt pc 209 then (bif Nat.beq pc 208 then some (.aload_n 0, 209, 0, 0, 0) else none) else (bif Nat.beq pc 209 then some (.getfield 147, 212, 12, 10, 0) else none)) else (bif Nat.blt pc 213 then (bif Nat.beq pc 212 then some (.ireturn, 213, 0, 0, 0) else none) else (bif Nat.blt pc 215 then (bif Nat.beq pc 213 then some (.ldc 79, 215, 0, 0, (-1000000002)) else none) else (bif Nat.beq pc 215 then some (.ireturn, 216, 0, 0, 0) else none)))))))
/-- X12_guest -/
noncomputable def gn_c160 (pc : Nat) : Option gn_En := bif Nat.blt pc 71 then (bif Nat.blt pc 56 then (bif Nat.blt pc 10 then (bif Nat.blt pc 2 then (bif Nat.blt pc 1 then (bif Nat.beq pc 0 then some (.aload_n 0, 1, 0, 0, 0) else none) else (bif Nat.beq pc 1 then some (.iload_n 1, 2, 1, 0, 0) else none)) else (bif Nat.blt pc 5 then (bif Nat.beq pc 2 then some (.invokevirtual 198, 5, 132, 1, 0) else none) else (bif Nat.blt pc 8 then (bif Nat.beq pc 5 then some (.ifCond .ne 6, 8, 11, 0, 0) else none) else (bif Nat.beq pc 8 then some (.ldc 202, 10, 0, 0, (-1000000001)) else none)))) else (bif Nat.blt pc 12 then (bif Nat.blt pc 11 then (bif Nat.beq pc 10 then some (.ireturn, 11, 0, 0, 0) else none) else (bif Nat.beq pc 11 then some (.iload_n 2, 12, 2, 0, 0) else none)) else (bif Nat.blt pc 52 then (bif Nat.beq pc 12 then some (.tableswitch 87 0 5 #[40, 47, 54, 61, 71, 81], 52, 0, 0, 0) else none) else (bif Nat.blt pc 53 then (bif Nat.beq pc 52 then some (.aload_n 0, 53, 0, 0, 0) else none) else (bif Nat.beq pc 53 then some (.getfield 13, 56, 12, 1, 0) else none))))) else (bif Nat.blt pc 63 then (bif Nat.blt pc 58 then (bif Nat.blt pc 57 then (bif Nat.beq pc 56 then some (.iload_n 1, 57, 1, 0, 0) else none) else (bif Nat.beq pc 57 then some (.iaload, 58, 0, 0, 0) else none)) else (bif Nat.blt pc 59 then (bif Nat.beq pc 58 then some (.ireturn, 59, 0, 0, 0) else none) else (bif Nat.blt pc 60 then (bif Nat.beq pc 59 then some (.aload_n 0, 60, 0, 0, 0) else none) else (bif Nat.beq pc 60 then some (.getfield 19, 63, 12, 3, 0) else none)))) else (bif Nat.blt pc 66 then (bif Nat.blt pc 64 then (bif Nat.beq pc 63 then some (.iload_n 1, 64, 1, 0, 0) else none) else (bif Nat.blt pc 65 then (bif Nat.beq pc 64 then some (.iaload, 65, 0, 0, 0) else none) else (bif Nat.beq pc 65 then some (.ireturn, 66, 0, 0, 0) else none))) else (bif Nat.blt pc 67 then (bif Nat.beq pc 66 then some (.aload_n 0, 67, 0, 0, 0) else none) else (bif Nat.blt pc 70 then (bif Nat.beq pc 67 then some (.getfield 7, 70, 12, 0, 0) else none) else (bif Nat.beq pc 70 then some (.iload_n 1, 71, 1, 0, 0) else none)))))) else (bif Nat.blt pc 87 then (bif Nat.blt pc 79 then (bif Nat.blt pc 73 then (bif Nat.blt pc 72 then (bif Nat.beq pc 71 then some (.iaload, 72, 0, 0, 0) else none) else (bif Nat.beq pc 72 then some (.ireturn, 73, 0, 0, 0) else none)) else (bif Nat.blt pc 74 then (bif Nat.beq pc 73 then some (.aload_n 0, 74, 0, 0, 0) else none) else (bif Nat.blt pc 77 then (bif Nat.beq pc 74 then some (.getfield 7, 77, 12, 0, 0) else none) else (bif Nat.beq pc 77 then some (.bipush 6, 79, 0, 0, 6) else none)))) else (bif Nat.blt pc 82 then (bif Nat.blt pc 80 then (bif Nat.beq pc 79 then some (.iload_n 1, 80, 1, 0, 0) else none) else (bif Nat.blt pc 81 then (bif Nat.beq pc 80 then some (.iadd, 81, 0, 0, 0) else none) else (bif Nat.beq pc 81 then some (.iaload, 82, 0, 0, 0) else none))) else (bif Nat.blt pc 83 then (bif Nat.beq pc 82 then some (.ireturn, 83, 0, 0, 0) else none) else (bif Nat.blt pc 84 then (bif Nat.beq pc 83 then some (.aload_n 0, 84, 0, 0, 0) else none) else (bif Nat.beq pc 84 then some (.getfield 7, 87, 12, 0, 0) else none))))) else (bif Nat.blt pc 93 then (bif Nat.blt pc 90 then (bif Nat.blt pc 89 then (bif Nat.beq pc 87 then some (.bipush 12, 89, 0, 0, 12) else none) else (bif Nat.beq pc 89 then some (.iload_n 1, 90, 1, 0, 0) else none)) else (bif Nat.blt pc 91 then (bif Nat.beq pc 90 then some (.iadd, 91, 0, 0, 0) else none) else (bif Nat.blt pc 92 then (bif Nat.beq pc 91 then some (.iaload, 92, 0, 0, 0) else none) else (bif Nat.beq pc 92 then some (.ireturn, 93, 0, 0, 0) else none)))) else (bif Nat.blt pc 98 then (bif Nat.blt pc 94 then (bif Nat.beq pc 93 then some (.aload_n 0, 94, 0, 0, 0) else none) else (bif Nat.blt pc 95 then (bif Nat.beq pc 94 then some (.iload_n 1, 95, 1, 0, 0) else none) else (bif Nat.beq pc 95 then some (.invokevirtual 174, 98, 153, 1, 0) else none))) else (bif Nat.blt pc 99 then (bif Nat.beq pc 98 then some (.ireturn, 99, 0, 0, 0) else none) else (bif Nat.blt pc 101 then (bif Nat.beq pc 99 then some (.ldc 79, 101, 0, 0, (-1000000002)) else none) else (bif Nat.beq pc 101 then some (.ireturn, 102, 0, 0, 0) else none))))))
/-- X12_claim -/
noncomputable def gn_c161 (pc : Nat) : Option gn_En := bif Nat.blt pc 33 then (bif Nat.blt pc 14 then (bif Nat.blt pc 8 then (bif Nat.blt pc 2 then (bif Nat.blt pc 1 then (bif Nat.beq pc 0 then some (.aload_n 0, 1, 0, 0, 0) else none) else (bif Nat.beq pc 1 then some (.iload_n 1, 2, 1, 0, 0) else none)) else (bif Nat.blt pc 5 then (bif Nat.beq pc 2 then some (.invokevirtual 198, 5, 132, 1, 0) else none) else (bif Nat.beq pc 5 then some (.ifCond .ne 6, 8, 11, 0, 0) else none))) else (bif Nat.blt pc 11 then (bif Nat.blt pc 10 then (bif Nat.beq pc 8 then some (.ldc 202, 10, 0, 0, (-1000000001)) else none) else (bif Nat.beq pc 10 then some (.ireturn, 11, 0, 0, 0) else none)) else (bif Nat.blt pc 12 then (bif Nat.beq pc 11 then some (.iload_n 2, 12, 2, 0, 0) else none) else (bif Nat.blt pc 13 then (bif Nat.beq pc 12 then some (.iconst 0, 13, 0, 0, 0) else none) else (bif Nat.beq pc 13 then some (.iconst 5, 14, 0, 0, 5) else none))))) else (bif Nat.blt pc 23 then (bif Nat.blt pc 20 then (bif Nat.blt pc 17 then (bif Nat.beq pc 14 then some (.invokestatic 72, 17, 130, 3, 0) else none) else (bif Nat.beq pc 17 then some (.ifCond .eq 12, 20, 29, 0, 0) else none)) else (bif Nat.blt pc 21 then (bif Nat.beq pc 20 then some (.iload_n 3, 21, 3, 0, 0) else none) else (bif Nat.blt pc 22 then (bif Nat.beq pc 21 then some (.iconst 0, 22, 0, 0, 0) else none) else (bif Nat.beq pc 22 then some (.iconst 1, 23, 0, 0, 1) else none)))) else (bif Nat.blt pc 29 then (bif Nat.blt pc 26 then (bif Nat.beq pc 23 then some (.invokestatic 72, 26, 130, 3, 0) else none) else (bif Nat.beq pc 26 then some (.ifCond .ne 6, 29, 32, 0, 0) else none)) else (bif Nat.blt pc 31 then (bif Nat.beq pc 29 then some (.ldc 79, 31, 0, 0, (-1000000002)) else none) else (bif Nat.blt pc 32 then (bif Nat.beq pc 31 then some (.ireturn, 32, 0, 0, 0) else none) else (bif Nat.beq pc 32 then some (.iload_n 2, 33, 2, 0, 0) else none)))))) else (bif Nat.blt pc 50 then (bif Nat.blt pc 39 then (bif Nat.blt pc 37 then (bif Nat.blt pc 34 then (bif Nat.beq pc 33 then some (.aload_n 0, 34, 0, 0, 0) else none) else (bif Nat.beq pc 34 then some (.getfield 19, 37, 12, 3, 0) else none)) else (bif Nat.blt pc 38 then (bif Nat.beq pc 37 then some (.iload_n 1, 38, 1, 0, 0) else none) else (bif Nat.beq pc 38 then some (.iaload, 39, 0, 0, 0) else none))) else (bif Nat.blt pc 43 then (bif Nat.blt pc 42 then (bif Nat.beq pc 39 then some (.if_icmp .lt 7, 42, 46, 0, 0) else none) else (bif Nat.beq pc 42 then some (.iconst (-1), 43, 0, 0, (-1)) else none)) else (bif Nat.blt pc 46 then (bif Nat.beq pc 43 then some (.goto 22, 46, 65, 0, 0) else none) else (bif Nat.blt pc 47 then (bif Nat.beq pc 46 then some (.iload_n 3, 47, 3, 0, 0) else none) else (bif Nat.beq pc 47 then some (.ifCond .ne 12, 50, 59, 0, 0) else none))))) else (bif Nat.blt pc 59 then (bif Nat.blt pc 52 then (bif Nat.blt pc 51 then (bif Nat.beq pc 50 then some (.aload_n 0, 51, 0, 0, 0) else none) else (bif Nat.beq pc 51 then some (.iload_n 1, 52, 1, 0, 0) else none)) else (bif Nat.blt pc 53 then (bif Nat.beq pc 52 then some (.iload_n 2, 53, 2, 0, 0) else none) else (bif Nat.blt pc 56 then (bif Nat.beq pc 53 then some (.invokevirtual 163, 56, 148, 2, 0) else none) else (bif Nat.beq pc 56 then some (.goto 9, 59, 65, 0, 0) else none)))) else (bif Nat.blt pc 61 then (bif Nat.blt pc 60 then (bif Nat.beq pc 59 then some (.aload_n 0, 60, 0, 0, 0) else none) else (bif Nat.beq pc 60 then some (.iload_n 1, 61, 1, 0, 0) else none)) else (bif Nat.blt pc 62 then (bif Nat.beq pc 61 then some (.iload_n 2, 62, 2, 0, 0) else none) else (bif Nat.blt pc 65 then (bif Nat.beq pc 62 then some (.invokevirtual 159, 65, 149, 2, 0) else none) else (bif Nat.beq pc 65 then some (.ireturn, 66, 0, 0, 0) else none))))))
/-- X12_host -/
noncomputable def gn_c162 (pc : Nat) : Option gn_En := bif Nat.blt pc 29 then (bif Nat.blt pc 15 then (bif Nat.blt pc 8 then (bif Nat.blt pc 2 then (bif Nat.blt pc 1 then (bif Nat.beq pc 0 then some (.aload_n 0, 1, 0, 0, 0) else none) else (bif Nat.beq pc 1 then some (.iload_n 1, 2, 1, 0, 0) else none)) else (bif Nat.blt pc 5 then (bif Nat.beq pc 2 then some (.invokevirtual 203, 5, 133, 1, 0) else none) else (bif Nat.beq pc 5 then some (.ifCond .ne 6, 8, 11, 0, 0) else none))) else (bif Nat.blt pc 11 then (bif Nat.blt pc 10 then (bif Nat.beq pc 8 then some (.ldc 202, 10, 0, 0, (-1000000001)) else none) else (bif Nat.beq pc 10 then some (.ireturn, 11, 0, 0, 0) else none)) else (bif Nat.blt pc 12 then (bif Nat.beq pc 11 then some (.iload_n 2, 12, 2, 0, 0) else none) else (bif Nat.beq pc 12 then some (.ifCond .ne 12, 15, 24, 0, 0) else none)))) else (bif Nat.blt pc 21 then (bif Nat.blt pc 19 then (bif Nat.blt pc 16 then (bif Nat.beq pc 15 then some (.aload_n 0, 16, 0, 0, 0) else none) else (bif Nat.beq pc 16 then some (.getfield 22, 19, 12, 4, 0) else none)) else (bif Nat.blt pc 20 then (bif Nat.beq pc 19 then some (.iload_n 1, 20, 1, 0, 0) else none) else (bif Nat.beq pc 20 then some (.iaload, 21, 0, 0, 0) else none))) else (bif Nat.blt pc 25 then (bif Nat.blt pc 24 then (bif Nat.beq pc 21 then some (.goto 36, 24, 57, 0, 0) else none) else (bif Nat.beq pc 24 then some (.iload_n 2, 25, 2, 0, 0) else none)) else (bif Nat.blt pc 26 then (bif Nat.beq pc 25 then some (.iconst 1, 26, 0, 0, 1) else none) else (bif Nat.beq pc 26 then some (.if_icmp .ne 12, 29, 38, 0, 0) else none))))) else (bif Nat.blt pc 43 then (bif Nat.blt pc 35 then (bif Nat.blt pc 33 then (bif Nat.blt pc 30 then (bif Nat.beq pc 29 then some (.aload_n 0, 30, 0, 0, 0) else none) else (bif Nat.beq pc 30 then some (.getfield 25, 33, 12, 5, 0) else none)) else (bif Nat.blt pc 34 then (bif Nat.beq pc 33 then some (.iload_n 1, 34, 1, 0, 0) else none) else (bif Nat.beq pc 34 then some (.iaload, 35, 0, 0, 0) else none))) else (bif Nat.blt pc 39 then (bif Nat.blt pc 38 then (bif Nat.beq pc 35 then some (.goto 22, 38, 57, 0, 0) else none) else (bif Nat.beq pc 38 then some (.iload_n 2, 39, 2, 0, 0) else none)) else (bif Nat.blt pc 40 then (bif Nat.beq pc 39 then some (.iconst 2, 40, 0, 0, 2) else none) else (bif Nat.beq pc 40 then some (.if_icmp .ne 15, 43, 55, 0, 0) else none)))) else (bif Nat.blt pc 50 then (bif Nat.blt pc 47 then (bif Nat.blt pc 44 then (bif Nat.beq pc 43 then some (.aload_n 0, 44, 0, 0, 0) else none) else (bif Nat.beq pc 44 then some (.getfield 7, 47, 12, 0, 0) else none)) else (bif Nat.blt pc 49 then (bif Nat.beq pc 47 then some (.bipush 20, 49, 0, 0, 20) else none) else (bif Nat.beq pc 49 then some (.iload_n 1, 50, 1, 0, 0) else none))) else (bif Nat.blt pc 52 then (bif Nat.blt pc 51 then (bif Nat.beq pc 50 then some (.iadd, 51, 0, 0, 0) else none) else (bif Nat.beq pc 51 then some (.iaload, 52, 0, 0, 0) else none)) else (bif Nat.blt pc 55 then (bif Nat.beq pc 52 then some (.goto 5, 55, 57, 0, 0) else none) else (bif Nat.blt pc 57 then (bif Nat.beq pc 55 then some (.ldc 79, 57, 0, 0, (-1000000002)) else none) else (bif Nat.beq pc 57 then some (.ireturn, 58, 0, 0, 0) else none))))))
/-- X12_remember -/
noncomputable def gn_c163 (pc : Nat) : Option gn_En := bif Nat.blt pc 37 then (bif Nat.blt pc 20 then (bif Nat.blt pc 10 then (bif Nat.blt pc 4 then (bif Nat.blt pc 1 then (bif Nat.beq pc 0 then some (.aload_n 0, 1, 0, 0, 0) else none) else (bif Nat.beq pc 1 then some (.getfield 147, 4, 12, 10, 0) else none)) else (bif Nat.blt pc 6 then (bif Nat.beq pc 4 then some (.bipush 30, 6, 0, 0, 30) else none) else (bif Nat.blt pc 9 then (bif Nat.beq pc 6 then some (.if_icmp .ne 47, 9, 53, 0, 0) else none) else (bif Nat.beq pc 9 then some (.iconst 1, 10, 0, 0, 1) else none)))) else (bif Nat.blt pc 14 then (bif Nat.blt pc 11 then (bif Nat.beq pc 10 then some (.istore_n 1, 11, 1, 0, 0) else none) else (bif Nat.blt pc 12 then (bif Nat.beq pc 11 then some (.iload_n 1, 12, 1, 0, 0) else none) else (bif Nat.beq pc 12 then some (.bipush 30, 14, 0, 0, 30) else none))) else (bif Nat.blt pc 17 then (bif Nat.beq pc 14 then some (.if_icmp .ge 29, 17, 43, 0, 0) else none) else (bif Nat.blt pc 18 then (bif Nat.beq pc 17 then some (.aload_n 0, 18, 0, 0, 0) else none) else (bif Nat.beq pc 18 then some (.bipush 87, 20, 0, 0, 87) else none))))) else (bif Nat.blt pc 29 then (bif Nat.blt pc 24 then (bif Nat.blt pc 22 then (bif Nat.beq pc 20 then some (.bipush 29, 22, 0, 0, 29) else none) else (bif Nat.blt pc 23 then (bif Nat.beq pc 22 then some (.iload_n 1, 23, 1, 0, 0) else none) else (bif Nat.beq pc 23 then some (.imul, 24, 0, 0, 0) else none))) else (bif Nat.blt pc 25 then (bif Nat.beq pc 24 then some (.iadd, 25, 0, 0, 0) else none) else (bif Nat.blt pc 27 then (bif Nat.beq pc 25 then some (.bipush 87, 27, 0, 0, 87) else none) else (bif Nat.beq pc 27 then some (.bipush 29, 29, 0, 0, 29) else none)))) else (bif Nat.blt pc 32 then (bif Nat.blt pc 30 then (bif Nat.beq pc 29 then some (.iload_n 1, 30, 1, 0, 0) else none) else (bif Nat.blt pc 31 then (bif Nat.beq pc 30 then some (.iconst 1, 31, 0, 0, 1) else none) else (bif Nat.beq pc 31 then some (.isub, 32, 0, 0, 0) else none))) else (bif Nat.blt pc 33 then (bif Nat.beq pc 32 then some (.imul, 33, 0, 0, 0) else none) else (bif Nat.blt pc 34 then (bif Nat.beq pc 33 then some (.iadd, 34, 0, 0, 0) else none) else (bif Nat.beq pc 34 then some (.invokevirtual 206, 37, 134, 2, 0) else none)))))) else (bif Nat.blt pc 59 then (bif Nat.blt pc 49 then (bif Nat.blt pc 44 then (bif Nat.blt pc 40 then (bif Nat.beq pc 37 then some (.iinc 1 1, 40, 1, 0, 1) else none) else (bif Nat.blt pc 43 then (bif Nat.beq pc 40 then some (.goto (-29), 43, 11, 0, 0) else none) else (bif Nat.beq pc 43 then some (.aload_n 0, 44, 0, 0, 0) else none))) else (bif Nat.blt pc 45 then (bif Nat.beq pc 44 then some (.dup, 45, 0, 0, 0) else none) else (bif Nat.blt pc 48 then (bif Nat.beq pc 45 then some (.getfield 147, 48, 12, 10, 0) else none) else (bif Nat.beq pc 48 then some (.iconst 1, 49, 0, 0, 1) else none)))) else (bif Nat.blt pc 54 then (bif Nat.blt pc 50 then (bif Nat.beq pc 49 then some (.isub, 50, 0, 0, 0) else none) else (bif Nat.blt pc 53 then (bif Nat.beq pc 50 then some (.putfield 147, 53, 12, 10, 0) else none) else (bif Nat.beq pc 53 then some (.aload_n 0, 54, 0, 0, 0) else none))) else (bif Nat.blt pc 55 then (bif Nat.beq pc 54 then some (.iconst 0, 55, 0, 0, 0) else none) else (bif Nat.blt pc 57 then (bif Nat.beq pc 55 then some (.bipush 87, 57, 0, 0, 87) else none) else (bif Nat.beq pc 57 then some (.bipush 29, 59, 0, 0, 29) else none))))) else (bif Nat.blt pc 69 then (bif Nat.blt pc 64 then (bif Nat.blt pc 60 then (bif Nat.beq pc 59 then some (.aload_n 0, 60, 0, 0, 0) else none) else (bif Nat.blt pc 63 then (bif Nat.beq pc 60 then some (.getfield 147, 63, 12, 10, 0) else none) else (bif Nat.beq pc 63 then some (.imul, 64, 0, 0, 0) else none))) else (bif Nat.blt pc 65 then (bif Nat.beq pc 64 then some (.iadd, 65, 0, 0, 0) else none) else (bif Nat.blt pc 68 then (bif Nat.beq pc 65 then some (.invokevirtual 206, 68, 134, 2, 0) else none) else (bif Nat.beq pc 68 then some (.aload_n 0, 69, 0, 0, 0) else none)))) else (bif Nat.blt pc 74 then (bif Nat.blt pc 70 then (bif Nat.beq pc 69 then some (.dup, 70, 0, 0, 0) else none) else (bif Nat.blt pc 73 then (bif Nat.beq pc 70 then some (.getfield 147, 73, 12, 10, 0) else none) else (bif Nat.beq pc 73 then some (.iconst 1, 74, 0, 0, 1) else none))) else (bif Nat.blt pc 75 then (bif Nat.beq pc 74 then some (.iadd, 75, 0, 0, 0) else none) else (bif Nat.blt pc 78 then (bif Nat.beq pc 75 then some (.putfield 147, 78, 12, 10, 0) else none) else (bif Nat.beq pc 78 then some (.return_, 79, 0, 0, 0) else none))))))
/-- X12_say -/
noncomputable def gn_c164 (pc : Nat) : Option gn_En := bif Nat.blt pc 36 then (bif Nat.blt pc 18 then (bif Nat.blt pc 10 then (bif Nat.blt pc 2 then (bif Nat.blt pc 1 then (bif Nat.beq pc 0 then some (.aload_n 0, 1, 0, 0, 0) else none) else (bif Nat.beq pc 1 then some (.iload_n 1, 2, 1, 0, 0) else none)) else (bif Nat.blt pc 5 then (bif Nat.beq pc 2 then some (.invokevirtual 198, 5, 132, 1, 0) else none) else (bif Nat.blt pc 8 then (bif Nat.beq pc 5 then some (.ifCond .ne 6, 8, 11, 0, 0) else none) else (bif Nat.beq pc 8 then some (.ldc 202, 10, 0, 0, (-1000000001)) else none)))) else (bif Nat.blt pc 12 then (bif Nat.blt pc 11 then (bif Nat.beq pc 10 then some (.ireturn, 11, 0, 0, 0) else none) else (bif Nat.beq pc 11 then some (.aload_n 0, 12, 0, 0, 0) else none)) else (bif Nat.blt pc 15 then (bif Nat.beq pc 12 then some (.getfield 7, 15, 12, 0, 0) else none) else (bif Nat.blt pc 17 then (bif Nat.beq pc 15 then some (.bipush 18, 17, 0, 0, 18) else none) else (bif Nat.beq pc 17 then some (.iaload, 18, 0, 0, 0) else none))))) else (bif Nat.blt pc 29 then (bif Nat.blt pc 22 then (bif Nat.blt pc 19 then (bif Nat.beq pc 18 then some (.iload_n 1, 19, 1, 0, 0) else none) else (bif Nat.beq pc 19 then some (.invokestatic 166, 22, 131, 2, 0) else none)) else (bif Nat.blt pc 25 then (bif Nat.beq pc 22 then some (.ifCond .eq 18, 25, 40, 0, 0) else none) else (bif Nat.blt pc 26 then (bif Nat.beq pc 25 then some (.aload_n 0, 26, 0, 0, 0) else none) else (bif Nat.beq pc 26 then some (.getfield 7, 29, 12, 0, 0) else none)))) else (bif Nat.blt pc 31 then (bif Nat.blt pc 30 then (bif Nat.beq pc 29 then some (.iload_n 1, 30, 1, 0, 0) else none) else (bif Nat.beq pc 30 then some (.iaload, 31, 0, 0, 0) else none)) else (bif Nat.blt pc 32 then (bif Nat.beq pc 31 then some (.aload_n 0, 32, 0, 0, 0) else none) else (bif Nat.blt pc 35 then (bif Nat.beq pc 32 then some (.getfield 19, 35, 12, 3, 0) else none) else (bif Nat.beq pc 35 then some (.iload_n 1, 36, 1, 0, 0) else none)))))) else (bif Nat.blt pc 53 then (bif Nat.blt pc 44 then (bif Nat.blt pc 40 then (bif Nat.blt pc 37 then (bif Nat.beq pc 36 then some (.iaload, 37, 0, 0, 0) else none) else (bif Nat.beq pc 37 then some (.if_icmp .ne 6, 40, 43, 0, 0) else none)) else (bif Nat.blt pc 42 then (bif Nat.beq pc 40 then some (.ldc 209, 42, 0, 0, (-1000000003)) else none) else (bif Nat.blt pc 43 then (bif Nat.beq pc 42 then some (.ireturn, 43, 0, 0, 0) else none) else (bif Nat.beq pc 43 then some (.aload_n 0, 44, 0, 0, 0) else none)))) else (bif Nat.blt pc 48 then (bif Nat.blt pc 47 then (bif Nat.beq pc 44 then some (.invokevirtual 210, 47, 163, 0, 0) else none) else (bif Nat.beq pc 47 then some (.aload_n 0, 48, 0, 0, 0) else none)) else (bif Nat.blt pc 51 then (bif Nat.beq pc 48 then some (.getfield 7, 51, 12, 0, 0) else none) else (bif Nat.blt pc 52 then (bif Nat.beq pc 51 then some (.iload_n 1, 52, 1, 0, 0) else none) else (bif Nat.beq pc 52 then some (.dup2, 53, 0, 0, 0) else none))))) else (bif Nat.blt pc 58 then (bif Nat.blt pc 55 then (bif Nat.blt pc 54 then (bif Nat.beq pc 53 then some (.iaload, 54, 0, 0, 0) else none) else (bif Nat.beq pc 54 then some (.iconst 1, 55, 0, 0, 1) else none)) else (bif Nat.blt pc 56 then (bif Nat.beq pc 55 then some (.iadd, 56, 0, 0, 0) else none) else (bif Nat.blt pc 57 then (bif Nat.beq pc 56 then some (.iastore, 57, 0, 0, 0) else none) else (bif Nat.beq pc 57 then some (.aload_n 0, 58, 0, 0, 0) else none)))) else (bif Nat.blt pc 63 then (bif Nat.blt pc 61 then (bif Nat.beq pc 58 then some (.getfield 7, 61, 12, 0, 0) else none) else (bif Nat.blt pc 62 then (bif Nat.beq pc 61 then some (.iload_n 1, 62, 1, 0, 0) else none) else (bif Nat.beq pc 62 then some (.iaload, 63, 0, 0, 0) else none))) else (bif Nat.blt pc 64 then (bif Nat.beq pc 63 then some (.iconst 1, 64, 0, 0, 1) else none) else (bif Nat.blt pc 65 then (bif Nat.beq pc 64 then some (.isub, 65, 0, 0, 0) else none) else (bif Nat.beq pc 65 then some (.ireturn, 66, 0, 0, 0) else none))))))
/-- X12_isOpen -/
noncomputable def gn_c165 (pc : Nat) : Option gn_En := bif Nat.blt pc 23 then (bif Nat.blt pc 11 then (bif Nat.blt pc 6 then (bif Nat.blt pc 1 then (bif Nat.beq pc 0 then some (.aload_n 0, 1, 0, 0, 0) else none) else (bif Nat.blt pc 4 then (bif Nat.beq pc 1 then some (.getfield 7, 4, 12, 0, 0) else none) else (bif Nat.beq pc 4 then some (.bipush 18, 6, 0, 0, 18) else none))) else (bif Nat.blt pc 7 then (bif Nat.beq pc 6 then some (.iaload, 7, 0, 0, 0) else none) else (bif Nat.blt pc 8 then (bif Nat.beq pc 7 then some (.iload_n 1, 8, 1, 0, 0) else none) else (bif Nat.beq pc 8 then some (.invokestatic 166, 11, 131, 2, 0) else none)))) else (bif Nat.blt pc 18 then (bif Nat.blt pc 14 then (bif Nat.beq pc 11 then some (.ifCond .eq 29, 14, 40, 0, 0) else none) else (bif Nat.blt pc 15 then (bif Nat.beq pc 14 then some (.aload_n 0, 15, 0, 0, 0) else none) else (bif Nat.beq pc 15 then some (.getfield 7, 18, 12, 0, 0) else none))) else (bif Nat.blt pc 19 then (bif Nat.beq pc 18 then some (.iload_n 1, 19, 1, 0, 0) else none) else (bif Nat.blt pc 20 then (bif Nat.beq pc 19 then some (.iaload, 20, 0, 0, 0) else none) else (bif Nat.beq pc 20 then some (.ifCond .le 20, 23, 40, 0, 0) else none))))) else (bif Nat.blt pc 32 then (bif Nat.blt pc 29 then (bif Nat.blt pc 24 then (bif Nat.beq pc 23 then some (.aload_n 0, 24, 0, 0, 0) else none) else (bif Nat.blt pc 27 then (bif Nat.beq pc 24 then some (.getfield 7, 27, 12, 0, 0) else none) else (bif Nat.beq pc 27 then some (.bipush 6, 29, 0, 0, 6) else none))) else (bif Nat.blt pc 30 then (bif Nat.beq pc 29 then some (.iload_n 1, 30, 1, 0, 0) else none) else (bif Nat.blt pc 31 then (bif Nat.beq pc 30 then some (.iadd, 31, 0, 0, 0) else none) else (bif Nat.beq pc 31 then some (.iaload, 32, 0, 0, 0) else none)))) else (bif Nat.blt pc 37 then (bif Nat.blt pc 33 then (bif Nat.beq pc 32 then some (.iconst (-1), 33, 0, 0, (-1)) else none) else (bif Nat.blt pc 36 then (bif Nat.beq pc 33 then some (.if_icmp .ne 7, 36, 40, 0, 0) else none) else (bif Nat.beq pc 36 then some (.iconst 1, 37, 0, 0, 1) else none))) else (bif Nat.blt pc 40 then (bif Nat.beq pc 37 then some (.goto 4, 40, 41, 0, 0) else none) else (bif Nat.blt pc 41 then (bif Nat.beq pc 40 then some (.iconst 0, 41, 0, 0, 0) else none) else (bif Nat.beq pc 41 then some (.ireturn, 42, 0, 0, 0) else none)))))
/-- X12_glad -/
noncomputable def gn_c166 (pc : Nat) : Option gn_En := bif Nat.blt pc 17 then (bif Nat.blt pc 10 then (bif Nat.blt pc 4 then (bif Nat.blt pc 1 then (bif Nat.beq pc 0 then some (.aload_n 0, 1, 0, 0, 0) else none) else (bif Nat.beq pc 1 then some (.getfield 7, 4, 12, 0, 0) else none)) else (bif Nat.blt pc 6 then (bif Nat.beq pc 4 then some (.bipush 24, 6, 0, 0, 24) else none) else (bif Nat.blt pc 7 then (bif Nat.beq pc 6 then some (.aload_n 0, 7, 0, 0, 0) else none) else (bif Nat.beq pc 7 then some (.getfield 7, 10, 12, 0, 0) else none)))) else (bif Nat.blt pc 13 then (bif Nat.blt pc 12 then (bif Nat.beq pc 10 then some (.bipush 24, 12, 0, 0, 24) else none) else (bif Nat.beq pc 12 then some (.iaload, 13, 0, 0, 0) else none)) else (bif Nat.blt pc 14 then (bif Nat.beq pc 13 then some (.iload_n 1, 14, 1, 0, 0) else none) else (bif Nat.blt pc 15 then (bif Nat.beq pc 14 then some (.iadd, 15, 0, 0, 0) else none) else (bif Nat.beq pc 15 then some (.ldc 213, 17, 0, 0, 999999) else none))))) else (bif Nat.blt pc 29 then (bif Nat.blt pc 22 then (bif Nat.blt pc 20 then (bif Nat.beq pc 17 then some (.if_icmp .le 8, 20, 25, 0, 0) else none) else (bif Nat.beq pc 20 then some (.ldc 213, 22, 0, 0, 999999) else none)) else (bif Nat.blt pc 25 then (bif Nat.beq pc 22 then some (.goto 12, 25, 34, 0, 0) else none) else (bif Nat.blt pc 26 then (bif Nat.beq pc 25 then some (.aload_n 0, 26, 0, 0, 0) else none) else (bif Nat.beq pc 26 then some (.getfield 7, 29, 12, 0, 0) else none)))) else (bif Nat.blt pc 33 then (bif Nat.blt pc 31 then (bif Nat.beq pc 29 then some (.bipush 24, 31, 0, 0, 24) else none) else (bif Nat.blt pc 32 then (bif Nat.beq pc 31 then some (.iaload, 32, 0, 0, 0) else none) else (bif Nat.beq pc 32 then some (.iload_n 1, 33, 1, 0, 0) else none))) else (bif Nat.blt pc 34 then (bif Nat.beq pc 33 then some (.iadd, 34, 0, 0, 0) else none) else (bif Nat.blt pc 35 then (bif Nat.beq pc 34 then some (.iastore, 35, 0, 0, 0) else none) else (bif Nat.beq pc 35 then some (.return_, 36, 0, 0, 0) else none)))))
/-- X12_tell -/
noncomputable def gn_c167 (pc : Nat) : Option gn_En := bif Nat.blt pc 23 then (bif Nat.blt pc 10 then (bif Nat.blt pc 6 then (bif Nat.blt pc 1 then (bif Nat.beq pc 0 then some (.aload_n 0, 1, 0, 0, 0) else none) else (bif Nat.blt pc 4 then (bif Nat.beq pc 1 then some (.getfield 7, 4, 12, 0, 0) else none) else (bif Nat.beq pc 4 then some (.bipush 6, 6, 0, 0, 6) else none))) else (bif Nat.blt pc 8 then (bif Nat.blt pc 7 then (bif Nat.beq pc 6 then some (.iload_n 2, 7, 2, 0, 0) else none) else (bif Nat.beq pc 7 then some (.iadd, 8, 0, 0, 0) else none)) else (bif Nat.blt pc 9 then (bif Nat.beq pc 8 then some (.iload_n 1, 9, 1, 0, 0) else none) else (bif Nat.beq pc 9 then some (.iastore, 10, 0, 0, 0) else none)))) else (bif Nat.blt pc 17 then (bif Nat.blt pc 14 then (bif Nat.blt pc 11 then (bif Nat.beq pc 10 then some (.aload_n 0, 11, 0, 0, 0) else none) else (bif Nat.beq pc 11 then some (.getfield 7, 14, 12, 0, 0) else none)) else (bif Nat.blt pc 16 then (bif Nat.beq pc 14 then some (.bipush 12, 16, 0, 0, 12) else none) else (bif Nat.beq pc 16 then some (.iload_n 2, 17, 2, 0, 0) else none))) else (bif Nat.blt pc 19 then (bif Nat.blt pc 18 then (bif Nat.beq pc 17 then some (.iadd, 18, 0, 0, 0) else none) else (bif Nat.beq pc 18 then some (.aload_n 0, 19, 0, 0, 0) else none)) else (bif Nat.blt pc 22 then (bif Nat.beq pc 19 then some (.getfield 7, 22, 12, 0, 0) else none) else (bif Nat.beq pc 22 then some (.iload_n 2, 23, 2, 0, 0) else none))))) else (bif Nat.blt pc 30 then (bif Nat.blt pc 26 then (bif Nat.blt pc 24 then (bif Nat.beq pc 23 then some (.iaload, 24, 0, 0, 0) else none) else (bif Nat.blt pc 25 then (bif Nat.beq pc 24 then some (.iconst 1, 25, 0, 0, 1) else none) else (bif Nat.beq pc 25 then some (.isub, 26, 0, 0, 0) else none))) else (bif Nat.blt pc 28 then (bif Nat.blt pc 27 then (bif Nat.beq pc 26 then some (.iastore, 27, 0, 0, 0) else none) else (bif Nat.beq pc 27 then some (.aload_n 0, 28, 0, 0, 0) else none)) else (bif Nat.blt pc 29 then (bif Nat.beq pc 28 then some (.iload_n 2, 29, 2, 0, 0) else none) else (bif Nat.beq pc 29 then some (.iload_n 1, 30, 1, 0, 0) else none)))) else (bif Nat.blt pc 36 then (bif Nat.blt pc 34 then (bif Nat.blt pc 31 then (bif Nat.beq pc 30 then some (.aload_n 0, 31, 0, 0, 0) else none) else (bif Nat.beq pc 31 then some (.getfield 7, 34, 12, 0, 0) else none)) else (bif Nat.blt pc 35 then (bif Nat.beq pc 34 then some (.iload_n 2, 35, 2, 0, 0) else none) else (bif Nat.beq pc 35 then some (.iaload, 36, 0, 0, 0) else none))) else (bif Nat.blt pc 38 then (bif Nat.blt pc 37 then (bif Nat.beq pc 36 then some (.iconst 1, 37, 0, 0, 1) else none) else (bif Nat.beq pc 37 then some (.isub, 38, 0, 0, 0) else none)) else (bif Nat.blt pc 41 then (bif Nat.beq pc 38 then some (.invokevirtual 180, 41, 151, 3, 0) else none) else (bif Nat.beq pc 41 then some (.ireturn, 42, 0, 0, 0) else none)))))
/-- X12_noBy -/
noncomputable def gn_c168 (pc : Nat) : Option gn_En := bif Nat.blt pc 13 then (bif Nat.blt pc 8 then (bif Nat.blt pc 4 then (bif Nat.blt pc 1 then (bif Nat.beq pc 0 then some (.aload_n 0, 1, 0, 0, 0) else none) else (bif Nat.beq pc 1 then some (.getfield 7, 4, 12, 0, 0) else none)) else (bif Nat.blt pc 6 then (bif Nat.beq pc 4 then some (.bipush 20, 6, 0, 0, 20) else none) else (bif Nat.blt pc 7 then (bif Nat.beq pc 6 then some (.iload_n 1, 7, 1, 0, 0) else none) else (bif Nat.beq pc 7 then some (.iadd, 8, 0, 0, 0) else none)))) else (bif Nat.blt pc 10 then (bif Nat.blt pc 9 then (bif Nat.beq pc 8 then some (.dup2, 9, 0, 0, 0) else none) else (bif Nat.beq pc 9 then some (.iaload, 10, 0, 0, 0) else none)) else (bif Nat.blt pc 11 then (bif Nat.beq pc 10 then some (.iconst 1, 11, 0, 0, 1) else none) else (bif Nat.blt pc 12 then (bif Nat.beq pc 11 then some (.isub, 12, 0, 0, 0) else none) else (bif Nat.beq pc 12 then some (.iastore, 13, 0, 0, 0) else none))))) else (bif Nat.blt pc 20 then (bif Nat.blt pc 15 then (bif Nat.blt pc 14 then (bif Nat.beq pc 13 then some (.aload_n 0, 14, 0, 0, 0) else none) else (bif Nat.beq pc 14 then some (.iload_n 1, 15, 1, 0, 0) else none)) else (bif Nat.blt pc 16 then (bif Nat.beq pc 15 then some (.iload_n 2, 16, 2, 0, 0) else none) else (bif Nat.blt pc 19 then (bif Nat.beq pc 16 then some (.invokevirtual 214, 19, 167, 2, 0) else none) else (bif Nat.beq pc 19 then some (.istore_n 3, 20, 3, 0, 0) else none)))) else (bif Nat.blt pc 22 then (bif Nat.blt pc 21 then (bif Nat.beq pc 20 then some (.aload_n 0, 21, 0, 0, 0) else none) else (bif Nat.beq pc 21 then some (.iload_n 3, 22, 3, 0, 0) else none)) else (bif Nat.blt pc 25 then (bif Nat.beq pc 22 then some (.invokevirtual 217, 25, 166, 1, 0) else none) else (bif Nat.blt pc 26 then (bif Nat.beq pc 25 then some (.iload_n 3, 26, 3, 0, 0) else none) else (bif Nat.beq pc 26 then some (.ireturn, 27, 0, 0, 0) else none)))))
/-- X12_no -/
noncomputable def gn_c169 (pc : Nat) : Option gn_En := bif Nat.blt pc 27 then (bif Nat.blt pc 13 then (bif Nat.blt pc 5 then (bif Nat.blt pc 1 then (bif Nat.beq pc 0 then some (.aload_n 0, 1, 0, 0, 0) else none) else (bif Nat.blt pc 2 then (bif Nat.beq pc 1 then some (.iload_n 1, 2, 1, 0, 0) else none) else (bif Nat.beq pc 2 then some (.invokevirtual 203, 5, 133, 1, 0) else none))) else (bif Nat.blt pc 9 then (bif Nat.blt pc 8 then (bif Nat.beq pc 5 then some (.ifCond .eq 11, 8, 16, 0, 0) else none) else (bif Nat.beq pc 8 then some (.aload_n 0, 9, 0, 0, 0) else none)) else (bif Nat.blt pc 10 then (bif Nat.beq pc 9 then some (.iload_n 2, 10, 2, 0, 0) else none) else (bif Nat.beq pc 10 then some (.invokevirtual 198, 13, 132, 1, 0) else none)))) else (bif Nat.blt pc 20 then (bif Nat.blt pc 18 then (bif Nat.blt pc 16 then (bif Nat.beq pc 13 then some (.ifCond .ne 6, 16, 19, 0, 0) else none) else (bif Nat.beq pc 16 then some (.ldc 202, 18, 0, 0, (-1000000001)) else none)) else (bif Nat.blt pc 19 then (bif Nat.beq pc 18 then some (.ireturn, 19, 0, 0, 0) else none) else (bif Nat.beq pc 19 then some (.aload_n 0, 20, 0, 0, 0) else none))) else (bif Nat.blt pc 25 then (bif Nat.blt pc 23 then (bif Nat.beq pc 20 then some (.getfield 7, 23, 12, 0, 0) else none) else (bif Nat.beq pc 23 then some (.bipush 20, 25, 0, 0, 20) else none)) else (bif Nat.blt pc 26 then (bif Nat.beq pc 25 then some (.iload_n 1, 26, 1, 0, 0) else none) else (bif Nat.beq pc 26 then some (.iadd, 27, 0, 0, 0) else none))))) else (bif Nat.blt pc 41 then (bif Nat.blt pc 32 then (bif Nat.blt pc 28 then (bif Nat.beq pc 27 then some (.iaload, 28, 0, 0, 0) else none) else (bif Nat.blt pc 31 then (bif Nat.beq pc 28 then some (.ifCond .eq 11, 31, 39, 0, 0) else none) else (bif Nat.beq pc 31 then some (.aload_n 0, 32, 0, 0, 0) else none))) else (bif Nat.blt pc 36 then (bif Nat.blt pc 33 then (bif Nat.beq pc 32 then some (.iload_n 2, 33, 2, 0, 0) else none) else (bif Nat.beq pc 33 then some (.invokevirtual 220, 36, 165, 1, 0) else none)) else (bif Nat.blt pc 39 then (bif Nat.beq pc 36 then some (.ifCond .ne 6, 39, 42, 0, 0) else none) else (bif Nat.beq pc 39 then some (.ldc 209, 41, 0, 0, (-1000000003)) else none)))) else (bif Nat.blt pc 47 then (bif Nat.blt pc 43 then (bif Nat.blt pc 42 then (bif Nat.beq pc 41 then some (.ireturn, 42, 0, 0, 0) else none) else (bif Nat.beq pc 42 then some (.aload_n 0, 43, 0, 0, 0) else none)) else (bif Nat.blt pc 46 then (bif Nat.beq pc 43 then some (.invokevirtual 210, 46, 163, 0, 0) else none) else (bif Nat.beq pc 46 then some (.aload_n 0, 47, 0, 0, 0) else none))) else (bif Nat.blt pc 49 then (bif Nat.blt pc 48 then (bif Nat.beq pc 47 then some (.iload_n 1, 48, 1, 0, 0) else none) else (bif Nat.beq pc 48 then some (.iload_n 2, 49, 2, 0, 0) else none)) else (bif Nat.blt pc 52 then (bif Nat.beq pc 49 then some (.invokevirtual 223, 52, 168, 2, 0) else none) else (bif Nat.beq pc 52 then some (.ireturn, 53, 0, 0, 0) else none)))))
/-- X12_share -/
noncomputable def gn_c170 (pc : Nat) : Option gn_En := bif Nat.blt pc 41 then (bif Nat.blt pc 21 then (bif Nat.blt pc 9 then (bif Nat.blt pc 2 then (bif Nat.blt pc 1 then (bif Nat.beq pc 0 then some (.aload_n 0, 1, 0, 0, 0) else none) else (bif Nat.beq pc 1 then some (.iload_n 1, 2, 1, 0, 0) else none)) else (bif Nat.blt pc 5 then (bif Nat.beq pc 2 then some (.invokevirtual 198, 5, 132, 1, 0) else none) else (bif Nat.blt pc 8 then (bif Nat.beq pc 5 then some (.ifCond .eq 16, 8, 21, 0, 0) else none) else (bif Nat.beq pc 8 then some (.aload_n 0, 9, 0, 0, 0) else none)))) else (bif Nat.blt pc 16 then (bif Nat.blt pc 10 then (bif Nat.beq pc 9 then some (.iload_n 2, 10, 2, 0, 0) else none) else (bif Nat.blt pc 13 then (bif Nat.beq pc 10 then some (.invokevirtual 198, 13, 132, 1, 0) else none) else (bif Nat.beq pc 13 then some (.ifCond .eq 8, 16, 21, 0, 0) else none))) else (bif Nat.blt pc 17 then (bif Nat.beq pc 16 then some (.iload_n 1, 17, 1, 0, 0) else none) else (bif Nat.blt pc 18 then (bif Nat.beq pc 17 then some (.iload_n 2, 18, 2, 0, 0) else none) else (bif Nat.beq pc 18 then some (.if_icmp .ne 6, 21, 24, 0, 0) else none))))) else (bif Nat.blt pc 32 then (bif Nat.blt pc 25 then (bif Nat.blt pc 23 then (bif Nat.beq pc 21 then some (.ldc 202, 23, 0, 0, (-1000000001)) else none) else (bif Nat.blt pc 24 then (bif Nat.beq pc 23 then some (.ireturn, 24, 0, 0, 0) else none) else (bif Nat.beq pc 24 then some (.aload_n 0, 25, 0, 0, 0) else none))) else (bif Nat.blt pc 26 then (bif Nat.beq pc 25 then some (.iload_n 1, 26, 1, 0, 0) else none) else (bif Nat.blt pc 29 then (bif Nat.beq pc 26 then some (.invokevirtual 220, 29, 165, 1, 0) else none) else (bif Nat.beq pc 29 then some (.ifCond .eq 16, 32, 45, 0, 0) else none)))) else (bif Nat.blt pc 38 then (bif Nat.blt pc 33 then (bif Nat.beq pc 32 then some (.aload_n 0, 33, 0, 0, 0) else none) else (bif Nat.blt pc 36 then (bif Nat.beq pc 33 then some (.getfield 7, 36, 12, 0, 0) else none) else (bif Nat.beq pc 36 then some (.bipush 6, 38, 0, 0, 6) else none))) else (bif Nat.blt pc 39 then (bif Nat.beq pc 38 then some (.iload_n 2, 39, 2, 0, 0) else none) else (bif Nat.blt pc 40 then (bif Nat.beq pc 39 then some (.iadd, 40, 0, 0, 0) else none) else (bif Nat.beq pc 40 then some (.iaload, 41, 0, 0, 0) else none)))))) else (bif Nat.blt pc 60 then (bif Nat.blt pc 49 then (bif Nat.blt pc 45 then (bif Nat.blt pc 42 then (bif Nat.beq pc 41 then some (.iconst (-1), 42, 0, 0, (-1)) else none) else (bif Nat.beq pc 42 then some (.if_icmp .ne 6, 45, 48, 0, 0) else none)) else (bif Nat.blt pc 47 then (bif Nat.beq pc 45 then some (.ldc 209, 47, 0, 0, (-1000000003)) else none) else (bif Nat.blt pc 48 then (bif Nat.beq pc 47 then some (.ireturn, 48, 0, 0, 0) else none) else (bif Nat.beq pc 48 then some (.aload_n 0, 49, 0, 0, 0) else none)))) else (bif Nat.blt pc 54 then (bif Nat.blt pc 52 then (bif Nat.beq pc 49 then some (.invokevirtual 210, 52, 163, 0, 0) else none) else (bif Nat.blt pc 53 then (bif Nat.beq pc 52 then some (.aload_n 0, 53, 0, 0, 0) else none) else (bif Nat.beq pc 53 then some (.aload_n 0, 54, 0, 0, 0) else none))) else (bif Nat.blt pc 57 then (bif Nat.beq pc 54 then some (.getfield 7, 57, 12, 0, 0) else none) else (bif Nat.blt pc 59 then (bif Nat.beq pc 57 then some (.bipush 6, 59, 0, 0, 6) else none) else (bif Nat.beq pc 59 then some (.iload_n 2, 60, 2, 0, 0) else none))))) else (bif Nat.blt pc 68 then (bif Nat.blt pc 63 then (bif Nat.blt pc 61 then (bif Nat.beq pc 60 then some (.iadd, 61, 0, 0, 0) else none) else (bif Nat.blt pc 62 then (bif Nat.beq pc 61 then some (.iaload, 62, 0, 0, 0) else none) else (bif Nat.beq pc 62 then some (.iload_n 1, 63, 1, 0, 0) else none))) else (bif Nat.blt pc 66 then (bif Nat.beq pc 63 then some (.invokevirtual 214, 66, 167, 2, 0) else none) else (bif Nat.blt pc 67 then (bif Nat.beq pc 66 then some (.iconst 2, 67, 0, 0, 2) else none) else (bif Nat.beq pc 67 then some (.idiv, 68, 0, 0, 0) else none)))) else (bif Nat.blt pc 71 then (bif Nat.blt pc 69 then (bif Nat.beq pc 68 then some (.istore_n 3, 69, 3, 0, 0) else none) else (bif Nat.blt pc 70 then (bif Nat.beq pc 69 then some (.aload_n 0, 70, 0, 0, 0) else none) else (bif Nat.beq pc 70 then some (.iload_n 3, 71, 3, 0, 0) else none))) else (bif Nat.blt pc 74 then (bif Nat.beq pc 71 then some (.invokevirtual 217, 74, 166, 1, 0) else none) else (bif Nat.blt pc 75 then (bif Nat.beq pc 74 then some (.iload_n 3, 75, 3, 0, 0) else none) else (bif Nat.beq pc 75 then some (.ireturn, 76, 0, 0, 0) else none))))))
/-- X12_goToBed -/
noncomputable def gn_c171 (pc : Nat) : Option gn_En := bif Nat.blt pc 36 then (bif Nat.blt pc 15 then (bif Nat.blt pc 9 then (bif Nat.blt pc 6 then (bif Nat.blt pc 1 then (bif Nat.beq pc 0 then some (.aload_n 0, 1, 0, 0, 0) else none) else (bif Nat.blt pc 4 then (bif Nat.beq pc 1 then some (.getfield 7, 4, 12, 0, 0) else none) else (bif Nat.beq pc 4 then some (.bipush 18, 6, 0, 0, 18) else none))) else (bif Nat.blt pc 7 then (bif Nat.beq pc 6 then some (.dup2, 7, 0, 0, 0) else none) else (bif Nat.blt pc 8 then (bif Nat.beq pc 7 then some (.iaload, 8, 0, 0, 0) else none) else (bif Nat.beq pc 8 then some (.iconst 1, 9, 0, 0, 1) else none)))) else (bif Nat.blt pc 12 then (bif Nat.blt pc 10 then (bif Nat.beq pc 9 then some (.iload_n 1, 10, 1, 0, 0) else none) else (bif Nat.blt pc 11 then (bif Nat.beq pc 10 then some (.ishl, 11, 0, 0, 0) else none) else (bif Nat.beq pc 11 then some (.iconst (-1), 12, 0, 0, (-1)) else none))) else (bif Nat.blt pc 13 then (bif Nat.beq pc 12 then some (.ixor, 13, 0, 0, 0) else none) else (bif Nat.blt pc 14 then (bif Nat.beq pc 13 then some (.iand, 14, 0, 0, 0) else none) else (bif Nat.beq pc 14 then some (.iastore, 15, 0, 0, 0) else none))))) else (bif Nat.blt pc 24 then (bif Nat.blt pc 21 then (bif Nat.blt pc 16 then (bif Nat.beq pc 15 then some (.aload_n 0, 16, 0, 0, 0) else none) else (bif Nat.blt pc 19 then (bif Nat.beq pc 16 then some (.getfield 7, 19, 12, 0, 0) else none) else (bif Nat.beq pc 19 then some (.bipush 6, 21, 0, 0, 6) else none))) else (bif Nat.blt pc 22 then (bif Nat.beq pc 21 then some (.iload_n 1, 22, 1, 0, 0) else none) else (bif Nat.blt pc 23 then (bif Nat.beq pc 22 then some (.iadd, 23, 0, 0, 0) else none) else (bif Nat.beq pc 23 then some (.iaload, 24, 0, 0, 0) else none)))) else (bif Nat.blt pc 29 then (bif Nat.blt pc 25 then (bif Nat.beq pc 24 then some (.iconst (-1), 25, 0, 0, (-1)) else none) else (bif Nat.blt pc 28 then (bif Nat.beq pc 25 then some (.if_icmp .eq 5, 28, 30, 0, 0) else none) else (bif Nat.beq pc 28 then some (.iconst 0, 29, 0, 0, 0) else none))) else (bif Nat.blt pc 31 then (bif Nat.blt pc 30 then (bif Nat.beq pc 29 then some (.ireturn, 30, 0, 0, 0) else none) else (bif Nat.beq pc 30 then some (.aload_n 0, 31, 0, 0, 0) else none)) else (bif Nat.blt pc 34 then (bif Nat.beq pc 31 then some (.getfield 7, 34, 12, 0, 0) else none) else (bif Nat.beq pc 34 then some (.bipush 25, 36, 0, 0, 25) else none)))))) else (bif Nat.blt pc 56 then (bif Nat.blt pc 45 then (bif Nat.blt pc 39 then (bif Nat.blt pc 37 then (bif Nat.beq pc 36 then some (.dup2, 37, 0, 0, 0) else none) else (bif Nat.blt pc 38 then (bif Nat.beq pc 37 then some (.iaload, 38, 0, 0, 0) else none) else (bif Nat.beq pc 38 then some (.aload_n 0, 39, 0, 0, 0) else none))) else (bif Nat.blt pc 42 then (bif Nat.beq pc 39 then some (.getfield 7, 42, 12, 0, 0) else none) else (bif Nat.blt pc 44 then (bif Nat.beq pc 42 then some (.bipush 25, 44, 0, 0, 25) else none) else (bif Nat.beq pc 44 then some (.iaload, 45, 0, 0, 0) else none)))) else (bif Nat.blt pc 51 then (bif Nat.blt pc 47 then (bif Nat.beq pc 45 then some (.ldc 213, 47, 0, 0, 999999) else none) else (bif Nat.blt pc 50 then (bif Nat.beq pc 47 then some (.if_icmp .ge 7, 50, 54, 0, 0) else none) else (bif Nat.beq pc 50 then some (.iconst 1, 51, 0, 0, 1) else none))) else (bif Nat.blt pc 54 then (bif Nat.beq pc 51 then some (.goto 4, 54, 55, 0, 0) else none) else (bif Nat.blt pc 55 then (bif Nat.beq pc 54 then some (.iconst 0, 55, 0, 0, 0) else none) else (bif Nat.beq pc 55 then some (.iadd, 56, 0, 0, 0) else none))))) else (bif Nat.blt pc 65 then (bif Nat.blt pc 61 then (bif Nat.blt pc 57 then (bif Nat.beq pc 56 then some (.iastore, 57, 0, 0, 0) else none) else (bif Nat.blt pc 58 then (bif Nat.beq pc 57 then some (.aload_n 0, 58, 0, 0, 0) else none) else (bif Nat.beq pc 58 then some (.getfield 7, 61, 12, 0, 0) else none))) else (bif Nat.blt pc 63 then (bif Nat.beq pc 61 then some (.bipush 19, 63, 0, 0, 19) else none) else (bif Nat.blt pc 64 then (bif Nat.beq pc 63 then some (.dup2, 64, 0, 0, 0) else none) else (bif Nat.beq pc 64 then some (.iaload, 65, 0, 0, 0) else none)))) else (bif Nat.blt pc 68 then (bif Nat.blt pc 66 then (bif Nat.beq pc 65 then some (.iconst 1, 66, 0, 0, 1) else none) else (bif Nat.blt pc 67 then (bif Nat.beq pc 66 then some (.iload_n 1, 67, 1, 0, 0) else none) else (bif Nat.beq pc 67 then some (.ishl, 68, 0, 0, 0) else none))) else (bif Nat.blt pc 70 then (bif Nat.blt pc 69 then (bif Nat.beq pc 68 then some (.ior, 69, 0, 0, 0) else none) else (bif Nat.beq pc 69 then some (.iastore, 70, 0, 0, 0) else none)) else (bif Nat.blt pc 71 then (bif Nat.beq pc 70 then some (.iconst 1, 71, 0, 0, 1) else none) else (bif Nat.beq pc 71 then some (.ireturn, 72, 0, 0, 0) else none))))))
/-- X12_bed -/
noncomputable def gn_c172 (pc : Nat) : Option gn_En := bif Nat.blt pc 18 then (bif Nat.blt pc 10 then (bif Nat.blt pc 2 then (bif Nat.blt pc 1 then (bif Nat.beq pc 0 then some (.aload_n 0, 1, 0, 0, 0) else none) else (bif Nat.beq pc 1 then some (.iload_n 1, 2, 1, 0, 0) else none)) else (bif Nat.blt pc 5 then (bif Nat.beq pc 2 then some (.invokevirtual 198, 5, 132, 1, 0) else none) else (bif Nat.blt pc 8 then (bif Nat.beq pc 5 then some (.ifCond .ne 6, 8, 11, 0, 0) else none) else (bif Nat.beq pc 8 then some (.ldc 202, 10, 0, 0, (-1000000001)) else none)))) else (bif Nat.blt pc 12 then (bif Nat.blt pc 11 then (bif Nat.beq pc 10 then some (.ireturn, 11, 0, 0, 0) else none) else (bif Nat.beq pc 11 then some (.aload_n 0, 12, 0, 0, 0) else none)) else (bif Nat.blt pc 15 then (bif Nat.beq pc 12 then some (.getfield 7, 15, 12, 0, 0) else none) else (bif Nat.blt pc 17 then (bif Nat.beq pc 15 then some (.bipush 18, 17, 0, 0, 18) else none) else (bif Nat.beq pc 17 then some (.iaload, 18, 0, 0, 0) else none))))) else (bif Nat.blt pc 28 then (bif Nat.blt pc 22 then (bif Nat.blt pc 19 then (bif Nat.beq pc 18 then some (.iload_n 1, 19, 1, 0, 0) else none) else (bif Nat.beq pc 19 then some (.invokestatic 166, 22, 131, 2, 0) else none)) else (bif Nat.blt pc 25 then (bif Nat.beq pc 22 then some (.ifCond .ne 6, 25, 28, 0, 0) else none) else (bif Nat.blt pc 27 then (bif Nat.beq pc 25 then some (.ldc 209, 27, 0, 0, (-1000000003)) else none) else (bif Nat.beq pc 27 then some (.ireturn, 28, 0, 0, 0) else none)))) else (bif Nat.blt pc 33 then (bif Nat.blt pc 29 then (bif Nat.beq pc 28 then some (.aload_n 0, 29, 0, 0, 0) else none) else (bif Nat.blt pc 32 then (bif Nat.beq pc 29 then some (.invokevirtual 210, 32, 163, 0, 0) else none) else (bif Nat.beq pc 32 then some (.aload_n 0, 33, 0, 0, 0) else none))) else (bif Nat.blt pc 34 then (bif Nat.beq pc 33 then some (.iload_n 1, 34, 1, 0, 0) else none) else (bif Nat.blt pc 37 then (bif Nat.beq pc 34 then some (.invokevirtual 226, 37, 171, 1, 0) else none) else (bif Nat.beq pc 37 then some (.ireturn, 38, 0, 0, 0) else none)))))
/-- X12_goOn -/
noncomputable def gn_c173 (pc : Nat) : Option gn_En := bif Nat.blt pc 50 then (bif Nat.blt pc 24 then (bif Nat.blt pc 10 then (bif Nat.blt pc 6 then (bif Nat.blt pc 1 then (bif Nat.beq pc 0 then some (.aload_n 0, 1, 0, 0, 0) else none) else (bif Nat.blt pc 4 then (bif Nat.beq pc 1 then some (.getfield 7, 4, 12, 0, 0) else none) else (bif Nat.beq pc 4 then some (.bipush 19, 6, 0, 0, 19) else none))) else (bif Nat.blt pc 8 then (bif Nat.blt pc 7 then (bif Nat.beq pc 6 then some (.iaload, 7, 0, 0, 0) else none) else (bif Nat.beq pc 7 then some (.istore_n 1, 8, 1, 0, 0) else none)) else (bif Nat.blt pc 9 then (bif Nat.beq pc 8 then some (.iconst 0, 9, 0, 0, 0) else none) else (bif Nat.beq pc 9 then some (.istore_n 2, 10, 2, 0, 0) else none)))) else (bif Nat.blt pc 18 then (bif Nat.blt pc 12 then (bif Nat.blt pc 11 then (bif Nat.beq pc 10 then some (.iload_n 2, 11, 2, 0, 0) else none) else (bif Nat.beq pc 11 then some (.aload_n 0, 12, 0, 0, 0) else none)) else (bif Nat.blt pc 15 then (bif Nat.beq pc 12 then some (.getfield 69, 15, 12, 8, 0) else none) else (bif Nat.beq pc 15 then some (.if_icmp .ge 52, 18, 67, 0, 0) else none))) else (bif Nat.blt pc 22 then (bif Nat.blt pc 19 then (bif Nat.beq pc 18 then some (.aload_n 0, 19, 0, 0, 0) else none) else (bif Nat.beq pc 19 then some (.getfield 7, 22, 12, 0, 0) else none)) else (bif Nat.blt pc 23 then (bif Nat.beq pc 22 then some (.iload_n 2, 23, 2, 0, 0) else none) else (bif Nat.beq pc 23 then some (.dup2, 24, 0, 0, 0) else none))))) else (bif Nat.blt pc 36 then (bif Nat.blt pc 29 then (bif Nat.blt pc 25 then (bif Nat.beq pc 24 then some (.iaload, 25, 0, 0, 0) else none) else (bif Nat.blt pc 26 then (bif Nat.beq pc 25 then some (.aload_n 0, 26, 0, 0, 0) else none) else (bif Nat.beq pc 26 then some (.getfield 7, 29, 12, 0, 0) else none))) else (bif Nat.blt pc 32 then (bif Nat.blt pc 31 then (bif Nat.beq pc 29 then some (.bipush 18, 31, 0, 0, 18) else none) else (bif Nat.beq pc 31 then some (.iaload, 32, 0, 0, 0) else none)) else (bif Nat.blt pc 33 then (bif Nat.beq pc 32 then some (.iload_n 2, 33, 2, 0, 0) else none) else (bif Nat.beq pc 33 then some (.invokestatic 166, 36, 131, 2, 0) else none)))) else (bif Nat.blt pc 44 then (bif Nat.blt pc 40 then (bif Nat.blt pc 39 then (bif Nat.beq pc 36 then some (.ifCond .eq 22, 39, 58, 0, 0) else none) else (bif Nat.beq pc 39 then some (.aload_n 0, 40, 0, 0, 0) else none)) else (bif Nat.blt pc 43 then (bif Nat.beq pc 40 then some (.getfield 7, 43, 12, 0, 0) else none) else (bif Nat.beq pc 43 then some (.iload_n 2, 44, 2, 0, 0) else none))) else (bif Nat.blt pc 46 then (bif Nat.blt pc 45 then (bif Nat.beq pc 44 then some (.iaload, 45, 0, 0, 0) else none) else (bif Nat.beq pc 45 then some (.aload_n 0, 46, 0, 0, 0) else none)) else (bif Nat.blt pc 49 then (bif Nat.beq pc 46 then some (.getfield 19, 49, 12, 3, 0) else none) else (bif Nat.beq pc 49 then some (.iload_n 2, 50, 2, 0, 0) else none)))))) else (bif Nat.blt pc 76 then (bif Nat.blt pc 61 then (bif Nat.blt pc 55 then (bif Nat.blt pc 51 then (bif Nat.beq pc 50 then some (.iaload, 51, 0, 0, 0) else none) else (bif Nat.blt pc 54 then (bif Nat.beq pc 51 then some (.if_icmp .ge 7, 54, 58, 0, 0) else none) else (bif Nat.beq pc 54 then some (.iconst 1, 55, 0, 0, 1) else none))) else (bif Nat.blt pc 59 then (bif Nat.blt pc 58 then (bif Nat.beq pc 55 then some (.goto 4, 58, 59, 0, 0) else none) else (bif Nat.beq pc 58 then some (.iconst 0, 59, 0, 0, 0) else none)) else (bif Nat.blt pc 60 then (bif Nat.beq pc 59 then some (.iadd, 60, 0, 0, 0) else none) else (bif Nat.beq pc 60 then some (.iastore, 61, 0, 0, 0) else none)))) else (bif Nat.blt pc 71 then (bif Nat.blt pc 67 then (bif Nat.blt pc 64 then (bif Nat.beq pc 61 then some (.iinc 2 1, 64, 2, 0, 1) else none) else (bif Nat.beq pc 64 then some (.goto (-54), 67, 10, 0, 0) else none)) else (bif Nat.blt pc 68 then (bif Nat.beq pc 67 then some (.aload_n 0, 68, 0, 0, 0) else none) else (bif Nat.beq pc 68 then some (.getfield 7, 71, 12, 0, 0) else none))) else (bif Nat.blt pc 74 then (bif Nat.blt pc 73 then (bif Nat.beq pc 71 then some (.bipush 18, 73, 0, 0, 18) else none) else (bif Nat.beq pc 73 then some (.dup2, 74, 0, 0, 0) else none)) else (bif Nat.blt pc 75 then (bif Nat.beq pc 74 then some (.iaload, 75, 0, 0, 0) else none) else (bif Nat.beq pc 75 then some (.iload_n 1, 76, 1, 0, 0) else none))))) else (bif Nat.blt pc 87 then (bif Nat.blt pc 82 then (bif Nat.blt pc 78 then (bif Nat.blt pc 77 then (bif Nat.beq pc 76 then some (.ior, 77, 0, 0, 0) else none) else (bif Nat.beq pc 77 then some (.iastore, 78, 0, 0, 0) else none)) else (bif Nat.blt pc 79 then (bif Nat.beq pc 78 then some (.aload_n 0, 79, 0, 0, 0) else none) else (bif Nat.beq pc 79 then some (.getfield 7, 82, 12, 0, 0) else none))) else (bif Nat.blt pc 85 then (bif Nat.blt pc 84 then (bif Nat.beq pc 82 then some (.bipush 19, 84, 0, 0, 19) else none) else (bif Nat.beq pc 84 then some (.iconst 0, 85, 0, 0, 0) else none)) else (bif Nat.blt pc 86 then (bif Nat.beq pc 85 then some (.iastore, 86, 0, 0, 0) else none) else (bif Nat.beq pc 86 then some (.aload_n 0, 87, 0, 0, 0) else none)))) else (bif Nat.blt pc 94 then (bif Nat.blt pc 92 then (bif Nat.blt pc 90 then (bif Nat.beq pc 87 then some (.getfield 7, 90, 12, 0, 0) else none) else (bif Nat.beq pc 90 then some (.bipush 26, 92, 0, 0, 26) else none)) else (bif Nat.blt pc 93 then (bif Nat.beq pc 92 then some (.dup2, 93, 0, 0, 0) else none) else (bif Nat.beq pc 93 then some (.iaload, 94, 0, 0, 0) else none))) else (bif Nat.blt pc 96 then (bif Nat.blt pc 95 then (bif Nat.beq pc 94 then some (.iconst 1, 95, 0, 0, 1) else none) else (bif Nat.beq pc 95 then some (.iadd, 96, 0, 0, 0) else none)) else (bif Nat.blt pc 97 then (bif Nat.beq pc 96 then some (.iastore, 97, 0, 0, 0) else none) else (bif Nat.beq pc 97 then some (.return_, 98, 0, 0, 0) else none))))))
/-- X12_whyNot -/
noncomputable def gn_c174 (pc : Nat) : Option gn_En := bif Nat.blt pc 24 then (bif Nat.blt pc 10 then (bif Nat.blt pc 2 then (bif Nat.blt pc 1 then (bif Nat.beq pc 0 then some (.iload_n 1, 1, 1, 0, 0) else none) else (bif Nat.beq pc 1 then some (.iconst 1, 2, 0, 0, 1) else none)) else (bif Nat.blt pc 4 then (bif Nat.beq pc 2 then some (.bipush 20, 4, 0, 0, 20) else none) else (bif Nat.blt pc 7 then (bif Nat.beq pc 4 then some (.invokestatic 72, 7, 130, 3, 0) else none) else (bif Nat.beq pc 7 then some (.ifCond .ne 8, 10, 15, 0, 0) else none)))) else (bif Nat.blt pc 16 then (bif Nat.blt pc 12 then (bif Nat.beq pc 10 then some (.ldc 79, 12, 0, 0, (-1000000002)) else none) else (bif Nat.blt pc 15 then (bif Nat.beq pc 12 then some (.goto 33, 15, 45, 0, 0) else none) else (bif Nat.beq pc 15 then some (.aload_n 0, 16, 0, 0, 0) else none))) else (bif Nat.blt pc 19 then (bif Nat.beq pc 16 then some (.getfield 138, 19, 12, 6, 0) else none) else (bif Nat.blt pc 22 then (bif Nat.beq pc 19 then some (.ifCond .ne 8, 22, 27, 0, 0) else none) else (bif Nat.beq pc 22 then some (.ldc 209, 24, 0, 0, (-1000000003)) else none))))) else (bif Nat.blt pc 34 then (bif Nat.blt pc 28 then (bif Nat.blt pc 27 then (bif Nat.beq pc 24 then some (.goto 21, 27, 45, 0, 0) else none) else (bif Nat.beq pc 27 then some (.aload_n 0, 28, 0, 0, 0) else none)) else (bif Nat.blt pc 31 then (bif Nat.beq pc 28 then some (.getfield 7, 31, 12, 0, 0) else none) else (bif Nat.blt pc 33 then (bif Nat.beq pc 31 then some (.bipush 26, 33, 0, 0, 26) else none) else (bif Nat.beq pc 33 then some (.iaload, 34, 0, 0, 0) else none)))) else (bif Nat.blt pc 41 then (bif Nat.blt pc 36 then (bif Nat.beq pc 34 then some (.ldc 229, 36, 0, 0, 90000) else none) else (bif Nat.blt pc 39 then (bif Nat.beq pc 36 then some (.if_icmp .le 8, 39, 44, 0, 0) else none) else (bif Nat.beq pc 39 then some (.ldc 83, 41, 0, 0, (-1000000004)) else none))) else (bif Nat.blt pc 44 then (bif Nat.beq pc 41 then some (.goto 4, 44, 45, 0, 0) else none) else (bif Nat.blt pc 45 then (bif Nat.beq pc 44 then some (.iconst 1, 45, 0, 0, 1) else none) else (bif Nat.beq pc 45 then some (.ireturn, 46, 0, 0, 0) else none)))))
/-- X12_hour -/
noncomputable def gn_c175 (pc : Nat) : Option gn_En := bif Nat.blt pc 18 then (bif Nat.blt pc 10 then (bif Nat.blt pc 5 then (bif Nat.blt pc 1 then (bif Nat.beq pc 0 then some (.aload_n 0, 1, 0, 0, 0) else none) else (bif Nat.blt pc 2 then (bif Nat.beq pc 1 then some (.iload_n 1, 2, 1, 0, 0) else none) else (bif Nat.beq pc 2 then some (.invokevirtual 230, 5, 174, 1, 0) else none))) else (bif Nat.blt pc 8 then (bif Nat.beq pc 5 then some (.ifCond .ge 9, 8, 14, 0, 0) else none) else (bif Nat.blt pc 9 then (bif Nat.beq pc 8 then some (.aload_n 0, 9, 0, 0, 0) else none) else (bif Nat.beq pc 9 then some (.iload_n 1, 10, 1, 0, 0) else none)))) else (bif Nat.blt pc 15 then (bif Nat.blt pc 13 then (bif Nat.beq pc 10 then some (.invokevirtual 230, 13, 174, 1, 0) else none) else (bif Nat.blt pc 14 then (bif Nat.beq pc 13 then some (.ireturn, 14, 0, 0, 0) else none) else (bif Nat.beq pc 14 then some (.iconst 0, 15, 0, 0, 0) else none))) else (bif Nat.blt pc 16 then (bif Nat.beq pc 15 then some (.istore_n 2, 16, 2, 0, 0) else none) else (bif Nat.blt pc 17 then (bif Nat.beq pc 16 then some (.iload_n 2, 17, 2, 0, 0) else none) else (bif Nat.beq pc 17 then some (.iload_n 1, 18, 1, 0, 0) else none))))) else (bif Nat.blt pc 32 then (bif Nat.blt pc 25 then (bif Nat.blt pc 21 then (bif Nat.beq pc 18 then some (.if_icmp .ge 17, 21, 35, 0, 0) else none) else (bif Nat.blt pc 22 then (bif Nat.beq pc 21 then some (.aload_n 0, 22, 0, 0, 0) else none) else (bif Nat.beq pc 22 then some (.invokevirtual 210, 25, 163, 0, 0) else none))) else (bif Nat.blt pc 26 then (bif Nat.beq pc 25 then some (.aload_n 0, 26, 0, 0, 0) else none) else (bif Nat.blt pc 29 then (bif Nat.beq pc 26 then some (.invokevirtual 233, 29, 173, 0, 0) else none) else (bif Nat.beq pc 29 then some (.iinc 2 1, 32, 2, 0, 1) else none)))) else (bif Nat.blt pc 39 then (bif Nat.blt pc 35 then (bif Nat.beq pc 32 then some (.goto (-16), 35, 16, 0, 0) else none) else (bif Nat.blt pc 36 then (bif Nat.beq pc 35 then some (.aload_n 0, 36, 0, 0, 0) else none) else (bif Nat.beq pc 36 then some (.getfield 7, 39, 12, 0, 0) else none))) else (bif Nat.blt pc 41 then (bif Nat.beq pc 39 then some (.bipush 26, 41, 0, 0, 26) else none) else (bif Nat.blt pc 42 then (bif Nat.beq pc 41 then some (.iaload, 42, 0, 0, 0) else none) else (bif Nat.beq pc 42 then some (.ireturn, 43, 0, 0, 0) else none)))))
/-- X12_anew -/
noncomputable def gn_c176 (pc : Nat) : Option gn_En := bif Nat.blt pc 29 then (bif Nat.blt pc 14 then (bif Nat.blt pc 7 then (bif Nat.blt pc 1 then (bif Nat.beq pc 0 then some (.aload_n 0, 1, 0, 0, 0) else none) else (bif Nat.blt pc 4 then (bif Nat.beq pc 1 then some (.getfield 138, 4, 12, 6, 0) else none) else (bif Nat.beq pc 4 then some (.ifCond .ne 6, 7, 10, 0, 0) else none))) else (bif Nat.blt pc 10 then (bif Nat.blt pc 9 then (bif Nat.beq pc 7 then some (.ldc 209, 9, 0, 0, (-1000000003)) else none) else (bif Nat.beq pc 9 then some (.ireturn, 10, 0, 0, 0) else none)) else (bif Nat.blt pc 11 then (bif Nat.beq pc 10 then some (.aload_n 0, 11, 0, 0, 0) else none) else (bif Nat.beq pc 11 then some (.getfield 7, 14, 12, 0, 0) else none)))) else (bif Nat.blt pc 22 then (bif Nat.blt pc 17 then (bif Nat.blt pc 16 then (bif Nat.beq pc 14 then some (.bipush 27, 16, 0, 0, 27) else none) else (bif Nat.beq pc 16 then some (.iaload, 17, 0, 0, 0) else none)) else (bif Nat.blt pc 19 then (bif Nat.beq pc 17 then some (.ldc 229, 19, 0, 0, 90000) else none) else (bif Nat.beq pc 19 then some (.if_icmp .ne 6, 22, 25, 0, 0) else none))) else (bif Nat.blt pc 25 then (bif Nat.blt pc 24 then (bif Nat.beq pc 22 then some (.ldc 83, 24, 0, 0, (-1000000004)) else none) else (bif Nat.beq pc 24 then some (.ireturn, 25, 0, 0, 0) else none)) else (bif Nat.blt pc 26 then (bif Nat.beq pc 25 then some (.aload_n 0, 26, 0, 0, 0) else none) else (bif Nat.beq pc 26 then some (.invokevirtual 210, 29, 163, 0, 0) else none))))) else (bif Nat.blt pc 41 then (bif Nat.blt pc 34 then (bif Nat.blt pc 30 then (bif Nat.beq pc 29 then some (.aload_n 0, 30, 0, 0, 0) else none) else (bif Nat.blt pc 33 then (bif Nat.beq pc 30 then some (.invokevirtual 144, 33, 146, 0, 0) else none) else (bif Nat.beq pc 33 then some (.aload_n 0, 34, 0, 0, 0) else none))) else (bif Nat.blt pc 39 then (bif Nat.blt pc 37 then (bif Nat.beq pc 34 then some (.getfield 7, 37, 12, 0, 0) else none) else (bif Nat.beq pc 37 then some (.bipush 27, 39, 0, 0, 27) else none)) else (bif Nat.blt pc 40 then (bif Nat.beq pc 39 then some (.dup2, 40, 0, 0, 0) else none) else (bif Nat.beq pc 40 then some (.iaload, 41, 0, 0, 0) else none)))) else (bif Nat.blt pc 45 then (bif Nat.blt pc 43 then (bif Nat.blt pc 42 then (bif Nat.beq pc 41 then some (.iconst 1, 42, 0, 0, 1) else none) else (bif Nat.beq pc 42 then some (.iadd, 43, 0, 0, 0) else none)) else (bif Nat.blt pc 44 then (bif Nat.beq pc 43 then some (.iastore, 44, 0, 0, 0) else none) else (bif Nat.beq pc 44 then some (.aload_n 0, 45, 0, 0, 0) else none))) else (bif Nat.blt pc 50 then (bif Nat.blt pc 48 then (bif Nat.beq pc 45 then some (.getfield 7, 48, 12, 0, 0) else none) else (bif Nat.beq pc 48 then some (.bipush 27, 50, 0, 0, 27) else none)) else (bif Nat.blt pc 51 then (bif Nat.beq pc 50 then some (.iaload, 51, 0, 0, 0) else none) else (bif Nat.beq pc 51 then some (.ireturn, 52, 0, 0, 0) else none)))))
/-- X12_draw -/
noncomputable def gn_c177 (pc : Nat) : Option gn_En := bif Nat.blt pc 22 then (bif Nat.blt pc 12 then (bif Nat.blt pc 6 then (bif Nat.blt pc 1 then (bif Nat.beq pc 0 then some (.aload_n 0, 1, 0, 0, 0) else none) else (bif Nat.blt pc 4 then (bif Nat.beq pc 1 then some (.getfield 7, 4, 12, 0, 0) else none) else (bif Nat.beq pc 4 then some (.bipush 28, 6, 0, 0, 28) else none))) else (bif Nat.blt pc 7 then (bif Nat.beq pc 6 then some (.aload_n 0, 7, 0, 0, 0) else none) else (bif Nat.blt pc 10 then (bif Nat.beq pc 7 then some (.getfield 7, 10, 12, 0, 0) else none) else (bif Nat.beq pc 10 then some (.bipush 28, 12, 0, 0, 28) else none)))) else (bif Nat.blt pc 17 then (bif Nat.blt pc 13 then (bif Nat.beq pc 12 then some (.iaload, 13, 0, 0, 0) else none) else (bif Nat.blt pc 14 then (bif Nat.beq pc 13 then some (.i2l, 14, 0, 0, 0) else none) else (bif Nat.beq pc 14 then some (.ldc2_w 236, 17, 0, 1103515245, 0) else none))) else (bif Nat.blt pc 18 then (bif Nat.beq pc 17 then some (.lmul, 18, 0, 0, 0) else none) else (bif Nat.blt pc 21 then (bif Nat.beq pc 18 then some (.ldc2_w 238, 21, 0, 12345, 0) else none) else (bif Nat.beq pc 21 then some (.ladd, 22, 0, 0, 0) else none))))) else (bif Nat.blt pc 32 then (bif Nat.blt pc 27 then (bif Nat.blt pc 25 then (bif Nat.beq pc 22 then some (.ldc2_w 240, 25, 0, 2147483648, 0) else none) else (bif Nat.blt pc 26 then (bif Nat.beq pc 25 then some (.lrem, 26, 0, 0, 0) else none) else (bif Nat.beq pc 26 then some (.l2i, 27, 0, 0, 0) else none))) else (bif Nat.blt pc 28 then (bif Nat.beq pc 27 then some (.iastore, 28, 0, 0, 0) else none) else (bif Nat.blt pc 29 then (bif Nat.beq pc 28 then some (.aload_n 0, 29, 0, 0, 0) else none) else (bif Nat.beq pc 29 then some (.getfield 7, 32, 12, 0, 0) else none)))) else (bif Nat.blt pc 37 then (bif Nat.blt pc 34 then (bif Nat.beq pc 32 then some (.bipush 28, 34, 0, 0, 28) else none) else (bif Nat.blt pc 35 then (bif Nat.beq pc 34 then some (.iaload, 35, 0, 0, 0) else none) else (bif Nat.beq pc 35 then some (.ldc 242, 37, 0, 0, 65536) else none))) else (bif Nat.blt pc 39 then (bif Nat.blt pc 38 then (bif Nat.beq pc 37 then some (.idiv, 38, 0, 0, 0) else none) else (bif Nat.beq pc 38 then some (.iload_n 1, 39, 1, 0, 0) else none)) else (bif Nat.blt pc 40 then (bif Nat.beq pc 39 then some (.irem, 40, 0, 0, 0) else none) else (bif Nat.beq pc 40 then some (.ireturn, 41, 0, 0, 0) else none)))))
/-- X12_doByDraws -/
noncomputable def gn_c178 (pc : Nat) : Option gn_En := bif Nat.blt pc 41 then (bif Nat.blt pc 20 then (bif Nat.blt pc 8 then (bif Nat.blt pc 5 then (bif Nat.blt pc 1 then (bif Nat.beq pc 0 then some (.aload_n 0, 1, 0, 0, 0) else none) else (bif Nat.blt pc 2 then (bif Nat.beq pc 1 then some (.iconst 4, 2, 0, 0, 4) else none) else (bif Nat.beq pc 2 then some (.invokevirtual 243, 5, 177, 1, 0) else none))) else (bif Nat.blt pc 6 then (bif Nat.beq pc 5 then some (.istore_n 1, 6, 1, 0, 0) else none) else (bif Nat.blt pc 7 then (bif Nat.beq pc 6 then some (.aload_n 0, 7, 0, 0, 0) else none) else (bif Nat.beq pc 7 then some (.aload_n 0, 8, 0, 0, 0) else none)))) else (bif Nat.blt pc 15 then (bif Nat.blt pc 11 then (bif Nat.beq pc 8 then some (.getfield 69, 11, 12, 8, 0) else none) else (bif Nat.blt pc 14 then (bif Nat.beq pc 11 then some (.invokevirtual 243, 14, 177, 1, 0) else none) else (bif Nat.beq pc 14 then some (.istore_n 2, 15, 2, 0, 0) else none))) else (bif Nat.blt pc 16 then (bif Nat.beq pc 15 then some (.aload_n 0, 16, 0, 0, 0) else none) else (bif Nat.blt pc 17 then (bif Nat.beq pc 16 then some (.aload_n 0, 17, 0, 0, 0) else none) else (bif Nat.beq pc 17 then some (.getfield 76, 20, 12, 9, 0) else none))))) else (bif Nat.blt pc 30 then (bif Nat.blt pc 25 then (bif Nat.blt pc 23 then (bif Nat.beq pc 20 then some (.invokevirtual 243, 23, 177, 1, 0) else none) else (bif Nat.blt pc 24 then (bif Nat.beq pc 23 then some (.istore_n 3, 24, 3, 0, 0) else none) else (bif Nat.beq pc 24 then some (.iload_n 1, 25, 1, 0, 0) else none))) else (bif Nat.blt pc 26 then (bif Nat.beq pc 25 then some (.iconst 2, 26, 0, 0, 2) else none) else (bif Nat.blt pc 29 then (bif Nat.beq pc 26 then some (.if_icmp .ge 34, 29, 60, 0, 0) else none) else (bif Nat.beq pc 29 then some (.aload_n 0, 30, 0, 0, 0) else none)))) else (bif Nat.blt pc 36 then (bif Nat.blt pc 33 then (bif Nat.beq pc 30 then some (.getfield 7, 33, 12, 0, 0) else none) else (bif Nat.blt pc 35 then (bif Nat.beq pc 33 then some (.bipush 20, 35, 0, 0, 20) else none) else (bif Nat.beq pc 35 then some (.iload_n 3, 36, 3, 0, 0) else none))) else (bif Nat.blt pc 37 then (bif Nat.beq pc 36 then some (.iadd, 37, 0, 0, 0) else none) else (bif Nat.blt pc 38 then (bif Nat.beq pc 37 then some (.iaload, 38, 0, 0, 0) else none) else (bif Nat.beq pc 38 then some (.ifCond .le 22, 41, 60, 0, 0) else none)))))) else (bif Nat.blt pc 62 then (bif Nat.blt pc 51 then (bif Nat.blt pc 46 then (bif Nat.blt pc 42 then (bif Nat.beq pc 41 then some (.aload_n 0, 42, 0, 0, 0) else none) else (bif Nat.blt pc 43 then (bif Nat.beq pc 42 then some (.iload_n 2, 43, 2, 0, 0) else none) else (bif Nat.beq pc 43 then some (.invokevirtual 220, 46, 165, 1, 0) else none))) else (bif Nat.blt pc 49 then (bif Nat.beq pc 46 then some (.ifCond .eq 14, 49, 60, 0, 0) else none) else (bif Nat.blt pc 50 then (bif Nat.beq pc 49 then some (.aload_n 0, 50, 0, 0, 0) else none) else (bif Nat.beq pc 50 then some (.iload_n 3, 51, 3, 0, 0) else none)))) else (bif Nat.blt pc 57 then (bif Nat.blt pc 52 then (bif Nat.beq pc 51 then some (.iload_n 2, 52, 2, 0, 0) else none) else (bif Nat.blt pc 55 then (bif Nat.beq pc 52 then some (.invokevirtual 223, 55, 168, 2, 0) else none) else (bif Nat.beq pc 55 then some (.istore 4, 57, 4, 0, 0) else none))) else (bif Nat.blt pc 60 then (bif Nat.beq pc 57 then some (.goto 29, 60, 86, 0, 0) else none) else (bif Nat.blt pc 61 then (bif Nat.beq pc 60 then some (.iload_n 1, 61, 1, 0, 0) else none) else (bif Nat.beq pc 61 then some (.iconst 2, 62, 0, 0, 2) else none))))) else (bif Nat.blt pc 73 then (bif Nat.blt pc 69 then (bif Nat.blt pc 65 then (bif Nat.beq pc 62 then some (.if_icmp .ne 24, 65, 86, 0, 0) else none) else (bif Nat.blt pc 66 then (bif Nat.beq pc 65 then some (.aload_n 0, 66, 0, 0, 0) else none) else (bif Nat.beq pc 66 then some (.getfield 7, 69, 12, 0, 0) else none))) else (bif Nat.blt pc 71 then (bif Nat.beq pc 69 then some (.bipush 18, 71, 0, 0, 18) else none) else (bif Nat.blt pc 72 then (bif Nat.beq pc 71 then some (.iaload, 72, 0, 0, 0) else none) else (bif Nat.beq pc 72 then some (.iload_n 2, 73, 2, 0, 0) else none)))) else (bif Nat.blt pc 80 then (bif Nat.blt pc 76 then (bif Nat.beq pc 73 then some (.invokestatic 166, 76, 131, 2, 0) else none) else (bif Nat.blt pc 79 then (bif Nat.beq pc 76 then some (.ifCond .eq 10, 79, 86, 0, 0) else none) else (bif Nat.beq pc 79 then some (.aload_n 0, 80, 0, 0, 0) else none))) else (bif Nat.blt pc 84 then (bif Nat.blt pc 81 then (bif Nat.beq pc 80 then some (.iload_n 2, 81, 2, 0, 0) else none) else (bif Nat.beq pc 81 then some (.invokevirtual 226, 84, 171, 1, 0) else none)) else (bif Nat.blt pc 86 then (bif Nat.beq pc 84 then some (.istore 4, 86, 4, 0, 0) else none) else (bif Nat.beq pc 86 then some (.return_, 87, 0, 0, 0) else none))))))
/-- X12_drift -/
noncomputable def gn_c179 (pc : Nat) : Option gn_En := bif Nat.blt pc 26 then (bif Nat.blt pc 14 then (bif Nat.blt pc 8 then (bif Nat.blt pc 2 then (bif Nat.blt pc 1 then (bif Nat.beq pc 0 then some (.aload_n 0, 1, 0, 0, 0) else none) else (bif Nat.beq pc 1 then some (.iload_n 1, 2, 1, 0, 0) else none)) else (bif Nat.blt pc 5 then (bif Nat.beq pc 2 then some (.invokevirtual 230, 5, 174, 1, 0) else none) else (bif Nat.beq pc 5 then some (.ifCond .ge 9, 8, 14, 0, 0) else none))) else (bif Nat.blt pc 10 then (bif Nat.blt pc 9 then (bif Nat.beq pc 8 then some (.aload_n 0, 9, 0, 0, 0) else none) else (bif Nat.beq pc 9 then some (.iload_n 1, 10, 1, 0, 0) else none)) else (bif Nat.blt pc 13 then (bif Nat.beq pc 10 then some (.invokevirtual 230, 13, 174, 1, 0) else none) else (bif Nat.beq pc 13 then some (.ireturn, 14, 0, 0, 0) else none)))) else (bif Nat.blt pc 18 then (bif Nat.blt pc 16 then (bif Nat.blt pc 15 then (bif Nat.beq pc 14 then some (.iconst 0, 15, 0, 0, 0) else none) else (bif Nat.beq pc 15 then some (.istore_n 2, 16, 2, 0, 0) else none)) else (bif Nat.blt pc 17 then (bif Nat.beq pc 16 then some (.iload_n 2, 17, 2, 0, 0) else none) else (bif Nat.beq pc 17 then some (.iload_n 1, 18, 1, 0, 0) else none))) else (bif Nat.blt pc 22 then (bif Nat.blt pc 21 then (bif Nat.beq pc 18 then some (.if_icmp .ge 35, 21, 53, 0, 0) else none) else (bif Nat.beq pc 21 then some (.aload_n 0, 22, 0, 0, 0) else none)) else (bif Nat.blt pc 25 then (bif Nat.beq pc 22 then some (.invokevirtual 210, 25, 163, 0, 0) else none) else (bif Nat.beq pc 25 then some (.aload_n 0, 26, 0, 0, 0) else none))))) else (bif Nat.blt pc 44 then (bif Nat.blt pc 36 then (bif Nat.blt pc 32 then (bif Nat.blt pc 29 then (bif Nat.beq pc 26 then some (.getfield 69, 29, 12, 8, 0) else none) else (bif Nat.beq pc 29 then some (.ifCond .le 14, 32, 43, 0, 0) else none)) else (bif Nat.blt pc 33 then (bif Nat.beq pc 32 then some (.aload_n 0, 33, 0, 0, 0) else none) else (bif Nat.beq pc 33 then some (.getfield 76, 36, 12, 9, 0) else none))) else (bif Nat.blt pc 40 then (bif Nat.blt pc 39 then (bif Nat.beq pc 36 then some (.ifCond .le 7, 39, 43, 0, 0) else none) else (bif Nat.beq pc 39 then some (.aload_n 0, 40, 0, 0, 0) else none)) else (bif Nat.blt pc 43 then (bif Nat.beq pc 40 then some (.invokevirtual 246, 43, 178, 0, 0) else none) else (bif Nat.beq pc 43 then some (.aload_n 0, 44, 0, 0, 0) else none)))) else (bif Nat.blt pc 54 then (bif Nat.blt pc 50 then (bif Nat.blt pc 47 then (bif Nat.beq pc 44 then some (.invokevirtual 233, 47, 173, 0, 0) else none) else (bif Nat.beq pc 47 then some (.iinc 2 1, 50, 2, 0, 1) else none)) else (bif Nat.blt pc 53 then (bif Nat.beq pc 50 then some (.goto (-34), 53, 16, 0, 0) else none) else (bif Nat.beq pc 53 then some (.aload_n 0, 54, 0, 0, 0) else none))) else (bif Nat.blt pc 59 then (bif Nat.blt pc 57 then (bif Nat.beq pc 54 then some (.getfield 7, 57, 12, 0, 0) else none) else (bif Nat.beq pc 57 then some (.bipush 26, 59, 0, 0, 26) else none)) else (bif Nat.blt pc 60 then (bif Nat.beq pc 59 then some (.iaload, 60, 0, 0, 0) else none) else (bif Nat.beq pc 60 then some (.ireturn, 61, 0, 0, 0) else none)))))
/-- X12_undo -/
noncomputable def gn_c180 (pc : Nat) : Option gn_En := bif Nat.blt pc 38 then (bif Nat.blt pc 18 then (bif Nat.blt pc 10 then (bif Nat.blt pc 2 then (bif Nat.blt pc 1 then (bif Nat.beq pc 0 then some (.iload_n 1, 1, 1, 0, 0) else none) else (bif Nat.beq pc 1 then some (.iconst 1, 2, 0, 0, 1) else none)) else (bif Nat.blt pc 4 then (bif Nat.beq pc 2 then some (.bipush 30, 4, 0, 0, 30) else none) else (bif Nat.blt pc 7 then (bif Nat.beq pc 4 then some (.invokestatic 72, 7, 130, 3, 0) else none) else (bif Nat.beq pc 7 then some (.ifCond .ne 6, 10, 13, 0, 0) else none)))) else (bif Nat.blt pc 13 then (bif Nat.blt pc 12 then (bif Nat.beq pc 10 then some (.ldc 79, 12, 0, 0, (-1000000002)) else none) else (bif Nat.beq pc 12 then some (.ireturn, 13, 0, 0, 0) else none)) else (bif Nat.blt pc 14 then (bif Nat.beq pc 13 then some (.iload_n 1, 14, 1, 0, 0) else none) else (bif Nat.blt pc 15 then (bif Nat.beq pc 14 then some (.aload_n 0, 15, 0, 0, 0) else none) else (bif Nat.beq pc 15 then some (.getfield 147, 18, 12, 10, 0) else none))))) else (bif Nat.blt pc 26 then (bif Nat.blt pc 23 then (bif Nat.blt pc 21 then (bif Nat.beq pc 18 then some (.if_icmp .le 6, 21, 24, 0, 0) else none) else (bif Nat.beq pc 21 then some (.ldc 209, 23, 0, 0, (-1000000003)) else none)) else (bif Nat.blt pc 24 then (bif Nat.beq pc 23 then some (.ireturn, 24, 0, 0, 0) else none) else (bif Nat.blt pc 25 then (bif Nat.beq pc 24 then some (.aload_n 0, 25, 0, 0, 0) else none) else (bif Nat.beq pc 25 then some (.dup, 26, 0, 0, 0) else none)))) else (bif Nat.blt pc 31 then (bif Nat.blt pc 29 then (bif Nat.beq pc 26 then some (.getfield 147, 29, 12, 10, 0) else none) else (bif Nat.blt pc 30 then (bif Nat.beq pc 29 then some (.iload_n 1, 30, 1, 0, 0) else none) else (bif Nat.beq pc 30 then some (.isub, 31, 0, 0, 0) else none))) else (bif Nat.blt pc 34 then (bif Nat.beq pc 31 then some (.putfield 147, 34, 12, 10, 0) else none) else (bif Nat.blt pc 35 then (bif Nat.beq pc 34 then some (.aload_n 0, 35, 0, 0, 0) else none) else (bif Nat.beq pc 35 then some (.getfield 7, 38, 12, 0, 0) else none)))))) else (bif Nat.blt pc 54 then (bif Nat.blt pc 45 then (bif Nat.blt pc 41 then (bif Nat.blt pc 40 then (bif Nat.beq pc 38 then some (.bipush 28, 40, 0, 0, 28) else none) else (bif Nat.beq pc 40 then some (.iaload, 41, 0, 0, 0) else none)) else (bif Nat.blt pc 42 then (bif Nat.beq pc 41 then some (.istore_n 2, 42, 2, 0, 0) else none) else (bif Nat.blt pc 43 then (bif Nat.beq pc 42 then some (.aload_n 0, 43, 0, 0, 0) else none) else (bif Nat.beq pc 43 then some (.bipush 87, 45, 0, 0, 87) else none)))) else (bif Nat.blt pc 51 then (bif Nat.blt pc 47 then (bif Nat.beq pc 45 then some (.bipush 29, 47, 0, 0, 29) else none) else (bif Nat.blt pc 48 then (bif Nat.beq pc 47 then some (.aload_n 0, 48, 0, 0, 0) else none) else (bif Nat.beq pc 48 then some (.getfield 147, 51, 12, 10, 0) else none))) else (bif Nat.blt pc 52 then (bif Nat.beq pc 51 then some (.imul, 52, 0, 0, 0) else none) else (bif Nat.blt pc 53 then (bif Nat.beq pc 52 then some (.iadd, 53, 0, 0, 0) else none) else (bif Nat.beq pc 53 then some (.iconst 0, 54, 0, 0, 0) else none))))) else (bif Nat.blt pc 64 then (bif Nat.blt pc 58 then (bif Nat.blt pc 57 then (bif Nat.beq pc 54 then some (.invokevirtual 206, 57, 134, 2, 0) else none) else (bif Nat.beq pc 57 then some (.aload_n 0, 58, 0, 0, 0) else none)) else (bif Nat.blt pc 61 then (bif Nat.beq pc 58 then some (.getfield 7, 61, 12, 0, 0) else none) else (bif Nat.blt pc 63 then (bif Nat.beq pc 61 then some (.bipush 28, 63, 0, 0, 28) else none) else (bif Nat.beq pc 63 then some (.iload_n 2, 64, 2, 0, 0) else none)))) else (bif Nat.blt pc 69 then (bif Nat.blt pc 65 then (bif Nat.beq pc 64 then some (.iastore, 65, 0, 0, 0) else none) else (bif Nat.blt pc 66 then (bif Nat.beq pc 65 then some (.aload_n 0, 66, 0, 0, 0) else none) else (bif Nat.beq pc 66 then some (.getfield 7, 69, 12, 0, 0) else none))) else (bif Nat.blt pc 71 then (bif Nat.beq pc 69 then some (.bipush 26, 71, 0, 0, 26) else none) else (bif Nat.blt pc 72 then (bif Nat.beq pc 71 then some (.iaload, 72, 0, 0, 0) else none) else (bif Nat.beq pc 72 then some (.ireturn, 73, 0, 0, 0) else none))))))
/-- X12_joy -/
noncomputable def gn_c181 (pc : Nat) : Option gn_En := bif Nat.blt pc 28 then (bif Nat.blt pc 13 then (bif Nat.blt pc 5 then (bif Nat.blt pc 1 then (bif Nat.beq pc 0 then some (.aload_n 0, 1, 0, 0, 0) else none) else (bif Nat.blt pc 2 then (bif Nat.beq pc 1 then some (.iload_n 1, 2, 1, 0, 0) else none) else (bif Nat.beq pc 2 then some (.invokevirtual 198, 5, 132, 1, 0) else none))) else (bif Nat.blt pc 9 then (bif Nat.blt pc 8 then (bif Nat.beq pc 5 then some (.ifCond .eq 11, 8, 16, 0, 0) else none) else (bif Nat.beq pc 8 then some (.aload_n 0, 9, 0, 0, 0) else none)) else (bif Nat.blt pc 10 then (bif Nat.beq pc 9 then some (.iload_n 2, 10, 2, 0, 0) else none) else (bif Nat.beq pc 10 then some (.invokevirtual 203, 13, 133, 1, 0) else none)))) else (bif Nat.blt pc 20 then (bif Nat.blt pc 18 then (bif Nat.blt pc 16 then (bif Nat.beq pc 13 then some (.ifCond .ne 6, 16, 19, 0, 0) else none) else (bif Nat.beq pc 16 then some (.ldc 202, 18, 0, 0, (-1000000001)) else none)) else (bif Nat.blt pc 19 then (bif Nat.beq pc 18 then some (.ireturn, 19, 0, 0, 0) else none) else (bif Nat.beq pc 19 then some (.iload_n 3, 20, 3, 0, 0) else none))) else (bif Nat.blt pc 22 then (bif Nat.blt pc 21 then (bif Nat.beq pc 20 then some (.iconst 0, 21, 0, 0, 0) else none) else (bif Nat.beq pc 21 then some (.iconst 5, 22, 0, 0, 5) else none)) else (bif Nat.blt pc 25 then (bif Nat.beq pc 22 then some (.invokestatic 72, 25, 130, 3, 0) else none) else (bif Nat.beq pc 25 then some (.ifCond .ne 6, 28, 31, 0, 0) else none))))) else (bif Nat.blt pc 41 then (bif Nat.blt pc 33 then (bif Nat.blt pc 31 then (bif Nat.blt pc 30 then (bif Nat.beq pc 28 then some (.ldc 79, 30, 0, 0, (-1000000002)) else none) else (bif Nat.beq pc 30 then some (.ireturn, 31, 0, 0, 0) else none)) else (bif Nat.blt pc 32 then (bif Nat.beq pc 31 then some (.iload_n 3, 32, 3, 0, 0) else none) else (bif Nat.beq pc 32 then some (.aload_n 0, 33, 0, 0, 0) else none))) else (bif Nat.blt pc 37 then (bif Nat.blt pc 36 then (bif Nat.beq pc 33 then some (.getfield 19, 36, 12, 3, 0) else none) else (bif Nat.beq pc 36 then some (.iload_n 1, 37, 1, 0, 0) else none)) else (bif Nat.blt pc 38 then (bif Nat.beq pc 37 then some (.iaload, 38, 0, 0, 0) else none) else (bif Nat.beq pc 38 then some (.if_icmp .ge 13, 41, 51, 0, 0) else none)))) else (bif Nat.blt pc 45 then (bif Nat.blt pc 43 then (bif Nat.blt pc 42 then (bif Nat.beq pc 41 then some (.aload_n 0, 42, 0, 0, 0) else none) else (bif Nat.beq pc 42 then some (.iload_n 1, 43, 1, 0, 0) else none)) else (bif Nat.blt pc 44 then (bif Nat.beq pc 43 then some (.iload_n 2, 44, 2, 0, 0) else none) else (bif Nat.beq pc 44 then some (.iload_n 3, 45, 3, 0, 0) else none))) else (bif Nat.blt pc 51 then (bif Nat.blt pc 48 then (bif Nat.beq pc 45 then some (.invokevirtual 180, 48, 151, 3, 0) else none) else (bif Nat.beq pc 48 then some (.goto 4, 51, 52, 0, 0) else none)) else (bif Nat.blt pc 52 then (bif Nat.beq pc 51 then some (.iconst (-1), 52, 0, 0, (-1)) else none) else (bif Nat.beq pc 52 then some (.ireturn, 53, 0, 0, 0) else none)))))
/-- X12_firstOpen -/
noncomputable def gn_c182 (pc : Nat) : Option gn_En := bif Nat.blt pc 13 then (bif Nat.blt pc 5 then (bif Nat.blt pc 1 then (bif Nat.beq pc 0 then some (.aload_n 0, 1, 0, 0, 0) else none) else (bif Nat.blt pc 4 then (bif Nat.beq pc 1 then some (.getfield 7, 4, 12, 0, 0) else none) else (bif Nat.beq pc 4 then some (.iload_n 1, 5, 1, 0, 0) else none))) else (bif Nat.blt pc 9 then (bif Nat.blt pc 6 then (bif Nat.beq pc 5 then some (.iaload, 6, 0, 0, 0) else none) else (bif Nat.beq pc 6 then some (.ifCond .le 14, 9, 20, 0, 0) else none)) else (bif Nat.blt pc 10 then (bif Nat.beq pc 9 then some (.aload_n 0, 10, 0, 0, 0) else none) else (bif Nat.beq pc 10 then some (.getfield 7, 13, 12, 0, 0) else none)))) else (bif Nat.blt pc 16 then (bif Nat.blt pc 14 then (bif Nat.beq pc 13 then some (.iload_n 1, 14, 1, 0, 0) else none) else (bif Nat.blt pc 15 then (bif Nat.beq pc 14 then some (.iaload, 15, 0, 0, 0) else none) else (bif Nat.beq pc 15 then some (.iconst 1, 16, 0, 0, 1) else none))) else (bif Nat.blt pc 20 then (bif Nat.blt pc 17 then (bif Nat.beq pc 16 then some (.isub, 17, 0, 0, 0) else none) else (bif Nat.beq pc 17 then some (.goto 4, 20, 21, 0, 0) else none)) else (bif Nat.blt pc 21 then (bif Nat.beq pc 20 then some (.iconst 0, 21, 0, 0, 0) else none) else (bif Nat.beq pc 21 then some (.ireturn, 22, 0, 0, 0) else none))))
/-- X12_mostBy -/
noncomputable def gn_c183 (pc : Nat) : Option gn_En := bif Nat.blt pc 23 then (bif Nat.blt pc 11 then (bif Nat.blt pc 3 then (bif Nat.blt pc 1 then (bif Nat.beq pc 0 then some (.iconst 0, 1, 0, 0, 0) else none) else (bif Nat.blt pc 2 then (bif Nat.beq pc 1 then some (.istore_n 3, 2, 3, 0, 0) else none) else (bif Nat.beq pc 2 then some (.aload_n 0, 3, 0, 0, 0) else none))) else (bif Nat.blt pc 7 then (bif Nat.blt pc 4 then (bif Nat.beq pc 3 then some (.iload_n 1, 4, 1, 0, 0) else none) else (bif Nat.beq pc 4 then some (.invokevirtual 249, 7, 182, 1, 0) else none)) else (bif Nat.blt pc 9 then (bif Nat.beq pc 7 then some (.istore 4, 9, 4, 0, 0) else none) else (bif Nat.beq pc 9 then some (.iload 4, 11, 4, 0, 0) else none)))) else (bif Nat.blt pc 17 then (bif Nat.blt pc 15 then (bif Nat.blt pc 12 then (bif Nat.beq pc 11 then some (.aload_n 0, 12, 0, 0, 0) else none) else (bif Nat.beq pc 12 then some (.getfield 19, 15, 12, 3, 0) else none)) else (bif Nat.blt pc 16 then (bif Nat.beq pc 15 then some (.iload_n 1, 16, 1, 0, 0) else none) else (bif Nat.beq pc 16 then some (.iaload, 17, 0, 0, 0) else none))) else (bif Nat.blt pc 21 then (bif Nat.blt pc 20 then (bif Nat.beq pc 17 then some (.if_icmp .ge 34, 20, 51, 0, 0) else none) else (bif Nat.beq pc 20 then some (.aload_n 0, 21, 0, 0, 0) else none)) else (bif Nat.blt pc 22 then (bif Nat.beq pc 21 then some (.iload_n 1, 22, 1, 0, 0) else none) else (bif Nat.beq pc 22 then some (.iload_n 2, 23, 2, 0, 0) else none))))) else (bif Nat.blt pc 37 then (bif Nat.blt pc 32 then (bif Nat.blt pc 28 then (bif Nat.blt pc 25 then (bif Nat.beq pc 23 then some (.iload 4, 25, 4, 0, 0) else none) else (bif Nat.beq pc 25 then some (.invokevirtual 180, 28, 151, 3, 0) else none)) else (bif Nat.blt pc 29 then (bif Nat.beq pc 28 then some (.iload_n 3, 29, 3, 0, 0) else none) else (bif Nat.beq pc 29 then some (.if_icmp .le 14, 32, 43, 0, 0) else none))) else (bif Nat.blt pc 34 then (bif Nat.blt pc 33 then (bif Nat.beq pc 32 then some (.aload_n 0, 33, 0, 0, 0) else none) else (bif Nat.beq pc 33 then some (.iload_n 1, 34, 1, 0, 0) else none)) else (bif Nat.blt pc 35 then (bif Nat.beq pc 34 then some (.iload_n 2, 35, 2, 0, 0) else none) else (bif Nat.beq pc 35 then some (.iload 4, 37, 4, 0, 0) else none)))) else (bif Nat.blt pc 45 then (bif Nat.blt pc 43 then (bif Nat.blt pc 40 then (bif Nat.beq pc 37 then some (.invokevirtual 180, 40, 151, 3, 0) else none) else (bif Nat.beq pc 40 then some (.goto 4, 43, 44, 0, 0) else none)) else (bif Nat.blt pc 44 then (bif Nat.beq pc 43 then some (.iload_n 3, 44, 3, 0, 0) else none) else (bif Nat.beq pc 44 then some (.istore_n 3, 45, 3, 0, 0) else none))) else (bif Nat.blt pc 51 then (bif Nat.blt pc 48 then (bif Nat.beq pc 45 then some (.iinc 4 1, 48, 4, 0, 1) else none) else (bif Nat.beq pc 48 then some (.goto (-39), 51, 9, 0, 0) else none)) else (bif Nat.blt pc 52 then (bif Nat.beq pc 51 then some (.iload_n 3, 52, 3, 0, 0) else none) else (bif Nat.beq pc 52 then some (.ireturn, 53, 0, 0, 0) else none)))))
/-- X12_best -/
noncomputable def gn_c184 (pc : Nat) : Option gn_En := bif Nat.blt pc 68 then (bif Nat.blt pc 32 then (bif Nat.blt pc 17 then (bif Nat.blt pc 10 then (bif Nat.blt pc 2 then (bif Nat.blt pc 1 then (bif Nat.beq pc 0 then some (.aload_n 0, 1, 0, 0, 0) else none) else (bif Nat.beq pc 1 then some (.iload_n 1, 2, 1, 0, 0) else none)) else (bif Nat.blt pc 5 then (bif Nat.beq pc 2 then some (.invokevirtual 198, 5, 132, 1, 0) else none) else (bif Nat.blt pc 8 then (bif Nat.beq pc 5 then some (.ifCond .ne 6, 8, 11, 0, 0) else none) else (bif Nat.beq pc 8 then some (.ldc 202, 10, 0, 0, (-1000000001)) else none)))) else (bif Nat.blt pc 12 then (bif Nat.blt pc 11 then (bif Nat.beq pc 10 then some (.ireturn, 11, 0, 0, 0) else none) else (bif Nat.beq pc 11 then some (.iload_n 2, 12, 2, 0, 0) else none)) else (bif Nat.blt pc 13 then (bif Nat.beq pc 12 then some (.iconst 0, 13, 0, 0, 0) else none) else (bif Nat.blt pc 14 then (bif Nat.beq pc 13 then some (.iconst 2, 14, 0, 0, 2) else none) else (bif Nat.beq pc 14 then some (.invokestatic 72, 17, 130, 3, 0) else none))))) else (bif Nat.blt pc 25 then (bif Nat.blt pc 22 then (bif Nat.blt pc 20 then (bif Nat.beq pc 17 then some (.ifCond .ne 6, 20, 23, 0, 0) else none) else (bif Nat.beq pc 20 then some (.ldc 79, 22, 0, 0, (-1000000002)) else none)) else (bif Nat.blt pc 23 then (bif Nat.beq pc 22 then some (.ireturn, 23, 0, 0, 0) else none) else (bif Nat.blt pc 24 then (bif Nat.beq pc 23 then some (.iconst (-1), 24, 0, 0, (-1)) else none) else (bif Nat.beq pc 24 then some (.istore_n 3, 25, 3, 0, 0) else none)))) else (bif Nat.blt pc 28 then (bif Nat.blt pc 26 then (bif Nat.beq pc 25 then some (.iconst (-1), 26, 0, 0, (-1)) else none) else (bif Nat.beq pc 26 then some (.istore 4, 28, 4, 0, 0) else none)) else (bif Nat.blt pc 29 then (bif Nat.beq pc 28 then some (.iconst (-1), 29, 0, 0, (-1)) else none) else (bif Nat.blt pc 31 then (bif Nat.beq pc 29 then some (.istore 5, 31, 5, 0, 0) else none) else (bif Nat.beq pc 31 then some (.aload_n 0, 32, 0, 0, 0) else none)))))) else (bif Nat.blt pc 50 then (bif Nat.blt pc 41 then (bif Nat.blt pc 36 then (bif Nat.blt pc 33 then (bif Nat.beq pc 32 then some (.iload_n 1, 33, 1, 0, 0) else none) else (bif Nat.beq pc 33 then some (.invokevirtual 249, 36, 182, 1, 0) else none)) else (bif Nat.blt pc 38 then (bif Nat.beq pc 36 then some (.istore 6, 38, 6, 0, 0) else none) else (bif Nat.blt pc 40 then (bif Nat.beq pc 38 then some (.iload 6, 40, 6, 0, 0) else none) else (bif Nat.beq pc 40 then some (.aload_n 0, 41, 0, 0, 0) else none)))) else (bif Nat.blt pc 45 then (bif Nat.blt pc 44 then (bif Nat.beq pc 41 then some (.getfield 19, 44, 12, 3, 0) else none) else (bif Nat.beq pc 44 then some (.iload_n 1, 45, 1, 0, 0) else none)) else (bif Nat.blt pc 46 then (bif Nat.beq pc 45 then some (.iaload, 46, 0, 0, 0) else none) else (bif Nat.blt pc 49 then (bif Nat.beq pc 46 then some (.if_icmp .ge 84, 49, 130, 0, 0) else none) else (bif Nat.beq pc 49 then some (.aload_n 0, 50, 0, 0, 0) else none))))) else (bif Nat.blt pc 58 then (bif Nat.blt pc 55 then (bif Nat.blt pc 53 then (bif Nat.beq pc 50 then some (.getfield 7, 53, 12, 0, 0) else none) else (bif Nat.beq pc 53 then some (.bipush 6, 55, 0, 0, 6) else none)) else (bif Nat.blt pc 56 then (bif Nat.beq pc 55 then some (.iload_n 1, 56, 1, 0, 0) else none) else (bif Nat.blt pc 57 then (bif Nat.beq pc 56 then some (.iadd, 57, 0, 0, 0) else none) else (bif Nat.beq pc 57 then some (.iaload, 58, 0, 0, 0) else none)))) else (bif Nat.blt pc 63 then (bif Nat.blt pc 59 then (bif Nat.beq pc 58 then some (.iconst (-1), 59, 0, 0, (-1)) else none) else (bif Nat.blt pc 62 then (bif Nat.beq pc 59 then some (.if_icmp .ne 71, 62, 130, 0, 0) else none) else (bif Nat.beq pc 62 then some (.iconst 0, 63, 0, 0, 0) else none))) else (bif Nat.blt pc 65 then (bif Nat.beq pc 63 then some (.istore 7, 65, 7, 0, 0) else none) else (bif Nat.blt pc 67 then (bif Nat.beq pc 65 then some (.iload 7, 67, 7, 0, 0) else none) else (bif Nat.beq pc 67 then some (.aload_n 0, 68, 0, 0, 0) else none))))))) else (bif Nat.blt pc 106 then (bif Nat.blt pc 88 then (bif Nat.blt pc 80 then (bif Nat.blt pc 74 then (bif Nat.blt pc 71 then (bif Nat.beq pc 68 then some (.getfield 76, 71, 12, 9, 0) else none) else (bif Nat.beq pc 71 then some (.if_icmp .ge 53, 74, 124, 0, 0) else none)) else (bif Nat.blt pc 75 then (bif Nat.beq pc 74 then some (.aload_n 0, 75, 0, 0, 0) else none) else (bif Nat.blt pc 78 then (bif Nat.beq pc 75 then some (.getfield 7, 78, 12, 0, 0) else none) else (bif Nat.beq pc 78 then some (.bipush 20, 80, 0, 0, 20) else none)))) else (bif Nat.blt pc 83 then (bif Nat.blt pc 82 then (bif Nat.beq pc 80 then some (.iload 7, 82, 7, 0, 0) else none) else (bif Nat.beq pc 82 then some (.iadd, 83, 0, 0, 0) else none)) else (bif Nat.blt pc 84 then (bif Nat.beq pc 83 then some (.iaload, 84, 0, 0, 0) else none) else (bif Nat.blt pc 87 then (bif Nat.beq pc 84 then some (.ifCond .le 34, 87, 118, 0, 0) else none) else (bif Nat.beq pc 87 then some (.aload_n 0, 88, 0, 0, 0) else none))))) else (bif Nat.blt pc 97 then (bif Nat.blt pc 91 then (bif Nat.blt pc 89 then (bif Nat.beq pc 88 then some (.iload_n 1, 89, 1, 0, 0) else none) else (bif Nat.beq pc 89 then some (.iload 7, 91, 7, 0, 0) else none)) else (bif Nat.blt pc 93 then (bif Nat.beq pc 91 then some (.iload 6, 93, 6, 0, 0) else none) else (bif Nat.blt pc 96 then (bif Nat.beq pc 93 then some (.invokevirtual 180, 96, 151, 3, 0) else none) else (bif Nat.beq pc 96 then some (.iload_n 3, 97, 3, 0, 0) else none)))) else (bif Nat.blt pc 101 then (bif Nat.blt pc 100 then (bif Nat.beq pc 97 then some (.if_icmp .le 21, 100, 118, 0, 0) else none) else (bif Nat.beq pc 100 then some (.aload_n 0, 101, 0, 0, 0) else none)) else (bif Nat.blt pc 102 then (bif Nat.beq pc 101 then some (.iload_n 1, 102, 1, 0, 0) else none) else (bif Nat.blt pc 104 then (bif Nat.beq pc 102 then some (.iload 7, 104, 7, 0, 0) else none) else (bif Nat.beq pc 104 then some (.iload 6, 106, 6, 0, 0) else none)))))) else (bif Nat.blt pc 130 then (bif Nat.blt pc 116 then (bif Nat.blt pc 110 then (bif Nat.blt pc 109 then (bif Nat.beq pc 106 then some (.invokevirtual 180, 109, 151, 3, 0) else none) else (bif Nat.beq pc 109 then some (.istore_n 3, 110, 3, 0, 0) else none)) else (bif Nat.blt pc 112 then (bif Nat.beq pc 110 then some (.iload 6, 112, 6, 0, 0) else none) else (bif Nat.blt pc 114 then (bif Nat.beq pc 112 then some (.istore 4, 114, 4, 0, 0) else none) else (bif Nat.beq pc 114 then some (.iload 7, 116, 7, 0, 0) else none)))) else (bif Nat.blt pc 121 then (bif Nat.blt pc 118 then (bif Nat.beq pc 116 then some (.istore 5, 118, 5, 0, 0) else none) else (bif Nat.beq pc 118 then some (.iinc 7 1, 121, 7, 0, 1) else none)) else (bif Nat.blt pc 124 then (bif Nat.beq pc 121 then some (.goto (-56), 124, 65, 0, 0) else none) else (bif Nat.blt pc 127 then (bif Nat.beq pc 124 then some (.iinc 6 1, 127, 6, 0, 1) else none) else (bif Nat.beq pc 127 then some (.goto (-89), 130, 38, 0, 0) else none))))) else (bif Nat.blt pc 139 then (bif Nat.blt pc 134 then (bif Nat.blt pc 131 then (bif Nat.beq pc 130 then some (.iload_n 2, 131, 2, 0, 0) else none) else (bif Nat.beq pc 131 then some (.ifCond .ne 7, 134, 138, 0, 0) else none)) else (bif Nat.blt pc 135 then (bif Nat.beq pc 134 then some (.iload_n 3, 135, 3, 0, 0) else none) else (bif Nat.blt pc 138 then (bif Nat.beq pc 135 then some (.goto 15, 138, 150, 0, 0) else none) else (bif Nat.beq pc 138 then some (.iload_n 2, 139, 2, 0, 0) else none)))) else (bif Nat.blt pc 145 then (bif Nat.blt pc 140 then (bif Nat.beq pc 139 then some (.iconst 1, 140, 0, 0, 1) else none) else (bif Nat.blt pc 143 then (bif Nat.beq pc 140 then some (.if_icmp .ne 8, 143, 148, 0, 0) else none) else (bif Nat.beq pc 143 then some (.iload 4, 145, 4, 0, 0) else none))) else (bif Nat.blt pc 148 then (bif Nat.beq pc 145 then some (.goto 5, 148, 150, 0, 0) else none) else (bif Nat.blt pc 150 then (bif Nat.beq pc 148 then some (.iload 5, 150, 5, 0, 0) else none) else (bif Nat.beq pc 150 then some (.ireturn, 151, 0, 0, 0) else none)))))))
/-- X12_planned -/
noncomputable def gn_c185 (pc : Nat) : Option gn_En := bif Nat.blt pc 64 then (bif Nat.blt pc 32 then (bif Nat.blt pc 13 then (bif Nat.blt pc 4 then (bif Nat.blt pc 2 then (bif Nat.blt pc 1 then (bif Nat.beq pc 0 then some (.iconst 0, 1, 0, 0, 0) else none) else (bif Nat.beq pc 1 then some (.istore_n 2, 2, 2, 0, 0) else none)) else (bif Nat.blt pc 3 then (bif Nat.beq pc 2 then some (.iload_n 1, 3, 1, 0, 0) else none) else (bif Nat.beq pc 3 then some (.istore_n 3, 4, 3, 0, 0) else none))) else (bif Nat.blt pc 7 then (bif Nat.blt pc 5 then (bif Nat.beq pc 4 then some (.iconst 0, 5, 0, 0, 0) else none) else (bif Nat.beq pc 5 then some (.istore 4, 7, 4, 0, 0) else none)) else (bif Nat.blt pc 9 then (bif Nat.beq pc 7 then some (.iload 4, 9, 4, 0, 0) else none) else (bif Nat.blt pc 10 then (bif Nat.beq pc 9 then some (.aload_n 0, 10, 0, 0, 0) else none) else (bif Nat.beq pc 10 then some (.getfield 76, 13, 12, 9, 0) else none))))) else (bif Nat.blt pc 23 then (bif Nat.blt pc 17 then (bif Nat.blt pc 16 then (bif Nat.beq pc 13 then some (.if_icmp .ge 26, 16, 39, 0, 0) else none) else (bif Nat.beq pc 16 then some (.aload_n 0, 17, 0, 0, 0) else none)) else (bif Nat.blt pc 20 then (bif Nat.beq pc 17 then some (.getfield 63, 20, 12, 33, 0) else none) else (bif Nat.blt pc 22 then (bif Nat.beq pc 20 then some (.iload 4, 22, 4, 0, 0) else none) else (bif Nat.beq pc 22 then some (.aload_n 0, 23, 0, 0, 0) else none)))) else (bif Nat.blt pc 28 then (bif Nat.blt pc 26 then (bif Nat.beq pc 23 then some (.getfield 7, 26, 12, 0, 0) else none) else (bif Nat.beq pc 26 then some (.bipush 20, 28, 0, 0, 20) else none)) else (bif Nat.blt pc 30 then (bif Nat.beq pc 28 then some (.iload 4, 30, 4, 0, 0) else none) else (bif Nat.blt pc 31 then (bif Nat.beq pc 30 then some (.iadd, 31, 0, 0, 0) else none) else (bif Nat.beq pc 31 then some (.iaload, 32, 0, 0, 0) else none)))))) else (bif Nat.blt pc 52 then (bif Nat.blt pc 43 then (bif Nat.blt pc 36 then (bif Nat.blt pc 33 then (bif Nat.beq pc 32 then some (.iastore, 33, 0, 0, 0) else none) else (bif Nat.beq pc 33 then some (.iinc 4 1, 36, 4, 0, 1) else none)) else (bif Nat.blt pc 39 then (bif Nat.beq pc 36 then some (.goto (-29), 39, 7, 0, 0) else none) else (bif Nat.blt pc 40 then (bif Nat.beq pc 39 then some (.aload_n 0, 40, 0, 0, 0) else none) else (bif Nat.beq pc 40 then some (.getfield 69, 43, 12, 8, 0) else none)))) else (bif Nat.blt pc 45 then (bif Nat.blt pc 44 then (bif Nat.beq pc 43 then some (.iconst 1, 44, 0, 0, 1) else none) else (bif Nat.beq pc 44 then some (.isub, 45, 0, 0, 0) else none)) else (bif Nat.blt pc 47 then (bif Nat.beq pc 45 then some (.istore 4, 47, 4, 0, 0) else none) else (bif Nat.blt pc 49 then (bif Nat.beq pc 47 then some (.iload 4, 49, 4, 0, 0) else none) else (bif Nat.beq pc 49 then some (.ifCond .lt 81, 52, 130, 0, 0) else none))))) else (bif Nat.blt pc 58 then (bif Nat.blt pc 54 then (bif Nat.blt pc 53 then (bif Nat.beq pc 52 then some (.iload_n 3, 53, 3, 0, 0) else none) else (bif Nat.beq pc 53 then some (.iconst 5, 54, 0, 0, 5) else none)) else (bif Nat.blt pc 55 then (bif Nat.beq pc 54 then some (.irem, 55, 0, 0, 0) else none) else (bif Nat.blt pc 57 then (bif Nat.beq pc 55 then some (.istore 5, 57, 5, 0, 0) else none) else (bif Nat.beq pc 57 then some (.iload_n 3, 58, 3, 0, 0) else none)))) else (bif Nat.blt pc 60 then (bif Nat.blt pc 59 then (bif Nat.beq pc 58 then some (.iconst 5, 59, 0, 0, 5) else none) else (bif Nat.beq pc 59 then some (.idiv, 60, 0, 0, 0) else none)) else (bif Nat.blt pc 61 then (bif Nat.beq pc 60 then some (.istore_n 3, 61, 3, 0, 0) else none) else (bif Nat.blt pc 63 then (bif Nat.beq pc 61 then some (.iload 5, 63, 5, 0, 0) else none) else (bif Nat.beq pc 63 then some (.iconst 4, 64, 0, 0, 4) else none))))))) else (bif Nat.blt pc 101 then (bif Nat.blt pc 84 then (bif Nat.blt pc 73 then (bif Nat.blt pc 69 then (bif Nat.blt pc 67 then (bif Nat.beq pc 64 then some (.if_icmp .ge 60, 67, 124, 0, 0) else none) else (bif Nat.beq pc 67 then some (.iload 5, 69, 5, 0, 0) else none)) else (bif Nat.blt pc 70 then (bif Nat.beq pc 69 then some (.aload_n 0, 70, 0, 0, 0) else none) else (bif Nat.beq pc 70 then some (.getfield 76, 73, 12, 9, 0) else none))) else (bif Nat.blt pc 77 then (bif Nat.blt pc 76 then (bif Nat.beq pc 73 then some (.if_icmp .ge 27, 76, 100, 0, 0) else none) else (bif Nat.beq pc 76 then some (.aload_n 0, 77, 0, 0, 0) else none)) else (bif Nat.blt pc 80 then (bif Nat.beq pc 77 then some (.getfield 7, 80, 12, 0, 0) else none) else (bif Nat.blt pc 82 then (bif Nat.beq pc 80 then some (.bipush 6, 82, 0, 0, 6) else none) else (bif Nat.beq pc 82 then some (.iload 4, 84, 4, 0, 0) else none))))) else (bif Nat.blt pc 91 then (bif Nat.blt pc 86 then (bif Nat.blt pc 85 then (bif Nat.beq pc 84 then some (.iadd, 85, 0, 0, 0) else none) else (bif Nat.beq pc 85 then some (.iaload, 86, 0, 0, 0) else none)) else (bif Nat.blt pc 87 then (bif Nat.beq pc 86 then some (.iconst (-1), 87, 0, 0, (-1)) else none) else (bif Nat.blt pc 90 then (bif Nat.beq pc 87 then some (.if_icmp .ne 13, 90, 100, 0, 0) else none) else (bif Nat.beq pc 90 then some (.aload_n 0, 91, 0, 0, 0) else none)))) else (bif Nat.blt pc 96 then (bif Nat.blt pc 94 then (bif Nat.beq pc 91 then some (.getfield 63, 94, 12, 33, 0) else none) else (bif Nat.beq pc 94 then some (.iload 5, 96, 5, 0, 0) else none)) else (bif Nat.blt pc 97 then (bif Nat.beq pc 96 then some (.iaload, 97, 0, 0, 0) else none) else (bif Nat.blt pc 100 then (bif Nat.beq pc 97 then some (.ifCond .ne 5, 100, 102, 0, 0) else none) else (bif Nat.beq pc 100 then some (.iconst (-1), 101, 0, 0, (-1)) else none)))))) else (bif Nat.blt pc 114 then (bif Nat.blt pc 109 then (bif Nat.blt pc 103 then (bif Nat.blt pc 102 then (bif Nat.beq pc 101 then some (.ireturn, 102, 0, 0, 0) else none) else (bif Nat.beq pc 102 then some (.aload_n 0, 103, 0, 0, 0) else none)) else (bif Nat.blt pc 106 then (bif Nat.beq pc 103 then some (.getfield 63, 106, 12, 33, 0) else none) else (bif Nat.blt pc 108 then (bif Nat.beq pc 106 then some (.iload 5, 108, 5, 0, 0) else none) else (bif Nat.beq pc 108 then some (.dup2, 109, 0, 0, 0) else none)))) else (bif Nat.blt pc 111 then (bif Nat.blt pc 110 then (bif Nat.beq pc 109 then some (.iaload, 110, 0, 0, 0) else none) else (bif Nat.beq pc 110 then some (.iconst 1, 111, 0, 0, 1) else none)) else (bif Nat.blt pc 112 then (bif Nat.beq pc 111 then some (.isub, 112, 0, 0, 0) else none) else (bif Nat.blt pc 113 then (bif Nat.beq pc 112 then some (.iastore, 113, 0, 0, 0) else none) else (bif Nat.beq pc 113 then some (.iload_n 2, 114, 2, 0, 0) else none))))) else (bif Nat.blt pc 123 then (bif Nat.blt pc 117 then (bif Nat.blt pc 115 then (bif Nat.beq pc 114 then some (.aload_n 0, 115, 0, 0, 0) else none) else (bif Nat.beq pc 115 then some (.iload 4, 117, 4, 0, 0) else none)) else (bif Nat.blt pc 119 then (bif Nat.beq pc 117 then some (.iload 5, 119, 5, 0, 0) else none) else (bif Nat.blt pc 122 then (bif Nat.beq pc 119 then some (.invokevirtual 252, 122, 183, 2, 0) else none) else (bif Nat.beq pc 122 then some (.iadd, 123, 0, 0, 0) else none)))) else (bif Nat.blt pc 127 then (bif Nat.blt pc 124 then (bif Nat.beq pc 123 then some (.istore_n 2, 124, 2, 0, 0) else none) else (bif Nat.beq pc 124 then some (.iinc 4 (-1), 127, 4, 0, (-1)) else none)) else (bif Nat.blt pc 130 then (bif Nat.beq pc 127 then some (.goto (-80), 130, 47, 0, 0) else none) else (bif Nat.blt pc 131 then (bif Nat.beq pc 130 then some (.iload_n 2, 131, 2, 0, 0) else none) else (bif Nat.beq pc 131 then some (.ireturn, 132, 0, 0, 0) else none)))))))
/-- X12_power -/
noncomputable def gn_c186 (pc : Nat) : Option gn_En := bif Nat.blt pc 9 then (bif Nat.blt pc 3 then (bif Nat.blt pc 1 then (bif Nat.beq pc 0 then some (.iconst 1, 1, 0, 0, 1) else none) else (bif Nat.blt pc 2 then (bif Nat.beq pc 1 then some (.istore_n 2, 2, 2, 0, 0) else none) else (bif Nat.beq pc 2 then some (.iconst 0, 3, 0, 0, 0) else none))) else (bif Nat.blt pc 5 then (bif Nat.blt pc 4 then (bif Nat.beq pc 3 then some (.istore_n 3, 4, 3, 0, 0) else none) else (bif Nat.beq pc 4 then some (.iload_n 3, 5, 3, 0, 0) else none)) else (bif Nat.blt pc 6 then (bif Nat.beq pc 5 then some (.iload_n 1, 6, 1, 0, 0) else none) else (bif Nat.beq pc 6 then some (.if_icmp .ge 13, 9, 19, 0, 0) else none)))) else (bif Nat.blt pc 13 then (bif Nat.blt pc 11 then (bif Nat.blt pc 10 then (bif Nat.beq pc 9 then some (.iload_n 2, 10, 2, 0, 0) else none) else (bif Nat.beq pc 10 then some (.iload_n 0, 11, 0, 0, 0) else none)) else (bif Nat.blt pc 12 then (bif Nat.beq pc 11 then some (.imul, 12, 0, 0, 0) else none) else (bif Nat.beq pc 12 then some (.istore_n 2, 13, 2, 0, 0) else none))) else (bif Nat.blt pc 19 then (bif Nat.blt pc 16 then (bif Nat.beq pc 13 then some (.iinc 3 1, 16, 3, 0, 1) else none) else (bif Nat.beq pc 16 then some (.goto (-12), 19, 4, 0, 0) else none)) else (bif Nat.blt pc 20 then (bif Nat.beq pc 19 then some (.iload_n 2, 20, 2, 0, 0) else none) else (bif Nat.beq pc 20 then some (.ireturn, 21, 0, 0, 0) else none))))
/-- X12_plan -/
noncomputable def gn_c187 (pc : Nat) : Option gn_En := bif Nat.blt pc 59 then (bif Nat.blt pc 25 then (bif Nat.blt pc 15 then (bif Nat.blt pc 6 then (bif Nat.blt pc 2 then (bif Nat.blt pc 1 then (bif Nat.beq pc 0 then some (.iload_n 1, 1, 1, 0, 0) else none) else (bif Nat.beq pc 1 then some (.iconst (-1), 2, 0, 0, (-1)) else none)) else (bif Nat.blt pc 5 then (bif Nat.beq pc 2 then some (.if_icmp .eq 14, 5, 16, 0, 0) else none) else (bif Nat.beq pc 5 then some (.aload_n 0, 6, 0, 0, 0) else none))) else (bif Nat.blt pc 10 then (bif Nat.blt pc 7 then (bif Nat.beq pc 6 then some (.iload_n 1, 7, 1, 0, 0) else none) else (bif Nat.beq pc 7 then some (.invokevirtual 198, 10, 132, 1, 0) else none)) else (bif Nat.blt pc 13 then (bif Nat.beq pc 10 then some (.ifCond .ne 6, 13, 16, 0, 0) else none) else (bif Nat.beq pc 13 then some (.ldc 202, 15, 0, 0, (-1000000001)) else none)))) else (bif Nat.blt pc 19 then (bif Nat.blt pc 17 then (bif Nat.blt pc 16 then (bif Nat.beq pc 15 then some (.ireturn, 16, 0, 0, 0) else none) else (bif Nat.beq pc 16 then some (.iconst 0, 17, 0, 0, 0) else none)) else (bif Nat.blt pc 18 then (bif Nat.beq pc 17 then some (.istore_n 2, 18, 2, 0, 0) else none) else (bif Nat.beq pc 18 then some (.iconst (-1), 19, 0, 0, (-1)) else none))) else (bif Nat.blt pc 21 then (bif Nat.blt pc 20 then (bif Nat.beq pc 19 then some (.istore_n 3, 20, 3, 0, 0) else none) else (bif Nat.beq pc 20 then some (.iconst 0, 21, 0, 0, 0) else none)) else (bif Nat.blt pc 23 then (bif Nat.beq pc 21 then some (.istore 4, 23, 4, 0, 0) else none) else (bif Nat.beq pc 23 then some (.iload 4, 25, 4, 0, 0) else none))))) else (bif Nat.blt pc 42 then (bif Nat.blt pc 33 then (bif Nat.blt pc 27 then (bif Nat.blt pc 26 then (bif Nat.beq pc 25 then some (.iconst 5, 26, 0, 0, 5) else none) else (bif Nat.beq pc 26 then some (.aload_n 0, 27, 0, 0, 0) else none)) else (bif Nat.blt pc 30 then (bif Nat.beq pc 27 then some (.getfield 69, 30, 12, 8, 0) else none) else (bif Nat.beq pc 30 then some (.invokestatic 255, 33, 186, 2, 0) else none))) else (bif Nat.blt pc 37 then (bif Nat.blt pc 36 then (bif Nat.beq pc 33 then some (.if_icmp .ge 43, 36, 76, 0, 0) else none) else (bif Nat.beq pc 36 then some (.aload_n 0, 37, 0, 0, 0) else none)) else (bif Nat.blt pc 39 then (bif Nat.beq pc 37 then some (.iload 4, 39, 4, 0, 0) else none) else (bif Nat.beq pc 39 then some (.invokevirtual 258, 42, 185, 1, 0) else none)))) else (bif Nat.blt pc 50 then (bif Nat.blt pc 46 then (bif Nat.blt pc 44 then (bif Nat.beq pc 42 then some (.istore 5, 44, 5, 0, 0) else none) else (bif Nat.beq pc 44 then some (.iload 5, 46, 5, 0, 0) else none)) else (bif Nat.blt pc 47 then (bif Nat.beq pc 46 then some (.iload_n 3, 47, 3, 0, 0) else none) else (bif Nat.beq pc 47 then some (.if_icmp .le 8, 50, 55, 0, 0) else none))) else (bif Nat.blt pc 55 then (bif Nat.blt pc 52 then (bif Nat.beq pc 50 then some (.iload 4, 52, 4, 0, 0) else none) else (bif Nat.beq pc 52 then some (.goto 4, 55, 56, 0, 0) else none)) else (bif Nat.blt pc 56 then (bif Nat.beq pc 55 then some (.iload_n 2, 56, 2, 0, 0) else none) else (bif Nat.blt pc 57 then (bif Nat.beq pc 56 then some (.istore_n 2, 57, 2, 0, 0) else none) else (bif Nat.beq pc 57 then some (.iload 5, 59, 5, 0, 0) else none))))))) else (bif Nat.blt pc 86 then (bif Nat.blt pc 76 then (bif Nat.blt pc 68 then (bif Nat.blt pc 63 then (bif Nat.blt pc 60 then (bif Nat.beq pc 59 then some (.iload_n 3, 60, 3, 0, 0) else none) else (bif Nat.beq pc 60 then some (.if_icmp .le 8, 63, 68, 0, 0) else none)) else (bif Nat.blt pc 65 then (bif Nat.beq pc 63 then some (.iload 5, 65, 5, 0, 0) else none) else (bif Nat.beq pc 65 then some (.goto 4, 68, 69, 0, 0) else none))) else (bif Nat.blt pc 70 then (bif Nat.blt pc 69 then (bif Nat.beq pc 68 then some (.iload_n 3, 69, 3, 0, 0) else none) else (bif Nat.beq pc 69 then some (.istore_n 3, 70, 3, 0, 0) else none)) else (bif Nat.blt pc 73 then (bif Nat.beq pc 70 then some (.iinc 4 1, 73, 4, 0, 1) else none) else (bif Nat.beq pc 73 then some (.goto (-50), 76, 23, 0, 0) else none)))) else (bif Nat.blt pc 82 then (bif Nat.blt pc 78 then (bif Nat.blt pc 77 then (bif Nat.beq pc 76 then some (.iload_n 1, 77, 1, 0, 0) else none) else (bif Nat.beq pc 77 then some (.iconst (-1), 78, 0, 0, (-1)) else none)) else (bif Nat.blt pc 81 then (bif Nat.beq pc 78 then some (.if_icmp .ne 5, 81, 83, 0, 0) else none) else (bif Nat.beq pc 81 then some (.iload_n 3, 82, 3, 0, 0) else none))) else (bif Nat.blt pc 84 then (bif Nat.blt pc 83 then (bif Nat.beq pc 82 then some (.ireturn, 83, 0, 0, 0) else none) else (bif Nat.beq pc 83 then some (.iload_n 2, 84, 2, 0, 0) else none)) else (bif Nat.blt pc 85 then (bif Nat.beq pc 84 then some (.iconst 5, 85, 0, 0, 5) else none) else (bif Nat.beq pc 85 then some (.aload_n 0, 86, 0, 0, 0) else none))))) else (bif Nat.blt pc 98 then (bif Nat.blt pc 92 then (bif Nat.blt pc 90 then (bif Nat.blt pc 89 then (bif Nat.beq pc 86 then some (.getfield 69, 89, 12, 8, 0) else none) else (bif Nat.beq pc 89 then some (.iconst 1, 90, 0, 0, 1) else none)) else (bif Nat.blt pc 91 then (bif Nat.beq pc 90 then some (.isub, 91, 0, 0, 0) else none) else (bif Nat.beq pc 91 then some (.iload_n 1, 92, 1, 0, 0) else none))) else (bif Nat.blt pc 96 then (bif Nat.blt pc 93 then (bif Nat.beq pc 92 then some (.isub, 93, 0, 0, 0) else none) else (bif Nat.beq pc 93 then some (.invokestatic 255, 96, 186, 2, 0) else none)) else (bif Nat.blt pc 97 then (bif Nat.beq pc 96 then some (.idiv, 97, 0, 0, 0) else none) else (bif Nat.beq pc 97 then some (.iconst 5, 98, 0, 0, 5) else none)))) else (bif Nat.blt pc 104 then (bif Nat.blt pc 101 then (bif Nat.blt pc 99 then (bif Nat.beq pc 98 then some (.irem, 99, 0, 0, 0) else none) else (bif Nat.beq pc 99 then some (.istore 4, 101, 4, 0, 0) else none)) else (bif Nat.blt pc 103 then (bif Nat.beq pc 101 then some (.iload 4, 103, 4, 0, 0) else none) else (bif Nat.beq pc 103 then some (.iconst 4, 104, 0, 0, 4) else none))) else (bif Nat.blt pc 108 then (bif Nat.blt pc 107 then (bif Nat.beq pc 104 then some (.if_icmp .ne 7, 107, 111, 0, 0) else none) else (bif Nat.beq pc 107 then some (.iconst (-1), 108, 0, 0, (-1)) else none)) else (bif Nat.blt pc 111 then (bif Nat.beq pc 108 then some (.goto 5, 111, 113, 0, 0) else none) else (bif Nat.blt pc 113 then (bif Nat.beq pc 111 then some (.iload 4, 113, 4, 0, 0) else none) else (bif Nat.beq pc 113 then some (.ireturn, 114, 0, 0, 0) else none)))))))
/-- X12_layWorth -/
noncomputable def gn_c188 (pc : Nat) : Option gn_En := bif Nat.blt pc 58 then (bif Nat.blt pc 25 then (bif Nat.blt pc 11 then (bif Nat.blt pc 6 then (bif Nat.blt pc 4 then (bif Nat.blt pc 1 then (bif Nat.beq pc 0 then some (.aload_n 0, 1, 0, 0, 0) else none) else (bif Nat.beq pc 1 then some (.getfield 66, 4, 12, 34, 0) else none)) else (bif Nat.blt pc 5 then (bif Nat.beq pc 4 then some (.iconst 0, 5, 0, 0, 0) else none) else (bif Nat.beq pc 5 then some (.iconst 0, 6, 0, 0, 0) else none))) else (bif Nat.blt pc 8 then (bif Nat.blt pc 7 then (bif Nat.beq pc 6 then some (.iastore, 7, 0, 0, 0) else none) else (bif Nat.beq pc 7 then some (.iconst 1, 8, 0, 0, 1) else none)) else (bif Nat.blt pc 9 then (bif Nat.beq pc 8 then some (.istore_n 3, 9, 3, 0, 0) else none) else (bif Nat.blt pc 10 then (bif Nat.beq pc 9 then some (.iload_n 3, 10, 3, 0, 0) else none) else (bif Nat.beq pc 10 then some (.iconst 1, 11, 0, 0, 1) else none))))) else (bif Nat.blt pc 17 then (bif Nat.blt pc 15 then (bif Nat.blt pc 12 then (bif Nat.beq pc 11 then some (.aload_n 0, 12, 0, 0, 0) else none) else (bif Nat.beq pc 12 then some (.getfield 19, 15, 12, 3, 0) else none)) else (bif Nat.blt pc 16 then (bif Nat.beq pc 15 then some (.iload_n 1, 16, 1, 0, 0) else none) else (bif Nat.beq pc 16 then some (.iaload, 17, 0, 0, 0) else none))) else (bif Nat.blt pc 21 then (bif Nat.blt pc 18 then (bif Nat.beq pc 17 then some (.ishl, 18, 0, 0, 0) else none) else (bif Nat.beq pc 18 then some (.if_icmp .ge 106, 21, 124, 0, 0) else none)) else (bif Nat.blt pc 22 then (bif Nat.beq pc 21 then some (.iconst 0, 22, 0, 0, 0) else none) else (bif Nat.blt pc 24 then (bif Nat.beq pc 22 then some (.istore 4, 24, 4, 0, 0) else none) else (bif Nat.beq pc 24 then some (.iconst 0, 25, 0, 0, 0) else none)))))) else (bif Nat.blt pc 41 then (bif Nat.blt pc 32 then (bif Nat.blt pc 28 then (bif Nat.blt pc 27 then (bif Nat.beq pc 25 then some (.istore 5, 27, 5, 0, 0) else none) else (bif Nat.beq pc 27 then some (.iconst 0, 28, 0, 0, 0) else none)) else (bif Nat.blt pc 30 then (bif Nat.beq pc 28 then some (.istore 6, 30, 6, 0, 0) else none) else (bif Nat.beq pc 30 then some (.iload 6, 32, 6, 0, 0) else none))) else (bif Nat.blt pc 36 then (bif Nat.blt pc 33 then (bif Nat.beq pc 32 then some (.aload_n 0, 33, 0, 0, 0) else none) else (bif Nat.beq pc 33 then some (.getfield 19, 36, 12, 3, 0) else none)) else (bif Nat.blt pc 37 then (bif Nat.beq pc 36 then some (.iload_n 1, 37, 1, 0, 0) else none) else (bif Nat.blt pc 38 then (bif Nat.beq pc 37 then some (.iaload, 38, 0, 0, 0) else none) else (bif Nat.beq pc 38 then some (.if_icmp .ge 69, 41, 107, 0, 0) else none))))) else (bif Nat.blt pc 50 then (bif Nat.blt pc 44 then (bif Nat.blt pc 42 then (bif Nat.beq pc 41 then some (.iload_n 3, 42, 3, 0, 0) else none) else (bif Nat.beq pc 42 then some (.iload 6, 44, 6, 0, 0) else none)) else (bif Nat.blt pc 47 then (bif Nat.beq pc 44 then some (.invokestatic 166, 47, 131, 2, 0) else none) else (bif Nat.beq pc 47 then some (.ifCond .eq 54, 50, 101, 0, 0) else none))) else (bif Nat.blt pc 54 then (bif Nat.blt pc 53 then (bif Nat.beq pc 50 then some (.sipush 1000, 53, 0, 0, 1000) else none) else (bif Nat.beq pc 53 then some (.aload_n 0, 54, 0, 0, 0) else none)) else (bif Nat.blt pc 55 then (bif Nat.beq pc 54 then some (.iload_n 1, 55, 1, 0, 0) else none) else (bif Nat.blt pc 56 then (bif Nat.beq pc 55 then some (.iload_n 2, 56, 2, 0, 0) else none) else (bif Nat.beq pc 56 then some (.iload 6, 58, 6, 0, 0) else none))))))) else (bif Nat.blt pc 88 then (bif Nat.blt pc 73 then (bif Nat.blt pc 65 then (bif Nat.blt pc 62 then (bif Nat.blt pc 61 then (bif Nat.beq pc 58 then some (.invokevirtual 170, 61, 150, 3, 0) else none) else (bif Nat.beq pc 61 then some (.imul, 62, 0, 0, 0) else none)) else (bif Nat.blt pc 64 then (bif Nat.beq pc 62 then some (.istore 7, 64, 7, 0, 0) else none) else (bif Nat.beq pc 64 then some (.aload_n 0, 65, 0, 0, 0) else none))) else (bif Nat.blt pc 69 then (bif Nat.blt pc 68 then (bif Nat.beq pc 65 then some (.getfield 66, 68, 12, 34, 0) else none) else (bif Nat.beq pc 68 then some (.iload_n 3, 69, 3, 0, 0) else none)) else (bif Nat.blt pc 70 then (bif Nat.beq pc 69 then some (.iconst 1, 70, 0, 0, 1) else none) else (bif Nat.blt pc 72 then (bif Nat.beq pc 70 then some (.iload 6, 72, 6, 0, 0) else none) else (bif Nat.beq pc 72 then some (.ishl, 73, 0, 0, 0) else none))))) else (bif Nat.blt pc 77 then (bif Nat.blt pc 75 then (bif Nat.blt pc 74 then (bif Nat.beq pc 73 then some (.iconst (-1), 74, 0, 0, (-1)) else none) else (bif Nat.beq pc 74 then some (.ixor, 75, 0, 0, 0) else none)) else (bif Nat.blt pc 76 then (bif Nat.beq pc 75 then some (.iand, 76, 0, 0, 0) else none) else (bif Nat.beq pc 76 then some (.iaload, 77, 0, 0, 0) else none))) else (bif Nat.blt pc 81 then (bif Nat.blt pc 79 then (bif Nat.beq pc 77 then some (.istore 8, 79, 8, 0, 0) else none) else (bif Nat.beq pc 79 then some (.iload 4, 81, 4, 0, 0) else none)) else (bif Nat.blt pc 83 then (bif Nat.beq pc 81 then some (.iload 7, 83, 7, 0, 0) else none) else (bif Nat.blt pc 85 then (bif Nat.beq pc 83 then some (.iload 8, 85, 8, 0, 0) else none) else (bif Nat.beq pc 85 then some (.if_icmp .le 8, 88, 93, 0, 0) else none)))))) else (bif Nat.blt pc 108 then (bif Nat.blt pc 96 then (bif Nat.blt pc 93 then (bif Nat.blt pc 90 then (bif Nat.beq pc 88 then some (.iload 7, 90, 7, 0, 0) else none) else (bif Nat.beq pc 90 then some (.goto 5, 93, 95, 0, 0) else none)) else (bif Nat.blt pc 95 then (bif Nat.beq pc 93 then some (.iload 8, 95, 8, 0, 0) else none) else (bif Nat.beq pc 95 then some (.iadd, 96, 0, 0, 0) else none))) else (bif Nat.blt pc 101 then (bif Nat.blt pc 98 then (bif Nat.beq pc 96 then some (.istore 4, 98, 4, 0, 0) else none) else (bif Nat.beq pc 98 then some (.iinc 5 1, 101, 5, 0, 1) else none)) else (bif Nat.blt pc 104 then (bif Nat.beq pc 101 then some (.iinc 6 1, 104, 6, 0, 1) else none) else (bif Nat.blt pc 107 then (bif Nat.beq pc 104 then some (.goto (-74), 107, 30, 0, 0) else none) else (bif Nat.beq pc 107 then some (.aload_n 0, 108, 0, 0, 0) else none))))) else (bif Nat.blt pc 116 then (bif Nat.blt pc 112 then (bif Nat.blt pc 111 then (bif Nat.beq pc 108 then some (.getfield 66, 111, 12, 34, 0) else none) else (bif Nat.beq pc 111 then some (.iload_n 3, 112, 3, 0, 0) else none)) else (bif Nat.blt pc 114 then (bif Nat.beq pc 112 then some (.iload 4, 114, 4, 0, 0) else none) else (bif Nat.beq pc 114 then some (.iload 5, 116, 5, 0, 0) else none))) else (bif Nat.blt pc 118 then (bif Nat.blt pc 117 then (bif Nat.beq pc 116 then some (.idiv, 117, 0, 0, 0) else none) else (bif Nat.beq pc 117 then some (.iastore, 118, 0, 0, 0) else none)) else (bif Nat.blt pc 121 then (bif Nat.beq pc 118 then some (.iinc 3 1, 121, 3, 0, 1) else none) else (bif Nat.blt pc 124 then (bif Nat.beq pc 121 then some (.goto (-112), 124, 9, 0, 0) else none) else (bif Nat.beq pc 124 then some (.return_, 125, 0, 0, 0) else none)))))))
/-- X12_notSaid -/
noncomputable def gn_c189 (pc : Nat) : Option gn_En := bif Nat.blt pc 12 then (bif Nat.blt pc 7 then (bif Nat.blt pc 2 then (bif Nat.blt pc 1 then (bif Nat.beq pc 0 then some (.iconst 1, 1, 0, 0, 1) else none) else (bif Nat.beq pc 1 then some (.aload_n 0, 2, 0, 0, 0) else none)) else (bif Nat.blt pc 5 then (bif Nat.beq pc 2 then some (.getfield 19, 5, 12, 3, 0) else none) else (bif Nat.blt pc 6 then (bif Nat.beq pc 5 then some (.iload_n 1, 6, 1, 0, 0) else none) else (bif Nat.beq pc 6 then some (.iaload, 7, 0, 0, 0) else none)))) else (bif Nat.blt pc 9 then (bif Nat.blt pc 8 then (bif Nat.beq pc 7 then some (.ishl, 8, 0, 0, 0) else none) else (bif Nat.beq pc 8 then some (.iconst 1, 9, 0, 0, 1) else none)) else (bif Nat.blt pc 10 then (bif Nat.beq pc 9 then some (.isub, 10, 0, 0, 0) else none) else (bif Nat.blt pc 11 then (bif Nat.beq pc 10 then some (.iconst 1, 11, 0, 0, 1) else none) else (bif Nat.beq pc 11 then some (.aload_n 0, 12, 0, 0, 0) else none))))) else (bif Nat.blt pc 19 then (bif Nat.blt pc 16 then (bif Nat.blt pc 15 then (bif Nat.beq pc 12 then some (.getfield 7, 15, 12, 0, 0) else none) else (bif Nat.beq pc 15 then some (.iload_n 1, 16, 1, 0, 0) else none)) else (bif Nat.blt pc 17 then (bif Nat.beq pc 16 then some (.iaload, 17, 0, 0, 0) else none) else (bif Nat.blt pc 18 then (bif Nat.beq pc 17 then some (.ishl, 18, 0, 0, 0) else none) else (bif Nat.beq pc 18 then some (.iconst 1, 19, 0, 0, 1) else none)))) else (bif Nat.blt pc 21 then (bif Nat.blt pc 20 then (bif Nat.beq pc 19 then some (.isub, 20, 0, 0, 0) else none) else (bif Nat.beq pc 20 then some (.iconst (-1), 21, 0, 0, (-1)) else none)) else (bif Nat.blt pc 22 then (bif Nat.beq pc 21 then some (.ixor, 22, 0, 0, 0) else none) else (bif Nat.blt pc 23 then (bif Nat.beq pc 22 then some (.iand, 23, 0, 0, 0) else none) else (bif Nat.beq pc 23 then some (.ireturn, 24, 0, 0, 0) else none)))))
/-- X12_line -/
noncomputable def gn_c190 (pc : Nat) : Option gn_En := bif Nat.blt pc 19 then (bif Nat.blt pc 9 then (bif Nat.blt pc 2 then (bif Nat.blt pc 1 then (bif Nat.beq pc 0 then some (.aload_n 0, 1, 0, 0, 0) else none) else (bif Nat.beq pc 1 then some (.iload_n 1, 2, 1, 0, 0) else none)) else (bif Nat.blt pc 5 then (bif Nat.beq pc 2 then some (.invokevirtual 198, 5, 132, 1, 0) else none) else (bif Nat.blt pc 8 then (bif Nat.beq pc 5 then some (.ifCond .eq 11, 8, 16, 0, 0) else none) else (bif Nat.beq pc 8 then some (.aload_n 0, 9, 0, 0, 0) else none)))) else (bif Nat.blt pc 13 then (bif Nat.blt pc 10 then (bif Nat.beq pc 9 then some (.iload_n 2, 10, 2, 0, 0) else none) else (bif Nat.beq pc 10 then some (.invokevirtual 203, 13, 133, 1, 0) else none)) else (bif Nat.blt pc 16 then (bif Nat.beq pc 13 then some (.ifCond .ne 6, 16, 19, 0, 0) else none) else (bif Nat.blt pc 18 then (bif Nat.beq pc 16 then some (.ldc 202, 18, 0, 0, (-1000000001)) else none) else (bif Nat.beq pc 18 then some (.ireturn, 19, 0, 0, 0) else none))))) else (bif Nat.blt pc 26 then (bif Nat.blt pc 21 then (bif Nat.blt pc 20 then (bif Nat.beq pc 19 then some (.aload_n 0, 20, 0, 0, 0) else none) else (bif Nat.beq pc 20 then some (.iload_n 1, 21, 1, 0, 0) else none)) else (bif Nat.blt pc 22 then (bif Nat.beq pc 21 then some (.iload_n 2, 22, 2, 0, 0) else none) else (bif Nat.blt pc 25 then (bif Nat.beq pc 22 then some (.invokevirtual 261, 25, 188, 2, 0) else none) else (bif Nat.beq pc 25 then some (.aload_n 0, 26, 0, 0, 0) else none)))) else (bif Nat.blt pc 31 then (bif Nat.blt pc 29 then (bif Nat.beq pc 26 then some (.getfield 66, 29, 12, 34, 0) else none) else (bif Nat.blt pc 30 then (bif Nat.beq pc 29 then some (.aload_n 0, 30, 0, 0, 0) else none) else (bif Nat.beq pc 30 then some (.iload_n 1, 31, 1, 0, 0) else none))) else (bif Nat.blt pc 34 then (bif Nat.beq pc 31 then some (.invokevirtual 264, 34, 189, 1, 0) else none) else (bif Nat.blt pc 35 then (bif Nat.beq pc 34 then some (.iaload, 35, 0, 0, 0) else none) else (bif Nat.beq pc 35 then some (.ireturn, 36, 0, 0, 0) else none)))))
/-- X12_now -/
noncomputable def gn_c191 (pc : Nat) : Option gn_En := bif Nat.blt pc 47 then (bif Nat.blt pc 22 then (bif Nat.blt pc 10 then (bif Nat.blt pc 5 then (bif Nat.blt pc 1 then (bif Nat.beq pc 0 then some (.aload_n 0, 1, 0, 0, 0) else none) else (bif Nat.blt pc 2 then (bif Nat.beq pc 1 then some (.iload_n 1, 2, 1, 0, 0) else none) else (bif Nat.beq pc 2 then some (.invokevirtual 198, 5, 132, 1, 0) else none))) else (bif Nat.blt pc 8 then (bif Nat.beq pc 5 then some (.ifCond .eq 11, 8, 16, 0, 0) else none) else (bif Nat.blt pc 9 then (bif Nat.beq pc 8 then some (.aload_n 0, 9, 0, 0, 0) else none) else (bif Nat.beq pc 9 then some (.iload_n 2, 10, 2, 0, 0) else none)))) else (bif Nat.blt pc 18 then (bif Nat.blt pc 13 then (bif Nat.beq pc 10 then some (.invokevirtual 203, 13, 133, 1, 0) else none) else (bif Nat.blt pc 16 then (bif Nat.beq pc 13 then some (.ifCond .ne 6, 16, 19, 0, 0) else none) else (bif Nat.beq pc 16 then some (.ldc 202, 18, 0, 0, (-1000000001)) else none))) else (bif Nat.blt pc 20 then (bif Nat.blt pc 19 then (bif Nat.beq pc 18 then some (.ireturn, 19, 0, 0, 0) else none) else (bif Nat.beq pc 19 then some (.iload_n 3, 20, 3, 0, 0) else none)) else (bif Nat.blt pc 21 then (bif Nat.beq pc 20 then some (.iconst 0, 21, 0, 0, 0) else none) else (bif Nat.beq pc 21 then some (.iconst 5, 22, 0, 0, 5) else none))))) else (bif Nat.blt pc 33 then (bif Nat.blt pc 30 then (bif Nat.blt pc 25 then (bif Nat.beq pc 22 then some (.invokestatic 72, 25, 130, 3, 0) else none) else (bif Nat.blt pc 28 then (bif Nat.beq pc 25 then some (.ifCond .ne 6, 28, 31, 0, 0) else none) else (bif Nat.beq pc 28 then some (.ldc 79, 30, 0, 0, (-1000000002)) else none))) else (bif Nat.blt pc 31 then (bif Nat.beq pc 30 then some (.ireturn, 31, 0, 0, 0) else none) else (bif Nat.blt pc 32 then (bif Nat.beq pc 31 then some (.aload_n 0, 32, 0, 0, 0) else none) else (bif Nat.beq pc 32 then some (.iload_n 1, 33, 1, 0, 0) else none)))) else (bif Nat.blt pc 40 then (bif Nat.blt pc 36 then (bif Nat.beq pc 33 then some (.invokevirtual 264, 36, 189, 1, 0) else none) else (bif Nat.blt pc 37 then (bif Nat.beq pc 36 then some (.iload_n 3, 37, 3, 0, 0) else none) else (bif Nat.beq pc 37 then some (.invokestatic 166, 40, 131, 2, 0) else none))) else (bif Nat.blt pc 45 then (bif Nat.blt pc 43 then (bif Nat.beq pc 40 then some (.ifCond .ne 6, 43, 46, 0, 0) else none) else (bif Nat.beq pc 43 then some (.ldc 209, 45, 0, 0, (-1000000003)) else none)) else (bif Nat.blt pc 46 then (bif Nat.beq pc 45 then some (.ireturn, 46, 0, 0, 0) else none) else (bif Nat.beq pc 46 then some (.aload_n 0, 47, 0, 0, 0) else none)))))) else (bif Nat.blt pc 68 then (bif Nat.blt pc 57 then (bif Nat.blt pc 52 then (bif Nat.blt pc 48 then (bif Nat.beq pc 47 then some (.iload_n 1, 48, 1, 0, 0) else none) else (bif Nat.blt pc 49 then (bif Nat.beq pc 48 then some (.iload_n 2, 49, 2, 0, 0) else none) else (bif Nat.beq pc 49 then some (.invokevirtual 261, 52, 188, 2, 0) else none))) else (bif Nat.blt pc 55 then (bif Nat.beq pc 52 then some (.sipush 1000, 55, 0, 0, 1000) else none) else (bif Nat.blt pc 56 then (bif Nat.beq pc 55 then some (.aload_n 0, 56, 0, 0, 0) else none) else (bif Nat.beq pc 56 then some (.iload_n 1, 57, 1, 0, 0) else none)))) else (bif Nat.blt pc 62 then (bif Nat.blt pc 58 then (bif Nat.beq pc 57 then some (.iload_n 2, 58, 2, 0, 0) else none) else (bif Nat.blt pc 59 then (bif Nat.beq pc 58 then some (.iload_n 3, 59, 3, 0, 0) else none) else (bif Nat.beq pc 59 then some (.invokevirtual 170, 62, 150, 3, 0) else none))) else (bif Nat.blt pc 64 then (bif Nat.blt pc 63 then (bif Nat.beq pc 62 then some (.imul, 63, 0, 0, 0) else none) else (bif Nat.beq pc 63 then some (.aload_n 0, 64, 0, 0, 0) else none)) else (bif Nat.blt pc 67 then (bif Nat.beq pc 64 then some (.getfield 66, 67, 12, 34, 0) else none) else (bif Nat.beq pc 67 then some (.aload_n 0, 68, 0, 0, 0) else none))))) else (bif Nat.blt pc 77 then (bif Nat.blt pc 73 then (bif Nat.blt pc 69 then (bif Nat.beq pc 68 then some (.iload_n 1, 69, 1, 0, 0) else none) else (bif Nat.blt pc 72 then (bif Nat.beq pc 69 then some (.invokevirtual 264, 72, 189, 1, 0) else none) else (bif Nat.beq pc 72 then some (.iconst 1, 73, 0, 0, 1) else none))) else (bif Nat.blt pc 75 then (bif Nat.blt pc 74 then (bif Nat.beq pc 73 then some (.iload_n 3, 74, 3, 0, 0) else none) else (bif Nat.beq pc 74 then some (.ishl, 75, 0, 0, 0) else none)) else (bif Nat.blt pc 76 then (bif Nat.beq pc 75 then some (.iconst (-1), 76, 0, 0, (-1)) else none) else (bif Nat.beq pc 76 then some (.ixor, 77, 0, 0, 0) else none)))) else (bif Nat.blt pc 82 then (bif Nat.blt pc 78 then (bif Nat.beq pc 77 then some (.iand, 78, 0, 0, 0) else none) else (bif Nat.blt pc 79 then (bif Nat.beq pc 78 then some (.iaload, 79, 0, 0, 0) else none) else (bif Nat.beq pc 79 then some (.if_icmp .lt 7, 82, 86, 0, 0) else none))) else (bif Nat.blt pc 86 then (bif Nat.blt pc 83 then (bif Nat.beq pc 82 then some (.iconst 1, 83, 0, 0, 1) else none) else (bif Nat.beq pc 83 then some (.goto 4, 86, 87, 0, 0) else none)) else (bif Nat.blt pc 87 then (bif Nat.beq pc 86 then some (.iconst 0, 87, 0, 0, 0) else none) else (bif Nat.beq pc 87 then some (.ireturn, 88, 0, 0, 0) else none))))))
/-- X12_agree -/
noncomputable def gn_c192 (pc : Nat) : Option gn_En := bif Nat.blt pc 18 then (bif Nat.blt pc 9 then (bif Nat.blt pc 2 then (bif Nat.blt pc 1 then (bif Nat.beq pc 0 then some (.aload_n 0, 1, 0, 0, 0) else none) else (bif Nat.beq pc 1 then some (.iload_n 1, 2, 1, 0, 0) else none)) else (bif Nat.blt pc 5 then (bif Nat.beq pc 2 then some (.invokevirtual 198, 5, 132, 1, 0) else none) else (bif Nat.blt pc 8 then (bif Nat.beq pc 5 then some (.ifCond .eq 16, 8, 21, 0, 0) else none) else (bif Nat.beq pc 8 then some (.aload_n 0, 9, 0, 0, 0) else none)))) else (bif Nat.blt pc 13 then (bif Nat.blt pc 10 then (bif Nat.beq pc 9 then some (.iload_n 2, 10, 2, 0, 0) else none) else (bif Nat.beq pc 10 then some (.invokevirtual 198, 13, 132, 1, 0) else none)) else (bif Nat.blt pc 16 then (bif Nat.beq pc 13 then some (.ifCond .eq 8, 16, 21, 0, 0) else none) else (bif Nat.blt pc 17 then (bif Nat.beq pc 16 then some (.iload_n 1, 17, 1, 0, 0) else none) else (bif Nat.beq pc 17 then some (.iload_n 2, 18, 2, 0, 0) else none))))) else (bif Nat.blt pc 26 then (bif Nat.blt pc 23 then (bif Nat.blt pc 21 then (bif Nat.beq pc 18 then some (.if_icmp .ne 6, 21, 24, 0, 0) else none) else (bif Nat.beq pc 21 then some (.ldc 202, 23, 0, 0, (-1000000001)) else none)) else (bif Nat.blt pc 24 then (bif Nat.beq pc 23 then some (.ireturn, 24, 0, 0, 0) else none) else (bif Nat.blt pc 25 then (bif Nat.beq pc 24 then some (.aload_n 0, 25, 0, 0, 0) else none) else (bif Nat.beq pc 25 then some (.iload_n 1, 26, 1, 0, 0) else none)))) else (bif Nat.blt pc 31 then (bif Nat.blt pc 29 then (bif Nat.beq pc 26 then some (.invokevirtual 177, 29, 155, 1, 0) else none) else (bif Nat.blt pc 30 then (bif Nat.beq pc 29 then some (.aload_n 0, 30, 0, 0, 0) else none) else (bif Nat.beq pc 30 then some (.iload_n 2, 31, 2, 0, 0) else none))) else (bif Nat.blt pc 34 then (bif Nat.beq pc 31 then some (.invokevirtual 177, 34, 155, 1, 0) else none) else (bif Nat.blt pc 35 then (bif Nat.beq pc 34 then some (.iand, 35, 0, 0, 0) else none) else (bif Nat.beq pc 35 then some (.ireturn, 36, 0, 0, 0) else none)))))
/-- X12_boldest -/
noncomputable def gn_c193 (pc : Nat) : Option gn_En := bif Nat.blt pc 44 then (bif Nat.blt pc 18 then (bif Nat.blt pc 12 then (bif Nat.blt pc 4 then (bif Nat.blt pc 1 then (bif Nat.beq pc 0 then some (.iload_n 1, 1, 1, 0, 0) else none) else (bif Nat.blt pc 2 then (bif Nat.beq pc 1 then some (.iconst 0, 2, 0, 0, 0) else none) else (bif Nat.beq pc 2 then some (.bipush 7, 4, 0, 0, 7) else none))) else (bif Nat.blt pc 7 then (bif Nat.beq pc 4 then some (.invokestatic 72, 7, 130, 3, 0) else none) else (bif Nat.blt pc 10 then (bif Nat.beq pc 7 then some (.ifCond .ne 6, 10, 13, 0, 0) else none) else (bif Nat.beq pc 10 then some (.ldc 79, 12, 0, 0, (-1000000002)) else none)))) else (bif Nat.blt pc 15 then (bif Nat.blt pc 13 then (bif Nat.beq pc 12 then some (.ireturn, 13, 0, 0, 0) else none) else (bif Nat.blt pc 14 then (bif Nat.beq pc 13 then some (.iconst (-1), 14, 0, 0, (-1)) else none) else (bif Nat.beq pc 14 then some (.istore_n 2, 15, 2, 0, 0) else none))) else (bif Nat.blt pc 16 then (bif Nat.beq pc 15 then some (.iconst (-1), 16, 0, 0, (-1)) else none) else (bif Nat.blt pc 17 then (bif Nat.beq pc 16 then some (.istore_n 3, 17, 3, 0, 0) else none) else (bif Nat.beq pc 17 then some (.iconst 0, 18, 0, 0, 0) else none))))) else (bif Nat.blt pc 30 then (bif Nat.blt pc 23 then (bif Nat.blt pc 20 then (bif Nat.beq pc 18 then some (.istore 4, 20, 4, 0, 0) else none) else (bif Nat.blt pc 22 then (bif Nat.beq pc 20 then some (.iload 4, 22, 4, 0, 0) else none) else (bif Nat.beq pc 22 then some (.aload_n 0, 23, 0, 0, 0) else none))) else (bif Nat.blt pc 26 then (bif Nat.beq pc 23 then some (.getfield 69, 26, 12, 8, 0) else none) else (bif Nat.blt pc 29 then (bif Nat.beq pc 26 then some (.if_icmp .ge 66, 29, 92, 0, 0) else none) else (bif Nat.beq pc 29 then some (.iconst 0, 30, 0, 0, 0) else none)))) else (bif Nat.blt pc 35 then (bif Nat.blt pc 32 then (bif Nat.beq pc 30 then some (.istore 5, 32, 5, 0, 0) else none) else (bif Nat.blt pc 34 then (bif Nat.beq pc 32 then some (.iload 5, 34, 5, 0, 0) else none) else (bif Nat.beq pc 34 then some (.aload_n 0, 35, 0, 0, 0) else none))) else (bif Nat.blt pc 40 then (bif Nat.blt pc 38 then (bif Nat.beq pc 35 then some (.getfield 19, 38, 12, 3, 0) else none) else (bif Nat.beq pc 38 then some (.iload 4, 40, 4, 0, 0) else none)) else (bif Nat.blt pc 41 then (bif Nat.beq pc 40 then some (.iaload, 41, 0, 0, 0) else none) else (bif Nat.beq pc 41 then some (.if_icmp .ge 45, 44, 86, 0, 0) else none)))))) else (bif Nat.blt pc 68 then (bif Nat.blt pc 56 then (bif Nat.blt pc 49 then (bif Nat.blt pc 45 then (bif Nat.beq pc 44 then some (.aload_n 0, 45, 0, 0, 0) else none) else (bif Nat.blt pc 47 then (bif Nat.beq pc 45 then some (.iload 4, 47, 4, 0, 0) else none) else (bif Nat.beq pc 47 then some (.iload 5, 49, 5, 0, 0) else none))) else (bif Nat.blt pc 52 then (bif Nat.beq pc 49 then some (.invokevirtual 163, 52, 148, 2, 0) else none) else (bif Nat.blt pc 53 then (bif Nat.beq pc 52 then some (.iload_n 1, 53, 1, 0, 0) else none) else (bif Nat.beq pc 53 then some (.if_icmp .ne 27, 56, 80, 0, 0) else none)))) else (bif Nat.blt pc 61 then (bif Nat.blt pc 57 then (bif Nat.beq pc 56 then some (.aload_n 0, 57, 0, 0, 0) else none) else (bif Nat.blt pc 59 then (bif Nat.beq pc 57 then some (.iload 4, 59, 4, 0, 0) else none) else (bif Nat.beq pc 59 then some (.iload 5, 61, 5, 0, 0) else none))) else (bif Nat.blt pc 64 then (bif Nat.beq pc 61 then some (.invokevirtual 159, 64, 149, 2, 0) else none) else (bif Nat.blt pc 65 then (bif Nat.beq pc 64 then some (.iload_n 3, 65, 3, 0, 0) else none) else (bif Nat.beq pc 65 then some (.if_icmp .le 15, 68, 80, 0, 0) else none))))) else (bif Nat.blt pc 79 then (bif Nat.blt pc 72 then (bif Nat.blt pc 70 then (bif Nat.beq pc 68 then some (.iload 4, 70, 4, 0, 0) else none) else (bif Nat.blt pc 71 then (bif Nat.beq pc 70 then some (.istore_n 2, 71, 2, 0, 0) else none) else (bif Nat.beq pc 71 then some (.aload_n 0, 72, 0, 0, 0) else none))) else (bif Nat.blt pc 74 then (bif Nat.beq pc 72 then some (.iload 4, 74, 4, 0, 0) else none) else (bif Nat.blt pc 76 then (bif Nat.beq pc 74 then some (.iload 5, 76, 5, 0, 0) else none) else (bif Nat.beq pc 76 then some (.invokevirtual 159, 79, 149, 2, 0) else none)))) else (bif Nat.blt pc 86 then (bif Nat.blt pc 80 then (bif Nat.beq pc 79 then some (.istore_n 3, 80, 3, 0, 0) else none) else (bif Nat.blt pc 83 then (bif Nat.beq pc 80 then some (.iinc 5 1, 83, 5, 0, 1) else none) else (bif Nat.beq pc 83 then some (.goto (-51), 86, 32, 0, 0) else none))) else (bif Nat.blt pc 92 then (bif Nat.blt pc 89 then (bif Nat.beq pc 86 then some (.iinc 4 1, 89, 4, 0, 1) else none) else (bif Nat.beq pc 89 then some (.goto (-69), 92, 20, 0, 0) else none)) else (bif Nat.blt pc 93 then (bif Nat.beq pc 92 then some (.iload_n 2, 93, 2, 0, 0) else none) else (bif Nat.beq pc 93 then some (.ireturn, 94, 0, 0, 0) else none))))))
/-- X12_dry -/
noncomputable def gn_c194 (pc : Nat) : Option gn_En := bif Nat.blt pc 28 then (bif Nat.blt pc 12 then (bif Nat.blt pc 4 then (bif Nat.blt pc 1 then (bif Nat.beq pc 0 then some (.iload_n 1, 1, 1, 0, 0) else none) else (bif Nat.blt pc 2 then (bif Nat.beq pc 1 then some (.iconst 0, 2, 0, 0, 0) else none) else (bif Nat.beq pc 2 then some (.bipush 60, 4, 0, 0, 60) else none))) else (bif Nat.blt pc 10 then (bif Nat.blt pc 7 then (bif Nat.beq pc 4 then some (.invokestatic 72, 7, 130, 3, 0) else none) else (bif Nat.beq pc 7 then some (.ifCond .eq 13, 10, 20, 0, 0) else none)) else (bif Nat.blt pc 11 then (bif Nat.beq pc 10 then some (.iload_n 2, 11, 2, 0, 0) else none) else (bif Nat.beq pc 11 then some (.iconst 0, 12, 0, 0, 0) else none)))) else (bif Nat.blt pc 22 then (bif Nat.blt pc 17 then (bif Nat.blt pc 14 then (bif Nat.beq pc 12 then some (.bipush 100, 14, 0, 0, 100) else none) else (bif Nat.beq pc 14 then some (.invokestatic 72, 17, 130, 3, 0) else none)) else (bif Nat.blt pc 20 then (bif Nat.beq pc 17 then some (.ifCond .ne 6, 20, 23, 0, 0) else none) else (bif Nat.beq pc 20 then some (.ldc 79, 22, 0, 0, (-1000000002)) else none))) else (bif Nat.blt pc 26 then (bif Nat.blt pc 23 then (bif Nat.beq pc 22 then some (.ireturn, 23, 0, 0, 0) else none) else (bif Nat.beq pc 23 then some (.ldc2_w 267, 26, 0, 1000000000, 0) else none)) else (bif Nat.blt pc 27 then (bif Nat.beq pc 26 then some (.lstore_n 3, 27, 3, 0, 0) else none) else (bif Nat.beq pc 27 then some (.iconst 0, 28, 0, 0, 0) else none))))) else (bif Nat.blt pc 40 then (bif Nat.blt pc 36 then (bif Nat.blt pc 32 then (bif Nat.blt pc 30 then (bif Nat.beq pc 28 then some (.istore 5, 30, 5, 0, 0) else none) else (bif Nat.beq pc 30 then some (.iload 5, 32, 5, 0, 0) else none)) else (bif Nat.blt pc 33 then (bif Nat.beq pc 32 then some (.iload_n 1, 33, 1, 0, 0) else none) else (bif Nat.beq pc 33 then some (.if_icmp .ge 18, 36, 51, 0, 0) else none))) else (bif Nat.blt pc 38 then (bif Nat.blt pc 37 then (bif Nat.beq pc 36 then some (.lload_n 3, 37, 3, 0, 0) else none) else (bif Nat.beq pc 37 then some (.iload_n 2, 38, 2, 0, 0) else none)) else (bif Nat.blt pc 39 then (bif Nat.beq pc 38 then some (.i2l, 39, 0, 0, 0) else none) else (bif Nat.beq pc 39 then some (.lmul, 40, 0, 0, 0) else none)))) else (bif Nat.blt pc 48 then (bif Nat.blt pc 44 then (bif Nat.blt pc 43 then (bif Nat.beq pc 40 then some (.ldc2_w 269, 43, 0, 100, 0) else none) else (bif Nat.beq pc 43 then some (.ldiv, 44, 0, 0, 0) else none)) else (bif Nat.blt pc 45 then (bif Nat.beq pc 44 then some (.lstore_n 3, 45, 3, 0, 0) else none) else (bif Nat.beq pc 45 then some (.iinc 5 1, 48, 5, 0, 1) else none))) else (bif Nat.blt pc 52 then (bif Nat.blt pc 51 then (bif Nat.beq pc 48 then some (.goto (-18), 51, 30, 0, 0) else none) else (bif Nat.beq pc 51 then some (.lload_n 3, 52, 3, 0, 0) else none)) else (bif Nat.blt pc 53 then (bif Nat.beq pc 52 then some (.l2i, 53, 0, 0, 0) else none) else (bif Nat.beq pc 53 then some (.ireturn, 54, 0, 0, 0) else none)))))
/-- X12_hear -/
noncomputable def gn_c195 (pc : Nat) : Option gn_En := bif Nat.blt pc 33 then (bif Nat.blt pc 14 then (bif Nat.blt pc 7 then (bif Nat.blt pc 2 then (bif Nat.blt pc 1 then (bif Nat.beq pc 0 then some (.iload_n 1, 1, 1, 0, 0) else none) else (bif Nat.beq pc 1 then some (.iconst 0, 2, 0, 0, 0) else none)) else (bif Nat.blt pc 4 then (bif Nat.beq pc 2 then some (.bipush 7, 4, 0, 0, 7) else none) else (bif Nat.beq pc 4 then some (.invokestatic 72, 7, 130, 3, 0) else none))) else (bif Nat.blt pc 12 then (bif Nat.blt pc 10 then (bif Nat.beq pc 7 then some (.ifCond .ne 6, 10, 13, 0, 0) else none) else (bif Nat.beq pc 10 then some (.ldc 79, 12, 0, 0, (-1000000002)) else none)) else (bif Nat.blt pc 13 then (bif Nat.beq pc 12 then some (.ireturn, 13, 0, 0, 0) else none) else (bif Nat.beq pc 13 then some (.aload_n 0, 14, 0, 0, 0) else none)))) else (bif Nat.blt pc 24 then (bif Nat.blt pc 19 then (bif Nat.blt pc 17 then (bif Nat.beq pc 14 then some (.getfield 153, 17, 12, 17, 0) else none) else (bif Nat.beq pc 17 then some (.bipush 6, 19, 0, 0, 6) else none)) else (bif Nat.blt pc 22 then (bif Nat.beq pc 19 then some (.if_icmp .ne 6, 22, 25, 0, 0) else none) else (bif Nat.beq pc 22 then some (.ldc 83, 24, 0, 0, (-1000000004)) else none))) else (bif Nat.blt pc 26 then (bif Nat.blt pc 25 then (bif Nat.beq pc 24 then some (.ireturn, 25, 0, 0, 0) else none) else (bif Nat.beq pc 25 then some (.aload_n 0, 26, 0, 0, 0) else none)) else (bif Nat.blt pc 29 then (bif Nat.beq pc 26 then some (.getfield 35, 29, 12, 15, 0) else none) else (bif Nat.blt pc 30 then (bif Nat.beq pc 29 then some (.aload_n 0, 30, 0, 0, 0) else none) else (bif Nat.beq pc 30 then some (.getfield 153, 33, 12, 17, 0) else none)))))) else (bif Nat.blt pc 45 then (bif Nat.blt pc 39 then (bif Nat.blt pc 35 then (bif Nat.blt pc 34 then (bif Nat.beq pc 33 then some (.iload_n 1, 34, 1, 0, 0) else none) else (bif Nat.beq pc 34 then some (.iastore, 35, 0, 0, 0) else none)) else (bif Nat.blt pc 36 then (bif Nat.beq pc 35 then some (.aload_n 0, 36, 0, 0, 0) else none) else (bif Nat.beq pc 36 then some (.getfield 38, 39, 12, 16, 0) else none))) else (bif Nat.blt pc 43 then (bif Nat.blt pc 40 then (bif Nat.beq pc 39 then some (.aload_n 0, 40, 0, 0, 0) else none) else (bif Nat.beq pc 40 then some (.getfield 153, 43, 12, 17, 0) else none)) else (bif Nat.blt pc 44 then (bif Nat.beq pc 43 then some (.iload_n 2, 44, 2, 0, 0) else none) else (bif Nat.beq pc 44 then some (.bastore, 45, 0, 0, 0) else none)))) else (bif Nat.blt pc 51 then (bif Nat.blt pc 47 then (bif Nat.blt pc 46 then (bif Nat.beq pc 45 then some (.aload_n 0, 46, 0, 0, 0) else none) else (bif Nat.beq pc 46 then some (.dup, 47, 0, 0, 0) else none)) else (bif Nat.blt pc 50 then (bif Nat.beq pc 47 then some (.getfield 153, 50, 12, 17, 0) else none) else (bif Nat.beq pc 50 then some (.iconst 1, 51, 0, 0, 1) else none))) else (bif Nat.blt pc 55 then (bif Nat.blt pc 52 then (bif Nat.beq pc 51 then some (.iadd, 52, 0, 0, 0) else none) else (bif Nat.beq pc 52 then some (.putfield 153, 55, 12, 17, 0) else none)) else (bif Nat.blt pc 56 then (bif Nat.beq pc 55 then some (.aload_n 0, 56, 0, 0, 0) else none) else (bif Nat.blt pc 59 then (bif Nat.beq pc 56 then some (.getfield 153, 59, 12, 17, 0) else none) else (bif Nat.beq pc 59 then some (.ireturn, 60, 0, 0, 0) else none))))))
/-- X12_couldBe -/
noncomputable def gn_c196 (pc : Nat) : Option gn_En := bif Nat.blt pc 42 then (bif Nat.blt pc 17 then (bif Nat.blt pc 6 then (bif Nat.blt pc 3 then (bif Nat.blt pc 1 then (bif Nat.beq pc 0 then some (.iconst 0, 1, 0, 0, 0) else none) else (bif Nat.blt pc 2 then (bif Nat.beq pc 1 then some (.istore_n 1, 2, 1, 0, 0) else none) else (bif Nat.beq pc 2 then some (.iconst 0, 3, 0, 0, 0) else none))) else (bif Nat.blt pc 4 then (bif Nat.beq pc 3 then some (.istore_n 2, 4, 2, 0, 0) else none) else (bif Nat.blt pc 5 then (bif Nat.beq pc 4 then some (.iload_n 2, 5, 2, 0, 0) else none) else (bif Nat.beq pc 5 then some (.aload_n 0, 6, 0, 0, 0) else none)))) else (bif Nat.blt pc 13 then (bif Nat.blt pc 9 then (bif Nat.beq pc 6 then some (.getfield 69, 9, 12, 8, 0) else none) else (bif Nat.blt pc 12 then (bif Nat.beq pc 9 then some (.if_icmp .ge 78, 12, 87, 0, 0) else none) else (bif Nat.beq pc 12 then some (.iconst 1, 13, 0, 0, 1) else none))) else (bif Nat.blt pc 14 then (bif Nat.beq pc 13 then some (.istore_n 3, 14, 3, 0, 0) else none) else (bif Nat.blt pc 15 then (bif Nat.beq pc 14 then some (.iconst 0, 15, 0, 0, 0) else none) else (bif Nat.beq pc 15 then some (.istore 4, 17, 4, 0, 0) else none))))) else (bif Nat.blt pc 30 then (bif Nat.blt pc 23 then (bif Nat.blt pc 19 then (bif Nat.beq pc 17 then some (.iload 4, 19, 4, 0, 0) else none) else (bif Nat.blt pc 20 then (bif Nat.beq pc 19 then some (.aload_n 0, 20, 0, 0, 0) else none) else (bif Nat.beq pc 20 then some (.getfield 153, 23, 12, 17, 0) else none))) else (bif Nat.blt pc 26 then (bif Nat.beq pc 23 then some (.if_icmp .ge 44, 26, 67, 0, 0) else none) else (bif Nat.blt pc 27 then (bif Nat.beq pc 26 then some (.iload_n 3, 27, 3, 0, 0) else none) else (bif Nat.beq pc 27 then some (.ifCond .eq 32, 30, 59, 0, 0) else none)))) else (bif Nat.blt pc 35 then (bif Nat.blt pc 31 then (bif Nat.beq pc 30 then some (.aload_n 0, 31, 0, 0, 0) else none) else (bif Nat.blt pc 32 then (bif Nat.beq pc 31 then some (.iload_n 2, 32, 2, 0, 0) else none) else (bif Nat.beq pc 32 then some (.invokevirtual 177, 35, 155, 1, 0) else none))) else (bif Nat.blt pc 39 then (bif Nat.blt pc 36 then (bif Nat.beq pc 35 then some (.aload_n 0, 36, 0, 0, 0) else none) else (bif Nat.beq pc 36 then some (.getfield 35, 39, 12, 15, 0) else none)) else (bif Nat.blt pc 41 then (bif Nat.beq pc 39 then some (.iload 4, 41, 4, 0, 0) else none) else (bif Nat.beq pc 41 then some (.iaload, 42, 0, 0, 0) else none)))))) else (bif Nat.blt pc 68 then (bif Nat.blt pc 55 then (bif Nat.blt pc 49 then (bif Nat.blt pc 45 then (bif Nat.beq pc 42 then some (.invokestatic 166, 45, 131, 2, 0) else none) else (bif Nat.blt pc 46 then (bif Nat.beq pc 45 then some (.aload_n 0, 46, 0, 0, 0) else none) else (bif Nat.beq pc 46 then some (.getfield 38, 49, 12, 16, 0) else none))) else (bif Nat.blt pc 51 then (bif Nat.beq pc 49 then some (.iload 4, 51, 4, 0, 0) else none) else (bif Nat.blt pc 52 then (bif Nat.beq pc 51 then some (.baload, 52, 0, 0, 0) else none) else (bif Nat.beq pc 52 then some (.if_icmp .ne 7, 55, 59, 0, 0) else none)))) else (bif Nat.blt pc 60 then (bif Nat.blt pc 56 then (bif Nat.beq pc 55 then some (.iconst 1, 56, 0, 0, 1) else none) else (bif Nat.blt pc 59 then (bif Nat.beq pc 56 then some (.goto 4, 59, 60, 0, 0) else none) else (bif Nat.beq pc 59 then some (.iconst 0, 60, 0, 0, 0) else none))) else (bif Nat.blt pc 64 then (bif Nat.blt pc 61 then (bif Nat.beq pc 60 then some (.istore_n 3, 61, 3, 0, 0) else none) else (bif Nat.beq pc 61 then some (.iinc 4 1, 64, 4, 0, 1) else none)) else (bif Nat.blt pc 67 then (bif Nat.beq pc 64 then some (.goto (-47), 67, 17, 0, 0) else none) else (bif Nat.beq pc 67 then some (.iload_n 1, 68, 1, 0, 0) else none))))) else (bif Nat.blt pc 78 then (bif Nat.blt pc 73 then (bif Nat.blt pc 69 then (bif Nat.beq pc 68 then some (.iload_n 3, 69, 3, 0, 0) else none) else (bif Nat.blt pc 72 then (bif Nat.beq pc 69 then some (.ifCond .eq 9, 72, 78, 0, 0) else none) else (bif Nat.beq pc 72 then some (.iconst 1, 73, 0, 0, 1) else none))) else (bif Nat.blt pc 74 then (bif Nat.beq pc 73 then some (.iload_n 2, 74, 2, 0, 0) else none) else (bif Nat.blt pc 75 then (bif Nat.beq pc 74 then some (.ishl, 75, 0, 0, 0) else none) else (bif Nat.beq pc 75 then some (.goto 4, 78, 79, 0, 0) else none)))) else (bif Nat.blt pc 81 then (bif Nat.blt pc 79 then (bif Nat.beq pc 78 then some (.iconst 0, 79, 0, 0, 0) else none) else (bif Nat.blt pc 80 then (bif Nat.beq pc 79 then some (.ior, 80, 0, 0, 0) else none) else (bif Nat.beq pc 80 then some (.istore_n 1, 81, 1, 0, 0) else none))) else (bif Nat.blt pc 87 then (bif Nat.blt pc 84 then (bif Nat.beq pc 81 then some (.iinc 2 1, 84, 2, 0, 1) else none) else (bif Nat.beq pc 84 then some (.goto (-80), 87, 4, 0, 0) else none)) else (bif Nat.blt pc 88 then (bif Nat.beq pc 87 then some (.iload_n 1, 88, 1, 0, 0) else none) else (bif Nat.beq pc 88 then some (.ireturn, 89, 0, 0, 0) else none))))))
/-- X12_ask -/
noncomputable def gn_c197 (pc : Nat) : Option gn_En := bif Nat.blt pc 74 then (bif Nat.blt pc 33 then (bif Nat.blt pc 14 then (bif Nat.blt pc 7 then (bif Nat.blt pc 4 then (bif Nat.blt pc 1 then (bif Nat.beq pc 0 then some (.aload_n 0, 1, 0, 0, 0) else none) else (bif Nat.beq pc 1 then some (.invokevirtual 271, 4, 196, 0, 0) else none)) else (bif Nat.blt pc 5 then (bif Nat.beq pc 4 then some (.istore_n 1, 5, 1, 0, 0) else none) else (bif Nat.blt pc 6 then (bif Nat.beq pc 5 then some (.iconst 0, 6, 0, 0, 0) else none) else (bif Nat.beq pc 6 then some (.istore_n 2, 7, 2, 0, 0) else none)))) else (bif Nat.blt pc 9 then (bif Nat.blt pc 8 then (bif Nat.beq pc 7 then some (.iconst 0, 8, 0, 0, 0) else none) else (bif Nat.beq pc 8 then some (.istore_n 3, 9, 3, 0, 0) else none)) else (bif Nat.blt pc 10 then (bif Nat.beq pc 9 then some (.iload_n 3, 10, 3, 0, 0) else none) else (bif Nat.blt pc 11 then (bif Nat.beq pc 10 then some (.aload_n 0, 11, 0, 0, 0) else none) else (bif Nat.beq pc 11 then some (.getfield 69, 14, 12, 8, 0) else none))))) else (bif Nat.blt pc 23 then (bif Nat.blt pc 18 then (bif Nat.blt pc 17 then (bif Nat.beq pc 14 then some (.if_icmp .ge 25, 17, 39, 0, 0) else none) else (bif Nat.beq pc 17 then some (.iload_n 2, 18, 2, 0, 0) else none)) else (bif Nat.blt pc 19 then (bif Nat.beq pc 18 then some (.iload_n 1, 19, 1, 0, 0) else none) else (bif Nat.blt pc 20 then (bif Nat.beq pc 19 then some (.iload_n 3, 20, 3, 0, 0) else none) else (bif Nat.beq pc 20 then some (.invokestatic 166, 23, 131, 2, 0) else none)))) else (bif Nat.blt pc 30 then (bif Nat.blt pc 26 then (bif Nat.beq pc 23 then some (.ifCond .eq 7, 26, 30, 0, 0) else none) else (bif Nat.blt pc 27 then (bif Nat.beq pc 26 then some (.iconst 1, 27, 0, 0, 1) else none) else (bif Nat.beq pc 27 then some (.goto 4, 30, 31, 0, 0) else none))) else (bif Nat.blt pc 31 then (bif Nat.beq pc 30 then some (.iconst 0, 31, 0, 0, 0) else none) else (bif Nat.blt pc 32 then (bif Nat.beq pc 31 then some (.iadd, 32, 0, 0, 0) else none) else (bif Nat.beq pc 32 then some (.istore_n 2, 33, 2, 0, 0) else none)))))) else (bif Nat.blt pc 54 then (bif Nat.blt pc 42 then (bif Nat.blt pc 39 then (bif Nat.blt pc 36 then (bif Nat.beq pc 33 then some (.iinc 3 1, 36, 3, 0, 1) else none) else (bif Nat.beq pc 36 then some (.goto (-27), 39, 9, 0, 0) else none)) else (bif Nat.blt pc 40 then (bif Nat.beq pc 39 then some (.iconst (-1), 40, 0, 0, (-1)) else none) else (bif Nat.blt pc 41 then (bif Nat.beq pc 40 then some (.istore_n 3, 41, 3, 0, 0) else none) else (bif Nat.beq pc 41 then some (.iload_n 2, 42, 2, 0, 0) else none)))) else (bif Nat.blt pc 47 then (bif Nat.blt pc 44 then (bif Nat.beq pc 42 then some (.istore 4, 44, 4, 0, 0) else none) else (bif Nat.blt pc 45 then (bif Nat.beq pc 44 then some (.iconst 0, 45, 0, 0, 0) else none) else (bif Nat.beq pc 45 then some (.istore 5, 47, 5, 0, 0) else none))) else (bif Nat.blt pc 49 then (bif Nat.beq pc 47 then some (.iload 5, 49, 5, 0, 0) else none) else (bif Nat.blt pc 51 then (bif Nat.beq pc 49 then some (.bipush 8, 51, 0, 0, 8) else none) else (bif Nat.beq pc 51 then some (.if_icmp .ge 113, 54, 164, 0, 0) else none))))) else (bif Nat.blt pc 62 then (bif Nat.blt pc 57 then (bif Nat.blt pc 55 then (bif Nat.beq pc 54 then some (.iconst 0, 55, 0, 0, 0) else none) else (bif Nat.beq pc 55 then some (.istore 6, 57, 6, 0, 0) else none)) else (bif Nat.blt pc 58 then (bif Nat.beq pc 57 then some (.iconst 0, 58, 0, 0, 0) else none) else (bif Nat.blt pc 60 then (bif Nat.beq pc 58 then some (.istore 7, 60, 7, 0, 0) else none) else (bif Nat.beq pc 60 then some (.iload 7, 62, 7, 0, 0) else none)))) else (bif Nat.blt pc 69 then (bif Nat.blt pc 63 then (bif Nat.beq pc 62 then some (.aload_n 0, 63, 0, 0, 0) else none) else (bif Nat.blt pc 66 then (bif Nat.beq pc 63 then some (.getfield 69, 66, 12, 8, 0) else none) else (bif Nat.beq pc 66 then some (.if_icmp .ge 42, 69, 108, 0, 0) else none))) else (bif Nat.blt pc 71 then (bif Nat.beq pc 69 then some (.iload 6, 71, 6, 0, 0) else none) else (bif Nat.blt pc 72 then (bif Nat.beq pc 71 then some (.iload_n 1, 72, 1, 0, 0) else none) else (bif Nat.beq pc 72 then some (.iload 7, 74, 7, 0, 0) else none))))))) else (bif Nat.blt pc 122 then (bif Nat.blt pc 99 then (bif Nat.blt pc 86 then (bif Nat.blt pc 80 then (bif Nat.blt pc 77 then (bif Nat.beq pc 74 then some (.invokestatic 166, 77, 131, 2, 0) else none) else (bif Nat.beq pc 77 then some (.ifCond .eq 21, 80, 98, 0, 0) else none)) else (bif Nat.blt pc 81 then (bif Nat.beq pc 80 then some (.aload_n 0, 81, 0, 0, 0) else none) else (bif Nat.blt pc 83 then (bif Nat.beq pc 81 then some (.iload 7, 83, 7, 0, 0) else none) else (bif Nat.beq pc 83 then some (.invokevirtual 177, 86, 155, 1, 0) else none)))) else (bif Nat.blt pc 94 then (bif Nat.blt pc 88 then (bif Nat.beq pc 86 then some (.iload 5, 88, 5, 0, 0) else none) else (bif Nat.blt pc 91 then (bif Nat.beq pc 88 then some (.invokestatic 166, 91, 131, 2, 0) else none) else (bif Nat.beq pc 91 then some (.ifCond .eq 7, 94, 98, 0, 0) else none))) else (bif Nat.blt pc 95 then (bif Nat.beq pc 94 then some (.iconst 1, 95, 0, 0, 1) else none) else (bif Nat.blt pc 98 then (bif Nat.beq pc 95 then some (.goto 4, 98, 99, 0, 0) else none) else (bif Nat.beq pc 98 then some (.iconst 0, 99, 0, 0, 0) else none))))) else (bif Nat.blt pc 110 then (bif Nat.blt pc 102 then (bif Nat.blt pc 100 then (bif Nat.beq pc 99 then some (.iadd, 100, 0, 0, 0) else none) else (bif Nat.beq pc 100 then some (.istore 6, 102, 6, 0, 0) else none)) else (bif Nat.blt pc 105 then (bif Nat.beq pc 102 then some (.iinc 7 1, 105, 7, 0, 1) else none) else (bif Nat.blt pc 108 then (bif Nat.beq pc 105 then some (.goto (-45), 108, 60, 0, 0) else none) else (bif Nat.beq pc 108 then some (.iload 6, 110, 6, 0, 0) else none)))) else (bif Nat.blt pc 114 then (bif Nat.blt pc 111 then (bif Nat.beq pc 110 then some (.iload_n 2, 111, 2, 0, 0) else none) else (bif Nat.blt pc 113 then (bif Nat.beq pc 111 then some (.iload 6, 113, 6, 0, 0) else none) else (bif Nat.beq pc 113 then some (.isub, 114, 0, 0, 0) else none))) else (bif Nat.blt pc 117 then (bif Nat.beq pc 114 then some (.if_icmp .le 8, 117, 122, 0, 0) else none) else (bif Nat.blt pc 119 then (bif Nat.beq pc 117 then some (.iload 6, 119, 6, 0, 0) else none) else (bif Nat.beq pc 119 then some (.goto 7, 122, 126, 0, 0) else none)))))) else (bif Nat.blt pc 142 then (bif Nat.blt pc 130 then (bif Nat.blt pc 125 then (bif Nat.blt pc 123 then (bif Nat.beq pc 122 then some (.iload_n 2, 123, 2, 0, 0) else none) else (bif Nat.beq pc 123 then some (.iload 6, 125, 6, 0, 0) else none)) else (bif Nat.blt pc 126 then (bif Nat.beq pc 125 then some (.isub, 126, 0, 0, 0) else none) else (bif Nat.blt pc 128 then (bif Nat.beq pc 126 then some (.istore 7, 128, 7, 0, 0) else none) else (bif Nat.beq pc 128 then some (.iload 7, 130, 7, 0, 0) else none)))) else (bif Nat.blt pc 137 then (bif Nat.blt pc 132 then (bif Nat.beq pc 130 then some (.iload 4, 132, 4, 0, 0) else none) else (bif Nat.blt pc 135 then (bif Nat.beq pc 132 then some (.if_icmp .ge 8, 135, 140, 0, 0) else none) else (bif Nat.beq pc 135 then some (.iload 5, 137, 5, 0, 0) else none))) else (bif Nat.blt pc 140 then (bif Nat.beq pc 137 then some (.goto 4, 140, 141, 0, 0) else none) else (bif Nat.blt pc 141 then (bif Nat.beq pc 140 then some (.iload_n 3, 141, 3, 0, 0) else none) else (bif Nat.beq pc 141 then some (.istore_n 3, 142, 3, 0, 0) else none))))) else (bif Nat.blt pc 154 then (bif Nat.blt pc 146 then (bif Nat.blt pc 144 then (bif Nat.beq pc 142 then some (.iload 7, 144, 7, 0, 0) else none) else (bif Nat.beq pc 144 then some (.iload 4, 146, 4, 0, 0) else none)) else (bif Nat.blt pc 149 then (bif Nat.beq pc 146 then some (.if_icmp .ge 8, 149, 154, 0, 0) else none) else (bif Nat.blt pc 151 then (bif Nat.beq pc 149 then some (.iload 7, 151, 7, 0, 0) else none) else (bif Nat.beq pc 151 then some (.goto 5, 154, 156, 0, 0) else none)))) else (bif Nat.blt pc 161 then (bif Nat.blt pc 156 then (bif Nat.beq pc 154 then some (.iload 4, 156, 4, 0, 0) else none) else (bif Nat.blt pc 158 then (bif Nat.beq pc 156 then some (.istore 4, 158, 4, 0, 0) else none) else (bif Nat.beq pc 158 then some (.iinc 5 1, 161, 5, 0, 1) else none))) else (bif Nat.blt pc 164 then (bif Nat.beq pc 161 then some (.goto (-114), 164, 47, 0, 0) else none) else (bif Nat.blt pc 165 then (bif Nat.beq pc 164 then some (.iload_n 3, 165, 3, 0, 0) else none) else (bif Nat.beq pc 165 then some (.ireturn, 166, 0, 0, 0) else none)))))))
/-- X12_write -/
noncomputable def gn_c198 (pc : Nat) : Option gn_En := bif Nat.blt pc 37 then (bif Nat.blt pc 18 then (bif Nat.blt pc 9 then (bif Nat.blt pc 2 then (bif Nat.blt pc 1 then (bif Nat.beq pc 0 then some (.aload_n 0, 1, 0, 0, 0) else none) else (bif Nat.beq pc 1 then some (.iload_n 1, 2, 1, 0, 0) else none)) else (bif Nat.blt pc 5 then (bif Nat.beq pc 2 then some (.invokevirtual 198, 5, 132, 1, 0) else none) else (bif Nat.blt pc 8 then (bif Nat.beq pc 5 then some (.ifCond .eq 16, 8, 21, 0, 0) else none) else (bif Nat.beq pc 8 then some (.iload_n 2, 9, 2, 0, 0) else none)))) else (bif Nat.blt pc 13 then (bif Nat.blt pc 10 then (bif Nat.beq pc 9 then some (.iconst (-1), 10, 0, 0, (-1)) else none) else (bif Nat.beq pc 10 then some (.if_icmp .eq 14, 13, 24, 0, 0) else none)) else (bif Nat.blt pc 14 then (bif Nat.beq pc 13 then some (.aload_n 0, 14, 0, 0, 0) else none) else (bif Nat.blt pc 15 then (bif Nat.beq pc 14 then some (.iload_n 2, 15, 2, 0, 0) else none) else (bif Nat.beq pc 15 then some (.invokevirtual 203, 18, 133, 1, 0) else none))))) else (bif Nat.blt pc 28 then (bif Nat.blt pc 23 then (bif Nat.blt pc 21 then (bif Nat.beq pc 18 then some (.ifCond .ne 6, 21, 24, 0, 0) else none) else (bif Nat.beq pc 21 then some (.ldc 202, 23, 0, 0, (-1000000001)) else none)) else (bif Nat.blt pc 24 then (bif Nat.beq pc 23 then some (.ireturn, 24, 0, 0, 0) else none) else (bif Nat.blt pc 25 then (bif Nat.beq pc 24 then some (.aload_n 0, 25, 0, 0, 0) else none) else (bif Nat.beq pc 25 then some (.getfield 156, 28, 12, 20, 0) else none)))) else (bif Nat.blt pc 33 then (bif Nat.blt pc 30 then (bif Nat.beq pc 28 then some (.bipush 20, 30, 0, 0, 20) else none) else (bif Nat.beq pc 30 then some (.if_icmp .ne 6, 33, 36, 0, 0) else none)) else (bif Nat.blt pc 35 then (bif Nat.beq pc 33 then some (.ldc 83, 35, 0, 0, (-1000000004)) else none) else (bif Nat.blt pc 36 then (bif Nat.beq pc 35 then some (.ireturn, 36, 0, 0, 0) else none) else (bif Nat.beq pc 36 then some (.aload_n 0, 37, 0, 0, 0) else none)))))) else (bif Nat.blt pc 55 then (bif Nat.blt pc 46 then (bif Nat.blt pc 41 then (bif Nat.blt pc 40 then (bif Nat.beq pc 37 then some (.getfield 42, 40, 12, 18, 0) else none) else (bif Nat.beq pc 40 then some (.aload_n 0, 41, 0, 0, 0) else none)) else (bif Nat.blt pc 44 then (bif Nat.beq pc 41 then some (.getfield 156, 44, 12, 20, 0) else none) else (bif Nat.blt pc 45 then (bif Nat.beq pc 44 then some (.iload_n 1, 45, 1, 0, 0) else none) else (bif Nat.beq pc 45 then some (.iastore, 46, 0, 0, 0) else none)))) else (bif Nat.blt pc 50 then (bif Nat.blt pc 47 then (bif Nat.beq pc 46 then some (.aload_n 0, 47, 0, 0, 0) else none) else (bif Nat.beq pc 47 then some (.getfield 45, 50, 12, 19, 0) else none)) else (bif Nat.blt pc 51 then (bif Nat.beq pc 50 then some (.aload_n 0, 51, 0, 0, 0) else none) else (bif Nat.blt pc 54 then (bif Nat.beq pc 51 then some (.getfield 156, 54, 12, 20, 0) else none) else (bif Nat.beq pc 54 then some (.iload_n 2, 55, 2, 0, 0) else none))))) else (bif Nat.blt pc 62 then (bif Nat.blt pc 57 then (bif Nat.blt pc 56 then (bif Nat.beq pc 55 then some (.iastore, 56, 0, 0, 0) else none) else (bif Nat.beq pc 56 then some (.aload_n 0, 57, 0, 0, 0) else none)) else (bif Nat.blt pc 58 then (bif Nat.beq pc 57 then some (.dup, 58, 0, 0, 0) else none) else (bif Nat.blt pc 61 then (bif Nat.beq pc 58 then some (.getfield 156, 61, 12, 20, 0) else none) else (bif Nat.beq pc 61 then some (.iconst 1, 62, 0, 0, 1) else none)))) else (bif Nat.blt pc 66 then (bif Nat.blt pc 63 then (bif Nat.beq pc 62 then some (.iadd, 63, 0, 0, 0) else none) else (bif Nat.beq pc 63 then some (.putfield 156, 66, 12, 20, 0) else none)) else (bif Nat.blt pc 67 then (bif Nat.beq pc 66 then some (.aload_n 0, 67, 0, 0, 0) else none) else (bif Nat.blt pc 70 then (bif Nat.beq pc 67 then some (.getfield 156, 70, 12, 20, 0) else none) else (bif Nat.beq pc 70 then some (.ireturn, 71, 0, 0, 0) else none))))))
/-- X12_judge -/
noncomputable def gn_c199 (pc : Nat) : Option gn_En := bif Nat.blt pc 22 then (bif Nat.blt pc 10 then (bif Nat.blt pc 3 then (bif Nat.blt pc 1 then (bif Nat.beq pc 0 then some (.iconst 0, 1, 0, 0, 0) else none) else (bif Nat.blt pc 2 then (bif Nat.beq pc 1 then some (.istore_n 1, 2, 1, 0, 0) else none) else (bif Nat.beq pc 2 then some (.iload_n 1, 3, 1, 0, 0) else none))) else (bif Nat.blt pc 4 then (bif Nat.beq pc 3 then some (.aload_n 0, 4, 0, 0, 0) else none) else (bif Nat.blt pc 7 then (bif Nat.beq pc 4 then some (.getfield 156, 7, 12, 20, 0) else none) else (bif Nat.beq pc 7 then some (.if_icmp .ge 34, 10, 41, 0, 0) else none)))) else (bif Nat.blt pc 16 then (bif Nat.blt pc 11 then (bif Nat.beq pc 10 then some (.aload_n 0, 11, 0, 0, 0) else none) else (bif Nat.blt pc 14 then (bif Nat.beq pc 11 then some (.getfield 7, 14, 12, 0, 0) else none) else (bif Nat.beq pc 14 then some (.bipush 6, 16, 0, 0, 6) else none))) else (bif Nat.blt pc 20 then (bif Nat.blt pc 17 then (bif Nat.beq pc 16 then some (.aload_n 0, 17, 0, 0, 0) else none) else (bif Nat.beq pc 17 then some (.getfield 42, 20, 12, 18, 0) else none)) else (bif Nat.blt pc 21 then (bif Nat.beq pc 20 then some (.iload_n 1, 21, 1, 0, 0) else none) else (bif Nat.beq pc 21 then some (.iaload, 22, 0, 0, 0) else none))))) else (bif Nat.blt pc 30 then (bif Nat.blt pc 25 then (bif Nat.blt pc 23 then (bif Nat.beq pc 22 then some (.iadd, 23, 0, 0, 0) else none) else (bif Nat.blt pc 24 then (bif Nat.beq pc 23 then some (.iaload, 24, 0, 0, 0) else none) else (bif Nat.beq pc 24 then some (.aload_n 0, 25, 0, 0, 0) else none))) else (bif Nat.blt pc 28 then (bif Nat.beq pc 25 then some (.getfield 45, 28, 12, 19, 0) else none) else (bif Nat.blt pc 29 then (bif Nat.beq pc 28 then some (.iload_n 1, 29, 1, 0, 0) else none) else (bif Nat.beq pc 29 then some (.iaload, 30, 0, 0, 0) else none)))) else (bif Nat.blt pc 35 then (bif Nat.blt pc 33 then (bif Nat.beq pc 30 then some (.if_icmp .eq 5, 33, 35, 0, 0) else none) else (bif Nat.blt pc 34 then (bif Nat.beq pc 33 then some (.iload_n 1, 34, 1, 0, 0) else none) else (bif Nat.beq pc 34 then some (.ireturn, 35, 0, 0, 0) else none))) else (bif Nat.blt pc 41 then (bif Nat.blt pc 38 then (bif Nat.beq pc 35 then some (.iinc 1 1, 38, 1, 0, 1) else none) else (bif Nat.beq pc 38 then some (.goto (-36), 41, 2, 0, 0) else none)) else (bif Nat.blt pc 42 then (bif Nat.beq pc 41 then some (.iconst (-1), 42, 0, 0, (-1)) else none) else (bif Nat.beq pc 42 then some (.ireturn, 43, 0, 0, 0) else none)))))
/-- X12_tear -/
noncomputable def gn_c200 (pc : Nat) : Option gn_En := bif Nat.blt pc 11 then (bif Nat.blt pc 5 then (bif Nat.blt pc 1 then (bif Nat.beq pc 0 then some (.aload_n 0, 1, 0, 0, 0) else none) else (bif Nat.blt pc 4 then (bif Nat.beq pc 1 then some (.getfield 153, 4, 12, 17, 0) else none) else (bif Nat.beq pc 4 then some (.aload_n 0, 5, 0, 0, 0) else none))) else (bif Nat.blt pc 9 then (bif Nat.blt pc 8 then (bif Nat.beq pc 5 then some (.getfield 156, 8, 12, 20, 0) else none) else (bif Nat.beq pc 8 then some (.iadd, 9, 0, 0, 0) else none)) else (bif Nat.blt pc 10 then (bif Nat.beq pc 9 then some (.istore_n 1, 10, 1, 0, 0) else none) else (bif Nat.beq pc 10 then some (.aload_n 0, 11, 0, 0, 0) else none)))) else (bif Nat.blt pc 16 then (bif Nat.blt pc 12 then (bif Nat.beq pc 11 then some (.iconst 0, 12, 0, 0, 0) else none) else (bif Nat.blt pc 15 then (bif Nat.beq pc 12 then some (.putfield 153, 15, 12, 17, 0) else none) else (bif Nat.beq pc 15 then some (.aload_n 0, 16, 0, 0, 0) else none))) else (bif Nat.blt pc 20 then (bif Nat.blt pc 17 then (bif Nat.beq pc 16 then some (.iconst 0, 17, 0, 0, 0) else none) else (bif Nat.beq pc 17 then some (.putfield 156, 20, 12, 20, 0) else none)) else (bif Nat.blt pc 21 then (bif Nat.beq pc 20 then some (.iload_n 1, 21, 1, 0, 0) else none) else (bif Nat.beq pc 21 then some (.ireturn, 22, 0, 0, 0) else none))))
/-- X12_seed -/
noncomputable def gn_c201 (pc : Nat) : Option gn_En := bif Nat.blt pc 14 then (bif Nat.blt pc 7 then (bif Nat.blt pc 4 then (bif Nat.blt pc 1 then (bif Nat.beq pc 0 then some (.iload_n 1, 1, 1, 0, 0) else none) else (bif Nat.beq pc 1 then some (.ifCond .ge 6, 4, 7, 0, 0) else none)) else (bif Nat.blt pc 6 then (bif Nat.beq pc 4 then some (.ldc 79, 6, 0, 0, (-1000000002)) else none) else (bif Nat.beq pc 6 then some (.ireturn, 7, 0, 0, 0) else none))) else (bif Nat.blt pc 11 then (bif Nat.blt pc 8 then (bif Nat.beq pc 7 then some (.aload_n 0, 8, 0, 0, 0) else none) else (bif Nat.beq pc 8 then some (.getfield 7, 11, 12, 0, 0) else none)) else (bif Nat.blt pc 13 then (bif Nat.beq pc 11 then some (.bipush 28, 13, 0, 0, 28) else none) else (bif Nat.beq pc 13 then some (.iaload, 14, 0, 0, 0) else none)))) else (bif Nat.blt pc 21 then (bif Nat.blt pc 16 then (bif Nat.blt pc 15 then (bif Nat.beq pc 14 then some (.istore_n 2, 15, 2, 0, 0) else none) else (bif Nat.beq pc 15 then some (.aload_n 0, 16, 0, 0, 0) else none)) else (bif Nat.blt pc 19 then (bif Nat.beq pc 16 then some (.getfield 7, 19, 12, 0, 0) else none) else (bif Nat.beq pc 19 then some (.bipush 28, 21, 0, 0, 28) else none))) else (bif Nat.blt pc 23 then (bif Nat.blt pc 22 then (bif Nat.beq pc 21 then some (.iload_n 1, 22, 1, 0, 0) else none) else (bif Nat.beq pc 22 then some (.iastore, 23, 0, 0, 0) else none)) else (bif Nat.blt pc 24 then (bif Nat.beq pc 23 then some (.iload_n 2, 24, 2, 0, 0) else none) else (bif Nat.beq pc 24 then some (.ireturn, 25, 0, 0, 0) else none))))
/-- X12_keep -/
noncomputable def gn_c202 (pc : Nat) : Option gn_En := bif Nat.blt pc 21 then (bif Nat.blt pc 12 then (bif Nat.blt pc 3 then (bif Nat.blt pc 1 then (bif Nat.beq pc 0 then some (.iload_n 1, 1, 1, 0, 0) else none) else (bif Nat.blt pc 2 then (bif Nat.beq pc 1 then some (.iconst 0, 2, 0, 0, 0) else none) else (bif Nat.beq pc 2 then some (.iconst 1, 3, 0, 0, 1) else none))) else (bif Nat.blt pc 9 then (bif Nat.blt pc 6 then (bif Nat.beq pc 3 then some (.invokestatic 72, 6, 130, 3, 0) else none) else (bif Nat.beq pc 6 then some (.ifCond .ne 6, 9, 12, 0, 0) else none)) else (bif Nat.blt pc 11 then (bif Nat.beq pc 9 then some (.ldc 202, 11, 0, 0, (-1000000001)) else none) else (bif Nat.beq pc 11 then some (.ireturn, 12, 0, 0, 0) else none)))) else (bif Nat.blt pc 16 then (bif Nat.blt pc 13 then (bif Nat.beq pc 12 then some (.aload_n 0, 13, 0, 0, 0) else none) else (bif Nat.blt pc 14 then (bif Nat.beq pc 13 then some (.iconst 0, 14, 0, 0, 0) else none) else (bif Nat.beq pc 14 then some (.bipush 29, 16, 0, 0, 29) else none))) else (bif Nat.blt pc 19 then (bif Nat.blt pc 18 then (bif Nat.beq pc 16 then some (.bipush 29, 18, 0, 0, 29) else none) else (bif Nat.beq pc 18 then some (.iload_n 1, 19, 1, 0, 0) else none)) else (bif Nat.blt pc 20 then (bif Nat.beq pc 19 then some (.imul, 20, 0, 0, 0) else none) else (bif Nat.beq pc 20 then some (.iadd, 21, 0, 0, 0) else none))))) else (bif Nat.blt pc 32 then (bif Nat.blt pc 26 then (bif Nat.blt pc 24 then (bif Nat.beq pc 21 then some (.invokevirtual 206, 24, 134, 2, 0) else none) else (bif Nat.blt pc 25 then (bif Nat.beq pc 24 then some (.aload_n 0, 25, 0, 0, 0) else none) else (bif Nat.beq pc 25 then some (.dup, 26, 0, 0, 0) else none))) else (bif Nat.blt pc 30 then (bif Nat.blt pc 29 then (bif Nat.beq pc 26 then some (.getfield 150, 29, 12, 11, 0) else none) else (bif Nat.beq pc 29 then some (.iconst 1, 30, 0, 0, 1) else none)) else (bif Nat.blt pc 31 then (bif Nat.beq pc 30 then some (.iload_n 1, 31, 1, 0, 0) else none) else (bif Nat.beq pc 31 then some (.ishl, 32, 0, 0, 0) else none)))) else (bif Nat.blt pc 37 then (bif Nat.blt pc 33 then (bif Nat.beq pc 32 then some (.ior, 33, 0, 0, 0) else none) else (bif Nat.blt pc 36 then (bif Nat.beq pc 33 then some (.putfield 150, 36, 12, 11, 0) else none) else (bif Nat.beq pc 36 then some (.aload_n 0, 37, 0, 0, 0) else none))) else (bif Nat.blt pc 41 then (bif Nat.blt pc 38 then (bif Nat.beq pc 37 then some (.iconst 0, 38, 0, 0, 0) else none) else (bif Nat.beq pc 38 then some (.putfield 147, 41, 12, 10, 0) else none)) else (bif Nat.blt pc 42 then (bif Nat.beq pc 41 then some (.iconst 1, 42, 0, 0, 1) else none) else (bif Nat.beq pc 42 then some (.ireturn, 43, 0, 0, 0) else none)))))
/-- X12_goBack -/
noncomputable def gn_c203 (pc : Nat) : Option gn_En := bif Nat.blt pc 25 then (bif Nat.blt pc 11 then (bif Nat.blt pc 3 then (bif Nat.blt pc 1 then (bif Nat.beq pc 0 then some (.iload_n 1, 1, 1, 0, 0) else none) else (bif Nat.blt pc 2 then (bif Nat.beq pc 1 then some (.iconst 0, 2, 0, 0, 0) else none) else (bif Nat.beq pc 2 then some (.iconst 1, 3, 0, 0, 1) else none))) else (bif Nat.blt pc 6 then (bif Nat.beq pc 3 then some (.invokestatic 72, 6, 130, 3, 0) else none) else (bif Nat.blt pc 9 then (bif Nat.beq pc 6 then some (.ifCond .ne 6, 9, 12, 0, 0) else none) else (bif Nat.beq pc 9 then some (.ldc 202, 11, 0, 0, (-1000000001)) else none)))) else (bif Nat.blt pc 16 then (bif Nat.blt pc 12 then (bif Nat.beq pc 11 then some (.ireturn, 12, 0, 0, 0) else none) else (bif Nat.blt pc 13 then (bif Nat.beq pc 12 then some (.aload_n 0, 13, 0, 0, 0) else none) else (bif Nat.beq pc 13 then some (.getfield 150, 16, 12, 11, 0) else none))) else (bif Nat.blt pc 20 then (bif Nat.blt pc 17 then (bif Nat.beq pc 16 then some (.iload_n 1, 17, 1, 0, 0) else none) else (bif Nat.beq pc 17 then some (.invokestatic 166, 20, 131, 2, 0) else none)) else (bif Nat.blt pc 23 then (bif Nat.beq pc 20 then some (.ifCond .ne 6, 23, 26, 0, 0) else none) else (bif Nat.beq pc 23 then some (.ldc 209, 25, 0, 0, (-1000000003)) else none))))) else (bif Nat.blt pc 34 then (bif Nat.blt pc 29 then (bif Nat.blt pc 26 then (bif Nat.beq pc 25 then some (.ireturn, 26, 0, 0, 0) else none) else (bif Nat.blt pc 27 then (bif Nat.beq pc 26 then some (.aload_n 0, 27, 0, 0, 0) else none) else (bif Nat.beq pc 27 then some (.bipush 29, 29, 0, 0, 29) else none))) else (bif Nat.blt pc 32 then (bif Nat.blt pc 31 then (bif Nat.beq pc 29 then some (.bipush 29, 31, 0, 0, 29) else none) else (bif Nat.beq pc 31 then some (.iload_n 1, 32, 1, 0, 0) else none)) else (bif Nat.blt pc 33 then (bif Nat.beq pc 32 then some (.imul, 33, 0, 0, 0) else none) else (bif Nat.beq pc 33 then some (.iadd, 34, 0, 0, 0) else none)))) else (bif Nat.blt pc 39 then (bif Nat.blt pc 35 then (bif Nat.beq pc 34 then some (.iconst 0, 35, 0, 0, 0) else none) else (bif Nat.blt pc 38 then (bif Nat.beq pc 35 then some (.invokevirtual 206, 38, 134, 2, 0) else none) else (bif Nat.beq pc 38 then some (.aload_n 0, 39, 0, 0, 0) else none))) else (bif Nat.blt pc 43 then (bif Nat.blt pc 40 then (bif Nat.beq pc 39 then some (.iconst 0, 40, 0, 0, 0) else none) else (bif Nat.beq pc 40 then some (.putfield 147, 43, 12, 10, 0) else none)) else (bif Nat.blt pc 44 then (bif Nat.beq pc 43 then some (.iconst 1, 44, 0, 0, 1) else none) else (bif Nat.beq pc 44 then some (.ireturn, 45, 0, 0, 0) else none)))))
/-- J6_bitCount_0f7a4 -/
noncomputable def gn_c204 (pc : Nat) : Option gn_En := bif Nat.blt pc 27 then (bif Nat.blt pc 14 then (bif Nat.blt pc 7 then (bif Nat.blt pc 2 then (bif Nat.blt pc 1 then (bif Nat.beq pc 0 then some (.iload_n 0, 1, 0, 0, 0) else none) else (bif Nat.beq pc 1 then some (.iload_n 0, 2, 0, 0, 0) else none)) else (bif Nat.blt pc 3 then (bif Nat.beq pc 2 then some (.iconst 1, 3, 0, 0, 1) else none) else (bif Nat.blt pc 4 then (bif Nat.beq pc 3 then some (.iushr, 4, 0, 0, 0) else none) else (bif Nat.beq pc 4 then some (.ldc_w 265, 7, 0, 0, 1431655765) else none)))) else (bif Nat.blt pc 9 then (bif Nat.blt pc 8 then (bif Nat.beq pc 7 then some (.iand, 8, 0, 0, 0) else none) else (bif Nat.beq pc 8 then some (.isub, 9, 0, 0, 0) else none)) else (bif Nat.blt pc 10 then (bif Nat.beq pc 9 then some (.istore_n 0, 10, 0, 0, 0) else none) else (bif Nat.blt pc 11 then (bif Nat.beq pc 10 then some (.iload_n 0, 11, 0, 0, 0) else none) else (bif Nat.beq pc 11 then some (.ldc_w 266, 14, 0, 0, 858993459) else none))))) else (bif Nat.blt pc 21 then (bif Nat.blt pc 16 then (bif Nat.blt pc 15 then (bif Nat.beq pc 14 then some (.iand, 15, 0, 0, 0) else none) else (bif Nat.beq pc 15 then some (.iload_n 0, 16, 0, 0, 0) else none)) else (bif Nat.blt pc 17 then (bif Nat.beq pc 16 then some (.iconst 2, 17, 0, 0, 2) else none) else (bif Nat.blt pc 18 then (bif Nat.beq pc 17 then some (.iushr, 18, 0, 0, 0) else none) else (bif Nat.beq pc 18 then some (.ldc_w 266, 21, 0, 0, 858993459) else none)))) else (bif Nat.blt pc 24 then (bif Nat.blt pc 22 then (bif Nat.beq pc 21 then some (.iand, 22, 0, 0, 0) else none) else (bif Nat.blt pc 23 then (bif Nat.beq pc 22 then some (.iadd, 23, 0, 0, 0) else none) else (bif Nat.beq pc 23 then some (.istore_n 0, 24, 0, 0, 0) else none))) else (bif Nat.blt pc 25 then (bif Nat.beq pc 24 then some (.iload_n 0, 25, 0, 0, 0) else none) else (bif Nat.blt pc 26 then (bif Nat.beq pc 25 then some (.iload_n 0, 26, 0, 0, 0) else none) else (bif Nat.beq pc 26 then some (.iconst 4, 27, 0, 0, 4) else none)))))) else (bif Nat.blt pc 40 then (bif Nat.blt pc 34 then (bif Nat.blt pc 29 then (bif Nat.blt pc 28 then (bif Nat.beq pc 27 then some (.iushr, 28, 0, 0, 0) else none) else (bif Nat.beq pc 28 then some (.iadd, 29, 0, 0, 0) else none)) else (bif Nat.blt pc 32 then (bif Nat.beq pc 29 then some (.ldc_w 267, 32, 0, 0, 252645135) else none) else (bif Nat.blt pc 33 then (bif Nat.beq pc 32 then some (.iand, 33, 0, 0, 0) else none) else (bif Nat.beq pc 33 then some (.istore_n 0, 34, 0, 0, 0) else none)))) else (bif Nat.blt pc 36 then (bif Nat.blt pc 35 then (bif Nat.beq pc 34 then some (.iload_n 0, 35, 0, 0, 0) else none) else (bif Nat.beq pc 35 then some (.iload_n 0, 36, 0, 0, 0) else none)) else (bif Nat.blt pc 38 then (bif Nat.beq pc 36 then some (.bipush 8, 38, 0, 0, 8) else none) else (bif Nat.blt pc 39 then (bif Nat.beq pc 38 then some (.iushr, 39, 0, 0, 0) else none) else (bif Nat.beq pc 39 then some (.iadd, 40, 0, 0, 0) else none))))) else (bif Nat.blt pc 46 then (bif Nat.blt pc 42 then (bif Nat.blt pc 41 then (bif Nat.beq pc 40 then some (.istore_n 0, 41, 0, 0, 0) else none) else (bif Nat.beq pc 41 then some (.iload_n 0, 42, 0, 0, 0) else none)) else (bif Nat.blt pc 43 then (bif Nat.beq pc 42 then some (.iload_n 0, 43, 0, 0, 0) else none) else (bif Nat.blt pc 45 then (bif Nat.beq pc 43 then some (.bipush 16, 45, 0, 0, 16) else none) else (bif Nat.beq pc 45 then some (.iushr, 46, 0, 0, 0) else none)))) else (bif Nat.blt pc 49 then (bif Nat.blt pc 47 then (bif Nat.beq pc 46 then some (.iadd, 47, 0, 0, 0) else none) else (bif Nat.blt pc 48 then (bif Nat.beq pc 47 then some (.istore_n 0, 48, 0, 0, 0) else none) else (bif Nat.beq pc 48 then some (.iload_n 0, 49, 0, 0, 0) else none))) else (bif Nat.blt pc 51 then (bif Nat.beq pc 49 then some (.bipush 63, 51, 0, 0, 63) else none) else (bif Nat.blt pc 52 then (bif Nat.beq pc 51 then some (.iand, 52, 0, 0, 0) else none) else (bif Nat.beq pc 52 then some (.ireturn, 53, 0, 0, 0) else none))))))
noncomputable def gn_mth (mi : Nat) : Nat × (Nat → Option gn_En) := bif Nat.blt mi 205 then (bif Nat.blt mi 102 then (bif Nat.blt mi 51 then (bif Nat.blt mi 25 then (bif Nat.blt mi 12 then (bif Nat.blt mi 6 then (bif Nat.blt mi 3 then (bif Nat.blt mi 1 then ((43, gn_c0)) else (bif Nat.blt mi 2 then ((39, gn_c1)) else ((40, gn_c2)))) else (bif Nat.blt mi 4 then ((92, gn_c3)) else (bif Nat.blt mi 5 then ((43, gn_c4)) else ((35, gn_c5))))) else (bif Nat.blt mi 9 then (bif Nat.blt mi 7 then ((40, gn_c6)) else (bif Nat.blt mi 8 then ((55, gn_c7)) else ((53, gn_c8)))) else (bif Nat.blt mi 10 then ((29, gn_c9)) else (bif Nat.blt mi 11 then ((24, gn_c10)) else ((38, gn_c11)))))) else (bif Nat.blt mi 18 then (bif Nat.blt mi 15 then (bif Nat.blt mi 13 then ((17, gn_c12)) else (bif Nat.blt mi 14 then ((94, gn_c13)) else ((16, gn_c14)))) else (bif Nat.blt mi 16 then ((20, gn_c15)) else (bif Nat.blt mi 17 then ((21, gn_c16)) else ((21, gn_c17))))) else (bif Nat.blt mi 21 then (bif Nat.blt mi 19 then ((23, gn_c18)) else (bif Nat.blt mi 20 then ((8, gn_c19)) else ((8, gn_c20)))) else (bif Nat.blt mi 23 then (bif Nat.blt mi 22 then ((8, gn_c21)) else ((8, gn_c22))) else (bif Nat.blt mi 24 then ((8, gn_c23)) else ((8, gn_c24))))))) else (bif Nat.blt mi 38 then (bif Nat.blt mi 31 then (bif Nat.blt mi 28 then (bif Nat.blt mi 26 then ((27, gn_c25)) else (bif Nat.blt mi 27 then ((12, gn_c26)) else ((27, gn_c27)))) else (bif Nat.blt mi 29 then ((32, gn_c28)) else (bif Nat.blt mi 30 then ((31, gn_c29)) else ((22, gn_c30))))) else (bif Nat.blt mi 34 then (bif Nat.blt mi 32 then ((39, gn_c31)) else (bif Nat.blt mi 33 then ((24, gn_c32)) else ((46, gn_c33)))) else (bif Nat.blt mi 36 then (bif Nat.blt mi 35 then ((22, gn_c34)) else ((62, gn_c35))) else (bif Nat.blt mi 37 then ((68, gn_c36)) else ((35, gn_c37)))))) else (bif Nat.blt mi 44 then (bif Nat.blt mi 41 then (bif Nat.blt mi 39 then ((16, gn_c38)) else (bif Nat.blt mi 40 then ((46, gn_c39)) else ((56, gn_c40)))) else (bif Nat.blt mi 42 then ((6, gn_c41)) else (bif Nat.blt mi 43 then ((50, gn_c42)) else ((62, gn_c43))))) else (bif Nat.blt mi 47 then (bif Nat.blt mi 45 then ((121, gn_c44)) else (bif Nat.blt mi 46 then ((91, gn_c45)) else ((93, gn_c46)))) else (bif Nat.blt mi 49 then (bif Nat.blt mi 48 then ((77, gn_c47)) else ((156, gn_c48))) else (bif Nat.blt mi 50 then ((23, gn_c49)) else ((34, gn_c50)))))))) else (bif Nat.blt mi 76 then (bif Nat.blt mi 63 then (bif Nat.blt mi 57 then (bif Nat.blt mi 54 then (bif Nat.blt mi 52 then ((52, gn_c51)) else (bif Nat.blt mi 53 then ((21, gn_c52)) else ((86, gn_c53)))) else (bif Nat.blt mi 55 then ((31, gn_c54)) else (bif Nat.blt mi 56 then ((97, gn_c55)) else ((50, gn_c56))))) else (bif Nat.blt mi 60 then (bif Nat.blt mi 58 then ((32, gn_c57)) else (bif Nat.blt mi 59 then ((121, gn_c58)) else ((46, gn_c59)))) else (bif Nat.blt mi 61 then ((30, gn_c60)) else (bif Nat.blt mi 62 then ((18, gn_c61)) else ((18, gn_c62)))))) else (bif Nat.blt mi 69 then (bif Nat.blt mi 66 then (bif Nat.blt mi 64 then ((21, gn_c63)) else (bif Nat.blt mi 65 then ((51, gn_c64)) else ((87, gn_c65)))) else (bif Nat.blt mi 67 then ((40, gn_c66)) else (bif Nat.blt mi 68 then ((18, gn_c67)) else ((18, gn_c68))))) else (bif Nat.blt mi 72 then (bif Nat.blt mi 70 then ((32, gn_c69)) else (bif Nat.blt mi 71 then ((19, gn_c70)) else ((19, gn_c71)))) else (bif Nat.blt mi 74 then (bif Nat.blt mi 73 then ((25, gn_c72)) else ((25, gn_c73))) else (bif Nat.blt mi 75 then ((19, gn_c74)) else ((19, gn_c75))))))) else (bif Nat.blt mi 89 then (bif Nat.blt mi 82 then (bif Nat.blt mi 79 then (bif Nat.blt mi 77 then ((17, gn_c76)) else (bif Nat.blt mi 78 then ((80, gn_c77)) else ((57, gn_c78)))) else (bif Nat.blt mi 80 then ((24, gn_c79)) else (bif Nat.blt mi 81 then ((41, gn_c80)) else ((36, gn_c81))))) else (bif Nat.blt mi 85 then (bif Nat.blt mi 83 then ((35, gn_c82)) else (bif Nat.blt mi 84 then ((19, gn_c83)) else ((18, gn_c84)))) else (bif Nat.blt mi 87 then (bif Nat.blt mi 86 then ((32, gn_c85)) else ((45, gn_c86))) else (bif Nat.blt mi 88 then ((50, gn_c87)) else ((110, gn_c88)))))) else (bif Nat.blt mi 95 then (bif Nat.blt mi 92 then (bif Nat.blt mi 90 then ((72, gn_c89)) else (bif Nat.blt mi 91 then ((14, gn_c90)) else ((57, gn_c91)))) else (bif Nat.blt mi 93 then ((38, gn_c92)) else (bif Nat.blt mi 94 then ((108, gn_c93)) else ((8, gn_c94))))) else (bif Nat.blt mi 98 then (bif Nat.blt mi 96 then ((267, gn_c95)) else (bif Nat.blt mi 97 then ((109, gn_c96)) else ((59, gn_c97)))) else (bif Nat.blt mi 100 then (bif Nat.blt mi 99 then ((70, gn_c98)) else ((52, gn_c99))) else (bif Nat.blt mi 101 then ((65, gn_c100)) else ((63, gn_c101))))))))) else (bif Nat.blt mi 153 then (bif Nat.blt mi 127 then (bif Nat.blt mi 114 then (bif Nat.blt mi 108 then (bif Nat.blt mi 105 then (bif Nat.blt mi 103 then ((56, gn_c102)) else (bif Nat.blt mi 104 then ((55, gn_c103)) else ((59, gn_c104)))) else (bif Nat.blt mi 106 then ((70, gn_c105)) else (bif Nat.blt mi 107 then ((48, gn_c106)) else ((46, gn_c107))))) else (bif Nat.blt mi 111 then (bif Nat.blt mi 109 then ((77, gn_c108)) else (bif Nat.blt mi 110 then ((58, gn_c109)) else ((54, gn_c110)))) else (bif Nat.blt mi 112 then ((100, gn_c111)) else (bif Nat.blt mi 113 then ((30, gn_c112)) else ((21, gn_c113)))))) else (bif Nat.blt mi 120 then (bif Nat.blt mi 117 then (bif Nat.blt mi 115 then ((54, gn_c114)) else (bif Nat.blt mi 116 then ((35, gn_c115)) else ((12, gn_c116)))) else (bif Nat.blt mi 118 then ((12, gn_c117)) else (bif Nat.blt mi 119 then ((55, gn_c118)) else ((12, gn_c119))))) else (bif Nat.blt mi 123 then (bif Nat.blt mi 121 then ((34, gn_c120)) else (bif Nat.blt mi 122 then ((25, gn_c121)) else ((35, gn_c122)))) else (bif Nat.blt mi 125 then (bif Nat.blt mi 124 then ((47, gn_c123)) else ((16, gn_c124))) else (bif Nat.blt mi 126 then ((16, gn_c125)) else ((15, gn_c126))))))) else (bif Nat.blt mi 140 then (bif Nat.blt mi 133 then (bif Nat.blt mi 130 then (bif Nat.blt mi 128 then ((33, gn_c127)) else (bif Nat.blt mi 129 then ((16, gn_c128)) else ((47, gn_c129)))) else (bif Nat.blt mi 131 then ((16, gn_c130)) else (bif Nat.blt mi 132 then ((15, gn_c131)) else ((12, gn_c132))))) else (bif Nat.blt mi 136 then (bif Nat.blt mi 134 then ((12, gn_c133)) else (bif Nat.blt mi 135 then ((31, gn_c134)) else ((52, gn_c135)))) else (bif Nat.blt mi 138 then (bif Nat.blt mi 137 then ((18, gn_c136)) else ((13, gn_c137))) else (bif Nat.blt mi 139 then ((63, gn_c138)) else ((139, gn_c139)))))) else (bif Nat.blt mi 146 then (bif Nat.blt mi 143 then (bif Nat.blt mi 141 then ((31, gn_c140)) else (bif Nat.blt mi 142 then ((158, gn_c141)) else ((55, gn_c142)))) else (bif Nat.blt mi 144 then ((142, gn_c143)) else (bif Nat.blt mi 145 then ((100, gn_c144)) else ((205, gn_c145))))) else (bif Nat.blt mi 149 then (bif Nat.blt mi 147 then ((105, gn_c146)) else (bif Nat.blt mi 148 then ((5, gn_c147)) else ((15, gn_c148)))) else (bif Nat.blt mi 151 then (bif Nat.blt mi 150 then ((15, gn_c149)) else ((125, gn_c150))) else (bif Nat.blt mi 152 then ((10, gn_c151)) else ((43, gn_c152)))))))) else (bif Nat.blt mi 179 then (bif Nat.blt mi 166 then (bif Nat.blt mi 159 then (bif Nat.blt mi 156 then (bif Nat.blt mi 154 then ((38, gn_c153)) else (bif Nat.blt mi 155 then ((39, gn_c154)) else ((33, gn_c155)))) else (bif Nat.blt mi 157 then ((32, gn_c156)) else (bif Nat.blt mi 158 then ((91, gn_c157)) else ((87, gn_c158))))) else (bif Nat.blt mi 162 then (bif Nat.blt mi 160 then ((216, gn_c159)) else (bif Nat.blt mi 161 then ((102, gn_c160)) else ((66, gn_c161)))) else (bif Nat.blt mi 164 then (bif Nat.blt mi 163 then ((58, gn_c162)) else ((79, gn_c163))) else (bif Nat.blt mi 165 then ((66, gn_c164)) else ((42, gn_c165)))))) else (bif Nat.blt mi 172 then (bif Nat.blt mi 169 then (bif Nat.blt mi 167 then ((36, gn_c166)) else (bif Nat.blt mi 168 then ((42, gn_c167)) else ((27, gn_c168)))) else (bif Nat.blt mi 170 then ((53, gn_c169)) else (bif Nat.blt mi 171 then ((76, gn_c170)) else ((72, gn_c171))))) else (bif Nat.blt mi 175 then (bif Nat.blt mi 173 then ((38, gn_c172)) else (bif Nat.blt mi 174 then ((98, gn_c173)) else ((46, gn_c174)))) else (bif Nat.blt mi 177 then (bif Nat.blt mi 176 then ((43, gn_c175)) else ((52, gn_c176))) else (bif Nat.blt mi 178 then ((41, gn_c177)) else ((87, gn_c178))))))) else (bif Nat.blt mi 192 then (bif Nat.blt mi 185 then (bif Nat.blt mi 182 then (bif Nat.blt mi 180 then ((61, gn_c179)) else (bif Nat.blt mi 181 then ((73, gn_c180)) else ((53, gn_c181)))) else (bif Nat.blt mi 183 then ((22, gn_c182)) else (bif Nat.blt mi 184 then ((53, gn_c183)) else ((151, gn_c184))))) else (bif Nat.blt mi 188 then (bif Nat.blt mi 186 then ((132, gn_c185)) else (bif Nat.blt mi 187 then ((21, gn_c186)) else ((114, gn_c187)))) else (bif Nat.blt mi 190 then (bif Nat.blt mi 189 then ((125, gn_c188)) else ((24, gn_c189))) else (bif Nat.blt mi 191 then ((36, gn_c190)) else ((88, gn_c191)))))) else (bif Nat.blt mi 198 then (bif Nat.blt mi 195 then (bif Nat.blt mi 193 then ((36, gn_c192)) else (bif Nat.blt mi 194 then ((94, gn_c193)) else ((54, gn_c194)))) else (bif Nat.blt mi 196 then ((60, gn_c195)) else (bif Nat.blt mi 197 then ((89, gn_c196)) else ((166, gn_c197))))) else (bif Nat.blt mi 201 then (bif Nat.blt mi 199 then ((71, gn_c198)) else (bif Nat.blt mi 200 then ((43, gn_c199)) else ((22, gn_c200)))) else (bif Nat.blt mi 203 then (bif Nat.blt mi 202 then ((25, gn_c201)) else ((43, gn_c202))) else (bif Nat.blt mi 204 then ((45, gn_c203)) else ((53, gn_c204)))))))))) else (0, fun _ => none)
noncomputable def gn_cd (mi pc : Nat) : Option gn_En := bif Nat.blt pc (gn_mth mi).1 then (gn_mth mi).2 pc else none
def gn_fldT : List (Nat × Nat × Nat × Nat × Nat) := [(0, 18, 0, 2, 0), (0, 11, 0, 0, 0), (0, 15, 0, 1, 0), (1, 7, 1, 0, 0), (1, 20, 9, 2, 1), (1, 25, 9, 3, 1), (2, 19, 2, 2, 0), (2, 11, 2, 0, 0), (2, 15, 2, 1, 0), (2, 23, 9, 2, 1), (3, 15, 4, 0, 1), (3, 9, 3, 0, 0), (3, 22, 1, 0, 1), (3, 28, 3, 1, 0), (3, 31, 3, 2, 0), (4, 11, 4, 0, 0), (4, 25, 9, 2, 1), (5, 15, 5, 2, 0), (5, 19, 4, 0, 1), (5, 11, 5, 0, 0), (5, 22, 5, 1, 0), (6, 9, 6, 0, 0), (6, 15, 6, 1, 0), (6, 18, 6, 2, 0), (6, 35, 9, 3, 1), (7, 27, 9, 2, 1), (7, 39, 7, 5, 0), (7, 40, 9, 3, 1), (7, 43, 7, 6, 0), (7, 44, 7, 7, 0), (7, 18, 7, 2, 0), (7, 9, 7, 0, 0), (7, 15, 7, 1, 0), (7, 21, 7, 3, 0), (7, 24, 7, 4, 0), (8, 19, 8, 1, 0), (8, 11, 8, 0, 0), (8, 27, 8, 2, 0), (8, 30, 8, 3, 0), (8, 15, 8, 4, 0), (8, 45, 9, 0, 1), (8, 66, 9, 1, 1), (8, 72, 9, 2, 1), (8, 82, 9, 3, 1), (9, 33, 9, 0, 0), (9, 37, 9, 1, 0), (9, 41, 9, 2, 0), (9, 44, 9, 3, 0), (9, 9, 9, 4, 0), (9, 15, 9, 5, 0), (9, 24, 9, 8, 0), (9, 18, 9, 6, 0), (9, 21, 9, 7, 0), (9, 27, 9, 9, 0), (9, 30, 9, 10, 0), (10, 18, 10, 2, 0), (10, 37, 10, 3, 0), (10, 15, 10, 1, 0), (10, 9, 10, 0, 0), (11, 10, 11, 0, 0), (11, 97, 8, 1, 1), (11, 89, 11, 12, 0), (11, 106, 8, 3, 1), (11, 85, 11, 11, 0), (11, 19, 11, 1, 0), (11, 26, 11, 2, 0), (11, 33, 11, 3, 0), (11, 115, 3, 2, 1), (11, 37, 11, 4, 0), (11, 71, 11, 9, 0), (11, 119, 2, 2, 1), (11, 78, 11, 10, 0), (11, 122, 0, 2, 1), (11, 123, 9, 2, 1), (11, 126, 8, 4, 1), (11, 129, 9, 0, 1), (11, 132, 9, 3, 1), (11, 135, 9, 1, 1), (11, 173, 5, 2, 1), (11, 43, 11, 5, 0), (11, 50, 11, 6, 0), (11, 280, 6, 0, 1), (11, 283, 6, 1, 1), (11, 286, 6, 2, 1), (11, 57, 11, 7, 0), (11, 291, 7, 7, 1), (11, 64, 11, 8, 0), (11, 338, 1, 0, 1), (12, 69, 12, 8, 0), (12, 76, 12, 9, 0), (12, 7, 12, 0, 0), (12, 80, 12, 13, 0), (12, 28, 12, 12, 0), (12, 84, 12, 22, 0), (12, 87, 12, 23, 0), (12, 90, 12, 21, 0), (12, 105, 12, 24, 0), (12, 113, 12, 25, 0), (12, 116, 12, 26, 0), (12, 48, 12, 28, 0), (12, 54, 12, 30, 0), (12, 51, 12, 29, 0), (12, 119, 12, 27, 0), (12, 57, 12, 31, 0), (12, 60, 12, 32, 0), (12, 31, 12, 14, 0), (12, 138, 12, 6, 0), (12, 141, 12, 7, 0), (12, 13, 12, 1, 0), (12, 19, 12, 3, 0), (12, 16, 12, 2, 0), (12, 22, 12, 4, 0), (12, 25, 12, 5, 0), (12, 147, 12, 10, 0), (12, 150, 12, 11, 0), (12, 153, 12, 17, 0), (12, 156, 12, 20, 0), (12, 63, 12, 33, 0), (12, 66, 12, 34, 0), (12, 35, 12, 15, 0), (12, 38, 12, 16, 0), (12, 42, 12, 18, 0), (12, 45, 12, 19, 0)]
def gn_mthT : List (Nat × Nat × Nat × Nat) := [(0, 22, 16, 1), (1, 28, 2, 0), (1, 32, 30, 1), (1, 38, 31, 1), (1, 42, 25, 1), (1, 46, 35, 1), (2, 28, 6, 0), (2, 32, 84, 1), (2, 36, 5, 0), (4, 15, 13, 0), (4, 19, 75, 1), (4, 33, 15, 0), (4, 42, 25, 0), (4, 45, 71, 1), (4, 48, 16, 0), (4, 51, 18, 0), (4, 54, 29, 0), (4, 57, 33, 0), (4, 61, 34, 0), (4, 65, 26, 0), (4, 68, 79, 1), (4, 76, 27, 0), (4, 80, 28, 0), (4, 83, 17, 0), (4, 86, 38, 0), (4, 90, 80, 1), (6, 21, 16, 1), (6, 27, 71, 1), (6, 32, 26, 1), (6, 38, 18, 1), (6, 41, 79, 1), (7, 47, 18, 1), (7, 53, 46, 0), (7, 57, 47, 0), (7, 60, 48, 0), (7, 64, 16, 1), (7, 67, 26, 1), (7, 70, 80, 1), (8, 22, 63, 1), (8, 33, 52, 0), (8, 37, 53, 0), (8, 41, 59, 0), (8, 49, 54, 0), (8, 52, 62, 0), (8, 56, 55, 0), (8, 59, 56, 0), (8, 62, 58, 0), (8, 69, 57, 0), (8, 75, 64, 1), (8, 79, 65, 1), (8, 85, 66, 1), (8, 92, 60, 0), (9, 47, 67, 0), (9, 51, 69, 0), (9, 55, 68, 0), (9, 58, 76, 0), (9, 71, 77, 0), (9, 75, 79, 0), (9, 78, 71, 0), (9, 82, 72, 0), (9, 85, 81, 0), (9, 88, 83, 0), (9, 91, 87, 0), (9, 94, 73, 0), (10, 22, 71, 1), (10, 40, 77, 1), (10, 44, 89, 0), (11, 93, 50, 1), (11, 102, 51, 1), (11, 109, 11, 1), (11, 112, 41, 1), (11, 138, 23, 1), (11, 142, 24, 1), (11, 145, 21, 1), (11, 148, 22, 1), (11, 151, 19, 1), (11, 154, 37, 1), (11, 158, 20, 1), (11, 161, 82, 1), (11, 164, 85, 1), (11, 167, 39, 1), (11, 170, 40, 1), (11, 174, 67, 1), (11, 178, 70, 1), (11, 182, 71, 1), (11, 185, 15, 1), (11, 188, 16, 1), (11, 191, 17, 1), (11, 194, 81, 1), (11, 200, 72, 1), (11, 204, 73, 1), (11, 207, 68, 1), (11, 210, 74, 1), (11, 213, 75, 1), (11, 216, 18, 1), (11, 219, 27, 1), (11, 224, 42, 1), (11, 228, 28, 1), (11, 231, 30, 1), (11, 235, 31, 1), (11, 239, 127, 0), (11, 242, 29, 1), (11, 245, 32, 1), (11, 248, 25, 1), (11, 251, 35, 1), (11, 254, 129, 0), (11, 257, 36, 1), (11, 261, 12, 1), (11, 264, 3, 1), (11, 268, 43, 1), (11, 272, 79, 1), (11, 276, 44, 1), (11, 289, 45, 1), (11, 292, 49, 1), (11, 295, 88, 1), (11, 299, 90, 1), (11, 302, 69, 1), (11, 305, 91, 1), (11, 308, 83, 1), (11, 314, 86, 1), (11, 321, 4, 1), (11, 325, 5, 1), (11, 328, 7, 1), (11, 331, 0, 1), (11, 334, 1, 1), (11, 344, 128, 0), (11, 348, 9, 1), (11, 352, 10, 1), (12, 93, 137, 0), (12, 97, 138, 0), (12, 101, 136, 0), (12, 109, 139, 0), (12, 122, 140, 0), (12, 126, 141, 0), (12, 129, 142, 0), (12, 132, 143, 0), (12, 135, 145, 0), (12, 144, 146, 0), (12, 159, 149, 0), (12, 163, 148, 0), (12, 170, 150, 0), (12, 174, 153, 0), (12, 177, 155, 0), (12, 180, 151, 0), (12, 183, 152, 0), (12, 186, 154, 0), (12, 189, 156, 0), (12, 192, 157, 0), (12, 195, 158, 0), (12, 198, 132, 0), (12, 203, 133, 0), (12, 206, 134, 0), (12, 210, 163, 0), (12, 214, 167, 0), (12, 217, 166, 0), (12, 220, 165, 0), (12, 223, 168, 0), (12, 226, 171, 0), (12, 230, 174, 0), (12, 233, 173, 0), (12, 243, 177, 0), (12, 246, 178, 0), (12, 249, 182, 0), (12, 252, 183, 0), (12, 258, 185, 0), (12, 261, 188, 0), (12, 264, 189, 0), (12, 271, 196, 0)]
def gn_sttT : List (Nat × Nat × Nat × Nat) := [(2, 40, 0, 204), (2, 46, 0, 8), (2, 50, 2, 0), (3, 16, 1, 0), (4, 29, 0, 14), (4, 36, 2, 0), (4, 73, 3, 0), (5, 25, 1, 0), (5, 31, 3, 0), (7, 33, 3, 0), (7, 74, 2, 0), (7, 77, 1, 0), (8, 88, 0, 61), (8, 95, 3, 0), (9, 61, 0, 78), (9, 65, 2, 0), (10, 28, 3, 0), (10, 34, 2, 0), (11, 197, 0, 124), (11, 311, 0, 125), (11, 341, 0, 126), (12, 72, 0, 130), (12, 166, 0, 131), (12, 255, 0, 186)]
def gn_conT : List (Nat × Nat × Int32) := [(1, 19, 65536), (4, 72, 999999), (11, 92, (-1000000002)), (11, 101, (-1000000004)), (11, 177, (-1000000001)), (11, 223, (-1000000003)), (11, 260, 90000), (12, 79, (-1000000002)), (12, 83, (-1000000004)), (12, 202, (-1000000001)), (12, 209, (-1000000003)), (12, 213, 999999), (12, 229, 90000), (12, 242, 65536), (13, 265, 1431655765), (13, 266, 858993459), (13, 267, 252645135)]
def gn_lonT : List (Nat × Nat × Nat) := [(1, 13, 1103515245), (1, 15, 12345), (1, 17, 2147483647), (11, 317, 1000000000), (11, 319, 100), (12, 236, 1103515245), (12, 238, 12345), (12, 240, 2147483648), (12, 267, 1000000000), (12, 269, 100)]
end
section
/-! the links and words, by their places in lw_tbl: printed by wip/whole/gen/tables.py -/
theorem gn_in_of {α : Type} {f : α → Cond} {l : List α} {ps : List Nat} (h : l.map f = ps.filterMap (fun i => lw_tbl[i]?)) : ∀ t ∈ l, f t ∈ lw_tbl := by
  intro t ht
  have h1 : f t ∈ l.map f := List.mem_map.mpr ⟨t, ht, rfl⟩
  rw [h] at h1
  obtain ⟨i, -, hi⟩ := List.mem_filterMap.mp h1
  exact List.mem_of_getElem? hi
def gn_nm (q : Nat) : String := gn_nms.getD q ""
def gn_Tf (q : Nat) : u_T := (gn_cls.getD q ("", gn_T0, 0)).2.1
def gn_fw (t : Nat × Nat × Nat × Nat × Nat) : Cond := bif Nat.beq t.2.2.2.2 0 then .fieldLink (gn_nm t.1) t.2.1 (gn_Tf t.2.2.1 t.2.2.2.1).1 (gn_Tf t.2.2.1 t.2.2.2.1).2.1 (gn_Tf t.2.2.1 t.2.2.2.1).2.2.1 else .fieldLinkNest (gn_nm t.1) t.2.1 (gn_Tf t.2.2.1 t.2.2.2.1).1 (gn_Tf t.2.2.1 t.2.2.2.1).2.1 (gn_Tf t.2.2.1 t.2.2.2.1).2.2.1 "GuestNoes"
def gn_y (i : Nat) : MethodName := (gn_meta.getD i (⟨"", "", ""⟩, prog_1_method_1_code, 0, none, false, 0, 0)).1
def gn_mw (t : Nat × Nat × Nat × Nat) : Cond := bif Nat.beq t.2.2.2 0 then .methodLink (gn_nm t.1) t.2.1 (gn_y t.2.2.1) else .methodLinkNest (gn_nm t.1) t.2.1 (gn_y t.2.2.1) "GuestNoes"
def gn_sw (t : Nat × Nat × Nat × Nat) : Cond := match t.2.2.1 with | 0 => .methodLink (gn_nm t.1) t.2.1 (gn_y t.2.2.2) | 1 => .methodLink (gn_nm t.1) t.2.1 ⟨"java/lang/System", "arraycopy", "(Ljava/lang/Object;ILjava/lang/Object;II)V"⟩ | 2 => .methodLink (gn_nm t.1) t.2.1 ⟨"java/lang/Math", "max", "(II)I"⟩ | _ => .methodLink (gn_nm t.1) t.2.1 ⟨"java/lang/Math", "min", "(II)I"⟩
set_option maxRecDepth 100000 in
theorem gn_fw_in : ∀ t ∈ gn_fldT, gn_fw t ∈ lw_tbl := gn_in_of (ps := [335, 333, 334, 233, 358, 366, 317, 315, 316, 359, 188, 216, 234, 217, 218, 187, 361, 201, 189, 199, 200, 245, 247, 249, 365, 356, 269, 363, 270, 271, 266, 264, 265, 267, 268, 162, 161, 164, 165, 167, 351, 355, 362, 368, 350, 353, 357, 364, 369, 370, 373, 371, 372, 374, 375, 298, 299, 297, 296, 399, 163, 411, 166, 410, 400, 401, 402, 219, 403, 408, 318, 409, 336, 360, 168, 352, 367, 354, 202, 404, 405, 246, 248, 250, 406, 272, 407, 235, 1040, 1041, 1032, 1045, 1044, 1054, 1055, 1053, 1056, 1057, 1058, 1060, 1062, 1061, 1059, 1063, 1064, 1046, 1038, 1039, 1033, 1035, 1034, 1036, 1037, 1042, 1043, 1049, 1052, 1065, 1066, 1047, 1048, 1050, 1051]) (by decide +kernel)
set_option maxRecDepth 100000 in
theorem gn_mw_in : ∀ t ∈ gn_mthT, gn_mw t ∈ lw_tbl := gn_in_of (ps := [993, 809, 817, 818, 819, 820, 950, 954, 966, 527, 531, 709, 705, 710, 575, 732, 733, 741, 750, 745, 630, 791, 792, 626, 622, 644, 842, 843, 844, 845, 846, 856, 857, 864, 869, 861, 862, 863, 457, 461, 473, 465, 477, 488, 499, 515, 481, 495, 503, 507, 519, 469, 511, 602, 535, 606, 634, 648, 594, 598, 590, 614, 923, 927, 886, 889, 890, 444, 453, 523, 539, 551, 555, 559, 563, 567, 571, 582, 586, 610, 618, 649, 657, 659, 663, 664, 668, 669, 670, 678, 679, 687, 688, 692, 693, 701, 712, 720, 728, 737, 760, 764, 765, 773, 774, 782, 787, 797, 805, 825, 833, 838, 851, 874, 882, 894, 902, 903, 911, 919, 938, 946, 962, 981, 989, 1009, 1013, 1022, 1151, 1155, 1163, 1171, 1167, 1175, 1179, 1159, 1183, 1187, 1238, 1211, 1234, 1207, 1222, 1230, 1199, 1203, 1218, 1226, 1242, 1250, 1263, 1276, 1272, 1292, 1296, 1284, 1288, 1309, 1317, 1322, 1338, 1334, 1358, 1373, 1369, 1381, 1385, 1419]) (by decide +kernel)
set_option maxRecDepth 100000 in
theorem gn_sw_in : ∀ t ∈ gn_sttT, gn_sw t ∈ lw_tbl := gn_in_of (ps := [967, 973, 976, 1017, 579, 749, 755, 716, 719, 855, 868, 873, 485, 492, 638, 641, 887, 888, 675, 916, 1006, 1142, 1215, 1366]) (by decide +kernel)
set_option maxRecDepth 100000 in
theorem gn_cw_in : ∀ t ∈ gn_conT, Cond.constant (gn_nm t.1) t.2.1 t.2.2 ∈ lw_tbl := gn_in_of (f := fun (t : Nat × Nat × Int32) => Cond.constant (gn_nm t.1) t.2.1 t.2.2) (ps := [816, 754, 443, 448, 658, 711, 786, 1145, 1146, 1254, 1271, 1300, 1321, 1345, 970, 971, 972]) (by decide +kernel)
set_option maxRecDepth 100000 in
theorem gn_lw_in : ∀ t ∈ gn_lonT, Cond.constantLong (gn_nm t.1) t.2.1 (Int64.ofNat t.2.2) ∈ lw_tbl := gn_in_of (f := fun (t : Nat × Nat × Nat) => Cond.constantLong (gn_nm t.1) t.2.1 (Int64.ofNat t.2.2)) (ps := [813, 814, 815, 932, 933, 1342, 1343, 1344, 1405, 1406]) (by decide +kernel)
set_option maxRecDepth 100000 in
theorem gn_code_in_0 : ∀ t ∈ (gn_meta.drop 0).take 15, Cond.code t.1 t.2.1 t.2.2.1 t.2.2.2.1 ∈ lw_tbl := gn_in_of (f := fun (t : MethodName × ByteArray × Nat × Option FieldType × Bool × Nat × Nat) => Cond.code t.1 t.2.1 t.2.2.1 t.2.2.2.1) (ps := [984, 992, 812, 808, 941, 949, 953, 965, 975, 1016, 1025, 526, 800, 530, 581]) (by decide +kernel)
set_option maxRecDepth 100000 in
theorem gn_code_in_1 : ∀ t ∈ (gn_meta.drop 15).take 15, Cond.code t.1 t.2.1 t.2.2.1 t.2.2.2.1 ∈ lw_tbl := gn_in_of (f := fun (t : MethodName × ByteArray × Nat × Option FieldType × Bool × Nat × Nat) => Cond.code t.1 t.2.1 t.2.2.1 t.2.2.2.1) (ps := [667, 578, 629, 696, 570, 585, 562, 566, 554, 558, 708, 748, 704, 723, 736]) (by decide +kernel)
set_option maxRecDepth 100000 in
theorem gn_code_in_2 : ∀ t ∈ (gn_meta.drop 30).take 15, Cond.code t.1 t.2.1 t.2.2.1 t.2.2.2.1 ∈ lw_tbl := gn_in_of (f := fun (t : MethodName × ByteArray × Nat × Option FieldType × Bool × Nat × Nat) => Cond.code t.1 t.2.1 t.2.2.1 t.2.2.2.1) (ps := [731, 740, 768, 744, 753, 777, 790, 574, 625, 621, 652, 542, 715, 828, 841]) (by decide +kernel)
set_option maxRecDepth 100000 in
theorem gn_code_in_3 : ∀ t ∈ (gn_meta.drop 45).take 15, Cond.code t.1 t.2.1 t.2.2.1 t.2.2.2.1 ∈ lw_tbl := gn_in_of (f := fun (t : MethodName × ByteArray × Nat × Option FieldType × Bool × Nat × Nat) => Cond.code t.1 t.2.1 t.2.2.1 t.2.2.2.1) (ps := [854, 860, 867, 872, 877, 447, 456, 464, 476, 480, 502, 518, 498, 484, 468]) (by decide +kernel)
set_option maxRecDepth 100000 in
theorem gn_code_in_4 : ∀ t ∈ (gn_meta.drop 60).take 15, Cond.code t.1 t.2.1 t.2.2.1 t.2.2.2.1 ∈ lw_tbl := gn_in_of (f := fun (t : MethodName × ByteArray × Nat × Option FieldType × Bool × Nat × Nat) => Cond.code t.1 t.2.1 t.2.2.1 t.2.2.2.1) (ps := [472, 487, 491, 460, 506, 510, 522, 514, 538, 605, 662, 597, 601, 682, 691]) (by decide +kernel)
set_option maxRecDepth 100000 in
theorem gn_code_in_5 : ∀ t ∈ (gn_meta.drop 75).take 15, Cond.code t.1 t.2.1 t.2.2.1 t.2.2.2.1 ∈ lw_tbl := gn_in_of (f := fun (t : MethodName × ByteArray × Nat × Option FieldType × Bool × Nat × Nat) => Cond.code t.1 t.2.1 t.2.2.1 t.2.2.2.1) (ps := [534, 609, 637, 640, 633, 647, 593, 589, 617, 957, 613, 922, 926, 885, 893]) (by decide +kernel)
set_option maxRecDepth 100000 in
theorem gn_code_in_6 : ∀ t ∈ (gn_meta.drop 90).take 15, Cond.code t.1 t.2.1 t.2.2.1 t.2.2.2.1 ∈ lw_tbl := gn_in_of (f := fun (t : MethodName × ByteArray × Nat × Option FieldType × Bool × Nat × Nat) => Cond.code t.1 t.2.1 t.2.2.1 t.2.2.2.1) (ps := [897, 906, 442, 452, 546, 550, 656, 674, 686, 700, 727, 759, 772, 781, 796]) (by decide +kernel)
set_option maxRecDepth 100000 in
theorem gn_code_in_7 : ∀ t ∈ (gn_meta.drop 105).take 15, Cond.code t.1 t.2.1 t.2.2.1 t.2.2.2.1 ∈ lw_tbl := gn_in_of (f := fun (t : MethodName × ByteArray × Nat × Option FieldType × Bool × Nat × Nat) => Cond.code t.1 t.2.1 t.2.2.1 t.2.2.2.1) (ps := [804, 824, 832, 837, 850, 881, 901, 910, 915, 931, 937, 945, 961, 980, 988]) (by decide +kernel)
set_option maxRecDepth 100000 in
theorem gn_code_in_8 : ∀ t ∈ (gn_meta.drop 120).take 15, Cond.code t.1 t.2.1 t.2.2.1 t.2.2.2.1 ∈ lw_tbl := gn_in_of (f := fun (t : MethodName × ByteArray × Nat × Option FieldType × Bool × Nat × Nat) => Cond.code t.1 t.2.1 t.2.2.1 t.2.2.2.1) (ps := [997, 1001, 1005, 1021, 677, 918, 1008, 763, 1012, 785, 1144, 1217, 1253, 1266, 1279]) (by decide +kernel)
set_option maxRecDepth 100000 in
theorem gn_code_in_9 : ∀ t ∈ (gn_meta.drop 135).take 15, Cond.code t.1 t.2.1 t.2.2.1 t.2.2.2.1 ∈ lw_tbl := gn_in_of (f := fun (t : MethodName × ByteArray × Nat × Option FieldType × Bool × Nat × Nat) => Cond.code t.1 t.2.1 t.2.2.1 t.2.2.2.1) (ps := [1141, 1166, 1154, 1158, 1174, 1170, 1178, 1182, 1162, 1150, 1186, 1190, 1194, 1214, 1241]) (by decide +kernel)
set_option maxRecDepth 100000 in
theorem gn_code_in_10 : ∀ t ∈ (gn_meta.drop 150).take 15, Cond.code t.1 t.2.1 t.2.2.1 t.2.2.2.1 ∈ lw_tbl := gn_in_of (f := fun (t : MethodName × ByteArray × Nat × Option FieldType × Bool × Nat × Nat) => Cond.code t.1 t.2.1 t.2.2.1 t.2.2.2.1) (ps := [1237, 1233, 1202, 1210, 1206, 1225, 1221, 1229, 1245, 1198, 1249, 1258, 1262, 1275, 1270]) (by decide +kernel)
set_option maxRecDepth 100000 in
theorem gn_code_in_11 : ∀ t ∈ (gn_meta.drop 165).take 15, Cond.code t.1 t.2.1 t.2.2.1 t.2.2.2.1 ∈ lw_tbl := gn_in_of (f := fun (t : MethodName × ByteArray × Nat × Option FieldType × Bool × Nat × Nat) => Cond.code t.1 t.2.1 t.2.2.1 t.2.2.2.1) (ps := [1287, 1299, 1295, 1291, 1283, 1304, 1312, 1308, 1325, 1320, 1316, 1329, 1341, 1337, 1333]) (by decide +kernel)
set_option maxRecDepth 100000 in
theorem gn_code_in_12 : ∀ t ∈ (gn_meta.drop 180).take 15, Cond.code t.1 t.2.1 t.2.2.1 t.2.2.2.1 ∈ lw_tbl := gn_in_of (f := fun (t : MethodName × ByteArray × Nat × Option FieldType × Bool × Nat × Nat) => Cond.code t.1 t.2.1 t.2.2.1 t.2.2.2.1) (ps := [1349, 1353, 1361, 1376, 1357, 1372, 1368, 1365, 1384, 1388, 1380, 1392, 1396, 1400, 1404]) (by decide +kernel)
set_option maxRecDepth 100000 in
theorem gn_code_in_13 : ∀ t ∈ (gn_meta.drop 195).take 15, Cond.code t.1 t.2.1 t.2.2.1 t.2.2.2.1 ∈ lw_tbl := gn_in_of (f := fun (t : MethodName × ByteArray × Nat × Option FieldType × Bool × Nat × Nat) => Cond.code t.1 t.2.1 t.2.2.1 t.2.2.2.1) (ps := [1410, 1414, 1418, 1423, 1427, 1431, 1435, 1439, 1443, 969]) (by decide +kernel)
theorem gn_chunk {α : Type} {P : α → Prop} {l : List α} {m n : Nat} (h1 : ∀ t ∈ (l.drop m).take n, P t) (h2 : ∀ t ∈ l.drop (m + n), P t) : ∀ t ∈ l.drop m, P t := by
  intro t ht
  rw [← List.take_append_drop n (l.drop m)] at ht
  rcases List.mem_append.mp ht with h | h
  · exact h1 t h
  · rw [List.drop_drop] at h
    exact h2 t h
set_option maxRecDepth 100000 in
theorem gn_code_in : ∀ t ∈ gn_meta, Cond.code t.1 t.2.1 t.2.2.1 t.2.2.2.1 ∈ lw_tbl := fun t ht => (gn_chunk (m := 0) (n := 15) gn_code_in_0 (gn_chunk (m := 15) (n := 15) gn_code_in_1 (gn_chunk (m := 30) (n := 15) gn_code_in_2 (gn_chunk (m := 45) (n := 15) gn_code_in_3 (gn_chunk (m := 60) (n := 15) gn_code_in_4 (gn_chunk (m := 75) (n := 15) gn_code_in_5 (gn_chunk (m := 90) (n := 15) gn_code_in_6 (gn_chunk (m := 105) (n := 15) gn_code_in_7 (gn_chunk (m := 120) (n := 15) gn_code_in_8 (gn_chunk (m := 135) (n := 15) gn_code_in_9 (gn_chunk (m := 150) (n := 15) gn_code_in_10 (gn_chunk (m := 165) (n := 15) gn_code_in_11 (gn_chunk (m := 180) (n := 15) gn_code_in_12 (gn_chunk (m := 195) (n := 15) gn_code_in_13 (fun t ht => absurd ht (by rw [List.drop_of_length_le (by decide +kernel)]; exact List.not_mem_nil)))))))))))))))) t (by rw [List.drop_zero]; exact ht)
set_option maxRecDepth 100000 in
theorem gn_init_in : ∀ t ∈ gn_meta, Cond.initialized t.1.cls ∈ lw_tbl := gn_in_of (f := fun (t : MethodName × ByteArray × Nat × Option FieldType × Bool × Nat × Nat) => Cond.initialized t.1.cls) (ps := [141, 141, 136, 136, 140, 140, 140, 140, 140, 135, 135, 133, 133, 133, 133, 133, 133, 133, 133, 133, 133, 133, 133, 133, 133, 133, 133, 133, 133, 133, 133, 133, 133, 133, 133, 133, 133, 133, 133, 133, 133, 134, 134, 134, 137, 138, 138, 138, 138, 138, 132, 132, 132, 132, 132, 132, 132, 132, 132, 132, 132, 132, 132, 142, 142, 142, 142, 142, 142, 142, 142, 142, 142, 142, 142, 142, 142, 142, 142, 142, 142, 142, 142, 142, 142, 142, 142, 142, 139, 139, 139, 139, 131, 131, 131, 131, 131, 131, 131, 131, 131, 131, 131, 131, 131, 131, 131, 131, 131, 131, 131, 131, 131, 131, 131, 131, 131, 131, 131, 131, 131, 131, 131, 131, 131, 131, 131, 131, 131, 131, 143, 143, 143, 143, 143, 143, 143, 143, 143, 143, 143, 143, 143, 143, 143, 143, 143, 143, 143, 143, 143, 143, 143, 143, 143, 143, 143, 143, 143, 143, 143, 143, 143, 143, 143, 143, 143, 143, 143, 143, 143, 143, 143, 143, 143, 143, 143, 143, 143, 143, 143, 143, 143, 143, 143, 143, 143, 143, 143, 143, 143, 143, 143, 143, 143, 143, 143, 143, 143, 143, 143, 143, 143, 143, 146]) (by decide +kernel)
set_option maxRecDepth 100000 in
theorem gn_inst_in : ∀ t ∈ gn_meta.filter (fun t => !t.2.2.2.2.1), Cond.instanceMethod t.1 ∈ lw_tbl := gn_in_of (f := fun (t : MethodName × ByteArray × Nat × Option FieldType × Bool × Nat × Nat) => Cond.instanceMethod t.1) (ps := [983, 991, 811, 807, 940, 948, 952, 964, 1015, 1024, 525, 799, 529, 666, 577, 628, 695, 569, 584, 561, 565, 553, 557, 707, 747, 703, 722, 735, 730, 739, 767, 743, 752, 776, 789, 573, 624, 620, 651, 541, 714, 827, 840, 853, 859, 866, 871, 876, 446, 455, 463, 475, 479, 501, 517, 497, 483, 467, 471, 490, 459, 505, 509, 521, 513, 537, 604, 661, 596, 600, 681, 690, 533, 608, 636, 632, 646, 592, 588, 616, 956, 612, 921, 925, 884, 892, 896, 905, 440, 450, 544, 548, 654, 672, 684, 698, 725, 757, 770, 779, 794, 802, 822, 830, 835, 848, 879, 899, 908, 913, 929, 935, 943, 959, 978, 986, 995, 999, 1003, 1019, 762, 1011, 784, 1252, 1265, 1278, 1139, 1165, 1153, 1157, 1173, 1169, 1177, 1181, 1161, 1148, 1185, 1189, 1192, 1213, 1240, 1236, 1232, 1201, 1209, 1205, 1224, 1220, 1228, 1244, 1196, 1247, 1256, 1260, 1274, 1268, 1286, 1298, 1294, 1290, 1281, 1302, 1311, 1306, 1324, 1319, 1314, 1327, 1340, 1336, 1331, 1347, 1351, 1360, 1375, 1355, 1371, 1363, 1383, 1387, 1378, 1390, 1394, 1398, 1402, 1408, 1412, 1416, 1421, 1425, 1429, 1433, 1437, 1441]) (by decide +kernel)
set_option maxRecDepth 100000 in
theorem gn_sel_in : ∀ t ∈ gn_meta.filter (fun t => !t.2.2.2.2.1), Cond.selects t.1.cls t.1 t.1 ∈ lw_tbl := gn_in_of (f := fun (t : MethodName × ByteArray × Nat × Option FieldType × Bool × Nat × Nat) => Cond.selects t.1.cls t.1 t.1) (ps := [86, 87, 67, 66, 81, 82, 83, 85, 89, 90, 17, 65, 18, 46, 28, 40, 49, 26, 29, 24, 25, 22, 23, 51, 58, 50, 53, 55, 54, 56, 61, 57, 59, 62, 64, 27, 39, 38, 44, 21, 52, 68, 69, 70, 71, 72, 73, 74, 0, 1, 3, 6, 7, 11, 15, 10, 8, 4, 5, 9, 2, 12, 13, 16, 14, 20, 34, 45, 32, 33, 47, 48, 19, 35, 42, 41, 43, 31, 30, 37, 84, 36, 79, 80, 75, 76, 77, 78, 441, 451, 545, 549, 655, 673, 685, 699, 726, 758, 771, 780, 795, 803, 823, 831, 836, 849, 880, 900, 909, 914, 930, 936, 944, 960, 979, 987, 996, 1000, 1004, 1020, 60, 88, 63, 112, 113, 115, 1140, 94, 91, 92, 96, 95, 97, 98, 93, 1149, 99, 100, 1193, 104, 110, 109, 108, 101, 103, 102, 106, 105, 107, 111, 1197, 1248, 1257, 1261, 114, 1269, 116, 119, 118, 117, 1282, 1303, 120, 1307, 122, 121, 1315, 1328, 124, 123, 1332, 1348, 1352, 125, 127, 1356, 126, 1364, 128, 129, 1379, 1391, 1395, 1399, 1403, 1409, 1413, 1417, 1422, 1426, 1430, 1434, 1438, 1442]) (by decide +kernel)
set_option maxRecDepth 100000 in
theorem gn_stat_in : ∀ t ∈ gn_meta.filter (fun t => t.2.2.2.2.1), Cond.static t.1 ∈ lw_tbl := gn_in_of (f := fun (t : MethodName × ByteArray × Nat × Option FieldType × Bool × Nat × Nat) => Cond.static t.1) (ps := [974, 580, 486, 639, 676, 917, 1007, 1143, 1216, 1367, 968]) (by decide +kernel)
set_option maxRecDepth 100000 in
theorem gn_meta_ok : ∀ t ∈ gn_meta, plainName t.1.cls = true ∧ t.1.cls ≠ "java/lang/invoke/MethodHandle" ∧ t.1.cls ≠ "java/lang/invoke/VarHandle" ∧ (parseMethodDescriptor t.1.desc).map (fun d => d.parameters.length) = some t.2.2.2.2.2.1 ∧ t.2.2.1 ≤ 21 ∧ t.1.cls = gn_nm t.2.2.2.2.2.2 := by decide +kernel
set_option maxRecDepth 100000 in
theorem gn_lays_in : ∀ w ∈ gn_cls.flatMap (fun q => u_ws q.1 q.2.1 q.2.2), w ∈ lw_tbl := gn_in_of (f := fun w => w) (ps := [337, 339, 341, 236, 319, 321, 323, 220, 222, 224, 190, 203, 205, 207, 251, 253, 255, 273, 275, 277, 279, 281, 283, 285, 287, 169, 171, 173, 175, 177, 376, 378, 380, 382, 384, 386, 388, 390, 392, 394, 396, 300, 302, 304, 306, 412, 414, 416, 418, 420, 422, 424, 426, 428, 430, 432, 434, 436, 1067, 1069, 1071, 1073, 1075, 1077, 1079, 1081, 1083, 1085, 1087, 1089, 1091, 1093, 1095, 1097, 1099, 1101, 1103, 1105, 1107, 1109, 1111, 1113, 1115, 1117, 1119, 1121, 1123, 1125, 1127, 1129, 1131, 1133, 1135]) (by decide +kernel)
set_option maxRecDepth 100000 in
theorem gn_cls_ok : ∀ q, q < 13 → ∀ C T N, gn_cls[q]? = some (C, T, N) → (∀ k, k < N → parseFieldDescriptor (T k).2.2.1 = some ((gn_tys.getD q gn_ty0) k)) := by
  intro q hq
  have h : ∀ q, q < 13 → ∀ k, k < (gn_cls.getD q ("", gn_T0, 0)).2.2 → parseFieldDescriptor ((gn_cls.getD q ("", gn_T0, 0)).2.1 k).2.2.1 = some ((gn_tys.getD q gn_ty0) k) := by decide +kernel
  intro C T N hc k hk
  have e : gn_cls.getD q ("", gn_T0, 0) = (C, T, N) := by simp [List.getD, hc]
  have h1 := h q hq k (by rw [e]; exact hk)
  rw [e] at h1
  exact h1
set_option maxRecDepth 100000 in
theorem gn_cls_nm : ∀ q, q < 13 → ∀ C T N, gn_cls[q]? = some (C, T, N) → (∀ a, a < N → ∀ b, b < N → a ≠ b → (T a).2.1 ≠ (T b).2.1) := by
  intro q hq
  have h : ∀ q, q < 13 → ∀ a, a < (gn_cls.getD q ("", gn_T0, 0)).2.2 → ∀ b, b < (gn_cls.getD q ("", gn_T0, 0)).2.2 → a ≠ b → ((gn_cls.getD q ("", gn_T0, 0)).2.1 a).2.1 ≠ ((gn_cls.getD q ("", gn_T0, 0)).2.1 b).2.1 := by decide +kernel
  intro C T N hc a ha b hb hab
  have e : gn_cls.getD q ("", gn_T0, 0) = (C, T, N) := by simp [List.getD, hc]
  have h1 := h q hq a (by rw [e]; exact ha) b (by rw [e]; exact hb) hab
  rw [e] at h1
  exact h1
end
section
/-! the pure machine: one flat memory, locals and stack as lists; 'gn_wp' is the weakest precondition of a run -/
def gn_at : List Value → Nat → Value
  | [], _ => .null
  | x :: _, 0 => x
  | _ :: xs, k + 1 => gn_at xs k
def gn_set : List Value → Nat → Value → List Value
  | [], 0, v => [v]
  | [], k + 1, v => .null :: gn_set [] k v
  | _ :: xs, 0, v => v :: xs
  | x :: xs, k + 1, v => x :: gn_set xs k v
def gn_isL : Value → Bool
  | .long _ => true
  | .double _ => true
  | _ => false
/-- a store at a is allowed: what stands ahead of it is no long -/
def gn_okS (lo : List Value) : Nat → Bool
  | 0 => true
  | a + 1 => !gn_isL (gn_at lo a)
def gn_cs (r : List Value) : Bool := Nat.ble ((r.map Value.category).sum) 8
def gn_up (σ : gn_Mem) (o k : Nat) (x : Int32) : gn_Mem := fun o' => if o' = o then upd (σ o) k x else σ o'
def gn_upF (σ : gn_Mem) (o : Nat) (f : Nat → Int32) : gn_Mem := fun o' => if o' = o then f else σ o'
def gn_dyn (x : Int32) : Nat := if x = 0 then 28 else 36
def gn_pop : Nat → List Value → List Value → Option (List Value × List Value)
  | 0, acc, st => some (acc, st)
  | n + 1, acc, v :: st => bif gn_isL v then none else gn_pop n (v :: acc) st
  | _ + 1, _, [] => none
def gn_cmp (c : ClassFile.Cond) (x y : Int32) : Prop := match c with
  | .eq => x = y
  | .ne => ¬ x = y
  | .lt => x < y
  | .ge => y ≤ x
  | .gt => y < x
  | .le => x ≤ y
noncomputable def gn_ly (o : Nat) : (Bool × Nat) ⊕ (Nat × List Nat) := bif Nat.blt o gn_NO then gn_lay o else .inr (99, [])
/-- the class of an object -/
noncomputable def gn_oc (o : Nat) : Nat := match gn_ly o with
  | .inr (q, _) => q
  | .inl _ => 99
/-- a field read -/
noncomputable def gn_fld (σ : gn_Mem) (o q k : Nat) : Option Value := match gn_ly o with
  | .inr (q', fs) => bif Nat.beq q' q then (match fs[k]? with
    | some 0 => some (.int (σ o k))
    | some 1 => some (.ref (gn_dyn (σ o k)))
    | some 2 => some (.int (σ o k))
    | some (r + 3) => some (.ref r)
    | none => none) else none
  | .inl _ => none
/-- is it an int field of an object of that class -/
noncomputable def gn_isI (o q k : Nat) : Bool := match gn_ly o with
  | .inr (q', fs) => bif Nat.beq q' q then (match fs[k]? with
    | some 0 => true
    | _ => false) else false
  | .inl _ => false
noncomputable def gn_isS (s o q k : Nat) : Bool := match gn_ly o with
  | .inr (q', fs) => bif Nat.beq q' q then (match fs[k]? with
    | some t => Nat.beq t s
    | _ => false) else false
  | .inl _ => false
noncomputable def gn_stp (d mi pc : Nat) (lo st : List Value) (σ : gn_Mem) : Option (Nat × List Value × List Value × gn_Mem) :=
  match gn_cd mi pc with
  | none => none
  | some (ins, nx, a, b, v) => match ins with
    | .aload_n _ => match gn_at lo a with | .ref o => some (nx, lo, .ref o :: st, σ) | _ => none
    | .iload_n _ => match gn_at lo a with | .int x => some (nx, lo, .int x :: st, σ) | _ => none
    | .iload _ => match gn_at lo a with | .int x => some (nx, lo, .int x :: st, σ) | _ => none
    | .lload_n _ => match gn_at lo a with | .long x => some (nx, lo, .long x :: st, σ) | _ => none
    | .istore_n _ => match st with | .int x :: r => bif gn_okS lo a then some (nx, gn_set lo a (.int x), r, σ) else none | _ => none
    | .istore _ => match st with | .int x :: r => bif gn_okS lo a then some (nx, gn_set lo a (.int x), r, σ) else none | _ => none
    | .astore_n _ => match st with | .ref x :: r => bif gn_okS lo a then some (nx, gn_set lo a (.ref x), r, σ) else none | _ => none
    | .lstore_n _ => match st with | .long x :: r => bif gn_okS lo a then some (nx, gn_set (gn_set lo a (.long x)) (a + 1) .null, r, σ) else none | _ => none
    | .iinc _ _ => match gn_at lo a with | .int x => bif gn_okS lo a then some (nx, gn_set lo a (.int (x + v)), st, σ) else none | _ => none
    | .iconst _ => some (nx, lo, .int v :: st, σ)
    | .bipush _ => some (nx, lo, .int v :: st, σ)
    | .sipush _ => some (nx, lo, .int v :: st, σ)
    | .ldc _ => some (nx, lo, .int v :: st, σ)
    | .ldc_w _ => some (nx, lo, .int v :: st, σ)
    | .ldc2_w _ => some (nx, lo, .long (Int64.ofNat b) :: st, σ)
    | .iadd => match st with | .int y :: .int x :: r => some (nx, lo, .int (x + y) :: r, σ) | _ => none
    | .isub => match st with | .int y :: .int x :: r => some (nx, lo, .int (x - y) :: r, σ) | _ => none
    | .imul => match st with | .int y :: .int x :: r => some (nx, lo, .int (x * y) :: r, σ) | _ => none
    | .iand => match st with | .int y :: .int x :: r => some (nx, lo, .int (x &&& y) :: r, σ) | _ => none
    | .ior => match st with | .int y :: .int x :: r => some (nx, lo, .int (x ||| y) :: r, σ) | _ => none
    | .ixor => match st with | .int y :: .int x :: r => some (nx, lo, .int (x ^^^ y) :: r, σ) | _ => none
    | .ishl => match st with | .int y :: .int x :: r => some (nx, lo, .int (x <<< (y &&& 31)) :: r, σ) | _ => none
    | .ishr => match st with | .int y :: .int x :: r => some (nx, lo, .int (x >>> (y &&& 31)) :: r, σ) | _ => none
    | .iushr => match st with | .int y :: .int x :: r => some (nx, lo, .int (x.toUInt32 >>> (y.toUInt32 &&& Int32.toUInt32 31)).toInt32 :: r, σ) | _ => none
    | .ladd => match st with | .long y :: .long x :: r => some (nx, lo, .long (x + y) :: r, σ) | _ => none
    | .lmul => match st with | .long y :: .long x :: r => some (nx, lo, .long (x * y) :: r, σ) | _ => none
    | .land => match st with | .long y :: .long x :: r => some (nx, lo, .long (x &&& y) :: r, σ) | _ => none
    | .i2l => match st with | .int x :: r => some (nx, lo, .long x.toInt64 :: r, σ) | _ => none
    | .l2i => match st with | .long x :: r => some (nx, lo, .int x.toInt32 :: r, σ) | _ => none
    | .dup => match st with | w :: r => bif gn_isL w then none else some (nx, lo, w :: w :: r, σ) | _ => none
    | .dup2 => match st with | w :: u :: r => bif gn_isL w || gn_isL u then none else some (nx, lo, w :: u :: w :: u :: r, σ) | _ => none
    | .pop => match st with | w :: r => bif gn_isL w then none else some (nx, lo, r, σ) | _ => none
    | .getfield _ => match st with | .ref o :: r => (match gn_fld σ o a b with | some w => some (nx, lo, w :: r, σ) | none => none) | _ => none
    | .putfield _ => match st with | .int x :: .ref o :: r => bif gn_isS 0 o a b then some (nx, lo, r, gn_up σ o b x) else none | _ => none
    | .invokestatic _ => match d with
      | 0 => none
      | _ + 1 => match st with
        | .int y :: .int x :: r => bif gn_cs r then (if v = 2 then some (nx, lo, .int (if x < y then y else x) :: r, σ) else if v = 3 then some (nx, lo, .int (if y < x then y else x) :: r, σ) else none) else none
        | _ => none
    | _ => none
/-- the target of a switch -/
def gn_swt (pc : Nat) (ins : Instr) (x : Int32) (t : Nat) : Prop := match ins with
  | .tableswitch dflt lo hi offs => (pc : Int) + (if x.toInt < lo ∨ hi < x.toInt then dflt else offs.getD (x.toInt - lo).toNat 0) = (t : Int)
  | .lookupswitch dflt ps => (pc : Int) + Op.lookupswitch.offset ps.toList dflt x.toInt = (t : Int)
  | _ => False
noncomputable def gn_wp : Nat → Nat → Nat → Nat → List Value → List Value → gn_Mem → (Option Value → gn_Mem → Prop) → Prop
  | 0, _, _, _, _, _, _, _ => False
  | n + 1, d, mi, pc, lo, st, σ, Q =>
    match gn_stp d mi pc lo st σ with
    | some (pc', lo', st', σ') => gn_wp n d mi pc' lo' st' σ' Q
    | none => match gn_cd mi pc with
      | none => False
      | some (ins, nx, a, b, v) => match ins with
        | .goto _ => gn_wp n d mi a lo st σ Q
        | .ifCond c _ => match st with
          | .int x :: r => (gn_cmp c x 0 → gn_wp n d mi a lo r σ Q) ∧ (¬ gn_cmp c x 0 → gn_wp n d mi nx lo r σ Q)
          | _ => False
        | .if_icmp c _ => match st with
          | .int y :: .int x :: r => (gn_cmp c x y → gn_wp n d mi a lo r σ Q) ∧ (¬ gn_cmp c x y → gn_wp n d mi nx lo r σ Q)
          | _ => False
        | .tableswitch p1 p2 p3 p4 => match st with
          | .int x :: r => ∀ t, gn_swt pc (.tableswitch p1 p2 p3 p4) x t → gn_wp n d mi t lo r σ Q
          | _ => False
        | .lookupswitch p1 p2 => match st with
          | .int x :: r => ∀ t, gn_swt pc (.lookupswitch p1 p2) x t → gn_wp n d mi t lo r σ Q
          | _ => False
        | .idiv => match st with
          | .int y :: .int x :: r => ¬ y = 0 ∧ gn_wp n d mi nx lo (.int (x / y) :: r) σ Q
          | _ => False
        | .irem => match st with
          | .int y :: .int x :: r => ¬ y = 0 ∧ gn_wp n d mi nx lo (.int (x - x / y * y) :: r) σ Q
          | _ => False
        | .ldiv => match st with
          | .long y :: .long x :: r => ¬ y = 0 ∧ gn_wp n d mi nx lo (.long (x / y) :: r) σ Q
          | _ => False
        | .lrem => match st with
          | .long y :: .long x :: r => ¬ y = 0 ∧ gn_wp n d mi nx lo (.long (x - x / y * y) :: r) σ Q
          | _ => False
        | .iaload => match st with
          | .int i :: .ref o :: r => (match gn_ly o with
            | .inl (false, len) => vp_in i len ∧ gn_wp n d mi nx lo (.int (σ o i.toNatClampNeg) :: r) σ Q
            | _ => False)
          | _ => False
        | .baload => match st with
          | .int i :: .ref o :: r => (match gn_ly o with
            | .inl (true, len) => vp_in i len ∧ gn_wp n d mi nx lo (.int (σ o i.toNatClampNeg) :: r) σ Q
            | _ => False)
          | _ => False
        | .iastore => match st with
          | .int x :: .int i :: .ref o :: r => (match gn_ly o with
            | .inl (false, len) => vp_in i len ∧ gn_wp n d mi nx lo r (gn_up σ o i.toNatClampNeg x) Q
            | _ => False)
          | _ => False
        | .bastore => match st with
          | .int x :: .int i :: .ref o :: r => (match gn_ly o with
            | .inl (true, len) => vp_in i len ∧ gn_wp n d mi nx lo r (gn_up σ o i.toNatClampNeg (vp_nar .boolean x)) Q
            | _ => False)
          | _ => False
        | .putfield _ => match st with
          | .int x :: .ref o :: r => gn_isS 2 o a b = true ∧ (x = 0 ∨ x = 1) ∧ gn_wp n d mi nx lo r (gn_up σ o b x) Q
          | .ref t :: .ref o :: r => gn_isS 1 o a b = true ∧ ∃ x, gn_dyn x = t ∧ gn_wp n d mi nx lo r (gn_up σ o b x) Q
          | _ => False
        | .invokevirtual _ => match d with
          | 0 => False
          | d' + 1 => match gn_pop b [] st with
            | some (as, .ref o :: r) => o < gn_NO ∧ gn_cs r = true ∧ gn_nm (gn_oc o) = (gn_y a).cls ∧ gn_wp n d' a 0 (.ref o :: as) [] σ (fun rv σ' => gn_wp n (d' + 1) mi nx lo (rv.toList ++ r) σ' Q)
            | _ => False
        | .invokestatic _ => match d with
          | 0 => False
          | d' + 1 => if v = 0 then (match gn_pop b [] st with
              | some (as, r) => gn_cs r = true ∧ gn_wp n d' a 0 as [] σ (fun rv σ' => gn_wp n (d' + 1) mi nx lo (rv.toList ++ r) σ' Q)
              | _ => False)
            else if v = 1 then (match st with
              | [.int k, .int dp, .ref o1, .int sp, .ref o0] => (match gn_ly o0, gn_ly o1 with
                | .inl (false, n0), .inl (false, n1) => o0 ≠ o1 ∧ ¬ sp < 0 ∧ ¬ dp < 0 ∧ ¬ k < 0 ∧ sp.toNatClampNeg + k.toNatClampNeg ≤ n0 ∧ dp.toNatClampNeg + k.toNatClampNeg ≤ n1 ∧ gn_wp n (d' + 1) mi nx lo [] (gn_upF σ o1 (va_cpy (σ o0) (σ o1) sp.toNatClampNeg dp.toNatClampNeg k.toNatClampNeg)) Q
                | _, _ => False)
              | _ => False)
            else False
        | .ireturn => match st with
          | [.int x] => ((gn_meta.getD mi (⟨"", "", ""⟩, prog_1_method_1_code, 0, none, false, 0, 0)).2.2.2.1 = some .int ∨ x = 0 ∨ x = 1) ∧ Q (some (.int x)) σ
          | _ => False
        | .areturn => match st with
          | [.ref o] => Q (some (.ref o)) σ
          | _ => False
        | .return_ => match st with
          | [] => Q none σ
          | _ => False
        | _ => False
/-- is an entry what the bytes decode to, and does it fit its links -/
def gn_okE (mi pc : Nat) (E : gn_En) : Bool := match gn_meta[mi]?, E with
  | none, _ => false
  | some (_, bytes, ml, rt, _, _, oc), (ins, nx, a, b, v) =>
    decide (decode bytes pc = .ok (ins, nx - pc)) && (match ins with
    | .aload_n k => Nat.beq nx (pc + 1) && Nat.beq k.val a
    | .iload_n k => Nat.beq nx (pc + 1) && Nat.beq k.val a
    | .lload_n k => Nat.beq nx (pc + 1) && Nat.beq k.val a
    | .istore_n k => Nat.beq nx (pc + 1) && Nat.beq k.val a && Nat.blt a ml
    | .astore_n k => Nat.beq nx (pc + 1) && Nat.beq k.val a && Nat.blt a ml
    | .lstore_n k => Nat.beq nx (pc + 1) && Nat.beq k.val a && Nat.blt (a + 1) ml
    | .iload i => Nat.beq nx (pc + 2) && Nat.beq i a
    | .istore i => Nat.beq nx (pc + 2) && Nat.beq i a && Nat.blt a ml
    | .iinc i n => Nat.beq nx (pc + 3) && Nat.beq i a && Nat.blt a ml && decide (Int32.ofInt n = v)
    | .iconst n => Nat.beq nx (pc + 1) && decide (Int32.ofInt n = v)
    | .bipush n => Nat.beq nx (pc + 2) && decide ((Int8.ofInt n).toInt32 = v)
    | .sipush n => Nat.beq nx (pc + 3) && decide ((Int16.ofInt n).toInt32 = v)
    | .ldc i => Nat.beq nx (pc + 2) && decide ((oc, i, v) ∈ gn_conT)
    | .ldc_w i => Nat.beq nx (pc + 3) && decide ((oc, i, v) ∈ gn_conT)
    | .ldc2_w i => Nat.beq nx (pc + 3) && decide ((oc, i, b) ∈ gn_lonT)
    | .goto off => Nat.beq nx (pc + 3) && decide ((pc : Int) + off = (a : Int))
    | .ifCond _ off => Nat.beq nx (pc + 3) && decide ((pc : Int) + off = (a : Int))
    | .if_icmp _ off => Nat.beq nx (pc + 3) && decide ((pc : Int) + off = (a : Int))
    | .tableswitch dflt lo hi offs => decide (0 ≤ (pc : Int) + dflt) && offs.toList.all (fun q => decide (0 ≤ (pc : Int) + q)) && decide ((offs.size : Int) = hi - lo + 1)
    | .lookupswitch dflt ps => (ps.toList.zip (ps.toList.drop 1)).all (fun (a, next) => a.1 < next.1) && decide (0 ≤ (pc : Int) + dflt) && ps.toList.all (fun q => decide (0 ≤ (pc : Int) + q.2))
    | .getfield i => Nat.beq nx (pc + 3) && (decide ((oc, i, a, b, 0) ∈ gn_fldT) || decide ((oc, i, a, b, 1) ∈ gn_fldT)) && Nat.blt a 13 && Nat.blt b (gn_cls.getD a ("", gn_T0, 0)).2.2
    | .putfield i => Nat.beq nx (pc + 3) && (decide ((oc, i, a, b, 0) ∈ gn_fldT) || decide ((oc, i, a, b, 1) ∈ gn_fldT)) && Nat.blt a 13 && Nat.blt b (gn_cls.getD a ("", gn_T0, 0)).2.2 && !(gn_Tf a b).2.2.2
    | .invokevirtual i => Nat.beq nx (pc + 3) && (decide (v = 0 ∧ (oc, i, a, 0) ∈ gn_mthT) || decide (v = 1 ∧ (oc, i, a, 1) ∈ gn_mthT)) && (match gn_meta[a]? with
      | some (_, _, _, _, st, ac, _) => !st && Nat.beq ac b
      | none => false)
    | .invokestatic i => Nat.beq nx (pc + 3) && ((decide (v = 0 ∧ (oc, i, 0, a) ∈ gn_sttT) && (match gn_meta[a]? with
      | some (_, _, _, _, st, ac, _) => st && Nat.beq ac b
      | none => false)) || decide (v = 1 ∧ (oc, i, 1, 0) ∈ gn_sttT) || decide (v = 2 ∧ (oc, i, 2, 0) ∈ gn_sttT) || decide (v = 3 ∧ (oc, i, 3, 0) ∈ gn_sttT))
    | .ireturn => Nat.beq nx (pc + 1) && (decide (rt = some .int) || decide (rt = some .boolean))
    | .return_ => Nat.beq nx (pc + 1) && decide (rt = none)
    | .areturn => Nat.beq nx (pc + 1) && (match rt with
      | some (.object _) => true
      | _ => false)
    | .iadd => Nat.beq nx (pc + 1)
    | .isub => Nat.beq nx (pc + 1)
    | .imul => Nat.beq nx (pc + 1)
    | .idiv => Nat.beq nx (pc + 1)
    | .irem => Nat.beq nx (pc + 1)
    | .iand => Nat.beq nx (pc + 1)
    | .ior => Nat.beq nx (pc + 1)
    | .ixor => Nat.beq nx (pc + 1)
    | .ishl => Nat.beq nx (pc + 1)
    | .ishr => Nat.beq nx (pc + 1)
    | .iushr => Nat.beq nx (pc + 1)
    | .ladd => Nat.beq nx (pc + 1)
    | .lmul => Nat.beq nx (pc + 1)
    | .ldiv => Nat.beq nx (pc + 1)
    | .lrem => Nat.beq nx (pc + 1)
    | .land => Nat.beq nx (pc + 1)
    | .i2l => Nat.beq nx (pc + 1)
    | .l2i => Nat.beq nx (pc + 1)
    | .dup => Nat.beq nx (pc + 1)
    | .dup2 => Nat.beq nx (pc + 1)
    | .pop => Nat.beq nx (pc + 1)
    | .iaload => Nat.beq nx (pc + 1)
    | .baload => Nat.beq nx (pc + 1)
    | .iastore => Nat.beq nx (pc + 1)
    | .bastore => Nat.beq nx (pc + 1)
    | _ => false)
def gn_okO (mi pc : Nat) : Option gn_En → Bool
  | none => true
  | some E => gn_okE mi pc E
end
section
/-! every entry of the code tables is what the bytes decode to, and fits its links: printed by wip/whole/gen/tables.py -/
set_option maxRecDepth 100000 in
theorem gn_ok0 : ∀ pc, pc < 43 → gn_okO 0 pc (gn_c0 pc) = true := by decide +kernel
set_option maxRecDepth 100000 in
theorem gn_ok1 : ∀ pc, pc < 39 → gn_okO 1 pc (gn_c1 pc) = true := by decide +kernel
set_option maxRecDepth 100000 in
theorem gn_ok2 : ∀ pc, pc < 40 → gn_okO 2 pc (gn_c2 pc) = true := by decide +kernel
set_option maxRecDepth 100000 in
theorem gn_ok3 : ∀ pc, pc < 92 → gn_okO 3 pc (gn_c3 pc) = true := by decide +kernel
set_option maxRecDepth 100000 in
theorem gn_ok4 : ∀ pc, pc < 43 → gn_okO 4 pc (gn_c4 pc) = true := by decide +kernel
set_option maxRecDepth 100000 in
theorem gn_ok5 : ∀ pc, pc < 35 → gn_okO 5 pc (gn_c5 pc) = true := by decide +kernel
set_option maxRecDepth 100000 in
theorem gn_ok6 : ∀ pc, pc < 40 → gn_okO 6 pc (gn_c6 pc) = true := by decide +kernel
set_option maxRecDepth 100000 in
theorem gn_ok7 : ∀ pc, pc < 55 → gn_okO 7 pc (gn_c7 pc) = true := by decide +kernel
set_option maxRecDepth 100000 in
theorem gn_ok8 : ∀ pc, pc < 53 → gn_okO 8 pc (gn_c8 pc) = true := by decide +kernel
set_option maxRecDepth 100000 in
theorem gn_ok9 : ∀ pc, pc < 29 → gn_okO 9 pc (gn_c9 pc) = true := by decide +kernel
set_option maxRecDepth 100000 in
theorem gn_ok10 : ∀ pc, pc < 24 → gn_okO 10 pc (gn_c10 pc) = true := by decide +kernel
set_option maxRecDepth 100000 in
theorem gn_ok11 : ∀ pc, pc < 38 → gn_okO 11 pc (gn_c11 pc) = true := by decide +kernel
set_option maxRecDepth 100000 in
theorem gn_ok12 : ∀ pc, pc < 17 → gn_okO 12 pc (gn_c12 pc) = true := by decide +kernel
set_option maxRecDepth 100000 in
theorem gn_ok13 : ∀ pc, pc < 94 → gn_okO 13 pc (gn_c13 pc) = true := by decide +kernel
set_option maxRecDepth 100000 in
theorem gn_ok14 : ∀ pc, pc < 16 → gn_okO 14 pc (gn_c14 pc) = true := by decide +kernel
set_option maxRecDepth 100000 in
theorem gn_ok15 : ∀ pc, pc < 20 → gn_okO 15 pc (gn_c15 pc) = true := by decide +kernel
set_option maxRecDepth 100000 in
theorem gn_ok16 : ∀ pc, pc < 21 → gn_okO 16 pc (gn_c16 pc) = true := by decide +kernel
set_option maxRecDepth 100000 in
theorem gn_ok17 : ∀ pc, pc < 21 → gn_okO 17 pc (gn_c17 pc) = true := by decide +kernel
set_option maxRecDepth 100000 in
theorem gn_ok18 : ∀ pc, pc < 23 → gn_okO 18 pc (gn_c18 pc) = true := by decide +kernel
set_option maxRecDepth 100000 in
theorem gn_ok19 : ∀ pc, pc < 8 → gn_okO 19 pc (gn_c19 pc) = true := by decide +kernel
set_option maxRecDepth 100000 in
theorem gn_ok20 : ∀ pc, pc < 8 → gn_okO 20 pc (gn_c20 pc) = true := by decide +kernel
set_option maxRecDepth 100000 in
theorem gn_ok21 : ∀ pc, pc < 8 → gn_okO 21 pc (gn_c21 pc) = true := by decide +kernel
set_option maxRecDepth 100000 in
theorem gn_ok22 : ∀ pc, pc < 8 → gn_okO 22 pc (gn_c22 pc) = true := by decide +kernel
set_option maxRecDepth 100000 in
theorem gn_ok23 : ∀ pc, pc < 8 → gn_okO 23 pc (gn_c23 pc) = true := by decide +kernel
set_option maxRecDepth 100000 in
theorem gn_ok24 : ∀ pc, pc < 8 → gn_okO 24 pc (gn_c24 pc) = true := by decide +kernel
set_option maxRecDepth 100000 in
theorem gn_ok25 : ∀ pc, pc < 27 → gn_okO 25 pc (gn_c25 pc) = true := by decide +kernel
set_option maxRecDepth 100000 in
theorem gn_ok26 : ∀ pc, pc < 12 → gn_okO 26 pc (gn_c26 pc) = true := by decide +kernel
set_option maxRecDepth 100000 in
theorem gn_ok27 : ∀ pc, pc < 27 → gn_okO 27 pc (gn_c27 pc) = true := by decide +kernel
set_option maxRecDepth 100000 in
theorem gn_ok28 : ∀ pc, pc < 32 → gn_okO 28 pc (gn_c28 pc) = true := by decide +kernel
set_option maxRecDepth 100000 in
theorem gn_ok29 : ∀ pc, pc < 31 → gn_okO 29 pc (gn_c29 pc) = true := by decide +kernel
set_option maxRecDepth 100000 in
theorem gn_ok30 : ∀ pc, pc < 22 → gn_okO 30 pc (gn_c30 pc) = true := by decide +kernel
set_option maxRecDepth 100000 in
theorem gn_ok31 : ∀ pc, pc < 39 → gn_okO 31 pc (gn_c31 pc) = true := by decide +kernel
set_option maxRecDepth 100000 in
theorem gn_ok32 : ∀ pc, pc < 24 → gn_okO 32 pc (gn_c32 pc) = true := by decide +kernel
set_option maxRecDepth 100000 in
theorem gn_ok33 : ∀ pc, pc < 46 → gn_okO 33 pc (gn_c33 pc) = true := by decide +kernel
set_option maxRecDepth 100000 in
theorem gn_ok34 : ∀ pc, pc < 22 → gn_okO 34 pc (gn_c34 pc) = true := by decide +kernel
set_option maxRecDepth 100000 in
theorem gn_ok35 : ∀ pc, pc < 62 → gn_okO 35 pc (gn_c35 pc) = true := by decide +kernel
set_option maxRecDepth 100000 in
theorem gn_ok36 : ∀ pc, pc < 68 → gn_okO 36 pc (gn_c36 pc) = true := by decide +kernel
set_option maxRecDepth 100000 in
theorem gn_ok37 : ∀ pc, pc < 35 → gn_okO 37 pc (gn_c37 pc) = true := by decide +kernel
set_option maxRecDepth 100000 in
theorem gn_ok38 : ∀ pc, pc < 16 → gn_okO 38 pc (gn_c38 pc) = true := by decide +kernel
set_option maxRecDepth 100000 in
theorem gn_ok39 : ∀ pc, pc < 46 → gn_okO 39 pc (gn_c39 pc) = true := by decide +kernel
set_option maxRecDepth 100000 in
theorem gn_ok40 : ∀ pc, pc < 56 → gn_okO 40 pc (gn_c40 pc) = true := by decide +kernel
set_option maxRecDepth 100000 in
theorem gn_ok41 : ∀ pc, pc < 6 → gn_okO 41 pc (gn_c41 pc) = true := by decide +kernel
set_option maxRecDepth 100000 in
theorem gn_ok42 : ∀ pc, pc < 50 → gn_okO 42 pc (gn_c42 pc) = true := by decide +kernel
set_option maxRecDepth 100000 in
theorem gn_ok43 : ∀ pc, pc < 62 → gn_okO 43 pc (gn_c43 pc) = true := by decide +kernel
set_option maxRecDepth 100000 in
theorem gn_ok44 : ∀ pc, pc < 121 → gn_okO 44 pc (gn_c44 pc) = true := by decide +kernel
set_option maxRecDepth 100000 in
theorem gn_ok45 : ∀ pc, pc < 91 → gn_okO 45 pc (gn_c45 pc) = true := by decide +kernel
set_option maxRecDepth 100000 in
theorem gn_ok46 : ∀ pc, pc < 93 → gn_okO 46 pc (gn_c46 pc) = true := by decide +kernel
set_option maxRecDepth 100000 in
theorem gn_ok47 : ∀ pc, pc < 77 → gn_okO 47 pc (gn_c47 pc) = true := by decide +kernel
set_option maxRecDepth 100000 in
theorem gn_ok48 : ∀ pc, pc < 156 → gn_okO 48 pc (gn_c48 pc) = true := by decide +kernel
set_option maxRecDepth 100000 in
theorem gn_ok49 : ∀ pc, pc < 23 → gn_okO 49 pc (gn_c49 pc) = true := by decide +kernel
set_option maxRecDepth 100000 in
theorem gn_ok50 : ∀ pc, pc < 34 → gn_okO 50 pc (gn_c50 pc) = true := by decide +kernel
set_option maxRecDepth 100000 in
theorem gn_ok51 : ∀ pc, pc < 52 → gn_okO 51 pc (gn_c51 pc) = true := by decide +kernel
set_option maxRecDepth 100000 in
theorem gn_ok52 : ∀ pc, pc < 21 → gn_okO 52 pc (gn_c52 pc) = true := by decide +kernel
set_option maxRecDepth 100000 in
theorem gn_ok53 : ∀ pc, pc < 86 → gn_okO 53 pc (gn_c53 pc) = true := by decide +kernel
set_option maxRecDepth 100000 in
theorem gn_ok54 : ∀ pc, pc < 31 → gn_okO 54 pc (gn_c54 pc) = true := by decide +kernel
set_option maxRecDepth 100000 in
theorem gn_ok55 : ∀ pc, pc < 97 → gn_okO 55 pc (gn_c55 pc) = true := by decide +kernel
set_option maxRecDepth 100000 in
theorem gn_ok56 : ∀ pc, pc < 50 → gn_okO 56 pc (gn_c56 pc) = true := by decide +kernel
set_option maxRecDepth 100000 in
theorem gn_ok57 : ∀ pc, pc < 32 → gn_okO 57 pc (gn_c57 pc) = true := by decide +kernel
set_option maxRecDepth 100000 in
theorem gn_ok58 : ∀ pc, pc < 121 → gn_okO 58 pc (gn_c58 pc) = true := by decide +kernel
set_option maxRecDepth 100000 in
theorem gn_ok59 : ∀ pc, pc < 46 → gn_okO 59 pc (gn_c59 pc) = true := by decide +kernel
set_option maxRecDepth 100000 in
theorem gn_ok60 : ∀ pc, pc < 30 → gn_okO 60 pc (gn_c60 pc) = true := by decide +kernel
set_option maxRecDepth 100000 in
theorem gn_ok61 : ∀ pc, pc < 18 → gn_okO 61 pc (gn_c61 pc) = true := by decide +kernel
set_option maxRecDepth 100000 in
theorem gn_ok62 : ∀ pc, pc < 18 → gn_okO 62 pc (gn_c62 pc) = true := by decide +kernel
set_option maxRecDepth 100000 in
theorem gn_ok63 : ∀ pc, pc < 21 → gn_okO 63 pc (gn_c63 pc) = true := by decide +kernel
set_option maxRecDepth 100000 in
theorem gn_ok64 : ∀ pc, pc < 51 → gn_okO 64 pc (gn_c64 pc) = true := by decide +kernel
set_option maxRecDepth 100000 in
theorem gn_ok65 : ∀ pc, pc < 87 → gn_okO 65 pc (gn_c65 pc) = true := by decide +kernel
set_option maxRecDepth 100000 in
theorem gn_ok66 : ∀ pc, pc < 40 → gn_okO 66 pc (gn_c66 pc) = true := by decide +kernel
set_option maxRecDepth 100000 in
theorem gn_ok67 : ∀ pc, pc < 18 → gn_okO 67 pc (gn_c67 pc) = true := by decide +kernel
set_option maxRecDepth 100000 in
theorem gn_ok68 : ∀ pc, pc < 18 → gn_okO 68 pc (gn_c68 pc) = true := by decide +kernel
set_option maxRecDepth 100000 in
theorem gn_ok69 : ∀ pc, pc < 32 → gn_okO 69 pc (gn_c69 pc) = true := by decide +kernel
set_option maxRecDepth 100000 in
theorem gn_ok70 : ∀ pc, pc < 19 → gn_okO 70 pc (gn_c70 pc) = true := by decide +kernel
set_option maxRecDepth 100000 in
theorem gn_ok71 : ∀ pc, pc < 19 → gn_okO 71 pc (gn_c71 pc) = true := by decide +kernel
set_option maxRecDepth 100000 in
theorem gn_ok72 : ∀ pc, pc < 25 → gn_okO 72 pc (gn_c72 pc) = true := by decide +kernel
set_option maxRecDepth 100000 in
theorem gn_ok73 : ∀ pc, pc < 25 → gn_okO 73 pc (gn_c73 pc) = true := by decide +kernel
set_option maxRecDepth 100000 in
theorem gn_ok74 : ∀ pc, pc < 19 → gn_okO 74 pc (gn_c74 pc) = true := by decide +kernel
set_option maxRecDepth 100000 in
theorem gn_ok75 : ∀ pc, pc < 19 → gn_okO 75 pc (gn_c75 pc) = true := by decide +kernel
set_option maxRecDepth 100000 in
theorem gn_ok76 : ∀ pc, pc < 17 → gn_okO 76 pc (gn_c76 pc) = true := by decide +kernel
set_option maxRecDepth 100000 in
theorem gn_ok77 : ∀ pc, pc < 80 → gn_okO 77 pc (gn_c77 pc) = true := by decide +kernel
set_option maxRecDepth 100000 in
theorem gn_ok78 : ∀ pc, pc < 57 → gn_okO 78 pc (gn_c78 pc) = true := by decide +kernel
set_option maxRecDepth 100000 in
theorem gn_ok79 : ∀ pc, pc < 24 → gn_okO 79 pc (gn_c79 pc) = true := by decide +kernel
set_option maxRecDepth 100000 in
theorem gn_ok80 : ∀ pc, pc < 41 → gn_okO 80 pc (gn_c80 pc) = true := by decide +kernel
set_option maxRecDepth 100000 in
theorem gn_ok81 : ∀ pc, pc < 36 → gn_okO 81 pc (gn_c81 pc) = true := by decide +kernel
set_option maxRecDepth 100000 in
theorem gn_ok82 : ∀ pc, pc < 35 → gn_okO 82 pc (gn_c82 pc) = true := by decide +kernel
set_option maxRecDepth 100000 in
theorem gn_ok83 : ∀ pc, pc < 19 → gn_okO 83 pc (gn_c83 pc) = true := by decide +kernel
set_option maxRecDepth 100000 in
theorem gn_ok84 : ∀ pc, pc < 18 → gn_okO 84 pc (gn_c84 pc) = true := by decide +kernel
set_option maxRecDepth 100000 in
theorem gn_ok85 : ∀ pc, pc < 32 → gn_okO 85 pc (gn_c85 pc) = true := by decide +kernel
set_option maxRecDepth 100000 in
theorem gn_ok86 : ∀ pc, pc < 45 → gn_okO 86 pc (gn_c86 pc) = true := by decide +kernel
set_option maxRecDepth 100000 in
theorem gn_ok87 : ∀ pc, pc < 50 → gn_okO 87 pc (gn_c87 pc) = true := by decide +kernel
set_option maxRecDepth 100000 in
theorem gn_ok88 : ∀ pc, pc < 110 → gn_okO 88 pc (gn_c88 pc) = true := by decide +kernel
set_option maxRecDepth 100000 in
theorem gn_ok89 : ∀ pc, pc < 72 → gn_okO 89 pc (gn_c89 pc) = true := by decide +kernel
set_option maxRecDepth 100000 in
theorem gn_ok90 : ∀ pc, pc < 14 → gn_okO 90 pc (gn_c90 pc) = true := by decide +kernel
set_option maxRecDepth 100000 in
theorem gn_ok91 : ∀ pc, pc < 57 → gn_okO 91 pc (gn_c91 pc) = true := by decide +kernel
set_option maxRecDepth 100000 in
theorem gn_ok92 : ∀ pc, pc < 38 → gn_okO 92 pc (gn_c92 pc) = true := by decide +kernel
set_option maxRecDepth 100000 in
theorem gn_ok93 : ∀ pc, pc < 108 → gn_okO 93 pc (gn_c93 pc) = true := by decide +kernel
set_option maxRecDepth 100000 in
theorem gn_ok94 : ∀ pc, pc < 8 → gn_okO 94 pc (gn_c94 pc) = true := by decide +kernel
set_option maxRecDepth 100000 in
theorem gn_ok95 : ∀ pc, pc < 267 → gn_okO 95 pc (gn_c95 pc) = true := by decide +kernel
set_option maxRecDepth 100000 in
theorem gn_ok96 : ∀ pc, pc < 109 → gn_okO 96 pc (gn_c96 pc) = true := by decide +kernel
set_option maxRecDepth 100000 in
theorem gn_ok97 : ∀ pc, pc < 59 → gn_okO 97 pc (gn_c97 pc) = true := by decide +kernel
set_option maxRecDepth 100000 in
theorem gn_ok98 : ∀ pc, pc < 70 → gn_okO 98 pc (gn_c98 pc) = true := by decide +kernel
set_option maxRecDepth 100000 in
theorem gn_ok99 : ∀ pc, pc < 52 → gn_okO 99 pc (gn_c99 pc) = true := by decide +kernel
set_option maxRecDepth 100000 in
theorem gn_ok100 : ∀ pc, pc < 65 → gn_okO 100 pc (gn_c100 pc) = true := by decide +kernel
set_option maxRecDepth 100000 in
theorem gn_ok101 : ∀ pc, pc < 63 → gn_okO 101 pc (gn_c101 pc) = true := by decide +kernel
set_option maxRecDepth 100000 in
theorem gn_ok102 : ∀ pc, pc < 56 → gn_okO 102 pc (gn_c102 pc) = true := by decide +kernel
set_option maxRecDepth 100000 in
theorem gn_ok103 : ∀ pc, pc < 55 → gn_okO 103 pc (gn_c103 pc) = true := by decide +kernel
set_option maxRecDepth 100000 in
theorem gn_ok104 : ∀ pc, pc < 59 → gn_okO 104 pc (gn_c104 pc) = true := by decide +kernel
set_option maxRecDepth 100000 in
theorem gn_ok105 : ∀ pc, pc < 70 → gn_okO 105 pc (gn_c105 pc) = true := by decide +kernel
set_option maxRecDepth 100000 in
theorem gn_ok106 : ∀ pc, pc < 48 → gn_okO 106 pc (gn_c106 pc) = true := by decide +kernel
set_option maxRecDepth 100000 in
theorem gn_ok107 : ∀ pc, pc < 46 → gn_okO 107 pc (gn_c107 pc) = true := by decide +kernel
set_option maxRecDepth 100000 in
theorem gn_ok108 : ∀ pc, pc < 77 → gn_okO 108 pc (gn_c108 pc) = true := by decide +kernel
set_option maxRecDepth 100000 in
theorem gn_ok109 : ∀ pc, pc < 58 → gn_okO 109 pc (gn_c109 pc) = true := by decide +kernel
set_option maxRecDepth 100000 in
theorem gn_ok110 : ∀ pc, pc < 54 → gn_okO 110 pc (gn_c110 pc) = true := by decide +kernel
set_option maxRecDepth 100000 in
theorem gn_ok111 : ∀ pc, pc < 100 → gn_okO 111 pc (gn_c111 pc) = true := by decide +kernel
set_option maxRecDepth 100000 in
theorem gn_ok112 : ∀ pc, pc < 30 → gn_okO 112 pc (gn_c112 pc) = true := by decide +kernel
set_option maxRecDepth 100000 in
theorem gn_ok113 : ∀ pc, pc < 21 → gn_okO 113 pc (gn_c113 pc) = true := by decide +kernel
set_option maxRecDepth 100000 in
theorem gn_ok114 : ∀ pc, pc < 54 → gn_okO 114 pc (gn_c114 pc) = true := by decide +kernel
set_option maxRecDepth 100000 in
theorem gn_ok115 : ∀ pc, pc < 35 → gn_okO 115 pc (gn_c115 pc) = true := by decide +kernel
set_option maxRecDepth 100000 in
theorem gn_ok116 : ∀ pc, pc < 12 → gn_okO 116 pc (gn_c116 pc) = true := by decide +kernel
set_option maxRecDepth 100000 in
theorem gn_ok117 : ∀ pc, pc < 12 → gn_okO 117 pc (gn_c117 pc) = true := by decide +kernel
set_option maxRecDepth 100000 in
theorem gn_ok118 : ∀ pc, pc < 55 → gn_okO 118 pc (gn_c118 pc) = true := by decide +kernel
set_option maxRecDepth 100000 in
theorem gn_ok119 : ∀ pc, pc < 12 → gn_okO 119 pc (gn_c119 pc) = true := by decide +kernel
set_option maxRecDepth 100000 in
theorem gn_ok120 : ∀ pc, pc < 34 → gn_okO 120 pc (gn_c120 pc) = true := by decide +kernel
set_option maxRecDepth 100000 in
theorem gn_ok121 : ∀ pc, pc < 25 → gn_okO 121 pc (gn_c121 pc) = true := by decide +kernel
set_option maxRecDepth 100000 in
theorem gn_ok122 : ∀ pc, pc < 35 → gn_okO 122 pc (gn_c122 pc) = true := by decide +kernel
set_option maxRecDepth 100000 in
theorem gn_ok123 : ∀ pc, pc < 47 → gn_okO 123 pc (gn_c123 pc) = true := by decide +kernel
set_option maxRecDepth 100000 in
theorem gn_ok124 : ∀ pc, pc < 16 → gn_okO 124 pc (gn_c124 pc) = true := by decide +kernel
set_option maxRecDepth 100000 in
theorem gn_ok125 : ∀ pc, pc < 16 → gn_okO 125 pc (gn_c125 pc) = true := by decide +kernel
set_option maxRecDepth 100000 in
theorem gn_ok126 : ∀ pc, pc < 15 → gn_okO 126 pc (gn_c126 pc) = true := by decide +kernel
set_option maxRecDepth 100000 in
theorem gn_ok127 : ∀ pc, pc < 33 → gn_okO 127 pc (gn_c127 pc) = true := by decide +kernel
set_option maxRecDepth 100000 in
theorem gn_ok128 : ∀ pc, pc < 16 → gn_okO 128 pc (gn_c128 pc) = true := by decide +kernel
set_option maxRecDepth 100000 in
theorem gn_ok129 : ∀ pc, pc < 47 → gn_okO 129 pc (gn_c129 pc) = true := by decide +kernel
set_option maxRecDepth 100000 in
theorem gn_ok130 : ∀ pc, pc < 16 → gn_okO 130 pc (gn_c130 pc) = true := by decide +kernel
set_option maxRecDepth 100000 in
theorem gn_ok131 : ∀ pc, pc < 15 → gn_okO 131 pc (gn_c131 pc) = true := by decide +kernel
set_option maxRecDepth 100000 in
theorem gn_ok132 : ∀ pc, pc < 12 → gn_okO 132 pc (gn_c132 pc) = true := by decide +kernel
set_option maxRecDepth 100000 in
theorem gn_ok133 : ∀ pc, pc < 12 → gn_okO 133 pc (gn_c133 pc) = true := by decide +kernel
set_option maxRecDepth 100000 in
theorem gn_ok134 : ∀ pc, pc < 31 → gn_okO 134 pc (gn_c134 pc) = true := by decide +kernel
set_option maxRecDepth 100000 in
theorem gn_ok135 : ∀ pc, pc < 52 → gn_okO 135 pc (gn_c135 pc) = true := by decide +kernel
set_option maxRecDepth 100000 in
theorem gn_ok136 : ∀ pc, pc < 18 → gn_okO 136 pc (gn_c136 pc) = true := by decide +kernel
set_option maxRecDepth 100000 in
theorem gn_ok137 : ∀ pc, pc < 13 → gn_okO 137 pc (gn_c137 pc) = true := by decide +kernel
set_option maxRecDepth 100000 in
theorem gn_ok138 : ∀ pc, pc < 63 → gn_okO 138 pc (gn_c138 pc) = true := by decide +kernel
set_option maxRecDepth 100000 in
theorem gn_ok139 : ∀ pc, pc < 139 → gn_okO 139 pc (gn_c139 pc) = true := by decide +kernel
set_option maxRecDepth 100000 in
theorem gn_ok140 : ∀ pc, pc < 31 → gn_okO 140 pc (gn_c140 pc) = true := by decide +kernel
set_option maxRecDepth 100000 in
theorem gn_ok141 : ∀ pc, pc < 158 → gn_okO 141 pc (gn_c141 pc) = true := by decide +kernel
set_option maxRecDepth 100000 in
theorem gn_ok142 : ∀ pc, pc < 55 → gn_okO 142 pc (gn_c142 pc) = true := by decide +kernel
set_option maxRecDepth 100000 in
theorem gn_ok143 : ∀ pc, pc < 142 → gn_okO 143 pc (gn_c143 pc) = true := by decide +kernel
set_option maxRecDepth 100000 in
theorem gn_ok144 : ∀ pc, pc < 100 → gn_okO 144 pc (gn_c144 pc) = true := by decide +kernel
set_option maxRecDepth 100000 in
theorem gn_ok145 : ∀ pc, pc < 205 → gn_okO 145 pc (gn_c145 pc) = true := by decide +kernel
set_option maxRecDepth 100000 in
theorem gn_ok146 : ∀ pc, pc < 105 → gn_okO 146 pc (gn_c146 pc) = true := by decide +kernel
set_option maxRecDepth 100000 in
theorem gn_ok147 : ∀ pc, pc < 5 → gn_okO 147 pc (gn_c147 pc) = true := by decide +kernel
set_option maxRecDepth 100000 in
theorem gn_ok148 : ∀ pc, pc < 15 → gn_okO 148 pc (gn_c148 pc) = true := by decide +kernel
set_option maxRecDepth 100000 in
theorem gn_ok149 : ∀ pc, pc < 15 → gn_okO 149 pc (gn_c149 pc) = true := by decide +kernel
set_option maxRecDepth 100000 in
theorem gn_ok150 : ∀ pc, pc < 125 → gn_okO 150 pc (gn_c150 pc) = true := by decide +kernel
set_option maxRecDepth 100000 in
theorem gn_ok151 : ∀ pc, pc < 10 → gn_okO 151 pc (gn_c151 pc) = true := by decide +kernel
set_option maxRecDepth 100000 in
theorem gn_ok152 : ∀ pc, pc < 43 → gn_okO 152 pc (gn_c152 pc) = true := by decide +kernel
set_option maxRecDepth 100000 in
theorem gn_ok153 : ∀ pc, pc < 38 → gn_okO 153 pc (gn_c153 pc) = true := by decide +kernel
set_option maxRecDepth 100000 in
theorem gn_ok154 : ∀ pc, pc < 39 → gn_okO 154 pc (gn_c154 pc) = true := by decide +kernel
set_option maxRecDepth 100000 in
theorem gn_ok155 : ∀ pc, pc < 33 → gn_okO 155 pc (gn_c155 pc) = true := by decide +kernel
set_option maxRecDepth 100000 in
theorem gn_ok156 : ∀ pc, pc < 32 → gn_okO 156 pc (gn_c156 pc) = true := by decide +kernel
set_option maxRecDepth 100000 in
theorem gn_ok157 : ∀ pc, pc < 91 → gn_okO 157 pc (gn_c157 pc) = true := by decide +kernel
set_option maxRecDepth 100000 in
theorem gn_ok158 : ∀ pc, pc < 87 → gn_okO 158 pc (gn_c158 pc) = true := by decide +kernel
set_option maxRecDepth 100000 in
theorem gn_ok159 : ∀ pc, pc < 216 → gn_okO 159 pc (gn_c159 pc) = true := by decide +kernel
set_option maxRecDepth 100000 in
theorem gn_ok160 : ∀ pc, pc < 102 → gn_okO 160 pc (gn_c160 pc) = true := by decide +kernel
set_option maxRecDepth 100000 in
theorem gn_ok161 : ∀ pc, pc < 66 → gn_okO 161 pc (gn_c161 pc) = true := by decide +kernel
set_option maxRecDepth 100000 in
theorem gn_ok162 : ∀ pc, pc < 58 → gn_okO 162 pc (gn_c162 pc) = true := by decide +kernel
set_option maxRecDepth 100000 in
theorem gn_ok163 : ∀ pc, pc < 79 → gn_okO 163 pc (gn_c163 pc) = true := by decide +kernel
set_option maxRecDepth 100000 in
theorem gn_ok164 : ∀ pc, pc < 66 → gn_okO 164 pc (gn_c164 pc) = true := by decide +kernel
set_option maxRecDepth 100000 in
theorem gn_ok165 : ∀ pc, pc < 42 → gn_okO 165 pc (gn_c165 pc) = true := by decide +kernel
set_option maxRecDepth 100000 in
theorem gn_ok166 : ∀ pc, pc < 36 → gn_okO 166 pc (gn_c166 pc) = true := by decide +kernel
set_option maxRecDepth 100000 in
theorem gn_ok167 : ∀ pc, pc < 42 → gn_okO 167 pc (gn_c167 pc) = true := by decide +kernel
set_option maxRecDepth 100000 in
theorem gn_ok168 : ∀ pc, pc < 27 → gn_okO 168 pc (gn_c168 pc) = true := by decide +kernel
set_option maxRecDepth 100000 in
theorem gn_ok169 : ∀ pc, pc < 53 → gn_okO 169 pc (gn_c169 pc) = true := by decide +kernel
set_option maxRecDepth 100000 in
theorem gn_ok170 : ∀ pc, pc < 76 → gn_okO 170 pc (gn_c170 pc) = true := by decide +kernel
set_option maxRecDepth 100000 in
theorem gn_ok171 : ∀ pc, pc < 72 → gn_okO 171 pc (gn_c171 pc) = true := by decide +kernel
set_option maxRecDepth 100000 in
theorem gn_ok172 : ∀ pc, pc < 38 → gn_okO 172 pc (gn_c172 pc) = true := by decide +kernel
set_option maxRecDepth 100000 in
theorem gn_ok173 : ∀ pc, pc < 98 → gn_okO 173 pc (gn_c173 pc) = true := by decide +kernel
set_option maxRecDepth 100000 in
theorem gn_ok174 : ∀ pc, pc < 46 → gn_okO 174 pc (gn_c174 pc) = true := by decide +kernel
set_option maxRecDepth 100000 in
theorem gn_ok175 : ∀ pc, pc < 43 → gn_okO 175 pc (gn_c175 pc) = true := by decide +kernel
set_option maxRecDepth 100000 in
theorem gn_ok176 : ∀ pc, pc < 52 → gn_okO 176 pc (gn_c176 pc) = true := by decide +kernel
set_option maxRecDepth 100000 in
theorem gn_ok177 : ∀ pc, pc < 41 → gn_okO 177 pc (gn_c177 pc) = true := by decide +kernel
set_option maxRecDepth 100000 in
theorem gn_ok178 : ∀ pc, pc < 87 → gn_okO 178 pc (gn_c178 pc) = true := by decide +kernel
set_option maxRecDepth 100000 in
theorem gn_ok179 : ∀ pc, pc < 61 → gn_okO 179 pc (gn_c179 pc) = true := by decide +kernel
set_option maxRecDepth 100000 in
theorem gn_ok180 : ∀ pc, pc < 73 → gn_okO 180 pc (gn_c180 pc) = true := by decide +kernel
set_option maxRecDepth 100000 in
theorem gn_ok181 : ∀ pc, pc < 53 → gn_okO 181 pc (gn_c181 pc) = true := by decide +kernel
set_option maxRecDepth 100000 in
theorem gn_ok182 : ∀ pc, pc < 22 → gn_okO 182 pc (gn_c182 pc) = true := by decide +kernel
set_option maxRecDepth 100000 in
theorem gn_ok183 : ∀ pc, pc < 53 → gn_okO 183 pc (gn_c183 pc) = true := by decide +kernel
set_option maxRecDepth 100000 in
theorem gn_ok184 : ∀ pc, pc < 151 → gn_okO 184 pc (gn_c184 pc) = true := by decide +kernel
set_option maxRecDepth 100000 in
theorem gn_ok185 : ∀ pc, pc < 132 → gn_okO 185 pc (gn_c185 pc) = true := by decide +kernel
set_option maxRecDepth 100000 in
theorem gn_ok186 : ∀ pc, pc < 21 → gn_okO 186 pc (gn_c186 pc) = true := by decide +kernel
set_option maxRecDepth 100000 in
theorem gn_ok187 : ∀ pc, pc < 114 → gn_okO 187 pc (gn_c187 pc) = true := by decide +kernel
set_option maxRecDepth 100000 in
theorem gn_ok188 : ∀ pc, pc < 125 → gn_okO 188 pc (gn_c188 pc) = true := by decide +kernel
set_option maxRecDepth 100000 in
theorem gn_ok189 : ∀ pc, pc < 24 → gn_okO 189 pc (gn_c189 pc) = true := by decide +kernel
set_option maxRecDepth 100000 in
theorem gn_ok190 : ∀ pc, pc < 36 → gn_okO 190 pc (gn_c190 pc) = true := by decide +kernel
set_option maxRecDepth 100000 in
theorem gn_ok191 : ∀ pc, pc < 88 → gn_okO 191 pc (gn_c191 pc) = true := by decide +kernel
set_option maxRecDepth 100000 in
theorem gn_ok192 : ∀ pc, pc < 36 → gn_okO 192 pc (gn_c192 pc) = true := by decide +kernel
set_option maxRecDepth 100000 in
theorem gn_ok193 : ∀ pc, pc < 94 → gn_okO 193 pc (gn_c193 pc) = true := by decide +kernel
set_option maxRecDepth 100000 in
theorem gn_ok194 : ∀ pc, pc < 54 → gn_okO 194 pc (gn_c194 pc) = true := by decide +kernel
set_option maxRecDepth 100000 in
theorem gn_ok195 : ∀ pc, pc < 60 → gn_okO 195 pc (gn_c195 pc) = true := by decide +kernel
set_option maxRecDepth 100000 in
theorem gn_ok196 : ∀ pc, pc < 89 → gn_okO 196 pc (gn_c196 pc) = true := by decide +kernel
set_option maxRecDepth 100000 in
theorem gn_ok197 : ∀ pc, pc < 166 → gn_okO 197 pc (gn_c197 pc) = true := by decide +kernel
set_option maxRecDepth 100000 in
theorem gn_ok198 : ∀ pc, pc < 71 → gn_okO 198 pc (gn_c198 pc) = true := by decide +kernel
set_option maxRecDepth 100000 in
theorem gn_ok199 : ∀ pc, pc < 43 → gn_okO 199 pc (gn_c199 pc) = true := by decide +kernel
set_option maxRecDepth 100000 in
theorem gn_ok200 : ∀ pc, pc < 22 → gn_okO 200 pc (gn_c200 pc) = true := by decide +kernel
set_option maxRecDepth 100000 in
theorem gn_ok201 : ∀ pc, pc < 25 → gn_okO 201 pc (gn_c201 pc) = true := by decide +kernel
set_option maxRecDepth 100000 in
theorem gn_ok202 : ∀ pc, pc < 43 → gn_okO 202 pc (gn_c202 pc) = true := by decide +kernel
set_option maxRecDepth 100000 in
theorem gn_ok203 : ∀ pc, pc < 45 → gn_okO 203 pc (gn_c203 pc) = true := by decide +kernel
set_option maxRecDepth 100000 in
theorem gn_ok204 : ∀ pc, pc < 53 → gn_okO 204 pc (gn_c204 pc) = true := by decide +kernel
theorem gn_two {P : Nat → Prop} {lo mid hi : Nat} (h1 : ∀ k, lo ≤ k → k < mid → P k) (h2 : ∀ k, mid ≤ k → k < hi → P k) : ∀ k, lo ≤ k → k < hi → P k := fun k a b => (Nat.lt_or_ge k mid).elim (h1 k a) (fun c => h2 k c b)
theorem gn_one {P : Nat → Prop} {k0 : Nat} (h : P k0) : ∀ k, k0 ≤ k → k < k0 + 1 → P k := fun k a b => by
  have e : k = k0 := by omega
  rw [e]; exact h
def gn_PM (k : Nat) : Prop := ∀ pc, pc < (gn_mth k).1 → gn_okO k pc ((gn_mth k).2 pc) = true
theorem gn_pm0 : gn_PM 0 := gn_ok0
theorem gn_pm1 : gn_PM 1 := gn_ok1
theorem gn_pm2 : gn_PM 2 := gn_ok2
theorem gn_pm3 : gn_PM 3 := gn_ok3
theorem gn_pm4 : gn_PM 4 := gn_ok4
theorem gn_pm5 : gn_PM 5 := gn_ok5
theorem gn_pm6 : gn_PM 6 := gn_ok6
theorem gn_pm7 : gn_PM 7 := gn_ok7
theorem gn_pm8 : gn_PM 8 := gn_ok8
theorem gn_pm9 : gn_PM 9 := gn_ok9
theorem gn_pm10 : gn_PM 10 := gn_ok10
theorem gn_pm11 : gn_PM 11 := gn_ok11
theorem gn_pm12 : gn_PM 12 := gn_ok12
theorem gn_pm13 : gn_PM 13 := gn_ok13
theorem gn_pm14 : gn_PM 14 := gn_ok14
theorem gn_pm15 : gn_PM 15 := gn_ok15
theorem gn_pm16 : gn_PM 16 := gn_ok16
theorem gn_pm17 : gn_PM 17 := gn_ok17
theorem gn_pm18 : gn_PM 18 := gn_ok18
theorem gn_pm19 : gn_PM 19 := gn_ok19
theorem gn_pm20 : gn_PM 20 := gn_ok20
theorem gn_pm21 : gn_PM 21 := gn_ok21
theorem gn_pm22 : gn_PM 22 := gn_ok22
theorem gn_pm23 : gn_PM 23 := gn_ok23
theorem gn_pm24 : gn_PM 24 := gn_ok24
theorem gn_pm25 : gn_PM 25 := gn_ok25
theorem gn_pm26 : gn_PM 26 := gn_ok26
theorem gn_pm27 : gn_PM 27 := gn_ok27
theorem gn_pm28 : gn_PM 28 := gn_ok28
theorem gn_pm29 : gn_PM 29 := gn_ok29
theorem gn_pm30 : gn_PM 30 := gn_ok30
theorem gn_pm31 : gn_PM 31 := gn_ok31
theorem gn_pm32 : gn_PM 32 := gn_ok32
theorem gn_pm33 : gn_PM 33 := gn_ok33
theorem gn_pm34 : gn_PM 34 := gn_ok34
theorem gn_pm35 : gn_PM 35 := gn_ok35
theorem gn_pm36 : gn_PM 36 := gn_ok36
theorem gn_pm37 : gn_PM 37 := gn_ok37
theorem gn_pm38 : gn_PM 38 := gn_ok38
theorem gn_pm39 : gn_PM 39 := gn_ok39
theorem gn_pm40 : gn_PM 40 := gn_ok40
theorem gn_pm41 : gn_PM 41 := gn_ok41
theorem gn_pm42 : gn_PM 42 := gn_ok42
theorem gn_pm43 : gn_PM 43 := gn_ok43
theorem gn_pm44 : gn_PM 44 := gn_ok44
theorem gn_pm45 : gn_PM 45 := gn_ok45
theorem gn_pm46 : gn_PM 46 := gn_ok46
theorem gn_pm47 : gn_PM 47 := gn_ok47
theorem gn_pm48 : gn_PM 48 := gn_ok48
theorem gn_pm49 : gn_PM 49 := gn_ok49
theorem gn_pm50 : gn_PM 50 := gn_ok50
theorem gn_pm51 : gn_PM 51 := gn_ok51
theorem gn_pm52 : gn_PM 52 := gn_ok52
theorem gn_pm53 : gn_PM 53 := gn_ok53
theorem gn_pm54 : gn_PM 54 := gn_ok54
theorem gn_pm55 : gn_PM 55 := gn_ok55
theorem gn_pm56 : gn_PM 56 := gn_ok56
theorem gn_pm57 : gn_PM 57 := gn_ok57
theorem gn_pm58 : gn_PM 58 := gn_ok58
theorem gn_pm59 : gn_PM 59 := gn_ok59
theorem gn_pm60 : gn_PM 60 := gn_ok60
theorem gn_pm61 : gn_PM 61 := gn_ok61
theorem gn_pm62 : gn_PM 62 := gn_ok62
theorem gn_pm63 : gn_PM 63 := gn_ok63
theorem gn_pm64 : gn_PM 64 := gn_ok64
theorem gn_pm65 : gn_PM 65 := gn_ok65
theorem gn_pm66 : gn_PM 66 := gn_ok66
theorem gn_pm67 : gn_PM 67 := gn_ok67
theorem gn_pm68 : gn_PM 68 := gn_ok68
theorem gn_pm69 : gn_PM 69 := gn_ok69
theorem gn_pm70 : gn_PM 70 := gn_ok70
theorem gn_pm71 : gn_PM 71 := gn_ok71
theorem gn_pm72 : gn_PM 72 := gn_ok72
theorem gn_pm73 : gn_PM 73 := gn_ok73
theorem gn_pm74 : gn_PM 74 := gn_ok74
theorem gn_pm75 : gn_PM 75 := gn_ok75
theorem gn_pm76 : gn_PM 76 := gn_ok76
theorem gn_pm77 : gn_PM 77 := gn_ok77
theorem gn_pm78 : gn_PM 78 := gn_ok78
theorem gn_pm79 : gn_PM 79 := gn_ok79
theorem gn_pm80 : gn_PM 80 := gn_ok80
theorem gn_pm81 : gn_PM 81 := gn_ok81
theorem gn_pm82 : gn_PM 82 := gn_ok82
theorem gn_pm83 : gn_PM 83 := gn_ok83
theorem gn_pm84 : gn_PM 84 := gn_ok84
theorem gn_pm85 : gn_PM 85 := gn_ok85
theorem gn_pm86 : gn_PM 86 := gn_ok86
theorem gn_pm87 : gn_PM 87 := gn_ok87
theorem gn_pm88 : gn_PM 88 := gn_ok88
theorem gn_pm89 : gn_PM 89 := gn_ok89
theorem gn_pm90 : gn_PM 90 := gn_ok90
theorem gn_pm91 : gn_PM 91 := gn_ok91
theorem gn_pm92 : gn_PM 92 := gn_ok92
theorem gn_pm93 : gn_PM 93 := gn_ok93
theorem gn_pm94 : gn_PM 94 := gn_ok94
theorem gn_pm95 : gn_PM 95 := gn_ok95
theorem gn_pm96 : gn_PM 96 := gn_ok96
theorem gn_pm97 : gn_PM 97 := gn_ok97
theorem gn_pm98 : gn_PM 98 := gn_ok98
theorem gn_pm99 : gn_PM 99 := gn_ok99
theorem gn_pm100 : gn_PM 100 := gn_ok100
theorem gn_pm101 : gn_PM 101 := gn_ok101
theorem gn_pm102 : gn_PM 102 := gn_ok102
theorem gn_pm103 : gn_PM 103 := gn_ok103
theorem gn_pm104 : gn_PM 104 := gn_ok104
theorem gn_pm105 : gn_PM 105 := gn_ok105
theorem gn_pm106 : gn_PM 106 := gn_ok106
theorem gn_pm107 : gn_PM 107 := gn_ok107
theorem gn_pm108 : gn_PM 108 := gn_ok108
theorem gn_pm109 : gn_PM 109 := gn_ok109
theorem gn_pm110 : gn_PM 110 := gn_ok110
theorem gn_pm111 : gn_PM 111 := gn_ok111
theorem gn_pm112 : gn_PM 112 := gn_ok112
theorem gn_pm113 : gn_PM 113 := gn_ok113
theorem gn_pm114 : gn_PM 114 := gn_ok114
theorem gn_pm115 : gn_PM 115 := gn_ok115
theorem gn_pm116 : gn_PM 116 := gn_ok116
theorem gn_pm117 : gn_PM 117 := gn_ok117
theorem gn_pm118 : gn_PM 118 := gn_ok118
theorem gn_pm119 : gn_PM 119 := gn_ok119
theorem gn_pm120 : gn_PM 120 := gn_ok120
theorem gn_pm121 : gn_PM 121 := gn_ok121
theorem gn_pm122 : gn_PM 122 := gn_ok122
theorem gn_pm123 : gn_PM 123 := gn_ok123
theorem gn_pm124 : gn_PM 124 := gn_ok124
theorem gn_pm125 : gn_PM 125 := gn_ok125
theorem gn_pm126 : gn_PM 126 := gn_ok126
theorem gn_pm127 : gn_PM 127 := gn_ok127
theorem gn_pm128 : gn_PM 128 := gn_ok128
theorem gn_pm129 : gn_PM 129 := gn_ok129
theorem gn_pm130 : gn_PM 130 := gn_ok130
theorem gn_pm131 : gn_PM 131 := gn_ok131
theorem gn_pm132 : gn_PM 132 := gn_ok132
theorem gn_pm133 : gn_PM 133 := gn_ok133
theorem gn_pm134 : gn_PM 134 := gn_ok134
theorem gn_pm135 : gn_PM 135 := gn_ok135
theorem gn_pm136 : gn_PM 136 := gn_ok136
theorem gn_pm137 : gn_PM 137 := gn_ok137
theorem gn_pm138 : gn_PM 138 := gn_ok138
theorem gn_pm139 : gn_PM 139 := gn_ok139
theorem gn_pm140 : gn_PM 140 := gn_ok140
theorem gn_pm141 : gn_PM 141 := gn_ok141
theorem gn_pm142 : gn_PM 142 := gn_ok142
theorem gn_pm143 : gn_PM 143 := gn_ok143
theorem gn_pm144 : gn_PM 144 := gn_ok144
theorem gn_pm145 : gn_PM 145 := gn_ok145
theorem gn_pm146 : gn_PM 146 := gn_ok146
theorem gn_pm147 : gn_PM 147 := gn_ok147
theorem gn_pm148 : gn_PM 148 := gn_ok148
theorem gn_pm149 : gn_PM 149 := gn_ok149
theorem gn_pm150 : gn_PM 150 := gn_ok150
theorem gn_pm151 : gn_PM 151 := gn_ok151
theorem gn_pm152 : gn_PM 152 := gn_ok152
theorem gn_pm153 : gn_PM 153 := gn_ok153
theorem gn_pm154 : gn_PM 154 := gn_ok154
theorem gn_pm155 : gn_PM 155 := gn_ok155
theorem gn_pm156 : gn_PM 156 := gn_ok156
theorem gn_pm157 : gn_PM 157 := gn_ok157
theorem gn_pm158 : gn_PM 158 := gn_ok158
theorem gn_pm159 : gn_PM 159 := gn_ok159
theorem gn_pm160 : gn_PM 160 := gn_ok160
theorem gn_pm161 : gn_PM 161 := gn_ok161
theorem gn_pm162 : gn_PM 162 := gn_ok162
theorem gn_pm163 : gn_PM 163 := gn_ok163
theorem gn_pm164 : gn_PM 164 := gn_ok164
theorem gn_pm165 : gn_PM 165 := gn_ok165
theorem gn_pm166 : gn_PM 166 := gn_ok166
theorem gn_pm167 : gn_PM 167 := gn_ok167
theorem gn_pm168 : gn_PM 168 := gn_ok168
theorem gn_pm169 : gn_PM 169 := gn_ok169
theorem gn_pm170 : gn_PM 170 := gn_ok170
theorem gn_pm171 : gn_PM 171 := gn_ok171
theorem gn_pm172 : gn_PM 172 := gn_ok172
theorem gn_pm173 : gn_PM 173 := gn_ok173
theorem gn_pm174 : gn_PM 174 := gn_ok174
theorem gn_pm175 : gn_PM 175 := gn_ok175
theorem gn_pm176 : gn_PM 176 := gn_ok176
theorem gn_pm177 : gn_PM 177 := gn_ok177
theorem gn_pm178 : gn_PM 178 := gn_ok178
theorem gn_pm179 : gn_PM 179 := gn_ok179
theorem gn_pm180 : gn_PM 180 := gn_ok180
theorem gn_pm181 : gn_PM 181 := gn_ok181
theorem gn_pm182 : gn_PM 182 := gn_ok182
theorem gn_pm183 : gn_PM 183 := gn_ok183
theorem gn_pm184 : gn_PM 184 := gn_ok184
theorem gn_pm185 : gn_PM 185 := gn_ok185
theorem gn_pm186 : gn_PM 186 := gn_ok186
theorem gn_pm187 : gn_PM 187 := gn_ok187
theorem gn_pm188 : gn_PM 188 := gn_ok188
theorem gn_pm189 : gn_PM 189 := gn_ok189
theorem gn_pm190 : gn_PM 190 := gn_ok190
theorem gn_pm191 : gn_PM 191 := gn_ok191
theorem gn_pm192 : gn_PM 192 := gn_ok192
theorem gn_pm193 : gn_PM 193 := gn_ok193
theorem gn_pm194 : gn_PM 194 := gn_ok194
theorem gn_pm195 : gn_PM 195 := gn_ok195
theorem gn_pm196 : gn_PM 196 := gn_ok196
theorem gn_pm197 : gn_PM 197 := gn_ok197
theorem gn_pm198 : gn_PM 198 := gn_ok198
theorem gn_pm199 : gn_PM 199 := gn_ok199
theorem gn_pm200 : gn_PM 200 := gn_ok200
theorem gn_pm201 : gn_PM 201 := gn_ok201
theorem gn_pm202 : gn_PM 202 := gn_ok202
theorem gn_pm203 : gn_PM 203 := gn_ok203
theorem gn_pm204 : gn_PM 204 := gn_ok204
theorem gn_pm_all : ∀ k, 0 ≤ k → k < 205 → gn_PM k := (gn_two (lo := 0) (mid := 102) (hi := 205) (gn_two (lo := 0) (mid := 51) (hi := 102) (gn_two (lo := 0) (mid := 25) (hi := 51) (gn_two (lo := 0) (mid := 12) (hi := 25) (gn_two (lo := 0) (mid := 6) (hi := 12) (gn_two (lo := 0) (mid := 3) (hi := 6) (gn_two (lo := 0) (mid := 1) (hi := 3) (gn_one (k0 := 0) gn_pm0) (gn_two (lo := 1) (mid := 2) (hi := 3) (gn_one (k0 := 1) gn_pm1) (gn_one (k0 := 2) gn_pm2))) (gn_two (lo := 3) (mid := 4) (hi := 6) (gn_one (k0 := 3) gn_pm3) (gn_two (lo := 4) (mid := 5) (hi := 6) (gn_one (k0 := 4) gn_pm4) (gn_one (k0 := 5) gn_pm5)))) (gn_two (lo := 6) (mid := 9) (hi := 12) (gn_two (lo := 6) (mid := 7) (hi := 9) (gn_one (k0 := 6) gn_pm6) (gn_two (lo := 7) (mid := 8) (hi := 9) (gn_one (k0 := 7) gn_pm7) (gn_one (k0 := 8) gn_pm8))) (gn_two (lo := 9) (mid := 10) (hi := 12) (gn_one (k0 := 9) gn_pm9) (gn_two (lo := 10) (mid := 11) (hi := 12) (gn_one (k0 := 10) gn_pm10) (gn_one (k0 := 11) gn_pm11))))) (gn_two (lo := 12) (mid := 18) (hi := 25) (gn_two (lo := 12) (mid := 15) (hi := 18) (gn_two (lo := 12) (mid := 13) (hi := 15) (gn_one (k0 := 12) gn_pm12) (gn_two (lo := 13) (mid := 14) (hi := 15) (gn_one (k0 := 13) gn_pm13) (gn_one (k0 := 14) gn_pm14))) (gn_two (lo := 15) (mid := 16) (hi := 18) (gn_one (k0 := 15) gn_pm15) (gn_two (lo := 16) (mid := 17) (hi := 18) (gn_one (k0 := 16) gn_pm16) (gn_one (k0 := 17) gn_pm17)))) (gn_two (lo := 18) (mid := 21) (hi := 25) (gn_two (lo := 18) (mid := 19) (hi := 21) (gn_one (k0 := 18) gn_pm18) (gn_two (lo := 19) (mid := 20) (hi := 21) (gn_one (k0 := 19) gn_pm19) (gn_one (k0 := 20) gn_pm20))) (gn_two (lo := 21) (mid := 23) (hi := 25) (gn_two (lo := 21) (mid := 22) (hi := 23) (gn_one (k0 := 21) gn_pm21) (gn_one (k0 := 22) gn_pm22)) (gn_two (lo := 23) (mid := 24) (hi := 25) (gn_one (k0 := 23) gn_pm23) (gn_one (k0 := 24) gn_pm24)))))) (gn_two (lo := 25) (mid := 38) (hi := 51) (gn_two (lo := 25) (mid := 31) (hi := 38) (gn_two (lo := 25) (mid := 28) (hi := 31) (gn_two (lo := 25) (mid := 26) (hi := 28) (gn_one (k0 := 25) gn_pm25) (gn_two (lo := 26) (mid := 27) (hi := 28) (gn_one (k0 := 26) gn_pm26) (gn_one (k0 := 27) gn_pm27))) (gn_two (lo := 28) (mid := 29) (hi := 31) (gn_one (k0 := 28) gn_pm28) (gn_two (lo := 29) (mid := 30) (hi := 31) (gn_one (k0 := 29) gn_pm29) (gn_one (k0 := 30) gn_pm30)))) (gn_two (lo := 31) (mid := 34) (hi := 38) (gn_two (lo := 31) (mid := 32) (hi := 34) (gn_one (k0 := 31) gn_pm31) (gn_two (lo := 32) (mid := 33) (hi := 34) (gn_one (k0 := 32) gn_pm32) (gn_one (k0 := 33) gn_pm33))) (gn_two (lo := 34) (mid := 36) (hi := 38) (gn_two (lo := 34) (mid := 35) (hi := 36) (gn_one (k0 := 34) gn_pm34) (gn_one (k0 := 35) gn_pm35)) (gn_two (lo := 36) (mid := 37) (hi := 38) (gn_one (k0 := 36) gn_pm36) (gn_one (k0 := 37) gn_pm37))))) (gn_two (lo := 38) (mid := 44) (hi := 51) (gn_two (lo := 38) (mid := 41) (hi := 44) (gn_two (lo := 38) (mid := 39) (hi := 41) (gn_one (k0 := 38) gn_pm38) (gn_two (lo := 39) (mid := 40) (hi := 41) (gn_one (k0 := 39) gn_pm39) (gn_one (k0 := 40) gn_pm40))) (gn_two (lo := 41) (mid := 42) (hi := 44) (gn_one (k0 := 41) gn_pm41) (gn_two (lo := 42) (mid := 43) (hi := 44) (gn_one (k0 := 42) gn_pm42) (gn_one (k0 := 43) gn_pm43)))) (gn_two (lo := 44) (mid := 47) (hi := 51) (gn_two (lo := 44) (mid := 45) (hi := 47) (gn_one (k0 := 44) gn_pm44) (gn_two (lo := 45) (mid := 46) (hi := 47) (gn_one (k0 := 45) gn_pm45) (gn_one (k0 := 46) gn_pm46))) (gn_two (lo := 47) (mid := 49) (hi := 51) (gn_two (lo := 47) (mid := 48) (hi := 49) (gn_one (k0 := 47) gn_pm47) (gn_one (k0 := 48) gn_pm48)) (gn_two (lo := 49) (mid := 50) (hi := 51) (gn_one (k0 := 49) gn_pm49) (gn_one (k0 := 50) gn_pm50))))))) (gn_two (lo := 51) (mid := 76) (hi := 102) (gn_two (lo := 51) (mid := 63) (hi := 76) (gn_two (lo := 51) (mid := 57) (hi := 63) (gn_two (lo := 51) (mid := 54) (hi := 57) (gn_two (lo := 51) (mid := 52) (hi := 54) (gn_one (k0 := 51) gn_pm51) (gn_two (lo := 52) (mid := 53) (hi := 54) (gn_one (k0 := 52) gn_pm52) (gn_one (k0 := 53) gn_pm53))) (gn_two (lo := 54) (mid := 55) (hi := 57) (gn_one (k0 := 54) gn_pm54) (gn_two (lo := 55) (mid := 56) (hi := 57) (gn_one (k0 := 55) gn_pm55) (gn_one (k0 := 56) gn_pm56)))) (gn_two (lo := 57) (mid := 60) (hi := 63) (gn_two (lo := 57) (mid := 58) (hi := 60) (gn_one (k0 := 57) gn_pm57) (gn_two (lo := 58) (mid := 59) (hi := 60) (gn_one (k0 := 58) gn_pm58) (gn_one (k0 := 59) gn_pm59))) (gn_two (lo := 60) (mid := 61) (hi := 63) (gn_one (k0 := 60) gn_pm60) (gn_two (lo := 61) (mid := 62) (hi := 63) (gn_one (k0 := 61) gn_pm61) (gn_one (k0 := 62) gn_pm62))))) (gn_two (lo := 63) (mid := 69) (hi := 76) (gn_two (lo := 63) (mid := 66) (hi := 69) (gn_two (lo := 63) (mid := 64) (hi := 66) (gn_one (k0 := 63) gn_pm63) (gn_two (lo := 64) (mid := 65) (hi := 66) (gn_one (k0 := 64) gn_pm64) (gn_one (k0 := 65) gn_pm65))) (gn_two (lo := 66) (mid := 67) (hi := 69) (gn_one (k0 := 66) gn_pm66) (gn_two (lo := 67) (mid := 68) (hi := 69) (gn_one (k0 := 67) gn_pm67) (gn_one (k0 := 68) gn_pm68)))) (gn_two (lo := 69) (mid := 72) (hi := 76) (gn_two (lo := 69) (mid := 70) (hi := 72) (gn_one (k0 := 69) gn_pm69) (gn_two (lo := 70) (mid := 71) (hi := 72) (gn_one (k0 := 70) gn_pm70) (gn_one (k0 := 71) gn_pm71))) (gn_two (lo := 72) (mid := 74) (hi := 76) (gn_two (lo := 72) (mid := 73) (hi := 74) (gn_one (k0 := 72) gn_pm72) (gn_one (k0 := 73) gn_pm73)) (gn_two (lo := 74) (mid := 75) (hi := 76) (gn_one (k0 := 74) gn_pm74) (gn_one (k0 := 75) gn_pm75)))))) (gn_two (lo := 76) (mid := 89) (hi := 102) (gn_two (lo := 76) (mid := 82) (hi := 89) (gn_two (lo := 76) (mid := 79) (hi := 82) (gn_two (lo := 76) (mid := 77) (hi := 79) (gn_one (k0 := 76) gn_pm76) (gn_two (lo := 77) (mid := 78) (hi := 79) (gn_one (k0 := 77) gn_pm77) (gn_one (k0 := 78) gn_pm78))) (gn_two (lo := 79) (mid := 80) (hi := 82) (gn_one (k0 := 79) gn_pm79) (gn_two (lo := 80) (mid := 81) (hi := 82) (gn_one (k0 := 80) gn_pm80) (gn_one (k0 := 81) gn_pm81)))) (gn_two (lo := 82) (mid := 85) (hi := 89) (gn_two (lo := 82) (mid := 83) (hi := 85) (gn_one (k0 := 82) gn_pm82) (gn_two (lo := 83) (mid := 84) (hi := 85) (gn_one (k0 := 83) gn_pm83) (gn_one (k0 := 84) gn_pm84))) (gn_two (lo := 85) (mid := 87) (hi := 89) (gn_two (lo := 85) (mid := 86) (hi := 87) (gn_one (k0 := 85) gn_pm85) (gn_one (k0 := 86) gn_pm86)) (gn_two (lo := 87) (mid := 88) (hi := 89) (gn_one (k0 := 87) gn_pm87) (gn_one (k0 := 88) gn_pm88))))) (gn_two (lo := 89) (mid := 95) (hi := 102) (gn_two (lo := 89) (mid := 92) (hi := 95) (gn_two (lo := 89) (mid := 90) (hi := 92) (gn_one (k0 := 89) gn_pm89) (gn_two (lo := 90) (mid := 91) (hi := 92) (gn_one (k0 := 90) gn_pm90) (gn_one (k0 := 91) gn_pm91))) (gn_two (lo := 92) (mid := 93) (hi := 95) (gn_one (k0 := 92) gn_pm92) (gn_two (lo := 93) (mid := 94) (hi := 95) (gn_one (k0 := 93) gn_pm93) (gn_one (k0 := 94) gn_pm94)))) (gn_two (lo := 95) (mid := 98) (hi := 102) (gn_two (lo := 95) (mid := 96) (hi := 98) (gn_one (k0 := 95) gn_pm95) (gn_two (lo := 96) (mid := 97) (hi := 98) (gn_one (k0 := 96) gn_pm96) (gn_one (k0 := 97) gn_pm97))) (gn_two (lo := 98) (mid := 100) (hi := 102) (gn_two (lo := 98) (mid := 99) (hi := 100) (gn_one (k0 := 98) gn_pm98) (gn_one (k0 := 99) gn_pm99)) (gn_two (lo := 100) (mid := 101) (hi := 102) (gn_one (k0 := 100) gn_pm100) (gn_one (k0 := 101) gn_pm101)))))))) (gn_two (lo := 102) (mid := 153) (hi := 205) (gn_two (lo := 102) (mid := 127) (hi := 153) (gn_two (lo := 102) (mid := 114) (hi := 127) (gn_two (lo := 102) (mid := 108) (hi := 114) (gn_two (lo := 102) (mid := 105) (hi := 108) (gn_two (lo := 102) (mid := 103) (hi := 105) (gn_one (k0 := 102) gn_pm102) (gn_two (lo := 103) (mid := 104) (hi := 105) (gn_one (k0 := 103) gn_pm103) (gn_one (k0 := 104) gn_pm104))) (gn_two (lo := 105) (mid := 106) (hi := 108) (gn_one (k0 := 105) gn_pm105) (gn_two (lo := 106) (mid := 107) (hi := 108) (gn_one (k0 := 106) gn_pm106) (gn_one (k0 := 107) gn_pm107)))) (gn_two (lo := 108) (mid := 111) (hi := 114) (gn_two (lo := 108) (mid := 109) (hi := 111) (gn_one (k0 := 108) gn_pm108) (gn_two (lo := 109) (mid := 110) (hi := 111) (gn_one (k0 := 109) gn_pm109) (gn_one (k0 := 110) gn_pm110))) (gn_two (lo := 111) (mid := 112) (hi := 114) (gn_one (k0 := 111) gn_pm111) (gn_two (lo := 112) (mid := 113) (hi := 114) (gn_one (k0 := 112) gn_pm112) (gn_one (k0 := 113) gn_pm113))))) (gn_two (lo := 114) (mid := 120) (hi := 127) (gn_two (lo := 114) (mid := 117) (hi := 120) (gn_two (lo := 114) (mid := 115) (hi := 117) (gn_one (k0 := 114) gn_pm114) (gn_two (lo := 115) (mid := 116) (hi := 117) (gn_one (k0 := 115) gn_pm115) (gn_one (k0 := 116) gn_pm116))) (gn_two (lo := 117) (mid := 118) (hi := 120) (gn_one (k0 := 117) gn_pm117) (gn_two (lo := 118) (mid := 119) (hi := 120) (gn_one (k0 := 118) gn_pm118) (gn_one (k0 := 119) gn_pm119)))) (gn_two (lo := 120) (mid := 123) (hi := 127) (gn_two (lo := 120) (mid := 121) (hi := 123) (gn_one (k0 := 120) gn_pm120) (gn_two (lo := 121) (mid := 122) (hi := 123) (gn_one (k0 := 121) gn_pm121) (gn_one (k0 := 122) gn_pm122))) (gn_two (lo := 123) (mid := 125) (hi := 127) (gn_two (lo := 123) (mid := 124) (hi := 125) (gn_one (k0 := 123) gn_pm123) (gn_one (k0 := 124) gn_pm124)) (gn_two (lo := 125) (mid := 126) (hi := 127) (gn_one (k0 := 125) gn_pm125) (gn_one (k0 := 126) gn_pm126)))))) (gn_two (lo := 127) (mid := 140) (hi := 153) (gn_two (lo := 127) (mid := 133) (hi := 140) (gn_two (lo := 127) (mid := 130) (hi := 133) (gn_two (lo := 127) (mid := 128) (hi := 130) (gn_one (k0 := 127) gn_pm127) (gn_two (lo := 128) (mid := 129) (hi := 130) (gn_one (k0 := 128) gn_pm128) (gn_one (k0 := 129) gn_pm129))) (gn_two (lo := 130) (mid := 131) (hi := 133) (gn_one (k0 := 130) gn_pm130) (gn_two (lo := 131) (mid := 132) (hi := 133) (gn_one (k0 := 131) gn_pm131) (gn_one (k0 := 132) gn_pm132)))) (gn_two (lo := 133) (mid := 136) (hi := 140) (gn_two (lo := 133) (mid := 134) (hi := 136) (gn_one (k0 := 133) gn_pm133) (gn_two (lo := 134) (mid := 135) (hi := 136) (gn_one (k0 := 134) gn_pm134) (gn_one (k0 := 135) gn_pm135))) (gn_two (lo := 136) (mid := 138) (hi := 140) (gn_two (lo := 136) (mid := 137) (hi := 138) (gn_one (k0 := 136) gn_pm136) (gn_one (k0 := 137) gn_pm137)) (gn_two (lo := 138) (mid := 139) (hi := 140) (gn_one (k0 := 138) gn_pm138) (gn_one (k0 := 139) gn_pm139))))) (gn_two (lo := 140) (mid := 146) (hi := 153) (gn_two (lo := 140) (mid := 143) (hi := 146) (gn_two (lo := 140) (mid := 141) (hi := 143) (gn_one (k0 := 140) gn_pm140) (gn_two (lo := 141) (mid := 142) (hi := 143) (gn_one (k0 := 141) gn_pm141) (gn_one (k0 := 142) gn_pm142))) (gn_two (lo := 143) (mid := 144) (hi := 146) (gn_one (k0 := 143) gn_pm143) (gn_two (lo := 144) (mid := 145) (hi := 146) (gn_one (k0 := 144) gn_pm144) (gn_one (k0 := 145) gn_pm145)))) (gn_two (lo := 146) (mid := 149) (hi := 153) (gn_two (lo := 146) (mid := 147) (hi := 149) (gn_one (k0 := 146) gn_pm146) (gn_two (lo := 147) (mid := 148) (hi := 149) (gn_one (k0 := 147) gn_pm147) (gn_one (k0 := 148) gn_pm148))) (gn_two (lo := 149) (mid := 151) (hi := 153) (gn_two (lo := 149) (mid := 150) (hi := 151) (gn_one (k0 := 149) gn_pm149) (gn_one (k0 := 150) gn_pm150)) (gn_two (lo := 151) (mid := 152) (hi := 153) (gn_one (k0 := 151) gn_pm151) (gn_one (k0 := 152) gn_pm152))))))) (gn_two (lo := 153) (mid := 179) (hi := 205) (gn_two (lo := 153) (mid := 166) (hi := 179) (gn_two (lo := 153) (mid := 159) (hi := 166) (gn_two (lo := 153) (mid := 156) (hi := 159) (gn_two (lo := 153) (mid := 154) (hi := 156) (gn_one (k0 := 153) gn_pm153) (gn_two (lo := 154) (mid := 155) (hi := 156) (gn_one (k0 := 154) gn_pm154) (gn_one (k0 := 155) gn_pm155))) (gn_two (lo := 156) (mid := 157) (hi := 159) (gn_one (k0 := 156) gn_pm156) (gn_two (lo := 157) (mid := 158) (hi := 159) (gn_one (k0 := 157) gn_pm157) (gn_one (k0 := 158) gn_pm158)))) (gn_two (lo := 159) (mid := 162) (hi := 166) (gn_two (lo := 159) (mid := 160) (hi := 162) (gn_one (k0 := 159) gn_pm159) (gn_two (lo := 160) (mid := 161) (hi := 162) (gn_one (k0 := 160) gn_pm160) (gn_one (k0 := 161) gn_pm161))) (gn_two (lo := 162) (mid := 164) (hi := 166) (gn_two (lo := 162) (mid := 163) (hi := 164) (gn_one (k0 := 162) gn_pm162) (gn_one (k0 := 163) gn_pm163)) (gn_two (lo := 164) (mid := 165) (hi := 166) (gn_one (k0 := 164) gn_pm164) (gn_one (k0 := 165) gn_pm165))))) (gn_two (lo := 166) (mid := 172) (hi := 179) (gn_two (lo := 166) (mid := 169) (hi := 172) (gn_two (lo := 166) (mid := 167) (hi := 169) (gn_one (k0 := 166) gn_pm166) (gn_two (lo := 167) (mid := 168) (hi := 169) (gn_one (k0 := 167) gn_pm167) (gn_one (k0 := 168) gn_pm168))) (gn_two (lo := 169) (mid := 170) (hi := 172) (gn_one (k0 := 169) gn_pm169) (gn_two (lo := 170) (mid := 171) (hi := 172) (gn_one (k0 := 170) gn_pm170) (gn_one (k0 := 171) gn_pm171)))) (gn_two (lo := 172) (mid := 175) (hi := 179) (gn_two (lo := 172) (mid := 173) (hi := 175) (gn_one (k0 := 172) gn_pm172) (gn_two (lo := 173) (mid := 174) (hi := 175) (gn_one (k0 := 173) gn_pm173) (gn_one (k0 := 174) gn_pm174))) (gn_two (lo := 175) (mid := 177) (hi := 179) (gn_two (lo := 175) (mid := 176) (hi := 177) (gn_one (k0 := 175) gn_pm175) (gn_one (k0 := 176) gn_pm176)) (gn_two (lo := 177) (mid := 178) (hi := 179) (gn_one (k0 := 177) gn_pm177) (gn_one (k0 := 178) gn_pm178)))))) (gn_two (lo := 179) (mid := 192) (hi := 205) (gn_two (lo := 179) (mid := 185) (hi := 192) (gn_two (lo := 179) (mid := 182) (hi := 185) (gn_two (lo := 179) (mid := 180) (hi := 182) (gn_one (k0 := 179) gn_pm179) (gn_two (lo := 180) (mid := 181) (hi := 182) (gn_one (k0 := 180) gn_pm180) (gn_one (k0 := 181) gn_pm181))) (gn_two (lo := 182) (mid := 183) (hi := 185) (gn_one (k0 := 182) gn_pm182) (gn_two (lo := 183) (mid := 184) (hi := 185) (gn_one (k0 := 183) gn_pm183) (gn_one (k0 := 184) gn_pm184)))) (gn_two (lo := 185) (mid := 188) (hi := 192) (gn_two (lo := 185) (mid := 186) (hi := 188) (gn_one (k0 := 185) gn_pm185) (gn_two (lo := 186) (mid := 187) (hi := 188) (gn_one (k0 := 186) gn_pm186) (gn_one (k0 := 187) gn_pm187))) (gn_two (lo := 188) (mid := 190) (hi := 192) (gn_two (lo := 188) (mid := 189) (hi := 190) (gn_one (k0 := 188) gn_pm188) (gn_one (k0 := 189) gn_pm189)) (gn_two (lo := 190) (mid := 191) (hi := 192) (gn_one (k0 := 190) gn_pm190) (gn_one (k0 := 191) gn_pm191))))) (gn_two (lo := 192) (mid := 198) (hi := 205) (gn_two (lo := 192) (mid := 195) (hi := 198) (gn_two (lo := 192) (mid := 193) (hi := 195) (gn_one (k0 := 192) gn_pm192) (gn_two (lo := 193) (mid := 194) (hi := 195) (gn_one (k0 := 193) gn_pm193) (gn_one (k0 := 194) gn_pm194))) (gn_two (lo := 195) (mid := 196) (hi := 198) (gn_one (k0 := 195) gn_pm195) (gn_two (lo := 196) (mid := 197) (hi := 198) (gn_one (k0 := 196) gn_pm196) (gn_one (k0 := 197) gn_pm197)))) (gn_two (lo := 198) (mid := 201) (hi := 205) (gn_two (lo := 198) (mid := 199) (hi := 201) (gn_one (k0 := 198) gn_pm198) (gn_two (lo := 199) (mid := 200) (hi := 201) (gn_one (k0 := 199) gn_pm199) (gn_one (k0 := 200) gn_pm200))) (gn_two (lo := 201) (mid := 203) (hi := 205) (gn_two (lo := 201) (mid := 202) (hi := 203) (gn_one (k0 := 201) gn_pm201) (gn_one (k0 := 202) gn_pm202)) (gn_two (lo := 203) (mid := 204) (hi := 205) (gn_one (k0 := 203) gn_pm203) (gn_one (k0 := 204) gn_pm204)))))))))
theorem gn_cd_ok {mi pc : Nat} {E : gn_En} (h : gn_cd mi pc = some E) : gn_okE mi pc E = true := by
  unfold gn_cd at h
  cases hb : Nat.blt pc (gn_mth mi).1 with
  | false => rw [hb] at h; cases h
  | true =>
    rw [hb] at h
    have hlt : pc < (gn_mth mi).1 := Nat.le_of_ble_eq_true hb
    by_cases hm : mi < 205
    · have h1 := gn_pm_all mi (Nat.zero_le _) hm pc hlt
      have h2 : (gn_mth mi).2 pc = some E := h
      rw [h2] at h1
      exact h1
    · have h3 : Nat.blt mi 205 = false := by
        cases hq : Nat.blt mi 205 with
        | false => rfl
        | true => exact absurd (Nat.le_of_ble_eq_true hq) hm
      have h4 : (gn_mth mi).1 = 0 := by unfold gn_mth; rw [h3]; rfl
      rw [h4] at hlt
      exact absurd hlt (Nat.not_lt_zero _)
end
section
/-! soundness of the pure machine, one: worlds, locals, words -/
def gn_cz (ad : Nat → Nat) : Value → Value
  | .ref o => .ref (ad o)
  | v => v
def gn_fv (ad : Nat → Nat) (σ : gn_Mem) (o k : Nat) : Nat → Value
  | 0 => .int (σ o k)
  | 1 => .ref (ad (gn_dyn (σ o k)))
  | 2 => .int (σ o k)
  | r + 3 => .ref (ad r)
noncomputable def gn_ce (cI cZ : ClassId) (ad : Nat → Nat) (σ : gn_Mem) (o : Nat) : va_E := match gn_ly o with
  | .inl (z, n) => .inl (bif z then cZ else cI, n, .inl (σ o))
  | .inr (q, fs) => .inr (q, fs.mapIdx (fun k t => gn_fv ad σ o k t))
noncomputable def gn_ws (cI cZ : ClassId) (ad : Nat → Nat) (σ : gn_Mem) : va_W := (List.range gn_NO).map (fun o => (ad o, gn_ce cI cZ ad σ o))
theorem gn_ws_get {cI cZ : ClassId} {ad : Nat → Nat} {σ : gn_Mem} {o : Nat} (h : o < gn_NO) : (gn_ws cI cZ ad σ)[o]? = some (ad o, gn_ce cI cZ ad σ o) := by
  simp only [gn_ws, List.getElem?_map, List.getElem?_range h, Option.map_some]
theorem gn_ws_set {cI cZ : ClassId} {ad : Nat → Nat} {σ σ' : gn_Mem} {o : Nat} {e : va_E} (h : o < gn_NO) (he : gn_ce cI cZ ad σ' o = e) (ho : ∀ o', o' ≠ o → gn_ce cI cZ ad σ' o' = gn_ce cI cZ ad σ o') : (gn_ws cI cZ ad σ).set o (ad o, e) = gn_ws cI cZ ad σ' := by
  apply List.ext_getElem?
  intro i
  rw [List.getElem?_set]
  by_cases hi : i < gn_NO
  · by_cases e1 : o = i
    · subst e1
      rw [if_pos rfl, gn_ws_get h, he]
      simp [gn_ws, h]
    · rw [if_neg e1, gn_ws_get hi, gn_ws_get hi, ho i (fun q => e1 q.symm)]
  · have n1 : (gn_ws cI cZ ad σ)[i]? = none := by simp [gn_ws]; omega
    have n2 : (gn_ws cI cZ ad σ')[i]? = none := by simp [gn_ws]; omega
    rw [n2]
    by_cases e1 : o = i
    · exact absurd (e1 ▸ h) hi
    · rw [if_neg e1, n1]
theorem gn_ly_lt {o : Nat} {x : Bool × Nat} (h : gn_ly o = .inl x) : o < gn_NO := by
  unfold gn_ly at h
  by_cases hb : Nat.blt o gn_NO = true
  · exact Nat.lt_of_lt_of_eq (Nat.le_of_ble_eq_true hb) rfl
  · rw [Bool.not_eq_true] at hb
    rw [hb] at h
    cases h
theorem gn_ly_lt' {o q : Nat} {fs : List Nat} (h : gn_ly o = .inr (q, fs)) (hq : q < 99) : o < gn_NO := by
  unfold gn_ly at h
  by_cases hb : Nat.blt o gn_NO = true
  · exact Nat.lt_of_lt_of_eq (Nat.le_of_ble_eq_true hb) rfl
  · rw [Bool.not_eq_true] at hb
    rw [hb] at h
    cases h
    omega
/-- another object's cell doesn't change -/
theorem gn_ce_ne {cI cZ : ClassId} {ad : Nat → Nat} {σ σ' : gn_Mem} {o' : Nat} (h : σ' o' = σ o') : gn_ce cI cZ ad σ' o' = gn_ce cI cZ ad σ o' := by
  unfold gn_ce
  split
  · rw [h]
  · congr 2
    apply List.ext_getElem?
    intro i
    simp only [List.getElem?_mapIdx]
    rename_i q fs hl
    cases fs[i]? with
    | none => rfl
    | some t =>
      simp only [Option.map_some]
      rcases t with _ | _ | _ | t <;> simp [gn_fv, h]
theorem gn_up_ne {σ : gn_Mem} {o k o' : Nat} {x : Int32} (h : o' ≠ o) : gn_up σ o k x o' = σ o' := if_neg h
theorem gn_up_eq {σ : gn_Mem} {o k : Nat} {x : Int32} : gn_up σ o k x o = upd (σ o) k x := if_pos rfl
theorem gn_upF_ne {σ : gn_Mem} {o o' : Nat} {f : Nat → Int32} (h : o' ≠ o) : gn_upF σ o f o' = σ o' := if_neg h
theorem gn_upF_eq {σ : gn_Mem} {o : Nat} {f : Nat → Int32} : gn_upF σ o f o = f := if_pos rfl
theorem gn_ce_arr {cI cZ : ClassId} {ad : Nat → Nat} {σ : gn_Mem} {o n : Nat} {z : Bool} (h : gn_ly o = .inl (z, n)) : gn_ce cI cZ ad σ o = .inl (bif z then cZ else cI, n, .inl (σ o)) := by
  unfold gn_ce
  rw [h]
theorem gn_ce_obj {cI cZ : ClassId} {ad : Nat → Nat} {σ : gn_Mem} {o q : Nat} {fs : List Nat} (h : gn_ly o = .inr (q, fs)) : gn_ce cI cZ ad σ o = .inr (q, fs.mapIdx (fun k t => gn_fv ad σ o k t)) := by
  unfold gn_ce
  rw [h]
/-- a field's store -/
theorem gn_ce_put {cI cZ : ClassId} {ad : Nat → Nat} {σ : gn_Mem} {o q k t : Nat} {fs : List Nat} {x : Int32} (h : gn_ly o = .inr (q, fs)) (ht : fs[k]? = some t) : gn_ce cI cZ ad (gn_up σ o k x) o = .inr (q, (fs.mapIdx (fun k t => gn_fv ad σ o k t)).set k (gn_fv ad (gn_up σ o k x) o k t)) := by
  rw [gn_ce_obj h]
  congr 2
  apply List.ext_getElem?
  intro i
  rw [List.getElem?_set, List.getElem?_mapIdx, List.getElem?_mapIdx]
  by_cases hi : k = i
  · subst hi
    rw [if_pos rfl, ht, if_pos (by rw [List.length_mapIdx]; exact (List.getElem?_eq_some_iff.mp ht).1)]
    rfl
  · rw [if_neg hi]
    cases fs[i]? with
    | none => rfl
    | some u =>
      simp only [Option.map_some]
      have e : gn_up σ o k x o i = σ o i := by rw [gn_up_eq]; exact if_neg (fun z => hi z.symm)
      rcases u with _ | _ | _ | u <;> simp [gn_fv, e]
theorem gn_dec : ∀ {l : List Nat}, True := fun {_} => trivial
-- the locals
def gn_LV (ad : Nat → Nat) (ls : Array Slot) (nL : Nat) (lo : List Value) : Prop := ls.size = nL ∧ lv_wf ls ∧ ∀ i : Nat, gn_at lo i ≠ .null → ls[i]? = some (.val (gn_cz ad (gn_at lo i)))
def gn_lvs (ad : Nat → Nat) (lo : List Value) : List (Nat × Value) := (List.range lo.length).filterMap (fun i => if gn_at lo i = .null then none else some (i, gn_cz ad (gn_at lo i)))
theorem gn_at_len : ∀ (lo : List Value) (i : Nat), gn_at lo i ≠ .null → i < lo.length
  | [], i, h => absurd rfl h
  | _ :: _, 0, _ => Nat.succ_pos _
  | _ :: xs, k + 1, h => Nat.succ_lt_succ (gn_at_len xs k h)
theorem gn_lvs_in {ad : Nat → Nat} {lo : List Value} {i : Nat} (h : gn_at lo i ≠ .null) : (i, gn_cz ad (gn_at lo i)) ∈ gn_lvs ad lo := by
  refine List.mem_filterMap.mpr ⟨i, List.mem_range.mpr (gn_at_len lo i h), ?_⟩
  rw [if_neg h]
theorem gn_LV.has {ad : Nat → Nat} {ls : Array Slot} {nL : Nat} {lo : List Value} (h : gn_LV ad ls nL lo) : lv_has ls nL (gn_lvs ad lo) := by
  refine ⟨h.1, h.2.1, fun q hq => ?_⟩
  obtain ⟨i, -, hi⟩ := List.mem_filterMap.mp hq
  by_cases hn : gn_at lo i = .null
  · rw [if_pos hn] at hi; cases hi
  · rw [if_neg hn] at hi; cases hi
    exact h.2.2 i hn
theorem gn_at_set : ∀ (lo : List Value) (i j : Nat) (v : Value), gn_at (gn_set lo i v) j = if j = i then v else gn_at lo j
  | [], 0, 0, v => rfl
  | [], 0, j + 1, v => by cases j <;> simp [gn_set, gn_at]
  | [], i + 1, 0, v => by simp [gn_set, gn_at]
  | [], i + 1, j + 1, v => by
    have h := gn_at_set [] i j v
    simp only [gn_set, gn_at, Nat.succ_eq_add_one, Nat.add_right_cancel_iff] at h ⊢
    exact h
  | x :: xs, 0, 0, v => rfl
  | x :: xs, 0, j + 1, v => by simp [gn_set, gn_at]
  | x :: xs, i + 1, 0, v => by simp [gn_set, gn_at]
  | x :: xs, i + 1, j + 1, v => by
    have h := gn_at_set xs i j v
    simp only [gn_set, gn_at, Nat.add_right_cancel_iff] at h ⊢
    exact h
theorem gn_cz_cat (ad : Nat → Nat) (v : Value) : (gn_cz ad v).category = v.category := by cases v <;> rfl
theorem gn_isL_cat {v : Value} (h : gn_isL v = false) : v.category = 1 := by cases v <;> first | rfl | cases h
theorem gn_LV.set1 {ad : Nat → Nat} {ls' : Array Slot} {nL i : Nat} {lo : List Value} {v : Value} (hok : gn_okS lo i = true) (h' : lv_has ls' nL ((i, gn_cz ad v) :: (gn_lvs ad lo).filter (fun q => !(q.1 == i) && !(q.1 + 1 == i && q.2.category == 2)))) : gn_LV ad ls' nL (gn_set lo i v) := by
  refine ⟨h'.1, h'.2.1, fun j hj => ?_⟩
  rw [gn_at_set] at hj ⊢
  by_cases e : j = i
  · subst e
    rw [if_pos rfl]
    exact h'.2.2 _ List.mem_cons_self
  · rw [if_neg e] at hj ⊢
    refine h'.2.2 (j, _) (List.mem_cons_of_mem _ (List.mem_filter.mpr ⟨gn_lvs_in hj, ?_⟩))
    have e1 : (j == i) = false := by simpa using e
    show (!(j == i) && !(j + 1 == i && (gn_cz ad (gn_at lo j)).category == 2)) = true
    by_cases e2 : j + 1 = i
    · subst e2
      have hL : gn_isL (gn_at lo j) = false := by simpa [gn_okS] using hok
      rw [gn_cz_cat, gn_isL_cat hL, e1]
      simp
    · have e3 : (j + 1 == i) = false := by simpa using e2
      rw [e1, e3]
      rfl
theorem gn_LV.set2 {ad : Nat → Nat} {ls' : Array Slot} {nL i : Nat} {lo : List Value} {v : Value} (hok : gn_okS lo i = true) (h' : lv_has ls' nL ((i, gn_cz ad v) :: (gn_lvs ad lo).filter (fun q => !(q.1 == i) && (!(q.1 == i + 1) && !(q.1 + 1 == i && q.2.category == 2))))) : gn_LV ad ls' nL (gn_set (gn_set lo i v) (i + 1) .null) := by
  refine ⟨h'.1, h'.2.1, fun j hj => ?_⟩
  rw [gn_at_set, gn_at_set] at hj ⊢
  by_cases e0 : j = i + 1
  · rw [if_pos e0] at hj; exact absurd rfl hj
  rw [if_neg e0] at hj ⊢
  by_cases e : j = i
  · subst e
    rw [if_pos rfl]
    exact h'.2.2 _ List.mem_cons_self
  · rw [if_neg e] at hj ⊢
    refine h'.2.2 (j, _) (List.mem_cons_of_mem _ (List.mem_filter.mpr ⟨gn_lvs_in hj, ?_⟩))
    have e1 : (j == i) = false := by simpa using e
    have e4 : (j == i + 1) = false := by simpa using e0
    show (!(j == i) && (!(j == i + 1) && !(j + 1 == i && (gn_cz ad (gn_at lo j)).category == 2))) = true
    by_cases e2 : j + 1 = i
    · subst e2
      have hL : gn_isL (gn_at lo j) = false := by simpa [gn_okS] using hok
      rw [gn_cz_cat, gn_isL_cat hL, e1, e4]
      simp
    · have e3 : (j + 1 == i) = false := by simpa using e2
      rw [e1, e3, e4]
      rfl
theorem gn_LV.at {ad : Nat → Nat} {ls : Array Slot} {nL i : Nat} {lo : List Value} (h : gn_LV ad ls nL lo) {v : Value} (hv : gn_at lo i = v) (hn : v ≠ .null) : ls[i]? = some (.val (gn_cz ad v)) := by
  subst hv
  exact h.2.2 i hn
theorem gn_args_at : ∀ (vs : List Value) (k : Nat), (∀ v ∈ vs, gn_isL v = false) → ∀ (ad : Nat → Nat) (i : Nat), gn_at vs i ≠ .null → (k + i, gn_cz ad (gn_at vs i)) ∈ lv_args k (vs.map (gn_cz ad))
  | [], _, _, _, i, h => absurd rfl h
  | v :: vs, k, hv, ad, 0, _ => by
    have hc : (gn_cz ad v).category = 1 := by rw [gn_cz_cat]; exact gn_isL_cat (hv v List.mem_cons_self)
    simp [lv_args, gn_at]
  | v :: vs, k, hv, ad, i + 1, h => by
    have hc : (gn_cz ad v).category = 1 := by rw [gn_cz_cat]; exact gn_isL_cat (hv v List.mem_cons_self)
    have h1 := gn_args_at vs (k + 1) (fun w hw => hv w (List.mem_cons_of_mem _ hw)) ad i h
    have e : k + 1 + i = k + (i + 1) := by omega
    rw [e] at h1
    simp only [List.map_cons, lv_args, hc, gn_at]
    exact List.mem_cons_of_mem _ h1
theorem gn_sl_len : ∀ (vs : List Value), (∀ v ∈ vs, gn_isL v = false) → ∀ ad : Nat → Nat, (lg_sl (vs.map (gn_cz ad))).length = vs.length
  | [], _, _ => rfl
  | v :: vs, hv, ad => by
    have hc : (gn_cz ad v).category = 1 := by rw [gn_cz_cat]; exact gn_isL_cat (hv v List.mem_cons_self)
    have h1 := gn_sl_len vs (fun w hw => hv w (List.mem_cons_of_mem _ hw)) ad
    simp only [lg_sl, List.map_cons, List.flatMap_cons, List.length_append] at h1 ⊢
    rw [h1, hc]
    simp
    omega
theorem gn_pop_spec : ∀ (n : Nat) (acc st as r : List Value), gn_pop n acc st = some (as, r) → ∃ vs, as = vs ++ acc ∧ st = vs.reverse ++ r ∧ vs.length = n ∧ ∀ v ∈ vs, gn_isL v = false
  | 0, acc, st, as, r, h => by
    simp only [gn_pop, Option.some.injEq, Prod.mk.injEq] at h
    exact ⟨[], by simp [h.1], by simp [h.2], rfl, fun _ h => absurd h List.not_mem_nil⟩
  | n + 1, acc, [], as, r, h => by cases h
  | n + 1, acc, v :: st, as, r, h => by
    simp only [gn_pop] at h
    cases hv : gn_isL v with
    | true => rw [hv] at h; cases h
    | false =>
      rw [hv] at h
      obtain ⟨vs, h1, h2, h3, h4⟩ := gn_pop_spec n (v :: acc) st as r h
      refine ⟨vs ++ [v], by simp [h1], by simp [h2], by simp [h3], fun w hw => ?_⟩
      rcases List.mem_append.mp hw with q | q
      · exact h4 w q
      · rw [List.mem_singleton.mp q]; exact hv
-- the words
def gn_tbl : List Cond := lw_tbl.filter goodWord
def gn_isN : Cond → Bool
  | .fieldLinkNest .. => true
  | .methodLinkNest .. => true
  | _ => false
def gn_nst : List Cond := lw_tbl.filter gn_isN
theorem gn_tin {w : Cond} (h : w ∈ lw_tbl) (hg : goodWord w = true) : w ∈ gn_tbl := List.mem_filter.mpr ⟨h, hg⟩
theorem gn_tbl_good {w : Cond} (h : w ∈ gn_tbl) : (w.onTables && w.keeps) = true ∨ ∃ ty, w = .arrayClass ty := good_of_word (List.mem_filter.mp h).2
theorem gn_nst_warm {w : Cond} (hw : w ∈ gn_nst) {s U : State} (hW : s.WarmedH U.vm) (h : va_Nw w s) : va_Nw w U := by
  have h2 := (List.mem_filter.mp hw).2
  cases w <;> first | exact va_Nw.warmF hW h | exact va_Nw.warmM hW h | cases h2
theorem gn_nst_same {w : Cond} (hw : w ∈ gn_nst) {u U : State} (e : u.vm = U.vm) (h : va_Nw w u) : va_Nw w U := by
  have h2 := (List.mem_filter.mp hw).2
  cases w <;> first | (cases h2; done) | exact va_Nw.same rfl e h
end
section
/-! soundness of the pure machine, two: the simple steps; printed by wip/whole/gen/sound2.py -/
def gn_B (D : va_G) (cI cZ : ClassId) (ad : Nat → Nat) (A : Nat → Prop) (σ : gn_Mem) (t : State) : Prop := va_P D gn_cls (gn_ws cI cZ ad σ) t.heap ∧ va_K D gn_cls [(cI, .int), (cZ, .boolean)] t ∧ va_D A (gn_ws cI cZ ad σ) ∧ ∀ w ∈ gn_nst, va_Nw w t
def gn_Pc (D : va_G) (cI cZ : ClassId) (ad : Nat → Nat) (A : Nat → Prop) (av : List Value) (σ : gn_Mem) : Array Value → State → Prop := va_Pc (av.map (gn_cz ad)) (gn_B D cI cZ ad A σ)
def gn_Qc (D : va_G) (cI cZ : ClassId) (ad : Nat → Nat) (A : Nat → Prop) (Q : Option Value → gn_Mem → Prop) : Array Value → State → Outcome → State → Prop := fun _ st oc t => (∃ (rv : Option Value) (σ' : gn_Mem), oc = .returned (rv.map (gn_cz ad)) ∧ Q rv σ' ∧ gn_B D cI cZ ad A σ' t) ∧ va_F A st t
def gn_rm (d : Nat) : Room := { frames := d, cells := 0, slots := 0, locals := 64 * d }
def gn_C (D : va_G) (cI cZ : ClassId) (mi : Nat) (p : Program) (s : State) (m : MethodId) (args : Array Value) (meth : Method) (c : Code) : Prop :=
  p.tables.exec = Jvm.exec ∧ (∃ (y : MethodName) (bytes : ByteArray) (ml : Nat) (rt : Option FieldType) (stt : Bool) (ac oc : Nat), gn_meta[mi]? = some (y, bytes, ml, rt, stt, ac, oc) ∧ c.code = bytes ∧ c.maxLocals = ml ∧ s.vm.findClass y.cls = some m.cls ∧ meth.sig.returnType = rt) ∧ meth.locks = false ∧ (∀ w ∈ gn_tbl, w.before args s = true) ∧ va_K D gn_cls [(cI, .int), (cZ, .boolean)] s ∧ ∀ w ∈ gn_nst, va_Nw w s
theorem gn_B.blind {D : va_G} {cI cZ : ClassId} {ad : Nat → Nat} {A : Nat → Prop} {av : List Value} {σ : gn_Mem} : FrameBlind (gn_Pc D cI cZ ad A av σ) := by
  intro a U g mk h
  obtain ⟨h1, h2, h3, h4, h5⟩ := h
  exact ⟨h1, h2, va_K.moved (u := U) (U := U.calling g mk a) (Vm.Alike.refl U.vm) h3, h4, fun w hw => gn_nst_same hw (u := U) (U := U.calling g mk a) rfl (h5 w hw)⟩
/-- the world at another state of the run -/
theorem gn_B.of {D : va_G} {cI cZ : ClassId} {ad : Nat → Nat} {A : Nat → Prop} {σ : gn_Mem} {s t : State} {H : Heap} (ht : t.heap = H) (hW : s.WarmedH t.vm) (hP : va_P D gn_cls (gn_ws cI cZ ad σ) H) (hD : va_D A (gn_ws cI cZ ad σ)) (hK : va_K D gn_cls [(cI, .int), (cZ, .boolean)] s) (hN : ∀ w ∈ gn_nst, va_Nw w s) : gn_B D cI cZ ad A σ t :=
  ⟨by rw [ht]; exact hP, va_K.moved hW.alike hK, hD, fun w hw => gn_nst_warm hw hW (hN w hw)⟩
theorem gn_fld_spec {σ : gn_Mem} {o q k : Nat} {w : Value} (h : gn_fld σ o q k = some w) : ∃ fs t, gn_ly o = .inr (q, fs) ∧ fs[k]? = some t ∧ ∀ ad : Nat → Nat, gn_cz ad w = gn_fv ad σ o k t := by
  unfold gn_fld at h
  cases hl : gn_ly o with
  | inl x => rw [hl] at h; cases h
  | inr x =>
    obtain ⟨q', fs⟩ := x
    rw [hl] at h
    dsimp only at h
    cases hq : Nat.beq q' q with
    | false => rw [hq] at h; cases h
    | true =>
      rw [hq] at h
      have e := Nat.eq_of_beq_eq_true hq
      subst e
      cases hf : fs[k]? with
      | none => rw [hf] at h; cases h
      | some t =>
        rw [hf] at h
        refine ⟨fs, t, rfl, hf, fun ad => ?_⟩
        rcases t with _ | _ | _ | t <;> (cases h; rfl)
theorem gn_isS_spec {s o q k : Nat} (h : gn_isS s o q k = true) : ∃ fs, gn_ly o = .inr (q, fs) ∧ fs[k]? = some s := by
  unfold gn_isS at h
  cases hl : gn_ly o with
  | inl x => rw [hl] at h; cases h
  | inr x =>
    obtain ⟨q', fs⟩ := x
    rw [hl] at h
    dsimp only at h
    cases hq : Nat.beq q' q with
    | false => rw [hq] at h; cases h
    | true =>
      rw [hq] at h
      have e := Nat.eq_of_beq_eq_true hq
      subst e
      cases hf : fs[k]? with
      | none => rw [hf] at h; cases h
      | some t =>
        rw [hf] at h
        have e2 := Nat.eq_of_beq_eq_true h
        subst e2
        exact ⟨fs, rfl, hf⟩
noncomputable def gn_tyOk (o k : Nat) : Bool := match gn_lay o with
  | .inr (q, fs) => Nat.blt q 13 && Nat.beq fs.length (gn_cls.getD q ("", gn_T0, 0)).2.2 && (match fs[k]? with
    | some 0 => decide ((gn_tys.getD q gn_ty0) k = .int)
    | some 1 => decide ((gn_tys.getD q gn_ty0) k = .object "GuestNoes$Table")
    | some 2 => decide ((gn_tys.getD q gn_ty0) k = .boolean)
    | _ => true)
  | .inl _ => true
set_option maxRecDepth 100000 in
theorem gn_tyOk_all : ∀ o, o < 63 → ∀ k, k < 35 → gn_tyOk o k = true := by decide +kernel
theorem gn_ly_lay {o : Nat} (h : o < gn_NO) : gn_ly o = gn_lay o := by
  unfold gn_ly
  have : Nat.blt o gn_NO = true := by
    unfold Nat.blt
    exact Nat.ble_eq_true_of_le h
  rw [this]; rfl
theorem gn_ty_of {o q k t : Nat} {fs : List Nat} (h : gn_ly o = .inr (q, fs)) (hq : q < 13) (ht : fs[k]? = some t) : (t = 0 → (gn_tys.getD q gn_ty0) k = .int) ∧ (t = 1 → (gn_tys.getD q gn_ty0) k = .object "GuestNoes$Table") ∧ (t = 2 → (gn_tys.getD q gn_ty0) k = .boolean) := by
  have ho := gn_ly_lt' h (by omega)
  have hk : k < 35 := by
    have h1 := gn_tyOk_all o ho 0 (by decide)
    unfold gn_tyOk at h1
    rw [← gn_ly_lay ho, h] at h1
    simp only [Bool.and_eq_true] at h1
    have h2 := Nat.eq_of_beq_eq_true h1.1.2
    have h3 : (gn_cls.getD q ("", gn_T0, 0)).2.2 ≤ 35 := (by decide : ∀ q, q < 13 → (gn_cls.getD q ("", gn_T0, 0)).2.2 ≤ 35) q hq
    have h4 := (List.getElem?_eq_some_iff.mp ht).1
    omega
  have h1 := gn_tyOk_all o ho k hk
  unfold gn_tyOk at h1
  rw [← gn_ly_lay ho, h] at h1
  simp only [Bool.and_eq_true, ht] at h1
  refine ⟨fun e => ?_, fun e => ?_, fun e => ?_⟩ <;> (subst e; exact of_decide_eq_true h1.2)
theorem gn_cls_at {q : Nat} (h : q < 13) : ∃ C N, gn_cls[q]? = some (C, gn_Tf q, N) ∧ N = (gn_cls.getD q ("", gn_T0, 0)).2.2 := by
  have h1 : q < gn_cls.length := h
  refine ⟨(gn_cls[q]).1, (gn_cls[q]).2.2, ?_, ?_⟩
  · rw [List.getElem?_eq_getElem h1]
    simp [gn_Tf, List.getD, List.getElem?_eq_getElem h1]
  · simp [List.getD, List.getElem?_eq_getElem h1]
theorem gn_lays_of {q : Nat} {C : String} {T : u_T} {N : Nat} (h : gn_cls[q]? = some (C, T, N)) : ∀ w ∈ u_ws C T N, w ∈ gn_tbl := by
  intro w hw
  refine gn_tin (gn_lays_in w (List.mem_flatMap.mpr ⟨_, List.mem_of_getElem? h, hw⟩)) ?_
  obtain ⟨k, -, rfl⟩ := List.mem_map.mp hw
  unfold u_lay
  split <;> rfl
set_option maxRecDepth 100000 in
theorem gn_maxc : Cond.code Lib.Math.max.name Lib.Math.max.code 2 (some .int) ∈ lw_tbl := List.mem_of_getElem? (i := 643) (by decide +kernel)
set_option maxRecDepth 100000 in
theorem gn_minc : Cond.code Lib.Math.min.name Lib.Math.min.code 2 (some .int) ∈ lw_tbl := List.mem_of_getElem? (i := 494) (by decide +kernel)
set_option maxRecDepth 100000 in
theorem gn_maxs : Cond.static Lib.Math.max.name ∈ lw_tbl := List.mem_of_getElem? (i := 642) (by decide +kernel)
set_option maxRecDepth 100000 in
theorem gn_mins : Cond.static Lib.Math.min.name ∈ lw_tbl := List.mem_of_getElem? (i := 493) (by decide +kernel)
set_option maxRecDepth 100000 in
theorem gn_mathi : Cond.initialized "java/lang/Math" ∈ lw_tbl := List.mem_of_getElem? (i := 144) (by decide +kernel)
theorem gn_cs_map {r : List Value} (ad : Nat → Nat) (h : gn_cs r = true) : (((r.map (gn_cz ad))).map fun v => v.category).sum ≤ 8 := by
  have e : (r.map (gn_cz ad)).map (fun v => v.category) = r.map Value.category := by
    rw [List.map_map]
    exact List.map_congr_left (fun v _ => gn_cz_cat ad v)
  rw [e]
  exact Nat.le_of_ble_eq_true h
set_option maxHeartbeats 4000000 in
set_option maxRecDepth 100000 in
theorem gn_stp_sound {l : Launch} {D : va_G} {cI cZ : ClassId} {ad : Nat → Nat} {A : Nat → Prop} {d mi : Nat} {p : Program} {e : Env} {s : State} {m : MethodId} {args : Array Value} {below : List Frame} {meth : Method} {c : Code} (hC : gn_C D cI cZ mi p s m args meth c) {pc : Nat} {lo st : List Value} {σ : gn_Mem} {pc' : Nat} {lo' st' : List Value} {σ' : gn_Mem} (h : gn_stp d mi pc lo st σ = some (pc', lo', st', σ')) {H : Heap} {locs : List Loc} {ls : Array Slot} (hP : va_P D gn_cls (gn_ws cI cZ ad σ) H) (hD : va_D A (gn_ws cI cZ ad σ)) (hS : va_S A s.heap H locs) (hl : gn_LV ad ls c.maxLocals lo) {Qf : State → Prop}
    (kk : ∀ (H1 : Heap) (locs1 : List Loc) (ls1 : Array Slot), va_P D gn_cls (gn_ws cI cZ ad σ') H1 → va_D A (gn_ws cI cZ ad σ') → va_S A s.heap H1 locs1 → gn_LV ad ls1 c.maxLocals lo' → W p l e (gn_rm d) s m args below meth c H1 locs1 0 0 Qf (F0 m pc' ls1 (st'.map (gn_cz ad)))) : W p l e (gn_rm d) s m args below meth c H locs 0 0 Qf (F0 m pc ls (st.map (gn_cz ad))) := by
  obtain ⟨hx, ⟨y, bytes, ml, rt, stt, ac, oc, hm, hb, hml, hown, hr⟩, hlk, hts, hK, hN⟩ := hC
  have hoc : y.cls = gn_nm oc := (gn_meta_ok _ (List.mem_of_getElem? hm)).2.2.2.2.2
  unfold gn_stp at h
  cases hcd : gn_cd mi pc with
  | none => rw [hcd] at h; cases h
  | some E =>
    obtain ⟨ins, nx, a, b, v⟩ := E
    rw [hcd] at h
    have hok := gn_cd_ok hcd
    simp only [gn_okE, hm] at hok
    rw [Bool.and_eq_true] at hok
    obtain ⟨hde, hok⟩ := hok
    have hde := of_decide_eq_true hde
    have k0 := kk H locs ls
    cases ins with
    | iadd =>
      have hnx := Nat.eq_of_beq_eq_true hok
      subst hnx
      rw [Nat.add_sub_cancel_left] at hde
      dsimp only at h
      split at h
      · cases h
        exact lv_iadd hx hb hde (k0 hP hD hS hl)
      · cases h
    | isub =>
      have hnx := Nat.eq_of_beq_eq_true hok
      subst hnx
      rw [Nat.add_sub_cancel_left] at hde
      dsimp only at h
      split at h
      · cases h
        exact lv_isub hx hb hde (k0 hP hD hS hl)
      · cases h
    | imul =>
      have hnx := Nat.eq_of_beq_eq_true hok
      subst hnx
      rw [Nat.add_sub_cancel_left] at hde
      dsimp only at h
      split at h
      · cases h
        exact lv_imul hx hb hde (k0 hP hD hS hl)
      · cases h
    | iand =>
      have hnx := Nat.eq_of_beq_eq_true hok
      subst hnx
      rw [Nat.add_sub_cancel_left] at hde
      dsimp only at h
      split at h
      · cases h
        exact lv_iand hx hb hde (k0 hP hD hS hl)
      · cases h
    | ior =>
      have hnx := Nat.eq_of_beq_eq_true hok
      subst hnx
      rw [Nat.add_sub_cancel_left] at hde
      dsimp only at h
      split at h
      · cases h
        exact lv_ior hx hb hde (k0 hP hD hS hl)
      · cases h
    | ixor =>
      have hnx := Nat.eq_of_beq_eq_true hok
      subst hnx
      rw [Nat.add_sub_cancel_left] at hde
      dsimp only at h
      split at h
      · cases h
        exact lv_ixor hx hb hde (k0 hP hD hS hl)
      · cases h
    | ishl =>
      have hnx := Nat.eq_of_beq_eq_true hok
      subst hnx
      rw [Nat.add_sub_cancel_left] at hde
      dsimp only at h
      split at h
      · cases h
        exact lv_ishl hx hb hde (k0 hP hD hS hl)
      · cases h
    | ishr =>
      have hnx := Nat.eq_of_beq_eq_true hok
      subst hnx
      rw [Nat.add_sub_cancel_left] at hde
      dsimp only at h
      split at h
      · cases h
        exact lv_ishr hx hb hde (k0 hP hD hS hl)
      · cases h
    | ladd =>
      have hnx := Nat.eq_of_beq_eq_true hok
      subst hnx
      rw [Nat.add_sub_cancel_left] at hde
      dsimp only at h
      split at h
      · cases h
        exact lv_ladd hx hb hde (k0 hP hD hS hl)
      · cases h
    | lmul =>
      have hnx := Nat.eq_of_beq_eq_true hok
      subst hnx
      rw [Nat.add_sub_cancel_left] at hde
      dsimp only at h
      split at h
      · cases h
        exact lv_lmul hx hb hde (k0 hP hD hS hl)
      · cases h
    | land =>
      have hnx := Nat.eq_of_beq_eq_true hok
      subst hnx
      rw [Nat.add_sub_cancel_left] at hde
      dsimp only at h
      split at h
      · cases h
        exact lv_land hx hb hde (k0 hP hD hS hl)
      · cases h
    | iushr =>
      have hnx := Nat.eq_of_beq_eq_true hok
      subst hnx
      rw [Nat.add_sub_cancel_left] at hde
      dsimp only at h
      split at h
      · cases h
        exact lv_iushr hx hb hde rfl (k0 hP hD hS hl)
      · cases h
    | i2l =>
      have hnx := Nat.eq_of_beq_eq_true hok
      subst hnx
      rw [Nat.add_sub_cancel_left] at hde
      dsimp only at h
      split at h
      · cases h
        exact lv_i2l hx hb hde rfl (k0 hP hD hS hl)
      · cases h
    | l2i =>
      have hnx := Nat.eq_of_beq_eq_true hok
      subst hnx
      rw [Nat.add_sub_cancel_left] at hde
      dsimp only at h
      split at h
      · cases h
        exact lv_l2i hx hb hde rfl (k0 hP hD hS hl)
      · cases h
    | aload_n k =>
      simp only [Bool.and_eq_true] at hok
      obtain ⟨h0, h1⟩ := hok
      have hnx := Nat.eq_of_beq_eq_true h0
      subst hnx
      rw [Nat.add_sub_cancel_left] at hde
      dsimp only at h
      split at h
      · rename_i x heq
        cases h
        exact lv_aload_n hx hb hde (Nat.eq_of_beq_eq_true h1) (hl.at heq (fun z => by cases z)) (k0 hP hD hS hl)
      · cases h
    | iload_n k =>
      simp only [Bool.and_eq_true] at hok
      obtain ⟨h0, h1⟩ := hok
      have hnx := Nat.eq_of_beq_eq_true h0
      subst hnx
      rw [Nat.add_sub_cancel_left] at hde
      dsimp only at h
      split at h
      · rename_i x heq
        cases h
        exact lv_iload_n hx hb hde (Nat.eq_of_beq_eq_true h1) (hl.at heq (fun z => by cases z)) (k0 hP hD hS hl)
      · cases h
    | lload_n k =>
      simp only [Bool.and_eq_true] at hok
      obtain ⟨h0, h1⟩ := hok
      have hnx := Nat.eq_of_beq_eq_true h0
      subst hnx
      rw [Nat.add_sub_cancel_left] at hde
      dsimp only at h
      split at h
      · rename_i x heq
        cases h
        exact lv_lload_n hx hb hde (Nat.eq_of_beq_eq_true h1) (hl.at heq (fun z => by cases z)) (k0 hP hD hS hl)
      · cases h
    | iload i =>
      simp only [Bool.and_eq_true] at hok
      obtain ⟨h0, h1⟩ := hok
      have hnx := Nat.eq_of_beq_eq_true h0
      subst hnx
      rw [Nat.add_sub_cancel_left] at hde
      have h1 := Nat.eq_of_beq_eq_true h1
      subst h1
      dsimp only at h
      split at h
      · rename_i x heq
        cases h
        exact lv_iload hx hb hde (hl.at heq (fun z => by cases z)) (k0 hP hD hS hl)
      · cases h
    | istore_n k =>
      simp only [Bool.and_eq_true] at hok
      obtain ⟨⟨h0, h1⟩, h2⟩ := hok
      have hnx := Nat.eq_of_beq_eq_true h0
      subst hnx
      rw [Nat.add_sub_cancel_left] at hde
      have h2 : a < c.maxLocals := by rw [hml]; exact Nat.le_of_ble_eq_true h2
      dsimp only at h
      split at h
      · rename_i x r
        cases hs : gn_okS lo a with
        | false => rw [hs] at h; cases h
        | true =>
          rw [hs] at h
          cases h
          exact lv_istore_n hx hb hde (Nat.eq_of_beq_eq_true h1) hl.has h2 rfl (fun ls' h' => kk H locs ls' hP hD hS (gn_LV.set1 (v := .int x) hs h'))
      · cases h
    | astore_n k =>
      simp only [Bool.and_eq_true] at hok
      obtain ⟨⟨h0, h1⟩, h2⟩ := hok
      have hnx := Nat.eq_of_beq_eq_true h0
      subst hnx
      rw [Nat.add_sub_cancel_left] at hde
      have h2 : a < c.maxLocals := by rw [hml]; exact Nat.le_of_ble_eq_true h2
      dsimp only at h
      split at h
      · rename_i x r
        cases hs : gn_okS lo a with
        | false => rw [hs] at h; cases h
        | true =>
          rw [hs] at h
          cases h
          exact lv_astore_n hx hb hde (Nat.eq_of_beq_eq_true h1) hl.has h2 rfl (fun ls' h' => kk H locs ls' hP hD hS (gn_LV.set1 (v := .ref x) hs h'))
      · cases h
    | lstore_n k =>
      simp only [Bool.and_eq_true] at hok
      obtain ⟨⟨h0, h1⟩, h2⟩ := hok
      have hnx := Nat.eq_of_beq_eq_true h0
      subst hnx
      rw [Nat.add_sub_cancel_left] at hde
      have h2 : a + 1 < c.maxLocals := by rw [hml]; exact Nat.le_of_ble_eq_true h2
      dsimp only at h
      split at h
      · rename_i x r
        cases hs : gn_okS lo a with
        | false => rw [hs] at h; cases h
        | true =>
          rw [hs] at h
          cases h
          exact lv_lstore_n hx hb hde (Nat.eq_of_beq_eq_true h1) hl.has h2 rfl (fun ls' h' => kk H locs ls' hP hD hS (gn_LV.set2 (v := .long x) hs h'))
      · cases h
    | istore i =>
      simp only [Bool.and_eq_true] at hok
      obtain ⟨⟨h0, h1⟩, h2⟩ := hok
      have hnx := Nat.eq_of_beq_eq_true h0
      subst hnx
      rw [Nat.add_sub_cancel_left] at hde
      have h1 := Nat.eq_of_beq_eq_true h1
      subst h1
      have h2 : i < c.maxLocals := by rw [hml]; exact Nat.le_of_ble_eq_true h2
      dsimp only at h
      split at h
      · rename_i x r
        cases hs : gn_okS lo i with
        | false => rw [hs] at h; cases h
        | true =>
          rw [hs] at h
          cases h
          exact lv_istore hx hb hde hl.has h2 rfl (fun ls' h' => kk H locs ls' hP hD hS (gn_LV.set1 (v := .int x) hs h'))
      · cases h
    | iinc i n =>
      simp only [Bool.and_eq_true] at hok
      obtain ⟨⟨⟨h0, h1⟩, h2⟩, h3⟩ := hok
      have hnx := Nat.eq_of_beq_eq_true h0
      subst hnx
      rw [Nat.add_sub_cancel_left] at hde
      have h1 := Nat.eq_of_beq_eq_true h1
      subst h1
      have h2 : i < c.maxLocals := by rw [hml]; exact Nat.le_of_ble_eq_true h2
      have h3 := of_decide_eq_true h3
      dsimp only at h
      split at h
      · rename_i x heq
        cases hs : gn_okS lo i with
        | false => rw [hs] at h; cases h
        | true =>
          rw [hs] at h
          cases h
          have hin := gn_lvs_in (ad := ad) (lo := lo) (i := i) (by rw [heq]; intro z; cases z)
          rw [heq] at hin
          obtain ⟨kx, hkx⟩ := List.getElem?_of_mem hin
          exact lv_iinc (v := x + v) hx hb hde hl.has hkx (by rw [h3]) h2 rfl (fun ls' h' => kk H locs ls' hP hD hS (gn_LV.set1 (v := .int (x + v)) hs h'))
      · cases h
    | iconst n =>
      simp only [Bool.and_eq_true] at hok
      obtain ⟨h0, h1⟩ := hok
      have hnx := Nat.eq_of_beq_eq_true h0
      subst hnx
      rw [Nat.add_sub_cancel_left] at hde
      have h1 := of_decide_eq_true h1
      cases h
      exact lv_iconst hx hb hde h1 (k0 hP hD hS hl)
    | bipush n =>
      simp only [Bool.and_eq_true] at hok
      obtain ⟨h0, h1⟩ := hok
      have hnx := Nat.eq_of_beq_eq_true h0
      subst hnx
      rw [Nat.add_sub_cancel_left] at hde
      have h1 := of_decide_eq_true h1
      cases h
      exact lv_bipush hx hb hde h1 (k0 hP hD hS hl)
    | sipush n =>
      simp only [Bool.and_eq_true] at hok
      obtain ⟨h0, h1⟩ := hok
      have hnx := Nat.eq_of_beq_eq_true h0
      subst hnx
      rw [Nat.add_sub_cancel_left] at hde
      have h1 := of_decide_eq_true h1
      cases h
      exact lv_sipush hx hb hde h1 (k0 hP hD hS hl)
    | ldc i =>
      simp only [Bool.and_eq_true] at hok
      obtain ⟨h0, h1⟩ := hok
      have hnx := Nat.eq_of_beq_eq_true h0
      subst hnx
      rw [Nat.add_sub_cancel_left] at hde
      have h1 := of_decide_eq_true h1
      have h2 := hts _ (gn_tin (gn_cw_in _ h1) rfl)
      rw [hoc] at hown
      cases h
      exact lv_ldc hx hb hown h2 hde (k0 hP hD hS hl)
    | ldc_w i =>
      simp only [Bool.and_eq_true] at hok
      obtain ⟨h0, h1⟩ := hok
      have hnx := Nat.eq_of_beq_eq_true h0
      subst hnx
      rw [Nat.add_sub_cancel_left] at hde
      have h1 := of_decide_eq_true h1
      have h2 := hts _ (gn_tin (gn_cw_in _ h1) rfl)
      rw [hoc] at hown
      cases h
      exact lv_ldcw hx hb hown h2 hde (k0 hP hD hS hl)
    | ldc2_w i =>
      simp only [Bool.and_eq_true] at hok
      obtain ⟨h0, h1⟩ := hok
      have hnx := Nat.eq_of_beq_eq_true h0
      subst hnx
      rw [Nat.add_sub_cancel_left] at hde
      have h1 := of_decide_eq_true h1
      have h2 := hts _ (gn_tin (gn_lw_in _ h1) rfl)
      rw [hoc] at hown
      cases h
      exact lv_ldc2 hx hb hown h2 hde (k0 hP hD hS hl)
    | dup =>
      have hnx := Nat.eq_of_beq_eq_true hok
      subst hnx
      rw [Nat.add_sub_cancel_left] at hde
      dsimp only at h
      split at h
      · rename_i w r
        cases hw : gn_isL w with
        | true => rw [hw] at h; cases h
        | false =>
          rw [hw] at h
          cases h
          exact lv_dup hx hb hde (by rw [gn_cz_cat]; exact gn_isL_cat hw) (k0 hP hD hS hl)
      · cases h
    | pop =>
      have hnx := Nat.eq_of_beq_eq_true hok
      subst hnx
      rw [Nat.add_sub_cancel_left] at hde
      dsimp only at h
      split at h
      · rename_i w r
        cases hw : gn_isL w with
        | true => rw [hw] at h; cases h
        | false =>
          rw [hw] at h
          cases h
          exact lv_pop hx hb hde (by rw [gn_cz_cat]; exact gn_isL_cat hw) (k0 hP hD hS hl)
      · cases h
    | dup2 =>
      have hnx := Nat.eq_of_beq_eq_true hok
      subst hnx
      rw [Nat.add_sub_cancel_left] at hde
      dsimp only at h
      split at h
      · rename_i w u r
        cases hw : gn_isL w with
        | true => rw [hw] at h; cases h
        | false =>
          cases hu : gn_isL u with
          | true => rw [hw, hu] at h; cases h
          | false =>
            rw [hw, hu] at h
            cases h
            exact lv_dup2_11 hx hb hde (by rw [gn_cz_cat]; exact gn_isL_cat hw) (by rw [gn_cz_cat]; exact gn_isL_cat hu) (k0 hP hD hS hl)
      · cases h
    | getfield i =>
      simp only [Bool.and_eq_true] at hok
      obtain ⟨⟨⟨h0, h1⟩, h2⟩, h3⟩ := hok
      have hnx := Nat.eq_of_beq_eq_true h0
      subst hnx
      rw [Nat.add_sub_cancel_left] at hde
      have h2 : a < 13 := Nat.le_of_ble_eq_true h2
      have h3 : b < (gn_cls.getD a ("", gn_T0, 0)).2.2 := Nat.le_of_ble_eq_true h3
      obtain ⟨C, N, hc, hNe⟩ := gn_cls_at h2
      rw [← hNe] at h3
      dsimp only at h
      split at h
      · rename_i o r
        cases hf : gn_fld σ o a b with
        | none => rw [hf] at h; cases h
        | some w =>
          rw [hf] at h
          cases h
          obtain ⟨fs, t, g1, g2, g3⟩ := gn_fld_spec hf
          have ho := gn_ly_lt' g1 (by omega)
          have he : (gn_ws cI cZ ad σ)[o]? = some (ad o, .inr (a, fs.mapIdx (fun k t => gn_fv ad σ o k t))) := by rw [gn_ws_get ho, gn_ce_obj g1]
          have hv : (fs.mapIdx (fun k t => gn_fv ad σ o k t))[b]? = some (gn_cz ad w) := by rw [List.getElem?_mapIdx, g2, g3]; rfl
          rw [hoc] at hown
          rw [Bool.or_eq_true] at h1
          rcases h1 with h1 | h1
          · have hlink := hts _ (gn_tin (gn_fw_in _ (of_decide_eq_true h1)) rfl)
            exact va_get (D := D) hx hb hts (gn_lays_of hc) hown hK hP o he hc b h3 hlink (fun _ z => z) hv hde (k0 hP hD hS hl)
          · have hlink := va_Nw.use (A := args) rfl (hN _ (List.mem_filter.mpr ⟨gn_fw_in _ (of_decide_eq_true h1), rfl⟩))
            exact va_getN (D := D) hx hb hts (gn_lays_of hc) hown hK hP o he hc b h3 hlink (fun _ z => z) hv hde (k0 hP hD hS hl)
      · cases h
    | putfield i =>
      simp only [Bool.and_eq_true] at hok
      obtain ⟨⟨⟨⟨h0, h1⟩, h2⟩, h3⟩, h4⟩ := hok
      have hnx := Nat.eq_of_beq_eq_true h0
      subst hnx
      rw [Nat.add_sub_cancel_left] at hde
      have h2 : a < 13 := Nat.le_of_ble_eq_true h2
      have h3 : b < (gn_cls.getD a ("", gn_T0, 0)).2.2 := Nat.le_of_ble_eq_true h3
      have h4 : (gn_Tf a b).2.2.2 = false := by simpa using h4
      obtain ⟨C, N, hc, hNe⟩ := gn_cls_at h2
      rw [← hNe] at h3
      dsimp only at h
      split at h
      · rename_i x o r
        cases hf : gn_isS 0 o a b with
        | false => rw [hf] at h; cases h
        | true =>
          rw [hf] at h
          cases h
          obtain ⟨fs, g1, g2⟩ := gn_isS_spec hf
          have ho := gn_ly_lt' g1 (by omega)
          have he : (gn_ws cI cZ ad σ)[o]? = some (ad o, .inr (a, fs.mapIdx (fun k t => gn_fv ad σ o k t))) := by rw [gn_ws_get ho, gn_ce_obj g1]
          have hlen : b < (fs.mapIdx (fun k t => gn_fv ad σ o k t)).length := by rw [List.length_mapIdx]; exact (List.getElem?_eq_some_iff.mp g2).1
          have hty := (gn_ty_of g1 h2 g2).1 rfl
          have hd := gn_cls_ok a h2 _ _ _ hc b h3
          rw [hty] at hd
          have hset : (gn_ws cI cZ ad σ).set o (ad o, .inr (a, (fs.mapIdx (fun k t => gn_fv ad σ o k t)).set b (.int x))) = gn_ws cI cZ ad (gn_up σ o b x) := gn_ws_set ho (by rw [gn_ce_put g1 g2]; simp [gn_fv, gn_up_eq, upd]) (fun o' h' => gn_ce_ne (gn_up_ne h'))
          rw [hoc] at hown
          rw [Bool.or_eq_true] at h1
          rcases h1 with h1 | h1
          · have hlink := hts _ (gn_tin (gn_fw_in _ (of_decide_eq_true h1)) rfl)
            exact va_put (D := D) (v := .int x) hx hb hts (gn_lays_of hc) _ (gn_cls_ok a h2 _ _ _ hc) (gn_cls_nm a h2 _ _ _ hc) hown hK hP hD hS o he hc b h3 hlink (fun _ z => z) h4 hd rfl rfl hlen hde (fun H1 locs1 p1 p2 p3 => kk H1 locs1 ls (hset ▸ p1) (hset ▸ p2) p3 hl)
          · have hlink := va_Nw.use (A := args) rfl (hN _ (List.mem_filter.mpr ⟨gn_fw_in _ (of_decide_eq_true h1), rfl⟩))
            exact va_putN (D := D) (v := .int x) hx hb hts (gn_lays_of hc) _ (gn_cls_ok a h2 _ _ _ hc) (gn_cls_nm a h2 _ _ _ hc) hown hK hP hD hS o he hc b h3 hlink (fun _ z => z) h4 hd rfl rfl hlen hde (fun H1 locs1 p1 p2 p3 => kk H1 locs1 ls (hset ▸ p1) (hset ▸ p2) p3 hl)
      · cases h
    | invokestatic i =>
      simp only [Bool.and_eq_true] at hok
      obtain ⟨h0, h1⟩ := hok
      have hnx := Nat.eq_of_beq_eq_true h0
      subst hnx
      rw [Nat.add_sub_cancel_left] at hde
      cases d with
      | zero => cases h
      | succ d' =>
        dsimp only at h
        split at h
        · rename_i y2 x r
          cases hcs : gn_cs r with
          | false => rw [hcs] at h; cases h
          | true =>
            rw [hcs] at h
            dsimp only [cond] at h
            have hcat := gn_cs_map ad hcs
            have hlo : (((r.map (gn_cz ad))).map fun v => v.category).sum + 13 ≤ (gn_rm (d' + 1)).locals := by show _ ≤ 64 * (d' + 1); omega
            simp only [Bool.or_eq_true, Bool.and_eq_true, decide_eq_true_eq] at h1
            rw [hoc] at hown
            by_cases v2 : v = 2
            · rw [if_pos v2] at h
              cases h
              have hlink : (Cond.methodLink (gn_nm oc) i Lib.Math.max.name).before args s = true := by
                rcases h1 with ((h1 | h1) | h1) | h1
                · exact absurd (h1.1.1.symm.trans v2) (by decide)
                · exact absurd (h1.1.symm.trans v2) (by decide)
                · exact hts _ (gn_tin (gn_sw_in _ h1.2) rfl)
                · exact absurd (h1.1.symm.trans v2) (by decide)
              exact va_mmax hx hb (by rw [hl.1]) hown hlink (hts _ (gn_tin gn_maxs rfl)) (hts _ (gn_tin gn_mathi rfl)) (hts _ (gn_tin gn_maxc rfl)) (Nat.succ_le_succ (Nat.zero_le _)) hlo (Nat.zero_le _) (Nat.zero_le _) hde (k0 hP hD hS hl)
            · rw [if_neg v2] at h
              by_cases v3 : v = 3
              · rw [if_pos v3] at h
                cases h
                have hlink : (Cond.methodLink (gn_nm oc) i Lib.Math.min.name).before args s = true := by
                  rcases h1 with ((h1 | h1) | h1) | h1
                  · exact absurd (h1.1.1.symm.trans v3) (by decide)
                  · exact absurd (h1.1.symm.trans v3) (by decide)
                  · exact absurd (h1.1.symm.trans v3) (by decide)
                  · exact hts _ (gn_tin (gn_sw_in _ h1.2) rfl)
                exact va_mmin hx hb (by rw [hl.1]) hown hlink (hts _ (gn_tin gn_mins rfl)) (hts _ (gn_tin gn_mathi rfl)) (hts _ (gn_tin gn_minc rfl)) (Nat.succ_le_succ (Nat.zero_le _)) hlo (Nat.zero_le _) (Nat.zero_le _) hde (k0 hP hD hS hl)
              · rw [if_neg v3] at h
                cases h
        · cases h
    | _ => cases h
end
section
/-! soundness of the pure machine, three: calls, branches, returns, the theorem; printed by wip/whole/gen/sound3.py -/
theorem gn_callG {l : Launch} {D : va_G} {cI cZ : ClassId} {ad : Nat → Nat} {A : Nat → Prop} {p : Program} {e : Env} {R : Room} {s : State} {m : MethodId} {args : Array Value} {below : List Frame} {meth : Method} {c : Code} {H H0 : Heap} {locs : List Loc} {pc : Nat} {ls : Array Slot} {st0 rest : List Value} {a : Array Value} {Q : Option Value → gn_Mem → Prop} {Qf : State → Prop} (hr : va_Run p l e R s m args below meth c H locs 0 0 0 0 (F0 m pc ls st0) rest (gn_Qc D cI cZ ad A Q a) A) (hS : va_S A H0 H locs)
    (kk : ∀ (rv : Option Value) (σ' : gn_Mem) (H1 : Heap) (locs1 : List Loc), Q rv σ' → va_P D gn_cls (gn_ws cI cZ ad σ') H1 → va_D A (gn_ws cI cZ ad σ') → va_S A H0 H1 locs1 → W p l e R s m args below meth c H1 locs1 0 0 Qf (F0 m (pc + 3) ls ((rv.map (gn_cz ad)).toList ++ rest))) : W p l e R s m args below meth c H locs 0 0 Qf (F0 m pc ls st0) := by
  intro T hT X
  obtain ⟨v, st₀, t, T', L, h0, X', hL, e1, e2, ⟨⟨rv, σ', hv, hq, hB⟩, hz, hk⟩, st⟩ := hr T hT X
  cases hv
  rw [h0] at hz hk
  obtain ⟨t2, a1, b1⟩ := kk rv σ' T'.heap (locs ++ L) hq (by rw [e1]; exact hB.1) hB.2.2.1
    ⟨Nat.le_trans hS.1 (by rw [e1]; exact hz), fun q h1 h2 => by rw [e1, hk q (Nat.lt_of_lt_of_le h1 hS.1) h2]; exact hS.2.1 q h1 h2, fun q hq => by
      rcases List.mem_append.mp hq with h | h
      · exact hS.2.2 q h
      · exact hL q h⟩ T' rfl X'
  exact ⟨t2, st t2 a1, b1⟩
def gn_S (l : Launch) (D : va_G) (cI cZ : ClassId) (ad : Nat → Nat) (A : Nat → Prop) (n : Nat) : Prop := ∀ (d mi pc : Nat) (lo st : List Value) (σ : gn_Mem) (Q : Option Value → gn_Mem → Prop), gn_wp n d mi pc lo st σ Q → ∀ (p : Program) (e : Env) (s : State) (m : MethodId) (args : Array Value) (below : List Frame) (meth : Method) (c : Code), gn_C D cI cZ mi p s m args meth c → ∀ (H : Heap) (locs : List Loc) (ls : Array Slot), va_P D gn_cls (gn_ws cI cZ ad σ) H → va_D A (gn_ws cI cZ ad σ) → va_S A s.heap H locs → gn_LV ad ls c.maxLocals lo → W p l e (gn_rm d) s m args below meth c H locs 0 0 (MQ below (gn_Qc D cI cZ ad A Q) args s 0 0 A) (F0 m pc ls (st.map (gn_cz ad)))
theorem gn_met {l : Launch} {D : va_G} {cI cZ : ClassId} {ad : Nat → Nat} {A : Nat → Prop} {n d mi : Nat} {y : MethodName} {bytes : ByteArray} {ml : Nat} {rt : Option FieldType} {stt : Bool} {ac oc : Nat} {av : List Value} {σ : gn_Mem} {Q : Option Value → gn_Mem → Prop} (hS : gn_S l D cI cZ ad A n) (hm : gn_meta[mi]? = some (y, bytes, ml, rt, stt, ac, oc)) (h : gn_wp n d mi 0 av [] σ Q) (hav : ∀ v ∈ av, gn_isL v = false) (hlen : av.length ≤ ml) : Met l y (.code y bytes ml rt :: gn_tbl) (gn_rm d) (gn_Pc D cI cZ ad A av σ) (gn_Qc D cI cZ ad A Q) 0 0 A := by
  refine Met.ofW (cc := bytes) (maxL := ml) (ret := rt) (gn_meta_ok _ (List.mem_of_getElem? hm)).1 rfl ?_
  intro p e s m args below meth c s₁ B hml hv
  obtain ⟨rfl, hP, hK, hD, hN⟩ := hv
  have hts := atoms_spec (ws := .code y bytes ml rt :: gn_tbl) B.pre
  have hown : s.vm.findClass y.cls = some m.cls := findClass_of_methodNamed B.named
  rw [lg_entry_eq]
  have hl := lv_entry (av.map (gn_cz ad)) (n := ml) (by rw [gn_sl_len av hav ad]; exact hlen)
  refine hS d mi 0 av [] σ Q h p e s m _ below meth c ⟨B.exec, ⟨y, bytes, ml, rt, stt, ac, oc, hm, B.bytes, hml, hown, B.returns⟩, B.notSynchronized, fun w hw => hts w (List.mem_cons_of_mem _ hw), hK, hN⟩ s.heap [] _ hP hD va_S.rf ?_
  refine ⟨by rw [hml]; exact hl.1, hl.2.1, fun i hi => ?_⟩
  have h1 := gn_args_at av 0 hav ad i hi
  rw [Nat.zero_add] at h1
  exact hl.2.2 _ h1
theorem gn_good_ws {a : Nat} {y : MethodName} {bytes : ByteArray} {ml : Nat} {rt : Option FieldType} {stt : Bool} {ac oc : Nat} (hm : gn_meta[a]? = some (y, bytes, ml, rt, stt, ac, oc)) : GoodIn gn_tbl (.code y bytes ml rt :: gn_tbl) := by
  intro w hw
  rcases List.mem_cons.mp hw with rfl | hw
  · have h1 : Cond.code y bytes ml rt ∈ gn_tbl := gn_tin (gn_code_in _ (List.mem_of_getElem? hm)) rfl
    exact ⟨h1, gn_tbl_good h1⟩
  · exact ⟨hw, gn_tbl_good hw⟩
set_option maxRecDepth 100000 in
theorem gn_meta_ne : ∀ t ∈ gn_meta, t.1.cls ≠ "" ∧ (bif t.2.2.2.2.1 then t.2.2.2.2.2.1 else t.2.2.2.2.2.1 + 1) ≤ t.2.2.1 := by decide +kernel
set_option maxRecDepth 100000 in
theorem gn_cls_n : ∀ q, q < 13 → (gn_cls.getD q ("", gn_T0, 0)).1 = gn_nm q := by decide +kernel
theorem gn_y_of {a : Nat} {y : MethodName} {bytes : ByteArray} {ml : Nat} {rt : Option FieldType} {stt : Bool} {ac oc : Nat} (hm : gn_meta[a]? = some (y, bytes, ml, rt, stt, ac, oc)) : gn_y a = y := by
  simp [gn_y, List.getD, hm]
theorem gn_recv {D : va_G} {cI cZ : ClassId} {ad : Nat → Nat} {o : Nat} {σ : gn_Mem} {s : State} {H : Heap} {C : String} (hK : va_K D gn_cls [(cI, .int), (cZ, .boolean)] s) (hP : va_P D gn_cls (gn_ws cI cZ ad σ) H) (ho : o < gn_NO) (hC : gn_nm (gn_oc o) = C) (hne : C ≠ "") : ∃ cell : Cell, H[ad o]? = some cell ∧ cell.vm.isStatics = false ∧ s.vm.findClass C = some cell.cls := by
  cases hl : gn_ly o with
  | inl x =>
    exfalso
    unfold gn_oc at hC
    rw [hl] at hC
    exact hne hC.symm
  | inr x =>
    obtain ⟨q, fs⟩ := x
    have hq : q < 13 := by
      have h1 := gn_tyOk_all o ho 0 (by decide)
      unfold gn_tyOk at h1
      rw [← gn_ly_lay ho, hl] at h1
      simp only [Bool.and_eq_true] at h1
      exact Nat.le_of_ble_eq_true h1.1.1
    unfold gn_oc at hC
    rw [hl] at hC
    obtain ⟨C2, N, hc, hNe⟩ := gn_cls_at hq
    have e2 : C2 = C := by
      have h2 := gn_cls_n q hq
      simp only [List.getD, hc, Option.getD_some] at h2
      rw [h2]; exact hC
    subst e2
    have he : (gn_ws cI cZ ad σ)[o]? = some (ad o, .inr (q, fs.mapIdx (fun k t => gn_fv ad σ o k t))) := by rw [gn_ws_get ho, gn_ce_obj hl]
    exact va_recv hK hP hc he
set_option maxRecDepth 100000 in
theorem gn_acs : Cond.static arraycopyName ∈ lw_tbl := List.mem_of_getElem? (i := 717) (by decide +kernel)
set_option maxRecDepth 100000 in
theorem gn_acn : Cond.native arraycopyName ∈ lw_tbl := List.mem_of_getElem? (i := 718) (by decide +kernel)
set_option maxRecDepth 100000 in
theorem gn_sysi : Cond.initialized "java/lang/System" ∈ lw_tbl := List.mem_of_getElem? (i := 145) (by decide +kernel)
theorem gn_look_mem : ∀ (ps : List (Int × Int)) (dflt x : Int), Op.lookupswitch.offset ps dflt x = dflt ∨ ∃ q ∈ ps, Op.lookupswitch.offset ps dflt x = q.2
  | [], dflt, x => Or.inl rfl
  | (a, o) :: r, dflt, x => by
    by_cases h : a = x
    · exact Or.inr ⟨(a, o), List.mem_cons_self, by simp [Op.lookupswitch.offset, h]⟩
    · have e : Op.lookupswitch.offset ((a, o) :: r) dflt x = Op.lookupswitch.offset r dflt x := by simp [Op.lookupswitch.offset, h]
      rw [e]
      rcases gn_look_mem r dflt x with h1 | ⟨q, hq, h1⟩
      · exact Or.inl h1
      · exact Or.inr ⟨q, List.mem_cons_of_mem _ hq, h1⟩
set_option maxHeartbeats 8000000 in
set_option maxRecDepth 100000 in
theorem gn_sound (l : Launch) (D : va_G) (cI cZ : ClassId) (ad : Nat → Nat) (A : Nat → Prop) : ∀ n, gn_S l D cI cZ ad A n := by
  intro n
  induction n with
  | zero => intro d mi pc lo st σ Q h; exact h.elim
  | succ n ih =>
    intro d mi pc lo st σ Q h p e s m args below meth c hC H locs ls hP hD hS hl
    unfold gn_wp at h
    cases hst : gn_stp d mi pc lo st σ with
    | some r =>
      obtain ⟨pc', lo', st', σ'⟩ := r
      rw [hst] at h
      exact gn_stp_sound hC hst hP hD hS hl (fun H1 locs1 ls1 p1 p2 p3 p4 => ih _ _ _ _ _ _ _ h p e s m args below meth c hC H1 locs1 ls1 p1 p2 p3 p4)
    | none =>
      rw [hst] at h
      dsimp only at h
      cases hcd : gn_cd mi pc with
      | none => rw [hcd] at h; exact h.elim
      | some E =>
        have hC0 := hC
        obtain ⟨hx, ⟨y, bytes, ml, rt, stt, ac, oc, hm, hb, hml, hown, hr⟩, hlk, hts, hK, hN⟩ := hC
        have hoc : y.cls = gn_nm oc := (gn_meta_ok _ (List.mem_of_getElem? hm)).2.2.2.2.2
        obtain ⟨ins, nx, a, b, v⟩ := E
        rw [hcd] at h
        dsimp only at h
        have hok := gn_cd_ok hcd
        simp only [gn_okE, hm] at hok
        rw [Bool.and_eq_true] at hok
        obtain ⟨hde, hok⟩ := hok
        have hde := of_decide_eq_true hde
        have go : ∀ {pc2 : Nat} {st2 : List Value}, gn_wp n d mi pc2 lo st2 σ Q → W p l e (gn_rm d) s m args below meth c H locs 0 0 (MQ below (gn_Qc D cI cZ ad A Q) args s 0 0 A) (F0 m pc2 ls (st2.map (gn_cz ad))) := fun hh => ih _ _ _ _ _ _ _ hh p e s m args below meth c hC0 H locs ls hP hD hS hl
        cases ins with
        | goto off =>
          simp only [Bool.and_eq_true] at hok
          obtain ⟨h0, h1⟩ := hok
          have hnx := Nat.eq_of_beq_eq_true h0
          subst hnx
          rw [Nat.add_sub_cancel_left] at hde
          exact lv_goto hx hb hde (of_decide_eq_true h1) (go h)
        | ifCond cnd off =>
          simp only [Bool.and_eq_true] at hok
          obtain ⟨h0, h1⟩ := hok
          have hnx := Nat.eq_of_beq_eq_true h0
          subst hnx
          rw [Nat.add_sub_cancel_left] at hde
          have h1 := of_decide_eq_true h1
          dsimp only at h
          split at h
          · rename_i x r
            cases cnd with
            | eq => exact lv_if_eq hx hb hde h1 (fun q => go (h.1 q)) (fun q => go (h.2 q))
            | ne => exact lv_if_ne hx hb hde h1 (fun q => go (h.1 q)) (fun q => go (h.2 (fun z => z q)))
            | lt => exact lv_if_lt hx hb hde h1 (fun q => go (h.1 q)) (fun q => go (h.2 q))
            | ge => exact lv_if_ge hx hb hde h1 (fun q => go (h.1 q)) (fun q => go (h.2 q))
            | gt => exact lv_if_gt hx hb hde h1 (fun q => go (h.1 q)) (fun q => go (h.2 q))
            | le => exact lv_if_le hx hb hde h1 (fun q => go (h.1 q)) (fun q => go (h.2 q))
          · exact h.elim
        | if_icmp cnd off =>
          simp only [Bool.and_eq_true] at hok
          obtain ⟨h0, h1⟩ := hok
          have hnx := Nat.eq_of_beq_eq_true h0
          subst hnx
          rw [Nat.add_sub_cancel_left] at hde
          have h1 := of_decide_eq_true h1
          dsimp only at h
          split at h
          · rename_i y2 x r
            cases cnd with
            | eq => exact lv_icmp_eq hx hb hde h1 (fun q => go (h.1 q)) (fun q => go (h.2 q))
            | ne => exact lv_icmp_ne hx hb hde h1 (fun q => go (h.1 q)) (fun q => go (h.2 (fun z => z q)))
            | lt => exact lv_icmp_lt hx hb hde h1 (fun q => go (h.1 q)) (fun q => go (h.2 q))
            | ge => exact lv_icmp_ge hx hb hde h1 (fun q => go (h.1 q)) (fun q => go (h.2 q))
            | gt => exact lv_icmp_gt hx hb hde h1 (fun q => go (h.1 q)) (fun q => go (h.2 q))
            | le => exact lv_icmp_le hx hb hde h1 (fun q => go (h.1 q)) (fun q => go (h.2 q))
          · exact h.elim
        | tableswitch dflt low hi offs =>
          simp only [Bool.and_eq_true, decide_eq_true_eq] at hok
          obtain ⟨⟨k1, k2⟩, k3⟩ := hok
          dsimp only at h
          split at h
          · rename_i x r
            by_cases ho : x.toInt < low ∨ hi < x.toInt
            · have ht : (pc : Int) + dflt = ((((pc : Int) + dflt).toNat : Nat) : Int) := (Int.toNat_of_nonneg k1).symm
              exact lv_tableOut hx hb hde ho ht (go (h _ (by unfold gn_swt; dsimp only; rw [if_pos ho]; exact ht)))
            · have hlt : (x.toInt - low).toNat < offs.size := by omega
              have hget : offs[(x.toInt - low).toNat]? = some (offs.getD (x.toInt - low).toNat 0) := by
                simp [Array.getD, hlt]
              have hmem : 0 ≤ (pc : Int) + offs.getD (x.toInt - low).toNat 0 := by
                have h1 := List.all_eq_true.mp k2 (offs.getD (x.toInt - low).toNat 0) (by
                  have h2 := Array.mem_of_getElem? hget
                  exact Array.mem_toList_iff.mpr h2)
                exact of_decide_eq_true h1
              have ht := (Int.toNat_of_nonneg hmem).symm
              exact lv_tableIn hx hb hde (fun z => ho (Or.inl z)) (fun z => ho (Or.inr z)) hget ht (go (h _ (by unfold gn_swt; dsimp only; rw [if_neg ho]; exact ht)))
          · exact h.elim
        | lookupswitch dflt ps =>
          simp only [Bool.and_eq_true, decide_eq_true_eq] at hok
          obtain ⟨⟨k1, k2⟩, k3⟩ := hok
          dsimp only at h
          split at h
          · rename_i x r
            have hnn : 0 ≤ (pc : Int) + Op.lookupswitch.offset ps.toList dflt x.toInt := by
              rcases gn_look_mem ps.toList dflt x.toInt with e1 | ⟨q, hq, e1⟩
              · rw [e1]; exact k2
              · rw [e1]; exact of_decide_eq_true (List.all_eq_true.mp k3 q hq)
            have ht := (Int.toNat_of_nonneg hnn).symm
            exact lv_lookup hx hb hde (by simpa using k1) rfl ht (go (h _ (by unfold gn_swt; exact ht)))
          · exact h.elim
        | idiv =>
          have hnx := Nat.eq_of_beq_eq_true hok
          subst hnx
          rw [Nat.add_sub_cancel_left] at hde
          dsimp only at h
          split at h
          · exact lv_idiv hx hb hde h.1 (go h.2)
          · exact h.elim
        | irem =>
          have hnx := Nat.eq_of_beq_eq_true hok
          subst hnx
          rw [Nat.add_sub_cancel_left] at hde
          dsimp only at h
          split at h
          · exact lv_irem hx hb hde h.1 (go h.2)
          · exact h.elim
        | ldiv =>
          have hnx := Nat.eq_of_beq_eq_true hok
          subst hnx
          rw [Nat.add_sub_cancel_left] at hde
          dsimp only at h
          split at h
          · exact lv_ldiv hx hb hde h.1 (go h.2)
          · exact h.elim
        | lrem =>
          have hnx := Nat.eq_of_beq_eq_true hok
          subst hnx
          rw [Nat.add_sub_cancel_left] at hde
          dsimp only at h
          split at h
          · exact lv_lrem hx hb hde h.1 (go h.2)
          · exact h.elim
        | iaload =>
          have hnx := Nat.eq_of_beq_eq_true hok
          subst hnx
          rw [Nat.add_sub_cancel_left] at hde
          dsimp only at h
          split at h
          · rename_i i o r
            split at h
            · rename_i len heq
              have ho := gn_ly_lt heq
              have ha : (gn_ws cI cZ ad σ)[o]? = some (ad o, .inl (cI, len, .inl (σ o))) := by rw [gn_ws_get ho, gn_ce_arr heq]; rfl
              exact va_iald hx hb hK hP o 0 ha rfl h.1 hde (go h.2)
            · exact h.elim
          · exact h.elim
        | baload =>
          have hnx := Nat.eq_of_beq_eq_true hok
          subst hnx
          rw [Nat.add_sub_cancel_left] at hde
          dsimp only at h
          split at h
          · rename_i i o r
            split at h
            · rename_i len heq
              have ho := gn_ly_lt heq
              have ha : (gn_ws cI cZ ad σ)[o]? = some (ad o, .inl (cZ, len, .inl (σ o))) := by rw [gn_ws_get ho, gn_ce_arr heq]; rfl
              exact va_zald hx hb hK hP o 1 ha rfl h.1 hde (go h.2)
            · exact h.elim
          · exact h.elim
        | iastore =>
          have hnx := Nat.eq_of_beq_eq_true hok
          subst hnx
          rw [Nat.add_sub_cancel_left] at hde
          dsimp only at h
          split at h
          · rename_i x i o r
            split at h
            · rename_i len heq
              have ho := gn_ly_lt heq
              have ha : (gn_ws cI cZ ad σ)[o]? = some (ad o, .inl (cI, len, .inl (σ o))) := by rw [gn_ws_get ho, gn_ce_arr heq]; rfl
              have hset : (gn_ws cI cZ ad σ).set o (ad o, .inl (cI, len, .inl (upd (σ o) i.toNatClampNeg x))) = gn_ws cI cZ ad (gn_up σ o i.toNatClampNeg x) := gn_ws_set ho (by rw [gn_ce_arr heq, gn_up_eq]; rfl) (fun o' h' => gn_ce_ne (gn_up_ne h'))
              exact va_iast hx hb hK hP hD hS o 0 ha rfl h.1 hde (fun H1 locs1 p1 p2 p3 => ih _ _ _ _ _ _ _ h.2 p e s m args below meth c hC0 H1 locs1 ls (hset ▸ p1) (hset ▸ p2) p3 hl)
            · exact h.elim
          · exact h.elim
        | bastore =>
          have hnx := Nat.eq_of_beq_eq_true hok
          subst hnx
          rw [Nat.add_sub_cancel_left] at hde
          dsimp only at h
          split at h
          · rename_i x i o r
            split at h
            · rename_i len heq
              have ho := gn_ly_lt heq
              have ha : (gn_ws cI cZ ad σ)[o]? = some (ad o, .inl (cZ, len, .inl (σ o))) := by rw [gn_ws_get ho, gn_ce_arr heq]; rfl
              have hset : (gn_ws cI cZ ad σ).set o (ad o, .inl (cZ, len, .inl (upd (σ o) i.toNatClampNeg (vp_nar .boolean x)))) = gn_ws cI cZ ad (gn_up σ o i.toNatClampNeg (vp_nar .boolean x)) := gn_ws_set ho (by rw [gn_ce_arr heq, gn_up_eq]; rfl) (fun o' h' => gn_ce_ne (gn_up_ne h'))
              exact va_zast hx hb hK hP hD hS o 1 ha rfl h.1 hde (fun H1 locs1 p1 p2 p3 => ih _ _ _ _ _ _ _ h.2 p e s m args below meth c hC0 H1 locs1 ls (hset ▸ p1) (hset ▸ p2) p3 hl)
            · exact h.elim
          · exact h.elim
        | putfield i =>
          simp only [Bool.and_eq_true] at hok
          obtain ⟨⟨⟨⟨h0, h1⟩, h2⟩, h3⟩, h4⟩ := hok
          have hnx := Nat.eq_of_beq_eq_true h0
          subst hnx
          rw [Nat.add_sub_cancel_left] at hde
          dsimp only at h
          split at h
          · rename_i x o r
            obtain ⟨hf, hx01, hwp⟩ := h
            have hnar : narrow .boolean (.int x) = .int x := by rcases hx01 with rfl | rfl <;> rfl
            have hfit : fits .boolean (.int x) = true := by rcases hx01 with rfl | rfl <;> rfl
            have h2 : a < 13 := Nat.le_of_ble_eq_true h2
            have h3 : b < (gn_cls.getD a ("", gn_T0, 0)).2.2 := Nat.le_of_ble_eq_true h3
            have h4 : (gn_Tf a b).2.2.2 = false := by simpa using h4
            obtain ⟨C, N, hc, hNe⟩ := gn_cls_at h2
            rw [← hNe] at h3
            obtain ⟨fs, g1, g2⟩ := gn_isS_spec hf
            have ho := gn_ly_lt' g1 (by omega)
            have he : (gn_ws cI cZ ad σ)[o]? = some (ad o, .inr (a, fs.mapIdx (fun k t => gn_fv ad σ o k t))) := by rw [gn_ws_get ho, gn_ce_obj g1]
            have hlen : b < (fs.mapIdx (fun k t => gn_fv ad σ o k t)).length := by rw [List.length_mapIdx]; exact (List.getElem?_eq_some_iff.mp g2).1
            have hty := (gn_ty_of g1 h2 g2).2.2 rfl
            have hd := gn_cls_ok a h2 _ _ _ hc b h3
            rw [hty] at hd
            have hset : (gn_ws cI cZ ad σ).set o (ad o, .inr (a, (fs.mapIdx (fun k t => gn_fv ad σ o k t)).set b (.int x))) = gn_ws cI cZ ad (gn_up σ o b x) := gn_ws_set ho (by rw [gn_ce_put g1 g2]; simp [gn_fv, gn_up_eq, upd]) (fun o' h' => gn_ce_ne (gn_up_ne h'))
            rw [hoc] at hown
            rw [Bool.or_eq_true] at h1
            rcases h1 with h1 | h1
            · have hlink := hts _ (gn_tin (gn_fw_in _ (of_decide_eq_true h1)) rfl)
              exact va_put (D := D) (v := .int x) hx hb hts (gn_lays_of hc) _ (gn_cls_ok a h2 _ _ _ hc) (gn_cls_nm a h2 _ _ _ hc) hown hK hP hD hS o he hc b h3 hlink (fun _ z => z) h4 hd hnar hfit hlen hde (fun H1 locs1 p1 p2 p3 => ih _ _ _ _ _ _ _ hwp p e s m args below meth c hC0 H1 locs1 ls (hset ▸ p1) (hset ▸ p2) p3 hl)
            · have hlink := va_Nw.use (A := args) rfl (hN _ (List.mem_filter.mpr ⟨gn_fw_in _ (of_decide_eq_true h1), rfl⟩))
              exact va_putN (D := D) (v := .int x) hx hb hts (gn_lays_of hc) _ (gn_cls_ok a h2 _ _ _ hc) (gn_cls_nm a h2 _ _ _ hc) hown hK hP hD hS o he hc b h3 hlink (fun _ z => z) h4 hd hnar hfit hlen hde (fun H1 locs1 p1 p2 p3 => ih _ _ _ _ _ _ _ hwp p e s m args below meth c hC0 H1 locs1 ls (hset ▸ p1) (hset ▸ p2) p3 hl)
          · rename_i t o r
            obtain ⟨hf, x, hdy, hwp⟩ := h
            subst hdy
            have hnar : narrow (.object "GuestNoes$Table") (.ref (ad (gn_dyn x))) = .ref (ad (gn_dyn x)) := rfl
            have hfit : fits (.object "GuestNoes$Table") (.ref (ad (gn_dyn x))) = true := rfl
            have h2 : a < 13 := Nat.le_of_ble_eq_true h2
            have h3 : b < (gn_cls.getD a ("", gn_T0, 0)).2.2 := Nat.le_of_ble_eq_true h3
            have h4 : (gn_Tf a b).2.2.2 = false := by simpa using h4
            obtain ⟨C, N, hc, hNe⟩ := gn_cls_at h2
            rw [← hNe] at h3
            obtain ⟨fs, g1, g2⟩ := gn_isS_spec hf
            have ho := gn_ly_lt' g1 (by omega)
            have he : (gn_ws cI cZ ad σ)[o]? = some (ad o, .inr (a, fs.mapIdx (fun k t => gn_fv ad σ o k t))) := by rw [gn_ws_get ho, gn_ce_obj g1]
            have hlen : b < (fs.mapIdx (fun k t => gn_fv ad σ o k t)).length := by rw [List.length_mapIdx]; exact (List.getElem?_eq_some_iff.mp g2).1
            have hty := (gn_ty_of g1 h2 g2).2.1 rfl
            have hd := gn_cls_ok a h2 _ _ _ hc b h3
            rw [hty] at hd
            have hset : (gn_ws cI cZ ad σ).set o (ad o, .inr (a, (fs.mapIdx (fun k t => gn_fv ad σ o k t)).set b (.ref (ad (gn_dyn x))))) = gn_ws cI cZ ad (gn_up σ o b x) := gn_ws_set ho (by rw [gn_ce_put g1 g2]; simp [gn_fv, gn_up_eq, upd]) (fun o' h' => gn_ce_ne (gn_up_ne h'))
            rw [hoc] at hown
            rw [Bool.or_eq_true] at h1
            rcases h1 with h1 | h1
            · have hlink := hts _ (gn_tin (gn_fw_in _ (of_decide_eq_true h1)) rfl)
              exact va_put (D := D) (v := .ref (ad (gn_dyn x))) hx hb hts (gn_lays_of hc) _ (gn_cls_ok a h2 _ _ _ hc) (gn_cls_nm a h2 _ _ _ hc) hown hK hP hD hS o he hc b h3 hlink (fun _ z => z) h4 hd hnar hfit hlen hde (fun H1 locs1 p1 p2 p3 => ih _ _ _ _ _ _ _ hwp p e s m args below meth c hC0 H1 locs1 ls (hset ▸ p1) (hset ▸ p2) p3 hl)
            · have hlink := va_Nw.use (A := args) rfl (hN _ (List.mem_filter.mpr ⟨gn_fw_in _ (of_decide_eq_true h1), rfl⟩))
              exact va_putN (D := D) (v := .ref (ad (gn_dyn x))) hx hb hts (gn_lays_of hc) _ (gn_cls_ok a h2 _ _ _ hc) (gn_cls_nm a h2 _ _ _ hc) hown hK hP hD hS o he hc b h3 hlink (fun _ z => z) h4 hd hnar hfit hlen hde (fun H1 locs1 p1 p2 p3 => ih _ _ _ _ _ _ _ hwp p e s m args below meth c hC0 H1 locs1 ls (hset ▸ p1) (hset ▸ p2) p3 hl)
          · exact h.elim
        | invokevirtual i =>
          simp only [Bool.and_eq_true] at hok
          obtain ⟨⟨h0, h1⟩, h2⟩ := hok
          have hnx := Nat.eq_of_beq_eq_true h0
          subst hnx
          rw [Nat.add_sub_cancel_left] at hde
          cases hma : gn_meta[a]? with
          | none => rw [hma] at h2; cases h2
          | some t =>
            obtain ⟨y2, by2, ml2, rt2, st2, ac2, oc2⟩ := t
            rw [hma] at h2
            simp only [Bool.and_eq_true, Bool.not_eq_true'] at h2
            obtain ⟨hst2, hac⟩ := h2
            have hac := Nat.eq_of_beq_eq_true hac
            subst hac
            subst hst2
            have hmem := List.mem_of_getElem? hma
            have hmok := gn_meta_ok _ hmem
            have hmne := gn_meta_ne _ hmem
            have hye := gn_y_of hma
            have hflt : (y2, by2, ml2, rt2, false, ac2, oc2) ∈ gn_meta.filter (fun t => !t.2.2.2.2.1) := List.mem_filter.mpr ⟨hmem, rfl⟩
            cases d with
            | zero => exact h.elim
            | succ d' =>
              dsimp only at h
              split at h
              · rename_i as o r heq
                obtain ⟨ho, hcs, hcl, hwp⟩ := h
                rw [hye] at hcl
                obtain ⟨vs, e1, e2, e3, e4⟩ := gn_pop_spec _ _ _ _ _ heq
                rw [List.append_nil] at e1
                subst e1
                subst e2
                have hM := gn_met ih hma hwp (fun w hw => by
                  rcases List.mem_cons.mp hw with rfl | hw
                  · rfl
                  · exact e4 w hw) (by have h9 : ac2 + 1 ≤ ml2 := hmne.2; rw [List.length_cons, e3]; exact h9)
                have hR : (gn_rm d').frames + 1 ≤ (gn_rm (d' + 1)).frames ∧ 8 + (ml2 + 11) + (gn_rm d').locals ≤ (gn_rm (d' + 1)).locals := by
                  have h9 : ml2 ≤ 21 := hmok.2.2.2.2.1
                  constructor
                  · exact Nat.le_refl _
                  · show 8 + (ml2 + 11) + 64 * d' ≤ 64 * (d' + 1); omega
                have hrec := gn_recv (ad := ad) hK hP ho hcl hmne.1
                have hpre : PreV s H y2.cls (ad o) (gn_Pc D cI cZ ad A (.ref o :: as) σ) (as.map (gn_cz ad)) := ⟨gn_B.blind, hrec, fun U hU hW => ⟨rfl, gn_B.of hU hW hP hD hK hN⟩⟩
                have hstk : (F0 m pc ls ((as.reverse ++ Value.ref o :: r).map (gn_cz ad))).stack = (as.map (gn_cz ad)).reverse ++ .ref (ad o) :: r.map (gn_cz ad) := by
                  show (as.reverse ++ Value.ref o :: r).map (gn_cz ad) = _
                  rw [List.map_append, List.map_reverse]
                  rfl
                have hcat := gn_cs_map ad hcs
                have kont : ∀ (rv : Option Value) (σ' : gn_Mem) (H1 : Heap) (locs1 : List Loc), gn_wp n (d' + 1) mi (pc + 3) lo (rv.toList ++ r) σ' Q → va_P D gn_cls (gn_ws cI cZ ad σ') H1 → va_D A (gn_ws cI cZ ad σ') → va_S A s.heap H1 locs1 → W p l e (gn_rm (d' + 1)) s m args below meth c H1 locs1 0 0 (MQ below (gn_Qc D cI cZ ad A Q) args s 0 0 A) (F0 m (pc + 3) ls ((rv.map (gn_cz ad)).toList ++ r.map (gn_cz ad))) := by
                  intro rv σ' H1 locs1 q1 q2 q3 q4
                  have h9 := ih _ _ _ _ _ _ _ q1 p e s m args below meth c hC0 H1 locs1 ls q2 q3 q4 hl
                  have e9 : (rv.toList ++ r).map (gn_cz ad) = (rv.map (gn_cz ad)).toList ++ r.map (gn_cz ad) := by
                    rw [List.map_append]
                    cases rv <;> rfl
                  rw [e9] at h9
                  exact h9
                rw [hoc] at hown
                rw [Bool.or_eq_true] at h1
                rcases h1 with h1 | h1
                · have h1 := of_decide_eq_true h1
                  have hlk2 : Cond.methodLink (gn_nm oc) i y2 ∈ gn_tbl := by
                    have h9 := gn_tin (gn_mw_in _ h1.2) rfl
                    simpa [gn_mw, hye] using h9
                  have hG : GoodIn gn_tbl (wsV (gn_nm oc) i y2.cls y2 (.code y2 by2 ml2 rt2 :: gn_tbl)) := by
                    intro w hw
                    unfold wsV at hw
                    rcases List.mem_append.mp hw with hw | hw
                    · have h8 : w ∈ gn_tbl := by
                        simp only [List.mem_cons, List.not_mem_nil, or_false] at hw
                        rcases hw with rfl | rfl | rfl | rfl
                        · exact hlk2
                        · exact gn_tin (gn_inst_in _ hflt) rfl
                        · exact gn_tin (gn_sel_in _ hflt) rfl
                        · exact gn_tin (gn_init_in _ hmem) rfl
                      exact ⟨h8, gn_tbl_good h8⟩
                    · exact gn_good_ws hma w hw
                  exact gn_callG (va_runV (As := as.map (gn_cz ad)) (rest := r.map (gn_cz ad)) ⟨hx, hb, rfl, hown, hts⟩ hM (cwV ac2 hts hG rfl rfl rfl ⟨rfl, hmok.2.1, hmok.2.2.1, hmok.2.2.2.1⟩ hR) hpre rfl (by rw [List.length_map]; exact e3) hl.1 hstk (lv_room hcat) hde ⟨Nat.zero_le _, Nat.zero_le _⟩) hS kont
                · have h1 := of_decide_eq_true h1
                  have hlk2 : va_Nw (.methodLinkNest (gn_nm oc) i y2 "GuestNoes") s := by
                    have h9 : va_Nw (.methodLinkNest (gn_nm oc) i (gn_y a) "GuestNoes") s := hN _ (List.mem_filter.mpr ⟨gn_mw_in _ h1.2, rfl⟩)
                    rw [hye] at h9
                    exact h9
                  exact gn_callG (va_runVN (C := y2.cls) (As := as.map (gn_cz ad)) (rest := r.map (gn_cz ad)) ⟨hx, hb, rfl, hown, hts⟩ hM ⟨va_cnB ac2 hts (gn_good_ws hma) rfl rfl rfl hlk2 (hts _ (gn_tin (gn_init_in _ hmem) rfl)) ⟨hmok.2.1, hmok.2.2.1, hmok.2.2.2.1⟩ hR, hts _ (gn_tin (gn_inst_in _ hflt) rfl), hts _ (gn_tin (gn_sel_in _ hflt) rfl)⟩ hpre rfl (by rw [List.length_map]; exact e3) hl.1 hstk (lv_room hcat) hde ⟨Nat.zero_le _, Nat.zero_le _⟩) hS kont
              · exact h.elim
        | invokestatic i =>
          simp only [Bool.and_eq_true] at hok
          obtain ⟨h0, h1⟩ := hok
          have hnx := Nat.eq_of_beq_eq_true h0
          subst hnx
          rw [Nat.add_sub_cancel_left] at hde
          cases d with
          | zero => exact h.elim
          | succ d' =>
            dsimp only at h
            rw [hoc] at hown
            simp only [Bool.or_eq_true, Bool.and_eq_true, decide_eq_true_eq] at h1
            by_cases v0 : v = 0
            · rw [if_pos v0] at h
              rcases h1 with ((h1 | h1) | h1) | h1
              · obtain ⟨⟨-, hmt⟩, h2⟩ := h1
                cases hma : gn_meta[a]? with
                | none => rw [hma] at h2; cases h2
                | some t =>
                  obtain ⟨y2, by2, ml2, rt2, st2, ac2, oc2⟩ := t
                  rw [hma] at h2
                  simp only [Bool.and_eq_true] at h2
                  obtain ⟨hst2, hac⟩ := h2
                  have hac := Nat.eq_of_beq_eq_true hac
                  subst hac
                  subst hst2
                  have hmem := List.mem_of_getElem? hma
                  have hmok := gn_meta_ok _ hmem
                  have hmne := gn_meta_ne _ hmem
                  have hye := gn_y_of hma
                  have hflt : (y2, by2, ml2, rt2, true, ac2, oc2) ∈ gn_meta.filter (fun t => t.2.2.2.2.1) := List.mem_filter.mpr ⟨hmem, rfl⟩
                  split at h
                  · rename_i as r heq
                    obtain ⟨hcs, hwp⟩ := h
                    obtain ⟨vs, e1, e2, e3, e4⟩ := gn_pop_spec _ _ _ _ _ heq
                    rw [List.append_nil] at e1
                    subst e1
                    subst e2
                    have hM := gn_met ih hma hwp (fun w hw => e4 w hw) (by have h9 : ac2 ≤ ml2 := hmne.2; rw [e3]; exact h9)
                    have hR : (gn_rm d').frames + 1 ≤ (gn_rm (d' + 1)).frames ∧ 8 + (ml2 + 11) + (gn_rm d').locals ≤ (gn_rm (d' + 1)).locals := by
                      have h9 : ml2 ≤ 21 := hmok.2.2.2.2.1
                      constructor
                      · exact Nat.le_refl _
                      · show 8 + (ml2 + 11) + 64 * d' ≤ 64 * (d' + 1); omega
                    have hpre : PreS s H (gn_Pc D cI cZ ad A as σ) (as.map (gn_cz ad)) := ⟨gn_B.blind, fun U hU hW => ⟨rfl, gn_B.of hU hW hP hD hK hN⟩⟩
                    have hstk : (F0 m pc ls ((as.reverse ++ r).map (gn_cz ad))).stack = (as.map (gn_cz ad)).reverse ++ r.map (gn_cz ad) := by
                      show (as.reverse ++ r).map (gn_cz ad) = _
                      rw [List.map_append, List.map_reverse]
                    have hcat := gn_cs_map ad hcs
                    have hlk2 : Cond.methodLink (gn_nm oc) i y2 ∈ gn_tbl := by
                      have h9 := gn_tin (gn_sw_in _ hmt) rfl
                      simpa [gn_sw, hye] using h9
                    have hG : GoodIn gn_tbl (va_wsS (gn_nm oc) i y2 (.code y2 by2 ml2 rt2 :: gn_tbl)) := by
                      intro w hw
                      unfold va_wsS at hw
                      rcases List.mem_append.mp hw with hw | hw
                      · have h8 : w ∈ gn_tbl := by
                          simp only [List.mem_cons, List.not_mem_nil, or_false] at hw
                          rcases hw with rfl | rfl | rfl
                          · exact hlk2
                          · exact gn_tin (gn_stat_in _ hflt) rfl
                          · exact gn_tin (gn_init_in _ hmem) rfl
                        exact ⟨h8, gn_tbl_good h8⟩
                      · exact gn_good_ws hma w hw
                    exact gn_callG (va_runS (As := as.map (gn_cz ad)) (rest := r.map (gn_cz ad)) ⟨hx, hb, rfl, hown, hts⟩ hM (va_cwS ac2 hts hG rfl rfl rfl ⟨hmok.2.1, hmok.2.2.1, hmok.2.2.2.1⟩ hR) hpre rfl (by rw [List.length_map]; exact e3) hl.1 hstk (lv_room hcat) hde ⟨Nat.zero_le _, Nat.zero_le _⟩) hS (by
                      intro rv σ' H1 locs1 q1 q2 q3 q4
                      have h9 := ih _ _ _ _ _ _ _ q1 p e s m args below meth c hC0 H1 locs1 ls q2 q3 q4 hl
                      have e9 : (rv.toList ++ r).map (gn_cz ad) = (rv.map (gn_cz ad)).toList ++ r.map (gn_cz ad) := by
                        rw [List.map_append]
                        cases rv <;> rfl
                      rw [e9] at h9
                      exact h9)
                  · exact h.elim
              · exact absurd (v0.symm.trans h1.1) (by decide)
              · exact absurd (v0.symm.trans h1.1) (by decide)
              · exact absurd (v0.symm.trans h1.1) (by decide)
            · rw [if_neg v0] at h
              by_cases v1 : v = 1
              · rw [if_pos v1] at h
                have hlink : (Cond.methodLink (gn_nm oc) i arraycopyName).before args s = true := by
                  rcases h1 with ((h1 | h1) | h1) | h1
                  · exact absurd h1.1.1 v0
                  · exact hts _ (gn_tin (gn_sw_in _ h1.2) rfl)
                  · exact absurd (v1.symm.trans h1.1) (by decide)
                  · exact absurd (v1.symm.trans h1.1) (by decide)
                split at h
                · rename_i k dp o1 sp o0
                  split at h
                  · rename_i n0 n1 hq0 hq1
                    obtain ⟨hne, z1, z2, z3, z4, z5, hwp⟩ := h
                    have ho0 := gn_ly_lt hq0
                    have ho1 := gn_ly_lt hq1
                    have ha0 : (gn_ws cI cZ ad σ)[o0]? = some (ad o0, .inl (cI, n0, .inl (σ o0))) := by rw [gn_ws_get ho0, gn_ce_arr hq0]; rfl
                    have ha1 : (gn_ws cI cZ ad σ)[o1]? = some (ad o1, .inl (cI, n1, .inl (σ o1))) := by rw [gn_ws_get ho1, gn_ce_arr hq1]; rfl
                    have hset : (gn_ws cI cZ ad σ).set o1 (ad o1, .inl (cI, n1, .inl (va_cpy (σ o0) (σ o1) sp.toNatClampNeg dp.toNatClampNeg k.toNatClampNeg))) = gn_ws cI cZ ad (gn_upF σ o1 (va_cpy (σ o0) (σ o1) sp.toNatClampNeg dp.toNatClampNeg k.toNatClampNeg)) := gn_ws_set ho1 (by rw [gn_ce_arr hq1, gn_upF_eq]; rfl) (fun o' h' => gn_ce_ne (gn_upF_ne h'))
                    have hloc : (([] : List Value).map fun v => v.category).sum + (nativeFrameWords "java/lang/System" "arraycopy" 5 + 11) ≤ (gn_rm (d' + 1)).locals := by
                      have h9 : nativeFrameWords "java/lang/System" "arraycopy" 5 = 7 := by decide +kernel
                      rw [h9]
                      show 0 + (7 + 11) ≤ 64 * (d' + 1)
                      omega
                    exact va_copyi (rest := []) hx hb (by rw [hl.1]) hown hlink (hts _ (gn_tin gn_acn rfl)) (hts _ (gn_tin gn_acs rfl)) (hts _ (gn_tin gn_sysi rfl)) hK hP hD hS o0 o1 0 0 ha0 ha1 rfl rfl rfl z1 z2 z3 z4 z5 (fun _ _ => rfl) (Nat.succ_le_succ (Nat.zero_le _)) hloc hde (fun H1 locs1 p1 p2 p3 => ih _ _ _ _ _ _ _ hwp p e s m args below meth c hC0 H1 locs1 ls (hset ▸ p1) (hset ▸ p2) p3 hl)
                  · exact h.elim
                · exact h.elim
              · rw [if_neg v1] at h
                exact h.elim
        | ireturn =>
          simp only [Bool.and_eq_true, Bool.or_eq_true, decide_eq_true_eq] at hok
          obtain ⟨h0, h1⟩ := hok
          have hnx := Nat.eq_of_beq_eq_true h0
          subst hnx
          rw [Nat.add_sub_cancel_left] at hde
          dsimp only at h
          split at h
          · rename_i x
            obtain ⟨hty, hQ⟩ := h
            have hrt : (gn_meta.getD mi (⟨"", "", ""⟩, prog_1_method_1_code, 0, none, false, 0, 0)).2.2.2.1 = rt := by simp [List.getD, hm]
            rw [hrt] at hty
            have hq : ∀ t : State, t.heap = H → s.WarmedH t.vm → gn_Qc D cI cZ ad A Q args s (.returned (some (.int x))) t := fun t ht hW => ⟨⟨some (.int x), σ, rfl, hQ, gn_B.of ht hW hP hD hK hN⟩, hS.F ht⟩
            rcases h1 with h1 | h1
            · exact W.zret (ty := .int) hx hb (by rw [hr, h1]) rfl hq hS.2.2 hde (hlocks := hlk)
            · have h01 : x = 0 ∨ x = 1 := by
                rcases hty with hty | hty
                · rw [h1] at hty; cases hty
                · exact hty
              exact W.zret (ty := .boolean) hx hb (by rw [hr, h1]) (by rcases h01 with rfl | rfl <;> rfl) hq hS.2.2 hde (hlocks := hlk)
          · exact h.elim
        | areturn =>
          simp only [Bool.and_eq_true] at hok
          obtain ⟨h0, h1⟩ := hok
          have hnx := Nat.eq_of_beq_eq_true h0
          subst hnx
          rw [Nat.add_sub_cancel_left] at hde
          dsimp only at h
          split at h
          · rename_i o
            have hq : ∀ t : State, t.heap = H → s.WarmedH t.vm → gn_Qc D cI cZ ad A Q args s (.returned (some (.ref (ad o)))) t := fun t ht hW => ⟨⟨some (.ref o), σ, rfl, h, gn_B.of ht hW hP hD hK hN⟩, hS.F ht⟩
            split at h1
            · rename_i nm
              exact W.aret hx hb hr (Or.inl ⟨_, rfl⟩) (Or.inr ⟨_, rfl⟩) hq hS.2.2 hde (hlocks := hlk)
            · cases h1
          · exact h.elim
        | return_ =>
          simp only [Bool.and_eq_true, decide_eq_true_eq] at hok
          obtain ⟨h0, h1⟩ := hok
          have hnx := Nat.eq_of_beq_eq_true h0
          subst hnx
          rw [Nat.add_sub_cancel_left] at hde
          dsimp only at h
          split at h
          · exact W.vret hx hb (by rw [hr, h1]) (fun t ht hW => ⟨⟨none, σ, rfl, h, gn_B.of ht hW hP hD hK hN⟩, hS.F ht⟩) hS.2.2 hde (hlocks := hlk)
          · exact h.elim
        | _ => exact h.elim
end
section
/-! the pure machine's rules, without fuel -/
set_option maxHeartbeats 4000000 in
theorem gn_mono : ∀ (n N d mi pc : Nat) (lo st : List Value) (σ : gn_Mem) (Q Q' : Option Value → gn_Mem → Prop), n ≤ N → (∀ r s, Q r s → Q' r s) → gn_wp n d mi pc lo st σ Q → gn_wp N d mi pc lo st σ Q' := by
  intro n
  induction n with
  | zero => intro N d mi pc lo st σ Q Q' _ _ h; exact h.elim
  | succ n ih =>
    intro N d mi pc lo st σ Q Q' hN hQ h
    obtain ⟨N, rfl⟩ : ∃ M, N = M + 1 := ⟨N - 1, by omega⟩
    have hN : n ≤ N := by omega
    have go : ∀ {d2 mi2 pc2 : Nat} {lo2 st2 : List Value} {σ2 : gn_Mem}, gn_wp n d2 mi2 pc2 lo2 st2 σ2 Q → gn_wp N d2 mi2 pc2 lo2 st2 σ2 Q' := fun hh => ih N _ _ _ _ _ _ _ _ hN hQ hh
    unfold gn_wp at h ⊢
    cases hst : gn_stp d mi pc lo st σ with
    | some r =>
      obtain ⟨pc', lo', st', σ'⟩ := r
      rw [hst] at h
      exact go h
    | none =>
      rw [hst] at h
      dsimp only at h ⊢
      cases hcd : gn_cd mi pc with
      | none => rw [hcd] at h; exact h.elim
      | some E =>
        obtain ⟨ins, nx, a, b, v⟩ := E
        rw [hcd] at h
        dsimp only at h ⊢
        cases ins with
        | goto off => exact go h
        | ifCond c off =>
          dsimp only at h ⊢
          split at h
          · exact ⟨fun q => go (h.1 q), fun q => go (h.2 q)⟩
          · exact h.elim
        | if_icmp c off =>
          dsimp only at h ⊢
          split at h
          · exact ⟨fun q => go (h.1 q), fun q => go (h.2 q)⟩
          · exact h.elim
        | tableswitch p1 p2 p3 p4 =>
          dsimp only at h ⊢
          split at h
          · exact fun t ht => go (h t ht)
          · exact h.elim
        | lookupswitch p1 p2 =>
          dsimp only at h ⊢
          split at h
          · exact fun t ht => go (h t ht)
          · exact h.elim
        | idiv =>
          dsimp only at h ⊢
          split at h
          · exact ⟨h.1, go h.2⟩
          · exact h.elim
        | irem =>
          dsimp only at h ⊢
          split at h
          · exact ⟨h.1, go h.2⟩
          · exact h.elim
        | ldiv =>
          dsimp only at h ⊢
          split at h
          · exact ⟨h.1, go h.2⟩
          · exact h.elim
        | lrem =>
          dsimp only at h ⊢
          split at h
          · exact ⟨h.1, go h.2⟩
          · exact h.elim
        | iaload =>
          dsimp only at h ⊢
          split at h
          · try dsimp only
            split at h
            · exact ⟨h.1, go h.2⟩
            · exact h.elim
          · exact h.elim
        | baload =>
          dsimp only at h ⊢
          split at h
          · try dsimp only
            split at h
            · exact ⟨h.1, go h.2⟩
            · exact h.elim
          · exact h.elim
        | iastore =>
          dsimp only at h ⊢
          split at h
          · try dsimp only
            split at h
            · exact ⟨h.1, go h.2⟩
            · exact h.elim
          · exact h.elim
        | bastore =>
          dsimp only at h ⊢
          split at h
          · try dsimp only
            split at h
            · exact ⟨h.1, go h.2⟩
            · exact h.elim
          · exact h.elim
        | putfield i =>
          dsimp only at h ⊢
          split at h
          · exact ⟨h.1, h.2.1, go h.2.2⟩
          · obtain ⟨h1, x, h2, h3⟩ := h
            exact ⟨h1, x, h2, go h3⟩
          · exact h.elim
        | invokevirtual i =>
          dsimp only at h ⊢
          cases d with
          | zero => exact h.elim
          | succ d' =>
            dsimp only at h ⊢
            split at h
            · rename_i heq
              try rw [heq]
              exact ⟨h.1, h.2.1, h.2.2.1, ih N _ _ _ _ _ _ _ _ hN (fun r s q => go q) h.2.2.2⟩
            · exact h.elim
        | invokestatic i =>
          dsimp only at h ⊢
          cases d with
          | zero => exact h.elim
          | succ d' =>
            dsimp only at h ⊢
            by_cases v0 : v = 0
            · rw [if_pos v0] at h ⊢
              split at h
              · rename_i heq
                try rw [heq]
                exact ⟨h.1, ih N _ _ _ _ _ _ _ _ hN (fun r s q => go q) h.2⟩
              · exact h.elim
            · rw [if_neg v0] at h ⊢
              by_cases v1 : v = 1
              · rw [if_pos v1] at h ⊢
                split at h
                · try dsimp only
                  split at h
                  · rename_i h1 h2
                    try rw [h1, h2]
                    obtain ⟨z1, z2, z3, z4, z5, z6, z7⟩ := h
                    exact ⟨z1, z2, z3, z4, z5, z6, go z7⟩
                  · exact h.elim
                · exact h.elim
              · rw [if_neg v1] at h
                exact h.elim
        | ireturn =>
          dsimp only at h ⊢
          split at h
          · exact ⟨h.1, hQ _ _ h.2⟩
          · exact h.elim
        | areturn =>
          dsimp only at h ⊢
          split at h
          · exact hQ _ _ h
          · exact h.elim
        | return_ =>
          dsimp only at h ⊢
          split at h
          · exact hQ _ _ h
          · exact h.elim
        | _ => exact h.elim
theorem gn_swt_ex {mi pc nx a b : Nat} {v : Int32} {ins : Instr} (hcd : gn_cd mi pc = some (ins, nx, a, b, v)) (hi : (∃ p1 p2 p3 p4, ins = .tableswitch p1 p2 p3 p4) ∨ ∃ p1 p2, ins = .lookupswitch p1 p2) (x : Int32) : ∃ t, gn_swt pc ins x t := by
  have hok := gn_cd_ok hcd
  unfold gn_okE at hok
  cases hm : gn_meta[mi]? with
  | none => rw [hm] at hok; cases hok
  | some q =>
    obtain ⟨y, bytes, ml, rt, stt, ac, oc⟩ := q
    rw [hm] at hok
    dsimp only at hok
    rw [Bool.and_eq_true] at hok
    obtain ⟨-, hok⟩ := hok
    rcases hi with ⟨dflt, low, hi, offs, rfl⟩ | ⟨dflt, ps, rfl⟩
    · simp only [Bool.and_eq_true, decide_eq_true_eq] at hok
      obtain ⟨⟨k1, k2⟩, k3⟩ := hok
      by_cases ho : x.toInt < low ∨ hi < x.toInt
      · exact ⟨((pc : Int) + dflt).toNat, by unfold gn_swt; dsimp only; rw [if_pos ho]; exact (Int.toNat_of_nonneg k1).symm⟩
      · have hlt : (x.toInt - low).toNat < offs.size := by omega
        have hget : offs[(x.toInt - low).toNat]? = some (offs.getD (x.toInt - low).toNat 0) := by
          simp [Array.getD, hlt]
        have hmem : 0 ≤ (pc : Int) + offs.getD (x.toInt - low).toNat 0 := by
          have h1 := List.all_eq_true.mp k2 (offs.getD (x.toInt - low).toNat 0) (by
            have h2 := Array.mem_of_getElem? hget
            exact Array.mem_toList_iff.mpr h2)
          exact of_decide_eq_true h1
        exact ⟨_, by unfold gn_swt; dsimp only; rw [if_neg ho]; exact (Int.toNat_of_nonneg hmem).symm⟩
    · simp only [Bool.and_eq_true, decide_eq_true_eq] at hok
      obtain ⟨⟨k1, k2⟩, k3⟩ := hok
      have hnn : 0 ≤ (pc : Int) + Op.lookupswitch.offset ps.toList dflt x.toInt := by
        rcases gn_look_mem ps.toList dflt x.toInt with e1 | ⟨q, hq, e1⟩
        · rw [e1]; exact k2
        · rw [e1]; exact of_decide_eq_true (List.all_eq_true.mp k3 q hq)
      exact ⟨_, by unfold gn_swt; dsimp only; exact (Int.toNat_of_nonneg hnn).symm⟩
theorem gn_swt_un {pc : Nat} {ins : Instr} {x : Int32} {t u : Nat} (h1 : gn_swt pc ins x t) (h2 : gn_swt pc ins x u) : t = u := by
  unfold gn_swt at h1 h2
  split at h1 <;> first | exact h1.elim | (dsimp only at h2; rw [h1] at h2; omega)
/-- a run has one outcome -/
def gn_is (rv : Option Value) (σ' : gn_Mem) : Option Value → gn_Mem → Prop := fun r s => r = rv ∧ s = σ'
set_option maxHeartbeats 4000000 in
theorem gn_det : ∀ (n d mi pc : Nat) (lo st : List Value) (σ : gn_Mem) (Q : Option Value → gn_Mem → Prop), gn_wp n d mi pc lo st σ Q → ∃ rv σ', Q rv σ' ∧ gn_wp n d mi pc lo st σ (gn_is rv σ') := by
  intro n
  induction n with
  | zero => intro d mi pc lo st σ Q h; exact h.elim
  | succ n ih =>
    intro d mi pc lo st σ Q h
    unfold gn_wp at h ⊢
    cases hst : gn_stp d mi pc lo st σ with
    | some r =>
      obtain ⟨pc', lo', st', σ'⟩ := r
      rw [hst] at h
      exact ih _ _ _ _ _ _ _ h
    | none =>
      rw [hst] at h
      dsimp only at h ⊢
      cases hcd : gn_cd mi pc with
      | none => rw [hcd] at h; exact h.elim
      | some E =>
        obtain ⟨ins, nx, a, b, v⟩ := E
        rw [hcd] at h
        dsimp only at h ⊢
        cases ins with
        | goto off => exact ih _ _ _ _ _ _ _ h
        | ifCond c off =>
          dsimp only at h ⊢
          split at h
          · rename_i x r
            by_cases hc : gn_cmp c x 0
            · obtain ⟨rv, σ', h1, h2⟩ := ih _ _ _ _ _ _ _ (h.1 hc)
              exact ⟨rv, σ', h1, fun _ => h2, fun q => absurd hc q⟩
            · obtain ⟨rv, σ', h1, h2⟩ := ih _ _ _ _ _ _ _ (h.2 hc)
              exact ⟨rv, σ', h1, fun q => absurd q hc, fun _ => h2⟩
          · exact h.elim
        | if_icmp c off =>
          dsimp only at h ⊢
          split at h
          · rename_i y x r
            by_cases hc : gn_cmp c x y
            · obtain ⟨rv, σ', h1, h2⟩ := ih _ _ _ _ _ _ _ (h.1 hc)
              exact ⟨rv, σ', h1, fun _ => h2, fun q => absurd hc q⟩
            · obtain ⟨rv, σ', h1, h2⟩ := ih _ _ _ _ _ _ _ (h.2 hc)
              exact ⟨rv, σ', h1, fun q => absurd q hc, fun _ => h2⟩
          · exact h.elim
        | tableswitch p1 p2 p3 p4 =>
          dsimp only at h ⊢
          split at h
          · rename_i x r
            obtain ⟨t, ht⟩ := gn_swt_ex hcd (Or.inl ⟨_, _, _, _, rfl⟩) x
            obtain ⟨rv, σ', h1, h2⟩ := ih _ _ _ _ _ _ _ (h t ht)
            exact ⟨rv, σ', h1, fun u hu => gn_swt_un ht hu ▸ h2⟩
          · exact h.elim
        | lookupswitch p1 p2 =>
          dsimp only at h ⊢
          split at h
          · rename_i x r
            obtain ⟨t, ht⟩ := gn_swt_ex hcd (Or.inr ⟨_, _, rfl⟩) x
            obtain ⟨rv, σ', h1, h2⟩ := ih _ _ _ _ _ _ _ (h t ht)
            exact ⟨rv, σ', h1, fun u hu => gn_swt_un ht hu ▸ h2⟩
          · exact h.elim
        | idiv =>
          dsimp only at h ⊢
          split at h
          · obtain ⟨rv, σ', h1, h2⟩ := ih _ _ _ _ _ _ _ h.2
            exact ⟨rv, σ', h1, h.1, h2⟩
          · exact h.elim
        | irem =>
          dsimp only at h ⊢
          split at h
          · obtain ⟨rv, σ', h1, h2⟩ := ih _ _ _ _ _ _ _ h.2
            exact ⟨rv, σ', h1, h.1, h2⟩
          · exact h.elim
        | ldiv =>
          dsimp only at h ⊢
          split at h
          · obtain ⟨rv, σ', h1, h2⟩ := ih _ _ _ _ _ _ _ h.2
            exact ⟨rv, σ', h1, h.1, h2⟩
          · exact h.elim
        | lrem =>
          dsimp only at h ⊢
          split at h
          · obtain ⟨rv, σ', h1, h2⟩ := ih _ _ _ _ _ _ _ h.2
            exact ⟨rv, σ', h1, h.1, h2⟩
          · exact h.elim
        | iaload =>
          dsimp only at h ⊢
          split at h
          · try dsimp only
            split at h
            · rename_i heq; try rw [heq]
              obtain ⟨rv, σ', h1, h2⟩ := ih _ _ _ _ _ _ _ h.2
              exact ⟨rv, σ', h1, h.1, h2⟩
            · exact h.elim
          · exact h.elim
        | baload =>
          dsimp only at h ⊢
          split at h
          · try dsimp only
            split at h
            · rename_i heq; try rw [heq]
              obtain ⟨rv, σ', h1, h2⟩ := ih _ _ _ _ _ _ _ h.2
              exact ⟨rv, σ', h1, h.1, h2⟩
            · exact h.elim
          · exact h.elim
        | iastore =>
          dsimp only at h ⊢
          split at h
          · try dsimp only
            split at h
            · rename_i heq; try rw [heq]
              obtain ⟨rv, σ', h1, h2⟩ := ih _ _ _ _ _ _ _ h.2
              exact ⟨rv, σ', h1, h.1, h2⟩
            · exact h.elim
          · exact h.elim
        | bastore =>
          dsimp only at h ⊢
          split at h
          · try dsimp only
            split at h
            · rename_i heq; try rw [heq]
              obtain ⟨rv, σ', h1, h2⟩ := ih _ _ _ _ _ _ _ h.2
              exact ⟨rv, σ', h1, h.1, h2⟩
            · exact h.elim
          · exact h.elim
        | putfield i =>
          dsimp only at h ⊢
          split at h
          · obtain ⟨rv, σ', h1, h2⟩ := ih _ _ _ _ _ _ _ h.2.2
            exact ⟨rv, σ', h1, h.1, h.2.1, h2⟩
          · obtain ⟨h1, x, h2, h3⟩ := h
            obtain ⟨rv, σ', q1, q2⟩ := ih _ _ _ _ _ _ _ h3
            exact ⟨rv, σ', q1, h1, x, h2, q2⟩
          · exact h.elim
        | invokevirtual i =>
          dsimp only at h ⊢
          cases d with
          | zero => exact h.elim
          | succ d' =>
            dsimp only at h ⊢
            split at h
            · rename_i heq
              try rw [heq]
              obtain ⟨rv, σ', h1, h2⟩ := ih _ _ _ _ _ _ _ h.2.2.2
              obtain ⟨rv2, σ2, q1, q2⟩ := ih _ _ _ _ _ _ _ h1
              exact ⟨rv2, σ2, q1, h.1, h.2.1, h.2.2.1, gn_mono _ _ _ _ _ _ _ _ _ _ (Nat.le_refl _) (fun r s e => by obtain ⟨rfl, rfl⟩ := e; exact q2) h2⟩
            · exact h.elim
        | invokestatic i =>
          dsimp only at h ⊢
          cases d with
          | zero => exact h.elim
          | succ d' =>
            dsimp only at h ⊢
            by_cases v0 : v = 0
            · rw [if_pos v0] at h
              simp only [if_pos v0]
              split at h
              · rename_i heq
                try rw [heq]
                obtain ⟨rv, σ', h1, h2⟩ := ih _ _ _ _ _ _ _ h.2
                obtain ⟨rv2, σ2, q1, q2⟩ := ih _ _ _ _ _ _ _ h1
                exact ⟨rv2, σ2, q1, h.1, gn_mono _ _ _ _ _ _ _ _ _ _ (Nat.le_refl _) (fun r s e => by obtain ⟨rfl, rfl⟩ := e; exact q2) h2⟩
              · exact h.elim
            · rw [if_neg v0] at h
              simp only [if_neg v0]
              by_cases v1 : v = 1
              · rw [if_pos v1] at h
                simp only [if_pos v1]
                split at h
                · try dsimp only
                  split at h
                  · rename_i h1 h2
                    try rw [h1, h2]
                    obtain ⟨z1, z2, z3, z4, z5, z6, z7⟩ := h
                    obtain ⟨rv, σ', q1, q2⟩ := ih _ _ _ _ _ _ _ z7
                    exact ⟨rv, σ', q1, z1, z2, z3, z4, z5, z6, q2⟩
                  · exact h.elim
                · exact h.elim
              · rw [if_neg v1] at h
                exact h.elim
        | ireturn =>
          dsimp only at h ⊢
          split at h
          · exact ⟨_, _, h.2, h.1, rfl, rfl⟩
          · exact h.elim
        | areturn =>
          dsimp only at h ⊢
          split at h
          · exact ⟨_, _, h, rfl, rfl⟩
          · exact h.elim
        | return_ =>
          dsimp only at h ⊢
          split at h
          · exact ⟨_, _, h, rfl, rfl⟩
          · exact h.elim
        | _ => exact h.elim
end
section
/-! the rules of gn_W -/
def gn_W (d mi pc : Nat) (lo st : List Value) (σ : gn_Mem) (Q : Option Value → gn_Mem → Prop) : Prop := ∃ n, gn_wp n d mi pc lo st σ Q
theorem gw_mono {d mi pc : Nat} {lo st : List Value} {σ : gn_Mem} {Q Q' : Option Value → gn_Mem → Prop} (h : gn_W d mi pc lo st σ Q) (hQ : ∀ r s, Q r s → Q' r s) : gn_W d mi pc lo st σ Q' := by
  obtain ⟨n, h⟩ := h
  exact ⟨n, gn_mono n n _ _ _ _ _ _ _ _ (Nat.le_refl _) hQ h⟩
theorem gw_stp {d mi pc : Nat} {lo st : List Value} {σ : gn_Mem} {Q : Option Value → gn_Mem → Prop} {pc' : Nat} {lo' st' : List Value} {σ' : gn_Mem} (h : gn_stp d mi pc lo st σ = some (pc', lo', st', σ')) (k : gn_W d mi pc' lo' st' σ' Q) : gn_W d mi pc lo st σ Q := by
  obtain ⟨n, k⟩ := k
  refine ⟨n + 1, ?_⟩
  unfold gn_wp
  rw [h]
  exact k
/-- simple steps, until one isn't simple, or the place 'stop' is reached (at most k) -/
noncomputable def gn_run (stop d mi : Nat) (k : Nat) : Nat → List Value → List Value → gn_Mem → Option (Nat × List Value × List Value × gn_Mem) :=
  Nat.rec (fun pc lo st σ => some (pc, lo, st, σ)) (fun _ ih pc lo st σ => match gn_stp d mi pc lo st σ with
    | some (pc', lo', st', σ') => bif Nat.beq pc' stop then some (pc', lo', st', σ') else ih pc' lo' st' σ'
    | none => some (pc, lo, st, σ)) k
theorem gw_run (stop k : Nat) {d mi pc : Nat} {lo st : List Value} {σ : gn_Mem} {Q : Option Value → gn_Mem → Prop} {pc' : Nat} {lo' st' : List Value} {σ' : gn_Mem} (h : gn_run stop d mi k pc lo st σ = some (pc', lo', st', σ')) (kk : gn_W d mi pc' lo' st' σ' Q) : gn_W d mi pc lo st σ Q := by
  induction k generalizing pc lo st σ with
  | zero => cases h; exact kk
  | succ k ih =>
    have e : gn_run stop d mi (k + 1) pc lo st σ = (match gn_stp d mi pc lo st σ with
      | some (pc', lo', st', σ') => bif Nat.beq pc' stop then some (pc', lo', st', σ') else gn_run stop d mi k pc' lo' st' σ'
      | none => some (pc, lo, st, σ)) := rfl
    rw [e] at h
    cases hst : gn_stp d mi pc lo st σ with
    | none => rw [hst] at h; cases h; exact kk
    | some r =>
      obtain ⟨p1, l1, s1, m1⟩ := r
      rw [hst] at h
      dsimp only at h
      refine gw_stp hst ?_
      cases hb : Nat.beq p1 stop with
      | true => rw [hb] at h; cases h; exact kk
      | false => rw [hb] at h; exact ih h
theorem gn_stp_none {d mi pc nx a b : Nat} {v : Int32} {ins : Instr} {lo st : List Value} {σ : gn_Mem} (hcd : gn_cd mi pc = some (ins, nx, a, b, v)) (hi : (match ins with
    | .goto _ => true | .ifCond _ _ => true | .if_icmp _ _ => true | .tableswitch _ _ _ _ => true | .lookupswitch _ _ => true | .idiv => true | .irem => true | .ldiv => true | .lrem => true | .iaload => true | .baload => true | .iastore => true | .bastore => true | .invokevirtual _ => true | .ireturn => true | .areturn => true | .return_ => true | _ => false) = true) : gn_stp d mi pc lo st σ = none := by
  unfold gn_stp
  rw [hcd]
  cases ins <;> first | rfl | cases hi
section
variable {d mi pc nx a b : Nat} {v : Int32} {lo st r : List Value} {σ : gn_Mem} {Q : Option Value → gn_Mem → Prop}
theorem gw_goto {off : Int} (hcd : gn_cd mi pc = some (.goto off, nx, a, b, v)) (k : gn_W d mi a lo st σ Q) : gn_W d mi pc lo st σ Q := by
  obtain ⟨n, k⟩ := k
  refine ⟨n + 1, ?_⟩
  unfold gn_wp
  rw [gn_stp_none hcd rfl, hcd]
  exact k
theorem gw_if {c : ClassFile.Cond} {off : Int} {x : Int32} (hcd : gn_cd mi pc = some (.ifCond c off, nx, a, b, v)) (kt : gn_cmp c x 0 → gn_W d mi a lo r σ Q) (kf : ¬ gn_cmp c x 0 → gn_W d mi nx lo r σ Q) : gn_W d mi pc lo (.int x :: r) σ Q := by
  by_cases h : gn_cmp c x 0
  · obtain ⟨n, k⟩ := kt h
    refine ⟨n + 1, ?_⟩
    unfold gn_wp
    rw [gn_stp_none hcd rfl, hcd]
    exact ⟨fun _ => k, fun q => absurd h q⟩
  · obtain ⟨n, k⟩ := kf h
    refine ⟨n + 1, ?_⟩
    unfold gn_wp
    rw [gn_stp_none hcd rfl, hcd]
    exact ⟨fun q => absurd q h, fun _ => k⟩
theorem gw_icmp {c : ClassFile.Cond} {off : Int} {x y : Int32} (hcd : gn_cd mi pc = some (.if_icmp c off, nx, a, b, v)) (kt : gn_cmp c x y → gn_W d mi a lo r σ Q) (kf : ¬ gn_cmp c x y → gn_W d mi nx lo r σ Q) : gn_W d mi pc lo (.int y :: .int x :: r) σ Q := by
  by_cases h : gn_cmp c x y
  · obtain ⟨n, k⟩ := kt h
    refine ⟨n + 1, ?_⟩
    unfold gn_wp
    rw [gn_stp_none hcd rfl, hcd]
    exact ⟨fun _ => k, fun q => absurd h q⟩
  · obtain ⟨n, k⟩ := kf h
    refine ⟨n + 1, ?_⟩
    unfold gn_wp
    rw [gn_stp_none hcd rfl, hcd]
    exact ⟨fun q => absurd q h, fun _ => k⟩
theorem gw_tsw {p1 p2 p3 : Int} {p4 : Array Int} {x : Int32} (hcd : gn_cd mi pc = some (.tableswitch p1 p2 p3 p4, nx, a, b, v)) (t : Nat) (ht : (pc : Int) + (if x.toInt < p2 ∨ p3 < x.toInt then p1 else p4.getD (x.toInt - p2).toNat 0) = (t : Int)) (k : gn_W d mi t lo r σ Q) : gn_W d mi pc lo (.int x :: r) σ Q := by
  obtain ⟨n, k⟩ := k
  refine ⟨n + 1, ?_⟩
  unfold gn_wp
  rw [gn_stp_none hcd rfl, hcd]
  exact fun u hu => gn_swt_un (ins := .tableswitch p1 p2 p3 p4) (x := x) (pc := pc) ht hu ▸ k
theorem gw_lsw {p1 : Int} {p2 : Array (Int × Int)} {x : Int32} (hcd : gn_cd mi pc = some (.lookupswitch p1 p2, nx, a, b, v)) (t : Nat) (ht : (pc : Int) + Op.lookupswitch.offset p2.toList p1 x.toInt = (t : Int)) (k : gn_W d mi t lo r σ Q) : gn_W d mi pc lo (.int x :: r) σ Q := by
  obtain ⟨n, k⟩ := k
  refine ⟨n + 1, ?_⟩
  unfold gn_wp
  rw [gn_stp_none hcd rfl, hcd]
  exact fun u hu => gn_swt_un (ins := .lookupswitch p1 p2) (x := x) (pc := pc) ht hu ▸ k
theorem gw_idiv {x y : Int32} (hcd : gn_cd mi pc = some (.idiv, nx, a, b, v)) (h : ¬ y = 0) (k : gn_W d mi nx lo (.int (x / y) :: r) σ Q) : gn_W d mi pc lo (.int y :: .int x :: r) σ Q := by
  obtain ⟨n, k⟩ := k
  refine ⟨n + 1, ?_⟩
  unfold gn_wp
  rw [gn_stp_none hcd rfl, hcd]
  exact ⟨h, k⟩
theorem gw_irem {x y : Int32} (hcd : gn_cd mi pc = some (.irem, nx, a, b, v)) (h : ¬ y = 0) (k : gn_W d mi nx lo (.int (x - x / y * y) :: r) σ Q) : gn_W d mi pc lo (.int y :: .int x :: r) σ Q := by
  obtain ⟨n, k⟩ := k
  refine ⟨n + 1, ?_⟩
  unfold gn_wp
  rw [gn_stp_none hcd rfl, hcd]
  exact ⟨h, k⟩
theorem gw_ldiv {x y : Int64} (hcd : gn_cd mi pc = some (.ldiv, nx, a, b, v)) (h : ¬ y = 0) (k : gn_W d mi nx lo (.long (x / y) :: r) σ Q) : gn_W d mi pc lo (.long y :: .long x :: r) σ Q := by
  obtain ⟨n, k⟩ := k
  refine ⟨n + 1, ?_⟩
  unfold gn_wp
  rw [gn_stp_none hcd rfl, hcd]
  exact ⟨h, k⟩
theorem gw_lrem {x y : Int64} (hcd : gn_cd mi pc = some (.lrem, nx, a, b, v)) (h : ¬ y = 0) (k : gn_W d mi nx lo (.long (x - x / y * y) :: r) σ Q) : gn_W d mi pc lo (.long y :: .long x :: r) σ Q := by
  obtain ⟨n, k⟩ := k
  refine ⟨n + 1, ?_⟩
  unfold gn_wp
  rw [gn_stp_none hcd rfl, hcd]
  exact ⟨h, k⟩
theorem gw_iald {o len : Nat} {i : Int32} (hcd : gn_cd mi pc = some (.iaload, nx, a, b, v)) (hl : gn_ly o = .inl (false, len)) (hi : vp_in i len) (k : gn_W d mi nx lo (.int (σ o i.toNatClampNeg) :: r) σ Q) : gn_W d mi pc lo (.int i :: .ref o :: r) σ Q := by
  obtain ⟨n, k⟩ := k
  refine ⟨n + 1, ?_⟩
  unfold gn_wp
  rw [gn_stp_none hcd rfl, hcd]
  dsimp only
  rw [hl]
  exact ⟨hi, k⟩
theorem gw_bald {o len : Nat} {i : Int32} (hcd : gn_cd mi pc = some (.baload, nx, a, b, v)) (hl : gn_ly o = .inl (true, len)) (hi : vp_in i len) (k : gn_W d mi nx lo (.int (σ o i.toNatClampNeg) :: r) σ Q) : gn_W d mi pc lo (.int i :: .ref o :: r) σ Q := by
  obtain ⟨n, k⟩ := k
  refine ⟨n + 1, ?_⟩
  unfold gn_wp
  rw [gn_stp_none hcd rfl, hcd]
  dsimp only
  rw [hl]
  exact ⟨hi, k⟩
theorem gw_iast {o len : Nat} {i x : Int32} (hcd : gn_cd mi pc = some (.iastore, nx, a, b, v)) (hl : gn_ly o = .inl (false, len)) (hi : vp_in i len) (k : gn_W d mi nx lo r (gn_up σ o i.toNatClampNeg x) Q) : gn_W d mi pc lo (.int x :: .int i :: .ref o :: r) σ Q := by
  obtain ⟨n, k⟩ := k
  refine ⟨n + 1, ?_⟩
  unfold gn_wp
  rw [gn_stp_none hcd rfl, hcd]
  dsimp only
  rw [hl]
  exact ⟨hi, k⟩
theorem gw_bast {o len : Nat} {i x : Int32} (hcd : gn_cd mi pc = some (.bastore, nx, a, b, v)) (hl : gn_ly o = .inl (true, len)) (hi : vp_in i len) (k : gn_W d mi nx lo r (gn_up σ o i.toNatClampNeg (vp_nar .boolean x)) Q) : gn_W d mi pc lo (.int x :: .int i :: .ref o :: r) σ Q := by
  obtain ⟨n, k⟩ := k
  refine ⟨n + 1, ?_⟩
  unfold gn_wp
  rw [gn_stp_none hcd rfl, hcd]
  dsimp only
  rw [hl]
  exact ⟨hi, k⟩
theorem gw_putb {o i : Nat} {x : Int32} (hcd : gn_cd mi pc = some (.putfield i, nx, a, b, v)) (h0 : gn_isS 0 o a b = false) (hs : gn_isS 2 o a b = true) (hx : x = 0 ∨ x = 1) (k : gn_W d mi nx lo r (gn_up σ o b x) Q) : gn_W d mi pc lo (.int x :: .ref o :: r) σ Q := by
  obtain ⟨n, k⟩ := k
  refine ⟨n + 1, ?_⟩
  have e : gn_stp d mi pc lo (.int x :: .ref o :: r) σ = none := by
    unfold gn_stp
    rw [hcd]
    dsimp only
    rw [h0]
    rfl
  unfold gn_wp
  rw [e, hcd]
  exact ⟨hs, hx, k⟩
theorem gw_putd {o i t : Nat} {x : Int32} (hcd : gn_cd mi pc = some (.putfield i, nx, a, b, v)) (hs : gn_isS 1 o a b = true) (hx : gn_dyn x = t) (k : gn_W d mi nx lo r (gn_up σ o b x) Q) : gn_W d mi pc lo (.ref t :: .ref o :: r) σ Q := by
  obtain ⟨n, k⟩ := k
  refine ⟨n + 1, ?_⟩
  have e : gn_stp d mi pc lo (.ref t :: .ref o :: r) σ = none := by
    unfold gn_stp
    rw [hcd]
  unfold gn_wp
  rw [e, hcd]
  exact ⟨hs, x, hx, k⟩
/-- the field that is one of the two tables -/
theorem gw_getd {o i t : Nat} (hcd : gn_cd mi pc = some (.getfield i, nx, a, b, v)) (hf : gn_fld σ o a b = some (.ref (gn_dyn (σ o b)))) (ht : gn_dyn (σ o b) = t) (k : gn_W d mi nx lo (.ref t :: r) σ Q) : gn_W d mi pc lo (.ref o :: r) σ Q := by
  refine gw_stp (pc' := nx) (lo' := lo) (st' := .ref t :: r) (σ' := σ) ?_ k
  unfold gn_stp
  rw [hcd]
  dsimp only
  rw [hf, ht]
theorem gw_callv {o i : Nat} {as : List Value} (hcd : gn_cd mi pc = some (.invokevirtual i, nx, a, b, v)) (hp : gn_pop b [] st = some (as, .ref o :: r)) (ho : Nat.blt o gn_NO = true) (hcs : gn_cs r = true) (hcl : gn_nm (gn_oc o) = (gn_y a).cls) (k : gn_W d a 0 (.ref o :: as) [] σ (fun rv σ' => gn_W (d + 1) mi nx lo (rv.toList ++ r) σ' Q)) : gn_W (d + 1) mi pc lo st σ Q := by
  obtain ⟨n, k⟩ := k
  obtain ⟨rv, σ', ⟨n2, k2⟩, k1⟩ := gn_det _ _ _ _ _ _ _ _ k
  refine ⟨max n n2 + 1, ?_⟩
  unfold gn_wp
  rw [gn_stp_none hcd rfl, hcd]
  dsimp only
  rw [hp]
  refine ⟨Nat.le_of_ble_eq_true ho, hcs, hcl, gn_mono n (max n n2) _ _ _ _ _ _ _ _ (Nat.le_max_left _ _) ?_ k1⟩
  intro r2 s2 e
  obtain ⟨rfl, rfl⟩ := e
  exact gn_mono n2 (max n n2) _ _ _ _ _ _ _ _ (Nat.le_max_right _ _) (fun _ _ q => q) k2
theorem gn_stp_st {i : Nat} {d mi pc : Nat} {lo st : List Value} {σ : gn_Mem} (hcd : gn_cd mi pc = some (.invokestatic i, nx, a, b, v)) (h2 : ¬ v = 2) (h3 : ¬ v = 3) : gn_stp d mi pc lo st σ = none := by
  unfold gn_stp
  rw [hcd]
  dsimp only
  cases d with
  | zero => rfl
  | succ d' =>
    dsimp only
    split
    · rw [if_neg h2, if_neg h3]
      rename_i r
      cases gn_cs r <;> rfl
    · rfl
theorem gw_calls {i : Nat} {as : List Value} (hcd : gn_cd mi pc = some (.invokestatic i, nx, a, b, 0)) (hp : gn_pop b [] st = some (as, r)) (hcs : gn_cs r = true) (k : gn_W d a 0 as [] σ (fun rv σ' => gn_W (d + 1) mi nx lo (rv.toList ++ r) σ' Q)) : gn_W (d + 1) mi pc lo st σ Q := by
  obtain ⟨n, k⟩ := k
  obtain ⟨rv, σ', ⟨n2, k2⟩, k1⟩ := gn_det _ _ _ _ _ _ _ _ k
  refine ⟨max n n2 + 1, ?_⟩
  unfold gn_wp
  rw [gn_stp_st hcd (by decide) (by decide), hcd]
  dsimp only
  rw [if_pos rfl, hp]
  refine ⟨hcs, gn_mono n (max n n2) _ _ _ _ _ _ _ _ (Nat.le_max_left _ _) ?_ k1⟩
  intro r2 s2 e
  obtain ⟨rfl, rfl⟩ := e
  exact gn_mono n2 (max n n2) _ _ _ _ _ _ _ _ (Nat.le_max_right _ _) (fun _ _ q => q) k2
theorem gw_copy {i o0 o1 n0 n1 : Nat} {k dp sp : Int32} (hcd : gn_cd mi pc = some (.invokestatic i, nx, a, b, 1)) (h0 : gn_ly o0 = .inl (false, n0)) (h1 : gn_ly o1 = .inl (false, n1)) (hne : Nat.beq o0 o1 = false) (z1 : ¬ sp < 0) (z2 : ¬ dp < 0) (z3 : ¬ k < 0) (z4 : sp.toNatClampNeg + k.toNatClampNeg ≤ n0) (z5 : dp.toNatClampNeg + k.toNatClampNeg ≤ n1) (kk : gn_W (d + 1) mi nx lo [] (gn_upF σ o1 (va_cpy (σ o0) (σ o1) sp.toNatClampNeg dp.toNatClampNeg k.toNatClampNeg)) Q) : gn_W (d + 1) mi pc lo [.int k, .int dp, .ref o1, .int sp, .ref o0] σ Q := by
  obtain ⟨n, kk⟩ := kk
  refine ⟨n + 1, ?_⟩
  unfold gn_wp
  rw [gn_stp_st hcd (by decide) (by decide), hcd]
  dsimp only
  rw [if_neg (by decide), if_pos rfl, h0, h1]
  exact ⟨(fun e => by rw [e, Nat.beq_refl] at hne; cases hne), z1, z2, z3, z4, z5, kk⟩
theorem gw_iret {x : Int32} (hcd : gn_cd mi pc = some (.ireturn, nx, a, b, v)) (ht : (gn_meta.getD mi (⟨"", "", ""⟩, prog_1_method_1_code, 0, none, false, 0, 0)).2.2.2.1 = some .int) (k : Q (some (.int x)) σ) : gn_W d mi pc lo [.int x] σ Q := by
  refine ⟨1, ?_⟩
  unfold gn_wp
  rw [gn_stp_none hcd rfl, hcd]
  exact ⟨Or.inl ht, k⟩
theorem gw_zret {x : Int32} (hcd : gn_cd mi pc = some (.ireturn, nx, a, b, v)) (ht : x = 0 ∨ x = 1) (k : Q (some (.int x)) σ) : gn_W d mi pc lo [.int x] σ Q := by
  refine ⟨1, ?_⟩
  unfold gn_wp
  rw [gn_stp_none hcd rfl, hcd]
  exact ⟨Or.inr ht, k⟩
theorem gw_aret {o : Nat} (hcd : gn_cd mi pc = some (.areturn, nx, a, b, v)) (k : Q (some (.ref o)) σ) : gn_W d mi pc lo [.ref o] σ Q := by
  refine ⟨1, ?_⟩
  unfold gn_wp
  rw [gn_stp_none hcd rfl, hcd]
  exact k
theorem gw_vret (hcd : gn_cd mi pc = some (.return_, nx, a, b, v)) (k : Q none σ) : gn_W d mi pc lo [] σ Q := by
  refine ⟨1, ?_⟩
  unfold gn_wp
  rw [gn_stp_none hcd rfl, hcd]
  exact k
end
end
section
/-! a method's class and whether it answers an int, by a tree: printed by wip/whole/gen/tables.py -/
noncomputable def gn_mcl (mi : Nat) : Nat := bif Nat.blt mi 102 then (bif Nat.blt mi 51 then (bif Nat.blt mi 25 then (bif Nat.blt mi 12 then (bif Nat.blt mi 6 then (bif Nat.blt mi 3 then (bif Nat.blt mi 1 then (0) else (bif Nat.blt mi 2 then (0) else (1))) else (bif Nat.blt mi 4 then (1) else (2))) else (bif Nat.blt mi 9 then (2) else (bif Nat.blt mi 10 then (3) else (bif Nat.blt mi 11 then (3) else (4))))) else (4)) else (bif Nat.blt mi 38 then (4) else (bif Nat.blt mi 44 then (bif Nat.blt mi 41 then (4) else (5)) else (bif Nat.blt mi 47 then (bif Nat.blt mi 45 then (6) else (7)) else (bif Nat.blt mi 49 then (7) else (bif Nat.blt mi 50 then (7) else (8))))))) else (bif Nat.blt mi 76 then (bif Nat.blt mi 63 then (8) else (9)) else (bif Nat.blt mi 89 then (bif Nat.blt mi 82 then (9) else (bif Nat.blt mi 85 then (9) else (bif Nat.blt mi 87 then (9) else (bif Nat.blt mi 88 then (9) else (10))))) else (bif Nat.blt mi 95 then (bif Nat.blt mi 92 then (10) else (11)) else (11))))) else (bif Nat.blt mi 153 then (bif Nat.blt mi 127 then (11) else (bif Nat.blt mi 140 then (bif Nat.blt mi 133 then (bif Nat.blt mi 130 then (11) else (12)) else (12)) else (12))) else (bif Nat.blt mi 179 then (12) else (bif Nat.blt mi 192 then (12) else (bif Nat.blt mi 198 then (12) else (bif Nat.blt mi 201 then (12) else (bif Nat.blt mi 203 then (12) else (bif Nat.blt mi 204 then (12) else (13))))))))
noncomputable def gn_mri (mi : Nat) : Bool := bif Nat.blt mi 102 then (bif Nat.blt mi 51 then (bif Nat.blt mi 25 then (bif Nat.blt mi 12 then (bif Nat.blt mi 6 then (bif Nat.blt mi 3 then (bif Nat.blt mi 1 then (false) else (true)) else (bif Nat.blt mi 4 then (false) else (bif Nat.blt mi 5 then (false) else (true)))) else (bif Nat.blt mi 9 then (bif Nat.blt mi 7 then (false) else (true)) else (false))) else (bif Nat.blt mi 18 then (bif Nat.blt mi 15 then (false) else (true)) else (true))) else (bif Nat.blt mi 38 then (bif Nat.blt mi 31 then (bif Nat.blt mi 28 then (bif Nat.blt mi 26 then (false) else (bif Nat.blt mi 27 then (true) else (false))) else (bif Nat.blt mi 29 then (true) else (false))) else (bif Nat.blt mi 34 then (true) else (bif Nat.blt mi 36 then (false) else (bif Nat.blt mi 37 then (false) else (true))))) else (bif Nat.blt mi 44 then (bif Nat.blt mi 41 then (true) else (false)) else (bif Nat.blt mi 47 then (false) else (bif Nat.blt mi 49 then (false) else (bif Nat.blt mi 50 then (true) else (false))))))) else (bif Nat.blt mi 76 then (bif Nat.blt mi 63 then (bif Nat.blt mi 57 then (false) else (bif Nat.blt mi 60 then (bif Nat.blt mi 58 then (false) else (true)) else (bif Nat.blt mi 61 then (true) else (false)))) else (bif Nat.blt mi 69 then (false) else (bif Nat.blt mi 72 then (bif Nat.blt mi 70 then (false) else (true)) else (true)))) else (bif Nat.blt mi 89 then (bif Nat.blt mi 82 then (bif Nat.blt mi 79 then (bif Nat.blt mi 77 then (false) else (true)) else (true)) else (bif Nat.blt mi 85 then (bif Nat.blt mi 83 then (true) else (bif Nat.blt mi 84 then (true) else (false))) else (bif Nat.blt mi 87 then (true) else (bif Nat.blt mi 88 then (true) else (false))))) else (bif Nat.blt mi 95 then (bif Nat.blt mi 92 then (bif Nat.blt mi 90 then (true) else (bif Nat.blt mi 91 then (true) else (false))) else (true)) else (true))))) else (bif Nat.blt mi 153 then (bif Nat.blt mi 127 then (bif Nat.blt mi 114 then (true) else (bif Nat.blt mi 120 then (true) else (bif Nat.blt mi 123 then (true) else (bif Nat.blt mi 125 then (bif Nat.blt mi 124 then (true) else (false)) else (false))))) else (bif Nat.blt mi 140 then (bif Nat.blt mi 133 then (bif Nat.blt mi 130 then (bif Nat.blt mi 128 then (false) else (bif Nat.blt mi 129 then (false) else (true))) else (false)) else (bif Nat.blt mi 136 then (bif Nat.blt mi 134 then (false) else (bif Nat.blt mi 135 then (false) else (true))) else (bif Nat.blt mi 138 then (false) else (true)))) else (bif Nat.blt mi 146 then (bif Nat.blt mi 143 then (false) else (bif Nat.blt mi 144 then (false) else (bif Nat.blt mi 145 then (true) else (false)))) else (bif Nat.blt mi 149 then (bif Nat.blt mi 147 then (false) else (true)) else (true))))) else (bif Nat.blt mi 179 then (bif Nat.blt mi 166 then (bif Nat.blt mi 159 then (true) else (bif Nat.blt mi 162 then (true) else (bif Nat.blt mi 164 then (bif Nat.blt mi 163 then (true) else (false)) else (bif Nat.blt mi 165 then (true) else (false))))) else (bif Nat.blt mi 172 then (bif Nat.blt mi 169 then (bif Nat.blt mi 167 then (false) else (true)) else (true)) else (bif Nat.blt mi 175 then (bif Nat.blt mi 173 then (true) else (bif Nat.blt mi 174 then (false) else (true))) else (bif Nat.blt mi 177 then (true) else (bif Nat.blt mi 178 then (true) else (false)))))) else (bif Nat.blt mi 192 then (bif Nat.blt mi 185 then (true) else (bif Nat.blt mi 188 then (true) else (bif Nat.blt mi 190 then (bif Nat.blt mi 189 then (false) else (true)) else (true)))) else (true))))
set_option maxRecDepth 100000 in
theorem gn_mcl_ok : ∀ mi, mi < 205 → (gn_y mi).cls = gn_nm (gn_mcl mi) := by decide +kernel
set_option maxRecDepth 100000 in
theorem gn_mri_ok : ∀ mi, mi < 205 → gn_mri mi = true → (gn_meta.getD mi (⟨"", "", ""⟩, prog_1_method_1_code, 0, none, false, 0, 0)).2.2.2.1 = some .int := by decide +kernel
section
variable {d mi pc nx a b : Nat} {v : Int32} {lo st r : List Value} {σ : gn_Mem} {Q : Option Value → gn_Mem → Prop}
/-- a call of an object's method -/
theorem gx_call {o i : Nat} {as : List Value} (hcd : gn_cd mi pc = some (.invokevirtual i, nx, a, b, v)) (hp : gn_pop b [] st = some (as, .ref o :: r)) (ho : (Nat.blt o gn_NO && gn_cs r && Nat.blt a 205 && Nat.beq (gn_oc o) (gn_mcl a)) = true) (k : gn_W d a 0 (.ref o :: as) [] σ (fun rv σ' => gn_W (d + 1) mi nx lo (rv.toList ++ r) σ' Q)) : gn_W (d + 1) mi pc lo st σ Q := by
  simp only [Bool.and_eq_true] at ho
  refine gw_callv hcd hp ho.1.1.1 ho.1.1.2 ?_ k
  rw [gn_mcl_ok a (Nat.le_of_ble_eq_true ho.1.2), Nat.eq_of_beq_eq_true ho.2]
theorem gx_iret {x : Int32} (hcd : gn_cd mi pc = some (.ireturn, nx, a, b, v)) (ht : (Nat.blt mi 205 && gn_mri mi) = true) (k : Q (some (.int x)) σ) : gn_W d mi pc lo [.int x] σ Q := by
  simp only [Bool.and_eq_true] at ht
  exact gw_iret hcd (gn_mri_ok mi (Nat.le_of_ble_eq_true ht.1) ht.2) k
/-- at least one simple step -/
theorem gx_run (stop k : Nat) {pc' : Nat} {lo' st' : List Value} {σ' : gn_Mem} (h : (match gn_stp d mi pc lo st σ with
    | none => none
    | some (p1, l1, s1, m1) => bif Nat.beq p1 stop then some (p1, l1, s1, m1) else gn_run stop d mi k p1 l1 s1 m1) = some (pc', lo', st', σ')) (kk : gn_W d mi pc' lo' st' σ' Q) : gn_W d mi pc lo st σ Q := by
  cases hst : gn_stp d mi pc lo st σ with
  | none => rw [hst] at h; cases h
  | some q =>
    obtain ⟨p1, l1, s1, m1⟩ := q
    rw [hst] at h
    dsimp only at h
    refine gw_stp hst ?_
    cases hb : Nat.beq p1 stop with
    | true => rw [hb] at h; cases h; exact kk
    | false => rw [hb] at h; exact gw_run stop k h kk
/-- a jump ahead -/
theorem gx_goto {off : Int} (hcd : gn_cd mi pc = some (.goto off, nx, a, b, v)) (hf : Nat.blt pc a = true) (k : gn_W d mi a lo st σ Q) : gn_W d mi pc lo st σ Q := gw_goto hcd k
end
end
section
/-! locals that nobody reads may be forgotten -/
def gn_le (lo lo' : List Value) : Prop := ∀ i, gn_at lo i = gn_at lo' i ∨ (gn_at lo i = .null ∧ gn_isL (gn_at lo' i) = false)
theorem gn_le.set {lo lo' : List Value} (h : gn_le lo lo') (k : Nat) (v : Value) : gn_le (gn_set lo k v) (gn_set lo' k v) := by
  intro i
  rw [gn_at_set, gn_at_set]
  by_cases e : i = k
  · rw [if_pos e, if_pos e]; exact Or.inl rfl
  · rw [if_neg e, if_neg e]; exact h i
theorem gn_le.at {lo lo' : List Value} (h : gn_le lo lo') {i : Nat} {v : Value} (hv : gn_at lo i = v) (hn : v ≠ .null) : gn_at lo' i = v := by
  rcases h i with e | e
  · rw [← e]; exact hv
  · rw [e.1] at hv; exact absurd hv.symm hn
theorem gn_le.ok {lo lo' : List Value} (h : gn_le lo lo') {k : Nat} (hk : gn_okS lo k = true) : gn_okS lo' k = true := by
  cases k with
  | zero => rfl
  | succ k =>
    have hk : (!gn_isL (gn_at lo k)) = true := hk
    show (!gn_isL (gn_at lo' k)) = true
    rcases h k with e | e
    · rw [← e]; exact hk
    · rw [e.2]; rfl
set_option maxHeartbeats 4000000 in
theorem gn_stp_le {d mi pc : Nat} {lo lo' st : List Value} {σ : gn_Mem} (h : gn_le lo lo') {p1 : Nat} {l1 s1 : List Value} {m1 : gn_Mem} (hs : gn_stp d mi pc lo st σ = some (p1, l1, s1, m1)) : ∃ l2, gn_le l1 l2 ∧ gn_stp d mi pc lo' st σ = some (p1, l2, s1, m1) := by
  unfold gn_stp at hs ⊢
  cases hcd : gn_cd mi pc with
  | none => rw [hcd] at hs; cases hs
  | some E =>
    obtain ⟨ins, nx, a, b, v⟩ := E
    rw [hcd] at hs
    dsimp only at hs ⊢
    cases ins
    case aload_n k => 
      dsimp only at hs ⊢
      split at hs
      · rename_i o heq
        cases hs
        exact ⟨lo', h, by rw [h.at heq (fun z => by cases z)]⟩
      · cases hs
    case iload_n k => 
      dsimp only at hs ⊢
      split at hs
      · rename_i o heq
        cases hs
        exact ⟨lo', h, by rw [h.at heq (fun z => by cases z)]⟩
      · cases hs
    case iload k => 
      dsimp only at hs ⊢
      split at hs
      · rename_i o heq
        cases hs
        exact ⟨lo', h, by rw [h.at heq (fun z => by cases z)]⟩
      · cases hs
    case lload_n k => 
      dsimp only at hs ⊢
      split at hs
      · rename_i o heq
        cases hs
        exact ⟨lo', h, by rw [h.at heq (fun z => by cases z)]⟩
      · cases hs
    case iinc k n => 
      dsimp only at hs ⊢
      split at hs
      · rename_i o heq
        rw [h.at heq (fun z => by cases z)]
        dsimp only
        cases ho : gn_okS lo a with
        | false => rw [ho] at hs; cases hs
        | true =>
          rw [ho] at hs
          rw [h.ok ho]
          cases hs
          exact ⟨_, h.set _ _, rfl⟩
      · cases hs
    case istore_n k => 
      dsimp only at hs ⊢
      split at hs
      · cases ho : gn_okS lo a with
        | false => rw [ho] at hs; cases hs
        | true =>
          rw [ho] at hs
          rw [h.ok ho]
          cases hs
          exact ⟨_, h.set _ _, rfl⟩
      · cases hs
    case istore k => 
      dsimp only at hs ⊢
      split at hs
      · cases ho : gn_okS lo a with
        | false => rw [ho] at hs; cases hs
        | true =>
          rw [ho] at hs
          rw [h.ok ho]
          cases hs
          exact ⟨_, h.set _ _, rfl⟩
      · cases hs
    case astore_n k => 
      dsimp only at hs ⊢
      split at hs
      · cases ho : gn_okS lo a with
        | false => rw [ho] at hs; cases hs
        | true =>
          rw [ho] at hs
          rw [h.ok ho]
          cases hs
          exact ⟨_, h.set _ _, rfl⟩
      · cases hs
    case lstore_n k => 
      dsimp only at hs ⊢
      split at hs
      · cases ho : gn_okS lo a with
        | false => rw [ho] at hs; cases hs
        | true =>
          rw [ho] at hs
          rw [h.ok ho]
          cases hs
          exact ⟨_, (h.set _ _).set _ _, rfl⟩
      · cases hs
    case getfield k =>
      dsimp only at hs ⊢
      split at hs
      · rename_i o r
        cases hf : gn_fld σ o a b with
        | none => rw [hf] at hs; cases hs
        | some w => rw [hf] at hs; cases hs; exact ⟨lo', h, rfl⟩
      · cases hs
    case putfield k =>
      dsimp only at hs ⊢
      split at hs
      · rename_i x o r
        cases hf : gn_isS 0 o a b with
        | false => rw [hf] at hs; cases hs
        | true => rw [hf] at hs; cases hs; exact ⟨lo', h, rfl⟩
      · cases hs
    case invokestatic k =>
      cases d with
      | zero => cases hs
      | succ d' =>
        dsimp only at hs ⊢
        split at hs
        · rename_i y x r
          cases hc : gn_cs r with
          | false => rw [hc] at hs; cases hs
          | true =>
            rw [hc] at hs
            dsimp only [cond] at hs ⊢
            by_cases v2 : v = 2
            · rw [if_pos v2] at hs ⊢
              cases hs; exact ⟨lo', h, rfl⟩
            · rw [if_neg v2] at hs ⊢
              by_cases v3 : v = 3
              · rw [if_pos v3] at hs ⊢
                cases hs; exact ⟨lo', h, rfl⟩
              · rw [if_neg v3] at hs; cases hs
        · cases hs
    case dup =>
      dsimp only at hs ⊢
      split at hs
      · rename_i w r
        cases hw : gn_isL w with
        | true => rw [hw] at hs; cases hs
        | false => rw [hw] at hs; cases hs; exact ⟨lo', h, rfl⟩
      · cases hs
    case pop =>
      dsimp only at hs ⊢
      split at hs
      · rename_i w r
        cases hw : gn_isL w with
        | true => rw [hw] at hs; cases hs
        | false => rw [hw] at hs; cases hs; exact ⟨lo', h, rfl⟩
      · cases hs
    case dup2 =>
      dsimp only at hs ⊢
      split at hs
      · rename_i w u r
        cases hw : gn_isL w <;> cases hu : gn_isL u <;> rw [hw, hu] at hs <;> first | (cases hs; done) | (cases hs; exact ⟨lo', h, rfl⟩)
      · cases hs
    all_goals first
      | (cases hs; done)
      | (cases hs; exact ⟨lo', h, rfl⟩)
      | (dsimp only at hs ⊢
         split at hs
         · cases hs; exact ⟨lo', h, rfl⟩
         · cases hs)
set_option maxHeartbeats 4000000 in
theorem gn_wkn : ∀ (n d mi pc : Nat) (lo lo' st : List Value) (σ : gn_Mem) (Q : Option Value → gn_Mem → Prop), gn_le lo lo' → gn_wp n d mi pc lo st σ Q → gn_wp n d mi pc lo' st σ Q := by
  intro n
  induction n with
  | zero => intro d mi pc lo lo' st σ Q _ h; exact h.elim
  | succ n ih =>
    intro d mi pc lo lo' st σ Q hl h
    have go : ∀ {d2 mi2 pc2 : Nat} {st2 : List Value} {σ2 : gn_Mem} {Q2 : Option Value → gn_Mem → Prop}, gn_wp n d2 mi2 pc2 lo st2 σ2 Q2 → gn_wp n d2 mi2 pc2 lo' st2 σ2 Q2 := fun hh => ih _ _ _ _ _ _ _ _ hl hh
    unfold gn_wp at h
    cases hst : gn_stp d mi pc lo st σ with
    | some r =>
      obtain ⟨pc', lo1, st', σ'⟩ := r
      rw [hst] at h
      obtain ⟨l2, h2, h3⟩ := gn_stp_le hl hst
      unfold gn_wp
      rw [h3]
      exact ih _ _ _ _ _ _ _ _ h2 h
    | none =>
      rw [hst] at h
      dsimp only at h
      cases hcd : gn_cd mi pc with
      | none => rw [hcd] at h; exact h.elim
      | some E =>
        obtain ⟨ins, nx, a, b, v⟩ := E
        rw [hcd] at h
        dsimp only at h
        cases ins with
        | goto off => unfold gn_wp; rw [gn_stp_none hcd rfl, hcd]; exact go h
        | ifCond c off =>
          unfold gn_wp; rw [gn_stp_none hcd rfl, hcd]
          dsimp only at h ⊢
          split at h
          · exact ⟨fun q => go (h.1 q), fun q => go (h.2 q)⟩
          · exact h.elim
        | if_icmp c off =>
          unfold gn_wp; rw [gn_stp_none hcd rfl, hcd]
          dsimp only at h ⊢
          split at h
          · exact ⟨fun q => go (h.1 q), fun q => go (h.2 q)⟩
          · exact h.elim
        | tableswitch p1 p2 p3 p4 =>
          unfold gn_wp; rw [gn_stp_none hcd rfl, hcd]
          dsimp only at h ⊢
          split at h
          · exact fun t ht => go (h t ht)
          · exact h.elim
        | lookupswitch p1 p2 =>
          unfold gn_wp; rw [gn_stp_none hcd rfl, hcd]
          dsimp only at h ⊢
          split at h
          · exact fun t ht => go (h t ht)
          · exact h.elim
        | idiv =>
          unfold gn_wp; rw [gn_stp_none hcd rfl, hcd]
          dsimp only at h ⊢
          split at h
          · exact ⟨h.1, go h.2⟩
          · exact h.elim
        | irem =>
          unfold gn_wp; rw [gn_stp_none hcd rfl, hcd]
          dsimp only at h ⊢
          split at h
          · exact ⟨h.1, go h.2⟩
          · exact h.elim
        | ldiv =>
          unfold gn_wp; rw [gn_stp_none hcd rfl, hcd]
          dsimp only at h ⊢
          split at h
          · exact ⟨h.1, go h.2⟩
          · exact h.elim
        | lrem =>
          unfold gn_wp; rw [gn_stp_none hcd rfl, hcd]
          dsimp only at h ⊢
          split at h
          · exact ⟨h.1, go h.2⟩
          · exact h.elim
        | iaload =>
          unfold gn_wp; rw [gn_stp_none hcd rfl, hcd]
          dsimp only at h ⊢
          split at h
          · try dsimp only at h ⊢
            split at h
            · exact ⟨h.1, go h.2⟩
            · exact h.elim
          · exact h.elim
        | baload =>
          unfold gn_wp; rw [gn_stp_none hcd rfl, hcd]
          dsimp only at h ⊢
          split at h
          · try dsimp only at h ⊢
            split at h
            · exact ⟨h.1, go h.2⟩
            · exact h.elim
          · exact h.elim
        | iastore =>
          unfold gn_wp; rw [gn_stp_none hcd rfl, hcd]
          dsimp only at h ⊢
          split at h
          · try dsimp only at h ⊢
            split at h
            · exact ⟨h.1, go h.2⟩
            · exact h.elim
          · exact h.elim
        | bastore =>
          unfold gn_wp; rw [gn_stp_none hcd rfl, hcd]
          dsimp only at h ⊢
          split at h
          · try dsimp only at h ⊢
            split at h
            · exact ⟨h.1, go h.2⟩
            · exact h.elim
          · exact h.elim
        | putfield i =>
          have hno : gn_stp d mi pc lo' st σ = none := by
            unfold gn_stp at hst ⊢
            rw [hcd] at hst ⊢
            dsimp only at hst ⊢
            split at hst
            · rename_i x o r
              cases hf : gn_isS 0 o a b with
              | true => rw [hf] at hst; cases hst
              | false => rfl
            · rfl
          unfold gn_wp; rw [hno, hcd]
          dsimp only at h ⊢
          split at h
          · exact ⟨h.1, h.2.1, go h.2.2⟩
          · obtain ⟨h1, x, h2, h3⟩ := h
            exact ⟨h1, x, h2, go h3⟩
          · exact h.elim
        | invokevirtual i =>
          unfold gn_wp; rw [gn_stp_none hcd rfl, hcd]
          dsimp only at h ⊢
          cases d with
          | zero => exact h.elim
          | succ d' =>
            dsimp only at h ⊢
            split at h
            · exact ⟨h.1, h.2.1, h.2.2.1, gn_mono _ _ _ _ _ _ _ _ _ _ (Nat.le_refl _) (fun r s q => go q) h.2.2.2⟩
            · exact h.elim
        | invokestatic i =>
          cases d with
          | zero => exact h.elim
          | succ d' =>
            have hno : gn_stp (d' + 1) mi pc lo' st σ = none := by
              unfold gn_stp at hst ⊢
              rw [hcd] at hst ⊢
              dsimp only at hst ⊢
              split at hst
              · rename_i y x r
                cases hc : gn_cs r with
                | false => rfl
                | true =>
                  rw [hc] at hst
                  dsimp only [cond] at hst ⊢
                  split at hst
                  · cases hst
                  · split at hst
                    · cases hst
                    · rename_i v2 v3
                      rw [if_neg v2, if_neg v3]
              · rfl
            unfold gn_wp; rw [hno, hcd]
            dsimp only at h ⊢
            by_cases v0 : v = 0
            · rw [if_pos v0] at h ⊢
              split at h
              · exact ⟨h.1, gn_mono _ _ _ _ _ _ _ _ _ _ (Nat.le_refl _) (fun r s q => go q) h.2⟩
              · exact h.elim
            · rw [if_neg v0] at h ⊢
              by_cases v1 : v = 1
              · rw [if_pos v1] at h ⊢
                split at h
                · try dsimp only at h ⊢
                  split at h
                  · obtain ⟨z1, z2, z3, z4, z5, z6, z7⟩ := h
                    exact ⟨z1, z2, z3, z4, z5, z6, go z7⟩
                  · exact h.elim
                · exact h.elim
              · rw [if_neg v1] at h
                exact h.elim
        | ireturn =>
          unfold gn_wp; rw [gn_stp_none hcd rfl, hcd]
          exact h
        | areturn =>
          unfold gn_wp; rw [gn_stp_none hcd rfl, hcd]
          exact h
        | return_ =>
          unfold gn_wp; rw [gn_stp_none hcd rfl, hcd]
          exact h
        | _ => exact h.elim
theorem gn_at_app : ∀ (lo ex : List Value) (i : Nat), gn_at (lo ++ ex) i = if i < lo.length then gn_at lo i else gn_at ex (i - lo.length)
  | [], ex, i => by simp
  | x :: xs, ex, 0 => by simp [gn_at]
  | x :: xs, ex, i + 1 => by
    have h := gn_at_app xs ex i
    simp only [List.cons_append, gn_at, List.length_cons, Nat.add_lt_add_iff_right, Nat.add_sub_add_right]
    exact h
theorem gn_at_ge : ∀ (lo : List Value) (i : Nat), lo.length ≤ i → gn_at lo i = .null
  | [], _, _ => rfl
  | x :: xs, 0, h => by simp at h
  | x :: xs, i + 1, h => gn_at_ge xs i (by simpa using h)
theorem gn_isL_at : ∀ (ex : List Value) (i : Nat), ex.all (fun v => !gn_isL v) = true → gn_isL (gn_at ex i) = false
  | [], _, _ => rfl
  | x :: xs, 0, h => by
    simp only [List.all_cons, Bool.and_eq_true, Bool.not_eq_true'] at h
    exact h.1
  | x :: xs, i + 1, h => by
    simp only [List.all_cons, Bool.and_eq_true] at h
    exact gn_isL_at xs i h.2
/-- the locals behind a place are forgotten -/
theorem gx_drop {d mi pc : Nat} {st : List Value} {σ : gn_Mem} {Q : Option Value → gn_Mem → Prop} (lo ex : List Value) (h : ex.all (fun v => !gn_isL v) = true) (k : gn_W d mi pc lo st σ Q) : gn_W d mi pc (lo ++ ex) st σ Q := by
  obtain ⟨n, k⟩ := k
  refine ⟨n, gn_wkn _ _ _ _ _ _ _ _ _ ?_ k⟩
  intro i
  rw [gn_at_app]
  by_cases hi : i < lo.length
  · rw [if_pos hi]; exact Or.inl rfl
  · rw [if_neg hi]
    exact Or.inr ⟨gn_at_ge lo i (by omega), gn_isL_at ex _ h⟩
/-- a local in the middle is forgotten -/
theorem gx_nul {d mi pc : Nat} {st : List Value} {σ : gn_Mem} {Q : Option Value → gn_Mem → Prop} {lo : List Value} (i : Nat) (h : gn_isL (gn_at lo i) = false) (k : gn_W d mi pc (gn_set lo i .null) st σ Q) : gn_W d mi pc lo st σ Q := by
  obtain ⟨n, k⟩ := k
  refine ⟨n, gn_wkn _ _ _ _ _ _ _ _ _ ?_ k⟩
  intro j
  rw [gn_at_set]
  by_cases e : j = i
  · rw [if_pos e, e]; exact Or.inr ⟨rfl, h⟩
  · rw [if_neg e]; exact Or.inl rfl
end
section
/-! data: an evening (D), a night (A), by natural numbers; rules with such numbers -/
abbrev gD : Type := Nat → Nat → Nat → Nat
abbrev dG (D : gD) : Nat := D 0 0 0
abbrev dH (D : gD) : Nat := D 1 0 0
abbrev dF (D : gD) : Nat := D 2 0 0
abbrev dE (D : gD) : Nat := D 9 0 0
abbrev dP (D : gD) (g : Nat) : Nat := D 3 g 0
abbrev dC (D : gD) (g : Nat) : Nat := D 4 g 0
abbrev dT (D : gD) (g k : Nat) : Nat := D 5 g k
abbrev dB (D : gD) (g k : Nat) : Nat := D 6 g k
abbrev dK (D : gD) (h : Nat) : Nat := D 7 h 0
abbrev dN (D : gD) (h : Nat) : Nat := D 8 h 0
/-- the numbers' bounds -/
def gW (D : gD) : Prop := dG D ≤ 6 ∧ dH D ≤ 4 ∧ dE D ≤ 1 ∧ dF D < 256 ∧ (∀ g, g < dG D → dP D g ≤ 9 ∧ 1 ≤ dC D g ∧ dC D g ≤ 6) ∧ (∀ g k, g < dG D → k < dC D g → dT D g k < 8 ∧ dB D g k ≤ 9) ∧ (∀ h, h < dH D → dK D h ≤ 3 ∧ dN D h ≤ 9)
/-- topics of the first n claims, as a set -/
def dSn (D : gD) (g : Nat) : Nat → Nat
  | 0 => 0
  | n + 1 => dSn D g n ||| 2 ^ dT D g n
def dS (D : gD) (g : Nat) : Nat := dSn D g (dC D g)
/-- the table at t holds D -/
def gT (t : Nat) (σ : gn_Mem) (D : gD) : Prop := gW D ∧ σ t 0 = nI (dE D) ∧ σ t 1 = nI (dF D) ∧ σ t 2 = nI (dG D) ∧ σ t 3 = nI (dH D) ∧ (∀ g, g < dG D → σ (t + 1) g = nI (dP D g) ∧ σ (t + 2) g = nI (dC D g) ∧ σ (t + 5) g = nI (dS D g)) ∧ (∀ g k, g < dG D → k < dC D g → σ (t + 3) (6 * g + k) = nI (dT D g k) ∧ σ (t + 4) (6 * g + k) = nI (dB D g k)) ∧ (∀ h, h < dH D → σ (t + 6) h = nI (dK D h) ∧ σ (t + 7) h = nI (dN D h))
/-- the reference holds D -/
def gM (σ : gn_Mem) (D : gD) : Prop := gW D ∧ σ 44 6 = nI (dE D) ∧ σ 44 7 = nI (dF D) ∧ σ 44 8 = nI (dG D) ∧ σ 44 9 = nI (dH D) ∧ (∀ g, g < dG D → σ 46 g = nI (dP D g) ∧ σ 48 g = nI (dC D g)) ∧ (∀ g k, g < dG D → k < dC D g → σ 47 (6 * g + k) = nI (10 * dT D g k + dB D g k)) ∧ (∀ h, h < dH D → σ 49 h = nI (dK D h) ∧ σ 50 h = nI (dN D h))
def gb (p : Prop) [Decidable p] : Int32 := if p then 1 else 0
theorem gb_t {p : Prop} [Decidable p] (h : p) : gb p = 1 := if_pos h
theorem gb_f {p : Prop} [Decidable p] (h : ¬ p) : gb p = 0 := if_neg h
theorem ix6 (g k : Nat) : nI g * 6 + nI k = nI (6 * g + k) := by
  rw [show (6 : Int32) = nI 6 from rfl, pk_mul, nI_add, Nat.mul_comm]
theorem ix6' (g k : Nat) : 6 * nI g + nI k = nI (6 * g + k) := by
  rw [show (6 : Int32) = nI 6 from rfl, pk_mul, nI_add]
section
variable {d mi pc nx a b : Nat} {v : Int32} {lo st r : List Value} {σ : gn_Mem} {Q : Option Value → gn_Mem → Prop}
theorem gx_ld {o len : Nat} {i w : Int32} (j : Nat) (hi : i = nI j) (hj : j < len) (hv : σ o j = w) (hcd : gn_cd mi pc = some (.iaload, nx, a, b, v)) (hl : gn_ly o = .inl (false, len)) (hb : Nat.ble len 1000 = true) (k : gn_W d mi nx lo (.int w :: r) σ Q) : gn_W d mi pc lo (.int i :: .ref o :: r) σ Q := by
  have hlen : len ≤ 1000 := Nat.le_of_ble_eq_true hb
  subst hi
  refine gw_iald hcd hl (vp_in_nI hj (by omega)) ?_
  rw [nI_clamp (by omega), hv]
  exact k
theorem gx_st {o len : Nat} {i x : Int32} (j : Nat) (hi : i = nI j) (hj : j < len) (hcd : gn_cd mi pc = some (.iastore, nx, a, b, v)) (hl : gn_ly o = .inl (false, len)) (hb : Nat.ble len 1000 = true) (k : gn_W d mi nx lo r (gn_up σ o j x) Q) : gn_W d mi pc lo (.int x :: .int i :: .ref o :: r) σ Q := by
  have hlen : len ≤ 1000 := Nat.le_of_ble_eq_true hb
  subst hi
  refine gw_iast hcd hl (vp_in_nI hj (by omega)) ?_
  rw [nI_clamp (by omega)]
  exact k
theorem gx_ift {c : ClassFile.Cond} {off : Int} {x : Int32} (hcd : gn_cd mi pc = some (.ifCond c off, nx, a, b, v)) (h : gn_cmp c x 0) (k : gn_W d mi a lo r σ Q) : gn_W d mi pc lo (.int x :: r) σ Q := gw_if hcd (fun _ => k) (fun q => absurd h q)
theorem gx_iff {c : ClassFile.Cond} {off : Int} {x : Int32} (hcd : gn_cd mi pc = some (.ifCond c off, nx, a, b, v)) (h : ¬ gn_cmp c x 0) (k : gn_W d mi nx lo r σ Q) : gn_W d mi pc lo (.int x :: r) σ Q := gw_if hcd (fun q => absurd q h) (fun _ => k)
theorem gx_ict {c : ClassFile.Cond} {off : Int} {x y : Int32} (hcd : gn_cd mi pc = some (.if_icmp c off, nx, a, b, v)) (h : gn_cmp c x y) (k : gn_W d mi a lo r σ Q) : gn_W d mi pc lo (.int y :: .int x :: r) σ Q := gw_icmp hcd (fun _ => k) (fun q => absurd h q)
theorem gx_icf {c : ClassFile.Cond} {off : Int} {x y : Int32} (hcd : gn_cd mi pc = some (.if_icmp c off, nx, a, b, v)) (h : ¬ gn_cmp c x y) (k : gn_W d mi nx lo r σ Q) : gn_W d mi pc lo (.int y :: .int x :: r) σ Q := gw_icmp hcd (fun q => absurd q h) (fun _ => k)
/-- a loop whose body takes the place i and an accumulator -/
def gf {α : Type} (f : Nat → α → α) : Nat → α → α
  | 0, x => x
  | n + 1, x => f n (gf f n x)
theorem gf_congr {α : Type} {f g : Nat → α → α} {n : Nat} (h : ∀ i x, i < n → f i x = g i x) (x : α) : gf f n x = gf g n x := by
  induction n with
  | zero => rfl
  | succ n ih =>
    show f n (gf f n x) = g n (gf g n x)
    rw [ih (fun i y hi => h i y (by omega)), h n _ (by omega)]
theorem gf_inv {α : Type} {f : Nat → α → α} {n : Nat} (P : Nat → α → Prop) {x : α} (h0 : P 0 x) (hs : ∀ i y, i < n → P i y → P (i + 1) (f i y)) : P n (gf f n x) := by
  induction n with
  | zero => exact h0
  | succ n ih => exact hs n _ (by omega) (ih (fun i y hi => hs i y (by omega)))
theorem gw_for {α : Type} (n : Nat) (f : Nat → α → α) (P : Nat → α → Prop) (lf : Nat → α → List Value) (mf : α → gn_Mem) (x : α) (h0 : P 0 x) (hs : ∀ i y, i < n → P i y → P (i + 1) (f i y)) (hb : ∀ i y, i < n → P i y → gn_W d mi pc (lf (i + 1) (f i y)) [] (mf (f i y)) Q → gn_W d mi pc (lf i y) [] (mf y) Q) (hx : P n (gf f n x) → gn_W d mi pc (lf n (gf f n x)) [] (mf (gf f n x)) Q) : gn_W d mi pc (lf 0 x) [] (mf x) Q := by
  have key : ∀ m, m ≤ n → gn_W d mi pc (lf (n - m) (gf f (n - m) x)) [] (mf (gf f (n - m) x)) Q := by
    intro m
    induction m with
    | zero =>
      intro _
      exact hx (gf_inv P h0 hs)
    | succ m ih =>
      intro hm
      have h1 := ih (by omega)
      have e : n - m = (n - (m + 1)) + 1 := by omega
      rw [e] at h1
      exact hb _ _ (by omega) (gf_inv P h0 (fun i y hi => hs i y (by omega))) h1
  have h1 := key n (Nat.le_refl _)
  rw [Nat.sub_self] at h1
  exact h1
end
theorem nI_lt0 {n : Nat} (h : n < 2 ^ 31) : ¬ nI n < 0 := nI_pos h
theorem bit_lt {s t : Nat} (hs : s < 256) (ht : t < 8) : (nI s >>> (nI t &&& 31) &&& 1 = 0) ↔ s.testBit t = false := by
  have h : ∀ s, s < 256 → ∀ t, t < 8 → ((nI s >>> (nI t &&& 31) &&& 1 = 0) ↔ s.testBit t = false) := by decide +kernel
  exact h s hs t ht
end
section
/-! the class's Table: contracts -/
def jK (kd bd : Nat) (f : Bool) : Nat := if kd = 0 then bd else if kd = 1 then bd / 2 else if kd = 2 then (if f then bd - 3 else bd + 5) else 9 - bd
/-- JOY as if none was SAID ahead -/
def jP (D : gD) (g h k : Nat) : Nat := jK (dK D h) (dB D g k) ((dF D).testBit (dT D g k)) + (if (dF D).testBit (dT D g k) then dP D g else 0)
theorem jK_le : ∀ kd, kd ≤ 3 → ∀ bd, bd ≤ 9 → ∀ f, jK kd bd f ≤ 14 := by decide
theorem gW.jP {D : gD} (hW : gW D) {g h k : Nat} (hg : g < dG D) (hh : h < dH D) (hk : k < dC D g) : jP D g h k ≤ 23 := by
  have h1 := jK_le _ (hW.2.2.2.2.2.2 h hh).1 _ (hW.2.2.2.2.2.1 g k hg hk).2 ((dF D).testBit (dT D g k))
  have h2 := (hW.2.2.2.2.1 g hg).1
  unfold _root_.Jvm.Pilot.CGuestNoesLaw_law_r7866_5d6c8b.jP
  split <;> omega
section
variable {d : Nat} {σ : gn_Mem} {Q : Option Value → gn_Mem → Prop} {D : gD}
theorem xw_hasGuest {t : Nat} {g : Int32} (ht : t = 28 ∨ t = 36) (hQ : Q (some (.int (gb (¬ g < 0 ∧ ¬ σ t 2 ≤ g)))) σ) : gn_W d 67 0 [.ref t, .int g] [] σ Q := by
  rcases ht with rfl | rfl <;>
  ((repeat (first | refine gx_run 999 80 rfl ?_ | refine gx_goto rfl rfl ?_))
   first | refine gw_if rfl (fun h => ?_) (fun h => ?_) | refine gw_icmp rfl (fun h => ?_) (fun h => ?_)
   · (repeat (first | refine gx_run 999 80 rfl ?_ | refine gx_goto rfl rfl ?_))
     refine gw_zret rfl (Or.inl rfl) ?_
     rw [gb_f (fun q => q.1 h)] at hQ; exact hQ
   · (repeat (first | refine gx_run 999 80 rfl ?_ | refine gx_goto rfl rfl ?_))
     first | refine gw_if rfl (fun h2 => ?_) (fun h2 => ?_) | refine gw_icmp rfl (fun h2 => ?_) (fun h2 => ?_)
     · (repeat (first | refine gx_run 999 80 rfl ?_ | refine gx_goto rfl rfl ?_))
       refine gw_zret rfl (Or.inl rfl) ?_
       rw [gb_f (fun q => q.2 h2)] at hQ; exact hQ
     · (repeat (first | refine gx_run 999 80 rfl ?_ | refine gx_goto rfl rfl ?_))
       refine gw_zret rfl (Or.inr rfl) ?_
       rw [gb_t ⟨h, h2⟩] at hQ; exact hQ)
theorem xw_hasG (hT : gT 28 σ D) {g : Nat} (hg : g < dG D) (hQ : Q (some (.int 1)) σ) : gn_W d 67 0 [.ref 28, .int (nI g)] [] σ Q := by
  have hle := hT.1.1
  refine xw_hasGuest (Or.inl rfl) ?_
  rw [hT.2.2.2.1, gb_t ⟨nI_pos (by omega), nI_ge hg (by omega)⟩]
  exact hQ
theorem xw_hasHost {h : Int32} (hQ : Q (some (.int (gb (¬ h < 0 ∧ ¬ σ 28 3 ≤ h)))) σ) : gn_W d 68 0 [.ref 28, .int h] [] σ Q := by
  (repeat (first | refine gx_run 999 80 rfl ?_ | refine gx_goto rfl rfl ?_))
  first | refine gw_if rfl (fun h1 => ?_) (fun h1 => ?_) | refine gw_icmp rfl (fun h1 => ?_) (fun h1 => ?_)
  · (repeat (first | refine gx_run 999 80 rfl ?_ | refine gx_goto rfl rfl ?_))
    refine gw_zret rfl (Or.inl rfl) ?_
    rw [gb_f (fun q => q.1 h1)] at hQ; exact hQ
  · (repeat (first | refine gx_run 999 80 rfl ?_ | refine gx_goto rfl rfl ?_))
    first | refine gw_if rfl (fun h2 => ?_) (fun h2 => ?_) | refine gw_icmp rfl (fun h2 => ?_) (fun h2 => ?_)
    · (repeat (first | refine gx_run 999 80 rfl ?_ | refine gx_goto rfl rfl ?_))
      refine gw_zret rfl (Or.inl rfl) ?_
      rw [gb_f (fun q => q.2 h2)] at hQ; exact hQ
    · (repeat (first | refine gx_run 999 80 rfl ?_ | refine gx_goto rfl rfl ?_))
      refine gw_zret rfl (Or.inr rfl) ?_
      rw [gb_t ⟨h1, h2⟩] at hQ; exact hQ
theorem xw_hasH (hT : gT 28 σ D) {h : Nat} (hh : h < dH D) (hQ : Q (some (.int 1)) σ) : gn_W d 68 0 [.ref 28, .int (nI h)] [] σ Q := by
  have hle := hT.1.2.1
  refine xw_hasHost ?_
  rw [hT.2.2.2.2.1, gb_t ⟨nI_pos (by omega), nI_ge hh (by omega)⟩]
  exact hQ
theorem xw_hasClaim (hT : gT 28 σ D) {g : Nat} (hg : g < dG D) {k : Int32} (hQ : Q (some (.int (gb (¬ k < 0 ∧ ¬ nI (dC D g) ≤ k)))) σ) : gn_W d 69 0 [.ref 28, .int (nI g), .int k] [] σ Q := by
  have hle := hT.1.1
  (repeat (first | refine gx_run 999 80 rfl ?_ | refine gx_goto rfl rfl ?_))
  first | refine gw_if rfl (fun h => ?_) (fun h => ?_) | refine gw_icmp rfl (fun h => ?_) (fun h => ?_)
  · exact absurd h (nI_pos (by omega))
  (repeat (first | refine gx_run 999 80 rfl ?_ | refine gx_goto rfl rfl ?_))
  rw [hT.2.2.2.1]
  first | refine gw_if rfl (fun h2 => ?_) (fun h2 => ?_) | refine gw_icmp rfl (fun h2 => ?_) (fun h2 => ?_)
  · exact absurd h2 (nI_ge hg (by omega))
  (repeat (first | refine gx_run 999 80 rfl ?_ | refine gx_goto rfl rfl ?_))
  first | refine gw_if rfl (fun h3 => ?_) (fun h3 => ?_) | refine gw_icmp rfl (fun h3 => ?_) (fun h3 => ?_)
  · (repeat (first | refine gx_run 999 80 rfl ?_ | refine gx_goto rfl rfl ?_))
    refine gw_zret rfl (Or.inl rfl) ?_
    rw [gb_f (fun q => q.1 h3)] at hQ; exact hQ
  (repeat (first | refine gx_run 999 80 rfl ?_ | refine gx_goto rfl rfl ?_))
  refine gx_ld g rfl (by omega) (hT.2.2.2.2.2.1 g hg).2.1 rfl rfl rfl ?_
  first | refine gw_if rfl (fun h4 => ?_) (fun h4 => ?_) | refine gw_icmp rfl (fun h4 => ?_) (fun h4 => ?_)
  · (repeat (first | refine gx_run 999 80 rfl ?_ | refine gx_goto rfl rfl ?_))
    refine gw_zret rfl (Or.inl rfl) ?_
    rw [gb_f (fun q => q.2 h4)] at hQ; exact hQ
  · (repeat (first | refine gx_run 999 80 rfl ?_ | refine gx_goto rfl rfl ?_))
    refine gw_zret rfl (Or.inr rfl) ?_
    rw [gb_t ⟨h3, h4⟩] at hQ; exact hQ
theorem xw_pride (hT : gT 28 σ D) {g : Nat} (hg : g < dG D) (hQ : Q (some (.int (nI (dP D g)))) σ) : gn_W (d + 1) 70 0 [.ref 28, .int (nI g)] [] σ Q := by
  have hle := hT.1.1
  (repeat (first | refine gx_run 999 80 rfl ?_ | refine gx_goto rfl rfl ?_))
  refine gx_call rfl rfl rfl ?_
  refine xw_hasG hT hg ?_
  (repeat (first | refine gx_run 999 80 rfl ?_ | refine gx_goto rfl rfl ?_))
  first | refine gw_if rfl (fun h => ?_) (fun h => ?_) | refine gw_icmp rfl (fun h => ?_) (fun h => ?_)
  · cases h
  (repeat (first | refine gx_run 999 80 rfl ?_ | refine gx_goto rfl rfl ?_))
  refine gx_ld g rfl (by omega) (hT.2.2.2.2.2.1 g hg).1 rfl rfl rfl ?_
  (repeat (first | refine gx_run 999 80 rfl ?_ | refine gx_goto rfl rfl ?_))
  refine gx_iret rfl rfl ?_
  exact hQ
theorem xw_claimCount (hT : gT 28 σ D) {g : Nat} (hg : g < dG D) (hQ : Q (some (.int (nI (dC D g)))) σ) : gn_W (d + 1) 71 0 [.ref 28, .int (nI g)] [] σ Q := by
  have hle := hT.1.1
  (repeat (first | refine gx_run 999 80 rfl ?_ | refine gx_goto rfl rfl ?_))
  refine gx_call rfl rfl rfl ?_
  refine xw_hasG hT hg ?_
  (repeat (first | refine gx_run 999 80 rfl ?_ | refine gx_goto rfl rfl ?_))
  first | refine gw_if rfl (fun h => ?_) (fun h => ?_) | refine gw_icmp rfl (fun h => ?_) (fun h => ?_)
  · cases h
  (repeat (first | refine gx_run 999 80 rfl ?_ | refine gx_goto rfl rfl ?_))
  refine gx_ld g rfl (by omega) (hT.2.2.2.2.2.1 g hg).2.1 rfl rfl rfl ?_
  (repeat (first | refine gx_run 999 80 rfl ?_ | refine gx_goto rfl rfl ?_))
  refine gx_iret rfl rfl ?_
  exact hQ
theorem xw_topicsOf (hT : gT 28 σ D) {g : Nat} (hg : g < dG D) (hQ : Q (some (.int (nI (dS D g)))) σ) : gn_W (d + 1) 83 0 [.ref 28, .int (nI g)] [] σ Q := by
  have hle := hT.1.1
  (repeat (first | refine gx_run 999 80 rfl ?_ | refine gx_goto rfl rfl ?_))
  refine gx_call rfl rfl rfl ?_
  refine xw_hasG hT hg ?_
  (repeat (first | refine gx_run 999 80 rfl ?_ | refine gx_goto rfl rfl ?_))
  first | refine gw_if rfl (fun h => ?_) (fun h => ?_) | refine gw_icmp rfl (fun h => ?_) (fun h => ?_)
  · cases h
  (repeat (first | refine gx_run 999 80 rfl ?_ | refine gx_goto rfl rfl ?_))
  refine gx_ld g rfl (by omega) (hT.2.2.2.2.2.1 g hg).2.2 rfl rfl rfl ?_
  (repeat (first | refine gx_run 999 80 rfl ?_ | refine gx_goto rfl rfl ?_))
  refine gx_iret rfl rfl ?_
  exact hQ
theorem xw_kind (hT : gT 28 σ D) {h : Nat} (hh : h < dH D) (hQ : Q (some (.int (nI (dK D h)))) σ) : gn_W (d + 1) 74 0 [.ref 28, .int (nI h)] [] σ Q := by
  have hle := hT.1.2.1
  (repeat (first | refine gx_run 999 80 rfl ?_ | refine gx_goto rfl rfl ?_))
  refine gx_call rfl rfl rfl ?_
  refine xw_hasH hT hh ?_
  (repeat (first | refine gx_run 999 80 rfl ?_ | refine gx_goto rfl rfl ?_))
  first | refine gw_if rfl (fun q0 => ?_) (fun q0 => ?_) | refine gw_icmp rfl (fun q0 => ?_) (fun q0 => ?_)
  · cases q0
  (repeat (first | refine gx_run 999 80 rfl ?_ | refine gx_goto rfl rfl ?_))
  refine gx_ld h rfl (by omega) (hT.2.2.2.2.2.2.2 h hh).1 rfl rfl rfl ?_
  (repeat (first | refine gx_run 999 80 rfl ?_ | refine gx_goto rfl rfl ?_))
  refine gx_iret rfl rfl ?_
  exact hQ
/-- noes(h): any h of 0 .. 3 -/
theorem xw_noes (hT : gT 28 σ D) {h : Nat} (hh : h < 4) (hQ : Q (some (.int (nI (if h < dH D then dN D h else 0)))) σ) : gn_W (d + 1) 75 0 [.ref 28, .int (nI h)] [] σ Q := by
  have hle := hT.1.2.1
  (repeat (first | refine gx_run 999 80 rfl ?_ | refine gx_goto rfl rfl ?_))
  refine gx_call rfl rfl rfl ?_
  refine xw_hasHost ?_
  rw [hT.2.2.2.2.1]
  by_cases hl : h < dH D
  · rw [gb_t ⟨nI_pos (by omega), nI_ge hl (by omega)⟩]
    rw [if_pos hl] at hQ
    (repeat (first | refine gx_run 999 80 rfl ?_ | refine gx_goto rfl rfl ?_))
    first | refine gw_if rfl (fun q0 => ?_) (fun q0 => ?_) | refine gw_icmp rfl (fun q0 => ?_) (fun q0 => ?_)
    · cases q0
    (repeat (first | refine gx_run 999 80 rfl ?_ | refine gx_goto rfl rfl ?_))
    refine gx_ld h rfl (by omega) (hT.2.2.2.2.2.2.2 h hl).2 rfl rfl rfl ?_
    (repeat (first | refine gx_run 999 80 rfl ?_ | refine gx_goto rfl rfl ?_))
    refine gx_iret rfl rfl ?_
    exact hQ
  · rw [gb_f (fun q => q.2 (nI_le (by omega) (by omega)))]
    rw [if_neg hl] at hQ
    (repeat (first | refine gx_run 999 80 rfl ?_ | refine gx_goto rfl rfl ?_))
    first | refine gw_if rfl (fun q0 => ?_) (fun q0 => ?_) | refine gw_icmp rfl (fun q0 => ?_) (fun q0 => ?_)
    · (repeat (first | refine gx_run 999 80 rfl ?_ | refine gx_goto rfl rfl ?_))
      refine gx_iret rfl rfl ?_
      exact hQ
    · exact absurd rfl q0
/-- topic(g, k), k of 0 .. 5 -/
theorem xw_topic (hT : gT 28 σ D) {g k : Nat} (hg : g < dG D) (hk : k < 6) (hQ : Q (some (.int (if k < dC D g then nI (dT D g k) else -1))) σ) : gn_W (d + 1) 72 0 [.ref 28, .int (nI g), .int (nI k)] [] σ Q := by
  have hle := hT.1.1
  have hc := hT.1.2.2.2.2.1 g hg
  (repeat (first | refine gx_run 999 80 rfl ?_ | refine gx_goto rfl rfl ?_))
  refine gx_call rfl rfl rfl ?_
  refine xw_hasClaim hT hg ?_
  by_cases hl : k < dC D g
  · rw [gb_t ⟨nI_pos (by omega), nI_ge hl (by omega)⟩]
    rw [if_pos hl] at hQ
    (repeat (first | refine gx_run 999 80 rfl ?_ | refine gx_goto rfl rfl ?_))
    first | refine gw_if rfl (fun h => ?_) (fun h => ?_) | refine gw_icmp rfl (fun h => ?_) (fun h => ?_)
    · cases h
    (repeat (first | refine gx_run 999 80 rfl ?_ | refine gx_goto rfl rfl ?_))
    refine gx_ld (6 * g + k) (ix6 g k) (by omega) (hT.2.2.2.2.2.2.1 g k hg hl).1 rfl rfl rfl ?_
    (repeat (first | refine gx_run 999 80 rfl ?_ | refine gx_goto rfl rfl ?_))
    refine gx_iret rfl rfl ?_
    exact hQ
  · rw [gb_f (fun q => q.2 (nI_le (by omega) (by omega)))]
    rw [if_neg hl] at hQ
    (repeat (first | refine gx_run 999 80 rfl ?_ | refine gx_goto rfl rfl ?_))
    first | refine gw_if rfl (fun h => ?_) (fun h => ?_) | refine gw_icmp rfl (fun h => ?_) (fun h => ?_)
    · (repeat (first | refine gx_run 999 80 rfl ?_ | refine gx_goto rfl rfl ?_))
      refine gx_iret rfl rfl ?_
      exact hQ
    · exact absurd rfl h
theorem xw_bold (hT : gT 28 σ D) {g k : Nat} (hg : g < dG D) (hk : k < 6) (hQ : Q (some (.int (if k < dC D g then nI (dB D g k) else -1))) σ) : gn_W (d + 1) 73 0 [.ref 28, .int (nI g), .int (nI k)] [] σ Q := by
  have hle := hT.1.1
  have hc := hT.1.2.2.2.2.1 g hg
  (repeat (first | refine gx_run 999 80 rfl ?_ | refine gx_goto rfl rfl ?_))
  refine gx_call rfl rfl rfl ?_
  refine xw_hasClaim hT hg ?_
  by_cases hl : k < dC D g
  · rw [gb_t ⟨nI_pos (by omega), nI_ge hl (by omega)⟩]
    rw [if_pos hl] at hQ
    (repeat (first | refine gx_run 999 80 rfl ?_ | refine gx_goto rfl rfl ?_))
    first | refine gw_if rfl (fun h => ?_) (fun h => ?_) | refine gw_icmp rfl (fun h => ?_) (fun h => ?_)
    · cases h
    (repeat (first | refine gx_run 999 80 rfl ?_ | refine gx_goto rfl rfl ?_))
    refine gx_ld (6 * g + k) (ix6 g k) (by omega) (hT.2.2.2.2.2.2.1 g k hg hl).2 rfl rfl rfl ?_
    (repeat (first | refine gx_run 999 80 rfl ?_ | refine gx_goto rfl rfl ?_))
    refine gx_iret rfl rfl ?_
    exact hQ
  · rw [gb_f (fun q => q.2 (nI_le (by omega) (by omega)))]
    rw [if_neg hl] at hQ
    (repeat (first | refine gx_run 999 80 rfl ?_ | refine gx_goto rfl rfl ?_))
    first | refine gw_if rfl (fun h => ?_) (fun h => ?_) | refine gw_icmp rfl (fun h => ?_) (fun h => ?_)
    · (repeat (first | refine gx_run 999 80 rfl ?_ | refine gx_goto rfl rfl ?_))
      refine gx_iret rfl rfl ?_
      exact hQ
    · exact absurd rfl h
theorem xw_isTrue (hT : gT 28 σ D) {t : Nat} (ht : t < 8) (hQ : Q (some (.int (gb ((dF D).testBit t = true)))) σ) : gn_W d 76 0 [.ref 28, .int (nI t)] [] σ Q := by
  (repeat (first | refine gx_run 999 80 rfl ?_ | refine gx_goto rfl rfl ?_))
  rw [hT.2.2.1]
  have hb := bit_lt (t := t) hT.1.2.2.2.1 ht
  first | refine gw_if rfl (fun h => ?_) (fun h => ?_) | refine gw_icmp rfl (fun h => ?_) (fun h => ?_)
  · (repeat (first | refine gx_run 999 80 rfl ?_ | refine gx_goto rfl rfl ?_))
    refine gw_zret rfl (Or.inl rfl) ?_
    rw [gb_f (by rw [hb.mp h]; simp)] at hQ; exact hQ
  · (repeat (first | refine gx_run 999 80 rfl ?_ | refine gx_goto rfl rfl ?_))
    refine gw_zret rfl (Or.inr rfl) ?_
    have h2 : (dF D).testBit t = true := by
      cases hq : (dF D).testBit t with
      | true => rfl
      | false => exact absurd (hb.mpr hq) h
    rw [gb_t h2] at hQ; exact hQ
theorem jk_half : ∀ bd, bd ≤ 9 → nI bd / 2 = nI (bd / 2) := by decide
theorem jk_less : ∀ bd, bd ≤ 9 → (if (0 : Int32) < nI bd - 3 then nI bd - 3 else 0) = nI (bd - 3) := by decide
theorem jk_more : ∀ bd, bd ≤ 9 → nI bd + 5 = nI (bd + 5) := by decide
theorem jk_nine : ∀ bd, bd ≤ 9 → 9 - nI bd = nI (9 - bd) := by decide
theorem xw_joyByKind {kd bd : Nat} {f : Bool} (hk : kd ≤ 3) (hb : bd ≤ 9) (hQ : Q (some (.int (nI (jK kd bd f)))) σ) : gn_W (d + 1) 78 0 [.int (nI kd), .int (nI bd), .int (gb (f = true))] [] σ Q := by
  rcases (show kd = 0 ∨ kd = 1 ∨ kd = 2 ∨ kd = 3 by omega) with rfl | rfl | rfl | rfl
  · (repeat (first | refine gx_run 999 80 rfl ?_ | refine gx_goto rfl rfl ?_))
    refine gw_tsw rfl 28 (by decide) ?_
    (repeat (first | refine gx_run 999 80 rfl ?_ | refine gx_goto rfl rfl ?_))
    refine gx_iret rfl rfl ?_
    exact hQ
  · (repeat (first | refine gx_run 999 80 rfl ?_ | refine gx_goto rfl rfl ?_))
    refine gw_tsw rfl 30 (by decide) ?_
    (repeat (first | refine gx_run 999 80 rfl ?_ | refine gx_goto rfl rfl ?_))
    refine gw_idiv rfl (by decide) ?_
    refine gx_iret rfl rfl ?_
    rw [jk_half bd hb]
    exact hQ
  · (repeat (first | refine gx_run 999 80 rfl ?_ | refine gx_goto rfl rfl ?_))
    refine gw_tsw rfl 34 (by decide) ?_
    (repeat (first | refine gx_run 999 80 rfl ?_ | refine gx_goto rfl rfl ?_))
    cases f with
    | true =>
      first | refine gw_if rfl (fun q0 => ?_) (fun q0 => ?_) | refine gw_icmp rfl (fun q0 => ?_) (fun q0 => ?_)
      · cases q0
      (repeat (first | refine gx_run 999 80 rfl ?_ | refine gx_goto rfl rfl ?_))
      refine gx_iret rfl rfl ?_
      have e := jk_less bd hb
      rw [e]
      exact hQ
    | false =>
      first | refine gw_if rfl (fun q0 => ?_) (fun q0 => ?_) | refine gw_icmp rfl (fun q0 => ?_) (fun q0 => ?_)
      · (repeat (first | refine gx_run 999 80 rfl ?_ | refine gx_goto rfl rfl ?_))
        refine gx_iret rfl rfl ?_
        rw [jk_more bd hb]
        exact hQ
      · exact absurd rfl q0
  · (repeat (first | refine gx_run 999 80 rfl ?_ | refine gx_goto rfl rfl ?_))
    refine gw_tsw rfl 52 (by decide) ?_
    (repeat (first | refine gx_run 999 80 rfl ?_ | refine gx_goto rfl rfl ?_))
    refine gx_iret rfl rfl ?_
    rw [jk_nine bd hb]
    exact hQ
theorem xw_jwna (hT : gT 28 σ D) {g h k : Nat} (hg : g < dG D) (hh : h < dH D) (hk : k < 6) (hQ : Q (some (.int (if k < dC D g then nI (jP D g h k) else -1))) σ) : gn_W (d + 2) 77 0 [.ref 28, .int (nI g), .int (nI h), .int (nI k)] [] σ Q := by
  have hle := hT.1.1
  have hhe := hT.1.2.1
  have hc := hT.1.2.2.2.2.1 g hg
  (repeat (first | refine gx_run 999 80 rfl ?_ | refine gx_goto rfl rfl ?_))
  refine gx_call rfl rfl rfl ?_
  refine xw_hasClaim hT hg ?_
  by_cases hl : k < dC D g
  · rw [gb_t ⟨nI_pos (by omega), nI_ge hl (by omega)⟩]
    rw [if_pos hl] at hQ
    have hv := hT.2.2.2.2.2.2.1 g k hg hl
    have hw := hT.1.2.2.2.2.2.1 g k hg hl
    have hz := hT.2.2.2.2.2.2.2 h hh
    have hy := hT.1.2.2.2.2.2.2 h hh
    (repeat (first | refine gx_run 999 80 rfl ?_ | refine gx_goto rfl rfl ?_))
    first | refine gw_if rfl (fun q0 => ?_) (fun q0 => ?_) | refine gw_icmp rfl (fun q0 => ?_) (fun q0 => ?_)
    · cases q0
    (repeat (first | refine gx_run 999 80 rfl ?_ | refine gx_goto rfl rfl ?_))
    refine gx_call rfl rfl rfl ?_
    refine xw_hasH hT hh ?_
    (repeat (first | refine gx_run 999 80 rfl ?_ | refine gx_goto rfl rfl ?_))
    first | refine gx_ift rfl (by dsimp only [gn_cmp] <;> decide) ?_ | refine gx_ict rfl (by dsimp only [gn_cmp] <;> decide) ?_
    (repeat (first | refine gx_run 999 80 rfl ?_ | refine gx_goto rfl rfl ?_))
    refine gx_ld (6 * g + k) (ix6 g k) (by omega) hv.1 rfl rfl rfl ?_
    refine gx_call rfl rfl rfl ?_
    refine xw_isTrue hT hw.1 ?_
    (repeat (first | refine gx_run 999 80 rfl ?_ | refine gx_goto rfl rfl ?_))
    refine gx_ld h rfl (by omega) hz.1 rfl rfl rfl ?_
    (repeat (first | refine gx_run 999 80 rfl ?_ | refine gx_goto rfl rfl ?_))
    refine gx_ld (6 * g + k) (ix6 g k) (by omega) hv.2 rfl rfl rfl ?_
    (repeat (first | refine gx_run 999 80 rfl ?_ | refine gx_goto rfl rfl ?_))
    refine gw_calls rfl rfl rfl ?_
    refine xw_joyByKind hy.1 hw.2 ?_
    (repeat (first | refine gx_run 999 80 rfl ?_ | refine gx_goto rfl rfl ?_))
    unfold jP at hQ
    cases hf : (dF D).testBit (dT D g k) with
    | true =>
      rw [hf] at hQ
      first | refine gw_if rfl (fun q2 => ?_) (fun q2 => ?_) | refine gw_icmp rfl (fun q2 => ?_) (fun q2 => ?_)
      · cases q2
      (repeat (first | refine gx_run 999 80 rfl ?_ | refine gx_goto rfl rfl ?_))
      refine gx_ld g rfl (by omega) (hT.2.2.2.2.2.1 g hg).1 rfl rfl rfl ?_
      (repeat (first | refine gx_run 999 80 rfl ?_ | refine gx_goto rfl rfl ?_))
      refine gx_iret rfl rfl ?_
      rw [nI_add]
      exact hQ
    | false =>
      rw [hf] at hQ
      first | refine gw_if rfl (fun q2 => ?_) (fun q2 => ?_) | refine gw_icmp rfl (fun q2 => ?_) (fun q2 => ?_)
      · (repeat (first | refine gx_run 999 80 rfl ?_ | refine gx_goto rfl rfl ?_))
        refine gx_iret rfl rfl ?_
        exact hQ
      · exact absurd rfl q2
  · rw [gb_f (fun q => q.2 (nI_le (by omega) (by omega)))]
    rw [if_neg hl] at hQ
    (repeat (first | refine gx_run 999 80 rfl ?_ | refine gx_goto rfl rfl ?_))
    first | refine gw_if rfl (fun q0 => ?_) (fun q0 => ?_) | refine gw_icmp rfl (fun q0 => ?_) (fun q0 => ?_)
    · (repeat (first | refine gx_run 999 80 rfl ?_ | refine gx_goto rfl rfl ?_))
      refine gx_iret rfl rfl ?_
      exact hQ
    · exact absurd rfl q0
/-- no host: NONE -/
theorem xw_jwnaN (hT : gT 28 σ D) {g : Nat} {k : Int32} (hg : g < dG D) (hQ : Q (some (.int (-1))) σ) : gn_W (d + 2) 77 0 [.ref 28, .int (nI g), .int (-1), .int k] [] σ Q := by
  (repeat (first | refine gx_run 999 80 rfl ?_ | refine gx_goto rfl rfl ?_))
  refine gx_call rfl rfl rfl ?_
  refine xw_hasClaim hT hg ?_
  (repeat (first | refine gx_run 999 80 rfl ?_ | refine gx_goto rfl rfl ?_))
  first | refine gw_if rfl (fun q0 => ?_) (fun q0 => ?_) | refine gw_icmp rfl (fun q0 => ?_) (fun q0 => ?_)
  · (repeat (first | refine gx_run 999 80 rfl ?_ | refine gx_goto rfl rfl ?_))
    refine gx_iret rfl rfl ?_
    exact hQ
  · (repeat (first | refine gx_run 999 80 rfl ?_ | refine gx_goto rfl rfl ?_))
    refine gx_call rfl rfl rfl ?_
    refine xw_hasHost ?_
    rw [gb_f (fun q => q.1 (by decide))]
    (repeat (first | refine gx_run 999 80 rfl ?_ | refine gx_goto rfl rfl ?_))
    first | refine gw_if rfl (fun q1 => ?_) (fun q1 => ?_) | refine gw_icmp rfl (fun q1 => ?_) (fun q1 => ?_)
    · exact absurd rfl q1
    · (repeat (first | refine gx_run 999 80 rfl ?_ | refine gx_goto rfl rfl ?_))
      refine gx_iret rfl rfl ?_
      exact hQ
theorem nI_ne1 {n : Nat} (h : n < 2 ^ 31) : ¬ nI n = -1 := fun e => nI_pos h (by rw [e]; decide)
theorem xw_joyOf (hT : gT 28 σ D) {g h k : Nat} (hg : g < dG D) (hh : h < dH D) (hk : k < 6) (hQ : Q (some (.int (if k < dC D g then nI (jP D g h k + k) else -1))) σ) : gn_W (d + 3) 79 0 [.ref 28, .int (nI g), .int (nI h), .int (nI k)] [] σ Q := by
  (repeat (first | refine gx_run 999 80 rfl ?_ | refine gx_goto rfl rfl ?_))
  refine gx_call rfl rfl rfl ?_
  refine xw_jwna hT hg hh hk ?_
  by_cases hl : k < dC D g
  · rw [if_pos hl] at hQ ⊢
    have hb := hT.1.jP hg hh hl
    (repeat (first | refine gx_run 999 80 rfl ?_ | refine gx_goto rfl rfl ?_))
    first | refine gw_if rfl (fun q0 => ?_) (fun q0 => ?_) | refine gw_icmp rfl (fun q0 => ?_) (fun q0 => ?_)
    · (repeat (first | refine gx_run 999 80 rfl ?_ | refine gx_goto rfl rfl ?_))
      refine gx_iret rfl rfl ?_
      rw [nI_add]
      exact hQ
    · exact absurd (nI_ne1 (by omega)) q0
  · rw [if_neg hl] at hQ ⊢
    (repeat (first | refine gx_run 999 80 rfl ?_ | refine gx_goto rfl rfl ?_))
    first | refine gw_if rfl (fun q0 => ?_) (fun q0 => ?_) | refine gw_icmp rfl (fun q0 => ?_) (fun q0 => ?_)
    · exact absurd rfl q0
    · (repeat (first | refine gx_run 999 80 rfl ?_ | refine gx_goto rfl rfl ?_))
      refine gx_iret rfl rfl ?_
      exact hQ
theorem xw_joyOfN (hT : gT 28 σ D) {g : Nat} {k : Int32} (hg : g < dG D) (hQ : Q (some (.int (-1))) σ) : gn_W (d + 3) 79 0 [.ref 28, .int (nI g), .int (-1), .int k] [] σ Q := by
  (repeat (first | refine gx_run 999 80 rfl ?_ | refine gx_goto rfl rfl ?_))
  refine gx_call rfl rfl rfl ?_
  refine xw_jwnaN hT hg ?_
  (repeat (first | refine gx_run 999 80 rfl ?_ | refine gx_goto rfl rfl ?_))
  first | refine gw_if rfl (fun q0 => ?_) (fun q0 => ?_) | refine gw_icmp rfl (fun q0 => ?_) (fun q0 => ?_)
  · exact absurd rfl q0
  · (repeat (first | refine gx_run 999 80 rfl ?_ | refine gx_goto rfl rfl ?_))
    refine gx_iret rfl rfl ?_
    exact hQ
end
end
section
/-! the class's Table: loops -/
def gfi (p : Nat → Bool) : Nat → Option Nat
  | 0 => none
  | n + 1 => match gfi p n with
    | some k => some k
    | none => if p n then some n else none
theorem gfi_none {p : Nat → Bool} {n : Nat} (h : ∀ j, j < n → p j = false) : gfi p n = none := by
  induction n with
  | zero => rfl
  | succ n ih =>
    unfold gfi
    rw [ih (fun j hj => h j (by omega))]
    dsimp only
    rw [h n (by omega)]
    rfl
theorem gfi_some {p : Nat → Bool} {n i : Nat} (hi : i < n) (hp : p i = true) (h : ∀ j, j < i → p j = false) : gfi p n = some i := by
  induction n with
  | zero => omega
  | succ n ih =>
    unfold gfi
    by_cases e : i = n
    · subst e
      rw [gfi_none h]
      dsimp only
      rw [hp]
      rfl
    · rw [ih (by omega)]
def eo : Option Nat → Int32
  | none => -1
  | some k => nI k
section
variable {d mi pc : Nat} {Q : Option Value → gn_Mem → Prop} {σ : gn_Mem}
/-- a loop that may end early, without a change of memory -/
theorem gw_forE (n : Nat) (p : Nat → Bool) (lf : Nat → List Value) (hb : ∀ i, i < n → p i = false → gn_W d mi pc (lf (i + 1)) [] σ Q → gn_W d mi pc (lf i) [] σ Q) (hs : ∀ i, i < n → p i = true → gfi p n = some i → gn_W d mi pc (lf i) [] σ Q) (hx : gfi p n = none → gn_W d mi pc (lf n) [] σ Q) : gn_W d mi pc (lf 0) [] σ Q := by
  have key : ∀ m i, m + i = n → (∀ j, j < i → p j = false) → gn_W d mi pc (lf i) [] σ Q := by
    intro m
    induction m with
    | zero =>
      intro i hi hj
      have e : i = n := by omega
      subst e
      exact hx (gfi_none hj)
    | succ m ih =>
      intro i hi hj
      cases hp : p i with
      | true => exact hs i (by omega) hp (gfi_some (by omega) hp hj)
      | false =>
        refine hb i (by omega) hp (ih (i + 1) (by omega) ?_)
        intro j hj2
        by_cases e : j = i
        · rw [e]; exact hp
        · exact hj j (by omega)
  exact key n 0 (by omega) (fun j hj => by omega)
end
def mxJ (D : gD) (g h f : Nat) : Nat → Nat
  | 0 => 0
  | n + 1 => max (mxJ D g h f n) (jP D g h (f + n) + (f + n))
theorem mx0 {f : Nat} (h : f < 2 ^ 31) : (if (0 : Int32) < nI f then nI f else 0) = nI f := by
  by_cases e : f = 0
  · subst e; rfl
  · have h0 : (0 : Int32) < nI f := nI_lt (a := 0) (by omega) h
    rw [if_pos h0]
theorem nI_max {a b : Nat} (ha : a < 2 ^ 31) (hb : b < 2 ^ 31) : (if nI a < nI b then nI b else nI a) = nI (max a b) := by
  by_cases h : a < b
  · rw [if_pos (nI_lt h hb), Nat.max_eq_right (by omega)]
  · rw [if_neg (nI_nlt (by omega) ha), Nat.max_eq_left (by omega)]
theorem gW.mxJ {D : gD} (hW : gW D) {g h f n : Nat} (hg : g < dG D) (hh : h < dH D) (hf : f + n ≤ dC D g) : mxJ D g h f n ≤ 28 := by
  have hc := (hW.2.2.2.2.1 g hg).2.2
  induction n with
  | zero => exact Nat.zero_le _
  | succ n ih =>
    have h1 := ih (by omega)
    have h2 := hW.jP hg hh (k := f + n) (by omega)
    simp only [_root_.Jvm.Pilot.CGuestNoesLaw_law_r7866_5d6c8b.mxJ]
    omega
/-- the class's loop, to the sixth claim -/
def xmJ (D : gD) (g h f : Nat) (i : Nat) (y : Int32) : Int32 := if y < (if f + i < dC D g then nI (jP D g h (f + i) + (f + i)) else -1) then (if f + i < dC D g then nI (jP D g h (f + i) + (f + i)) else -1) else y
theorem xmJ_eq {D : gD} (hW : gW D) {g h f n : Nat} (hg : g < dG D) (hh : h < dH D) (hf : f < dC D g) : gf (xmJ D g h f) n (-1) = if n = 0 then -1 else nI (mxJ D g h f (min n (dC D g - f))) := by
  induction n with
  | zero => rfl
  | succ n ih =>
    rw [if_neg (by omega)]
    show xmJ D g h f n (gf (xmJ D g h f) n (-1)) = _
    rw [ih]
    unfold xmJ
    by_cases hl : f + n < dC D g
    · have hb := hW.jP hg hh hl
      have hc := (hW.2.2.2.2.1 g hg).2.2
      rw [if_pos hl, show min (n + 1) (dC D g - f) = n + 1 by omega]
      by_cases e : n = 0
      · subst e
        rw [if_pos rfl]
        have hb : jP D g h f ≤ 23 := hb
        simp only [mxJ, Nat.add_zero, Nat.zero_max]
        rw [if_pos]
        have : (-1 : Int32) < 0 := by decide
        rw [Int32.lt_iff_toInt_lt] at this ⊢
        rw [nI_toInt (by omega)]
        have e2 : (-1 : Int32).toInt = -1 := by decide
        omega
      · rw [if_neg e, show min n (dC D g - f) = n by omega]
        have h3 := hW.mxJ (n := n) (f := f) hg hh (by omega)
        rw [nI_max (by omega) (by omega)]
        rfl
    · rw [if_neg hl]
      have e : n ≠ 0 := by omega
      rw [if_neg e, show min n (dC D g - f) = dC D g - f by omega, show min (n + 1) (dC D g - f) = dC D g - f by omega]
      have h3 := hW.mxJ (n := dC D g - f) (f := f) hg hh (by omega)
      rw [if_neg]
      rw [Int32.lt_iff_toInt_lt, nI_toInt (by omega)]
      have e2 : (-1 : Int32).toInt = -1 := by decide
      omega
section
variable {d : Nat} {σ : gn_Mem} {Q : Option Value → gn_Mem → Prop} {D : gD}
theorem xw_mjf (hT : gT 28 σ D) {g h f : Nat} (hg : g < dG D) (hh : h < dH D) (hf : f < dC D g) (hQ : Q (some (.int (nI (mxJ D g h f (dC D g - f))))) σ) : gn_W (d + 4) 80 0 [.ref 28, .int (nI f), .int (nI g), .int (nI h)] [] σ Q := by
  have hc := hT.1.2.2.2.2.1 g hg
  (refine gw_run 10 80 rfl ?_)
  rw [mx0 (by omega)]
  refine gw_for (6 - f) (xmJ D g h f) (fun _ _ => True) (fun i y => [.ref 28, .int (nI f), .int (nI g), .int (nI h), .int y, .int (nI (f + i))]) (fun _ => σ) (-1) trivial (fun _ _ _ _ => trivial) ?_ ?_
  · intro i y hi _ hn
    (repeat (first | refine gx_run 999 80 rfl ?_ | refine gx_goto rfl rfl ?_))
    first | refine gx_iff rfl (nI_ge (b := 6) (by omega) (by omega)) ?_ | refine gx_icf rfl (nI_ge (b := 6) (by omega) (by omega)) ?_
    (repeat (first | refine gx_run 999 80 rfl ?_ | refine gx_goto rfl rfl ?_))
    refine gx_call rfl rfl rfl ?_
    refine xw_joyOf hT hg hh (by omega) ?_
    (repeat (first | refine gx_run 999 80 rfl ?_ | refine gx_goto rfl rfl ?_))
    refine gw_goto rfl ?_
    rw [nI_1]
    exact hn
  · intro _
    (repeat (first | refine gx_run 999 80 rfl ?_ | refine gx_goto rfl rfl ?_))
    first | refine gx_ift rfl (nI_le (a := 6) (by omega) (by omega)) ?_ | refine gx_ict rfl (nI_le (a := 6) (by omega) (by omega)) ?_
    (repeat (first | refine gx_run 999 80 rfl ?_ | refine gx_goto rfl rfl ?_))
    refine gx_iret rfl rfl ?_
    rw [xmJ_eq hT.1 hg hh hf, if_neg (by omega), show min (6 - f) (dC D g - f) = dC D g - f by omega]
    exact hQ
theorem xw_mjfN (hT : gT 28 σ D) {g f : Nat} (hg : g < dG D) (hf : f < 6) (hQ : Q (some (.int (-1))) σ) : gn_W (d + 4) 80 0 [.ref 28, .int (nI f), .int (nI g), .int (-1)] [] σ Q := by
  (refine gw_run 10 80 rfl ?_)
  rw [mx0 (by omega)]
  refine gw_for (6 - f) (fun _ y => y) (fun _ y => y = -1) (fun i y => [.ref 28, .int (nI f), .int (nI g), .int (-1), .int y, .int (nI (f + i))]) (fun _ => σ) (-1) rfl (fun _ _ _ h => h) ?_ ?_
  · intro i y hi hy hn
    subst hy
    (repeat (first | refine gx_run 999 80 rfl ?_ | refine gx_goto rfl rfl ?_))
    first | refine gx_iff rfl (nI_ge (b := 6) (by omega) (by omega)) ?_ | refine gx_icf rfl (nI_ge (b := 6) (by omega) (by omega)) ?_
    (repeat (first | refine gx_run 999 80 rfl ?_ | refine gx_goto rfl rfl ?_))
    refine gx_call rfl rfl rfl ?_
    refine xw_joyOfN hT hg ?_
    (repeat (first | refine gx_run 999 80 rfl ?_ | refine gx_goto rfl rfl ?_))
    refine gw_goto rfl ?_
    rw [nI_1]
    exact hn
  · intro h1
    rw [h1]
    (repeat (first | refine gx_run 999 80 rfl ?_ | refine gx_goto rfl rfl ?_))
    first | refine gx_ift rfl (nI_le (a := 6) (by omega) (by omega)) ?_ | refine gx_ict rfl (nI_le (a := 6) (by omega) (by omega)) ?_
    (repeat (first | refine gx_run 999 80 rfl ?_ | refine gx_goto rfl rfl ?_))
    refine gx_iret rfl rfl ?_
    exact hQ
/-- WRONG AT -/
def wA (D : gD) (g : Nat) : Option Nat := gfi (fun k => !(dF D).testBit (dT D g k)) (dC D g)
theorem xw_wrongAt (hT : gT 28 σ D) {g : Nat} (hg : g < dG D) (hQ : Q (some (.int (eo (wA D g)))) σ) : gn_W (d + 2) 81 0 [.ref 28, .int (nI g)] [] σ Q := by
  have hc := hT.1.2.2.2.2.1 g hg
  (repeat (first | refine gx_run 999 80 rfl ?_ | refine gx_goto rfl rfl ?_))
  refine gx_call rfl rfl rfl ?_
  refine xw_claimCount hT hg ?_
  (refine gw_run 8 80 rfl ?_)
  refine gw_forE (dC D g) (fun k => !(dF D).testBit (dT D g k)) (fun i => [.ref 28, .int (nI g), .int (nI (dC D g)), .int (nI i)]) ?_ ?_ ?_
  · intro i hi hp hn
    (repeat (first | refine gx_run 999 80 rfl ?_ | refine gx_goto rfl rfl ?_))
    first | refine gx_iff rfl (nI_ge hi (by omega)) ?_ | refine gx_icf rfl (nI_ge hi (by omega)) ?_
    (repeat (first | refine gx_run 999 80 rfl ?_ | refine gx_goto rfl rfl ?_))
    refine gx_call rfl rfl rfl ?_
    refine xw_topic hT hg (by omega) ?_
    rw [if_pos hi]
    (repeat (first | refine gx_run 999 80 rfl ?_ | refine gx_goto rfl rfl ?_))
    refine gx_call rfl rfl rfl ?_
    refine xw_isTrue hT (hT.1.2.2.2.2.2.1 g i hg hi).1 ?_
    rw [gb_t (by simpa using hp)]
    (repeat (first | refine gx_run 999 80 rfl ?_ | refine gx_goto rfl rfl ?_))
    first | refine gx_ift rfl (by dsimp only [gn_cmp] <;> decide) ?_ | refine gx_ict rfl (by dsimp only [gn_cmp] <;> decide) ?_
    (repeat (first | refine gx_run 999 80 rfl ?_ | refine gx_goto rfl rfl ?_))
    refine gw_goto rfl ?_
    rw [nI_1]
    exact hn
  · intro i hi hp he
    (repeat (first | refine gx_run 999 80 rfl ?_ | refine gx_goto rfl rfl ?_))
    first | refine gx_iff rfl (nI_ge hi (by omega)) ?_ | refine gx_icf rfl (nI_ge hi (by omega)) ?_
    (repeat (first | refine gx_run 999 80 rfl ?_ | refine gx_goto rfl rfl ?_))
    refine gx_call rfl rfl rfl ?_
    refine xw_topic hT hg (by omega) ?_
    rw [if_pos hi]
    (repeat (first | refine gx_run 999 80 rfl ?_ | refine gx_goto rfl rfl ?_))
    refine gx_call rfl rfl rfl ?_
    refine xw_isTrue hT (hT.1.2.2.2.2.2.1 g i hg hi).1 ?_
    rw [gb_f (by simpa using hp)]
    (repeat (first | refine gx_run 999 80 rfl ?_ | refine gx_goto rfl rfl ?_))
    first | refine gx_iff rfl (by dsimp only [gn_cmp] <;> decide) ?_ | refine gx_icf rfl (by dsimp only [gn_cmp] <;> decide) ?_
    (repeat (first | refine gx_run 999 80 rfl ?_ | refine gx_goto rfl rfl ?_))
    refine gx_iret rfl rfl ?_
    unfold wA at hQ
    rw [he] at hQ
    exact hQ
  · intro he
    (repeat (first | refine gx_run 999 80 rfl ?_ | refine gx_goto rfl rfl ?_))
    first | refine gx_ift rfl (nI_le (Nat.le_refl _) (by omega)) ?_ | refine gx_ict rfl (nI_le (Nat.le_refl _) (by omega)) ?_
    (repeat (first | refine gx_run 999 80 rfl ?_ | refine gx_goto rfl rfl ?_))
    refine gx_iret rfl rfl ?_
    unfold wA at hQ
    rw [he] at hQ
    exact hQ
/-- the bit of g -/
abbrev bt (g : Nat) : Int32 := 1 <<< (nI g &&& 31)
/-- RIGHT -/
def sR (D : gD) : Int32 := gf (fun g s => if wA D g = none then s ||| bt g else s) (dG D) 0
theorem eo_none {o : Option Nat} {n : Nat} (hn : ∀ k, o = some k → k < n) (h : n < 2 ^ 31) : eo o = -1 ↔ o = none := by
  cases o with
  | none => simp [eo]
  | some k =>
    have h1 := hn k rfl
    constructor
    · intro h2
      exact absurd h2 (nI_ne1 (by omega))
    · intro h2; cases h2
theorem gfi_lt {p : Nat → Bool} {n k : Nat} (h : gfi p n = some k) : k < n := by
  induction n with
  | zero => cases h
  | succ n ih =>
    unfold gfi at h
    cases hg : gfi p n with
    | some j =>
      rw [hg] at h ih
      dsimp only at h
      have := ih h
      omega
    | none =>
      rw [hg] at h
      dsimp only at h
      split at h
      · cases h; omega
      · cases h
theorem wA_none {D : gD} (hW : gW D) {g : Nat} (hg : g < dG D) : eo (wA D g) = -1 ↔ wA D g = none := by
  have hc := hW.2.2.2.2.1 g hg
  exact eo_none (n := dC D g) (fun k h => gfi_lt h) (by omega)
theorem xw_whoIsRight (hT : gT 28 σ D) (hQ : Q (some (.int (sR D))) σ) : gn_W (d + 3) 82 0 [.ref 28] [] σ Q := by
  have hle := hT.1.1
  (refine gw_run 4 80 rfl ?_)
  refine gw_for (dG D) (fun g s => if wA D g = none then s ||| bt g else s) (fun _ _ => True) (fun i y => [.ref 28, .int y, .int (nI i)]) (fun _ => σ) 0 trivial (fun _ _ _ _ => trivial) ?_ ?_
  · intro i y hi _ hn
    (repeat (first | refine gx_run 999 80 rfl ?_ | refine gx_goto rfl rfl ?_))
    rw [hT.2.2.2.1]
    first | refine gx_iff rfl (nI_ge hi (by omega)) ?_ | refine gx_icf rfl (nI_ge hi (by omega)) ?_
    (repeat (first | refine gx_run 999 80 rfl ?_ | refine gx_goto rfl rfl ?_))
    refine gx_call rfl rfl rfl ?_
    refine xw_wrongAt hT hi ?_
    (repeat (first | refine gx_run 999 80 rfl ?_ | refine gx_goto rfl rfl ?_))
    by_cases hw : wA D i = none
    · simp only [if_pos hw] at hn
      first | refine gx_iff rfl (fun q => q ((wA_none hT.1 hi).mpr hw)) ?_ | refine gx_icf rfl (fun q => q ((wA_none hT.1 hi).mpr hw)) ?_
      (repeat (first | refine gx_run 999 80 rfl ?_ | refine gx_goto rfl rfl ?_))
      refine gw_goto rfl ?_
      rw [nI_1]
      exact hn
    · simp only [if_neg hw] at hn
      first | refine gx_ift rfl (fun q => hw ((wA_none hT.1 hi).mp q)) ?_ | refine gx_ict rfl (fun q => hw ((wA_none hT.1 hi).mp q)) ?_
      (repeat (first | refine gx_run 999 80 rfl ?_ | refine gx_goto rfl rfl ?_))
      refine gw_goto rfl ?_
      rw [nI_1]
      exact hn
  · intro _
    (repeat (first | refine gx_run 999 80 rfl ?_ | refine gx_goto rfl rfl ?_))
    rw [hT.2.2.2.1]
    first | refine gx_ift rfl (nI_le (Nat.le_refl _) (by omega)) ?_ | refine gx_ict rfl (nI_le (Nat.le_refl _) (by omega)) ?_
    (repeat (first | refine gx_run 999 80 rfl ?_ | refine gx_goto rfl rfl ?_))
    refine gx_iret rfl rfl ?_
    exact hQ
theorem dSn_lt {D : gD} (hW : gW D) {g n : Nat} (hg : g < dG D) (hn : n ≤ dC D g) : dSn D g n < 256 := by
  induction n with
  | zero => show 0 < 256; omega
  | succ n ih =>
    show dSn D g n ||| 2 ^ dT D g n < 2 ^ 8
    refine Nat.or_lt_two_pow (ih (by omega)) ?_
    exact Nat.pow_lt_pow_right (by omega) (hW.2.2.2.2.2.1 g n hg (by omega)).1
theorem dS_lt {D : gD} (hW : gW D) {g : Nat} (hg : g < dG D) : dS D g < 256 := dSn_lt hW hg (Nat.le_refl _)
theorem xw_claimsTopic (hT : gT 28 σ D) {g t : Nat} (hg : g < dG D) (ht : t < 8) (hQ : Q (some (.int (gb ((dS D g).testBit t = true)))) σ) : gn_W (d + 2) 84 0 [.ref 28, .int (nI g), .int (nI t)] [] σ Q := by
  (repeat (first | refine gx_run 999 80 rfl ?_ | refine gx_goto rfl rfl ?_))
  refine gx_call rfl rfl rfl ?_
  refine xw_topicsOf hT hg ?_
  (repeat (first | refine gx_run 999 80 rfl ?_ | refine gx_goto rfl rfl ?_))
  have hb := bit_lt (t := t) (dS_lt hT.1 hg) ht
  first | refine gw_if rfl (fun h => ?_) (fun h => ?_) | refine gw_icmp rfl (fun h => ?_) (fun h => ?_)
  · (repeat (first | refine gx_run 999 80 rfl ?_ | refine gx_goto rfl rfl ?_))
    refine gw_zret rfl (Or.inl rfl) ?_
    rw [gb_f (by rw [hb.mp h]; simp)] at hQ; exact hQ
  · (repeat (first | refine gx_run 999 80 rfl ?_ | refine gx_goto rfl rfl ?_))
    refine gw_zret rfl (Or.inr rfl) ?_
    have h2 : (dS D g).testBit t = true := by
      cases hq : (dS D g).testBit t with
      | true => rfl
      | false => exact absurd (hb.mpr hq) h
    rw [gb_t h2] at hQ; exact hQ
/-- NOBODY'S -/
def sN (D : gD) : Int32 := gf (fun g s => s &&& (nI (dS D g) ^^^ -1)) (dG D) 255
theorem xw_nobody (hT : gT 28 σ D) (hQ : Q (some (.int (sN D))) σ) : gn_W (d + 2) 85 0 [.ref 28] [] σ Q := by
  have hle := hT.1.1
  (refine gw_run 6 80 rfl ?_)
  refine gw_for (dG D) (fun g s => s &&& (nI (dS D g) ^^^ -1)) (fun _ _ => True) (fun i y => [.ref 28, .int y, .int (nI i)]) (fun _ => σ) 255 trivial (fun _ _ _ _ => trivial) ?_ ?_
  · intro i y hi _ hn
    (repeat (first | refine gx_run 999 80 rfl ?_ | refine gx_goto rfl rfl ?_))
    rw [hT.2.2.2.1]
    first | refine gx_iff rfl (nI_ge hi (by omega)) ?_ | refine gx_icf rfl (nI_ge hi (by omega)) ?_
    (repeat (first | refine gx_run 999 80 rfl ?_ | refine gx_goto rfl rfl ?_))
    refine gx_call rfl rfl rfl ?_
    refine xw_topicsOf hT hi ?_
    (repeat (first | refine gx_run 999 80 rfl ?_ | refine gx_goto rfl rfl ?_))
    refine gw_goto rfl ?_
    rw [nI_1]
    exact hn
  · intro _
    (repeat (first | refine gx_run 999 80 rfl ?_ | refine gx_goto rfl rfl ?_))
    rw [hT.2.2.2.1]
    first | refine gx_ift rfl (nI_le (Nat.le_refl _) (by omega)) ?_ | refine gx_ict rfl (nI_le (Nat.le_refl _) (by omega)) ?_
    (repeat (first | refine gx_run 999 80 rfl ?_ | refine gx_goto rfl rfl ?_))
    refine gx_iret rfl rfl ?_
    exact hQ
/-- the boldest claim of a guest on a topic, or NONE -/
def bN (D : gD) (g t : Nat) : Int32 := gf (fun k y => if dT D g k = t then (if y < nI (dB D g k) then nI (dB D g k) else y) else y) (dC D g) (-1)
theorem xw_boldnessOn (hT : gT 28 σ D) {g t : Nat} (hg : g < dG D) (ht : t < 8) (hQ : Q (some (.int (bN D g t))) σ) : gn_W (d + 2) 87 0 [.ref 28, .int (nI g), .int (nI t)] [] σ Q := by
  have hc := hT.1.2.2.2.2.1 g hg
  (repeat (first | refine gx_run 999 80 rfl ?_ | refine gx_goto rfl rfl ?_))
  refine gx_call rfl rfl rfl ?_
  refine xw_claimCount hT hg ?_
  (refine gw_run 12 80 rfl ?_)
  refine gw_for (dC D g) (fun k y => if dT D g k = t then (if y < nI (dB D g k) then nI (dB D g k) else y) else y) (fun _ _ => True) (fun i y => [.ref 28, .int (nI g), .int (nI t), .int y, .int (nI (dC D g)), .int (nI i)]) (fun _ => σ) (-1) trivial (fun _ _ _ _ => trivial) ?_ ?_
  · intro i y hi _ hn
    have hv := (hT.1.2.2.2.2.2.1 g i hg hi)
    (repeat (first | refine gx_run 999 80 rfl ?_ | refine gx_goto rfl rfl ?_))
    first | refine gx_iff rfl (nI_ge hi (by omega)) ?_ | refine gx_icf rfl (nI_ge hi (by omega)) ?_
    (repeat (first | refine gx_run 999 80 rfl ?_ | refine gx_goto rfl rfl ?_))
    refine gx_call rfl rfl rfl ?_
    refine xw_topic hT hg (by omega) ?_
    rw [if_pos hi]
    (repeat (first | refine gx_run 999 80 rfl ?_ | refine gx_goto rfl rfl ?_))
    by_cases hw : dT D g i = t
    · simp only [if_pos hw] at hn
      first | refine gx_iff rfl (fun q => q (by rw [hw])) ?_ | refine gx_icf rfl (fun q => q (by rw [hw])) ?_
      (repeat (first | refine gx_run 999 80 rfl ?_ | refine gx_goto rfl rfl ?_))
      refine gx_call rfl rfl rfl ?_
      refine xw_bold hT hg (by omega) ?_
      rw [if_pos hi]
      (repeat (first | refine gx_run 999 80 rfl ?_ | refine gx_goto rfl rfl ?_))
      refine gw_goto rfl ?_
      rw [nI_1]
      exact hn
    · simp only [if_neg hw] at hn
      first | refine gx_ift rfl (fun q => hw ((nI_eq (by omega) (by omega)).mp q)) ?_ | refine gx_ict rfl (fun q => hw ((nI_eq (by omega) (by omega)).mp q)) ?_
      (repeat (first | refine gx_run 999 80 rfl ?_ | refine gx_goto rfl rfl ?_))
      refine gw_goto rfl ?_
      rw [nI_1]
      exact hn
  · intro _
    (repeat (first | refine gx_run 999 80 rfl ?_ | refine gx_goto rfl rfl ?_))
    first | refine gx_ift rfl (nI_le (Nat.le_refl _) (by omega)) ?_ | refine gx_ict rfl (nI_le (Nat.le_refl _) (by omega)) ?_
    (repeat (first | refine gx_run 999 80 rfl ?_ | refine gx_goto rfl rfl ?_))
    refine gx_iret rfl rfl ?_
    exact hQ
/-- BOLDEST: the guest, and how bold -/
def sB (D : gD) (t : Nat) : Int32 × Int32 := gf (fun g y => if y.2 < bN D g t then (nI g, bN D g t) else y) (dG D) (-1, -1)
theorem xw_boldest (hT : gT 28 σ D) {t : Nat} (ht : t < 8) (hQ : Q (some (.int (sB D t).1)) σ) : gn_W (d + 3) 86 0 [.ref 28, .int (nI t)] [] σ Q := by
  have hle := hT.1.1
  (refine gw_run 7 80 rfl ?_)
  refine gw_for (dG D) (fun g y => if y.2 < bN D g t then (nI g, bN D g t) else y) (fun _ _ => True) (fun i y => [.ref 28, .int (nI t), .int y.1, .int y.2, .int (nI i)]) (fun _ => σ) ((-1 : Int32), (-1 : Int32)) trivial (fun _ _ _ _ => trivial) ?_ ?_
  · intro i y hi _ hn
    (repeat (first | refine gx_run 999 80 rfl ?_ | refine gx_goto rfl rfl ?_))
    rw [hT.2.2.2.1]
    first | refine gx_iff rfl (nI_ge hi (by omega)) ?_ | refine gx_icf rfl (nI_ge hi (by omega)) ?_
    (repeat (first | refine gx_run 999 80 rfl ?_ | refine gx_goto rfl rfl ?_))
    refine gx_call rfl rfl rfl ?_
    refine xw_boldnessOn hT hi ht ?_
    (repeat (first | refine gx_run 999 80 rfl ?_ | refine gx_goto rfl rfl ?_))
    by_cases hw : y.2 < bN D i t
    · simp only [if_pos hw] at hn
      first | refine gx_iff rfl (fun q => absurd hw (Int32.not_lt.mpr q)) ?_ | refine gx_icf rfl (fun q => absurd hw (Int32.not_lt.mpr q)) ?_
      (repeat (first | refine gx_run 999 80 rfl ?_ | refine gx_goto rfl rfl ?_))
      refine gw_goto rfl ?_
      rw [nI_1]
      exact gx_drop [_, _, _, _, _] [_] (by rfl) hn
    · simp only [if_neg hw] at hn
      first | refine gx_ift rfl (Int32.not_lt.mp hw) ?_ | refine gx_ict rfl (Int32.not_lt.mp hw) ?_
      (repeat (first | refine gx_run 999 80 rfl ?_ | refine gx_goto rfl rfl ?_))
      refine gw_goto rfl ?_
      rw [nI_1]
      exact gx_drop [_, _, _, _, _] [_] (by rfl) hn
  · intro _
    (repeat (first | refine gx_run 999 80 rfl ?_ | refine gx_goto rfl rfl ?_))
    rw [hT.2.2.2.1]
    first | refine gx_ift rfl (nI_le (Nat.le_refl _) (by omega)) ?_ | refine gx_ict rfl (nI_le (Nat.le_refl _) (by omega)) ?_
    (repeat (first | refine gx_run 999 80 rfl ?_ | refine gx_goto rfl rfl ?_))
    refine gx_iret rfl rfl ?_
    exact hQ
end
end
section
/-! the class's Night: what it holds, and its questions -/
def e1 : Nat → Int32
  | 0 => -1
  | h + 1 => nI h
def vv (k n : Nat) : Int32 := if 6 ≤ k ∧ k < 18 then e1 n else nI n
/-- the class's place of a number to the reference's -/
def rho (j : Nat) : Nat := if j < 18 then j else if j < 22 then j + 2 else if j = 22 then 18 else if j = 23 then 19 else j
abbrev gA : Type := Nat → Nat
def aup (A : gA) (k n : Nat) : gA := fun j => if j = k then n else A j
def xR (f : Nat → Int32) (A : gA) : Prop := ∀ j, j < 28 → f j = vv (rho j) (A (rho j))
def mR (f : Nat → Int32) (A : gA) : Prop := ∀ k, k < 28 → f k = vv k (A k)
/-- a night's bounds, by its evening -/
def wA2 (D : gD) (A : gA) : Prop := (∀ g, g < dG D → A g ≤ dC D g ∧ A (6 + g) ≤ dH D ∧ (A (6 + g) = 0 ↔ A (12 + g) = 0) ∧ A (12 + g) ≤ A g) ∧ (∀ g, dG D ≤ g → g < 6 → A g = 0 ∧ A (6 + g) = 0 ∧ A (12 + g) = 0) ∧ (∀ h, h < 4 → A (20 + h) ≤ 9) ∧ A 18 < 64 ∧ A 19 < 64 ∧ A 24 ≤ 999999 ∧ A 25 ≤ 999999 ∧ A 26 ≤ 90020 ∧ A 27 ≤ 90000
theorem rho_inj : ∀ i, i < 28 → ∀ j, j < 28 → rho i = rho j → i = j := by decide
theorem rho_lt : ∀ i, i < 28 → rho i < 28 := by decide
theorem xR.upd {f : Nat → Int32} {A : gA} (h : xR f A) {j n : Nat} {v : Int32} (hj : j < 28) (hv : v = vv (rho j) n) : xR (upd f j v) (aup A (rho j) n) := by
  intro i hi
  unfold _root_.Jvm.Pilot.CGuestNoesLaw_law_r7866_5d6c8b.upd aup
  by_cases e : i = j
  · subst e
    rw [if_pos rfl, if_pos rfl, hv]
  · rw [if_neg e, if_neg (fun q => e (rho_inj i hi j hj q))]
    exact h i hi
theorem mR.upd {f : Nat → Int32} {A : gA} (h : mR f A) {j n : Nat} {v : Int32} (hv : v = vv j n) : mR (upd f j v) (aup A j n) := by
  intro i hi
  unfold _root_.Jvm.Pilot.CGuestNoesLaw_law_r7866_5d6c8b.upd aup
  by_cases e : i = j
  · subst e
    rw [if_pos rfl, if_pos rfl, hv]
  · rw [if_neg e, if_neg e]
    exact h i hi
theorem xR.said {f : Nat → Int32} {A : gA} (h : xR f A) {g : Nat} (hg : g < 6) : f g = nI (A g) := by
  have h1 := h g (by omega)
  have e : rho g = g := by unfold rho; rw [if_pos (by omega)]
  rw [e] at h1
  rw [h1]; unfold vv; rw [if_neg (by omega)]
theorem xR.by {f : Nat → Int32} {A : gA} (h : xR f A) {g : Nat} (hg : g < 6) : f (6 + g) = e1 (A (6 + g)) := by
  have h1 := h (6 + g) (by omega)
  have e : rho (6 + g) = 6 + g := by unfold rho; rw [if_pos (by omega)]
  rw [e] at h1
  rw [h1]; unfold vv; rw [if_pos (by omega)]
theorem xR.at {f : Nat → Int32} {A : gA} (h : xR f A) {g : Nat} (hg : g < 6) : f (12 + g) = e1 (A (12 + g)) := by
  have h1 := h (12 + g) (by omega)
  have e : rho (12 + g) = 12 + g := by unfold rho; rw [if_pos (by omega)]
  rw [e] at h1
  rw [h1]; unfold vv; rw [if_pos (by omega)]
theorem xR.no {f : Nat → Int32} {A : gA} (h : xR f A) {g : Nat} (hg : g < 4) : f (18 + g) = nI (A (20 + g)) := by
  have h1 := h (18 + g) (by omega)
  have e : rho (18 + g) = 20 + g := by unfold rho; rw [if_neg (by omega), if_pos (by omega)]; omega
  rw [e] at h1
  rw [h1]; unfold vv; rw [if_neg (by omega)]
theorem xR.up {f : Nat → Int32} {A : gA} (h : xR f A) : f 22 = nI (A 18) := h 22 (by decide)
theorem xR.wk {f : Nat → Int32} {A : gA} (h : xR f A) : f 23 = nI (A 19) := h 23 (by decide)
theorem xR.gl {f : Nat → Int32} {A : gA} (h : xR f A) : f 24 = nI (A 24) := h 24 (by decide)
theorem xR.ins {f : Nat → Int32} {A : gA} (h : xR f A) : f 25 = nI (A 25) := h 25 (by decide)
theorem xR.hr {f : Nat → Int32} {A : gA} (h : xR f A) : f 26 = nI (A 26) := h 26 (by decide)
theorem xR.ev {f : Nat → Int32} {A : gA} (h : xR f A) : f 27 = nI (A 27) := h 27 (by decide)
theorem bit6 {s t : Nat} (hs : s < 64) (ht : t < 6) : (nI s >>> (nI t &&& 31) &&& 1 = 0) ↔ s.testBit t = false := bit_lt (by omega) (by omega)
section
variable {d : Nat} {σ : gn_Mem} {Q : Option Value → gn_Mem → Prop} {D : gD} {A : gA}
theorem xw_isSeat {g : Nat} (hg : g < 6) (hQ : Q (some (.int 1)) σ) : gn_W d 14 0 [.int (nI g)] [] σ Q := by
  (repeat (first | refine gx_run 999 80 rfl ?_ | refine gx_goto rfl rfl ?_))
  first | refine gx_iff rfl (nI_pos (by omega)) ?_ | refine gx_icf rfl (nI_pos (by omega)) ?_
  (repeat (first | refine gx_run 999 80 rfl ?_ | refine gx_goto rfl rfl ?_))
  first | refine gx_iff rfl (nI_ge (b := 6) hg (by omega)) ?_ | refine gx_icf rfl (nI_ge (b := 6) hg (by omega)) ?_
  (repeat (first | refine gx_run 999 80 rfl ?_ | refine gx_goto rfl rfl ?_))
  refine gw_zret rfl (Or.inr rfl) ?_
  exact hQ
theorem xw_said (hX : xR (σ 4) A) {g : Nat} (hg : g < 6) (hQ : Q (some (.int (nI (A g)))) σ) : gn_W (d + 1) 15 0 [.ref 3, .int (nI g)] [] σ Q := by
  (repeat (first | refine gx_run 999 80 rfl ?_ | refine gx_goto rfl rfl ?_))
  refine gw_calls rfl rfl rfl ?_
  refine xw_isSeat hg ?_
  (repeat (first | refine gx_run 999 80 rfl ?_ | refine gx_goto rfl rfl ?_))
  first | refine gx_iff rfl (by dsimp only [gn_cmp] <;> decide) ?_ | refine gx_icf rfl (by dsimp only [gn_cmp] <;> decide) ?_
  (repeat (first | refine gx_run 999 80 rfl ?_ | refine gx_goto rfl rfl ?_))
  refine gx_ld g (by rw [Int32.zero_add]) (by omega) (hX.said hg) rfl rfl rfl ?_
  (repeat (first | refine gx_run 999 80 rfl ?_ | refine gx_goto rfl rfl ?_))
  refine gx_iret rfl rfl ?_
  exact hQ
theorem xw_toldBy (hX : xR (σ 4) A) {g : Nat} (hg : g < 6) (hQ : Q (some (.int (e1 (A (6 + g))))) σ) : gn_W (d + 1) 16 0 [.ref 3, .int (nI g)] [] σ Q := by
  (repeat (first | refine gx_run 999 80 rfl ?_ | refine gx_goto rfl rfl ?_))
  refine gw_calls rfl rfl rfl ?_
  refine xw_isSeat hg ?_
  (repeat (first | refine gx_run 999 80 rfl ?_ | refine gx_goto rfl rfl ?_))
  first | refine gx_iff rfl (by dsimp only [gn_cmp] <;> decide) ?_ | refine gx_icf rfl (by dsimp only [gn_cmp] <;> decide) ?_
  (repeat (first | refine gx_run 999 80 rfl ?_ | refine gx_goto rfl rfl ?_))
  refine gx_ld (6 + g) (nI_add 6 g) (by omega) (hX.by hg) rfl rfl rfl ?_
  (repeat (first | refine gx_run 999 80 rfl ?_ | refine gx_goto rfl rfl ?_))
  refine gx_iret rfl rfl ?_
  exact hQ
theorem xw_toldAt (hX : xR (σ 4) A) {g : Nat} (hg : g < 6) (hQ : Q (some (.int (e1 (A (12 + g))))) σ) : gn_W (d + 1) 17 0 [.ref 3, .int (nI g)] [] σ Q := by
  (repeat (first | refine gx_run 999 80 rfl ?_ | refine gx_goto rfl rfl ?_))
  refine gw_calls rfl rfl rfl ?_
  refine xw_isSeat hg ?_
  (repeat (first | refine gx_run 999 80 rfl ?_ | refine gx_goto rfl rfl ?_))
  first | refine gx_iff rfl (by dsimp only [gn_cmp] <;> decide) ?_ | refine gx_icf rfl (by dsimp only [gn_cmp] <;> decide) ?_
  (repeat (first | refine gx_run 999 80 rfl ?_ | refine gx_goto rfl rfl ?_))
  refine gx_ld (12 + g) (nI_add 12 g) (by omega) (hX.at hg) rfl rfl rfl ?_
  (repeat (first | refine gx_run 999 80 rfl ?_ | refine gx_goto rfl rfl ?_))
  refine gx_iret rfl rfl ?_
  exact hQ
theorem xw_noesLeft (hX : xR (σ 4) A) {h : Nat} (hh : h < 4) (hQ : Q (some (.int (nI (A (20 + h))))) σ) : gn_W d 18 0 [.ref 3, .int (nI h)] [] σ Q := by
  (repeat (first | refine gx_run 999 80 rfl ?_ | refine gx_goto rfl rfl ?_))
  first | refine gx_iff rfl (nI_pos (by omega)) ?_ | refine gx_icf rfl (nI_pos (by omega)) ?_
  (repeat (first | refine gx_run 999 80 rfl ?_ | refine gx_goto rfl rfl ?_))
  first | refine gx_iff rfl (nI_ge (b := 4) hh (by omega)) ?_ | refine gx_icf rfl (nI_ge (b := 4) hh (by omega)) ?_
  (repeat (first | refine gx_run 999 80 rfl ?_ | refine gx_goto rfl rfl ?_))
  refine gx_ld (18 + h) (nI_add 18 h) (by omega) (hX.no hh) rfl rfl rfl ?_
  (repeat (first | refine gx_run 999 80 rfl ?_ | refine gx_goto rfl rfl ?_))
  refine gx_iret rfl rfl ?_
  exact hQ
theorem xw_whoIsUp (hX : xR (σ 4) A) (hQ : Q (some (.int (nI (A 18)))) σ) : gn_W d 19 0 [.ref 3] [] σ Q := by
  (repeat (first | refine gx_run 999 80 rfl ?_ | refine gx_goto rfl rfl ?_))
  refine gx_ld 22 rfl (by omega) hX.up rfl rfl rfl ?_
  refine gx_iret rfl rfl ?_
  exact hQ
theorem xw_whoWalks (hX : xR (σ 4) A) (hQ : Q (some (.int (nI (A 19)))) σ) : gn_W d 20 0 [.ref 3] [] σ Q := by
  (repeat (first | refine gx_run 999 80 rfl ?_ | refine gx_goto rfl rfl ?_))
  refine gx_ld 23 rfl (by omega) hX.wk rfl rfl rfl ?_
  refine gx_iret rfl rfl ?_
  exact hQ
theorem xw_glad (hX : xR (σ 4) A) (hQ : Q (some (.int (nI (A 24)))) σ) : gn_W d 21 0 [.ref 3] [] σ Q := by
  (repeat (first | refine gx_run 999 80 rfl ?_ | refine gx_goto rfl rfl ?_))
  refine gx_ld 24 rfl (by omega) hX.gl rfl rfl rfl ?_
  refine gx_iret rfl rfl ?_
  exact hQ
theorem xw_insults (hX : xR (σ 4) A) (hQ : Q (some (.int (nI (A 25)))) σ) : gn_W d 22 0 [.ref 3] [] σ Q := by
  (repeat (first | refine gx_run 999 80 rfl ?_ | refine gx_goto rfl rfl ?_))
  refine gx_ld 25 rfl (by omega) hX.ins rfl rfl rfl ?_
  refine gx_iret rfl rfl ?_
  exact hQ
theorem xw_hours (hX : xR (σ 4) A) (hQ : Q (some (.int (nI (A 26)))) σ) : gn_W d 23 0 [.ref 3] [] σ Q := by
  (repeat (first | refine gx_run 999 80 rfl ?_ | refine gx_goto rfl rfl ?_))
  refine gx_ld 26 rfl (by omega) hX.hr rfl rfl rfl ?_
  refine gx_iret rfl rfl ?_
  exact hQ
theorem xw_evenings (hX : xR (σ 4) A) (hQ : Q (some (.int (nI (A 27)))) σ) : gn_W d 24 0 [.ref 3] [] σ Q := by
  (repeat (first | refine gx_run 999 80 rfl ?_ | refine gx_goto rfl rfl ?_))
  refine gx_ld 27 rfl (by omega) hX.ev rfl rfl rfl ?_
  refine gx_iret rfl rfl ?_
  exact hQ
theorem xw_isUp (hX : xR (σ 4) A) (hA : A 18 < 64) {g : Nat} (hg : g < 6) (hQ : Q (some (.int (gb ((A 18).testBit g = true)))) σ) : gn_W (d + 1) 25 0 [.ref 3, .int (nI g)] [] σ Q := by
  (repeat (first | refine gx_run 999 80 rfl ?_ | refine gx_goto rfl rfl ?_))
  refine gw_calls rfl rfl rfl ?_
  refine xw_isSeat hg ?_
  (repeat (first | refine gx_run 999 80 rfl ?_ | refine gx_goto rfl rfl ?_))
  first | refine gx_iff rfl (by dsimp only [gn_cmp] <;> decide) ?_ | refine gx_icf rfl (by dsimp only [gn_cmp] <;> decide) ?_
  (repeat (first | refine gx_run 999 80 rfl ?_ | refine gx_goto rfl rfl ?_))
  refine gx_ld 22 rfl (by omega) hX.up rfl rfl rfl ?_
  (repeat (first | refine gx_run 999 80 rfl ?_ | refine gx_goto rfl rfl ?_))
  have hb := bit6 hA hg
  first | refine gw_if rfl (fun h => ?_) (fun h => ?_) | refine gw_icmp rfl (fun h => ?_) (fun h => ?_)
  · (repeat (first | refine gx_run 999 80 rfl ?_ | refine gx_goto rfl rfl ?_))
    refine gw_zret rfl (Or.inl rfl) ?_
    rw [gb_f (by rw [hb.mp h]; simp)] at hQ; exact hQ
  · (repeat (first | refine gx_run 999 80 rfl ?_ | refine gx_goto rfl rfl ?_))
    refine gw_zret rfl (Or.inr rfl) ?_
    have h2 : (A 18).testBit g = true := by
      cases hq : (A 18).testBit g with
      | true => rfl
      | false => exact absurd (hb.mpr hq) h
    rw [gb_t h2] at hQ; exact hQ
theorem foc {s : Nat} (h : s ≤ 6) : (if (0 : Int32) < nI s - 1 then nI s - 1 else 0) = nI (s - 1) := by
  have : ∀ s, s ≤ 6 → (if (0 : Int32) < nI s - 1 then nI s - 1 else 0) = nI (s - 1) := by decide
  exact this s h
theorem xw_foc (hX : xR (σ 4) A) {g : Nat} (hg : g < 6) (hs : A g ≤ 6) (hQ : Q (some (.int (nI (A g - 1)))) σ) : gn_W (d + 2) 26 0 [.ref 3, .int (nI g)] [] σ Q := by
  (repeat (first | refine gx_run 999 80 rfl ?_ | refine gx_goto rfl rfl ?_))
  refine gx_call rfl rfl rfl ?_
  refine xw_said hX hg ?_
  (repeat (first | refine gx_run 999 80 rfl ?_ | refine gx_goto rfl rfl ?_))
  refine gx_iret rfl rfl ?_
  rw [foc hs]
  exact hQ
theorem xw_canSpeak (hT : gT 28 σ D) (hX : xR (σ 4) A) (hA : wA2 D A) {g : Nat} (hg : g < dG D) (hQ : Q (some (.int (gb ((A 18).testBit g = true ∧ A g < dC D g)))) σ) : gn_W (d + 2) 27 0 [.ref 3, .ref 28, .int (nI g)] [] σ Q := by
  have hle := hT.1.1
  have hc := hT.1.2.2.2.2.1 g hg
  have ha := hA.1 g hg
  (repeat (first | refine gx_run 999 80 rfl ?_ | refine gx_goto rfl rfl ?_))
  refine gx_call rfl rfl rfl ?_
  refine xw_isUp hX hA.2.2.2.1 (by omega) ?_
  by_cases hu : (A 18).testBit g = true
  · rw [gb_t hu]
    (repeat (first | refine gx_run 999 80 rfl ?_ | refine gx_goto rfl rfl ?_))
    first | refine gx_iff rfl (by dsimp only [gn_cmp] <;> decide) ?_ | refine gx_icf rfl (by dsimp only [gn_cmp] <;> decide) ?_
    (repeat (first | refine gx_run 999 80 rfl ?_ | refine gx_goto rfl rfl ?_))
    refine gx_call rfl rfl rfl ?_
    refine xw_said hX (by omega) ?_
    (repeat (first | refine gx_run 999 80 rfl ?_ | refine gx_goto rfl rfl ?_))
    refine gx_call rfl rfl rfl ?_
    refine xw_claimCount hT hg ?_
    (repeat (first | refine gx_run 999 80 rfl ?_ | refine gx_goto rfl rfl ?_))
    by_cases hl : A g < dC D g
    · first | refine gx_iff rfl (nI_ge hl (by omega)) ?_ | refine gx_icf rfl (nI_ge hl (by omega)) ?_
      (repeat (first | refine gx_run 999 80 rfl ?_ | refine gx_goto rfl rfl ?_))
      refine gw_zret rfl (Or.inr rfl) ?_
      rw [gb_t ⟨hu, hl⟩] at hQ
      exact hQ
    · first | refine gx_ift rfl (nI_le (by omega) (by omega)) ?_ | refine gx_ict rfl (nI_le (by omega) (by omega)) ?_
      (repeat (first | refine gx_run 999 80 rfl ?_ | refine gx_goto rfl rfl ?_))
      refine gw_zret rfl (Or.inl rfl) ?_
      rw [gb_f (fun q => hl q.2)] at hQ
      exact hQ
  · rw [gb_f hu]
    (repeat (first | refine gx_run 999 80 rfl ?_ | refine gx_goto rfl rfl ?_))
    first | refine gx_ift rfl (by dsimp only [gn_cmp] <;> decide) ?_ | refine gx_ict rfl (by dsimp only [gn_cmp] <;> decide) ?_
    (repeat (first | refine gx_run 999 80 rfl ?_ | refine gx_goto rfl rfl ?_))
    refine gw_zret rfl (Or.inl rfl) ?_
    rw [gb_f (fun q => hu q.1)] at hQ
    exact hQ
theorem e1_ne {n : Nat} (h : n < 100) : e1 n = -1 ↔ n = 0 := by
  cases n with
  | zero => exact ⟨fun _ => rfl, fun _ => rfl⟩
  | succ n => exact ⟨fun e => absurd e (nI_ne1 (by omega)), fun e => by omega⟩

theorem xw_canBeTold (hW : gW D) (hX : xR (σ 4) A) (hA : wA2 D A) {g : Nat} (hg : g < dG D) (hQ : Q (some (.int (gb ((A 18).testBit g = true ∧ 0 < A g ∧ A (6 + g) = 0)))) σ) : gn_W (d + 2) 29 0 [.ref 3, .int (nI g)] [] σ Q := by
  have hle := hW.1
  have hc := hW.2.2.2.2.1 g hg
  have ha := hA.1 g hg
  have hh := hW.2.1
  (repeat (first | refine gx_run 999 80 rfl ?_ | refine gx_goto rfl rfl ?_))
  refine gx_call rfl rfl rfl ?_
  refine xw_isUp hX hA.2.2.2.1 (by omega) ?_
  by_cases hu : (A 18).testBit g = true
  · rw [gb_t hu]
    (repeat (first | refine gx_run 999 80 rfl ?_ | refine gx_goto rfl rfl ?_))
    first | refine gx_iff rfl (by dsimp only [gn_cmp] <;> decide) ?_ | refine gx_icf rfl (by dsimp only [gn_cmp] <;> decide) ?_
    (repeat (first | refine gx_run 999 80 rfl ?_ | refine gx_goto rfl rfl ?_))
    refine gx_call rfl rfl rfl ?_
    refine xw_said hX (by omega) ?_
    (repeat (first | refine gx_run 999 80 rfl ?_ | refine gx_goto rfl rfl ?_))
    by_cases hl : 0 < A g
    · first | refine gx_iff rfl (nI_nle hl (by omega)) ?_ | refine gx_icf rfl (nI_nle hl (by omega)) ?_
      (repeat (first | refine gx_run 999 80 rfl ?_ | refine gx_goto rfl rfl ?_))
      refine gx_call rfl rfl rfl ?_
      refine xw_toldBy hX (by omega) ?_
      (repeat (first | refine gx_run 999 80 rfl ?_ | refine gx_goto rfl rfl ?_))
      by_cases hb : A (6 + g) = 0
      · first | refine gx_iff rfl (fun q => q ((e1_ne (by omega)).mpr hb)) ?_ | refine gx_icf rfl (fun q => q ((e1_ne (by omega)).mpr hb)) ?_
        (repeat (first | refine gx_run 999 80 rfl ?_ | refine gx_goto rfl rfl ?_))
        refine gw_zret rfl (Or.inr rfl) ?_
        rw [gb_t ⟨hu, hl, hb⟩] at hQ
        exact hQ
      · first | refine gx_ift rfl (fun q => hb ((e1_ne (by omega)).mp q)) ?_ | refine gx_ict rfl (fun q => hb ((e1_ne (by omega)).mp q)) ?_
        (repeat (first | refine gx_run 999 80 rfl ?_ | refine gx_goto rfl rfl ?_))
        refine gw_zret rfl (Or.inl rfl) ?_
        rw [gb_f (fun q => hb q.2.2)] at hQ
        exact hQ
    · first | refine gx_ift rfl (nI_le (b := 0) (by omega) (by omega)) ?_ | refine gx_ict rfl (nI_le (b := 0) (by omega) (by omega)) ?_
      (repeat (first | refine gx_run 999 80 rfl ?_ | refine gx_goto rfl rfl ?_))
      refine gw_zret rfl (Or.inl rfl) ?_
      rw [gb_f (fun q => hl q.2.1)] at hQ
      exact hQ
  · rw [gb_f hu]
    (repeat (first | refine gx_run 999 80 rfl ?_ | refine gx_goto rfl rfl ?_))
    first | refine gx_ift rfl (by dsimp only [gn_cmp] <;> decide) ?_ | refine gx_ict rfl (by dsimp only [gn_cmp] <;> decide) ?_
    (repeat (first | refine gx_run 999 80 rfl ?_ | refine gx_goto rfl rfl ?_))
    refine gw_zret rfl (Or.inl rfl) ?_
    rw [gb_f (fun q => hu q.1)] at hQ
    exact hQ
theorem xw_canContradict (hW : gW D) (hX : xR (σ 4) A) (hA : wA2 D A) {g h : Nat} (hg : g < dG D) (hh : h < dH D) (hQ : Q (some (.int (gb (0 < A (20 + h) ∧ (A 18).testBit g = true ∧ 0 < A g ∧ A (6 + g) = 0)))) σ) : gn_W (d + 3) 30 0 [.ref 3, .int (nI h), .int (nI g)] [] σ Q := by
  have hh4 := hW.2.1
  have hn := hA.2.2.1 h (by omega)
  (repeat (first | refine gx_run 999 80 rfl ?_ | refine gx_goto rfl rfl ?_))
  refine gx_call rfl rfl rfl ?_
  refine xw_noesLeft hX (by omega) ?_
  (repeat (first | refine gx_run 999 80 rfl ?_ | refine gx_goto rfl rfl ?_))
  by_cases hl : 0 < A (20 + h)
  · first | refine gx_iff rfl (nI_nle hl (by omega)) ?_ | refine gx_icf rfl (nI_nle hl (by omega)) ?_
    (repeat (first | refine gx_run 999 80 rfl ?_ | refine gx_goto rfl rfl ?_))
    refine gx_call rfl rfl rfl ?_
    refine xw_canBeTold hW hX hA hg ?_
    by_cases ho : (A 18).testBit g = true ∧ 0 < A g ∧ A (6 + g) = 0
    · rw [gb_t ho]
      (repeat (first | refine gx_run 999 80 rfl ?_ | refine gx_goto rfl rfl ?_))
      first | refine gx_iff rfl (by dsimp only [gn_cmp] <;> decide) ?_ | refine gx_icf rfl (by dsimp only [gn_cmp] <;> decide) ?_
      (repeat (first | refine gx_run 999 80 rfl ?_ | refine gx_goto rfl rfl ?_))
      refine gw_zret rfl (Or.inr rfl) ?_
      rw [gb_t ⟨hl, ho⟩] at hQ
      exact hQ
    · rw [gb_f ho]
      (repeat (first | refine gx_run 999 80 rfl ?_ | refine gx_goto rfl rfl ?_))
      first | refine gx_ift rfl (by dsimp only [gn_cmp] <;> decide) ?_ | refine gx_ict rfl (by dsimp only [gn_cmp] <;> decide) ?_
      (repeat (first | refine gx_run 999 80 rfl ?_ | refine gx_goto rfl rfl ?_))
      refine gw_zret rfl (Or.inl rfl) ?_
      rw [gb_f (fun q => ho q.2)] at hQ
      exact hQ
  · first | refine gx_ift rfl (nI_le (b := 0) (by omega) (by omega)) ?_ | refine gx_ict rfl (nI_le (b := 0) (by omega) (by omega)) ?_
    (repeat (first | refine gx_run 999 80 rfl ?_ | refine gx_goto rfl rfl ?_))
    refine gw_zret rfl (Or.inl rfl) ?_
    rw [gb_f (fun q => hl q.1)] at hQ
    exact hQ
/-- who was TOLD -/
def sT (D : gD) (A : gA) : Int32 := gf (fun g s => if A (6 + g) = 0 then s else s ||| bt g) (dG D) 0
theorem xw_whoWasTold (hT : gT 28 σ D) (hX : xR (σ 4) A) (hA : wA2 D A) (hQ : Q (some (.int (sT D A))) σ) : gn_W (d + 2) 37 0 [.ref 3, .ref 28] [] σ Q := by
  have hle := hT.1.1
  have hh := hT.1.2.1
  (refine gw_run 4 80 rfl ?_)
  refine gw_for (dG D) (fun g s => if A (6 + g) = 0 then s else s ||| bt g) (fun _ _ => True) (fun i y => [.ref 3, .ref 28, .int y, .int (nI i)]) (fun _ => σ) 0 trivial (fun _ _ _ _ => trivial) ?_ ?_
  · intro i y hi _ hn
    have ha := hA.1 i hi
    (repeat (first | refine gx_run 999 80 rfl ?_ | refine gx_goto rfl rfl ?_))
    rw [hT.2.2.2.1]
    first | refine gx_iff rfl (nI_ge hi (by omega)) ?_ | refine gx_icf rfl (nI_ge hi (by omega)) ?_
    (repeat (first | refine gx_run 999 80 rfl ?_ | refine gx_goto rfl rfl ?_))
    refine gx_call rfl rfl rfl ?_
    refine xw_toldBy hX (by omega) ?_
    (repeat (first | refine gx_run 999 80 rfl ?_ | refine gx_goto rfl rfl ?_))
    by_cases hb : A (6 + i) = 0
    · simp only [if_pos hb] at hn
      first | refine gx_ift rfl ((e1_ne (by omega)).mpr hb) ?_ | refine gx_ict rfl ((e1_ne (by omega)).mpr hb) ?_
      (repeat (first | refine gx_run 999 80 rfl ?_ | refine gx_goto rfl rfl ?_))
      refine gw_goto rfl ?_
      rw [nI_1]
      exact hn
    · simp only [if_neg hb] at hn
      first | refine gx_iff rfl (fun q => hb ((e1_ne (by omega)).mp q)) ?_ | refine gx_icf rfl (fun q => hb ((e1_ne (by omega)).mp q)) ?_
      (repeat (first | refine gx_run 999 80 rfl ?_ | refine gx_goto rfl rfl ?_))
      refine gw_goto rfl ?_
      rw [nI_1]
      exact hn
  · intro _
    (repeat (first | refine gx_run 999 80 rfl ?_ | refine gx_goto rfl rfl ?_))
    rw [hT.2.2.2.1]
    first | refine gx_ift rfl (nI_le (Nat.le_refl _) (by omega)) ?_ | refine gx_ict rfl (nI_le (Nat.le_refl _) (by omega)) ?_
    (repeat (first | refine gx_run 999 80 rfl ?_ | refine gx_goto rfl rfl ?_))
    refine gx_iret rfl rfl ?_
    exact hQ
/-- JOY when he was TOLD, or NONE -/
def jT (D : gD) (A : gA) (g : Nat) : Int32 := if A (6 + g) = 0 then -1 else nI (jP D g (A (6 + g) - 1) (A (12 + g) - 1) + (A (12 + g) - 1))
theorem e1_pos {n : Nat} (h : n ≠ 0) : e1 n = nI (n - 1) := by
  cases n with
  | zero => exact absurd rfl h
  | succ n => rfl
theorem xw_joyWhenTold (hT : gT 28 σ D) (hX : xR (σ 4) A) (hA : wA2 D A) {g : Nat} (hg : g < dG D) (hQ : Q (some (.int (jT D A g))) σ) : gn_W (d + 4) 38 0 [.ref 3, .ref 28, .int (nI g)] [] σ Q := by
  have hle := hT.1.1
  have hh := hT.1.2.1
  have hc := hT.1.2.2.2.2.1 g hg
  have ha := hA.1 g hg
  (repeat (first | refine gx_run 999 80 rfl ?_ | refine gx_goto rfl rfl ?_))
  refine gx_call rfl rfl rfl ?_
  refine xw_toldBy hX (by omega) ?_
  (repeat (first | refine gx_run 999 80 rfl ?_ | refine gx_goto rfl rfl ?_))
  refine gx_call rfl rfl rfl ?_
  refine xw_toldAt hX (by omega) ?_
  (repeat (first | refine gx_run 999 80 rfl ?_ | refine gx_goto rfl rfl ?_))
  refine gx_call rfl rfl rfl ?_
  unfold jT at hQ
  by_cases hb : A (6 + g) = 0
  · rw [if_pos hb] at hQ
    rw [hb]
    refine xw_joyOfN hT hg ?_
    (repeat (first | refine gx_run 999 80 rfl ?_ | refine gx_goto rfl rfl ?_))
    refine gx_iret rfl rfl ?_
    exact hQ
  · rw [if_neg hb] at hQ
    have hb2 : A (12 + g) ≠ 0 := fun q => hb (ha.2.2.1.mpr q)
    rw [e1_pos hb, e1_pos hb2]
    refine xw_joyOf hT hg (by omega) (by omega) ?_
    rw [if_pos (by omega)]
    (repeat (first | refine gx_run 999 80 rfl ?_ | refine gx_goto rfl rfl ?_))
    refine gx_iret rfl rfl ?_
    exact hQ
/-- the most JOY of all his claims by the host who told him -/
def jM (D : gD) (A : gA) (g : Nat) : Int32 := if A (6 + g) = 0 then -1 else nI (mxJ D g (A (6 + g) - 1) 0 (dC D g))
/-- MEANLY -/
def sM (D : gD) (A : gA) : Int32 := gf (fun g s => if jT D A g < jM D A g then s ||| bt g else s) (dG D) 0
theorem xw_meanly (hT : gT 28 σ D) (hX : xR (σ 4) A) (hA : wA2 D A) (hQ : Q (some (.int (sM D A))) σ) : gn_W (d + 5) 39 0 [.ref 3, .ref 28] [] σ Q := by
  have hle := hT.1.1
  have hh := hT.1.2.1
  (refine gw_run 4 80 rfl ?_)
  refine gw_for (dG D) (fun g s => if jT D A g < jM D A g then s ||| bt g else s) (fun _ _ => True) (fun i y => [.ref 3, .ref 28, .int y, .int (nI i)]) (fun _ => σ) 0 trivial (fun _ _ _ _ => trivial) ?_ ?_
  · intro i y hi _ hn
    have ha := hA.1 i hi
    have hc := hT.1.2.2.2.2.1 i hi
    (repeat (first | refine gx_run 999 80 rfl ?_ | refine gx_goto rfl rfl ?_))
    rw [hT.2.2.2.1]
    first | refine gx_iff rfl (nI_ge hi (by omega)) ?_ | refine gx_icf rfl (nI_ge hi (by omega)) ?_
    (repeat (first | refine gx_run 999 80 rfl ?_ | refine gx_goto rfl rfl ?_))
    refine gx_call rfl rfl rfl ?_
    refine xw_joyWhenTold hT hX hA hi ?_
    (repeat (first | refine gx_run 999 80 rfl ?_ | refine gx_goto rfl rfl ?_))
    refine gx_call rfl rfl rfl ?_
    refine xw_toldBy hX (by omega) ?_
    (repeat (first | refine gx_run 999 80 rfl ?_ | refine gx_goto rfl rfl ?_))
    refine gx_call rfl rfl rfl ?_
    have key : gn_W (d + 4) 80 0 [.ref 28, .int (nI 0), .int (nI i), .int (e1 (A (6 + i)))] [] σ (fun rv σ' => rv = some (.int (jM D A i)) ∧ σ' = σ) := by
      unfold jM
      by_cases hb : A (6 + i) = 0
      · rw [if_pos hb, hb]
        exact xw_mjfN hT hi (by omega) ⟨rfl, rfl⟩
      · rw [if_neg hb, e1_pos hb]
        exact xw_mjf hT hi (by omega) (by omega) ⟨rfl, rfl⟩
    refine gw_mono key ?_
    rintro rv σ' ⟨rfl, rfl⟩
    (repeat (first | refine gx_run 999 80 rfl ?_ | refine gx_goto rfl rfl ?_))
    by_cases hl : jT D A i < jM D A i
    · simp only [if_pos hl] at hn
      first | refine gx_iff rfl (fun q => absurd hl (Int32.not_lt.mpr q)) ?_ | refine gx_icf rfl (fun q => absurd hl (Int32.not_lt.mpr q)) ?_
      (repeat (first | refine gx_run 999 80 rfl ?_ | refine gx_goto rfl rfl ?_))
      refine gw_goto rfl ?_
      rw [nI_1]
      exact hn
    · simp only [if_neg hl] at hn
      first | refine gx_ift rfl (Int32.not_lt.mp hl) ?_ | refine gx_ict rfl (Int32.not_lt.mp hl) ?_
      (repeat (first | refine gx_run 999 80 rfl ?_ | refine gx_goto rfl rfl ?_))
      refine gw_goto rfl ?_
      rw [nI_1]
      exact hn
  · intro _
    (repeat (first | refine gx_run 999 80 rfl ?_ | refine gx_goto rfl rfl ?_))
    rw [hT.2.2.2.1]
    first | refine gx_ift rfl (nI_le (Nat.le_refl _) (by omega)) ?_ | refine gx_ict rfl (nI_le (Nat.le_refl _) (by omega)) ?_
    (repeat (first | refine gx_run 999 80 rfl ?_ | refine gx_goto rfl rfl ?_))
    refine gx_iret rfl rfl ?_
    exact hQ
/-- LEAST PLEASED: who, and how much -/
def sL (D : gD) (A : gA) : Int32 × Int32 := gf (fun g y => if ¬ jT D A g = -1 ∧ (y.1 = -1 ∨ jT D A g < y.2) then (nI g, jT D A g) else y) (dG D) (-1, 0)
theorem xw_least (hT : gT 28 σ D) (hX : xR (σ 4) A) (hA : wA2 D A) (hQ : Q (some (.int (sL D A).1)) σ) : gn_W (d + 5) 40 0 [.ref 3, .ref 28] [] σ Q := by
  have hle := hT.1.1
  (refine gw_run 7 80 rfl ?_)
  refine gw_for (dG D) (fun g y => if ¬ jT D A g = -1 ∧ (y.1 = -1 ∨ jT D A g < y.2) then (nI g, jT D A g) else y) (fun _ _ => True) (fun i y => [.ref 3, .ref 28, .int y.1, .int y.2, .int (nI i)]) (fun _ => σ) ((-1 : Int32), (0 : Int32)) trivial (fun _ _ _ _ => trivial) ?_ ?_
  · intro i y hi _ hn
    (repeat (first | refine gx_run 999 80 rfl ?_ | refine gx_goto rfl rfl ?_))
    rw [hT.2.2.2.1]
    first | refine gx_iff rfl (nI_ge hi (by omega)) ?_ | refine gx_icf rfl (nI_ge hi (by omega)) ?_
    (repeat (first | refine gx_run 999 80 rfl ?_ | refine gx_goto rfl rfl ?_))
    refine gx_call rfl rfl rfl ?_
    refine xw_joyWhenTold hT hX hA hi ?_
    (repeat (first | refine gx_run 999 80 rfl ?_ | refine gx_goto rfl rfl ?_))
    by_cases h1 : jT D A i = -1
    · rw [if_neg (fun q => q.1 h1)] at hn
      first | refine gx_ift rfl (h1) ?_ | refine gx_ict rfl (h1) ?_
      (repeat (first | refine gx_run 999 80 rfl ?_ | refine gx_goto rfl rfl ?_))
      refine gw_goto rfl ?_
      rw [nI_1]
      exact gx_drop [_, _, _, _, _] [_] (by rfl) hn
    · first | refine gx_iff rfl (h1) ?_ | refine gx_icf rfl (h1) ?_
      (repeat (first | refine gx_run 999 80 rfl ?_ | refine gx_goto rfl rfl ?_))
      by_cases h2 : y.1 = -1
      · rw [if_pos ⟨h1, Or.inl h2⟩] at hn
        first | refine gx_ift rfl (h2) ?_ | refine gx_ict rfl (h2) ?_
        (repeat (first | refine gx_run 999 80 rfl ?_ | refine gx_goto rfl rfl ?_))
        refine gw_goto rfl ?_
        rw [nI_1]
        exact gx_drop [_, _, _, _, _] [_] (by rfl) hn
      · first | refine gx_iff rfl (h2) ?_ | refine gx_icf rfl (h2) ?_
        (repeat (first | refine gx_run 999 80 rfl ?_ | refine gx_goto rfl rfl ?_))
        by_cases h3 : jT D A i < y.2
        · rw [if_pos ⟨h1, Or.inr h3⟩] at hn
          first | refine gx_iff rfl (fun q => absurd h3 (Int32.not_lt.mpr q)) ?_ | refine gx_icf rfl (fun q => absurd h3 (Int32.not_lt.mpr q)) ?_
          (repeat (first | refine gx_run 999 80 rfl ?_ | refine gx_goto rfl rfl ?_))
          refine gw_goto rfl ?_
          rw [nI_1]
          exact gx_drop [_, _, _, _, _] [_] (by rfl) hn
        · rw [if_neg (fun q => q.2.elim h2 h3)] at hn
          first | refine gx_ift rfl (Int32.not_lt.mp h3) ?_ | refine gx_ict rfl (Int32.not_lt.mp h3) ?_
          (repeat (first | refine gx_run 999 80 rfl ?_ | refine gx_goto rfl rfl ?_))
          refine gw_goto rfl ?_
          rw [nI_1]
          exact gx_drop [_, _, _, _, _] [_] (by rfl) hn
  · intro _
    (repeat (first | refine gx_run 999 80 rfl ?_ | refine gx_goto rfl rfl ?_))
    rw [hT.2.2.2.1]
    first | refine gx_ift rfl (nI_le (Nat.le_refl _) (by omega)) ?_ | refine gx_ict rfl (nI_le (Nat.le_refl _) (by omega)) ?_
    (repeat (first | refine gx_run 999 80 rfl ?_ | refine gx_goto rfl rfl ?_))
    refine gx_iret rfl rfl ?_
    exact hQ
end
end
section
/-! the reference: its questions -/
theorem bit_1 {s t : Nat} (hs : s < 256) (ht : t < 8) : (nI s >>> (nI t &&& 31) &&& 1 = 1) ↔ s.testBit t = true := by
  have h : ∀ s, s < 256 → ∀ t, t < 8 → ((nI s >>> (nI t &&& 31) &&& 1 = 1) ↔ s.testBit t = true) := by decide +kernel
  exact h s hs t ht
theorem c_div : ∀ t, t < 8 → ∀ b, b ≤ 9 → nI (10 * t + b) / 10 = nI t := by decide
theorem c_rem : ∀ t, t < 8 → ∀ b, b ≤ 9 → nI (10 * t + b) - nI (10 * t + b) / 10 * 10 = nI b := by decide
theorem or_bit : ∀ a, a < 256 → ∀ t, t < 8 → nI a ||| (1 <<< (nI t &&& 31)) = nI (a ||| 2 ^ t) := by decide +kernel
theorem mR.said {f : Nat → Int32} {A : gA} (h : mR f A) {g : Nat} (hg : g < 6) : f g = nI (A g) := by
  rw [h g (by omega)]; unfold vv; rw [if_neg (by omega)]
theorem mR.by {f : Nat → Int32} {A : gA} (h : mR f A) {g : Nat} (hg : g < 6) : f (6 + g) = e1 (A (6 + g)) := by
  rw [h (6 + g) (by omega)]; unfold vv; rw [if_pos (by omega)]
theorem mR.at {f : Nat → Int32} {A : gA} (h : mR f A) {g : Nat} (hg : g < 6) : f (12 + g) = e1 (A (12 + g)) := by
  rw [h (12 + g) (by omega)]; unfold vv; rw [if_pos (by omega)]
theorem mR.no {f : Nat → Int32} {A : gA} (h : mR f A) {g : Nat} (hg : g < 4) : f (20 + g) = nI (A (20 + g)) := by
  rw [h (20 + g) (by omega)]; unfold vv; rw [if_neg (by omega)]
theorem mR.up {f : Nat → Int32} {A : gA} (h : mR f A) : f 18 = nI (A 18) := h 18 (by decide)
theorem mR.wk {f : Nat → Int32} {A : gA} (h : mR f A) : f 19 = nI (A 19) := h 19 (by decide)
theorem mR.gl {f : Nat → Int32} {A : gA} (h : mR f A) : f 24 = nI (A 24) := h 24 (by decide)
theorem mR.ins {f : Nat → Int32} {A : gA} (h : mR f A) : f 25 = nI (A 25) := h 25 (by decide)
theorem mR.hr {f : Nat → Int32} {A : gA} (h : mR f A) : f 26 = nI (A 26) := h 26 (by decide)
theorem mR.ev {f : Nat → Int32} {A : gA} (h : mR f A) : f 27 = nI (A 27) := h 27 (by decide)
section
variable {d : Nat} {σ : gn_Mem} {Q : Option Value → gn_Mem → Prop} {D : gD} {A : gA}
theorem mw_in {v l h : Int32} (hQ : Q (some (.int (gb (¬ v < l ∧ ¬ h < v)))) σ) : gn_W d 130 0 [.int v, .int l, .int h] [] σ Q := by
  (repeat (first | refine gx_run 999 80 rfl ?_ | refine gx_goto rfl rfl ?_))
  first | refine gw_if rfl (fun h1 => ?_) (fun h1 => ?_) | refine gw_icmp rfl (fun h1 => ?_) (fun h1 => ?_)
  · (repeat (first | refine gx_run 999 80 rfl ?_ | refine gx_goto rfl rfl ?_))
    refine gw_zret rfl (Or.inl rfl) ?_
    rw [gb_f (fun q => q.1 h1)] at hQ; exact hQ
  · (repeat (first | refine gx_run 999 80 rfl ?_ | refine gx_goto rfl rfl ?_))
    first | refine gw_if rfl (fun h2 => ?_) (fun h2 => ?_) | refine gw_icmp rfl (fun h2 => ?_) (fun h2 => ?_)
    · (repeat (first | refine gx_run 999 80 rfl ?_ | refine gx_goto rfl rfl ?_))
      refine gw_zret rfl (Or.inl rfl) ?_
      rw [gb_f (fun q => q.2 h2)] at hQ; exact hQ
    · (repeat (first | refine gx_run 999 80 rfl ?_ | refine gx_goto rfl rfl ?_))
      refine gw_zret rfl (Or.inr rfl) ?_
      rw [gb_t ⟨h1, h2⟩] at hQ; exact hQ
theorem mw_has {s t : Nat} (hs : s < 256) (ht : t < 8) (hQ : Q (some (.int (gb (s.testBit t = true)))) σ) : gn_W d 131 0 [.int (nI s), .int (nI t)] [] σ Q := by
  (repeat (first | refine gx_run 999 80 rfl ?_ | refine gx_goto rfl rfl ?_))
  have hb := bit_1 hs ht
  by_cases h : s.testBit t = true
  · first | refine gx_iff rfl (fun q => q (hb.mpr h)) ?_ | refine gx_icf rfl (fun q => q (hb.mpr h)) ?_
    (repeat (first | refine gx_run 999 80 rfl ?_ | refine gx_goto rfl rfl ?_))
    refine gw_zret rfl (Or.inr rfl) ?_
    rw [gb_t h] at hQ; exact hQ
  · first | refine gx_ift rfl (fun q => h (hb.mp q)) ?_ | refine gx_ict rfl (fun q => h (hb.mp q)) ?_
    (repeat (first | refine gx_run 999 80 rfl ?_ | refine gx_goto rfl rfl ?_))
    refine gw_zret rfl (Or.inl rfl) ?_
    rw [gb_f h] at hQ; exact hQ
theorem mw_isGuest (hG : σ 44 8 = nI (dG D)) {g : Int32} (hQ : Q (some (.int (gb (¬ g < 0 ∧ ¬ nI (dG D) - 1 < g)))) σ) : gn_W (d + 1) 132 0 [.ref 44, .int g] [] σ Q := by
  (repeat (first | refine gx_run 999 80 rfl ?_ | refine gx_goto rfl rfl ?_))
  rw [hG]
  refine gw_calls rfl rfl rfl ?_
  refine mw_in ?_
  (repeat (first | refine gx_run 999 80 rfl ?_ | refine gx_goto rfl rfl ?_))
  refine gw_zret rfl ?_ hQ
  unfold gb
  split
  · exact Or.inr rfl
  · exact Or.inl rfl
theorem mw_isHost (hH : σ 44 9 = nI (dH D)) {g : Int32} (hQ : Q (some (.int (gb (¬ g < 0 ∧ ¬ nI (dH D) - 1 < g)))) σ) : gn_W (d + 1) 133 0 [.ref 44, .int g] [] σ Q := by
  (repeat (first | refine gx_run 999 80 rfl ?_ | refine gx_goto rfl rfl ?_))
  rw [hH]
  refine gw_calls rfl rfl rfl ?_
  refine mw_in ?_
  (repeat (first | refine gx_run 999 80 rfl ?_ | refine gx_goto rfl rfl ?_))
  refine gw_zret rfl ?_ hQ
  unfold gb
  split
  · exact Or.inr rfl
  · exact Or.inl rfl
theorem mw_topicOf (hM : gM σ D) {g k : Nat} (hg : g < dG D) (hk : k < dC D g) (hQ : Q (some (.int (nI (dT D g k)))) σ) : gn_W d 148 0 [.ref 44, .int (nI g), .int (nI k)] [] σ Q := by
  have hle := hM.1.1
  have hc := hM.1.2.2.2.2.1 g hg
  have hv := hM.1.2.2.2.2.2.1 g k hg hk
  (repeat (first | refine gx_run 999 80 rfl ?_ | refine gx_goto rfl rfl ?_))
  refine gx_ld (6 * g + k) (ix6' g k) (by omega) (hM.2.2.2.2.2.2.1 g k hg hk) rfl rfl rfl ?_
  (repeat (first | refine gx_run 999 80 rfl ?_ | refine gx_goto rfl rfl ?_))
  refine gw_idiv rfl (by decide) ?_
  refine gx_iret rfl rfl ?_
  rw [c_div _ hv.1 _ hv.2]
  exact hQ
theorem mw_boldOf (hM : gM σ D) {g k : Nat} (hg : g < dG D) (hk : k < dC D g) (hQ : Q (some (.int (nI (dB D g k)))) σ) : gn_W d 149 0 [.ref 44, .int (nI g), .int (nI k)] [] σ Q := by
  have hle := hM.1.1
  have hc := hM.1.2.2.2.2.1 g hg
  have hv := hM.1.2.2.2.2.2.1 g k hg hk
  (repeat (first | refine gx_run 999 80 rfl ?_ | refine gx_goto rfl rfl ?_))
  refine gx_ld (6 * g + k) (ix6' g k) (by omega) (hM.2.2.2.2.2.2.1 g k hg hk) rfl rfl rfl ?_
  (repeat (first | refine gx_run 999 80 rfl ?_ | refine gx_goto rfl rfl ?_))
  refine gw_irem rfl (by decide) ?_
  refine gx_iret rfl rfl ?_
  rw [c_rem _ hv.1 _ hv.2]
  exact hQ
theorem mj0 : ∀ p, p ≤ 9 → ∀ b, b ≤ 9 → nI p + 9 - nI b = nI (9 - b + p) := by decide
theorem mj2 : ∀ b, b ≤ 9 → ¬ nI b ≤ 3 → nI b - 3 = nI (b - 3) := by decide
theorem mj3 : ∀ b, b ≤ 9 → nI b ≤ 3 → b - 3 = 0 := by decide
theorem mw_plainJoy (hM : gM σ D) {g h k : Nat} (hg : g < dG D) (hh : h < dH D) (hk : k < dC D g) (hQ : Q (some (.int (nI (jP D g h k)))) σ) : gn_W (d + 1) 150 0 [.ref 44, .int (nI g), .int (nI h), .int (nI k)] [] σ Q := by
  have hle := hM.1.1
  have hhe := hM.1.2.1
  have hc := hM.1.2.2.2.2.1 g hg
  have hv := hM.1.2.2.2.2.2.1 g k hg hk
  have hy := hM.1.2.2.2.2.2.2 h hh
  have hz := hM.2.2.2.2.2.2.2 h hh
  (repeat (first | refine gx_run 999 80 rfl ?_ | refine gx_goto rfl rfl ?_))
  refine gx_call rfl rfl rfl ?_
  refine mw_boldOf hM hg hk ?_
  (repeat (first | refine gx_run 999 80 rfl ?_ | refine gx_goto rfl rfl ?_))
  rw [hM.2.2.1]
  refine gx_call rfl rfl rfl ?_
  refine mw_topicOf hM hg hk ?_
  (repeat (first | refine gx_run 999 80 rfl ?_ | refine gx_goto rfl rfl ?_))
  refine gw_calls rfl rfl rfl ?_
  refine mw_has hM.1.2.2.2.1 hv.1 ?_
  have key : ∀ (f : Bool) (p : Nat), (dF D).testBit (dT D g k) = f → p = (if f then dP D g else 0) → gn_W (d + 1) 150 40 [.ref 44, .int (nI g), .int (nI h), .int (nI k), .int (nI (dB D g k)), .int (gb (f = true)), .int (nI p)] [] σ Q := by
    intro f p hf hp
    have hp9 : p ≤ 9 := by rw [hp]; split <;> omega
    unfold jP at hQ
    rw [hf] at hQ
    rw [← hp] at hQ
    unfold jK at hQ
    (repeat (first | refine gx_run 999 80 rfl ?_ | refine gx_goto rfl rfl ?_))
    refine gx_ld h rfl (by omega) hz.1 rfl rfl rfl ?_
    generalize dK D h = kd at hQ hy ⊢
    generalize dB D g k = bd at hQ hv ⊢
    rcases (show kd = 0 ∨ kd = 1 ∨ kd = 2 ∨ kd = 3 by omega) with rfl | rfl | rfl | rfl
    · refine gw_tsw rfl 72 (by decide) ?_
      (repeat (first | refine gx_run 999 80 rfl ?_ | refine gx_goto rfl rfl ?_))
      refine gx_iret rfl rfl ?_
      rw [nI_add, Nat.add_comm]
      exact hQ
    · refine gw_tsw rfl 78 (by decide) ?_
      (repeat (first | refine gx_run 999 80 rfl ?_ | refine gx_goto rfl rfl ?_))
      refine gw_idiv rfl (by decide) ?_
      (repeat (first | refine gx_run 999 80 rfl ?_ | refine gx_goto rfl rfl ?_))
      refine gx_iret rfl rfl ?_
      rw [jk_half bd hv.2, nI_add, Nat.add_comm]
      exact hQ
    · refine gw_tsw rfl 86 (by decide) ?_
      (repeat (first | refine gx_run 999 80 rfl ?_ | refine gx_goto rfl rfl ?_))
      cases f with
      | true =>
        first | refine gx_ift rfl (by dsimp only [gn_cmp] <;> decide) ?_ | refine gx_ict rfl (by dsimp only [gn_cmp] <;> decide) ?_
        (repeat (first | refine gx_run 999 80 rfl ?_ | refine gx_goto rfl rfl ?_))
        first | refine gw_if rfl (fun q => ?_) (fun q => ?_) | refine gw_icmp rfl (fun q => ?_) (fun q => ?_)
        · (repeat (first | refine gx_run 999 80 rfl ?_ | refine gx_goto rfl rfl ?_))
          refine gx_iret rfl rfl ?_
          have e := mj3 bd hv.2 q
          have hQ2 : Q (some (.int (nI (bd - 3 + p)))) σ := hQ
          rw [e, Nat.zero_add] at hQ2
          rw [show (0 : Int32) = nI 0 from rfl, nI_add, Nat.add_zero]
          exact hQ2
        · (repeat (first | refine gx_run 999 80 rfl ?_ | refine gx_goto rfl rfl ?_))
          refine gx_iret rfl rfl ?_
          rw [mj2 bd hv.2 q, nI_add, Nat.add_comm]
          exact hQ
      | false =>
        first | refine gx_iff rfl (by dsimp only [gn_cmp] <;> decide) ?_ | refine gx_icf rfl (by dsimp only [gn_cmp] <;> decide) ?_
        (repeat (first | refine gx_run 999 80 rfl ?_ | refine gx_goto rfl rfl ?_))
        refine gx_iret rfl rfl ?_
        rw [jk_more bd hv.2, nI_add, Nat.add_comm]
        exact hQ
    · refine gw_tsw rfl 116 (by decide) ?_
      (repeat (first | refine gx_run 999 80 rfl ?_ | refine gx_goto rfl rfl ?_))
      refine gx_iret rfl rfl ?_
      rw [mj0 p hp9 bd hv.2]
      exact hQ
  (repeat (first | refine gx_run 999 80 rfl ?_ | refine gx_goto rfl rfl ?_))
  cases hf : (dF D).testBit (dT D g k) with
  | true =>
    first | refine gx_iff rfl (by dsimp only [gn_cmp] <;> decide) ?_ | refine gx_icf rfl (by dsimp only [gn_cmp] <;> decide) ?_
    (repeat (first | refine gx_run 999 80 rfl ?_ | refine gx_goto rfl rfl ?_))
    refine gx_ld g rfl (by omega) (hM.2.2.2.2.2.1 g hg).1 rfl rfl rfl ?_
    refine gw_goto rfl ?_
    (refine gw_run 40 80 rfl ?_)
    exact key true (dP D g) hf rfl
  | false =>
    first | refine gx_ift rfl (by dsimp only [gn_cmp] <;> decide) ?_ | refine gx_ict rfl (by dsimp only [gn_cmp] <;> decide) ?_
    (refine gw_run 40 80 rfl ?_)
    exact key false 0 hf rfl
theorem mw_joyOf (hM : gM σ D) {g h k : Nat} (hg : g < dG D) (hh : h < dH D) (hk : k < dC D g) (hQ : Q (some (.int (nI (jP D g h k + k)))) σ) : gn_W (d + 2) 151 0 [.ref 44, .int (nI g), .int (nI h), .int (nI k)] [] σ Q := by
  (repeat (first | refine gx_run 999 80 rfl ?_ | refine gx_goto rfl rfl ?_))
  refine gx_call rfl rfl rfl ?_
  refine mw_plainJoy hM hg hh hk ?_
  (repeat (first | refine gx_run 999 80 rfl ?_ | refine gx_goto rfl rfl ?_))
  refine gx_iret rfl rfl ?_
  rw [nI_add]
  exact hQ
theorem mw_allTold (hM : gM σ D) (hX : mR (σ 45) A) (hA : wA2 D A) (hQ : Q (some (.int (sT D A))) σ) : gn_W d 152 0 [.ref 44] [] σ Q := by
  have hle := hM.1.1
  have hhe := hM.1.2.1
  (refine gw_run 4 80 rfl ?_)
  refine gw_for (dG D) (fun g s => if A (6 + g) = 0 then s else s ||| bt g) (fun _ _ => True) (fun i y => [.ref 44, .int y, .int (nI i)]) (fun _ => σ) 0 trivial (fun _ _ _ _ => trivial) ?_ ?_
  · intro i y hi _ hn
    have ha := hA.1 i hi
    (repeat (first | refine gx_run 999 80 rfl ?_ | refine gx_goto rfl rfl ?_))
    rw [hM.2.2.2.1]
    first | refine gx_iff rfl (nI_ge hi (by omega)) ?_ | refine gx_icf rfl (nI_ge hi (by omega)) ?_
    (repeat (first | refine gx_run 999 80 rfl ?_ | refine gx_goto rfl rfl ?_))
    refine gx_ld (6 + i) (nI_add 6 i) (by omega) (hX.by (by omega)) rfl rfl rfl ?_
    (repeat (first | refine gx_run 999 80 rfl ?_ | refine gx_goto rfl rfl ?_))
    by_cases hb : A (6 + i) = 0
    · simp only [if_pos hb] at hn
      first | refine gx_iff rfl (fun q => q ((e1_ne (by omega)).mpr hb)) ?_ | refine gx_icf rfl (fun q => q ((e1_ne (by omega)).mpr hb)) ?_
      (repeat (first | refine gx_run 999 80 rfl ?_ | refine gx_goto rfl rfl ?_))
      refine gw_goto rfl ?_
      rw [nI_1, Int32.or_zero]
      exact hn
    · simp only [if_neg hb] at hn
      first | refine gx_ift rfl (fun q => hb ((e1_ne (by omega)).mp q)) ?_ | refine gx_ict rfl (fun q => hb ((e1_ne (by omega)).mp q)) ?_
      (repeat (first | refine gx_run 999 80 rfl ?_ | refine gx_goto rfl rfl ?_))
      refine gw_goto rfl ?_
      rw [nI_1]
      exact hn
  · intro _
    (repeat (first | refine gx_run 999 80 rfl ?_ | refine gx_goto rfl rfl ?_))
    rw [hM.2.2.2.1]
    first | refine gx_ift rfl (nI_le (Nat.le_refl _) (by omega)) ?_ | refine gx_ict rfl (nI_le (Nat.le_refl _) (by omega)) ?_
    (repeat (first | refine gx_run 999 80 rfl ?_ | refine gx_goto rfl rfl ?_))
    refine gx_iret rfl rfl ?_
    exact hQ
theorem mw_wrongAt (hM : gM σ D) {g : Nat} (hg : g < dG D) (hQ : Q (some (.int (eo (wA D g)))) σ) : gn_W (d + 1) 153 0 [.ref 44, .int (nI g)] [] σ Q := by
  have hle := hM.1.1
  have hc := hM.1.2.2.2.2.1 g hg
  (refine gw_run 2 80 rfl ?_)
  refine gw_forE (dC D g) (fun k => !(dF D).testBit (dT D g k)) (fun i => [.ref 44, .int (nI g), .int (nI i)]) ?_ ?_ ?_
  · intro i hi hp hn
    have hv := hM.1.2.2.2.2.2.1 g i hg hi
    (repeat (first | refine gx_run 999 80 rfl ?_ | refine gx_goto rfl rfl ?_))
    refine gx_ld g rfl (by omega) (hM.2.2.2.2.2.1 g hg).2 rfl rfl rfl ?_
    first | refine gx_iff rfl (nI_ge hi (by omega)) ?_ | refine gx_icf rfl (nI_ge hi (by omega)) ?_
    (repeat (first | refine gx_run 999 80 rfl ?_ | refine gx_goto rfl rfl ?_))
    rw [hM.2.2.1]
    refine gx_call rfl rfl rfl ?_
    refine mw_topicOf hM hg hi ?_
    (repeat (first | refine gx_run 999 80 rfl ?_ | refine gx_goto rfl rfl ?_))
    refine gw_calls rfl rfl rfl ?_
    refine mw_has hM.1.2.2.2.1 hv.1 ?_
    rw [gb_t (by simpa using hp)]
    (repeat (first | refine gx_run 999 80 rfl ?_ | refine gx_goto rfl rfl ?_))
    first | refine gx_ift rfl (by dsimp only [gn_cmp] <;> decide) ?_ | refine gx_ict rfl (by dsimp only [gn_cmp] <;> decide) ?_
    (repeat (first | refine gx_run 999 80 rfl ?_ | refine gx_goto rfl rfl ?_))
    refine gw_goto rfl ?_
    rw [nI_1]
    exact hn
  · intro i hi hp he
    have hv := hM.1.2.2.2.2.2.1 g i hg hi
    (repeat (first | refine gx_run 999 80 rfl ?_ | refine gx_goto rfl rfl ?_))
    refine gx_ld g rfl (by omega) (hM.2.2.2.2.2.1 g hg).2 rfl rfl rfl ?_
    first | refine gx_iff rfl (nI_ge hi (by omega)) ?_ | refine gx_icf rfl (nI_ge hi (by omega)) ?_
    (repeat (first | refine gx_run 999 80 rfl ?_ | refine gx_goto rfl rfl ?_))
    rw [hM.2.2.1]
    refine gx_call rfl rfl rfl ?_
    refine mw_topicOf hM hg hi ?_
    (repeat (first | refine gx_run 999 80 rfl ?_ | refine gx_goto rfl rfl ?_))
    refine gw_calls rfl rfl rfl ?_
    refine mw_has hM.1.2.2.2.1 hv.1 ?_
    rw [gb_f (by simpa using hp)]
    (repeat (first | refine gx_run 999 80 rfl ?_ | refine gx_goto rfl rfl ?_))
    first | refine gx_iff rfl (by dsimp only [gn_cmp] <;> decide) ?_ | refine gx_icf rfl (by dsimp only [gn_cmp] <;> decide) ?_
    (repeat (first | refine gx_run 999 80 rfl ?_ | refine gx_goto rfl rfl ?_))
    refine gx_iret rfl rfl ?_
    unfold wA at hQ
    rw [he] at hQ
    exact hQ
  · intro he
    (repeat (first | refine gx_run 999 80 rfl ?_ | refine gx_goto rfl rfl ?_))
    refine gx_ld g rfl (by omega) (hM.2.2.2.2.2.1 g hg).2 rfl rfl rfl ?_
    first | refine gx_ift rfl (nI_le (Nat.le_refl _) (by omega)) ?_ | refine gx_ict rfl (nI_le (Nat.le_refl _) (by omega)) ?_
    (repeat (first | refine gx_run 999 80 rfl ?_ | refine gx_goto rfl rfl ?_))
    refine gx_iret rfl rfl ?_
    unfold wA at hQ
    rw [he] at hQ
    exact hQ
theorem mw_rightOnes (hM : gM σ D) (hQ : Q (some (.int (sR D))) σ) : gn_W (d + 2) 154 0 [.ref 44] [] σ Q := by
  have hle := hM.1.1
  (refine gw_run 4 80 rfl ?_)
  refine gw_for (dG D) (fun g s => if wA D g = none then s ||| bt g else s) (fun _ _ => True) (fun i y => [.ref 44, .int y, .int (nI i)]) (fun _ => σ) 0 trivial (fun _ _ _ _ => trivial) ?_ ?_
  · intro i y hi _ hn
    (repeat (first | refine gx_run 999 80 rfl ?_ | refine gx_goto rfl rfl ?_))
    rw [hM.2.2.2.1]
    first | refine gx_iff rfl (nI_ge hi (by omega)) ?_ | refine gx_icf rfl (nI_ge hi (by omega)) ?_
    (repeat (first | refine gx_run 999 80 rfl ?_ | refine gx_goto rfl rfl ?_))
    refine gx_call rfl rfl rfl ?_
    refine mw_wrongAt hM hi ?_
    (repeat (first | refine gx_run 999 80 rfl ?_ | refine gx_goto rfl rfl ?_))
    by_cases hw : wA D i = none
    · simp only [if_pos hw] at hn
      first | refine gx_iff rfl (fun q => q ((wA_none hM.1 hi).mpr hw)) ?_ | refine gx_icf rfl (fun q => q ((wA_none hM.1 hi).mpr hw)) ?_
      (repeat (first | refine gx_run 999 80 rfl ?_ | refine gx_goto rfl rfl ?_))
      refine gw_goto rfl ?_
      rw [nI_1]
      exact hn
    · simp only [if_neg hw] at hn
      first | refine gx_ift rfl (fun q => hw ((wA_none hM.1 hi).mp q)) ?_ | refine gx_ict rfl (fun q => hw ((wA_none hM.1 hi).mp q)) ?_
      (repeat (first | refine gx_run 999 80 rfl ?_ | refine gx_goto rfl rfl ?_))
      refine gw_goto rfl ?_
      rw [nI_1, Int32.or_zero]
      exact hn
  · intro _
    (repeat (first | refine gx_run 999 80 rfl ?_ | refine gx_goto rfl rfl ?_))
    rw [hM.2.2.2.1]
    first | refine gx_ift rfl (nI_le (Nat.le_refl _) (by omega)) ?_ | refine gx_ict rfl (nI_le (Nat.le_refl _) (by omega)) ?_
    (repeat (first | refine gx_run 999 80 rfl ?_ | refine gx_goto rfl rfl ?_))
    refine gx_iret rfl rfl ?_
    exact hQ
theorem dSn_gf {D : gD} (hW : gW D) {g n : Nat} (hg : g < dG D) (hn : n ≤ dC D g) : gf (fun k s => s ||| (1 <<< (nI (dT D g k) &&& 31))) n 0 = nI (dSn D g n) := by
  induction n with
  | zero => rfl
  | succ n ih =>
    show gf _ n 0 ||| _ = _
    rw [ih (by omega), or_bit _ (dSn_lt hW hg (by omega)) _ (hW.2.2.2.2.2.1 g n hg (by omega)).1]
    rfl
theorem mw_topicsOf (hM : gM σ D) {g : Nat} (hg : g < dG D) (hQ : Q (some (.int (nI (dS D g)))) σ) : gn_W (d + 1) 155 0 [.ref 44, .int (nI g)] [] σ Q := by
  have hle := hM.1.1
  have hc := hM.1.2.2.2.2.1 g hg
  (refine gw_run 4 80 rfl ?_)
  refine gw_for (dC D g) (fun k s => s ||| (1 <<< (nI (dT D g k) &&& 31))) (fun _ _ => True) (fun i y => [.ref 44, .int (nI g), .int y, .int (nI i)]) (fun _ => σ) 0 trivial (fun _ _ _ _ => trivial) ?_ ?_
  · intro i y hi _ hn
    (repeat (first | refine gx_run 999 80 rfl ?_ | refine gx_goto rfl rfl ?_))
    refine gx_ld g rfl (by omega) (hM.2.2.2.2.2.1 g hg).2 rfl rfl rfl ?_
    first | refine gx_iff rfl (nI_ge hi (by omega)) ?_ | refine gx_icf rfl (nI_ge hi (by omega)) ?_
    (repeat (first | refine gx_run 999 80 rfl ?_ | refine gx_goto rfl rfl ?_))
    refine gx_call rfl rfl rfl ?_
    refine mw_topicOf hM hg hi ?_
    (repeat (first | refine gx_run 999 80 rfl ?_ | refine gx_goto rfl rfl ?_))
    refine gw_goto rfl ?_
    rw [nI_1]
    exact hn
  · intro _
    (repeat (first | refine gx_run 999 80 rfl ?_ | refine gx_goto rfl rfl ?_))
    refine gx_ld g rfl (by omega) (hM.2.2.2.2.2.1 g hg).2 rfl rfl rfl ?_
    first | refine gx_ift rfl (nI_le (Nat.le_refl _) (by omega)) ?_ | refine gx_ict rfl (nI_le (Nat.le_refl _) (by omega)) ?_
    (repeat (first | refine gx_run 999 80 rfl ?_ | refine gx_goto rfl rfl ?_))
    refine gx_iret rfl rfl ?_
    rw [dSn_gf hM.1 hg (Nat.le_refl _)]
    exact hQ
theorem mw_nobodys (hM : gM σ D) (hQ : Q (some (.int (sN D))) σ) : gn_W (d + 2) 156 0 [.ref 44] [] σ Q := by
  have hle := hM.1.1
  (refine gw_run 6 80 rfl ?_)
  refine gw_for (dG D) (fun g s => s &&& (nI (dS D g) ^^^ -1)) (fun _ _ => True) (fun i y => [.ref 44, .int y, .int (nI i)]) (fun _ => σ) 255 trivial (fun _ _ _ _ => trivial) ?_ ?_
  · intro i y hi _ hn
    (repeat (first | refine gx_run 999 80 rfl ?_ | refine gx_goto rfl rfl ?_))
    rw [hM.2.2.2.1]
    first | refine gx_iff rfl (nI_ge hi (by omega)) ?_ | refine gx_icf rfl (nI_ge hi (by omega)) ?_
    (repeat (first | refine gx_run 999 80 rfl ?_ | refine gx_goto rfl rfl ?_))
    refine gx_call rfl rfl rfl ?_
    refine mw_topicsOf hM hi ?_
    (repeat (first | refine gx_run 999 80 rfl ?_ | refine gx_goto rfl rfl ?_))
    refine gw_goto rfl ?_
    rw [nI_1]
    exact hn
  · intro _
    (repeat (first | refine gx_run 999 80 rfl ?_ | refine gx_goto rfl rfl ?_))
    rw [hM.2.2.2.1]
    first | refine gx_ift rfl (nI_le (Nat.le_refl _) (by omega)) ?_ | refine gx_ict rfl (nI_le (Nat.le_refl _) (by omega)) ?_
    (repeat (first | refine gx_run 999 80 rfl ?_ | refine gx_goto rfl rfl ?_))
    refine gx_iret rfl rfl ?_
    exact hQ
/-- the reference's inner loop of MEANLY -/
theorem mean_gf {D : gD} (hW : gW D) {g h a n : Nat} (hg : g < dG D) (hh : h < dH D) (ha : a < 1000) (hn : n ≤ dC D g) (s : Int32) : gf (fun k s => s ||| (if nI a < nI (jP D g h k + k) then bt g else 0)) n s = if nI a < nI (mxJ D g h 0 n) then s ||| bt g else s := by
  have hc := (hW.2.2.2.2.1 g hg).2.2
  induction n with
  | zero =>
    have : ¬ nI a < nI (mxJ D g h 0 0) := nI_nlt (Nat.zero_le _) (by omega)
    rw [if_neg this]
    rfl
  | succ n ih =>
    show gf _ n s ||| _ = _
    rw [ih (by omega)]
    have hb := hW.jP hg hh (k := n) (by omega)
    have hm := hW.mxJ (f := 0) (n := n) hg hh (by omega)
    have hm2 : mxJ D g h 0 (n + 1) = max (mxJ D g h 0 n) (jP D g h n + n) := by simp [mxJ]
    rw [hm2]
    by_cases h1 : a < mxJ D g h 0 n
    · rw [if_pos (nI_lt h1 (by omega)), if_pos (nI_lt (show a < max (mxJ D g h 0 n) (jP D g h n + n) by omega) (by omega))]
      by_cases h2 : a < jP D g h n + n
      · rw [if_pos (nI_lt h2 (by omega)), Int32.or_assoc, Int32.or_self]
      · rw [if_neg (nI_nlt (by omega) (by omega)), Int32.or_zero]
    · rw [if_neg (nI_nlt (show mxJ D g h 0 n ≤ a by omega) (by omega))]
      by_cases h2 : a < jP D g h n + n
      · rw [if_pos (nI_lt h2 (by omega)), if_pos (nI_lt (show a < max (mxJ D g h 0 n) (jP D g h n + n) by omega) (by omega))]
      · rw [if_neg (nI_nlt (by omega) (by omega)), if_neg (nI_nlt (show max (mxJ D g h 0 n) (jP D g h n + n) ≤ a by omega) (by omega)), Int32.or_zero]
theorem mw_meanly (hM : gM σ D) (hX : mR (σ 45) A) (hA : wA2 D A) (hQ : Q (some (.int (sM D A))) σ) : gn_W (d + 3) 157 0 [.ref 44] [] σ Q := by
  have hle := hM.1.1
  have hhe := hM.1.2.1
  (refine gw_run 4 80 rfl ?_)
  refine gw_for (dG D) (fun g s => if jT D A g < jM D A g then s ||| bt g else s) (fun _ _ => True) (fun i y => [.ref 44, .int y, .int (nI i)]) (fun _ => σ) 0 trivial (fun _ _ _ _ => trivial) ?_ ?_
  · intro i y hi _ hn
    have ha := hA.1 i hi
    have hc := hM.1.2.2.2.2.1 i hi
    (repeat (first | refine gx_run 999 80 rfl ?_ | refine gx_goto rfl rfl ?_))
    rw [hM.2.2.2.1]
    first | refine gx_iff rfl (nI_ge hi (by omega)) ?_ | refine gx_icf rfl (nI_ge hi (by omega)) ?_
    (repeat (first | refine gx_run 999 80 rfl ?_ | refine gx_goto rfl rfl ?_))
    refine gx_ld (6 + i) (nI_add 6 i) (by omega) (hX.by (by omega)) rfl rfl rfl ?_
    (refine gw_run 25 80 rfl ?_)
    by_cases hb : A (6 + i) = 0
    · have e1 : jT D A i = -1 := if_pos hb
      have e2 : jM D A i = -1 := if_pos hb
      rw [e1, e2, if_neg (by decide)] at hn
      (repeat (first | refine gx_run 999 80 rfl ?_ | refine gx_goto rfl rfl ?_))
      refine gx_ld i rfl (by omega) (hM.2.2.2.2.2.1 i hi).2 rfl rfl rfl ?_
      first | refine gx_iff rfl (nI_ge (a := 0) (by omega) (by omega)) ?_ | refine gx_icf rfl (nI_ge (a := 0) (by omega) (by omega)) ?_
      (repeat (first | refine gx_run 999 80 rfl ?_ | refine gx_goto rfl rfl ?_))
      first | refine gx_ift rfl ((e1_ne (by omega)).mpr hb) ?_ | refine gx_ict rfl ((e1_ne (by omega)).mpr hb) ?_
      (repeat (first | refine gx_run 999 80 rfl ?_ | refine gx_goto rfl rfl ?_))
      refine gw_goto rfl ?_
      rw [nI_1]
      exact gx_drop [_, _, _] [_, _] (by rfl) hn
    · have hb2 : A (12 + i) ≠ 0 := fun q => hb (ha.2.2.1.mpr q)
      have e1 : jT D A i = nI (jP D i (A (6 + i) - 1) (A (12 + i) - 1) + (A (12 + i) - 1)) := if_neg hb
      have e2 : jM D A i = nI (mxJ D i (A (6 + i) - 1) 0 (dC D i)) := if_neg hb
      have hj := hM.1.jP hi (h := A (6 + i) - 1) (k := A (12 + i) - 1) (by omega) (by omega)
      rw [e1, e2] at hn
      rw [e1_pos hb]
      rw [← mean_gf hM.1 hi (by omega) (by omega) (Nat.le_refl _)] at hn
      refine gw_for (dC D i) (fun k s => s ||| (if nI (jP D i (A (6 + i) - 1) (A (12 + i) - 1) + (A (12 + i) - 1)) < nI (jP D i (A (6 + i) - 1) k + k) then bt i else 0)) (fun _ _ => True) (fun k y => [.ref 44, .int y, .int (nI i), .int (nI (A (6 + i) - 1)), .int (nI k)]) (fun _ => σ) y trivial (fun _ _ _ _ => trivial) ?_ ?_
      · intro k z hk _ hn2
        (repeat (first | refine gx_run 999 80 rfl ?_ | refine gx_goto rfl rfl ?_))
        refine gx_ld i rfl (by omega) (hM.2.2.2.2.2.1 i hi).2 rfl rfl rfl ?_
        first | refine gx_iff rfl (nI_ge hk (by omega)) ?_ | refine gx_icf rfl (nI_ge hk (by omega)) ?_
        (repeat (first | refine gx_run 999 80 rfl ?_ | refine gx_goto rfl rfl ?_))
        first | refine gx_iff rfl (nI_ne1 (by omega)) ?_ | refine gx_icf rfl (nI_ne1 (by omega)) ?_
        (repeat (first | refine gx_run 999 80 rfl ?_ | refine gx_goto rfl rfl ?_))
        refine gx_call rfl rfl rfl ?_
        refine mw_joyOf hM hi (by omega) hk ?_
        (repeat (first | refine gx_run 999 80 rfl ?_ | refine gx_goto rfl rfl ?_))
        refine gx_ld (12 + i) (nI_add 12 i) (by omega) (hX.at (by omega)) rfl rfl rfl ?_
        rw [e1_pos hb2]
        refine gx_call rfl rfl rfl ?_
        refine mw_joyOf hM hi (by omega) (by omega) ?_
        (repeat (first | refine gx_run 999 80 rfl ?_ | refine gx_goto rfl rfl ?_))
        by_cases hl : nI (jP D i (A (6 + i) - 1) (A (12 + i) - 1) + (A (12 + i) - 1)) < nI (jP D i (A (6 + i) - 1) k + k)
        · rw [if_pos hl] at hn2
          first | refine gx_iff rfl (fun q => absurd hl (Int32.not_lt.mpr q)) ?_ | refine gx_icf rfl (fun q => absurd hl (Int32.not_lt.mpr q)) ?_
          (repeat (first | refine gx_run 999 80 rfl ?_ | refine gx_goto rfl rfl ?_))
          refine gw_goto rfl ?_
          rw [nI_1]
          exact hn2
        · rw [if_neg hl] at hn2
          first | refine gx_ift rfl (Int32.not_lt.mp hl) ?_ | refine gx_ict rfl (Int32.not_lt.mp hl) ?_
          (repeat (first | refine gx_run 999 80 rfl ?_ | refine gx_goto rfl rfl ?_))
          refine gw_goto rfl ?_
          rw [nI_1]
          exact hn2
      · intro _
        (repeat (first | refine gx_run 999 80 rfl ?_ | refine gx_goto rfl rfl ?_))
        refine gx_ld i rfl (by omega) (hM.2.2.2.2.2.1 i hi).2 rfl rfl rfl ?_
        first | refine gx_ift rfl (nI_le (Nat.le_refl _) (by omega)) ?_ | refine gx_ict rfl (nI_le (Nat.le_refl _) (by omega)) ?_
        (repeat (first | refine gx_run 999 80 rfl ?_ | refine gx_goto rfl rfl ?_))
        refine gw_goto rfl ?_
        rw [nI_1]
        exact gx_drop [_, _, _] [_, _] (by rfl) hn
  · intro _
    (repeat (first | refine gx_run 999 80 rfl ?_ | refine gx_goto rfl rfl ?_))
    rw [hM.2.2.2.1]
    first | refine gx_ift rfl (nI_le (Nat.le_refl _) (by omega)) ?_ | refine gx_ict rfl (nI_le (Nat.le_refl _) (by omega)) ?_
    (repeat (first | refine gx_run 999 80 rfl ?_ | refine gx_goto rfl rfl ?_))
    refine gx_iret rfl rfl ?_
    exact hQ
/-- the reference's LEAST PLEASED: it begins at 9999 -/
def sLm (D : gD) (A : gA) (g : Nat) (y : Int32 × Int32) : Int32 × Int32 := if A (6 + g) = 0 then y else (if jT D A g < y.2 then (nI g, jT D A g) else y)
theorem sL_eq {D : gD} {A : gA} (hW : gW D) (hA : wA2 D A) {n : Nat} (hn : n ≤ dG D) : (gf (sLm D A) n (-1, 9999)).1 = (gf (fun g y => if ¬ jT D A g = -1 ∧ (y.1 = -1 ∨ jT D A g < y.2) then (nI g, jT D A g) else y) n (-1, 0)).1 ∧ ((gf (sLm D A) n (-1, 9999)).1 = -1 ∧ (gf (sLm D A) n (-1, 9999)).2 = 9999 ∨ ¬ (gf (sLm D A) n (-1, 9999)).1 = -1 ∧ (gf (sLm D A) n (-1, 9999)).2 = (gf (fun g y => if ¬ jT D A g = -1 ∧ (y.1 = -1 ∨ jT D A g < y.2) then (nI g, jT D A g) else y) n (-1, 0)).2) := by
  have hle := hW.1
  have hhe := hW.2.1
  induction n with
  | zero => exact ⟨rfl, Or.inl ⟨rfl, rfl⟩⟩
  | succ n ih =>
    have h1 := ih (by omega)
    have ha := hA.1 n (by omega)
    have hc := hW.2.2.2.2.1 n (by omega)
    show (sLm D A n (gf (sLm D A) n (-1, 9999))).1 = (if ¬ jT D A n = -1 ∧ ((gf (fun g y => if ¬ jT D A g = -1 ∧ (y.1 = -1 ∨ jT D A g < y.2) then (nI g, jT D A g) else y) n (-1, 0)).1 = -1 ∨ jT D A n < (gf (fun g y => if ¬ jT D A g = -1 ∧ (y.1 = -1 ∨ jT D A g < y.2) then (nI g, jT D A g) else y) n (-1, 0)).2) then (nI n, jT D A n) else gf (fun g y => if ¬ jT D A g = -1 ∧ (y.1 = -1 ∨ jT D A g < y.2) then (nI g, jT D A g) else y) n (-1, 0)).1 ∧ ((sLm D A n (gf (sLm D A) n (-1, 9999))).1 = -1 ∧ (sLm D A n (gf (sLm D A) n (-1, 9999))).2 = 9999 ∨ ¬ (sLm D A n (gf (sLm D A) n (-1, 9999))).1 = -1 ∧ (sLm D A n (gf (sLm D A) n (-1, 9999))).2 = (if ¬ jT D A n = -1 ∧ ((gf (fun g y => if ¬ jT D A g = -1 ∧ (y.1 = -1 ∨ jT D A g < y.2) then (nI g, jT D A g) else y) n (-1, 0)).1 = -1 ∨ jT D A n < (gf (fun g y => if ¬ jT D A g = -1 ∧ (y.1 = -1 ∨ jT D A g < y.2) then (nI g, jT D A g) else y) n (-1, 0)).2) then (nI n, jT D A n) else gf (fun g y => if ¬ jT D A g = -1 ∧ (y.1 = -1 ∨ jT D A g < y.2) then (nI g, jT D A g) else y) n (-1, 0)).2)
    generalize gf (sLm D A) n (-1, 9999) = p at h1 ⊢
    generalize gf (fun g y => if ¬ jT D A g = -1 ∧ (y.1 = -1 ∨ jT D A g < y.2) then (nI g, jT D A g) else y) n (-1, 0) = q at h1 ⊢
    unfold sLm
    by_cases hb : A (6 + n) = 0
    · have e1 : jT D A n = -1 := if_pos hb
      rw [if_pos hb, if_neg (fun z => z.1 e1)]
      exact h1
    · have hb2 : A (12 + n) ≠ 0 := fun q => hb (ha.2.2.1.mpr q)
      have e1 : jT D A n = nI (jP D n (A (6 + n) - 1) (A (12 + n) - 1) + (A (12 + n) - 1)) := if_neg hb
      have hj := hW.jP (g := n) (by omega) (h := A (6 + n) - 1) (k := A (12 + n) - 1) (by omega) (by omega)
      have hne : ¬ jT D A n = -1 := by rw [e1]; exact nI_ne1 (by omega)
      rw [if_neg hb]
      rcases h1 with ⟨h1, ⟨h2, h3⟩ | ⟨h2, h3⟩⟩
      · have hlt : jT D A n < p.2 := by rw [h3, e1]; exact nI_lt (b := 9999) (by omega) (by omega)
        rw [if_pos hlt, if_pos ⟨hne, Or.inl (by rw [← h1]; exact h2)⟩]
        exact ⟨rfl, Or.inr ⟨nI_ne1 (by omega), rfl⟩⟩
      · by_cases hlt : jT D A n < p.2
        · rw [if_pos hlt, if_pos ⟨hne, Or.inr (by rw [← h3]; exact hlt)⟩]
          exact ⟨rfl, Or.inr ⟨nI_ne1 (by omega), rfl⟩⟩
        · rw [if_neg hlt, if_neg (fun z => z.2.elim (fun z => h2 (by rw [h1]; exact z)) (fun z => hlt (by rw [h3]; exact z)))]
          exact ⟨h1, Or.inr ⟨h2, h3⟩⟩
theorem mw_least (hM : gM σ D) (hX : mR (σ 45) A) (hA : wA2 D A) (hQ : Q (some (.int (sL D A).1)) σ) : gn_W (d + 3) 158 0 [.ref 44] [] σ Q := by
  have hle := hM.1.1
  have hhe := hM.1.2.1
  (refine gw_run 8 80 rfl ?_)
  refine gw_for (dG D) (sLm D A) (fun _ _ => True) (fun i y => [.ref 44, .int y.1, .int y.2, .int (nI i)]) (fun _ => σ) ((-1 : Int32), (9999 : Int32)) trivial (fun _ _ _ _ => trivial) ?_ ?_
  · intro i y hi _ hn
    have ha := hA.1 i hi
    have hc := hM.1.2.2.2.2.1 i hi
    (repeat (first | refine gx_run 999 80 rfl ?_ | refine gx_goto rfl rfl ?_))
    rw [hM.2.2.2.1]
    first | refine gx_iff rfl (nI_ge hi (by omega)) ?_ | refine gx_icf rfl (nI_ge hi (by omega)) ?_
    (repeat (first | refine gx_run 999 80 rfl ?_ | refine gx_goto rfl rfl ?_))
    refine gx_ld (6 + i) (nI_add 6 i) (by omega) (hX.by (by omega)) rfl rfl rfl ?_
    (repeat (first | refine gx_run 999 80 rfl ?_ | refine gx_goto rfl rfl ?_))
    unfold sLm at hn
    by_cases hb : A (6 + i) = 0
    · simp only [if_pos hb] at hn
      first | refine gx_ift rfl ((e1_ne (by omega)).mpr hb) ?_ | refine gx_ict rfl ((e1_ne (by omega)).mpr hb) ?_
      (repeat (first | refine gx_run 999 80 rfl ?_ | refine gx_goto rfl rfl ?_))
      refine gw_goto rfl ?_
      rw [nI_1]
      exact hn
    · simp only [if_neg hb] at hn
      have hb2 : A (12 + i) ≠ 0 := fun q => hb (ha.2.2.1.mpr q)
      have e1 : jT D A i = nI (jP D i (A (6 + i) - 1) (A (12 + i) - 1) + (A (12 + i) - 1)) := if_neg hb
      first | refine gx_iff rfl (fun q => hb ((e1_ne (by omega)).mp q)) ?_ | refine gx_icf rfl (fun q => hb ((e1_ne (by omega)).mp q)) ?_
      (repeat (first | refine gx_run 999 80 rfl ?_ | refine gx_goto rfl rfl ?_))
      refine gx_ld (6 + i) (nI_add 6 i) (by omega) (hX.by (by omega)) rfl rfl rfl ?_
      (repeat (first | refine gx_run 999 80 rfl ?_ | refine gx_goto rfl rfl ?_))
      refine gx_ld (12 + i) (nI_add 12 i) (by omega) (hX.at (by omega)) rfl rfl rfl ?_
      rw [e1_pos hb, e1_pos hb2]
      refine gx_call rfl rfl rfl ?_
      refine mw_joyOf hM hi (by omega) (by omega) ?_
      rw [← e1]
      (repeat (first | refine gx_run 999 80 rfl ?_ | refine gx_goto rfl rfl ?_))
      by_cases hl : jT D A i < y.2
      · rw [if_pos hl] at hn
        first | refine gx_iff rfl (fun q => absurd hl (Int32.not_lt.mpr q)) ?_ | refine gx_icf rfl (fun q => absurd hl (Int32.not_lt.mpr q)) ?_
        (repeat (first | refine gx_run 999 80 rfl ?_ | refine gx_goto rfl rfl ?_))
        first | refine gx_iff rfl (fun q => absurd hl (Int32.not_lt.mpr q)) ?_ | refine gx_icf rfl (fun q => absurd hl (Int32.not_lt.mpr q)) ?_
        (repeat (first | refine gx_run 999 80 rfl ?_ | refine gx_goto rfl rfl ?_))
        refine gw_goto rfl ?_
        rw [nI_1]
        exact gx_drop [_, _, _, _] [_] (by rfl) hn
      · rw [if_neg hl] at hn
        first | refine gx_ift rfl (Int32.not_lt.mp hl) ?_ | refine gx_ict rfl (Int32.not_lt.mp hl) ?_
        (repeat (first | refine gx_run 999 80 rfl ?_ | refine gx_goto rfl rfl ?_))
        first | refine gx_ift rfl (Int32.not_lt.mp hl) ?_ | refine gx_ict rfl (Int32.not_lt.mp hl) ?_
        (repeat (first | refine gx_run 999 80 rfl ?_ | refine gx_goto rfl rfl ?_))
        refine gw_goto rfl ?_
        rw [nI_1]
        exact gx_drop [_, _, _, _] [_] (by rfl) hn
  · intro _
    (repeat (first | refine gx_run 999 80 rfl ?_ | refine gx_goto rfl rfl ?_))
    rw [hM.2.2.2.1]
    first | refine gx_ift rfl (nI_le (Nat.le_refl _) (by omega)) ?_ | refine gx_ict rfl (nI_le (Nat.le_refl _) (by omega)) ?_
    (repeat (first | refine gx_run 999 80 rfl ?_ | refine gx_goto rfl rfl ?_))
    refine gx_iret rfl rfl ?_
    rw [(sL_eq hM.1 hA (Nat.le_refl _)).1]
    exact hQ
end
end
