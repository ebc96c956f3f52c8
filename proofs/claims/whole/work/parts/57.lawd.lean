/-! the law's code, its methods: printed by wip/whole/gen/lawg.py -/
set_option maxRecDepth 100000 in
theorem gk_0 : decode code 0 = .ok (.new 7, 3) := by decide +kernel
set_option maxRecDepth 100000 in
theorem gk_3 : decode code 3 = .ok (.dup, 1) := by decide +kernel
set_option maxRecDepth 100000 in
theorem gk_4 : decode code 4 = .ok (.invokespecial 9, 3) := by decide +kernel
set_option maxRecDepth 100000 in
theorem gk_7 : decode code 7 = .ok (.astore_n 1, 1) := by decide +kernel
set_option maxRecDepth 100000 in
theorem gk_8 : decode code 8 = .ok (.new 10, 3) := by decide +kernel
set_option maxRecDepth 100000 in
theorem gk_11 : decode code 11 = .ok (.dup, 1) := by decide +kernel
set_option maxRecDepth 100000 in
theorem gk_12 : decode code 12 = .ok (.invokespecial 12, 3) := by decide +kernel
set_option maxRecDepth 100000 in
theorem gk_15 : decode code 15 = .ok (.astore_n 2, 1) := by decide +kernel
set_option maxRecDepth 100000 in
theorem gk_16 : decode code 16 = .ok (.iconst 0, 1) := by decide +kernel
set_option maxRecDepth 100000 in
theorem gk_17 : decode code 17 = .ok (.istore_n 3, 1) := by decide +kernel
set_option maxRecDepth 100000 in
theorem gk_18 : decode code 18 = .ok (.iload_n 3, 1) := by decide +kernel
set_option maxRecDepth 100000 in
theorem gk_19 : decode code 19 = .ok (.aload_n 0, 1) := by decide +kernel
set_option maxRecDepth 100000 in
theorem gk_20 : decode code 20 = .ok (.arraylength, 1) := by decide +kernel
set_option maxRecDepth 100000 in
theorem gk_21 : decode code 21 = .ok (.iconst 4, 1) := by decide +kernel
set_option maxRecDepth 100000 in
theorem gk_22 : decode code 22 = .ok (.isub, 1) := by decide +kernel
set_option maxRecDepth 100000 in
theorem gk_23 : decode code 23 = .ok (.if_icmp .gt 1001, 3) := by decide +kernel
set_option maxRecDepth 100000 in
theorem gk_26 : decode code 26 = .ok (.aload_n 0, 1) := by decide +kernel
set_option maxRecDepth 100000 in
theorem gk_27 : decode code 27 = .ok (.iload_n 3, 1) := by decide +kernel
set_option maxRecDepth 100000 in
theorem gk_28 : decode code 28 = .ok (.iaload, 1) := by decide +kernel
set_option maxRecDepth 100000 in
theorem gk_29 : decode code 29 = .ok (.bipush 31, 2) := by decide +kernel
set_option maxRecDepth 100000 in
theorem gk_31 : decode code 31 = .ok (.iand, 1) := by decide +kernel
set_option maxRecDepth 100000 in
theorem gk_32 : decode code 32 = .ok (.tableswitch 986 0 31 #[144, 167, 180, 193, 216, 249, 292, 325, 348, 381, 414, 437, 460, 473, 496, 519, 562, 595, 618, 651, 694, 727, 750, 783, 832, 845, 858, 891, 904, 917, 940, 963], 144) := by decide +kernel
set_option maxRecDepth 100000 in
theorem gk_1018 : decode code 1018 = .ok (.iinc 3 4, 3) := by decide +kernel
set_option maxRecDepth 100000 in
theorem gk_1021 : decode code 1021 = .ok (.goto (-1003), 3) := by decide +kernel
set_option maxRecDepth 100000 in
theorem gk_1024 : decode code 1024 = .ok (.iconst 1, 1) := by decide +kernel
set_option maxRecDepth 100000 in
theorem gk_1025 : decode code 1025 = .ok (.ireturn, 1) := by decide +kernel
set_option maxRecDepth 100000 in
theorem gk_d0 : gl_ok (gl_sh 1 176 13 17) := by unfold gl_ok; decide +kernel
theorem gk_a0 : gn_meta[92]? = some (⟨"GuestNoes", "feed", "(I)I"⟩, prog_1_method_2_code, 2, (some .int), false, 1, 11) := rfl
theorem gk_b0 : gn_meta[135]? = some (⟨"GuestNoesModel", "feed", "(I)I"⟩, prog_14_method_8_code, 2, (some .int), false, 1, 12) := rfl
set_option maxRecDepth 100000 in
theorem gk_l0 : Cond.methodLink R_law 13 ⟨"GuestNoes", "feed", "(I)I"⟩ ∈ lw_tbl := List.mem_of_getElem? (i := 439) (by decide +kernel)
set_option maxRecDepth 100000 in
theorem gk_r0 : Cond.methodLink R_law 17 ⟨"GuestNoesModel", "feed", "(I)I"⟩ ∈ lw_tbl := List.mem_of_getElem? (i := 1138) (by decide +kernel)
set_option maxRecDepth 100000 in
theorem gk_d1 : gl_ok (gl_sh 0 199 18 22) := by unfold gl_ok; decide +kernel
theorem gk_a1 : gn_meta[93]? = some (⟨"GuestNoes", "evening", "()I"⟩, prog_1_method_3_code, 2, (some .int), false, 0, 11) := rfl
theorem gk_b1 : gn_meta[144]? = some (⟨"GuestNoesModel", "evening", "()I"⟩, prog_14_method_17_code, 1, (some .int), false, 0, 12) := rfl
set_option maxRecDepth 100000 in
theorem gk_l1 : Cond.methodLink R_law 18 ⟨"GuestNoes", "evening", "()I"⟩ ∈ lw_tbl := List.mem_of_getElem? (i := 449) (by decide +kernel)
set_option maxRecDepth 100000 in
theorem gk_r1 : Cond.methodLink R_law 22 ⟨"GuestNoesModel", "evening", "()I"⟩ ∈ lw_tbl := List.mem_of_getElem? (i := 1147) (by decide +kernel)
set_option maxRecDepth 100000 in
theorem gk_d2 : gl_ok (gl_sh 0 212 23 26) := by unfold gl_ok; decide +kernel
theorem gk_a2 : gn_meta[94]? = some (⟨"GuestNoes", "fault", "()I"⟩, prog_1_method_4_code, 1, (some .int), false, 0, 11) := rfl
theorem gk_b2 : gn_meta[147]? = some (⟨"GuestNoesModel", "fault", "()I"⟩, prog_14_method_20_code, 1, (some .int), false, 0, 12) := rfl
set_option maxRecDepth 100000 in
theorem gk_l2 : Cond.methodLink R_law 23 ⟨"GuestNoes", "fault", "()I"⟩ ∈ lw_tbl := List.mem_of_getElem? (i := 543) (by decide +kernel)
set_option maxRecDepth 100000 in
theorem gk_r2 : Cond.methodLink R_law 26 ⟨"GuestNoesModel", "fault", "()I"⟩ ∈ lw_tbl := List.mem_of_getElem? (i := 1191) (by decide +kernel)
set_option maxRecDepth 100000 in
theorem gk_d3 : gl_ok (gl_sh 1 225 27 30) := by unfold gl_ok; decide +kernel
theorem gk_a3 : gn_meta[95]? = some (⟨"GuestNoes", "told", "(I)I"⟩, prog_1_method_5_code, 2, (some .int), false, 1, 11) := rfl
theorem gk_b3 : gn_meta[159]? = some (⟨"GuestNoesModel", "told", "(I)I"⟩, prog_14_method_32_code, 2, (some .int), false, 1, 12) := rfl
set_option maxRecDepth 100000 in
theorem gk_l3 : Cond.methodLink R_law 27 ⟨"GuestNoes", "told", "(I)I"⟩ ∈ lw_tbl := List.mem_of_getElem? (i := 547) (by decide +kernel)
set_option maxRecDepth 100000 in
theorem gk_r3 : Cond.methodLink R_law 30 ⟨"GuestNoesModel", "told", "(I)I"⟩ ∈ lw_tbl := List.mem_of_getElem? (i := 1195) (by decide +kernel)
set_option maxRecDepth 100000 in
theorem gk_d4 : gl_ok (gl_sh 2 248 31 35) := by unfold gl_ok; decide +kernel
theorem gk_a4 : gn_meta[96]? = some (⟨"GuestNoes", "guest", "(II)I"⟩, prog_1_method_6_code, 3, (some .int), false, 2, 11) := rfl
theorem gk_b4 : gn_meta[160]? = some (⟨"GuestNoesModel", "guest", "(II)I"⟩, prog_14_method_33_code, 3, (some .int), false, 2, 12) := rfl
set_option maxRecDepth 100000 in
theorem gk_l4 : Cond.methodLink R_law 31 ⟨"GuestNoes", "guest", "(II)I"⟩ ∈ lw_tbl := List.mem_of_getElem? (i := 653) (by decide +kernel)
set_option maxRecDepth 100000 in
theorem gk_r4 : Cond.methodLink R_law 35 ⟨"GuestNoesModel", "guest", "(II)I"⟩ ∈ lw_tbl := List.mem_of_getElem? (i := 1246) (by decide +kernel)
set_option maxRecDepth 100000 in
theorem gk_d5 : gl_ok (gl_sh 3 281 36 40) := by unfold gl_ok; decide +kernel
theorem gk_a5 : gn_meta[97]? = some (⟨"GuestNoes", "claim", "(III)I"⟩, prog_1_method_7_code, 4, (some .int), false, 3, 11) := rfl
theorem gk_b5 : gn_meta[161]? = some (⟨"GuestNoesModel", "claim", "(III)I"⟩, prog_14_method_34_code, 4, (some .int), false, 3, 12) := rfl
set_option maxRecDepth 100000 in
theorem gk_l5 : Cond.methodLink R_law 36 ⟨"GuestNoes", "claim", "(III)I"⟩ ∈ lw_tbl := List.mem_of_getElem? (i := 671) (by decide +kernel)
set_option maxRecDepth 100000 in
theorem gk_r5 : Cond.methodLink R_law 40 ⟨"GuestNoesModel", "claim", "(III)I"⟩ ∈ lw_tbl := List.mem_of_getElem? (i := 1255) (by decide +kernel)
set_option maxRecDepth 100000 in
theorem gk_d6 : gl_ok (gl_sh 2 324 41 44) := by unfold gl_ok; decide +kernel
theorem gk_a6 : gn_meta[98]? = some (⟨"GuestNoes", "host", "(II)I"⟩, prog_1_method_8_code, 3, (some .int), false, 2, 11) := rfl
theorem gk_b6 : gn_meta[162]? = some (⟨"GuestNoesModel", "host", "(II)I"⟩, prog_14_method_35_code, 3, (some .int), false, 2, 12) := rfl
set_option maxRecDepth 100000 in
theorem gk_l6 : Cond.methodLink R_law 41 ⟨"GuestNoes", "host", "(II)I"⟩ ∈ lw_tbl := List.mem_of_getElem? (i := 683) (by decide +kernel)
set_option maxRecDepth 100000 in
theorem gk_r6 : Cond.methodLink R_law 44 ⟨"GuestNoesModel", "host", "(II)I"⟩ ∈ lw_tbl := List.mem_of_getElem? (i := 1259) (by decide +kernel)
set_option maxRecDepth 100000 in
theorem gk_d7 : gl_ok (gl_sh 1 357 45 48) := by unfold gl_ok; decide +kernel
theorem gk_a7 : gn_meta[99]? = some (⟨"GuestNoes", "say", "(I)I"⟩, prog_1_method_9_code, 2, (some .int), false, 1, 11) := rfl
theorem gk_b7 : gn_meta[164]? = some (⟨"GuestNoesModel", "say", "(I)I"⟩, prog_14_method_37_code, 2, (some .int), false, 1, 12) := rfl
set_option maxRecDepth 100000 in
theorem gk_l7 : Cond.methodLink R_law 45 ⟨"GuestNoes", "say", "(I)I"⟩ ∈ lw_tbl := List.mem_of_getElem? (i := 697) (by decide +kernel)
set_option maxRecDepth 100000 in
theorem gk_r7 : Cond.methodLink R_law 48 ⟨"GuestNoesModel", "say", "(I)I"⟩ ∈ lw_tbl := List.mem_of_getElem? (i := 1267) (by decide +kernel)
set_option maxRecDepth 100000 in
theorem gk_d8 : gl_ok (gl_sh 2 380 49 52) := by unfold gl_ok; decide +kernel
theorem gk_a8 : gn_meta[100]? = some (⟨"GuestNoes", "no", "(II)I"⟩, prog_1_method_10_code, 3, (some .int), false, 2, 11) := rfl
theorem gk_b8 : gn_meta[169]? = some (⟨"GuestNoesModel", "no", "(II)I"⟩, prog_14_method_42_code, 3, (some .int), false, 2, 12) := rfl
set_option maxRecDepth 100000 in
theorem gk_l8 : Cond.methodLink R_law 49 ⟨"GuestNoes", "no", "(II)I"⟩ ∈ lw_tbl := List.mem_of_getElem? (i := 724) (by decide +kernel)
set_option maxRecDepth 100000 in
theorem gk_r8 : Cond.methodLink R_law 52 ⟨"GuestNoesModel", "no", "(II)I"⟩ ∈ lw_tbl := List.mem_of_getElem? (i := 1280) (by decide +kernel)
set_option maxRecDepth 100000 in
theorem gk_d9 : gl_ok (gl_sh 2 413 53 56) := by unfold gl_ok; decide +kernel
theorem gk_a9 : gn_meta[101]? = some (⟨"GuestNoes", "share", "(II)I"⟩, prog_1_method_11_code, 3, (some .int), false, 2, 11) := rfl
theorem gk_b9 : gn_meta[170]? = some (⟨"GuestNoesModel", "share", "(II)I"⟩, prog_14_method_43_code, 4, (some .int), false, 2, 12) := rfl
set_option maxRecDepth 100000 in
theorem gk_l9 : Cond.methodLink R_law 53 ⟨"GuestNoes", "share", "(II)I"⟩ ∈ lw_tbl := List.mem_of_getElem? (i := 756) (by decide +kernel)
set_option maxRecDepth 100000 in
theorem gk_r9 : Cond.methodLink R_law 56 ⟨"GuestNoesModel", "share", "(II)I"⟩ ∈ lw_tbl := List.mem_of_getElem? (i := 1301) (by decide +kernel)
set_option maxRecDepth 100000 in
theorem gk_d10 : gl_ok (gl_sh 1 446 57 60) := by unfold gl_ok; decide +kernel
theorem gk_a10 : gn_meta[102]? = some (⟨"GuestNoes", "bed", "(I)I"⟩, prog_1_method_12_code, 2, (some .int), false, 1, 11) := rfl
theorem gk_b10 : gn_meta[172]? = some (⟨"GuestNoesModel", "bed", "(I)I"⟩, prog_14_method_45_code, 2, (some .int), false, 1, 12) := rfl
set_option maxRecDepth 100000 in
theorem gk_l10 : Cond.methodLink R_law 57 ⟨"GuestNoes", "bed", "(I)I"⟩ ∈ lw_tbl := List.mem_of_getElem? (i := 769) (by decide +kernel)
set_option maxRecDepth 100000 in
theorem gk_r10 : Cond.methodLink R_law 60 ⟨"GuestNoesModel", "bed", "(I)I"⟩ ∈ lw_tbl := List.mem_of_getElem? (i := 1305) (by decide +kernel)
set_option maxRecDepth 100000 in
theorem gk_d11 : gl_ok (gl_sh 1 469 61 64) := by unfold gl_ok; decide +kernel
theorem gk_a11 : gn_meta[103]? = some (⟨"GuestNoes", "hour", "(I)I"⟩, prog_1_method_13_code, 4, (some .int), false, 1, 11) := rfl
theorem gk_b11 : gn_meta[175]? = some (⟨"GuestNoesModel", "hour", "(I)I"⟩, prog_14_method_48_code, 3, (some .int), false, 1, 12) := rfl
set_option maxRecDepth 100000 in
theorem gk_l11 : Cond.methodLink R_law 61 ⟨"GuestNoes", "hour", "(I)I"⟩ ∈ lw_tbl := List.mem_of_getElem? (i := 778) (by decide +kernel)
set_option maxRecDepth 100000 in
theorem gk_r11 : Cond.methodLink R_law 64 ⟨"GuestNoesModel", "hour", "(I)I"⟩ ∈ lw_tbl := List.mem_of_getElem? (i := 1313) (by decide +kernel)
set_option maxRecDepth 100000 in
theorem gk_d12 : gl_ok (gl_sh 0 492 65 68) := by unfold gl_ok; decide +kernel
theorem gk_a12 : gn_meta[104]? = some (⟨"GuestNoes", "anew", "()I"⟩, prog_1_method_14_code, 1, (some .int), false, 0, 11) := rfl
theorem gk_b12 : gn_meta[176]? = some (⟨"GuestNoesModel", "anew", "()I"⟩, prog_14_method_49_code, 1, (some .int), false, 0, 12) := rfl
set_option maxRecDepth 100000 in
theorem gk_l12 : Cond.methodLink R_law 65 ⟨"GuestNoes", "anew", "()I"⟩ ∈ lw_tbl := List.mem_of_getElem? (i := 793) (by decide +kernel)
set_option maxRecDepth 100000 in
theorem gk_r12 : Cond.methodLink R_law 68 ⟨"GuestNoesModel", "anew", "()I"⟩ ∈ lw_tbl := List.mem_of_getElem? (i := 1326) (by decide +kernel)
set_option maxRecDepth 100000 in
theorem gk_d13 : gl_ok (gl_sh 1 505 69 72) := by unfold gl_ok; decide +kernel
theorem gk_a13 : gn_meta[105]? = some (⟨"GuestNoes", "drift", "(I)I"⟩, prog_1_method_15_code, 4, (some .int), false, 1, 11) := rfl
theorem gk_b13 : gn_meta[179]? = some (⟨"GuestNoesModel", "drift", "(I)I"⟩, prog_14_method_52_code, 3, (some .int), false, 1, 12) := rfl
set_option maxRecDepth 100000 in
theorem gk_l13 : Cond.methodLink R_law 69 ⟨"GuestNoes", "drift", "(I)I"⟩ ∈ lw_tbl := List.mem_of_getElem? (i := 801) (by decide +kernel)
set_option maxRecDepth 100000 in
theorem gk_r13 : Cond.methodLink R_law 72 ⟨"GuestNoesModel", "drift", "(I)I"⟩ ∈ lw_tbl := List.mem_of_getElem? (i := 1330) (by decide +kernel)
set_option maxRecDepth 100000 in
theorem gk_d14 : gl_ok (gl_sh 1 528 73 76) := by unfold gl_ok; decide +kernel
theorem gk_a14 : gn_meta[106]? = some (⟨"GuestNoes", "undo", "(I)I"⟩, prog_1_method_16_code, 2, (some .int), false, 1, 11) := rfl
theorem gk_b14 : gn_meta[180]? = some (⟨"GuestNoesModel", "undo", "(I)I"⟩, prog_14_method_53_code, 3, (some .int), false, 1, 12) := rfl
set_option maxRecDepth 100000 in
theorem gk_l14 : Cond.methodLink R_law 73 ⟨"GuestNoes", "undo", "(I)I"⟩ ∈ lw_tbl := List.mem_of_getElem? (i := 821) (by decide +kernel)
set_option maxRecDepth 100000 in
theorem gk_r14 : Cond.methodLink R_law 76 ⟨"GuestNoesModel", "undo", "(I)I"⟩ ∈ lw_tbl := List.mem_of_getElem? (i := 1346) (by decide +kernel)
set_option maxRecDepth 100000 in
theorem gk_d15 : gl_ok (gl_sh 3 551 77 80) := by unfold gl_ok; decide +kernel
theorem gk_a15 : gn_meta[107]? = some (⟨"GuestNoes", "joy", "(III)I"⟩, prog_1_method_17_code, 4, (some .int), false, 3, 11) := rfl
theorem gk_b15 : gn_meta[181]? = some (⟨"GuestNoesModel", "joy", "(III)I"⟩, prog_14_method_54_code, 4, (some .int), false, 3, 12) := rfl
set_option maxRecDepth 100000 in
theorem gk_l15 : Cond.methodLink R_law 77 ⟨"GuestNoes", "joy", "(III)I"⟩ ∈ lw_tbl := List.mem_of_getElem? (i := 829) (by decide +kernel)
set_option maxRecDepth 100000 in
theorem gk_r15 : Cond.methodLink R_law 80 ⟨"GuestNoesModel", "joy", "(III)I"⟩ ∈ lw_tbl := List.mem_of_getElem? (i := 1350) (by decide +kernel)
set_option maxRecDepth 100000 in
theorem gk_d16 : gl_ok (gl_sh 2 594 81 84) := by unfold gl_ok; decide +kernel
theorem gk_a16 : gn_meta[108]? = some (⟨"GuestNoes", "best", "(II)I"⟩, prog_1_method_18_code, 3, (some .int), false, 2, 11) := rfl
theorem gk_b16 : gn_meta[184]? = some (⟨"GuestNoesModel", "best", "(II)I"⟩, prog_14_method_57_code, 8, (some .int), false, 2, 12) := rfl
set_option maxRecDepth 100000 in
theorem gk_l16 : Cond.methodLink R_law 81 ⟨"GuestNoes", "best", "(II)I"⟩ ∈ lw_tbl := List.mem_of_getElem? (i := 834) (by decide +kernel)
set_option maxRecDepth 100000 in
theorem gk_r16 : Cond.methodLink R_law 84 ⟨"GuestNoesModel", "best", "(II)I"⟩ ∈ lw_tbl := List.mem_of_getElem? (i := 1354) (by decide +kernel)
set_option maxRecDepth 100000 in
theorem gk_d17 : gl_ok (gl_sh 1 627 85 88) := by unfold gl_ok; decide +kernel
theorem gk_a17 : gn_meta[109]? = some (⟨"GuestNoes", "plan", "(I)I"⟩, prog_1_method_19_code, 2, (some .int), false, 1, 11) := rfl
theorem gk_b17 : gn_meta[187]? = some (⟨"GuestNoesModel", "plan", "(I)I"⟩, prog_14_method_60_code, 6, (some .int), false, 1, 12) := rfl
set_option maxRecDepth 100000 in
theorem gk_l17 : Cond.methodLink R_law 85 ⟨"GuestNoes", "plan", "(I)I"⟩ ∈ lw_tbl := List.mem_of_getElem? (i := 847) (by decide +kernel)
set_option maxRecDepth 100000 in
theorem gk_r17 : Cond.methodLink R_law 88 ⟨"GuestNoesModel", "plan", "(I)I"⟩ ∈ lw_tbl := List.mem_of_getElem? (i := 1362) (by decide +kernel)
set_option maxRecDepth 100000 in
theorem gk_d18 : gl_ok (gl_sh 2 650 89 92) := by unfold gl_ok; decide +kernel
theorem gk_a18 : gn_meta[110]? = some (⟨"GuestNoes", "line", "(II)I"⟩, prog_1_method_20_code, 3, (some .int), false, 2, 11) := rfl
theorem gk_b18 : gn_meta[190]? = some (⟨"GuestNoesModel", "line", "(II)I"⟩, prog_14_method_63_code, 3, (some .int), false, 2, 12) := rfl
set_option maxRecDepth 100000 in
theorem gk_l18 : Cond.methodLink R_law 89 ⟨"GuestNoes", "line", "(II)I"⟩ ∈ lw_tbl := List.mem_of_getElem? (i := 878) (by decide +kernel)
set_option maxRecDepth 100000 in
theorem gk_r18 : Cond.methodLink R_law 92 ⟨"GuestNoesModel", "line", "(II)I"⟩ ∈ lw_tbl := List.mem_of_getElem? (i := 1377) (by decide +kernel)
set_option maxRecDepth 100000 in
theorem gk_d19 : gl_ok (gl_sh 3 683 93 96) := by unfold gl_ok; decide +kernel
theorem gk_a19 : gn_meta[111]? = some (⟨"GuestNoes", "now", "(III)I"⟩, prog_1_method_21_code, 4, (some .int), false, 3, 11) := rfl
theorem gk_b19 : gn_meta[191]? = some (⟨"GuestNoesModel", "now", "(III)I"⟩, prog_14_method_64_code, 4, (some .int), false, 3, 12) := rfl
set_option maxRecDepth 100000 in
theorem gk_l19 : Cond.methodLink R_law 93 ⟨"GuestNoes", "now", "(III)I"⟩ ∈ lw_tbl := List.mem_of_getElem? (i := 898) (by decide +kernel)
set_option maxRecDepth 100000 in
theorem gk_r19 : Cond.methodLink R_law 96 ⟨"GuestNoesModel", "now", "(III)I"⟩ ∈ lw_tbl := List.mem_of_getElem? (i := 1389) (by decide +kernel)
set_option maxRecDepth 100000 in
theorem gk_d20 : gl_ok (gl_sh 2 726 97 100) := by unfold gl_ok; decide +kernel
theorem gk_a20 : gn_meta[112]? = some (⟨"GuestNoes", "agree", "(II)I"⟩, prog_1_method_22_code, 3, (some .int), false, 2, 11) := rfl
theorem gk_b20 : gn_meta[192]? = some (⟨"GuestNoesModel", "agree", "(II)I"⟩, prog_14_method_65_code, 3, (some .int), false, 2, 12) := rfl
set_option maxRecDepth 100000 in
theorem gk_l20 : Cond.methodLink R_law 97 ⟨"GuestNoes", "agree", "(II)I"⟩ ∈ lw_tbl := List.mem_of_getElem? (i := 907) (by decide +kernel)
set_option maxRecDepth 100000 in
theorem gk_r20 : Cond.methodLink R_law 100 ⟨"GuestNoesModel", "agree", "(II)I"⟩ ∈ lw_tbl := List.mem_of_getElem? (i := 1393) (by decide +kernel)
set_option maxRecDepth 100000 in
theorem gk_d21 : gl_ok (gl_sh 1 759 101 104) := by unfold gl_ok; decide +kernel
theorem gk_a21 : gn_meta[113]? = some (⟨"GuestNoes", "boldest", "(I)I"⟩, prog_1_method_23_code, 2, (some .int), false, 1, 11) := rfl
theorem gk_b21 : gn_meta[193]? = some (⟨"GuestNoesModel", "boldest", "(I)I"⟩, prog_14_method_66_code, 6, (some .int), false, 1, 12) := rfl
set_option maxRecDepth 100000 in
theorem gk_l21 : Cond.methodLink R_law 101 ⟨"GuestNoes", "boldest", "(I)I"⟩ ∈ lw_tbl := List.mem_of_getElem? (i := 912) (by decide +kernel)
set_option maxRecDepth 100000 in
theorem gk_r21 : Cond.methodLink R_law 104 ⟨"GuestNoesModel", "boldest", "(I)I"⟩ ∈ lw_tbl := List.mem_of_getElem? (i := 1397) (by decide +kernel)
set_option maxRecDepth 100000 in
theorem gk_d22 : gl_ok (gl_sh 2 782 105 108) := by unfold gl_ok; decide +kernel
theorem gk_a22 : gn_meta[114]? = some (⟨"GuestNoes", "dry", "(II)I"⟩, prog_1_method_24_code, 6, (some .int), false, 2, 11) := rfl
theorem gk_b22 : gn_meta[194]? = some (⟨"GuestNoesModel", "dry", "(II)I"⟩, prog_14_method_67_code, 6, (some .int), false, 2, 12) := rfl
set_option maxRecDepth 100000 in
theorem gk_l22 : Cond.methodLink R_law 105 ⟨"GuestNoes", "dry", "(II)I"⟩ ∈ lw_tbl := List.mem_of_getElem? (i := 928) (by decide +kernel)
set_option maxRecDepth 100000 in
theorem gk_r22 : Cond.methodLink R_law 108 ⟨"GuestNoesModel", "dry", "(II)I"⟩ ∈ lw_tbl := List.mem_of_getElem? (i := 1401) (by decide +kernel)
set_option maxRecDepth 100000 in
theorem gk_d23 : gl_ok gl_hsh := by unfold gl_ok; decide +kernel
theorem gk_a23 : gn_meta[115]? = some (⟨"GuestNoes", "hear", "(IZ)I"⟩, prog_1_method_25_code, 3, (some .int), false, 2, 11) := rfl
theorem gk_b23 : gn_meta[195]? = some (⟨"GuestNoesModel", "hear", "(IZ)I"⟩, prog_14_method_68_code, 3, (some .int), false, 2, 12) := rfl
set_option maxRecDepth 100000 in
theorem gk_l23 : Cond.methodLink R_law 109 ⟨"GuestNoes", "hear", "(IZ)I"⟩ ∈ lw_tbl := List.mem_of_getElem? (i := 934) (by decide +kernel)
set_option maxRecDepth 100000 in
theorem gk_r23 : Cond.methodLink R_law 113 ⟨"GuestNoesModel", "hear", "(IZ)I"⟩ ∈ lw_tbl := List.mem_of_getElem? (i := 1407) (by decide +kernel)
set_option maxRecDepth 100000 in
theorem gk_d24 : gl_ok (gl_sh 0 864 114 117) := by unfold gl_ok; decide +kernel
theorem gk_a24 : gn_meta[116]? = some (⟨"GuestNoes", "couldBe", "()I"⟩, prog_1_method_26_code, 1, (some .int), false, 0, 11) := rfl
theorem gk_b24 : gn_meta[196]? = some (⟨"GuestNoesModel", "couldBe", "()I"⟩, prog_14_method_69_code, 5, (some .int), false, 0, 12) := rfl
set_option maxRecDepth 100000 in
theorem gk_l24 : Cond.methodLink R_law 114 ⟨"GuestNoes", "couldBe", "()I"⟩ ∈ lw_tbl := List.mem_of_getElem? (i := 942) (by decide +kernel)
set_option maxRecDepth 100000 in
theorem gk_r24 : Cond.methodLink R_law 117 ⟨"GuestNoesModel", "couldBe", "()I"⟩ ∈ lw_tbl := List.mem_of_getElem? (i := 1411) (by decide +kernel)
set_option maxRecDepth 100000 in
theorem gk_d25 : gl_ok (gl_sh 0 877 118 121) := by unfold gl_ok; decide +kernel
theorem gk_a25 : gn_meta[117]? = some (⟨"GuestNoes", "ask", "()I"⟩, prog_1_method_27_code, 1, (some .int), false, 0, 11) := rfl
theorem gk_b25 : gn_meta[197]? = some (⟨"GuestNoesModel", "ask", "()I"⟩, prog_14_method_70_code, 8, (some .int), false, 0, 12) := rfl
set_option maxRecDepth 100000 in
theorem gk_l25 : Cond.methodLink R_law 118 ⟨"GuestNoes", "ask", "()I"⟩ ∈ lw_tbl := List.mem_of_getElem? (i := 958) (by decide +kernel)
set_option maxRecDepth 100000 in
theorem gk_r25 : Cond.methodLink R_law 121 ⟨"GuestNoesModel", "ask", "()I"⟩ ∈ lw_tbl := List.mem_of_getElem? (i := 1415) (by decide +kernel)
set_option maxRecDepth 100000 in
theorem gk_d26 : gl_ok (gl_sh 2 890 122 125) := by unfold gl_ok; decide +kernel
theorem gk_a26 : gn_meta[118]? = some (⟨"GuestNoes", "write", "(II)I"⟩, prog_1_method_28_code, 3, (some .int), false, 2, 11) := rfl
theorem gk_b26 : gn_meta[198]? = some (⟨"GuestNoesModel", "write", "(II)I"⟩, prog_14_method_71_code, 3, (some .int), false, 2, 12) := rfl
set_option maxRecDepth 100000 in
theorem gk_l26 : Cond.methodLink R_law 122 ⟨"GuestNoes", "write", "(II)I"⟩ ∈ lw_tbl := List.mem_of_getElem? (i := 977) (by decide +kernel)
set_option maxRecDepth 100000 in
theorem gk_r26 : Cond.methodLink R_law 125 ⟨"GuestNoesModel", "write", "(II)I"⟩ ∈ lw_tbl := List.mem_of_getElem? (i := 1420) (by decide +kernel)
set_option maxRecDepth 100000 in
theorem gk_d27 : gl_ok (gl_sh 0 923 126 129) := by unfold gl_ok; decide +kernel
theorem gk_a27 : gn_meta[119]? = some (⟨"GuestNoes", "judge", "()I"⟩, prog_1_method_29_code, 1, (some .int), false, 0, 11) := rfl
theorem gk_b27 : gn_meta[199]? = some (⟨"GuestNoesModel", "judge", "()I"⟩, prog_14_method_72_code, 2, (some .int), false, 0, 12) := rfl
set_option maxRecDepth 100000 in
theorem gk_l27 : Cond.methodLink R_law 126 ⟨"GuestNoes", "judge", "()I"⟩ ∈ lw_tbl := List.mem_of_getElem? (i := 985) (by decide +kernel)
set_option maxRecDepth 100000 in
theorem gk_r27 : Cond.methodLink R_law 129 ⟨"GuestNoesModel", "judge", "()I"⟩ ∈ lw_tbl := List.mem_of_getElem? (i := 1424) (by decide +kernel)
set_option maxRecDepth 100000 in
theorem gk_d28 : gl_ok (gl_sh 0 936 130 133) := by unfold gl_ok; decide +kernel
theorem gk_a28 : gn_meta[120]? = some (⟨"GuestNoes", "tear", "()I"⟩, prog_1_method_30_code, 2, (some .int), false, 0, 11) := rfl
theorem gk_b28 : gn_meta[200]? = some (⟨"GuestNoesModel", "tear", "()I"⟩, prog_14_method_73_code, 2, (some .int), false, 0, 12) := rfl
set_option maxRecDepth 100000 in
theorem gk_l28 : Cond.methodLink R_law 130 ⟨"GuestNoes", "tear", "()I"⟩ ∈ lw_tbl := List.mem_of_getElem? (i := 994) (by decide +kernel)
set_option maxRecDepth 100000 in
theorem gk_r28 : Cond.methodLink R_law 133 ⟨"GuestNoesModel", "tear", "()I"⟩ ∈ lw_tbl := List.mem_of_getElem? (i := 1428) (by decide +kernel)
set_option maxRecDepth 100000 in
theorem gk_d29 : gl_ok (gl_sh 1 949 134 137) := by unfold gl_ok; decide +kernel
theorem gk_a29 : gn_meta[121]? = some (⟨"GuestNoes", "seed", "(I)I"⟩, prog_1_method_31_code, 3, (some .int), false, 1, 11) := rfl
theorem gk_b29 : gn_meta[201]? = some (⟨"GuestNoesModel", "seed", "(I)I"⟩, prog_14_method_74_code, 3, (some .int), false, 1, 12) := rfl
set_option maxRecDepth 100000 in
theorem gk_l29 : Cond.methodLink R_law 134 ⟨"GuestNoes", "seed", "(I)I"⟩ ∈ lw_tbl := List.mem_of_getElem? (i := 998) (by decide +kernel)
set_option maxRecDepth 100000 in
theorem gk_r29 : Cond.methodLink R_law 137 ⟨"GuestNoesModel", "seed", "(I)I"⟩ ∈ lw_tbl := List.mem_of_getElem? (i := 1432) (by decide +kernel)
set_option maxRecDepth 100000 in
theorem gk_d30 : gl_ok (gl_sh 1 972 138 141) := by unfold gl_ok; decide +kernel
theorem gk_a30 : gn_meta[122]? = some (⟨"GuestNoes", "keep", "(I)I"⟩, prog_1_method_32_code, 2, (some .int), false, 1, 11) := rfl
theorem gk_b30 : gn_meta[202]? = some (⟨"GuestNoesModel", "keep", "(I)I"⟩, prog_14_method_75_code, 2, (some .int), false, 1, 12) := rfl
set_option maxRecDepth 100000 in
theorem gk_l30 : Cond.methodLink R_law 138 ⟨"GuestNoes", "keep", "(I)I"⟩ ∈ lw_tbl := List.mem_of_getElem? (i := 1002) (by decide +kernel)
set_option maxRecDepth 100000 in
theorem gk_r30 : Cond.methodLink R_law 141 ⟨"GuestNoesModel", "keep", "(I)I"⟩ ∈ lw_tbl := List.mem_of_getElem? (i := 1436) (by decide +kernel)
set_option maxRecDepth 100000 in
theorem gk_d31 : gl_ok (gl_sh 1 995 142 145) := by unfold gl_ok; decide +kernel
theorem gk_a31 : gn_meta[123]? = some (⟨"GuestNoes", "goBack", "(I)I"⟩, prog_1_method_33_code, 3, (some .int), false, 1, 11) := rfl
theorem gk_b31 : gn_meta[203]? = some (⟨"GuestNoesModel", "goBack", "(I)I"⟩, prog_14_method_76_code, 2, (some .int), false, 1, 12) := rfl
set_option maxRecDepth 100000 in
theorem gk_l31 : Cond.methodLink R_law 142 ⟨"GuestNoes", "goBack", "(I)I"⟩ ∈ lw_tbl := List.mem_of_getElem? (i := 1018) (by decide +kernel)
set_option maxRecDepth 100000 in
theorem gk_r31 : Cond.methodLink R_law 145 ⟨"GuestNoesModel", "goBack", "(I)I"⟩ ∈ lw_tbl := List.mem_of_getElem? (i := 1440) (by decide +kernel)
set_option maxRecDepth 100000 in
theorem gm11_1 : Cond.classLink R_law 7 (gn_nm 11) ∈ lw_tbl := List.mem_of_getElem? (i := 147) (by decide +kernel)
set_option maxRecDepth 100000 in
theorem gm11_2 : Cond.instantiable (gn_nm 11) 13 ∈ lw_tbl := List.mem_of_getElem? (i := 148) (by decide +kernel)
set_option maxRecDepth 100000 in
theorem gm11_3 : Cond.initialized (gn_nm 11) ∈ lw_tbl := List.mem_of_getElem? (i := 131) (by decide +kernel)
set_option maxRecDepth 100000 in
theorem gm11_4 : Cond.methodLink R_law 9 ⟨gn_nm 11, "<init>", "()V"⟩ ∈ lw_tbl := List.mem_of_getElem? (i := 149) (by decide +kernel)
set_option maxRecDepth 100000 in
theorem gm11_5 : Cond.instanceMethod ⟨gn_nm 11, "<init>", "()V"⟩ ∈ lw_tbl := List.mem_of_getElem? (i := 150) (by decide +kernel)
set_option maxRecDepth 100000 in
theorem gm11_6 : Cond.code ⟨gn_nm 11, "<init>", "()V"⟩ prog_1_method_1_code 1 none ∈ lw_tbl := List.mem_of_getElem? (i := 151) (by decide +kernel)
theorem gz11 : ∀ j, j < 13 → defaultValue ((gn_tys.getD 11 gn_ty0) j) = vp_V gc_f11 j := by decide +kernel
set_option maxRecDepth 100000 in
theorem gm12_1 : Cond.classLink R_law 10 (gn_nm 12) ∈ lw_tbl := List.mem_of_getElem? (i := 1026) (by decide +kernel)
set_option maxRecDepth 100000 in
theorem gm12_2 : Cond.instantiable (gn_nm 12) 35 ∈ lw_tbl := List.mem_of_getElem? (i := 1027) (by decide +kernel)
set_option maxRecDepth 100000 in
theorem gm12_3 : Cond.initialized (gn_nm 12) ∈ lw_tbl := List.mem_of_getElem? (i := 143) (by decide +kernel)
set_option maxRecDepth 100000 in
theorem gm12_4 : Cond.methodLink R_law 12 ⟨gn_nm 12, "<init>", "()V"⟩ ∈ lw_tbl := List.mem_of_getElem? (i := 1028) (by decide +kernel)
set_option maxRecDepth 100000 in
theorem gm12_5 : Cond.instanceMethod ⟨gn_nm 12, "<init>", "()V"⟩ ∈ lw_tbl := List.mem_of_getElem? (i := 1029) (by decide +kernel)
set_option maxRecDepth 100000 in
theorem gm12_6 : Cond.code ⟨gn_nm 12, "<init>", "()V"⟩ prog_14_method_1_code 1 none ∈ lw_tbl := List.mem_of_getElem? (i := 1030) (by decide +kernel)
theorem gz12 : ∀ j, j < 35 → defaultValue ((gn_tys.getD 12 gn_ty0) j) = vp_V gc_f12 j := by decide +kernel
