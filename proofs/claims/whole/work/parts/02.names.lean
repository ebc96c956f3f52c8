/-! names, layout, tables: printed by wip/whole/gen/tables.py -/
abbrev gn_En : Type := Instr × Nat × Nat × Nat × Int32
abbrev gn_Mem : Type := Nat → Nat → Int32
def gn_T0 : u_T := fun k => match k with
  | 0 => ("GuestNoes$Book", "guests", "[I", true)
  | 1 => ("GuestNoes$Book", "hosts", "[I", true)
  | _ => ("GuestNoes$Book", "count", "I", false)
def gn_ty0 : Nat → FieldType := fun k => match k with
  | 0 => .array .int
  | 1 => .array .int
  | _ => .int
def gn_T1 : u_T := fun k => match k with
  | _ => ("GuestNoes$Draws", "seedNow", "I", false)
def gn_ty1 : Nat → FieldType := fun k => match k with
  | _ => .int
def gn_T2 : u_T := fun k => match k with
  | 0 => ("GuestNoes$Ear", "topics", "[I", true)
  | 1 => ("GuestNoes$Ear", "claimed", "[Z", true)
  | _ => ("GuestNoes$Ear", "count", "I", false)
def gn_ty2 : Nat → FieldType := fun k => match k with
  | 0 => .array .int
  | 1 => .array .boolean
  | _ => .int
def gn_T3 : u_T := fun k => match k with
  | 0 => ("GuestNoes$Image", "row", "[I", true)
  | 1 => ("GuestNoes$Image", "seedThen", "I", false)
  | _ => ("GuestNoes$Image", "kept", "Z", false)
def gn_ty3 : Nat → FieldType := fun k => match k with
  | 0 => .array .int
  | 1 => .int
  | _ => .boolean
def gn_T4 : u_T := fun k => match k with
  | _ => ("GuestNoes$Night", "row", "[I", true)
def gn_ty4 : Nat → FieldType := fun k => match k with
  | _ => .array .int
def gn_T5 : u_T := fun k => match k with
  | 0 => ("GuestNoes$Past", "rows", "[I", true)
  | 1 => ("GuestNoes$Past", "next", "I", false)
  | _ => ("GuestNoes$Past", "count", "I", false)
def gn_ty5 : Nat → FieldType := fun k => match k with
  | 0 => .array .int
  | 1 => .int
  | _ => .int
def gn_T6 : u_T := fun k => match k with
  | 0 => ("GuestNoes$Pick", "most", "I", false)
  | 1 => ("GuestNoes$Pick", "atClaim", "I", false)
  | _ => ("GuestNoes$Pick", "byHost", "I", false)
def gn_ty6 : Nat → FieldType := fun k => match k with
  | 0 => .int
  | 1 => .int
  | _ => .int
def gn_T7 : u_T := fun k => match k with
  | 0 => ("GuestNoes$Planner", "gains", "[I", true)
  | 1 => ("GuestNoes$Planner", "hopes", "[I", true)
  | 2 => ("GuestNoes$Planner", "left", "[I", true)
  | 3 => ("GuestNoes$Planner", "tried", "[I", true)
  | 4 => ("GuestNoes$Planner", "chosen", "[I", true)
  | 5 => ("GuestNoes$Planner", "guests", "I", false)
  | 6 => ("GuestNoes$Planner", "hosts", "I", false)
  | _ => ("GuestNoes$Planner", "most", "I", false)
def gn_ty7 : Nat → FieldType := fun k => match k with
  | 0 => .array .int
  | 1 => .array .int
  | 2 => .array .int
  | 3 => .array .int
  | 4 => .array .int
  | 5 => .int
  | 6 => .int
  | _ => .int
def gn_T8 : u_T := fun k => match k with
  | 0 => ("GuestNoes$Reader", "letters", "[I", true)
  | 1 => ("GuestNoes$Reader", "length", "I", false)
  | 2 => ("GuestNoes$Reader", "at", "I", false)
  | 3 => ("GuestNoes$Reader", "faultNumber", "I", false)
  | _ => ("GuestNoes$Reader", "faultPlace", "I", false)
def gn_ty8 : Nat → FieldType := fun k => match k with
  | 0 => .array .int
  | 1 => .int
  | 2 => .int
  | 3 => .int
  | _ => .int
def gn_T9 : u_T := fun k => match k with
  | 0 => ("GuestNoes$Table", "there", "Z", false)
  | 1 => ("GuestNoes$Table", "truths", "I", false)
  | 2 => ("GuestNoes$Table", "guests", "I", false)
  | 3 => ("GuestNoes$Table", "hosts", "I", false)
  | 4 => ("GuestNoes$Table", "prides", "[I", true)
  | 5 => ("GuestNoes$Table", "claimCounts", "[I", true)
  | 6 => ("GuestNoes$Table", "topics", "[I", true)
  | 7 => ("GuestNoes$Table", "bolds", "[I", true)
  | 8 => ("GuestNoes$Table", "topicSets", "[I", true)
  | 9 => ("GuestNoes$Table", "kinds", "[I", true)
  | _ => ("GuestNoes$Table", "noNumbers", "[I", true)
def gn_ty9 : Nat → FieldType := fun k => match k with
  | 0 => .boolean
  | 1 => .int
  | 2 => .int
  | 3 => .int
  | 4 => .array .int
  | 5 => .array .int
  | 6 => .array .int
  | 7 => .array .int
  | 8 => .array .int
  | 9 => .array .int
  | _ => .array .int
def gn_T10 : u_T := fun k => match k with
  | 0 => ("GuestNoes$Waiting", "worths", "[I", true)
  | 1 => ("GuestNoes$Waiting", "joys", "[I", true)
  | 2 => ("GuestNoes$Waiting", "first", "I", false)
  | _ => ("GuestNoes$Waiting", "count", "I", false)
def gn_ty10 : Nat → FieldType := fun k => match k with
  | 0 => .array .int
  | 1 => .array .int
  | 2 => .int
  | _ => .int
def gn_T11 : u_T := fun k => match k with
  | 0 => ("GuestNoes", "reader", "LGuestNoes$Reader;", true)
  | 1 => ("GuestNoes", "night", "LGuestNoes$Night;", true)
  | 2 => ("GuestNoes", "past", "LGuestNoes$Past;", true)
  | 3 => ("GuestNoes", "firstImage", "LGuestNoes$Image;", true)
  | 4 => ("GuestNoes", "secondImage", "LGuestNoes$Image;", true)
  | 5 => ("GuestNoes", "draws", "LGuestNoes$Draws;", true)
  | 6 => ("GuestNoes", "pick", "LGuestNoes$Pick;", true)
  | 7 => ("GuestNoes", "planner", "LGuestNoes$Planner;", true)
  | 8 => ("GuestNoes", "waiting", "LGuestNoes$Waiting;", true)
  | 9 => ("GuestNoes", "ear", "LGuestNoes$Ear;", true)
  | 10 => ("GuestNoes", "book", "LGuestNoes$Book;", true)
  | 11 => ("GuestNoes", "table", "LGuestNoes$Table;", false)
  | _ => ("GuestNoes", "spareTable", "LGuestNoes$Table;", false)
def gn_ty11 : Nat → FieldType := fun k => match k with
  | 0 => .object "GuestNoes$Reader"
  | 1 => .object "GuestNoes$Night"
  | 2 => .object "GuestNoes$Past"
  | 3 => .object "GuestNoes$Image"
  | 4 => .object "GuestNoes$Image"
  | 5 => .object "GuestNoes$Draws"
  | 6 => .object "GuestNoes$Pick"
  | 7 => .object "GuestNoes$Planner"
  | 8 => .object "GuestNoes$Waiting"
  | 9 => .object "GuestNoes$Ear"
  | 10 => .object "GuestNoes$Book"
  | 11 => .object "GuestNoes$Table"
  | _ => .object "GuestNoes$Table"
def gn_T12 : u_T := fun k => match k with
  | 0 => ("GuestNoesModel", "w", "[I", true)
  | 1 => ("GuestNoesModel", "pride", "[I", true)
  | 2 => ("GuestNoesModel", "claim", "[I", true)
  | 3 => ("GuestNoesModel", "claims", "[I", true)
  | 4 => ("GuestNoesModel", "kind", "[I", true)
  | 5 => ("GuestNoesModel", "noes", "[I", true)
  | 6 => ("GuestNoesModel", "there", "Z", false)
  | 7 => ("GuestNoesModel", "facts", "I", false)
  | 8 => ("GuestNoesModel", "guests", "I", false)
  | 9 => ("GuestNoesModel", "hosts", "I", false)
  | 10 => ("GuestNoesModel", "undoMany", "I", false)
  | 11 => ("GuestNoesModel", "kept", "I", false)
  | 12 => ("GuestNoesModel", "text", "[I", true)
  | 13 => ("GuestNoesModel", "size", "I", false)
  | 14 => ("GuestNoesModel", "fault", "I", false)
  | 15 => ("GuestNoesModel", "heardTopic", "[I", true)
  | 16 => ("GuestNoesModel", "heardIs", "[Z", true)
  | 17 => ("GuestNoesModel", "heard", "I", false)
  | 18 => ("GuestNoesModel", "bookGuest", "[I", true)
  | 19 => ("GuestNoesModel", "bookHost", "[I", true)
  | 20 => ("GuestNoesModel", "book", "I", false)
  | 21 => ("GuestNoesModel", "at", "I", false)
  | 22 => ("GuestNoesModel", "readFault", "I", false)
  | 23 => ("GuestNoesModel", "readPlace", "I", false)
  | 24 => ("GuestNoesModel", "newThere", "Z", false)
  | 25 => ("GuestNoesModel", "newFacts", "I", false)
  | 26 => ("GuestNoesModel", "newGuests", "I", false)
  | 27 => ("GuestNoesModel", "newHosts", "I", false)
  | 28 => ("GuestNoesModel", "newPride", "[I", true)
  | 29 => ("GuestNoesModel", "newClaim", "[I", true)
  | 30 => ("GuestNoesModel", "newClaims", "[I", true)
  | 31 => ("GuestNoesModel", "newKind", "[I", true)
  | 32 => ("GuestNoesModel", "newNoes", "[I", true)
  | 33 => ("GuestNoesModel", "left", "[I", true)
  | _ => ("GuestNoesModel", "worth", "[I", true)
def gn_ty12 : Nat → FieldType := fun k => match k with
  | 0 => .array .int
  | 1 => .array .int
  | 2 => .array .int
  | 3 => .array .int
  | 4 => .array .int
  | 5 => .array .int
  | 6 => .boolean
  | 7 => .int
  | 8 => .int
  | 9 => .int
  | 10 => .int
  | 11 => .int
  | 12 => .array .int
  | 13 => .int
  | 14 => .int
  | 15 => .array .int
  | 16 => .array .boolean
  | 17 => .int
  | 18 => .array .int
  | 19 => .array .int
  | 20 => .int
  | 21 => .int
  | 22 => .int
  | 23 => .int
  | 24 => .boolean
  | 25 => .int
  | 26 => .int
  | 27 => .int
  | 28 => .array .int
  | 29 => .array .int
  | 30 => .array .int
  | 31 => .array .int
  | 32 => .array .int
  | 33 => .array .int
  | _ => .array .int
def gn_cls : List vw_C := [("GuestNoes$Book", gn_T0, 3), ("GuestNoes$Draws", gn_T1, 1), ("GuestNoes$Ear", gn_T2, 3), ("GuestNoes$Image", gn_T3, 3), ("GuestNoes$Night", gn_T4, 1), ("GuestNoes$Past", gn_T5, 3), ("GuestNoes$Pick", gn_T6, 3), ("GuestNoes$Planner", gn_T7, 8), ("GuestNoes$Reader", gn_T8, 5), ("GuestNoes$Table", gn_T9, 11), ("GuestNoes$Waiting", gn_T10, 4), ("GuestNoes", gn_T11, 13), ("GuestNoesModel", gn_T12, 35)]
def gn_tys : List (Nat → FieldType) := [gn_ty0, gn_ty1, gn_ty2, gn_ty3, gn_ty4, gn_ty5, gn_ty6, gn_ty7, gn_ty8, gn_ty9, gn_ty10, gn_ty11, gn_ty12]
def gn_nms : List String := ["GuestNoes$Book", "GuestNoes$Draws", "GuestNoes$Ear", "GuestNoes$Image", "GuestNoes$Night", "GuestNoes$Past", "GuestNoes$Pick", "GuestNoes$Planner", "GuestNoes$Reader", "GuestNoes$Table", "GuestNoes$Waiting", "GuestNoes", "GuestNoesModel", "java/lang/Integer"]
/-- what each object is: an array (of booleans?, its length), or an object (its class, its fields: 0 an int, 1 the one or the other table, 2 a boolean, r + 3 the object r) -/
noncomputable def gn_lay (o : Nat) : (Bool × Nat) ⊕ (Nat × List Nat) := bif Nat.blt o 31 then (bif Nat.blt o 15 then (bif Nat.blt o 7 then (bif Nat.blt o 3 then (bif Nat.blt o 1 then (.inr (11, [4, 6, 8, 10, 12, 14, 15, 16, 22, 25, 28, 1, 1])) else (bif Nat.blt o 2 then (.inr (8, [5, 0, 0, 0, 0])) else (.inl (false, 240)))) else (bif Nat.blt o 5 then (bif Nat.blt o 4 then (.inr (4, [7])) else (.inl (false, 28))) else (bif Nat.blt o 6 then (.inr (5, [9, 0, 0])) else (.inl (false, 840))))) else (bif Nat.blt o 11 then (bif Nat.blt o 9 then (bif Nat.blt o 8 then (.inr (3, [11, 0, 2])) else (.inl (false, 28))) else (bif Nat.blt o 10 then (.inr (3, [13, 0, 2])) else (.inl (false, 28)))) else (bif Nat.blt o 13 then (bif Nat.blt o 12 then (.inr (1, [0])) else (.inr (6, [0, 0, 0]))) else (bif Nat.blt o 14 then (.inr (7, [17, 18, 19, 20, 21, 0, 0, 0])) else (.inl (false, 24)))))) else (bif Nat.blt o 23 then (bif Nat.blt o 19 then (bif Nat.blt o 17 then (bif Nat.blt o 16 then (.inl (false, 7)) else (.inl (false, 4))) else (bif Nat.blt o 18 then (.inl (false, 6)) else (.inl (false, 6)))) else (bif Nat.blt o 21 then (bif Nat.blt o 20 then (.inr (10, [23, 24, 0, 0])) else (.inl (false, 64))) else (bif Nat.blt o 22 then (.inl (false, 6)) else (.inr (2, [26, 27, 0]))))) else (bif Nat.blt o 27 then (bif Nat.blt o 25 then (bif Nat.blt o 24 then (.inl (false, 6)) else (.inl (true, 6))) else (bif Nat.blt o 26 then (.inr (0, [29, 30, 0])) else (.inl (false, 20)))) else (bif Nat.blt o 29 then (bif Nat.blt o 28 then (.inl (false, 20)) else (.inr (9, [2, 0, 0, 0, 32, 33, 34, 35, 36, 37, 38]))) else (bif Nat.blt o 30 then (.inl (false, 6)) else (.inl (false, 6))))))) else (bif Nat.blt o 47 then (bif Nat.blt o 39 then (bif Nat.blt o 35 then (bif Nat.blt o 33 then (bif Nat.blt o 32 then (.inl (false, 36)) else (.inl (false, 36))) else (bif Nat.blt o 34 then (.inl (false, 6)) else (.inl (false, 4)))) else (bif Nat.blt o 37 then (bif Nat.blt o 36 then (.inl (false, 4)) else (.inr (9, [2, 0, 0, 0, 40, 41, 42, 43, 44, 45, 46]))) else (bif Nat.blt o 38 then (.inl (false, 6)) else (.inl (false, 6))))) else (bif Nat.blt o 43 then (bif Nat.blt o 41 then (bif Nat.blt o 40 then (.inl (false, 36)) else (.inl (false, 36))) else (bif Nat.blt o 42 then (.inl (false, 6)) else (.inl (false, 4)))) else (bif Nat.blt o 45 then (bif Nat.blt o 44 then (.inl (false, 4)) else (.inr (12, [48, 49, 50, 51, 52, 53, 2, 0, 0, 0, 0, 0, 54, 0, 0, 55, 56, 0, 57, 58, 0, 0, 0, 0, 2, 0, 0, 0, 59, 60, 61, 62, 63, 64, 65]))) else (bif Nat.blt o 46 then (.inl (false, 957)) else (.inl (false, 6)))))) else (bif Nat.blt o 55 then (bif Nat.blt o 51 then (bif Nat.blt o 49 then (bif Nat.blt o 48 then (.inl (false, 36)) else (.inl (false, 6))) else (bif Nat.blt o 50 then (.inl (false, 4)) else (.inl (false, 4)))) else (bif Nat.blt o 53 then (bif Nat.blt o 52 then (.inl (false, 240)) else (.inl (false, 6))) else (bif Nat.blt o 54 then (.inl (true, 6)) else (.inl (false, 20))))) else (bif Nat.blt o 59 then (bif Nat.blt o 57 then (bif Nat.blt o 56 then (.inl (false, 20)) else (.inl (false, 6))) else (bif Nat.blt o 58 then (.inl (false, 36)) else (.inl (false, 6)))) else (bif Nat.blt o 61 then (bif Nat.blt o 60 then (.inl (false, 4)) else (.inl (false, 4))) else (bif Nat.blt o 62 then (.inl (false, 4)) else (.inl (false, 64)))))))
abbrev gn_NO : Nat := 63
/- objects: 0 G, 1 reader, 2 reader.letters, 3 night, 4 night.row, 5 past, 6 past.rows, 7 img0, 8 img0.row, 9 img1, 10 img1.row, 11 draws, 12 pick, 13 planner, 14 planner.gains, 15 planner.hopes, 16 planner.left, 17 planner.tried, 18 planner.chosen, 19 waiting, 20 waiting.worths, 21 waiting.joys, 22 ear, 23 ear.topics, 24 ear.claimed, 25 book, 26 book.guests, 27 book.hosts, 28 tab, 29 tab.prides, 30 tab.claimCounts, 31 tab.topics, 32 tab.bolds, 33 tab.topicSets, 34 tab.kinds, 35 tab.noNumbers, 36 spare, 37 spare.prides, 38 spare.claimCounts, 39 spare.topics, 40 spare.bolds, 41 spare.topicSets, 42 spare.kinds, 43 spare.noNumbers, 44 m, 45 m.w, 46 m.pride, 47 m.claim, 48 m.claims, 49 m.kind, 50 m.noes, 51 m.text, 52 m.heardTopic, 53 m.heardIs, 54 m.bookGuest, 55 m.bookHost, 56 m.newPride, 57 m.newClaim, 58 m.newClaims, 59 m.newKind, 60 m.newNoes, 61 m.left, 62 m.worth -/
/- methods: 0 X0_enter, 1 X0_firstFalse, 2 X1_draw, 3 X1_deed, 4 X2_note, 5 X2_whoFits, 6 X2_fits, 7 X2_bestTopic, 8 X2_greaterPart, 9 X3_take, 10 X3_putBack, 11 X4_begin, 12 X4_passEvening, 13 X4_seatAll, 14 X4_isSeat, 15 X4_said, 16 X4_toldBy, 17 X4_toldAt, 18 X4_noesLeft, 19 X4_whoIsUp, 20 X4_whoWalks, 21 X4_glad, 22 X4_insults, 23 X4_hours, 24 X4_evenings, 25 X4_isUp, 26 X4_firstOpenClaim, 27 X4_canSpeak, 28 X4_speak, 29 X4_canBeTold, 30 X4_canContradict, 31 X4_contradict, 32 X4_shareNo, 33 X4_tell, 34 X4_addGlad, 35 X4_retire, 36 X4_passHour, 37 X4_whoWasTold, 38 X4_joyWhenTold, 39 X4_whoWasToldMeanly, 40 X4_leastPleased, 41 X5_forget, 42 X5_remember, 43 X5_giveBack, 44 X6_seek, 45 X7_seek, 46 X7_weighGuest, 47 X7_sumHopes, 48 X7_choose, 49 X7_hostOf, 50 X8_append, 51 X8_readInto, 52 X8_isMoreToRead, 53 X8_readClause, 54 X8_readTruths, 55 X8_readGuest, 56 X8_readHost, 57 X8_readEndOfClause, 58 X8_readNumber, 59 X8_nextWord, 60 X8_letterAt, 61 X8_isFigure, 62 X8_blame, 63 X9_clear, 64 X9_addGuest, 65 X9_addClaimToLastGuest, 66 X9_addHost, 67 X9_hasGuest, 68 X9_hasHost, 69 X9_hasClaim, 70 X9_pride, 71 X9_claimCount, 72 X9_topic, 73 X9_bold, 74 X9_kind, 75 X9_noes, 76 X9_isTrue, 77 X9_joyWithNoneAhead, 78 X9_joyByKind, 79 X9_joyOf, 80 X9_mostJoyFrom, 81 X9_wrongAt, 82 X9_whoIsRight, 83 X9_topicsOf, 84 X9_claimsTopic, 85 X9_topicsOfNobody, 86 X9_boldestGuest, 87 X9_boldnessOn, 88 X10_weigh, 89 X10_meanOf, 90 X10_worthOfAll, 91 X10_isWorthIt, 92 X11_feed, 93 X11_evening, 94 X11_fault, 95 X11_told, 96 X11_guest, 97 X11_claim, 98 X11_host, 99 X11_say, 100 X11_no, 101 X11_share, 102 X11_bed, 103 X11_hour, 104 X11_anew, 105 X11_drift, 106 X11_undo, 107 X11_joy, 108 X11_best, 109 X11_plan, 110 X11_line, 111 X11_now, 112 X11_agree, 113 X11_boldest, 114 X11_dry, 115 X11_hear, 116 X11_couldBe, 117 X11_ask, 118 X11_write, 119 X11_judge, 120 X11_tear, 121 X11_seed, 122 X11_keep, 123 X11_goBack, 124 X11_isNoClaimNumber, 125 X11_isNoTopic, 126 X11_isNoImage, 127 X11_areNoTwoGuests, 128 X11_imageAt, 129 X11_refusalOfHours, 130 X12_in, 131 X12_has, 132 X12_isGuest, 133 X12_isHost, 134 X12_copyRow, 135 X12_feed, 136 X12_wrong, 137 X12_fine, 138 X12_here, 139 X12_number, 140 X12_readFacts, 141 X12_readGuest, 142 X12_readHost, 143 X12_readClause, 144 X12_evening, 145 X12_begin, 146 X12_allAnew, 147 X12_fault, 148 X12_topicOf, 149 X12_boldOf, 150 X12_plainJoy, 151 X12_joyOf, 152 X12_allTold, 153 X12_wrongAt, 154 X12_rightOnes, 155 X12_topicsOf, 156 X12_nobodys, 157 X12_meanly, 158 X12_leastPleased, 159 X12_told, 160 X12_guest, 161 X12_claim, 162 X12_host, 163 X12_remember, 164 X12_say, 165 X12_isOpen, 166 X12_glad, 167 X12_tell, 168 X12_noBy, 169 X12_no, 170 X12_share, 171 X12_goToBed, 172 X12_bed, 173 X12_goOn, 174 X12_whyNot, 175 X12_hour, 176 X12_anew, 177 X12_draw, 178 X12_doByDraws, 179 X12_drift, 180 X12_undo, 181 X12_joy, 182 X12_firstOpen, 183 X12_mostBy, 184 X12_best, 185 X12_planned, 186 X12_power, 187 X12_plan, 188 X12_layWorth, 189 X12_notSaid, 190 X12_line, 191 X12_now, 192 X12_agree, 193 X12_boldest, 194 X12_dry, 195 X12_hear, 196 X12_couldBe, 197 X12_ask, 198 X12_write, 199 X12_judge, 200 X12_tear, 201 X12_seed, 202 X12_keep, 203 X12_goBack, 204 J6_bitCount_0f7a4 -/
def gn_meta : List (MethodName × ByteArray × Nat × Option FieldType × Bool × Nat × Nat) := [(⟨"GuestNoes$Book", "enter", "(II)Z"⟩, prog_2_method_2_code, 3, (some .boolean), false, 2, 0),
  (⟨"GuestNoes$Book", "firstFalse", "(LGuestNoes$Night;)I"⟩, prog_2_method_3_code, 3, (some .int), false, 1, 0),
  (⟨"GuestNoes$Draws", "draw", "(I)I"⟩, prog_3_method_2_code, 2, (some .int), false, 1, 1),
  (⟨"GuestNoes$Draws", "deed", "(LGuestNoes$Table;LGuestNoes$Night;)V"⟩, prog_3_method_3_code, 6, none, false, 2, 1),
  (⟨"GuestNoes$Ear", "note", "(IZ)Z"⟩, prog_4_method_2_code, 3, (some .boolean), false, 2, 2),
  (⟨"GuestNoes$Ear", "whoFits", "(LGuestNoes$Table;)I"⟩, prog_4_method_3_code, 4, (some .int), false, 1, 2),
  (⟨"GuestNoes$Ear", "fits", "(LGuestNoes$Table;I)Z"⟩, prog_4_method_4_code, 4, (some .boolean), false, 2, 2),
  (⟨"GuestNoes$Ear", "bestTopic", "(LGuestNoes$Table;)I"⟩, prog_4_method_5_code, 7, (some .int), false, 1, 2),
  (⟨"GuestNoes$Ear", "greaterPart", "(LGuestNoes$Table;II)I"⟩, prog_4_method_6_code, 5, (some .int), true, 3, 2),
  (⟨"GuestNoes$Image", "take", "(LGuestNoes$Night;LGuestNoes$Draws;)V"⟩, prog_5_method_2_code, 3, none, false, 2, 3),
  (⟨"GuestNoes$Image", "putBack", "(LGuestNoes$Night;LGuestNoes$Draws;)V"⟩, prog_5_method_3_code, 3, none, false, 2, 3),
  (⟨"GuestNoes$Night", "begin", "(LGuestNoes$Table;)V"⟩, prog_6_method_2_code, 2, none, false, 1, 4),
  (⟨"GuestNoes$Night", "passEvening", "(LGuestNoes$Table;)V"⟩, prog_6_method_3_code, 2, none, false, 1, 4),
  (⟨"GuestNoes$Night", "seatAll", "(LGuestNoes$Table;)V"⟩, prog_6_method_4_code, 3, none, false, 1, 4),
  (⟨"GuestNoes$Night", "isSeat", "(I)Z"⟩, prog_6_method_5_code, 1, (some .boolean), true, 1, 4),
  (⟨"GuestNoes$Night", "said", "(I)I"⟩, prog_6_method_6_code, 2, (some .int), false, 1, 4),
  (⟨"GuestNoes$Night", "toldBy", "(I)I"⟩, prog_6_method_7_code, 2, (some .int), false, 1, 4),
  (⟨"GuestNoes$Night", "toldAt", "(I)I"⟩, prog_6_method_8_code, 2, (some .int), false, 1, 4),
  (⟨"GuestNoes$Night", "noesLeft", "(I)I"⟩, prog_6_method_9_code, 2, (some .int), false, 1, 4),
  (⟨"GuestNoes$Night", "whoIsUp", "()I"⟩, prog_6_method_10_code, 1, (some .int), false, 0, 4),
  (⟨"GuestNoes$Night", "whoWalks", "()I"⟩, prog_6_method_11_code, 1, (some .int), false, 0, 4),
  (⟨"GuestNoes$Night", "glad", "()I"⟩, prog_6_method_12_code, 1, (some .int), false, 0, 4),
  (⟨"GuestNoes$Night", "insults", "()I"⟩, prog_6_method_13_code, 1, (some .int), false, 0, 4),
  (⟨"GuestNoes$Night", "hours", "()I"⟩, prog_6_method_14_code, 1, (some .int), false, 0, 4),
  (⟨"GuestNoes$Night", "evenings", "()I"⟩, prog_6_method_15_code, 1, (some .int), false, 0, 4),
  (⟨"GuestNoes$Night", "isUp", "(I)Z"⟩, prog_6_method_16_code, 2, (some .boolean), false, 1, 4),
  (⟨"GuestNoes$Night", "firstOpenClaim", "(I)I"⟩, prog_6_method_17_code, 2, (some .int), false, 1, 4),
  (⟨"GuestNoes$Night", "canSpeak", "(LGuestNoes$Table;I)Z"⟩, prog_6_method_18_code, 3, (some .boolean), false, 2, 4),
  (⟨"GuestNoes$Night", "speak", "(I)I"⟩, prog_6_method_19_code, 2, (some .int), false, 1, 4),
  (⟨"GuestNoes$Night", "canBeTold", "(I)Z"⟩, prog_6_method_20_code, 2, (some .boolean), false, 1, 4),
  (⟨"GuestNoes$Night", "canContradict", "(II)Z"⟩, prog_6_method_21_code, 3, (some .boolean), false, 2, 4),
  (⟨"GuestNoes$Night", "contradict", "(LGuestNoes$Table;II)I"⟩, prog_6_method_22_code, 5, (some .int), false, 3, 4),
  (⟨"GuestNoes$Night", "shareNo", "(LGuestNoes$Table;II)I"⟩, prog_6_method_23_code, 5, (some .int), false, 3, 4),
  (⟨"GuestNoes$Night", "tell", "(LGuestNoes$Table;II)I"⟩, prog_6_method_24_code, 5, (some .int), false, 3, 4),
  (⟨"GuestNoes$Night", "addGlad", "(I)V"⟩, prog_6_method_25_code, 2, none, false, 1, 4),
  (⟨"GuestNoes$Night", "retire", "(I)Z"⟩, prog_6_method_26_code, 2, (some .boolean), false, 1, 4),
  (⟨"GuestNoes$Night", "passHour", "(LGuestNoes$Table;)V"⟩, prog_6_method_27_code, 3, none, false, 1, 4),
  (⟨"GuestNoes$Night", "whoWasTold", "(LGuestNoes$Table;)I"⟩, prog_6_method_28_code, 4, (some .int), false, 1, 4),
  (⟨"GuestNoes$Night", "joyWhenTold", "(LGuestNoes$Table;I)I"⟩, prog_6_method_29_code, 3, (some .int), false, 2, 4),
  (⟨"GuestNoes$Night", "whoWasToldMeanly", "(LGuestNoes$Table;)I"⟩, prog_6_method_30_code, 4, (some .int), false, 1, 4),
  (⟨"GuestNoes$Night", "leastPleased", "(LGuestNoes$Table;)I"⟩, prog_6_method_31_code, 6, (some .int), false, 1, 4),
  (⟨"GuestNoes$Past", "forget", "()V"⟩, prog_7_method_2_code, 1, none, false, 0, 5),
  (⟨"GuestNoes$Past", "remember", "(LGuestNoes$Night;)V"⟩, prog_7_method_3_code, 2, none, false, 1, 5),
  (⟨"GuestNoes$Past", "giveBack", "(LGuestNoes$Night;I)V"⟩, prog_7_method_4_code, 3, none, false, 2, 5),
  (⟨"GuestNoes$Pick", "seek", "(LGuestNoes$Table;LGuestNoes$Night;I)V"⟩, prog_8_method_2_code, 7, none, false, 3, 6),
  (⟨"GuestNoes$Planner", "seek", "(LGuestNoes$Table;LGuestNoes$Night;)V"⟩, prog_9_method_2_code, 4, none, false, 2, 7),
  (⟨"GuestNoes$Planner", "weighGuest", "(LGuestNoes$Table;LGuestNoes$Night;I)V"⟩, prog_9_method_3_code, 8, none, false, 3, 7),
  (⟨"GuestNoes$Planner", "sumHopes", "()V"⟩, prog_9_method_4_code, 4, none, false, 0, 7),
  (⟨"GuestNoes$Planner", "choose", "(II)V"⟩, prog_9_method_5_code, 5, none, false, 2, 7),
  (⟨"GuestNoes$Planner", "hostOf", "(I)I"⟩, prog_9_method_6_code, 2, (some .int), false, 1, 7),
  (⟨"GuestNoes$Reader", "append", "(I)Z"⟩, prog_10_method_2_code, 2, (some .boolean), false, 1, 8),
  (⟨"GuestNoes$Reader", "readInto", "(LGuestNoes$Table;)V"⟩, prog_10_method_3_code, 3, none, false, 1, 8),
  (⟨"GuestNoes$Reader", "isMoreToRead", "()Z"⟩, prog_10_method_4_code, 1, (some .boolean), false, 0, 8),
  (⟨"GuestNoes$Reader", "readClause", "(LGuestNoes$Table;)V"⟩, prog_10_method_5_code, 3, none, false, 1, 8),
  (⟨"GuestNoes$Reader", "readTruths", "(LGuestNoes$Table;)V"⟩, prog_10_method_6_code, 2, none, false, 1, 8),
  (⟨"GuestNoes$Reader", "readGuest", "(LGuestNoes$Table;)V"⟩, prog_10_method_7_code, 3, none, false, 1, 8),
  (⟨"GuestNoes$Reader", "readHost", "(LGuestNoes$Table;)V"⟩, prog_10_method_8_code, 3, none, false, 1, 8),
  (⟨"GuestNoes$Reader", "readEndOfClause", "()V"⟩, prog_10_method_9_code, 1, none, false, 0, 8),
  (⟨"GuestNoes$Reader", "readNumber", "(I)I"⟩, prog_10_method_10_code, 5, (some .int), false, 1, 8),
  (⟨"GuestNoes$Reader", "nextWord", "()I"⟩, prog_10_method_11_code, 1, (some .int), false, 0, 8),
  (⟨"GuestNoes$Reader", "letterAt", "(I)I"⟩, prog_10_method_12_code, 2, (some .int), false, 1, 8),
  (⟨"GuestNoes$Reader", "isFigure", "(I)Z"⟩, prog_10_method_13_code, 1, (some .boolean), true, 1, 8),
  (⟨"GuestNoes$Reader", "blame", "(II)V"⟩, prog_10_method_14_code, 3, none, false, 2, 8),
  (⟨"GuestNoes$Table", "clear", "()V"⟩, prog_11_method_2_code, 1, none, false, 0, 9),
  (⟨"GuestNoes$Table", "addGuest", "(I)V"⟩, prog_11_method_3_code, 2, none, false, 1, 9),
  (⟨"GuestNoes$Table", "addClaimToLastGuest", "(I)V"⟩, prog_11_method_4_code, 4, none, false, 1, 9),
  (⟨"GuestNoes$Table", "addHost", "(II)V"⟩, prog_11_method_5_code, 3, none, false, 2, 9),
  (⟨"GuestNoes$Table", "hasGuest", "(I)Z"⟩, prog_11_method_6_code, 2, (some .boolean), false, 1, 9),
  (⟨"GuestNoes$Table", "hasHost", "(I)Z"⟩, prog_11_method_7_code, 2, (some .boolean), false, 1, 9),
  (⟨"GuestNoes$Table", "hasClaim", "(II)Z"⟩, prog_11_method_8_code, 3, (some .boolean), false, 2, 9),
  (⟨"GuestNoes$Table", "pride", "(I)I"⟩, prog_11_method_9_code, 2, (some .int), false, 1, 9),
  (⟨"GuestNoes$Table", "claimCount", "(I)I"⟩, prog_11_method_10_code, 2, (some .int), false, 1, 9),
  (⟨"GuestNoes$Table", "topic", "(II)I"⟩, prog_11_method_11_code, 3, (some .int), false, 2, 9),
  (⟨"GuestNoes$Table", "bold", "(II)I"⟩, prog_11_method_12_code, 3, (some .int), false, 2, 9),
  (⟨"GuestNoes$Table", "kind", "(I)I"⟩, prog_11_method_13_code, 2, (some .int), false, 1, 9),
  (⟨"GuestNoes$Table", "noes", "(I)I"⟩, prog_11_method_14_code, 2, (some .int), false, 1, 9),
  (⟨"GuestNoes$Table", "isTrue", "(I)Z"⟩, prog_11_method_15_code, 2, (some .boolean), false, 1, 9),
  (⟨"GuestNoes$Table", "joyWithNoneAhead", "(III)I"⟩, prog_11_method_16_code, 7, (some .int), false, 3, 9),
  (⟨"GuestNoes$Table", "joyByKind", "(IIZ)I"⟩, prog_11_method_17_code, 3, (some .int), true, 3, 9),
  (⟨"GuestNoes$Table", "joyOf", "(III)I"⟩, prog_11_method_18_code, 5, (some .int), false, 3, 9),
  (⟨"GuestNoes$Table", "mostJoyFrom", "(III)I"⟩, prog_11_method_19_code, 6, (some .int), false, 3, 9),
  (⟨"GuestNoes$Table", "wrongAt", "(I)I"⟩, prog_11_method_20_code, 4, (some .int), false, 1, 9),
  (⟨"GuestNoes$Table", "whoIsRight", "()I"⟩, prog_11_method_21_code, 3, (some .int), false, 0, 9),
  (⟨"GuestNoes$Table", "topicsOf", "(I)I"⟩, prog_11_method_22_code, 2, (some .int), false, 1, 9),
  (⟨"GuestNoes$Table", "claimsTopic", "(II)Z"⟩, prog_11_method_23_code, 3, (some .boolean), false, 2, 9),
  (⟨"GuestNoes$Table", "topicsOfNobody", "()I"⟩, prog_11_method_24_code, 3, (some .int), false, 0, 9),
  (⟨"GuestNoes$Table", "boldestGuest", "(I)I"⟩, prog_11_method_25_code, 6, (some .int), false, 1, 9),
  (⟨"GuestNoes$Table", "boldnessOn", "(II)I"⟩, prog_11_method_26_code, 6, (some .int), false, 2, 9),
  (⟨"GuestNoes$Waiting", "weigh", "(LGuestNoes$Table;III)V"⟩, prog_12_method_2_code, 6, none, false, 4, 10),
  (⟨"GuestNoes$Waiting", "meanOf", "(I)I"⟩, prog_12_method_3_code, 5, (some .int), false, 1, 10),
  (⟨"GuestNoes$Waiting", "worthOfAll", "()I"⟩, prog_12_method_4_code, 1, (some .int), false, 0, 10),
  (⟨"GuestNoes$Waiting", "isWorthIt", "(I)Z"⟩, prog_12_method_5_code, 4, (some .boolean), false, 1, 10),
  (⟨"GuestNoes", "feed", "(I)I"⟩, prog_1_method_2_code, 2, (some .int), false, 1, 11),
  (⟨"GuestNoes", "evening", "()I"⟩, prog_1_method_3_code, 2, (some .int), false, 0, 11),
  (⟨"GuestNoes", "fault", "()I"⟩, prog_1_method_4_code, 1, (some .int), false, 0, 11),
  (⟨"GuestNoes", "told", "(I)I"⟩, prog_1_method_5_code, 2, (some .int), false, 1, 11),
  (⟨"GuestNoes", "guest", "(II)I"⟩, prog_1_method_6_code, 3, (some .int), false, 2, 11),
  (⟨"GuestNoes", "claim", "(III)I"⟩, prog_1_method_7_code, 4, (some .int), false, 3, 11),
  (⟨"GuestNoes", "host", "(II)I"⟩, prog_1_method_8_code, 3, (some .int), false, 2, 11),
  (⟨"GuestNoes", "say", "(I)I"⟩, prog_1_method_9_code, 2, (some .int), false, 1, 11),
  (⟨"GuestNoes", "no", "(II)I"⟩, prog_1_method_10_code, 3, (some .int), false, 2, 11),
  (⟨"GuestNoes", "share", "(II)I"⟩, prog_1_method_11_code, 3, (some .int), false, 2, 11),
  (⟨"GuestNoes", "bed", "(I)I"⟩, prog_1_method_12_code, 2, (some .int), false, 1, 11),
  (⟨"GuestNoes", "hour", "(I)I"⟩, prog_1_method_13_code, 4, (some .int), false, 1, 11),
  (⟨"GuestNoes", "anew", "()I"⟩, prog_1_method_14_code, 1, (some .int), false, 0, 11),
  (⟨"GuestNoes", "drift", "(I)I"⟩, prog_1_method_15_code, 4, (some .int), false, 1, 11),
  (⟨"GuestNoes", "undo", "(I)I"⟩, prog_1_method_16_code, 2, (some .int), false, 1, 11),
  (⟨"GuestNoes", "joy", "(III)I"⟩, prog_1_method_17_code, 4, (some .int), false, 3, 11),
  (⟨"GuestNoes", "best", "(II)I"⟩, prog_1_method_18_code, 3, (some .int), false, 2, 11),
  (⟨"GuestNoes", "plan", "(I)I"⟩, prog_1_method_19_code, 2, (some .int), false, 1, 11),
  (⟨"GuestNoes", "line", "(II)I"⟩, prog_1_method_20_code, 3, (some .int), false, 2, 11),
  (⟨"GuestNoes", "now", "(III)I"⟩, prog_1_method_21_code, 4, (some .int), false, 3, 11),
  (⟨"GuestNoes", "agree", "(II)I"⟩, prog_1_method_22_code, 3, (some .int), false, 2, 11),
  (⟨"GuestNoes", "boldest", "(I)I"⟩, prog_1_method_23_code, 2, (some .int), false, 1, 11),
  (⟨"GuestNoes", "dry", "(II)I"⟩, prog_1_method_24_code, 6, (some .int), false, 2, 11),
  (⟨"GuestNoes", "hear", "(IZ)I"⟩, prog_1_method_25_code, 3, (some .int), false, 2, 11),
  (⟨"GuestNoes", "couldBe", "()I"⟩, prog_1_method_26_code, 1, (some .int), false, 0, 11),
  (⟨"GuestNoes", "ask", "()I"⟩, prog_1_method_27_code, 1, (some .int), false, 0, 11),
  (⟨"GuestNoes", "write", "(II)I"⟩, prog_1_method_28_code, 3, (some .int), false, 2, 11),
  (⟨"GuestNoes", "judge", "()I"⟩, prog_1_method_29_code, 1, (some .int), false, 0, 11),
  (⟨"GuestNoes", "tear", "()I"⟩, prog_1_method_30_code, 2, (some .int), false, 0, 11),
  (⟨"GuestNoes", "seed", "(I)I"⟩, prog_1_method_31_code, 3, (some .int), false, 1, 11),
  (⟨"GuestNoes", "keep", "(I)I"⟩, prog_1_method_32_code, 2, (some .int), false, 1, 11),
  (⟨"GuestNoes", "goBack", "(I)I"⟩, prog_1_method_33_code, 3, (some .int), false, 1, 11),
  (⟨"GuestNoes", "isNoClaimNumber", "(I)Z"⟩, prog_1_method_34_code, 1, (some .boolean), true, 1, 11),
  (⟨"GuestNoes", "isNoTopic", "(I)Z"⟩, prog_1_method_35_code, 1, (some .boolean), true, 1, 11),
  (⟨"GuestNoes", "isNoImage", "(I)Z"⟩, prog_1_method_36_code, 1, (some .boolean), true, 1, 11),
  (⟨"GuestNoes", "areNoTwoGuests", "(II)Z"⟩, prog_1_method_37_code, 3, (some .boolean), false, 2, 11),
  (⟨"GuestNoes", "imageAt", "(I)LGuestNoes$Image;"⟩, prog_1_method_38_code, 2, (some (.object "GuestNoes$Image")), false, 1, 11),
  (⟨"GuestNoes", "refusalOfHours", "(I)I"⟩, prog_1_method_39_code, 2, (some .int), false, 1, 11),
  (⟨"GuestNoesModel", "in", "(III)Z"⟩, prog_14_method_3_code, 3, (some .boolean), true, 3, 12),
  (⟨"GuestNoesModel", "has", "(II)Z"⟩, prog_14_method_4_code, 2, (some .boolean), true, 2, 12),
  (⟨"GuestNoesModel", "isGuest", "(I)Z"⟩, prog_14_method_5_code, 2, (some .boolean), false, 1, 12),
  (⟨"GuestNoesModel", "isHost", "(I)Z"⟩, prog_14_method_6_code, 2, (some .boolean), false, 1, 12),
  (⟨"GuestNoesModel", "copyRow", "(II)V"⟩, prog_14_method_7_code, 4, none, false, 2, 12),
  (⟨"GuestNoesModel", "feed", "(I)I"⟩, prog_14_method_8_code, 2, (some .int), false, 1, 12),
  (⟨"GuestNoesModel", "wrong", "(II)V"⟩, prog_14_method_9_code, 3, none, false, 2, 12),
  (⟨"GuestNoesModel", "fine", "()Z"⟩, prog_14_method_10_code, 1, (some .boolean), false, 0, 12),
  (⟨"GuestNoesModel", "here", "()I"⟩, prog_14_method_11_code, 1, (some .int), false, 0, 12),
  (⟨"GuestNoesModel", "number", "(I)I"⟩, prog_14_method_12_code, 4, (some .int), false, 1, 12),
  (⟨"GuestNoesModel", "readFacts", "(I)V"⟩, prog_14_method_13_code, 2, none, false, 1, 12),
  (⟨"GuestNoesModel", "readGuest", "(I)V"⟩, prog_14_method_14_code, 4, none, false, 1, 12),
  (⟨"GuestNoesModel", "readHost", "(I)V"⟩, prog_14_method_15_code, 2, none, false, 1, 12),
  (⟨"GuestNoesModel", "readClause", "()V"⟩, prog_14_method_16_code, 3, none, false, 0, 12),
  (⟨"GuestNoesModel", "evening", "()I"⟩, prog_14_method_17_code, 1, (some .int), false, 0, 12),
  (⟨"GuestNoesModel", "begin", "()V"⟩, prog_14_method_18_code, 3, none, false, 0, 12),
  (⟨"GuestNoesModel", "allAnew", "()V"⟩, prog_14_method_19_code, 2, none, false, 0, 12),
  (⟨"GuestNoesModel", "fault", "()I"⟩, prog_14_method_20_code, 1, (some .int), false, 0, 12),
  (⟨"GuestNoesModel", "topicOf", "(II)I"⟩, prog_14_method_21_code, 3, (some .int), false, 2, 12),
  (⟨"GuestNoesModel", "boldOf", "(II)I"⟩, prog_14_method_22_code, 3, (some .int), false, 2, 12),
  (⟨"GuestNoesModel", "plainJoy", "(III)I"⟩, prog_14_method_23_code, 7, (some .int), false, 3, 12),
  (⟨"GuestNoesModel", "joyOf", "(III)I"⟩, prog_14_method_24_code, 4, (some .int), false, 3, 12),
  (⟨"GuestNoesModel", "allTold", "()I"⟩, prog_14_method_25_code, 3, (some .int), false, 0, 12),
  (⟨"GuestNoesModel", "wrongAt", "(I)I"⟩, prog_14_method_26_code, 3, (some .int), false, 1, 12),
  (⟨"GuestNoesModel", "rightOnes", "()I"⟩, prog_14_method_27_code, 3, (some .int), false, 0, 12),
  (⟨"GuestNoesModel", "topicsOf", "(I)I"⟩, prog_14_method_28_code, 4, (some .int), false, 1, 12),
  (⟨"GuestNoesModel", "nobodys", "()I"⟩, prog_14_method_29_code, 3, (some .int), false, 0, 12),
  (⟨"GuestNoesModel", "meanly", "()I"⟩, prog_14_method_30_code, 5, (some .int), false, 0, 12),
  (⟨"GuestNoesModel", "leastPleased", "()I"⟩, prog_14_method_31_code, 5, (some .int), false, 0, 12),
  (⟨"GuestNoesModel", "told", "(I)I"⟩, prog_14_method_32_code, 2, (some .int), false, 1, 12),
  (⟨"GuestNoesModel", "guest", "(II)I"⟩, prog_14_method_33_code, 3, (some .int), false, 2, 12),
  (⟨"GuestNoesModel", "claim", "(III)I"⟩, prog_14_method_34_code, 4, (some .int), false, 3, 12),
  (⟨"GuestNoesModel", "host", "(II)I"⟩, prog_14_method_35_code, 3, (some .int), false, 2, 12),
  (⟨"GuestNoesModel", "remember", "()V"⟩, prog_14_method_36_code, 2, none, false, 0, 12),
  (⟨"GuestNoesModel", "say", "(I)I"⟩, prog_14_method_37_code, 2, (some .int), false, 1, 12),
  (⟨"GuestNoesModel", "isOpen", "(I)Z"⟩, prog_14_method_38_code, 2, (some .boolean), false, 1, 12),
  (⟨"GuestNoesModel", "glad", "(I)V"⟩, prog_14_method_39_code, 2, none, false, 1, 12),
  (⟨"GuestNoesModel", "tell", "(II)I"⟩, prog_14_method_40_code, 3, (some .int), false, 2, 12),
  (⟨"GuestNoesModel", "noBy", "(II)I"⟩, prog_14_method_41_code, 4, (some .int), false, 2, 12),
  (⟨"GuestNoesModel", "no", "(II)I"⟩, prog_14_method_42_code, 3, (some .int), false, 2, 12),
  (⟨"GuestNoesModel", "share", "(II)I"⟩, prog_14_method_43_code, 4, (some .int), false, 2, 12),
  (⟨"GuestNoesModel", "goToBed", "(I)I"⟩, prog_14_method_44_code, 2, (some .int), false, 1, 12),
  (⟨"GuestNoesModel", "bed", "(I)I"⟩, prog_14_method_45_code, 2, (some .int), false, 1, 12),
  (⟨"GuestNoesModel", "goOn", "()V"⟩, prog_14_method_46_code, 3, none, false, 0, 12),
  (⟨"GuestNoesModel", "whyNot", "(I)I"⟩, prog_14_method_47_code, 2, (some .int), false, 1, 12),
  (⟨"GuestNoesModel", "hour", "(I)I"⟩, prog_14_method_48_code, 3, (some .int), false, 1, 12),
  (⟨"GuestNoesModel", "anew", "()I"⟩, prog_14_method_49_code, 1, (some .int), false, 0, 12),
  (⟨"GuestNoesModel", "draw", "(I)I"⟩, prog_14_method_50_code, 2, (some .int), false, 1, 12),
  (⟨"GuestNoesModel", "doByDraws", "()V"⟩, prog_14_method_51_code, 5, none, false, 0, 12),
  (⟨"GuestNoesModel", "drift", "(I)I"⟩, prog_14_method_52_code, 3, (some .int), false, 1, 12),
  (⟨"GuestNoesModel", "undo", "(I)I"⟩, prog_14_method_53_code, 3, (some .int), false, 1, 12),
  (⟨"GuestNoesModel", "joy", "(III)I"⟩, prog_14_method_54_code, 4, (some .int), false, 3, 12),
  (⟨"GuestNoesModel", "firstOpen", "(I)I"⟩, prog_14_method_55_code, 2, (some .int), false, 1, 12),
  (⟨"GuestNoesModel", "mostBy", "(II)I"⟩, prog_14_method_56_code, 5, (some .int), false, 2, 12),
  (⟨"GuestNoesModel", "best", "(II)I"⟩, prog_14_method_57_code, 8, (some .int), false, 2, 12),
  (⟨"GuestNoesModel", "planned", "(I)I"⟩, prog_14_method_58_code, 6, (some .int), false, 1, 12),
  (⟨"GuestNoesModel", "power", "(II)I"⟩, prog_14_method_59_code, 4, (some .int), true, 2, 12),
  (⟨"GuestNoesModel", "plan", "(I)I"⟩, prog_14_method_60_code, 6, (some .int), false, 1, 12),
  (⟨"GuestNoesModel", "layWorth", "(II)V"⟩, prog_14_method_61_code, 9, none, false, 2, 12),
  (⟨"GuestNoesModel", "notSaid", "(I)I"⟩, prog_14_method_62_code, 2, (some .int), false, 1, 12),
  (⟨"GuestNoesModel", "line", "(II)I"⟩, prog_14_method_63_code, 3, (some .int), false, 2, 12),
  (⟨"GuestNoesModel", "now", "(III)I"⟩, prog_14_method_64_code, 4, (some .int), false, 3, 12),
  (⟨"GuestNoesModel", "agree", "(II)I"⟩, prog_14_method_65_code, 3, (some .int), false, 2, 12),
  (⟨"GuestNoesModel", "boldest", "(I)I"⟩, prog_14_method_66_code, 6, (some .int), false, 1, 12),
  (⟨"GuestNoesModel", "dry", "(II)I"⟩, prog_14_method_67_code, 6, (some .int), false, 2, 12),
  (⟨"GuestNoesModel", "hear", "(IZ)I"⟩, prog_14_method_68_code, 3, (some .int), false, 2, 12),
  (⟨"GuestNoesModel", "couldBe", "()I"⟩, prog_14_method_69_code, 5, (some .int), false, 0, 12),
  (⟨"GuestNoesModel", "ask", "()I"⟩, prog_14_method_70_code, 8, (some .int), false, 0, 12),
  (⟨"GuestNoesModel", "write", "(II)I"⟩, prog_14_method_71_code, 3, (some .int), false, 2, 12),
  (⟨"GuestNoesModel", "judge", "()I"⟩, prog_14_method_72_code, 2, (some .int), false, 0, 12),
  (⟨"GuestNoesModel", "tear", "()I"⟩, prog_14_method_73_code, 2, (some .int), false, 0, 12),
  (⟨"GuestNoesModel", "seed", "(I)I"⟩, prog_14_method_74_code, 3, (some .int), false, 1, 12),
  (⟨"GuestNoesModel", "keep", "(I)I"⟩, prog_14_method_75_code, 2, (some .int), false, 1, 12),
  (⟨"GuestNoesModel", "goBack", "(I)I"⟩, prog_14_method_76_code, 2, (some .int), false, 1, 12),
  (⟨"java/lang/Integer", "bitCount", "(I)I"⟩, prog_15_method_49_code, 1, (some .int), true, 1, 13)]
abbrev gn_NM : Nat := 205
