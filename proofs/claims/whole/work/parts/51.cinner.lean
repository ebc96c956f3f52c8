/-! the constructors that make arrays alone: printed by wip/whole/gen/ctor.py -/
set_option maxRecDepth 100000 in
theorem go0 : Cond.methodLink (gn_nm 0) 3 Lib.objectInit ∈ lw_tbl := List.mem_of_getElem? (i := 332) (by decide +kernel)
theorem gd0_0 : decode prog_2_method_1_code 0 = .ok (.aload_n 0, 1) := by decide +kernel
theorem gd0_1 : decode prog_2_method_1_code 1 = .ok (.invokespecial 3, 3) := by decide +kernel
theorem gd0_4 : decode prog_2_method_1_code 4 = .ok (.aload_n 0, 1) := by decide +kernel
theorem gd0_5 : decode prog_2_method_1_code 5 = .ok (.bipush 20, 2) := by decide +kernel
theorem gd0_7 : decode prog_2_method_1_code 7 = .ok (.newarray .int, 2) := by decide +kernel
theorem gd0_9 : decode prog_2_method_1_code 9 = .ok (.putfield 11, 3) := by decide +kernel
theorem gd0_12 : decode prog_2_method_1_code 12 = .ok (.aload_n 0, 1) := by decide +kernel
theorem gd0_13 : decode prog_2_method_1_code 13 = .ok (.bipush 20, 2) := by decide +kernel
theorem gd0_15 : decode prog_2_method_1_code 15 = .ok (.newarray .int, 2) := by decide +kernel
theorem gd0_17 : decode prog_2_method_1_code 17 = .ok (.putfield 15, 3) := by decide +kernel
theorem gd0_20 : decode prog_2_method_1_code 20 = .ok (.return_, 1) := by decide +kernel
def gc_f0 : List Value := [.null, .null, .int 0]
def gc_w0 (cI cZ : ClassId) (u : Nat → Nat) : va_W := [(u 0, .inr (0, [.ref (u 1), .ref (u 2), .int 0])), (u 1, .inl (cI, 20, .inl (fun _ => 0))), (u 2, .inl (cI, 20, .inl (fun _ => 0)))]
set_option maxHeartbeats 2000000 in
set_option maxRecDepth 100000 in
theorem gc_c0 (l : Launch) (D : va_G) (cI cZ : ClassId) : gc_Met l D cI cZ 0 gc_f0 prog_2_method_1_code 2 40 1 12 (gc_w0 cI cZ) := by
  refine gc_met 3 (by decide) (gd0_0) (gd0_1) go0 (Nat.le_refl _) (Nat.le_refl _) ?_
  intro p e s m args below meth c h0 ls A C hP hD hS hA hl
  obtain ⟨hx, hb, hr, hts, hown, hlk, hin, hml, hK, hN⟩ := id C
  refine lv_aload_n hx hb (gd0_4) rfl (lv_at hl 0 rfl) ?_
  refine lv_bipush (v := nI 20) hx hb (gd0_5) (by decide) ?_
  refine gc_ai C hP hD hS hA 20 0 11 (by decide) (Nat.le_of_ble_eq_true rfl) (Nat.le_of_ble_eq_true rfl) (by decide) (by decide +kernel) (by decide +kernel) (by decide +kernel) rfl (Nat.le_of_ble_eq_true rfl) (gd0_7) (gd0_9) (fun a1 H locs hP hD hS => ?_)
  refine lv_aload_n hx hb (gd0_12) rfl (lv_at hl 0 rfl) ?_
  refine lv_bipush (v := nI 20) hx hb (gd0_13) (by decide) ?_
  refine gc_ai C hP hD hS hA 20 1 15 (by decide) (Nat.le_of_ble_eq_true rfl) (Nat.le_of_ble_eq_true rfl) (by decide) (by decide +kernel) (by decide +kernel) (by decide +kernel) rfl (Nat.le_of_ble_eq_true rfl) (gd0_15) (gd0_17) (fun a2 H locs hP hD hS => ?_)
  exact W.vret hx hb hr (fun t ht hW => ⟨⟨fun i => [h0, a1, a2].getD i 0, rfl, rfl, by rw [ht]; exact hP, hD⟩, hS.F ht⟩) hS.2.2 (gd0_20) hlk
set_option maxRecDepth 100000 in
theorem go1 : Cond.methodLink (gn_nm 1) 1 Lib.objectInit ∈ lw_tbl := List.mem_of_getElem? (i := 232) (by decide +kernel)
theorem gd1_0 : decode prog_3_method_1_code 0 = .ok (.aload_n 0, 1) := by decide +kernel
theorem gd1_1 : decode prog_3_method_1_code 1 = .ok (.invokespecial 1, 3) := by decide +kernel
theorem gd1_4 : decode prog_3_method_1_code 4 = .ok (.return_, 1) := by decide +kernel
def gc_f1 : List Value := [.int 0]
def gc_w1 (cI cZ : ClassId) (u : Nat → Nat) : va_W := [(u 0, .inr (1, [.int 0]))]
set_option maxHeartbeats 2000000 in
set_option maxRecDepth 100000 in
theorem gc_c1 (l : Launch) (D : va_G) (cI cZ : ClassId) : gc_Met l D cI cZ 1 gc_f1 prog_3_method_1_code 0 0 1 12 (gc_w1 cI cZ) := by
  refine gc_met 1 (by decide) (gd1_0) (gd1_1) go1 (Nat.le_refl _) (Nat.le_refl _) ?_
  intro p e s m args below meth c h0 ls A C hP hD hS hA hl
  obtain ⟨hx, hb, hr, hts, hown, hlk, hin, hml, hK, hN⟩ := id C
  exact W.vret hx hb hr (fun t ht hW => ⟨⟨fun i => [h0].getD i 0, rfl, rfl, by rw [ht]; exact hP, hD⟩, hS.F ht⟩) hS.2.2 (gd1_4) hlk
set_option maxRecDepth 100000 in
theorem go2 : Cond.methodLink (gn_nm 2) 3 Lib.objectInit ∈ lw_tbl := List.mem_of_getElem? (i := 314) (by decide +kernel)
theorem gd2_0 : decode prog_4_method_1_code 0 = .ok (.aload_n 0, 1) := by decide +kernel
theorem gd2_1 : decode prog_4_method_1_code 1 = .ok (.invokespecial 3, 3) := by decide +kernel
theorem gd2_4 : decode prog_4_method_1_code 4 = .ok (.aload_n 0, 1) := by decide +kernel
theorem gd2_5 : decode prog_4_method_1_code 5 = .ok (.bipush 6, 2) := by decide +kernel
theorem gd2_7 : decode prog_4_method_1_code 7 = .ok (.newarray .int, 2) := by decide +kernel
theorem gd2_9 : decode prog_4_method_1_code 9 = .ok (.putfield 11, 3) := by decide +kernel
theorem gd2_12 : decode prog_4_method_1_code 12 = .ok (.aload_n 0, 1) := by decide +kernel
theorem gd2_13 : decode prog_4_method_1_code 13 = .ok (.bipush 6, 2) := by decide +kernel
theorem gd2_15 : decode prog_4_method_1_code 15 = .ok (.newarray .boolean, 2) := by decide +kernel
theorem gd2_17 : decode prog_4_method_1_code 17 = .ok (.putfield 15, 3) := by decide +kernel
theorem gd2_20 : decode prog_4_method_1_code 20 = .ok (.return_, 1) := by decide +kernel
def gc_f2 : List Value := [.null, .null, .int 0]
def gc_w2 (cI cZ : ClassId) (u : Nat → Nat) : va_W := [(u 0, .inr (2, [.ref (u 1), .ref (u 2), .int 0])), (u 1, .inl (cI, 6, .inl (fun _ => 0))), (u 2, .inl (cZ, 6, .inl (fun _ => 0)))]
set_option maxHeartbeats 2000000 in
set_option maxRecDepth 100000 in
theorem gc_c2 (l : Launch) (D : va_G) (cI cZ : ClassId) : gc_Met l D cI cZ 2 gc_f2 prog_4_method_1_code 2 12 1 12 (gc_w2 cI cZ) := by
  refine gc_met 3 (by decide) (gd2_0) (gd2_1) go2 (Nat.le_refl _) (Nat.le_refl _) ?_
  intro p e s m args below meth c h0 ls A C hP hD hS hA hl
  obtain ⟨hx, hb, hr, hts, hown, hlk, hin, hml, hK, hN⟩ := id C
  refine lv_aload_n hx hb (gd2_4) rfl (lv_at hl 0 rfl) ?_
  refine lv_bipush (v := nI 6) hx hb (gd2_5) (by decide) ?_
  refine gc_ai C hP hD hS hA 6 0 11 (by decide) (Nat.le_of_ble_eq_true rfl) (Nat.le_of_ble_eq_true rfl) (by decide) (by decide +kernel) (by decide +kernel) (by decide +kernel) rfl (Nat.le_of_ble_eq_true rfl) (gd2_7) (gd2_9) (fun a1 H locs hP hD hS => ?_)
  refine lv_aload_n hx hb (gd2_12) rfl (lv_at hl 0 rfl) ?_
  refine lv_bipush (v := nI 6) hx hb (gd2_13) (by decide) ?_
  refine gc_az C hP hD hS hA 6 1 15 (by decide) (Nat.le_of_ble_eq_true rfl) (Nat.le_of_ble_eq_true rfl) (by decide) (by decide +kernel) (by decide +kernel) (by decide +kernel) rfl (Nat.le_of_ble_eq_true rfl) (gd2_15) (gd2_17) (fun a2 H locs hP hD hS => ?_)
  exact W.vret hx hb hr (fun t ht hW => ⟨⟨fun i => [h0, a1, a2].getD i 0, rfl, rfl, by rw [ht]; exact hP, hD⟩, hS.F ht⟩) hS.2.2 (gd2_20) hlk
set_option maxRecDepth 100000 in
theorem go3 : Cond.methodLink (gn_nm 3) 1 Lib.objectInit ∈ lw_tbl := List.mem_of_getElem? (i := 215) (by decide +kernel)
theorem gd3_0 : decode prog_5_method_1_code 0 = .ok (.aload_n 0, 1) := by decide +kernel
theorem gd3_1 : decode prog_5_method_1_code 1 = .ok (.invokespecial 1, 3) := by decide +kernel
theorem gd3_4 : decode prog_5_method_1_code 4 = .ok (.aload_n 0, 1) := by decide +kernel
theorem gd3_5 : decode prog_5_method_1_code 5 = .ok (.bipush 28, 2) := by decide +kernel
theorem gd3_7 : decode prog_5_method_1_code 7 = .ok (.newarray .int, 2) := by decide +kernel
theorem gd3_9 : decode prog_5_method_1_code 9 = .ok (.putfield 9, 3) := by decide +kernel
theorem gd3_12 : decode prog_5_method_1_code 12 = .ok (.return_, 1) := by decide +kernel
def gc_f3 : List Value := [.null, .int 0, .int 0]
def gc_w3 (cI cZ : ClassId) (u : Nat → Nat) : va_W := [(u 0, .inr (3, [.ref (u 1), .int 0, .int 0])), (u 1, .inl (cI, 28, .inl (fun _ => 0)))]
set_option maxHeartbeats 2000000 in
set_option maxRecDepth 100000 in
theorem gc_c3 (l : Launch) (D : va_G) (cI cZ : ClassId) : gc_Met l D cI cZ 3 gc_f3 prog_5_method_1_code 1 28 1 12 (gc_w3 cI cZ) := by
  refine gc_met 1 (by decide) (gd3_0) (gd3_1) go3 (Nat.le_refl _) (Nat.le_refl _) ?_
  intro p e s m args below meth c h0 ls A C hP hD hS hA hl
  obtain ⟨hx, hb, hr, hts, hown, hlk, hin, hml, hK, hN⟩ := id C
  refine lv_aload_n hx hb (gd3_4) rfl (lv_at hl 0 rfl) ?_
  refine lv_bipush (v := nI 28) hx hb (gd3_5) (by decide) ?_
  refine gc_ai C hP hD hS hA 28 0 9 (by decide) (Nat.le_of_ble_eq_true rfl) (Nat.le_of_ble_eq_true rfl) (by decide) (by decide +kernel) (by decide +kernel) (by decide +kernel) rfl (Nat.le_of_ble_eq_true rfl) (gd3_7) (gd3_9) (fun a1 H locs hP hD hS => ?_)
  exact W.vret hx hb hr (fun t ht hW => ⟨⟨fun i => [h0, a1].getD i 0, rfl, rfl, by rw [ht]; exact hP, hD⟩, hS.F ht⟩) hS.2.2 (gd3_12) hlk
set_option maxRecDepth 100000 in
theorem go4 : Cond.methodLink (gn_nm 4) 5 Lib.objectInit ∈ lw_tbl := List.mem_of_getElem? (i := 186) (by decide +kernel)
theorem gd4_0 : decode prog_6_method_1_code 0 = .ok (.aload_n 0, 1) := by decide +kernel
theorem gd4_1 : decode prog_6_method_1_code 1 = .ok (.invokespecial 5, 3) := by decide +kernel
theorem gd4_4 : decode prog_6_method_1_code 4 = .ok (.aload_n 0, 1) := by decide +kernel
theorem gd4_5 : decode prog_6_method_1_code 5 = .ok (.bipush 28, 2) := by decide +kernel
theorem gd4_7 : decode prog_6_method_1_code 7 = .ok (.newarray .int, 2) := by decide +kernel
theorem gd4_9 : decode prog_6_method_1_code 9 = .ok (.putfield 11, 3) := by decide +kernel
theorem gd4_12 : decode prog_6_method_1_code 12 = .ok (.return_, 1) := by decide +kernel
def gc_f4 : List Value := [.null]
def gc_w4 (cI cZ : ClassId) (u : Nat → Nat) : va_W := [(u 0, .inr (4, [.ref (u 1)])), (u 1, .inl (cI, 28, .inl (fun _ => 0)))]
set_option maxHeartbeats 2000000 in
set_option maxRecDepth 100000 in
theorem gc_c4 (l : Launch) (D : va_G) (cI cZ : ClassId) : gc_Met l D cI cZ 4 gc_f4 prog_6_method_1_code 1 28 1 12 (gc_w4 cI cZ) := by
  refine gc_met 5 (by decide) (gd4_0) (gd4_1) go4 (Nat.le_refl _) (Nat.le_refl _) ?_
  intro p e s m args below meth c h0 ls A C hP hD hS hA hl
  obtain ⟨hx, hb, hr, hts, hown, hlk, hin, hml, hK, hN⟩ := id C
  refine lv_aload_n hx hb (gd4_4) rfl (lv_at hl 0 rfl) ?_
  refine lv_bipush (v := nI 28) hx hb (gd4_5) (by decide) ?_
  refine gc_ai C hP hD hS hA 28 0 11 (by decide) (Nat.le_of_ble_eq_true rfl) (Nat.le_of_ble_eq_true rfl) (by decide) (by decide +kernel) (by decide +kernel) (by decide +kernel) rfl (Nat.le_of_ble_eq_true rfl) (gd4_7) (gd4_9) (fun a1 H locs hP hD hS => ?_)
  exact W.vret hx hb hr (fun t ht hW => ⟨⟨fun i => [h0, a1].getD i 0, rfl, rfl, by rw [ht]; exact hP, hD⟩, hS.F ht⟩) hS.2.2 (gd4_12) hlk
set_option maxRecDepth 100000 in
theorem go5 : Cond.methodLink (gn_nm 5) 1 Lib.objectInit ∈ lw_tbl := List.mem_of_getElem? (i := 198) (by decide +kernel)
theorem gd5_0 : decode prog_7_method_1_code 0 = .ok (.aload_n 0, 1) := by decide +kernel
theorem gd5_1 : decode prog_7_method_1_code 1 = .ok (.invokespecial 1, 3) := by decide +kernel
theorem gd5_4 : decode prog_7_method_1_code 4 = .ok (.aload_n 0, 1) := by decide +kernel
theorem gd5_5 : decode prog_7_method_1_code 5 = .ok (.sipush 840, 3) := by decide +kernel
theorem gd5_8 : decode prog_7_method_1_code 8 = .ok (.newarray .int, 2) := by decide +kernel
theorem gd5_10 : decode prog_7_method_1_code 10 = .ok (.putfield 11, 3) := by decide +kernel
theorem gd5_13 : decode prog_7_method_1_code 13 = .ok (.return_, 1) := by decide +kernel
def gc_f5 : List Value := [.null, .int 0, .int 0]
def gc_w5 (cI cZ : ClassId) (u : Nat → Nat) : va_W := [(u 0, .inr (5, [.ref (u 1), .int 0, .int 0])), (u 1, .inl (cI, 840, .inl (fun _ => 0)))]
set_option maxHeartbeats 2000000 in
set_option maxRecDepth 100000 in
theorem gc_c5 (l : Launch) (D : va_G) (cI cZ : ClassId) : gc_Met l D cI cZ 5 gc_f5 prog_7_method_1_code 1 840 1 12 (gc_w5 cI cZ) := by
  refine gc_met 1 (by decide) (gd5_0) (gd5_1) go5 (Nat.le_refl _) (Nat.le_refl _) ?_
  intro p e s m args below meth c h0 ls A C hP hD hS hA hl
  obtain ⟨hx, hb, hr, hts, hown, hlk, hin, hml, hK, hN⟩ := id C
  refine lv_aload_n hx hb (gd5_4) rfl (lv_at hl 0 rfl) ?_
  refine lv_sipush (v := nI 840) hx hb (gd5_5) (by decide) ?_
  refine gc_ai C hP hD hS hA 840 0 11 (by decide) (Nat.le_of_ble_eq_true rfl) (Nat.le_of_ble_eq_true rfl) (by decide) (by decide +kernel) (by decide +kernel) (by decide +kernel) rfl (Nat.le_of_ble_eq_true rfl) (gd5_8) (gd5_10) (fun a1 H locs hP hD hS => ?_)
  exact W.vret hx hb hr (fun t ht hW => ⟨⟨fun i => [h0, a1].getD i 0, rfl, rfl, by rw [ht]; exact hP, hD⟩, hS.F ht⟩) hS.2.2 (gd5_13) hlk
set_option maxRecDepth 100000 in
theorem go6 : Cond.methodLink (gn_nm 6) 3 Lib.objectInit ∈ lw_tbl := List.mem_of_getElem? (i := 244) (by decide +kernel)
theorem gd6_0 : decode prog_8_method_1_code 0 = .ok (.aload_n 0, 1) := by decide +kernel
theorem gd6_1 : decode prog_8_method_1_code 1 = .ok (.invokespecial 3, 3) := by decide +kernel
theorem gd6_4 : decode prog_8_method_1_code 4 = .ok (.return_, 1) := by decide +kernel
def gc_f6 : List Value := [.int 0, .int 0, .int 0]
def gc_w6 (cI cZ : ClassId) (u : Nat → Nat) : va_W := [(u 0, .inr (6, [.int 0, .int 0, .int 0]))]
set_option maxHeartbeats 2000000 in
set_option maxRecDepth 100000 in
theorem gc_c6 (l : Launch) (D : va_G) (cI cZ : ClassId) : gc_Met l D cI cZ 6 gc_f6 prog_8_method_1_code 0 0 1 12 (gc_w6 cI cZ) := by
  refine gc_met 3 (by decide) (gd6_0) (gd6_1) go6 (Nat.le_refl _) (Nat.le_refl _) ?_
  intro p e s m args below meth c h0 ls A C hP hD hS hA hl
  obtain ⟨hx, hb, hr, hts, hown, hlk, hin, hml, hK, hN⟩ := id C
  exact W.vret hx hb hr (fun t ht hW => ⟨⟨fun i => [h0].getD i 0, rfl, rfl, by rw [ht]; exact hP, hD⟩, hS.F ht⟩) hS.2.2 (gd6_4) hlk
set_option maxRecDepth 100000 in
theorem go7 : Cond.methodLink (gn_nm 7) 3 Lib.objectInit ∈ lw_tbl := List.mem_of_getElem? (i := 263) (by decide +kernel)
theorem gd7_0 : decode prog_9_method_1_code 0 = .ok (.aload_n 0, 1) := by decide +kernel
theorem gd7_1 : decode prog_9_method_1_code 1 = .ok (.invokespecial 3, 3) := by decide +kernel
theorem gd7_4 : decode prog_9_method_1_code 4 = .ok (.aload_n 0, 1) := by decide +kernel
theorem gd7_5 : decode prog_9_method_1_code 5 = .ok (.bipush 24, 2) := by decide +kernel
theorem gd7_7 : decode prog_9_method_1_code 7 = .ok (.newarray .int, 2) := by decide +kernel
theorem gd7_9 : decode prog_9_method_1_code 9 = .ok (.putfield 9, 3) := by decide +kernel
theorem gd7_12 : decode prog_9_method_1_code 12 = .ok (.aload_n 0, 1) := by decide +kernel
theorem gd7_13 : decode prog_9_method_1_code 13 = .ok (.bipush 7, 2) := by decide +kernel
theorem gd7_15 : decode prog_9_method_1_code 15 = .ok (.newarray .int, 2) := by decide +kernel
theorem gd7_17 : decode prog_9_method_1_code 17 = .ok (.putfield 15, 3) := by decide +kernel
theorem gd7_20 : decode prog_9_method_1_code 20 = .ok (.aload_n 0, 1) := by decide +kernel
theorem gd7_21 : decode prog_9_method_1_code 21 = .ok (.iconst 4, 1) := by decide +kernel
theorem gd7_22 : decode prog_9_method_1_code 22 = .ok (.newarray .int, 2) := by decide +kernel
theorem gd7_24 : decode prog_9_method_1_code 24 = .ok (.putfield 18, 3) := by decide +kernel
theorem gd7_27 : decode prog_9_method_1_code 27 = .ok (.aload_n 0, 1) := by decide +kernel
theorem gd7_28 : decode prog_9_method_1_code 28 = .ok (.bipush 6, 2) := by decide +kernel
theorem gd7_30 : decode prog_9_method_1_code 30 = .ok (.newarray .int, 2) := by decide +kernel
theorem gd7_32 : decode prog_9_method_1_code 32 = .ok (.putfield 21, 3) := by decide +kernel
theorem gd7_35 : decode prog_9_method_1_code 35 = .ok (.aload_n 0, 1) := by decide +kernel
theorem gd7_36 : decode prog_9_method_1_code 36 = .ok (.bipush 6, 2) := by decide +kernel
theorem gd7_38 : decode prog_9_method_1_code 38 = .ok (.newarray .int, 2) := by decide +kernel
theorem gd7_40 : decode prog_9_method_1_code 40 = .ok (.putfield 24, 3) := by decide +kernel
theorem gd7_43 : decode prog_9_method_1_code 43 = .ok (.return_, 1) := by decide +kernel
def gc_f7 : List Value := [.null, .null, .null, .null, .null, .int 0, .int 0, .int 0]
def gc_w7 (cI cZ : ClassId) (u : Nat → Nat) : va_W := [(u 0, .inr (7, [.ref (u 1), .ref (u 2), .ref (u 3), .ref (u 4), .ref (u 5), .int 0, .int 0, .int 0])), (u 1, .inl (cI, 24, .inl (fun _ => 0))), (u 2, .inl (cI, 7, .inl (fun _ => 0))), (u 3, .inl (cI, 4, .inl (fun _ => 0))), (u 4, .inl (cI, 6, .inl (fun _ => 0))), (u 5, .inl (cI, 6, .inl (fun _ => 0)))]
set_option maxHeartbeats 2000000 in
set_option maxRecDepth 100000 in
theorem gc_c7 (l : Launch) (D : va_G) (cI cZ : ClassId) : gc_Met l D cI cZ 7 gc_f7 prog_9_method_1_code 5 47 1 12 (gc_w7 cI cZ) := by
  refine gc_met 3 (by decide) (gd7_0) (gd7_1) go7 (Nat.le_refl _) (Nat.le_refl _) ?_
  intro p e s m args below meth c h0 ls A C hP hD hS hA hl
  obtain ⟨hx, hb, hr, hts, hown, hlk, hin, hml, hK, hN⟩ := id C
  refine lv_aload_n hx hb (gd7_4) rfl (lv_at hl 0 rfl) ?_
  refine lv_bipush (v := nI 24) hx hb (gd7_5) (by decide) ?_
  refine gc_ai C hP hD hS hA 24 0 9 (by decide) (Nat.le_of_ble_eq_true rfl) (Nat.le_of_ble_eq_true rfl) (by decide) (by decide +kernel) (by decide +kernel) (by decide +kernel) rfl (Nat.le_of_ble_eq_true rfl) (gd7_7) (gd7_9) (fun a1 H locs hP hD hS => ?_)
  refine lv_aload_n hx hb (gd7_12) rfl (lv_at hl 0 rfl) ?_
  refine lv_bipush (v := nI 7) hx hb (gd7_13) (by decide) ?_
  refine gc_ai C hP hD hS hA 7 1 15 (by decide) (Nat.le_of_ble_eq_true rfl) (Nat.le_of_ble_eq_true rfl) (by decide) (by decide +kernel) (by decide +kernel) (by decide +kernel) rfl (Nat.le_of_ble_eq_true rfl) (gd7_15) (gd7_17) (fun a2 H locs hP hD hS => ?_)
  refine lv_aload_n hx hb (gd7_20) rfl (lv_at hl 0 rfl) ?_
  refine lv_iconst (v := nI 4) hx hb (gd7_21) (by decide) ?_
  refine gc_ai C hP hD hS hA 4 2 18 (by decide) (Nat.le_of_ble_eq_true rfl) (Nat.le_of_ble_eq_true rfl) (by decide) (by decide +kernel) (by decide +kernel) (by decide +kernel) rfl (Nat.le_of_ble_eq_true rfl) (gd7_22) (gd7_24) (fun a3 H locs hP hD hS => ?_)
  refine lv_aload_n hx hb (gd7_27) rfl (lv_at hl 0 rfl) ?_
  refine lv_bipush (v := nI 6) hx hb (gd7_28) (by decide) ?_
  refine gc_ai C hP hD hS hA 6 3 21 (by decide) (Nat.le_of_ble_eq_true rfl) (Nat.le_of_ble_eq_true rfl) (by decide) (by decide +kernel) (by decide +kernel) (by decide +kernel) rfl (Nat.le_of_ble_eq_true rfl) (gd7_30) (gd7_32) (fun a4 H locs hP hD hS => ?_)
  refine lv_aload_n hx hb (gd7_35) rfl (lv_at hl 0 rfl) ?_
  refine lv_bipush (v := nI 6) hx hb (gd7_36) (by decide) ?_
  refine gc_ai C hP hD hS hA 6 4 24 (by decide) (Nat.le_of_ble_eq_true rfl) (Nat.le_of_ble_eq_true rfl) (by decide) (by decide +kernel) (by decide +kernel) (by decide +kernel) rfl (Nat.le_of_ble_eq_true rfl) (gd7_38) (gd7_40) (fun a5 H locs hP hD hS => ?_)
  exact W.vret hx hb hr (fun t ht hW => ⟨⟨fun i => [h0, a1, a2, a3, a4, a5].getD i 0, rfl, rfl, by rw [ht]; exact hP, hD⟩, hS.F ht⟩) hS.2.2 (gd7_43) hlk
set_option maxRecDepth 100000 in
theorem go8 : Cond.methodLink (gn_nm 8) 3 Lib.objectInit ∈ lw_tbl := List.mem_of_getElem? (i := 160) (by decide +kernel)
theorem gd8_0 : decode prog_10_method_1_code 0 = .ok (.aload_n 0, 1) := by decide +kernel
theorem gd8_1 : decode prog_10_method_1_code 1 = .ok (.invokespecial 3, 3) := by decide +kernel
theorem gd8_4 : decode prog_10_method_1_code 4 = .ok (.aload_n 0, 1) := by decide +kernel
theorem gd8_5 : decode prog_10_method_1_code 5 = .ok (.sipush 240, 3) := by decide +kernel
theorem gd8_8 : decode prog_10_method_1_code 8 = .ok (.newarray .int, 2) := by decide +kernel
theorem gd8_10 : decode prog_10_method_1_code 10 = .ok (.putfield 11, 3) := by decide +kernel
theorem gd8_13 : decode prog_10_method_1_code 13 = .ok (.aload_n 0, 1) := by decide +kernel
theorem gd8_14 : decode prog_10_method_1_code 14 = .ok (.iconst (-1), 1) := by decide +kernel
theorem gd8_15 : decode prog_10_method_1_code 15 = .ok (.putfield 15, 3) := by decide +kernel
theorem gd8_18 : decode prog_10_method_1_code 18 = .ok (.return_, 1) := by decide +kernel
def gc_f8 : List Value := [.null, .int 0, .int 0, .int 0, .int 0]
def gc_w8 (cI cZ : ClassId) (u : Nat → Nat) : va_W := [(u 0, .inr (8, [.ref (u 1), .int 0, .int 0, .int 0, .int (-1)])), (u 1, .inl (cI, 240, .inl (fun _ => 0)))]
set_option maxHeartbeats 2000000 in
set_option maxRecDepth 100000 in
theorem gc_c8 (l : Launch) (D : va_G) (cI cZ : ClassId) : gc_Met l D cI cZ 8 gc_f8 prog_10_method_1_code 1 240 1 12 (gc_w8 cI cZ) := by
  refine gc_met 3 (by decide) (gd8_0) (gd8_1) go8 (Nat.le_refl _) (Nat.le_refl _) ?_
  intro p e s m args below meth c h0 ls A C hP hD hS hA hl
  obtain ⟨hx, hb, hr, hts, hown, hlk, hin, hml, hK, hN⟩ := id C
  refine lv_aload_n hx hb (gd8_4) rfl (lv_at hl 0 rfl) ?_
  refine lv_sipush (v := nI 240) hx hb (gd8_5) (by decide) ?_
  refine gc_ai C hP hD hS hA 240 0 11 (by decide) (Nat.le_of_ble_eq_true rfl) (Nat.le_of_ble_eq_true rfl) (by decide) (by decide +kernel) (by decide +kernel) (by decide +kernel) rfl (Nat.le_of_ble_eq_true rfl) (gd8_8) (gd8_10) (fun a1 H locs hP hD hS => ?_)
  refine lv_aload_n hx hb (gd8_13) rfl (lv_at hl 0 rfl) ?_
  refine lv_iconst (v := (-1)) hx hb (gd8_14) (by decide) ?_
  refine gc_put C hP hD hS 4 15 (by decide) (by decide +kernel) (by decide +kernel) (by decide +kernel) rfl rfl rfl (Nat.le_of_ble_eq_true rfl) (gd8_15) (fun H locs hP hD hS => ?_)
  exact W.vret hx hb hr (fun t ht hW => ⟨⟨fun i => [h0, a1].getD i 0, rfl, rfl, by rw [ht]; exact hP, hD⟩, hS.F ht⟩) hS.2.2 (gd8_18) hlk
set_option maxRecDepth 100000 in
theorem go9 : Cond.methodLink (gn_nm 9) 3 Lib.objectInit ∈ lw_tbl := List.mem_of_getElem? (i := 349) (by decide +kernel)
theorem gd9_0 : decode prog_11_method_1_code 0 = .ok (.aload_n 0, 1) := by decide +kernel
theorem gd9_1 : decode prog_11_method_1_code 1 = .ok (.invokespecial 3, 3) := by decide +kernel
theorem gd9_4 : decode prog_11_method_1_code 4 = .ok (.aload_n 0, 1) := by decide +kernel
theorem gd9_5 : decode prog_11_method_1_code 5 = .ok (.bipush 6, 2) := by decide +kernel
theorem gd9_7 : decode prog_11_method_1_code 7 = .ok (.newarray .int, 2) := by decide +kernel
theorem gd9_9 : decode prog_11_method_1_code 9 = .ok (.putfield 9, 3) := by decide +kernel
theorem gd9_12 : decode prog_11_method_1_code 12 = .ok (.aload_n 0, 1) := by decide +kernel
theorem gd9_13 : decode prog_11_method_1_code 13 = .ok (.bipush 6, 2) := by decide +kernel
theorem gd9_15 : decode prog_11_method_1_code 15 = .ok (.newarray .int, 2) := by decide +kernel
theorem gd9_17 : decode prog_11_method_1_code 17 = .ok (.putfield 15, 3) := by decide +kernel
theorem gd9_20 : decode prog_11_method_1_code 20 = .ok (.aload_n 0, 1) := by decide +kernel
theorem gd9_21 : decode prog_11_method_1_code 21 = .ok (.bipush 36, 2) := by decide +kernel
theorem gd9_23 : decode prog_11_method_1_code 23 = .ok (.newarray .int, 2) := by decide +kernel
theorem gd9_25 : decode prog_11_method_1_code 25 = .ok (.putfield 18, 3) := by decide +kernel
theorem gd9_28 : decode prog_11_method_1_code 28 = .ok (.aload_n 0, 1) := by decide +kernel
theorem gd9_29 : decode prog_11_method_1_code 29 = .ok (.bipush 36, 2) := by decide +kernel
theorem gd9_31 : decode prog_11_method_1_code 31 = .ok (.newarray .int, 2) := by decide +kernel
theorem gd9_33 : decode prog_11_method_1_code 33 = .ok (.putfield 21, 3) := by decide +kernel
theorem gd9_36 : decode prog_11_method_1_code 36 = .ok (.aload_n 0, 1) := by decide +kernel
theorem gd9_37 : decode prog_11_method_1_code 37 = .ok (.bipush 6, 2) := by decide +kernel
theorem gd9_39 : decode prog_11_method_1_code 39 = .ok (.newarray .int, 2) := by decide +kernel
theorem gd9_41 : decode prog_11_method_1_code 41 = .ok (.putfield 24, 3) := by decide +kernel
theorem gd9_44 : decode prog_11_method_1_code 44 = .ok (.aload_n 0, 1) := by decide +kernel
theorem gd9_45 : decode prog_11_method_1_code 45 = .ok (.iconst 4, 1) := by decide +kernel
theorem gd9_46 : decode prog_11_method_1_code 46 = .ok (.newarray .int, 2) := by decide +kernel
theorem gd9_48 : decode prog_11_method_1_code 48 = .ok (.putfield 27, 3) := by decide +kernel
theorem gd9_51 : decode prog_11_method_1_code 51 = .ok (.aload_n 0, 1) := by decide +kernel
theorem gd9_52 : decode prog_11_method_1_code 52 = .ok (.iconst 4, 1) := by decide +kernel
theorem gd9_53 : decode prog_11_method_1_code 53 = .ok (.newarray .int, 2) := by decide +kernel
theorem gd9_55 : decode prog_11_method_1_code 55 = .ok (.putfield 30, 3) := by decide +kernel
theorem gd9_58 : decode prog_11_method_1_code 58 = .ok (.return_, 1) := by decide +kernel
def gc_f9 : List Value := [.int 0, .int 0, .int 0, .int 0, .null, .null, .null, .null, .null, .null, .null]
def gc_w9 (cI cZ : ClassId) (u : Nat → Nat) : va_W := [(u 0, .inr (9, [.int 0, .int 0, .int 0, .int 0, .ref (u 1), .ref (u 2), .ref (u 3), .ref (u 4), .ref (u 5), .ref (u 6), .ref (u 7)])), (u 1, .inl (cI, 6, .inl (fun _ => 0))), (u 2, .inl (cI, 6, .inl (fun _ => 0))), (u 3, .inl (cI, 36, .inl (fun _ => 0))), (u 4, .inl (cI, 36, .inl (fun _ => 0))), (u 5, .inl (cI, 6, .inl (fun _ => 0))), (u 6, .inl (cI, 4, .inl (fun _ => 0))), (u 7, .inl (cI, 4, .inl (fun _ => 0)))]
set_option maxHeartbeats 2000000 in
set_option maxRecDepth 100000 in
theorem gc_c9 (l : Launch) (D : va_G) (cI cZ : ClassId) : gc_Met l D cI cZ 9 gc_f9 prog_11_method_1_code 7 98 1 12 (gc_w9 cI cZ) := by
  refine gc_met 3 (by decide) (gd9_0) (gd9_1) go9 (Nat.le_refl _) (Nat.le_refl _) ?_
  intro p e s m args below meth c h0 ls A C hP hD hS hA hl
  obtain ⟨hx, hb, hr, hts, hown, hlk, hin, hml, hK, hN⟩ := id C
  refine lv_aload_n hx hb (gd9_4) rfl (lv_at hl 0 rfl) ?_
  refine lv_bipush (v := nI 6) hx hb (gd9_5) (by decide) ?_
  refine gc_ai C hP hD hS hA 6 4 9 (by decide) (Nat.le_of_ble_eq_true rfl) (Nat.le_of_ble_eq_true rfl) (by decide) (by decide +kernel) (by decide +kernel) (by decide +kernel) rfl (Nat.le_of_ble_eq_true rfl) (gd9_7) (gd9_9) (fun a1 H locs hP hD hS => ?_)
  refine lv_aload_n hx hb (gd9_12) rfl (lv_at hl 0 rfl) ?_
  refine lv_bipush (v := nI 6) hx hb (gd9_13) (by decide) ?_
  refine gc_ai C hP hD hS hA 6 5 15 (by decide) (Nat.le_of_ble_eq_true rfl) (Nat.le_of_ble_eq_true rfl) (by decide) (by decide +kernel) (by decide +kernel) (by decide +kernel) rfl (Nat.le_of_ble_eq_true rfl) (gd9_15) (gd9_17) (fun a2 H locs hP hD hS => ?_)
  refine lv_aload_n hx hb (gd9_20) rfl (lv_at hl 0 rfl) ?_
  refine lv_bipush (v := nI 36) hx hb (gd9_21) (by decide) ?_
  refine gc_ai C hP hD hS hA 36 6 18 (by decide) (Nat.le_of_ble_eq_true rfl) (Nat.le_of_ble_eq_true rfl) (by decide) (by decide +kernel) (by decide +kernel) (by decide +kernel) rfl (Nat.le_of_ble_eq_true rfl) (gd9_23) (gd9_25) (fun a3 H locs hP hD hS => ?_)
  refine lv_aload_n hx hb (gd9_28) rfl (lv_at hl 0 rfl) ?_
  refine lv_bipush (v := nI 36) hx hb (gd9_29) (by decide) ?_
  refine gc_ai C hP hD hS hA 36 7 21 (by decide) (Nat.le_of_ble_eq_true rfl) (Nat.le_of_ble_eq_true rfl) (by decide) (by decide +kernel) (by decide +kernel) (by decide +kernel) rfl (Nat.le_of_ble_eq_true rfl) (gd9_31) (gd9_33) (fun a4 H locs hP hD hS => ?_)
  refine lv_aload_n hx hb (gd9_36) rfl (lv_at hl 0 rfl) ?_
  refine lv_bipush (v := nI 6) hx hb (gd9_37) (by decide) ?_
  refine gc_ai C hP hD hS hA 6 8 24 (by decide) (Nat.le_of_ble_eq_true rfl) (Nat.le_of_ble_eq_true rfl) (by decide) (by decide +kernel) (by decide +kernel) (by decide +kernel) rfl (Nat.le_of_ble_eq_true rfl) (gd9_39) (gd9_41) (fun a5 H locs hP hD hS => ?_)
  refine lv_aload_n hx hb (gd9_44) rfl (lv_at hl 0 rfl) ?_
  refine lv_iconst (v := nI 4) hx hb (gd9_45) (by decide) ?_
  refine gc_ai C hP hD hS hA 4 9 27 (by decide) (Nat.le_of_ble_eq_true rfl) (Nat.le_of_ble_eq_true rfl) (by decide) (by decide +kernel) (by decide +kernel) (by decide +kernel) rfl (Nat.le_of_ble_eq_true rfl) (gd9_46) (gd9_48) (fun a6 H locs hP hD hS => ?_)
  refine lv_aload_n hx hb (gd9_51) rfl (lv_at hl 0 rfl) ?_
  refine lv_iconst (v := nI 4) hx hb (gd9_52) (by decide) ?_
  refine gc_ai C hP hD hS hA 4 10 30 (by decide) (Nat.le_of_ble_eq_true rfl) (Nat.le_of_ble_eq_true rfl) (by decide) (by decide +kernel) (by decide +kernel) (by decide +kernel) rfl (Nat.le_of_ble_eq_true rfl) (gd9_53) (gd9_55) (fun a7 H locs hP hD hS => ?_)
  exact W.vret hx hb hr (fun t ht hW => ⟨⟨fun i => [h0, a1, a2, a3, a4, a5, a6, a7].getD i 0, rfl, rfl, by rw [ht]; exact hP, hD⟩, hS.F ht⟩) hS.2.2 (gd9_58) hlk
set_option maxRecDepth 100000 in
theorem go10 : Cond.methodLink (gn_nm 10) 3 Lib.objectInit ∈ lw_tbl := List.mem_of_getElem? (i := 295) (by decide +kernel)
theorem gd10_0 : decode prog_12_method_1_code 0 = .ok (.aload_n 0, 1) := by decide +kernel
theorem gd10_1 : decode prog_12_method_1_code 1 = .ok (.invokespecial 3, 3) := by decide +kernel
theorem gd10_4 : decode prog_12_method_1_code 4 = .ok (.aload_n 0, 1) := by decide +kernel
theorem gd10_5 : decode prog_12_method_1_code 5 = .ok (.bipush 64, 2) := by decide +kernel
theorem gd10_7 : decode prog_12_method_1_code 7 = .ok (.newarray .int, 2) := by decide +kernel
theorem gd10_9 : decode prog_12_method_1_code 9 = .ok (.putfield 9, 3) := by decide +kernel
theorem gd10_12 : decode prog_12_method_1_code 12 = .ok (.aload_n 0, 1) := by decide +kernel
theorem gd10_13 : decode prog_12_method_1_code 13 = .ok (.bipush 6, 2) := by decide +kernel
theorem gd10_15 : decode prog_12_method_1_code 15 = .ok (.newarray .int, 2) := by decide +kernel
theorem gd10_17 : decode prog_12_method_1_code 17 = .ok (.putfield 15, 3) := by decide +kernel
theorem gd10_20 : decode prog_12_method_1_code 20 = .ok (.return_, 1) := by decide +kernel
def gc_f10 : List Value := [.null, .null, .int 0, .int 0]
def gc_w10 (cI cZ : ClassId) (u : Nat → Nat) : va_W := [(u 0, .inr (10, [.ref (u 1), .ref (u 2), .int 0, .int 0])), (u 1, .inl (cI, 64, .inl (fun _ => 0))), (u 2, .inl (cI, 6, .inl (fun _ => 0)))]
set_option maxHeartbeats 2000000 in
set_option maxRecDepth 100000 in
theorem gc_c10 (l : Launch) (D : va_G) (cI cZ : ClassId) : gc_Met l D cI cZ 10 gc_f10 prog_12_method_1_code 2 70 1 12 (gc_w10 cI cZ) := by
  refine gc_met 3 (by decide) (gd10_0) (gd10_1) go10 (Nat.le_refl _) (Nat.le_refl _) ?_
  intro p e s m args below meth c h0 ls A C hP hD hS hA hl
  obtain ⟨hx, hb, hr, hts, hown, hlk, hin, hml, hK, hN⟩ := id C
  refine lv_aload_n hx hb (gd10_4) rfl (lv_at hl 0 rfl) ?_
  refine lv_bipush (v := nI 64) hx hb (gd10_5) (by decide) ?_
  refine gc_ai C hP hD hS hA 64 0 9 (by decide) (Nat.le_of_ble_eq_true rfl) (Nat.le_of_ble_eq_true rfl) (by decide) (by decide +kernel) (by decide +kernel) (by decide +kernel) rfl (Nat.le_of_ble_eq_true rfl) (gd10_7) (gd10_9) (fun a1 H locs hP hD hS => ?_)
  refine lv_aload_n hx hb (gd10_12) rfl (lv_at hl 0 rfl) ?_
  refine lv_bipush (v := nI 6) hx hb (gd10_13) (by decide) ?_
  refine gc_ai C hP hD hS hA 6 1 15 (by decide) (Nat.le_of_ble_eq_true rfl) (Nat.le_of_ble_eq_true rfl) (by decide) (by decide +kernel) (by decide +kernel) (by decide +kernel) rfl (Nat.le_of_ble_eq_true rfl) (gd10_15) (gd10_17) (fun a2 H locs hP hD hS => ?_)
  exact W.vret hx hb hr (fun t ht hW => ⟨⟨fun i => [h0, a1, a2].getD i 0, rfl, rfl, by rw [ht]; exact hP, hD⟩, hS.F ht⟩) hS.2.2 (gd10_20) hlk
