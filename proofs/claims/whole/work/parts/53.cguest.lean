/-! GuestNoes' own constructor: printed by wip/whole/gen/ctorg.py -/
/-- the memory at the start -/
def gS0 : gn_Mem := fun o k => bif Nat.beq o 0 then (bif Nat.beq k 12 then 1 else 0) else bif Nat.beq o 1 then (bif Nat.beq k 4 then -1 else 0) else bif Nat.beq o 44 then (bif Nat.beq k 14 then -1 else 0) else 0
noncomputable def gc_w11 (cI cZ : ClassId) (u : Nat → Nat) : va_W := (List.range 44).map (fun o => (u o, gn_ce cI cZ u gS0 o))
section
variable {l : Launch} {D : va_G} {cI cZ : ClassId} {cc : ByteArray} {p : Program} {e : Env} {R : Room} {s : State} {m : MethodId} {args : Array Value} {below : List Frame} {meth : Method} {c : Code} {H H0 : Heap} {locs : List Loc} {cells slots pc : Nat} {Q : State → Prop} {ls : Array Slot} {ws : va_W} {A : Nat → Prop} {h0 : Nat} {fs : List Value}
theorem gc_sub (C : gc_C 11 cc D cI cZ p s m args meth c) (hP : va_P D gn_cls ((h0, .inr (11, fs)) :: ws) H) (hD : va_D A ((h0, .inr (11, fs)) :: ws)) (hS : va_S A H0 H locs) (hA : ∀ x, H0.size ≤ x → A x) (hl : lv_has ls 1 [(0, .ref h0)]) {q2 N2 : Nat} {fs2 : List Value} {by2 : ByteArray} {mc ms : Nat} {Wf : (Nat → Nat) → va_W} (hM : gc_Met l D cI cZ q2 fs2 by2 mc ms 1 12 Wf) (k i1 i2 i3 : Nat) (hq2 : q2 < 13) (hN2 : N2 = (gn_cls.getD q2 ("", gn_T0, 0)).2.2) (hfs2 : ∀ j, j < N2 → defaultValue ((gn_tys.getD q2 gn_ty0) j) = vp_V fs2 j)
    (w1 : Cond.classLink (gn_nm 11) i1 (gn_nm q2) ∈ lw_tbl) (w2 : Cond.instantiable (gn_nm q2) N2 ∈ lw_tbl) (w3 : Cond.initialized (gn_nm q2) ∈ lw_tbl) (w4 : Cond.methodLinkNest (gn_nm 11) i2 ⟨gn_nm q2, "<init>", "()V"⟩ "GuestNoes" ∈ lw_tbl) (w5 : Cond.instanceMethod ⟨gn_nm q2, "<init>", "()V"⟩ ∈ lw_tbl) (w6 : Cond.code ⟨gn_nm q2, "<init>", "()V"⟩ by2 1 none ∈ lw_tbl)
    (hcl : cells + 1 + mc ≤ R.cells) (hsl : slots + N2 + ms ≤ R.slots) (hR : 2 ≤ R.frames ∧ 32 ≤ R.locals) (hnm : gn_nm q2 ≠ "java/lang/invoke/MethodHandle" ∧ gn_nm q2 ≠ "java/lang/invoke/VarHandle") (hfld : (11, i3, 11, k, 0) ∈ gn_fldT) (hk : k < (gn_cls.getD 11 ("", gn_T0, 0)).2.2) (hT : (gn_Tf 11 k).1 = gn_nm 11) (hty : (gn_tys.getD 11 gn_ty0) k = .object (gn_nm q2)) (hlen : k < fs.length)
    (e0 : decode cc pc = .ok (.aload_n 0, 1)) (e1 : decode cc (pc + 1) = .ok (.new i1, 3)) (e2 : decode cc (pc + 4) = .ok (.dup, 1)) (e3 : decode cc (pc + 5) = .ok (.invokespecial i2, 3)) (e4 : decode cc (pc + 8) = .ok (.putfield i3, 3))
    (kk : ∀ (u : Nat → Nat) (H1 : Heap) (locs1 : List Loc), va_P D gn_cls ((h0, .inr (11, fs.set k (.ref (u 0)))) :: (ws ++ Wf u)) H1 → va_D A ((h0, .inr (11, fs.set k (.ref (u 0)))) :: (ws ++ Wf u)) → va_S A H0 H1 locs1 → W p l e R s m args below meth c H1 locs1 (cells + 1 + mc) (slots + N2 + ms) Q (F0 m (pc + 11) ls [])) : W p l e R s m args below meth c H locs cells slots Q (F0 m pc ls []) := by
  obtain ⟨hx, hb, hr, hts, hown, hlocks, hin, hml, hK, hNw⟩ := id C
  obtain ⟨Cn, N, hc, hNe⟩ := gn_cls_at hq2
  have hCn : Cn = gn_nm q2 := by
    have h2 := gn_cls_n q2 hq2
    simp only [List.getD, hc, Option.getD_some] at h2
    exact h2
  have hNN : N = N2 := hNe.trans hN2.symm
  subst hCn
  subst hNN
  refine lv_aload_n hx hb e0 rfl (lv_at hl 0 rfl) ?_
  refine va_new (D := D) (ci := q2) (fs := fs2) hx hb hts (gn_lays_of hc) (gn_tys.getD q2 gn_ty0) (gn_cls_ok q2 hq2 _ _ _ hc) hown (hts _ (gn_tin w1 rfl)) (hts _ (gn_tin w2 rfl)) (hts _ (gn_tin w3 rfl)) hK hP hD hS hA hc hfs2 (by omega) (by omega) e1 (fun a H hP hD hS => ?_)
  refine lv_dup hx hb e2 rfl ?_
  have hPr := gc_Pr hP
  have hDr := gc_Dr hD
  have hF := gc_free hDr hS hA
  have hG : GoodIn gn_tbl (.code ⟨gn_nm q2, "<init>", "()V"⟩ by2 1 none :: gn_tbl) := by
    intro w hw
    have h1 : w ∈ gn_tbl := by
      rcases List.mem_cons.mp hw with rfl | hw
      · exact gn_tin w6 rfl
      · exact hw
    exact ⟨h1, gn_tbl_good h1⟩
  refine va_callv (va_runIN (As := []) (rest := [.ref a, .ref h0]) (nL := 1) ⟨hx, hb, hml, hown, hts⟩ (hM a H.size) ⟨va_cnB 0 hts hG rfl rfl rfl (hNw _ (List.mem_filter.mpr ⟨w4, rfl⟩)) (hts _ (gn_tin w3 rfl)) ⟨hnm.1, hnm.2, show (parseMethodDescriptor "()V").map (fun d => d.parameters.length) = some 0 from by decide +kernel⟩ ⟨hR.1, hR.2⟩, rfl, hts _ (gn_tin w5 rfl)⟩ ⟨gc_blind, fun U hU hW => ⟨rfl, by rw [hU], by rw [hU]; exact hPr, va_K.moved hW.alike hK, hDr.weaken (fun _ _ _ _ => trivial), fun w hw => gn_nst_warm hw hW (hNw w hw)⟩⟩ rfl rfl hl.1 rfl (lv_room (Nat.le_of_ble_eq_true rfl)) e3 ⟨hcl, hsl⟩) hS (fun q _ h => hF q h) hF (fun u t H1 locs ht hvm hw hB hz1 hk1 hS => ?_)
  obtain ⟨hP1, hD1⟩ := hB
  rw [ht] at hP1
  obtain ⟨hP, hD⟩ := gc_join hP hD hk1 hF hP1 hD1
  rw [List.cons_append] at hP hD
  refine gc_put C hP hD hS k i3 (by decide) hfld hk hT hty rfl rfl hlen e4 (fun H2 locs2 r1 r2 r3 => ?_)
  have hw : u 0 = a := hw
  rw [← hw] at r1 r2
  exact kk u H2 locs2 r1 r2 r3
end
theorem gd11_0 : decode prog_1_method_1_code 0 = .ok (.aload_n 0, 1) := by decide +kernel
theorem gd11_1 : decode prog_1_method_1_code 1 = .ok (.invokespecial 1, 3) := by decide +kernel
theorem gd11_4 : decode prog_1_method_1_code 4 = .ok (.aload_n 0, 1) := by decide +kernel
theorem gd11_5 : decode prog_1_method_1_code 5 = .ok (.new 7, 3) := by decide +kernel
theorem gd11_8 : decode prog_1_method_1_code 8 = .ok (.dup, 1) := by decide +kernel
theorem gd11_9 : decode prog_1_method_1_code 9 = .ok (.invokespecial 9, 3) := by decide +kernel
theorem gd11_12 : decode prog_1_method_1_code 12 = .ok (.putfield 10, 3) := by decide +kernel
theorem gd11_15 : decode prog_1_method_1_code 15 = .ok (.aload_n 0, 1) := by decide +kernel
theorem gd11_16 : decode prog_1_method_1_code 16 = .ok (.new 16, 3) := by decide +kernel
theorem gd11_19 : decode prog_1_method_1_code 19 = .ok (.dup, 1) := by decide +kernel
theorem gd11_20 : decode prog_1_method_1_code 20 = .ok (.invokespecial 18, 3) := by decide +kernel
theorem gd11_23 : decode prog_1_method_1_code 23 = .ok (.putfield 19, 3) := by decide +kernel
theorem gd11_26 : decode prog_1_method_1_code 26 = .ok (.aload_n 0, 1) := by decide +kernel
theorem gd11_27 : decode prog_1_method_1_code 27 = .ok (.new 23, 3) := by decide +kernel
theorem gd11_30 : decode prog_1_method_1_code 30 = .ok (.dup, 1) := by decide +kernel
theorem gd11_31 : decode prog_1_method_1_code 31 = .ok (.invokespecial 25, 3) := by decide +kernel
theorem gd11_34 : decode prog_1_method_1_code 34 = .ok (.putfield 26, 3) := by decide +kernel
theorem gd11_37 : decode prog_1_method_1_code 37 = .ok (.aload_n 0, 1) := by decide +kernel
theorem gd11_38 : decode prog_1_method_1_code 38 = .ok (.new 30, 3) := by decide +kernel
theorem gd11_41 : decode prog_1_method_1_code 41 = .ok (.dup, 1) := by decide +kernel
theorem gd11_42 : decode prog_1_method_1_code 42 = .ok (.invokespecial 32, 3) := by decide +kernel
theorem gd11_45 : decode prog_1_method_1_code 45 = .ok (.putfield 33, 3) := by decide +kernel
theorem gd11_48 : decode prog_1_method_1_code 48 = .ok (.aload_n 0, 1) := by decide +kernel
theorem gd11_49 : decode prog_1_method_1_code 49 = .ok (.new 30, 3) := by decide +kernel
theorem gd11_52 : decode prog_1_method_1_code 52 = .ok (.dup, 1) := by decide +kernel
theorem gd11_53 : decode prog_1_method_1_code 53 = .ok (.invokespecial 32, 3) := by decide +kernel
theorem gd11_56 : decode prog_1_method_1_code 56 = .ok (.putfield 37, 3) := by decide +kernel
theorem gd11_59 : decode prog_1_method_1_code 59 = .ok (.aload_n 0, 1) := by decide +kernel
theorem gd11_60 : decode prog_1_method_1_code 60 = .ok (.new 40, 3) := by decide +kernel
theorem gd11_63 : decode prog_1_method_1_code 63 = .ok (.dup, 1) := by decide +kernel
theorem gd11_64 : decode prog_1_method_1_code 64 = .ok (.invokespecial 42, 3) := by decide +kernel
theorem gd11_67 : decode prog_1_method_1_code 67 = .ok (.putfield 43, 3) := by decide +kernel
theorem gd11_70 : decode prog_1_method_1_code 70 = .ok (.aload_n 0, 1) := by decide +kernel
theorem gd11_71 : decode prog_1_method_1_code 71 = .ok (.new 47, 3) := by decide +kernel
theorem gd11_74 : decode prog_1_method_1_code 74 = .ok (.dup, 1) := by decide +kernel
theorem gd11_75 : decode prog_1_method_1_code 75 = .ok (.invokespecial 49, 3) := by decide +kernel
theorem gd11_78 : decode prog_1_method_1_code 78 = .ok (.putfield 50, 3) := by decide +kernel
theorem gd11_81 : decode prog_1_method_1_code 81 = .ok (.aload_n 0, 1) := by decide +kernel
theorem gd11_82 : decode prog_1_method_1_code 82 = .ok (.new 54, 3) := by decide +kernel
theorem gd11_85 : decode prog_1_method_1_code 85 = .ok (.dup, 1) := by decide +kernel
theorem gd11_86 : decode prog_1_method_1_code 86 = .ok (.invokespecial 56, 3) := by decide +kernel
theorem gd11_89 : decode prog_1_method_1_code 89 = .ok (.putfield 57, 3) := by decide +kernel
theorem gd11_92 : decode prog_1_method_1_code 92 = .ok (.aload_n 0, 1) := by decide +kernel
theorem gd11_93 : decode prog_1_method_1_code 93 = .ok (.new 61, 3) := by decide +kernel
theorem gd11_96 : decode prog_1_method_1_code 96 = .ok (.dup, 1) := by decide +kernel
theorem gd11_97 : decode prog_1_method_1_code 97 = .ok (.invokespecial 63, 3) := by decide +kernel
theorem gd11_100 : decode prog_1_method_1_code 100 = .ok (.putfield 64, 3) := by decide +kernel
theorem gd11_103 : decode prog_1_method_1_code 103 = .ok (.aload_n 0, 1) := by decide +kernel
theorem gd11_104 : decode prog_1_method_1_code 104 = .ok (.new 68, 3) := by decide +kernel
theorem gd11_107 : decode prog_1_method_1_code 107 = .ok (.dup, 1) := by decide +kernel
theorem gd11_108 : decode prog_1_method_1_code 108 = .ok (.invokespecial 70, 3) := by decide +kernel
theorem gd11_111 : decode prog_1_method_1_code 111 = .ok (.putfield 71, 3) := by decide +kernel
theorem gd11_114 : decode prog_1_method_1_code 114 = .ok (.aload_n 0, 1) := by decide +kernel
theorem gd11_115 : decode prog_1_method_1_code 115 = .ok (.new 75, 3) := by decide +kernel
theorem gd11_118 : decode prog_1_method_1_code 118 = .ok (.dup, 1) := by decide +kernel
theorem gd11_119 : decode prog_1_method_1_code 119 = .ok (.invokespecial 77, 3) := by decide +kernel
theorem gd11_122 : decode prog_1_method_1_code 122 = .ok (.putfield 78, 3) := by decide +kernel
theorem gd11_125 : decode prog_1_method_1_code 125 = .ok (.aload_n 0, 1) := by decide +kernel
theorem gd11_126 : decode prog_1_method_1_code 126 = .ok (.new 82, 3) := by decide +kernel
theorem gd11_129 : decode prog_1_method_1_code 129 = .ok (.dup, 1) := by decide +kernel
theorem gd11_130 : decode prog_1_method_1_code 130 = .ok (.invokespecial 84, 3) := by decide +kernel
theorem gd11_133 : decode prog_1_method_1_code 133 = .ok (.putfield 85, 3) := by decide +kernel
theorem gd11_136 : decode prog_1_method_1_code 136 = .ok (.aload_n 0, 1) := by decide +kernel
theorem gd11_137 : decode prog_1_method_1_code 137 = .ok (.new 82, 3) := by decide +kernel
theorem gd11_140 : decode prog_1_method_1_code 140 = .ok (.dup, 1) := by decide +kernel
theorem gd11_141 : decode prog_1_method_1_code 141 = .ok (.invokespecial 84, 3) := by decide +kernel
theorem gd11_144 : decode prog_1_method_1_code 144 = .ok (.putfield 89, 3) := by decide +kernel
theorem gd11_147 : decode prog_1_method_1_code 147 = .ok (.return_, 1) := by decide +kernel
set_option maxRecDepth 100000 in
theorem go11 : Cond.methodLink (gn_nm 11) 1 Lib.objectInit ∈ lw_tbl := List.mem_of_getElem? (i := 152) (by decide +kernel)
set_option maxRecDepth 100000 in
theorem gm8_1 : Cond.classLink (gn_nm 11) 7 (gn_nm 8) ∈ lw_tbl := List.mem_of_getElem? (i := 155) (by decide +kernel)
set_option maxRecDepth 100000 in
theorem gm8_2 : Cond.instantiable (gn_nm 8) 5 ∈ lw_tbl := List.mem_of_getElem? (i := 156) (by decide +kernel)
set_option maxRecDepth 100000 in
theorem gm8_3 : Cond.initialized (gn_nm 8) ∈ lw_tbl := List.mem_of_getElem? (i := 132) (by decide +kernel)
set_option maxRecDepth 100000 in
theorem gm8_4 : Cond.methodLinkNest (gn_nm 11) 9 ⟨gn_nm 8, "<init>", "()V"⟩ "GuestNoes" ∈ lw_tbl := List.mem_of_getElem? (i := 157) (by decide +kernel)
set_option maxRecDepth 100000 in
theorem gm8_5 : Cond.instanceMethod ⟨gn_nm 8, "<init>", "()V"⟩ ∈ lw_tbl := List.mem_of_getElem? (i := 158) (by decide +kernel)
set_option maxRecDepth 100000 in
theorem gm8_6 : Cond.code ⟨gn_nm 8, "<init>", "()V"⟩ prog_10_method_1_code 1 none ∈ lw_tbl := List.mem_of_getElem? (i := 159) (by decide +kernel)
theorem gz8 : ∀ j, j < 5 → defaultValue ((gn_tys.getD 8 gn_ty0) j) = vp_V gc_f8 j := by decide +kernel
set_option maxRecDepth 100000 in
theorem gm4_1 : Cond.classLink (gn_nm 11) 16 (gn_nm 4) ∈ lw_tbl := List.mem_of_getElem? (i := 181) (by decide +kernel)
set_option maxRecDepth 100000 in
theorem gm4_2 : Cond.instantiable (gn_nm 4) 1 ∈ lw_tbl := List.mem_of_getElem? (i := 182) (by decide +kernel)
set_option maxRecDepth 100000 in
theorem gm4_3 : Cond.initialized (gn_nm 4) ∈ lw_tbl := List.mem_of_getElem? (i := 133) (by decide +kernel)
set_option maxRecDepth 100000 in
theorem gm4_4 : Cond.methodLinkNest (gn_nm 11) 18 ⟨gn_nm 4, "<init>", "()V"⟩ "GuestNoes" ∈ lw_tbl := List.mem_of_getElem? (i := 183) (by decide +kernel)
set_option maxRecDepth 100000 in
theorem gm4_5 : Cond.instanceMethod ⟨gn_nm 4, "<init>", "()V"⟩ ∈ lw_tbl := List.mem_of_getElem? (i := 184) (by decide +kernel)
set_option maxRecDepth 100000 in
theorem gm4_6 : Cond.code ⟨gn_nm 4, "<init>", "()V"⟩ prog_6_method_1_code 1 none ∈ lw_tbl := List.mem_of_getElem? (i := 185) (by decide +kernel)
theorem gz4 : ∀ j, j < 1 → defaultValue ((gn_tys.getD 4 gn_ty0) j) = vp_V gc_f4 j := by decide +kernel
set_option maxRecDepth 100000 in
theorem gm5_1 : Cond.classLink (gn_nm 11) 23 (gn_nm 5) ∈ lw_tbl := List.mem_of_getElem? (i := 193) (by decide +kernel)
set_option maxRecDepth 100000 in
theorem gm5_2 : Cond.instantiable (gn_nm 5) 3 ∈ lw_tbl := List.mem_of_getElem? (i := 194) (by decide +kernel)
set_option maxRecDepth 100000 in
theorem gm5_3 : Cond.initialized (gn_nm 5) ∈ lw_tbl := List.mem_of_getElem? (i := 134) (by decide +kernel)
set_option maxRecDepth 100000 in
theorem gm5_4 : Cond.methodLinkNest (gn_nm 11) 25 ⟨gn_nm 5, "<init>", "()V"⟩ "GuestNoes" ∈ lw_tbl := List.mem_of_getElem? (i := 195) (by decide +kernel)
set_option maxRecDepth 100000 in
theorem gm5_5 : Cond.instanceMethod ⟨gn_nm 5, "<init>", "()V"⟩ ∈ lw_tbl := List.mem_of_getElem? (i := 196) (by decide +kernel)
set_option maxRecDepth 100000 in
theorem gm5_6 : Cond.code ⟨gn_nm 5, "<init>", "()V"⟩ prog_7_method_1_code 1 none ∈ lw_tbl := List.mem_of_getElem? (i := 197) (by decide +kernel)
theorem gz5 : ∀ j, j < 3 → defaultValue ((gn_tys.getD 5 gn_ty0) j) = vp_V gc_f5 j := by decide +kernel
set_option maxRecDepth 100000 in
theorem gm3_1 : Cond.classLink (gn_nm 11) 30 (gn_nm 3) ∈ lw_tbl := List.mem_of_getElem? (i := 210) (by decide +kernel)
set_option maxRecDepth 100000 in
theorem gm3_2 : Cond.instantiable (gn_nm 3) 3 ∈ lw_tbl := List.mem_of_getElem? (i := 211) (by decide +kernel)
set_option maxRecDepth 100000 in
theorem gm3_3 : Cond.initialized (gn_nm 3) ∈ lw_tbl := List.mem_of_getElem? (i := 135) (by decide +kernel)
set_option maxRecDepth 100000 in
theorem gm3_4 : Cond.methodLinkNest (gn_nm 11) 32 ⟨gn_nm 3, "<init>", "()V"⟩ "GuestNoes" ∈ lw_tbl := List.mem_of_getElem? (i := 212) (by decide +kernel)
set_option maxRecDepth 100000 in
theorem gm3_5 : Cond.instanceMethod ⟨gn_nm 3, "<init>", "()V"⟩ ∈ lw_tbl := List.mem_of_getElem? (i := 213) (by decide +kernel)
set_option maxRecDepth 100000 in
theorem gm3_6 : Cond.code ⟨gn_nm 3, "<init>", "()V"⟩ prog_5_method_1_code 1 none ∈ lw_tbl := List.mem_of_getElem? (i := 214) (by decide +kernel)
theorem gz3 : ∀ j, j < 3 → defaultValue ((gn_tys.getD 3 gn_ty0) j) = vp_V gc_f3 j := by decide +kernel
set_option maxRecDepth 100000 in
theorem gm1_1 : Cond.classLink (gn_nm 11) 40 (gn_nm 1) ∈ lw_tbl := List.mem_of_getElem? (i := 227) (by decide +kernel)
set_option maxRecDepth 100000 in
theorem gm1_2 : Cond.instantiable (gn_nm 1) 1 ∈ lw_tbl := List.mem_of_getElem? (i := 228) (by decide +kernel)
set_option maxRecDepth 100000 in
theorem gm1_3 : Cond.initialized (gn_nm 1) ∈ lw_tbl := List.mem_of_getElem? (i := 136) (by decide +kernel)
set_option maxRecDepth 100000 in
theorem gm1_4 : Cond.methodLinkNest (gn_nm 11) 42 ⟨gn_nm 1, "<init>", "()V"⟩ "GuestNoes" ∈ lw_tbl := List.mem_of_getElem? (i := 229) (by decide +kernel)
set_option maxRecDepth 100000 in
theorem gm1_5 : Cond.instanceMethod ⟨gn_nm 1, "<init>", "()V"⟩ ∈ lw_tbl := List.mem_of_getElem? (i := 230) (by decide +kernel)
set_option maxRecDepth 100000 in
theorem gm1_6 : Cond.code ⟨gn_nm 1, "<init>", "()V"⟩ prog_3_method_1_code 1 none ∈ lw_tbl := List.mem_of_getElem? (i := 231) (by decide +kernel)
theorem gz1 : ∀ j, j < 1 → defaultValue ((gn_tys.getD 1 gn_ty0) j) = vp_V gc_f1 j := by decide +kernel
set_option maxRecDepth 100000 in
theorem gm6_1 : Cond.classLink (gn_nm 11) 47 (gn_nm 6) ∈ lw_tbl := List.mem_of_getElem? (i := 239) (by decide +kernel)
set_option maxRecDepth 100000 in
theorem gm6_2 : Cond.instantiable (gn_nm 6) 3 ∈ lw_tbl := List.mem_of_getElem? (i := 240) (by decide +kernel)
set_option maxRecDepth 100000 in
theorem gm6_3 : Cond.initialized (gn_nm 6) ∈ lw_tbl := List.mem_of_getElem? (i := 137) (by decide +kernel)
set_option maxRecDepth 100000 in
theorem gm6_4 : Cond.methodLinkNest (gn_nm 11) 49 ⟨gn_nm 6, "<init>", "()V"⟩ "GuestNoes" ∈ lw_tbl := List.mem_of_getElem? (i := 241) (by decide +kernel)
set_option maxRecDepth 100000 in
theorem gm6_5 : Cond.instanceMethod ⟨gn_nm 6, "<init>", "()V"⟩ ∈ lw_tbl := List.mem_of_getElem? (i := 242) (by decide +kernel)
set_option maxRecDepth 100000 in
theorem gm6_6 : Cond.code ⟨gn_nm 6, "<init>", "()V"⟩ prog_8_method_1_code 1 none ∈ lw_tbl := List.mem_of_getElem? (i := 243) (by decide +kernel)
theorem gz6 : ∀ j, j < 3 → defaultValue ((gn_tys.getD 6 gn_ty0) j) = vp_V gc_f6 j := by decide +kernel
set_option maxRecDepth 100000 in
theorem gm7_1 : Cond.classLink (gn_nm 11) 54 (gn_nm 7) ∈ lw_tbl := List.mem_of_getElem? (i := 258) (by decide +kernel)
set_option maxRecDepth 100000 in
theorem gm7_2 : Cond.instantiable (gn_nm 7) 8 ∈ lw_tbl := List.mem_of_getElem? (i := 259) (by decide +kernel)
set_option maxRecDepth 100000 in
theorem gm7_3 : Cond.initialized (gn_nm 7) ∈ lw_tbl := List.mem_of_getElem? (i := 138) (by decide +kernel)
set_option maxRecDepth 100000 in
theorem gm7_4 : Cond.methodLinkNest (gn_nm 11) 56 ⟨gn_nm 7, "<init>", "()V"⟩ "GuestNoes" ∈ lw_tbl := List.mem_of_getElem? (i := 260) (by decide +kernel)
set_option maxRecDepth 100000 in
theorem gm7_5 : Cond.instanceMethod ⟨gn_nm 7, "<init>", "()V"⟩ ∈ lw_tbl := List.mem_of_getElem? (i := 261) (by decide +kernel)
set_option maxRecDepth 100000 in
theorem gm7_6 : Cond.code ⟨gn_nm 7, "<init>", "()V"⟩ prog_9_method_1_code 1 none ∈ lw_tbl := List.mem_of_getElem? (i := 262) (by decide +kernel)
theorem gz7 : ∀ j, j < 8 → defaultValue ((gn_tys.getD 7 gn_ty0) j) = vp_V gc_f7 j := by decide +kernel
set_option maxRecDepth 100000 in
theorem gm10_1 : Cond.classLink (gn_nm 11) 61 (gn_nm 10) ∈ lw_tbl := List.mem_of_getElem? (i := 290) (by decide +kernel)
set_option maxRecDepth 100000 in
theorem gm10_2 : Cond.instantiable (gn_nm 10) 4 ∈ lw_tbl := List.mem_of_getElem? (i := 291) (by decide +kernel)
set_option maxRecDepth 100000 in
theorem gm10_3 : Cond.initialized (gn_nm 10) ∈ lw_tbl := List.mem_of_getElem? (i := 139) (by decide +kernel)
set_option maxRecDepth 100000 in
theorem gm10_4 : Cond.methodLinkNest (gn_nm 11) 63 ⟨gn_nm 10, "<init>", "()V"⟩ "GuestNoes" ∈ lw_tbl := List.mem_of_getElem? (i := 292) (by decide +kernel)
set_option maxRecDepth 100000 in
theorem gm10_5 : Cond.instanceMethod ⟨gn_nm 10, "<init>", "()V"⟩ ∈ lw_tbl := List.mem_of_getElem? (i := 293) (by decide +kernel)
set_option maxRecDepth 100000 in
theorem gm10_6 : Cond.code ⟨gn_nm 10, "<init>", "()V"⟩ prog_12_method_1_code 1 none ∈ lw_tbl := List.mem_of_getElem? (i := 294) (by decide +kernel)
theorem gz10 : ∀ j, j < 4 → defaultValue ((gn_tys.getD 10 gn_ty0) j) = vp_V gc_f10 j := by decide +kernel
set_option maxRecDepth 100000 in
theorem gm2_1 : Cond.classLink (gn_nm 11) 68 (gn_nm 2) ∈ lw_tbl := List.mem_of_getElem? (i := 309) (by decide +kernel)
set_option maxRecDepth 100000 in
theorem gm2_2 : Cond.instantiable (gn_nm 2) 3 ∈ lw_tbl := List.mem_of_getElem? (i := 310) (by decide +kernel)
set_option maxRecDepth 100000 in
theorem gm2_3 : Cond.initialized (gn_nm 2) ∈ lw_tbl := List.mem_of_getElem? (i := 140) (by decide +kernel)
set_option maxRecDepth 100000 in
theorem gm2_4 : Cond.methodLinkNest (gn_nm 11) 70 ⟨gn_nm 2, "<init>", "()V"⟩ "GuestNoes" ∈ lw_tbl := List.mem_of_getElem? (i := 311) (by decide +kernel)
set_option maxRecDepth 100000 in
theorem gm2_5 : Cond.instanceMethod ⟨gn_nm 2, "<init>", "()V"⟩ ∈ lw_tbl := List.mem_of_getElem? (i := 312) (by decide +kernel)
set_option maxRecDepth 100000 in
theorem gm2_6 : Cond.code ⟨gn_nm 2, "<init>", "()V"⟩ prog_4_method_1_code 1 none ∈ lw_tbl := List.mem_of_getElem? (i := 313) (by decide +kernel)
theorem gz2 : ∀ j, j < 3 → defaultValue ((gn_tys.getD 2 gn_ty0) j) = vp_V gc_f2 j := by decide +kernel
set_option maxRecDepth 100000 in
theorem gm0_1 : Cond.classLink (gn_nm 11) 75 (gn_nm 0) ∈ lw_tbl := List.mem_of_getElem? (i := 327) (by decide +kernel)
set_option maxRecDepth 100000 in
theorem gm0_2 : Cond.instantiable (gn_nm 0) 3 ∈ lw_tbl := List.mem_of_getElem? (i := 328) (by decide +kernel)
set_option maxRecDepth 100000 in
theorem gm0_3 : Cond.initialized (gn_nm 0) ∈ lw_tbl := List.mem_of_getElem? (i := 141) (by decide +kernel)
set_option maxRecDepth 100000 in
theorem gm0_4 : Cond.methodLinkNest (gn_nm 11) 77 ⟨gn_nm 0, "<init>", "()V"⟩ "GuestNoes" ∈ lw_tbl := List.mem_of_getElem? (i := 329) (by decide +kernel)
set_option maxRecDepth 100000 in
theorem gm0_5 : Cond.instanceMethod ⟨gn_nm 0, "<init>", "()V"⟩ ∈ lw_tbl := List.mem_of_getElem? (i := 330) (by decide +kernel)
set_option maxRecDepth 100000 in
theorem gm0_6 : Cond.code ⟨gn_nm 0, "<init>", "()V"⟩ prog_2_method_1_code 1 none ∈ lw_tbl := List.mem_of_getElem? (i := 331) (by decide +kernel)
theorem gz0 : ∀ j, j < 3 → defaultValue ((gn_tys.getD 0 gn_ty0) j) = vp_V gc_f0 j := by decide +kernel
set_option maxRecDepth 100000 in
theorem gm9_1 : Cond.classLink (gn_nm 11) 82 (gn_nm 9) ∈ lw_tbl := List.mem_of_getElem? (i := 344) (by decide +kernel)
set_option maxRecDepth 100000 in
theorem gm9_2 : Cond.instantiable (gn_nm 9) 11 ∈ lw_tbl := List.mem_of_getElem? (i := 345) (by decide +kernel)
set_option maxRecDepth 100000 in
theorem gm9_3 : Cond.initialized (gn_nm 9) ∈ lw_tbl := List.mem_of_getElem? (i := 142) (by decide +kernel)
set_option maxRecDepth 100000 in
theorem gm9_4 : Cond.methodLinkNest (gn_nm 11) 84 ⟨gn_nm 9, "<init>", "()V"⟩ "GuestNoes" ∈ lw_tbl := List.mem_of_getElem? (i := 346) (by decide +kernel)
set_option maxRecDepth 100000 in
theorem gm9_5 : Cond.instanceMethod ⟨gn_nm 9, "<init>", "()V"⟩ ∈ lw_tbl := List.mem_of_getElem? (i := 347) (by decide +kernel)
set_option maxRecDepth 100000 in
theorem gm9_6 : Cond.code ⟨gn_nm 9, "<init>", "()V"⟩ prog_11_method_1_code 1 none ∈ lw_tbl := List.mem_of_getElem? (i := 348) (by decide +kernel)
theorem gz9 : ∀ j, j < 11 → defaultValue ((gn_tys.getD 9 gn_ty0) j) = vp_V gc_f9 j := by decide +kernel
def gc_f11 : List Value := [.null, .null, .null, .null, .null, .null, .null, .null, .null, .null, .null, .null, .null]
set_option maxHeartbeats 4000000 in
set_option maxRecDepth 100000 in
theorem gc_c11 (l : Launch) (D : va_G) (cI cZ : ClassId) : gc_Met l D cI cZ 11 gc_f11 prog_1_method_1_code 43 1588 2 32 (gc_w11 cI cZ) := by
  refine gc_met 1 (by decide) gd11_0 gd11_1 go11 (by decide) (by decide) ?_
  intro p e s m args below meth c h0 ls A C hP hD hS hA hl
  obtain ⟨hx, hb, hr, hts, hown, hlk, hin, hml, hK, hN⟩ := id C
  refine gc_sub C hP hD hS hA hl (gc_c8 l D cI cZ) 0 7 9 10 (by decide) (N2 := 5) (by decide +kernel) gz8 gm8_1 gm8_2 gm8_3 gm8_4 gm8_5 gm8_6 (Nat.le_of_ble_eq_true rfl) (Nat.le_of_ble_eq_true rfl) ⟨Nat.le_of_ble_eq_true rfl, Nat.le_of_ble_eq_true rfl⟩ (by decide) (by decide +kernel) (by decide +kernel) (by decide +kernel) rfl (Nat.le_of_ble_eq_true rfl) gd11_4 gd11_5 gd11_8 gd11_9 gd11_12 (fun u0 H locs hP hD hS => ?_)
  have hP : va_P D gn_cls ((h0, .inr (11, [.ref (u0 0), .null, .null, .null, .null, .null, .null, .null, .null, .null, .null, .null, .null])) :: ([] ++ gc_w8 cI cZ u0)) H := hP
  have hD : va_D A ((h0, .inr (11, [.ref (u0 0), .null, .null, .null, .null, .null, .null, .null, .null, .null, .null, .null, .null])) :: ([] ++ gc_w8 cI cZ u0)) := hD
  refine gc_sub C hP hD hS hA hl (gc_c4 l D cI cZ) 1 16 18 19 (by decide) (N2 := 1) (by decide +kernel) gz4 gm4_1 gm4_2 gm4_3 gm4_4 gm4_5 gm4_6 (Nat.le_of_ble_eq_true rfl) (Nat.le_of_ble_eq_true rfl) ⟨Nat.le_of_ble_eq_true rfl, Nat.le_of_ble_eq_true rfl⟩ (by decide) (by decide +kernel) (by decide +kernel) (by decide +kernel) rfl (Nat.le_of_ble_eq_true rfl) gd11_15 gd11_16 gd11_19 gd11_20 gd11_23 (fun u1 H locs hP hD hS => ?_)
  have hP : va_P D gn_cls ((h0, .inr (11, [.ref (u0 0), .ref (u1 0), .null, .null, .null, .null, .null, .null, .null, .null, .null, .null, .null])) :: (([] ++ gc_w8 cI cZ u0) ++ gc_w4 cI cZ u1)) H := hP
  have hD : va_D A ((h0, .inr (11, [.ref (u0 0), .ref (u1 0), .null, .null, .null, .null, .null, .null, .null, .null, .null, .null, .null])) :: (([] ++ gc_w8 cI cZ u0) ++ gc_w4 cI cZ u1)) := hD
  refine gc_sub C hP hD hS hA hl (gc_c5 l D cI cZ) 2 23 25 26 (by decide) (N2 := 3) (by decide +kernel) gz5 gm5_1 gm5_2 gm5_3 gm5_4 gm5_5 gm5_6 (Nat.le_of_ble_eq_true rfl) (Nat.le_of_ble_eq_true rfl) ⟨Nat.le_of_ble_eq_true rfl, Nat.le_of_ble_eq_true rfl⟩ (by decide) (by decide +kernel) (by decide +kernel) (by decide +kernel) rfl (Nat.le_of_ble_eq_true rfl) gd11_26 gd11_27 gd11_30 gd11_31 gd11_34 (fun u2 H locs hP hD hS => ?_)
  have hP : va_P D gn_cls ((h0, .inr (11, [.ref (u0 0), .ref (u1 0), .ref (u2 0), .null, .null, .null, .null, .null, .null, .null, .null, .null, .null])) :: ((([] ++ gc_w8 cI cZ u0) ++ gc_w4 cI cZ u1) ++ gc_w5 cI cZ u2)) H := hP
  have hD : va_D A ((h0, .inr (11, [.ref (u0 0), .ref (u1 0), .ref (u2 0), .null, .null, .null, .null, .null, .null, .null, .null, .null, .null])) :: ((([] ++ gc_w8 cI cZ u0) ++ gc_w4 cI cZ u1) ++ gc_w5 cI cZ u2)) := hD
  refine gc_sub C hP hD hS hA hl (gc_c3 l D cI cZ) 3 30 32 33 (by decide) (N2 := 3) (by decide +kernel) gz3 gm3_1 gm3_2 gm3_3 gm3_4 gm3_5 gm3_6 (Nat.le_of_ble_eq_true rfl) (Nat.le_of_ble_eq_true rfl) ⟨Nat.le_of_ble_eq_true rfl, Nat.le_of_ble_eq_true rfl⟩ (by decide) (by decide +kernel) (by decide +kernel) (by decide +kernel) rfl (Nat.le_of_ble_eq_true rfl) gd11_37 gd11_38 gd11_41 gd11_42 gd11_45 (fun u3 H locs hP hD hS => ?_)
  have hP : va_P D gn_cls ((h0, .inr (11, [.ref (u0 0), .ref (u1 0), .ref (u2 0), .ref (u3 0), .null, .null, .null, .null, .null, .null, .null, .null, .null])) :: (((([] ++ gc_w8 cI cZ u0) ++ gc_w4 cI cZ u1) ++ gc_w5 cI cZ u2) ++ gc_w3 cI cZ u3)) H := hP
  have hD : va_D A ((h0, .inr (11, [.ref (u0 0), .ref (u1 0), .ref (u2 0), .ref (u3 0), .null, .null, .null, .null, .null, .null, .null, .null, .null])) :: (((([] ++ gc_w8 cI cZ u0) ++ gc_w4 cI cZ u1) ++ gc_w5 cI cZ u2) ++ gc_w3 cI cZ u3)) := hD
  refine gc_sub C hP hD hS hA hl (gc_c3 l D cI cZ) 4 30 32 37 (by decide) (N2 := 3) (by decide +kernel) gz3 gm3_1 gm3_2 gm3_3 gm3_4 gm3_5 gm3_6 (Nat.le_of_ble_eq_true rfl) (Nat.le_of_ble_eq_true rfl) ⟨Nat.le_of_ble_eq_true rfl, Nat.le_of_ble_eq_true rfl⟩ (by decide) (by decide +kernel) (by decide +kernel) (by decide +kernel) rfl (Nat.le_of_ble_eq_true rfl) gd11_48 gd11_49 gd11_52 gd11_53 gd11_56 (fun u4 H locs hP hD hS => ?_)
  have hP : va_P D gn_cls ((h0, .inr (11, [.ref (u0 0), .ref (u1 0), .ref (u2 0), .ref (u3 0), .ref (u4 0), .null, .null, .null, .null, .null, .null, .null, .null])) :: ((((([] ++ gc_w8 cI cZ u0) ++ gc_w4 cI cZ u1) ++ gc_w5 cI cZ u2) ++ gc_w3 cI cZ u3) ++ gc_w3 cI cZ u4)) H := hP
  have hD : va_D A ((h0, .inr (11, [.ref (u0 0), .ref (u1 0), .ref (u2 0), .ref (u3 0), .ref (u4 0), .null, .null, .null, .null, .null, .null, .null, .null])) :: ((((([] ++ gc_w8 cI cZ u0) ++ gc_w4 cI cZ u1) ++ gc_w5 cI cZ u2) ++ gc_w3 cI cZ u3) ++ gc_w3 cI cZ u4)) := hD
  refine gc_sub C hP hD hS hA hl (gc_c1 l D cI cZ) 5 40 42 43 (by decide) (N2 := 1) (by decide +kernel) gz1 gm1_1 gm1_2 gm1_3 gm1_4 gm1_5 gm1_6 (Nat.le_of_ble_eq_true rfl) (Nat.le_of_ble_eq_true rfl) ⟨Nat.le_of_ble_eq_true rfl, Nat.le_of_ble_eq_true rfl⟩ (by decide) (by decide +kernel) (by decide +kernel) (by decide +kernel) rfl (Nat.le_of_ble_eq_true rfl) gd11_59 gd11_60 gd11_63 gd11_64 gd11_67 (fun u5 H locs hP hD hS => ?_)
  have hP : va_P D gn_cls ((h0, .inr (11, [.ref (u0 0), .ref (u1 0), .ref (u2 0), .ref (u3 0), .ref (u4 0), .ref (u5 0), .null, .null, .null, .null, .null, .null, .null])) :: (((((([] ++ gc_w8 cI cZ u0) ++ gc_w4 cI cZ u1) ++ gc_w5 cI cZ u2) ++ gc_w3 cI cZ u3) ++ gc_w3 cI cZ u4) ++ gc_w1 cI cZ u5)) H := hP
  have hD : va_D A ((h0, .inr (11, [.ref (u0 0), .ref (u1 0), .ref (u2 0), .ref (u3 0), .ref (u4 0), .ref (u5 0), .null, .null, .null, .null, .null, .null, .null])) :: (((((([] ++ gc_w8 cI cZ u0) ++ gc_w4 cI cZ u1) ++ gc_w5 cI cZ u2) ++ gc_w3 cI cZ u3) ++ gc_w3 cI cZ u4) ++ gc_w1 cI cZ u5)) := hD
  refine gc_sub C hP hD hS hA hl (gc_c6 l D cI cZ) 6 47 49 50 (by decide) (N2 := 3) (by decide +kernel) gz6 gm6_1 gm6_2 gm6_3 gm6_4 gm6_5 gm6_6 (Nat.le_of_ble_eq_true rfl) (Nat.le_of_ble_eq_true rfl) ⟨Nat.le_of_ble_eq_true rfl, Nat.le_of_ble_eq_true rfl⟩ (by decide) (by decide +kernel) (by decide +kernel) (by decide +kernel) rfl (Nat.le_of_ble_eq_true rfl) gd11_70 gd11_71 gd11_74 gd11_75 gd11_78 (fun u6 H locs hP hD hS => ?_)
  have hP : va_P D gn_cls ((h0, .inr (11, [.ref (u0 0), .ref (u1 0), .ref (u2 0), .ref (u3 0), .ref (u4 0), .ref (u5 0), .ref (u6 0), .null, .null, .null, .null, .null, .null])) :: ((((((([] ++ gc_w8 cI cZ u0) ++ gc_w4 cI cZ u1) ++ gc_w5 cI cZ u2) ++ gc_w3 cI cZ u3) ++ gc_w3 cI cZ u4) ++ gc_w1 cI cZ u5) ++ gc_w6 cI cZ u6)) H := hP
  have hD : va_D A ((h0, .inr (11, [.ref (u0 0), .ref (u1 0), .ref (u2 0), .ref (u3 0), .ref (u4 0), .ref (u5 0), .ref (u6 0), .null, .null, .null, .null, .null, .null])) :: ((((((([] ++ gc_w8 cI cZ u0) ++ gc_w4 cI cZ u1) ++ gc_w5 cI cZ u2) ++ gc_w3 cI cZ u3) ++ gc_w3 cI cZ u4) ++ gc_w1 cI cZ u5) ++ gc_w6 cI cZ u6)) := hD
  refine gc_sub C hP hD hS hA hl (gc_c7 l D cI cZ) 7 54 56 57 (by decide) (N2 := 8) (by decide +kernel) gz7 gm7_1 gm7_2 gm7_3 gm7_4 gm7_5 gm7_6 (Nat.le_of_ble_eq_true rfl) (Nat.le_of_ble_eq_true rfl) ⟨Nat.le_of_ble_eq_true rfl, Nat.le_of_ble_eq_true rfl⟩ (by decide) (by decide +kernel) (by decide +kernel) (by decide +kernel) rfl (Nat.le_of_ble_eq_true rfl) gd11_81 gd11_82 gd11_85 gd11_86 gd11_89 (fun u7 H locs hP hD hS => ?_)
  have hP : va_P D gn_cls ((h0, .inr (11, [.ref (u0 0), .ref (u1 0), .ref (u2 0), .ref (u3 0), .ref (u4 0), .ref (u5 0), .ref (u6 0), .ref (u7 0), .null, .null, .null, .null, .null])) :: (((((((([] ++ gc_w8 cI cZ u0) ++ gc_w4 cI cZ u1) ++ gc_w5 cI cZ u2) ++ gc_w3 cI cZ u3) ++ gc_w3 cI cZ u4) ++ gc_w1 cI cZ u5) ++ gc_w6 cI cZ u6) ++ gc_w7 cI cZ u7)) H := hP
  have hD : va_D A ((h0, .inr (11, [.ref (u0 0), .ref (u1 0), .ref (u2 0), .ref (u3 0), .ref (u4 0), .ref (u5 0), .ref (u6 0), .ref (u7 0), .null, .null, .null, .null, .null])) :: (((((((([] ++ gc_w8 cI cZ u0) ++ gc_w4 cI cZ u1) ++ gc_w5 cI cZ u2) ++ gc_w3 cI cZ u3) ++ gc_w3 cI cZ u4) ++ gc_w1 cI cZ u5) ++ gc_w6 cI cZ u6) ++ gc_w7 cI cZ u7)) := hD
  refine gc_sub C hP hD hS hA hl (gc_c10 l D cI cZ) 8 61 63 64 (by decide) (N2 := 4) (by decide +kernel) gz10 gm10_1 gm10_2 gm10_3 gm10_4 gm10_5 gm10_6 (Nat.le_of_ble_eq_true rfl) (Nat.le_of_ble_eq_true rfl) ⟨Nat.le_of_ble_eq_true rfl, Nat.le_of_ble_eq_true rfl⟩ (by decide) (by decide +kernel) (by decide +kernel) (by decide +kernel) rfl (Nat.le_of_ble_eq_true rfl) gd11_92 gd11_93 gd11_96 gd11_97 gd11_100 (fun u8 H locs hP hD hS => ?_)
  have hP : va_P D gn_cls ((h0, .inr (11, [.ref (u0 0), .ref (u1 0), .ref (u2 0), .ref (u3 0), .ref (u4 0), .ref (u5 0), .ref (u6 0), .ref (u7 0), .ref (u8 0), .null, .null, .null, .null])) :: ((((((((([] ++ gc_w8 cI cZ u0) ++ gc_w4 cI cZ u1) ++ gc_w5 cI cZ u2) ++ gc_w3 cI cZ u3) ++ gc_w3 cI cZ u4) ++ gc_w1 cI cZ u5) ++ gc_w6 cI cZ u6) ++ gc_w7 cI cZ u7) ++ gc_w10 cI cZ u8)) H := hP
  have hD : va_D A ((h0, .inr (11, [.ref (u0 0), .ref (u1 0), .ref (u2 0), .ref (u3 0), .ref (u4 0), .ref (u5 0), .ref (u6 0), .ref (u7 0), .ref (u8 0), .null, .null, .null, .null])) :: ((((((((([] ++ gc_w8 cI cZ u0) ++ gc_w4 cI cZ u1) ++ gc_w5 cI cZ u2) ++ gc_w3 cI cZ u3) ++ gc_w3 cI cZ u4) ++ gc_w1 cI cZ u5) ++ gc_w6 cI cZ u6) ++ gc_w7 cI cZ u7) ++ gc_w10 cI cZ u8)) := hD
  refine gc_sub C hP hD hS hA hl (gc_c2 l D cI cZ) 9 68 70 71 (by decide) (N2 := 3) (by decide +kernel) gz2 gm2_1 gm2_2 gm2_3 gm2_4 gm2_5 gm2_6 (Nat.le_of_ble_eq_true rfl) (Nat.le_of_ble_eq_true rfl) ⟨Nat.le_of_ble_eq_true rfl, Nat.le_of_ble_eq_true rfl⟩ (by decide) (by decide +kernel) (by decide +kernel) (by decide +kernel) rfl (Nat.le_of_ble_eq_true rfl) gd11_103 gd11_104 gd11_107 gd11_108 gd11_111 (fun u9 H locs hP hD hS => ?_)
  have hP : va_P D gn_cls ((h0, .inr (11, [.ref (u0 0), .ref (u1 0), .ref (u2 0), .ref (u3 0), .ref (u4 0), .ref (u5 0), .ref (u6 0), .ref (u7 0), .ref (u8 0), .ref (u9 0), .null, .null, .null])) :: (((((((((([] ++ gc_w8 cI cZ u0) ++ gc_w4 cI cZ u1) ++ gc_w5 cI cZ u2) ++ gc_w3 cI cZ u3) ++ gc_w3 cI cZ u4) ++ gc_w1 cI cZ u5) ++ gc_w6 cI cZ u6) ++ gc_w7 cI cZ u7) ++ gc_w10 cI cZ u8) ++ gc_w2 cI cZ u9)) H := hP
  have hD : va_D A ((h0, .inr (11, [.ref (u0 0), .ref (u1 0), .ref (u2 0), .ref (u3 0), .ref (u4 0), .ref (u5 0), .ref (u6 0), .ref (u7 0), .ref (u8 0), .ref (u9 0), .null, .null, .null])) :: (((((((((([] ++ gc_w8 cI cZ u0) ++ gc_w4 cI cZ u1) ++ gc_w5 cI cZ u2) ++ gc_w3 cI cZ u3) ++ gc_w3 cI cZ u4) ++ gc_w1 cI cZ u5) ++ gc_w6 cI cZ u6) ++ gc_w7 cI cZ u7) ++ gc_w10 cI cZ u8) ++ gc_w2 cI cZ u9)) := hD
  refine gc_sub C hP hD hS hA hl (gc_c0 l D cI cZ) 10 75 77 78 (by decide) (N2 := 3) (by decide +kernel) gz0 gm0_1 gm0_2 gm0_3 gm0_4 gm0_5 gm0_6 (Nat.le_of_ble_eq_true rfl) (Nat.le_of_ble_eq_true rfl) ⟨Nat.le_of_ble_eq_true rfl, Nat.le_of_ble_eq_true rfl⟩ (by decide) (by decide +kernel) (by decide +kernel) (by decide +kernel) rfl (Nat.le_of_ble_eq_true rfl) gd11_114 gd11_115 gd11_118 gd11_119 gd11_122 (fun u10 H locs hP hD hS => ?_)
  have hP : va_P D gn_cls ((h0, .inr (11, [.ref (u0 0), .ref (u1 0), .ref (u2 0), .ref (u3 0), .ref (u4 0), .ref (u5 0), .ref (u6 0), .ref (u7 0), .ref (u8 0), .ref (u9 0), .ref (u10 0), .null, .null])) :: ((((((((((([] ++ gc_w8 cI cZ u0) ++ gc_w4 cI cZ u1) ++ gc_w5 cI cZ u2) ++ gc_w3 cI cZ u3) ++ gc_w3 cI cZ u4) ++ gc_w1 cI cZ u5) ++ gc_w6 cI cZ u6) ++ gc_w7 cI cZ u7) ++ gc_w10 cI cZ u8) ++ gc_w2 cI cZ u9) ++ gc_w0 cI cZ u10)) H := hP
  have hD : va_D A ((h0, .inr (11, [.ref (u0 0), .ref (u1 0), .ref (u2 0), .ref (u3 0), .ref (u4 0), .ref (u5 0), .ref (u6 0), .ref (u7 0), .ref (u8 0), .ref (u9 0), .ref (u10 0), .null, .null])) :: ((((((((((([] ++ gc_w8 cI cZ u0) ++ gc_w4 cI cZ u1) ++ gc_w5 cI cZ u2) ++ gc_w3 cI cZ u3) ++ gc_w3 cI cZ u4) ++ gc_w1 cI cZ u5) ++ gc_w6 cI cZ u6) ++ gc_w7 cI cZ u7) ++ gc_w10 cI cZ u8) ++ gc_w2 cI cZ u9) ++ gc_w0 cI cZ u10)) := hD
  refine gc_sub C hP hD hS hA hl (gc_c9 l D cI cZ) 11 82 84 85 (by decide) (N2 := 11) (by decide +kernel) gz9 gm9_1 gm9_2 gm9_3 gm9_4 gm9_5 gm9_6 (Nat.le_of_ble_eq_true rfl) (Nat.le_of_ble_eq_true rfl) ⟨Nat.le_of_ble_eq_true rfl, Nat.le_of_ble_eq_true rfl⟩ (by decide) (by decide +kernel) (by decide +kernel) (by decide +kernel) rfl (Nat.le_of_ble_eq_true rfl) gd11_125 gd11_126 gd11_129 gd11_130 gd11_133 (fun u11 H locs hP hD hS => ?_)
  have hP : va_P D gn_cls ((h0, .inr (11, [.ref (u0 0), .ref (u1 0), .ref (u2 0), .ref (u3 0), .ref (u4 0), .ref (u5 0), .ref (u6 0), .ref (u7 0), .ref (u8 0), .ref (u9 0), .ref (u10 0), .ref (u11 0), .null])) :: (((((((((((([] ++ gc_w8 cI cZ u0) ++ gc_w4 cI cZ u1) ++ gc_w5 cI cZ u2) ++ gc_w3 cI cZ u3) ++ gc_w3 cI cZ u4) ++ gc_w1 cI cZ u5) ++ gc_w6 cI cZ u6) ++ gc_w7 cI cZ u7) ++ gc_w10 cI cZ u8) ++ gc_w2 cI cZ u9) ++ gc_w0 cI cZ u10) ++ gc_w9 cI cZ u11)) H := hP
  have hD : va_D A ((h0, .inr (11, [.ref (u0 0), .ref (u1 0), .ref (u2 0), .ref (u3 0), .ref (u4 0), .ref (u5 0), .ref (u6 0), .ref (u7 0), .ref (u8 0), .ref (u9 0), .ref (u10 0), .ref (u11 0), .null])) :: (((((((((((([] ++ gc_w8 cI cZ u0) ++ gc_w4 cI cZ u1) ++ gc_w5 cI cZ u2) ++ gc_w3 cI cZ u3) ++ gc_w3 cI cZ u4) ++ gc_w1 cI cZ u5) ++ gc_w6 cI cZ u6) ++ gc_w7 cI cZ u7) ++ gc_w10 cI cZ u8) ++ gc_w2 cI cZ u9) ++ gc_w0 cI cZ u10) ++ gc_w9 cI cZ u11)) := hD
  refine gc_sub C hP hD hS hA hl (gc_c9 l D cI cZ) 12 82 84 89 (by decide) (N2 := 11) (by decide +kernel) gz9 gm9_1 gm9_2 gm9_3 gm9_4 gm9_5 gm9_6 (Nat.le_of_ble_eq_true rfl) (Nat.le_of_ble_eq_true rfl) ⟨Nat.le_of_ble_eq_true rfl, Nat.le_of_ble_eq_true rfl⟩ (by decide) (by decide +kernel) (by decide +kernel) (by decide +kernel) rfl (Nat.le_of_ble_eq_true rfl) gd11_136 gd11_137 gd11_140 gd11_141 gd11_144 (fun u12 H locs hP hD hS => ?_)
  have hP : va_P D gn_cls ((h0, .inr (11, [.ref (u0 0), .ref (u1 0), .ref (u2 0), .ref (u3 0), .ref (u4 0), .ref (u5 0), .ref (u6 0), .ref (u7 0), .ref (u8 0), .ref (u9 0), .ref (u10 0), .ref (u11 0), .ref (u12 0)])) :: ((((((((((((([] ++ gc_w8 cI cZ u0) ++ gc_w4 cI cZ u1) ++ gc_w5 cI cZ u2) ++ gc_w3 cI cZ u3) ++ gc_w3 cI cZ u4) ++ gc_w1 cI cZ u5) ++ gc_w6 cI cZ u6) ++ gc_w7 cI cZ u7) ++ gc_w10 cI cZ u8) ++ gc_w2 cI cZ u9) ++ gc_w0 cI cZ u10) ++ gc_w9 cI cZ u11) ++ gc_w9 cI cZ u12)) H := hP
  have hD : va_D A ((h0, .inr (11, [.ref (u0 0), .ref (u1 0), .ref (u2 0), .ref (u3 0), .ref (u4 0), .ref (u5 0), .ref (u6 0), .ref (u7 0), .ref (u8 0), .ref (u9 0), .ref (u10 0), .ref (u11 0), .ref (u12 0)])) :: ((((((((((((([] ++ gc_w8 cI cZ u0) ++ gc_w4 cI cZ u1) ++ gc_w5 cI cZ u2) ++ gc_w3 cI cZ u3) ++ gc_w3 cI cZ u4) ++ gc_w1 cI cZ u5) ++ gc_w6 cI cZ u6) ++ gc_w7 cI cZ u7) ++ gc_w10 cI cZ u8) ++ gc_w2 cI cZ u9) ++ gc_w0 cI cZ u10) ++ gc_w9 cI cZ u11) ++ gc_w9 cI cZ u12)) := hD
  have e : ((h0, .inr (11, [.ref (u0 0), .ref (u1 0), .ref (u2 0), .ref (u3 0), .ref (u4 0), .ref (u5 0), .ref (u6 0), .ref (u7 0), .ref (u8 0), .ref (u9 0), .ref (u10 0), .ref (u11 0), .ref (u12 0)])) :: ((((((((((((([] ++ gc_w8 cI cZ u0) ++ gc_w4 cI cZ u1) ++ gc_w5 cI cZ u2) ++ gc_w3 cI cZ u3) ++ gc_w3 cI cZ u4) ++ gc_w1 cI cZ u5) ++ gc_w6 cI cZ u6) ++ gc_w7 cI cZ u7) ++ gc_w10 cI cZ u8) ++ gc_w2 cI cZ u9) ++ gc_w0 cI cZ u10) ++ gc_w9 cI cZ u11) ++ gc_w9 cI cZ u12)) = gc_w11 cI cZ (fun o => [h0, u0 0, u0 1, u1 0, u1 1, u2 0, u2 1, u3 0, u3 1, u4 0, u4 1, u5 0, u6 0, u7 0, u7 1, u7 2, u7 3, u7 4, u7 5, u8 0, u8 1, u8 2, u9 0, u9 1, u9 2, u10 0, u10 1, u10 2, u11 0, u11 1, u11 2, u11 3, u11 4, u11 5, u11 6, u11 7, u12 0, u12 1, u12 2, u12 3, u12 4, u12 5, u12 6, u12 7].getD o 0) := rfl
  rw [e] at hP hD
  exact W.vret hx hb hr (fun t ht hW => ⟨⟨fun o => [h0, u0 0, u0 1, u1 0, u1 1, u2 0, u2 1, u3 0, u3 1, u4 0, u4 1, u5 0, u6 0, u7 0, u7 1, u7 2, u7 3, u7 4, u7 5, u8 0, u8 1, u8 2, u9 0, u9 1, u9 2, u10 0, u10 1, u10 2, u11 0, u11 1, u11 2, u11 3, u11 4, u11 5, u11 6, u11 7, u12 0, u12 1, u12 2, u12 3, u12 4, u12 5, u12 6, u12 7].getD o 0, rfl, rfl, by rw [ht]; exact hP, hD⟩, hS.F ht⟩) hS.2.2 gd11_147 hlk
