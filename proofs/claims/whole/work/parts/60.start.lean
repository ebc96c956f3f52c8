/-! the law, from its entry -/
theorem gl_inst (q : Nat) (hq : q < 13) : ∃ n, Cond.instantiable (gn_nm q) n ∈ lw_tbl := by
  match q, hq with
  | 0, _ => exact ⟨_, gm0_2⟩
  | 1, _ => exact ⟨_, gm1_2⟩
  | 2, _ => exact ⟨_, gm2_2⟩
  | 3, _ => exact ⟨_, gm3_2⟩
  | 4, _ => exact ⟨_, gm4_2⟩
  | 5, _ => exact ⟨_, gm5_2⟩
  | 6, _ => exact ⟨_, gm6_2⟩
  | 7, _ => exact ⟨_, gm7_2⟩
  | 8, _ => exact ⟨_, gm8_2⟩
  | 9, _ => exact ⟨_, gm9_2⟩
  | 10, _ => exact ⟨_, gm10_2⟩
  | 11, _ => exact ⟨_, gm11_2⟩
  | 12, _ => exact ⟨_, gm12_2⟩
  | q + 13, h => exact absurd h (by omega)
theorem gl_cls_len : gn_cls.length = 13 := rfl
theorem gl_known {b : Nat} {s : State} (hts : ∀ w ∈ lw_tbl, w.before #[Value.ref b] s = true) : ∃ (D : va_G) (cI cZ : ClassId), va_K D gn_cls [(cI, .int), (cZ, .boolean)] s := by
  have hts' : ∀ w ∈ gn_tbl, w.before #[Value.ref b] s = true := fun w hw => hts w (List.mem_filter.mp hw).1
  obtain ⟨cI, kI, compI, i1, i2, i3⟩ := Cond.arrayClass_spec (hts _ gc_arrI)
  obtain ⟨cZ, kZ, compZ, z1, z2, z3⟩ := Cond.arrayClass_spec (hts _ gc_arrZ)
  have h : ∀ k : Nat, ∃ (cC : ClassId) (iS : Nat → Nat), ∀ q : vw_C, gn_cls[k]? = some q → u_Kn s q.1 q.2.1 q.2.2 cC iS := by
    intro k
    by_cases hk : k < 13
    · obtain ⟨Cn, N, hc, hNe⟩ := gn_cls_at hk
      have hCn : Cn = gn_nm k := by
        have h2 := gn_cls_n k hk
        simp only [List.getD, hc, Option.getD_some] at h2
        exact h2
      subst hCn
      obtain ⟨n, hn⟩ := gl_inst k hk
      obtain ⟨cC, iS, h⟩ := u_known (C := gn_nm k) (T := gn_Tf k) (N := N) hts' (gn_lays_of hc) (hts _ hn)
      refine ⟨cC, iS, fun q hq => ?_⟩
      rw [hc] at hq
      cases hq
      exact h
    · refine ⟨cI, fun _ => 0, fun q hq => ?_⟩
      have h9 := (List.getElem?_eq_some_iff.mp hq).1
      rw [gl_cls_len] at h9
      exact absurd h9 hk
  obtain ⟨dC, h⟩ := Classical.skolem.mp h
  obtain ⟨dI, h⟩ := Classical.skolem.mp h
  refine ⟨(dC, dI), cI, cZ, fun c q hq => h c q hq, fun k q hq => ?_⟩
  match k, hq with
  | 0, hq => cases hq; exact ⟨fun n z => ⟨fun k h => (by cases h), kI, i2, compI, i3⟩, i1⟩
  | 1, hq => cases hq; exact ⟨fun n z => ⟨fun k h => (by cases h), kZ, z2, compZ, z3⟩, z1⟩
  | k + 2, hq => simp at hq
section
variable {l : Launch} {D : va_G} {cI cZ : ClassId} {p : Program} {e : Env} {s : State} {m : MethodId} {below : List Frame} {meth : Method} {c : Code} {H : Heap} {locs : List Loc} {cells slots pc : Nat} {Q : State → Prop} {ls : Array Slot} {ws : va_W} {b L : Nat} {xs : Nat → Int32}
theorem gl_make (C : lw_At p s m meth c b L xs) (hK : va_K D gn_cls [(cI, .int), (cZ, .boolean)] s) (hN : ∀ w ∈ gn_nst, va_Nw w s) (hP : va_P D gn_cls ws H) (hD : va_D (fun q => s.heap.size ≤ q) ws) (hS : va_S (fun q => s.heap.size ≤ q) s.heap H locs) (hls : ls.size = 4) {q2 N2 : Nat} {fs2 : List Value} {by2 : ByteArray} {mc ms fr lo : Nat} {Wf : (Nat → Nat) → va_W} (hM : gc_Met l D cI cZ q2 fs2 by2 mc ms fr lo Wf) (i1 i2 : Nat) (hq2 : q2 < 13) (hN2 : N2 = (gn_cls.getD q2 ("", gn_T0, 0)).2.2) (hfs2 : ∀ j, j < N2 → defaultValue ((gn_tys.getD q2 gn_ty0) j) = vp_V fs2 j)
    (w1 : Cond.classLink R_law i1 (gn_nm q2) ∈ lw_tbl) (w2 : Cond.instantiable (gn_nm q2) N2 ∈ lw_tbl) (w3 : Cond.initialized (gn_nm q2) ∈ lw_tbl) (w4 : Cond.methodLink R_law i2 ⟨gn_nm q2, "<init>", "()V"⟩ ∈ lw_tbl) (w5 : Cond.instanceMethod ⟨gn_nm q2, "<init>", "()V"⟩ ∈ lw_tbl) (w6 : Cond.code ⟨gn_nm q2, "<init>", "()V"⟩ by2 1 none ∈ lw_tbl)
    (hcl : cells + 1 + mc ≤ room_1.cells) (hsl : slots + N2 + ms ≤ room_1.slots) (hR : fr + 1 ≤ room_1.frames ∧ 8 + (1 + 11) + lo ≤ room_1.locals) (hnm : gn_nm q2 ≠ "java/lang/invoke/MethodHandle" ∧ gn_nm q2 ≠ "java/lang/invoke/VarHandle")
    (e1 : decode code pc = .ok (.new i1, 3)) (e2 : decode code (pc + 3) = .ok (.dup, 1)) (e3 : decode code (pc + 3 + 1) = .ok (.invokespecial i2, 3))
    (kk : ∀ (u : Nat → Nat) (H1 : Heap) (locs1 : List Loc), va_P D gn_cls (ws ++ Wf u) H1 → va_D (fun q => s.heap.size ≤ q) (ws ++ Wf u) → va_S (fun q => s.heap.size ≤ q) s.heap H1 locs1 → W p l e room_1 s m #[Value.ref b] below meth c H1 locs1 (cells + 1 + mc) (slots + N2 + ms) Q (F0 m (pc + 3 + 1 + 3) ls [.ref (u 0)])) : W p l e room_1 s m #[Value.ref b] below meth c H locs cells slots Q (F0 m pc ls []) := by
  obtain ⟨hx, hb, hr, hml, hown, hts, hX, hbl, hlocks, hgv⟩ := id C
  have hA : ∀ q : Nat, s.heap.size ≤ q → (fun q : Nat => s.heap.size ≤ q) q := fun _ h => h
  obtain ⟨Cn, N, hc, hNe⟩ := gn_cls_at hq2
  have hCn : Cn = gn_nm q2 := by
    have h2 := gn_cls_n q2 hq2
    simp only [List.getD, hc, Option.getD_some] at h2
    exact h2
  have hNN : N = N2 := hNe.trans hN2.symm
  subst hCn
  subst hNN
  refine va_new (D := D) (ci := q2) (fs := fs2) hx hb hts (fun w hw => (List.mem_filter.mp (gn_lays_of hc w hw)).1) (gn_tys.getD q2 gn_ty0) (gn_cls_ok q2 hq2 _ _ _ hc) hown (hts _ w1) (hts _ w2) (hts _ w3) hK hP hD hS hA hc hfs2 (by omega) (by omega) e1 (fun a H hP hD hS => ?_)
  refine lv_dup hx hb e2 rfl ?_
  have hPr := gc_Pr hP
  have hDr := gc_Dr hD
  have hF := gc_free hDr hS hA
  have hG : GoodIn lw_tbl (.code ⟨gn_nm q2, "<init>", "()V"⟩ by2 1 none :: gn_tbl) := by
    intro w hw
    rcases List.mem_cons.mp hw with rfl | hw
    · exact ⟨w6, good_of_word rfl⟩
    · exact ⟨(List.mem_filter.mp hw).1, gn_tbl_good hw⟩
  refine va_callv (va_runI (As := []) (rest := [.ref a]) (nL := 4) ⟨hx, hb, hml, hown, hts⟩ (hM a H.size) (cwI 0 hts hG rfl rfl rfl (hts _ w3) (hts _ w4) (hts _ w5) rfl ⟨hnm.1, hnm.2, show (parseMethodDescriptor "()V").map (fun d => d.parameters.length) = some 0 from by decide +kernel⟩ hR) ⟨gc_blind, fun U hU hW => ⟨rfl, by rw [hU], by rw [hU]; exact hPr, va_K.moved hW.alike hK, hDr.weaken (fun _ _ _ _ => trivial), fun w hw => gn_nst_warm hw hW (hN w hw)⟩⟩ rfl rfl hls rfl (lv_room (Nat.le_of_ble_eq_true rfl)) e3 ⟨hcl, hsl⟩) hS (fun q _ h => hF q h) hF (fun u t H1 locs ht hvm hw hB hz1 hk1 hS => ?_)
  obtain ⟨hP1, hD1⟩ := hB
  rw [ht] at hP1
  obtain ⟨hP, hD⟩ := gc_join hP hD hk1 hF hP1 hD1
  have hw : u 0 = a := hw
  rw [← hw]
  exact kk u H1 locs hP hD hS
end
set_option maxRecDepth 100000 in
/-- YOUR PART: from the entry, for every script of at most 2048 ints, the law comes to its end with true -/
theorem whole_start {p : Program} {e : Env} {s : State} {m : MethodId} {below : List Frame} {meth : Method} {c : Code} (l : Launch) {b L : Nat} {xs : Nat → Int32} (hL : L ≤ 2048) (C0 : lw_At p s m meth c b L xs) : W p l e room_1 s m #[Value.ref b] below meth c s.heap [] 0 0 (lw_Z below #[Value.ref b] s) (entryFrame m ([Value.ref b] : List Value).toArray 4) := by
  obtain ⟨hx, hb, hr, hml, hown, hts, hX, hbl, hlocks, hgv⟩ := id C0
  obtain ⟨D, cI, cZ, hK⟩ := gl_known hts
  have hN : ∀ w ∈ gn_nst, va_Nw w s := fun w hw => by
    have h1 := List.mem_filter.mp hw
    have h3 := hts w h1.1
    have h2 := h1.2
    cases w <;> first | (cases h2; done) | exact va_Nw.of rfl h3
  have hP : va_P D gn_cls [] s.heap := fun k q h => by simp at h
  have hD : va_D (fun q : Nat => s.heap.size ≤ q) [] := ⟨fun i j p q h => by simp at h, fun k q h => by simp at h⟩
  have hl := lv_entry ([.ref b]) (n := 4) (Nat.le_of_ble_eq_true rfl)
  rw [lg_entry_eq]
  generalize (lg_sl ([.ref b]) ++ List.replicate (4 - (lg_sl ([.ref b])).length) Slot.unset).toArray = ls at hl ⊢
  have hl : lv_has ls 4 [(0, .ref b)] := hl
  refine gl_make C0 hK hN hP hD va_S.rf hl.1 (gc_c11 l D cI cZ) 7 9 (by decide) (N2 := 13) (by decide +kernel) gz11 gm11_1 gm11_2 gm11_3 gm11_4 gm11_5 gm11_6 (Nat.le_of_ble_eq_true rfl) (Nat.le_of_ble_eq_true rfl) ⟨Nat.le_of_ble_eq_true rfl, Nat.le_of_ble_eq_true rfl⟩ (by decide) gk_0 gk_3 gk_4 (fun u H locs hP hD hS => ?_)
  refine lv_astore_n (lv' := [(1, .ref (u 0)), (0, .ref b)]) hx hb gk_7 rfl hl (by decide) rfl (fun ls hl => ?_)
  refine gl_make C0 hK hN hP hD hS hl.1 (gc_c12 l D cI cZ) 10 12 (by decide) (N2 := 35) (by decide +kernel) gz12 gm12_1 gm12_2 gm12_3 gm12_4 gm12_5 gm12_6 (Nat.le_of_ble_eq_true rfl) (Nat.le_of_ble_eq_true rfl) ⟨Nat.le_of_ble_eq_true rfl, Nat.le_of_ble_eq_true rfl⟩ (by decide) gk_8 gk_11 gk_12 (fun v H locs hP hD hS => ?_)
  refine lv_astore_n (lv' := [(2, .ref (v 0)), (1, .ref (u 0)), (0, .ref b)]) hx hb gk_15 rfl hl (by decide) rfl (fun ls hl => ?_)
  refine lv_iconst (v := 0) hx hb gk_16 (by decide) ?_
  refine lv_istore_n (lv' := [(3, .int 0), (2, .ref (v 0)), (1, .ref (u 0)), (0, .ref b)]) hx hb gk_17 rfl hl (by decide) rfl (fun ls hl => ?_)
  refine W.widen (k := 600000) (n := 7302249) (Nat.le_of_ble_eq_true rfl) (Nat.le_of_ble_eq_true rfl) ?_
  have e : ([] ++ gc_w11 cI cZ u) ++ gc_w12 cI cZ v = gn_ws cI cZ (fun o => bif Nat.blt o 44 then u o else v (o - 44)) gS0 := by
    rw [List.nil_append]
    exact (gl_ws0 cI cZ u v).symm
  rw [e] at hP hD
  refine gl_loop hL C0 hK hN (L + 1) 0 (Nat.zero_le L) (by omega) _ gS0 H locs gl_inv hP hD hS ls ?_
  rw [nI_0]
  exact lv_sub hl [3, 2, 1, 0] rfl
