/-! the law's loop: printed by wip/whole/gen/lawg.py -/
theorem gl_lt {L i : Nat} (hL : L ≤ 2048) (hi : i ≤ L) (h : ¬ nI L - 4 < nI i) : i + 4 ≤ L := by
  by_cases h4 : L < 4
  · have h5 : ∀ L, L < 4 → ∀ i, i < 4 → nI L - 4 < nI i := by decide +kernel
    exact absurd (h5 L h4 i (by omega)) h
  · obtain ⟨a, rfl⟩ : ∃ a, L = a + 4 := ⟨L - 4, by omega⟩
    have e : nI (a + 4) - 4 = nI a := by
      rw [← nI_add, show nI 4 = 4 by decide +kernel, Int32.add_sub_cancel]
    rw [e, nI_ltI (by omega) (by omega)] at h
    omega
section
variable {l : Launch} {D : va_G} {cI cZ : ClassId} {p : Program} {e : Env} {s : State} {m : MethodId} {below : List Frame} {meth : Method} {c : Code} {b L : Nat} {xs : Nat → Int32}
set_option maxHeartbeats 4000000 in
set_option maxRecDepth 100000 in
theorem gl_loop (hL : L ≤ 2048) (C : lw_At p s m meth c b L xs) (hK : va_K D gn_cls [(cI, .int), (cZ, .boolean)] s) (hN : ∀ w ∈ gn_nst, va_Nw w s) : ∀ (n i : Nat), i ≤ L → L + 1 ≤ i + n → ∀ (ad : Nat → Nat) (σ : gn_Mem) (H : Heap) (locs : List Loc), Inv σ → va_P D gn_cls (gn_ws cI cZ ad σ) H → va_D (fun q => s.heap.size ≤ q) (gn_ws cI cZ ad σ) → va_S (fun q => s.heap.size ≤ q) s.heap H locs → ∀ ls : Array Slot, lv_has ls 4 [(0, .ref b), (1, .ref (ad 0)), (2, .ref (ad 44)), (3, .int (nI i))] → W p l e room_1 s m #[Value.ref b] below meth c H locs 600000 7302249 (lw_Z below #[Value.ref b] s) (F0 m 18 ls []) := by
  obtain ⟨hx, hb, hr, hml, hown, hts, hX, hbl, hlocks, hgv⟩ := id C
  have hbA : ¬ (fun q : Nat => s.heap.size ≤ q) b := Nat.not_le.mpr hbl
  intro n
  induction n with
  | zero =>
    intro i h1 h2
    exact absurd h2 (by omega)
  | succ n ih =>
    intro i hi hin ad σ H locs hI hP hD hS ls hl
    refine lv_iload_n hx hb gk_18 rfl (lv_at hl 3 rfl) ?_
    refine lv_aload_n hx hb gk_19 rfl (lv_at hl 0 rfl) ?_
    refine va_slen hx hb hX hbl hbA hS gk_20 ?_
    refine lv_iconst (v := 4) hx hb gk_21 (by decide) ?_
    refine lv_isub hx hb gk_22 ?_
    refine lv_icmp_gt (tgt := 1024) hx hb gk_23 (by decide) (fun _ => ?_) (fun hlt => ?_)
    · refine lv_iconst (v := 1) hx hb gk_1024 (by decide) ?_
      refine va_forget (fun q hq => hS.2.2 q hq) ?_
      exact lw_ret hx hb hr hlocks gk_1025
    · have hi4 : i + 4 ≤ L := gl_lt hL hi hlt
      have next : ∀ (σ2 : gn_Mem) (H1 : Heap) (locs1 : List Loc), (Inv σ2 ∨ Inv (swp σ2)) → va_P D gn_cls (gn_ws cI cZ ad σ2) H1 → va_D (fun q => s.heap.size ≤ q) (gn_ws cI cZ ad σ2) → va_S (fun q => s.heap.size ≤ q) s.heap H1 locs1 → W p l e room_1 s m #[Value.ref b] below meth c H1 locs1 600000 7302249 (lw_Z below #[Value.ref b] s) (F0 m 1018 ls []) := by
        intro σ2 H1 locs1 hI2 p1 p2 p3
        refine lv_iinc (v := nI (i + 4)) (lv' := [(3, .int (nI (i + 4))), (0, .ref b), (1, .ref (ad 0)), (2, .ref (ad 44))]) hx hb gk_1018 hl (k := 3) rfl (by rw [show Int32.ofInt 4 = nI 4 by decide +kernel, nI_add]) (by decide) rfl (fun ls hl => ?_)
        refine lv_goto (tgt := 18) hx hb gk_1021 (by decide) ?_
        rcases hI2 with h | h
        · exact ih (i + 4) hi4 (by omega) ad σ2 H1 locs1 h p1 p2 p3 ls (lv_sub hl [1, 2, 3, 0] rfl)
        · refine ih (i + 4) hi4 (by omega) (fun o => ad (sw o)) (swp σ2) H1 locs1 h (gl_P_sw p1) (gl_D_sw p2) p3 ls ?_
          show lv_has ls 4 [(0, .ref b), (1, .ref (ad (sw 0))), (2, .ref (ad (sw 44))), (3, .int (nI (i + 4)))]
          rw [show sw 0 = 0 by decide, show sw 44 = 44 by decide]
          exact lv_sub hl [1, 2, 3, 0] rfl
      refine lv_aload_n hx hb gk_26 rfl (lv_at hl 0 rfl) ?_
      refine lv_iload_n hx hb gk_27 rfl (lv_at hl 3 rfl) ?_
      refine va_sld hx hb hX hbl hbA hS (vp_in_nI (show i < L by omega) (by omega)) gk_28 ?_
      rw [nI_clamp (by omega)]
      refine lv_bipush (v := 31) hx hb gk_29 (by decide) ?_
      refine lv_iand hx hb gk_31 ?_
      obtain ⟨k, hk, ek⟩ := pk_andE (xs i) (m := 31) 5 (by decide)
      rw [ek]
      clear ek hlt hin
      match k, hk with
      | 0, _ =>
        refine lv_tableIn (off := 144) (tgt := 176) hx hb gk_32 (by decide +kernel) (by decide +kernel) (by decide +kernel) (by decide) ?_
        exact gl_k0 C hK hN hL hI hP hD hS hi4 hl next
      | 1, _ =>
        refine lv_tableIn (off := 167) (tgt := 199) hx hb gk_32 (by decide +kernel) (by decide +kernel) (by decide +kernel) (by decide) ?_
        exact gl_k1 C hK hN hL hI hP hD hS hi4 hl next
      | 2, _ =>
        refine lv_tableIn (off := 180) (tgt := 212) hx hb gk_32 (by decide +kernel) (by decide +kernel) (by decide +kernel) (by decide) ?_
        exact gl_k2 C hK hN hL hI hP hD hS hi4 hl next
      | 3, _ =>
        refine lv_tableIn (off := 193) (tgt := 225) hx hb gk_32 (by decide +kernel) (by decide +kernel) (by decide +kernel) (by decide) ?_
        exact gl_k3 C hK hN hL hI hP hD hS hi4 hl next
      | 4, _ =>
        refine lv_tableIn (off := 216) (tgt := 248) hx hb gk_32 (by decide +kernel) (by decide +kernel) (by decide +kernel) (by decide) ?_
        exact gl_k4 C hK hN hL hI hP hD hS hi4 hl next
      | 5, _ =>
        refine lv_tableIn (off := 249) (tgt := 281) hx hb gk_32 (by decide +kernel) (by decide +kernel) (by decide +kernel) (by decide) ?_
        exact gl_k5 C hK hN hL hI hP hD hS hi4 hl next
      | 6, _ =>
        refine lv_tableIn (off := 292) (tgt := 324) hx hb gk_32 (by decide +kernel) (by decide +kernel) (by decide +kernel) (by decide) ?_
        exact gl_k6 C hK hN hL hI hP hD hS hi4 hl next
      | 7, _ =>
        refine lv_tableIn (off := 325) (tgt := 357) hx hb gk_32 (by decide +kernel) (by decide +kernel) (by decide +kernel) (by decide) ?_
        exact gl_k7 C hK hN hL hI hP hD hS hi4 hl next
      | 8, _ =>
        refine lv_tableIn (off := 348) (tgt := 380) hx hb gk_32 (by decide +kernel) (by decide +kernel) (by decide +kernel) (by decide) ?_
        exact gl_k8 C hK hN hL hI hP hD hS hi4 hl next
      | 9, _ =>
        refine lv_tableIn (off := 381) (tgt := 413) hx hb gk_32 (by decide +kernel) (by decide +kernel) (by decide +kernel) (by decide) ?_
        exact gl_k9 C hK hN hL hI hP hD hS hi4 hl next
      | 10, _ =>
        refine lv_tableIn (off := 414) (tgt := 446) hx hb gk_32 (by decide +kernel) (by decide +kernel) (by decide +kernel) (by decide) ?_
        exact gl_k10 C hK hN hL hI hP hD hS hi4 hl next
      | 11, _ =>
        refine lv_tableIn (off := 437) (tgt := 469) hx hb gk_32 (by decide +kernel) (by decide +kernel) (by decide +kernel) (by decide) ?_
        exact gl_k11 C hK hN hL hI hP hD hS hi4 hl next
      | 12, _ =>
        refine lv_tableIn (off := 460) (tgt := 492) hx hb gk_32 (by decide +kernel) (by decide +kernel) (by decide +kernel) (by decide) ?_
        exact gl_k12 C hK hN hL hI hP hD hS hi4 hl next
      | 13, _ =>
        refine lv_tableIn (off := 473) (tgt := 505) hx hb gk_32 (by decide +kernel) (by decide +kernel) (by decide +kernel) (by decide) ?_
        exact gl_k13 C hK hN hL hI hP hD hS hi4 hl next
      | 14, _ =>
        refine lv_tableIn (off := 496) (tgt := 528) hx hb gk_32 (by decide +kernel) (by decide +kernel) (by decide +kernel) (by decide) ?_
        exact gl_k14 C hK hN hL hI hP hD hS hi4 hl next
      | 15, _ =>
        refine lv_tableIn (off := 519) (tgt := 551) hx hb gk_32 (by decide +kernel) (by decide +kernel) (by decide +kernel) (by decide) ?_
        exact gl_k15 C hK hN hL hI hP hD hS hi4 hl next
      | 16, _ =>
        refine lv_tableIn (off := 562) (tgt := 594) hx hb gk_32 (by decide +kernel) (by decide +kernel) (by decide +kernel) (by decide) ?_
        exact gl_k16 C hK hN hL hI hP hD hS hi4 hl next
      | 17, _ =>
        refine lv_tableIn (off := 595) (tgt := 627) hx hb gk_32 (by decide +kernel) (by decide +kernel) (by decide +kernel) (by decide) ?_
        exact gl_k17 C hK hN hL hI hP hD hS hi4 hl next
      | 18, _ =>
        refine lv_tableIn (off := 618) (tgt := 650) hx hb gk_32 (by decide +kernel) (by decide +kernel) (by decide +kernel) (by decide) ?_
        exact gl_k18 C hK hN hL hI hP hD hS hi4 hl next
      | 19, _ =>
        refine lv_tableIn (off := 651) (tgt := 683) hx hb gk_32 (by decide +kernel) (by decide +kernel) (by decide +kernel) (by decide) ?_
        exact gl_k19 C hK hN hL hI hP hD hS hi4 hl next
      | 20, _ =>
        refine lv_tableIn (off := 694) (tgt := 726) hx hb gk_32 (by decide +kernel) (by decide +kernel) (by decide +kernel) (by decide) ?_
        exact gl_k20 C hK hN hL hI hP hD hS hi4 hl next
      | 21, _ =>
        refine lv_tableIn (off := 727) (tgt := 759) hx hb gk_32 (by decide +kernel) (by decide +kernel) (by decide +kernel) (by decide) ?_
        exact gl_k21 C hK hN hL hI hP hD hS hi4 hl next
      | 22, _ =>
        refine lv_tableIn (off := 750) (tgt := 782) hx hb gk_32 (by decide +kernel) (by decide +kernel) (by decide +kernel) (by decide) ?_
        exact gl_k22 C hK hN hL hI hP hD hS hi4 hl next
      | 23, _ =>
        refine lv_tableIn (off := 783) (tgt := 815) hx hb gk_32 (by decide +kernel) (by decide +kernel) (by decide +kernel) (by decide) ?_
        exact gl_k23 C hK hN hL hI hP hD hS hi4 hl next
      | 24, _ =>
        refine lv_tableIn (off := 832) (tgt := 864) hx hb gk_32 (by decide +kernel) (by decide +kernel) (by decide +kernel) (by decide) ?_
        exact gl_k24 C hK hN hL hI hP hD hS hi4 hl next
      | 25, _ =>
        refine lv_tableIn (off := 845) (tgt := 877) hx hb gk_32 (by decide +kernel) (by decide +kernel) (by decide +kernel) (by decide) ?_
        exact gl_k25 C hK hN hL hI hP hD hS hi4 hl next
      | 26, _ =>
        refine lv_tableIn (off := 858) (tgt := 890) hx hb gk_32 (by decide +kernel) (by decide +kernel) (by decide +kernel) (by decide) ?_
        exact gl_k26 C hK hN hL hI hP hD hS hi4 hl next
      | 27, _ =>
        refine lv_tableIn (off := 891) (tgt := 923) hx hb gk_32 (by decide +kernel) (by decide +kernel) (by decide +kernel) (by decide) ?_
        exact gl_k27 C hK hN hL hI hP hD hS hi4 hl next
      | 28, _ =>
        refine lv_tableIn (off := 904) (tgt := 936) hx hb gk_32 (by decide +kernel) (by decide +kernel) (by decide +kernel) (by decide) ?_
        exact gl_k28 C hK hN hL hI hP hD hS hi4 hl next
      | 29, _ =>
        refine lv_tableIn (off := 917) (tgt := 949) hx hb gk_32 (by decide +kernel) (by decide +kernel) (by decide +kernel) (by decide) ?_
        exact gl_k29 C hK hN hL hI hP hD hS hi4 hl next
      | 30, _ =>
        refine lv_tableIn (off := 940) (tgt := 972) hx hb gk_32 (by decide +kernel) (by decide +kernel) (by decide +kernel) (by decide) ?_
        exact gl_k30 C hK hN hL hI hP hD hS hi4 hl next
      | 31, _ =>
        refine lv_tableIn (off := 963) (tgt := 995) hx hb gk_32 (by decide +kernel) (by decide +kernel) (by decide +kernel) (by decide) ?_
        exact gl_k31 C hK hN hL hI hP hD hS hi4 hl next
      | k + 32, h => exact absurd h (by omega)
end
