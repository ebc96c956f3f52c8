/-! write, feed -/
theorem p_write {σ : gn_Mem} (hI : Inv σ) (g h : Int32) : gPair 118 198 [.int g, .int h] σ := by
  obtain ⟨D, A, c, nx, B, z, I, e, T, Z, b, G, H, n, L, hT, hN, hS, hP, hII, hE, hB, hX, hF⟩ := id hI
  have hd := hT.1
  have hle := hT.2.2.1.1.1
  have hhe := hT.2.2.1.1.2.1
  have hb20 := hB.1
  by_cases hg : ¬ g < 0 ∧ ¬ nI (dG D) ≤ g
  · obtain ⟨j, hj, rfl⟩ := in_of (by omega) hg
    by_cases hh : h = -1 ∨ (¬ h < 0 ∧ ¬ nI (dH D) ≤ h)
    · have kx : ∀ Q : Option Value → gn_Mem → Prop, gn_W 20 118 30 [.ref 0, .int (nI j), .int h] [] σ Q → gn_W 20 118 0 [.ref 0, .int (nI j), .int h] [] σ Q := by
        intro Q hQ
        (repeat (first | refine gx_run 999 80 rfl ?_ | refine gx_goto rfl rfl ?_))
        rw [hd]
        refine gx_call rfl rfl rfl ?_
        refine xw_isG hT.2.2.1 ?_
        rw [gb_t hg]
        (repeat (first | refine gx_run 999 80 rfl ?_ | refine gx_goto rfl rfl ?_))
        first | refine gx_iff rfl (by dsimp only [gn_cmp] <;> decide) ?_ | refine gx_icf rfl (by dsimp only [gn_cmp] <;> decide) ?_
        (repeat (first | refine gx_run 999 80 rfl ?_ | refine gx_goto rfl rfl ?_))
        rcases hh with h1 | h1
        · first | refine gx_ift rfl (h1) ?_ | refine gx_ict rfl (h1) ?_
          exact hQ
        · first | refine gx_iff rfl (fun q => h1.1 (by rw [show h = -1 from q]; decide)) ?_ | refine gx_icf rfl (fun q => h1.1 (by rw [show h = -1 from q]; decide)) ?_
          (repeat (first | refine gx_run 999 80 rfl ?_ | refine gx_goto rfl rfl ?_))
          rw [hd]
          refine gx_call rfl rfl rfl ?_
          refine xw_isH hT.2.2.1 ?_
          rw [gb_t h1]
          (repeat (first | refine gx_run 999 80 rfl ?_ | refine gx_goto rfl rfl ?_))
          first | refine gx_ift rfl (by dsimp only [gn_cmp] <;> decide) ?_ | refine gx_ict rfl (by dsimp only [gn_cmp] <;> decide) ?_
          exact hQ
      have km : ∀ (σ1 : gn_Mem) (Q : Option Value → gn_Mem → Prop), gM σ1 D → gn_W 20 198 24 [.ref 44, .int (nI j), .int h] [] σ1 Q → gn_W 20 198 0 [.ref 44, .int (nI j), .int h] [] σ1 Q := by
        intro σ1 Q hM hQ
        (repeat (first | refine gx_run 999 80 rfl ?_ | refine gx_goto rfl rfl ?_))
        refine gx_call rfl rfl rfl ?_
        refine mw_isG hM ?_
        rw [gb_t hg]
        (repeat (first | refine gx_run 999 80 rfl ?_ | refine gx_goto rfl rfl ?_))
        first | refine gx_iff rfl (by dsimp only [gn_cmp] <;> decide) ?_ | refine gx_icf rfl (by dsimp only [gn_cmp] <;> decide) ?_
        (repeat (first | refine gx_run 999 80 rfl ?_ | refine gx_goto rfl rfl ?_))
        rcases hh with h1 | h1
        · first | refine gx_ift rfl (h1) ?_ | refine gx_ict rfl (h1) ?_
          exact hQ
        · first | refine gx_iff rfl (fun q => h1.1 (by rw [show h = -1 from q]; decide)) ?_ | refine gx_icf rfl (fun q => h1.1 (by rw [show h = -1 from q]; decide)) ?_
          (repeat (first | refine gx_run 999 80 rfl ?_ | refine gx_goto rfl rfl ?_))
          refine gx_call rfl rfl rfl ?_
          refine mw_isH hM ?_
          rw [gb_t h1]
          (repeat (first | refine gx_run 999 80 rfl ?_ | refine gx_goto rfl rfl ?_))
          first | refine gx_ift rfl (by dsimp only [gn_cmp] <;> decide) ?_ | refine gx_ict rfl (by dsimp only [gn_cmp] <;> decide) ?_
          exact hQ
      obtain ⟨u, hu, hue⟩ : ∃ u, u ≤ dH D ∧ h = e1 u := by
        rcases hh with h1 | h1
        · exact ⟨0, by omega, h1⟩
        · obtain ⟨i, hi, rfl⟩ := in_of (by omega) h1
          exact ⟨i + 1, by omega, rfl⟩
      unfold gPair
      refine kx _ ?_
      (repeat (first | refine gx_run 999 80 rfl ?_ | refine gx_goto rfl rfl ?_))
      refine gx_call rfl rfl rfl ?_
      (repeat (first | refine gx_run 999 80 rfl ?_ | refine gx_goto rfl rfl ?_))
      rw [hB.2.1]
      by_cases hbl : b < 20
      · first | refine gx_ift rfl (nI_lt (b := 20) hbl (by omega)) ?_ | refine gx_ict rfl (nI_lt (b := 20) hbl (by omega)) ?_
        (repeat (first | refine gx_run 999 80 rfl ?_ | refine gx_goto rfl rfl ?_))
        refine gx_st b hB.2.1 (by omega) rfl rfl rfl ?_
        (repeat (first | refine gx_run 999 80 rfl ?_ | refine gx_goto rfl rfl ?_))
        refine gx_st b (by show σ 25 2 = nI b; exact hB.2.1) (by omega) rfl rfl rfl ?_
        (repeat (first | refine gx_run 999 80 rfl ?_ | refine gx_goto rfl rfl ?_))
        refine gw_zret rfl (Or.inr rfl) ?_
        (repeat (first | refine gx_run 999 80 rfl ?_ | refine gx_goto rfl rfl ?_))
        first | refine gx_iff rfl (by dsimp only [gn_cmp] <;> decide) ?_ | refine gx_icf rfl (by dsimp only [gn_cmp] <;> decide) ?_
        (repeat (first | refine gx_run 999 80 rfl ?_ | refine gx_goto rfl rfl ?_))
        refine gx_iret rfl rfl ?_
        have ev : gn_up (gn_up σ 26 b (nI j)) 27 b h 25 2 + 1 = nI (b + 1) := by rw [gu_k (by omega), gu_k (by omega), hB.2.1, nI_1]
        rw [ev, gu_s]
        generalize h1 : gn_up (gn_up (gn_up σ 26 b (nI j)) 27 b h) 25 2 (nI (b + 1)) = σ1
        have q1 : ∀ o, o ≠ 25 → o ≠ 26 → o ≠ 27 → σ1 o = σ o := fun o a1 a2 a3 => by rw [← h1, gu_o a1, gu_o a3, gu_o a2]
        have q44 : σ1 44 20 = nI b := by rw [q1 44 (by omega) (by omega) (by omega)]; exact hB.2.2.1
        refine km σ1 _ (gM_fr hT.2.2.2 (fun k _ => by rw [q1 44 (by omega) (by omega) (by omega)]) (fun o a1 a2 => q1 o (by omega) (by omega) (by omega))) ?_
        (repeat (first | refine gx_run 999 80 rfl ?_ | refine gx_goto rfl rfl ?_))
        rw [q44]
        first | refine gx_ift rfl (fun q => absurd q (by rw [show (20 : Int32) = nI 20 from rfl, nI_eq (by omega) (by omega)]; omega)) ?_ | refine gx_ict rfl (fun q => absurd q (by rw [show (20 : Int32) = nI 20 from rfl, nI_eq (by omega) (by omega)]; omega)) ?_
        (repeat (first | refine gx_run 999 80 rfl ?_ | refine gx_goto rfl rfl ?_))
        refine gx_st b q44 (by omega) rfl rfl rfl ?_
        (repeat (first | refine gx_run 999 80 rfl ?_ | refine gx_goto rfl rfl ?_))
        refine gx_st b (by rw [gu_k (by omega)]; exact q44) (by omega) rfl rfl rfl ?_
        (repeat (first | refine gx_run 999 80 rfl ?_ | refine gx_goto rfl rfl ?_))
        refine gx_iret rfl rfl ?_
        have ev2 : gn_up (gn_up σ1 54 b (nI j)) 55 b h 44 20 + 1 = nI (b + 1) := by rw [gu_k (by omega), gu_k (by omega), q44, nI_1]
        rw [ev2, gu_s]
        refine ⟨⟨_, rfl, rfl⟩, ?_⟩
        generalize h2 : gn_up (gn_up (gn_up σ1 54 b (nI j)) 55 b h) 44 20 (nI (b + 1)) = σ2
        have p1 : ∀ o, o ≠ 44 → o ≠ 54 → o ≠ 55 → σ2 o = σ1 o := fun o a1 a2 a3 => by rw [← h2, gu_o a1, gu_o a3, gu_o a2]
        refine Inv.book (b := b + 1) (G := fun i => if i = b then j else G i) (H := fun i => if i = b then u else H i) hT hN hS hP hII hE hX hF (fun o a1 a2 a3 a4 a5 a6 => by rw [p1 o a4 a5 a6, q1 o a1 a2 a3]) (fun k hk => by rw [← h2, gu_k (Or.inr hk), gu_k (by omega), gu_k (by omega), q1 44 (by omega) (by omega) (by omega)]) ?_
        have v25 : σ2 25 2 = nI (b + 1) := by rw [p1 25 (by omega) (by omega) (by omega), ← h1, gu_s]
        have v44 : σ2 44 20 = nI (b + 1) := by rw [← h2, gu_s]
        have v26 : ∀ i, σ2 26 i = if i = b then nI j else σ 26 i := fun i => by
          rw [p1 26 (by omega) (by omega) (by omega), ← h1, gu_k (by omega), gu_k (by omega), gn_up_eq]
          rfl
        have v27 : ∀ i, σ2 27 i = if i = b then h else σ 27 i := fun i => by
          rw [p1 27 (by omega) (by omega) (by omega), ← h1, gu_k (by omega), gn_up_eq]
          show upd (gn_up σ 26 b (nI j) 27) b h i = _
          rw [gu_o (by omega)]
          rfl
        have v54 : ∀ i, σ2 54 i = if i = b then nI j else σ 54 i := fun i => by
          rw [← h2, gu_k (by omega), gu_k (by omega), gn_up_eq, q1 54 (by omega) (by omega) (by omega)]
          rfl
        have v55 : ∀ i, σ2 55 i = if i = b then h else σ 55 i := fun i => by
          rw [← h2, gu_k (by omega), gn_up_eq]
          show upd (gn_up σ1 54 b (nI j) 55) b h i = _
          rw [gu_o (by omega), q1 55 (by omega) (by omega) (by omega)]
          rfl
        refine ⟨by omega, v25, v44, fun i hi => ?_⟩
        rw [v26, v27, v54, v55]
        by_cases ei : i = b
        · simp only [if_pos ei]
          exact ⟨hj, hu, trivial, trivial, hue, hue⟩
        · simp only [if_neg ei]
          exact hB.2.2.2 i (by omega)
      · have hbe : b = 20 := by omega
        subst hbe
        first | refine gx_iff rfl (by dsimp only [gn_cmp] <;> decide) ?_ | refine gx_icf rfl (by dsimp only [gn_cmp] <;> decide) ?_
        (repeat (first | refine gx_run 999 80 rfl ?_ | refine gx_goto rfl rfl ?_))
        refine gw_zret rfl (Or.inl rfl) ?_
        (repeat (first | refine gx_run 999 80 rfl ?_ | refine gx_goto rfl rfl ?_))
        first | refine gx_ift rfl (by dsimp only [gn_cmp] <;> decide) ?_ | refine gx_ict rfl (by dsimp only [gn_cmp] <;> decide) ?_
        (repeat (first | refine gx_run 999 80 rfl ?_ | refine gx_goto rfl rfl ?_))
        refine gx_iret rfl rfl ?_
        refine km σ _ hT.2.2.2 ?_
        (repeat (first | refine gx_run 999 80 rfl ?_ | refine gx_goto rfl rfl ?_))
        rw [hB.2.2.1]
        first | refine gx_iff rfl (by dsimp only [gn_cmp] <;> decide) ?_ | refine gx_icf rfl (by dsimp only [gn_cmp] <;> decide) ?_
        (repeat (first | refine gx_run 999 80 rfl ?_ | refine gx_goto rfl rfl ?_))
        refine gx_iret rfl rfl ?_
        exact ⟨⟨_, rfl, rfl⟩, hI⟩
    · have h1 : ¬ h = -1 := fun q => hh (Or.inl q)
      have h2 : ¬ (¬ h < 0 ∧ ¬ nI (dH D) ≤ h) := fun q => hh (Or.inr q)
      refine gPair.q hI (-1000000001) (fun Q hQ => ?_) (fun Q hQ => ?_)
      · (repeat (first | refine gx_run 999 80 rfl ?_ | refine gx_goto rfl rfl ?_))
        rw [hd]
        refine gx_call rfl rfl rfl ?_
        refine xw_isG hT.2.2.1 ?_
        rw [gb_t hg]
        (repeat (first | refine gx_run 999 80 rfl ?_ | refine gx_goto rfl rfl ?_))
        first | refine gx_iff rfl (by dsimp only [gn_cmp] <;> decide) ?_ | refine gx_icf rfl (by dsimp only [gn_cmp] <;> decide) ?_
        (repeat (first | refine gx_run 999 80 rfl ?_ | refine gx_goto rfl rfl ?_))
        first | refine gx_iff rfl (h1) ?_ | refine gx_icf rfl (h1) ?_
        (repeat (first | refine gx_run 999 80 rfl ?_ | refine gx_goto rfl rfl ?_))
        rw [hd]
        refine gx_call rfl rfl rfl ?_
        refine xw_isH hT.2.2.1 ?_
        rw [gb_f h2]
        (repeat (first | refine gx_run 999 80 rfl ?_ | refine gx_goto rfl rfl ?_))
        first | refine gx_iff rfl (by dsimp only [gn_cmp] <;> decide) ?_ | refine gx_icf rfl (by dsimp only [gn_cmp] <;> decide) ?_
        (repeat (first | refine gx_run 999 80 rfl ?_ | refine gx_goto rfl rfl ?_))
        refine gx_iret rfl rfl ?_
        exact hQ
      · (repeat (first | refine gx_run 999 80 rfl ?_ | refine gx_goto rfl rfl ?_))
        refine gx_call rfl rfl rfl ?_
        refine mw_isG hT.2.2.2 ?_
        rw [gb_t hg]
        (repeat (first | refine gx_run 999 80 rfl ?_ | refine gx_goto rfl rfl ?_))
        first | refine gx_iff rfl (by dsimp only [gn_cmp] <;> decide) ?_ | refine gx_icf rfl (by dsimp only [gn_cmp] <;> decide) ?_
        (repeat (first | refine gx_run 999 80 rfl ?_ | refine gx_goto rfl rfl ?_))
        first | refine gx_iff rfl (h1) ?_ | refine gx_icf rfl (h1) ?_
        (repeat (first | refine gx_run 999 80 rfl ?_ | refine gx_goto rfl rfl ?_))
        refine gx_call rfl rfl rfl ?_
        refine mw_isH hT.2.2.2 ?_
        rw [gb_f h2]
        (repeat (first | refine gx_run 999 80 rfl ?_ | refine gx_goto rfl rfl ?_))
        first | refine gx_iff rfl (by dsimp only [gn_cmp] <;> decide) ?_ | refine gx_icf rfl (by dsimp only [gn_cmp] <;> decide) ?_
        (repeat (first | refine gx_run 999 80 rfl ?_ | refine gx_goto rfl rfl ?_))
        refine gx_iret rfl rfl ?_
        exact hQ
  · refine gPair.q hI (-1000000001) (fun Q hQ => ?_) (fun Q hQ => ?_)
    · (repeat (first | refine gx_run 999 80 rfl ?_ | refine gx_goto rfl rfl ?_))
      rw [hd]
      refine gx_call rfl rfl rfl ?_
      refine xw_isG hT.2.2.1 ?_
      rw [gb_f hg]
      (repeat (first | refine gx_run 999 80 rfl ?_ | refine gx_goto rfl rfl ?_))
      first | refine gx_ift rfl (by dsimp only [gn_cmp] <;> decide) ?_ | refine gx_ict rfl (by dsimp only [gn_cmp] <;> decide) ?_
      (repeat (first | refine gx_run 999 80 rfl ?_ | refine gx_goto rfl rfl ?_))
      refine gx_iret rfl rfl ?_
      exact hQ
    · (repeat (first | refine gx_run 999 80 rfl ?_ | refine gx_goto rfl rfl ?_))
      refine gx_call rfl rfl rfl ?_
      refine mw_isG hT.2.2.2 ?_
      rw [gb_f hg]
      (repeat (first | refine gx_run 999 80 rfl ?_ | refine gx_goto rfl rfl ?_))
      first | refine gx_ift rfl (by dsimp only [gn_cmp] <;> decide) ?_ | refine gx_ict rfl (by dsimp only [gn_cmp] <;> decide) ?_
      (repeat (first | refine gx_run 999 80 rfl ?_ | refine gx_goto rfl rfl ?_))
      refine gx_iret rfl rfl ?_
      exact hQ
theorem p_feed {σ : gn_Mem} (hI : Inv σ) (l : Int32) : gPair 92 135 [.int l] σ := by
  obtain ⟨D, A, c, nx, B, z, I, e, T, Z, b, G, H, n, L, hT, hN, hS, hP, hII, hE, hB, hX, hF⟩ := id hI
  have hn240 := hX.1
  by_cases hl : ¬ l < 0 ∧ ¬ 255 < l
  · obtain ⟨j, hj, rfl⟩ := nI_of hl.1
    have hj256 : j < 256 := by
      rcases Nat.lt_or_ge j 256 with q | q
      · exact q
      · exact absurd (nI_lt (a := 255) (by omega) hj) hl.2
    unfold gPair
    (repeat (first | refine gx_run 999 80 rfl ?_ | refine gx_goto rfl rfl ?_))
    first | refine gx_iff rfl (hl.1) ?_ | refine gx_icf rfl (hl.1) ?_
    (repeat (first | refine gx_run 999 80 rfl ?_ | refine gx_goto rfl rfl ?_))
    first | refine gx_ift rfl (Int32.not_lt.mp hl.2) ?_ | refine gx_ict rfl (Int32.not_lt.mp hl.2) ?_
    (repeat (first | refine gx_run 999 80 rfl ?_ | refine gx_goto rfl rfl ?_))
    refine gx_call rfl rfl rfl ?_
    (repeat (first | refine gx_run 999 80 rfl ?_ | refine gx_goto rfl rfl ?_))
    rw [hX.2.1]
    by_cases hnl : n < 240
    · first | refine gx_ift rfl (nI_lt (b := 240) hnl (by omega)) ?_ | refine gx_ict rfl (nI_lt (b := 240) hnl (by omega)) ?_
      (repeat (first | refine gx_run 999 80 rfl ?_ | refine gx_goto rfl rfl ?_))
      refine gx_st n hX.2.1 (by omega) rfl rfl rfl ?_
      (repeat (first | refine gx_run 999 80 rfl ?_ | refine gx_goto rfl rfl ?_))
      refine gw_zret rfl (Or.inr rfl) ?_
      (repeat (first | refine gx_run 999 80 rfl ?_ | refine gx_goto rfl rfl ?_))
      first | refine gx_iff rfl (by dsimp only [gn_cmp] <;> decide) ?_ | refine gx_icf rfl (by dsimp only [gn_cmp] <;> decide) ?_
      (repeat (first | refine gx_run 999 80 rfl ?_ | refine gx_goto rfl rfl ?_))
      refine gx_iret rfl rfl ?_
      have ev : gn_up σ 2 n (nI j) 1 1 + 1 = nI (n + 1) := by rw [gu_k (by omega), hX.2.1, nI_1]
      rw [ev, gu_s]
      generalize h1 : gn_up (gn_up σ 2 n (nI j)) 1 1 (nI (n + 1)) = σ1
      have q1 : ∀ o, o ≠ 1 → o ≠ 2 → σ1 o = σ o := fun o a1 a2 => by rw [← h1, gu_o a1, gu_o a2]
      have q44 : σ1 44 13 = nI n := by rw [q1 44 (by omega) (by omega)]; exact hX.2.2.1
      (repeat (first | refine gx_run 999 80 rfl ?_ | refine gx_goto rfl rfl ?_))
      refine gw_calls rfl rfl rfl ?_
      refine mw_in ?_
      rw [gb_t hl]
      (repeat (first | refine gx_run 999 80 rfl ?_ | refine gx_goto rfl rfl ?_))
      first | refine gx_ift rfl (by dsimp only [gn_cmp] <;> decide) ?_ | refine gx_ict rfl (by dsimp only [gn_cmp] <;> decide) ?_
      (repeat (first | refine gx_run 999 80 rfl ?_ | refine gx_goto rfl rfl ?_))
      rw [q44]
      first | refine gx_ift rfl (fun q => absurd q (by rw [show (240 : Int32) = nI 240 from rfl, nI_eq (by omega) (by omega)]; omega)) ?_ | refine gx_ict rfl (fun q => absurd q (by rw [show (240 : Int32) = nI 240 from rfl, nI_eq (by omega) (by omega)]; omega)) ?_
      (repeat (first | refine gx_run 999 80 rfl ?_ | refine gx_goto rfl rfl ?_))
      refine gx_st n q44 (by omega) rfl rfl rfl ?_
      (repeat (first | refine gx_run 999 80 rfl ?_ | refine gx_goto rfl rfl ?_))
      refine gx_iret rfl rfl ?_
      have ev2 : gn_up σ1 51 n (nI j) 44 13 + 1 = nI (n + 1) := by rw [gu_k (by omega), q44, nI_1]
      rw [ev2, gu_s]
      refine ⟨⟨_, rfl, rfl⟩, ?_⟩
      generalize h2 : gn_up (gn_up σ1 51 n (nI j)) 44 13 (nI (n + 1)) = σ2
      have p1 : ∀ o, o ≠ 44 → o ≠ 51 → σ2 o = σ1 o := fun o a1 a2 => by rw [← h2, gu_o a1, gu_o a2]
      have qq : ∀ o, o ≠ 1 → o ≠ 2 → o ≠ 44 → o ≠ 51 → σ2 o = σ o := fun o a1 a2 a3 a4 => by rw [p1 o a3 a4, q1 o a1 a2]
      have qm : ∀ k, k ≠ 13 → σ2 44 k = σ 44 k := fun k hk => by rw [← h2, gu_k (Or.inr hk), gu_k (by omega), q1 44 (by omega) (by omega)]
      have q1k : ∀ k, k ≠ 1 → σ2 1 k = σ 1 k := fun k hk => by rw [p1 1 (by omega) (by omega), ← h1, gu_k (Or.inr hk), gu_k (by omega)]
      have hX2 : iX σ2 (n + 1) (fun i => if i = n then j else L i) := by
        have v2 : ∀ i, σ2 2 i = if i = n then nI j else σ 2 i := fun i => by
          rw [p1 2 (by omega) (by omega), ← h1, gu_k (by omega), gn_up_eq]
          rfl
        have v51 : ∀ i, σ2 51 i = if i = n then nI j else σ 51 i := fun i => by
          rw [← h2, gu_k (by omega), gn_up_eq, q1 51 (by omega) (by omega)]
          rfl
        refine ⟨by omega, by rw [p1 1 (by omega) (by omega), ← h1, gu_s], by rw [← h2, gu_s], fun i hi => ?_⟩
        rw [v2, v51]
        by_cases ei : i = n
        · simp only [if_pos ei]
          exact ⟨hj256, trivial, trivial⟩
        · simp only [if_neg ei]
          exact hX.2.2.2 i (by omega)
      have qo : ∀ o, (o = 0 ∨ (3 ≤ o ∧ o ≤ 43) ∨ (45 ≤ o ∧ o ≤ 50) ∨ 52 ≤ o) → σ2 o = σ o := fun o ho => qq o (by omega) (by omega) (by omega) (by omega)
      exact ⟨D, A, c, nx, B, z, I, e, T, Z, b, G, H, n + 1, _, hT.fr (fun k => by rw [qo 0 (by omega)]) (fun o h => qo o (by omega)) (fun k h1 h2 => qm k (by omega)), hN.fr (qo 4 (by omega)) (fun k _ => by rw [qo 45 (by omega)]), hS.fr (by rw [qo 11 (by omega)]) (by rw [qo 45 (by omega)]), hP.fr (qo 5 (by omega)) (qo 6 (by omega)) (qm 10 (by omega)) (fun k _ => by rw [qo 45 (by omega)]), hII.fr (fun o h1 h2 => qo o (by omega)) (qm 11 (by omega)) (fun k _ _ => by rw [qo 45 (by omega)]), hE.fr (fun o h => qo o (by omega)) (qm 17 (by omega)), hB.fr (fun o h => qo o (by omega)) (qm 20 (by omega)), hX2, hF.fr (q1k 4 (by omega)) (qm 14 (by omega))⟩
    · have hne : n = 240 := by omega
      subst hne
      first | refine gx_iff rfl (by dsimp only [gn_cmp] <;> decide) ?_ | refine gx_icf rfl (by dsimp only [gn_cmp] <;> decide) ?_
      (repeat (first | refine gx_run 999 80 rfl ?_ | refine gx_goto rfl rfl ?_))
      refine gw_zret rfl (Or.inl rfl) ?_
      (repeat (first | refine gx_run 999 80 rfl ?_ | refine gx_goto rfl rfl ?_))
      first | refine gx_ift rfl (by dsimp only [gn_cmp] <;> decide) ?_ | refine gx_ict rfl (by dsimp only [gn_cmp] <;> decide) ?_
      (repeat (first | refine gx_run 999 80 rfl ?_ | refine gx_goto rfl rfl ?_))
      refine gx_iret rfl rfl ?_
      (repeat (first | refine gx_run 999 80 rfl ?_ | refine gx_goto rfl rfl ?_))
      refine gw_calls rfl rfl rfl ?_
      refine mw_in ?_
      rw [gb_t hl]
      (repeat (first | refine gx_run 999 80 rfl ?_ | refine gx_goto rfl rfl ?_))
      first | refine gx_ift rfl (by dsimp only [gn_cmp] <;> decide) ?_ | refine gx_ict rfl (by dsimp only [gn_cmp] <;> decide) ?_
      (repeat (first | refine gx_run 999 80 rfl ?_ | refine gx_goto rfl rfl ?_))
      rw [hX.2.2.1]
      first | refine gx_iff rfl (by dsimp only [gn_cmp] <;> decide) ?_ | refine gx_icf rfl (by dsimp only [gn_cmp] <;> decide) ?_
      (repeat (first | refine gx_run 999 80 rfl ?_ | refine gx_goto rfl rfl ?_))
      refine gx_iret rfl rfl ?_
      exact ⟨⟨_, rfl, rfl⟩, hI⟩
  · refine gPair.q hI (-1000000002) (fun Q hQ => ?_) (fun Q hQ => ?_)
    · (repeat (first | refine gx_run 999 80 rfl ?_ | refine gx_goto rfl rfl ?_))
      first | refine gw_if rfl (fun h3 => ?_) (fun h3 => ?_) | refine gw_icmp rfl (fun h3 => ?_) (fun h3 => ?_)
      · (repeat (first | refine gx_run 999 80 rfl ?_ | refine gx_goto rfl rfl ?_))
        refine gx_iret rfl rfl ?_
        exact hQ
      · (repeat (first | refine gx_run 999 80 rfl ?_ | refine gx_goto rfl rfl ?_))
        first | refine gx_iff rfl (fun q => hl ⟨h3, Int32.not_lt.mpr q⟩) ?_ | refine gx_icf rfl (fun q => hl ⟨h3, Int32.not_lt.mpr q⟩) ?_
        (repeat (first | refine gx_run 999 80 rfl ?_ | refine gx_goto rfl rfl ?_))
        refine gx_iret rfl rfl ?_
        exact hQ
    · (repeat (first | refine gx_run 999 80 rfl ?_ | refine gx_goto rfl rfl ?_))
      refine gw_calls rfl rfl rfl ?_
      refine mw_in ?_
      rw [gb_f hl]
      (repeat (first | refine gx_run 999 80 rfl ?_ | refine gx_goto rfl rfl ?_))
      first | refine gx_iff rfl (by dsimp only [gn_cmp] <;> decide) ?_ | refine gx_icf rfl (by dsimp only [gn_cmp] <;> decide) ?_
      (repeat (first | refine gx_run 999 80 rfl ?_ | refine gx_goto rfl rfl ?_))
      refine gx_iret rfl rfl ?_
      exact hQ
