/-! public questions: the class and the reference answer alike -/
theorem gPair.q {x m : Nat} {as : List Value} {σ : gn_Mem} (hI : Inv σ) (v : Int32) (hx : ∀ Q : Option Value → gn_Mem → Prop, Q (some (.int v)) σ → gn_W 20 x 0 (.ref 0 :: as) [] σ Q) (hm : ∀ Q : Option Value → gn_Mem → Prop, Q (some (.int v)) σ → gn_W 20 m 0 (.ref 44 :: as) [] σ Q) : gPair x m as σ := hx _ (hm _ ⟨⟨v, rfl, rfl⟩, hI⟩)
theorem dE01 {D : gD} (h : gW D) : dE D = 0 ∨ dE D = 1 := by have := h.2.2.1; omega
theorem p_told {σ : gn_Mem} (hI : Inv σ) (w : Int32) : gPair 95 159 [.int w] σ := by
  obtain ⟨D, A, c, nx, B, z, I, e, T, Z, b, G, H, n, L, hT, hN, hS, hP, hII, hE, hB, hX, hF⟩ := id hI
  have hd := hT.1
  rcases pk_ix w (n := 19) (by decide) with h | h | ⟨j, hj, rfl⟩
  · have h0 : w.toInt < 0 := Int32.lt_iff_toInt_lt.mp h
    refine gPair.q hI (-1000000002) (fun Q hQ => ?_) (fun Q hQ => ?_)
    · (repeat (first | refine gx_run 999 80 rfl ?_ | refine gx_goto rfl rfl ?_))
      refine gw_tsw rfl 264 (by rw [if_pos (Or.inl h0)]; rfl) ?_
      (repeat (first | refine gx_run 999 80 rfl ?_ | refine gx_goto rfl rfl ?_))
      refine gx_iret rfl rfl ?_
      exact hQ
    · (repeat (first | refine gx_run 999 80 rfl ?_ | refine gx_goto rfl rfl ?_))
      refine gw_tsw rfl 213 (by rw [if_pos (Or.inl h0)]; rfl) ?_
      (repeat (first | refine gx_run 999 80 rfl ?_ | refine gx_goto rfl rfl ?_))
      refine gx_iret rfl rfl ?_
      exact hQ
  · have h2 : (18 : Int) < w.toInt := by
      have h3 := Int32.le_iff_toInt_le.mp h
      rw [nI_toInt (by decide)] at h3
      omega
    refine gPair.q hI (-1000000002) (fun Q hQ => ?_) (fun Q hQ => ?_)
    · (repeat (first | refine gx_run 999 80 rfl ?_ | refine gx_goto rfl rfl ?_))
      refine gw_tsw rfl 264 (by rw [if_pos (Or.inr h2)]; rfl) ?_
      (repeat (first | refine gx_run 999 80 rfl ?_ | refine gx_goto rfl rfl ?_))
      refine gx_iret rfl rfl ?_
      exact hQ
    · (repeat (first | refine gx_run 999 80 rfl ?_ | refine gx_goto rfl rfl ?_))
      refine gw_tsw rfl 213 (by rw [if_pos (Or.inr h2)]; rfl) ?_
      (repeat (first | refine gx_run 999 80 rfl ?_ | refine gx_goto rfl rfl ?_))
      refine gx_iret rfl rfl ?_
      exact hQ
  · rcases (show j = 0 ∨ j = 1 ∨ j = 2 ∨ j = 3 ∨ j = 4 ∨ j = 5 ∨ j = 6 ∨ j = 7 ∨ j = 8 ∨ j = 9 ∨ j = 10 ∨ j = 11 ∨ j = 12 ∨ j = 13 ∨ j = 14 ∨ j = 15 ∨ j = 16 ∨ j = 17 ∨ j = 18 by omega) with rfl | rfl | rfl | rfl | rfl | rfl | rfl | rfl | rfl | rfl | rfl | rfl | rfl | rfl | rfl | rfl | rfl | rfl | rfl
    · refine gPair.q hI (nI (dE D)) (fun Q hQ => ?_) (fun Q hQ => ?_)
      · (repeat (first | refine gx_run 999 80 rfl ?_ | refine gx_goto rfl rfl ?_))
        refine gw_tsw rfl 92 (by decide) ?_
        (repeat (refine gw_stp rfl ?_))
        rw [hd]
        (repeat (first | refine gx_run 999 80 rfl ?_ | refine gx_goto rfl rfl ?_))
        rw [hT.2.2.1.2.1]
        rcases dE01 hT.2.2.1.1 with h0 | h0 <;> rw [h0] at hQ ⊢
        · first | refine gx_ift rfl (by dsimp only [gn_cmp] <;> decide) ?_ | refine gx_ict rfl (by dsimp only [gn_cmp] <;> decide) ?_
          (repeat (first | refine gx_run 999 80 rfl ?_ | refine gx_goto rfl rfl ?_))
          refine gx_iret rfl rfl ?_
          exact hQ
        · first | refine gx_iff rfl (by dsimp only [gn_cmp] <;> decide) ?_ | refine gx_icf rfl (by dsimp only [gn_cmp] <;> decide) ?_
          (repeat (first | refine gx_run 999 80 rfl ?_ | refine gx_goto rfl rfl ?_))
          refine gx_iret rfl rfl ?_
          exact hQ
      · (repeat (first | refine gx_run 999 80 rfl ?_ | refine gx_goto rfl rfl ?_))
        refine gw_tsw rfl 92 (by decide) ?_
        (repeat (first | refine gx_run 999 80 rfl ?_ | refine gx_goto rfl rfl ?_))
        rw [hT.2.2.2.2.1]
        rcases dE01 hT.2.2.1.1 with h0 | h0 <;> rw [h0] at hQ ⊢
        · first | refine gx_ift rfl (by dsimp only [gn_cmp] <;> decide) ?_ | refine gx_ict rfl (by dsimp only [gn_cmp] <;> decide) ?_
          (repeat (first | refine gx_run 999 80 rfl ?_ | refine gx_goto rfl rfl ?_))
          refine gx_iret rfl rfl ?_
          exact hQ
        · first | refine gx_iff rfl (by dsimp only [gn_cmp] <;> decide) ?_ | refine gx_icf rfl (by dsimp only [gn_cmp] <;> decide) ?_
          (repeat (first | refine gx_run 999 80 rfl ?_ | refine gx_goto rfl rfl ?_))
          refine gx_iret rfl rfl ?_
          exact hQ
    · refine gPair.q hI (nI (dG D)) (fun Q hQ => ?_) (fun Q hQ => ?_)
      · (repeat (first | refine gx_run 999 80 rfl ?_ | refine gx_goto rfl rfl ?_))
        refine gw_tsw rfl 108 (by decide) ?_
        (repeat (refine gw_stp rfl ?_))
        rw [hd]
        (repeat (first | refine gx_run 999 80 rfl ?_ | refine gx_goto rfl rfl ?_))
        rw [hT.2.2.1.2.2.2.1]
        refine gx_iret rfl rfl ?_
        exact hQ
      · (repeat (first | refine gx_run 999 80 rfl ?_ | refine gx_goto rfl rfl ?_))
        refine gw_tsw rfl 105 (by decide) ?_
        (repeat (first | refine gx_run 999 80 rfl ?_ | refine gx_goto rfl rfl ?_))
        rw [hT.2.2.2.2.2.2.1]
        refine gx_iret rfl rfl ?_
        exact hQ
    · refine gPair.q hI (nI (dH D)) (fun Q hQ => ?_) (fun Q hQ => ?_)
      · (repeat (first | refine gx_run 999 80 rfl ?_ | refine gx_goto rfl rfl ?_))
        refine gw_tsw rfl 116 (by decide) ?_
        (repeat (refine gw_stp rfl ?_))
        rw [hd]
        (repeat (first | refine gx_run 999 80 rfl ?_ | refine gx_goto rfl rfl ?_))
        rw [hT.2.2.1.2.2.2.2.1]
        refine gx_iret rfl rfl ?_
        exact hQ
      · (repeat (first | refine gx_run 999 80 rfl ?_ | refine gx_goto rfl rfl ?_))
        refine gw_tsw rfl 110 (by decide) ?_
        (repeat (first | refine gx_run 999 80 rfl ?_ | refine gx_goto rfl rfl ?_))
        rw [hT.2.2.2.2.2.2.2.1]
        refine gx_iret rfl rfl ?_
        exact hQ
    · refine gPair.q hI (nI (dF D)) (fun Q hQ => ?_) (fun Q hQ => ?_)
      · (repeat (first | refine gx_run 999 80 rfl ?_ | refine gx_goto rfl rfl ?_))
        refine gw_tsw rfl 124 (by decide) ?_
        (repeat (refine gw_stp rfl ?_))
        rw [hd]
        (repeat (first | refine gx_run 999 80 rfl ?_ | refine gx_goto rfl rfl ?_))
        rw [hT.2.2.1.2.2.1]
        refine gx_iret rfl rfl ?_
        exact hQ
      · (repeat (first | refine gx_run 999 80 rfl ?_ | refine gx_goto rfl rfl ?_))
        refine gw_tsw rfl 115 (by decide) ?_
        (repeat (first | refine gx_run 999 80 rfl ?_ | refine gx_goto rfl rfl ?_))
        rw [hT.2.2.2.2.2.1]
        refine gx_iret rfl rfl ?_
        exact hQ
    · refine gPair.q hI (nI n) (fun Q hQ => ?_) (fun Q hQ => ?_)
      · (repeat (first | refine gx_run 999 80 rfl ?_ | refine gx_goto rfl rfl ?_))
        refine gw_tsw rfl 132 (by decide) ?_
        (repeat (first | refine gx_run 999 80 rfl ?_ | refine gx_goto rfl rfl ?_))
        rw [hX.2.1]
        refine gx_iret rfl rfl ?_
        exact hQ
      · (repeat (first | refine gx_run 999 80 rfl ?_ | refine gx_goto rfl rfl ?_))
        refine gw_tsw rfl 120 (by decide) ?_
        (repeat (first | refine gx_run 999 80 rfl ?_ | refine gx_goto rfl rfl ?_))
        rw [hX.2.2.1]
        refine gx_iret rfl rfl ?_
        exact hQ
    · refine gPair.q hI (nI (A 26)) (fun Q hQ => ?_) (fun Q hQ => ?_)
      · (repeat (first | refine gx_run 999 80 rfl ?_ | refine gx_goto rfl rfl ?_))
        refine gw_tsw rfl 140 (by decide) ?_
        (repeat (first | refine gx_run 999 80 rfl ?_ | refine gx_goto rfl rfl ?_))
        refine gx_call rfl rfl rfl ?_
        refine xw_hours hN.1 ?_
        (repeat (first | refine gx_run 999 80 rfl ?_ | refine gx_goto rfl rfl ?_))
        refine gx_iret rfl rfl ?_
        exact hQ
      · (repeat (first | refine gx_run 999 80 rfl ?_ | refine gx_goto rfl rfl ?_))
        refine gw_tsw rfl 125 (by decide) ?_
        (repeat (first | refine gx_run 999 80 rfl ?_ | refine gx_goto rfl rfl ?_))
        refine gx_ld 26 rfl (by omega) hN.2.1.hr rfl rfl rfl ?_
        refine gx_iret rfl rfl ?_
        exact hQ
    · refine gPair.q hI (nI (A 27)) (fun Q hQ => ?_) (fun Q hQ => ?_)
      · (repeat (first | refine gx_run 999 80 rfl ?_ | refine gx_goto rfl rfl ?_))
        refine gw_tsw rfl 148 (by decide) ?_
        (repeat (first | refine gx_run 999 80 rfl ?_ | refine gx_goto rfl rfl ?_))
        refine gx_call rfl rfl rfl ?_
        refine xw_evenings hN.1 ?_
        (repeat (first | refine gx_run 999 80 rfl ?_ | refine gx_goto rfl rfl ?_))
        refine gx_iret rfl rfl ?_
        exact hQ
      · (repeat (first | refine gx_run 999 80 rfl ?_ | refine gx_goto rfl rfl ?_))
        refine gw_tsw rfl 133 (by decide) ?_
        (repeat (first | refine gx_run 999 80 rfl ?_ | refine gx_goto rfl rfl ?_))
        refine gx_ld 27 rfl (by omega) hN.2.1.ev rfl rfl rfl ?_
        refine gx_iret rfl rfl ?_
        exact hQ
    · refine gPair.q hI (nI (A 24)) (fun Q hQ => ?_) (fun Q hQ => ?_)
      · (repeat (first | refine gx_run 999 80 rfl ?_ | refine gx_goto rfl rfl ?_))
        refine gw_tsw rfl 156 (by decide) ?_
        (repeat (first | refine gx_run 999 80 rfl ?_ | refine gx_goto rfl rfl ?_))
        refine gx_call rfl rfl rfl ?_
        refine xw_glad hN.1 ?_
        (repeat (first | refine gx_run 999 80 rfl ?_ | refine gx_goto rfl rfl ?_))
        refine gx_iret rfl rfl ?_
        exact hQ
      · (repeat (first | refine gx_run 999 80 rfl ?_ | refine gx_goto rfl rfl ?_))
        refine gw_tsw rfl 141 (by decide) ?_
        (repeat (first | refine gx_run 999 80 rfl ?_ | refine gx_goto rfl rfl ?_))
        refine gx_ld 24 rfl (by omega) hN.2.1.gl rfl rfl rfl ?_
        refine gx_iret rfl rfl ?_
        exact hQ
    · refine gPair.q hI (nI (A 25)) (fun Q hQ => ?_) (fun Q hQ => ?_)
      · (repeat (first | refine gx_run 999 80 rfl ?_ | refine gx_goto rfl rfl ?_))
        refine gw_tsw rfl 164 (by decide) ?_
        (repeat (first | refine gx_run 999 80 rfl ?_ | refine gx_goto rfl rfl ?_))
        refine gx_call rfl rfl rfl ?_
        refine xw_insults hN.1 ?_
        (repeat (first | refine gx_run 999 80 rfl ?_ | refine gx_goto rfl rfl ?_))
        refine gx_iret rfl rfl ?_
        exact hQ
      · (repeat (first | refine gx_run 999 80 rfl ?_ | refine gx_goto rfl rfl ?_))
        refine gw_tsw rfl 149 (by decide) ?_
        (repeat (first | refine gx_run 999 80 rfl ?_ | refine gx_goto rfl rfl ?_))
        refine gx_ld 25 rfl (by omega) hN.2.1.ins rfl rfl rfl ?_
        refine gx_iret rfl rfl ?_
        exact hQ
    · refine gPair.q hI (nI (A 18)) (fun Q hQ => ?_) (fun Q hQ => ?_)
      · (repeat (first | refine gx_run 999 80 rfl ?_ | refine gx_goto rfl rfl ?_))
        refine gw_tsw rfl 172 (by decide) ?_
        (repeat (first | refine gx_run 999 80 rfl ?_ | refine gx_goto rfl rfl ?_))
        refine gx_call rfl rfl rfl ?_
        refine xw_whoIsUp hN.1 ?_
        (repeat (first | refine gx_run 999 80 rfl ?_ | refine gx_goto rfl rfl ?_))
        refine gx_iret rfl rfl ?_
        exact hQ
      · (repeat (first | refine gx_run 999 80 rfl ?_ | refine gx_goto rfl rfl ?_))
        refine gw_tsw rfl 157 (by decide) ?_
        (repeat (first | refine gx_run 999 80 rfl ?_ | refine gx_goto rfl rfl ?_))
        refine gx_ld 18 rfl (by omega) hN.2.1.up rfl rfl rfl ?_
        refine gx_iret rfl rfl ?_
        exact hQ
    · refine gPair.q hI (sT D A) (fun Q hQ => ?_) (fun Q hQ => ?_)
      · (repeat (first | refine gx_run 999 80 rfl ?_ | refine gx_goto rfl rfl ?_))
        refine gw_tsw rfl 180 (by decide) ?_
        (repeat (first | refine gx_run 999 80 rfl ?_ | refine gx_goto rfl rfl ?_))
        rw [hd]
        refine gx_call rfl rfl rfl ?_
        refine xw_whoWasTold hT.2.2.1 hN.1 hN.2.2 ?_
        (repeat (first | refine gx_run 999 80 rfl ?_ | refine gx_goto rfl rfl ?_))
        refine gx_iret rfl rfl ?_
        exact hQ
      · (repeat (first | refine gx_run 999 80 rfl ?_ | refine gx_goto rfl rfl ?_))
        refine gw_tsw rfl 165 (by decide) ?_
        (repeat (first | refine gx_run 999 80 rfl ?_ | refine gx_goto rfl rfl ?_))
        refine gx_call rfl rfl rfl ?_
        refine mw_allTold hT.2.2.2 hN.2.1 hN.2.2 ?_
        (repeat (first | refine gx_run 999 80 rfl ?_ | refine gx_goto rfl rfl ?_))
        refine gx_iret rfl rfl ?_
        exact hQ
    · refine gPair.q hI (nI (A 19)) (fun Q hQ => ?_) (fun Q hQ => ?_)
      · (repeat (first | refine gx_run 999 80 rfl ?_ | refine gx_goto rfl rfl ?_))
        refine gw_tsw rfl 192 (by decide) ?_
        (repeat (first | refine gx_run 999 80 rfl ?_ | refine gx_goto rfl rfl ?_))
        refine gx_call rfl rfl rfl ?_
        refine xw_whoWalks hN.1 ?_
        (repeat (first | refine gx_run 999 80 rfl ?_ | refine gx_goto rfl rfl ?_))
        refine gx_iret rfl rfl ?_
        exact hQ
      · (repeat (first | refine gx_run 999 80 rfl ?_ | refine gx_goto rfl rfl ?_))
        refine gw_tsw rfl 170 (by decide) ?_
        (repeat (first | refine gx_run 999 80 rfl ?_ | refine gx_goto rfl rfl ?_))
        refine gx_ld 19 rfl (by omega) hN.2.1.wk rfl rfl rfl ?_
        refine gx_iret rfl rfl ?_
        exact hQ
    · refine gPair.q hI (sR D) (fun Q hQ => ?_) (fun Q hQ => ?_)
      · (repeat (first | refine gx_run 999 80 rfl ?_ | refine gx_goto rfl rfl ?_))
        refine gw_tsw rfl 200 (by decide) ?_
        (repeat (first | refine gx_run 999 80 rfl ?_ | refine gx_goto rfl rfl ?_))
        rw [hd]
        refine gx_call rfl rfl rfl ?_
        refine xw_whoIsRight hT.2.2.1 ?_
        (repeat (first | refine gx_run 999 80 rfl ?_ | refine gx_goto rfl rfl ?_))
        refine gx_iret rfl rfl ?_
        exact hQ
      · (repeat (first | refine gx_run 999 80 rfl ?_ | refine gx_goto rfl rfl ?_))
        refine gw_tsw rfl 178 (by decide) ?_
        (repeat (first | refine gx_run 999 80 rfl ?_ | refine gx_goto rfl rfl ?_))
        refine gx_call rfl rfl rfl ?_
        refine mw_rightOnes hT.2.2.2 ?_
        (repeat (first | refine gx_run 999 80 rfl ?_ | refine gx_goto rfl rfl ?_))
        refine gx_iret rfl rfl ?_
        exact hQ
    · refine gPair.q hI (sN D) (fun Q hQ => ?_) (fun Q hQ => ?_)
      · (repeat (first | refine gx_run 999 80 rfl ?_ | refine gx_goto rfl rfl ?_))
        refine gw_tsw rfl 208 (by decide) ?_
        (repeat (first | refine gx_run 999 80 rfl ?_ | refine gx_goto rfl rfl ?_))
        rw [hd]
        refine gx_call rfl rfl rfl ?_
        refine xw_nobody hT.2.2.1 ?_
        (repeat (first | refine gx_run 999 80 rfl ?_ | refine gx_goto rfl rfl ?_))
        refine gx_iret rfl rfl ?_
        exact hQ
      · (repeat (first | refine gx_run 999 80 rfl ?_ | refine gx_goto rfl rfl ?_))
        refine gw_tsw rfl 183 (by decide) ?_
        (repeat (first | refine gx_run 999 80 rfl ?_ | refine gx_goto rfl rfl ?_))
        refine gx_call rfl rfl rfl ?_
        refine mw_nobodys hT.2.2.2 ?_
        (repeat (first | refine gx_run 999 80 rfl ?_ | refine gx_goto rfl rfl ?_))
        refine gx_iret rfl rfl ?_
        exact hQ
    · refine gPair.q hI (sM D A) (fun Q hQ => ?_) (fun Q hQ => ?_)
      · (repeat (first | refine gx_run 999 80 rfl ?_ | refine gx_goto rfl rfl ?_))
        refine gw_tsw rfl 216 (by decide) ?_
        (repeat (first | refine gx_run 999 80 rfl ?_ | refine gx_goto rfl rfl ?_))
        rw [hd]
        refine gx_call rfl rfl rfl ?_
        refine xw_meanly hT.2.2.1 hN.1 hN.2.2 ?_
        (repeat (first | refine gx_run 999 80 rfl ?_ | refine gx_goto rfl rfl ?_))
        refine gx_iret rfl rfl ?_
        exact hQ
      · (repeat (first | refine gx_run 999 80 rfl ?_ | refine gx_goto rfl rfl ?_))
        refine gw_tsw rfl 188 (by decide) ?_
        (repeat (first | refine gx_run 999 80 rfl ?_ | refine gx_goto rfl rfl ?_))
        refine gx_call rfl rfl rfl ?_
        refine mw_meanly hT.2.2.2 hN.2.1 hN.2.2 ?_
        (repeat (first | refine gx_run 999 80 rfl ?_ | refine gx_goto rfl rfl ?_))
        refine gx_iret rfl rfl ?_
        exact hQ
    · refine gPair.q hI (sL D A).1 (fun Q hQ => ?_) (fun Q hQ => ?_)
      · (repeat (first | refine gx_run 999 80 rfl ?_ | refine gx_goto rfl rfl ?_))
        refine gw_tsw rfl 228 (by decide) ?_
        (repeat (first | refine gx_run 999 80 rfl ?_ | refine gx_goto rfl rfl ?_))
        rw [hd]
        refine gx_call rfl rfl rfl ?_
        refine xw_least hT.2.2.1 hN.1 hN.2.2 ?_
        (repeat (first | refine gx_run 999 80 rfl ?_ | refine gx_goto rfl rfl ?_))
        refine gx_iret rfl rfl ?_
        exact hQ
      · (repeat (first | refine gx_run 999 80 rfl ?_ | refine gx_goto rfl rfl ?_))
        refine gw_tsw rfl 193 (by decide) ?_
        (repeat (first | refine gx_run 999 80 rfl ?_ | refine gx_goto rfl rfl ?_))
        refine gx_call rfl rfl rfl ?_
        refine mw_least hT.2.2.2 hN.2.1 hN.2.2 ?_
        (repeat (first | refine gx_run 999 80 rfl ?_ | refine gx_goto rfl rfl ?_))
        refine gx_iret rfl rfl ?_
        exact hQ
    · refine gPair.q hI (nI e) (fun Q hQ => ?_) (fun Q hQ => ?_)
      · (repeat (first | refine gx_run 999 80 rfl ?_ | refine gx_goto rfl rfl ?_))
        refine gw_tsw rfl 240 (by decide) ?_
        (repeat (first | refine gx_run 999 80 rfl ?_ | refine gx_goto rfl rfl ?_))
        rw [hE.2.1]
        refine gx_iret rfl rfl ?_
        exact hQ
      · (repeat (first | refine gx_run 999 80 rfl ?_ | refine gx_goto rfl rfl ?_))
        refine gw_tsw rfl 198 (by decide) ?_
        (repeat (first | refine gx_run 999 80 rfl ?_ | refine gx_goto rfl rfl ?_))
        rw [hE.2.2.1]
        refine gx_iret rfl rfl ?_
        exact hQ
    · refine gPair.q hI (nI b) (fun Q hQ => ?_) (fun Q hQ => ?_)
      · (repeat (first | refine gx_run 999 80 rfl ?_ | refine gx_goto rfl rfl ?_))
        refine gw_tsw rfl 248 (by decide) ?_
        (repeat (first | refine gx_run 999 80 rfl ?_ | refine gx_goto rfl rfl ?_))
        rw [hB.2.1]
        refine gx_iret rfl rfl ?_
        exact hQ
      · (repeat (first | refine gx_run 999 80 rfl ?_ | refine gx_goto rfl rfl ?_))
        refine gw_tsw rfl 203 (by decide) ?_
        (repeat (first | refine gx_run 999 80 rfl ?_ | refine gx_goto rfl rfl ?_))
        rw [hB.2.2.1]
        refine gx_iret rfl rfl ?_
        exact hQ
    · refine gPair.q hI (nI c) (fun Q hQ => ?_) (fun Q hQ => ?_)
      · (repeat (first | refine gx_run 999 80 rfl ?_ | refine gx_goto rfl rfl ?_))
        refine gw_tsw rfl 256 (by decide) ?_
        (repeat (first | refine gx_run 999 80 rfl ?_ | refine gx_goto rfl rfl ?_))
        rw [hP.2.2.1]
        refine gx_iret rfl rfl ?_
        exact hQ
      · (repeat (first | refine gx_run 999 80 rfl ?_ | refine gx_goto rfl rfl ?_))
        refine gw_tsw rfl 208 (by decide) ?_
        (repeat (first | refine gx_run 999 80 rfl ?_ | refine gx_goto rfl rfl ?_))
        rw [hP.2.2.2.1]
        refine gx_iret rfl rfl ?_
        exact hQ
theorem p_fault {σ : gn_Mem} (hI : Inv σ) : gPair 94 147 [] σ := by
  obtain ⟨D, A, c, nx, B, z, I, e, T, Z, b, G, H, n, L, hT, hN, hS, hP, hII, hE, hB, hX, hF⟩ := id hI
  refine gPair.q hI (σ 1 4) (fun Q hQ => ?_) (fun Q hQ => ?_)
  · (repeat (first | refine gx_run 999 80 rfl ?_ | refine gx_goto rfl rfl ?_))
    refine gx_iret rfl rfl ?_
    exact hQ
  · (repeat (first | refine gx_run 999 80 rfl ?_ | refine gx_goto rfl rfl ?_))
    rw [show σ 44 14 = σ 1 4 from hF.symm]
    refine gx_iret rfl rfl ?_
    exact hQ
theorem p_guest {σ : gn_Mem} (hI : Inv σ) (g w : Int32) : gPair 96 160 [.int g, .int w] σ := by
  obtain ⟨D, A, c, nx, B, z, I, e, T, Z, b, G, H, n, L, hT, hN, hS, hP, hII, hE, hB, hX, hF⟩ := id hI
  have hd := hT.1
  have hle := hT.2.2.1.1.1
  have hhe := hT.2.2.1.1.2.1
  by_cases hg : ¬ g < 0 ∧ ¬ nI (dG D) ≤ g
  · obtain ⟨j, hj, rfl⟩ := in_of (by omega) hg
    rcases pk_ix w (n := 6) (by decide) with h | h | ⟨i, hi, rfl⟩
    · have h0 : w.toInt < 0 := Int32.lt_iff_toInt_lt.mp h
      refine gPair.q hI (-1000000002) (fun Q hQ => ?_) (fun Q hQ => ?_)
      · (repeat (first | refine gx_run 999 80 rfl ?_ | refine gx_goto rfl rfl ?_))
        rw [hd]
        refine gx_call rfl rfl rfl ?_
        refine xw_isG hT.2.2.1 ?_
        rw [gb_t hg]
        (repeat (first | refine gx_run 999 80 rfl ?_ | refine gx_goto rfl rfl ?_))
        first | refine gx_ift rfl (by dsimp only [gn_cmp] <;> decide) ?_ | refine gx_ict rfl (by dsimp only [gn_cmp] <;> decide) ?_
        (repeat (first | refine gx_run 999 80 rfl ?_ | refine gx_goto rfl rfl ?_))
        refine gw_tsw rfl 106 (by rw [if_pos (Or.inl h0)]; rfl) ?_
        (repeat (first | refine gx_run 999 80 rfl ?_ | refine gx_goto rfl rfl ?_))
        refine gx_iret rfl rfl ?_
        exact hQ
      · (repeat (first | refine gx_run 999 80 rfl ?_ | refine gx_goto rfl rfl ?_))
        refine gx_call rfl rfl rfl ?_
        refine mw_isG hT.2.2.2 ?_
        rw [gb_t hg]
        (repeat (first | refine gx_run 999 80 rfl ?_ | refine gx_goto rfl rfl ?_))
        first | refine gx_ift rfl (by dsimp only [gn_cmp] <;> decide) ?_ | refine gx_ict rfl (by dsimp only [gn_cmp] <;> decide) ?_
        (repeat (first | refine gx_run 999 80 rfl ?_ | refine gx_goto rfl rfl ?_))
        refine gw_tsw rfl 99 (by rw [if_pos (Or.inl h0)]; rfl) ?_
        (repeat (first | refine gx_run 999 80 rfl ?_ | refine gx_goto rfl rfl ?_))
        refine gx_iret rfl rfl ?_
        exact hQ
    · have h2 : (5 : Int) < w.toInt := by
        have h3 := Int32.le_iff_toInt_le.mp h
        rw [nI_toInt (by decide)] at h3
        omega
      refine gPair.q hI (-1000000002) (fun Q hQ => ?_) (fun Q hQ => ?_)
      · (repeat (first | refine gx_run 999 80 rfl ?_ | refine gx_goto rfl rfl ?_))
        rw [hd]
        refine gx_call rfl rfl rfl ?_
        refine xw_isG hT.2.2.1 ?_
        rw [gb_t hg]
        (repeat (first | refine gx_run 999 80 rfl ?_ | refine gx_goto rfl rfl ?_))
        first | refine gx_ift rfl (by dsimp only [gn_cmp] <;> decide) ?_ | refine gx_ict rfl (by dsimp only [gn_cmp] <;> decide) ?_
        (repeat (first | refine gx_run 999 80 rfl ?_ | refine gx_goto rfl rfl ?_))
        refine gw_tsw rfl 106 (by rw [if_pos (Or.inr h2)]; rfl) ?_
        (repeat (first | refine gx_run 999 80 rfl ?_ | refine gx_goto rfl rfl ?_))
        refine gx_iret rfl rfl ?_
        exact hQ
      · (repeat (first | refine gx_run 999 80 rfl ?_ | refine gx_goto rfl rfl ?_))
        refine gx_call rfl rfl rfl ?_
        refine mw_isG hT.2.2.2 ?_
        rw [gb_t hg]
        (repeat (first | refine gx_run 999 80 rfl ?_ | refine gx_goto rfl rfl ?_))
        first | refine gx_ift rfl (by dsimp only [gn_cmp] <;> decide) ?_ | refine gx_ict rfl (by dsimp only [gn_cmp] <;> decide) ?_
        (repeat (first | refine gx_run 999 80 rfl ?_ | refine gx_goto rfl rfl ?_))
        refine gw_tsw rfl 99 (by rw [if_pos (Or.inr h2)]; rfl) ?_
        (repeat (first | refine gx_run 999 80 rfl ?_ | refine gx_goto rfl rfl ?_))
        refine gx_iret rfl rfl ?_
        exact hQ
    · have key : ∀ v : Int32, (∀ Q : Option Value → gn_Mem → Prop, Q (some (.int v)) σ → gn_W 20 96 15 [.ref 0, .int (nI j), .int (nI i)] [.int (nI i)] σ Q) → (∀ Q : Option Value → gn_Mem → Prop, Q (some (.int v)) σ → gn_W 20 160 12 [.ref 44, .int (nI j), .int (nI i)] [.int (nI i)] σ Q) → gPair 96 160 [.int (nI j), .int (nI i)] σ := by
        intro v k1 k2
        refine gPair.q hI v (fun Q hQ => ?_) (fun Q hQ => ?_)
        · (repeat (first | refine gx_run 999 80 rfl ?_ | refine gx_goto rfl rfl ?_))
          rw [hd]
          refine gx_call rfl rfl rfl ?_
          refine xw_isG hT.2.2.1 ?_
          rw [gb_t hg]
          (repeat (first | refine gx_run 999 80 rfl ?_ | refine gx_goto rfl rfl ?_))
          first | refine gx_ift rfl (by dsimp only [gn_cmp] <;> decide) ?_ | refine gx_ict rfl (by dsimp only [gn_cmp] <;> decide) ?_
          (repeat (first | refine gx_run 999 80 rfl ?_ | refine gx_goto rfl rfl ?_))
          exact k1 Q hQ
        · (repeat (first | refine gx_run 999 80 rfl ?_ | refine gx_goto rfl rfl ?_))
          refine gx_call rfl rfl rfl ?_
          refine mw_isG hT.2.2.2 ?_
          rw [gb_t hg]
          (repeat (first | refine gx_run 999 80 rfl ?_ | refine gx_goto rfl rfl ?_))
          first | refine gx_ift rfl (by dsimp only [gn_cmp] <;> decide) ?_ | refine gx_ict rfl (by dsimp only [gn_cmp] <;> decide) ?_
          (repeat (first | refine gx_run 999 80 rfl ?_ | refine gx_goto rfl rfl ?_))
          exact k2 Q hQ
      rcases (show i = 0 ∨ i = 1 ∨ i = 2 ∨ i = 3 ∨ i = 4 ∨ i = 5 by omega) with rfl | rfl | rfl | rfl | rfl | rfl
      · refine key (nI (dP D j)) (fun Q hQ => ?_) (fun Q hQ => ?_)
        · refine gw_tsw rfl 52 (by decide) ?_
          (repeat (first | refine gx_run 999 80 rfl ?_ | refine gx_goto rfl rfl ?_))
          rw [hd]
          refine gx_call rfl rfl rfl ?_
          refine xw_pride hT.2.2.1 hj ?_
          (repeat (first | refine gx_run 999 80 rfl ?_ | refine gx_goto rfl rfl ?_))
          refine gx_iret rfl rfl ?_
          exact hQ
        · refine gw_tsw rfl 52 (by decide) ?_
          (repeat (first | refine gx_run 999 80 rfl ?_ | refine gx_goto rfl rfl ?_))
          refine gx_ld j rfl (by omega) (hT.2.2.2.2.2.2.2.2.1 j hj).1 rfl rfl rfl ?_
          refine gx_iret rfl rfl ?_
          exact hQ
      · refine key (nI (dC D j)) (fun Q hQ => ?_) (fun Q hQ => ?_)
        · refine gw_tsw rfl 61 (by decide) ?_
          (repeat (first | refine gx_run 999 80 rfl ?_ | refine gx_goto rfl rfl ?_))
          rw [hd]
          refine gx_call rfl rfl rfl ?_
          refine xw_claimCount hT.2.2.1 hj ?_
          (repeat (first | refine gx_run 999 80 rfl ?_ | refine gx_goto rfl rfl ?_))
          refine gx_iret rfl rfl ?_
          exact hQ
        · refine gw_tsw rfl 59 (by decide) ?_
          (repeat (first | refine gx_run 999 80 rfl ?_ | refine gx_goto rfl rfl ?_))
          refine gx_ld j rfl (by omega) (hT.2.2.2.2.2.2.2.2.1 j hj).2 rfl rfl rfl ?_
          refine gx_iret rfl rfl ?_
          exact hQ
      · refine key (nI (A j)) (fun Q hQ => ?_) (fun Q hQ => ?_)
        · refine gw_tsw rfl 70 (by decide) ?_
          (repeat (first | refine gx_run 999 80 rfl ?_ | refine gx_goto rfl rfl ?_))
          refine gx_call rfl rfl rfl ?_
          refine xw_said hN.1 (by omega) ?_
          (repeat (first | refine gx_run 999 80 rfl ?_ | refine gx_goto rfl rfl ?_))
          refine gx_iret rfl rfl ?_
          exact hQ
        · refine gw_tsw rfl 66 (by decide) ?_
          (repeat (first | refine gx_run 999 80 rfl ?_ | refine gx_goto rfl rfl ?_))
          refine gx_ld j rfl (by omega) (hN.2.1.said (by omega)) rfl rfl rfl ?_
          refine gx_iret rfl rfl ?_
          exact hQ
      · refine key (e1 (A (6 + j))) (fun Q hQ => ?_) (fun Q hQ => ?_)
        · refine gw_tsw rfl 79 (by decide) ?_
          (repeat (first | refine gx_run 999 80 rfl ?_ | refine gx_goto rfl rfl ?_))
          refine gx_call rfl rfl rfl ?_
          refine xw_toldBy hN.1 (by omega) ?_
          (repeat (first | refine gx_run 999 80 rfl ?_ | refine gx_goto rfl rfl ?_))
          refine gx_iret rfl rfl ?_
          exact hQ
        · refine gw_tsw rfl 73 (by decide) ?_
          (repeat (first | refine gx_run 999 80 rfl ?_ | refine gx_goto rfl rfl ?_))
          refine gx_ld (6 + j) (nI_add 6 j) (by omega) (hN.2.1.by (by omega)) rfl rfl rfl ?_
          refine gx_iret rfl rfl ?_
          exact hQ
      · refine key (e1 (A (12 + j))) (fun Q hQ => ?_) (fun Q hQ => ?_)
        · refine gw_tsw rfl 88 (by decide) ?_
          (repeat (first | refine gx_run 999 80 rfl ?_ | refine gx_goto rfl rfl ?_))
          refine gx_call rfl rfl rfl ?_
          refine xw_toldAt hN.1 (by omega) ?_
          (repeat (first | refine gx_run 999 80 rfl ?_ | refine gx_goto rfl rfl ?_))
          refine gx_iret rfl rfl ?_
          exact hQ
        · refine gw_tsw rfl 83 (by decide) ?_
          (repeat (first | refine gx_run 999 80 rfl ?_ | refine gx_goto rfl rfl ?_))
          refine gx_ld (12 + j) (nI_add 12 j) (by omega) (hN.2.1.at (by omega)) rfl rfl rfl ?_
          refine gx_iret rfl rfl ?_
          exact hQ
      · refine key (eo (wA D j)) (fun Q hQ => ?_) (fun Q hQ => ?_)
        · refine gw_tsw rfl 97 (by decide) ?_
          (repeat (first | refine gx_run 999 80 rfl ?_ | refine gx_goto rfl rfl ?_))
          rw [hd]
          refine gx_call rfl rfl rfl ?_
          refine xw_wrongAt hT.2.2.1 hj ?_
          (repeat (first | refine gx_run 999 80 rfl ?_ | refine gx_goto rfl rfl ?_))
          refine gx_iret rfl rfl ?_
          exact hQ
        · refine gw_tsw rfl 93 (by decide) ?_
          (repeat (first | refine gx_run 999 80 rfl ?_ | refine gx_goto rfl rfl ?_))
          refine gx_call rfl rfl rfl ?_
          refine mw_wrongAt hT.2.2.2 hj ?_
          (repeat (first | refine gx_run 999 80 rfl ?_ | refine gx_goto rfl rfl ?_))
          refine gx_iret rfl rfl ?_
          exact hQ
  · refine gPair.q hI (-1000000001) (fun Q hQ => ?_) (fun Q hQ => ?_)
    · (repeat (first | refine gx_run 999 80 rfl ?_ | refine gx_goto rfl rfl ?_))
      rw [hd]
      refine gx_call rfl rfl rfl ?_
      refine xw_isG hT.2.2.1 ?_
      rw [gb_f hg]
      (repeat (first | refine gx_run 999 80 rfl ?_ | refine gx_goto rfl rfl ?_))
      first | refine gx_iff rfl (by dsimp only [gn_cmp] <;> decide) ?_ | refine gx_icf rfl (by dsimp only [gn_cmp] <;> decide) ?_
      (repeat (first | refine gx_run 999 80 rfl ?_ | refine gx_goto rfl rfl ?_))
      refine gx_iret rfl rfl ?_
      exact hQ
    · (repeat (first | refine gx_run 999 80 rfl ?_ | refine gx_goto rfl rfl ?_))
      refine gx_call rfl rfl rfl ?_
      refine mw_isG hT.2.2.2 ?_
      rw [gb_f hg]
      (repeat (first | refine gx_run 999 80 rfl ?_ | refine gx_goto rfl rfl ?_))
      first | refine gx_iff rfl (by dsimp only [gn_cmp] <;> decide) ?_ | refine gx_icf rfl (by dsimp only [gn_cmp] <;> decide) ?_
      (repeat (first | refine gx_run 999 80 rfl ?_ | refine gx_goto rfl rfl ?_))
      refine gx_iret rfl rfl ?_
      exact hQ
theorem xw_noClaim {d : Nat} {σ : gn_Mem} {Q : Option Value → gn_Mem → Prop} {k : Int32} (hQ : Q (some (.int (gb (¬ (¬ k < 0 ∧ ¬ nI 6 ≤ k))))) σ) : gn_W d 124 0 [.int k] [] σ Q := by
  (repeat (first | refine gx_run 999 80 rfl ?_ | refine gx_goto rfl rfl ?_))
  first | refine gw_if rfl (fun h => ?_) (fun h => ?_) | refine gw_icmp rfl (fun h => ?_) (fun h => ?_)
  · (repeat (first | refine gx_run 999 80 rfl ?_ | refine gx_goto rfl rfl ?_))
    refine gw_zret rfl (Or.inr rfl) ?_
    have e : gb (¬ (¬ k < 0 ∧ ¬ nI 6 ≤ k)) = 1 := gb_t (fun q => q.1 h)
    rw [e] at hQ; exact hQ
  · (repeat (first | refine gx_run 999 80 rfl ?_ | refine gx_goto rfl rfl ?_))
    first | refine gw_if rfl (fun h2 => ?_) (fun h2 => ?_) | refine gw_icmp rfl (fun h2 => ?_) (fun h2 => ?_)
    · (repeat (first | refine gx_run 999 80 rfl ?_ | refine gx_goto rfl rfl ?_))
      refine gw_zret rfl (Or.inl rfl) ?_
      have e : gb (¬ (¬ k < 0 ∧ ¬ nI 6 ≤ k)) = 0 := gb_f (fun q => q ⟨h, fun z => absurd h2 (Int32.not_lt.mpr z)⟩)
      rw [e] at hQ; exact hQ
    · (repeat (first | refine gx_run 999 80 rfl ?_ | refine gx_goto rfl rfl ?_))
      refine gw_zret rfl (Or.inr rfl) ?_
      have e : gb (¬ (¬ k < 0 ∧ ¬ nI 6 ≤ k)) = 1 := gb_t (fun q => q.2 (Int32.not_lt.mp h2))
      rw [e] at hQ; exact hQ
theorem xw_noTopic {d : Nat} {σ : gn_Mem} {Q : Option Value → gn_Mem → Prop} {k : Int32} (hQ : Q (some (.int (gb (¬ (¬ k < 0 ∧ ¬ nI 8 ≤ k))))) σ) : gn_W d 125 0 [.int k] [] σ Q := by
  (repeat (first | refine gx_run 999 80 rfl ?_ | refine gx_goto rfl rfl ?_))
  first | refine gw_if rfl (fun h => ?_) (fun h => ?_) | refine gw_icmp rfl (fun h => ?_) (fun h => ?_)
  · (repeat (first | refine gx_run 999 80 rfl ?_ | refine gx_goto rfl rfl ?_))
    refine gw_zret rfl (Or.inr rfl) ?_
    have e : gb (¬ (¬ k < 0 ∧ ¬ nI 8 ≤ k)) = 1 := gb_t (fun q => q.1 h)
    rw [e] at hQ; exact hQ
  · (repeat (first | refine gx_run 999 80 rfl ?_ | refine gx_goto rfl rfl ?_))
    first | refine gw_if rfl (fun h2 => ?_) (fun h2 => ?_) | refine gw_icmp rfl (fun h2 => ?_) (fun h2 => ?_)
    · (repeat (first | refine gx_run 999 80 rfl ?_ | refine gx_goto rfl rfl ?_))
      refine gw_zret rfl (Or.inl rfl) ?_
      have e : gb (¬ (¬ k < 0 ∧ ¬ nI 8 ≤ k)) = 0 := gb_f (fun q => q ⟨h, fun z => absurd h2 (Int32.not_lt.mpr z)⟩)
      rw [e] at hQ; exact hQ
    · (repeat (first | refine gx_run 999 80 rfl ?_ | refine gx_goto rfl rfl ?_))
      refine gw_zret rfl (Or.inr rfl) ?_
      have e : gb (¬ (¬ k < 0 ∧ ¬ nI 8 ≤ k)) = 1 := gb_t (fun q => q.2 (Int32.not_lt.mp h2))
      rw [e] at hQ; exact hQ
/-- in(k, 0, n - 1) -/
theorem mw_in0 {d : Nat} {σ : gn_Mem} {Q : Option Value → gn_Mem → Prop} {k m : Int32} (n : Nat) (hn : 0 < n ∧ n < 1000) (hm : m = nI (n - 1)) (hQ : Q (some (.int (gb (¬ k < 0 ∧ ¬ nI n ≤ k)))) σ) : gn_W d 130 0 [.int k, .int 0, .int m] [] σ Q := by
  refine mw_in ?_
  obtain ⟨j, rfl⟩ : ∃ j, n = j + 1 := ⟨n - 1, by omega⟩
  have e : m = nI (j + 1) - 1 := by rw [nI_pred, hm]; rfl
  rw [e, ← gb_cong (ig_eq hn.2 k)]
  exact hQ
