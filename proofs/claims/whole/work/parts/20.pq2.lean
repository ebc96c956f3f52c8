/-! public questions, two -/
theorem le12 {w : Int32} (q : w ≤ 1) (z : nI 2 ≤ w) : False := by
  have h3 := Int32.le_iff_toInt_le.mp q
  have h4 := Int32.le_iff_toInt_le.mp z
  have e1 : (1 : Int32).toInt = 1 := by decide
  have e2 : (nI 2).toInt = 2 := by decide
  omega
theorem p_claim {σ : gn_Mem} (hI : Inv σ) (g k w : Int32) : gPair 97 161 [.int g, .int k, .int w] σ := by
  obtain ⟨D, A, c, nx, B, z, I, e, T, Z, b, G, H, n, L, hT, hN, hS, hP, hII, hE, hB, hX, hF⟩ := id hI
  have hd := hT.1
  have hle := hT.2.2.1.1.1
  have hhe := hT.2.2.1.1.2.1
  by_cases hg : ¬ g < 0 ∧ ¬ nI (dG D) ≤ g
  · obtain ⟨j, hj, rfl⟩ := in_of (by omega) hg
    have hc := hT.2.2.1.1.2.2.2.2.1 j hj
    by_cases hk : ¬ k < 0 ∧ ¬ nI 6 ≤ k
    · obtain ⟨i, hi, rfl⟩ := in_of (by omega) hk
      by_cases hw : ¬ w < 0 ∧ ¬ nI 2 ≤ w
      · obtain ⟨u, hu, rfl⟩ := in_of (by omega) hw
        rcases (show u = 0 ∨ u = 1 by omega) with rfl | rfl
        · refine gPair.q hI (if i < dC D j then nI (dT D j i) else -1) (fun Q hQ => ?_) (fun Q hQ => ?_)
          · (repeat (first | refine gx_run 999 80 rfl ?_ | refine gx_goto rfl rfl ?_))
            rw [hd]
            refine gx_call rfl rfl rfl ?_
            refine xw_isG hT.2.2.1 ?_
            rw [gb_t hg]
            (repeat (first | refine gx_run 999 80 rfl ?_ | refine gx_goto rfl rfl ?_))
            first | refine gx_ift rfl (by dsimp only [gn_cmp] <;> decide) ?_ | refine gx_ict rfl (by dsimp only [gn_cmp] <;> decide) ?_
            (repeat (first | refine gx_run 999 80 rfl ?_ | refine gx_goto rfl rfl ?_))
            refine gw_calls rfl rfl rfl ?_
            refine xw_noClaim ?_
            rw [show gb (¬ (¬ nI i < 0 ∧ ¬ nI 6 ≤ nI i)) = 0 from gb_f (fun q => q hk)]
            (repeat (first | refine gx_run 999 80 rfl ?_ | refine gx_goto rfl rfl ?_))
            first | refine gx_iff rfl (by dsimp only [gn_cmp] <;> decide) ?_ | refine gx_icf rfl (by dsimp only [gn_cmp] <;> decide) ?_
            (repeat (first | refine gx_run 999 80 rfl ?_ | refine gx_goto rfl rfl ?_))
            first | refine gx_iff rfl (by dsimp only [gn_cmp] <;> decide) ?_ | refine gx_icf rfl (by dsimp only [gn_cmp] <;> decide) ?_
            (repeat (first | refine gx_run 999 80 rfl ?_ | refine gx_goto rfl rfl ?_))
            first | refine gx_ift rfl (by dsimp only [gn_cmp] <;> decide) ?_ | refine gx_ict rfl (by dsimp only [gn_cmp] <;> decide) ?_
            (repeat (first | refine gx_run 999 80 rfl ?_ | refine gx_goto rfl rfl ?_))
            first | refine gx_iff rfl (by dsimp only [gn_cmp] <;> decide) ?_ | refine gx_icf rfl (by dsimp only [gn_cmp] <;> decide) ?_
            (repeat (first | refine gx_run 999 80 rfl ?_ | refine gx_goto rfl rfl ?_))
            rw [hd]
            refine gx_call rfl rfl rfl ?_
            refine xw_topic hT.2.2.1 hj hi ?_
            (repeat (first | refine gx_run 999 80 rfl ?_ | refine gx_goto rfl rfl ?_))
            refine gx_iret rfl rfl ?_
            exact hQ
          · (repeat (first | refine gx_run 999 80 rfl ?_ | refine gx_goto rfl rfl ?_))
            refine gx_call rfl rfl rfl ?_
            refine mw_isG hT.2.2.2 ?_
            rw [gb_t hg]
            (repeat (first | refine gx_run 999 80 rfl ?_ | refine gx_goto rfl rfl ?_))
            first | refine gx_ift rfl (by dsimp only [gn_cmp] <;> decide) ?_ | refine gx_ict rfl (by dsimp only [gn_cmp] <;> decide) ?_
            (repeat (first | refine gx_run 999 80 rfl ?_ | refine gx_goto rfl rfl ?_))
            refine gw_calls rfl rfl rfl ?_
            refine mw_in0 6 (by omega) rfl ?_
            rw [gb_t hk]
            (repeat (first | refine gx_run 999 80 rfl ?_ | refine gx_goto rfl rfl ?_))
            first | refine gx_iff rfl (by dsimp only [gn_cmp] <;> decide) ?_ | refine gx_icf rfl (by dsimp only [gn_cmp] <;> decide) ?_
            (repeat (first | refine gx_run 999 80 rfl ?_ | refine gx_goto rfl rfl ?_))
            refine gw_calls rfl rfl rfl ?_
            refine mw_in0 2 (by omega) rfl ?_
            rw [gb_t hw]
            (repeat (first | refine gx_run 999 80 rfl ?_ | refine gx_goto rfl rfl ?_))
            first | refine gx_ift rfl (by dsimp only [gn_cmp] <;> decide) ?_ | refine gx_ict rfl (by dsimp only [gn_cmp] <;> decide) ?_
            (repeat (first | refine gx_run 999 80 rfl ?_ | refine gx_goto rfl rfl ?_))
            refine gx_ld j rfl (by omega) (hT.2.2.2.2.2.2.2.2.1 j hj).2 rfl rfl rfl ?_
            by_cases hl : i < dC D j
            · rw [if_pos hl] at hQ
              first | refine gx_ift rfl (nI_lt hl (by omega)) ?_ | refine gx_ict rfl (nI_lt hl (by omega)) ?_
              (repeat (first | refine gx_run 999 80 rfl ?_ | refine gx_goto rfl rfl ?_))
              first | refine gx_iff rfl (by dsimp only [gn_cmp] <;> decide) ?_ | refine gx_icf rfl (by dsimp only [gn_cmp] <;> decide) ?_
              (repeat (first | refine gx_run 999 80 rfl ?_ | refine gx_goto rfl rfl ?_))
              refine gx_call rfl rfl rfl ?_
              refine mw_topicOf hT.2.2.2 hj hl ?_
              (repeat (first | refine gx_run 999 80 rfl ?_ | refine gx_goto rfl rfl ?_))
              refine gx_iret rfl rfl ?_
              exact hQ
            · rw [if_neg hl] at hQ
              first | refine gx_iff rfl (nI_nlt (by omega) (by omega)) ?_ | refine gx_icf rfl (nI_nlt (by omega) (by omega)) ?_
              (repeat (first | refine gx_run 999 80 rfl ?_ | refine gx_goto rfl rfl ?_))
              refine gx_iret rfl rfl ?_
              exact hQ
        · refine gPair.q hI (if i < dC D j then nI (dB D j i) else -1) (fun Q hQ => ?_) (fun Q hQ => ?_)
          · (repeat (first | refine gx_run 999 80 rfl ?_ | refine gx_goto rfl rfl ?_))
            rw [hd]
            refine gx_call rfl rfl rfl ?_
            refine xw_isG hT.2.2.1 ?_
            rw [gb_t hg]
            (repeat (first | refine gx_run 999 80 rfl ?_ | refine gx_goto rfl rfl ?_))
            first | refine gx_ift rfl (by dsimp only [gn_cmp] <;> decide) ?_ | refine gx_ict rfl (by dsimp only [gn_cmp] <;> decide) ?_
            (repeat (first | refine gx_run 999 80 rfl ?_ | refine gx_goto rfl rfl ?_))
            refine gw_calls rfl rfl rfl ?_
            refine xw_noClaim ?_
            rw [show gb (¬ (¬ nI i < 0 ∧ ¬ nI 6 ≤ nI i)) = 0 from gb_f (fun q => q hk)]
            (repeat (first | refine gx_run 999 80 rfl ?_ | refine gx_goto rfl rfl ?_))
            first | refine gx_iff rfl (by dsimp only [gn_cmp] <;> decide) ?_ | refine gx_icf rfl (by dsimp only [gn_cmp] <;> decide) ?_
            (repeat (first | refine gx_run 999 80 rfl ?_ | refine gx_goto rfl rfl ?_))
            first | refine gx_iff rfl (by dsimp only [gn_cmp] <;> decide) ?_ | refine gx_icf rfl (by dsimp only [gn_cmp] <;> decide) ?_
            (repeat (first | refine gx_run 999 80 rfl ?_ | refine gx_goto rfl rfl ?_))
            first | refine gx_ift rfl (by dsimp only [gn_cmp] <;> decide) ?_ | refine gx_ict rfl (by dsimp only [gn_cmp] <;> decide) ?_
            (repeat (first | refine gx_run 999 80 rfl ?_ | refine gx_goto rfl rfl ?_))
            first | refine gx_ift rfl (by dsimp only [gn_cmp] <;> decide) ?_ | refine gx_ict rfl (by dsimp only [gn_cmp] <;> decide) ?_
            (repeat (first | refine gx_run 999 80 rfl ?_ | refine gx_goto rfl rfl ?_))
            rw [hd]
            refine gx_call rfl rfl rfl ?_
            refine xw_bold hT.2.2.1 hj hi ?_
            (repeat (first | refine gx_run 999 80 rfl ?_ | refine gx_goto rfl rfl ?_))
            refine gx_iret rfl rfl ?_
            exact hQ
          · (repeat (first | refine gx_run 999 80 rfl ?_ | refine gx_goto rfl rfl ?_))
            refine gx_call rfl rfl rfl ?_
            refine mw_isG hT.2.2.2 ?_
            rw [gb_t hg]
            (repeat (first | refine gx_run 999 80 rfl ?_ | refine gx_goto rfl rfl ?_))
            first | refine gx_ift rfl (by dsimp only [gn_cmp] <;> decide) ?_ | refine gx_ict rfl (by dsimp only [gn_cmp] <;> decide) ?_
            (repeat (first | refine gx_run 999 80 rfl ?_ | refine gx_goto rfl rfl ?_))
            refine gw_calls rfl rfl rfl ?_
            refine mw_in0 6 (by omega) rfl ?_
            rw [gb_t hk]
            (repeat (first | refine gx_run 999 80 rfl ?_ | refine gx_goto rfl rfl ?_))
            first | refine gx_iff rfl (by dsimp only [gn_cmp] <;> decide) ?_ | refine gx_icf rfl (by dsimp only [gn_cmp] <;> decide) ?_
            (repeat (first | refine gx_run 999 80 rfl ?_ | refine gx_goto rfl rfl ?_))
            refine gw_calls rfl rfl rfl ?_
            refine mw_in0 2 (by omega) rfl ?_
            rw [gb_t hw]
            (repeat (first | refine gx_run 999 80 rfl ?_ | refine gx_goto rfl rfl ?_))
            first | refine gx_ift rfl (by dsimp only [gn_cmp] <;> decide) ?_ | refine gx_ict rfl (by dsimp only [gn_cmp] <;> decide) ?_
            (repeat (first | refine gx_run 999 80 rfl ?_ | refine gx_goto rfl rfl ?_))
            refine gx_ld j rfl (by omega) (hT.2.2.2.2.2.2.2.2.1 j hj).2 rfl rfl rfl ?_
            by_cases hl : i < dC D j
            · rw [if_pos hl] at hQ
              first | refine gx_ift rfl (nI_lt hl (by omega)) ?_ | refine gx_ict rfl (nI_lt hl (by omega)) ?_
              (repeat (first | refine gx_run 999 80 rfl ?_ | refine gx_goto rfl rfl ?_))
              first | refine gx_ift rfl (by dsimp only [gn_cmp] <;> decide) ?_ | refine gx_ict rfl (by dsimp only [gn_cmp] <;> decide) ?_
              (repeat (first | refine gx_run 999 80 rfl ?_ | refine gx_goto rfl rfl ?_))
              refine gx_call rfl rfl rfl ?_
              refine mw_boldOf hT.2.2.2 hj hl ?_
              (repeat (first | refine gx_run 999 80 rfl ?_ | refine gx_goto rfl rfl ?_))
              refine gx_iret rfl rfl ?_
              exact hQ
            · rw [if_neg hl] at hQ
              first | refine gx_iff rfl (nI_nlt (by omega) (by omega)) ?_ | refine gx_icf rfl (nI_nlt (by omega) (by omega)) ?_
              (repeat (first | refine gx_run 999 80 rfl ?_ | refine gx_goto rfl rfl ?_))
              refine gx_iret rfl rfl ?_
              exact hQ
      · refine gPair.q hI (-1000000002) (fun Q hQ => ?_) (fun Q hQ => ?_)
        · (repeat (first | refine gx_run 999 80 rfl ?_ | refine gx_goto rfl rfl ?_))
          rw [hd]
          refine gx_call rfl rfl rfl ?_
          refine xw_isG hT.2.2.1 ?_
          rw [gb_t hg]
          (repeat (first | refine gx_run 999 80 rfl ?_ | refine gx_goto rfl rfl ?_))
          first | refine gx_ift rfl (by dsimp only [gn_cmp] <;> decide) ?_ | refine gx_ict rfl (by dsimp only [gn_cmp] <;> decide) ?_
          (repeat (first | refine gx_run 999 80 rfl ?_ | refine gx_goto rfl rfl ?_))
          refine gw_calls rfl rfl rfl ?_
          refine xw_noClaim ?_
          rw [show gb (¬ (¬ nI i < 0 ∧ ¬ nI 6 ≤ nI i)) = 0 from gb_f (fun q => q hk)]
          (repeat (first | refine gx_run 999 80 rfl ?_ | refine gx_goto rfl rfl ?_))
          first | refine gx_iff rfl (by dsimp only [gn_cmp] <;> decide) ?_ | refine gx_icf rfl (by dsimp only [gn_cmp] <;> decide) ?_
          (repeat (first | refine gx_run 999 80 rfl ?_ | refine gx_goto rfl rfl ?_))
          first | refine gw_if rfl (fun h1 => ?_) (fun h1 => ?_) | refine gw_icmp rfl (fun h1 => ?_) (fun h1 => ?_)
          · (repeat (first | refine gx_run 999 80 rfl ?_ | refine gx_goto rfl rfl ?_))
            refine gx_iret rfl rfl ?_
            exact hQ
          · (repeat (first | refine gx_run 999 80 rfl ?_ | refine gx_goto rfl rfl ?_))
            first | refine gx_iff rfl (fun q => hw ⟨h1, fun z => le12 q z⟩) ?_ | refine gx_icf rfl (fun q => hw ⟨h1, fun z => le12 q z⟩) ?_
            (repeat (first | refine gx_run 999 80 rfl ?_ | refine gx_goto rfl rfl ?_))
            refine gx_iret rfl rfl ?_
            exact hQ
        · (repeat (first | refine gx_run 999 80 rfl ?_ | refine gx_goto rfl rfl ?_))
          refine gx_call rfl rfl rfl ?_
          refine mw_isG hT.2.2.2 ?_
          rw [gb_t hg]
          (repeat (first | refine gx_run 999 80 rfl ?_ | refine gx_goto rfl rfl ?_))
          first | refine gx_ift rfl (by dsimp only [gn_cmp] <;> decide) ?_ | refine gx_ict rfl (by dsimp only [gn_cmp] <;> decide) ?_
          (repeat (first | refine gx_run 999 80 rfl ?_ | refine gx_goto rfl rfl ?_))
          refine gw_calls rfl rfl rfl ?_
          refine mw_in0 6 (by omega) rfl ?_
          rw [gb_t hk]
          (repeat (first | refine gx_run 999 80 rfl ?_ | refine gx_goto rfl rfl ?_))
          first | refine gx_iff rfl (by dsimp only [gn_cmp] <;> decide) ?_ | refine gx_icf rfl (by dsimp only [gn_cmp] <;> decide) ?_
          (repeat (first | refine gx_run 999 80 rfl ?_ | refine gx_goto rfl rfl ?_))
          refine gw_calls rfl rfl rfl ?_
          refine mw_in0 2 (by omega) rfl ?_
          rw [gb_f hw]
          (repeat (first | refine gx_run 999 80 rfl ?_ | refine gx_goto rfl rfl ?_))
          first | refine gx_iff rfl (by dsimp only [gn_cmp] <;> decide) ?_ | refine gx_icf rfl (by dsimp only [gn_cmp] <;> decide) ?_
          (repeat (first | refine gx_run 999 80 rfl ?_ | refine gx_goto rfl rfl ?_))
          refine gx_iret rfl rfl ?_
          exact hQ
    · refine gPair.q hI (-1000000002) (fun Q hQ => ?_) (fun Q hQ => ?_)
      · (repeat (first | refine gx_run 999 80 rfl ?_ | refine gx_goto rfl rfl ?_))
        rw [hd]
        refine gx_call rfl rfl rfl ?_
        refine xw_isG hT.2.2.1 ?_
        rw [gb_t hg]
        (repeat (first | refine gx_run 999 80 rfl ?_ | refine gx_goto rfl rfl ?_))
        first | refine gx_ift rfl (by dsimp only [gn_cmp] <;> decide) ?_ | refine gx_ict rfl (by dsimp only [gn_cmp] <;> decide) ?_
        (repeat (first | refine gx_run 999 80 rfl ?_ | refine gx_goto rfl rfl ?_))
        refine gw_calls rfl rfl rfl ?_
        refine xw_noClaim ?_
        rw [show gb (¬ (¬ k < 0 ∧ ¬ nI 6 ≤ k)) = 1 from gb_t hk]
        (repeat (first | refine gx_run 999 80 rfl ?_ | refine gx_goto rfl rfl ?_))
        first | refine gx_ift rfl (by dsimp only [gn_cmp] <;> decide) ?_ | refine gx_ict rfl (by dsimp only [gn_cmp] <;> decide) ?_
        (repeat (first | refine gx_run 999 80 rfl ?_ | refine gx_goto rfl rfl ?_))
        refine gx_iret rfl rfl ?_
        exact hQ
      · (repeat (first | refine gx_run 999 80 rfl ?_ | refine gx_goto rfl rfl ?_))
        refine gx_call rfl rfl rfl ?_
        refine mw_isG hT.2.2.2 ?_
        rw [gb_t hg]
        (repeat (first | refine gx_run 999 80 rfl ?_ | refine gx_goto rfl rfl ?_))
        first | refine gx_ift rfl (by dsimp only [gn_cmp] <;> decide) ?_ | refine gx_ict rfl (by dsimp only [gn_cmp] <;> decide) ?_
        (repeat (first | refine gx_run 999 80 rfl ?_ | refine gx_goto rfl rfl ?_))
        refine gw_calls rfl rfl rfl ?_
        refine mw_in0 6 (by omega) rfl ?_
        rw [gb_f hk]
        (repeat (first | refine gx_run 999 80 rfl ?_ | refine gx_goto rfl rfl ?_))
        first | refine gx_ift rfl (by dsimp only [gn_cmp] <;> decide) ?_ | refine gx_ict rfl (by dsimp only [gn_cmp] <;> decide) ?_
        (repeat (first | refine gx_run 999 80 rfl ?_ | refine gx_goto rfl rfl ?_))
        refine gx_iret rfl rfl ?_
        exact hQ
  · refine gPair.q hI (-1000000001) (fun Q hQ => ?_) (fun Q hQ => ?_)
    · (repeat (first | refine gx_run 999 80 rfl ?_ | refine gx_goto rfl rfl ?_))
      rw [hd]
      refine gx_call rfl rfl rfl ?_
      refine xw_isG hT.2.2.1 ?_
      rw [gb_f hg]
      (repeat (first | refine gx_run 999 80 rfl ?_ | refine gx_goto rfl rfl ?_))
      first | refine gx_iff rfl (by dsimp only [gn_cmp] <;> decide) ?_ | refine gx_icf rfl (by dsimp only [gn_cmp] <;> decide) ?_
      (repeat (first | refine gx_run 999 80 rfl ?_ | refine gx_goto rfl rfl ?_))
      refine gx_iret rfl rfl ?_
      exact hQ
    · (repeat (first | refine gx_run 999 80 rfl ?_ | refine gx_goto rfl rfl ?_))
      refine gx_call rfl rfl rfl ?_
      refine mw_isG hT.2.2.2 ?_
      rw [gb_f hg]
      (repeat (first | refine gx_run 999 80 rfl ?_ | refine gx_goto rfl rfl ?_))
      first | refine gx_iff rfl (by dsimp only [gn_cmp] <;> decide) ?_ | refine gx_icf rfl (by dsimp only [gn_cmp] <;> decide) ?_
      (repeat (first | refine gx_run 999 80 rfl ?_ | refine gx_goto rfl rfl ?_))
      refine gx_iret rfl rfl ?_
      exact hQ
theorem p_host {σ : gn_Mem} (hI : Inv σ) (g w : Int32) : gPair 98 162 [.int g, .int w] σ := by
  obtain ⟨D, A, c, nx, B, z, I, e, T, Z, b, G, H, n, L, hT, hN, hS, hP, hII, hE, hB, hX, hF⟩ := id hI
  have hd := hT.1
  have hhe := hT.2.2.1.1.2.1
  by_cases hg : ¬ g < 0 ∧ ¬ nI (dH D) ≤ g
  · obtain ⟨j, hj, rfl⟩ := in_of (by omega) hg
    rcases pk_ix w (n := 3) (by decide) with h | h | ⟨i, hi, rfl⟩
    · have h0 : w.toInt < 0 := Int32.lt_iff_toInt_lt.mp h
      refine gPair.q hI (-1000000002) (fun Q hQ => ?_) (fun Q hQ => ?_)
      · (repeat (first | refine gx_run 999 80 rfl ?_ | refine gx_goto rfl rfl ?_))
        rw [hd]
        refine gx_call rfl rfl rfl ?_
        refine xw_isH hT.2.2.1 ?_
        rw [gb_t hg]
        (repeat (first | refine gx_run 999 80 rfl ?_ | refine gx_goto rfl rfl ?_))
        first | refine gx_ift rfl (by dsimp only [gn_cmp] <;> decide) ?_ | refine gx_ict rfl (by dsimp only [gn_cmp] <;> decide) ?_
        (repeat (first | refine gx_run 999 80 rfl ?_ | refine gx_goto rfl rfl ?_))
        refine gw_tsw rfl 67 (by rw [if_pos (Or.inl h0)]; rfl) ?_
        (repeat (first | refine gx_run 999 80 rfl ?_ | refine gx_goto rfl rfl ?_))
        refine gx_iret rfl rfl ?_
        exact hQ
      · (repeat (first | refine gx_run 999 80 rfl ?_ | refine gx_goto rfl rfl ?_))
        refine gx_call rfl rfl rfl ?_
        refine mw_isH hT.2.2.2 ?_
        rw [gb_t hg]
        (repeat (first | refine gx_run 999 80 rfl ?_ | refine gx_goto rfl rfl ?_))
        first | refine gx_ift rfl (by dsimp only [gn_cmp] <;> decide) ?_ | refine gx_ict rfl (by dsimp only [gn_cmp] <;> decide) ?_
        (repeat (first | refine gx_run 999 80 rfl ?_ | refine gx_goto rfl rfl ?_))
        first | refine gx_ift rfl (fun q => by rw [q] at h0; exact absurd h0 (by decide)) ?_ | refine gx_ict rfl (fun q => by rw [q] at h0; exact absurd h0 (by decide)) ?_
        (repeat (first | refine gx_run 999 80 rfl ?_ | refine gx_goto rfl rfl ?_))
        first | refine gx_ift rfl (fun q => by rw [q] at h0; exact absurd h0 (by decide)) ?_ | refine gx_ict rfl (fun q => by rw [q] at h0; exact absurd h0 (by decide)) ?_
        (repeat (first | refine gx_run 999 80 rfl ?_ | refine gx_goto rfl rfl ?_))
        first | refine gx_ift rfl (fun q => by rw [q] at h0; exact absurd h0 (by decide)) ?_ | refine gx_ict rfl (fun q => by rw [q] at h0; exact absurd h0 (by decide)) ?_
        (repeat (first | refine gx_run 999 80 rfl ?_ | refine gx_goto rfl rfl ?_))
        refine gx_iret rfl rfl ?_
        exact hQ
    · have h2 : (2 : Int) < w.toInt := by
        have h3 := Int32.le_iff_toInt_le.mp h
        rw [nI_toInt (by decide)] at h3
        omega
      refine gPair.q hI (-1000000002) (fun Q hQ => ?_) (fun Q hQ => ?_)
      · (repeat (first | refine gx_run 999 80 rfl ?_ | refine gx_goto rfl rfl ?_))
        rw [hd]
        refine gx_call rfl rfl rfl ?_
        refine xw_isH hT.2.2.1 ?_
        rw [gb_t hg]
        (repeat (first | refine gx_run 999 80 rfl ?_ | refine gx_goto rfl rfl ?_))
        first | refine gx_ift rfl (by dsimp only [gn_cmp] <;> decide) ?_ | refine gx_ict rfl (by dsimp only [gn_cmp] <;> decide) ?_
        (repeat (first | refine gx_run 999 80 rfl ?_ | refine gx_goto rfl rfl ?_))
        refine gw_tsw rfl 67 (by rw [if_pos (Or.inr h2)]; rfl) ?_
        (repeat (first | refine gx_run 999 80 rfl ?_ | refine gx_goto rfl rfl ?_))
        refine gx_iret rfl rfl ?_
        exact hQ
      · (repeat (first | refine gx_run 999 80 rfl ?_ | refine gx_goto rfl rfl ?_))
        refine gx_call rfl rfl rfl ?_
        refine mw_isH hT.2.2.2 ?_
        rw [gb_t hg]
        (repeat (first | refine gx_run 999 80 rfl ?_ | refine gx_goto rfl rfl ?_))
        first | refine gx_ift rfl (by dsimp only [gn_cmp] <;> decide) ?_ | refine gx_ict rfl (by dsimp only [gn_cmp] <;> decide) ?_
        (repeat (first | refine gx_run 999 80 rfl ?_ | refine gx_goto rfl rfl ?_))
        first | refine gx_ift rfl (fun q => by rw [q] at h2; exact absurd h2 (by decide)) ?_ | refine gx_ict rfl (fun q => by rw [q] at h2; exact absurd h2 (by decide)) ?_
        (repeat (first | refine gx_run 999 80 rfl ?_ | refine gx_goto rfl rfl ?_))
        first | refine gx_ift rfl (fun q => by rw [q] at h2; exact absurd h2 (by decide)) ?_ | refine gx_ict rfl (fun q => by rw [q] at h2; exact absurd h2 (by decide)) ?_
        (repeat (first | refine gx_run 999 80 rfl ?_ | refine gx_goto rfl rfl ?_))
        first | refine gx_ift rfl (fun q => by rw [q] at h2; exact absurd h2 (by decide)) ?_ | refine gx_ict rfl (fun q => by rw [q] at h2; exact absurd h2 (by decide)) ?_
        (repeat (first | refine gx_run 999 80 rfl ?_ | refine gx_goto rfl rfl ?_))
        refine gx_iret rfl rfl ?_
        exact hQ
    · rcases (show i = 0 ∨ i = 1 ∨ i = 2 by omega) with rfl | rfl | rfl
      · refine gPair.q hI (nI (dK D j)) (fun Q hQ => ?_) (fun Q hQ => ?_)
        · (repeat (first | refine gx_run 999 80 rfl ?_ | refine gx_goto rfl rfl ?_))
          rw [hd]
          refine gx_call rfl rfl rfl ?_
          refine xw_isH hT.2.2.1 ?_
          rw [gb_t hg]
          (repeat (first | refine gx_run 999 80 rfl ?_ | refine gx_goto rfl rfl ?_))
          first | refine gx_ift rfl (by dsimp only [gn_cmp] <;> decide) ?_ | refine gx_ict rfl (by dsimp only [gn_cmp] <;> decide) ?_
          (repeat (first | refine gx_run 999 80 rfl ?_ | refine gx_goto rfl rfl ?_))
          refine gw_tsw rfl 40 (by decide) ?_
          (repeat (first | refine gx_run 999 80 rfl ?_ | refine gx_goto rfl rfl ?_))
          rw [hd]
          refine gx_call rfl rfl rfl ?_
          refine xw_kind hT.2.2.1 hj ?_
          (repeat (first | refine gx_run 999 80 rfl ?_ | refine gx_goto rfl rfl ?_))
          refine gx_iret rfl rfl ?_
          exact hQ
        · (repeat (first | refine gx_run 999 80 rfl ?_ | refine gx_goto rfl rfl ?_))
          refine gx_call rfl rfl rfl ?_
          refine mw_isH hT.2.2.2 ?_
          rw [gb_t hg]
          (repeat (first | refine gx_run 999 80 rfl ?_ | refine gx_goto rfl rfl ?_))
          first | refine gx_ift rfl (by dsimp only [gn_cmp] <;> decide) ?_ | refine gx_ict rfl (by dsimp only [gn_cmp] <;> decide) ?_
          (repeat (first | refine gx_run 999 80 rfl ?_ | refine gx_goto rfl rfl ?_))
          first | refine gx_iff rfl (by dsimp only [gn_cmp] <;> decide) ?_ | refine gx_icf rfl (by dsimp only [gn_cmp] <;> decide) ?_
          (repeat (first | refine gx_run 999 80 rfl ?_ | refine gx_goto rfl rfl ?_))
          refine gx_ld j rfl (by omega) (hT.2.2.2.2.2.2.2.2.2.2 j hj).1 rfl rfl rfl ?_
          (repeat (first | refine gx_run 999 80 rfl ?_ | refine gx_goto rfl rfl ?_))
          refine gx_iret rfl rfl ?_
          exact hQ
      · refine gPair.q hI (nI (dN D j)) (fun Q hQ => ?_) (fun Q hQ => ?_)
        · (repeat (first | refine gx_run 999 80 rfl ?_ | refine gx_goto rfl rfl ?_))
          rw [hd]
          refine gx_call rfl rfl rfl ?_
          refine xw_isH hT.2.2.1 ?_
          rw [gb_t hg]
          (repeat (first | refine gx_run 999 80 rfl ?_ | refine gx_goto rfl rfl ?_))
          first | refine gx_ift rfl (by dsimp only [gn_cmp] <;> decide) ?_ | refine gx_ict rfl (by dsimp only [gn_cmp] <;> decide) ?_
          (repeat (first | refine gx_run 999 80 rfl ?_ | refine gx_goto rfl rfl ?_))
          refine gw_tsw rfl 49 (by decide) ?_
          (repeat (first | refine gx_run 999 80 rfl ?_ | refine gx_goto rfl rfl ?_))
          rw [hd]
          refine gx_call rfl rfl rfl ?_
          refine xw_noes hT.2.2.1 (by omega) ?_
          rw [if_pos hj]
          (repeat (first | refine gx_run 999 80 rfl ?_ | refine gx_goto rfl rfl ?_))
          refine gx_iret rfl rfl ?_
          exact hQ
        · (repeat (first | refine gx_run 999 80 rfl ?_ | refine gx_goto rfl rfl ?_))
          refine gx_call rfl rfl rfl ?_
          refine mw_isH hT.2.2.2 ?_
          rw [gb_t hg]
          (repeat (first | refine gx_run 999 80 rfl ?_ | refine gx_goto rfl rfl ?_))
          first | refine gx_ift rfl (by dsimp only [gn_cmp] <;> decide) ?_ | refine gx_ict rfl (by dsimp only [gn_cmp] <;> decide) ?_
          (repeat (first | refine gx_run 999 80 rfl ?_ | refine gx_goto rfl rfl ?_))
          first | refine gx_ift rfl (by dsimp only [gn_cmp] <;> decide) ?_ | refine gx_ict rfl (by dsimp only [gn_cmp] <;> decide) ?_
          (repeat (first | refine gx_run 999 80 rfl ?_ | refine gx_goto rfl rfl ?_))
          first | refine gx_iff rfl (by dsimp only [gn_cmp] <;> decide) ?_ | refine gx_icf rfl (by dsimp only [gn_cmp] <;> decide) ?_
          (repeat (first | refine gx_run 999 80 rfl ?_ | refine gx_goto rfl rfl ?_))
          refine gx_ld j rfl (by omega) (hT.2.2.2.2.2.2.2.2.2.2 j hj).2 rfl rfl rfl ?_
          (repeat (first | refine gx_run 999 80 rfl ?_ | refine gx_goto rfl rfl ?_))
          refine gx_iret rfl rfl ?_
          exact hQ
      · refine gPair.q hI (nI (A (20 + j))) (fun Q hQ => ?_) (fun Q hQ => ?_)
        · (repeat (first | refine gx_run 999 80 rfl ?_ | refine gx_goto rfl rfl ?_))
          rw [hd]
          refine gx_call rfl rfl rfl ?_
          refine xw_isH hT.2.2.1 ?_
          rw [gb_t hg]
          (repeat (first | refine gx_run 999 80 rfl ?_ | refine gx_goto rfl rfl ?_))
          first | refine gx_ift rfl (by dsimp only [gn_cmp] <;> decide) ?_ | refine gx_ict rfl (by dsimp only [gn_cmp] <;> decide) ?_
          (repeat (first | refine gx_run 999 80 rfl ?_ | refine gx_goto rfl rfl ?_))
          refine gw_tsw rfl 58 (by decide) ?_
          (repeat (first | refine gx_run 999 80 rfl ?_ | refine gx_goto rfl rfl ?_))
          refine gx_call rfl rfl rfl ?_
          refine xw_noesLeft hN.1 (by omega) ?_
          (repeat (first | refine gx_run 999 80 rfl ?_ | refine gx_goto rfl rfl ?_))
          refine gx_iret rfl rfl ?_
          exact hQ
        · (repeat (first | refine gx_run 999 80 rfl ?_ | refine gx_goto rfl rfl ?_))
          refine gx_call rfl rfl rfl ?_
          refine mw_isH hT.2.2.2 ?_
          rw [gb_t hg]
          (repeat (first | refine gx_run 999 80 rfl ?_ | refine gx_goto rfl rfl ?_))
          first | refine gx_ift rfl (by dsimp only [gn_cmp] <;> decide) ?_ | refine gx_ict rfl (by dsimp only [gn_cmp] <;> decide) ?_
          (repeat (first | refine gx_run 999 80 rfl ?_ | refine gx_goto rfl rfl ?_))
          first | refine gx_ift rfl (by dsimp only [gn_cmp] <;> decide) ?_ | refine gx_ict rfl (by dsimp only [gn_cmp] <;> decide) ?_
          (repeat (first | refine gx_run 999 80 rfl ?_ | refine gx_goto rfl rfl ?_))
          first | refine gx_ift rfl (by dsimp only [gn_cmp] <;> decide) ?_ | refine gx_ict rfl (by dsimp only [gn_cmp] <;> decide) ?_
          (repeat (first | refine gx_run 999 80 rfl ?_ | refine gx_goto rfl rfl ?_))
          first | refine gx_iff rfl (by dsimp only [gn_cmp] <;> decide) ?_ | refine gx_icf rfl (by dsimp only [gn_cmp] <;> decide) ?_
          (repeat (first | refine gx_run 999 80 rfl ?_ | refine gx_goto rfl rfl ?_))
          refine gx_ld (20 + j) (nI_add 20 j) (by omega) (hN.2.1.no (by omega)) rfl rfl rfl ?_
          (repeat (first | refine gx_run 999 80 rfl ?_ | refine gx_goto rfl rfl ?_))
          refine gx_iret rfl rfl ?_
          exact hQ
  · refine gPair.q hI (-1000000001) (fun Q hQ => ?_) (fun Q hQ => ?_)
    · (repeat (first | refine gx_run 999 80 rfl ?_ | refine gx_goto rfl rfl ?_))
      rw [hd]
      refine gx_call rfl rfl rfl ?_
      refine xw_isH hT.2.2.1 ?_
      rw [gb_f hg]
      (repeat (first | refine gx_run 999 80 rfl ?_ | refine gx_goto rfl rfl ?_))
      first | refine gx_iff rfl (by dsimp only [gn_cmp] <;> decide) ?_ | refine gx_icf rfl (by dsimp only [gn_cmp] <;> decide) ?_
      (repeat (first | refine gx_run 999 80 rfl ?_ | refine gx_goto rfl rfl ?_))
      refine gx_iret rfl rfl ?_
      exact hQ
    · (repeat (first | refine gx_run 999 80 rfl ?_ | refine gx_goto rfl rfl ?_))
      refine gx_call rfl rfl rfl ?_
      refine mw_isH hT.2.2.2 ?_
      rw [gb_f hg]
      (repeat (first | refine gx_run 999 80 rfl ?_ | refine gx_goto rfl rfl ?_))
      first | refine gx_iff rfl (by dsimp only [gn_cmp] <;> decide) ?_ | refine gx_icf rfl (by dsimp only [gn_cmp] <;> decide) ?_
      (repeat (first | refine gx_run 999 80 rfl ?_ | refine gx_goto rfl rfl ?_))
      refine gx_iret rfl rfl ?_
      exact hQ
theorem p_joy {σ : gn_Mem} (hI : Inv σ) (g h k : Int32) : gPair 107 181 [.int g, .int h, .int k] σ := by
  obtain ⟨D, A, c, nx, B, z, I, e, T, Z, b, G, H, n, L, hT, hN, hS, hP, hII, hE, hB, hX, hF⟩ := id hI
  have hd := hT.1
  have hle := hT.2.2.1.1.1
  have hhe := hT.2.2.1.1.2.1
  by_cases hg : ¬ g < 0 ∧ ¬ nI (dG D) ≤ g
  · by_cases hh : ¬ h < 0 ∧ ¬ nI (dH D) ≤ h
    · obtain ⟨j, hj, rfl⟩ := in_of (by omega) hg
      obtain ⟨i, hi, rfl⟩ := in_of (by omega) hh
      have hc := hT.2.2.1.1.2.2.2.2.1 j hj
      have k1 : ∀ Q : Option Value → gn_Mem → Prop, gn_W 20 107 25 [.ref 0, .int (nI j), .int (nI i), .int k] [] σ Q → gn_W 20 107 0 [.ref 0, .int (nI j), .int (nI i), .int k] [] σ Q := by
        intro Q hQ
        (repeat (first | refine gx_run 999 80 rfl ?_ | refine gx_goto rfl rfl ?_))
        rw [hd]
        refine gx_call rfl rfl rfl ?_
        refine xw_isG hT.2.2.1 ?_
        rw [gb_t hg]
        (repeat (first | refine gx_run 999 80 rfl ?_ | refine gx_goto rfl rfl ?_))
        first | refine gx_iff rfl (by dsimp only [gn_cmp] <;> decide) ?_ | refine gx_icf rfl (by dsimp only [gn_cmp] <;> decide) ?_
        (repeat (first | refine gx_run 999 80 rfl ?_ | refine gx_goto rfl rfl ?_))
        rw [hd]
        refine gx_call rfl rfl rfl ?_
        refine xw_isH hT.2.2.1 ?_
        rw [gb_t hh]
        (repeat (first | refine gx_run 999 80 rfl ?_ | refine gx_goto rfl rfl ?_))
        first | refine gx_ift rfl (by dsimp only [gn_cmp] <;> decide) ?_ | refine gx_ict rfl (by dsimp only [gn_cmp] <;> decide) ?_
        exact hQ
      have k2 : ∀ Q : Option Value → gn_Mem → Prop, gn_W 20 181 19 [.ref 44, .int (nI j), .int (nI i), .int k] [] σ Q → gn_W 20 181 0 [.ref 44, .int (nI j), .int (nI i), .int k] [] σ Q := by
        intro Q hQ
        (repeat (first | refine gx_run 999 80 rfl ?_ | refine gx_goto rfl rfl ?_))
        refine gx_call rfl rfl rfl ?_
        refine mw_isG hT.2.2.2 ?_
        rw [gb_t hg]
        (repeat (first | refine gx_run 999 80 rfl ?_ | refine gx_goto rfl rfl ?_))
        first | refine gx_iff rfl (by dsimp only [gn_cmp] <;> decide) ?_ | refine gx_icf rfl (by dsimp only [gn_cmp] <;> decide) ?_
        (repeat (first | refine gx_run 999 80 rfl ?_ | refine gx_goto rfl rfl ?_))
        refine gx_call rfl rfl rfl ?_
        refine mw_isH hT.2.2.2 ?_
        rw [gb_t hh]
        (repeat (first | refine gx_run 999 80 rfl ?_ | refine gx_goto rfl rfl ?_))
        first | refine gx_ift rfl (by dsimp only [gn_cmp] <;> decide) ?_ | refine gx_ict rfl (by dsimp only [gn_cmp] <;> decide) ?_
        exact hQ
      by_cases hk : ¬ k < 0 ∧ ¬ nI 6 ≤ k
      · obtain ⟨u, hu, rfl⟩ := in_of (by omega) hk
        refine gPair.q hI (if u < dC D j then nI (jP D j i u + u) else -1) (fun Q hQ => ?_) (fun Q hQ => ?_)
        · refine k1 Q ?_
          (repeat (first | refine gx_run 999 80 rfl ?_ | refine gx_goto rfl rfl ?_))
          refine gw_calls rfl rfl rfl ?_
          refine xw_noClaim ?_
          rw [show gb (¬ (¬ nI u < 0 ∧ ¬ nI 6 ≤ nI u)) = 0 from gb_f (fun q => q hk)]
          (repeat (first | refine gx_run 999 80 rfl ?_ | refine gx_goto rfl rfl ?_))
          first | refine gx_ift rfl (by dsimp only [gn_cmp] <;> decide) ?_ | refine gx_ict rfl (by dsimp only [gn_cmp] <;> decide) ?_
          (repeat (first | refine gx_run 999 80 rfl ?_ | refine gx_goto rfl rfl ?_))
          rw [hd]
          refine gx_call rfl rfl rfl ?_
          refine xw_joyOf hT.2.2.1 hj hi hu ?_
          (repeat (first | refine gx_run 999 80 rfl ?_ | refine gx_goto rfl rfl ?_))
          refine gx_iret rfl rfl ?_
          exact hQ
        · refine k2 Q ?_
          (repeat (first | refine gx_run 999 80 rfl ?_ | refine gx_goto rfl rfl ?_))
          refine gw_calls rfl rfl rfl ?_
          refine mw_in0 6 (by omega) rfl ?_
          rw [gb_t hk]
          (repeat (first | refine gx_run 999 80 rfl ?_ | refine gx_goto rfl rfl ?_))
          first | refine gx_ift rfl (by dsimp only [gn_cmp] <;> decide) ?_ | refine gx_ict rfl (by dsimp only [gn_cmp] <;> decide) ?_
          (repeat (first | refine gx_run 999 80 rfl ?_ | refine gx_goto rfl rfl ?_))
          refine gx_ld j rfl (by omega) (hT.2.2.2.2.2.2.2.2.1 j hj).2 rfl rfl rfl ?_
          by_cases hl : u < dC D j
          · rw [if_pos hl] at hQ
            first | refine gx_iff rfl (nI_ge hl (by omega)) ?_ | refine gx_icf rfl (nI_ge hl (by omega)) ?_
            (repeat (first | refine gx_run 999 80 rfl ?_ | refine gx_goto rfl rfl ?_))
            refine gx_call rfl rfl rfl ?_
            refine mw_joyOf hT.2.2.2 hj hi hl ?_
            (repeat (first | refine gx_run 999 80 rfl ?_ | refine gx_goto rfl rfl ?_))
            refine gx_iret rfl rfl ?_
            exact hQ
          · rw [if_neg hl] at hQ
            first | refine gx_ift rfl (nI_le (by omega) (by omega)) ?_ | refine gx_ict rfl (nI_le (by omega) (by omega)) ?_
            (repeat (first | refine gx_run 999 80 rfl ?_ | refine gx_goto rfl rfl ?_))
            refine gx_iret rfl rfl ?_
            exact hQ
      · refine gPair.q hI (-1000000002) (fun Q hQ => ?_) (fun Q hQ => ?_)
        · refine k1 Q ?_
          (repeat (first | refine gx_run 999 80 rfl ?_ | refine gx_goto rfl rfl ?_))
          refine gw_calls rfl rfl rfl ?_
          refine xw_noClaim ?_
          rw [show gb (¬ (¬ k < 0 ∧ ¬ nI 6 ≤ k)) = 1 from gb_t hk]
          (repeat (first | refine gx_run 999 80 rfl ?_ | refine gx_goto rfl rfl ?_))
          first | refine gx_iff rfl (by dsimp only [gn_cmp] <;> decide) ?_ | refine gx_icf rfl (by dsimp only [gn_cmp] <;> decide) ?_
          (repeat (first | refine gx_run 999 80 rfl ?_ | refine gx_goto rfl rfl ?_))
          refine gx_iret rfl rfl ?_
          exact hQ
        · refine k2 Q ?_
          (repeat (first | refine gx_run 999 80 rfl ?_ | refine gx_goto rfl rfl ?_))
          refine gw_calls rfl rfl rfl ?_
          refine mw_in0 6 (by omega) rfl ?_
          rw [gb_f hk]
          (repeat (first | refine gx_run 999 80 rfl ?_ | refine gx_goto rfl rfl ?_))
          first | refine gx_iff rfl (by dsimp only [gn_cmp] <;> decide) ?_ | refine gx_icf rfl (by dsimp only [gn_cmp] <;> decide) ?_
          (repeat (first | refine gx_run 999 80 rfl ?_ | refine gx_goto rfl rfl ?_))
          refine gx_iret rfl rfl ?_
          exact hQ
    · refine gPair.q hI (-1000000001) (fun Q hQ => ?_) (fun Q hQ => ?_)
      · (repeat (first | refine gx_run 999 80 rfl ?_ | refine gx_goto rfl rfl ?_))
        rw [hd]
        refine gx_call rfl rfl rfl ?_
        refine xw_isG hT.2.2.1 ?_
        rw [gb_t hg]
        (repeat (first | refine gx_run 999 80 rfl ?_ | refine gx_goto rfl rfl ?_))
        first | refine gx_iff rfl (by dsimp only [gn_cmp] <;> decide) ?_ | refine gx_icf rfl (by dsimp only [gn_cmp] <;> decide) ?_
        (repeat (first | refine gx_run 999 80 rfl ?_ | refine gx_goto rfl rfl ?_))
        rw [hd]
        refine gx_call rfl rfl rfl ?_
        refine xw_isH hT.2.2.1 ?_
        rw [gb_f hh]
        (repeat (first | refine gx_run 999 80 rfl ?_ | refine gx_goto rfl rfl ?_))
        first | refine gx_iff rfl (by dsimp only [gn_cmp] <;> decide) ?_ | refine gx_icf rfl (by dsimp only [gn_cmp] <;> decide) ?_
        (repeat (first | refine gx_run 999 80 rfl ?_ | refine gx_goto rfl rfl ?_))
        refine gx_iret rfl rfl ?_
        exact hQ
      · (repeat (first | refine gx_run 999 80 rfl ?_ | refine gx_goto rfl rfl ?_))
        refine gx_call rfl rfl rfl ?_
        refine mw_isG hT.2.2.2 ?_
        rw [gb_t hg]
        (repeat (first | refine gx_run 999 80 rfl ?_ | refine gx_goto rfl rfl ?_))
        first | refine gx_iff rfl (by dsimp only [gn_cmp] <;> decide) ?_ | refine gx_icf rfl (by dsimp only [gn_cmp] <;> decide) ?_
        (repeat (first | refine gx_run 999 80 rfl ?_ | refine gx_goto rfl rfl ?_))
        refine gx_call rfl rfl rfl ?_
        refine mw_isH hT.2.2.2 ?_
        rw [gb_f hh]
        (repeat (first | refine gx_run 999 80 rfl ?_ | refine gx_goto rfl rfl ?_))
        first | refine gx_iff rfl (by dsimp only [gn_cmp] <;> decide) ?_ | refine gx_icf rfl (by dsimp only [gn_cmp] <;> decide) ?_
        (repeat (first | refine gx_run 999 80 rfl ?_ | refine gx_goto rfl rfl ?_))
        refine gx_iret rfl rfl ?_
        exact hQ
  · refine gPair.q hI (-1000000001) (fun Q hQ => ?_) (fun Q hQ => ?_)
    · (repeat (first | refine gx_run 999 80 rfl ?_ | refine gx_goto rfl rfl ?_))
      rw [hd]
      refine gx_call rfl rfl rfl ?_
      refine xw_isG hT.2.2.1 ?_
      rw [gb_f hg]
      (repeat (first | refine gx_run 999 80 rfl ?_ | refine gx_goto rfl rfl ?_))
      first | refine gx_ift rfl (by dsimp only [gn_cmp] <;> decide) ?_ | refine gx_ict rfl (by dsimp only [gn_cmp] <;> decide) ?_
      (repeat (first | refine gx_run 999 80 rfl ?_ | refine gx_goto rfl rfl ?_))
      refine gx_iret rfl rfl ?_
      exact hQ
    · (repeat (first | refine gx_run 999 80 rfl ?_ | refine gx_goto rfl rfl ?_))
      refine gx_call rfl rfl rfl ?_
      refine mw_isG hT.2.2.2 ?_
      rw [gb_f hg]
      (repeat (first | refine gx_run 999 80 rfl ?_ | refine gx_goto rfl rfl ?_))
      first | refine gx_ift rfl (by dsimp only [gn_cmp] <;> decide) ?_ | refine gx_ict rfl (by dsimp only [gn_cmp] <;> decide) ?_
      (repeat (first | refine gx_run 999 80 rfl ?_ | refine gx_goto rfl rfl ?_))
      refine gx_iret rfl rfl ?_
      exact hQ
