/-! line, now -/
theorem ns_eq : ∀ n, n ≤ 6 → ∀ f, f ≤ n → (nI (2 ^ n) - 1) &&& ((nI (2 ^ f) - 1) ^^^ -1) = nI ((2 ^ (n - f) - 1) * 2 ^ f) := by decide +kernel
theorem ns_lt : ∀ n, n ≤ 6 → ∀ f, f ≤ n → (2 ^ (n - f) - 1) * 2 ^ f < 2 ^ n ∧ 2 ^ n ≤ 64 := by decide +kernel
theorem ns_bit : ∀ n, n ≤ 6 → ∀ f, f ≤ n → ∀ k, k < 6 → (((2 ^ (n - f) - 1) * 2 ^ f).testBit k = true ↔ (f ≤ k ∧ k < n)) := by decide +kernel
theorem al_bit : ∀ n, n ≤ 6 → ∀ b, b < n → (2 ^ n - 1).testBit b = true := by decide +kernel
theorem al_sub : ∀ n, n ≤ 6 → nI (2 ^ n) - 1 = nI (2 ^ n - 1) := by decide +kernel
theorem ns_sub : ∀ n, n ≤ 6 → ∀ f, f ≤ n → ∀ b, b < n - f → (2 ^ (n - f) - 1) * 2 ^ f - 2 ^ (f + b) = (2 ^ (n - f) - 1 - 2 ^ b) * 2 ^ f := by decide +kernel
section
variable {d : Nat} {σ : gn_Mem} {Q : Option Value → gn_Mem → Prop} {D : gD} {A : gA}
theorem mw_notSaid (hM : gM σ D) (hX : mR (σ 45) A) (hA : wA2 D A) {g : Nat} (hg : g < dG D) (hQ : Q (some (.int (nI ((2 ^ (dC D g - A g) - 1) * 2 ^ A g)))) σ) : gn_W d 189 0 [.ref 44, .int (nI g)] [] σ Q := by
  have hle := hM.1.1
  have hc := hM.1.2.2.2.2.1 g hg
  have ha := hA.1 g hg
  (repeat (first | refine gx_run 999 80 rfl ?_ | refine gx_goto rfl rfl ?_))
  refine gx_ld g rfl (by omega) (hM.2.2.2.2.2.1 g hg).2 rfl rfl rfl ?_
  (repeat (first | refine gx_run 999 80 rfl ?_ | refine gx_goto rfl rfl ?_))
  refine gx_ld g rfl (by omega) (hX.said (by omega)) rfl rfl rfl ?_
  (repeat (first | refine gx_run 999 80 rfl ?_ | refine gx_goto rfl rfl ?_))
  rw [w_pow _ (by omega), w_pow _ (by omega), ns_eq _ (by omega) _ ha.1]
  refine gx_iret rfl rfl ?_
  exact hQ
end
theorem p_line {σ : gn_Mem} (hI : Inv σ) (g h : Int32) : gPair 110 190 [.int g, .int h] σ := by
  obtain ⟨D, A, c, nx, B, z, I, e, T, Z, b, G, H, n, L, hT, hN, hS, hP, hII, hE, hB, hX, hF⟩ := id hI
  have hd := hT.1
  have hle := hT.2.2.1.1.1
  have hhe := hT.2.2.1.1.2.1
  by_cases hg : ¬ g < 0 ∧ ¬ nI (dG D) ≤ g
  · obtain ⟨j, hj, rfl⟩ := in_of (by omega) hg
    by_cases hh : ¬ h < 0 ∧ ¬ nI (dH D) ≤ h
    · obtain ⟨i, hi, rfl⟩ := in_of (by omega) hh
      have hc := hT.2.2.1.1.2.2.2.2.1 j hj
      have ha := hN.2.2.1 j hj
      have hp := Nat.two_pow_pos (dC D j - A j)
      have h64 := w_64 (n := dC D j - A j) (by omega)
      refine gPair.s hI (nI (wW (fun b => 1000 * jP D j i (A j + b)) (dC D j - A j) (2 ^ (dC D j - A j) - 1))) (fun Q hQ => ?_) (fun σ1 h1 Q hQ => ?_)
      · (repeat (first | refine gx_run 999 80 rfl ?_ | refine gx_goto rfl rfl ?_))
        rw [hd]
        refine gx_call rfl rfl rfl ?_
        refine xw_isG hT.2.2.1 ?_
        rw [gb_t hg]
        (repeat (first | refine gx_run 999 80 rfl ?_ | refine gx_goto rfl rfl ?_))
        first | refine gx_iff rfl (by dsimp only [gn_cmp] <;> decide) ?_ | refine gx_icf rfl (by dsimp only [gn_cmp] <;> decide) ?_
        (repeat (first | refine gx_run 999 80 rfl ?_ | refine gx_goto rfl rfl ?_))
        rw [hd]
        refine gx_call rfl rfl rfl ?_
        refine xw_isH hT.2.2.1 ?_
        rw [gb_t hh]
        (repeat (first | refine gx_run 999 80 rfl ?_ | refine gx_goto rfl rfl ?_))
        first | refine gx_ift rfl (by dsimp only [gn_cmp] <;> decide) ?_ | refine gx_ict rfl (by dsimp only [gn_cmp] <;> decide) ?_
        (repeat (first | refine gx_run 999 80 rfl ?_ | refine gx_goto rfl rfl ?_))
        rw [hd]
        (repeat (first | refine gx_run 999 80 rfl ?_ | refine gx_goto rfl rfl ?_))
        refine gx_call rfl rfl rfl ?_
        refine xw_said hN.1 (by omega) ?_
        (repeat (first | refine gx_run 999 80 rfl ?_ | refine gx_goto rfl rfl ?_))
        refine gx_call rfl rfl rfl ?_
        refine xw_weigh hT.2.2.1 hj hi ha.1 ?_
        intro σ1 f1 a1 a2 a3 a4
        (repeat (first | refine gx_run 999 80 rfl ?_ | refine gx_goto rfl rfl ?_))
        refine gx_call rfl rfl rfl ?_
        (repeat (first | refine gx_run 999 80 rfl ?_ | refine gx_goto rfl rfl ?_))
        rw [a2, w_pow _ (by omega), al_sub _ (by omega)]
        refine gx_ld (2 ^ (dC D j - A j) - 1) rfl (by omega) (a4 _ (by omega)) rfl rfl rfl ?_
        refine gx_iret rfl rfl ?_
        (repeat (first | refine gx_run 999 80 rfl ?_ | refine gx_goto rfl rfl ?_))
        refine gx_iret rfl rfl ?_
        exact hQ _ (fun o ho => f1 o (fun q => ho (by unfold gScr; omega)))
      · have hM1 := hT.2.2.2.scr h1
        have hX1 : mR (σ1 45) A := by rw [h1 45 (by unfold gScr; omega)]; exact hN.2.1
        (repeat (first | refine gx_run 999 80 rfl ?_ | refine gx_goto rfl rfl ?_))
        refine gx_call rfl rfl rfl ?_
        refine mw_isG hM1 ?_
        rw [gb_t hg]
        (repeat (first | refine gx_run 999 80 rfl ?_ | refine gx_goto rfl rfl ?_))
        first | refine gx_iff rfl (by dsimp only [gn_cmp] <;> decide) ?_ | refine gx_icf rfl (by dsimp only [gn_cmp] <;> decide) ?_
        (repeat (first | refine gx_run 999 80 rfl ?_ | refine gx_goto rfl rfl ?_))
        refine gx_call rfl rfl rfl ?_
        refine mw_isH hM1 ?_
        rw [gb_t hh]
        (repeat (first | refine gx_run 999 80 rfl ?_ | refine gx_goto rfl rfl ?_))
        first | refine gx_ift rfl (by dsimp only [gn_cmp] <;> decide) ?_ | refine gx_ict rfl (by dsimp only [gn_cmp] <;> decide) ?_
        (repeat (first | refine gx_run 999 80 rfl ?_ | refine gx_goto rfl rfl ?_))
        refine gx_call rfl rfl rfl ?_
        refine mw_layWorth hM1 hj hi ?_
        intro σ2 f2 a2
        have hM2 : gM σ2 D := gM_fr hM1 (fun k _ => by rw [f2 44 (by omega)]) (fun o a b => f2 o (by omega))
        have hX2 : mR (σ2 45) A := by rw [f2 45 (by omega)]; exact hX1
        (repeat (first | refine gx_run 999 80 rfl ?_ | refine gx_goto rfl rfl ?_))
        refine gx_call rfl rfl rfl ?_
        refine mw_notSaid hM2 hX2 hN.2.2 hj ?_
        have hlt := ns_lt (dC D j) (by omega) (A j) ha.1
        (repeat (first | refine gx_run 999 80 rfl ?_ | refine gx_goto rfl rfl ?_))
        refine gx_ld _ rfl (by omega) (a2 _ hlt.1) rfl rfl rfl ?_
        (repeat (first | refine gx_run 999 80 rfl ?_ | refine gx_goto rfl rfl ?_))
        refine gx_iret rfl rfl ?_
        have hs := wW_sh (J := fun b => 1000 * jP D j i b) (f := A j) (n := dC D j - A j) (2 ^ (dC D j - A j) - 1)
        rw [show A j + (dC D j - A j) = dC D j by omega] at hs
        rw [hs]
        exact hQ _ (fun o ho => f2 o (fun q => ho (by unfold gScr; omega)))
    · refine gPair.q hI (-1000000001) (fun Q hQ => ?_) (fun Q hQ => ?_)
      · (repeat (first | refine gx_run 999 80 rfl ?_ | refine gx_goto rfl rfl ?_))
        rw [hd]
        refine gx_call rfl rfl rfl ?_
        refine xw_isG hT.2.2.1 ?_
        rw [gb_t hg]
        (repeat (first | refine gx_run 999 80 rfl ?_ | refine gx_goto rfl rfl ?_))
        first | refine gx_iff rfl (by dsimp only [gn_cmp] <;> decide) ?_ | refine gx_icf rfl (by dsimp only [gn_cmp] <;> decide) ?_
        (repeat (first | refine gx_run 999 80 rfl ?_ | refine gx_goto rfl rfl ?_))
        rw [hd]
        refine gx_call rfl rfl rfl ?_
        refine xw_isH hT.2.2.1 ?_
        rw [gb_f hh]
        (repeat (first | refine gx_run 999 80 rfl ?_ | refine gx_goto rfl rfl ?_))
        first | refine gx_iff rfl (by dsimp only [gn_cmp] <;> decide) ?_ | refine gx_icf rfl (by dsimp only [gn_cmp] <;> decide) ?_
        (repeat (first | refine gx_run 999 80 rfl ?_ | refine gx_goto rfl rfl ?_))
        refine gx_iret rfl rfl ?_
        exact hQ
      · (repeat (first | refine gx_run 999 80 rfl ?_ | refine gx_goto rfl rfl ?_))
        refine gx_call rfl rfl rfl ?_
        refine mw_isG hT.2.2.2 ?_
        rw [gb_t hg]
        (repeat (first | refine gx_run 999 80 rfl ?_ | refine gx_goto rfl rfl ?_))
        first | refine gx_iff rfl (by dsimp only [gn_cmp] <;> decide) ?_ | refine gx_icf rfl (by dsimp only [gn_cmp] <;> decide) ?_
        (repeat (first | refine gx_run 999 80 rfl ?_ | refine gx_goto rfl rfl ?_))
        refine gx_call rfl rfl rfl ?_
        refine mw_isH hT.2.2.2 ?_
        rw [gb_f hh]
        (repeat (first | refine gx_run 999 80 rfl ?_ | refine gx_goto rfl rfl ?_))
        first | refine gx_iff rfl (by dsimp only [gn_cmp] <;> decide) ?_ | refine gx_icf rfl (by dsimp only [gn_cmp] <;> decide) ?_
        (repeat (first | refine gx_run 999 80 rfl ?_ | refine gx_goto rfl rfl ?_))
        refine gx_iret rfl rfl ?_
        exact hQ
  · refine gPair.q hI (-1000000001) (fun Q hQ => ?_) (fun Q hQ => ?_)
    · (repeat (first | refine gx_run 999 80 rfl ?_ | refine gx_goto rfl rfl ?_))
      rw [hd]
      refine gx_call rfl rfl rfl ?_
      refine xw_isG hT.2.2.1 ?_
      rw [gb_f hg]
      (repeat (first | refine gx_run 999 80 rfl ?_ | refine gx_goto rfl rfl ?_))
      first | refine gx_ift rfl (by dsimp only [gn_cmp] <;> decide) ?_ | refine gx_ict rfl (by dsimp only [gn_cmp] <;> decide) ?_
      (repeat (first | refine gx_run 999 80 rfl ?_ | refine gx_goto rfl rfl ?_))
      refine gx_iret rfl rfl ?_
      exact hQ
    · (repeat (first | refine gx_run 999 80 rfl ?_ | refine gx_goto rfl rfl ?_))
      refine gx_call rfl rfl rfl ?_
      refine mw_isG hT.2.2.2 ?_
      rw [gb_f hg]
      (repeat (first | refine gx_run 999 80 rfl ?_ | refine gx_goto rfl rfl ?_))
      first | refine gx_ift rfl (by dsimp only [gn_cmp] <;> decide) ?_ | refine gx_ict rfl (by dsimp only [gn_cmp] <;> decide) ?_
      (repeat (first | refine gx_run 999 80 rfl ?_ | refine gx_goto rfl rfl ?_))
      refine gx_iret rfl rfl ?_
      exact hQ
theorem p_now {σ : gn_Mem} (hI : Inv σ) (g h k : Int32) : gPair 111 191 [.int g, .int h, .int k] σ := by
  obtain ⟨D, A, c, nx, B, z, I, e, T, Z, b, G, H, n, L, hT, hN, hS, hP, hII, hE, hB, hX, hF⟩ := id hI
  have hd := hT.1
  have hle := hT.2.2.1.1.1
  have hhe := hT.2.2.1.1.2.1
  by_cases hg : ¬ g < 0 ∧ ¬ nI (dG D) ≤ g
  · obtain ⟨j, hj, rfl⟩ := in_of (by omega) hg
    have hc := hT.2.2.1.1.2.2.2.2.1 j hj
    have ha := hN.2.2.1 j hj
    by_cases hh : ¬ h < 0 ∧ ¬ nI (dH D) ≤ h
    · obtain ⟨i, hi, rfl⟩ := in_of (by omega) hh
      by_cases hk : ¬ k < 0 ∧ ¬ nI 6 ≤ k
      · obtain ⟨q, hq, rfl⟩ := in_of (by omega) hk
        have hlt := ns_lt (dC D j) (by omega) (A j) ha.1
        have hnb := ns_bit (dC D j) (by omega) (A j) ha.1 q hq
        by_cases hin : A j ≤ q ∧ q < dC D j
        · have hp := Nat.two_pow_pos (dC D j - A j)
          have h64 := w_64 (n := dC D j - A j) (by omega)
          have hab := al_bit (dC D j - A j) (by omega) (q - A j) (by omega)
          have hJl : ∀ b, b < dC D j - A j → (fun b => 1000 * jP D j i (A j + b)) b ≤ 23000 := fun b hb => by
            have := hT.2.2.1.1.jP hj hi (k := A j + b) (by omega)
            show 1000 * jP D j i (A j + b) ≤ 23000
            omega
          have hWl := wW_le hJl (2 ^ (dC D j - A j) - 1 - 2 ^ (q - A j))
          have hjl := hT.2.2.1.1.jP hj hi (k := q) (by omega)
          have hs := wW_sh (J := fun b => 1000 * jP D j i b) (f := A j) (n := dC D j - A j) (2 ^ (dC D j - A j) - 1 - 2 ^ (q - A j))
          rw [show A j + (dC D j - A j) = dC D j by omega, ← ns_sub (dC D j) (by omega) (A j) ha.1 (q - A j) (by omega), show A j + (q - A j) = q by omega] at hs
          generalize hv : wW (fun b => 1000 * jP D j i (A j + b)) (dC D j - A j) (2 ^ (dC D j - A j) - 1 - 2 ^ (q - A j)) = v at *
          refine gPair.s hI (gb (¬ 1000 * jP D j i q < v)) (fun Q hQ => ?_) (fun σ1 h1 Q hQ => ?_)
          · (repeat (first | refine gx_run 999 80 rfl ?_ | refine gx_goto rfl rfl ?_))
            rw [hd]
            refine gx_call rfl rfl rfl ?_
            refine xw_isG hT.2.2.1 ?_
            rw [gb_t hg]
            (repeat (first | refine gx_run 999 80 rfl ?_ | refine gx_goto rfl rfl ?_))
            first | refine gx_iff rfl (by dsimp only [gn_cmp] <;> decide) ?_ | refine gx_icf rfl (by dsimp only [gn_cmp] <;> decide) ?_
            (repeat (first | refine gx_run 999 80 rfl ?_ | refine gx_goto rfl rfl ?_))
            rw [hd]
            refine gx_call rfl rfl rfl ?_
            refine xw_isH hT.2.2.1 ?_
            rw [gb_t hh]
            (repeat (first | refine gx_run 999 80 rfl ?_ | refine gx_goto rfl rfl ?_))
            first | refine gx_ift rfl (by dsimp only [gn_cmp] <;> decide) ?_ | refine gx_ict rfl (by dsimp only [gn_cmp] <;> decide) ?_
            (repeat (first | refine gx_run 999 80 rfl ?_ | refine gx_goto rfl rfl ?_))
            refine gw_calls rfl rfl rfl ?_
            refine xw_noClaim ?_
            rw [show gb (¬ (¬ nI q < 0 ∧ ¬ nI 6 ≤ nI q)) = 0 from gb_f (fun z => z hk)]
            (repeat (first | refine gx_run 999 80 rfl ?_ | refine gx_goto rfl rfl ?_))
            first | refine gx_ift rfl (by dsimp only [gn_cmp] <;> decide) ?_ | refine gx_ict rfl (by dsimp only [gn_cmp] <;> decide) ?_
            (repeat (first | refine gx_run 999 80 rfl ?_ | refine gx_goto rfl rfl ?_))
            refine gx_call rfl rfl rfl ?_
            refine xw_said hN.1 (by omega) ?_
            (repeat (first | refine gx_run 999 80 rfl ?_ | refine gx_goto rfl rfl ?_))
            first | refine gx_iff rfl (nI_nlt hin.1 (by omega)) ?_ | refine gx_icf rfl (nI_nlt hin.1 (by omega)) ?_
            (repeat (first | refine gx_run 999 80 rfl ?_ | refine gx_goto rfl rfl ?_))
            rw [hd]
            refine gx_call rfl rfl rfl ?_
            refine xw_hasClaim hT.2.2.1 hj ?_
            rw [gb_t (nI_j hin.2 (by omega))]
            (repeat (first | refine gx_run 999 80 rfl ?_ | refine gx_goto rfl rfl ?_))
            first | refine gx_ift rfl (by dsimp only [gn_cmp] <;> decide) ?_ | refine gx_ict rfl (by dsimp only [gn_cmp] <;> decide) ?_
            (repeat (first | refine gx_run 999 80 rfl ?_ | refine gx_goto rfl rfl ?_))
            rw [hd]
            (repeat (first | refine gx_run 999 80 rfl ?_ | refine gx_goto rfl rfl ?_))
            refine gx_call rfl rfl rfl ?_
            refine xw_said hN.1 (by omega) ?_
            (repeat (first | refine gx_run 999 80 rfl ?_ | refine gx_goto rfl rfl ?_))
            refine gx_call rfl rfl rfl ?_
            refine xw_weigh hT.2.2.1 hj hi ha.1 ?_
            intro σ1 f1 a1 a2 a3 a4
            have hq1 := hQ σ1 (fun o ho => f1 o (fun q => ho (by unfold gScr; omega)))
            (repeat (first | refine gx_run 999 80 rfl ?_ | refine gx_goto rfl rfl ?_))
            refine gx_call rfl rfl rfl ?_
            (repeat (first | refine gx_run 999 80 rfl ?_ | refine gx_goto rfl rfl ?_))
            rw [a1, pk_sub hin.1]
            first | refine gx_iff rfl (nI_pos (by omega)) ?_ | refine gx_icf rfl (nI_pos (by omega)) ?_
            (repeat (first | refine gx_run 999 80 rfl ?_ | refine gx_goto rfl rfl ?_))
            rw [a2]
            first | refine gx_ift rfl (nI_lt (by omega) (by omega)) ?_ | refine gx_ict rfl (nI_lt (by omega) (by omega)) ?_
            (repeat (first | refine gx_run 999 80 rfl ?_ | refine gx_goto rfl rfl ?_))
            refine gx_ld (q - A j) rfl (by omega) (a3 _ (by omega)) rfl rfl rfl ?_
            (repeat (first | refine gx_run 999 80 rfl ?_ | refine gx_goto rfl rfl ?_))
            rw [a2, w_pow _ (by omega), al_sub _ (by omega), w_clr _ (by omega) _ (by omega) hab, show A j + (q - A j) = q by omega]
            have hsm : 2 ^ (dC D j - A j) - 1 - 2 ^ (q - A j) < 2 ^ (dC D j - A j) := Nat.lt_of_le_of_lt (Nat.sub_le _ _) (by omega)
            have a4' := a4 _ hsm
            rw [hv] at a4'
            refine gx_ld _ rfl (by omega) a4' rfl rfl rfl ?_
            by_cases hlt2 : 1000 * jP D j i q < v
            · rw [gb_f (fun z => z hlt2)] at hq1
              first | refine gx_ift rfl (nI_lt hlt2 (by omega)) ?_ | refine gx_ict rfl (nI_lt hlt2 (by omega)) ?_
              (repeat (first | refine gx_run 999 80 rfl ?_ | refine gx_goto rfl rfl ?_))
              refine gw_zret rfl (Or.inl rfl) ?_
              (repeat (first | refine gx_run 999 80 rfl ?_ | refine gx_goto rfl rfl ?_))
              first | refine gx_ift rfl (by dsimp only [gn_cmp] <;> decide) ?_ | refine gx_ict rfl (by dsimp only [gn_cmp] <;> decide) ?_
              (repeat (first | refine gx_run 999 80 rfl ?_ | refine gx_goto rfl rfl ?_))
              refine gx_iret rfl rfl ?_
              exact hq1
            · rw [gb_t hlt2] at hq1
              first | refine gx_iff rfl (nI_nlt (by omega) (by omega)) ?_ | refine gx_icf rfl (nI_nlt (by omega) (by omega)) ?_
              (repeat (first | refine gx_run 999 80 rfl ?_ | refine gx_goto rfl rfl ?_))
              refine gw_zret rfl (Or.inr rfl) ?_
              (repeat (first | refine gx_run 999 80 rfl ?_ | refine gx_goto rfl rfl ?_))
              first | refine gx_iff rfl (by dsimp only [gn_cmp] <;> decide) ?_ | refine gx_icf rfl (by dsimp only [gn_cmp] <;> decide) ?_
              (repeat (first | refine gx_run 999 80 rfl ?_ | refine gx_goto rfl rfl ?_))
              refine gx_iret rfl rfl ?_
              exact hq1
          · have hM1 := hT.2.2.2.scr h1
            have hX1 : mR (σ1 45) A := by rw [h1 45 (by unfold gScr; omega)]; exact hN.2.1
            (repeat (first | refine gx_run 999 80 rfl ?_ | refine gx_goto rfl rfl ?_))
            refine gx_call rfl rfl rfl ?_
            refine mw_isG hM1 ?_
            rw [gb_t hg]
            (repeat (first | refine gx_run 999 80 rfl ?_ | refine gx_goto rfl rfl ?_))
            first | refine gx_iff rfl (by dsimp only [gn_cmp] <;> decide) ?_ | refine gx_icf rfl (by dsimp only [gn_cmp] <;> decide) ?_
            (repeat (first | refine gx_run 999 80 rfl ?_ | refine gx_goto rfl rfl ?_))
            refine gx_call rfl rfl rfl ?_
            refine mw_isH hM1 ?_
            rw [gb_t hh]
            (repeat (first | refine gx_run 999 80 rfl ?_ | refine gx_goto rfl rfl ?_))
            first | refine gx_ift rfl (by dsimp only [gn_cmp] <;> decide) ?_ | refine gx_ict rfl (by dsimp only [gn_cmp] <;> decide) ?_
            (repeat (first | refine gx_run 999 80 rfl ?_ | refine gx_goto rfl rfl ?_))
            refine gw_calls rfl rfl rfl ?_
            refine mw_in0 6 (by omega) rfl ?_
            rw [gb_t hk]
            (repeat (first | refine gx_run 999 80 rfl ?_ | refine gx_goto rfl rfl ?_))
            first | refine gx_ift rfl (by dsimp only [gn_cmp] <;> decide) ?_ | refine gx_ict rfl (by dsimp only [gn_cmp] <;> decide) ?_
            (repeat (first | refine gx_run 999 80 rfl ?_ | refine gx_goto rfl rfl ?_))
            refine gx_call rfl rfl rfl ?_
            refine mw_notSaid hM1 hX1 hN.2.2 hj ?_
            (repeat (first | refine gx_run 999 80 rfl ?_ | refine gx_goto rfl rfl ?_))
            refine gw_calls rfl rfl rfl ?_
            refine mw_has (by omega) (by omega) ?_
            rw [gb_t (hnb.mpr hin)]
            (repeat (first | refine gx_run 999 80 rfl ?_ | refine gx_goto rfl rfl ?_))
            first | refine gx_ift rfl (by dsimp only [gn_cmp] <;> decide) ?_ | refine gx_ict rfl (by dsimp only [gn_cmp] <;> decide) ?_
            (repeat (first | refine gx_run 999 80 rfl ?_ | refine gx_goto rfl rfl ?_))
            refine gx_call rfl rfl rfl ?_
            refine mw_layWorth hM1 hj hi ?_
            intro σ2 f2 a2
            have hM2 : gM σ2 D := gM_fr hM1 (fun k _ => by rw [f2 44 (by omega)]) (fun o a b => f2 o (by omega))
            have hX2 : mR (σ2 45) A := by rw [f2 45 (by omega)]; exact hX1
            have hq1 := hQ σ2 (fun o ho => f2 o (fun q => ho (by unfold gScr; omega)))
            (repeat (first | refine gx_run 999 80 rfl ?_ | refine gx_goto rfl rfl ?_))
            refine gx_call rfl rfl rfl ?_
            refine mw_plainJoy hM2 hj hi (by omega) ?_
            (repeat (first | refine gx_run 999 80 rfl ?_ | refine gx_goto rfl rfl ?_))
            refine gx_call rfl rfl rfl ?_
            refine mw_notSaid hM2 hX2 hN.2.2 hj ?_
            (repeat (first | refine gx_run 999 80 rfl ?_ | refine gx_goto rfl rfl ?_))
            rw [show (1000 : Int32) = nI 1000 from rfl, pk_mul, w_clr _ (by omega) _ (by omega) (hnb.mpr hin)]
            have hs2 : (2 ^ (dC D j - A j) - 1) * 2 ^ A j - 2 ^ q < 2 ^ dC D j := Nat.lt_of_le_of_lt (Nat.sub_le _ _) hlt.1
            have a2' := a2 _ hs2
            have hs3 := Nat.lt_of_lt_of_le hs2 hlt.2
            rw [hs] at a2'
            refine gx_ld _ rfl hs3 a2' rfl rfl rfl ?_
            by_cases hlt2 : 1000 * jP D j i q < v
            · rw [gb_f (fun z => z hlt2)] at hq1
              first | refine gx_ift rfl (nI_lt hlt2 (by omega)) ?_ | refine gx_ict rfl (nI_lt hlt2 (by omega)) ?_
              (repeat (first | refine gx_run 999 80 rfl ?_ | refine gx_goto rfl rfl ?_))
              refine gx_iret rfl rfl ?_
              exact hq1
            · rw [gb_t hlt2] at hq1
              first | refine gx_iff rfl (nI_nlt (by omega) (by omega)) ?_ | refine gx_icf rfl (nI_nlt (by omega) (by omega)) ?_
              (repeat (first | refine gx_run 999 80 rfl ?_ | refine gx_goto rfl rfl ?_))
              refine gx_iret rfl rfl ?_
              exact hq1
        · refine gPair.q hI (-1000000003) (fun Q hQ => ?_) (fun Q hQ => ?_)
          · (repeat (first | refine gx_run 999 80 rfl ?_ | refine gx_goto rfl rfl ?_))
            rw [hd]
            refine gx_call rfl rfl rfl ?_
            refine xw_isG hT.2.2.1 ?_
            rw [gb_t hg]
            (repeat (first | refine gx_run 999 80 rfl ?_ | refine gx_goto rfl rfl ?_))
            first | refine gx_iff rfl (by dsimp only [gn_cmp] <;> decide) ?_ | refine gx_icf rfl (by dsimp only [gn_cmp] <;> decide) ?_
            (repeat (first | refine gx_run 999 80 rfl ?_ | refine gx_goto rfl rfl ?_))
            rw [hd]
            refine gx_call rfl rfl rfl ?_
            refine xw_isH hT.2.2.1 ?_
            rw [gb_t hh]
            (repeat (first | refine gx_run 999 80 rfl ?_ | refine gx_goto rfl rfl ?_))
            first | refine gx_ift rfl (by dsimp only [gn_cmp] <;> decide) ?_ | refine gx_ict rfl (by dsimp only [gn_cmp] <;> decide) ?_
            (repeat (first | refine gx_run 999 80 rfl ?_ | refine gx_goto rfl rfl ?_))
            refine gw_calls rfl rfl rfl ?_
            refine xw_noClaim ?_
            rw [show gb (¬ (¬ nI q < 0 ∧ ¬ nI 6 ≤ nI q)) = 0 from gb_f (fun z => z hk)]
            (repeat (first | refine gx_run 999 80 rfl ?_ | refine gx_goto rfl rfl ?_))
            first | refine gx_ift rfl (by dsimp only [gn_cmp] <;> decide) ?_ | refine gx_ict rfl (by dsimp only [gn_cmp] <;> decide) ?_
            (repeat (first | refine gx_run 999 80 rfl ?_ | refine gx_goto rfl rfl ?_))
            refine gx_call rfl rfl rfl ?_
            refine xw_said hN.1 (by omega) ?_
            (repeat (first | refine gx_run 999 80 rfl ?_ | refine gx_goto rfl rfl ?_))
            by_cases hs : q < A j
            · first | refine gx_ift rfl (nI_lt hs (by omega)) ?_ | refine gx_ict rfl (nI_lt hs (by omega)) ?_
              (repeat (first | refine gx_run 999 80 rfl ?_ | refine gx_goto rfl rfl ?_))
              refine gx_iret rfl rfl ?_
              exact hQ
            · first | refine gx_iff rfl (nI_nlt (by omega) (by omega)) ?_ | refine gx_icf rfl (nI_nlt (by omega) (by omega)) ?_
              (repeat (first | refine gx_run 999 80 rfl ?_ | refine gx_goto rfl rfl ?_))
              rw [hd]
              refine gx_call rfl rfl rfl ?_
              refine xw_hasClaim hT.2.2.1 hj ?_
              rw [gb_f (fun z => z.2 (nI_le (by omega) (by omega)))]
              (repeat (first | refine gx_run 999 80 rfl ?_ | refine gx_goto rfl rfl ?_))
              first | refine gx_iff rfl (by dsimp only [gn_cmp] <;> decide) ?_ | refine gx_icf rfl (by dsimp only [gn_cmp] <;> decide) ?_
              (repeat (first | refine gx_run 999 80 rfl ?_ | refine gx_goto rfl rfl ?_))
              refine gx_iret rfl rfl ?_
              exact hQ
          · (repeat (first | refine gx_run 999 80 rfl ?_ | refine gx_goto rfl rfl ?_))
            refine gx_call rfl rfl rfl ?_
            refine mw_isG hT.2.2.2 ?_
            rw [gb_t hg]
            (repeat (first | refine gx_run 999 80 rfl ?_ | refine gx_goto rfl rfl ?_))
            first | refine gx_iff rfl (by dsimp only [gn_cmp] <;> decide) ?_ | refine gx_icf rfl (by dsimp only [gn_cmp] <;> decide) ?_
            (repeat (first | refine gx_run 999 80 rfl ?_ | refine gx_goto rfl rfl ?_))
            refine gx_call rfl rfl rfl ?_
            refine mw_isH hT.2.2.2 ?_
            rw [gb_t hh]
            (repeat (first | refine gx_run 999 80 rfl ?_ | refine gx_goto rfl rfl ?_))
            first | refine gx_ift rfl (by dsimp only [gn_cmp] <;> decide) ?_ | refine gx_ict rfl (by dsimp only [gn_cmp] <;> decide) ?_
            (repeat (first | refine gx_run 999 80 rfl ?_ | refine gx_goto rfl rfl ?_))
            refine gw_calls rfl rfl rfl ?_
            refine mw_in0 6 (by omega) rfl ?_
            rw [gb_t hk]
            (repeat (first | refine gx_run 999 80 rfl ?_ | refine gx_goto rfl rfl ?_))
            first | refine gx_ift rfl (by dsimp only [gn_cmp] <;> decide) ?_ | refine gx_ict rfl (by dsimp only [gn_cmp] <;> decide) ?_
            (repeat (first | refine gx_run 999 80 rfl ?_ | refine gx_goto rfl rfl ?_))
            refine gx_call rfl rfl rfl ?_
            refine mw_notSaid hT.2.2.2 hN.2.1 hN.2.2 hj ?_
            (repeat (first | refine gx_run 999 80 rfl ?_ | refine gx_goto rfl rfl ?_))
            refine gw_calls rfl rfl rfl ?_
            refine mw_has (by omega) (by omega) ?_
            rw [gb_f (fun z => hin (hnb.mp z))]
            (repeat (first | refine gx_run 999 80 rfl ?_ | refine gx_goto rfl rfl ?_))
            first | refine gx_iff rfl (by dsimp only [gn_cmp] <;> decide) ?_ | refine gx_icf rfl (by dsimp only [gn_cmp] <;> decide) ?_
            (repeat (first | refine gx_run 999 80 rfl ?_ | refine gx_goto rfl rfl ?_))
            refine gx_iret rfl rfl ?_
            exact hQ
      · refine gPair.q hI (-1000000002) (fun Q hQ => ?_) (fun Q hQ => ?_)
        · (repeat (first | refine gx_run 999 80 rfl ?_ | refine gx_goto rfl rfl ?_))
          rw [hd]
          refine gx_call rfl rfl rfl ?_
          refine xw_isG hT.2.2.1 ?_
          rw [gb_t hg]
          (repeat (first | refine gx_run 999 80 rfl ?_ | refine gx_goto rfl rfl ?_))
          first | refine gx_iff rfl (by dsimp only [gn_cmp] <;> decide) ?_ | refine gx_icf rfl (by dsimp only [gn_cmp] <;> decide) ?_
          (repeat (first | refine gx_run 999 80 rfl ?_ | refine gx_goto rfl rfl ?_))
          rw [hd]
          refine gx_call rfl rfl rfl ?_
          refine xw_isH hT.2.2.1 ?_
          rw [gb_t hh]
          (repeat (first | refine gx_run 999 80 rfl ?_ | refine gx_goto rfl rfl ?_))
          first | refine gx_ift rfl (by dsimp only [gn_cmp] <;> decide) ?_ | refine gx_ict rfl (by dsimp only [gn_cmp] <;> decide) ?_
          (repeat (first | refine gx_run 999 80 rfl ?_ | refine gx_goto rfl rfl ?_))
          refine gw_calls rfl rfl rfl ?_
          refine xw_noClaim ?_
          rw [show gb (¬ (¬ k < 0 ∧ ¬ nI 6 ≤ k)) = 1 from gb_t hk]
          (repeat (first | refine gx_run 999 80 rfl ?_ | refine gx_goto rfl rfl ?_))
          first | refine gx_iff rfl (by dsimp only [gn_cmp] <;> decide) ?_ | refine gx_icf rfl (by dsimp only [gn_cmp] <;> decide) ?_
          (repeat (first | refine gx_run 999 80 rfl ?_ | refine gx_goto rfl rfl ?_))
          refine gx_iret rfl rfl ?_
          exact hQ
        · (repeat (first | refine gx_run 999 80 rfl ?_ | refine gx_goto rfl rfl ?_))
          refine gx_call rfl rfl rfl ?_
          refine mw_isG hT.2.2.2 ?_
          rw [gb_t hg]
          (repeat (first | refine gx_run 999 80 rfl ?_ | refine gx_goto rfl rfl ?_))
          first | refine gx_iff rfl (by dsimp only [gn_cmp] <;> decide) ?_ | refine gx_icf rfl (by dsimp only [gn_cmp] <;> decide) ?_
          (repeat (first | refine gx_run 999 80 rfl ?_ | refine gx_goto rfl rfl ?_))
          refine gx_call rfl rfl rfl ?_
          refine mw_isH hT.2.2.2 ?_
          rw [gb_t hh]
          (repeat (first | refine gx_run 999 80 rfl ?_ | refine gx_goto rfl rfl ?_))
          first | refine gx_ift rfl (by dsimp only [gn_cmp] <;> decide) ?_ | refine gx_ict rfl (by dsimp only [gn_cmp] <;> decide) ?_
          (repeat (first | refine gx_run 999 80 rfl ?_ | refine gx_goto rfl rfl ?_))
          refine gw_calls rfl rfl rfl ?_
          refine mw_in0 6 (by omega) rfl ?_
          rw [gb_f hk]
          (repeat (first | refine gx_run 999 80 rfl ?_ | refine gx_goto rfl rfl ?_))
          first | refine gx_iff rfl (by dsimp only [gn_cmp] <;> decide) ?_ | refine gx_icf rfl (by dsimp only [gn_cmp] <;> decide) ?_
          (repeat (first | refine gx_run 999 80 rfl ?_ | refine gx_goto rfl rfl ?_))
          refine gx_iret rfl rfl ?_
          exact hQ
    · refine gPair.q hI (-1000000001) (fun Q hQ => ?_) (fun Q hQ => ?_)
      · (repeat (first | refine gx_run 999 80 rfl ?_ | refine gx_goto rfl rfl ?_))
        rw [hd]
        refine gx_call rfl rfl rfl ?_
        refine xw_isG hT.2.2.1 ?_
        rw [gb_t hg]
        (repeat (first | refine gx_run 999 80 rfl ?_ | refine gx_goto rfl rfl ?_))
        first | refine gx_iff rfl (by dsimp only [gn_cmp] <;> decide) ?_ | refine gx_icf rfl (by dsimp only [gn_cmp] <;> decide) ?_
        (repeat (first | refine gx_run 999 80 rfl ?_ | refine gx_goto rfl rfl ?_))
        rw [hd]
        refine gx_call rfl rfl rfl ?_
        refine xw_isH hT.2.2.1 ?_
        rw [gb_f hh]
        (repeat (first | refine gx_run 999 80 rfl ?_ | refine gx_goto rfl rfl ?_))
        first | refine gx_iff rfl (by dsimp only [gn_cmp] <;> decide) ?_ | refine gx_icf rfl (by dsimp only [gn_cmp] <;> decide) ?_
        (repeat (first | refine gx_run 999 80 rfl ?_ | refine gx_goto rfl rfl ?_))
        refine gx_iret rfl rfl ?_
        exact hQ
      · (repeat (first | refine gx_run 999 80 rfl ?_ | refine gx_goto rfl rfl ?_))
        refine gx_call rfl rfl rfl ?_
        refine mw_isG hT.2.2.2 ?_
        rw [gb_t hg]
        (repeat (first | refine gx_run 999 80 rfl ?_ | refine gx_goto rfl rfl ?_))
        first | refine gx_iff rfl (by dsimp only [gn_cmp] <;> decide) ?_ | refine gx_icf rfl (by dsimp only [gn_cmp] <;> decide) ?_
        (repeat (first | refine gx_run 999 80 rfl ?_ | refine gx_goto rfl rfl ?_))
        refine gx_call rfl rfl rfl ?_
        refine mw_isH hT.2.2.2 ?_
        rw [gb_f hh]
        (repeat (first | refine gx_run 999 80 rfl ?_ | refine gx_goto rfl rfl ?_))
        first | refine gx_iff rfl (by dsimp only [gn_cmp] <;> decide) ?_ | refine gx_icf rfl (by dsimp only [gn_cmp] <;> decide) ?_
        (repeat (first | refine gx_run 999 80 rfl ?_ | refine gx_goto rfl rfl ?_))
        refine gx_iret rfl rfl ?_
        exact hQ
  · refine gPair.q hI (-1000000001) (fun Q hQ => ?_) (fun Q hQ => ?_)
    · (repeat (first | refine gx_run 999 80 rfl ?_ | refine gx_goto rfl rfl ?_))
      rw [hd]
      refine gx_call rfl rfl rfl ?_
      refine xw_isG hT.2.2.1 ?_
      rw [gb_f hg]
      (repeat (first | refine gx_run 999 80 rfl ?_ | refine gx_goto rfl rfl ?_))
      first | refine gx_ift rfl (by dsimp only [gn_cmp] <;> decide) ?_ | refine gx_ict rfl (by dsimp only [gn_cmp] <;> decide) ?_
      (repeat (first | refine gx_run 999 80 rfl ?_ | refine gx_goto rfl rfl ?_))
      refine gx_iret rfl rfl ?_
      exact hQ
    · (repeat (first | refine gx_run 999 80 rfl ?_ | refine gx_goto rfl rfl ?_))
      refine gx_call rfl rfl rfl ?_
      refine mw_isG hT.2.2.2 ?_
      rw [gb_f hg]
      (repeat (first | refine gx_run 999 80 rfl ?_ | refine gx_goto rfl rfl ?_))
      first | refine gx_ift rfl (by dsimp only [gn_cmp] <;> decide) ?_ | refine gx_ict rfl (by dsimp only [gn_cmp] <;> decide) ?_
      (repeat (first | refine gx_run 999 80 rfl ?_ | refine gx_goto rfl rfl ?_))
      refine gx_iret rfl rfl ?_
      exact hQ
