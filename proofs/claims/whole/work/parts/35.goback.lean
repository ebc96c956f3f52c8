/-! goBack -/
theorem p_goBack {σ : gn_Mem} (hI : Inv σ) (i : Int32) : gPair 123 203 [.int i] σ := by
  obtain ⟨D, A, c, nx, B, z, I, e, T, Z, b, G, H, n, L, hT, hN, hS, hP, hII, hE, hB, hX, hF⟩ := id hI
  have hnx := hP.2.1
  have hkl := klt (z 0) (z 1)
  by_cases hi : i = 0 ∨ i = 1
  · obtain ⟨u, hu, rfl⟩ : ∃ u, u < 2 ∧ i = nI u := by
      rcases hi with rfl | rfl
      · exact ⟨0, by omega, rfl⟩
      · exact ⟨1, by omega, rfl⟩
    have hbit : ((z 0).toNat + 2 * (z 1).toNat).testBit u = z u := by
      rcases (show u = 0 ∨ u = 1 by omega) with rfl | rfl
      · exact (khas _ _).1
      · exact (khas _ _).2
    by_cases hz : z u = true
    · obtain ⟨q1, q2, q3, q4, q5⟩ := hII.2.2.2 u hu hz
      have e0 : (0 : Int32).toNatClampNeg = 0 := by decide
      have e28 : (28 : Int32).toNatClampNeg = 28 := by decide
      unfold gPair
      (repeat (first | refine gx_run 999 80 rfl ?_ | refine gx_goto rfl rfl ?_))
      refine gw_calls rfl rfl rfl ?_
      refine xw_noImg ?_
      rw [show gb (¬ (nI u = 0 ∨ nI u = 1)) = 0 from gb_f (fun q => q hi)]
      (repeat (first | refine gx_run 999 80 rfl ?_ | refine gx_goto rfl rfl ?_))
      first | refine gx_ift rfl (by dsimp only [gn_cmp] <;> decide) ?_ | refine gx_ict rfl (by dsimp only [gn_cmp] <;> decide) ?_
      have kx : ∀ σ1 : gn_Mem, (∀ o, o ≠ 4 → o ≠ 5 → o ≠ 11 → σ1 o = σ o) → (∀ k, k < 28 → σ1 4 k = σ (8 + 2 * u) k) → σ1 11 0 = σ (7 + 2 * u) 1 → σ1 5 2 = 0 → σ1 5 1 = nI nx → gn_W 20 203 0 [.ref 44, .int (nI u)] [] σ1 (fun r2 σ2 => (∃ v : Int32, some (Value.int 1) = some (.int v) ∧ r2 = some (.int v)) ∧ Inv σ2) := by
        intro σ1 f1 h4 h11 h52 h51
        have w1 : σ1 45 = σ 45 := f1 45 (by omega) (by omega) (by omega)
        have m1 : ∀ k, σ1 44 k = σ 44 k := fun k => by rw [f1 44 (by omega) (by omega) (by omega)]
        (repeat (first | refine gx_run 999 80 rfl ?_ | refine gx_goto rfl rfl ?_))
        refine gw_calls rfl rfl rfl ?_
        refine mw_in0 2 (by omega) rfl ?_
        rw [gb_t ((in01 _).mpr hi)]
        (repeat (first | refine gx_run 999 80 rfl ?_ | refine gx_goto rfl rfl ?_))
        first | refine gx_ift rfl (by dsimp only [gn_cmp] <;> decide) ?_ | refine gx_ict rfl (by dsimp only [gn_cmp] <;> decide) ?_
        (repeat (first | refine gx_run 999 80 rfl ?_ | refine gx_goto rfl rfl ?_))
        rw [m1, hII.2.2.1]
        refine gw_calls rfl rfl rfl ?_
        refine mw_has hkl (by omega) ?_
        rw [gb_t (by rw [hbit]; exact hz)]
        (repeat (first | refine gx_run 999 80 rfl ?_ | refine gx_goto rfl rfl ?_))
        first | refine gx_ift rfl (by dsimp only [gn_cmp] <;> decide) ?_ | refine gx_ict rfl (by dsimp only [gn_cmp] <;> decide) ?_
        (repeat (first | refine gx_run 999 80 rfl ?_ | refine gx_goto rfl rfl ?_))
        rw [ix29']
        refine gx_call rfl rfl rfl ?_
        refine mw_copyRow (b := 0) (by omega) (by omega) (by omega) ?_
        (repeat (first | refine gx_run 999 80 rfl ?_ | refine gx_goto rfl rfl ?_))
        refine gx_iret rfl rfl ?_
        refine ⟨⟨_, rfl, rfl⟩, ?_⟩
        generalize hσ : gn_up (gn_upF σ1 45 (va_cpy (σ1 45) (σ1 45) (29 + 29 * u) 0 29)) 44 10 0 = σ2
        have o2 : ∀ o, o ≠ 44 → o ≠ 45 → σ2 o = σ1 o := fun o a1 a2 => by rw [← hσ, gu_o a1, gn_upF_ne a2]
        have m2 : ∀ k, k ≠ 10 → σ2 44 k = σ 44 k := fun k a1 => by rw [← hσ, gu_k (Or.inr a1), gF_k (by omega), m1]
        have m10 : σ2 44 10 = nI 0 := by rw [← hσ, gu_s]; rfl
        have win : ∀ k, k < 29 → σ2 45 k = σ 45 (29 + 29 * u + k) := fun k hk => by
          rw [← hσ, gu_k (by omega), gn_upF_eq, pk_cpy_in (by omega) (by omega), w1]
          congr 1
        have wout : ∀ k, 29 ≤ k → σ2 45 k = σ 45 k := fun k hk => by
          rw [← hσ, gu_k (by omega), gn_upF_eq, pk_cpy_out (by omega), w1]
        have all : ∀ o, o ≠ 4 → o ≠ 5 → o ≠ 11 → o ≠ 44 → o ≠ 45 → σ2 o = σ o := fun o a1 a2 a3 a4 a5 => by rw [o2 o a4 a5, f1 o a1 a2 a3]
        refine Inv.imgs (A' := I u) (c := 0) (nx := nx) (B := B) (z' := z) (I' := I) hT hE hB hX hF (fun o ho => all o (by omega) (by omega) (by omega) (by omega) (by omega)) (fun k a1 a2 => m2 k a1) ⟨?_, ?_, q1⟩ ⟨?_, ?_⟩ ⟨by omega, hnx, by rw [o2 5 (by omega) (by omega)]; exact h52, m10, by rw [o2 5 (by omega) (by omega)]; exact h51, fun k hk => by omega⟩ (hII.fr (fun o h1 h2 => all o (by omega) (by omega) (by omega) (by omega) (by omega)) (m2 11 (by omega)) (fun k h1 h2 => wout k h1))
        · rw [o2 4 (by omega) (by omega)]
          exact q3.fr h4
        · intro k hk
          rw [win k (by omega)]
          exact q2 k hk
        · rw [o2 11 (by omega) (by omega), h11, win 28 (by omega)]
          exact q4
        · rw [o2 11 (by omega) (by omega), h11]
          exact q5
      have v51 := hP.2.2.2.2.1
      have vz : σ (7 + 2 * u) 2 = 1 := by
        rcases (show u = 0 ∨ u = 1 by omega) with rfl | rfl
        · rw [show σ (7 + 2 * 0) 2 = _ from hII.1, hz]; rfl
        · rw [show σ (7 + 2 * 1) 2 = _ from hII.2.1, hz]; rfl
      rcases (show u = 0 ∨ u = 1 by omega) with rfl | rfl
      · (repeat (first | refine gx_run 999 80 rfl ?_ | refine gx_goto rfl rfl ?_))
        refine gx_call rfl rfl rfl ?_
        (repeat (first | refine gx_run 999 80 rfl ?_ | refine gx_goto rfl rfl ?_))
        first | refine gx_iff rfl (by dsimp only [gn_cmp] <;> decide) ?_ | refine gx_icf rfl (by dsimp only [gn_cmp] <;> decide) ?_
        (repeat (first | refine gx_run 999 80 rfl ?_ | refine gx_goto rfl rfl ?_))
        refine gw_aret rfl ?_
        (repeat (first | refine gx_run 999 80 rfl ?_ | refine gx_goto rfl rfl ?_))
        rw [show σ 7 2 = 1 from vz]
        first | refine gx_ift rfl (by dsimp only [gn_cmp] <;> decide) ?_ | refine gx_ict rfl (by dsimp only [gn_cmp] <;> decide) ?_
        (repeat (first | refine gx_run 999 80 rfl ?_ | refine gx_goto rfl rfl ?_))
        refine gx_call rfl rfl rfl ?_
        (repeat (first | refine gx_run 999 80 rfl ?_ | refine gx_goto rfl rfl ?_))
        refine gw_copy rfl rfl rfl rfl (by decide) (by decide) (by decide) (by decide) (by decide) ?_
        (repeat (first | refine gx_run 999 80 rfl ?_ | refine gx_goto rfl rfl ?_))
        refine gw_vret rfl ?_
        (repeat (first | refine gx_run 999 80 rfl ?_ | refine gx_goto rfl rfl ?_))
        refine gx_call rfl rfl rfl ?_
        refine xw_forget ?_
        (repeat (first | refine gx_run 999 80 rfl ?_ | refine gx_goto rfl rfl ?_))
        refine gx_iret rfl rfl ?_
        refine kx _ (fun o a1 a2 a3 => by rw [gu_o a2, gu_o a3, gn_upF_ne a1]) (fun k hk => ?_) ?_ gu_s ?_
        · rw [gu_k (Or.inl (show (4 : Nat) ≠ 5 by decide)), gu_k (Or.inl (show (4 : Nat) ≠ 11 by decide)), gn_upF_eq, e0, e28, pk_cpy_in (by omega) (by omega)]
          congr 1
          omega
        · rw [gu_k (by omega), gu_s, gF_k (show (7 : Nat) ≠ 4 by decide)]
        · rw [gu_k (by omega), gu_k (by omega), gF_k (show (5 : Nat) ≠ 4 by decide)]
          exact v51
      · (repeat (first | refine gx_run 999 80 rfl ?_ | refine gx_goto rfl rfl ?_))
        refine gx_call rfl rfl rfl ?_
        (repeat (first | refine gx_run 999 80 rfl ?_ | refine gx_goto rfl rfl ?_))
        first | refine gx_ift rfl (by dsimp only [gn_cmp] <;> decide) ?_ | refine gx_ict rfl (by dsimp only [gn_cmp] <;> decide) ?_
        (repeat (first | refine gx_run 999 80 rfl ?_ | refine gx_goto rfl rfl ?_))
        refine gw_aret rfl ?_
        (repeat (first | refine gx_run 999 80 rfl ?_ | refine gx_goto rfl rfl ?_))
        rw [show σ 9 2 = 1 from vz]
        first | refine gx_ift rfl (by dsimp only [gn_cmp] <;> decide) ?_ | refine gx_ict rfl (by dsimp only [gn_cmp] <;> decide) ?_
        (repeat (first | refine gx_run 999 80 rfl ?_ | refine gx_goto rfl rfl ?_))
        refine gx_call rfl rfl rfl ?_
        (repeat (first | refine gx_run 999 80 rfl ?_ | refine gx_goto rfl rfl ?_))
        refine gw_copy rfl rfl rfl rfl (by decide) (by decide) (by decide) (by decide) (by decide) ?_
        (repeat (first | refine gx_run 999 80 rfl ?_ | refine gx_goto rfl rfl ?_))
        refine gw_vret rfl ?_
        (repeat (first | refine gx_run 999 80 rfl ?_ | refine gx_goto rfl rfl ?_))
        refine gx_call rfl rfl rfl ?_
        refine xw_forget ?_
        (repeat (first | refine gx_run 999 80 rfl ?_ | refine gx_goto rfl rfl ?_))
        refine gx_iret rfl rfl ?_
        refine kx _ (fun o a1 a2 a3 => by rw [gu_o a2, gu_o a3, gn_upF_ne a1]) (fun k hk => ?_) ?_ gu_s ?_
        · rw [gu_k (Or.inl (show (4 : Nat) ≠ 5 by decide)), gu_k (Or.inl (show (4 : Nat) ≠ 11 by decide)), gn_upF_eq, e0, e28, pk_cpy_in (by omega) (by omega)]
          congr 1
          omega
        · rw [gu_k (by omega), gu_s, gF_k (show (9 : Nat) ≠ 4 by decide)]
        · rw [gu_k (by omega), gu_k (by omega), gF_k (show (5 : Nat) ≠ 4 by decide)]
          exact v51
    · have hz0 : z u = false := by cases h : z u <;> simp_all
      have vz : σ (7 + 2 * u) 2 = 0 := by
        rcases (show u = 0 ∨ u = 1 by omega) with rfl | rfl
        · rw [show σ (7 + 2 * 0) 2 = _ from hII.1, hz0]; rfl
        · rw [show σ (7 + 2 * 1) 2 = _ from hII.2.1, hz0]; rfl
      refine gPair.q hI (-1000000003) (fun Q hQ => ?_) (fun Q hQ => ?_)
      · (repeat (first | refine gx_run 999 80 rfl ?_ | refine gx_goto rfl rfl ?_))
        refine gw_calls rfl rfl rfl ?_
        refine xw_noImg ?_
        rw [show gb (¬ (nI u = 0 ∨ nI u = 1)) = 0 from gb_f (fun q => q hi)]
        (repeat (first | refine gx_run 999 80 rfl ?_ | refine gx_goto rfl rfl ?_))
        first | refine gx_ift rfl (by dsimp only [gn_cmp] <;> decide) ?_ | refine gx_ict rfl (by dsimp only [gn_cmp] <;> decide) ?_
        rcases (show u = 0 ∨ u = 1 by omega) with rfl | rfl
        · (repeat (first | refine gx_run 999 80 rfl ?_ | refine gx_goto rfl rfl ?_))
          refine gx_call rfl rfl rfl ?_
          (repeat (first | refine gx_run 999 80 rfl ?_ | refine gx_goto rfl rfl ?_))
          first | refine gx_iff rfl (by dsimp only [gn_cmp] <;> decide) ?_ | refine gx_icf rfl (by dsimp only [gn_cmp] <;> decide) ?_
          (repeat (first | refine gx_run 999 80 rfl ?_ | refine gx_goto rfl rfl ?_))
          refine gw_aret rfl ?_
          (repeat (first | refine gx_run 999 80 rfl ?_ | refine gx_goto rfl rfl ?_))
          rw [show σ 7 2 = 0 from vz]
          first | refine gx_iff rfl (by dsimp only [gn_cmp] <;> decide) ?_ | refine gx_icf rfl (by dsimp only [gn_cmp] <;> decide) ?_
          (repeat (first | refine gx_run 999 80 rfl ?_ | refine gx_goto rfl rfl ?_))
          refine gx_iret rfl rfl ?_
          exact hQ
        · (repeat (first | refine gx_run 999 80 rfl ?_ | refine gx_goto rfl rfl ?_))
          refine gx_call rfl rfl rfl ?_
          (repeat (first | refine gx_run 999 80 rfl ?_ | refine gx_goto rfl rfl ?_))
          first | refine gx_ift rfl (by dsimp only [gn_cmp] <;> decide) ?_ | refine gx_ict rfl (by dsimp only [gn_cmp] <;> decide) ?_
          (repeat (first | refine gx_run 999 80 rfl ?_ | refine gx_goto rfl rfl ?_))
          refine gw_aret rfl ?_
          (repeat (first | refine gx_run 999 80 rfl ?_ | refine gx_goto rfl rfl ?_))
          rw [show σ 9 2 = 0 from vz]
          first | refine gx_iff rfl (by dsimp only [gn_cmp] <;> decide) ?_ | refine gx_icf rfl (by dsimp only [gn_cmp] <;> decide) ?_
          (repeat (first | refine gx_run 999 80 rfl ?_ | refine gx_goto rfl rfl ?_))
          refine gx_iret rfl rfl ?_
          exact hQ
      · (repeat (first | refine gx_run 999 80 rfl ?_ | refine gx_goto rfl rfl ?_))
        refine gw_calls rfl rfl rfl ?_
        refine mw_in0 2 (by omega) rfl ?_
        rw [gb_t ((in01 _).mpr hi)]
        (repeat (first | refine gx_run 999 80 rfl ?_ | refine gx_goto rfl rfl ?_))
        first | refine gx_ift rfl (by dsimp only [gn_cmp] <;> decide) ?_ | refine gx_ict rfl (by dsimp only [gn_cmp] <;> decide) ?_
        (repeat (first | refine gx_run 999 80 rfl ?_ | refine gx_goto rfl rfl ?_))
        rw [hII.2.2.1]
        refine gw_calls rfl rfl rfl ?_
        refine mw_has hkl (by omega) ?_
        rw [gb_f (by rw [hbit]; exact hz)]
        (repeat (first | refine gx_run 999 80 rfl ?_ | refine gx_goto rfl rfl ?_))
        first | refine gx_iff rfl (by dsimp only [gn_cmp] <;> decide) ?_ | refine gx_icf rfl (by dsimp only [gn_cmp] <;> decide) ?_
        (repeat (first | refine gx_run 999 80 rfl ?_ | refine gx_goto rfl rfl ?_))
        refine gx_iret rfl rfl ?_
        exact hQ
  · refine gPair.q hI (-1000000001) (fun Q hQ => ?_) (fun Q hQ => ?_)
    · (repeat (first | refine gx_run 999 80 rfl ?_ | refine gx_goto rfl rfl ?_))
      refine gw_calls rfl rfl rfl ?_
      refine xw_noImg ?_
      rw [show gb (¬ (i = 0 ∨ i = 1)) = 1 from gb_t hi]
      (repeat (first | refine gx_run 999 80 rfl ?_ | refine gx_goto rfl rfl ?_))
      first | refine gx_iff rfl (by dsimp only [gn_cmp] <;> decide) ?_ | refine gx_icf rfl (by dsimp only [gn_cmp] <;> decide) ?_
      (repeat (first | refine gx_run 999 80 rfl ?_ | refine gx_goto rfl rfl ?_))
      refine gx_iret rfl rfl ?_
      exact hQ
    · (repeat (first | refine gx_run 999 80 rfl ?_ | refine gx_goto rfl rfl ?_))
      refine gw_calls rfl rfl rfl ?_
      refine mw_in0 2 (by omega) rfl ?_
      rw [gb_f (fun q => hi ((in01 _).mp q))]
      (repeat (first | refine gx_run 999 80 rfl ?_ | refine gx_goto rfl rfl ?_))
      first | refine gx_iff rfl (by dsimp only [gn_cmp] <;> decide) ?_ | refine gx_icf rfl (by dsimp only [gn_cmp] <;> decide) ?_
      (repeat (first | refine gx_run 999 80 rfl ?_ | refine gx_goto rfl rfl ?_))
      refine gx_iret rfl rfl ?_
      exact hQ
