/-! undo, keep, goBack -/
theorem xR.fr {f f' : Nat → Int32} {A : gA} (h : xR f A) (e : ∀ k, k < 28 → f' k = f k) : xR f' A := fun k hk => by rw [e k hk, h k hk]
theorem rem30' {n : Nat} (h : n < 60) : nI n - nI n / 30 * 30 = nI (n % 30) := rem30 h
theorem ring_3 {c nx n i : Nat} (hc : c ≤ 30) (hn : nx < 30) (h1 : 1 ≤ n) (h2 : n ≤ c) (hi : i < c - n) : ((nx + 30 - n) % 30 + 30 - (c - n) + i) % 30 = (nx + 30 - c + i) % 30 := by omega
section
variable {d : Nat} {σ : gn_Mem} {Q : Option Value → gn_Mem → Prop} {D : gD} {A : gA}
theorem xw_giveBack {c nx n : Nat} {B : Nat → gA} (hP : xP σ c nx B) (h1 : 1 ≤ n) (h2 : n ≤ c) (hQ : ∀ σ' : gn_Mem, (∀ o, o ≠ 4 → o ≠ 5 → σ' o = σ o) → xP σ' (c - n) ((nx + 30 - n) % 30) B → xR (σ' 4) (B (c - n)) → Q none σ') : gn_W (d + 1) 43 0 [.ref 5, .ref 3, .int (nI n)] [] σ Q := by
  obtain ⟨hc, hn, k2, k1, hB⟩ := hP
  (repeat (first | refine gx_run 999 80 rfl ?_ | refine gx_goto rfl rfl ?_))
  first | refine gx_iff rfl (nI_nlt (b := 1) h1 (by omega)) ?_ | refine gx_icf rfl (nI_nlt (b := 1) h1 (by omega)) ?_
  (repeat (first | refine gx_run 999 80 rfl ?_ | refine gx_goto rfl rfl ?_))
  rw [k2]
  first | refine gx_ift rfl (nI_le h2 (by omega)) ?_ | refine gx_ict rfl (nI_le h2 (by omega)) ?_
  (repeat (first | refine gx_run 999 80 rfl ?_ | refine gx_goto rfl rfl ?_))
  rw [k1, show (30 : Int32) = nI 30 from rfl, nI_add, pk_sub (by omega)]
  refine gw_irem rfl (by decide) ?_
  rw [show nI 30 = (30 : Int32) from rfl, rem30 (by omega)]
  (repeat (first | refine gx_run 999 80 rfl ?_ | refine gx_goto rfl rfl ?_))
  rw [show gn_up σ 5 1 (nI ((nx + 30 - n) % 30)) 5 2 = nI c by rw [gu_k (by omega)]; exact k2, pk_sub h2]
  rw [show gn_up (gn_up σ 5 1 (nI ((nx + 30 - n) % 30))) 5 2 (nI (c - n)) 5 1 = nI ((nx + 30 - n) % 30) by rw [gu_k (by omega), gu_s], show (28 : Int32) = nI 28 from rfl, pk_mul]
  have e0 : (0 : Int32).toNatClampNeg = 0 := by decide
  have e28 : (nI 28).toNatClampNeg = 28 := by decide
  refine gw_copy rfl rfl rfl rfl (nI_pos (by omega)) (by decide) (by decide) ?_ ?_ ?_
  · rw [nI_clamp (by omega), e28]; omega
  · rw [e0, e28]; omega
  rw [e0, e28, nI_clamp (by omega)]
  refine gw_vret rfl ?_
  generalize hσ : gn_up (gn_up σ 5 1 (nI ((nx + 30 - n) % 30))) 5 2 (nI (c - n)) = σ1
  have f1 : ∀ o, o ≠ 5 → σ1 o = σ o := fun o ho => by rw [← hσ, gu_o ho, gu_o ho]
  have a1 : σ1 5 1 = nI ((nx + 30 - n) % 30) := by rw [← hσ, gu_k (by omega), gu_s]
  have a2 : σ1 5 2 = nI (c - n) := by rw [← hσ, gu_s]
  refine hQ _ (fun o b1 b2 => by rw [gn_upF_ne b1, f1 o b2]) ⟨by omega, by omega, by rw [gF_k (by omega)]; exact a2, by rw [gF_k (by omega)]; exact a1, fun i hi j hj => ?_⟩ (fun j hj => ?_)
  · show gn_upF σ1 4 _ 6 (28 * (((nx + 30 - n) % 30 + 30 - (c - n) + i) % 30) + j) = _
    rw [gF_k (by omega), f1 6 (by omega), ring_3 hc hn h1 h2 hi]
    exact hB i (by omega) j hj
  · rw [gn_upF_eq, pk_cpy_in (by omega) (by omega), f1 6 (by omega)]
    have e : (nx + 30 - n) % 30 * 28 + (j - 0) = 28 * ((nx + 30 - c + (c - n)) % 30) + j := by
      rw [show nx + 30 - c + (c - n) = nx + 30 - n by omega]
      omega
    rw [e]
    exact hB (c - n) (by omega) j hj
end
theorem p_undo {σ : gn_Mem} (hI : Inv σ) (n : Int32) : gPair 106 180 [.int n] σ := by
  obtain ⟨D, A, c, nx, B, z, I, e, T, Z, b, G, H, nn, L, hT, hN, hS, hP, hII, hE, hB, hX, hF⟩ := id hI
  have hc30 := hP.1
  by_cases h1 : ¬ n < 1 ∧ ¬ 30 < n
  · obtain ⟨j, hj, rfl⟩ := nI_of (x := n) (fun q => h1.1 (Int32.lt_trans q (by decide)))
    have hj30 : j ≤ 30 := by
      rcases Nat.lt_or_ge 30 j with q | q
      · exact absurd (nI_lt (a := 30) q hj) h1.2
      · exact q
    have hj1 : 1 ≤ j := by
      rcases Nat.lt_or_ge j 1 with q | q
      · exact absurd (nI_lt (b := 1) q (by omega)) h1.1
      · exact q
    by_cases hcj : j ≤ c
    · unfold gPair
      (repeat (first | refine gx_run 999 80 rfl ?_ | refine gx_goto rfl rfl ?_))
      first | refine gx_iff rfl (h1.1) ?_ | refine gx_icf rfl (h1.1) ?_
      (repeat (first | refine gx_run 999 80 rfl ?_ | refine gx_goto rfl rfl ?_))
      first | refine gx_ift rfl (Int32.not_lt.mp h1.2) ?_ | refine gx_ict rfl (Int32.not_lt.mp h1.2) ?_
      (repeat (first | refine gx_run 999 80 rfl ?_ | refine gx_goto rfl rfl ?_))
      rw [hP.2.2.1]
      first | refine gx_ift rfl (nI_le hcj (by omega)) ?_ | refine gx_ict rfl (nI_le hcj (by omega)) ?_
      (repeat (first | refine gx_run 999 80 rfl ?_ | refine gx_goto rfl rfl ?_))
      refine gx_call rfl rfl rfl ?_
      refine xw_giveBack hP.x hj1 hcj ?_
      intro σ1 f1 hP1 hX1
      (repeat (first | refine gx_run 999 80 rfl ?_ | refine gx_goto rfl rfl ?_))
      refine gx_call rfl rfl rfl ?_
      refine xw_hours hX1 ?_
      (repeat (first | refine gx_run 999 80 rfl ?_ | refine gx_goto rfl rfl ?_))
      refine gx_iret rfl rfl ?_
      have w1 : σ1 45 = σ 45 := f1 45 (by omega) (by omega)
      have u1 : σ1 44 10 = nI c := by rw [f1 44 (by omega) (by omega)]; exact hP.2.2.2.1
      (repeat (first | refine gx_run 999 80 rfl ?_ | refine gx_goto rfl rfl ?_))
      refine gw_calls rfl rfl rfl ?_
      refine mw_in ?_
      rw [gb_t h1]
      (repeat (first | refine gx_run 999 80 rfl ?_ | refine gx_goto rfl rfl ?_))
      first | refine gx_ift rfl (by dsimp only [gn_cmp] <;> decide) ?_ | refine gx_ict rfl (by dsimp only [gn_cmp] <;> decide) ?_
      (repeat (first | refine gx_run 999 80 rfl ?_ | refine gx_goto rfl rfl ?_))
      rw [u1]
      first | refine gx_ift rfl (nI_le hcj (by omega)) ?_ | refine gx_ict rfl (nI_le hcj (by omega)) ?_
      (repeat (first | refine gx_run 999 80 rfl ?_ | refine gx_goto rfl rfl ?_))
      rw [u1, pk_sub hcj]
      refine gx_ld (w := σ 45 28) 28 rfl (by omega) (by rw [gu_k (by omega), w1]) rfl rfl rfl ?_
      (repeat (first | refine gx_run 999 80 rfl ?_ | refine gx_goto rfl rfl ?_))
      rw [gu_s, ix29]
      refine gx_call rfl rfl rfl ?_
      refine mw_copyRow (b := 0) (by omega) (by omega) (by omega) ?_
      (repeat (first | refine gx_run 999 80 rfl ?_ | refine gx_goto rfl rfl ?_))
      refine gx_st 28 rfl (by omega) rfl rfl rfl ?_
      generalize hσ : gn_upF (gn_up σ1 44 10 (nI (c - j))) 45 (va_cpy (gn_up σ1 44 10 (nI (c - j)) 45) (gn_up σ1 44 10 (nI (c - j)) 45) (87 + 29 * (c - j)) 0 29) = σ2
      have w2 : ∀ k, σ2 45 k = va_cpy (σ 45) (σ 45) (87 + 29 * (c - j)) 0 29 k := fun k => by rw [← hσ, gn_upF_eq, gu_o (by omega), w1]
      generalize hσ3 : gn_up σ2 45 28 (σ 45 28) = σ3
      have lo : ∀ k, k < 28 → σ3 45 k = σ 45 (87 + 29 * (c - j) + k) := fun k hk => by
        rw [← hσ3, gu_k (by omega), w2, pk_cpy_in (by omega) (by omega)]
        congr 1
      have hi : ∀ k, 29 ≤ k → σ3 45 k = σ 45 k := fun k hk => by
        rw [← hσ3, gu_k (by omega), w2, pk_cpy_out (by omega)]
      have s28 : σ3 45 28 = σ 45 28 := by rw [← hσ3, gu_s]
      have o3 : ∀ o, o ≠ 44 → o ≠ 45 → σ3 o = σ1 o := fun o a1 a2 => by rw [← hσ3, gu_o a2, ← hσ, gn_upF_ne a2, gu_o a1]
      have m3 : ∀ k, k ≠ 10 → σ3 44 k = σ 44 k := fun k hk => by rw [← hσ3, gu_k (by omega), ← hσ, gF_k (by omega), gu_k (Or.inr hk), f1 44 (by omega) (by omega)]
      have m10 : σ3 44 10 = nI (c - j) := by rw [← hσ3, gu_k (by omega), ← hσ, gF_k (by omega), gu_s]
      have hBc := hP.2.2.2.2.2 (c - j) (by omega)
      have hR3 : mR (σ3 45) (B (c - j)) := fun k hk => by rw [lo k hk]; exact hBc.2.1 k hk
      (repeat (first | refine gx_run 999 80 rfl ?_ | refine gx_goto rfl rfl ?_))
      refine gx_ld 26 rfl (by omega) hR3.hr rfl rfl rfl ?_
      refine gx_iret rfl rfl ?_
      refine ⟨⟨_, rfl, rfl⟩, Inv.deed (A' := B (c - j)) (c' := c - j) (nx' := (nx + 30 - j) % 30) (B' := B) hT hII hE hB hX hF (fun o a1 a2 a3 a4 a5 a6 => by rw [o3 o a5 a6, f1 o a1 a2]) m3 (fun k a1 a2 => hi k a1) ⟨by rw [o3 4 (by omega) (by omega)]; exact hX1, hR3, hBc.1⟩ (hS.fr (by rw [o3 11 (by omega) (by omega), f1 11 (by omega) (by omega)]) s28) (iP.mk' (hP1.fr (o3 5 (by omega) (by omega)) (o3 6 (by omega) (by omega))) ⟨by omega, m10, fun i hi2 k hk => ?_⟩ (fun i hi2 => (hP.2.2.2.2.2 i (by omega)).1))⟩
      show σ3 45 (87 + 29 * i + k) = _
      rw [hi _ (by omega)]
      exact (hP.2.2.2.2.2 i (by omega)).2.1 k hk
    · refine gPair.q hI (-1000000003) (fun Q hQ => ?_) (fun Q hQ => ?_)
      · (repeat (first | refine gx_run 999 80 rfl ?_ | refine gx_goto rfl rfl ?_))
        first | refine gx_iff rfl (h1.1) ?_ | refine gx_icf rfl (h1.1) ?_
        (repeat (first | refine gx_run 999 80 rfl ?_ | refine gx_goto rfl rfl ?_))
        first | refine gx_ift rfl (Int32.not_lt.mp h1.2) ?_ | refine gx_ict rfl (Int32.not_lt.mp h1.2) ?_
        (repeat (first | refine gx_run 999 80 rfl ?_ | refine gx_goto rfl rfl ?_))
        rw [hP.2.2.1]
        first | refine gx_iff rfl (nI_ge (by omega) (by omega)) ?_ | refine gx_icf rfl (nI_ge (by omega) (by omega)) ?_
        (repeat (first | refine gx_run 999 80 rfl ?_ | refine gx_goto rfl rfl ?_))
        refine gx_iret rfl rfl ?_
        exact hQ
      · (repeat (first | refine gx_run 999 80 rfl ?_ | refine gx_goto rfl rfl ?_))
        refine gw_calls rfl rfl rfl ?_
        refine mw_in ?_
        rw [gb_t h1]
        (repeat (first | refine gx_run 999 80 rfl ?_ | refine gx_goto rfl rfl ?_))
        first | refine gx_ift rfl (by dsimp only [gn_cmp] <;> decide) ?_ | refine gx_ict rfl (by dsimp only [gn_cmp] <;> decide) ?_
        (repeat (first | refine gx_run 999 80 rfl ?_ | refine gx_goto rfl rfl ?_))
        rw [hP.2.2.2.1]
        first | refine gx_iff rfl (nI_ge (by omega) (by omega)) ?_ | refine gx_icf rfl (nI_ge (by omega) (by omega)) ?_
        (repeat (first | refine gx_run 999 80 rfl ?_ | refine gx_goto rfl rfl ?_))
        refine gx_iret rfl rfl ?_
        exact hQ
  · refine gPair.q hI (-1000000002) (fun Q hQ => ?_) (fun Q hQ => ?_)
    · (repeat (first | refine gx_run 999 80 rfl ?_ | refine gx_goto rfl rfl ?_))
      first | refine gw_if rfl (fun h3 => ?_) (fun h3 => ?_) | refine gw_icmp rfl (fun h3 => ?_) (fun h3 => ?_)
      · (repeat (first | refine gx_run 999 80 rfl ?_ | refine gx_goto rfl rfl ?_))
        refine gx_iret rfl rfl ?_
        exact hQ
      · (repeat (first | refine gx_run 999 80 rfl ?_ | refine gx_goto rfl rfl ?_))
        first | refine gx_iff rfl (fun q => h1 ⟨h3, Int32.not_lt.mpr q⟩) ?_ | refine gx_icf rfl (fun q => h1 ⟨h3, Int32.not_lt.mpr q⟩) ?_
        (repeat (first | refine gx_run 999 80 rfl ?_ | refine gx_goto rfl rfl ?_))
        refine gx_iret rfl rfl ?_
        exact hQ
    · (repeat (first | refine gx_run 999 80 rfl ?_ | refine gx_goto rfl rfl ?_))
      refine gw_calls rfl rfl rfl ?_
      refine mw_in ?_
      rw [gb_f h1]
      (repeat (first | refine gx_run 999 80 rfl ?_ | refine gx_goto rfl rfl ?_))
      first | refine gx_iff rfl (by dsimp only [gn_cmp] <;> decide) ?_ | refine gx_icf rfl (by dsimp only [gn_cmp] <;> decide) ?_
      (repeat (first | refine gx_run 999 80 rfl ?_ | refine gx_goto rfl rfl ?_))
      refine gx_iret rfl rfl ?_
      exact hQ
