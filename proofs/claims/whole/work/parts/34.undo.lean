/-! undo, keep, goBack -/
theorem xR.fr {f f' : Nat → Int32} {A : gA} (h : xR f A) (e : ∀ k, k < 28 → f' k = f k) : xR f' A := fun k hk => by rw [e k hk, h k hk]
theorem rem30' {n : Nat} (h : n < 60) : nI n - nI n / 30 * 30 = nI (n % 30) := rem30 h
theorem ring_3 {c nx n i : Nat} (hc : c ≤ 30) (hn : nx < 30) (h1 : 1 ≤ n) (h2 : n ≤ c) (hi : i < c - n) : ((nx + 30 - n) % 30 + 30 - (c - n) + i) % 30 = (nx + 30 - c + i) % 30 := by omega
section
variable {d : Nat} {σ : gn_Mem} {Q : Option Value → gn_Mem → Prop} {D : gD} {A : gA}
theorem xw_giveBack {c nx n : Nat} {B : Nat → gA} (hP : xP σ c nx B) (h1 : 1 ≤ n) (h2 : n ≤ c) (hQ : ∀ σ' : gn_Mem, (∀ o, o ≠ 4 → o ≠ 5 → σ' o = σ o) → xP σ' (c - n) ((nx + 30 - n) % 30) B → xR (σ' 4) (B (c - n)) → Q none σ') : gn_W (d + 1) 43 0 [.ref 5, .ref 3, .int (nI n)] [] σ Q := by
  obtain ⟨hc, hn, k2, k1, hB⟩ := hP
  (repeat (first | refine gx_run 999 80 rfl ?_ | refine gx_goto rfl rfl ?_))
  first | refine gx_iff rfl (nI_nlt (b := 1) h1 (by omega)) ?_ | refine gx_icf rfl (nI_nlt (b := 1) h1 (by omega)) ?_
  (repeat (first | refine gx_run 999 80 rfl ?_ | refine gx_goto rfl rfl ?_))
  rw [k2]
  first | refine gx_ift rfl (nI_le h2 (by omega)) ?_ | refine gx_ict rfl (nI_le h2 (by omega)) ?_
  (repeat (first | refine gx_run 999 80 rfl ?_ | refine gx_goto rfl rfl ?_))
  rw [k1, show (30 : Int32) = nI 30 from rfl, nI_add, pk_sub (by omega)]
  refine gw_irem rfl (by decide) ?_
  rw [show nI 30 = (30 : Int32) from rfl, rem30 (by omega)]
  (repeat (first | refine gx_run 999 80 rfl ?_ | refine gx_goto rfl rfl ?_))
  rw [show gn_up σ 5 1 (nI ((nx + 30 - n) % 30)) 5 2 = nI c by rw [gu_k (by omega)]; exact k2, pk_sub h2]
  rw [show gn_up (gn_up σ 5 1 (nI ((nx + 30 - n) % 30))) 5 2 (nI (c - n)) 5 1 = nI ((nx + 30 - n) % 30) by rw [gu_k (by omega), gu_s], show (28 : Int32) = nI 28 from rfl, pk_mul]
  have e0 : (0 : Int32).toNatClampNeg = 0 := by decide
  have e28 : (nI 28).toNatClampNeg = 28 := by decide
  refine gw_copy rfl rfl rfl rfl (nI_pos (by omega)) (by decide) (by decide) ?_ ?_ ?_
  · rw [nI_clamp (by omega), e28]; omega
  · rw [e0, e28]; omega
  rw [e0, e28, nI_clamp (by omega)]
  refine gw_vret rfl ?_
  generalize hσ : gn_up (gn_up σ 5 1 (nI ((nx + 30 - n) % 30))) 5 2 (nI (c - n)) = σ1
  have f1 : ∀ o, o ≠ 5 → σ1 o = σ o := fun o ho => by rw [← hσ, gu_o ho, gu_o ho]
  have a1 : σ1 5 1 = nI ((nx + 30 - n) % 30) := by rw [← hσ, gu_k (by omega), gu_s]
  have a2 : σ1 5 2 = nI (c - n) := by rw [← hσ, gu_s]
  refine hQ _ (fun o b1 b2 => by rw [gn_upF_ne b1, f1 o b2]) ⟨by omega, by omega, by rw [gF_k (show (5 : Nat) ≠ 4 by decide)]; exact a2, by rw [gF_k (show (5 : Nat) ≠ 4 by decide)]; exact a1, fun i hi j hj => ?_⟩ (fun j hj => ?_)
  · show gn_upF σ1 4 _ 6 (28 * (((nx + 30 - n) % 30 + 30 - (c - n) + i) % 30) + j) = _
    rw [gF_k (by omega), f1 6 (by omega), ring_3 hc hn h1 h2 hi]
    exact hB i (by omega) j hj
  · rw [gn_upF_eq, pk_cpy_in (by omega) (by omega), f1 6 (by omega)]
    have e : (nx + 30 - n) % 30 * 28 + (j - 0) = 28 * ((nx + 30 - c + (c - n)) % 30) + j := by
      rw [show nx + 30 - c + (c - n) = nx + 30 - n by omega]
      omega
    rw [e]
    exact hB (c - n) (by omega) j hj
end
theorem p_undo {σ : gn_Mem} (hI : Inv σ) (n : Int32) : gPair 106 180 [.int n] σ := by
  obtain ⟨D, A, c, nx, B, z, I, e, T, Z, b, G, H, nn, L, hT, hN, hS, hP, hII, hE, hB, hX, hF⟩ := id hI
  have hc30 := hP.1
  by_cases h1 : ¬ n < 1 ∧ ¬ 30 < n
  · obtain ⟨j, hj, rfl⟩ := nI_of (x := n) (fun q => h1.1 (Int32.lt_trans q (by decide)))
    have hj30 : j ≤ 30 := by
      rcases Nat.lt_or_ge 30 j with q | q
      · exact absurd (nI_lt (a := 30) q hj) h1.2
      · exact q
    have hj1 : 1 ≤ j := by
      rcases Nat.lt_or_ge j 1 with q | q
      · exact absurd (nI_lt (b := 1) q (by omega)) h1.1
      · exact q
    by_cases hcj : j ≤ c
    · unfold gPair
      (repeat (first | refine gx_run 999 80 rfl ?_ | refine gx_goto rfl rfl ?_))
      first | refine gx_iff rfl (h1.1) ?_ | refine gx_icf rfl (h1.1) ?_
      (repeat (first | refine gx_run 999 80 rfl ?_ | refine gx_goto rfl rfl ?_))
      first | refine gx_ift rfl (Int32.not_lt.mp h1.2) ?_ | refine gx_ict rfl (Int32.not_lt.mp h1.2) ?_
      (repeat (first | refine gx_run 999 80 rfl ?_ | refine gx_goto rfl rfl ?_))
      rw [hP.2.2.1]
      first | refine gx_ift rfl (nI_le hcj (by omega)) ?_ | refine gx_ict rfl (nI_le hcj (by omega)) ?_
      (repeat (first | refine gx_run 999 80 rfl ?_ | refine gx_goto rfl rfl ?_))
      refine gx_call rfl rfl rfl ?_
      refine xw_giveBack hP.x hj1 hcj ?_
      intro σ1 f1 hP1 hX1
      (repeat (first | refine gx_run 999 80 rfl ?_ | refine gx_goto rfl rfl ?_))
      refine gx_call rfl rfl rfl ?_
      refine xw_hours hX1 ?_
      (repeat (first | refine gx_run 999 80 rfl ?_ | refine gx_goto rfl rfl ?_))
      refine gx_iret rfl rfl ?_
      have w1 : σ1 45 = σ 45 := f1 45 (by omega) (by omega)
      have u1 : σ1 44 10 = nI c := by rw [f1 44 (by omega) (by omega)]; exact hP.2.2.2.1
      (repeat (first | refine gx_run 999 80 rfl ?_ | refine gx_goto rfl rfl ?_))
      refine gw_calls rfl rfl rfl ?_
      refine mw_in ?_
      rw [gb_t h1]
      (repeat (first | refine gx_run 999 80 rfl ?_ | refine gx_goto rfl rfl ?_))
      first | refine gx_ift rfl (by dsimp only [gn_cmp] <;> decide) ?_ | refine gx_ict rfl (by dsimp only [gn_cmp] <;> decide) ?_
      (repeat (first | refine gx_run 999 80 rfl ?_ | refine gx_goto rfl rfl ?_))
      rw [u1]
      first | refine gx_ift rfl (nI_le hcj (by omega)) ?_ | refine gx_ict rfl (nI_le hcj (by omega)) ?_
      (repeat (first | refine gx_run 999 80 rfl ?_ | refine gx_goto rfl rfl ?_))
      rw [u1, pk_sub hcj]
      refine gx_ld (w := σ 45 28) 28 rfl (by omega) (by rw [gu_k (by omega), w1]) rfl rfl rfl ?_
      (repeat (first | refine gx_run 999 80 rfl ?_ | refine gx_goto rfl rfl ?_))
      rw [gu_s, ix29]
      refine gx_call rfl rfl rfl ?_
      refine mw_copyRow (b := 0) (by omega) (by omega) (by omega) ?_
      (repeat (first | refine gx_run 999 80 rfl ?_ | refine gx_goto rfl rfl ?_))
      refine gx_st 28 rfl (by omega) rfl rfl rfl ?_
      generalize hσ : gn_upF (gn_up σ1 44 10 (nI (c - j))) 45 (va_cpy (gn_up σ1 44 10 (nI (c - j)) 45) (gn_up σ1 44 10 (nI (c - j)) 45) (87 + 29 * (c - j)) 0 29) = σ2
      have w2 : ∀ k, σ2 45 k = va_cpy (σ 45) (σ 45) (87 + 29 * (c - j)) 0 29 k := fun k => by rw [← hσ, gn_upF_eq, gu_o (by omega), w1]
      generalize hσ3 : gn_up σ2 45 28 (σ 45 28) = σ3
      have lo : ∀ k, k < 28 → σ3 45 k = σ 45 (87 + 29 * (c - j) + k) := fun k hk => by
        rw [← hσ3, gu_k (by omega), w2, pk_cpy_in (by omega) (by omega)]
        congr 1
      have hi : ∀ k, 29 ≤ k → σ3 45 k = σ 45 k := fun k hk => by
        rw [← hσ3, gu_k (by omega), w2, pk_cpy_out (by omega)]
      have s28 : σ3 45 28 = σ 45 28 := by rw [← hσ3, gu_s]
      have o3 : ∀ o, o ≠ 44 → o ≠ 45 → σ3 o = σ1 o := fun o a1 a2 => by rw [← hσ3, gu_o a2, ← hσ, gn_upF_ne a2, gu_o a1]
      have m3 : ∀ k, k ≠ 10 → σ3 44 k = σ 44 k := fun k hk => by rw [← hσ3, gu_k (by omega), ← hσ, gF_k (by omega), gu_k (Or.inr hk), f1 44 (by omega) (by omega)]
      have m10 : σ3 44 10 = nI (c - j) := by rw [← hσ3, gu_k (by omega), ← hσ, gF_k (by omega), gu_s]
      have hBc := hP.2.2.2.2.2 (c - j) (by omega)
      have hR3 : mR (σ3 45) (B (c - j)) := fun k hk => by rw [lo k hk]; exact hBc.2.1 k hk
      (repeat (first | refine gx_run 999 80 rfl ?_ | refine gx_goto rfl rfl ?_))
      refine gx_ld 26 rfl (by omega) hR3.hr rfl rfl rfl ?_
      refine gx_iret rfl rfl ?_
      refine ⟨⟨_, rfl, rfl⟩, Inv.deed (A' := B (c - j)) (c' := c - j) (nx' := (nx + 30 - j) % 30) (B' := B) hT hII hE hB hX hF (fun o a1 a2 a3 a4 a5 a6 => by rw [o3 o a5 a6, f1 o a1 a2]) m3 (fun k a1 a2 => hi k a1) ⟨by rw [o3 4 (by omega) (by omega)]; exact hX1, hR3, hBc.1⟩ (hS.fr (by rw [o3 11 (by omega) (by omega), f1 11 (by omega) (by omega)]) s28) (iP.mk' (hP1.fr (o3 5 (by omega) (by omega)) (o3 6 (by omega) (by omega))) ⟨by omega, m10, fun i hi2 k hk => ?_⟩ (fun i hi2 => (hP.2.2.2.2.2 i (by omega)).1))⟩
      show σ3 45 (87 + 29 * i + k) = _
      rw [hi _ (by omega)]
      exact (hP.2.2.2.2.2 i (by omega)).2.1 k hk
    · refine gPair.q hI (-1000000003) (fun Q hQ => ?_) (fun Q hQ => ?_)
      · (repeat (first | refine gx_run 999 80 rfl ?_ | refine gx_goto rfl rfl ?_))
        first | refine gx_iff rfl (h1.1) ?_ | refine gx_icf rfl (h1.1) ?_
        (repeat (first | refine gx_run 999 80 rfl ?_ | refine gx_goto rfl rfl ?_))
        first | refine gx_ift rfl (Int32.not_lt.mp h1.2) ?_ | refine gx_ict rfl (Int32.not_lt.mp h1.2) ?_
        (repeat (first | refine gx_run 999 80 rfl ?_ | refine gx_goto rfl rfl ?_))
        rw [hP.2.2.1]
        first | refine gx_iff rfl (nI_ge (by omega) (by omega)) ?_ | refine gx_icf rfl (nI_ge (by omega) (by omega)) ?_
        (repeat (first | refine gx_run 999 80 rfl ?_ | refine gx_goto rfl rfl ?_))
        refine gx_iret rfl rfl ?_
        exact hQ
      · (repeat (first | refine gx_run 999 80 rfl ?_ | refine gx_goto rfl rfl ?_))
        refine gw_calls rfl rfl rfl ?_
        refine mw_in ?_
        rw [gb_t h1]
        (repeat (first | refine gx_run 999 80 rfl ?_ | refine gx_goto rfl rfl ?_))
        first | refine gx_ift rfl (by dsimp only [gn_cmp] <;> decide) ?_ | refine gx_ict rfl (by dsimp only [gn_cmp] <;> decide) ?_
        (repeat (first | refine gx_run 999 80 rfl ?_ | refine gx_goto rfl rfl ?_))
        rw [hP.2.2.2.1]
        first | refine gx_iff rfl (nI_ge (by omega) (by omega)) ?_ | refine gx_icf rfl (nI_ge (by omega) (by omega)) ?_
        (repeat (first | refine gx_run 999 80 rfl ?_ | refine gx_goto rfl rfl ?_))
        refine gx_iret rfl rfl ?_
        exact hQ
  · refine gPair.q hI (-1000000002) (fun Q hQ => ?_) (fun Q hQ => ?_)
    · (repeat (first | refine gx_run 999 80 rfl ?_ | refine gx_goto rfl rfl ?_))
      first | refine gw_if rfl (fun h3 => ?_) (fun h3 => ?_) | refine gw_icmp rfl (fun h3 => ?_) (fun h3 => ?_)
      · (repeat (first | refine gx_run 999 80 rfl ?_ | refine gx_goto rfl rfl ?_))
        refine gx_iret rfl rfl ?_
        exact hQ
      · (repeat (first | refine gx_run 999 80 rfl ?_ | refine gx_goto rfl rfl ?_))
        first | refine gx_iff rfl (fun q => h1 ⟨h3, Int32.not_lt.mpr q⟩) ?_ | refine gx_icf rfl (fun q => h1 ⟨h3, Int32.not_lt.mpr q⟩) ?_
        (repeat (first | refine gx_run 999 80 rfl ?_ | refine gx_goto rfl rfl ?_))
        refine gx_iret rfl rfl ?_
        exact hQ
    · (repeat (first | refine gx_run 999 80 rfl ?_ | refine gx_goto rfl rfl ?_))
      refine gw_calls rfl rfl rfl ?_
      refine mw_in ?_
      rw [gb_f h1]
      (repeat (first | refine gx_run 999 80 rfl ?_ | refine gx_goto rfl rfl ?_))
      first | refine gx_iff rfl (by dsimp only [gn_cmp] <;> decide) ?_ | refine gx_icf rfl (by dsimp only [gn_cmp] <;> decide) ?_
      (repeat (first | refine gx_run 999 80 rfl ?_ | refine gx_goto rfl rfl ?_))
      refine gx_iret rfl rfl ?_
      exact hQ
theorem Inv.imgs {σ σ' : gn_Mem} {D : gD} {A' : gA} {c nx : Nat} {B : Nat → gA} {z' : Nat → Bool} {I' : Nat → gA} {e : Nat} {T : Nat → Nat} {Z : Nat → Bool} {b : Nat} {G H : Nat → Nat} {n : Nat} {L : Nat → Nat} (hT : iT σ D) (hE : iE σ e T Z) (hB : iB σ D b G H) (hX : iX σ n L) (hF : iF σ) (q : ∀ o, (o ≤ 3 ∨ (12 ≤ o ∧ o ≤ 43) ∨ 46 ≤ o) → σ' o = σ o) (qm : ∀ k, k ≠ 10 → k ≠ 11 → σ' 44 k = σ 44 k) (hN' : iN σ' D A') (hS' : iS σ') (hP' : iP σ' D c nx B) (hI' : iI σ' D z' I') : Inv σ' :=
  ⟨D, A', c, nx, B, z', I', e, T, Z, b, G, H, n, L, hT.fr (fun k => by rw [q 0 (by omega)]) (fun o h => q o (by omega)) (fun k h1 h2 => qm k (by omega) (by omega)), hN', hS', hP', hI', hE.fr (fun o h => q o (by omega)) (qm 17 (by omega) (by omega)), hB.fr (fun o h => q o (by omega)) (qm 20 (by omega) (by omega)), hX.fr (by rw [q 1 (by omega)]) (fun o h => q o (by omega)) (qm 13 (by omega) (by omega)), hF.fr (by rw [q 1 (by omega)]) (qm 14 (by omega) (by omega))⟩
theorem xw_noImg {d : Nat} {σ : gn_Mem} {Q : Option Value → gn_Mem → Prop} {k : Int32} (hQ : Q (some (.int (gb (¬ (k = 0 ∨ k = 1))))) σ) : gn_W d 126 0 [.int k] [] σ Q := by
  (repeat (first | refine gx_run 999 80 rfl ?_ | refine gx_goto rfl rfl ?_))
  by_cases h0 : k = 0
  · first | refine gx_ift rfl (h0) ?_ | refine gx_ict rfl (h0) ?_
    (repeat (first | refine gx_run 999 80 rfl ?_ | refine gx_goto rfl rfl ?_))
    refine gw_zret rfl (Or.inl rfl) ?_
    rw [show gb (¬ (k = 0 ∨ k = 1)) = 0 from gb_f (fun q => q (Or.inl h0))] at hQ
    exact hQ
  · first | refine gx_iff rfl (h0) ?_ | refine gx_icf rfl (h0) ?_
    (repeat (first | refine gx_run 999 80 rfl ?_ | refine gx_goto rfl rfl ?_))
    by_cases h1 : k = 1
    · first | refine gx_ift rfl (h1) ?_ | refine gx_ict rfl (h1) ?_
      (repeat (first | refine gx_run 999 80 rfl ?_ | refine gx_goto rfl rfl ?_))
      refine gw_zret rfl (Or.inl rfl) ?_
      rw [show gb (¬ (k = 0 ∨ k = 1)) = 0 from gb_f (fun q => q (Or.inr h1))] at hQ
      exact hQ
    · first | refine gx_iff rfl (h1) ?_ | refine gx_icf rfl (h1) ?_
      (repeat (first | refine gx_run 999 80 rfl ?_ | refine gx_goto rfl rfl ?_))
      refine gw_zret rfl (Or.inr rfl) ?_
      rw [show gb (¬ (k = 0 ∨ k = 1)) = 1 from gb_t (fun q => q.elim h0 h1)] at hQ
      exact hQ
theorem in01 (k : Int32) : (¬ k < 0 ∧ ¬ nI 2 ≤ k) ↔ (k = 0 ∨ k = 1) := by
  constructor
  · intro h
    obtain ⟨j, hj, rfl⟩ := in_of (by omega) h
    rcases (show j = 0 ∨ j = 1 by omega) with rfl | rfl
    · exact Or.inl rfl
    · exact Or.inr rfl
  · rintro (rfl | rfl) <;> decide
theorem kor : ∀ a b : Bool, nI (a.toNat + 2 * b.toNat) ||| bt 0 = nI (true.toNat + 2 * b.toNat) ∧ nI (a.toNat + 2 * b.toNat) ||| bt 1 = nI (a.toNat + 2 * true.toNat) := by decide
theorem khas : ∀ a b : Bool, (a.toNat + 2 * b.toNat).testBit 0 = a ∧ (a.toNat + 2 * b.toNat).testBit 1 = b := by decide
theorem klt : ∀ a b : Bool, a.toNat + 2 * b.toNat < 256 := by decide
theorem ix29' (k : Nat) : 29 + 29 * nI k = nI (29 + 29 * k) := by
  rw [show (29 : Int32) = nI 29 from rfl, pk_mul, nI_add]
theorem p_keep {σ : gn_Mem} (hI : Inv σ) (i : Int32) : gPair 122 202 [.int i] σ := by
  obtain ⟨D, A, c, nx, B, z, I, e, T, Z, b, G, H, n, L, hT, hN, hS, hP, hII, hE, hB, hX, hF⟩ := id hI
  have hnx := hP.2.1
  by_cases hi : i = 0 ∨ i = 1
  · obtain ⟨u, hu, rfl⟩ : ∃ u, u < 2 ∧ i = nI u := by
      rcases hi with rfl | rfl
      · exact ⟨0, by omega, rfl⟩
      · exact ⟨1, by omega, rfl⟩
    have e0 : (0 : Int32).toNatClampNeg = 0 := by decide
    have e28 : (28 : Int32).toNatClampNeg = 28 := by decide
    unfold gPair
    (repeat (first | refine gx_run 999 80 rfl ?_ | refine gx_goto rfl rfl ?_))
    refine gw_calls rfl rfl rfl ?_
    refine xw_noImg ?_
    rw [show gb (¬ (nI u = 0 ∨ nI u = 1)) = 0 from gb_f (fun q => q hi)]
    (repeat (first | refine gx_run 999 80 rfl ?_ | refine gx_goto rfl rfl ?_))
    first | refine gx_ift rfl (by dsimp only [gn_cmp] <;> decide) ?_ | refine gx_ict rfl (by dsimp only [gn_cmp] <;> decide) ?_
    have kx : ∀ σ1 : gn_Mem, σ1 = gn_up (gn_up (gn_up (gn_upF σ (8 + 2 * u) (va_cpy (σ 4) (σ (8 + 2 * u)) 0 0 28)) (7 + 2 * u) 1 (σ 11 0)) (7 + 2 * u) 2 1) 5 2 0 → gn_W 20 202 0 [.ref 44, .int (nI u)] [] σ1 (fun r2 σ2 => (∃ v : Int32, some (Value.int 1) = some (.int v) ∧ r2 = some (.int v)) ∧ Inv σ2) := by
      intro σ1 h1
      have f1 : ∀ o, o ≠ 5 → o ≠ 7 + 2 * u → o ≠ 8 + 2 * u → σ1 o = σ o := fun o a1 a2 a3 => by rw [h1, gu_o a1, gu_o a2, gu_o a2, gn_upF_ne a3]
      have v1 : σ1 (7 + 2 * u) 1 = σ 11 0 := by rw [h1, gu_k (by omega), gu_k (by omega), gu_s]
      have v2 : σ1 (7 + 2 * u) 2 = 1 := by rw [h1, gu_k (by omega), gu_s]
      have vr : ∀ k, k < 28 → σ1 (8 + 2 * u) k = σ 4 k := fun k hk => by
        rw [h1, gu_k (by omega), gu_k (by omega), gu_k (by omega), gn_upF_eq, pk_cpy_in (by omega) (by omega)]
        congr 1
        omega
      have v5 : σ1 5 2 = 0 := by rw [h1, gu_s]
      have v51 : σ1 5 1 = nI nx := by rw [h1, gu_k (by omega), gu_k (by omega), gu_k (by omega), gF_k (by omega)]; exact hP.2.2.2.2.1
      have w1 : σ1 45 = σ 45 := f1 45 (by omega) (by omega) (by omega)
      have m1 : ∀ k, σ1 44 k = σ 44 k := fun k => by rw [f1 44 (by omega) (by omega) (by omega)]
      (repeat (first | refine gx_run 999 80 rfl ?_ | refine gx_goto rfl rfl ?_))
      refine gw_calls rfl rfl rfl ?_
      refine mw_in0 2 (by omega) rfl ?_
      rw [gb_t ((in01 _).mpr hi)]
      (repeat (first | refine gx_run 999 80 rfl ?_ | refine gx_goto rfl rfl ?_))
      first | refine gx_ift rfl (by dsimp only [gn_cmp] <;> decide) ?_ | refine gx_ict rfl (by dsimp only [gn_cmp] <;> decide) ?_
      (repeat (first | refine gx_run 999 80 rfl ?_ | refine gx_goto rfl rfl ?_))
      rw [ix29']
      refine gx_call rfl rfl rfl ?_
      refine mw_copyRow (a := 0) (by omega) (by omega) (by omega) ?_
      (repeat (first | refine gx_run 999 80 rfl ?_ | refine gx_goto rfl rfl ?_))
      refine gx_iret rfl rfl ?_
      rw [show gn_upF σ1 45 (va_cpy (σ1 45) (σ1 45) 0 (29 + 29 * u) 29) 44 11 = nI ((z 0).toNat + 2 * (z 1).toNat) by rw [gF_k (by omega), m1]; exact hII.2.2.1]
      refine ⟨⟨_, rfl, rfl⟩, ?_⟩
      generalize hσ : gn_up (gn_up (gn_upF σ1 45 (va_cpy (σ1 45) (σ1 45) 0 (29 + 29 * u) 29)) 44 11 (nI ((z 0).toNat + 2 * (z 1).toNat) ||| 1 <<< (nI u &&& 31))) 44 10 0 = σ2
      have o2 : ∀ o, o ≠ 44 → o ≠ 45 → σ2 o = σ1 o := fun o a1 a2 => by rw [← hσ, gu_o a1, gu_o a1, gn_upF_ne a2]
      have m2 : ∀ k, k ≠ 10 → k ≠ 11 → σ2 44 k = σ 44 k := fun k a1 a2 => by rw [← hσ, gu_k (Or.inr a1), gu_k (Or.inr a2), gF_k (by omega), m1]
      have m10 : σ2 44 10 = nI 0 := by rw [← hσ, gu_s]; rfl
      have m11 : σ2 44 11 = nI ((z 0).toNat + 2 * (z 1).toNat) ||| bt u := by rw [← hσ, gu_k (by omega), gu_s]
      have win : ∀ k, k < 29 → σ2 45 (29 + 29 * u + k) = σ 45 k := fun k hk => by
        rw [← hσ, gu_k (by omega), gu_k (by omega), gn_upF_eq, pk_cpy_in (by omega) (by omega), w1]
        congr 1
        omega
      have wout : ∀ k, (k < 29 + 29 * u ∨ 29 + 29 * u + 29 ≤ k) → σ2 45 k = σ 45 k := fun k hk => by
        rw [← hσ, gu_k (by omega), gu_k (by omega), gn_upF_eq, pk_cpy_out (by omega), w1]
      have all : ∀ o, o ≠ 5 → o ≠ 7 + 2 * u → o ≠ 8 + 2 * u → o ≠ 44 → o ≠ 45 → σ2 o = σ o := fun o a1 a2 a3 a4 a5 => by rw [o2 o a4 a5, f1 o a1 a2 a3]
      refine Inv.imgs (A' := A) (c := 0) (nx := nx) (B := B) (z' := fun k => if k = u then true else z k) (I' := fun k => if k = u then A else I k) hT hE hB hX hF (fun o ho => all o (by omega) (by omega) (by omega) (by omega) (by omega)) m2 ⟨by rw [all 4 (by omega) (by omega) (by omega) (by omega) (by omega)]; exact hN.1, hN.2.1.fr (fun k hk => wout k (by omega)), hN.2.2⟩ (hS.fr (by rw [all 11 (by omega) (by omega) (by omega) (by omega) (by omega)]) (wout 28 (by omega))) ⟨by omega, hnx, by rw [o2 5 (by omega) (by omega)]; exact v5, m10, by rw [o2 5 (by omega) (by omega)]; exact v51, fun k hk => by omega⟩ ?_
      have hk : ∀ k, k < 2 → (if k = u then true else z k) = true → wA2 D (if k = u then A else I k) ∧ mR (fun j => σ2 45 (29 + 29 * k + j)) (if k = u then A else I k) ∧ xR (σ2 (8 + 2 * k)) (if k = u then A else I k) ∧ σ2 (7 + 2 * k) 1 = σ2 45 (29 + 29 * k + 28) ∧ ¬ σ2 (7 + 2 * k) 1 < 0 := by
        intro k hk hz
        by_cases ek : k = u
        · subst ek
          rw [if_pos rfl]
          refine ⟨hN.2.2, fun j hj => ?_, ?_, ?_, ?_⟩
          · show σ2 45 (29 + 29 * k + j) = _
            rw [win j (by omega)]
            exact hN.2.1 j hj
          · rw [o2 _ (by omega) (by omega)]
            exact hN.1.fr vr
          · rw [o2 _ (by omega) (by omega), v1, win 28 (by omega)]
            exact hS.1
          · rw [o2 _ (by omega) (by omega), v1]
            exact hS.2
        · rw [if_neg ek] at hz ⊢
          obtain ⟨q1, q2, q3, q4, q5⟩ := hII.2.2.2 k hk hz
          rw [all (8 + 2 * k) (by omega) (by omega) (by omega) (by omega) (by omega), all (7 + 2 * k) (by omega) (by omega) (by omega) (by omega) (by omega), wout (29 + 29 * k + 28) (by omega)]
          refine ⟨q1, fun j hj => ?_, q3, q4, q5⟩
          show σ2 45 (29 + 29 * k + j) = _
          rw [wout _ (by omega)]
          exact q2 j hj
      rcases (show u = 0 ∨ u = 1 by omega) with rfl | rfl
      · refine ⟨by rw [o2 7 (by omega) (by omega)]; exact v2, by rw [all 9 (by omega) (by omega) (by omega) (by omega) (by omega)]; exact hII.2.1, by rw [m11, (kor _ _).1]; rfl, hk⟩
      · refine ⟨by rw [all 7 (by omega) (by omega) (by omega) (by omega) (by omega)]; exact hII.1, by rw [o2 9 (by omega) (by omega)]; exact v2, by rw [m11, (kor _ _).2]; rfl, hk⟩
    rcases (show u = 0 ∨ u = 1 by omega) with rfl | rfl
    · (repeat (first | refine gx_run 999 80 rfl ?_ | refine gx_goto rfl rfl ?_))
      refine gx_call rfl rfl rfl ?_
      (repeat (first | refine gx_run 999 80 rfl ?_ | refine gx_goto rfl rfl ?_))
      first | refine gx_iff rfl (by dsimp only [gn_cmp] <;> decide) ?_ | refine gx_icf rfl (by dsimp only [gn_cmp] <;> decide) ?_
      (repeat (first | refine gx_run 999 80 rfl ?_ | refine gx_goto rfl rfl ?_))
      refine gw_aret rfl ?_
      (repeat (first | refine gx_run 999 80 rfl ?_ | refine gx_goto rfl rfl ?_))
      refine gx_call rfl rfl rfl ?_
      (repeat (first | refine gx_run 999 80 rfl ?_ | refine gx_goto rfl rfl ?_))
      refine gw_copy rfl rfl rfl rfl (by decide) (by decide) (by decide) (by decide) (by decide) ?_
      (repeat (first | refine gx_run 999 80 rfl ?_ | refine gx_goto rfl rfl ?_))
      refine gw_putb rfl rfl rfl (Or.inr rfl) ?_
      (repeat (first | refine gx_run 999 80 rfl ?_ | refine gx_goto rfl rfl ?_))
      refine gw_vret rfl ?_
      (repeat (first | refine gx_run 999 80 rfl ?_ | refine gx_goto rfl rfl ?_))
      refine gx_call rfl rfl rfl ?_
      refine xw_forget ?_
      (repeat (first | refine gx_run 999 80 rfl ?_ | refine gx_goto rfl rfl ?_))
      refine gx_iret rfl rfl ?_
      exact kx _ rfl
    · (repeat (first | refine gx_run 999 80 rfl ?_ | refine gx_goto rfl rfl ?_))
      refine gx_call rfl rfl rfl ?_
      (repeat (first | refine gx_run 999 80 rfl ?_ | refine gx_goto rfl rfl ?_))
      first | refine gx_ift rfl (by dsimp only [gn_cmp] <;> decide) ?_ | refine gx_ict rfl (by dsimp only [gn_cmp] <;> decide) ?_
      (repeat (first | refine gx_run 999 80 rfl ?_ | refine gx_goto rfl rfl ?_))
      refine gw_aret rfl ?_
      (repeat (first | refine gx_run 999 80 rfl ?_ | refine gx_goto rfl rfl ?_))
      refine gx_call rfl rfl rfl ?_
      (repeat (first | refine gx_run 999 80 rfl ?_ | refine gx_goto rfl rfl ?_))
      refine gw_copy rfl rfl rfl rfl (by decide) (by decide) (by decide) (by decide) (by decide) ?_
      (repeat (first | refine gx_run 999 80 rfl ?_ | refine gx_goto rfl rfl ?_))
      refine gw_putb rfl rfl rfl (Or.inr rfl) ?_
      (repeat (first | refine gx_run 999 80 rfl ?_ | refine gx_goto rfl rfl ?_))
      refine gw_vret rfl ?_
      (repeat (first | refine gx_run 999 80 rfl ?_ | refine gx_goto rfl rfl ?_))
      refine gx_call rfl rfl rfl ?_
      refine xw_forget ?_
      (repeat (first | refine gx_run 999 80 rfl ?_ | refine gx_goto rfl rfl ?_))
      refine gx_iret rfl rfl ?_
      exact kx _ rfl
  · refine gPair.q hI (-1000000001) (fun Q hQ => ?_) (fun Q hQ => ?_)
    · (repeat (first | refine gx_run 999 80 rfl ?_ | refine gx_goto rfl rfl ?_))
      refine gw_calls rfl rfl rfl ?_
      refine xw_noImg ?_
      rw [show gb (¬ (i = 0 ∨ i = 1)) = 1 from gb_t hi]
      (repeat (first | refine gx_run 999 80 rfl ?_ | refine gx_goto rfl rfl ?_))
      first | refine gx_iff rfl (by dsimp only [gn_cmp] <;> decide) ?_ | refine gx_icf rfl (by dsimp only [gn_cmp] <;> decide) ?_
      (repeat (first | refine gx_run 999 80 rfl ?_ | refine gx_goto rfl rfl ?_))
      refine gx_iret rfl rfl ?_
      exact hQ
    · (repeat (first | refine gx_run 999 80 rfl ?_ | refine gx_goto rfl rfl ?_))
      refine gw_calls rfl rfl rfl ?_
      refine mw_in0 2 (by omega) rfl ?_
      rw [gb_f (fun q => hi ((in01 _).mp q))]
      (repeat (first | refine gx_run 999 80 rfl ?_ | refine gx_goto rfl rfl ?_))
      first | refine gx_iff rfl (by dsimp only [gn_cmp] <;> decide) ?_ | refine gx_icf rfl (by dsimp only [gn_cmp] <;> decide) ?_
      (repeat (first | refine gx_run 999 80 rfl ?_ | refine gx_goto rfl rfl ?_))
      refine gx_iret rfl rfl ?_
      exact hQ
