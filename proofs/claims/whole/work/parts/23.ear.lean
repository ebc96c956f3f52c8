/-! hear, write, judge, tear, seed, feed -/
theorem Inv.ear {σ σ' : gn_Mem} {D : gD} {A : gA} {c nx : Nat} {B : Nat → gA} {z : Nat → Bool} {I : Nat → gA} {e' : Nat} {T' : Nat → Nat} {Z' : Nat → Bool} {b : Nat} {G H : Nat → Nat} {n : Nat} {L : Nat → Nat} (hT : iT σ D) (hN : iN σ D A) (hS : iS σ) (hP : iP σ D c nx B) (hII : iI σ D z I) (hB : iB σ D b G H) (hX : iX σ n L) (hF : iF σ) (q : ∀ o, o ≠ 22 → o ≠ 23 → o ≠ 24 → o ≠ 44 → o ≠ 52 → o ≠ 53 → σ' o = σ o) (qm : ∀ k, k ≠ 17 → σ' 44 k = σ 44 k) (hE : iE σ' e' T' Z') : Inv σ' := by
  have qo : ∀ o, (o ≤ 21 ∨ (25 ≤ o ∧ o ≤ 43) ∨ (45 ≤ o ∧ o ≤ 51) ∨ 54 ≤ o) → σ' o = σ o := fun o ho => q o (by omega) (by omega) (by omega) (by omega) (by omega) (by omega)
  exact ⟨D, A, c, nx, B, z, I, e', T', Z', b, G, H, n, L, hT.fr (fun k => by rw [qo 0 (by omega)]) (fun o h => qo o (by omega)) (fun k h1 h2 => qm k (by omega)), hN.fr (qo 4 (by omega)) (fun k _ => by rw [qo 45 (by omega)]), hS.fr (by rw [qo 11 (by omega)]) (by rw [qo 45 (by omega)]), hP.fr (qo 5 (by omega)) (qo 6 (by omega)) (qm 10 (by omega)) (fun k _ => by rw [qo 45 (by omega)]), hII.fr (fun o h1 h2 => qo o (by omega)) (qm 11 (by omega)) (fun k _ _ => by rw [qo 45 (by omega)]), hE, hB.fr (fun o h => qo o (by omega)) (qm 20 (by omega)), hX.fr (by rw [qo 1 (by omega)]) (fun o h => qo o (by omega)) (qm 13 (by omega)), hF.fr (by rw [qo 1 (by omega)]) (qm 14 (by omega))⟩
theorem Inv.book {σ σ' : gn_Mem} {D : gD} {A : gA} {c nx : Nat} {B : Nat → gA} {z : Nat → Bool} {I : Nat → gA} {e' : Nat} {T' : Nat → Nat} {Z' : Nat → Bool} {b : Nat} {G H : Nat → Nat} {n : Nat} {L : Nat → Nat} (hT : iT σ D) (hN : iN σ D A) (hS : iS σ) (hP : iP σ D c nx B) (hII : iI σ D z I) (hE : iE σ e' T' Z') (hX : iX σ n L) (hF : iF σ) (q : ∀ o, o ≠ 25 → o ≠ 26 → o ≠ 27 → o ≠ 44 → o ≠ 54 → o ≠ 55 → σ' o = σ o) (qm : ∀ k, k ≠ 20 → σ' 44 k = σ 44 k) (hB : iB σ' D b G H) : Inv σ' := by
  have qo : ∀ o, (o ≤ 24 ∨ (28 ≤ o ∧ o ≤ 43) ∨ (45 ≤ o ∧ o ≤ 53) ∨ 56 ≤ o) → σ' o = σ o := fun o ho => q o (by omega) (by omega) (by omega) (by omega) (by omega) (by omega)
  exact ⟨D, A, c, nx, B, z, I, e', T', Z', b, G, H, n, L, hT.fr (fun k => by rw [qo 0 (by omega)]) (fun o h => qo o (by omega)) (fun k h1 h2 => qm k (by omega)), hN.fr (qo 4 (by omega)) (fun k _ => by rw [qo 45 (by omega)]), hS.fr (by rw [qo 11 (by omega)]) (by rw [qo 45 (by omega)]), hP.fr (qo 5 (by omega)) (qo 6 (by omega)) (qm 10 (by omega)) (fun k _ => by rw [qo 45 (by omega)]), hII.fr (fun o h1 h2 => qo o (by omega)) (qm 11 (by omega)) (fun k _ _ => by rw [qo 45 (by omega)]), hE.fr (fun o h => qo o (by omega)) (qm 17 (by omega)), hB, hX.fr (by rw [qo 1 (by omega)]) (fun o h => qo o (by omega)) (qm 13 (by omega)), hF.fr (by rw [qo 1 (by omega)]) (qm 14 (by omega))⟩
theorem nar01 {x : Int32} (h : x = 0 ∨ x = 1) : vp_nar .boolean x = x := by rcases h with rfl | rfl <;> rfl
theorem b01 (z : Bool) : nI z.toNat = 0 ∨ nI z.toNat = 1 := by cases z <;> simp [nI] <;> decide
theorem p_hear {σ : gn_Mem} (hI : Inv σ) (t x : Int32) (hx : x = 0 ∨ x = 1) : gPair 115 195 [.int t, .int x] σ := by
  obtain ⟨D, A, c, nx, B, z, I, e, T, Z, b, G, H, n, L, hT, hN, hS, hP, hII, hE, hB, hX, hF⟩ := id hI
  have he := hE.1
  by_cases ht : ¬ t < 0 ∧ ¬ nI 8 ≤ t
  · obtain ⟨j, hj, rfl⟩ := in_of (by omega) ht
    unfold gPair
    (repeat (first | refine gx_run 999 80 rfl ?_ | refine gx_goto rfl rfl ?_))
    refine gw_calls rfl rfl rfl ?_
    refine xw_noTopic ?_
    rw [show gb (¬ (¬ nI j < 0 ∧ ¬ nI 8 ≤ nI j)) = 0 from gb_f (fun q => q ht)]
    (repeat (first | refine gx_run 999 80 rfl ?_ | refine gx_goto rfl rfl ?_))
    first | refine gx_ift rfl (by dsimp only [gn_cmp] <;> decide) ?_ | refine gx_ict rfl (by dsimp only [gn_cmp] <;> decide) ?_
    (repeat (first | refine gx_run 999 80 rfl ?_ | refine gx_goto rfl rfl ?_))
    refine gx_call rfl rfl rfl ?_
    (repeat (first | refine gx_run 999 80 rfl ?_ | refine gx_goto rfl rfl ?_))
    rw [hE.2.1]
    by_cases h6 : e < 6
    · first | refine gx_ift rfl (nI_lt (b := 6) h6 (by omega)) ?_ | refine gx_ict rfl (nI_lt (b := 6) h6 (by omega)) ?_
      (repeat (first | refine gx_run 999 80 rfl ?_ | refine gx_goto rfl rfl ?_))
      refine gx_st e hE.2.1 (by omega) rfl rfl rfl ?_
      (repeat (first | refine gx_run 999 80 rfl ?_ | refine gx_goto rfl rfl ?_))
      refine gw_bast rfl rfl (by show vp_in (σ 22 2) 6; rw [hE.2.1]; exact vp_in_nI h6 (by omega)) ?_
      rw [nar01 hx]
      have e2 : (gn_up σ 23 e (nI j) 22 2).toNatClampNeg = e := by
        rw [gu_k (by omega), hE.2.1, nI_clamp (by omega)]
      rw [e2]
      (repeat (first | refine gx_run 999 80 rfl ?_ | refine gx_goto rfl rfl ?_))
      refine gw_zret rfl (Or.inr rfl) ?_
      (repeat (first | refine gx_run 999 80 rfl ?_ | refine gx_goto rfl rfl ?_))
      first | refine gx_iff rfl (by dsimp only [gn_cmp] <;> decide) ?_ | refine gx_icf rfl (by dsimp only [gn_cmp] <;> decide) ?_
      (repeat (first | refine gx_run 999 80 rfl ?_ | refine gx_goto rfl rfl ?_))
      refine gx_iret rfl rfl ?_
      have ev : gn_up (gn_up σ 23 e (nI j)) 24 e x 22 2 + 1 = nI (e + 1) := by rw [gu_k (by omega), gu_k (by omega), hE.2.1, nI_1]
      rw [ev, gu_s]
      generalize h1 : gn_up (gn_up (gn_up σ 23 e (nI j)) 24 e x) 22 2 (nI (e + 1)) = σ1
      have q1 : ∀ o, o ≠ 22 → o ≠ 23 → o ≠ 24 → σ1 o = σ o := fun o a1 a2 a3 => by rw [← h1, gu_o a1, gu_o a3, gu_o a2]
      have q44 : σ1 44 17 = nI e := by rw [q1 44 (by omega) (by omega) (by omega)]; exact hE.2.2.1
      (repeat (first | refine gx_run 999 80 rfl ?_ | refine gx_goto rfl rfl ?_))
      refine gw_calls rfl rfl rfl ?_
      refine mw_in0 8 (by omega) rfl ?_
      rw [gb_t ht]
      (repeat (first | refine gx_run 999 80 rfl ?_ | refine gx_goto rfl rfl ?_))
      first | refine gx_ift rfl (by dsimp only [gn_cmp] <;> decide) ?_ | refine gx_ict rfl (by dsimp only [gn_cmp] <;> decide) ?_
      (repeat (first | refine gx_run 999 80 rfl ?_ | refine gx_goto rfl rfl ?_))
      rw [q44]
      first | refine gx_ift rfl (fun q => absurd q (by rw [show (6 : Int32) = nI 6 from rfl, nI_eq (by omega) (by omega)]; omega)) ?_ | refine gx_ict rfl (fun q => absurd q (by rw [show (6 : Int32) = nI 6 from rfl, nI_eq (by omega) (by omega)]; omega)) ?_
      (repeat (first | refine gx_run 999 80 rfl ?_ | refine gx_goto rfl rfl ?_))
      refine gx_st e q44 (by omega) rfl rfl rfl ?_
      (repeat (first | refine gx_run 999 80 rfl ?_ | refine gx_goto rfl rfl ?_))
      have q45 : gn_up σ1 52 e (nI j) 44 17 = nI e := by rw [gu_k (by omega)]; exact q44
      refine gw_bast rfl rfl (by rw [q45]; exact vp_in_nI h6 (by omega)) ?_
      rw [nar01 hx, q45, nI_clamp (by omega)]
      (repeat (first | refine gx_run 999 80 rfl ?_ | refine gx_goto rfl rfl ?_))
      refine gx_iret rfl rfl ?_
      have ev2 : gn_up (gn_up σ1 52 e (nI j)) 53 e x 44 17 + 1 = nI (e + 1) := by rw [gu_k (by omega), q45, nI_1]
      rw [ev2, gu_s]
      refine ⟨⟨_, rfl, rfl⟩, ?_⟩
      generalize h2 : gn_up (gn_up (gn_up σ1 52 e (nI j)) 53 e x) 44 17 (nI (e + 1)) = σ2
      have p1 : ∀ o, o ≠ 44 → o ≠ 52 → o ≠ 53 → σ2 o = σ1 o := fun o a1 a2 a3 => by rw [← h2, gu_o a1, gu_o a3, gu_o a2]
      refine Inv.ear (e' := e + 1) (T' := fun i => if i = e then j else T i) (Z' := fun i => if i = e then decide (x = 1) else Z i) hT hN hS hP hII hB hX hF (fun o a1 a2 a3 a4 a5 a6 => by rw [p1 o a4 a5 a6, q1 o a1 a2 a3]) (fun k hk => by rw [← h2, gu_k (Or.inr hk), gu_k (by omega), gu_k (by omega), q1 44 (by omega) (by omega) (by omega)]) ?_
      have v22 : σ2 22 2 = nI (e + 1) := by rw [p1 22 (by omega) (by omega) (by omega), ← h1, gu_s]
      have v44 : σ2 44 17 = nI (e + 1) := by rw [← h2, gu_s]
      have v23 : ∀ i, σ2 23 i = if i = e then nI j else σ 23 i := fun i => by
        rw [p1 23 (by omega) (by omega) (by omega), ← h1, gu_k (by omega), gu_k (by omega), gn_up_eq]
        rfl
      have v24 : ∀ i, σ2 24 i = if i = e then x else σ 24 i := fun i => by
        rw [p1 24 (by omega) (by omega) (by omega), ← h1, gu_k (by omega), gn_up_eq]
        show upd (gn_up σ 23 e (nI j) 24) e x i = _
        rw [gu_o (by omega)]
        rfl
      have v52 : ∀ i, σ2 52 i = if i = e then nI j else σ 52 i := fun i => by
        rw [← h2, gu_k (by omega), gu_k (by omega), gn_up_eq, q1 52 (by omega) (by omega) (by omega)]
        rfl
      have v53 : ∀ i, σ2 53 i = if i = e then x else σ 53 i := fun i => by
        rw [← h2, gu_k (by omega), gn_up_eq]
        show upd (gn_up σ1 52 e (nI j) 53) e x i = _
        rw [gu_o (by omega), q1 53 (by omega) (by omega) (by omega)]
        rfl
      refine ⟨by omega, v22, v44, fun i hi => ?_⟩
      rw [v23, v24, v52, v53]
      by_cases ei : i = e
      · simp only [if_pos ei]
        refine ⟨hj, trivial, trivial, ?_, ?_⟩ <;> (rcases hx with rfl | rfl <;> rfl)
      · simp only [if_neg ei]
        exact hE.2.2.2 i (by omega)
    · have h66 : e = 6 := by omega
      subst h66
      first | refine gx_iff rfl (by dsimp only [gn_cmp] <;> decide) ?_ | refine gx_icf rfl (by dsimp only [gn_cmp] <;> decide) ?_
      (repeat (first | refine gx_run 999 80 rfl ?_ | refine gx_goto rfl rfl ?_))
      refine gw_zret rfl (Or.inl rfl) ?_
      (repeat (first | refine gx_run 999 80 rfl ?_ | refine gx_goto rfl rfl ?_))
      first | refine gx_ift rfl (by dsimp only [gn_cmp] <;> decide) ?_ | refine gx_ict rfl (by dsimp only [gn_cmp] <;> decide) ?_
      (repeat (first | refine gx_run 999 80 rfl ?_ | refine gx_goto rfl rfl ?_))
      refine gx_iret rfl rfl ?_
      (repeat (first | refine gx_run 999 80 rfl ?_ | refine gx_goto rfl rfl ?_))
      refine gw_calls rfl rfl rfl ?_
      refine mw_in0 8 (by omega) rfl ?_
      rw [gb_t ht]
      (repeat (first | refine gx_run 999 80 rfl ?_ | refine gx_goto rfl rfl ?_))
      first | refine gx_ift rfl (by dsimp only [gn_cmp] <;> decide) ?_ | refine gx_ict rfl (by dsimp only [gn_cmp] <;> decide) ?_
      (repeat (first | refine gx_run 999 80 rfl ?_ | refine gx_goto rfl rfl ?_))
      rw [hE.2.2.1]
      first | refine gx_iff rfl (by dsimp only [gn_cmp] <;> decide) ?_ | refine gx_icf rfl (by dsimp only [gn_cmp] <;> decide) ?_
      (repeat (first | refine gx_run 999 80 rfl ?_ | refine gx_goto rfl rfl ?_))
      refine gx_iret rfl rfl ?_
      exact ⟨⟨_, rfl, rfl⟩, hI⟩
  · refine gPair.q hI (-1000000002) (fun Q hQ => ?_) (fun Q hQ => ?_)
    · (repeat (first | refine gx_run 999 80 rfl ?_ | refine gx_goto rfl rfl ?_))
      refine gw_calls rfl rfl rfl ?_
      refine xw_noTopic ?_
      rw [show gb (¬ (¬ t < 0 ∧ ¬ nI 8 ≤ t)) = 1 from gb_t ht]
      (repeat (first | refine gx_run 999 80 rfl ?_ | refine gx_goto rfl rfl ?_))
      first | refine gx_iff rfl (by dsimp only [gn_cmp] <;> decide) ?_ | refine gx_icf rfl (by dsimp only [gn_cmp] <;> decide) ?_
      (repeat (first | refine gx_run 999 80 rfl ?_ | refine gx_goto rfl rfl ?_))
      refine gx_iret rfl rfl ?_
      exact hQ
    · (repeat (first | refine gx_run 999 80 rfl ?_ | refine gx_goto rfl rfl ?_))
      refine gw_calls rfl rfl rfl ?_
      refine mw_in0 8 (by omega) rfl ?_
      rw [gb_f ht]
      (repeat (first | refine gx_run 999 80 rfl ?_ | refine gx_goto rfl rfl ?_))
      first | refine gx_iff rfl (by dsimp only [gn_cmp] <;> decide) ?_ | refine gx_icf rfl (by dsimp only [gn_cmp] <;> decide) ?_
      (repeat (first | refine gx_run 999 80 rfl ?_ | refine gx_goto rfl rfl ?_))
      refine gx_iret rfl rfl ?_
      exact hQ
theorem p_tear {σ : gn_Mem} (hI : Inv σ) : gPair 120 200 [] σ := by
  obtain ⟨D, A, c, nx, B, z, I, e, T, Z, b, G, H, n, L, hT, hN, hS, hP, hII, hE, hB, hX, hF⟩ := id hI
  unfold gPair
  (repeat (first | refine gx_run 999 80 rfl ?_ | refine gx_goto rfl rfl ?_))
  refine gx_iret rfl rfl ?_
  generalize h1 : gn_up (gn_up σ 22 2 0) 25 2 0 = σ1
  have q1 : ∀ o, o ≠ 22 → o ≠ 25 → σ1 o = σ o := fun o a1 a2 => by rw [← h1, gu_o a2, gu_o a1]
  (repeat (first | refine gx_run 999 80 rfl ?_ | refine gx_goto rfl rfl ?_))
  refine gx_iret rfl rfl ?_
  generalize h2 : gn_up (gn_up σ1 44 17 0) 44 20 0 = σ2
  have p1 : ∀ o, o ≠ 44 → σ2 o = σ1 o := fun o a1 => by rw [← h2, gu_o a1, gu_o a1]
  have p2 : ∀ k, k ≠ 17 → k ≠ 20 → σ2 44 k = σ 44 k := fun k a1 a2 => by rw [← h2, gu_k (by omega), gu_k (by omega), q1 44 (by omega) (by omega)]
  have qo : ∀ o, o ≠ 22 → o ≠ 25 → o ≠ 44 → σ2 o = σ o := fun o a1 a2 a3 => by rw [p1 o a3, q1 o a1 a2]
  refine ⟨⟨_, rfl, by rw [q1 44 (by omega) (by omega), hE.2.1, hB.2.1, hE.2.2.1, hB.2.2.1]⟩, ?_⟩
  have hE2 : iE σ2 0 T Z := ⟨by omega, by rw [p1 22 (by omega), ← h1, gu_k (by omega), gu_s]; rfl, by rw [← h2, gu_k (by omega), gu_s]; rfl, fun i hi => by omega⟩
  have hB2 : iB σ2 D 0 G H := ⟨by omega, by rw [p1 25 (by omega), ← h1, gu_s]; rfl, by rw [← h2, gu_s]; rfl, fun i hi => by omega⟩
  have qq : ∀ o, (o ≤ 21 ∨ (23 ≤ o ∧ o ≤ 24) ∨ (26 ≤ o ∧ o ≤ 43) ∨ 45 ≤ o) → σ2 o = σ o := fun o ho => qo o (by omega) (by omega) (by omega)
  exact ⟨D, A, c, nx, B, z, I, 0, T, Z, 0, G, H, n, L, hT.fr (fun k => by rw [qq 0 (by omega)]) (fun o h => qq o (by omega)) (fun k h1 h2 => p2 k (by omega) (by omega)), hN.fr (qq 4 (by omega)) (fun k _ => by rw [qq 45 (by omega)]), hS.fr (by rw [qq 11 (by omega)]) (by rw [qq 45 (by omega)]), hP.fr (qq 5 (by omega)) (qq 6 (by omega)) (p2 10 (by omega) (by omega)) (fun k _ => by rw [qq 45 (by omega)]), hII.fr (fun o h1 h2 => qq o (by omega)) (p2 11 (by omega) (by omega)) (fun k _ _ => by rw [qq 45 (by omega)]), hE2, hB2, hX.fr (by rw [qq 1 (by omega)]) (fun o h => qq o (by omega)) (p2 13 (by omega) (by omega)), hF.fr (by rw [qq 1 (by omega)]) (p2 14 (by omega) (by omega))⟩
theorem p_seed {σ : gn_Mem} (hI : Inv σ) (v : Int32) : gPair 121 201 [.int v] σ := by
  obtain ⟨D, A, c, nx, B, z, I, e, T, Z, b, G, H, n, L, hT, hN, hS, hP, hII, hE, hB, hX, hF⟩ := id hI
  by_cases hv : v < 0
  · refine gPair.q hI (-1000000002) (fun Q hQ => ?_) (fun Q hQ => ?_)
    · (repeat (first | refine gx_run 999 80 rfl ?_ | refine gx_goto rfl rfl ?_))
      first | refine gx_iff rfl (fun q => absurd hv (Int32.not_lt.mpr q)) ?_ | refine gx_icf rfl (fun q => absurd hv (Int32.not_lt.mpr q)) ?_
      (repeat (first | refine gx_run 999 80 rfl ?_ | refine gx_goto rfl rfl ?_))
      refine gx_iret rfl rfl ?_
      exact hQ
    · (repeat (first | refine gx_run 999 80 rfl ?_ | refine gx_goto rfl rfl ?_))
      first | refine gx_iff rfl (fun q => absurd hv (Int32.not_lt.mpr q)) ?_ | refine gx_icf rfl (fun q => absurd hv (Int32.not_lt.mpr q)) ?_
      (repeat (first | refine gx_run 999 80 rfl ?_ | refine gx_goto rfl rfl ?_))
      refine gx_iret rfl rfl ?_
      exact hQ
  · unfold gPair
    (repeat (first | refine gx_run 999 80 rfl ?_ | refine gx_goto rfl rfl ?_))
    first | refine gx_ift rfl (Int32.not_lt.mp hv) ?_ | refine gx_ict rfl (Int32.not_lt.mp hv) ?_
    (repeat (first | refine gx_run 999 80 rfl ?_ | refine gx_goto rfl rfl ?_))
    refine gx_iret rfl rfl ?_
    generalize h1 : gn_up σ 11 0 v = σ1
    have q1 : ∀ o, o ≠ 11 → σ1 o = σ o := fun o a1 => by rw [← h1, gu_o a1]
    (repeat (first | refine gx_run 999 80 rfl ?_ | refine gx_goto rfl rfl ?_))
    first | refine gx_ift rfl (Int32.not_lt.mp hv) ?_ | refine gx_ict rfl (Int32.not_lt.mp hv) ?_
    (repeat (first | refine gx_run 999 80 rfl ?_ | refine gx_goto rfl rfl ?_))
    refine gx_ld (w := σ 11 0) 28 rfl (by omega) (by rw [q1 45 (by omega)]; exact hS.1.symm) rfl rfl rfl ?_
    (repeat (first | refine gx_run 999 80 rfl ?_ | refine gx_goto rfl rfl ?_))
    refine gx_st 28 rfl (by omega) rfl rfl rfl ?_
    (repeat (first | refine gx_run 999 80 rfl ?_ | refine gx_goto rfl rfl ?_))
    refine gx_iret rfl rfl ?_
    generalize h2 : gn_up σ1 45 28 v = σ2
    have qq : ∀ o, o ≠ 11 → o ≠ 45 → σ2 o = σ o := fun o a1 a2 => by rw [← h2, gu_o a2, q1 o a1]
    have qw : ∀ k, k ≠ 28 → σ2 45 k = σ 45 k := fun k hk => by rw [← h2, gu_k (Or.inr hk), q1 45 (by omega)]
    refine ⟨⟨_, rfl, rfl⟩, ?_⟩
    have hS2 : iS σ2 := by
      have a1 : σ2 11 0 = v := by rw [← h2, gu_k (by omega), ← h1, gu_s]
      have a2 : σ2 45 28 = v := by rw [← h2, gu_s]
      exact ⟨by rw [a1, a2], by rw [a1]; exact hv⟩
    exact ⟨D, A, c, nx, B, z, I, e, T, Z, b, G, H, n, L, hT.fr (fun k => by rw [qq 0 (by omega) (by omega)]) (fun o h => qq o (by omega) (by omega)) (fun k h1 h2 => by rw [qq 44 (by omega) (by omega)]), hN.fr (qq 4 (by omega) (by omega)) (fun k hk => qw k (by omega)), hS2, hP.fr (qq 5 (by omega) (by omega)) (qq 6 (by omega) (by omega)) (by rw [qq 44 (by omega) (by omega)]) (fun k hk => qw k (by omega)), hII.fr (fun o h1 h2 => qq o (by omega) (by omega)) (by rw [qq 44 (by omega) (by omega)]) (fun k hk _ => qw k (by omega)), hE.fr (fun o h => qq o (by omega) (by omega)) (by rw [qq 44 (by omega) (by omega)]), hB.fr (fun o h => qq o (by omega) (by omega)) (by rw [qq 44 (by omega) (by omega)]), hX.fr (by rw [qq 1 (by omega) (by omega)]) (fun o h => qq o (by omega) (by omega)) (by rw [qq 44 (by omega) (by omega)]), hF.fr (by rw [qq 1 (by omega) (by omega)]) (by rw [qq 44 (by omega) (by omega)])⟩
/-- JUDGE -/
def sJ (A : gA) (G H : Nat → Nat) (b : Nat) : Option Nat := gfi (fun i => decide (A (6 + G i) ≠ H i)) b
theorem e1_eq {a b : Nat} (ha : a < 100) (hb : b < 100) : e1 a = e1 b ↔ a = b := by
  constructor
  · intro h
    cases a with
    | zero =>
      cases b with
      | zero => rfl
      | succ b => exact absurd h.symm (nI_ne1 (by omega))
    | succ a =>
      cases b with
      | zero => exact absurd h (nI_ne1 (by omega))
      | succ b =>
        have h2 : nI a = nI b := h
        rw [nI_eq (by omega) (by omega)] at h2
        omega
  · intro h; rw [h]
theorem p_judge {σ : gn_Mem} (hI : Inv σ) : gPair 119 199 [] σ := by
  obtain ⟨D, A, c, nx, B, z, I, e, T, Z, b, G, H, n, L, hT, hN, hS, hP, hII, hE, hB, hX, hF⟩ := id hI
  have hle := hT.2.2.1.1.1
  have hhe := hT.2.2.1.1.2.1
  have hb20 := hB.1
  have hby : ∀ i, i < b → A (6 + G i) ≤ 4 ∧ H i ≤ 4 := fun i hi => by
    have h1 := hB.2.2.2 i hi
    have h2 := hN.2.2.1 (G i) h1.1
    omega
  refine gPair.q hI (eo (sJ A G H b)) (fun Q hQ => ?_) (fun Q hQ => ?_)
  · (repeat (first | refine gx_run 999 80 rfl ?_ | refine gx_goto rfl rfl ?_))
    refine gx_call rfl rfl rfl ?_
    (refine gw_run 2 80 rfl ?_)
    refine gw_forE b (fun i => decide (A (6 + G i) ≠ H i)) (fun i => [.ref 25, .ref 3, .int (nI i)]) ?_ ?_ ?_
    · intro i hi hp hn
      have h1 := hB.2.2.2 i hi
      have h2 := hby i hi
      (repeat (first | refine gx_run 999 80 rfl ?_ | refine gx_goto rfl rfl ?_))
      rw [hB.2.1]
      first | refine gx_iff rfl (nI_ge hi (by omega)) ?_ | refine gx_icf rfl (nI_ge hi (by omega)) ?_
      (repeat (first | refine gx_run 999 80 rfl ?_ | refine gx_goto rfl rfl ?_))
      refine gx_ld i rfl (by omega) h1.2.2.1 rfl rfl rfl ?_
      refine gx_call rfl rfl rfl ?_
      refine xw_toldBy hN.1 (by omega) ?_
      (repeat (first | refine gx_run 999 80 rfl ?_ | refine gx_goto rfl rfl ?_))
      refine gx_ld i rfl (by omega) h1.2.2.2.2.1 rfl rfl rfl ?_
      first | refine gx_ift rfl ((e1_eq (by omega) (by omega)).mpr (by simpa using hp)) ?_ | refine gx_ict rfl ((e1_eq (by omega) (by omega)).mpr (by simpa using hp)) ?_
      (repeat (first | refine gx_run 999 80 rfl ?_ | refine gx_goto rfl rfl ?_))
      refine gw_goto rfl ?_
      rw [nI_1]
      exact hn
    · intro i hi hp he
      have h1 := hB.2.2.2 i hi
      have h2 := hby i hi
      (repeat (first | refine gx_run 999 80 rfl ?_ | refine gx_goto rfl rfl ?_))
      rw [hB.2.1]
      first | refine gx_iff rfl (nI_ge hi (by omega)) ?_ | refine gx_icf rfl (nI_ge hi (by omega)) ?_
      (repeat (first | refine gx_run 999 80 rfl ?_ | refine gx_goto rfl rfl ?_))
      refine gx_ld i rfl (by omega) h1.2.2.1 rfl rfl rfl ?_
      refine gx_call rfl rfl rfl ?_
      refine xw_toldBy hN.1 (by omega) ?_
      (repeat (first | refine gx_run 999 80 rfl ?_ | refine gx_goto rfl rfl ?_))
      refine gx_ld i rfl (by omega) h1.2.2.2.2.1 rfl rfl rfl ?_
      first | refine gx_iff rfl (fun q => absurd ((e1_eq (by omega) (by omega)).mp q) (by simpa using hp)) ?_ | refine gx_icf rfl (fun q => absurd ((e1_eq (by omega) (by omega)).mp q) (by simpa using hp)) ?_
      (repeat (first | refine gx_run 999 80 rfl ?_ | refine gx_goto rfl rfl ?_))
      refine gx_iret rfl rfl ?_
      (repeat (first | refine gx_run 999 80 rfl ?_ | refine gx_goto rfl rfl ?_))
      refine gx_iret rfl rfl ?_
      unfold sJ at hQ
      rw [he] at hQ
      exact hQ
    · intro he
      (repeat (first | refine gx_run 999 80 rfl ?_ | refine gx_goto rfl rfl ?_))
      rw [hB.2.1]
      first | refine gx_ift rfl (nI_le (Nat.le_refl _) (by omega)) ?_ | refine gx_ict rfl (nI_le (Nat.le_refl _) (by omega)) ?_
      (repeat (first | refine gx_run 999 80 rfl ?_ | refine gx_goto rfl rfl ?_))
      refine gx_iret rfl rfl ?_
      (repeat (first | refine gx_run 999 80 rfl ?_ | refine gx_goto rfl rfl ?_))
      refine gx_iret rfl rfl ?_
      unfold sJ at hQ
      rw [he] at hQ
      exact hQ
  · (refine gw_run 2 80 rfl ?_)
    refine gw_forE b (fun i => decide (A (6 + G i) ≠ H i)) (fun i => [.ref 44, .int (nI i)]) ?_ ?_ ?_
    · intro i hi hp hn
      have h1 := hB.2.2.2 i hi
      have h2 := hby i hi
      (repeat (first | refine gx_run 999 80 rfl ?_ | refine gx_goto rfl rfl ?_))
      rw [hB.2.2.1]
      first | refine gx_iff rfl (nI_ge hi (by omega)) ?_ | refine gx_icf rfl (nI_ge hi (by omega)) ?_
      (repeat (first | refine gx_run 999 80 rfl ?_ | refine gx_goto rfl rfl ?_))
      refine gx_ld i rfl (by omega) h1.2.2.2.1 rfl rfl rfl ?_
      (repeat (first | refine gx_run 999 80 rfl ?_ | refine gx_goto rfl rfl ?_))
      refine gx_ld (6 + G i) (nI_add 6 (G i)) (by omega) (hN.2.1.by (by omega)) rfl rfl rfl ?_
      (repeat (first | refine gx_run 999 80 rfl ?_ | refine gx_goto rfl rfl ?_))
      refine gx_ld i rfl (by omega) h1.2.2.2.2.2 rfl rfl rfl ?_
      first | refine gx_ift rfl ((e1_eq (by omega) (by omega)).mpr (by simpa using hp)) ?_ | refine gx_ict rfl ((e1_eq (by omega) (by omega)).mpr (by simpa using hp)) ?_
      (repeat (first | refine gx_run 999 80 rfl ?_ | refine gx_goto rfl rfl ?_))
      refine gw_goto rfl ?_
      rw [nI_1]
      exact hn
    · intro i hi hp he
      have h1 := hB.2.2.2 i hi
      have h2 := hby i hi
      (repeat (first | refine gx_run 999 80 rfl ?_ | refine gx_goto rfl rfl ?_))
      rw [hB.2.2.1]
      first | refine gx_iff rfl (nI_ge hi (by omega)) ?_ | refine gx_icf rfl (nI_ge hi (by omega)) ?_
      (repeat (first | refine gx_run 999 80 rfl ?_ | refine gx_goto rfl rfl ?_))
      refine gx_ld i rfl (by omega) h1.2.2.2.1 rfl rfl rfl ?_
      (repeat (first | refine gx_run 999 80 rfl ?_ | refine gx_goto rfl rfl ?_))
      refine gx_ld (6 + G i) (nI_add 6 (G i)) (by omega) (hN.2.1.by (by omega)) rfl rfl rfl ?_
      (repeat (first | refine gx_run 999 80 rfl ?_ | refine gx_goto rfl rfl ?_))
      refine gx_ld i rfl (by omega) h1.2.2.2.2.2 rfl rfl rfl ?_
      first | refine gx_iff rfl (fun q => absurd ((e1_eq (by omega) (by omega)).mp q) (by simpa using hp)) ?_ | refine gx_icf rfl (fun q => absurd ((e1_eq (by omega) (by omega)).mp q) (by simpa using hp)) ?_
      (repeat (first | refine gx_run 999 80 rfl ?_ | refine gx_goto rfl rfl ?_))
      refine gx_iret rfl rfl ?_
      unfold sJ at hQ
      rw [he] at hQ
      exact hQ
    · intro he
      (repeat (first | refine gx_run 999 80 rfl ?_ | refine gx_goto rfl rfl ?_))
      rw [hB.2.2.1]
      first | refine gx_ift rfl (nI_le (Nat.le_refl _) (by omega)) ?_ | refine gx_ict rfl (nI_le (Nat.le_refl _) (by omega)) ?_
      (repeat (first | refine gx_run 999 80 rfl ?_ | refine gx_goto rfl rfl ?_))
      refine gx_iret rfl rfl ?_
      unfold sJ at hQ
      rw [he] at hQ
      exact hQ
