/-! public deeds: no, share, bed -/
theorem Inv.deed1 {σ σ1 σ2 σ3 σ4 : gn_Mem} {D : gD} {A A' : gA} {c nx : Nat} {B : Nat → gA} {z : Nat → Bool} {I : Nat → gA} {e : Nat} {T : Nat → Nat} {Z : Nat → Bool} {b : Nat} {G H : Nat → Nat} {n : Nat} {L : Nat → Nat} (hT : iT σ D) (hN : iN σ D A) (hS : iS σ) (hP : iP σ D c nx B) (hII : iI σ D z I) (hE : iE σ e T Z) (hB : iB σ D b G H) (hX : iX σ n L) (hF : iF σ) (f1 : ∀ o, o ≠ 5 → o ≠ 6 → σ1 o = σ o) (hP1 : xP σ1 (min 30 (c + 1)) ((nx + 1) % 30) (bP c A B)) (f2 : ∀ o, o ≠ 4 → σ2 o = σ1 o) (hX2 : xR (σ2 4) A') (g1 : ∀ o, o ≠ 44 → o ≠ 45 → σ3 o = σ2 o) (g2 : ∀ k, k ≠ 10 → σ3 44 k = σ2 44 k) (g3 : ∀ k, k < 87 → σ3 45 k = σ2 45 k) (hP3 : mP σ3 (min 30 (c + 1)) (bP c A B)) (k1 : ∀ o, o ≠ 45 → σ4 o = σ3 o) (k2 : ∀ k, 28 ≤ k → σ4 45 k = σ3 45 k) (hR4 : mR (σ4 45) A') (hw : wA2 D A') : Inv σ4 := by
  have all : ∀ o, o ≠ 4 → o ≠ 5 → o ≠ 6 → o ≠ 44 → o ≠ 45 → σ4 o = σ o := fun o a1 a2 a3 a4 a5 => by rw [k1 o a5, g1 o a4 a5, f2 o a1, f1 o a2 a3]
  have w2 : ∀ k, σ2 45 k = σ 45 k := fun k => by rw [f2 45 (by omega), f1 45 (by omega) (by omega)]
  refine Inv.deed (A' := A') (c' := min 30 (c + 1)) (nx' := (nx + 1) % 30) (B' := bP c A B) hT hII hE hB hX hF (fun o a1 a2 a3 _ a4 a5 => all o a1 a2 a3 a4 a5) (fun k hk => by rw [k1 44 (by omega), g2 k hk, f2 44 (by omega), f1 44 (by omega) (by omega)]) (fun k h1 h2 => by rw [k2 k (by omega), g3 k h2, w2 k]) ⟨?_, hR4, hw⟩ (hS.fr (by rw [all 11 (by omega) (by omega) (by omega) (by omega) (by omega)]) (by rw [k2 28 (by omega), g3 28 (by omega), w2 28])) (iP.mk' ?_ ?_ (bP_w hP.1 hN.2.2 (fun i hi => (hP.2.2.2.2.2 i hi).1)))
  · rw [k1 4 (by omega), g1 4 (by omega) (by omega)]
    exact hX2
  · exact hP1.fr (by rw [k1 5 (by omega), g1 5 (by omega) (by omega), f2 5 (by omega)]) (by rw [k1 6 (by omega), g1 6 (by omega) (by omega), f2 6 (by omega)])
  · exact hP3.fr (by rw [k1 44 (by omega)]) (fun k hk => k2 k (by omega))
/-- the reference behind the class's deed -/
theorem gM_x {σ σ1 σ2 : gn_Mem} {D : gD} (h : gM σ D) (f1 : ∀ o, o ≠ 5 → o ≠ 6 → σ1 o = σ o) (f2 : ∀ o, o ≠ 4 → σ2 o = σ1 o) : gM σ2 D := gM_fr h (fun k _ => by rw [f2 44 (by omega), f1 44 (by omega) (by omega)]) (fun o a b => by rw [f2 o (by omega), f1 o (by omega) (by omega)])
theorem p_no {σ : gn_Mem} (hI : Inv σ) (h g : Int32) : gPair 100 169 [.int h, .int g] σ := by
  obtain ⟨D, A, c, nx, B, z, I, e, T, Z, b, G, H, n, L, hT, hN, hS, hP, hII, hE, hB, hX, hF⟩ := id hI
  have hd := hT.1
  have hle := hT.2.2.1.1.1
  have hhe := hT.2.2.1.1.2.1
  have hW := hT.2.2.1.1
  by_cases hh : ¬ h < 0 ∧ ¬ nI (dH D) ≤ h
  · by_cases hg : ¬ g < 0 ∧ ¬ nI (dG D) ≤ g
    · obtain ⟨j, hj, rfl⟩ := in_of (by omega) hg
      obtain ⟨i, hi, rfl⟩ := in_of (by omega) hh
      have hc := hW.2.2.2.2.1 j hj
      have ha := hN.2.2.1 j hj
      have hn9 := hN.2.2.2.2.1 i (by omega)
      have kx : ∀ Q : Option Value → gn_Mem → Prop, gn_W 20 100 25 [.ref 0, .int (nI i), .int (nI j)] [] σ Q → gn_W 20 100 0 [.ref 0, .int (nI i), .int (nI j)] [] σ Q := by
        intro Q hQ
        (repeat (first | refine gx_run 999 80 rfl ?_ | refine gx_goto rfl rfl ?_))
        rw [hd]
        refine gx_call rfl rfl rfl ?_
        refine xw_isH hT.2.2.1 ?_
        rw [gb_t hh]
        (repeat (first | refine gx_run 999 80 rfl ?_ | refine gx_goto rfl rfl ?_))
        first | refine gx_iff rfl (by dsimp only [gn_cmp] <;> decide) ?_ | refine gx_icf rfl (by dsimp only [gn_cmp] <;> decide) ?_
        (repeat (first | refine gx_run 999 80 rfl ?_ | refine gx_goto rfl rfl ?_))
        rw [hd]
        refine gx_call rfl rfl rfl ?_
        refine xw_isG hT.2.2.1 ?_
        rw [gb_t hg]
        (repeat (first | refine gx_run 999 80 rfl ?_ | refine gx_goto rfl rfl ?_))
        first | refine gx_ift rfl (by dsimp only [gn_cmp] <;> decide) ?_ | refine gx_ict rfl (by dsimp only [gn_cmp] <;> decide) ?_
        exact hQ
      have km : ∀ (σ1 : gn_Mem) (Q : Option Value → gn_Mem → Prop), gM σ1 D → gn_W 20 169 19 [.ref 44, .int (nI i), .int (nI j)] [] σ1 Q → gn_W 20 169 0 [.ref 44, .int (nI i), .int (nI j)] [] σ1 Q := by
        intro σ1 Q hM hQ
        (repeat (first | refine gx_run 999 80 rfl ?_ | refine gx_goto rfl rfl ?_))
        refine gx_call rfl rfl rfl ?_
        refine mw_isH hM ?_
        rw [gb_t hh]
        (repeat (first | refine gx_run 999 80 rfl ?_ | refine gx_goto rfl rfl ?_))
        first | refine gx_iff rfl (by dsimp only [gn_cmp] <;> decide) ?_ | refine gx_icf rfl (by dsimp only [gn_cmp] <;> decide) ?_
        (repeat (first | refine gx_run 999 80 rfl ?_ | refine gx_goto rfl rfl ?_))
        refine gx_call rfl rfl rfl ?_
        refine mw_isG hM ?_
        rw [gb_t hg]
        (repeat (first | refine gx_run 999 80 rfl ?_ | refine gx_goto rfl rfl ?_))
        first | refine gx_ift rfl (by dsimp only [gn_cmp] <;> decide) ?_ | refine gx_ict rfl (by dsimp only [gn_cmp] <;> decide) ?_
        exact hQ
      by_cases ho : 0 < A (20 + i) ∧ (A 18).testBit j = true ∧ 0 < A j ∧ A (6 + j) = 0
      · unfold gPair
        refine kx _ ?_
        (repeat (first | refine gx_run 999 80 rfl ?_ | refine gx_goto rfl rfl ?_))
        refine gx_call rfl rfl rfl ?_
        refine xw_canContradict hW hN.1 hN.2.2 hj hi ?_
        rw [gb_t ho]
        (repeat (first | refine gx_run 999 80 rfl ?_ | refine gx_goto rfl rfl ?_))
        first | refine gx_ift rfl (by dsimp only [gn_cmp] <;> decide) ?_ | refine gx_ict rfl (by dsimp only [gn_cmp] <;> decide) ?_
        (repeat (first | refine gx_run 999 80 rfl ?_ | refine gx_goto rfl rfl ?_))
        refine gx_call rfl rfl rfl ?_
        refine xw_remember hP.x hN.1 ?_
        intro σ1 f1 hP1
        have hd1 : gn_dyn (σ1 0 11) = 28 := by rw [f1 0 (by omega) (by omega)]; exact hd
        (repeat (first | refine gx_run 999 80 rfl ?_ | refine gx_goto rfl rfl ?_))
        rw [hd1]
        refine gx_call rfl rfl rfl ?_
        refine xw_contradict (A := A) (D := D) (gT_fr hT.2.2.1 (fun o a b => f1 o (by omega) (by omega))) (by rw [f1 4 (by omega) (by omega)]; exact hN.1) hN.2.2.2.2.2.2.2.1 hj hi ho.2.2.1 ha.1 ho.1 hn9 ?_
        intro σ2 f2 hX2
        (repeat (first | refine gx_run 999 80 rfl ?_ | refine gx_goto rfl rfl ?_))
        refine gx_iret rfl rfl ?_
        have hM2 := gM_x hT.2.2.2 f1 f2
        have w2 : ∀ k, σ2 45 k = σ 45 k := fun k => by rw [f2 45 (by omega), f1 45 (by omega) (by omega)]
        have hR2 : mR (σ2 45) A := hN.2.1.fr (fun k _ => w2 k)
        have hP2 : mP σ2 c B := hP.m.fr (by rw [f2 44 (by omega), f1 44 (by omega) (by omega)]) (fun k _ => w2 k)
        refine km σ2 _ hM2 ?_
        (repeat (first | refine gx_run 999 80 rfl ?_ | refine gx_goto rfl rfl ?_))
        refine gx_ld (20 + i) (nI_add 20 i) (by omega) (hR2.no (by omega)) rfl rfl rfl ?_
        first | refine gx_iff rfl (nI_ne0 ho.1 (by omega)) ?_ | refine gx_icf rfl (nI_ne0 ho.1 (by omega)) ?_
        (repeat (first | refine gx_run 999 80 rfl ?_ | refine gx_goto rfl rfl ?_))
        refine gx_call rfl rfl rfl ?_
        refine mw_isOpen hM2 hR2 hN.2.2 hj ?_
        rw [gb_t ho.2]
        (repeat (first | refine gx_run 999 80 rfl ?_ | refine gx_goto rfl rfl ?_))
        first | refine gx_ift rfl (by dsimp only [gn_cmp] <;> decide) ?_ | refine gx_ict rfl (by dsimp only [gn_cmp] <;> decide) ?_
        (repeat (first | refine gx_run 999 80 rfl ?_ | refine gx_goto rfl rfl ?_))
        refine gx_call rfl rfl rfl ?_
        refine mw_remember hP2 hR2 ?_
        intro σ3 g1 g2 g3 hP3
        have hR3 : mR (σ3 45) A := hR2.fr (fun k hk => g3 k (by omega))
        (repeat (first | refine gx_run 999 80 rfl ?_ | refine gx_goto rfl rfl ?_))
        refine gx_call rfl rfl rfl ?_
        refine mw_noBy (gM_rem hM2 g1 g2) hR3 hN.2.2.2.2.2.2.2.1 hj hi ho.2.2.1 ha.1 ho.1 ?_
        intro σ4 k1 k2 hR4
        (repeat (first | refine gx_run 999 80 rfl ?_ | refine gx_goto rfl rfl ?_))
        refine gx_iret rfl rfl ?_
        exact ⟨⟨_, rfl, rfl⟩, Inv.deed1 hT hN hS hP hII hE hB hX hF f1 hP1 f2 hX2 g1 g2 g3 hP3 k1 k2 hR4 (w_no hW hN.2.2 hj hi ho.2.2.1)⟩
      · refine gPair.q hI (-1000000003) (fun Q hQ => ?_) (fun Q hQ => ?_)
        · refine kx _ ?_
          (repeat (first | refine gx_run 999 80 rfl ?_ | refine gx_goto rfl rfl ?_))
          refine gx_call rfl rfl rfl ?_
          refine xw_canContradict hW hN.1 hN.2.2 hj hi ?_
          rw [gb_f ho]
          (repeat (first | refine gx_run 999 80 rfl ?_ | refine gx_goto rfl rfl ?_))
          first | refine gx_iff rfl (by dsimp only [gn_cmp] <;> decide) ?_ | refine gx_icf rfl (by dsimp only [gn_cmp] <;> decide) ?_
          (repeat (first | refine gx_run 999 80 rfl ?_ | refine gx_goto rfl rfl ?_))
          refine gx_iret rfl rfl ?_
          exact hQ
        · refine km σ _ hT.2.2.2 ?_
          (repeat (first | refine gx_run 999 80 rfl ?_ | refine gx_goto rfl rfl ?_))
          refine gx_ld (20 + i) (nI_add 20 i) (by omega) (hN.2.1.no (by omega)) rfl rfl rfl ?_
          by_cases h0 : 0 < A (20 + i)
          · first | refine gx_iff rfl (nI_ne0 h0 (by omega)) ?_ | refine gx_icf rfl (nI_ne0 h0 (by omega)) ?_
            (repeat (first | refine gx_run 999 80 rfl ?_ | refine gx_goto rfl rfl ?_))
            refine gx_call rfl rfl rfl ?_
            refine mw_isOpen hT.2.2.2 hN.2.1 hN.2.2 hj ?_
            rw [gb_f (fun q => ho ⟨h0, q⟩)]
            (repeat (first | refine gx_run 999 80 rfl ?_ | refine gx_goto rfl rfl ?_))
            first | refine gx_iff rfl (by dsimp only [gn_cmp] <;> decide) ?_ | refine gx_icf rfl (by dsimp only [gn_cmp] <;> decide) ?_
            (repeat (first | refine gx_run 999 80 rfl ?_ | refine gx_goto rfl rfl ?_))
            refine gx_iret rfl rfl ?_
            exact hQ
          · first | refine gx_ift rfl (show nI (A (20 + i)) = 0 by rw [show A (20 + i) = 0 by omega]; rfl) ?_ | refine gx_ict rfl (show nI (A (20 + i)) = 0 by rw [show A (20 + i) = 0 by omega]; rfl) ?_
            (repeat (first | refine gx_run 999 80 rfl ?_ | refine gx_goto rfl rfl ?_))
            refine gx_iret rfl rfl ?_
            exact hQ
    · refine gPair.q hI (-1000000001) (fun Q hQ => ?_) (fun Q hQ => ?_)
      · (repeat (first | refine gx_run 999 80 rfl ?_ | refine gx_goto rfl rfl ?_))
        rw [hd]
        refine gx_call rfl rfl rfl ?_
        refine xw_isH hT.2.2.1 ?_
        rw [gb_t hh]
        (repeat (first | refine gx_run 999 80 rfl ?_ | refine gx_goto rfl rfl ?_))
        first | refine gx_iff rfl (by dsimp only [gn_cmp] <;> decide) ?_ | refine gx_icf rfl (by dsimp only [gn_cmp] <;> decide) ?_
        (repeat (first | refine gx_run 999 80 rfl ?_ | refine gx_goto rfl rfl ?_))
        rw [hd]
        refine gx_call rfl rfl rfl ?_
        refine xw_isG hT.2.2.1 ?_
        rw [gb_f hg]
        (repeat (first | refine gx_run 999 80 rfl ?_ | refine gx_goto rfl rfl ?_))
        first | refine gx_iff rfl (by dsimp only [gn_cmp] <;> decide) ?_ | refine gx_icf rfl (by dsimp only [gn_cmp] <;> decide) ?_
        (repeat (first | refine gx_run 999 80 rfl ?_ | refine gx_goto rfl rfl ?_))
        refine gx_iret rfl rfl ?_
        exact hQ
      · (repeat (first | refine gx_run 999 80 rfl ?_ | refine gx_goto rfl rfl ?_))
        refine gx_call rfl rfl rfl ?_
        refine mw_isH hT.2.2.2 ?_
        rw [gb_t hh]
        (repeat (first | refine gx_run 999 80 rfl ?_ | refine gx_goto rfl rfl ?_))
        first | refine gx_iff rfl (by dsimp only [gn_cmp] <;> decide) ?_ | refine gx_icf rfl (by dsimp only [gn_cmp] <;> decide) ?_
        (repeat (first | refine gx_run 999 80 rfl ?_ | refine gx_goto rfl rfl ?_))
        refine gx_call rfl rfl rfl ?_
        refine mw_isG hT.2.2.2 ?_
        rw [gb_f hg]
        (repeat (first | refine gx_run 999 80 rfl ?_ | refine gx_goto rfl rfl ?_))
        first | refine gx_iff rfl (by dsimp only [gn_cmp] <;> decide) ?_ | refine gx_icf rfl (by dsimp only [gn_cmp] <;> decide) ?_
        (repeat (first | refine gx_run 999 80 rfl ?_ | refine gx_goto rfl rfl ?_))
        refine gx_iret rfl rfl ?_
        exact hQ
  · refine gPair.q hI (-1000000001) (fun Q hQ => ?_) (fun Q hQ => ?_)
    · (repeat (first | refine gx_run 999 80 rfl ?_ | refine gx_goto rfl rfl ?_))
      rw [hd]
      refine gx_call rfl rfl rfl ?_
      refine xw_isH hT.2.2.1 ?_
      rw [gb_f hh]
      (repeat (first | refine gx_run 999 80 rfl ?_ | refine gx_goto rfl rfl ?_))
      first | refine gx_ift rfl (by dsimp only [gn_cmp] <;> decide) ?_ | refine gx_ict rfl (by dsimp only [gn_cmp] <;> decide) ?_
      (repeat (first | refine gx_run 999 80 rfl ?_ | refine gx_goto rfl rfl ?_))
      refine gx_iret rfl rfl ?_
      exact hQ
    · (repeat (first | refine gx_run 999 80 rfl ?_ | refine gx_goto rfl rfl ?_))
      refine gx_call rfl rfl rfl ?_
      refine mw_isH hT.2.2.2 ?_
      rw [gb_f hh]
      (repeat (first | refine gx_run 999 80 rfl ?_ | refine gx_goto rfl rfl ?_))
      first | refine gx_ift rfl (by dsimp only [gn_cmp] <;> decide) ?_ | refine gx_ict rfl (by dsimp only [gn_cmp] <;> decide) ?_
      (repeat (first | refine gx_run 999 80 rfl ?_ | refine gx_goto rfl rfl ?_))
      refine gx_iret rfl rfl ?_
      exact hQ
theorem p_share {σ : gn_Mem} (hI : Inv σ) (g q : Int32) : gPair 101 170 [.int g, .int q] σ := by
  obtain ⟨D, A, c, nx, B, z, I, e, T, Z, b, G, H, n, L, hT, hN, hS, hP, hII, hE, hB, hX, hF⟩ := id hI
  have hd := hT.1
  have hle := hT.2.2.1.1.1
  have hhe := hT.2.2.1.1.2.1
  have hW := hT.2.2.1.1
  by_cases hall : (¬ g < 0 ∧ ¬ nI (dG D) ≤ g) ∧ (¬ q < 0 ∧ ¬ nI (dG D) ≤ q) ∧ ¬ g = q
  · obtain ⟨hg, hq, hne⟩ := id hall
    obtain ⟨j, hj, rfl⟩ := in_of (by omega) hg
    obtain ⟨i, hi, rfl⟩ := in_of (by omega) hq
    have hc := hW.2.2.2.2.1 j hj
    have ha := hN.2.2.1 j hj
    have hai := hN.2.2.1 i hi
    have kx : ∀ Q : Option Value → gn_Mem → Prop, gn_W 20 101 12 [.ref 0, .int (nI j), .int (nI i)] [] σ Q → gn_W 20 101 0 [.ref 0, .int (nI j), .int (nI i)] [] σ Q := by
      intro Q hQ
      (repeat (first | refine gx_run 999 80 rfl ?_ | refine gx_goto rfl rfl ?_))
      refine gx_call rfl rfl rfl ?_
      refine xw_noTwo hd hT.2.2.1 ?_
      rw [show gb (¬ ((¬ nI j < 0 ∧ ¬ nI (dG D) ≤ nI j) ∧ (¬ nI i < 0 ∧ ¬ nI (dG D) ≤ nI i) ∧ ¬ nI j = nI i)) = 0 from gb_f (fun z => z hall)]
      (repeat (first | refine gx_run 999 80 rfl ?_ | refine gx_goto rfl rfl ?_))
      first | refine gx_ift rfl (by dsimp only [gn_cmp] <;> decide) ?_ | refine gx_ict rfl (by dsimp only [gn_cmp] <;> decide) ?_
      exact hQ
    have km : ∀ (σ1 : gn_Mem) (Q : Option Value → gn_Mem → Prop), gM σ1 D → gn_W 20 170 24 [.ref 44, .int (nI j), .int (nI i)] [] σ1 Q → gn_W 20 170 0 [.ref 44, .int (nI j), .int (nI i)] [] σ1 Q := by
      intro σ1 Q hM hQ
      (repeat (first | refine gx_run 999 80 rfl ?_ | refine gx_goto rfl rfl ?_))
      refine gx_call rfl rfl rfl ?_
      refine mw_isG hM ?_
      rw [gb_t hg]
      (repeat (first | refine gx_run 999 80 rfl ?_ | refine gx_goto rfl rfl ?_))
      first | refine gx_iff rfl (by dsimp only [gn_cmp] <;> decide) ?_ | refine gx_icf rfl (by dsimp only [gn_cmp] <;> decide) ?_
      (repeat (first | refine gx_run 999 80 rfl ?_ | refine gx_goto rfl rfl ?_))
      refine gx_call rfl rfl rfl ?_
      refine mw_isG hM ?_
      rw [gb_t hq]
      (repeat (first | refine gx_run 999 80 rfl ?_ | refine gx_goto rfl rfl ?_))
      first | refine gx_iff rfl (by dsimp only [gn_cmp] <;> decide) ?_ | refine gx_icf rfl (by dsimp only [gn_cmp] <;> decide) ?_
      (repeat (first | refine gx_run 999 80 rfl ?_ | refine gx_goto rfl rfl ?_))
      first | refine gx_ift rfl (hne) ?_ | refine gx_ict rfl (hne) ?_
      exact hQ
    by_cases ho : ((A 18).testBit j = true ∧ 0 < A j ∧ A (6 + j) = 0) ∧ A (6 + i) ≠ 0
    · unfold gPair
      refine kx _ ?_
      (repeat (first | refine gx_run 999 80 rfl ?_ | refine gx_goto rfl rfl ?_))
      refine gx_call rfl rfl rfl ?_
      refine xw_canBeTold hW hN.1 hN.2.2 hj ?_
      rw [gb_t ho.1]
      (repeat (first | refine gx_run 999 80 rfl ?_ | refine gx_goto rfl rfl ?_))
      first | refine gx_iff rfl (by dsimp only [gn_cmp] <;> decide) ?_ | refine gx_icf rfl (by dsimp only [gn_cmp] <;> decide) ?_
      (repeat (first | refine gx_run 999 80 rfl ?_ | refine gx_goto rfl rfl ?_))
      refine gx_call rfl rfl rfl ?_
      refine xw_toldBy hN.1 (by omega) ?_
      (repeat (first | refine gx_run 999 80 rfl ?_ | refine gx_goto rfl rfl ?_))
      first | refine gx_ift rfl (fun q => ho.2 ((e1_ne (by omega)).mp q)) ?_ | refine gx_ict rfl (fun q => ho.2 ((e1_ne (by omega)).mp q)) ?_
      (repeat (first | refine gx_run 999 80 rfl ?_ | refine gx_goto rfl rfl ?_))
      refine gx_call rfl rfl rfl ?_
      refine xw_remember hP.x hN.1 ?_
      intro σ1 f1 hP1
      have hd1 : gn_dyn (σ1 0 11) = 28 := by rw [f1 0 (by omega) (by omega)]; exact hd
      (repeat (first | refine gx_run 999 80 rfl ?_ | refine gx_goto rfl rfl ?_))
      rw [hd1]
      refine gx_call rfl rfl rfl ?_
      refine xw_shareNo (A := A) (D := D) (gT_fr hT.2.2.1 (fun o a b => f1 o (by omega) (by omega))) (by rw [f1 4 (by omega) (by omega)]; exact hN.1) hN.2.2.2.2.2.2.2.1 hj hi ho.2 hai.2.1 ho.1.2.1 ha.1 ?_
      intro σ2 f2 hX2
      (repeat (first | refine gx_run 999 80 rfl ?_ | refine gx_goto rfl rfl ?_))
      refine gx_iret rfl rfl ?_
      have hM2 := gM_x hT.2.2.2 f1 f2
      have w2 : ∀ k, σ2 45 k = σ 45 k := fun k => by rw [f2 45 (by omega), f1 45 (by omega) (by omega)]
      have hR2 : mR (σ2 45) A := hN.2.1.fr (fun k _ => w2 k)
      have hP2 : mP σ2 c B := hP.m.fr (by rw [f2 44 (by omega), f1 44 (by omega) (by omega)]) (fun k _ => w2 k)
      refine km σ2 _ hM2 ?_
      (repeat (first | refine gx_run 999 80 rfl ?_ | refine gx_goto rfl rfl ?_))
      refine gx_call rfl rfl rfl ?_
      refine mw_isOpen hM2 hR2 hN.2.2 hj ?_
      rw [gb_t ho.1]
      (repeat (first | refine gx_run 999 80 rfl ?_ | refine gx_goto rfl rfl ?_))
      first | refine gx_iff rfl (by dsimp only [gn_cmp] <;> decide) ?_ | refine gx_icf rfl (by dsimp only [gn_cmp] <;> decide) ?_
      (repeat (first | refine gx_run 999 80 rfl ?_ | refine gx_goto rfl rfl ?_))
      refine gx_ld (6 + i) (nI_add 6 i) (by omega) (hR2.by (by omega)) rfl rfl rfl ?_
      (repeat (first | refine gx_run 999 80 rfl ?_ | refine gx_goto rfl rfl ?_))
      first | refine gx_ift rfl (fun q => ho.2 ((e1_ne (by omega)).mp q)) ?_ | refine gx_ict rfl (fun q => ho.2 ((e1_ne (by omega)).mp q)) ?_
      (repeat (first | refine gx_run 999 80 rfl ?_ | refine gx_goto rfl rfl ?_))
      refine gx_call rfl rfl rfl ?_
      refine mw_remember hP2 hR2 ?_
      intro σ3 g1 g2 g3 hP3
      have hR3 : mR (σ3 45) A := hR2.fr (fun k hk => g3 k (by omega))
      have hM3 := gM_rem hM2 g1 g2
      (repeat (first | refine gx_run 999 80 rfl ?_ | refine gx_goto rfl rfl ?_))
      refine gx_ld (6 + i) (nI_add 6 i) (by omega) (hR3.by (by omega)) rfl rfl rfl ?_
      rw [e1_pos ho.2]
      (repeat (first | refine gx_run 999 80 rfl ?_ | refine gx_goto rfl rfl ?_))
      refine gx_call rfl rfl rfl ?_
      have hj2 := hW.jP hj (h := A (6 + i) - 1) (by omega) (k := A j - 1) (by omega)
      refine mw_tell hM3 hR3 hj (by omega) ho.1.2.1 ha.1 ?_
      intro σ4 k1 k2 hR4
      (repeat (first | refine gx_run 999 80 rfl ?_ | refine gx_goto rfl rfl ?_))
      refine gw_idiv rfl (by decide) ?_
      rw [half28 _ (by omega)]
      (repeat (first | refine gx_run 999 80 rfl ?_ | refine gx_goto rfl rfl ?_))
      refine gx_call rfl rfl rfl ?_
      have eg : aup (aup A (6 + j) (A (6 + i) - 1 + 1)) (12 + j) (A j) 24 = A 24 := by unfold aup; rw [if_neg (by omega), if_neg (by omega)]
      refine mw_glad hR4 (by rw [eg]; exact hN.2.2.2.2.2.2.2.1) (by omega) ?_
      intro σ5 l1 l2 hR5
      rw [eg] at hR5
      (repeat (first | refine gx_run 999 80 rfl ?_ | refine gx_goto rfl rfl ?_))
      refine gx_iret rfl rfl ?_
      exact ⟨⟨_, rfl, rfl⟩, Inv.deed1 hT hN hS hP hII hE hB hX hF f1 hP1 f2 hX2 g1 g2 g3 hP3 (fun o ho => by rw [l1 o ho, k1 o ho]) (fun k hk => by rw [l2 k hk, k2 k hk]) hR5 (w_sh hW hN.2.2 hj (by omega) ho.1.2.1)⟩
    · refine gPair.q hI (-1000000003) (fun Q hQ => ?_) (fun Q hQ => ?_)
      · refine kx _ ?_
        (repeat (first | refine gx_run 999 80 rfl ?_ | refine gx_goto rfl rfl ?_))
        refine gx_call rfl rfl rfl ?_
        refine xw_canBeTold hW hN.1 hN.2.2 hj ?_
        by_cases h1 : (A 18).testBit j = true ∧ 0 < A j ∧ A (6 + j) = 0
        · rw [gb_t h1]
          (repeat (first | refine gx_run 999 80 rfl ?_ | refine gx_goto rfl rfl ?_))
          first | refine gx_iff rfl (by dsimp only [gn_cmp] <;> decide) ?_ | refine gx_icf rfl (by dsimp only [gn_cmp] <;> decide) ?_
          (repeat (first | refine gx_run 999 80 rfl ?_ | refine gx_goto rfl rfl ?_))
          refine gx_call rfl rfl rfl ?_
          refine xw_toldBy hN.1 (by omega) ?_
          (repeat (first | refine gx_run 999 80 rfl ?_ | refine gx_goto rfl rfl ?_))
          have h2 : A (6 + i) = 0 := Classical.not_not.mp fun q => ho ⟨h1, q⟩
          first | refine gx_iff rfl (fun q => q ((e1_ne (by omega)).mpr h2)) ?_ | refine gx_icf rfl (fun q => q ((e1_ne (by omega)).mpr h2)) ?_
          (repeat (first | refine gx_run 999 80 rfl ?_ | refine gx_goto rfl rfl ?_))
          refine gx_iret rfl rfl ?_
          exact hQ
        · rw [gb_f h1]
          (repeat (first | refine gx_run 999 80 rfl ?_ | refine gx_goto rfl rfl ?_))
          first | refine gx_ift rfl (by dsimp only [gn_cmp] <;> decide) ?_ | refine gx_ict rfl (by dsimp only [gn_cmp] <;> decide) ?_
          (repeat (first | refine gx_run 999 80 rfl ?_ | refine gx_goto rfl rfl ?_))
          refine gx_iret rfl rfl ?_
          exact hQ
      · refine km σ _ hT.2.2.2 ?_
        (repeat (first | refine gx_run 999 80 rfl ?_ | refine gx_goto rfl rfl ?_))
        refine gx_call rfl rfl rfl ?_
        refine mw_isOpen hT.2.2.2 hN.2.1 hN.2.2 hj ?_
        by_cases h1 : (A 18).testBit j = true ∧ 0 < A j ∧ A (6 + j) = 0
        · rw [gb_t h1]
          (repeat (first | refine gx_run 999 80 rfl ?_ | refine gx_goto rfl rfl ?_))
          first | refine gx_iff rfl (by dsimp only [gn_cmp] <;> decide) ?_ | refine gx_icf rfl (by dsimp only [gn_cmp] <;> decide) ?_
          (repeat (first | refine gx_run 999 80 rfl ?_ | refine gx_goto rfl rfl ?_))
          refine gx_ld (6 + i) (nI_add 6 i) (by omega) (hN.2.1.by (by omega)) rfl rfl rfl ?_
          (repeat (first | refine gx_run 999 80 rfl ?_ | refine gx_goto rfl rfl ?_))
          have h2 : A (6 + i) = 0 := Classical.not_not.mp fun q => ho ⟨h1, q⟩
          first | refine gx_iff rfl (fun q => q ((e1_ne (by omega)).mpr h2)) ?_ | refine gx_icf rfl (fun q => q ((e1_ne (by omega)).mpr h2)) ?_
          (repeat (first | refine gx_run 999 80 rfl ?_ | refine gx_goto rfl rfl ?_))
          refine gx_iret rfl rfl ?_
          exact hQ
        · rw [gb_f h1]
          (repeat (first | refine gx_run 999 80 rfl ?_ | refine gx_goto rfl rfl ?_))
          first | refine gx_ift rfl (by dsimp only [gn_cmp] <;> decide) ?_ | refine gx_ict rfl (by dsimp only [gn_cmp] <;> decide) ?_
          (repeat (first | refine gx_run 999 80 rfl ?_ | refine gx_goto rfl rfl ?_))
          refine gx_iret rfl rfl ?_
          exact hQ
  · refine gPair.q hI (-1000000001) (fun Q hQ => ?_) (fun Q hQ => ?_)
    · (repeat (first | refine gx_run 999 80 rfl ?_ | refine gx_goto rfl rfl ?_))
      refine gx_call rfl rfl rfl ?_
      refine xw_noTwo hd hT.2.2.1 ?_
      rw [show gb (¬ ((¬ g < 0 ∧ ¬ nI (dG D) ≤ g) ∧ (¬ q < 0 ∧ ¬ nI (dG D) ≤ q) ∧ ¬ g = q)) = 1 from gb_t hall]
      (repeat (first | refine gx_run 999 80 rfl ?_ | refine gx_goto rfl rfl ?_))
      first | refine gx_iff rfl (by dsimp only [gn_cmp] <;> decide) ?_ | refine gx_icf rfl (by dsimp only [gn_cmp] <;> decide) ?_
      (repeat (first | refine gx_run 999 80 rfl ?_ | refine gx_goto rfl rfl ?_))
      refine gx_iret rfl rfl ?_
      exact hQ
    · (repeat (first | refine gx_run 999 80 rfl ?_ | refine gx_goto rfl rfl ?_))
      refine gx_call rfl rfl rfl ?_
      refine mw_isG hT.2.2.2 ?_
      by_cases hg : ¬ g < 0 ∧ ¬ nI (dG D) ≤ g
      · rw [gb_t hg]
        (repeat (first | refine gx_run 999 80 rfl ?_ | refine gx_goto rfl rfl ?_))
        first | refine gx_iff rfl (by dsimp only [gn_cmp] <;> decide) ?_ | refine gx_icf rfl (by dsimp only [gn_cmp] <;> decide) ?_
        (repeat (first | refine gx_run 999 80 rfl ?_ | refine gx_goto rfl rfl ?_))
        refine gx_call rfl rfl rfl ?_
        refine mw_isG hT.2.2.2 ?_
        by_cases hq : ¬ q < 0 ∧ ¬ nI (dG D) ≤ q
        · rw [gb_t hq]
          (repeat (first | refine gx_run 999 80 rfl ?_ | refine gx_goto rfl rfl ?_))
          first | refine gx_iff rfl (by dsimp only [gn_cmp] <;> decide) ?_ | refine gx_icf rfl (by dsimp only [gn_cmp] <;> decide) ?_
          (repeat (first | refine gx_run 999 80 rfl ?_ | refine gx_goto rfl rfl ?_))
          first | refine gx_iff rfl (fun z => hall ⟨hg, hq, z⟩) ?_ | refine gx_icf rfl (fun z => hall ⟨hg, hq, z⟩) ?_
          (repeat (first | refine gx_run 999 80 rfl ?_ | refine gx_goto rfl rfl ?_))
          refine gx_iret rfl rfl ?_
          exact hQ
        · rw [gb_f hq]
          (repeat (first | refine gx_run 999 80 rfl ?_ | refine gx_goto rfl rfl ?_))
          first | refine gx_ift rfl (by dsimp only [gn_cmp] <;> decide) ?_ | refine gx_ict rfl (by dsimp only [gn_cmp] <;> decide) ?_
          (repeat (first | refine gx_run 999 80 rfl ?_ | refine gx_goto rfl rfl ?_))
          refine gx_iret rfl rfl ?_
          exact hQ
      · rw [gb_f hg]
        (repeat (first | refine gx_run 999 80 rfl ?_ | refine gx_goto rfl rfl ?_))
        first | refine gx_ift rfl (by dsimp only [gn_cmp] <;> decide) ?_ | refine gx_ict rfl (by dsimp only [gn_cmp] <;> decide) ?_
        (repeat (first | refine gx_run 999 80 rfl ?_ | refine gx_goto rfl rfl ?_))
        refine gx_iret rfl rfl ?_
        exact hQ
theorem p_bed {σ : gn_Mem} (hI : Inv σ) (g : Int32) : gPair 102 172 [.int g] σ := by
  obtain ⟨D, A, c, nx, B, z, I, e, T, Z, b, G, H, n, L, hT, hN, hS, hP, hII, hE, hB, hX, hF⟩ := id hI
  have hd := hT.1
  have hle := hT.2.2.1.1.1
  have hW := hT.2.2.1.1
  by_cases hg : ¬ g < 0 ∧ ¬ nI (dG D) ≤ g
  · obtain ⟨j, hj, rfl⟩ := in_of (by omega) hg
    have h18 := hN.2.2.2.2.2.1
    by_cases hu : (A 18).testBit j = true
    · unfold gPair
      (repeat (first | refine gx_run 999 80 rfl ?_ | refine gx_goto rfl rfl ?_))
      rw [hd]
      refine gx_call rfl rfl rfl ?_
      refine xw_isG hT.2.2.1 ?_
      rw [gb_t hg]
      (repeat (first | refine gx_run 999 80 rfl ?_ | refine gx_goto rfl rfl ?_))
      first | refine gx_ift rfl (by dsimp only [gn_cmp] <;> decide) ?_ | refine gx_ict rfl (by dsimp only [gn_cmp] <;> decide) ?_
      (repeat (first | refine gx_run 999 80 rfl ?_ | refine gx_goto rfl rfl ?_))
      refine gx_call rfl rfl rfl ?_
      refine xw_isUp hN.1 h18 (by omega) ?_
      rw [gb_t hu]
      (repeat (first | refine gx_run 999 80 rfl ?_ | refine gx_goto rfl rfl ?_))
      first | refine gx_ift rfl (by dsimp only [gn_cmp] <;> decide) ?_ | refine gx_ict rfl (by dsimp only [gn_cmp] <;> decide) ?_
      (repeat (first | refine gx_run 999 80 rfl ?_ | refine gx_goto rfl rfl ?_))
      refine gx_call rfl rfl rfl ?_
      refine xw_remember hP.x hN.1 ?_
      intro σ1 f1 hP1
      (repeat (first | refine gx_run 999 80 rfl ?_ | refine gx_goto rfl rfl ?_))
      refine gx_call rfl rfl rfl ?_
      refine xw_retire (A := A) (D := D) (by rw [f1 4 (by omega) (by omega)]; exact hN.1) hN.2.2 hW hj ?_
      intro σ2 f2 hX2
      (repeat (first | refine gx_run 999 80 rfl ?_ | refine gx_goto rfl rfl ?_))
      have hM2 := gM_x hT.2.2.2 f1 f2
      have w2 : ∀ k, σ2 45 k = σ 45 k := fun k => by rw [f2 45 (by omega), f1 45 (by omega) (by omega)]
      have hR2 : mR (σ2 45) A := hN.2.1.fr (fun k _ => w2 k)
      have hP2 : mP σ2 c B := hP.m.fr (by rw [f2 44 (by omega), f1 44 (by omega) (by omega)]) (fun k _ => w2 k)
      have key : gn_W 20 172 0 [.ref 44, .int (nI j)] [] σ2 (fun r2 σ2 => (∃ v : Int32, some (Value.int (gb (A (6 + j) = 0))) = some (.int v) ∧ r2 = some (.int v)) ∧ Inv σ2) := by
        (repeat (first | refine gx_run 999 80 rfl ?_ | refine gx_goto rfl rfl ?_))
        refine gx_call rfl rfl rfl ?_
        refine mw_isG hM2 ?_
        rw [gb_t hg]
        (repeat (first | refine gx_run 999 80 rfl ?_ | refine gx_goto rfl rfl ?_))
        first | refine gx_ift rfl (by dsimp only [gn_cmp] <;> decide) ?_ | refine gx_ict rfl (by dsimp only [gn_cmp] <;> decide) ?_
        (repeat (first | refine gx_run 999 80 rfl ?_ | refine gx_goto rfl rfl ?_))
        refine gx_ld 18 rfl (by omega) hR2.up rfl rfl rfl ?_
        (repeat (first | refine gx_run 999 80 rfl ?_ | refine gx_goto rfl rfl ?_))
        refine gw_calls rfl rfl rfl ?_
        refine mw_has (by omega) (by omega) ?_
        rw [gb_t hu]
        (repeat (first | refine gx_run 999 80 rfl ?_ | refine gx_goto rfl rfl ?_))
        first | refine gx_ift rfl (by dsimp only [gn_cmp] <;> decide) ?_ | refine gx_ict rfl (by dsimp only [gn_cmp] <;> decide) ?_
        (repeat (first | refine gx_run 999 80 rfl ?_ | refine gx_goto rfl rfl ?_))
        refine gx_call rfl rfl rfl ?_
        refine mw_remember hP2 hR2 ?_
        intro σ3 g1 g2 g3 hP3
        have hR3 : mR (σ3 45) A := hR2.fr (fun k hk => g3 k (by omega))
        (repeat (first | refine gx_run 999 80 rfl ?_ | refine gx_goto rfl rfl ?_))
        refine gx_call rfl rfl rfl ?_
        refine mw_goToBed hR3 hN.2.2 hW hj ?_
        intro σ4 k1 k2 hR4
        (repeat (first | refine gx_run 999 80 rfl ?_ | refine gx_goto rfl rfl ?_))
        refine gx_iret rfl rfl ?_
        exact ⟨⟨_, rfl, rfl⟩, Inv.deed1 hT hN hS hP hII hE hB hX hF f1 hP1 f2 hX2 g1 g2 g3 hP3 k1 k2 hR4 (w_bed hW hN.2.2 (by omega))⟩
      by_cases hb : A (6 + j) = 0
      · rw [gb_t hb] at key ⊢
        first | refine gx_iff rfl (by dsimp only [gn_cmp] <;> decide) ?_ | refine gx_icf rfl (by dsimp only [gn_cmp] <;> decide) ?_
        (repeat (first | refine gx_run 999 80 rfl ?_ | refine gx_goto rfl rfl ?_))
        refine gx_iret rfl rfl ?_
        exact key
      · rw [gb_f hb] at key ⊢
        first | refine gx_ift rfl (by dsimp only [gn_cmp] <;> decide) ?_ | refine gx_ict rfl (by dsimp only [gn_cmp] <;> decide) ?_
        (repeat (first | refine gx_run 999 80 rfl ?_ | refine gx_goto rfl rfl ?_))
        refine gx_iret rfl rfl ?_
        exact key
    · refine gPair.q hI (-1000000003) (fun Q hQ => ?_) (fun Q hQ => ?_)
      · (repeat (first | refine gx_run 999 80 rfl ?_ | refine gx_goto rfl rfl ?_))
        rw [hd]
        refine gx_call rfl rfl rfl ?_
        refine xw_isG hT.2.2.1 ?_
        rw [gb_t hg]
        (repeat (first | refine gx_run 999 80 rfl ?_ | refine gx_goto rfl rfl ?_))
        first | refine gx_ift rfl (by dsimp only [gn_cmp] <;> decide) ?_ | refine gx_ict rfl (by dsimp only [gn_cmp] <;> decide) ?_
        (repeat (first | refine gx_run 999 80 rfl ?_ | refine gx_goto rfl rfl ?_))
        refine gx_call rfl rfl rfl ?_
        refine xw_isUp hN.1 h18 (by omega) ?_
        rw [gb_f hu]
        (repeat (first | refine gx_run 999 80 rfl ?_ | refine gx_goto rfl rfl ?_))
        first | refine gx_iff rfl (by dsimp only [gn_cmp] <;> decide) ?_ | refine gx_icf rfl (by dsimp only [gn_cmp] <;> decide) ?_
        (repeat (first | refine gx_run 999 80 rfl ?_ | refine gx_goto rfl rfl ?_))
        refine gx_iret rfl rfl ?_
        exact hQ
      · (repeat (first | refine gx_run 999 80 rfl ?_ | refine gx_goto rfl rfl ?_))
        refine gx_call rfl rfl rfl ?_
        refine mw_isG hT.2.2.2 ?_
        rw [gb_t hg]
        (repeat (first | refine gx_run 999 80 rfl ?_ | refine gx_goto rfl rfl ?_))
        first | refine gx_ift rfl (by dsimp only [gn_cmp] <;> decide) ?_ | refine gx_ict rfl (by dsimp only [gn_cmp] <;> decide) ?_
        (repeat (first | refine gx_run 999 80 rfl ?_ | refine gx_goto rfl rfl ?_))
        refine gx_ld 18 rfl (by omega) hN.2.1.up rfl rfl rfl ?_
        (repeat (first | refine gx_run 999 80 rfl ?_ | refine gx_goto rfl rfl ?_))
        refine gw_calls rfl rfl rfl ?_
        refine mw_has (by omega) (by omega) ?_
        rw [gb_f hu]
        (repeat (first | refine gx_run 999 80 rfl ?_ | refine gx_goto rfl rfl ?_))
        first | refine gx_iff rfl (by dsimp only [gn_cmp] <;> decide) ?_ | refine gx_icf rfl (by dsimp only [gn_cmp] <;> decide) ?_
        (repeat (first | refine gx_run 999 80 rfl ?_ | refine gx_goto rfl rfl ?_))
        refine gx_iret rfl rfl ?_
        exact hQ
  · refine gPair.q hI (-1000000001) (fun Q hQ => ?_) (fun Q hQ => ?_)
    · (repeat (first | refine gx_run 999 80 rfl ?_ | refine gx_goto rfl rfl ?_))
      rw [hd]
      refine gx_call rfl rfl rfl ?_
      refine xw_isG hT.2.2.1 ?_
      rw [gb_f hg]
      (repeat (first | refine gx_run 999 80 rfl ?_ | refine gx_goto rfl rfl ?_))
      first | refine gx_iff rfl (by dsimp only [gn_cmp] <;> decide) ?_ | refine gx_icf rfl (by dsimp only [gn_cmp] <;> decide) ?_
      (repeat (first | refine gx_run 999 80 rfl ?_ | refine gx_goto rfl rfl ?_))
      refine gx_iret rfl rfl ?_
      exact hQ
    · (repeat (first | refine gx_run 999 80 rfl ?_ | refine gx_goto rfl rfl ?_))
      refine gx_call rfl rfl rfl ?_
      refine mw_isG hT.2.2.2 ?_
      rw [gb_f hg]
      (repeat (first | refine gx_run 999 80 rfl ?_ | refine gx_goto rfl rfl ?_))
      first | refine gx_iff rfl (by dsimp only [gn_cmp] <;> decide) ?_ | refine gx_icf rfl (by dsimp only [gn_cmp] <;> decide) ?_
      (repeat (first | refine gx_run 999 80 rfl ?_ | refine gx_goto rfl rfl ?_))
      refine gx_iret rfl rfl ?_
      exact hQ
