/-! public deeds: say, no, share, bed -/
theorem Inv.deed {σ σ' : gn_Mem} {D : gD} {A' : gA} {c' nx' : Nat} {B' : Nat → gA} {z : Nat → Bool} {I : Nat → gA} {e : Nat} {T : Nat → Nat} {Z : Nat → Bool} {b : Nat} {G H : Nat → Nat} {n : Nat} {L : Nat → Nat} (hT : iT σ D) (hII : iI σ D z I) (hE : iE σ e T Z) (hB : iB σ D b G H) (hX : iX σ n L) (hF : iF σ) (q : ∀ o, o ≠ 4 → o ≠ 5 → o ≠ 6 → o ≠ 11 → o ≠ 44 → o ≠ 45 → σ' o = σ o) (qm : ∀ k, k ≠ 10 → σ' 44 k = σ 44 k) (qw : ∀ k, 29 ≤ k → k < 87 → σ' 45 k = σ 45 k) (hN' : iN σ' D A') (hS' : iS σ') (hP' : iP σ' D c' nx' B') : Inv σ' := by
  have qo : ∀ o, (o ≤ 3 ∨ (7 ≤ o ∧ o ≤ 10) ∨ (12 ≤ o ∧ o ≤ 43) ∨ 46 ≤ o) → σ' o = σ o := fun o ho => q o (by omega) (by omega) (by omega) (by omega) (by omega) (by omega)
  exact ⟨D, A', c', nx', B', z, I, e, T, Z, b, G, H, n, L, hT.fr (fun k => by rw [qo 0 (by omega)]) (fun o h => qo o (by omega)) (fun k h1 h2 => qm k (by omega)), hN', hS', hP', hII.fr (fun o h1 h2 => qo o (by omega)) (qm 11 (by omega)) qw, hE.fr (fun o h => qo o (by omega)) (qm 17 (by omega)), hB.fr (fun o h => qo o (by omega)) (qm 20 (by omega)), hX.fr (by rw [qo 1 (by omega)]) (fun o h => qo o (by omega)) (qm 13 (by omega)), hF.fr (by rw [qo 1 (by omega)]) (qm 14 (by omega))⟩
theorem aup_ne {A : gA} {k n j : Nat} (h : j ≠ k) : aup A k n j = A j := if_neg h
theorem aup_eq {A : gA} {k n : Nat} : aup A k n k = n := if_pos rfl
theorem w_say {D : gD} {A : gA} (hW : gW D) (h : wA2 D A) {g0 : Nat} (hg0 : g0 < dG D) (hl : A g0 < dC D g0) : wA2 D (aup A g0 (A g0 + 1)) := by
  obtain ⟨h1, h2, h3, h4, h5, h6, h7, h8, h9⟩ := h
  have hle := hW.1
  refine ⟨fun g hg => ?_, fun g hg hg6 => ?_, fun i hi => ?_, ?_, ?_, ?_, ?_, ?_, ?_⟩
  · rw [aup_ne (show 6 + g ≠ g0 by omega), aup_ne (show 12 + g ≠ g0 by omega)]
    have ha := h1 g hg
    by_cases e : g = g0
    · subst e
      rw [aup_eq]
      exact ⟨by omega, ha.2.1, ha.2.2.1, by omega⟩
    · rw [aup_ne e]
      exact ha
  · rw [aup_ne (show g ≠ g0 by omega), aup_ne (show 6 + g ≠ g0 by omega), aup_ne (show 12 + g ≠ g0 by omega)]
    exact h2 g hg hg6
  · rw [aup_ne (show 20 + i ≠ g0 by omega)]
    exact h3 i hi
  all_goals (rw [aup_ne (by omega)]; assumption)
theorem w_told {D : gD} {A : gA} (hW : gW D) (h : wA2 D A) {g0 h0 : Nat} (hg0 : g0 < dG D) (hh0 : h0 < dH D) (hs : 0 < A g0) : wA2 D (aup (aup A (6 + g0) (h0 + 1)) (12 + g0) (A g0)) := by
  obtain ⟨h1, h2, h3, h4, h5, h6, h7, h8, h9⟩ := h
  have hle := hW.1
  refine ⟨fun g hg => ?_, fun g hg hg6 => ?_, fun i hi => ?_, ?_, ?_, ?_, ?_, ?_, ?_⟩
  · rw [aup_ne (show g ≠ 12 + g0 by omega), aup_ne (show g ≠ 6 + g0 by omega), aup_ne (show 6 + g ≠ 12 + g0 by omega)]
    have ha := h1 g hg
    by_cases e : g = g0
    · subst e
      rw [aup_eq, aup_eq]
      exact ⟨ha.1, by omega, by omega, by omega⟩
    · rw [aup_ne (show 6 + g ≠ 6 + g0 by omega), aup_ne (show 12 + g ≠ 12 + g0 by omega), aup_ne (show 12 + g ≠ 6 + g0 by omega)]
      exact ha
  · rw [aup_ne (show g ≠ 12 + g0 by omega), aup_ne (show g ≠ 6 + g0 by omega), aup_ne (show 6 + g ≠ 12 + g0 by omega), aup_ne (show 6 + g ≠ 6 + g0 by omega), aup_ne (show 12 + g ≠ 12 + g0 by omega), aup_ne (show 12 + g ≠ 6 + g0 by omega)]
    exact h2 g hg hg6
  · rw [aup_ne (show 20 + i ≠ 12 + g0 by omega), aup_ne (show 20 + i ≠ 6 + g0 by omega)]
    exact h3 i hi
  all_goals (rw [aup_ne (by omega), aup_ne (by omega)]; assumption)
/-- a change of a number above 18, in its bounds -/
theorem w_one {D : gD} {A : gA} (hW : gW D) (h : wA2 D A) {k v : Nat} (hk : 18 ≤ k) (h18 : k = 18 → v < 64) (h19 : k = 19 → v < 64) (h20 : 20 ≤ k ∧ k < 24 → v ≤ 9) (h24 : k = 24 → v ≤ 999999) (h25 : k = 25 → v ≤ 999999) (h26 : k = 26 → v ≤ 90020) (h27 : k = 27 → v ≤ 90000) : wA2 D (aup A k v) := by
  obtain ⟨h1, h2, h3, h4, h5, h6, h7, h8, h9⟩ := h
  have hle := hW.1
  refine ⟨fun g hg => ?_, fun g hg hg6 => ?_, fun i hi => ?_, ?_, ?_, ?_, ?_, ?_, ?_⟩
  · rw [aup_ne (show g ≠ k by omega), aup_ne (show 6 + g ≠ k by omega), aup_ne (show 12 + g ≠ k by omega)]
    exact h1 g hg
  · rw [aup_ne (show g ≠ k by omega), aup_ne (show 6 + g ≠ k by omega), aup_ne (show 12 + g ≠ k by omega)]
    exact h2 g hg hg6
  · by_cases e : 20 + i = k
    · subst e; rw [aup_eq]; exact h20 (by omega)
    · rw [aup_ne e]
      exact h3 i hi
  · by_cases e : 18 = k
    · subst e; rw [aup_eq]; exact h18 rfl
    · rw [aup_ne e]; exact h4
  · by_cases e : 19 = k
    · subst e; rw [aup_eq]; exact h19 rfl
    · rw [aup_ne e]; exact h5
  · by_cases e : 24 = k
    · subst e; rw [aup_eq]; exact h24 rfl
    · rw [aup_ne e]; exact h6
  · by_cases e : 25 = k
    · subst e; rw [aup_eq]; exact h25 rfl
    · rw [aup_ne e]; exact h7
  · by_cases e : 26 = k
    · subst e; rw [aup_eq]; exact h26 rfl
    · rw [aup_ne e]; exact h8
  · by_cases e : 27 = k
    · subst e; rw [aup_eq]; exact h27 rfl
    · rw [aup_ne e]; exact h9
theorem w_no {D : gD} {A : gA} (hW : gW D) (h : wA2 D A) {g0 h0 : Nat} (hg0 : g0 < dG D) (hh0 : h0 < dH D) (hs : 0 < A g0) : wA2 D (aNo D A h0 g0) := by
  have hh := hW.2.1
  have h3 := h.2.2.1 h0 (by omega)
  unfold aNo
  refine w_one hW (w_one hW (w_told hW h hg0 hh0 hs) ?_ ?_ ?_ ?_ ?_ ?_ ?_ ?_) ?_ ?_ ?_ ?_ ?_ ?_ ?_ ?_ <;> first | omega | (intro _; omega)
theorem w_sh {D : gD} {A : gA} (hW : gW D) (h : wA2 D A) {g0 h0 : Nat} (hg0 : g0 < dG D) (hh0 : h0 < dH D) (hs : 0 < A g0) : wA2 D (aSh D A h0 g0) := by
  unfold aSh
  refine w_one hW (w_told hW h hg0 hh0 hs) ?_ ?_ ?_ ?_ ?_ ?_ ?_ ?_ <;> first | omega | (intro _; omega)
theorem w_bed {D : gD} {A : gA} (hW : gW D) (h : wA2 D A) {g : Nat} (hg : g < 6) : wA2 D (aBed A g) := by
  have h1 := clr_lt (g := g) h.2.2.2.1
  have h2 : A 19 ||| 2 ^ g < 64 := Nat.or_lt_two_pow (n := 6) h.2.2.2.2.1 (Nat.pow_lt_pow_right (by omega) hg)
  have hu : wA2 D (aup A 18 (clr (A 18) g)) := by
    refine w_one hW h ?_ ?_ ?_ ?_ ?_ ?_ ?_ ?_ <;> first | omega | (intro _; omega)
  unfold aBed
  split
  · refine w_one hW (w_one hW hu ?_ ?_ ?_ ?_ ?_ ?_ ?_ ?_) ?_ ?_ ?_ ?_ ?_ ?_ ?_ ?_ <;> first | omega | (intro _; omega)
  · exact hu
/-- the reference, remembered: its evening is the same -/
theorem gM_rem {σ σ' : gn_Mem} {D : gD} (h : gM σ D) (f1 : ∀ o, o ≠ 44 → o ≠ 45 → σ' o = σ o) (f2 : ∀ k, k ≠ 10 → σ' 44 k = σ 44 k) : gM σ' D := gM_fr h (fun k hk => f2 k (by omega)) (fun o a b => f1 o (by omega) (by omega))
theorem p_say {σ : gn_Mem} (hI : Inv σ) (g : Int32) : gPair 99 164 [.int g] σ := by
  obtain ⟨D, A, c, nx, B, z, I, e, T, Z, b, G, H, n, L, hT, hN, hS, hP, hII, hE, hB, hX, hF⟩ := id hI
  have hd := hT.1
  have hle := hT.2.2.1.1.1
  have hW := hT.2.2.1.1
  by_cases hg : ¬ g < 0 ∧ ¬ nI (dG D) ≤ g
  · obtain ⟨j, hj, rfl⟩ := in_of (by omega) hg
    have hc := hW.2.2.2.2.1 j hj
    have ha := hN.2.2.1 j hj
    have h18 := hN.2.2.2.2.2.1
    have kx : ∀ Q : Option Value → gn_Mem → Prop, gn_W 20 99 8 [.ref 0, .int (nI j)] [.int 1] σ Q → gn_W 20 99 0 [.ref 0, .int (nI j)] [] σ Q := by
      intro Q hQ
      (repeat (first | refine gx_run 999 80 rfl ?_ | refine gx_goto rfl rfl ?_))
      rw [hd]
      refine gx_call rfl rfl rfl ?_
      refine xw_isG hT.2.2.1 ?_
      rw [gb_t hg]
      exact hQ
    have km : ∀ (σ1 : gn_Mem) (Q : Option Value → gn_Mem → Prop), gM σ1 D → gn_W 20 164 5 [.ref 44, .int (nI j)] [.int 1] σ1 Q → gn_W 20 164 0 [.ref 44, .int (nI j)] [] σ1 Q := by
      intro σ1 Q hM hQ
      (repeat (first | refine gx_run 999 80 rfl ?_ | refine gx_goto rfl rfl ?_))
      refine gx_call rfl rfl rfl ?_
      refine mw_isG hM ?_
      rw [gb_t hg]
      exact hQ
    by_cases ho : (A 18).testBit j = true ∧ A j < dC D j
    · unfold gPair
      refine kx _ ?_
      (repeat (first | refine gx_run 999 80 rfl ?_ | refine gx_goto rfl rfl ?_))
      first | refine gx_ift rfl (by dsimp only [gn_cmp] <;> decide) ?_ | refine gx_ict rfl (by dsimp only [gn_cmp] <;> decide) ?_
      (repeat (first | refine gx_run 999 80 rfl ?_ | refine gx_goto rfl rfl ?_))
      rw [hd]
      refine gx_call rfl rfl rfl ?_
      refine xw_canSpeak hT.2.2.1 hN.1 hN.2.2 hj ?_
      rw [gb_t ho]
      (repeat (first | refine gx_run 999 80 rfl ?_ | refine gx_goto rfl rfl ?_))
      first | refine gx_ift rfl (by dsimp only [gn_cmp] <;> decide) ?_ | refine gx_ict rfl (by dsimp only [gn_cmp] <;> decide) ?_
      (repeat (first | refine gx_run 999 80 rfl ?_ | refine gx_goto rfl rfl ?_))
      refine gx_call rfl rfl rfl ?_
      refine xw_remember hP.x hN.1 ?_
      intro σ1 f1 hP1
      (repeat (first | refine gx_run 999 80 rfl ?_ | refine gx_goto rfl rfl ?_))
      refine gx_call rfl rfl rfl ?_
      refine xw_speak (A := A) (by rw [f1 4 (by omega) (by omega)]; exact hN.1) (by omega) ?_
      intro σ2 f2 hX2
      (repeat (first | refine gx_run 999 80 rfl ?_ | refine gx_goto rfl rfl ?_))
      refine gx_iret rfl rfl ?_
      have hM2 : gM σ2 D := gM_fr hT.2.2.2 (fun k _ => by rw [f2 44 (by omega), f1 44 (by omega) (by omega)]) (fun o a b => by rw [f2 o (by omega), f1 o (by omega) (by omega)])
      have w2 : ∀ k, σ2 45 k = σ 45 k := fun k => by rw [f2 45 (by omega), f1 45 (by omega) (by omega)]
      have hR2 : mR (σ2 45) A := hN.2.1.fr (fun k _ => w2 k)
      have hP2 : mP σ2 c B := hP.m.fr (by rw [f2 44 (by omega), f1 44 (by omega) (by omega)]) (fun k _ => w2 k)
      refine km σ2 _ hM2 ?_
      (repeat (first | refine gx_run 999 80 rfl ?_ | refine gx_goto rfl rfl ?_))
      first | refine gx_ift rfl (by dsimp only [gn_cmp] <;> decide) ?_ | refine gx_ict rfl (by dsimp only [gn_cmp] <;> decide) ?_
      (repeat (first | refine gx_run 999 80 rfl ?_ | refine gx_goto rfl rfl ?_))
      refine gx_ld 18 rfl (by omega) hR2.up rfl rfl rfl ?_
      (repeat (first | refine gx_run 999 80 rfl ?_ | refine gx_goto rfl rfl ?_))
      refine gw_calls rfl rfl rfl ?_
      refine mw_has (by omega) (by omega) ?_
      rw [gb_t ho.1]
      (repeat (first | refine gx_run 999 80 rfl ?_ | refine gx_goto rfl rfl ?_))
      first | refine gx_iff rfl (by dsimp only [gn_cmp] <;> decide) ?_ | refine gx_icf rfl (by dsimp only [gn_cmp] <;> decide) ?_
      (repeat (first | refine gx_run 999 80 rfl ?_ | refine gx_goto rfl rfl ?_))
      refine gx_ld j rfl (by omega) (hR2.said (by omega)) rfl rfl rfl ?_
      (repeat (first | refine gx_run 999 80 rfl ?_ | refine gx_goto rfl rfl ?_))
      refine gx_ld j rfl (by omega) (hM2.2.2.2.2.2.1 j hj).2 rfl rfl rfl ?_
      first | refine gx_ift rfl (fun q => absurd ((nI_eq (by omega) (by omega)).mp q) (by omega)) ?_ | refine gx_ict rfl (fun q => absurd ((nI_eq (by omega) (by omega)).mp q) (by omega)) ?_
      (repeat (first | refine gx_run 999 80 rfl ?_ | refine gx_goto rfl rfl ?_))
      refine gx_call rfl rfl rfl ?_
      refine mw_remember hP2 hR2 ?_
      intro σ3 g1 g2 g3 hP3
      have hR3 : mR (σ3 45) A := hR2.fr (fun k hk => g3 k (by omega))
      (repeat (first | refine gx_run 999 80 rfl ?_ | refine gx_goto rfl rfl ?_))
      refine gx_ld j rfl (by omega) (hR3.said (by omega)) rfl rfl rfl ?_
      (repeat (first | refine gx_run 999 80 rfl ?_ | refine gx_goto rfl rfl ?_))
      rw [nI_1]
      refine gx_st j rfl (by omega) rfl rfl rfl ?_
      (repeat (first | refine gx_run 999 80 rfl ?_ | refine gx_goto rfl rfl ?_))
      refine gx_ld j rfl (by omega) gu_s rfl rfl rfl ?_
      (repeat (first | refine gx_run 999 80 rfl ?_ | refine gx_goto rfl rfl ?_))
      refine gx_iret rfl rfl ?_
      rw [nI_pred]
      refine ⟨⟨_, rfl, rfl⟩, ?_⟩
      generalize h4 : gn_up σ3 45 j (nI (A j + 1)) = σ4
      have k1 : ∀ o, o ≠ 45 → σ4 o = σ3 o := fun o ho => by rw [← h4, gu_o ho]
      have k2 : ∀ k, k ≠ j → σ4 45 k = σ3 45 k := fun k hk => by rw [← h4, gu_k (Or.inr hk)]
      have all : ∀ o, o ≠ 4 → o ≠ 5 → o ≠ 6 → o ≠ 44 → o ≠ 45 → σ4 o = σ o := fun o a1 a2 a3 a4 a5 => by rw [k1 o a5, g1 o a4 a5, f2 o a1, f1 o a2 a3]
      refine Inv.deed (A' := aup A j (A j + 1)) (c' := min 30 (c + 1)) (nx' := (nx + 1) % 30) (B' := bP c A B) hT hII hE hB hX hF (fun o a1 a2 a3 _ a4 a5 => all o a1 a2 a3 a4 a5) (fun k hk => by rw [k1 44 (by omega), g2 k hk, f2 44 (by omega), f1 44 (by omega) (by omega)]) (fun k h1 h2 => by rw [k2 k (by omega), g3 k h2, w2 k]) ⟨?_, ?_, w_say hW hN.2.2 hj ho.2⟩ (hS.fr (by rw [all 11 (by omega) (by omega) (by omega) (by omega) (by omega)]) (by rw [k2 28 (by omega), g3 28 (by omega), w2 28])) (iP.mk' ?_ ?_ (bP_w hP.1 hN.2.2 (fun i hi => (hP.2.2.2.2.2 i hi).1)))
      · rw [k1 4 (by omega), g1 4 (by omega) (by omega)]
        exact hX2
      · rw [← h4, gn_up_eq]
        exact hR3.upd (by rw [vv_a (by omega)])
      · exact hP1.fr (by rw [k1 5 (by omega), g1 5 (by omega) (by omega), f2 5 (by omega)]) (by rw [k1 6 (by omega), g1 6 (by omega) (by omega), f2 6 (by omega)])
      · exact hP3.fr (by rw [k1 44 (by omega)]) (fun k hk => k2 k (by omega))
    · refine gPair.q hI (-1000000003) (fun Q hQ => ?_) (fun Q hQ => ?_)
      · refine kx _ ?_
        (repeat (first | refine gx_run 999 80 rfl ?_ | refine gx_goto rfl rfl ?_))
        first | refine gx_ift rfl (by dsimp only [gn_cmp] <;> decide) ?_ | refine gx_ict rfl (by dsimp only [gn_cmp] <;> decide) ?_
        (repeat (first | refine gx_run 999 80 rfl ?_ | refine gx_goto rfl rfl ?_))
        rw [hd]
        refine gx_call rfl rfl rfl ?_
        refine xw_canSpeak hT.2.2.1 hN.1 hN.2.2 hj ?_
        rw [gb_f ho]
        (repeat (first | refine gx_run 999 80 rfl ?_ | refine gx_goto rfl rfl ?_))
        first | refine gx_iff rfl (by dsimp only [gn_cmp] <;> decide) ?_ | refine gx_icf rfl (by dsimp only [gn_cmp] <;> decide) ?_
        (repeat (first | refine gx_run 999 80 rfl ?_ | refine gx_goto rfl rfl ?_))
        refine gx_iret rfl rfl ?_
        exact hQ
      · refine km σ _ hT.2.2.2 ?_
        (repeat (first | refine gx_run 999 80 rfl ?_ | refine gx_goto rfl rfl ?_))
        first | refine gx_ift rfl (by dsimp only [gn_cmp] <;> decide) ?_ | refine gx_ict rfl (by dsimp only [gn_cmp] <;> decide) ?_
        (repeat (first | refine gx_run 999 80 rfl ?_ | refine gx_goto rfl rfl ?_))
        refine gx_ld 18 rfl (by omega) hN.2.1.up rfl rfl rfl ?_
        (repeat (first | refine gx_run 999 80 rfl ?_ | refine gx_goto rfl rfl ?_))
        refine gw_calls rfl rfl rfl ?_
        refine mw_has (by omega) (by omega) ?_
        by_cases hu : (A 18).testBit j = true
        · rw [gb_t hu]
          (repeat (first | refine gx_run 999 80 rfl ?_ | refine gx_goto rfl rfl ?_))
          first | refine gx_iff rfl (by dsimp only [gn_cmp] <;> decide) ?_ | refine gx_icf rfl (by dsimp only [gn_cmp] <;> decide) ?_
          (repeat (first | refine gx_run 999 80 rfl ?_ | refine gx_goto rfl rfl ?_))
          refine gx_ld j rfl (by omega) (hN.2.1.said (by omega)) rfl rfl rfl ?_
          (repeat (first | refine gx_run 999 80 rfl ?_ | refine gx_goto rfl rfl ?_))
          refine gx_ld j rfl (by omega) (hT.2.2.2.2.2.2.2.2.1 j hj).2 rfl rfl rfl ?_
          have he2 : A j = dC D j := by
            rcases Nat.lt_or_ge (A j) (dC D j) with q | q
            · exact absurd ⟨hu, q⟩ ho
            · omega
          first | refine gx_iff rfl (fun q => q (by rw [he2])) ?_ | refine gx_icf rfl (fun q => q (by rw [he2])) ?_
          (repeat (first | refine gx_run 999 80 rfl ?_ | refine gx_goto rfl rfl ?_))
          refine gx_iret rfl rfl ?_
          exact hQ
        · rw [gb_f hu]
          (repeat (first | refine gx_run 999 80 rfl ?_ | refine gx_goto rfl rfl ?_))
          first | refine gx_ift rfl (by dsimp only [gn_cmp] <;> decide) ?_ | refine gx_ict rfl (by dsimp only [gn_cmp] <;> decide) ?_
          (repeat (first | refine gx_run 999 80 rfl ?_ | refine gx_goto rfl rfl ?_))
          refine gx_iret rfl rfl ?_
          exact hQ
  · refine gPair.q hI (-1000000001) (fun Q hQ => ?_) (fun Q hQ => ?_)
    · (repeat (first | refine gx_run 999 80 rfl ?_ | refine gx_goto rfl rfl ?_))
      rw [hd]
      refine gx_call rfl rfl rfl ?_
      refine xw_isG hT.2.2.1 ?_
      rw [gb_f hg]
      (repeat (first | refine gx_run 999 80 rfl ?_ | refine gx_goto rfl rfl ?_))
      first | refine gx_iff rfl (by dsimp only [gn_cmp] <;> decide) ?_ | refine gx_icf rfl (by dsimp only [gn_cmp] <;> decide) ?_
      (repeat (first | refine gx_run 999 80 rfl ?_ | refine gx_goto rfl rfl ?_))
      refine gx_iret rfl rfl ?_
      exact hQ
    · (repeat (first | refine gx_run 999 80 rfl ?_ | refine gx_goto rfl rfl ?_))
      refine gx_call rfl rfl rfl ?_
      refine mw_isG hT.2.2.2 ?_
      rw [gb_f hg]
      (repeat (first | refine gx_run 999 80 rfl ?_ | refine gx_goto rfl rfl ?_))
      first | refine gx_iff rfl (by dsimp only [gn_cmp] <;> decide) ?_ | refine gx_icf rfl (by dsimp only [gn_cmp] <;> decide) ?_
      (repeat (first | refine gx_run 999 80 rfl ?_ | refine gx_goto rfl rfl ?_))
      refine gx_iret rfl rfl ?_
      exact hQ
