/-! the reference's clauses -/
theorem lsw3 (x : Int) : Op.lookupswitch.offset [(103, 43), (104, 51), (116, 35)] 59 x = if x = 103 then 43 else if x = 104 then 51 else if x = 116 then 35 else 59 := by
  by_cases h1 : x = 103
  · subst h1; simp [Op.lookupswitch.offset]
  · by_cases h2 : x = 104
    · subst h2; simp [Op.lookupswitch.offset]
    · by_cases h3 : x = 116
      · subst h3; simp [Op.lookupswitch.offset]
      · simp [Op.lookupswitch.offset, h1, h2, h3]
        try omega
section
variable {d n : Nat} {L : Nat → Nat} {σ : gn_Mem} {Q : Option Value → gn_Mem → Prop} {D : gD} {F : Option (Nat × Nat)}
theorem mBx.tru {σ' : gn_Mem} {v : Nat} (hB : mBx σ D (dG D)) (f : ∀ o, 56 ≤ o → o ≤ 60 → σ' o = σ o) (e0 : σ' 44 24 = 1) (e1 : σ' 44 25 = nI v) (e2 : σ' 44 26 = σ 44 26) (e3 : σ' 44 27 = σ 44 27) : mBx σ' (dTru D v) (dG (dTru D v)) := by
  obtain ⟨b1, b2, b3, b4, b5, b6, b7⟩ := hB
  refine ⟨by rw [aT_E, e0]; rfl, by rw [aT_F, e1], by rw [aT_G, e2]; exact b3, by rw [aT_H, e3]; exact b4, fun g hg => ?_, fun g k hg hk => ?_, fun h hh => ?_⟩
  · rw [aT_G] at hg
    rw [aT_P, aT_C, f 56 (by omega) (by omega), f 58 (by omega) (by omega)]
    exact b5 g hg
  · rw [aT_G] at hg
    rw [aT_C] at hk
    rw [aT_T, aT_B, f 57 (by omega) (by omega)]
    exact b6 g k hg hk
  · rw [aT_H] at hh
    rw [aT_K, aT_N, f 59 (by omega) (by omega), f 60 (by omega) (by omega)]
    exact b7 h hh
theorem mw_readFacts {p a : Nat} {R : rE (Nat × gD)} (hS : mS σ n L a none) (hp : p ≤ n) (hB : mBx σ D (dG D)) (hE : dE D ≤ 1) (hR : R = if dE D = 0 then bnd (numS L n 255 a) (fun y => endS L n y.2 (dTru D y.1)) else .inl (3, p)) (hQ1 : ∀ (σ' : gn_Mem) (a' : Nat) (D' : gD), fC σ σ' → mS σ' n L a' none → mBx σ' D' (dG D') → R = endS L n a' D' → Q none σ') (hQ2 : ∀ (σ' : gn_Mem) (e : Nat × Nat), fC σ σ' → mS σ' n L 0 (some e) → R = .inl e → Q none σ') : gn_W (d + 3) 140 0 [.ref 44, .int (nI p)] [] σ Q := by
  (repeat (first | refine gx_run 999 80 rfl ?_ | refine gx_goto rfl rfl ?_))
  rw [hB.1]
  by_cases h0 : dE D = 0
  · rw [if_pos h0] at hR
    rw [h0]
    first | refine gx_ift rfl (by dsimp only [gn_cmp] <;> decide) ?_ | refine gx_ict rfl (by dsimp only [gn_cmp] <;> decide) ?_
    (repeat (first | refine gx_run 999 80 rfl ?_ | refine gx_goto rfl rfl ?_))
    refine gx_call rfl rfl rfl ?_
    refine mw_number (hi := 255) (by omega) hS ?_ ?_
    · intro σ1 v q hn f1 hS1
      rw [hn] at hR
      (repeat (first | refine gx_run 999 80 rfl ?_ | refine gx_goto rfl rfl ?_))
      refine gw_putb rfl rfl rfl (Or.inr rfl) ?_
      (repeat (first | refine gx_run 999 80 rfl ?_ | refine gx_goto rfl rfl ?_))
      refine gw_vret rfl ?_
      refine hQ1 _ q (dTru D v) ((f1.C.tr (fC.up (by decide))).tr (fC.up (by decide))) (hS1.o ((fC.up (by decide)).tr (fC.up (by decide))) ?_ ?_ ?_) (hB.tru (fun o h1 h2 => ?_) gu_s ?_ ?_ ?_) hR
      · rw [gu_k (Or.inr (by decide)), gu_k (Or.inr (by decide))]
      · rw [gu_k (Or.inr (by decide)), gu_k (Or.inr (by decide))]
      · rw [gu_k (Or.inr (by decide)), gu_k (Or.inr (by decide))]
      · rw [gu_o (by omega), gu_o (by omega), f1.1 o (by omega)]
      · rw [gu_k (Or.inr (by decide)), gu_s]
      · rw [gu_k (Or.inr (by decide)), gu_k (Or.inr (by decide)), f1.2 26 (by omega) (by omega) (by omega)]
      · rw [gu_k (Or.inr (by decide)), gu_k (Or.inr (by decide)), f1.2 27 (by omega) (by omega) (by omega)]
    · intro σ1 e x hn f1 hS1
      rw [hn] at hR
      (repeat (first | refine gx_run 999 80 rfl ?_ | refine gx_goto rfl rfl ?_))
      refine gw_putb rfl rfl rfl (Or.inr rfl) ?_
      (repeat (first | refine gx_run 999 80 rfl ?_ | refine gx_goto rfl rfl ?_))
      refine gw_vret rfl ?_
      refine hQ2 _ e ((f1.C.tr (fC.up (by decide))).tr (fC.up (by decide))) (hS1.z ((fC.up (by decide)).tr (fC.up (by decide))) ?_ ?_) hR
      · rw [gu_k (Or.inr (by decide)), gu_k (Or.inr (by decide))]
      · rw [gu_k (Or.inr (by decide)), gu_k (Or.inr (by decide))]
  · rw [if_neg h0] at hR
    first | refine gx_iff rfl (nI_ne0 (by omega) (by omega)) ?_ | refine gx_icf rfl (nI_ne0 (by omega) (by omega)) ?_
    (repeat (first | refine gx_run 999 80 rfl ?_ | refine gx_goto rfl rfl ?_))
    refine gx_call rfl rfl rfl ?_
    refine mw_wrong (x := 3) hS ⟨by omega, by omega⟩ hp ?_
    intro σ1 f1 hS1
    (repeat (first | refine gx_run 999 80 rfl ?_ | refine gx_goto rfl rfl ?_))
    refine gw_vret rfl ?_
    exact hQ2 σ1 _ f1.C hS1 hR
theorem mw_readHost {p a : Nat} {R : rE (Nat × gD)} (hS : mS σ n L a none) (hp : p ≤ n) (hB : mBx σ D (dG D)) (hH : dH D ≤ 4) (hR : R = if dH D < 4 then bnd (numS L n 3 a) (fun y => bnd (numS L n 9 y.2) (fun u => endS L n u.2 (dAddH D y.1 u.1))) else .inl (3, p)) (hQ1 : ∀ (σ' : gn_Mem) (a' : Nat) (D' : gD), fC σ σ' → mS σ' n L a' none → mBx σ' D' (dG D') → R = endS L n a' D' → Q none σ') (hQ2 : ∀ (σ' : gn_Mem) (e : Nat × Nat), fC σ σ' → mS σ' n L 0 (some e) → R = .inl e → Q none σ') : gn_W (d + 3) 142 0 [.ref 44, .int (nI p)] [] σ Q := by
  obtain ⟨b1, b2, b3, b4, b5, b6, b7⟩ := id hB
  (repeat (first | refine gx_run 999 80 rfl ?_ | refine gx_goto rfl rfl ?_))
  rw [b4]
  by_cases h4 : dH D < 4
  · rw [if_pos h4] at hR
    first | refine gx_ift rfl (fun z => absurd ((nI_eq (b := 4) (by omega) (by omega)).mp z) (by omega)) ?_ | refine gx_ict rfl (fun z => absurd ((nI_eq (b := 4) (by omega) (by omega)).mp z) (by omega)) ?_
    (repeat (first | refine gx_run 999 80 rfl ?_ | refine gx_goto rfl rfl ?_))
    rw [b4]
    refine gx_call rfl rfl rfl ?_
    refine mw_number (hi := 3) (by omega) hS ?_ ?_
    · intro σ1 v q hn f1 hS1
      rw [hn] at hR
      have hR : R = bnd (numS L n 9 q) (fun u => endS L n u.2 (dAddH D v u.1)) := hR
      (repeat (first | refine gx_run 999 80 rfl ?_ | refine gx_goto rfl rfl ?_))
      refine gx_st (dH D) rfl (by omega) rfl rfl rfl ?_
      (repeat (first | refine gx_run 999 80 rfl ?_ | refine gx_goto rfl rfl ?_))
      rw [show gn_up σ1 59 (dH D) (nI v) 44 27 = nI (dH D) by rw [gu_k (Or.inl (by decide)), f1.2 27 (by omega) (by omega) (by omega)]; exact b4]
      have hS2 : mS (gn_up σ1 59 (dH D) (nI v)) n L q none := hS1.o (fC.ar (by decide)) (gu_k (by omega)) (gu_k (by omega)) (gu_k (by omega))
      refine gx_call rfl rfl rfl ?_
      refine mw_number (hi := 9) (by omega) hS2 ?_ ?_
      · intro σ2 u q2 hn2 f2 hS3
        rw [hn2] at hR
        have hR : R = endS L n q2 (dAddH D v u) := hR
        (repeat (first | refine gx_run 999 80 rfl ?_ | refine gx_goto rfl rfl ?_))
        refine gx_st (dH D) rfl (by omega) rfl rfl rfl ?_
        (repeat (first | refine gx_run 999 80 rfl ?_ | refine gx_goto rfl rfl ?_))
        rw [show gn_up σ2 60 (dH D) (nI u) 44 27 = nI (dH D) by rw [gu_k (Or.inl (by decide)), f2.2 27 (by omega) (by omega) (by omega), gu_k (Or.inl (by decide)), f1.2 27 (by omega) (by omega) (by omega)]; exact b4, nI_1]
        refine gw_vret rfl ?_
        generalize hσ : gn_up (gn_up σ2 60 (dH D) (nI u)) 44 27 (nI (dH D + 1)) = σ3
        have fc : fC σ2 σ3 := by rw [← hσ]; exact (fC.ar (by decide)).tr (fC.up (by decide))
        have g44 : ∀ k, k ≠ 27 → σ3 44 k = σ2 44 k := fun k hk => by rw [← hσ, gu_k (Or.inr hk), gu_k (by omega)]
        have k44 : ∀ k, 24 ≤ k → k ≤ 26 → σ3 44 k = σ 44 k := fun k h1 h2 => by rw [g44 k (by omega), f2.2 k (by omega) (by omega) (by omega), gu_k (by omega), f1.2 k (by omega) (by omega) (by omega)]
        have ar : ∀ o, 56 ≤ o → o ≤ 58 → σ3 o = σ o := fun o h1 h2 => by rw [← hσ, gu_o (by omega), gu_o (by omega), f2.1 o (by omega), gu_o (Nat.ne_of_lt (Nat.lt_of_le_of_lt h2 (by decide))), f1.1 o (by omega)]
        have a59 : ∀ j, σ3 59 j = if j = dH D then nI v else σ 59 j := fun j => by
          rw [← hσ, gu_k (by omega), gu_k (by omega), f2.1 59 (by omega)]
          by_cases e : j = dH D
          · rw [if_pos e, e, gu_s]
          · rw [if_neg e, gu_k (Or.inr e), f1.1 59 (by omega)]
        have a60 : ∀ j, σ3 60 j = if j = dH D then nI u else σ 60 j := fun j => by
          rw [← hσ, gu_k (by omega)]
          by_cases e : j = dH D
          · rw [if_pos e, e, gu_s]
          · rw [if_neg e, gu_k (Or.inr e), f2.1 60 (by omega), gu_k (by omega), f1.1 60 (by omega)]
        refine hQ1 σ3 q2 (dAddH D v u) (((f1.C.tr (fC.ar (by decide))).tr f2.C).tr fc) (hS3.o fc (g44 21 (by omega)) (g44 22 (by omega)) (g44 23 (by omega))) ⟨?_, ?_, ?_, ?_, fun g hg => ?_, fun g k hg hk => ?_, fun h hh => ?_⟩ hR
        · rw [aH_E, k44 24 (by omega) (by omega)]; exact b1
        · rw [aH_F, k44 25 (by omega) (by omega)]; exact b2
        · rw [aH_G, k44 26 (by omega) (by omega)]; exact b3
        · rw [aH_H, ← hσ, gu_s]
        · rw [aH_G] at hg
          rw [aH_P, aH_C, ar 56 (by omega) (by omega), ar 58 (by omega) (by omega)]; exact b5 g hg
        · rw [aH_G] at hg
          rw [aH_C] at hk
          rw [aH_T, aH_B, ar 57 (by omega) (by omega)]; exact b6 g k hg hk
        · rw [aH_H] at hh
          rw [aH_K, aH_N, a59, a60]
          by_cases e : h = dH D
          · rw [if_pos e, if_pos e, if_pos e, if_pos e]; exact ⟨rfl, rfl⟩
          · rw [if_neg e, if_neg e, if_neg e, if_neg e]; exact b7 h (by omega)
      · intro σ2 e x hn2 f2 hS3
        rw [hn2] at hR
        (repeat (first | refine gx_run 999 80 rfl ?_ | refine gx_goto rfl rfl ?_))
        refine gx_st (dH D) rfl (by omega) rfl rfl rfl ?_
        (repeat (first | refine gx_run 999 80 rfl ?_ | refine gx_goto rfl rfl ?_))
        refine gw_vret rfl ?_
        refine hQ2 _ e (((f1.C.tr (fC.ar (by decide))).tr f2.C).tr ((fC.ar (by decide)).tr (fC.up (by decide)))) (hS3.z ((fC.ar (by decide)).tr (fC.up (by decide))) ?_ ?_) hR
        · rw [gu_k (Or.inr (by decide)), gu_k (Or.inl (by decide))]
        · rw [gu_k (Or.inr (by decide)), gu_k (Or.inl (by decide))]
    · intro σ1 e x hn f1 hS1
      rw [hn] at hR
      (repeat (first | refine gx_run 999 80 rfl ?_ | refine gx_goto rfl rfl ?_))
      refine gx_st (dH D) rfl (by omega) rfl rfl rfl ?_
      (repeat (first | refine gx_run 999 80 rfl ?_ | refine gx_goto rfl rfl ?_))
      rw [show gn_up σ1 59 (dH D) x 44 27 = nI (dH D) by rw [gu_k (Or.inl (by decide)), f1.2 27 (by omega) (by omega) (by omega)]; exact b4]
      have hS2 : mS (gn_up σ1 59 (dH D) x) n L 0 (some e) := hS1.z (fC.ar (by decide)) (gu_k (by omega)) (gu_k (by omega))
      refine gx_call rfl rfl rfl ?_
      refine mw_numberF hS2 ?_
      (repeat (first | refine gx_run 999 80 rfl ?_ | refine gx_goto rfl rfl ?_))
      refine gx_st (dH D) rfl (by omega) rfl rfl rfl ?_
      (repeat (first | refine gx_run 999 80 rfl ?_ | refine gx_goto rfl rfl ?_))
      refine gw_vret rfl ?_
      refine hQ2 _ e ((f1.C.tr (fC.ar (by decide))).tr ((fC.ar (by decide)).tr (fC.up (by decide)))) (hS2.z ((fC.ar (by decide)).tr (fC.up (by decide))) ?_ ?_) hR
      · rw [gu_k (Or.inr (by decide)), gu_k (Or.inl (by decide))]
      · rw [gu_k (Or.inr (by decide)), gu_k (Or.inl (by decide))]
  · rw [if_neg h4] at hR
    first | refine gx_iff rfl (fun z => z (by rw [show dH D = 4 by omega]; rfl)) ?_ | refine gx_icf rfl (fun z => z (by rw [show dH D = 4 by omega]; rfl)) ?_
    (repeat (first | refine gx_run 999 80 rfl ?_ | refine gx_goto rfl rfl ?_))
    refine gx_call rfl rfl rfl ?_
    refine mw_wrong (x := 3) hS ⟨by omega, by omega⟩ hp ?_
    intro σ1 f1 hS1
    (repeat (first | refine gx_run 999 80 rfl ?_ | refine gx_goto rfl rfl ?_))
    refine gw_vret rfl ?_
    exact hQ2 σ1 _ f1.C hS1 hR
/-- behind a fault: the rest of a guest's claim, from the number on -/
theorem mw_gF {a g k : Nat} {e : Nat × Nat} {p : Int32} {x : Int32} {σ0 : gn_Mem} (hS : mS σ n L a (some e)) (hg : g < 6) (hk : k < 6) (h58 : σ 58 g = nI k) (f0 : fC σ0 σ) (hQ : ∀ σ' : gn_Mem, fC σ0 σ' → mS σ' n L 0 (some e) → Q none σ') : gn_W (d + 1) 141 67 [.ref 44, .int p, .int (nI g), .int 1] [.int x, .int (nI (6 * g + k)), .ref 57] σ Q := by
  refine gx_st (6 * g + k) rfl (by omega) rfl rfl rfl ?_
  (repeat (first | refine gx_run 999 80 rfl ?_ | refine gx_goto rfl rfl ?_))
  refine gx_ld g rfl (by omega) (show gn_up σ 57 (6 * g + k) x 58 g = nI k by rw [gu_k (Or.inl (by decide))]; exact h58) rfl rfl rfl ?_
  (repeat (first | refine gx_run 999 80 rfl ?_ | refine gx_goto rfl rfl ?_))
  rw [nI_1]
  refine gx_st g rfl (by omega) rfl rfl rfl ?_
  have hS1 : mS (gn_up (gn_up σ 57 (6 * g + k) x) 58 g (nI (k + 1))) n L 0 (some e) := hS.z ((fC.ar (by decide)).tr (fC.ar (by decide))) (by rw [gu_k (by omega), gu_k (by omega)]) (by rw [gu_k (by omega), gu_k (by omega)])
  (repeat (first | refine gx_run 999 80 rfl ?_ | refine gx_goto rfl rfl ?_))
  refine gx_call rfl rfl rfl ?_
  refine mw_fine hS1 ?_
  rw [gb_f (fun z => by cases z)]
  (repeat (first | refine gx_run 999 80 rfl ?_ | refine gx_goto rfl rfl ?_))
  first | refine gx_ift rfl (by dsimp only [gn_cmp] <;> decide) ?_ | refine gx_ict rfl (by dsimp only [gn_cmp] <;> decide) ?_
  (repeat (first | refine gx_run 999 80 rfl ?_ | refine gx_goto rfl rfl ?_))
  first | refine gx_ift rfl (by dsimp only [gn_cmp] <;> decide) ?_ | refine gx_ict rfl (by dsimp only [gn_cmp] <;> decide) ?_
  (repeat (first | refine gx_run 999 80 rfl ?_ | refine gx_goto rfl rfl ?_))
  first | refine gx_ift rfl (by dsimp only [gn_cmp] <;> decide) ?_ | refine gx_ict rfl (by dsimp only [gn_cmp] <;> decide) ?_
  (repeat (first | refine gx_run 999 80 rfl ?_ | refine gx_goto rfl rfl ?_))
  refine gw_goto rfl ?_
  (repeat (first | refine gx_run 999 80 rfl ?_ | refine gx_goto rfl rfl ?_))
  first | refine gx_ift rfl (by dsimp only [gn_cmp] <;> decide) ?_ | refine gx_ict rfl (by dsimp only [gn_cmp] <;> decide) ?_
  (repeat (first | refine gx_run 999 80 rfl ?_ | refine gx_goto rfl rfl ?_))
  refine gw_vret rfl ?_
  refine hQ _ (f0.tr (((fC.ar (by decide)).tr (fC.ar (by decide))).tr ((fC.up (by decide)).tr (fC.up (by decide))))) (hS1.z ((fC.up (by decide)).tr (fC.up (by decide))) ?_ ?_)
  · rw [gu_k (Or.inr (by decide)), gu_k (Or.inr (by decide))]
  · rw [gu_k (Or.inr (by decide)), gu_k (Or.inr (by decide))]
theorem endS_hr {a : Nat} (ha : a ≤ n) : endS L n (hr L n a) D = endS L n a D := by
  unfold endS
  rw [hr_hr ha]
/-- the loop over a guest's claims -/
theorem mw_claimsL {σ0 : gn_Mem} {p : Int32} {R : rE (Nat × gD)} (hQ1 : ∀ (σ' : gn_Mem) (a' : Nat) (D' : gD), fC σ0 σ' → mS σ' n L a' none → mBx σ' D' (dG D') → R = endS L n a' D' → Q none σ') (hQ2 : ∀ (σ' : gn_Mem) (e : Nat × Nat), fC σ0 σ' → mS σ' n L 0 (some e) → R = .inl e → Q none σ') : ∀ (m k a g : Nat) (σ : gn_Mem) (D : gD), k + m = 5 → mS σ n L a none → dG D = g + 1 → g < 6 → (∀ j, j < dG D → dC D j ≤ 6) → mBx σ D g → dC D g = k → R = bnd (numS L n 79 a) (fun u => bnd (gcl L n m u.2 (dAddC D u.1)) (fun w => endS L n w.1 w.2)) → fC σ0 σ → gn_W (d + 3) 141 42 [.ref 44, .int p, .int (nI g), .int 1] [] σ Q := by
  intro m
  induction m using Nat.strongRecOn with
  | ind m ih =>
    intro k a g σ D hk hS hG hg hC6 hB hC hR f0
    obtain ⟨b1, b2, b3, b4, b5, b6, b7⟩ := id hB
    have h58 : σ 58 g = nI k := by rw [← hC]; exact (b5 g (by omega)).2
    (repeat (first | refine gx_run 999 80 rfl ?_ | refine gx_goto rfl rfl ?_))
    first | refine gx_iff rfl (by dsimp only [gn_cmp] <;> decide) ?_ | refine gx_icf rfl (by dsimp only [gn_cmp] <;> decide) ?_
    (repeat (first | refine gx_run 999 80 rfl ?_ | refine gx_goto rfl rfl ?_))
    refine gx_ld g rfl (by omega) h58 rfl rfl rfl ?_
    (repeat (first | refine gx_run 999 80 rfl ?_ | refine gx_goto rfl rfl ?_))
    rw [ix6']
    refine gx_call rfl rfl rfl ?_
    refine mw_number (hi := 79) (by omega) hS ?_ ?_
    · intro σ1 v q hn f1 hS1
      have hnk := numS_ok (hS.2.2 rfl).2 hn
      rw [hn] at hR
      have hR : R = bnd (gcl L n m q (dAddC D v)) (fun w => endS L n w.1 w.2) := hR
      (repeat (first | refine gx_run 999 80 rfl ?_ | refine gx_goto rfl rfl ?_))
      refine gx_st (6 * g + k) rfl (by omega) rfl rfl rfl ?_
      (repeat (first | refine gx_run 999 80 rfl ?_ | refine gx_goto rfl rfl ?_))
      refine gx_ld g rfl (by omega) (show gn_up σ1 57 (6 * g + k) (nI v) 58 g = nI k by rw [gu_k (Or.inl (by decide)), f1.1 58 (by omega)]; exact h58) rfl rfl rfl ?_
      (repeat (first | refine gx_run 999 80 rfl ?_ | refine gx_goto rfl rfl ?_))
      rw [nI_1]
      refine gx_st g rfl (by omega) rfl rfl rfl ?_
      generalize hσ : gn_up (gn_up σ1 57 (6 * g + k) (nI v)) 58 g (nI (k + 1)) = σ2
      have fc : fC σ1 σ2 := by rw [← hσ]; exact (fC.ar (by decide)).tr (fC.ar (by decide))
      have g44 : ∀ j, σ2 44 j = σ1 44 j := fun j => by rw [← hσ, gu_k (by omega), gu_k (by omega)]
      have k44 : ∀ j, 24 ≤ j → j ≤ 27 → σ2 44 j = σ 44 j := fun j h1 h2 => by rw [g44, f1.2 j (by omega) (by omega) (by omega)]
      have ar : ∀ o, o = 56 ∨ o = 59 ∨ o = 60 → σ2 o = σ o := fun o ho => by rw [← hσ, gu_o (by omega), gu_o (by omega), f1.1 o (by omega)]
      have a57 : ∀ j, σ2 57 j = if j = 6 * g + k then nI v else σ 57 j := fun j => by
        rw [← hσ, gu_k (by omega)]
        by_cases e : j = 6 * g + k
        · rw [if_pos e, e, gu_s]
        · rw [if_neg e, gu_k (Or.inr e), f1.1 57 (by omega)]
      have a58 : ∀ j, σ2 58 j = if j = g then nI (k + 1) else σ 58 j := fun j => by
        rw [← hσ]
        by_cases e : j = g
        · rw [if_pos e, e, gu_s]
        · rw [if_neg e, gu_k (Or.inr e), gu_k (by omega), f1.1 58 (by omega)]
      have hg1 : dG D - 1 = g := by omega
      have hS2 : mS σ2 n L q none := hS1.o fc (g44 21) (g44 22) (g44 23)
      have hB2 : mBx σ2 (dAddC D v) g := by
        refine ⟨?_, ?_, ?_, ?_, fun j hj => ?_, fun j i hj hi => ?_, fun h hh => ?_⟩
        · rw [aC_E, k44 24 (by omega) (by omega)]; exact b1
        · rw [aC_F, k44 25 (by omega) (by omega)]; exact b2
        · rw [k44 26 (by omega) (by omega)]; exact b3
        · rw [aC_H, k44 27 (by omega) (by omega)]; exact b4
        · rw [aC_G] at hj
          rw [aC_P, aC_C, hg1, ar 56 (by omega), a58, hC]
          have := b5 j hj
          by_cases e : j = g
          · rw [if_pos e, if_pos e]; exact ⟨this.1, rfl⟩
          · rw [if_neg e, if_neg e]; exact this
        · rw [aC_G] at hj
          rw [aC_C, hg1, hC] at hi
          rw [aC_T, aC_B, hg1, hC, a57]
          have h6 := hC6 j hj
          by_cases e : j = g
          · rw [if_pos e] at hi
            by_cases e2 : i = k
            · rw [if_pos (show 6 * j + i = 6 * g + k by omega), if_pos (show j = g ∧ i = k from ⟨e, e2⟩), if_pos (show j = g ∧ i = k from ⟨e, e2⟩)]
              congr 1
              omega
            · rw [if_neg (show ¬ 6 * j + i = 6 * g + k by omega), if_neg (show ¬ (j = g ∧ i = k) from fun q => e2 q.2), if_neg (show ¬ (j = g ∧ i = k) from fun q => e2 q.2)]
              exact b6 j i hj (by rw [e, hC]; omega)
          · rw [if_neg e] at hi
            have h6i : i < 6 := by omega
            rw [if_neg (show ¬ 6 * j + i = 6 * g + k by omega), if_neg (show ¬ (j = g ∧ i = k) from fun q => e q.1), if_neg (show ¬ (j = g ∧ i = k) from fun q => e q.1)]
            exact b6 j i hj hi
        · rw [aC_H] at hh
          rw [aC_K, aC_N, ar 59 (by omega), ar 60 (by omega)]
          exact b7 h hh
      have f2 : fC σ0 σ2 := (f0.tr f1.C).tr fc
      (repeat (first | refine gx_run 999 80 rfl ?_ | refine gx_goto rfl rfl ?_))
      refine gx_call rfl rfl rfl ?_
      refine mw_fine hS2 ?_
      rw [gb_t rfl]
      (repeat (first | refine gx_run 999 80 rfl ?_ | refine gx_goto rfl rfl ?_))
      first | refine gx_iff rfl (by dsimp only [gn_cmp] <;> decide) ?_ | refine gx_icf rfl (by dsimp only [gn_cmp] <;> decide) ?_
      (repeat (first | refine gx_run 999 80 rfl ?_ | refine gx_goto rfl rfl ?_))
      refine gx_call rfl rfl rfl ?_
      refine mw_here _ q σ2 _ rfl hS2 ?_
      intro σ3 f3 hS3
      obtain ⟨h21, hql⟩ := hS3.2.2 rfl
      have hB3 := hB2.N f3
      have f03 := f2.tr f3.C
      have h583 : σ3 58 g = nI (k + 1) := by rw [f3.1 58 (by omega), a58, if_pos rfl]
      have fin : ∀ (σ4 : gn_Mem), σ4 = gn_up (gn_up σ3 44 21 (nI (hr L n q) + 0)) 44 26 (nI (g + 1)) → fC σ0 σ4 ∧ mS σ4 n L (hr L n q) none ∧ mBx σ4 (dAddC D v) (dG (dAddC D v)) := by
        intro σ4 e4
        rw [Int32.add_zero] at e4
        have c44 : ∀ j, j ≠ 26 → j ≠ 21 → σ4 44 j = σ3 44 j := fun j h1 h2 => by rw [e4, gu_k (Or.inr h1), gu_k (Or.inr h2)]
        have fc4 : fC σ3 σ4 := by rw [e4]; exact (fC.up (by decide)).tr (fC.up (by decide))
        refine ⟨f03.tr fc4, hS3.o fc4 (by rw [e4, gu_k (by omega), gu_s, h21]) (c44 22 (by omega) (by omega)) (c44 23 (by omega) (by omega)), ?_⟩
        obtain ⟨y1, y2, y3, y4, y5, y6, y7⟩ := hB3
        have eo : ∀ o, o ≠ 44 → σ4 o = σ3 o := fun o ho => by rw [e4, gu_o ho, gu_o ho]
        refine ⟨by rw [c44 24 (by omega) (by omega)]; exact y1, by rw [c44 25 (by omega) (by omega)]; exact y2, by rw [e4, gu_s, aC_G, hG], by rw [c44 27 (by omega) (by omega)]; exact y4, fun j hj => by rw [eo 56 (by omega), eo 58 (by omega)]; exact y5 j hj, fun j i hj hi => by rw [eo 57 (by omega)]; exact y6 j i hj hi, fun h hh => by rw [eo 59 (by omega), eo 60 (by omega)]; exact y7 h hh⟩
      (repeat (first | refine gx_run 999 80 rfl ?_ | refine gx_goto rfl rfl ?_))
      by_cases hc : hr L n q < n ∧ L (hr L n q) = 44
      · first | refine gx_iff rfl (fun z => z ((ch_eq hS.1.l (c := 44) (by omega)).mpr hc)) ?_ | refine gx_icf rfl (fun z => z ((ch_eq hS.1.l (c := 44) (by omega)).mpr hc)) ?_
        (repeat (first | refine gx_run 999 80 rfl ?_ | refine gx_goto rfl rfl ?_))
        first | refine gx_iff rfl (by dsimp only [gn_cmp] <;> decide) ?_ | refine gx_icf rfl (by dsimp only [gn_cmp] <;> decide) ?_
        (repeat (first | refine gx_run 999 80 rfl ?_ | refine gx_goto rfl rfl ?_))
        refine gx_ld g rfl (by omega) h583 rfl rfl rfl ?_
        (repeat (first | refine gx_run 999 80 rfl ?_ | refine gx_goto rfl rfl ?_))
        cases m with
        | zero =>
          have hR : R = endS L n q (dAddC D v) := hR
          first | refine gx_iff rfl (fun z => z (by rw [show k = 5 by omega]; rfl)) ?_ | refine gx_icf rfl (fun z => z (by rw [show k = 5 by omega]; rfl)) ?_
          (repeat (first | refine gx_run 999 80 rfl ?_ | refine gx_goto rfl rfl ?_))
          rw [h21]
          refine gx_call rfl rfl rfl ?_
          refine mw_wrong (x := 1) hS3 ⟨by omega, by omega⟩ hql ?_
          intro σ4 f4 hS4
          (repeat (first | refine gx_run 999 80 rfl ?_ | refine gx_goto rfl rfl ?_))
          first | refine gx_ift rfl (by dsimp only [gn_cmp] <;> decide) ?_ | refine gx_ict rfl (by dsimp only [gn_cmp] <;> decide) ?_
          (repeat (first | refine gx_run 999 80 rfl ?_ | refine gx_goto rfl rfl ?_))
          refine gw_goto rfl ?_
          (repeat (first | refine gx_run 999 80 rfl ?_ | refine gx_goto rfl rfl ?_))
          first | refine gx_ift rfl (by dsimp only [gn_cmp] <;> decide) ?_ | refine gx_ict rfl (by dsimp only [gn_cmp] <;> decide) ?_
          (repeat (first | refine gx_run 999 80 rfl ?_ | refine gx_goto rfl rfl ?_))
          refine gw_vret rfl ?_
          refine hQ2 _ (1, hr L n q) (f03.tr (f4.C.tr ((fC.up (by decide)).tr (fC.up (by decide))))) (hS4.z ((fC.up (by decide)).tr (fC.up (by decide))) ?_ ?_) ?_
          · rw [gu_k (Or.inr (by decide)), gu_k (Or.inr (by decide))]
          · rw [gu_k (Or.inr (by decide)), gu_k (Or.inr (by decide))]
          · rw [hR]
            unfold endS
            rw [if_neg (fun z => by omega)]
        | succ m =>
          unfold gcl at hR
          rw [if_pos hc, bnd_bnd] at hR
          first | refine gx_ift rfl (fun z => absurd ((nI_eq (b := 6) (by omega) (by omega)).mp z) (by omega)) ?_ | refine gx_ict rfl (fun z => absurd ((nI_eq (b := 6) (by omega) (by omega)).mp z) (by omega)) ?_
          (repeat (first | refine gx_run 999 80 rfl ?_ | refine gx_goto rfl rfl ?_))
          first | refine gx_iff rfl (by dsimp only [gn_cmp] <;> decide) ?_ | refine gx_icf rfl (by dsimp only [gn_cmp] <;> decide) ?_
          (repeat (first | refine gx_run 999 80 rfl ?_ | refine gx_goto rfl rfl ?_))
          rw [h21, nI_1]
          refine gw_goto rfl ?_
          have hlq := hr_le (L := L) hnk.2.2
          refine ih m (by omega) (k + 1) (hr L n q + 1) g _ (dAddC D v) (by omega) (hS3.up (by omega)) (by rw [aC_G]; exact hG) hg (fun j hj => ?_) (hB3.fr (fun o h1 h2 => gu_o (by omega)) (fun j h1 h2 => gu_k (by omega))) (by rw [aC_C, hg1, if_pos rfl, hC]) hR (f03.tr (fC.up (by decide)))
          rw [aC_G] at hj
          rw [aC_C, hg1, hC]
          have := hC6 j hj
          split <;> omega
      · first | refine gx_ift rfl (fun z => hc ((ch_eq hS.1.l (c := 44) (by omega)).mp z)) ?_ | refine gx_ict rfl (fun z => hc ((ch_eq hS.1.l (c := 44) (by omega)).mp z)) ?_
        (repeat (first | refine gx_run 999 80 rfl ?_ | refine gx_goto rfl rfl ?_))
        first | refine gx_ift rfl (by dsimp only [gn_cmp] <;> decide) ?_ | refine gx_ict rfl (by dsimp only [gn_cmp] <;> decide) ?_
        (repeat (first | refine gx_run 999 80 rfl ?_ | refine gx_goto rfl rfl ?_))
        first | refine gx_ift rfl (by dsimp only [gn_cmp] <;> decide) ?_ | refine gx_ict rfl (by dsimp only [gn_cmp] <;> decide) ?_
        (repeat (first | refine gx_run 999 80 rfl ?_ | refine gx_goto rfl rfl ?_))
        rw [h21]
        refine gw_goto rfl ?_
        (repeat (first | refine gx_run 999 80 rfl ?_ | refine gx_goto rfl rfl ?_))
        first | refine gx_ift rfl (by dsimp only [gn_cmp] <;> decide) ?_ | refine gx_ict rfl (by dsimp only [gn_cmp] <;> decide) ?_
        (repeat (first | refine gx_run 999 80 rfl ?_ | refine gx_goto rfl rfl ?_))
        rw [show gn_up σ3 44 21 (nI (hr L n q) + 0) 44 26 = nI g by rw [gu_k (Or.inr (by decide)), f3.2 26 (by omega) (by omega) (by omega), k44 26 (by omega) (by omega)]; exact b3, nI_1]
        refine gw_vret rfl ?_
        obtain ⟨z1, z2, z3⟩ := fin _ rfl
        refine hQ1 _ (hr L n q) (dAddC D v) z1 z2 z3 ?_
        cases m with
        | zero => rw [endS_hr hnk.2.2]; exact hR
        | succ m =>
          unfold gcl at hR
          rw [if_neg hc] at hR
          exact hR
    · intro σ1 e x hn f1 hS1
      rw [hn] at hR
      refine mw_gF (k := k) hS1 hg (by omega) (by rw [f1.1 58 (by omega)]; exact h58) (f0.tr f1.C) (fun σ' f hS' => hQ2 σ' e f hS' hR)
theorem mw_readGuest {p a : Nat} {R : rE (Nat × gD)} (hS : mS σ n L a none) (hp : p ≤ n) (hB : mBx σ D (dG D)) (hG : dG D ≤ 6) (hC6 : ∀ j, j < dG D → dC D j ≤ 6) (hR : R = if dG D < 6 then bnd (numS L n 9 a) (fun y => bnd (numS L n 79 y.2) (fun u => bnd (gcl L n 5 u.2 (dAddC (dAddG D y.1) u.1)) (fun w => endS L n w.1 w.2))) else .inl (3, p)) (hQ1 : ∀ (σ' : gn_Mem) (a' : Nat) (D' : gD), fC σ σ' → mS σ' n L a' none → mBx σ' D' (dG D') → R = endS L n a' D' → Q none σ') (hQ2 : ∀ (σ' : gn_Mem) (e : Nat × Nat), fC σ σ' → mS σ' n L 0 (some e) → R = .inl e → Q none σ') : gn_W (d + 3) 141 0 [.ref 44, .int (nI p)] [] σ Q := by
  obtain ⟨b1, b2, b3, b4, b5, b6, b7⟩ := id hB
  (repeat (first | refine gx_run 999 80 rfl ?_ | refine gx_goto rfl rfl ?_))
  rw [b3]
  by_cases h6 : dG D < 6
  · rw [if_pos h6] at hR
    generalize hg : dG D = g at *
    first | refine gx_ift rfl (fun z => absurd ((nI_eq (b := 6) (by omega) (by omega)).mp z) (by omega)) ?_ | refine gx_ict rfl (fun z => absurd ((nI_eq (b := 6) (by omega) (by omega)).mp z) (by omega)) ?_
    (repeat (first | refine gx_run 999 80 rfl ?_ | refine gx_goto rfl rfl ?_))
    rw [b3]
    refine gx_call rfl rfl rfl ?_
    refine mw_number (hi := 9) (by omega) hS ?_ ?_
    · intro σ1 v q hn f1 hS1
      rw [hn] at hR
      (repeat (first | refine gx_run 999 80 rfl ?_ | refine gx_goto rfl rfl ?_))
      refine gx_st g rfl (by omega) rfl rfl rfl ?_
      (repeat (first | refine gx_run 999 80 rfl ?_ | refine gx_goto rfl rfl ?_))
      refine gx_st g rfl (by omega) rfl rfl rfl ?_
      generalize hσ : gn_up (gn_up σ1 56 g (nI v)) 58 g 0 = σ2
      have fc : fC σ1 σ2 := by rw [← hσ]; exact (fC.ar (by decide)).tr (fC.ar (by decide))
      have g44 : ∀ j, σ2 44 j = σ1 44 j := fun j => by rw [← hσ, gu_k (by omega), gu_k (by omega)]
      have k44 : ∀ j, 24 ≤ j → j ≤ 27 → σ2 44 j = σ 44 j := fun j h1 h2 => by rw [g44, f1.2 j (by omega) (by omega) (by omega)]
      have ar : ∀ o, o = 57 ∨ o = 59 ∨ o = 60 → σ2 o = σ o := fun o ho => by rw [← hσ, gu_o (by omega), gu_o (by omega), f1.1 o (by omega)]
      have a56 : ∀ j, σ2 56 j = if j = g then nI v else σ 56 j := fun j => by
        rw [← hσ, gu_k (by omega)]
        by_cases e : j = g
        · rw [if_pos e, e, gu_s]
        · rw [if_neg e, gu_k (Or.inr e), f1.1 56 (by omega)]
      have a58 : ∀ j, σ2 58 j = if j = g then 0 else σ 58 j := fun j => by
        rw [← hσ]
        by_cases e : j = g
        · rw [if_pos e, e, gu_s]
        · rw [if_neg e, gu_k (Or.inr e), gu_k (by omega), f1.1 58 (by omega)]
      (refine gw_run 42 80 rfl ?_)
      refine mw_claimsL (σ0 := σ) (R := R) hQ1 hQ2 5 0 q g σ2 (dAddG D v) (by omega) (hS1.o fc (g44 21) (g44 22) (g44 23)) (by rw [aG_G, hg]) h6 (fun j hj => ?_) ⟨?_, ?_, ?_, ?_, fun j hj => ?_, fun j i hj hi => ?_, fun h hh => ?_⟩ (by rw [aG_C, hg, if_pos rfl]) hR (f1.C.tr fc)
      · rw [aG_G, hg] at hj
        rw [aG_C, hg]
        by_cases e : j = g
        · rw [if_pos e]; omega
        · rw [if_neg e]; exact hC6 j (by omega)
      · rw [aG_E, k44 24 (by omega) (by omega)]; exact b1
      · rw [aG_F, k44 25 (by omega) (by omega)]; exact b2
      · rw [k44 26 (by omega) (by omega)]; exact b3
      · rw [aG_H, k44 27 (by omega) (by omega)]; exact b4
      · rw [aG_G, hg] at hj
        rw [aG_P, aG_C, hg, a56, a58]
        by_cases e : j = g
        · rw [if_pos e, if_pos e, if_pos e, if_pos e]; exact ⟨rfl, rfl⟩
        · rw [if_neg e, if_neg e, if_neg e, if_neg e]; exact b5 j (by omega)
      · rw [aG_G, hg] at hj
        rw [aG_C, hg] at hi
        by_cases e : j = g
        · rw [if_pos e] at hi; omega
        · rw [if_neg e] at hi
          rw [aG_T, aG_B, ar 57 (by omega)]; exact b6 j i (by omega) hi
      · rw [aG_H] at hh
        rw [aG_K, aG_N, ar 59 (by omega), ar 60 (by omega)]; exact b7 h hh
    · intro σ1 e x hn f1 hS1
      rw [hn] at hR
      (repeat (first | refine gx_run 999 80 rfl ?_ | refine gx_goto rfl rfl ?_))
      refine gx_st g rfl (by omega) rfl rfl rfl ?_
      (repeat (first | refine gx_run 999 80 rfl ?_ | refine gx_goto rfl rfl ?_))
      refine gx_st g rfl (by omega) rfl rfl rfl ?_
      have fc : fC σ1 (gn_up (gn_up σ1 56 g x) 58 g 0) := (fC.ar (by decide)).tr (fC.ar (by decide))
      have hS2 : mS (gn_up (gn_up σ1 56 g x) 58 g 0) n L 0 (some e) := hS1.z fc (by rw [gu_k (by omega), gu_k (by omega)]) (by rw [gu_k (by omega), gu_k (by omega)])
      (repeat (first | refine gx_run 999 80 rfl ?_ | refine gx_goto rfl rfl ?_))
      first | refine gx_iff rfl (by dsimp only [gn_cmp] <;> decide) ?_ | refine gx_icf rfl (by dsimp only [gn_cmp] <;> decide) ?_
      (repeat (first | refine gx_run 999 80 rfl ?_ | refine gx_goto rfl rfl ?_))
      refine gx_ld g rfl (by omega) (show gn_up (gn_up σ1 56 g x) 58 g 0 58 g = nI 0 by rw [gu_s]; rfl) rfl rfl rfl ?_
      (repeat (first | refine gx_run 999 80 rfl ?_ | refine gx_goto rfl rfl ?_))
      rw [ix6']
      refine gx_call rfl rfl rfl ?_
      refine mw_numberF hS2 ?_
      exact mw_gF (k := 0) hS2 h6 (by omega) (by rw [gu_s]; rfl) (f1.C.tr fc) (fun σ' f hS' => hQ2 σ' e f hS' hR)
  · rw [if_neg h6] at hR
    first | refine gx_iff rfl (fun z => z (by rw [show dG D = 6 by omega]; rfl)) ?_ | refine gx_icf rfl (fun z => z (by rw [show dG D = 6 by omega]; rfl)) ?_
    (repeat (first | refine gx_run 999 80 rfl ?_ | refine gx_goto rfl rfl ?_))
    refine gx_call rfl rfl rfl ?_
    refine mw_wrong (x := 3) hS ⟨by omega, by omega⟩ hp ?_
    intro σ1 f1 hS1
    (repeat (first | refine gx_run 999 80 rfl ?_ | refine gx_goto rfl rfl ?_))
    refine gw_vret rfl ?_
    exact hQ2 σ1 _ f1.C hS1 hR
theorem mw_readClause {a : Nat} (hS : mS σ n L a none) (hp : hr L n a < n) (hB : mBx σ D (dG D)) (hW : gW D) (hQ1 : ∀ (σ' : gn_Mem) (a' : Nat) (D' : gD), fC σ σ' → mS σ' n L a' none → mBx σ' D' (dG D') → clS L n a D = .inr (a', D') → Q none σ') (hQ2 : ∀ (σ' : gn_Mem) (e : Nat × Nat), fC σ σ' → mS σ' n L 0 (some e) → clS L n a D = .inl e → Q none σ') : gn_W (d + 4) 143 0 [.ref 44] [] σ Q := by
  have h240 := hS.1.1
  have hE := hW.2.2.1
  have hL := hS.1.l
  generalize hR : clS L n a D = R at *
  have hR := hR.symm
  (repeat (first | refine gx_run 999 80 rfl ?_ | refine gx_goto rfl rfl ?_))
  refine gx_call rfl rfl rfl ?_
  refine mw_here _ a σ _ rfl hS ?_
  intro σ1 f1 hS1
  obtain ⟨h21, -⟩ := hS1.2.2 rfl
  unfold clS at hR
  generalize hr L n a = p at *
  have hLp := hL p hp
  have hc : ch L n p = nI (L p) := if_pos hp
  have hB1 := hB.N f1
  (repeat (first | refine gx_run 999 80 rfl ?_ | refine gx_goto rfl rfl ?_))
  rw [h21, nI_1, show gn_up σ1 44 21 (nI (p + 1)) 44 24 = nI (dE D) by rw [gu_k (Or.inr (by decide))]; exact hB1.1]
  have hS2 : mS (gn_up σ1 44 21 (nI (p + 1))) n L (p + 1) none := hS1.up (by omega)
  have hB2 : mBx (gn_up σ1 44 21 (nI (p + 1))) D (dG D) := hB1.fr (fun o h1 h2 => gu_o (by omega)) (fun j h1 h2 => gu_k (by omega))
  have f2 : fC σ (gn_up σ1 44 21 (nI (p + 1))) := f1.C.tr (fC.up (by decide))
  generalize gn_up σ1 44 21 (nI (p + 1)) = σ2 at *
  -- the end of the clause
  have fin1 : ∀ (σ3 : gn_Mem) (a' : Nat) (D' : gD), fC σ2 σ3 → mS σ3 n L a' none → mBx σ3 D' (dG D') → R = endS L n a' D' → gn_W (d + 4) 143 106 [.ref 44, .int (nI (L p)), .int (nI p)] [] σ3 Q := by
    intro σ3 a' D' f3 hS3 hB3 hR3
    have hl3 := (hS3.2.2 rfl).2
    (repeat (first | refine gx_run 999 80 rfl ?_ | refine gx_goto rfl rfl ?_))
    refine gx_call rfl rfl rfl ?_
    refine mw_fine hS3 ?_
    rw [gb_t rfl]
    (repeat (first | refine gx_run 999 80 rfl ?_ | refine gx_goto rfl rfl ?_))
    first | refine gx_iff rfl (by dsimp only [gn_cmp] <;> decide) ?_ | refine gx_icf rfl (by dsimp only [gn_cmp] <;> decide) ?_
    (repeat (first | refine gx_run 999 80 rfl ?_ | refine gx_goto rfl rfl ?_))
    refine gx_call rfl rfl rfl ?_
    refine mw_here _ a' σ3 _ rfl hS3 ?_
    intro σ4 f4 hS4
    obtain ⟨g21, hql⟩ := hS4.2.2 rfl
    (repeat (first | refine gx_run 999 80 rfl ?_ | refine gx_goto rfl rfl ?_))
    unfold endS at hR3
    by_cases q : hr L n a' < n ∧ L (hr L n a') = 59
    · rw [if_pos q] at hR3
      first | refine gx_ift rfl ((ch_eq hL (c := 59) (by omega)).mpr q) ?_ | refine gx_ict rfl ((ch_eq hL (c := 59) (by omega)).mpr q) ?_
      (repeat (first | refine gx_run 999 80 rfl ?_ | refine gx_goto rfl rfl ?_))
      rw [g21, nI_1]
      refine gw_vret rfl ?_
      exact hQ1 _ (hr L n a' + 1) D' (((f2.tr f3).tr f4.C).tr (fC.up (by decide))) (hS4.up (by omega)) ((hB3.N f4).fr (fun o h1 h2 => gu_o (by omega)) (fun j h1 h2 => gu_k (by omega))) hR3
    · rw [if_neg q] at hR3
      first | refine gx_iff rfl (fun z => q ((ch_eq hL (c := 59) (by omega)).mp z)) ?_ | refine gx_icf rfl (fun z => q ((ch_eq hL (c := 59) (by omega)).mp z)) ?_
      (repeat (first | refine gx_run 999 80 rfl ?_ | refine gx_goto rfl rfl ?_))
      rw [g21]
      refine gx_call rfl rfl rfl ?_
      refine mw_wrong (x := 1) hS4 ⟨by omega, by omega⟩ hql ?_
      intro σ5 f5 hS5
      (repeat (first | refine gx_run 999 80 rfl ?_ | refine gx_goto rfl rfl ?_))
      refine gw_vret rfl ?_
      exact hQ2 _ _ (((f2.tr f3).tr f4.C).tr (f5.C.tr (fC.up (by decide)))) (hS5.z (fC.up (by decide)) (gu_k (Or.inr (by decide))) (gu_k (Or.inr (by decide)))) hR3
  have fin2 : ∀ (σ3 : gn_Mem) (e : Nat × Nat), fC σ2 σ3 → mS σ3 n L 0 (some e) → R = .inl e → gn_W (d + 4) 143 106 [.ref 44, .int (nI (L p)), .int (nI p)] [] σ3 Q := by
    intro σ3 e f3 hS3 hR3
    (repeat (first | refine gx_run 999 80 rfl ?_ | refine gx_goto rfl rfl ?_))
    refine gx_call rfl rfl rfl ?_
    refine mw_fine hS3 ?_
    rw [gb_f (fun z => by cases z)]
    (repeat (first | refine gx_run 999 80 rfl ?_ | refine gx_goto rfl rfl ?_))
    first | refine gx_ift rfl (by dsimp only [gn_cmp] <;> decide) ?_ | refine gx_ict rfl (by dsimp only [gn_cmp] <;> decide) ?_
    (repeat (first | refine gx_run 999 80 rfl ?_ | refine gx_goto rfl rfl ?_))
    refine gw_vret rfl ?_
    exact hQ2 _ e ((f2.tr f3).tr (fC.up (by decide))) (hS3.z (fC.up (by decide)) (gu_k (Or.inr (by decide))) (gu_k (Or.inr (by decide)))) hR3
  have sw : ¬ (dE D = 0 ∧ L p ≠ 116) → gn_W (d + 4) 143 40 [.ref 44, .int (nI (L p)), .int (nI p)] [] σ2 Q := by
    intro hno
    (repeat (first | refine gx_run 999 80 rfl ?_ | refine gx_goto rfl rfl ?_))
    by_cases h1 : L p = 116
    · refine gw_lsw rfl 76 (by rw [nI_toInt (by omega), h1, lsw3]; rfl) ?_
      (repeat (first | refine gx_run 999 80 rfl ?_ | refine gx_goto rfl rfl ?_))
      refine gx_call rfl rfl rfl ?_
      refine mw_readFacts (p := p) (R := R) hS2 (by omega) hB2 hE ?_ ?_ ?_
      · rw [hR]
        by_cases h0 : dE D = 0
        · rw [if_pos h0, if_pos h0, if_pos h1]
        · rw [if_neg h0, if_neg h0, if_neg (by omega), if_neg (by omega), if_pos h1]
      · intro σ3 a' D' f3 hS3 hB3 hR3
        refine gx_goto rfl rfl ?_
        exact fin1 σ3 a' D' f3 hS3 hB3 hR3
      · intro σ3 e f3 hS3 hR3
        refine gx_goto rfl rfl ?_
        exact fin2 σ3 e f3 hS3 hR3
    · have h0 : ¬ dE D = 0 := fun z => hno ⟨z, h1⟩
      rw [if_neg h0] at hR
      by_cases h2 : L p = 103
      · rw [if_pos h2] at hR
        refine gw_lsw rfl 84 (by rw [nI_toInt (by omega), h2, lsw3]; rfl) ?_
        (repeat (first | refine gx_run 999 80 rfl ?_ | refine gx_goto rfl rfl ?_))
        refine gx_call rfl rfl rfl ?_
        refine mw_readGuest (p := p) (R := R) hS2 (by omega) hB2 hW.1 (fun j hj => (hW.2.2.2.2.1 j hj).2.2) hR ?_ ?_
        · intro σ3 a' D' f3 hS3 hB3 hR3
          refine gx_goto rfl rfl ?_
          exact fin1 σ3 a' D' f3 hS3 hB3 hR3
        · intro σ3 e f3 hS3 hR3
          refine gx_goto rfl rfl ?_
          exact fin2 σ3 e f3 hS3 hR3
      · rw [if_neg h2] at hR
        by_cases h3 : L p = 104
        · rw [if_pos h3] at hR
          refine gw_lsw rfl 92 (by rw [nI_toInt (by omega), h3, lsw3]; rfl) ?_
          (repeat (first | refine gx_run 999 80 rfl ?_ | refine gx_goto rfl rfl ?_))
          refine gx_call rfl rfl rfl ?_
          refine mw_readHost (p := p) (R := R) hS2 (by omega) hB2 hW.2.1 hR ?_ ?_
          · intro σ3 a' D' f3 hS3 hB3 hR3
            refine gx_goto rfl rfl ?_
            exact fin1 σ3 a' D' f3 hS3 hB3 hR3
          · intro σ3 e f3 hS3 hR3
            refine gx_goto rfl rfl ?_
            exact fin2 σ3 e f3 hS3 hR3
        · rw [if_neg h3, if_neg h1] at hR
          refine gw_lsw rfl 100 (by rw [nI_toInt (by omega), lsw3, if_neg (by omega), if_neg (by omega), if_neg (by omega)]; rfl) ?_
          (repeat (first | refine gx_run 999 80 rfl ?_ | refine gx_goto rfl rfl ?_))
          refine gx_call rfl rfl rfl ?_
          refine mw_wrong (x := 1) hS2 ⟨by omega, by omega⟩ (by omega) ?_
          intro σ3 f3 hS3
          exact fin2 σ3 _ f3.C hS3 hR
  rw [hc]
  by_cases h0 : dE D = 0
  · rw [h0]
    first | refine gx_iff rfl (by dsimp only [gn_cmp] <;> decide) ?_ | refine gx_icf rfl (by dsimp only [gn_cmp] <;> decide) ?_
    (repeat (first | refine gx_run 999 80 rfl ?_ | refine gx_goto rfl rfl ?_))
    by_cases h1 : L p = 116
    · first | refine gx_ift rfl (show nI (L p) = 116 by rw [h1]; rfl) ?_ | refine gx_ict rfl (show nI (L p) = 116 by rw [h1]; rfl) ?_
      exact sw (fun z => z.2 h1)
    · first | refine gx_iff rfl (fun z => h1 ((nI_eq (b := 116) (by omega) (by omega)).mp z)) ?_ | refine gx_icf rfl (fun z => h1 ((nI_eq (b := 116) (by omega) (by omega)).mp z)) ?_
      (repeat (first | refine gx_run 999 80 rfl ?_ | refine gx_goto rfl rfl ?_))
      refine gx_call rfl rfl rfl ?_
      refine mw_wrong (x := 1) hS2 ⟨by omega, by omega⟩ (by omega) ?_
      intro σ3 f3 hS3
      (repeat (first | refine gx_run 999 80 rfl ?_ | refine gx_goto rfl rfl ?_))
      refine gw_vret rfl ?_
      refine hQ2 σ3 _ (f2.tr f3.C) hS3 ?_
      rw [hR, if_pos h0, if_neg h1]
  · first | refine gx_ift rfl (nI_ne0 (by omega) (by omega)) ?_ | refine gx_ict rfl (nI_ne0 (by omega) (by omega)) ?_
    exact sw (fun z => h0 z.1)
/-- the loop over the clauses -/
theorem mw_readL {σ0 : gn_Mem} {R : rE gD} (hQ1 : ∀ (σ' : gn_Mem) (D' : gD) (a : Nat), fC σ0 σ' → mS σ' n L a none → mBx σ' D' (dG D') → gW D' → R = .inr D' → gn_W (d + 5) 144 52 [.ref 44] [] σ' Q) (hQ2 : ∀ (σ' : gn_Mem) (e : Nat × Nat), fC σ0 σ' → mS σ' n L 0 (some e) → R = .inl e → gn_W (d + 5) 144 52 [.ref 44] [] σ' Q) : ∀ (f a : Nat) (σ : gn_Mem) (D : gD), n + 1 ≤ a + f → mS σ n L a none → mBx σ D (dG D) → gW D → R = rdS L n f a D → fC σ0 σ → gn_W (d + 5) 144 30 [.ref 44] [] σ Q := by
  intro f
  induction f with
  | zero =>
    intro a σ D hf hS hB hW hR f0
    have := (hS.2.2 rfl).2
    omega
  | succ f ih =>
    intro a σ D hf hS hB hW hR f0
    have ha := (hS.2.2 rfl).2
    unfold rdS at hR
    (repeat (first | refine gx_run 999 80 rfl ?_ | refine gx_goto rfl rfl ?_))
    refine gx_call rfl rfl rfl ?_
    refine mw_fine hS ?_
    rw [gb_t rfl]
    (repeat (first | refine gx_run 999 80 rfl ?_ | refine gx_goto rfl rfl ?_))
    first | refine gx_iff rfl (by dsimp only [gn_cmp] <;> decide) ?_ | refine gx_icf rfl (by dsimp only [gn_cmp] <;> decide) ?_
    (repeat (first | refine gx_run 999 80 rfl ?_ | refine gx_goto rfl rfl ?_))
    refine gx_call rfl rfl rfl ?_
    refine mw_here _ a σ _ rfl hS ?_
    intro σ1 f1 hS1
    (repeat (first | refine gx_run 999 80 rfl ?_ | refine gx_goto rfl rfl ?_))
    by_cases q : hr L n a < n
    · rw [if_pos q] at hR
      first | refine gx_iff rfl (fun z => absurd q ((ch_end hS.1.l).mp z)) ?_ | refine gx_icf rfl (fun z => absurd q ((ch_end hS.1.l).mp z)) ?_
      (repeat (first | refine gx_run 999 80 rfl ?_ | refine gx_goto rfl rfl ?_))
      refine gx_call rfl rfl rfl ?_
      refine mw_readClause hS1 (by rw [hr_hr ha]; exact q) (hB.N f1) hW ?_ ?_
      · intro σ2 a2 D2 f2 hS2 hB2 hc
        rw [clS_hr ha] at hc
        have hok := clS_ok ha q hW hc
        rw [hc] at hR
        (repeat (first | refine gx_run 999 80 rfl ?_ | refine gx_goto rfl rfl ?_))
        refine gw_goto rfl ?_
        exact ih a2 σ2 D2 (by omega) hS2 hB2 hok.1 hR ((f0.tr f1.C).tr f2)
      · intro σ2 e f2 hS2 hc
        rw [clS_hr ha] at hc
        rw [hc] at hR
        (repeat (first | refine gx_run 999 80 rfl ?_ | refine gx_goto rfl rfl ?_))
        refine gw_goto rfl ?_
        (repeat (first | refine gx_run 999 80 rfl ?_ | refine gx_goto rfl rfl ?_))
        refine gx_call rfl rfl rfl ?_
        refine mw_fine hS2 ?_
        rw [gb_f (fun z => by cases z)]
        (repeat (first | refine gx_run 999 80 rfl ?_ | refine gx_goto rfl rfl ?_))
        first | refine gx_ift rfl (by dsimp only [gn_cmp] <;> decide) ?_ | refine gx_ict rfl (by dsimp only [gn_cmp] <;> decide) ?_
        exact hQ2 σ2 e ((f0.tr f1.C).tr f2) hS2 hR
    · rw [if_neg q] at hR
      first | refine gx_ift rfl ((ch_end hS.1.l).mpr q) ?_ | refine gx_ict rfl ((ch_end hS.1.l).mpr q) ?_
      exact hQ1 σ1 D _ (f0.tr f1.C) hS1 (hB.N f1) hW hR
end
