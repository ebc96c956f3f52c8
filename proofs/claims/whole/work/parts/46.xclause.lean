/-! the class's clauses -/
theorem xB.tru {σ σ' : gn_Mem} {D : gD} {v : Nat} (hB : xB σ D) (f : ∀ o, 37 ≤ o → o ≤ 43 → σ' o = σ o) (e0 : σ' 36 0 = 1) (e1 : σ' 36 1 = nI v) (e2 : σ' 36 2 = σ 36 2) (e3 : σ' 36 3 = σ 36 3) : xB σ' (dTru D v) := by
  obtain ⟨b1, b2, b3, b4, b5, b6, b7, b8⟩ := hB
  refine ⟨gB_T b1, by rw [aT_E, e0]; rfl, by rw [aT_F, e1], by rw [aT_G, e2]; exact b4, by rw [aT_H, e3]; exact b5, fun g hg => ?_, fun g k hg hk => ?_, fun h hh => ?_⟩
  · rw [aT_G] at hg
    rw [aT_P, aT_C, aT_S, f 37 (by omega) (by omega), f 38 (by omega) (by omega), f 41 (by omega) (by omega)]
    exact b6 g hg
  · rw [aT_G] at hg
    rw [aT_C] at hk
    rw [aT_T, aT_B, f 39 (by omega) (by omega), f 40 (by omega) (by omega)]
    exact b7 g k hg hk
  · rw [aT_H] at hh
    rw [aT_K, aT_N, f 42 (by omega) (by omega), f 43 (by omega) (by omega)]
    exact b8 h hh
theorem bnd_bnd {α β γ : Type} (r : rE α) (k : α → rE β) (K : β → rE γ) : bnd (bnd r k) K = bnd r (fun y => bnd (k y) K) := by cases r <;> rfl
section
variable {d n : Nat} {L : Nat → Nat} {σ : gn_Mem} {Q : Option Value → gn_Mem → Prop} {D : gD} {F : Option (Nat × Nat)}
theorem xS.o {σ' : gn_Mem} {a : Nat} (h : xS σ n L a F) (f : ∀ o, ¬ (36 ≤ o ∧ o ≤ 43) → σ' o = σ o) : xS σ' n L a F := by
  unfold xS tX
  rw [f 1 (by omega), f 2 (by omega)]
  exact h
/-- the end of a clause, and of its method -/
theorem xw_endC {mi pc : Nat} {lo : List Value} {a : Nat} {R : rE (Nat × gD)} {σ0 : gn_Mem} (hS : xS σ n L a F) (hB : xB σ D) (ht : trk F R (endS L n a D)) (f0 : ∀ o, o ≠ 1 → ¬ (36 ≤ o ∧ o ≤ 43) → σ o = σ0 o) (hr : ∀ σ', Q none σ' → gn_W (d + 3) mi pc lo [] σ' Q) (hQ : ∀ (σ' : gn_Mem) (a' : Nat) (F' : Option (Nat × Nat)) (D' : gD), (∀ o, o ≠ 1 → ¬ (36 ≤ o ∧ o ≤ 43) → σ' o = σ0 o) → xS σ' n L a' F' → xB σ' D' → trk F' R (.inr (a', D')) → Q none σ') : gn_W (d + 2) 57 0 [.ref 1] [] σ (fun rv σ' => gn_W (d + 3) mi pc lo (rv.toList ++ []) σ' Q) := by
  refine xw_endOfClause (D := D) hS ?_
  intro σ1 a1 F1 f1 hS1 hn
  refine hr σ1 (hQ σ1 a1 F1 D (fun o h1 h2 => by rw [f1 o h1, f0 o h1 h2]) hS1 (hB.fr (fun o h1 h2 => f1 o (by omega))) (trk_fin ht hn))
theorem xw_readTruths {p : Nat} {R : rE (Nat × gD)} (hS : xS σ n L p none) (hp : p < n) (hB : xB σ D) (hR : R = bnd (numS L n 255 (p + 1)) (fun y => endS L n y.2 (dTru D y.1))) (hQ : ∀ (σ' : gn_Mem) (a' : Nat) (F' : Option (Nat × Nat)) (D' : gD), (∀ o, o ≠ 1 → ¬ (36 ≤ o ∧ o ≤ 43) → σ' o = σ o) → xS σ' n L a' F' → xB σ' D' → trk F' R (.inr (a', D')) → Q none σ') : gn_W (d + 3) 54 0 [.ref 1, .ref 36] [] σ Q := by
  have hr : trk none R (bnd (numS L n 255 (p + 1)) (fun y => endS L n y.2 (dTru D y.1))) := ⟨fun _ => hR, fun e q => by cases q⟩
  (repeat (first | refine gx_run 999 80 rfl ?_ | refine gx_goto rfl rfl ?_))
  rw [hS.2.1, nI_1]
  refine gw_putb rfl rfl rfl (Or.inr rfl) ?_
  (repeat (first | refine gx_run 999 80 rfl ?_ | refine gx_goto rfl rfl ?_))
  refine gx_call rfl rfl rfl ?_
  have hS1 : xS (gn_up (gn_up σ 1 2 (nI (p + 1))) 36 0 1) n L (p + 1) none := (hS.up (by omega)).o (fun o ho => gu_o (by omega))
  refine xw_readNumber (hi := 255) (by omega) hS1 ?_
  intro σ1 a1 F1 v f1 hS2 hv hn
  have ht := trk_num hr hn
  (repeat (first | refine gx_run 999 80 rfl ?_ | refine gx_goto rfl rfl ?_))
  refine gx_call rfl rfl rfl ?_
  refine xw_endC (D := dTru D v) (σ0 := σ) (hS2.o (fun o ho => gu_o (by omega))) (hB.tru (fun o h1 h2 => ?_) ?_ gu_s ?_ ?_) ht (fun o h1 h2 => ?_) (fun σ' q => ?_) hQ
  · rw [gu_o (by omega), f1 o (by omega), gu_o (by omega), gu_o (by omega)]
  · rw [gu_k (Or.inr (by decide)), f1 36 (by omega), gu_s]
  · rw [gu_k (Or.inr (by decide)), f1 36 (by omega), gu_k (Or.inr (by decide)), gu_k (Or.inl (by decide))]
  · rw [gu_k (Or.inr (by decide)), f1 36 (by omega), gu_k (Or.inr (by decide)), gu_k (Or.inl (by decide))]
  · rw [gu_o (by omega), f1 o (by omega), gu_o (by omega), gu_o (by omega)]
  · refine gw_vret rfl ?_
    exact q
theorem xw_readHost {p : Nat} {R : rE (Nat × gD)} (hS : xS σ n L p none) (hp : p < n) (hB : xB σ D) (hR : R = if dH D < 4 then bnd (numS L n 3 (p + 1)) (fun y => bnd (numS L n 9 y.2) (fun u => endS L n u.2 (dAddH D y.1 u.1))) else .inl (3, p)) (hQ : ∀ (σ' : gn_Mem) (a' : Nat) (F' : Option (Nat × Nat)) (D' : gD), (∀ o, o ≠ 1 → ¬ (36 ≤ o ∧ o ≤ 43) → σ' o = σ o) → xS σ' n L a' F' → xB σ' D' → trk F' R (.inr (a', D')) → Q none σ') : gn_W (d + 3) 56 0 [.ref 1, .ref 36] [] σ Q := by
  have hH := hB.1.2.1
  (repeat (first | refine gx_run 999 80 rfl ?_ | refine gx_goto rfl rfl ?_))
  rw [hB.2.2.2.2.1]
  by_cases h4 : dH D < 4
  · rw [if_pos h4] at hR
    have hr : trk none R (bnd (numS L n 3 (p + 1)) (fun y => bnd (numS L n 9 y.2) (fun u => endS L n u.2 (dAddH D y.1 u.1)))) := ⟨fun _ => hR, fun e q => by cases q⟩
    first | refine gx_ift rfl (nI_lt (b := 4) h4 (by omega)) ?_ | refine gx_ict rfl (nI_lt (b := 4) h4 (by omega)) ?_
    (repeat (first | refine gx_run 999 80 rfl ?_ | refine gx_goto rfl rfl ?_))
    rw [hS.2.1, nI_1]
    refine gx_call rfl rfl rfl ?_
    refine xw_readNumber (hi := 3) (by omega) (hS.up (a' := p + 1) (by omega)) ?_
    intro σ1 a1 F1 v f1 hS1 hv hn
    have ht := trk_num hr hn
    (repeat (first | refine gx_run 999 80 rfl ?_ | refine gx_goto rfl rfl ?_))
    refine gx_call rfl rfl rfl ?_
    refine xw_readNumber (hi := 9) (by omega) hS1 ?_
    intro σ2 a2 F2 u f2 hS2 hu hn2
    have ht2 := trk_num (k := fun u : Nat × Nat => endS L n u.2 (dAddH D v u.1)) ht hn2
    (repeat (first | refine gx_run 999 80 rfl ?_ | refine gx_goto rfl rfl ?_))
    refine gx_call rfl rfl rfl ?_
    refine xw_addHost (D := D) (hB.fr (fun o h1 h2 => by rw [f2 o (by omega), f1 o (by omega), gu_o (by omega)])) h4 ?_
    intro σ3 f3 hB3
    (repeat (first | refine gx_run 999 80 rfl ?_ | refine gx_goto rfl rfl ?_))
    refine gx_call rfl rfl rfl ?_
    refine xw_endC (σ0 := σ) (hS2.o (fun o ho => f3 o ho)) hB3 ht2 (fun o h1 h2 => ?_) (fun σ' q => ?_) hQ
    · rw [f3 o h2, f2 o h1, f1 o h1, gu_o h1]
    · refine gw_vret rfl ?_
      exact q
  · rw [if_neg h4] at hR
    first | refine gx_iff rfl (nI_nlt (b := 4) (by omega) (by omega)) ?_ | refine gx_icf rfl (nI_nlt (b := 4) (by omega) (by omega)) ?_
    (repeat (first | refine gx_run 999 80 rfl ?_ | refine gx_goto rfl rfl ?_))
    rw [hS.2.1]
    refine gx_call rfl rfl rfl ?_
    refine xw_blame (x := 3) hS ⟨by omega, by omega⟩ (by omega) ?_
    intro σ1 f1 hS1
    (repeat (first | refine gx_run 999 80 rfl ?_ | refine gx_goto rfl rfl ?_))
    refine gw_vret rfl ?_
    exact hQ σ1 p _ D (fun o h1 h2 => f1 o h1) hS1 (hB.fr (fun o h1 h2 => f1 o (by omega))) ⟨fun q => (by cases q), fun e q => by cases q; exact hR⟩
/-- the loop over a guest's claims -/
theorem xw_claimsL {σ0 : gn_Mem} {R : rE (Nat × gD)} (hQ : ∀ (σ' : gn_Mem) (a' : Nat) (F' : Option (Nat × Nat)) (D' : gD), (∀ o, o ≠ 1 → ¬ (36 ≤ o ∧ o ≤ 43) → σ' o = σ0 o) → xS σ' n L a' F' → xB σ' D' → trk F' R (.inr (a', D')) → Q none σ') : ∀ (m k a : Nat) (σ : gn_Mem) (F : Option (Nat × Nat)) (D : gD), k + m = 6 → xS σ n L a F → xB σ D → 1 ≤ dG D → dC D (dG D - 1) = k → trk F R (bnd (gcl L n m a D) (fun w => endS L n w.1 w.2)) → (∀ o, o ≠ 1 → ¬ (36 ≤ o ∧ o ≤ 43) → σ o = σ0 o) → gn_W (d + 3) 55 51 [.ref 1, .ref 36, .int (nI k)] [] σ Q := by
  intro m
  induction m with
  | zero =>
    intro k a σ F D hk hS hB hG hC ht f0
    (repeat (first | refine gx_run 999 80 rfl ?_ | refine gx_goto rfl rfl ?_))
    first | refine gx_ift rfl (nI_le (a := 6) (by omega) (by omega)) ?_ | refine gx_ict rfl (nI_le (a := 6) (by omega) (by omega)) ?_
    (repeat (first | refine gx_run 999 80 rfl ?_ | refine gx_goto rfl rfl ?_))
    refine gx_call rfl rfl rfl ?_
    refine xw_endC (σ0 := σ0) hS hB ht f0 (fun σ' q => ?_) hQ
    refine gw_vret rfl ?_
    exact q
  | succ m ih =>
    intro k a σ F D hk hS hB hG hC ht f0
    have ha := hS.2.2.1
    have hl := hr_le (L := L) ha
    (repeat (first | refine gx_run 999 80 rfl ?_ | refine gx_goto rfl rfl ?_))
    first | refine gx_iff rfl (nI_ge (b := 6) (by omega) (by omega)) ?_ | refine gx_icf rfl (nI_ge (b := 6) (by omega) (by omega)) ?_
    (repeat (first | refine gx_run 999 80 rfl ?_ | refine gx_goto rfl rfl ?_))
    refine gx_call rfl rfl rfl ?_
    refine xw_nextWord _ a σ _ rfl hS ?_
    intro σ1 f1 hS1
    have hB1 : xB σ1 D := hB.fr (fun o h1 h2 => f1 o (by omega))
    (repeat (first | refine gx_run 999 80 rfl ?_ | refine gx_goto rfl rfl ?_))
    unfold gcl at ht
    by_cases q : hr L n a < n ∧ L (hr L n a) = 44
    · rw [if_pos q, bnd_bnd] at ht
      first | refine gx_iff rfl (fun z => z ((ch_eq hS.1.l (c := 44) (by omega)).mpr q)) ?_ | refine gx_icf rfl (fun z => z ((ch_eq hS.1.l (c := 44) (by omega)).mpr q)) ?_
      (repeat (first | refine gx_run 999 80 rfl ?_ | refine gx_goto rfl rfl ?_))
      rw [hS1.2.1, nI_1]
      refine gx_call rfl rfl rfl ?_
      refine xw_readNumber (hi := 79) (by omega) (hS1.up (a' := hr L n a + 1) (by omega)) ?_
      intro σ2 a2 F2 v f2 hS2 hv hn
      have ht2 := trk_num ht hn
      (repeat (first | refine gx_run 999 80 rfl ?_ | refine gx_goto rfl rfl ?_))
      refine gx_call rfl rfl rfl ?_
      refine xw_addClaim (D := D) (hB1.fr (fun o h1 h2 => by rw [f2 o (by omega), gu_o (by omega)])) hG (by omega) hv ?_
      intro σ3 f3 hB3
      (repeat (first | refine gx_run 999 80 rfl ?_ | refine gx_goto rfl rfl ?_))
      refine gw_goto rfl ?_
      rw [nI_1]
      refine ih (k + 1) a2 σ3 F2 (dAddC D v) (by omega) (hS2.o f3) hB3 (by rw [aC_G]; exact hG) (by rw [aC_G, aC_C, if_pos rfl, hC]) ht2 (fun o h1 h2 => ?_)
      rw [f3 o h2, f2 o h1, gu_o h1, f1 o h1, f0 o h1 h2]
    · rw [if_neg q] at ht
      first | refine gx_ift rfl (fun z => q ((ch_eq hS.1.l (c := 44) (by omega)).mp z)) ?_ | refine gx_ict rfl (fun z => q ((ch_eq hS.1.l (c := 44) (by omega)).mp z)) ?_
      (repeat (first | refine gx_run 999 80 rfl ?_ | refine gx_goto rfl rfl ?_))
      refine gx_call rfl rfl rfl ?_
      refine xw_endC (σ0 := σ0) hS1 hB1 ht (fun o h1 h2 => by rw [f1 o h1, f0 o h1 h2]) (fun σ' q => ?_) hQ
      refine gw_vret rfl ?_
      exact q
theorem xw_readGuest {p : Nat} {R : rE (Nat × gD)} (hS : xS σ n L p none) (hp : p < n) (hB : xB σ D) (hR : R = if dG D < 6 then bnd (numS L n 9 (p + 1)) (fun y => bnd (numS L n 79 y.2) (fun u => bnd (gcl L n 5 u.2 (dAddC (dAddG D y.1) u.1)) (fun w => endS L n w.1 w.2))) else .inl (3, p)) (hQ : ∀ (σ' : gn_Mem) (a' : Nat) (F' : Option (Nat × Nat)) (D' : gD), (∀ o, o ≠ 1 → ¬ (36 ≤ o ∧ o ≤ 43) → σ' o = σ o) → xS σ' n L a' F' → xB σ' D' → trk F' R (.inr (a', D')) → Q none σ') : gn_W (d + 3) 55 0 [.ref 1, .ref 36] [] σ Q := by
  have hG := hB.1.1
  (repeat (first | refine gx_run 999 80 rfl ?_ | refine gx_goto rfl rfl ?_))
  rw [hB.2.2.2.1]
  by_cases h6 : dG D < 6
  · rw [if_pos h6] at hR
    have hr : trk none R (bnd (numS L n 9 (p + 1)) (fun y => bnd (numS L n 79 y.2) (fun u => bnd (gcl L n 5 u.2 (dAddC (dAddG D y.1) u.1)) (fun w => endS L n w.1 w.2)))) := ⟨fun _ => hR, fun e q => by cases q⟩
    first | refine gx_ift rfl (nI_lt (b := 6) h6 (by omega)) ?_ | refine gx_ict rfl (nI_lt (b := 6) h6 (by omega)) ?_
    (repeat (first | refine gx_run 999 80 rfl ?_ | refine gx_goto rfl rfl ?_))
    rw [hS.2.1, nI_1]
    refine gx_call rfl rfl rfl ?_
    refine xw_readNumber (hi := 9) (by omega) (hS.up (a' := p + 1) (by omega)) ?_
    intro σ1 a1 F1 v f1 hS1 hv hn
    have ht := trk_num hr hn
    (repeat (first | refine gx_run 999 80 rfl ?_ | refine gx_goto rfl rfl ?_))
    refine gx_call rfl rfl rfl ?_
    refine xw_addGuest (D := D) (hB.fr (fun o h1 h2 => by rw [f1 o (by omega), gu_o (by omega)])) h6 ?_
    intro σ2 f2 hB2
    (repeat (first | refine gx_run 999 80 rfl ?_ | refine gx_goto rfl rfl ?_))
    refine gx_call rfl rfl rfl ?_
    refine xw_readNumber (hi := 79) (by omega) (hS1.o f2) ?_
    intro σ3 a3 F3 u f3 hS3 hu hn3
    have ht3 := trk_num (k := fun u : Nat × Nat => bnd (gcl L n 5 u.2 (dAddC (dAddG D v) u.1)) (fun w => endS L n w.1 w.2)) ht hn3
    have c0 : dC (dAddG D v) (dG (dAddG D v) - 1) = 0 := by rw [aG_G, aG_C, if_pos (by omega)]
    (repeat (first | refine gx_run 999 80 rfl ?_ | refine gx_goto rfl rfl ?_))
    refine gx_call rfl rfl rfl ?_
    refine xw_addClaim (D := dAddG D v) (hB2.fr (fun o h1 h2 => f3 o (by omega))) (by rw [aG_G]; omega) (by rw [c0]; omega) hu ?_
    intro σ4 f4 hB4
    (refine gw_run 51 80 rfl ?_)
    refine xw_claimsL (σ0 := σ) (R := R) hQ 5 1 a3 σ4 F3 _ (by omega) (hS3.o f4) hB4 (by rw [aC_G, aG_G]; omega) (by rw [aC_G, aC_C, if_pos rfl, c0]) ht3 (fun o h1 h2 => ?_)
    rw [f4 o h2, f3 o h1, f2 o h2, f1 o h1, gu_o h1]
  · rw [if_neg h6] at hR
    first | refine gx_iff rfl (nI_nlt (b := 6) (by omega) (by omega)) ?_ | refine gx_icf rfl (nI_nlt (b := 6) (by omega) (by omega)) ?_
    (repeat (first | refine gx_run 999 80 rfl ?_ | refine gx_goto rfl rfl ?_))
    rw [hS.2.1]
    refine gx_call rfl rfl rfl ?_
    refine xw_blame (x := 3) hS ⟨by omega, by omega⟩ (by omega) ?_
    intro σ1 f1 hS1
    (repeat (first | refine gx_run 999 80 rfl ?_ | refine gx_goto rfl rfl ?_))
    refine gw_vret rfl ?_
    exact hQ σ1 p _ D (fun o h1 h2 => f1 o h1) hS1 (hB.fr (fun o h1 h2 => f1 o (by omega))) ⟨fun q => (by cases q), fun e q => by cases q; exact hR⟩
theorem xw_readClause {a : Nat} (hS : xS σ n L a none) (hp : hr L n a < n) (hB : xB σ D) (hQ : ∀ (σ' : gn_Mem) (a' : Nat) (F' : Option (Nat × Nat)) (D' : gD), (∀ o, o ≠ 1 → ¬ (36 ≤ o ∧ o ≤ 43) → σ' o = σ o) → xS σ' n L a' F' → xB σ' D' → trk F' (clS L n a D) (.inr (a', D')) → Q none σ') : gn_W (d + 4) 53 0 [.ref 1, .ref 36] [] σ Q := by
  have ha := hS.2.2.1
  generalize hR : clS L n a D = R at *
  have hR := hR.symm
  (repeat (first | refine gx_run 999 80 rfl ?_ | refine gx_goto rfl rfl ?_))
  refine gx_call rfl rfl rfl ?_
  refine xw_nextWord _ a σ _ rfl hS ?_
  intro σ1 f1 hS1
  have hB1 : xB σ1 D := hB.fr (fun o h1 h2 => f1 o (by omega))
  have hL := hS.1.l
  have hE := hB.1.2.2.1
  unfold clS at hR
  generalize hr L n a = p at *
  have hQ1 : ∀ (σ' : gn_Mem) (a' : Nat) (F' : Option (Nat × Nat)) (D' : gD), (∀ o, o ≠ 1 → ¬ (36 ≤ o ∧ o ≤ 43) → σ' o = σ1 o) → xS σ' n L a' F' → xB σ' D' → trk F' R (.inr (a', D')) → gn_W (d + 4) 53 85 [.ref 1, .ref 36, .int (ch L n p)] [] σ' Q := fun σ' a' F' D' f hS' hB' ht => by
    refine gw_vret rfl ?_
    exact hQ σ' a' F' D' (fun o h1 h2 => by rw [f o h1 h2, f1 o h1]) hS' hB' ht
  have bla : ∀ x, 1 ≤ x ∧ x ≤ 3 → R = .inl (x, p) → gn_W (d + 3) 62 0 [.ref 1, .int (nI x), .int (nI p)] [] σ1 (fun rv σ' => gn_W (d + 4) 53 85 [.ref 1, .ref 36, .int (ch L n p)] (rv.toList ++ []) σ' Q) := by
    intro x hx hRx
    refine xw_blame hS1 hx (by omega) ?_
    intro σ2 f2 hS2
    exact hQ1 σ2 p _ D (fun o h1 h2 => f2 o h1) hS2 (hB1.fr (fun o h1 h2 => f2 o (by omega))) ⟨fun q => (by cases q), fun e q => by cases q; exact hRx⟩
  (repeat (first | refine gx_run 999 80 rfl ?_ | refine gx_goto rfl rfl ?_))
  rw [hB1.2.1]
  by_cases h0 : dE D = 0
  · rw [if_pos h0] at hR
    rw [h0]
    first | refine gx_iff rfl (by dsimp only [gn_cmp] <;> decide) ?_ | refine gx_icf rfl (by dsimp only [gn_cmp] <;> decide) ?_
    (repeat (first | refine gx_run 999 80 rfl ?_ | refine gx_goto rfl rfl ?_))
    by_cases h1 : L p = 116
    · rw [if_pos h1] at hR
      first | refine gx_iff rfl (fun z => z ((ch_eq hL (c := 116) (by omega)).mpr ⟨hp, h1⟩)) ?_ | refine gx_icf rfl (fun z => z ((ch_eq hL (c := 116) (by omega)).mpr ⟨hp, h1⟩)) ?_
      (repeat (first | refine gx_run 999 80 rfl ?_ | refine gx_goto rfl rfl ?_))
      refine gx_call rfl rfl rfl ?_
      refine xw_readTruths hS1 hp hB1 hR ?_
      intro σ2 a2 F2 D2 f2 hS2 hB2 ht2
      (repeat (first | refine gx_run 999 80 rfl ?_ | refine gx_goto rfl rfl ?_))
      exact hQ1 σ2 a2 F2 D2 f2 hS2 hB2 ht2
    · rw [if_neg h1] at hR
      first | refine gx_ift rfl (fun z => h1 ((ch_eq hL (c := 116) (by omega)).mp z).2) ?_ | refine gx_ict rfl (fun z => h1 ((ch_eq hL (c := 116) (by omega)).mp z).2) ?_
      (repeat (first | refine gx_run 999 80 rfl ?_ | refine gx_goto rfl rfl ?_))
      rw [hS1.2.1]
      refine gx_call rfl rfl rfl ?_
      refine gw_mono (bla 1 ⟨by omega, by omega⟩ hR) (fun rv σ' q => ?_)
      (repeat (first | refine gx_run 999 80 rfl ?_ | refine gx_goto rfl rfl ?_))
      exact q
  · rw [if_neg h0] at hR
    first | refine gx_ift rfl (nI_ne0 (by omega) (by omega)) ?_ | refine gx_ict rfl (nI_ne0 (by omega) (by omega)) ?_
    (repeat (first | refine gx_run 999 80 rfl ?_ | refine gx_goto rfl rfl ?_))
    by_cases h1 : L p = 103
    · rw [if_pos h1] at hR
      first | refine gx_iff rfl (fun z => z ((ch_eq hL (c := 103) (by omega)).mpr ⟨hp, h1⟩)) ?_ | refine gx_icf rfl (fun z => z ((ch_eq hL (c := 103) (by omega)).mpr ⟨hp, h1⟩)) ?_
      (repeat (first | refine gx_run 999 80 rfl ?_ | refine gx_goto rfl rfl ?_))
      refine gx_call rfl rfl rfl ?_
      refine xw_readGuest hS1 hp hB1 hR ?_
      intro σ2 a2 F2 D2 f2 hS2 hB2 ht2
      (repeat (first | refine gx_run 999 80 rfl ?_ | refine gx_goto rfl rfl ?_))
      exact hQ1 σ2 a2 F2 D2 f2 hS2 hB2 ht2
    · rw [if_neg h1] at hR
      first | refine gx_ift rfl (fun z => h1 ((ch_eq hL (c := 103) (by omega)).mp z).2) ?_ | refine gx_ict rfl (fun z => h1 ((ch_eq hL (c := 103) (by omega)).mp z).2) ?_
      (repeat (first | refine gx_run 999 80 rfl ?_ | refine gx_goto rfl rfl ?_))
      by_cases h2 : L p = 104
      · rw [if_pos h2] at hR
        first | refine gx_iff rfl (fun z => z ((ch_eq hL (c := 104) (by omega)).mpr ⟨hp, h2⟩)) ?_ | refine gx_icf rfl (fun z => z ((ch_eq hL (c := 104) (by omega)).mpr ⟨hp, h2⟩)) ?_
        (repeat (first | refine gx_run 999 80 rfl ?_ | refine gx_goto rfl rfl ?_))
        refine gx_call rfl rfl rfl ?_
        refine xw_readHost hS1 hp hB1 hR ?_
        intro σ2 a2 F2 D2 f2 hS2 hB2 ht2
        (repeat (first | refine gx_run 999 80 rfl ?_ | refine gx_goto rfl rfl ?_))
        exact hQ1 σ2 a2 F2 D2 f2 hS2 hB2 ht2
      · rw [if_neg h2] at hR
        first | refine gx_ift rfl (fun z => h2 ((ch_eq hL (c := 104) (by omega)).mp z).2) ?_ | refine gx_ict rfl (fun z => h2 ((ch_eq hL (c := 104) (by omega)).mp z).2) ?_
        (repeat (first | refine gx_run 999 80 rfl ?_ | refine gx_goto rfl rfl ?_))
        by_cases h3 : L p = 116
        · rw [if_pos h3] at hR
          first | refine gx_iff rfl (fun z => z ((ch_eq hL (c := 116) (by omega)).mpr ⟨hp, h3⟩)) ?_ | refine gx_icf rfl (fun z => z ((ch_eq hL (c := 116) (by omega)).mpr ⟨hp, h3⟩)) ?_
          (repeat (first | refine gx_run 999 80 rfl ?_ | refine gx_goto rfl rfl ?_))
          rw [hS1.2.1]
          refine gx_call rfl rfl rfl ?_
          exact bla 3 ⟨by omega, by omega⟩ hR
        · rw [if_neg h3] at hR
          first | refine gx_ift rfl (fun z => h3 ((ch_eq hL (c := 116) (by omega)).mp z).2) ?_ | refine gx_ict rfl (fun z => h3 ((ch_eq hL (c := 116) (by omega)).mp z).2) ?_
          (repeat (first | refine gx_run 999 80 rfl ?_ | refine gx_goto rfl rfl ?_))
          rw [hS1.2.1]
          refine gx_call rfl rfl rfl ?_
          exact bla 1 ⟨by omega, by omega⟩ hR
theorem xw_isMore {a : Nat} (hS : xS σ n L a F) (hQ : ∀ σ' : gn_Mem, (∀ o, o ≠ 1 → σ' o = σ o) → xS σ' n L (if F = none then hr L n a else a) F → Q (some (.int (gb (F = none ∧ hr L n a < n)))) σ') : gn_W (d + 2) 52 0 [.ref 1] [] σ Q := by
  have hf := hS.2.2.2
  (repeat (first | refine gx_run 999 80 rfl ?_ | refine gx_goto rfl rfl ?_))
  cases F with
  | none =>
    have hf : σ 1 3 = 0 ∧ σ 1 4 = -1 := hf
    rw [hf.1]
    first | refine gx_iff rfl (by dsimp only [gn_cmp] <;> decide) ?_ | refine gx_icf rfl (by dsimp only [gn_cmp] <;> decide) ?_
    (repeat (first | refine gx_run 999 80 rfl ?_ | refine gx_goto rfl rfl ?_))
    refine gx_call rfl rfl rfl ?_
    refine xw_nextWord _ a σ _ rfl hS ?_
    intro σ1 f1 hS1
    have h1 := hQ σ1 f1 (by rw [if_pos rfl]; exact hS1)
    (repeat (first | refine gx_run 999 80 rfl ?_ | refine gx_goto rfl rfl ?_))
    by_cases q : hr L n a < n
    · rw [gb_t ⟨rfl, q⟩] at h1
      first | refine gx_iff rfl (fun z => absurd q ((ch_end hS.1.l).mp z)) ?_ | refine gx_icf rfl (fun z => absurd q ((ch_end hS.1.l).mp z)) ?_
      (repeat (first | refine gx_run 999 80 rfl ?_ | refine gx_goto rfl rfl ?_))
      refine gw_zret rfl (Or.inr rfl) ?_
      exact h1
    · rw [gb_f (fun z => q z.2)] at h1
      first | refine gx_ift rfl ((ch_end hS.1.l).mpr q) ?_ | refine gx_ict rfl ((ch_end hS.1.l).mpr q) ?_
      (repeat (first | refine gx_run 999 80 rfl ?_ | refine gx_goto rfl rfl ?_))
      refine gw_zret rfl (Or.inl rfl) ?_
      exact h1
  | some e =>
    have hf : σ 1 3 = nI e.1 ∧ σ 1 4 = nI e.2 ∧ 1 ≤ e.1 ∧ e.1 ≤ 3 ∧ e.2 ≤ 240 := hf
    rw [hf.1]
    have h1 := hQ σ (fun _ _ => rfl) (by rw [if_neg (fun z => by cases z)]; exact hS)
    rw [gb_f (fun z => by cases z.1)] at h1
    first | refine gx_ift rfl (nI_ne0 (by omega) (by omega)) ?_ | refine gx_ict rfl (nI_ne0 (by omega) (by omega)) ?_
    (repeat (first | refine gx_run 999 80 rfl ?_ | refine gx_goto rfl rfl ?_))
    refine gw_zret rfl (Or.inl rfl) ?_
    exact h1
theorem clS_hr {a : Nat} (ha : a ≤ n) : clS L n (hr L n a) D = clS L n a D := by
  unfold clS
  rw [hr_hr ha]
theorem xw_readL {σ0 : gn_Mem} {R : rE gD} (hQ : ∀ (σ' : gn_Mem) (a : Nat) (F' : Option (Nat × Nat)) (D' : gD), (∀ o, o ≠ 1 → ¬ (36 ≤ o ∧ o ≤ 43) → σ' o = σ0 o) → xS σ' n L a F' → xB σ' D' → trk F' R (.inr D') → (F' = none → gW D') → gn_W (d + 5) 51 46 [.ref 1, .ref 36] [] σ' Q) : ∀ (j i a f : Nat) (σ : gn_Mem) (F : Option (Nat × Nat)) (D : gD), i + j = 240 → xS σ n L a F → xB σ D → (F = none → i ≤ a ∧ gW D) → n + 1 ≤ a + f → trk F R (rdS L n f a D) → (∀ o, o ≠ 1 → ¬ (36 ≤ o ∧ o ≤ 43) → σ o = σ0 o) → gn_W (d + 5) 51 21 [.ref 1, .ref 36, .int (nI i)] [] σ Q := by
  intro j
  induction j with
  | zero =>
    intro i a f σ F D hi hS hB hF hf ht f0
    have h240 := hS.1.1
    have ha := hS.2.2.1
    (repeat (first | refine gx_run 999 80 rfl ?_ | refine gx_goto rfl rfl ?_))
    first | refine gx_ift rfl (nI_le (a := 240) (by omega) (by omega)) ?_ | refine gx_ict rfl (nI_le (a := 240) (by omega) (by omega)) ?_
    refine gx_drop [_, _] [_] (by rfl) (hQ σ a F D f0 hS hB ⟨fun q => ?_, ht.2⟩ (fun q => (hF q).2))
    have h1 := ht.1 q
    have h2 := (hF q).1
    rw [h1]
    cases f with
    | zero => rfl
    | succ f =>
      unfold rdS
      rw [hr_stop (fun z => by omega), if_neg (by omega)]
  | succ j ih =>
    intro i a f σ F D hi hS hB hF hf ht f0
    have h240 := hS.1.1
    have ha := hS.2.2.1
    have hl := hr_le (L := L) ha
    obtain ⟨f, rfl⟩ : ∃ f', f = f' + 1 := ⟨f - 1, by omega⟩
    unfold rdS at ht
    (repeat (first | refine gx_run 999 80 rfl ?_ | refine gx_goto rfl rfl ?_))
    first | refine gx_iff rfl (nI_ge (b := 240) (by omega) (by omega)) ?_ | refine gx_icf rfl (nI_ge (b := 240) (by omega) (by omega)) ?_
    (repeat (first | refine gx_run 999 80 rfl ?_ | refine gx_goto rfl rfl ?_))
    refine gx_call rfl rfl rfl ?_
    refine xw_isMore hS ?_
    intro σ1 f1 hS1
    have hB1 : xB σ1 D := hB.fr (fun o h1 h2 => f1 o (by omega))
    (repeat (first | refine gx_run 999 80 rfl ?_ | refine gx_goto rfl rfl ?_))
    by_cases q : F = none ∧ hr L n a < n
    · obtain ⟨rfl, q⟩ := q
      rw [if_pos rfl] at hS1
      rw [if_pos q] at ht
      rw [gb_t ⟨rfl, q⟩]
      first | refine gx_iff rfl (by dsimp only [gn_cmp] <;> decide) ?_ | refine gx_icf rfl (by dsimp only [gn_cmp] <;> decide) ?_
      (repeat (first | refine gx_run 999 80 rfl ?_ | refine gx_goto rfl rfl ?_))
      refine gx_call rfl rfl rfl ?_
      refine xw_readClause (D := D) hS1 (by rw [hr_hr ha]; exact q) hB1 ?_
      intro σ2 a2 F2 D2 f2 hS2 hB2 ht2
      rw [clS_hr ha] at ht2
      (repeat (first | refine gx_run 999 80 rfl ?_ | refine gx_goto rfl rfl ?_))
      refine gw_goto rfl ?_
      rw [nI_1]
      have hin := hF rfl
      have ht1 := ht.1 rfl
      cases F2 with
      | none =>
        have h3 := ht2.1 rfl
        have h4 := clS_ok ha q hin.2 h3
        rw [h3] at ht1
        exact ih (i + 1) a2 f σ2 none D2 (by omega) hS2 hB2 (fun _ => ⟨by omega, h4.1⟩) (by omega) ⟨fun _ => ht1, fun e z => by cases z⟩ (fun o h1 h2 => by rw [f2 o h1 h2, f1 o h1, f0 o h1 h2])
      | some e =>
        have h3 := ht2.2 e rfl
        rw [h3] at ht1
        exact ih (i + 1) a2 (n + 1) σ2 (some e) D2 (by omega) hS2 hB2 (fun z => by cases z) (by omega) ⟨fun z => (by cases z), fun e' z => by cases z; exact ht1⟩ (fun o h1 h2 => by rw [f2 o h1 h2, f1 o h1, f0 o h1 h2])
    · rw [gb_f q]
      first | refine gx_ift rfl (by dsimp only [gn_cmp] <;> decide) ?_ | refine gx_ict rfl (by dsimp only [gn_cmp] <;> decide) ?_
      refine gx_drop [_, _] [_] (by rfl) (hQ σ1 _ F D (fun o h1 h2 => by rw [f1 o h1, f0 o h1 h2]) hS1 hB1 ⟨fun z => ?_, ht.2⟩ (fun z => (hF z).2))
      have h1 := ht.1 z
      rw [if_neg (fun z2 => q ⟨z, z2⟩)] at h1
      exact h1
theorem xw_readInto (hX : tX σ n L) (hQ : ∀ (σ' : gn_Mem) (F' : Option (Nat × Nat)) (D' : gD), (∀ o, o ≠ 1 → ¬ (36 ≤ o ∧ o ≤ 43) → σ' o = σ o) → σ' 1 1 = 0 → fE F' (σ' 1 3) (σ' 1 4) → xB σ' D' → trk F' (rdS L n (n + 1) 0 (fun _ _ _ => 0)) (.inr D') → (F' = none → gW D') → Q none σ') : gn_W (d + 5) 51 0 [.ref 1, .ref 36] [] σ Q := by
  (repeat (first | refine gx_run 999 80 rfl ?_ | refine gx_goto rfl rfl ?_))
  refine gx_call rfl rfl rfl ?_
  refine xw_clear ?_
  intro σ1 f1 hB1
  (refine gw_run 21 80 rfl ?_)
  generalize hσ : gn_up (gn_up (gn_up σ1 1 2 0) 1 3 0) 1 4 (-1) = σ2
  have g1 : ∀ o, o ≠ 1 → σ2 o = σ1 o := fun o ho => by rw [← hσ, gu_o ho, gu_o ho, gu_o ho]
  refine xw_readL (σ0 := σ) (n := n) (L := L) (R := rdS L n (n + 1) 0 (fun _ _ _ => 0)) ?_ 240 0 0 (n + 1) σ2 none (fun _ _ _ => 0) (by omega) ⟨hX.fr ?_ ?_, ?_, by omega, ?_, ?_⟩ (hB1.fr (fun o h1 h2 => g1 o (by omega))) (fun _ => ⟨by omega, ?_⟩) (by omega) ⟨fun _ => rfl, fun e q => by cases q⟩ (fun o h1 h2 => ?_)
  · intro σ3 a F' D' f3 hS3 hB3 ht hW
    (repeat (first | refine gx_run 999 80 rfl ?_ | refine gx_goto rfl rfl ?_))
    refine gw_vret rfl ?_
    refine hQ _ F' D' (fun o h1 h2 => by rw [gu_o h1, f3 o h1 h2]) gu_s ?_ (hB3.fr (fun o h1 h2 => gu_o (by omega))) ht hW
    rw [gu_k (Or.inr (by decide)), gu_k (Or.inr (by decide))]
    exact hS3.2.2.2
  · rw [← hσ, gu_k (by omega), gu_k (by omega), gu_k (by omega), f1 1 (by omega)]
  · rw [g1 2 (by omega), f1 2 (by omega)]
  · rw [← hσ, gu_k (by omega), gu_k (by omega), gu_s]; rfl
  · rw [← hσ, gu_k (by omega), gu_s]
  · rw [← hσ, gu_s]
  · exact ⟨by show 0 ≤ 6; omega, by show 0 ≤ 4; omega, by show 0 ≤ 1; omega, by show 0 < 256; omega, fun g (hg : g < 0) => by omega, fun g k (hg : g < 0) => by omega, fun g (hg : g < 0) => by omega⟩
  · rw [g1 o h1, f1 o (by omega)]
end
