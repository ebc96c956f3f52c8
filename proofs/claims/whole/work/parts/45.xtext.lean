/-! the class's Reader and its table -/
def xB (σ : gn_Mem) (D : gD) : Prop := gB D ∧ σ 36 0 = nI (dE D) ∧ σ 36 1 = nI (dF D) ∧ σ 36 2 = nI (dG D) ∧ σ 36 3 = nI (dH D) ∧ (∀ g, g < dG D → σ 37 g = nI (dP D g) ∧ σ 38 g = nI (dC D g) ∧ σ 41 g = nI (dS D g)) ∧ (∀ g k, g < dG D → k < dC D g → σ 39 (6 * g + k) = nI (dT D g k) ∧ σ 40 (6 * g + k) = nI (dB D g k)) ∧ (∀ h, h < dH D → σ 42 h = nI (dK D h) ∧ σ 43 h = nI (dN D h))
theorem xB.fr {σ σ' : gn_Mem} {D : gD} (h : xB σ D) (e : ∀ o, 36 ≤ o → o ≤ 43 → σ' o = σ o) : xB σ' D := by
  unfold xB
  rw [e 36 (by omega) (by omega), e 37 (by omega) (by omega), e 38 (by omega) (by omega), e 39 (by omega) (by omega), e 40 (by omega) (by omega), e 41 (by omega) (by omega), e 42 (by omega) (by omega), e 43 (by omega) (by omega)]
  exact h
theorem xB.T {σ : gn_Mem} {D : gD} (h : xB σ D) (hW : gW D) : gT 36 σ D := ⟨hW, h.2.1, h.2.2.1, h.2.2.2.1, h.2.2.2.2.1, h.2.2.2.2.2.1, h.2.2.2.2.2.2.1, h.2.2.2.2.2.2.2⟩
section
variable {d n : Nat} {L : Nat → Nat} {σ : gn_Mem} {Q : Option Value → gn_Mem → Prop} {D : gD} {F : Option (Nat × Nat)}
theorem xw_clear (hQ : ∀ σ' : gn_Mem, (∀ o, o ≠ 36 → σ' o = σ o) → xB σ' (fun _ _ _ => 0) → Q none σ') : gn_W d 63 0 [.ref 36] [] σ Q := by
  (repeat (first | refine gx_run 999 80 rfl ?_ | refine gx_goto rfl rfl ?_))
  refine gw_putb rfl rfl rfl (Or.inl rfl) ?_
  (repeat (first | refine gx_run 999 80 rfl ?_ | refine gx_goto rfl rfl ?_))
  refine gw_vret rfl ?_
  refine hQ _ (fun o ho => by rw [gu_o ho, gu_o ho, gu_o ho, gu_o ho]) ⟨⟨by show 0 ≤ 6; omega, by show 0 ≤ 4; omega, by show 0 ≤ 1; omega, fun g (hg : g < 0) => by omega⟩, ?_, ?_, ?_, ?_, fun g (hg : g < 0) => by omega, fun g k (hg : g < 0) => by omega, fun g (hg : g < 0) => by omega⟩
  · rw [gu_k (Or.inr (by decide)), gu_k (Or.inr (by decide)), gu_k (Or.inr (by decide)), gu_s]; rfl
  · rw [gu_k (Or.inr (by decide)), gu_k (Or.inr (by decide)), gu_s]; rfl
  · rw [gu_k (Or.inr (by decide)), gu_s]; rfl
  · rw [gu_s]; rfl
theorem xw_addGuest {v : Nat} (hB : xB σ D) (hG : dG D < 6) (hQ : ∀ σ' : gn_Mem, (∀ o, ¬ (36 ≤ o ∧ o ≤ 43) → σ' o = σ o) → xB σ' (dAddG D v) → Q none σ') : gn_W d 64 0 [.ref 36, .int (nI v)] [] σ Q := by
  obtain ⟨b1, b2, b3, b4, b5, b6, b7, b8⟩ := id hB
  (repeat (first | refine gx_run 999 80 rfl ?_ | refine gx_goto rfl rfl ?_))
  rw [b4]
  first | refine gx_ift rfl (nI_lt (b := 6) hG (by omega)) ?_ | refine gx_ict rfl (nI_lt (b := 6) hG (by omega)) ?_
  (repeat (first | refine gx_run 999 80 rfl ?_ | refine gx_goto rfl rfl ?_))
  rw [b4]
  refine gx_st (dG D) rfl (by omega) rfl rfl rfl ?_
  (repeat (first | refine gx_run 999 80 rfl ?_ | refine gx_goto rfl rfl ?_))
  rw [show gn_up σ 37 (dG D) (nI v) 36 2 = nI (dG D) by rw [gu_k (Or.inl (by decide))]; exact b4]
  refine gx_st (dG D) rfl (by omega) rfl rfl rfl ?_
  (repeat (first | refine gx_run 999 80 rfl ?_ | refine gx_goto rfl rfl ?_))
  rw [show gn_up (gn_up σ 37 (dG D) (nI v)) 38 (dG D) 0 36 2 = nI (dG D) by rw [gu_k (Or.inl (by decide)), gu_k (Or.inl (by decide))]; exact b4]
  refine gx_st (dG D) rfl (by omega) rfl rfl rfl ?_
  generalize hσ : gn_up (gn_up (gn_up σ 37 (dG D) (nI v)) 38 (dG D) 0) 41 (dG D) 0 = σ1
  have f1 : ∀ o, o ≠ 37 → o ≠ 38 → o ≠ 41 → σ1 o = σ o := fun o a1 a2 a3 => by rw [← hσ, gu_o a3, gu_o a2, gu_o a1]
  have c37 : ∀ g, σ1 37 g = if g = dG D then nI v else σ 37 g := fun g => by
    rw [← hσ, gu_k (by omega), gu_k (by omega)]
    by_cases e : g = dG D
    · rw [if_pos e, e, gu_s]
    · rw [if_neg e, gu_k (Or.inr e)]
  have c38 : ∀ g, σ1 38 g = if g = dG D then 0 else σ 38 g := fun g => by
    rw [← hσ, gu_k (by omega)]
    by_cases e : g = dG D
    · rw [if_pos e, e, gu_s]
    · rw [if_neg e, gu_k (Or.inr e), gu_k (by omega)]
  have c41 : ∀ g, σ1 41 g = if g = dG D then 0 else σ 41 g := fun g => by
    rw [← hσ]
    by_cases e : g = dG D
    · rw [if_pos e, e, gu_s]
    · rw [if_neg e, gu_k (Or.inr e), gu_k (by omega), gu_k (by omega)]
  (repeat (first | refine gx_run 999 80 rfl ?_ | refine gx_goto rfl rfl ?_))
  rw [show σ1 36 2 = nI (dG D) by rw [f1 36 (by omega) (by omega) (by omega)]; exact b4, nI_1]
  refine gw_vret rfl ?_
  generalize hσ2 : gn_up σ1 36 2 (nI (dG D + 1)) = σ2
  have g1 : ∀ o, o ≠ 36 → σ2 o = σ1 o := fun o ho => by rw [← hσ2, gu_o ho]
  have g2 : ∀ k, k ≠ 2 → σ2 36 k = σ 36 k := fun k hk => by rw [← hσ2, gu_k (Or.inr hk), f1 36 (by omega) (by omega) (by omega)]
  have g3 : σ2 36 2 = nI (dG D + 1) := by rw [← hσ2, gu_s]
  refine hQ σ2 (fun o ho => by rw [g1 o (by omega), f1 o (by omega) (by omega) (by omega)]) ⟨gB_G b1 hG, ?_, ?_, ?_, ?_, fun g hg => ?_, fun g k hg hk => ?_, fun h hh => ?_⟩
  · rw [aG_E, g2 0 (by omega)]; exact b2
  · rw [aG_F, g2 1 (by omega)]; exact b3
  · rw [aG_G]; exact g3
  · rw [aG_H, g2 3 (by omega)]; exact b5
  · rw [aG_G] at hg
    rw [aG_P, aG_C, aG_S, g1 37 (by omega), g1 38 (by omega), g1 41 (by omega), c37, c38, c41]
    by_cases e : g = dG D
    · rw [if_pos e, if_pos e, if_pos e, if_pos e, if_pos e, if_pos e]; exact ⟨rfl, rfl, rfl⟩
    · rw [if_neg e, if_neg e, if_neg e, if_neg e, if_neg e, if_neg e]; exact b6 g (by omega)
  · rw [aG_G] at hg
    rw [aG_C] at hk
    by_cases e : g = dG D
    · rw [if_pos e] at hk; omega
    · rw [if_neg e] at hk
      rw [aG_T, aG_B, g1 39 (by omega), g1 40 (by omega), f1 39 (by omega) (by omega) (by omega), f1 40 (by omega) (by omega) (by omega)]
      exact b7 g k (by omega) hk
  · rw [aG_H] at hh
    rw [aG_K, aG_N, g1 42 (by omega), g1 43 (by omega), f1 42 (by omega) (by omega) (by omega), f1 43 (by omega) (by omega) (by omega)]
    exact b8 h hh
theorem xw_addClaim {v : Nat} (hB : xB σ D) (hG : 1 ≤ dG D) (hC : dC D (dG D - 1) < 6) (hv : v ≤ 79) (hQ : ∀ σ' : gn_Mem, (∀ o, ¬ (36 ≤ o ∧ o ≤ 43) → σ' o = σ o) → xB σ' (dAddC D v) → Q none σ') : gn_W (d + 1) 65 0 [.ref 36, .int (nI v)] [] σ Q := by
  obtain ⟨b1, b2, b3, b4, b5, b6, b7, b8⟩ := id hB
  have hG6 := b1.1
  have hB2 := gB_C (v := v) b1 hC hv
  have hd1 := aC_S (D := D) (v := v) (g := dG D - 1)
  obtain ⟨g, hg⟩ : ∃ g, dG D = g + 1 := ⟨dG D - 1, by omega⟩
  have hg1 : dG D - 1 = g := by omega
  have hs := gB_S b1 (g := g) (by omega)
  have b6g := b6 g (by omega)
  rw [hg1] at hC
  generalize hk : dC D g = k at *
  (repeat (first | refine gx_run 999 80 rfl ?_ | refine gx_goto rfl rfl ?_))
  rw [b4, hg, nI_pred]
  refine gx_call rfl rfl rfl ?_
  refine xw_hasGuest (Or.inr rfl) ?_
  rw [b4, gb_t (nI_j (by omega) (by omega))]
  (repeat (first | refine gx_run 999 80 rfl ?_ | refine gx_goto rfl rfl ?_))
  first | refine gx_iff rfl (by dsimp only [gn_cmp] <;> decide) ?_ | refine gx_icf rfl (by dsimp only [gn_cmp] <;> decide) ?_
  (repeat (first | refine gx_run 999 80 rfl ?_ | refine gx_goto rfl rfl ?_))
  refine gx_ld g rfl (by omega) b6g.2.1 rfl rfl rfl ?_
  (repeat (first | refine gx_run 999 80 rfl ?_ | refine gx_goto rfl rfl ?_))
  first | refine gx_ift rfl (nI_lt (b := 6) hC (by omega)) ?_ | refine gx_ict rfl (nI_lt (b := 6) hC (by omega)) ?_
  (repeat (first | refine gx_run 999 80 rfl ?_ | refine gx_goto rfl rfl ?_))
  refine gx_ld g rfl (by omega) b6g.2.1 rfl rfl rfl ?_
  (repeat (first | refine gx_run 999 80 rfl ?_ | refine gx_goto rfl rfl ?_))
  rw [ix6]
  refine gw_idiv rfl (by decide) ?_
  rw [show nI v / 10 = nI (v / 10) from pk_div (d := 10) (by omega) (by omega) (by omega)]
  refine gx_st (6 * g + k) rfl (by omega) rfl rfl rfl ?_
  (repeat (first | refine gx_run 999 80 rfl ?_ | refine gx_goto rfl rfl ?_))
  refine gw_irem rfl (by decide) ?_
  rw [show nI v - nI v / 10 * 10 = nI (v % 10) from pk_rem (d := 10) (by omega) (by omega) (by omega)]
  refine gx_st (6 * g + k) rfl (by omega) rfl rfl rfl ?_
  generalize hσ : gn_up (gn_up σ 39 (6 * g + k) (nI (v / 10))) 40 (6 * g + k) (nI (v % 10)) = σ1
  have f1 : ∀ o, o ≠ 39 → o ≠ 40 → σ1 o = σ o := fun o a1 a2 => by rw [← hσ, gu_o a2, gu_o a1]
  have c39 : ∀ j, σ1 39 j = if j = 6 * g + k then nI (v / 10) else σ 39 j := fun j => by
    rw [← hσ, gu_k (by omega)]
    by_cases e : j = 6 * g + k
    · rw [if_pos e, e, gu_s]
    · rw [if_neg e, gu_k (Or.inr e)]
  have c40 : ∀ j, σ1 40 j = if j = 6 * g + k then nI (v % 10) else σ 40 j := fun j => by
    rw [← hσ]
    by_cases e : j = 6 * g + k
    · rw [if_pos e, e, gu_s]
    · rw [if_neg e, gu_k (Or.inr e), gu_k (by omega)]
  (repeat (first | refine gx_run 999 80 rfl ?_ | refine gx_goto rfl rfl ?_))
  refine gx_ld g rfl (by omega) (show σ1 41 g = nI (dS D g) by rw [f1 41 (by omega) (by omega)]; exact b6g.2.2) rfl rfl rfl ?_
  (repeat (first | refine gx_run 999 80 rfl ?_ | refine gx_goto rfl rfl ?_))
  refine gx_ld (6 * g + k) rfl (by omega) (show σ1 39 (6 * g + k) = nI (v / 10) by rw [c39, if_pos rfl]) rfl rfl rfl ?_
  (repeat (first | refine gx_run 999 80 rfl ?_ | refine gx_goto rfl rfl ?_))
  rw [or_bit _ hs (v / 10) (by omega)]
  refine gx_st g rfl (by omega) rfl rfl rfl ?_
  (repeat (first | refine gx_run 999 80 rfl ?_ | refine gx_goto rfl rfl ?_))
  refine gx_ld g rfl (by omega) (show gn_up σ1 41 g (nI (dS D g ||| 2 ^ (v / 10))) 38 g = nI k by rw [gu_k (Or.inl (by decide)), f1 38 (by omega) (by omega)]; exact b6g.2.1) rfl rfl rfl ?_
  (repeat (first | refine gx_run 999 80 rfl ?_ | refine gx_goto rfl rfl ?_))
  rw [nI_1]
  refine gx_st g rfl (by omega) rfl rfl rfl ?_
  (repeat (first | refine gx_run 999 80 rfl ?_ | refine gx_goto rfl rfl ?_))
  refine gw_vret rfl ?_
  generalize hσ2 : gn_up (gn_up σ1 41 g (nI (dS D g ||| 2 ^ (v / 10)))) 38 g (nI (k + 1)) = σ2
  have g1 : ∀ o, o ≠ 38 → o ≠ 41 → σ2 o = σ1 o := fun o a1 a2 => by rw [← hσ2, gu_o a1, gu_o a2]
  have c38 : ∀ j, σ2 38 j = if j = g then nI (k + 1) else σ 38 j := fun j => by
    rw [← hσ2]
    by_cases e : j = g
    · rw [if_pos e, e, gu_s]
    · rw [if_neg e, gu_k (Or.inr e), gu_k (Or.inl (by decide)), f1 38 (by omega) (by omega)]
  have c41 : ∀ j, σ2 41 j = if j = g then nI (dS D g ||| 2 ^ (v / 10)) else σ 41 j := fun j => by
    rw [← hσ2, gu_k (Or.inl (by decide))]
    by_cases e : j = g
    · rw [if_pos e, e, gu_s]
    · rw [if_neg e, gu_k (Or.inr e), f1 41 (by omega) (by omega)]
  have z36 : σ2 36 = σ 36 := by rw [g1 36 (by omega) (by omega), f1 36 (by omega) (by omega)]
  refine hQ σ2 (fun o ho => by rw [g1 o (by omega) (by omega), f1 o (by omega) (by omega)]) ⟨hB2, ?_, ?_, ?_, ?_, fun j hj => ?_, fun j i hj hi => ?_, fun h hh => ?_⟩
  · rw [aC_E, z36]; exact b2
  · rw [aC_F, z36]; exact b3
  · rw [aC_G, z36]; exact b4
  · rw [aC_H, z36]; exact b5
  · rw [aC_G] at hj
    rw [aC_P, aC_C, aC_S, hg1, g1 37 (by omega) (by omega), f1 37 (by omega) (by omega), c38, c41]
    have := b6 j hj
    by_cases e : j = g
    · rw [if_pos e, if_pos e, if_pos e, if_pos e, hk]; exact ⟨this.1, rfl, rfl⟩
    · rw [if_neg e, if_neg e, if_neg e, if_neg e]; exact this
  · rw [aC_G] at hj
    rw [aC_C, hg1] at hi
    rw [aC_T, aC_B, hg1, hk, g1 39 (by omega) (by omega), g1 40 (by omega) (by omega), c39, c40]
    have h6 := (b1.2.2.2 j hj).1
    by_cases e : j = g
    · rw [if_pos e, hk] at hi
      by_cases e2 : i = k
      · rw [if_pos (show 6 * j + i = 6 * g + k by omega), if_pos (show j = g ∧ i = k from ⟨e, e2⟩), if_pos (show 6 * j + i = 6 * g + k by omega), if_pos (show j = g ∧ i = k from ⟨e, e2⟩)]; exact ⟨rfl, rfl⟩
      · rw [if_neg (show ¬ 6 * j + i = 6 * g + k by omega), if_neg (show ¬ (j = g ∧ i = k) from fun q => e2 q.2), if_neg (show ¬ 6 * j + i = 6 * g + k by omega), if_neg (show ¬ (j = g ∧ i = k) from fun q => e2 q.2)]
        exact b7 j i hj (by rw [e, hk]; omega)
    · rw [if_neg e] at hi
      have h6i : i < 6 := by omega
      rw [if_neg (show ¬ 6 * j + i = 6 * g + k by omega), if_neg (show ¬ (j = g ∧ i = k) from fun q => e q.1), if_neg (show ¬ 6 * j + i = 6 * g + k by omega), if_neg (show ¬ (j = g ∧ i = k) from fun q => e q.1)]
      exact b7 j i hj hi
  · rw [aC_H] at hh
    rw [aC_K, aC_N, g1 42 (by omega) (by omega), g1 43 (by omega) (by omega), f1 42 (by omega) (by omega), f1 43 (by omega) (by omega)]
    exact b8 h hh
theorem xw_addHost {kd v : Nat} (hB : xB σ D) (hH : dH D < 4) (hQ : ∀ σ' : gn_Mem, (∀ o, ¬ (36 ≤ o ∧ o ≤ 43) → σ' o = σ o) → xB σ' (dAddH D kd v) → Q none σ') : gn_W d 66 0 [.ref 36, .int (nI kd), .int (nI v)] [] σ Q := by
  obtain ⟨b1, b2, b3, b4, b5, b6, b7, b8⟩ := id hB
  (repeat (first | refine gx_run 999 80 rfl ?_ | refine gx_goto rfl rfl ?_))
  rw [b5]
  first | refine gx_ift rfl (nI_lt (b := 4) hH (by omega)) ?_ | refine gx_ict rfl (nI_lt (b := 4) hH (by omega)) ?_
  (repeat (first | refine gx_run 999 80 rfl ?_ | refine gx_goto rfl rfl ?_))
  rw [b5]
  refine gx_st (dH D) rfl (by omega) rfl rfl rfl ?_
  (repeat (first | refine gx_run 999 80 rfl ?_ | refine gx_goto rfl rfl ?_))
  rw [show gn_up σ 42 (dH D) (nI kd) 36 3 = nI (dH D) by rw [gu_k (Or.inl (by decide))]; exact b5]
  refine gx_st (dH D) rfl (by omega) rfl rfl rfl ?_
  generalize hσ : gn_up (gn_up σ 42 (dH D) (nI kd)) 43 (dH D) (nI v) = σ1
  have f1 : ∀ o, o ≠ 42 → o ≠ 43 → σ1 o = σ o := fun o a1 a2 => by rw [← hσ, gu_o a2, gu_o a1]
  have c42 : ∀ g, σ1 42 g = if g = dH D then nI kd else σ 42 g := fun g => by
    rw [← hσ, gu_k (by omega)]
    by_cases e : g = dH D
    · rw [if_pos e, e, gu_s]
    · rw [if_neg e, gu_k (Or.inr e)]
  have c43 : ∀ g, σ1 43 g = if g = dH D then nI v else σ 43 g := fun g => by
    rw [← hσ]
    by_cases e : g = dH D
    · rw [if_pos e, e, gu_s]
    · rw [if_neg e, gu_k (Or.inr e), gu_k (by omega)]
  (repeat (first | refine gx_run 999 80 rfl ?_ | refine gx_goto rfl rfl ?_))
  rw [show σ1 36 3 = nI (dH D) by rw [f1 36 (by omega) (by omega)]; exact b5, nI_1]
  refine gw_vret rfl ?_
  generalize hσ2 : gn_up σ1 36 3 (nI (dH D + 1)) = σ2
  have g1 : ∀ o, o ≠ 36 → σ2 o = σ1 o := fun o ho => by rw [← hσ2, gu_o ho]
  have g2 : ∀ k, k ≠ 3 → σ2 36 k = σ 36 k := fun k hk => by rw [← hσ2, gu_k (Or.inr hk), f1 36 (by omega) (by omega)]
  have g3 : σ2 36 3 = nI (dH D + 1) := by rw [← hσ2, gu_s]
  refine hQ σ2 (fun o ho => by rw [g1 o (by omega), f1 o (by omega) (by omega)]) ⟨gB_H b1 hH, ?_, ?_, ?_, ?_, fun g hg => ?_, fun g k hg hk => ?_, fun h hh => ?_⟩
  · rw [aH_E, g2 0 (by omega)]; exact b2
  · rw [aH_F, g2 1 (by omega)]; exact b3
  · rw [aH_G, g2 2 (by omega)]; exact b4
  · rw [aH_H]; exact g3
  · rw [aH_G] at hg
    rw [aH_P, aH_C, aH_S, g1 37 (by omega), g1 38 (by omega), g1 41 (by omega), f1 37 (by omega) (by omega), f1 38 (by omega) (by omega), f1 41 (by omega) (by omega)]
    exact b6 g hg
  · rw [aH_G] at hg
    rw [aH_C] at hk
    rw [aH_T, aH_B, g1 39 (by omega), g1 40 (by omega), f1 39 (by omega) (by omega), f1 40 (by omega) (by omega)]
    exact b7 g k hg hk
  · rw [aH_H] at hh
    rw [aH_K, aH_N, g1 42 (by omega), g1 43 (by omega), c42, c43]
    by_cases e : h = dH D
    · rw [if_pos e, if_pos e, if_pos e, if_pos e]; exact ⟨rfl, rfl⟩
    · rw [if_neg e, if_neg e, if_neg e, if_neg e]; exact b8 h (by omega)
end
