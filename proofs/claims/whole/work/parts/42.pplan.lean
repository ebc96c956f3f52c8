/-! plan -/
theorem p5 {n : Nat} (h : n ≤ 6) : 5 ^ n ≤ 15625 := Nat.le_trans (Nat.pow_le_pow_right (by omega) h) (by decide)
theorem e1_ge {n : Nat} (h : n < 2 ^ 31) : (-1 : Int32) ≤ e1 n := by
  cases n with
  | zero => exact Int32.le_refl _
  | succ v => exact Int32.le_trans (show (-1 : Int32) ≤ 0 by decide) (nI_pos' (by omega))
section
variable {d : Nat} {σ : gn_Mem} {Q : Option Value → gn_Mem → Prop} {D : gD} {A : gA}
theorem stP_ok (hW : gW D) (hA : wA2 D A) : ∀ n, n ≤ 15625 → (gf (stP D A) n (0, 0)).1 ≤ 169 ∧ (gf (stP D A) n (0, 0)).2 ≤ 15625 := by
  intro n
  have hle := hW.1
  induction n with
  | zero => intro _; exact ⟨Nat.zero_le _, Nat.zero_le _⟩
  | succ n ih =>
    intro hn
    have h := ih (by omega)
    show (stP D A n (gf (stP D A) n (0, 0))).1 ≤ 169 ∧ (stP D A n (gf (stP D A) n (0, 0))).2 ≤ 15625
    unfold stP
    cases hv : evM D A 0 (dG D) n (fun h => A (20 + h)) with
    | none => exact h
    | some v =>
      have hl := evM_le hW hA _ _ _ _ (Nat.le_refl _) hv
      show (if _ then _ else _ : gS).1 ≤ 169 ∧ (if _ then _ else _ : gS).2 ≤ 15625
      split
      · exact ⟨by show v + 1 ≤ 169; omega, by show n ≤ 15625; omega⟩
      · exact h
theorem mw_planL (hM : gM σ D) (hX : mR (σ 45) A) (hA : wA2 D A) {g : Int32} (hg : g = -1 ∨ ∃ j, j < dG D ∧ g = nI j) (hQ : ∀ σ' : gn_Mem, (∀ o, o ≠ 61 → σ' o = σ o) → Q (some (.int (if g = -1 then e1 (plS D A).1 else dgt (plS D A).2 (dG D - 1 - g.toNatClampNeg)))) σ') : gn_W (d + 5) 187 16 [.ref 44, .int g] [] σ Q := by
  have hle := hM.1.1
  have h5 := p5 hle
  (refine gw_run 23 80 rfl ?_)
  refine gw_forP (5 ^ dG D) (fun i (σ' : gn_Mem) => (∀ o, o ≠ 61 → σ' o = σ o)) (fun i _ => [.ref 44, .int g, .int (nI (gf (stP D A) i (0, 0)).2), .int (e1 (gf (stP D A) i (0, 0)).1), .int (nI i)]) (fun σ' => σ') σ (fun _ _ => rfl) ?_ ?_
  · intro i σ1 hi p1 hk
    have hk : ∀ y' : gn_Mem, (∀ o, o ≠ 61 → y' o = σ o) → gn_W (d + 5) 187 23 [.ref 44, .int g, .int (nI (stP D A i (gf (stP D A) i (0, 0))).2), .int (e1 (stP D A i (gf (stP D A) i (0, 0))).1), .int (nI (i + 1))] [] y' Q := hk
    have hb := stP_ok hM.1 hA i (by omega)
    generalize gf (stP D A) i (0, 0) = S at *
    have hM1 : gM σ1 D := gM_fr hM (fun k _ => by rw [p1 44 (by omega)]) (fun o a b => p1 o (by omega))
    (repeat (first | refine gx_run 999 80 rfl ?_ | refine gx_goto rfl rfl ?_))
    rw [hM1.2.2.2.1]
    refine gw_calls rfl rfl rfl ?_
    refine mw_power (by omega) ?_
    (repeat (first | refine gx_run 999 80 rfl ?_ | refine gx_goto rfl rfl ?_))
    first | refine gx_iff rfl (nI_ge hi (by omega)) ?_ | refine gx_icf rfl (nI_ge hi (by omega)) ?_
    (repeat (first | refine gx_run 999 80 rfl ?_ | refine gx_goto rfl rfl ?_))
    refine gx_call rfl rfl rfl ?_
    refine mw_planned hM1 (by rw [p1 45 (by omega)]; exact hX) hA (by omega) ?_
    intro σ2 f2
    have p2 : ∀ o, o ≠ 61 → σ2 o = σ o := fun o ho => by rw [f2 o ho, p1 o ho]
    unfold stP at hk
    cases hv : evM D A 0 (dG D) i (fun h => A (20 + h)) with
    | none =>
      rw [hv] at hk
      (repeat (first | refine gx_run 999 80 rfl ?_ | refine gx_goto rfl rfl ?_))
      first | refine gx_ift rfl (e1_ge (by omega)) ?_ | refine gx_ict rfl (e1_ge (by omega)) ?_
      (repeat (first | refine gx_run 999 80 rfl ?_ | refine gx_goto rfl rfl ?_))
      first | refine gx_ift rfl (e1_ge (by omega)) ?_ | refine gx_ict rfl (e1_ge (by omega)) ?_
      (repeat (first | refine gx_run 999 80 rfl ?_ | refine gx_goto rfl rfl ?_))
      refine gw_goto rfl ?_
      rw [nI_1]
      exact gx_drop [_, _, _, _, _] [_] (by rfl) (hk σ2 p2)
    | some v =>
      rw [hv] at hk
      have hl := evM_le hM.1 hA _ _ _ _ (Nat.le_refl _) hv
      have hk : ∀ y' : gn_Mem, (∀ o, o ≠ 61 → y' o = σ o) → gn_W (d + 5) 187 23 [.ref 44, .int g, .int (nI (if S.1 ≤ v then (v + 1, i) else S : gS).2), .int (e1 (if S.1 ≤ v then (v + 1, i) else S : gS).1), .int (nI (i + 1))] [] y' Q := hk
      (repeat (first | refine gx_run 999 80 rfl ?_ | refine gx_goto rfl rfl ?_))
      by_cases q : S.1 ≤ v
      · rw [if_pos q] at hk
        have hlt := e1_lt q (b := v) (by omega)
        first | refine gx_iff rfl (fun z => absurd hlt (Int32.not_lt.mpr z)) ?_ | refine gx_icf rfl (fun z => absurd hlt (Int32.not_lt.mpr z)) ?_
        (repeat (first | refine gx_run 999 80 rfl ?_ | refine gx_goto rfl rfl ?_))
        first | refine gx_iff rfl (fun z => absurd hlt (Int32.not_lt.mpr z)) ?_ | refine gx_icf rfl (fun z => absurd hlt (Int32.not_lt.mpr z)) ?_
        (repeat (first | refine gx_run 999 80 rfl ?_ | refine gx_goto rfl rfl ?_))
        refine gw_goto rfl ?_
        rw [nI_1]
        exact gx_drop [_, _, _, _, _] [_] (by rfl) (hk σ2 p2)
      · rw [if_neg q] at hk
        have hlt := e1_nlt (a := S.1) (b := v) (by omega) (by omega)
        first | refine gx_ift rfl (Int32.not_lt.mp hlt) ?_ | refine gx_ict rfl (Int32.not_lt.mp hlt) ?_
        (repeat (first | refine gx_run 999 80 rfl ?_ | refine gx_goto rfl rfl ?_))
        first | refine gx_ift rfl (Int32.not_lt.mp hlt) ?_ | refine gx_ict rfl (Int32.not_lt.mp hlt) ?_
        (repeat (first | refine gx_run 999 80 rfl ?_ | refine gx_goto rfl rfl ?_))
        refine gw_goto rfl ?_
        rw [nI_1]
        exact gx_drop [_, _, _, _, _] [_] (by rfl) (hk σ2 p2)
  · intro σ1 p1
    have hM1 : gM σ1 D := gM_fr hM (fun k _ => by rw [p1 44 (by omega)]) (fun o a b => p1 o (by omega))
    have hb := stP_ok hM.1 hA (5 ^ dG D) h5
    rw [plS_eq hM.1] at hb
    (repeat (first | refine gx_run 999 80 rfl ?_ | refine gx_goto rfl rfl ?_))
    rw [hM1.2.2.2.1]
    refine gw_calls rfl rfl rfl ?_
    refine mw_power (by omega) ?_
    (repeat (first | refine gx_run 999 80 rfl ?_ | refine gx_goto rfl rfl ?_))
    first | refine gx_ift rfl (nI_le (Nat.le_refl _) (by omega)) ?_ | refine gx_ict rfl (nI_le (Nat.le_refl _) (by omega)) ?_
    rw [plS_eq hM.1]
    have hq1 := hQ σ1 p1
    (repeat (first | refine gx_run 999 80 rfl ?_ | refine gx_goto rfl rfl ?_))
    rcases hg with rfl | ⟨j, hj, rfl⟩
    · rw [if_pos rfl] at hq1
      first | refine gx_iff rfl (by dsimp only [gn_cmp] <;> decide) ?_ | refine gx_icf rfl (by dsimp only [gn_cmp] <;> decide) ?_
      (repeat (first | refine gx_run 999 80 rfl ?_ | refine gx_goto rfl rfl ?_))
      refine gx_iret rfl rfl ?_
      exact hq1
    · rw [if_neg (nI_ne1 (by omega)), nI_clamp (by omega)] at hq1
      first | refine gx_ift rfl (nI_ne1 (by omega)) ?_ | refine gx_ict rfl (nI_ne1 (by omega)) ?_
      (repeat (first | refine gx_run 999 80 rfl ?_ | refine gx_goto rfl rfl ?_))
      rw [hM1.2.2.2.1]
      obtain ⟨m, hm⟩ : ∃ m, dG D = m + 1 := ⟨dG D - 1, by omega⟩
      rw [hm, nI_pred, pk_sub (by omega)]
      rw [hm, Nat.add_sub_cancel] at hq1
      refine gw_calls rfl rfl rfl ?_
      refine mw_power (by omega) ?_
      have h6 := p5 (n := m - j) (by omega)
      have h7 := Nat.pow_pos (n := m - j) (show 0 < 5 by omega)
      (repeat (first | refine gx_run 999 80 rfl ?_ | refine gx_goto rfl rfl ?_))
      refine gw_idiv rfl (nI_ne0 h7 (by omega)) ?_
      rw [pk_div (by omega) h7 (by omega)]
      (repeat (first | refine gx_run 999 80 rfl ?_ | refine gx_goto rfl rfl ?_))
      have hd : (plS D A).2 / 5 ^ (m - j) ≤ 15625 := Nat.le_trans (Nat.div_le_self _ _) hb.2
      refine gw_irem rfl (by decide) ?_
      rw [show nI ((plS D A).2 / 5 ^ (m - j)) - nI ((plS D A).2 / 5 ^ (m - j)) / 5 * 5 = nI ((plS D A).2 / 5 ^ (m - j) % 5) from pk_rem (d := 5) (by omega) (by omega) (by omega)]
      unfold dgt d5 at hq1
      have hv5 : (plS D A).2 / 5 ^ (m - j) % 5 < 5 := Nat.mod_lt _ (by omega)
      generalize (plS D A).2 / 5 ^ (m - j) % 5 = v5 at *
      (repeat (first | refine gx_run 999 80 rfl ?_ | refine gx_goto rfl rfl ?_))
      by_cases q : v5 = 4
      · rw [if_pos q] at hq1
        first | refine gx_iff rfl (fun z => z (by rw [q]; rfl)) ?_ | refine gx_icf rfl (fun z => z (by rw [q]; rfl)) ?_
        (repeat (first | refine gx_run 999 80 rfl ?_ | refine gx_goto rfl rfl ?_))
        refine gx_iret rfl rfl ?_
        exact hq1
      · rw [if_neg q] at hq1
        first | refine gx_ift rfl (fun z => q ((nI_eq (b := 4) (by omega) (by omega)).mp z)) ?_ | refine gx_ict rfl (fun z => q ((nI_eq (b := 4) (by omega) (by omega)).mp z)) ?_
        (repeat (first | refine gx_run 999 80 rfl ?_ | refine gx_goto rfl rfl ?_))
        refine gx_iret rfl rfl ?_
        exact hq1
end
theorem p_plan {σ : gn_Mem} (hI : Inv σ) (g : Int32) : gPair 109 187 [.int g] σ := by
  obtain ⟨D, A, c, nx, B, z, I, e, T, Z, b, G, H, n, L, hT, hN, hS, hP, hII, hE, hB, hX, hF⟩ := id hI
  have hd := hT.1
  have hle := hT.2.2.1.1.1
  by_cases hg : ¬ g < 0 ∧ ¬ nI (dG D) ≤ g
  · obtain ⟨j, hj, rfl⟩ := in_of (by omega) hg
    have hj1 : ¬ nI j = -1 := nI_ne1 (by omega)
    refine gPair.s hI (dgt (plS D A).2 (dG D - 1 - j)) (fun Q hQ => ?_) (fun σ1 h1 Q hQ => ?_)
    · (repeat (first | refine gx_run 999 80 rfl ?_ | refine gx_goto rfl rfl ?_))
      first | refine gx_iff rfl (hj1) ?_ | refine gx_icf rfl (hj1) ?_
      (repeat (first | refine gx_run 999 80 rfl ?_ | refine gx_goto rfl rfl ?_))
      rw [hd]
      refine gx_call rfl rfl rfl ?_
      refine xw_isG hT.2.2.1 ?_
      rw [gb_t hg]
      (repeat (first | refine gx_run 999 80 rfl ?_ | refine gx_goto rfl rfl ?_))
      first | refine gx_ift rfl (by dsimp only [gn_cmp] <;> decide) ?_ | refine gx_ict rfl (by dsimp only [gn_cmp] <;> decide) ?_
      (repeat (first | refine gx_run 999 80 rfl ?_ | refine gx_goto rfl rfl ?_))
      rw [hd]
      (repeat (first | refine gx_run 999 80 rfl ?_ | refine gx_goto rfl rfl ?_))
      refine gx_call rfl rfl rfl ?_
      refine xw_seekP (d := 10) hT.2.2.1 hN.1 hN.2.2 ?_
      intro σ1 f1 a5 a7 a18
      (repeat (first | refine gx_run 999 80 rfl ?_ | refine gx_goto rfl rfl ?_))
      first | refine gx_ift rfl (hj1) ?_ | refine gx_ict rfl (hj1) ?_
      (repeat (first | refine gx_run 999 80 rfl ?_ | refine gx_goto rfl rfl ?_))
      refine gx_call rfl rfl rfl ?_
      refine xw_hostOf hj hle a5 (a18 j hj) ?_
      (repeat (first | refine gx_run 999 80 rfl ?_ | refine gx_goto rfl rfl ?_))
      refine gx_iret rfl rfl ?_
      exact hQ σ1 (fun o ho => f1 o (fun q => ho (by unfold gScr; omega)))
    · have hM1 := hT.2.2.2.scr h1
      have hX1 : mR (σ1 45) A := by rw [h1 45 (by unfold gScr; omega)]; exact hN.2.1
      (repeat (first | refine gx_run 999 80 rfl ?_ | refine gx_goto rfl rfl ?_))
      first | refine gx_iff rfl (hj1) ?_ | refine gx_icf rfl (hj1) ?_
      (repeat (first | refine gx_run 999 80 rfl ?_ | refine gx_goto rfl rfl ?_))
      refine gx_call rfl rfl rfl ?_
      refine mw_isG hM1 ?_
      rw [gb_t hg]
      (repeat (first | refine gx_run 999 80 rfl ?_ | refine gx_goto rfl rfl ?_))
      first | refine gx_ift rfl (by dsimp only [gn_cmp] <;> decide) ?_ | refine gx_ict rfl (by dsimp only [gn_cmp] <;> decide) ?_
      refine mw_planL (d := 15) hM1 hX1 hN.2.2 (Or.inr ⟨j, hj, rfl⟩) (fun σ' f => ?_)
      rw [if_neg hj1, nI_clamp (by omega)]
      exact hQ σ' (fun o ho => f o (fun q => ho (by unfold gScr; omega)))
  · by_cases hg1 : g = -1
    · subst hg1
      refine gPair.s hI (e1 (plS D A).1) (fun Q hQ => ?_) (fun σ1 h1 Q hQ => ?_)
      · (repeat (first | refine gx_run 999 80 rfl ?_ | refine gx_goto rfl rfl ?_))
        first | refine gx_ift rfl (by dsimp only [gn_cmp] <;> decide) ?_ | refine gx_ict rfl (by dsimp only [gn_cmp] <;> decide) ?_
        (repeat (first | refine gx_run 999 80 rfl ?_ | refine gx_goto rfl rfl ?_))
        rw [hd]
        (repeat (first | refine gx_run 999 80 rfl ?_ | refine gx_goto rfl rfl ?_))
        refine gx_call rfl rfl rfl ?_
        refine xw_seekP (d := 10) hT.2.2.1 hN.1 hN.2.2 ?_
        intro σ1 f1 a5 a7 a18
        (repeat (first | refine gx_run 999 80 rfl ?_ | refine gx_goto rfl rfl ?_))
        first | refine gx_iff rfl (by dsimp only [gn_cmp] <;> decide) ?_ | refine gx_icf rfl (by dsimp only [gn_cmp] <;> decide) ?_
        (repeat (first | refine gx_run 999 80 rfl ?_ | refine gx_goto rfl rfl ?_))
        rw [a7]
        refine gx_iret rfl rfl ?_
        exact hQ σ1 (fun o ho => f1 o (fun q => ho (by unfold gScr; omega)))
      · have hM1 := hT.2.2.2.scr h1
        have hX1 : mR (σ1 45) A := by rw [h1 45 (by unfold gScr; omega)]; exact hN.2.1
        (repeat (first | refine gx_run 999 80 rfl ?_ | refine gx_goto rfl rfl ?_))
        first | refine gx_ift rfl (by dsimp only [gn_cmp] <;> decide) ?_ | refine gx_ict rfl (by dsimp only [gn_cmp] <;> decide) ?_
        refine mw_planL (d := 15) hM1 hX1 hN.2.2 (Or.inl rfl) (fun σ' f => ?_)
        rw [if_pos rfl]
        exact hQ σ' (fun o ho => f o (fun q => ho (by unfold gScr; omega)))
    · refine gPair.q hI (-1000000001) (fun Q hQ => ?_) (fun Q hQ => ?_)
      · (repeat (first | refine gx_run 999 80 rfl ?_ | refine gx_goto rfl rfl ?_))
        first | refine gx_iff rfl (hg1) ?_ | refine gx_icf rfl (hg1) ?_
        (repeat (first | refine gx_run 999 80 rfl ?_ | refine gx_goto rfl rfl ?_))
        rw [hd]
        refine gx_call rfl rfl rfl ?_
        refine xw_isG hT.2.2.1 ?_
        rw [gb_f hg]
        (repeat (first | refine gx_run 999 80 rfl ?_ | refine gx_goto rfl rfl ?_))
        first | refine gx_iff rfl (by dsimp only [gn_cmp] <;> decide) ?_ | refine gx_icf rfl (by dsimp only [gn_cmp] <;> decide) ?_
        (repeat (first | refine gx_run 999 80 rfl ?_ | refine gx_goto rfl rfl ?_))
        refine gx_iret rfl rfl ?_
        exact hQ
      · (repeat (first | refine gx_run 999 80 rfl ?_ | refine gx_goto rfl rfl ?_))
        first | refine gx_iff rfl (hg1) ?_ | refine gx_icf rfl (hg1) ?_
        (repeat (first | refine gx_run 999 80 rfl ?_ | refine gx_goto rfl rfl ?_))
        refine gx_call rfl rfl rfl ?_
        refine mw_isG hT.2.2.2 ?_
        rw [gb_f hg]
        (repeat (first | refine gx_run 999 80 rfl ?_ | refine gx_goto rfl rfl ?_))
        first | refine gx_iff rfl (by dsimp only [gn_cmp] <;> decide) ?_ | refine gx_icf rfl (by dsimp only [gn_cmp] <;> decide) ?_
        (repeat (first | refine gx_run 999 80 rfl ?_ | refine gx_goto rfl rfl ?_))
        refine gx_iret rfl rfl ?_
        exact hQ
