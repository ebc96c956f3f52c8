/-! A NEW EVENING; undone; images -/
def aSeat (D : gD) (A : gA) : gA := fun j => if j < 18 then 0 else if j = 18 then 2 ^ dG D - 1 else if j = 19 then 0 else if j < 24 then (if j - 20 < dH D then dN D (j - 20) else 0) else A j
theorem ones : ∀ g, g ≤ 6 → (1 : Int32) <<< (nI g &&& 31) - 1 = nI (2 ^ g - 1) := by decide
theorem ones_lt : ∀ g, g ≤ 6 → 2 ^ g - 1 < 64 := by decide
theorem w_seat {D : gD} {A : gA} (hW : gW D) (h24 : A 24 ≤ 999999) (h25 : A 25 ≤ 999999) (h26 : A 26 ≤ 90020) (h27 : A 27 ≤ 90000) : wA2 D (aSeat D A) := by
  have hle := hW.1
  have e : ∀ j, j < 18 → aSeat D A j = 0 := fun j hj => if_pos hj
  refine ⟨fun g hg => ?_, fun g hg hg6 => ?_, fun i hi => ?_, ?_, ?_, ?_, ?_, ?_, ?_⟩
  · rw [e g (by omega), e (6 + g) (by omega), e (12 + g) (by omega)]
    exact ⟨by omega, by omega, Iff.rfl, by omega⟩
  · rw [e g (by omega), e (6 + g) (by omega), e (12 + g) (by omega)]
    omega
  · have e2 : aSeat D A (20 + i) = if i < dH D then dN D i else 0 := by
      unfold aSeat
      rw [if_neg (by omega), if_neg (by omega), if_neg (by omega), if_pos (by omega), show 20 + i - 20 = i by omega]
    rw [e2]
    split
    · rename_i hl
      exact (hW.2.2.2.2.2.2 i hl).2
    · omega
  · exact ones_lt _ hle
  · show 0 < 64
    omega
  · exact h24
  · exact h25
  · exact h26
  · exact h27
/-- the first loop -/
def aS1 (A : gA) (i : Nat) : gA := fun j => if j < i ∨ (6 ≤ j ∧ j < 6 + i) ∨ (12 ≤ j ∧ j < 12 + i) then 0 else A j
/-- the loop over the hosts -/
def aS2 (D : gD) (A : gA) (i : Nat) : gA := fun j => if 20 ≤ j ∧ j < 20 + i then (if j - 20 < dH D then dN D (j - 20) else 0) else A j
theorem aS2_s {D : gD} {A : gA} {i : Nat} : aup (aS2 D A i) (20 + i) (if i < dH D then dN D i else 0) = aS2 D A (i + 1) := by
  funext k
  unfold aup aS2
  by_cases e : k = 20 + i
  · subst e
    rw [if_pos rfl, if_pos (show 20 ≤ 20 + i ∧ 20 + i < 20 + (i + 1) by omega), show 20 + i - 20 = i by omega]
  · rw [if_neg e]
    by_cases h2 : 20 ≤ k ∧ k < 20 + i
    · rw [if_pos h2, if_pos (show 20 ≤ k ∧ k < 20 + (i + 1) by omega)]
    · rw [if_neg h2, if_neg (show ¬ (20 ≤ k ∧ k < 20 + (i + 1)) by omega)]
section
variable {d : Nat} {σ : gn_Mem} {Q : Option Value → gn_Mem → Prop} {D : gD} {A : gA}
theorem xR.con {f : Nat → Int32} {A A' : gA} (h : xR f A) (e : ∀ k, k < 28 → A k = A' k) : xR f A' := fun j hj => by
  rw [h j hj, e _ (rho_lt j hj)]
theorem xw_hasHost' {t : Nat} {h : Int32} (ht : t = 28 ∨ t = 36) (hQ : Q (some (.int (gb (¬ h < 0 ∧ ¬ σ t 3 ≤ h)))) σ) : gn_W d 68 0 [.ref t, .int h] [] σ Q := by
  rcases ht with rfl | rfl
  · exact xw_hasHost hQ
  · (repeat (first | refine gx_run 999 80 rfl ?_ | refine gx_goto rfl rfl ?_))
    first | refine gw_if rfl (fun h1 => ?_) (fun h1 => ?_) | refine gw_icmp rfl (fun h1 => ?_) (fun h1 => ?_)
    · (repeat (first | refine gx_run 999 80 rfl ?_ | refine gx_goto rfl rfl ?_))
      refine gw_zret rfl (Or.inl rfl) ?_
      rw [gb_f (fun q => q.1 h1)] at hQ; exact hQ
    · (repeat (first | refine gx_run 999 80 rfl ?_ | refine gx_goto rfl rfl ?_))
      first | refine gw_if rfl (fun h2 => ?_) (fun h2 => ?_) | refine gw_icmp rfl (fun h2 => ?_) (fun h2 => ?_)
      · (repeat (first | refine gx_run 999 80 rfl ?_ | refine gx_goto rfl rfl ?_))
        refine gw_zret rfl (Or.inl rfl) ?_
        rw [gb_f (fun q => q.2 h2)] at hQ; exact hQ
      · (repeat (first | refine gx_run 999 80 rfl ?_ | refine gx_goto rfl rfl ?_))
        refine gw_zret rfl (Or.inr rfl) ?_
        rw [gb_t ⟨h1, h2⟩] at hQ; exact hQ
theorem xw_noes' {t : Nat} (ht : t = 28 ∨ t = 36) (hT : gT t σ D) {h : Nat} (hh : h < 4) (hQ : Q (some (.int (nI (if h < dH D then dN D h else 0)))) σ) : gn_W (d + 1) 75 0 [.ref t, .int (nI h)] [] σ Q := by
  rcases ht with rfl | rfl
  · exact xw_noes hT hh hQ
  · have hle := hT.1.2.1
    (repeat (first | refine gx_run 999 80 rfl ?_ | refine gx_goto rfl rfl ?_))
    refine gx_call rfl rfl rfl ?_
    refine xw_hasHost' (Or.inr rfl) ?_
    rw [hT.2.2.2.2.1]
    by_cases hl : h < dH D
    · rw [gb_t ⟨nI_pos (by omega), nI_ge hl (by omega)⟩]
      rw [if_pos hl] at hQ
      (repeat (first | refine gx_run 999 80 rfl ?_ | refine gx_goto rfl rfl ?_))
      first | refine gx_iff rfl (by dsimp only [gn_cmp] <;> decide) ?_ | refine gx_icf rfl (by dsimp only [gn_cmp] <;> decide) ?_
      (repeat (first | refine gx_run 999 80 rfl ?_ | refine gx_goto rfl rfl ?_))
      refine gx_ld h rfl (by omega) (hT.2.2.2.2.2.2.2 h hl).2 rfl rfl rfl ?_
      (repeat (first | refine gx_run 999 80 rfl ?_ | refine gx_goto rfl rfl ?_))
      refine gx_iret rfl rfl ?_
      exact hQ
    · rw [gb_f (fun q => q.2 (nI_le (by omega) (by omega)))]
      rw [if_neg hl] at hQ
      (repeat (first | refine gx_run 999 80 rfl ?_ | refine gx_goto rfl rfl ?_))
      first | refine gx_ift rfl (by dsimp only [gn_cmp] <;> decide) ?_ | refine gx_ict rfl (by dsimp only [gn_cmp] <;> decide) ?_
      (repeat (first | refine gx_run 999 80 rfl ?_ | refine gx_goto rfl rfl ?_))
      refine gx_iret rfl rfl ?_
      exact hQ
theorem xw_seatAll {t : Nat} (ht : t = 28 ∨ t = 36) (hT : gT t σ D) (hX : xR (σ 4) A) (hQ : ∀ σ' : gn_Mem, (∀ o, o ≠ 4 → σ' o = σ o) → xR (σ' 4) (aSeat D A) → Q none σ') : gn_W (d + 2) 13 0 [.ref 3, .ref t] [] σ Q := by
  have hle := hT.1.1
  (refine gw_run 2 80 rfl ?_)
  refine gw_forP 6 (fun i σ1 => (∀ o, o ≠ 4 → σ1 o = σ o) ∧ xR (σ1 4) (aS1 A i)) (fun i _ => [.ref 3, .ref t, .int (nI i)]) (fun σ1 => σ1) σ ⟨fun _ _ => rfl, hX.con (fun k hk => by unfold aS1; rw [if_neg (by omega)])⟩ ?_ ?_
  · rintro i σ1 hi ⟨f1, hX1⟩ hn
    (repeat (first | refine gx_run 999 80 rfl ?_ | refine gx_goto rfl rfl ?_))
    first | refine gx_iff rfl (nI_ge (b := 6) hi (by omega)) ?_ | refine gx_icf rfl (nI_ge (b := 6) hi (by omega)) ?_
    (repeat (first | refine gx_run 999 80 rfl ?_ | refine gx_goto rfl rfl ?_))
    refine gx_st i (by rw [Int32.zero_add]) (by omega) rfl rfl rfl ?_
    (repeat (first | refine gx_run 999 80 rfl ?_ | refine gx_goto rfl rfl ?_))
    refine gx_st (6 + i) (nI_add 6 i) (by omega) rfl rfl rfl ?_
    (repeat (first | refine gx_run 999 80 rfl ?_ | refine gx_goto rfl rfl ?_))
    refine gx_st (12 + i) (nI_add 12 i) (by omega) rfl rfl rfl ?_
    (repeat (first | refine gx_run 999 80 rfl ?_ | refine gx_goto rfl rfl ?_))
    refine gw_goto rfl ?_
    rw [nI_1]
    refine hn _ ⟨fun o ho => by rw [gu_o ho, gu_o ho, gu_o ho, f1 o ho], ?_⟩
    rw [gn_up_eq, gn_up_eq, gn_up_eq]
    have h1 := hX1.upd (j := i) (n := 0) (v := 0) (by omega) (by rw [rho_s (by omega), vv_a (by omega)]; rfl)
    have h2 := h1.upd (j := 6 + i) (n := 0) (v := -1) (by omega) (by rw [rho_s (by omega), vv_b (by omega)]; rfl)
    have h3 := h2.upd (j := 12 + i) (n := 0) (v := -1) (by omega) (by rw [rho_s (by omega), vv_b (by omega)]; rfl)
    rw [rho_s (by omega), rho_s (by omega), rho_s (by omega)] at h3
    refine h3.con (fun k hk => ?_)
    unfold aup aS1
    repeat' split
    all_goals first | rfl | omega
  · rintro σ1 ⟨f1, hX1⟩
    (repeat (first | refine gx_run 999 80 rfl ?_ | refine gx_goto rfl rfl ?_))
    first | refine gx_ift rfl (by dsimp only [gn_cmp] <;> decide) ?_ | refine gx_ict rfl (by dsimp only [gn_cmp] <;> decide) ?_
    (refine gw_run 45 80 rfl ?_)
    have hT1 : ∀ σ2 : gn_Mem, (∀ o, o ≠ 4 → σ2 o = σ o) → gT t σ2 D := fun σ2 f2 => gT_fr hT (fun o a b => f2 o (by omega))
    refine gw_forP 4 (fun i σ2 => (∀ o, o ≠ 4 → σ2 o = σ o) ∧ xR (σ2 4) (aS2 D (aS1 A 6) i)) (fun i _ => [.ref 3, .ref t, .int (nI i)]) (fun σ1 => σ1) σ1 ⟨f1, hX1.con (fun k hk => by unfold aS2; rw [if_neg (by omega)])⟩ ?_ ?_
    · rintro i σ2 hi ⟨f2, hX2⟩ hn
      (repeat (first | refine gx_run 999 80 rfl ?_ | refine gx_goto rfl rfl ?_))
      first | refine gx_iff rfl (nI_ge (b := 4) hi (by omega)) ?_ | refine gx_icf rfl (nI_ge (b := 4) hi (by omega)) ?_
      (repeat (first | refine gx_run 999 80 rfl ?_ | refine gx_goto rfl rfl ?_))
      have call : gn_W (d + 1) 75 0 [.ref t, .int (nI i)] [] σ2 (fun rv σ' => rv = some (.int (nI (if i < dH D then dN D i else 0))) ∧ σ' = σ2) := xw_noes' ht (hT1 σ2 f2) hi ⟨rfl, rfl⟩
      have cc : gn_W (d + 2) 13 60 [.ref 3, .ref t, .int (nI i)] [.int (nI i), .ref t, .int (18 + nI i), .ref 4] σ2 Q := by
        have step : gn_W (d + 1) 75 0 [.ref t, .int (nI i)] [] σ2 (fun rv σ' => gn_W (d + 2) 13 63 [.ref 3, .ref t, .int (nI i)] (rv.toList ++ [.int (18 + nI i), .ref 4]) σ' Q) := by
          refine gw_mono call ?_
          rintro rv σ' ⟨rfl, rfl⟩
          (repeat (first | refine gx_run 999 80 rfl ?_ | refine gx_goto rfl rfl ?_))
          refine gx_st (18 + i) (nI_add 18 i) (by omega) rfl rfl rfl ?_
          (repeat (first | refine gx_run 999 80 rfl ?_ | refine gx_goto rfl rfl ?_))
          refine gw_goto rfl ?_
          rw [nI_1]
          refine hn _ ⟨fun o ho => by rw [gu_o ho, f2 o ho], ?_⟩
          rw [gn_up_eq]
          have h1 := hX2.upd (j := 18 + i) (n := if i < dH D then dN D i else 0) (v := nI (if i < dH D then dN D i else 0)) (by omega) (by rw [rho_n (by omega), vv_a (by omega)])
          rw [rho_n (by omega)] at h1
          rw [aS2_s] at h1
          exact h1
        rcases ht with rfl | rfl
        · exact gx_call rfl rfl rfl step
        · exact gx_call rfl rfl rfl step
      exact cc
    · rintro σ2 ⟨f2, hX2⟩
      have hT2 := hT1 σ2 f2
      have tl : gn_W (d + 2) 13 70 [.ref 3, .ref t, .int (nI 4)] [] σ2 Q := by
        rcases ht with rfl | rfl <;>
        ((repeat (first | refine gx_run 999 80 rfl ?_ | refine gx_goto rfl rfl ?_))
         rw [hT2.2.2.2.1, ones _ hle]
         refine gx_st 22 rfl (by omega) rfl rfl rfl ?_
         (repeat (first | refine gx_run 999 80 rfl ?_ | refine gx_goto rfl rfl ?_))
         refine gx_st 23 rfl (by omega) rfl rfl rfl ?_
         refine gw_vret rfl ?_
         refine hQ _ (fun o ho => by rw [gu_o ho, gu_o ho, f2 o ho]) ?_
         rw [gn_up_eq, gn_up_eq]
         have h1 := hX2.upd (j := 22) (n := 2 ^ dG D - 1) (v := nI (2 ^ dG D - 1)) (by omega) rfl
         have h2 := h1.upd (j := 23) (n := 0) (v := 0) (by omega) rfl
         refine h2.con (fun k hk => ?_)
         show aup (aup (aS2 D (aS1 A 6) 4) 18 (2 ^ dG D - 1)) 19 0 k = aSeat D A k
         unfold aup aS2 aS1 aSeat
         repeat' split
         all_goals first | rfl | omega)
      (repeat (first | refine gx_run 999 80 rfl ?_ | refine gx_goto rfl rfl ?_))
      first | refine gx_ift rfl (by dsimp only [gn_cmp] <;> decide) ?_ | refine gx_ict rfl (by dsimp only [gn_cmp] <;> decide) ?_
      exact tl
theorem mw_allAnew (hM : gM σ D) (hX : mR (σ 45) A) (hQ : ∀ σ' : gn_Mem, (∀ o, o ≠ 45 → σ' o = σ o) → (∀ k, 28 ≤ k → σ' 45 k = σ 45 k) → mR (σ' 45) (aSeat D A) → Q none σ') : gn_W d 146 0 [.ref 44] [] σ Q := by
  have hle := hM.1.1
  have hhe := hM.1.2.1
  (refine gw_run 2 80 rfl ?_)
  refine gw_forP 6 (fun i σ1 => (∀ o, o ≠ 45 → σ1 o = σ o) ∧ (∀ k, 28 ≤ k → σ1 45 k = σ 45 k) ∧ mR (σ1 45) (aS1 A i)) (fun i _ => [.ref 44, .int (nI i)]) (fun σ1 => σ1) σ ⟨fun _ _ => rfl, fun _ _ => rfl, hX.con (fun k hk => by unfold aS1; rw [if_neg (by omega)])⟩ ?_ ?_
  · rintro i σ1 hi ⟨f1, f2, hX1⟩ hn
    (repeat (first | refine gx_run 999 80 rfl ?_ | refine gx_goto rfl rfl ?_))
    first | refine gx_iff rfl (nI_ge (b := 6) hi (by omega)) ?_ | refine gx_icf rfl (nI_ge (b := 6) hi (by omega)) ?_
    (repeat (first | refine gx_run 999 80 rfl ?_ | refine gx_goto rfl rfl ?_))
    refine gx_st i rfl (by omega) rfl rfl rfl ?_
    (repeat (first | refine gx_run 999 80 rfl ?_ | refine gx_goto rfl rfl ?_))
    refine gx_st (6 + i) (nI_add 6 i) (by omega) rfl rfl rfl ?_
    (repeat (first | refine gx_run 999 80 rfl ?_ | refine gx_goto rfl rfl ?_))
    refine gx_st (12 + i) (nI_add 12 i) (by omega) rfl rfl rfl ?_
    (repeat (first | refine gx_run 999 80 rfl ?_ | refine gx_goto rfl rfl ?_))
    refine gw_goto rfl ?_
    rw [nI_1]
    refine hn _ ⟨fun o ho => by rw [gu_o ho, gu_o ho, gu_o ho, f1 o ho], fun k hk => by rw [gu_k (by omega), gu_k (by omega), gu_k (by omega), f2 k hk], ?_⟩
    rw [gn_up_eq, gn_up_eq, gn_up_eq]
    have h1 := hX1.upd (j := i) (n := 0) (v := 0) (by rw [vv_a (by omega)]; rfl)
    have h2 := h1.upd (j := 6 + i) (n := 0) (v := -1) (by rw [vv_b (by omega)]; rfl)
    have h3 := h2.upd (j := 12 + i) (n := 0) (v := -1) (by rw [vv_b (by omega)]; rfl)
    refine h3.con (fun k hk => ?_)
    unfold aup aS1
    repeat' split
    all_goals first | rfl | omega
  · rintro σ1 ⟨f1, f2, hX1⟩
    (repeat (first | refine gx_run 999 80 rfl ?_ | refine gx_goto rfl rfl ?_))
    first | refine gx_ift rfl (by dsimp only [gn_cmp] <;> decide) ?_ | refine gx_ict rfl (by dsimp only [gn_cmp] <;> decide) ?_
    (repeat (first | refine gx_run 999 80 rfl ?_ | refine gx_goto rfl rfl ?_))
    rw [show σ1 44 8 = nI (dG D) by rw [f1 44 (by omega)]; exact hM.2.2.2.1, ones _ hle]
    refine gx_st 18 rfl (by omega) rfl rfl rfl ?_
    (repeat (first | refine gx_run 999 80 rfl ?_ | refine gx_goto rfl rfl ?_))
    refine gx_st 19 rfl (by omega) rfl rfl rfl ?_
    (refine gw_run 66 80 rfl ?_)
    generalize h3 : gn_up (gn_up σ1 45 18 (nI (2 ^ dG D - 1))) 45 19 0 = σ2
    have k1 : ∀ o, o ≠ 45 → σ2 o = σ o := fun o ho => by rw [← h3, gu_o ho, gu_o ho, f1 o ho]
    have k2 : ∀ k, 28 ≤ k → σ2 45 k = σ 45 k := fun k hk => by rw [← h3, gu_k (by omega), gu_k (by omega), f2 k hk]
    have hX2 : mR (σ2 45) (aup (aup (aS1 A 6) 18 (2 ^ dG D - 1)) 19 0) := by
      rw [← h3, gn_up_eq, gn_up_eq]
      exact (hX1.upd (j := 18) (n := 2 ^ dG D - 1) rfl).upd (j := 19) (n := 0) rfl
    refine gw_forP 4 (fun i σ3 => (∀ o, o ≠ 45 → σ3 o = σ o) ∧ (∀ k, 28 ≤ k → σ3 45 k = σ 45 k) ∧ mR (σ3 45) (aS2 D (aup (aup (aS1 A 6) 18 (2 ^ dG D - 1)) 19 0) i)) (fun i _ => [.ref 44, .int (nI i)]) (fun σ1 => σ1) σ2 ⟨k1, k2, hX2.con (fun k hk => by unfold aS2; rw [if_neg (by omega)])⟩ ?_ ?_
    · rintro i σ3 hi ⟨l1, l2, hX3⟩ hn
      have hH3 : σ3 44 9 = nI (dH D) := by rw [l1 44 (by omega)]; exact hM.2.2.2.2.1
      have fin : ∀ v : Nat, v = (if i < dH D then dN D i else 0) → gn_W d 146 97 [.ref 44, .int (nI i)] [.int (nI v), .int (20 + nI i), .ref 45] σ3 Q := by
        intro v hv
        subst hv
        refine gx_st (20 + i) (nI_add 20 i) (by omega) rfl rfl rfl ?_
        (repeat (first | refine gx_run 999 80 rfl ?_ | refine gx_goto rfl rfl ?_))
        refine gw_goto rfl ?_
        rw [nI_1]
        refine hn _ ⟨fun o ho => by rw [gu_o ho, l1 o ho], fun k hk => by rw [gu_k (by omega), l2 k hk], ?_⟩
        rw [gn_up_eq]
        have h1 := hX3.upd (j := 20 + i) (n := if i < dH D then dN D i else 0) (v := nI (if i < dH D then dN D i else 0)) (by rw [vv_a (by omega)])
        rw [aS2_s] at h1
        exact h1
      (repeat (first | refine gx_run 999 80 rfl ?_ | refine gx_goto rfl rfl ?_))
      first | refine gx_iff rfl (nI_ge (b := 4) hi (by omega)) ?_ | refine gx_icf rfl (nI_ge (b := 4) hi (by omega)) ?_
      (repeat (first | refine gx_run 999 80 rfl ?_ | refine gx_goto rfl rfl ?_))
      rw [hH3]
      by_cases hl : i < dH D
      · first | refine gx_iff rfl (nI_ge hl (by omega)) ?_ | refine gx_icf rfl (nI_ge hl (by omega)) ?_
        (repeat (first | refine gx_run 999 80 rfl ?_ | refine gx_goto rfl rfl ?_))
        refine gx_ld (w := nI (dN D i)) i rfl (by omega) (by rw [l1 50 (by omega)]; exact (hM.2.2.2.2.2.2.2 i hl).2) rfl rfl rfl ?_
        (repeat (first | refine gx_run 999 80 rfl ?_ | refine gx_goto rfl rfl ?_))
        exact fin _ (by rw [if_pos hl])
      · first | refine gx_ift rfl (nI_le (by omega) (by omega)) ?_ | refine gx_ict rfl (nI_le (by omega) (by omega)) ?_
        (repeat (first | refine gx_run 999 80 rfl ?_ | refine gx_goto rfl rfl ?_))
        exact fin 0 (by rw [if_neg hl])
    · rintro σ3 ⟨l1, l2, hX3⟩
      (repeat (first | refine gx_run 999 80 rfl ?_ | refine gx_goto rfl rfl ?_))
      first | refine gx_ift rfl (by dsimp only [gn_cmp] <;> decide) ?_ | refine gx_ict rfl (by dsimp only [gn_cmp] <;> decide) ?_
      (repeat (first | refine gx_run 999 80 rfl ?_ | refine gx_goto rfl rfl ?_))
      refine gw_vret rfl ?_
      refine hQ σ3 l1 l2 (hX3.con (fun k hk => ?_))
      unfold aS2 aup aS1 aSeat
      repeat' split
      all_goals first | rfl | omega
end
theorem xw_passEvening {d : Nat} {σ : gn_Mem} {Q : Option Value → gn_Mem → Prop} {D : gD} {A : gA} (hT : gT 28 σ D) (hX : xR (σ 4) A) (hQ : ∀ σ' : gn_Mem, (∀ o, o ≠ 4 → σ' o = σ o) → xR (σ' 4) (aSeat D (aup A 27 (A 27 + 1))) → Q none σ') : gn_W (d + 3) 12 0 [.ref 3, .ref 28] [] σ Q := by
  (repeat (first | refine gx_run 999 80 rfl ?_ | refine gx_goto rfl rfl ?_))
  refine gx_ld 27 rfl (by omega) hX.ev rfl rfl rfl ?_
  (repeat (first | refine gx_run 999 80 rfl ?_ | refine gx_goto rfl rfl ?_))
  rw [nI_1]
  refine gx_st 27 rfl (by omega) rfl rfl rfl ?_
  have hX1 : xR (gn_up σ 4 27 (nI (A 27 + 1)) 4) (aup A 27 (A 27 + 1)) := by
    rw [gn_up_eq]
    exact hX.upd (j := 27) (by omega) rfl
  (repeat (first | refine gx_run 999 80 rfl ?_ | refine gx_goto rfl rfl ?_))
  refine gx_call rfl rfl rfl ?_
  refine xw_seatAll (Or.inl rfl) (D := D) (gT_fr hT (fun o a b => by rw [gu_o (show o ≠ 4 by omega)])) hX1 ?_
  intro σ2 f2 hX2
  (repeat (first | refine gx_run 999 80 rfl ?_ | refine gx_goto rfl rfl ?_))
  refine gw_vret rfl ?_
  exact hQ σ2 (fun o ho => by rw [f2 o ho, gu_o ho]) hX2
theorem p_anew {σ : gn_Mem} (hI : Inv σ) : gPair 104 176 [] σ := by
  obtain ⟨D, A, c, nx, B, z, I, e, T, Z, b, G, H, n, L, hT, hN, hS, hP, hII, hE, hB, hX, hF⟩ := id hI
  have hd := hT.1
  have hW := hT.2.2.1.1
  have hA := hN.2.2
  obtain ⟨h1, h2, h3, h18, h19, h24, h25, h26, h27⟩ := id hA
  rcases dE01 hW with h0 | h0
  · refine gPair.q hI (-1000000003) (fun Q hQ => ?_) (fun Q hQ => ?_)
    · (repeat (refine gw_stp rfl ?_))
      rw [hd]
      (repeat (first | refine gx_run 999 80 rfl ?_ | refine gx_goto rfl rfl ?_))
      rw [hT.2.2.1.2.1, h0]
      first | refine gx_iff rfl (by dsimp only [gn_cmp] <;> decide) ?_ | refine gx_icf rfl (by dsimp only [gn_cmp] <;> decide) ?_
      (repeat (first | refine gx_run 999 80 rfl ?_ | refine gx_goto rfl rfl ?_))
      refine gx_iret rfl rfl ?_
      exact hQ
    · (repeat (first | refine gx_run 999 80 rfl ?_ | refine gx_goto rfl rfl ?_))
      rw [hT.2.2.2.2.1, h0]
      first | refine gx_iff rfl (by dsimp only [gn_cmp] <;> decide) ?_ | refine gx_icf rfl (by dsimp only [gn_cmp] <;> decide) ?_
      (repeat (first | refine gx_run 999 80 rfl ?_ | refine gx_goto rfl rfl ?_))
      refine gx_iret rfl rfl ?_
      exact hQ
  · by_cases hev : A 27 < 90000
    · unfold gPair
      (repeat (refine gw_stp rfl ?_))
      rw [hd]
      (repeat (first | refine gx_run 999 80 rfl ?_ | refine gx_goto rfl rfl ?_))
      rw [hT.2.2.1.2.1, h0]
      first | refine gx_ift rfl (by dsimp only [gn_cmp] <;> decide) ?_ | refine gx_ict rfl (by dsimp only [gn_cmp] <;> decide) ?_
      (repeat (first | refine gx_run 999 80 rfl ?_ | refine gx_goto rfl rfl ?_))
      refine gx_call rfl rfl rfl ?_
      refine xw_evenings hN.1 ?_
      (repeat (first | refine gx_run 999 80 rfl ?_ | refine gx_goto rfl rfl ?_))
      first | refine gx_ift rfl (nI_lt (b := 90000) hev (by omega)) ?_ | refine gx_ict rfl (nI_lt (b := 90000) hev (by omega)) ?_
      (repeat (first | refine gx_run 999 80 rfl ?_ | refine gx_goto rfl rfl ?_))
      refine gx_call rfl rfl rfl ?_
      refine xw_remember hP.x hN.1 ?_
      intro σ1 f1 hP1
      have hd1 : gn_dyn (σ1 0 11) = 28 := by rw [f1 0 (by omega) (by omega)]; exact hd
      (repeat (first | refine gx_run 999 80 rfl ?_ | refine gx_goto rfl rfl ?_))
      rw [hd1]
      refine gx_call rfl rfl rfl ?_
      refine xw_passEvening (A := A) (D := D) (gT_fr hT.2.2.1 (fun o a b => f1 o (by omega) (by omega))) (by rw [f1 4 (by omega) (by omega)]; exact hN.1) ?_
      intro σ2 f2 hX2
      (repeat (first | refine gx_run 999 80 rfl ?_ | refine gx_goto rfl rfl ?_))
      refine gx_call rfl rfl rfl ?_
      refine xw_evenings hX2 ?_
      (repeat (first | refine gx_run 999 80 rfl ?_ | refine gx_goto rfl rfl ?_))
      refine gx_iret rfl rfl ?_
      rw [show aSeat D (aup A 27 (A 27 + 1)) 27 = A 27 + 1 from rfl]
      have hM2 := gM_x hT.2.2.2 f1 f2
      have w2 : ∀ k, σ2 45 k = σ 45 k := fun k => by rw [f2 45 (by omega), f1 45 (by omega) (by omega)]
      have hR2 : mR (σ2 45) A := hN.2.1.fr (fun k _ => w2 k)
      have hP2 : mP σ2 c B := hP.m.fr (by rw [f2 44 (by omega), f1 44 (by omega) (by omega)]) (fun k _ => w2 k)
      (repeat (first | refine gx_run 999 80 rfl ?_ | refine gx_goto rfl rfl ?_))
      rw [hM2.2.1, h0]
      first | refine gx_ift rfl (by dsimp only [gn_cmp] <;> decide) ?_ | refine gx_ict rfl (by dsimp only [gn_cmp] <;> decide) ?_
      (repeat (first | refine gx_run 999 80 rfl ?_ | refine gx_goto rfl rfl ?_))
      refine gx_ld 27 rfl (by omega) hR2.ev rfl rfl rfl ?_
      (repeat (first | refine gx_run 999 80 rfl ?_ | refine gx_goto rfl rfl ?_))
      first | refine gx_ift rfl (fun q => absurd ((nI_eq (b := 90000) (by omega) (by omega)).mp q) (by omega)) ?_ | refine gx_ict rfl (fun q => absurd ((nI_eq (b := 90000) (by omega) (by omega)).mp q) (by omega)) ?_
      (repeat (first | refine gx_run 999 80 rfl ?_ | refine gx_goto rfl rfl ?_))
      refine gx_call rfl rfl rfl ?_
      refine mw_remember hP2 hR2 ?_
      intro σ3 g1 g2 g3 hP3
      have hR3 : mR (σ3 45) A := hR2.fr (fun k hk => g3 k (by omega))
      (repeat (first | refine gx_run 999 80 rfl ?_ | refine gx_goto rfl rfl ?_))
      refine gx_call rfl rfl rfl ?_
      refine mw_allAnew (gM_rem hM2 g1 g2) hR3 ?_
      intro σ4 k1 k2 hR4
      (repeat (first | refine gx_run 999 80 rfl ?_ | refine gx_goto rfl rfl ?_))
      refine gx_ld 27 rfl (by omega) hR4.ev rfl rfl rfl ?_
      (repeat (first | refine gx_run 999 80 rfl ?_ | refine gx_goto rfl rfl ?_))
      rw [show aSeat D A 27 = A 27 from rfl, nI_1]
      refine gx_st 27 rfl (by omega) rfl rfl rfl ?_
      (repeat (first | refine gx_run 999 80 rfl ?_ | refine gx_goto rfl rfl ?_))
      refine gx_ld 27 rfl (by omega) gu_s rfl rfl rfl ?_
      refine gx_iret rfl rfl ?_
      refine ⟨⟨_, rfl, rfl⟩, Inv.deed1 (A' := aSeat D (aup A 27 (A 27 + 1))) hT hN hS hP hII hE hB hX hF f1 hP1 f2 hX2 g1 g2 g3 hP3 (fun o ho => by rw [gu_o ho, k1 o ho]) (fun k hk => by rw [gu_k (by omega), k2 k hk]) ?_ (w_seat hW ?_ ?_ ?_ ?_)⟩
      · rw [gn_up_eq]
        refine mR.con (hR4.upd (j := 27) (n := A 27 + 1) rfl) (fun k hk => ?_)
        by_cases e : k = 27
        · subst e
          rfl
        · rw [aup_ne e]
          unfold aSeat
          rw [aup_ne e]
      · exact h24
      · exact h25
      · exact h26
      · show A 27 + 1 ≤ 90000
        omega
    · have hev2 : A 27 = 90000 := by omega
      refine gPair.q hI (-1000000004) (fun Q hQ => ?_) (fun Q hQ => ?_)
      · (repeat (refine gw_stp rfl ?_))
        rw [hd]
        (repeat (first | refine gx_run 999 80 rfl ?_ | refine gx_goto rfl rfl ?_))
        rw [hT.2.2.1.2.1, h0]
        first | refine gx_ift rfl (by dsimp only [gn_cmp] <;> decide) ?_ | refine gx_ict rfl (by dsimp only [gn_cmp] <;> decide) ?_
        (repeat (first | refine gx_run 999 80 rfl ?_ | refine gx_goto rfl rfl ?_))
        refine gx_call rfl rfl rfl ?_
        refine xw_evenings hN.1 ?_
        rw [hev2]
        (repeat (first | refine gx_run 999 80 rfl ?_ | refine gx_goto rfl rfl ?_))
        first | refine gx_iff rfl (by dsimp only [gn_cmp] <;> decide) ?_ | refine gx_icf rfl (by dsimp only [gn_cmp] <;> decide) ?_
        (repeat (first | refine gx_run 999 80 rfl ?_ | refine gx_goto rfl rfl ?_))
        refine gx_iret rfl rfl ?_
        exact hQ
      · (repeat (first | refine gx_run 999 80 rfl ?_ | refine gx_goto rfl rfl ?_))
        rw [hT.2.2.2.2.1, h0]
        first | refine gx_ift rfl (by dsimp only [gn_cmp] <;> decide) ?_ | refine gx_ict rfl (by dsimp only [gn_cmp] <;> decide) ?_
        (repeat (first | refine gx_run 999 80 rfl ?_ | refine gx_goto rfl rfl ?_))
        refine gx_ld 27 rfl (by omega) hN.2.1.ev rfl rfl rfl ?_
        rw [hev2]
        (repeat (first | refine gx_run 999 80 rfl ?_ | refine gx_goto rfl rfl ?_))
        first | refine gx_iff rfl (by dsimp only [gn_cmp] <;> decide) ?_ | refine gx_icf rfl (by dsimp only [gn_cmp] <;> decide) ?_
        (repeat (first | refine gx_run 999 80 rfl ?_ | refine gx_goto rfl rfl ?_))
        refine gx_iret rfl rfl ?_
        exact hQ
