/-! an HOUR -/
/-- n guests have had their turn -/
def aSay (D : gD) (A : gA) (n : Nat) : gA := fun j => if j < n ∧ (A 18).testBit j = true ∧ A j < dC D j then A j + 1 else A j
def aHour (D : gD) (A : gA) : gA := aup (aup (aup (aSay D A (dG D)) 18 (A 18 ||| A 19)) 19 0) 26 (A 26 + 1)
theorem aSay_hi {D : gD} {A : gA} {n j : Nat} (h : n ≤ j) : aSay D A n j = A j := if_neg (fun q => by omega)
theorem aSay_s1 {D : gD} {A : gA} {n : Nat} (h : (A 18).testBit n = true ∧ A n < dC D n) : aup (aSay D A n) n (A n + 1) = aSay D A (n + 1) := by
  funext j
  unfold aup aSay
  by_cases e : j = n
  · subst e
    rw [if_pos rfl, if_pos ⟨by omega, h⟩]
  · rw [if_neg e]
    by_cases h1 : j < n
    · by_cases h2 : (A 18).testBit j = true ∧ A j < dC D j
      · rw [if_pos ⟨h1, h2⟩, if_pos ⟨by omega, h2⟩]
      · rw [if_neg (fun q => h2 q.2), if_neg (fun q => h2 q.2)]
    · rw [if_neg (fun q => h1 q.1), if_neg (fun q => by omega)]
theorem aSay_s0 {D : gD} {A : gA} {n : Nat} (h : ¬ ((A 18).testBit n = true ∧ A n < dC D n)) : aSay D A n = aSay D A (n + 1) := by
  funext j
  unfold aSay
  by_cases e : j = n
  · subst e
    rw [if_neg (fun q => h q.2), if_neg (fun q => h q.2)]
  · by_cases h1 : j < n
    · by_cases h2 : (A 18).testBit j = true ∧ A j < dC D j
      · rw [if_pos ⟨h1, h2⟩, if_pos ⟨by omega, h2⟩]
      · rw [if_neg (fun q => h2 q.2), if_neg (fun q => h2 q.2)]
    · rw [if_neg (fun q => h1 q.1), if_neg (fun q => by omega)]
theorem w_aSay {D : gD} {A : gA} (hW : gW D) (h : wA2 D A) : ∀ n, n ≤ dG D → wA2 D (aSay D A n) := by
  intro n
  induction n with
  | zero =>
    intro _
    have e : aSay D A 0 = A := by
      funext j
      exact aSay_hi (Nat.zero_le _)
    rw [e]
    exact h
  | succ n ih =>
    intro hn
    have hle := hW.1
    have h1 := ih (by omega)
    by_cases hc : (A 18).testBit n = true ∧ A n < dC D n
    · rw [← aSay_s1 hc]
      have e : A n = aSay D A n n := (aSay_hi (Nat.le_refl _)).symm
      rw [e]
      exact w_say hW h1 (by omega) (by rw [← e]; exact hc.2)
    · rw [← aSay_s0 hc]
      exact h1
theorem or64 : ∀ a, a < 64 → ∀ b, b < 64 → nI a ||| nI b = nI (a ||| b) := by decide +kernel
theorem w_hour {D : gD} {A : gA} (hW : gW D) (h : wA2 D A) (hh : A 26 < 90020) : wA2 D (aHour D A) := by
  have h1 := w_aSay hW h (dG D) (Nat.le_refl _)
  have h2 : A 18 ||| A 19 < 64 := Nat.or_lt_two_pow (n := 6) h.2.2.2.1 h.2.2.2.2.1
  unfold aHour
  refine w_one hW (w_one hW (w_one hW h1 ?_ ?_ ?_ ?_ ?_ ?_ ?_ ?_) ?_ ?_ ?_ ?_ ?_ ?_ ?_ ?_) ?_ ?_ ?_ ?_ ?_ ?_ ?_ ?_ <;> first | omega | (intro _; omega)
section
variable {d mi pc : Nat} {σ : gn_Mem} {Q : Option Value → gn_Mem → Prop} {D : gD} {A : gA}
theorem gw_forP {α : Type} (n : Nat) (P : Nat → α → Prop) (lf : Nat → α → List Value) (mf : α → gn_Mem) (x : α) (h0 : P 0 x) (hb : ∀ i y, i < n → P i y → (∀ y', P (i + 1) y' → gn_W d mi pc (lf (i + 1) y') [] (mf y') Q) → gn_W d mi pc (lf i y) [] (mf y) Q) (hx : ∀ y, P n y → gn_W d mi pc (lf n y) [] (mf y) Q) : gn_W d mi pc (lf 0 x) [] (mf x) Q := by
  have key : ∀ m i y, m + i = n → P i y → gn_W d mi pc (lf i y) [] (mf y) Q := by
    intro m
    induction m with
    | zero =>
      intro i y hi hp
      have e : i = n := by omega
      subst e
      exact hx y hp
    | succ m ih =>
      intro i y hi hp
      exact hb i y (by omega) hp (fun y' h' => ih (i + 1) y' (by omega) h')
  exact key n 0 x (by omega) h0
theorem xw_passHour (hT : gT 28 σ D) (hX : xR (σ 4) A) (hA : wA2 D A) (hQ : ∀ σ' : gn_Mem, (∀ o, o ≠ 4 → σ' o = σ o) → xR (σ' 4) (aHour D A) → Q none σ') : gn_W (d + 3) 36 0 [.ref 3, .ref 28] [] σ Q := by
  have hle := hT.1.1
  (refine gw_run 2 80 rfl ?_)
  refine gw_forP (dG D) (fun i σ1 => (∀ o, o ≠ 4 → σ1 o = σ o) ∧ xR (σ1 4) (aSay D A i)) (fun i _ => [.ref 3, .ref 28, .int (nI i)]) (fun σ1 => σ1) σ ⟨fun _ _ => rfl, ?_⟩ ?_ ?_
  · have e : aSay D A 0 = A := by
      funext j
      exact aSay_hi (Nat.zero_le _)
    rw [e]
    exact hX
  · rintro i σ1 hi ⟨f1, hX1⟩ hn
    have hT1 : gT 28 σ1 D := gT_fr hT (fun o a b => f1 o (by omega))
    have hA1 := w_aSay hT.1 hA i (by omega)
    have ha := hA.1 i hi
    have hc := hT.1.2.2.2.2.1 i hi
    (repeat (first | refine gx_run 999 80 rfl ?_ | refine gx_goto rfl rfl ?_))
    rw [hT1.2.2.2.1]
    first | refine gx_iff rfl (nI_ge hi (by omega)) ?_ | refine gx_icf rfl (nI_ge hi (by omega)) ?_
    (repeat (first | refine gx_run 999 80 rfl ?_ | refine gx_goto rfl rfl ?_))
    refine gx_call rfl rfl rfl ?_
    refine xw_canSpeak hT1 hX1 hA1 hi ?_
    rw [aSay_hi (show i ≤ 18 by omega), aSay_hi (Nat.le_refl i)]
    by_cases h1 : (A 18).testBit i = true ∧ A i < dC D i
    · rw [gb_t h1]
      (repeat (first | refine gx_run 999 80 rfl ?_ | refine gx_goto rfl rfl ?_))
      first | refine gx_iff rfl (by dsimp only [gn_cmp] <;> decide) ?_ | refine gx_icf rfl (by dsimp only [gn_cmp] <;> decide) ?_
      (repeat (first | refine gx_run 999 80 rfl ?_ | refine gx_goto rfl rfl ?_))
      refine gx_call rfl rfl rfl ?_
      refine xw_speak hX1 (by omega) ?_
      intro σ2 f2 hX2
      (repeat (first | refine gx_run 999 80 rfl ?_ | refine gx_goto rfl rfl ?_))
      refine gw_goto rfl ?_
      rw [nI_1]
      refine hn σ2 ⟨fun o ho => by rw [f2 o ho, f1 o ho], ?_⟩
      rw [aSay_hi (Nat.le_refl i), aSay_s1 h1] at hX2
      exact hX2
    · rw [gb_f h1]
      (repeat (first | refine gx_run 999 80 rfl ?_ | refine gx_goto rfl rfl ?_))
      first | refine gx_ift rfl (by dsimp only [gn_cmp] <;> decide) ?_ | refine gx_ict rfl (by dsimp only [gn_cmp] <;> decide) ?_
      (repeat (first | refine gx_run 999 80 rfl ?_ | refine gx_goto rfl rfl ?_))
      refine gw_goto rfl ?_
      rw [nI_1]
      refine hn σ1 ⟨f1, ?_⟩
      rw [← aSay_s0 h1]
      exact hX1
  · rintro σ1 ⟨f1, hX1⟩
    have hT1 : gT 28 σ1 D := gT_fr hT (fun o a b => f1 o (by omega))
    have e18 : aSay D A (dG D) 18 = A 18 := aSay_hi (by omega)
    have e19 : aSay D A (dG D) 19 = A 19 := aSay_hi (by omega)
    have e26 : aSay D A (dG D) 26 = A 26 := aSay_hi (by omega)
    (repeat (first | refine gx_run 999 80 rfl ?_ | refine gx_goto rfl rfl ?_))
    rw [hT1.2.2.2.1]
    first | refine gx_ift rfl (nI_le (Nat.le_refl _) (by omega)) ?_ | refine gx_ict rfl (nI_le (Nat.le_refl _) (by omega)) ?_
    (repeat (first | refine gx_run 999 80 rfl ?_ | refine gx_goto rfl rfl ?_))
    refine gx_ld 22 rfl (by omega) hX1.up rfl rfl rfl ?_
    (repeat (first | refine gx_run 999 80 rfl ?_ | refine gx_goto rfl rfl ?_))
    refine gx_ld 23 rfl (by omega) hX1.wk rfl rfl rfl ?_
    (repeat (first | refine gx_run 999 80 rfl ?_ | refine gx_goto rfl rfl ?_))
    rw [e18, e19, or64 _ hA.2.2.2.1 _ hA.2.2.2.2.1]
    refine gx_st 22 rfl (by omega) rfl rfl rfl ?_
    have hX2 : xR (gn_up σ1 4 22 (nI (A 18 ||| A 19)) 4) (aup (aSay D A (dG D)) 18 (A 18 ||| A 19)) := by
      rw [gn_up_eq]
      exact hX1.upd (j := 22) (by omega) rfl
    (repeat (first | refine gx_run 999 80 rfl ?_ | refine gx_goto rfl rfl ?_))
    refine gx_st 23 rfl (by omega) rfl rfl rfl ?_
    have hX3 : xR (gn_up (gn_up σ1 4 22 (nI (A 18 ||| A 19))) 4 23 0 4) (aup (aup (aSay D A (dG D)) 18 (A 18 ||| A 19)) 19 0) := by
      rw [gn_up_eq]
      exact hX2.upd (j := 23) (by omega) rfl
    (repeat (first | refine gx_run 999 80 rfl ?_ | refine gx_goto rfl rfl ?_))
    refine gx_ld 26 rfl (by omega) hX3.hr rfl rfl rfl ?_
    (repeat (first | refine gx_run 999 80 rfl ?_ | refine gx_goto rfl rfl ?_))
    rw [show aup (aup (aSay D A (dG D)) 18 (A 18 ||| A 19)) 19 0 26 = A 26 by rw [aup_ne (by omega), aup_ne (by omega), e26], nI_1]
    refine gx_st 26 rfl (by omega) rfl rfl rfl ?_
    refine gw_vret rfl ?_
    refine hQ _ (fun o h => by rw [gu_o h, gu_o h, gu_o h, f1 o h]) ?_
    rw [gn_up_eq]
    exact hX3.upd (j := 26) (by omega) rfl
theorem mw_goOn (hM : gM σ D) (hX : mR (σ 45) A) (hA : wA2 D A) (hQ : ∀ σ' : gn_Mem, (∀ o, o ≠ 45 → σ' o = σ o) → (∀ k, 28 ≤ k → σ' 45 k = σ 45 k) → mR (σ' 45) (aHour D A) → Q none σ') : gn_W (d + 1) 173 0 [.ref 44] [] σ Q := by
  have hle := hM.1.1
  have h18 := hA.2.2.2.1
  (repeat (first | refine gx_run 999 80 rfl ?_ | refine gx_goto rfl rfl ?_))
  refine gx_ld 19 rfl (by omega) hX.wk rfl rfl rfl ?_
  (refine gw_run 10 80 rfl ?_)
  refine gw_forP (dG D) (fun i σ1 => (∀ o, o ≠ 45 → σ1 o = σ o) ∧ (∀ k, 28 ≤ k → σ1 45 k = σ 45 k) ∧ mR (σ1 45) (aSay D A i)) (fun i _ => [.ref 44, .int (nI (A 19)), .int (nI i)]) (fun σ1 => σ1) σ ⟨fun _ _ => rfl, fun _ _ => rfl, ?_⟩ ?_ ?_
  · have e : aSay D A 0 = A := by
      funext j
      exact aSay_hi (Nat.zero_le _)
    rw [e]
    exact hX
  · rintro i σ1 hi ⟨f1, f2, hX1⟩ hn
    have hM1 : gM σ1 D := gM_fr hM (fun k _ => by rw [f1 44 (by omega)]) (fun o a b => f1 o (by omega))
    have ha := hA.1 i hi
    have hc := hM.1.2.2.2.2.1 i hi
    have ei : aSay D A i i = A i := aSay_hi (Nat.le_refl i)
    have e18 : aSay D A i 18 = A 18 := aSay_hi (by omega)
    (repeat (first | refine gx_run 999 80 rfl ?_ | refine gx_goto rfl rfl ?_))
    rw [hM1.2.2.2.1]
    first | refine gx_iff rfl (nI_ge hi (by omega)) ?_ | refine gx_icf rfl (nI_ge hi (by omega)) ?_
    (repeat (first | refine gx_run 999 80 rfl ?_ | refine gx_goto rfl rfl ?_))
    refine gx_ld i rfl (by omega) (by rw [hX1.said (by omega), ei]) rfl rfl rfl ?_
    (repeat (first | refine gx_run 999 80 rfl ?_ | refine gx_goto rfl rfl ?_))
    refine gx_ld 18 rfl (by omega) (by rw [hX1.up, e18]) rfl rfl rfl ?_
    (repeat (first | refine gx_run 999 80 rfl ?_ | refine gx_goto rfl rfl ?_))
    refine gw_calls rfl rfl rfl ?_
    refine mw_has (by omega) (by omega) ?_
    by_cases h1 : (A 18).testBit i = true
    · rw [gb_t h1]
      (repeat (first | refine gx_run 999 80 rfl ?_ | refine gx_goto rfl rfl ?_))
      first | refine gx_iff rfl (by dsimp only [gn_cmp] <;> decide) ?_ | refine gx_icf rfl (by dsimp only [gn_cmp] <;> decide) ?_
      (repeat (first | refine gx_run 999 80 rfl ?_ | refine gx_goto rfl rfl ?_))
      refine gx_ld i rfl (by omega) (by rw [hX1.said (by omega), ei]) rfl rfl rfl ?_
      (repeat (first | refine gx_run 999 80 rfl ?_ | refine gx_goto rfl rfl ?_))
      refine gx_ld i rfl (by omega) (hM1.2.2.2.2.2.1 i hi).2 rfl rfl rfl ?_
      by_cases h2 : A i < dC D i
      · first | refine gx_iff rfl (nI_ge h2 (by omega)) ?_ | refine gx_icf rfl (nI_ge h2 (by omega)) ?_
        (repeat (first | refine gx_run 999 80 rfl ?_ | refine gx_goto rfl rfl ?_))
        rw [nI_1]
        refine gx_st i rfl (by omega) rfl rfl rfl ?_
        (repeat (first | refine gx_run 999 80 rfl ?_ | refine gx_goto rfl rfl ?_))
        refine gw_goto rfl ?_
        rw [nI_1]
        refine hn _ ⟨fun o ho => by rw [gu_o ho, f1 o ho], fun k hk => by rw [gu_k (by omega), f2 k hk], ?_⟩
        rw [← aSay_s1 ⟨h1, h2⟩, gn_up_eq]
        exact hX1.upd (by rw [vv_a (by omega)])
      · first | refine gx_ift rfl (nI_le (by omega) (by omega)) ?_ | refine gx_ict rfl (nI_le (by omega) (by omega)) ?_
        (repeat (first | refine gx_run 999 80 rfl ?_ | refine gx_goto rfl rfl ?_))
        rw [Int32.add_zero]
        refine gx_st i rfl (by omega) rfl rfl rfl ?_
        (repeat (first | refine gx_run 999 80 rfl ?_ | refine gx_goto rfl rfl ?_))
        refine gw_goto rfl ?_
        rw [nI_1]
        refine hn _ ⟨fun o ho => by rw [gu_o ho, f1 o ho], fun k hk => by rw [gu_k (by omega), f2 k hk], ?_⟩
        rw [← aSay_s0 (fun q => h2 q.2), gn_up_eq]
        refine mR.con (hX1.upd (n := A i) (by rw [vv_a (by omega)])) (fun k hk => ?_)
        by_cases e : k = i
        · subst e; rw [aup_eq, ei]
        · rw [aup_ne e]
    · rw [gb_f h1]
      (repeat (first | refine gx_run 999 80 rfl ?_ | refine gx_goto rfl rfl ?_))
      first | refine gx_ift rfl (by dsimp only [gn_cmp] <;> decide) ?_ | refine gx_ict rfl (by dsimp only [gn_cmp] <;> decide) ?_
      (repeat (first | refine gx_run 999 80 rfl ?_ | refine gx_goto rfl rfl ?_))
      rw [Int32.add_zero]
      refine gx_st i rfl (by omega) rfl rfl rfl ?_
      (repeat (first | refine gx_run 999 80 rfl ?_ | refine gx_goto rfl rfl ?_))
      refine gw_goto rfl ?_
      rw [nI_1]
      refine hn _ ⟨fun o ho => by rw [gu_o ho, f1 o ho], fun k hk => by rw [gu_k (by omega), f2 k hk], ?_⟩
      rw [← aSay_s0 (fun q => h1 q.1), gn_up_eq]
      refine mR.con (hX1.upd (n := A i) (by rw [vv_a (by omega)])) (fun k hk => ?_)
      by_cases e : k = i
      · subst e; rw [aup_eq, ei]
      · rw [aup_ne e]
  · rintro σ1 ⟨f1, f2, hX1⟩
    have hM1 : gM σ1 D := gM_fr hM (fun k _ => by rw [f1 44 (by omega)]) (fun o a b => f1 o (by omega))
    have e18 : aSay D A (dG D) 18 = A 18 := aSay_hi (by omega)
    have e26 : aSay D A (dG D) 26 = A 26 := aSay_hi (by omega)
    (repeat (first | refine gx_run 999 80 rfl ?_ | refine gx_goto rfl rfl ?_))
    rw [hM1.2.2.2.1]
    first | refine gx_ift rfl (nI_le (Nat.le_refl _) (by omega)) ?_ | refine gx_ict rfl (nI_le (Nat.le_refl _) (by omega)) ?_
    (repeat (first | refine gx_run 999 80 rfl ?_ | refine gx_goto rfl rfl ?_))
    refine gx_ld 18 rfl (by omega) hX1.up rfl rfl rfl ?_
    (repeat (first | refine gx_run 999 80 rfl ?_ | refine gx_goto rfl rfl ?_))
    rw [e18, or64 _ h18 _ hA.2.2.2.2.1]
    refine gx_st 18 rfl (by omega) rfl rfl rfl ?_
    have hX2 : mR (gn_up σ1 45 18 (nI (A 18 ||| A 19)) 45) (aup (aSay D A (dG D)) 18 (A 18 ||| A 19)) := by
      rw [gn_up_eq]
      exact hX1.upd rfl
    (repeat (first | refine gx_run 999 80 rfl ?_ | refine gx_goto rfl rfl ?_))
    refine gx_st 19 rfl (by omega) rfl rfl rfl ?_
    have hX3 : mR (gn_up (gn_up σ1 45 18 (nI (A 18 ||| A 19))) 45 19 0 45) (aup (aup (aSay D A (dG D)) 18 (A 18 ||| A 19)) 19 0) := by
      rw [gn_up_eq]
      exact hX2.upd rfl
    (repeat (first | refine gx_run 999 80 rfl ?_ | refine gx_goto rfl rfl ?_))
    refine gx_ld 26 rfl (by omega) hX3.hr rfl rfl rfl ?_
    (repeat (first | refine gx_run 999 80 rfl ?_ | refine gx_goto rfl rfl ?_))
    rw [show aup (aup (aSay D A (dG D)) 18 (A 18 ||| A 19)) 19 0 26 = A 26 by rw [aup_ne (by omega), aup_ne (by omega), e26], nI_1]
    refine gx_st 26 rfl (by omega) rfl rfl rfl ?_
    refine gw_vret rfl ?_
    refine hQ _ (fun o h => by rw [gu_o h, gu_o h, gu_o h, f1 o h]) (fun k hk => by rw [gu_k (by omega), gu_k (by omega), gu_k (by omega), f2 k hk]) ?_
    rw [gn_up_eq]
    exact hX3.upd rfl
end
