/-! BY DRAWS -/
def sNx (s : Nat) : Nat := (s * 1103515245 + 12345) % 2147483648
theorem sNx_lt (s : Nat) : sNx s < 2147483648 := Nat.mod_lt _ (by omega)
theorem l_and (m : Nat) : lN m &&& lN 2147483647 = lN (m % 2147483648) := by
  unfold lN
  apply Int64.toBitVec_inj.mp
  rw [Int64.toBitVec_and]
  simp only [Int64.toBitVec_ofNat']
  apply BitVec.eq_of_toNat_eq
  rw [BitVec.toNat_and]
  simp only [BitVec.toNat_ofNat]
  rw [show (2147483647 % 2 ^ 64 : Nat) = 2 ^ 31 - 1 by decide, Nat.and_two_pow_sub_one_eq_mod]
  omega
theorem seedx {s : Nat} (hs : s < 2 ^ 31) : ((nI s).toInt64 * Int64.ofNat 1103515245 + Int64.ofNat 12345 &&& Int64.ofNat 2147483647).toInt32 = nI (sNx s) := by
  rw [nI_l hs]
  show (lN s * lN 1103515245 + lN 12345 &&& lN 2147483647).toInt32 = _
  rw [lN_mul, lN_add, l_and, lN_i]
  rfl
theorem seedm {s : Nat} (hs : s < 2 ^ 31) : ((nI s).toInt64 * Int64.ofNat 1103515245 + Int64.ofNat 12345 - ((nI s).toInt64 * Int64.ofNat 1103515245 + Int64.ofNat 12345) / Int64.ofNat 2147483648 * Int64.ofNat 2147483648).toInt32 = nI (sNx s) := by
  rw [nI_l hs]
  show (lN s * lN 1103515245 + lN 12345 - (lN s * lN 1103515245 + lN 12345) / lN 2147483648 * lN 2147483648).toInt32 = _
  rw [lN_mul, lN_add, pk_lRem (by omega) (by omega) (by omega), lN_i]
  rfl
theorem dr_eq {s n : Nat} (hs : s < 2 ^ 31) (hn : 0 < n) (hn2 : n < 2 ^ 31) : nI s / 65536 - nI s / 65536 / nI n * nI n = nI (s / 65536 % n) := by
  rw [show (65536 : Int32) = nI 65536 from rfl, pk_div hs (by omega) (by omega), pk_rem (by omega) hn hn2]
/-- one deed by draws: the night, THE SEED -/
def dDeed (D : gD) (y : gA × Nat) : gA × Nat :=
  if dG D = 0 ∨ dH D = 0 then y else
    (if sNx y.2 / 65536 % 4 ≤ 1 ∧ (0 < y.1 (20 + sNx (sNx (sNx y.2)) / 65536 % dH D) ∧ (y.1 18).testBit (sNx (sNx y.2) / 65536 % dG D) = true ∧ 0 < y.1 (sNx (sNx y.2) / 65536 % dG D) ∧ y.1 (6 + sNx (sNx y.2) / 65536 % dG D) = 0) then aNo D y.1 (sNx (sNx (sNx y.2)) / 65536 % dH D) (sNx (sNx y.2) / 65536 % dG D)
     else if sNx y.2 / 65536 % 4 = 2 ∧ (y.1 18).testBit (sNx (sNx y.2) / 65536 % dG D) = true then aBed y.1 (sNx (sNx y.2) / 65536 % dG D) else y.1, sNx (sNx (sNx y.2)))
section
variable {d : Nat} {σ : gn_Mem} {Q : Option Value → gn_Mem → Prop} {D : gD} {A : gA}
theorem xw_draw {s n : Nat} (hs : s < 2 ^ 31) (hn : 0 < n) (hn2 : n < 1000) (he : σ 11 0 = nI s) (hQ : Q (some (.int (nI (sNx s / 65536 % n)))) (gn_up σ 11 0 (nI (sNx s)))) : gn_W d 2 0 [.ref 11, .int (nI n)] [] σ Q := by
  have hl := sNx_lt s
  (repeat (first | refine gx_run 999 80 rfl ?_ | refine gx_goto rfl rfl ?_))
  rw [he, seedx hs]
  first | refine gx_iff rfl (nI_nle hn (by omega)) ?_ | refine gx_icf rfl (nI_nle hn (by omega)) ?_
  (repeat (first | refine gx_run 999 80 rfl ?_ | refine gx_goto rfl rfl ?_))
  rw [gu_s]
  refine gw_idiv rfl (by decide) ?_
  (repeat (first | refine gx_run 999 80 rfl ?_ | refine gx_goto rfl rfl ?_))
  refine gw_irem rfl (nI_ne0 hn (by omega)) ?_
  (repeat (first | refine gx_run 999 80 rfl ?_ | refine gx_goto rfl rfl ?_))
  refine gx_iret rfl rfl ?_
  rw [dr_eq (by omega) hn (by omega)]
  exact hQ
theorem mw_draw {s n : Nat} (hs : s < 2 ^ 31) (hn : 0 < n) (hn2 : n < 1000) (he : σ 45 28 = nI s) (hQ : Q (some (.int (nI (sNx s / 65536 % n)))) (gn_up σ 45 28 (nI (sNx s)))) : gn_W d 177 0 [.ref 44, .int (nI n)] [] σ Q := by
  have hl := sNx_lt s
  (repeat (first | refine gx_run 999 80 rfl ?_ | refine gx_goto rfl rfl ?_))
  refine gx_ld 28 rfl (by omega) he rfl rfl rfl ?_
  (repeat (first | refine gx_run 999 80 rfl ?_ | refine gx_goto rfl rfl ?_))
  refine gw_lrem rfl (by decide) ?_
  (repeat (first | refine gx_run 999 80 rfl ?_ | refine gx_goto rfl rfl ?_))
  rw [seedm hs]
  refine gx_st 28 rfl (by omega) rfl rfl rfl ?_
  (repeat (first | refine gx_run 999 80 rfl ?_ | refine gx_goto rfl rfl ?_))
  refine gx_ld 28 rfl (by omega) gu_s rfl rfl rfl ?_
  (repeat (first | refine gx_run 999 80 rfl ?_ | refine gx_goto rfl rfl ?_))
  refine gw_idiv rfl (by decide) ?_
  (repeat (first | refine gx_run 999 80 rfl ?_ | refine gx_goto rfl rfl ?_))
  refine gw_irem rfl (nI_ne0 hn (by omega)) ?_
  refine gx_iret rfl rfl ?_
  rw [dr_eq (by omega) hn (by omega)]
  exact hQ
theorem xw_deed (hT : gT 28 σ D) (hX : xR (σ 4) A) (hA : wA2 D A) {s : Nat} (hs : s < 2 ^ 31) (he : σ 11 0 = nI s) (hQ : ∀ σ' : gn_Mem, (∀ o, o ≠ 4 → o ≠ 11 → σ' o = σ o) → xR (σ' 4) (dDeed D (A, s)).1 → σ' 11 0 = nI (dDeed D (A, s)).2 → Q none σ') : gn_W (d + 6) 3 0 [.ref 11, .ref 28, .ref 3] [] σ Q := by
  have hle := hT.1.1
  have hhe := hT.1.2.1
  (repeat (first | refine gx_run 999 80 rfl ?_ | refine gx_goto rfl rfl ?_))
  rw [hT.2.2.2.1]
  by_cases hG : dG D = 0
  · first | refine gx_ift rfl (show nI (dG D) = 0 by rw [hG]; rfl) ?_ | refine gx_ict rfl (show nI (dG D) = 0 by rw [hG]; rfl) ?_
    (repeat (first | refine gx_run 999 80 rfl ?_ | refine gx_goto rfl rfl ?_))
    refine gw_vret rfl ?_
    have e : dDeed D (A, s) = (A, s) := if_pos (Or.inl hG)
    rw [e] at hQ
    exact hQ σ (fun _ _ _ => rfl) hX he
  · first | refine gx_iff rfl (nI_ne0 (by omega) (by omega)) ?_ | refine gx_icf rfl (nI_ne0 (by omega) (by omega)) ?_
    (repeat (first | refine gx_run 999 80 rfl ?_ | refine gx_goto rfl rfl ?_))
    rw [hT.2.2.2.2.1]
    by_cases hH : dH D = 0
    · first | refine gx_iff rfl (fun q => q (show nI (dH D) = 0 by rw [hH]; rfl)) ?_ | refine gx_icf rfl (fun q => q (show nI (dH D) = 0 by rw [hH]; rfl)) ?_
      (repeat (first | refine gx_run 999 80 rfl ?_ | refine gx_goto rfl rfl ?_))
      refine gw_vret rfl ?_
      have e : dDeed D (A, s) = (A, s) := if_pos (Or.inr hH)
      rw [e] at hQ
      exact hQ σ (fun _ _ _ => rfl) hX he
    · first | refine gx_ift rfl (nI_ne0 (by omega) (by omega)) ?_ | refine gx_ict rfl (nI_ne0 (by omega) (by omega)) ?_
      have eD : dDeed D (A, s) = _ := if_neg (fun q => q.elim hG hH)
      rw [eD] at hQ
      dsimp only at hQ
      have l1 := sNx_lt s
      have l2 := sNx_lt (sNx s)
      have hgl : sNx (sNx s) / 65536 % dG D < dG D := Nat.mod_lt _ (by omega)
      have hhl : sNx (sNx (sNx s)) / 65536 % dH D < dH D := Nat.mod_lt _ (by omega)
      have hdl : sNx s / 65536 % 4 < 4 := Nat.mod_lt _ (by omega)
      (repeat (first | refine gx_run 999 80 rfl ?_ | refine gx_goto rfl rfl ?_))
      refine gx_call rfl rfl rfl ?_
      refine xw_draw (n := 4) hs (by omega) (by omega) he ?_
      (repeat (first | refine gx_run 999 80 rfl ?_ | refine gx_goto rfl rfl ?_))
      rw [show gn_up σ 11 0 (nI (sNx s)) 28 2 = nI (dG D) from hT.2.2.2.1]
      refine gx_call rfl rfl rfl ?_
      refine xw_draw (s := sNx s) (n := dG D) (by omega) (by omega) (by omega) gu_s ?_
      (repeat (first | refine gx_run 999 80 rfl ?_ | refine gx_goto rfl rfl ?_))
      rw [show gn_up (gn_up σ 11 0 (nI (sNx s))) 11 0 (nI (sNx (sNx s))) 28 3 = nI (dH D) from hT.2.2.2.2.1]
      refine gx_call rfl rfl rfl ?_
      refine xw_draw (s := sNx (sNx s)) (n := dH D) (by omega) (by omega) (by omega) gu_s ?_
      generalize h1 : gn_up (gn_up (gn_up σ 11 0 (nI (sNx s))) 11 0 (nI (sNx (sNx s)))) 11 0 (nI (sNx (sNx (sNx s)))) = σ1
      have f1 : ∀ o, o ≠ 11 → σ1 o = σ o := fun o ho => by rw [← h1, gu_o ho, gu_o ho, gu_o ho]
      have e11 : σ1 11 0 = nI (sNx (sNx (sNx s))) := by rw [← h1, gu_s]
      have hT1 : gT 28 σ1 D := gT_fr hT (fun o a b => f1 o (by omega))
      have hX1 : xR (σ1 4) A := by rw [f1 4 (by omega)]; exact hX
      generalize sNx (sNx (sNx s)) / 65536 % dH D = h at hQ hhl ⊢
      generalize sNx (sNx s) / 65536 % dG D = g at hQ hgl ⊢
      generalize sNx s / 65536 % 4 = dd at hQ hdl ⊢
      have ha := hA.1 g hgl
      have hn9 := hA.2.2.1 h (by omega)
      (repeat (first | refine gx_run 999 80 rfl ?_ | refine gx_goto rfl rfl ?_))
      by_cases hd1 : dd ≤ 1
      · first | refine gx_iff rfl (nI_nlt (a := 1) (b := dd) hd1 (by omega)) ?_ | refine gx_icf rfl (nI_nlt (a := 1) (b := dd) hd1 (by omega)) ?_
        (repeat (first | refine gx_run 999 80 rfl ?_ | refine gx_goto rfl rfl ?_))
        refine gx_call rfl rfl rfl ?_
        refine xw_canContradict hT.1 hX1 hA hgl hhl ?_
        by_cases ho : 0 < A (20 + h) ∧ (A 18).testBit g = true ∧ 0 < A g ∧ A (6 + g) = 0
        · rw [gb_t ho]
          rw [if_pos ⟨hd1, ho⟩] at hQ
          (repeat (first | refine gx_run 999 80 rfl ?_ | refine gx_goto rfl rfl ?_))
          first | refine gx_iff rfl (by dsimp only [gn_cmp] <;> decide) ?_ | refine gx_icf rfl (by dsimp only [gn_cmp] <;> decide) ?_
          (repeat (first | refine gx_run 999 80 rfl ?_ | refine gx_goto rfl rfl ?_))
          refine gx_call rfl rfl rfl ?_
          refine xw_contradict hT1 hX1 hA.2.2.2.2.2.1 hgl hhl ho.2.2.1 ha.1 ho.1 hn9 ?_
          intro σ2 f2 hX2
          (repeat (first | refine gx_run 999 80 rfl ?_ | refine gx_goto rfl rfl ?_))
          refine gw_vret rfl ?_
          exact hQ σ2 (fun o a1 a2 => by rw [f2 o a1, f1 o a2]) hX2 (by rw [f2 11 (by omega), e11])
        · rw [gb_f ho]
          rw [if_neg (fun q => ho q.2), if_neg (fun q => by omega)] at hQ
          (repeat (first | refine gx_run 999 80 rfl ?_ | refine gx_goto rfl rfl ?_))
          first | refine gx_ift rfl (by dsimp only [gn_cmp] <;> decide) ?_ | refine gx_ict rfl (by dsimp only [gn_cmp] <;> decide) ?_
          (repeat (first | refine gx_run 999 80 rfl ?_ | refine gx_goto rfl rfl ?_))
          first | refine gx_ift rfl (show ¬ nI dd = 2 from fun q => absurd ((nI_eq (b := 2) (by omega) (by omega)).mp q) (by omega)) ?_ | refine gx_ict rfl (show ¬ nI dd = 2 from fun q => absurd ((nI_eq (b := 2) (by omega) (by omega)).mp q) (by omega)) ?_
          (repeat (first | refine gx_run 999 80 rfl ?_ | refine gx_goto rfl rfl ?_))
          refine gw_vret rfl ?_
          exact hQ σ1 (fun o a1 a2 => f1 o a2) hX1 e11
      · first | refine gx_ift rfl (nI_lt (a := 1) (by omega) (by omega)) ?_ | refine gx_ict rfl (nI_lt (a := 1) (by omega) (by omega)) ?_
        rw [if_neg (fun q => hd1 q.1)] at hQ
        (repeat (first | refine gx_run 999 80 rfl ?_ | refine gx_goto rfl rfl ?_))
        by_cases hd2 : dd = 2
        · subst hd2
          first | refine gx_iff rfl (by dsimp only [gn_cmp] <;> decide) ?_ | refine gx_icf rfl (by dsimp only [gn_cmp] <;> decide) ?_
          (repeat (first | refine gx_run 999 80 rfl ?_ | refine gx_goto rfl rfl ?_))
          refine gx_call rfl rfl rfl ?_
          refine xw_isUp hX1 hA.2.2.2.1 (by omega) ?_
          by_cases hu : (A 18).testBit g = true
          · rw [gb_t hu]
            rw [if_pos ⟨rfl, hu⟩] at hQ
            (repeat (first | refine gx_run 999 80 rfl ?_ | refine gx_goto rfl rfl ?_))
            first | refine gx_iff rfl (by dsimp only [gn_cmp] <;> decide) ?_ | refine gx_icf rfl (by dsimp only [gn_cmp] <;> decide) ?_
            (repeat (first | refine gx_run 999 80 rfl ?_ | refine gx_goto rfl rfl ?_))
            refine gx_call rfl rfl rfl ?_
            refine xw_retire hX1 hA hT.1 hgl ?_
            intro σ2 f2 hX2
            (repeat (first | refine gx_run 999 80 rfl ?_ | refine gx_goto rfl rfl ?_))
            refine gw_vret rfl ?_
            exact hQ σ2 (fun o a1 a2 => by rw [f2 o a1, f1 o a2]) hX2 (by rw [f2 11 (by omega), e11])
          · rw [gb_f hu]
            rw [if_neg (fun q => hu q.2)] at hQ
            (repeat (first | refine gx_run 999 80 rfl ?_ | refine gx_goto rfl rfl ?_))
            first | refine gx_ift rfl (by dsimp only [gn_cmp] <;> decide) ?_ | refine gx_ict rfl (by dsimp only [gn_cmp] <;> decide) ?_
            (repeat (first | refine gx_run 999 80 rfl ?_ | refine gx_goto rfl rfl ?_))
            refine gw_vret rfl ?_
            exact hQ σ1 (fun o a1 a2 => f1 o a2) hX1 e11
        · rw [if_neg (fun q => hd2 q.1)] at hQ
          first | refine gx_ift rfl (show ¬ nI dd = 2 from fun q => absurd ((nI_eq (b := 2) (by omega) (by omega)).mp q) hd2) ?_ | refine gx_ict rfl (show ¬ nI dd = 2 from fun q => absurd ((nI_eq (b := 2) (by omega) (by omega)).mp q) hd2) ?_
          (repeat (first | refine gx_run 999 80 rfl ?_ | refine gx_goto rfl rfl ?_))
          refine gw_vret rfl ?_
          exact hQ σ1 (fun o a1 a2 => f1 o a2) hX1 e11
theorem mw_draws (hM : gM σ D) (hX : mR (σ 45) A) (hA : wA2 D A) (hG : dG D ≠ 0) (hH : dH D ≠ 0) {s : Nat} (hs : s < 2 ^ 31) (he : σ 45 28 = nI s) (hQ : ∀ σ' : gn_Mem, (∀ o, o ≠ 45 → σ' o = σ o) → (∀ k, 29 ≤ k → σ' 45 k = σ 45 k) → mR (σ' 45) (dDeed D (A, s)).1 → σ' 45 28 = nI (dDeed D (A, s)).2 → Q none σ') : gn_W (d + 5) 178 0 [.ref 44] [] σ Q := by
  have hle := hM.1.1
  have hhe := hM.1.2.1
  have eD : dDeed D (A, s) = _ := if_neg (fun q => q.elim hG hH)
  rw [eD] at hQ
  dsimp only at hQ
  have l1 := sNx_lt s
  have l2 := sNx_lt (sNx s)
  have hgl : sNx (sNx s) / 65536 % dG D < dG D := Nat.mod_lt _ (by omega)
  have hhl : sNx (sNx (sNx s)) / 65536 % dH D < dH D := Nat.mod_lt _ (by omega)
  have hdl : sNx s / 65536 % 4 < 4 := Nat.mod_lt _ (by omega)
  (repeat (first | refine gx_run 999 80 rfl ?_ | refine gx_goto rfl rfl ?_))
  refine gx_call rfl rfl rfl ?_
  refine mw_draw (n := 4) hs (by omega) (by omega) he ?_
  (repeat (first | refine gx_run 999 80 rfl ?_ | refine gx_goto rfl rfl ?_))
  rw [show gn_up σ 45 28 (nI (sNx s)) 44 8 = nI (dG D) from hM.2.2.2.1]
  refine gx_call rfl rfl rfl ?_
  refine mw_draw (s := sNx s) (n := dG D) (by omega) (by omega) (by omega) gu_s ?_
  (repeat (first | refine gx_run 999 80 rfl ?_ | refine gx_goto rfl rfl ?_))
  rw [show gn_up (gn_up σ 45 28 (nI (sNx s))) 45 28 (nI (sNx (sNx s))) 44 9 = nI (dH D) from hM.2.2.2.2.1]
  refine gx_call rfl rfl rfl ?_
  refine mw_draw (s := sNx (sNx s)) (n := dH D) (by omega) (by omega) (by omega) gu_s ?_
  generalize h1 : gn_up (gn_up (gn_up σ 45 28 (nI (sNx s))) 45 28 (nI (sNx (sNx s)))) 45 28 (nI (sNx (sNx (sNx s)))) = σ1
  have f1 : ∀ o, o ≠ 45 → σ1 o = σ o := fun o ho => by rw [← h1, gu_o ho, gu_o ho, gu_o ho]
  have f2 : ∀ k, k ≠ 28 → σ1 45 k = σ 45 k := fun k hk => by rw [← h1, gu_k (Or.inr hk), gu_k (Or.inr hk), gu_k (Or.inr hk)]
  have e28 : σ1 45 28 = nI (sNx (sNx (sNx s))) := by rw [← h1, gu_s]
  have hM1 : gM σ1 D := gM_fr hM (fun k _ => by rw [f1 44 (by omega)]) (fun o a b => f1 o (by omega))
  have hX1 : mR (σ1 45) A := hX.fr (fun k hk => f2 k (by omega))
  generalize sNx (sNx (sNx s)) / 65536 % dH D = h at hQ hhl ⊢
  generalize sNx (sNx s) / 65536 % dG D = g at hQ hgl ⊢
  generalize sNx s / 65536 % 4 = dd at hQ hdl ⊢
  have ha := hA.1 g hgl
  have hn9 := hA.2.2.1 h (by omega)
  have h18 := hA.2.2.2.1
  have tail : ¬ (dd ≤ 1 ∧ (0 < A (20 + h) ∧ (A 18).testBit g = true ∧ 0 < A g ∧ A (6 + g) = 0)) → gn_W (d + 5) 178 60 [.ref 44, .int (nI dd), .int (nI g), .int (nI h)] [] σ1 Q := by
    intro hno
    rw [if_neg hno] at hQ
    (repeat (first | refine gx_run 999 80 rfl ?_ | refine gx_goto rfl rfl ?_))
    by_cases hd2 : dd = 2
    · subst hd2
      first | refine gx_iff rfl (by dsimp only [gn_cmp] <;> decide) ?_ | refine gx_icf rfl (by dsimp only [gn_cmp] <;> decide) ?_
      (repeat (first | refine gx_run 999 80 rfl ?_ | refine gx_goto rfl rfl ?_))
      refine gx_ld 18 rfl (by omega) hX1.up rfl rfl rfl ?_
      (repeat (first | refine gx_run 999 80 rfl ?_ | refine gx_goto rfl rfl ?_))
      refine gw_calls rfl rfl rfl ?_
      refine mw_has (by omega) (by omega) ?_
      by_cases hu : (A 18).testBit g = true
      · rw [gb_t hu]
        rw [if_pos ⟨rfl, hu⟩] at hQ
        (repeat (first | refine gx_run 999 80 rfl ?_ | refine gx_goto rfl rfl ?_))
        first | refine gx_iff rfl (by dsimp only [gn_cmp] <;> decide) ?_ | refine gx_icf rfl (by dsimp only [gn_cmp] <;> decide) ?_
        (repeat (first | refine gx_run 999 80 rfl ?_ | refine gx_goto rfl rfl ?_))
        refine gx_call rfl rfl rfl ?_
        refine mw_goToBed hX1 hA hM.1 hgl ?_
        intro σ2 k1 k2 hX2
        (repeat (first | refine gx_run 999 80 rfl ?_ | refine gx_goto rfl rfl ?_))
        refine gw_vret rfl ?_
        exact hQ σ2 (fun o a1 => by rw [k1 o a1, f1 o a1]) (fun k hk => by rw [k2 k (by omega), f2 k (by omega)]) hX2 (by rw [k2 28 (by omega), e28])
      · rw [gb_f hu]
        rw [if_neg (fun q => hu q.2)] at hQ
        (repeat (first | refine gx_run 999 80 rfl ?_ | refine gx_goto rfl rfl ?_))
        first | refine gx_ift rfl (by dsimp only [gn_cmp] <;> decide) ?_ | refine gx_ict rfl (by dsimp only [gn_cmp] <;> decide) ?_
        (repeat (first | refine gx_run 999 80 rfl ?_ | refine gx_goto rfl rfl ?_))
        refine gw_vret rfl ?_
        exact hQ σ1 f1 (fun k hk => f2 k (by omega)) hX1 e28
    · rw [if_neg (fun q => hd2 q.1)] at hQ
      first | refine gx_ift rfl (show ¬ nI dd = 2 from fun q => absurd ((nI_eq (b := 2) (by omega) (by omega)).mp q) hd2) ?_ | refine gx_ict rfl (show ¬ nI dd = 2 from fun q => absurd ((nI_eq (b := 2) (by omega) (by omega)).mp q) hd2) ?_
      (repeat (first | refine gx_run 999 80 rfl ?_ | refine gx_goto rfl rfl ?_))
      refine gw_vret rfl ?_
      exact hQ σ1 f1 (fun k hk => f2 k (by omega)) hX1 e28
  (repeat (first | refine gx_run 999 80 rfl ?_ | refine gx_goto rfl rfl ?_))
  by_cases hd1 : dd ≤ 1
  · first | refine gx_iff rfl (nI_ge (a := dd) (b := 2) (by omega) (by omega)) ?_ | refine gx_icf rfl (nI_ge (a := dd) (b := 2) (by omega) (by omega)) ?_
    (repeat (first | refine gx_run 999 80 rfl ?_ | refine gx_goto rfl rfl ?_))
    refine gx_ld (20 + h) (nI_add 20 h) (by omega) (hX1.no (by omega)) rfl rfl rfl ?_
    by_cases h0 : 0 < A (20 + h)
    · first | refine gx_iff rfl (nI_nle h0 (by omega)) ?_ | refine gx_icf rfl (nI_nle h0 (by omega)) ?_
      (repeat (first | refine gx_run 999 80 rfl ?_ | refine gx_goto rfl rfl ?_))
      refine gx_call rfl rfl rfl ?_
      refine mw_isOpen hM1 hX1 hA hgl ?_
      by_cases ho : (A 18).testBit g = true ∧ 0 < A g ∧ A (6 + g) = 0
      · rw [gb_t ho]
        rw [if_pos ⟨hd1, h0, ho⟩] at hQ
        (repeat (first | refine gx_run 999 80 rfl ?_ | refine gx_goto rfl rfl ?_))
        first | refine gx_iff rfl (by dsimp only [gn_cmp] <;> decide) ?_ | refine gx_icf rfl (by dsimp only [gn_cmp] <;> decide) ?_
        (repeat (first | refine gx_run 999 80 rfl ?_ | refine gx_goto rfl rfl ?_))
        refine gx_call rfl rfl rfl ?_
        refine mw_noBy hM1 hX1 hA.2.2.2.2.2.1 hgl hhl ho.2.1 ha.1 h0 ?_
        intro σ2 k1 k2 hX2
        (repeat (first | refine gx_run 999 80 rfl ?_ | refine gx_goto rfl rfl ?_))
        refine gw_vret rfl ?_
        exact hQ σ2 (fun o a1 => by rw [k1 o a1, f1 o a1]) (fun k hk => by rw [k2 k (by omega), f2 k (by omega)]) hX2 (by rw [k2 28 (by omega), e28])
      · rw [gb_f ho]
        (repeat (first | refine gx_run 999 80 rfl ?_ | refine gx_goto rfl rfl ?_))
        first | refine gx_ift rfl (by dsimp only [gn_cmp] <;> decide) ?_ | refine gx_ict rfl (by dsimp only [gn_cmp] <;> decide) ?_
        exact tail (fun q => ho q.2.2)
    · first | refine gx_ift rfl (nI_le (b := 0) (by omega) (by omega)) ?_ | refine gx_ict rfl (nI_le (b := 0) (by omega) (by omega)) ?_
      exact tail (fun q => h0 q.2.1)
  · first | refine gx_ift rfl (nI_le (a := 2) (by omega) (by omega)) ?_ | refine gx_ict rfl (nI_le (a := 2) (by omega) (by omega)) ?_
    exact tail (fun q => hd1 q.1)
end
theorem w_deed {D : gD} {y : gA × Nat} (hW : gW D) (h : wA2 D y.1) : wA2 D (dDeed D y).1 := by
  have hle := hW.1
  unfold dDeed
  split
  · exact h
  · rename_i hn
    have hG : dG D ≠ 0 := fun q => hn (Or.inl q)
    have hH : dH D ≠ 0 := fun q => hn (Or.inr q)
    have hgl : sNx (sNx y.2) / 65536 % dG D < dG D := Nat.mod_lt _ (by omega)
    have hhl : sNx (sNx (sNx y.2)) / 65536 % dH D < dH D := Nat.mod_lt _ (by omega)
    dsimp only
    split
    · rename_i h1
      exact w_no hW h hgl hhl h1.2.2.2.1
    · split
      · exact w_bed hW h (by omega)
      · exact h
theorem aNo_hr {D : gD} {A : gA} {h g : Nat} (hh : h < 4) (hg : g < 6) : aNo D A h g 26 = A 26 := by
  unfold aNo
  rw [aup_ne (by omega), aup_ne (by omega), aup_ne (by omega), aup_ne (by omega)]
theorem aBed_hr {A : gA} {g : Nat} : aBed A g 26 = A 26 := by
  unfold aBed
  split
  · rw [aup_ne (by omega), aup_ne (by omega), aup_ne (by omega)]
  · rw [aup_ne (by omega)]
theorem deed_hr {D : gD} {y : gA × Nat} (hW : gW D) : (dDeed D y).1 26 = y.1 26 := by
  have hle := hW.1
  have hhe := hW.2.1
  unfold dDeed
  split
  · rfl
  · rename_i hn
    have hG : dG D ≠ 0 := fun q => hn (Or.inl q)
    have hH : dH D ≠ 0 := fun q => hn (Or.inr q)
    have hgl : sNx (sNx y.2) / 65536 % dG D < dG D := Nat.mod_lt _ (by omega)
    have hhl : sNx (sNx (sNx y.2)) / 65536 % dH D < dH D := Nat.mod_lt _ (by omega)
    dsimp only
    split
    · exact aNo_hr (by omega) (by omega)
    · split
      · exact aBed_hr
      · rfl
theorem deed_sd {D : gD} {y : gA × Nat} (h : y.2 < 2 ^ 31) : (dDeed D y).2 < 2 ^ 31 := by
  unfold dDeed
  split
  · exact h
  · exact sNx_lt _
theorem aHour_hr {D : gD} {A : gA} : aHour D A 26 = A 26 + 1 := aup_eq
