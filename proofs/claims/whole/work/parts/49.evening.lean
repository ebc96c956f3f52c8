/-! evening -/
def aZero : gA := fun j => if 6 ≤ j ∧ j < 18 then 1 else 0
section
variable {d n : Nat} {L : Nat → Nat} {σ : gn_Mem} {Q : Option Value → gn_Mem → Prop} {D : gD} {A : gA}
theorem xw_begin (hT : gT 36 σ D) (hX : xR (σ 4) A) (hQ : ∀ σ' : gn_Mem, (∀ o, o ≠ 4 → σ' o = σ o) → xR (σ' 4) (aSeat D aZero) → Q none σ') : gn_W (d + 3) 11 0 [.ref 3, .ref 36] [] σ Q := by
  (repeat (first | refine gx_run 999 80 rfl ?_ | refine gx_goto rfl rfl ?_))
  refine gx_st 24 rfl (by omega) rfl rfl rfl ?_
  (repeat (first | refine gx_run 999 80 rfl ?_ | refine gx_goto rfl rfl ?_))
  refine gx_st 25 rfl (by omega) rfl rfl rfl ?_
  (repeat (first | refine gx_run 999 80 rfl ?_ | refine gx_goto rfl rfl ?_))
  refine gx_st 26 rfl (by omega) rfl rfl rfl ?_
  (repeat (first | refine gx_run 999 80 rfl ?_ | refine gx_goto rfl rfl ?_))
  refine gx_st 27 rfl (by omega) rfl rfl rfl ?_
  (repeat (first | refine gx_run 999 80 rfl ?_ | refine gx_goto rfl rfl ?_))
  refine gx_call rfl rfl rfl ?_
  refine xw_seatAll (Or.inr rfl) (D := D) (A := aup (aup (aup (aup A 24 0) 25 0) 26 0) 27 0) (gT_fr hT (fun o a b => by rw [gu_o (by omega), gu_o (by omega), gu_o (by omega), gu_o (by omega)])) ?_ ?_
  · rw [gn_up_eq, gn_up_eq, gn_up_eq, gn_up_eq]
    exact (((hX.upd (j := 24) (n := 0) (by omega) rfl).upd (j := 25) (n := 0) (by omega) rfl).upd (j := 26) (n := 0) (by omega) rfl).upd (j := 27) (n := 0) (by omega) rfl
  · intro σ1 f1 hX1
    (repeat (first | refine gx_run 999 80 rfl ?_ | refine gx_goto rfl rfl ?_))
    refine gw_vret rfl ?_
    refine hQ σ1 (fun o ho => by rw [f1 o ho, gu_o ho, gu_o ho, gu_o ho, gu_o ho]) (hX1.con (fun k hk => ?_))
    unfold aSeat aZero aup
    repeat' split
    all_goals first | rfl | omega
theorem mw_begin (hB : mBx σ D (dG D)) (hW : gW D) (hQ : ∀ σ' : gn_Mem, (∀ o, ¬ (44 ≤ o ∧ o ≤ 50) → σ' o = σ o) → (∀ k, ¬ (6 ≤ k ∧ k ≤ 11) → k ≠ 17 → k ≠ 20 → σ' 44 k = σ 44 k) → gM σ' D → mR (σ' 45) (aSeat D aZero) → (∀ k, 28 ≤ k → σ' 45 k = σ 45 k) → σ' 44 10 = 0 → σ' 44 11 = 0 → σ' 44 17 = 0 → σ' 44 20 = 0 → Q none σ') : gn_W (d + 1) 145 0 [.ref 44] [] σ Q := by
  obtain ⟨b1, b2, b3, b4, b5, b6, b7⟩ := id hB
  have hle := hW.1
  have hhe := hW.2.1
  have hE := hW.2.2.1
  (repeat (first | refine gx_run 999 80 rfl ?_ | refine gx_goto rfl rfl ?_))
  rw [b1]
  refine gw_putb rfl rfl rfl (by rcases dE01 hW with h | h <;> rw [h] <;> simp [nI] <;> decide) ?_
  (refine gw_run 34 80 rfl ?_)
  rw [show gn_up σ 44 6 (nI (dE D)) 44 25 = nI (dF D) by rw [gu_k (Or.inr (by decide))]; exact b2]
  rw [show gn_up (gn_up σ 44 6 (nI (dE D))) 44 7 (nI (dF D)) 44 26 = nI (dG D) by rw [gu_k (Or.inr (by decide)), gu_k (Or.inr (by decide))]; exact b3]
  rw [show gn_up (gn_up (gn_up σ 44 6 (nI (dE D))) 44 7 (nI (dF D))) 44 8 (nI (dG D)) 44 27 = nI (dH D) by rw [gu_k (Or.inr (by decide)), gu_k (Or.inr (by decide)), gu_k (Or.inr (by decide))]; exact b4]
  generalize hσ : gn_up (gn_up (gn_up (gn_up σ 44 6 (nI (dE D))) 44 7 (nI (dF D))) 44 8 (nI (dG D))) 44 9 (nI (dH D)) = σ1
  have f1 : ∀ o, o ≠ 44 → σ1 o = σ o := fun o ho => by rw [← hσ, gu_o ho, gu_o ho, gu_o ho, gu_o ho]
  have k1 : ∀ k, ¬ (6 ≤ k ∧ k ≤ 9) → σ1 44 k = σ 44 k := fun k hk => by rw [← hσ, gu_k (by omega), gu_k (by omega), gu_k (by omega), gu_k (by omega)]
  have c6 : σ1 44 6 = nI (dE D) := by rw [← hσ, gu_k (by omega), gu_k (by omega), gu_k (by omega), gu_s]
  have c7 : σ1 44 7 = nI (dF D) := by rw [← hσ, gu_k (by omega), gu_k (by omega), gu_s]
  have c8 : σ1 44 8 = nI (dG D) := by rw [← hσ, gu_k (by omega), gu_s]
  have c9 : σ1 44 9 = nI (dH D) := by rw [← hσ, gu_s]
  clear hσ
  refine gw_forP (dG D) (fun i (σ' : gn_Mem) => (∀ o, o ≠ 46 → o ≠ 48 → σ' o = σ1 o) ∧ ∀ g, g < i → σ' 46 g = nI (dP D g) ∧ σ' 48 g = nI (dC D g)) (fun i _ => [.ref 44, .int (nI i)]) (fun σ' => σ') σ1 ⟨fun _ _ _ => rfl, fun g hg => by omega⟩ ?_ ?_
  · intro i σ2 hi ⟨p1, p2⟩ hk
    have b5i := b5 i hi
    (repeat (first | refine gx_run 999 80 rfl ?_ | refine gx_goto rfl rfl ?_))
    rw [show σ2 44 8 = nI (dG D) by rw [p1 44 (by omega) (by omega)]; exact c8]
    first | refine gx_iff rfl (nI_ge hi (by omega)) ?_ | refine gx_icf rfl (nI_ge hi (by omega)) ?_
    (repeat (first | refine gx_run 999 80 rfl ?_ | refine gx_goto rfl rfl ?_))
    refine gx_ld i rfl (by omega) (show σ2 56 i = nI (dP D i) by rw [p1 56 (by omega) (by omega), f1 56 (by omega)]; exact b5i.1) rfl rfl rfl ?_
    refine gx_st i rfl (by omega) rfl rfl rfl ?_
    (repeat (first | refine gx_run 999 80 rfl ?_ | refine gx_goto rfl rfl ?_))
    refine gx_ld i rfl (by omega) (show gn_up σ2 46 i (nI (dP D i)) 58 i = nI (dC D i) by rw [gu_k (Or.inl (by decide)), p1 58 (by omega) (by omega), f1 58 (by omega)]; exact b5i.2) rfl rfl rfl ?_
    refine gx_st i rfl (by omega) rfl rfl rfl ?_
    (repeat (first | refine gx_run 999 80 rfl ?_ | refine gx_goto rfl rfl ?_))
    refine gw_goto rfl ?_
    rw [nI_1]
    refine hk _ ⟨fun o h1 h2 => by rw [gu_o h2, gu_o h1, p1 o h1 h2], fun g hg => ?_⟩
    by_cases e : g = i
    · rw [e, gu_k (by omega), gu_s, gu_s]; exact ⟨rfl, rfl⟩
    · rw [gu_k (by omega), gu_k (Or.inr e), gu_k (Or.inr e), gu_k (by omega)]; exact p2 g (by omega)
  intro σ2 ⟨p1, p2⟩
  (repeat (first | refine gx_run 999 80 rfl ?_ | refine gx_goto rfl rfl ?_))
  rw [show σ2 44 8 = nI (dG D) by rw [p1 44 (by omega) (by omega)]; exact c8]
  first | refine gx_ift rfl (nI_le (Nat.le_refl _) (by omega)) ?_ | refine gx_ict rfl (nI_le (Nat.le_refl _) (by omega)) ?_
  (refine gw_run 74 80 rfl ?_)
  refine gw_forP (6 * dG D) (fun i (σ' : gn_Mem) => (∀ o, o ≠ 47 → σ' o = σ2 o) ∧ ∀ j, j < i → σ' 47 j = σ 57 j) (fun i _ => [.ref 44, .int (nI i)]) (fun σ' => σ') σ2 ⟨fun _ _ => rfl, fun g hg => by omega⟩ ?_ ?_
  · intro i σ3 hi ⟨q1, q2⟩ hk
    (repeat (first | refine gx_run 999 80 rfl ?_ | refine gx_goto rfl rfl ?_))
    rw [show σ3 44 8 = nI (dG D) by rw [q1 44 (by omega), p1 44 (by omega) (by omega)]; exact c8, show (6 : Int32) * nI (dG D) = nI (6 * dG D) from pk_mul 6 _]
    first | refine gx_iff rfl (nI_ge hi (by omega)) ?_ | refine gx_icf rfl (nI_ge hi (by omega)) ?_
    (repeat (first | refine gx_run 999 80 rfl ?_ | refine gx_goto rfl rfl ?_))
    refine gx_ld i rfl (by omega) (show σ3 57 i = σ 57 i by rw [q1 57 (by omega), p1 57 (by omega) (by omega), f1 57 (by omega)]) rfl rfl rfl ?_
    refine gx_st i rfl (by omega) rfl rfl rfl ?_
    (repeat (first | refine gx_run 999 80 rfl ?_ | refine gx_goto rfl rfl ?_))
    refine gw_goto rfl ?_
    rw [nI_1]
    refine hk _ ⟨fun o h1 => by rw [gu_o h1, q1 o h1], fun g hg => ?_⟩
    by_cases e : g = i
    · rw [e, gu_s]
    · rw [gu_k (Or.inr e)]; exact q2 g (by omega)
  intro σ3 ⟨q1, q2⟩
  (repeat (first | refine gx_run 999 80 rfl ?_ | refine gx_goto rfl rfl ?_))
  rw [show σ3 44 8 = nI (dG D) by rw [q1 44 (by omega), p1 44 (by omega) (by omega)]; exact c8, show (6 : Int32) * nI (dG D) = nI (6 * dG D) from pk_mul 6 _]
  first | refine gx_ift rfl (nI_le (Nat.le_refl _) (by omega)) ?_ | refine gx_ict rfl (nI_le (Nat.le_refl _) (by omega)) ?_
  (refine gw_run 105 80 rfl ?_)
  refine gw_forP (dH D) (fun i (σ' : gn_Mem) => (∀ o, o ≠ 49 → o ≠ 50 → σ' o = σ3 o) ∧ ∀ g, g < i → σ' 49 g = nI (dK D g) ∧ σ' 50 g = nI (dN D g)) (fun i _ => [.ref 44, .int (nI i)]) (fun σ' => σ') σ3 ⟨fun _ _ _ => rfl, fun g hg => by omega⟩ ?_ ?_
  · intro i σ4 hi ⟨r1, r2⟩ hk
    have b7i := b7 i hi
    (repeat (first | refine gx_run 999 80 rfl ?_ | refine gx_goto rfl rfl ?_))
    rw [show σ4 44 9 = nI (dH D) by rw [r1 44 (by omega) (by omega), q1 44 (by omega), p1 44 (by omega) (by omega)]; exact c9]
    first | refine gx_iff rfl (nI_ge hi (by omega)) ?_ | refine gx_icf rfl (nI_ge hi (by omega)) ?_
    (repeat (first | refine gx_run 999 80 rfl ?_ | refine gx_goto rfl rfl ?_))
    refine gx_ld i rfl (by omega) (show σ4 59 i = nI (dK D i) by rw [r1 59 (by omega) (by omega), q1 59 (by omega), p1 59 (by omega) (by omega), f1 59 (by omega)]; exact b7i.1) rfl rfl rfl ?_
    refine gx_st i rfl (by omega) rfl rfl rfl ?_
    (repeat (first | refine gx_run 999 80 rfl ?_ | refine gx_goto rfl rfl ?_))
    refine gx_ld i rfl (by omega) (show gn_up σ4 49 i (nI (dK D i)) 60 i = nI (dN D i) by rw [gu_k (Or.inl (by decide)), r1 60 (by omega) (by omega), q1 60 (by omega), p1 60 (by omega) (by omega), f1 60 (by omega)]; exact b7i.2) rfl rfl rfl ?_
    refine gx_st i rfl (by omega) rfl rfl rfl ?_
    (repeat (first | refine gx_run 999 80 rfl ?_ | refine gx_goto rfl rfl ?_))
    refine gw_goto rfl ?_
    rw [nI_1]
    refine hk _ ⟨fun o h1 h2 => by rw [gu_o h2, gu_o h1, r1 o h1 h2], fun g hg => ?_⟩
    by_cases e : g = i
    · rw [e, gu_k (by omega), gu_s, gu_s]; exact ⟨rfl, rfl⟩
    · rw [gu_k (by omega), gu_k (Or.inr e), gu_k (Or.inr e), gu_k (by omega)]; exact r2 g (by omega)
  intro σ4 ⟨r1, r2⟩
  have o4 : ∀ o, ¬ (44 ≤ o ∧ o ≤ 50) → σ4 o = σ o := fun o ho => by rw [r1 o (by omega) (by omega), q1 o (by omega), p1 o (by omega) (by omega), f1 o (by omega)]
  have o44 : σ4 44 = σ1 44 := by rw [r1 44 (by omega) (by omega), q1 44 (by omega), p1 44 (by omega) (by omega)]
  have o45 : σ4 45 = σ 45 := by rw [r1 45 (by omega) (by omega), q1 45 (by omega), p1 45 (by omega) (by omega), f1 45 (by omega)]
  have hM4 : gM σ4 D := by
    refine ⟨hW, by rw [o44]; exact c6, by rw [o44]; exact c7, by rw [o44]; exact c8, by rw [o44]; exact c9, fun g hg => ?_, fun g k hg hk => ?_, r2⟩
    · rw [r1 46 (by omega) (by omega), r1 48 (by omega) (by omega), q1 46 (by omega), q1 48 (by omega)]; exact p2 g hg
    · have h6 := (hW.2.2.2.2.1 g hg).2.2
      rw [r1 47 (by omega) (by omega), q2 _ (by omega)]; exact b6 g k hg hk
  (repeat (first | refine gx_run 999 80 rfl ?_ | refine gx_goto rfl rfl ?_))
  rw [show σ4 44 9 = nI (dH D) by rw [o44]; exact c9]
  first | refine gx_ift rfl (nI_le (Nat.le_refl _) (by omega)) ?_ | refine gx_ict rfl (nI_le (Nat.le_refl _) (by omega)) ?_
  (repeat (first | refine gx_run 999 80 rfl ?_ | refine gx_goto rfl rfl ?_))
  refine gx_ld 28 rfl (by omega) (show σ4 45 28 = σ 45 28 by rw [o45]) rfl rfl rfl ?_
  (refine gw_run 153 80 rfl ?_)
  refine gw_forP 29 (fun i (σ' : gn_Mem) => (∀ o, o ≠ 45 → σ' o = σ4 o) ∧ (∀ j, j < i → σ' 45 j = 0) ∧ (∀ j, 29 ≤ j → σ' 45 j = σ 45 j)) (fun i _ => [.ref 44, .int (σ 45 28), .int (nI i)]) (fun σ' => σ') σ4 ⟨fun _ _ => rfl, fun g hg => by omega, fun j hj => by rw [o45]⟩ ?_ ?_
  · intro i σ5 hi ⟨s1, s2, s3⟩ hk
    (repeat (first | refine gx_run 999 80 rfl ?_ | refine gx_goto rfl rfl ?_))
    first | refine gx_iff rfl (nI_ge (b := 29) hi (by omega)) ?_ | refine gx_icf rfl (nI_ge (b := 29) hi (by omega)) ?_
    (repeat (first | refine gx_run 999 80 rfl ?_ | refine gx_goto rfl rfl ?_))
    refine gx_st i rfl (by omega) rfl rfl rfl ?_
    (repeat (first | refine gx_run 999 80 rfl ?_ | refine gx_goto rfl rfl ?_))
    refine gw_goto rfl ?_
    rw [nI_1]
    refine hk _ ⟨fun o h1 => by rw [gu_o h1, s1 o h1], fun g hg => ?_, fun j hj => by rw [gu_k (by omega)]; exact s3 j hj⟩
    by_cases e : g = i
    · rw [e, gu_s]
    · rw [gu_k (Or.inr e)]; exact s2 g (by omega)
  intro σ5 ⟨s1, s2, s3⟩
  (repeat (first | refine gx_run 999 80 rfl ?_ | refine gx_goto rfl rfl ?_))
  first | refine gx_ift rfl (by dsimp only [gn_cmp] <;> decide) ?_ | refine gx_ict rfl (by dsimp only [gn_cmp] <;> decide) ?_
  (repeat (first | refine gx_run 999 80 rfl ?_ | refine gx_goto rfl rfl ?_))
  refine gx_st 28 rfl (by omega) rfl rfl rfl ?_
  generalize hσ6 : gn_up σ5 45 28 (σ 45 28) = σ6
  have o6 : ∀ o, o ≠ 45 → σ6 o = σ4 o := fun o ho => by rw [← hσ6, gu_o ho, s1 o ho]
  have hM6 : gM σ6 D := gM_fr hM4 (fun k _ => by rw [o6 44 (by omega)]) (fun o a b => o6 o (by omega))
  have hX6 : mR (σ6 45) aZero := fun k hk => by
    rw [← hσ6, gu_k (by omega), s2 k (by omega)]
    unfold vv aZero
    by_cases e : 6 ≤ k ∧ k < 18
    · rw [if_pos e, if_pos e]; rfl
    · rw [if_neg e, if_neg e]; rfl
  have hi6 : ∀ k, 28 ≤ k → σ6 45 k = σ 45 k := fun k hk => by
    rw [← hσ6]
    by_cases e : k = 28
    · rw [e, gu_s]
    · rw [gu_k (Or.inr e)]; exact s3 k (by omega)
  (repeat (first | refine gx_run 999 80 rfl ?_ | refine gx_goto rfl rfl ?_))
  refine gx_call rfl rfl rfl ?_
  refine mw_allAnew hM6 hX6 ?_
  intro σ7 f7 k7 hX7
  (repeat (first | refine gx_run 999 80 rfl ?_ | refine gx_goto rfl rfl ?_))
  refine gw_vret rfl ?_
  generalize hσ8 : gn_up (gn_up (gn_up (gn_up σ7 44 10 0) 44 11 0) 44 17 0) 44 20 0 = σ8
  have o8 : ∀ o, o ≠ 44 → σ8 o = σ7 o := fun o ho => by rw [← hσ8, gu_o ho, gu_o ho, gu_o ho, gu_o ho]
  have k8 : ∀ k, k ≠ 10 → k ≠ 11 → k ≠ 17 → k ≠ 20 → σ8 44 k = σ1 44 k := fun k h1 h2 h3 h4 => by rw [← hσ8, gu_k (Or.inr h4), gu_k (Or.inr h3), gu_k (Or.inr h2), gu_k (Or.inr h1), f7 44 (by omega), o6 44 (by omega), o44]
  refine hQ σ8 (fun o ho => by rw [o8 o (by omega), f7 o (by omega), o6 o (by omega), o4 o ho]) (fun k h1 h2 h3 => by rw [k8 k (by omega) (by omega) h2 h3, k1 k (by omega)]) (gM_fr hM6 (fun k hk => by rw [k8 k (by omega) (by omega) (by omega) (by omega), o6 44 (by omega), o44]) (fun o a b => by rw [o8 o (by omega), f7 o (by omega)])) (by rw [o8 45 (by omega)]; exact hX7) (fun k hk => by rw [o8 45 (by omega), k7 k hk, hi6 k hk]) ?_ ?_ ?_ ?_
  · rw [← hσ8, gu_k (by omega), gu_k (by omega), gu_k (by omega), gu_s]
  · rw [← hσ8, gu_k (by omega), gu_k (by omega), gu_s]
  · rw [← hσ8, gu_k (by omega), gu_s]
  · rw [← hσ8, gu_s]
end
/-- the two tables have changed their places -/
def sw (o : Nat) : Nat := if 28 ≤ o ∧ o ≤ 35 then o + 8 else if 36 ≤ o ∧ o ≤ 43 then o - 8 else o
def swp (σ : gn_Mem) : gn_Mem := fun o k => if o = 0 ∧ (k = 11 ∨ k = 12) then (if σ 0 k = 0 then 1 else 0) else σ (sw o) k
theorem swp_o {σ : gn_Mem} {o : Nat} (h : o ≠ 0) (h2 : ¬ (28 ≤ o ∧ o ≤ 43)) : swp σ o = σ o := by
  funext k
  unfold swp sw
  rw [if_neg (fun q => h q.1), if_neg (by omega), if_neg (by omega)]
theorem swp_t {σ : gn_Mem} {o : Nat} (h : 28 ≤ o ∧ o ≤ 35) : swp σ o = σ (o + 8) := by
  funext k
  unfold swp sw
  rw [if_neg (fun q => by omega), if_pos h]
theorem dyn28 {x : Int32} (h : gn_dyn x = 28) : x = 0 := by
  unfold gn_dyn at h
  split at h
  · assumption
  · cases h
theorem dyn36 {x : Int32} (h : gn_dyn x = 36) : ¬ x = 0 := by
  unfold gn_dyn at h
  split at h
  · cases h
  · assumption
def gPairE (x m : Nat) (σ : gn_Mem) : Prop := gn_W 20 x 0 [.ref 0] [] σ (fun r1 σ1 => gn_W 20 m 0 [.ref 44] [] σ1 (fun r2 σ2 => (∃ v : Int32, r1 = some (.int v) ∧ r2 = some (.int v)) ∧ (Inv σ2 ∨ Inv (swp σ2))))
/-- the reference's evening, up to its end -/
theorem mw_evening {d n : Nat} {L : Nat → Nat} {σ : gn_Mem} {Q : Option Value → gn_Mem → Prop} (hT : tM σ n L) (hQ1 : ∀ (σ' : gn_Mem) (D' : gD), rdS L n (n + 1) 0 (fun _ _ _ => 0) = .inr D' → fC (gn_up (gn_up σ 44 13 0) 44 14 (-1)) σ' → mBx σ' D' (dG D') → gW D' → gn_W (d + 5) 144 91 [.ref 44] [] σ' Q) (hQ2 : ∀ (σ' : gn_Mem) (e : Nat × Nat), rdS L n (n + 1) 0 (fun _ _ _ => 0) = .inl e → fC (gn_up (gn_up σ 44 13 0) 44 14 (nI e.2)) σ' → Q (some (.int (-10 - nI e.1))) σ') : gn_W (d + 5) 144 0 [.ref 44] [] σ Q := by
  (repeat (first | refine gx_run 999 80 rfl ?_ | refine gx_goto rfl rfl ?_))
  refine gw_putb rfl rfl rfl (Or.inl rfl) ?_
  (refine gw_run 30 80 rfl ?_)
  generalize hσ : gn_up (gn_up (gn_up (gn_up (gn_up (gn_up σ 44 21 0) 44 22 0) 44 24 0) 44 25 0) 44 26 0) 44 27 0 = σ1
  have fc : fC σ σ1 := by rw [← hσ]; exact (((((fC.up (by decide)).tr (fC.up (by decide))).tr (fC.up (by decide))).tr (fC.up (by decide))).tr (fC.up (by decide))).tr (fC.up (by decide))
  have c21 : σ1 44 21 = nI 0 := by rw [← hσ, gu_k (by omega), gu_k (by omega), gu_k (by omega), gu_k (by omega), gu_k (by omega), gu_s]; rfl
  have c22 : σ1 44 22 = 0 := by rw [← hσ, gu_k (by omega), gu_k (by omega), gu_k (by omega), gu_k (by omega), gu_s]
  have c24 : σ1 44 24 = 0 := by rw [← hσ, gu_k (by omega), gu_k (by omega), gu_k (by omega), gu_s]
  have c25 : σ1 44 25 = 0 := by rw [← hσ, gu_k (by omega), gu_k (by omega), gu_s]
  have c26 : σ1 44 26 = 0 := by rw [← hσ, gu_k (by omega), gu_s]
  have c27 : σ1 44 27 = 0 := by rw [← hσ, gu_s]
  clear hσ
  refine mw_readL (σ0 := σ) (n := n) (L := L) (R := rdS L n (n + 1) 0 (fun _ _ _ => 0)) ?_ ?_ (n + 1) 0 σ1 (fun _ _ _ => 0) (by omega) ⟨hT.C fc, c22, fun _ => ⟨c21, by omega⟩⟩ ⟨c24, c25, c26, c27, fun g (hg : g < 0) => by omega, fun g k (hg : g < 0) => by omega, fun g (hg : g < 0) => by omega⟩ ⟨by show 0 ≤ 6; omega, by show 0 ≤ 4; omega, by show 0 ≤ 1; omega, by show 0 < 256; omega, fun g (hg : g < 0) => by omega, fun g k (hg : g < 0) => by omega, fun g (hg : g < 0) => by omega⟩ rfl fc
  · intro σ2 D' a f2 hS2 hB2 hW hR
    have hz : fm none σ2 := hS2.2.1
    have hSa : mS (gn_up σ2 44 13 0) 0 L 0 none := ⟨⟨by omega, gu_s, fun i hi => by omega⟩, hz.fr (gu_k (by omega)) (gu_k (by omega)), fun _ => ⟨by sorry, by omega⟩⟩
    sorry
  · intro σ2 e f2 hS2 hR
    sorry
