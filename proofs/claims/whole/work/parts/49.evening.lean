/-! evening -/
def aZero : gA := fun j => if 6 ≤ j ∧ j < 18 then 1 else 0
section
variable {d n : Nat} {L : Nat → Nat} {σ : gn_Mem} {Q : Option Value → gn_Mem → Prop} {D : gD} {A : gA}
theorem xw_begin (hT : gT 36 σ D) (hX : xR (σ 4) A) (hQ : ∀ σ' : gn_Mem, (∀ o, o ≠ 4 → σ' o = σ o) → xR (σ' 4) (aSeat D aZero) → Q none σ') : gn_W (d + 3) 11 0 [.ref 3, .ref 36] [] σ Q := by
  (repeat (first | refine gx_run 999 80 rfl ?_ | refine gx_goto rfl rfl ?_))
  refine gx_st 24 rfl (by omega) rfl rfl rfl ?_
  (repeat (first | refine gx_run 999 80 rfl ?_ | refine gx_goto rfl rfl ?_))
  refine gx_st 25 rfl (by omega) rfl rfl rfl ?_
  (repeat (first | refine gx_run 999 80 rfl ?_ | refine gx_goto rfl rfl ?_))
  refine gx_st 26 rfl (by omega) rfl rfl rfl ?_
  (repeat (first | refine gx_run 999 80 rfl ?_ | refine gx_goto rfl rfl ?_))
  refine gx_st 27 rfl (by omega) rfl rfl rfl ?_
  generalize hσ : gn_up (gn_up (gn_up (gn_up σ 4 24 0) 4 25 0) 4 26 0) 4 27 0 = σ0
  have f0 : ∀ o, o ≠ 4 → σ0 o = σ o := fun o ho => by rw [← hσ, gu_o ho, gu_o ho, gu_o ho, gu_o ho]
  (repeat (first | refine gx_run 999 80 rfl ?_ | refine gx_goto rfl rfl ?_))
  refine gx_call rfl rfl rfl ?_
  refine xw_seatAll (Or.inr rfl) (D := D) (A := aup (aup (aup (aup A 24 0) 25 0) 26 0) 27 0) (gT_fr hT (fun o a b => f0 o (by omega))) ?_ ?_
  · rw [← hσ, gn_up_eq, gn_up_eq, gn_up_eq, gn_up_eq]
    exact (((hX.upd (j := 24) (n := 0) (by omega) rfl).upd (j := 25) (n := 0) (by omega) rfl).upd (j := 26) (n := 0) (by omega) rfl).upd (j := 27) (n := 0) (by omega) rfl
  · intro σ1 f1 hX1
    (repeat (first | refine gx_run 999 80 rfl ?_ | refine gx_goto rfl rfl ?_))
    refine gw_vret rfl ?_
    refine hQ σ1 (fun o ho => by rw [f1 o ho, f0 o ho]) (hX1.con (fun k hk => ?_))
    unfold aSeat aZero aup
    repeat' split
    all_goals first | rfl | omega
theorem mw_begin (hB : mBx σ D (dG D)) (hW : gW D) (hQ : ∀ σ' : gn_Mem, (∀ o, ¬ (44 ≤ o ∧ o ≤ 50) → σ' o = σ o) → (∀ k, ¬ (6 ≤ k ∧ k ≤ 11) → k ≠ 17 → k ≠ 20 → σ' 44 k = σ 44 k) → gM σ' D → mR (σ' 45) (aSeat D aZero) → (∀ k, 28 ≤ k → σ' 45 k = σ 45 k) → σ' 44 10 = 0 → σ' 44 11 = 0 → σ' 44 17 = 0 → σ' 44 20 = 0 → Q none σ') : gn_W (d + 1) 145 0 [.ref 44] [] σ Q := by
  obtain ⟨b1, b2, b3, b4, b5, b6, b7⟩ := id hB
  have hle := hW.1
  have hhe := hW.2.1
  have hE := hW.2.2.1
  (repeat (first | refine gx_run 999 80 rfl ?_ | refine gx_goto rfl rfl ?_))
  rw [b1]
  refine gw_putb rfl rfl rfl (by rcases dE01 hW with h | h <;> rw [h] <;> simp [nI] <;> decide) ?_
  (refine gw_run 34 80 rfl ?_)
  rw [show gn_up σ 44 6 (nI (dE D)) 44 25 = nI (dF D) by rw [gu_k (Or.inr (by decide))]; exact b2]
  rw [show gn_up (gn_up σ 44 6 (nI (dE D))) 44 7 (nI (dF D)) 44 26 = nI (dG D) by rw [gu_k (Or.inr (by decide)), gu_k (Or.inr (by decide))]; exact b3]
  rw [show gn_up (gn_up (gn_up σ 44 6 (nI (dE D))) 44 7 (nI (dF D))) 44 8 (nI (dG D)) 44 27 = nI (dH D) by rw [gu_k (Or.inr (by decide)), gu_k (Or.inr (by decide)), gu_k (Or.inr (by decide))]; exact b4]
  generalize hσ : gn_up (gn_up (gn_up (gn_up σ 44 6 (nI (dE D))) 44 7 (nI (dF D))) 44 8 (nI (dG D))) 44 9 (nI (dH D)) = σ1
  have f1 : ∀ o, o ≠ 44 → σ1 o = σ o := fun o ho => by rw [← hσ, gu_o ho, gu_o ho, gu_o ho, gu_o ho]
  have k1 : ∀ k, ¬ (6 ≤ k ∧ k ≤ 9) → σ1 44 k = σ 44 k := fun k hk => by rw [← hσ, gu_k (by omega), gu_k (by omega), gu_k (by omega), gu_k (by omega)]
  have c6 : σ1 44 6 = nI (dE D) := by rw [← hσ, gu_k (by omega), gu_k (by omega), gu_k (by omega), gu_s]
  have c7 : σ1 44 7 = nI (dF D) := by rw [← hσ, gu_k (by omega), gu_k (by omega), gu_s]
  have c8 : σ1 44 8 = nI (dG D) := by rw [← hσ, gu_k (by omega), gu_s]
  have c9 : σ1 44 9 = nI (dH D) := by rw [← hσ, gu_s]
  clear hσ
  refine gw_forP (dG D) (fun i (σ' : gn_Mem) => (∀ o, o ≠ 46 → o ≠ 48 → σ' o = σ1 o) ∧ ∀ g, g < i → σ' 46 g = nI (dP D g) ∧ σ' 48 g = nI (dC D g)) (fun i _ => [.ref 44, .int (nI i)]) (fun σ' => σ') σ1 ⟨fun _ _ _ => rfl, fun g hg => by omega⟩ ?_ ?_
  · intro i σ2 hi ⟨p1, p2⟩ hk
    have b5i := b5 i hi
    (repeat (first | refine gx_run 999 80 rfl ?_ | refine gx_goto rfl rfl ?_))
    rw [show σ2 44 8 = nI (dG D) by rw [p1 44 (by omega) (by omega)]; exact c8]
    first | refine gx_iff rfl (nI_ge hi (by omega)) ?_ | refine gx_icf rfl (nI_ge hi (by omega)) ?_
    (repeat (first | refine gx_run 999 80 rfl ?_ | refine gx_goto rfl rfl ?_))
    refine gx_ld i rfl (by omega) (show σ2 56 i = nI (dP D i) by rw [p1 56 (by omega) (by omega), f1 56 (by omega)]; exact b5i.1) rfl rfl rfl ?_
    refine gx_st i rfl (by omega) rfl rfl rfl ?_
    (repeat (first | refine gx_run 999 80 rfl ?_ | refine gx_goto rfl rfl ?_))
    refine gx_ld i rfl (by omega) (show gn_up σ2 46 i (nI (dP D i)) 58 i = nI (dC D i) by rw [gu_k (Or.inl (by decide)), p1 58 (by omega) (by omega), f1 58 (by omega)]; exact b5i.2) rfl rfl rfl ?_
    refine gx_st i rfl (by omega) rfl rfl rfl ?_
    (repeat (first | refine gx_run 999 80 rfl ?_ | refine gx_goto rfl rfl ?_))
    refine gw_goto rfl ?_
    rw [nI_1]
    refine hk _ ⟨fun o h1 h2 => by rw [gu_o h2, gu_o h1, p1 o h1 h2], fun g hg => ?_⟩
    by_cases e : g = i
    · exact ⟨by rw [e, gu_k (Or.inl (by decide)), gu_s], by rw [e, gu_s]⟩
    · rw [gu_k (by omega), gu_k (Or.inr e), gu_k (Or.inr e), gu_k (by omega)]; exact p2 g (by omega)
  intro σ2 ⟨p1, p2⟩
  (repeat (first | refine gx_run 999 80 rfl ?_ | refine gx_goto rfl rfl ?_))
  rw [show σ2 44 8 = nI (dG D) by rw [p1 44 (by omega) (by omega)]; exact c8]
  first | refine gx_ift rfl (nI_le (Nat.le_refl _) (by omega)) ?_ | refine gx_ict rfl (nI_le (Nat.le_refl _) (by omega)) ?_
  (refine gw_run 74 80 rfl ?_)
  refine gw_forP (6 * dG D) (fun i (σ' : gn_Mem) => (∀ o, o ≠ 47 → σ' o = σ2 o) ∧ ∀ j, j < i → σ' 47 j = σ 57 j) (fun i _ => [.ref 44, .int (nI i)]) (fun σ' => σ') σ2 ⟨fun _ _ => rfl, fun g hg => by omega⟩ ?_ ?_
  · intro i σ3 hi ⟨q1, q2⟩ hk
    (repeat (first | refine gx_run 999 80 rfl ?_ | refine gx_goto rfl rfl ?_))
    rw [show σ3 44 8 = nI (dG D) by rw [q1 44 (by omega), p1 44 (by omega) (by omega)]; exact c8, show (6 : Int32) * nI (dG D) = nI (6 * dG D) from pk_mul 6 _]
    first | refine gx_iff rfl (nI_ge hi (by omega)) ?_ | refine gx_icf rfl (nI_ge hi (by omega)) ?_
    (repeat (first | refine gx_run 999 80 rfl ?_ | refine gx_goto rfl rfl ?_))
    refine gx_ld i rfl (by omega) (show σ3 57 i = σ 57 i by rw [q1 57 (by omega), p1 57 (by omega) (by omega), f1 57 (by omega)]) rfl rfl rfl ?_
    refine gx_st i rfl (by omega) rfl rfl rfl ?_
    (repeat (first | refine gx_run 999 80 rfl ?_ | refine gx_goto rfl rfl ?_))
    refine gw_goto rfl ?_
    rw [nI_1]
    refine hk _ ⟨fun o h1 => by rw [gu_o h1, q1 o h1], fun g hg => ?_⟩
    by_cases e : g = i
    · rw [e, gu_s]
    · rw [gu_k (Or.inr e)]; exact q2 g (by omega)
  intro σ3 ⟨q1, q2⟩
  (repeat (first | refine gx_run 999 80 rfl ?_ | refine gx_goto rfl rfl ?_))
  rw [show σ3 44 8 = nI (dG D) by rw [q1 44 (by omega), p1 44 (by omega) (by omega)]; exact c8, show (6 : Int32) * nI (dG D) = nI (6 * dG D) from pk_mul 6 _]
  first | refine gx_ift rfl (nI_le (Nat.le_refl _) (by omega)) ?_ | refine gx_ict rfl (nI_le (Nat.le_refl _) (by omega)) ?_
  (refine gw_run 105 80 rfl ?_)
  refine gw_forP (dH D) (fun i (σ' : gn_Mem) => (∀ o, o ≠ 49 → o ≠ 50 → σ' o = σ3 o) ∧ ∀ g, g < i → σ' 49 g = nI (dK D g) ∧ σ' 50 g = nI (dN D g)) (fun i _ => [.ref 44, .int (nI i)]) (fun σ' => σ') σ3 ⟨fun _ _ _ => rfl, fun g hg => by omega⟩ ?_ ?_
  · intro i σ4 hi ⟨r1, r2⟩ hk
    have b7i := b7 i hi
    (repeat (first | refine gx_run 999 80 rfl ?_ | refine gx_goto rfl rfl ?_))
    rw [show σ4 44 9 = nI (dH D) by rw [r1 44 (by omega) (by omega), q1 44 (by omega), p1 44 (by omega) (by omega)]; exact c9]
    first | refine gx_iff rfl (nI_ge hi (by omega)) ?_ | refine gx_icf rfl (nI_ge hi (by omega)) ?_
    (repeat (first | refine gx_run 999 80 rfl ?_ | refine gx_goto rfl rfl ?_))
    refine gx_ld i rfl (by omega) (show σ4 59 i = nI (dK D i) by rw [r1 59 (by omega) (by omega), q1 59 (by omega), p1 59 (by omega) (by omega), f1 59 (by omega)]; exact b7i.1) rfl rfl rfl ?_
    refine gx_st i rfl (by omega) rfl rfl rfl ?_
    (repeat (first | refine gx_run 999 80 rfl ?_ | refine gx_goto rfl rfl ?_))
    refine gx_ld i rfl (by omega) (show gn_up σ4 49 i (nI (dK D i)) 60 i = nI (dN D i) by rw [gu_k (Or.inl (by decide)), r1 60 (by omega) (by omega), q1 60 (by omega), p1 60 (by omega) (by omega), f1 60 (by omega)]; exact b7i.2) rfl rfl rfl ?_
    refine gx_st i rfl (by omega) rfl rfl rfl ?_
    (repeat (first | refine gx_run 999 80 rfl ?_ | refine gx_goto rfl rfl ?_))
    refine gw_goto rfl ?_
    rw [nI_1]
    refine hk _ ⟨fun o h1 h2 => by rw [gu_o h2, gu_o h1, r1 o h1 h2], fun g hg => ?_⟩
    by_cases e : g = i
    · exact ⟨by rw [e, gu_k (Or.inl (by decide)), gu_s], by rw [e, gu_s]⟩
    · rw [gu_k (by omega), gu_k (Or.inr e), gu_k (Or.inr e), gu_k (by omega)]; exact r2 g (by omega)
  intro σ4 ⟨r1, r2⟩
  have o4 : ∀ o, ¬ (44 ≤ o ∧ o ≤ 50) → σ4 o = σ o := fun o ho => by rw [r1 o (by omega) (by omega), q1 o (by omega), p1 o (by omega) (by omega), f1 o (by omega)]
  have o44 : σ4 44 = σ1 44 := by rw [r1 44 (by omega) (by omega), q1 44 (by omega), p1 44 (by omega) (by omega)]
  have o45 : σ4 45 = σ 45 := by rw [r1 45 (by omega) (by omega), q1 45 (by omega), p1 45 (by omega) (by omega), f1 45 (by omega)]
  have hM4 : gM σ4 D := by
    refine ⟨hW, by rw [o44]; exact c6, by rw [o44]; exact c7, by rw [o44]; exact c8, by rw [o44]; exact c9, fun g hg => ?_, fun g k hg hk => ?_, r2⟩
    · rw [r1 46 (by omega) (by omega), r1 48 (by omega) (by omega), q1 46 (by omega), q1 48 (by omega)]; exact p2 g hg
    · have h6 := (hW.2.2.2.2.1 g hg).2.2
      rw [r1 47 (by omega) (by omega), q2 _ (by omega)]; exact b6 g k hg hk
  (repeat (first | refine gx_run 999 80 rfl ?_ | refine gx_goto rfl rfl ?_))
  rw [show σ4 44 9 = nI (dH D) by rw [o44]; exact c9]
  first | refine gx_ift rfl (nI_le (Nat.le_refl _) (by omega)) ?_ | refine gx_ict rfl (nI_le (Nat.le_refl _) (by omega)) ?_
  (repeat (first | refine gx_run 999 80 rfl ?_ | refine gx_goto rfl rfl ?_))
  refine gx_ld 28 rfl (by omega) (show σ4 45 28 = σ 45 28 by rw [o45]) rfl rfl rfl ?_
  (refine gw_run 153 80 rfl ?_)
  refine gw_forP 29 (fun i (σ' : gn_Mem) => (∀ o, o ≠ 45 → σ' o = σ4 o) ∧ (∀ j, j < i → σ' 45 j = 0) ∧ (∀ j, 29 ≤ j → σ' 45 j = σ 45 j)) (fun i _ => [.ref 44, .int (σ 45 28), .int (nI i)]) (fun σ' => σ') σ4 ⟨fun _ _ => rfl, fun g hg => by omega, fun j hj => by rw [o45]⟩ ?_ ?_
  · intro i σ5 hi ⟨s1, s2, s3⟩ hk
    (repeat (first | refine gx_run 999 80 rfl ?_ | refine gx_goto rfl rfl ?_))
    first | refine gx_iff rfl (nI_ge (b := 29) hi (by omega)) ?_ | refine gx_icf rfl (nI_ge (b := 29) hi (by omega)) ?_
    (repeat (first | refine gx_run 999 80 rfl ?_ | refine gx_goto rfl rfl ?_))
    refine gx_st i rfl (by omega) rfl rfl rfl ?_
    (repeat (first | refine gx_run 999 80 rfl ?_ | refine gx_goto rfl rfl ?_))
    refine gw_goto rfl ?_
    rw [nI_1]
    refine hk _ ⟨fun o h1 => by rw [gu_o h1, s1 o h1], fun g hg => ?_, fun j hj => by rw [gu_k (by omega)]; exact s3 j hj⟩
    by_cases e : g = i
    · rw [e, gu_s]
    · rw [gu_k (Or.inr e)]; exact s2 g (by omega)
  intro σ5 ⟨s1, s2, s3⟩
  (repeat (first | refine gx_run 999 80 rfl ?_ | refine gx_goto rfl rfl ?_))
  first | refine gx_ift rfl (by dsimp only [gn_cmp] <;> decide) ?_ | refine gx_ict rfl (by dsimp only [gn_cmp] <;> decide) ?_
  (repeat (first | refine gx_run 999 80 rfl ?_ | refine gx_goto rfl rfl ?_))
  refine gx_st 28 rfl (by omega) rfl rfl rfl ?_
  generalize hσ6 : gn_up σ5 45 28 (σ 45 28) = σ6
  have o6 : ∀ o, o ≠ 45 → σ6 o = σ4 o := fun o ho => by rw [← hσ6, gu_o ho, s1 o ho]
  have hM6 : gM σ6 D := gM_fr hM4 (fun k _ => by rw [o6 44 (by omega)]) (fun o a b => o6 o (by omega))
  have hX6 : mR (σ6 45) aZero := fun k hk => by
    rw [← hσ6, gu_k (by omega), s2 k (by omega)]
    unfold vv aZero
    by_cases e : 6 ≤ k ∧ k < 18
    · rw [if_pos e, if_pos e]; rfl
    · rw [if_neg e, if_neg e]; rfl
  have hi6 : ∀ k, 28 ≤ k → σ6 45 k = σ 45 k := fun k hk => by
    rw [← hσ6]
    by_cases e : k = 28
    · rw [e, gu_s]
    · rw [gu_k (Or.inr e)]; exact s3 k (by omega)
  (repeat (first | refine gx_run 999 80 rfl ?_ | refine gx_goto rfl rfl ?_))
  refine gx_call rfl rfl rfl ?_
  refine mw_allAnew hM6 hX6 ?_
  intro σ7 f7 k7 hX7
  (repeat (first | refine gx_run 999 80 rfl ?_ | refine gx_goto rfl rfl ?_))
  refine gw_vret rfl ?_
  generalize hσ8 : gn_up (gn_up (gn_up (gn_up σ7 44 10 0) 44 11 0) 44 17 0) 44 20 0 = σ8
  have o8 : ∀ o, o ≠ 44 → σ8 o = σ7 o := fun o ho => by rw [← hσ8, gu_o ho, gu_o ho, gu_o ho, gu_o ho]
  have k8 : ∀ k, k ≠ 10 → k ≠ 11 → k ≠ 17 → k ≠ 20 → σ8 44 k = σ1 44 k := fun k h1 h2 h3 h4 => by rw [← hσ8, gu_k (Or.inr h4), gu_k (Or.inr h3), gu_k (Or.inr h2), gu_k (Or.inr h1), f7 44 (by omega), o6 44 (by omega), o44]
  refine hQ σ8 (fun o ho => by rw [o8 o (by omega), f7 o (by omega), o6 o (by omega), o4 o ho]) (fun k h1 h2 h3 => by rw [k8 k (by omega) (by omega) h2 h3, k1 k (by omega)]) (gM_fr hM6 (fun k hk => by rw [k8 k (by omega) (by omega) (by omega) (by omega), o6 44 (by omega), o44]) (fun o a b => by rw [o8 o (by omega), f7 o (by omega)])) (by rw [o8 45 (by omega)]; exact hX7) (fun k hk => by rw [o8 45 (by omega), k7 k hk, hi6 k hk]) ?_ ?_ ?_ ?_
  · rw [← hσ8, gu_k (by omega), gu_k (by omega), gu_k (by omega), gu_s]
  · rw [← hσ8, gu_k (by omega), gu_k (by omega), gu_s]
  · rw [← hσ8, gu_k (by omega), gu_s]
  · rw [← hσ8, gu_s]
end
/-- the two tables have changed their places -/
def sw (o : Nat) : Nat := if 28 ≤ o ∧ o ≤ 35 then o + 8 else if 36 ≤ o ∧ o ≤ 43 then o - 8 else o
def swp (σ : gn_Mem) : gn_Mem := fun o k => if o = 0 ∧ (k = 11 ∨ k = 12) then (if σ 0 k = 0 then 1 else 0) else σ (sw o) k
theorem swp_o {σ : gn_Mem} {o : Nat} (h : o ≠ 0) (h2 : ¬ (28 ≤ o ∧ o ≤ 43)) : swp σ o = σ o := by
  funext k
  unfold swp sw
  rw [if_neg (fun q => h q.1), if_neg (by omega), if_neg (by omega)]
theorem swp_t {σ : gn_Mem} {o : Nat} (h : 28 ≤ o ∧ o ≤ 35) : swp σ o = σ (o + 8) := by
  funext k
  unfold swp sw
  rw [if_neg (fun q => by omega), if_pos h]
theorem dyn28 {x : Int32} (h : gn_dyn x = 28) : x = 0 := by
  unfold gn_dyn at h
  split at h
  · assumption
  · cases h
theorem dyn36 {x : Int32} (h : gn_dyn x = 36) : ¬ x = 0 := by
  unfold gn_dyn at h
  split at h
  · cases h
  · assumption
def gPairE (x m : Nat) (σ : gn_Mem) : Prop := gn_W 20 x 0 [.ref 0] [] σ (fun r1 σ1 => gn_W 20 m 0 [.ref 44] [] σ1 (fun r2 σ2 => (∃ v : Int32, r1 = some (.int v) ∧ r2 = some (.int v)) ∧ (Inv σ2 ∨ Inv (swp σ2))))
theorem mw_fineF {d : Nat} {σ : gn_Mem} {Q : Option Value → gn_Mem → Prop} {F : Option (Nat × Nat)} (hf : fm F σ) (hQ : Q (some (.int (gb (F = none)))) σ) : gn_W d 137 0 [.ref 44] [] σ Q := by
  (repeat (first | refine gx_run 999 80 rfl ?_ | refine gx_goto rfl rfl ?_))
  cases F with
  | none =>
    have hf : σ 44 22 = 0 := hf
    rw [hf]
    rw [gb_t rfl] at hQ
    first | refine gx_iff rfl (by dsimp only [gn_cmp] <;> decide) ?_ | refine gx_icf rfl (by dsimp only [gn_cmp] <;> decide) ?_
    (repeat (first | refine gx_run 999 80 rfl ?_ | refine gx_goto rfl rfl ?_))
    refine gw_zret rfl (Or.inr rfl) ?_
    exact hQ
  | some e =>
    have hf : σ 44 22 = nI e.1 ∧ σ 44 23 = nI e.2 ∧ 1 ≤ e.1 ∧ e.1 ≤ 3 ∧ e.2 ≤ 240 := hf
    rw [hf.1]
    rw [gb_f (fun z => by cases z)] at hQ
    first | refine gx_ift rfl (nI_ne0 (by omega) (by omega)) ?_ | refine gx_ict rfl (nI_ne0 (by omega) (by omega)) ?_
    (repeat (first | refine gx_run 999 80 rfl ?_ | refine gx_goto rfl rfl ?_))
    refine gw_zret rfl (Or.inl rfl) ?_
    exact hQ
theorem fC.two {σ σ' : gn_Mem} {x y : Int32} (h : fC σ σ') : fC (gn_up (gn_up σ 44 13 x) 44 14 y) (gn_up (gn_up σ' 44 13 x) 44 14 y) := by
  refine ⟨fun o a b => by rw [gu_o a, gu_o a, gu_o a, gu_o a]; exact h.1 o a b, fun k a => ?_⟩
  by_cases e1 : k = 14
  · rw [e1, gu_s, gu_s]
  · rw [gu_k (Or.inr e1), gu_k (Or.inr e1)]
    by_cases e2 : k = 13
    · rw [e2, gu_s, gu_s]
    · rw [gu_k (Or.inr e2), gu_k (Or.inr e2)]; exact h.2 k a
/-- the reference's evening, up to its end -/
theorem mw_evening {d n : Nat} {L : Nat → Nat} {σ : gn_Mem} {Q : Option Value → gn_Mem → Prop} (hT : tM σ n L) (hQ1 : ∀ (σ' : gn_Mem) (D' : gD), rdS L n (n + 1) 0 (fun _ _ _ => 0) = .inr D' → fC (gn_up (gn_up σ 44 13 0) 44 14 (-1)) σ' → mBx σ' D' (dG D') → gW D' → gn_W (d + 5) 144 91 [.ref 44] [] σ' Q) (hQ2 : ∀ (σ' : gn_Mem) (e : Nat × Nat), rdS L n (n + 1) 0 (fun _ _ _ => 0) = .inl e → fC (gn_up (gn_up σ 44 13 0) 44 14 (nI e.2)) σ' → Q (some (.int (-10 - nI e.1))) σ') : gn_W (d + 5) 144 0 [.ref 44] [] σ Q := by
  (repeat (first | refine gx_run 999 80 rfl ?_ | refine gx_goto rfl rfl ?_))
  refine gw_putb rfl rfl rfl (Or.inl rfl) ?_
  (refine gw_run 30 80 rfl ?_)
  generalize hσ : gn_up (gn_up (gn_up (gn_up (gn_up (gn_up σ 44 21 0) 44 22 0) 44 24 0) 44 25 0) 44 26 0) 44 27 0 = σ1
  have fc : fC σ σ1 := by rw [← hσ]; exact (((((fC.up (by decide)).tr (fC.up (by decide))).tr (fC.up (by decide))).tr (fC.up (by decide))).tr (fC.up (by decide))).tr (fC.up (by decide))
  have c21 : σ1 44 21 = nI 0 := by rw [← hσ, gu_k (by omega), gu_k (by omega), gu_k (by omega), gu_k (by omega), gu_k (by omega), gu_s]; rfl
  have c22 : σ1 44 22 = 0 := by rw [← hσ, gu_k (by omega), gu_k (by omega), gu_k (by omega), gu_k (by omega), gu_s]
  have c24 : σ1 44 24 = 0 := by rw [← hσ, gu_k (by omega), gu_k (by omega), gu_k (by omega), gu_s]
  have c25 : σ1 44 25 = 0 := by rw [← hσ, gu_k (by omega), gu_k (by omega), gu_s]
  have c26 : σ1 44 26 = 0 := by rw [← hσ, gu_k (by omega), gu_s]
  have c27 : σ1 44 27 = 0 := by rw [← hσ, gu_s]
  clear hσ
  refine mw_readL (σ0 := σ) (n := n) (L := L) (R := rdS L n (n + 1) 0 (fun _ _ _ => 0)) ?_ ?_ (n + 1) 0 σ1 (fun _ _ _ => 0) (by omega) ⟨hT.C fc, c22, fun _ => ⟨c21, by omega⟩⟩ ⟨c24, c25, c26, c27, fun g (hg : g < 0) => by omega, fun g k (hg : g < 0) => by omega, fun g (hg : g < 0) => by omega⟩ ⟨by show 0 ≤ 6; omega, by show 0 ≤ 4; omega, by show 0 ≤ 1; omega, by show 0 < 256; omega, fun g (hg : g < 0) => by omega, fun g k (hg : g < 0) => by omega, fun g (hg : g < 0) => by omega⟩ rfl fc
  · intro σ2 D' a f2 hS2 hB2 hW hR
    have hz : fm none σ2 := hS2.2.1
    (repeat (first | refine gx_run 999 80 rfl ?_ | refine gx_goto rfl rfl ?_))
    refine gx_call rfl rfl rfl ?_
    refine mw_fineF (F := none) (hz.fr (gu_k (by omega)) (gu_k (by omega))) ?_
    rw [gb_t rfl]
    (repeat (first | refine gx_run 999 80 rfl ?_ | refine gx_goto rfl rfl ?_))
    first | refine gx_iff rfl (by dsimp only [gn_cmp] <;> decide) ?_ | refine gx_icf rfl (by dsimp only [gn_cmp] <;> decide) ?_
    (repeat (first | refine gx_run 999 80 rfl ?_ | refine gx_goto rfl rfl ?_))
    refine gx_call rfl rfl rfl ?_
    refine mw_fineF (F := none) ((hz.fr (gu_k (by omega)) (gu_k (by omega))).fr (gu_k (by omega)) (gu_k (by omega))) ?_
    rw [gb_t rfl]
    (repeat (first | refine gx_run 999 80 rfl ?_ | refine gx_goto rfl rfl ?_))
    first | refine gx_ift rfl (by dsimp only [gn_cmp] <;> decide) ?_ | refine gx_ict rfl (by dsimp only [gn_cmp] <;> decide) ?_
    exact hQ1 _ D' hR f2.two (hB2.fr (fun o a b => by rw [gu_o (by omega), gu_o (by omega)]) (fun k a b => by rw [gu_k (by omega), gu_k (by omega)])) hW
  · intro σ2 e f2 hS2 hR
    have hz : fm (some e) σ2 := hS2.2.1
    have hz2 : σ2 44 22 = nI e.1 ∧ σ2 44 23 = nI e.2 ∧ 1 ≤ e.1 ∧ e.1 ≤ 3 ∧ e.2 ≤ 240 := hz
    (repeat (first | refine gx_run 999 80 rfl ?_ | refine gx_goto rfl rfl ?_))
    refine gx_call rfl rfl rfl ?_
    refine mw_fineF (F := some e) (hz.fr (gu_k (by omega)) (gu_k (by omega))) ?_
    rw [gb_f (fun z => by cases z)]
    (repeat (first | refine gx_run 999 80 rfl ?_ | refine gx_goto rfl rfl ?_))
    first | refine gx_ift rfl (by dsimp only [gn_cmp] <;> decide) ?_ | refine gx_ict rfl (by dsimp only [gn_cmp] <;> decide) ?_
    (repeat (first | refine gx_run 999 80 rfl ?_ | refine gx_goto rfl rfl ?_))
    rw [show gn_up σ2 44 13 0 44 23 = nI e.2 by rw [gu_k (by omega)]; exact hz2.2.1]
    refine gx_call rfl rfl rfl ?_
    refine mw_fineF (F := some e) ((hz.fr (gu_k (by omega)) (gu_k (by omega))).fr (gu_k (by omega)) (gu_k (by omega))) ?_
    rw [gb_f (fun z => by cases z)]
    (repeat (first | refine gx_run 999 80 rfl ?_ | refine gx_goto rfl rfl ?_))
    first | refine gx_iff rfl (by dsimp only [gn_cmp] <;> decide) ?_ | refine gx_icf rfl (by dsimp only [gn_cmp] <;> decide) ?_
    (repeat (first | refine gx_run 999 80 rfl ?_ | refine gx_goto rfl rfl ?_))
    refine gx_iret rfl rfl ?_
    rw [show gn_up (gn_up σ2 44 13 0) 44 14 (nI e.2) 44 22 = nI e.1 by rw [gu_k (by omega), gu_k (by omega)]; exact hz2.1]
    exact hQ2 _ e hR f2.two
theorem gT_sw {σ : gn_Mem} {D : gD} (h : gT 36 σ D) : gT 28 (swp σ) D := by
  unfold gT
  rw [show swp σ 28 = σ 36 from swp_t (by omega), show swp σ (28 + 1) = σ (36 + 1) from swp_t (by omega), show swp σ (28 + 2) = σ (36 + 2) from swp_t (by omega), show swp σ (28 + 3) = σ (36 + 3) from swp_t (by omega), show swp σ (28 + 4) = σ (36 + 4) from swp_t (by omega), show swp σ (28 + 5) = σ (36 + 5) from swp_t (by omega), show swp σ (28 + 6) = σ (36 + 6) from swp_t (by omega), show swp σ (28 + 7) = σ (36 + 7) from swp_t (by omega)]
  exact h
theorem p_evening {σ : gn_Mem} (hI : Inv σ) : gPairE 93 144 σ := by
  obtain ⟨D, A, c, nx, B, z, I, e, T, Z, b, G, H, n, L, hT, hN, hS, hP, hII, hE, hB, hX, hF⟩ := id hI
  unfold gPairE
  (repeat (refine gw_stp rfl ?_))
  rw [hT.2.1]
  refine gx_call rfl rfl rfl ?_
  refine xw_readInto (n := n) (L := L) ⟨hX.1, hX.2.1, fun i hi => ⟨(hX.2.2.2 i hi).1, (hX.2.2.2 i hi).2.1⟩⟩ ?_
  intro σ1 F D' f1 e1 hfe hB1 ht hW
  cases F with
  | some er =>
    have hfe : σ1 1 3 = nI er.1 ∧ σ1 1 4 = nI er.2 ∧ 1 ≤ er.1 ∧ er.1 ≤ 3 ∧ er.2 ≤ 240 := hfe
    have hR := ht.2 er rfl
    (repeat (first | refine gx_run 999 80 rfl ?_ | refine gx_goto rfl rfl ?_))
    rw [hfe.1]
    first | refine gx_iff rfl (nI_ne0 (by omega) (by omega)) ?_ | refine gx_icf rfl (nI_ne0 (by omega) (by omega)) ?_
    (repeat (first | refine gx_run 999 80 rfl ?_ | refine gx_goto rfl rfl ?_))
    refine gx_iret rfl rfl ?_
    rw [hfe.1]
    refine mw_evening (n := n) (L := L) ⟨hX.1, by rw [f1 44 (by omega) (by omega)]; exact hX.2.2.1, fun i hi => ⟨(hX.2.2.2 i hi).1, by rw [f1 51 (by omega) (by omega)]; exact (hX.2.2.2 i hi).2.2⟩⟩ ?_ ?_
    · intro σ2 D2 hR2
      rw [hR] at hR2
      cases hR2
    · intro σ2 e2 hR2 f2
      rw [hR] at hR2
      cases hR2
      refine ⟨⟨_, rfl, rfl⟩, Or.inl ?_⟩
      have q : ∀ o, o ≠ 1 → ¬ (36 ≤ o ∧ o ≤ 44) → ¬ (56 ≤ o ∧ o ≤ 60) → σ2 o = σ o := fun o a b c => by rw [f2.1 o (by omega) c, gu_o (by omega), gu_o (by omega), f1 o a (by omega)]
      have qm : ∀ k, ¬ (21 ≤ k ∧ k ≤ 27) → k ≠ 13 → k ≠ 14 → σ2 44 k = σ 44 k := fun k a b c => by rw [f2.2 k a, gu_k (Or.inr c), gu_k (Or.inr b), f1 44 (by omega) (by omega)]
      have q1 : σ2 1 = σ1 1 := by rw [f2.1 1 (by omega) (by omega), gu_o (by omega), gu_o (by omega)]
      refine ⟨D, A, c, nx, B, z, I, e, T, Z, b, G, H, 0, L, hT.fr (fun k => by rw [q 0 (by omega) (by omega) (by omega)]) (fun o h => q o (by omega) (by omega) (by omega)) (fun k h1 h2 => qm k (by omega) (by omega) (by omega)), hN.fr (q 4 (by omega) (by omega) (by omega)) (fun k _ => by rw [q 45 (by omega) (by omega) (by omega)]), hS.fr (by rw [q 11 (by omega) (by omega) (by omega)]) (by rw [q 45 (by omega) (by omega) (by omega)]), hP.fr (q 5 (by omega) (by omega) (by omega)) (q 6 (by omega) (by omega) (by omega)) (qm 10 (by omega) (by omega) (by omega)) (fun k _ => by rw [q 45 (by omega) (by omega) (by omega)]), hII.fr (fun o h1 h2 => q o (by omega) (by omega) (by omega)) (qm 11 (by omega) (by omega) (by omega)) (fun k _ _ => by rw [q 45 (by omega) (by omega) (by omega)]), hE.fr (fun o h => q o (by omega) (by omega) (by omega)) (qm 17 (by omega) (by omega) (by omega)), hB.fr (fun o h => q o (by omega) (by omega) (by omega)) (qm 20 (by omega) (by omega) (by omega)), ⟨by omega, ?_, ?_, fun i hi => by omega⟩, ?_⟩
      · rw [q1, e1]; rfl
      · rw [f2.2 13 (by omega), gu_k (by omega), gu_s]; rfl
      · show σ2 1 4 = σ2 44 14
        rw [q1, hfe.2.1, f2.2 14 (by omega), gu_s]
  | none =>
    have hfe : σ1 1 3 = 0 ∧ σ1 1 4 = -1 := hfe
    have hR := ht.1 rfl
    have hW' := hW rfl
    have hT1 : gT 36 σ1 D' := hB1.T hW'
    have d12 : gn_dyn (σ1 0 12) = 36 := by rw [f1 0 (by omega) (by omega)]; exact hT.2.1
    have d11 : gn_dyn (σ1 0 11) = 28 := by rw [f1 0 (by omega) (by omega)]; exact hT.1
    (repeat (first | refine gx_run 999 80 rfl ?_ | refine gx_goto rfl rfl ?_))
    rw [hfe.1]
    first | refine gx_ift rfl (by dsimp only [gn_cmp] <;> decide) ?_ | refine gx_ict rfl (by dsimp only [gn_cmp] <;> decide) ?_
    (repeat (refine gw_stp rfl ?_))
    rw [d12, d11]
    refine gw_putd (x := 0) rfl rfl (show gn_dyn 0 = 28 from if_pos rfl) ?_
    (repeat (refine gw_stp rfl ?_))
    refine gw_putd (x := 1) rfl rfl (show gn_dyn 1 = 36 from if_neg (by decide)) ?_
    generalize hσ2 : gn_up (gn_up σ1 0 12 0) 0 11 1 = σ2
    have f2 : ∀ o, o ≠ 0 → σ2 o = σ1 o := fun o ho => by rw [← hσ2, gu_o ho, gu_o ho]
    have a11 : σ2 0 11 = 1 := by rw [← hσ2, gu_s]
    have a12 : σ2 0 12 = 0 := by rw [← hσ2, gu_k (by omega), gu_s]
    clear hσ2
    have d2 : gn_dyn (σ2 0 11) = 36 := by rw [a11]; exact if_neg (by decide)
    (repeat (refine gw_stp rfl ?_))
    rw [d2]
    refine gx_call rfl rfl rfl ?_
    refine xw_begin (D := D') (A := A) (gT_fr hT1 (fun o a b => f2 o (by omega))) (by rw [f2 4 (by omega), f1 4 (by omega) (by omega)]; exact hN.1) ?_
    intro σ3 f3 hX3
    (repeat (first | refine gx_run 999 80 rfl ?_ | refine gx_goto rfl rfl ?_))
    refine gx_call rfl rfl rfl ?_
    refine xw_forget ?_
    (repeat (first | refine gx_run 999 80 rfl ?_ | refine gx_goto rfl rfl ?_))
    refine gw_putb rfl rfl rfl (Or.inl rfl) ?_
    (repeat (first | refine gx_run 999 80 rfl ?_ | refine gx_goto rfl rfl ?_))
    refine gw_putb rfl rfl rfl (Or.inl rfl) ?_
    (repeat (refine gw_stp rfl ?_))
    generalize hσ4 : gn_up (gn_up (gn_up (gn_up (gn_up σ3 5 2 0) 7 2 0) 9 2 0) 22 2 0) 25 2 0 = σ4
    have f4 : ∀ o, o ≠ 5 → o ≠ 7 → o ≠ 9 → o ≠ 22 → o ≠ 25 → σ4 o = σ3 o := fun o h1 h2 h3 h4 h5 => by rw [← hσ4, gu_o h5, gu_o h4, gu_o h3, gu_o h2, gu_o h1]
    have k52 : σ4 5 2 = 0 := by rw [← hσ4, gu_k (by omega), gu_k (by omega), gu_k (by omega), gu_k (by omega), gu_s]
    have k51 : σ4 5 1 = σ3 5 1 := by rw [← hσ4, gu_k (by omega), gu_k (by omega), gu_k (by omega), gu_k (by omega), gu_k (by omega)]
    have k72 : σ4 7 2 = 0 := by rw [← hσ4, gu_k (by omega), gu_k (by omega), gu_k (by omega), gu_s]
    have k92 : σ4 9 2 = 0 := by rw [← hσ4, gu_k (by omega), gu_k (by omega), gu_s]
    have k22 : σ4 22 2 = 0 := by rw [← hσ4, gu_k (by omega), gu_s]
    have k25 : σ4 25 2 = 0 := by rw [← hσ4, gu_s]
    clear hσ4
    have q4 : ∀ o, o ≠ 0 → o ≠ 4 → o ≠ 5 → o ≠ 7 → o ≠ 9 → o ≠ 22 → o ≠ 25 → σ4 o = σ1 o := fun o h1 h2 h3 h4 h5 h6 h7 => by rw [f4 o h3 h4 h5 h6 h7, f3 o h2, f2 o h1]
    have d4 : gn_dyn (σ4 0 11) = 36 := by rw [f4 0 (by omega) (by omega) (by omega) (by omega) (by omega), f3 0 (by omega)]; exact d2
    rw [d4]
    (repeat (first | refine gx_run 999 80 rfl ?_ | refine gx_goto rfl rfl ?_))
    refine gx_iret rfl rfl ?_
    have hT4 : gT 36 σ4 D' := gT_fr hT1 (fun o a b => q4 o (by omega) (by omega) (by omega) (by omega) (by omega) (by omega) (by omega))
    rw [hT4.2.2.2.1]
    refine mw_evening (n := n) (L := L) ⟨hX.1, by rw [q4 44 (by omega) (by omega) (by omega) (by omega) (by omega) (by omega) (by omega), f1 44 (by omega) (by omega)]; exact hX.2.2.1, fun i hi => ⟨(hX.2.2.2 i hi).1, by rw [q4 51 (by omega) (by omega) (by omega) (by omega) (by omega) (by omega) (by omega), f1 51 (by omega) (by omega)]; exact (hX.2.2.2 i hi).2.2⟩⟩ ?_ ?_
    · intro σ5 D2 hR2 f5 hB5 hW5
      rw [hR] at hR2
      cases hR2
      (repeat (first | refine gx_run 999 80 rfl ?_ | refine gx_goto rfl rfl ?_))
      refine gx_call rfl rfl rfl ?_
      refine mw_begin hB5 hW5 ?_
      intro σ6 f6 k6 hM6 hX6 w6 c10 c11 c17 c20
      (repeat (first | refine gx_run 999 80 rfl ?_ | refine gx_goto rfl rfl ?_))
      rw [hM6.2.2.2.1]
      refine gx_iret rfl rfl ?_
      refine ⟨⟨_, rfl, rfl⟩, Or.inr ?_⟩
      have q6 : ∀ o, ¬ (44 ≤ o ∧ o ≤ 50) → ¬ (56 ≤ o ∧ o ≤ 60) → σ6 o = σ4 o := fun o a b => by rw [f6 o a, f5.1 o (by omega) b, gu_o (by omega), gu_o (by omega)]
      have m6 : ∀ k, ¬ (6 ≤ k ∧ k ≤ 11) → ¬ (21 ≤ k ∧ k ≤ 27) → k ≠ 17 → k ≠ 20 → σ6 44 k = gn_up (gn_up σ4 44 13 0) 44 14 (-1) 44 k := fun k a b c d => by rw [k6 k a c d, f5.2 k b]
      have w6' : ∀ k, 28 ≤ k → σ6 45 k = σ 45 k := fun k hk => by rw [w6 k hk, f5.1 45 (by omega) (by omega), gu_o (by omega), gu_o (by omega), q4 45 (by omega) (by omega) (by omega) (by omega) (by omega) (by omega) (by omega), f1 45 (by omega) (by omega)]
      have s : ∀ o, o ≠ 0 → ¬ (28 ≤ o ∧ o ≤ 43) → swp σ6 o = σ6 o := fun o a b => swp_o a b
      have a6 : σ6 0 = σ2 0 := by rw [q6 0 (by omega) (by omega), f4 0 (by omega) (by omega) (by omega) (by omega) (by omega), f3 0 (by omega)]
      refine ⟨D', aSeat D' aZero, 0, nx, B, fun _ => false, I, 0, T, Z, 0, G, H, 0, L, ⟨?_, ?_, gT_sw (gT_fr hT4 (fun o a b => q6 o (by omega) (by omega))), gM_fr hM6 (fun k _ => by rw [s 44 (by omega) (by omega)]) (fun o a b => s o (by omega) (by omega))⟩, ⟨?_, ?_, w_seat hW' (by decide) (by decide) (by decide) (by decide)⟩, ⟨?_, ?_⟩, ⟨by omega, hP.2.1, ?_, ?_, ?_, fun i hi => by omega⟩, ⟨?_, ?_, ?_, fun i _ hz => by cases hz⟩, ⟨by omega, ?_, ?_, fun i hi => by omega⟩, ⟨by omega, ?_, ?_, fun i hi => by omega⟩, ⟨by omega, ?_, ?_, fun i hi => by omega⟩, ?_⟩
      · have h : swp σ6 0 11 = 0 := by
          unfold swp
          rw [if_pos (by decide), a6, a11]
          rfl
        rw [h]
        exact if_pos rfl
      · have h : swp σ6 0 12 = 1 := by
          unfold swp
          rw [if_pos (by decide), a6, a12]
          rfl
        rw [h]
        exact if_neg (by decide)
      · rw [s 4 (by omega) (by omega), q6 4 (by omega) (by omega), f4 4 (by omega) (by omega) (by omega) (by omega) (by omega)]
        exact hX3
      · rw [s 45 (by omega) (by omega)]
        exact hX6
      · rw [s 11 (by omega) (by omega), s 45 (by omega) (by omega), w6' 28 (by omega), q6 11 (by omega) (by omega), q4 11 (by omega) (by omega) (by omega) (by omega) (by omega) (by omega) (by omega), f1 11 (by omega) (by omega)]
        exact hS.1
      · rw [s 11 (by omega) (by omega), q6 11 (by omega) (by omega), q4 11 (by omega) (by omega) (by omega) (by omega) (by omega) (by omega) (by omega), f1 11 (by omega) (by omega)]
        exact hS.2
      · rw [s 5 (by omega) (by omega), q6 5 (by omega) (by omega), k52]; rfl
      · rw [s 44 (by omega) (by omega), c10]; rfl
      · rw [s 5 (by omega) (by omega), q6 5 (by omega) (by omega), k51, f3 5 (by omega), f2 5 (by omega), f1 5 (by omega) (by omega)]
        exact hP.2.2.2.2.1
      · rw [s 7 (by omega) (by omega), q6 7 (by omega) (by omega), k72]; rfl
      · rw [s 9 (by omega) (by omega), q6 9 (by omega) (by omega), k92]; rfl
      · rw [s 44 (by omega) (by omega), c11]; rfl
      · rw [s 22 (by omega) (by omega), q6 22 (by omega) (by omega), k22]; rfl
      · rw [s 44 (by omega) (by omega), c17]; rfl
      · rw [s 25 (by omega) (by omega), q6 25 (by omega) (by omega), k25]; rfl
      · rw [s 44 (by omega) (by omega), c20]; rfl
      · rw [s 1 (by omega) (by omega), q6 1 (by omega) (by omega), q4 1 (by omega) (by omega) (by omega) (by omega) (by omega) (by omega) (by omega), e1]; rfl
      · rw [s 44 (by omega) (by omega), m6 13 (by omega) (by omega) (by omega) (by omega), gu_k (by omega), gu_s]; rfl
      · show swp σ6 1 4 = swp σ6 44 14
        rw [s 1 (by omega) (by omega), s 44 (by omega) (by omega), q6 1 (by omega) (by omega), q4 1 (by omega) (by omega) (by omega) (by omega) (by omega) (by omega) (by omega), hfe.2, m6 14 (by omega) (by omega) (by omega) (by omega), gu_s]
    · intro σ5 e2 hR2
      rw [hR] at hR2
      cases hR2
