/-! what each piece of the invariant looks at -/
theorem iT.fr {σ σ' : gn_Mem} {D : gD} (h : iT σ D) (e0 : ∀ k, σ' 0 k = σ 0 k) (e : ∀ o, (28 ≤ o ∧ o ≤ 35) ∨ (46 ≤ o ∧ o ≤ 50) → σ' o = σ o) (em : ∀ k, 6 ≤ k → k ≤ 9 → σ' 44 k = σ 44 k) : iT σ' D := by
  unfold iT
  rw [e0 11, e0 12]
  exact ⟨h.1, h.2.1, gT_fr h.2.2.1 (fun o a b => e o (by omega)), gM_fr h.2.2.2 (fun k hk => em k (by omega) (by omega)) (fun o a b => e o (by omega))⟩
theorem iN.fr {σ σ' : gn_Mem} {D : gD} {A : gA} (h : iN σ D A) (e4 : σ' 4 = σ 4) (e : ∀ k, k < 28 → σ' 45 k = σ 45 k) : iN σ' D A := by
  unfold iN at h ⊢
  rw [e4]
  exact ⟨h.1, fun k hk => by rw [e k hk]; exact h.2.1 k hk, h.2.2⟩
theorem iS.fr {σ σ' : gn_Mem} (h : iS σ) (e : σ' 11 0 = σ 11 0) (e2 : σ' 45 28 = σ 45 28) : iS σ' := by
  unfold iS at h ⊢
  rw [e, e2]
  exact h
theorem iP.fr {σ σ' : gn_Mem} {D : gD} {c nx : Nat} {B : Nat → gA} (h : iP σ D c nx B) (e5 : σ' 5 = σ 5) (e6 : σ' 6 = σ 6) (em : σ' 44 10 = σ 44 10) (e : ∀ k, 87 ≤ k → σ' 45 k = σ 45 k) : iP σ' D c nx B := by
  unfold iP at h ⊢
  rw [e5, e6, em]
  refine ⟨h.1, h.2.1, h.2.2.1, h.2.2.2.1, h.2.2.2.2.1, fun i hi => ⟨(h.2.2.2.2.2 i hi).1, fun k hk => ?_, (h.2.2.2.2.2 i hi).2.2⟩⟩
  show σ' 45 (87 + 29 * i + k) = _
  rw [e _ (by omega)]
  exact (h.2.2.2.2.2 i hi).2.1 k hk
theorem iI.fr {σ σ' : gn_Mem} {D : gD} {z : Nat → Bool} {I : Nat → gA} (h : iI σ D z I) (e : ∀ o, 7 ≤ o → o ≤ 10 → σ' o = σ o) (em : σ' 44 11 = σ 44 11) (ew : ∀ k, 29 ≤ k → k < 87 → σ' 45 k = σ 45 k) : iI σ' D z I := by
  unfold iI at h ⊢
  rw [e 7 (by omega) (by omega), e 9 (by omega) (by omega), em]
  refine ⟨h.1, h.2.1, h.2.2.1, fun i hi hz => ?_⟩
  obtain ⟨a, b, c, d, f⟩ := h.2.2.2 i hi hz
  rw [e (8 + 2 * i) (by omega) (by omega), e (7 + 2 * i) (by omega) (by omega), ew (29 + 29 * i + 28) (by omega) (by omega)]
  refine ⟨a, fun k hk => ?_, c, d, f⟩
  show σ' 45 (29 + 29 * i + k) = _
  rw [ew _ (by omega) (by omega)]
  exact b k hk
theorem iE.fr {σ σ' : gn_Mem} {e : Nat} {T : Nat → Nat} {Z : Nat → Bool} (h : iE σ e T Z) (q : ∀ o, o = 22 ∨ o = 23 ∨ o = 24 ∨ o = 52 ∨ o = 53 → σ' o = σ o) (em : σ' 44 17 = σ 44 17) : iE σ' e T Z := by
  unfold iE at h ⊢
  rw [q 22 (by omega), q 23 (by omega), q 24 (by omega), q 52 (by omega), q 53 (by omega), em]
  exact h
theorem iB.fr {σ σ' : gn_Mem} {D : gD} {b : Nat} {G H : Nat → Nat} (h : iB σ D b G H) (q : ∀ o, o = 25 ∨ o = 26 ∨ o = 27 ∨ o = 54 ∨ o = 55 → σ' o = σ o) (em : σ' 44 20 = σ 44 20) : iB σ' D b G H := by
  unfold iB at h ⊢
  rw [q 25 (by omega), q 26 (by omega), q 27 (by omega), q 54 (by omega), q 55 (by omega), em]
  exact h
theorem iX.fr {σ σ' : gn_Mem} {n : Nat} {L : Nat → Nat} (h : iX σ n L) (e1 : σ' 1 1 = σ 1 1) (q : ∀ o, o = 2 ∨ o = 51 → σ' o = σ o) (em : σ' 44 13 = σ 44 13) : iX σ' n L := by
  unfold iX at h ⊢
  rw [q 2 (by omega), q 51 (by omega), e1, em]
  exact h
theorem iF.fr {σ σ' : gn_Mem} (h : iF σ) (e1 : σ' 1 4 = σ 1 4) (em : σ' 44 14 = σ 44 14) : iF σ' := by
  unfold iF at h ⊢
  rw [e1, em]
  exact h
/-- a cell that isn't the written one -/
theorem gu_o {σ : gn_Mem} {o k o' : Nat} {x : Int32} (h : o' ≠ o) : gn_up σ o k x o' = σ o' := if_neg h
theorem gu_k {σ : gn_Mem} {o k o' k' : Nat} {x : Int32} (h : o' ≠ o ∨ k' ≠ k) : gn_up σ o k x o' k' = σ o' k' := by
  by_cases e : o' = o
  · subst e
    rw [gn_up_eq]
    exact if_neg (h.resolve_left (fun z => z rfl))
  · rw [gu_o e]
theorem gu_s {σ : gn_Mem} {o k : Nat} {x : Int32} : gn_up σ o k x o k = x := by
  rw [gn_up_eq]; exact if_pos rfl
theorem gF_k {σ : gn_Mem} {o o' k' : Nat} {f : Nat → Int32} (h : o' ≠ o) : gn_upF σ o f o' k' = σ o' k' := by rw [gn_upF_ne h]
