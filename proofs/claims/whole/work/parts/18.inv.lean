/-! the invariant between the class's and the reference's memory -/
def iT (σ : gn_Mem) (D : gD) : Prop := gn_dyn (σ 0 11) = 28 ∧ gn_dyn (σ 0 12) = 36 ∧ gT 28 σ D ∧ gM σ D
def iN (σ : gn_Mem) (D : gD) (A : gA) : Prop := xR (σ 4) A ∧ mR (σ 45) A ∧ wA2 D A
def iS (σ : gn_Mem) : Prop := σ 11 0 = σ 45 28 ∧ ¬ σ 11 0 < 0
/-- what can be undone: c of them, the next place of the ring nx; B i: the i-th from the oldest -/
def iP (σ : gn_Mem) (D : gD) (c nx : Nat) (B : Nat → gA) : Prop := c ≤ 30 ∧ nx < 30 ∧ σ 5 2 = nI c ∧ σ 44 10 = nI c ∧ σ 5 1 = nI nx ∧ ∀ i, i < c → wA2 D (B i) ∧ mR (fun k => σ 45 (87 + 29 * i + k)) (B i) ∧ xR (fun j => σ 6 (28 * ((nx + 30 - c + i) % 30) + j)) (B i)
/-- the images: z i: is it kept -/
def iI (σ : gn_Mem) (D : gD) (z : Nat → Bool) (I : Nat → gA) : Prop := σ 7 2 = nI (z 0).toNat ∧ σ 9 2 = nI (z 1).toNat ∧ σ 44 11 = nI ((z 0).toNat + 2 * (z 1).toNat) ∧ ∀ i, i < 2 → z i = true → wA2 D (I i) ∧ mR (fun k => σ 45 (29 + 29 * i + k)) (I i) ∧ xR (σ (8 + 2 * i)) (I i) ∧ σ (7 + 2 * i) 1 = σ 45 (29 + 29 * i + 28) ∧ ¬ σ (7 + 2 * i) 1 < 0
def iE (σ : gn_Mem) (e : Nat) (T : Nat → Nat) (Z : Nat → Bool) : Prop := e ≤ 6 ∧ σ 22 2 = nI e ∧ σ 44 17 = nI e ∧ ∀ i, i < e → T i < 8 ∧ σ 23 i = nI (T i) ∧ σ 52 i = nI (T i) ∧ σ 24 i = nI (Z i).toNat ∧ σ 53 i = nI (Z i).toNat
def iB (σ : gn_Mem) (D : gD) (b : Nat) (G H : Nat → Nat) : Prop := b ≤ 20 ∧ σ 25 2 = nI b ∧ σ 44 20 = nI b ∧ ∀ i, i < b → G i < dG D ∧ H i ≤ dH D ∧ σ 26 i = nI (G i) ∧ σ 54 i = nI (G i) ∧ σ 27 i = e1 (H i) ∧ σ 55 i = e1 (H i)
def iX (σ : gn_Mem) (n : Nat) (L : Nat → Nat) : Prop := n ≤ 240 ∧ σ 1 1 = nI n ∧ σ 44 13 = nI n ∧ ∀ i, i < n → L i < 256 ∧ σ 2 i = nI (L i) ∧ σ 51 i = nI (L i)
def iF (σ : gn_Mem) : Prop := σ 1 4 = σ 44 14
def Inv (σ : gn_Mem) : Prop := ∃ (D : gD) (A : gA) (c nx : Nat) (B : Nat → gA) (z : Nat → Bool) (I : Nat → gA) (e : Nat) (T : Nat → Nat) (Z : Nat → Bool) (b : Nat) (G H : Nat → Nat) (n : Nat) (L : Nat → Nat), iT σ D ∧ iN σ D A ∧ iS σ ∧ iP σ D c nx B ∧ iI σ D z I ∧ iE σ e T Z ∧ iB σ D b G H ∧ iX σ n L ∧ iF σ
/-- a call of the class, then the same of the reference: one answer, and the invariant again -/
def gPair (x m : Nat) (as : List Value) (σ : gn_Mem) : Prop := gn_W 20 x 0 (.ref 0 :: as) [] σ (fun r1 σ1 => gn_W 20 m 0 (.ref 44 :: as) [] σ1 (fun r2 σ2 => (∃ v : Int32, r1 = some (.int v) ∧ r2 = some (.int v)) ∧ Inv σ2))
/-- the invariant doesn't look at the rooms where both reckon -/
def gScr (o : Nat) : Prop := (12 ≤ o ∧ o ≤ 21) ∨ o = 61 ∨ o = 62
theorem gT_fr {t : Nat} {σ σ' : gn_Mem} {D : gD} (h : gT t σ D) (e : ∀ o, t ≤ o → o ≤ t + 7 → σ' o = σ o) : gT t σ' D := by
  obtain ⟨h1, h2, h3, h4, h5, h6, h7, h8⟩ := h
  have e0 := e t (by omega) (by omega)
  have e1 := e (t + 1) (by omega) (by omega)
  have e2 := e (t + 2) (by omega) (by omega)
  have e3 := e (t + 3) (by omega) (by omega)
  have e4 := e (t + 4) (by omega) (by omega)
  have e5 := e (t + 5) (by omega) (by omega)
  have e6 := e (t + 6) (by omega) (by omega)
  have e7 := e (t + 7) (by omega) (by omega)
  unfold gT
  rw [e0, e1, e2, e3, e4, e5, e6, e7]
  exact ⟨h1, h2, h3, h4, h5, h6, h7, h8⟩
theorem gM_fr {σ σ' : gn_Mem} {D : gD} (h : gM σ D) (e0 : ∀ k, k = 6 ∨ k = 7 ∨ k = 8 ∨ k = 9 → σ' 44 k = σ 44 k) (e : ∀ o, 46 ≤ o → o ≤ 50 → σ' o = σ o) : gM σ' D := by
  obtain ⟨h1, h2, h3, h4, h5, h6, h7, h8⟩ := h
  unfold gM
  rw [e0 6 (by omega), e0 7 (by omega), e0 8 (by omega), e0 9 (by omega), e 46 (by omega) (by omega), e 47 (by omega) (by omega), e 48 (by omega) (by omega), e 49 (by omega) (by omega), e 50 (by omega) (by omega)]
  exact ⟨h1, h2, h3, h4, h5, h6, h7, h8⟩
theorem Inv.scr {σ σ' : gn_Mem} (h : Inv σ) (e : ∀ o, ¬ gScr o → σ' o = σ o) : Inv σ' := by
  obtain ⟨D, A, c, nx, B, z, I, ee, T, Z, b, G, H, n, L, h1, h2, h3, h4, h5, h6, h7, h8, h9⟩ := h
  have q : ∀ o, (o ≤ 11 ∨ (22 ≤ o ∧ o ≤ 60)) → σ' o = σ o := fun o ho => e o (by unfold gScr; omega)
  refine ⟨D, A, c, nx, B, z, I, ee, T, Z, b, G, H, n, L, ?_, ?_, ?_, ?_, ?_, ?_, ?_, ?_, ?_⟩
  · unfold iT at h1 ⊢
    rw [q 0 (by omega)]
    exact ⟨h1.1, h1.2.1, gT_fr h1.2.2.1 (fun o a b => q o (by omega)), gM_fr h1.2.2.2 (fun k _ => by rw [q 44 (by omega)]) (fun o a b => q o (by omega))⟩
  · unfold iN at h2 ⊢
    rw [q 4 (by omega), q 45 (by omega)]
    exact h2
  · unfold iS at h3 ⊢
    rw [q 11 (by omega), q 45 (by omega)]
    exact h3
  · unfold iP at h4 ⊢
    rw [q 5 (by omega), q 44 (by omega), q 45 (by omega), q 6 (by omega)]
    exact h4
  · unfold iI at h5 ⊢
    rw [q 7 (by omega), q 9 (by omega), q 44 (by omega), q 45 (by omega)]
    refine ⟨h5.1, h5.2.1, h5.2.2.1, fun i hi hz => ?_⟩
    have h := h5.2.2.2 i hi hz
    rw [q (8 + 2 * i) (by omega), q (7 + 2 * i) (by omega)]
    exact h
  · unfold iE at h6 ⊢
    rw [q 22 (by omega), q 44 (by omega), q 23 (by omega), q 52 (by omega), q 24 (by omega), q 53 (by omega)]
    exact h6
  · unfold iB at h7 ⊢
    rw [q 25 (by omega), q 44 (by omega), q 26 (by omega), q 54 (by omega), q 27 (by omega), q 55 (by omega)]
    exact h7
  · unfold iX at h8 ⊢
    rw [q 1 (by omega), q 44 (by omega), q 2 (by omega), q 51 (by omega)]
    exact h8
  · unfold iF at h9 ⊢
    rw [q 1 (by omega), q 44 (by omega)]
    exact h9
/-- the class's and the reference's look at a number of a guest, and what it is -/
theorem ig_eq {n : Nat} (hn : n < 1000) (g : Int32) : (¬ g < 0 ∧ ¬ nI n ≤ g) ↔ (¬ g < 0 ∧ ¬ nI n - 1 < g) := by
  constructor
  · rintro ⟨h1, h2⟩
    refine ⟨h1, fun h3 => ?_⟩
    obtain ⟨j, hj, rfl⟩ := nI_of h1
    have h4 : j < n := by
      rcases Nat.lt_or_ge j n with q | q
      · exact q
      · exact absurd (nI_le q hj) h2
    obtain ⟨m, rfl⟩ : ∃ m, n = m + 1 := ⟨n - 1, by omega⟩
    rw [nI_pred] at h3
    exact absurd h3 (nI_nlt (by omega) (by omega))
  · rintro ⟨h1, h2⟩
    refine ⟨h1, fun h3 => ?_⟩
    obtain ⟨j, hj, rfl⟩ := nI_of h1
    have h4 : n ≤ j := by
      rcases Nat.lt_or_ge j n with q | q
      · exact absurd h3 (nI_ge q (by omega))
      · exact q
    apply h2
    by_cases e : n = 0
    · subst e
      have e1 : nI 0 - 1 = -1 := by decide
      rw [e1, Int32.lt_iff_toInt_lt, nI_toInt (by omega)]
      have e2 : (-1 : Int32).toInt = -1 := by decide
      omega
    · obtain ⟨m, rfl⟩ : ∃ m, n = m + 1 := ⟨n - 1, by omega⟩
      rw [nI_pred]
      exact nI_lt (by omega) (by omega)
theorem in_of {n : Nat} (hn : n < 1000) {g : Int32} (h : ¬ g < 0 ∧ ¬ nI n ≤ g) : ∃ j, j < n ∧ g = nI j := by
  obtain ⟨j, hj, rfl⟩ := nI_of h.1
  refine ⟨j, ?_, rfl⟩
  rcases Nat.lt_or_ge j n with q | q
  · exact q
  · exact absurd (nI_le q hj) h.2
theorem gb_cong {p q : Prop} [Decidable p] [Decidable q] (h : p ↔ q) : gb p = gb q := by
  unfold gb
  by_cases hp : p
  · rw [if_pos hp, if_pos (h.mp hp)]
  · rw [if_neg hp, if_neg (fun z => hp (h.mpr z))]
theorem nI_j {j n : Nat} (hj : j < n) (hn : n < 1000) : ¬ nI j < 0 ∧ ¬ nI n ≤ nI j := ⟨nI_pos (by omega), nI_ge hj (by omega)⟩
section
variable {d : Nat} {σ : gn_Mem} {Q : Option Value → gn_Mem → Prop} {D : gD}
/-- isGuest, hasGuest: the same words -/
theorem mw_isG (hM : gM σ D) {g : Int32} (hQ : Q (some (.int (gb (¬ g < 0 ∧ ¬ nI (dG D) ≤ g)))) σ) : gn_W (d + 1) 132 0 [.ref 44, .int g] [] σ Q := by
  refine mw_isGuest hM.2.2.2.1 ?_
  have hle := hM.1.1
  rw [← gb_cong (ig_eq (by omega) g)]
  exact hQ
theorem mw_isH (hM : gM σ D) {g : Int32} (hQ : Q (some (.int (gb (¬ g < 0 ∧ ¬ nI (dH D) ≤ g)))) σ) : gn_W (d + 1) 133 0 [.ref 44, .int g] [] σ Q := by
  refine mw_isHost hM.2.2.2.2.1 ?_
  have hle := hM.1.2.1
  rw [← gb_cong (ig_eq (by omega) g)]
  exact hQ
theorem xw_isG (hT : gT 28 σ D) {g : Int32} (hQ : Q (some (.int (gb (¬ g < 0 ∧ ¬ nI (dG D) ≤ g)))) σ) : gn_W d 67 0 [.ref 28, .int g] [] σ Q := by
  refine xw_hasGuest (Or.inl rfl) ?_
  rw [hT.2.2.2.1]
  exact hQ
theorem xw_isH (hT : gT 28 σ D) {g : Int32} (hQ : Q (some (.int (gb (¬ g < 0 ∧ ¬ nI (dH D) ≤ g)))) σ) : gn_W d 68 0 [.ref 28, .int g] [] σ Q := by
  refine xw_hasHost ?_
  rw [hT.2.2.2.2.1]
  exact hQ
end
