/-! the reference's reading -/
def fm (F : Option (Nat × Nat)) (σ : gn_Mem) : Prop := match F with
  | none => σ 44 22 = 0
  | some e => σ 44 22 = nI e.1 ∧ σ 44 23 = nI e.2 ∧ 1 ≤ e.1 ∧ e.1 ≤ 3 ∧ e.2 ≤ 240
def tM (σ : gn_Mem) (n : Nat) (L : Nat → Nat) : Prop := n ≤ 240 ∧ σ 44 13 = nI n ∧ ∀ i, i < n → L i < 256 ∧ σ 51 i = nI (L i)
def mS (σ : gn_Mem) (n : Nat) (L : Nat → Nat) (a : Nat) (F : Option (Nat × Nat)) : Prop := tM σ n L ∧ fm F σ ∧ (F = none → σ 44 21 = nI a ∧ a ≤ n)
def fN (σ σ' : gn_Mem) : Prop := (∀ o, o ≠ 44 → σ' o = σ o) ∧ (∀ k, k ≠ 21 → k ≠ 22 → k ≠ 23 → σ' 44 k = σ 44 k)
theorem fN.rfl {σ : gn_Mem} : fN σ σ := ⟨fun _ _ => Eq.refl _, fun _ _ _ _ => Eq.refl _⟩
theorem fN.tr {σ σ' σ'' : gn_Mem} (h : fN σ σ') (h2 : fN σ' σ'') : fN σ σ'' := ⟨fun o ho => by rw [h2.1 o ho, h.1 o ho], fun k a b c => by rw [h2.2 k a b c, h.2 k a b c]⟩
theorem fN.up {σ : gn_Mem} {k : Nat} {x : Int32} (hk : k = 21 ∨ k = 22 ∨ k = 23) : fN σ (gn_up σ 44 k x) := ⟨fun o ho => gu_o ho, fun j a b c => gu_k (Or.inr (by omega))⟩
/-- what a clause may change -/
def fC (σ σ' : gn_Mem) : Prop := (∀ o, o ≠ 44 → ¬ (56 ≤ o ∧ o ≤ 60) → σ' o = σ o) ∧ (∀ k, ¬ (21 ≤ k ∧ k ≤ 27) → σ' 44 k = σ 44 k)
theorem fC.rfl {σ : gn_Mem} : fC σ σ := ⟨fun _ _ _ => Eq.refl _, fun _ _ => Eq.refl _⟩
theorem fC.tr {σ σ' σ'' : gn_Mem} (h : fC σ σ') (h2 : fC σ' σ'') : fC σ σ'' := ⟨fun o a b => by rw [h2.1 o a b, h.1 o a b], fun k a => by rw [h2.2 k a, h.2 k a]⟩
theorem fN.C {σ σ' : gn_Mem} (h : fN σ σ') : fC σ σ' := ⟨fun o a _ => h.1 o a, fun k a => h.2 k (by omega) (by omega) (by omega)⟩
theorem fC.up {σ : gn_Mem} {k : Nat} {x : Int32} (hk : 21 ≤ k ∧ k ≤ 27) : fC σ (gn_up σ 44 k x) := ⟨fun o ho _ => gu_o ho, fun j a => gu_k (Or.inr (by omega))⟩
theorem fC.ar {σ : gn_Mem} {o k : Nat} {x : Int32} (ho : 56 ≤ o ∧ o ≤ 60) : fC σ (gn_up σ o k x) := ⟨fun o' _ h => gu_o (by omega), fun j a => gu_k (Or.inl (by omega))⟩
def mBx (σ : gn_Mem) (D : gD) (gc : Nat) : Prop := σ 44 24 = nI (dE D) ∧ σ 44 25 = nI (dF D) ∧ σ 44 26 = nI gc ∧ σ 44 27 = nI (dH D) ∧ (∀ g, g < dG D → σ 56 g = nI (dP D g) ∧ σ 58 g = nI (dC D g)) ∧ (∀ g k, g < dG D → k < dC D g → σ 57 (6 * g + k) = nI (10 * dT D g k + dB D g k)) ∧ (∀ h, h < dH D → σ 59 h = nI (dK D h) ∧ σ 60 h = nI (dN D h))
theorem mBx.fr {σ σ' : gn_Mem} {D : gD} {gc : Nat} (h : mBx σ D gc) (e : ∀ o, 56 ≤ o → o ≤ 60 → σ' o = σ o) (e2 : ∀ k, 24 ≤ k → k ≤ 27 → σ' 44 k = σ 44 k) : mBx σ' D gc := by
  unfold mBx
  rw [e 56 (by omega) (by omega), e 57 (by omega) (by omega), e 58 (by omega) (by omega), e 59 (by omega) (by omega), e 60 (by omega) (by omega), e2 24 (by omega) (by omega), e2 25 (by omega) (by omega), e2 26 (by omega) (by omega), e2 27 (by omega) (by omega)]
  exact h
theorem mBx.N {σ σ' : gn_Mem} {D : gD} {gc : Nat} (h : mBx σ D gc) (f : fN σ σ') : mBx σ' D gc := h.fr (fun o a b => f.1 o (by omega)) (fun k a b => f.2 k (by omega) (by omega) (by omega))
section
variable {d n : Nat} {L : Nat → Nat} {σ : gn_Mem} {Q : Option Value → gn_Mem → Prop} {D : gD} {F : Option (Nat × Nat)}
theorem tM.fr {σ' : gn_Mem} (h : tM σ n L) (e1 : σ' 44 13 = σ 44 13) (e2 : σ' 51 = σ 51) : tM σ' n L := by
  unfold tM
  rw [e1, e2]
  exact h
theorem tM.l (h : tM σ n L) : ∀ i, i < n → L i < 256 := fun i hi => (h.2.2 i hi).1
theorem tM.C {σ' : gn_Mem} (h : tM σ n L) (f : fC σ σ') : tM σ' n L := h.fr (f.2 13 (by omega)) (f.1 51 (by omega) (by omega))
theorem fm.fr {σ' : gn_Mem} (h : fm F σ) (e1 : σ' 44 22 = σ 44 22) (e2 : σ' 44 23 = σ 44 23) : fm F σ' := by
  unfold fm at h ⊢
  rw [e1, e2]
  exact h
theorem mS.up {a a' : Nat} (h : mS σ n L a F) (ha : a' ≤ n) : mS (gn_up σ 44 21 (nI a')) n L a' F := ⟨h.1.fr (gu_k (by omega)) (gu_o (by omega)), h.2.1.fr (gu_k (by omega)) (gu_k (by omega)), fun _ => ⟨gu_s, ha⟩⟩
/-- stores elsewhere -/
theorem mS.o {σ' : gn_Mem} {a : Nat} (h : mS σ n L a F) (f : fC σ σ') (e1 : σ' 44 21 = σ 44 21) (e2 : σ' 44 22 = σ 44 22) (e3 : σ' 44 23 = σ 44 23) : mS σ' n L a F := ⟨h.1.C f, h.2.1.fr e2 e3, fun q => by rw [e1]; exact h.2.2 q⟩
/-- with a fault the place doesn't matter -/
theorem mS.z {σ' : gn_Mem} {a a' : Nat} {e : Nat × Nat} (h : mS σ n L a (some e)) (f : fC σ σ') (e2 : σ' 44 22 = σ 44 22) (e3 : σ' 44 23 = σ 44 23) : mS σ' n L a' (some e) := ⟨h.1.C f, h.2.1.fr e2 e3, fun q => by cases q⟩
theorem mw_fine {a : Nat} (hS : mS σ n L a F) (hQ : Q (some (.int (gb (F = none)))) σ) : gn_W d 137 0 [.ref 44] [] σ Q := by
  have hf := hS.2.1
  (repeat (first | refine gx_run 999 80 rfl ?_ | refine gx_goto rfl rfl ?_))
  cases F with
  | none =>
    have hf : σ 44 22 = 0 := hf
    rw [hf]
    rw [gb_t rfl] at hQ
    first | refine gx_iff rfl (by dsimp only [gn_cmp] <;> decide) ?_ | refine gx_icf rfl (by dsimp only [gn_cmp] <;> decide) ?_
    (repeat (first | refine gx_run 999 80 rfl ?_ | refine gx_goto rfl rfl ?_))
    refine gw_zret rfl (Or.inr rfl) ?_
    exact hQ
  | some e =>
    have hf : σ 44 22 = nI e.1 ∧ σ 44 23 = nI e.2 ∧ 1 ≤ e.1 ∧ e.1 ≤ 3 ∧ e.2 ≤ 240 := hf
    rw [hf.1]
    rw [gb_f (fun z => by cases z)] at hQ
    first | refine gx_ift rfl (nI_ne0 (by omega) (by omega)) ?_ | refine gx_ict rfl (nI_ne0 (by omega) (by omega)) ?_
    (repeat (first | refine gx_run 999 80 rfl ?_ | refine gx_goto rfl rfl ?_))
    refine gw_zret rfl (Or.inl rfl) ?_
    exact hQ
theorem mw_here : ∀ (m a : Nat) (σ : gn_Mem) (Q : Option Value → gn_Mem → Prop), n - a = m → mS σ n L a none → (∀ σ' : gn_Mem, fN σ σ' → mS σ' n L (hr L n a) none → Q (some (.int (ch L n (hr L n a)))) σ') → gn_W d 138 0 [.ref 44] [] σ Q := by
  intro m
  induction m with
  | zero =>
    intro a σ Q hm hS hQ
    have h240 := hS.1.1
    obtain ⟨h21, ha⟩ := hS.2.2 rfl
    have e : hr L n a = a := hr_stop (fun q => by omega)
    rw [e] at hQ
    have h1 := hQ σ fN.rfl hS
    rw [show ch L n a = -1 from if_neg (by omega)] at h1
    (repeat (first | refine gx_run 999 80 rfl ?_ | refine gx_goto rfl rfl ?_))
    rw [h21, hS.1.2.1]
    first | refine gx_ift rfl (nI_le (by omega) (by omega)) ?_ | refine gx_ict rfl (nI_le (by omega) (by omega)) ?_
    (repeat (first | refine gx_run 999 80 rfl ?_ | refine gx_goto rfl rfl ?_))
    rw [h21, hS.1.2.1]
    first | refine gx_ift rfl (nI_le (by omega) (by omega)) ?_ | refine gx_ict rfl (nI_le (by omega) (by omega)) ?_
    (repeat (first | refine gx_run 999 80 rfl ?_ | refine gx_goto rfl rfl ?_))
    refine gx_iret rfl rfl ?_
    exact h1
  | succ m ih =>
    intro a σ Q hm hS hQ
    have h240 := hS.1.1
    obtain ⟨h21, ha⟩ := hS.2.2 rfl
    have hL := (hS.1.2.2 a (by omega)).1
    (repeat (first | refine gx_run 999 80 rfl ?_ | refine gx_goto rfl rfl ?_))
    rw [h21, hS.1.2.1]
    first | refine gx_iff rfl (nI_ge (by omega) (by omega)) ?_ | refine gx_icf rfl (nI_ge (by omega) (by omega)) ?_
    (repeat (first | refine gx_run 999 80 rfl ?_ | refine gx_goto rfl rfl ?_))
    rw [h21]
    refine gx_ld a rfl (by omega) (hS.1.2.2 a (by omega)).2 rfl rfl rfl ?_
    (repeat (first | refine gx_run 999 80 rfl ?_ | refine gx_goto rfl rfl ?_))
    by_cases q : L a = 32
    · first | refine gx_iff rfl (fun z => z (by rw [q]; rfl)) ?_ | refine gx_icf rfl (fun z => z (by rw [q]; rfl)) ?_
      (repeat (first | refine gx_run 999 80 rfl ?_ | refine gx_goto rfl rfl ?_))
      rw [h21, nI_1]
      refine gw_goto rfl ?_
      rw [hr_step (by omega) q] at hQ
      exact ih (a + 1) _ _ (by omega) (hS.up (by omega)) (fun σ' f => hQ σ' ((fN.up (by omega)).tr f))
    · first | refine gx_ift rfl (fun z => q ((nI_eq (b := 32) (by omega) (by omega)).mp z)) ?_ | refine gx_ict rfl (fun z => q ((nI_eq (b := 32) (by omega) (by omega)).mp z)) ?_
      have e : hr L n a = a := hr_stop (fun z => q z.2)
      rw [e] at hQ
      have h1 := hQ σ fN.rfl hS
      rw [show ch L n a = nI (L a) from if_pos (by omega)] at h1
      (repeat (first | refine gx_run 999 80 rfl ?_ | refine gx_goto rfl rfl ?_))
      rw [h21, hS.1.2.1]
      first | refine gx_iff rfl (nI_ge (by omega) (by omega)) ?_ | refine gx_icf rfl (nI_ge (by omega) (by omega)) ?_
      (repeat (first | refine gx_run 999 80 rfl ?_ | refine gx_goto rfl rfl ?_))
      rw [h21]
      refine gx_ld a rfl (by omega) (hS.1.2.2 a (by omega)).2 rfl rfl rfl ?_
      (repeat (first | refine gx_run 999 80 rfl ?_ | refine gx_goto rfl rfl ?_))
      refine gx_iret rfl rfl ?_
      exact h1
theorem mw_wrong {a x y : Nat} (hS : mS σ n L a none) (hx : 1 ≤ x ∧ x ≤ 3) (hy : y ≤ n) (hQ : ∀ σ' : gn_Mem, fN σ σ' → mS σ' n L 0 (some (x, y)) → Q none σ') : gn_W d 136 0 [.ref 44, .int (nI x), .int (nI y)] [] σ Q := by
  have h240 := hS.1.1
  have hf : σ 44 22 = 0 := hS.2.1
  (repeat (first | refine gx_run 999 80 rfl ?_ | refine gx_goto rfl rfl ?_))
  rw [hf]
  first | refine gx_iff rfl (by dsimp only [gn_cmp] <;> decide) ?_ | refine gx_icf rfl (by dsimp only [gn_cmp] <;> decide) ?_
  (repeat (first | refine gx_run 999 80 rfl ?_ | refine gx_goto rfl rfl ?_))
  refine gw_vret rfl ?_
  refine hQ _ ((fN.up (by omega)).tr (fN.up (by omega))) ⟨hS.1.fr (by rw [gu_k (by omega), gu_k (by omega)]) (by rw [gu_o (by omega), gu_o (by omega)]), ?_, fun q => by cases q⟩
  exact ⟨by rw [gu_k (by omega), gu_s], by rw [gu_s], hx.1, hx.2, by show y ≤ 240; omega⟩
theorem mw_numL {p hi : Nat} : ∀ (m a w : Nat) (σ : gn_Mem), n - a = m → p ≤ a → mS σ n L a none → w < 10000 → (a - p ≤ 4 → w = dv L p (a - p) ∧ w < 10 ^ (a - p)) → (∀ (σ' : gn_Mem) (w' : Nat), fN σ σ' → mS σ' n L (fg L n a) none → w' < 10000 → (fg L n a - p ≤ 4 → w' = dv L p (fg L n a - p)) → gn_W (d + 1) 139 116 [.ref 44, .int (nI hi), .int (nI p), .int (nI w')] [] σ' Q) → gn_W (d + 1) 139 41 [.ref 44, .int (nI hi), .int (nI p), .int (nI w)] [] σ Q := by
  intro m
  induction m with
  | zero =>
    intro a w σ hm hp hS hw hv hQ
    have h240 := hS.1.1
    obtain ⟨h21, ha⟩ := hS.2.2 rfl
    rw [fg_stop (fun q => by omega)] at hQ
    (repeat (first | refine gx_run 999 80 rfl ?_ | refine gx_goto rfl rfl ?_))
    rw [h21, hS.1.2.1]
    first | refine gx_ift rfl (nI_le (by omega) (by omega)) ?_ | refine gx_ict rfl (nI_le (by omega) (by omega)) ?_
    exact hQ σ w fN.rfl hS hw (fun q => (hv q).1)
  | succ m ih =>
    intro a w σ hm hp hS hw hv hQ
    have h240 := hS.1.1
    obtain ⟨h21, ha⟩ := hS.2.2 rfl
    have hL := hS.1.2.2 a (by omega)
    have hc : ch L n a = nI (L a) := if_pos (by omega)
    (repeat (first | refine gx_run 999 80 rfl ?_ | refine gx_goto rfl rfl ?_))
    rw [h21, hS.1.2.1]
    first | refine gx_iff rfl (nI_ge (by omega) (by omega)) ?_ | refine gx_icf rfl (nI_ge (by omega) (by omega)) ?_
    (repeat (first | refine gx_run 999 80 rfl ?_ | refine gx_goto rfl rfl ?_))
    rw [h21]
    refine gx_ld a rfl (by omega) hL.2 rfl rfl rfl ?_
    (repeat (first | refine gx_run 999 80 rfl ?_ | refine gx_goto rfl rfl ?_))
    refine gw_calls rfl rfl rfl ?_
    refine mw_in ?_
    (repeat (first | refine gx_run 999 80 rfl ?_ | refine gx_goto rfl rfl ?_))
    rw [← hc]
    by_cases q : fig (L a)
    · rw [gb_t ((ch_fig hS.1.l).mpr ⟨by omega, q⟩)]
      first | refine gx_iff rfl (by dsimp only [gn_cmp] <;> decide) ?_ | refine gx_icf rfl (by dsimp only [gn_cmp] <;> decide) ?_
      have q1 := q.1
      have q2 := q.2
      (repeat (first | refine gx_run 999 80 rfl ?_ | refine gx_goto rfl rfl ?_))
      rw [h21, pk_sub hp]
      rw [fg_step (by omega) q] at hQ
      by_cases h4 : a - p < 4
      · first | refine gx_iff rfl (nI_ge (b := 4) h4 (by omega)) ?_ | refine gx_icf rfl (nI_ge (b := 4) h4 (by omega)) ?_
        (repeat (first | refine gx_run 999 80 rfl ?_ | refine gx_goto rfl rfl ?_))
        rw [h21]
        refine gx_ld a rfl (by omega) hL.2 rfl rfl rfl ?_
        (repeat (first | refine gx_run 999 80 rfl ?_ | refine gx_goto rfl rfl ?_))
        rw [show 10 * nI w + nI (L a) - 48 = nI (10 * w + (L a - 48)) by
          rw [show (10 : Int32) = nI 10 from rfl, pk_mul, nI_add, show (48 : Int32) = nI 48 from rfl, pk_sub (by omega)]
          congr 1
          omega]
        rw [h21, nI_1]
        refine gw_goto rfl ?_
        obtain ⟨j, hj⟩ : ∃ j, a = p + j := ⟨a - p, by omega⟩
        subst hj
        have hv2 := hv (by omega)
        rw [show p + j - p = j by omega] at hv2
        have e10 : 10 ^ (j + 1) = 10 * 10 ^ j := by rw [Nat.pow_succ, Nat.mul_comm]
        have e1000 : 10 ^ (j + 1) ≤ 10000 := Nat.le_trans (show 10 ^ (j + 1) ≤ 10 ^ 4 from Nat.pow_le_pow_right (by omega) (by omega)) (by decide)
        refine ih (p + j + 1) _ _ (by omega) (by omega) (hS.up (by omega)) (by omega) (fun z => ?_) (fun σ' w' f => hQ σ' w' ((fN.up (by omega)).tr f))
        rw [show p + j + 1 - p = j + 1 by omega]
        refine ⟨?_, by omega⟩
        show _ = 10 * dv L p j + (L (p + j) - 48)
        rw [← hv2.1]
      · first | refine gx_ift rfl (nI_le (a := 4) (by omega) (by omega)) ?_ | refine gx_ict rfl (nI_le (a := 4) (by omega) (by omega)) ?_
        (repeat (first | refine gx_run 999 80 rfl ?_ | refine gx_goto rfl rfl ?_))
        rw [h21, nI_1]
        refine gw_goto rfl ?_
        exact ih (a + 1) w _ (by omega) (by omega) (hS.up (by omega)) hw (fun z => by omega) (fun σ' w' f => hQ σ' w' ((fN.up (by omega)).tr f))
    · rw [gb_f (fun z => q ((ch_fig hS.1.l).mp z).2)]
      first | refine gx_ift rfl (by dsimp only [gn_cmp] <;> decide) ?_ | refine gx_ict rfl (by dsimp only [gn_cmp] <;> decide) ?_
      rw [fg_stop (fun z => q z.2)] at hQ
      exact hQ σ w fN.rfl hS hw (fun q => (hv q).1)
theorem mw_number {a hi : Nat} (hh : hi ≤ 255) (hS : mS σ n L a none) (hQ1 : ∀ (σ' : gn_Mem) (v q : Nat), numS L n hi a = .inr (v, q) → fN σ σ' → mS σ' n L q none → Q (some (.int (nI v))) σ') (hQ2 : ∀ (σ' : gn_Mem) (e : Nat × Nat) (x : Int32), numS L n hi a = .inl e → fN σ σ' → mS σ' n L 0 (some e) → Q (some (.int x)) σ') : gn_W (d + 2) 139 0 [.ref 44, .int (nI hi)] [] σ Q := by
  have h240 := hS.1.1
  obtain ⟨h21, ha⟩ := hS.2.2 rfl
  have hl := hr_le (L := L) ha
  (repeat (first | refine gx_run 999 80 rfl ?_ | refine gx_goto rfl rfl ?_))
  refine gx_call rfl rfl rfl ?_
  refine mw_fine hS ?_
  rw [gb_t rfl]
  (repeat (first | refine gx_run 999 80 rfl ?_ | refine gx_goto rfl rfl ?_))
  first | refine gx_ift rfl (by dsimp only [gn_cmp] <;> decide) ?_ | refine gx_ict rfl (by dsimp only [gn_cmp] <;> decide) ?_
  (repeat (first | refine gx_run 999 80 rfl ?_ | refine gx_goto rfl rfl ?_))
  refine gx_call rfl rfl rfl ?_
  refine mw_here _ a σ _ rfl hS ?_
  intro σ1 f1 hS1
  obtain ⟨g21, -⟩ := hS1.2.2 rfl
  (repeat (first | refine gx_run 999 80 rfl ?_ | refine gx_goto rfl rfl ?_))
  refine gw_calls rfl rfl rfl ?_
  refine mw_in ?_
  (repeat (first | refine gx_run 999 80 rfl ?_ | refine gx_goto rfl rfl ?_))
  by_cases q : hr L n a < n ∧ fig (L (hr L n a))
  · rw [gb_t ((ch_fig hS.1.l).mpr q)]
    first | refine gx_ift rfl (by dsimp only [gn_cmp] <;> decide) ?_ | refine gx_ict rfl (by dsimp only [gn_cmp] <;> decide) ?_
    (refine gw_run 41 80 rfl ?_)
    rw [g21]
    refine mw_numL _ (hr L n a) 0 σ1 rfl (Nat.le_refl _) hS1 (by omega) (fun _ => by rw [Nat.sub_self]; exact ⟨rfl, by decide⟩) ?_
    intro σ2 w f2 hS2 hw hv
    obtain ⟨k21, hq⟩ := hS2.2.2 rfl
    have hf := fg_le (L := L) hl.2
    (repeat (first | refine gx_run 999 80 rfl ?_ | refine gx_goto rfl rfl ?_))
    rw [k21, pk_sub hf.1]
    by_cases z : 3 < fg L n (hr L n a) - hr L n a ∨ hi < w
    · have hnum : numS L n hi a = .inl (2, hr L n a) := by
        unfold numS
        rw [if_pos q, if_pos]
        rcases z with z | z
        · exact Or.inl z
        · by_cases z2 : 3 < fg L n (hr L n a) - hr L n a
          · exact Or.inl z2
          · rw [← hv (by omega)]; exact Or.inr z
      have fin : gn_W (d + 2) 139 131 [.ref 44, .int (nI hi), .int (nI (hr L n a)), .int (nI w)] [] σ2 Q := by
        (repeat (first | refine gx_run 999 80 rfl ?_ | refine gx_goto rfl rfl ?_))
        refine gx_call rfl rfl rfl ?_
        refine mw_wrong (x := 2) hS2 ⟨by omega, by omega⟩ hl.2 ?_
        intro σ3 f3 hS3
        (repeat (first | refine gx_run 999 80 rfl ?_ | refine gx_goto rfl rfl ?_))
        refine gx_iret rfl rfl ?_
        exact hQ2 σ3 _ _ hnum ((f1.tr f2).tr f3) hS3
      by_cases z1 : 3 < fg L n (hr L n a) - hr L n a
      · first | refine gx_ift rfl (nI_lt (a := 3) z1 (by omega)) ?_ | refine gx_ict rfl (nI_lt (a := 3) z1 (by omega)) ?_
        exact fin
      · first | refine gx_iff rfl (nI_nlt (a := 3) (by omega) (by omega)) ?_ | refine gx_icf rfl (nI_nlt (a := 3) (by omega) (by omega)) ?_
        (repeat (first | refine gx_run 999 80 rfl ?_ | refine gx_goto rfl rfl ?_))
        first | refine gx_iff rfl (nI_ge (by omega) (by omega)) ?_ | refine gx_icf rfl (nI_ge (by omega) (by omega)) ?_
        exact fin
    · have z1 : ¬ 3 < fg L n (hr L n a) - hr L n a := fun z2 => z (Or.inl z2)
      have z2 : ¬ hi < w := fun z2 => z (Or.inr z2)
      have hnum : numS L n hi a = .inr (w, fg L n (hr L n a)) := by
        unfold numS
        rw [if_pos q, ← hv (by omega), if_neg z]
      first | refine gx_iff rfl (nI_nlt (a := 3) (by omega) (by omega)) ?_ | refine gx_icf rfl (nI_nlt (a := 3) (by omega) (by omega)) ?_
      (repeat (first | refine gx_run 999 80 rfl ?_ | refine gx_goto rfl rfl ?_))
      first | refine gx_ift rfl (nI_le (by omega) (by omega)) ?_ | refine gx_ict rfl (nI_le (by omega) (by omega)) ?_
      (repeat (first | refine gx_run 999 80 rfl ?_ | refine gx_goto rfl rfl ?_))
      refine gx_iret rfl rfl ?_
      exact hQ1 σ2 _ _ hnum (f1.tr f2) hS2
  · rw [gb_f (fun z => q ((ch_fig hS.1.l).mp z))]
    first | refine gx_iff rfl (by dsimp only [gn_cmp] <;> decide) ?_ | refine gx_icf rfl (by dsimp only [gn_cmp] <;> decide) ?_
    (repeat (first | refine gx_run 999 80 rfl ?_ | refine gx_goto rfl rfl ?_))
    rw [g21]
    refine gx_call rfl rfl rfl ?_
    refine mw_wrong (x := 1) hS1 ⟨by omega, by omega⟩ hl.2 ?_
    intro σ3 f3 hS3
    (repeat (first | refine gx_run 999 80 rfl ?_ | refine gx_goto rfl rfl ?_))
    refine gx_iret rfl rfl ?_
    have hnum : numS L n hi a = .inl (1, hr L n a) := by
      unfold numS
      rw [if_neg q]
    exact hQ2 σ3 _ _ hnum (f1.tr f3) hS3
theorem mw_numberF {a : Nat} {x : Int32} {e : Nat × Nat} (hS : mS σ n L a (some e)) (hQ : Q (some (.int 0)) σ) : gn_W (d + 1) 139 0 [.ref 44, .int x] [] σ Q := by
  (repeat (first | refine gx_run 999 80 rfl ?_ | refine gx_goto rfl rfl ?_))
  refine gx_call rfl rfl rfl ?_
  refine mw_fine hS ?_
  rw [gb_f (fun z => by cases z)]
  (repeat (first | refine gx_run 999 80 rfl ?_ | refine gx_goto rfl rfl ?_))
  first | refine gx_iff rfl (by dsimp only [gn_cmp] <;> decide) ?_ | refine gx_icf rfl (by dsimp only [gn_cmp] <;> decide) ?_
  (repeat (first | refine gx_run 999 80 rfl ?_ | refine gx_goto rfl rfl ?_))
  refine gx_iret rfl rfl ?_
  exact hQ
end
