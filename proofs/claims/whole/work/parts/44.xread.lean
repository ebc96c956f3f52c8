/-! the class's Reader -/
def ch (L : Nat → Nat) (n p : Nat) : Int32 := if p < n then nI (L p) else -1
def fE (F : Option (Nat × Nat)) (x y : Int32) : Prop := match F with
  | none => x = 0 ∧ y = -1
  | some e => x = nI e.1 ∧ y = nI e.2 ∧ 1 ≤ e.1 ∧ e.1 ≤ 3 ∧ e.2 ≤ 240
def tX (σ : gn_Mem) (n : Nat) (L : Nat → Nat) : Prop := n ≤ 240 ∧ σ 1 1 = nI n ∧ ∀ i, i < n → L i < 256 ∧ σ 2 i = nI (L i)
def xS (σ : gn_Mem) (n : Nat) (L : Nat → Nat) (a : Nat) (F : Option (Nat × Nat)) : Prop := tX σ n L ∧ σ 1 2 = nI a ∧ a ≤ n ∧ fE F (σ 1 3) (σ 1 4)
def bl (F : Option (Nat × Nat)) (e : Nat × Nat) : Option (Nat × Nat) := match F with
  | none => some e
  | some e' => some e'
def nmP {α : Type} (F F' : Option (Nat × Nat)) (r : rE α) (y : α) : Prop := (F = none → (r = .inr y ∧ F' = none) ∨ (∃ e, r = .inl e ∧ F' = some e)) ∧ (∀ e, F = some e → F' = some e)
def trk {α : Type} (F : Option (Nat × Nat)) (R cont : rE α) : Prop := (F = none → R = cont) ∧ (∀ e, F = some e → R = .inl e)
theorem trk_num {α β : Type} {F F' : Option (Nat × Nat)} {R : rE β} {r : rE α} {y : α} {k : α → rE β} (h : trk F R (bnd r k)) (h2 : nmP F F' r y) : trk F' R (k y) := by
  cases F with
  | none =>
    rcases h2.1 rfl with ⟨e1, e2⟩ | ⟨e, e1, e2⟩
    · subst e2
      have := h.1 rfl
      rw [e1] at this
      exact ⟨fun _ => this, fun e q => by cases q⟩
    · subst e2
      have := h.1 rfl
      rw [e1] at this
      exact ⟨fun q => (by cases q), fun e' q => by cases q; exact this⟩
  | some e =>
    have e2 := h2.2 e rfl
    subst e2
    exact ⟨fun q => (by cases q), fun e' q => by cases q; exact h.2 e rfl⟩
theorem trk_fin {β : Type} {F F' : Option (Nat × Nat)} {R r : rE β} {y : β} (h : trk F R r) (h2 : nmP F F' r y) : trk F' R (.inr y) := by
  refine trk_num (r := r) (k := Sum.inr) ?_ h2
  rw [show bnd r Sum.inr = r by cases r <;> rfl]
  exact h
theorem ch_fig {L : Nat → Nat} {n p : Nat} (hL : ∀ i, i < n → L i < 256) : (¬ ch L n p < 48 ∧ ¬ 57 < ch L n p) ↔ (p < n ∧ fig (L p)) := by
  unfold ch
  by_cases h : p < n
  · rw [if_pos h]
    have h2 := hL p h
    have e1 : (nI (L p) < 48) ↔ L p < 48 := nI_ltI (b := 48) (by omega) (by omega)
    have e2 : (57 < nI (L p)) ↔ 57 < L p := nI_ltI (a := 57) (by omega) (by omega)
    rw [e1, e2]
    constructor
    · intro q; exact ⟨h, by omega, by omega⟩
    · intro q
      have := q.2.1
      have := q.2.2
      omega
  · rw [if_neg h]
    constructor
    · intro q; exact absurd (by decide) q.1
    · intro q; exact absurd q.1 h
theorem ch_eq {L : Nat → Nat} {n p c : Nat} (hL : ∀ i, i < n → L i < 256) (hc : c < 256) : ch L n p = nI c ↔ (p < n ∧ L p = c) := by
  unfold ch
  by_cases h : p < n
  · rw [if_pos h]
    have h2 := hL p h
    rw [nI_eq (by omega) (by omega)]
    exact ⟨fun q => ⟨h, q⟩, fun q => q.2⟩
  · rw [if_neg h]
    constructor
    · intro q; exact absurd q.symm (nI_ne1 (by omega))
    · intro q; exact absurd q.1 h
theorem ch_end {L : Nat → Nat} {n p : Nat} (hL : ∀ i, i < n → L i < 256) : ch L n p = -1 ↔ ¬ p < n := by
  unfold ch
  by_cases h : p < n
  · rw [if_pos h]
    have h2 := hL p h
    exact ⟨fun q => absurd q (nI_ne1 (by omega)), fun q => absurd h q⟩
  · rw [if_neg h]
    exact ⟨fun _ => h, fun _ => rfl⟩
section
variable {d n : Nat} {L : Nat → Nat} {σ : gn_Mem} {Q : Option Value → gn_Mem → Prop} {D : gD} {F : Option (Nat × Nat)}
theorem tX.fr {σ' : gn_Mem} (h : tX σ n L) (e1 : σ' 1 1 = σ 1 1) (e2 : σ' 2 = σ 2) : tX σ' n L := by
  unfold tX
  rw [e1, e2]
  exact h
theorem tX.l (h : tX σ n L) : ∀ i, i < n → L i < 256 := fun i hi => (h.2.2 i hi).1
theorem xw_letterAt (hX : tX σ n L) {a : Nat} (ha : a ≤ n) (hQ : Q (some (.int (ch L n a))) σ) : gn_W d 60 0 [.ref 1, .int (nI a)] [] σ Q := by
  have h240 := hX.1
  (repeat (first | refine gx_run 999 80 rfl ?_ | refine gx_goto rfl rfl ?_))
  first | refine gx_iff rfl (nI_pos (by omega)) ?_ | refine gx_icf rfl (nI_pos (by omega)) ?_
  (repeat (first | refine gx_run 999 80 rfl ?_ | refine gx_goto rfl rfl ?_))
  rw [hX.2.1]
  unfold ch at hQ
  by_cases h : a < n
  · rw [if_pos h] at hQ
    first | refine gx_iff rfl (nI_ge h (by omega)) ?_ | refine gx_icf rfl (nI_ge h (by omega)) ?_
    (repeat (first | refine gx_run 999 80 rfl ?_ | refine gx_goto rfl rfl ?_))
    first | refine gx_iff rfl (nI_ge (b := 240) (by omega) (by omega)) ?_ | refine gx_icf rfl (nI_ge (b := 240) (by omega) (by omega)) ?_
    (repeat (first | refine gx_run 999 80 rfl ?_ | refine gx_goto rfl rfl ?_))
    refine gx_ld a rfl (by omega) (hX.2.2 a h).2 rfl rfl rfl ?_
    (repeat (first | refine gx_run 999 80 rfl ?_ | refine gx_goto rfl rfl ?_))
    refine gx_iret rfl rfl ?_
    exact hQ
  · rw [if_neg h] at hQ
    first | refine gx_ift rfl (nI_le (by omega) (by omega)) ?_ | refine gx_ict rfl (nI_le (by omega) (by omega)) ?_
    (repeat (first | refine gx_run 999 80 rfl ?_ | refine gx_goto rfl rfl ?_))
    refine gx_iret rfl rfl ?_
    exact hQ
/-- a step on -/
theorem xS.at {σ' : gn_Mem} {a a' : Nat} (h : xS σ n L a F) (f : ∀ o, o ≠ 1 → σ' o = σ o) (fk : ∀ k, k ≠ 2 → σ' 1 k = σ 1 k) (e : σ' 1 2 = nI a') (ha : a' ≤ n) : xS σ' n L a' F :=
  ⟨h.1.fr (fk 1 (by omega)) (f 2 (by omega)), e, ha, by rw [fk 3 (by omega), fk 4 (by omega)]; exact h.2.2.2⟩
theorem xS.up {a a' : Nat} (h : xS σ n L a F) (ha : a' ≤ n) : xS (gn_up σ 1 2 (nI a')) n L a' F := h.at (fun o ho => gu_o ho) (fun k hk => gu_k (Or.inr hk)) gu_s ha
theorem xw_nextWord : ∀ (m a : Nat) (σ : gn_Mem) (Q : Option Value → gn_Mem → Prop), n - a = m → xS σ n L a F → (∀ σ' : gn_Mem, (∀ o, o ≠ 1 → σ' o = σ o) → xS σ' n L (hr L n a) F → Q (some (.int (ch L n (hr L n a)))) σ') → gn_W (d + 1) 59 0 [.ref 1] [] σ Q := by
  intro m
  induction m with
  | zero =>
    intro a σ Q hm hS hQ
    have h240 := hS.1.1
    have ha := hS.2.2.1
    have e : hr L n a = a := hr_stop (fun q => by omega)
    rw [e] at hQ
    (repeat (first | refine gx_run 999 80 rfl ?_ | refine gx_goto rfl rfl ?_))
    rw [hS.2.1, hS.1.2.1]
    first | refine gx_ift rfl (nI_le (by omega) (by omega)) ?_ | refine gx_ict rfl (nI_le (by omega) (by omega)) ?_
    (repeat (first | refine gx_run 999 80 rfl ?_ | refine gx_goto rfl rfl ?_))
    rw [hS.2.1]
    refine gx_call rfl rfl rfl ?_
    refine xw_letterAt hS.1 ha ?_
    (repeat (first | refine gx_run 999 80 rfl ?_ | refine gx_goto rfl rfl ?_))
    refine gx_iret rfl rfl ?_
    exact hQ σ (fun _ _ => rfl) hS
  | succ m ih =>
    intro a σ Q hm hS hQ
    have h240 := hS.1.1
    have ha := hS.2.2.1
    (repeat (first | refine gx_run 999 80 rfl ?_ | refine gx_goto rfl rfl ?_))
    rw [hS.2.1, hS.1.2.1]
    first | refine gx_iff rfl (nI_ge (by omega) (by omega)) ?_ | refine gx_icf rfl (nI_ge (by omega) (by omega)) ?_
    (repeat (first | refine gx_run 999 80 rfl ?_ | refine gx_goto rfl rfl ?_))
    rw [hS.2.1]
    refine gx_call rfl rfl rfl ?_
    refine xw_letterAt hS.1 ha ?_
    (repeat (first | refine gx_run 999 80 rfl ?_ | refine gx_goto rfl rfl ?_))
    by_cases q : L a = 32
    · first | refine gx_iff rfl (fun z => z ((ch_eq hS.1.l (c := 32) (by omega)).mpr ⟨by omega, q⟩)) ?_ | refine gx_icf rfl (fun z => z ((ch_eq hS.1.l (c := 32) (by omega)).mpr ⟨by omega, q⟩)) ?_
      (repeat (first | refine gx_run 999 80 rfl ?_ | refine gx_goto rfl rfl ?_))
      rw [hS.2.1, nI_1]
      refine gw_goto rfl ?_
      rw [hr_step (by omega) q] at hQ
      exact ih (a + 1) _ _ (by omega) (hS.up (by omega)) (fun σ' f => hQ σ' (fun o ho => by rw [f o ho, gu_o ho]))
    · first | refine gx_ift rfl (fun z => q ((ch_eq hS.1.l (c := 32) (by omega)).mp z).2) ?_ | refine gx_ict rfl (fun z => q ((ch_eq hS.1.l (c := 32) (by omega)).mp z).2) ?_
      have e : hr L n a = a := hr_stop (fun z => q z.2)
      rw [e] at hQ
      (repeat (first | refine gx_run 999 80 rfl ?_ | refine gx_goto rfl rfl ?_))
      rw [hS.2.1]
      refine gx_call rfl rfl rfl ?_
      refine xw_letterAt hS.1 ha ?_
      (repeat (first | refine gx_run 999 80 rfl ?_ | refine gx_goto rfl rfl ?_))
      refine gx_iret rfl rfl ?_
      exact hQ σ (fun _ _ => rfl) hS
theorem xw_isFigure {x : Int32} (hQ : Q (some (.int (gb (¬ x < 48 ∧ ¬ 57 < x)))) σ) : gn_W d 61 0 [.int x] [] σ Q := by
  (repeat (first | refine gx_run 999 80 rfl ?_ | refine gx_goto rfl rfl ?_))
  by_cases h1 : x < 48
  · first | refine gx_ift rfl (h1) ?_ | refine gx_ict rfl (h1) ?_
    (repeat (first | refine gx_run 999 80 rfl ?_ | refine gx_goto rfl rfl ?_))
    refine gw_zret rfl (Or.inl rfl) ?_
    rw [gb_f (fun q => q.1 h1)] at hQ
    exact hQ
  · first | refine gx_iff rfl (h1) ?_ | refine gx_icf rfl (h1) ?_
    (repeat (first | refine gx_run 999 80 rfl ?_ | refine gx_goto rfl rfl ?_))
    by_cases h2 : 57 < x
    · first | refine gx_ift rfl (h2) ?_ | refine gx_ict rfl (h2) ?_
      (repeat (first | refine gx_run 999 80 rfl ?_ | refine gx_goto rfl rfl ?_))
      refine gw_zret rfl (Or.inl rfl) ?_
      rw [gb_f (fun q => q.2 h2)] at hQ
      exact hQ
    · first | refine gx_iff rfl (h2) ?_ | refine gx_icf rfl (h2) ?_
      (repeat (first | refine gx_run 999 80 rfl ?_ | refine gx_goto rfl rfl ?_))
      refine gw_zret rfl (Or.inr rfl) ?_
      rw [gb_t ⟨h1, h2⟩] at hQ
      exact hQ
theorem xw_blame {a x y : Nat} (hS : xS σ n L a F) (hx : 1 ≤ x ∧ x ≤ 3) (hy : y ≤ n) (hQ : ∀ σ' : gn_Mem, (∀ o, o ≠ 1 → σ' o = σ o) → xS σ' n L a (bl F (x, y)) → Q none σ') : gn_W d 62 0 [.ref 1, .int (nI x), .int (nI y)] [] σ Q := by
  have h240 := hS.1.1
  have hf := hS.2.2.2
  (repeat (first | refine gx_run 999 80 rfl ?_ | refine gx_goto rfl rfl ?_))
  cases F with
  | none =>
    have hf : σ 1 3 = 0 ∧ σ 1 4 = -1 := hf
    rw [hf.1]
    first | refine gx_iff rfl (by dsimp only [gn_cmp] <;> decide) ?_ | refine gx_icf rfl (by dsimp only [gn_cmp] <;> decide) ?_
    (repeat (first | refine gx_run 999 80 rfl ?_ | refine gx_goto rfl rfl ?_))
    refine gw_vret rfl ?_
    refine hQ _ (fun o ho => by rw [gu_o ho, gu_o ho]) ⟨hS.1.fr (by rw [gu_k (by omega), gu_k (by omega)]) (by rw [gu_o (by omega), gu_o (by omega)]), by rw [gu_k (by omega), gu_k (by omega)]; exact hS.2.1, hS.2.2.1, ?_⟩
    exact ⟨by rw [gu_k (by omega), gu_s], by rw [gu_s], hx.1, hx.2, by show y ≤ 240; omega⟩
  | some e =>
    have hf : σ 1 3 = nI e.1 ∧ σ 1 4 = nI e.2 ∧ 1 ≤ e.1 ∧ e.1 ≤ 3 ∧ e.2 ≤ 240 := hf
    rw [hf.1]
    first | refine gx_ift rfl (nI_ne0 (by omega) (by omega)) ?_ | refine gx_ict rfl (nI_ne0 (by omega) (by omega)) ?_
    refine gw_vret rfl ?_
    exact hQ σ (fun _ _ => rfl) hS
/-- the loop over the figures -/
theorem xw_numL {p hi : Nat} {c : Int32} : ∀ (m a w : Nat) (σ : gn_Mem), n - a = m → p ≤ a → xS σ n L a F → w ≤ 1000 → (a - p ≤ 3 → w = dv L p (a - p) ∧ w < 10 ^ (a - p)) → (∀ (σ' : gn_Mem) (w' : Nat), (∀ o, o ≠ 1 → σ' o = σ o) → xS σ' n L (fg L n a) F → w' ≤ 1000 → (fg L n a - p ≤ 3 → w' = dv L p (fg L n a - p)) → gn_W (d + 1) 58 94 [.ref 1, .int (nI hi), .int c, .int (nI p), .int (nI w')] [] σ' Q) → gn_W (d + 1) 58 31 [.ref 1, .int (nI hi), .int c, .int (nI p), .int (nI w)] [] σ Q := by
  intro m
  induction m with
  | zero =>
    intro a w σ hm hp hS hw hv hQ
    have h240 := hS.1.1
    have ha := hS.2.2.1
    rw [fg_stop (fun q => by omega)] at hQ
    (repeat (first | refine gx_run 999 80 rfl ?_ | refine gx_goto rfl rfl ?_))
    rw [hS.2.1, hS.1.2.1]
    first | refine gx_ift rfl (nI_le (by omega) (by omega)) ?_ | refine gx_ict rfl (nI_le (by omega) (by omega)) ?_
    exact hQ σ w (fun _ _ => rfl) hS hw (fun q => (hv q).1)
  | succ m ih =>
    intro a w σ hm hp hS hw hv hQ
    have h240 := hS.1.1
    have ha := hS.2.2.1
    (repeat (first | refine gx_run 999 80 rfl ?_ | refine gx_goto rfl rfl ?_))
    rw [hS.2.1, hS.1.2.1]
    first | refine gx_iff rfl (nI_ge (by omega) (by omega)) ?_ | refine gx_icf rfl (nI_ge (by omega) (by omega)) ?_
    (repeat (first | refine gx_run 999 80 rfl ?_ | refine gx_goto rfl rfl ?_))
    rw [hS.2.1]
    refine gx_call rfl rfl rfl ?_
    refine xw_letterAt hS.1 ha ?_
    (repeat (first | refine gx_run 999 80 rfl ?_ | refine gx_goto rfl rfl ?_))
    refine gw_calls rfl rfl rfl ?_
    refine xw_isFigure ?_
    (repeat (first | refine gx_run 999 80 rfl ?_ | refine gx_goto rfl rfl ?_))
    by_cases q : fig (L a)
    · rw [gb_t ((ch_fig hS.1.l).mpr ⟨by omega, q⟩)]
      first | refine gx_iff rfl (by dsimp only [gn_cmp] <;> decide) ?_ | refine gx_icf rfl (by dsimp only [gn_cmp] <;> decide) ?_
      (repeat (first | refine gx_run 999 80 rfl ?_ | refine gx_goto rfl rfl ?_))
      rw [hS.2.1]
      refine gx_call rfl rfl rfl ?_
      refine xw_letterAt hS.1 ha ?_
      have q1 := q.1
      have q2 := q.2
      (repeat (first | refine gx_run 999 80 rfl ?_ | refine gx_goto rfl rfl ?_))
      rw [show ch L n a = nI (L a) from if_pos (by omega), show nI w * 10 + nI (L a) - 48 = nI (10 * w + (L a - 48)) by
        rw [show (10 : Int32) = nI 10 from rfl, pk_mul, nI_add, show (48 : Int32) = nI 48 from rfl, pk_sub (by omega)]
        congr 1
        omega]
      rw [hS.2.1, nI_1]
      have e : (if nI (10 * w + (L a - 48)) < 1000 then nI (10 * w + (L a - 48)) else 1000) = nI (if 10 * w + (L a - 48) < 1000 then 10 * w + (L a - 48) else 1000) := by
        by_cases z : 10 * w + (L a - 48) < 1000
        · rw [if_pos z, if_pos (show nI (10 * w + (L a - 48)) < 1000 from nI_lt (b := 1000) z (by omega))]
        · rw [if_neg z, if_neg (show ¬ nI (10 * w + (L a - 48)) < 1000 from nI_nlt (b := 1000) (by omega) (by omega))]; rfl
      rw [e]
      refine gw_goto rfl ?_
      rw [fg_step (by omega) q] at hQ
      refine ih (a + 1) _ _ (by omega) (by omega) (hS.up (by omega)) (by split <;> omega) (fun z => ?_) (fun σ' w' f => hQ σ' w' (fun o ho => by rw [f o ho, gu_o ho]))
      obtain ⟨j, hj⟩ : ∃ j, a = p + j := ⟨a - p, by omega⟩
      subst hj
      have hv2 := hv (by omega)
      rw [show p + j - p = j by omega] at hv2
      have e10 : 10 ^ (j + 1) = 10 * 10 ^ j := by rw [Nat.pow_succ, Nat.mul_comm]
      have e1000 : 10 ^ (j + 1) ≤ 1000 := Nat.le_trans (show 10 ^ (j + 1) ≤ 10 ^ 3 from Nat.pow_le_pow_right (by omega) (by omega)) (by decide)
      rw [show p + j + 1 - p = j + 1 by omega, if_pos (by omega)]
      refine ⟨?_, by omega⟩
      show _ = 10 * dv L p j + (L (p + j) - 48)
      rw [← hv2.1]
    · rw [gb_f (fun z => q ((ch_fig hS.1.l).mp z).2)]
      first | refine gx_ift rfl (by dsimp only [gn_cmp] <;> decide) ?_ | refine gx_ict rfl (by dsimp only [gn_cmp] <;> decide) ?_
      rw [fg_stop (fun z => q z.2)] at hQ
      exact hQ σ w (fun _ _ => rfl) hS hw (fun q => (hv q).1)
theorem xw_readNumber {a hi : Nat} (hh : hi ≤ 255) (hS : xS σ n L a F) (hQ : ∀ (σ' : gn_Mem) (a' : Nat) (F' : Option (Nat × Nat)) (v : Nat), (∀ o, o ≠ 1 → σ' o = σ o) → xS σ' n L a' F' → v ≤ hi → nmP F F' (numS L n hi a) (v, a') → Q (some (.int (nI v))) σ') : gn_W (d + 2) 58 0 [.ref 1, .int (nI hi)] [] σ Q := by
  have h240 := hS.1.1
  have ha := hS.2.2.1
  have hl := hr_le (L := L) ha
  have nmE : ∀ e, numS L n hi a = .inl e → ∀ y, nmP F (bl F e) (numS L n hi a) y := by
    intro e he y
    refine ⟨fun hF => Or.inr ⟨e, he, by rw [hF]; rfl⟩, fun e' hF => by rw [hF]; rfl⟩
  (repeat (first | refine gx_run 999 80 rfl ?_ | refine gx_goto rfl rfl ?_))
  refine gx_call rfl rfl rfl ?_
  refine xw_nextWord _ a σ _ rfl hS ?_
  intro σ1 f1 hS1
  (repeat (first | refine gx_run 999 80 rfl ?_ | refine gx_goto rfl rfl ?_))
  refine gw_calls rfl rfl rfl ?_
  refine xw_isFigure ?_
  (repeat (first | refine gx_run 999 80 rfl ?_ | refine gx_goto rfl rfl ?_))
  by_cases q : hr L n a < n ∧ fig (L (hr L n a))
  · rw [gb_t ((ch_fig hS.1.l).mpr q)]
    first | refine gx_ift rfl (by dsimp only [gn_cmp] <;> decide) ?_ | refine gx_ict rfl (by dsimp only [gn_cmp] <;> decide) ?_
    (refine gw_run 31 80 rfl ?_)
    rw [hS1.2.1]
    refine xw_numL (F := F) _ (hr L n a) 0 σ1 rfl (Nat.le_refl _) hS1 (by omega) (fun _ => by rw [Nat.sub_self]; exact ⟨rfl, by decide⟩) ?_
    intro σ2 w f2 hS2 hw hv
    have hq := hS2.2.2.1
    have hf := fg_le (L := L) hl.2
    (repeat (first | refine gx_run 999 80 rfl ?_ | refine gx_goto rfl rfl ?_))
    rw [hS2.2.1, pk_sub hf.1]
    by_cases z : 3 < fg L n (hr L n a) - hr L n a ∨ hi < w
    · have hnum : numS L n hi a = .inl (2, hr L n a) := by
        unfold numS
        rw [if_pos q, if_pos]
        rcases z with z | z
        · exact Or.inl z
        · by_cases z2 : 3 < fg L n (hr L n a) - hr L n a
          · exact Or.inl z2
          · rw [← hv (by omega)]; exact Or.inr z
      have fin : gn_W (d + 2) 58 110 [.ref 1, .int (nI hi), .int (ch L n (hr L n a)), .int (nI (hr L n a)), .int (nI w)] [] σ2 Q := by
        (repeat (first | refine gx_run 999 80 rfl ?_ | refine gx_goto rfl rfl ?_))
        refine gx_call rfl rfl rfl ?_
        refine xw_blame (x := 2) hS2 ⟨by omega, by omega⟩ hl.2 ?_
        intro σ3 f3 hS3
        (repeat (first | refine gx_run 999 80 rfl ?_ | refine gx_goto rfl rfl ?_))
        refine gx_iret rfl rfl ?_
        exact hQ σ3 _ _ 0 (fun o ho => by rw [f3 o ho, f2 o ho, f1 o ho]) hS3 (by omega) (nmE _ hnum _)
      by_cases z1 : 3 < fg L n (hr L n a) - hr L n a
      · first | refine gx_ift rfl (nI_lt (a := 3) z1 (by omega)) ?_ | refine gx_ict rfl (nI_lt (a := 3) z1 (by omega)) ?_
        exact fin
      · first | refine gx_iff rfl (nI_nlt (a := 3) (by omega) (by omega)) ?_ | refine gx_icf rfl (nI_nlt (a := 3) (by omega) (by omega)) ?_
        (repeat (first | refine gx_run 999 80 rfl ?_ | refine gx_goto rfl rfl ?_))
        first | refine gx_iff rfl (nI_ge (by omega) (by omega)) ?_ | refine gx_icf rfl (nI_ge (by omega) (by omega)) ?_
        exact fin
    · have z1 : ¬ 3 < fg L n (hr L n a) - hr L n a := fun z2 => z (Or.inl z2)
      have z2 : ¬ hi < w := fun z2 => z (Or.inr z2)
      have hnum : numS L n hi a = .inr (w, fg L n (hr L n a)) := by
        unfold numS
        rw [if_pos q, ← hv (by omega), if_neg z]
      first | refine gx_iff rfl (nI_nlt (a := 3) (by omega) (by omega)) ?_ | refine gx_icf rfl (nI_nlt (a := 3) (by omega) (by omega)) ?_
      (repeat (first | refine gx_run 999 80 rfl ?_ | refine gx_goto rfl rfl ?_))
      first | refine gx_ift rfl (nI_le (by omega) (by omega)) ?_ | refine gx_ict rfl (nI_le (by omega) (by omega)) ?_
      (repeat (first | refine gx_run 999 80 rfl ?_ | refine gx_goto rfl rfl ?_))
      refine gx_iret rfl rfl ?_
      refine hQ σ2 _ F w (fun o ho => by rw [f2 o ho, f1 o ho]) hS2 (by omega) ⟨fun hF => Or.inl ⟨hnum, hF⟩, fun e hF => hF⟩
  · rw [gb_f (fun z => q ((ch_fig hS.1.l).mp z))]
    first | refine gx_iff rfl (by dsimp only [gn_cmp] <;> decide) ?_ | refine gx_icf rfl (by dsimp only [gn_cmp] <;> decide) ?_
    (repeat (first | refine gx_run 999 80 rfl ?_ | refine gx_goto rfl rfl ?_))
    rw [hS1.2.1]
    refine gx_call rfl rfl rfl ?_
    refine xw_blame (x := 1) hS1 ⟨by omega, by omega⟩ hl.2 ?_
    intro σ3 f3 hS3
    (repeat (first | refine gx_run 999 80 rfl ?_ | refine gx_goto rfl rfl ?_))
    refine gx_iret rfl rfl ?_
    have hnum : numS L n hi a = .inl (1, hr L n a) := by
      unfold numS
      rw [if_neg q]
    exact hQ σ3 _ _ 0 (fun o ho => by rw [f3 o ho, f1 o ho]) hS3 (by omega) (nmE _ hnum _)
theorem xw_endOfClause {a : Nat} (hS : xS σ n L a F) (hQ : ∀ (σ' : gn_Mem) (a' : Nat) (F' : Option (Nat × Nat)), (∀ o, o ≠ 1 → σ' o = σ o) → xS σ' n L a' F' → nmP F F' (endS L n a D) (a', D) → Q none σ') : gn_W (d + 2) 57 0 [.ref 1] [] σ Q := by
  have h240 := hS.1.1
  have ha := hS.2.2.1
  have hl := hr_le (L := L) ha
  (repeat (first | refine gx_run 999 80 rfl ?_ | refine gx_goto rfl rfl ?_))
  refine gx_call rfl rfl rfl ?_
  refine xw_nextWord _ a σ _ rfl hS ?_
  intro σ1 f1 hS1
  (repeat (first | refine gx_run 999 80 rfl ?_ | refine gx_goto rfl rfl ?_))
  by_cases q : hr L n a < n ∧ L (hr L n a) = 59
  · first | refine gx_iff rfl (fun z => z ((ch_eq hS.1.l (c := 59) (by omega)).mpr q)) ?_ | refine gx_icf rfl (fun z => z ((ch_eq hS.1.l (c := 59) (by omega)).mpr q)) ?_
    (repeat (first | refine gx_run 999 80 rfl ?_ | refine gx_goto rfl rfl ?_))
    rw [hS1.2.1, nI_1]
    refine gw_vret rfl ?_
    refine hQ _ (hr L n a + 1) F (fun o ho => by rw [gu_o ho, f1 o ho]) (hS1.up (by omega)) ⟨fun hF => Or.inl ⟨?_, hF⟩, fun e hF => hF⟩
    unfold endS
    rw [if_pos q]
  · first | refine gx_ift rfl (fun z => q ((ch_eq hS.1.l (c := 59) (by omega)).mp z)) ?_ | refine gx_ict rfl (fun z => q ((ch_eq hS.1.l (c := 59) (by omega)).mp z)) ?_
    (repeat (first | refine gx_run 999 80 rfl ?_ | refine gx_goto rfl rfl ?_))
    rw [hS1.2.1]
    refine gx_call rfl rfl rfl ?_
    refine xw_blame (x := 1) hS1 ⟨by omega, by omega⟩ hl.2 ?_
    intro σ3 f3 hS3
    (repeat (first | refine gx_run 999 80 rfl ?_ | refine gx_goto rfl rfl ?_))
    refine gw_vret rfl ?_
    refine hQ σ3 _ _ (fun o ho => by rw [f3 o ho, f1 o ho]) hS3 ⟨fun hF => Or.inr ⟨(1, hr L n a), ?_, by rw [hF]; rfl⟩, fun e hF => by rw [hF]; rfl⟩
    unfold endS
    rw [if_neg q]
end
