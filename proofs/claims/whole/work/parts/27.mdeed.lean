/-! the reference's deeds -/
theorem gn_up_upF {σ : gn_Mem} {o k : Nat} {f : Nat → Int32} {x : Int32} : gn_up (gn_upF σ o f) o k x = gn_upF σ o (upd f k x) := by
  funext o'
  by_cases h : o' = o
  · subst h
    rw [gn_up_eq, gn_upF_eq, gn_upF_eq]
  · rw [gu_o h, gn_upF_ne h, gn_upF_ne h]
theorem gn_upF_id {σ : gn_Mem} {o : Nat} : gn_upF σ o (σ o) = σ := by
  funext o'
  by_cases h : o' = o
  · subst h; rw [gn_upF_eq]
  · rw [gn_upF_ne h]
theorem mP.fr {σ σ' : gn_Mem} {c : Nat} {B : Nat → gA} (h : mP σ c B) (em : σ' 44 10 = σ 44 10) (e : ∀ k, 87 ≤ k → σ' 45 k = σ 45 k) : mP σ' c B := by
  unfold mP at h ⊢
  rw [em]
  refine ⟨h.1, h.2.1, fun i hi k hk => ?_⟩
  show σ' 45 (87 + 29 * i + k) = _
  rw [e _ (by omega)]
  exact h.2.2 i hi k hk
theorem mR.con {f : Nat → Int32} {A A' : gA} (h : mR f A) (e : ∀ k, k < 28 → A k = A' k) : mR f A' := fun k hk => by rw [h k hk, e k hk]
theorem mR.fr {f f' : Nat → Int32} {A : gA} (h : mR f A) (e : ∀ k, k < 28 → f' k = f k) : mR f' A := fun k hk => by rw [e k hk, h k hk]
section
variable {d : Nat} {σ : gn_Mem} {Q : Option Value → gn_Mem → Prop} {D : gD} {A : gA}
theorem cpy_0 {α : Type} {f g : Nat → α} {a b : Nat} : va_cpy f g a b 0 = g := by
  funext k
  exact pk_cpy_out (by omega)
theorem cpy_s {f : Nat → Int32} {a b i : Nat} : upd (va_cpy f f a b i) (b + i) (f (a + i)) = va_cpy f f a b (i + 1) := by
  funext k
  by_cases e : k = b + i
  · subst e
    rw [show upd (va_cpy f f a b i) (b + i) (f (a + i)) (b + i) = f (a + i) from if_pos rfl, pk_cpy_in (by omega) (by omega)]
    congr 1
    omega
  · rw [show upd (va_cpy f f a b i) (b + i) (f (a + i)) k = va_cpy f f a b i k from if_neg e]
    by_cases h : b ≤ k ∧ k < b + i
    · rw [pk_cpy_in h.1 h.2, pk_cpy_in h.1 (by omega)]
    · rw [pk_cpy_out (by omega), pk_cpy_out (by omega)]
theorem mw_copyRow {a b : Nat} (ha : a + 29 ≤ 957) (hb : b + 29 ≤ 957) (hab : a + 29 ≤ b ∨ b + 29 ≤ a) (hQ : Q none (gn_upF σ 45 (va_cpy (σ 45) (σ 45) a b 29))) : gn_W d 134 0 [.ref 44, .int (nI a), .int (nI b)] [] σ Q := by
  (refine gw_run 2 80 rfl ?_)
  have h0 : gn_W d 134 2 [.ref 44, .int (nI a), .int (nI b), .int (nI 0)] [] (gn_upF σ 45 (va_cpy (σ 45) (σ 45) a b 0)) Q := by
    refine gw_for 29 (fun i _ => i + 1) (fun i y => y = i) (fun i _ => [.ref 44, .int (nI a), .int (nI b), .int (nI i)]) (fun y => gn_upF σ 45 (va_cpy (σ 45) (σ 45) a b y)) 0 rfl (fun _ _ _ _ => rfl) ?_ ?_
    · intro i y hi hy hn
      subst hy
      (repeat (first | refine gx_run 999 80 rfl ?_ | refine gx_goto rfl rfl ?_))
      first | refine gx_iff rfl (nI_ge (b := 29) hi (by omega)) ?_ | refine gx_icf rfl (nI_ge (b := 29) hi (by omega)) ?_
      (repeat (first | refine gx_run 999 80 rfl ?_ | refine gx_goto rfl rfl ?_))
      have e1 : gn_upF σ 45 (va_cpy (σ 45) (σ 45) a b y) 45 (a + y) = σ 45 (a + y) := by
        rw [gn_upF_eq, pk_cpy_out (by omega)]
      refine gx_ld (a + y) (nI_add a y) (by omega) e1 rfl rfl rfl ?_
      refine gx_st (b + y) (nI_add b y) (by omega) rfl rfl rfl ?_
      have e2 : gn_up (gn_upF σ 45 (va_cpy (σ 45) (σ 45) a b y)) 45 (b + y) (σ 45 (a + y)) = gn_upF σ 45 (va_cpy (σ 45) (σ 45) a b (y + 1)) := by
        rw [gn_up_upF, cpy_s]
      rw [e2]
      (repeat (first | refine gx_run 999 80 rfl ?_ | refine gx_goto rfl rfl ?_))
      refine gw_goto rfl ?_
      rw [nI_1]
      exact hn
    · intro hy
      rw [hy]
      (repeat (first | refine gx_run 999 80 rfl ?_ | refine gx_goto rfl rfl ?_))
      first | refine gx_ift rfl (by dsimp only [gn_cmp] <;> decide) ?_ | refine gx_ict rfl (by dsimp only [gn_cmp] <;> decide) ?_
      (repeat (first | refine gx_run 999 80 rfl ?_ | refine gx_goto rfl rfl ?_))
      refine gw_vret rfl ?_
      exact hQ
  rw [cpy_0, gn_upF_id] at h0
  exact h0
theorem ix29 (k : Nat) : 87 + 29 * nI k = nI (87 + 29 * k) := by
  rw [show (29 : Int32) = nI 29 from rfl, pk_mul, show (87 : Int32) = nI 87 from rfl, nI_add]
/-- the end of remember -/
theorem mw_rem2 {c : Nat} {B : Nat → gA} (hc : c < 30) (hu : σ 44 10 = nI c) (hB : ∀ i, i < c → mR (fun k => σ 45 (87 + 29 * i + k)) (B i)) (hX : mR (σ 45) A) (lo : List Value) (hlo : lo = [.ref 44] ∨ ∃ v : Int32, lo = [.ref 44, .int v]) (hQ : ∀ σ' : gn_Mem, (∀ o, o ≠ 44 → o ≠ 45 → σ' o = σ o) → (∀ k, k ≠ 10 → σ' 44 k = σ 44 k) → (∀ k, k < 87 → σ' 45 k = σ 45 k) → σ' 44 10 = nI (c + 1) → (∀ i, i < c → mR (fun k => σ' 45 (87 + 29 * i + k)) (B i)) → mR (fun k => σ' 45 (87 + 29 * c + k)) A → Q none σ') : gn_W (d + 1) 163 53 lo [] σ Q := by
  have key : ∀ ex : List Value, ex = [] ∨ (∃ v : Int32, ex = [.int v]) → gn_W (d + 1) 163 53 (.ref 44 :: ex) [] σ Q := by
    intro ex hex
    rcases hex with rfl | ⟨v, rfl⟩ <;>
    ((repeat (first | refine gx_run 999 80 rfl ?_ | refine gx_goto rfl rfl ?_))
     rw [hu, ix29]
     refine gx_call rfl rfl rfl ?_
     refine mw_copyRow (a := 0) (by omega) (by omega) (by omega) ?_
     (repeat (first | refine gx_run 999 80 rfl ?_ | refine gx_goto rfl rfl ?_))
     refine gw_vret rfl ?_
     have e1 : gn_upF σ 45 (va_cpy (σ 45) (σ 45) 0 (87 + 29 * c) 29) 44 10 = nI c := by rw [gF_k (by omega), hu]
     rw [e1, nI_1]
     refine hQ _ (fun o a1 a2 => by rw [gu_o a1, gn_upF_ne a2]) (fun k hk => by rw [gu_k (Or.inr hk), gF_k (by omega)]) (fun k hk => by rw [gu_k (by omega), gn_upF_eq, pk_cpy_out (by omega)]) gu_s (fun i hi k hk => ?_) (fun k hk => ?_)
     · show gn_up (gn_upF σ 45 (va_cpy (σ 45) (σ 45) 0 (87 + 29 * c) 29)) 44 10 (nI (c + 1)) 45 (87 + 29 * i + k) = _
       rw [gu_k (by omega), gn_upF_eq, pk_cpy_out (by omega)]
       exact hB i hi k hk
     · show gn_up (gn_upF σ 45 (va_cpy (σ 45) (σ 45) 0 (87 + 29 * c) 29)) 44 10 (nI (c + 1)) 45 (87 + 29 * c + k) = _
       rw [gu_k (by omega), gn_upF_eq, pk_cpy_in (by omega) (by omega)]
       rw [show 0 + (87 + 29 * c + k - (87 + 29 * c)) = k by omega]
       exact hX k hk)
  rcases hlo with rfl | ⟨v, rfl⟩
  · exact key [] (Or.inl rfl)
  · exact key [.int v] (Or.inr ⟨v, rfl⟩)
theorem mw_remember {c : Nat} {B : Nat → gA} (hP : mP σ c B) (hX : mR (σ 45) A) (hQ : ∀ σ' : gn_Mem, (∀ o, o ≠ 44 → o ≠ 45 → σ' o = σ o) → (∀ k, k ≠ 10 → σ' 44 k = σ 44 k) → (∀ k, k < 87 → σ' 45 k = σ 45 k) → mP σ' (min 30 (c + 1)) (bP c A B) → Q none σ') : gn_W (d + 1) 163 0 [.ref 44] [] σ Q := by
  obtain ⟨hc, hu, hB⟩ := hP
  (repeat (first | refine gx_run 999 80 rfl ?_ | refine gx_goto rfl rfl ?_))
  rw [hu]
  by_cases h30 : c < 30
  · first | refine gx_ift rfl (fun q => absurd q (by rw [show (30 : Int32) = nI 30 from rfl, nI_eq (by omega) (by omega)]; omega)) ?_ | refine gx_ict rfl (fun q => absurd q (by rw [show (30 : Int32) = nI 30 from rfl, nI_eq (by omega) (by omega)]; omega)) ?_
    refine mw_rem2 h30 hu hB hX _ (Or.inl rfl) ?_
    intro σ' f1 f2 f3 f4 f5 f6
    refine hQ σ' f1 f2 f3 ⟨by omega, by rw [f4, show min 30 (c + 1) = c + 1 by omega], fun i hi => ?_⟩
    unfold bP
    simp only [if_pos h30]
    by_cases ei : i = c
    · simp only [if_pos ei]
      rw [ei]
      exact f6
    · simp only [if_neg ei]
      exact f5 i (by omega)
  · have hce : c = 30 := by omega
    subst hce
    first | refine gx_iff rfl (by dsimp only [gn_cmp] <;> decide) ?_ | refine gx_icf rfl (by dsimp only [gn_cmp] <;> decide) ?_
    (refine gw_run 11 80 rfl ?_)
    refine gw_for (d := d + 1) (mi := 163) (pc := 11) (Q := Q) 29 (fun i σ1 => gn_upF σ1 45 (va_cpy (σ1 45) (σ1 45) (87 + 29 * (i + 1)) (87 + 29 * i) 29)) (fun i σ1 => (∀ o, o ≠ 45 → σ1 o = σ o) ∧ (∀ k, k < 87 → σ1 45 k = σ 45 k) ∧ (∀ j k, j < i → k < 29 → σ1 45 (87 + 29 * j + k) = σ 45 (87 + 29 * (j + 1) + k)) ∧ (∀ j k, i ≤ j → k < 29 → σ1 45 (87 + 29 * j + k) = σ 45 (87 + 29 * j + k))) (fun i _ => [.ref 44, .int (nI (i + 1))]) (fun σ1 => σ1) σ ⟨fun _ _ => rfl, fun _ _ => rfl, fun j k hj => by omega, fun _ _ _ _ => rfl⟩ ?_ ?_ ?_
    · intro i σ1 hi ⟨g1, g2, g3, g4⟩
      refine ⟨fun o ho => by rw [gn_upF_ne ho, g1 o ho], fun k hk => by rw [gn_upF_eq, pk_cpy_out (by omega), g2 k hk], fun j k hj hk => ?_, fun j k hj hk => ?_⟩
      · rw [gn_upF_eq]
        by_cases e : j = i
        · subst e
          rw [pk_cpy_in (by omega) (by omega), show 87 + 29 * (j + 1) + (87 + 29 * j + k - (87 + 29 * j)) = 87 + 29 * (j + 1) + k by omega]
          exact g4 (j + 1) k (by omega) hk
        · rw [pk_cpy_out (by omega)]
          exact g3 j k (by omega) hk
      · rw [gn_upF_eq, pk_cpy_out (by omega)]
        exact g4 j k (by omega) hk
    · intro i σ1 hi _ hn
      (repeat (first | refine gx_run 999 80 rfl ?_ | refine gx_goto rfl rfl ?_))
      first | refine gx_iff rfl (nI_ge (a := i + 1) (b := 30) (by omega) (by omega)) ?_ | refine gx_icf rfl (nI_ge (a := i + 1) (b := 30) (by omega) (by omega)) ?_
      (repeat (first | refine gx_run 999 80 rfl ?_ | refine gx_goto rfl rfl ?_))
      rw [nI_pred, ix29, ix29]
      refine gx_call rfl rfl rfl ?_
      refine mw_copyRow (by omega) (by omega) (by omega) ?_
      (repeat (first | refine gx_run 999 80 rfl ?_ | refine gx_goto rfl rfl ?_))
      refine gw_goto rfl ?_
      rw [nI_1]
      exact hn
    · rintro ⟨g1, g2, g3, g4⟩
      generalize gf (fun i σ1 => gn_upF σ1 45 (va_cpy (σ1 45) (σ1 45) (87 + 29 * (i + 1)) (87 + 29 * i) 29)) 29 σ = σ1 at g1 g2 g3 g4 ⊢
      (repeat (first | refine gx_run 999 80 rfl ?_ | refine gx_goto rfl rfl ?_))
      first | refine gx_ift rfl (by dsimp only [gn_cmp] <;> decide) ?_ | refine gx_ict rfl (by dsimp only [gn_cmp] <;> decide) ?_
      have hu1 : σ1 44 10 = nI 30 := by rw [g1 44 (by omega)]; exact hu
      (refine gw_run 53 80 rfl ?_)
      rw [hu1, show nI 30 - 1 = nI 29 from rfl]
      refine mw_rem2 (c := 29) (B := fun i => B (i + 1)) (A := A) (by omega) gu_s (fun i hi k hk => ?_) (fun k hk => ?_) _ (Or.inr ⟨_, rfl⟩) ?_
      · show gn_up σ1 44 10 (nI 29) 45 (87 + 29 * i + k) = _
        rw [gu_k (by omega), g3 i k hi (by omega)]
        exact hB (i + 1) (by omega) k hk
      · rw [gu_k (by omega), g2 k (by omega)]
        exact hX k hk
      · intro σ' f1 f2 f3 f4 f5 f6
        refine hQ σ' (fun o a1 a2 => by rw [f1 o a1 a2, gu_o a1, g1 o a2]) (fun k hk => by rw [f2 k hk, gu_k (Or.inr hk), g1 44 (by omega)]) (fun k hk => by rw [f3 k hk, gu_k (by omega), g2 k hk]) ⟨by omega, f4, fun i hi => ?_⟩
        unfold bP
        simp only [if_neg h30]
        by_cases ei : i = 29
        · simp only [if_pos ei]
          rw [ei]
          exact f6
        · simp only [if_neg ei]
          exact f5 i (by omega)
theorem mw_tell (hM : gM σ D) (hX : mR (σ 45) A) {g h : Nat} (hg : g < dG D) (hh : h < dH D) (hs : 0 < A g) (hs2 : A g ≤ dC D g) (hQ : ∀ σ' : gn_Mem, (∀ o, o ≠ 45 → σ' o = σ o) → (∀ k, 28 ≤ k → σ' 45 k = σ 45 k) → mR (σ' 45) (aup (aup A (6 + g) (h + 1)) (12 + g) (A g)) → Q (some (.int (nI (jP D g h (A g - 1) + (A g - 1))))) σ') : gn_W (d + 3) 167 0 [.ref 44, .int (nI h), .int (nI g)] [] σ Q := by
  have hle := hM.1.1
  have hhe := hM.1.2.1
  have hc := hM.1.2.2.2.2.1 g hg
  obtain ⟨u, hu⟩ : ∃ u, A g = u + 1 := ⟨A g - 1, by omega⟩
  (repeat (first | refine gx_run 999 80 rfl ?_ | refine gx_goto rfl rfl ?_))
  refine gx_st (6 + g) (nI_add 6 g) (by omega) rfl rfl rfl ?_
  have h1 : mR (gn_up σ 45 (6 + g) (nI h) 45) (aup A (6 + g) (h + 1)) := by
    rw [gn_up_eq]
    exact hX.upd (by rw [vv_b (by omega)]; rfl)
  have s1 : aup A (6 + g) (h + 1) g = u + 1 := by rw [show aup A (6 + g) (h + 1) g = A g from if_neg (by omega), hu]
  (repeat (first | refine gx_run 999 80 rfl ?_ | refine gx_goto rfl rfl ?_))
  refine gx_ld g rfl (by omega) (by rw [h1.said (by omega), s1]) rfl rfl rfl ?_
  (repeat (first | refine gx_run 999 80 rfl ?_ | refine gx_goto rfl rfl ?_))
  rw [nI_pred]
  refine gx_st (12 + g) (nI_add 12 g) (by omega) rfl rfl rfl ?_
  have h2 : mR (gn_up (gn_up σ 45 (6 + g) (nI h)) 45 (12 + g) (nI u) 45) (aup (aup A (6 + g) (h + 1)) (12 + g) (A g)) := by
    rw [gn_up_eq]
    exact h1.upd (by rw [vv_b (by omega), hu]; rfl)
  have s2 : aup (aup A (6 + g) (h + 1)) (12 + g) (A g) g = u + 1 := by rw [← s1]; exact if_neg (by omega)
  (repeat (first | refine gx_run 999 80 rfl ?_ | refine gx_goto rfl rfl ?_))
  refine gx_ld g rfl (by omega) (by rw [h2.said (by omega), s2]) rfl rfl rfl ?_
  (repeat (first | refine gx_run 999 80 rfl ?_ | refine gx_goto rfl rfl ?_))
  rw [nI_pred]
  refine gx_call rfl rfl rfl ?_
  refine mw_joyOf (D := D) (gM_fr hM (fun k _ => by rw [gu_k (Or.inl (show (44 : Nat) ≠ 45 by decide)), gu_k (Or.inl (show (44 : Nat) ≠ 45 by decide))]) (fun o a b => by rw [gu_o (show o ≠ 45 by omega), gu_o (show o ≠ 45 by omega)])) hg hh (by omega) ?_
  (repeat (first | refine gx_run 999 80 rfl ?_ | refine gx_goto rfl rfl ?_))
  refine gx_iret rfl rfl ?_
  rw [hu, Nat.add_sub_cancel] at hQ
  rw [hu] at h2
  exact hQ _ (fun o h => by rw [gu_o h, gu_o h]) (fun k hk => by rw [gu_k (by omega), gu_k (by omega)]) h2
theorem mw_glad (hX : mR (σ 45) A) (hA : A 24 ≤ 999999) {v : Nat} (hv : v ≤ 1000) (hQ : ∀ σ' : gn_Mem, (∀ o, o ≠ 45 → σ' o = σ o) → (∀ k, 28 ≤ k → σ' 45 k = σ 45 k) → mR (σ' 45) (aup A 24 (min 999999 (A 24 + v))) → Q none σ') : gn_W d 166 0 [.ref 44, .int (nI v)] [] σ Q := by
  (repeat (first | refine gx_run 999 80 rfl ?_ | refine gx_goto rfl rfl ?_))
  refine gx_ld 24 rfl (by omega) hX.gl rfl rfl rfl ?_
  (repeat (first | refine gx_run 999 80 rfl ?_ | refine gx_goto rfl rfl ?_))
  rw [nI_add]
  by_cases h : 999999 < A 24 + v
  · first | refine gx_iff rfl (nI_ge (a := 999999) h (by omega)) ?_ | refine gx_icf rfl (nI_ge (a := 999999) h (by omega)) ?_
    (repeat (first | refine gx_run 999 80 rfl ?_ | refine gx_goto rfl rfl ?_))
    refine gx_st 24 rfl (by omega) rfl rfl rfl ?_
    refine gw_vret rfl ?_
    refine hQ _ (fun o h => gu_o h) (fun k hk => gu_k (by omega)) ?_
    rw [gn_up_eq]
    exact hX.upd (by rw [Nat.min_eq_left (by omega)]; rfl)
  · first | refine gx_ift rfl (nI_le (b := 999999) (by omega) (by omega)) ?_ | refine gx_ict rfl (nI_le (b := 999999) (by omega) (by omega)) ?_
    (repeat (first | refine gx_run 999 80 rfl ?_ | refine gx_goto rfl rfl ?_))
    refine gx_ld 24 rfl (by omega) hX.gl rfl rfl rfl ?_
    (repeat (first | refine gx_run 999 80 rfl ?_ | refine gx_goto rfl rfl ?_))
    rw [nI_add]
    refine gx_st 24 rfl (by omega) rfl rfl rfl ?_
    refine gw_vret rfl ?_
    refine hQ _ (fun o h => gu_o h) (fun k hk => gu_k (by omega)) ?_
    rw [gn_up_eq]
    exact hX.upd (by rw [Nat.min_eq_right (by omega)]; rfl)
theorem mw_noBy (hM : gM σ D) (hX : mR (σ 45) A) (hA : A 24 ≤ 999999) {g h : Nat} (hg : g < dG D) (hh : h < dH D) (hs : 0 < A g) (hs2 : A g ≤ dC D g) (hn : 0 < A (20 + h)) (hQ : ∀ σ' : gn_Mem, (∀ o, o ≠ 45 → σ' o = σ o) → (∀ k, 28 ≤ k → σ' 45 k = σ 45 k) → mR (σ' 45) (aNo D A h g) → Q (some (.int (nI (jP D g h (A g - 1) + (A g - 1))))) σ') : gn_W (d + 4) 168 0 [.ref 44, .int (nI h), .int (nI g)] [] σ Q := by
  have hhe := hM.1.2.1
  have hle := hM.1.1
  have hc := hM.1.2.2.2.2.1 g hg
  have hj := hM.1.jP hg hh (k := A g - 1) (by omega)
  obtain ⟨u, hu⟩ : ∃ u, A (20 + h) = u + 1 := ⟨A (20 + h) - 1, by omega⟩
  (repeat (first | refine gx_run 999 80 rfl ?_ | refine gx_goto rfl rfl ?_))
  refine gx_ld (20 + h) (nI_add 20 h) (by omega) (hX.no (by omega)) rfl rfl rfl ?_
  (repeat (first | refine gx_run 999 80 rfl ?_ | refine gx_goto rfl rfl ?_))
  rw [hu, nI_pred]
  refine gx_st (20 + h) (nI_add 20 h) (by omega) rfl rfl rfl ?_
  have h1 : mR (gn_up σ 45 (20 + h) (nI u) 45) (aup A (20 + h) u) := by
    rw [gn_up_eq]
    exact hX.upd (by rw [vv_a (by omega)])
  have eg : aup A (20 + h) u g = A g := if_neg (by omega)
  have e24 : aup A (20 + h) u 24 = A 24 := if_neg (by omega)
  (repeat (first | refine gx_run 999 80 rfl ?_ | refine gx_goto rfl rfl ?_))
  refine gx_call rfl rfl rfl ?_
  refine mw_tell (D := D) (gM_fr hM (fun k _ => by rw [gu_k (by omega)]) (fun o a b => by rw [gu_o (show o ≠ 45 by omega)])) h1 hg hh (by rw [eg]; exact hs) (by rw [eg]; exact hs2) ?_
  rw [eg]
  intro σ1 f1 f2 hX1
  (repeat (first | refine gx_run 999 80 rfl ?_ | refine gx_goto rfl rfl ?_))
  refine gx_call rfl rfl rfl ?_
  have e24b : aup (aup (aup A (20 + h) u) (6 + g) (h + 1)) (12 + g) (A g) 24 = A 24 := by
    unfold aup
    rw [if_neg (by omega), if_neg (by omega), if_neg (by omega)]
  refine mw_glad hX1 (by rw [e24b]; exact hA) (by omega) ?_
  intro σ2 k1 k2 hX2
  (repeat (first | refine gx_run 999 80 rfl ?_ | refine gx_goto rfl rfl ?_))
  refine gx_iret rfl rfl ?_
  refine hQ σ2 (fun o h => by rw [k1 o h, f1 o h, gu_o h]) (fun k hk => by rw [k2 k hk, f2 k hk, gu_k (by omega)]) ?_
  rw [e24b] at hX2
  refine hX2.con (fun k hk => ?_)
  unfold aNo aup
  rw [hu, Nat.add_sub_cancel]
  repeat' split
  all_goals first | rfl | omega
theorem mw_goToBed (hX : mR (σ 45) A) (hA : wA2 D A) (hW : gW D) {g : Nat} (hg : g < dG D) (hQ : ∀ σ' : gn_Mem, (∀ o, o ≠ 45 → σ' o = σ o) → (∀ k, 28 ≤ k → σ' 45 k = σ 45 k) → mR (σ' 45) (aBed A g) → Q (some (.int (gb (A (6 + g) = 0)))) σ') : gn_W d 171 0 [.ref 44, .int (nI g)] [] σ Q := by
  have hle := hW.1
  have hhe := hW.2.1
  have ha := hA.1 g hg
  (repeat (first | refine gx_run 999 80 rfl ?_ | refine gx_goto rfl rfl ?_))
  refine gx_ld 18 rfl (by omega) hX.up rfl rfl rfl ?_
  (repeat (first | refine gx_run 999 80 rfl ?_ | refine gx_goto rfl rfl ?_))
  rw [clr_eq _ hA.2.2.2.1 _ (by omega)]
  refine gx_st 18 rfl (by omega) rfl rfl rfl ?_
  have hX1 : mR (gn_up σ 45 18 (nI (clr (A 18) g)) 45) (aup A 18 (clr (A 18) g)) := by
    rw [gn_up_eq]
    exact hX.upd rfl
  (repeat (first | refine gx_run 999 80 rfl ?_ | refine gx_goto rfl rfl ?_))
  refine gx_ld (6 + g) (nI_add 6 g) (by omega) (hX1.by (by omega)) rfl rfl rfl ?_
  rw [show aup A 18 (clr (A 18) g) (6 + g) = A (6 + g) from if_neg (by omega)]
  (repeat (first | refine gx_run 999 80 rfl ?_ | refine gx_goto rfl rfl ?_))
  unfold aBed at hQ
  by_cases hb : A (6 + g) = 0
  · simp only [if_pos hb] at hQ
    rw [gb_t hb] at hQ
    first | refine gx_ift rfl ((e1_ne (by omega)).mpr hb) ?_ | refine gx_ict rfl ((e1_ne (by omega)).mpr hb) ?_
    (repeat (first | refine gx_run 999 80 rfl ?_ | refine gx_goto rfl rfl ?_))
    have e25 : aup A 18 (clr (A 18) g) 25 = A 25 := if_neg (by omega)
    refine gx_ld 25 rfl (by omega) (by rw [hX1.ins, e25]) rfl rfl rfl ?_
    (repeat (first | refine gx_run 999 80 rfl ?_ | refine gx_goto rfl rfl ?_))
    refine gx_ld 25 rfl (by omega) (by rw [hX1.ins, e25]) rfl rfl rfl ?_
    (repeat (first | refine gx_run 999 80 rfl ?_ | refine gx_goto rfl rfl ?_))
    have key : ∀ v : Int32, v = nI (min 999999 (A 25 + 1)) → gn_W d 171 56 [.ref 44, .int (nI g)] [.int v, .int 25, .ref 45] (gn_up σ 45 18 (nI (clr (A 18) g))) Q := by
      intro v hv
      subst hv
      refine gx_st 25 rfl (by omega) rfl rfl rfl ?_
      have hX2 : mR (gn_up (gn_up σ 45 18 (nI (clr (A 18) g))) 45 25 (nI (min 999999 (A 25 + 1))) 45) (aup (aup A 18 (clr (A 18) g)) 25 (min 999999 (A 25 + 1))) := by
        rw [gn_up_eq]
        exact hX1.upd rfl
      (repeat (first | refine gx_run 999 80 rfl ?_ | refine gx_goto rfl rfl ?_))
      refine gx_ld 19 rfl (by omega) hX2.wk rfl rfl rfl ?_
      (repeat (first | refine gx_run 999 80 rfl ?_ | refine gx_goto rfl rfl ?_))
      rw [show aup (aup A 18 (clr (A 18) g)) 25 (min 999999 (A 25 + 1)) 19 = A 19 from rfl, or_bit6 _ hA.2.2.2.2.1 _ (by omega)]
      refine gx_st 19 rfl (by omega) rfl rfl rfl ?_
      (repeat (first | refine gx_run 999 80 rfl ?_ | refine gx_goto rfl rfl ?_))
      refine gx_iret rfl rfl ?_
      refine hQ _ (fun o h => by rw [gu_o h, gu_o h, gu_o h]) (fun k hk => by rw [gu_k (by omega), gu_k (by omega), gu_k (by omega)]) ?_
      rw [gn_up_eq]
      refine mR.con (hX2.upd (n := A 19 ||| 2 ^ g) rfl) (fun k hk => ?_)
      unfold aup
      repeat' split
      all_goals first | rfl | omega
    by_cases hl : A 25 < 999999
    · first | refine gx_iff rfl (nI_ge (b := 999999) hl (by omega)) ?_ | refine gx_icf rfl (nI_ge (b := 999999) hl (by omega)) ?_
      (repeat (first | refine gx_run 999 80 rfl ?_ | refine gx_goto rfl rfl ?_))
      exact key _ (by rw [nI_1, Nat.min_eq_right (by omega)])
    · first | refine gx_ift rfl (nI_le (a := 999999) (by omega) (by have := hA.2.2.2.2.2.2.1; omega)) ?_ | refine gx_ict rfl (nI_le (a := 999999) (by omega) (by have := hA.2.2.2.2.2.2.1; omega)) ?_
      (repeat (first | refine gx_run 999 80 rfl ?_ | refine gx_goto rfl rfl ?_))
      exact key _ (by rw [Int32.add_zero, Nat.min_eq_left (by omega)]; have := hA.2.2.2.2.2.2.1; rw [show A 25 = 999999 by omega])
  · simp only [if_neg hb] at hQ
    rw [gb_f hb] at hQ
    first | refine gx_iff rfl (fun q => hb ((e1_ne (by omega)).mp q)) ?_ | refine gx_icf rfl (fun q => hb ((e1_ne (by omega)).mp q)) ?_
    (repeat (first | refine gx_run 999 80 rfl ?_ | refine gx_goto rfl rfl ?_))
    refine gx_iret rfl rfl ?_
    exact hQ _ (fun o h => gu_o h) (fun k hk => gu_k (by omega)) hX1
theorem mw_isOpen (hM : gM σ D) (hX : mR (σ 45) A) (hA : wA2 D A) {g : Nat} (hg : g < dG D) (hQ : Q (some (.int (gb ((A 18).testBit g = true ∧ 0 < A g ∧ A (6 + g) = 0)))) σ) : gn_W (d + 1) 165 0 [.ref 44, .int (nI g)] [] σ Q := by
  have hle := hM.1.1
  have hc := hM.1.2.2.2.2.1 g hg
  have ha := hA.1 g hg
  have hh := hM.1.2.1
  have h18 := hA.2.2.2.1
  (repeat (first | refine gx_run 999 80 rfl ?_ | refine gx_goto rfl rfl ?_))
  refine gx_ld 18 rfl (by omega) hX.up rfl rfl rfl ?_
  (repeat (first | refine gx_run 999 80 rfl ?_ | refine gx_goto rfl rfl ?_))
  refine gw_calls rfl rfl rfl ?_
  refine mw_has (by omega) (by omega) ?_
  by_cases hu : (A 18).testBit g = true
  · rw [gb_t hu]
    (repeat (first | refine gx_run 999 80 rfl ?_ | refine gx_goto rfl rfl ?_))
    first | refine gx_iff rfl (by dsimp only [gn_cmp] <;> decide) ?_ | refine gx_icf rfl (by dsimp only [gn_cmp] <;> decide) ?_
    (repeat (first | refine gx_run 999 80 rfl ?_ | refine gx_goto rfl rfl ?_))
    refine gx_ld g rfl (by omega) (hX.said (by omega)) rfl rfl rfl ?_
    by_cases hl : 0 < A g
    · first | refine gx_iff rfl (nI_nle hl (by omega)) ?_ | refine gx_icf rfl (nI_nle hl (by omega)) ?_
      (repeat (first | refine gx_run 999 80 rfl ?_ | refine gx_goto rfl rfl ?_))
      refine gx_ld (6 + g) (nI_add 6 g) (by omega) (hX.by (by omega)) rfl rfl rfl ?_
      (repeat (first | refine gx_run 999 80 rfl ?_ | refine gx_goto rfl rfl ?_))
      by_cases hb : A (6 + g) = 0
      · first | refine gx_iff rfl (fun q => q ((e1_ne (by omega)).mpr hb)) ?_ | refine gx_icf rfl (fun q => q ((e1_ne (by omega)).mpr hb)) ?_
        (repeat (first | refine gx_run 999 80 rfl ?_ | refine gx_goto rfl rfl ?_))
        refine gw_zret rfl (Or.inr rfl) ?_
        rw [gb_t ⟨hu, hl, hb⟩] at hQ
        exact hQ
      · first | refine gx_ift rfl (fun q => hb ((e1_ne (by omega)).mp q)) ?_ | refine gx_ict rfl (fun q => hb ((e1_ne (by omega)).mp q)) ?_
        (repeat (first | refine gx_run 999 80 rfl ?_ | refine gx_goto rfl rfl ?_))
        refine gw_zret rfl (Or.inl rfl) ?_
        rw [gb_f (fun q => hb q.2.2)] at hQ
        exact hQ
    · first | refine gx_ift rfl (nI_le (b := 0) (by omega) (by omega)) ?_ | refine gx_ict rfl (nI_le (b := 0) (by omega) (by omega)) ?_
      (repeat (first | refine gx_run 999 80 rfl ?_ | refine gx_goto rfl rfl ?_))
      refine gw_zret rfl (Or.inl rfl) ?_
      rw [gb_f (fun q => hl q.2.1)] at hQ
      exact hQ
  · rw [gb_f hu]
    (repeat (first | refine gx_run 999 80 rfl ?_ | refine gx_goto rfl rfl ?_))
    first | refine gx_ift rfl (by dsimp only [gn_cmp] <;> decide) ?_ | refine gx_ict rfl (by dsimp only [gn_cmp] <;> decide) ?_
    (repeat (first | refine gx_run 999 80 rfl ?_ | refine gx_goto rfl rfl ?_))
    refine gw_zret rfl (Or.inl rfl) ?_
    rw [gb_f (fun q => hu q.1)] at hQ
    exact hQ
end
