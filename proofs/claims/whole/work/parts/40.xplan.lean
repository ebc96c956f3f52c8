/-! the class's plan -/
def d5 (n : Nat) : Int32 := if n = 4 then -1 else nI n
/-- the host in a plan's number -/
def dgt (c i : Nat) : Int32 := d5 (c / 5 ^ i % 5)
theorem dgt_s {c h i : Nat} (hh : h < 5) : dgt (5 * c + h) (i + 1) = dgt c i := by
  unfold dgt
  rw [Nat.pow_succ, Nat.mul_comm (5 ^ i) 5, ← Nat.div_div_eq_div_mul, show (5 * c + h) / 5 = c by omega]
theorem dgt_0 {c h : Nat} (hh : h < 5) : dgt (5 * c + h) 0 = d5 h := by
  unfold dgt
  rw [Nat.pow_zero, Nat.div_one, show (5 * c + h) % 5 = h by omega]
theorem mn_6 {n : Nat} (h : n ≤ 6) : (if nI n < 6 then nI n else 6) = nI n := by
  by_cases q : n = 6
  · rw [q]; rfl
  · rw [if_pos (show nI n < 6 from nI_lt (b := 6) (by omega) (by omega))]
theorem mn_4 {n : Nat} (h : n ≤ 4) : (if nI n < 4 then nI n else 4) = nI n := by
  by_cases q : n = 4
  · rw [q]; rfl
  · rw [if_pos (show nI n < 4 from nI_lt (b := 4) (by omega) (by omega))]
theorem ix4 (g k : Nat) : nI g * 4 + nI k = nI (4 * g + k) := by
  rw [show (4 : Int32) = nI 4 from rfl, pk_mul, nI_add, Nat.mul_comm]
theorem m1e (x : Int32) : x + (-1) = x - 1 := (Int32.sub_eq_add_neg x 1).symm
theorem e1_lt {a b : Nat} (h : a ≤ b) (hb : b < 2 ^ 31) : e1 a < nI b := by
  cases a with
  | zero => exact Int32.lt_of_lt_of_le (show (-1 : Int32) < 0 by decide) (nI_pos' hb)
  | succ v => exact nI_lt (by omega) (by omega)
theorem e1_nlt {a b : Nat} (h : b < a) (ha : a < 2 ^ 31) : ¬ e1 a < nI b := by
  cases a with
  | zero => omega
  | succ v => exact nI_nlt (by omega) (by omega)
/-- what a host brings with a guest; -1: he can't -/
def pgi (D : gD) (A : gA) (g h : Nat) : Int32 := if A (6 + g) = 0 ∧ 0 < A (20 + h) then nI (pG D A g h) else -1
section
variable {d : Nat} {σ : gn_Mem} {Q : Option Value → gn_Mem → Prop} {D : gD} {A : gA}
theorem xw_weighGuest (hT : gT 28 σ D) (hX : xR (σ 4) A) (hA : wA2 D A) {g : Nat} (hg : g < dG D) (h6 : σ 13 6 = nI (dH D)) (hl : ∀ h, h < dH D → σ 16 h = nI (A (20 + h))) (hQ : ∀ σ' : gn_Mem, (∀ o, o ≠ 14 → σ' o = σ o) → (∀ k, (k < 4 * g ∨ 4 * g + 4 ≤ k) → σ' 14 k = σ 14 k) → (∀ h, h < dH D → σ' 14 (4 * g + h) = pgi D A g h) → Q none σ') : gn_W (d + 5) 46 0 [.ref 13, .ref 28, .ref 3, .int (nI g)] [] σ Q := by
  have hle := hT.1.1
  have hhe := hT.1.2.1
  have hc := hT.1.2.2.2.2.1 g hg
  have ha := hA.1 g hg
  have key : ∀ z : Int32, (z = 0 ∧ A (6 + g) = 0 ∨ z = 1 ∧ A (6 + g) ≠ 0) → gn_W (d + 5) 46 16 [.ref 13, .ref 28, .ref 3, .int (nI g), .int z] [] σ Q := by
    intro z hz
    (repeat (first | refine gx_run 999 80 rfl ?_ | refine gx_goto rfl rfl ?_))
    refine gx_call rfl rfl rfl ?_
    refine xw_foc hX (by omega) (by omega) ?_
    (refine gw_run 26 80 rfl ?_)
    refine gw_forP (dH D) (fun i (σ' : gn_Mem) => (∀ o, o ≠ 14 → σ' o = σ o) ∧ (∀ k, (k < 4 * g ∨ 4 * g + 4 ≤ k) → σ' 14 k = σ 14 k) ∧ (∀ h, h < i → σ' 14 (4 * g + h) = pgi D A g h)) (fun i _ => [.ref 13, .ref 28, .ref 3, .int (nI g), .int z, .int (nI (A g - 1)), .int (nI i)]) (fun σ' => σ') σ ⟨fun _ _ => rfl, fun _ _ => rfl, fun h hh => by omega⟩ ?_ ?_
    · intro i σ2 hi ⟨p1, p2, p3⟩ hk
      have h9 := hA.2.2.1 i (by omega)
      have fin : ∀ w : Int32, w = pgi D A g i → gn_W (d + 5) 46 26 [.ref 13, .ref 28, .ref 3, .int (nI g), .int z, .int (nI (A g - 1)), .int (nI (i + 1))] [] (gn_up σ2 14 (4 * g + i) w) Q := by
        intro w hw
        refine hk _ ⟨fun o ho => by rw [gu_o ho, p1 o ho], fun k hk => by rw [gu_k (by omega)]; exact p2 k hk, fun h hh => ?_⟩
        by_cases e : h = i
        · rw [e, gu_s]; exact hw
        · rw [gu_k (by omega)]; exact p3 h (by omega)
      (repeat (first | refine gx_run 999 80 rfl ?_ | refine gx_goto rfl rfl ?_))
      rw [show σ2 13 6 = nI (dH D) by rw [p1 13 (by omega)]; exact h6]
      first | refine gx_iff rfl (nI_ge hi (by omega)) ?_ | refine gx_icf rfl (nI_ge hi (by omega)) ?_
      (repeat (first | refine gx_run 999 80 rfl ?_ | refine gx_goto rfl rfl ?_))
      rcases hz with ⟨rfl, hz⟩ | ⟨rfl, hz⟩
      · first | refine gx_iff rfl (by dsimp only [gn_cmp] <;> decide) ?_ | refine gx_icf rfl (by dsimp only [gn_cmp] <;> decide) ?_
        (repeat (first | refine gx_run 999 80 rfl ?_ | refine gx_goto rfl rfl ?_))
        refine gx_ld i rfl (by omega) (show σ2 16 i = nI (A (20 + i)) by rw [p1 16 (by omega)]; exact hl i hi) rfl rfl rfl ?_
        by_cases h0 : 0 < A (20 + i)
        · first | refine gx_iff rfl (fun q => absurd (nI_lt (a := 0) h0 (by omega)) (Int32.not_lt.mpr q)) ?_ | refine gx_icf rfl (fun q => absurd (nI_lt (a := 0) h0 (by omega)) (Int32.not_lt.mpr q)) ?_
          (repeat (first | refine gx_run 999 80 rfl ?_ | refine gx_goto rfl rfl ?_))
          first | refine gx_iff rfl (by dsimp only [gn_cmp] <;> decide) ?_ | refine gx_icf rfl (by dsimp only [gn_cmp] <;> decide) ?_
          (repeat (first | refine gx_run 999 80 rfl ?_ | refine gx_goto rfl rfl ?_))
          refine gx_call rfl rfl rfl ?_
          refine xw_mjf (gT_fr hT (fun o a b => p1 o (by omega))) hg hi (by omega) ?_
          (repeat (first | refine gx_run 999 80 rfl ?_ | refine gx_goto rfl rfl ?_))
          rw [ix4]
          refine gx_st (4 * g + i) rfl (by omega) rfl rfl rfl ?_
          (repeat (first | refine gx_run 999 80 rfl ?_ | refine gx_goto rfl rfl ?_))
          refine gw_goto rfl ?_
          rw [nI_1]
          exact gx_drop [_, _, _, _, _, _, _] [_] (by rfl) (fin _ (if_pos ⟨hz, h0⟩).symm)
        · first | refine gx_ift rfl (nI_le (b := 0) (by omega) (by omega)) ?_ | refine gx_ict rfl (nI_le (b := 0) (by omega) (by omega)) ?_
          (repeat (first | refine gx_run 999 80 rfl ?_ | refine gx_goto rfl rfl ?_))
          first | refine gx_ift rfl (by dsimp only [gn_cmp] <;> decide) ?_ | refine gx_ict rfl (by dsimp only [gn_cmp] <;> decide) ?_
          (repeat (first | refine gx_run 999 80 rfl ?_ | refine gx_goto rfl rfl ?_))
          rw [ix4]
          refine gx_st (4 * g + i) rfl (by omega) rfl rfl rfl ?_
          (repeat (first | refine gx_run 999 80 rfl ?_ | refine gx_goto rfl rfl ?_))
          refine gw_goto rfl ?_
          rw [nI_1]
          exact gx_drop [_, _, _, _, _, _, _] [_] (by rfl) (fin _ (if_neg (fun q => h0 q.2)).symm)
      · first | refine gx_ift rfl (by dsimp only [gn_cmp] <;> decide) ?_ | refine gx_ict rfl (by dsimp only [gn_cmp] <;> decide) ?_
        (repeat (first | refine gx_run 999 80 rfl ?_ | refine gx_goto rfl rfl ?_))
        first | refine gx_ift rfl (by dsimp only [gn_cmp] <;> decide) ?_ | refine gx_ict rfl (by dsimp only [gn_cmp] <;> decide) ?_
        (repeat (first | refine gx_run 999 80 rfl ?_ | refine gx_goto rfl rfl ?_))
        rw [ix4]
        refine gx_st (4 * g + i) rfl (by omega) rfl rfl rfl ?_
        (repeat (first | refine gx_run 999 80 rfl ?_ | refine gx_goto rfl rfl ?_))
        refine gw_goto rfl ?_
        rw [nI_1]
        exact gx_drop [_, _, _, _, _, _, _] [_] (by rfl) (fin _ (if_neg (fun q => hz q.1)).symm)
    · intro σ2 ⟨p1, p2, p3⟩
      (repeat (first | refine gx_run 999 80 rfl ?_ | refine gx_goto rfl rfl ?_))
      rw [show σ2 13 6 = nI (dH D) by rw [p1 13 (by omega)]; exact h6]
      first | refine gx_ift rfl (nI_le (Nat.le_refl _) (by omega)) ?_ | refine gx_ict rfl (nI_le (Nat.le_refl _) (by omega)) ?_
      refine gw_vret rfl ?_
      exact hQ σ2 p1 p2 p3
  (repeat (first | refine gx_run 999 80 rfl ?_ | refine gx_goto rfl rfl ?_))
  refine gx_call rfl rfl rfl ?_
  refine xw_toldBy hX (by omega) ?_
  (repeat (first | refine gx_run 999 80 rfl ?_ | refine gx_goto rfl rfl ?_))
  by_cases hb : A (6 + g) = 0
  · first | refine gx_ift rfl ((e1_ne (by omega)).mpr hb) ?_ | refine gx_ict rfl ((e1_ne (by omega)).mpr hb) ?_
    (refine gw_run 16 80 rfl ?_)
    exact key 0 (Or.inl ⟨rfl, hb⟩)
  · first | refine gx_iff rfl (fun q => hb ((e1_ne (by omega)).mp q)) ?_ | refine gx_icf rfl (fun q => hb ((e1_ne (by omega)).mp q)) ?_
    (repeat (refine gw_stp rfl ?_))
    refine gx_goto rfl rfl ?_
    (refine gw_run 16 80 rfl ?_)
    exact key 1 (Or.inr ⟨rfl, hb⟩)
theorem xw_sumHopes (hW : gW D) (hA : wA2 D A) (h5 : σ 13 5 = nI (dG D)) (h6 : σ 13 6 = nI (dH D)) (hg : ∀ g h, g < dG D → h < dH D → σ 14 (4 * g + h) = pgi D A g h) (hQ : ∀ σ' : gn_Mem, (∀ o, o ≠ 15 → σ' o = σ o) → (∀ r, r ≤ dG D → σ' 15 (dG D - r) = nI (ho D A r)) → Q none σ') : gn_W (d + 1) 47 0 [.ref 13] [] σ Q := by
  have hle := hW.1
  have hhe := hW.2.1
  (repeat (first | refine gx_run 999 80 rfl ?_ | refine gx_goto rfl rfl ?_))
  rw [h5]
  refine gx_st (dG D) rfl (by omega) rfl rfl rfl ?_
  (refine gw_run 17 80 rfl ?_)
  rw [show gn_up σ 15 (dG D) 0 13 5 = nI (dG D) by rw [gu_k (by omega)]; exact h5]
  refine gw_forP (dG D) (fun i (σ' : gn_Mem) => (∀ o, o ≠ 15 → σ' o = σ o) ∧ (∀ r, r ≤ i → σ' 15 (dG D - r) = nI (ho D A r))) (fun i _ => [.ref 13, .int (nI (dG D - i) - 1)]) (fun σ' => σ') (gn_up σ 15 (dG D) 0) ⟨fun o ho => gu_o ho, fun r hr => ?_⟩ ?_ ?_
  · obtain rfl : r = 0 := by omega
    rw [Nat.sub_zero, gu_s]
    rfl
  · intro i σ2 hi ⟨p1, p2⟩ hk
    obtain ⟨m, hm⟩ : ∃ m, dG D - i = m + 1 := ⟨dG D - i - 1, by omega⟩
    have hpl := pH_le hW hA (g := m) (by omega)
    have hol := ho_le hW hA i (by omega)
    rw [hm, nI_pred]
    (repeat (first | refine gx_run 999 80 rfl ?_ | refine gx_goto rfl rfl ?_))
    first | refine gx_iff rfl (nI_pos (by omega)) ?_ | refine gx_icf rfl (nI_pos (by omega)) ?_
    (refine gw_run 25 80 rfl ?_)
    refine gw_for (dH D) (fun h y => max y (if A (6 + m) = 0 ∧ 0 < A (20 + h) then pG D A m h else 0)) (fun _ y => y ≤ 28) (fun h y => [.ref 13, .int (nI m), .int (nI y), .int (nI h)]) (fun _ => σ2) 0 (by omega) ?_ ?_ ?_
    · intro h y hh hy
      refine Nat.max_le.mpr ⟨hy, ?_⟩
      split
      · exact pG_le hW hA (by omega) hh
      · omega
    · intro h y hh hy hk3
      have hpg := pG_le hW hA (g := m) (h := h) (by omega) hh
      (repeat (first | refine gx_run 999 80 rfl ?_ | refine gx_goto rfl rfl ?_))
      rw [show σ2 13 6 = nI (dH D) by rw [p1 13 (by omega)]; exact h6]
      first | refine gx_iff rfl (nI_ge hh (by omega)) ?_ | refine gx_icf rfl (nI_ge hh (by omega)) ?_
      (repeat (first | refine gx_run 999 80 rfl ?_ | refine gx_goto rfl rfl ?_))
      rw [ix4]
      refine gx_ld (4 * m + h) rfl (by omega) (show σ2 14 (4 * m + h) = pgi D A m h by rw [p1 14 (by omega)]; exact hg m h (by omega) hh) rfl rfl rfl ?_
      (repeat (first | refine gx_run 999 80 rfl ?_ | refine gx_goto rfl rfl ?_))
      have e : (if nI y < pgi D A m h then pgi D A m h else nI y) = nI (max y (if A (6 + m) = 0 ∧ 0 < A (20 + h) then pG D A m h else 0)) := by
        unfold pgi
        by_cases q : A (6 + m) = 0 ∧ 0 < A (20 + h)
        · rw [if_pos q, if_pos q]
          exact nI_max (by omega) (by omega)
        · rw [if_neg q, if_neg q, if_neg (fun z => absurd (Int32.lt_trans z (show (-1 : Int32) < 0 by decide)) (nI_pos (by omega))), Nat.max_eq_left (by omega)]
      rw [e]
      refine gw_goto rfl ?_
      rw [nI_1]
      exact hk3
    · intro hy
      show gn_W (d + 1) 47 25 [.ref 13, .int (nI m), .int (nI (pH D A m)), .int (nI (dH D))] [] σ2 Q
      (repeat (first | refine gx_run 999 80 rfl ?_ | refine gx_goto rfl rfl ?_))
      rw [show σ2 13 6 = nI (dH D) by rw [p1 13 (by omega)]; exact h6]
      first | refine gx_ift rfl (nI_le (Nat.le_refl _) (by omega)) ?_ | refine gx_ict rfl (nI_le (Nat.le_refl _) (by omega)) ?_
      (repeat (first | refine gx_run 999 80 rfl ?_ | refine gx_goto rfl rfl ?_))
      rw [nI_1]
      refine gx_ld (m + 1) rfl (by omega) (show σ2 15 (m + 1) = nI (ho D A i) by rw [← hm]; exact p2 i (Nat.le_refl _)) rfl rfl rfl ?_
      (repeat (first | refine gx_run 999 80 rfl ?_ | refine gx_goto rfl rfl ?_))
      rw [nI_add]
      refine gx_st m rfl (by omega) rfl rfl rfl ?_
      (repeat (first | refine gx_run 999 80 rfl ?_ | refine gx_goto rfl rfl ?_))
      refine gw_goto rfl ?_
      rw [m1e, show nI m - 1 = nI (dG D - (i + 1)) - 1 by rw [show dG D - (i + 1) = m by omega]]
      refine gx_drop [_, _] [_, _] (by rfl) ?_
      refine hk _ ⟨fun o ho => by rw [gu_o ho, p1 o ho], fun r hr => ?_⟩
      by_cases e : r = i + 1
      · subst e
        rw [show dG D - (i + 1) = m by omega, gu_s]
        show _ = nI (ho D A i + pH D A (dG D - (i + 1)))
        rw [show dG D - (i + 1) = m by omega]
      · rw [gu_k (Or.inr (by omega))]
        exact p2 r (by omega)
  · intro σ2 ⟨p1, p2⟩
    (repeat (first | refine gx_run 999 80 rfl ?_ | refine gx_goto rfl rfl ?_))
    first | refine gx_ift rfl (show nI (dG D - dG D) - 1 < 0 by rw [Nat.sub_self]; decide) ?_ | refine gx_ict rfl (show nI (dG D - dG D) - 1 < 0 by rw [Nat.sub_self]; decide) ?_
    refine gw_vret rfl ?_
    exact hQ σ2 p1 p2
/-- the planner's rooms at a place of its walk -/
def cI (D : gD) (A : gA) (σ0 σ : gn_Mem) (g c : Nat) (left : Nat → Nat) (S : gS) : Prop := (∀ o, o ≠ 13 → o ≠ 16 → o ≠ 17 → o ≠ 18 → σ o = σ0 o) ∧ (∀ k, k ≠ 7 → σ 13 k = σ0 13 k) ∧ σ 13 7 = e1 S.1 ∧ (∀ h, h < dH D → σ 16 h = nI (left h) ∧ left h ≤ A (20 + h)) ∧ (∀ j, j < g → σ 17 j = dgt c (g - 1 - j)) ∧ (S.1 ≠ 0 → ∀ j, j < dG D → σ 18 j = dgt S.2 (dG D - 1 - j))
theorem xw_choose {σ0 : gn_Mem} (hW : gW D) (hA : wA2 D A) (h5 : σ0 13 5 = nI (dG D)) (h6 : σ0 13 6 = nI (dH D)) (hg : ∀ g h, g < dG D → h < dH D → σ0 14 (4 * g + h) = pgi D A g h) (hh : ∀ r, r ≤ dG D → σ0 15 (dG D - r) = nI (ho D A r)) : ∀ (r d c : Nat) (left : Nat → Nat) (sum : Nat) (S : gS) (σ : gn_Mem) (Q : Option Value → gn_Mem → Prop), r ≤ dG D → r + 1 ≤ d → sum ≤ 28 * (dG D - r) → S.1 ≤ 28 * dG D + 1 → cI D A σ0 σ (dG D - r) c left S → (∀ σ', cI D A σ0 σ' (dG D - r) c left (vis D A r c left sum S) → Q none σ') → gn_W d 48 0 [.ref 13, .int (nI (dG D - r)), .int (nI sum)] [] σ Q := by
  have hle := hW.1
  have hhe := hW.2.1
  intro r
  induction r with
  | zero =>
    intro d c left sum S σ Q hr hd hs hS hc hQ
    obtain ⟨d, rfl⟩ : ∃ d', d = d' + 1 := ⟨d - 1, by omega⟩
    obtain ⟨c1, c2, c3, c4, c5, c6⟩ := id hc
    rw [Nat.sub_zero] at hs c5 ⊢
    have hq : cI D A σ0 σ (dG D) c left S → S.1 ≤ sum → ∀ σ', σ' = gn_upF (gn_up σ 13 7 (nI sum)) 18 (va_cpy (gn_up σ 13 7 (nI sum) 17) (gn_up σ 13 7 (nI sum) 18) 0 0 (dG D)) → Q none σ' := by
      intro _ hle2 σ' e
      refine hQ σ' ?_
      have ev : vis D A 0 c left sum S = (sum + 1, c) := if_pos hle2
      rw [ev, Nat.sub_zero]
      refine ⟨fun o a1 a2 a3 a4 => by rw [e, gn_upF_ne a4, gu_o a1]; exact c1 o a1 a2 a3 a4, fun k hk => by rw [e, gF_k (by omega), gu_k (Or.inr hk)]; exact c2 k hk, by rw [e, gF_k (by omega), gu_s]; rfl, fun h hh => by rw [e, gF_k (by omega), gu_k (by omega)]; exact c4 h hh, fun j hj => by rw [e, gF_k (by omega), gu_k (by omega)]; exact c5 j hj, fun _ j hj => ?_⟩
      rw [e, gn_upF_eq, pk_cpy_in (by omega) (by omega), gu_k (by omega), show 0 + (j - 0) = j by omega]
      exact c5 j hj
    (repeat (first | refine gx_run 999 80 rfl ?_ | refine gx_goto rfl rfl ?_))
    first | refine gx_iff rfl (nI_pos (by omega)) ?_ | refine gx_icf rfl (nI_pos (by omega)) ?_
    (repeat (first | refine gx_run 999 80 rfl ?_ | refine gx_goto rfl rfl ?_))
    rw [show σ 13 5 = nI (dG D) by rw [c2 5 (by omega)]; exact h5]
    first | refine gx_iff rfl (nI_nlt (Nat.le_refl _) (by omega)) ?_ | refine gx_icf rfl (nI_nlt (Nat.le_refl _) (by omega)) ?_
    (repeat (first | refine gx_run 999 80 rfl ?_ | refine gx_goto rfl rfl ?_))
    refine gx_ld (dG D) rfl (by omega) (show σ 15 (dG D) = nI 0 by rw [c1 15 (by omega) (by omega) (by omega) (by omega)]; exact hh 0 (by omega)) rfl rfl rfl ?_
    (repeat (first | refine gx_run 999 80 rfl ?_ | refine gx_goto rfl rfl ?_))
    rw [c3, nI_add, Nat.add_zero]
    by_cases hle2 : S.1 ≤ sum
    · first | refine gx_ift rfl (e1_lt hle2 (by omega)) ?_ | refine gx_ict rfl (e1_lt hle2 (by omega)) ?_
      (repeat (first | refine gx_run 999 80 rfl ?_ | refine gx_goto rfl rfl ?_))
      rw [show σ 13 5 = nI (dG D) by rw [c2 5 (by omega)]; exact h5]
      first | refine gx_iff rfl (fun q => q rfl) ?_ | refine gx_icf rfl (fun q => q rfl) ?_
      (repeat (first | refine gx_run 999 80 rfl ?_ | refine gx_goto rfl rfl ?_))
      rw [show gn_up σ 13 7 (nI sum) 13 5 = nI (dG D) by rw [gu_k (by omega), c2 5 (by omega)]; exact h5]
      refine gw_copy rfl rfl rfl rfl (by decide) (by decide) (nI_pos (by omega)) ?_ ?_ ?_
      · rw [nI_clamp (by omega)]; show 0 + _ ≤ _; omega
      · rw [nI_clamp (by omega)]; show 0 + _ ≤ _; omega
      rw [nI_clamp (by omega)]
      (repeat (first | refine gx_run 999 80 rfl ?_ | refine gx_goto rfl rfl ?_))
      refine gw_vret rfl ?_
      exact hq (by rw [Nat.sub_zero] at hc; exact hc) hle2 _ rfl
    · first | refine gx_iff rfl (e1_nlt (by omega) (by omega)) ?_ | refine gx_icf rfl (e1_nlt (by omega) (by omega)) ?_
      refine gw_vret rfl ?_
      refine hQ σ ?_
      rw [show vis D A 0 c left sum S = S from if_neg hle2]
      exact hc
  | succ r ih =>
    intro d c left sum S σ Q hr hd hs hS hc hQ
    obtain ⟨d, rfl⟩ : ∃ d', d = d' + 1 := ⟨d - 1, by omega⟩
    obtain ⟨c1, c2, c3, c4, c5, c6⟩ := id hc
    generalize hgg : dG D - (r + 1) = g at *
    have hg1 : dG D - r = g + 1 := by omega
    rw [hg1] at ih
    have hol := ho_le hW hA (r + 1) hr
    (repeat (first | refine gx_run 999 80 rfl ?_ | refine gx_goto rfl rfl ?_))
    first | refine gx_iff rfl (nI_pos (by omega)) ?_ | refine gx_icf rfl (nI_pos (by omega)) ?_
    (repeat (first | refine gx_run 999 80 rfl ?_ | refine gx_goto rfl rfl ?_))
    rw [show σ 13 5 = nI (dG D) by rw [c2 5 (by omega)]; exact h5]
    first | refine gx_iff rfl (nI_nlt (by omega) (by omega)) ?_ | refine gx_icf rfl (nI_nlt (by omega) (by omega)) ?_
    (repeat (first | refine gx_run 999 80 rfl ?_ | refine gx_goto rfl rfl ?_))
    refine gx_ld g rfl (by omega) (show σ 15 g = nI (ho D A (r + 1)) by rw [c1 15 (by omega) (by omega) (by omega) (by omega), ← hgg]; exact hh (r + 1) hr) rfl rfl rfl ?_
    (repeat (first | refine gx_run 999 80 rfl ?_ | refine gx_goto rfl rfl ?_))
    rw [c3, nI_add]
    by_cases hle2 : S.1 ≤ sum + ho D A (r + 1)
    · first | refine gx_ift rfl (e1_lt hle2 (by omega)) ?_ | refine gx_ict rfl (e1_lt hle2 (by omega)) ?_
      (repeat (first | refine gx_run 999 80 rfl ?_ | refine gx_goto rfl rfl ?_))
      rw [show σ 13 5 = nI (dG D) by rw [c2 5 (by omega)]; exact h5]
      first | refine gx_ift rfl (fun q => absurd ((nI_eq (by omega) (by omega)).mp q) (by omega)) ?_ | refine gx_ict rfl (fun q => absurd ((nI_eq (by omega) (by omega)).mp q) (by omega)) ?_
      (refine gw_run 61 80 rfl ?_)
      have ev : vis D A (r + 1) c left sum S = vis D A r (5 * c + 4) left sum (gf (fun h S => if A (6 + g) = 0 ∧ 0 < left h then vis D A r (5 * c + h) (ldn left h) (sum + pG D A g h) S else S) (dH D) S) := by
        rw [← hgg]; rfl
      generalize hstep : (fun (h : Nat) (S : gS) => if A (6 + g) = 0 ∧ 0 < left h then vis D A r (5 * c + h) (ldn left h) (sum + pG D A g h) S else S) = step at ev
      have hst : ∀ h S, step h S = if A (6 + g) = 0 ∧ 0 < left h then vis D A r (5 * c + h) (ldn left h) (sum + pG D A g h) S else S := fun h S => by rw [← hstep]
      have hSl : ∀ i, i ≤ dH D → (gf step i S).1 ≤ 28 * dG D + 1 := by
        intro i
        induction i with
        | zero => intro _; exact hS
        | succ i ih2 =>
          intro hi
          have h1 := ih2 (by omega)
          show (step i (gf step i S)).1 ≤ _
          rw [hst]
          split
          · have := pG_le hW hA (g := g) (h := i) (by omega) (by omega)
            exact vis_le hW hA _ _ _ _ _ (by omega) (by omega) h1
          · exact h1
      refine gw_forP (dH D) (fun i (σ' : gn_Mem) => cI D A σ0 σ' g c left (gf step i S)) (fun i _ => [.ref 13, .int (nI g), .int (nI sum), .int (nI i)]) (fun σ' => σ') σ hc ?_ ?_
      · intro i σ1 hi hc1 hk
        have hk : ∀ y', cI D A σ0 y' g c left (step i (gf step i S)) → gn_W (d + 1) 48 61 [.ref 13, .int (nI g), .int (nI sum), .int (nI (i + 1))] [] y' Q := hk
        rw [hst] at hk
        have hS1 := hSl i (by omega)
        generalize gf step i S = S1 at *
        obtain ⟨b1, b2, b3, b4, b5, b6⟩ := id hc1
        have h9 := hA.2.2.1 i (by omega)
        have hb4 := b4 i hi
        (repeat (first | refine gx_run 999 80 rfl ?_ | refine gx_goto rfl rfl ?_))
        rw [show σ1 13 6 = nI (dH D) by rw [b2 6 (by omega)]; exact h6]
        first | refine gx_iff rfl (nI_ge hi (by omega)) ?_ | refine gx_icf rfl (nI_ge hi (by omega)) ?_
        (repeat (first | refine gx_run 999 80 rfl ?_ | refine gx_goto rfl rfl ?_))
        rw [ix4]
        refine gx_ld (4 * g + i) rfl (by omega) (show σ1 14 (4 * g + i) = pgi D A g i by rw [b1 14 (by omega) (by omega) (by omega) (by omega)]; exact hg g i (by omega) hi) rfl rfl rfl ?_
        (repeat (first | refine gx_run 999 80 rfl ?_ | refine gx_goto rfl rfl ?_))
        by_cases q1 : A (6 + g) = 0 ∧ 0 < A (20 + i)
        · rw [show pgi D A g i = nI (pG D A g i) from if_pos q1]
          have hpg := pG_le hW hA (g := g) (h := i) (by omega) hi
          first | refine gx_iff rfl (nI_ne1 (by omega)) ?_ | refine gx_icf rfl (nI_ne1 (by omega)) ?_
          (repeat (first | refine gx_run 999 80 rfl ?_ | refine gx_goto rfl rfl ?_))
          refine gx_ld i rfl (by omega) hb4.1 rfl rfl rfl ?_
          by_cases q2 : 0 < left i
          · rw [if_pos ⟨q1.1, q2⟩] at hk
            first | refine gx_iff rfl (fun q => absurd (nI_lt (a := 0) q2 (by omega)) (Int32.not_lt.mpr q)) ?_ | refine gx_icf rfl (fun q => absurd (nI_lt (a := 0) q2 (by omega)) (Int32.not_lt.mpr q)) ?_
            (repeat (first | refine gx_run 999 80 rfl ?_ | refine gx_goto rfl rfl ?_))
            refine gx_ld i rfl (by omega) hb4.1 rfl rfl rfl ?_
            (repeat (first | refine gx_run 999 80 rfl ?_ | refine gx_goto rfl rfl ?_))
            obtain ⟨lf, hlf⟩ : ∃ lf, left i = lf + 1 := ⟨left i - 1, by omega⟩
            rw [hlf, nI_pred]
            refine gx_st i rfl (by omega) rfl rfl rfl ?_
            (repeat (first | refine gx_run 999 80 rfl ?_ | refine gx_goto rfl rfl ?_))
            refine gx_st g rfl (by omega) rfl rfl rfl ?_
            (repeat (first | refine gx_run 999 80 rfl ?_ | refine gx_goto rfl rfl ?_))
            rw [nI_1, nI_add]
            refine gx_call rfl rfl rfl ?_
            refine ih d (5 * c + i) (ldn left i) (sum + pG D A g i) S1 _ _ (by omega) (by omega) (by omega) hS1 ?_ ?_
            · refine ⟨fun o a1 a2 a3 a4 => by rw [gu_o a3, gu_o a2]; exact b1 o a1 a2 a3 a4, fun k hk => by rw [gu_k (Or.inl (by decide)), gu_k (Or.inl (by decide))]; exact b2 k hk, by rw [gu_k (Or.inl (by decide)), gu_k (Or.inl (by decide))]; exact b3, fun h hh => ?_, fun j hj => ?_, fun hn j hj => by rw [gu_k (Or.inl (by decide)), gu_k (Or.inl (by decide))]; exact b6 hn j hj⟩
              · refine ⟨?_, Nat.le_trans ldn_le (b4 h hh).2⟩
                rw [gu_k (Or.inl (by decide))]
                unfold ldn
                by_cases e : h = i
                · rw [if_pos e, e, gu_s, hlf]; rfl
                · rw [if_neg e, gu_k (Or.inr e)]; exact (b4 h hh).1
              · by_cases e : j = g
                · rw [e, gu_s, show g + 1 - 1 - g = 0 by omega, dgt_0 (by omega)]
                  unfold d5
                  rw [if_neg (by omega)]
                · rw [gu_k (Or.inr e), gu_k (Or.inl (by decide)), b5 j (by omega), show g + 1 - 1 - j = (g - 1 - j) + 1 by omega, dgt_s (by omega)]
            · intro σ2 hc2
              obtain ⟨e1', e2, e3, e4, e5, e6⟩ := hc2
              have he4 := (e4 i hi).1
              unfold ldn at he4
              rw [if_pos rfl, hlf, Nat.add_sub_cancel] at he4
              (repeat (first | refine gx_run 999 80 rfl ?_ | refine gx_goto rfl rfl ?_))
              refine gx_ld i rfl (by omega) he4 rfl rfl rfl ?_
              (repeat (first | refine gx_run 999 80 rfl ?_ | refine gx_goto rfl rfl ?_))
              rw [nI_1]
              refine gx_st i rfl (by omega) rfl rfl rfl ?_
              (repeat (first | refine gx_run 999 80 rfl ?_ | refine gx_goto rfl rfl ?_))
              refine gw_goto rfl ?_
              rw [nI_1]
              refine gx_drop [_, _, _, _] [_] (by rfl) (hk _ ?_)
              refine ⟨fun o a1 a2 a3 a4 => by rw [gu_o a2]; exact e1' o a1 a2 a3 a4, fun k hk => by rw [gu_k (Or.inl (by decide))]; exact e2 k hk, by rw [gu_k (Or.inl (by decide))]; exact e3, fun h hh => ⟨?_, (b4 h hh).2⟩, fun j hj => ?_, fun hn j hj => by rw [gu_k (Or.inl (by decide))]; exact e6 hn j hj⟩
              · by_cases e : h = i
                · rw [e, gu_s, hlf]
                · rw [gu_k (Or.inr e)]
                  have := (e4 h hh).1
                  unfold ldn at this
                  rw [if_neg e] at this
                  exact this
              · rw [gu_k (Or.inl (by decide)), e5 j (by omega), show g + 1 - 1 - j = (g - 1 - j) + 1 by omega, dgt_s (by omega)]
          · rw [if_neg (fun z => q2 z.2)] at hk
            first | refine gx_ift rfl (nI_le (b := 0) (by omega) (by omega)) ?_ | refine gx_ict rfl (nI_le (b := 0) (by omega) (by omega)) ?_
            (repeat (first | refine gx_run 999 80 rfl ?_ | refine gx_goto rfl rfl ?_))
            refine gw_goto rfl ?_
            rw [nI_1]
            exact gx_drop [_, _, _, _] [_] (by rfl) (hk _ hc1)
        · rw [show pgi D A g i = -1 from if_neg q1]
          rw [if_neg (fun z => q1 ⟨z.1, by omega⟩)] at hk
          first | refine gx_ift rfl (by dsimp only [gn_cmp] <;> decide) ?_ | refine gx_ict rfl (by dsimp only [gn_cmp] <;> decide) ?_
          (repeat (first | refine gx_run 999 80 rfl ?_ | refine gx_goto rfl rfl ?_))
          refine gw_goto rfl ?_
          rw [nI_1]
          exact gx_drop [_, _, _, _] [_] (by rfl) (hk _ hc1)
      · intro σ1 hc1
        have hS1 := hSl (dH D) (Nat.le_refl _)
        rw [ev] at hQ
        generalize gf step (dH D) S = S1 at *
        obtain ⟨b1, b2, b3, b4, b5, b6⟩ := id hc1
        (repeat (first | refine gx_run 999 80 rfl ?_ | refine gx_goto rfl rfl ?_))
        rw [show σ1 13 6 = nI (dH D) by rw [b2 6 (by omega)]; exact h6]
        first | refine gx_ift rfl (nI_le (Nat.le_refl _) (by omega)) ?_ | refine gx_ict rfl (nI_le (Nat.le_refl _) (by omega)) ?_
        (repeat (first | refine gx_run 999 80 rfl ?_ | refine gx_goto rfl rfl ?_))
        refine gx_st g rfl (by omega) rfl rfl rfl ?_
        (repeat (first | refine gx_run 999 80 rfl ?_ | refine gx_goto rfl rfl ?_))
        rw [nI_1]
        refine gx_call rfl rfl rfl ?_
        refine ih d (5 * c + 4) left sum S1 _ _ (by omega) (by omega) (by omega) hS1 ?_ ?_
        · refine ⟨fun o a1 a2 a3 a4 => by rw [gu_o a3]; exact b1 o a1 a2 a3 a4, fun k hk => by rw [gu_k (Or.inl (by decide))]; exact b2 k hk, by rw [gu_k (Or.inl (by decide))]; exact b3, fun h hh => by rw [gu_k (Or.inl (by decide))]; exact b4 h hh, fun j hj => ?_, fun hn j hj => by rw [gu_k (Or.inl (by decide))]; exact b6 hn j hj⟩
          by_cases e : j = g
          · rw [e, gu_s, show g + 1 - 1 - g = 0 by omega, dgt_0 (by omega)]
            rfl
          · rw [gu_k (Or.inr e), b5 j (by omega), show g + 1 - 1 - j = (g - 1 - j) + 1 by omega, dgt_s (by omega)]
        · intro σ2 hc2
          obtain ⟨e1', e2, e3, e4, e5, e6⟩ := hc2
          (repeat (first | refine gx_run 999 80 rfl ?_ | refine gx_goto rfl rfl ?_))
          refine gw_vret rfl ?_
          refine hQ σ2 ⟨e1', e2, e3, e4, fun j hj => ?_, e6⟩
          rw [e5 j (by omega), show g + 1 - 1 - j = (g - 1 - j) + 1 by omega, dgt_s (by omega)]
    · first | refine gx_iff rfl (e1_nlt (by omega) (by omega)) ?_ | refine gx_icf rfl (e1_nlt (by omega) (by omega)) ?_
      refine gw_vret rfl ?_
      refine hQ σ ?_
      rw [vis_cut _ _ _ _ _ (fun h hh => (c4 h hh).2) (by omega)]
      exact hc
end
