/-! hour, drift -/
/-- hours one after the other: the night and THE SEED, how many can be undone, the ring's next place, what can be undone -/
def hS (st : gA × Nat → gA × Nat) : Nat → (gA × Nat) × Nat × Nat × (Nat → gA) → (gA × Nat) × Nat × Nat × (Nat → gA)
  | 0, y => y
  | i + 1, y => (st (hS st i y).1, min 30 ((hS st i y).2.1 + 1), ((hS st i y).2.2.1 + 1) % 30, bP (hS st i y).2.1 (hS st i y).1.1 (hS st i y).2.2.2)
def stH (D : gD) (y : gA × Nat) : gA × Nat := (aHour D y.1, y.2)
def stD (D : gD) (y : gA × Nat) : gA × Nat := (aHour D (dDeed D y).1, (dDeed D y).2)
theorem hS_ok {D : gD} {st : gA × Nat → gA × Nat} (hst : st = stH D ∨ st = stD D) (hW : gW D) {A : gA} {s c nx : Nat} {B : Nat → gA} (hA : wA2 D A) (hs : s < 2 ^ 31) (hc : c ≤ 30) (hB : ∀ i, i < c → wA2 D (B i)) : ∀ n, A 26 + n ≤ 90020 → wA2 D (hS st n ((A, s), c, nx, B)).1.1 ∧ (hS st n ((A, s), c, nx, B)).1.2 < 2 ^ 31 ∧ (hS st n ((A, s), c, nx, B)).1.1 26 = A 26 + n ∧ (hS st n ((A, s), c, nx, B)).2.1 ≤ 30 ∧ ∀ i, i < (hS st n ((A, s), c, nx, B)).2.1 → wA2 D ((hS st n ((A, s), c, nx, B)).2.2.2 i) := by
  intro n
  induction n with
  | zero => intro _; exact ⟨hA, hs, rfl, hc, hB⟩
  | succ n ih =>
    intro hn
    obtain ⟨h1, h2, h3, h4, h5⟩ := ih (by omega)
    show wA2 D (st (hS st n ((A, s), c, nx, B)).1).1 ∧ (st (hS st n ((A, s), c, nx, B)).1).2 < 2 ^ 31 ∧ (st (hS st n ((A, s), c, nx, B)).1).1 26 = A 26 + (n + 1) ∧ min 30 ((hS st n ((A, s), c, nx, B)).2.1 + 1) ≤ 30 ∧ ∀ i, i < min 30 ((hS st n ((A, s), c, nx, B)).2.1 + 1) → wA2 D (bP (hS st n ((A, s), c, nx, B)).2.1 (hS st n ((A, s), c, nx, B)).1.1 (hS st n ((A, s), c, nx, B)).2.2.2 i)
    generalize hS st n ((A, s), c, nx, B) = y at h1 h2 h3 h4 h5 ⊢
    refine ⟨?_, ?_, ?_, by omega, bP_w h4 h1 h5⟩
    · rcases hst with rfl | rfl
      · exact w_hour hW h1 (by omega)
      · exact w_hour hW (w_deed hW h1) (by rw [deed_hr hW]; omega)
    · rcases hst with rfl | rfl
      · exact h2
      · exact deed_sd h2
    · rcases hst with rfl | rfl
      · show aHour D y.1.1 26 = _
        rw [aHour_hr, h3]
        omega
      · show aHour D (dDeed D y.1).1 26 = _
        rw [aHour_hr, deed_hr hW, h3]
        omega
/-- the class's loop of hours: what holds at the i-th -/
def xH (σ : gn_Mem) (st : gA × Nat → gA × Nat) (y : (gA × Nat) × Nat × Nat × (Nat → gA)) (i : Nat) (σ1 : gn_Mem) : Prop := (∀ o, o ≠ 4 → o ≠ 5 → o ≠ 6 → o ≠ 11 → σ1 o = σ o) ∧ xR (σ1 4) (hS st i y).1.1 ∧ σ1 11 0 = nI (hS st i y).1.2 ∧ xP σ1 (hS st i y).2.1 (hS st i y).2.2.1 (hS st i y).2.2.2
def mH (σ : gn_Mem) (st : gA × Nat → gA × Nat) (y : (gA × Nat) × Nat × Nat × (Nat → gA)) (i : Nat) (σ1 : gn_Mem) : Prop := (∀ o, o ≠ 44 → o ≠ 45 → σ1 o = σ o) ∧ (∀ k, k ≠ 10 → σ1 44 k = σ 44 k) ∧ (∀ k, 29 ≤ k → k < 87 → σ1 45 k = σ 45 k) ∧ mR (σ1 45) (hS st i y).1.1 ∧ σ1 45 28 = nI (hS st i y).1.2 ∧ mP σ1 (hS st i y).2.1 (hS st i y).2.2.2
section
variable {d : Nat} {σ : gn_Mem} {Q : Option Value → gn_Mem → Prop} {D : gD} {A : gA}
theorem xw_refH (hd : gn_dyn (σ 0 11) = 28) (hT : gT 28 σ D) (hX : xR (σ 4) A) (hA : A 26 ≤ 90020) {n : Int32} (hQ : Q (some (.int (if ¬ n < 1 ∧ ¬ 20 < n then (if dE D = 0 then -1000000003 else if 90000 < A 26 then -1000000004 else 0) else -1000000002))) σ) : gn_W (d + 1) 129 0 [.ref 0, .int n] [] σ Q := by
  (repeat (first | refine gx_run 999 80 rfl ?_ | refine gx_goto rfl rfl ?_))
  by_cases h1 : n < 1
  · first | refine gx_ift rfl (h1) ?_ | refine gx_ict rfl (h1) ?_
    (repeat (first | refine gx_run 999 80 rfl ?_ | refine gx_goto rfl rfl ?_))
    refine gx_iret rfl rfl ?_
    rw [if_neg (fun q => q.1 h1)] at hQ
    exact hQ
  · first | refine gx_iff rfl (h1) ?_ | refine gx_icf rfl (h1) ?_
    (repeat (first | refine gx_run 999 80 rfl ?_ | refine gx_goto rfl rfl ?_))
    by_cases h2 : 20 < n
    · first | refine gx_iff rfl (fun q => absurd h2 (Int32.not_lt.mpr q)) ?_ | refine gx_icf rfl (fun q => absurd h2 (Int32.not_lt.mpr q)) ?_
      (repeat (first | refine gx_run 999 80 rfl ?_ | refine gx_goto rfl rfl ?_))
      refine gx_iret rfl rfl ?_
      rw [if_neg (fun q => q.2 h2)] at hQ
      exact hQ
    · first | refine gx_ift rfl (Int32.not_lt.mp h2) ?_ | refine gx_ict rfl (Int32.not_lt.mp h2) ?_
      rw [if_pos ⟨h1, h2⟩] at hQ
      (repeat (refine gw_stp rfl ?_))
      rw [hd]
      (repeat (first | refine gx_run 999 80 rfl ?_ | refine gx_goto rfl rfl ?_))
      rw [hT.2.1]
      rcases dE01 hT.1 with h0 | h0
      · rw [h0]
        rw [if_pos h0] at hQ
        first | refine gx_iff rfl (by dsimp only [gn_cmp] <;> decide) ?_ | refine gx_icf rfl (by dsimp only [gn_cmp] <;> decide) ?_
        (repeat (first | refine gx_run 999 80 rfl ?_ | refine gx_goto rfl rfl ?_))
        refine gx_iret rfl rfl ?_
        exact hQ
      · rw [h0]
        rw [if_neg (by omega)] at hQ
        first | refine gx_ift rfl (by dsimp only [gn_cmp] <;> decide) ?_ | refine gx_ict rfl (by dsimp only [gn_cmp] <;> decide) ?_
        (repeat (first | refine gx_run 999 80 rfl ?_ | refine gx_goto rfl rfl ?_))
        refine gx_call rfl rfl rfl ?_
        refine xw_hours hX ?_
        (repeat (first | refine gx_run 999 80 rfl ?_ | refine gx_goto rfl rfl ?_))
        by_cases h3 : 90000 < A 26
        · rw [if_pos h3] at hQ
          first | refine gx_iff rfl (nI_ge (a := 90000) h3 (by omega)) ?_ | refine gx_icf rfl (nI_ge (a := 90000) h3 (by omega)) ?_
          (repeat (first | refine gx_run 999 80 rfl ?_ | refine gx_goto rfl rfl ?_))
          refine gx_iret rfl rfl ?_
          exact hQ
        · rw [if_neg h3] at hQ
          first | refine gx_ift rfl (nI_le (b := 90000) (by omega) (by omega)) ?_ | refine gx_ict rfl (nI_le (b := 90000) (by omega) (by omega)) ?_
          (repeat (first | refine gx_run 999 80 rfl ?_ | refine gx_goto rfl rfl ?_))
          refine gx_iret rfl rfl ?_
          exact hQ
theorem mw_whyNot (hM : gM σ D) (hX : mR (σ 45) A) (hA : A 26 ≤ 90020) {n : Int32} (hQ : Q (some (.int (if ¬ n < 1 ∧ ¬ 20 < n then (if dE D = 0 then -1000000003 else if 90000 < A 26 then -1000000004 else 1) else -1000000002))) σ) : gn_W (d + 1) 174 0 [.ref 44, .int n] [] σ Q := by
  (repeat (first | refine gx_run 999 80 rfl ?_ | refine gx_goto rfl rfl ?_))
  refine gw_calls rfl rfl rfl ?_
  refine mw_in ?_
  by_cases h1 : ¬ n < 1 ∧ ¬ 20 < n
  · rw [gb_t h1]
    rw [if_pos h1] at hQ
    (repeat (first | refine gx_run 999 80 rfl ?_ | refine gx_goto rfl rfl ?_))
    first | refine gx_ift rfl (by dsimp only [gn_cmp] <;> decide) ?_ | refine gx_ict rfl (by dsimp only [gn_cmp] <;> decide) ?_
    (repeat (first | refine gx_run 999 80 rfl ?_ | refine gx_goto rfl rfl ?_))
    rw [hM.2.1]
    rcases dE01 hM.1 with h0 | h0
    · rw [h0]
      rw [if_pos h0] at hQ
      first | refine gx_iff rfl (by dsimp only [gn_cmp] <;> decide) ?_ | refine gx_icf rfl (by dsimp only [gn_cmp] <;> decide) ?_
      (repeat (first | refine gx_run 999 80 rfl ?_ | refine gx_goto rfl rfl ?_))
      refine gx_iret rfl rfl ?_
      exact hQ
    · rw [h0]
      rw [if_neg (by omega)] at hQ
      first | refine gx_ift rfl (by dsimp only [gn_cmp] <;> decide) ?_ | refine gx_ict rfl (by dsimp only [gn_cmp] <;> decide) ?_
      (repeat (first | refine gx_run 999 80 rfl ?_ | refine gx_goto rfl rfl ?_))
      refine gx_ld 26 rfl (by omega) hX.hr rfl rfl rfl ?_
      (repeat (first | refine gx_run 999 80 rfl ?_ | refine gx_goto rfl rfl ?_))
      by_cases h3 : 90000 < A 26
      · rw [if_pos h3] at hQ
        first | refine gx_iff rfl (nI_ge (a := 90000) h3 (by omega)) ?_ | refine gx_icf rfl (nI_ge (a := 90000) h3 (by omega)) ?_
        (repeat (first | refine gx_run 999 80 rfl ?_ | refine gx_goto rfl rfl ?_))
        refine gx_iret rfl rfl ?_
        exact hQ
      · rw [if_neg h3] at hQ
        first | refine gx_ift rfl (nI_le (b := 90000) (by omega) (by omega)) ?_ | refine gx_ict rfl (nI_le (b := 90000) (by omega) (by omega)) ?_
        (repeat (first | refine gx_run 999 80 rfl ?_ | refine gx_goto rfl rfl ?_))
        refine gx_iret rfl rfl ?_
        exact hQ
  · rw [gb_f h1]
    rw [if_neg h1] at hQ
    (repeat (first | refine gx_run 999 80 rfl ?_ | refine gx_goto rfl rfl ?_))
    first | refine gx_iff rfl (by dsimp only [gn_cmp] <;> decide) ?_ | refine gx_icf rfl (by dsimp only [gn_cmp] <;> decide) ?_
    (repeat (first | refine gx_run 999 80 rfl ?_ | refine gx_goto rfl rfl ?_))
    refine gx_iret rfl rfl ?_
    exact hQ
end
theorem Inv.hours {σ σ1 σ2 : gn_Mem} {D : gD} {A : gA} {c nx : Nat} {B : Nat → gA} {z : Nat → Bool} {I : Nat → gA} {e : Nat} {T : Nat → Nat} {Z : Nat → Bool} {b : Nat} {G H : Nat → Nat} {n : Nat} {L : Nat → Nat} {st : gA × Nat → gA × Nat} {s m : Nat} (hst : st = stH D ∨ st = stD D) (hT : iT σ D) (hN : iN σ D A) (hP : iP σ D c nx B) (hII : iI σ D z I) (hE : iE σ e T Z) (hB : iB σ D b G H) (hX : iX σ n L) (hF : iF σ) (hs : s < 2 ^ 31) (hh : A 26 + m ≤ 90020) (x1 : xH σ st ((A, s), c, nx, B) m σ1) (m1 : mH σ1 st ((A, s), c, nx, B) m σ2) : Inv σ2 := by
  obtain ⟨f1, f2, f3, f4⟩ := x1
  obtain ⟨g1, g2, g3, g4, g5, g6⟩ := m1
  obtain ⟨o1, o2, o3, o4, o5⟩ := hS_ok hst hT.2.2.1.1 hN.2.2 hs hP.1 (fun i hi => (hP.2.2.2.2.2 i hi).1) (nx := nx) m hh
  refine Inv.deed hT hII hE hB hX hF (fun o a1 a2 a3 a4 a5 a6 => by rw [g1 o a5 a6, f1 o a1 a2 a3 a4]) (fun k hk => by rw [g2 k hk, f1 44 (by omega) (by omega) (by omega) (by omega)]) (fun k h1 h2 => by rw [g3 k h1 h2, f1 45 (by omega) (by omega) (by omega) (by omega)]) ⟨by rw [g1 4 (by omega) (by omega)]; exact f2, g4, o1⟩ ⟨by rw [g1 11 (by omega) (by omega), f3, g5], by rw [g1 11 (by omega) (by omega), f3]; exact nI_pos o2⟩ (iP.mk' (f4.fr (g1 5 (by omega) (by omega)) (g1 6 (by omega) (by omega))) g6 o5)
theorem p_hours {σ : gn_Mem} (hI : Inv σ) (n : Int32) (x m : Nat) (hxm : (x = 103 ∧ m = 175) ∨ (x = 105 ∧ m = 179)) : gPair x m [.int n] σ := by
  obtain ⟨D, A, c, nx, B, z, I, e, T, Z, b, G, H, nn, L, hT, hN, hS', hP, hII, hE, hB, hX, hF⟩ := id hI
  have hd := hT.1
  have hW := hT.2.2.1.1
  have hle := hW.1
  have hhe := hW.2.1
  have h26 := hN.2.2.2.2.2.2.2.2.2.1
  by_cases hok : (¬ n < 1 ∧ ¬ 20 < n) ∧ ¬ dE D = 0 ∧ ¬ 90000 < A 26
  · obtain ⟨h1, h2, h3⟩ := hok
    obtain ⟨j, hj, rfl⟩ := nI_of (x := n) (fun q => h1.1 (Int32.lt_trans q (by decide)))
    have hj20 : j ≤ 20 := by
      rcases Nat.lt_or_ge 20 j with q | q
      · exact absurd (nI_lt (a := 20) q hj) h1.2
      · exact q
    obtain ⟨s, hs, hse⟩ := nI_of hS'.2
    have hsm : σ 45 28 = nI s := by rw [← hS'.1]; exact hse
    have ex : (if ¬ nI j < 1 ∧ ¬ 20 < nI j then (if dE D = 0 then (-1000000003 : Int32) else if 90000 < A 26 then -1000000004 else 0) else -1000000002) = 0 := by rw [if_pos h1, if_neg h2, if_neg h3]
    have em : (if ¬ nI j < 1 ∧ ¬ 20 < nI j then (if dE D = 0 then (-1000000003 : Int32) else if 90000 < A 26 then -1000000004 else 1) else -1000000002) = 1 := by rw [if_pos h1, if_neg h2, if_neg h3]
    have hok' : ∀ {st : gA × Nat → gA × Nat}, st = stH D ∨ st = stD D → ∀ i, i ≤ j → wA2 D (hS st i ((A, s), c, nx, B)).1.1 ∧ (hS st i ((A, s), c, nx, B)).1.2 < 2 ^ 31 ∧ (hS st i ((A, s), c, nx, B)).1.1 26 = A 26 + i := fun hst i hi => by
      have h := hS_ok hst hW hN.2.2 hs hP.1 (fun i hi => (hP.2.2.2.2.2 i hi).1) (nx := nx) i (by omega)
      exact ⟨h.1, h.2.1, h.2.2.1⟩
    rcases hxm with ⟨rfl, rfl⟩ | ⟨rfl, rfl⟩
    · unfold gPair
      (repeat (first | refine gx_run 999 80 rfl ?_ | refine gx_goto rfl rfl ?_))
      refine gx_call rfl rfl rfl ?_
      refine xw_refH hd hT.2.2.1 hN.1 h26 ?_
      rw [ex]
      (repeat (first | refine gx_run 999 80 rfl ?_ | refine gx_goto rfl rfl ?_))
      first | refine gx_ift rfl (by dsimp only [gn_cmp] <;> decide) ?_ | refine gx_ict rfl (by dsimp only [gn_cmp] <;> decide) ?_
      (refine gw_run 14 80 rfl ?_)
      refine gw_forP j (xH σ (stH D) ((A, s), c, nx, B)) (fun i _ => [.ref 0, .int (nI j), .int 0, .int (nI i)]) (fun σ1 => σ1) σ ⟨fun _ _ _ _ _ => rfl, hN.1, hse, hP.x⟩ ?_ ?_
      · rintro i σ1 hi ⟨f1, f2, f3, f4⟩ hn
        have hw := hok' (Or.inl rfl) i (by omega)
        (repeat (first | refine gx_run 999 80 rfl ?_ | refine gx_goto rfl rfl ?_))
        first | refine gx_iff rfl (nI_ge hi (by omega)) ?_ | refine gx_icf rfl (nI_ge hi (by omega)) ?_
        (repeat (first | refine gx_run 999 80 rfl ?_ | refine gx_goto rfl rfl ?_))
        refine gx_call rfl rfl rfl ?_
        refine xw_remember f4 f2 ?_
        intro σ2 g1 g2
        have hd2 : gn_dyn (σ2 0 11) = 28 := by rw [g1 0 (by omega) (by omega), f1 0 (by omega) (by omega) (by omega) (by omega)]; exact hd
        (repeat (first | refine gx_run 999 80 rfl ?_ | refine gx_goto rfl rfl ?_))
        rw [hd2]
        refine gx_call rfl rfl rfl ?_
        refine xw_passHour (A := (hS (stH D) i ((A, s), c, nx, B)).1.1) (D := D) (gT_fr hT.2.2.1 (fun o a b => by rw [g1 o (by omega) (by omega), f1 o (by omega) (by omega) (by omega) (by omega)])) (by rw [g1 4 (by omega) (by omega)]; exact f2) hw.1 ?_
        intro σ3 k1 k2
        (repeat (first | refine gx_run 999 80 rfl ?_ | refine gx_goto rfl rfl ?_))
        refine gw_goto rfl ?_
        rw [nI_1]
        exact hn σ3 ⟨fun o a1 a2 a3 a4 => by rw [k1 o a1, g1 o a2 a3, f1 o a1 a2 a3 a4], k2, by rw [k1 11 (by omega), g1 11 (by omega) (by omega)]; exact f3, g2.fr (k1 5 (by omega)) (k1 6 (by omega))⟩
      · rintro σ1 x1
        have hw := hok' (Or.inl rfl) j (by omega)
        (repeat (first | refine gx_run 999 80 rfl ?_ | refine gx_goto rfl rfl ?_))
        first | refine gx_ift rfl (nI_le (Nat.le_refl _) (by omega)) ?_ | refine gx_ict rfl (nI_le (Nat.le_refl _) (by omega)) ?_
        (repeat (first | refine gx_run 999 80 rfl ?_ | refine gx_goto rfl rfl ?_))
        refine gx_call rfl rfl rfl ?_
        refine xw_hours x1.2.1 ?_
        (repeat (first | refine gx_run 999 80 rfl ?_ | refine gx_goto rfl rfl ?_))
        refine gx_iret rfl rfl ?_
        rw [hw.2.2]
        have hM1 : gM σ1 D := gM_fr hT.2.2.2 (fun k _ => by rw [x1.1 44 (by omega) (by omega) (by omega) (by omega)]) (fun o a b => x1.1 o (by omega) (by omega) (by omega) (by omega))
        have w1 : σ1 45 = σ 45 := x1.1 45 (by omega) (by omega) (by omega) (by omega)
        have hR1 : mR (σ1 45) A := by rw [w1]; exact hN.2.1
        have hP1 : mP σ1 c B := hP.m.fr (by rw [x1.1 44 (by omega) (by omega) (by omega) (by omega)]) (fun k _ => by rw [w1])
        (repeat (first | refine gx_run 999 80 rfl ?_ | refine gx_goto rfl rfl ?_))
        refine gx_call rfl rfl rfl ?_
        refine mw_whyNot hM1 hR1 h26 ?_
        rw [em]
        (repeat (first | refine gx_run 999 80 rfl ?_ | refine gx_goto rfl rfl ?_))
        first | refine gx_ift rfl (by dsimp only [gn_cmp] <;> decide) ?_ | refine gx_ict rfl (by dsimp only [gn_cmp] <;> decide) ?_
        (refine gw_run 16 80 rfl ?_)
        refine gw_forP j (mH σ1 (stH D) ((A, s), c, nx, B)) (fun i _ => [.ref 44, .int (nI j), .int (nI i)]) (fun σ1 => σ1) σ1 ⟨fun _ _ _ => rfl, fun _ _ => rfl, fun _ _ _ => rfl, hR1, by rw [w1]; exact hsm, hP1⟩ ?_ ?_
        · rintro i σ2 hi ⟨g1, g2, g3, g4, g5, g6⟩ hn
          have hw2 := hok' (Or.inl rfl) i (by omega)
          (repeat (first | refine gx_run 999 80 rfl ?_ | refine gx_goto rfl rfl ?_))
          first | refine gx_iff rfl (nI_ge hi (by omega)) ?_ | refine gx_icf rfl (nI_ge hi (by omega)) ?_
          (repeat (first | refine gx_run 999 80 rfl ?_ | refine gx_goto rfl rfl ?_))
          refine gx_call rfl rfl rfl ?_
          refine mw_remember g6 g4 ?_
          intro σ3 k1 k2 k3 k4
          (repeat (first | refine gx_run 999 80 rfl ?_ | refine gx_goto rfl rfl ?_))
          refine gx_call rfl rfl rfl ?_
          refine mw_goOn (A := (hS (stH D) i ((A, s), c, nx, B)).1.1) (D := D) (gM_rem (gM_rem hM1 g1 g2) k1 k2) (g4.fr (fun k hk => k3 k (by omega))) hw2.1 ?_
          intro σ4 l1 l2 l3
          (repeat (first | refine gx_run 999 80 rfl ?_ | refine gx_goto rfl rfl ?_))
          refine gw_goto rfl ?_
          rw [nI_1]
          exact hn σ4 ⟨fun o a1 a2 => by rw [l1 o a2, k1 o a1 a2, g1 o a1 a2], fun k hk => by rw [l1 44 (by omega), k2 k hk, g2 k hk], fun k h1 h2 => by rw [l2 k (by omega), k3 k h2, g3 k h1 h2], l3, by rw [l2 28 (by omega), k3 28 (by omega)]; exact g5, k4.fr (by rw [l1 44 (by omega)]) (fun k hk => l2 k (by omega))⟩
        · rintro σ2 m1
          (repeat (first | refine gx_run 999 80 rfl ?_ | refine gx_goto rfl rfl ?_))
          first | refine gx_ift rfl (nI_le (Nat.le_refl _) (by omega)) ?_ | refine gx_ict rfl (nI_le (Nat.le_refl _) (by omega)) ?_
          (repeat (first | refine gx_run 999 80 rfl ?_ | refine gx_goto rfl rfl ?_))
          refine gx_ld 26 rfl (by omega) m1.2.2.2.1.hr rfl rfl rfl ?_
          refine gx_iret rfl rfl ?_
          rw [hw.2.2]
          exact ⟨⟨_, rfl, rfl⟩, Inv.hours (Or.inl rfl) hT hN hP hII hE hB hX hF hs (by omega) x1 m1⟩
    · unfold gPair
      (repeat (first | refine gx_run 999 80 rfl ?_ | refine gx_goto rfl rfl ?_))
      refine gx_call rfl rfl rfl ?_
      refine xw_refH hd hT.2.2.1 hN.1 h26 ?_
      rw [ex]
      (repeat (first | refine gx_run 999 80 rfl ?_ | refine gx_goto rfl rfl ?_))
      first | refine gx_ift rfl (by dsimp only [gn_cmp] <;> decide) ?_ | refine gx_ict rfl (by dsimp only [gn_cmp] <;> decide) ?_
      (refine gw_run 14 80 rfl ?_)
      refine gw_forP j (xH σ (stD D) ((A, s), c, nx, B)) (fun i _ => [.ref 0, .int (nI j), .int 0, .int (nI i)]) (fun σ1 => σ1) σ ⟨fun _ _ _ _ _ => rfl, hN.1, hse, hP.x⟩ ?_ ?_
      · rintro i σ1 hi ⟨f1, f2, f3, f4⟩ hn
        have hw := hok' (Or.inr rfl) i (by omega)
        (repeat (first | refine gx_run 999 80 rfl ?_ | refine gx_goto rfl rfl ?_))
        first | refine gx_iff rfl (nI_ge hi (by omega)) ?_ | refine gx_icf rfl (nI_ge hi (by omega)) ?_
        (repeat (first | refine gx_run 999 80 rfl ?_ | refine gx_goto rfl rfl ?_))
        refine gx_call rfl rfl rfl ?_
        refine xw_remember f4 f2 ?_
        intro σ2 g1 g2
        have hd2 : gn_dyn (σ2 0 11) = 28 := by rw [g1 0 (by omega) (by omega), f1 0 (by omega) (by omega) (by omega) (by omega)]; exact hd
        have hT2 : gT 28 σ2 D := gT_fr hT.2.2.1 (fun o a b => by rw [g1 o (by omega) (by omega), f1 o (by omega) (by omega) (by omega) (by omega)])
        (repeat (first | refine gx_run 999 80 rfl ?_ | refine gx_goto rfl rfl ?_))
        rw [hd2]
        refine gx_call rfl rfl rfl ?_
        refine xw_deed (A := (hS (stD D) i ((A, s), c, nx, B)).1.1) (s := (hS (stD D) i ((A, s), c, nx, B)).1.2) (D := D) hT2 (by rw [g1 4 (by omega) (by omega)]; exact f2) hw.1 hw.2.1 (by rw [g1 11 (by omega) (by omega)]; exact f3) ?_
        intro σ3 k1 k2 k3
        have hd3 : gn_dyn (σ3 0 11) = 28 := by rw [k1 0 (by omega) (by omega)]; exact hd2
        (repeat (first | refine gx_run 999 80 rfl ?_ | refine gx_goto rfl rfl ?_))
        rw [hd3]
        refine gx_call rfl rfl rfl ?_
        refine xw_passHour (D := D) (gT_fr hT2 (fun o a b => k1 o (by omega) (by omega))) k2 (w_deed hW hw.1) ?_
        intro σ4 l1 l2
        (repeat (first | refine gx_run 999 80 rfl ?_ | refine gx_goto rfl rfl ?_))
        refine gw_goto rfl ?_
        rw [nI_1]
        exact hn σ4 ⟨fun o a1 a2 a3 a4 => by rw [l1 o a1, k1 o a1 a4, g1 o a2 a3, f1 o a1 a2 a3 a4], l2, by rw [l1 11 (by omega)]; exact k3, g2.fr (by rw [l1 5 (by omega), k1 5 (by omega) (by omega)]) (by rw [l1 6 (by omega), k1 6 (by omega) (by omega)])⟩
      · rintro σ1 x1
        have hw := hok' (Or.inr rfl) j (by omega)
        (repeat (first | refine gx_run 999 80 rfl ?_ | refine gx_goto rfl rfl ?_))
        first | refine gx_ift rfl (nI_le (Nat.le_refl _) (by omega)) ?_ | refine gx_ict rfl (nI_le (Nat.le_refl _) (by omega)) ?_
        (repeat (first | refine gx_run 999 80 rfl ?_ | refine gx_goto rfl rfl ?_))
        refine gx_call rfl rfl rfl ?_
        refine xw_hours x1.2.1 ?_
        (repeat (first | refine gx_run 999 80 rfl ?_ | refine gx_goto rfl rfl ?_))
        refine gx_iret rfl rfl ?_
        rw [hw.2.2]
        have hM1 : gM σ1 D := gM_fr hT.2.2.2 (fun k _ => by rw [x1.1 44 (by omega) (by omega) (by omega) (by omega)]) (fun o a b => x1.1 o (by omega) (by omega) (by omega) (by omega))
        have w1 : σ1 45 = σ 45 := x1.1 45 (by omega) (by omega) (by omega) (by omega)
        have hR1 : mR (σ1 45) A := by rw [w1]; exact hN.2.1
        have hP1 : mP σ1 c B := hP.m.fr (by rw [x1.1 44 (by omega) (by omega) (by omega) (by omega)]) (fun k _ => by rw [w1])
        (repeat (first | refine gx_run 999 80 rfl ?_ | refine gx_goto rfl rfl ?_))
        refine gx_call rfl rfl rfl ?_
        refine mw_whyNot hM1 hR1 h26 ?_
        rw [em]
        (repeat (first | refine gx_run 999 80 rfl ?_ | refine gx_goto rfl rfl ?_))
        first | refine gx_ift rfl (by dsimp only [gn_cmp] <;> decide) ?_ | refine gx_ict rfl (by dsimp only [gn_cmp] <;> decide) ?_
        (refine gw_run 16 80 rfl ?_)
        refine gw_forP j (mH σ1 (stD D) ((A, s), c, nx, B)) (fun i _ => [.ref 44, .int (nI j), .int (nI i)]) (fun σ1 => σ1) σ1 ⟨fun _ _ _ => rfl, fun _ _ => rfl, fun _ _ _ => rfl, hR1, by rw [w1]; exact hsm, hP1⟩ ?_ ?_
        · rintro i σ2 hi ⟨g1, g2, g3, g4, g5, g6⟩ hn
          have hw2 := hok' (Or.inr rfl) i (by omega)
          (repeat (first | refine gx_run 999 80 rfl ?_ | refine gx_goto rfl rfl ?_))
          first | refine gx_iff rfl (nI_ge hi (by omega)) ?_ | refine gx_icf rfl (nI_ge hi (by omega)) ?_
          (repeat (first | refine gx_run 999 80 rfl ?_ | refine gx_goto rfl rfl ?_))
          refine gx_call rfl rfl rfl ?_
          refine mw_remember g6 g4 ?_
          intro σ3 k1 k2 k3 k4
          have hM3 := gM_rem (gM_rem hM1 g1 g2) k1 k2
          have hR3 : mR (σ3 45) (hS (stD D) i ((A, s), c, nx, B)).1.1 := g4.fr (fun k hk => k3 k (by omega))
          have hs3 : σ3 45 28 = nI (hS (stD D) i ((A, s), c, nx, B)).1.2 := by rw [k3 28 (by omega)]; exact g5
          have tail : ∀ σ4 : gn_Mem, (∀ o, o ≠ 45 → σ4 o = σ3 o) → (∀ k, 29 ≤ k → σ4 45 k = σ3 45 k) → mR (σ4 45) (dDeed D (hS (stD D) i ((A, s), c, nx, B)).1).1 → σ4 45 28 = nI (dDeed D (hS (stD D) i ((A, s), c, nx, B)).1).2 → gn_W 20 179 43 [.ref 44, .int (nI j), .int (nI i)] [] σ4 (fun r2 σ2 => (∃ v : Int32, some (Value.int (nI (A 26 + j))) = some (.int v) ∧ r2 = some (.int v)) ∧ Inv σ2) := by
            intro σ4 l1 l2 l3 l4
            (repeat (first | refine gx_run 999 80 rfl ?_ | refine gx_goto rfl rfl ?_))
            refine gx_call rfl rfl rfl ?_
            refine mw_goOn (D := D) (gM_fr hM3 (fun k _ => by rw [l1 44 (by omega)]) (fun o a b => l1 o (by omega))) l3 (w_deed hW hw2.1) ?_
            intro σ5 q1 q2 q3
            (repeat (first | refine gx_run 999 80 rfl ?_ | refine gx_goto rfl rfl ?_))
            refine gw_goto rfl ?_
            rw [nI_1]
            exact hn σ5 ⟨fun o a1 a2 => by rw [q1 o a2, l1 o a2, k1 o a1 a2, g1 o a1 a2], fun k hk => by rw [q1 44 (by omega), l1 44 (by omega), k2 k hk, g2 k hk], fun k h1 h2 => by rw [q2 k (by omega), l2 k h1, k3 k h2, g3 k h1 h2], q3, by rw [q2 28 (by omega)]; exact l4, k4.fr (by rw [q1 44 (by omega), l1 44 (by omega)]) (fun k hk => by rw [q2 k (by omega), l2 k (by omega)])⟩
          (repeat (first | refine gx_run 999 80 rfl ?_ | refine gx_goto rfl rfl ?_))
          rw [hM3.2.2.2.1]
          by_cases hG : dG D = 0
          · first | refine gx_ift rfl (show nI (dG D) ≤ 0 by rw [hG]; decide) ?_ | refine gx_ict rfl (show nI (dG D) ≤ 0 by rw [hG]; decide) ?_
            have eD : dDeed D (hS (stD D) i ((A, s), c, nx, B)).1 = (hS (stD D) i ((A, s), c, nx, B)).1 := if_pos (Or.inl hG)
            exact tail σ3 (fun _ _ => rfl) (fun _ _ => rfl) (by rw [eD]; exact hR3) (by rw [eD]; exact hs3)
          · first | refine gx_iff rfl (nI_nle (by omega) (by omega)) ?_ | refine gx_icf rfl (nI_nle (by omega) (by omega)) ?_
            (repeat (first | refine gx_run 999 80 rfl ?_ | refine gx_goto rfl rfl ?_))
            rw [hM3.2.2.2.2.1]
            by_cases hH : dH D = 0
            · first | refine gx_ift rfl (show nI (dH D) ≤ 0 by rw [hH]; decide) ?_ | refine gx_ict rfl (show nI (dH D) ≤ 0 by rw [hH]; decide) ?_
              have eD : dDeed D (hS (stD D) i ((A, s), c, nx, B)).1 = (hS (stD D) i ((A, s), c, nx, B)).1 := if_pos (Or.inr hH)
              exact tail σ3 (fun _ _ => rfl) (fun _ _ => rfl) (by rw [eD]; exact hR3) (by rw [eD]; exact hs3)
            · first | refine gx_iff rfl (nI_nle (by omega) (by omega)) ?_ | refine gx_icf rfl (nI_nle (by omega) (by omega)) ?_
              (repeat (first | refine gx_run 999 80 rfl ?_ | refine gx_goto rfl rfl ?_))
              refine gx_call rfl rfl rfl ?_
              refine mw_draws (A := (hS (stD D) i ((A, s), c, nx, B)).1.1) (s := (hS (stD D) i ((A, s), c, nx, B)).1.2) hM3 hR3 hw2.1 hG hH hw2.2.1 hs3 ?_
              intro σ4 l1 l2 l3 l4
              exact tail σ4 l1 l2 l3 l4
        · rintro σ2 m1
          (repeat (first | refine gx_run 999 80 rfl ?_ | refine gx_goto rfl rfl ?_))
          first | refine gx_ift rfl (nI_le (Nat.le_refl _) (by omega)) ?_ | refine gx_ict rfl (nI_le (Nat.le_refl _) (by omega)) ?_
          (repeat (first | refine gx_run 999 80 rfl ?_ | refine gx_goto rfl rfl ?_))
          refine gx_ld 26 rfl (by omega) m1.2.2.2.1.hr rfl rfl rfl ?_
          refine gx_iret rfl rfl ?_
          rw [hw.2.2]
          exact ⟨⟨_, rfl, rfl⟩, Inv.hours (Or.inr rfl) hT hN hP hII hE hB hX hF hs (by omega) x1 m1⟩
  · obtain ⟨v, hv1, hv2, hv3, hv4⟩ : ∃ v : Int32, (if ¬ n < 1 ∧ ¬ 20 < n then (if dE D = 0 then (-1000000003 : Int32) else if 90000 < A 26 then -1000000004 else 0) else -1000000002) = v ∧ (if ¬ n < 1 ∧ ¬ 20 < n then (if dE D = 0 then (-1000000003 : Int32) else if 90000 < A 26 then -1000000004 else 1) else -1000000002) = v ∧ ¬ v = 0 ∧ ¬ 0 ≤ v := by
      by_cases h1 : ¬ n < 1 ∧ ¬ 20 < n
      · simp only [if_pos h1]
        by_cases h2 : dE D = 0
        · simp only [if_pos h2]
          exact ⟨_, rfl, rfl, by decide, by decide⟩
        · simp only [if_neg h2]
          have h3 : 90000 < A 26 := Classical.not_not.mp fun q => hok ⟨h1, h2, q⟩
          simp only [if_pos h3]
          exact ⟨_, rfl, rfl, by decide, by decide⟩
      · simp only [if_neg h1]
        exact ⟨_, rfl, rfl, by decide, by decide⟩
    rcases hxm with ⟨rfl, rfl⟩ | ⟨rfl, rfl⟩ <;>
    (refine gPair.q hI v (fun Q hQ => ?_) (fun Q hQ => ?_)
     · (repeat (first | refine gx_run 999 80 rfl ?_ | refine gx_goto rfl rfl ?_))
       refine gx_call rfl rfl rfl ?_
       refine xw_refH hd hT.2.2.1 hN.1 h26 ?_
       rw [hv1]
       (repeat (first | refine gx_run 999 80 rfl ?_ | refine gx_goto rfl rfl ?_))
       first | refine gx_iff rfl (hv3) ?_ | refine gx_icf rfl (hv3) ?_
       (repeat (first | refine gx_run 999 80 rfl ?_ | refine gx_goto rfl rfl ?_))
       refine gx_iret rfl rfl ?_
       exact hQ
     · (repeat (first | refine gx_run 999 80 rfl ?_ | refine gx_goto rfl rfl ?_))
       refine gx_call rfl rfl rfl ?_
       refine mw_whyNot hT.2.2.2 hN.2.1 h26 ?_
       rw [hv2]
       (repeat (first | refine gx_run 999 80 rfl ?_ | refine gx_goto rfl rfl ?_))
       first | refine gx_iff rfl (hv4) ?_ | refine gx_icf rfl (hv4) ?_
       (repeat (first | refine gx_run 999 80 rfl ?_ | refine gx_goto rfl rfl ?_))
       refine gx_call rfl rfl rfl ?_
       refine mw_whyNot hT.2.2.2 hN.2.1 h26 ?_
       rw [hv2]
       (repeat (first | refine gx_run 999 80 rfl ?_ | refine gx_goto rfl rfl ?_))
       refine gx_iret rfl rfl ?_
       exact hQ)
